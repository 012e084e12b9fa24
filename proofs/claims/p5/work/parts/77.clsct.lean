/-! ===== the contracts of the developers' side ===== -/
theorem zt_0 : zCT z_τ z_ty z_J zc_0 := zchk_ok z_T z_Js z_O (fun k hk => by cases hk) zk_0
theorem zt_1 : zCT z_τ z_ty z_J zc_1 := zchk_ok z_T z_Js z_O (fun k hk => by rw [List.mem_singleton.mp hk]; exact zt_0) zk_1
theorem zt_2 : zCT z_τ z_ty z_J zc_2 := zchk_ok z_T z_Js z_O (fun k hk => by cases hk) zk_2
theorem zt_3 : zCT z_τ z_ty z_J zc_3 := zchk_ok z_T z_Js z_O (fun k hk => by cases hk) zk_3
theorem zt_4 : zCT z_τ z_ty z_J zc_4 := zchk_ok z_T z_Js z_O (fun k hk => by cases hk) zk_4
theorem zt_5 : zCT z_τ z_ty z_J zc_5 := zchk_ok z_T z_Js z_O (fun k hk => by cases hk) zk_5
theorem zt_6 : zCT z_τ z_ty z_J zc_6 := zchk_ok z_T z_Js z_O (fun k hk => by
  simp only [List.mem_cons, List.not_mem_nil, or_false] at hk
  rcases hk with rfl | rfl
  · exact zt_4
  · exact zt_5) zk_6
theorem zt_7 : zCT z_τ z_ty z_J zc_7 := zchk_ok z_T z_Js z_O (fun k hk => by cases hk) zk_7
theorem zt_8 : zCT z_τ z_ty z_J zc_8 := zchk_ok z_T z_Js z_O (fun k hk => by cases hk) zk_8
theorem zt_9 : zCT z_τ z_ty z_J zc_9 := zchk_ok z_T z_Js z_O (fun k hk => by cases hk) zk_9
theorem zt_10 : zCT z_τ z_ty z_J zc_10 := zchk_ok z_T z_Js z_O (fun k hk => by cases hk) zk_10
theorem zt_11 : zCT z_τ z_ty z_J zc_11 := zchk_ok z_T z_Js z_O (fun k hk => by
  simp only [List.mem_cons, List.not_mem_nil, or_false] at hk
  rcases hk with rfl | rfl | rfl | rfl
  · exact zt_7
  · exact zt_8
  · exact zt_9
  · exact zt_10) zk_11
theorem zt_12 : zCT z_τ z_ty z_J zc_12 := zchk_ok z_T z_Js z_O (fun k hk => by cases hk) zk_12
theorem zt_13 : zCT z_τ z_ty z_J zc_13 := zchk_ok z_T z_Js z_O (fun k hk => by rw [List.mem_singleton.mp hk]; exact zt_12) zk_13
theorem zt_14 : zCT z_τ z_ty z_J zc_14 := zchk_ok z_T z_Js z_O (fun k hk => by rw [List.mem_singleton.mp hk]; exact zt_4) zk_14
theorem zt_15 : zCT z_τ z_ty z_J zc_15 := zchk_ok z_T z_Js z_O (fun k hk => by rw [List.mem_singleton.mp hk]; exact zt_14) zk_15
theorem zt_16 : zCT z_τ z_ty z_J zc_16 := zchk_ok z_T z_Js z_O (fun k hk => by rw [List.mem_singleton.mp hk]; exact zt_15) zk_16
theorem zt_17 : zCT z_τ z_ty z_J zc_17 := zchk_ok z_T z_Js z_O (fun k hk => by rw [List.mem_singleton.mp hk]; exact zt_16) zk_17
theorem zt_18 : zCT z_τ z_ty z_J zc_18 := zchk_ok z_T z_Js z_O (fun k hk => by rw [List.mem_singleton.mp hk]; exact zt_15) zk_18
theorem zt_19 : zCT z_τ z_ty z_J zc_19 := zchk_ok z_T z_Js z_O (fun k hk => by rw [List.mem_singleton.mp hk]; exact zt_18) zk_19
theorem zt_20 : zCT z_τ z_ty z_J zc_20 := zchk_ok z_T z_Js z_O (fun k hk => by
  simp only [List.mem_cons, List.not_mem_nil, or_false] at hk
  rcases hk with rfl | rfl | rfl
  · exact zt_13
  · exact zt_17
  · exact zt_19) zk_20
theorem zt_21 : zCT z_τ z_ty z_J zc_21 := zchk_ok z_T z_Js z_O (fun k hk => by rw [List.mem_singleton.mp hk]; exact zt_20) zk_21
theorem zt_22 : zCT z_τ z_ty z_J zc_22 := zchk_ok z_T z_Js z_O (fun k hk => by rw [List.mem_singleton.mp hk]; exact zt_5) zk_22
theorem zt_23 : zCT z_τ z_ty z_J zc_23 := zchk_ok z_T z_Js z_O (fun k hk => by rw [List.mem_singleton.mp hk]; exact zt_22) zk_23
theorem zt_24 : zCT z_τ z_ty z_J zc_24 := zchk_ok z_T z_Js z_O (fun k hk => by cases hk) zk_24
theorem zt_25 : zCT z_τ z_ty z_J zc_25 := zchk_ok z_T z_Js z_O (fun k hk => by
  simp only [List.mem_cons, List.not_mem_nil, or_false] at hk
  rcases hk with rfl | rfl | rfl
  · exact zt_13
  · exact zt_23
  · exact zt_24) zk_25
theorem zt_26 : zCT z_τ z_ty z_J zc_26 := zchk_ok z_T z_Js z_O (fun k hk => by rw [List.mem_singleton.mp hk]; exact zt_25) zk_26
theorem zt_27 : zCT z_τ z_ty z_J zc_27 := zchk_ok z_T z_Js z_O (fun k hk => by cases hk) zk_27
theorem zt_28 : zCT z_τ z_ty z_J zc_28 := zchk_ok z_T z_Js z_O (fun k hk => by cases hk) zk_28
theorem zt_29 : zCT z_τ z_ty z_J zc_29 := zchk_ok z_T z_Js z_O (fun k hk => by
  simp only [List.mem_cons, List.not_mem_nil, or_false] at hk
  rcases hk with rfl | rfl | rfl
  · exact zt_13
  · exact zt_27
  · exact zt_28) zk_29
theorem zt_30 : zCT z_τ z_ty z_J zc_30 := zchk_ok z_T z_Js z_O (fun k hk => by rw [List.mem_singleton.mp hk]; exact zt_29) zk_30
theorem zt_31 : zCT z_τ z_ty z_J zc_31 := zchk_ok z_T z_Js z_O (fun k hk => by cases hk) zk_31
theorem zt_32 : zCT z_τ z_ty z_J zc_32 := zchk_ok z_T z_Js z_O (fun k hk => by rw [List.mem_singleton.mp hk]; exact zt_31) zk_32
theorem zt_33 : zCT z_τ z_ty z_J zc_33 := zchk_ok z_T z_Js z_O (fun k hk => by cases hk) zk_33
theorem zt_34 : zCT z_τ z_ty z_J zc_34 := zchk_ok z_T z_Js z_O (fun k hk => by rw [List.mem_singleton.mp hk]; exact zt_33) zk_34
theorem zt_35 : zCT z_τ z_ty z_J zc_35 := zchk_ok z_T z_Js z_O (fun k hk => by
  simp only [List.mem_cons, List.not_mem_nil, or_false] at hk
  rcases hk with rfl | rfl | rfl
  · exact zt_13
  · exact zt_32
  · exact zt_34) zk_35
theorem zt_36 : zCT z_τ z_ty z_J zc_36 := zchk_ok z_T z_Js z_O (fun k hk => by rw [List.mem_singleton.mp hk]; exact zt_35) zk_36
theorem zt_37 : zCT z_τ z_ty z_J zc_37 := zchk_ok z_T z_Js z_O (fun k hk => by cases hk) zk_37
theorem zt_38 : zCT z_τ z_ty z_J zc_38 := zchk_ok z_T z_Js z_O (fun k hk => by rw [List.mem_singleton.mp hk]; exact zt_37) zk_38
theorem zt_39 : zCT z_τ z_ty z_J zc_39 := zchk_ok z_T z_Js z_O (fun k hk => by cases hk) zk_39
theorem zt_40 : zCT z_τ z_ty z_J zc_40 := zchk_ok z_T z_Js z_O (fun k hk => by
  simp only [List.mem_cons, List.not_mem_nil, or_false] at hk
  rcases hk with rfl | rfl | rfl
  · exact zt_13
  · exact zt_38
  · exact zt_39) zk_40
theorem zt_41 : zCT z_τ z_ty z_J zc_41 := zchk_ok z_T z_Js z_O (fun k hk => by rw [List.mem_singleton.mp hk]; exact zt_40) zk_41
theorem zt_42 : zCT z_τ z_ty z_J zc_42 := zchk_ok z_T z_Js z_O (fun k hk => by cases hk) zk_42
theorem zt_43 : zCT z_τ z_ty z_J zc_43 := zchk_ok z_T z_Js z_O (fun k hk => by cases hk) zk_43
theorem zt_44 : zCT z_τ z_ty z_J zc_44 := zchk_ok z_T z_Js z_O (fun k hk => by rw [List.mem_singleton.mp hk]; exact zt_43) zk_44
theorem zt_45 : zCT z_τ z_ty z_J zc_45 := zchk_ok z_T z_Js z_O (fun k hk => by
  simp only [List.mem_cons, List.not_mem_nil, or_false] at hk
  rcases hk with rfl | rfl | rfl
  · exact zt_13
  · exact zt_42
  · exact zt_44) zk_45
theorem zt_46 : zCT z_τ z_ty z_J zc_46 := zchk_ok z_T z_Js z_O (fun k hk => by rw [List.mem_singleton.mp hk]; exact zt_12) zk_46
theorem zt_47 : zCT z_τ z_ty z_J zc_47 := zchk_ok z_T z_Js z_O (fun k hk => by rw [List.mem_singleton.mp hk]; exact zt_46) zk_47
theorem zt_48 : zCT z_τ z_ty z_J zc_48 := zchk_ok z_T z_Js z_O (fun k hk => by rw [List.mem_singleton.mp hk]; exact zt_15) zk_48
theorem zt_49 : zCT z_τ z_ty z_J zc_49 := zchk_ok z_T z_Js z_O (fun k hk => by cases hk) zk_49
theorem zt_50 : zCT z_τ z_ty z_J zc_50 := zchk_ok z_T z_Js z_O (fun k hk => by rw [List.mem_singleton.mp hk]; exact zt_49) zk_50
theorem zt_51 : zCT z_τ z_ty z_J zc_51 := zchk_ok z_T z_Js z_O (fun k hk => by
  simp only [List.mem_cons, List.not_mem_nil, or_false] at hk
  rcases hk with rfl | rfl
  · exact zt_14
  · exact zt_50) zk_51
theorem zt_52 : zCT z_τ z_ty z_J zc_52 := zchk_ok z_T z_Js z_O (fun k hk => by rw [List.mem_singleton.mp hk]; exact zt_51) zk_52
theorem zt_53 : zCT z_τ z_ty z_J zc_53 := zchk_ok z_T z_Js z_O (fun k hk => by cases hk) zk_53
theorem zt_54 : zCT z_τ z_ty z_J zc_54 := zchk_ok z_T z_Js z_O (fun k hk => by cases hk) zk_54
theorem zt_55 : zCT z_τ z_ty z_J zc_55 := zchk_ok z_T z_Js z_O (fun k hk => by rw [List.mem_singleton.mp hk]; exact zt_54) zk_55
theorem zt_56 : zCT z_τ z_ty z_J zc_56 := zchk_ok z_T z_Js z_O (fun k hk => by
  simp only [List.mem_cons, List.not_mem_nil, or_false] at hk
  rcases hk with rfl | rfl
  · exact zt_54
  · exact zt_55) zk_56
theorem zt_57 : zCT z_τ z_ty z_J zc_57 := zchk_ok z_T z_Js z_O (fun k hk => by
  simp only [List.mem_cons, List.not_mem_nil, or_false] at hk
  rcases hk with rfl | rfl
  · exact zt_54
  · exact zt_56) zk_57
theorem zt_58 : zCT z_τ z_ty z_J zc_58 := zchk_ok z_T z_Js z_O (fun k hk => by
  simp only [List.mem_cons, List.not_mem_nil, or_false] at hk
  rcases hk with rfl | rfl
  · exact zt_54
  · exact zt_57) zk_58
theorem zt_59 : zCT z_τ z_ty z_J zc_59 := zchk_ok z_T z_Js z_O (fun k hk => by
  simp only [List.mem_cons, List.not_mem_nil, or_false] at hk
  rcases hk with rfl | rfl
  · exact zt_54
  · exact zt_58) zk_59
theorem zt_60 : zCT z_τ z_ty z_J zc_60 := zchk_ok z_T z_Js z_O (fun k hk => by
  simp only [List.mem_cons, List.not_mem_nil, or_false] at hk
  rcases hk with rfl | rfl
  · exact zt_54
  · exact zt_59) zk_60
theorem zt_61 : zCT z_τ z_ty z_J zc_61 := zchk_ok z_T z_Js z_O (fun k hk => by
  simp only [List.mem_cons, List.not_mem_nil, or_false] at hk
  rcases hk with rfl | rfl
  · exact zt_54
  · exact zt_60) zk_61
theorem zt_62 : zCT z_τ z_ty z_J zc_62 := zchk_ok z_T z_Js z_O (fun k hk => by
  simp only [List.mem_cons, List.not_mem_nil, or_false] at hk
  rcases hk with rfl | rfl
  · exact zt_54
  · exact zt_61) zk_62
theorem zt_63 : zCT z_τ z_ty z_J zc_63 := zchk_ok z_T z_Js z_O (fun k hk => by cases hk) zk_63
theorem zt_64 : zCT z_τ z_ty z_J zc_64 := zchk_ok z_T z_Js z_O (fun k hk => by cases hk) zk_64
theorem zt_65 : zCT z_τ z_ty z_J zc_65 := zchk_ok z_T z_Js z_O (fun k hk => by
  simp only [List.mem_cons, List.not_mem_nil, or_false] at hk
  rcases hk with rfl | rfl | rfl | rfl
  · exact zt_14
  · exact zt_62
  · exact zt_63
  · exact zt_64) zk_65
theorem zt_66 : zCT z_τ z_ty z_J zc_66 := zchk_ok z_T z_Js z_O (fun k hk => by rw [List.mem_singleton.mp hk]; exact zt_65) zk_66
theorem zt_67 : zCT z_τ z_ty z_J zc_67 := zchk_ok z_T z_Js z_O (fun k hk => by cases hk) zk_67
theorem zt_68 : zCT z_τ z_ty z_J zc_68 := zchk_ok z_T z_Js z_O (fun k hk => by cases hk) zk_68
theorem zt_69 : zCT z_τ z_ty z_J zc_69 := zchk_ok z_T z_Js z_O (fun k hk => by rw [List.mem_singleton.mp hk]; exact zt_15) zk_69
theorem zt_70 : zCT z_τ z_ty z_J zc_70 := zchk_ok z_T z_Js z_O (fun k hk => by rw [List.mem_singleton.mp hk]; exact zt_69) zk_70
theorem zt_71 : zCT z_τ z_ty z_J zc_71 := zchk_ok z_T z_Js z_O (fun k hk => by cases hk) zk_71
theorem zt_72 : zCT z_τ z_ty z_J zc_72 := zchk_ok z_T z_Js z_O (fun k hk => by
  simp only [List.mem_cons, List.not_mem_nil, or_false] at hk
  rcases hk with rfl | rfl | rfl
  · exact zt_69
  · exact zt_70
  · exact zt_71) zk_72
theorem zt_73 : zCT z_τ z_ty z_J zc_73 := zchk_ok z_T z_Js z_O (fun k hk => by rw [List.mem_singleton.mp hk]; exact zt_72) zk_73
theorem zt_74 : zCT z_τ z_ty z_J zc_74 := zchk_ok z_T z_Js z_O (fun k hk => by cases hk) zk_74
theorem zt_75 : zCT z_τ z_ty z_J zc_75 := zchk_ok z_T z_Js z_O (fun k hk => by cases hk) zk_75
theorem zt_76 : zCT z_τ z_ty z_J zc_76 := zchk_ok z_T z_Js z_O (fun k hk => by cases hk) zk_76
theorem zt_77 : zCT z_τ z_ty z_J zc_77 := zchk_ok z_T z_Js z_O (fun k hk => by cases hk) zk_77
theorem zt_78 : zCT z_τ z_ty z_J zc_78 := zchk_ok z_T z_Js z_O (fun k hk => by rw [List.mem_singleton.mp hk]; exact zt_77) zk_78
theorem zt_79 : zCT z_τ z_ty z_J zc_79 := zchk_ok z_T z_Js z_O (fun k hk => by cases hk) zk_79
theorem zt_80 : zCT z_τ z_ty z_J zc_80 := zchk_ok z_T z_Js z_O (fun k hk => by cases hk) zk_80
theorem zt_81 : zCT z_τ z_ty z_J zc_81 := zchk_ok z_T z_Js z_O (fun k hk => by cases hk) zk_81
theorem zt_82 : zCT z_τ z_ty z_J zc_82 := zchk_ok z_T z_Js z_O (fun k hk => by
  simp only [List.mem_cons, List.not_mem_nil, or_false] at hk
  rcases hk with rfl | rfl | rfl | rfl
  · exact zt_16
  · exact zt_18
  · exact zt_80
  · exact zt_81) zk_82
theorem zt_83 : zCT z_τ z_ty z_J zc_83 := zchk_ok z_T z_Js z_O (fun k hk => by cases hk) zk_83
theorem zt_84 : zCT z_τ z_ty z_J zc_84 := zchk_ok z_T z_Js z_O (fun k hk => by
  simp only [List.mem_cons, List.not_mem_nil, or_false] at hk
  rcases hk with rfl | rfl | rfl
  · exact zt_43
  · exact zt_82
  · exact zt_83) zk_84
theorem zt_85 : zCT z_τ z_ty z_J zc_85 := zchk_ok z_T z_Js z_O (fun k hk => by
  simp only [List.mem_cons, List.not_mem_nil, or_false] at hk
  rcases hk with rfl | rfl | rfl
  · exact zt_13
  · exact zt_42
  · exact zt_84) zk_85
theorem zt_86 : zCT z_τ z_ty z_J zc_86 := zchk_ok z_T z_Js z_O (fun k hk => by
  simp only [List.mem_cons, List.not_mem_nil, or_false] at hk
  rcases hk with rfl | rfl | rfl
  · exact zt_12
  · exact zt_42
  · exact zt_84) zk_86
theorem zt_87 : zCT z_τ z_ty z_J zc_87 := zchk_ok z_T z_Js z_O (fun k hk => by cases hk) zk_87
theorem zt_88 : zCT z_τ z_ty z_J zc_88 := zchk_ok z_T z_Js z_O (fun k hk => by cases hk) zk_88
theorem zt_89 : zCT z_τ z_ty z_J zc_89 := zchk_ok z_T z_Js z_O (fun k hk => by rw [List.mem_singleton.mp hk]; exact zt_88) zk_89
theorem zt_90 : zCT z_τ z_ty z_J zc_90 := zchk_ok z_T z_Js z_O (fun k hk => by cases hk) zk_90
theorem zt_91 : zCT z_τ z_ty z_J zc_91 := zchk_ok z_T z_Js z_O (fun k hk => by
  simp only [List.mem_cons, List.not_mem_nil, or_false] at hk
  rcases hk with rfl | rfl
  · exact zt_89
  · exact zt_90) zk_91
theorem zt_92 : zCT z_τ z_ty z_J zc_92 := zchk_ok z_T z_Js z_O (fun k hk => by rw [List.mem_singleton.mp hk]; exact zt_91) zk_92
theorem zt_93 : zCT z_τ z_ty z_J zc_93 := zchk_ok z_T z_Js z_O (fun k hk => by rw [List.mem_singleton.mp hk]; exact zt_92) zk_93
theorem zt_94 : zCT z_τ z_ty z_J zc_94 := zchk_ok z_T z_Js z_O (fun k hk => by cases hk) zk_94
theorem zt_95 : zCT z_τ z_ty z_J zc_95 := zchk_ok z_T z_Js z_O (fun k hk => by cases hk) zk_95
theorem zt_96 : zCT z_τ z_ty z_J zc_96 := zchk_ok z_T z_Js z_O (fun k hk => by
  simp only [List.mem_cons, List.not_mem_nil, or_false] at hk
  rcases hk with rfl | rfl | rfl
  · exact zt_12
  · exact zt_94
  · exact zt_95) zk_96
theorem zt_97 : zCT z_τ z_ty z_J zc_97 := zchk_ok z_T z_Js z_O (fun k hk => by cases hk) zk_97
theorem zt_98 : zCT z_τ z_ty z_J zc_98 := zchk_ok z_T z_Js z_O (fun k hk => by
  simp only [List.mem_cons, List.not_mem_nil, or_false] at hk
  rcases hk with rfl | rfl | rfl | rfl
  · exact zt_12
  · exact zt_94
  · exact zt_95
  · exact zt_97) zk_98
theorem zt_99 : zCT z_τ z_ty z_J zc_99 := zchk_ok z_T z_Js z_O (fun k hk => by cases hk) zk_99
theorem zt_100 : zCT z_τ z_ty z_J zc_100 := zchk_ok z_T z_Js z_O (fun k hk => by cases hk) zk_100
theorem zt_101 : zCT z_τ z_ty z_J zc_101 := zchk_ok z_T z_Js z_O (fun k hk => by cases hk) zk_101
theorem zt_102 : zCT z_τ z_ty z_J zc_102 := zchk_ok z_T z_Js z_O (fun k hk => by rw [List.mem_singleton.mp hk]; exact zt_101) zk_102
theorem zt_103 : zCT z_τ z_ty z_J zc_103 := zchk_ok z_T z_Js z_O (fun k hk => by cases hk) zk_103
theorem zt_104 : zCT z_τ z_ty z_J zc_104 := zchk_ok z_T z_Js z_O (fun k hk => by cases hk) zk_104
theorem zt_105 : zCT z_τ z_ty z_J zc_105 := zchk_ok z_T z_Js z_O (fun k hk => by cases hk) zk_105
theorem zt_106 : zCT z_τ z_ty z_J zc_106 := zchk_ok z_T z_Js z_O (fun k hk => by cases hk) zk_106
theorem zt_107 : zCT z_τ z_ty z_J zc_107 := h_addCT (4, (0, 5), (0, 0), (0, 0)) (by decide)
theorem zt_108 : zCT z_τ z_ty z_J zc_108 := zchk_ok z_T z_Js z_O (fun k hk => by cases hk) zk_108
theorem zt_109 : zCT z_τ z_ty z_J zc_109 := zchk_ok z_T z_Js z_O (fun k hk => by cases hk) zk_109
theorem zt_110 : zCT z_τ z_ty z_J zc_110 := zchk_ok z_T z_Js z_O (fun k hk => by cases hk) zk_110
theorem zt_111 : zCT z_τ z_ty z_J zc_111 := zchk_ok z_T z_Js z_O (fun k hk => by
  simp only [List.mem_cons, List.not_mem_nil, or_false] at hk
  rcases hk with rfl | rfl | rfl
  · exact zt_108
  · exact zt_109
  · exact zt_110) zk_111
theorem zt_112 : zCT z_τ z_ty z_J zc_112 := zchk_ok z_T z_Js z_O (fun k hk => by
  simp only [List.mem_cons, List.not_mem_nil, or_false] at hk
  rcases hk with rfl | rfl | rfl | rfl
  · exact zt_105
  · exact zt_107
  · exact zt_110
  · exact zt_111) zk_112
theorem zt_113 : zCT z_τ z_ty z_J zc_113 := h_addCT (5, (0, 60), (0, 0), (0, 0)) (by decide)
theorem zt_114 : zCT z_τ z_ty z_J zc_114 := zchk_ok z_T z_Js z_O (fun k hk => by
  simp only [List.mem_cons, List.not_mem_nil, or_false] at hk
  rcases hk with rfl | rfl
  · exact zt_105
  · exact zt_110) zk_114
theorem zt_115 : zCT z_τ z_ty z_J zc_115 := zchk_ok z_T z_Js z_O (fun k hk => by
  simp only [List.mem_cons, List.not_mem_nil, or_false] at hk
  rcases hk with rfl | rfl | rfl | rfl
  · exact zt_105
  · exact zt_110
  · exact zt_113
  · exact zt_114) zk_115
theorem zt_116 : zCT z_τ z_ty z_J zc_116 := h_addCT (2, (0, 6), (0, 0), (0, 0)) (by decide)
theorem zt_117 : zCT z_τ z_ty z_J zc_117 := zchk_ok z_T z_Js z_O (fun k hk => by
  simp only [List.mem_cons, List.not_mem_nil, or_false] at hk
  rcases hk with rfl | rfl
  · exact zt_105
  · exact zt_116) zk_117
theorem zt_118 : zCT z_τ z_ty z_J zc_118 := h_addCT (3, (0, 6), (0, 6), (0, 0)) (by decide)
theorem zt_119 : zCT z_τ z_ty z_J zc_119 := zchk_ok z_T z_Js z_O (fun k hk => by cases hk) zk_119
theorem zt_120 : zCT z_τ z_ty z_J zc_120 := zchk_ok z_T z_Js z_O (fun k hk => by
  simp only [List.mem_cons, List.not_mem_nil, or_false] at hk
  rcases hk with rfl | rfl | rfl
  · exact zt_109
  · exact zt_110
  · exact zt_119) zk_120
theorem zt_121 : zCT z_τ z_ty z_J zc_121 := zchk_ok z_T z_Js z_O (fun k hk => by
  simp only [List.mem_cons, List.not_mem_nil, or_false] at hk
  rcases hk with rfl | rfl | rfl
  · exact zt_105
  · exact zt_118
  · exact zt_120) zk_121
theorem zt_122 : zCT z_τ z_ty z_J zc_122 := h_addCT (0, (0, 6), (0, 6), (0, 2)) (by decide)
theorem zt_123 : zCT z_τ z_ty z_J zc_123 := zchk_ok z_T z_Js z_O (fun k hk => by cases hk) zk_123
theorem zt_124 : zCT z_τ z_ty z_J zc_124 := zchk_ok z_T z_Js z_O (fun k hk => by
  simp only [List.mem_cons, List.not_mem_nil, or_false] at hk
  rcases hk with rfl | rfl | rfl | rfl | rfl
  · exact zt_105
  · exact zt_110
  · exact zt_120
  · exact zt_122
  · exact zt_123) zk_124
theorem zt_125 : zCT z_τ z_ty z_J zc_125 := h_addCT (1, (0, 6), (0, 5), (0, 0)) (by decide)
theorem zt_126 : zCT z_τ z_ty z_J zc_126 := zchk_ok z_T z_Js z_O (fun k hk => by
  simp only [List.mem_cons, List.not_mem_nil, or_false] at hk
  rcases hk with rfl | rfl | rfl
  · exact zt_105
  · exact zt_111
  · exact zt_125) zk_126
theorem zt_127 : zCT z_τ z_ty z_J zc_127 := zchk_ok z_T z_Js z_O (fun k hk => by
  simp only [List.mem_cons, List.not_mem_nil, or_false] at hk
  rcases hk with rfl | rfl | rfl | rfl | rfl | rfl | rfl
  · exact zt_105
  · exact zt_110
  · exact zt_117
  · exact zt_120
  · exact zt_121
  · exact zt_124
  · exact zt_126) zk_127
theorem zt_128 : zCT z_τ z_ty z_J zc_128 := zchk_ok z_T z_Js z_O (fun k hk => by
  simp only [List.mem_cons, List.not_mem_nil, or_false] at hk
  rcases hk with rfl | rfl | rfl
  · exact zt_112
  · exact zt_115
  · exact zt_127) zk_128
theorem zt_129 : zCT z_τ z_ty z_J zc_129 := zchk_ok z_T z_Js z_O (fun k hk => by cases hk) zk_129
theorem zt_130 : zCT z_τ z_ty z_J zc_130 := zchk_ok z_T z_Js z_O (fun k hk => by cases hk) zk_130
theorem zt_131 : zCT z_τ z_ty z_J zc_131 := zchk_ok z_T z_Js z_O (fun k hk => by
  simp only [List.mem_cons, List.not_mem_nil, or_false] at hk
  rcases hk with rfl | rfl | rfl
  · exact zt_105
  · exact zt_110
  · exact zt_130) zk_131
theorem zt_132 : zCT z_τ z_ty z_J zc_132 := zchk_ok z_T z_Js z_O (fun k hk => by
  simp only [List.mem_cons, List.not_mem_nil, or_false] at hk
  rcases hk with rfl | rfl | rfl
  · exact zt_128
  · exact zt_129
  · exact zt_131) zk_132
theorem zt_133 : zCT z_τ z_ty z_J zc_133 := zchk_ok z_T z_Js z_O (fun k hk => by cases hk) zk_133
theorem zt_134 : zCT z_τ z_ty z_J zc_134 := zchk_ok z_T z_Js z_O (fun k hk => by cases hk) zk_134
theorem zt_135 : zCT z_τ z_ty z_J zc_135 := zchk_ok z_T z_Js z_O (fun k hk => by
  simp only [List.mem_cons, List.not_mem_nil, or_false] at hk
  rcases hk with rfl | rfl | rfl
  · exact zt_110
  · exact zt_130
  · exact zt_134) zk_135
theorem zt_136 : zCT z_τ z_ty z_J zc_136 := zchk_ok z_T z_Js z_O (fun k hk => by rw [List.mem_singleton.mp hk]; exact zt_135) zk_136
theorem zt_137 : zCT z_τ z_ty z_J zc_137 := zchk_ok z_T z_Js z_O (fun k hk => by rw [List.mem_singleton.mp hk]; exact zt_136) zk_137
theorem zt_138 : zCT z_τ z_ty z_J zc_138 := zchk_ok z_T z_Js z_O (fun k hk => by cases hk) zk_138
theorem zt_139 : zCT z_τ z_ty z_J zc_139 := zchk_ok z_T z_Js z_O (fun k hk => by
  simp only [List.mem_cons, List.not_mem_nil, or_false] at hk
  rcases hk with rfl | rfl | rfl
  · exact zt_105
  · exact zt_111
  · exact zt_138) zk_139
theorem zt_140 : zCT z_τ z_ty z_J zc_140 := zchk_ok z_T z_Js z_O (fun k hk => by
  simp only [List.mem_cons, List.not_mem_nil, or_false] at hk
  rcases hk with rfl | rfl
  · exact zt_105
  · exact zt_110) zk_140
theorem zt_141 : zCT z_τ z_ty z_J zc_141 := zchk_ok z_T z_Js z_O (fun k hk => by
  simp only [List.mem_cons, List.not_mem_nil, or_false] at hk
  rcases hk with rfl | rfl | rfl | rfl | rfl
  · exact zt_105
  · exact zt_110
  · exact zt_130
  · exact zt_138
  · exact zt_140) zk_141
theorem zt_142 : zCT z_τ z_ty z_J zc_142 := zchk_ok z_T z_Js z_O (fun k hk => by
  simp only [List.mem_cons, List.not_mem_nil, or_false] at hk
  rcases hk with rfl | rfl | rfl | rfl | rfl | rfl | rfl | rfl | rfl
  · exact zt_105
  · exact zt_110
  · exact zt_130
  · exact zt_134
  · exact zt_135
  · exact zt_137
  · exact zt_138
  · exact zt_139
  · exact zt_141) zk_142
theorem zt_143 : zCT z_τ z_ty z_J zc_143 := zchk_ok z_T z_Js z_O (fun k hk => by
  simp only [List.mem_cons, List.not_mem_nil, or_false] at hk
  rcases hk with rfl | rfl | rfl
  · exact zt_105
  · exact zt_138
  · exact zt_142) zk_143
theorem zt_144 : zCT z_τ z_ty z_J zc_144 := zchk_ok z_T z_Js z_O (fun k hk => by
  simp only [List.mem_cons, List.not_mem_nil, or_false] at hk
  rcases hk with rfl | rfl | rfl
  · exact zt_105
  · exact zt_138
  · exact zt_143) zk_144
theorem zt_145 : zCT z_τ z_ty z_J zc_145 := zchk_ok z_T z_Js z_O (fun k hk => by
  simp only [List.mem_cons, List.not_mem_nil, or_false] at hk
  rcases hk with rfl | rfl | rfl | rfl | rfl | rfl | rfl | rfl | rfl | rfl
  · exact zt_105
  · exact zt_110
  · exact zt_130
  · exact zt_131
  · exact zt_134
  · exact zt_138
  · exact zt_139
  · exact zt_141
  · exact zt_142
  · exact zt_144) zk_145
theorem zt_146 : zCT z_τ z_ty z_J zc_146 := zchk_ok z_T z_Js z_O (fun k hk => by
  simp only [List.mem_cons, List.not_mem_nil, or_false] at hk
  rcases hk with rfl | rfl | rfl
  · exact zt_105
  · exact zt_138
  · exact zt_145) zk_146
theorem zt_147 : zCT z_τ z_ty z_J zc_147 := zchk_ok z_T z_Js z_O (fun k hk => by
  simp only [List.mem_cons, List.not_mem_nil, or_false] at hk
  rcases hk with rfl | rfl | rfl
  · exact zt_105
  · exact zt_138
  · exact zt_146) zk_147
theorem zt_148 : zCT z_τ z_ty z_J zc_148 := zchk_ok z_T z_Js z_O (fun k hk => by
  simp only [List.mem_cons, List.not_mem_nil, or_false] at hk
  rcases hk with rfl | rfl | rfl | rfl | rfl | rfl | rfl | rfl | rfl | rfl
  · exact zt_105
  · exact zt_110
  · exact zt_130
  · exact zt_131
  · exact zt_134
  · exact zt_138
  · exact zt_139
  · exact zt_141
  · exact zt_145
  · exact zt_147) zk_148
theorem zt_149 : zCT z_τ z_ty z_J zc_149 := zchk_ok z_T z_Js z_O (fun k hk => by
  simp only [List.mem_cons, List.not_mem_nil, or_false] at hk
  rcases hk with rfl | rfl | rfl
  · exact zt_105
  · exact zt_138
  · exact zt_148) zk_149
theorem zt_150 : zCT z_τ z_ty z_J zc_150 := zchk_ok z_T z_Js z_O (fun k hk => by
  simp only [List.mem_cons, List.not_mem_nil, or_false] at hk
  rcases hk with rfl | rfl | rfl
  · exact zt_105
  · exact zt_138
  · exact zt_149) zk_150
theorem zt_151 : zCT z_τ z_ty z_J zc_151 := zchk_ok z_T z_Js z_O (fun k hk => by
  simp only [List.mem_cons, List.not_mem_nil, or_false] at hk
  rcases hk with rfl | rfl | rfl | rfl | rfl | rfl | rfl | rfl | rfl | rfl
  · exact zt_105
  · exact zt_110
  · exact zt_130
  · exact zt_131
  · exact zt_134
  · exact zt_138
  · exact zt_139
  · exact zt_141
  · exact zt_148
  · exact zt_150) zk_151
theorem zt_152 : zCT z_τ z_ty z_J zc_152 := zchk_ok z_T z_Js z_O (fun k hk => by
  simp only [List.mem_cons, List.not_mem_nil, or_false] at hk
  rcases hk with rfl | rfl | rfl
  · exact zt_105
  · exact zt_138
  · exact zt_151) zk_152
theorem zt_153 : zCT z_τ z_ty z_J zc_153 := zchk_ok z_T z_Js z_O (fun k hk => by
  simp only [List.mem_cons, List.not_mem_nil, or_false] at hk
  rcases hk with rfl | rfl | rfl
  · exact zt_105
  · exact zt_138
  · exact zt_152) zk_153
theorem zt_154 : zCT z_τ z_ty z_J zc_154 := zchk_ok z_T z_Js z_O (fun k hk => by
  simp only [List.mem_cons, List.not_mem_nil, or_false] at hk
  rcases hk with rfl | rfl | rfl | rfl | rfl | rfl | rfl | rfl | rfl | rfl
  · exact zt_105
  · exact zt_110
  · exact zt_130
  · exact zt_131
  · exact zt_134
  · exact zt_138
  · exact zt_139
  · exact zt_141
  · exact zt_151
  · exact zt_153) zk_154
theorem zt_155 : zCT z_τ z_ty z_J zc_155 := zchk_ok z_T z_Js z_O (fun k hk => by
  simp only [List.mem_cons, List.not_mem_nil, or_false] at hk
  rcases hk with rfl | rfl | rfl
  · exact zt_105
  · exact zt_138
  · exact zt_154) zk_155
theorem zt_156 : zCT z_τ z_ty z_J zc_156 := zchk_ok z_T z_Js z_O (fun k hk => by
  simp only [List.mem_cons, List.not_mem_nil, or_false] at hk
  rcases hk with rfl | rfl | rfl
  · exact zt_105
  · exact zt_138
  · exact zt_155) zk_156
theorem zt_157 : zCT z_τ z_ty z_J zc_157 := zchk_ok z_T z_Js z_O (fun k hk => by
  simp only [List.mem_cons, List.not_mem_nil, or_false] at hk
  rcases hk with rfl | rfl | rfl | rfl | rfl | rfl | rfl | rfl | rfl | rfl
  · exact zt_105
  · exact zt_110
  · exact zt_130
  · exact zt_131
  · exact zt_134
  · exact zt_138
  · exact zt_139
  · exact zt_141
  · exact zt_154
  · exact zt_156) zk_157
theorem zt_158 : zCT z_τ z_ty z_J zc_158 := zchk_ok z_T z_Js z_O (fun k hk => by
  simp only [List.mem_cons, List.not_mem_nil, or_false] at hk
  rcases hk with rfl | rfl | rfl
  · exact zt_105
  · exact zt_138
  · exact zt_157) zk_158
theorem zt_159 : zCT z_τ z_ty z_J zc_159 := zchk_ok z_T z_Js z_O (fun k hk => by
  simp only [List.mem_cons, List.not_mem_nil, or_false] at hk
  rcases hk with rfl | rfl | rfl
  · exact zt_105
  · exact zt_138
  · exact zt_158) zk_159
theorem zt_160 : zCT z_τ z_ty z_J zc_160 := zchk_ok z_T z_Js z_O (fun k hk => by
  simp only [List.mem_cons, List.not_mem_nil, or_false] at hk
  rcases hk with rfl | rfl | rfl | rfl | rfl | rfl | rfl | rfl | rfl | rfl
  · exact zt_105
  · exact zt_110
  · exact zt_130
  · exact zt_131
  · exact zt_134
  · exact zt_138
  · exact zt_139
  · exact zt_141
  · exact zt_157
  · exact zt_159) zk_160
theorem zt_161 : zCT z_τ z_ty z_J zc_161 := zchk_ok z_T z_Js z_O (fun k hk => by
  simp only [List.mem_cons, List.not_mem_nil, or_false] at hk
  rcases hk with rfl | rfl | rfl
  · exact zt_105
  · exact zt_138
  · exact zt_160) zk_161
theorem zt_162 : zCT z_τ z_ty z_J zc_162 := zchk_ok z_T z_Js z_O (fun k hk => by
  simp only [List.mem_cons, List.not_mem_nil, or_false] at hk
  rcases hk with rfl | rfl | rfl
  · exact zt_105
  · exact zt_138
  · exact zt_161) zk_162
theorem zt_163 : zCT z_τ z_ty z_J zc_163 := zchk_ok z_T z_Js z_O (fun k hk => by
  simp only [List.mem_cons, List.not_mem_nil, or_false] at hk
  rcases hk with rfl | rfl | rfl | rfl | rfl | rfl | rfl | rfl | rfl | rfl
  · exact zt_105
  · exact zt_110
  · exact zt_130
  · exact zt_131
  · exact zt_134
  · exact zt_138
  · exact zt_139
  · exact zt_141
  · exact zt_160
  · exact zt_162) zk_163
theorem zt_164 : zCT z_τ z_ty z_J zc_164 := zchk_ok z_T z_Js z_O (fun k hk => by
  simp only [List.mem_cons, List.not_mem_nil, or_false] at hk
  rcases hk with rfl | rfl | rfl
  · exact zt_105
  · exact zt_138
  · exact zt_163) zk_164
theorem zt_165 : zCT z_τ z_ty z_J zc_165 := zchk_ok z_T z_Js z_O (fun k hk => by
  simp only [List.mem_cons, List.not_mem_nil, or_false] at hk
  rcases hk with rfl | rfl | rfl
  · exact zt_105
  · exact zt_138
  · exact zt_164) zk_165
theorem zt_166 : zCT z_τ z_ty z_J zc_166 := zchk_ok z_T z_Js z_O (fun k hk => by
  simp only [List.mem_cons, List.not_mem_nil, or_false] at hk
  rcases hk with rfl | rfl | rfl | rfl
  · exact zt_110
  · exact zt_129
  · exact zt_133
  · exact zt_165) zk_166
theorem zt_167 : zCT z_τ z_ty z_J zc_167 := zchk_ok z_T z_Js z_O (fun k hk => by cases hk) zk_167
theorem zt_168 : zCT z_τ z_ty z_J zc_168 := zchk_ok z_T z_Js z_O (fun k hk => by rw [List.mem_singleton.mp hk]; exact zt_167) zk_168
theorem zt_169 : zCT z_τ z_ty z_J zc_169 := zchk_ok z_T z_Js z_O (fun k hk => by
  simp only [List.mem_cons, List.not_mem_nil, or_false] at hk
  rcases hk with rfl | rfl | rfl | rfl
  · exact zt_108
  · exact zt_109
  · exact zt_110
  · exact zt_119) zk_169
theorem zt_170 : zCT z_τ z_ty z_J zc_170 := zchk_ok z_T z_Js z_O (fun k hk => by
  simp only [List.mem_cons, List.not_mem_nil, or_false] at hk
  rcases hk with rfl | rfl
  · exact zt_105
  · exact zt_110) zk_170
theorem zt_171 : zCT z_τ z_ty z_J zc_171 := zchk_ok z_T z_Js z_O (fun k hk => by
  simp only [List.mem_cons, List.not_mem_nil, or_false] at hk
  rcases hk with rfl | rfl
  · exact zt_105
  · exact zt_110) zk_171
theorem zt_172 : zCT z_τ z_ty z_J zc_172 := zchk_ok z_T z_Js z_O (fun k hk => by
  simp only [List.mem_cons, List.not_mem_nil, or_false] at hk
  rcases hk with rfl | rfl | rfl | rfl | rfl
  · exact zt_105
  · exact zt_110
  · exact zt_169
  · exact zt_170
  · exact zt_171) zk_172
theorem zt_173 : zCT z_τ z_ty z_J zc_173 := zchk_ok z_T z_Js z_O (fun k hk => by
  simp only [List.mem_cons, List.not_mem_nil, or_false] at hk
  rcases hk with rfl | rfl
  · exact zt_105
  · exact zt_110) zk_173
theorem zt_174 : zCT z_τ z_ty z_J zc_174 := zchk_ok z_T z_Js z_O (fun k hk => by
  simp only [List.mem_cons, List.not_mem_nil, or_false] at hk
  rcases hk with rfl | rfl | rfl | rfl | rfl
  · exact zt_105
  · exact zt_110
  · exact zt_114
  · exact zt_169
  · exact zt_173) zk_174
theorem zt_175 : zCT z_τ z_ty z_J zc_175 := zchk_ok z_T z_Js z_O (fun k hk => by cases hk) zk_175
theorem zt_176 : zCT z_τ z_ty z_J zc_176 := zchk_ok z_T z_Js z_O (fun k hk => by
  simp only [List.mem_cons, List.not_mem_nil, or_false] at hk
  rcases hk with rfl | rfl | rfl | rfl | rfl
  · exact zt_105
  · exact zt_110
  · exact zt_111
  · exact zt_120
  · exact zt_175) zk_176
theorem zt_177 : zCT z_τ z_ty z_J zc_177 := zchk_ok z_T z_Js z_O (fun k hk => by
  simp only [List.mem_cons, List.not_mem_nil, or_false] at hk
  rcases hk with rfl | rfl
  · exact zt_105
  · exact zt_110) zk_177
theorem zt_178 : zCT z_τ z_ty z_J zc_178 := zchk_ok z_T z_Js z_O (fun k hk => by
  simp only [List.mem_cons, List.not_mem_nil, or_false] at hk
  rcases hk with rfl | rfl | rfl
  · exact zt_105
  · exact zt_110
  · exact zt_177) zk_178
theorem zt_179 : zCT z_τ z_ty z_J zc_179 := zchk_ok z_T z_Js z_O (fun k hk => by
  simp only [List.mem_cons, List.not_mem_nil, or_false] at hk
  rcases hk with rfl | rfl | rfl
  · exact zt_105
  · exact zt_110
  · exact zt_177) zk_179
theorem zt_180 : zCT z_τ z_ty z_J zc_180 := zchk_ok z_T z_Js z_O (fun k hk => by
  simp only [List.mem_cons, List.not_mem_nil, or_false] at hk
  rcases hk with rfl | rfl
  · exact zt_105
  · exact zt_110) zk_180
theorem zt_181 : zCT z_τ z_ty z_J zc_181 := zchk_ok z_T z_Js z_O (fun k hk => by
  simp only [List.mem_cons, List.not_mem_nil, or_false] at hk
  rcases hk with rfl | rfl | rfl
  · exact zt_105
  · exact zt_110
  · exact zt_180) zk_181
theorem zt_182 : zCT z_τ z_ty z_J zc_182 := zchk_ok z_T z_Js z_O (fun k hk => by
  simp only [List.mem_cons, List.not_mem_nil, or_false] at hk
  rcases hk with rfl | rfl | rfl | rfl | rfl | rfl | rfl
  · exact zt_110
  · exact zt_172
  · exact zt_174
  · exact zt_176
  · exact zt_178
  · exact zt_179
  · exact zt_181) zk_182
theorem zt_183 : zCT z_τ z_ty z_J zc_183 := zchk_ok z_T z_Js z_O (fun k hk => by
  simp only [List.mem_cons, List.not_mem_nil, or_false] at hk
  rcases hk with rfl | rfl | rfl | rfl
  · exact zt_129
  · exact zt_131
  · exact zt_168
  · exact zt_182) zk_183
theorem zt_184 : zCT z_τ z_ty z_J zc_184 := zchk_ok z_T z_Js z_O (fun k hk => by rw [List.mem_singleton.mp hk]; exact zt_42) zk_184
theorem zt_185 : zCT z_τ z_ty z_J zc_185 := zchk_ok z_T z_Js z_O (fun k hk => by rw [List.mem_singleton.mp hk]; exact zt_44) zk_185
theorem zt_186 : zCT z_τ z_ty z_J zc_186 := zchk_ok z_T z_Js z_O (fun k hk => by
  simp only [List.mem_cons, List.not_mem_nil, or_false] at hk
  rcases hk with rfl | rfl | rfl | rfl | rfl | rfl | rfl | rfl | rfl | rfl | rfl | rfl
  · exact zt_17
  · exact zt_19
  · exact zt_23
  · exact zt_24
  · exact zt_27
  · exact zt_28
  · exact zt_32
  · exact zt_34
  · exact zt_38
  · exact zt_39
  · exact zt_184
  · exact zt_185) zk_186
theorem zt_187 : zCT z_τ z_ty z_J zc_187 := zchk_ok z_T z_Js z_O (fun k hk => by cases hk) zk_187
theorem zt_188 : zCT z_τ z_ty z_J zc_188 := zchk_ok z_T z_Js z_O (fun k hk => by cases hk) zk_188
theorem zt_189 : zCT z_τ z_ty z_J zc_189 := zchk_ok z_T z_Js z_O (fun k hk => by cases hk) zk_189
theorem zt_190 : zCT z_τ z_ty z_J zc_190 := zchk_ok z_T z_Js z_O (fun k hk => by cases hk) zk_190
theorem zt_191 : zCT z_τ z_ty z_J zc_191 := zchk_ok z_T z_Js z_O (fun k hk => by cases hk) zk_191
theorem zt_192 : zCT z_τ z_ty z_J zc_192 := zchk_ok z_T z_Js z_O (fun k hk => by
  simp only [List.mem_cons, List.not_mem_nil, or_false] at hk
  rcases hk with rfl | rfl | rfl | rfl | rfl
  · exact zt_187
  · exact zt_188
  · exact zt_189
  · exact zt_190
  · exact zt_191) zk_192
