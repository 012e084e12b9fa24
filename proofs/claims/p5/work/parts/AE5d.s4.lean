/-! ===== the reference reads a sentence: ORs, ANDs, SAIDs ===== -/
set_option maxRecDepth 100000 in
theorem y270_0 : iv_f1 (iv_p 270) 0 = some (.inl (iv_oA 0 1)) := rfl
set_option maxRecDepth 100000 in
theorem y270_1 : iv_f1 (iv_p 270) 1 = some (.inr (.inr (6, 271, 0, 12))) := rfl
set_option maxRecDepth 100000 in
theorem y270_4 : iv_f1 (iv_p 270) 4 = some (.inl (iv_oIf .ne (5))) := rfl
set_option maxRecDepth 100000 in
theorem y270_7 : iv_f1 (iv_p 270) 7 = some (.inl (iv_oK (.int (Int32.ofNat 0)) 1)) := rfl
set_option maxRecDepth 100000 in
theorem y270_8 : iv_f1 (iv_p 270) 8 = some (.inr (.inl 2)) := rfl
set_option maxRecDepth 100000 in
theorem y270_9 : iv_f1 (iv_p 270) 9 = some (.inl (iv_oA 0 1)) := rfl
set_option maxRecDepth 100000 in
theorem y270_10 : iv_f1 (iv_p 270) 10 = some (.inl (iv_oGF 12 48)) := rfl
set_option maxRecDepth 100000 in
theorem y270_13 : iv_f1 (iv_p 270) 13 = some (.inl (iv_oIS 1 1)) := rfl
set_option maxRecDepth 100000 in
theorem y270_14 : iv_f1 (iv_p 270) 14 = some (.inl (iv_oA 0 1)) := rfl
set_option maxRecDepth 100000 in
theorem y270_15 : iv_f1 (iv_p 270) 15 = some (.inl (iv_oK (.int (Int32.ofNat 15)) 2)) := rfl
set_option maxRecDepth 100000 in
theorem y270_17 : iv_f1 (iv_p 270) 17 = some (.inr (.inr (6, 171, 1, 12))) := rfl
set_option maxRecDepth 100000 in
theorem y270_20 : iv_f1 (iv_p 270) 20 = some (.inl (iv_oIf .eq (31))) := rfl
set_option maxRecDepth 100000 in
theorem y270_23 : iv_f1 (iv_p 270) 23 = some (.inl (iv_oA 0 1)) := rfl
set_option maxRecDepth 100000 in
theorem y270_24 : iv_f1 (iv_p 270) 24 = some (.inr (.inr (6, 168, 0, 12))) := rfl
set_option maxRecDepth 100000 in
theorem y270_27 : iv_f1 (iv_p 270) 27 = some (.inl (iv_oA 0 1)) := rfl
set_option maxRecDepth 100000 in
theorem y270_28 : iv_f1 (iv_p 270) 28 = some (.inr (.inr (6, 271, 0, 12))) := rfl
set_option maxRecDepth 100000 in
theorem y270_31 : iv_f1 (iv_p 270) 31 = some (.inl (iv_oIf .ne (5))) := rfl
set_option maxRecDepth 100000 in
theorem y270_34 : iv_f1 (iv_p 270) 34 = some (.inl (iv_oK (.int (Int32.ofNat 0)) 1)) := rfl
set_option maxRecDepth 100000 in
theorem y270_35 : iv_f1 (iv_p 270) 35 = some (.inr (.inl 2)) := rfl
set_option maxRecDepth 100000 in
theorem y270_36 : iv_f1 (iv_p 270) 36 = some (.inl (iv_oA 0 1)) := rfl
set_option maxRecDepth 100000 in
theorem y270_37 : iv_f1 (iv_p 270) 37 = some (.inl (iv_oK (.int (Int32.ofNat 3)) 1)) := rfl
set_option maxRecDepth 100000 in
theorem y270_38 : iv_f1 (iv_p 270) 38 = some (.inl (iv_oI 1 1)) := rfl
set_option maxRecDepth 100000 in
theorem y270_39 : iv_f1 (iv_p 270) 39 = some (.inl (iv_oA 0 1)) := rfl
set_option maxRecDepth 100000 in
theorem y270_40 : iv_f1 (iv_p 270) 40 = some (.inl (iv_oGF 12 48)) := rfl
set_option maxRecDepth 100000 in
theorem y270_43 : iv_f1 (iv_p 270) 43 = some (.inl (iv_oK (.int (Int32.ofNat 0)) 1)) := rfl
set_option maxRecDepth 100000 in
theorem y270_44 : iv_f1 (iv_p 270) 44 = some (.inr (.inr (6, 269, 4, 12))) := rfl
set_option maxRecDepth 100000 in
theorem y270_47 : iv_f1 (iv_p 270) 47 = some (.inl (iv_oIS 1 1)) := rfl
set_option maxRecDepth 100000 in
theorem y270_48 : iv_f1 (iv_p 270) 48 = some (.inl (iv_oGo (-34))) := rfl
set_option maxRecDepth 100000 in
theorem y270_51 : iv_f1 (iv_p 270) 51 = some (.inl (iv_oA 0 1)) := rfl
set_option maxRecDepth 100000 in
theorem y270_52 : iv_f1 (iv_p 270) 52 = some (.inl (iv_oI 1 1)) := rfl
set_option maxRecDepth 100000 in
theorem y270_53 : iv_f1 (iv_p 270) 53 = some (.inl (iv_oPF 12 48 .int)) := rfl
set_option maxRecDepth 100000 in
theorem y270_56 : iv_f1 (iv_p 270) 56 = some (.inl (iv_oK (.int (Int32.ofNat 1)) 1)) := rfl
set_option maxRecDepth 100000 in
theorem y270_57 : iv_f1 (iv_p 270) 57 = some (.inr (.inl 2)) := rfl
set_option maxRecDepth 100000 in
theorem y271_0 : iv_f1 (iv_p 271) 0 = some (.inl (iv_oA 0 1)) := rfl
set_option maxRecDepth 100000 in
theorem y271_1 : iv_f1 (iv_p 271) 1 = some (.inr (.inr (6, 272, 0, 12))) := rfl
set_option maxRecDepth 100000 in
theorem y271_4 : iv_f1 (iv_p 271) 4 = some (.inl (iv_oIf .ne (5))) := rfl
set_option maxRecDepth 100000 in
theorem y271_7 : iv_f1 (iv_p 271) 7 = some (.inl (iv_oK (.int (Int32.ofNat 0)) 1)) := rfl
set_option maxRecDepth 100000 in
theorem y271_8 : iv_f1 (iv_p 271) 8 = some (.inr (.inl 2)) := rfl
set_option maxRecDepth 100000 in
theorem y271_9 : iv_f1 (iv_p 271) 9 = some (.inl (iv_oA 0 1)) := rfl
set_option maxRecDepth 100000 in
theorem y271_10 : iv_f1 (iv_p 271) 10 = some (.inl (iv_oGF 12 48)) := rfl
set_option maxRecDepth 100000 in
theorem y271_13 : iv_f1 (iv_p 271) 13 = some (.inl (iv_oIS 1 1)) := rfl
set_option maxRecDepth 100000 in
theorem y271_14 : iv_f1 (iv_p 271) 14 = some (.inl (iv_oA 0 1)) := rfl
set_option maxRecDepth 100000 in
theorem y271_15 : iv_f1 (iv_p 271) 15 = some (.inl (iv_oK (.int (Int32.ofNat 16)) 2)) := rfl
set_option maxRecDepth 100000 in
theorem y271_17 : iv_f1 (iv_p 271) 17 = some (.inr (.inr (6, 171, 1, 12))) := rfl
set_option maxRecDepth 100000 in
theorem y271_20 : iv_f1 (iv_p 271) 20 = some (.inl (iv_oIf .eq (31))) := rfl
set_option maxRecDepth 100000 in
theorem y271_23 : iv_f1 (iv_p 271) 23 = some (.inl (iv_oA 0 1)) := rfl
set_option maxRecDepth 100000 in
theorem y271_24 : iv_f1 (iv_p 271) 24 = some (.inr (.inr (6, 168, 0, 12))) := rfl
set_option maxRecDepth 100000 in
theorem y271_27 : iv_f1 (iv_p 271) 27 = some (.inl (iv_oA 0 1)) := rfl
set_option maxRecDepth 100000 in
theorem y271_28 : iv_f1 (iv_p 271) 28 = some (.inr (.inr (6, 272, 0, 12))) := rfl
set_option maxRecDepth 100000 in
theorem y271_31 : iv_f1 (iv_p 271) 31 = some (.inl (iv_oIf .ne (5))) := rfl
set_option maxRecDepth 100000 in
theorem y271_34 : iv_f1 (iv_p 271) 34 = some (.inl (iv_oK (.int (Int32.ofNat 0)) 1)) := rfl
set_option maxRecDepth 100000 in
theorem y271_35 : iv_f1 (iv_p 271) 35 = some (.inr (.inl 2)) := rfl
set_option maxRecDepth 100000 in
theorem y271_36 : iv_f1 (iv_p 271) 36 = some (.inl (iv_oA 0 1)) := rfl
set_option maxRecDepth 100000 in
theorem y271_37 : iv_f1 (iv_p 271) 37 = some (.inl (iv_oK (.int (Int32.ofNat 2)) 1)) := rfl
set_option maxRecDepth 100000 in
theorem y271_38 : iv_f1 (iv_p 271) 38 = some (.inl (iv_oI 1 1)) := rfl
set_option maxRecDepth 100000 in
theorem y271_39 : iv_f1 (iv_p 271) 39 = some (.inl (iv_oA 0 1)) := rfl
set_option maxRecDepth 100000 in
theorem y271_40 : iv_f1 (iv_p 271) 40 = some (.inl (iv_oGF 12 48)) := rfl
set_option maxRecDepth 100000 in
theorem y271_43 : iv_f1 (iv_p 271) 43 = some (.inl (iv_oK (.int (Int32.ofNat 0)) 1)) := rfl
set_option maxRecDepth 100000 in
theorem y271_44 : iv_f1 (iv_p 271) 44 = some (.inr (.inr (6, 269, 4, 12))) := rfl
set_option maxRecDepth 100000 in
theorem y271_47 : iv_f1 (iv_p 271) 47 = some (.inl (iv_oIS 1 1)) := rfl
set_option maxRecDepth 100000 in
theorem y271_48 : iv_f1 (iv_p 271) 48 = some (.inl (iv_oGo (-34))) := rfl
set_option maxRecDepth 100000 in
theorem y271_51 : iv_f1 (iv_p 271) 51 = some (.inl (iv_oA 0 1)) := rfl
set_option maxRecDepth 100000 in
theorem y271_52 : iv_f1 (iv_p 271) 52 = some (.inl (iv_oI 1 1)) := rfl
set_option maxRecDepth 100000 in
theorem y271_53 : iv_f1 (iv_p 271) 53 = some (.inl (iv_oPF 12 48 .int)) := rfl
set_option maxRecDepth 100000 in
theorem y271_56 : iv_f1 (iv_p 271) 56 = some (.inl (iv_oK (.int (Int32.ofNat 1)) 1)) := rfl
set_option maxRecDepth 100000 in
theorem y271_57 : iv_f1 (iv_p 271) 57 = some (.inr (.inl 2)) := rfl
set_option maxRecDepth 100000 in
theorem y272_0 : iv_f1 (iv_p 272) 0 = some (.inl (iv_oA 0 1)) := rfl
set_option maxRecDepth 100000 in
theorem y272_1 : iv_f1 (iv_p 272) 1 = some (.inl (iv_oK (.int (Int32.ofNat 40)) 2)) := rfl
set_option maxRecDepth 100000 in
theorem y272_3 : iv_f1 (iv_p 272) 3 = some (.inr (.inr (6, 172, 1, 12))) := rfl
set_option maxRecDepth 100000 in
theorem y272_6 : iv_f1 (iv_p 272) 6 = some (.inl (iv_oIS 1 1)) := rfl
set_option maxRecDepth 100000 in
theorem y272_7 : iv_f1 (iv_p 272) 7 = some (.inl (iv_oK (.int (Int32.ofNat 17)) 2)) := rfl
set_option maxRecDepth 100000 in
theorem y272_9 : iv_f1 (iv_p 272) 9 = some (.inl (iv_oIS 2 1)) := rfl
set_option maxRecDepth 100000 in
theorem y272_10 : iv_f1 (iv_p 272) 10 = some (.inl (iv_oI 2 1)) := rfl
set_option maxRecDepth 100000 in
theorem y272_11 : iv_f1 (iv_p 272) 11 = some (.inl (iv_oK (.int (Int32.ofNat 26)) 2)) := rfl
set_option maxRecDepth 100000 in
theorem y272_13 : iv_f1 (iv_p 272) 13 = some (.inl (iv_oIc .gt (17))) := rfl
set_option maxRecDepth 100000 in
theorem y272_16 : iv_f1 (iv_p 272) 16 = some (.inl (iv_oA 0 1)) := rfl
set_option maxRecDepth 100000 in
theorem y272_17 : iv_f1 (iv_p 272) 17 = some (.inl (iv_oI 2 1)) := rfl
set_option maxRecDepth 100000 in
theorem y272_18 : iv_f1 (iv_p 272) 18 = some (.inr (.inr (6, 171, 1, 12))) := rfl
set_option maxRecDepth 100000 in
theorem y272_21 : iv_f1 (iv_p 272) 21 = some (.inl (iv_oIf .ne (9))) := rfl
set_option maxRecDepth 100000 in
theorem y272_24 : iv_f1 (iv_p 272) 24 = some (.inl (iv_oInc 2 (1))) := rfl
set_option maxRecDepth 100000 in
theorem y272_27 : iv_f1 (iv_p 272) 27 = some (.inl (iv_oGo (-17))) := rfl
set_option maxRecDepth 100000 in
theorem y272_30 : iv_f1 (iv_p 272) 30 = some (.inl (iv_oI 1 1)) := rfl
set_option maxRecDepth 100000 in
theorem y272_31 : iv_f1 (iv_p 272) 31 = some (.inl (iv_oIf .ne (15))) := rfl
set_option maxRecDepth 100000 in
theorem y272_34 : iv_f1 (iv_p 272) 34 = some (.inl (iv_oI 2 1)) := rfl
set_option maxRecDepth 100000 in
theorem y272_35 : iv_f1 (iv_p 272) 35 = some (.inl (iv_oK (.int (Int32.ofNat 26)) 2)) := rfl
set_option maxRecDepth 100000 in
theorem y272_37 : iv_f1 (iv_p 272) 37 = some (.inl (iv_oIc .le (9))) := rfl
set_option maxRecDepth 100000 in
theorem y272_40 : iv_f1 (iv_p 272) 40 = some (.inl (iv_oA 0 1)) := rfl
set_option maxRecDepth 100000 in
theorem y272_41 : iv_f1 (iv_p 272) 41 = some (.inl (iv_oK (.int (Int32.ofNat 1)) 1)) := rfl
set_option maxRecDepth 100000 in
theorem y272_42 : iv_f1 (iv_p 272) 42 = some (.inr (.inr (6, 174, 1, 12))) := rfl
set_option maxRecDepth 100000 in
theorem y272_45 : iv_f1 (iv_p 272) 45 = some (.inr (.inl 2)) := rfl
set_option maxRecDepth 100000 in
theorem y272_46 : iv_f1 (iv_p 272) 46 = some (.inl (iv_oA 0 1)) := rfl
set_option maxRecDepth 100000 in
theorem y272_47 : iv_f1 (iv_p 272) 47 = some (.inl (iv_oGF 12 46)) := rfl
set_option maxRecDepth 100000 in
theorem y272_50 : iv_f1 (iv_p 272) 50 = some (.inl (iv_oK (.int (Int32.ofNat 20)) 2)) := rfl
set_option maxRecDepth 100000 in
theorem y272_52 : iv_f1 (iv_p 272) 52 = some (.inl (iv_oIc .eq (12))) := rfl
set_option maxRecDepth 100000 in
theorem y272_55 : iv_f1 (iv_p 272) 55 = some (.inl (iv_oA 0 1)) := rfl
set_option maxRecDepth 100000 in
theorem y272_56 : iv_f1 (iv_p 272) 56 = some (.inl (iv_oGF 12 47)) := rfl
set_option maxRecDepth 100000 in
theorem y272_59 : iv_f1 (iv_p 272) 59 = some (.inl (iv_oK (.int (Int32.ofNat 8)) 2)) := rfl
set_option maxRecDepth 100000 in
theorem y272_61 : iv_f1 (iv_p 272) 61 = some (.inl (iv_oIc .ne (9))) := rfl
set_option maxRecDepth 100000 in
theorem y272_64 : iv_f1 (iv_p 272) 64 = some (.inl (iv_oA 0 1)) := rfl
set_option maxRecDepth 100000 in
theorem y272_65 : iv_f1 (iv_p 272) 65 = some (.inl (iv_oK (.int (Int32.ofNat 4)) 1)) := rfl
set_option maxRecDepth 100000 in
theorem y272_66 : iv_f1 (iv_p 272) 66 = some (.inr (.inr (6, 174, 1, 12))) := rfl
set_option maxRecDepth 100000 in
theorem y272_69 : iv_f1 (iv_p 272) 69 = some (.inr (.inl 2)) := rfl
set_option maxRecDepth 100000 in
theorem y272_70 : iv_f1 (iv_p 272) 70 = some (.inl (iv_oA 0 1)) := rfl
set_option maxRecDepth 100000 in
theorem y272_71 : iv_f1 (iv_p 272) 71 = some (.inl iv_oDup) := rfl
set_option maxRecDepth 100000 in
theorem y272_72 : iv_f1 (iv_p 272) 72 = some (.inl (iv_oGF 12 46)) := rfl
set_option maxRecDepth 100000 in
theorem y272_75 : iv_f1 (iv_p 272) 75 = some (.inl (iv_oK (.int (Int32.ofNat 1)) 1)) := rfl
set_option maxRecDepth 100000 in
theorem y272_76 : iv_f1 (iv_p 272) 76 = some (.inl (iv_oII fun x y => x + y)) := rfl
set_option maxRecDepth 100000 in
theorem y272_77 : iv_f1 (iv_p 272) 77 = some (.inl (iv_oPF 12 46 .int)) := rfl
set_option maxRecDepth 100000 in
theorem y272_80 : iv_f1 (iv_p 272) 80 = some (.inl (iv_oA 0 1)) := rfl
set_option maxRecDepth 100000 in
theorem y272_81 : iv_f1 (iv_p 272) 81 = some (.inl iv_oDup) := rfl
set_option maxRecDepth 100000 in
theorem y272_82 : iv_f1 (iv_p 272) 82 = some (.inl (iv_oGF 12 47)) := rfl
set_option maxRecDepth 100000 in
theorem y272_85 : iv_f1 (iv_p 272) 85 = some (.inl (iv_oK (.int (Int32.ofNat 1)) 1)) := rfl
set_option maxRecDepth 100000 in
theorem y272_86 : iv_f1 (iv_p 272) 86 = some (.inl (iv_oII fun x y => x + y)) := rfl
set_option maxRecDepth 100000 in
theorem y272_87 : iv_f1 (iv_p 272) 87 = some (.inl (iv_oPF 12 47 .int)) := rfl
set_option maxRecDepth 100000 in
theorem y272_90 : iv_f1 (iv_p 272) 90 = some (.inl (iv_oA 0 1)) := rfl
set_option maxRecDepth 100000 in
theorem y272_91 : iv_f1 (iv_p 272) 91 = some (.inr (.inr (6, 168, 0, 12))) := rfl
set_option maxRecDepth 100000 in
theorem y272_94 : iv_f1 (iv_p 272) 94 = some (.inl (iv_oK (.int (Int32.ofNat 1)) 1)) := rfl
set_option maxRecDepth 100000 in
theorem y272_95 : iv_f1 (iv_p 272) 95 = some (.inl (iv_oIS 3 1)) := rfl
set_option maxRecDepth 100000 in
theorem y272_96 : iv_f1 (iv_p 272) 96 = some (.inl (iv_oI 1 1)) := rfl
set_option maxRecDepth 100000 in
theorem y272_97 : iv_f1 (iv_p 272) 97 = some (.inl (iv_oIf .eq (11))) := rfl
set_option maxRecDepth 100000 in
theorem y272_100 : iv_f1 (iv_p 272) 100 = some (.inl (iv_oA 0 1)) := rfl
set_option maxRecDepth 100000 in
theorem y272_101 : iv_f1 (iv_p 272) 101 = some (.inr (.inr (6, 274, 0, 12))) := rfl
set_option maxRecDepth 100000 in
theorem y272_104 : iv_f1 (iv_p 272) 104 = some (.inl (iv_oIS 3 1)) := rfl
set_option maxRecDepth 100000 in
theorem y272_105 : iv_f1 (iv_p 272) 105 = some (.inl (iv_oGo (61))) := rfl
set_option maxRecDepth 100000 in
theorem y272_108 : iv_f1 (iv_p 272) 108 = some (.inl (iv_oI 2 1)) := rfl
set_option maxRecDepth 100000 in
theorem y272_109 : iv_f1 (iv_p 272) 109 = some (.inl (iv_oK (.int (Int32.ofNat 17)) 2)) := rfl
set_option maxRecDepth 100000 in
theorem y272_111 : iv_f1 (iv_p 272) 111 = some (.inl (iv_oIc .ne (11))) := rfl
set_option maxRecDepth 100000 in
theorem y272_114 : iv_f1 (iv_p 272) 114 = some (.inl (iv_oA 0 1)) := rfl
set_option maxRecDepth 100000 in
theorem y272_115 : iv_f1 (iv_p 272) 115 = some (.inr (.inr (6, 273, 0, 12))) := rfl
set_option maxRecDepth 100000 in
theorem y272_118 : iv_f1 (iv_p 272) 118 = some (.inl (iv_oIS 3 1)) := rfl
set_option maxRecDepth 100000 in
theorem y272_119 : iv_f1 (iv_p 272) 119 = some (.inl (iv_oGo (47))) := rfl
set_option maxRecDepth 100000 in
theorem y272_122 : iv_f1 (iv_p 272) 122 = some (.inl (iv_oI 2 1)) := rfl
set_option maxRecDepth 100000 in
theorem y272_123 : iv_f1 (iv_p 272) 123 = some (.inl (iv_oK (.int (Int32.ofNat 22)) 2)) := rfl
set_option maxRecDepth 100000 in
theorem y272_125 : iv_f1 (iv_p 272) 125 = some (.inl (iv_oIc .ge (21))) := rfl
set_option maxRecDepth 100000 in
theorem y272_128 : iv_f1 (iv_p 272) 128 = some (.inl (iv_oA 0 1)) := rfl
set_option maxRecDepth 100000 in
theorem y272_129 : iv_f1 (iv_p 272) 129 = some (.inl (iv_oA 0 1)) := rfl
set_option maxRecDepth 100000 in
theorem y272_130 : iv_f1 (iv_p 272) 130 = some (.inl (iv_oK (.int (Int32.ofNat 50)) 2)) := rfl
set_option maxRecDepth 100000 in
theorem y272_132 : iv_f1 (iv_p 272) 132 = some (.inl (iv_oI 2 1)) := rfl
set_option maxRecDepth 100000 in
theorem y272_133 : iv_f1 (iv_p 272) 133 = some (.inl (iv_oII fun x y => x + y)) := rfl
set_option maxRecDepth 100000 in
theorem y272_134 : iv_f1 (iv_p 272) 134 = some (.inl (iv_oK (.int (Int32.ofNat 0)) 1)) := rfl
set_option maxRecDepth 100000 in
theorem y272_135 : iv_f1 (iv_p 272) 135 = some (.inl (iv_oK (.int (Int32.ofNat 0)) 1)) := rfl
set_option maxRecDepth 100000 in
theorem y272_136 : iv_f1 (iv_p 272) 136 = some (.inl (iv_oK (.int (Int32.ofNat 0)) 1)) := rfl
set_option maxRecDepth 100000 in
theorem y272_137 : iv_f1 (iv_p 272) 137 = some (.inr (.inr (6, 269, 4, 12))) := rfl
set_option maxRecDepth 100000 in
theorem y272_140 : iv_f1 (iv_p 272) 140 = some (.inl (iv_oPF 12 48 .int)) := rfl
set_option maxRecDepth 100000 in
theorem y272_143 : iv_f1 (iv_p 272) 143 = some (.inl (iv_oGo (23))) := rfl
set_option maxRecDepth 100000 in
theorem y272_146 : iv_f1 (iv_p 272) 146 = some (.inl (iv_oI 2 1)) := rfl
set_option maxRecDepth 100000 in
theorem y272_147 : iv_f1 (iv_p 272) 147 = some (.inl (iv_oK (.int (Int32.ofNat 23)) 2)) := rfl
set_option maxRecDepth 100000 in
theorem y272_149 : iv_f1 (iv_p 272) 149 = some (.inl (iv_oIc .ge (11))) := rfl
set_option maxRecDepth 100000 in
theorem y272_152 : iv_f1 (iv_p 272) 152 = some (.inl (iv_oA 0 1)) := rfl
set_option maxRecDepth 100000 in
theorem y272_153 : iv_f1 (iv_p 272) 153 = some (.inl (iv_oI 2 1)) := rfl
set_option maxRecDepth 100000 in
theorem y272_154 : iv_f1 (iv_p 272) 154 = some (.inr (.inr (6, 275, 1, 12))) := rfl
set_option maxRecDepth 100000 in
theorem y272_157 : iv_f1 (iv_p 272) 157 = some (.inl (iv_oGo (8))) := rfl
set_option maxRecDepth 100000 in
theorem y272_160 : iv_f1 (iv_p 272) 160 = some (.inl (iv_oA 0 1)) := rfl
set_option maxRecDepth 100000 in
theorem y272_161 : iv_f1 (iv_p 272) 161 = some (.inl (iv_oI 2 1)) := rfl
set_option maxRecDepth 100000 in
theorem y272_162 : iv_f1 (iv_p 272) 162 = some (.inr (.inr (6, 276, 1, 12))) := rfl
set_option maxRecDepth 100000 in
theorem y272_165 : iv_f1 (iv_p 272) 165 = some (.inl (iv_oIS 3 1)) := rfl
set_option maxRecDepth 100000 in
theorem y272_166 : iv_f1 (iv_p 272) 166 = some (.inl (iv_oA 0 1)) := rfl
set_option maxRecDepth 100000 in
theorem y272_167 : iv_f1 (iv_p 272) 167 = some (.inl iv_oDup) := rfl
set_option maxRecDepth 100000 in
theorem y272_168 : iv_f1 (iv_p 272) 168 = some (.inl (iv_oGF 12 47)) := rfl
set_option maxRecDepth 100000 in
theorem y272_171 : iv_f1 (iv_p 272) 171 = some (.inl (iv_oK (.int (Int32.ofNat 1)) 1)) := rfl
set_option maxRecDepth 100000 in
theorem y272_172 : iv_f1 (iv_p 272) 172 = some (.inl (iv_oII fun x y => x - y)) := rfl
set_option maxRecDepth 100000 in
theorem y272_173 : iv_f1 (iv_p 272) 173 = some (.inl (iv_oPF 12 47 .int)) := rfl
set_option maxRecDepth 100000 in
theorem y272_176 : iv_f1 (iv_p 272) 176 = some (.inl (iv_oI 3 1)) := rfl
set_option maxRecDepth 100000 in
theorem y272_177 : iv_f1 (iv_p 272) 177 = some (.inr (.inl 2)) := rfl
set_option maxRecDepth 100000 in
theorem y273_0 : iv_f1 (iv_p 273) 0 = some (.inl (iv_oA 0 1)) := rfl
set_option maxRecDepth 100000 in
theorem y273_1 : iv_f1 (iv_p 273) 1 = some (.inr (.inr (6, 272, 0, 12))) := rfl
set_option maxRecDepth 100000 in
theorem y273_4 : iv_f1 (iv_p 273) 4 = some (.inl (iv_oIf .ne (5))) := rfl
set_option maxRecDepth 100000 in
theorem y273_7 : iv_f1 (iv_p 273) 7 = some (.inl (iv_oK (.int (Int32.ofNat 0)) 1)) := rfl
set_option maxRecDepth 100000 in
theorem y273_8 : iv_f1 (iv_p 273) 8 = some (.inr (.inl 2)) := rfl
set_option maxRecDepth 100000 in
theorem y273_9 : iv_f1 (iv_p 273) 9 = some (.inl (iv_oA 0 1)) := rfl
set_option maxRecDepth 100000 in
theorem y273_10 : iv_f1 (iv_p 273) 10 = some (.inl (iv_oA 0 1)) := rfl
set_option maxRecDepth 100000 in
theorem y273_11 : iv_f1 (iv_p 273) 11 = some (.inl (iv_oK (.int (Int32.ofNat 1)) 1)) := rfl
set_option maxRecDepth 100000 in
theorem y273_12 : iv_f1 (iv_p 273) 12 = some (.inl (iv_oA 0 1)) := rfl
set_option maxRecDepth 100000 in
theorem y273_13 : iv_f1 (iv_p 273) 13 = some (.inl (iv_oGF 12 48)) := rfl
set_option maxRecDepth 100000 in
theorem y273_16 : iv_f1 (iv_p 273) 16 = some (.inl (iv_oK (.int (Int32.ofNat 0)) 1)) := rfl
set_option maxRecDepth 100000 in
theorem y273_17 : iv_f1 (iv_p 273) 17 = some (.inl (iv_oK (.int (Int32.ofNat 0)) 1)) := rfl
set_option maxRecDepth 100000 in
theorem y273_18 : iv_f1 (iv_p 273) 18 = some (.inr (.inr (6, 269, 4, 12))) := rfl
set_option maxRecDepth 100000 in
theorem y273_21 : iv_f1 (iv_p 273) 21 = some (.inl (iv_oPF 12 48 .int)) := rfl
set_option maxRecDepth 100000 in
theorem y273_24 : iv_f1 (iv_p 273) 24 = some (.inl (iv_oK (.int (Int32.ofNat 1)) 1)) := rfl
set_option maxRecDepth 100000 in
theorem y273_25 : iv_f1 (iv_p 273) 25 = some (.inr (.inl 2)) := rfl
set_option maxRecDepth 100000 in
theorem y274_0 : iv_f1 (iv_p 274) 0 = some (.inl (iv_oA 0 1)) := rfl
set_option maxRecDepth 100000 in
theorem y274_1 : iv_f1 (iv_p 274) 1 = some (.inr (.inr (6, 270, 0, 12))) := rfl
set_option maxRecDepth 100000 in
theorem y274_4 : iv_f1 (iv_p 274) 4 = some (.inl (iv_oIf .ne (5))) := rfl
set_option maxRecDepth 100000 in
theorem y274_7 : iv_f1 (iv_p 274) 7 = some (.inl (iv_oK (.int (Int32.ofNat 0)) 1)) := rfl
set_option maxRecDepth 100000 in
theorem y274_8 : iv_f1 (iv_p 274) 8 = some (.inr (.inl 2)) := rfl
set_option maxRecDepth 100000 in
theorem y274_9 : iv_f1 (iv_p 274) 9 = some (.inl (iv_oA 0 1)) := rfl
set_option maxRecDepth 100000 in
theorem y274_10 : iv_f1 (iv_p 274) 10 = some (.inl (iv_oK (.int (Int32.ofNat 41)) 2)) := rfl
set_option maxRecDepth 100000 in
theorem y274_12 : iv_f1 (iv_p 274) 12 = some (.inr (.inr (6, 172, 1, 12))) := rfl
set_option maxRecDepth 100000 in
theorem y274_15 : iv_f1 (iv_p 274) 15 = some (.inl (iv_oIf .ne (9))) := rfl
set_option maxRecDepth 100000 in
theorem y274_18 : iv_f1 (iv_p 274) 18 = some (.inl (iv_oA 0 1)) := rfl
set_option maxRecDepth 100000 in
theorem y274_19 : iv_f1 (iv_p 274) 19 = some (.inl (iv_oK (.int (Int32.ofNat 1)) 1)) := rfl
set_option maxRecDepth 100000 in
theorem y274_20 : iv_f1 (iv_p 274) 20 = some (.inr (.inr (6, 174, 1, 12))) := rfl
set_option maxRecDepth 100000 in
theorem y274_23 : iv_f1 (iv_p 274) 23 = some (.inr (.inl 2)) := rfl
set_option maxRecDepth 100000 in
theorem y274_24 : iv_f1 (iv_p 274) 24 = some (.inl (iv_oA 0 1)) := rfl
set_option maxRecDepth 100000 in
theorem y274_25 : iv_f1 (iv_p 274) 25 = some (.inr (.inr (6, 168, 0, 12))) := rfl
set_option maxRecDepth 100000 in
theorem y274_28 : iv_f1 (iv_p 274) 28 = some (.inl (iv_oK (.int (Int32.ofNat 1)) 1)) := rfl
set_option maxRecDepth 100000 in
theorem y274_29 : iv_f1 (iv_p 274) 29 = some (.inr (.inl 2)) := rfl
theorem yCmp_ge {T : Nat → Nat} {n m p q : Nat} (h : yCmp T n m p = .inr q) : p ≤ q := by
  unfold yCmp at h
  split at h
  · obtain ⟨r, h1, h2⟩ := yThen_inr h
    obtain rfl := yNum_inr h1
    cases h2
    exact Nat.le_trans yto_ge yto_ge
  · cases h
theorem zGo_imp {L : Nat} {xs : Nat → Int32} {P Q : Option Value → iv_H → Prop} {d M pc : Nat} {lv : iv_L} {st : List Value} {σ : iv_H} (h : zGo L xs P [] d M pc lv st σ) (k : ∀ r σ1, P r σ1 → Q r σ1) : zGo L xs Q [] d M pc lv st σ := by
  obtain ⟨r, σ1, h1, h2⟩ := h
  exact ⟨r, σ1, h1, k r σ1 h2⟩
theorem yFw_le {T : Nat → Nat} {n m p : Nat} : ∀ {j k : Nat}, k ≤ yFw T n m p j k ∧ yFw T n m p j k ≤ k + j
  | 0, k => ⟨Nat.le_refl k, Nat.le_refl k⟩
  | j + 1, k => by
    have h := yFw_le (T := T) (n := n) (m := m) (p := p) (j := j) (k := k + 1)
    show k ≤ (if yisW T n m p k = true then k else yFw T n m p j (k + 1)) ∧ (if yisW T n m p k = true then k else yFw T n m p j (k + 1)) ≤ k + (j + 1)
    split <;> omega
/-- a word from 17 on is a word -/
theorem yFw_k {T : Nat → Nat} {n m p : Nat} : ∀ {j k : Nat}, yFw T n m p j k < k + j → ykd T n m p = 2
  | 0, k, h => absurd h (Nat.lt_irrefl k)
  | j + 1, k, h => by
    have h : (if yisW T n m p k = true then k else yFw T n m p j (k + 1)) < k + (j + 1) := h
    by_cases e : yisW T n m p k = true
    · exact (of_decide_eq_true e).1
    · rw [if_neg e] at h
      exact yFw_k (j := j) (k := k + 1) (by omega)
theorem yMk_k {T : Nat → Nat} {n m p c : Nat} (h : yMk T n m p c = true) : ykd T n m p = 4 := (of_decide_eq_true h).1
section SM
variable {L : Nat} {xs : Nat → Int32} {T : Nat → Nat} {n m : Nat} {Nm : Nat → Int64} {ng : Nat}
theorem yR_p {p o w nd : Nat} {σ : iv_H} (h : yR T n m p Nm ng o w nd σ) : p ≤ 940 := by
  obtain ⟨s, V, hM, _⟩ := h
  exact hM.2.2.2.2.2.2.1
theorem yR_g {p o w nd : Nat} {σ : iv_H} (h : yR T n m p Nm ng o w nd σ) : ∃ V, iv_get σ 548 = some (yob 12 49 V) := by
  obtain ⟨s, V, hM, _⟩ := h
  exact ⟨V, hM.1⟩
def yOS (T : Nat → Nat) (n m p : Nat) (Nm : Nat → Int64) (ng o w nd : Nat) (q : yE (Nat × Nat)) (b : Bool) (σ1 : iv_H) : Prop := match q with
  | .inl e => b = false ∧ yB e σ1
  | .inr r => b = true ∧ ∃ nd1, yR T n m r.1 Nm ng r.2 w nd1 σ1 ∧ (nd1 + 1 ≤ nd + 2 * (r.2 - o) ∧ o < r.2 ∧ r.2 ≤ 20) ∧ p < r.1
def yOL (T : Nat → Nat) (n m p : Nat) (Nm : Nat → Int64) (ng o w nd : Nat) (q : yE (Nat × Nat)) (b : Bool) (σ1 : iv_H) : Prop := match q with
  | .inl e => b = false ∧ yB e σ1
  | .inr r => b = true ∧ ∃ nd1, yR T n m r.1 Nm ng r.2 w nd1 σ1 ∧ (nd1 ≤ nd + 2 * (r.2 - o) ∧ o ≤ r.2 ∧ r.2 ≤ 20) ∧ p ≤ r.1
theorem yOL_S {p p1 o o1 w nd nd1 : Nat} {q : yE (Nat × Nat)} {b : Bool} {σ1 : iv_H} (h : yOL T n m p1 Nm ng o1 w nd1 q b σ1) (h1 : p < p1) (h2 : nd1 + 1 ≤ nd + 2 * (o1 - o)) (h3 : o < o1) : yOS T n m p Nm ng o w nd q b σ1 := by
  cases q with
  | inl e => exact h
  | inr r =>
    obtain ⟨hb, nd2, hr, ⟨c1, c2, c3⟩, c4⟩ := (show b = true ∧ ∃ nd2, yR T n m r.1 Nm ng r.2 w nd2 σ1 ∧ (nd2 ≤ nd1 + 2 * (r.2 - o1) ∧ o1 ≤ r.2 ∧ r.2 ≤ 20) ∧ p1 ≤ r.1 from h)
    exact ⟨hb, nd2, hr, ⟨by omega, by omega, c3⟩, by omega⟩
theorem yOL_L {p p1 o o1 w nd nd1 : Nat} {q : yE (Nat × Nat)} {b : Bool} {σ1 : iv_H} (h : yOL T n m p1 Nm ng o1 w nd1 q b σ1) (h1 : p ≤ p1) (h2 : nd1 ≤ nd + 2 * (o1 - o)) (h3 : o ≤ o1) : yOL T n m p Nm ng o w nd q b σ1 := by
  cases q with
  | inl e => exact h
  | inr r =>
    obtain ⟨hb, nd2, hr, ⟨c1, c2, c3⟩, c4⟩ := (show b = true ∧ ∃ nd2, yR T n m r.1 Nm ng r.2 w nd2 σ1 ∧ (nd2 ≤ nd1 + 2 * (r.2 - o1) ∧ o1 ≤ r.2 ∧ r.2 ≤ 20) ∧ p1 ≤ r.1 from h)
    exact ⟨hb, nd2, hr, ⟨by omega, by omega, c3⟩, by omega⟩
def yPm (L : Nat) (xs : Nat → Int32) (T : Nat → Nat) (n m : Nat) (Nm : Nat → Int64) (ng f M kd c D : Nat) : Prop := ∀ (w o nd p d : Nat) (σ : iv_H), 3 * (941 - p) + c ≤ f → 4 * (9 - w) + D ≤ d → w ≤ 8 → o ≤ 20 → nd ≤ 2 * o → yR T n m p Nm ng o w nd σ → ∃ b σ1, iv_Rn L xs d M 0 (lv_args 0 [.ref 548]) [] σ (some (.int (yb b))) σ1 ∧ yOS T n m p Nm ng o w nd (ySx T n m Nm ng f kd w o p) b σ1
def yQm (L : Nat) (xs : Nat → Int32) (T : Nat → Nat) (n m : Nat) (Nm : Nat → Int64) (ng f M kd D : Nat) : Prop := ∀ (w o nd p d : Nat) (σ : iv_H) (lv : iv_L) (a : Int32), 3 * (941 - p) + 1 ≤ f → 4 * (9 - w) + D ≤ d → w ≤ 8 → o ≤ 20 → nd + 1 ≤ 2 * o → yR T n m p Nm ng o w nd σ → iv_f1 lv 0 = some (.ref 548) → iv_f1 lv 1 = some (.int a) → zGo L xs (fun r σ1 => ∃ b, r = some (.int (yb b)) ∧ yOL T n m p Nm ng o w nd (ySx T n m Nm ng f kd w o p) b σ1) [] d M 14 lv [] σ
theorem ym_sx0 {f : Nat} (IH1 : yPm L xs T n m Nm ng f 271 1 2 9) (IH2 : yQm L xs T n m Nm ng f 270 2 10) : yPm L xs T n m Nm ng (f + 1) 270 0 3 10 := by
  intro w o nd p d σ hf hd hw ho hnd h
  obtain ⟨d, rfl⟩ : ∃ e, d = e + 1 := ⟨d - 1, by omega⟩
  obtain ⟨b, σ1, r1, h1⟩ := IH1 w o nd p d σ (by omega) (by omega) hw ho hnd h
  obtain ⟨V, g⟩ := yR_g h
  have un : ySx T n m Nm ng (f + 1) 0 w o p = yThen (ySx T n m Nm ng f 1 w o p) fun q => ySx T n m Nm ng f 2 w q.2 q.1 := rfl
  rw [un]
  refine y_RbE ?_
  refine w_A y270_0 rfl ?_
  refine y_call y270_1 (y_args6 g rfl rfl) rfl r1 ?_
  cases hq : ySx T n m Nm ng f 1 w o p with
  | inl e =>
    rw [hq] at h1
    obtain ⟨rfl, h2⟩ := (show b = false ∧ yB e σ1 from h1)
    refine w_ifF y270_4 rfl (y_bneF rfl) ?_
    refine w_K y270_7 ?_
    exact y_ret (v := .int (yb false)) y270_8 y_rtb ⟨false, rfl, rfl, h2⟩
  | inr q =>
    rw [hq] at h1
    obtain ⟨rfl, nd1, h2, ⟨c1, c2, c3⟩, hp⟩ := (show b = true ∧ ∃ nd1, yR T n m q.1 Nm ng q.2 w nd1 σ1 ∧ (nd1 + 1 ≤ nd + 2 * (q.2 - o) ∧ o < q.2 ∧ q.2 ≤ 20) ∧ p < q.1 from h1)
    have hp1 := yR_p h2
    refine w_ifT y270_4 rfl (y_bneT rfl) ?_
    refine w_A y270_9 rfl ?_
    refine R_g48 y270_10 h2 (fun t => ?_)
    refine w_IS y270_13 ?_
    refine zGo_imp (IH2 w q.2 nd1 q.1 (d + 1) σ1 _ t (by omega) (by omega) hw c3 (by omega) h2 rfl rfl) (fun r σ2 hr => ?_)
    obtain ⟨b, rfl, hb⟩ := hr
    exact ⟨b, rfl, yOL_S hb hp c1 c2⟩
theorem ym_sx2 {f : Nat} (hn : n ≤ 940) (hm : m ≤ 940) (hT : ∀ i, T i ≤ 255) (IH1 : yPm L xs T n m Nm ng f 271 1 2 9) (IH2 : yQm L xs T n m Nm ng f 270 2 10) : yQm L xs T n m Nm ng (f + 1) 270 2 10 := by
  intro w o nd p d σ lv a hf hd hw ho hnd h l0 l1
  obtain ⟨d, rfl⟩ : ∃ e, d = e + 4 := ⟨d - 4, by omega⟩
  have hp9 := yR_p h
  have un : ySx T n m Nm ng (f + 1) 2 w o p = (if yisW T n m p 15 = true then yThen (ySx T n m Nm ng f 1 w o (yto T n m p)) fun q => ySx T n m Nm ng f 2 w q.2 q.1 else .inr (p, o)) := rfl
  rw [un]
  refine w_A y270_14 l0 ?_
  refine w_K y270_15 ?_
  refine R_iw (by decide) y270_17 rfl h ?_
  rcases y_bc (yisW T n m p 15) with e | e
  · rw [if_neg (by rw [e]; decide)]
    refine w_ifT y270_20 rfl (y_beqT e) ?_
    refine w_A y270_51 l0 ?_
    refine w_I y270_52 l1 ?_
    refine R_p48 y270_53 h (fun σ1 h1 => ?_)
    refine w_K y270_56 ?_
    exact y_ret (v := .int (yb true)) y270_57 y_rtb ⟨true, rfl, rfl, nd, h1, ⟨by omega, Nat.le_refl o, ho⟩, Nat.le_refl p⟩
  · rw [if_pos e]
    have hgt : p < yto T n m p := yto_gt (by rw [(of_decide_eq_true e).1]; exact Nat.le_refl 2)
    refine w_ifF y270_20 rfl (y_beqF e) ?_
    refine w_A y270_23 l0 ?_
    refine R_go hn hm hT y270_24 rfl h (fun σ1 h1 => ?_)
    have hp1 := yR_p h1
    obtain ⟨V, g⟩ := yR_g h1
    obtain ⟨b, σ2, r2, h2⟩ := IH1 w o nd (yto T n m p) (d + 3) σ1 (by omega) (by omega) hw ho (by omega) h1
    refine w_A y270_27 l0 ?_
    refine y_call y270_28 (y_args6 g rfl rfl) rfl r2 ?_
    cases hq : ySx T n m Nm ng f 1 w o (yto T n m p) with
    | inl e =>
      rw [hq] at h2
      obtain ⟨rfl, h3⟩ := (show b = false ∧ yB e σ2 from h2)
      refine w_ifF y270_31 rfl (y_bneF rfl) ?_
      refine w_K y270_34 ?_
      exact y_ret (v := .int (yb false)) y270_35 y_rtb ⟨false, rfl, rfl, h3⟩
    | inr q =>
      rw [hq] at h2
      obtain ⟨rfl, nd1, h3, ⟨c1, c2, c3⟩, hp⟩ := (show b = true ∧ ∃ nd1, yR T n m q.1 Nm ng q.2 w nd1 σ2 ∧ (nd1 + 1 ≤ nd + 2 * (q.2 - o) ∧ o < q.2 ∧ q.2 ≤ 20) ∧ yto T n m p < q.1 from h2)
      have hp3 := yR_p h3
      refine w_ifT y270_31 rfl (y_bneT rfl) ?_
      refine w_A y270_36 l0 ?_
      refine w_K y270_37 ?_
      refine w_I y270_38 l1 ?_
      refine w_A y270_39 l0 ?_
      refine R_g48 y270_40 h3 (fun t => ?_)
      refine w_K y270_43 ?_
      refine R_so (by omega) y270_44 rfl h3 (fun x σ3 h4 => ?_)
      refine w_IS y270_47 ?_
      refine w_go y270_48 rfl ?_
      refine zGo_imp (IH2 w q.2 (nd1 + 1) q.1 (d + 4) σ3 _ x (by omega) (by omega) hw c3 (by omega) h4 (y_l1 rfl rfl l0) y_l0) (fun r σ4 hr => ?_)
      obtain ⟨b, rfl, hb⟩ := hr
      exact ⟨b, rfl, yOL_L hb (by omega) (by omega) (by omega)⟩
theorem ym_sx1 {f : Nat} (IH1 : yPm L xs T n m Nm ng f 272 4 1 8) (IH2 : yQm L xs T n m Nm ng f 271 3 9) : yPm L xs T n m Nm ng (f + 1) 271 1 2 9 := by
  intro w o nd p d σ hf hd hw ho hnd h
  obtain ⟨d, rfl⟩ : ∃ e, d = e + 1 := ⟨d - 1, by omega⟩
  obtain ⟨b, σ1, r1, h1⟩ := IH1 w o nd p d σ (by omega) (by omega) hw ho hnd h
  obtain ⟨V, g⟩ := yR_g h
  have un : ySx T n m Nm ng (f + 1) 1 w o p = yThen (ySx T n m Nm ng f 4 w o p) fun q => ySx T n m Nm ng f 3 w q.2 q.1 := rfl
  rw [un]
  refine y_RbE ?_
  refine w_A y271_0 rfl ?_
  refine y_call y271_1 (y_args6 g rfl rfl) rfl r1 ?_
  cases hq : ySx T n m Nm ng f 4 w o p with
  | inl e =>
    rw [hq] at h1
    obtain ⟨rfl, h2⟩ := (show b = false ∧ yB e σ1 from h1)
    refine w_ifF y271_4 rfl (y_bneF rfl) ?_
    refine w_K y271_7 ?_
    exact y_ret (v := .int (yb false)) y271_8 y_rtb ⟨false, rfl, rfl, h2⟩
  | inr q =>
    rw [hq] at h1
    obtain ⟨rfl, nd1, h2, ⟨c1, c2, c3⟩, hp⟩ := (show b = true ∧ ∃ nd1, yR T n m q.1 Nm ng q.2 w nd1 σ1 ∧ (nd1 + 1 ≤ nd + 2 * (q.2 - o) ∧ o < q.2 ∧ q.2 ≤ 20) ∧ p < q.1 from h1)
    have hp1 := yR_p h2
    refine w_ifT y271_4 rfl (y_bneT rfl) ?_
    refine w_A y271_9 rfl ?_
    refine R_g48 y271_10 h2 (fun t => ?_)
    refine w_IS y271_13 ?_
    refine zGo_imp (IH2 w q.2 nd1 q.1 (d + 1) σ1 _ t (by omega) (by omega) hw c3 (by omega) h2 rfl rfl) (fun r σ2 hr => ?_)
    obtain ⟨b, rfl, hb⟩ := hr
    exact ⟨b, rfl, yOL_S hb hp c1 c2⟩
theorem ym_sx3 {f : Nat} (hn : n ≤ 940) (hm : m ≤ 940) (hT : ∀ i, T i ≤ 255) (IH1 : yPm L xs T n m Nm ng f 272 4 1 8) (IH2 : yQm L xs T n m Nm ng f 271 3 9) : yQm L xs T n m Nm ng (f + 1) 271 3 9 := by
  intro w o nd p d σ lv a hf hd hw ho hnd h l0 l1
  obtain ⟨d, rfl⟩ : ∃ e, d = e + 4 := ⟨d - 4, by omega⟩
  have hp9 := yR_p h
  have un : ySx T n m Nm ng (f + 1) 3 w o p = (if yisW T n m p 16 = true then yThen (ySx T n m Nm ng f 4 w o (yto T n m p)) fun q => ySx T n m Nm ng f 3 w q.2 q.1 else .inr (p, o)) := rfl
  rw [un]
  refine w_A y271_14 l0 ?_
  refine w_K y271_15 ?_
  refine R_iw (by decide) y271_17 rfl h ?_
  rcases y_bc (yisW T n m p 16) with e | e
  · rw [if_neg (by rw [e]; decide)]
    refine w_ifT y271_20 rfl (y_beqT e) ?_
    refine w_A y271_51 l0 ?_
    refine w_I y271_52 l1 ?_
    refine R_p48 y271_53 h (fun σ1 h1 => ?_)
    refine w_K y271_56 ?_
    exact y_ret (v := .int (yb true)) y271_57 y_rtb ⟨true, rfl, rfl, nd, h1, ⟨by omega, Nat.le_refl o, ho⟩, Nat.le_refl p⟩
  · rw [if_pos e]
    have hgt : p < yto T n m p := yto_gt (by rw [(of_decide_eq_true e).1]; exact Nat.le_refl 2)
    refine w_ifF y271_20 rfl (y_beqF e) ?_
    refine w_A y271_23 l0 ?_
    refine R_go hn hm hT y271_24 rfl h (fun σ1 h1 => ?_)
    have hp1 := yR_p h1
    obtain ⟨V, g⟩ := yR_g h1
    obtain ⟨b, σ2, r2, h2⟩ := IH1 w o nd (yto T n m p) (d + 3) σ1 (by omega) (by omega) hw ho (by omega) h1
    refine w_A y271_27 l0 ?_
    refine y_call y271_28 (y_args6 g rfl rfl) rfl r2 ?_
    cases hq : ySx T n m Nm ng f 4 w o (yto T n m p) with
    | inl e =>
      rw [hq] at h2
      obtain ⟨rfl, h3⟩ := (show b = false ∧ yB e σ2 from h2)
      refine w_ifF y271_31 rfl (y_bneF rfl) ?_
      refine w_K y271_34 ?_
      exact y_ret (v := .int (yb false)) y271_35 y_rtb ⟨false, rfl, rfl, h3⟩
    | inr q =>
      rw [hq] at h2
      obtain ⟨rfl, nd1, h3, ⟨c1, c2, c3⟩, hp⟩ := (show b = true ∧ ∃ nd1, yR T n m q.1 Nm ng q.2 w nd1 σ2 ∧ (nd1 + 1 ≤ nd + 2 * (q.2 - o) ∧ o < q.2 ∧ q.2 ≤ 20) ∧ yto T n m p < q.1 from h2)
      have hp3 := yR_p h3
      refine w_ifT y271_31 rfl (y_bneT rfl) ?_
      refine w_A y271_36 l0 ?_
      refine w_K y271_37 ?_
      refine w_I y271_38 l1 ?_
      refine w_A y271_39 l0 ?_
      refine R_g48 y271_40 h3 (fun t => ?_)
      refine w_K y271_43 ?_
      refine R_so (by omega) y271_44 rfl h3 (fun x σ3 h4 => ?_)
      refine w_IS y271_47 ?_
      refine w_go y271_48 rfl ?_
      refine zGo_imp (IH2 w q.2 (nd1 + 1) q.1 (d + 4) σ3 _ x (by omega) (by omega) hw c3 (by omega) h4 (y_l1 rfl rfl l0) y_l0) (fun r σ4 hr => ?_)
      obtain ⟨b, rfl, hb⟩ := hr
      exact ⟨b, rfl, yOL_L hb (by omega) (by omega) (by omega)⟩
/-- which word stands here, from 17 on -/
theorem ym_sw {Post : Option Value → iv_H → Prop} {p o w nd d : Nat} {σ : iv_H} {b1 : Int32} (h : yR T n m p Nm ng o w nd σ) : ∀ (j k : Nat) (lv : iv_L), k + j = 27 → iv_f1 lv 0 = some (.ref 548) → iv_f1 lv 1 = some (.int b1) → iv_f1 lv 2 = some (.int (Int32.ofNat k)) → (∀ lv1, iv_f1 lv1 0 = some (.ref 548) → iv_f1 lv1 1 = some (.int b1) → iv_f1 lv1 2 = some (.int (Int32.ofNat (yFw T n m p j k))) → zGo L xs Post [] (d + 3) 272 30 lv1 [] σ) → zGo L xs Post [] (d + 3) 272 10 lv [] σ := by
  intro j
  induction j with
  | zero =>
    intro k lv hk l0 l1 l2 K
    refine w_I y272_10 l2 ?_
    refine w_K y272_11 ?_
    refine y_icT y272_13 rfl (by omega) (by omega) (by simp only [zch]; omega) ?_
    exact K lv l0 l1 l2
  | succ j ih =>
    intro k lv hk l0 l1 l2 K
    refine w_I y272_10 l2 ?_
    refine w_K y272_11 ?_
    refine y_icF y272_13 rfl (by omega) (by omega) (by simp only [zch]; omega) ?_
    refine w_A y272_16 l0 ?_
    refine w_I y272_17 l2 ?_
    refine R_iw (by omega) y272_18 rfl h ?_
    rcases y_bc (yisW T n m p k) with e | e
    · refine w_ifF y272_21 rfl (y_bneF e) ?_
      refine w_inc y272_24 (x := k) l2 ?_
      refine w_go y272_27 rfl ?_
      have un : yFw T n m p (j + 1) k = yFw T n m p j (k + 1) := if_neg (by rw [e]; decide)
      rw [un] at K
      exact ih (k + 1) _ (by omega) (y_l1 rfl rfl l0) (y_l1 rfl rfl l1) y_l0 K
    · refine w_ifT y272_21 rfl (y_bneT e) ?_
      have un : yFw T n m p (j + 1) k = k := if_pos e
      rw [un] at K
      exact K lv l0 l1 l2
theorem ym_brk {f p o w nd d : Nat} {σ : iv_H} (hn : n ≤ 940) (hm : m ≤ 940) (hT : ∀ i, T i ≤ 255) (IH : yPm L xs T n m Nm ng f 270 0 3 10) (hf : 3 * (941 - p) + 3 ≤ f) (hd : 4 * (9 - w) + 11 ≤ d) (hw : w ≤ 8) (ho : o ≤ 20) (hnd : nd ≤ 2 * o) (h : yR T n m p Nm ng o w nd σ) : ∃ b σ1, iv_Rn L xs d 274 0 (lv_args 0 [.ref 548]) [] σ (some (.int (yb b))) σ1 ∧ yOS T n m p Nm ng o w nd (yThen (ySx T n m Nm ng f 0 w o p) fun q => if yMk T n m q.1 41 = true then .inr (yto T n m q.1, q.2) else .inl (ybd T n m q.1 1)) b σ1 := by
  obtain ⟨d, rfl⟩ : ∃ e, d = e + 4 := ⟨d - 4, by omega⟩
  obtain ⟨b, σ1, r1, h1⟩ := IH w o nd p (d + 3) σ hf (by omega) hw ho hnd h
  obtain ⟨V, g⟩ := yR_g h
  refine y_RbE ?_
  refine w_A y274_0 rfl ?_
  refine y_call y274_1 (y_args6 g rfl rfl) rfl r1 ?_
  cases hq : ySx T n m Nm ng f 0 w o p with
  | inl e =>
    rw [hq] at h1
    obtain ⟨rfl, h2⟩ := (show b = false ∧ yB e σ1 from h1)
    refine w_ifF y274_4 rfl (y_bneF rfl) ?_
    refine w_K y274_7 ?_
    exact y_ret (v := .int (yb false)) y274_8 y_rtb ⟨false, rfl, rfl, h2⟩
  | inr q =>
    rw [hq] at h1
    obtain ⟨rfl, nd1, h2, c, hp⟩ := (show b = true ∧ ∃ nd1, yR T n m q.1 Nm ng q.2 w nd1 σ1 ∧ (nd1 + 1 ≤ nd + 2 * (q.2 - o) ∧ o < q.2 ∧ q.2 ≤ 20) ∧ p < q.1 from h1)
    refine w_ifT y274_4 rfl (y_bneT rfl) ?_
    refine w_A y274_9 rfl ?_
    refine w_K y274_10 ?_
    refine R_is hT (by decide) y274_12 rfl h2 ?_
    show zGo L xs (fun r σ2 => ∃ b, r = some (.int (yb b)) ∧ yOS T n m p Nm ng o w nd (if yMk T n m q.1 41 = true then .inr (yto T n m q.1, q.2) else .inl (ybd T n m q.1 1)) b σ2) [] (d + 4) 274 15 _ _ σ1
    rcases y_bc (yMk T n m q.1 41) with e | e
    · rw [if_neg (by rw [e]; decide)]
      refine w_ifF y274_15 rfl (y_bneF e) ?_
      refine w_A y274_18 rfl ?_
      refine w_K y274_19 ?_
      refine R_bad y274_20 rfl h2 (fun σ2 h3 => ?_)
      exact y_ret y274_23 y_rtb ⟨false, rfl, rfl, h3⟩
    · rw [if_pos e]
      refine w_ifT y274_15 rfl (y_bneT e) ?_
      refine w_A y274_24 rfl ?_
      refine R_go hn hm hT y274_25 rfl h2 (fun σ2 h3 => ?_)
      refine w_K y274_28 ?_
      have hgt : q.1 < yto T n m q.1 := yto_gt (by rw [yMk_k e]; decide)
      exact y_ret (v := .int (yb true)) y274_29 y_rtb ⟨true, rfl, rfl, nd1, h3, c, by show p < yto T n m q.1; omega⟩
theorem ym_not {f p o w nd d : Nat} {σ : iv_H} (IH : yPm L xs T n m Nm ng f 272 4 1 8) (hf : 3 * (941 - p) + 1 ≤ f) (hd : 4 * (9 - w) + 9 ≤ d) (hw : w ≤ 8) (ho : o ≤ 20) (hnd : nd ≤ 2 * o) (h : yR T n m p Nm ng o w nd σ) : ∃ b σ1, iv_Rn L xs d 273 0 (lv_args 0 [.ref 548]) [] σ (some (.int (yb b))) σ1 ∧ yOL T n m p Nm ng o w nd (ySx T n m Nm ng f 4 w o p) b σ1 := by
  obtain ⟨d, rfl⟩ : ∃ e, d = e + 4 := ⟨d - 4, by omega⟩
  obtain ⟨b, σ1, r1, h1⟩ := IH w o nd p (d + 3) σ hf (by omega) hw ho hnd h
  obtain ⟨V, g⟩ := yR_g h
  refine y_RbE ?_
  refine w_A y273_0 rfl ?_
  refine y_call y273_1 (y_args6 g rfl rfl) rfl r1 ?_
  cases hq : ySx T n m Nm ng f 4 w o p with
  | inl e =>
    rw [hq] at h1
    obtain ⟨rfl, h2⟩ := (show b = false ∧ yB e σ1 from h1)
    refine w_ifF y273_4 rfl (y_bneF rfl) ?_
    refine w_K y273_7 ?_
    exact y_ret (v := .int (yb false)) y273_8 y_rtb ⟨false, rfl, rfl, h2⟩
  | inr q =>
    rw [hq] at h1
    obtain ⟨rfl, nd1, h2, ⟨c1, c2, c3⟩, hp⟩ := (show b = true ∧ ∃ nd1, yR T n m q.1 Nm ng q.2 w nd1 σ1 ∧ (nd1 + 1 ≤ nd + 2 * (q.2 - o) ∧ o < q.2 ∧ q.2 ≤ 20) ∧ p < q.1 from h1)
    refine w_ifT y273_4 rfl (y_bneT rfl) ?_
    refine w_A y273_9 rfl ?_
    refine w_A y273_10 rfl ?_
    refine w_K y273_11 ?_
    refine w_A y273_12 rfl ?_
    refine R_g48 y273_13 h2 (fun t => ?_)
    refine w_K y273_16 ?_
    refine w_K y273_17 ?_
    refine R_so (by omega) y273_18 rfl h2 (fun x σ2 h3 => ?_)
    refine R_p48 y273_21 h3 (fun σ3 h4 => ?_)
    refine w_K y273_24 ?_
    exact y_ret (v := .int (yb true)) y273_25 y_rtb ⟨true, rfl, rfl, nd1 + 1, h4, ⟨by omega, by omega, c3⟩, by omega⟩
/-- the end of a SAID, one less within -/
theorem ym_s166b {p o w nd d : Nat} {q : yE (Nat × Nat)} {e : Nat × Nat} {σ : iv_H} {lv : iv_L} (hq : q = .inl e) (h : yB e σ) (l0 : iv_f1 lv 0 = some (.ref 548)) (l3 : iv_f1 lv 3 = some (.int (yb false))) : zGo L xs (fun r σ1 => ∃ b, r = some (.int (yb b)) ∧ yOS T n m p Nm ng o w nd q b σ1) [] d 272 166 lv [] σ := by
  subst hq
  obtain ⟨V, ⟨g, e10, e11⟩, x, h47⟩ := h
  refine w_A y272_166 l0 ?_
  refine y_dup y272_167 rfl ?_
  refine y_gf y272_168 g rfl h47 ?_
  refine w_K y272_171 ?_
  refine y_II y272_172 ?_
  refine y_pf y272_173 g rfl rfl (fun σ1 m1 => ?_)
  refine w_I y272_176 l3 ?_
  exact y_ret y272_177 y_rtb ⟨false, rfl, rfl, _, ⟨m1.2.1, e10, e11⟩, _, rfl⟩
theorem ym_s166g {p o w nd nd1 d : Nat} {q : yE (Nat × Nat)} {r : Nat × Nat} {σ : iv_H} {lv : iv_L} (hq : q = .inr r) (h : yR T n m r.1 Nm ng r.2 (w + 1) nd1 σ) (hw : w ≤ 8) (hc : nd1 + 1 ≤ nd + 2 * (r.2 - o) ∧ o < r.2 ∧ r.2 ≤ 20) (hp : p < r.1) (l0 : iv_f1 lv 0 = some (.ref 548)) (l3 : iv_f1 lv 3 = some (.int (yb true))) : zGo L xs (fun r σ1 => ∃ b, r = some (.int (yb b)) ∧ yOS T n m p Nm ng o w nd q b σ1) [] d 272 166 lv [] σ := by
  subst hq
  refine w_A y272_166 l0 ?_
  refine y_dup y272_167 rfl ?_
  refine R_g47 y272_168 h ?_
  refine w_K y272_171 ?_
  refine y_sub y272_172 (by omega) (by omega) ?_
  refine R_p47 (w2 := w) y272_173 h (fun σ1 h1 => ?_)
  refine w_I y272_176 l3 ?_
  exact y_ret y272_177 y_rtb ⟨true, rfl, rfl, nd1, h1, hc, hp⟩
set_option maxHeartbeats 1000000 in
theorem ym_sx4 {f : Nat} (hg : ng ≤ 6) (hn : n ≤ 940) (hm : m ≤ 940) (hT : ∀ i, T i ≤ 255) (IH0 : yPm L xs T n m Nm ng f 270 0 3 10) (IH4 : yPm L xs T n m Nm ng f 272 4 1 8) : yPm L xs T n m Nm ng (f + 1) 272 4 1 8 := by
  intro w o nd p d σ hf hd hw ho hnd h
  obtain ⟨d, rfl⟩ : ∃ e, d = e + 12 := ⟨d - 12, by omega⟩
  have hp9 := yR_p h
  obtain ⟨V, g⟩ := yR_g h
  refine y_RbE ?_
  have un : ySx T n m Nm ng (f + 1) 4 w o p = (if yMk T n m p 40 = false ∧ 26 < yFw T n m p 10 17 then .inl (ybd T n m p 1)
    else if o = 20 ∨ w = 8 then .inl (ybd T n m p 4)
    else if yMk T n m p 40 = true then yThen (ySx T n m Nm ng f 0 (w + 1) (o + 1) (yto T n m p)) fun q => if yMk T n m q.1 41 = true then .inr (yto T n m q.1, q.2) else .inl (ybd T n m q.1 1)
    else if yFw T n m p 10 17 = 17 then ySx T n m Nm ng f 4 (w + 1) (o + 1) (yto T n m p)
    else if yFw T n m p 10 17 < 22 then .inr (yto T n m p, o + 1)
    else if yFw T n m p 10 17 < 23 then yThen (yNmd T n m Nm 7 ng (yto T n m p)) fun _ => .inr (yto T n m (yto T n m p), o + 1)
    else yThen (yCmp T n m (yto T n m p)) fun q => .inr (q, o + 1)) := rfl
  rw [un]
  have hW := yFw_le (T := T) (n := n) (m := m) (p := p) (j := 10) (k := 17)
  have hWk := yFw_k (T := T) (n := n) (m := m) (p := p) (j := 10) (k := 17)
  refine w_A y272_0 rfl ?_
  refine w_K y272_1 ?_
  refine R_is hT (by decide) y272_3 rfl h ?_
  refine w_IS y272_6 ?_
  refine w_K y272_7 ?_
  refine w_IS y272_9 ?_
  refine ym_sw (d := d + 9) h 10 17 _ rfl rfl rfl rfl (fun lv l0 l1 l2 => ?_)
  generalize yFw T n m p 10 17 = W at hW hWk l2 ⊢
  have big : ∀ (Z : yE (Nat × Nat)), (yMk T n m p 40 = true ∨ W < 27) → Z = (if yMk T n m p 40 = true then yThen (ySx T n m Nm ng f 0 (w + 1) (o + 1) (yto T n m p)) fun q => if yMk T n m q.1 41 = true then .inr (yto T n m q.1, q.2) else .inl (ybd T n m q.1 1)
    else if W = 17 then ySx T n m Nm ng f 4 (w + 1) (o + 1) (yto T n m p)
    else if W < 22 then .inr (yto T n m p, o + 1)
    else if W < 23 then yThen (yNmd T n m Nm 7 ng (yto T n m p)) fun _ => .inr (yto T n m (yto T n m p), o + 1)
    else yThen (yCmp T n m (yto T n m p)) fun q => .inr (q, o + 1)) → o < 20 → w < 8 → zGo L xs (fun r σ1 => ∃ b, r = some (.int (yb b)) ∧ yOS T n m p Nm ng o w nd Z b σ1) [] (d + 12) 272 70 lv [] σ := by
    intro Z hk hZ ho2 hw2
    have hgt : p < yto T n m p := yto_gt (by
      rcases hk with e | e
      · rw [yMk_k e]; decide
      · rw [hWk (by omega)]; decide)
    refine w_A y272_70 l0 ?_
    refine y_dup y272_71 rfl ?_
    refine R_g46 y272_72 h ?_
    refine w_K y272_75 ?_
    refine w_add y272_76 ?_
    refine R_p46 y272_77 h (fun σ1 h1 => ?_)
    refine w_A y272_80 l0 ?_
    refine y_dup y272_81 rfl ?_
    refine R_g47 y272_82 h1 ?_
    refine w_K y272_85 ?_
    refine w_add y272_86 ?_
    refine R_p47 y272_87 h1 (fun σ2 h2 => ?_)
    refine w_A y272_90 l0 ?_
    refine R_go hn hm hT y272_91 rfl h2 (fun σ3 h3 => ?_)
    have hp3 := yR_p h3
    obtain ⟨V3, g3⟩ := yR_g h3
    refine w_K y272_94 ?_
    refine w_IS y272_95 ?_
    have k0 := y_l1 (i := 3) (v := .int (Int32.ofNat 1)) rfl rfl l0
    have k1 := y_l1 (i := 3) (v := .int (Int32.ofNat 1)) rfl rfl l1
    have k2 := y_l1 (i := 3) (v := .int (Int32.ofNat 1)) rfl rfl l2
    refine w_I y272_96 k1 ?_
    rcases y_bc (yMk T n m p 40) with eo | eo
    · rw [if_neg (by rw [eo]; decide)] at hZ
      have hW2 : W < 27 := by
        rcases hk with e | e
        · rw [eo] at e; cases e
        · exact e
      refine w_ifT y272_97 rfl (y_beqT eo) ?_
      refine w_I y272_108 k2 ?_
      refine w_K y272_109 ?_
      by_cases c4 : W = 17
      · rw [if_pos c4] at hZ
        refine y_icF y272_111 rfl (by omega) (by omega) (by simp only [zch]; omega) ?_
        obtain ⟨b, σ4, r4, h4⟩ := ym_not (d := d + 11) IH4 (by omega) (by omega) (by omega) (by omega) (by omega) h3
        refine w_A y272_114 k0 ?_
        refine y_call y272_115 (y_args6 g3 rfl rfl) rfl r4 ?_
        refine w_IS y272_118 ?_
        refine w_go y272_119 rfl ?_
        cases hq : ySx T n m Nm ng f 4 (w + 1) (o + 1) (yto T n m p) with
        | inl e =>
          rw [hq] at h4 hZ
          obtain ⟨rfl, h5⟩ := (show b = false ∧ yB e σ4 from h4)
          exact ym_s166b hZ h5 (y_l1 rfl rfl k0) y_l0
        | inr q =>
          rw [hq] at h4 hZ
          obtain ⟨rfl, nd1, h5, ⟨c1, c2, c3⟩, hp5⟩ := (show b = true ∧ ∃ nd1, yR T n m q.1 Nm ng q.2 (w + 1) nd1 σ4 ∧ (nd1 ≤ nd + 2 * (q.2 - (o + 1)) ∧ o + 1 ≤ q.2 ∧ q.2 ≤ 20) ∧ yto T n m p ≤ q.1 from h4)
          exact ym_s166g hZ h5 hw ⟨by omega, by omega, c3⟩ (by omega) (y_l1 rfl rfl k0) y_l0
      · rw [if_neg c4] at hZ
        refine y_icT y272_111 rfl (by omega) (by omega) (by simp only [zch]; omega) ?_
        refine w_I y272_122 k2 ?_
        refine w_K y272_123 ?_
        by_cases c5 : W < 22
        · rw [if_pos c5] at hZ
          refine y_icF y272_125 rfl (by omega) (by omega) (by simp only [zch]; omega) ?_
          refine w_A y272_128 k0 ?_
          refine w_A y272_129 k0 ?_
          refine w_K y272_130 ?_
          refine w_I y272_132 k2 ?_
          refine w_add y272_133 ?_
          refine w_K y272_134 ?_
          refine w_K y272_135 ?_
          refine w_K y272_136 ?_
          refine R_so (by omega) y272_137 rfl h3 (fun x σ4 h4 => ?_)
          refine R_p48 y272_140 h4 (fun σ5 h5 => ?_)
          refine w_go y272_143 rfl ?_
          exact ym_s166g hZ h5 hw ⟨by show nd + 1 + 1 ≤ nd + 2 * (o + 1 - o); omega, by show o < o + 1; omega, by show o + 1 ≤ 20; omega⟩ hgt k0 y_l0
        · rw [if_neg c5] at hZ
          refine y_icT y272_125 rfl (by omega) (by omega) (by simp only [zch]; omega) ?_
          refine w_I y272_146 k2 ?_
          refine w_K y272_147 ?_
          by_cases c6 : W < 23
          · rw [if_pos c6] at hZ
            refine y_icF y272_149 rfl (by omega) (by omega) (by simp only [zch]; omega) ?_
            obtain ⟨b, σ4, r4, h4⟩ := ym_of (L := L) (xs := xs) (d := d + 6) (a := Int32.ofNat W) (by omega) hg hn hm hT h3
            refine w_A y272_152 k0 ?_
            refine w_I y272_153 k2 ?_
            refine y_call y272_154 (y_args6 g3 rfl rfl) rfl r4 ?_
            refine w_go y272_157 rfl ?_
            refine w_IS y272_165 ?_
            cases hq : yNmd T n m Nm 7 ng (yto T n m p) with
            | inl e =>
              rw [hq] at h4 hZ
              obtain ⟨rfl, h5⟩ := (show b = false ∧ yB e σ4 from h4)
              exact ym_s166b hZ h5 (y_l1 rfl rfl k0) y_l0
            | inr q =>
              have hk2 : ykd T n m (yto T n m p) = 2 := by
                unfold yNmd at hq
                by_cases e : yisN T n m (yto T n m p) = true
                · exact (of_decide_eq_true e).1
                · rw [if_neg e] at hq
                  cases hq
              rw [hq] at h4 hZ
              obtain ⟨rfl, h5⟩ := (show b = true ∧ yR T n m (yto T n m (yto T n m p)) Nm ng (o + 1) (w + 1) (nd + 1) σ4 from h4)
              have hgt2 : yto T n m p < yto T n m (yto T n m p) := yto_gt (by rw [hk2]; decide)
              exact ym_s166g hZ h5 hw ⟨by show nd + 1 + 1 ≤ nd + 2 * (o + 1 - o); omega, by show o < o + 1; omega, by show o + 1 ≤ 20; omega⟩ (by show p < yto T n m (yto T n m p); omega) (y_l1 rfl rfl k0) y_l0
          · rw [if_neg c6] at hZ
            refine y_icT y272_149 rfl (by omega) (by omega) (by simp only [zch]; omega) ?_
            obtain ⟨b, σ4, r4, h4⟩ := ym_cmp (L := L) (xs := xs) (d := d + 7) (a := Int32.ofNat W) (by omega) hn hm hT h3
            refine w_A y272_160 k0 ?_
            refine w_I y272_161 k2 ?_
            refine y_call y272_162 (y_args6 g3 rfl rfl) rfl r4 ?_
            refine w_IS y272_165 ?_
            cases hq : yCmp T n m (yto T n m p) with
            | inl e =>
              rw [hq] at h4 hZ
              obtain ⟨rfl, h5⟩ := (show b = false ∧ yB e σ4 from h4)
              exact ym_s166b hZ h5 (y_l1 rfl rfl k0) y_l0
            | inr q =>
              have hge := yCmp_ge hq
              rw [hq] at h4 hZ
              obtain ⟨rfl, h5⟩ := (show b = true ∧ yR T n m q Nm ng (o + 1) (w + 1) (nd + 1) σ4 from h4)
              exact ym_s166g hZ h5 hw ⟨by show nd + 1 + 1 ≤ nd + 2 * (o + 1 - o); omega, by show o < o + 1; omega, by show o + 1 ≤ 20; omega⟩ (by show p < q; omega) (y_l1 rfl rfl k0) y_l0
    · rw [if_pos eo] at hZ
      refine w_ifF y272_97 rfl (y_beqF eo) ?_
      obtain ⟨b, σ4, r4, h4⟩ := ym_brk (d := d + 11) hn hm hT IH0 (by omega) (by omega) (by omega) (by omega) (by omega) h3
      rw [← hZ] at h4
      refine w_A y272_100 k0 ?_
      refine y_call y272_101 (y_args6 g3 rfl rfl) rfl r4 ?_
      refine w_IS y272_104 ?_
      refine w_go y272_105 rfl ?_
      cases Z with
      | inl e =>
        obtain ⟨rfl, h5⟩ := (show b = false ∧ yB e σ4 from h4)
        exact ym_s166b rfl h5 (y_l1 rfl rfl k0) y_l0
      | inr q =>
        obtain ⟨rfl, nd1, h5, ⟨c1, c2, c3⟩, hp5⟩ := (show b = true ∧ ∃ nd1, yR T n m q.1 Nm ng q.2 (w + 1) nd1 σ4 ∧ (nd1 + 1 ≤ nd + 2 * (q.2 - (o + 1)) ∧ o + 1 < q.2 ∧ q.2 ≤ 20) ∧ yto T n m p < q.1 from h4)
        exact ym_s166g rfl h5 hw ⟨by omega, by omega, c3⟩ (by omega) (y_l1 rfl rfl k0) y_l0
  have rest : ¬ (yMk T n m p 40 = false ∧ 26 < W) → zGo L xs (fun r σ1 => ∃ b, r = some (.int (yb b)) ∧ yOS T n m p Nm ng o w nd (if o = 20 ∨ w = 8 then .inl (ybd T n m p 4) else if yMk T n m p 40 = true then yThen (ySx T n m Nm ng f 0 (w + 1) (o + 1) (yto T n m p)) fun q => if yMk T n m q.1 41 = true then .inr (yto T n m q.1, q.2) else .inl (ybd T n m q.1 1)
    else if W = 17 then ySx T n m Nm ng f 4 (w + 1) (o + 1) (yto T n m p)
    else if W < 22 then .inr (yto T n m p, o + 1)
    else if W < 23 then yThen (yNmd T n m Nm 7 ng (yto T n m p)) fun _ => .inr (yto T n m (yto T n m p), o + 1)
    else yThen (yCmp T n m (yto T n m p)) fun q => .inr (q, o + 1)) b σ1) [] (d + 12) 272 46 lv [] σ := fun hno => by
    have hk : yMk T n m p 40 = true ∨ W < 27 := by
      rcases y_bc (yMk T n m p 40) with e | e
      · exact .inr (Nat.lt_of_not_le fun h2 => hno ⟨e, h2⟩)
      · exact .inl e
    have too : (o = 20 ∨ w = 8) → zGo L xs (fun r σ1 => ∃ b, r = some (.int (yb b)) ∧ yOS T n m p Nm ng o w nd (.inl (ybd T n m p 4)) b σ1) [] (d + 12) 272 64 lv [] σ := fun _ => by
      refine w_A y272_64 l0 ?_
      refine w_K y272_65 ?_
      refine R_bad y272_66 rfl h (fun σ1 h1 => ?_)
      exact y_ret y272_69 y_rtb ⟨false, rfl, rfl, h1⟩
    refine w_A y272_46 l0 ?_
    refine R_g46 y272_47 h ?_
    refine w_K y272_50 ?_
    by_cases c2 : o = 20
    · rw [if_pos (Or.inl c2)]
      exact y_icT y272_52 rfl (by omega) (by omega) (by simp only [zch]; omega) (too (.inl c2))
    · refine y_icF y272_52 rfl (by omega) (by omega) (by simp only [zch]; omega) ?_
      refine w_A y272_55 l0 ?_
      refine R_g47 y272_56 h ?_
      refine w_K y272_59 ?_
      by_cases c3 : w = 8
      · rw [if_pos (Or.inr c3)]
        exact y_icF y272_61 rfl (by omega) (by omega) (by simp only [zch]; omega) (too (.inr c3))
      · rw [if_neg (by omega)]
        exact y_icT y272_61 rfl (by omega) (by omega) (by simp only [zch]; omega) (big _ hk rfl (by omega) (by omega))
  refine w_I y272_30 l1 ?_
  rcases y_bc (yMk T n m p 40) with eo | eo
  · refine w_ifF y272_31 rfl (y_bneF eo) ?_
    refine w_I y272_34 l2 ?_
    refine w_K y272_35 ?_
    by_cases c1 : 26 < W
    · rw [if_pos (And.intro eo c1)]
      refine y_icF y272_37 rfl (by omega) (by omega) (by simp only [zch]; omega) ?_
      refine w_A y272_40 l0 ?_
      refine w_K y272_41 ?_
      refine R_bad y272_42 rfl h (fun σ1 h1 => ?_)
      exact y_ret y272_45 y_rtb ⟨false, rfl, rfl, h1⟩
    · rw [if_neg (fun h2 : yMk T n m p 40 = false ∧ 26 < W => c1 h2.2)]
      exact y_icT y272_37 rfl (by omega) (by omega) (by simp only [zch]; omega) (rest (fun h2 => c1 h2.2))
  · rw [if_neg (fun h2 : yMk T n m p 40 = false ∧ 26 < W => by rw [eo] at h2; cases h2.1)]
    exact w_ifT y272_31 rfl (y_bneT eo) (rest (fun h2 => by rw [eo] at h2; cases h2.1))
theorem ym_sx (hg : ng ≤ 6) (hn : n ≤ 940) (hm : m ≤ 940) (hT : ∀ i, T i ≤ 255) : ∀ f, yPm L xs T n m Nm ng f 270 0 3 10 ∧ yPm L xs T n m Nm ng f 271 1 2 9 ∧ yQm L xs T n m Nm ng f 270 2 10 ∧ yQm L xs T n m Nm ng f 271 3 9 ∧ yPm L xs T n m Nm ng f 272 4 1 8
  | 0 => ⟨fun w o nd p d σ hf => by omega, fun w o nd p d σ hf => by omega, fun w o nd p d σ lv a hf => by omega, fun w o nd p d σ lv a hf => by omega, fun w o nd p d σ hf => by omega⟩
  | f + 1 => by
    obtain ⟨h0, h1, h2, h3, h4⟩ := ym_sx hg hn hm hT f
    exact ⟨ym_sx0 h1 h2, ym_sx1 h4 h3, ym_sx2 hn hm hT h1 h2, ym_sx3 hn hm hT h4 h3, ym_sx4 hg hn hm hT h0 h4⟩
end SM
