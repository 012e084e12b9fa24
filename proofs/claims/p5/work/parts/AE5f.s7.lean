/-! ===== the class reads a sentence ===== -/
set_option maxRecDepth 100000 in
theorem y63_0 : iv_f1 (iv_p 63) 0 = some (.inl (iv_oA 0 1)) := rfl
set_option maxRecDepth 100000 in
theorem y63_1 : iv_f1 (iv_p 63) 1 = some (.inl (iv_oA 1 1)) := rfl
set_option maxRecDepth 100000 in
theorem y63_2 : iv_f1 (iv_p 63) 2 = some (.inl (iv_oA 2 1)) := rfl
set_option maxRecDepth 100000 in
theorem y63_3 : iv_f1 (iv_p 63) 3 = some (.inl (iv_oI 3 1)) := rfl
set_option maxRecDepth 100000 in
theorem y63_4 : iv_f1 (iv_p 63) 4 = some (.inr (.inr (6, 64, 3, 6))) := rfl
set_option maxRecDepth 100000 in
theorem y63_7 : iv_f1 (iv_p 63) 7 = some (.inl (iv_oIf .ne (5))) := rfl
set_option maxRecDepth 100000 in
theorem y63_10 : iv_f1 (iv_p 63) 10 = some (.inl (iv_oK (.int (Int32.ofNat 0)) 1)) := rfl
set_option maxRecDepth 100000 in
theorem y63_11 : iv_f1 (iv_p 63) 11 = some (.inr (.inl 2)) := rfl
set_option maxRecDepth 100000 in
theorem y63_12 : iv_f1 (iv_p 63) 12 = some (.inl (iv_oK (.int (Int32.ofNat 0)) 1)) := rfl
set_option maxRecDepth 100000 in
theorem y63_13 : iv_f1 (iv_p 63) 13 = some (.inl (iv_oIS 4 2)) := rfl
set_option maxRecDepth 100000 in
theorem y63_15 : iv_f1 (iv_p 63) 15 = some (.inl (iv_oI 4 2)) := rfl
set_option maxRecDepth 100000 in
theorem y63_17 : iv_f1 (iv_p 63) 17 = some (.inl (iv_oK (.int (Int32.ofNat 20)) 2)) := rfl
set_option maxRecDepth 100000 in
theorem y63_19 : iv_f1 (iv_p 63) 19 = some (.inl (iv_oIc .ge (45))) := rfl
set_option maxRecDepth 100000 in
theorem y63_22 : iv_f1 (iv_p 63) 22 = some (.inl (iv_oA 1 1)) := rfl
set_option maxRecDepth 100000 in
theorem y63_23 : iv_f1 (iv_p 63) 23 = some (.inl (iv_oGF 5 9)) := rfl
set_option maxRecDepth 100000 in
theorem y63_26 : iv_f1 (iv_p 63) 26 = some (.inl (iv_oS 35)) := rfl
set_option maxRecDepth 100000 in
theorem y63_29 : iv_f1 (iv_p 63) 29 = some (.inl (iv_oAc (35))) := rfl
set_option maxRecDepth 100000 in
theorem y63_32 : iv_f1 (iv_p 63) 32 = some (.inl (iv_oA 1 1)) := rfl
set_option maxRecDepth 100000 in
theorem y63_33 : iv_f1 (iv_p 63) 33 = some (.inr (.inr (6, 52, 0, 5))) := rfl
set_option maxRecDepth 100000 in
theorem y63_36 : iv_f1 (iv_p 63) 36 = some (.inl (iv_oA 0 1)) := rfl
set_option maxRecDepth 100000 in
theorem y63_37 : iv_f1 (iv_p 63) 37 = some (.inl (iv_oA 1 1)) := rfl
set_option maxRecDepth 100000 in
theorem y63_38 : iv_f1 (iv_p 63) 38 = some (.inl (iv_oA 2 1)) := rfl
set_option maxRecDepth 100000 in
theorem y63_39 : iv_f1 (iv_p 63) 39 = some (.inl (iv_oI 3 1)) := rfl
set_option maxRecDepth 100000 in
theorem y63_40 : iv_f1 (iv_p 63) 40 = some (.inr (.inr (6, 64, 3, 6))) := rfl
set_option maxRecDepth 100000 in
theorem y63_43 : iv_f1 (iv_p 63) 43 = some (.inl (iv_oIf .ne (5))) := rfl
set_option maxRecDepth 100000 in
theorem y63_46 : iv_f1 (iv_p 63) 46 = some (.inl (iv_oK (.int (Int32.ofNat 0)) 1)) := rfl
set_option maxRecDepth 100000 in
theorem y63_47 : iv_f1 (iv_p 63) 47 = some (.inr (.inl 2)) := rfl
set_option maxRecDepth 100000 in
theorem y63_48 : iv_f1 (iv_p 63) 48 = some (.inl (iv_oA 0 1)) := rfl
set_option maxRecDepth 100000 in
theorem y63_49 : iv_f1 (iv_p 63) 49 = some (.inl (iv_oS 35)) := rfl
set_option maxRecDepth 100000 in
theorem y63_52 : iv_f1 (iv_p 63) 52 = some (.inl (iv_oK (.int (Int32.ofNat 0)) 1)) := rfl
set_option maxRecDepth 100000 in
theorem y63_53 : iv_f1 (iv_p 63) 53 = some (.inl (iv_oK (.int (Int32.ofNat 0)) 1)) := rfl
set_option maxRecDepth 100000 in
theorem y63_54 : iv_f1 (iv_p 63) 54 = some (.inr (.inr (6, 69, 3, 6))) := rfl
set_option maxRecDepth 100000 in
theorem y63_57 : iv_f1 (iv_p 63) 57 = some (.inl iv_oPop) := rfl
set_option maxRecDepth 100000 in
theorem y63_58 : iv_f1 (iv_p 63) 58 = some (.inl (iv_oInc 4 (1))) := rfl
set_option maxRecDepth 100000 in
theorem y63_61 : iv_f1 (iv_p 63) 61 = some (.inl (iv_oGo (-46))) := rfl
set_option maxRecDepth 100000 in
theorem y63_64 : iv_f1 (iv_p 63) 64 = some (.inl (iv_oK (.int (Int32.ofNat 1)) 1)) := rfl
set_option maxRecDepth 100000 in
theorem y63_65 : iv_f1 (iv_p 63) 65 = some (.inr (.inl 2)) := rfl
set_option maxRecDepth 100000 in
theorem y64_0 : iv_f1 (iv_p 64) 0 = some (.inl (iv_oA 0 1)) := rfl
set_option maxRecDepth 100000 in
theorem y64_1 : iv_f1 (iv_p 64) 1 = some (.inl (iv_oA 1 1)) := rfl
set_option maxRecDepth 100000 in
theorem y64_2 : iv_f1 (iv_p 64) 2 = some (.inl (iv_oA 2 1)) := rfl
set_option maxRecDepth 100000 in
theorem y64_3 : iv_f1 (iv_p 64) 3 = some (.inl (iv_oI 3 1)) := rfl
set_option maxRecDepth 100000 in
theorem y64_4 : iv_f1 (iv_p 64) 4 = some (.inr (.inr (6, 65, 3, 6))) := rfl
set_option maxRecDepth 100000 in
theorem y64_7 : iv_f1 (iv_p 64) 7 = some (.inl (iv_oIf .ne (5))) := rfl
set_option maxRecDepth 100000 in
theorem y64_10 : iv_f1 (iv_p 64) 10 = some (.inl (iv_oK (.int (Int32.ofNat 0)) 1)) := rfl
set_option maxRecDepth 100000 in
theorem y64_11 : iv_f1 (iv_p 64) 11 = some (.inr (.inl 2)) := rfl
set_option maxRecDepth 100000 in
theorem y64_12 : iv_f1 (iv_p 64) 12 = some (.inl (iv_oK (.int (Int32.ofNat 0)) 1)) := rfl
set_option maxRecDepth 100000 in
theorem y64_13 : iv_f1 (iv_p 64) 13 = some (.inl (iv_oIS 4 2)) := rfl
set_option maxRecDepth 100000 in
theorem y64_15 : iv_f1 (iv_p 64) 15 = some (.inl (iv_oI 4 2)) := rfl
set_option maxRecDepth 100000 in
theorem y64_17 : iv_f1 (iv_p 64) 17 = some (.inl (iv_oK (.int (Int32.ofNat 20)) 2)) := rfl
set_option maxRecDepth 100000 in
theorem y64_19 : iv_f1 (iv_p 64) 19 = some (.inl (iv_oIc .ge (45))) := rfl
set_option maxRecDepth 100000 in
theorem y64_22 : iv_f1 (iv_p 64) 22 = some (.inl (iv_oA 1 1)) := rfl
set_option maxRecDepth 100000 in
theorem y64_23 : iv_f1 (iv_p 64) 23 = some (.inl (iv_oGF 5 9)) := rfl
set_option maxRecDepth 100000 in
theorem y64_26 : iv_f1 (iv_p 64) 26 = some (.inl (iv_oS 37)) := rfl
set_option maxRecDepth 100000 in
theorem y64_29 : iv_f1 (iv_p 64) 29 = some (.inl (iv_oAc (35))) := rfl
set_option maxRecDepth 100000 in
theorem y64_32 : iv_f1 (iv_p 64) 32 = some (.inl (iv_oA 1 1)) := rfl
set_option maxRecDepth 100000 in
theorem y64_33 : iv_f1 (iv_p 64) 33 = some (.inr (.inr (6, 52, 0, 5))) := rfl
set_option maxRecDepth 100000 in
theorem y64_36 : iv_f1 (iv_p 64) 36 = some (.inl (iv_oA 0 1)) := rfl
set_option maxRecDepth 100000 in
theorem y64_37 : iv_f1 (iv_p 64) 37 = some (.inl (iv_oA 1 1)) := rfl
set_option maxRecDepth 100000 in
theorem y64_38 : iv_f1 (iv_p 64) 38 = some (.inl (iv_oA 2 1)) := rfl
set_option maxRecDepth 100000 in
theorem y64_39 : iv_f1 (iv_p 64) 39 = some (.inl (iv_oI 3 1)) := rfl
set_option maxRecDepth 100000 in
theorem y64_40 : iv_f1 (iv_p 64) 40 = some (.inr (.inr (6, 65, 3, 6))) := rfl
set_option maxRecDepth 100000 in
theorem y64_43 : iv_f1 (iv_p 64) 43 = some (.inl (iv_oIf .ne (5))) := rfl
set_option maxRecDepth 100000 in
theorem y64_46 : iv_f1 (iv_p 64) 46 = some (.inl (iv_oK (.int (Int32.ofNat 0)) 1)) := rfl
set_option maxRecDepth 100000 in
theorem y64_47 : iv_f1 (iv_p 64) 47 = some (.inr (.inl 2)) := rfl
set_option maxRecDepth 100000 in
theorem y64_48 : iv_f1 (iv_p 64) 48 = some (.inl (iv_oA 0 1)) := rfl
set_option maxRecDepth 100000 in
theorem y64_49 : iv_f1 (iv_p 64) 49 = some (.inl (iv_oS 37)) := rfl
set_option maxRecDepth 100000 in
theorem y64_52 : iv_f1 (iv_p 64) 52 = some (.inl (iv_oK (.int (Int32.ofNat 0)) 1)) := rfl
set_option maxRecDepth 100000 in
theorem y64_53 : iv_f1 (iv_p 64) 53 = some (.inl (iv_oK (.int (Int32.ofNat 0)) 1)) := rfl
set_option maxRecDepth 100000 in
theorem y64_54 : iv_f1 (iv_p 64) 54 = some (.inr (.inr (6, 69, 3, 6))) := rfl
set_option maxRecDepth 100000 in
theorem y64_57 : iv_f1 (iv_p 64) 57 = some (.inl iv_oPop) := rfl
set_option maxRecDepth 100000 in
theorem y64_58 : iv_f1 (iv_p 64) 58 = some (.inl (iv_oInc 4 (1))) := rfl
set_option maxRecDepth 100000 in
theorem y64_61 : iv_f1 (iv_p 64) 61 = some (.inl (iv_oGo (-46))) := rfl
set_option maxRecDepth 100000 in
theorem y64_64 : iv_f1 (iv_p 64) 64 = some (.inl (iv_oK (.int (Int32.ofNat 1)) 1)) := rfl
set_option maxRecDepth 100000 in
theorem y64_65 : iv_f1 (iv_p 64) 65 = some (.inr (.inl 2)) := rfl
set_option maxRecDepth 100000 in
theorem y65_0 : iv_f1 (iv_p 65) 0 = some (.inl (iv_oA 1 1)) := rfl
set_option maxRecDepth 100000 in
theorem y65_1 : iv_f1 (iv_p 65) 1 = some (.inl (iv_oGF 5 9)) := rfl
set_option maxRecDepth 100000 in
theorem y65_4 : iv_f1 (iv_p 65) 4 = some (.inl (iv_oAS 4 2)) := rfl
set_option maxRecDepth 100000 in
theorem y65_6 : iv_f1 (iv_p 65) 6 = some (.inl (iv_oA 1 1)) := rfl
set_option maxRecDepth 100000 in
theorem y65_7 : iv_f1 (iv_p 65) 7 = some (.inl (iv_oK (.int (Int32.ofNat 40)) 2)) := rfl
set_option maxRecDepth 100000 in
theorem y65_9 : iv_f1 (iv_p 65) 9 = some (.inr (.inr (6, 55, 1, 5))) := rfl
set_option maxRecDepth 100000 in
theorem y65_12 : iv_f1 (iv_p 65) 12 = some (.inl (iv_oIS 5 2)) := rfl
set_option maxRecDepth 100000 in
theorem y65_14 : iv_f1 (iv_p 65) 14 = some (.inl (iv_oI 5 2)) := rfl
set_option maxRecDepth 100000 in
theorem y65_16 : iv_f1 (iv_p 65) 16 = some (.inl (iv_oIf .ne (17))) := rfl
set_option maxRecDepth 100000 in
theorem y65_19 : iv_f1 (iv_p 65) 19 = some (.inl (iv_oA 4 2)) := rfl
set_option maxRecDepth 100000 in
theorem y65_21 : iv_f1 (iv_p 65) 21 = some (.inr (.inr (4, 66, 1, 0))) := rfl
set_option maxRecDepth 100000 in
theorem y65_24 : iv_f1 (iv_p 65) 24 = some (.inl (iv_oIf .ne (9))) := rfl
set_option maxRecDepth 100000 in
theorem y65_27 : iv_f1 (iv_p 65) 27 = some (.inl (iv_oA 1 1)) := rfl
set_option maxRecDepth 100000 in
theorem y65_28 : iv_f1 (iv_p 65) 28 = some (.inl (iv_oK (.int (Int32.ofNat 1)) 1)) := rfl
set_option maxRecDepth 100000 in
theorem y65_29 : iv_f1 (iv_p 65) 29 = some (.inr (.inr (6, 56, 1, 5))) := rfl
set_option maxRecDepth 100000 in
theorem y65_32 : iv_f1 (iv_p 65) 32 = some (.inr (.inl 2)) := rfl
set_option maxRecDepth 100000 in
theorem y65_33 : iv_f1 (iv_p 65) 33 = some (.inl (iv_oA 0 1)) := rfl
set_option maxRecDepth 100000 in
theorem y65_34 : iv_f1 (iv_p 65) 34 = some (.inl (iv_oGF 6 0)) := rfl
set_option maxRecDepth 100000 in
theorem y65_37 : iv_f1 (iv_p 65) 37 = some (.inl (iv_oK (.int (Int32.ofNat 20)) 2)) := rfl
set_option maxRecDepth 100000 in
theorem y65_39 : iv_f1 (iv_p 65) 39 = some (.inl (iv_oIc .ge (9))) := rfl
set_option maxRecDepth 100000 in
theorem y65_42 : iv_f1 (iv_p 65) 42 = some (.inl (iv_oI 3 1)) := rfl
set_option maxRecDepth 100000 in
theorem y65_43 : iv_f1 (iv_p 65) 43 = some (.inl (iv_oK (.int (Int32.ofNat 8)) 2)) := rfl
set_option maxRecDepth 100000 in
theorem y65_45 : iv_f1 (iv_p 65) 45 = some (.inl (iv_oIc .le (9))) := rfl
set_option maxRecDepth 100000 in
theorem y65_48 : iv_f1 (iv_p 65) 48 = some (.inl (iv_oA 1 1)) := rfl
set_option maxRecDepth 100000 in
theorem y65_49 : iv_f1 (iv_p 65) 49 = some (.inl (iv_oK (.int (Int32.ofNat 4)) 1)) := rfl
set_option maxRecDepth 100000 in
theorem y65_50 : iv_f1 (iv_p 65) 50 = some (.inr (.inr (6, 56, 1, 5))) := rfl
set_option maxRecDepth 100000 in
theorem y65_53 : iv_f1 (iv_p 65) 53 = some (.inr (.inl 2)) := rfl
set_option maxRecDepth 100000 in
theorem y65_54 : iv_f1 (iv_p 65) 54 = some (.inl (iv_oA 0 1)) := rfl
set_option maxRecDepth 100000 in
theorem y65_55 : iv_f1 (iv_p 65) 55 = some (.inl iv_oDup) := rfl
set_option maxRecDepth 100000 in
theorem y65_56 : iv_f1 (iv_p 65) 56 = some (.inl (iv_oGF 6 0)) := rfl
set_option maxRecDepth 100000 in
theorem y65_59 : iv_f1 (iv_p 65) 59 = some (.inl (iv_oK (.int (Int32.ofNat 1)) 1)) := rfl
set_option maxRecDepth 100000 in
theorem y65_60 : iv_f1 (iv_p 65) 60 = some (.inl (iv_oII fun x y => x + y)) := rfl
set_option maxRecDepth 100000 in
theorem y65_61 : iv_f1 (iv_p 65) 61 = some (.inl (iv_oPF 6 0 .int)) := rfl
set_option maxRecDepth 100000 in
theorem y65_64 : iv_f1 (iv_p 65) 64 = some (.inl (iv_oA 1 1)) := rfl
set_option maxRecDepth 100000 in
theorem y65_65 : iv_f1 (iv_p 65) 65 = some (.inr (.inr (6, 52, 0, 5))) := rfl
set_option maxRecDepth 100000 in
theorem y65_68 : iv_f1 (iv_p 65) 68 = some (.inl (iv_oI 5 2)) := rfl
set_option maxRecDepth 100000 in
theorem y65_70 : iv_f1 (iv_p 65) 70 = some (.inl (iv_oIf .eq (30))) := rfl
set_option maxRecDepth 100000 in
theorem y65_73 : iv_f1 (iv_p 65) 73 = some (.inl (iv_oA 0 1)) := rfl
set_option maxRecDepth 100000 in
theorem y65_74 : iv_f1 (iv_p 65) 74 = some (.inl (iv_oA 1 1)) := rfl
set_option maxRecDepth 100000 in
theorem y65_75 : iv_f1 (iv_p 65) 75 = some (.inl (iv_oA 2 1)) := rfl
set_option maxRecDepth 100000 in
theorem y65_76 : iv_f1 (iv_p 65) 76 = some (.inl (iv_oI 3 1)) := rfl
set_option maxRecDepth 100000 in
theorem y65_77 : iv_f1 (iv_p 65) 77 = some (.inl (iv_oK (.int (Int32.ofNat 1)) 1)) := rfl
set_option maxRecDepth 100000 in
theorem y65_78 : iv_f1 (iv_p 65) 78 = some (.inl (iv_oII fun x y => x + y)) := rfl
set_option maxRecDepth 100000 in
theorem y65_79 : iv_f1 (iv_p 65) 79 = some (.inr (.inr (6, 63, 3, 6))) := rfl
set_option maxRecDepth 100000 in
theorem y65_82 : iv_f1 (iv_p 65) 82 = some (.inl (iv_oIf .eq (16))) := rfl
set_option maxRecDepth 100000 in
theorem y65_85 : iv_f1 (iv_p 65) 85 = some (.inl (iv_oA 1 1)) := rfl
set_option maxRecDepth 100000 in
theorem y65_86 : iv_f1 (iv_p 65) 86 = some (.inl (iv_oK (.int (Int32.ofNat 41)) 2)) := rfl
set_option maxRecDepth 100000 in
theorem y65_88 : iv_f1 (iv_p 65) 88 = some (.inr (.inr (6, 57, 1, 5))) := rfl
set_option maxRecDepth 100000 in
theorem y65_91 : iv_f1 (iv_p 65) 91 = some (.inl (iv_oIf .eq (7))) := rfl
set_option maxRecDepth 100000 in
theorem y65_94 : iv_f1 (iv_p 65) 94 = some (.inl (iv_oK (.int (Int32.ofNat 1)) 1)) := rfl
set_option maxRecDepth 100000 in
theorem y65_95 : iv_f1 (iv_p 65) 95 = some (.inl (iv_oGo (4))) := rfl
set_option maxRecDepth 100000 in
theorem y65_98 : iv_f1 (iv_p 65) 98 = some (.inl (iv_oK (.int (Int32.ofNat 0)) 1)) := rfl
set_option maxRecDepth 100000 in
theorem y65_99 : iv_f1 (iv_p 65) 99 = some (.inr (.inl 2)) := rfl
set_option maxRecDepth 100000 in
theorem y65_100 : iv_f1 (iv_p 65) 100 = some (.inl (iv_oS 101)) := rfl
set_option maxRecDepth 100000 in
theorem y65_103 : iv_f1 (iv_p 65) 103 = some (.inl (iv_oA 4 2)) := rfl
set_option maxRecDepth 100000 in
theorem y65_105 : iv_f1 (iv_p 65) 105 = some (.inl iv_oOrd) := rfl
set_option maxRecDepth 100000 in
theorem y65_108 : iv_f1 (iv_p 65) 108 = some (.inl iv_oIl) := rfl
set_option maxRecDepth 100000 in
theorem y65_109 : iv_f1 (iv_p 65) 109 = some (.inl (iv_oTs (83) (16) (21) #[39, 68, 75, 75, 75, 75])) := rfl
set_option maxRecDepth 100000 in
theorem y65_148 : iv_f1 (iv_p 65) 148 = some (.inl (iv_oA 0 1)) := rfl
set_option maxRecDepth 100000 in
theorem y65_149 : iv_f1 (iv_p 65) 149 = some (.inl (iv_oA 1 1)) := rfl
set_option maxRecDepth 100000 in
theorem y65_150 : iv_f1 (iv_p 65) 150 = some (.inl (iv_oA 2 1)) := rfl
set_option maxRecDepth 100000 in
theorem y65_151 : iv_f1 (iv_p 65) 151 = some (.inl (iv_oI 3 1)) := rfl
set_option maxRecDepth 100000 in
theorem y65_152 : iv_f1 (iv_p 65) 152 = some (.inl (iv_oK (.int (Int32.ofNat 1)) 1)) := rfl
set_option maxRecDepth 100000 in
theorem y65_153 : iv_f1 (iv_p 65) 153 = some (.inl (iv_oII fun x y => x + y)) := rfl
set_option maxRecDepth 100000 in
theorem y65_154 : iv_f1 (iv_p 65) 154 = some (.inr (.inr (6, 65, 3, 6))) := rfl
set_option maxRecDepth 100000 in
theorem y65_157 : iv_f1 (iv_p 65) 157 = some (.inl (iv_oIf .eq (18))) := rfl
set_option maxRecDepth 100000 in
theorem y65_160 : iv_f1 (iv_p 65) 160 = some (.inl (iv_oA 0 1)) := rfl
set_option maxRecDepth 100000 in
theorem y65_161 : iv_f1 (iv_p 65) 161 = some (.inl (iv_oA 4 2)) := rfl
set_option maxRecDepth 100000 in
theorem y65_163 : iv_f1 (iv_p 65) 163 = some (.inl (iv_oK (.int (Int32.ofNat 0)) 1)) := rfl
set_option maxRecDepth 100000 in
theorem y65_164 : iv_f1 (iv_p 65) 164 = some (.inl (iv_oK (.int (Int32.ofNat 0)) 1)) := rfl
set_option maxRecDepth 100000 in
theorem y65_165 : iv_f1 (iv_p 65) 165 = some (.inr (.inr (6, 69, 3, 6))) := rfl
set_option maxRecDepth 100000 in
theorem y65_168 : iv_f1 (iv_p 65) 168 = some (.inl (iv_oIf .eq (7))) := rfl
set_option maxRecDepth 100000 in
theorem y65_171 : iv_f1 (iv_p 65) 171 = some (.inl (iv_oK (.int (Int32.ofNat 1)) 1)) := rfl
set_option maxRecDepth 100000 in
theorem y65_172 : iv_f1 (iv_p 65) 172 = some (.inl (iv_oGo (4))) := rfl
set_option maxRecDepth 100000 in
theorem y65_175 : iv_f1 (iv_p 65) 175 = some (.inl (iv_oK (.int (Int32.ofNat 0)) 1)) := rfl
set_option maxRecDepth 100000 in
theorem y65_176 : iv_f1 (iv_p 65) 176 = some (.inr (.inl 2)) := rfl
set_option maxRecDepth 100000 in
theorem y65_177 : iv_f1 (iv_p 65) 177 = some (.inl (iv_oA 0 1)) := rfl
set_option maxRecDepth 100000 in
theorem y65_178 : iv_f1 (iv_p 65) 178 = some (.inl (iv_oA 1 1)) := rfl
set_option maxRecDepth 100000 in
theorem y65_179 : iv_f1 (iv_p 65) 179 = some (.inl (iv_oA 2 1)) := rfl
set_option maxRecDepth 100000 in
theorem y65_180 : iv_f1 (iv_p 65) 180 = some (.inr (.inr (6, 67, 2, 6))) := rfl
set_option maxRecDepth 100000 in
theorem y65_183 : iv_f1 (iv_p 65) 183 = some (.inr (.inl 2)) := rfl
set_option maxRecDepth 100000 in
theorem y65_184 : iv_f1 (iv_p 65) 184 = some (.inl (iv_oA 0 1)) := rfl
set_option maxRecDepth 100000 in
theorem y65_185 : iv_f1 (iv_p 65) 185 = some (.inl (iv_oA 1 1)) := rfl
set_option maxRecDepth 100000 in
theorem y65_186 : iv_f1 (iv_p 65) 186 = some (.inl (iv_oA 4 2)) := rfl
set_option maxRecDepth 100000 in
theorem y65_188 : iv_f1 (iv_p 65) 188 = some (.inr (.inr (6, 68, 2, 6))) := rfl
set_option maxRecDepth 100000 in
theorem y65_191 : iv_f1 (iv_p 65) 191 = some (.inr (.inl 2)) := rfl
set_option maxRecDepth 100000 in
theorem y65_192 : iv_f1 (iv_p 65) 192 = some (.inl (iv_oA 0 1)) := rfl
set_option maxRecDepth 100000 in
theorem y65_193 : iv_f1 (iv_p 65) 193 = some (.inl (iv_oA 4 2)) := rfl
set_option maxRecDepth 100000 in
theorem y65_195 : iv_f1 (iv_p 65) 195 = some (.inl (iv_oK (.int (Int32.ofNat 0)) 1)) := rfl
set_option maxRecDepth 100000 in
theorem y65_196 : iv_f1 (iv_p 65) 196 = some (.inl (iv_oK (.int (Int32.ofNat 0)) 1)) := rfl
set_option maxRecDepth 100000 in
theorem y65_197 : iv_f1 (iv_p 65) 197 = some (.inr (.inr (6, 69, 3, 6))) := rfl
set_option maxRecDepth 100000 in
theorem y65_200 : iv_f1 (iv_p 65) 200 = some (.inr (.inl 2)) := rfl
set_option maxRecDepth 100000 in
theorem y66_0 : iv_f1 (iv_p 66) 0 = some (.inl (iv_oS 101)) := rfl
set_option maxRecDepth 100000 in
theorem y66_3 : iv_f1 (iv_p 66) 3 = some (.inl (iv_oA 0 1)) := rfl
set_option maxRecDepth 100000 in
theorem y66_4 : iv_f1 (iv_p 66) 4 = some (.inl iv_oOrd) := rfl
set_option maxRecDepth 100000 in
theorem y66_7 : iv_f1 (iv_p 66) 7 = some (.inl iv_oIl) := rfl
set_option maxRecDepth 100000 in
theorem y66_8 : iv_f1 (iv_p 66) 8 = some (.inl (iv_oTs (58) (16) (25) #[56, 56, 56, 56, 56, 56, 56, 56, 56, 56])) := rfl
set_option maxRecDepth 100000 in
theorem y66_64 : iv_f1 (iv_p 66) 64 = some (.inl (iv_oK (.int (Int32.ofNat 1)) 1)) := rfl
set_option maxRecDepth 100000 in
theorem y66_65 : iv_f1 (iv_p 66) 65 = some (.inr (.inl 2)) := rfl
set_option maxRecDepth 100000 in
theorem y66_66 : iv_f1 (iv_p 66) 66 = some (.inl (iv_oK (.int (Int32.ofNat 0)) 1)) := rfl
set_option maxRecDepth 100000 in
theorem y66_67 : iv_f1 (iv_p 66) 67 = some (.inr (.inl 2)) := rfl
set_option maxRecDepth 100000 in
theorem y67_0 : iv_f1 (iv_p 67) 0 = some (.inl (iv_oA 2 1)) := rfl
set_option maxRecDepth 100000 in
theorem y67_1 : iv_f1 (iv_p 67) 1 = some (.inl (iv_oA 1 1)) := rfl
set_option maxRecDepth 100000 in
theorem y67_2 : iv_f1 (iv_p 67) 2 = some (.inr (.inr (6, 31, 1, 3))) := rfl
set_option maxRecDepth 100000 in
theorem y67_5 : iv_f1 (iv_p 67) 5 = some (.inl (iv_oIS 3 1)) := rfl
set_option maxRecDepth 100000 in
theorem y67_6 : iv_f1 (iv_p 67) 6 = some (.inl (iv_oI 3 1)) := rfl
set_option maxRecDepth 100000 in
theorem y67_7 : iv_f1 (iv_p 67) 7 = some (.inl (iv_oK (.int (Int32.ofInt (-1))) 1)) := rfl
set_option maxRecDepth 100000 in
theorem y67_8 : iv_f1 (iv_p 67) 8 = some (.inl (iv_oIc .ne (5))) := rfl
set_option maxRecDepth 100000 in
theorem y67_11 : iv_f1 (iv_p 67) 11 = some (.inl (iv_oK (.int (Int32.ofNat 0)) 1)) := rfl
set_option maxRecDepth 100000 in
theorem y67_12 : iv_f1 (iv_p 67) 12 = some (.inr (.inl 2)) := rfl
set_option maxRecDepth 100000 in
theorem y67_13 : iv_f1 (iv_p 67) 13 = some (.inl (iv_oA 1 1)) := rfl
set_option maxRecDepth 100000 in
theorem y67_14 : iv_f1 (iv_p 67) 14 = some (.inr (.inr (6, 52, 0, 5))) := rfl
set_option maxRecDepth 100000 in
theorem y67_17 : iv_f1 (iv_p 67) 17 = some (.inl (iv_oA 0 1)) := rfl
set_option maxRecDepth 100000 in
theorem y67_18 : iv_f1 (iv_p 67) 18 = some (.inl (iv_oS 49)) := rfl
set_option maxRecDepth 100000 in
theorem y67_21 : iv_f1 (iv_p 67) 21 = some (.inl (iv_oI 3 1)) := rfl
set_option maxRecDepth 100000 in
theorem y67_22 : iv_f1 (iv_p 67) 22 = some (.inl (iv_oK (.int (Int32.ofNat 0)) 1)) := rfl
set_option maxRecDepth 100000 in
theorem y67_23 : iv_f1 (iv_p 67) 23 = some (.inr (.inr (6, 69, 3, 6))) := rfl
set_option maxRecDepth 100000 in
theorem y67_26 : iv_f1 (iv_p 67) 26 = some (.inr (.inl 2)) := rfl
set_option maxRecDepth 100000 in
theorem y68_0 : iv_f1 (iv_p 68) 0 = some (.inl (iv_oA 1 1)) := rfl
set_option maxRecDepth 100000 in
theorem y68_1 : iv_f1 (iv_p 68) 1 = some (.inl (iv_oK (.int (Int32.ofNat 60)) 2)) := rfl
set_option maxRecDepth 100000 in
theorem y68_3 : iv_f1 (iv_p 68) 3 = some (.inr (.inr (6, 55, 1, 5))) := rfl
set_option maxRecDepth 100000 in
theorem y68_6 : iv_f1 (iv_p 68) 6 = some (.inl (iv_oIS 3 1)) := rfl
set_option maxRecDepth 100000 in
theorem y68_7 : iv_f1 (iv_p 68) 7 = some (.inl (iv_oA 1 1)) := rfl
set_option maxRecDepth 100000 in
theorem y68_8 : iv_f1 (iv_p 68) 8 = some (.inl (iv_oK (.int (Int32.ofNat 62)) 2)) := rfl
set_option maxRecDepth 100000 in
theorem y68_10 : iv_f1 (iv_p 68) 10 = some (.inr (.inr (6, 55, 1, 5))) := rfl
set_option maxRecDepth 100000 in
theorem y68_13 : iv_f1 (iv_p 68) 13 = some (.inl (iv_oIS 4 2)) := rfl
set_option maxRecDepth 100000 in
theorem y68_15 : iv_f1 (iv_p 68) 15 = some (.inl (iv_oI 3 1)) := rfl
set_option maxRecDepth 100000 in
theorem y68_16 : iv_f1 (iv_p 68) 16 = some (.inl (iv_oIf .ne (23))) := rfl
set_option maxRecDepth 100000 in
theorem y68_19 : iv_f1 (iv_p 68) 19 = some (.inl (iv_oI 4 2)) := rfl
set_option maxRecDepth 100000 in
theorem y68_21 : iv_f1 (iv_p 68) 21 = some (.inl (iv_oIf .ne (18))) := rfl
set_option maxRecDepth 100000 in
theorem y68_24 : iv_f1 (iv_p 68) 24 = some (.inl (iv_oA 1 1)) := rfl
set_option maxRecDepth 100000 in
theorem y68_25 : iv_f1 (iv_p 68) 25 = some (.inl (iv_oK (.int (Int32.ofNat 61)) 2)) := rfl
set_option maxRecDepth 100000 in
theorem y68_27 : iv_f1 (iv_p 68) 27 = some (.inr (.inr (6, 55, 1, 5))) := rfl
set_option maxRecDepth 100000 in
theorem y68_30 : iv_f1 (iv_p 68) 30 = some (.inl (iv_oIf .ne (9))) := rfl
set_option maxRecDepth 100000 in
theorem y68_33 : iv_f1 (iv_p 68) 33 = some (.inl (iv_oA 1 1)) := rfl
set_option maxRecDepth 100000 in
theorem y68_34 : iv_f1 (iv_p 68) 34 = some (.inl (iv_oK (.int (Int32.ofNat 1)) 1)) := rfl
set_option maxRecDepth 100000 in
theorem y68_35 : iv_f1 (iv_p 68) 35 = some (.inr (.inr (6, 56, 1, 5))) := rfl
set_option maxRecDepth 100000 in
theorem y68_38 : iv_f1 (iv_p 68) 38 = some (.inr (.inl 2)) := rfl
set_option maxRecDepth 100000 in
theorem y68_39 : iv_f1 (iv_p 68) 39 = some (.inl (iv_oA 1 1)) := rfl
set_option maxRecDepth 100000 in
theorem y68_40 : iv_f1 (iv_p 68) 40 = some (.inr (.inr (6, 52, 0, 5))) := rfl
set_option maxRecDepth 100000 in
theorem y68_43 : iv_f1 (iv_p 68) 43 = some (.inl (iv_oA 1 1)) := rfl
set_option maxRecDepth 100000 in
theorem y68_44 : iv_f1 (iv_p 68) 44 = some (.inl (iv_oK (.int (Int32.ofNat 0)) 1)) := rfl
set_option maxRecDepth 100000 in
theorem y68_45 : iv_f1 (iv_p 68) 45 = some (.inl (iv_oK (.int (Int32.ofNat 999)) 3)) := rfl
set_option maxRecDepth 100000 in
theorem y68_48 : iv_f1 (iv_p 68) 48 = some (.inr (.inr (6, 58, 2, 5))) := rfl
set_option maxRecDepth 100000 in
theorem y68_51 : iv_f1 (iv_p 68) 51 = some (.inl (iv_oIS 5 2)) := rfl
set_option maxRecDepth 100000 in
theorem y68_53 : iv_f1 (iv_p 68) 53 = some (.inl (iv_oI 5 2)) := rfl
set_option maxRecDepth 100000 in
theorem y68_55 : iv_f1 (iv_p 68) 55 = some (.inl (iv_oK (.int (Int32.ofInt (-1))) 1)) := rfl
set_option maxRecDepth 100000 in
theorem y68_56 : iv_f1 (iv_p 68) 56 = some (.inl (iv_oIc .ne (5))) := rfl
set_option maxRecDepth 100000 in
theorem y68_59 : iv_f1 (iv_p 68) 59 = some (.inl (iv_oK (.int (Int32.ofNat 0)) 1)) := rfl
set_option maxRecDepth 100000 in
theorem y68_60 : iv_f1 (iv_p 68) 60 = some (.inr (.inl 2)) := rfl
set_option maxRecDepth 100000 in
theorem y68_61 : iv_f1 (iv_p 68) 61 = some (.inl (iv_oA 0 1)) := rfl
set_option maxRecDepth 100000 in
theorem y68_62 : iv_f1 (iv_p 68) 62 = some (.inl (iv_oA 2 1)) := rfl
set_option maxRecDepth 100000 in
theorem y68_63 : iv_f1 (iv_p 68) 63 = some (.inl (iv_oI 5 2)) := rfl
set_option maxRecDepth 100000 in
theorem y68_65 : iv_f1 (iv_p 68) 65 = some (.inl (iv_oI 3 1)) := rfl
set_option maxRecDepth 100000 in
theorem y68_66 : iv_f1 (iv_p 68) 66 = some (.inl (iv_oIf .eq (7))) := rfl
set_option maxRecDepth 100000 in
theorem y68_69 : iv_f1 (iv_p 68) 69 = some (.inl (iv_oK (.int (Int32.ofInt (-1))) 1)) := rfl
set_option maxRecDepth 100000 in
theorem y68_70 : iv_f1 (iv_p 68) 70 = some (.inl (iv_oGo (13))) := rfl
set_option maxRecDepth 100000 in
theorem y68_73 : iv_f1 (iv_p 68) 73 = some (.inl (iv_oI 4 2)) := rfl
set_option maxRecDepth 100000 in
theorem y68_75 : iv_f1 (iv_p 68) 75 = some (.inl (iv_oIf .eq (7))) := rfl
set_option maxRecDepth 100000 in
theorem y68_78 : iv_f1 (iv_p 68) 78 = some (.inl (iv_oK (.int (Int32.ofNat 1)) 1)) := rfl
set_option maxRecDepth 100000 in
theorem y68_79 : iv_f1 (iv_p 68) 79 = some (.inl (iv_oGo (4))) := rfl
set_option maxRecDepth 100000 in
theorem y68_82 : iv_f1 (iv_p 68) 82 = some (.inl (iv_oK (.int (Int32.ofNat 0)) 1)) := rfl
set_option maxRecDepth 100000 in
theorem y68_83 : iv_f1 (iv_p 68) 83 = some (.inr (.inr (6, 69, 3, 6))) := rfl
set_option maxRecDepth 100000 in
theorem y68_86 : iv_f1 (iv_p 68) 86 = some (.inr (.inl 2)) := rfl
theorem yFw_wd {T : Nat → Nat} {n m p j : Nat} (h : yWd T n m p j) : ∀ (jj k : Nat), k + jj = 27 → yFw T n m p jj k = if k < j then j - 1 else 27
  | 0, k, hk => by
    have := h.1
    show k = _
    rw [if_neg (by omega)]
    omega
  | jj + 1, k, hk => by
    have ih := yFw_wd h jj (k + 1) (by omega)
    show (if yisW T n m p k = true then k else yFw T n m p jj (k + 1)) = _
    have hw := h.2 k (by omega)
    by_cases e : yisW T n m p k = true
    · rw [if_pos e]
      have := hw.mpr e
      rw [if_pos (by omega)]
      omega
    · rw [if_neg e, ih]
      have : ¬ j = k + 1 := fun e2 => e (hw.mp e2)
      by_cases c : k + 1 < j
      · rw [if_pos c, if_pos (by omega)]
      · rw [if_neg c, if_neg (by omega)]
theorem yg_bo0 {L : Nat} {xs : Nat → Int32} {lv : iv_L} {σ : iv_H} : ∀ {j : Nat}, j < 28 → (iv_oTs (58) (16) (25) #[56, 56, 56, 56, 56, 56, 56, 56, 56, 56]) L xs 8 lv [.int (iv_sw j)] σ = some (if 18 ≤ j then 64 else 66, lv, [], σ)
  | 0, _ => rfl
  | 1, _ => rfl
  | 2, _ => rfl
  | 3, _ => rfl
  | 4, _ => rfl
  | 5, _ => rfl
  | 6, _ => rfl
  | 7, _ => rfl
  | 8, _ => rfl
  | 9, _ => rfl
  | 10, _ => rfl
  | 11, _ => rfl
  | 12, _ => rfl
  | 13, _ => rfl
  | 14, _ => rfl
  | 15, _ => rfl
  | 16, _ => rfl
  | 17, _ => rfl
  | 18, _ => rfl
  | 19, _ => rfl
  | 20, _ => rfl
  | 21, _ => rfl
  | 22, _ => rfl
  | 23, _ => rfl
  | 24, _ => rfl
  | 25, _ => rfl
  | 26, _ => rfl
  | 27, _ => rfl
  | j + 28, h => by omega
theorem yg_sw0 {L : Nat} {xs : Nat → Int32} {lv : iv_L} {σ : iv_H} : ∀ {j : Nat}, j < 28 → (iv_oTs (83) (16) (21) #[39, 68, 75, 75, 75, 75]) L xs 109 lv [.int (iv_sw j)] σ = some (if j = 18 then 148 else if j = 23 then 177 else if 24 ≤ j then 184 else 192, lv, [], σ)
  | 0, _ => rfl
  | 1, _ => rfl
  | 2, _ => rfl
  | 3, _ => rfl
  | 4, _ => rfl
  | 5, _ => rfl
  | 6, _ => rfl
  | 7, _ => rfl
  | 8, _ => rfl
  | 9, _ => rfl
  | 10, _ => rfl
  | 11, _ => rfl
  | 12, _ => rfl
  | 13, _ => rfl
  | 14, _ => rfl
  | 15, _ => rfl
  | 16, _ => rfl
  | 17, _ => rfl
  | 18, _ => rfl
  | 19, _ => rfl
  | 20, _ => rfl
  | 21, _ => rfl
  | 22, _ => rfl
  | 23, _ => rfl
  | 24, _ => rfl
  | 25, _ => rfl
  | 26, _ => rfl
  | 27, _ => rfl
  | j + 28, h => by omega
theorem yg_bo {L : Nat} {xs : Nat → Int32} {d : Nat} {σ : iv_H} {j : Nat} (hj : j < 28) : iv_Rn L xs d 66 0 (lv_args 0 [.ref (2 * j + 3)]) [] σ (some (.int (yb (decide (18 ≤ j))))) σ := by
  by_cases c : 18 ≤ j
  · rw [decide_eq_true c]
    refine y_Rp ?_
    refine w_gs y66_0 ?_
    refine w_A y66_3 rfl ?_
    refine yd_ord y66_4 hj rfl ?_
    refine yd_swl y66_7 hj ?_
    refine zGo_s y66_8 (yg_bo0 hj) ?_
    rw [if_pos c]
    refine w_K y66_64 ?_
    exact y_ret (v := .int (yb true)) y66_65 y_rtb ⟨rfl, rfl⟩
  · rw [decide_eq_false c]
    refine y_Rp ?_
    refine w_gs y66_0 ?_
    refine w_A y66_3 rfl ?_
    refine yd_ord y66_4 hj rfl ?_
    refine yd_swl y66_7 hj ?_
    refine zGo_s y66_8 (yg_bo0 hj) ?_
    rw [if_neg c]
    refine w_K y66_66 ?_
    exact y_ret (v := .int (yb false)) y66_67 y_rtb ⟨rfl, rfl⟩
section GM
variable {L : Nat} {xs : Nat → Int32} {T : Nat → Nat} {n m : Nat} {Nm : Nat → Int64} {ng : Nat}
theorem yG_p {p o : Nat} {σ : iv_H} (h : yG T n m p Nm ng o σ) : p ≤ n := by
  obtain ⟨⟨V, hC, _⟩, _⟩ := h
  obtain ⟨c, k, K, P, X, Q, ⟨⟨_, _, _, hp⟩, _⟩, _⟩ := (show yCMx T n m p V σ from hC)
  exact hp
def yCS (T : Nat → Nat) (n m p : Nat) (Nm : Nat → Int64) (ng o : Nat) (q : yE (Nat × Nat)) (b : Bool) (σ1 : iv_H) : Prop := match q with
  | .inl e => b = false ∧ yGB e σ1
  | .inr r => b = true ∧ yG T n m r.1 Nm ng r.2 σ1 ∧ (o < r.2 ∧ r.2 ≤ 20) ∧ p < r.1
def yCL (T : Nat → Nat) (n m p : Nat) (Nm : Nat → Int64) (ng o : Nat) (q : yE (Nat × Nat)) (b : Bool) (σ1 : iv_H) : Prop := match q with
  | .inl e => b = false ∧ yGB e σ1
  | .inr r => b = true ∧ yG T n m r.1 Nm ng r.2 σ1 ∧ (o ≤ r.2 ∧ r.2 ≤ 20) ∧ p ≤ r.1
theorem yCL_S {p p1 o o1 : Nat} {q : yE (Nat × Nat)} {b : Bool} {σ1 : iv_H} (h : yCL T n m p1 Nm ng o1 q b σ1) (h1 : p < p1) (h3 : o < o1) : yCS T n m p Nm ng o q b σ1 := by
  cases q with
  | inl e => exact h
  | inr r =>
    obtain ⟨hb, hr, ⟨c2, c3⟩, c4⟩ := (show b = true ∧ yG T n m r.1 Nm ng r.2 σ1 ∧ (o1 ≤ r.2 ∧ r.2 ≤ 20) ∧ p1 ≤ r.1 from h)
    exact ⟨hb, hr, ⟨by omega, c3⟩, by omega⟩
theorem yCL_L {p p1 o o1 : Nat} {q : yE (Nat × Nat)} {b : Bool} {σ1 : iv_H} (h : yCL T n m p1 Nm ng o1 q b σ1) (h1 : p ≤ p1) (h3 : o ≤ o1) : yCL T n m p Nm ng o q b σ1 := by
  cases q with
  | inl e => exact h
  | inr r =>
    obtain ⟨hb, hr, ⟨c2, c3⟩, c4⟩ := (show b = true ∧ yG T n m r.1 Nm ng r.2 σ1 ∧ (o1 ≤ r.2 ∧ r.2 ≤ 20) ∧ p1 ≤ r.1 from h)
    exact ⟨hb, hr, ⟨by omega, c3⟩, by omega⟩
def yPc (L : Nat) (xs : Nat → Int32) (T : Nat → Nat) (n m : Nat) (Nm : Nat → Int64) (ng f M kd c D : Nat) : Prop := ∀ (w o p d : Nat) (σ : iv_H), 3 * (941 - p) + c ≤ f → 4 * (9 - w) + D ≤ d → w ≤ 8 → o ≤ 20 → yG T n m p Nm ng o σ → ∃ b σ1, iv_Rn L xs d M 0 (lv_args 0 [.ref 104, .ref 356, .ref 4, .int (Int32.ofNat (w + 1))]) [] σ (some (.int (yb b))) σ1 ∧ yCS T n m p Nm ng o (ySx T n m Nm ng f kd w o p) b σ1
def yQc (L : Nat) (xs : Nat → Int32) (T : Nat → Nat) (n m : Nat) (Nm : Nat → Int64) (ng f M kd D : Nat) : Prop := ∀ (w o p i d : Nat) (σ : iv_H) (lv : iv_L), 3 * (941 - p) + 1 ≤ f → 4 * (9 - w) + D ≤ d → w ≤ 8 → o ≤ 20 → i + 1 ≤ o → yG T n m p Nm ng o σ → iv_f1 lv 0 = some (.ref 104) → iv_f1 lv 1 = some (.ref 356) → iv_f1 lv 2 = some (.ref 4) → iv_f1 lv 3 = some (.int (Int32.ofNat (w + 1))) → iv_f1 lv 4 = some (.int (Int32.ofNat i)) → zGo L xs (fun r σ1 => ∃ b, r = some (.int (yb b)) ∧ yCL T n m p Nm ng o (ySx T n m Nm ng f kd w o p) b σ1) [] d M 15 lv [] σ
theorem yg_sx0 {f : Nat} (hn : n ≤ 940) (IH1 : yPc L xs T n m Nm ng f 64 1 2 9) (IH2 : yQc L xs T n m Nm ng f 63 2 10) : yPc L xs T n m Nm ng (f + 1) 63 0 3 10 := by
  intro w o p d σ hf hd hw ho h
  obtain ⟨d, rfl⟩ : ∃ e, d = e + 1 := ⟨d - 1, by omega⟩
  obtain ⟨b, σ1, r1, h1⟩ := IH1 w o p d σ (by omega) (by omega) hw ho h
  obtain ⟨V, g⟩ := yG_s h
  have un : ySx T n m Nm ng (f + 1) 0 w o p = yThen (ySx T n m Nm ng f 1 w o p) fun q => ySx T n m Nm ng f 2 w q.2 q.1 := rfl
  rw [un]
  refine y_RbE ?_
  refine w_A y63_0 rfl ?_
  refine w_A y63_1 rfl ?_
  refine w_A y63_2 rfl ?_
  refine w_I y63_3 rfl ?_
  refine y_call y63_4 (y_args6 g rfl rfl) rfl r1 ?_
  cases hq : ySx T n m Nm ng f 1 w o p with
  | inl e =>
    rw [hq] at h1
    obtain ⟨rfl, h2⟩ := (show b = false ∧ yGB e σ1 from h1)
    refine w_ifF y63_7 rfl (y_bneF rfl) ?_
    refine w_K y63_10 ?_
    exact y_ret (v := .int (yb false)) y63_11 y_rtb ⟨false, rfl, rfl, h2⟩
  | inr q =>
    rw [hq] at h1
    obtain ⟨rfl, h2, ⟨c2, c3⟩, hp⟩ := (show b = true ∧ yG T n m q.1 Nm ng q.2 σ1 ∧ (o < q.2 ∧ q.2 ≤ 20) ∧ p < q.1 from h1)
    have hp1 := yG_p h2
    refine w_ifT y63_7 rfl (y_bneT rfl) ?_
    refine w_K y63_12 ?_
    refine w_IS y63_13 ?_
    refine zGo_imp (IH2 w q.2 q.1 0 (d + 1) σ1 _ (by omega) (by omega) hw c3 (by omega) h2 rfl rfl rfl rfl rfl) (fun r σ2 hr => ?_)
    obtain ⟨b, rfl, hb⟩ := hr
    exact ⟨b, rfl, yCL_S hb hp c2⟩
theorem yg_sx2 {f : Nat} (hn : n ≤ 940) (hm : m ≤ 900) (hT : ∀ i, T i ≤ 255) (IH1 : yPc L xs T n m Nm ng f 64 1 2 9) (IH2 : yQc L xs T n m Nm ng f 63 2 10) : yQc L xs T n m Nm ng (f + 1) 63 2 10 := by
  intro w o p i d σ lv hf hd hw ho hi h l0 l1 l2 l3 l4
  obtain ⟨d, rfl⟩ : ∃ e, d = e + 4 := ⟨d - 4, by omega⟩
  have hp9 := yG_p h
  have un : ySx T n m Nm ng (f + 1) 2 w o p = (if yisW T n m p 15 = true then yThen (ySx T n m Nm ng f 1 w o (yto T n m p)) fun q => ySx T n m Nm ng f 2 w q.2 q.1 else .inr (p, o)) := rfl
  rw [un]
  refine w_I y63_15 l4 ?_
  refine w_K y63_17 ?_
  refine y_icF y63_19 rfl (by omega) (by omega) (by simp only [zch]; omega) ?_
  refine w_A y63_22 l1 ?_
  refine G_w hT y63_23 h (fun j hj => ?_)
  have hw2 := hj.2 15 (by decide)
  refine w_gs y63_26 ?_
  refine y_ac y63_29 (s_isW hj.1) rfl rfl ?_
  by_cases ej : 2 * j + 3 = 35
  · rw [if_pos ej]
    have e := hw2.mp (by omega)
    rw [if_pos e]
    have hk := (of_decide_eq_true e).1
    have hgt : p < yto T n m p := yto_gt (by rw [hk]; exact Nat.le_refl 2)
    refine w_A y63_32 l1 ?_
    refine G_go hm y63_33 rfl h (by rw [hk]; exact Nat.le_refl 2) (fun σ1 h1 => ?_)
    have hp1 := yG_p h1
    obtain ⟨V, g⟩ := yG_s h1
    obtain ⟨b, σ2, r2, h2⟩ := IH1 w o (yto T n m p) (d + 3) σ1 (by omega) (by omega) hw ho h1
    refine w_A y63_36 l0 ?_
    refine w_A y63_37 l1 ?_
    refine w_A y63_38 l2 ?_
    refine w_I y63_39 l3 ?_
    refine y_call y63_40 (y_args6 g rfl rfl) rfl r2 ?_
    cases hq : ySx T n m Nm ng f 1 w o (yto T n m p) with
    | inl e =>
      rw [hq] at h2
      obtain ⟨rfl, h3⟩ := (show b = false ∧ yGB e σ2 from h2)
      refine w_ifF y63_43 rfl (y_bneF rfl) ?_
      refine w_K y63_46 ?_
      exact y_ret (v := .int (yb false)) y63_47 y_rtb ⟨false, rfl, rfl, h3⟩
    | inr q =>
      rw [hq] at h2
      obtain ⟨rfl, h3, ⟨c2, c3⟩, hp⟩ := (show b = true ∧ yG T n m q.1 Nm ng q.2 σ2 ∧ (o < q.2 ∧ q.2 ≤ 20) ∧ yto T n m p < q.1 from h2)
      have hp3 := yG_p h3
      refine w_ifT y63_43 rfl (y_bneT rfl) ?_
      refine w_A y63_48 l0 ?_
      refine w_gs y63_49 ?_
      refine w_K y63_52 ?_
      refine w_K y63_53 ?_
      refine G_add (j := 16) (by decide) y63_54 rfl h3 (fun σ3 h4 => ?_)
      refine y_pop y63_57 rfl ?_
      refine w_inc y63_58 (x := i) l4 ?_
      refine w_go y63_61 rfl ?_
      refine zGo_imp (IH2 w q.2 q.1 (i + 1) (d + 4) σ3 _ (by omega) (by omega) hw c3 (by omega) h4 (y_l1 rfl rfl l0) (y_l1 rfl rfl l1) (y_l1 rfl rfl l2) (y_l1 rfl rfl l3) y_l0) (fun r σ4 hr => ?_)
      obtain ⟨b, rfl, hb⟩ := hr
      exact ⟨b, rfl, yCL_L hb (by omega) (by omega)⟩
  · rw [if_neg ej, if_neg (fun e : yisW T n m p 15 = true => ej (by have := hw2.mpr e; omega))]
    refine w_K y63_64 ?_
    exact y_ret (v := .int (yb true)) y63_65 y_rtb ⟨true, rfl, rfl, h, ⟨Nat.le_refl o, ho⟩, Nat.le_refl p⟩
theorem yg_sx1 {f : Nat} (hn : n ≤ 940) (IH1 : yPc L xs T n m Nm ng f 65 4 1 8) (IH2 : yQc L xs T n m Nm ng f 64 3 9) : yPc L xs T n m Nm ng (f + 1) 64 1 2 9 := by
  intro w o p d σ hf hd hw ho h
  obtain ⟨d, rfl⟩ : ∃ e, d = e + 1 := ⟨d - 1, by omega⟩
  obtain ⟨b, σ1, r1, h1⟩ := IH1 w o p d σ (by omega) (by omega) hw ho h
  obtain ⟨V, g⟩ := yG_s h
  have un : ySx T n m Nm ng (f + 1) 1 w o p = yThen (ySx T n m Nm ng f 4 w o p) fun q => ySx T n m Nm ng f 3 w q.2 q.1 := rfl
  rw [un]
  refine y_RbE ?_
  refine w_A y64_0 rfl ?_
  refine w_A y64_1 rfl ?_
  refine w_A y64_2 rfl ?_
  refine w_I y64_3 rfl ?_
  refine y_call y64_4 (y_args6 g rfl rfl) rfl r1 ?_
  cases hq : ySx T n m Nm ng f 4 w o p with
  | inl e =>
    rw [hq] at h1
    obtain ⟨rfl, h2⟩ := (show b = false ∧ yGB e σ1 from h1)
    refine w_ifF y64_7 rfl (y_bneF rfl) ?_
    refine w_K y64_10 ?_
    exact y_ret (v := .int (yb false)) y64_11 y_rtb ⟨false, rfl, rfl, h2⟩
  | inr q =>
    rw [hq] at h1
    obtain ⟨rfl, h2, ⟨c2, c3⟩, hp⟩ := (show b = true ∧ yG T n m q.1 Nm ng q.2 σ1 ∧ (o < q.2 ∧ q.2 ≤ 20) ∧ p < q.1 from h1)
    have hp1 := yG_p h2
    refine w_ifT y64_7 rfl (y_bneT rfl) ?_
    refine w_K y64_12 ?_
    refine w_IS y64_13 ?_
    refine zGo_imp (IH2 w q.2 q.1 0 (d + 1) σ1 _ (by omega) (by omega) hw c3 (by omega) h2 rfl rfl rfl rfl rfl) (fun r σ2 hr => ?_)
    obtain ⟨b, rfl, hb⟩ := hr
    exact ⟨b, rfl, yCL_S hb hp c2⟩
theorem yg_sx3 {f : Nat} (hn : n ≤ 940) (hm : m ≤ 900) (hT : ∀ i, T i ≤ 255) (IH1 : yPc L xs T n m Nm ng f 65 4 1 8) (IH2 : yQc L xs T n m Nm ng f 64 3 9) : yQc L xs T n m Nm ng (f + 1) 64 3 9 := by
  intro w o p i d σ lv hf hd hw ho hi h l0 l1 l2 l3 l4
  obtain ⟨d, rfl⟩ : ∃ e, d = e + 4 := ⟨d - 4, by omega⟩
  have hp9 := yG_p h
  have un : ySx T n m Nm ng (f + 1) 3 w o p = (if yisW T n m p 16 = true then yThen (ySx T n m Nm ng f 4 w o (yto T n m p)) fun q => ySx T n m Nm ng f 3 w q.2 q.1 else .inr (p, o)) := rfl
  rw [un]
  refine w_I y64_15 l4 ?_
  refine w_K y64_17 ?_
  refine y_icF y64_19 rfl (by omega) (by omega) (by simp only [zch]; omega) ?_
  refine w_A y64_22 l1 ?_
  refine G_w hT y64_23 h (fun j hj => ?_)
  have hw2 := hj.2 16 (by decide)
  refine w_gs y64_26 ?_
  refine y_ac y64_29 (s_isW hj.1) rfl rfl ?_
  by_cases ej : 2 * j + 3 = 37
  · rw [if_pos ej]
    have e := hw2.mp (by omega)
    rw [if_pos e]
    have hk := (of_decide_eq_true e).1
    have hgt : p < yto T n m p := yto_gt (by rw [hk]; exact Nat.le_refl 2)
    refine w_A y64_32 l1 ?_
    refine G_go hm y64_33 rfl h (by rw [hk]; exact Nat.le_refl 2) (fun σ1 h1 => ?_)
    have hp1 := yG_p h1
    obtain ⟨V, g⟩ := yG_s h1
    obtain ⟨b, σ2, r2, h2⟩ := IH1 w o (yto T n m p) (d + 3) σ1 (by omega) (by omega) hw ho h1
    refine w_A y64_36 l0 ?_
    refine w_A y64_37 l1 ?_
    refine w_A y64_38 l2 ?_
    refine w_I y64_39 l3 ?_
    refine y_call y64_40 (y_args6 g rfl rfl) rfl r2 ?_
    cases hq : ySx T n m Nm ng f 4 w o (yto T n m p) with
    | inl e =>
      rw [hq] at h2
      obtain ⟨rfl, h3⟩ := (show b = false ∧ yGB e σ2 from h2)
      refine w_ifF y64_43 rfl (y_bneF rfl) ?_
      refine w_K y64_46 ?_
      exact y_ret (v := .int (yb false)) y64_47 y_rtb ⟨false, rfl, rfl, h3⟩
    | inr q =>
      rw [hq] at h2
      obtain ⟨rfl, h3, ⟨c2, c3⟩, hp⟩ := (show b = true ∧ yG T n m q.1 Nm ng q.2 σ2 ∧ (o < q.2 ∧ q.2 ≤ 20) ∧ yto T n m p < q.1 from h2)
      have hp3 := yG_p h3
      refine w_ifT y64_43 rfl (y_bneT rfl) ?_
      refine w_A y64_48 l0 ?_
      refine w_gs y64_49 ?_
      refine w_K y64_52 ?_
      refine w_K y64_53 ?_
      refine G_add (j := 17) (by decide) y64_54 rfl h3 (fun σ3 h4 => ?_)
      refine y_pop y64_57 rfl ?_
      refine w_inc y64_58 (x := i) l4 ?_
      refine w_go y64_61 rfl ?_
      refine zGo_imp (IH2 w q.2 q.1 (i + 1) (d + 4) σ3 _ (by omega) (by omega) hw c3 (by omega) h4 (y_l1 rfl rfl l0) (y_l1 rfl rfl l1) (y_l1 rfl rfl l2) (y_l1 rfl rfl l3) y_l0) (fun r σ4 hr => ?_)
      obtain ⟨b, rfl, hb⟩ := hr
      exact ⟨b, rfl, yCL_L hb (by omega) (by omega)⟩
  · rw [if_neg ej, if_neg (fun e : yisW T n m p 16 = true => ej (by have := hw2.mpr e; omega))]
    refine w_K y64_64 ?_
    exact y_ret (v := .int (yb true)) y64_65 y_rtb ⟨true, rfl, rfl, h, ⟨Nat.le_refl o, ho⟩, Nat.le_refl p⟩
/-- with, compare: how they end -/
def yC2 (T : Nat → Nat) (n m : Nat) (Nm : Nat → Int64) (ng o : Nat) (q : yE Nat) (b : Bool) (σ1 : iv_H) : Prop := match q with
  | .inl e => b = false ∧ yGB e σ1
  | .inr p => b = true ∧ yG T n m p Nm ng o σ1
theorem yg_with {d p o : Nat} {σ : iv_H} (hT : ∀ i, T i ≤ 255) (hm : m ≤ 900) (hg : ng ≤ 6) (h : yG T n m p Nm ng o σ) : ∃ b σ1, iv_Rn L xs (d + 3) 67 0 (lv_args 0 [.ref 104, .ref 356, .ref 4]) [] σ (some (.int (yb b))) σ1 ∧ yC2 T n m Nm ng o (yThen (yNmd T n m Nm 7 ng p) fun _ => .inr (yto T n m p)) b σ1 := by
  obtain ⟨x, σ1, r1, h1⟩ := yg_gat (L := L) (xs := xs) (d := d) hT hg h
  obtain ⟨V4, g4⟩ := yG_4 h
  refine y_RbE ?_
  refine w_A y67_0 rfl ?_
  refine w_A y67_1 rfl ?_
  refine y_call y67_2 (y_args6 g4 rfl rfl) rfl r1 ?_
  refine w_IS y67_5 ?_
  refine w_I y67_6 rfl ?_
  refine w_K y67_7 ?_
  cases hq : yNmd T n m Nm 7 ng p with
  | inl e =>
    rw [hq] at h1
    obtain ⟨rfl, h2⟩ := (show x = Int32.ofInt (-1) ∧ yGB e σ1 from h1)
    refine w_icF y67_8 rfl (by decide) ?_
    refine w_K y67_11 ?_
    exact y_ret (v := .int (yb false)) y67_12 y_rtb ⟨false, rfl, rfl, h2⟩
  | inr i =>
    have hk2 : ykd T n m p = 2 ∧ i ≤ 6 := by
      unfold yNmd at hq
      by_cases e : yisN T n m p = true
      · refine ⟨(of_decide_eq_true e).1, ?_⟩
        rw [if_pos e] at hq
        cases hf : yfs T n Nm 7 ng p with
        | none => rw [hf] at hq; cases hq
        | some k =>
          rw [hf] at hq
          have hk := yfi_lt (show yfi (fun i => Nm (7 + i)) (yrv T n p) ng 0 = some k from hf)
          cases hq
          omega
      · rw [if_neg e] at hq
        cases hq
    rw [hq] at h1
    obtain ⟨rfl, h2⟩ := (show x = Int32.ofNat i ∧ yG T n m p Nm ng o σ1 from h1)
    refine w_icT y67_8 rfl (by
      have := y_oN (k := i) (by omega)
      simp only [iv_c2]
      exact decide_eq_true this) ?_
    refine w_A y67_13 rfl ?_
    refine G_go hm y67_14 rfl h2 (by rw [hk2.1]; decide) (fun σ2 h3 => ?_)
    refine w_A y67_17 rfl ?_
    refine w_gs y67_18 ?_
    refine w_I y67_21 rfl ?_
    refine w_K y67_22 ?_
    refine G_add (j := 23) (by decide) y67_23 rfl h3 (fun σ3 h4 => ?_)
    exact y_ret (v := .int (yb true)) y67_26 y_rtb ⟨true, rfl, rfl, h4⟩
theorem yg_meas {d p o j : Nat} {σ : iv_H} (hj : j < 28) (hT : ∀ i, T i ≤ 255) (hm : m ≤ 900) (h : yG T n m p Nm ng o σ) : ∃ b σ1, iv_Rn L xs (d + 3) 68 0 (lv_args 0 [.ref 104, .ref 356, .ref (2 * j + 3)]) [] σ (some (.int (yb b))) σ1 ∧ yC2 T n m Nm ng o (yCmp T n m p) b σ1 := by
  refine y_RbE ?_
  have good : ∀ (lv : iv_L) (b1 b2 : Bool), iv_f1 lv 0 = some (.ref 104) → iv_f1 lv 1 = some (.ref 356) → iv_f1 lv 2 = some (.ref (2 * j + 3)) → iv_f1 lv 3 = some (.int (yb b1)) → iv_f1 lv 4 = some (.int (yb b2)) → (yMk T n m p 60 = true ∨ yMk T n m p 61 = true ∨ yMk T n m p 62 = true) → zGo L xs (fun r σ1 => ∃ b, r = some (.int (yb b)) ∧ yC2 T n m Nm ng o (yCmp T n m p) b σ1) [] (d + 3) 68 39 lv [] σ := fun lv b1 b2 l0 l1 l2 l3 l4 hm3 => by
    have sp : yCmp T n m p = yThen (yNum T n m 0 999 (yto T n m p)) fun q => .inr q.2 := by unfold yCmp; rw [if_pos hm3]
    have hk4 : ykd T n m p = 4 := by
      rcases hm3 with e | e | e <;> exact yMk_k e
    rw [sp]
    refine w_A y68_39 l1 ?_
    refine G_go hm y68_40 rfl h (by rw [hk4]; decide) (fun σ1 h1 => ?_)
    refine w_A y68_43 l1 ?_
    refine w_K y68_44 ?_
    refine w_K y68_45 ?_
    refine G_num (by decide) (by decide) hm hT y68_48 rfl h1 (fun e σ2 hq h2 => ?_) (fun q σ2 hq h2 => ?_)
    · rw [hq]
      refine w_IS y68_51 ?_
      refine w_I y68_53 rfl ?_
      refine w_K y68_55 ?_
      refine w_icF y68_56 rfl (by decide) ?_
      refine w_K y68_59 ?_
      exact y_ret (v := .int (yb false)) y68_60 y_rtb ⟨false, rfl, rfl, h2⟩
    · have hq9 := yNum_le hq
      rw [hq]
      refine w_IS y68_51 ?_
      refine w_I y68_53 rfl ?_
      refine w_K y68_55 ?_
      refine w_icT y68_56 rfl (by
        have := y_oN (k := q.1) (by omega)
        simp only [iv_c2]
        exact decide_eq_true this) ?_
      refine w_A y68_61 (y_l1 rfl rfl l0) ?_
      refine w_A y68_62 (y_l1 rfl rfl l2) ?_
      refine w_I y68_63 rfl ?_
      refine w_I y68_65 (y_l1 rfl rfl l3) ?_
      rcases y_bc b1 with e1 | e1
      · refine w_ifT y68_66 rfl (y_beqT e1) ?_
        refine w_I y68_73 (y_l1 rfl rfl l4) ?_
        rcases y_bc b2 with e2 | e2
        · refine w_ifT y68_75 rfl (y_beqT e2) ?_
          refine w_K y68_82 ?_
          refine G_add hj y68_83 rfl h2 (fun σ3 h3 => ?_)
          exact y_ret (v := .int (yb true)) y68_86 y_rtb ⟨true, rfl, rfl, h3⟩
        · refine w_ifF y68_75 rfl (y_beqF e2) ?_
          refine w_K y68_78 ?_
          refine w_go y68_79 rfl ?_
          refine G_add hj y68_83 rfl h2 (fun σ3 h3 => ?_)
          exact y_ret (v := .int (yb true)) y68_86 y_rtb ⟨true, rfl, rfl, h3⟩
      · refine w_ifF y68_66 rfl (y_beqF e1) ?_
        refine w_K y68_69 ?_
        refine w_go y68_70 rfl ?_
        refine G_add hj y68_83 rfl h2 (fun σ3 h3 => ?_)
        exact y_ret (v := .int (yb true)) y68_86 y_rtb ⟨true, rfl, rfl, h3⟩
  refine w_A y68_0 rfl ?_
  refine w_K y68_1 ?_
  refine G_mk hT (by decide) y68_3 rfl h ?_
  refine w_IS y68_6 ?_
  refine w_A y68_7 rfl ?_
  refine w_K y68_8 ?_
  refine G_mk hT (by decide) y68_10 rfl h ?_
  refine w_IS y68_13 ?_
  refine w_I y68_15 rfl ?_
  rcases y_bc (yMk T n m p 60) with e1 | e1
  · refine w_ifF y68_16 rfl (y_bneF e1) ?_
    refine w_I y68_19 rfl ?_
    rcases y_bc (yMk T n m p 62) with e2 | e2
    · refine w_ifF y68_21 rfl (y_bneF e2) ?_
      refine w_A y68_24 rfl ?_
      refine w_K y68_25 ?_
      refine G_mk hT (by decide) y68_27 rfl h ?_
      rcases y_bc (yMk T n m p 61) with e3 | e3
      · refine w_ifF y68_30 rfl (y_bneF e3) ?_
        refine w_A y68_33 rfl ?_
        refine w_K y68_34 ?_
        refine G_ref hT y68_35 rfl h (.inr rfl) (fun σ1 h1 => ?_)
        have sp : yCmp T n m p = .inl (ybd T n m p 1) := by
          unfold yCmp
          rw [if_neg (by rw [e1, e2, e3]; decide)]
        rw [sp]
        exact y_ret y68_38 y_rtb ⟨false, rfl, rfl, h1⟩
      · exact w_ifT y68_30 rfl (y_bneT e3) (good _ (yMk T n m p 60) (yMk T n m p 62) rfl rfl rfl rfl rfl (.inr (.inl e3)))
    · exact w_ifT y68_21 rfl (y_bneT e2) (good _ (yMk T n m p 60) (yMk T n m p 62) rfl rfl rfl rfl rfl (.inr (.inr e2)))
  · exact w_ifT y68_16 rfl (y_bneT e1) (good _ (yMk T n m p 60) (yMk T n m p 62) rfl rfl rfl rfl rfl (.inl e1))
set_option maxHeartbeats 1000000 in
theorem yg_sx4 {f : Nat} (hg : ng ≤ 6) (hn : n ≤ 940) (hm : m ≤ 900) (hT : ∀ i, T i ≤ 255) (IH0 : yPc L xs T n m Nm ng f 63 0 3 10) (IH4 : yPc L xs T n m Nm ng f 65 4 1 8) : yPc L xs T n m Nm ng (f + 1) 65 4 1 8 := by
  intro w o p d σ hf hd hw ho h
  obtain ⟨d, rfl⟩ : ∃ e, d = e + 12 := ⟨d - 12, by omega⟩
  have hp9 := yG_p h
  obtain ⟨Vs, gs⟩ := yG_s h
  refine y_RbE ?_
  have un : ySx T n m Nm ng (f + 1) 4 w o p = (if yMk T n m p 40 = false ∧ 26 < yFw T n m p 10 17 then .inl (ybd T n m p 1)
    else if o = 20 ∨ w = 8 then .inl (ybd T n m p 4)
    else if yMk T n m p 40 = true then yThen (ySx T n m Nm ng f 0 (w + 1) (o + 1) (yto T n m p)) fun q => if yMk T n m q.1 41 = true then .inr (yto T n m q.1, q.2) else .inl (ybd T n m q.1 1)
    else if yFw T n m p 10 17 = 17 then ySx T n m Nm ng f 4 (w + 1) (o + 1) (yto T n m p)
    else if yFw T n m p 10 17 < 22 then .inr (yto T n m p, o + 1)
    else if yFw T n m p 10 17 < 23 then yThen (yNmd T n m Nm 7 ng (yto T n m p)) fun _ => .inr (yto T n m (yto T n m p), o + 1)
    else yThen (yCmp T n m (yto T n m p)) fun q => .inr (q, o + 1)) := rfl
  rw [un]
  refine w_A y65_0 rfl ?_
  refine G_w hT y65_1 h (fun j hj => ?_)
  have eW := yFw_wd hj 10 17 (by decide)
  have hWk := yFw_k (T := T) (n := n) (m := m) (p := p) (j := 10) (k := 17)
  have hj28 := hj.1
  refine y_AS y65_4 ?_
  refine w_A y65_6 rfl ?_
  refine w_K y65_7 ?_
  refine G_mk hT (by decide) y65_9 rfl h ?_
  refine w_IS y65_12 ?_
  obtain ⟨lv, elv, l0, l1, l2, l3, l4, l5⟩ : ∃ lv : iv_L, lv = (5, .int (yb (yMk T n m p 40))) :: iv_d1 5 ((4, .ref (2 * j + 3)) :: iv_d1 4 (lv_args 0 [.ref 104, .ref 356, .ref 4, .int (Int32.ofNat (w + 1))])) ∧ iv_f1 lv 0 = some (.ref 104) ∧ iv_f1 lv 1 = some (.ref 356) ∧ iv_f1 lv 2 = some (.ref 4) ∧ iv_f1 lv 3 = some (.int (Int32.ofNat (w + 1))) ∧ iv_f1 lv 4 = some (.ref (2 * j + 3)) ∧ iv_f1 lv 5 = some (.int (yb (yMk T n m p 40))) := ⟨_, rfl, rfl, rfl, rfl, rfl, rfl, rfl⟩
  rw [← elv]
  generalize yFw T n m p 10 17 = W at eW hWk ⊢
  have big : ∀ (Z : yE (Nat × Nat)), (yMk T n m p 40 = true ∨ 18 ≤ j) → Z = (if yMk T n m p 40 = true then yThen (ySx T n m Nm ng f 0 (w + 1) (o + 1) (yto T n m p)) fun q => if yMk T n m q.1 41 = true then .inr (yto T n m q.1, q.2) else .inl (ybd T n m q.1 1)
    else if W = 17 then ySx T n m Nm ng f 4 (w + 1) (o + 1) (yto T n m p)
    else if W < 22 then .inr (yto T n m p, o + 1)
    else if W < 23 then yThen (yNmd T n m Nm 7 ng (yto T n m p)) fun _ => .inr (yto T n m (yto T n m p), o + 1)
    else yThen (yCmp T n m (yto T n m p)) fun q => .inr (q, o + 1)) → o < 20 → w < 8 → zGo L xs (fun r σ1 => ∃ b, r = some (.int (yb b)) ∧ yCS T n m p Nm ng o Z b σ1) [] (d + 12) 65 54 lv [] σ := by
    intro Z hk hZ ho2 hw2
    have hk2 : 2 ≤ ykd T n m p := by
      rcases hk with e | e
      · rw [yMk_k e]; decide
      · rw [if_pos (by omega)] at eW
        rw [hWk (by omega)]; decide
    have hgt : p < yto T n m p := yto_gt hk2
    refine w_A y65_54 l0 ?_
    refine y_dup y65_55 rfl ?_
    refine G_g0 y65_56 h ?_
    refine w_K y65_59 ?_
    refine w_add y65_60 ?_
    refine G_p0 y65_61 h (fun σ1 h1 => ?_)
    refine w_A y65_64 l1 ?_
    refine G_go hm y65_65 rfl h1 hk2 (fun σ3 h3 => ?_)
    have hp3 := yG_p h3
    obtain ⟨V3, g3⟩ := yG_s h3
    refine w_I y65_68 l5 ?_
    rcases y_bc (yMk T n m p 40) with eo | eo
    · rw [if_neg (by rw [eo]; decide)] at hZ
      have hj18 : 18 ≤ j := by
        rcases hk with e | e
        · rw [eo] at e; cases e
        · exact e
      rw [if_pos (by omega)] at eW
      refine w_ifT y65_70 rfl (y_beqT eo) ?_
      refine w_gs y65_100 ?_
      refine w_A y65_103 l4 ?_
      refine yd_ord y65_105 hj28 rfl ?_
      refine yd_swl y65_108 hj28 ?_
      refine zGo_s y65_109 (yg_sw0 hj28) ?_
      by_cases c4 : j = 18
      · rw [if_pos (show W = 17 by omega)] at hZ
        rw [if_pos c4]
        obtain ⟨b, σ4, r4, h4⟩ := IH4 (w + 1) (o + 1) (yto T n m p) (d + 11) σ3 (by omega) (by omega) (by omega) (by omega) h3
        refine w_A y65_148 l0 ?_
        refine w_A y65_149 l1 ?_
        refine w_A y65_150 l2 ?_
        refine w_I y65_151 l3 ?_
        refine w_K y65_152 ?_
        refine w_add y65_153 ?_
        refine y_call y65_154 (y_args6 g3 rfl rfl) rfl r4 ?_
        rw [← hZ] at h4
        cases Z with
        | inl e =>
          obtain ⟨rfl, h5⟩ := (show b = false ∧ yGB e σ4 from h4)
          refine w_ifT y65_157 rfl (y_beqT rfl) ?_
          refine w_K y65_175 ?_
          exact y_ret (v := .int (yb false)) y65_176 y_rtb ⟨false, rfl, rfl, h5⟩
        | inr q =>
          obtain ⟨rfl, h5, ⟨c1, c2⟩, hp5⟩ := (show b = true ∧ yG T n m q.1 Nm ng q.2 σ4 ∧ (o + 1 < q.2 ∧ q.2 ≤ 20) ∧ yto T n m p < q.1 from h4)
          refine w_ifF y65_157 rfl (y_beqF rfl) ?_
          refine w_A y65_160 l0 ?_
          refine w_A y65_161 l4 ?_
          refine w_K y65_163 ?_
          refine w_K y65_164 ?_
          refine G_add hj28 y65_165 rfl h5 (fun σ5 h6 => ?_)
          refine w_ifF y65_168 rfl (y_beqF rfl) ?_
          refine w_K y65_171 ?_
          refine w_go y65_172 rfl ?_
          exact y_ret (v := .int (yb true)) y65_176 y_rtb ⟨true, rfl, rfl, h6, ⟨by omega, c2⟩, by omega⟩
      · rw [if_neg (show ¬ W = 17 by omega)] at hZ
        rw [if_neg c4]
        by_cases c6 : j = 23
        · rw [if_neg (show ¬ W < 22 by omega), if_pos (show W < 23 by omega)] at hZ
          rw [if_pos c6]
          obtain ⟨b, σ4, r4, h4⟩ := yg_with (L := L) (xs := xs) (d := d + 8) hT hm hg h3
          refine w_A y65_177 l0 ?_
          refine w_A y65_178 l1 ?_
          refine w_A y65_179 l2 ?_
          refine y_call y65_180 (y_args6 g3 rfl rfl) rfl r4 ?_
          subst hZ
          refine y_ret y65_183 y_rtb ⟨b, rfl, ?_⟩
          cases hq : yNmd T n m Nm 7 ng (yto T n m p) with
          | inl e =>
            rw [hq] at h4
            exact h4
          | inr q =>
            have hk3 : ykd T n m (yto T n m p) = 2 := by
              unfold yNmd at hq
              by_cases e : yisN T n m (yto T n m p) = true
              · exact (of_decide_eq_true e).1
              · rw [if_neg e] at hq
                cases hq
            have hgt2 : yto T n m p < yto T n m (yto T n m p) := yto_gt (by rw [hk3]; decide)
            rw [hq] at h4
            obtain ⟨hb, h5⟩ := (show b = true ∧ yG T n m (yto T n m (yto T n m p)) Nm ng (o + 1) σ4 from h4)
            exact ⟨hb, h5, ⟨by show o < o + 1; omega, by show o + 1 ≤ 20; omega⟩, by show p < yto T n m (yto T n m p); omega⟩
        · rw [if_neg c6]
          by_cases c7 : 24 ≤ j
          · rw [if_neg (show ¬ W < 22 by omega), if_neg (show ¬ W < 23 by omega)] at hZ
            rw [if_pos c7]
            obtain ⟨b, σ4, r4, h4⟩ := yg_meas (L := L) (xs := xs) (d := d + 8) hj28 hT hm h3
            refine w_A y65_184 l0 ?_
            refine w_A y65_185 l1 ?_
            refine w_A y65_186 l4 ?_
            refine y_call y65_188 (y_args6 g3 rfl rfl) rfl r4 ?_
            subst hZ
            refine y_ret y65_191 y_rtb ⟨b, rfl, ?_⟩
            cases hq : yCmp T n m (yto T n m p) with
            | inl e =>
              rw [hq] at h4
              exact h4
            | inr q =>
              have hge := yCmp_ge hq
              rw [hq] at h4
              obtain ⟨hb, h5⟩ := (show b = true ∧ yG T n m q Nm ng (o + 1) σ4 from h4)
              exact ⟨hb, h5, ⟨by show o < o + 1; omega, by show o + 1 ≤ 20; omega⟩, by show p < q; omega⟩
          · rw [if_pos (show W < 22 by omega)] at hZ
            rw [if_neg c7]
            refine w_A y65_192 l0 ?_
            refine w_A y65_193 l4 ?_
            refine w_K y65_195 ?_
            refine w_K y65_196 ?_
            refine G_add hj28 y65_197 rfl h3 (fun σ5 h6 => ?_)
            subst hZ
            exact y_ret (v := .int (yb true)) y65_200 y_rtb ⟨true, rfl, rfl, h6, ⟨by show o < o + 1; omega, by show o + 1 ≤ 20; omega⟩, hgt⟩
    · rw [if_pos eo] at hZ
      refine w_ifF y65_70 rfl (y_beqF eo) ?_
      obtain ⟨b, σ4, r4, h4⟩ := IH0 (w + 1) (o + 1) (yto T n m p) (d + 11) σ3 (by omega) (by omega) (by omega) (by omega) h3
      refine w_A y65_73 l0 ?_
      refine w_A y65_74 l1 ?_
      refine w_A y65_75 l2 ?_
      refine w_I y65_76 l3 ?_
      refine w_K y65_77 ?_
      refine w_add y65_78 ?_
      refine y_call y65_79 (y_args6 g3 rfl rfl) rfl r4 ?_
      cases hq : ySx T n m Nm ng f 0 (w + 1) (o + 1) (yto T n m p) with
      | inl e =>
        rw [hq] at h4 hZ
        obtain ⟨rfl, h5⟩ := (show b = false ∧ yGB e σ4 from h4)
        subst hZ
        refine w_ifT y65_82 rfl (y_beqT rfl) ?_
        refine w_K y65_98 ?_
        exact y_ret (v := .int (yb false)) y65_99 y_rtb ⟨false, rfl, rfl, h5⟩
      | inr q =>
        rw [hq] at h4 hZ
        obtain ⟨rfl, h5, ⟨c1, c2⟩, hp5⟩ := (show b = true ∧ yG T n m q.1 Nm ng q.2 σ4 ∧ (o + 1 < q.2 ∧ q.2 ≤ 20) ∧ yto T n m p < q.1 from h4)
        have hZ : Z = (if yMk T n m q.1 41 = true then .inr (yto T n m q.1, q.2) else .inl (ybd T n m q.1 1)) := hZ
        refine w_ifF y65_82 rfl (y_beqF rfl) ?_
        obtain ⟨b2, σ5, r5, h6⟩ := yg_pm (L := L) (xs := xs) (d := d + 10) (c := 41) hT hm (by decide) h5
        obtain ⟨V5, g5⟩ := yG_r h5
        refine w_A y65_85 l1 ?_
        refine w_K y65_86 ?_
        refine y_call y65_88 (y_args6 g5 rfl rfl) rfl r5 ?_
        rcases h6 with ⟨rfl, e2, h7⟩ | ⟨rfl, e2, h7⟩
        · rw [if_neg (by rw [e2]; decide)] at hZ
          subst hZ
          refine w_ifT y65_91 rfl (y_beqT rfl) ?_
          refine w_K y65_98 ?_
          exact y_ret (v := .int (yb false)) y65_99 y_rtb ⟨false, rfl, rfl, h7⟩
        · rw [if_pos e2] at hZ
          subst hZ
          have hgt2 : q.1 < yto T n m q.1 := yto_gt (by rw [yMk_k e2]; decide)
          refine w_ifF y65_91 rfl (y_beqF rfl) ?_
          refine w_K y65_94 ?_
          refine w_go y65_95 rfl ?_
          exact y_ret (v := .int (yb true)) y65_99 y_rtb ⟨true, rfl, rfl, h7, ⟨by show o < q.2; omega, c2⟩, by show p < yto T n m q.1; omega⟩
  have rest : (yMk T n m p 40 = true ∨ 18 ≤ j) → zGo L xs (fun r σ1 => ∃ b, r = some (.int (yb b)) ∧ yCS T n m p Nm ng o (if o = 20 ∨ w = 8 then .inl (ybd T n m p 4) else if yMk T n m p 40 = true then yThen (ySx T n m Nm ng f 0 (w + 1) (o + 1) (yto T n m p)) fun q => if yMk T n m q.1 41 = true then .inr (yto T n m q.1, q.2) else .inl (ybd T n m q.1 1)
    else if W = 17 then ySx T n m Nm ng f 4 (w + 1) (o + 1) (yto T n m p)
    else if W < 22 then .inr (yto T n m p, o + 1)
    else if W < 23 then yThen (yNmd T n m Nm 7 ng (yto T n m p)) fun _ => .inr (yto T n m (yto T n m p), o + 1)
    else yThen (yCmp T n m (yto T n m p)) fun q => .inr (q, o + 1)) b σ1) [] (d + 12) 65 33 lv [] σ := fun hk => by
    have hk1 : ¬ ykd T n m p = 1 := by
      rcases hk with e | e
      · rw [yMk_k e]; decide
      · rw [if_pos (by omega)] at eW
        rw [hWk (by omega)]; decide
    have too : zGo L xs (fun r σ1 => ∃ b, r = some (.int (yb b)) ∧ yCS T n m p Nm ng o (.inl (ybd T n m p 4)) b σ1) [] (d + 12) 65 48 lv [] σ := by
      refine w_A y65_48 l1 ?_
      refine w_K y65_49 ?_
      refine G_ref hT y65_50 rfl h (.inl hk1) (fun σ1 h1 => ?_)
      exact y_ret y65_53 y_rtb ⟨false, rfl, rfl, h1⟩
    refine w_A y65_33 l0 ?_
    refine G_g0 y65_34 h ?_
    refine w_K y65_37 ?_
    by_cases c2 : o = 20
    · rw [if_pos (Or.inl c2)]
      exact y_icT y65_39 rfl (by omega) (by omega) (by simp only [zch]; omega) too
    · refine y_icF y65_39 rfl (by omega) (by omega) (by simp only [zch]; omega) ?_
      refine w_I y65_42 l3 ?_
      refine w_K y65_43 ?_
      by_cases c3 : w = 8
      · rw [if_pos (Or.inr c3)]
        exact y_icF y65_45 rfl (by omega) (by omega) (by simp only [zch]; omega) too
      · rw [if_neg (by omega)]
        exact y_icT y65_45 rfl (by omega) (by omega) (by simp only [zch]; omega) (big _ hk rfl (by omega) (by omega))
  refine w_I y65_14 l5 ?_
  rcases y_bc (yMk T n m p 40) with eo | eo
  · refine w_ifF y65_16 rfl (y_bneF eo) ?_
    refine w_A y65_19 l4 ?_
    refine y_call y65_21 (y_args4 rfl rfl) rfl (yg_bo (L := L) (xs := xs) (d := d + 11) hj28) ?_
    by_cases c1 : 18 ≤ j
    · refine w_ifT y65_24 rfl (y_bneT (decide_eq_true c1)) ?_
      rw [if_pos (by omega)] at eW
      rw [if_neg (fun h2 : yMk T n m p 40 = false ∧ 26 < W => by have := h2.2; omega)]
      exact rest (.inr c1)
    · refine w_ifF y65_24 rfl (y_bneF (decide_eq_false c1)) ?_
      rw [if_neg (by omega)] at eW
      rw [if_pos (And.intro eo (show 26 < W by omega))]
      refine w_A y65_27 l1 ?_
      refine w_K y65_28 ?_
      refine G_ref hT y65_29 rfl h (.inr rfl) (fun σ1 h1 => ?_)
      exact y_ret y65_32 y_rtb ⟨false, rfl, rfl, h1⟩
  · rw [if_neg (fun h2 : yMk T n m p 40 = false ∧ 26 < W => by rw [eo] at h2; cases h2.1)]
    exact w_ifT y65_16 rfl (y_bneT eo) (rest (.inl eo))
theorem yg_sx (hg : ng ≤ 6) (hn : n ≤ 940) (hm : m ≤ 900) (hT : ∀ i, T i ≤ 255) : ∀ f, yPc L xs T n m Nm ng f 63 0 3 10 ∧ yPc L xs T n m Nm ng f 64 1 2 9 ∧ yQc L xs T n m Nm ng f 63 2 10 ∧ yQc L xs T n m Nm ng f 64 3 9 ∧ yPc L xs T n m Nm ng f 65 4 1 8
  | 0 => ⟨fun w o p d σ hf => by omega, fun w o p d σ hf => by omega, fun w o p i d σ lv hf => by omega, fun w o p i d σ lv hf => by omega, fun w o p d σ hf => by omega⟩
  | f + 1 => by
    obtain ⟨h0, h1, h2, h3, h4⟩ := yg_sx hg hn hm hT f
    exact ⟨yg_sx0 hn h1 h2, yg_sx1 hn h4 h3, yg_sx2 hn hm hT h1 h2, yg_sx3 hn hm hT h4 h3, yg_sx4 hg hn hm hT h0 h4⟩
end GM
