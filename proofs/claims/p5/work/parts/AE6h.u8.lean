/-! ===== the class reads a deed, a line, a book ===== -/
set_option maxRecDepth 100000 in
theorem y1_0 : iv_f1 (iv_p 1) 0 = some (.inl (iv_oA 0 1)) := rfl
set_option maxRecDepth 100000 in
theorem y1_1 : iv_f1 (iv_p 1) 1 = some (.inl (iv_oK (.int (Int32.ofNat 0)) 1)) := rfl
set_option maxRecDepth 100000 in
theorem y1_2 : iv_f1 (iv_p 1) 2 = some (.inl (iv_oPF 0 0 .int)) := rfl
set_option maxRecDepth 100000 in
theorem y1_5 : iv_f1 (iv_p 1) 5 = some (.inl (iv_oK (.int (Int32.ofNat 0)) 1)) := rfl
set_option maxRecDepth 100000 in
theorem y1_6 : iv_f1 (iv_p 1) 6 = some (.inl (iv_oIS 3 1)) := rfl
set_option maxRecDepth 100000 in
theorem y1_7 : iv_f1 (iv_p 1) 7 = some (.inl (iv_oI 3 1)) := rfl
set_option maxRecDepth 100000 in
theorem y1_8 : iv_f1 (iv_p 1) 8 = some (.inl (iv_oK (.int (Int32.ofNat 40)) 2)) := rfl
set_option maxRecDepth 100000 in
theorem y1_10 : iv_f1 (iv_p 1) 10 = some (.inl (iv_oIc .gt (46))) := rfl
set_option maxRecDepth 100000 in
theorem y1_13 : iv_f1 (iv_p 1) 13 = some (.inl (iv_oA 1 1)) := rfl
set_option maxRecDepth 100000 in
theorem y1_14 : iv_f1 (iv_p 1) 14 = some (.inr (.inr (6, 53, 0, 5))) := rfl
set_option maxRecDepth 100000 in
theorem y1_17 : iv_f1 (iv_p 1) 17 = some (.inl (iv_oIf .ne (39))) := rfl
set_option maxRecDepth 100000 in
theorem y1_20 : iv_f1 (iv_p 1) 20 = some (.inl (iv_oA 0 1)) := rfl
set_option maxRecDepth 100000 in
theorem y1_21 : iv_f1 (iv_p 1) 21 = some (.inl (iv_oA 1 1)) := rfl
set_option maxRecDepth 100000 in
theorem y1_22 : iv_f1 (iv_p 1) 22 = some (.inl (iv_oA 2 1)) := rfl
set_option maxRecDepth 100000 in
theorem y1_23 : iv_f1 (iv_p 1) 23 = some (.inr (.inr (6, 2, 2, 0))) := rfl
set_option maxRecDepth 100000 in
theorem y1_26 : iv_f1 (iv_p 1) 26 = some (.inl (iv_oIf .eq (12))) := rfl
set_option maxRecDepth 100000 in
theorem y1_29 : iv_f1 (iv_p 1) 29 = some (.inl (iv_oA 1 1)) := rfl
set_option maxRecDepth 100000 in
theorem y1_30 : iv_f1 (iv_p 1) 30 = some (.inl (iv_oK (.int (Int32.ofNat 59)) 2)) := rfl
set_option maxRecDepth 100000 in
theorem y1_32 : iv_f1 (iv_p 1) 32 = some (.inr (.inr (6, 57, 1, 5))) := rfl
set_option maxRecDepth 100000 in
theorem y1_35 : iv_f1 (iv_p 1) 35 = some (.inl (iv_oIf .ne (5))) := rfl
set_option maxRecDepth 100000 in
theorem y1_38 : iv_f1 (iv_p 1) 38 = some (.inl (iv_oK (.int (Int32.ofNat 0)) 1)) := rfl
set_option maxRecDepth 100000 in
theorem y1_39 : iv_f1 (iv_p 1) 39 = some (.inr (.inl 2)) := rfl
set_option maxRecDepth 100000 in
theorem y1_40 : iv_f1 (iv_p 1) 40 = some (.inl (iv_oA 0 1)) := rfl
set_option maxRecDepth 100000 in
theorem y1_41 : iv_f1 (iv_p 1) 41 = some (.inl iv_oDup) := rfl
set_option maxRecDepth 100000 in
theorem y1_42 : iv_f1 (iv_p 1) 42 = some (.inl (iv_oGF 0 0)) := rfl
set_option maxRecDepth 100000 in
theorem y1_45 : iv_f1 (iv_p 1) 45 = some (.inl (iv_oK (.int (Int32.ofNat 1)) 1)) := rfl
set_option maxRecDepth 100000 in
theorem y1_46 : iv_f1 (iv_p 1) 46 = some (.inl (iv_oII fun x y => x + y)) := rfl
set_option maxRecDepth 100000 in
theorem y1_47 : iv_f1 (iv_p 1) 47 = some (.inl (iv_oPF 0 0 .int)) := rfl
set_option maxRecDepth 100000 in
theorem y1_50 : iv_f1 (iv_p 1) 50 = some (.inl (iv_oInc 3 (1))) := rfl
set_option maxRecDepth 100000 in
theorem y1_53 : iv_f1 (iv_p 1) 53 = some (.inl (iv_oGo (-46))) := rfl
set_option maxRecDepth 100000 in
theorem y1_56 : iv_f1 (iv_p 1) 56 = some (.inl (iv_oK (.int (Int32.ofNat 1)) 1)) := rfl
set_option maxRecDepth 100000 in
theorem y1_57 : iv_f1 (iv_p 1) 57 = some (.inr (.inl 2)) := rfl
set_option maxRecDepth 100000 in
theorem y2_0 : iv_f1 (iv_p 2) 0 = some (.inl (iv_oS 101)) := rfl
set_option maxRecDepth 100000 in
theorem y2_3 : iv_f1 (iv_p 2) 3 = some (.inl (iv_oA 1 1)) := rfl
set_option maxRecDepth 100000 in
theorem y2_4 : iv_f1 (iv_p 2) 4 = some (.inl (iv_oGF 5 9)) := rfl
set_option maxRecDepth 100000 in
theorem y2_7 : iv_f1 (iv_p 2) 7 = some (.inl iv_oOrd) := rfl
set_option maxRecDepth 100000 in
theorem y2_10 : iv_f1 (iv_p 2) 10 = some (.inl iv_oIl) := rfl
set_option maxRecDepth 100000 in
theorem y2_11 : iv_f1 (iv_p 2) 11 = some (.inl (iv_oLs (38) #[(7, 25), (8, 32)])) := rfl
set_option maxRecDepth 100000 in
theorem y2_36 : iv_f1 (iv_p 2) 36 = some (.inl (iv_oA 0 1)) := rfl
set_option maxRecDepth 100000 in
theorem y2_37 : iv_f1 (iv_p 2) 37 = some (.inl (iv_oA 1 1)) := rfl
set_option maxRecDepth 100000 in
theorem y2_38 : iv_f1 (iv_p 2) 38 = some (.inl (iv_oA 2 1)) := rfl
set_option maxRecDepth 100000 in
theorem y2_39 : iv_f1 (iv_p 2) 39 = some (.inr (.inr (6, 4, 2, 0))) := rfl
set_option maxRecDepth 100000 in
theorem y2_42 : iv_f1 (iv_p 2) 42 = some (.inr (.inl 2)) := rfl
set_option maxRecDepth 100000 in
theorem y2_43 : iv_f1 (iv_p 2) 43 = some (.inl (iv_oA 0 1)) := rfl
set_option maxRecDepth 100000 in
theorem y2_44 : iv_f1 (iv_p 2) 44 = some (.inl (iv_oA 1 1)) := rfl
set_option maxRecDepth 100000 in
theorem y2_45 : iv_f1 (iv_p 2) 45 = some (.inr (.inr (6, 5, 1, 0))) := rfl
set_option maxRecDepth 100000 in
theorem y2_48 : iv_f1 (iv_p 2) 48 = some (.inr (.inl 2)) := rfl
set_option maxRecDepth 100000 in
theorem y2_49 : iv_f1 (iv_p 2) 49 = some (.inl (iv_oA 0 1)) := rfl
set_option maxRecDepth 100000 in
theorem y2_50 : iv_f1 (iv_p 2) 50 = some (.inl (iv_oA 1 1)) := rfl
set_option maxRecDepth 100000 in
theorem y2_51 : iv_f1 (iv_p 2) 51 = some (.inl (iv_oA 2 1)) := rfl
set_option maxRecDepth 100000 in
theorem y2_52 : iv_f1 (iv_p 2) 52 = some (.inr (.inr (6, 6, 2, 0))) := rfl
set_option maxRecDepth 100000 in
theorem y2_55 : iv_f1 (iv_p 2) 55 = some (.inr (.inl 2)) := rfl
set_option maxRecDepth 100000 in
theorem y6_0 : iv_f1 (iv_p 6) 0 = some (.inl (iv_oA 2 1)) := rfl
set_option maxRecDepth 100000 in
theorem y6_1 : iv_f1 (iv_p 6) 1 = some (.inl (iv_oA 1 1)) := rfl
set_option maxRecDepth 100000 in
theorem y6_2 : iv_f1 (iv_p 6) 2 = some (.inr (.inr (6, 30, 1, 3))) := rfl
set_option maxRecDepth 100000 in
theorem y6_5 : iv_f1 (iv_p 6) 5 = some (.inl (iv_oIS 3 1)) := rfl
set_option maxRecDepth 100000 in
theorem y6_6 : iv_f1 (iv_p 6) 6 = some (.inl (iv_oI 3 1)) := rfl
set_option maxRecDepth 100000 in
theorem y6_7 : iv_f1 (iv_p 6) 7 = some (.inl (iv_oK (.int (Int32.ofInt (-1))) 1)) := rfl
set_option maxRecDepth 100000 in
theorem y6_8 : iv_f1 (iv_p 6) 8 = some (.inl (iv_oIc .eq (11))) := rfl
set_option maxRecDepth 100000 in
theorem y6_11 : iv_f1 (iv_p 6) 11 = some (.inl (iv_oA 0 1)) := rfl
set_option maxRecDepth 100000 in
theorem y6_12 : iv_f1 (iv_p 6) 12 = some (.inl (iv_oA 1 1)) := rfl
set_option maxRecDepth 100000 in
theorem y6_13 : iv_f1 (iv_p 6) 13 = some (.inr (.inr (6, 3, 1, 0))) := rfl
set_option maxRecDepth 100000 in
theorem y6_16 : iv_f1 (iv_p 6) 16 = some (.inl (iv_oIf .ne (5))) := rfl
set_option maxRecDepth 100000 in
theorem y6_19 : iv_f1 (iv_p 6) 19 = some (.inl (iv_oK (.int (Int32.ofNat 0)) 1)) := rfl
set_option maxRecDepth 100000 in
theorem y6_20 : iv_f1 (iv_p 6) 20 = some (.inr (.inl 2)) := rfl
set_option maxRecDepth 100000 in
theorem y6_21 : iv_f1 (iv_p 6) 21 = some (.inl (iv_oA 1 1)) := rfl
set_option maxRecDepth 100000 in
theorem y6_22 : iv_f1 (iv_p 6) 22 = some (.inr (.inr (6, 52, 0, 5))) := rfl
set_option maxRecDepth 100000 in
theorem y6_25 : iv_f1 (iv_p 6) 25 = some (.inl (iv_oS 101)) := rfl
set_option maxRecDepth 100000 in
theorem y6_28 : iv_f1 (iv_p 6) 28 = some (.inl (iv_oA 1 1)) := rfl
set_option maxRecDepth 100000 in
theorem y6_29 : iv_f1 (iv_p 6) 29 = some (.inl (iv_oGF 5 9)) := rfl
set_option maxRecDepth 100000 in
theorem y6_32 : iv_f1 (iv_p 6) 32 = some (.inl iv_oOrd) := rfl
set_option maxRecDepth 100000 in
theorem y6_35 : iv_f1 (iv_p 6) 35 = some (.inl iv_oIl) := rfl
set_option maxRecDepth 100000 in
theorem y6_36 : iv_f1 (iv_p 6) 36 = some (.inl (iv_oTs (63) (9) (12) #[32, 40, 48, 55])) := rfl
set_option maxRecDepth 100000 in
theorem y6_68 : iv_f1 (iv_p 6) 68 = some (.inl (iv_oA 0 1)) := rfl
set_option maxRecDepth 100000 in
theorem y6_69 : iv_f1 (iv_p 6) 69 = some (.inl (iv_oA 1 1)) := rfl
set_option maxRecDepth 100000 in
theorem y6_70 : iv_f1 (iv_p 6) 70 = some (.inl (iv_oA 2 1)) := rfl
set_option maxRecDepth 100000 in
theorem y6_71 : iv_f1 (iv_p 6) 71 = some (.inl (iv_oI 3 1)) := rfl
set_option maxRecDepth 100000 in
theorem y6_72 : iv_f1 (iv_p 6) 72 = some (.inr (.inr (6, 7, 3, 0))) := rfl
set_option maxRecDepth 100000 in
theorem y6_75 : iv_f1 (iv_p 6) 75 = some (.inr (.inl 2)) := rfl
set_option maxRecDepth 100000 in
theorem y6_76 : iv_f1 (iv_p 6) 76 = some (.inl (iv_oA 0 1)) := rfl
set_option maxRecDepth 100000 in
theorem y6_77 : iv_f1 (iv_p 6) 77 = some (.inl (iv_oA 1 1)) := rfl
set_option maxRecDepth 100000 in
theorem y6_78 : iv_f1 (iv_p 6) 78 = some (.inl (iv_oA 2 1)) := rfl
set_option maxRecDepth 100000 in
theorem y6_79 : iv_f1 (iv_p 6) 79 = some (.inl (iv_oI 3 1)) := rfl
set_option maxRecDepth 100000 in
theorem y6_80 : iv_f1 (iv_p 6) 80 = some (.inr (.inr (6, 9, 3, 0))) := rfl
set_option maxRecDepth 100000 in
theorem y6_83 : iv_f1 (iv_p 6) 83 = some (.inr (.inl 2)) := rfl
set_option maxRecDepth 100000 in
theorem y6_84 : iv_f1 (iv_p 6) 84 = some (.inl (iv_oA 0 1)) := rfl
set_option maxRecDepth 100000 in
theorem y6_85 : iv_f1 (iv_p 6) 85 = some (.inl (iv_oA 1 1)) := rfl
set_option maxRecDepth 100000 in
theorem y6_86 : iv_f1 (iv_p 6) 86 = some (.inl (iv_oI 3 1)) := rfl
set_option maxRecDepth 100000 in
theorem y6_87 : iv_f1 (iv_p 6) 87 = some (.inr (.inr (6, 10, 2, 0))) := rfl
set_option maxRecDepth 100000 in
theorem y6_90 : iv_f1 (iv_p 6) 90 = some (.inr (.inl 2)) := rfl
set_option maxRecDepth 100000 in
theorem y6_91 : iv_f1 (iv_p 6) 91 = some (.inl (iv_oA 0 1)) := rfl
set_option maxRecDepth 100000 in
theorem y6_92 : iv_f1 (iv_p 6) 92 = some (.inl (iv_oA 1 1)) := rfl
set_option maxRecDepth 100000 in
theorem y6_93 : iv_f1 (iv_p 6) 93 = some (.inl (iv_oA 2 1)) := rfl
set_option maxRecDepth 100000 in
theorem y6_94 : iv_f1 (iv_p 6) 94 = some (.inl (iv_oI 3 1)) := rfl
set_option maxRecDepth 100000 in
theorem y6_95 : iv_f1 (iv_p 6) 95 = some (.inr (.inr (6, 11, 3, 0))) := rfl
set_option maxRecDepth 100000 in
theorem y6_98 : iv_f1 (iv_p 6) 98 = some (.inr (.inl 2)) := rfl
set_option maxRecDepth 100000 in
theorem y6_99 : iv_f1 (iv_p 6) 99 = some (.inl (iv_oA 1 1)) := rfl
set_option maxRecDepth 100000 in
theorem y6_100 : iv_f1 (iv_p 6) 100 = some (.inl (iv_oK (.int (Int32.ofNat 1)) 1)) := rfl
set_option maxRecDepth 100000 in
theorem y6_101 : iv_f1 (iv_p 6) 101 = some (.inr (.inr (6, 56, 1, 5))) := rfl
set_option maxRecDepth 100000 in
theorem y6_104 : iv_f1 (iv_p 6) 104 = some (.inr (.inl 2)) := rfl
set_option maxRecDepth 100000 in
theorem y7_0 : iv_f1 (iv_p 7) 0 = some (.inl (iv_oA 1 1)) := rfl
set_option maxRecDepth 100000 in
theorem y7_1 : iv_f1 (iv_p 7) 1 = some (.inr (.inr (6, 52, 0, 5))) := rfl
set_option maxRecDepth 100000 in
theorem y7_4 : iv_f1 (iv_p 7) 4 = some (.inl (iv_oA 2 1)) := rfl
set_option maxRecDepth 100000 in
theorem y7_5 : iv_f1 (iv_p 7) 5 = some (.inl (iv_oA 1 1)) := rfl
set_option maxRecDepth 100000 in
theorem y7_6 : iv_f1 (iv_p 7) 6 = some (.inr (.inr (6, 30, 1, 3))) := rfl
set_option maxRecDepth 100000 in
theorem y7_9 : iv_f1 (iv_p 7) 9 = some (.inl (iv_oIS 4 2)) := rfl
set_option maxRecDepth 100000 in
theorem y7_11 : iv_f1 (iv_p 7) 11 = some (.inl (iv_oI 4 2)) := rfl
set_option maxRecDepth 100000 in
theorem y7_13 : iv_f1 (iv_p 7) 13 = some (.inl (iv_oK (.int (Int32.ofInt (-1))) 1)) := rfl
set_option maxRecDepth 100000 in
theorem y7_14 : iv_f1 (iv_p 7) 14 = some (.inl (iv_oIc .ne (5))) := rfl
set_option maxRecDepth 100000 in
theorem y7_17 : iv_f1 (iv_p 7) 17 = some (.inl (iv_oK (.int (Int32.ofNat 0)) 1)) := rfl
set_option maxRecDepth 100000 in
theorem y7_18 : iv_f1 (iv_p 7) 18 = some (.inr (.inl 2)) := rfl
set_option maxRecDepth 100000 in
theorem y7_19 : iv_f1 (iv_p 7) 19 = some (.inl (iv_oA 1 1)) := rfl
set_option maxRecDepth 100000 in
theorem y7_20 : iv_f1 (iv_p 7) 20 = some (.inr (.inr (6, 52, 0, 5))) := rfl
set_option maxRecDepth 100000 in
theorem y7_23 : iv_f1 (iv_p 7) 23 = some (.inl (iv_oA 1 1)) := rfl
set_option maxRecDepth 100000 in
theorem y7_24 : iv_f1 (iv_p 7) 24 = some (.inl (iv_oGF 5 9)) := rfl
set_option maxRecDepth 100000 in
theorem y7_27 : iv_f1 (iv_p 7) 27 = some (.inr (.inr (4, 8, 1, 0))) := rfl
set_option maxRecDepth 100000 in
theorem y7_30 : iv_f1 (iv_p 7) 30 = some (.inl (iv_oIS 5 2)) := rfl
set_option maxRecDepth 100000 in
theorem y7_32 : iv_f1 (iv_p 7) 32 = some (.inl (iv_oI 5 2)) := rfl
set_option maxRecDepth 100000 in
theorem y7_34 : iv_f1 (iv_p 7) 34 = some (.inl (iv_oK (.int (Int32.ofInt (-1))) 1)) := rfl
set_option maxRecDepth 100000 in
theorem y7_35 : iv_f1 (iv_p 7) 35 = some (.inl (iv_oIc .ne (9))) := rfl
set_option maxRecDepth 100000 in
theorem y7_38 : iv_f1 (iv_p 7) 38 = some (.inl (iv_oA 1 1)) := rfl
set_option maxRecDepth 100000 in
theorem y7_39 : iv_f1 (iv_p 7) 39 = some (.inl (iv_oK (.int (Int32.ofNat 1)) 1)) := rfl
set_option maxRecDepth 100000 in
theorem y7_40 : iv_f1 (iv_p 7) 40 = some (.inr (.inr (6, 56, 1, 5))) := rfl
set_option maxRecDepth 100000 in
theorem y7_43 : iv_f1 (iv_p 7) 43 = some (.inr (.inl 2)) := rfl
set_option maxRecDepth 100000 in
theorem y7_44 : iv_f1 (iv_p 7) 44 = some (.inl (iv_oA 1 1)) := rfl
set_option maxRecDepth 100000 in
theorem y7_45 : iv_f1 (iv_p 7) 45 = some (.inr (.inr (6, 52, 0, 5))) := rfl
set_option maxRecDepth 100000 in
theorem y7_48 : iv_f1 (iv_p 7) 48 = some (.inl (iv_oA 0 1)) := rfl
set_option maxRecDepth 100000 in
theorem y7_49 : iv_f1 (iv_p 7) 49 = some (.inl (iv_oK (.int (Int32.ofNat 0)) 1)) := rfl
set_option maxRecDepth 100000 in
theorem y7_50 : iv_f1 (iv_p 7) 50 = some (.inl (iv_oI 3 1)) := rfl
set_option maxRecDepth 100000 in
theorem y7_51 : iv_f1 (iv_p 7) 51 = some (.inl (iv_oI 4 2)) := rfl
set_option maxRecDepth 100000 in
theorem y7_53 : iv_f1 (iv_p 7) 53 = some (.inl (iv_oI 5 2)) := rfl
set_option maxRecDepth 100000 in
theorem y7_55 : iv_f1 (iv_p 7) 55 = some (.inr (.inr (6, 12, 4, 0))) := rfl
set_option maxRecDepth 100000 in
theorem y7_58 : iv_f1 (iv_p 7) 58 = some (.inl (iv_oK (.int (Int32.ofNat 1)) 1)) := rfl
set_option maxRecDepth 100000 in
theorem y7_59 : iv_f1 (iv_p 7) 59 = some (.inr (.inl 2)) := rfl
set_option maxRecDepth 100000 in
theorem y9_0 : iv_f1 (iv_p 9) 0 = some (.inl (iv_oA 1 1)) := rfl
set_option maxRecDepth 100000 in
theorem y9_1 : iv_f1 (iv_p 9) 1 = some (.inr (.inr (6, 52, 0, 5))) := rfl
set_option maxRecDepth 100000 in
theorem y9_4 : iv_f1 (iv_p 9) 4 = some (.inl (iv_oA 2 1)) := rfl
set_option maxRecDepth 100000 in
theorem y9_5 : iv_f1 (iv_p 9) 5 = some (.inl (iv_oA 1 1)) := rfl
set_option maxRecDepth 100000 in
theorem y9_6 : iv_f1 (iv_p 9) 6 = some (.inr (.inr (6, 31, 1, 3))) := rfl
set_option maxRecDepth 100000 in
theorem y9_9 : iv_f1 (iv_p 9) 9 = some (.inl (iv_oIS 4 2)) := rfl
set_option maxRecDepth 100000 in
theorem y9_11 : iv_f1 (iv_p 9) 11 = some (.inl (iv_oI 4 2)) := rfl
set_option maxRecDepth 100000 in
theorem y9_13 : iv_f1 (iv_p 9) 13 = some (.inl (iv_oK (.int (Int32.ofInt (-1))) 1)) := rfl
set_option maxRecDepth 100000 in
theorem y9_14 : iv_f1 (iv_p 9) 14 = some (.inl (iv_oIc .ne (5))) := rfl
set_option maxRecDepth 100000 in
theorem y9_17 : iv_f1 (iv_p 9) 17 = some (.inl (iv_oK (.int (Int32.ofNat 0)) 1)) := rfl
set_option maxRecDepth 100000 in
theorem y9_18 : iv_f1 (iv_p 9) 18 = some (.inr (.inl 2)) := rfl
set_option maxRecDepth 100000 in
theorem y9_19 : iv_f1 (iv_p 9) 19 = some (.inl (iv_oA 1 1)) := rfl
set_option maxRecDepth 100000 in
theorem y9_20 : iv_f1 (iv_p 9) 20 = some (.inr (.inr (6, 52, 0, 5))) := rfl
set_option maxRecDepth 100000 in
theorem y9_23 : iv_f1 (iv_p 9) 23 = some (.inl (iv_oA 0 1)) := rfl
set_option maxRecDepth 100000 in
theorem y9_24 : iv_f1 (iv_p 9) 24 = some (.inl (iv_oK (.int (Int32.ofNat 1)) 1)) := rfl
set_option maxRecDepth 100000 in
theorem y9_25 : iv_f1 (iv_p 9) 25 = some (.inl (iv_oI 3 1)) := rfl
set_option maxRecDepth 100000 in
theorem y9_26 : iv_f1 (iv_p 9) 26 = some (.inl (iv_oI 4 2)) := rfl
set_option maxRecDepth 100000 in
theorem y9_28 : iv_f1 (iv_p 9) 28 = some (.inl (iv_oK (.int (Int32.ofNat 0)) 1)) := rfl
set_option maxRecDepth 100000 in
theorem y9_29 : iv_f1 (iv_p 9) 29 = some (.inr (.inr (6, 12, 4, 0))) := rfl
set_option maxRecDepth 100000 in
theorem y9_32 : iv_f1 (iv_p 9) 32 = some (.inl (iv_oK (.int (Int32.ofNat 1)) 1)) := rfl
set_option maxRecDepth 100000 in
theorem y9_33 : iv_f1 (iv_p 9) 33 = some (.inr (.inl 2)) := rfl
set_option maxRecDepth 100000 in
theorem y10_0 : iv_f1 (iv_p 10) 0 = some (.inl (iv_oA 1 1)) := rfl
set_option maxRecDepth 100000 in
theorem y10_1 : iv_f1 (iv_p 10) 1 = some (.inr (.inr (6, 52, 0, 5))) := rfl
set_option maxRecDepth 100000 in
theorem y10_4 : iv_f1 (iv_p 10) 4 = some (.inl (iv_oA 0 1)) := rfl
set_option maxRecDepth 100000 in
theorem y10_5 : iv_f1 (iv_p 10) 5 = some (.inl (iv_oK (.int (Int32.ofNat 2)) 1)) := rfl
set_option maxRecDepth 100000 in
theorem y10_6 : iv_f1 (iv_p 10) 6 = some (.inl (iv_oI 2 1)) := rfl
set_option maxRecDepth 100000 in
theorem y10_7 : iv_f1 (iv_p 10) 7 = some (.inl (iv_oK (.int (Int32.ofNat 0)) 1)) := rfl
set_option maxRecDepth 100000 in
theorem y10_8 : iv_f1 (iv_p 10) 8 = some (.inl (iv_oK (.int (Int32.ofNat 0)) 1)) := rfl
set_option maxRecDepth 100000 in
theorem y10_9 : iv_f1 (iv_p 10) 9 = some (.inr (.inr (6, 12, 4, 0))) := rfl
set_option maxRecDepth 100000 in
theorem y10_12 : iv_f1 (iv_p 10) 12 = some (.inl (iv_oK (.int (Int32.ofNat 1)) 1)) := rfl
set_option maxRecDepth 100000 in
theorem y10_13 : iv_f1 (iv_p 10) 13 = some (.inr (.inl 2)) := rfl
set_option maxRecDepth 100000 in
theorem y11_0 : iv_f1 (iv_p 11) 0 = some (.inl (iv_oA 1 1)) := rfl
set_option maxRecDepth 100000 in
theorem y11_1 : iv_f1 (iv_p 11) 1 = some (.inr (.inr (6, 52, 0, 5))) := rfl
set_option maxRecDepth 100000 in
theorem y11_4 : iv_f1 (iv_p 11) 4 = some (.inl (iv_oA 2 1)) := rfl
set_option maxRecDepth 100000 in
theorem y11_5 : iv_f1 (iv_p 11) 5 = some (.inl (iv_oA 1 1)) := rfl
set_option maxRecDepth 100000 in
theorem y11_6 : iv_f1 (iv_p 11) 6 = some (.inr (.inr (6, 30, 1, 3))) := rfl
set_option maxRecDepth 100000 in
theorem y11_9 : iv_f1 (iv_p 11) 9 = some (.inl (iv_oIS 4 2)) := rfl
set_option maxRecDepth 100000 in
theorem y11_11 : iv_f1 (iv_p 11) 11 = some (.inl (iv_oI 4 2)) := rfl
set_option maxRecDepth 100000 in
theorem y11_13 : iv_f1 (iv_p 11) 13 = some (.inl (iv_oK (.int (Int32.ofInt (-1))) 1)) := rfl
set_option maxRecDepth 100000 in
theorem y11_14 : iv_f1 (iv_p 11) 14 = some (.inl (iv_oIc .ne (5))) := rfl
set_option maxRecDepth 100000 in
theorem y11_17 : iv_f1 (iv_p 11) 17 = some (.inl (iv_oK (.int (Int32.ofNat 0)) 1)) := rfl
set_option maxRecDepth 100000 in
theorem y11_18 : iv_f1 (iv_p 11) 18 = some (.inr (.inl 2)) := rfl
set_option maxRecDepth 100000 in
theorem y11_19 : iv_f1 (iv_p 11) 19 = some (.inl (iv_oA 1 1)) := rfl
set_option maxRecDepth 100000 in
theorem y11_20 : iv_f1 (iv_p 11) 20 = some (.inr (.inr (6, 52, 0, 5))) := rfl
set_option maxRecDepth 100000 in
theorem y11_23 : iv_f1 (iv_p 11) 23 = some (.inl (iv_oA 0 1)) := rfl
set_option maxRecDepth 100000 in
theorem y11_24 : iv_f1 (iv_p 11) 24 = some (.inl (iv_oK (.int (Int32.ofNat 3)) 1)) := rfl
set_option maxRecDepth 100000 in
theorem y11_25 : iv_f1 (iv_p 11) 25 = some (.inl (iv_oI 3 1)) := rfl
set_option maxRecDepth 100000 in
theorem y11_26 : iv_f1 (iv_p 11) 26 = some (.inl (iv_oI 4 2)) := rfl
set_option maxRecDepth 100000 in
theorem y11_28 : iv_f1 (iv_p 11) 28 = some (.inl (iv_oK (.int (Int32.ofNat 0)) 1)) := rfl
set_option maxRecDepth 100000 in
theorem y11_29 : iv_f1 (iv_p 11) 29 = some (.inr (.inr (6, 12, 4, 0))) := rfl
set_option maxRecDepth 100000 in
theorem y11_32 : iv_f1 (iv_p 11) 32 = some (.inl (iv_oK (.int (Int32.ofNat 1)) 1)) := rfl
set_option maxRecDepth 100000 in
theorem y11_33 : iv_f1 (iv_p 11) 33 = some (.inr (.inl 2)) := rfl
section HD
variable {L : Nat} {xs : Nat → Int32} {Post : Option Value → iv_H → Prop} {d M pc : Nat} {lv : iv_L} {st : List Value} {σ : iv_H} {T : Nat → Nat} {n m p : Nat} {Nm : Nat → Int64} {nb ng l : Nat}
theorem ySid_wd {j : Nat} (h : yWd T n m p j) : ySid T n m p = if 12 < j ∧ j ≤ 15 then .inr (yto T n m p) else .inl (ybd T n m p 1) := by
  unfold ySid
  rw [yFw_wd2 h 3 12 15 rfl (by decide)]
  by_cases c : 12 < j ∧ j ≤ 15
  · rw [if_pos c, if_pos c, if_pos (by omega)]
  · rw [if_neg c, if_neg c, if_neg (by omega)]
theorem yWd_k {j : Nat} (h : yWd T n m p j) (hj : 0 < j) : ykd T n m p = 2 := by
  have h1 := (h.2 (j - 1) (by have := h.1; omega)).mp (by omega)
  exact (of_decide_eq_true h1).1
theorem yh_grates {w : Int32} (hT : ∀ i, T i ≤ 255) (hm : m ≤ 900) (hb : nb ≤ 7) (hl : l < 40) (hk : ykd T n m p = 2) (h : yH T n m p Nm nb ng l σ) : ∃ b σ1, iv_Rn L xs (d + 3) 7 0 (lv_args 0 [.ref 374, .ref 356, .ref 4, .int w]) [] σ (some (.int (yb b))) σ1 ∧ yHq T n m Nm nb ng l (yThen (yNmd T n m Nm 0 nb (yto T n m p)) fun _ => ySid T n m (yto T n m (yto T n m p))) b σ1 := by
  obtain ⟨V, gV⟩ := yH_r h
  refine y_RbE ?_
  refine w_A y7_0 rfl ?_
  refine H_go hm y7_1 rfl h (by omega) (fun σ2 h2 => ?_)
  obtain ⟨E, gE⟩ := yH_4 h2
  refine w_A y7_4 rfl ?_
  refine w_A y7_5 rfl ?_
  obtain ⟨x, σ3, r3, o3⟩ := yh_bat (L := L) (xs := xs) (d := d) hT hb h2
  refine y_call y7_6 (y_args6 gE rfl rfl) rfl r3 ?_
  refine w_IS y7_9 ?_
  refine w_I y7_11 rfl ?_
  refine w_K y7_13 ?_
  cases hq : yNmd T n m Nm 0 nb (yto T n m p) with
  | inl e =>
    rw [hq] at o3
    obtain ⟨rfl, h3⟩ := (show x = Int32.ofInt (-1) ∧ yGB e σ3 from o3)
    refine w_icF y7_14 rfl (by decide) ?_
    refine w_K y7_17 ?_
    exact y_ret (v := .int (yb false)) y7_18 y_rtb ⟨false, rfl, rfl, h3⟩
  | inr i =>
    rw [hq] at o3
    obtain ⟨rfl, h3⟩ := (show x = Int32.ofNat i ∧ yH T n m (yto T n m p) Nm nb ng l σ3 from o3)
    have hi := yNmd_lt hq
    show zGo L xs (fun r σ1 => ∃ b, r = some (.int (yb b)) ∧ yHq T n m Nm nb ng l (ySid T n m (yto T n m (yto T n m p))) b σ1) [] _ 7 14 _ _ σ3
    refine w_icT y7_14 rfl (neq1 (by omega)) ?_
    refine w_A y7_19 rfl ?_
    refine H_go hm y7_20 rfl h3 (by rw [yisN_k (yNmd_n hq)]; decide) (fun σ4 h4 => ?_)
    refine w_A y7_23 rfl ?_
    refine H_w hT y7_24 h4 (fun j hj => ?_)
    rw [ySid_wd hj]
    obtain ⟨x5, r5, o5⟩ := yh_sof (L := L) (xs := xs) (d := d + 2) (σ := σ4) hj.1
    refine y_call y7_27 (y_args4 rfl rfl) rfl r5 ?_
    refine w_IS y7_30 ?_
    refine w_I y7_32 rfl ?_
    refine w_K y7_34 ?_
    rcases o5 with ⟨c1, c2, k, hk2, rfl⟩ | ⟨c1, rfl⟩
    · rw [if_pos ⟨c1, c2⟩]
      refine w_icT y7_35 rfl (neq1 (by omega)) ?_
      refine w_A y7_44 rfl ?_
      refine H_go hm y7_45 rfl h4 (by rw [yWd_k hj (by omega)]; decide) (fun σ6 h6 => ?_)
      refine w_A y7_48 rfl ?_
      refine w_K y7_49 ?_
      refine w_I y7_50 rfl ?_
      refine w_I y7_51 rfl ?_
      refine w_I y7_53 rfl ?_
      obtain ⟨σ7, r7, h7⟩ := yh_add (L := L) (xs := xs) (d := d + 2) (a := Int32.ofNat 0) (b := w) (c := Int32.ofNat i) (e := Int32.ofNat k) hl h6
      obtain ⟨B6, gB6, _⟩ := yH_b h6
      refine y_call0 y7_55 (y_args6 gB6 rfl rfl) rfl r7 ?_
      refine w_K y7_58 ?_
      exact y_ret (v := .int (yb true)) y7_59 y_rtb ⟨true, rfl, rfl, h7⟩
    · rw [if_neg c1]
      refine w_icF y7_35 rfl (by decide) ?_
      refine w_A y7_38 rfl ?_
      refine w_K y7_39 ?_
      refine H_ref hT y7_40 rfl h4 (.inr rfl) (fun σ6 h6 => ?_)
      exact y_ret (v := .int (yb false)) y7_43 y_rtb ⟨false, rfl, rfl, h6⟩
theorem yh_takes {w : Int32} (hT : ∀ i, T i ≤ 255) (hm : m ≤ 900) (hg : ng ≤ 6) (hl : l < 40) (hk : ykd T n m p = 2) (h : yH T n m p Nm nb ng l σ) : ∃ b σ1, iv_Rn L xs (d + 3) 9 0 (lv_args 0 [.ref 374, .ref 356, .ref 4, .int w]) [] σ (some (.int (yb b))) σ1 ∧ yHq T n m Nm nb ng l (yThen (yNmd T n m Nm 7 ng (yto T n m p)) fun _ => .inr (yto T n m (yto T n m p))) b σ1 := by
  obtain ⟨V, gV⟩ := yH_r h
  refine y_RbE ?_
  refine w_A y9_0 rfl ?_
  refine H_go hm y9_1 rfl h (by omega) (fun σ2 h2 => ?_)
  obtain ⟨E, gE⟩ := yH_4 h2
  refine w_A y9_4 rfl ?_
  refine w_A y9_5 rfl ?_
  obtain ⟨x, σ3, r3, o3⟩ := yh_gat (L := L) (xs := xs) (d := d) hT hg h2
  refine y_call y9_6 (y_args6 gE rfl rfl) rfl r3 ?_
  refine w_IS y9_9 ?_
  refine w_I y9_11 rfl ?_
  refine w_K y9_13 ?_
  cases hq : yNmd T n m Nm 7 ng (yto T n m p) with
  | inl e =>
    rw [hq] at o3
    obtain ⟨rfl, h3⟩ := (show x = Int32.ofInt (-1) ∧ yGB e σ3 from o3)
    refine w_icF y9_14 rfl (by decide) ?_
    refine w_K y9_17 ?_
    exact y_ret (v := .int (yb false)) y9_18 y_rtb ⟨false, rfl, rfl, h3⟩
  | inr i =>
    rw [hq] at o3
    obtain ⟨rfl, h3⟩ := (show x = Int32.ofNat i ∧ yH T n m (yto T n m p) Nm nb ng l σ3 from o3)
    have hi := yNmd_lt hq
    refine w_icT y9_14 rfl (neq1 (by omega)) ?_
    refine w_A y9_19 rfl ?_
    refine H_go hm y9_20 rfl h3 (by rw [yisN_k (yNmd_n hq)]; decide) (fun σ4 h4 => ?_)
    refine w_A y9_23 rfl ?_
    refine w_K y9_24 ?_
    refine w_I y9_25 rfl ?_
    refine w_I y9_26 rfl ?_
    refine w_K y9_28 ?_
    obtain ⟨σ5, r5, h5⟩ := yh_add (L := L) (xs := xs) (d := d + 2) (a := Int32.ofNat 1) (b := w) (c := Int32.ofNat i) (e := Int32.ofNat 0) hl h4
    obtain ⟨B4, gB4, _⟩ := yH_b h4
    refine y_call0 y9_29 (y_args6 gB4 rfl rfl) rfl r5 ?_
    refine w_K y9_32 ?_
    exact y_ret (v := .int (yb true)) y9_33 y_rtb ⟨true, rfl, rfl, h5⟩
theorem yh_puts {w : Int32} (hm : m ≤ 900) (hl : l < 40) (hk : ykd T n m p = 2) (h : yH T n m p Nm nb ng l σ) : ∃ b σ1, iv_Rn L xs (d + 3) 10 0 (lv_args 0 [.ref 374, .ref 356, .int w]) [] σ (some (.int (yb b))) σ1 ∧ yHq T n m Nm nb ng l (.inr (yto T n m p)) b σ1 := by
  refine y_RbE ?_
  refine w_A y10_0 rfl ?_
  refine H_go hm y10_1 rfl h (by omega) (fun σ2 h2 => ?_)
  refine w_A y10_4 rfl ?_
  refine w_K y10_5 ?_
  refine w_I y10_6 rfl ?_
  refine w_K y10_7 ?_
  refine w_K y10_8 ?_
  obtain ⟨σ5, r5, h5⟩ := yh_add (L := L) (xs := xs) (d := d + 2) (a := Int32.ofNat 2) (b := w) (c := Int32.ofNat 0) (e := Int32.ofNat 0) hl h2
  obtain ⟨B4, gB4, _⟩ := yH_b h2
  refine y_call0 y10_9 (y_args6 gB4 rfl rfl) rfl r5 ?_
  refine w_K y10_12 ?_
  exact y_ret (v := .int (yb true)) y10_13 y_rtb ⟨true, rfl, rfl, h5⟩
theorem yh_swaps {w : Int32} (hT : ∀ i, T i ≤ 255) (hm : m ≤ 900) (hb : nb ≤ 7) (hl : l < 40) (hk : ykd T n m p = 2) (h : yH T n m p Nm nb ng l σ) : ∃ b σ1, iv_Rn L xs (d + 3) 11 0 (lv_args 0 [.ref 374, .ref 356, .ref 4, .int w]) [] σ (some (.int (yb b))) σ1 ∧ yHq T n m Nm nb ng l (yThen (yNmd T n m Nm 0 nb (yto T n m p)) fun _ => .inr (yto T n m (yto T n m p))) b σ1 := by
  obtain ⟨V, gV⟩ := yH_r h
  refine y_RbE ?_
  refine w_A y11_0 rfl ?_
  refine H_go hm y11_1 rfl h (by omega) (fun σ2 h2 => ?_)
  obtain ⟨E, gE⟩ := yH_4 h2
  refine w_A y11_4 rfl ?_
  refine w_A y11_5 rfl ?_
  obtain ⟨x, σ3, r3, o3⟩ := yh_bat (L := L) (xs := xs) (d := d) hT hb h2
  refine y_call y11_6 (y_args6 gE rfl rfl) rfl r3 ?_
  refine w_IS y11_9 ?_
  refine w_I y11_11 rfl ?_
  refine w_K y11_13 ?_
  cases hq : yNmd T n m Nm 0 nb (yto T n m p) with
  | inl e =>
    rw [hq] at o3
    obtain ⟨rfl, h3⟩ := (show x = Int32.ofInt (-1) ∧ yGB e σ3 from o3)
    refine w_icF y11_14 rfl (by decide) ?_
    refine w_K y11_17 ?_
    exact y_ret (v := .int (yb false)) y11_18 y_rtb ⟨false, rfl, rfl, h3⟩
  | inr i =>
    rw [hq] at o3
    obtain ⟨rfl, h3⟩ := (show x = Int32.ofNat i ∧ yH T n m (yto T n m p) Nm nb ng l σ3 from o3)
    have hi := yNmd_lt hq
    refine w_icT y11_14 rfl (neq1 (by omega)) ?_
    refine w_A y11_19 rfl ?_
    refine H_go hm y11_20 rfl h3 (by rw [yisN_k (yNmd_n hq)]; decide) (fun σ4 h4 => ?_)
    refine w_A y11_23 rfl ?_
    refine w_K y11_24 ?_
    refine w_I y11_25 rfl ?_
    refine w_I y11_26 rfl ?_
    refine w_K y11_28 ?_
    obtain ⟨σ5, r5, h5⟩ := yh_add (L := L) (xs := xs) (d := d + 2) (a := Int32.ofNat 3) (b := w) (c := Int32.ofNat i) (e := Int32.ofNat 0) hl h4
    obtain ⟨B4, gB4, _⟩ := yH_b h4
    refine y_call0 y11_29 (y_args6 gB4 rfl rfl) rfl r5 ?_
    refine w_K y11_32 ?_
    exact y_ret (v := .int (yb true)) y11_33 y_rtb ⟨true, rfl, rfl, h5⟩
theorem yDoe_wd {j : Nat} (h : yWd T n m p j) : yDoe T n m Nm nb ng p = if j = 7 then yThen (yNmd T n m Nm 0 nb (yto T n m p)) fun _ => ySid T n m (yto T n m (yto T n m p)) else if j = 8 then yThen (yNmd T n m Nm 7 ng (yto T n m p)) fun _ => .inr (yto T n m (yto T n m p)) else if j = 9 then .inr (yto T n m p) else if j = 10 then yThen (yNmd T n m Nm 0 nb (yto T n m p)) fun _ => .inr (yto T n m (yto T n m p)) else .inl (ybd T n m p 1) := by
  unfold yDoe
  rw [yFw_wd2 h 4 6 10 rfl (by decide)]
  by_cases c7 : j = 7
  · rw [if_pos c7, if_pos (show 6 < j ∧ j ≤ 10 by omega), if_pos (by omega)]
  · rw [if_neg c7]
    by_cases c8 : j = 8
    · rw [if_pos c8, if_pos (show 6 < j ∧ j ≤ 10 by omega), if_neg (by omega), if_pos (by omega)]
    · rw [if_neg c8]
      by_cases c9 : j = 9
      · rw [if_pos c9, if_pos (show 6 < j ∧ j ≤ 10 by omega), if_neg (by omega), if_neg (by omega), if_pos (by omega)]
      · rw [if_neg c9]
        by_cases c10 : j = 10
        · rw [if_pos c10, if_pos (show 6 < j ∧ j ≤ 10 by omega), if_neg (by omega), if_neg (by omega), if_neg (by omega), if_pos (by omega)]
        · rw [if_neg c10, if_neg (show ¬ (6 < j ∧ j ≤ 10) by omega), if_neg (by decide), if_neg (by decide), if_neg (by decide), if_neg (by decide)]
theorem yh_deed (hT : ∀ i, T i ≤ 255) (hm : m ≤ 900) (hb : nb ≤ 7) (hg : ng ≤ 6) (hl : l ≤ 40) (h : yH T n m p Nm nb ng l σ) : ∃ b σ1, iv_Rn L xs (d + 4) 6 0 (lv_args 0 [.ref 374, .ref 356, .ref 4]) [] σ (some (.int (yb b))) σ1 ∧ yHq T n m Nm nb ng l (yThen (yNmd T n m Nm 0 nb p) fun _ => if l = 40 then .inl (ybd T n m p 4) else yDoe T n m Nm nb ng (yto T n m p)) b σ1 := by
  obtain ⟨E, gE⟩ := yH_4 h
  refine y_RbE ?_
  refine w_A y6_0 rfl ?_
  refine w_A y6_1 rfl ?_
  obtain ⟨x, σ1, r1, o1⟩ := yh_bat (L := L) (xs := xs) (d := d + 1) hT hb h
  refine y_call y6_2 (y_args6 gE rfl rfl) rfl r1 ?_
  refine w_IS y6_5 ?_
  refine w_I y6_6 rfl ?_
  refine w_K y6_7 ?_
  cases hq : yNmd T n m Nm 0 nb p with
  | inl e =>
    rw [hq] at o1
    obtain ⟨rfl, h3⟩ := (show x = Int32.ofInt (-1) ∧ yGB e σ1 from o1)
    refine w_icT y6_8 rfl (by decide) ?_
    refine w_K y6_19 ?_
    exact y_ret (v := .int (yb false)) y6_20 y_rtb ⟨false, rfl, rfl, h3⟩
  | inr i =>
    rw [hq] at o1
    obtain ⟨rfl, h1⟩ := (show x = Int32.ofNat i ∧ yH T n m p Nm nb ng l σ1 from o1)
    have hi := yNmd_lt hq
    have hk := yisN_k (yNmd_n hq)
    show zGo L xs (fun r σ1 => ∃ b, r = some (.int (yb b)) ∧ yHq T n m Nm nb ng l (if l = 40 then .inl (ybd T n m p 4) else yDoe T n m Nm nb ng (yto T n m p)) b σ1) [] _ 6 8 _ _ σ1
    refine w_icF y6_8 rfl (by
      have := neq1 (i := i) (by omega)
      simp only [iv_c2] at this ⊢
      exact decide_eq_false (of_decide_eq_true this)) ?_
    obtain ⟨B, gB, _⟩ := yH_b h1
    refine w_A y6_11 rfl ?_
    refine w_A y6_12 rfl ?_
    obtain ⟨b2, σ2, r2, o2⟩ := yh_room (L := L) (xs := xs) (d := d + 2) hT hl hk h1
    refine y_call y6_13 (y_args6 gB rfl rfl) rfl r2 ?_
    rcases o2 with ⟨rfl, hl2, rfl⟩ | ⟨rfl, hl2, h2⟩
    · rw [if_neg (by omega)]
      refine w_ifT y6_16 rfl (y_bneT rfl) ?_
      refine w_A y6_21 rfl ?_
      refine H_go hm y6_22 rfl h1 (by omega) (fun σ3 h3 => ?_)
      refine w_gs y6_25 ?_
      refine w_A y6_28 rfl ?_
      refine H_w hT y6_29 h3 (fun j hj => ?_)
      refine yd_ord y6_32 hj.1 rfl ?_
      refine yd_swl y6_35 hj.1 ?_
      refine zGo_s y6_36 (yk_ts6 hj.1) ?_
      rw [yDoe_wd hj]
      obtain ⟨B3, gB3, _⟩ := yH_b h3
      by_cases c7 : j = 7
      · rw [if_pos c7, if_pos c7]
        obtain ⟨b4, σ4, r4, o4⟩ := yh_grates (L := L) (xs := xs) (d := d) (w := Int32.ofNat i) hT hm hb hl2 (yWd_k hj (by omega)) h3
        refine w_A y6_68 rfl ?_
        refine w_A y6_69 rfl ?_
        refine w_A y6_70 rfl ?_
        refine w_I y6_71 rfl ?_
        refine y_call y6_72 (y_args6 gB3 rfl rfl) rfl r4 ?_
        exact y_ret y6_75 y_rtb ⟨b4, rfl, o4⟩
      · rw [if_neg c7, if_neg c7]
        by_cases c8 : j = 8
        · rw [if_pos c8, if_pos c8]
          obtain ⟨b4, σ4, r4, o4⟩ := yh_takes (L := L) (xs := xs) (d := d) (w := Int32.ofNat i) hT hm hg hl2 (yWd_k hj (by omega)) h3
          refine w_A y6_76 rfl ?_
          refine w_A y6_77 rfl ?_
          refine w_A y6_78 rfl ?_
          refine w_I y6_79 rfl ?_
          refine y_call y6_80 (y_args6 gB3 rfl rfl) rfl r4 ?_
          exact y_ret y6_83 y_rtb ⟨b4, rfl, o4⟩
        · rw [if_neg c8, if_neg c8]
          by_cases c9 : j = 9
          · rw [if_pos c9, if_pos c9]
            obtain ⟨b4, σ4, r4, o4⟩ := yh_puts (L := L) (xs := xs) (d := d) (w := Int32.ofNat i) hm hl2 (yWd_k hj (by omega)) h3
            refine w_A y6_84 rfl ?_
            refine w_A y6_85 rfl ?_
            refine w_I y6_86 rfl ?_
            refine y_call y6_87 (y_args6 gB3 rfl rfl) rfl r4 ?_
            exact y_ret y6_90 y_rtb ⟨b4, rfl, o4⟩
          · rw [if_neg c9, if_neg c9]
            by_cases c10 : j = 10
            · rw [if_pos c10, if_pos c10]
              obtain ⟨b4, σ4, r4, o4⟩ := yh_swaps (L := L) (xs := xs) (d := d) (w := Int32.ofNat i) hT hm hb hl2 (yWd_k hj (by omega)) h3
              refine w_A y6_91 rfl ?_
              refine w_A y6_92 rfl ?_
              refine w_A y6_93 rfl ?_
              refine w_I y6_94 rfl ?_
              refine y_call y6_95 (y_args6 gB3 rfl rfl) rfl r4 ?_
              exact y_ret y6_98 y_rtb ⟨b4, rfl, o4⟩
            · rw [if_neg c10, if_neg c10]
              refine w_A y6_99 rfl ?_
              refine w_K y6_100 ?_
              refine H_ref hT y6_101 rfl h3 (.inr rfl) (fun σ4 h4 => ?_)
              exact y_ret (v := .int (yb false)) y6_104 y_rtb ⟨false, rfl, rfl, h4⟩
    · rw [if_pos hl2]
      refine w_ifF y6_16 rfl (y_bneF rfl) ?_
      refine w_K y6_19 ?_
      exact y_ret (v := .int (yb false)) y6_20 y_rtb ⟨false, rfl, rfl, h2⟩
theorem yh_line (hT : ∀ i, T i ≤ 255) (hm : m ≤ 900) (hb : nb ≤ 7) (hg : ng ≤ 6) (hl : l ≤ 40) (h : yH T n m p Nm nb ng l σ) : ∃ b σ1, iv_Rn L xs (d + 5) 2 0 (lv_args 0 [.ref 374, .ref 356, .ref 4]) [] σ (some (.int (yb b))) σ1 ∧ yHq T n m Nm nb ng l (yBln T n m Nm nb ng l p) b σ1 := by
  obtain ⟨B, gB, _⟩ := yH_b h
  refine y_RbE ?_
  refine w_gs y2_0 ?_
  refine w_A y2_3 rfl ?_
  refine H_w hT y2_4 h (fun j hj => ?_)
  refine yd_ord y2_7 hj.1 rfl ?_
  refine yd_swl y2_10 hj.1 ?_
  refine zGo_s y2_11 (yk_ls2 hj.1) ?_
  have w10 : yisW T n m p 10 = true ↔ j = 11 := (hj.2 10 (by decide)).symm
  have w11 : yisW T n m p 11 = true ↔ j = 12 := (hj.2 11 (by decide)).symm
  by_cases c11 : j = 11
  · have sp : yBln T n m Nm nb ng l p = if l = 40 then .inl (ybd T n m p 4) else yThen (yNmd T n m Nm 7 ng (yto T n m p)) fun _ => .inr (yto T n m (yto T n m p)) := if_pos (w10.mpr c11)
    rw [sp, if_pos c11]
    obtain ⟨b4, σ4, r4, o4⟩ := yh_file (L := L) (xs := xs) (d := d + 1) hT hm hg hl (yWd_k hj (by omega)) h
    refine w_A y2_36 rfl ?_
    refine w_A y2_37 rfl ?_
    refine w_A y2_38 rfl ?_
    refine y_call y2_39 (y_args6 gB rfl rfl) rfl r4 ?_
    exact y_ret y2_42 y_rtb ⟨b4, rfl, o4⟩
  · rw [if_neg c11]
    have n10 : ¬ yisW T n m p 10 = true := fun e => c11 (w10.mp e)
    by_cases c12 : j = 12
    · have sp : yBln T n m Nm nb ng l p = if l = 40 then .inl (ybd T n m p 4) else yThen (yNum T n m 1 60 (yto T n m p)) fun q => .inr q.2 := (if_neg n10).trans (if_pos (w11.mpr c12))
      rw [sp, if_pos c12]
      obtain ⟨b4, σ4, r4, o4⟩ := yh_day (L := L) (xs := xs) (d := d + 1) hT hm hl (yWd_k hj (by omega)) h
      refine w_A y2_43 rfl ?_
      refine w_A y2_44 rfl ?_
      refine y_call y2_45 (y_args6 gB rfl rfl) rfl r4 ?_
      exact y_ret y2_48 y_rtb ⟨b4, rfl, o4⟩
    · have n11 : ¬ yisW T n m p 11 = true := fun e => c12 (w11.mp e)
      have sp : yBln T n m Nm nb ng l p = yThen (yNmd T n m Nm 0 nb p) fun _ => if l = 40 then .inl (ybd T n m p 4) else yDoe T n m Nm nb ng (yto T n m p) := (if_neg n10).trans (if_neg n11)
      rw [sp, if_neg c12]
      obtain ⟨b4, σ4, r4, o4⟩ := yh_deed (L := L) (xs := xs) (d := d) hT hm hb hg hl h
      refine w_A y2_49 rfl ?_
      refine w_A y2_50 rfl ?_
      refine w_A y2_51 rfl ?_
      refine y_call y2_52 (y_args6 gB rfl rfl) rfl r4 ?_
      exact y_ret y2_55 y_rtb ⟨b4, rfl, o4⟩
/-- how a book ends -/
def yHe (T : Nat → Nat) (n m : Nat) (q : yE Nat) (b : Bool) (σ1 : iv_H) : Prop := match q with
  | .inl e => b = false ∧ yGB e σ1
  | .inr _ => b = true ∧ ∃ p1 V, yCM T n m p1 V σ1 ∧ V 11 = .int (Int32.ofNat 0)
theorem yh_bkL (hT : ∀ i, T i ≤ 255) (hm : m ≤ 900) (hb : nb ≤ 7) (hg : ng ≤ 6) : ∀ (f p l : Nat) (σ : iv_H) (lv : iv_L), l + f = 41 → l ≤ 40 → yH T n m p Nm nb ng l σ → iv_f1 lv 0 = some (.ref 374) → iv_f1 lv 1 = some (.ref 356) → iv_f1 lv 2 = some (.ref 4) → iv_f1 lv 3 = some (.int (Int32.ofNat l)) → zGo L xs (fun r σ1 => ∃ b, r = some (.int (yb b)) ∧ yHe T n m (yBok T n m Nm nb ng f p l) b σ1) [] (d + 6) 1 7 lv [] σ := by
  intro f
  induction f with
  | zero =>
    intro p l σ lv hl hl2
    omega
  | succ f ih =>
    intro p l σ lv hl hl2 h l0 l1 l2 l3
    obtain ⟨V, gV⟩ := yH_r h
    refine w_I y1_7 l3 ?_
    refine w_K y1_8 ?_
    refine y_icF y1_10 rfl (by omega) (by omega) (by simp only [zch]; omega) ?_
    refine w_A y1_13 l1 ?_
    refine H_ov hT y1_14 rfl h ?_
    by_cases c : ykd T n m p = 0
    · have un : yBok T n m Nm nb ng (f + 1) p l = .inr l := if_pos c
      rw [un]
      refine w_ifT y1_17 rfl (y_bneT (decide_eq_true c)) ?_
      refine w_K y1_56 ?_
      obtain ⟨⟨V2, hC, hV⟩, _⟩ := h
      exact y_ret (v := .int (yb true)) y1_57 y_rtb ⟨true, rfl, rfl, p, V2, hC, hV⟩
    · have un : yBok T n m Nm nb ng (f + 1) p l = yThen (yBln T n m Nm nb ng l p) fun q => yThen (yEnd T n m q) fun p2 => yBok T n m Nm nb ng f p2 (l + 1) := if_neg c
      rw [un]
      refine w_ifF y1_17 rfl (y_bneF (decide_eq_false c)) ?_
      obtain ⟨B, gB, _⟩ := yH_b h
      obtain ⟨b2, σ2, r2, o2⟩ := yh_line (L := L) (xs := xs) (d := d) hT hm hb hg hl2 h
      refine w_A y1_20 l0 ?_
      refine w_A y1_21 l1 ?_
      refine w_A y1_22 l2 ?_
      refine y_call y1_23 (y_args6 gB rfl rfl) rfl r2 ?_
      cases hq : yBln T n m Nm nb ng l p with
      | inl e =>
        rw [hq] at o2
        obtain ⟨rfl, h2⟩ := (show b2 = false ∧ yGB e σ2 from o2)
        refine w_ifT y1_26 rfl (y_beqT rfl) ?_
        refine w_K y1_38 ?_
        exact y_ret (v := .int (yb false)) y1_39 y_rtb ⟨false, rfl, rfl, h2⟩
      | inr q =>
        rw [hq] at o2
        obtain ⟨rfl, h2⟩ := (show b2 = true ∧ yH T n m q Nm nb ng l σ2 from o2)
        have hl3 : l < 40 := by
          rcases Nat.lt_or_ge l 40 with h9 | h9
          · exact h9
          · have e40 : l = 40 := by omega
            subst e40
            exact (yBln_40 hq).elim
        show zGo L xs (fun r σ1 => ∃ b, r = some (.int (yb b)) ∧ yHe T n m (yThen (yEnd T n m q) fun p2 => yBok T n m Nm nb ng f p2 (l + 1)) b σ1) [] _ 1 26 _ _ σ2
        refine w_ifF y1_26 rfl (y_beqF rfl) ?_
        obtain ⟨V2, gV2⟩ := yH_r h2
        obtain ⟨b3, σ3, r3, o3⟩ := yh_pm (L := L) (xs := xs) (d := d + 4) (c := 59) hT hm (by decide) h2
        refine w_A y1_29 l1 ?_
        refine w_K y1_30 ?_
        refine y_call y1_32 (y_args6 gV2 rfl rfl) rfl r3 ?_
        rcases o3 with ⟨rfl, e3, h3⟩ | ⟨rfl, e3, h3⟩
        · have sq : yEnd T n m q = .inl (ybd T n m q 1) := if_neg (of_decide_eq_false e3)
          rw [sq]
          refine w_ifF y1_35 rfl (y_bneF rfl) ?_
          refine w_K y1_38 ?_
          exact y_ret (v := .int (yb false)) y1_39 y_rtb ⟨false, rfl, rfl, h3⟩
        · have sq : yEnd T n m q = .inr (yto T n m q) := if_pos (of_decide_eq_true e3)
          rw [sq]
          show zGo L xs (fun r σ1 => ∃ b, r = some (.int (yb b)) ∧ yHe T n m (yBok T n m Nm nb ng f (yto T n m q) (l + 1)) b σ1) [] _ 1 35 _ _ σ3
          refine w_ifT y1_35 rfl (y_bneT rfl) ?_
          obtain ⟨hc3, ⟨W, vb, wh, wt, sd, g, ⟨s0, s1, s2, s3, s4⟩, g1, g2, g3, g4⟩, hr3⟩ := h3
          obtain ⟨V3, hC3, hV3⟩ := hc3
          refine w_A y1_40 l0 ?_
          refine y_dup y1_41 rfl ?_
          refine y_gf y1_42 g rfl s0 ?_
          refine w_K y1_45 ?_
          refine w_add y1_46 ?_
          refine y_pf y1_47 g rfl rfl (fun σ4 m4 => ?_)
          refine w_inc y1_50 (x := l) l3 ?_
          refine w_go y1_53 rfl ?_
          have f4 : yFr [374] σ3 σ4 := yF_D m4 rfl
          have h4 : yH T n m (yto T n m q) Nm nb ng (l + 1) σ4 := ⟨⟨V3, yCM_fr hC3 f4 rfl, hV3⟩, ⟨_, vb, wh, wt, sd, m4.2.1, ⟨rfl, s1, s2, s3, s4⟩, mD_n m4 (by decide) g1, mD_n m4 (by decide) g2, mD_n m4 (by decide) g3, mD_n m4 (by decide) g4⟩, yHr_F hr3 f4 rfl⟩
          exact ih (yto T n m q) (l + 1) σ4 _ (by omega) (by omega) h4 (y_l1 rfl rfl l0) (y_l1 rfl rfl l1) (y_l1 rfl rfl l2) y_l0
theorem yh_bk {V3 W : Nat → Value} {vb wh wt sd : Nat → Int32} (hT : ∀ i, T i ≤ 255) (hm : m ≤ 900) (hb : nb ≤ 7) (hg : ng ≤ 6) (hC3 : yCM T n m 0 V3 σ) (hV3 : V3 11 = .int (Int32.ofNat 0)) (g : iv_get σ 374 = some (yob 0 9 W)) (s1 : W 1 = .ref 376) (s2 : W 2 = .ref 378) (s3 : W 3 = .ref 380) (s4 : W 4 = .ref 382) (g1 : iv_get σ 376 = some (yai 40 vb)) (g2 : iv_get σ 378 = some (yai 40 wh)) (g3 : iv_get σ 380 = some (yai 40 wt)) (g4 : iv_get σ 382 = some (yai 40 sd)) (hr3 : yHr Nm nb ng σ) : ∃ b σ1, iv_Rn L xs (d + 6) 1 0 (lv_args 0 [.ref 374, .ref 356, .ref 4]) [] σ (some (.int (yb b))) σ1 ∧ yHe T n m (yBok T n m Nm nb ng 41 0 0) b σ1 := by
  refine y_RbE ?_
  refine w_A y1_0 rfl ?_
  refine w_K y1_1 ?_
  refine y_pf y1_2 g rfl rfl (fun σ4 m4 => ?_)
  refine w_K y1_5 ?_
  refine w_IS y1_6 ?_
  have f4 : yFr [374] σ σ4 := yF_D m4 rfl
  have h4 : yH T n m 0 Nm nb ng 0 σ4 := ⟨⟨V3, yCM_fr hC3 f4 rfl, hV3⟩, ⟨_, vb, wh, wt, sd, m4.2.1, ⟨rfl, s1, s2, s3, s4⟩, mD_n m4 (by decide) g1, mD_n m4 (by decide) g2, mD_n m4 (by decide) g3, mD_n m4 (by decide) g4⟩, yHr_F hr3 f4 rfl⟩
  exact yh_bkL hT hm hb hg 41 0 0 σ4 _ rfl (by decide) h4 rfl rfl rfl rfl
end HD
