/-! ===== sentence, whole, on both sides ===== -/
set_option maxRecDepth 100000 in
theorem y60_0 : iv_f1 (iv_p 60) 0 = some (.inl (iv_oA 0 1)) := rfl
set_option maxRecDepth 100000 in
theorem y60_1 : iv_f1 (iv_p 60) 1 = some (.inl (iv_oK (.int (Int32.ofNat 0)) 1)) := rfl
set_option maxRecDepth 100000 in
theorem y60_2 : iv_f1 (iv_p 60) 2 = some (.inl (iv_oPF 6 0 .int)) := rfl
set_option maxRecDepth 100000 in
theorem y60_5 : iv_f1 (iv_p 60) 5 = some (.inl (iv_oA 0 1)) := rfl
set_option maxRecDepth 100000 in
theorem y60_6 : iv_f1 (iv_p 60) 6 = some (.inl (iv_oK (.int (Int32.ofNat 0)) 1)) := rfl
set_option maxRecDepth 100000 in
theorem y60_7 : iv_f1 (iv_p 60) 7 = some (.inl (iv_oPF 6 1 .int)) := rfl
set_option maxRecDepth 100000 in
theorem y60_10 : iv_f1 (iv_p 60) 10 = some (.inr (.inl 0)) := rfl
set_option maxRecDepth 100000 in
theorem y61_0 : iv_f1 (iv_p 61) 0 = some (.inl (iv_oA 0 1)) := rfl
set_option maxRecDepth 100000 in
theorem y61_1 : iv_f1 (iv_p 61) 1 = some (.inl (iv_oA 1 1)) := rfl
set_option maxRecDepth 100000 in
theorem y61_2 : iv_f1 (iv_p 61) 2 = some (.inl (iv_oGF 6 0)) := rfl
set_option maxRecDepth 100000 in
theorem y61_5 : iv_f1 (iv_p 61) 5 = some (.inl (iv_oPF 6 0 .int)) := rfl
set_option maxRecDepth 100000 in
theorem y61_8 : iv_f1 (iv_p 61) 8 = some (.inl (iv_oA 0 1)) := rfl
set_option maxRecDepth 100000 in
theorem y61_9 : iv_f1 (iv_p 61) 9 = some (.inl (iv_oA 1 1)) := rfl
set_option maxRecDepth 100000 in
theorem y61_10 : iv_f1 (iv_p 61) 10 = some (.inl (iv_oGF 6 1)) := rfl
set_option maxRecDepth 100000 in
theorem y61_13 : iv_f1 (iv_p 61) 13 = some (.inl (iv_oPF 6 1 .int)) := rfl
set_option maxRecDepth 100000 in
theorem y61_16 : iv_f1 (iv_p 61) 16 = some (.inl (iv_oK (.int (Int32.ofNat 0)) 1)) := rfl
set_option maxRecDepth 100000 in
theorem y61_17 : iv_f1 (iv_p 61) 17 = some (.inl (iv_oIS 2 1)) := rfl
set_option maxRecDepth 100000 in
theorem y61_18 : iv_f1 (iv_p 61) 18 = some (.inl (iv_oI 2 1)) := rfl
set_option maxRecDepth 100000 in
theorem y61_19 : iv_f1 (iv_p 61) 19 = some (.inl (iv_oK (.int (Int32.ofNat 40)) 2)) := rfl
set_option maxRecDepth 100000 in
theorem y61_21 : iv_f1 (iv_p 61) 21 = some (.inl (iv_oIc .ge (45))) := rfl
set_option maxRecDepth 100000 in
theorem y61_24 : iv_f1 (iv_p 61) 24 = some (.inl (iv_oA 0 1)) := rfl
set_option maxRecDepth 100000 in
theorem y61_25 : iv_f1 (iv_p 61) 25 = some (.inl (iv_oGF 6 2)) := rfl
set_option maxRecDepth 100000 in
theorem y61_28 : iv_f1 (iv_p 61) 28 = some (.inl (iv_oI 2 1)) := rfl
set_option maxRecDepth 100000 in
theorem y61_29 : iv_f1 (iv_p 61) 29 = some (.inl (iv_oA 1 1)) := rfl
set_option maxRecDepth 100000 in
theorem y61_30 : iv_f1 (iv_p 61) 30 = some (.inl (iv_oGF 6 2)) := rfl
set_option maxRecDepth 100000 in
theorem y61_33 : iv_f1 (iv_p 61) 33 = some (.inl (iv_oI 2 1)) := rfl
set_option maxRecDepth 100000 in
theorem y61_34 : iv_f1 (iv_p 61) 34 = some (.inl iv_oQl) := rfl
set_option maxRecDepth 100000 in
theorem y61_35 : iv_f1 (iv_p 61) 35 = some (.inl iv_oQst) := rfl
set_option maxRecDepth 100000 in
theorem y61_36 : iv_f1 (iv_p 61) 36 = some (.inl (iv_oA 0 1)) := rfl
set_option maxRecDepth 100000 in
theorem y61_37 : iv_f1 (iv_p 61) 37 = some (.inl (iv_oGF 6 3)) := rfl
set_option maxRecDepth 100000 in
theorem y61_40 : iv_f1 (iv_p 61) 40 = some (.inl (iv_oI 2 1)) := rfl
set_option maxRecDepth 100000 in
theorem y61_41 : iv_f1 (iv_p 61) 41 = some (.inl (iv_oA 1 1)) := rfl
set_option maxRecDepth 100000 in
theorem y61_42 : iv_f1 (iv_p 61) 42 = some (.inl (iv_oGF 6 3)) := rfl
set_option maxRecDepth 100000 in
theorem y61_45 : iv_f1 (iv_p 61) 45 = some (.inl (iv_oI 2 1)) := rfl
set_option maxRecDepth 100000 in
theorem y61_46 : iv_f1 (iv_p 61) 46 = some (.inl iv_oIl) := rfl
set_option maxRecDepth 100000 in
theorem y61_47 : iv_f1 (iv_p 61) 47 = some (.inl iv_oIst) := rfl
set_option maxRecDepth 100000 in
theorem y61_48 : iv_f1 (iv_p 61) 48 = some (.inl (iv_oA 0 1)) := rfl
set_option maxRecDepth 100000 in
theorem y61_49 : iv_f1 (iv_p 61) 49 = some (.inl (iv_oGF 6 4)) := rfl
set_option maxRecDepth 100000 in
theorem y61_52 : iv_f1 (iv_p 61) 52 = some (.inl (iv_oI 2 1)) := rfl
set_option maxRecDepth 100000 in
theorem y61_53 : iv_f1 (iv_p 61) 53 = some (.inl (iv_oA 1 1)) := rfl
set_option maxRecDepth 100000 in
theorem y61_54 : iv_f1 (iv_p 61) 54 = some (.inl (iv_oGF 6 4)) := rfl
set_option maxRecDepth 100000 in
theorem y61_57 : iv_f1 (iv_p 61) 57 = some (.inl (iv_oI 2 1)) := rfl
set_option maxRecDepth 100000 in
theorem y61_58 : iv_f1 (iv_p 61) 58 = some (.inl iv_oIl) := rfl
set_option maxRecDepth 100000 in
theorem y61_59 : iv_f1 (iv_p 61) 59 = some (.inl iv_oIst) := rfl
set_option maxRecDepth 100000 in
theorem y61_60 : iv_f1 (iv_p 61) 60 = some (.inl (iv_oInc 2 (1))) := rfl
set_option maxRecDepth 100000 in
theorem y61_63 : iv_f1 (iv_p 61) 63 = some (.inl (iv_oGo (-45))) := rfl
set_option maxRecDepth 100000 in
theorem y61_66 : iv_f1 (iv_p 61) 66 = some (.inr (.inl 0)) := rfl
set_option maxRecDepth 100000 in
theorem y62_0 : iv_f1 (iv_p 62) 0 = some (.inl (iv_oA 0 1)) := rfl
set_option maxRecDepth 100000 in
theorem y62_1 : iv_f1 (iv_p 62) 1 = some (.inr (.inr (6, 60, 0, 6))) := rfl
set_option maxRecDepth 100000 in
theorem y62_4 : iv_f1 (iv_p 62) 4 = some (.inl (iv_oA 0 1)) := rfl
set_option maxRecDepth 100000 in
theorem y62_5 : iv_f1 (iv_p 62) 5 = some (.inl (iv_oA 1 1)) := rfl
set_option maxRecDepth 100000 in
theorem y62_6 : iv_f1 (iv_p 62) 6 = some (.inl (iv_oA 2 1)) := rfl
set_option maxRecDepth 100000 in
theorem y62_7 : iv_f1 (iv_p 62) 7 = some (.inl (iv_oK (.int (Int32.ofNat 1)) 1)) := rfl
set_option maxRecDepth 100000 in
theorem y62_8 : iv_f1 (iv_p 62) 8 = some (.inr (.inr (6, 63, 3, 6))) := rfl
set_option maxRecDepth 100000 in
theorem y62_11 : iv_f1 (iv_p 62) 11 = some (.inl (iv_oIf .eq (22))) := rfl
set_option maxRecDepth 100000 in
theorem y62_14 : iv_f1 (iv_p 62) 14 = some (.inl (iv_oA 1 1)) := rfl
set_option maxRecDepth 100000 in
theorem y62_15 : iv_f1 (iv_p 62) 15 = some (.inr (.inr (6, 53, 0, 5))) := rfl
set_option maxRecDepth 100000 in
theorem y62_18 : iv_f1 (iv_p 62) 18 = some (.inl (iv_oIf .ne (11))) := rfl
set_option maxRecDepth 100000 in
theorem y62_21 : iv_f1 (iv_p 62) 21 = some (.inl (iv_oA 1 1)) := rfl
set_option maxRecDepth 100000 in
theorem y62_22 : iv_f1 (iv_p 62) 22 = some (.inl (iv_oK (.int (Int32.ofNat 1)) 1)) := rfl
set_option maxRecDepth 100000 in
theorem y62_23 : iv_f1 (iv_p 62) 23 = some (.inr (.inr (6, 56, 1, 5))) := rfl
set_option maxRecDepth 100000 in
theorem y62_26 : iv_f1 (iv_p 62) 26 = some (.inl (iv_oIf .eq (7))) := rfl
set_option maxRecDepth 100000 in
theorem y62_29 : iv_f1 (iv_p 62) 29 = some (.inl (iv_oK (.int (Int32.ofNat 1)) 1)) := rfl
set_option maxRecDepth 100000 in
theorem y62_30 : iv_f1 (iv_p 62) 30 = some (.inl (iv_oGo (4))) := rfl
set_option maxRecDepth 100000 in
theorem y62_33 : iv_f1 (iv_p 62) 33 = some (.inl (iv_oK (.int (Int32.ofNat 0)) 1)) := rfl
set_option maxRecDepth 100000 in
theorem y62_34 : iv_f1 (iv_p 62) 34 = some (.inr (.inl 2)) := rfl
set_option maxRecDepth 100000 in
theorem y150_0 : iv_f1 (iv_p 150) 0 = some (.inl (iv_oA 0 1)) := rfl
set_option maxRecDepth 100000 in
theorem y150_1 : iv_f1 (iv_p 150) 1 = some (.inl (iv_oK (.int (Int32.ofNat 200)) 3)) := rfl
set_option maxRecDepth 100000 in
theorem y150_4 : iv_f1 (iv_p 150) 4 = some (.inr (.inr (6, 116, 1, 11))) := rfl
set_option maxRecDepth 100000 in
theorem y150_7 : iv_f1 (iv_p 150) 7 = some (.inl (iv_oA 0 1)) := rfl
set_option maxRecDepth 100000 in
theorem y150_8 : iv_f1 (iv_p 150) 8 = some (.inl (iv_oGF 11 8)) := rfl
set_option maxRecDepth 100000 in
theorem y150_11 : iv_f1 (iv_p 150) 11 = some (.inl (iv_oA 0 1)) := rfl
set_option maxRecDepth 100000 in
theorem y150_12 : iv_f1 (iv_p 150) 12 = some (.inl (iv_oGF 11 10)) := rfl
set_option maxRecDepth 100000 in
theorem y150_15 : iv_f1 (iv_p 150) 15 = some (.inl (iv_oA 0 1)) := rfl
set_option maxRecDepth 100000 in
theorem y150_16 : iv_f1 (iv_p 150) 16 = some (.inl (iv_oGF 11 3)) := rfl
set_option maxRecDepth 100000 in
theorem y150_19 : iv_f1 (iv_p 150) 19 = some (.inr (.inr (6, 62, 2, 6))) := rfl
set_option maxRecDepth 100000 in
theorem y150_22 : iv_f1 (iv_p 150) 22 = some (.inl (iv_oIS 1 1)) := rfl
set_option maxRecDepth 100000 in
theorem y150_23 : iv_f1 (iv_p 150) 23 = some (.inl (iv_oA 0 1)) := rfl
set_option maxRecDepth 100000 in
theorem y150_24 : iv_f1 (iv_p 150) 24 = some (.inl (iv_oA 0 1)) := rfl
set_option maxRecDepth 100000 in
theorem y150_25 : iv_f1 (iv_p 150) 25 = some (.inl (iv_oGF 11 10)) := rfl
set_option maxRecDepth 100000 in
theorem y150_28 : iv_f1 (iv_p 150) 28 = some (.inl (iv_oGF 5 11)) := rfl
set_option maxRecDepth 100000 in
theorem y150_31 : iv_f1 (iv_p 150) 31 = some (.inl (iv_oPF 11 2 .int)) := rfl
set_option maxRecDepth 100000 in
theorem y150_34 : iv_f1 (iv_p 150) 34 = some (.inl (iv_oI 1 1)) := rfl
set_option maxRecDepth 100000 in
theorem y150_35 : iv_f1 (iv_p 150) 35 = some (.inl (iv_oIf .ne (13))) := rfl
set_option maxRecDepth 100000 in
theorem y150_38 : iv_f1 (iv_p 150) 38 = some (.inl (iv_oK (.int (Int32.ofInt (-1))) 1)) := rfl
set_option maxRecDepth 100000 in
theorem y150_39 : iv_f1 (iv_p 150) 39 = some (.inl (iv_oA 0 1)) := rfl
set_option maxRecDepth 100000 in
theorem y150_40 : iv_f1 (iv_p 150) 40 = some (.inl (iv_oGF 11 10)) := rfl
set_option maxRecDepth 100000 in
theorem y150_43 : iv_f1 (iv_p 150) 43 = some (.inl (iv_oGF 5 12)) := rfl
set_option maxRecDepth 100000 in
theorem y150_46 : iv_f1 (iv_p 150) 46 = some (.inl (iv_oII fun x y => x - y)) := rfl
set_option maxRecDepth 100000 in
theorem y150_47 : iv_f1 (iv_p 150) 47 = some (.inr (.inl 1)) := rfl
set_option maxRecDepth 100000 in
theorem y150_48 : iv_f1 (iv_p 150) 48 = some (.inl (iv_oA 0 1)) := rfl
set_option maxRecDepth 100000 in
theorem y150_49 : iv_f1 (iv_p 150) 49 = some (.inl (iv_oGF 11 7)) := rfl
set_option maxRecDepth 100000 in
theorem y150_52 : iv_f1 (iv_p 150) 52 = some (.inl (iv_oA 0 1)) := rfl
set_option maxRecDepth 100000 in
theorem y150_53 : iv_f1 (iv_p 150) 53 = some (.inl (iv_oGF 11 8)) := rfl
set_option maxRecDepth 100000 in
theorem y150_56 : iv_f1 (iv_p 150) 56 = some (.inr (.inr (6, 61, 1, 6))) := rfl
set_option maxRecDepth 100000 in
theorem y150_59 : iv_f1 (iv_p 150) 59 = some (.inl (iv_oA 0 1)) := rfl
set_option maxRecDepth 100000 in
theorem y150_60 : iv_f1 (iv_p 150) 60 = some (.inl (iv_oGF 11 7)) := rfl
set_option maxRecDepth 100000 in
theorem y150_63 : iv_f1 (iv_p 150) 63 = some (.inl (iv_oGF 6 0)) := rfl
set_option maxRecDepth 100000 in
theorem y150_66 : iv_f1 (iv_p 150) 66 = some (.inr (.inl 1)) := rfl
set_option maxRecDepth 100000 in
theorem y277_0 : iv_f1 (iv_p 277) 0 = some (.inl (iv_oA 0 1)) := rfl
set_option maxRecDepth 100000 in
theorem y277_1 : iv_f1 (iv_p 277) 1 = some (.inl (iv_oK (.int (Int32.ofNat 200)) 3)) := rfl
set_option maxRecDepth 100000 in
theorem y277_4 : iv_f1 (iv_p 277) 4 = some (.inr (.inr (6, 177, 1, 12))) := rfl
set_option maxRecDepth 100000 in
theorem y277_7 : iv_f1 (iv_p 277) 7 = some (.inl (iv_oA 0 1)) := rfl
set_option maxRecDepth 100000 in
theorem y277_8 : iv_f1 (iv_p 277) 8 = some (.inl (iv_oK (.int (Int32.ofNat 0)) 1)) := rfl
set_option maxRecDepth 100000 in
theorem y277_9 : iv_f1 (iv_p 277) 9 = some (.inl (iv_oPF 12 45 .int)) := rfl
set_option maxRecDepth 100000 in
theorem y277_12 : iv_f1 (iv_p 277) 12 = some (.inl (iv_oA 0 1)) := rfl
set_option maxRecDepth 100000 in
theorem y277_13 : iv_f1 (iv_p 277) 13 = some (.inl (iv_oK (.int (Int32.ofNat 0)) 1)) := rfl
set_option maxRecDepth 100000 in
theorem y277_14 : iv_f1 (iv_p 277) 14 = some (.inl (iv_oPF 12 46 .int)) := rfl
set_option maxRecDepth 100000 in
theorem y277_17 : iv_f1 (iv_p 277) 17 = some (.inl (iv_oA 0 1)) := rfl
set_option maxRecDepth 100000 in
theorem y277_18 : iv_f1 (iv_p 277) 18 = some (.inl (iv_oK (.int (Int32.ofNat 0)) 1)) := rfl
set_option maxRecDepth 100000 in
theorem y277_19 : iv_f1 (iv_p 277) 19 = some (.inl (iv_oPF 12 47 .int)) := rfl
set_option maxRecDepth 100000 in
theorem y277_22 : iv_f1 (iv_p 277) 22 = some (.inl (iv_oA 0 1)) := rfl
set_option maxRecDepth 100000 in
theorem y277_23 : iv_f1 (iv_p 277) 23 = some (.inr (.inr (6, 270, 0, 12))) := rfl
set_option maxRecDepth 100000 in
theorem y277_26 : iv_f1 (iv_p 277) 26 = some (.inl (iv_oIf .ne (10))) := rfl
set_option maxRecDepth 100000 in
theorem y277_29 : iv_f1 (iv_p 277) 29 = some (.inl (iv_oK (.int (Int32.ofInt (-1))) 1)) := rfl
set_option maxRecDepth 100000 in
theorem y277_30 : iv_f1 (iv_p 277) 30 = some (.inl (iv_oA 0 1)) := rfl
set_option maxRecDepth 100000 in
theorem y277_31 : iv_f1 (iv_p 277) 31 = some (.inl (iv_oGF 12 11)) := rfl
set_option maxRecDepth 100000 in
theorem y277_34 : iv_f1 (iv_p 277) 34 = some (.inl (iv_oII fun x y => x - y)) := rfl
set_option maxRecDepth 100000 in
theorem y277_35 : iv_f1 (iv_p 277) 35 = some (.inr (.inl 1)) := rfl
set_option maxRecDepth 100000 in
theorem y277_36 : iv_f1 (iv_p 277) 36 = some (.inl (iv_oA 0 1)) := rfl
set_option maxRecDepth 100000 in
theorem y277_37 : iv_f1 (iv_p 277) 37 = some (.inl (iv_oGF 12 7)) := rfl
set_option maxRecDepth 100000 in
theorem y277_40 : iv_f1 (iv_p 277) 40 = some (.inl (iv_oIf .eq (16))) := rfl
set_option maxRecDepth 100000 in
theorem y277_43 : iv_f1 (iv_p 277) 43 = some (.inl (iv_oA 0 1)) := rfl
set_option maxRecDepth 100000 in
theorem y277_44 : iv_f1 (iv_p 277) 44 = some (.inl (iv_oK (.int (Int32.ofNat 1)) 1)) := rfl
set_option maxRecDepth 100000 in
theorem y277_45 : iv_f1 (iv_p 277) 45 = some (.inr (.inr (6, 174, 1, 12))) := rfl
set_option maxRecDepth 100000 in
theorem y277_48 : iv_f1 (iv_p 277) 48 = some (.inl iv_oPop) := rfl
set_option maxRecDepth 100000 in
theorem y277_49 : iv_f1 (iv_p 277) 49 = some (.inl (iv_oK (.int (Int32.ofInt (-1))) 1)) := rfl
set_option maxRecDepth 100000 in
theorem y277_50 : iv_f1 (iv_p 277) 50 = some (.inl (iv_oA 0 1)) := rfl
set_option maxRecDepth 100000 in
theorem y277_51 : iv_f1 (iv_p 277) 51 = some (.inl (iv_oGF 12 11)) := rfl
set_option maxRecDepth 100000 in
theorem y277_54 : iv_f1 (iv_p 277) 54 = some (.inl (iv_oII fun x y => x - y)) := rfl
set_option maxRecDepth 100000 in
theorem y277_55 : iv_f1 (iv_p 277) 55 = some (.inr (.inl 1)) := rfl
set_option maxRecDepth 100000 in
theorem y277_56 : iv_f1 (iv_p 277) 56 = some (.inl (iv_oA 0 1)) := rfl
set_option maxRecDepth 100000 in
theorem y277_57 : iv_f1 (iv_p 277) 57 = some (.inl (iv_oGF 12 14)) := rfl
set_option maxRecDepth 100000 in
theorem y277_60 : iv_f1 (iv_p 277) 60 = some (.inl (iv_oK (.int (Int32.ofNat 132)) 3)) := rfl
set_option maxRecDepth 100000 in
theorem y277_63 : iv_f1 (iv_p 277) 63 = some (.inl (iv_oK (.int (Int32.ofNat 1)) 1)) := rfl
set_option maxRecDepth 100000 in
theorem y277_64 : iv_f1 (iv_p 277) 64 = some (.inl iv_oIst) := rfl
set_option maxRecDepth 100000 in
theorem y277_65 : iv_f1 (iv_p 277) 65 = some (.inl (iv_oA 0 1)) := rfl
set_option maxRecDepth 100000 in
theorem y277_66 : iv_f1 (iv_p 277) 66 = some (.inl (iv_oGF 12 14)) := rfl
set_option maxRecDepth 100000 in
theorem y277_69 : iv_f1 (iv_p 277) 69 = some (.inl (iv_oK (.int (Int32.ofNat 133)) 3)) := rfl
set_option maxRecDepth 100000 in
theorem y277_72 : iv_f1 (iv_p 277) 72 = some (.inl (iv_oA 0 1)) := rfl
set_option maxRecDepth 100000 in
theorem y277_73 : iv_f1 (iv_p 277) 73 = some (.inl (iv_oGF 12 48)) := rfl
set_option maxRecDepth 100000 in
theorem y277_76 : iv_f1 (iv_p 277) 76 = some (.inl iv_oIst) := rfl
set_option maxRecDepth 100000 in
theorem y277_77 : iv_f1 (iv_p 277) 77 = some (.inl (iv_oK (.int (Int32.ofNat 0)) 1)) := rfl
set_option maxRecDepth 100000 in
theorem y277_78 : iv_f1 (iv_p 277) 78 = some (.inl (iv_oIS 1 1)) := rfl
set_option maxRecDepth 100000 in
theorem y277_79 : iv_f1 (iv_p 277) 79 = some (.inl (iv_oI 1 1)) := rfl
set_option maxRecDepth 100000 in
theorem y277_80 : iv_f1 (iv_p 277) 80 = some (.inl (iv_oK (.int (Int32.ofNat 240)) 3)) := rfl
set_option maxRecDepth 100000 in
theorem y277_83 : iv_f1 (iv_p 277) 83 = some (.inl (iv_oIc .ge (25))) := rfl
set_option maxRecDepth 100000 in
theorem y277_86 : iv_f1 (iv_p 277) 86 = some (.inl (iv_oA 0 1)) := rfl
set_option maxRecDepth 100000 in
theorem y277_87 : iv_f1 (iv_p 277) 87 = some (.inl (iv_oGF 12 14)) := rfl
set_option maxRecDepth 100000 in
theorem y277_90 : iv_f1 (iv_p 277) 90 = some (.inl (iv_oK (.int (Int32.ofNat 134)) 3)) := rfl
set_option maxRecDepth 100000 in
theorem y277_93 : iv_f1 (iv_p 277) 93 = some (.inl (iv_oI 1 1)) := rfl
set_option maxRecDepth 100000 in
theorem y277_94 : iv_f1 (iv_p 277) 94 = some (.inl (iv_oII fun x y => x + y)) := rfl
set_option maxRecDepth 100000 in
theorem y277_95 : iv_f1 (iv_p 277) 95 = some (.inl (iv_oA 0 1)) := rfl
set_option maxRecDepth 100000 in
theorem y277_96 : iv_f1 (iv_p 277) 96 = some (.inl (iv_oGF 12 44)) := rfl
set_option maxRecDepth 100000 in
theorem y277_99 : iv_f1 (iv_p 277) 99 = some (.inl (iv_oI 1 1)) := rfl
set_option maxRecDepth 100000 in
theorem y277_100 : iv_f1 (iv_p 277) 100 = some (.inl iv_oIl) := rfl
set_option maxRecDepth 100000 in
theorem y277_101 : iv_f1 (iv_p 277) 101 = some (.inl iv_oIst) := rfl
set_option maxRecDepth 100000 in
theorem y277_102 : iv_f1 (iv_p 277) 102 = some (.inl (iv_oInc 1 (1))) := rfl
set_option maxRecDepth 100000 in
theorem y277_105 : iv_f1 (iv_p 277) 105 = some (.inl (iv_oGo (-26))) := rfl
set_option maxRecDepth 100000 in
theorem y277_108 : iv_f1 (iv_p 277) 108 = some (.inl (iv_oA 0 1)) := rfl
set_option maxRecDepth 100000 in
theorem y277_109 : iv_f1 (iv_p 277) 109 = some (.inl (iv_oGF 12 46)) := rfl
set_option maxRecDepth 100000 in
theorem y277_112 : iv_f1 (iv_p 277) 112 = some (.inr (.inl 1)) := rfl
theorem ym_begin2 {L : Nat} {xs : Nat → Int32} {d n m : Nat} {T : Nat → Nat} {σ : iv_H} {V : Nat → Value} {s : yS} (hd : 2 ≤ d) (hn : n ≤ 940) (hm : m ≤ 940) (hT : ∀ i, T i ≤ 255) (g : iv_get σ 548 = some (yob 12 49 V)) (gt : iv_get σ 550 = some (yai 940 (ytp T))) (gr : iv_get σ 554 = some (yai 38 s.1)) (gn : iv_get σ 564 = some (yaj 13 s.2.1)) (go : iv_get σ 570 = some (yaz 3 s.2.2)) (v1 : V 1 = .ref 550) (v2 : V 2 = .int (Int32.ofNat n)) (v15 : V 15 = .ref 554) (v20 : V 20 = .ref 564) (v23 : V 23 = .ref 570) (ty : yTy V) : ∃ σ1, iv_Rn L xs d 177 0 (lv_args 0 [.ref 548, .int (Int32.ofNat m)]) [] σ none σ1 ∧ ∃ V1, yMR T n m 0 s V1 σ1 ∧ yAg [0, 2, 3, 4, 5, 6, 7, 8, 9, 10, 12] V V1 ∧ yFr [548] σ σ1 ∧ V1 10 = .int (Int32.ofNat 0) := by
  obtain ⟨d, rfl⟩ : ∃ e, d = e + 2 := ⟨d - 2, by omega⟩
  obtain ⟨⟨x12, v12⟩, ⟨x8, v8⟩, x9, v9⟩ := ty
  refine y_R0 ?_
  refine w_A y177_0 rfl ?_
  refine w_K y177_1 ?_
  refine y_pf y177_2 g rfl rfl ?_
  intro σ200 h199
  refine w_A y177_5 rfl ?_
  refine w_A y177_6 rfl ?_
  obtain ⟨σ201, r201, m201⟩ := ym_take (L := L) (xs := xs) (d := d + 1) h199.2.1 v2
  refine y_call y177_7 (y_args6 h199.2.1 rfl rfl) rfl r201 ?_
  refine y_pf y177_10 m201.2.1 rfl rfl ?_
  intro σ203 h202
  refine w_A y177_13 rfl ?_
  refine w_I y177_14 rfl ?_
  refine y_pf y177_15 h202.2.1 rfl rfl ?_
  intro σ205 h204
  refine w_A y177_18 rfl ?_
  refine w_K y177_19 ?_
  refine y_pf y177_20 h204.2.1 rfl rfl ?_
  intro σ207 h206
  refine w_A y177_23 rfl ?_
  refine w_K y177_24 ?_
  refine y_pf y177_25 h206.2.1 rfl rfl ?_
  intro σ209 h208
  refine w_A y177_28 rfl ?_
  have g211 := (mD_n h208 (by decide) (mD_n h206 (by decide) (mD_n h204 (by decide) (mD_n h202 (by decide) (mD_n m201 (by decide) (mD_n h199 (by decide) gt))))))
  obtain ⟨σ210, r210, V210, g210, a210, f210, ty210, tk210⟩ := ym_go (L := L) (xs := xs) (d := d + 1) (p := 0) (by omega) hn hm (by omega) hT h208.2.1 g211 v1 rfl rfl rfl ⟨⟨_, v12⟩, ⟨_, v8⟩, _, v9⟩
  refine y_call0 y177_29 (y_args6 h208.2.1 rfl rfl) rfl r210 ?_
  have z210_1 : V210 1 = _ := (a210 1 (by rfl)).trans v1
  have z210_3 : V210 3 = _ := (a210 3 (by rfl)).trans rfl
  have z210_4 : V210 4 = _ := (a210 4 (by rfl)).trans rfl
  have z210_15 : V210 15 = _ := (a210 15 (by rfl)).trans v15
  have z210_20 : V210 20 = _ := (a210 20 (by rfl)).trans v20
  have z210_23 : V210 23 = .ref 570 ∧ V210 10 = .int (Int32.ofNat 0) := ⟨(a210 23 (by rfl)).trans v23, (a210 10 (by rfl)).trans rfl⟩
  have g212 := (yF_n f210 (by rfl) g211)
  have g213 := (yF_n f210 (by rfl) (mD_n h208 (by decide) (mD_n h206 (by decide) (mD_n h204 (by decide) (mD_n h202 (by decide) (mD_n m201 (by decide) (mD_n h199 (by decide) gr)))))))
  have g214 := (yF_n f210 (by rfl) (mD_n h208 (by decide) (mD_n h206 (by decide) (mD_n h204 (by decide) (mD_n h202 (by decide) (mD_n m201 (by decide) (mD_n h199 (by decide) gn)))))))
  have g215 := (yF_n f210 (by rfl) (mD_n h208 (by decide) (mD_n h206 (by decide) (mD_n h204 (by decide) (mD_n h202 (by decide) (mD_n m201 (by decide) (mD_n h199 (by decide) go)))))))
  exact w_ret0 y177_32 ⟨rfl, V210, ⟨g210, g212, g213, g214, g215, ⟨z210_1, z210_3, z210_4, z210_15, z210_20, z210_23⟩, Nat.zero_le 940, ty210, tk210⟩, (yA_tr (yA_u (j := 0) (by rfl)) (yA_tr (yA_u (j := 2) (by rfl)) (yA_tr (yA_u (j := 3) (by rfl)) (yA_tr (yA_u (j := 4) (by rfl)) (yA_tr (yA_u (j := 10) (by rfl)) (yA_tr (yA_u (j := 5) (by rfl)) (yA_sub (by rfl) a210))))))), (yF_tr (yF_D h199 (by rfl)) (yF_tr (yF_D m201 (by rfl)) (yF_tr (yF_D h202 (by rfl)) (yF_tr (yF_D h204 (by rfl)) (yF_tr (yF_D h206 (by rfl)) (yF_tr (yF_D h208 (by rfl)) (yF_sub (by rfl) f210))))))), (a210 10 (by rfl)).trans rfl⟩
def yAn2 (o : yE Nat) : Int32 := match o with
  | .inl e => Int32.ofInt (-1) - Int32.ofNat e.2
  | .inr k => Int32.ofNat k
def yFt (o : yE Nat) : Nat := match o with
  | .inl e => e.1
  | .inr _ => 0
theorem ym_sen {L : Nat} {xs : Nat → Int32} {d n ng : Nat} {T : Nat → Nat} {σ : iv_H} {V : Nat → Value} {N rd on D : Nat → Int32} {Nm rn : Nat → Int64} {u t : Int32} (hd : 60 ≤ d) (hg : ng ≤ 6) (hn : n ≤ 940) (hT : ∀ i, T i ≤ 255) (mo : mO ((List.range 49).map V)) (g : iv_get σ 548 = some (yob 12 49 V)) (gt : iv_get σ 550 = some (yai 940 (ytp T))) (gr : iv_get σ 554 = some (yai 38 rd)) (gn : iv_get σ 564 = some (yaj 13 rn)) (go : iv_get σ 570 = some (yaz 3 on)) (gN : iv_get σ 552 = some (yai 374 N)) (gM : iv_get σ 562 = some (yaj 13 Nm)) (gD : iv_get σ 590 = some (yai 240 D)) (hN : N 1 = Int32.ofNat ng) (v2 : V 2 = .int (Int32.ofNat n)) (v13 : V 13 = .int u) (v48 : V 48 = .int t) (ty : yTy V) : ∃ σ1, iv_Rn L xs d 277 0 (lv_args 0 [.ref 548]) [] σ (some (.int (yAn2 (ySen T n 200 Nm ng)))) σ1 ∧ ∃ V1, iv_get σ1 548 = some (yob 12 49 V1) ∧ V1 10 = .int (Int32.ofNat (yFt (ySen T n 200 Nm ng))) := by
  obtain ⟨d, rfl⟩ : ∃ e, d = e + 60 := ⟨d - 60, by omega⟩
  obtain ⟨v1, v15, v20, v23⟩ := mO_V mo
  obtain ⟨σ1, r1, V1, hM1, a1, f1, e10⟩ := ym_begin2 (L := L) (xs := xs) (d := d + 59) (m := 200) (s := (rd, rn, on)) (by omega) hn (by decide) hT g gt gr gn go v1 v2 v15 v20 v23 ty
  have mo1 : mO ((List.range 49).map V1) := mO_ag mo (fun j hj => a1 j (y_disj (by decide) hj))
  refine y_Rn ?_
  refine w_A y277_0 rfl ?_
  refine w_K y277_1 ?_
  refine y_call0 y277_4 (y_args6 g rfl rfl) rfl r1 ?_
  refine w_A y277_7 rfl ?_
  refine w_K y277_8 ?_
  refine y_pf y277_9 hM1.1 rfl rfl (fun σ2 m2 => ?_)
  have hM2 := yMR_pf hM1 m2 rfl
  refine w_A y277_12 rfl ?_
  refine w_K y277_13 ?_
  refine y_pf y277_14 m2.2.1 rfl rfl (fun σ3 m3 => ?_)
  have hM3 := yMR_pf hM2 m3 rfl
  refine w_A y277_17 rfl ?_
  refine w_K y277_18 ?_
  refine y_pf y277_19 m3.2.1 rfl rfl (fun σ4 m4 => ?_)
  have hM4 := yMR_pf hM3 m4 rfl
  have h4 : yR T n 200 0 Nm ng 0 0 0 σ4 := ⟨_, _, hM4, mO_ag mo1 (fun j hj => (yA_tr (yA_u (S := [45, 46, 47]) (j := 45) rfl) (yA_tr (yA_u (j := 46) rfl) (yA_u (j := 47) rfl))) j (y_disj (by decide) hj)), ⟨rfl, rfl, rfl, ⟨t, (a1 48 (by rfl)).trans v48⟩, ⟨u, (a1 13 (by rfl)).trans v13⟩, e10⟩, ⟨N, mD_n m4 (by decide) (mD_n m3 (by decide) (mD_n m2 (by decide) (yF_n f1 (by rfl) gN))), hN⟩, mD_n m4 (by decide) (mD_n m3 (by decide) (mD_n m2 (by decide) (yF_n f1 (by rfl) gM))), D, mD_n m4 (by decide) (mD_n m3 (by decide) (mD_n m2 (by decide) (yF_n f1 (by rfl) gD)))⟩
  obtain ⟨b, σ5, r5, h5⟩ := (ym_sx (L := L) (xs := xs) (Nm := Nm) hg hn (by decide) hT 2830).1 0 0 0 0 (d + 59) σ4 (by decide) (by omega) (by decide) (by decide) (by decide) h4
  refine w_A y277_22 rfl ?_
  refine y_call y277_23 (y_args6 m4.2.1 rfl rfl) rfl r5 ?_
  have un : ySen T n 200 Nm ng = yThen (ySx T n 200 Nm ng 2830 0 0 0 0) fun q => if ykd T n 200 q.1 = 0 then .inr q.2 else .inl (ybd T n 200 q.1 1) := rfl
  rw [un]
  cases hq : ySx T n 200 Nm ng 2830 0 0 0 0 with
  | inl e =>
    rw [hq] at h5
    obtain ⟨rfl, V5, ⟨g5, v10, v11⟩, _⟩ := (show b = false ∧ yB e σ5 from h5)
    refine w_ifF y277_26 rfl (y_bneF rfl) ?_
    refine w_K y277_29 ?_
    refine w_A y277_30 rfl ?_
    refine y_gf y277_31 g5 rfl v11 ?_
    refine y_II y277_34 ?_
    exact y_ret y277_35 rfl ⟨rfl, V5, g5, v10⟩
  | inr q =>
    rw [hq] at h5
    obtain ⟨rfl, nd1, h6, _⟩ := (show b = true ∧ ∃ nd1, yR T n 200 q.1 Nm ng q.2 0 nd1 σ5 ∧ (nd1 + 1 ≤ 0 + 2 * (q.2 - 0) ∧ 0 < q.2 ∧ q.2 ≤ 20) ∧ 0 < q.1 from h5)
    show zGo L xs (fun r σ9 => r = some (.int (yAn2 (if ykd T n 200 q.1 = 0 then .inr q.2 else .inl (ybd T n 200 q.1 1)))) ∧ ∃ V1, iv_get σ9 548 = some (yob 12 49 V1) ∧ V1 10 = .int (Int32.ofNat (yFt (if ykd T n 200 q.1 = 0 then .inr q.2 else .inl (ybd T n 200 q.1 1))))) [] _ 277 26 _ _ σ5
    have hk4 := ykd_le (T := T) (n := n) (m := 200) (p := q.1)
    refine w_ifT y277_26 rfl (y_bneT rfl) ?_
    refine w_A y277_36 rfl ?_
    refine R_g7 y277_37 h6 ?_
    by_cases c : ykd T n 200 q.1 = 0
    · rw [if_pos c]
      refine y_ifT y277_40 rfl (by omega) (by simp only [zch]; omega) ?_
      obtain ⟨s6, V6, hM6, mo6, ⟨h46, h47, h45, ⟨t6, h48⟩, _, h10⟩, ⟨N6, gN6, hN6⟩, gM6, D6, gD6⟩ := h6
      have v14 := (yO_refs mo6).1
      refine w_A y277_56 rfl ?_
      refine y_gf y277_57 hM6.1 rfl v14 ?_
      refine w_K y277_60 ?_
      refine w_K y277_63 ?_
      refine y_ist y277_64 gN6 (by decide) (by decide) (fun σ7 m7 => ?_)
      refine w_A y277_65 rfl ?_
      refine y_gf y277_66 (mD_n m7 (by decide) hM6.1) rfl v14 ?_
      refine w_K y277_69 ?_
      refine w_A y277_72 rfl ?_
      refine y_gf y277_73 (mD_n m7 (by decide) hM6.1) rfl h48 ?_
      refine y_ist y277_76 m7.2.1 (by decide) (by decide) (fun σ8 m8 => ?_)
      refine g_sen rfl (mD_n m8 (by decide) (mD_n m7 (by decide) hM6.1)) mo6 (by rw [y_nthV (by decide), h46]) m8.2.1 (mD_n m8 (by decide) (mD_n m7 (by decide) gD6)) (fun σ9 m9 => ?_)
      exact ⟨rfl, V6, mD_n m9 (by decide) (mD_n m8 (by decide) (mD_n m7 (by decide) hM6.1)), h10⟩
    · rw [if_neg c]
      refine y_ifF y277_40 rfl (by omega) (by simp only [zch]; omega) ?_
      refine w_A y277_43 rfl ?_
      refine w_K y277_44 ?_
      refine R_bad y277_45 rfl h6 (fun σ7 h7 => ?_)
      obtain ⟨V7, ⟨g7, v10, v11⟩, _⟩ := h7
      refine y_pop y277_48 rfl ?_
      refine w_K y277_49 ?_
      refine w_A y277_50 rfl ?_
      refine y_gf y277_51 g7 rfl v11 ?_
      refine y_II y277_54 ?_
      exact y_ret y277_55 rfl ⟨rfl, V7, g7, v10⟩
/-! the class -/
def yCpS (A S : Nat → Value) (σ : iv_H) : Prop := (iv_get σ 96 = some (yob 6 5 A) ∧ A 2 = .ref 98 ∧ A 3 = .ref 100 ∧ A 4 = .ref 102) ∧ (iv_get σ 104 = some (yob 6 5 S) ∧ S 2 = .ref 106 ∧ S 3 = .ref 108 ∧ S 4 = .ref 110) ∧ (∃ Qa, iv_get σ 98 = some (yaq 40 Qa)) ∧ (∃ na, iv_get σ 100 = some (yai 40 na)) ∧ (∃ sa, iv_get σ 102 = some (yai 40 sa)) ∧ (∃ Q, iv_get σ 106 = some (yaq 40 Q) ∧ ∀ i, i < 40 → ∃ b, Q i = some b ∧ iv_isW b = true) ∧ (∃ nu, iv_get σ 108 = some (yai 40 nu)) ∧ ∃ sg, iv_get σ 110 = some (yai 40 sg)
theorem yg_csL {L : Nat} {xs : Nat → Int32} {d : Nat} {A S : Nat → Value} : ∀ (jj i : Nat) (σ : iv_H) (lv : iv_L), i + jj = 40 → yCpS A S σ → iv_f1 lv 0 = some (.ref 96) → iv_f1 lv 1 = some (.ref 104) → iv_f1 lv 2 = some (.int (Int32.ofNat i)) → zGo L xs (fun r σ1 => r = none ∧ yFr [98, 100, 102] σ σ1) [] d 61 18 lv [] σ := by
  intro jj
  induction jj with
  | zero =>
    intro i σ lv hi hS l0 l1 l2
    refine w_I y61_18 l2 ?_
    refine w_K y61_19 ?_
    refine y_icT y61_21 rfl (by omega) (by omega) (by simp only [zch]; omega) ?_
    exact w_ret0 y61_66 ⟨rfl, yF_rf⟩
  | succ jj ih =>
    intro i σ lv hi hS l0 l1 l2
    obtain ⟨⟨gA, a2, a3, a4⟩, ⟨gS, s2, s3, s4⟩, ⟨Qa, g98⟩, ⟨na, g100⟩, ⟨sa, g102⟩, ⟨Q, g106, hQ⟩, ⟨nu, g108⟩, sg, g110⟩ := hS
    obtain ⟨b, hb, hw⟩ := hQ i (by omega)
    refine w_I y61_18 l2 ?_
    refine w_K y61_19 ?_
    refine y_icF y61_21 rfl (by omega) (by omega) (by simp only [zch]; omega) ?_
    refine w_A y61_24 l0 ?_
    refine y_gf y61_25 gA rfl a2 ?_
    refine w_I y61_28 l2 ?_
    refine w_A y61_29 l1 ?_
    refine y_gf y61_30 gS rfl s2 ?_
    refine w_I y61_33 l2 ?_
    refine y_ql y61_34 g106 (by omega) (by decide) hb ?_
    refine y_qst y61_35 g98 (by omega) (by decide) hw (fun σ1 m1 => ?_)
    refine w_A y61_36 l0 ?_
    refine y_gf y61_37 (mD_n m1 (by decide) gA) rfl a3 ?_
    refine w_I y61_40 l2 ?_
    refine w_A y61_41 l1 ?_
    refine y_gf y61_42 (mD_n m1 (by decide) gS) rfl s3 ?_
    refine w_I y61_45 l2 ?_
    refine y_il y61_46 (mD_n m1 (by decide) g108) rfl rfl (by omega) (by decide) ?_
    refine y_ist y61_47 (mD_n m1 (by decide) g100) (by omega) (by decide) (fun σ2 m2 => ?_)
    refine w_A y61_48 l0 ?_
    refine y_gf y61_49 (mD_n m2 (by decide) (mD_n m1 (by decide) gA)) rfl a4 ?_
    refine w_I y61_52 l2 ?_
    refine w_A y61_53 l1 ?_
    refine y_gf y61_54 (mD_n m2 (by decide) (mD_n m1 (by decide) gS)) rfl s4 ?_
    refine w_I y61_57 l2 ?_
    refine y_il y61_58 (mD_n m2 (by decide) (mD_n m1 (by decide) g110)) rfl rfl (by omega) (by decide) ?_
    refine y_ist y61_59 (mD_n m2 (by decide) (mD_n m1 (by decide) g102)) (by omega) (by decide) (fun σ3 m3 => ?_)
    refine w_inc y61_60 (x := i) l2 ?_
    refine w_go y61_63 rfl ?_
    have hS3 : yCpS A S σ3 := ⟨⟨mD_n m3 (by decide) (mD_n m2 (by decide) (mD_n m1 (by decide) gA)), a2, a3, a4⟩, ⟨mD_n m3 (by decide) (mD_n m2 (by decide) (mD_n m1 (by decide) gS)), s2, s3, s4⟩, ⟨_, mD_n m3 (by decide) (mD_n m2 (by decide) m1.2.1)⟩, ⟨_, mD_n m3 (by decide) m2.2.1⟩, ⟨_, m3.2.1⟩, ⟨Q, mD_n m3 (by decide) (mD_n m2 (by decide) (mD_n m1 (by decide) g106)), hQ⟩, ⟨nu, mD_n m3 (by decide) (mD_n m2 (by decide) (mD_n m1 (by decide) g108))⟩, sg, mD_n m3 (by decide) (mD_n m2 (by decide) (mD_n m1 (by decide) g110))⟩
    refine zGo_imp (ih (i + 1) σ3 _ (by omega) hS3 (y_l1 rfl rfl l0) (y_l1 rfl rfl l1) y_l0) (fun r σ4 hr => ⟨hr.1, yF_tr (yF_D m1 rfl) (yF_tr (yF_D m2 rfl) (yF_tr (yF_D m3 rfl) hr.2))⟩)
theorem yg_cs {L : Nat} {xs : Nat → Int32} {d o : Nat} {A S : Nat → Value} {σ : iv_H} {x : Int32} (h : yCpS A S σ) (s0 : S 0 = .int (Int32.ofNat o)) (s1 : S 1 = .int x) : ∃ σ1, iv_Rn L xs d 61 0 (lv_args 0 [.ref 96, .ref 104]) [] σ none σ1 ∧ (∃ A1, iv_get σ1 96 = some (yob 6 5 A1) ∧ A1 0 = .int (Int32.ofNat o)) ∧ yFr [96, 98, 100, 102] σ σ1 := by
  obtain ⟨⟨gA, a2, a3, a4⟩, ⟨gS, s2, s3, s4⟩, ⟨Qa, g98⟩, ⟨na, g100⟩, ⟨sa, g102⟩, ⟨Q, g106, hQ⟩, ⟨nu, g108⟩, sg, g110⟩ := h
  refine y_R0 ?_
  refine w_A y61_0 rfl ?_
  refine w_A y61_1 rfl ?_
  refine y_gf y61_2 gS rfl s0 ?_
  refine y_pf y61_5 gA rfl rfl (fun σ1 m1 => ?_)
  refine w_A y61_8 rfl ?_
  refine w_A y61_9 rfl ?_
  refine y_gf y61_10 (mD_n m1 (by decide) gS) rfl s1 ?_
  refine y_pf y61_13 m1.2.1 rfl rfl (fun σ2 m2 => ?_)
  refine w_K y61_16 ?_
  refine w_IS y61_17 ?_
  have n : ∀ {a : Nat} {y : Option iv_E}, a ≠ 96 → iv_get σ a = y → iv_get σ2 a = y := fun h1 h2 => mD_n m2 h1 (mD_n m1 h1 h2)
  have hS2 : yCpS (yuV (yuV A 0 (.int (Int32.ofNat o))) 1 (.int x)) S σ2 := ⟨⟨m2.2.1, a2, a3, a4⟩, ⟨n (by decide) gS, s2, s3, s4⟩, ⟨Qa, n (by decide) g98⟩, ⟨na, n (by decide) g100⟩, ⟨sa, n (by decide) g102⟩, ⟨Q, n (by decide) g106, hQ⟩, ⟨nu, n (by decide) g108⟩, sg, n (by decide) g110⟩
  refine zGo_imp (yg_csL 40 0 σ2 _ rfl hS2 rfl rfl rfl) (fun r σ3 hr => ⟨hr.1, ⟨_, yF_n hr.2 (by rfl) m2.2.1, rfl⟩, yF_tr (yF_D m1 rfl) (yF_tr (yF_D m2 rfl) (yF_sub (by rfl) hr.2))⟩)
theorem yg_srf {L : Nat} {xs : Nat → Int32} {d n m ng : Nat} {T : Nat → Nat} {Nm : Nat → Int64} {σ : iv_H} {V S : Nat → Value} {Q : Nat → Option Nat} {nu sg : Nat → Int32} (hd : 60 ≤ d) (hg : ng ≤ 6) (hn : n ≤ 940) (hm : m ≤ 900) (hT : ∀ i, T i ≤ 255) (hC : yCM T n m 0 V σ) (hV : V 11 = .int (Int32.ofNat 0)) (gS : iv_get σ 104 = some (yob 6 5 S)) (s2 : S 2 = .ref 106) (s3 : S 3 = .ref 108) (s4 : S 4 = .ref 110) (g106 : iv_get σ 106 = some (yaq 40 Q)) (hQ : ∀ i, i < 40 → ∃ b, Q i = some b ∧ iv_isW b = true) (g108 : iv_get σ 108 = some (yai 40 nu)) (g110 : iv_get σ 110 = some (yai 40 sg)) (hr : yGr Nm ng σ) : ∃ b σ1, iv_Rn L xs d 62 0 (lv_args 0 [.ref 104, .ref 356, .ref 4]) [] σ (some (.int (yb b))) σ1 ∧ (match ySen T n m Nm ng with
    | .inl e => b = false ∧ yGB e σ1
    | .inr k => b = true ∧ yGo k σ1 ∧ ∃ V1, iv_get σ1 356 = some (yob 5 13 V1) ∧ V1 11 = .int (Int32.ofNat 0)) := by
  obtain ⟨d, rfl⟩ : ∃ e, d = e + 60 := ⟨d - 60, by omega⟩
  refine y_RbE ?_
  refine w_A y62_0 rfl ?_
  refine w_call y62_1 (y_args6 gS rfl rfl) rfl ?_
  refine w_A y60_0 rfl ?_
  refine w_K y60_1 ?_
  refine y_pf y60_2 gS rfl rfl (fun σ1 m1 => ?_)
  refine w_A y60_5 rfl ?_
  refine w_K y60_6 ?_
  refine y_pf y60_7 m1.2.1 rfl rfl (fun σ2 m2 => ?_)
  refine w_ret0 y60_10 ?_
  have f2 : yFr [104] σ σ2 := yF_tr (yF_D m1 rfl) (yF_D m2 rfl)
  have h2 : yG T n m 0 Nm ng 0 σ2 := ⟨⟨V, yCM_fr hC f2 rfl, hV⟩, ⟨_, 0, Q, nu, sg, m2.2.1, ⟨rfl, rfl, by decide, s2, s3, s4, hQ⟩, yF_n f2 (by rfl) g106, yF_n f2 (by rfl) g108, yF_n f2 (by rfl) g110⟩, yGr_F hr f2 rfl⟩
  show zGo L xs _ [] (d + 60) 62 4 _ [] σ2
  obtain ⟨b, σ3, r3, h3⟩ := (yg_sx (L := L) (xs := xs) (Nm := Nm) hg hn hm hT 2830).1 0 0 0 (d + 59) σ2 (by decide) (by omega) (by decide) (by decide) h2
  refine w_A y62_4 rfl ?_
  refine w_A y62_5 rfl ?_
  refine w_A y62_6 rfl ?_
  refine w_K y62_7 ?_
  refine y_call y62_8 (y_args6 m2.2.1 rfl rfl) rfl r3 ?_
  have un : ySen T n m Nm ng = yThen (ySx T n m Nm ng 2830 0 0 0 0) fun q => if ykd T n m q.1 = 0 then .inr q.2 else .inl (ybd T n m q.1 1) := rfl
  cases hq : ySx T n m Nm ng 2830 0 0 0 0 with
  | inl e =>
    rw [hq] at h3 un
    have un : ySen T n m Nm ng = .inl e := un
    rw [un]
    obtain ⟨rfl, h4⟩ := (show b = false ∧ yGB e σ3 from h3)
    refine w_ifT y62_11 rfl (y_beqT rfl) ?_
    refine w_K y62_33 ?_
    exact y_ret (v := .int (yb false)) y62_34 y_rtb ⟨false, rfl, rfl, h4⟩
  | inr q =>
    rw [hq] at h3 un
    have un : ySen T n m Nm ng = (if ykd T n m q.1 = 0 then .inr q.2 else .inl (ybd T n m q.1 1)) := un
    obtain ⟨rfl, h4, _⟩ := (show b = true ∧ yG T n m q.1 Nm ng q.2 σ3 ∧ (0 < q.2 ∧ q.2 ≤ 20) ∧ 0 < q.1 from h3)
    refine w_ifF y62_11 rfl (y_beqF rfl) ?_
    refine w_A y62_14 rfl ?_
    refine G_ov hT y62_15 rfl h4 ?_
    by_cases c : ykd T n m q.1 = 0
    · rw [if_pos c] at un
      rw [un]
      refine w_ifT y62_18 rfl (y_bneT (decide_eq_true c)) ?_
      refine w_K y62_29 ?_
      refine w_go y62_30 rfl ?_
      obtain ⟨⟨V4, hC4, hV4⟩, ho4, _⟩ := h4
      exact y_ret (v := .int (yb true)) y62_34 y_rtb ⟨true, rfl, rfl, ho4, V4, yCM_g hC4, hV4⟩
    · rw [if_neg c] at un
      rw [un]
      refine w_ifF y62_18 rfl (y_bneF (decide_eq_false c)) ?_
      refine w_A y62_21 rfl ?_
      refine w_K y62_22 ?_
      refine G_ref hT y62_23 rfl h4 (.inr rfl) (fun σ5 h5 => ?_)
      refine w_ifT y62_26 rfl (y_beqT rfl) ?_
      refine w_K y62_33 ?_
      exact y_ret (v := .int (yb false)) y62_34 y_rtb ⟨false, rfl, rfl, h5⟩
theorem yz_three {c : zct} {t u w a b e : Nat} {L : Nat} {xs : Nat → Int32} {d : Nat} {σ : iv_H} (hC : zCT z_τ z_ty z_J c) (he : c.2.2.2.1.2.1 = ([((0, 0, 0, 0), (t + 2, 0, 1000)), ((0, 1, 0, 0), (u + 2, 0, 1000)), ((0, 2, 0, 0), (w + 2, 0, 1000))], [])) (hd : c.2.1 ≤ d) (ta : z_τ a = t) (tb : z_τ b = u) (tc : z_τ e = w) (ha : a ≤ 1000) (hb : b ≤ 1000) (hc : e ≤ 1000) (hI : zI z_τ z_ty σ) (hJ : z_J σ) : ∃ r σ1, iv_Rn L xs d c.1 0 (lv_args 0 [.ref a, .ref b, .ref e]) [] σ r σ1 ∧ zI z_τ z_ty σ1 ∧ z_J σ1 ∧ zFr z_τ c.2.2.1 σ σ1 := by
  obtain ⟨r, σ1, h1, h2, h3, h4, _⟩ := hC L xs d [.ref a, .ref b, .ref e] σ (fun i => match i with
    | 0 => (a : Int)
    | 1 => (b : Int)
    | _ => (e : Int)) hd hI hJ (by
    rw [he]
    refine ⟨fun s c hs => ?_, fun f hf => (by cases hf), fun i bb c hi => ?_⟩
    · rcases s with _ | _ | _ | s
      · cases hs
        refine ⟨by show (0 : Int) ≤ (a : Int); omega, by show (a : Int) ≤ 1000; omega, fun _ => ⟨by show (0 : Int) ≤ (a : Int); omega, ?_⟩⟩
        show z_τ ((a : Int).toNat) = t
        rw [Int.toNat_natCast]
        exact ta
      · cases hs
        refine ⟨by show (0 : Int) ≤ (b : Int); omega, by show (b : Int) ≤ 1000; omega, fun _ => ⟨by show (0 : Int) ≤ (b : Int); omega, ?_⟩⟩
        show z_τ ((b : Int).toNat) = u
        rw [Int.toNat_natCast]
        exact tb
      · cases hs
        refine ⟨by show (0 : Int) ≤ (e : Int); omega, by show (e : Int) ≤ 1000; omega, fun _ => ⟨by show (0 : Int) ≤ (e : Int); omega, ?_⟩⟩
        show z_τ ((e : Int).toNat) = w
        rw [Int.toNat_natCast]
        exact tc
      · cases hs
    · rcases i with _ | _ | _ | i
      · cases hi
        exact ⟨.ref a, rfl, a, rfl, rfl⟩
      · cases hi
        exact ⟨.ref b, rfl, b, rfl, rfl⟩
      · cases hi
        exact ⟨.ref e, rfl, e, rfl, rfl⟩
      · cases hi)
  exact ⟨r, σ1, h1, h2, h3, h4⟩
theorem yW_of {σ : iv_H} (hI : zI z_τ z_ty σ) {a n : Nat} {sg : zsg} (ht : z_ty (z_τ a) = some (.inr (6, n, 1, sg))) : ∃ f, iv_get σ a = some (yaq n f) ∧ ∀ i, i < n → ∃ b, f i = some b ∧ iv_isW b = true := by
  obtain ⟨e, h1, h2⟩ := hI a _ ht
  obtain ⟨f, _, rfl, h3⟩ := (show ∃ f : Nat → Option Nat, 3 ≤ 4 ∧ e = .inl (3 + 3, n, .inr (.inr (.inr (.inr f)))) ∧ ∀ i, i < n → ∃ a, f i = some a ∧ z_τ a = 1 from h2)
  refine ⟨f, h1, fun i hi => ?_⟩
  obtain ⟨b, e1, e2⟩ := h3 i hi
  exact ⟨b, e1, z_T.1 b e2⟩
theorem yg_sen {L : Nat} {xs : Nat → Int32} {d n ng : Nat} {T : Nat → Nat} {Nm : Nat → Int64} {σ : iv_H} (hd : 150 ≤ d) (hg : ng ≤ 6) (hn : n ≤ 940) (hT : ∀ i, T i ≤ 255) (hI : zI z_τ z_ty σ) (hJ : z_J σ) (hF : FX σ) (hb : fB σ = some (.int (Int32.ofNat n))) (gt : iv_get σ 2 = some (yai 940 (ytp T))) (hr : yGr Nm ng σ) : ∃ σ1, iv_Rn L xs d 150 0 (lv_args 0 [.ref 0]) [] σ (some (.int (yAn2 (ySen T n 200 Nm ng)))) σ1 ∧ ∃ G1, iv_get σ1 0 = some (yob 11 20 G1) ∧ G1 2 = .int (Int32.ofNat (yFt (ySen T n 200 Nm ng))) := by
  obtain ⟨d, rfl⟩ : ∃ e, d = e + 1 := ⟨d - 1, by omega⟩
  obtain ⟨G, g0, oG⟩ := yo_of hI (a := 0) (t := 21) (n := 20) rfl rfl rfl
  have c0 := yFX_v hF oG (by decide : (0, 11, 0, 2) ∈ yFX)
  have c3 := yFX_v hF oG (by decide : (0, 11, 3, 4) ∈ yFX)
  have c7 := yFX_v hF oG (by decide : (0, 11, 7, 96) ∈ yFX)
  have c8 := yFX_v hF oG (by decide : (0, 11, 8, 104) ∈ yFX)
  have c10 := yFX_v hF oG (by decide : (0, 11, 10, 356) ∈ yFX)
  have c1 : G 1 = .int (Int32.ofNat n) := by
    have h := fB_of (show iv_get σ 0 = some (.inr (11, (List.range 20).map G)) from g0)
    rw [hb, y_nthV (by decide)] at h
    simp only [Option.some.injEq] at h
    exact h.symm
  obtain ⟨V, g, oV⟩ := yo_of hI (a := 356) (t := 15) (n := 13) rfl rfl rfl
  have v1 := yFX_v hF oV (by decide : (356, 5, 1, 358) ∈ yFX)
  have v2 := yFX_v hF oV (by decide : (356, 5, 2, 360) ∈ yFX)
  have v3 := yFX_v hF oV (by decide : (356, 5, 3, 362) ∈ yFX)
  have v4 := yFX_v hF oV (by decide : (356, 5, 4, 364) ∈ yFX)
  obtain ⟨K, gk⟩ := yi_of hI (a := 358) (n := 901) rfl
  obtain ⟨P, gp⟩ := yi_of hI (a := 360) (n := 901) rfl
  obtain ⟨X, gv⟩ := yj_of hI (a := 362) (n := 901) rfl
  obtain ⟨Q, gw⟩ := yq_of hI (a := 364) (n := 901) rfl
  obtain ⟨σ1, r1, V1, hC1, g01, e11, _, f1⟩ := yg_rt (L := L) (xs := xs) (d := d) (n := n) (m := 200) (by omega) hn (by decide) hT g0 c0 c1 c10 g gk gp gv gw v1 v2 v3 v4 gt
  have hxn : (Int32.ofNat n).toInt = n := y_of (by omega)
  obtain ⟨r1b, σ1b, R1, hI1, hJ1, F1, _⟩ := zu_6 L xs d [.ref 0, .int (Int32.ofNat 200)] σ _ (show 45 ≤ d by omega) hI hJ (std_zPB (rs := [(200, 900)]) (ys := [Int32.ofNat 200]) (t := 21) (a := 0) (x := Int32.ofNat n) rfl (by decide) ⟨⟨by decide, by decide⟩, trivial⟩ (show iv_get σ 0 = some (.inr (11, (List.range 20).map G)) from g0) (by rw [y_nthV (by decide), c1]) (by omega) (by omega))
  obtain ⟨_, rfl⟩ := y_det r1 R1
  have hF1 := FX_fr hF F1 rfl
  obtain ⟨S, gS, oS⟩ := yo_of hI1 (a := 104) (t := 16) (n := 5) rfl rfl rfl
  obtain ⟨Qs, g106, hQs⟩ := yW_of hI1 (a := 106) (n := 40) rfl
  obtain ⟨nu, g108⟩ := yi_of hI1 (a := 108) (n := 40) rfl
  obtain ⟨sg, g110⟩ := yi_of hI1 (a := 110) (n := 40) rfl
  obtain ⟨b, σ2, r2, o2⟩ := yg_srf (L := L) (xs := xs) (d := d) (by omega) hg hn (by decide) hT hC1 e11 gS (yFX_v hF1 oS (by decide : (104, 6, 2, 106) ∈ yFX)) (yFX_v hF1 oS (by decide : (104, 6, 3, 108) ∈ yFX)) (yFX_v hF1 oS (by decide : (104, 6, 4, 110) ∈ yFX)) g106 hQs g108 g110 (yGr_F hr f1 rfl)
  obtain ⟨r2b, σ2b, R2, hI2, hJ2, F2⟩ := yz_three (L := L) (xs := xs) (d := d) (a := 104) (b := 356) (e := 4) zt_166 rfl (show 145 ≤ d by omega) rfl rfl rfl (by decide) (by decide) (by decide) hI1 hJ1
  obtain ⟨_, rfl⟩ := y_det r2 R2
  have hF2 := FX_fr hF1 F2 rfl
  obtain ⟨G2, g02, oG2⟩ := yo_of hI2 (a := 0) (t := 21) (n := 20) rfl rfl rfl
  have k7 := yFX_v hF2 oG2 (by decide : (0, 11, 7, 96) ∈ yFX)
  have k8 := yFX_v hF2 oG2 (by decide : (0, 11, 8, 104) ∈ yFX)
  have k10 := yFX_v hF2 oG2 (by decide : (0, 11, 10, 356) ∈ yFX)
  refine y_Rn ?_
  refine w_A y150_0 rfl ?_
  refine w_K y150_1 ?_
  refine y_call0 y150_4 (y_args6 g0 rfl rfl) rfl r1 ?_
  refine w_A y150_7 rfl ?_
  refine y_gf y150_8 g01 rfl c8 ?_
  refine w_A y150_11 rfl ?_
  refine y_gf y150_12 g01 rfl c10 ?_
  refine w_A y150_15 rfl ?_
  refine y_gf y150_16 g01 rfl c3 ?_
  refine y_call y150_19 (y_args6 gS rfl rfl) rfl r2 ?_
  refine w_IS y150_22 ?_
  refine w_A y150_23 rfl ?_
  refine w_A y150_24 rfl ?_
  refine y_gf y150_25 g02 rfl k10 ?_
  cases hq : ySen T n 200 Nm ng with
  | inl e =>
    rw [hq] at o2
    obtain ⟨rfl, V2, g2, w11, w12⟩ := (show b = false ∧ ∃ V2, yCB e V2 σ2 from o2)
    refine y_gf y150_28 g2 rfl w11 ?_
    refine y_pf y150_31 g02 rfl rfl (fun σ3 m3 => ?_)
    refine w_I y150_34 rfl ?_
    refine w_ifF y150_35 rfl (y_bneF rfl) ?_
    refine w_K y150_38 ?_
    refine w_A y150_39 rfl ?_
    refine y_gf y150_40 m3.2.1 rfl k10 ?_
    refine y_gf y150_43 (mD_n m3 (by decide) g2) rfl w12 ?_
    refine y_II y150_46 ?_
    exact y_ret y150_47 rfl ⟨rfl, _, m3.2.1, rfl⟩
  | inr k =>
    rw [hq] at o2
    obtain ⟨rfl, ⟨S2, k2, Q2, nu2, sg2, gS2, ⟨s0, s1, _, s2, s3, s4, hQ2⟩, h106, h108, h110⟩, V2, g2, w11⟩ := (show b = true ∧ yGo k σ2 ∧ ∃ V1, iv_get σ2 356 = some (yob 5 13 V1) ∧ V1 11 = .int (Int32.ofNat 0) from o2)
    refine y_gf y150_28 g2 rfl w11 ?_
    refine y_pf y150_31 g02 rfl rfl (fun σ3 m3 => ?_)
    refine w_I y150_34 rfl ?_
    refine w_ifT y150_35 rfl (y_bneT rfl) ?_
    obtain ⟨A, gA, oA⟩ := yo_of hI2 (a := 96) (t := 16) (n := 5) rfl rfl rfl
    obtain ⟨Qa, g98⟩ := yq_of hI2 (a := 98) (n := 40) rfl
    obtain ⟨na, g100⟩ := yi_of hI2 (a := 100) (n := 40) rfl
    obtain ⟨sa, g102⟩ := yi_of hI2 (a := 102) (n := 40) rfl
    have hS : yCpS A S2 σ3 := ⟨⟨mD_n m3 (by decide) gA, yFX_v hF2 oA (by decide : (96, 6, 2, 98) ∈ yFX), yFX_v hF2 oA (by decide : (96, 6, 3, 100) ∈ yFX), yFX_v hF2 oA (by decide : (96, 6, 4, 102) ∈ yFX)⟩, ⟨mD_n m3 (by decide) gS2, s2, s3, s4⟩, ⟨Qa, mD_n m3 (by decide) g98⟩, ⟨na, mD_n m3 (by decide) g100⟩, ⟨sa, mD_n m3 (by decide) g102⟩, ⟨Q2, mD_n m3 (by decide) h106, hQ2⟩, ⟨nu2, mD_n m3 (by decide) h108⟩, sg2, mD_n m3 (by decide) h110⟩
    obtain ⟨σ4, r4, ⟨A4, g4, a40⟩, f4⟩ := yg_cs (L := L) (xs := xs) (d := d) hS s0 s1
    have g04 := yF_n f4 (by rfl) m3.2.1
    refine w_A y150_48 rfl ?_
    refine y_gf y150_49 m3.2.1 rfl k7 ?_
    refine w_A y150_52 rfl ?_
    refine y_gf y150_53 m3.2.1 rfl k8 ?_
    refine y_call0 y150_56 (y_args6 (mD_n m3 (by decide) gA) rfl rfl) rfl r4 ?_
    refine w_A y150_59 rfl ?_
    refine y_gf y150_60 g04 rfl k7 ?_
    refine y_gf y150_63 g4 rfl a40 ?_
    exact y_ret y150_66 rfl ⟨rfl, _, g04, rfl⟩
/-! both sides -/
theorem yGr_of {x y : Int32} {σ : iv_H} (hI : Inv x y σ) : ∃ ng, ng ≤ 6 ∧ mA σ 552 1 = Int32.ofNat ng ∧ yGr (mL σ 562) ng σ := by
  obtain ⟨⟨⟨_, f2, _, _⟩, nb, ng, ⟨n0, n1⟩, ⟨b7, g6⟩, _, hgr⟩, _⟩ := hI.2.2.2.2.2.2.2.2.2
  obtain ⟨E, g4, oE⟩ := yo_of hI.1.1 (a := 4) (t := 13) (n := 16) rfl rfl rfl
  obtain ⟨gn, g14⟩ := yj_of hI.1.1 (a := 14) (n := 6) rfl
  refine ⟨ng, g6, n1, E, gn, g4, ⟨?_, yFX_v hI.2.2.2.2.2.2.1 oE (by decide : (4, 3, 13, 14) ∈ yFX)⟩, g14, fun g hg => ?_⟩
  · have h := oI_of g4 (j := 2) (by decide)
    rw [f2] at h
    simp only [Option.some.injEq] at h
    rw [← h, n1]
  · have h := hgr g hg
    rw [show mL σ (4 + 10) = gn from hL_of g14] at h
    exact h
theorem sen_same {L : Nat} {xs : Nat → Int32} {x x' v w : Int32} {σ σ1 σ2 : iv_H} (hI : Inv x x σ) (hI1 : Inv x' x σ1) (hR : iv_Rn L xs 599 150 0 (lv_args 0 [.ref 0]) [] σ (some (.int v)) σ1) (hR2 : iv_Rn L xs 599 277 0 (lv_args 0 [.ref 548]) [] σ1 (some (.int w)) σ2) : v = w ∧ ∃ k : Nat, oF σ1 0 2 = some (.int (Int32.ofNat k)) ∧ oF σ2 548 10 = some (.int (Int32.ofNat k)) := by
  have hq2 := hI.2.2.2.2.2
  obtain ⟨o1, o2, ⟨T, hb, e1, e2⟩, o4, o5⟩ := hq2
  have hz := hI.1.1
  obtain ⟨fs, gfs, hfs⟩ := z_G hz
  have hx3 : iv_nth fs 1 = some (.int x) := by rw [← fB_of gfs]; exact hI.2.2.1.1
  have hx9 := hfs x hx3
  obtain ⟨rb, σb, Rb, _, _, hF, _⟩ := zu_15 L xs 599 (.ref 0 :: ([] : List Int32).map .int) σ (stdR 0 [] x.toInt) (by decide) hz hI.1.2 (std_zPB (rs := []) (ys := []) (t := 21) (a := 0) (x := x) rfl (by decide) trivial gfs hx3 hx9.1 hx9.2)
  obtain ⟨_, rfl⟩ := y_det hR Rb
  have ht1 := c_leaves hI.2.1.1 hF rfl
  have t1 : mA σ1 550 = ytp T := (mA_eq ht1 550 rfl).trans e2
  obtain ⟨n, rfl, en⟩ := i32_nat (x := x) hx9.1
  obtain ⟨ng, g6, n1, hgr⟩ := yGr_of hI
  have hM1 := hI1.2.1.1
  obtain ⟨fs2, g, mo, _⟩ := mO_of hM1
  obtain ⟨V, efs, hV⟩ := y_V (fs := fs2) (n := 49) mo.1
  have g0 : iv_get σ1 548 = some (yob 12 49 V) := by rw [g, efs]; rfl
  have c2 : V 2 = .int (Int32.ofNat n) := hV 2 _ (by rw [← fT_of g]; exact hI1.2.2.1.2)
  have mo2 : mO ((List.range 49).map V) := by rw [← efs]; exact mo
  obtain ⟨ft, gt, _⟩ := zI_ia hM1 (a := 550) (t := 73) rfl rfl
  have gt2 : iv_get σ1 550 = some (yai 940 (ytp T)) := by rw [← t1, hA_of gt]; exact gt
  obtain ⟨fN, gN, _⟩ := zI_ia hM1 (a := 552) (t := 74) rfl rfl
  have hN : fN 1 = Int32.ofNat ng := by
    have h := mA_eq ht1 552 rfl
    rw [hA_of gN] at h
    rw [h]
    exact n1
  obtain ⟨fR, gR, _⟩ := zI_ia hM1 (a := 554) (t := 75) rfl rfl
  obtain ⟨fD, gD, _⟩ := zI_ia hM1 (a := 590) (t := 93) rfl rfl
  obtain ⟨fM, gM⟩ := m_name hM1
  have eM : fM = mL σ 562 := (hL_of gM).symm.trans (mL_eq ht1 562 rfl)
  rw [eM] at gM
  obtain ⟨eQ, gQ, hQc⟩ := hM1 564 _ rfl
  obtain ⟨fQ, rfl, _⟩ := (show ∃ f : Nat → Int64, eQ = .inl (1, 13, .inr (.inl f)) ∧ _ from hQc)
  obtain ⟨eO, gO, hOc⟩ := hM1 570 _ rfl
  obtain ⟨fO, rfl, _⟩ := (show ∃ f : Nat → Int32, eO = .inl (2, 3, .inl f) ∧ _ from hOc)
  obtain ⟨fsT, gT, hlT, hfT⟩ := zI_obj hM1 (a := 548) (t := 22) rfl rfl
  rw [g] at gT
  cases gT
  have ty : yTy V := by
    refine ⟨?_, ?_, ?_⟩
    · obtain ⟨q, hq⟩ := iv_nth_some (l := fs2) (n := 12) (by rw [mo.1]; decide)
      obtain ⟨y, e, _⟩ := (show ∃ y : Int64, q = .long y ∧ _ from hfT 12 _ _ rfl hq)
      exact ⟨y, by rw [hV 12 _ hq, e]⟩
    · obtain ⟨q, hq⟩ := iv_nth_some (l := fs2) (n := 8) (by rw [mo.1]; decide)
      obtain ⟨y, e, _⟩ := (show ∃ y : Int32, q = .int y ∧ _ from hfT 8 _ _ rfl hq)
      exact ⟨y, by rw [hV 8 _ hq, e]⟩
    · obtain ⟨q, hq⟩ := iv_nth_some (l := fs2) (n := 9) (by rw [mo.1]; decide)
      obtain ⟨y, e, _⟩ := (show ∃ y : Int32, q = .int y ∧ _ from hfT 9 _ _ rfl hq)
      exact ⟨y, by rw [hV 9 _ hq, e]⟩
  obtain ⟨u, v13⟩ : ∃ u : Int32, V 13 = .int u := by
    obtain ⟨q, hq⟩ := iv_nth_some (l := fs2) (n := 13) (by rw [mo.1]; decide)
    obtain ⟨y, e, _⟩ := (show ∃ y : Int32, q = .int y ∧ _ from hfT 13 _ _ rfl hq)
    exact ⟨y, by rw [hV 13 _ hq, e]⟩
  obtain ⟨t, v48⟩ : ∃ u : Int32, V 48 = .int u := by
    obtain ⟨q, hq⟩ := iv_nth_some (l := fs2) (n := 48) (by rw [mo.1]; decide)
    obtain ⟨y, e, _⟩ := (show ∃ y : Int32, q = .int y ∧ _ from hfT 48 _ _ rfl hq)
    exact ⟨y, by rw [hV 48 _ hq, e]⟩
  obtain ⟨σ3, R3, V3, g3, k3⟩ := ym_sen (L := L) (xs := xs) (d := 599) (n := n) (by decide) g6 (by omega) hb mo2 g0 gt2 gR gQ gO gN gM gD hN c2 v13 v48 ty
  obtain ⟨ew, rfl⟩ := y_det hR2 R3
  have gtc : iv_get σ 2 = some (yai 940 (ytp T)) := by
    obtain ⟨f, g⟩ := yi_of hz (a := 2) (n := 940) rfl
    rw [← e1, hA_of g]
    exact g
  obtain ⟨σ4, R4, G4, g4, k4⟩ := yg_sen (L := L) (xs := xs) (d := 599) (n := n) (by decide) g6 (by omega) hb hz hI.1.2 o2 hI.2.2.1.1 gtc hgr
  obtain ⟨ev, rfl⟩ := y_det hR R4
  simp only [Option.some.injEq, Value.int.injEq] at ev ew
  refine ⟨by rw [ev, ew], yFt (ySen T n 200 (mL σ 562) ng), ?_, ?_⟩
  · exact (hO_of g4 2).trans (by rw [y_nthV (by decide), k4])
  · exact (hO_of g3 10).trans (by rw [y_nthV (by decide), k3])
