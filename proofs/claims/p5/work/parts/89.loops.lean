/-! ===== printed by wip/gen/genloops.py: loops that copy ===== -/
theorem cp_sg {f s : Nat → Int32} {off lo k i j : Nat} (hi : i = lo + k) (hj : j = off + k) : upd (va_cpy s f off lo k) i (s j) = va_cpy s f off lo (k + 1) := by
  subst hi; subst hj; exact cp_s
theorem cp_sgL {f s : Nat → Int64} {off lo k i j : Nat} (hi : i = lo + k) (hj : j = off + k) : vp_updL (va_cpy s f off lo k) i (s j) = va_cpy s f off lo (k + 1) := by
  subst hi; subst hj; exact cp_sL
theorem cp_c {f : Nat → Int32} {c : Int32} {lo k i : Nat} (hi : i = lo + k) : upd (va_cpy (fun _ => c) f 0 lo k) i c = va_cpy (fun _ => c) f 0 lo (k + 1) := by
  subst hi; exact cp_s (s := fun _ => c)
theorem cp_in {f : Nat → Int32} {n k i : Nat} (hi : i = k) : upd (va_cpy f f n 0 k) i (va_cpy f f n 0 k (k + n)) = va_cpy f f n 0 (k + 1) := by
  subst hi
  rw [show va_cpy f f n 0 i (i + n) = f (n + i) by rw [zcpy_at, if_neg (by omega), Nat.add_comm]]
  exact cp_sg (by omega) rfl
theorem f207_11 : iv_f1 (iv_p 207) 11 = some (.inl (iv_oI 1 1)) := rfl
theorem f207_12 : iv_f1 (iv_p 207) 12 = some (.inl (iv_oK (.int (Int32.ofNat 658)) 3)) := rfl
theorem f207_15 : iv_f1 (iv_p 207) 15 = some (.inl (iv_oIc .ge (24))) := rfl
theorem f207_18 : iv_f1 (iv_p 207) 18 = some (.inl (iv_oA 0 1)) := rfl
theorem f207_19 : iv_f1 (iv_p 207) 19 = some (.inl (iv_oGF 12 17)) := rfl
theorem f207_22 : iv_f1 (iv_p 207) 22 = some (.inl (iv_oI 1 1)) := rfl
theorem f207_23 : iv_f1 (iv_p 207) 23 = some (.inl (iv_oA 0 1)) := rfl
theorem f207_24 : iv_f1 (iv_p 207) 24 = some (.inl (iv_oGF 12 17)) := rfl
theorem f207_27 : iv_f1 (iv_p 207) 27 = some (.inl (iv_oI 1 1)) := rfl
theorem f207_28 : iv_f1 (iv_p 207) 28 = some (.inl (iv_oK (.int (Int32.ofNat 94)) 2)) := rfl
theorem f207_30 : iv_f1 (iv_p 207) 30 = some (.inl (iv_oII fun x y => x + y)) := rfl
theorem f207_31 : iv_f1 (iv_p 207) 31 = some (.inl (iv_oIl)) := rfl
theorem f207_32 : iv_f1 (iv_p 207) 32 = some (.inl (iv_oIst)) := rfl
theorem f207_33 : iv_f1 (iv_p 207) 33 = some (.inl (iv_oInc 1 1)) := rfl
theorem f207_36 : iv_f1 (iv_p 207) 36 = some (.inl (iv_oGo (-25))) := rfl
theorem f207_51 : iv_f1 (iv_p 207) 51 = some (.inl (iv_oI 1 1)) := rfl
theorem f207_52 : iv_f1 (iv_p 207) 52 = some (.inl (iv_oK (.int (Int32.ofNat 94)) 2)) := rfl
theorem f207_54 : iv_f1 (iv_p 207) 54 = some (.inl (iv_oIc .ge (32))) := rfl
theorem f207_57 : iv_f1 (iv_p 207) 57 = some (.inl (iv_oA 0 1)) := rfl
theorem f207_58 : iv_f1 (iv_p 207) 58 = some (.inl (iv_oGF 12 17)) := rfl
theorem f207_61 : iv_f1 (iv_p 207) 61 = some (.inl (iv_oK (.int (Int32.ofNat 94)) 2)) := rfl
theorem f207_63 : iv_f1 (iv_p 207) 63 = some (.inl (iv_oA 0 1)) := rfl
theorem f207_64 : iv_f1 (iv_p 207) 64 = some (.inl (iv_oGF 12 24)) := rfl
theorem f207_67 : iv_f1 (iv_p 207) 67 = some (.inl (iv_oII fun x y => x * y)) := rfl
theorem f207_68 : iv_f1 (iv_p 207) 68 = some (.inl (iv_oI 1 1)) := rfl
theorem f207_69 : iv_f1 (iv_p 207) 69 = some (.inl (iv_oII fun x y => x + y)) := rfl
theorem f207_70 : iv_f1 (iv_p 207) 70 = some (.inl (iv_oA 0 1)) := rfl
theorem f207_71 : iv_f1 (iv_p 207) 71 = some (.inl (iv_oGF 12 14)) := rfl
theorem f207_74 : iv_f1 (iv_p 207) 74 = some (.inl (iv_oK (.int (Int32.ofNat 38)) 2)) := rfl
theorem f207_76 : iv_f1 (iv_p 207) 76 = some (.inl (iv_oI 1 1)) := rfl
theorem f207_77 : iv_f1 (iv_p 207) 77 = some (.inl (iv_oII fun x y => x + y)) := rfl
theorem f207_78 : iv_f1 (iv_p 207) 78 = some (.inl (iv_oIl)) := rfl
theorem f207_79 : iv_f1 (iv_p 207) 79 = some (.inl (iv_oIst)) := rfl
theorem f207_80 : iv_f1 (iv_p 207) 80 = some (.inl (iv_oInc 1 1)) := rfl
theorem f207_83 : iv_f1 (iv_p 207) 83 = some (.inl (iv_oGo (-32))) := rfl
theorem f219_26 : iv_f1 (iv_p 219) 26 = some (.inl (iv_oI 1 1)) := rfl
theorem f219_27 : iv_f1 (iv_p 219) 27 = some (.inl (iv_oK (.int (Int32.ofNat 94)) 2)) := rfl
theorem f219_29 : iv_f1 (iv_p 219) 29 = some (.inl (iv_oIc .ge (32))) := rfl
theorem f219_32 : iv_f1 (iv_p 219) 32 = some (.inl (iv_oA 0 1)) := rfl
theorem f219_33 : iv_f1 (iv_p 219) 33 = some (.inl (iv_oGF 12 14)) := rfl
theorem f219_36 : iv_f1 (iv_p 219) 36 = some (.inl (iv_oK (.int (Int32.ofNat 38)) 2)) := rfl
theorem f219_38 : iv_f1 (iv_p 219) 38 = some (.inl (iv_oI 1 1)) := rfl
theorem f219_39 : iv_f1 (iv_p 219) 39 = some (.inl (iv_oII fun x y => x + y)) := rfl
theorem f219_40 : iv_f1 (iv_p 219) 40 = some (.inl (iv_oA 0 1)) := rfl
theorem f219_41 : iv_f1 (iv_p 219) 41 = some (.inl (iv_oGF 12 17)) := rfl
theorem f219_44 : iv_f1 (iv_p 219) 44 = some (.inl (iv_oK (.int (Int32.ofNat 94)) 2)) := rfl
theorem f219_46 : iv_f1 (iv_p 219) 46 = some (.inl (iv_oA 0 1)) := rfl
theorem f219_47 : iv_f1 (iv_p 219) 47 = some (.inl (iv_oGF 12 24)) := rfl
theorem f219_50 : iv_f1 (iv_p 219) 50 = some (.inl (iv_oII fun x y => x * y)) := rfl
theorem f219_51 : iv_f1 (iv_p 219) 51 = some (.inl (iv_oI 1 1)) := rfl
theorem f219_52 : iv_f1 (iv_p 219) 52 = some (.inl (iv_oII fun x y => x + y)) := rfl
theorem f219_53 : iv_f1 (iv_p 219) 53 = some (.inl (iv_oIl)) := rfl
theorem f219_54 : iv_f1 (iv_p 219) 54 = some (.inl (iv_oIst)) := rfl
theorem f219_55 : iv_f1 (iv_p 219) 55 = some (.inl (iv_oInc 1 1)) := rfl
theorem f219_58 : iv_f1 (iv_p 219) 58 = some (.inl (iv_oGo (-32))) := rfl
theorem f255_2 : iv_f1 (iv_p 255) 2 = some (.inl (iv_oI 1 1)) := rfl
theorem f255_3 : iv_f1 (iv_p 255) 3 = some (.inl (iv_oK (.int (Int32.ofNat 94)) 2)) := rfl
theorem f255_5 : iv_f1 (iv_p 255) 5 = some (.inl (iv_oIc .ge (24))) := rfl
theorem f255_8 : iv_f1 (iv_p 255) 8 = some (.inl (iv_oA 0 1)) := rfl
theorem f255_9 : iv_f1 (iv_p 255) 9 = some (.inl (iv_oGF 12 18)) := rfl
theorem f255_12 : iv_f1 (iv_p 255) 12 = some (.inl (iv_oI 1 1)) := rfl
theorem f255_13 : iv_f1 (iv_p 255) 13 = some (.inl (iv_oA 0 1)) := rfl
theorem f255_14 : iv_f1 (iv_p 255) 14 = some (.inl (iv_oGF 12 14)) := rfl
theorem f255_17 : iv_f1 (iv_p 255) 17 = some (.inl (iv_oK (.int (Int32.ofNat 38)) 2)) := rfl
theorem f255_19 : iv_f1 (iv_p 255) 19 = some (.inl (iv_oI 1 1)) := rfl
theorem f255_20 : iv_f1 (iv_p 255) 20 = some (.inl (iv_oII fun x y => x + y)) := rfl
theorem f255_21 : iv_f1 (iv_p 255) 21 = some (.inl (iv_oIl)) := rfl
theorem f255_22 : iv_f1 (iv_p 255) 22 = some (.inl (iv_oIst)) := rfl
theorem f255_23 : iv_f1 (iv_p 255) 23 = some (.inl (iv_oInc 1 1)) := rfl
theorem f255_26 : iv_f1 (iv_p 255) 26 = some (.inl (iv_oGo (-24))) := rfl
theorem f256_2 : iv_f1 (iv_p 256) 2 = some (.inl (iv_oI 1 1)) := rfl
theorem f256_3 : iv_f1 (iv_p 256) 3 = some (.inl (iv_oK (.int (Int32.ofNat 94)) 2)) := rfl
theorem f256_5 : iv_f1 (iv_p 256) 5 = some (.inl (iv_oIc .ge (24))) := rfl
theorem f256_8 : iv_f1 (iv_p 256) 8 = some (.inl (iv_oA 0 1)) := rfl
theorem f256_9 : iv_f1 (iv_p 256) 9 = some (.inl (iv_oGF 12 14)) := rfl
theorem f256_12 : iv_f1 (iv_p 256) 12 = some (.inl (iv_oK (.int (Int32.ofNat 38)) 2)) := rfl
theorem f256_14 : iv_f1 (iv_p 256) 14 = some (.inl (iv_oI 1 1)) := rfl
theorem f256_15 : iv_f1 (iv_p 256) 15 = some (.inl (iv_oII fun x y => x + y)) := rfl
theorem f256_16 : iv_f1 (iv_p 256) 16 = some (.inl (iv_oA 0 1)) := rfl
theorem f256_17 : iv_f1 (iv_p 256) 17 = some (.inl (iv_oGF 12 18)) := rfl
theorem f256_20 : iv_f1 (iv_p 256) 20 = some (.inl (iv_oI 1 1)) := rfl
theorem f256_21 : iv_f1 (iv_p 256) 21 = some (.inl (iv_oIl)) := rfl
theorem f256_22 : iv_f1 (iv_p 256) 22 = some (.inl (iv_oIst)) := rfl
theorem f256_23 : iv_f1 (iv_p 256) 23 = some (.inl (iv_oInc 1 1)) := rfl
theorem f256_26 : iv_f1 (iv_p 256) 26 = some (.inl (iv_oGo (-24))) := rfl
theorem f179_2 : iv_f1 (iv_p 179) 2 = some (.inl (iv_oI 1 1)) := rfl
theorem f179_3 : iv_f1 (iv_p 179) 3 = some (.inl (iv_oK (.int (Int32.ofNat 38)) 2)) := rfl
theorem f179_5 : iv_f1 (iv_p 179) 5 = some (.inl (iv_oIc .ge (16))) := rfl
theorem f179_8 : iv_f1 (iv_p 179) 8 = some (.inl (iv_oA 0 1)) := rfl
theorem f179_9 : iv_f1 (iv_p 179) 9 = some (.inl (iv_oGF 12 15)) := rfl
theorem f179_12 : iv_f1 (iv_p 179) 12 = some (.inl (iv_oI 1 1)) := rfl
theorem f179_13 : iv_f1 (iv_p 179) 13 = some (.inl (iv_oK (.int (Int32.ofNat 0)) 1)) := rfl
theorem f179_14 : iv_f1 (iv_p 179) 14 = some (.inl (iv_oIst)) := rfl
theorem f179_15 : iv_f1 (iv_p 179) 15 = some (.inl (iv_oInc 1 1)) := rfl
theorem f179_18 : iv_f1 (iv_p 179) 18 = some (.inl (iv_oGo (-16))) := rfl
theorem f179_23 : iv_f1 (iv_p 179) 23 = some (.inl (iv_oI 1 1)) := rfl
theorem f179_24 : iv_f1 (iv_p 179) 24 = some (.inl (iv_oK (.int (Int32.ofNat 3)) 1)) := rfl
theorem f179_25 : iv_f1 (iv_p 179) 25 = some (.inl (iv_oIc .ge (16))) := rfl
theorem f179_28 : iv_f1 (iv_p 179) 28 = some (.inl (iv_oA 0 1)) := rfl
theorem f179_29 : iv_f1 (iv_p 179) 29 = some (.inl (iv_oGF 12 23)) := rfl
theorem f179_32 : iv_f1 (iv_p 179) 32 = some (.inl (iv_oI 1 1)) := rfl
theorem f179_33 : iv_f1 (iv_p 179) 33 = some (.inl (iv_oK (.int (Int32.ofNat 0)) 1)) := rfl
theorem f179_34 : iv_f1 (iv_p 179) 34 = some (.inl (iv_oZst)) := rfl
theorem f179_35 : iv_f1 (iv_p 179) 35 = some (.inl (iv_oInc 1 1)) := rfl
theorem f179_38 : iv_f1 (iv_p 179) 38 = some (.inl (iv_oGo (-15))) := rfl
theorem f179_43 : iv_f1 (iv_p 179) 43 = some (.inl (iv_oI 1 1)) := rfl
theorem f179_44 : iv_f1 (iv_p 179) 44 = some (.inl (iv_oK (.int (Int32.ofNat 7)) 2)) := rfl
theorem f179_46 : iv_f1 (iv_p 179) 46 = some (.inl (iv_oIc .ge (19))) := rfl
theorem f179_49 : iv_f1 (iv_p 179) 49 = some (.inl (iv_oA 0 1)) := rfl
theorem f179_50 : iv_f1 (iv_p 179) 50 = some (.inl (iv_oGF 12 15)) := rfl
theorem f179_53 : iv_f1 (iv_p 179) 53 = some (.inl (iv_oK (.int (Int32.ofNat 19)) 2)) := rfl
theorem f179_55 : iv_f1 (iv_p 179) 55 = some (.inl (iv_oI 1 1)) := rfl
theorem f179_56 : iv_f1 (iv_p 179) 56 = some (.inl (iv_oII fun x y => x + y)) := rfl
theorem f179_57 : iv_f1 (iv_p 179) 57 = some (.inl (iv_oK (.int (-1)) 1)) := rfl
theorem f179_58 : iv_f1 (iv_p 179) 58 = some (.inl (iv_oIst)) := rfl
theorem f179_59 : iv_f1 (iv_p 179) 59 = some (.inl (iv_oInc 1 1)) := rfl
theorem f179_62 : iv_f1 (iv_p 179) 62 = some (.inl (iv_oGo (-19))) := rfl
theorem f180_3 : iv_f1 (iv_p 180) 3 = some (.inl (iv_oI 1 1)) := rfl
theorem f180_4 : iv_f1 (iv_p 180) 4 = some (.inl (iv_oK (.int (Int32.ofNat 374)) 3)) := rfl
theorem f180_7 : iv_f1 (iv_p 180) 7 = some (.inl (iv_oIc .ge (16))) := rfl
theorem f180_10 : iv_f1 (iv_p 180) 10 = some (.inl (iv_oA 0 1)) := rfl
theorem f180_11 : iv_f1 (iv_p 180) 11 = some (.inl (iv_oGF 12 14)) := rfl
theorem f180_14 : iv_f1 (iv_p 180) 14 = some (.inl (iv_oI 1 1)) := rfl
theorem f180_15 : iv_f1 (iv_p 180) 15 = some (.inl (iv_oK (.int (Int32.ofNat 0)) 1)) := rfl
theorem f180_16 : iv_f1 (iv_p 180) 16 = some (.inl (iv_oIst)) := rfl
theorem f180_17 : iv_f1 (iv_p 180) 17 = some (.inl (iv_oInc 1 1)) := rfl
theorem f180_20 : iv_f1 (iv_p 180) 20 = some (.inl (iv_oGo (-17))) := rfl
theorem f191_49 : iv_f1 (iv_p 191) 49 = some (.inl (iv_oI 2 1)) := rfl
theorem f191_50 : iv_f1 (iv_p 191) 50 = some (.inl (iv_oK (.int (Int32.ofNat 38)) 2)) := rfl
theorem f191_52 : iv_f1 (iv_p 191) 52 = some (.inl (iv_oIc .ge (21))) := rfl
theorem f191_55 : iv_f1 (iv_p 191) 55 = some (.inl (iv_oA 0 1)) := rfl
theorem f191_56 : iv_f1 (iv_p 191) 56 = some (.inl (iv_oGF 12 14)) := rfl
theorem f191_59 : iv_f1 (iv_p 191) 59 = some (.inl (iv_oI 2 1)) := rfl
theorem f191_60 : iv_f1 (iv_p 191) 60 = some (.inl (iv_oA 0 1)) := rfl
theorem f191_61 : iv_f1 (iv_p 191) 61 = some (.inl (iv_oGF 12 15)) := rfl
theorem f191_64 : iv_f1 (iv_p 191) 64 = some (.inl (iv_oI 2 1)) := rfl
theorem f191_65 : iv_f1 (iv_p 191) 65 = some (.inl (iv_oIl)) := rfl
theorem f191_66 : iv_f1 (iv_p 191) 66 = some (.inl (iv_oIst)) := rfl
theorem f191_67 : iv_f1 (iv_p 191) 67 = some (.inl (iv_oInc 2 1)) := rfl
theorem f191_70 : iv_f1 (iv_p 191) 70 = some (.inl (iv_oGo (-21))) := rfl
theorem f191_75 : iv_f1 (iv_p 191) 75 = some (.inl (iv_oI 2 1)) := rfl
theorem f191_76 : iv_f1 (iv_p 191) 76 = some (.inl (iv_oK (.int (Int32.ofNat 13)) 2)) := rfl
theorem f191_78 : iv_f1 (iv_p 191) 78 = some (.inl (iv_oIc .ge (21))) := rfl
theorem f191_81 : iv_f1 (iv_p 191) 81 = some (.inl (iv_oA 0 1)) := rfl
theorem f191_82 : iv_f1 (iv_p 191) 82 = some (.inl (iv_oGF 12 19)) := rfl
theorem f191_85 : iv_f1 (iv_p 191) 85 = some (.inl (iv_oI 2 1)) := rfl
theorem f191_86 : iv_f1 (iv_p 191) 86 = some (.inl (iv_oA 0 1)) := rfl
theorem f191_87 : iv_f1 (iv_p 191) 87 = some (.inl (iv_oGF 12 20)) := rfl
set_option maxRecDepth 8000 in
theorem f191_90 : iv_f1 (iv_p 191) 90 = some (.inl (iv_oI 2 1)) := rfl
set_option maxRecDepth 8000 in
theorem f191_91 : iv_f1 (iv_p 191) 91 = some (.inl (iv_oJl)) := rfl
set_option maxRecDepth 8000 in
theorem f191_92 : iv_f1 (iv_p 191) 92 = some (.inl (iv_oJst)) := rfl
set_option maxRecDepth 8000 in
theorem f191_93 : iv_f1 (iv_p 191) 93 = some (.inl (iv_oInc 2 1)) := rfl
set_option maxRecDepth 8000 in
theorem f191_96 : iv_f1 (iv_p 191) 96 = some (.inl (iv_oGo (-21))) := rfl
theorem f277_79 : iv_f1 (iv_p 277) 79 = some (.inl (iv_oI 1 1)) := rfl
theorem f277_80 : iv_f1 (iv_p 277) 80 = some (.inl (iv_oK (.int (Int32.ofNat 240)) 3)) := rfl
theorem f277_83 : iv_f1 (iv_p 277) 83 = some (.inl (iv_oIc .ge (25))) := rfl
theorem f277_86 : iv_f1 (iv_p 277) 86 = some (.inl (iv_oA 0 1)) := rfl
theorem f277_87 : iv_f1 (iv_p 277) 87 = some (.inl (iv_oGF 12 14)) := rfl
set_option maxRecDepth 8000 in
theorem f277_90 : iv_f1 (iv_p 277) 90 = some (.inl (iv_oK (.int (Int32.ofNat 134)) 3)) := rfl
set_option maxRecDepth 8000 in
theorem f277_93 : iv_f1 (iv_p 277) 93 = some (.inl (iv_oI 1 1)) := rfl
set_option maxRecDepth 8000 in
theorem f277_94 : iv_f1 (iv_p 277) 94 = some (.inl (iv_oII fun x y => x + y)) := rfl
set_option maxRecDepth 8000 in
theorem f277_95 : iv_f1 (iv_p 277) 95 = some (.inl (iv_oA 0 1)) := rfl
set_option maxRecDepth 8000 in
theorem f277_96 : iv_f1 (iv_p 277) 96 = some (.inl (iv_oGF 12 44)) := rfl
set_option maxRecDepth 8000 in
theorem f277_99 : iv_f1 (iv_p 277) 99 = some (.inl (iv_oI 1 1)) := rfl
set_option maxRecDepth 8000 in
theorem f277_100 : iv_f1 (iv_p 277) 100 = some (.inl (iv_oIl)) := rfl
set_option maxRecDepth 8000 in
theorem f277_101 : iv_f1 (iv_p 277) 101 = some (.inl (iv_oIst)) := rfl
set_option maxRecDepth 8000 in
theorem f277_102 : iv_f1 (iv_p 277) 102 = some (.inl (iv_oInc 1 1)) := rfl
set_option maxRecDepth 8000 in
theorem f277_105 : iv_f1 (iv_p 277) 105 = some (.inl (iv_oGo (-26))) := rfl
theorem f280_18 : iv_f1 (iv_p 280) 18 = some (.inl (iv_oI 2 1)) := rfl
theorem f280_19 : iv_f1 (iv_p 280) 19 = some (.inl (iv_oK (.int (Int32.ofNat 374)) 3)) := rfl
theorem f280_22 : iv_f1 (iv_p 280) 22 = some (.inl (iv_oIc .ge (27))) := rfl
theorem f280_25 : iv_f1 (iv_p 280) 25 = some (.inl (iv_oA 0 1)) := rfl
theorem f280_26 : iv_f1 (iv_p 280) 26 = some (.inl (iv_oGF 12 16)) := rfl
theorem f280_29 : iv_f1 (iv_p 280) 29 = some (.inl (iv_oK (.int (Int32.ofNat 374)) 3)) := rfl
theorem f280_32 : iv_f1 (iv_p 280) 32 = some (.inl (iv_oI 1 1)) := rfl
theorem f280_33 : iv_f1 (iv_p 280) 33 = some (.inl (iv_oII fun x y => x * y)) := rfl
theorem f280_34 : iv_f1 (iv_p 280) 34 = some (.inl (iv_oI 2 1)) := rfl
theorem f280_35 : iv_f1 (iv_p 280) 35 = some (.inl (iv_oII fun x y => x + y)) := rfl
theorem f280_36 : iv_f1 (iv_p 280) 36 = some (.inl (iv_oA 0 1)) := rfl
theorem f280_37 : iv_f1 (iv_p 280) 37 = some (.inl (iv_oGF 12 14)) := rfl
theorem f280_40 : iv_f1 (iv_p 280) 40 = some (.inl (iv_oI 2 1)) := rfl
theorem f280_41 : iv_f1 (iv_p 280) 41 = some (.inl (iv_oIl)) := rfl
theorem f280_42 : iv_f1 (iv_p 280) 42 = some (.inl (iv_oIst)) := rfl
theorem f280_43 : iv_f1 (iv_p 280) 43 = some (.inl (iv_oInc 2 1)) := rfl
theorem f280_46 : iv_f1 (iv_p 280) 46 = some (.inl (iv_oGo (-28))) := rfl
theorem f280_51 : iv_f1 (iv_p 280) 51 = some (.inl (iv_oI 2 1)) := rfl
theorem f280_52 : iv_f1 (iv_p 280) 52 = some (.inl (iv_oK (.int (Int32.ofNat 13)) 2)) := rfl
theorem f280_54 : iv_f1 (iv_p 280) 54 = some (.inl (iv_oIc .ge (26))) := rfl
theorem f280_57 : iv_f1 (iv_p 280) 57 = some (.inl (iv_oA 0 1)) := rfl
theorem f280_58 : iv_f1 (iv_p 280) 58 = some (.inl (iv_oGF 12 21)) := rfl
theorem f280_61 : iv_f1 (iv_p 280) 61 = some (.inl (iv_oK (.int (Int32.ofNat 13)) 2)) := rfl
theorem f280_63 : iv_f1 (iv_p 280) 63 = some (.inl (iv_oI 1 1)) := rfl
theorem f280_64 : iv_f1 (iv_p 280) 64 = some (.inl (iv_oII fun x y => x * y)) := rfl
theorem f280_65 : iv_f1 (iv_p 280) 65 = some (.inl (iv_oI 2 1)) := rfl
theorem f280_66 : iv_f1 (iv_p 280) 66 = some (.inl (iv_oII fun x y => x + y)) := rfl
theorem f280_67 : iv_f1 (iv_p 280) 67 = some (.inl (iv_oA 0 1)) := rfl
theorem f280_68 : iv_f1 (iv_p 280) 68 = some (.inl (iv_oGF 12 19)) := rfl
theorem f280_71 : iv_f1 (iv_p 280) 71 = some (.inl (iv_oI 2 1)) := rfl
theorem f280_72 : iv_f1 (iv_p 280) 72 = some (.inl (iv_oJl)) := rfl
theorem f280_73 : iv_f1 (iv_p 280) 73 = some (.inl (iv_oJst)) := rfl
theorem f280_74 : iv_f1 (iv_p 280) 74 = some (.inl (iv_oInc 2 1)) := rfl
theorem f280_77 : iv_f1 (iv_p 280) 77 = some (.inl (iv_oGo (-26))) := rfl
theorem f281_27 : iv_f1 (iv_p 281) 27 = some (.inl (iv_oI 2 1)) := rfl
theorem f281_28 : iv_f1 (iv_p 281) 28 = some (.inl (iv_oK (.int (Int32.ofNat 374)) 3)) := rfl
theorem f281_31 : iv_f1 (iv_p 281) 31 = some (.inl (iv_oIc .ge (27))) := rfl
theorem f281_34 : iv_f1 (iv_p 281) 34 = some (.inl (iv_oA 0 1)) := rfl
theorem f281_35 : iv_f1 (iv_p 281) 35 = some (.inl (iv_oGF 12 14)) := rfl
theorem f281_38 : iv_f1 (iv_p 281) 38 = some (.inl (iv_oI 2 1)) := rfl
theorem f281_39 : iv_f1 (iv_p 281) 39 = some (.inl (iv_oA 0 1)) := rfl
theorem f281_40 : iv_f1 (iv_p 281) 40 = some (.inl (iv_oGF 12 16)) := rfl
theorem f281_43 : iv_f1 (iv_p 281) 43 = some (.inl (iv_oK (.int (Int32.ofNat 374)) 3)) := rfl
theorem f281_46 : iv_f1 (iv_p 281) 46 = some (.inl (iv_oI 1 1)) := rfl
theorem f281_47 : iv_f1 (iv_p 281) 47 = some (.inl (iv_oII fun x y => x * y)) := rfl
theorem f281_48 : iv_f1 (iv_p 281) 48 = some (.inl (iv_oI 2 1)) := rfl
theorem f281_49 : iv_f1 (iv_p 281) 49 = some (.inl (iv_oII fun x y => x + y)) := rfl
theorem f281_50 : iv_f1 (iv_p 281) 50 = some (.inl (iv_oIl)) := rfl
theorem f281_51 : iv_f1 (iv_p 281) 51 = some (.inl (iv_oIst)) := rfl
theorem f281_52 : iv_f1 (iv_p 281) 52 = some (.inl (iv_oInc 2 1)) := rfl
theorem f281_55 : iv_f1 (iv_p 281) 55 = some (.inl (iv_oGo (-28))) := rfl
theorem f281_60 : iv_f1 (iv_p 281) 60 = some (.inl (iv_oI 2 1)) := rfl
theorem f281_61 : iv_f1 (iv_p 281) 61 = some (.inl (iv_oK (.int (Int32.ofNat 13)) 2)) := rfl
theorem f281_63 : iv_f1 (iv_p 281) 63 = some (.inl (iv_oIc .ge (26))) := rfl
theorem f281_66 : iv_f1 (iv_p 281) 66 = some (.inl (iv_oA 0 1)) := rfl
theorem f281_67 : iv_f1 (iv_p 281) 67 = some (.inl (iv_oGF 12 19)) := rfl
theorem f281_70 : iv_f1 (iv_p 281) 70 = some (.inl (iv_oI 2 1)) := rfl
theorem f281_71 : iv_f1 (iv_p 281) 71 = some (.inl (iv_oA 0 1)) := rfl
theorem f281_72 : iv_f1 (iv_p 281) 72 = some (.inl (iv_oGF 12 21)) := rfl
theorem f281_75 : iv_f1 (iv_p 281) 75 = some (.inl (iv_oK (.int (Int32.ofNat 13)) 2)) := rfl
theorem f281_77 : iv_f1 (iv_p 281) 77 = some (.inl (iv_oI 1 1)) := rfl
theorem f281_78 : iv_f1 (iv_p 281) 78 = some (.inl (iv_oII fun x y => x * y)) := rfl
theorem f281_79 : iv_f1 (iv_p 281) 79 = some (.inl (iv_oI 2 1)) := rfl
theorem f281_80 : iv_f1 (iv_p 281) 80 = some (.inl (iv_oII fun x y => x + y)) := rfl
theorem f281_81 : iv_f1 (iv_p 281) 81 = some (.inl (iv_oJl)) := rfl
theorem f281_82 : iv_f1 (iv_p 281) 82 = some (.inl (iv_oJst)) := rfl
theorem f281_83 : iv_f1 (iv_p 281) 83 = some (.inl (iv_oInc 2 1)) := rfl
theorem f281_86 : iv_f1 (iv_p 281) 86 = some (.inl (iv_oGo (-26))) := rfl
theorem l207_11 {L : Nat} {xs : Nat → Int32} {Post : Option Value → iv_H → Prop} {d : Nat} {σ : iv_H} {fs : List Value} {f : Nat → Int32} {lvr : iv_L} (hd : iv_d1 1 lvr = lvr) (l0 : iv_f1 lvr 0 = some (.ref 548)) (ho : iv_get σ 548 = some (.inr (12, fs))) (mo : mO fs) (ga : iv_get σ 558 = some (.inl (0, 752, .inl f))) : ∀ (j k : Nat), k + j = 658 → ∀ σ1, mD σ σ1 558 (.inl (0, 752, .inl (va_cpy f f 94 0 k))) → (∀ σ2, mD σ σ2 558 (.inl (0, 752, .inl (va_cpy f f 94 0 658))) → zGo L xs Post [] d 207 39 ((1, .int (Int32.ofNat 658)) :: lvr) [] σ2) → zGo L xs Post [] d 207 11 ((1, .int (Int32.ofNat k)) :: lvr) [] σ1
  | 0, k, hk, σ1, h1, hx => by
    obtain rfl : k = 658 := by omega
    refine w_I f207_11 rfl ?_
    refine w_K f207_12 ?_
    refine w_icT f207_15 rfl (c_geT (by omega) (by omega)) ?_
    exact hx σ1 h1
  | j + 1, k, hk, σ1, h1, hx => by
    have ho1 := mD_n h1 (by decide) ho
    have ga1 := h1.2.1
    refine w_I f207_11 rfl ?_
    refine w_K f207_12 ?_
    refine w_icF f207_15 rfl (c_geF (by omega) (by omega)) ?_
    refine w_A f207_18 l0 ?_
    refine w_gf f207_19 ho1 (mo.2.2.2.2.2.1) ?_
    refine w_I f207_22 rfl ?_
    refine w_A f207_23 l0 ?_
    refine w_gf f207_24 ho1 (mo.2.2.2.2.2.1) ?_
    refine w_I f207_27 rfl ?_
    refine w_K f207_28 ?_
    refine w_add f207_30 ?_
    refine w_il f207_31 ga1 rfl rfl (by omega) (by decide) ?_
    refine w_ist f207_32 ga1 (by omega) (by decide) ?_
    rw [cp_in (k := k) (n := 94) (i := k) (by omega)]
    refine w_incr f207_33 hd ?_
    refine w_go f207_36 rfl ?_
    exact l207_11 hd l0 ho mo  ga j (k + 1) (by omega) _ (mD_put h1) hx
theorem l207_51 {L : Nat} {xs : Nat → Int32} {Post : Option Value → iv_H → Prop} {d : Nat} {σ : iv_H} {fs : List Value} {f s : Nat → Int32} {sm : Nat} {lvr : iv_L} (hd : iv_d1 1 lvr = lvr) (l0 : iv_f1 lvr 0 = some (.ref 548)) (ho : iv_get σ 548 = some (.inr (12, fs))) (mo : mO fs) (e24 : iv_nth fs 24 = some (.int (Int32.ofNat sm))) (hsm : sm ≤ 7) (ga : iv_get σ 558 = some (.inl (0, 752, .inl f))) (gb : iv_get σ 552 = some (.inl (0, 374, .inl s))) : ∀ (j k : Nat), k + j = 94 → ∀ σ1, mD σ σ1 558 (.inl (0, 752, .inl (va_cpy s f 38 (94 * sm) k))) → (∀ σ2, mD σ σ2 558 (.inl (0, 752, .inl (va_cpy s f 38 (94 * sm) 94))) → zGo L xs Post [] d 207 86 ((1, .int (Int32.ofNat 94)) :: lvr) [] σ2) → zGo L xs Post [] d 207 51 ((1, .int (Int32.ofNat k)) :: lvr) [] σ1
  | 0, k, hk, σ1, h1, hx => by
    obtain rfl : k = 94 := by omega
    refine w_I f207_51 rfl ?_
    refine w_K f207_52 ?_
    refine w_icT f207_54 rfl (c_geT (by omega) (by omega)) ?_
    exact hx σ1 h1
  | j + 1, k, hk, σ1, h1, hx => by
    have ho1 := mD_n h1 (by decide) ho
    have ga1 := h1.2.1
    have gb1 := mD_n h1 (by decide) gb
    refine w_I f207_51 rfl ?_
    refine w_K f207_52 ?_
    refine w_icF f207_54 rfl (c_geF (by omega) (by omega)) ?_
    refine w_A f207_57 l0 ?_
    refine w_gf f207_58 ho1 (mo.2.2.2.2.2.1) ?_
    refine w_K f207_61 ?_
    refine w_A f207_63 l0 ?_
    refine w_gf f207_64 ho1 e24 ?_
    refine w_mul f207_67 ?_
    refine w_I f207_68 rfl ?_
    refine w_add f207_69 ?_
    refine w_A f207_70 l0 ?_
    refine w_gf f207_71 ho1 (mo.2.2.1) ?_
    refine w_K f207_74 ?_
    refine w_I f207_76 rfl ?_
    refine w_add f207_77 ?_
    refine w_il f207_78 gb1 rfl rfl (by omega) (by decide) ?_
    refine w_ist f207_79 ga1 (by omega) (by decide) ?_
    rw [cp_sg (lo := 94 * sm) (off := 38) (k := k) (i := ((94 * sm) + k)) (j := (38 + k)) (by omega) (by omega)]
    refine w_incr f207_80 hd ?_
    refine w_go f207_83 rfl ?_
    exact l207_51 hd l0 ho mo e24 hsm ga gb j (k + 1) (by omega) _ (mD_put h1) hx
theorem l219_26 {L : Nat} {xs : Nat → Int32} {Post : Option Value → iv_H → Prop} {d : Nat} {σ : iv_H} {fs : List Value} {f s : Nat → Int32} {sm : Nat} {lvr : iv_L} (hd : iv_d1 1 lvr = lvr) (l0 : iv_f1 lvr 0 = some (.ref 548)) (ho : iv_get σ 548 = some (.inr (12, fs))) (mo : mO fs) (e24 : iv_nth fs 24 = some (.int (Int32.ofNat sm))) (hsm : sm ≤ 7) (ga : iv_get σ 552 = some (.inl (0, 374, .inl f))) (gb : iv_get σ 558 = some (.inl (0, 752, .inl s))) : ∀ (j k : Nat), k + j = 94 → ∀ σ1, mD σ σ1 552 (.inl (0, 374, .inl (va_cpy s f (94 * sm) 38 k))) → (∀ σ2, mD σ σ2 552 (.inl (0, 374, .inl (va_cpy s f (94 * sm) 38 94))) → zGo L xs Post [] d 219 61 ((1, .int (Int32.ofNat 94)) :: lvr) [] σ2) → zGo L xs Post [] d 219 26 ((1, .int (Int32.ofNat k)) :: lvr) [] σ1
  | 0, k, hk, σ1, h1, hx => by
    obtain rfl : k = 94 := by omega
    refine w_I f219_26 rfl ?_
    refine w_K f219_27 ?_
    refine w_icT f219_29 rfl (c_geT (by omega) (by omega)) ?_
    exact hx σ1 h1
  | j + 1, k, hk, σ1, h1, hx => by
    have ho1 := mD_n h1 (by decide) ho
    have ga1 := h1.2.1
    have gb1 := mD_n h1 (by decide) gb
    refine w_I f219_26 rfl ?_
    refine w_K f219_27 ?_
    refine w_icF f219_29 rfl (c_geF (by omega) (by omega)) ?_
    refine w_A f219_32 l0 ?_
    refine w_gf f219_33 ho1 (mo.2.2.1) ?_
    refine w_K f219_36 ?_
    refine w_I f219_38 rfl ?_
    refine w_add f219_39 ?_
    refine w_A f219_40 l0 ?_
    refine w_gf f219_41 ho1 (mo.2.2.2.2.2.1) ?_
    refine w_K f219_44 ?_
    refine w_A f219_46 l0 ?_
    refine w_gf f219_47 ho1 e24 ?_
    refine w_mul f219_50 ?_
    refine w_I f219_51 rfl ?_
    refine w_add f219_52 ?_
    refine w_il f219_53 gb1 rfl rfl (by omega) (by decide) ?_
    refine w_ist f219_54 ga1 (by omega) (by decide) ?_
    rw [cp_sg (lo := 38) (off := 94 * sm) (k := k) (i := (38 + k)) (j := ((94 * sm) + k)) (by omega) (by omega)]
    refine w_incr f219_55 hd ?_
    refine w_go f219_58 rfl ?_
    exact l219_26 hd l0 ho mo e24 hsm ga gb j (k + 1) (by omega) _ (mD_put h1) hx
theorem l255_2 {L : Nat} {xs : Nat → Int32} {Post : Option Value → iv_H → Prop} {d : Nat} {σ : iv_H} {fs : List Value} {f s : Nat → Int32} {lvr : iv_L} (hd : iv_d1 1 lvr = lvr) (l0 : iv_f1 lvr 0 = some (.ref 548)) (ho : iv_get σ 548 = some (.inr (12, fs))) (mo : mO fs) (ga : iv_get σ 560 = some (.inl (0, 94, .inl f))) (gb : iv_get σ 552 = some (.inl (0, 374, .inl s))) : ∀ (j k : Nat), k + j = 94 → ∀ σ1, mD σ σ1 560 (.inl (0, 94, .inl (va_cpy s f 38 0 k))) → (∀ σ2, mD σ σ2 560 (.inl (0, 94, .inl (va_cpy s f 38 0 94))) → zGo L xs Post [] d 255 29 ((1, .int (Int32.ofNat 94)) :: lvr) [] σ2) → zGo L xs Post [] d 255 2 ((1, .int (Int32.ofNat k)) :: lvr) [] σ1
  | 0, k, hk, σ1, h1, hx => by
    obtain rfl : k = 94 := by omega
    refine w_I f255_2 rfl ?_
    refine w_K f255_3 ?_
    refine w_icT f255_5 rfl (c_geT (by omega) (by omega)) ?_
    exact hx σ1 h1
  | j + 1, k, hk, σ1, h1, hx => by
    have ho1 := mD_n h1 (by decide) ho
    have ga1 := h1.2.1
    have gb1 := mD_n h1 (by decide) gb
    refine w_I f255_2 rfl ?_
    refine w_K f255_3 ?_
    refine w_icF f255_5 rfl (c_geF (by omega) (by omega)) ?_
    refine w_A f255_8 l0 ?_
    refine w_gf f255_9 ho1 (mo.2.2.2.2.2.2.1) ?_
    refine w_I f255_12 rfl ?_
    refine w_A f255_13 l0 ?_
    refine w_gf f255_14 ho1 (mo.2.2.1) ?_
    refine w_K f255_17 ?_
    refine w_I f255_19 rfl ?_
    refine w_add f255_20 ?_
    refine w_il f255_21 gb1 rfl rfl (by omega) (by decide) ?_
    refine w_ist f255_22 ga1 (by omega) (by decide) ?_
    rw [cp_sg (lo := 0) (off := 38) (k := k) (i := k) (j := (38 + k)) (by omega) (by omega)]
    refine w_incr f255_23 hd ?_
    refine w_go f255_26 rfl ?_
    exact l255_2 hd l0 ho mo  ga gb j (k + 1) (by omega) _ (mD_put h1) hx
theorem l256_2 {L : Nat} {xs : Nat → Int32} {Post : Option Value → iv_H → Prop} {d : Nat} {σ : iv_H} {fs : List Value} {f s : Nat → Int32} {lvr : iv_L} (hd : iv_d1 1 lvr = lvr) (l0 : iv_f1 lvr 0 = some (.ref 548)) (ho : iv_get σ 548 = some (.inr (12, fs))) (mo : mO fs) (ga : iv_get σ 552 = some (.inl (0, 374, .inl f))) (gb : iv_get σ 560 = some (.inl (0, 94, .inl s))) : ∀ (j k : Nat), k + j = 94 → ∀ σ1, mD σ σ1 552 (.inl (0, 374, .inl (va_cpy s f 0 38 k))) → (∀ σ2, mD σ σ2 552 (.inl (0, 374, .inl (va_cpy s f 0 38 94))) → zGo L xs Post [] d 256 29 ((1, .int (Int32.ofNat 94)) :: lvr) [] σ2) → zGo L xs Post [] d 256 2 ((1, .int (Int32.ofNat k)) :: lvr) [] σ1
  | 0, k, hk, σ1, h1, hx => by
    obtain rfl : k = 94 := by omega
    refine w_I f256_2 rfl ?_
    refine w_K f256_3 ?_
    refine w_icT f256_5 rfl (c_geT (by omega) (by omega)) ?_
    exact hx σ1 h1
  | j + 1, k, hk, σ1, h1, hx => by
    have ho1 := mD_n h1 (by decide) ho
    have ga1 := h1.2.1
    have gb1 := mD_n h1 (by decide) gb
    refine w_I f256_2 rfl ?_
    refine w_K f256_3 ?_
    refine w_icF f256_5 rfl (c_geF (by omega) (by omega)) ?_
    refine w_A f256_8 l0 ?_
    refine w_gf f256_9 ho1 (mo.2.2.1) ?_
    refine w_K f256_12 ?_
    refine w_I f256_14 rfl ?_
    refine w_add f256_15 ?_
    refine w_A f256_16 l0 ?_
    refine w_gf f256_17 ho1 (mo.2.2.2.2.2.2.1) ?_
    refine w_I f256_20 rfl ?_
    refine w_il f256_21 gb1 rfl rfl (by omega) (by decide) ?_
    refine w_ist f256_22 ga1 (by omega) (by decide) ?_
    rw [cp_sg (lo := 38) (off := 0) (k := k) (i := (38 + k)) (j := k) (by omega) (by omega)]
    refine w_incr f256_23 hd ?_
    refine w_go f256_26 rfl ?_
    exact l256_2 hd l0 ho mo  ga gb j (k + 1) (by omega) _ (mD_put h1) hx
theorem l179_2 {L : Nat} {xs : Nat → Int32} {Post : Option Value → iv_H → Prop} {d : Nat} {σ : iv_H} {fs : List Value} {f : Nat → Int32} {lvr : iv_L} (hd : iv_d1 1 lvr = lvr) (l0 : iv_f1 lvr 0 = some (.ref 548)) (ho : iv_get σ 548 = some (.inr (12, fs))) (mo : mO fs) (ga : iv_get σ 554 = some (.inl (0, 38, .inl f))) : ∀ (j k : Nat), k + j = 38 → ∀ σ1, mD σ σ1 554 (.inl (0, 38, .inl (va_cpy (fun _ => (Int32.ofNat 0)) f 0 0 k))) → (∀ σ2, mD σ σ2 554 (.inl (0, 38, .inl (va_cpy (fun _ => (Int32.ofNat 0)) f 0 0 38))) → zGo L xs Post [] d 179 21 ((1, .int (Int32.ofNat 38)) :: lvr) [] σ2) → zGo L xs Post [] d 179 2 ((1, .int (Int32.ofNat k)) :: lvr) [] σ1
  | 0, k, hk, σ1, h1, hx => by
    obtain rfl : k = 38 := by omega
    refine w_I f179_2 rfl ?_
    refine w_K f179_3 ?_
    refine w_icT f179_5 rfl (c_geT (by omega) (by omega)) ?_
    exact hx σ1 h1
  | j + 1, k, hk, σ1, h1, hx => by
    have ho1 := mD_n h1 (by decide) ho
    have ga1 := h1.2.1
    refine w_I f179_2 rfl ?_
    refine w_K f179_3 ?_
    refine w_icF f179_5 rfl (c_geF (by omega) (by omega)) ?_
    refine w_A f179_8 l0 ?_
    refine w_gf f179_9 ho1 (mo.2.2.2.1) ?_
    refine w_I f179_12 rfl ?_
    refine w_K f179_13 ?_
    refine w_ist f179_14 ga1 (by omega) (by decide) ?_
    rw [cp_c (lo := 0) (k := k) (i := k) (by omega)]
    refine w_incr f179_15 hd ?_
    refine w_go f179_18 rfl ?_
    exact l179_2 hd l0 ho mo  ga j (k + 1) (by omega) _ (mD_put h1) hx
theorem l179_23 {L : Nat} {xs : Nat → Int32} {Post : Option Value → iv_H → Prop} {d : Nat} {σ : iv_H} {fs : List Value} {f : Nat → Int32} {lvr : iv_L} (hd : iv_d1 1 lvr = lvr) (l0 : iv_f1 lvr 0 = some (.ref 548)) (ho : iv_get σ 548 = some (.inr (12, fs))) (mo : mO fs) (ga : iv_get σ 570 = some (.inl (2, 3, .inl f))) : ∀ (j k : Nat), k + j = 3 → ∀ σ1, mD σ σ1 570 (.inl (2, 3, .inl (va_cpy (fun _ => (Int32.ofNat 0)) f 0 0 k))) → (∀ σ2, mD σ σ2 570 (.inl (2, 3, .inl (va_cpy (fun _ => (Int32.ofNat 0)) f 0 0 3))) → zGo L xs Post [] d 179 41 ((1, .int (Int32.ofNat 3)) :: lvr) [] σ2) → zGo L xs Post [] d 179 23 ((1, .int (Int32.ofNat k)) :: lvr) [] σ1
  | 0, k, hk, σ1, h1, hx => by
    obtain rfl : k = 3 := by omega
    refine w_I f179_23 rfl ?_
    refine w_K f179_24 ?_
    refine w_icT f179_25 rfl (c_geT (by omega) (by omega)) ?_
    exact hx σ1 h1
  | j + 1, k, hk, σ1, h1, hx => by
    have ho1 := mD_n h1 (by decide) ho
    have ga1 := h1.2.1
    refine w_I f179_23 rfl ?_
    refine w_K f179_24 ?_
    refine w_icF f179_25 rfl (c_geF (by omega) (by omega)) ?_
    refine w_A f179_28 l0 ?_
    refine w_gf f179_29 ho1 (mo.2.2.2.2.2.2.2.2.2.2.2.1) ?_
    refine w_I f179_32 rfl ?_
    refine w_K f179_33 ?_
    refine w_zst f179_34 ga1 (by omega) (by decide) rfl ?_
    rw [cp_c (lo := 0) (k := k) (i := k) (by omega)]
    refine w_incr f179_35 hd ?_
    refine w_go f179_38 rfl ?_
    exact l179_23 hd l0 ho mo  ga j (k + 1) (by omega) _ (mD_put h1) hx
theorem l179_43 {L : Nat} {xs : Nat → Int32} {Post : Option Value → iv_H → Prop} {d : Nat} {σ : iv_H} {fs : List Value} {f : Nat → Int32} {lvr : iv_L} (hd : iv_d1 1 lvr = lvr) (l0 : iv_f1 lvr 0 = some (.ref 548)) (ho : iv_get σ 548 = some (.inr (12, fs))) (mo : mO fs) (ga : iv_get σ 554 = some (.inl (0, 38, .inl f))) : ∀ (j k : Nat), k + j = 7 → ∀ σ1, mD σ σ1 554 (.inl (0, 38, .inl (va_cpy (fun _ => (-1 : Int32)) f 0 19 k))) → (∀ σ2, mD σ σ2 554 (.inl (0, 38, .inl (va_cpy (fun _ => (-1 : Int32)) f 0 19 7))) → zGo L xs Post [] d 179 65 ((1, .int (Int32.ofNat 7)) :: lvr) [] σ2) → zGo L xs Post [] d 179 43 ((1, .int (Int32.ofNat k)) :: lvr) [] σ1
  | 0, k, hk, σ1, h1, hx => by
    obtain rfl : k = 7 := by omega
    refine w_I f179_43 rfl ?_
    refine w_K f179_44 ?_
    refine w_icT f179_46 rfl (c_geT (by omega) (by omega)) ?_
    exact hx σ1 h1
  | j + 1, k, hk, σ1, h1, hx => by
    have ho1 := mD_n h1 (by decide) ho
    have ga1 := h1.2.1
    refine w_I f179_43 rfl ?_
    refine w_K f179_44 ?_
    refine w_icF f179_46 rfl (c_geF (by omega) (by omega)) ?_
    refine w_A f179_49 l0 ?_
    refine w_gf f179_50 ho1 (mo.2.2.2.1) ?_
    refine w_K f179_53 ?_
    refine w_I f179_55 rfl ?_
    refine w_add f179_56 ?_
    refine w_K f179_57 ?_
    refine w_ist f179_58 ga1 (by omega) (by decide) ?_
    rw [cp_c (lo := 19) (k := k) (i := (19 + k)) (by omega)]
    refine w_incr f179_59 hd ?_
    refine w_go f179_62 rfl ?_
    exact l179_43 hd l0 ho mo  ga j (k + 1) (by omega) _ (mD_put h1) hx
theorem l180_3 {L : Nat} {xs : Nat → Int32} {Post : Option Value → iv_H → Prop} {d : Nat} {σ : iv_H} {fs : List Value} {f : Nat → Int32} {lvr : iv_L} (hd : iv_d1 1 lvr = lvr) (l0 : iv_f1 lvr 0 = some (.ref 548)) (ho : iv_get σ 548 = some (.inr (12, fs))) (mo : mO fs) (ga : iv_get σ 552 = some (.inl (0, 374, .inl f))) : ∀ (j k : Nat), k + j = 336 → ∀ σ1, mD σ σ1 552 (.inl (0, 374, .inl (va_cpy (fun _ => (Int32.ofNat 0)) f 0 38 k))) → (∀ σ2, mD σ σ2 552 (.inl (0, 374, .inl (va_cpy (fun _ => (Int32.ofNat 0)) f 0 38 336))) → zGo L xs Post [] d 180 23 ((1, .int (Int32.ofNat 374)) :: lvr) [] σ2) → zGo L xs Post [] d 180 3 ((1, .int (Int32.ofNat (38 + k))) :: lvr) [] σ1
  | 0, k, hk, σ1, h1, hx => by
    obtain rfl : k = 336 := by omega
    refine w_I f180_3 rfl ?_
    refine w_K f180_4 ?_
    refine w_icT f180_7 rfl (c_geT (by omega) (by omega)) ?_
    exact hx σ1 h1
  | j + 1, k, hk, σ1, h1, hx => by
    have ho1 := mD_n h1 (by decide) ho
    have ga1 := h1.2.1
    refine w_I f180_3 rfl ?_
    refine w_K f180_4 ?_
    refine w_icF f180_7 rfl (c_geF (by omega) (by omega)) ?_
    refine w_A f180_10 l0 ?_
    refine w_gf f180_11 ho1 (mo.2.2.1) ?_
    refine w_I f180_14 rfl ?_
    refine w_K f180_15 ?_
    refine w_ist f180_16 ga1 (by omega) (by decide) ?_
    rw [cp_c (lo := 38) (k := k) (i := (38 + k)) (by omega)]
    refine w_incr f180_17 hd ?_
    refine w_go f180_20 rfl ?_
    exact l180_3 hd l0 ho mo  ga j (k + 1) (by omega) _ (mD_put h1) hx
theorem l191_49 {L : Nat} {xs : Nat → Int32} {Post : Option Value → iv_H → Prop} {d : Nat} {σ : iv_H} {fs : List Value} {f s : Nat → Int32} {ls : Int32} {lvr : iv_L} (hd : iv_d1 2 lvr = lvr) (l0 : iv_f1 lvr 0 = some (.ref 548)) (l1 : iv_f1 lvr 1 = some (.int ls)) (ho : iv_get σ 548 = some (.inr (12, fs))) (mo : mO fs) (ga : iv_get σ 552 = some (.inl (0, 374, .inl f))) (gb : iv_get σ 554 = some (.inl (0, 38, .inl s))) : ∀ (j k : Nat), k + j = 38 → ∀ σ1, mD σ σ1 552 (.inl (0, 374, .inl (va_cpy s f 0 0 k))) → (∀ σ2, mD σ σ2 552 (.inl (0, 374, .inl (va_cpy s f 0 0 38))) → zGo L xs Post [] d 191 73 ((2, .int (Int32.ofNat 38)) :: lvr) [] σ2) → zGo L xs Post [] d 191 49 ((2, .int (Int32.ofNat k)) :: lvr) [] σ1
  | 0, k, hk, σ1, h1, hx => by
    obtain rfl : k = 38 := by omega
    refine w_I f191_49 rfl ?_
    refine w_K f191_50 ?_
    refine w_icT f191_52 rfl (c_geT (by omega) (by omega)) ?_
    exact hx σ1 h1
  | j + 1, k, hk, σ1, h1, hx => by
    have ho1 := mD_n h1 (by decide) ho
    have ga1 := h1.2.1
    have gb1 := mD_n h1 (by decide) gb
    refine w_I f191_49 rfl ?_
    refine w_K f191_50 ?_
    refine w_icF f191_52 rfl (c_geF (by omega) (by omega)) ?_
    refine w_A f191_55 l0 ?_
    refine w_gf f191_56 ho1 (mo.2.2.1) ?_
    refine w_I f191_59 rfl ?_
    refine w_A f191_60 l0 ?_
    refine w_gf f191_61 ho1 (mo.2.2.2.1) ?_
    refine w_I f191_64 rfl ?_
    refine w_il f191_65 gb1 rfl rfl (by omega) (by decide) ?_
    refine w_ist f191_66 ga1 (by omega) (by decide) ?_
    rw [cp_sg (lo := 0) (off := 0) (k := k) (i := k) (j := k) (by omega) (by omega)]
    refine w_incr f191_67 hd ?_
    refine w_go f191_70 rfl ?_
    exact l191_49 hd l0 l1 ho mo  ga gb j (k + 1) (by omega) _ (mD_put h1) hx
theorem l191_75 {L : Nat} {xs : Nat → Int32} {Post : Option Value → iv_H → Prop} {d : Nat} {σ : iv_H} {fs : List Value} {f s : Nat → Int64} {ls : Int32} {lvr : iv_L} (hd : iv_d1 2 lvr = lvr) (l0 : iv_f1 lvr 0 = some (.ref 548)) (l1 : iv_f1 lvr 1 = some (.int ls)) (ho : iv_get σ 548 = some (.inr (12, fs))) (mo : mO fs) (ga : iv_get σ 562 = some (.inl (1, 13, .inr (.inl f)))) (gb : iv_get σ 564 = some (.inl (1, 13, .inr (.inl s)))) : ∀ (j k : Nat), k + j = 13 → ∀ σ1, mD σ σ1 562 (.inl (1, 13, .inr (.inl (va_cpy s f 0 0 k)))) → (∀ σ2, mD σ σ2 562 (.inl (1, 13, .inr (.inl (va_cpy s f 0 0 13)))) → zGo L xs Post [] d 191 99 ((2, .int (Int32.ofNat 13)) :: lvr) [] σ2) → zGo L xs Post [] d 191 75 ((2, .int (Int32.ofNat k)) :: lvr) [] σ1
  | 0, k, hk, σ1, h1, hx => by
    obtain rfl : k = 13 := by omega
    refine w_I f191_75 rfl ?_
    refine w_K f191_76 ?_
    refine w_icT f191_78 rfl (c_geT (by omega) (by omega)) ?_
    exact hx σ1 h1
  | j + 1, k, hk, σ1, h1, hx => by
    have ho1 := mD_n h1 (by decide) ho
    have ga1 := h1.2.1
    have gb1 := mD_n h1 (by decide) gb
    refine w_I f191_75 rfl ?_
    refine w_K f191_76 ?_
    refine w_icF f191_78 rfl (c_geF (by omega) (by omega)) ?_
    refine w_A f191_81 l0 ?_
    refine w_gf f191_82 ho1 (mo.2.2.2.2.2.2.2.1) ?_
    refine w_I f191_85 rfl ?_
    refine w_A f191_86 l0 ?_
    refine w_gf f191_87 ho1 (mo.2.2.2.2.2.2.2.2.1) ?_
    refine w_I f191_90 rfl ?_
    refine w_jl f191_91 gb1 (by omega) (by decide) ?_
    refine w_jst f191_92 ga1 (by omega) (by decide) ?_
    rw [cp_sgL (lo := 0) (off := 0) (k := k) (i := k) (j := k) (by omega) (by omega)]
    refine w_incr f191_93 hd ?_
    refine w_go f191_96 rfl ?_
    exact l191_75 hd l0 l1 ho mo  ga gb j (k + 1) (by omega) _ (mD_put h1) hx
theorem l277_79 {L : Nat} {xs : Nat → Int32} {Post : Option Value → iv_H → Prop} {d : Nat} {σ : iv_H} {fs : List Value} {f s : Nat → Int32} {lvr : iv_L} (hd : iv_d1 1 lvr = lvr) (l0 : iv_f1 lvr 0 = some (.ref 548)) (ho : iv_get σ 548 = some (.inr (12, fs))) (mo : mO fs) (ga : iv_get σ 552 = some (.inl (0, 374, .inl f))) (gb : iv_get σ 590 = some (.inl (0, 240, .inl s))) : ∀ (j k : Nat), k + j = 240 → ∀ σ1, mD σ σ1 552 (.inl (0, 374, .inl (va_cpy s f 0 134 k))) → (∀ σ2, mD σ σ2 552 (.inl (0, 374, .inl (va_cpy s f 0 134 240))) → zGo L xs Post [] d 277 108 ((1, .int (Int32.ofNat 240)) :: lvr) [] σ2) → zGo L xs Post [] d 277 79 ((1, .int (Int32.ofNat k)) :: lvr) [] σ1
  | 0, k, hk, σ1, h1, hx => by
    obtain rfl : k = 240 := by omega
    refine w_I f277_79 rfl ?_
    refine w_K f277_80 ?_
    refine w_icT f277_83 rfl (c_geT (by omega) (by omega)) ?_
    exact hx σ1 h1
  | j + 1, k, hk, σ1, h1, hx => by
    have ho1 := mD_n h1 (by decide) ho
    have ga1 := h1.2.1
    have gb1 := mD_n h1 (by decide) gb
    refine w_I f277_79 rfl ?_
    refine w_K f277_80 ?_
    refine w_icF f277_83 rfl (c_geF (by omega) (by omega)) ?_
    refine w_A f277_86 l0 ?_
    refine w_gf f277_87 ho1 (mo.2.2.1) ?_
    refine w_K f277_90 ?_
    refine w_I f277_93 rfl ?_
    refine w_add f277_94 ?_
    refine w_A f277_95 l0 ?_
    refine w_gf f277_96 ho1 (mo.2.2.2.2.2.2.2.2.2.2.2.2.2.2.2.2) ?_
    refine w_I f277_99 rfl ?_
    refine w_il f277_100 gb1 rfl rfl (by omega) (by decide) ?_
    refine w_ist f277_101 ga1 (by omega) (by decide) ?_
    rw [cp_sg (lo := 134) (off := 0) (k := k) (i := (134 + k)) (j := k) (by omega) (by omega)]
    refine w_incr f277_102 hd ?_
    refine w_go f277_105 rfl ?_
    exact l277_79 hd l0 ho mo  ga gb j (k + 1) (by omega) _ (mD_put h1) hx
theorem l280_18 {L : Nat} {xs : Nat → Int32} {Post : Option Value → iv_H → Prop} {d : Nat} {σ : iv_H} {fs : List Value} {f s : Nat → Int32} {q : Nat} {lvr : iv_L} (hd : iv_d1 2 lvr = lvr) (l0 : iv_f1 lvr 0 = some (.ref 548)) (l1 : iv_f1 lvr 1 = some (.int (Int32.ofNat q))) (ho : iv_get σ 548 = some (.inr (12, fs))) (mo : mO fs) (hq : q ≤ 1) (ga : iv_get σ 556 = some (.inl (0, 748, .inl f))) (gb : iv_get σ 552 = some (.inl (0, 374, .inl s))) : ∀ (j k : Nat), k + j = 374 → ∀ σ1, mD σ σ1 556 (.inl (0, 748, .inl (va_cpy s f 0 (374 * q) k))) → (∀ σ2, mD σ σ2 556 (.inl (0, 748, .inl (va_cpy s f 0 (374 * q) 374))) → zGo L xs Post [] d 280 49 ((2, .int (Int32.ofNat 374)) :: lvr) [] σ2) → zGo L xs Post [] d 280 18 ((2, .int (Int32.ofNat k)) :: lvr) [] σ1
  | 0, k, hk, σ1, h1, hx => by
    obtain rfl : k = 374 := by omega
    refine w_I f280_18 rfl ?_
    refine w_K f280_19 ?_
    refine w_icT f280_22 rfl (c_geT (by omega) (by omega)) ?_
    exact hx σ1 h1
  | j + 1, k, hk, σ1, h1, hx => by
    have ho1 := mD_n h1 (by decide) ho
    have ga1 := h1.2.1
    have gb1 := mD_n h1 (by decide) gb
    refine w_I f280_18 rfl ?_
    refine w_K f280_19 ?_
    refine w_icF f280_22 rfl (c_geF (by omega) (by omega)) ?_
    refine w_A f280_25 l0 ?_
    refine w_gf f280_26 ho1 (mo.2.2.2.2.1) ?_
    refine w_K f280_29 ?_
    refine w_I f280_32 l1 ?_
    refine w_mul f280_33 ?_
    refine w_I f280_34 rfl ?_
    refine w_add f280_35 ?_
    refine w_A f280_36 l0 ?_
    refine w_gf f280_37 ho1 (mo.2.2.1) ?_
    refine w_I f280_40 rfl ?_
    refine w_il f280_41 gb1 rfl rfl (by omega) (by decide) ?_
    refine w_ist f280_42 ga1 (by omega) (by decide) ?_
    rw [cp_sg (lo := 374 * q) (off := 0) (k := k) (i := ((374 * q) + k)) (j := k) (by omega) (by omega)]
    refine w_incr f280_43 hd ?_
    refine w_go f280_46 rfl ?_
    exact l280_18 hd l0 l1 ho mo hq ga gb j (k + 1) (by omega) _ (mD_put h1) hx
theorem l280_51 {L : Nat} {xs : Nat → Int32} {Post : Option Value → iv_H → Prop} {d : Nat} {σ : iv_H} {fs : List Value} {f s : Nat → Int64} {q : Nat} {lvr : iv_L} (hd : iv_d1 2 lvr = lvr) (l0 : iv_f1 lvr 0 = some (.ref 548)) (l1 : iv_f1 lvr 1 = some (.int (Int32.ofNat q))) (ho : iv_get σ 548 = some (.inr (12, fs))) (mo : mO fs) (hq : q ≤ 1) (ga : iv_get σ 566 = some (.inl (1, 26, .inr (.inl f)))) (gb : iv_get σ 562 = some (.inl (1, 13, .inr (.inl s)))) : ∀ (j k : Nat), k + j = 13 → ∀ σ1, mD σ σ1 566 (.inl (1, 26, .inr (.inl (va_cpy s f 0 (13 * q) k)))) → (∀ σ2, mD σ σ2 566 (.inl (1, 26, .inr (.inl (va_cpy s f 0 (13 * q) 13)))) → zGo L xs Post [] d 280 80 ((2, .int (Int32.ofNat 13)) :: lvr) [] σ2) → zGo L xs Post [] d 280 51 ((2, .int (Int32.ofNat k)) :: lvr) [] σ1
  | 0, k, hk, σ1, h1, hx => by
    obtain rfl : k = 13 := by omega
    refine w_I f280_51 rfl ?_
    refine w_K f280_52 ?_
    refine w_icT f280_54 rfl (c_geT (by omega) (by omega)) ?_
    exact hx σ1 h1
  | j + 1, k, hk, σ1, h1, hx => by
    have ho1 := mD_n h1 (by decide) ho
    have ga1 := h1.2.1
    have gb1 := mD_n h1 (by decide) gb
    refine w_I f280_51 rfl ?_
    refine w_K f280_52 ?_
    refine w_icF f280_54 rfl (c_geF (by omega) (by omega)) ?_
    refine w_A f280_57 l0 ?_
    refine w_gf f280_58 ho1 (mo.2.2.2.2.2.2.2.2.2.1) ?_
    refine w_K f280_61 ?_
    refine w_I f280_63 l1 ?_
    refine w_mul f280_64 ?_
    refine w_I f280_65 rfl ?_
    refine w_add f280_66 ?_
    refine w_A f280_67 l0 ?_
    refine w_gf f280_68 ho1 (mo.2.2.2.2.2.2.2.1) ?_
    refine w_I f280_71 rfl ?_
    refine w_jl f280_72 gb1 (by omega) (by decide) ?_
    refine w_jst f280_73 ga1 (by omega) (by decide) ?_
    rw [cp_sgL (lo := 13 * q) (off := 0) (k := k) (i := ((13 * q) + k)) (j := k) (by omega) (by omega)]
    refine w_incr f280_74 hd ?_
    refine w_go f280_77 rfl ?_
    exact l280_51 hd l0 l1 ho mo hq ga gb j (k + 1) (by omega) _ (mD_put h1) hx
theorem l281_27 {L : Nat} {xs : Nat → Int32} {Post : Option Value → iv_H → Prop} {d : Nat} {σ : iv_H} {fs : List Value} {f s : Nat → Int32} {q : Nat} {lvr : iv_L} (hd : iv_d1 2 lvr = lvr) (l0 : iv_f1 lvr 0 = some (.ref 548)) (l1 : iv_f1 lvr 1 = some (.int (Int32.ofNat q))) (ho : iv_get σ 548 = some (.inr (12, fs))) (mo : mO fs) (hq : q ≤ 1) (ga : iv_get σ 552 = some (.inl (0, 374, .inl f))) (gb : iv_get σ 556 = some (.inl (0, 748, .inl s))) : ∀ (j k : Nat), k + j = 374 → ∀ σ1, mD σ σ1 552 (.inl (0, 374, .inl (va_cpy s f (374 * q) 0 k))) → (∀ σ2, mD σ σ2 552 (.inl (0, 374, .inl (va_cpy s f (374 * q) 0 374))) → zGo L xs Post [] d 281 58 ((2, .int (Int32.ofNat 374)) :: lvr) [] σ2) → zGo L xs Post [] d 281 27 ((2, .int (Int32.ofNat k)) :: lvr) [] σ1
  | 0, k, hk, σ1, h1, hx => by
    obtain rfl : k = 374 := by omega
    refine w_I f281_27 rfl ?_
    refine w_K f281_28 ?_
    refine w_icT f281_31 rfl (c_geT (by omega) (by omega)) ?_
    exact hx σ1 h1
  | j + 1, k, hk, σ1, h1, hx => by
    have ho1 := mD_n h1 (by decide) ho
    have ga1 := h1.2.1
    have gb1 := mD_n h1 (by decide) gb
    refine w_I f281_27 rfl ?_
    refine w_K f281_28 ?_
    refine w_icF f281_31 rfl (c_geF (by omega) (by omega)) ?_
    refine w_A f281_34 l0 ?_
    refine w_gf f281_35 ho1 (mo.2.2.1) ?_
    refine w_I f281_38 rfl ?_
    refine w_A f281_39 l0 ?_
    refine w_gf f281_40 ho1 (mo.2.2.2.2.1) ?_
    refine w_K f281_43 ?_
    refine w_I f281_46 l1 ?_
    refine w_mul f281_47 ?_
    refine w_I f281_48 rfl ?_
    refine w_add f281_49 ?_
    refine w_il f281_50 gb1 rfl rfl (by omega) (by decide) ?_
    refine w_ist f281_51 ga1 (by omega) (by decide) ?_
    rw [cp_sg (lo := 0) (off := 374 * q) (k := k) (i := k) (j := ((374 * q) + k)) (by omega) (by omega)]
    refine w_incr f281_52 hd ?_
    refine w_go f281_55 rfl ?_
    exact l281_27 hd l0 l1 ho mo hq ga gb j (k + 1) (by omega) _ (mD_put h1) hx
theorem l281_60 {L : Nat} {xs : Nat → Int32} {Post : Option Value → iv_H → Prop} {d : Nat} {σ : iv_H} {fs : List Value} {f s : Nat → Int64} {q : Nat} {lvr : iv_L} (hd : iv_d1 2 lvr = lvr) (l0 : iv_f1 lvr 0 = some (.ref 548)) (l1 : iv_f1 lvr 1 = some (.int (Int32.ofNat q))) (ho : iv_get σ 548 = some (.inr (12, fs))) (mo : mO fs) (hq : q ≤ 1) (ga : iv_get σ 562 = some (.inl (1, 13, .inr (.inl f)))) (gb : iv_get σ 566 = some (.inl (1, 26, .inr (.inl s)))) : ∀ (j k : Nat), k + j = 13 → ∀ σ1, mD σ σ1 562 (.inl (1, 13, .inr (.inl (va_cpy s f (13 * q) 0 k)))) → (∀ σ2, mD σ σ2 562 (.inl (1, 13, .inr (.inl (va_cpy s f (13 * q) 0 13)))) → zGo L xs Post [] d 281 89 ((2, .int (Int32.ofNat 13)) :: lvr) [] σ2) → zGo L xs Post [] d 281 60 ((2, .int (Int32.ofNat k)) :: lvr) [] σ1
  | 0, k, hk, σ1, h1, hx => by
    obtain rfl : k = 13 := by omega
    refine w_I f281_60 rfl ?_
    refine w_K f281_61 ?_
    refine w_icT f281_63 rfl (c_geT (by omega) (by omega)) ?_
    exact hx σ1 h1
  | j + 1, k, hk, σ1, h1, hx => by
    have ho1 := mD_n h1 (by decide) ho
    have ga1 := h1.2.1
    have gb1 := mD_n h1 (by decide) gb
    refine w_I f281_60 rfl ?_
    refine w_K f281_61 ?_
    refine w_icF f281_63 rfl (c_geF (by omega) (by omega)) ?_
    refine w_A f281_66 l0 ?_
    refine w_gf f281_67 ho1 (mo.2.2.2.2.2.2.2.1) ?_
    refine w_I f281_70 rfl ?_
    refine w_A f281_71 l0 ?_
    refine w_gf f281_72 ho1 (mo.2.2.2.2.2.2.2.2.2.1) ?_
    refine w_K f281_75 ?_
    refine w_I f281_77 l1 ?_
    refine w_mul f281_78 ?_
    refine w_I f281_79 rfl ?_
    refine w_add f281_80 ?_
    refine w_jl f281_81 gb1 (by omega) (by decide) ?_
    refine w_jst f281_82 ga1 (by omega) (by decide) ?_
    rw [cp_sgL (lo := 0) (off := 13 * q) (k := k) (i := k) (j := ((13 * q) + k)) (by omega) (by omega)]
    refine w_incr f281_83 hd ?_
    refine w_go f281_86 rfl ?_
    exact l281_60 hd l0 l1 ho mo hq ga gb j (k + 1) (by omega) _ (mD_put h1) hx
