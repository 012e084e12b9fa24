/-! ===== the reference reads a sentence ===== -/
set_option maxRecDepth 100000 in
theorem y259_0 : iv_f1 (iv_p 259) 0 = some (.inl (iv_oA 0 1)) := rfl
set_option maxRecDepth 100000 in
theorem y259_1 : iv_f1 (iv_p 259) 1 = some (.inr (.inr (6, 173, 0, 12))) := rfl
set_option maxRecDepth 100000 in
theorem y259_4 : iv_f1 (iv_p 259) 4 = some (.inl (iv_oIf .ne (9))) := rfl
set_option maxRecDepth 100000 in
theorem y259_7 : iv_f1 (iv_p 259) 7 = some (.inl (iv_oA 0 1)) := rfl
set_option maxRecDepth 100000 in
theorem y259_8 : iv_f1 (iv_p 259) 8 = some (.inl (iv_oK (.int (Int32.ofNat 1)) 1)) := rfl
set_option maxRecDepth 100000 in
theorem y259_9 : iv_f1 (iv_p 259) 9 = some (.inr (.inr (6, 174, 1, 12))) := rfl
set_option maxRecDepth 100000 in
theorem y259_12 : iv_f1 (iv_p 259) 12 = some (.inr (.inl 2)) := rfl
set_option maxRecDepth 100000 in
theorem y259_13 : iv_f1 (iv_p 259) 13 = some (.inl (iv_oA 0 1)) := rfl
set_option maxRecDepth 100000 in
theorem y259_14 : iv_f1 (iv_p 259) 14 = some (.inl (iv_oA 0 1)) := rfl
set_option maxRecDepth 100000 in
theorem y259_15 : iv_f1 (iv_p 259) 15 = some (.inl (iv_oGF 12 19)) := rfl
set_option maxRecDepth 100000 in
theorem y259_18 : iv_f1 (iv_p 259) 18 = some (.inl (iv_oI 1 1)) := rfl
set_option maxRecDepth 100000 in
theorem y259_19 : iv_f1 (iv_p 259) 19 = some (.inl (iv_oI 2 1)) := rfl
set_option maxRecDepth 100000 in
theorem y259_20 : iv_f1 (iv_p 259) 20 = some (.inl (iv_oA 0 1)) := rfl
set_option maxRecDepth 100000 in
theorem y259_21 : iv_f1 (iv_p 259) 21 = some (.inl (iv_oGF 12 12)) := rfl
set_option maxRecDepth 100000 in
theorem y259_24 : iv_f1 (iv_p 259) 24 = some (.inr (.inr (4, 181, 4, 0))) := rfl
set_option maxRecDepth 100000 in
theorem y259_27 : iv_f1 (iv_p 259) 27 = some (.inl (iv_oPF 12 13 .int)) := rfl
set_option maxRecDepth 100000 in
theorem y259_30 : iv_f1 (iv_p 259) 30 = some (.inl (iv_oA 0 1)) := rfl
set_option maxRecDepth 100000 in
theorem y259_31 : iv_f1 (iv_p 259) 31 = some (.inl (iv_oGF 12 13)) := rfl
set_option maxRecDepth 100000 in
theorem y259_34 : iv_f1 (iv_p 259) 34 = some (.inl (iv_oK (.int (Int32.ofInt (-1))) 1)) := rfl
set_option maxRecDepth 100000 in
theorem y259_35 : iv_f1 (iv_p 259) 35 = some (.inl (iv_oIc .ne (9))) := rfl
set_option maxRecDepth 100000 in
theorem y259_38 : iv_f1 (iv_p 259) 38 = some (.inl (iv_oA 0 1)) := rfl
set_option maxRecDepth 100000 in
theorem y259_39 : iv_f1 (iv_p 259) 39 = some (.inl (iv_oK (.int (Int32.ofNat 3)) 1)) := rfl
set_option maxRecDepth 100000 in
theorem y259_40 : iv_f1 (iv_p 259) 40 = some (.inr (.inr (6, 174, 1, 12))) := rfl
set_option maxRecDepth 100000 in
theorem y259_43 : iv_f1 (iv_p 259) 43 = some (.inr (.inl 2)) := rfl
set_option maxRecDepth 100000 in
theorem y259_44 : iv_f1 (iv_p 259) 44 = some (.inl (iv_oA 0 1)) := rfl
set_option maxRecDepth 100000 in
theorem y259_45 : iv_f1 (iv_p 259) 45 = some (.inr (.inr (6, 168, 0, 12))) := rfl
set_option maxRecDepth 100000 in
theorem y259_48 : iv_f1 (iv_p 259) 48 = some (.inl (iv_oK (.int (Int32.ofNat 1)) 1)) := rfl
set_option maxRecDepth 100000 in
theorem y259_49 : iv_f1 (iv_p 259) 49 = some (.inr (.inl 2)) := rfl
set_option maxRecDepth 100000 in
theorem y261_0 : iv_f1 (iv_p 261) 0 = some (.inl (iv_oA 0 1)) := rfl
set_option maxRecDepth 100000 in
theorem y261_1 : iv_f1 (iv_p 261) 1 = some (.inl (iv_oK (.int (Int32.ofNat 7)) 2)) := rfl
set_option maxRecDepth 100000 in
theorem y261_3 : iv_f1 (iv_p 261) 3 = some (.inl (iv_oA 0 1)) := rfl
set_option maxRecDepth 100000 in
theorem y261_4 : iv_f1 (iv_p 261) 4 = some (.inl (iv_oGF 12 14)) := rfl
set_option maxRecDepth 100000 in
theorem y261_7 : iv_f1 (iv_p 261) 7 = some (.inl (iv_oK (.int (Int32.ofNat 1)) 1)) := rfl
set_option maxRecDepth 100000 in
theorem y261_8 : iv_f1 (iv_p 261) 8 = some (.inl iv_oIl) := rfl
set_option maxRecDepth 100000 in
theorem y261_9 : iv_f1 (iv_p 261) 9 = some (.inr (.inr (6, 259, 2, 12))) := rfl
set_option maxRecDepth 100000 in
theorem y261_12 : iv_f1 (iv_p 261) 12 = some (.inr (.inl 2)) := rfl
set_option maxRecDepth 100000 in
theorem y269_0 : iv_f1 (iv_p 269) 0 = some (.inl (iv_oK (.int (Int32.ofNat 4)) 1)) := rfl
set_option maxRecDepth 100000 in
theorem y269_1 : iv_f1 (iv_p 269) 1 = some (.inl (iv_oA 0 1)) := rfl
set_option maxRecDepth 100000 in
theorem y269_2 : iv_f1 (iv_p 269) 2 = some (.inl (iv_oGF 12 45)) := rfl
set_option maxRecDepth 100000 in
theorem y269_5 : iv_f1 (iv_p 269) 5 = some (.inl (iv_oII fun x y => x * y)) := rfl
set_option maxRecDepth 100000 in
theorem y269_6 : iv_f1 (iv_p 269) 6 = some (.inl (iv_oIS 5 2)) := rfl
set_option maxRecDepth 100000 in
theorem y269_8 : iv_f1 (iv_p 269) 8 = some (.inl (iv_oA 0 1)) := rfl
set_option maxRecDepth 100000 in
theorem y269_9 : iv_f1 (iv_p 269) 9 = some (.inl (iv_oGF 12 44)) := rfl
set_option maxRecDepth 100000 in
theorem y269_12 : iv_f1 (iv_p 269) 12 = some (.inl (iv_oI 5 2)) := rfl
set_option maxRecDepth 100000 in
theorem y269_14 : iv_f1 (iv_p 269) 14 = some (.inl (iv_oI 1 1)) := rfl
set_option maxRecDepth 100000 in
theorem y269_15 : iv_f1 (iv_p 269) 15 = some (.inl iv_oIst) := rfl
set_option maxRecDepth 100000 in
theorem y269_16 : iv_f1 (iv_p 269) 16 = some (.inl (iv_oA 0 1)) := rfl
set_option maxRecDepth 100000 in
theorem y269_17 : iv_f1 (iv_p 269) 17 = some (.inl (iv_oGF 12 44)) := rfl
set_option maxRecDepth 100000 in
theorem y269_20 : iv_f1 (iv_p 269) 20 = some (.inl (iv_oI 5 2)) := rfl
set_option maxRecDepth 100000 in
theorem y269_22 : iv_f1 (iv_p 269) 22 = some (.inl (iv_oK (.int (Int32.ofNat 1)) 1)) := rfl
set_option maxRecDepth 100000 in
theorem y269_23 : iv_f1 (iv_p 269) 23 = some (.inl (iv_oII fun x y => x + y)) := rfl
set_option maxRecDepth 100000 in
theorem y269_24 : iv_f1 (iv_p 269) 24 = some (.inl (iv_oI 2 1)) := rfl
set_option maxRecDepth 100000 in
theorem y269_25 : iv_f1 (iv_p 269) 25 = some (.inl iv_oIst) := rfl
set_option maxRecDepth 100000 in
theorem y269_26 : iv_f1 (iv_p 269) 26 = some (.inl (iv_oA 0 1)) := rfl
set_option maxRecDepth 100000 in
theorem y269_27 : iv_f1 (iv_p 269) 27 = some (.inl (iv_oGF 12 44)) := rfl
set_option maxRecDepth 100000 in
theorem y269_30 : iv_f1 (iv_p 269) 30 = some (.inl (iv_oI 5 2)) := rfl
set_option maxRecDepth 100000 in
theorem y269_32 : iv_f1 (iv_p 269) 32 = some (.inl (iv_oK (.int (Int32.ofNat 2)) 1)) := rfl
set_option maxRecDepth 100000 in
theorem y269_33 : iv_f1 (iv_p 269) 33 = some (.inl (iv_oII fun x y => x + y)) := rfl
set_option maxRecDepth 100000 in
theorem y269_34 : iv_f1 (iv_p 269) 34 = some (.inl (iv_oI 3 1)) := rfl
set_option maxRecDepth 100000 in
theorem y269_35 : iv_f1 (iv_p 269) 35 = some (.inl iv_oIst) := rfl
set_option maxRecDepth 100000 in
theorem y269_36 : iv_f1 (iv_p 269) 36 = some (.inl (iv_oA 0 1)) := rfl
set_option maxRecDepth 100000 in
theorem y269_37 : iv_f1 (iv_p 269) 37 = some (.inl (iv_oGF 12 44)) := rfl
set_option maxRecDepth 100000 in
theorem y269_40 : iv_f1 (iv_p 269) 40 = some (.inl (iv_oI 5 2)) := rfl
set_option maxRecDepth 100000 in
theorem y269_42 : iv_f1 (iv_p 269) 42 = some (.inl (iv_oK (.int (Int32.ofNat 3)) 1)) := rfl
set_option maxRecDepth 100000 in
theorem y269_43 : iv_f1 (iv_p 269) 43 = some (.inl (iv_oII fun x y => x + y)) := rfl
set_option maxRecDepth 100000 in
theorem y269_44 : iv_f1 (iv_p 269) 44 = some (.inl (iv_oI 4 2)) := rfl
set_option maxRecDepth 100000 in
theorem y269_46 : iv_f1 (iv_p 269) 46 = some (.inl iv_oIst) := rfl
set_option maxRecDepth 100000 in
theorem y269_47 : iv_f1 (iv_p 269) 47 = some (.inl (iv_oA 0 1)) := rfl
set_option maxRecDepth 100000 in
theorem y269_48 : iv_f1 (iv_p 269) 48 = some (.inl iv_oDup) := rfl
set_option maxRecDepth 100000 in
theorem y269_49 : iv_f1 (iv_p 269) 49 = some (.inl (iv_oGF 12 45)) := rfl
set_option maxRecDepth 100000 in
theorem y269_52 : iv_f1 (iv_p 269) 52 = some (.inl (iv_oK (.int (Int32.ofNat 1)) 1)) := rfl
set_option maxRecDepth 100000 in
theorem y269_53 : iv_f1 (iv_p 269) 53 = some (.inl (iv_oII fun x y => x + y)) := rfl
set_option maxRecDepth 100000 in
theorem y269_54 : iv_f1 (iv_p 269) 54 = some (.inl (iv_oPF 12 45 .int)) := rfl
set_option maxRecDepth 100000 in
theorem y269_57 : iv_f1 (iv_p 269) 57 = some (.inl (iv_oA 0 1)) := rfl
set_option maxRecDepth 100000 in
theorem y269_58 : iv_f1 (iv_p 269) 58 = some (.inl (iv_oGF 12 45)) := rfl
set_option maxRecDepth 100000 in
theorem y269_61 : iv_f1 (iv_p 269) 61 = some (.inl (iv_oK (.int (Int32.ofNat 1)) 1)) := rfl
set_option maxRecDepth 100000 in
theorem y269_62 : iv_f1 (iv_p 269) 62 = some (.inl (iv_oII fun x y => x - y)) := rfl
set_option maxRecDepth 100000 in
theorem y269_63 : iv_f1 (iv_p 269) 63 = some (.inr (.inl 1)) := rfl
set_option maxRecDepth 100000 in
theorem y275_0 : iv_f1 (iv_p 275) 0 = some (.inl (iv_oA 0 1)) := rfl
set_option maxRecDepth 100000 in
theorem y275_1 : iv_f1 (iv_p 275) 1 = some (.inr (.inr (6, 261, 0, 12))) := rfl
set_option maxRecDepth 100000 in
theorem y275_4 : iv_f1 (iv_p 275) 4 = some (.inl (iv_oIf .ne (5))) := rfl
set_option maxRecDepth 100000 in
theorem y275_7 : iv_f1 (iv_p 275) 7 = some (.inl (iv_oK (.int (Int32.ofNat 0)) 1)) := rfl
set_option maxRecDepth 100000 in
theorem y275_8 : iv_f1 (iv_p 275) 8 = some (.inr (.inl 2)) := rfl
set_option maxRecDepth 100000 in
theorem y275_9 : iv_f1 (iv_p 275) 9 = some (.inl (iv_oA 0 1)) := rfl
set_option maxRecDepth 100000 in
theorem y275_10 : iv_f1 (iv_p 275) 10 = some (.inl (iv_oA 0 1)) := rfl
set_option maxRecDepth 100000 in
theorem y275_11 : iv_f1 (iv_p 275) 11 = some (.inl (iv_oK (.int (Int32.ofNat 50)) 2)) := rfl
set_option maxRecDepth 100000 in
theorem y275_13 : iv_f1 (iv_p 275) 13 = some (.inl (iv_oI 1 1)) := rfl
set_option maxRecDepth 100000 in
theorem y275_14 : iv_f1 (iv_p 275) 14 = some (.inl (iv_oII fun x y => x + y)) := rfl
set_option maxRecDepth 100000 in
theorem y275_15 : iv_f1 (iv_p 275) 15 = some (.inl (iv_oA 0 1)) := rfl
set_option maxRecDepth 100000 in
theorem y275_16 : iv_f1 (iv_p 275) 16 = some (.inl (iv_oGF 12 13)) := rfl
set_option maxRecDepth 100000 in
theorem y275_19 : iv_f1 (iv_p 275) 19 = some (.inl (iv_oK (.int (Int32.ofNat 0)) 1)) := rfl
set_option maxRecDepth 100000 in
theorem y275_20 : iv_f1 (iv_p 275) 20 = some (.inl (iv_oK (.int (Int32.ofNat 0)) 1)) := rfl
set_option maxRecDepth 100000 in
theorem y275_21 : iv_f1 (iv_p 275) 21 = some (.inr (.inr (6, 269, 4, 12))) := rfl
set_option maxRecDepth 100000 in
theorem y275_24 : iv_f1 (iv_p 275) 24 = some (.inl (iv_oPF 12 48 .int)) := rfl
set_option maxRecDepth 100000 in
theorem y275_27 : iv_f1 (iv_p 275) 27 = some (.inl (iv_oK (.int (Int32.ofNat 1)) 1)) := rfl
set_option maxRecDepth 100000 in
theorem y275_28 : iv_f1 (iv_p 275) 28 = some (.inr (.inl 2)) := rfl
set_option maxRecDepth 100000 in
theorem y276_0 : iv_f1 (iv_p 276) 0 = some (.inl (iv_oA 0 1)) := rfl
set_option maxRecDepth 100000 in
theorem y276_1 : iv_f1 (iv_p 276) 1 = some (.inl (iv_oK (.int (Int32.ofNat 60)) 2)) := rfl
set_option maxRecDepth 100000 in
theorem y276_3 : iv_f1 (iv_p 276) 3 = some (.inr (.inr (6, 172, 1, 12))) := rfl
set_option maxRecDepth 100000 in
theorem y276_6 : iv_f1 (iv_p 276) 6 = some (.inl (iv_oIf .ne (27))) := rfl
set_option maxRecDepth 100000 in
theorem y276_9 : iv_f1 (iv_p 276) 9 = some (.inl (iv_oA 0 1)) := rfl
set_option maxRecDepth 100000 in
theorem y276_10 : iv_f1 (iv_p 276) 10 = some (.inl (iv_oK (.int (Int32.ofNat 61)) 2)) := rfl
set_option maxRecDepth 100000 in
theorem y276_12 : iv_f1 (iv_p 276) 12 = some (.inr (.inr (6, 172, 1, 12))) := rfl
set_option maxRecDepth 100000 in
theorem y276_15 : iv_f1 (iv_p 276) 15 = some (.inl (iv_oIf .ne (18))) := rfl
set_option maxRecDepth 100000 in
theorem y276_18 : iv_f1 (iv_p 276) 18 = some (.inl (iv_oA 0 1)) := rfl
set_option maxRecDepth 100000 in
theorem y276_19 : iv_f1 (iv_p 276) 19 = some (.inl (iv_oK (.int (Int32.ofNat 62)) 2)) := rfl
set_option maxRecDepth 100000 in
theorem y276_21 : iv_f1 (iv_p 276) 21 = some (.inr (.inr (6, 172, 1, 12))) := rfl
set_option maxRecDepth 100000 in
theorem y276_24 : iv_f1 (iv_p 276) 24 = some (.inl (iv_oIf .ne (9))) := rfl
set_option maxRecDepth 100000 in
theorem y276_27 : iv_f1 (iv_p 276) 27 = some (.inl (iv_oA 0 1)) := rfl
set_option maxRecDepth 100000 in
theorem y276_28 : iv_f1 (iv_p 276) 28 = some (.inl (iv_oK (.int (Int32.ofNat 1)) 1)) := rfl
set_option maxRecDepth 100000 in
theorem y276_29 : iv_f1 (iv_p 276) 29 = some (.inr (.inr (6, 174, 1, 12))) := rfl
set_option maxRecDepth 100000 in
theorem y276_32 : iv_f1 (iv_p 276) 32 = some (.inr (.inl 2)) := rfl
set_option maxRecDepth 100000 in
theorem y276_33 : iv_f1 (iv_p 276) 33 = some (.inl (iv_oA 0 1)) := rfl
set_option maxRecDepth 100000 in
theorem y276_34 : iv_f1 (iv_p 276) 34 = some (.inl (iv_oGF 12 9)) := rfl
set_option maxRecDepth 100000 in
theorem y276_37 : iv_f1 (iv_p 276) 37 = some (.inl (iv_oIS 2 1)) := rfl
set_option maxRecDepth 100000 in
theorem y276_38 : iv_f1 (iv_p 276) 38 = some (.inl (iv_oA 0 1)) := rfl
set_option maxRecDepth 100000 in
theorem y276_39 : iv_f1 (iv_p 276) 39 = some (.inr (.inr (6, 168, 0, 12))) := rfl
set_option maxRecDepth 100000 in
theorem y276_42 : iv_f1 (iv_p 276) 42 = some (.inl (iv_oA 0 1)) := rfl
set_option maxRecDepth 100000 in
theorem y276_43 : iv_f1 (iv_p 276) 43 = some (.inl (iv_oK (.int (Int32.ofNat 0)) 1)) := rfl
set_option maxRecDepth 100000 in
theorem y276_44 : iv_f1 (iv_p 276) 44 = some (.inl (iv_oK (.int (Int32.ofNat 999)) 3)) := rfl
set_option maxRecDepth 100000 in
theorem y276_47 : iv_f1 (iv_p 276) 47 = some (.inr (.inr (6, 175, 2, 12))) := rfl
set_option maxRecDepth 100000 in
theorem y276_50 : iv_f1 (iv_p 276) 50 = some (.inl (iv_oIf .ne (5))) := rfl
set_option maxRecDepth 100000 in
theorem y276_53 : iv_f1 (iv_p 276) 53 = some (.inl (iv_oK (.int (Int32.ofNat 0)) 1)) := rfl
set_option maxRecDepth 100000 in
theorem y276_54 : iv_f1 (iv_p 276) 54 = some (.inr (.inl 2)) := rfl
set_option maxRecDepth 100000 in
theorem y276_55 : iv_f1 (iv_p 276) 55 = some (.inl (iv_oA 0 1)) := rfl
set_option maxRecDepth 100000 in
theorem y276_56 : iv_f1 (iv_p 276) 56 = some (.inl (iv_oA 0 1)) := rfl
set_option maxRecDepth 100000 in
theorem y276_57 : iv_f1 (iv_p 276) 57 = some (.inl (iv_oK (.int (Int32.ofNat 50)) 2)) := rfl
set_option maxRecDepth 100000 in
theorem y276_59 : iv_f1 (iv_p 276) 59 = some (.inl (iv_oI 1 1)) := rfl
set_option maxRecDepth 100000 in
theorem y276_60 : iv_f1 (iv_p 276) 60 = some (.inl (iv_oII fun x y => x + y)) := rfl
set_option maxRecDepth 100000 in
theorem y276_61 : iv_f1 (iv_p 276) 61 = some (.inl (iv_oK (.int (Int32.ofNat 0)) 1)) := rfl
set_option maxRecDepth 100000 in
theorem y276_62 : iv_f1 (iv_p 276) 62 = some (.inl (iv_oA 0 1)) := rfl
set_option maxRecDepth 100000 in
theorem y276_63 : iv_f1 (iv_p 276) 63 = some (.inl (iv_oGF 12 13)) := rfl
set_option maxRecDepth 100000 in
theorem y276_66 : iv_f1 (iv_p 276) 66 = some (.inl (iv_oI 2 1)) := rfl
set_option maxRecDepth 100000 in
theorem y276_67 : iv_f1 (iv_p 276) 67 = some (.inr (.inr (6, 269, 4, 12))) := rfl
set_option maxRecDepth 100000 in
theorem y276_70 : iv_f1 (iv_p 276) 70 = some (.inl (iv_oPF 12 48 .int)) := rfl
set_option maxRecDepth 100000 in
theorem y276_73 : iv_f1 (iv_p 276) 73 = some (.inl (iv_oK (.int (Int32.ofNat 1)) 1)) := rfl
set_option maxRecDepth 100000 in
theorem y276_74 : iv_f1 (iv_p 276) 74 = some (.inr (.inl 2)) := rfl
theorem ym_fj1 {L : Nat} {xs : Nat → Int32} {d : Nat} {σ : iv_H} {f : Nat → Int64} {w : Int64} {base many : Nat} (hb : base + many ≤ 13) (g : iv_get σ 562 = some (yaj 13 f)) : ∀ (j k : Nat) (lv : iv_L), k + j = many → iv_f1 lv 0 = some (.ref 562) → iv_f1 lv 1 = some (.int (Int32.ofNat base)) → iv_f1 lv 2 = some (.int (Int32.ofNat many)) → iv_f1 lv 3 = some (.long w) → iv_f1 lv 5 = some (.int (Int32.ofNat k)) → zGo L xs (fun r σ1 => r = some (.int (yo (yfi (fun i => f (base + i)) w j k))) ∧ σ1 = σ) [] d 181 3 lv [] σ := by
  intro j
  induction j with
  | zero =>
    intro k lv hj l0 l1 l2 l3 l5
    refine w_I y181_3 l5 ?_
    refine w_I y181_5 l2 ?_
    refine y_icT y181_6 rfl (by omega) (by omega) (by simp only [zch]; omega) ?_
    refine w_K y181_29 ?_
    exact y_ret y181_30 rfl ⟨rfl, rfl⟩
  | succ j ih =>
    intro k lv hj l0 l1 l2 l3 l5
    refine w_I y181_3 l5 ?_
    refine w_I y181_5 l2 ?_
    refine y_icF y181_6 rfl (by omega) (by omega) (by simp only [zch]; omega) ?_
    refine w_A y181_9 l0 ?_
    refine w_I y181_10 l1 ?_
    refine w_I y181_11 l5 ?_
    refine w_add y181_13 ?_
    refine y_jl y181_14 g (by omega) (by decide) ?_
    refine w_J y181_15 l3 ?_
    refine w_cmp y181_16 ?_
    by_cases e24 : (f (base + k)) = w
    · skip
      refine w_ifF y181_17 rfl (lg_eq e24) ?_
      refine w_I y181_20 l5 ?_
      exact y_ret y181_22 rfl ⟨by rw [show yfi (fun i => f (base + i)) w (j + 1) k = some k from if_pos e24]; rfl, rfl⟩
    · skip
      refine w_ifT y181_17 rfl (lg_ne e24) ?_
      refine w_inc y181_23 (x := k) l5 ?_
      refine w_go y181_26 rfl ?_
      rw [show yfi (fun i => f (base + i)) w (j + 1) k = yfi (fun i => f (base + i)) w j (k + 1) from if_neg e24]
      exact ih (k + 1) _ (by omega) (y_l1 rfl rfl l0) (y_l1 rfl rfl l1) (y_l1 rfl rfl l2) (y_l1 rfl rfl l3) y_l0
theorem ym_fj {L : Nat} {xs : Nat → Int32} {d : Nat} {σ : iv_H} {f : Nat → Int64} {w : Int64} {base many : Nat} (hb : base + many ≤ 13) (g : iv_get σ 562 = some (yaj 13 f)) : iv_Rn L xs d 181 0 (lv_args 0 [.ref 562, .int (Int32.ofNat base), .int (Int32.ofNat many), .long w]) [] σ (some (.int (yo (yfi (fun i => f (base + i)) w many 0)))) σ := by
  refine y_Rp ?_
  refine w_K y181_0 ?_
  refine w_IS y181_1 ?_
  exact ym_fj1 hb g many 0 _ (by omega) rfl rfl rfl rfl rfl
section SN
variable {L : Nat} {xs : Nat → Int32} {d : Nat} {T : Nat → Nat} {n m p : Nat} {Nm : Nat → Int64} {ng o w nd : Nat} {σ : iv_H}
theorem ym_so {a b c r : Int32} (hnd : nd ≤ 59) (h : yR T n m p Nm ng o w nd σ) : ∃ x σ1, iv_Rn L xs d 269 0 (lv_args 0 [.ref 548, .int a, .int b, .int c, .int r]) [] σ (some (.int x)) σ1 ∧ yR T n m p Nm ng o w (nd + 1) σ1 := by
  refine y_RnE ?_
  refine w_K y269_0 ?_
  refine w_A y269_1 rfl ?_
  refine R_g45 y269_2 h ?_
  refine w_mul y269_5 ?_
  refine w_IS y269_6 ?_
  refine w_A y269_8 rfl ?_
  refine R_g44 y269_9 h ?_
  refine w_I y269_12 rfl ?_
  refine w_I y269_14 rfl ?_
  refine R_st (by omega) y269_15 h (fun σ1 h1 => ?_)
  refine w_A y269_16 rfl ?_
  refine R_g44 y269_17 h1 ?_
  refine w_I y269_20 rfl ?_
  refine w_K y269_22 ?_
  refine w_add y269_23 ?_
  refine w_I y269_24 rfl ?_
  refine R_st (by omega) y269_25 h1 (fun σ2 h2 => ?_)
  refine w_A y269_26 rfl ?_
  refine R_g44 y269_27 h2 ?_
  refine w_I y269_30 rfl ?_
  refine w_K y269_32 ?_
  refine w_add y269_33 ?_
  refine w_I y269_34 rfl ?_
  refine R_st (by omega) y269_35 h2 (fun σ3 h3 => ?_)
  refine w_A y269_36 rfl ?_
  refine R_g44 y269_37 h3 ?_
  refine w_I y269_40 rfl ?_
  refine w_K y269_42 ?_
  refine w_add y269_43 ?_
  refine w_I y269_44 rfl ?_
  refine R_st (by omega) y269_46 h3 (fun σ4 h4 => ?_)
  refine w_A y269_47 rfl ?_
  refine y_dup y269_48 rfl ?_
  refine R_g45 y269_49 h4 ?_
  refine w_K y269_52 ?_
  refine w_add y269_53 ?_
  refine R_p45 y269_54 h4 (fun σ5 h5 => ?_)
  refine w_A y269_57 rfl ?_
  refine R_g45 y269_58 h5 ?_
  refine w_K y269_61 ?_
  refine y_II y269_62 ?_
  exact y_ret y269_63 rfl ⟨_, rfl, h5⟩
theorem R_so {Post : Option Value → iv_H → Prop} {M pc : Nat} {lv : iv_L} {st : List Value} {a b c r : Int32} (hnd : nd ≤ 59) (hf : iv_f1 (iv_p M) pc = some (.inr (.inr (6, 269, 4, 12)))) (hs : Nat.ble (iv_cs st) 8 = true) (h : yR T n m p Nm ng o w nd σ) (k : ∀ (x : Int32) σ1, yR T n m p Nm ng o w (nd + 1) σ1 → zGo L xs Post [] (d + 1) M (pc + 3) lv (.int x :: st) σ1) : zGo L xs Post [] (d + 1) M pc lv (.int r :: .int c :: .int b :: .int a :: .ref 548 :: st) σ := by
  obtain ⟨x, σ1, r1, h1⟩ := ym_so (L := L) (xs := xs) (d := d) (a := a) (b := b) (c := c) (r := r) hnd h
  obtain ⟨s, V, hM, _⟩ := h
  exact y_call hf (y_args6 hM.1 rfl hs) rfl r1 (k x σ1 h1)
/-- a grater's name -/
def yO1b (T : Nat → Nat) (n m p : Nat) (Nm : Nat → Int64) (ng o w nd : Nat) (q : yE Nat) (b : Bool) (σ1 : iv_H) : Prop := match q with
  | .inl e => b = false ∧ yB e σ1
  | .inr _ => b = true ∧ yR T n m p Nm ng o w nd σ1
theorem ym_nmd (hg : ng ≤ 6) (hn : n ≤ 940) (hm : m ≤ 940) (hT : ∀ i, T i ≤ 255) (h : yR T n m p Nm ng o w nd σ) : ∃ b σ1, iv_Rn L xs (d + 3) 259 0 (lv_args 0 [.ref 548, .int (Int32.ofNat 7), .int (Int32.ofNat ng)]) [] σ (some (.int (yb b))) σ1 ∧ yO1b T n m (yto T n m p) Nm ng o w nd (yNmd T n m Nm 7 ng p) b σ1 := by
  refine y_RbE ?_
  refine w_A y259_0 rfl ?_
  refine R_nm y259_1 rfl h ?_
  rcases y_bc (yisN T n m p) with e | e
  · refine w_ifF y259_4 rfl (y_bneF e) ?_
    refine w_A y259_7 rfl ?_
    refine w_K y259_8 ?_
    refine R_bad y259_9 rfl h (fun σ1 h1 => ?_)
    have sp : yNmd T n m Nm 7 ng p = .inl (ybd T n m p 1) := by unfold yNmd; rw [if_neg (by rw [e]; decide)]
    rw [sp]
    exact y_ret y259_12 y_rtb ⟨false, rfl, rfl, h1⟩
  · refine w_ifT y259_4 rfl (y_bneT e) ?_
    obtain ⟨s, V, hM, mo, hv, hN, gM, hD⟩ := id h
    obtain ⟨⟨x12, v12⟩, _⟩ := hM.2.2.2.2.2.2.2.1
    have ew : x12 = yrv T n p := y_wE (yTk_w hM.2.2.2.2.2.2.2.2) v12 e
    refine w_A y259_13 rfl ?_
    refine w_A y259_14 rfl ?_
    refine y_gf y259_15 hM.1 rfl (yO_refs mo).2.1 ?_
    refine w_I y259_18 rfl ?_
    refine w_I y259_19 rfl ?_
    refine w_A y259_20 rfl ?_
    refine y_gf y259_21 hM.1 rfl v12 ?_
    refine y_call y259_24 (y_args4 rfl rfl) rfl (ym_fj (L := L) (xs := xs) (d := d + 2) (f := Nm) (w := x12) (base := 7) (many := ng) (by omega) gM) ?_
    have e13 : (yo (yfi (fun i => Nm (7 + i)) x12 ng 0)) = yo (yfs T n Nm 7 ng p) := by rw [ew]; rfl
    refine y_pf y259_27 hM.1 rfl rfl (fun σ1 m1 => ?_)
    have hM1 := yMR_pf hM m1 rfl
    have h1 : yR T n m p Nm ng o w nd σ1 := by
      obtain ⟨h46, h47, h45, ⟨t, h48⟩, _, h10⟩ := hv
      obtain ⟨N, gN, hN⟩ := hN
      obtain ⟨D, gD⟩ := hD
      exact ⟨s, _, hM1, mO_ag mo (fun j hj => (yA_u (S := [13]) rfl) j (y_disj (by decide) hj)), ⟨h46, h47, h45, ⟨t, h48⟩, ⟨_, rfl⟩, h10⟩, ⟨N, mD_n m1 (by decide) gN, hN⟩, mD_n m1 (by decide) gM, D, mD_n m1 (by decide) gD⟩
    refine w_A y259_30 rfl ?_
    refine y_gf y259_31 m1.2.1 rfl rfl ?_
    refine w_K y259_34 ?_
    cases hq : yfs T n Nm 7 ng p with
    | none =>
      have e2 : (yo (yfi (fun i => Nm (7 + i)) x12 ng 0)) = Int32.ofInt (-1) := by rw [e13, hq]; rfl
      refine w_icF y259_35 rfl (by rw [e2]; decide) ?_
      refine w_A y259_38 rfl ?_
      refine w_K y259_39 ?_
      refine R_bad y259_40 rfl h1 (fun σ2 h2 => ?_)
      have sp : yNmd T n m Nm 7 ng p = .inl (ybd T n m p 3) := by unfold yNmd; rw [if_pos e, hq]
      rw [sp]
      exact y_ret y259_43 y_rtb ⟨false, rfl, rfl, h2⟩
    | some i =>
      have hi := yfi_lt (show yfi (fun i => Nm (7 + i)) (yrv T n p) ng 0 = some i from hq)
      have e2 : (yo (yfi (fun i => Nm (7 + i)) x12 ng 0)) = Int32.ofNat i := by rw [e13, hq]; rfl
      refine w_icT y259_35 rfl (by
        rw [e2]
        have := y_oN (k := i) (by omega)
        simp only [iv_c2]
        exact decide_eq_true this) ?_
      refine w_A y259_44 rfl ?_
      refine R_go hn hm hT y259_45 rfl h1 (fun σ2 h2 => ?_)
      refine w_K y259_48 ?_
      have sp : yNmd T n m Nm 7 ng p = .inr i := by unfold yNmd; rw [if_pos e, hq]
      rw [sp]
      exact y_ret (v := .int (yb true)) y259_49 y_rtb ⟨true, rfl, rfl, h2⟩
theorem ym_gnm (hg : ng ≤ 6) (hn : n ≤ 940) (hm : m ≤ 940) (hT : ∀ i, T i ≤ 255) (h : yR T n m p Nm ng o w nd σ) : ∃ b σ1, iv_Rn L xs (d + 4) 261 0 (lv_args 0 [.ref 548]) [] σ (some (.int (yb b))) σ1 ∧ yO1b T n m (yto T n m p) Nm ng o w nd (yNmd T n m Nm 7 ng p) b σ1 := by
  obtain ⟨b, σ1, r1, h1⟩ := ym_nmd (L := L) (xs := xs) (d := d) hg hn hm hT h
  obtain ⟨s, V, hM, mo, hv, ⟨N, gN, hN⟩, _⟩ := h
  refine y_RbE ?_
  refine w_A y261_0 rfl ?_
  refine w_K y261_1 ?_
  refine w_A y261_3 rfl ?_
  refine y_gf y261_4 hM.1 rfl (yO_refs mo).1 ?_
  refine w_K y261_7 ?_
  refine y_ilE y261_8 gN rfl rfl (by decide) (by decide) hN ?_
  refine y_call y261_9 (y_args6 hM.1 rfl rfl) rfl r1 ?_
  exact y_ret y261_12 y_rtb ⟨b, rfl, h1⟩
/-- with, compare: one more node -/
def yO2 (T : Nat → Nat) (n m : Nat) (Nm : Nat → Int64) (ng o w nd : Nat) (q : yE Nat) (b : Bool) (σ1 : iv_H) : Prop := match q with
  | .inl e => b = false ∧ yB e σ1
  | .inr p => b = true ∧ yR T n m p Nm ng o w (nd + 1) σ1
theorem ym_of {a : Int32} (hnd : nd ≤ 59) (hg : ng ≤ 6) (hn : n ≤ 940) (hm : m ≤ 940) (hT : ∀ i, T i ≤ 255) (h : yR T n m p Nm ng o w nd σ) : ∃ b σ1, iv_Rn L xs (d + 5) 275 0 (lv_args 0 [.ref 548, .int a]) [] σ (some (.int (yb b))) σ1 ∧ yO2 T n m Nm ng o w nd (yThen (yNmd T n m Nm 7 ng p) fun _ => .inr (yto T n m p)) b σ1 := by
  obtain ⟨b, σ1, r1, h1⟩ := ym_gnm (L := L) (xs := xs) (d := d) hg hn hm hT h
  obtain ⟨s, V, hM, _⟩ := h
  refine y_RbE ?_
  refine w_A y275_0 rfl ?_
  refine y_call y275_1 (y_args6 hM.1 rfl rfl) rfl r1 ?_
  cases hq : yNmd T n m Nm 7 ng p with
  | inl e =>
    rw [hq] at h1
    obtain ⟨rfl, h2⟩ := (show b = false ∧ yB e σ1 from h1)
    refine w_ifF y275_4 rfl (y_bneF rfl) ?_
    refine w_K y275_7 ?_
    exact y_ret (v := .int (yb false)) y275_8 y_rtb ⟨false, rfl, rfl, h2⟩
  | inr i =>
    rw [hq] at h1
    obtain ⟨rfl, h2⟩ := (show b = true ∧ yR T n m (yto T n m p) Nm ng o w nd σ1 from h1)
    refine w_ifT y275_4 rfl (y_bneT rfl) ?_
    refine w_A y275_9 rfl ?_
    refine w_A y275_10 rfl ?_
    refine w_K y275_11 ?_
    refine w_I y275_13 rfl ?_
    refine y_II y275_14 ?_
    refine w_A y275_15 rfl ?_
    obtain ⟨s2, V2, hM2, hX2⟩ := id h2
    obtain ⟨_, ⟨_, _, _, _, ⟨y13, v13⟩, _⟩, _⟩ := hX2
    refine y_gf y275_16 hM2.1 rfl v13 ?_
    refine w_K y275_19 ?_
    refine w_K y275_20 ?_
    refine R_so hnd y275_21 rfl h2 (fun x σ2 h3 => ?_)
    refine R_p48 y275_24 h3 (fun σ3 h4 => ?_)
    refine w_K y275_27 ?_
    exact y_ret (v := .int (yb true)) y275_28 y_rtb ⟨true, rfl, rfl, h4⟩
theorem ym_cmp {a : Int32} (hnd : nd ≤ 59) (hn : n ≤ 940) (hm : m ≤ 940) (hT : ∀ i, T i ≤ 255) (h : yR T n m p Nm ng o w nd σ) : ∃ b σ1, iv_Rn L xs (d + 4) 276 0 (lv_args 0 [.ref 548, .int a]) [] σ (some (.int (yb b))) σ1 ∧ yO2 T n m Nm ng o w nd (yCmp T n m p) b σ1 := by
  refine y_RbE ?_
  have good : (yMk T n m p 60 = true ∨ yMk T n m p 61 = true ∨ yMk T n m p 62 = true) → zGo L xs (fun r σ1 => ∃ b, r = some (.int (yb b)) ∧ yO2 T n m Nm ng o w nd (yCmp T n m p) b σ1) [] (d + 4) 276 33 (lv_args 0 [.ref 548, .int a]) [] σ := fun hm3 => by
    have sp : yCmp T n m p = yThen (yNum T n m 0 999 (yto T n m p)) fun q => .inr q.2 := by unfold yCmp; rw [if_pos hm3]
    rw [sp]
    refine w_A y276_33 rfl ?_
    refine R_g9 y276_34 h (fun t => ?_)
    refine w_IS y276_37 ?_
    refine w_A y276_38 rfl ?_
    refine R_go hn hm hT y276_39 rfl h (fun σ1 h1 => ?_)
    refine w_A y276_42 rfl ?_
    refine w_K y276_43 ?_
    refine w_K y276_44 ?_
    refine R_num (by decide) (by decide) hn hm hT y276_47 rfl h1 (fun e σ2 hq h2 => ?_) (fun q σ2 hq h2 => ?_)
    · rw [hq]
      refine w_ifF y276_50 rfl (y_bneF rfl) ?_
      refine w_K y276_53 ?_
      exact y_ret (v := .int (yb false)) y276_54 y_rtb ⟨false, rfl, rfl, h2⟩
    · rw [hq]
      refine w_ifT y276_50 rfl (y_bneT rfl) ?_
      refine w_A y276_55 rfl ?_
      refine w_A y276_56 rfl ?_
      refine w_K y276_57 ?_
      refine w_I y276_59 rfl ?_
      refine y_II y276_60 ?_
      refine w_K y276_61 ?_
      refine w_A y276_62 rfl ?_
      obtain ⟨s2, V2, hM2, hX2⟩ := id h2
      obtain ⟨_, ⟨_, _, _, _, ⟨y13, v13⟩, _⟩, _⟩ := hX2
      refine y_gf y276_63 hM2.1 rfl v13 ?_
      refine w_I y276_66 rfl ?_
      refine R_so hnd y276_67 rfl h2 (fun x σ3 h3 => ?_)
      refine R_p48 y276_70 h3 (fun σ4 h4 => ?_)
      refine w_K y276_73 ?_
      exact y_ret (v := .int (yb true)) y276_74 y_rtb ⟨true, rfl, rfl, h4⟩
  refine w_A y276_0 rfl ?_
  refine w_K y276_1 ?_
  refine R_is hT (by decide) y276_3 rfl h ?_
  rcases y_bc (yMk T n m p 60) with e1 | e1
  · refine w_ifF y276_6 rfl (y_bneF e1) ?_
    refine w_A y276_9 rfl ?_
    refine w_K y276_10 ?_
    refine R_is hT (by decide) y276_12 rfl h ?_
    rcases y_bc (yMk T n m p 61) with e2 | e2
    · refine w_ifF y276_15 rfl (y_bneF e2) ?_
      refine w_A y276_18 rfl ?_
      refine w_K y276_19 ?_
      refine R_is hT (by decide) y276_21 rfl h ?_
      rcases y_bc (yMk T n m p 62) with e3 | e3
      · refine w_ifF y276_24 rfl (y_bneF e3) ?_
        refine w_A y276_27 rfl ?_
        refine w_K y276_28 ?_
        refine R_bad y276_29 rfl h (fun σ1 h1 => ?_)
        have sp : yCmp T n m p = .inl (ybd T n m p 1) := by
          unfold yCmp
          rw [if_neg (by rw [e1, e2, e3]; decide)]
        rw [sp]
        exact y_ret y276_32 y_rtb ⟨false, rfl, rfl, h1⟩
      · exact w_ifT y276_24 rfl (y_bneT e3) (good (.inr (.inr e3)))
    · exact w_ifT y276_15 rfl (y_bneT e2) (good (.inr (.inl e2)))
  · exact w_ifT y276_6 rfl (y_bneT e1) (good (.inl e1))
end SN
