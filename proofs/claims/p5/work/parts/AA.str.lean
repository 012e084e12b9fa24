/-! ===== the methods that read Strings, by hand: Word.stands, Word.at, Tag.addText; MARKS.indexOf ===== -/
theorem f110_0 : iv_f1 (iv_p 110) 0 = some (.inl (iv_oK (.int (Int32.ofNat 0)) 1)) := rfl
theorem f110_1 : iv_f1 (iv_p 110) 1 = some (.inl (iv_oIS 3 1)) := rfl
theorem f110_2 : iv_f1 (iv_p 110) 2 = some (.inl (iv_oI 3 1)) := rfl
theorem f110_3 : iv_f1 (iv_p 110) 3 = some (.inl (iv_oS 103)) := rfl
theorem f110_6 : iv_f1 (iv_p 110) 6 = some (.inl iv_oLen) := rfl
theorem f110_7 : iv_f1 (iv_p 110) 7 = some (.inl (iv_oIc .ge (29))) := rfl
theorem f110_10 : iv_f1 (iv_p 110) 10 = some (.inl (iv_oS 103)) := rfl
theorem f110_13 : iv_f1 (iv_p 110) 13 = some (.inl (iv_oI 3 1)) := rfl
theorem f110_14 : iv_f1 (iv_p 110) 14 = some (.inl iv_oQl) := rfl
theorem f110_15 : iv_f1 (iv_p 110) 15 = some (.inl (iv_oA 0 1)) := rfl
theorem f110_16 : iv_f1 (iv_p 110) 16 = some (.inl (iv_oI 1 1)) := rfl
theorem f110_17 : iv_f1 (iv_p 110) 17 = some (.inl (iv_oI 2 1)) := rfl
theorem f110_18 : iv_f1 (iv_p 110) 18 = some (.inr (.inr (6, 111, 3, 10))) := rfl
theorem f110_21 : iv_f1 (iv_p 110) 21 = some (.inl (iv_oIf .eq (9))) := rfl
theorem f110_24 : iv_f1 (iv_p 110) 24 = some (.inl (iv_oS 103)) := rfl
theorem f110_27 : iv_f1 (iv_p 110) 27 = some (.inl (iv_oI 3 1)) := rfl
theorem f110_28 : iv_f1 (iv_p 110) 28 = some (.inl iv_oQl) := rfl
theorem f110_29 : iv_f1 (iv_p 110) 29 = some (.inr (.inl 4)) := rfl
theorem f110_30 : iv_f1 (iv_p 110) 30 = some (.inl (iv_oInc 3 1)) := rfl
theorem f110_33 : iv_f1 (iv_p 110) 33 = some (.inl (iv_oGo (-31))) := rfl
theorem f110_36 : iv_f1 (iv_p 110) 36 = some (.inl (iv_oS 3)) := rfl
theorem f110_39 : iv_f1 (iv_p 110) 39 = some (.inr (.inl 4)) := rfl
theorem f111_0 : iv_f1 (iv_p 111) 0 = some (.inl (iv_oI 3 1)) := rfl
theorem f111_1 : iv_f1 (iv_p 111) 1 = some (.inl (iv_oA 0 1)) := rfl
theorem f111_2 : iv_f1 (iv_p 111) 2 = some (.inl (iv_oWt)) := rfl
theorem f111_5 : iv_f1 (iv_p 111) 5 = some (.inl (iv_oSl)) := rfl
theorem f111_8 : iv_f1 (iv_p 111) 8 = some (.inl (iv_oIc .ne (15))) := rfl
theorem f111_11 : iv_f1 (iv_p 111) 11 = some (.inl (iv_oI 2 1)) := rfl
theorem f111_12 : iv_f1 (iv_p 111) 12 = some (.inl (iv_oIf .lt (11))) := rfl
theorem f111_15 : iv_f1 (iv_p 111) 15 = some (.inl (iv_oI 2 1)) := rfl
theorem f111_16 : iv_f1 (iv_p 111) 16 = some (.inl (iv_oI 3 1)) := rfl
theorem f111_17 : iv_f1 (iv_p 111) 17 = some (.inl (iv_oII fun x y => x + y)) := rfl
theorem f111_18 : iv_f1 (iv_p 111) 18 = some (.inl (iv_oA 1 1)) := rfl
theorem f111_19 : iv_f1 (iv_p 111) 19 = some (.inl iv_oLen) := rfl
theorem f111_20 : iv_f1 (iv_p 111) 20 = some (.inl (iv_oIc .le (5))) := rfl
theorem f111_23 : iv_f1 (iv_p 111) 23 = some (.inl (iv_oK (.int (Int32.ofNat 0)) 1)) := rfl
theorem f111_24 : iv_f1 (iv_p 111) 24 = some (.inr (.inl 2)) := rfl
theorem f111_25 : iv_f1 (iv_p 111) 25 = some (.inl (iv_oK (.int (Int32.ofNat 0)) 1)) := rfl
theorem f111_26 : iv_f1 (iv_p 111) 26 = some (.inl (iv_oIS 4 2)) := rfl
theorem f111_28 : iv_f1 (iv_p 111) 28 = some (.inl (iv_oI 4 2)) := rfl
theorem f111_30 : iv_f1 (iv_p 111) 30 = some (.inl (iv_oI 3 1)) := rfl
theorem f111_31 : iv_f1 (iv_p 111) 31 = some (.inl (iv_oIc .ge (29))) := rfl
theorem f111_34 : iv_f1 (iv_p 111) 34 = some (.inl (iv_oA 1 1)) := rfl
theorem f111_35 : iv_f1 (iv_p 111) 35 = some (.inl (iv_oI 2 1)) := rfl
theorem f111_36 : iv_f1 (iv_p 111) 36 = some (.inl (iv_oI 4 2)) := rfl
theorem f111_38 : iv_f1 (iv_p 111) 38 = some (.inl (iv_oII fun x y => x + y)) := rfl
theorem f111_39 : iv_f1 (iv_p 111) 39 = some (.inl (iv_oIl)) := rfl
theorem f111_40 : iv_f1 (iv_p 111) 40 = some (.inl (iv_oA 0 1)) := rfl
theorem f111_41 : iv_f1 (iv_p 111) 41 = some (.inl (iv_oWt)) := rfl
theorem f111_44 : iv_f1 (iv_p 111) 44 = some (.inl (iv_oI 4 2)) := rfl
theorem f111_46 : iv_f1 (iv_p 111) 46 = some (.inl (iv_oSc)) := rfl
theorem f111_49 : iv_f1 (iv_p 111) 49 = some (.inl (iv_oIc .eq (5))) := rfl
theorem f111_52 : iv_f1 (iv_p 111) 52 = some (.inl (iv_oK (.int (Int32.ofNat 0)) 1)) := rfl
theorem f111_53 : iv_f1 (iv_p 111) 53 = some (.inr (.inl 2)) := rfl
theorem f111_54 : iv_f1 (iv_p 111) 54 = some (.inl (iv_oInc 4 1)) := rfl
theorem f111_57 : iv_f1 (iv_p 111) 57 = some (.inl (iv_oGo (-29))) := rfl
theorem f111_60 : iv_f1 (iv_p 111) 60 = some (.inl (iv_oK (.int (Int32.ofNat 1)) 1)) := rfl
theorem f111_61 : iv_f1 (iv_p 111) 61 = some (.inr (.inl 2)) := rfl
theorem f107_0 : iv_f1 (iv_p 107) 0 = some (.inl (iv_oK (.int (Int32.ofNat 0)) 1)) := rfl
theorem f107_1 : iv_f1 (iv_p 107) 1 = some (.inl (iv_oIS 2 1)) := rfl
theorem f107_2 : iv_f1 (iv_p 107) 2 = some (.inl (iv_oI 2 1)) := rfl
theorem f107_3 : iv_f1 (iv_p 107) 3 = some (.inl (iv_oA 1 1)) := rfl
theorem f107_4 : iv_f1 (iv_p 107) 4 = some (.inl (iv_oSl)) := rfl
theorem f107_7 : iv_f1 (iv_p 107) 7 = some (.inl (iv_oIc .ge (18))) := rfl
theorem f107_10 : iv_f1 (iv_p 107) 10 = some (.inl (iv_oA 0 1)) := rfl
theorem f107_11 : iv_f1 (iv_p 107) 11 = some (.inl (iv_oA 1 1)) := rfl
theorem f107_12 : iv_f1 (iv_p 107) 12 = some (.inl (iv_oI 2 1)) := rfl
theorem f107_13 : iv_f1 (iv_p 107) 13 = some (.inl (iv_oSc)) := rfl
theorem f107_16 : iv_f1 (iv_p 107) 16 = some (.inr (.inr (6, 109, 1, 9))) := rfl
theorem f107_19 : iv_f1 (iv_p 107) 19 = some (.inl (iv_oInc 2 1)) := rfl
theorem f107_22 : iv_f1 (iv_p 107) 22 = some (.inl (iv_oGo (-20))) := rfl
theorem f107_25 : iv_f1 (iv_p 107) 25 = some (.inr (.inl 0)) := rfl
set_option maxRecDepth 8000 in
theorem f48_91 : iv_f1 (iv_p 48) 91 = some (.inl (iv_oK (.ref 259) 2)) := rfl
set_option maxRecDepth 8000 in
theorem f48_93 : iv_f1 (iv_p 48) 93 = some (.inl (iv_oA 1 1)) := rfl
set_option maxRecDepth 8000 in
theorem f48_94 : iv_f1 (iv_p 48) 94 = some (.inl (iv_oI 3 1)) := rfl
set_option maxRecDepth 8000 in
theorem f48_95 : iv_f1 (iv_p 48) 95 = some (.inl (iv_oIl)) := rfl
set_option maxRecDepth 8000 in
theorem f48_96 : iv_f1 (iv_p 48) 96 = some (.inl (iv_oUI fun x => .int (x.toUInt32 % 65536).toInt32)) := rfl
set_option maxRecDepth 8000 in
theorem f48_97 : iv_f1 (iv_p 48) 97 = some (.inl (iv_oSi)) := rfl
theorem f105_18 : iv_f1 (iv_p 105) 18 = some (.inl (iv_oA 0 1)) := rfl
theorem f105_19 : iv_f1 (iv_p 105) 19 = some (.inl (iv_oK (.ref 261) 2)) := rfl
theorem f105_21 : iv_f1 (iv_p 105) 21 = some (.inr (.inr (6, 107, 1, 9))) := rfl
theorem f105_34 : iv_f1 (iv_p 105) 34 = some (.inl (iv_oA 0 1)) := rfl
theorem f105_35 : iv_f1 (iv_p 105) 35 = some (.inl (iv_oK (.ref 263) 2)) := rfl
theorem f105_37 : iv_f1 (iv_p 105) 37 = some (.inr (.inr (6, 107, 1, 9))) := rfl
theorem f105_65 : iv_f1 (iv_p 105) 65 = some (.inl (iv_oA 0 1)) := rfl
theorem f105_66 : iv_f1 (iv_p 105) 66 = some (.inl (iv_oK (.ref 265) 2)) := rfl
theorem f105_68 : iv_f1 (iv_p 105) 68 = some (.inr (.inr (6, 107, 1, 9))) := rfl
section WS
variable {L : Nat} {xs : Nat → Int32} {Post : Option Value → iv_H → Prop} {d M pc : Nat} {lv : iv_L} {st : List Value} {σ : iv_H}
theorem s_isW {j : Nat} (hj : j < 28) : iv_isW (2 * j + 3) = true := by
  unfold iv_isW
  rw [show (2 * j + 3) % 2 = 1 by omega, Nat.ble_eq.mpr (show 3 ≤ 2 * j + 3 by omega), Nat.ble_eq.mpr (show 2 * j + 3 ≤ 57 by omega)]
  rfl
theorem s_isS {j : Nat} (hj : j < 32) : iv_isS (2 * j + 203) = true := by
  unfold iv_isS
  rw [show (2 * j + 203) % 2 = 1 by omega, Nat.ble_eq.mpr (show 203 ≤ 2 * j + 203 by omega), Nat.ble_eq.mpr (show 2 * j + 203 ≤ 265 by omega)]
  rfl
theorem s_odd {j : Nat} : iv_get σ (2 * j + 3) = none := by
  unfold iv_get
  rw [show (2 * j + 3) % 2 = 1 by omega]
  rfl
set_option maxRecDepth 8000 in
theorem s_all : iv_sxl.all (fun l => Nat.ble l.length 7 && l.all (fun v => decide (1 ≤ v.toInt) && decide (v.toInt ≤ 255))) = true := by decide +kernel
theorem s_sx (a : Nat) : (iv_sx a).length ≤ 7 ∧ ∀ v ∈ iv_sx a, 1 ≤ v.toInt ∧ v.toInt ≤ 255 := by
  unfold iv_sx
  split
  · rename_i l hl
    have h := List.all_eq_true.mp s_all l (zn_in hl)
    rw [Bool.and_eq_true] at h
    refine ⟨Nat.le_of_ble_eq_true h.1, fun v hv => ?_⟩
    have h2 := List.all_eq_true.mp h.2 v hv
    rw [Bool.and_eq_true] at h2
    exact ⟨of_decide_eq_true h2.1, of_decide_eq_true h2.2⟩
  · exact ⟨by decide, fun v hv => by cases hv⟩
theorem w_wt {j : Nat} (hj : j < 28) (hf : iv_f1 (iv_p M) pc = some (.inl iv_oWt)) (k : zGo L xs Post [] d M (pc + 3) lv (.ref (2 * j + 203) :: st) σ) : zGo L xs Post [] d M pc lv (.ref (2 * j + 3) :: st) σ := zGo_s hf (by
  show (bif iv_isW (2 * j + 3) then some (pc + 3, lv, .ref (2 * j + 3 + 200) :: st, σ) else none) = _
  rw [s_isW hj]
  rfl) k
theorem w_sl {j : Nat} (hj : j < 32) (hs : Nat.ble (iv_cs st) 8 = true) (hf : iv_f1 (iv_p M) pc = some (.inl iv_oSl)) (k : zGo L xs Post [] d M (pc + 3) lv (.int (Int32.ofNat (iv_sx (2 * j + 203)).length) :: st) σ) : zGo L xs Post [] d M pc lv (.ref (2 * j + 203) :: st) σ := zGo_s hf (by
  show (bif iv_isS (2 * j + 203) && Nat.ble (iv_cs st) 8 then some (pc + 3, lv, .int (Int32.ofNat (iv_sx (2 * j + 203)).length) :: st, σ) else none) = _
  rw [s_isS hj, hs]
  rfl) k
theorem w_sc {j i : Nat} {v : Int32} (hj : j < 32) (hi : iv_nth (iv_sx (2 * j + 203)) i = some v) (hs : Nat.ble (iv_cs st) 8 = true) (hf : iv_f1 (iv_p M) pc = some (.inl iv_oSc)) (k : zGo L xs Post [] d M (pc + 3) lv (.int v :: st) σ) : zGo L xs Post [] d M pc lv (.int (Int32.ofNat i) :: .ref (2 * j + 203) :: st) σ := zGo_s hf (by
  obtain ⟨q1, q2, _⟩ := ofNat_in (iv_nth_lt hi) (Nat.le_trans (s_sx (2 * j + 203)).1 (by decide))
  show (bif iv_isS (2 * j + 203) && (iv_in (Int32.ofNat i) (iv_sx (2 * j + 203)).length && Nat.ble (iv_cs st) 8) then (match iv_nth (iv_sx (2 * j + 203)) (Int32.ofNat i).toNatClampNeg with
    | some v => some (pc + 3, lv, Value.int v :: st, σ)
    | none => none) else none) = _
  rw [s_isS hj, q1, hs, q2, hi]
  rfl) k
theorem w_gs {a : Nat} (hf : iv_f1 (iv_p M) pc = some (.inl (iv_oS a))) (k : zGo L xs Post [] d M (pc + 3) lv (.ref a :: st) σ) : zGo L xs Post [] d M pc lv st σ := zGo_s hf rfl k
theorem w_lA (hf : iv_f1 (iv_p M) pc = some (.inl iv_oLen)) (k : zGo L xs Post [] d M (pc + 1) lv (.int (Int32.ofNat 28) :: st) σ) : zGo L xs Post [] d M pc lv (.ref 103 :: st) σ := zGo_s hf rfl k
theorem w_qA {i : Nat} (hi : i < 28) (hf : iv_f1 (iv_p M) pc = some (.inl iv_oQl)) (k : zGo L xs Post [] d M (pc + 1) lv (.ref (2 * i + 3) :: st) σ) : zGo L xs Post [] d M pc lv (.int (Int32.ofNat i) :: .ref 103 :: st) σ := zGo_s hf (by
  obtain ⟨q1, q2, _⟩ := ofNat_in hi (by decide : 28 ≤ 2000)
  show (bif Nat.beq 103 103 && iv_in (Int32.ofNat i) 28 then some (pc + 1, lv, Value.ref (2 * (Int32.ofNat i).toNatClampNeg + 3) :: st, σ) else none) = _
  rw [q1, q2]
  rfl) k
theorem w_ret4 {a : Nat} (hf : iv_f1 (iv_p M) pc = some (.inr (.inl 4))) (k : Post (some (.ref a)) σ) : zGo L xs Post [] d M pc lv [.ref a] σ := zGo_r hf rfl k
theorem c_nT {x y : Int32} (h : ¬ x = y) : iv_c2 .ne x y = true := decide_eq_true h
theorem c_nF {x y : Int32} (h : x = y) : iv_c2 .ne x y = false := decide_eq_false (fun q => q h)
theorem c_lt0 {p : Nat} (h : p ≤ 1000000) : iv_c2 .lt (Int32.ofNat p) 0 = false := c_f (fun e => by
  have e1 := i32_ev (n := p) h
  have e2 : (Int32.ofNat p).toInt < (0 : Int32).toInt := zch_32.mp e
  have e3 : (0 : Int32).toInt = 0 := by decide
  omega)
theorem c_leT {a b : Nat} (h : a ≤ b) (hb : b ≤ 1000000) : iv_c2 .le (Int32.ofNat a) (Int32.ofNat b) = true := zch_32.mpr (by
  have e1 := i32_ev (n := a) (by omega)
  have e2 := i32_ev (n := b) (by omega)
  show (Int32.ofNat a).toInt ≤ (Int32.ofNat b).toInt
  omega)
theorem c_leF {a b : Nat} (h : b < a) (ha : a ≤ 1000000) : iv_c2 .le (Int32.ofNat a) (Int32.ofNat b) = false := c_f (fun e => by
  have e1 := i32_ev (n := a) (by omega)
  have e2 := i32_ev (n := b) (by omega)
  have e3 : (Int32.ofNat a).toInt ≤ (Int32.ofNat b).toInt := zch_32.mp e
  omega)
/-! Word.stands -/
theorem s_loop {j : Nat} (hj : j < 28) {a n : Nat} {g : Nat → Int32} (hg : iv_get σ a = some (.inl (0, n, .inl g))) (hn : n ≤ 2000) {p q : Nat} (hq : q = (iv_sx (2 * j + 203)).length) (hpq : p + q ≤ n) (k0 : Post (some (.int (Int32.ofNat 0))) σ) (k1 : Post (some (.int (Int32.ofNat 1))) σ) : ∀ (t i : Nat), i + t = q → ∀ lv : iv_L, iv_f1 lv 0 = some (.ref (2 * j + 3)) → iv_f1 lv 1 = some (.ref a) → iv_f1 lv 2 = some (.int (Int32.ofNat p)) → iv_f1 lv 3 = some (.int (Int32.ofNat q)) → iv_f1 lv 4 = some (.int (Int32.ofNat i)) → zGo L xs Post [] d 111 28 lv [] σ := by
  have hq7 : q ≤ 7 := by rw [hq]; exact (s_sx _).1
  intro t
  induction t with
  | zero =>
    intro i hi lv l0 l1 l2 l3 l4
    refine w_I f111_28 l4 ?_
    refine w_I f111_30 l3 ?_
    refine w_icT f111_31 rfl (c_geT (by omega) (by omega)) ?_
    refine w_K f111_60 ?_
    exact w_ret2 f111_61 (by decide) k1
  | succ t ih =>
    intro i hi lv l0 l1 l2 l3 l4
    obtain ⟨v, hv⟩ := iv_nth_some (l := iv_sx (2 * j + 203)) (n := i) (by omega)
    refine w_I f111_28 l4 ?_
    refine w_I f111_30 l3 ?_
    refine w_icF f111_31 rfl (c_geF (by omega) (by omega)) ?_
    refine w_A f111_34 l1 ?_
    refine w_I f111_35 l2 ?_
    refine w_I f111_36 l4 ?_
    refine w_add f111_38 ?_
    refine w_il f111_39 hg (iv_get_odd hg).1 (iv_get_odd hg).2 (by omega) hn ?_
    refine w_A f111_40 l0 ?_
    refine w_wt hj f111_41 ?_
    refine w_I f111_44 l4 ?_
    refine w_sc (by omega) hv rfl f111_46 ?_
    by_cases hc : g (p + i) = v
    · refine w_icT f111_49 rfl (c_eq hc) ?_
      refine w_inc f111_54 l4 ?_
      refine w_go f111_57 rfl ?_
      exact ih (i + 1) (by omega) _ (lv_s l0 (by decide) cR) (lv_s l1 (by decide) cR) (lv_s l2 (by decide) cI) (lv_s l3 (by decide) cI) lv_e
    · refine w_icF f111_49 rfl (c_ne hc) ?_
      refine w_K f111_52 ?_
      exact w_ret2 f111_53 (by decide) k0
theorem s_std {j : Nat} (hj : j < 28) {a n : Nat} {g : Nat → Int32} (hg : iv_get σ a = some (.inl (0, n, .inl g))) (hn : n ≤ 2000) {p q : Nat} (hp : p ≤ 940) (hq : q ≤ 7) (k0 : Post (some (.int (Int32.ofNat 0))) σ) (k1 : Post (some (.int (Int32.ofNat 1))) σ) {lv : iv_L} (l0 : iv_f1 lv 0 = some (.ref (2 * j + 3))) (l1 : iv_f1 lv 1 = some (.ref a)) (l2 : iv_f1 lv 2 = some (.int (Int32.ofNat p))) (l3 : iv_f1 lv 3 = some (.int (Int32.ofNat q))) : zGo L xs Post [] d 111 0 lv [] σ := by
  refine w_I f111_0 l3 ?_
  refine w_A f111_1 l0 ?_
  refine w_wt hj f111_2 ?_
  refine w_sl (by omega) rfl f111_5 ?_
  by_cases hc : Int32.ofNat q = Int32.ofNat (iv_sx (2 * j + 203)).length
  · have hl := (s_sx (2 * j + 203)).1
    have e1 := congrArg Int32.toInt hc
    rw [i32_ev (by omega), i32_ev (by omega)] at e1
    have e2 : q = (iv_sx (2 * j + 203)).length := by omega
    refine w_icF f111_8 rfl (c_nF hc) ?_
    refine w_I f111_11 l2 ?_
    refine w_ifF f111_12 rfl (c_lt0 (by omega)) ?_
    refine w_I f111_15 l2 ?_
    refine w_I f111_16 l3 ?_
    refine w_add f111_17 ?_
    refine w_A f111_18 l1 ?_
    refine zGo_s f111_19 (o_Len (iv_get_odd hg).1 hg rfl) ?_
    by_cases hpq : p + q ≤ n
    · refine w_icT f111_20 rfl (c_leT hpq (by omega)) ?_
      refine w_K f111_25 ?_
      refine w_IS f111_26 ?_
      exact s_loop hj hg hn e2 hpq k0 k1 q 0 (by omega) _ (lv_s l0 (by decide) cR) (lv_s l1 (by decide) cR) (lv_s l2 (by decide) cI) (lv_s l3 (by decide) cI) lv_e
    · refine w_icF f111_20 rfl (c_leF (by omega) (by omega)) ?_
      refine w_K f111_23 ?_
      exact w_ret2 f111_24 (by decide) k0
  · refine w_icT f111_8 rfl (c_nT hc) ?_
    refine w_K f111_23 ?_
    exact w_ret2 f111_24 (by decide) k0
/-! Word.at -/
theorem s_args {i : Nat} (hi : i < 28) {a b c : Value} : iv_args 6 3 10 (c :: b :: a :: .ref (2 * i + 3) :: []) σ = some ([.ref (2 * i + 3), a, b, c], []) := by
  simp only [iv_args, iv_pop, s_odd, s_isW hi, show Nat.beq 6 4 = false from rfl, show Nat.beq 6 6 = true from rfl, show Nat.beq 10 10 = true from rfl, cond_true, cond_false, Bool.and_self, show Nat.ble (iv_cs []) 8 = true from rfl]
theorem s_at {a n : Nat} {g : Nat → Int32} (hg : iv_get σ a = some (.inl (0, n, .inl g))) (hn : n ≤ 2000) {p q : Nat} (hp : p ≤ 940) (hq : q ≤ 7) (kW : ∀ j : Nat, j < 28 → Post (some (.ref (2 * j + 3))) σ) : ∀ (t i : Nat), i + t = 28 → ∀ lv : iv_L, iv_f1 lv 0 = some (.ref a) → iv_f1 lv 1 = some (.int (Int32.ofNat p)) → iv_f1 lv 2 = some (.int (Int32.ofNat q)) → iv_f1 lv 3 = some (.int (Int32.ofNat i)) → zGo L xs Post [] (d + 1) 110 2 lv [] σ := by
  intro t
  induction t with
  | zero =>
    intro i hi lv l0 l1 l2 l3
    refine w_I f110_2 l3 ?_
    refine w_gs f110_3 ?_
    refine w_lA f110_6 ?_
    refine w_icT f110_7 rfl (c_geT (by omega) (by omega)) ?_
    refine w_gs f110_36 ?_
    exact w_ret4 f110_39 (kW 0 (by decide))
  | succ t ih =>
    intro i hi lv l0 l1 l2 l3
    refine w_I f110_2 l3 ?_
    refine w_gs f110_3 ?_
    refine w_lA f110_6 ?_
    refine w_icF f110_7 rfl (c_geF (by omega) (by decide)) ?_
    refine w_gs f110_10 ?_
    refine w_I f110_13 l3 ?_
    refine w_qA (by omega) f110_14 ?_
    refine w_A f110_15 l0 ?_
    refine w_I f110_16 l1 ?_
    refine w_I f110_17 l2 ?_
    refine w_call f110_18 (s_args (by omega)) rfl ?_
    refine s_std (j := i) (by omega) hg hn hp hq ?_ ?_ rfl rfl rfl rfl
    · show zGo L xs Post [] (d + 1) 110 21 lv [.int (Int32.ofNat 0)] σ
      refine w_ifT f110_21 rfl (by decide) ?_
      refine w_inc f110_30 l3 ?_
      refine w_go f110_33 rfl ?_
      exact ih (i + 1) (by omega) _ (lv_s l0 (by decide) cR) (lv_s l1 (by decide) cI) (lv_s l2 (by decide) cI) lv_e
    · show zGo L xs Post [] (d + 1) 110 21 lv [.int (Int32.ofNat 1)] σ
      refine w_ifF f110_21 rfl (by decide) ?_
      refine w_gs f110_24 ?_
      refine w_I f110_27 l3 ?_
      refine w_qA (by omega) f110_28 ?_
      exact w_ret4 f110_29 (kW i (by omega))
end WS
theorem s_tW0 : ∀ j ∈ List.range 28, z_τ (2 * j + 3) = 1 := by decide +kernel
theorem z_t68 : z_ty 68 = some (.inr (0, 940, 0, [(0, 939, 0, 255)])) := rfl
def zd_2 : zct := (110, 30, [], (0, ([((0, 0, 0, 0), (70, 0, 1000)), ((0, 1, 0, 0), (0, 0, 940)), ((0, 2, 0, 0), (0, 0, 7))], []), (1, []), []), [], [([((3, 0, 0, 0), (3, 0, 1000))], [])])
theorem zu_2 : zCT z_τ z_ty z_J zd_2 := by
  intro L xs d cas σ ρ hd hI hJ hP
  have hd : 30 ≤ d := hd
  obtain ⟨x0, l0, k0⟩ := hP.2.2 0 _ _ rfl
  obtain ⟨x1, l1, k1⟩ := hP.2.2 1 _ _ rfl
  obtain ⟨x2, l2, k2⟩ := hP.2.2 2 _ _ rfl
  obtain ⟨a, rfl, ea⟩ : ∃ a : Nat, x0 = .ref a ∧ (a : Int) = ρ 0 := k0
  obtain ⟨p, rfl, ep⟩ := zdk0 k1
  obtain ⟨q, rfl, eq⟩ := zdk0 k2
  obtain ⟨_, _, c0⟩ := hP.1 0 _ rfl
  obtain ⟨c1, c1', _⟩ := hP.1 1 _ rfl
  obtain ⟨c2, c2', _⟩ := hP.1 2 _ rfl
  have c1 : 0 ≤ ρ 1 := c1
  have c1' : ρ 1 ≤ 940 := c1'
  have c2 : 0 ≤ ρ 2 := c2
  have c2' : ρ 2 ≤ 7 := c2'
  have ta : z_τ a = 68 := by
    have h9 := (c0 (by decide)).2
    rw [← ea, Int.toNat_natCast] at h9
    exact h9
  obtain ⟨g, hg, _⟩ := zI_ia hI ta z_t68
  obtain ⟨p', rfl, e1⟩ := i32_nat (x := p) (by omega)
  obtain ⟨q', rfl, e2⟩ := i32_nat (x := q) (by omega)
  obtain ⟨d', rfl⟩ : ∃ d', d = d' + 1 := ⟨d - 1, by omega⟩
  obtain ⟨r, σ', hR, hQ⟩ := w_K (Post := fun r σ' => ∃ j : Nat, j < 28 ∧ r = some (.ref (2 * j + 3)) ∧ σ' = σ) (L := L) (xs := xs) (d := d' + 1) (lv := lv_args 0 cas) (st := []) (σ := σ) f110_0 (w_IS f110_1 (s_at hg (by decide) (p := p') (q := q') (by omega) (by omega) (fun j hj => ⟨j, hj, rfl, rfl⟩) 28 0 rfl _ (lv_s l0 (by decide) cR) (lv_s l1 (by decide) cI) (lv_s l2 (by decide) cI) lv_e))
  have hQ : ∃ j : Nat, j < 28 ∧ r = some (.ref (2 * j + 3)) ∧ σ' = σ := hQ
  obtain ⟨j, hj, rfl, rfl⟩ := hQ
  refine ⟨_, _, hR, hI, hJ, zFr_rf, _, List.mem_singleton.mpr rfl, ⟨fun _ => ((2 * j + 3 : Nat) : Int), fun s c h => ?_, fun f h => (by cases h), fun i b c h => ?_⟩, fun _ => rfl, fun h => (by cases h)⟩
  · cases s with
    | zero =>
      cases h
      refine ⟨by show (0 : Int) ≤ ((2 * j + 3 : Nat) : Int); omega, by show ((2 * j + 3 : Nat) : Int) ≤ 1000; omega, fun _ => ⟨by show (0 : Int) ≤ ((2 * j + 3 : Nat) : Int); omega, ?_⟩⟩
      show z_τ (((2 * j + 3 : Nat) : Int).toNat) = 1
      rw [Int.toNat_natCast]
      exact s_tW0 j (List.mem_range.mpr hj)
    | succ s => cases h
  · cases i with
    | zero =>
      cases h
      exact ⟨.ref (2 * j + 3), rfl, 2 * j + 3, rfl, rfl⟩
    | succ i => cases h
/-! Tag.addText -/
def z_tgm : zm := [(0, 9, 0), (1, 67, 0)]
theorem s_sign {L : Nat} {xs : Nat → Int32} {d a : Nat} {v : Int32} {σ : iv_H} (hd : 5 ≤ d) (ta : z_τ a = 19) (hv : 1 ≤ v.toInt ∧ v.toInt ≤ 255) (hI : zI z_τ z_ty σ) (hJ : z_J σ) : ∃ σ', iv_Rn L xs d 109 0 (lv_args 0 [.ref a, .int v]) [] σ none σ' ∧ zI z_τ z_ty σ' ∧ z_J σ' ∧ zFr z_τ z_tgm σ σ' := by
  have ha : a ≤ 1000 := z_T.2.2 a (by rw [ta]; decide)
  have hP0 : zP_ok z_τ (fun _ => 0) (lv_args 0 [.ref a, .int v]) none σ zc_101.2.2.2.1.2.1 (fun i => if i = 0 then (a : Int) else v.toInt) := by
    refine ⟨fun s c h => ?_, fun f h => (by cases h), fun i b c h => ?_⟩
    · cases s with
      | zero =>
        cases h
        refine ⟨by show (0 : Int) ≤ (a : Int); omega, by show (a : Int) ≤ 1000; omega, fun _ => ⟨by show (0 : Int) ≤ (a : Int); omega, ?_⟩⟩
        show z_τ ((a : Int).toNat) = 19
        rw [Int.toNat_natCast]
        exact ta
      | succ s =>
        cases s with
        | zero =>
          cases h
          exact ⟨by show (1 : Int) ≤ v.toInt; omega, by show v.toInt ≤ 255; omega, fun h9 => by have h9 : 2 ≤ 0 := h9; omega⟩
        | succ s => cases h
    · cases i with
      | zero => cases h; exact ⟨.ref a, rfl, a, rfl, rfl⟩
      | succ i =>
        cases i with
        | zero => cases h; exact ⟨.int v, rfl, v, rfl, rfl⟩
        | succ i => cases h
  obtain ⟨r, σ1, hR, h1, h2, h3, X, hX, _, _, h6⟩ := zt_101 L xs d [.ref a, .int v] σ _ hd hI hJ hP0
  have e1 : X = ([], []) := List.mem_singleton.mp hX
  rw [e1] at h6
  have e2 := h6 rfl
  subst e2
  exact ⟨σ1, hR, h1, h2, h3⟩
theorem s_arg1 {σ : iv_H} {a : Nat} {fs : List Value} {x : Value} {ci : Nat} (ho : iv_get σ a = some (.inr (ci, fs))) : iv_args 6 1 ci (x :: .ref a :: []) σ = some ([.ref a, x], []) := by
  simp only [iv_args, iv_pop, ho, show Nat.beq 6 4 = false from rfl, show Nat.beq 6 6 = true from rfl, Nat.beq_refl, cond_true, cond_false, show Nat.ble (iv_cs []) 8 = true from rfl]
theorem s_tag {σ : iv_H} (hI : zI z_τ z_ty σ) {a : Nat} (ta : z_τ a = 19) : ∃ fs, iv_get σ a = some (.inr (9, fs)) := by
  obtain ⟨fs, h, _⟩ := zI_obj hI ta (show z_ty 19 = some (.inl (9, _)) from rfl)
  exact ⟨fs, h⟩
theorem s_txt {L : Nat} {xs : Nat → Int32} {d : Nat} {j : Nat} (hj : j < 32) {a : Nat} (ta : z_τ a = 19) {σ0 : iv_H} : ∀ (t i : Nat), i + t = (iv_sx (2 * j + 203)).length → ∀ (lv : iv_L) (σ : iv_H), zI z_τ z_ty σ → z_J σ → zFr z_τ z_tgm σ0 σ → iv_f1 lv 0 = some (.ref a) → iv_f1 lv 1 = some (.ref (2 * j + 203)) → iv_f1 lv 2 = some (.int (Int32.ofNat i)) → zGo L xs (fun r σ' => r = none ∧ zI z_τ z_ty σ' ∧ z_J σ' ∧ zFr z_τ z_tgm σ0 σ') [] (d + 6) 107 2 lv [] σ := by
  have hl := (s_sx (2 * j + 203)).1
  intro t
  induction t with
  | zero =>
    intro i hi lv σ hI hJ hF l0 l1 l2
    refine w_I f107_2 l2 ?_
    refine w_A f107_3 l1 ?_
    refine w_sl hj rfl f107_4 ?_
    refine w_icT f107_7 rfl (c_geT (by omega) (by omega)) ?_
    exact w_ret0 f107_25 ⟨rfl, hI, hJ, hF⟩
  | succ t ih =>
    intro i hi lv σ hI hJ hF l0 l1 l2
    obtain ⟨v, hv⟩ := iv_nth_some (l := iv_sx (2 * j + 203)) (n := i) (by omega)
    obtain ⟨fs, ho⟩ := s_tag hI ta
    refine w_I f107_2 l2 ?_
    refine w_A f107_3 l1 ?_
    refine w_sl hj rfl f107_4 ?_
    refine w_icF f107_7 rfl (c_geF (by omega) (by omega)) ?_
    refine w_A f107_10 l0 ?_
    refine w_A f107_11 l1 ?_
    refine w_I f107_12 l2 ?_
    refine w_sc hj hv rfl f107_13 ?_
    refine w_call f107_16 (s_arg1 ho) rfl ?_
    obtain ⟨σ1, hR, h1, h2, h3⟩ := s_sign (L := L) (xs := xs) (d := d + 5) (by omega) ta ((s_sx _).2 v (zn_in hv)) hI hJ
    refine ⟨none, σ1, hR, ?_⟩
    show zGo L xs (fun r σ' => r = none ∧ zI z_τ z_ty σ' ∧ z_J σ' ∧ zFr z_τ z_tgm σ0 σ') [] (d + 6) 107 19 lv [] σ1
    refine w_inc f107_19 l2 ?_
    refine w_go f107_22 rfl ?_
    exact ih (i + 1) (by omega) _ σ1 h1 h2 (zFr_tr (fun _ hq => hq) hF h3) (lv_s l0 (by decide) cR) (lv_s l1 (by decide) cR) lv_e
def z_txm (nx : Nat) (A : zA) : Option (List (Nat × zA)) := match A.2.2.1 with
  | [] => (match zlks A [] none [((0, 0, 0, 0), (21, 0, 1000))] with
    | some _ => some [(nx, (A.1, A.2.1, [], zcfF z_tgm A.2.2.2.1, zcaF A.1.1 z_tgm A.2.2.2.2))]
    | none => none)
  | _ :: _ => none
theorem z_txm_ok {pc j : Nat} (hj : j < 32) (f1 : iv_f1 (iv_p 105) pc = some (.inl (iv_oA 0 1))) (f2 : iv_f1 (iv_p 105) (pc + 1) = some (.inl (iv_oK (.ref (2 * j + 203)) 2))) (f3 : iv_f1 (iv_p 105) (pc + 3) = some (.inr (.inr (6, 107, 1, 9)))) : zM1_ok z_τ z_ty z_J 105 pc (z_tgm, 20, z_txm (pc + 6)) := by
  intro L xs ρ A clv cst σ outs d hd hg hA hI hJ
  have hd : 20 ≤ d := hd
  have hg : z_txm (pc + 6) A = some outs := hg
  unfold z_txm at hg
  split at hg
  · rename_i hst
    split at hg
    · rename_i vs hvs
      cases hg
      have hc : cst = [] := by
        have h1 := hA.2.2.1
        rw [hst] at h1
        cases cst with
        | nil => rfl
        | cons x c => exact h1.elim
      subst hc
      have hP := zP_of (P := ([((0, 0, 0, 0), (21, 0, 1000))], [])) (γ := fun _ => 0) (r := none) hA (fun q hq => by cases hq) (fun v hv => by cases hv) hvs rfl
      obtain ⟨x0, l0, k0⟩ := hP.2.2 0 _ _ rfl
      obtain ⟨_, _, c0⟩ := hP.1 0 _ rfl
      obtain ⟨a, rfl, ea⟩ := (show ∃ a : Nat, x0 = .ref a ∧ (a : Int) = _ from k0)
      have ta : z_τ a = 19 := by
        have h9 := (c0 (by decide)).2
        rw [← ea, Int.toNat_natCast] at h9
        exact h9
      obtain ⟨fs, ho⟩ := s_tag hI ta
      obtain ⟨d', rfl⟩ : ∃ d', d = d' + 7 := ⟨d - 7, by omega⟩
      obtain ⟨r, σ', hR, hQ⟩ := w_K (Post := fun r σ' => r = none ∧ zI z_τ z_ty σ' ∧ z_J σ' ∧ zFr z_τ z_tgm σ σ') (L := L) (xs := xs) (d := d' + 6) (lv := lv_args 0 [.ref a, .ref (2 * j + 203)]) (st := []) (σ := σ) f107_0 (w_IS f107_1 (s_txt hj ta (iv_sx (2 * j + 203)).length 0 (by omega) _ σ hI hJ zFr_rf rfl rfl rfl))
      have hQ : r = none ∧ zI z_τ z_ty σ' ∧ z_J σ' ∧ zFr z_τ z_tgm σ σ' := hQ
      obtain ⟨rfl, h1, h2, h3⟩ := hQ
      refine ⟨pc + 6, clv, [], σ', _, ρ, fun r2 σ2 hr => ?_, List.mem_singleton.mpr rfl, zafter hA h3 hA.2.1 trivial, h1, h2, zag_rf, Nat.le_refl _, h3⟩
      exact Rs f1 (o_Ax l0) (Rs f2 rfl (Rc f3 (s_arg1 ho) rfl hR hr))
    · cases hg
  · cases hg
/-! MARKS.indexOf of what lies on the tape -/
theorem s_ixF (c : Int32) : ∀ (l : List Int32) (k : Nat), k + l.length ≤ 1000 → -1 ≤ (iv_ixF c l k).toInt ∧ (iv_ixF c l k).toInt ≤ k + l.length - 1
  | [], k, _ => by
    have e : (iv_ixF c [] k).toInt = -1 := by show (-1 : Int32).toInt = -1; decide
    rw [e]
    simp only [List.length_nil]
    omega
  | b :: l, k, h => by
    have h : k + (l.length + 1) ≤ 1000 := h
    unfold iv_ixF
    cases decide (b = c)
    · have := s_ixF c l (k + 1) (by omega)
      simp only [cond_false, List.length_cons]
      omega
    · have e := i32_ev (n := k) (by omega)
      simp only [cond_true, List.length_cons]
      omega
def z_ixm (A : zA) : Option (List (Nat × zA)) := match A.2.2.1 with
  | [] => (match zlks A [] none [((0, 1, 0, 0), (70, 0, 1000)), ((0, 3, 0, 0), (0, 0, 939))] with
    | some _ => (fun n => some [(100, ((A.1.1 ++ [(0, -1, 5)], A.1.2), A.2.1, [(0, 0, [(n, 1)])], A.2.2.2))]) A.1.1.length
    | none => none)
  | _ :: _ => none
theorem s_char {x : Int32} (h0 : 0 ≤ x.toInt) (h1 : x.toInt ≤ 255) : iv_in (x.toUInt32 % 65536).toInt32 256 = true := by
  obtain ⟨n, rfl, e⟩ := i32_nat h0
  have hn : n < 256 := by omega
  have key : ∀ m ∈ List.range 256, iv_in ((Int32.ofNat m).toUInt32 % 65536).toInt32 256 = true := by decide +kernel
  exact key n (List.mem_range.mpr hn)
theorem z_ixm_ok : zM1_ok z_τ z_ty z_J 48 91 ([], 4, z_ixm) := by
  intro L xs ρ A clv cst σ outs d hd hg hA hI hJ
  have hg : z_ixm A = some outs := hg
  unfold z_ixm at hg
  split at hg
  · rename_i hst
    split at hg
    · rename_i vs hvs
      cases hg
      have hc : cst = [] := by
        have h1 := hA.2.2.1
        rw [hst] at h1
        cases cst with
        | nil => rfl
        | cons x c => exact h1.elim
      subst hc
      have hP := zP_of (P := ([((0, 1, 0, 0), (70, 0, 1000)), ((0, 3, 0, 0), (0, 0, 939))], [])) (γ := fun _ => 0) (r := none) hA (fun q hq => by cases hq) (fun v hv => by cases hv) hvs rfl
      obtain ⟨x1, l1, k1⟩ := hP.2.2 0 _ _ rfl
      obtain ⟨x3, l3, k3⟩ := hP.2.2 1 _ _ rfl
      obtain ⟨_, _, c1⟩ := hP.1 0 _ rfl
      obtain ⟨c3, c3', _⟩ := hP.1 1 _ rfl
      obtain ⟨a, rfl, ea⟩ := (show ∃ a : Nat, x1 = .ref a ∧ (a : Int) = _ from k1)
      obtain ⟨p, rfl, ep⟩ := zdk0 k3
      have ta : z_τ a = 68 := by
        have h9 := (c1 (by decide)).2
        rw [← ea, Int.toNat_natCast] at h9
        exact h9
      rw [← ep] at c3 c3'
      have c3 : 0 ≤ p.toInt := c3
      have c3' : p.toInt ≤ 939 := c3'
      obtain ⟨p', rfl, e1⟩ := i32_nat c3
      obtain ⟨g, hg, hs⟩ := zI_ia hI ta z_t68
      obtain ⟨sg, m1, _, _, m2, m3⟩ := hs p' (by omega)
      rw [List.mem_singleton.mp m1] at m2 m3
      have m2 : 0 ≤ (g p').toInt := m2
      have m3 : (g p').toInt ≤ 255 := m3
      have hch := s_char m2 m3
      obtain ⟨b1, b2⟩ := s_ixF ((g p').toUInt32 % 65536).toInt32 (iv_sx 259) 0 (by have := (s_sx 259).1; omega)
      have e6 : (iv_sx 259).length = 6 := by decide +kernel
      rw [e6] at b2
      obtain ⟨q1, q2, _⟩ := ofNat_in (k := p') (n := 940) (by omega) (by decide)
      have h2 := zfr_ok (c := (0, -1, 5)) (x := (iv_ixF ((g p').toUInt32 % 65536).toInt32 (iv_sx 259) 0).toInt) (ds := []) hA ⟨b1, by show (iv_ixF ((g p').toUInt32 % 65536).toInt32 (iv_sx 259) 0).toInt ≤ 5; omega, fun h9 => by have h9 : 2 ≤ 0 := h9; omega⟩ (fun d hd => by cases hd)
      have hl : (A.1.1 ++ [((0, -1, 5) : zc)]).length = A.1.1.length + 1 := by simp
      refine ⟨100, clv, [.int (iv_ixF ((g p').toUInt32 % 65536).toInt32 (iv_sx 259) 0)], σ, _, _, fun r2 σ2 hr => ?_, List.mem_singleton.mpr rfl, ⟨h2.1, h2.2.1, ⟨⟨zl_wf_c.mpr ⟨by show A.1.1.length < (A.1.1 ++ [((0, -1, 5) : zc)]).length; omega, rfl⟩, _, rfl, ?_⟩, trivial⟩, h2.2.2.2⟩, hI, hJ, zup_ag, by show A.1.1.length ≤ (A.1.1 ++ [((0, -1, 5) : zc)]).length; omega, zFr_rf⟩
      · refine Rs f48_91 rfl (Rs f48_93 (o_Ax l1) (Rs f48_94 (o_Ix l3) (Rs f48_95 (o_Il (iv_get_odd hg).1 (iv_get_odd hg).2 hg q1) (Rs f48_96 rfl (Rs f48_97 ?_ hr)))))
        rw [q2]
        show (bif iv_isS 259 && (iv_in ((g p').toUInt32 % 65536).toInt32 256 && Nat.ble (iv_cs []) 8) then some (97 + 3, clv, [Value.int (iv_ixF ((g p').toUInt32 % 65536).toInt32 (iv_sx 259) 0)], σ) else none) = _
        rw [hch]
        rfl
      · show (iv_ixF ((g p').toUInt32 % 65536).toInt32 (iv_sx 259) 0).toInt = zv_ev _ (0, 0, [(A.1.1.length, 1)])
        rw [zev1, zup_s]
    · cases hg
  · cases hg
def z_mo : zmo := fun M pc => bif Nat.beq M 48 && Nat.beq pc 91 then some ([], 4, z_ixm) else bif Nat.beq M 105 && Nat.beq pc 18 then some (z_tgm, 20, z_txm 24) else bif Nat.beq M 105 && Nat.beq pc 34 then some (z_tgm, 20, z_txm 40) else bif Nat.beq M 105 && Nat.beq pc 65 then some (z_tgm, 20, z_txm 71) else none
def z_inl2 : List Nat := [3, 26, 27, 108, 114, 128]
def z_oc2 : zorc := (z_oc.1, z_oc.2.1, z_mo)
theorem z_O2 : zOK z_τ z_ty z_J z_oc2 := by
  refine ⟨z_O.1, z_O.2.1, fun M pc q h => ?_⟩
  have h : z_mo M pc = some q := h
  unfold z_mo at h
  simp only [Bool.cond_eq_ite, Bool.and_eq_true] at h
  split at h
  · rename_i hc
    rw [Nat.eq_of_beq_eq_true hc.1, Nat.eq_of_beq_eq_true hc.2]
    cases h
    exact z_ixm_ok
  · split at h
    · rename_i hc
      rw [Nat.eq_of_beq_eq_true hc.1, Nat.eq_of_beq_eq_true hc.2]
      cases h
      exact z_txm_ok (pc := 18) (j := 29) (by decide) f105_18 f105_19 f105_21
    · split at h
      · rename_i hc
        rw [Nat.eq_of_beq_eq_true hc.1, Nat.eq_of_beq_eq_true hc.2]
        cases h
        exact z_txm_ok (pc := 34) (j := 30) (by decide) f105_34 f105_35 f105_37
      · split at h
        · rename_i hc
          rw [Nat.eq_of_beq_eq_true hc.1, Nat.eq_of_beq_eq_true hc.2]
          cases h
          exact z_txm_ok (pc := 65) (j := 31) (by decide) f105_65 f105_66 f105_68
        · cases h

