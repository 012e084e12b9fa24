/-! ===== printed by wip/gen/y/ch.py: the class reads a whole order ===== -/
set_option maxRecDepth 100000 in
theorem y32_0 : iv_f1 (iv_p 32) 0 = some (.inl (iv_oA 0 1)) := rfl
set_option maxRecDepth 100000 in
theorem y32_1 : iv_f1 (iv_p 32) 1 = some (.inr (.inr (6, 24, 0, 3))) := rfl
set_option maxRecDepth 100000 in
theorem y32_4 : iv_f1 (iv_p 32) 4 = some (.inl (iv_oK (.int (Int32.ofNat 0)) 1)) := rfl
set_option maxRecDepth 100000 in
theorem y32_5 : iv_f1 (iv_p 32) 5 = some (.inl (iv_oIS 2 1)) := rfl
set_option maxRecDepth 100000 in
theorem y32_6 : iv_f1 (iv_p 32) 6 = some (.inl (iv_oI 2 1)) := rfl
set_option maxRecDepth 100000 in
theorem y32_7 : iv_f1 (iv_p 32) 7 = some (.inl (iv_oK (.int (Int32.ofNat 900)) 3)) := rfl
set_option maxRecDepth 100000 in
theorem y32_10 : iv_f1 (iv_p 32) 10 = some (.inl (iv_oIc .ge (45))) := rfl
set_option maxRecDepth 100000 in
theorem y32_13 : iv_f1 (iv_p 32) 13 = some (.inl (iv_oA 1 1)) := rfl
set_option maxRecDepth 100000 in
theorem y32_14 : iv_f1 (iv_p 32) 14 = some (.inr (.inr (6, 53, 0, 5))) := rfl
set_option maxRecDepth 100000 in
theorem y32_17 : iv_f1 (iv_p 32) 17 = some (.inl (iv_oIf .ne (38))) := rfl
set_option maxRecDepth 100000 in
theorem y32_20 : iv_f1 (iv_p 32) 20 = some (.inl (iv_oA 0 1)) := rfl
set_option maxRecDepth 100000 in
theorem y32_21 : iv_f1 (iv_p 32) 21 = some (.inl (iv_oA 1 1)) := rfl
set_option maxRecDepth 100000 in
theorem y32_22 : iv_f1 (iv_p 32) 22 = some (.inr (.inr (6, 33, 1, 3))) := rfl
set_option maxRecDepth 100000 in
theorem y32_25 : iv_f1 (iv_p 32) 25 = some (.inl (iv_oIf .eq (12))) := rfl
set_option maxRecDepth 100000 in
theorem y32_28 : iv_f1 (iv_p 32) 28 = some (.inl (iv_oA 1 1)) := rfl
set_option maxRecDepth 100000 in
theorem y32_29 : iv_f1 (iv_p 32) 29 = some (.inl (iv_oK (.int (Int32.ofNat 59)) 2)) := rfl
set_option maxRecDepth 100000 in
theorem y32_31 : iv_f1 (iv_p 32) 31 = some (.inr (.inr (6, 57, 1, 5))) := rfl
set_option maxRecDepth 100000 in
theorem y32_34 : iv_f1 (iv_p 32) 34 = some (.inl (iv_oIf .ne (5))) := rfl
set_option maxRecDepth 100000 in
theorem y32_37 : iv_f1 (iv_p 32) 37 = some (.inl (iv_oK (.int (Int32.ofNat 0)) 1)) := rfl
set_option maxRecDepth 100000 in
theorem y32_38 : iv_f1 (iv_p 32) 38 = some (.inr (.inl 2)) := rfl
set_option maxRecDepth 100000 in
theorem y32_39 : iv_f1 (iv_p 32) 39 = some (.inl (iv_oA 0 1)) := rfl
set_option maxRecDepth 100000 in
theorem y32_40 : iv_f1 (iv_p 32) 40 = some (.inl iv_oDup) := rfl
set_option maxRecDepth 100000 in
theorem y32_41 : iv_f1 (iv_p 32) 41 = some (.inl (iv_oGF 3 0)) := rfl
set_option maxRecDepth 100000 in
theorem y32_44 : iv_f1 (iv_p 32) 44 = some (.inl (iv_oK (.int (Int32.ofNat 1)) 1)) := rfl
set_option maxRecDepth 100000 in
theorem y32_45 : iv_f1 (iv_p 32) 45 = some (.inl (iv_oII fun x y => x + y)) := rfl
set_option maxRecDepth 100000 in
theorem y32_46 : iv_f1 (iv_p 32) 46 = some (.inl (iv_oPF 3 0 .int)) := rfl
set_option maxRecDepth 100000 in
theorem y32_49 : iv_f1 (iv_p 32) 49 = some (.inl (iv_oInc 2 (1))) := rfl
set_option maxRecDepth 100000 in
theorem y32_52 : iv_f1 (iv_p 32) 52 = some (.inl (iv_oGo (-46))) := rfl
set_option maxRecDepth 100000 in
theorem y32_55 : iv_f1 (iv_p 32) 55 = some (.inl (iv_oK (.int (Int32.ofNat 1)) 1)) := rfl
set_option maxRecDepth 100000 in
theorem y32_56 : iv_f1 (iv_p 32) 56 = some (.inr (.inl 2)) := rfl
theorem yCD_l {s : yS} {nb ng l : Nat} {D : Nat → Value} {σ σ1 : iv_H} {v : Value} (h : yCD s nb ng l D σ) (hm : mD σ σ1 20 (yob 3 16 (yuV D 0 (.int (Int32.ofNat (l + 1)))))) : yCD s nb ng (l + 1) (yuV D 0 (.int (Int32.ofNat (l + 1)))) σ1 := by
  obtain ⟨bn, bl, hd_, hl, gn, te, ed, ⟨g20, g22, g24, g26, g28, g30, g32, g34⟩, h2, ⟨_, d1, d2⟩, h4⟩ := h
  exact ⟨bn, bl, hd_, hl, gn, te, ed, ⟨hm.2.1, mD_n hm (by decide) g22, mD_n hm (by decide) g24, mD_n hm (by decide) g26, mD_n hm (by decide) g28, mD_n hm (by decide) g30, mD_n hm (by decide) g32, mD_n hm (by decide) g34⟩, h2, ⟨rfl, d1, d2⟩, h4⟩
theorem yCD_g {s : yS} {nb ng l : Nat} {D : Nat → Value} {σ : iv_H} (h : yCD s nb ng l D σ) : iv_get σ 20 = some (yob 3 16 D) ∧ D 0 = .int (Int32.ofNat l) := by
  obtain ⟨bn, bl, hd_, hl, gn, te, ed, ⟨g20, _⟩, _, ⟨d0, _⟩, _⟩ := h
  exact ⟨g20, d0⟩
/-- what reading an order leaves on the class's side -/
def yRO (T : Nat → Nat) (n m : Nat) (o : yE (yS × Nat)) (b : Bool) (V1 D1 : Nat → Value) (σ1 : iv_H) : Prop := match o with
  | .inl e => b = false ∧ yCB e V1 σ1
  | .inr q => b = true ∧ (iv_get σ1 356 = some (yob 5 13 V1) ∧ V1 11 = .int (Int32.ofNat 0)) ∧ ∃ nb ng, yCD q.1 nb ng q.2 D1 σ1 ∧ yCn q.1 nb ng
theorem yCM_pn {T : Nat → Nat} {n m p : Nat} {V : Nat → Value} {σ : iv_H} (h : yCM T n m p V σ) : p ≤ n := by
  obtain ⟨c, k, K, P, X, Q, ⟨⟨_, _, _, h⟩, _⟩, _⟩ := h
  exact h
theorem yd_rf1 {L : Nat} {xs : Nat → Int32} {d : Nat} {T : Nat → Nat} {n m : Nat} (hn : n ≤ 940) (hm : m ≤ 900) (hT : ∀ i, T i ≤ 255) : ∀ (f p l : Nat) (s : yS) (nb ng : Nat) (V D : Nat → Value) (σ : iv_H) (lv : iv_L), 941 ≤ f + p → 2 * l ≤ p → yCM T n m p V σ → yCD s nb ng l D σ → yCn s nb ng → iv_f1 lv 0 = some (.ref 20) → iv_f1 lv 1 = some (.ref 356) → iv_f1 lv 2 = some (.int (Int32.ofNat l)) → zGo L xs (fun r σ1 => ∃ b V1 D1, r = some (.int (yb b)) ∧ yRO T n m (yOrd T n m f s p l) b V1 D1 σ1 ∧ yFr [356, 20, 22, 24, 26, 28, 30, 32, 34] σ σ1) [] (d + 4) 32 6 lv [] σ := by
  intro f
  induction f with
  | zero =>
    intro p l s nb ng V D σ lv hf hl hC
    have hp := yCM_pn hC
    omega
  | succ f ih =>
    intro p l s nb ng V D σ lv hf hl hC hD hc l0 l1 l2
    have hp := yCM_pn hC
    obtain ⟨enb, eng⟩ := ynb_eq hc
    have un : yOrd T n m (f + 1) s p l = if ykd T n m p = 0 then .inr (s, l) else yThen (yLin T n m (ynb s) (yng s) s p) fun q => yThen (yEnd T n m q.2) fun p2 => yOrd T n m f q.1 p2 (l + 1) := rfl
    rw [enb, eng] at un
    have hv := yCM_v hT hC
    have g := yCM_g hC
    obtain ⟨g20, d0⟩ := yCD_g hD
    refine w_I y32_6 l2 ?_
    refine w_K y32_7 ?_
    refine y_icF y32_10 rfl (by omega) (by omega) (by simp only [zch]; omega) ?_
    refine w_A y32_13 l1 ?_
    refine y_call y32_14 (y_args6 g rfl rfl) rfl (yc_ovE hv g) ?_
    by_cases c0 : ykd T n m p = 0
    · refine w_ifT y32_17 rfl (y_bneT (decide_eq_true c0)) ?_
      refine w_K y32_55 ?_
      rw [if_pos c0] at un
      refine y_ret y32_56 rfl ⟨true, V, D, rfl, ?_, yF_rf⟩
      rw [un]
      exact And.intro rfl ⟨⟨g, yCM_11 hC⟩, nb, ng, hD, hc⟩
    · refine w_ifF y32_17 rfl (y_bneF (decide_eq_false c0)) ?_
      rw [if_neg c0] at un
      clear c0
      obtain ⟨b1, σ1, V1, D1, hr1, o1, f1⟩ := yd_lin (L := L) (xs := xs) (d := d + 3) (by omega) hm hT hC hD hc
      refine w_A y32_20 l0 ?_
      refine w_A y32_21 l1 ?_
      refine y_call y32_22 (y_args6 g20 rfl rfl) rfl hr1 ?_
      cases h1 : yLin T n m nb ng s p with
      | inl e =>
        rw [h1] at o1 un
        obtain ⟨rfl, hb1⟩ := (show _ ∧ _ from o1)
        refine w_ifT y32_25 rfl (y_beqT rfl) ?_
        refine w_K y32_37 ?_
        refine y_ret y32_38 rfl ⟨false, V1, D1, rfl, ?_, f1⟩
        rw [un]
        exact And.intro rfl hb1
      | inr q =>
        rw [h1] at o1 un
        obtain ⟨rfl, hC1, nb2, ng2, hD1, hc2⟩ := (show _ ∧ _ ∧ _ from o1)
        obtain ⟨hq, _⟩ := yLin_inr hc h1
        refine w_ifF y32_25 rfl (y_beqF rfl) ?_
        obtain ⟨b2, σ2, V2, hr2, o2, f2⟩ := yc_pm (L := L) (xs := xs) (d := d + 3) (by omega) hm hT hC1
        refine w_A y32_28 l1 ?_
        refine w_K y32_29 ?_
        refine y_call y32_31 (y_args6 (yCM_g hC1) rfl rfl) rfl hr2 ?_
        cases h2 : yEnd T n m q.2 with
        | inl e =>
          rw [h2] at o2
          rw [yThen_r, h2] at un
          obtain ⟨rfl, hb2⟩ := (show _ ∧ _ from o2)
          refine w_ifF y32_34 rfl (y_bneF rfl) ?_
          refine w_K y32_37 ?_
          refine y_ret y32_38 rfl ⟨false, V2, D1, rfl, ?_, yF_tr f1 (yF_sub (by rfl) f2)⟩
          rw [un]
          exact And.intro rfl hb2
        | inr p2 =>
          rw [h2] at o2
          rw [yThen_r, h2] at un
          have hp2 := yEnd_inr h2
          obtain ⟨rfl, hC2⟩ := (show _ ∧ _ from o2)
          have hD2 := yCD_fr hD1 f2
          obtain ⟨g20b, d0b⟩ := yCD_g hD2
          refine w_ifT y32_34 rfl (y_bneT rfl) ?_
          refine w_A y32_39 l0 ?_
          refine y_dup y32_40 rfl ?_
          refine y_gf y32_41 g20b rfl d0b ?_
          refine w_K y32_44 ?_
          refine w_add y32_45 ?_
          refine y_pf y32_46 g20b rfl rfl ?_
          intro σ3 m3
          refine w_inc y32_49 (x := l) l2 ?_
          refine w_go y32_52 rfl ?_
          have un2 : yOrd T n m (f + 1) s p l = yOrd T n m f q.1 p2 (l + 1) := un
          have hC3 := yCM_fr hC2 (show yFr [20, 22, 24, 26, 28, 30, 32, 34] _ _ from yF_D m3 (by rfl)) (by rfl)
          obtain ⟨r, σ4, h4, h5⟩ := ih p2 (l + 1) q.1 nb2 ng2 V2 _ σ3 _ (by omega) (by omega) hC3 (yCD_l (v := .null) hD2 m3) hc2 (y_l1 rfl rfl l0) (y_l1 rfl rfl l1) y_l0
          obtain ⟨b, V4, D4, e4, o4, f4⟩ := (show ∃ b V1 D1, r = some (.int (yb b)) ∧ yRO T n m (yOrd T n m f q.1 p2 (l + 1)) b V1 D1 σ4 ∧ yFr [356, 20, 22, 24, 26, 28, 30, 32, 34] σ3 σ4 from h5)
          exact ⟨r, σ4, h4, (show ∃ b V1 D1, r = some (.int (yb b)) ∧ yRO T n m (yOrd T n m (f + 1) s p l) b V1 D1 σ4 ∧ yFr [356, 20, 22, 24, 26, 28, 30, 32, 34] σ σ4 from ⟨b, V4, D4, e4, by rw [un2]; exact o4, yF_tr f1 (yF_tr (yF_sub (by rfl) f2) (yF_tr (yF_D m3 (by rfl)) f4))⟩)⟩
theorem yd_rf {L : Nat} {xs : Nat → Int32} {d : Nat} {T : Nat → Nat} {n m : Nat} {s : yS} {V D : Nat → Value} {σ : iv_H} (hd : 4 ≤ d) (hn : n ≤ 940) (hm : m ≤ 900) (hT : ∀ i, T i ≤ 255) (hi : yIni s) (hC : yCM T n m 0 V σ) (hD : yCc D σ) : ∃ b σ1 V1 D1, iv_Rn L xs d 32 0 (lv_args 0 [.ref 20, .ref 356]) [] σ (some (.int (yb b))) σ1 ∧ yRO T n m (yOrd T n m 941 s 0 0) b V1 D1 σ1 ∧ yFr [356, 20, 22, 24, 26, 28, 30, 32, 34] σ σ1 := by
  obtain ⟨d, rfl⟩ : ∃ e, d = e + 4 := ⟨d - 4, by omega⟩
  obtain ⟨σ1, r1, D1, hD1, f1⟩ := yd_clear (L := L) (xs := xs) (d := d + 3) (by omega) hD s.1 s.2.1 s.2.2 hi.1.2.2.1 hi.1.2.2.2.1 hi.1.2.2.2.2 hi.2.1 hi.2.2
  refine y_Rd ?_
  refine w_A y32_0 rfl ?_
  refine y_call0 y32_1 (y_args6 (yCc_g hD) rfl rfl) rfl r1 ?_
  refine w_K y32_4 ?_
  refine w_IS y32_5 ?_
  have hC1 := yCM_fr hC f1 (by rfl)
  obtain ⟨r, σ4, h4, h5⟩ := yd_rf1 (L := L) (xs := xs) (d := d) hn hm hT 941 0 0 s 0 0 V D1 σ1 ((2, Value.int (Int32.ofNat 0)) :: iv_d1 2 (lv_args 0 [.ref 20, .ref 356])) (by omega) (by omega) hC1 hD1 (yIni_cn hi) rfl rfl rfl
  obtain ⟨b, V4, D4, e4, o4, f4⟩ := (show ∃ b V1 D1, r = some (.int (yb b)) ∧ yRO T n m (yOrd T n m 941 s 0 0) b V1 D1 σ4 ∧ yFr [356, 20, 22, 24, 26, 28, 30, 32, 34] σ1 σ4 from h5)
  exact ⟨r, σ4, h4, (show ∃ b V1 D1, r = some (.int (yb b)) ∧ yRO T n m (yOrd T n m 941 s 0 0) b V1 D1 σ4 ∧ yFr [356, 20, 22, 24, 26, 28, 30, 32, 34] σ σ4 from ⟨b, V4, D4, e4, o4, yF_tr (yF_sub (by rfl) f1) f4⟩)⟩
