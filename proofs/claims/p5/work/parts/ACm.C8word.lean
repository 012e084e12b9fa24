/-! ===== the class: which word stands there ===== -/
def ysd (T : Nat → Nat) (s k j : Nat) : Prop := k = (iv_sx (2 * j + 203)).length ∧ ∀ i, i < k → iv_nth (iv_sx (2 * j + 203)) i = some (Int32.ofNat (T (s + i)))
section Y8
variable {L : Nat} {xs : Nat → Int32} {Post : Option Value → iv_H → Prop} {d : Nat} {σ : iv_H} {T : Nat → Nat}
theorem y8_loop {j : Nat} (hj : j < 28) (hg : iv_get σ 2 = some (yai 940 (ytp T))) {p q : Nat} (hq : q = (iv_sx (2 * j + 203)).length) (hpq : p + q ≤ 940) (k0 : ¬ ysd T p q j → Post (some (.int (Int32.ofNat 0))) σ) (k1 : ysd T p q j → Post (some (.int (Int32.ofNat 1))) σ) : ∀ (t i : Nat), i + t = q → (∀ x, x < i → iv_nth (iv_sx (2 * j + 203)) x = some (Int32.ofNat (T (p + x)))) → ∀ lv : iv_L, iv_f1 lv 0 = some (.ref (2 * j + 3)) → iv_f1 lv 1 = some (.ref 2) → iv_f1 lv 2 = some (.int (Int32.ofNat p)) → iv_f1 lv 3 = some (.int (Int32.ofNat q)) → iv_f1 lv 4 = some (.int (Int32.ofNat i)) → zGo L xs Post [] d 111 28 lv [] σ := by
  have hq7 : q ≤ 7 := by rw [hq]; exact (s_sx _).1
  intro t
  induction t with
  | zero =>
    intro i hi hx lv l0 l1 l2 l3 l4
    refine w_I f111_28 l4 ?_
    refine w_I f111_30 l3 ?_
    refine w_icT f111_31 rfl (c_geT (by omega) (by omega)) ?_
    refine w_K f111_60 ?_
    exact w_ret2 f111_61 (by decide) (k1 ⟨hq, fun x h => hx x (by omega)⟩)
  | succ t ih =>
    intro i hi hx lv l0 l1 l2 l3 l4
    obtain ⟨v, hv⟩ := iv_nth_some (l := iv_sx (2 * j + 203)) (n := i) (by omega)
    refine w_I f111_28 l4 ?_
    refine w_I f111_30 l3 ?_
    refine w_icF f111_31 rfl (c_geF (by omega) (by omega)) ?_
    refine w_A f111_34 l1 ?_
    refine w_I f111_35 l2 ?_
    refine w_I f111_36 l4 ?_
    refine w_add f111_38 ?_
    refine y_il f111_39 hg rfl rfl (by omega) (by decide) ?_
    refine w_A f111_40 l0 ?_
    refine w_wt hj f111_41 ?_
    refine w_I f111_44 l4 ?_
    refine w_sc (by omega) hv rfl f111_46 ?_
    by_cases hc : ytp T (p + i) = v
    · refine w_icT f111_49 rfl (c_eq hc) ?_
      refine w_inc f111_54 l4 ?_
      refine w_go f111_57 rfl ?_
      exact ih (i + 1) (by omega) (fun x h => by
        by_cases e : x = i
        · rw [e, hv, ← hc]
          rfl
        · exact hx x (by omega)) _ (lv_s l0 (by decide) cR) (lv_s l1 (by decide) cR) (lv_s l2 (by decide) cI) (lv_s l3 (by decide) cI) lv_e
    · refine w_icF f111_49 rfl (c_ne hc) ?_
      refine w_K f111_52 ?_
      exact w_ret2 f111_53 (by decide) (k0 (fun h => hc (by
        have h2 := h.2 i (by omega)
        rw [hv] at h2
        simp only [Option.some.injEq] at h2
        exact h2.symm)))
theorem y8_std {j : Nat} (hj : j < 28) (hg : iv_get σ 2 = some (yai 940 (ytp T))) {p q : Nat} (hp : p + q ≤ 940) (hq : q ≤ 7) (k0 : ¬ ysd T p q j → Post (some (.int (Int32.ofNat 0))) σ) (k1 : ysd T p q j → Post (some (.int (Int32.ofNat 1))) σ) {lv : iv_L} (l0 : iv_f1 lv 0 = some (.ref (2 * j + 3))) (l1 : iv_f1 lv 1 = some (.ref 2)) (l2 : iv_f1 lv 2 = some (.int (Int32.ofNat p))) (l3 : iv_f1 lv 3 = some (.int (Int32.ofNat q))) : zGo L xs Post [] d 111 0 lv [] σ := by
  refine w_I f111_0 l3 ?_
  refine w_A f111_1 l0 ?_
  refine w_wt hj f111_2 ?_
  refine w_sl (by omega) rfl f111_5 ?_
  by_cases hc : Int32.ofNat q = Int32.ofNat (iv_sx (2 * j + 203)).length
  · have hl := (s_sx (2 * j + 203)).1
    have e1 := congrArg Int32.toInt hc
    rw [i32_ev (by omega), i32_ev (by omega)] at e1
    have e2 : q = (iv_sx (2 * j + 203)).length := by omega
    refine w_icF f111_8 rfl (c_nF hc) ?_
    refine w_I f111_11 l2 ?_
    refine w_ifF f111_12 rfl (c_lt0 (by omega)) ?_
    refine w_I f111_15 l2 ?_
    refine w_I f111_16 l3 ?_
    refine w_add f111_17 ?_
    refine w_A f111_18 l1 ?_
    refine y_len f111_19 hg rfl ?_
    refine w_icT f111_20 rfl (c_leT hp (by omega)) ?_
    refine w_K f111_25 ?_
    refine w_IS f111_26 ?_
    exact y8_loop hj hg e2 hp k0 k1 q 0 (by omega) (fun x h => by omega) _ (lv_s l0 (by decide) cR) (lv_s l1 (by decide) cR) (lv_s l2 (by decide) cI) (lv_s l3 (by decide) cI) lv_e
  · refine w_icT f111_8 rfl (c_nT hc) ?_
    refine w_K f111_23 ?_
    exact w_ret2 f111_24 (by decide) (k0 (fun h => hc (by rw [← h.1])))
/-- Word.at: the first that stands there, else the one without letters -/
theorem y8_at (hg : iv_get σ 2 = some (yai 940 (ytp T))) {p q : Nat} (hp : p + q ≤ 940) (hq : q ≤ 7) (kW : ∀ j : Nat, j < 28 → ysd T p q j → Post (some (.ref (2 * j + 3))) σ) (kO : (∀ j, j < 28 → ¬ ysd T p q j) → Post (some (.ref 3)) σ) : ∀ (t i : Nat), i + t = 28 → (∀ j, j < i → ¬ ysd T p q j) → ∀ lv : iv_L, iv_f1 lv 0 = some (.ref 2) → iv_f1 lv 1 = some (.int (Int32.ofNat p)) → iv_f1 lv 2 = some (.int (Int32.ofNat q)) → iv_f1 lv 3 = some (.int (Int32.ofNat i)) → zGo L xs Post [] (d + 1) 110 2 lv [] σ := by
  intro t
  induction t with
  | zero =>
    intro i hi hx lv l0 l1 l2 l3
    refine w_I f110_2 l3 ?_
    refine w_gs f110_3 ?_
    refine w_lA f110_6 ?_
    refine w_icT f110_7 rfl (c_geT (by omega) (by omega)) ?_
    refine w_gs f110_36 ?_
    exact w_ret4 f110_39 (kO (fun j hj => hx j (by omega)))
  | succ t ih =>
    intro i hi hx lv l0 l1 l2 l3
    refine w_I f110_2 l3 ?_
    refine w_gs f110_3 ?_
    refine w_lA f110_6 ?_
    refine w_icF f110_7 rfl (c_geF (by omega) (by decide)) ?_
    refine w_gs f110_10 ?_
    refine w_I f110_13 l3 ?_
    refine w_qA (by omega) f110_14 ?_
    refine w_A f110_15 l0 ?_
    refine w_I f110_16 l1 ?_
    refine w_I f110_17 l2 ?_
    refine w_call f110_18 (s_args (by omega)) rfl ?_
    refine y8_std (j := i) (by omega) hg hp hq ?_ ?_ rfl rfl rfl rfl
    · intro hs
      show zGo L xs Post [] (d + 1) 110 21 lv [.int (Int32.ofNat 0)] σ
      refine w_ifT f110_21 rfl (by decide) ?_
      refine w_inc f110_30 l3 ?_
      refine w_go f110_33 rfl ?_
      exact ih (i + 1) (by omega) (fun j hj => by
        by_cases e : j = i
        · rw [e]
          exact hs
        · exact hx j (by omega)) _ (lv_s l0 (by decide) cR) (lv_s l1 (by decide) cI) (lv_s l2 (by decide) cI) lv_e
    · intro hs
      show zGo L xs Post [] (d + 1) 110 21 lv [.int (Int32.ofNat 1)] σ
      refine w_ifF f110_21 rfl (by decide) ?_
      refine w_gs f110_24 ?_
      refine w_I f110_27 l3 ?_
      refine w_qA (by omega) f110_28 ?_
      exact w_ret4 f110_29 (kW i (by omega) hs)
end Y8
theorem yc_at {L : Nat} {xs : Nat → Int32} {d : Nat} {σ : iv_H} {T : Nat → Nat} (hg : iv_get σ 2 = some (yai 940 (ytp T))) {p q : Nat} (hp : p + q ≤ 940) (hq : q ≤ 7) : ∃ j, j < 28 ∧ iv_Rn L xs (d + 1) 110 0 (lv_args 0 [.ref 2, .int (Int32.ofNat p), .int (Int32.ofNat q)]) [] σ (some (.ref (2 * j + 3))) σ ∧ (ysd T p q j ∨ (j = 0 ∧ ∀ i, i < 28 → ¬ ysd T p q i)) := by
  obtain ⟨r, σ', hR, hQ⟩ := w_K (Post := fun r σ' => ∃ j : Nat, j < 28 ∧ r = some (.ref (2 * j + 3)) ∧ σ' = σ ∧ (ysd T p q j ∨ (j = 0 ∧ ∀ i, i < 28 → ¬ ysd T p q i))) (L := L) (xs := xs) (d := d + 1) (lv := lv_args 0 [.ref 2, .int (Int32.ofNat p), .int (Int32.ofNat q)]) (st := []) (σ := σ) f110_0 (w_IS f110_1 (y8_at hg hp hq (fun j hj h => ⟨j, hj, rfl, rfl, .inl h⟩) (fun h => ⟨0, by decide, rfl, rfl, .inr ⟨rfl, h⟩⟩) 28 0 rfl (fun j hj => by omega) _ rfl rfl rfl rfl))
  have hQ : ∃ j : Nat, j < 28 ∧ r = some (.ref (2 * j + 3)) ∧ σ' = σ ∧ (ysd T p q j ∨ (j = 0 ∧ ∀ i, i < 28 → ¬ ysd T p q i)) := hQ
  obtain ⟨j, hj, rfl, rfl, h⟩ := hQ
  exact ⟨j, hj, hR, h⟩
