/-! ===== what the class sees of a token, told by the reference's words ===== -/
section YV
variable {T : Nat → Nat} {n m : Nat}
theorem ygd_of {b : Bool} {s : Nat} : ∀ {k : Nat}, (∀ i, i < k → ysL (T (s + i)) = b) → ygd T b s k = true
  | 0, _ => rfl
  | k + 1, h => by
    show (ygd T b s k && (ysL (T (s + k)) == b)) = true
    rw [ygd_of (fun i hi => h i (by omega)), h k (by omega)]
    cases b <;> rfl
theorem ydc_0 {s : Nat} : ∀ {k : Nat}, (∀ i, i < k → 97 ≤ T (s + i)) → ydc T s k = 0
  | 0, _ => rfl
  | k + 1, h => by
    show (if 97 ≤ T (s + k) then ydc T s k else ydc T s k + 1) = 0
    rw [if_pos (h k (by omega))]
    exact ydc_0 (fun i hi => h i (by omega))
theorem ylc_0 {s : Nat} : ∀ {k : Nat}, (∀ i, i < k → ¬ 97 ≤ T (s + i)) → ylc T s k = 0
  | 0, _ => rfl
  | k + 1, h => by
    show (if 97 ≤ T (s + k) then ylc T s k + 1 else ylc T s k) = 0
    rw [if_neg (h k (by omega))]
    exact ylc_0 (fun i hi => h i (by omega))
theorem yA_L {c : Nat} (h : ysA c = true) : (97 ≤ c ↔ ysL c = true) ∧ (¬ 97 ≤ c ↔ ysD c = true) := by
  rw [← ysA_d] at h
  have h := of_decide_eq_true h
  unfold ysL ysD
  rw [decide_eq_true_iff, decide_eq_true_iff]
  omega
theorem ynu_eq {s : Nat} : ∀ {k : Nat}, (∀ i, i < k → ysD (T (s + i)) = true) → ynu T s k = Int32.ofNat (ynN T s k)
  | 0, _ => rfl
  | k + 1, h => by
    have h1 := ynu_eq (k := k) (fun i hi => h i (by omega))
    have h3 := of_decide_eq_true (h k (by omega))
    show (if 97 ≤ T (s + k) then ynu T s k else ynu T s k * Int32.ofNat 10 + Int32.ofNat (T (s + k)) - Int32.ofNat 48) = Int32.ofNat (10 * ynN T s k + (T (s + k) - 48))
    rw [if_neg (by omega), h1, ← Int32.ofNat_mul, ← Int32.ofNat_add]
    have e2 : ynN T s k * 10 + T (s + k) = (10 * ynN T s k + (T (s + k) - 48)) + 48 := by omega
    rw [e2, Int32.ofNat_add, Int32.add_sub_cancel]
/-- the two kinds of one token -/
theorem ykc_kd {p s : Nat} (hs : ysk T n p = s) (h1 : s < n) (h2 : s < m) : (ykc T n s = 1 ↔ ykd T n m p = 2) ∧ (ykc T n s = 2 ↔ ykd T n m p = 3) ∧ (ykc T n s = 3 ↔ ykd T n m p = 4) ∧ 1 ≤ ykc T n s ∧ ykc T n s ≤ 4 ∧ (ykc T n s = 1 → (∀ i, i < yre T n s - s → ysL (T (s + i)) = true) ∧ yre T n s - s ≤ 7 ∧ 0 < yre T n s - s) ∧ (ykc T n s = 2 → (∀ i, i < yre T n s - s → ysD (T (s + i)) = true) ∧ yre T n s - s ≤ 3) := by
  have hkd : ykd T n m p = if ysA (T s) = true then ykw T n p else if ysM (T s) = true then 4 else 1 := by
    unfold ykd
    rw [hs, if_neg (fun h => by omega), if_neg (by omega)]
  rw [hkd]
  unfold ykc
  by_cases ha : ysA (T s) = true
  · rw [if_pos ha, if_pos ha]
    have hln : yln T n p = yre T n s - s := by unfold yln; rw [hs]
    have hgt := yre_gt (T := T) h1 ha
    generalize hk : yre T n s - s = k at *
    have hall : ∀ i, i < k → ysA (T (s + i)) = true := fun i hi => yre_an (T := T) (n := n) (i := s) rfl (s + i) (by omega) (by omega)
    have hsum := ylc_sum (T := T) (s := s) k
    have h0 : ysA (T (s + 0)) = true := hall 0 (by omega)
    by_cases c1 : ydc T s k = 0
    · have hL : ∀ i, i < k → ysL (T (s + i)) = true := fun i hi => (yA_L (hall i hi)).1.mp (ylc_all c1 i hi)
      have hL0 : ysL (T s) = true := hL 0 (by omega)
      have hg : ygd T (ysL (T s)) s k = true := by rw [hL0]; exact ygd_of hL
      by_cases c2 : k ≤ 7
      · rw [if_pos ⟨c1, by omega⟩, ykw_2 hln hs hg hL0 c2]
        exact ⟨by omega, by omega, by omega, by omega, by omega, fun _ => ⟨hL, c2, by omega⟩, fun h => by omega⟩
      · rw [if_neg (fun h => by omega), if_neg (fun h => by omega), ykw_1l hln hs hL0 (by omega)]
        exact ⟨by omega, by omega, by omega, by omega, by omega, fun h => by omega, fun h => by omega⟩
    · rw [if_neg (fun h => c1 h.1)]
      by_cases c3 : ylc T s k = 0
      · have hD : ∀ i, i < k → ¬ 97 ≤ T (s + i) := ydc_all c3
        have hD2 : ∀ i, i < k → ysD (T (s + i)) = true := fun i hi => (yA_L (hall i hi)).2.mp (hD i hi)
        have hN : ∀ i, i < k → ysL (T (s + i)) = false := fun i hi => by
          cases hx : ysL (T (s + i)) with
          | false => rfl
          | true => exact absurd ((yA_L (hall i hi)).1.mpr hx) (hD i hi)
        have hL0 : ysL (T s) = false := hN 0 (by omega)
        have hg : ygd T (ysL (T s)) s k = true := by rw [hL0]; exact ygd_of hN
        by_cases c4 : k ≤ 3
        · rw [if_pos ⟨c3, by omega⟩, ykw_3 hln hs hg hL0 c4]
          exact ⟨by omega, by omega, by omega, by omega, by omega, fun h => by omega, fun _ => ⟨hD2, c4⟩⟩
        · rw [if_neg (fun h => by omega), ykw_1d hln hs hL0 (by omega)]
          exact ⟨by omega, by omega, by omega, by omega, by omega, fun h => by omega, fun h => by omega⟩
      · rw [if_neg (fun h => c3 h.1)]
        have hg : ygd T (ysL (T s)) s k = false := by
          cases hx : ygd T (ysL (T s)) s k with
          | false => rfl
          | true =>
            have h5 := ygd_all hx
            cases hl : ysL (T s) with
            | true =>
              rw [hl] at h5
              exact absurd (ydc_0 (fun i hi => (yA_L (hall i hi)).1.mpr (h5 i hi))) c1
            | false =>
              rw [hl] at h5
              exact absurd (ylc_0 (fun i hi h6 => by
                have h7 := (yA_L (hall i hi)).1.mp h6
                rw [h5 i hi] at h7
                cases h7)) c3
        rw [ykw_1g hln hs hg]
        exact ⟨by omega, by omega, by omega, by omega, by omega, fun h => by omega, fun h => by omega⟩
  · rw [if_neg ha, if_neg ha]
    by_cases hm2 : ysM (T s) = true
    · rw [if_pos hm2, if_pos hm2]
      exact ⟨by omega, by omega, by omega, by omega, by omega, fun h => by omega, fun h => by omega⟩
    · rw [if_neg hm2, if_neg hm2]
      exact ⟨by omega, by omega, by omega, by omega, by omega, fun h => by omega, fun h => by omega⟩
end YV
/-- the class's word j, told by the reference's number -/
def yWj (r : Int64) (j : Nat) : Prop := j < 28 ∧ (j = 0 ↔ yNoW r = true) ∧ ∀ i, i < 27 → (j = i + 1 ↔ r = yWv i)
/-- how the class sees the token from p on -/
def yCv (T : Nat → Nat) (n m p : Nat) (V : Nat → Value) : Prop := ∃ (kc : Nat) (v : Int64) (j : Nat), (V 7 = .int (Int32.ofNat (yfm T n m p)) ∧ V 8 = .int (Int32.ofNat kc) ∧ V 9 = .ref (2 * j + 3) ∧ V 10 = .long v ∧ V 5 = .int (yb (decide (m < n)))) ∧ (j < 28 ∧ kc ≤ 4) ∧ ((kc = 0 ∧ ¬ m < n) ↔ ykd T n m p = 0) ∧ (kc = 1 ↔ ykd T n m p = 2) ∧ (kc = 2 ↔ ykd T n m p = 3) ∧ (kc = 3 ↔ ykd T n m p = 4) ∧ (kc = 0 → ykd T n m p ≤ 1) ∧ (kc = 1 → yRel (yrv T n p) v ∧ yWj (yrv T n p) j) ∧ (kc = 2 → v = Int64.ofNat (ynN T (ysk T n p) (yln T n p))) ∧ (kc = 3 → v = Int64.ofNat (T (ysk T n p))) ∧ (¬ kc = 1 → j = 0)
theorem yCM_v {T : Nat → Nat} {n m p : Nat} {V : Nat → Value} {σ : iv_H} (hT : ∀ i, T i ≤ 255) (h : yCM T n m p V σ) : yCv T n m p V := by
  obtain ⟨c, k, K, P, X, Q, ⟨⟨hc, hk, rfl, hpn⟩, ht, hge, k0, p0, q0⟩, _, _, _, v5, _, v7, v8, ⟨wd, hq, v9⟩, v10⟩ := h
  by_cases hkc : k = c
  · subst hkc
    rw [q0] at hq
    cases hq
    rw [k0] at v8
    rw [p0] at v7
    have hsn := ysk_le (T := T) hpn
    have efm : yfm T n m (ypk T n m k) = ylim n m := by
      unfold yfm ylim at *
      by_cases h1 : m < n
      · rw [if_pos h1] at hge ⊢
        rw [if_pos ⟨h1, hge⟩]
      · rw [if_neg h1] at hge ⊢
        rw [if_neg (fun h => h1 h.1)]
        omega
    have ekd : ykd T n m (ypk T n m k) = if m < n then 1 else 0 := by
      unfold ykd
      unfold ylim at hge
      by_cases h1 : m < n
      · rw [if_pos h1] at hge ⊢
        rw [if_pos ⟨h1, hge⟩]
      · rw [if_neg h1] at hge ⊢
        rw [if_neg (fun h => h1 h.1), if_pos (by omega)]
    refine ⟨0, X k, 0, ⟨by rw [efm]; exact v7, v8, v9, v10, v5⟩, ⟨by decide, by decide⟩, ?_⟩
    rw [ekd]
    by_cases h1 : m < n
    · rw [if_pos h1]
      exact ⟨⟨fun h => absurd h1 h.2, fun h => by omega⟩, by omega, by omega, by omega, by omega, fun h => by omega, fun h => by omega, fun h => by omega, fun _ => rfl⟩
    · rw [if_neg h1]
      exact ⟨⟨fun h => rfl, fun h => ⟨rfl, h1⟩⟩, by omega, by omega, by omega, by omega, fun h => by omega, fun h => by omega, fun h => by omega, fun _ => rfl⟩
  · obtain ⟨⟨hs1, hs2⟩, ek, ep, wd2, hq2, tc⟩ := ht k (by omega)
    rw [hq2] at hq
    cases hq
    rw [ek] at v8
    rw [ep] at v7
    obtain ⟨i1, i2, i3, l1, l2, w1, w2⟩ := ykc_kd (T := T) (n := n) (m := m) (p := ypk T n m k) rfl hs1 hs2
    obtain ⟨t1, t2, t3, t4⟩ := tc
    have efm : yfm T n m (ypk T n m k) = ysk T n (ypk T n m k) := by
      unfold yfm
      rw [if_neg (fun h => by omega)]
    have eln : yln T n (ypk T n m k) = yre T n (ysk T n (ypk T n m k)) - ysk T n (ypk T n m k) := rfl
    have ekd0 : ¬ ykd T n m (ypk T n m k) = 0 := by
      unfold ykd
      rw [if_neg (fun h => by omega), if_neg (by omega)]
      unfold ykw
      repeat' split
      all_goals omega
    have hj : ∃ j, wd = 2 * j + 3 ∧ j < 28 ∧ (ykc T n (ysk T n (ypk T n m k)) = 1 → yWj (yrv T n (ypk T n m k)) j) ∧ (¬ ykc T n (ysk T n (ypk T n m k)) = 1 → j = 0) := by
      by_cases h : ykc T n (ysk T n (ypk T n m k)) = 1
      · obtain ⟨_, j, hj, e, hw⟩ := t1 h
        obtain ⟨hL, h7, h0⟩ := w1 h
        obtain ⟨a1, a2⟩ := yj_iff hT h0 h7 hL hj hw
        exact ⟨j, e, hj, fun _ => ⟨hj, a1.trans yNoW_iff.symm, a2⟩, fun h2 => absurd h h2⟩
      · exact ⟨0, t4 h, by decide, fun h2 => absurd h2 h, fun _ => rfl⟩
    obtain ⟨j, rfl, hj28, j1, j2⟩ := hj
    refine ⟨ykc T n (ysk T n (ypk T n m k)), X k, j, ⟨by rw [efm]; exact v7, v8, v9, v10, v5⟩, ⟨hj28, l2⟩, ⟨fun h => by omega, fun h => absurd h ekd0⟩, i1, i2, i3, fun h => by omega, fun h => ⟨?_, j1 h⟩, fun h => ?_, fun h => ?_, j2⟩
    · obtain ⟨hL, h7, h0⟩ := w1 h
      rw [(t1 h).1]
      exact yk_rel h7 hL
    · obtain ⟨hD, h3⟩ := w2 h
      rw [t2 h, ynu_eq hD, y_i64, eln]
      have := (yn_eq (T := T) (s := ysk T n (ypk T n m k)) h3 hD).2
      have e10 : 10 ^ (yre T n (ysk T n (ypk T n m k)) - ysk T n (ypk T n m k)) ≤ 10 ^ 3 := Nat.pow_le_pow_right (by decide) h3
      omega
    · rw [t3 h, y_i64 (by have := hT (ysk T n (ypk T n m k)); omega)]
