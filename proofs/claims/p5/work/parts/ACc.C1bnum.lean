/-! what a number is; how far a token reaches -/
section YN
variable {T : Nat → Nat} {n m p : Nat}
theorem yre_an : ∀ {j i : Nat}, n - i = j → ∀ x, i ≤ x → x < yre T n i → ysA (T x) = true := by
  intro j
  induction j with
  | zero =>
    intro i hj x h1 h2
    rw [yre_e (fun h => by omega)] at h2
    omega
  | succ j ih =>
    intro i hj x h1 h2
    by_cases hb : i < n ∧ ysA (T i) = true
    · rw [yre_s hb.1 hb.2] at h2
      by_cases e : x = i
      · rw [e]
        exact hb.2
      · exact ih (by omega) x (by omega) h2
    · rw [yre_e hb] at h2
      omega
theorem ygd_all {b : Bool} {s : Nat} : ∀ {k : Nat}, ygd T b s k = true → ∀ i, i < k → ysL (T (s + i)) = b
  | 0, _, _, h => by omega
  | k + 1, h, i, hi => by
    have h : (ygd T b s k && (ysL (T (s + k)) == b)) = true := h
    rw [Bool.and_eq_true] at h
    by_cases e : i = k
    · rw [e]
      exact eq_of_beq h.2
    · exact ygd_all h.1 i (by omega)
def ynN (T : Nat → Nat) (s : Nat) : Nat → Nat
  | 0 => 0
  | k + 1 => 10 * ynN T s k + (T (s + k) - 48)
theorem yn_eq {s : Nat} : ∀ {k : Nat}, k ≤ 3 → (∀ i, i < k → ysD (T (s + i)) = true) → yn T s k = Int32.ofNat (ynN T s k) ∧ ynN T s k < 10 ^ k
  | 0, _, _ => ⟨rfl, (by decide : 0 < 10 ^ 0)⟩
  | k + 1, hk, h => by
    obtain ⟨h1, h2⟩ := yn_eq (k := k) (by omega) (fun i hi => h i (by omega))
    have h3 := of_decide_eq_true (h k (by omega))
    have e : 10 ^ (k + 1) = 10 * 10 ^ k := by rw [Nat.pow_succ, Nat.mul_comm]
    refine ⟨?_, by show 10 * ynN T s k + (T (s + k) - 48) < 10 ^ (k + 1); omega⟩
    show (if k < 3 then Int32.ofNat 10 * yn T s k + Int32.ofNat (T (s + k)) - Int32.ofNat 48 else yn T s k) = Int32.ofNat (10 * ynN T s k + (T (s + k) - 48))
    rw [if_pos (by omega), h1, ← Int32.ofNat_mul, ← Int32.ofNat_add]
    have e2 : 10 * ynN T s k + T (s + k) = (10 * ynN T s k + (T (s + k) - 48)) + 48 := by omega
    rw [e2, Int32.ofNat_add, Int32.add_sub_cancel]
theorem yto_le (hn : n ≤ 940) (hp : p ≤ 940) : yto T n m p ≤ 940 := by
  have hsk : ysk T n p ≤ 940 := by
    by_cases h : p ≤ n
    · have := ysk_le (T := T) h
      omega
    · rw [ysk_e (fun h2 => by omega)]
      exact hp
  unfold yto
  split
  · exact hsk
  · split
    · exact hsk
    · split
      · have := yre_le (T := T) (n := n) (i := ysk T n p) (by omega)
        omega
      · omega
theorem ykd_le : ykd T n m p ≤ 4 := by
  unfold ykd ykw
  repeat' split
  all_goals omega
theorem ykd_w (h : ykd T n m p = 2 ∨ ykd T n m p = 3) : ysk T n p < n ∧ ysA (T (ysk T n p)) = true ∧ ykd T n m p = ykw T n p := by
  unfold ykd at h ⊢
  by_cases h1 : m < n ∧ m ≤ ysk T n p
  · rw [if_pos h1] at h; omega
  · rw [if_neg h1] at h ⊢
    by_cases h2 : n ≤ ysk T n p
    · rw [if_pos h2] at h; omega
    · rw [if_neg h2] at h ⊢
      by_cases h3 : ysA (T (ysk T n p)) = true
      · rw [if_pos h3]
        exact ⟨by omega, h3, rfl⟩
      · rw [if_neg h3] at h
        split at h <;> omega
theorem ykd_num (h : ykd T n m p = 3) : yn T (ysk T n p) (yln T n p) = Int32.ofNat (ynN T (ysk T n p) (yln T n p)) ∧ ynN T (ysk T n p) (yln T n p) ≤ 999 := by
  obtain ⟨h1, h2, h3⟩ := ykd_w (.inr h)
  rw [h3] at h
  unfold ykw at h
  by_cases hc : ygd T (ysL (T (ysk T n p))) (ysk T n p) (yln T n p) = true ∧ yln T n p ≤ (if ysL (T (ysk T n p)) = true then 7 else 3)
  · rw [if_pos hc] at h
    by_cases hl : ysL (T (ysk T n p)) = true
    · rw [if_pos hl] at h; omega
    · rw [if_neg hl] at hc
      have hl2 : ysL (T (ysk T n p)) = false := by cases hx : ysL (T (ysk T n p)) with
        | false => rfl
        | true => exact absurd hx hl
      have hd : ∀ i, i < yln T n p → ysD (T (ysk T n p + i)) = true := fun i hi => by
        have a := ygd_all hc.1 i hi
        rw [hl2] at a
        have b := yre_an (T := T) (n := n) (i := ysk T n p) rfl (ysk T n p + i) (by omega) (by unfold yln at hi; omega)
        unfold ysA at b
        rw [a, Bool.false_or] at b
        exact b
      obtain ⟨e1, e2⟩ := yn_eq hc.2 hd
      refine ⟨e1, ?_⟩
      have : 10 ^ (yln T n p) ≤ 10 ^ 3 := Nat.pow_le_pow_right (by decide) hc.2
      omega
  · rw [if_neg hc] at h; omega
end YN
