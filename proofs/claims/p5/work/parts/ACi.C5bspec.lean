/-! ===== a whole order, told ===== -/
def ynb (s : yS) : Nat := (s.1 0).toNatClampNeg
def yng (s : yS) : Nat := (s.1 1).toNatClampNeg
def yCn (s : yS) (nb ng : Nat) : Prop := (s.1 0 = Int32.ofNat nb ∧ s.1 1 = Int32.ofNat ng) ∧ nb ≤ 7 ∧ ng ≤ 6
theorem ynb_eq {s : yS} {nb ng : Nat} (h : yCn s nb ng) : ynb s = nb ∧ yng s = ng := by
  obtain ⟨⟨h1, h2⟩, h3, h4⟩ := h
  unfold ynb yng
  rw [h1, h2]
  exact ⟨(ofNat_in (n := 100) (by omega) (by decide)).2.1, (ofNat_in (n := 100) (by omega) (by decide)).2.1⟩
/-- line after line -/
def yOrd (T : Nat → Nat) (n m : Nat) : Nat → yS → Nat → Nat → yE (yS × Nat)
  | 0, _, _, _ => .inl (0, 0)
  | f + 1, s, p, l => if ykd T n m p = 0 then .inr (s, l) else yThen (yLin T n m (ynb s) (yng s) s p) fun q => yThen (yEnd T n m q.2) fun p2 => yOrd T n m f q.1 p2 (l + 1)
section YOR
variable {T : Nat → Nat} {n m p : Nat} {s : yS}
theorem yto_ge : p ≤ yto T n m p := by
  have h1 := ysk_ge (T := T) (n := n) (i := p)
  have h2 := yre_ge (T := T) (n := n) (i := ysk T n p)
  unfold yto
  repeat' split
  all_goals omega
theorem yto_gt (h : 2 ≤ ykd T n m p) : p < yto T n m p := by
  have h1 := ysk_ge (T := T) (n := n) (i := p)
  unfold ykd at h
  unfold yto
  by_cases c1 : m < n ∧ m ≤ ysk T n p
  · rw [if_pos c1] at h; omega
  · rw [if_neg c1] at h ⊢
    by_cases c2 : n ≤ ysk T n p
    · rw [if_pos c2] at h; omega
    · rw [if_neg c2]
      by_cases c3 : ysA (T (ysk T n p)) = true
      · rw [if_pos c3]
        have := yre_gt (T := T) (n := n) (i := ysk T n p) (by omega) c3
        omega
      · rw [if_neg c3]
        omega
theorem yThen_inr {α β : Type} {o : yE α} {f : α → yE β} {q : β} (h : yThen o f = .inr q) : ∃ r, o = .inr r ∧ f r = .inr q := by
  cases o with
  | inl e => cases h
  | inr r => exact ⟨r, rfl, h⟩
theorem yPut_inr {i a b : Nat} {q : yS × Nat} (h : yPut T n m i a b s p = .inr q) : ∃ v, q = ((upd s.1 i (Int32.ofNat v), s.2), yto T n m p) := by
  cases hn : yNum T n m a b p with
  | inl e =>
    rw [yPut_l hn] at h
    cases h
  | inr r =>
    rw [yPut_r hn] at h
    obtain rfl := yNum_inr hn
    cases h
    exact ⟨_, rfl⟩
theorem yEnd_inr {q : Nat} (h : yEnd T n m p = .inr q) : p < q := by
  unfold yEnd at h
  split at h
  · rename_i h2
    cases h
    exact yto_gt (by omega)
  · cases h
theorem yTwo_inr {nb ng c0 most slot i1 a1 b1 i2 a2 b2 c : Nat} {q : yS × Nat} (h : yTwo T n m nb ng c0 most slot i1 a1 b1 i2 a2 b2 c s p = .inr q) : yto T n m p ≤ q.2 ∧ ¬ c = most ∧ ∃ v1 v2, q.1.1 = upd (upd (upd s.1 i1 (Int32.ofNat v1)) i2 (Int32.ofNat v2)) c0 (Int32.ofNat (c + 1)) := by
  obtain ⟨r1, h1, h⟩ := yThen_inr h
  obtain ⟨rfl, hc⟩ := yFst_inr h1
  obtain ⟨r2, h2, h⟩ := yThen_inr h
  obtain rfl := yNew_inr h2
  obtain ⟨r3, h3, h⟩ := yThen_inr h
  obtain ⟨v1, rfl⟩ := yPut_inr h3
  obtain ⟨r4, h4, h⟩ := yThen_inr h
  obtain ⟨v2, rfl⟩ := yPut_inr h4
  cases h
  refine ⟨?_, hc, v1, v2, rfl⟩
  have a1 := yto_ge (T := T) (n := n) (m := m) (p := yto T n m p)
  have a2 := yto_ge (T := T) (n := n) (m := m) (p := yto T n m (yto T n m p))
  have a3 := yto_ge (T := T) (n := n) (m := m) (p := yto T n m (yto T n m (yto T n m p)))
  exact Nat.le_trans a1 (Nat.le_trans a2 a3)
theorem yHol_inr {nb ng : Nat} {q : yS × Nat} (h : yHol T n m nb ng s p = .inr q) : yto T n m p ≤ q.2 ∧ ∃ b v, q.1.1 = upd s.1 (19 + b) v := by
  obtain ⟨b, h1, h⟩ := yThen_inr h
  split at h
  · obtain ⟨g, h2, h⟩ := yThen_inr h
    split at h
    · cases h
    · cases h
      exact ⟨Nat.le_trans yto_ge yto_ge, b, _, rfl⟩
  · cases h
theorem yOnc_inr {k hi : Nat} {q : yS × Nat} (h : yOnc T n m k hi s p = .inr q) : yto T n m p ≤ q.2 ∧ ∃ v, q.1.1 = upd s.1 (2 + k) v := by
  unfold yOnc at h
  split at h
  · obtain ⟨v, rfl⟩ := yPut_inr h
    exact ⟨yto_ge, _, rfl⟩
  · cases h
theorem yLin_inr {nb ng : Nat} {q : yS × Nat} (hn : yCn s nb ng) (h : yLin T n m nb ng s p = .inr q) : p < q.2 ∧ ∃ nb2 ng2, yCn q.1 nb2 ng2 := by
  obtain ⟨⟨hb, hg⟩, hb7, hg6⟩ := hn
  unfold yLin at h
  have kw : ∀ {i : Nat}, yisW T n m p i = true → p < yto T n m p := fun h => yto_gt (by rw [(of_decide_eq_true h).1]; exact Nat.le_refl 2)
  split at h
  · rename_i hw
    obtain ⟨h1, h2, v1, v2, e⟩ := yTwo_inr h
    refine ⟨Nat.lt_of_lt_of_le (kw hw) h1, nb + 1, ng, ⟨⟨?_, ?_⟩, by omega, hg6⟩⟩
    · rw [e, upd_at, if_pos rfl]
    · rw [e, upd_at, if_neg (by omega), upd_at, if_neg (by omega), upd_at, if_neg (by omega)]
      exact hg
  · split at h
    · rename_i hw
      obtain ⟨h1, h2, v1, v2, e⟩ := yTwo_inr h
      refine ⟨Nat.lt_of_lt_of_le (kw hw) h1, nb, ng + 1, ⟨⟨?_, ?_⟩, hb7, by omega⟩⟩
      · rw [e, upd_at, if_neg (by omega), upd_at, if_neg (by omega), upd_at, if_neg (by omega)]
        exact hb
      · rw [e, upd_at, if_pos rfl]
    · split at h
      · rename_i hw
        obtain ⟨h1, b, v, e⟩ := yHol_inr h
        refine ⟨Nat.lt_of_lt_of_le (kw hw) h1, nb, ng, ⟨⟨?_, ?_⟩, hb7, hg6⟩⟩
        · rw [e, upd_at, if_neg (by omega)]
          exact hb
        · rw [e, upd_at, if_neg (by omega)]
          exact hg
      · have key : ∀ {k hi : Nat}, yisW T n m p (3 + k) = true → yOnc T n m k hi s p = .inr q → p < q.2 ∧ ∃ nb2 ng2, yCn q.1 nb2 ng2 := fun {k hi} hw h => by
          obtain ⟨h1, v, e⟩ := yOnc_inr h
          refine ⟨Nat.lt_of_lt_of_le (kw hw) h1, nb, ng, ⟨⟨?_, ?_⟩, hb7, hg6⟩⟩
          · rw [e, upd_at, if_neg (by omega)]
            exact hb
          · rw [e, upd_at, if_neg (by omega)]
            exact hg
        split at h
        · rename_i hw
          exact key (k := 0) hw h
        · split at h
          · rename_i hw
            exact key (k := 1) hw h
          · split at h
            · rename_i hw
              exact key (k := 2) hw h
            · cases h
end YOR
