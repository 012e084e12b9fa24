/-! ===== the two new objects ===== -/
def sg0 : iv_H := (0, fun _ => .inr (0, []), 0)
def sgz : Nat → Int32 := fun _ => 0
def sgl : iv_L := [(4, .int 0), (3, .ref 592), (2, .ref 548), (1, .ref 0), (0, .ref 1)]
noncomputable def sgP : Option (iv_L × List Value × iv_H) := iv_part 0 sgz 23 40000 22 21 iv_n 0 [(0, .ref 1)] [] sg0
noncomputable def sg2 : iv_H := match sgP with
  | some (_, _, σ) => σ
  | none => sg0
set_option maxRecDepth 100000 in
theorem sgP_ok : (match sgP with | some (lv, st, σ) => decide (lv = sgl) && (decide (st = []) && (decide (σ.1 = 297) && decide (σ.2.2 ≤ 100000))) | none => false) = true := by decide +kernel
theorem sgP_eq : sgP = some (sgl, [], sg2) ∧ sg2.1 = 297 ∧ sg2.2.2 ≤ 100000 := by
  have h := sgP_ok
  unfold sg2
  cases hq : sgP with
  | none => rw [hq] at h; cases h
  | some q =>
    obtain ⟨lv, st, σ⟩ := q
    rw [hq] at h
    simp only [Bool.and_eq_true, decide_eq_true_eq] at h
    obtain ⟨rfl, rfl, h3, h4⟩ := h
    exact ⟨rfl, h3, h4⟩
