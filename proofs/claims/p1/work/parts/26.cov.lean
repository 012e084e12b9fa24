/-! ===== one command on the new objects, for every word 1 ===== -/
def sBk (a b : Int32) : Nat → Int32 × Int32 := fun k => match k with
  | 1 => (a, b)
  | _ => (-2147483648, 2147483647)
noncomputable def sOK (cs : Nat) (a b : Int32) : Bool := match srun 6 (sBk a b) 20000 21 iv_n cs sgl [] sg2 with
  | some (some (.int r), σ) => decide (r = 1) && (decide (σ.1 = 297) && decide (σ.2.2 ≤ 100000))
  | _ => false
def cov (lo : Int) : List (Int32 × Int32) → Bool
  | [] => decide (2147483647 < lo)
  | q :: r => decide (q.1.toInt ≤ lo) && cov (q.2.toInt + 1) r
theorem cov_ok (x : Int32) : ∀ (l : List (Int32 × Int32)) (lo : Int), cov lo l = true → lo ≤ x.toInt → ∃ q ∈ l, q.1 ≤ x ∧ x ≤ q.2 := by
  intro l
  induction l with
  | nil =>
    intro lo h hx
    have h1 : 2147483647 < lo := of_decide_eq_true h
    have h2 : x.toInt < 2147483648 := Int32.toInt_lt x
    omega
  | cons q r ih =>
    intro lo h hx
    have h0 : (decide (q.1.toInt ≤ lo) && cov (q.2.toInt + 1) r) = true := h
    rw [Bool.and_eq_true] at h0
    have h1 := of_decide_eq_true h0.1
    by_cases hq : x.toInt ≤ q.2.toInt
    · refine ⟨q, List.mem_cons_self, ?_, ?_⟩
      · rw [Int32.le_iff_toInt_le]; omega
      · rw [Int32.le_iff_toInt_le]; exact hq
    · obtain ⟨p, hp, h3⟩ := ih _ h0.2 (by omega)
      exact ⟨p, List.mem_cons_of_mem _ hp, h3⟩
theorem sOK_ok {cs : Nat} {a b : Int32} (h : sOK cs a b = true) (xs : Nat → Int32) (h1 : a ≤ xs 1) (h2 : xs 1 ≤ b) : ∃ σ', iv_Rn 6 xs 21 iv_n cs sgl [] sg2 (some (.int 1)) σ' ∧ σ'.1 = 297 ∧ σ'.2.2 ≤ 100000 := by
  unfold sOK at h
  split at h
  · rename_i r σ hr
    simp only [Bool.and_eq_true, decide_eq_true_eq] at h
    obtain ⟨rfl, h3, h4⟩ := h
    have hB : sBx 6 (sBk a b) xs := by
      intro s
      by_cases hs : s = 1
      · subst hs; exact ⟨h1, h2⟩
      · have e : sBk a b s = (-2147483648, 2147483647) := by
          unfold sBk
          split
          · exact absurd rfl hs
          · rfl
        rw [e, Int32.le_iff_toInt_le, Int32.le_iff_toInt_le]
        refine ⟨Int32.le_toInt _, ?_⟩
        have h9 := Int32.toInt_lt (xs s)
        rw [show ((2147483647 : Int32)).toInt = 2147483647 from by decide]
        omega
    exact ⟨σ, ⟨20000, (srun_ok hB _ _ _ _ _ _ _ _ _ hr).1⟩, h3, h4⟩
  · cases h
theorem sCase {cs : Nat} (l : List (Int32 × Int32)) (hc : cov (-2147483648) l = true) (h : l.all (fun q => sOK cs q.1 q.2) = true) (xs : Nat → Int32) : ∃ σ', iv_Rn 6 xs 21 iv_n cs sgl [] sg2 (some (.int 1)) σ' ∧ σ'.1 = 297 ∧ σ'.2.2 ≤ 100000 := by
  obtain ⟨q, hq, h1, h2⟩ := cov_ok (xs 1) l _ hc (Int32.le_toInt _)
  exact sOK_ok (List.all_eq_true.mp h q hq) xs h1 h2
