/-! ===== the start, looked at by the kernel ===== -/
set_option maxRecDepth 100000 in
theorem sg3_z : zIB z_τ z_ty sg3 = true := by decide +kernel
set_option maxRecDepth 100000 in
theorem sg3_m : zIB m_τ m_ty sg3 = true := by decide +kernel
set_option maxRecDepth 100000 in
theorem sg2_bk : (bkB sg2 376 && (bkB sg2 378 && (bkB sg2 380 && bkB sg2 382))) = true := by decide +kernel
def fBT (σ : iv_H) : Bool := match fB σ, fT σ with
  | some (.int x), some (.int y) => decide (x = 0) && decide (y = 0)
  | _, _ => false
def outB (σ : iv_H) : Bool := match iv_get σ 592 with
  | some (.inl (1, n, .inr (.inl _))) => Nat.beq n 1
  | _ => false
theorem outB_ok {σ : iv_H} (h : outB σ = true) : Out σ := by
  unfold outB at h
  split at h
  · rename_i n f hg
    rw [Nat.eq_of_beq_eq_true h] at hg
    exact ⟨f, hg⟩
  · cases h
set_option maxRecDepth 100000 in
theorem sg3_j : (mJB sg3 && (fBT sg3 && (decide (sg3.1 = 297) && (decide (sg3.2.2 ≤ 100000) && outB sg3)))) = true := by decide +kernel
theorem bkB_ok {σ : iv_H} {a : Nat} (h : bkB σ a = true) : ∃ f : Nat → Int32, iv_get σ a = some (.inl (0, 40, .inl f)) ∧ ∀ i, i < 40 → f i = 0 := by
  unfold bkB at h
  split at h
  · rename_i n f hg
    rw [Bool.and_eq_true] at h
    rw [Nat.eq_of_beq_eq_true h.1] at hg
    exact ⟨f, hg, fun i hi => of_decide_eq_true (allB_ok h.2 i hi)⟩
  · cases h
theorem sg2_b : ∀ a, a = 376 ∨ a = 378 ∨ a = 380 ∨ a = 382 → ∃ f : Nat → Int32, iv_get sg2 a = some (.inl (0, 40, .inl f)) ∧ ∀ i, i < 40 → f i = 0 := by
  have h := sg2_bk
  rw [Bool.and_eq_true, Bool.and_eq_true, Bool.and_eq_true] at h
  intro a ha
  rcases ha with rfl | rfl | rfl | rfl
  · exact bkB_ok h.1
  · exact bkB_ok h.2.1
  · exact bkB_ok h.2.2.1
  · exact bkB_ok h.2.2.2
theorem sg3_g : iv_get sg3 376 = some bkE ∧ iv_get sg3 378 = some bkE ∧ iv_get sg3 380 = some bkE ∧ iv_get sg3 382 = some bkE := by
  obtain ⟨f1, a1, _⟩ := sg2_b 376 (.inl rfl)
  obtain ⟨f2, a2, _⟩ := sg2_b 378 (.inr (.inl rfl))
  obtain ⟨f3, a3, _⟩ := sg2_b 380 (.inr (.inr (.inl rfl)))
  obtain ⟨f4, a4, _⟩ := sg2_b 382 (.inr (.inr (.inr rfl)))
  unfold sg3
  have b1 := iv_gp_s (y := bkE) a1
  have b2 := iv_gp_n (y := bkE) a1 a2 (by decide)
  have b3 := iv_gp_n (y := bkE) a1 a3 (by decide)
  have b4 := iv_gp_n (y := bkE) a1 a4 (by decide)
  have c1 := iv_gp_n (y := bkE) b2 b1 (by decide)
  have c2 := iv_gp_s (y := bkE) b2
  have c3 := iv_gp_n (y := bkE) b2 b3 (by decide)
  have c4 := iv_gp_n (y := bkE) b2 b4 (by decide)
  have d1 := iv_gp_n (y := bkE) c3 c1 (by decide)
  have d2 := iv_gp_n (y := bkE) c3 c2 (by decide)
  have d3 := iv_gp_s (y := bkE) c3
  have d4 := iv_gp_n (y := bkE) c3 c4 (by decide)
  exact ⟨iv_gp_n (y := bkE) d4 d1 (by decide), iv_gp_n (y := bkE) d4 d2 (by decide), iv_gp_n (y := bkE) d4 d3 (by decide), iv_gp_s (y := bkE) d4⟩
theorem sg3_zJ : z_J sg3 := by
  intro a1 a2 a3 a4 u1 u2 u3 u4 s1 s2 s3 s4 h1 h2 h3 h4 y1 y2 y3 y4 z1 z2 z3 z4 j
  obtain ⟨w1, w2, w3, w4⟩ := sg3_g
  have o1 : a1 = 376 := z_un 30 188 (by decide) (by decide +kernel) a1 y1
  have o2 : a2 = 378 := z_un 31 189 (by decide) (by decide +kernel) a2 y2
  have o3 : a3 = 380 := z_un 32 190 (by decide) (by decide +kernel) a3 y3
  have o4 : a4 = 382 := z_un 33 191 (by decide) (by decide +kernel) a4 y4
  rw [o1, w1] at z1
  rw [o2, w2] at z2
  rw [o3, w3] at z3
  rw [o4, w4] at z4
  cases z1
  cases z2
  cases z3
  cases z4
  have e0 : (0 : Int32).toInt = 0 := by decide
  rw [e0]
  exact ⟨_, List.mem_cons_self, rfl, ⟨by decide, by decide⟩, ⟨by decide, by decide⟩, by decide, by decide⟩
theorem sg3_inv0 : InvQ Out 0 0 sg3 := by
  have h := sg3_j
  rw [Bool.and_eq_true, Bool.and_eq_true, Bool.and_eq_true, Bool.and_eq_true] at h
  obtain ⟨h1, h2, h3, h4, h5⟩ := h
  have hI := zIB_ok sg3_z (fun a T hT => ⟨(z_typed hT).1, by have := (z_typed hT).2; omega⟩)
  have hM := zIB_ok sg3_m (fun a T hT => ⟨(m_typed hT).1, by have := (m_typed hT).2.2; omega⟩)
  refine ⟨⟨hI, sg3_zJ⟩, ⟨hM, ?_, trivial⟩, ?_, of_decide_eq_true h3, of_decide_eq_true h4, outB_ok h5⟩
  · unfold mJB at h1
    simp only [Bool.and_eq_true, decide_eq_true_eq] at h1
    obtain ⟨⟨a1, a2, a3, a4⟩, ⟨b1, b2⟩, c1, c2, c3⟩ := h1
    have e0 : (0 : Int32).toInt = 0 := by decide
    obtain ⟨fs, g1, _⟩ := m_G hM
    have s1 : ∀ b : Nat, b < 7 → (mA sg3 552 (49 + b)).toInt < 0 ∧ (mA sg3 554 (19 + b)).toInt < 0 := fun b hb => by
      have q := allB_ok b1 b hb
      simpa only [Bool.and_eq_true, decide_eq_true_eq] using q
    have s2 : ∀ k : Nat, k < 60 → mA sg3 552 (134 + 4 * k) = 0 ∧ mA sg3 590 (4 * k) = 0 := fun k hk => by
      have q := allB_ok b2 k hk
      simpa only [Bool.and_eq_true, decide_eq_true_eq] using q
    have rd : ∀ (x y : Int) (k : Nat), rowD (0 : Int32).toInt x y k := fun x y k => ⟨fun e => by rw [e0] at e; omega, fun e => by rw [e0] at e; omega⟩
    refine ⟨⟨fs, g1⟩, ⟨⟨fun g hg => ?_, fun b hb => ?_⟩, fun b hb => ?_, fun k hk => ?_⟩, ⟨⟨fun g hg => ?_, fun b hb => ?_⟩, fun b hb => ?_⟩, fun k hk => ?_, fun r hr => ?_, fun r hr => ?_, fun k hk hk1 => ?_⟩
    · have hg : (g : Int) < (mA sg3 552 1).toInt := hg
      rw [a2, e0] at hg
      omega
    · have hb : (b : Int) < (mA sg3 552 0).toInt := hb
      rw [a1, e0] at hb
      omega
    · show (mA sg3 552 (0 + 49 + b)).toInt < (mA sg3 552 1).toInt
      rw [a2, e0, show 0 + 49 + b = 49 + b by omega]
      exact (s1 b hb).1
    · show rowD (mA sg3 552 (0 + 134 + 4 * k)).toInt _ _ k
      rw [show 0 + 134 + 4 * k = 134 + 4 * k by omega, (s2 k hk).1]
      exact rd _ _ k
    · have hg : (g : Int) < (mA sg3 554 1).toInt := hg
      rw [a4, e0] at hg
      omega
    · have hb : (b : Int) < (mA sg3 554 0).toInt := hb
      rw [a3, e0] at hb
      omega
    · rw [a4, e0]
      exact (s1 b hb).2
    · show rowD (mA sg3 590 (0 + 4 * k)).toInt _ _ k
      rw [show 0 + 4 * k = 4 * k by omega, (s2 k hk).2]
      exact rd _ _ k
    · omega
    · rw [c1] at hr
      omega
    · have hk : k = 0 ∨ k = 1 := by omega
      rcases hk with rfl | rfl
      · rw [c2] at hk1
        exact absurd hk1 (by decide)
      · rw [c3] at hk1
        exact absurd hk1 (by decide)
  · unfold fBT at h2
    split at h2
    · rename_i x y hx hy
      rw [Bool.and_eq_true] at h2
      rw [of_decide_eq_true h2.1] at hx
      rw [of_decide_eq_true h2.2] at hy
      exact ⟨hx, hy⟩
    · cases h2
