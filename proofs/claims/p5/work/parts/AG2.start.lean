/-! ===== the start with both tapes: what lies behind their ends is told too ===== -/
def bkT : iv_E := .inl (0, 940, .inl (fun _ => 0))
def tpB (σ : iv_H) (a : Nat) : Bool := match iv_get σ a with
  | some (.inl (0, n, .inl f)) => Nat.beq n 940 && allB 940 (fun i => decide (f i = 0))
  | _ => false
def fxB (σ : iv_H) : Bool := yFX.all fun q => match iv_get σ q.1 with
  | some (.inr (c, fs)) => Nat.beq c q.2.1 && (match iv_nth fs q.2.2.1 with
    | some (.ref b) => Nat.beq b q.2.2.2
    | _ => false)
  | _ => false
set_option maxRecDepth 100000 in
theorem sg3_tp : (tpB sg3 2 && (tpB sg3 550 && fxB sg3)) = true := by decide +kernel
theorem tpB_ok {σ : iv_H} {a : Nat} (h : tpB σ a = true) : ∃ f : Nat → Int32, iv_get σ a = some (.inl (0, 940, .inl f)) ∧ ∀ i, i < 940 → f i = 0 := by
  unfold tpB at h
  split at h
  · rename_i n f hg
    rw [Bool.and_eq_true] at h
    rw [Nat.eq_of_beq_eq_true h.1] at hg
    exact ⟨f, hg, fun i hi => of_decide_eq_true (allB_ok h.2 i hi)⟩
  · cases h
theorem fxB_ok {σ : iv_H} (h : fxB σ = true) : FX σ := fun q hq => by
  have h2 := List.all_eq_true.mp h q hq
  split at h2
  · rename_i c fs hg
    rw [Bool.and_eq_true] at h2
    obtain ⟨h3, h4⟩ := h2
    split at h4
    · rename_i b hb
      rw [Nat.eq_of_beq_eq_true h3] at hg
      rw [Nat.eq_of_beq_eq_true h4] at hb
      exact ⟨fs, hg, hb⟩
    · cases h4
  · cases h2
theorem sg3_t : (∃ f : Nat → Int32, iv_get sg3 2 = some (.inl (0, 940, .inl f)) ∧ ∀ i, i < 940 → f i = 0) ∧ (∃ f : Nat → Int32, iv_get sg3 550 = some (.inl (0, 940, .inl f)) ∧ ∀ i, i < 940 → f i = 0) ∧ FX sg3 := by
  have h := sg3_tp
  rw [Bool.and_eq_true, Bool.and_eq_true] at h
  exact ⟨tpB_ok h.1, tpB_ok h.2.1, fxB_ok h.2.2⟩
noncomputable def sg4 : iv_H := iv_put (iv_put sg3 2 bkT) 550 bkT
theorem mz_zA {σ σ1 : iv_H} {A : Nat} {x y : Nat × vp_A} {ms : zm} (hx : iv_get σ A = some (.inl x)) (h : mD σ σ1 A (.inl y)) (hm : zmem (1, z_τ A, 0) ms = true) : zFr z_τ ms σ σ1 := by
  refine ⟨h.1, fun b => ⟨fun c2 fs2 h2 => ?_, fun z h2 hz => ?_, fun tag len f h2 hz => ?_⟩⟩
  · by_cases hb : b = A
    · subst hb; rw [hx] at h2; cases h2
    · exact ⟨fs2, mD_n h hb h2, fun _ _ => rfl⟩
  · by_cases hb : b = A
    · subst hb
      rw [(zmt_of hm).1] at hz
      cases hz
    · exact mD_n h hb h2
  · by_cases hb : b = A
    · subst hb; rw [hm] at hz; cases hz
    · exact ⟨f, mD_n h hb h2, fun _ _ => rfl⟩
def oIB (o : Option Value) (x : Int32) : Bool := match o with
  | some (.int y) => decide (y = x)
  | _ => false
theorem oIB_ok {o : Option Value} {x : Int32} (h : oIB o x = true) : o = some (.int x) := by
  unfold oIB at h
  split at h
  · rw [of_decide_eq_true h]
  · cases h
def fx2B (σ : iv_H) : Bool := match iv_get σ 366 with
  | some (.inl (t, n, .inr (.inr (.inr (.inr f))))) => (Nat.beq t 3 && Nat.beq n 2) && (decide (f 0 = some 440) && decide (f 1 = some 494))
  | _ => false
theorem fx2B_ok {σ : iv_H} (h : fx2B σ = true) : FX2 σ := by
  unfold fx2B at h
  split at h
  · rename_i t n f hg
    simp only [Bool.and_eq_true] at h
    rw [Nat.eq_of_beq_eq_true h.1.1, Nat.eq_of_beq_eq_true h.1.2] at hg
    exact ⟨f, hg, of_decide_eq_true h.2.1, of_decide_eq_true h.2.2⟩
  · cases h
def ckB (σ : iv_H) : Bool := (oIB (oF σ 4 1) 0 && (oIB (oF σ 4 2) 0 && (oIB (oF σ 4 3) 3 && oIB (oF σ 4 5) 0))) && ((decide (mA σ 552 0 = 0) && (decide (mA σ 552 1 = 0) && (decide (mA σ 552 2 = 3) && decide (mA σ 552 4 = 0)))) && (decide (mA σ 372 0 = 0) && (decide (mA σ 372 1 = 0) && (decide (mA σ 568 0 = 0) && decide (mA σ 568 1 = 0)))))
set_option maxRecDepth 100000 in
theorem sg3_ck : (fx2B sg3 && ckB sg3) = true := by decide +kernel
theorem ckB_ok {σ : iv_H} (h : ckB σ = true) : CK σ := by
  unfold ckB at h
  simp only [Bool.and_eq_true, decide_eq_true_eq] at h
  obtain ⟨⟨a1, a2, a3, a4⟩, ⟨n0, n1, n2, n4⟩, k0, k1, j0, j1⟩ := h
  have one : ¬ ((0 : Int32) = 1) := by decide
  refine ⟨⟨⟨by rw [oIB_ok a1, n0], by rw [oIB_ok a2, n1], by rw [oIB_ok a3, n2], by rw [oIB_ok a4, n4]⟩, 0, 0, ⟨n0, n1⟩, ⟨by decide, by decide⟩, fun b hb => absurd hb (Nat.not_lt_zero b), fun g hg => absurd hg (Nat.not_lt_zero g)⟩, fun k hk => ?_⟩
  rcases k01 hk with rfl | rfl
  · exact ⟨k0.trans j0.symm, fun h => absurd (k0.symm.trans h) one⟩
  · exact ⟨k1.trans j1.symm, fun h => absurd (k1.symm.trans h) one⟩
theorem sg3_CK : FX2 sg3 ∧ CK sg3 := by
  have h := sg3_ck
  rw [Bool.and_eq_true] at h
  exact ⟨fx2B_ok h.1, ckB_ok h.2⟩
theorem sg4_inv : Inv 0 0 sg4 := by
  obtain ⟨⟨f, ga, _⟩, ⟨f2, gb, _⟩, hfx⟩ := sg3_t
  have h0 : InvQ Out 0 0 sg3 := sg3_inv0
  have ma : mD sg3 (iv_put sg3 2 bkT) 2 bkT := mD_put2 ga
  have Fa : zFr z_τ [(1, 68, 0)] sg3 (iv_put sg3 2 bkT) := mz_zA ga ma rfl
  obtain ⟨fx2, fck⟩ := sg3_CK
  have Ia : zI z_τ z_ty (iv_put sg3 2 bkT) := mz_zI h0.1.1 ma (fun T hT2 => by
    rw [show z_ty (z_τ 2) = _ from z_t68] at hT2
    cases hT2
    exact ⟨_, rfl, fun i hi => ⟨(0, 939, 0, 255), List.mem_cons_self, Nat.zero_le _, (by show i ≤ 939; omega), (by decide), (by decide)⟩⟩)
  have h1 : InvQ Out 0 0 (iv_put sg3 2 bkT) := inv_cQ h0 Ia (z_Js _ _ _ rfl Fa h0.1.2) Fa rfl (by rw [fB_fr h0.1.1 Fa rfl]; exact h0.2.2.1.1) (out_fr Fa rfl rfl h0.2.2.2.2.2)
  have gb1 : iv_get (iv_put sg3 2 bkT) 550 = some (.inl (0, 940, .inl f2)) := mD_n ma (by decide) gb
  have mb : mD (iv_put sg3 2 bkT) sg4 550 bkT := mD_put2 gb1
  have Fb : zFr m_τ [(1, 73, 0)] (iv_put sg3 2 bkT) sg4 := mD_zFr gb1 mb rfl
  have Ib : zI m_τ m_ty sg4 := mD_zI h1.2.1.1 mb (fun T hT2 => by
    obtain ⟨k, sg, t1, t2⟩ : ∃ k sg, m_ty 73 = some (.inr (0, 940, k, sg)) ∧ sg = [(0, 939, 0, 255)] := ⟨_, _, rfl, rfl⟩
    rw [show m_ty (m_τ 550) = _ from t1] at hT2
    cases hT2
    subst t2
    exact ⟨_, rfl, fun i hi => ⟨(0, 939, 0, 255), List.mem_cons_self, Nat.zero_le _, (by show i ≤ 939; omega), (by decide), (by decide)⟩⟩)
  refine inv_mQ h1 Ib (m_Jf hT_s.1 _ _ _ rfl Fb h1.2.1.2) Fb rfl (by rw [fT_fr h1.2.1.1 Fb rfl]; exact h1.2.2.1.2) ⟨out_fr Fb rfl rfl h1.2.2.2.2.2, FX_eq (m_leaves h1.1.1 Fb rfl) (FX_fr hfx Fa rfl), ⟨fun _ => 0, fun _ => Nat.zero_le _, ?_, ?_⟩, FX2_m (FX2_c fx2 Fa rfl) (m_leaves h1.1.1 Fb rfl), CK_m h1.1.1 h1.2.1.1 Fb rfl rfl (CK_c h0.1.1 h0.2.1.1 Fa rfl rfl fck)⟩
  · exact hA_of (mD_n mb (by decide) ma.2.1)
  · exact hA_of mb.2.1
set_option maxRecDepth 100000 in
theorem sg3_ft : (oIB (oF sg3 0 2) 0 && oIB (oF sg3 548 10) 0) = true := by decide +kernel
theorem sg4_inv5 : Inv5 0 0 sg4 := by
  obtain ⟨⟨f, ga, _⟩, ⟨f2, gb, _⟩, _⟩ := sg3_t
  have ma : mD sg3 (iv_put sg3 2 bkT) 2 bkT := mD_put2 ga
  have gb1 : iv_get (iv_put sg3 2 bkT) 550 = some (.inl (0, 940, .inl f2)) := mD_n ma (by decide) gb
  have mb : mD (iv_put sg3 2 bkT) sg4 550 bkT := mD_put2 gb1
  have k := sg3_ft
  rw [Bool.and_eq_true] at k
  have e0 : oF sg4 0 2 = oF sg3 0 2 := oF_g ((mb.2.2 0 (by decide)).trans (ma.2.2 0 (by decide))) 2
  have e1 : oF sg4 548 10 = oF sg3 548 10 := oF_g ((mb.2.2 548 (by decide)).trans (ma.2.2 548 (by decide))) 10
  exact Inv5_of sg4_inv ⟨0, e0.trans (oIB_ok k.1), e1.trans (oIB_ok k.2)⟩
