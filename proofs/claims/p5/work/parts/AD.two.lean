/-! ===== two sides: each leaves the other's cells; what holds between two calls ===== -/
def tEq (τ : Nat → Nat) (ty : Nat → Option zt) (σ σ' : iv_H) : Prop := ∀ (a : Nat) (T : zt), ty (τ a) = some T → iv_get σ' a = iv_get σ a
theorem tEq_zI {τ : Nat → Nat} {ty : Nat → Option zt} {σ σ' : iv_H} (h : tEq τ ty σ σ') (hI : zI τ ty σ) : zI τ ty σ' := fun a T hT => by
  obtain ⟨e, h1, h2⟩ := hI a T hT
  exact ⟨e, by rw [h a T hT]; exact h1, h2⟩
theorem nth_ext : ∀ {l l' : List Value}, (∀ j, iv_nth l' j = iv_nth l j) → l' = l
  | [], [], _ => rfl
  | [], y :: r, h => by have h0 : some y = none := h 0; cases h0
  | x :: l, [], h => by have h0 : none = some x := h 0; cases h0
  | x :: l, y :: l', h => by
    have h0 : some y = some x := h 0
    cases h0
    rw [nth_ext (l := l) (l' := l') (fun j => h (j + 1))]
theorem fr_tEq {τ τ2 : Nat → Nat} {ty2 : Nat → Option zt} {ms : zm} {σ σ' : iv_H} (hI2 : zI τ2 ty2 σ) (h : zFr τ ms σ σ') (ha : ∀ a T, ty2 (τ2 a) = some T → zmt (τ a) ms = false) (ho : ∀ a ci cs, ty2 (τ2 a) = some (.inl (ci, cs)) → ∀ j, zmem (0, ci, j) ms = false) : tEq τ2 ty2 σ σ' := by
  intro a T hT
  obtain ⟨e, h1, h2⟩ := hI2 a T hT
  cases e with
  | inl x => rw [h1]; exact (h.2 a).2.1 x h1 (ha a T hT)
  | inr q =>
    cases T with
    | inl p =>
      obtain ⟨c2, cs⟩ := p
      obtain ⟨fs2, e2, _⟩ := h2
      cases e2
      obtain ⟨fs', g1, g2⟩ := (h.2 a).1 c2 fs2 h1
      rw [g1, h1, nth_ext (fun j => g2 j (ho a c2 cs hT j))]
    | inr p =>
      obtain ⟨t, len, k, sg⟩ := p
      rcases t with _ | _ | _ | t
      · obtain ⟨f, e2, _⟩ := h2; cases e2
      · obtain ⟨f, e2, _⟩ := h2; cases e2
      · obtain ⟨f, e2, _⟩ := h2; cases e2
      · obtain ⟨f, _, e2, _⟩ := h2; cases e2
/-- mods of the class's side, of the reference's -/
def cOK (ms : zm) : Bool := ms.all fun q => bif Nat.beq q.1 1 then Nat.ble 3 q.2.1 else Nat.ble q.2.1 11
def mOK (ms : zm) : Bool := ms.all fun q => bif Nat.beq q.1 1 then Nat.ble 3 q.2.1 else Nat.beq q.2.1 12
theorem cOK_t : ∀ {ms : zm}, cOK ms = true → zmt 0 ms = false
  | [], _ => rfl
  | p :: r, h => by
    have h2 : ((bif Nat.beq p.1 1 then Nat.ble 3 p.2.1 else Nat.ble p.2.1 11) && cOK r) = true := h
    rw [Bool.and_eq_true] at h2
    unfold zmt
    cases hb : Nat.beq p.1 1 && Nat.beq p.2.1 0
    · exact cOK_t h2.2
    · rw [Bool.and_eq_true] at hb
      have h3 := h2.1
      rw [hb.1, Nat.eq_of_beq_eq_true hb.2] at h3
      cases h3
theorem mOK_t : ∀ {ms : zm}, mOK ms = true → zmt 0 ms = false
  | [], _ => rfl
  | p :: r, h => by
    have h2 : ((bif Nat.beq p.1 1 then Nat.ble 3 p.2.1 else Nat.beq p.2.1 12) && mOK r) = true := h
    rw [Bool.and_eq_true] at h2
    unfold zmt
    cases hb : Nat.beq p.1 1 && Nat.beq p.2.1 0
    · exact mOK_t h2.2
    · rw [Bool.and_eq_true] at hb
      have h3 := h2.1
      rw [hb.1, Nat.eq_of_beq_eq_true hb.2] at h3
      cases h3
theorem cOK_f {j : Nat} : ∀ {ms : zm}, cOK ms = true → zmem (0, 12, j) ms = false
  | [], _ => rfl
  | p :: r, h => by
    have h2 : ((bif Nat.beq p.1 1 then Nat.ble 3 p.2.1 else Nat.ble p.2.1 11) && cOK r) = true := h
    rw [Bool.and_eq_true] at h2
    unfold zmem
    cases hb : Nat.beq p.1 0 && (Nat.beq p.2.1 12 && Nat.beq p.2.2 j)
    · exact cOK_f h2.2
    · rw [Bool.and_eq_true, Bool.and_eq_true] at hb
      have h3 := h2.1
      rw [Nat.eq_of_beq_eq_true hb.1, Nat.eq_of_beq_eq_true hb.2.1] at h3
      cases h3
theorem mOK_f {ci j : Nat} (hc : ci ≤ 11) : ∀ {ms : zm}, mOK ms = true → zmem (0, ci, j) ms = false
  | [], _ => rfl
  | p :: r, h => by
    have h2 : ((bif Nat.beq p.1 1 then Nat.ble 3 p.2.1 else Nat.beq p.2.1 12) && mOK r) = true := h
    rw [Bool.and_eq_true] at h2
    unfold zmem
    cases hb : Nat.beq p.1 0 && (Nat.beq p.2.1 ci && Nat.beq p.2.2 j)
    · exact mOK_f hc h2.2
    · rw [Bool.and_eq_true, Bool.and_eq_true] at hb
      have h3 := h2.1
      rw [Nat.eq_of_beq_eq_true hb.1] at h3
      have h4 : Nat.beq p.2.1 12 = true := h3
      have h5 := Nat.eq_of_beq_eq_true h4
      have h6 := Nat.eq_of_beq_eq_true hb.2.1
      omega
theorem z_hi0 : ((List.range 297).all fun k => bif Nat.ble 274 k then (match iv_nth z_tl k with
  | some t => Nat.beq t 0
  | none => true) else true) = true := by decide +kernel
theorem z_typed {a : Nat} {T : zt} (h : z_ty (z_τ a) = some T) : a % 2 = 0 ∧ a < 548 := by
  have n0 : z_ty 0 = none := rfl
  have n1 : z_ty 1 = none := rfl
  have n2 : z_ty 2 = none := rfl
  unfold z_τ at h
  cases hb : Nat.beq (a % 2) 0
  · rw [hb] at h
    simp only [cond_false] at h
    cases h1 : Nat.beq a 101
    · rw [h1] at h
      cases h2 : Nat.ble 3 a && Nat.ble a 57
      · rw [h2] at h; simp only [cond_false] at h; rw [n0] at h; cases h
      · rw [h2] at h; simp only [cond_true, cond_false] at h; rw [n1] at h; cases h
    · rw [h1] at h; simp only [cond_true] at h; rw [n2] at h; cases h
  · rw [hb] at h
    simp only [cond_true] at h
    have h4 := Nat.eq_of_beq_eq_true hb
    refine ⟨h4, ?_⟩
    split at h
    · rename_i t ht
      have h5 := iv_nth_lt ht
      have h6 : z_tl.length = 297 := by decide +kernel
      apply Nat.lt_of_not_le
      intro h8
      have h7 := List.all_eq_true.mp z_hi0 (a / 2) (List.mem_range.mpr (by omega))
      rw [Nat.ble_eq.mpr (show 274 ≤ a / 2 by omega), ht] at h7
      have h9 : Nat.beq t 0 = true := h7
      rw [Nat.eq_of_beq_eq_true h9, n0] at h
      cases h
    · rw [n0] at h; cases h
theorem m_typed {a : Nat} {T : zt} (h : m_ty (m_τ a) = some T) : a % 2 = 0 ∧ 548 ≤ a ∧ a ≤ 590 := by
  have n0 : m_ty 0 = none := rfl
  have n1 : m_ty 1 = none := rfl
  have n2 : m_ty 2 = none := rfl
  rcases m_τc a with ⟨h1, ⟨h2, h3⟩ | ⟨h2, h3, h4⟩ | h2⟩ | ⟨h1, ⟨h2, h3⟩ | ⟨h2, h3, h4⟩ | h2⟩
  · exact ⟨h1, by omega, by omega⟩
  · exact ⟨h1, by omega, by omega⟩
  · rw [h2, n0] at h; cases h
  · rw [h3, n2] at h; cases h
  · rw [h4, n1] at h; cases h
  · rw [h2, n0] at h; cases h
theorem z_m0 {a : Nat} {T : zt} (h : m_ty (m_τ a) = some T) : z_τ a = 0 := by
  obtain ⟨h1, h2, h3⟩ := m_typed h
  have h7 := List.all_eq_true.mp z_hi0 (a / 2) (List.mem_range.mpr (by omega))
  rw [Nat.ble_eq.mpr (show 274 ≤ a / 2 by omega)] at h7
  simp only [cond_true] at h7
  unfold z_τ
  rw [h1]
  show (match iv_nth z_tl (a / 2) with
    | some t => t
    | none => 0) = 0
  split at h7
  · exact Nat.eq_of_beq_eq_true h7
  · rfl
theorem m_z0 {a : Nat} {T : zt} (h : z_ty (z_τ a) = some T) : m_τ a = 0 := by
  obtain ⟨h1, h2⟩ := z_typed h
  rcases m_τc a with ⟨_, ⟨h3, _⟩ | ⟨h3, _, _⟩ | h3⟩ | ⟨h3, _⟩
  · omega
  · omega
  · exact h3
  · omega
theorem z_ci0 : ((List.range 100).all fun t => match z_ty t with
  | some (.inl (ci, _)) => Nat.ble ci 11
  | _ => true) = true := by decide +kernel
theorem z_tb0 : z_tl.all (fun t => Nat.blt t 100) = true := by decide +kernel
theorem z_tb (a : Nat) : z_τ a < 100 := by
  unfold z_τ
  cases Nat.beq (a % 2) 0
  · simp only [cond_false]
    cases Nat.beq a 101
    · cases Nat.ble 3 a && Nat.ble a 57
      · decide
      · decide
    · show 2 < 100
      decide
  · simp only [cond_true]
    split
    · rename_i t ht
      have h := List.all_eq_true.mp z_tb0 t (zn_in ht)
      rw [Nat.blt_eq] at h
      exact h
    · decide
theorem z_ci {a ci : Nat} {cs : List zc} (h : z_ty (z_τ a) = some (.inl (ci, cs))) : ci ≤ 11 := by
  have h2 := List.all_eq_true.mp z_ci0 (z_τ a) (List.mem_range.mpr (z_tb a))
  rw [h] at h2
  exact Nat.le_of_ble_eq_true h2
theorem m_ci {a ci : Nat} {cs : List zc} (h : m_ty (m_τ a) = some (.inl (ci, cs))) : ci = 12 := by
  obtain ⟨h1, h2, h3⟩ := m_typed h
  rcases m_τc a with ⟨_, ⟨h4, h5⟩ | ⟨h4, _, h5⟩ | h5⟩ | ⟨h4, _⟩
  · rw [h5] at h
    cases h
    rfl
  · have key : ((List.range 21).all fun k => match m_ty (73 + k) with
      | some (.inl _) => false
      | _ => true) = true := by decide +kernel
    have h6 := List.all_eq_true.mp key ((a - 550) / 2) (List.mem_range.mpr (by omega))
    rw [h5] at h
    rw [h] at h6
    cases h6
  · rw [h5] at h
    have n0 : m_ty 0 = none := rfl
    rw [n0] at h
    cases h
  · omega
theorem c_leaves {ms : zm} {σ σ' : iv_H} (hI : zI m_τ m_ty σ) (h : zFr z_τ ms σ σ') (hm : cOK ms = true) : tEq m_τ m_ty σ σ' := fr_tEq hI h (fun a T hT => by rw [z_m0 hT]; exact cOK_t hm) (fun a ci cs hT j => by rw [m_ci hT]; exact cOK_f hm)
theorem m_leaves {ms : zm} {σ σ' : iv_H} (hI : zI z_τ z_ty σ) (h : zFr m_τ ms σ σ') (hm : mOK ms = true) : tEq z_τ z_ty σ σ' := fr_tEq hI h (fun a T hT => by rw [m_z0 hT]; exact mOK_t hm) (fun a ci cs hT j => mOK_f (z_ci hT) hm)
theorem z_J_eq {σ σ' : iv_H} (h : tEq z_τ z_ty σ σ') (hJ : z_J σ) : z_J σ' := by
  intro a1 a2 a3 a4 g1 g2 g3 g4 l1 l2 l3 l4 f1 f2 f3 f4 t1 t2 t3 t4 e1 e2 e3 e4
  rw [h a1 _ (by rw [t1]; exact z_t30)] at e1
  rw [h a2 _ (by rw [t2]; exact z_t31)] at e2
  rw [h a3 _ (by rw [t3]; exact z_t32)] at e3
  rw [h a4 _ (by rw [t4]; exact z_t33)] at e4
  exact hJ a1 a2 a3 a4 g1 g2 g3 g4 l1 l2 l3 l4 f1 f2 f3 f4 t1 t2 t3 t4 e1 e2 e3 e4
theorem mA_eq {σ σ' : iv_H} (h : tEq m_τ m_ty σ σ') (a : Nat) {T : zt} (hT : m_ty (m_τ a) = some T) : mA σ' a = mA σ a := by
  unfold mA
  rw [h a T hT]
theorem mJ_eq {σ σ' : iv_H} (h : tEq m_τ m_ty σ σ') (hJ : mJ hT σ) : mJ hT σ' := by
  have e1 := mA_eq h 552 rfl
  have e2 := mA_eq h 554 rfl
  have e3 := mA_eq h 590 rfl
  have e4 := mA_eq h 586 rfl
  have e5 := mA_eq h 558 rfl
  have e6 := mA_eq h 568 rfl
  have e7 := mA_eq h 556 rfl
  have e8 : mF σ' 24 = mF σ 24 := by
    unfold mF
    rw [h 548 _ rfl]
  have hJ : m_Jx 0 σ := hJ.1
  refine ⟨?_, trivial⟩
  show m_Jx 0 σ'
  unfold m_Jx at hJ ⊢
  rw [e1, e2, e3, e4, e5, e6, e7, e8, h 548 _ rfl]
  exact hJ
/-! the lengths of both tapes -/
def fB (σ : iv_H) : Option Value := match iv_get σ 0 with
  | some (.inr (_, fs)) => iv_nth fs 1
  | _ => none
def fT (σ : iv_H) : Option Value := match iv_get σ 548 with
  | some (.inr (_, fs)) => iv_nth fs 2
  | _ => none
theorem fB_of {σ : iv_H} {ci : Nat} {fs : List Value} (h : iv_get σ 0 = some (.inr (ci, fs))) : fB σ = iv_nth fs 1 := by
  unfold fB
  rw [h]
theorem fT_of {σ : iv_H} {ci : Nat} {fs : List Value} (h : iv_get σ 548 = some (.inr (ci, fs))) : fT σ = iv_nth fs 2 := by
  unfold fT
  rw [h]
theorem z_t21 : ∃ cs, z_ty 21 = some (.inl (11, cs)) ∧ iv_nth cs 1 = some (0, 0, 940) := ⟨_, rfl, rfl⟩
theorem m_t22 : ∃ cs, m_ty 22 = some (.inl (12, cs)) ∧ iv_nth cs 2 = some (0, 0, 940) := ⟨_, rfl, rfl⟩
theorem z_G {σ : iv_H} (hI : zI z_τ z_ty σ) : ∃ fs, iv_get σ 0 = some (.inr (11, fs)) ∧ ∀ x : Int32, iv_nth fs 1 = some (.int x) → 0 ≤ x.toInt ∧ x.toInt ≤ 940 := by
  obtain ⟨cs, h1, h2⟩ := z_t21
  obtain ⟨fs, h3, _, h4⟩ := zI_obj hI (a := 0) (t := 21) rfl h1
  refine ⟨fs, h3, fun x hx => ?_⟩
  obtain ⟨y, e, g1, g2⟩ := (show ∃ y : Int32, Value.int x = .int y ∧ (0 : Int) ≤ y.toInt ∧ y.toInt ≤ 940 from h4 1 _ _ h2 hx)
  cases e
  exact ⟨g1, g2⟩
theorem m_G {σ : iv_H} (hI : zI m_τ m_ty σ) : ∃ fs, iv_get σ 548 = some (.inr (12, fs)) ∧ ∀ x : Int32, iv_nth fs 2 = some (.int x) → 0 ≤ x.toInt ∧ x.toInt ≤ 940 := by
  obtain ⟨cs, h1, h2⟩ := m_t22
  obtain ⟨fs, h3, _, h4⟩ := zI_obj hI (a := 548) (t := 22) rfl h1
  refine ⟨fs, h3, fun x hx => ?_⟩
  obtain ⟨y, e, g1, g2⟩ := (show ∃ y : Int32, Value.int x = .int y ∧ (0 : Int) ≤ y.toInt ∧ y.toInt ≤ 940 from h4 2 _ _ h2 hx)
  cases e
  exact ⟨g1, g2⟩
theorem fB_fr {ms : zm} {σ σ' : iv_H} (hI : zI z_τ z_ty σ) (h : zFr z_τ ms σ σ') (hb : zmem (0, 11, 1) ms = false) : fB σ' = fB σ := by
  obtain ⟨fs, h1, _⟩ := z_G hI
  obtain ⟨fs', h2, h3⟩ := (h.2 0).1 11 fs h1
  rw [fB_of h1, fB_of h2, h3 1 hb]
theorem fT_fr {ms : zm} {σ σ' : iv_H} (hI : zI m_τ m_ty σ) (h : zFr m_τ ms σ σ') (hb : zmem (0, 12, 2) ms = false) : fT σ' = fT σ := by
  obtain ⟨fs, h1, _⟩ := m_G hI
  obtain ⟨fs', h2, h3⟩ := (h.2 548).1 12 fs h1
  rw [fT_of h1, fT_of h2, h3 2 hb]
/-- the law's own long -/
def Out (σ : iv_H) : Prop := ∃ f : Nat → Int64, iv_get σ 592 = some (.inl (1, 1, .inr (.inl f)))
theorem out_fr {τ : Nat → Nat} {ms : zm} {σ σ' : iv_H} (h : zFr τ ms σ σ') (ht : τ 592 = 0) (hm : zmt 0 ms = false) (ho : Out σ) : Out σ' := by
  obtain ⟨f, hf⟩ := ho
  exact ⟨f, (h.2 592).2.1 _ hf (by rw [ht]; exact hm)⟩
/-! both tapes hold the same; the references stand -/
def TP (σ : iv_H) : Prop := ∃ T : Nat → Nat, (∀ i, T i ≤ 255) ∧ mA σ 2 = ytp T ∧ mA σ 550 = ytp T
def cOK3 (ms : zm) : Bool := cOK4 ms && (!(zmt 69 ms) && !(zmt 72 ms))
def mOK3 (ms : zm) : Bool := (!(zmem (1, 74, 0) ms) && Nat.ble 38 (zml 74 ms)) && (!(zmt 76 ms) && (!(zmt 79 ms) && (!(zmt 81 ms) && !(zmt 82 ms))))
theorem cOK3_of {ms : zm} (h : cOK3 ms = true) : cOK4 ms = true ∧ zmt 69 ms = false ∧ zmt 72 ms = false := by
  unfold cOK3 at h
  simp only [Bool.and_eq_true, Bool.not_eq_true'] at h
  exact h
theorem mOK3_of {ms : zm} (h : mOK3 ms = true) : (zmem (1, 74, 0) ms = false ∧ 38 ≤ zml 74 ms) ∧ zmt 76 ms = false ∧ zmt 79 ms = false ∧ zmt 81 ms = false ∧ zmt 82 ms = false := by
  unfold mOK3 at h
  simp only [Bool.and_eq_true, Bool.not_eq_true'] at h
  exact ⟨⟨h.1.1, Nat.le_of_ble_eq_true h.1.2⟩, h.2.1, h.2.2.1, h.2.2.2.1, h.2.2.2.2⟩
theorem mL_eq {τ : Nat → Nat} {ty : Nat → Option zt} {σ σ' : iv_H} (h : tEq τ ty σ σ') (a : Nat) {T : zt} (hT : ty (τ a) = some T) : mL σ' a = mL σ a := mL_g (h a T hT)
theorem mA_eq2 {τ : Nat → Nat} {ty : Nat → Option zt} {σ σ' : iv_H} (h : tEq τ ty σ σ') (a : Nat) {T : zt} (hT : ty (τ a) = some T) : mA σ' a = mA σ a := mA_g (h a T hT)
theorem FX2_c {ms : zm} {σ σ' : iv_H} (h : FX2 σ) (hF : zFr z_τ ms σ σ') (hm : zmt 69 ms = false) : FX2 σ' := by
  obtain ⟨f, g, h0, h1⟩ := h
  exact ⟨f, (hF.2 366).2.1 _ g hm, h0, h1⟩
theorem FX2_m {σ σ' : iv_H} (h : FX2 σ) (ht : tEq z_τ z_ty σ σ') : FX2 σ' := by
  obtain ⟨f, g, h0, h1⟩ := h
  obtain ⟨T, hT2⟩ : ∃ T, z_ty 69 = some T := ⟨_, rfl⟩
  exact ⟨f, (ht 366 T (show z_ty (z_τ 366) = some T from hT2)).trans g, h0, h1⟩
theorem CP_t {σ σ' : iv_H} {A : Nat} (ht : tEq z_τ z_ty σ σ') (hA : z_τ A = 13) (hB : z_τ (A + 2) = 43) (hC : z_τ (A + 10) = 47) : CP σ σ' A A := by
  obtain ⟨T, h1⟩ : ∃ T, z_ty 13 = some T := ⟨_, rfl⟩
  obtain ⟨U, h2⟩ : ∃ T, z_ty 43 = some T := ⟨_, rfl⟩
  obtain ⟨W, h3⟩ : ∃ T, z_ty 47 = some T := ⟨_, rfl⟩
  exact CP_g (ht A T (by rw [hA]; exact h1)) (ht _ U (by rw [hB]; exact h2)) (ht _ W (by rw [hC]; exact h3))
theorem k01 {k : Nat} (h : k < 2) : k = 0 ∨ k = 1 := by omega
/-- what stays on the reference's side -/
def mSame (σ σ' : iv_H) : Prop := (∀ i, i < 38 → mA σ' 552 i = mA σ 552 i) ∧ mL σ' 562 = mL σ 562 ∧ mA σ' 556 = mA σ 556 ∧ mL σ' 566 = mL σ 566 ∧ mA σ' 568 = mA σ 568
theorem mSame_t {σ σ' : iv_H} (ht : tEq m_τ m_ty σ σ') : mSame σ σ' := ⟨fun i _ => by rw [mA_eq2 ht 552 rfl], mL_eq ht 562 rfl, mA_eq2 ht 556 rfl, mL_eq ht 566 rfl, mA_eq2 ht 568 rfl⟩
theorem m_lng {σ : iv_H} (hM : zI m_τ m_ty σ) {a t n k : Nat} {sg : zsg} (ha : m_τ a = t) (ht : m_ty t = some (.inr (1, n, k, sg))) : ∃ f, iv_get σ a = some (.inl (1, n, .inr (.inl f))) := by
  obtain ⟨e, h1, h2⟩ := hM a _ (by rw [ha]; exact ht)
  obtain ⟨f, rfl, _⟩ := (show ∃ f : Nat → Int64, e = .inl (1, n, .inr (.inl f)) ∧ _ from h2)
  exact ⟨f, h1⟩
theorem mL_m {ms : zm} {σ σ' : iv_H} (hM : zI m_τ m_ty σ) (hF : zFr m_τ ms σ σ') {a t n k : Nat} {sg : zsg} (ha : m_τ a = t) (ht : m_ty t = some (.inr (1, n, k, sg))) (hm : zmt t ms = false) : mL σ' a = mL σ a := by
  obtain ⟨f, g⟩ := m_lng hM ha ht
  have g2 := (hF.2 a).2.1 _ g (by rw [ha]; exact hm)
  rw [hL_of g, hL_of g2]
theorem mSame_m {ms : zm} {σ σ' : iv_H} (hM : zI m_τ m_ty σ) (hF : zFr m_τ ms σ σ') (h3 : mOK3 ms = true) : mSame σ σ' := by
  obtain ⟨⟨n0, n38⟩, t76, t79, t81, t82⟩ := mOK3_of h3
  refine ⟨fun i hi => ?_, mL_m hM hF (t := 79) rfl rfl t79, ?_, mL_m hM hF (t := 81) rfl rfl t81, ?_⟩
  · obtain ⟨N, gN, _⟩ := zI_ia hM (a := 552) (t := 74) rfl rfl
    obtain ⟨f2, g2, e⟩ := (hF.2 552).2.2 0 374 N gN n0
    rw [hA_of gN, hA_of g2]
    exact e i (.inl (Nat.lt_of_lt_of_le hi n38))
  · obtain ⟨K, gK, _⟩ := zI_ia hM (a := 556) (t := 76) rfl rfl
    have g2 := (hF.2 556).2.1 _ gK t76
    rw [hA_of gK, hA_of g2]
  · obtain ⟨Z, gZ, _⟩ := m_isk hM
    have g2 := (hF.2 568).2.1 _ gZ t82
    rw [hA_of gZ, hA_of g2]
theorem CK_eq {σ σ' : iv_H} (h : CK σ) (p4 : CP σ σ' 4 4) (p0 : CP σ σ' 440 440) (p1 : CP σ σ' 494 494) (pk : mA σ' 372 = mA σ 372) (pm : mSame σ σ') : CK σ' := by
  obtain ⟨h1, h2⟩ := h
  obtain ⟨e1, e2, e3, e4, e5⟩ := pm
  refine ⟨CA_eq h1 p4 e1 (fun i _ => by rw [e2]), fun k hk => ?_⟩
  obtain ⟨h3, h4⟩ := h2 k hk
  rw [pk, e3, e4, e5]
  refine ⟨h3, fun h5 => ?_⟩
  have h6 := h4 h5
  rcases k01 hk with rfl | rfl
  · exact CA_eq h6 p0 (fun _ _ => rfl) (fun _ _ => rfl)
  · exact CA_eq h6 p1 (fun _ _ => rfl) (fun _ _ => rfl)
theorem CK_c {ms : zm} {σ σ' : iv_H} (hI : zI z_τ z_ty σ) (hM : zI m_τ m_ty σ) (hF : zFr z_τ ms σ σ') (hm : cOK ms = true) (h3 : cOK3 ms = true) (h : CK σ) : CK σ' := by
  obtain ⟨h4, t69, t72⟩ := cOK3_of h3
  obtain ⟨f, gf, _⟩ := c_isk hI
  exact CK_eq h (CP_z hI hF h4 rfl rfl rfl) (CP_z hI hF h4 rfl rfl rfl) (CP_z hI hF h4 rfl rfl rfl) (mA_z gf hF t72) (mSame_t (c_leaves hM hF hm))
theorem CK_m {ms : zm} {σ σ' : iv_H} (hI : zI z_τ z_ty σ) (hM : zI m_τ m_ty σ) (hF : zFr m_τ ms σ σ') (hm : mOK ms = true) (h3 : mOK3 ms = true) (h : CK σ) : CK σ' := by
  have ht := m_leaves hI hF hm
  obtain ⟨T, hT2⟩ : ∃ T, z_ty 72 = some T := ⟨_, rfl⟩
  exact CK_eq h (CP_t ht rfl rfl rfl) (CP_t ht rfl rfl rfl) (CP_t ht rfl rfl rfl) (mA_eq2 ht 372 (show z_ty (z_τ 372) = some T from hT2)) (mSame_m hM hF h3)
def Out2 (σ : iv_H) : Prop := Out σ ∧ FX σ ∧ TP σ ∧ FX2 σ ∧ CK σ
def InvQ (Q : iv_H → Prop) (x y : Int32) (σ : iv_H) : Prop := (zI z_τ z_ty σ ∧ z_J σ) ∧ (zI m_τ m_ty σ ∧ mJ hT σ) ∧ (fB σ = some (.int x) ∧ fT σ = some (.int y)) ∧ σ.1 = 297 ∧ σ.2.2 ≤ 100000 ∧ Q σ
def Inv (x y : Int32) (σ : iv_H) : Prop := InvQ Out2 x y σ
theorem inv_cQ {Q Q0 : iv_H → Prop} {ms : zm} {x x' y : Int32} {σ σ' : iv_H} (h : InvQ Q0 x y σ) (h1 : zI z_τ z_ty σ') (h2 : z_J σ') (hF : zFr z_τ ms σ σ') (hm : cOK ms = true) (hx : fB σ' = some (.int x')) (hq : Q σ') : InvQ Q x' y σ' := by
  obtain ⟨⟨a1, a2⟩, ⟨b1, b2⟩, ⟨c1, c2⟩, d1, d2, d3⟩ := h
  have ht := c_leaves b1 hF hm
  refine ⟨⟨h1, h2⟩, ⟨tEq_zI ht b1, mJ_eq ht b2⟩, ⟨hx, ?_⟩, by rw [hF.1.1]; exact d1, by rw [hF.1.2]; exact d2, hq⟩
  rw [← c2]
  unfold fT
  rw [ht 548 _ rfl]
theorem inv_mQ {Q Q0 : iv_H → Prop} {ms : zm} {x y y' : Int32} {σ σ' : iv_H} (h : InvQ Q0 x y σ) (h1 : zI m_τ m_ty σ') (h2 : mJ hT σ') (hF : zFr m_τ ms σ σ') (hm : mOK ms = true) (hy : fT σ' = some (.int y')) (hq : Q σ') : InvQ Q x y' σ' := by
  obtain ⟨⟨a1, a2⟩, ⟨b1, b2⟩, ⟨c1, c2⟩, d1, d2, d3⟩ := h
  have ht := m_leaves a1 hF hm
  refine ⟨⟨tEq_zI ht a1, z_J_eq ht a2⟩, ⟨h1, h2⟩, ⟨?_, hy⟩, by rw [hF.1.1]; exact d1, by rw [hF.1.2]; exact d2, hq⟩
  rw [← c1]
  unfold fB
  obtain ⟨cs, t1, _⟩ := z_t21
  rw [ht 0 _ (show z_ty (z_τ 0) = _ from t1)]
def cOK2 (ms : zm) : Bool := cOK ms && (fxOK ms && (!(zmt 68 ms) && cOK3 ms))
def mOK2 (ms : zm) : Bool := mOK ms && (!(zmt 73 ms) && mOK3 ms)
theorem cOK2_of {ms : zm} (h : cOK2 ms = true) : cOK ms = true ∧ fxOK ms = true ∧ zmt 68 ms = false ∧ cOK3 ms = true := by
  unfold cOK2 at h
  simp only [Bool.and_eq_true, Bool.not_eq_true'] at h
  exact h
theorem mOK2_of {ms : zm} (h : mOK2 ms = true) : mOK ms = true ∧ zmt 73 ms = false ∧ mOK3 ms = true := by
  unfold mOK2 at h
  simp only [Bool.and_eq_true, Bool.not_eq_true'] at h
  exact h
theorem mA_c {ms : zm} {σ σ' : iv_H} (hI : zI z_τ z_ty σ) (hF : zFr z_τ ms σ σ') (h68 : zmt 68 ms = false) : mA σ' 2 = mA σ 2 := by
  obtain ⟨f, g⟩ := yi_of hI (a := 2) (n := 940) rfl
  have g2 := (hF.2 2).2.1 _ g h68
  rw [hA_of g, hA_of g2]
theorem mA_m {ms : zm} {σ σ' : iv_H} (hM : zI m_τ m_ty σ) (hF : zFr m_τ ms σ σ') (h73 : zmt 73 ms = false) : mA σ' 550 = mA σ 550 := by
  obtain ⟨f, g, _⟩ := zI_ia hM (a := 550) (t := 73) rfl rfl
  have g2 := (hF.2 550).2.1 _ g h73
  rw [hA_of g, hA_of g2]
theorem mA_m2 {ms : zm} {σ σ' : iv_H} (hI : zI z_τ z_ty σ) (hF : zFr m_τ ms σ σ') (hm : mOK ms = true) : mA σ' 2 = mA σ 2 := by
  unfold mA
  rw [m_leaves hI hF hm 2 _ rfl]
theorem TP_c {ms : zm} {σ σ' : iv_H} (hI : zI z_τ z_ty σ) (hM : zI m_τ m_ty σ) (hF : zFr z_τ ms σ σ') (hm : cOK ms = true) (h68 : zmt 68 ms = false) (h : TP σ) : TP σ' := by
  obtain ⟨T, hb, e1, e2⟩ := h
  exact ⟨T, hb, (mA_c hI hF h68).trans e1, (mA_eq (c_leaves hM hF hm) 550 rfl).trans e2⟩
theorem TP_m {ms : zm} {σ σ' : iv_H} (hI : zI z_τ z_ty σ) (hM : zI m_τ m_ty σ) (hF : zFr m_τ ms σ σ') (hm : mOK ms = true) (h73 : zmt 73 ms = false) (h : TP σ) : TP σ' := by
  obtain ⟨T, hb, e1, e2⟩ := h
  exact ⟨T, hb, (mA_m2 hI hF hm).trans e1, (mA_m hM hF h73).trans e2⟩
theorem yFX_ty : (yFX.all fun q => (z_ty (z_τ q.1)).isSome) = true := by decide +kernel
theorem FX_eq {σ σ' : iv_H} (ht : tEq z_τ z_ty σ σ') (h : FX σ) : FX σ' := fun q hq => by
  obtain ⟨fs, g, e⟩ := h q hq
  obtain ⟨T, hT2⟩ := Option.isSome_iff_exists.mp (List.all_eq_true.mp yFX_ty q hq)
  exact ⟨fs, (ht q.1 T hT2).trans g, e⟩
theorem inv_c {ms : zm} {x x' y : Int32} {σ σ' : iv_H} (h : Inv x y σ) (h1 : zI z_τ z_ty σ') (h2 : z_J σ') (hF : zFr z_τ ms σ σ') (hm : cOK2 ms = true) (hx : fB σ' = some (.int x')) : Inv x' y σ' := by
  obtain ⟨m1, m2, m3, m4⟩ := cOK2_of hm
  obtain ⟨o1, o2, o3, o4, o5⟩ := h.2.2.2.2.2
  exact inv_cQ h h1 h2 hF m1 hx ⟨out_fr hF rfl (cOK_t m1) o1, FX_fr o2 hF m2, TP_c h.1.1 h.2.1.1 hF m1 m3 o3, FX2_c o4 hF (cOK3_of m4).2.1, CK_c h.1.1 h.2.1.1 hF m1 m4 o5⟩
theorem inv_m {ms : zm} {x y y' : Int32} {σ σ' : iv_H} (h : Inv x y σ) (h1 : zI m_τ m_ty σ') (h2 : mJ hT σ') (hF : zFr m_τ ms σ σ') (hm : mOK2 ms = true) (hy : fT σ' = some (.int y')) : Inv x y' σ' := by
  obtain ⟨m1, m3, m4⟩ := mOK2_of hm
  obtain ⟨o1, o2, o3, o4, o5⟩ := h.2.2.2.2.2
  exact inv_mQ h h1 h2 hF m1 hy ⟨out_fr hF rfl (mOK_t m1) o1, FX_eq (m_leaves h.1.1 hF m1) o2, TP_m h.1.1 h.2.1.1 hF m1 m3 o3, FX2_m o4 (m_leaves h.1.1 hF m1), CK_m h.1.1 h.2.1.1 hF m1 m4 o5⟩
/-! contracts at the entries that the law has -/
def zstdL (i : Nat) : List (Int × Int) → List (zb × zc)
  | [] => []
  | r :: rs => ((0, i, 0, 0), (0, r.1, r.2)) :: zstdL (i + 1) rs
def zstd (t : Nat) (rs : List (Int × Int)) : zp := (((0, 0, 0, 0), (t, 0, 1000)) :: zstdL 1 rs, [])
def zstdB (t : Nat) (rs : List (Int × Int)) (ci j : Nat) : zp := (((0, 0, 0, 0), (t, 0, 1000)) :: (zstdL 1 rs ++ [((1, 0, ci, j), (0, 0, 940))]), [])
/-- within these bounds -/
def inR : List (Int × Int) → List Int32 → Prop
  | [], [] => True
  | r :: rs, y :: ys => (r.1 ≤ y.toInt ∧ y.toInt ≤ r.2) ∧ inR rs ys
  | _, _ => False
theorem inR_len : ∀ {rs : List (Int × Int)} {ys : List Int32}, inR rs ys → ys.length = rs.length
  | [], [], _ => rfl
  | r :: rs, y :: ys, h => by simp [inR_len h.2]
  | [], y :: ys, h => h.elim
  | r :: rs, [], h => h.elim
theorem stdL_len : ∀ (rs : List (Int × Int)) (i : Nat), (zstdL i rs).length = rs.length
  | [], i => rfl
  | r :: rs, i => by simp [zstdL, stdL_len rs (i + 1)]
theorem stdL_nth : ∀ {rs : List (Int × Int)} {ys : List Int32} {i s : Nat} {b : zb} {c : zc}, inR rs ys → iv_nth (zstdL i rs) s = some (b, c) → ∃ y, iv_nth ys s = some y ∧ b = (0, i + s, 0, 0) ∧ c.1 = 0 ∧ c.2.1 ≤ y.toInt ∧ y.toInt ≤ c.2.2
  | [], ys, i, s, b, c, h, hs => by cases hs
  | r :: rs, [], i, s, b, c, h, hs => h.elim
  | r :: rs, y :: ys, i, 0, b, c, h, hs => by
    have hs : some (((0, i, 0, 0), (0, r.1, r.2)) : zb × zc) = some (b, c) := hs
    cases hs
    exact ⟨y, rfl, rfl, rfl, h.1.1, h.1.2⟩
  | r :: rs, y :: ys, i, s + 1, b, c, h, hs => by
    have hs : iv_nth (zstdL (i + 1) rs) s = some (b, c) := hs
    obtain ⟨z, h1, h2, h3⟩ := stdL_nth h.2 hs
    exact ⟨z, h1, by rw [h2, show i + 1 + s = i + (s + 1) by omega], h3⟩
theorem args_f1 : ∀ {ys : List Int32} {k s : Nat} {y : Int32}, iv_nth ys s = some y → iv_f1 (lv_args k (ys.map .int)) (k + s) = some (.int y)
  | [], k, s, y, h => by cases h
  | x :: ys, k, 0, y, h => by
    have h : some x = some y := h
    cases h
    show (bif Nat.beq k (k + 0) then some (Value.int x) else _) = _
    rw [Nat.add_zero, Nat.beq_refl]
    rfl
  | x :: ys, k, s + 1, y, h => by
    have h : iv_nth ys s = some y := h
    show (bif Nat.beq k (k + (s + 1)) then some (Value.int x) else iv_f1 (lv_args (k + 1) (ys.map .int)) (k + (s + 1))) = _
    have hb : Nat.beq k (k + (s + 1)) = false := by
      cases hq : Nat.beq k (k + (s + 1)) with
      | false => rfl
      | true => have := Nat.eq_of_beq_eq_true hq; omega
    rw [hb, show k + (s + 1) = k + 1 + s by omega]
    exact args_f1 h
def stdR (a : Nat) (ys : List Int32) (x : Int) : Nat → Int
  | 0 => (a : Int)
  | i + 1 => match iv_nth ys i with
    | some y => y.toInt
    | none => x
theorem std_zP {τ : Nat → Nat} {t a : Nat} (ta : τ a = t) (ha : a ≤ 1000) {rs : List (Int × Int)} {ys : List Int32} (h : inR rs ys) {σ : iv_H} {x : Int} : zP_ok τ (fun _ => 0) (lv_args 0 (.ref a :: ys.map .int)) none σ (zstd (t + 2) rs) (stdR a ys x) := by
  refine ⟨fun s c hs => ?_, fun f hf => (by cases hf), fun i b c hi => ?_⟩
  · obtain ⟨b, hb⟩ := zcons_nth hs
    cases s with
    | zero =>
      cases hb
      refine ⟨by show (0 : Int) ≤ (a : Int); omega, by show (a : Int) ≤ 1000; omega, fun _ => ⟨by show (0 : Int) ≤ (a : Int); omega, ?_⟩⟩
      show τ ((a : Int).toNat) = t
      rw [Int.toNat_natCast]
      exact ta
    | succ s =>
      have hb : iv_nth (zstdL 1 rs) s = some (b, c) := hb
      obtain ⟨y, h1, _, h3, h4, h5⟩ := stdL_nth h hb
      have e : stdR a ys x (s + 1) = y.toInt := by simp only [stdR, h1]
      rw [e]
      exact ⟨h4, h5, fun h9 => by rw [h3] at h9; omega⟩
  · cases i with
    | zero =>
      cases hi
      exact ⟨.ref a, rfl, a, rfl, rfl⟩
    | succ s =>
      have hb : iv_nth (zstdL 1 rs) s = some (b, c) := hi
      obtain ⟨y, h1, h2, h3, _⟩ := stdL_nth h hb
      have e : stdR a ys x (s + 1) = y.toInt := by simp only [stdR, h1]
      rw [e, h2, h3]
      have h8 := args_f1 (k := 1) h1
      refine ⟨.int y, ?_, y, rfl, rfl⟩
      show iv_f1 (lv_args 0 (Value.ref a :: ys.map .int)) (1 + s) = some (.int y)
      rw [Nat.add_comm] at h8 ⊢
      exact h8
theorem inR_none : ∀ {rs : List (Int × Int)} {ys : List Int32}, inR rs ys → iv_nth ys rs.length = none
  | [], [], _ => rfl
  | r :: rs, y :: ys, h => inR_none (rs := rs) (ys := ys) h.2
  | [], y :: ys, h => h.elim
  | r :: rs, [], h => h.elim
theorem std_zPB {τ : Nat → Nat} {t a ci j : Nat} (ta : τ a = t) (ha : a ≤ 1000) {rs : List (Int × Int)} {ys : List Int32} (h : inR rs ys) {σ : iv_H} {fs : List Value} {x : Int32} (ho : iv_get σ a = some (.inr (ci, fs))) (hx : iv_nth fs j = some (.int x)) (h0 : 0 ≤ x.toInt) (h9 : x.toInt ≤ 940) : zP_ok τ (fun _ => 0) (lv_args 0 (.ref a :: ys.map .int)) none σ (zstdB (t + 2) rs ci j) (stdR a ys x.toInt) := by
  have hP := std_zP (σ := σ) (x := x.toInt) ta ha h
  have key : ∀ (i : Nat) (b : zb) (c : zc), iv_nth (zstdB (t + 2) rs ci j).1 i = some (b, c) → (i = rs.length + 1 ∧ b = (1, 0, ci, j) ∧ c = (0, 0, 940)) ∨ iv_nth (zstd (t + 2) rs).1 i = some (b, c) := by
    intro i b c hi
    cases i with
    | zero => exact .inr hi
    | succ s =>
      have hi : iv_nth (zstdL 1 rs ++ [((1, 0, ci, j), (0, 0, 940))]) s = some (b, c) := hi
      rw [iv_nth_app] at hi
      split at hi
      · rename_i hs
        cases hi
        rw [stdL_len] at hs
        exact .inl ⟨by rw [hs], rfl, rfl⟩
      · exact .inr hi
  have el : stdR a ys x.toInt (rs.length + 1) = x.toInt := by simp only [stdR, inR_none h]
  refine ⟨fun s c hs => ?_, fun f hf => (by cases hf), fun i b c hi => ?_⟩
  · obtain ⟨b, hb⟩ := zcons_nth hs
    rcases key s b c hb with ⟨rfl, _, rfl⟩ | h2
    · rw [el]
      exact ⟨h0, h9, fun h8 => by have h8 : 2 ≤ 0 := h8; omega⟩
    · exact hP.1 s c (zcons_of h2)
  · rcases key i b c hi with ⟨rfl, rfl, rfl⟩ | h2
    · rw [el]
      exact ⟨a, fs, .int x, rfl, ho, hx, x, rfl, rfl⟩
    · exact hP.2.2 i b c h2
/-- every exit answers an int -/
def exI (Xs : List zp) : Bool := Xs.all fun X => match X.1 with
  | ((3, _, _, _), (0, _, _)) :: _ => true
  | _ => false
theorem ex_res {τ : Nat → Nat} {γ : Nat → Int} {r : Option Value} {σ : iv_H} {X : zp} {ρ : Nat → Int} {lo hi : Int} {k : Nat} {w : Nat × Nat × Nat} (h : zP_ok τ γ [] r σ X ρ) (hk : iv_nth X.1 k = some ((3, w), (0, lo, hi))) : ∃ v : Int32, r = some (.int v) ∧ v.toInt = ρ k ∧ lo ≤ v.toInt ∧ v.toInt ≤ hi := by
  obtain ⟨x, h1, h2⟩ := h.2.2 k _ _ hk
  obtain ⟨v, rfl, e⟩ := zdk0 h2
  obtain ⟨c1, c2, _⟩ := h.1 k _ (zcons_of hk)
  exact ⟨v, h1, e, by rw [e]; exact c1, by rw [e]; exact c2⟩
theorem ex_fld {τ : Nat → Nat} {γ : Nat → Int} {r : Option Value} {σ : iv_H} {X : zp} {ρ : Nat → Int} {lo hi : Int} {k a ci j : Nat} (h : zP_ok τ γ [] r σ X ρ) (hk : iv_nth X.1 k = some ((5, 0, ci, j), (0, lo, hi))) (hγ : γ 0 = (a : Int)) : ∃ (fs : List Value) (z : Int32), iv_get σ a = some (.inr (ci, fs)) ∧ iv_nth fs j = some (.int z) ∧ z.toInt = ρ k ∧ lo ≤ z.toInt ∧ z.toInt ≤ hi := by
  obtain ⟨b, fs, x, e1, h1, h2, h3⟩ := h.2.2 k _ _ hk
  obtain ⟨v, rfl, e⟩ := zdk0 h3
  obtain ⟨c1, c2, _⟩ := h.1 k _ (zcons_of hk)
  have e1 : (b : Int) = γ 0 := e1
  rw [hγ] at e1
  have e2 : b = a := by omega
  subst e2
  exact ⟨fs, v, h1, h2, e, by rw [e]; exact c1, by rw [e]; exact c2⟩
theorem ex_gh {τ : Nat → Nat} {γ : Nat → Int} {r : Option Value} {σ : iv_H} {X : zp} {ρ : Nat → Int} {cc : zc} {k g : Nat} {w : Nat × Nat} (h : zP_ok τ γ [] r σ X ρ) (hk : iv_nth X.1 k = some ((2, g, w), cc)) : ρ k = γ g ∧ cc.2.1 ≤ ρ k ∧ ρ k ≤ cc.2.2 := ⟨h.2.2 k _ _ hk, (h.1 k _ (zcons_of hk)).1, (h.1 k _ (zcons_of hk)).2.1⟩
theorem exI_ok {τ : Nat → Nat} {γ : Nat → Int} {r : Option Value} {σ : iv_H} {X : zp} {ρ : Nat → Int} {Xs : List zp} (hx : exI Xs = true) (hX : X ∈ Xs) (h : zP_ok τ γ [] r σ X ρ) : ∃ v : Int32, r = some (.int v) := by
  have h1 := List.all_eq_true.mp hx X hX
  obtain ⟨l, fs⟩ := X
  cases l with
  | nil => cases h1
  | cons q l =>
    obtain ⟨⟨t, w⟩, ⟨k, lo, hi⟩⟩ := q
    by_cases ht : t = 3
    · subst ht
      by_cases hk : k = 0
      · subst hk
        obtain ⟨v, hv, _⟩ := ex_res (k := 0) h (show iv_nth (((3, w), (0, lo, hi)) :: l) 0 = some ((3, w), (0, lo, hi)) from rfl)
        exact ⟨v, hv⟩
      · exfalso
        simp only at h1
        split at h1
        · rename_i e
          cases e
          exact hk rfl
        · cases h1
    · exfalso
      simp only at h1
      split at h1
      · rename_i e
        cases e
        exact ht rfl
      · cases h1
section CLS
variable {L : Nat} {xs : Nat → Int32} {d : Nat} {c : zct} {rs : List (Int × Int)} {ys : List Int32} {x y : Int32} {σ : iv_H}
/-- a call of the class that leaves the tape's length -/
theorem cl_c (hC : zCT z_τ z_ty z_J c) (e : c.2.2.2.1.2.1 = zstd 23 rs) (hm : cOK2 c.2.2.1 = true) (hb : zmem (0, 11, 1) c.2.2.1 = false) (hx : exI c.2.2.2.2.2 = true) (hr : inR rs ys) (hd : c.2.1 ≤ d) (hI : Inv x y σ) : ∃ (v : Int32) (σ1 : iv_H), iv_Rn L xs d c.1 0 (lv_args 0 (.ref 0 :: ys.map .int)) [] σ (some (.int v)) σ1 ∧ Inv x y σ1 := by
  obtain ⟨r, σ1, h1, h2, h3, h4, X, hX, ⟨ρX, h5⟩, _⟩ := hC L xs d (.ref 0 :: ys.map .int) σ (stdR 0 ys 0) hd hI.1.1 hI.1.2 (by rw [e]; exact std_zP (t := 21) rfl (by decide) hr)
  obtain ⟨v, rfl⟩ := exI_ok hx hX h5
  exact ⟨v, σ1, h1, inv_c hI h2 h3 h4 hm (by rw [fB_fr hI.1.1 h4 hb]; exact hI.2.2.1.1)⟩
/-- a call of the reference that leaves the tape's length -/
theorem cl_m (hC : zCT m_τ m_ty (mJ hT) c) (e : c.2.2.2.1.2.1 = zstd 24 rs) (hm : mOK2 c.2.2.1 = true) (hb : zmem (0, 12, 2) c.2.2.1 = false) (hx : exI c.2.2.2.2.2 = true) (hr : inR rs ys) (hd : c.2.1 ≤ d) (hI : Inv x y σ) : ∃ (v : Int32) (σ1 : iv_H), iv_Rn L xs d c.1 0 (lv_args 0 (.ref 548 :: ys.map .int)) [] σ (some (.int v)) σ1 ∧ Inv x y σ1 := by
  obtain ⟨r, σ1, h1, h2, h3, h4, X, hX, ⟨ρX, h5⟩, _⟩ := hC L xs d (.ref 548 :: ys.map .int) σ (stdR 548 ys 0) hd hI.2.1.1 hI.2.1.2 (by rw [e]; exact std_zP (t := 22) rfl (by decide) hr)
  obtain ⟨v, rfl⟩ := exI_ok hx hX h5
  exact ⟨v, σ1, h1, inv_m hI h2 h3 h4 hm (by rw [fT_fr hI.2.1.1 h4 hb]; exact hI.2.2.1.2)⟩
/-- a call that tells the tape's length -/
theorem cl_cB (hC : zCT z_τ z_ty z_J c) (e : c.2.2.2.1.2.1 = zstdB 23 rs 11 1) (hr : inR rs ys) (hd : c.2.1 ≤ d) (hI : Inv x y σ) : ∃ (r : Option Value) (σ1 : iv_H), iv_Rn L xs d c.1 0 (lv_args 0 (.ref 0 :: ys.map .int)) [] σ r σ1 ∧ (∀ x' : Int32, cOK2 c.2.2.1 = true → fB σ1 = some (.int x') → Inv x' y σ1) ∧ (0 ≤ x.toInt ∧ x.toInt ≤ 940) ∧ ∃ X ∈ c.2.2.2.2.2, ∃ ρX, zP_ok z_τ (zγ c.2.2.2.1.2.2.2 (stdR 0 ys x.toInt)) [] r σ1 X ρX := by
  obtain ⟨fs, h1, h2⟩ := z_G hI.1.1
  have h3 : iv_nth fs 1 = some (.int x) := by rw [← fB_of h1]; exact hI.2.2.1.1
  obtain ⟨h4, h5⟩ := h2 x h3
  obtain ⟨r, σ1, g1, g2, g3, g4, X, hX, ⟨ρX, g5⟩, _⟩ := hC L xs d (.ref 0 :: ys.map .int) σ (stdR 0 ys x.toInt) hd hI.1.1 hI.1.2 (by rw [e]; exact std_zPB (t := 21) rfl (by decide) hr h1 h3 h4 h5)
  exact ⟨r, σ1, g1, fun x' hm hx' => inv_c hI g2 g3 g4 hm hx', ⟨h4, h5⟩, X, hX, ρX, g5⟩
theorem cl_mB (hC : zCT m_τ m_ty (mJ hT) c) (e : c.2.2.2.1.2.1 = zstdB 24 rs 12 2) (hr : inR rs ys) (hd : c.2.1 ≤ d) (hI : Inv x y σ) : ∃ (r : Option Value) (σ1 : iv_H), iv_Rn L xs d c.1 0 (lv_args 0 (.ref 548 :: ys.map .int)) [] σ r σ1 ∧ (∀ y' : Int32, mOK2 c.2.2.1 = true → fT σ1 = some (.int y') → Inv x y' σ1) ∧ (0 ≤ y.toInt ∧ y.toInt ≤ 940) ∧ ∃ X ∈ c.2.2.2.2.2, ∃ ρX, zP_ok m_τ (zγ c.2.2.2.1.2.2.2 (stdR 548 ys y.toInt)) [] r σ1 X ρX := by
  obtain ⟨fs, h1, h2⟩ := m_G hI.2.1.1
  have h3 : iv_nth fs 2 = some (.int y) := by rw [← fT_of h1]; exact hI.2.2.1.2
  obtain ⟨h4, h5⟩ := h2 y h3
  obtain ⟨r, σ1, g1, g2, g3, g4, X, hX, ⟨ρX, g5⟩, _⟩ := hC L xs d (.ref 548 :: ys.map .int) σ (stdR 548 ys y.toInt) hd hI.2.1.1 hI.2.1.2 (by rw [e]; exact std_zPB (t := 22) rfl (by decide) hr h1 h3 h4 h5)
  exact ⟨r, σ1, g1, fun y' hm hy' => inv_m hI g2 g3 g4 hm hy', ⟨h4, h5⟩, X, hX, ρX, g5⟩
/-- a call that writes a tape, tells the tape's length -/
theorem cl_cF (hC : zCT z_τ z_ty z_J c) (e : c.2.2.2.1.2.1 = zstdB 23 rs 11 1) (hr : inR rs ys) (hd : c.2.1 ≤ d) {Q0 : iv_H → Prop} (hI : InvQ Q0 x y σ) : ∃ (r : Option Value) (σ1 : iv_H), iv_Rn L xs d c.1 0 (lv_args 0 (.ref 0 :: ys.map .int)) [] σ r σ1 ∧ zFr z_τ c.2.2.1 σ σ1 ∧ (∀ (Q : iv_H → Prop) (x' : Int32), cOK c.2.2.1 = true → fB σ1 = some (.int x') → Q σ1 → InvQ Q x' y σ1) ∧ (0 ≤ x.toInt ∧ x.toInt ≤ 940) ∧ ∃ X ∈ c.2.2.2.2.2, ∃ ρX, zP_ok z_τ (zγ c.2.2.2.1.2.2.2 (stdR 0 ys x.toInt)) [] r σ1 X ρX := by
  obtain ⟨fs, h1, h2⟩ := z_G hI.1.1
  have h3 : iv_nth fs 1 = some (.int x) := by rw [← fB_of h1]; exact hI.2.2.1.1
  obtain ⟨h4, h5⟩ := h2 x h3
  obtain ⟨r, σ1, g1, g2, g3, g4, X, hX, ⟨ρX, g5⟩, _⟩ := hC L xs d (.ref 0 :: ys.map .int) σ (stdR 0 ys x.toInt) hd hI.1.1 hI.1.2 (by rw [e]; exact std_zPB (t := 21) rfl (by decide) hr h1 h3 h4 h5)
  exact ⟨r, σ1, g1, g4, fun Q x' hm hx' hq => inv_cQ hI g2 g3 g4 hm hx' hq, ⟨h4, h5⟩, X, hX, ρX, g5⟩
theorem cl_mF (hC : zCT m_τ m_ty (mJ hT) c) (e : c.2.2.2.1.2.1 = zstdB 24 rs 12 2) (hr : inR rs ys) (hd : c.2.1 ≤ d) {Q0 : iv_H → Prop} (hI : InvQ Q0 x y σ) : ∃ (r : Option Value) (σ1 : iv_H), iv_Rn L xs d c.1 0 (lv_args 0 (.ref 548 :: ys.map .int)) [] σ r σ1 ∧ zFr m_τ c.2.2.1 σ σ1 ∧ (∀ (Q : iv_H → Prop) (y' : Int32), mOK c.2.2.1 = true → fT σ1 = some (.int y') → Q σ1 → InvQ Q x y' σ1) ∧ (0 ≤ y.toInt ∧ y.toInt ≤ 940) ∧ ∃ X ∈ c.2.2.2.2.2, ∃ ρX, zP_ok m_τ (zγ c.2.2.2.1.2.2.2 (stdR 548 ys y.toInt)) [] r σ1 X ρX := by
  obtain ⟨fs, h1, h2⟩ := m_G hI.2.1.1
  have h3 : iv_nth fs 2 = some (.int y) := by rw [← fT_of h1]; exact hI.2.2.1.2
  obtain ⟨h4, h5⟩ := h2 y h3
  obtain ⟨r, σ1, g1, g2, g3, g4, X, hX, ⟨ρX, g5⟩, _⟩ := hC L xs d (.ref 548 :: ys.map .int) σ (stdR 548 ys y.toInt) hd hI.2.1.1 hI.2.1.2 (by rw [e]; exact std_zPB (t := 22) rfl (by decide) hr h1 h3 h4 h5)
  exact ⟨r, σ1, g1, g4, fun Q y' hm hy' hq => inv_mQ hI g2 g3 g4 hm hy' hq, ⟨h4, h5⟩, X, hX, ρX, g5⟩
/-- a call that leaves the tape's length: its frame told -/
theorem cl_cZ (hC : zCT z_τ z_ty z_J c) (e : c.2.2.2.1.2.1 = zstd 23 rs) (hx : exI c.2.2.2.2.2 = true) (hr : inR rs ys) (hd : c.2.1 ≤ d) {Q0 : iv_H → Prop} (hI : InvQ Q0 x y σ) : ∃ (v : Int32) (σ1 : iv_H), iv_Rn L xs d c.1 0 (lv_args 0 (.ref 0 :: ys.map .int)) [] σ (some (.int v)) σ1 ∧ zFr z_τ c.2.2.1 σ σ1 ∧ ∀ (Q : iv_H → Prop), cOK c.2.2.1 = true → zmem (0, 11, 1) c.2.2.1 = false → Q σ1 → InvQ Q x y σ1 := by
  obtain ⟨r, σ1, h1, h2, h3, h4, X, hX, ⟨ρX, h5⟩, _⟩ := hC L xs d (.ref 0 :: ys.map .int) σ (stdR 0 ys 0) hd hI.1.1 hI.1.2 (by rw [e]; exact std_zP (t := 21) rfl (by decide) hr)
  obtain ⟨v, rfl⟩ := exI_ok hx hX h5
  exact ⟨v, σ1, h1, h4, fun Q hm hb hq => inv_cQ hI h2 h3 h4 hm (by rw [fB_fr hI.1.1 h4 hb]; exact hI.2.2.1.1) hq⟩
theorem cl_mZ (hC : zCT m_τ m_ty (mJ hT) c) (e : c.2.2.2.1.2.1 = zstd 24 rs) (hx : exI c.2.2.2.2.2 = true) (hr : inR rs ys) (hd : c.2.1 ≤ d) {Q0 : iv_H → Prop} (hI : InvQ Q0 x y σ) : ∃ (v : Int32) (σ1 : iv_H), iv_Rn L xs d c.1 0 (lv_args 0 (.ref 548 :: ys.map .int)) [] σ (some (.int v)) σ1 ∧ zFr m_τ c.2.2.1 σ σ1 ∧ ∀ (Q : iv_H → Prop), mOK c.2.2.1 = true → zmem (0, 12, 2) c.2.2.1 = false → Q σ1 → InvQ Q x y σ1 := by
  obtain ⟨r, σ1, h1, h2, h3, h4, X, hX, ⟨ρX, h5⟩, _⟩ := hC L xs d (.ref 548 :: ys.map .int) σ (stdR 548 ys 0) hd hI.2.1.1 hI.2.1.2 (by rw [e]; exact std_zP (t := 22) rfl (by decide) hr)
  obtain ⟨v, rfl⟩ := exI_ok hx hX h5
  exact ⟨v, σ1, h1, h4, fun Q hm hb hq => inv_mQ hI h2 h3 h4 hm (by rw [fT_fr hI.2.1.1 h4 hb]; exact hI.2.2.1.2) hq⟩
end CLS
