/-! an order's numbers and names on both sides -/
def CA (σ : iv_H) (A : Nat) (N : Nat → Int32) (Nm : Nat → Int64) : Prop := (oF σ A 1 = some (.int (N 0)) ∧ oF σ A 2 = some (.int (N 1)) ∧ oF σ A 3 = some (.int (N 2)) ∧ oF σ A 5 = some (.int (N 4))) ∧ ∃ nb ng : Nat, (N 0 = Int32.ofNat nb ∧ N 1 = Int32.ofNat ng) ∧ (nb ≤ 7 ∧ ng ≤ 6) ∧ (∀ b, b < nb → yRel (Nm b) (mL σ (A + 2) b)) ∧ ∀ g, g < ng → yRel (Nm (7 + g)) (mL σ (A + 10) g)
/-- A holds behind it what B held before -/
def CP (σ σ' : iv_H) (A B : Nat) : Prop := (oF σ' A 1 = oF σ B 1 ∧ oF σ' A 2 = oF σ B 2 ∧ oF σ' A 3 = oF σ B 3 ∧ oF σ' A 5 = oF σ B 5) ∧ (∀ b, b < 7 → mL σ' (A + 2) b = mL σ (B + 2) b) ∧ ∀ g, g < 6 → mL σ' (A + 10) g = mL σ (B + 10) g
theorem CA_eq {σ σ' : iv_H} {A B : Nat} {N N2 : Nat → Int32} {Nm Nm2 : Nat → Int64} (h : CA σ B N Nm) (hp : CP σ σ' A B) (hN : ∀ i, i < 38 → N2 i = N i) (hM : ∀ i, i < 13 → Nm2 i = Nm i) : CA σ' A N2 Nm2 := by
  obtain ⟨⟨f1, f2, f3, f5⟩, nb, ng, ⟨n0, n1⟩, ⟨b7, g6⟩, hb, hg⟩ := h
  obtain ⟨⟨e1, e2, e3, e5⟩, l1, l2⟩ := hp
  refine ⟨⟨?_, ?_, ?_, ?_⟩, nb, ng, ⟨?_, ?_⟩, ⟨b7, g6⟩, fun b hb2 => ?_, fun g hg2 => ?_⟩
  · rw [e1, hN 0 (by decide)]; exact f1
  · rw [e2, hN 1 (by decide)]; exact f2
  · rw [e3, hN 2 (by decide)]; exact f3
  · rw [e5, hN 4 (by decide)]; exact f5
  · rw [hN 0 (by decide)]; exact n0
  · rw [hN 1 (by decide)]; exact n1
  · rw [l1 b (by omega), hM b (by omega)]; exact hb b hb2
  · rw [l2 g (by omega), hM (7 + g) (by omega)]; exact hg g hg2
theorem CP_tr {σ σ1 σ2 : iv_H} {A B : Nat} (h : CP σ σ1 A B) (k : CP σ1 σ2 A A) : CP σ σ2 A B := ⟨⟨k.1.1.trans h.1.1, k.1.2.1.trans h.1.2.1, k.1.2.2.1.trans h.1.2.2.1, k.1.2.2.2.trans h.1.2.2.2⟩, fun b hb => (k.2.1 b hb).trans (h.2.1 b hb), fun g hg => (k.2.2 g hg).trans (h.2.2 g hg)⟩
theorem CP_g {σ σ' : iv_H} {A : Nat} (h0 : iv_get σ' A = iv_get σ A) (h2 : iv_get σ' (A + 2) = iv_get σ (A + 2)) (h3 : iv_get σ' (A + 10) = iv_get σ (A + 10)) : CP σ σ' A A := ⟨⟨oF_g h0 1, oF_g h0 2, oF_g h0 3, oF_g h0 5⟩, fun b _ => by rw [mL_g h2], fun g _ => by rw [mL_g h3]⟩
theorem CP_rf {σ : iv_H} {A : Nat} : CP σ σ A A := CP_g rfl rfl rfl
theorem CP_F {S : List Nat} {σ σ' : iv_H} {A : Nat} (h : yFr S σ σ') (h0 : iv_mem A S = false) (h2 : iv_mem (A + 2) S = false) (h3 : iv_mem (A + 10) S = false) : CP σ σ' A A := CP_g (h.2 A h0) (h.2 _ h2) (h.2 _ h3)
theorem CP_D {σ σ' : iv_H} {X A : Nat} {e : iv_E} (h : mD σ σ' X e) (h0 : A ≠ X) (h2 : A + 2 ≠ X) (h3 : A + 10 ≠ X) : CP σ σ' A A := CP_g (h.2.2 A h0) (h.2.2 _ h2) (h.2.2 _ h3)
/-- mods that leave all orders of the class -/
def cOK4 (ms : zm) : Bool := (!(zmem (0, 3, 1) ms) && (!(zmem (0, 3, 2) ms) && (!(zmem (0, 3, 3) ms) && !(zmem (0, 3, 5) ms)))) && (!(zmt 43 ms) && !(zmt 47 ms))
theorem cOK4_of {ms : zm} (h : cOK4 ms = true) : zmem (0, 3, 1) ms = false ∧ zmem (0, 3, 2) ms = false ∧ zmem (0, 3, 3) ms = false ∧ zmem (0, 3, 5) ms = false ∧ zmt 43 ms = false ∧ zmt 47 ms = false := by
  unfold cOK4 at h
  simp only [Bool.and_eq_true, Bool.not_eq_true'] at h
  exact ⟨h.1.1, h.1.2.1, h.1.2.2.1, h.1.2.2.2, h.2.1, h.2.2⟩
theorem oF_c {ms : zm} {σ σ' : iv_H} {A j : Nat} (hI : zI z_τ z_ty σ) (hF : zFr z_τ ms σ σ') (hA : z_τ A = 13) (hm : zmem (0, 3, j) ms = false) : oF σ' A j = oF σ A j := by
  obtain ⟨fs, g, _⟩ := zI_obj hI hA (show z_ty 13 = _ from rfl)
  obtain ⟨fs2, g2, e⟩ := (hF.2 A).1 3 fs g
  rw [hO_of g, hO_of g2]
  exact e j hm
theorem mL_c {ms : zm} {σ σ' : iv_H} {a t n k : Nat} {sg : zsg} (hI : zI z_τ z_ty σ) (hF : zFr z_τ ms σ σ') (ha : z_τ a = t) (ht : z_ty t = some (.inr (1, n, k, sg))) (hm : zmt t ms = false) : mL σ' a = mL σ a := by
  obtain ⟨f, g⟩ := yj_of hI (a := a) (by rw [ha]; exact ht)
  have g2 := (hF.2 a).2.1 _ g (by rw [ha]; exact hm)
  rw [hL_of g, hL_of g2]
theorem mA_z {ms : zm} {σ σ' : iv_H} {a t n : Nat} {f : Nat → Int32} (g : iv_get σ a = some (.inl (t, n, .inl f))) (hF : zFr z_τ ms σ σ') (hm : zmt (z_τ a) ms = false) : mA σ' a = mA σ a := by
  have g2 := (hF.2 a).2.1 _ g hm
  rw [hA_of g, hA_of g2]
theorem CP_z {ms : zm} {σ σ' : iv_H} {A : Nat} (hI : zI z_τ z_ty σ) (hF : zFr z_τ ms σ σ') (hm : cOK4 ms = true) (hA : z_τ A = 13) (hB : z_τ (A + 2) = 43) (hC : z_τ (A + 10) = 47) : CP σ σ' A A := by
  obtain ⟨m1, m2, m3, m5, t43, t47⟩ := cOK4_of hm
  have l1 := mL_c hI hF hB rfl t43
  have l2 := mL_c hI hF hC rfl t47
  exact ⟨⟨oF_c hI hF hA m1, oF_c hI hF hA m2, oF_c hI hF hA m3, oF_c hI hF hA m5⟩, fun b _ => by rw [l1], fun g _ => by rw [l2]⟩
/-- orders that copyFrom has copied -/
theorem CP_cp {σ σ' : iv_H} {A B : Nat} {D E1 : Nat → Value} {f6 f14 f22 f30 : Nat → Int64} {x1 x2 x3 x5 : Int32} (gB : iv_get σ B = some (yob 3 16 D)) (d1 : D 1 = .int x1) (d2 : D 2 = .int x2) (d3 : D 3 = .int x3) (d5 : D 5 = .int x5) (g22 : iv_get σ (B + 2) = some (yaj 7 f22)) (g30 : iv_get σ (B + 10) = some (yaj 6 f30)) (gA : iv_get σ' A = some (yob 3 16 E1)) (e1 : E1 1 = .int x1) (e2 : E1 2 = .int x2) (e3 : E1 3 = .int x3) (e5 : E1 5 = .int x5) (h6 : iv_get σ' (A + 2) = some (yaj 7 (va_cpy f22 f6 0 0 7))) (h14 : iv_get σ' (A + 10) = some (yaj 6 (va_cpy f30 f14 0 0 6))) : CP σ σ' A B := by
  have a : ∀ {j : Nat} {x : Int32}, j < 16 → D j = .int x → E1 j = .int x → oF σ' A j = oF σ B j := fun {j x} hj h1 h2 => by
    rw [hO_of gA, hO_of gB, y_nthV hj, y_nthV hj, h1, h2]
  refine ⟨⟨a (by decide) d1 e1, a (by decide) d2 e2, a (by decide) d3 e3, a (by decide) d5 e5⟩, fun b hb => ?_, fun g hg => ?_⟩
  · rw [hL_of h6, hL_of g22, zcpy_at, if_pos (by omega)]
    exact congrArg f22 (by omega)
  · rw [hL_of h14, hL_of g30, zcpy_at, if_pos (by omega)]
    exact congrArg f30 (by omega)
/-- an order as one object -/
theorem oI_of {σ : iv_H} {A j : Nat} {E : Nat → Value} (g : iv_get σ A = some (yob 3 16 E)) (hj : j < 16) : oF σ A j = some (E j) := by
  rw [hO_of g, y_nthV hj]
def FX2 (σ : iv_H) : Prop := ∃ f : Nat → Option Nat, iv_get σ 366 = some (.inl (3, 2, .inr (.inr (.inr (.inr f))))) ∧ f 0 = some 440 ∧ f 1 = some 494
/-- both orders, and the kept ones where they are kept -/
def CK (σ : iv_H) : Prop := CA σ 4 (mA σ 552) (mL σ 562) ∧ ∀ k, k < 2 → mA σ 372 k = mA σ 568 k ∧ (mA σ 372 k = 1 → CA σ (440 + 54 * k) (fun i => mA σ 556 (374 * k + i)) (fun i => mL σ 566 (13 * k + i)))
theorem c_isk {σ : iv_H} (hI : zI z_τ z_ty σ) : ∃ f : Nat → Int32, iv_get σ 372 = some (.inl (2, 2, .inl f)) ∧ ∀ i, i < 2 → f i = 0 ∨ f i = 1 := by
  obtain ⟨k, sg, hT⟩ : ∃ k sg, z_ty 72 = some (.inr (2, 2, k, sg)) := ⟨_, _, rfl⟩
  obtain ⟨e, h1, h2⟩ := hI 372 _ (show z_ty (z_τ 372) = _ from hT)
  obtain ⟨f, rfl, h3⟩ := (show ∃ f : Nat → Int32, e = .inl (2, 2, .inl f) ∧ ∀ i, i < 2 → (f i = 0 ∨ f i = 1) ∧ zseg sg i (f i).toInt from h2)
  exact ⟨f, h1, fun i hi => (h3 i hi).1⟩
