/-! ===== Book.addLine: its contracts ===== -/
/-- what a verb's contract looks like -/
def zaddc (r : zrw) : zct := (12, 5, [(1, 30, 0), (1, 31, 0), (1, 32, 0), (1, 33, 0)], (0, ([((0, 0, 0, 0), (12, 0, 1000)), ((0, 1, 0, 0), (0, r.1, r.1)), ((0, 2, 0, 0), (0, r.2.1.1, r.2.1.2)), ((0, 3, 0, 0), (0, r.2.2.1.1, r.2.2.1.2)), ((0, 4, 0, 0), (0, r.2.2.2.1, r.2.2.2.2))], []), (1, []), []), [], [([], [])])
theorem z_bk : z_ty 10 = some (.inl (0, [(0, 0, 40), (32, 0, 1000), (33, 0, 1000), (34, 0, 1000), (35, 0, 1000), (0, -2147483648, 2147483647), (0, -2147483648, 2147483647), (0, -2147483648, 2147483647), (0, -2147483648, 2147483647)])) := rfl
theorem z_t30 : z_ty 30 = some (.inr (0, 40, 0, [(0, 39, 0, 5)])) := rfl
theorem z_t31 : z_ty 31 = some (.inr (0, 40, 0, [(0, 39, 0, 60)])) := rfl
theorem z_t32 : z_ty 32 = some (.inr (0, 40, 0, [(0, 39, 0, 6)])) := rfl
theorem z_t33 : z_ty 33 = some (.inr (0, 40, 0, [(0, 39, 0, 2)])) := rfl
theorem z_Rb : ∀ r ∈ z_R, (0 ≤ r.1 ∧ r.1 ≤ 5) ∧ (0 ≤ r.2.1.1 ∧ r.2.1.2 ≤ 60) ∧ (0 ≤ r.2.2.1.1 ∧ r.2.2.1.2 ≤ 6) ∧ 0 ≤ r.2.2.2.1 ∧ r.2.2.2.2 ≤ 2 := by decide +kernel
/-- one place of an int array of 40 written: types stand, the frame -/
theorem zpi_ok {σ : iv_H} {a t i : Nat} {f : Nat → Int32} {x : Int32} {lo hi : Int} (hI : zI z_τ z_ty σ) (ha : z_τ a = t) (ht : z_ty t = some (.inr (0, 40, 0, [(0, 39, lo, hi)]))) (g : iv_get σ a = some (.inl (0, 40, .inl f))) (hi2 : i < 40) (h1 : lo ≤ x.toInt) (h2 : x.toInt ≤ hi) {ms : zm} (hm : zmem (1, t, 0) ms = true) : zI z_τ z_ty (zpi σ a f i x) ∧ zFr z_τ ms σ (zpi σ a f i x) := by
  refine ⟨zI_put hI g (fun T hT => ?_), zFr_ai g (.inl (by rw [ha]; exact hm))⟩
  rw [ha, ht] at hT
  cases hT
  obtain ⟨e, q1, f2, q2, q3⟩ := hI a _ (by rw [ha]; exact ht)
  rw [g] at q1
  cases q1
  cases q2
  refine ⟨_, rfl, fun j hj => ?_⟩
  rw [upd_at]
  split
  · exact ⟨_, List.mem_singleton.mpr rfl, Nat.zero_le _, by show j ≤ 39; omega, h1, h2⟩
  · exact q3 j hj
theorem z_un (t : Nat) (K : Nat) (ht : Nat.ble 3 t = true) (h : ((List.range 297).all fun k => match iv_nth z_tl k with
  | some t2 => bif Nat.beq t2 t then Nat.beq k K else true
  | none => true) = true) : ∀ a, z_τ a = t → a = 2 * K := by
  intro a ha
  have h3 := Nat.le_of_ble_eq_true ht
  unfold z_τ at ha
  cases hb : Nat.beq (a % 2) 0
  · rw [hb] at ha
    simp only [cond_false] at ha
    cases h1 : Nat.beq a 101
    · rw [h1] at ha
      cases h2 : Nat.ble 3 a && Nat.ble a 57
      · rw [h2] at ha; simp only [cond_false] at ha; omega
      · rw [h2] at ha; simp only [cond_true, cond_false] at ha; omega
    · rw [h1] at ha; simp only [cond_true] at ha; omega
  · rw [hb] at ha
    simp only [cond_true] at ha
    have h4 := Nat.eq_of_beq_eq_true hb
    split at ha
    · rename_i t2 ht2
      have h5 := iv_nth_lt ht2
      have h6 : z_tl.length = 297 := by decide +kernel
      have h7 := List.all_eq_true.mp h (a / 2) (List.mem_range.mpr (by omega))
      rw [ht2, ha] at h7
      simp only [Nat.beq_refl, cond_true] at h7
      have h8 := Nat.eq_of_beq_eq_true h7
      omega
    · omega
theorem zdk0 {y : Int} {x : Value} (h : zdk (zk 0) y x) : ∃ z : Int32, x = .int z ∧ z.toInt = y := h
theorem h_addCT (r : zrw) (hr : r ∈ z_R) : zCT z_τ z_ty z_J (zaddc r) := by
  intro L xs d cas σ ρ hd hI hJ hP
  obtain ⟨⟨r1, r2⟩, ⟨r3, r4⟩, ⟨r5, r6⟩, r7, r8⟩ := z_Rb r hr
  obtain ⟨x0, l0, k0⟩ := hP.2.2 0 _ _ rfl
  obtain ⟨x1, l1, k1⟩ := hP.2.2 1 _ _ rfl
  obtain ⟨x2, l2, k2⟩ := hP.2.2 2 _ _ rfl
  obtain ⟨x3, l3, k3⟩ := hP.2.2 3 _ _ rfl
  obtain ⟨x4, l4, k4⟩ := hP.2.2 4 _ _ rfl
  obtain ⟨bk, rfl, eb⟩ : ∃ a : Nat, x0 = .ref a ∧ (a : Int) = ρ 0 := k0
  obtain ⟨v, rfl, ev⟩ := zdk0 k1
  obtain ⟨a, rfl, ea⟩ := zdk0 k2
  obtain ⟨b, rfl, eb2⟩ := zdk0 k3
  obtain ⟨c, rfl, ec⟩ := zdk0 k4
  obtain ⟨_, _, c0⟩ := hP.1 0 _ rfl
  obtain ⟨c1, c1', _⟩ := hP.1 1 _ rfl
  obtain ⟨c2, c2', _⟩ := hP.1 2 _ rfl
  obtain ⟨c3, c3', _⟩ := hP.1 3 _ rfl
  obtain ⟨c4, c4', _⟩ := hP.1 4 _ rfl
  have c1 : r.1 ≤ ρ 1 := c1
  have c1' : ρ 1 ≤ r.1 := c1'
  have c2 : r.2.1.1 ≤ ρ 2 := c2
  have c2' : ρ 2 ≤ r.2.1.2 := c2'
  have c3 : r.2.2.1.1 ≤ ρ 3 := c3
  have c3' : ρ 3 ≤ r.2.2.1.2 := c3'
  have c4 : r.2.2.2.1 ≤ ρ 4 := c4
  have c4' : ρ 4 ≤ r.2.2.2.2 := c4'
  have tb : z_τ bk = 10 := by
    have h9 := (c0 (by decide)).2
    rw [← eb, Int.toNat_natCast] at h9
    exact h9
  obtain ⟨fs, hb, hlen, hfit⟩ := zI_obj hI tb z_bk
  have hlen : fs.length = 9 := hlen
  obtain ⟨y0, e0⟩ := iv_nth_some (l := fs) (n := 0) (by omega)
  obtain ⟨y1, e1⟩ := iv_nth_some (l := fs) (n := 1) (by omega)
  obtain ⟨y2, e2⟩ := iv_nth_some (l := fs) (n := 2) (by omega)
  obtain ⟨y3, e3⟩ := iv_nth_some (l := fs) (n := 3) (by omega)
  obtain ⟨y4, e4⟩ := iv_nth_some (l := fs) (n := 4) (by omega)
  obtain ⟨l, rfl, m0, m0'⟩ : ∃ y : Int32, y0 = .int y ∧ 0 ≤ y.toInt ∧ y.toInt ≤ 40 := hfit 0 _ y0 rfl e0
  obtain ⟨A1, rfl, _, _, t1⟩ : ∃ a : Nat, y1 = .ref a ∧ (0 : Int) ≤ a ∧ (a : Int) ≤ 1000 ∧ z_τ a = 30 := hfit 1 _ y1 rfl e1
  obtain ⟨A2, rfl, _, _, t2⟩ : ∃ a : Nat, y2 = .ref a ∧ (0 : Int) ≤ a ∧ (a : Int) ≤ 1000 ∧ z_τ a = 31 := hfit 2 _ y2 rfl e2
  obtain ⟨A3, rfl, _, _, t3⟩ : ∃ a : Nat, y3 = .ref a ∧ (0 : Int) ≤ a ∧ (a : Int) ≤ 1000 ∧ z_τ a = 32 := hfit 3 _ y3 rfl e3
  obtain ⟨A4, rfl, _, _, t4⟩ : ∃ a : Nat, y4 = .ref a ∧ (0 : Int) ≤ a ∧ (a : Int) ≤ 1000 ∧ z_τ a = 33 := hfit 4 _ y4 rfl e4
  obtain ⟨f1, g1, _⟩ := zI_ia hI t1 z_t30
  obtain ⟨f2, g2, _⟩ := zI_ia hI t2 z_t31
  obtain ⟨f3, g3, _⟩ := zI_ia hI t3 z_t32
  obtain ⟨f4, g4, _⟩ := zI_ia hI t4 z_t33
  have n12 : A2 ≠ A1 := fun e => by rw [e, t1] at t2; cases t2
  have n13 : A3 ≠ A1 := fun e => by rw [e, t1] at t3; cases t3
  have n14 : A4 ≠ A1 := fun e => by rw [e, t1] at t4; cases t4
  have n23 : A3 ≠ A2 := fun e => by rw [e, t2] at t3; cases t3
  have n24 : A4 ≠ A2 := fun e => by rw [e, t2] at t4; cases t4
  have n34 : A4 ≠ A3 := fun e => by rw [e, t3] at t4; cases t4
  obtain ⟨σ', hR, hσ⟩ := h_add (L := L) (xs := xs) (d := d) l0 l1 l2 l3 l4 hb e0 e1 e2 e3 e4 g1 g2 g3 g4 n12 n13 n14 n23 n24 n34 m0
  have hX : ∃ X ∈ (zaddc r).2.2.2.2.2, (∃ ρX, zP_ok z_τ (zγ (zaddc r).2.2.2.1.2.2.2 ρ) [] none σ' X ρX) ∧ (zhas3 X.1 = true → (none : Option Value).isSome = true) ∧ (zhas3 X.1 = false → (none : Option Value) = none) := ⟨([], []), List.mem_singleton.mpr rfl, ⟨ρ, fun s c h => (by cases h), fun f h => (by cases h), fun i b c h => (by cases h)⟩, fun h => (by cases h), fun _ => rfl⟩
  rcases hσ with rfl | ⟨hl, rfl⟩
  · exact ⟨none, _, hR, hI, hJ, zFr_rf, hX⟩
  · obtain ⟨_, q2, _⟩ := zin_of (n := 40) m0 hl
    have g21 : iv_get (zpi σ A1 f1 l.toNatClampNeg v) A2 = some (.inl (0, 40, .inl f2)) := iv_gp_n g1 g2 n12
    have g31 : iv_get (zpi σ A1 f1 l.toNatClampNeg v) A3 = some (.inl (0, 40, .inl f3)) := iv_gp_n g1 g3 n13
    have g41 : iv_get (zpi σ A1 f1 l.toNatClampNeg v) A4 = some (.inl (0, 40, .inl f4)) := iv_gp_n g1 g4 n14
    have g32 : iv_get (zpi (zpi σ A1 f1 l.toNatClampNeg v) A2 f2 l.toNatClampNeg a) A3 = some (.inl (0, 40, .inl f3)) := iv_gp_n g21 g31 n23
    have g42 : iv_get (zpi (zpi σ A1 f1 l.toNatClampNeg v) A2 f2 l.toNatClampNeg a) A4 = some (.inl (0, 40, .inl f4)) := iv_gp_n g21 g41 n24
    have g43 : iv_get (zpi (zpi (zpi σ A1 f1 l.toNatClampNeg v) A2 f2 l.toNatClampNeg a) A3 f3 l.toNatClampNeg b) A4 = some (.inl (0, 40, .inl f4)) := iv_gp_n g32 g42 n34
    have p1 := zpi_ok (ms := (zaddc r).2.2.1) (i := l.toNatClampNeg) (x := v) hI t1 z_t30 g1 q2 (by omega) (by omega) rfl
    have p2 := zpi_ok (ms := (zaddc r).2.2.1) (i := l.toNatClampNeg) (x := a) p1.1 t2 z_t31 g21 q2 (by omega) (by omega) rfl
    have p3 := zpi_ok (ms := (zaddc r).2.2.1) (i := l.toNatClampNeg) (x := b) p2.1 t3 z_t32 g32 q2 (by omega) (by omega) rfl
    have p4 := zpi_ok (ms := (zaddc r).2.2.1) (i := l.toNatClampNeg) (x := c) p3.1 t4 z_t33 g43 q2 (by omega) (by omega) rfl
    refine ⟨none, _, hR, p4.1, ?_, zFr_tr (fun _ h => h) p1.2 (zFr_tr (fun _ h => h) p2.2 (zFr_tr (fun _ h => h) p3.2 p4.2)), hX⟩
    have w4 := iv_gp_s (y := .inl (0, 40, .inl (upd f4 l.toNatClampNeg c))) g43
    have w3 := iv_gp_n (y := .inl (0, 40, .inl (upd f4 l.toNatClampNeg c))) g43 (iv_gp_s (y := .inl (0, 40, .inl (upd f3 l.toNatClampNeg b))) g32) (fun e => n34 e.symm)
    have w2 := iv_gp_n (y := .inl (0, 40, .inl (upd f4 l.toNatClampNeg c))) g43 (iv_gp_n (y := .inl (0, 40, .inl (upd f3 l.toNatClampNeg b))) g32 (iv_gp_s (y := .inl (0, 40, .inl (upd f2 l.toNatClampNeg a))) g21) (fun e => n23 e.symm)) (fun e => n24 e.symm)
    have w1 := iv_gp_n (y := .inl (0, 40, .inl (upd f4 l.toNatClampNeg c))) g43 (iv_gp_n (y := .inl (0, 40, .inl (upd f3 l.toNatClampNeg b))) g32 (iv_gp_n (y := .inl (0, 40, .inl (upd f2 l.toNatClampNeg a))) g21 (iv_gp_s (y := .inl (0, 40, .inl (upd f1 l.toNatClampNeg v))) g1) (fun e => n12 e.symm)) (fun e => n13 e.symm)) (fun e => n14 e.symm)
    intro a1 a2 a3 a4 u1 u2 u3 u4 s1 s2 s3 s4 h1 h2 h3 h4 y1 y2 y3 y4 z1 z2 z3 z4 j
    have o1 : a1 = A1 := (z_un 30 188 (by decide) (by decide +kernel) a1 y1).trans (z_un 30 188 (by decide) (by decide +kernel) A1 t1).symm
    have o2 : a2 = A2 := (z_un 31 189 (by decide) (by decide +kernel) a2 y2).trans (z_un 31 189 (by decide) (by decide +kernel) A2 t2).symm
    have o3 : a3 = A3 := (z_un 32 190 (by decide) (by decide +kernel) a3 y3).trans (z_un 32 190 (by decide) (by decide +kernel) A3 t3).symm
    have o4 : a4 = A4 := (z_un 33 191 (by decide) (by decide +kernel) a4 y4).trans (z_un 33 191 (by decide) (by decide +kernel) A4 t4).symm
    subst o1
    subst o2
    subst o3
    subst o4
    have x1 := z1.symm.trans w1
    have x2 := z2.symm.trans w2
    have x3 := z3.symm.trans w3
    have x4 := z4.symm.trans w4
    cases x1
    cases x2
    cases x3
    cases x4
    rw [upd_at, upd_at, upd_at, upd_at]
    by_cases hj : j = l.toNatClampNeg
    · rw [if_pos hj, if_pos hj, if_pos hj, if_pos hj]
      exact ⟨r, hr, by omega, ⟨by omega, by omega⟩, ⟨by omega, by omega⟩, by omega, by omega⟩
    · rw [if_neg hj, if_neg hj, if_neg hj, if_neg hj]
      exact hJ a1 a2 a3 a4 0 0 0 0 40 40 40 40 f1 f2 f3 f4 t1 t2 t3 t4 g1 g2 g3 g4 j
