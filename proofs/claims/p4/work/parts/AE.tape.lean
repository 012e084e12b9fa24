/-! ===== the calls that change a tape's length ===== -/
theorem i32_full (y : Int32) : (-2147483648 : Int) ≤ y.toInt ∧ y.toInt ≤ 2147483647 := by
  have h1 := Int32.le_toInt y
  have h2 := Int32.toInt_lt y
  omega
def feedP (x v x' : Int32) : Prop := (x.toInt ≤ 920 ∧ v.toInt = x.toInt + 20 ∧ x'.toInt = x.toInt + 20) ∨ (921 ≤ x.toInt ∧ v.toInt = -1 ∧ x'.toInt = x.toInt)
def endP (x n v x' : Int32) : Prop := (0 ≤ n.toInt ∧ n.toInt ≤ x.toInt ∧ v.toInt = 1 ∧ x'.toInt = n.toInt) ∨ ((n.toInt < 0 ∨ x.toInt < n.toInt) ∧ v.toInt = 0 ∧ x'.toInt = x.toInt)
def bookP (x n x' : Int32) : Prop := ((n.toInt = 0 ∨ n.toInt = 1) ∧ x'.toInt = 0) ∨ ((n.toInt < 0 ∨ 1 < n.toInt) ∧ x'.toInt = x.toInt)
theorem s_feed_c {L : Nat} {xs : Nat → Int32} {d : Nat} {x y a1 a2 a3 a4 a5 : Int32} {σ : iv_H} (hd : 5 ≤ d) (hI : Inv x y σ) : ∃ (v x' : Int32) (σ1 : iv_H), iv_Rn L xs d 113 0 (lv_args 0 [.ref 0, .int a1, .int a2, .int a3, .int a4, .int a5]) [] σ (some (.int v)) σ1 ∧ Inv x' y σ1 ∧ feedP x v x' := by
  obtain ⟨r, σ1, h1, h2, ⟨b0, b9⟩, X, hX, ρX, h5⟩ := cl_cB (L := L) (xs := xs) (rs := [(-2147483648, 2147483647), (-2147483648, 2147483647), (-2147483648, 2147483647), (-2147483648, 2147483647), (-2147483648, 2147483647)]) (ys := [a1, a2, a3, a4, a5]) zu_0 rfl ⟨i32_full a1, ⟨i32_full a2, ⟨i32_full a3, ⟨i32_full a4, ⟨i32_full a5, trivial⟩⟩⟩⟩⟩ hd hI
  have hX : X ∈ [([((3, 0, 0, 0), (0, (-1), (-1))), ((5, 0, 11, 1), (0, 921, 940)), ((2, 1, 0, 0), (0, 921, 940))], [(0, [(2, (-1)), (1, 1)]), (0, [(2, 1), (1, (-1))]), (922, [(2, (-1)), (0, 1)])]), ([((3, 0, 0, 0), (0, 20, 940)), ((5, 0, 11, 1), (0, 20, 940)), ((2, 1, 0, 0), (0, 0, 920))], [((-20), [(2, (-1)), (1, 1)]), (20, [(2, 1), (1, (-1))]), ((-20), [(2, (-1)), (0, 1)]), (20, [(2, 1), (0, (-1))])])] := hX
  simp only [List.mem_cons, List.not_mem_nil, or_false] at hX
  rcases hX with rfl | rfl
  · obtain ⟨v, rfl, ev, v1, v2⟩ := ex_res (k := 0) h5 rfl
    obtain ⟨fs, z, g1, g2, ez, z1, z2⟩ := ex_fld (k := 1) (a := 0) h5 rfl rfl
    obtain ⟨e2, p2, q2⟩ := ex_gh (k := 2) h5 rfl
    have e2 : ρX 2 = x.toInt := e2
    have p2 : 921 ≤ ρX 2 := p2
    have q2 : ρX 2 ≤ 940 := q2
    have f0 : 0 + ((-1) * ρX 2 + (1 * ρX 1 + 0)) ≤ 0 := h5.2.1 _ (List.mem_cons_self)
    have f1 : 0 + (1 * ρX 2 + ((-1) * ρX 1 + 0)) ≤ 0 := h5.2.1 _ (List.mem_cons_of_mem _ (List.mem_cons_self))
    have f2 : 922 + ((-1) * ρX 2 + (1 * ρX 0 + 0)) ≤ 0 := h5.2.1 _ (List.mem_cons_of_mem _ (List.mem_cons_of_mem _ (List.mem_cons_self)))
    refine ⟨v, z, σ1, h1, h2 z rfl (by rw [fB_of g1]; exact g2), ?_⟩
    exact .inr ⟨by omega, by omega, by omega⟩
  · obtain ⟨v, rfl, ev, v1, v2⟩ := ex_res (k := 0) h5 rfl
    obtain ⟨fs, z, g1, g2, ez, z1, z2⟩ := ex_fld (k := 1) (a := 0) h5 rfl rfl
    obtain ⟨e2, p2, q2⟩ := ex_gh (k := 2) h5 rfl
    have e2 : ρX 2 = x.toInt := e2
    have p2 : 0 ≤ ρX 2 := p2
    have q2 : ρX 2 ≤ 920 := q2
    have f0 : (-20) + ((-1) * ρX 2 + (1 * ρX 1 + 0)) ≤ 0 := h5.2.1 _ (List.mem_cons_self)
    have f1 : 20 + (1 * ρX 2 + ((-1) * ρX 1 + 0)) ≤ 0 := h5.2.1 _ (List.mem_cons_of_mem _ (List.mem_cons_self))
    have f2 : (-20) + ((-1) * ρX 2 + (1 * ρX 0 + 0)) ≤ 0 := h5.2.1 _ (List.mem_cons_of_mem _ (List.mem_cons_of_mem _ (List.mem_cons_self)))
    have f3 : 20 + (1 * ρX 2 + ((-1) * ρX 0 + 0)) ≤ 0 := h5.2.1 _ (List.mem_cons_of_mem _ (List.mem_cons_of_mem _ (List.mem_cons_of_mem _ (List.mem_cons_self))))
    refine ⟨v, z, σ1, h1, h2 z rfl (by rw [fB_of g1]; exact g2), ?_⟩
    exact .inl ⟨by omega, by omega, by omega⟩
theorem s_feed_m {L : Nat} {xs : Nat → Int32} {d : Nat} {x y a1 a2 a3 a4 a5 : Int32} {σ : iv_H} (hd : 12 ≤ d) (hI : Inv x y σ) : ∃ (v x' : Int32) (σ1 : iv_H), iv_Rn L xs d 157 0 (lv_args 0 [.ref 548, .int a1, .int a2, .int a3, .int a4, .int a5]) [] σ (some (.int v)) σ1 ∧ Inv x x' σ1 ∧ feedP y v x' := by
  obtain ⟨r, σ1, h1, h2, ⟨b0, b9⟩, X, hX, ρX, h5⟩ := cl_mB (L := L) (xs := xs) (rs := [(-2147483648, 2147483647), (-2147483648, 2147483647), (-2147483648, 2147483647), (-2147483648, 2147483647), (-2147483648, 2147483647)]) (ys := [a1, a2, a3, a4, a5]) nt_0 rfl ⟨i32_full a1, ⟨i32_full a2, ⟨i32_full a3, ⟨i32_full a4, ⟨i32_full a5, trivial⟩⟩⟩⟩⟩ hd hI
  have hX : X ∈ [([((3, 0, 0, 0), (0, (-1), (-1))), ((5, 0, 12, 2), (0, 921, 940)), ((2, 1, 0, 0), (0, 921, 940))], [(0, [(2, (-1)), (1, 1)]), (0, [(2, 1), (1, (-1))]), (922, [(2, (-1)), (0, 1)])]), ([((3, 0, 0, 0), (0, 20, 940)), ((5, 0, 12, 2), (0, 20, 940)), ((2, 1, 0, 0), (0, 0, 920))], [((-20), [(2, (-1)), (1, 1)]), (20, [(2, 1), (1, (-1))]), ((-20), [(2, (-1)), (0, 1)]), (20, [(2, 1), (0, (-1))])])] := hX
  simp only [List.mem_cons, List.not_mem_nil, or_false] at hX
  rcases hX with rfl | rfl
  · obtain ⟨v, rfl, ev, v1, v2⟩ := ex_res (k := 0) h5 rfl
    obtain ⟨fs, z, g1, g2, ez, z1, z2⟩ := ex_fld (k := 1) (a := 548) h5 rfl rfl
    obtain ⟨e2, p2, q2⟩ := ex_gh (k := 2) h5 rfl
    have e2 : ρX 2 = y.toInt := e2
    have p2 : 921 ≤ ρX 2 := p2
    have q2 : ρX 2 ≤ 940 := q2
    have f0 : 0 + ((-1) * ρX 2 + (1 * ρX 1 + 0)) ≤ 0 := h5.2.1 _ (List.mem_cons_self)
    have f1 : 0 + (1 * ρX 2 + ((-1) * ρX 1 + 0)) ≤ 0 := h5.2.1 _ (List.mem_cons_of_mem _ (List.mem_cons_self))
    have f2 : 922 + ((-1) * ρX 2 + (1 * ρX 0 + 0)) ≤ 0 := h5.2.1 _ (List.mem_cons_of_mem _ (List.mem_cons_of_mem _ (List.mem_cons_self)))
    refine ⟨v, z, σ1, h1, h2 z rfl (by rw [fT_of g1]; exact g2), ?_⟩
    exact .inr ⟨by omega, by omega, by omega⟩
  · obtain ⟨v, rfl, ev, v1, v2⟩ := ex_res (k := 0) h5 rfl
    obtain ⟨fs, z, g1, g2, ez, z1, z2⟩ := ex_fld (k := 1) (a := 548) h5 rfl rfl
    obtain ⟨e2, p2, q2⟩ := ex_gh (k := 2) h5 rfl
    have e2 : ρX 2 = y.toInt := e2
    have p2 : 0 ≤ ρX 2 := p2
    have q2 : ρX 2 ≤ 920 := q2
    have f0 : (-20) + ((-1) * ρX 2 + (1 * ρX 1 + 0)) ≤ 0 := h5.2.1 _ (List.mem_cons_self)
    have f1 : 20 + (1 * ρX 2 + ((-1) * ρX 1 + 0)) ≤ 0 := h5.2.1 _ (List.mem_cons_of_mem _ (List.mem_cons_self))
    have f2 : (-20) + ((-1) * ρX 2 + (1 * ρX 0 + 0)) ≤ 0 := h5.2.1 _ (List.mem_cons_of_mem _ (List.mem_cons_of_mem _ (List.mem_cons_self)))
    have f3 : 20 + (1 * ρX 2 + ((-1) * ρX 0 + 0)) ≤ 0 := h5.2.1 _ (List.mem_cons_of_mem _ (List.mem_cons_of_mem _ (List.mem_cons_of_mem _ (List.mem_cons_self))))
    refine ⟨v, z, σ1, h1, h2 z rfl (by rw [fT_of g1]; exact g2), ?_⟩
    exact .inl ⟨by omega, by omega, by omega⟩
theorem s_end_c {L : Nat} {xs : Nat → Int32} {d : Nat} {x y a1 : Int32} {σ : iv_H} (hd : 5 ≤ d) (hI : Inv x y σ) : ∃ (v x' : Int32) (σ1 : iv_H), iv_Rn L xs d 115 0 (lv_args 0 [.ref 0, .int a1]) [] σ (some (.int v)) σ1 ∧ Inv x' y σ1 ∧ endP x a1 v x' := by
  obtain ⟨r, σ1, h1, h2, ⟨b0, b9⟩, X, hX, ρX, h5⟩ := cl_cB (L := L) (xs := xs) (rs := [(-2147483648, 2147483647)]) (ys := [a1]) zu_1 rfl ⟨i32_full a1, trivial⟩ hd hI
  have hX : X ∈ [([((3, 0, 0, 0), (0, 0, 0)), ((5, 0, 11, 1), (0, 0, 940)), ((2, 1, 0, 0), (0, 0, 940)), ((2, 11, 0, 0), (0, 1, 2147483647))], [(0, [(2, (-1)), (1, 1)]), (0, [(2, 1), (1, (-1))]), (1, [(2, 1), (3, (-1))]), (1, [(3, (-1)), (1, 1)])]), ([((3, 0, 0, 0), (0, 1, 1)), ((5, 0, 11, 1), (0, 0, 940)), ((2, 1, 0, 0), (0, 0, 940)), ((2, 11, 0, 0), (0, 0, 940))], [(0, [(2, (-1)), (1, 1)]), (0, [(2, (-1)), (3, 1)]), ((-940), [(2, 1), (3, (-1))]), (0, [(3, (-1)), (1, 1)]), (0, [(3, 1), (1, (-1))])]), ([((3, 0, 0, 0), (0, 0, 0)), ((5, 0, 11, 1), (0, 0, 940)), ((2, 1, 0, 0), (0, 0, 940)), ((2, 11, 0, 0), (0, (-2147483648), (-1)))], [(0, [(2, (-1)), (1, 1)]), (0, [(2, 1), (1, (-1))]), (1, [(2, (-1)), (3, 1)]), (1, [(3, 1), (1, (-1))])])] := hX
  simp only [List.mem_cons, List.not_mem_nil, or_false] at hX
  rcases hX with rfl | rfl | rfl
  · obtain ⟨v, rfl, ev, v1, v2⟩ := ex_res (k := 0) h5 rfl
    obtain ⟨fs, z, g1, g2, ez, z1, z2⟩ := ex_fld (k := 1) (a := 0) h5 rfl rfl
    obtain ⟨e2, p2, q2⟩ := ex_gh (k := 2) h5 rfl
    have e2 : ρX 2 = x.toInt := e2
    have p2 : 0 ≤ ρX 2 := p2
    have q2 : ρX 2 ≤ 940 := q2
    obtain ⟨e3, p3, q3⟩ := ex_gh (k := 3) h5 rfl
    have e3 : ρX 3 = a1.toInt := e3
    have p3 : 1 ≤ ρX 3 := p3
    have q3 : ρX 3 ≤ 2147483647 := q3
    have f0 : 0 + ((-1) * ρX 2 + (1 * ρX 1 + 0)) ≤ 0 := h5.2.1 _ (List.mem_cons_self)
    have f1 : 0 + (1 * ρX 2 + ((-1) * ρX 1 + 0)) ≤ 0 := h5.2.1 _ (List.mem_cons_of_mem _ (List.mem_cons_self))
    have f2 : 1 + (1 * ρX 2 + ((-1) * ρX 3 + 0)) ≤ 0 := h5.2.1 _ (List.mem_cons_of_mem _ (List.mem_cons_of_mem _ (List.mem_cons_self)))
    have f3 : 1 + ((-1) * ρX 3 + (1 * ρX 1 + 0)) ≤ 0 := h5.2.1 _ (List.mem_cons_of_mem _ (List.mem_cons_of_mem _ (List.mem_cons_of_mem _ (List.mem_cons_self))))
    refine ⟨v, z, σ1, h1, h2 z rfl (by rw [fB_of g1]; exact g2), ?_⟩
    exact .inr ⟨.inr (by omega), by omega, by omega⟩
  · obtain ⟨v, rfl, ev, v1, v2⟩ := ex_res (k := 0) h5 rfl
    obtain ⟨fs, z, g1, g2, ez, z1, z2⟩ := ex_fld (k := 1) (a := 0) h5 rfl rfl
    obtain ⟨e2, p2, q2⟩ := ex_gh (k := 2) h5 rfl
    have e2 : ρX 2 = x.toInt := e2
    have p2 : 0 ≤ ρX 2 := p2
    have q2 : ρX 2 ≤ 940 := q2
    obtain ⟨e3, p3, q3⟩ := ex_gh (k := 3) h5 rfl
    have e3 : ρX 3 = a1.toInt := e3
    have p3 : 0 ≤ ρX 3 := p3
    have q3 : ρX 3 ≤ 940 := q3
    have f0 : 0 + ((-1) * ρX 2 + (1 * ρX 1 + 0)) ≤ 0 := h5.2.1 _ (List.mem_cons_self)
    have f1 : 0 + ((-1) * ρX 2 + (1 * ρX 3 + 0)) ≤ 0 := h5.2.1 _ (List.mem_cons_of_mem _ (List.mem_cons_self))
    have f2 : (-940) + (1 * ρX 2 + ((-1) * ρX 3 + 0)) ≤ 0 := h5.2.1 _ (List.mem_cons_of_mem _ (List.mem_cons_of_mem _ (List.mem_cons_self)))
    have f3 : 0 + ((-1) * ρX 3 + (1 * ρX 1 + 0)) ≤ 0 := h5.2.1 _ (List.mem_cons_of_mem _ (List.mem_cons_of_mem _ (List.mem_cons_of_mem _ (List.mem_cons_self))))
    have f4 : 0 + (1 * ρX 3 + ((-1) * ρX 1 + 0)) ≤ 0 := h5.2.1 _ (List.mem_cons_of_mem _ (List.mem_cons_of_mem _ (List.mem_cons_of_mem _ (List.mem_cons_of_mem _ (List.mem_cons_self)))))
    refine ⟨v, z, σ1, h1, h2 z rfl (by rw [fB_of g1]; exact g2), ?_⟩
    exact .inl ⟨by omega, by omega, by omega, by omega⟩
  · obtain ⟨v, rfl, ev, v1, v2⟩ := ex_res (k := 0) h5 rfl
    obtain ⟨fs, z, g1, g2, ez, z1, z2⟩ := ex_fld (k := 1) (a := 0) h5 rfl rfl
    obtain ⟨e2, p2, q2⟩ := ex_gh (k := 2) h5 rfl
    have e2 : ρX 2 = x.toInt := e2
    have p2 : 0 ≤ ρX 2 := p2
    have q2 : ρX 2 ≤ 940 := q2
    obtain ⟨e3, p3, q3⟩ := ex_gh (k := 3) h5 rfl
    have e3 : ρX 3 = a1.toInt := e3
    have p3 : (-2147483648) ≤ ρX 3 := p3
    have q3 : ρX 3 ≤ (-1) := q3
    have f0 : 0 + ((-1) * ρX 2 + (1 * ρX 1 + 0)) ≤ 0 := h5.2.1 _ (List.mem_cons_self)
    have f1 : 0 + (1 * ρX 2 + ((-1) * ρX 1 + 0)) ≤ 0 := h5.2.1 _ (List.mem_cons_of_mem _ (List.mem_cons_self))
    have f2 : 1 + ((-1) * ρX 2 + (1 * ρX 3 + 0)) ≤ 0 := h5.2.1 _ (List.mem_cons_of_mem _ (List.mem_cons_of_mem _ (List.mem_cons_self)))
    have f3 : 1 + (1 * ρX 3 + ((-1) * ρX 1 + 0)) ≤ 0 := h5.2.1 _ (List.mem_cons_of_mem _ (List.mem_cons_of_mem _ (List.mem_cons_of_mem _ (List.mem_cons_self))))
    refine ⟨v, z, σ1, h1, h2 z rfl (by rw [fB_of g1]; exact g2), ?_⟩
    exact .inr ⟨.inl (by omega), by omega, by omega⟩
theorem s_end_m {L : Nat} {xs : Nat → Int32} {d : Nat} {x y a1 : Int32} {σ : iv_H} (hd : 12 ≤ d) (hI : Inv x y σ) : ∃ (v x' : Int32) (σ1 : iv_H), iv_Rn L xs d 158 0 (lv_args 0 [.ref 548, .int a1]) [] σ (some (.int v)) σ1 ∧ Inv x x' σ1 ∧ endP y a1 v x' := by
  obtain ⟨r, σ1, h1, h2, ⟨b0, b9⟩, X, hX, ρX, h5⟩ := cl_mB (L := L) (xs := xs) (rs := [(-2147483648, 2147483647)]) (ys := [a1]) nt_1 rfl ⟨i32_full a1, trivial⟩ hd hI
  have hX : X ∈ [([((3, 0, 0, 0), (0, 0, 0)), ((5, 0, 12, 2), (0, 0, 940)), ((2, 1, 0, 0), (0, 0, 940)), ((2, 11, 0, 0), (0, 1, 2147483647))], [(0, [(2, (-1)), (1, 1)]), (0, [(2, 1), (1, (-1))]), (1, [(2, 1), (3, (-1))]), (1, [(3, (-1)), (1, 1)])]), ([((3, 0, 0, 0), (0, 1, 1)), ((5, 0, 12, 2), (0, 0, 940)), ((2, 1, 0, 0), (0, 0, 940)), ((2, 11, 0, 0), (0, 0, 940))], [(0, [(2, (-1)), (1, 1)]), (0, [(2, (-1)), (3, 1)]), ((-940), [(2, 1), (3, (-1))]), (0, [(3, (-1)), (1, 1)]), (0, [(3, 1), (1, (-1))])]), ([((3, 0, 0, 0), (0, 0, 0)), ((5, 0, 12, 2), (0, 0, 940)), ((2, 1, 0, 0), (0, 0, 940)), ((2, 11, 0, 0), (0, (-2147483648), (-1)))], [(0, [(2, (-1)), (1, 1)]), (0, [(2, 1), (1, (-1))]), (1, [(2, (-1)), (3, 1)]), (1, [(3, 1), (1, (-1))])])] := hX
  simp only [List.mem_cons, List.not_mem_nil, or_false] at hX
  rcases hX with rfl | rfl | rfl
  · obtain ⟨v, rfl, ev, v1, v2⟩ := ex_res (k := 0) h5 rfl
    obtain ⟨fs, z, g1, g2, ez, z1, z2⟩ := ex_fld (k := 1) (a := 548) h5 rfl rfl
    obtain ⟨e2, p2, q2⟩ := ex_gh (k := 2) h5 rfl
    have e2 : ρX 2 = y.toInt := e2
    have p2 : 0 ≤ ρX 2 := p2
    have q2 : ρX 2 ≤ 940 := q2
    obtain ⟨e3, p3, q3⟩ := ex_gh (k := 3) h5 rfl
    have e3 : ρX 3 = a1.toInt := e3
    have p3 : 1 ≤ ρX 3 := p3
    have q3 : ρX 3 ≤ 2147483647 := q3
    have f0 : 0 + ((-1) * ρX 2 + (1 * ρX 1 + 0)) ≤ 0 := h5.2.1 _ (List.mem_cons_self)
    have f1 : 0 + (1 * ρX 2 + ((-1) * ρX 1 + 0)) ≤ 0 := h5.2.1 _ (List.mem_cons_of_mem _ (List.mem_cons_self))
    have f2 : 1 + (1 * ρX 2 + ((-1) * ρX 3 + 0)) ≤ 0 := h5.2.1 _ (List.mem_cons_of_mem _ (List.mem_cons_of_mem _ (List.mem_cons_self)))
    have f3 : 1 + ((-1) * ρX 3 + (1 * ρX 1 + 0)) ≤ 0 := h5.2.1 _ (List.mem_cons_of_mem _ (List.mem_cons_of_mem _ (List.mem_cons_of_mem _ (List.mem_cons_self))))
    refine ⟨v, z, σ1, h1, h2 z rfl (by rw [fT_of g1]; exact g2), ?_⟩
    exact .inr ⟨.inr (by omega), by omega, by omega⟩
  · obtain ⟨v, rfl, ev, v1, v2⟩ := ex_res (k := 0) h5 rfl
    obtain ⟨fs, z, g1, g2, ez, z1, z2⟩ := ex_fld (k := 1) (a := 548) h5 rfl rfl
    obtain ⟨e2, p2, q2⟩ := ex_gh (k := 2) h5 rfl
    have e2 : ρX 2 = y.toInt := e2
    have p2 : 0 ≤ ρX 2 := p2
    have q2 : ρX 2 ≤ 940 := q2
    obtain ⟨e3, p3, q3⟩ := ex_gh (k := 3) h5 rfl
    have e3 : ρX 3 = a1.toInt := e3
    have p3 : 0 ≤ ρX 3 := p3
    have q3 : ρX 3 ≤ 940 := q3
    have f0 : 0 + ((-1) * ρX 2 + (1 * ρX 1 + 0)) ≤ 0 := h5.2.1 _ (List.mem_cons_self)
    have f1 : 0 + ((-1) * ρX 2 + (1 * ρX 3 + 0)) ≤ 0 := h5.2.1 _ (List.mem_cons_of_mem _ (List.mem_cons_self))
    have f2 : (-940) + (1 * ρX 2 + ((-1) * ρX 3 + 0)) ≤ 0 := h5.2.1 _ (List.mem_cons_of_mem _ (List.mem_cons_of_mem _ (List.mem_cons_self)))
    have f3 : 0 + ((-1) * ρX 3 + (1 * ρX 1 + 0)) ≤ 0 := h5.2.1 _ (List.mem_cons_of_mem _ (List.mem_cons_of_mem _ (List.mem_cons_of_mem _ (List.mem_cons_self))))
    have f4 : 0 + (1 * ρX 3 + ((-1) * ρX 1 + 0)) ≤ 0 := h5.2.1 _ (List.mem_cons_of_mem _ (List.mem_cons_of_mem _ (List.mem_cons_of_mem _ (List.mem_cons_of_mem _ (List.mem_cons_self)))))
    refine ⟨v, z, σ1, h1, h2 z rfl (by rw [fT_of g1]; exact g2), ?_⟩
    exact .inl ⟨by omega, by omega, by omega, by omega⟩
  · obtain ⟨v, rfl, ev, v1, v2⟩ := ex_res (k := 0) h5 rfl
    obtain ⟨fs, z, g1, g2, ez, z1, z2⟩ := ex_fld (k := 1) (a := 548) h5 rfl rfl
    obtain ⟨e2, p2, q2⟩ := ex_gh (k := 2) h5 rfl
    have e2 : ρX 2 = y.toInt := e2
    have p2 : 0 ≤ ρX 2 := p2
    have q2 : ρX 2 ≤ 940 := q2
    obtain ⟨e3, p3, q3⟩ := ex_gh (k := 3) h5 rfl
    have e3 : ρX 3 = a1.toInt := e3
    have p3 : (-2147483648) ≤ ρX 3 := p3
    have q3 : ρX 3 ≤ (-1) := q3
    have f0 : 0 + ((-1) * ρX 2 + (1 * ρX 1 + 0)) ≤ 0 := h5.2.1 _ (List.mem_cons_self)
    have f1 : 0 + (1 * ρX 2 + ((-1) * ρX 1 + 0)) ≤ 0 := h5.2.1 _ (List.mem_cons_of_mem _ (List.mem_cons_self))
    have f2 : 1 + ((-1) * ρX 2 + (1 * ρX 3 + 0)) ≤ 0 := h5.2.1 _ (List.mem_cons_of_mem _ (List.mem_cons_of_mem _ (List.mem_cons_self)))
    have f3 : 1 + (1 * ρX 3 + ((-1) * ρX 1 + 0)) ≤ 0 := h5.2.1 _ (List.mem_cons_of_mem _ (List.mem_cons_of_mem _ (List.mem_cons_of_mem _ (List.mem_cons_self))))
    refine ⟨v, z, σ1, h1, h2 z rfl (by rw [fT_of g1]; exact g2), ?_⟩
    exact .inr ⟨.inl (by omega), by omega, by omega⟩
theorem s_order_c {L : Nat} {xs : Nat → Int32} {d : Nat} {x y  : Int32} {σ : iv_H} (hd : 50 ≤ d) (hI : Inv x y σ) : ∃ (v x' : Int32) (σ1 : iv_H), iv_Rn L xs d 117 0 (lv_args 0 [.ref 0]) [] σ (some (.int v)) σ1 ∧ Inv x' y σ1 ∧ x'.toInt = 0 := by
  obtain ⟨r, σ1, h1, h2, ⟨b0, b9⟩, X, hX, ρX, h5⟩ := cl_cB (L := L) (xs := xs) (rs := []) (ys := []) zu_7 rfl trivial hd hI
  have hX : X ∈ [([((3, 0, 0, 0), (0, (-2147483648), 2147483647)), ((5, 0, 11, 1), (0, 0, 0)), ((2, 1, 0, 0), (0, 0, 940))], [])] := hX
  simp only [List.mem_cons, List.not_mem_nil, or_false] at hX
  rcases hX with rfl
  · obtain ⟨v, rfl, ev, v1, v2⟩ := ex_res (k := 0) h5 rfl
    obtain ⟨fs, z, g1, g2, ez, z1, z2⟩ := ex_fld (k := 1) (a := 0) h5 rfl rfl
    obtain ⟨e2, p2, q2⟩ := ex_gh (k := 2) h5 rfl
    have e2 : ρX 2 = x.toInt := e2
    have p2 : 0 ≤ ρX 2 := p2
    have q2 : ρX 2 ≤ 940 := q2
    refine ⟨v, z, σ1, h1, h2 z rfl (by rw [fB_of g1]; exact g2), ?_⟩
    exact (by omega)
theorem s_order_m {L : Nat} {xs : Nat → Int32} {d : Nat} {x y  : Int32} {σ : iv_H} (hd : 72 ≤ d) (hI : Inv x y σ) : ∃ (v x' : Int32) (σ1 : iv_H), iv_Rn L xs d 191 0 (lv_args 0 [.ref 548]) [] σ (some (.int v)) σ1 ∧ Inv x x' σ1 ∧ x'.toInt = 0 := by
  obtain ⟨r, σ1, h1, h2, ⟨b0, b9⟩, X, hX, ρX, h5⟩ := cl_mB (L := L) (xs := xs) (rs := []) (ys := []) nt_4 rfl trivial hd hI
  have hX : X ∈ [([((3, 0, 0, 0), (0, (-2147483648), 2147483647)), ((5, 0, 12, 2), (0, 0, 0)), ((2, 1, 0, 0), (0, 0, 940))], [])] := hX
  simp only [List.mem_cons, List.not_mem_nil, or_false] at hX
  rcases hX with rfl
  · obtain ⟨v, rfl, ev, v1, v2⟩ := ex_res (k := 0) h5 rfl
    obtain ⟨fs, z, g1, g2, ez, z1, z2⟩ := ex_fld (k := 1) (a := 548) h5 rfl rfl
    obtain ⟨e2, p2, q2⟩ := ex_gh (k := 2) h5 rfl
    have e2 : ρX 2 = y.toInt := e2
    have p2 : 0 ≤ ρX 2 := p2
    have q2 : ρX 2 ≤ 940 := q2
    refine ⟨v, z, σ1, h1, h2 z rfl (by rw [fT_of g1]; exact g2), ?_⟩
    exact (by omega)
theorem s_heaps_c {L : Nat} {xs : Nat → Int32} {d : Nat} {x y  : Int32} {σ : iv_H} (hd : 55 ≤ d) (hI : Inv x y σ) : ∃ (v x' : Int32) (σ1 : iv_H), iv_Rn L xs d 134 0 (lv_args 0 [.ref 0]) [] σ (some (.int v)) σ1 ∧ Inv x' y σ1 ∧ x'.toInt = 0 := by
  obtain ⟨r, σ1, h1, h2, ⟨b0, b9⟩, X, hX, ρX, h5⟩ := cl_cB (L := L) (xs := xs) (rs := []) (ys := []) zu_8 rfl trivial hd hI
  have hX : X ∈ [([((3, 0, 0, 0), (0, (-2147483648), 2147483647)), ((5, 0, 11, 1), (0, 0, 0)), ((2, 1, 0, 0), (0, 0, 940))], [])] := hX
  simp only [List.mem_cons, List.not_mem_nil, or_false] at hX
  rcases hX with rfl
  · obtain ⟨v, rfl, ev, v1, v2⟩ := ex_res (k := 0) h5 rfl
    obtain ⟨fs, z, g1, g2, ez, z1, z2⟩ := ex_fld (k := 1) (a := 0) h5 rfl rfl
    obtain ⟨e2, p2, q2⟩ := ex_gh (k := 2) h5 rfl
    have e2 : ρX 2 = x.toInt := e2
    have p2 : 0 ≤ ρX 2 := p2
    have q2 : ρX 2 ≤ 940 := q2
    refine ⟨v, z, σ1, h1, h2 z rfl (by rw [fB_of g1]; exact g2), ?_⟩
    exact (by omega)
theorem s_heaps_m {L : Nat} {xs : Nat → Int32} {d : Nat} {x y  : Int32} {σ : iv_H} (hd : 60 ≤ d) (hI : Inv x y σ) : ∃ (v x' : Int32) (σ1 : iv_H), iv_Rn L xs d 233 0 (lv_args 0 [.ref 548]) [] σ (some (.int v)) σ1 ∧ Inv x x' σ1 ∧ x'.toInt = 0 := by
  obtain ⟨r, σ1, h1, h2, ⟨b0, b9⟩, X, hX, ρX, h5⟩ := cl_mB (L := L) (xs := xs) (rs := []) (ys := []) nt_5 rfl trivial hd hI
  have hX : X ∈ [([((3, 0, 0, 0), (0, (-2147483648), 2147483647)), ((5, 0, 12, 2), (0, 0, 0)), ((2, 1, 0, 0), (0, 0, 940))], [])] := hX
  simp only [List.mem_cons, List.not_mem_nil, or_false] at hX
  rcases hX with rfl
  · obtain ⟨v, rfl, ev, v1, v2⟩ := ex_res (k := 0) h5 rfl
    obtain ⟨fs, z, g1, g2, ez, z1, z2⟩ := ex_fld (k := 1) (a := 548) h5 rfl rfl
    obtain ⟨e2, p2, q2⟩ := ex_gh (k := 2) h5 rfl
    have e2 : ρX 2 = y.toInt := e2
    have p2 : 0 ≤ ρX 2 := p2
    have q2 : ρX 2 ≤ 940 := q2
    refine ⟨v, z, σ1, h1, h2 z rfl (by rw [fT_of g1]; exact g2), ?_⟩
    exact (by omega)
theorem s_sent_c {L : Nat} {xs : Nat → Int32} {d : Nat} {x y  : Int32} {σ : iv_H} (hd : 150 ≤ d) (hI : Inv x y σ) : ∃ (v x' : Int32) (σ1 : iv_H), iv_Rn L xs d 150 0 (lv_args 0 [.ref 0]) [] σ (some (.int v)) σ1 ∧ Inv x' y σ1 ∧ x'.toInt = 0 := by
  obtain ⟨r, σ1, h1, h2, ⟨b0, b9⟩, X, hX, ρX, h5⟩ := cl_cB (L := L) (xs := xs) (rs := []) (ys := []) zu_15 rfl trivial hd hI
  have hX : X ∈ [([((3, 0, 0, 0), (0, (-2147483648), 2147483647)), ((5, 0, 11, 1), (0, 0, 0)), ((2, 1, 0, 0), (0, 0, 940))], [])] := hX
  simp only [List.mem_cons, List.not_mem_nil, or_false] at hX
  rcases hX with rfl
  · obtain ⟨v, rfl, ev, v1, v2⟩ := ex_res (k := 0) h5 rfl
    obtain ⟨fs, z, g1, g2, ez, z1, z2⟩ := ex_fld (k := 1) (a := 0) h5 rfl rfl
    obtain ⟨e2, p2, q2⟩ := ex_gh (k := 2) h5 rfl
    have e2 : ρX 2 = x.toInt := e2
    have p2 : 0 ≤ ρX 2 := p2
    have q2 : ρX 2 ≤ 940 := q2
    refine ⟨v, z, σ1, h1, h2 z rfl (by rw [fB_of g1]; exact g2), ?_⟩
    exact (by omega)
theorem s_sent_m {L : Nat} {xs : Nat → Int32} {d : Nat} {x y  : Int32} {σ : iv_H} (hd : 444 ≤ d) (hI : Inv x y σ) : ∃ (v x' : Int32) (σ1 : iv_H), iv_Rn L xs d 277 0 (lv_args 0 [.ref 548]) [] σ (some (.int v)) σ1 ∧ Inv x x' σ1 ∧ x'.toInt = 0 := by
  obtain ⟨r, σ1, h1, h2, ⟨b0, b9⟩, X, hX, ρX, h5⟩ := cl_mB (L := L) (xs := xs) (rs := []) (ys := []) nt_7 rfl trivial hd hI
  have hX : X ∈ [([((3, 0, 0, 0), (0, (-2147483648), 2147483647)), ((5, 0, 12, 2), (0, 0, 0)), ((2, 1, 0, 0), (0, 0, 940))], [])] := hX
  simp only [List.mem_cons, List.not_mem_nil, or_false] at hX
  rcases hX with rfl
  · obtain ⟨v, rfl, ev, v1, v2⟩ := ex_res (k := 0) h5 rfl
    obtain ⟨fs, z, g1, g2, ez, z1, z2⟩ := ex_fld (k := 1) (a := 548) h5 rfl rfl
    obtain ⟨e2, p2, q2⟩ := ex_gh (k := 2) h5 rfl
    have e2 : ρX 2 = y.toInt := e2
    have p2 : 0 ≤ ρX 2 := p2
    have q2 : ρX 2 ≤ 940 := q2
    refine ⟨v, z, σ1, h1, h2 z rfl (by rw [fT_of g1]; exact g2), ?_⟩
    exact (by omega)
theorem s_book_cn {L : Nat} {xs : Nat → Int32} {d : Nat} {x y a1 : Int32} {σ : iv_H} (hr : (-2147483648 : Int) ≤ a1.toInt ∧ a1.toInt ≤ -1) (hd : 5 ≤ d) (hI : Inv x y σ) : ∃ (v x' : Int32) (σ1 : iv_H), iv_Rn L xs d 148 0 (lv_args 0 [.ref 0, .int a1]) [] σ (some (.int v)) σ1 ∧ Inv x' y σ1 ∧ bookP x a1 x' := by
  obtain ⟨r, σ1, h1, h2, ⟨b0, b9⟩, X, hX, ρX, h5⟩ := cl_cB (L := L) (xs := xs) (rs := [(-2147483648, -1)]) (ys := [a1]) zu_11 rfl ⟨hr, trivial⟩ hd hI
  have hX : X ∈ [([((3, 0, 0, 0), (0, (-1000), (-1000))), ((5, 0, 11, 1), (0, 0, 940)), ((2, 1, 0, 0), (0, 0, 940))], [(0, [(2, (-1)), (1, 1)]), (0, [(2, 1), (1, (-1))])])] := hX
  simp only [List.mem_cons, List.not_mem_nil, or_false] at hX
  rcases hX with rfl
  · obtain ⟨v, rfl, ev, v1, v2⟩ := ex_res (k := 0) h5 rfl
    obtain ⟨fs, z, g1, g2, ez, z1, z2⟩ := ex_fld (k := 1) (a := 0) h5 rfl rfl
    obtain ⟨e2, p2, q2⟩ := ex_gh (k := 2) h5 rfl
    have e2 : ρX 2 = x.toInt := e2
    have p2 : 0 ≤ ρX 2 := p2
    have q2 : ρX 2 ≤ 940 := q2
    have f0 : 0 + ((-1) * ρX 2 + (1 * ρX 1 + 0)) ≤ 0 := h5.2.1 _ (List.mem_cons_self)
    have f1 : 0 + (1 * ρX 2 + ((-1) * ρX 1 + 0)) ≤ 0 := h5.2.1 _ (List.mem_cons_of_mem _ (List.mem_cons_self))
    refine ⟨v, z, σ1, h1, h2 z rfl (by rw [fB_of g1]; exact g2), ?_⟩
    exact .inr ⟨.inl (by omega), by omega⟩
theorem s_book_c0 {L : Nat} {xs : Nat → Int32} {d : Nat} {x y a1 : Int32} {σ : iv_H} (hr : (0 : Int) ≤ a1.toInt ∧ a1.toInt ≤ 0) (hd : 50 ≤ d) (hI : Inv x y σ) : ∃ (v x' : Int32) (σ1 : iv_H), iv_Rn L xs d 148 0 (lv_args 0 [.ref 0, .int a1]) [] σ (some (.int v)) σ1 ∧ Inv x' y σ1 ∧ bookP x a1 x' := by
  obtain ⟨r, σ1, h1, h2, ⟨b0, b9⟩, X, hX, ρX, h5⟩ := cl_cB (L := L) (xs := xs) (rs := [(0, 0)]) (ys := [a1]) zu_12 rfl ⟨hr, trivial⟩ hd hI
  have hX : X ∈ [([((3, 0, 0, 0), (0, (-2147483648), 2147483647)), ((5, 0, 11, 1), (0, 0, 0)), ((2, 1, 0, 0), (0, 0, 940))], [])] := hX
  simp only [List.mem_cons, List.not_mem_nil, or_false] at hX
  rcases hX with rfl
  · obtain ⟨v, rfl, ev, v1, v2⟩ := ex_res (k := 0) h5 rfl
    obtain ⟨fs, z, g1, g2, ez, z1, z2⟩ := ex_fld (k := 1) (a := 0) h5 rfl rfl
    obtain ⟨e2, p2, q2⟩ := ex_gh (k := 2) h5 rfl
    have e2 : ρX 2 = x.toInt := e2
    have p2 : 0 ≤ ρX 2 := p2
    have q2 : ρX 2 ≤ 940 := q2
    refine ⟨v, z, σ1, h1, h2 z rfl (by rw [fB_of g1]; exact g2), ?_⟩
    exact .inl ⟨.inl (by omega), by omega⟩
theorem s_book_c1 {L : Nat} {xs : Nat → Int32} {d : Nat} {x y a1 : Int32} {σ : iv_H} (hr : (1 : Int) ≤ a1.toInt ∧ a1.toInt ≤ 1) (hd : 50 ≤ d) (hI : Inv x y σ) : ∃ (v x' : Int32) (σ1 : iv_H), iv_Rn L xs d 148 0 (lv_args 0 [.ref 0, .int a1]) [] σ (some (.int v)) σ1 ∧ Inv x' y σ1 ∧ bookP x a1 x' := by
  obtain ⟨r, σ1, h1, h2, ⟨b0, b9⟩, X, hX, ρX, h5⟩ := cl_cB (L := L) (xs := xs) (rs := [(1, 1)]) (ys := [a1]) zu_13 rfl ⟨hr, trivial⟩ hd hI
  have hX : X ∈ [([((3, 0, 0, 0), (0, (-2147483648), 2147483647)), ((5, 0, 11, 1), (0, 0, 0)), ((2, 1, 0, 0), (0, 0, 940))], [])] := hX
  simp only [List.mem_cons, List.not_mem_nil, or_false] at hX
  rcases hX with rfl
  · obtain ⟨v, rfl, ev, v1, v2⟩ := ex_res (k := 0) h5 rfl
    obtain ⟨fs, z, g1, g2, ez, z1, z2⟩ := ex_fld (k := 1) (a := 0) h5 rfl rfl
    obtain ⟨e2, p2, q2⟩ := ex_gh (k := 2) h5 rfl
    have e2 : ρX 2 = x.toInt := e2
    have p2 : 0 ≤ ρX 2 := p2
    have q2 : ρX 2 ≤ 940 := q2
    refine ⟨v, z, σ1, h1, h2 z rfl (by rw [fB_of g1]; exact g2), ?_⟩
    exact .inl ⟨.inr (by omega), by omega⟩
theorem s_book_cp {L : Nat} {xs : Nat → Int32} {d : Nat} {x y a1 : Int32} {σ : iv_H} (hr : (2 : Int) ≤ a1.toInt ∧ a1.toInt ≤ 2147483647) (hd : 5 ≤ d) (hI : Inv x y σ) : ∃ (v x' : Int32) (σ1 : iv_H), iv_Rn L xs d 148 0 (lv_args 0 [.ref 0, .int a1]) [] σ (some (.int v)) σ1 ∧ Inv x' y σ1 ∧ bookP x a1 x' := by
  obtain ⟨r, σ1, h1, h2, ⟨b0, b9⟩, X, hX, ρX, h5⟩ := cl_cB (L := L) (xs := xs) (rs := [(2, 2147483647)]) (ys := [a1]) zu_14 rfl ⟨hr, trivial⟩ hd hI
  have hX : X ∈ [([((3, 0, 0, 0), (0, (-1000), (-1000))), ((5, 0, 11, 1), (0, 0, 940)), ((2, 1, 0, 0), (0, 0, 940))], [(0, [(2, (-1)), (1, 1)]), (0, [(2, 1), (1, (-1))])])] := hX
  simp only [List.mem_cons, List.not_mem_nil, or_false] at hX
  rcases hX with rfl
  · obtain ⟨v, rfl, ev, v1, v2⟩ := ex_res (k := 0) h5 rfl
    obtain ⟨fs, z, g1, g2, ez, z1, z2⟩ := ex_fld (k := 1) (a := 0) h5 rfl rfl
    obtain ⟨e2, p2, q2⟩ := ex_gh (k := 2) h5 rfl
    have e2 : ρX 2 = x.toInt := e2
    have p2 : 0 ≤ ρX 2 := p2
    have q2 : ρX 2 ≤ 940 := q2
    have f0 : 0 + ((-1) * ρX 2 + (1 * ρX 1 + 0)) ≤ 0 := h5.2.1 _ (List.mem_cons_self)
    have f1 : 0 + (1 * ρX 2 + ((-1) * ρX 1 + 0)) ≤ 0 := h5.2.1 _ (List.mem_cons_of_mem _ (List.mem_cons_self))
    refine ⟨v, z, σ1, h1, h2 z rfl (by rw [fB_of g1]; exact g2), ?_⟩
    exact .inr ⟨.inr (by omega), by omega⟩
theorem s_book_m {L : Nat} {xs : Nat → Int32} {d : Nat} {x y a1 : Int32} {σ : iv_H} (hd : 104 ≤ d) (hI : Inv x y σ) : ∃ (v x' : Int32) (σ1 : iv_H), iv_Rn L xs d 266 0 (lv_args 0 [.ref 548, .int a1]) [] σ (some (.int v)) σ1 ∧ Inv x x' σ1 ∧ bookP y a1 x' := by
  obtain ⟨r, σ1, h1, h2, ⟨b0, b9⟩, X, hX, ρX, h5⟩ := cl_mB (L := L) (xs := xs) (rs := [(-2147483648, 2147483647)]) (ys := [a1]) nt_6 rfl ⟨i32_full a1, trivial⟩ hd hI
  have hX : X ∈ [([((3, 0, 0, 0), (0, (-2147483648), 2147483647)), ((5, 0, 12, 2), (0, 0, 0)), ((2, 1, 0, 0), (0, 0, 940)), ((2, 11, 0, 0), (0, 0, 1))], []), ([((3, 0, 0, 0), (0, (-1000), (-1000))), ((5, 0, 12, 2), (0, 0, 940)), ((2, 1, 0, 0), (0, 0, 940)), ((2, 11, 0, 0), (0, 2, 2147483647))], [(0, [(2, (-1)), (1, 1)]), (0, [(2, 1), (1, (-1))])]), ([((3, 0, 0, 0), (0, (-1000), (-1000))), ((5, 0, 12, 2), (0, 0, 940)), ((2, 1, 0, 0), (0, 0, 940)), ((2, 11, 0, 0), (0, (-2147483648), (-1)))], [(0, [(2, (-1)), (1, 1)]), (0, [(2, 1), (1, (-1))])])] := hX
  simp only [List.mem_cons, List.not_mem_nil, or_false] at hX
  rcases hX with rfl | rfl | rfl
  · obtain ⟨v, rfl, ev, v1, v2⟩ := ex_res (k := 0) h5 rfl
    obtain ⟨fs, z, g1, g2, ez, z1, z2⟩ := ex_fld (k := 1) (a := 548) h5 rfl rfl
    obtain ⟨e2, p2, q2⟩ := ex_gh (k := 2) h5 rfl
    have e2 : ρX 2 = y.toInt := e2
    have p2 : 0 ≤ ρX 2 := p2
    have q2 : ρX 2 ≤ 940 := q2
    obtain ⟨e3, p3, q3⟩ := ex_gh (k := 3) h5 rfl
    have e3 : ρX 3 = a1.toInt := e3
    have p3 : 0 ≤ ρX 3 := p3
    have q3 : ρX 3 ≤ 1 := q3
    refine ⟨v, z, σ1, h1, h2 z rfl (by rw [fT_of g1]; exact g2), ?_⟩
    exact .inl ⟨(by omega), by omega⟩
  · obtain ⟨v, rfl, ev, v1, v2⟩ := ex_res (k := 0) h5 rfl
    obtain ⟨fs, z, g1, g2, ez, z1, z2⟩ := ex_fld (k := 1) (a := 548) h5 rfl rfl
    obtain ⟨e2, p2, q2⟩ := ex_gh (k := 2) h5 rfl
    have e2 : ρX 2 = y.toInt := e2
    have p2 : 0 ≤ ρX 2 := p2
    have q2 : ρX 2 ≤ 940 := q2
    obtain ⟨e3, p3, q3⟩ := ex_gh (k := 3) h5 rfl
    have e3 : ρX 3 = a1.toInt := e3
    have p3 : 2 ≤ ρX 3 := p3
    have q3 : ρX 3 ≤ 2147483647 := q3
    have f0 : 0 + ((-1) * ρX 2 + (1 * ρX 1 + 0)) ≤ 0 := h5.2.1 _ (List.mem_cons_self)
    have f1 : 0 + (1 * ρX 2 + ((-1) * ρX 1 + 0)) ≤ 0 := h5.2.1 _ (List.mem_cons_of_mem _ (List.mem_cons_self))
    refine ⟨v, z, σ1, h1, h2 z rfl (by rw [fT_of g1]; exact g2), ?_⟩
    exact .inr ⟨.inr (by omega), by omega⟩
  · obtain ⟨v, rfl, ev, v1, v2⟩ := ex_res (k := 0) h5 rfl
    obtain ⟨fs, z, g1, g2, ez, z1, z2⟩ := ex_fld (k := 1) (a := 548) h5 rfl rfl
    obtain ⟨e2, p2, q2⟩ := ex_gh (k := 2) h5 rfl
    have e2 : ρX 2 = y.toInt := e2
    have p2 : 0 ≤ ρX 2 := p2
    have q2 : ρX 2 ≤ 940 := q2
    obtain ⟨e3, p3, q3⟩ := ex_gh (k := 3) h5 rfl
    have e3 : ρX 3 = a1.toInt := e3
    have p3 : (-2147483648) ≤ ρX 3 := p3
    have q3 : ρX 3 ≤ (-1) := q3
    have f0 : 0 + ((-1) * ρX 2 + (1 * ρX 1 + 0)) ≤ 0 := h5.2.1 _ (List.mem_cons_self)
    have f1 : 0 + (1 * ρX 2 + ((-1) * ρX 1 + 0)) ≤ 0 := h5.2.1 _ (List.mem_cons_of_mem _ (List.mem_cons_self))
    refine ⟨v, z, σ1, h1, h2 z rfl (by rw [fT_of g1]; exact g2), ?_⟩
    exact .inr ⟨.inl (by omega), by omega⟩
theorem s_book_c {L : Nat} {xs : Nat → Int32} {d : Nat} {x y a1 : Int32} {σ : iv_H} (hd : 50 ≤ d) (hI : Inv x y σ) : ∃ (v x' : Int32) (σ1 : iv_H), iv_Rn L xs d 148 0 (lv_args 0 [.ref 0, .int a1]) [] σ (some (.int v)) σ1 ∧ Inv x' y σ1 ∧ bookP x a1 x' := by
  have hf := i32_full a1
  by_cases h1 : a1.toInt ≤ -1
  · exact s_book_cn ⟨hf.1, h1⟩ (by omega) hI
  · by_cases h2 : a1.toInt ≤ 0
    · exact s_book_c0 ⟨by omega, h2⟩ hd hI
    · by_cases h3 : a1.toInt ≤ 1
      · exact s_book_c1 ⟨by omega, h3⟩ hd hI
      · exact s_book_cp ⟨by omega, hf.2⟩ (by omega) hI
theorem feed_same {x v x' w y' : Int32} (h : feedP x v x') (h2 : feedP x w y') : v = w ∧ x' = y' := by
  refine ⟨Int32.toInt_inj.mp ?_, Int32.toInt_inj.mp ?_⟩
  · rcases h with ⟨_, _, _⟩ | ⟨_, _, _⟩ <;> rcases h2 with ⟨_, _, _⟩ | ⟨_, _, _⟩ <;> omega
  · rcases h with ⟨_, _, _⟩ | ⟨_, _, _⟩ <;> rcases h2 with ⟨_, _, _⟩ | ⟨_, _, _⟩ <;> omega
theorem end_same {x n v x' w y' : Int32} (h : endP x n v x') (h2 : endP x n w y') : v = w ∧ x' = y' := by
  refine ⟨Int32.toInt_inj.mp ?_, Int32.toInt_inj.mp ?_⟩
  · rcases h with ⟨_, _, _, _⟩ | ⟨_, _, _⟩ <;> rcases h2 with ⟨_, _, _, _⟩ | ⟨_, _, _⟩ <;> omega
  · rcases h with ⟨_, _, _, _⟩ | ⟨_, _, _⟩ <;> rcases h2 with ⟨_, _, _, _⟩ | ⟨_, _, _⟩ <;> omega
theorem book_same {x n x' y' : Int32} (h : bookP x n x') (h2 : bookP x n y') : x' = y' := by
  refine Int32.toInt_inj.mp ?_
  rcases h with ⟨_, _⟩ | ⟨_, _⟩ <;> rcases h2 with ⟨_, _⟩ | ⟨_, _⟩ <;> omega
theorem zero_same {x' y' : Int32} (h : x'.toInt = 0) (h2 : y'.toInt = 0) : x' = y' := Int32.toInt_inj.mp (by omega)
