/-! ===== the calls that change a tape's length ===== -/
theorem i32_full (y : Int32) : (-2147483648 : Int) ≤ y.toInt ∧ y.toInt ≤ 2147483647 := by
  have h1 := Int32.le_toInt y
  have h2 := Int32.toInt_lt y
  omega
def feedP (x v x' : Int32) : Prop := (x.toInt ≤ 920 ∧ v.toInt = x.toInt + 20 ∧ x'.toInt = x.toInt + 20) ∨ (921 ≤ x.toInt ∧ v.toInt = -1 ∧ x'.toInt = x.toInt)
def endP (x n v x' : Int32) : Prop := (0 ≤ n.toInt ∧ n.toInt ≤ x.toInt ∧ v.toInt = 1 ∧ x'.toInt = n.toInt) ∨ ((n.toInt < 0 ∨ x.toInt < n.toInt) ∧ v.toInt = 0 ∧ x'.toInt = x.toInt)
def bookP (x n x' : Int32) : Prop := ((n.toInt = 0 ∨ n.toInt = 1) ∧ x'.toInt = 0) ∨ ((n.toInt < 0 ∨ 1 < n.toInt) ∧ x'.toInt = x.toInt)
theorem s_feed_c0 {L : Nat} {xs : Nat → Int32} {d : Nat} {x y a1 a2 a3 a4 a5 : Int32} {σ : iv_H} (hd : 5 ≤ d) {Q0 : iv_H → Prop} (hI : InvQ Q0 x y σ) : ∃ (v x' : Int32) (σ1 : iv_H), iv_Rn L xs d 113 0 (lv_args 0 [.ref 0, .int a1, .int a2, .int a3, .int a4, .int a5]) [] σ (some (.int v)) σ1 ∧ zFr z_τ zd_0.2.2.1 σ σ1 ∧ (∀ Q : iv_H → Prop, Q σ1 → InvQ Q x' y σ1) ∧ feedP x v x' := by
  obtain ⟨r, σ1, h1, hFr, h2, ⟨b0, b9⟩, X, hX, ρX, h5⟩ := cl_cF (L := L) (xs := xs) (rs := [(-2147483648, 2147483647), (-2147483648, 2147483647), (-2147483648, 2147483647), (-2147483648, 2147483647), (-2147483648, 2147483647)]) (ys := [a1, a2, a3, a4, a5]) zu_0 rfl ⟨i32_full a1, ⟨i32_full a2, ⟨i32_full a3, ⟨i32_full a4, ⟨i32_full a5, trivial⟩⟩⟩⟩⟩ hd hI
  have hX : X ∈ [([((3, 0, 0, 0), (0, (-1), (-1))), ((5, 0, 11, 1), (0, 921, 940)), ((2, 1, 0, 0), (0, 921, 940))], [(0, [(2, (-1)), (1, 1)]), (0, [(2, 1), (1, (-1))]), (922, [(2, (-1)), (0, 1)])]), ([((3, 0, 0, 0), (0, 20, 940)), ((5, 0, 11, 1), (0, 20, 940)), ((2, 1, 0, 0), (0, 0, 920))], [((-20), [(2, (-1)), (1, 1)]), (20, [(2, 1), (1, (-1))]), ((-20), [(2, (-1)), (0, 1)]), (20, [(2, 1), (0, (-1))])])] := hX
  simp only [List.mem_cons, List.not_mem_nil, or_false] at hX
  rcases hX with rfl | rfl
  · obtain ⟨v, rfl, ev, v1, v2⟩ := ex_res (k := 0) h5 rfl
    obtain ⟨fs, z, g1, g2, ez, z1, z2⟩ := ex_fld (k := 1) (a := 0) h5 rfl rfl
    obtain ⟨e2, p2, q2⟩ := ex_gh (k := 2) h5 rfl
    have e2 : ρX 2 = x.toInt := e2
    have p2 : 921 ≤ ρX 2 := p2
    have q2 : ρX 2 ≤ 940 := q2
    have f0 : 0 + ((-1) * ρX 2 + (1 * ρX 1 + 0)) ≤ 0 := h5.2.1 _ (List.mem_cons_self)
    have f1 : 0 + (1 * ρX 2 + ((-1) * ρX 1 + 0)) ≤ 0 := h5.2.1 _ (List.mem_cons_of_mem _ (List.mem_cons_self))
    have f2 : 922 + ((-1) * ρX 2 + (1 * ρX 0 + 0)) ≤ 0 := h5.2.1 _ (List.mem_cons_of_mem _ (List.mem_cons_of_mem _ (List.mem_cons_self)))
    refine ⟨v, z, σ1, h1, hFr, fun Q hq => h2 Q z rfl (by rw [fB_of g1]; exact g2) hq, ?_⟩
    exact .inr ⟨by omega, by omega, by omega⟩
  · obtain ⟨v, rfl, ev, v1, v2⟩ := ex_res (k := 0) h5 rfl
    obtain ⟨fs, z, g1, g2, ez, z1, z2⟩ := ex_fld (k := 1) (a := 0) h5 rfl rfl
    obtain ⟨e2, p2, q2⟩ := ex_gh (k := 2) h5 rfl
    have e2 : ρX 2 = x.toInt := e2
    have p2 : 0 ≤ ρX 2 := p2
    have q2 : ρX 2 ≤ 920 := q2
    have f0 : (-20) + ((-1) * ρX 2 + (1 * ρX 1 + 0)) ≤ 0 := h5.2.1 _ (List.mem_cons_self)
    have f1 : 20 + (1 * ρX 2 + ((-1) * ρX 1 + 0)) ≤ 0 := h5.2.1 _ (List.mem_cons_of_mem _ (List.mem_cons_self))
    have f2 : (-20) + ((-1) * ρX 2 + (1 * ρX 0 + 0)) ≤ 0 := h5.2.1 _ (List.mem_cons_of_mem _ (List.mem_cons_of_mem _ (List.mem_cons_self)))
    have f3 : 20 + (1 * ρX 2 + ((-1) * ρX 0 + 0)) ≤ 0 := h5.2.1 _ (List.mem_cons_of_mem _ (List.mem_cons_of_mem _ (List.mem_cons_of_mem _ (List.mem_cons_self))))
    refine ⟨v, z, σ1, h1, hFr, fun Q hq => h2 Q z rfl (by rw [fB_of g1]; exact g2) hq, ?_⟩
    exact .inl ⟨by omega, by omega, by omega⟩
theorem s_feed_m0 {L : Nat} {xs : Nat → Int32} {d : Nat} {x y a1 a2 a3 a4 a5 : Int32} {σ : iv_H} (hd : 12 ≤ d) {Q0 : iv_H → Prop} (hI : InvQ Q0 x y σ) : ∃ (v x' : Int32) (σ1 : iv_H), iv_Rn L xs d 157 0 (lv_args 0 [.ref 548, .int a1, .int a2, .int a3, .int a4, .int a5]) [] σ (some (.int v)) σ1 ∧ zFr m_τ nc_0.2.2.1 σ σ1 ∧ (∀ Q : iv_H → Prop, Q σ1 → InvQ Q x x' σ1) ∧ feedP y v x' := by
  obtain ⟨r, σ1, h1, hFr, h2, ⟨b0, b9⟩, X, hX, ρX, h5⟩ := cl_mF (L := L) (xs := xs) (rs := [(-2147483648, 2147483647), (-2147483648, 2147483647), (-2147483648, 2147483647), (-2147483648, 2147483647), (-2147483648, 2147483647)]) (ys := [a1, a2, a3, a4, a5]) nt_0 rfl ⟨i32_full a1, ⟨i32_full a2, ⟨i32_full a3, ⟨i32_full a4, ⟨i32_full a5, trivial⟩⟩⟩⟩⟩ hd hI
  have hX : X ∈ [([((3, 0, 0, 0), (0, (-1), (-1))), ((5, 0, 12, 2), (0, 921, 940)), ((2, 1, 0, 0), (0, 921, 940))], [(0, [(2, (-1)), (1, 1)]), (0, [(2, 1), (1, (-1))]), (922, [(2, (-1)), (0, 1)])]), ([((3, 0, 0, 0), (0, 20, 940)), ((5, 0, 12, 2), (0, 20, 940)), ((2, 1, 0, 0), (0, 0, 920))], [((-20), [(2, (-1)), (1, 1)]), (20, [(2, 1), (1, (-1))]), ((-20), [(2, (-1)), (0, 1)]), (20, [(2, 1), (0, (-1))])])] := hX
  simp only [List.mem_cons, List.not_mem_nil, or_false] at hX
  rcases hX with rfl | rfl
  · obtain ⟨v, rfl, ev, v1, v2⟩ := ex_res (k := 0) h5 rfl
    obtain ⟨fs, z, g1, g2, ez, z1, z2⟩ := ex_fld (k := 1) (a := 548) h5 rfl rfl
    obtain ⟨e2, p2, q2⟩ := ex_gh (k := 2) h5 rfl
    have e2 : ρX 2 = y.toInt := e2
    have p2 : 921 ≤ ρX 2 := p2
    have q2 : ρX 2 ≤ 940 := q2
    have f0 : 0 + ((-1) * ρX 2 + (1 * ρX 1 + 0)) ≤ 0 := h5.2.1 _ (List.mem_cons_self)
    have f1 : 0 + (1 * ρX 2 + ((-1) * ρX 1 + 0)) ≤ 0 := h5.2.1 _ (List.mem_cons_of_mem _ (List.mem_cons_self))
    have f2 : 922 + ((-1) * ρX 2 + (1 * ρX 0 + 0)) ≤ 0 := h5.2.1 _ (List.mem_cons_of_mem _ (List.mem_cons_of_mem _ (List.mem_cons_self)))
    refine ⟨v, z, σ1, h1, hFr, fun Q hq => h2 Q z rfl (by rw [fT_of g1]; exact g2) hq, ?_⟩
    exact .inr ⟨by omega, by omega, by omega⟩
  · obtain ⟨v, rfl, ev, v1, v2⟩ := ex_res (k := 0) h5 rfl
    obtain ⟨fs, z, g1, g2, ez, z1, z2⟩ := ex_fld (k := 1) (a := 548) h5 rfl rfl
    obtain ⟨e2, p2, q2⟩ := ex_gh (k := 2) h5 rfl
    have e2 : ρX 2 = y.toInt := e2
    have p2 : 0 ≤ ρX 2 := p2
    have q2 : ρX 2 ≤ 920 := q2
    have f0 : (-20) + ((-1) * ρX 2 + (1 * ρX 1 + 0)) ≤ 0 := h5.2.1 _ (List.mem_cons_self)
    have f1 : 20 + (1 * ρX 2 + ((-1) * ρX 1 + 0)) ≤ 0 := h5.2.1 _ (List.mem_cons_of_mem _ (List.mem_cons_self))
    have f2 : (-20) + ((-1) * ρX 2 + (1 * ρX 0 + 0)) ≤ 0 := h5.2.1 _ (List.mem_cons_of_mem _ (List.mem_cons_of_mem _ (List.mem_cons_self)))
    have f3 : 20 + (1 * ρX 2 + ((-1) * ρX 0 + 0)) ≤ 0 := h5.2.1 _ (List.mem_cons_of_mem _ (List.mem_cons_of_mem _ (List.mem_cons_of_mem _ (List.mem_cons_self))))
    refine ⟨v, z, σ1, h1, hFr, fun Q hq => h2 Q z rfl (by rw [fT_of g1]; exact g2) hq, ?_⟩
    exact .inl ⟨by omega, by omega, by omega⟩
theorem yby_b {a : Int32} {k : Nat} : 0 ≤ (yby a k).toInt ∧ (yby a k).toInt ≤ 255 := by
  have h := zi_and (x := (a.toUInt32 >>> ((Int32.ofNat k).toUInt32 &&& Int32.toUInt32 31)).toInt32) (y := Int32.ofNat 255) (by decide)
  have e : (Int32.ofNat 255).toInt = 255 := by decide
  rw [e] at h
  exact h
theorem y4_tp {T : Nat → Nat} {n : Nat} {a : Int32} (h : ∀ i, T i ≤ 255) : ∃ T2 : Nat → Nat, (∀ i, T2 i ≤ 255) ∧ y4 (ytp T) n a = ytp T2 := by
  have key : ∀ i, 0 ≤ (y4 (ytp T) n a i).toInt ∧ (y4 (ytp T) n a i).toInt ≤ 255 := fun i => by
    unfold y4
    simp only [upd_at]
    repeat' split
    all_goals first
      | exact yby_b
      | (show 0 ≤ (Int32.ofNat (T i)).toInt ∧ (Int32.ofNat (T i)).toInt ≤ 255
         have := h i
         rw [y_of (by omega)]
         omega)
  refine ⟨fun i => (y4 (ytp T) n a i).toInt.toNat, fun i => by show (y4 (ytp T) n a i).toInt.toNat ≤ 255; have := key i; omega, ?_⟩
  funext i
  obtain ⟨k, hk, ek⟩ := i32_nat (key i).1
  show y4 (ytp T) n a i = Int32.ofNat ((y4 (ytp T) n a i).toInt.toNat)
  rw [← ek, Int.toNat_natCast]
  exact hk
theorem y20_tp {T : Nat → Nat} {n : Nat} {a b c e f : Int32} (h : ∀ i, T i ≤ 255) : ∃ T2 : Nat → Nat, (∀ i, T2 i ≤ 255) ∧ y20 (ytp T) n a b c e f = ytp T2 := by
  unfold y20
  obtain ⟨T1, h1, e1⟩ := y4_tp (n := n) (a := a) h
  rw [e1]
  obtain ⟨T2, h2, e2⟩ := y4_tp (n := n + 4) (a := b) h1
  rw [e2]
  obtain ⟨T3, h3, e3⟩ := y4_tp (n := n + 8) (a := c) h2
  rw [e3]
  obtain ⟨T4, h4, e4⟩ := y4_tp (n := n + 12) (a := e) h3
  rw [e4]
  exact y4_tp (n := n + 16) (a := f) h4
/-- the class's tape is fed, the reference's not yet -/
def QF (x a b c e f : Int32) (σ : iv_H) : Prop := Out σ ∧ FX σ ∧ (FX2 σ ∧ CK σ) ∧ ∃ T : Nat → Nat, (∀ i, T i ≤ 255) ∧ mA σ 550 = ytp T ∧ ((x.toInt ≤ 920 ∧ mA σ 2 = y20 (ytp T) x.toInt.toNat a b c e f) ∨ (920 < x.toInt ∧ mA σ 2 = ytp T))
theorem s_feed_c {L : Nat} {xs : Nat → Int32} {d : Nat} {x a1 a2 a3 a4 a5 : Int32} {σ : iv_H} (hd : 5 ≤ d) (hI : Inv x x σ) : ∃ (v x' : Int32) (σ1 : iv_H), iv_Rn L xs d 113 0 (lv_args 0 [.ref 0, .int a1, .int a2, .int a3, .int a4, .int a5]) [] σ (some (.int v)) σ1 ∧ InvQ (QF x a1 a2 a3 a4 a5) x' x σ1 ∧ feedP x v x' := by
  obtain ⟨v, x', σ1, hR, hF, hq, hP⟩ := s_feed_c0 (L := L) (xs := xs) (d := d) (a1 := a1) (a2 := a2) (a3 := a3) (a4 := a4) (a5 := a5) hd hI
  obtain ⟨o1, o2, ⟨T, hb, e1, e2⟩, o4, o5⟩ := hI.2.2.2.2.2
  have hz := hI.1.1
  obtain ⟨G, g0, oG⟩ := yo_of hz (a := 0) (t := 21) (n := 20) rfl rfl rfl
  have c0 := yFX_v o2 oG (by decide : (0, 11, 0, 2) ∈ yFX)
  obtain ⟨fs, gfs, hfs⟩ := z_G hz
  have hx9 := hfs x (by rw [← fB_of gfs]; exact hI.2.2.1.1)
  obtain ⟨n, rfl, en⟩ := i32_nat (x := x) hx9.1
  have c1 : G 1 = .int (Int32.ofNat n) := oG fs gfs 1 _ (by rw [← fB_of gfs]; exact hI.2.2.1.1)
  have gt : iv_get σ 2 = some (yai 940 (ytp T)) := by
    obtain ⟨f, g⟩ := yi_of hz (a := 2) (n := 940) rfl
    rw [← e1, hA_of g]
    exact g
  obtain ⟨r2, σ2, R2, V1, _, _, _, hc⟩ := yf_c_feed (L := L) (xs := xs) (d := d) (a := a1) (b := a2) (c := a3) (e := a4) (h := a5) (by omega) (by omega) g0 gt c1 c0
  obtain ⟨_, rfl⟩ := y_det hR R2
  refine ⟨v, x', σ1, hR, hq _ ⟨out_fr hF rfl rfl o1, FX_fr o2 hF rfl, ⟨FX2_c o4 hF rfl, CK_c hI.1.1 hI.2.1.1 hF rfl rfl o5⟩, T, hb, (mA_eq (c_leaves hI.2.1.1 hF rfl) 550 rfl).trans e2, ?_⟩, hP⟩
  have e3 : (Int32.ofNat n).toInt.toNat = n := by omega
  rcases hc with ⟨h, _, g⟩ | ⟨h, _, g⟩
  · exact .inl ⟨by omega, by rw [e3]; exact hA_of g⟩
  · exact .inr ⟨by omega, hA_of g⟩
theorem s_feed_m {L : Nat} {xs : Nat → Int32} {d : Nat} {x y a1 a2 a3 a4 a5 : Int32} {σ : iv_H} (hd : 12 ≤ d) (hI : InvQ (QF y a1 a2 a3 a4 a5) x y σ) : ∃ (v x' : Int32) (σ1 : iv_H), iv_Rn L xs d 157 0 (lv_args 0 [.ref 548, .int a1, .int a2, .int a3, .int a4, .int a5]) [] σ (some (.int v)) σ1 ∧ Inv x x' σ1 ∧ feedP y v x' := by
  obtain ⟨v, x', σ1, hR, hF, hq, hP⟩ := s_feed_m0 (L := L) (xs := xs) (d := d) (a1 := a1) (a2 := a2) (a3 := a3) (a4 := a4) (a5 := a5) hd hI
  obtain ⟨o1, o2, ⟨o4, o5⟩, T, hb, e2, hcase⟩ := hI.2.2.2.2.2
  have hM := hI.2.1.1
  obtain ⟨fs, g, mo, _⟩ := mO_of hM
  obtain ⟨V, efs, hV⟩ := y_V (fs := fs) (n := 49) mo.1
  have g0 : iv_get σ 548 = some (yob 12 49 V) := by rw [g, efs]; rfl
  have c0 : V 1 = .ref 550 := hV 1 _ mo.2.1
  obtain ⟨fs2, gfs, hfs⟩ := m_G hM
  have hx9 := hfs y (by rw [← fT_of gfs]; exact hI.2.2.1.2)
  obtain ⟨n, rfl, en⟩ := i32_nat (x := y) hx9.1
  have c1 : V 2 = .int (Int32.ofNat n) := hV 2 _ (by rw [← fT_of g]; exact hI.2.2.1.2)
  have gt : iv_get σ 550 = some (yai 940 (ytp T)) := by
    obtain ⟨f, g, _⟩ := zI_ia hM (a := 550) (t := 73) rfl rfl
    rw [← e2, hA_of g]
    exact g
  obtain ⟨r2, σ2, R2, V1, _, _, _, hc⟩ := yf_m_feed (L := L) (xs := xs) (d := d) (a := a1) (b := a2) (c := a3) (e := a4) (h := a5) (by omega) (by omega) g0 gt c1 c0
  obtain ⟨_, rfl⟩ := y_det hR R2
  have e3 : (Int32.ofNat n).toInt.toNat = n := by omega
  have k2 := mA_m2 hI.1.1 hF rfl
  refine ⟨v, x', σ1, hR, hq _ ⟨out_fr hF rfl rfl o1, FX_eq (m_leaves hI.1.1 hF rfl) o2, ?_, FX2_m o4 (m_leaves hI.1.1 hF rfl), CK_m hI.1.1 hI.2.1.1 hF rfl rfl o5⟩, hP⟩
  rcases hc with ⟨h, _, g⟩ | ⟨h, _, g⟩
  · rcases hcase with ⟨_, e1⟩ | ⟨h2, _⟩
    · rw [e3] at e1
      obtain ⟨T2, hb2, e4⟩ := y20_tp (n := n) (a := a1) (b := a2) (c := a3) (e := a4) (f := a5) hb
      exact ⟨T2, hb2, (k2.trans e1).trans e4, (hA_of g).trans e4⟩
    · omega
  · rcases hcase with ⟨h2, _⟩ | ⟨_, e1⟩
    · omega
    · exact ⟨T, hb, k2.trans e1, hA_of g⟩
theorem s_end_c {L : Nat} {xs : Nat → Int32} {d : Nat} {x y a1 : Int32} {σ : iv_H} (hd : 5 ≤ d) (hI : Inv x y σ) : ∃ (v x' : Int32) (σ1 : iv_H), iv_Rn L xs d 115 0 (lv_args 0 [.ref 0, .int a1]) [] σ (some (.int v)) σ1 ∧ Inv x' y σ1 ∧ endP x a1 v x' := by
  obtain ⟨r, σ1, h1, h2, ⟨b0, b9⟩, X, hX, ρX, h5⟩ := cl_cB (L := L) (xs := xs) (rs := [(-2147483648, 2147483647)]) (ys := [a1]) zu_1 rfl ⟨i32_full a1, trivial⟩ hd hI
  have hX : X ∈ [([((3, 0, 0, 0), (0, 0, 0)), ((5, 0, 11, 1), (0, 0, 940)), ((2, 1, 0, 0), (0, 0, 940)), ((2, 11, 0, 0), (0, 1, 2147483647))], [(0, [(2, (-1)), (1, 1)]), (0, [(2, 1), (1, (-1))]), (1, [(2, 1), (3, (-1))]), (1, [(3, (-1)), (1, 1)])]), ([((3, 0, 0, 0), (0, 1, 1)), ((5, 0, 11, 1), (0, 0, 940)), ((2, 1, 0, 0), (0, 0, 940)), ((2, 11, 0, 0), (0, 0, 940))], [(0, [(2, (-1)), (1, 1)]), (0, [(2, (-1)), (3, 1)]), ((-940), [(2, 1), (3, (-1))]), (0, [(3, (-1)), (1, 1)]), (0, [(3, 1), (1, (-1))])]), ([((3, 0, 0, 0), (0, 0, 0)), ((5, 0, 11, 1), (0, 0, 940)), ((2, 1, 0, 0), (0, 0, 940)), ((2, 11, 0, 0), (0, (-2147483648), (-1)))], [(0, [(2, (-1)), (1, 1)]), (0, [(2, 1), (1, (-1))]), (1, [(2, (-1)), (3, 1)]), (1, [(3, 1), (1, (-1))])])] := hX
  simp only [List.mem_cons, List.not_mem_nil, or_false] at hX
  rcases hX with rfl | rfl | rfl
  · obtain ⟨v, rfl, ev, v1, v2⟩ := ex_res (k := 0) h5 rfl
    obtain ⟨fs, z, g1, g2, ez, z1, z2⟩ := ex_fld (k := 1) (a := 0) h5 rfl rfl
    obtain ⟨e2, p2, q2⟩ := ex_gh (k := 2) h5 rfl
    have e2 : ρX 2 = x.toInt := e2
    have p2 : 0 ≤ ρX 2 := p2
    have q2 : ρX 2 ≤ 940 := q2
    obtain ⟨e3, p3, q3⟩ := ex_gh (k := 3) h5 rfl
    have e3 : ρX 3 = a1.toInt := e3
    have p3 : 1 ≤ ρX 3 := p3
    have q3 : ρX 3 ≤ 2147483647 := q3
    have f0 : 0 + ((-1) * ρX 2 + (1 * ρX 1 + 0)) ≤ 0 := h5.2.1 _ (List.mem_cons_self)
    have f1 : 0 + (1 * ρX 2 + ((-1) * ρX 1 + 0)) ≤ 0 := h5.2.1 _ (List.mem_cons_of_mem _ (List.mem_cons_self))
    have f2 : 1 + (1 * ρX 2 + ((-1) * ρX 3 + 0)) ≤ 0 := h5.2.1 _ (List.mem_cons_of_mem _ (List.mem_cons_of_mem _ (List.mem_cons_self)))
    have f3 : 1 + ((-1) * ρX 3 + (1 * ρX 1 + 0)) ≤ 0 := h5.2.1 _ (List.mem_cons_of_mem _ (List.mem_cons_of_mem _ (List.mem_cons_of_mem _ (List.mem_cons_self))))
    refine ⟨v, z, σ1, h1, h2 z rfl (by rw [fB_of g1]; exact g2), ?_⟩
    exact .inr ⟨.inr (by omega), by omega, by omega⟩
  · obtain ⟨v, rfl, ev, v1, v2⟩ := ex_res (k := 0) h5 rfl
    obtain ⟨fs, z, g1, g2, ez, z1, z2⟩ := ex_fld (k := 1) (a := 0) h5 rfl rfl
    obtain ⟨e2, p2, q2⟩ := ex_gh (k := 2) h5 rfl
    have e2 : ρX 2 = x.toInt := e2
    have p2 : 0 ≤ ρX 2 := p2
    have q2 : ρX 2 ≤ 940 := q2
    obtain ⟨e3, p3, q3⟩ := ex_gh (k := 3) h5 rfl
    have e3 : ρX 3 = a1.toInt := e3
    have p3 : 0 ≤ ρX 3 := p3
    have q3 : ρX 3 ≤ 940 := q3
    have f0 : 0 + ((-1) * ρX 2 + (1 * ρX 1 + 0)) ≤ 0 := h5.2.1 _ (List.mem_cons_self)
    have f1 : 0 + ((-1) * ρX 2 + (1 * ρX 3 + 0)) ≤ 0 := h5.2.1 _ (List.mem_cons_of_mem _ (List.mem_cons_self))
    have f2 : (-940) + (1 * ρX 2 + ((-1) * ρX 3 + 0)) ≤ 0 := h5.2.1 _ (List.mem_cons_of_mem _ (List.mem_cons_of_mem _ (List.mem_cons_self)))
    have f3 : 0 + ((-1) * ρX 3 + (1 * ρX 1 + 0)) ≤ 0 := h5.2.1 _ (List.mem_cons_of_mem _ (List.mem_cons_of_mem _ (List.mem_cons_of_mem _ (List.mem_cons_self))))
    have f4 : 0 + (1 * ρX 3 + ((-1) * ρX 1 + 0)) ≤ 0 := h5.2.1 _ (List.mem_cons_of_mem _ (List.mem_cons_of_mem _ (List.mem_cons_of_mem _ (List.mem_cons_of_mem _ (List.mem_cons_self)))))
    refine ⟨v, z, σ1, h1, h2 z rfl (by rw [fB_of g1]; exact g2), ?_⟩
    exact .inl ⟨by omega, by omega, by omega, by omega⟩
  · obtain ⟨v, rfl, ev, v1, v2⟩ := ex_res (k := 0) h5 rfl
    obtain ⟨fs, z, g1, g2, ez, z1, z2⟩ := ex_fld (k := 1) (a := 0) h5 rfl rfl
    obtain ⟨e2, p2, q2⟩ := ex_gh (k := 2) h5 rfl
    have e2 : ρX 2 = x.toInt := e2
    have p2 : 0 ≤ ρX 2 := p2
    have q2 : ρX 2 ≤ 940 := q2
    obtain ⟨e3, p3, q3⟩ := ex_gh (k := 3) h5 rfl
    have e3 : ρX 3 = a1.toInt := e3
    have p3 : (-2147483648) ≤ ρX 3 := p3
    have q3 : ρX 3 ≤ (-1) := q3
    have f0 : 0 + ((-1) * ρX 2 + (1 * ρX 1 + 0)) ≤ 0 := h5.2.1 _ (List.mem_cons_self)
    have f1 : 0 + (1 * ρX 2 + ((-1) * ρX 1 + 0)) ≤ 0 := h5.2.1 _ (List.mem_cons_of_mem _ (List.mem_cons_self))
    have f2 : 1 + ((-1) * ρX 2 + (1 * ρX 3 + 0)) ≤ 0 := h5.2.1 _ (List.mem_cons_of_mem _ (List.mem_cons_of_mem _ (List.mem_cons_self)))
    have f3 : 1 + (1 * ρX 3 + ((-1) * ρX 1 + 0)) ≤ 0 := h5.2.1 _ (List.mem_cons_of_mem _ (List.mem_cons_of_mem _ (List.mem_cons_of_mem _ (List.mem_cons_self))))
    refine ⟨v, z, σ1, h1, h2 z rfl (by rw [fB_of g1]; exact g2), ?_⟩
    exact .inr ⟨.inl (by omega), by omega, by omega⟩
theorem s_end_m {L : Nat} {xs : Nat → Int32} {d : Nat} {x y a1 : Int32} {σ : iv_H} (hd : 12 ≤ d) (hI : Inv x y σ) : ∃ (v x' : Int32) (σ1 : iv_H), iv_Rn L xs d 158 0 (lv_args 0 [.ref 548, .int a1]) [] σ (some (.int v)) σ1 ∧ Inv x x' σ1 ∧ endP y a1 v x' := by
  obtain ⟨r, σ1, h1, h2, ⟨b0, b9⟩, X, hX, ρX, h5⟩ := cl_mB (L := L) (xs := xs) (rs := [(-2147483648, 2147483647)]) (ys := [a1]) nt_1 rfl ⟨i32_full a1, trivial⟩ hd hI
  have hX : X ∈ [([((3, 0, 0, 0), (0, 0, 0)), ((5, 0, 12, 2), (0, 0, 940)), ((2, 1, 0, 0), (0, 0, 940)), ((2, 11, 0, 0), (0, 1, 2147483647))], [(0, [(2, (-1)), (1, 1)]), (0, [(2, 1), (1, (-1))]), (1, [(2, 1), (3, (-1))]), (1, [(3, (-1)), (1, 1)])]), ([((3, 0, 0, 0), (0, 1, 1)), ((5, 0, 12, 2), (0, 0, 940)), ((2, 1, 0, 0), (0, 0, 940)), ((2, 11, 0, 0), (0, 0, 940))], [(0, [(2, (-1)), (1, 1)]), (0, [(2, (-1)), (3, 1)]), ((-940), [(2, 1), (3, (-1))]), (0, [(3, (-1)), (1, 1)]), (0, [(3, 1), (1, (-1))])]), ([((3, 0, 0, 0), (0, 0, 0)), ((5, 0, 12, 2), (0, 0, 940)), ((2, 1, 0, 0), (0, 0, 940)), ((2, 11, 0, 0), (0, (-2147483648), (-1)))], [(0, [(2, (-1)), (1, 1)]), (0, [(2, 1), (1, (-1))]), (1, [(2, (-1)), (3, 1)]), (1, [(3, 1), (1, (-1))])])] := hX
  simp only [List.mem_cons, List.not_mem_nil, or_false] at hX
  rcases hX with rfl | rfl | rfl
  · obtain ⟨v, rfl, ev, v1, v2⟩ := ex_res (k := 0) h5 rfl
    obtain ⟨fs, z, g1, g2, ez, z1, z2⟩ := ex_fld (k := 1) (a := 548) h5 rfl rfl
    obtain ⟨e2, p2, q2⟩ := ex_gh (k := 2) h5 rfl
    have e2 : ρX 2 = y.toInt := e2
    have p2 : 0 ≤ ρX 2 := p2
    have q2 : ρX 2 ≤ 940 := q2
    obtain ⟨e3, p3, q3⟩ := ex_gh (k := 3) h5 rfl
    have e3 : ρX 3 = a1.toInt := e3
    have p3 : 1 ≤ ρX 3 := p3
    have q3 : ρX 3 ≤ 2147483647 := q3
    have f0 : 0 + ((-1) * ρX 2 + (1 * ρX 1 + 0)) ≤ 0 := h5.2.1 _ (List.mem_cons_self)
    have f1 : 0 + (1 * ρX 2 + ((-1) * ρX 1 + 0)) ≤ 0 := h5.2.1 _ (List.mem_cons_of_mem _ (List.mem_cons_self))
    have f2 : 1 + (1 * ρX 2 + ((-1) * ρX 3 + 0)) ≤ 0 := h5.2.1 _ (List.mem_cons_of_mem _ (List.mem_cons_of_mem _ (List.mem_cons_self)))
    have f3 : 1 + ((-1) * ρX 3 + (1 * ρX 1 + 0)) ≤ 0 := h5.2.1 _ (List.mem_cons_of_mem _ (List.mem_cons_of_mem _ (List.mem_cons_of_mem _ (List.mem_cons_self))))
    refine ⟨v, z, σ1, h1, h2 z rfl (by rw [fT_of g1]; exact g2), ?_⟩
    exact .inr ⟨.inr (by omega), by omega, by omega⟩
  · obtain ⟨v, rfl, ev, v1, v2⟩ := ex_res (k := 0) h5 rfl
    obtain ⟨fs, z, g1, g2, ez, z1, z2⟩ := ex_fld (k := 1) (a := 548) h5 rfl rfl
    obtain ⟨e2, p2, q2⟩ := ex_gh (k := 2) h5 rfl
    have e2 : ρX 2 = y.toInt := e2
    have p2 : 0 ≤ ρX 2 := p2
    have q2 : ρX 2 ≤ 940 := q2
    obtain ⟨e3, p3, q3⟩ := ex_gh (k := 3) h5 rfl
    have e3 : ρX 3 = a1.toInt := e3
    have p3 : 0 ≤ ρX 3 := p3
    have q3 : ρX 3 ≤ 940 := q3
    have f0 : 0 + ((-1) * ρX 2 + (1 * ρX 1 + 0)) ≤ 0 := h5.2.1 _ (List.mem_cons_self)
    have f1 : 0 + ((-1) * ρX 2 + (1 * ρX 3 + 0)) ≤ 0 := h5.2.1 _ (List.mem_cons_of_mem _ (List.mem_cons_self))
    have f2 : (-940) + (1 * ρX 2 + ((-1) * ρX 3 + 0)) ≤ 0 := h5.2.1 _ (List.mem_cons_of_mem _ (List.mem_cons_of_mem _ (List.mem_cons_self)))
    have f3 : 0 + ((-1) * ρX 3 + (1 * ρX 1 + 0)) ≤ 0 := h5.2.1 _ (List.mem_cons_of_mem _ (List.mem_cons_of_mem _ (List.mem_cons_of_mem _ (List.mem_cons_self))))
    have f4 : 0 + (1 * ρX 3 + ((-1) * ρX 1 + 0)) ≤ 0 := h5.2.1 _ (List.mem_cons_of_mem _ (List.mem_cons_of_mem _ (List.mem_cons_of_mem _ (List.mem_cons_of_mem _ (List.mem_cons_self)))))
    refine ⟨v, z, σ1, h1, h2 z rfl (by rw [fT_of g1]; exact g2), ?_⟩
    exact .inl ⟨by omega, by omega, by omega, by omega⟩
  · obtain ⟨v, rfl, ev, v1, v2⟩ := ex_res (k := 0) h5 rfl
    obtain ⟨fs, z, g1, g2, ez, z1, z2⟩ := ex_fld (k := 1) (a := 548) h5 rfl rfl
    obtain ⟨e2, p2, q2⟩ := ex_gh (k := 2) h5 rfl
    have e2 : ρX 2 = y.toInt := e2
    have p2 : 0 ≤ ρX 2 := p2
    have q2 : ρX 2 ≤ 940 := q2
    obtain ⟨e3, p3, q3⟩ := ex_gh (k := 3) h5 rfl
    have e3 : ρX 3 = a1.toInt := e3
    have p3 : (-2147483648) ≤ ρX 3 := p3
    have q3 : ρX 3 ≤ (-1) := q3
    have f0 : 0 + ((-1) * ρX 2 + (1 * ρX 1 + 0)) ≤ 0 := h5.2.1 _ (List.mem_cons_self)
    have f1 : 0 + (1 * ρX 2 + ((-1) * ρX 1 + 0)) ≤ 0 := h5.2.1 _ (List.mem_cons_of_mem _ (List.mem_cons_self))
    have f2 : 1 + ((-1) * ρX 2 + (1 * ρX 3 + 0)) ≤ 0 := h5.2.1 _ (List.mem_cons_of_mem _ (List.mem_cons_of_mem _ (List.mem_cons_self)))
    have f3 : 1 + (1 * ρX 3 + ((-1) * ρX 1 + 0)) ≤ 0 := h5.2.1 _ (List.mem_cons_of_mem _ (List.mem_cons_of_mem _ (List.mem_cons_of_mem _ (List.mem_cons_self))))
    refine ⟨v, z, σ1, h1, h2 z rfl (by rw [fT_of g1]; exact g2), ?_⟩
    exact .inr ⟨.inl (by omega), by omega, by omega⟩
theorem s_heaps_c {L : Nat} {xs : Nat → Int32} {d : Nat} {x y  : Int32} {σ : iv_H} (hd : 55 ≤ d) (hI : Inv x y σ) : ∃ (v x' : Int32) (σ1 : iv_H), iv_Rn L xs d 134 0 (lv_args 0 [.ref 0]) [] σ (some (.int v)) σ1 ∧ Inv x' y σ1 ∧ x'.toInt = 0 := by
  obtain ⟨r, σ1, h1, h2, ⟨b0, b9⟩, X, hX, ρX, h5⟩ := cl_cB (L := L) (xs := xs) (rs := []) (ys := []) zu_8 rfl trivial hd hI
  have hX : X ∈ [([((3, 0, 0, 0), (0, (-2147483648), 2147483647)), ((5, 0, 11, 1), (0, 0, 0)), ((2, 1, 0, 0), (0, 0, 940))], [])] := hX
  simp only [List.mem_cons, List.not_mem_nil, or_false] at hX
  rcases hX with rfl
  · obtain ⟨v, rfl, ev, v1, v2⟩ := ex_res (k := 0) h5 rfl
    obtain ⟨fs, z, g1, g2, ez, z1, z2⟩ := ex_fld (k := 1) (a := 0) h5 rfl rfl
    obtain ⟨e2, p2, q2⟩ := ex_gh (k := 2) h5 rfl
    have e2 : ρX 2 = x.toInt := e2
    have p2 : 0 ≤ ρX 2 := p2
    have q2 : ρX 2 ≤ 940 := q2
    refine ⟨v, z, σ1, h1, h2 z rfl (by rw [fB_of g1]; exact g2), ?_⟩
    exact (by omega)
theorem s_heaps_m {L : Nat} {xs : Nat → Int32} {d : Nat} {x y  : Int32} {σ : iv_H} (hd : 60 ≤ d) (hI : Inv x y σ) : ∃ (v x' : Int32) (σ1 : iv_H), iv_Rn L xs d 233 0 (lv_args 0 [.ref 548]) [] σ (some (.int v)) σ1 ∧ Inv x x' σ1 ∧ x'.toInt = 0 := by
  obtain ⟨r, σ1, h1, h2, ⟨b0, b9⟩, X, hX, ρX, h5⟩ := cl_mB (L := L) (xs := xs) (rs := []) (ys := []) nt_5 rfl trivial hd hI
  have hX : X ∈ [([((3, 0, 0, 0), (0, (-2147483648), 2147483647)), ((5, 0, 12, 2), (0, 0, 0)), ((2, 1, 0, 0), (0, 0, 940))], [])] := hX
  simp only [List.mem_cons, List.not_mem_nil, or_false] at hX
  rcases hX with rfl
  · obtain ⟨v, rfl, ev, v1, v2⟩ := ex_res (k := 0) h5 rfl
    obtain ⟨fs, z, g1, g2, ez, z1, z2⟩ := ex_fld (k := 1) (a := 548) h5 rfl rfl
    obtain ⟨e2, p2, q2⟩ := ex_gh (k := 2) h5 rfl
    have e2 : ρX 2 = y.toInt := e2
    have p2 : 0 ≤ ρX 2 := p2
    have q2 : ρX 2 ≤ 940 := q2
    refine ⟨v, z, σ1, h1, h2 z rfl (by rw [fT_of g1]; exact g2), ?_⟩
    exact (by omega)
theorem s_sent_c {L : Nat} {xs : Nat → Int32} {d : Nat} {x y  : Int32} {σ : iv_H} (hd : 150 ≤ d) (hI : Inv x y σ) : ∃ (v x' : Int32) (σ1 : iv_H), iv_Rn L xs d 150 0 (lv_args 0 [.ref 0]) [] σ (some (.int v)) σ1 ∧ Inv x' y σ1 ∧ x'.toInt = 0 := by
  obtain ⟨r, σ1, h1, h2, ⟨b0, b9⟩, X, hX, ρX, h5⟩ := cl_cB (L := L) (xs := xs) (rs := []) (ys := []) zu_15 rfl trivial hd hI
  have hX : X ∈ [([((3, 0, 0, 0), (0, (-2147483648), 2147483647)), ((5, 0, 11, 1), (0, 0, 0)), ((2, 1, 0, 0), (0, 0, 940))], [])] := hX
  simp only [List.mem_cons, List.not_mem_nil, or_false] at hX
  rcases hX with rfl
  · obtain ⟨v, rfl, ev, v1, v2⟩ := ex_res (k := 0) h5 rfl
    obtain ⟨fs, z, g1, g2, ez, z1, z2⟩ := ex_fld (k := 1) (a := 0) h5 rfl rfl
    obtain ⟨e2, p2, q2⟩ := ex_gh (k := 2) h5 rfl
    have e2 : ρX 2 = x.toInt := e2
    have p2 : 0 ≤ ρX 2 := p2
    have q2 : ρX 2 ≤ 940 := q2
    refine ⟨v, z, σ1, h1, h2 z rfl (by rw [fB_of g1]; exact g2), ?_⟩
    exact (by omega)
theorem s_sent_m {L : Nat} {xs : Nat → Int32} {d : Nat} {x y  : Int32} {σ : iv_H} (hd : 444 ≤ d) (hI : Inv x y σ) : ∃ (v x' : Int32) (σ1 : iv_H), iv_Rn L xs d 277 0 (lv_args 0 [.ref 548]) [] σ (some (.int v)) σ1 ∧ Inv x x' σ1 ∧ x'.toInt = 0 := by
  obtain ⟨r, σ1, h1, h2, ⟨b0, b9⟩, X, hX, ρX, h5⟩ := cl_mB (L := L) (xs := xs) (rs := []) (ys := []) nt_7 rfl trivial hd hI
  have hX : X ∈ [([((3, 0, 0, 0), (0, (-2147483648), 2147483647)), ((5, 0, 12, 2), (0, 0, 0)), ((2, 1, 0, 0), (0, 0, 940))], [])] := hX
  simp only [List.mem_cons, List.not_mem_nil, or_false] at hX
  rcases hX with rfl
  · obtain ⟨v, rfl, ev, v1, v2⟩ := ex_res (k := 0) h5 rfl
    obtain ⟨fs, z, g1, g2, ez, z1, z2⟩ := ex_fld (k := 1) (a := 548) h5 rfl rfl
    obtain ⟨e2, p2, q2⟩ := ex_gh (k := 2) h5 rfl
    have e2 : ρX 2 = y.toInt := e2
    have p2 : 0 ≤ ρX 2 := p2
    have q2 : ρX 2 ≤ 940 := q2
    refine ⟨v, z, σ1, h1, h2 z rfl (by rw [fT_of g1]; exact g2), ?_⟩
    exact (by omega)
theorem s_book_cn {L : Nat} {xs : Nat → Int32} {d : Nat} {x y a1 : Int32} {σ : iv_H} (hr : (-2147483648 : Int) ≤ a1.toInt ∧ a1.toInt ≤ -1) (hd : 5 ≤ d) (hI : Inv x y σ) : ∃ (v x' : Int32) (σ1 : iv_H), iv_Rn L xs d 148 0 (lv_args 0 [.ref 0, .int a1]) [] σ (some (.int v)) σ1 ∧ Inv x' y σ1 ∧ bookP x a1 x' := by
  obtain ⟨r, σ1, h1, h2, ⟨b0, b9⟩, X, hX, ρX, h5⟩ := cl_cB (L := L) (xs := xs) (rs := [(-2147483648, -1)]) (ys := [a1]) zu_11 rfl ⟨hr, trivial⟩ hd hI
  have hX : X ∈ [([((3, 0, 0, 0), (0, (-1000), (-1000))), ((5, 0, 11, 1), (0, 0, 940)), ((2, 1, 0, 0), (0, 0, 940))], [(0, [(2, (-1)), (1, 1)]), (0, [(2, 1), (1, (-1))])])] := hX
  simp only [List.mem_cons, List.not_mem_nil, or_false] at hX
  rcases hX with rfl
  · obtain ⟨v, rfl, ev, v1, v2⟩ := ex_res (k := 0) h5 rfl
    obtain ⟨fs, z, g1, g2, ez, z1, z2⟩ := ex_fld (k := 1) (a := 0) h5 rfl rfl
    obtain ⟨e2, p2, q2⟩ := ex_gh (k := 2) h5 rfl
    have e2 : ρX 2 = x.toInt := e2
    have p2 : 0 ≤ ρX 2 := p2
    have q2 : ρX 2 ≤ 940 := q2
    have f0 : 0 + ((-1) * ρX 2 + (1 * ρX 1 + 0)) ≤ 0 := h5.2.1 _ (List.mem_cons_self)
    have f1 : 0 + (1 * ρX 2 + ((-1) * ρX 1 + 0)) ≤ 0 := h5.2.1 _ (List.mem_cons_of_mem _ (List.mem_cons_self))
    refine ⟨v, z, σ1, h1, h2 z rfl (by rw [fB_of g1]; exact g2), ?_⟩
    exact .inr ⟨.inl (by omega), by omega⟩
theorem s_book_c0 {L : Nat} {xs : Nat → Int32} {d : Nat} {x y a1 : Int32} {σ : iv_H} (hr : (0 : Int) ≤ a1.toInt ∧ a1.toInt ≤ 0) (hd : 50 ≤ d) (hI : Inv x y σ) : ∃ (v x' : Int32) (σ1 : iv_H), iv_Rn L xs d 148 0 (lv_args 0 [.ref 0, .int a1]) [] σ (some (.int v)) σ1 ∧ Inv x' y σ1 ∧ bookP x a1 x' := by
  obtain ⟨r, σ1, h1, h2, ⟨b0, b9⟩, X, hX, ρX, h5⟩ := cl_cB (L := L) (xs := xs) (rs := [(0, 0)]) (ys := [a1]) zu_12 rfl ⟨hr, trivial⟩ hd hI
  have hX : X ∈ [([((3, 0, 0, 0), (0, (-2147483648), 2147483647)), ((5, 0, 11, 1), (0, 0, 0)), ((2, 1, 0, 0), (0, 0, 940))], [])] := hX
  simp only [List.mem_cons, List.not_mem_nil, or_false] at hX
  rcases hX with rfl
  · obtain ⟨v, rfl, ev, v1, v2⟩ := ex_res (k := 0) h5 rfl
    obtain ⟨fs, z, g1, g2, ez, z1, z2⟩ := ex_fld (k := 1) (a := 0) h5 rfl rfl
    obtain ⟨e2, p2, q2⟩ := ex_gh (k := 2) h5 rfl
    have e2 : ρX 2 = x.toInt := e2
    have p2 : 0 ≤ ρX 2 := p2
    have q2 : ρX 2 ≤ 940 := q2
    refine ⟨v, z, σ1, h1, h2 z rfl (by rw [fB_of g1]; exact g2), ?_⟩
    exact .inl ⟨.inl (by omega), by omega⟩
theorem s_book_c1 {L : Nat} {xs : Nat → Int32} {d : Nat} {x y a1 : Int32} {σ : iv_H} (hr : (1 : Int) ≤ a1.toInt ∧ a1.toInt ≤ 1) (hd : 50 ≤ d) (hI : Inv x y σ) : ∃ (v x' : Int32) (σ1 : iv_H), iv_Rn L xs d 148 0 (lv_args 0 [.ref 0, .int a1]) [] σ (some (.int v)) σ1 ∧ Inv x' y σ1 ∧ bookP x a1 x' := by
  obtain ⟨r, σ1, h1, h2, ⟨b0, b9⟩, X, hX, ρX, h5⟩ := cl_cB (L := L) (xs := xs) (rs := [(1, 1)]) (ys := [a1]) zu_13 rfl ⟨hr, trivial⟩ hd hI
  have hX : X ∈ [([((3, 0, 0, 0), (0, (-2147483648), 2147483647)), ((5, 0, 11, 1), (0, 0, 0)), ((2, 1, 0, 0), (0, 0, 940))], [])] := hX
  simp only [List.mem_cons, List.not_mem_nil, or_false] at hX
  rcases hX with rfl
  · obtain ⟨v, rfl, ev, v1, v2⟩ := ex_res (k := 0) h5 rfl
    obtain ⟨fs, z, g1, g2, ez, z1, z2⟩ := ex_fld (k := 1) (a := 0) h5 rfl rfl
    obtain ⟨e2, p2, q2⟩ := ex_gh (k := 2) h5 rfl
    have e2 : ρX 2 = x.toInt := e2
    have p2 : 0 ≤ ρX 2 := p2
    have q2 : ρX 2 ≤ 940 := q2
    refine ⟨v, z, σ1, h1, h2 z rfl (by rw [fB_of g1]; exact g2), ?_⟩
    exact .inl ⟨.inr (by omega), by omega⟩
theorem s_book_cp {L : Nat} {xs : Nat → Int32} {d : Nat} {x y a1 : Int32} {σ : iv_H} (hr : (2 : Int) ≤ a1.toInt ∧ a1.toInt ≤ 2147483647) (hd : 5 ≤ d) (hI : Inv x y σ) : ∃ (v x' : Int32) (σ1 : iv_H), iv_Rn L xs d 148 0 (lv_args 0 [.ref 0, .int a1]) [] σ (some (.int v)) σ1 ∧ Inv x' y σ1 ∧ bookP x a1 x' := by
  obtain ⟨r, σ1, h1, h2, ⟨b0, b9⟩, X, hX, ρX, h5⟩ := cl_cB (L := L) (xs := xs) (rs := [(2, 2147483647)]) (ys := [a1]) zu_14 rfl ⟨hr, trivial⟩ hd hI
  have hX : X ∈ [([((3, 0, 0, 0), (0, (-1000), (-1000))), ((5, 0, 11, 1), (0, 0, 940)), ((2, 1, 0, 0), (0, 0, 940))], [(0, [(2, (-1)), (1, 1)]), (0, [(2, 1), (1, (-1))])])] := hX
  simp only [List.mem_cons, List.not_mem_nil, or_false] at hX
  rcases hX with rfl
  · obtain ⟨v, rfl, ev, v1, v2⟩ := ex_res (k := 0) h5 rfl
    obtain ⟨fs, z, g1, g2, ez, z1, z2⟩ := ex_fld (k := 1) (a := 0) h5 rfl rfl
    obtain ⟨e2, p2, q2⟩ := ex_gh (k := 2) h5 rfl
    have e2 : ρX 2 = x.toInt := e2
    have p2 : 0 ≤ ρX 2 := p2
    have q2 : ρX 2 ≤ 940 := q2
    have f0 : 0 + ((-1) * ρX 2 + (1 * ρX 1 + 0)) ≤ 0 := h5.2.1 _ (List.mem_cons_self)
    have f1 : 0 + (1 * ρX 2 + ((-1) * ρX 1 + 0)) ≤ 0 := h5.2.1 _ (List.mem_cons_of_mem _ (List.mem_cons_self))
    refine ⟨v, z, σ1, h1, h2 z rfl (by rw [fB_of g1]; exact g2), ?_⟩
    exact .inr ⟨.inr (by omega), by omega⟩
theorem s_book_m {L : Nat} {xs : Nat → Int32} {d : Nat} {x y a1 : Int32} {σ : iv_H} (hd : 104 ≤ d) (hI : Inv x y σ) : ∃ (v x' : Int32) (σ1 : iv_H), iv_Rn L xs d 266 0 (lv_args 0 [.ref 548, .int a1]) [] σ (some (.int v)) σ1 ∧ Inv x x' σ1 ∧ bookP y a1 x' := by
  obtain ⟨r, σ1, h1, h2, ⟨b0, b9⟩, X, hX, ρX, h5⟩ := cl_mB (L := L) (xs := xs) (rs := [(-2147483648, 2147483647)]) (ys := [a1]) nt_6 rfl ⟨i32_full a1, trivial⟩ hd hI
  have hX : X ∈ [([((3, 0, 0, 0), (0, (-2147483648), 2147483647)), ((5, 0, 12, 2), (0, 0, 0)), ((2, 1, 0, 0), (0, 0, 940)), ((2, 11, 0, 0), (0, 0, 1))], []), ([((3, 0, 0, 0), (0, (-1000), (-1000))), ((5, 0, 12, 2), (0, 0, 940)), ((2, 1, 0, 0), (0, 0, 940)), ((2, 11, 0, 0), (0, 2, 2147483647))], [(0, [(2, (-1)), (1, 1)]), (0, [(2, 1), (1, (-1))])]), ([((3, 0, 0, 0), (0, (-1000), (-1000))), ((5, 0, 12, 2), (0, 0, 940)), ((2, 1, 0, 0), (0, 0, 940)), ((2, 11, 0, 0), (0, (-2147483648), (-1)))], [(0, [(2, (-1)), (1, 1)]), (0, [(2, 1), (1, (-1))])])] := hX
  simp only [List.mem_cons, List.not_mem_nil, or_false] at hX
  rcases hX with rfl | rfl | rfl
  · obtain ⟨v, rfl, ev, v1, v2⟩ := ex_res (k := 0) h5 rfl
    obtain ⟨fs, z, g1, g2, ez, z1, z2⟩ := ex_fld (k := 1) (a := 548) h5 rfl rfl
    obtain ⟨e2, p2, q2⟩ := ex_gh (k := 2) h5 rfl
    have e2 : ρX 2 = y.toInt := e2
    have p2 : 0 ≤ ρX 2 := p2
    have q2 : ρX 2 ≤ 940 := q2
    obtain ⟨e3, p3, q3⟩ := ex_gh (k := 3) h5 rfl
    have e3 : ρX 3 = a1.toInt := e3
    have p3 : 0 ≤ ρX 3 := p3
    have q3 : ρX 3 ≤ 1 := q3
    refine ⟨v, z, σ1, h1, h2 z rfl (by rw [fT_of g1]; exact g2), ?_⟩
    exact .inl ⟨(by omega), by omega⟩
  · obtain ⟨v, rfl, ev, v1, v2⟩ := ex_res (k := 0) h5 rfl
    obtain ⟨fs, z, g1, g2, ez, z1, z2⟩ := ex_fld (k := 1) (a := 548) h5 rfl rfl
    obtain ⟨e2, p2, q2⟩ := ex_gh (k := 2) h5 rfl
    have e2 : ρX 2 = y.toInt := e2
    have p2 : 0 ≤ ρX 2 := p2
    have q2 : ρX 2 ≤ 940 := q2
    obtain ⟨e3, p3, q3⟩ := ex_gh (k := 3) h5 rfl
    have e3 : ρX 3 = a1.toInt := e3
    have p3 : 2 ≤ ρX 3 := p3
    have q3 : ρX 3 ≤ 2147483647 := q3
    have f0 : 0 + ((-1) * ρX 2 + (1 * ρX 1 + 0)) ≤ 0 := h5.2.1 _ (List.mem_cons_self)
    have f1 : 0 + (1 * ρX 2 + ((-1) * ρX 1 + 0)) ≤ 0 := h5.2.1 _ (List.mem_cons_of_mem _ (List.mem_cons_self))
    refine ⟨v, z, σ1, h1, h2 z rfl (by rw [fT_of g1]; exact g2), ?_⟩
    exact .inr ⟨.inr (by omega), by omega⟩
  · obtain ⟨v, rfl, ev, v1, v2⟩ := ex_res (k := 0) h5 rfl
    obtain ⟨fs, z, g1, g2, ez, z1, z2⟩ := ex_fld (k := 1) (a := 548) h5 rfl rfl
    obtain ⟨e2, p2, q2⟩ := ex_gh (k := 2) h5 rfl
    have e2 : ρX 2 = y.toInt := e2
    have p2 : 0 ≤ ρX 2 := p2
    have q2 : ρX 2 ≤ 940 := q2
    obtain ⟨e3, p3, q3⟩ := ex_gh (k := 3) h5 rfl
    have e3 : ρX 3 = a1.toInt := e3
    have p3 : (-2147483648) ≤ ρX 3 := p3
    have q3 : ρX 3 ≤ (-1) := q3
    have f0 : 0 + ((-1) * ρX 2 + (1 * ρX 1 + 0)) ≤ 0 := h5.2.1 _ (List.mem_cons_self)
    have f1 : 0 + (1 * ρX 2 + ((-1) * ρX 1 + 0)) ≤ 0 := h5.2.1 _ (List.mem_cons_of_mem _ (List.mem_cons_self))
    refine ⟨v, z, σ1, h1, h2 z rfl (by rw [fT_of g1]; exact g2), ?_⟩
    exact .inr ⟨.inl (by omega), by omega⟩
theorem s_book_c {L : Nat} {xs : Nat → Int32} {d : Nat} {x y a1 : Int32} {σ : iv_H} (hd : 50 ≤ d) (hI : Inv x y σ) : ∃ (v x' : Int32) (σ1 : iv_H), iv_Rn L xs d 148 0 (lv_args 0 [.ref 0, .int a1]) [] σ (some (.int v)) σ1 ∧ Inv x' y σ1 ∧ bookP x a1 x' := by
  have hf := i32_full a1
  by_cases h1 : a1.toInt ≤ -1
  · exact s_book_cn ⟨hf.1, h1⟩ (by omega) hI
  · by_cases h2 : a1.toInt ≤ 0
    · exact s_book_c0 ⟨by omega, h2⟩ hd hI
    · by_cases h3 : a1.toInt ≤ 1
      · exact s_book_c1 ⟨by omega, h3⟩ hd hI
      · exact s_book_cp ⟨by omega, hf.2⟩ (by omega) hI
theorem feed_same {x v x' w y' : Int32} (h : feedP x v x') (h2 : feedP x w y') : v = w ∧ x' = y' := by
  refine ⟨Int32.toInt_inj.mp ?_, Int32.toInt_inj.mp ?_⟩
  · rcases h with ⟨_, _, _⟩ | ⟨_, _, _⟩ <;> rcases h2 with ⟨_, _, _⟩ | ⟨_, _, _⟩ <;> omega
  · rcases h with ⟨_, _, _⟩ | ⟨_, _, _⟩ <;> rcases h2 with ⟨_, _, _⟩ | ⟨_, _, _⟩ <;> omega
theorem end_same {x n v x' w y' : Int32} (h : endP x n v x') (h2 : endP x n w y') : v = w ∧ x' = y' := by
  refine ⟨Int32.toInt_inj.mp ?_, Int32.toInt_inj.mp ?_⟩
  · rcases h with ⟨_, _, _, _⟩ | ⟨_, _, _⟩ <;> rcases h2 with ⟨_, _, _, _⟩ | ⟨_, _, _⟩ <;> omega
  · rcases h with ⟨_, _, _, _⟩ | ⟨_, _, _⟩ <;> rcases h2 with ⟨_, _, _, _⟩ | ⟨_, _, _⟩ <;> omega
theorem book_same {x n x' y' : Int32} (h : bookP x n x') (h2 : bookP x n y') : x' = y' := by
  refine Int32.toInt_inj.mp ?_
  rcases h with ⟨_, _⟩ | ⟨_, _⟩ <;> rcases h2 with ⟨_, _⟩ | ⟨_, _⟩ <;> omega
theorem zero_same {x' y' : Int32} (h : x'.toInt = 0) (h2 : y'.toInt = 0) : x' = y' := Int32.toInt_inj.mp (by omega)
