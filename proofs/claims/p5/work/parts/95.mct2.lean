/-! ===== the reference: contracts by hand ===== -/
def zsegb (sg : List (Nat × Nat × Int × Int)) (i : Nat) (v : Int) : Bool := sg.any fun s => (Nat.ble s.1 i && Nat.ble i s.2.1) && (zle s.2.2.1 v && zle v s.2.2.2)
theorem zsegb_ok {sg : List (Nat × Nat × Int × Int)} {i : Nat} {v : Int} (h : zsegb sg i v = true) : zseg sg i v := by
  obtain ⟨s, h1, h2⟩ := List.any_eq_true.mp h
  simp only [Bool.and_eq_true] at h2
  exact ⟨s, h1, Nat.le_of_ble_eq_true h2.1.1, Nat.le_of_ble_eq_true h2.1.2, zle_iff.mp h2.2.1, zle_iff.mp h2.2.2⟩
/-- an int method by hand -/
def hi_c (m h : Nat) (ms : zm) (P : zp) : zct := (m, h, ms, (0, P, (1, []), []), [], [([((3, 0, 0, 0), (0, -2147483648, 2147483647))], [])])
theorem hi_ok {J : iv_H → Prop} {m h : Nat} {ms : zm} {P : zp} (H : ∀ (L : Nat) (xs : Nat → Int32) (d : Nat) (lv : iv_L) (σ : iv_H) (ρ : Nat → Int), h ≤ d → zI m_τ m_ty σ → J σ → zP_ok m_τ (fun _ => 0) lv none σ P ρ → zGo L xs (fun r σ' => (∃ x : Int32, r = some (.int x)) ∧ zI m_τ m_ty σ' ∧ J σ' ∧ zFr m_τ ms σ σ') [] d m 0 lv [] σ) : zCT m_τ m_ty J (hi_c m h ms P) := by
  intro L xs d cas σ ρ hd hI hJ hP
  obtain ⟨r, σ', g1, ⟨x, rfl⟩, g3, g4, g5⟩ := H L xs d (lv_args 0 cas) σ ρ hd hI hJ hP
  have b1 := Int32.le_toInt x
  have b2 := Int32.toInt_lt x
  refine ⟨_, σ', g1, g3, g4, g5, _, List.mem_singleton.mpr rfl, ⟨fun _ => x.toInt, fun s c h => ?_, fun f h => (by cases h), fun i b c h => ?_⟩, fun _ => rfl, fun h => (by cases h)⟩
  · cases s with
    | zero => cases h; exact ⟨by show -2147483648 ≤ x.toInt; omega, by show x.toInt ≤ 2147483647; omega, fun h9 => by have h9 : 2 ≤ 0 := h9; omega⟩
    | succ s => cases s <;> cases h
  · cases i with
    | zero => cases h; exact ⟨.int x, rfl, x, rfl, rfl⟩
    | succ i => cases i <;> cases h
/-! startRead -/
def rd4 (i : Nat) : Int := if i = 3 then 1 else if i = 2 then 3 else if 19 ≤ i ∧ i < 26 then -1 else 0
theorem rd4_at {R : Nat → Int32} {i : Nat} (hi : i < 38) : (upd (upd (va_cpy (fun _ => (-1 : Int32)) (va_cpy (fun _ => (Int32.ofNat 0)) R 0 0 38) 0 19 7) 2 (Int32.ofNat 3)) 3 (Int32.ofNat 1) i).toInt = rd4 i := by
  unfold rd4
  rw [upd_at]
  by_cases h3 : i = 3
  · rw [if_pos h3, if_pos h3]; rfl
  · rw [if_neg h3, if_neg h3, upd_at]
    by_cases h2 : i = 2
    · rw [if_pos h2, if_pos h2]; rfl
    · rw [if_neg h2, if_neg h2, zcpy_at]
      by_cases h1 : 19 ≤ i ∧ i < 26
      · rw [if_pos (by omega), if_pos h1]; rfl
      · rw [if_neg (by omega), if_neg h1, zcpy_at, if_pos (by omega)]; rfl
theorem m_sr_H (L : Nat) (xs : Nat → Int32) (d : Nat) (lv : iv_L) (σ : iv_H) (hI : zI m_τ m_ty σ) (hJ : m_Jb σ) (l0 : iv_f1 lv 0 = some (.ref 548)) : zGo L xs (fun r σ' => r = none ∧ zI m_τ m_ty σ' ∧ m_Jb σ' ∧ zFr m_τ [(1, 75, 0), (1, 83, 0)] σ σ') [] d 179 0 lv [] σ := by
  obtain ⟨fs, ho, mo, _⟩ := mO_of hI
  obtain ⟨R, gR, zR⟩ := m_iaR hI
  obtain ⟨e, gO, On, rfl, zO⟩ := hI 570 (.inr (2, 3, 0, [(0, 2, 0, 1)])) rfl
  refine g_sr l0 ho mo gR gO (fun σ1 σ2 σ3 h1 h2 h3 => ⟨rfl, ?_⟩)
  have z1 : ∀ i, i < 38 → zseg (m_sg 75) i (va_cpy (fun _ => (Int32.ofNat 0)) R 0 0 38 i).toInt := fun i hi => by
    rw [zcpy_at, if_pos (by omega)]
    have key : ((List.range 38).all fun i => zsegb (m_sg 75) i 0) = true := by decide +kernel
    exact zsegb_ok (List.all_eq_true.mp key i (List.mem_range.mpr hi))
  have hI1 := mD_zI hI h1 (m_ze (t := 75) (k := 0) rfl z1)
  have hI2 := mD_zI hI1 h2 (m_zb (k := 0) rfl (fun i hi => by rw [zcpy_at, if_pos (by omega)]; exact .inl rfl))
  have z3 : ∀ i, i < 38 → zseg (m_sg 75) i (upd (upd (va_cpy (fun _ => (-1 : Int32)) (va_cpy (fun _ => (Int32.ofNat 0)) R 0 0 38) 0 19 7) 2 (Int32.ofNat 3)) 3 (Int32.ofNat 1) i).toInt := fun i hi => by
    rw [rd4_at hi]
    have key : ((List.range 38).all fun i => zsegb (m_sg 75) i (rd4 i)) = true := by decide +kernel
    exact zsegb_ok (List.all_eq_true.mp key i (List.mem_range.mpr hi))
  have hI3 := mD_zI hI2 h3 (m_ze (t := 75) (k := 0) rfl z3)
  have gR2 := mD_n h2 (by decide) h1.2.1
  have gO1 := mD_n h1 (by decide) gO
  refine ⟨hI3, ?_, zFr_tr (fun _ h => h) (mD_zFr gR h1 rfl) (zFr_tr (fun _ h => h) (mD_zFr gO1 h2 rfl) (mD_zFr gR2 h3 rfl))⟩
  have a : ∀ {b : Nat}, b ≠ 554 → b ≠ 570 → mA σ3 b = mA σ b := fun b1 b2 => ((mD_A (x := none) h3 b1).trans (mD_A (x := none) h2 b2)).trans (mD_A (x := none) h1 b1)
  have hf : ∀ j, mF σ3 j = mF σ j := fun j => ((mD_F h3 (by decide) j).trans (mD_F h2 (by decide) j)).trans (mD_F h1 (by decide) j)
  obtain ⟨_, q1, q2, q3, q4, q5, q6⟩ := hJ
  refine m_Jmk (mD_n h3 (by decide) (mD_n h2 (by decide) (mD_n h1 (by decide) ho))) (a (by decide) (by decide)) (mD_As h3) (a (by decide) (by decide)) (a (by decide) (by decide)) (a (by decide) (by decide)) (a (by decide) (by decide)) (a (by decide) (by decide)) (hf 24) ⟨q1, ⟨⟨fun g hg => ?_, fun b hb => ?_⟩, fun b hb => ?_⟩, q3, q4, q5, q6⟩
  · rw [rd4_at (by decide)] at hg
    have : rd4 (0 + 1) = 0 := by decide
    omega
  · rw [rd4_at (by decide)] at hb
    have : rd4 0 = 0 := by decide
    omega
  · rw [rd4_at (by omega), rd4_at (by decide)]
    unfold rd4
    rw [if_neg (by omega), if_neg (by omega), if_pos (by omega), if_neg (by omega), if_neg (by omega), if_neg (by omega)]
    omega
theorem mt_7 : zCT m_τ m_ty (mJ hT) mc_7 := hand_v (fun L xs d lv σ hI hJ l0 => by
  obtain ⟨r, σ', g1, g2, g3, g4, g5⟩ := m_sr_H L xs d lv σ hI hJ.1 l0
  exact ⟨r, σ', g1, g2, g3, ⟨g4, trivial⟩, g5⟩)
theorem mt_40 : zCT m_τ m_ty (mJ hT) mc_40 := hand_v (fun L xs d lv σ hI hJ l0 => by
  obtain ⟨r, σ', g1, g2, g3, g4, g5⟩ := m_snap_H L xs d lv σ hI hJ.1 l0
  exact ⟨r, σ', g1, g2, g3, ⟨g4, trivial⟩, g5⟩)
/-! saysOne -/
theorem m_says_H {L : Nat} {xs : Nat → Int32} {d : Nat} {lv : iv_L} {σ : iv_H} {w a b r : Int32} {n : Nat} (hI : zI m_τ m_ty σ) (hJ : m_Jb σ) (l0 : iv_f1 lv 0 = some (.ref 548)) (l1 : iv_f1 lv 1 = some (.int w)) (l2 : iv_f1 lv 2 = some (.int a)) (l3 : iv_f1 lv 3 = some (.int b)) (l4 : iv_f1 lv 4 = some (.int r)) (en : mF σ 45 = n) (hn : n ≤ 39) (hr : rowD w.toInt a.toInt b.toInt n) : zGo L xs (fun rv σ' => rv = some (.int (Int32.ofNat n)) ∧ zI m_τ m_ty σ' ∧ m_Jb σ' ∧ zFr m_τ [(0, 12, 45), (1, 93, 0)] σ σ' ∧ ∃ fs', iv_get σ' 548 = some (.inr (12, fs')) ∧ iv_nth fs' 45 = some (.int (Int32.ofNat (n + 1)))) [] d 269 0 lv [] σ := by
  obtain ⟨fs, ho, mo, _, ⟨x, e45, x1, x2⟩, _⟩ := mO_of hI
  obtain ⟨D, gD, zD⟩ := m_iaD hI
  obtain ⟨n2, rfl, es⟩ := i32_nat x1
  have e2 : n2 = n := by
    have := hF_of ho e45
    omega
  subst e2
  refine g_says l0 ho mo l1 l2 l3 l4 e45 hn gD (fun σ2 h2 => ⟨rfl, ?_⟩)
  have ho2 := mD_n h2 (by decide) ho
  have h3 := mD_put2 (e2 := .inr (12, fs.set 45 (.int (Int32.ofNat (n2 + 1))))) ho2
  have hI2 := mD_zI hI h2 (m_ze (t := 93) (k := 0) rfl (fun i hi => ⟨(0, 239, -2147483648, 2147483647), List.mem_singleton.mpr rfl, Nat.zero_le _, by show i ≤ 239; omega, Int32.le_toInt _, by have := Int32.toInt_lt (upd (upd (upd (upd D (4 * n2) w) (4 * n2 + 1) a) (4 * n2 + 2) b) (4 * n2 + 3) r i); show _ ≤ (2147483647 : Int); omega⟩))
  have e1 := i32_ev (n := n2 + 1) (by omega)
  refine ⟨mD_zI hI2 h3 (m_zo hI2 ho2 (lo := 0) (hi := 40) rfl (by omega) (by omega)), ?_, zFr_tr (fun _ h => h) (mD_zFr gD h2 rfl) (mD_zFf ho2 h3 rfl), _, h3.2.1, by rw [iv_nth_set, if_pos ⟨rfl, by have := mo.1; omega⟩]⟩
  have aa : ∀ {c : Nat}, c ≠ 590 → c ≠ 548 → mA (iv_put σ2 548 (.inr (12, fs.set 45 (.int (Int32.ofNat (n2 + 1)))))) c = mA σ c := fun b1 b2 => (mD_A (x := none) h3 b2).trans (mD_A (x := none) h2 b1)
  have hd : mA (iv_put σ2 548 (.inr (12, fs.set 45 (.int (Int32.ofNat (n2 + 1)))))) 590 = _ := (mD_A (x := none) h3 (by decide)).trans (mD_As h2)
  have hf : ∀ {j : Nat}, j ≠ 45 → mF (iv_put σ2 548 (.inr (12, fs.set 45 (.int (Int32.ofNat (n2 + 1)))))) j = mF σ j := fun hj => (mF_ne ho2 h3.2.1 hj).trans (mD_F h2 (by decide) _)
  obtain ⟨_, q1, q2, q3, q4, q5, q6⟩ := hJ
  rw [hA_of gD] at q3
  refine m_Jmk h3.2.1 (aa (by decide) (by decide)) (aa (by decide) (by decide)) (aa (by decide) (by decide)) (aa (by decide) (by decide)) (aa (by decide) (by decide)) (aa (by decide) (by decide)) hd (hf (by decide)) ⟨q1, q2, fun k hk => ?_, q4, q5, q6⟩
  simp only [upd_at, Nat.zero_add]
  by_cases hc : k = n2
  · subst hc
    rw [if_neg (by omega), if_neg (by omega), if_neg (by omega), if_pos rfl, if_neg (by omega), if_neg (by omega), if_pos rfl, if_neg (by omega), if_pos rfl]
    exact hr
  · rw [if_neg (by omega), if_neg (by omega), if_neg (by omega), if_neg (by omega), if_neg (by omega), if_neg (by omega), if_neg (by omega), if_neg (by omega), if_neg (by omega), if_neg (by omega), if_neg (by omega), if_neg (by omega)]
    have := q3 k hk
    simp only [Nat.zero_add] at this
    exact this
theorem m_says_C {lo hi : Int} {F : List zf} (hr : ∀ ρ : Nat → Int, lo ≤ ρ 1 → ρ 1 ≤ hi → 0 ≤ ρ 2 → 0 ≤ ρ 3 → (∀ f ∈ F, f.1 + zl_ev ρ f.2 ≤ 0) → ∀ n : Nat, (n : Int) = ρ 5 → rowD (ρ 1) (ρ 2) (ρ 3) n) (h39 : ((-39 : Int), [((5 : Nat), (1 : Int))]) ∈ F) : zCT m_τ m_ty (mJ hT) (269, 12, [(0, 12, 45), (1, 93, 0)], (0, ([((0, 0, 0, 0), (24, 0, 1000)), ((0, 1, 0, 0), (0, lo, hi)), ((0, 2, 0, 0), (0, 0, 999)), ((0, 3, 0, 0), (0, 0, 999)), ((0, 4, 0, 0), (0, (-2147483648), 2147483647)), ((1, 0, 12, 45), (0, 0, 40))], F), (1, []), [(0, 0), (1, 5)]), [], [([((3, 0, 0, 0), (0, 0, 39)), ((5, 0, 12, 45), (0, 1, 40)), ((2, 1, 0, 0), (0, 0, 39))], [((-1), [(2, (-1)), (1, 1)]), (1, [(2, 1), (1, (-1))]), (0, [(2, (-1)), (0, 1)]), (0, [(2, 1), (0, (-1))])])]) := by
  intro L xs d cas σ ρ hd hI hJ hP
  have l0 := m_this (lo := 0) (hi := 0) hP (i := 0) rfl
  obtain ⟨w, l1, ew, w1, w2⟩ := m_intl hP (i := 1) rfl
  obtain ⟨a, l2, ea, a1, a2⟩ := m_intl hP (i := 2) rfl
  obtain ⟨b, l3, eb, b1, b2⟩ := m_intl hP (i := 3) rfl
  obtain ⟨r, l4, er, r1, r2⟩ := m_intl hP (i := 4) rfl
  obtain ⟨aa, fs, x, y1, y2, y3, y4⟩ := hP.2.2 5 _ _ rfl
  have y1 : iv_f1 (lv_args 0 cas) 0 = some (.ref aa) := y1
  rw [l0] at y1
  cases y1
  obtain ⟨z, rfl, ez⟩ : ∃ z : Int32, x = .int z ∧ z.toInt = ρ 5 := y4
  obtain ⟨c1, c2, _⟩ := hP.1 5 _ rfl
  have c1 : 0 ≤ ρ 5 := c1
  have c3 := hP.2.1 _ h39
  have c3 : (-39 : Int) + (1 * ρ 5 + 0) ≤ 0 := c3
  have en : mF σ 45 = ((ρ 5).toNat : Nat) := by
    rw [hF_of y2 y3]
    omega
  have e0 : ρ 0 = 548 := by
    obtain ⟨x0, g0, g1⟩ := hP.2.2 0 _ _ rfl
    have g0 : iv_f1 (lv_args 0 cas) 0 = some x0 := g0
    rw [l0] at g0
    cases g0
    obtain ⟨a0, ga, gb⟩ : ∃ a : Nat, (Value.ref 548) = .ref a ∧ (a : Int) = ρ 0 := g1
    cases ga
    omega
  obtain ⟨rv, σ', g1, rfl, g3, g4, g5, fs', g6, g7⟩ := m_says_H (L := L) (xs := xs) (d := d) hI hJ.1 l0 l1 l2 l3 l4 en (by omega) (by rw [ew, ea, eb]; exact hr ρ (by omega) (by omega) (by omega) (by omega) hP.2.1 _ (by omega))
  have en1 := i32_ev (n := (ρ 5).toNat) (by omega)
  have en2 := i32_ev (n := (ρ 5).toNat + 1) (by omega)
  refine ⟨_, σ', g1, g3, ⟨g4, trivial⟩, g5, _, List.mem_singleton.mpr rfl, ⟨fun i => if i = 1 then ρ 5 + 1 else ρ 5, fun s c h => ?_, fun f hf => ?_, fun i bb c h => ?_⟩, fun _ => rfl, fun h => (by cases h)⟩
  · match s, h with
    | 0, h => cases h; exact ⟨by show 0 ≤ ρ 5; omega, by show ρ 5 ≤ 39; omega, fun h9 => by have h9 : 2 ≤ 0 := h9; omega⟩
    | 1, h => cases h; exact ⟨by show 1 ≤ ρ 5 + 1; omega, by show ρ 5 + 1 ≤ 40; omega, fun h9 => by have h9 : 2 ≤ 0 := h9; omega⟩
    | 2, h => cases h; exact ⟨by show 0 ≤ ρ 5; omega, by show ρ 5 ≤ 39; omega, fun h9 => by have h9 : 2 ≤ 0 := h9; omega⟩
    | s + 3, h => cases h
  · simp only [List.mem_cons, List.not_mem_nil, or_false] at hf
    rcases hf with rfl | rfl | rfl | rfl
    · show (-1 : Int) + (-1 * ρ 5 + (1 * (ρ 5 + 1) + 0)) ≤ 0; omega
    · show (1 : Int) + (1 * ρ 5 + (-1 * (ρ 5 + 1) + 0)) ≤ 0; omega
    · show (0 : Int) + (-1 * ρ 5 + (1 * ρ 5 + 0)) ≤ 0; omega
    · show (0 : Int) + (1 * ρ 5 + (-1 * ρ 5 + 0)) ≤ 0; omega
  · match i, h with
    | 0, h => cases h; exact ⟨_, rfl, _, rfl, by show (Int32.ofNat (ρ 5).toNat).toInt = ρ 5; omega⟩
    | 1, h => cases h; exact ⟨548, fs', _, by show ((548 : Nat) : Int) = ρ 0; omega, g6, g7, _, rfl, by show (Int32.ofNat ((ρ 5).toNat + 1)).toInt = ρ 5 + 1; omega⟩
    | 2, h => cases h; show ρ 5 = ρ 5; rfl
    | i + 3, h => cases h
theorem mt_93 : zCT m_τ m_ty (mJ hT) mc_93 := m_says_C (fun ρ h1 h2 h3 h4 hF n hn => by
  have f1 := hF (1, [(2, 1), (5, (-1))]) (by decide)
  have f2 := hF (1, [(3, 1), (5, (-1))]) (by decide)
  have f1 : (1 : Int) + (1 * ρ 2 + (-1 * ρ 5 + 0)) ≤ 0 := f1
  have f2 : (1 : Int) + (1 * ρ 3 + (-1 * ρ 5 + 0)) ≤ 0 := f2
  exact ⟨fun h => by omega, fun h => ⟨⟨by omega, by omega⟩, by omega, by omega⟩⟩) (by decide)
theorem mt_94 : zCT m_τ m_ty (mJ hT) mc_94 := m_says_C (fun ρ h1 h2 h3 h4 hF n hn => ⟨fun h => by omega, fun h => by omega⟩) (by decide)
theorem mt_95 : zCT m_τ m_ty (mJ hT) mc_95 := m_says_C (fun ρ h1 h2 h3 h4 hF n hn => by
  have f1 := hF (1, [(2, 1), (5, (-1))]) (by decide)
  have f1 : (1 : Int) + (1 * ρ 2 + (-1 * ρ 5 + 0)) ≤ 0 := f1
  exact ⟨fun h => ⟨by omega, by omega⟩, fun h => by omega⟩) (by decide)
