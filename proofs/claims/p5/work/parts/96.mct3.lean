/-! ===== the reference: ends of methods by hand ===== -/
theorem iv_Rn_ret {L : Nat} {xs : Nat → Int32} {d M pc : Nat} {lv : iv_L} {σ σ' : iv_H} {x : Int32} {r : Option Value} (hf : iv_f1 (iv_p M) pc = some (.inr (.inl 1))) (h : iv_Rn L xs d M pc lv [.int x] σ r σ') : r = some (.int x) ∧ σ' = σ := by
  obtain ⟨n, hn⟩ := h
  cases n with
  | zero => cases hn
  | succ n =>
    rw [iv_run_s] at hn
    unfold iv_step at hn
    rw [hf] at hn
    have h2 : (some (some (Value.int x), σ) : Option (Option Value × iv_H)) = some (r, σ') := hn
    cases h2
    exact ⟨rfl, rfl⟩
theorem m_trm_ok {J : iv_H → Prop} {M pc ret h : Nat} {ms : zm} {P : zp} (hret : iv_f1 (iv_p M) ret = some (.inr (.inl 1))) (hP2 : P.2 = []) (H : ∀ (L : Nat) (xs : Nat → Int32) (d : Nat) (clv : iv_L) (σ : iv_H) (ρ : Nat → Int), h ≤ d → zI m_τ m_ty σ → J σ → zP_ok m_τ (fun _ => 0) clv none σ P ρ → zGo L xs (fun r σ' => (∃ x : Int32, r = some (.int x)) ∧ zI m_τ m_ty σ' ∧ J σ' ∧ zFr m_τ ms σ σ') [] d M pc clv [] σ) : zM1_ok m_τ m_ty J M pc (ms, h, m_trm ms P ret) := by
  intro L xs ρ A clv cst σ outs d hd hg hA hI hJ
  have hg : m_trm ms P ret A = some outs := hg
  unfold m_trm at hg
  split at hg
  · rename_i hst
    split at hg
    · rename_i vs hvs
      cases hg
      have hc : cst = [] := by
        have h1 := hA.2.2.1
        rw [hst] at h1
        cases cst with
        | nil => rfl
        | cons x c => exact h1.elim
      subst hc
      have hP := zP_of (γ := fun _ => 0) (r := none) hA (fun q hq => by cases hq) (fun v hv => by cases hv) hvs (by rw [hP2]; rfl)
      obtain ⟨r, σ', g1, ⟨x, rfl⟩, g3, g4, g5⟩ := H L xs d clv σ _ hd hI hJ hP
      have b1 := Int32.le_toInt x
      have b2 := Int32.toInt_lt x
      have g5 : zFr m_τ ms σ σ' := g5
      have h1 := zafter (ms := ms) hA g5 (lv := []) (st := []) (clv2 := clv) (cst2 := []) (fun q hq => by cases hq) trivial
      have h2 := zfr_ok (c := (0, -2147483648, 2147483647)) (x := x.toInt) (ds := []) h1 ⟨by show -2147483648 ≤ x.toInt; omega, by show x.toInt ≤ 2147483647; omega, fun h9 => by have h9 : 2 ≤ 0 := h9; omega⟩ (fun d hd => by cases hd)
      have hl : (A.1.1 ++ [((0, -2147483648, 2147483647) : zc)]).length = A.1.1.length + 1 := by simp
      refine ⟨ret, clv, [.int x], σ', _, zup ρ A.1.1.length x.toInt, fun r2 σ2 hr => ?_, List.mem_singleton.mpr rfl, ?_, g3, g4, zup_ag, by show A.1.1.length ≤ (A.1.1 ++ [((0, -2147483648, 2147483647) : zc)]).length; omega, g5⟩
      · obtain ⟨rfl, rfl⟩ := iv_Rn_ret hret hr
        exact g1
      · refine ⟨h2.1, fun q hq => (by cases hq), ⟨⟨zl_wf_c.mpr ⟨by show A.1.1.length < (A.1.1 ++ [((0, -2147483648, 2147483647) : zc)]).length; omega, rfl⟩, x, rfl, ?_⟩, trivial⟩, h2.2.2.2.1, fun q hq => (by cases hq)⟩
        show x.toInt = zv_ev (zup ρ A.1.1.length x.toInt) (0, 0, [(A.1.1.length, 1)])
        rw [zev1, zup_s]
    · cases hg
  · cases hg
theorem m_name {σ : iv_H} (hI : zI m_τ m_ty σ) : ∃ f : Nat → Int64, iv_get σ 562 = some (.inl (1, 13, .inr (.inl f))) := by
  obtain ⟨e, h1, f, rfl, _⟩ := hI 562 (.inr (1, 13, 0, [(0, 12, -9223372036854775808, 9223372036854775807)])) rfl
  exact ⟨f, h1⟩
theorem m_rname {σ : iv_H} (hI : zI m_τ m_ty σ) : ∃ f : Nat → Int64, iv_get σ 564 = some (.inl (1, 13, .inr (.inl f))) := by
  obtain ⟨e, h1, f, rfl, _⟩ := hI 564 (.inr (1, 13, 0, [(0, 12, -9223372036854775808, 9223372036854775807)])) rfl
  exact ⟨f, h1⟩
theorem m_kname {σ : iv_H} (hI : zI m_τ m_ty σ) : ∃ f : Nat → Int64, iv_get σ 566 = some (.inl (1, 26, .inr (.inl f))) := by
  obtain ⟨e, h1, f, rfl, _⟩ := hI 566 (.inr (1, 26, 0, [(0, 25, -9223372036854775808, 9223372036854775807)])) rfl
  exact ⟨f, h1⟩
theorem m_isk {σ : iv_H} (hI : zI m_τ m_ty σ) : ∃ f : Nat → Int32, iv_get σ 568 = some (.inl (2, 2, .inl f)) ∧ ∀ i, i < 2 → f i = 0 ∨ f i = 1 := by
  obtain ⟨e, h1, f, rfl, h2⟩ := hI 568 (.inr (2, 2, 0, [(0, 1, 0, 1)])) rfl
  exact ⟨f, h1, fun i hi => (h2 i hi).1⟩
/-! order -/
theorem n3_at {R N : Nat → Int32} {i : Nat} : soB (upd (va_cpy (fun _ => (Int32.ofNat 0)) (va_cpy R N 0 0 38) 0 38 336) 41 (va_cpy (fun _ => (Int32.ofNat 0)) (va_cpy R N 0 0 38) 0 38 336 3)) 7 i = if i < 38 then R i else if i = 41 then R 3 else if 42 ≤ i ∧ i < 49 then R (5 + (i - 42)) else if 49 ≤ i ∧ i < 56 then R (19 + (i - 49)) else if i < 374 then Int32.ofNat 0 else N i := by
  have hb : ∀ j, j < 38 → upd (va_cpy (fun _ => (Int32.ofNat 0)) (va_cpy R N 0 0 38) 0 38 336) 41 (va_cpy (fun _ => (Int32.ofNat 0)) (va_cpy R N 0 0 38) 0 38 336 3) j = R j := by
    intro j hj
    rw [upd_at, if_neg (by omega), zcpy_at, if_neg (by omega), zcpy_at, if_pos (by omega)]
    congr 1
    omega
  rw [soB_at _ 7 (by decide)]
  by_cases h1 : i < 38
  · rw [if_neg (by omega), if_neg (by omega), if_pos h1, hb i h1]
  · rw [if_neg h1]
    by_cases h2 : i = 41
    · rw [if_neg (by omega), if_neg (by omega), if_pos h2, upd_at, if_pos h2, zcpy_at, if_neg (by omega), zcpy_at, if_pos (by omega)]
    · rw [if_neg h2]
      by_cases h3 : 42 ≤ i ∧ i < 49
      · rw [if_pos (by omega), if_pos h3, hb _ (by omega)]
      · rw [if_neg (by omega), if_neg h3]
        by_cases h4 : 49 ≤ i ∧ i < 56
        · rw [if_pos (by omega), if_pos h4, hb _ (by omega)]
        · rw [if_neg (by omega), if_neg h4, upd_at, if_neg h2, zcpy_at]
          by_cases h5 : i < 374
          · rw [if_pos (by omega), if_pos h5]
          · rw [if_neg (by omega), if_neg h5, zcpy_at, if_neg (by omega)]
theorem m_ord_H (L : Nat) (xs : Nat → Int32) (d : Nat) (clv : iv_L) (σ : iv_H) (ρ : Nat → Int) (hd : 8 ≤ d) (hI : zI m_τ m_ty σ) (hJ : mJ hT σ) (hP : zP_ok m_τ (fun _ => 0) clv none σ ([((0, 0, 0, 0), (24, 0, 1000)), ((0, 1, 0, 0), (0, (-2147483648), 2147483647))], []) ρ) : zGo L xs (fun r σ' => (∃ x : Int32, r = some (.int x)) ∧ zI m_τ m_ty σ' ∧ mJ hT σ' ∧ zFr m_τ [(0, 12, 24), (1, 74, 0), (1, 79, 0)] σ σ') [] d 191 47 clv [] σ := by
  obtain ⟨d', rfl⟩ : ∃ d', d = d' + 1 := ⟨d - 1, by omega⟩
  have l0 := m_this (lo := 0) (hi := 0) hP (i := 0) rfl
  obtain ⟨ls, l1, _⟩ := m_intl hP (i := 1) rfl
  obtain ⟨fs, ho, mo, _⟩ := mO_of hI
  obtain ⟨N, gN, zN⟩ := m_iaN hI
  obtain ⟨R, gR, zR⟩ := m_iaR hI
  obtain ⟨Nm, gM⟩ := m_name hI
  obtain ⟨Rm, gQ⟩ := m_rname hI
  have hN : mA σ 552 = N := hA_of gN
  have hR : mA σ 554 = R := hA_of gR
  obtain ⟨⟨b1, b2⟩, b3, b4⟩ := m_R hI
  rw [hR] at b1 b2 b3 b4
  refine g_ord l0 ho mo l1 gN gR gM gQ (fun σ1 σ2 σ3 h1 h2 h3 => ⟨⟨ls, rfl⟩, ?_⟩)
  have z1 : ∀ i, i < 374 → zseg (m_sg 74) i (va_cpy R N 0 0 38 i).toInt := zcpk_ok (by decide +kernel) zR zN (by decide)
  have hI1 := mD_zI hI h1 (m_ze (t := 74) (k := 0) rfl z1)
  have hI2 := mD_zI hI1 h2 (m_zj (k := 0) rfl)
  have z3 : ∀ i, i < 374 → zseg (m_sg 74) i (soB (upd (va_cpy (fun _ => (Int32.ofNat 0)) (va_cpy R N 0 0 38) 0 38 336) 41 (va_cpy (fun _ => (Int32.ofNat 0)) (va_cpy R N 0 0 38) 0 38 336 3)) 7 i).toInt := by
    intro i hi
    rw [n3_at]
    by_cases c1 : i < 38
    · rw [if_pos c1]
      have := z1 i hi
      rw [zcpy_at, if_pos (by omega)] at this
      rw [show 0 + (i - 0) = i by omega] at this
      exact this
    · rw [if_neg c1]
      by_cases c2 : i = 41
      · rw [if_pos c2]
        have k1 := Int32.le_toInt (R 3)
        have k2 := Int32.toInt_lt (R 3)
        exact ⟨(38, 41, -2147483648, 2147483647), by decide +kernel, by show 38 ≤ i; omega, by show i ≤ 41; omega, by show -2147483648 ≤ (R 3).toInt; omega, by show (R 3).toInt ≤ 2147483647; omega⟩
      · rw [if_neg c2]
        by_cases c3 : 42 ≤ i ∧ i < 49
        · rw [if_pos c3]
          have key : ((List.range 7).all fun b => zsgh (m_sg 75) (5 + b) 0 240) = true := by decide +kernel
          have k := zsgh_ok (List.all_eq_true.mp key (i - 42) (List.mem_range.mpr (by omega))) (zR (5 + (i - 42)) (by omega))
          exact ⟨(42, 48, 0, 240), by decide +kernel, by show 42 ≤ i; omega, by show i ≤ 48; omega, k.1, k.2⟩
        · rw [if_neg c3]
          by_cases c4 : 49 ≤ i ∧ i < 56
          · rw [if_pos c4]
            have key : ((List.range 7).all fun b => zsgh (m_sg 75) (19 + b) (-1) 5) = true := by decide +kernel
            have k := zsgh_ok (List.all_eq_true.mp key (i - 49) (List.mem_range.mpr (by omega))) (zR (19 + (i - 49)) (by omega))
            exact ⟨(49, 55, -1, 5), by decide +kernel, by show 49 ≤ i; omega, by show i ≤ 55; omega, k.1, k.2⟩
          · rw [if_neg c4, if_pos hi]
            have key : ((List.range 336).all fun b => zsegb (m_sg 74) (38 + b) 0) = true := by decide +kernel
            have k := zsegb_ok (List.all_eq_true.mp key (i - 38) (List.mem_range.mpr (by omega)))
            rw [show 38 + (i - 38) = i by omega] at k
            exact k
  have hI3 := mD_zI hI2 h3 (m_ze (t := 74) (k := 0) rfl z3)
  have ho3 := mD_n h3 (by decide) (mD_n h2 (by decide) (mD_n h1 (by decide) ho))
  have h4 := mD_put2 (e2 := .inr (12, fs.set 24 (.int (Int32.ofNat 0)))) ho3
  have gM1 := mD_n h1 (by decide) gM
  have gN2 := mD_n h2 (by decide) h1.2.1
  have hfr : zFr m_τ [(0, 12, 24), (1, 74, 0), (1, 79, 0)] σ (iv_put σ3 548 (.inr (12, fs.set 24 (.int (Int32.ofNat 0))))) := zFr_tr (fun _ h => h) (mD_zFr gN h1 rfl) (zFr_tr (fun _ h => h) (mD_zFr gM1 h2 rfl) (zFr_tr (fun _ h => h) (mD_zFr gN2 h3 rfl) (mD_zFf ho3 h4 rfl)))
  refine ⟨mD_zI hI3 h4 (m_zo hI3 ho3 (lo := 0) (hi := 8) rfl (by decide) (by decide)), ⟨?_, trivial⟩, hfr⟩
  have a : ∀ {b : Nat}, b ≠ 552 → b ≠ 562 → b ≠ 548 → mA (iv_put σ3 548 (.inr (12, fs.set 24 (.int (Int32.ofNat 0))))) b = mA σ b := fun c1 c2 c3 => (((mD_A (x := none) h4 c3).trans (mD_A (x := none) h3 c1)).trans (mD_A (x := none) h2 c2)).trans (mD_A (x := none) h1 c1)
  have hn3 : mA (iv_put σ3 548 (.inr (12, fs.set 24 (.int (Int32.ofNat 0))))) 552 = _ := (mD_A (x := none) h4 (by decide)).trans (mD_As h3)
  obtain ⟨⟨_, q1, q2, q3, q4, q5, q6⟩, _⟩ := hJ
  rw [hR] at q2
  obtain ⟨⟨j1, j2⟩, j3⟩ := q2
  refine m_Jmk (n := 0) h4.2.1 hn3 ((a (by decide) (by decide) (by decide)).trans hR) (a (by decide) (by decide) (by decide)) (a (by decide) (by decide) (by decide)) (a (by decide) (by decide) (by decide)) (a (by decide) (by decide) (by decide)) (a (by decide) (by decide) (by decide)) ((mF_set h4.2.1 (by have := mo.1; omega)).trans rfl) ⟨⟨⟨fun g hg => ?_, fun b hb => ?_⟩, fun b hb => ?_, fun k hk => ?_⟩, ⟨⟨j1, j2⟩, j3⟩, q3, fun r hr => ?_, fun r hr => ?_, q6⟩
  · rw [n3_at, if_pos (by decide)] at hg
    have hg : (g : Int) < (R 1).toInt := hg
    rw [n3_at, if_pos (by omega)]
    exact j1 g hg
  · rw [n3_at, if_pos (by decide)] at hb
    rw [n3_at, if_pos (by omega)]
    exact j2 b hb
  · rw [n3_at, if_neg (by omega), if_neg (by omega), if_neg (by omega), if_pos (by omega), n3_at, if_pos (by decide)]
    have := j3 b hb
    rw [show 19 + (0 + 49 + b - 49) = 19 + b by omega]
    exact this
  · rw [n3_at, if_neg (by omega), if_neg (by omega), if_neg (by omega), if_neg (by omega), if_pos (by omega)]
    refine ⟨fun h => ?_, fun h => ?_⟩
    · exact absurd h (by decide)
    · exact absurd h (by decide)
  · omega
  · have hr : (r : Int) < 0 := hr
    omega
/-! sentence -/
theorem m_sen_H (L : Nat) (xs : Nat → Int32) (d : Nat) (clv : iv_L) (σ : iv_H) (ρ : Nat → Int) (hd : 8 ≤ d) (hI : zI m_τ m_ty σ) (hJ : mJ hT σ) (hP : zP_ok m_τ (fun _ => 0) clv none σ ([((0, 0, 0, 0), (24, 0, 1000))], []) ρ) : zGo L xs (fun r σ' => (∃ x : Int32, r = some (.int x)) ∧ zI m_τ m_ty σ' ∧ mJ hT σ' ∧ zFr m_τ [(1, 74, 3800374)] σ σ') [] d 277 77 clv [] σ := by
  have l0 := m_this (lo := 0) (hi := 0) hP (i := 0) rfl
  obtain ⟨fs, ho, mo, _⟩ := mO_of hI
  obtain ⟨fs2, c1, c2, c3⟩ := zI_obj hI (a := 548) (t := 22) rfl rfl
  rw [ho] at c1
  cases c1
  obtain ⟨x, hx⟩ := iv_nth_some (l := fs) (n := 46) (by have := mo.1; omega)
  obtain ⟨oz, rfl, _⟩ : ∃ y : Int32, x = .int y ∧ 0 ≤ y.toInt ∧ y.toInt ≤ 20 := c3 46 _ x rfl hx
  obtain ⟨N, gN, zN⟩ := m_iaN hI
  obtain ⟨D, gD, zD⟩ := m_iaD hI
  have hN : mA σ 552 = N := hA_of gN
  have hD : mA σ 590 = D := hA_of gD
  refine g_sen l0 ho mo hx gN gD (fun σ1 h1 => ⟨⟨oz, rfl⟩, ?_⟩)
  have hI1 := mD_zI hI h1 (m_ze (t := 74) (k := 0) rfl (zcpk_ok (by decide +kernel) zD zN (by decide)))
  refine ⟨hI1, ⟨?_, trivial⟩, mD_zFrN (b := 3800374) gN h1 rfl (fun i hi => by rw [zcpy_at, if_neg (by omega)])⟩
  have a : ∀ {b : Nat}, b ≠ 552 → mA σ1 b = mA σ b := fun c1 => mD_A (x := none) h1 c1
  have lo : ∀ {i : Nat}, i < 134 → va_cpy D N 0 134 240 i = N i := fun hi => by rw [zcpy_at, if_neg (by omega)]
  obtain ⟨⟨_, ⟨⟨j1, j2⟩, j3, j4⟩, q2, q3, q4, q5, q6⟩, _⟩ := hJ
  obtain ⟨⟨b1, b2⟩, b3, b4⟩ := m_N hI
  rw [hN] at j1 j2 j3 q5 b1 b2 b3 b4
  rw [hD] at q3
  refine m_Jmk (n := 0) (mD_n h1 (by decide) ho) (mD_As h1) (a (by decide)) (a (by decide)) (a (by decide)) (a (by decide)) (a (by decide)) ((a (by decide)).trans hD) (mD_F h1 (by decide) 24) ⟨⟨⟨fun g hg => ?_, fun b hb => ?_⟩, fun b hb => ?_, fun k hk => ?_⟩, q2, q3, fun r hr => ?_, ?_, q6⟩
  · rw [lo (by decide)] at hg
    have hg2 : (g : Int) < (N 1).toInt := hg
    rw [lo (by omega)]
    exact j1 g hg
  · rw [lo (by decide)] at hb
    rw [lo (by omega)]
    exact j2 b hb
  · rw [lo (by omega), lo (by decide)]
    exact j3 b hb
  · have e : ∀ c, c < 240 → va_cpy D N 0 134 240 (134 + c) = D c := fun c hc => by
      rw [zcpy_at, if_pos (by omega)]
      exact congrArg D (by omega)
    rw [show 0 + 134 + 4 * k = 134 + 4 * k by omega, show 134 + 4 * k + 1 = 134 + (4 * k + 1) by omega, show 134 + 4 * k + 2 = 134 + (4 * k + 2) by omega, e _ (by omega), e _ (by omega), e _ (by omega)]
    have := q3 k hk
    simp only [Nat.zero_add] at this
    exact this
  · omega
  · rw [lo (by decide)]
    exact q5
