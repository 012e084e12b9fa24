/-! ===== the reference: undo, image, restore ===== -/
theorem m_F0 {fs : List Value} {σ : iv_H} (hI : zI m_τ m_ty σ) (ho : iv_get σ 548 = some (.inr (12, fs))) : ∀ T, m_ty (m_τ 548) = some T → zcell m_τ T (.inr (12, fs.set 0 (.int (Int32.ofNat 0)))) := m_zo hI ho (lo := -2147483648) (hi := 2147483647) rfl (by decide) (by decide)
theorem m_und_H (L : Nat) (xs : Nat → Int32) (d : Nat) (clv : iv_L) (σ : iv_H) (ρ : Nat → Int) (hd : 0 ≤ d) (hI : zI m_τ m_ty σ) (hJ : mJ hT σ) (hP : zP_ok m_τ (fun _ => 0) clv none σ ([((0, 0, 0, 0), (24, 0, 1000))], []) ρ) : zGo L xs (fun r σ' => (∃ x : Int32, r = some (.int x)) ∧ zI m_τ m_ty σ' ∧ mJ hT σ' ∧ zFr m_τ [(0, 12, 0), (0, 12, 24), (1, 74, 3800374)] σ σ') [] d 219 0 clv [] σ := by
  have l0 := m_this (lo := 0) (hi := 0) hP (i := 0) rfl
  obtain ⟨fs, ho, mo, ⟨x, e24, x1, x2⟩, _⟩ := mO_of hI
  obtain ⟨N, gN, zN⟩ := m_iaN hI
  obtain ⟨S, gS, zS⟩ := m_iaS hI
  obtain ⟨sm, rfl, es⟩ := i32_nat x1
  have hN : mA σ 552 = N := hA_of gN
  have hS : mA σ 558 = S := hA_of gS
  have hsm : mF σ 24 = sm := (hF_of ho e24).trans es.symm
  have h1 := mD_put2 (e2 := .inr (12, fs.set 0 (.int (Int32.ofNat 0)))) ho
  have hI1 := mD_zI hI h1 (m_F0 hI ho)
  obtain ⟨⟨_, ⟨⟨j1, j2⟩, j3, j4⟩, q2, q3, q4, q5, q6⟩, _⟩ := hJ
  obtain ⟨⟨b1, b2⟩, b3, b4⟩ := m_N hI
  rw [hN] at j1 j2 j3 j4 q4 q5 b1 b2 b3 b4
  rw [hS, hsm] at q5
  have a1 : ∀ {b : Nat}, b ≠ 548 → mA (iv_put σ 548 (.inr (12, fs.set 0 (.int (Int32.ofNat 0))))) b = mA σ b := fun c1 => mD_A (x := none) h1 c1
  refine g_undo l0 ho mo e24 (by omega) gN gS (fun h0 => ⟨⟨_, rfl⟩, hI1, ⟨?_, trivial⟩, mD_zFf ho h1 rfl⟩) (fun h0 σ2 h3 => ⟨⟨_, rfl⟩, ?_⟩)
  · exact m_Jmk (n := 0) h1.2.1 ((a1 (by decide)).trans hN) (a1 (by decide)) (a1 (by decide)) ((a1 (by decide)).trans hS) (a1 (by decide)) (a1 (by decide)) (a1 (by decide)) ((mF_ne ho h1.2.1 (by decide)).trans hsm) ⟨⟨⟨j1, j2⟩, j3, j4⟩, q2, q3, q4, q5, q6⟩
  · have h2 := mD_put2 (e2 := .inr (12, (fs.set 0 (.int (Int32.ofNat 0))).set 24 (.int (Int32.ofNat (sm - 1))))) h1.2.1
    have en := i32_ev (n := sm - 1) (by omega)
    have hI2 := mD_zI hI1 h2 (m_zo hI1 h1.2.1 (lo := 0) (hi := 8) rfl (by omega) (by omega))
    have gN2 := mD_n h2 (by decide) (mD_n h1 (by decide) gN)
    have hI3 := mD_zI hI2 h3 (m_ze (t := 74) (k := 0) rfl (zcpk_ok (m_cpSN (by omega)) zS zN (by omega)))
    refine ⟨hI3, ⟨?_, trivial⟩, zFr_tr (fun _ h => h) (mD_zFf ho h1 rfl) (zFr_tr (fun _ h => h) (mD_zFf h1.2.1 h2 rfl) (mD_zFrN (b := 3800374) gN2 h3 rfl (fun i hi => by rw [zcpy_at, if_neg (by omega)])))⟩
    have a : ∀ {b : Nat}, b ≠ 552 → b ≠ 548 → mA σ2 b = mA σ b := fun c1 c2 => ((mD_A (x := none) h3 c1).trans (mD_A (x := none) h2 c2)).trans (a1 c2)
    have lo : ∀ {i : Nat}, i < 38 ∨ 132 ≤ i → va_cpy S N (94 * (sm - 1)) 38 94 i = N i := fun hi => by rw [zcpy_at, if_neg (by omega)]
    have hsm2 : mF σ2 24 = ((sm - 1 : Nat) : Int) := ((mD_F h3 (by decide) 24).trans (mF_set h2.2.1 (by rw [List.length_set]; have := mo.1; omega))).trans en
    refine m_Jmk (n := 0) (mD_n h3 (by decide) h2.2.1) (mD_As h3) (a (by decide) (by decide)) (a (by decide) (by decide)) ((a (by decide) (by decide)).trans hS) (a (by decide) (by decide)) (a (by decide) (by decide)) (a (by decide) (by decide)) hsm2 ⟨⟨⟨fun g hg => ?_, fun b hb => ?_⟩, fun b hb => ?_, fun k hk => ?_⟩, q2, q3, fun r hr => ?_, fun r hr => ?_, q6⟩
    · rw [lo (by omega)] at hg
      have hg2 : (g : Int) < (N 1).toInt := hg
      rw [lo (by omega)]
      exact j1 g hg
    · rw [lo (by omega)] at hb
      rw [lo (by omega)]
      exact j2 b hb
    · rw [lo (i := 0 + 1) (by omega), zcpy_at, if_pos (by omega)]
      have := q5 (sm - 1) (by omega) b hb
      rw [show 94 * (sm - 1) + (0 + 49 + b - 38) = 94 * (sm - 1) + 11 + b by omega]
      exact this
    · rw [lo (by omega), lo (by omega), lo (by omega)]
      exact j4 k hk
    · omega
    · rw [lo (by omega)]
      exact q5 r (by omega)
/-- an image of what is so -/
theorem jI_cp {f s : Nat → Int32} {lo off : Nat} (h : ∀ i, i < 374 → f (lo + i) = s (off + i)) (h0 : (s off).toInt ≤ 7) (h1 : (s (off + 1)).toInt ≤ 6) (hj : jI s off) : jI f lo := by
  obtain ⟨⟨j1, j2⟩, j3, j4⟩ := hj
  have e0 : f lo = s off := h 0 (by decide)
  have e1 : f (lo + 1) = s (off + 1) := h 1 (by decide)
  refine ⟨⟨fun g hg => ?_, fun b hb => ?_⟩, fun b hb => ?_, fun k hk => ?_⟩
  · rw [e1] at hg
    rw [show lo + 32 + g = lo + (32 + g) by omega, h _ (by omega)]
    have := j1 g hg
    rw [show off + 32 + g = off + (32 + g) by omega] at this
    exact this
  · rw [e0] at hb
    rw [show lo + 5 + b = lo + (5 + b) by omega, h _ (by omega)]
    have := j2 b hb
    rw [show off + 5 + b = off + (5 + b) by omega] at this
    exact this
  · rw [e1, show lo + 49 + b = lo + (49 + b) by omega, h _ (by omega)]
    have := j3 b hb
    rw [show off + 49 + b = off + (49 + b) by omega] at this
    exact this
  · rw [show lo + 134 + 4 * k = lo + (134 + 4 * k) by omega, show lo + (134 + 4 * k) + 1 = lo + (134 + 4 * k + 1) by omega, show lo + (134 + 4 * k) + 2 = lo + (134 + 4 * k + 2) by omega, h _ (by omega), h _ (by omega), h _ (by omega)]
    have := j4 k hk
    rw [show off + 134 + 4 * k = off + (134 + 4 * k) by omega, show off + (134 + 4 * k) + 1 = off + (134 + 4 * k + 1) by omega, show off + (134 + 4 * k) + 2 = off + (134 + 4 * k + 2) by omega] at this
    exact this
theorem m_cpNK {q : Nat} (h : q ≤ 1) : zcpk (m_sg 74) (m_sg 76) (0 : Nat) ((374 * q : Nat) : Int) (374 : Nat) = true := by
  have : q = 0 ∨ q = 1 := by omega
  rcases this with rfl | rfl <;> decide +kernel
theorem m_cpKN {q : Nat} (h : q ≤ 1) : zcpk (m_sg 76) (m_sg 74) ((374 * q : Nat) : Int) (0 : Nat) (374 : Nat) = true := by
  have : q = 0 ∨ q = 1 := by omega
  rcases this with rfl | rfl <;> decide +kernel
theorem m_img_H (L : Nat) (xs : Nat → Int32) (d : Nat) (clv : iv_L) (σ : iv_H) (v : Int32) (hI : zI m_τ m_ty σ) (hJ : m_Jb σ) (l0 : iv_f1 clv 0 = some (.ref 548)) (l1 : iv_f1 clv 1 = some (.int v)) : zGo L xs (fun r σ' => ((¬ (0 ≤ v.toInt ∧ v.toInt ≤ 1) ∧ r = some (.int (Int32.ofNat 0)) ∧ mA σ' 568 = mA σ 568) ∨ (∃ q : Nat, q ≤ 1 ∧ v = Int32.ofNat q ∧ r = some (.int (Int32.ofNat 1)) ∧ mA σ' 568 = upd (mA σ 568) q (Int32.ofNat 1))) ∧ zI m_τ m_ty σ' ∧ m_Jb σ' ∧ zFr m_τ [(0, 12, 0), (1, 76, 0), (1, 81, 0), (1, 82, 0)] σ σ') [] (d + 1) 280 0 clv [] σ := by
  obtain ⟨fs, ho, mo, _⟩ := mO_of hI
  obtain ⟨N, gN, zN⟩ := m_iaN hI
  obtain ⟨K, gK, zK⟩ := m_iaK hI
  obtain ⟨Nm, gM⟩ := m_name hI
  obtain ⟨Km, gQ⟩ := m_kname hI
  obtain ⟨Z, gZ, zZ⟩ := m_isk hI
  have hN : mA σ 552 = N := hA_of gN
  have hK : mA σ 556 = K := hA_of gK
  have hZ : mA σ 568 = Z := hA_of gZ
  have h0 := mD_put2 (e2 := .inr (12, fs.set 0 (.int (Int32.ofNat 0)))) ho
  have hI0 := mD_zI hI h0 (m_F0 hI ho)
  have a0 : ∀ {b : Nat}, b ≠ 548 → mA (iv_put σ 548 (.inr (12, fs.set 0 (.int (Int32.ofNat 0))))) b = mA σ b := fun c1 => mD_A (x := none) h0 c1
  obtain ⟨_, q1, q2, q3, q4, q5, q6⟩ := hJ
  rw [hK, hZ] at q6
  refine g_img l0 ho mo l1 gN gK gM gQ gZ (fun hv => ⟨.inl ⟨hv, rfl, a0 (by decide)⟩, hI0, ?_, mD_zFf ho h0 rfl⟩) (fun q hq hv σ1 σ2 σ3 h1 h2 h3 => ⟨.inr ⟨q, hq, hv, rfl, ?_⟩, ?_⟩)
  · exact m_Jmk (n := 0) h0.2.1 (a0 (by decide)) (a0 (by decide)) ((a0 (by decide)).trans hK) (a0 (by decide)) ((a0 (by decide)).trans hZ) (a0 (by decide)) (a0 (by decide)) (mF_ne ho h0.2.1 (by decide)) ⟨q1, q2, q3, q4, q5, q6⟩
  · rw [mD_As h3, hZ]
  · have gK0 := mD_n h0 (by decide) gK
    have gQ1 := mD_n h1 (by decide) (mD_n h0 (by decide) gQ)
    have gZ2 := mD_n h2 (by decide) (mD_n h1 (by decide) (mD_n h0 (by decide) gZ))
    have hI1 := mD_zI hI0 h1 (m_ze (t := 76) (k := 0) rfl (zcpk_ok (m_cpNK hq) zN zK (by decide)))
    have hI2 := mD_zI hI1 h2 (m_zj (k := 0) rfl)
    have hI3 := mD_zI hI2 h3 (m_zb (k := 0) rfl (fun i hi => by
      rw [upd_at]
      split
      · exact .inr rfl
      · exact zZ i hi))
    refine ⟨hI3, ?_, zFr_tr (fun _ h => h) (mD_zFf ho h0 rfl) (zFr_tr (fun _ h => h) (mD_zFr gK0 h1 rfl) (zFr_tr (fun _ h => h) (mD_zFr gQ1 h2 rfl) (mD_zFr gZ2 h3 rfl)))⟩
    have a : ∀ {b : Nat}, b ≠ 556 → b ≠ 566 → b ≠ 568 → b ≠ 548 → mA σ3 b = mA σ b := fun c1 c2 c3 c4 => (((mD_A (x := none) h3 c3).trans (mD_A (x := none) h2 c2)).trans (mD_A (x := none) h1 c1)).trans (a0 c4)
    have hK3 : mA σ3 556 = va_cpy N K 0 (374 * q) 374 := ((mD_A (x := none) h3 (by decide)).trans (mD_A (x := none) h2 (by decide))).trans (mD_As h1)
    have hf : mF σ3 24 = mF σ 24 := (((mD_F h3 (by decide) 24).trans (mD_F h2 (by decide) 24)).trans (mD_F h1 (by decide) 24)).trans (mF_ne ho h0.2.1 (by decide))
    obtain ⟨⟨b1, b2⟩, b3, b4⟩ := m_N hI
    rw [hN] at b2 b4
    have q1' := q1
    rw [hN] at q1'
    refine m_Jmk (n := 0) (mD_n h3 (by decide) (mD_n h2 (by decide) (mD_n h1 (by decide) h0.2.1))) (a (by decide) (by decide) (by decide) (by decide)) (a (by decide) (by decide) (by decide) (by decide)) hK3 (a (by decide) (by decide) (by decide) (by decide)) (mD_As h3) (a (by decide) (by decide) (by decide) (by decide)) (a (by decide) (by decide) (by decide) (by decide)) hf ⟨q1, q2, q3, q4, q5, fun k hk hz => ?_⟩
    by_cases e : k = q
    · subst e
      refine jI_cp (s := N) (off := 0) (fun i hi => ?_) b2 b4 q1'
      rw [zcpy_at, if_pos (by omega)]
      congr 1
      omega
    · rw [upd_at, if_neg e] at hz
      have w1 : ((List.range 2).all fun k => zsgh (m_sg 76) (374 * k) 0 7 && zsgh (m_sg 76) (374 * k + 1) 0 6) = true := by decide +kernel
      have w2 := List.all_eq_true.mp w1 k (List.mem_range.mpr hk)
      rw [Bool.and_eq_true] at w2
      refine jI_cp (s := K) (off := 374 * k) (fun i hi => ?_) (zsgh_ok w2.1 (zK _ (by omega))).2 (zsgh_ok w2.2 (zK _ (by omega))).2 (q6 k hk hz)
      rw [zcpy_at, if_neg (by omega)]
theorem m_rst_H (L : Nat) (xs : Nat → Int32) (d : Nat) (clv : iv_L) (σ : iv_H) (v : Int32) (hI : zI m_τ m_ty σ) (hJ : m_Jb σ) (l0 : iv_f1 clv 0 = some (.ref 548)) (l1 : iv_f1 clv 1 = some (.int v)) : zGo L xs (fun r σ' => (((¬ (0 ≤ v.toInt ∧ v.toInt ≤ 1) ∨ ∃ q : Nat, q ≤ 1 ∧ v = Int32.ofNat q ∧ mA σ 568 q = 0) ∧ r = some (.int (Int32.ofNat 0))) ∨ (∃ q : Nat, q ≤ 1 ∧ v = Int32.ofNat q ∧ mA σ 568 q = 1 ∧ r = some (.int (Int32.ofNat 1)))) ∧ zI m_τ m_ty σ' ∧ m_Jb σ' ∧ zFr m_τ [(0, 12, 0), (0, 12, 24), (1, 74, 0), (1, 79, 0)] σ σ') [] (d + 1) 281 0 clv [] σ := by
  obtain ⟨fs, ho, mo, _⟩ := mO_of hI
  obtain ⟨N, gN, zN⟩ := m_iaN hI
  obtain ⟨K, gK, zK⟩ := m_iaK hI
  obtain ⟨Nm, gM⟩ := m_name hI
  obtain ⟨Km, gQ⟩ := m_kname hI
  obtain ⟨Z, gZ, zZ⟩ := m_isk hI
  have hN : mA σ 552 = N := hA_of gN
  have hK : mA σ 556 = K := hA_of gK
  have hZ : mA σ 568 = Z := hA_of gZ
  have h0 := mD_put2 (e2 := .inr (12, fs.set 0 (.int (Int32.ofNat 0)))) ho
  have hI0 := mD_zI hI h0 (m_F0 hI ho)
  have a0 : ∀ {b : Nat}, b ≠ 548 → mA (iv_put σ 548 (.inr (12, fs.set 0 (.int (Int32.ofNat 0))))) b = mA σ b := fun c1 => mD_A (x := none) h0 c1
  obtain ⟨_, q1, q2, q3, q4, q5, q6⟩ := hJ
  rw [hK, hZ] at q6
  rw [hZ]
  refine g_rst l0 ho mo l1 gN gK gM gQ gZ zZ (fun hv => ⟨.inl ⟨hv, rfl⟩, hI0, ?_, mD_zFf ho h0 rfl⟩) (fun q hq hv hz σ1 σ2 h1 h2 => ⟨.inr ⟨q, hq, hv, hz, rfl⟩, ?_⟩)
  · exact m_Jmk (n := 0) h0.2.1 (a0 (by decide)) (a0 (by decide)) ((a0 (by decide)).trans hK) (a0 (by decide)) ((a0 (by decide)).trans hZ) (a0 (by decide)) (a0 (by decide)) (mF_ne ho h0.2.1 (by decide)) ⟨q1, q2, q3, q4, q5, q6⟩
  · have gN0 := mD_n h0 (by decide) gN
    have gM1 := mD_n h1 (by decide) (mD_n h0 (by decide) gM)
    have ho2 := mD_n h2 (by decide) (mD_n h1 (by decide) h0.2.1)
    have h3 := mD_put2 (e2 := .inr (12, (fs.set 0 (.int (Int32.ofNat 0))).set 24 (.int (Int32.ofNat 0)))) ho2
    have hI1 := mD_zI hI0 h1 (m_ze (t := 74) (k := 0) rfl (zcpk_ok (m_cpKN hq) zK zN (by omega)))
    have hI2 := mD_zI hI1 h2 (m_zj (k := 0) rfl)
    have hI3 := mD_zI hI2 h3 (m_zo hI2 ho2 (lo := 0) (hi := 8) rfl (by decide) (by decide))
    refine ⟨hI3, ?_, zFr_tr (fun _ h => h) (mD_zFf ho h0 rfl) (zFr_tr (fun _ h => h) (mD_zFr gN0 h1 rfl) (zFr_tr (fun _ h => h) (mD_zFr gM1 h2 rfl) (mD_zFf ho2 h3 rfl)))⟩
    have a : ∀ {b : Nat}, b ≠ 552 → b ≠ 562 → b ≠ 548 → mA (iv_put σ2 548 (.inr (12, (fs.set 0 (.int (Int32.ofNat 0))).set 24 (.int (Int32.ofNat 0))))) b = mA σ b := fun c1 c2 c4 => (((mD_A (x := none) h3 c4).trans (mD_A (x := none) h2 c2)).trans (mD_A (x := none) h1 c1)).trans (a0 c4)
    have hN3 : mA (iv_put σ2 548 (.inr (12, (fs.set 0 (.int (Int32.ofNat 0))).set 24 (.int (Int32.ofNat 0))))) 552 = va_cpy K N (374 * q) 0 374 := ((mD_A (x := none) h3 (by decide)).trans (mD_A (x := none) h2 (by decide))).trans (mD_As h1)
    have w1 : ((List.range 2).all fun k => zsgh (m_sg 76) (374 * k) 0 7 && zsgh (m_sg 76) (374 * k + 1) 0 6) = true := by decide +kernel
    have w2 := List.all_eq_true.mp w1 q (List.mem_range.mpr (by omega))
    rw [Bool.and_eq_true] at w2
    have ji : jI (va_cpy K N (374 * q) 0 374) 0 := jI_cp (s := K) (off := 374 * q) (fun i hi => by
      rw [zcpy_at, if_pos (by omega)]
      congr 1
      omega) (zsgh_ok w2.1 (zK _ (by omega))).2 (zsgh_ok w2.2 (zK _ (by omega))).2 (q6 q (by omega) hz)
    exact m_Jmk (n := 0) h3.2.1 hN3 (a (by decide) (by decide) (by decide)) ((a (by decide) (by decide) (by decide)).trans hK) (a (by decide) (by decide) (by decide)) ((a (by decide) (by decide) (by decide)).trans hZ) (a (by decide) (by decide) (by decide)) (a (by decide) (by decide) (by decide)) ((mF_set h3.2.1 (by rw [List.length_set]; have := mo.1; omega)).trans rfl) ⟨ji, q2, q3, fun r hr => (by omega), fun r hr => (by have hr : (r : Int) < 0 := hr; omega), q6⟩
