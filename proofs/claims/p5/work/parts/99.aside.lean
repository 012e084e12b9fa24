/-! ===== the reference: what lies aside, rows of a book ===== -/
def pA (σ : iv_H) : Prop := jS (mA σ 560) 11 (mA σ 552 1).toInt
def pL (σ : iv_H) : Prop := (∃ fs, iv_get σ 548 = some (.inr (12, fs))) ∧ jL (mA σ 586) (mF σ 42) (mA σ 552 1).toInt
theorem m_JL_iff {σ : iv_H} : m_J σ ↔ m_Jb σ ∧ pL σ := by
  constructor
  · intro h
    exact ⟨⟨h.1, h.2.1, h.2.2.1, h.2.2.2.1, fun r hr => (by omega), h.2.2.2.2.2⟩, h.1, h.2.2.2.2.1⟩
  · intro h
    exact ⟨h.1.1, h.1.2.1, h.1.2.2.1, h.1.2.2.2.1, h.2.2, h.1.2.2.2.2.2⟩
theorem pA_f : m_Pf pA := by
  intro ms σ σ' hs hF h
  unfold pA at h ⊢
  rw [hA_fr hF (a := 560) (m_sfa (.inl (by decide)) hs), hA_fr hF (a := 552) (m_sfa (.inl (by decide)) hs)]
  exact h
theorem pL_f : m_Pf pL := by
  intro ms σ σ' hs hF h
  obtain ⟨⟨fs, ho⟩, h⟩ := h
  obtain ⟨k1, k2⟩ := hF_fr hF ho (m_sff (.inl rfl) hs)
  refine ⟨k2, ?_⟩
  rw [hA_fr hF (a := 586) (m_sfa (.inr (.inr (.inl rfl))) hs), hA_fr hF (a := 552) (m_sfa (.inl (by decide)) hs), k1]
  exact h
theorem m_so01 {A : zA} (h : m_so0 A = true) : m_so1 A = true := by
  unfold m_so0 at h
  split at h
  · rename_i w ix ar rs hst
    split at h
    · rename_i t ht
      have e : m_so1 A = (bif Nat.beq t 74 then m_soN A ix w else bif Nat.beq t 75 then m_soR A ix w else bif Nat.beq t 91 then m_soL A ix else false) := by
        unfold m_so1
        rw [hst]
        dsimp only
        rw [ht]
      rw [e]
      cases h74 : Nat.beq t 74
      · rw [h74] at h
        simp only [cond_false] at h ⊢
        cases h75 : Nat.beq t 75
        · rw [h75] at h; cases h
        · rw [h75] at h
          exact h
      · rw [h74] at h
        simp only [cond_true] at h ⊢
        unfold m_soN0 at h
        unfold m_soN
        simp only [Bool.or_eq_true, Bool.and_eq_true] at h ⊢
        rcases h with h | h | ⟨h1, h2 | h2 | h2⟩
        · exact .inl h
        · exact .inr (.inl h)
        · exact .inr (.inr ⟨h1, .inl h2⟩)
        · exact .inr (.inr ⟨h1, .inr (.inl h2)⟩)
        · exact .inr (.inr ⟨h1, .inr (.inr (.inl h2))⟩)
    · cases h
  · cases h
/-- what such a store leaves -/
theorem m_S1v {ρ : Nat → Int} {A : zA} {clv clv' : iv_L} {cst cst' : List Value} {σ σ' : iv_H} {L : Nat} {xs : Nat → Int32} {pc pc' : Nat} (h : m_so1 A = true) (hA : zA_ok m_τ m_ty ρ A clv cst σ) (hs : iv_oIst L xs pc clv cst σ = some (pc', clv', cst', σ')) : (∀ b, b ≠ 552 → b ≠ 554 → b ≠ 586 → mA σ' b = mA σ b) ∧ mA σ' 552 1 = mA σ 552 1 ∧ (m_so0 A = true → mA σ' 586 = mA σ 586) ∧ ∀ fs, iv_get σ 548 = some (.inr (12, fs)) → iv_get σ' 548 = some (.inr (12, fs)) := by
  have h0 := h
  unfold m_so1 at h
  split at h
  · rename_i w ix ar rs hst
    split at h
    · rename_i t ht
      have ht3 : t = 74 ∨ t = 75 ∨ t = 91 := by
        cases h74 : Nat.beq t 74
        · rw [h74] at h
          simp only [cond_false] at h
          cases h75 : Nat.beq t 75
          · rw [h75] at h
            simp only [cond_false] at h
            cases h91 : Nat.beq t 91
            · rw [h91] at h; cases h
            · exact .inr (.inr (Nat.eq_of_beq_eq_true h91))
          · exact .inr (.inl (Nat.eq_of_beq_eq_true h75))
        · exact .inl (Nat.eq_of_beq_eq_true h74)
      obtain ⟨i, n, x, f, ei, ex, hg, rfl, w1, w2⟩ := m_view hA hst ht (by omega) hs
      have hm := hA_st (g := upd f i x) hg
      refine ⟨fun b b1 b2 b3 => ?_, ?_, fun h9 => ?_, fun fs ho => (hF_st (g := upd f i x) hg ho).1⟩
      · rw [hm, if_neg (by omega)]
      · rw [hm]
        rcases ht3 with rfl | rfl | rfl
        · rw [if_pos rfl]
          have hg : iv_get σ 552 = some (.inl (0, n, .inl f)) := hg
          rw [hA_of hg, upd_at, if_neg]
          have h : m_soN A ix w = true := h
          unfold m_soN at h
          simp only [Bool.or_eq_true, Bool.and_eq_true] at h
          rcases h with h | h | ⟨h, _⟩
          · have := m_in_ok hA.1 w1 h; omega
          · have := m_in_ok hA.1 w1 h; omega
          · have := m_in_ok hA.1 w1 h; omega
        · rw [if_neg (by decide)]
        · rw [if_neg (by decide)]
      · rw [hm, if_neg]
        intro e
        have e : t = 91 := by omega
        subst e
        unfold m_so0 at h9
        rw [hst] at h9
        simp only [ht] at h9
        cases h9
    · cases h
  · cases h
theorem pA_s : m_Ps pA := ⟨pA_f, fun ρ A clv clv' cst cst' σ σ' L xs pc pc' h1 h2 _ _ h5 h6 => by
  obtain ⟨k1, k2, _⟩ := m_S1v (m_so01 h1) h2 h6
  unfold pA at h5 ⊢
  rw [k1 560 (by decide) (by decide) (by decide), k2]
  exact h5⟩
theorem pL_s : m_Ps pL := ⟨pL_f, fun ρ A clv clv' cst cst' σ σ' L xs pc pc' h1 h2 _ _ h5 h6 => by
  obtain ⟨k1, k2, k3, k4⟩ := m_S1v (m_so01 h1) h2 h6
  obtain ⟨⟨fs, ho⟩, h5⟩ := h5
  have ho' := k4 fs ho
  refine ⟨⟨fs, ho'⟩, ?_⟩
  have e : mF σ' 42 = mF σ 42 := by
    unfold mF
    rw [ho, ho']
  rw [k3 h1, k2, e]
  exact h5⟩
theorem m_Psand {P Q : iv_H → Prop} (h1 : m_Ps P) (h2 : m_Ps Q) : m_Ps (fun σ => P σ ∧ Q σ) := ⟨m_Pand h1.1 h2.1, fun ρ A clv clv' cst cst' σ σ' L xs pc pc' a1 a2 a3 a4 a5 a6 => ⟨h1.2 ρ A clv clv' cst cst' σ σ' L xs pc pc' a1 a2 a3 a4 a5.1 a6, h2.2 ρ A clv clv' cst cst' σ σ' L xs pc pc' a1 a2 a3 a4 a5.2 a6⟩⟩
/-- now from 38 on as s says, from off on -/
theorem m_nowcp {σ σ2 : iv_H} {N s : Nat → Int32} {off lS : Nat} {sg : List (Nat × Nat × Int × Int)} (hI : zI m_τ m_ty σ) (hJ : m_Jb σ) (gN : iv_get σ 552 = some (.inl (0, 374, .inl N))) (h2 : mD σ σ2 552 (.inl (0, 374, .inl (va_cpy s N off 38 94)))) (zN : ∀ i, i < 374 → zseg (m_sg 74) i (N i).toInt) (zs : ∀ i, i < lS → zseg sg i (s i).toInt) (hc : zcpk sg (m_sg 74) (off : Nat) (38 : Nat) (94 : Nat) = true) (hl : off + 94 ≤ lS) (hr : jS s (off + 11) (N 1).toInt) : zI m_τ m_ty σ2 ∧ m_Jb σ2 ∧ zFr m_τ [(1, 74, 3800374)] σ σ2 ∧ mA σ2 552 1 = N 1 := by
  have hN : mA σ 552 = N := hA_of gN
  have hI2 := mD_zI hI h2 (m_ze (t := 74) (k := 0) rfl (zcpk_ok hc zs zN hl))
  have a : ∀ {b : Nat}, b ≠ 552 → mA σ2 b = mA σ b := fun c1 => mD_A (x := none) h2 c1
  have lo : ∀ {i : Nat}, i < 38 ∨ 132 ≤ i → va_cpy s N off 38 94 i = N i := fun hi => by rw [zcpy_at, if_neg (by omega)]
  obtain ⟨⟨fs, ho⟩, ⟨⟨j1, j2⟩, j3, j4⟩, q2, q3, q4, q5, q6⟩ := hJ
  obtain ⟨⟨b1, b2⟩, b3, b4⟩ := m_N hI
  rw [hN] at j1 j2 j3 j4 q4 q5 b1 b2 b3 b4
  refine ⟨hI2, m_Jmk (n := 0) (mD_n h2 (by decide) ho) (mD_As h2) (a (by decide)) (a (by decide)) (a (by decide)) (a (by decide)) (a (by decide)) (a (by decide)) (mD_F h2 (by decide) 24) ⟨⟨⟨fun g hg => ?_, fun b hb => ?_⟩, fun b hb => ?_, fun k hk => ?_⟩, q2, q3, fun r hr => (by omega), ?_, q6⟩, mD_zFrN (b := 3800374) gN h2 rfl (fun i hi => lo (by omega)), ?_⟩
  · rw [lo (by omega)] at hg
    have hg2 : (g : Int) < (N 1).toInt := hg
    rw [lo (by omega)]
    exact j1 g hg
  · rw [lo (by omega)] at hb
    rw [lo (by omega)]
    exact j2 b hb
  · rw [lo (i := 0 + 1) (by omega), zcpy_at, if_pos (by omega)]
    rw [show off + (0 + 49 + b - 38) = off + 11 + b by omega]
    exact hr b hb
  · rw [lo (by omega), lo (by omega), lo (by omega)]
    exact j4 k hk
  · rw [lo (by omega)]
    exact q5
  · rw [mD_As h2, lo (by omega)]
theorem m_asN {σ : iv_H} (hI : zI m_τ m_ty σ) : ∃ A N, iv_get σ 560 = some (.inl (0, 94, .inl A)) ∧ iv_get σ 552 = some (.inl (0, 374, .inl N)) ∧ (∀ i, i < 94 → zseg (m_sg 78) i (A i).toInt) ∧ ∀ i, i < 374 → zseg (m_sg 74) i (N i).toInt := by
  obtain ⟨N, gN, zN⟩ := m_iaN hI
  obtain ⟨A, gA, zA⟩ := m_iaA hI
  exact ⟨A, N, gA, gN, zA, zN⟩
theorem m_tb_H {L : Nat} {xs : Nat → Int32} {d : Nat} {lv : iv_L} {σ : iv_H} (hI : zI m_τ m_ty σ) (hJ : m_Jb σ) (hp : pA σ) (l0 : iv_f1 lv 0 = some (.ref 548)) : zGo L xs (fun r σ' => r = none ∧ zI m_τ m_ty σ' ∧ m_Jb σ' ∧ zFr m_τ [(1, 74, 3800374)] σ σ' ∧ mA σ' 552 1 = mA σ 552 1 ∧ (∀ b, b ≠ 552 → mA σ' b = mA σ b) ∧ (∀ j, mF σ' j = mF σ j) ∧ ∀ fs, iv_get σ 548 = some (.inr (12, fs)) → iv_get σ' 548 = some (.inr (12, fs))) [] d 256 0 lv [] σ := by
  obtain ⟨fs, ho, mo, _⟩ := mO_of hI
  obtain ⟨A, N, gA, gN, zA, zN⟩ := m_asN hI
  have hN : mA σ 552 = N := hA_of gN
  have hA : mA σ 560 = A := hA_of gA
  unfold pA at hp
  rw [hN, hA] at hp
  refine g_tb l0 ho mo gN gA (fun σ2 h2 => ⟨rfl, ?_⟩)
  obtain ⟨k1, k2, k3, k4⟩ := m_nowcp (sg := m_sg 78) hI hJ gN h2 zN zA (by decide +kernel) (by decide) hp
  exact ⟨k1, k2, k3, by rw [hN]; exact k4, fun b hb => mD_A (x := none) h2 hb, fun j => mD_F h2 (by decide) j, fun fs2 h9 => mD_n h2 (by decide) h9⟩
theorem m_lay_H {L : Nat} {xs : Nat → Int32} {d : Nat} {lv : iv_L} {σ : iv_H} (hI : zI m_τ m_ty σ) (hJ : m_Jb σ) (l0 : iv_f1 lv 0 = some (.ref 548)) : zGo L xs (fun r σ' => r = none ∧ zI m_τ m_ty σ' ∧ m_Jb σ' ∧ pA σ' ∧ zFr m_τ [(1, 78, 0)] σ σ' ∧ (∀ b, b ≠ 560 → mA σ' b = mA σ b) ∧ (∀ j, mF σ' j = mF σ j) ∧ ∀ fs, iv_get σ 548 = some (.inr (12, fs)) → iv_get σ' 548 = some (.inr (12, fs))) [] d 255 0 lv [] σ := by
  obtain ⟨fs, ho, mo, _⟩ := mO_of hI
  obtain ⟨A, N, gA, gN, zA, zN⟩ := m_asN hI
  have hN : mA σ 552 = N := hA_of gN
  refine g_lay l0 ho mo gN gA (fun σ2 h2 => ⟨rfl, ?_⟩)
  have hI2 := mD_zI hI h2 (m_ze (t := 78) (k := 0) rfl (zcpk_ok (by decide +kernel) zN zA (by decide)))
  have a : ∀ {b : Nat}, b ≠ 560 → mA σ2 b = mA σ b := fun c1 => mD_A (x := none) h2 c1
  have ho2 := mD_n h2 (by decide) ho
  refine ⟨hI2, m_Je ⟨fs, ho2⟩ (a (by decide)) (a (by decide)) (a (by decide)) (a (by decide)) (a (by decide)) (a (by decide)) (a (by decide)) rfl (mD_F h2 (by decide) 24) hJ, ?_, mD_zFr gA h2 rfl, fun b hb => a hb, fun j => mD_F h2 (by decide) j, fun fs2 h9 => mD_n h2 (by decide) h9⟩
  have j3 := hJ.2.1.2.1
  rw [hN] at j3
  unfold pA
  rw [mD_As h2, a (by decide), hN]
  intro b hb
  rw [zcpy_at, if_pos (by omega), show 38 + (11 + b - 0) = 0 + 49 + b by omega]
  exact j3 b hb
/-- stay -/
theorem m_stay_H {L : Nat} {xs : Nat → Int32} {d : Nat} {lv : iv_L} {σ : iv_H} {bb : Int32} (hI : zI m_τ m_ty σ) (hJ : mJ (fun σ => pL σ ∧ pA σ) σ) (l0 : iv_f1 lv 0 = some (.ref 548)) (l1 : iv_f1 lv 1 = some (.int bb)) (hb1 : 0 ≤ bb.toInt) (hb2 : bb.toInt ≤ 1) : zGo L xs (fun r σ' => r = none ∧ zI m_τ m_ty σ' ∧ mJ (fun σ => pL σ ∧ pA σ) σ' ∧ zFr m_τ [(0, 12, 24), (1, 74, 3800374), (1, 77, 0), (1, 78, 0)] σ σ') [] (d + 1) 267 0 lv [] σ := by
  obtain ⟨fs, ho, mo, _⟩ := mO_of hI
  obtain ⟨A, N, gA, gN, zA, zN⟩ := m_asN hI
  have hN : mA σ 552 = N := hA_of gN
  have hA : mA σ 560 = A := hA_of gA
  obtain ⟨hJb, ⟨hL1, hL2⟩, hp⟩ := hJ
  unfold pA at hp
  rw [hN, hA] at hp
  have j3 := hJb.2.1.2.1
  rw [hN] at j3
  refine w_K f267_0 ?_
  refine w_IS f267_1 ?_
  refine l267_2 (σ := σ) (N := N) (A := A) (b := bb) ho mo 94 0 rfl (iv_d1 2 lv) σ (lv_d l0 (by decide)) (lv_di l1 (by decide)) (by rw [cp_0, cp_0]; exact ⟨⟨rfl, rfl⟩, gN, gA, fun _ _ _ => rfl⟩) (fun lv2 σ2 m0 m1 h2 => ?_)
  have hmid : mD σ (iv_put σ 552 (.inl (0, 374, .inl (va_cpy A N 0 38 94)))) 552 (.inl (0, 374, .inl (va_cpy A N 0 38 94))) := mD_put2 gN
  obtain ⟨k1, k2, k3, k4⟩ := m_nowcp (sg := m_sg 78) hI hJb gN hmid zN zA (by decide +kernel) (by decide) hp
  have hsec : mD (iv_put σ 552 (.inl (0, 374, .inl (va_cpy A N 0 38 94)))) σ2 560 (.inl (0, 94, .inl (va_cpy N A 38 0 94))) := ⟨⟨h2.1.1.trans hmid.1.1.symm, h2.1.2.trans hmid.1.2.symm⟩, h2.2.2.1, fun a ha => by
    by_cases e : a = 552
    · subst e
      rw [h2.2.1, hmid.2.1]
    · rw [h2.2.2.2 a e ha, hmid.2.2 a e]⟩
  have gAm := mD_n hmid (by decide) gA
  have hI2 := mD_zI k1 hsec (m_ze (t := 78) (k := 0) rfl (zcpk_ok (by decide +kernel) zN zA (by decide)))
  have ho2 : iv_get σ2 548 = some (.inr (12, fs)) := (h2.2.2.2 548 (by decide) (by decide)).trans ho
  have a2 : ∀ {b : Nat}, b ≠ 560 → mA σ2 b = mA (iv_put σ 552 (.inl (0, 374, .inl (va_cpy A N 0 38 94)))) b := fun c1 => mD_A (x := none) hsec c1
  have hJ2 : m_Jb σ2 := m_Je ⟨fs, ho2⟩ (a2 (by decide)) (a2 (by decide)) (a2 (by decide)) (a2 (by decide)) (a2 (by decide)) (a2 (by decide)) (a2 (by decide)) rfl (mD_F hsec (by decide) 24) k2
  have eK : mA σ2 552 1 = N 1 := by rw [a2 (by decide)]; exact k4
  have eL : mA σ2 586 = mA σ 586 := (a2 (by decide)).trans (mD_A (x := none) hmid (by decide))
  have eF : mF σ2 42 = mF σ 42 := (mD_F hsec (by decide) 42).trans (mD_F hmid (by decide) 42)
  have hL3 : pL σ2 := by
    refine ⟨⟨fs, ho2⟩, ?_⟩
    rw [eL, eF, eK]
    rw [hN] at hL2
    exact hL2
  have hp2 : pA σ2 := by
    unfold pA
    rw [mD_As hsec, eK]
    intro b hb
    rw [zcpy_at, if_pos (by omega), show 38 + (11 + b - 0) = 0 + 49 + b by omega]
    exact j3 b hb
  have hF2 : zFr m_τ [(0, 12, 24), (1, 74, 3800374), (1, 77, 0), (1, 78, 0)] σ σ2 := zFr_tr (fun _ h => h) (mD_zFrN (b := 3800374) gN hmid rfl (fun i hi => by rw [zcpy_at, if_neg (by omega)])) (mD_zFr gAm hsec rfl)
  refine w_I f267_46 m1 ?_
  have hbb : bb = Int32.ofNat 0 ∨ bb = Int32.ofNat 1 := by
    have : bb.toInt = 0 ∨ bb.toInt = 1 := by omega
    rcases this with e | e
    · exact .inl (Int32.toInt_inj.mp (by rw [e]; rfl))
    · exact .inr (Int32.toInt_inj.mp (by rw [e]; rfl))
  rcases hbb with rfl | rfl
  · refine w_ifF f267_47 rfl rfl ?_
    exact w_ret0 f267_50 ⟨rfl, hI2, ⟨hJ2, hL3, hp2⟩, hF2⟩
  · refine w_ifT f267_47 rfl rfl ?_
    refine w_A f267_51 m0 ?_
    refine w_call f267_52 (w_args0 ho2) rfl ?_
    obtain ⟨r3, σ3, g1, rfl, g3, g4, g5⟩ := m_snap_H L xs d (lv_args 0 [.ref 548]) σ2 hI2 hJ2 rfl
    refine ⟨none, σ3, g1, ?_⟩
    obtain ⟨fs3, ho3⟩ := g4.1
    have f1 : ∀ {t b : Nat}, m_τ b = t → t ≠ 77 → mA σ3 b = mA σ2 b := fun {t b} e1 e2 => hA_fr g5 (by
      rw [e1]
      show zmt t [(0, 12, 24), (1, 77, 0)] = false
      unfold zmt
      show (bif Nat.beq 0 1 && _ then true else zmt t [(1, 77, 0)]) = false
      unfold zmt
      have : Nat.beq 77 t = false := by
        cases hc : Nat.beq 77 t with
        | false => rfl
        | true => exact absurd (Nat.eq_of_beq_eq_true hc).symm e2
      rw [this]
      rfl)
    have f2 : mF σ3 42 = mF σ2 42 := (hF_fr g5 ho2 rfl).1
    have hp3 : pA σ3 := by
      unfold pA
      rw [f1 (b := 560) rfl (by decide), f1 (b := 552) rfl (by decide)]
      exact hp2
    have hL4 : pL σ3 := by
      refine ⟨⟨fs3, ho3⟩, ?_⟩
      rw [f1 (b := 586) rfl (by decide), f1 (b := 552) rfl (by decide), f2]
      exact hL3.2
    have hF3 : zFr m_τ [(0, 12, 24), (1, 74, 3800374), (1, 77, 0), (1, 78, 0)] σ σ3 := zFr_tr (fun _ h => h) hF2 (zFr_sub (zsubm_ok (by decide)) g5)
    show zGo L xs _ [] (d + 1) 267 (52 + 3) lv2 [] σ3
    refine w_A f267_55 m0 ?_
    refine w_call f267_56 (w_args0 ho3) rfl ?_
    obtain ⟨r4, σ4, u1, rfl, u3, u4, u5, u6, u7, u8, u9⟩ := m_tb_H (L := L) (xs := xs) (d := d) (lv := lv_args 0 [.ref 548]) g3 g4 hp3 rfl
    refine ⟨none, σ4, u1, ?_⟩
    show zGo L xs _ [] (d + 1) 267 (56 + 3) lv2 [] σ4
    refine w_ret0 f267_59 ⟨rfl, u3, ⟨u4, ⟨⟨fs3, u9 fs3 ho3⟩, ?_⟩, ?_⟩, zFr_tr (fun _ h => h) hF3 (zFr_sub (zsubm_ok (by decide)) u5)⟩
    · rw [u7 586 (by decide), u8 42, u6]
      exact hL4.2
    · unfold pA
      rw [u7 560 (by decide), u6]
      exact hp3
