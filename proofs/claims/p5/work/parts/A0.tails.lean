/-! ===== the reference: odds and the book, from what lies aside on ===== -/
theorem m_orB_ok {J : iv_H → Prop} (hq : ∀ σ, J σ → m_J σ) {M pc : Nat} {g : zA → Option (List zA)} (h : m_orB M pc = some g) : zO_ok m_τ m_ty J g := by
  unfold m_orB at h
  simp only [Bool.cond_eq_ite] at h
  split at h
  · cases h
    exact zO_mono hq m_row_ok
  · split at h
    · cases h
      exact zO_mono hq m_row0_ok
    · exact m_or_ok (fun σ hj => ⟨_, hq σ hj⟩) h
/-- a property that the stores of a book leave -/
def m_Pq (Q : iv_H → Prop) : Prop := m_Ps Q ∧ ∀ σ σ', (∀ b, b ≠ 552 → b ≠ 554 → b ≠ 586 → mA σ' b = mA σ b) → mA σ' 552 1 = mA σ 552 1 → Q σ → Q σ'
theorem pA_q : m_Pq pA := ⟨pA_s, fun σ σ' h1 h2 h3 => by
  unfold pA at h3 ⊢
  rw [h1 560 (by decide) (by decide) (by decide), h2]
  exact h3⟩
theorem hT_q : m_Pq hT := ⟨hT_s, fun _ _ _ _ _ => trivial⟩
theorem m_qL {Q : iv_H → Prop} : ∀ σ, mJ (fun σ => pL σ ∧ Q σ) σ → m_J σ := fun _ h => m_JL_iff.mpr ⟨h.1, h.2.1⟩
theorem m_SLJ {Q : iv_H → Prop} (h : m_Pq Q) : zS1_ok m_τ m_ty (mJ (fun σ => pL σ ∧ Q σ)) m_so1 ∧ zS2_ok m_τ m_ty (mJ (fun σ => pL σ ∧ Q σ)) m_so2 := by
  refine ⟨fun ρ A clv clv' cst cst' σ σ' L xs pc pc' h1 h2 h3 h4 h5 => ?_, fun ci j fty ρ A clv clv' cst cst' σ σ' L xs pc pc' h1 h2 h3 h4 h5 => ?_⟩
  · have k := m_JL_iff.mp (m_S1 ρ A clv clv' cst cst' σ σ' L xs pc pc' h1 h2 h3 (m_qL σ h4) h5)
    obtain ⟨v1, v2, _⟩ := m_S1v h1 h2 h5
    exact ⟨k.1, k.2, h.2 σ σ' v1 v2 h4.2.2⟩
  · have k := m_JL_iff.mp (m_S2 ci j fty ρ A clv clv' cst cst' σ σ' L xs pc pc' h1 h2 h3 (m_qL σ h4) h5)
    have hm : ∀ b, mA σ' b = mA σ b := by
      unfold iv_oPF at h5
      split at h5
      · rename_i v a r
        split at h5
        · rename_i c2 fs hg
          cases hb : Nat.beq ci c2 && (iv_fit fty v && Nat.blt j fs.length)
          · rw [hb] at h5; cases h5
          · rw [hb] at h5
            cases h5
            intro b
            by_cases e : b = a
            · subst e
              unfold mA
              rw [iv_gp_s hg, hg]
            · unfold mA
              rw [mD_put0 hg b e]
        · cases h5
      · cases h5
    exact ⟨k.1, k.2, h.2 σ σ' (fun b _ _ _ => hm b) (by rw [hm]) h4.2.2⟩
theorem m_OKT : zOK m_τ m_ty (mJ (fun σ => pL σ ∧ pA σ)) m_ocT := ⟨fun M pc g h => m_orB_ok m_qL h, m_SLJ pA_q, fun M pc q h => by cases h⟩
theorem mt_ao : zCT m_τ m_ty (mJ pA) ma_o_0 := hand_v (fun L xs d lv σ hI hJ l0 => by
  obtain ⟨r, σ', g1, g2, g3, g4, g5, g6, g7, _⟩ := m_tb_H (L := L) (xs := xs) (d := d) (lv := lv) hI hJ.1 hJ.2 l0
  refine ⟨r, σ', g1, g2, g3, ⟨g4, ?_⟩, g5⟩
  unfold pA
  rw [g7 560 (by decide), g6]
  exact hJ.2)
theorem mt_ab : zCT m_τ m_ty (mJ (fun σ => pL σ ∧ pA σ)) ma_b_0 := by
  intro L xs d cas σ ρ hd hI hJ hP
  have hd : 30 ≤ d := hd
  obtain ⟨d', rfl⟩ : ∃ d', d = d' + 1 := ⟨d - 1, by omega⟩
  have l0 := m_this (lo := 0) (hi := 0) hP (i := 0) rfl
  obtain ⟨x, l1, _, b1, b2⟩ := m_intl hP (i := 1) rfl
  obtain ⟨r, σ', g1, rfl, g3, g4, g5⟩ := m_stay_H (L := L) (xs := xs) (d := d') hI hJ l0 l1 b1 b2
  exact ⟨none, σ', g1, g3, g4, g5, ([], []), List.mem_singleton.mpr rfl, ⟨ρ, fun s c h => (by cases h), fun f h => (by cases h), fun i b c h => (by cases h)⟩, fun h => (by cases h), fun _ => rfl⟩
/-- locals alone: any heap -/
theorem zP_heap {γ : Nat → Int} {clv : iv_L} {r : Option Value} {σ σ' : iv_H} {P : zp} {ρ : Nat → Int} (h : zP_ok m_τ γ clv r σ P ρ) (hl : P.1.all (fun q => Nat.beq q.1.1 0) = true) : zP_ok m_τ γ clv r σ' P ρ := by
  refine ⟨h.1, h.2.1, fun i b c hi => ?_⟩
  have h1 := h.2.2 i b c hi
  have h2 := Nat.eq_of_beq_eq_true (List.all_eq_true.mp hl _ (zn_in hi))
  unfold zsrc at h1 ⊢
  have h2 : b.1 = 0 := h2
  rw [h2] at h1 ⊢
  exact h1
/-- an int comes back -/
theorem m_post {J J2 : iv_H → Prop} {c : zct} {σ σ0 : iv_H} {r : Option Value} {σ' : iv_H} {ms : zm} {lo hi : Int} (h : zPost m_τ m_ty J c (fun _ => 0) σ0 r σ') (hx : c.2.2.2.2.2 = [([((3, 0, 0, 0), (0, lo, hi))], [])]) (hJ : J σ' → J2 σ') (hF : zFr m_τ ms σ σ0) (hs : zsubm c.2.2.1 ms = true) : (∃ x : Int32, r = some (.int x)) ∧ zI m_τ m_ty σ' ∧ J2 σ' ∧ zFr m_τ ms σ σ' := by
  obtain ⟨h1, h2, h3, X, h4, ⟨ρX, h5⟩, _⟩ := h
  rw [hx] at h4
  rcases List.mem_singleton.mp h4 with rfl
  obtain ⟨x, g1, y, g2, _⟩ := h5.2.2 0 _ _ rfl
  subst g2
  exact ⟨⟨y, g1⟩, h1, hJ h2, zFr_tr (fun _ h => h) hF (zFr_sub (zsubm_ok hs) h3)⟩
theorem m_odds_H (L : Nat) (xs : Nat → Int32) (d : Nat) (clv : iv_L) (σ : iv_H) (ρ : Nat → Int) (hd : 76 ≤ d) (hI : zI m_τ m_ty σ) (hJ : mJ hT σ) (hP : zP_ok m_τ (fun _ => 0) clv none σ ([((0, 0, 0, 0), (24, 0, 1000)), ((0, 1, 0, 0), (0, 0, 6)), ((0, 2, 0, 0), (0, 1, 30)), ((0, 3, 0, 0), (0, (-2147483648), 2147483647))], []) ρ) : zGo L xs (fun r σ' => (∃ x : Int32, r = some (.int x)) ∧ zI m_τ m_ty σ' ∧ mJ hT σ' ∧ zFr m_τ [(0, 12, 39), (1, 74, 3800374), (1, 78, 0)] σ σ') [] d 257 25 clv [] σ := by
  obtain ⟨d', rfl⟩ : ∃ d', d = d' + 1 := ⟨d - 1, by omega⟩
  have l0 := m_this (lo := 0) (hi := 0) hP (i := 0) rfl
  obtain ⟨fs, ho, mo, _⟩ := mO_of hI
  refine w_A f257_25 l0 ?_
  refine w_call f257_26 (w_args0 ho) rfl ?_
  obtain ⟨r, σ1, g1, rfl, g3, g4, g5, g6, _⟩ := m_lay_H (L := L) (xs := xs) (d := d') (lv := lv_args 0 [.ref 548]) hI hJ.1 rfl
  refine ⟨none, σ1, g1, ?_⟩
  obtain ⟨r2, σ2, u1, u2⟩ := zchkT_ok (t := (29, _)) m_T (m_Jf pA_f) (m_OKS pA_s) (fun k hk => by
    simp only [List.mem_cons, List.not_mem_nil, or_false] at hk
    rcases hk with rfl | rfl
    · exact mt_ao
    · exact mt_88 pA_s) ma_o_k (List.mem_cons_self) rfl L xs (d' + 1) clv σ1 ρ hd g3 ⟨g4, g5⟩ (zP_heap hP rfl)
  exact ⟨r2, σ2, u1, m_post u2 rfl (fun h => ⟨h.1, trivial⟩) (zFr_sub (zsubm_ok (by decide)) g6) (by decide)⟩
theorem m_bk65_H (L : Nat) (xs : Nat → Int32) (d : Nat) (clv : iv_L) (σ : iv_H) (ρ : Nat → Int) (hd : 76 ≤ d) (hI : zI m_τ m_ty σ) (hJ : mJ (fun σ => pL σ ∧ hT σ) σ) (hP : zP_ok m_τ (fun _ => 0) clv none σ ([((0, 0, 0, 0), (24, 0, 1000)), ((0, 1, 0, 0), (0, 0, 1))], []) ρ) : zGo L xs (fun r σ' => (∃ x : Int32, r = some (.int x)) ∧ zI m_τ m_ty σ' ∧ mJ (fun σ => pL σ ∧ hT σ) σ' ∧ zFr m_τ [(0, 12, 24), (0, 12, 43), (1, 74, 3800374), (1, 77, 0), (1, 78, 0), (1, 92, 0)] σ σ') [] d 266 65 clv [] σ := by
  obtain ⟨d', rfl⟩ : ∃ d', d = d' + 1 := ⟨d - 1, by omega⟩
  have l0 := m_this (lo := 0) (hi := 0) hP (i := 0) rfl
  obtain ⟨fs, ho, mo, _⟩ := mO_of hI
  refine w_A f266_65 l0 ?_
  refine w_call f266_66 (w_args0 ho) rfl ?_
  obtain ⟨r, σ1, g1, rfl, g3, g4, g5, g6, g7, g8, g9⟩ := m_lay_H (L := L) (xs := xs) (d := d') (lv := lv_args 0 [.ref 548]) hI hJ.1 rfl
  have hL1 : pL σ1 := by
    refine ⟨⟨fs, g9 fs ho⟩, ?_⟩
    rw [g7 586 (by decide), g7 552 (by decide), g8 42]
    exact hJ.2.1.2
  refine ⟨none, σ1, g1, ?_⟩
  obtain ⟨r2, σ2, u1, u2⟩ := zchkT_ok (t := (69, _)) m_T (m_Jf (m_Psand pL_s pA_s).1) m_OKT (fun k hk => by
    simp only [List.mem_cons, List.not_mem_nil, or_false] at hk
    rcases hk with rfl | rfl | rfl | rfl | rfl | rfl
    · exact mt_ab
    · exact mt_39 (m_Psand pL_s pA_s).1
    · exact mt_38 (m_Psand pL_s pA_s).1
    · exact mt_34 (m_Psand pL_s pA_s).1
    · exact mt_41 (m_Psand pL_s pA_s).1
    · exact mt_48 (m_Psand pL_s pA_s)) ma_b_k (List.mem_cons_self) rfl L xs (d' + 1) clv σ1 ρ hd g3 ⟨g4, hL1, g5⟩ (zP_heap hP rfl)
  exact ⟨r2, σ2, u1, m_post u2 rfl (fun h => ⟨h.1, h.2.1, trivial⟩) (zFr_sub (zsubm_ok (by decide)) g6) (by decide)⟩
