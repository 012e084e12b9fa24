/-! ===== the reference: order, heaps, odds, book, sentence come back ===== -/
theorem m_OKM : zOK m_τ m_ty (mJ hT) m_ocM := by
  refine ⟨fun M pc g h => m_or_ok m_qJ h, m_S0J hT_s, fun M pc q h => ?_⟩
  have h : m_mo M pc = some q := h
  unfold m_mo at h
  simp only [Bool.cond_eq_ite, Bool.and_eq_true] at h
  split at h
  · rename_i hc
    rw [Nat.eq_of_beq_eq_true hc.1, Nat.eq_of_beq_eq_true hc.2]
    cases h
    exact m_trm_ok f233_206 rfl m_heap_H
  · split at h
    · rename_i hc
      rw [Nat.eq_of_beq_eq_true hc.1, Nat.eq_of_beq_eq_true hc.2]
      cases h
      exact m_trm_ok f266_175 rfl m_bk25_H
    · split at h
      · rename_i hc
        rw [Nat.eq_of_beq_eq_true hc.1, Nat.eq_of_beq_eq_true hc.2]
        cases h
        exact m_trm_ok f257_75 rfl m_odds_H
      · split at h
        · rename_i hc
          rw [Nat.eq_of_beq_eq_true hc.1, Nat.eq_of_beq_eq_true hc.2]
          cases h
          exact m_trm_ok f277_112 rfl m_sen_H
        · split at h
          · rename_i hc
            rw [Nat.eq_of_beq_eq_true hc.1, Nat.eq_of_beq_eq_true hc.2]
            cases h
            exact m_trm_ok f191_109 rfl m_ord_H
          · cases h
theorem mt_28 : zCT m_τ m_ty (mJ hT) mc_28 := zchk_ok m_T (m_Jf hT_s.1) m_OKM (fun k hk => by
  simp only [List.mem_cons, List.not_mem_nil, or_false] at hk
  rcases hk with rfl | rfl | rfl | rfl
  · exact mt_4 hT_s.1
  · exact mt_6 hT_s.1
  · exact mt_7
  · exact mt_27) mk_28
theorem mt_54 : zCT m_τ m_ty (mJ hT) mc_54 := zchk_ok m_T (m_Jf hT_s.1) m_OKM (fun k hk => by
  simp only [List.mem_cons, List.not_mem_nil, or_false] at hk
  rcases hk with rfl
  exact mt_5 hT_s.1) mk_54
theorem mt_90 : zCT m_τ m_ty (mJ hT) mc_90 := zchk_ok m_T (m_Jf hT_s.1) m_OKM (fun k hk => by cases hk) mk_90
theorem mt_91 : zCT m_τ m_ty (mJ hT) mc_91 := zchk_ok m_T (m_Jf hT_s.1) m_OKM (fun k hk => by
  simp only [List.mem_cons, List.not_mem_nil, or_false] at hk
  rcases hk with rfl
  exact mt_6 hT_s.1) mk_91
theorem mt_158 : zCT m_τ m_ty (mJ hT) mc_158 := zchk_ok m_T (m_Jf hT_s.1) m_OKM (fun k hk => by
  simp only [List.mem_cons, List.not_mem_nil, or_false] at hk
  rcases hk with rfl | rfl | rfl
  · exact mt_3 hT_s.1
  · exact mt_6 hT_s.1
  · exact mt_157) mk_158
