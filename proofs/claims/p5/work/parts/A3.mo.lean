/-! ===== the reference: the book; steps by hand are right ===== -/
theorem m_OKL : zOK m_τ m_ty (mJ (fun σ => pL σ ∧ hT σ)) m_ocL := by
  refine ⟨fun M pc g h => m_orB_ok m_qL h, m_SLJ hT_q, fun M pc q h => ?_⟩
  have h : m_moL M pc = some q := h
  unfold m_moL at h
  simp only [Bool.cond_eq_ite, Bool.and_eq_true] at h
  split at h
  · rename_i hc
    rw [Nat.eq_of_beq_eq_true hc.1, Nat.eq_of_beq_eq_true hc.2]
    cases h
    first
      | exact m_find_ok
      | exact m_trm_ok f266_175 rfl m_bk65_H
  · split at h
    · rename_i hc
      rw [Nat.eq_of_beq_eq_true hc.1, Nat.eq_of_beq_eq_true hc.2]
      cases h
      first
        | exact m_find_ok
        | exact m_trm_ok f266_175 rfl m_bk65_H
    · cases h
