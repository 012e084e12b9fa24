/-! ===== a frame's run up to a place; runs that don't look at the script ===== -/
def iv_id (f : iv_F) : Prop := ∀ (xs0 : Nat → Int32) (L : Nat) (xs : Nat → Int32) (pc : Nat) (lv : iv_L) (st : List Value) (σ : iv_H) (y : Nat × iv_L × List Value × iv_H), f 0 xs0 pc lv st σ = some y → f L xs pc lv st σ = some y
theorem iv_id_Il : iv_id iv_oIl := by
  intro xs0 L xs pc lv st σ y h
  unfold iv_oIl at h ⊢
  split at h
  · rename_i i a r
    cases h1 : Nat.beq a 1 <;> rw [h1] at h <;> simp only [cond_true, cond_false] at h ⊢
    · exact h
    · have h0 : iv_in i 0 = false := by
        unfold iv_in
        cases decide (i < 0) <;> rfl
      rw [h0] at h
      cases h
  · cases h
theorem iv_id_Len : iv_id iv_oLen := by
  intro xs0 L xs pc lv st σ y h
  unfold iv_oLen at h ⊢
  split at h
  · rename_i a r
    cases h1 : Nat.beq a 1 <;> rw [h1] at h <;> simp only [cond_true, cond_false] at h ⊢
    · exact h
    · cases h
  · cases h
set_option maxHeartbeats 4000000 in
theorem iv_op_id {m0 own nL : Nat} {ret : Option FieldType} {i : Instr} {f : iv_F} (hop : iv_op m0 own nL ret i = .inl f) : iv_id f := by
  have tr : ∀ {g : iv_F}, (Sum.inl g : iv_O) = .inl f → (∀ (xs0 : Nat → Int32) (L : Nat) (xs : Nat → Int32) (pc : Nat) (lv : iv_L) (st : List Value) (σ : iv_H), g 0 xs0 pc lv st σ = g L xs pc lv st σ) → iv_id f := fun {g} e hg => by
    rw [← Sum.inl.inj e]
    intro xs0 L xs pc lv st σ y h
    rw [← hg xs0 L xs pc lv st σ]
    exact h
  cases i
  case iaload => rw [← Sum.inl.inj (show (Sum.inl iv_oIl : iv_O) = .inl f from hop)]; exact iv_id_Il
  case arraylength => rw [← Sum.inl.inj (show (Sum.inl iv_oLen : iv_O) = .inl f from hop)]; exact iv_id_Len
  all_goals simp only [iv_op, iv_st, iv_ofd, iv_opf, iv_ogs, iv_onw, iv_onq, iv_onm, iv_oss, iv_osp, iv_ovi, iv_oki, iv_okj, Bool.cond_eq_ite] at hop
  all_goals (repeat' split at hop)
  all_goals first
    | (cases hop; done)
    | exact tr hop (fun _ _ _ _ _ _ _ => rfl)
theorem iv_run_id (L : Nat) (xs0 xs : Nat → Int32) : ∀ (n d M pc : Nat) (lv : iv_L) (st : List Value) (σ : iv_H) (y : Option Value × iv_H), iv_run 0 xs0 n d M pc lv st σ = some y → M ≤ iv_n → iv_run L xs n d M pc lv st σ = some y := by
  intro n
  induction n with
  | zero => intro d M pc lv st σ y h; cases h
  | succ n ih =>
    intro d M pc lv st σ y h hM
    rw [iv_run_s] at h ⊢
    unfold iv_step at h ⊢
    split at h
    · rename_i o ho
      obtain ⟨i, len, hd, hln, hop, hlx⟩ := iv_fetch (iv_cok_any hM) (iv_lw_any hM) ho
      unfold iv_do at h ⊢
      split at h
      · rename_i f
        unfold iv_go1 at h
        split at h
        · rename_i pc' lv' st' σ1 hf
          have hf2 := iv_op_id hop xs0 L xs pc lv st σ _ hf
          rw [iv_fp_eq] at h
          unfold iv_go1
          simp only [hf2]
          rw [iv_fp_eq]
          exact ih _ _ _ _ _ _ _ h hM
        · cases h
      · exact h
      · rename_i kind mm nn ci
        have hmm : mm < iv_n := by
          obtain ⟨kx, z9, h9, hcall⟩ := iv_call_of hop
          rcases hcall with ⟨-, -, q⟩ | ⟨-, -, q⟩ | ⟨-, -, q⟩ | ⟨-, -, q⟩
          all_goals
            have hk := iv_lk_ok (iv_own_any hM) q
            simp only [iv_lok, Bool.and_eq_true] at hk
            exact iv_blt hk.1
        unfold iv_cl at h ⊢
        split at h
        · rename_i as rest d' hq
          simp only [Bool.cond_eq_ite] at h ⊢
          split at h
          · rename_i hcs
            rw [if_pos hcs]
            split at h
            · rename_i r1 σ1 hrun
              have hrun2 := ih _ _ _ _ _ _ _ hrun (Nat.le_of_lt hmm)
              simp only [hrun2]
              rw [iv_fp_eq] at h ⊢
              exact ih _ _ _ _ _ _ _ h hM
            · cases h
          · cases h
        · cases h
    · cases h
