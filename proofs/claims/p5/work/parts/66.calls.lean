/-! ===== frames, arguments ===== -/
section ZCL
variable {τ : Nat → Nat} {ty : Nat → Option zt} {ρ γ : Nat → Int} {A : zA} {G : List (Nat × zv)} {clv : iv_L} {cst : List Value} {σ : iv_H}
theorem zld_ok (hA : zA_ok τ ty ρ A clv cst σ) (hI : zI τ ty σ) {o : zv} {ci j : Nat} {A' : zA} (hw : zl_wf A.1.1.length o.2.2 = true) (h : zld ty A o ci j = some A') : ∃ ρ', zA_ok τ ty ρ' A' clv cst σ ∧ zag A.1.1.length ρ ρ' ∧ A.1.1.length ≤ A'.1.1.length ∧ A'.2.1 = A.2.1 ∧ A'.2.2.1 = A.2.2.1 := by
  unfold zld at h
  split at h
  · cases h
    exact ⟨ρ, hA, zag_rf, Nat.le_refl _, rfl, rfl⟩
  · split at h
    · rename_i t ht
      obtain ⟨e1, e2⟩ := zty_ev hA.1.1 ht
      split at h
      · rename_i c2 cs hty
        cases hb : Nat.beq ci c2
        · rw [hb] at h; cases h
        · rw [hb] at h
          have hcc := Nat.eq_of_beq_eq_true hb
          subst hcc
          simp only [cond_true] at h
          split at h
          · rename_i c hc
            cases h
            obtain ⟨fs, g1, g2, g3⟩ := zI_obj hI e2 hty
            obtain ⟨x, hx⟩ := iv_nth_some (l := fs) (n := j) (by rw [g2]; exact iv_nth_lt hc)
            obtain ⟨ρ', y, f1, f2, f3, f4, f5, f6⟩ := znew hA (g3 j c x hc hx)
            have hl : (A.1.1 ++ [c]).length = A.1.1.length + 1 := f5
            have hle : A.1.1.length ≤ (A.1.1 ++ [c]).length := by omega
            refine ⟨ρ', ⟨f4.1, f4.2.1, f4.2.2.1, ?_, f4.2.2.2.2⟩, f2, hle, rfl, rfl⟩
            intro q hq
            rcases List.mem_cons.mp hq with rfl | hq
            · exact ⟨zl_wf_le hle hw, (zv_ev ρ o).toNat, fs, x, by rw [zv_ag f2 hw]; exact Int.toNat_of_nonneg e1, g1, hx, by rw [← hl] at f6; exact f6⟩
            · exact f4.2.2.2.1 q hq
          · cases h
      · cases h
    · cases h
/-- the fields that a template asks for are made known -/
def zlds (ty : Nat → Option zt) (G : List (Nat × zv)) : zA → List (zb × zc) → Option zA
  | A, [] => some A
  | A, q :: r => match q.1.1 with
    | 1 => (match iv_f1 A.2.1 q.1.2.1 with
      | some o => (match zld ty A o q.1.2.2.1 q.1.2.2.2 with
        | some A' => zlds ty G A' r
        | none => none)
      | none => none)
    | 5 => (match iv_f1 G q.1.2.1 with
      | some o => (match zld ty A o q.1.2.2.1 q.1.2.2.2 with
        | some A' => zlds ty G A' r
        | none => none)
      | none => none)
    | _ => zlds ty G A r
theorem zlds_ok (hI : zI τ ty σ) : ∀ {l : List (zb × zc)} {ρ : Nat → Int} {A A' : zA}, zA_ok τ ty ρ A clv cst σ → zG_ok ρ A.1.1.length γ G → zlds ty G A l = some A' → ∃ ρ', zA_ok τ ty ρ' A' clv cst σ ∧ zag A.1.1.length ρ ρ' ∧ A.1.1.length ≤ A'.1.1.length ∧ A'.2.1 = A.2.1 ∧ A'.2.2.1 = A.2.2.1
  | [], ρ, A, A', hA, _, h => by
    cases h
    exact ⟨ρ, hA, zag_rf, Nat.le_refl _, rfl, rfl⟩
  | q :: r, ρ, A, A', hA, hG, h => by
    unfold zlds at h
    split at h
    · split at h
      · rename_i o ho
        split at h
        · rename_i A1 h1
          obtain ⟨x, _, hk⟩ := zlv_at hA.2.1 ho
          obtain ⟨ρ1, a1, a2, a3, a4, a5⟩ := zld_ok hA hI hk.1 h1
          obtain ⟨ρ2, b1, b2, b3, b4, b5⟩ := zlds_ok hI a1 (zG_ag a2 a3 hG) h
          exact ⟨ρ2, b1, zag_tr a2 b2 a3, Nat.le_trans a3 b3, b4.trans a4, b5.trans a5⟩
        · cases h
      · cases h
    · split at h
      · rename_i o ho
        split at h
        · rename_i A1 h1
          obtain ⟨ρ1, a1, a2, a3, a4, a5⟩ := zld_ok hA hI (hG _ (iv_f1_in _ _ _ ho)).1 h1
          obtain ⟨ρ2, b1, b2, b3, b4, b5⟩ := zlds_ok hI a1 (zG_ag a2 a3 hG) h
          exact ⟨ρ2, b1, zag_tr a2 b2 a3, Nat.le_trans a3 b3, b4.trans a4, b5.trans a5⟩
        · cases h
      · cases h
    · exact zlds_ok hI hA hG h
/-! arguments -/
def zpopn : Nat → List zv → List zv → Option (List zv × List zv)
  | 0, st, acc => some (acc, st)
  | n + 1, v :: r, acc => zpopn n r (v :: acc)
  | _ + 1, [], _ => none
theorem zpopn_ok {ρ : Nat → Int} {m : Nat} : ∀ {n : Nat} {st acc as rest : List zv} {cst cacc : List Value}, zpopn n st acc = some (as, rest) → zst_ok ρ m st cst → zst_ok ρ m acc cacc → ∃ cas crest, iv_pop n cst cacc = some (cas, crest) ∧ zst_ok ρ m as cas ∧ zst_ok ρ m rest crest
  | 0, st, acc, as, rest, cst, cacc, h, h1, h2 => by
    have h : some (acc, st) = some (as, rest) := by cases st <;> exact h
    cases h
    exact ⟨cacc, cst, by cases cst <;> rfl, h2, h1⟩
  | n + 1, [], acc, as, rest, cst, cacc, h, h1, h2 => by cases h
  | n + 1, v :: r, acc, as, rest, cst, cacc, h, h1, h2 => by
    obtain ⟨x, c, rfl, g1, g2⟩ := zst_c h1
    exact zpopn_ok (n := n) (st := r) (acc := v :: acc) (cacc := x :: cacc) h g2 ⟨g1, h2⟩
def zargs (ty : Nat → Option zt) (kind nn ci : Nat) (A : zA) : Option (List zv × List zv) := match zpopn nn A.2.2.1 [] with
  | none => none
  | some (as, rest) => bif Nat.beq kind 4 then (bif Nat.ble (zcs rest) 8 then some (as, rest) else none) else match rest with
    | o :: r => bif Nat.beq o.1 2 && Nat.ble (zcs r) 8 then (bif Nat.beq kind 6 then (match zty A.1.1 o with
      | some t => (match ty t with
        | some (.inl (c2, _)) => bif Nat.beq ci c2 then some (o :: as, r) else none
        | _ => none)
      | none => none) else some (o :: as, r)) else none
    | [] => none
theorem zargs_ok (hA : zA_ok τ ty ρ A clv cst σ) (hI : zI τ ty σ) {kind nn ci : Nat} {as rest : List zv} (h : zargs ty kind nn ci A = some (as, rest)) : ∃ cas crest, iv_args kind nn ci cst σ = some (cas, crest) ∧ zst_ok ρ A.1.1.length as cas ∧ zst_ok ρ A.1.1.length rest crest := by
  unfold zargs at h
  split at h
  · cases h
  · rename_i as0 rest0 hp
    obtain ⟨cas, crest, g1, g2, g3⟩ := zpopn_ok hp hA.2.2.1 (show zst_ok ρ A.1.1.length [] [] from trivial)
    unfold iv_args
    rw [g1]
    dsimp only
    cases hk : Nat.beq kind 4
    · rw [hk] at h
      simp only [cond_false] at h ⊢
      split at h
      · rename_i o r
        obtain ⟨x, c, rfl, k1, k2⟩ := zst_c g3
        cases hb : Nat.beq o.1 2 && Nat.ble (zcs r) 8
        · rw [hb] at h; cases h
        · rw [hb] at h
          rw [Bool.and_eq_true] at hb
          obtain ⟨a, rfl, ea⟩ := zdn2 k1.2 (Nat.eq_of_beq_eq_true hb.1)
          have hcs : Nat.ble (iv_cs c) 8 = true := by rw [zcs_ok k2]; exact hb.2
          simp only [hcs, cond_true] at h ⊢
          cases hk6 : Nat.beq kind 6
          · rw [hk6] at h
            simp only [cond_false] at h ⊢
            cases h
            exact ⟨_, _, rfl, ⟨k1, g2⟩, k2⟩
          · rw [hk6] at h
            simp only [cond_true] at h ⊢
            split at h
            · rename_i t ht
              split at h
              · rename_i c2 cs hty
                cases hc : Nat.beq ci c2
                · rw [hc] at h; cases h
                · rw [hc] at h
                  have hcc := Nat.eq_of_beq_eq_true hc
                  subst hcc
                  cases h
                  obtain ⟨a2, e2, _, hta⟩ := zty_ok hA.1.1 k1 ht
                  cases e2
                  obtain ⟨fs, q1, _, _⟩ := zI_obj hI hta hty
                  rw [q1]
                  simp only [hc, cond_true]
                  exact ⟨_, _, rfl, ⟨k1, g2⟩, k2⟩
              · cases h
            · cases h
      · cases h
    · rw [hk] at h
      simp only [cond_true] at h ⊢
      cases hb : Nat.ble (zcs rest0) 8
      · rw [hb] at h; cases h
      · rw [hb] at h
        cases h
        have hcs : Nat.ble (iv_cs crest) 8 = true := by rw [zcs_ok g3]; exact hb
        simp only [hcs, cond_true]
        exact ⟨_, _, rfl, g2, g3⟩
def zlarg : Nat → List zv → List (Nat × zv)
  | _, [] => []
  | i, v :: r => (i, v) :: zlarg (i + (bif Nat.beq v.1 1 then 2 else 1)) r
end ZCL
