/-! ===== the checker is right ===== -/
theorem zrun_s (τ : Nat → Nat) (ty : Nat → Option zt) (sf : zsf2) (oc : zorc) (T : List zct) (inl : List Nat) (c : zct) (G : List (Nat × zv)) (m0 : zf) (n : Nat) : zrun τ ty sf oc T inl c G m0 (n + 1) = zstep τ ty sf oc T inl c G m0 (zrun τ ty sf oc T inl c G m0 n) := rfl
abbrev zfc : Type := Nat × Nat × iv_L × List Value
/-- what is still to be done behind the frame on top -/
def zGK (L : Nat) (xs : Nat → Int32) (Post : Option Value → iv_H → Prop) : List zfc → Nat → Option Value → iv_H → Prop
  | [], _, r, σ => Post r σ
  | f :: fs, d, r, σ => ∃ r' σ', iv_Rn L xs (d + 1) f.1 f.2.1 f.2.2.1 (r.toList ++ f.2.2.2) σ r' σ' ∧ zGK L xs Post fs (d + 1) r' σ'
def zGo (L : Nat) (xs : Nat → Int32) (Post : Option Value → iv_H → Prop) (fs : List zfc) (d M pc : Nat) (lv : iv_L) (st : List Value) (σ : iv_H) : Prop := ∃ r σ', iv_Rn L xs d M pc lv st σ r σ' ∧ zGK L xs Post fs d r σ'
def zfs_ok (ρ : Nat → Int) (n : Nat) : List zfm → List zfc → Prop
  | [], [] => True
  | f :: fs, g :: gs => (f.1 = g.1 ∧ f.2.1 = g.2.1) ∧ zlv_ok ρ n f.2.2.1 g.2.2.1 ∧ zst_ok ρ n f.2.2.2 g.2.2.2 ∧ zfs_ok ρ n fs gs
  | _, _ => False
theorem zfs_ag {n n' : Nat} {ρ ρ' : Nat → Int} (h : zag n ρ ρ') (hn : n ≤ n') : ∀ {fs : List zfm} {gs : List zfc}, zfs_ok ρ n fs gs → zfs_ok ρ' n' fs gs
  | [], [], _ => trivial
  | f :: fs, g :: gs, hk => ⟨hk.1, zlv_ag h hn hk.2.1, zst_ag h hn hk.2.2.1, zfs_ag h hn hk.2.2.2⟩
  | [], g :: gs, hk => hk.elim
  | f :: fs, [], hk => hk.elim
theorem zlarg_ok {ρ : Nat → Int} {n : Nat} : ∀ {as : List zv} {cas : List Value} {i : Nat}, zst_ok ρ n as cas → ∀ q ∈ zlarg i as, i ≤ q.1 ∧ ∃ x, iv_f1 (lv_args i cas) q.1 = some x ∧ zok ρ n q.2 x
  | [], [], i, _, q, hq => by cases hq
  | v :: as, x :: cas, i, h, q, hq => by
    have hcat : (if x.category = 2 then i + 2 else i + 1) = i + (bif Nat.beq v.1 1 then 2 else 1) := by
      have h1 := h.1.2
      unfold zdn at h1
      split at h1
      · rename_i hk
        obtain ⟨y, rfl, _⟩ := h1
        rw [hk]; rfl
      · rename_i hk
        obtain ⟨y, rfl, _⟩ := h1
        rw [hk]; rfl
      · rename_i k0 k1
        obtain ⟨y, rfl, _⟩ := h1
        have : Nat.beq v.1 1 = false := by
          cases hb : Nat.beq v.1 1 with
          | false => rfl
          | true => exact absurd (Nat.eq_of_beq_eq_true hb) k1
        rw [this]; rfl
    have hpos : i < i + (bif Nat.beq v.1 1 then 2 else 1) := by cases Nat.beq v.1 1 <;> simp
    unfold zlarg at hq
    rcases List.mem_cons.mp hq with rfl | hq
    · refine ⟨Nat.le_refl _, x, ?_, h.1⟩
      show (bif Nat.beq i i then some x else _) = some x
      rw [Nat.beq_refl]
      rfl
    · obtain ⟨h1, y, h2, h3⟩ := zlarg_ok h.2 q hq
      refine ⟨by omega, y, ?_, h3⟩
      show (bif Nat.beq i q.1 then some x else iv_f1 (lv_args (if x.category = 2 then i + 2 else i + 1) cas) q.1) = some y
      have hb : Nat.beq i q.1 = false := by
        cases hc : Nat.beq i q.1 with
        | false => rfl
        | true => have := Nat.eq_of_beq_eq_true hc; omega
      rw [hb, hcat]
      exact h2
  | [], x :: cas, i, h, q, hq => h.elim
  | v :: as, [], i, h, q, hq => h.elim
theorem zst_app {ρ : Nat → Int} {n : Nat} {res : Option zv} {r : Option Value} {st : List zv} {cst : List Value} (h : zst_ok ρ n st cst) (h1 : ∀ v, res = some v → ∃ x, r = some x ∧ zok ρ n v x) (h2 : res.isSome = r.isSome) : zst_ok ρ n (res.toList ++ st) (r.toList ++ cst) := by
  cases res with
  | none =>
    cases r with
    | none => exact h
    | some x => cases h2
  | some v =>
    obtain ⟨x, rfl, hk⟩ := h1 v rfl
    exact ⟨hk, h⟩
section ZSD
variable {τ : Nat → Nat} {ty : Nat → Option zt} {ρ γ : Nat → Int} {A : zA} {G : List (Nat × zv)} {clv : iv_L} {cst : List Value} {σ : iv_H} {L : Nat} {xs : Nat → Int32}
theorem zret_ok (hA : zA_ok τ ty ρ A clv cst σ) {k : Nat} {res : Option zv} (h : zret k A = some res) : ∃ r : Option Value, iv_rt k cst σ = some (r, σ) ∧ (∀ v, res = some v → ∃ x, r = some x ∧ zok ρ A.1.1.length v x) ∧ res.isSome = r.isSome := by
  have h1 := hA.2.2.1
  unfold zret at h
  split at h
  · rename_i hst
    rw [hst] at h1
    cases h
    cases cst with
    | nil => exact ⟨none, rfl, fun v hv => (by cases hv), rfl⟩
    | cons x c => exact h1.elim
  · rename_i v hst
    rw [hst] at h1
    cases hb : Nat.beq v.1 0
    · rw [hb] at h; cases h
    · rw [hb] at h
      cases h
      obtain ⟨x, c, rfl, g1, g2⟩ := zst_c h1
      cases c with
      | cons y c => exact g2.elim
      | nil =>
        obtain ⟨y, rfl, _⟩ := zdn0 g1.2 (Nat.eq_of_beq_eq_true hb)
        exact ⟨_, rfl, fun w hw => by cases hw; exact ⟨_, rfl, g1⟩, rfl⟩
  · rename_i v hst
    rw [hst] at h1
    cases hb : Nat.beq v.1 0 && (zle 0 (zvl A.1 v) && zle (zvh A.1 v) 1)
    · rw [hb] at h; cases h
    · rw [hb] at h
      cases h
      rw [Bool.and_eq_true, Bool.and_eq_true] at hb
      obtain ⟨x, c, rfl, g1, g2⟩ := zst_c h1
      cases c with
      | cons y c => exact g2.elim
      | nil =>
        obtain ⟨y, rfl, ey⟩ := zdn0 g1.2 (Nat.eq_of_beq_eq_true hb.1)
        have a1 := zle_iff.mp hb.2.1
        have a2 := zle_iff.mp hb.2.2
        have a3 := zvl_ok hA.1 g1.1
        have a4 := zvh_ok hA.1 g1.1
        have hy : (decide (y = 0) || decide (y = 1)) = true := by
          have : y.toInt = 0 ∨ y.toInt = 1 := by omega
          rcases this with e | e
          · have e2 : y = 0 := Int32.toInt_inj.mp (by rw [e]; rfl)
            rw [decide_eq_true e2]; rfl
          · have e2 : y = 1 := Int32.toInt_inj.mp (by rw [e]; rfl)
            rw [decide_eq_true e2]; simp
        refine ⟨some (.int y), ?_, fun w hw => by cases hw; exact ⟨_, rfl, g1⟩, rfl⟩
        show (bif decide (y = 0) || decide (y = 1) then some (some (Value.int y), σ) else none) = _
        rw [hy]
        rfl
  · rename_i v hst
    rw [hst] at h1
    cases hb : Nat.beq v.1 1
    · rw [hb] at h; cases h
    · rw [hb] at h
      cases h
      obtain ⟨x, c, rfl, g1, g2⟩ := zst_c h1
      cases c with
      | cons y c => exact g2.elim
      | nil =>
        obtain ⟨y, rfl, _⟩ := zdn1 g1.2 (Nat.eq_of_beq_eq_true hb)
        exact ⟨_, rfl, fun w hw => by cases hw; exact ⟨_, rfl, g1⟩, rfl⟩
  · rename_i v hst
    rw [hst] at h1
    cases hb : Nat.beq v.1 2
    · rw [hb] at h; cases h
    · rw [hb] at h
      cases h
      obtain ⟨x, c, rfl, g1, g2⟩ := zst_c h1
      cases c with
      | cons y c => exact g2.elim
      | nil =>
        obtain ⟨y, rfl, _⟩ := zdn2 g1.2 (Nat.eq_of_beq_eq_true hb)
        exact ⟨_, rfl, fun w hw => by cases hw; exact ⟨_, rfl, g1⟩, rfl⟩
  · cases h
theorem zP_clv {r : Option Value} {P : zp} {ρ' : Nat → Int} {cl cl' : iv_L} (h : zP_ok τ γ cl r σ P ρ') (hb : P.1.all (fun q => Nat.beq q.1.1 2 || (Nat.beq q.1.1 3 || Nat.beq q.1.1 5)) = true) : zP_ok τ γ cl' r σ P ρ' := by
  refine ⟨h.1, h.2.1, fun i b c hi => ?_⟩
  have h1 := h.2.2 i b c hi
  have h2 := List.all_eq_true.mp hb _ (zn_in hi)
  unfold zsrc at h1 ⊢
  simp only [Bool.or_eq_true] at h2
  rcases h2 with e | e | e
  · rw [Nat.eq_of_beq_eq_true e] at h1 ⊢; exact h1
  · rw [Nat.eq_of_beq_eq_true e] at h1 ⊢; exact h1
  · rw [Nat.eq_of_beq_eq_true e] at h1 ⊢; exact h1
theorem zex_ok (hA : zA_ok τ ty ρ A clv cst σ) (hI : zI τ ty σ) (hG : zG_ok ρ A.1.1.length γ G) {res : Option zv} {r : Option Value} (hr : ∀ v, res = some v → ∃ x, r = some x ∧ zok ρ A.1.1.length v x) (hs : res.isSome = r.isSome) {X : zp} (h : zex ty G A res X = true) : (∃ ρX, zP_ok τ γ clv r σ X ρX) ∧ (zhas3 X.1 = true → r.isSome = true) ∧ (zhas3 X.1 = false → r = none) := by
  unfold zex at h
  split at h
  · rename_i A1 h1
    obtain ⟨ρ1, a1, a2, a3, a4, a5⟩ := zlds_ok hI hA hG h1
    split at h
    · rename_i vs h2
      rw [Bool.and_eq_true] at h
      refine ⟨⟨_, zP_of a1 (zG_ag a2 a3 hG) (fun v hv => ?_) h2 h.1⟩, fun h3 => ?_, fun h3 => ?_⟩
      · obtain ⟨x, k1, k2⟩ := hr v hv
        exact ⟨x, k1, zok_ag a2 a3 k2⟩
      · have h4 := h.2
        rw [h3] at h4
        rw [← hs]
        exact h4
      · have h4 := h.2
        rw [h3] at h4
        have h5 : res.isNone = true := h4
        cases r with
        | none => rfl
        | some x =>
          cases res with
          | none => cases hs
          | some v => cases h5
    · cases h
  · cases h
theorem zghs_ok {vs : List zv} (hG : zG_ok ρ A.1.1.length γ G) : ∀ {gs : List (Nat × Nat)}, zghs G vs gs = true → ∀ q ∈ gs, γ q.1 = zρ ρ vs q.2
  | [], _, q, hq => by cases hq
  | p :: gs, h, q, hq => by
    unfold zghs at h
    split at h
    · rename_i w v hw hv
      cases hb : zv_eq w v
      · rw [hb] at h; cases h
      · rw [hb] at h
        rcases List.mem_cons.mp hq with rfl | hq
        · have e := zv_eq_ok hb
          subst e
          unfold zρ
          rw [hv]
          exact ((hG _ (iv_f1_in _ _ _ hw)).2).symm
        · exact zghs_ok hG h q hq
    · cases h
/-- at a cut point -/
theorem zcx2_ok (hA : zA_ok τ ty ρ A clv cst σ) (hI : zI τ ty σ) (hG : zG_ok ρ A.1.1.length γ G) {m0 : zf} (hm : zl_wf A.1.1.length m0.2 = true) {t : zcut} (h : zcx2 ty G m0 A t = true) : cst = [] ∧ ∃ ρ' : Nat → Int, zP_ok τ γ clv none σ t.2.1 ρ' ∧ (∀ q ∈ t.2.2.2, γ q.1 = ρ' q.2) ∧ t.2.2.1.1 + zl_ev ρ' t.2.2.1.2 < m0.1 + zl_ev ρ m0.2 := by
  unfold zcx2 at h
  split at h
  · rename_i hst
    have hc : cst = [] := by
      have h1 := hA.2.2.1
      rw [hst] at h1
      cases cst with
      | nil => rfl
      | cons x c => exact h1.elim
    refine ⟨hc, ?_⟩
    split at h
    · rename_i A1 h1
      obtain ⟨ρ1, a1, a2, a3, a4, a5⟩ := zlds_ok hI hA hG h1
      split at h
      · rename_i vs h2
        simp only [Bool.and_eq_true] at h
        obtain ⟨⟨k1, k2⟩, k3⟩ := h
        have hG1 := zG_ag a2 a3 hG
        refine ⟨zρ ρ1 vs, zP_of a1 hG1 (fun v hv => by cases hv) h2 k1, zghs_ok (A := A1) hG1 k2, ?_⟩
        obtain ⟨w1, _⟩ := zlks_ok (r := none) a1 hG1 (fun v hv => by cases hv) h2
        have k4 := zle_iff.mp k3
        have k5 := zub_ok a1.1.1 a1.1.2.1 (c := t.2.2.1.1 + (zsb vs t.2.2.1.2).1 - m0.1 + 1) (l := zl_cm (-1) (zsb vs t.2.2.1.2).2 m0.2) (zl_cm_wf (zsb_wf w1) (zl_wf_le a3 hm))
        rw [zl_cm_ev, zl_ag a2 hm] at k5
        have k6 := zsb_ev (ρ := ρ1) (vs := vs) (l := t.2.2.1.2)
        omega
      · cases h
    · cases h
  · cases h
end ZSD
