/-! ===== stores into arrays ===== -/
/-- where a symbol was read: the array's type and the place -/
def zprv (s : Nat) : List zd → Option (Nat × zv)
  | [] => none
  | d :: r => match d.1 with
    | t + 4 => bif Nat.beq d.2.1 s then some (t, d.2.2.1) else zprv s r
    | _ => zprv s r
theorem zprv_in {s : Nat} : ∀ {ds : List zd} {p : Nat × zv}, zprv s ds = some p → ∃ w, (p.1 + 4, s, p.2, w) ∈ ds
  | [], p, h => by cases h
  | d :: r, p, h => by
    unfold zprv at h
    split at h
    · rename_i t ht
      cases hb : Nat.beq d.2.1 s
      · rw [hb] at h
        obtain ⟨w, hw⟩ := zprv_in h
        exact ⟨w, List.mem_cons_of_mem _ hw⟩
      · rw [hb] at h
        cases h
        refine ⟨d.2.2.2, ?_⟩
        rw [← Nat.eq_of_beq_eq_true hb]
        exact List.mem_cons.mpr (.inl (Prod.ext ht.symm rfl))
    · obtain ⟨w, hw⟩ := zprv_in h
      exact ⟨w, List.mem_cons_of_mem _ hw⟩
/-- may w be stored at place ix (between its bounds) of an array with the segments sg? -/
def zst1 (ty : Nat → Option zt) (B : zB) (ix w : zv) (sg : zsg) : Bool := zsf (zvl B ix) (zvh B ix) (zvl B w) (zvh B w) sg || (match w with
  | (_, .ofNat 0, [(s, .ofNat 1)]) => (match zprv s B.2.2 with
    | some p => (match ty p.1 with
      | some (.inr (0, _, _, src)) => (fun D => zeq (zvl B D) (zvh B D) && zpp (zvl B ix) (zvh B ix) (zvl B D) src sg) (zv_cm (-1) ix p.2)
      | _ => false)
    | none => false)
  | _ => false)
/-- known places of arrays of type t, but what can't be the same place -/
def zdj (B : zB) (i j : zv) : Bool := zle (zvh B i + 1) (zvl B j) || zle (zvh B j + 1) (zvl B i)
def zcx (B : zB) (t : Nat) (ar ix : zv) : List (zv × zv × zv) → List (zv × zv × zv)
  | [] => []
  | q :: r => bif (match zty B.1 q.1 with
      | some t2 => bif Nat.beq t2 t then zdj B q.2.1 ix || (zv_eq q.1 ar && (zl_eq q.2.1.2.2 ix.2.2 && (bif zeq q.2.1.2.1 ix.2.1 then false else true))) else true
      | none => false) then q :: zcx B t ar ix r else zcx B t ar ix r
section ZSR
variable {τ : Nat → Nat} {ty : Nat → Option zt} {ms : zm}
theorem zst1_ok {ρ : Nat → Int} {B : zB} (h : zB_ok τ ty ρ B) {ix w : zv} {sg : zsg} {i : Nat} {v0 : Int} (hi : zl_wf B.1.length ix.2.2 = true) (hw : zl_wf B.1.length w.2.2 = true) (hz : zst1 ty B ix w sg = true) (ei : (i : Int) = zv_ev ρ ix) (h0 : zseg sg i v0) : zseg sg i (zv_ev ρ w) := by
  have a1 := zvl_ok h hi
  have a2 := zvh_ok h hi
  have a3 := zvl_ok h hw
  have a4 := zvh_ok h hw
  unfold zst1 at hz
  rw [Bool.or_eq_true] at hz
  rcases hz with hz | hz
  · exact zsf_ok hz h0 (by omega) (by omega) a3 a4
  · split at hz
    · rename_i k s
      split at hz
      · rename_i p hp
        split at hz
        · rename_i len k2 src hty
          dsimp only at hz
          rw [Bool.and_eq_true] at hz
          obtain ⟨w2, hin⟩ := zprv_in hp
          obtain ⟨d1, d2, d3, len2, k3, src2, i2, d4, d5, d6⟩ := h.2.2 _ hin
          have e1 : src2 = src := by
            have d4 : ty p.1 = some (.inr (0, len2, k3, src2)) := d4
            rw [hty] at d4
            have := Sum.inr.inj (Option.some.inj d4)
            exact (congrArg (fun z => z.2.2.2) this).symm
          subst e1
          have e2 : zv_ev ρ (k, (.ofNat 0 : Int), [(s, (.ofNat 1 : Int))]) = ρ s := zev1
          rw [e2]
          have d5 : (i2 : Int) = zv_ev ρ p.2 := d5
          have el := zbeq.mp hz.1
          have b1 := zvl_ok h (v := zv_cm (-1) ix p.2) (zl_cm_wf hi d2)
          have b2 := zvh_ok h (v := zv_cm (-1) ix p.2) (zl_cm_wf hi d2)
          rw [zv_cm_ev] at b1 b2
          refine zpp_ok hz.2 h0 d6 ?_ (by omega) (by omega)
          omega
        · cases hz
      · cases hz
    · cases hz
theorem zcx_in {B : zB} {t : Nat} {ar ix : zv} : ∀ {C : List (zv × zv × zv)} {q : zv × zv × zv}, q ∈ zcx B t ar ix C → q ∈ C ∧ ∃ t2, zty B.1 q.1 = some t2 ∧ (t2 ≠ t ∨ (q.1 = ar ∧ q.2.1.2.2 = ix.2.2 ∧ q.2.1.2.1 ≠ ix.2.1) ∨ zdj B q.2.1 ix = true)
  | [], q, h => by cases h
  | p :: r, q, h => by
    unfold zcx at h
    split at h
    · rename_i t2 ht
      cases hb : Nat.beq t2 t
      · rw [hb] at h
        simp only [cond_false, cond_true] at h
        rcases List.mem_cons.mp h with rfl | h
        · refine ⟨List.mem_cons_self, t2, ht, .inl fun e => ?_⟩
          rw [e, Nat.beq_refl] at hb; cases hb
        · exact ⟨List.mem_cons_of_mem _ (zcx_in h).1, (zcx_in h).2⟩
      · rw [hb] at h
        simp only [cond_true] at h
        cases hz : zdj B p.2.1 ix || (zv_eq p.1 ar && (zl_eq p.2.1.2.2 ix.2.2 && (bif zeq p.2.1.2.1 ix.2.1 then false else true)))
        · rw [hz] at h
          exact ⟨List.mem_cons_of_mem _ (zcx_in h).1, (zcx_in h).2⟩
        · rw [hz] at h
          rcases List.mem_cons.mp h with rfl | h
          · rw [Bool.or_eq_true] at hz
            rcases hz with hz | hz
            · exact ⟨List.mem_cons_self, t2, ht, .inr (.inr hz)⟩
            · rw [Bool.and_eq_true, Bool.and_eq_true] at hz
              refine ⟨List.mem_cons_self, t2, ht, .inr (.inl ⟨zv_eq_ok hz.1, zl_eq_ok hz.2.1, fun e => ?_⟩)⟩
              rw [zbeq.mpr e] at hz; cases hz.2.2
          · exact ⟨List.mem_cons_of_mem _ (zcx_in h).1, (zcx_in h).2⟩
    · exact ⟨List.mem_cons_of_mem _ (zcx_in h).1, (zcx_in h).2⟩
/-- what is known of places, behind a store into the array at a -/
theorem zca_st {ρ : Nat → Int} {A : zA} {clv : iv_L} {cst : List Value} {σ : iv_H} (hA : zA_ok τ ty ρ A clv cst σ) {a t i : Nat} {ar ix : zv} {x y : Nat × vp_A} (hta : τ a = t) (ea : (a : Int) = zv_ev ρ ar) (ei : (i : Int) = zv_ev ρ ix) (hix : zl_wf A.1.1.length ix.2.2 = true) (g : iv_get σ a = some (.inl x)) (hxy : ∀ (tag len : Nat) (f : Nat → Int32), x = (tag, len, .inl f) → ∃ f2 : Nat → Int32, y = (tag, len, .inl f2) ∧ ∀ j, j ≠ i → f2 j = f j) : ∀ q ∈ zcx A.1 t ar ix A.2.2.2.2, zca_ok ρ A.1.1.length (iv_put σ a (.inl y)) q := by
  intro q hq
  obtain ⟨h1, t2, h2, h3⟩ := zcx_in hq
  obtain ⟨m1, m2, a2, i2, tag, len, f, m3, m4, m5, m6⟩ := hA.2.2.2.2 q h1
  by_cases hba : a2 = a
  · subst hba
    rw [g] at m5
    have ex : x = (tag, len, .inl f) := Sum.inl.inj (Option.some.inj m5)
    obtain ⟨f2, e1, e2⟩ := hxy tag len f ex
    have hi : i2 ≠ i := by
      rcases h3 with h3 | ⟨h4, h5, h6⟩ | h7
      rotate_left
      rotate_left
      · unfold zdj at h7
        rw [Bool.or_eq_true] at h7
        have u1 := zvl_ok hA.1 m2
        have u2 := zvh_ok hA.1 m2
        have u3 := zvl_ok hA.1 hix
        have u4 := zvh_ok hA.1 hix
        rcases h7 with h7 | h7
        · have := zle_iff.mp h7; omega
        · have := zle_iff.mp h7; omega
      · exfalso
        apply h3
        have hk : zok ρ A.1.1.length q.1 (.ref a2) := by
          refine ⟨m1, ?_⟩
          have hv : q.1.1 = 2 := by
            unfold zty at h2
            split at h2
            · rename_i hh; rw [hh]
            · cases h2
          unfold zdn
          rw [hv]
          exact ⟨a2, rfl, m3⟩
        obtain ⟨a3, e3, _, e5⟩ := zty_ok hA.1.1 hk h2
        cases e3
        rw [← e5, hta]
      · intro e
        apply h6
        rw [e, ei] at m4
        unfold zv_ev at m4
        rw [h5] at m4
        omega
    refine ⟨m1, m2, a2, i2, tag, len, f2, m3, m4, ?_, ?_⟩
    · rw [← e1]; exact iv_gp_s g
    · rw [e2 i2 hi]; exact m6
  · exact ⟨m1, m2, a2, i2, tag, len, f, m3, m4, iv_gp_n g m5 hba, m6⟩
theorem zcf_st {ρ : Nat → Int} {A : zA} {clv : iv_L} {cst : List Value} {σ : iv_H} (hA : zA_ok τ ty ρ A clv cst σ) {a : Nat} {x y : Nat × vp_A} (g : iv_get σ a = some (.inl x)) : ∀ q ∈ A.2.2.2.1, zcf_ok ρ A.1.1.length (iv_put σ a (.inl y)) q := by
  intro q hq
  obtain ⟨m1, a2, fs2, x2, m2, m3, m4, m5⟩ := hA.2.2.2.1 q hq
  have hba : a2 ≠ a := fun e => by rw [e, g] at m3; cases m3
  exact ⟨m1, a2, fs2, x2, m2, iv_gp_n g m3 hba, m4, m5⟩
/-- a store of an int (tag 0) or boolean (tag 2) -/
def zoSt (ty : Nat → Option zt) (ms : zm) (g : Nat) : Nat → zA → zO := fun pc A => match A.2.2.1 with
  | w :: ix :: ar :: r => (match zty A.1.1 ar with
    | some t => (match ty t with
      | some (.inr (g2, len, _, sg)) => bif (Nat.beq g g2 && (zix A.1 ix len && Nat.beq w.1 0)) && ((zst1 ty A.1 ix w sg && (zmem (1, t, 0) ms || (zle (zml t ms) (zvl A.1 ix) && zle (zvh A.1 ix + 1) (zmb t ms)))) && (bif Nat.beq g 2 then zle 0 (zvl A.1 w) && zle (zvh A.1 w) 1 else true)) then some [(pc + 1, (A.1, A.2.1, r, A.2.2.2.1, (ar, ix, w) :: zcx A.1 t ar ix A.2.2.2.2))] else none
      | _ => none)
    | none => none)
  | _ => none
theorem zoSt_in {g pc : Nat} {A : zA} {outs : List (Nat × zA)} (hg : zoSt ty ms g pc A = some outs) : ∃ w ix ar r t len k sg, A.2.2.1 = w :: ix :: ar :: r ∧ zty A.1.1 ar = some t ∧ ty t = some (.inr (g, len, k, sg)) ∧ zix A.1 ix len = true ∧ w.1 = 0 ∧ zst1 ty A.1 ix w sg = true ∧ (zmem (1, t, 0) ms = true ∨ ((zml t ms : Int) ≤ zvl A.1 ix ∧ zvh A.1 ix < (zmb t ms : Int))) ∧ (g = 2 → 0 ≤ zvl A.1 w ∧ zvh A.1 w ≤ 1) ∧ outs = [(pc + 1, (A.1, A.2.1, r, A.2.2.2.1, (ar, ix, w) :: zcx A.1 t ar ix A.2.2.2.2))] := by
  unfold zoSt at hg
  split at hg
  · rename_i w ix ar r hst
    split at hg
    · rename_i t ht
      split at hg
      · rename_i g2 len k sg hty
        cases hb : (Nat.beq g g2 && (zix A.1 ix len && Nat.beq w.1 0)) && ((zst1 ty A.1 ix w sg && (zmem (1, t, 0) ms || (zle (zml t ms) (zvl A.1 ix) && zle (zvh A.1 ix + 1) (zmb t ms)))) && (bif Nat.beq g 2 then zle 0 (zvl A.1 w) && zle (zvh A.1 w) 1 else true))
        · rw [hb] at hg; cases hg
        · rw [hb] at hg
          cases hg
          simp only [Bool.and_eq_true] at hb
          obtain ⟨⟨k1, k2, k3⟩, ⟨k4, k5⟩, k6⟩ := hb
          have e := Nat.eq_of_beq_eq_true k1
          subst e
          refine ⟨w, ix, ar, r, t, len, k, sg, hst, ht, hty, k2, Nat.eq_of_beq_eq_true k3, k4, ?_, fun e2 => ?_, rfl⟩
          · rcases (Bool.or_eq_true _ _ ▸ k5) with k5 | k5
            · exact .inl k5
            · rw [Bool.and_eq_true] at k5
              have := zle_iff.mp k5.1
              have := zle_iff.mp k5.2
              exact .inr ⟨by omega, by omega⟩
          · subst e2
            rw [Nat.beq_refl] at k6
            simp only [cond_true, Bool.and_eq_true] at k6
            exact ⟨zle_iff.mp k6.1, zle_iff.mp k6.2⟩
      · cases hg
    · cases hg
  · cases hg
theorem upd_at {f : Nat → Int32} {i j : Nat} {x : Int32} : upd f i x j = if j = i then x else f j := rfl
theorem zoIst_ok : zS τ ty ms iv_oIst (zoSt ty ms 0) := by
  intro ρ A clv cst σ L xs pc outs hg hA hI
  obtain ⟨w, ix, ar, r, t, len, k, sg, hst, ht, hty, hz, kw, hs, hm, _, rfl⟩ := zoSt_in hg
  have h1 := hA.2.2.1
  rw [hst] at h1
  obtain ⟨xw, c0, rfl, w1, h2⟩ := zst_c h1
  obtain ⟨x, c1, rfl, a1, h3⟩ := zst_c h2
  obtain ⟨x0, c2, rfl, b1, h4⟩ := zst_c h3
  obtain ⟨a, rfl, ea, hta⟩ := zty_ok hA.1.1 b1 ht
  obtain ⟨y, rfl, ey, k1, k2, k3, k4, k5⟩ := zix_ok hA.1 a1 hz
  obtain ⟨z, rfl, ez⟩ := zdn0 w1.2 kw
  obtain ⟨f, g1, g2⟩ := zI_ia hI hta hty
  refine ⟨pc + 1, clv, c2, _, _, ρ, o_Ist g1 k1, List.mem_singleton.mpr rfl, ⟨hA.1, hA.2.1, h4, zcf_st hA g1, ?_⟩, ?_, zag_rf, Nat.le_refl _, zFr_ai g1 (by rw [hta]; rcases hm with hm | hm; exact .inl hm; exact .inr ⟨by omega, by omega⟩)⟩
  · intro q hq
    rcases List.mem_cons.mp hq with rfl | hq
    · exact ⟨b1.1, a1.1, a, y.toNatClampNeg, 0, len, _, ea, k3, iv_gp_s g1, by rw [upd_at, if_pos rfl]; exact w1⟩
    · refine zca_st hA hta ea k3 a1.1 g1 ?_ q hq
      intro tag len2 f2 e
      cases e
      exact ⟨_, rfl, fun j hj => by rw [upd_at, if_neg hj]⟩
  · refine zI_put hI g1 (fun T hT => ?_)
    rw [hta, hty] at hT
    cases hT
    refine ⟨_, rfl, fun j hj => ?_⟩
    rw [upd_at]
    split
    · rename_i e
      subst e
      rw [ez]
      exact zst1_ok hA.1 a1.1 w1.1 hs k3 (g2 _ k2)
    · exact g2 j hj
theorem zoZst_ok : zS τ ty ms iv_oZst (zoSt ty ms 2) := by
  intro ρ A clv cst σ L xs pc outs hg hA hI
  obtain ⟨w, ix, ar, r, t, len, k, sg, hst, ht, hty, hz, kw, hs, hm, h01, rfl⟩ := zoSt_in hg
  have h1 := hA.2.2.1
  rw [hst] at h1
  obtain ⟨xw, c0, rfl, w1, h2⟩ := zst_c h1
  obtain ⟨x, c1, rfl, a1, h3⟩ := zst_c h2
  obtain ⟨x0, c2, rfl, b1, h4⟩ := zst_c h3
  obtain ⟨a, rfl, ea, hta⟩ := zty_ok hA.1.1 b1 ht
  obtain ⟨y, rfl, ey, k1, k2, k3, k4, k5⟩ := zix_ok hA.1 a1 hz
  obtain ⟨z, rfl, ez⟩ := zdn0 w1.2 kw
  obtain ⟨e, g1, f, rfl, g2⟩ := hI a _ (by rw [hta]; exact hty)
  have hzz : z = 0 ∨ z = 1 := by
    obtain ⟨l1, l2⟩ := h01 rfl
    have l3 := zvl_ok hA.1 w1.1
    have l4 := zvh_ok hA.1 w1.1
    have : z.toInt = 0 ∨ z.toInt = 1 := by omega
    rcases this with e | e
    · exact .inl (Int32.toInt_inj.mp (by rw [e]; rfl))
    · exact .inr (Int32.toInt_inj.mp (by rw [e]; rfl))
  have hdec : (decide (z = 0) || decide (z = 1)) = true := by
    rcases hzz with rfl | rfl <;> rfl
  have hf : iv_oZst L xs pc clv (.int z :: .int y :: .ref a :: c2) σ = some (pc + 1, clv, c2, iv_put σ a (.inl (2, len, .inl (upd f y.toNatClampNeg z)))) := by
    unfold iv_oZst
    simp only [g1, k1, hdec, Bool.and_self, cond_true]
  refine ⟨pc + 1, clv, c2, _, _, ρ, hf, List.mem_singleton.mpr rfl, ⟨hA.1, hA.2.1, h4, zcf_st hA g1, ?_⟩, ?_, zag_rf, Nat.le_refl _, zFr_ai g1 (by rw [hta]; rcases hm with hm | hm; exact .inl hm; exact .inr ⟨by omega, by omega⟩)⟩
  · intro q hq
    rcases List.mem_cons.mp hq with rfl | hq
    · exact ⟨b1.1, a1.1, a, y.toNatClampNeg, 2, len, _, ea, k3, iv_gp_s g1, by rw [upd_at, if_pos rfl]; exact w1⟩
    · refine zca_st hA hta ea k3 a1.1 g1 ?_ q hq
      intro tag len2 f2 e
      cases e
      exact ⟨_, rfl, fun j hj => by rw [upd_at, if_neg hj]⟩
  · refine zI_put hI g1 (fun T hT => ?_)
    rw [hta, hty] at hT
    cases hT
    refine ⟨_, rfl, fun j hj => ?_⟩
    rw [upd_at]
    split
    · rename_i e
      subst e
      refine ⟨hzz, ?_⟩
      rw [ez]
      exact zst1_ok hA.1 a1.1 w1.1 hs k3 (g2 _ k2).2
    · exact g2 j hj
/-- a store of a long -/
def zoJs (ty : Nat → Option zt) (ms : zm) : Nat → zA → zO := fun pc A => match A.2.2.1 with
  | w :: ix :: ar :: r => (match zty A.1.1 ar with
    | some t => (match ty t with
      | some (.inr (1, len, _, sg)) => bif (zix A.1 ix len && Nat.beq w.1 1) && (zsf (zvl A.1 ix) (zvh A.1 ix) (zvl A.1 w) (zvh A.1 w) sg && zmem (1, t, 0) ms) then some [(pc + 1, (A.1, A.2.1, r, A.2.2.2.1, zcx A.1 t ar ix A.2.2.2.2))] else none
      | _ => none)
    | none => none)
  | _ => none
theorem updL_at {f : Nat → Int64} {i j : Nat} {x : Int64} : vp_updL f i x j = if j = i then x else f j := rfl
theorem zoJst_ok : zS τ ty ms iv_oJst (zoJs ty ms) := by
  intro ρ A clv cst σ L xs pc outs hg hA hI
  unfold zoJs at hg
  split at hg
  · rename_i w ix ar r hst
    split at hg
    · rename_i t ht
      split at hg
      · rename_i len k sg hty
        cases hb : (zix A.1 ix len && Nat.beq w.1 1) && (zsf (zvl A.1 ix) (zvh A.1 ix) (zvl A.1 w) (zvh A.1 w) sg && zmem (1, t, 0) ms)
        · rw [hb] at hg; cases hg
        · rw [hb] at hg
          cases hg
          simp only [Bool.and_eq_true] at hb
          obtain ⟨⟨hz, kw⟩, hs, hm⟩ := hb
          have h1 := hA.2.2.1
          rw [hst] at h1
          obtain ⟨xw, c0, rfl, w1, h2⟩ := zst_c h1
          obtain ⟨x, c1, rfl, a1, h3⟩ := zst_c h2
          obtain ⟨x0, c2, rfl, b1, h4⟩ := zst_c h3
          obtain ⟨a, rfl, ea, hta⟩ := zty_ok hA.1.1 b1 ht
          obtain ⟨y, rfl, ey, k1, k2, k3, k4, k5⟩ := zix_ok hA.1 a1 hz
          obtain ⟨z, rfl, ez⟩ := zdn1 w1.2 (Nat.eq_of_beq_eq_true kw)
          obtain ⟨e, g1, f, rfl, g2⟩ := hI a _ (by rw [hta]; exact hty)
          have l3 := zvl_ok hA.1 w1.1
          have l4 := zvh_ok hA.1 w1.1
          have hf : iv_oJst L xs pc clv (.long z :: .int y :: .ref a :: c2) σ = some (pc + 1, clv, c2, iv_put σ a (.inl (1, len, .inr (.inl (vp_updL f y.toNatClampNeg z))))) := by
            unfold iv_oJst
            simp only [g1, k1, cond_true]
          refine ⟨pc + 1, clv, c2, _, _, ρ, hf, List.mem_singleton.mpr rfl, ⟨hA.1, hA.2.1, h4, zcf_st hA g1, ?_⟩, ?_, zag_rf, Nat.le_refl _, zFr_a g1 (by rw [hta]; exact hm)⟩
          · intro q hq
            refine zca_st hA hta ea k3 a1.1 g1 ?_ q hq
            intro tag len2 f2 e
            cases e
          · refine zI_put hI g1 (fun T hT => ?_)
            rw [hta, hty] at hT
            cases hT
            refine ⟨_, rfl, fun j hj => ?_⟩
            rw [updL_at]
            split
            · rename_i e
              subst e
              rw [ez]
              exact zsf_ok hs (g2 _ k2) k4 k5 l3 l4
            · exact g2 j hj
      · cases hg
    · cases hg
  · cases hg
end ZSR
