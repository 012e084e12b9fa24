/-! ===== calls by contract ===== -/
theorem zn_of {α : Type} : ∀ {l : List α} {v : α}, v ∈ l → ∃ k, iv_nth l k = some v
  | [], v, h => by cases h
  | y :: l, v, h => by
    rcases List.mem_cons.mp h with rfl | h
    · exact ⟨0, rfl⟩
    · obtain ⟨k, hk⟩ := zn_of h
      exact ⟨k + 1, hk⟩
theorem zxb_len {gs : List (Nat × Nat)} {vs : List zv} : ∀ {l : List (zb × zc)} {A A' : zA} {ws ws' : List zv} {res res' : Option zv}, zxb gs vs A ws res l = some (A', ws', res') → ws'.length = ws.length + l.length
  | [], A, A', ws, ws', res, res', h => by cases h; rfl
  | q :: l, A, A', ws, ws', res, res', h => by
    unfold zxb at h
    split at h
    · have := zxb_len h
      simp at this ⊢; omega
    · split at h
      · split at h
        · have := zxb_len h
          simp at this ⊢; omega
        · cases h
      · cases h
    · split at h
      · split at h
        · have := zxb_len h
          simp at this ⊢; omega
        · cases h
      · cases h
    · cases h
section ZMN
variable {τ : Nat → Nat} {ty : Nat → Option zt} {γ : Nat → Int} {A : zA} {G : List (Nat × zv)} {clv : iv_L} {cst : List Value} {σ : iv_H} {L : Nat} {xs : Nat → Int32}
theorem zgd_ok {gs : List (Nat × Nat)} (h : zgd gs = true) {ρ0 : Nat → Int} : ∀ q ∈ gs, zγ gs ρ0 q.1 = ρ0 q.2 := by
  intro q hq
  have h1 := List.all_eq_true.mp h q hq
  unfold zγ
  split at h1
  · rename_i i hi
    rw [hi]
    rw [Nat.eq_of_beq_eq_true h1]
  · cases h1
theorem zsubm_ok : ∀ {a b : zm}, zsubm a b = true → zsub_m a b
  | [], b, _ => fun q hq => by cases hq
  | p :: a, b, h => by
    intro q hq
    unfold zsubm at h
    cases hb : zmem p b
    · rw [hb] at h; cases h
    · rw [hb] at h
      unfold zmem at hq
      cases hz : Nat.beq p.1 q.1 && (Nat.beq p.2.1 q.2.1 && Nat.beq p.2.2 q.2.2)
      · rw [hz] at hq; exact zsubm_ok h q hq
      · rw [Bool.and_eq_true, Bool.and_eq_true] at hz
        have e : p = q := Prod.ext (Nat.eq_of_beq_eq_true hz.1) (Prod.ext (Nat.eq_of_beq_eq_true hz.2.1) (Nat.eq_of_beq_eq_true hz.2.2))
        rw [← e]; exact hb
theorem zFr_sub {ms ms' : zm} {σ' : iv_H} (hs : zsub_m ms ms') (h : zFr τ ms σ σ') : zFr τ ms' σ σ' := zFr_tr hs h zFr_rf
theorem zxf_ok {ρ ρX : Nat → Int} {ws : List zv} {n : Nat} (hws : ∀ (k : Nat) (w : zv), iv_nth ws k = some w → zl_wf n w.2.2 = true ∧ zv_ev ρ w = ρX k) : ∀ {F : List zf}, (∀ f ∈ F, f.1 + zl_ev ρX f.2 ≤ 0) → (∀ f ∈ F, zl_wf ws.length f.2 = true) → ∀ f ∈ zxf ws F, zl_wf n f.2 = true ∧ f.1 + zl_ev ρ f.2 ≤ 0
  | [], _, _, f, hf => by cases hf
  | p :: F, h, hw, f, hf => by
    unfold zxf at hf
    rcases List.mem_cons.mp hf with rfl | hf
    · have h1 := h p List.mem_cons_self
      have h2 := zsb_ev (ρ := ρ) (vs := ws) (l := p.2)
      have h3 : zl_ev (zρ ρ ws) p.2 = zl_ev ρX p.2 := zl_ag (fun i hi => by
        obtain ⟨w, hw9⟩ := iv_nth_some hi
        unfold zρ
        rw [hw9]
        exact (hws i w hw9).2) (hw p List.mem_cons_self)
      refine ⟨zsb_wf (fun v hv => ?_), ?_⟩
      · obtain ⟨k, hk⟩ := zn_of hv
        exact (hws k v hk).1
      · show p.1 + (zsb ws p.2).1 + zl_ev ρ (zsb ws p.2).2 ≤ 0
        omega
    · exact zxf_ok hws (fun f hf => h f (List.mem_cons_of_mem _ hf)) (fun f hf => hw f (List.mem_cons_of_mem _ hf)) f hf
/-- the exit that was met is among the states -/
theorem zxs_ok {gs : List (Nat × Nat)} {vs : List zv} {rest : List zv} {crest : List Value} {r : Option Value} {ρ ρX : Nat → Int} (hA : zA_ok τ ty ρ A clv crest σ) (hst : A.2.2.1 = rest) (hvs : ∀ v ∈ vs, zl_wf A.1.1.length v.2.2 = true) (hγ : ∀ (g i : Nat) (v : zv), iv_f1 gs g = some i → iv_nth vs i = some v → zv_ev ρ v = γ g) : ∀ {l : List zp} {outs : List zA} {X : zp}, zxs gs vs A rest l = some outs → X ∈ l → zP_ok τ γ [] r σ X ρX → (zhas3 X.1 = true → r.isSome = true) → (zhas3 X.1 = false → r = none) → ∃ A3 ∈ outs, ∃ ρ3, zA_ok τ ty ρ3 A3 clv (r.toList ++ crest) σ ∧ zag A.1.1.length ρ ρ3 ∧ A.1.1.length ≤ A3.1.1.length
  | [], outs, X, h, hX, _, _, _ => by cases hX
  | Y :: l, outs, X, h, hX, hP, h3, h4 => by
    unfold zxs at h
    split at h
    · rename_i q hq
      cases hwf : zp_wf Y
      · rw [hwf] at hq; cases hq
      · rw [hwf] at hq
        simp only [cond_true] at hq
        split at h
        · rename_i o ho
          cases h
          rcases List.mem_cons.mp hX with rfl | hX
          · obtain ⟨A2, ws, res⟩ := q
            obtain ⟨ρ2, b1, b2, b3, b4, b5, b6, b7, b8⟩ := zxb_ok (τ := τ) (ty := ty) (γ := γ) (clv := clv) (cst := crest) (σ := σ) (r := r) (ρX := ρX) (ws := []) (res := none) hA hvs hγ (fun j b c hj => by
              have e : ([] : List zv).length + j = j := Nat.zero_add j
              rw [e]
              have k := hP.1 j c (zcons_of hj)
              exact ⟨hP.2.2 j b c hj, k.1, k.2.1, k.2.2⟩) (fun k w hk => by cases hk) (fun v hv => by cases hv) hq
            have hlen := zxb_len hq
            have hsome : res.isSome = r.isSome := by
              rw [← b8]
              show zhas3 X.1 = r.isSome
              cases hz : zhas3 X.1 with
              | true => exact (h3 hz).symm
              | false => rw [h4 hz]; rfl
            have hA4 : zA_ok τ ty ρ2 (A2.1, A2.2.1, res.toList ++ rest, A2.2.2.2) clv (r.toList ++ crest) σ := by
              refine zA_st b1 (zst_app ?_ b7 hsome)
              rw [← hst, ← b5]
              exact b1.2.2.1
            obtain ⟨A3, e1, e2, e3, _⟩ := zasL_ok hA4 (zxf_ok (n := A2.1.1.length) b6 hP.2.1 (fun f hf => by
              rw [hlen]
              show zl_wf (0 + X.1.length) f.2 = true
              rw [Nat.zero_add]
              exact List.all_eq_true.mp hwf f hf))
            refine ⟨A3, ?_, ρ2, e2, b2, by rw [e3]; exact b3⟩
            rw [e1]
            exact List.mem_append_left _ (List.mem_singleton.mpr rfl)
          · obtain ⟨A3, e1, e2⟩ := zxs_ok hA hst hvs hγ ho hX hP h3 h4
            exact ⟨A3, List.mem_append_right _ e1, e2⟩
        · cases h
    · cases h
theorem zcl1_ok {ρ : Nat → Int} {ms : zm} {dep d : Nat} {as rest : List zv} {cas crest : List Value} {k : zct} {outs : List zA} {J : iv_H → Prop} (hk : zCT τ ty J k) (hJ : J σ) (hA : zA_ok τ ty ρ A clv cst σ) (hI : zI τ ty σ) (has : zst_ok ρ A.1.1.length as cas) (hrest : zst_ok ρ A.1.1.length rest crest) (hd : dep ≤ d + 1) (h : zcl1 ty ms dep A as rest k = some outs) : ∃ r σ1, iv_Rn L xs d k.1 0 (lv_args 0 cas) [] σ r σ1 ∧ zI τ ty σ1 ∧ J σ1 ∧ zFr τ ms σ σ1 ∧ ∃ A3 ∈ outs, ∃ ρ3, zA_ok τ ty ρ3 A3 clv (r.toList ++ crest) σ1 ∧ zag A.1.1.length ρ ρ3 ∧ A.1.1.length ≤ A3.1.1.length := by
  unfold zcl1 at h
  cases hb : Nat.blt k.2.1 dep && (zsubm k.2.2.1 ms && zgd k.2.2.2.1.2.2.2)
  · rw [hb] at h; cases h
  · rw [hb] at h
    rw [Bool.and_eq_true, Bool.and_eq_true, Nat.blt_eq] at hb
    obtain ⟨q1, q2, q3⟩ := hb
    simp only [cond_true] at h
    split at h
    · rename_i A1 h1
      have hA0 : zA_ok τ ty ρ (A.1, zlarg 0 as, [], A.2.2.2) (lv_args 0 cas) [] σ := ⟨hA.1, fun q hq => (zlarg_ok has q hq).2, trivial, hA.2.2.2⟩
      obtain ⟨ρ1, a1, a2, a3, a4, a5⟩ := zlds_ok (γ := fun _ => 0) hI hA0 (fun q hq => by cases hq) h1
      have a2 : zag A.1.1.length ρ ρ1 := a2
      have a3 : A.1.1.length ≤ A1.1.1.length := a3
      split at h
      · rename_i vs h2
        cases hf : zfa A1 vs k.2.2.2.1.2.1.2
        · rw [hf] at h; cases h
        · rw [hf] at h
          simp only [cond_true] at h
          have hG0 : zG_ok ρ1 A1.1.1.length (fun _ => 0) [] := fun q hq => by cases hq
          have hP := zP_of (r := none) a1 hG0 (fun v hv => by cases hv) h2 hf
          obtain ⟨w1, _⟩ := zlks_ok (r := none) a1 hG0 (fun v hv => by cases hv) h2
          obtain ⟨r, σ1, c1, c2, cJ, c3, X, c4, ⟨ρX, c5⟩, c6, c7⟩ := hk L xs d cas σ (zρ ρ1 vs) (by omega) hI hJ hP
          have hA5 := zafter (ms := k.2.2.1) a1 c3 (zlv_ag a2 a3 hA.2.1) (zst_ag a2 a3 hrest)
          obtain ⟨A3, e1, ρ3, e2, e3, e4⟩ := zxs_ok (γ := zγ k.2.2.2.1.2.2.2 (zρ ρ1 vs)) hA5 rfl w1 (fun g i v hg hv => by
            unfold zγ
            rw [hg]
            show _ = zρ ρ1 vs i
            unfold zρ
            rw [hv]) h c4 c5 c6 c7
          exact ⟨r, σ1, c1, c2, cJ, zFr_sub (zsubm_ok q2) c3, A3, e1, ρ3, e2, zag_tr a2 e3 a3, Nat.le_trans a3 e4⟩
      · cases h
    · cases h
theorem zflt_all {sf : zsf2} : ∀ {ms : zm}, (zflt sf ms).all sf = true
  | [] => rfl
  | q :: r => by
    unfold zflt
    cases h : sf q
    · exact zflt_all (ms := r)
    · show (sf q && (zflt sf r).all sf) = true
      rw [h, zflt_all (ms := r)]
      rfl
theorem zflt_sub {sf : zsf2} : ∀ {ms : zm}, zsub_m (zflt sf ms) ms
  | [], q, hq => by cases hq
  | p :: r, q, hq => by
    unfold zflt at hq
    unfold zmem
    cases hz : Nat.beq p.1 q.1 && (Nat.beq p.2.1 q.2.1 && Nat.beq p.2.2 q.2.2)
    · cases h : sf p
      · rw [h] at hq; exact zflt_sub q hq
      · rw [h] at hq
        simp only [cond_true] at hq
        unfold zmem at hq
        rw [hz] at hq
        exact zflt_sub q hq
    · rfl
theorem zcl2_in {ms : zm} {dep mm : Nat} {as rest : List zv} : ∀ {T : List zct} {outs : List zA}, zcl2 ty ms dep mm A as rest T = some outs → ∃ k ∈ T, k.1 = mm ∧ zcl1 ty ms dep A as rest k = some outs
  | [], outs, h => by cases h
  | k :: T, outs, h => by
    unfold zcl2 at h
    cases hb : Nat.beq k.1 mm
    · rw [hb] at h
      obtain ⟨k2, h1, h2⟩ := zcl2_in h
      exact ⟨k2, List.mem_cons_of_mem _ h1, h2⟩
    · rw [hb] at h
      simp only [cond_true] at h
      split at h
      · rename_i o ho
        cases h
        exact ⟨k, List.mem_cons_self, Nat.eq_of_beq_eq_true hb, ho⟩
      · obtain ⟨k2, h1, h2⟩ := zcl2_in h
        exact ⟨k2, List.mem_cons_of_mem _ h1, h2⟩
end ZMN
