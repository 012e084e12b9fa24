/-! ===== a checked certificate is a contract ===== -/
/-- an oracle is right -/
def zO_ok (τ : Nat → Nat) (ty : Nat → Option zt) (J : iv_H → Prop) (g : zA → Option (List zA)) : Prop := ∀ (ρ : Nat → Int) (A : zA) (clv : iv_L) (cst : List Value) (σ : iv_H) (outs : List zA), g A = some outs → zA_ok τ ty ρ A clv cst σ → zI τ ty σ → J σ → ∃ A' ∈ outs, ∃ ρ', zA_ok τ ty ρ' A' clv cst σ ∧ zag A.1.1.length ρ ρ' ∧ A.1.1.length ≤ A'.1.1.length
/-- stores that keep J -/
def zS1_ok (τ : Nat → Nat) (ty : Nat → Option zt) (J : iv_H → Prop) (s : zA → Bool) : Prop := ∀ (ρ : Nat → Int) (A : zA) (clv clv' : iv_L) (cst cst' : List Value) (σ σ' : iv_H) (L : Nat) (xs : Nat → Int32) (pc pc' : Nat), s A = true → zA_ok τ ty ρ A clv cst σ → zI τ ty σ → J σ → iv_oIst L xs pc clv cst σ = some (pc', clv', cst', σ') → J σ'
def zS2_ok (τ : Nat → Nat) (ty : Nat → Option zt) (J : iv_H → Prop) (s : Nat → Nat → zA → Bool) : Prop := ∀ (ci j : Nat) (fty : FieldType) (ρ : Nat → Int) (A : zA) (clv clv' : iv_L) (cst cst' : List Value) (σ σ' : iv_H) (L : Nat) (xs : Nat → Int32) (pc pc' : Nat), s ci j A = true → zA_ok τ ty ρ A clv cst σ → zI τ ty σ → J σ → iv_oPF ci j fty L xs pc clv cst σ = some (pc', clv', cst', σ') → J σ'
/-- a step by hand -/
def zM1_ok (τ : Nat → Nat) (ty : Nat → Option zt) (J : iv_H → Prop) (M pc : Nat) (q : zm × Nat × (zA → Option (List (Nat × zA)))) : Prop := ∀ (L : Nat) (xs : Nat → Int32) (ρ : Nat → Int) (A : zA) (clv : iv_L) (cst : List Value) (σ : iv_H) (outs : List (Nat × zA)) (d : Nat), q.2.1 ≤ d → q.2.2 A = some outs → zA_ok τ ty ρ A clv cst σ → zI τ ty σ → J σ → ∃ (pc' : Nat) (clv' : iv_L) (cst' : List Value) (σ' : iv_H) (A' : zA) (ρ' : Nat → Int), (∀ r σ'', iv_Rn L xs d M pc' clv' cst' σ' r σ'' → iv_Rn L xs d M pc clv cst σ r σ'') ∧ (pc', A') ∈ outs ∧ zA_ok τ ty ρ' A' clv' cst' σ' ∧ zI τ ty σ' ∧ J σ' ∧ zag A.1.1.length ρ ρ' ∧ A.1.1.length ≤ A'.1.1.length ∧ zFr τ q.1 σ σ'
def zM_ok (τ : Nat → Nat) (ty : Nat → Option zt) (J : iv_H → Prop) (mo : zmo) : Prop := ∀ (M pc : Nat) (q : zm × Nat × (zA → Option (List (Nat × zA)))), mo M pc = some q → zM1_ok τ ty J M pc q
def zOK (τ : Nat → Nat) (ty : Nat → Option zt) (J : iv_H → Prop) (oc : zorc) : Prop := (∀ (M pc : Nat) (g : zA → Option (List zA)), oc.1 M pc = some g → zO_ok τ ty J g) ∧ (zS1_ok τ ty J oc.2.1.1 ∧ zS2_ok τ ty J oc.2.1.2) ∧ zM_ok τ ty J oc.2.2
/-- no stores, no steps by hand -/
def zno : zso × zmo := ((fun _ => false, fun _ _ _ => false), fun _ _ => none)
theorem zno_ok {τ : Nat → Nat} {ty : Nat → Option zt} {J : iv_H → Prop} : (zS1_ok τ ty J zno.1.1 ∧ zS2_ok τ ty J zno.1.2) ∧ zM_ok τ ty J zno.2 := ⟨⟨fun ρ A clv clv' cst cst' σ σ' L xs pc pc' h => (by cases h), fun ci j fty ρ A clv clv' cst cst' σ σ' L xs pc pc' h => (by cases h)⟩, fun M pc q h => by cases h⟩
theorem zjc_ok {τ : Nat → Nat} {ty : Nat → Option zt} {J : iv_H → Prop} {so : zso} (h1 : zS1_ok τ ty J so.1) (h2 : zS2_ok τ ty J so.2) {M own nL : Nat} {ret : Option FieldType} {i : Instr} {A : zA} (hj : zjc so own i A = true) {f : iv_F} (hf : iv_op M own nL ret i = .inl f) {ρ : Nat → Int} {clv clv' : iv_L} {cst cst' : List Value} {σ σ' : iv_H} {L : Nat} {xs : Nat → Int32} {pc pc' : Nat} (hA : zA_ok τ ty ρ A clv cst σ) (hI : zI τ ty σ) (hJ : J σ) (hs : f L xs pc clv cst σ = some (pc', clv', cst', σ')) : J σ' := by
  unfold zjc at hj
  split at hj
  · cases hf
    exact h1 ρ A clv clv' cst cst' σ σ' L xs pc pc' hj hA hI hJ hs
  · rename_i k
    split at hj
    · rename_i ci j z1 z2 hk
      have hf2 : iv_opf M own k = .inl f := hf
      unfold iv_opf at hf2
      rw [hk] at hf2
      simp only at hf2
      cases hb : (bif (iv_T ci j).2.2.2 then iv_mem M iv_ini && Nat.beq own (ci + 1) else true)
      · rw [hb] at hf2
        cases hf2
        cases hs
      · rw [hb] at hf2
        cases hf2
        exact h2 ci j _ ρ A clv clv' cst cst' σ σ' L xs pc pc' hj hA hI hJ hs
    · cases hj
  · cases hj
section ZCR
variable {τ : Nat → Nat} {ty : Nat → Option zt} {J : iv_H → Prop} {sf : zsf2} {oc : zorc} {T : List zct} {inl : List Nat} {c : zct} {G : List (Nat × zv)} {m0 : zf} {γ : Nat → Int} {L : Nat} {xs : Nat → Int32} {σ0 : iv_H} {N : Int} {D : Nat}
/-- what the method's end is to be -/
def zPost (τ : Nat → Nat) (ty : Nat → Option zt) (J : iv_H → Prop) (c : zct) (γ : Nat → Int) (σ0 : iv_H) : Option Value → iv_H → Prop := fun r σ' => zI τ ty σ' ∧ J σ' ∧ zFr τ c.2.2.1 σ0 σ' ∧ ∃ X ∈ c.2.2.2.2.2, (∃ ρX, zP_ok τ γ [] r σ' X ρX) ∧ (zhas3 X.1 = true → r.isSome = true) ∧ (zhas3 X.1 = false → r = none)
theorem zGo_s {Post : Option Value → iv_H → Prop} {fs : List zfc} {d M pc pc' : Nat} {lv lv' : iv_L} {st st' : List Value} {σ σ1 : iv_H} {f : iv_F} (hf : iv_f1 (iv_p M) pc = some (.inl f)) (hs : f L xs pc lv st σ = some (pc', lv', st', σ1)) (k : zGo L xs Post fs d M pc' lv' st' σ1) : zGo L xs Post fs d M pc lv st σ := by
  obtain ⟨r, σ', h1, h2⟩ := k
  exact ⟨r, σ', Rs hf hs h1, h2⟩
theorem zGo_r {Post : Option Value → iv_H → Prop} {fs : List zfc} {d M pc k : Nat} {lv : iv_L} {st : List Value} {σ : iv_H} {r : Option Value} (hf : iv_f1 (iv_p M) pc = some (.inr (.inl k))) (hs : iv_rt k st σ = some (r, σ)) (h : zGK L xs Post fs d r σ) : zGo L xs Post fs d M pc lv st σ := ⟨r, σ, Rr hf hs, h⟩
theorem zGo_c {Post : Option Value → iv_H → Prop} {fs : List zfc} {d M pc kind mm nn ci : Nat} {lv : iv_L} {st as rest : List Value} {σ σ1 : iv_H} {r1 : Option Value} (hf : iv_f1 (iv_p M) pc = some (.inr (.inr (kind, mm, nn, ci)))) (ha : iv_args kind nn ci st σ = some (as, rest)) (hcs : Nat.ble (iv_cs as) (iv_m mm).2.2.1 = true) (hr : iv_Rn L xs d mm 0 (lv_args 0 as) [] σ r1 σ1) (k : zGo L xs Post fs (d + 1) M (pc + 3) lv (r1.toList ++ rest) σ1) : zGo L xs Post fs (d + 1) M pc lv st σ := by
  obtain ⟨r, σ', h1, h2⟩ := k
  exact ⟨r, σ', Rc hf ha hcs hr h1, h2⟩
theorem zfetch {M pc : Nat} {q : Instr × Nat} (h : iv_f1 (iv_m M).2.2.2.2 pc = some q) : iv_f1 (iv_p M) pc = some (iv_op M (iv_m M).2.1 (iv_m M).2.2.1 (iv_m M).2.2.2.1 q.1) := by
  unfold iv_p
  rw [iv_f1_map (fun q : Instr × Nat => iv_op M (iv_m M).2.1 (iv_m M).2.2.1 (iv_m M).2.2.2.1 q.1), h]
  rfl
set_option maxHeartbeats 1000000 in
theorem zdo1_ok {run : zY} (hT : zT τ) (hO : zOK τ ty J oc) (hJs : ∀ (ms : zm) (σ σ' : iv_H), ms.all sf = true → zFr τ ms σ σ' → J σ → J σ') (hC : ∀ k ∈ T, zCT τ ty J k) (hX : c.2.2.2.2.2.all (fun X => X.1.all (fun q => Nat.beq q.1.1 2 || (Nat.beq q.1.1 3 || Nat.beq q.1.1 5))) = true)
    (ih : ∀ (first : Bool) (fs : List zfm) (M pc dep : Nat) (A : zA) (ρ : Nat → Int) (clv : iv_L) (cst : List Value) (σ : iv_H) (cfs : List zfc) (d : Nat), run first fs M pc dep A = true → zA_ok τ ty ρ A clv cst σ → zI τ ty σ → J σ → zFr τ c.2.2.1 σ0 σ → zfs_ok ρ A.1.1.length fs cfs → zG_ok ρ A.1.1.length γ G → zl_wf A.1.1.length m0.2 = true → m0.1 + zl_ev ρ m0.2 = N → dep ≤ d → d + cfs.length = D → zGo L xs (zPost τ ty J c γ σ0) cfs d M pc clv cst σ)
    {fs : List zfm} {M pc dep : Nat} {A : zA} {ρ : Nat → Int} {clv : iv_L} {cst : List Value} {σ : iv_H} {cfs : List zfc} {d : Nat} {i : Instr} (hop : iv_f1 (iv_p M) pc = some (iv_op M (iv_m M).2.1 (iv_m M).2.2.1 (iv_m M).2.2.2.1 i)) (h : zdo1 τ ty sf oc T inl c G run fs M pc dep A i = true) (hA : zA_ok τ ty ρ A clv cst σ) (hI : zI τ ty σ) (hJ : J σ) (hF : zFr τ c.2.2.1 σ0 σ) (hfs : zfs_ok ρ A.1.1.length fs cfs) (hG : zG_ok ρ A.1.1.length γ G) (hm0 : zl_wf A.1.1.length m0.2 = true) (hN : m0.1 + zl_ev ρ m0.2 = N) (hdep : dep ≤ d) (hD : d + cfs.length = D) : zGo L xs (zPost τ ty J c γ σ0) cfs d M pc clv cst σ := by
  unfold zdo1 at h
  split at h
  · split at h
    · rename_i g hg
      split at h
      · rename_i outs ho
        obtain ⟨f, hf, hS⟩ := zins_ok (ret := (iv_m M).2.2.2.1) hT hg
        rw [hf] at hop
        obtain ⟨pc', clv', cst', σ', A', ρ', x1, x2, x3, x4, x5, x6, x7⟩ := hS ρ A clv cst σ L xs pc outs ho hA hI
        have h2 := List.all_eq_true.mp h _ x2
        have hJ2 : J σ' ∧ zFr τ c.2.2.1 σ σ' := by
          cases hjc : zjc oc.2.1 (iv_m M).2.1 i A
          · rw [hjc] at x7
            exact ⟨hJs _ _ _ zflt_all x7 hJ, zFr_sub zflt_sub x7⟩
          · rw [hjc] at x7
            exact ⟨zjc_ok hO.2.1.1 hO.2.1.2 hjc hf hA hI hJ x1, x7⟩
        refine zGo_s hop x1 (ih false fs M pc' dep A' ρ' clv' cst' σ' cfs d h2 x3 x4 hJ2.1 (zFr_tr (fun _ hq => hq) hF hJ2.2) (zfs_ag x5 x6 hfs) (zG_ag x5 x6 hG) (zl_wf_le x6 hm0) ?_ hdep hD)
        rw [zl_ag x5 hm0]; exact hN
      · cases h
    · cases h
  · rename_i k hk
    rw [hk] at hop
    split at h
    · rename_i res hr
      obtain ⟨r, y1, y2, y3⟩ := zret_ok hA hr
      refine zGo_r hop y1 ?_
      cases fs with
      | nil =>
        cases cfs with
        | cons g gs => exact hfs.elim
        | nil =>
          obtain ⟨X, z1, z2⟩ := List.any_eq_true.mp h
          obtain ⟨⟨ρX, z3⟩, z4, z5⟩ := zex_ok hA hI hG y2 y3 z2
          exact ⟨hI, hJ, hF, X, z1, ⟨ρX, zP_clv z3 (List.all_eq_true.mp hX X z1)⟩, z4, z5⟩
      | cons f fs2 =>
        cases cfs with
        | nil => exact hfs.elim
        | cons g gs =>
          obtain ⟨⟨w1, w2⟩, w3, w4, w5⟩ := hfs
          have hA2 : zA_ok τ ty ρ (A.1, f.2.2.1, res.toList ++ f.2.2.2, A.2.2.2) g.2.2.1 (r.toList ++ g.2.2.2) σ := ⟨hA.1, w3, zst_app w4 y2 y3, hA.2.2.2⟩
          have h9 := ih false fs2 f.1 f.2.1 (dep + 1) _ ρ g.2.2.1 (r.toList ++ g.2.2.2) σ gs (d + 1) h hA2 hI hJ hF w5 hG hm0 hN (by omega) (by rw [← hD]; simp; omega)
          rw [w1, w2] at h9
          exact h9
    · cases h
  · rename_i kind mm nn ci hk
    rw [hk] at hop
    split at h
    · rename_i as rest has
      obtain ⟨cas, crest, v1, v2, v3⟩ := zargs_ok hA hI has
      cases hb : Nat.ble (zcs as) (iv_m mm).2.2.1 && Nat.ble 1 dep
      · rw [hb] at h; cases h
      · rw [hb] at h
        rw [Bool.and_eq_true] at hb
        simp only [cond_true] at h
        have hcs : Nat.ble (iv_cs cas) (iv_m mm).2.2.1 = true := by rw [zcs_ok v2]; exact hb.1
        have hd1 := Nat.le_of_ble_eq_true hb.2
        obtain ⟨d', rfl⟩ : ∃ d', d = d' + 1 := ⟨d - 1, by omega⟩
        cases hin : iv_mem mm inl
        · rw [hin] at h
          simp only [cond_false] at h
          split at h
          · rename_i outs ho
            obtain ⟨k, u1, u2, u3⟩ := zcl2_in ho
            obtain ⟨r, σ1, t1, t2, tJ, t3, A3, t4, ρ3, t5, t6, t7⟩ := zcl1_ok (L := L) (xs := xs) (d := d') (hC k u1) hJ hA hI v2 v3 hdep u3
            rw [u2] at t1
            have h2 := List.all_eq_true.mp h A3 t4
            refine zGo_c hop v1 hcs t1 (ih false fs M (pc + 3) dep A3 ρ3 clv _ σ1 cfs (d' + 1) h2 t5 t2 tJ (zFr_tr (fun _ hq => hq) hF t3) (zfs_ag t6 t7 hfs) (zG_ag t6 t7 hG) (zl_wf_le t7 hm0) ?_ hdep hD)
            rw [zl_ag t6 hm0]; exact hN
          · cases h
        · rw [hin] at h
          simp only [cond_true] at h
          have hA2 : zA_ok τ ty ρ (A.1, zlarg 0 as, [], A.2.2.2) (lv_args 0 cas) [] σ := ⟨hA.1, fun q hq => (zlarg_ok v2 q hq).2, trivial, hA.2.2.2⟩
          obtain ⟨r, σ1, t1, r', σ2, t2, t3⟩ := ih false ((M, pc + 3, A.2.1, rest) :: fs) mm 0 (dep - 1) _ ρ (lv_args 0 cas) [] σ ((M, pc + 3, clv, crest) :: cfs) d' h hA2 hI hJ hF ⟨⟨rfl, rfl⟩, hA.2.1, v3, hfs⟩ hG hm0 hN (by omega) (by rw [← hD]; simp; omega)
          exact zGo_c hop v1 hcs t1 ⟨r', σ2, t2, t3⟩
    · cases h
set_option maxHeartbeats 1000000 in
theorem zrun_ok (hT : zT τ) (hJs : ∀ (ms : zm) (σ σ' : iv_H), ms.all sf = true → zFr τ ms σ σ' → J σ → J σ') (hO : zOK τ ty J oc) (hC : ∀ k ∈ T, zCT τ ty J k) (hX : c.2.2.2.2.2.all (fun X => X.1.all (fun q => Nat.beq q.1.1 2 || (Nat.beq q.1.1 3 || Nat.beq q.1.1 5))) = true)
    (hcut : ∀ t ∈ c.2.2.2.2.1, ∀ (ρ' : Nat → Int) (clv' : iv_L) (σ' : iv_H), zP_ok τ γ clv' none σ' t.2.1 ρ' → (∀ q ∈ t.2.2.2, γ q.1 = ρ' q.2) → t.2.2.1.1 + zl_ev ρ' t.2.2.1.2 < N → zI τ ty σ' → J σ' → zFr τ c.2.2.1 σ0 σ' → zGo L xs (zPost τ ty J c γ σ0) [] D c.1 t.1 clv' [] σ') :
    ∀ (n : Nat) (first : Bool) (fs : List zfm) (M pc dep : Nat) (A : zA) (ρ : Nat → Int) (clv : iv_L) (cst : List Value) (σ : iv_H) (cfs : List zfc) (d : Nat), zrun τ ty sf oc T inl c G m0 n first fs M pc dep A = true → zA_ok τ ty ρ A clv cst σ → zI τ ty σ → J σ → zFr τ c.2.2.1 σ0 σ → zfs_ok ρ A.1.1.length fs cfs → zG_ok ρ A.1.1.length γ G → zl_wf A.1.1.length m0.2 = true → m0.1 + zl_ev ρ m0.2 = N → dep ≤ d → d + cfs.length = D → zGo L xs (zPost τ ty J c γ σ0) cfs d M pc clv cst σ := by
  intro n
  induction n with
  | zero => intro first fs M pc dep A ρ clv cst σ cfs d h; cases h
  | succ n ih =>
    intro first fs M pc dep A ρ clv cst σ cfs d h hA hI hJ hF hfs hG hm0 hN hdep hD
    rw [zrun_s] at h
    unfold zstep at h
    cases hcq : zatc c first fs M pc
    · rw [hcq] at h
      simp only [cond_false] at h
      split at h
      · rename_i q hq
        have hop := zfetch hq
        unfold zdo at h
        split at h
        · rename_i q9 hq9
          cases hb : zsubm q9.1 c.2.2.1 && Nat.ble q9.2.1 dep
          · rw [hb] at h; cases h
          · rw [hb] at h
            rw [Bool.and_eq_true] at hb
            simp only [cond_true] at h
            split at h
            · rename_i outs ho
              have hd9 := Nat.le_of_ble_eq_true hb.2
              obtain ⟨pc', clv', cst', σ', A', ρ', y0, y1, y2, y3, y4, y5, y6, y7⟩ := hO.2.2 M pc q9 hq9 L xs ρ A clv cst σ outs d (by omega) ho hA hI hJ
              obtain ⟨r, σ2, g1, g2⟩ := ih false fs M pc' dep A' ρ' clv' cst' σ' cfs d (List.all_eq_true.mp h _ y1) y2 y3 y4 (zFr_tr (fun _ hq => hq) hF (zFr_sub (zsubm_ok hb.1) y7)) (zfs_ag y5 y6 hfs) (zG_ag y5 y6 hG) (zl_wf_le y6 hm0) (by rw [zl_ag y5 hm0]; exact hN) hdep hD
              exact ⟨r, σ2, y0 r σ2 g1, g2⟩
            · cases h
        · split at h
          · exact zdo1_ok hT hO hJs hC hX ih hop h hA hI hJ hF hfs hG hm0 hN hdep hD
          · rename_i g hg
            split at h
            · rename_i outs ho
              obtain ⟨A2, o1, ρ2, o2, o3, o4⟩ := hO.1 M pc g hg ρ A clv cst σ outs ho hA hI hJ
              exact zdo1_ok hT hO hJs hC hX ih hop (List.all_eq_true.mp h A2 o1) o2 hI hJ hF (zfs_ag o3 o4 hfs) (zG_ag o3 o4 hG) (zl_wf_le o4 hm0) (by rw [zl_ag o3 hm0]; exact hN) hdep hD
            · cases h
      · cases h
    · rw [hcq] at h
      simp only [cond_true] at h
      obtain ⟨e1, e2⟩ := zatc_in hcq
      subst e1
      subst e2
      obtain ⟨t, z1, z2⟩ := List.any_eq_true.mp h
      rw [Bool.and_eq_true] at z2
      have e3 := Nat.eq_of_beq_eq_true z2.1
      obtain ⟨e4, ρ', z3, z4, z5⟩ := zcx2_ok hA hI hG hm0 z2.2
      subst e4
      cases cfs with
      | cons g gs => exact hfs.elim
      | nil =>
        have e5 : d = D := hD
        rw [← e3, e5]
        exact hcut t z1 ρ' clv σ z3 z4 (by rw [← hN]; exact z5) hI hJ hF
/-- from each of its points -/
theorem zpts (hT : zT τ) (hJs : ∀ (ms : zm) (σ σ' : iv_H), ms.all sf = true → zFr τ ms σ σ' → J σ → J σ') (hO : zOK τ ty J oc) (hC : ∀ k ∈ T, zCT τ ty J k) (hX : c.2.2.2.2.2.all (fun X => X.1.all (fun q => Nat.beq q.1.1 2 || (Nat.beq q.1.1 3 || Nat.beq q.1.1 5))) = true) {n : Nat} (hall : ∀ t ∈ c.2.2.2.2.1, zpt τ ty sf oc T inl c n t = true) (hDh : c.2.1 ≤ D) : ∀ (m : Nat) (t : zcut) (ρ : Nat → Int) (clv : iv_L) (σ : iv_H), zpt τ ty sf oc T inl c n t = true → zP_ok τ γ clv none σ t.2.1 ρ → (∀ q ∈ t.2.2.2, γ q.1 = ρ q.2) → t.2.2.1.1 + zl_ev ρ t.2.2.1.2 < (m : Int) → zI τ ty σ → J σ → zFr τ c.2.2.1 σ0 σ → zGo L xs (zPost τ ty J c γ σ0) [] D c.1 t.1 clv [] σ := by
  intro m
  induction m with
  | zero =>
    intro t ρ clv σ ht hP hg hm hI hJ hF
    exfalso
    unfold zpt at ht
    simp only [Bool.and_eq_true] at ht
    have h1 := zle_iff.mp ht.1.2.2
    have h2 := zlb_ok (τ := τ) (E := zcons t.2.1.1) (F := t.2.1.2) hP.1 (fun f hf => ⟨by rw [zcons_len]; exact List.all_eq_true.mp ht.1.1.1 f hf, hP.2.1 f hf⟩) (c := t.2.2.1.1) (l := t.2.2.1.2) (by rw [zcons_len]; exact ht.1.2.1)
    have h3 : t.2.2.1.1 + zl_ev ρ t.2.2.1.2 < 0 := hm
    omega
  | succ m ih =>
    intro t ρ clv σ ht hP hg hm hI hJ hF
    have ht0 := ht
    unfold zpt at ht
    simp only [Bool.and_eq_true] at ht
    obtain ⟨⟨⟨k1, k2⟩, k3, k4⟩, k5⟩ := ht
    refine zrun_ok (N := t.2.2.1.1 + zl_ev ρ t.2.2.1.2) (D := D) hT hJs hO hC hX ?_ n true [] c.1 t.1 c.2.1 (zpA t.2.1) ρ clv [] σ [] D k5 (zpA_ok k1 hP) hI hJ hF trivial ?_ ?_ rfl hDh rfl
    · intro t2 ht2 ρ2 clv2 σ2 hP2 hg2 hm2 hI2 hJ2 hF2
      exact ih t2 ρ2 clv2 σ2 (hall t2 ht2) hP2 hg2 (by omega) hI2 hJ2 hF2
    · show zG_ok ρ (zcons t.2.1.1).length γ (zpG t.2.1 t.2.2.2)
      rw [zcons_len]
      exact zpG_ok hg
    · show zl_wf (zcons t.2.1.1).length t.2.2.1.2 = true
      rw [zcons_len]
      exact k3
end ZCR
theorem zchk_ok {τ : Nat → Nat} {ty : Nat → Option zt} {J : iv_H → Prop} {sf : zsf2} {oc : zorc} {T : List zct} {inl : List Nat} {c : zct} {n : Nat} (hT : zT τ) (hJs : ∀ (ms : zm) (σ σ' : iv_H), ms.all sf = true → zFr τ ms σ σ' → J σ → J σ') (hO : zOK τ ty J oc) (hC : ∀ k ∈ T, zCT τ ty J k) (h : zchk τ ty sf oc T inl n c = true) : zCT τ ty J c := by
  unfold zchk at h
  simp only [Bool.and_eq_true] at h
  obtain ⟨⟨⟨h0, hE⟩, hX⟩, h1, h2⟩ := h
  intro L xs d cas σ ρ hd hI hJ hP
  have hg := zgd_ok (gs := c.2.2.2.1.2.2.2) (ρ0 := ρ) (by
    have h3 := h1
    unfold zpt at h3
    simp only [Bool.and_eq_true] at h3
    exact h3.1.1.2)
  have hP2 : zP_ok τ (zγ c.2.2.2.1.2.2.2 ρ) (lv_args 0 cas) none σ c.2.2.2.1.2.1 ρ := by
    refine ⟨hP.1, hP.2.1, fun i b c9 hi => ?_⟩
    have h3 := hP.2.2 i b c9 hi
    have h4 := List.all_eq_true.mp hE _ (zn_in hi)
    unfold zsrc at h3 ⊢
    simp only [Bool.or_eq_true] at h4
    rcases h4 with e | e
    · rw [Nat.eq_of_beq_eq_true e] at h3 ⊢; exact h3
    · rw [Nat.eq_of_beq_eq_true e] at h3 ⊢; exact h3
  obtain ⟨r, σ', k1, k2, k3, k4⟩ := zpts (γ := zγ c.2.2.2.1.2.2.2 ρ) (σ0 := σ) (L := L) (xs := xs) (D := d) hT hJs hO hC hX (List.all_eq_true.mp h2) hd ((c.2.2.2.1.2.2.1.1 + zl_ev ρ c.2.2.2.1.2.2.1.2).toNat + 1) c.2.2.2.1 ρ (lv_args 0 cas) σ h1 hP2 hg (by omega) hI hJ zFr_rf
  rw [Nat.eq_of_beq_eq_true h0] at k1
  exact ⟨r, σ', k1, k2, k3, k4⟩
