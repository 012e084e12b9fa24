/-! ===== cells that are made; statics; the JDK's own ===== -/
section IVN
variable {p : Program} {l : Launch} {e : Env} {R : Room} {s : State} {m : MethodId} {args : Array Value} {below : List Frame} {meth : Method} {c : Code} {Q : State → Prop} {ad cy : Nat → Nat} {D : va_G} {base L : Nat} {xs : Nat → Int32} {c0 n0 nL : Nat}
variable {cc : ByteArray} {pc pc' len own kx : Nat} {nm : String} {lv lv' : iv_L} {st st' : List Value} {σ σ' : iv_H}
theorem iv_big_ok {n : Int32} (h : iv_big n = false) : ¬ n < 0 ∧ n.toNatClampNeg ≤ 60000000 := by
  unfold iv_big at h
  by_cases h0 : n < 0
  · rw [decide_eq_true h0] at h; cases h
  · rw [decide_eq_false h0] at h
    have h1 : Nat.blt 60000000 n.toNatClampNeg = false := h
    refine ⟨h0, Nat.le_of_not_lt fun q => ?_⟩
    rw [show Nat.blt 60000000 n.toNatClampNeg = true from by rw [Nat.blt_eq]; exact q] at h1
    cases h1
theorem iv_s_New {ci : Nat} (C : iv_C0 ad cy D base L xs p s m args meth c cc nL own nm) (hci : ci < 13) (h1 : Cond.classLink (iv_R own) kx (iv_C ci) ∈ iv_G) (h2 : Cond.instantiable (iv_C ci) (iv_fn ci) ∈ iv_G) (h3 : Cond.initialized (iv_C ci) ∈ iv_G) (hd : decode cc pc = .ok (.new kx, 3)) (hz : s.heap.size = base + c0) (hc0 : c0 ≤ σ.1) (hn0 : n0 ≤ σ.2.2) (hRc : σ'.1 - c0 ≤ R.cells) (hRs : σ'.2.2 - n0 ≤ R.slots) (k : iv_Nx ad cy D base c0 n0 nL p l e R s m args below meth c Q pc' lv' st' σ') (h : iv_oNew ci L xs pc lv st σ = some (pc', lv', st', σ')) : iv_Nx ad cy D base c0 n0 nL p l e R s m args below meth c Q pc lv st σ := by
  obtain ⟨hx, hb, hml, hown, hts, hK, hnm⟩ := C
  unfold iv_oNew at h
  simp only [Option.some.injEq, Prod.mk.injEq] at h
  obtain ⟨rfl, rfl, rfl, rfl⟩ := h
  rw [iv_psh_eq] at k hRc hRs
  have hRc : σ.1 + 1 - c0 ≤ R.cells := hRc
  have hRs : σ.2.2 + iv_fn ci - n0 ≤ R.slots := hRs
  intro H locs ls hvv hP hS
  refine va_new (ci := ci) (fs := (iv_dvs (iv_fty ci) (iv_fn ci)).map (iv_v ad)) (C := iv_C ci) (T := iv_T ci) (N := iv_fn ci) hx hb hts (iv_lay_in ci hci) (iv_fty ci) (iv_fty_ok ci hci) hown (hts _ h1) (hts _ h2) (hts _ h3) hK.1.1 hP (iv_D hK.2.2.2.2.2) hS (fun q hq => by show base ≤ q; omega) (iv_cl_at ci hci) (fun j hj => ?_) (by omega) (by omega) hd (fun q H1 hP1 hD1 hS1 => iv_Wsz fun hsz => ?_)
  · unfold vp_V
    rw [List.getD_eq_getElem?_getD, List.getElem?_map, iv_dvs_at _ _ _ hj]
    show _ = iv_v ad (iv_dv (iv_fty ci j))
    rw [iv_v_dv, iv_dv_ok ci hci j hj]
  · have hq := iv_fresh hK.2.2.2.2.2 hP1 hD1 hsz hz hc0
    subst hq
    have hP2 : va_P D vwCl (iv_W ad cy (σ.1 + 1, iv_up σ.2.1 σ.1 (.inr (ci, iv_dvs (iv_fty ci) (iv_fn ci))), σ.2.2 + iv_fn ci)) H1 := by
      rw [← iv_W_psh]
      exact hP1
    refine W.cs ?_ ?_ (k H1 locs ls hvv hP2 hS1)
    · show σ.1 - c0 + 1 = σ.1 + 1 - c0
      omega
    · show σ.2.2 - n0 + iv_fn ci = σ.2.2 + iv_fn ci - n0
      omega
theorem iv_s_Na {t : Nat} {z : vp_A} {aty : ArrayType} (C : iv_C0 ad cy D base L xs p s m args meth c cc nL own nm) (ht : t ≤ 2) (hty : newarray.typeOf aty = iv_et t) (harr : Cond.arrayClass (iv_et t) ∈ iv_G) (hz1 : ∀ (n : Nat) (cA : ClassId), vp_cell cA (iv_a ad (n, z.2)) = arrV cA n (fun _ => defaultValue (iv_et t))) (hcb : componentBytes (iv_et t) ≤ 8) (hd : decode cc pc = .ok (.newarray aty, 2)) (hz : s.heap.size = base + c0) (hc0 : c0 ≤ σ.1) (hn0 : n0 ≤ σ.2.2) (hRc : σ'.1 - c0 ≤ R.cells) (hRs : σ'.2.2 - n0 ≤ R.slots) (k : iv_Nx ad cy D base c0 n0 nL p l e R s m args below meth c Q pc' lv' st' σ') (h : iv_oNa t z L xs pc lv st σ = some (pc', lv', st', σ')) : iv_Nx ad cy D base c0 n0 nL p l e R s m args below meth c Q pc lv st σ := by
  obtain ⟨hx, hb, hml, hown, hts, hK, hnm⟩ := C
  unfold iv_oNa at h
  split at h
  · rename_i n r
    cases hbg : iv_big n <;> rw [hbg] at h <;> simp only [cond_true, cond_false] at h
    · simp only [Option.some.injEq, Prod.mk.injEq] at h
      obtain ⟨rfl, rfl, rfl, rfl⟩ := h
      rw [iv_psh_eq] at k hRc hRs
      have hRc : σ.1 + 1 - c0 ≤ R.cells := hRc
      have hRs : σ.2.2 + n.toNatClampNeg - n0 ≤ R.slots := hRs
      obtain ⟨g1, g2⟩ := iv_big_ok hbg
      intro H locs ls hvv hP hS
      have hm : n.toNatClampNeg * componentBytes (iv_et t) ≤ n.toNatClampNeg * 8 := Nat.mul_le_mul_left _ hcb
      refine va_newa (a0 := iv_a ad (n.toNatClampNeg, z.2)) hx hb (by rw [hty]; exact hts _ harr) hty hK.1.1 hP (iv_D hK.2.2.2.2.2) hS (fun q hq => by show base ≤ q; omega) (hz1 _) g1 rfl (by omega) (by omega) (by omega) hd (fun q cA H1 hK1 hP1 hD1 hS1 => iv_Wsz fun hsz => ?_)
      have hq := iv_fresh hK.2.2.2.2.2 hP1 hD1 hsz hz hc0
      subst hq
      have ecA : cA = cy t := by
        have r1 := (hK1.2 8 (cA, iv_et t) (by rfl)).2
        have r2 := (hK.1.1.2 t _ (iv_tys_at t (by omega))).2
        rcases t with _ | _ | _ | t
        · exact Option.some.inj ((show s.vm.findClass ("[" ++ FieldType.int.toString) = some cA from r1).symm.trans r2)
        · exact Option.some.inj ((show s.vm.findClass ("[" ++ FieldType.long.toString) = some cA from r1).symm.trans r2)
        · exact Option.some.inj ((show s.vm.findClass ("[" ++ FieldType.boolean.toString) = some cA from r1).symm.trans r2)
        · exact absurd ht (by omega)
      subst ecA
      have hP2 : va_P D vwCl (iv_W ad cy (σ.1 + 1, iv_up σ.2.1 σ.1 (.inl (t, n.toNatClampNeg, z.2)), σ.2.2 + n.toNatClampNeg)) H1 := by
        rw [← iv_W_psh]
        exact hP1
      refine W.cs ?_ ?_ (k H1 locs ls hvv hP2 hS1)
      · show σ.1 - c0 + 1 = σ.1 + 1 - c0
        omega
      · show σ.2.2 - n0 + n.toNatClampNeg = σ.2.2 + n.toNatClampNeg - n0
        omega
    · cases h
  · cases h
theorem iv_s_Nq {t : Nat} {C9 : String} (C : iv_C0 ad cy D base L xs p s m args meth c cc nL own nm) (ht : 3 ≤ t ∧ t ≤ 6) (hC9 : iv_et t = .object C9) (hao : C9 ∈ iv_aoC) (hl : Cond.classLink (iv_R own) kx C9 ∈ iv_G) (hd : decode cc pc = .ok (.anewarray kx, 3)) (hz : s.heap.size = base + c0) (hc0 : c0 ≤ σ.1) (hn0 : n0 ≤ σ.2.2) (hRc : σ'.1 - c0 ≤ R.cells) (hRs : σ'.2.2 - n0 ≤ R.slots) (k : iv_Nx ad cy D base c0 n0 nL p l e R s m args below meth c Q pc' lv' st' σ') (h : iv_oNq t L xs pc lv st σ = some (pc', lv', st', σ')) : iv_Nx ad cy D base c0 n0 nL p l e R s m args below meth c Q pc lv st σ := by
  obtain ⟨hx, hb, hml, hown, hts, hK, hnm⟩ := C
  unfold iv_oNq at h
  split at h
  · rename_i n r
    cases hbg : iv_big n <;> rw [hbg] at h <;> simp only [cond_true, cond_false] at h
    · simp only [Option.some.injEq, Prod.mk.injEq] at h
      obtain ⟨rfl, rfl, rfl, rfl⟩ := h
      rw [iv_psh_eq] at k hRc hRs
      have hRc : σ.1 + 1 - c0 ≤ R.cells := hRc
      have hRs : σ.2.2 + n.toNatClampNeg - n0 ≤ R.slots := hRs
      obtain ⟨g1, g2⟩ := iv_big_ok hbg
      intro H locs ls hvv hP hS
      refine va_newq hx hb hown (hts _ hl) (hK.1.2.2.1 _ hao) hK.1.1 hP (iv_D hK.2.2.2.2.2) hS (fun q hq => by show base ≤ q; omega) g1 rfl (by omega) (by omega) (by omega) hd (fun q cA H1 hK1 hP1 hD1 hS1 => iv_Wsz fun hsz => ?_)
      have hq := iv_fresh hK.2.2.2.2.2 hP1 hD1 hsz hz hc0
      subst hq
      have ecA : cA = cy t := by
        have r1 := (hK1.2 8 (cA, .object C9) (by rfl)).2
        have r2 := (hK.1.1.2 t _ (iv_tys_at t (by omega))).2
        rw [hC9] at r2
        obtain ⟨_, _, -, -, -, q1⟩ := r1
        obtain ⟨_, _, -, -, -, q2⟩ := r2
        exact Option.some.inj (q1.symm.trans q2)
      subst ecA
      have hP2 : va_P D vwCl (iv_W ad cy (σ.1 + 1, iv_up σ.2.1 σ.1 (.inl (t, n.toNatClampNeg, .inr (.inr (.inr (.inr (fun _ => none)))))), σ.2.2 + n.toNatClampNeg)) H1 := by
        rw [← iv_W_psh]
        exact hP1
      refine W.cs ?_ ?_ (k H1 locs ls hvv hP2 hS1)
      · show σ.1 - c0 + 1 = σ.1 + 1 - c0
        omega
      · show σ.2.2 - n0 + n.toNatClampNeg = σ.2.2 + n.toNatClampNeg - n0
        omega
    · cases h
  · cases h
theorem iv_s_SW {j : Nat} (C : iv_C0 ad cy D base L xs p s m args meth c cc nL own nm) (hj : j < 28) (hl : Cond.fieldLink (iv_R own) kx RX11 (iv_nm.getD j "") "LGraterOrder$Word;" ∈ iv_G) (hd : decode cc pc = .ok (.getstatic kx, 3)) (k : iv_Nx ad cy D base c0 n0 nL p l e R s m args below meth c Q pc' lv' st' σ') (h : iv_oS (2 * j + 3) L xs pc lv st σ = some (pc', lv', st', σ')) : iv_Nx ad cy D base c0 n0 nL p l e R s m args below meth c Q pc lv st σ := by
  obtain ⟨hx, hb, hml, hown, hts, hK, hnm⟩ := C
  unfold iv_oS at h
  simp only [Option.some.injEq, Prod.mk.injEq] at h
  obtain ⟨rfl, rfl, rfl, rfl⟩ := h
  intro H locs ls hvv hP hS
  exact va_gets hx hb (hK.2.1.1.1 j hj).1 hS hown (hts _ hl) (fun _ h9 => h9) hd (k H locs ls hvv hP hS)
theorem iv_s_SM (C : iv_C0 ad cy D base L xs p s m args meth c cc nL own nm) (hl : Cond.fieldLink (iv_R own) kx RX0 "$SwitchMap$GraterOrder$Word" "[I" ∈ iv_G) (hd : decode cc pc = .ok (.getstatic kx, 3)) (k : iv_Nx ad cy D base c0 n0 nL p l e R s m args below meth c Q pc' lv' st' σ') (h : iv_oS 101 L xs pc lv st σ = some (pc', lv', st', σ')) : iv_Nx ad cy D base c0 n0 nL p l e R s m args below meth c Q pc lv st σ := by
  obtain ⟨hx, hb, hml, hown, hts, hK, hnm⟩ := C
  unfold iv_oS at h
  simp only [Option.some.injEq, Prod.mk.injEq] at h
  obtain ⟨rfl, rfl, rfl, rfl⟩ := h
  intro H locs ls hvv hP hS
  exact va_gets hx hb hK.2.1.2.2.1 hS hown (hts _ hl) (fun _ h9 => h9) hd (k H locs ls hvv hP hS)
theorem iv_s_SA (C : iv_C0 ad cy D base L xs p s m args meth c cc nL own nm) (hl : Cond.fieldLink (iv_R own) kx RX11 "ALL" "[LGraterOrder$Word;" ∈ iv_G) (hd : decode cc pc = .ok (.getstatic kx, 3)) (k : iv_Nx ad cy D base c0 n0 nL p l e R s m args below meth c Q pc' lv' st' σ') (h : iv_oS 103 L xs pc lv st σ = some (pc', lv', st', σ')) : iv_Nx ad cy D base c0 n0 nL p l e R s m args below meth c Q pc lv st σ := by
  obtain ⟨hx, hb, hml, hown, hts, hK, hnm⟩ := C
  unfold iv_oS at h
  simp only [Option.some.injEq, Prod.mk.injEq] at h
  obtain ⟨rfl, rfl, rfl, rfl⟩ := h
  intro H locs ls hvv hP hS
  exact va_gets hx hb (iv_K_S hK).2.2.1.2 hS hown (hts _ hl) (fun _ h9 => h9) hd (k H locs ls hvv hP hS)
theorem iv_s_Wt (C : iv_C0 ad cy D base L xs p s m args meth c cc nL own nm) (hl : Cond.fieldLink (iv_R own) kx RX11 "text" "Ljava/lang/String;" ∈ iv_G) (hd : decode cc pc = .ok (.getfield kx, 3)) (k : iv_Nx ad cy D base c0 n0 nL p l e R s m args below meth c Q pc' lv' st' σ') (h : iv_oWt L xs pc lv st σ = some (pc', lv', st', σ')) : iv_Nx ad cy D base c0 n0 nL p l e R s m args below meth c Q pc lv st σ := by
  obtain ⟨hx, hb, hml, hown, hts, hK, hnm⟩ := C
  unfold iv_oWt at h
  split at h
  · rename_i a r
    cases hq : iv_isW a <;> rw [hq] at h <;> simp only [cond_true, cond_false] at h
    · cases h
    · obtain ⟨j, hj, rfl⟩ := iv_isW_of hq
      simp only [Option.some.injEq, Prod.mk.injEq] at h
      obtain ⟨rfl, rfl, rfl, rfl⟩ := h
      intro H locs ls hvv hP hS
      exact vk_getf hx hb ((iv_K_S hK).2.1 j hj) hS hown (hts _ hl) (fun _ h9 => h9) hd (k H locs ls hvv hP hS)
  · cases h
theorem iv_s_KS {i : Nat} {q : String × Nat × String × Nat} (C : iv_C0 ad cy D base L xs p s m args meth c cc nL own nm) (hq : iv_nth iv_skl i = some q) (ho : q.1 = iv_R own) (hd : decode cc pc = .ok (.ldc q.2.1, 2)) (k : iv_Nx ad cy D base c0 n0 nL p l e R s m args below meth c Q pc' lv' st' σ') (h : iv_oK (.ref (2 * i + 203)) 2 L xs pc lv st σ = some (pc', lv', st', σ')) : iv_Nx ad cy D base c0 n0 nL p l e R s m args below meth c Q pc lv st σ := by
  obtain ⟨hx, hb, hml, hown, hts, hK, hnm⟩ := C
  unfold iv_oK at h
  simp only [Option.some.injEq, Prod.mk.injEq] at h
  obtain ⟨rfl, rfl, rfl, rfl⟩ := h
  intro H locs ls hvv hP hS
  exact va_ldcS hx hb (own := q.1) (tx := q.2.2.1) (by rw [ho]; exact hown) ((iv_K_S hK).2.2.2.2 i q hq) hd (k H locs ls hvv hP hS)
theorem iv_s_Ob (C : iv_C0 ad cy D base L xs p s m args meth c cc nL own nm) (hl : Cond.methodLink (iv_R own) kx objectInit ∈ iv_G) (hd : decode cc pc = .ok (.invokespecial kx, 3)) (hR : 1 ≤ R.frames ∧ 60 ≤ R.locals) (k : iv_Nx ad cy D base c0 n0 nL p l e R s m args below meth c Q pc' lv' st' σ') (h : iv_oOb L xs pc lv st σ = some (pc', lv', st', σ')) : iv_Nx ad cy D base c0 n0 nL p l e R s m args below meth c Q pc lv st σ := by
  obtain ⟨hx, hb, hml, hown, hts, hK, hnm⟩ := C
  unfold iv_oOb at h
  split at h
  · rename_i a r
    cases hq : Nat.blt 8 (iv_cs r) <;> rw [hq] at h <;> simp only [cond_true, cond_false] at h
    · simp only [Option.some.injEq, Prod.mk.injEq] at h
      obtain ⟨rfl, rfl, rfl, rfl⟩ := h
      have h8 : iv_cs r ≤ 8 := Nat.le_of_not_lt fun z => by rw [show Nat.blt 8 (iv_cs r) = true from by rw [Nat.blt_eq]; exact z] at hq; cases hq
      intro H locs ls hvv hP hS
      refine W.objInit (a := ad a) (rest := iv_sm ad r) hx hb hown (hts _ hl) (hts _ (iv_glob 0 rfl)) (hts _ (iv_glob 1 rfl)) rfl (by rw [hml]; exact hvv.1) rfl hd hR.1 (by rw [iv_cs_eq]; show 2 * 0 + iv_cs r + 12 ≤ _; omega) ?_
      exact k H locs ls hvv hP hS
    · cases h
  · cases h
theorem iv_s_Cp (C : iv_C0 ad cy D base L xs p s m args meth c cc nL own nm) (hl : Cond.methodLink (iv_R own) kx arraycopyName ∈ iv_G) (hd : decode cc pc = .ok (.invokestatic kx, 3)) (hR : 1 ≤ R.frames ∧ 60 ≤ R.locals) (k : iv_Nx ad cy D base c0 n0 nL p l e R s m args below meth c Q pc' lv' st' σ') (h : iv_oCp L xs pc lv st σ = some (pc', lv', st', σ')) : iv_Nx ad cy D base c0 n0 nL p l e R s m args below meth c Q pc lv st σ := by
  obtain ⟨hx, hb, hml, hown, hts, hK, hnm⟩ := C
  unfold iv_oCp at h
  split at h
  · rename_i n dp b sp a r
    cases hq : ((decide (sp < 0) || decide (dp < 0)) || (decide (n < 0) || Nat.blt 8 (iv_cs r))) <;> rw [hq] at h <;> simp only [cond_true, cond_false] at h
    · rw [Bool.or_eq_false_iff, Bool.or_eq_false_iff, Bool.or_eq_false_iff] at hq
      obtain ⟨⟨q1, q2⟩, q3, q4⟩ := hq
      have h8 : iv_cs r ≤ 8 := Nat.le_of_not_lt fun z => by rw [show Nat.blt 8 (iv_cs r) = true from by rw [Nat.blt_eq]; exact z] at q4; cases q4
      split at h
      · rename_i n0' f n1' g hga hgb
        obtain ⟨k0, rfl, hk0, he0⟩ := iv_get_ok hga
        obtain ⟨k1, rfl, hk1, he1⟩ := iv_get_ok hgb
        cases hc : (Nat.ble (sp.toNatClampNeg + n.toNatClampNeg) n0' && Nat.ble (dp.toNatClampNeg + n.toNatClampNeg) n1') <;> rw [hc] at h <;> simp only [cond_true, cond_false] at h
        · cases h
        · rw [Bool.and_eq_true] at hc
          simp only [Option.some.injEq, Prod.mk.injEq] at h
          obtain ⟨rfl, rfl, rfl, rfl⟩ := h
          rw [iv_put_eq] at k
          intro H locs ls hvv hP hS
          have hat0 := iv_W_at (ad := ad) (cy := cy) hk0
          rw [he0] at hat0
          have hat1 := iv_W_at (ad := ad) (cy := cy) hk1
          rw [he1] at hat1
          exact va_copyi hx hb (hml.trans hvv.1.symm) hown (hts _ hl) (hts _ (iv_glob 2 rfl)) (hts _ (iv_glob 3 rfl)) (hts _ (iv_glob 4 rfl)) hK.1.1 hP (iv_D hK.2.2.2.2.2) hS k0 k1 0 0 (n0 := n0') (n1 := n1') (f := f) (g := g) (ty := .int) hat0 hat1 rfl rfl rfl (of_decide_eq_false q1) (of_decide_eq_false q2) (of_decide_eq_false q3) (Nat.le_of_ble_eq_true hc.1) (Nat.le_of_ble_eq_true hc.2) (fun _ _ => rfl) hR.1 (by rw [iv_cs_eq]; show iv_cs r + 18 ≤ _; omega) hd (fun H1 locs1 hP1 hD1 hS1 => k H1 locs1 ls hvv (by rw [← iv_W_put hk1]; exact hP1) hS1)
      · rename_i n0' f n1' g hga hgb
        obtain ⟨k0, rfl, hk0, he0⟩ := iv_get_ok hga
        obtain ⟨k1, rfl, hk1, he1⟩ := iv_get_ok hgb
        cases hc : (Nat.ble (sp.toNatClampNeg + n.toNatClampNeg) n0' && Nat.ble (dp.toNatClampNeg + n.toNatClampNeg) n1') <;> rw [hc] at h <;> simp only [cond_true, cond_false] at h
        · cases h
        · rw [Bool.and_eq_true] at hc
          simp only [Option.some.injEq, Prod.mk.injEq] at h
          obtain ⟨rfl, rfl, rfl, rfl⟩ := h
          rw [iv_put_eq] at k
          intro H locs ls hvv hP hS
          have hat0 := iv_W_at (ad := ad) (cy := cy) hk0
          rw [he0] at hat0
          have hat1 := iv_W_at (ad := ad) (cy := cy) hk1
          rw [he1] at hat1
          exact va_copyl hx hb (hml.trans hvv.1.symm) hown (hts _ hl) (hts _ (iv_glob 2 rfl)) (hts _ (iv_glob 3 rfl)) (hts _ (iv_glob 4 rfl)) hK.1.1 hP (iv_D hK.2.2.2.2.2) hS k0 k1 1 1 (n0 := n0') (n1 := n1') (f := f) (g := g) (ty := .long) hat0 hat1 rfl rfl rfl (of_decide_eq_false q1) (of_decide_eq_false q2) (of_decide_eq_false q3) (Nat.le_of_ble_eq_true hc.1) (Nat.le_of_ble_eq_true hc.2) (fun _ _ => rfl) hR.1 (by rw [iv_cs_eq]; show iv_cs r + 18 ≤ _; omega) hd (fun H1 locs1 hP1 hD1 hS1 => k H1 locs1 ls hvv (by rw [← iv_W_put hk1]; exact hP1) hS1)
      · cases h
    · cases h
  · cases h
theorem iv_s_MM {f : Int32 → Int32 → Int32} (k : iv_Nx ad cy D base c0 n0 nL p l e R s m args below meth c Q pc' lv' st' σ') (h : iv_oMM f L xs pc lv st σ = some (pc', lv', st', σ')) (row : ∀ {H : Heap} {locs : List Loc} {ls : Array Slot} {r : List Value} {x y : Int32}, ls.size = nL → iv_cs r ≤ 8 → W p l e R s m args below meth c H locs (σ.1 - c0) (σ.2.2 - n0) Q (F0 m (pc + 3) ls (.int (f x y) :: iv_sm ad r)) → W p l e R s m args below meth c H locs (σ.1 - c0) (σ.2.2 - n0) Q (F0 m pc ls (.int y :: .int x :: iv_sm ad r))) : iv_Nx ad cy D base c0 n0 nL p l e R s m args below meth c Q pc lv st σ := by
  unfold iv_oMM at h
  split at h
  · rename_i y x r
    cases hq : Nat.ble (iv_cs r) 8 <;> rw [hq] at h <;> simp only [cond_true, cond_false] at h
    · cases h
    · simp only [Option.some.injEq, Prod.mk.injEq] at h
      obtain ⟨rfl, rfl, rfl, rfl⟩ := h
      intro H locs ls hvv hP hS
      exact row hvv.1 (Nat.le_of_ble_eq_true hq) (k H locs ls hvv hP hS)
  · cases h
theorem iv_s_Ab (C : iv_C0 ad cy D base L xs p s m args meth c cc nL own nm) (hl : Cond.methodLink (iv_R own) kx Lib.Math.abs.name ∈ iv_G) (hd : decode cc pc = .ok (.invokestatic kx, 3)) (hR : 1 ≤ R.frames ∧ 60 ≤ R.locals) (hRc : σ.1 - c0 ≤ R.cells) (hRs : σ.2.2 - n0 ≤ R.slots) (k : iv_Nx ad cy D base c0 n0 nL p l e R s m args below meth c Q pc' lv' st' σ') (h : iv_oAb L xs pc lv st σ = some (pc', lv', st', σ')) : iv_Nx ad cy D base c0 n0 nL p l e R s m args below meth c Q pc lv st σ := by
  obtain ⟨hx, hb, hml, hown, hts, hK, hnm⟩ := C
  unfold iv_oAb at h
  split at h
  · rename_i x r
    cases hq : Nat.ble (iv_cs r) 8 <;> rw [hq] at h <;> simp only [cond_true, cond_false] at h
    · cases h
    · simp only [Option.some.injEq, Prod.mk.injEq] at h
      obtain ⟨rfl, rfl, rfl, rfl⟩ := h
      have h8 := Nat.le_of_ble_eq_true hq
      intro H locs ls hvv hP hS
      exact va_mabs hx hb (hml.trans hvv.1.symm) hown (hts _ hl) (hts _ (iv_glob 16 rfl)) (hts _ (iv_glob 20 rfl)) (hts _ (iv_glob 19 rfl)) hR.1 (by rw [iv_cs_eq]; omega) hRc hRs hd (k H locs ls hvv hP hS)
  · cases h
theorem iv_s_Ac {off : Int} (C : iv_C0 ad cy D base L xs p s m args meth c cc nL own nm) (hd : decode cc pc = .ok (.if_acmp .ne off, 3)) (k : iv_Nx ad cy D base c0 n0 nL p l e R s m args below meth c Q pc' lv' st' σ') (h : iv_oAc off L xs pc lv st σ = some (pc', lv', st', σ')) : iv_Nx ad cy D base c0 n0 nL p l e R s m args below meth c Q pc lv st σ := by
  obtain ⟨hx, hb, hml, hown, hts, hK, hnm⟩ := C
  unfold iv_oAc at h
  split at h
  · rename_i b a r
    cases hq : (iv_isW a && iv_isW b) <;> rw [hq] at h <;> simp only [cond_true, cond_false] at h
    · cases h
    · rw [Bool.and_eq_true] at hq
      obtain ⟨t, ht, kt, kf⟩ := iv_s_br k h
      obtain ⟨i, hi, rfl⟩ := iv_isW_of hq.1
      obtain ⟨j, hj, rfl⟩ := iv_isW_of hq.2
      intro H locs ls hvv hP hS
      refine lv_acmp_ne (rx := some (ad (2 * i + 3))) (ry := some (ad (2 * j + 3))) hx hb hd ht (fun q => kt ?_ H locs ls hvv hP hS) (fun q => kf ?_ H locs ls hvv hP hS)
      · cases hb9 : Nat.beq (2 * i + 3) (2 * j + 3)
        · rfl
        · exact absurd (by rw [Nat.eq_of_beq_eq_true hb9]) q
      · have e9 : i = j := hK.2.1.1.2 i j hi hj (Option.some.inj q)
        subst e9
        rw [Nat.beq_refl]
        rfl
  · cases h
end IVN
