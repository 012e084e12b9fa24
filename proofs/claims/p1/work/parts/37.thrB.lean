/-! ===== GraterOrderLaw.brother and .time catch it, and answer 1 ===== -/
section XB
theorem xB_l : Cond.classLink RL 13 xc_N ∈ iv_G ∧ Cond.methodLink RL 7 (iv_y 119) ∈ iv_G ∧ Cond.methodLink RL 15 (iv_y 140) ∈ iv_G ∧ Cond.selects RX12 (iv_y 119) (iv_y 119) ∈ iv_G ∧ Cond.selects RX12 (iv_y 140) (iv_y 140) ∈ iv_G := by decide +kernel
theorem xB_i : Cond.instanceMethod (iv_y 119) ∈ iv_G ∧ Cond.instanceMethod (iv_y 140) ∈ iv_G := by decide +kernel
theorem xe_brother_0 : decode cL_brother 0 = .ok (.aload_n 3, 1) := by decide +kernel
theorem xe_brother_1 : decode cL_brother 1 = .ok (.iconst 0, 1) := by decide +kernel
theorem xe_brother_2 : decode cL_brother 2 = .ok (.aload_n 0, 1) := by decide +kernel
theorem xe_brother_3 : decode cL_brother 3 = .ok (.iload_n 1, 1) := by decide +kernel
theorem xe_brother_4 : decode cL_brother 4 = .ok (.iload_n 2, 1) := by decide +kernel
theorem xe_brother_5 : decode cL_brother 5 = .ok (.invokevirtual 7, 3) := by decide +kernel
theorem xe_brother_13 : decode cL_brother 13 = .ok (.astore 4, 2) := by decide +kernel
theorem xe_brother_15 : decode cL_brother 15 = .ok (.iconst 1, 1) := by decide +kernel
theorem xe_brother_16 : decode cL_brother 16 = .ok (.ireturn, 1) := by decide +kernel
set_option maxHeartbeats 1000000 in
theorem xB_brother {l : Launch} {ad cy : Nat → Nat} {D : va_G} {base L : Nat} {xs : Nat → Int32} {x y : Int32} (hl : l.stackTraces = false) : Met l yL_brother (Cond.codeWith yL_brother cL_brother 5 (some .int) [(0, 10, 13, 13)] :: iv_G) (iv_rm 12 1 6) (xA_P ad cy D base L xs [.ref 0, .int x, .int y, .ref 592] sg2) (iv_Qc ad cy D base (some (.int 1)) sg2) 1 6 (iv_A base) := by
  have hM : 119 < iv_n := by decide
  obtain ⟨b1, b2, b3, b4, b5, b6, b7⟩ := iv_mfacts hM
  refine va_MetW (cc := cL_brother) (maxL := 5) (ret := some .int) (hh := [(0, 10, 13, 13)]) (by decide) rfl ?_
  intro p e s m args below meth c s₁ B hml hv
  obtain ⟨⟨rfl, hK, hP⟩, hw⟩ := hv
  have hx := B.exec
  have hb := B.bytes
  have hr := B.returns
  have hts0 := atoms_spec (ws := Cond.codeWith yL_brother cL_brother 5 (some .int) [(0, 10, 13, 13)] :: iv_G) B.pre
  have hts : ∀ w ∈ iv_G, w.before (iv_sm ad [.ref 0, .int x, .int y, .ref 592]).toArray s = true := fun w hw => hts0 w (List.mem_cons_of_mem _ hw)
  have hown : s.vm.findClass RL = some m.cls := findClass_of_methodNamed B.named
  have htab := vx_table (x := yL_brother) B (hts0 _ List.mem_cons_self)
  have hlv := lv_entry (iv_sm ad [.ref 0, .int x, .int y, .ref 592]) (n := 5) (by rw [iv_lgl]; exact (show (4 : Nat) ≤ 5 by decide))
  rw [lg_entry_eq]
  rw [iv_largs] at hlv
  generalize (lg_sl (iv_sm ad [.ref 0, .int x, .int y, .ref 592]) ++ List.replicate (5 - (lg_sl (iv_sm ad [.ref 0, .int x, .int y, .ref 592])).length) Slot.unset).toArray = ls at hlv ⊢
  have g0 : ls[0]? = some (.val (.ref (ad 0))) := hlv.2.2 (0, .ref (ad 0)) (by simp [lv_args, iv_v, Value.category])
  have g1 : ls[1]? = some (.val (.int x)) := hlv.2.2 (1, .int x) (by simp [lv_args, iv_v, Value.category])
  have g2 : ls[2]? = some (.val (.int y)) := hlv.2.2 (2, .int y) (by simp [lv_args, iv_v, Value.category])
  have g3 : ls[3]? = some (.val (.ref (ad 592))) := hlv.2.2 (3, .ref (ad 592)) (by simp [lv_args, iv_v, Value.category])
  refine lv_aload_n hx hb xe_brother_0 rfl g3 ?_
  refine lv_iconst hx hb xe_brother_1 rfl ?_
  refine lv_aload_n hx hb xe_brother_2 rfl g0 ?_
  refine lv_iload_n hx hb xe_brother_3 rfl g1 ?_
  refine lv_iload_n hx hb xe_brother_4 rfl g2 ?_
  have ck := sg2_ck
  simp only [Bool.and_eq_true] at ck
  obtain ⟨⟨⟨c1, -⟩, -⟩, -⟩ := ck
  obtain ⟨k0, ek0, hk0, he⟩ := iv_get_ok (ckO_ok c1)
  have hat := iv_W_at (ad := ad) (cy := cy) hk0
  rw [he, ← ek0] at hat
  have hrec := va_recv hK.1.1 hP (iv_cl_at 11 (by decide)) hat
  have hPre : ∀ U : State, U.heap = s.heap → s.WarmedH U.vm → xA_P ad cy D base L xs [.ref 0, .int x, .int y] sg2 (iv_sm ad [.ref 0, .int x, .int y]).toArray U := fun U hU hW => ⟨⟨rfl, iv_K_to hK hW (by rw [hU]; exact Nat.le_refl _) (fun q h1 h2 => by rw [hU]), by rw [hU]; exact hP⟩, xw_to hw hW (fun q h1 h2 => by rw [hU])⟩
  have hrun := vx_runV (R := iv_rm 12 1 6) (rest := [.int 0, .ref (ad 592)]) (As := [.int x, .int y]) (b := ad 0) (C := RX12) (g := F0 m 5 ls [.int y, .int x, .ref (ad 0), .int 0, .ref (ad 592)]) (cells := 0) (slots := 0) (locs := []) (H := s.heap) (e := e) (below := below) (meth := meth) ⟨hx, hb, hml, hown, hts⟩ (xA_met119 (ad := ad) (cy := cy) (D := D) (base := base) (L := L) (xs := xs) (x := x) (y := y) hl) ⟨callB_of 2 hts (iv_ws_good hM) rfl rfl rfl (hts _ b1) (hts _ xB_l.2.1) ⟨b3.1, b3.2.1, rfl⟩ ⟨by decide, by decide⟩, hts _ xB_i.1, hts _ xB_l.2.2.2.1⟩ ⟨xA_blind, hrec, hPre⟩ rfl rfl hlv.1 rfl (lv_room (show (2 : Nat) ≤ 8 by decide)) xe_brother_5 ⟨by decide, by decide⟩
  intro T hT X
  rcases hrun T hT X with ⟨v, st₀, t, T', L9, h0, X', hL, e1, e2, hF, st⟩ | ⟨q, st₀, t, T', L9, E, ce, h0, X', hL, e1, e2, ⟨rfl, hP1, hF⟩, hce, hcv, hcl, st⟩
  · exact hF.elim
  · obtain ⟨k1, k2, k3⟩ := vx_keep (A0 := iv_A base) (A1 := iv_A base) (H0 := s.heap) h0 e1 va_S.rf (fun _ _ z => z) (fun _ z => z) hL hF
    have hcast : (Cond.castable xc_N xc_N).before (iv_sm ad [.ref 0, .int x, .int y, .ref 592]).toArray s = true := va_any rfl (hw.2.2 _ (by simp [xw_bad]))
    have K := xc_catch (p := p) (l := l) (e := e) (R := iv_rm 12 1 6) (below := below) (meth := meth) (H := T'.heap) (locs := [] ++ L9) (cells := 0 + 1) (slots := 0 + 6) (ls := ls) (pc := 5) (rest := [.int 0, .ref (ad 592)]) (Q := MQ below (iv_Qc ad cy D base (some (.int 1)) sg2) (iv_sm ad [.ref 0, .int x, .int y, .ref 592]).toArray s 1 6 (iv_A base)) hown _ htab (by decide) (by decide) (hts _ xB_l.1) hcast (by rw [e1]; exact hce) hcv hcl ?_
    · obtain ⟨t2, a1, b1'⟩ := K T' rfl X'
      exact ⟨t2, st.trans a1, b1'⟩
    · refine lv_astore hx hb xe_brother_13 hlv (by decide) rfl (fun ls2 hlv2 => ?_)
      refine lv_iconst hx hb xe_brother_15 rfl ?_
      exact W.iret hx hb hr (fun t9 ht9 _ => ⟨rfl, by rw [ht9, e1]; exact hP1, k3.F ht9⟩) k3.2.2 xe_brother_16
theorem xe_time_0 : decode cL_time 0 = .ok (.aload_n 3, 1) := by decide +kernel
theorem xe_time_1 : decode cL_time 1 = .ok (.iconst 0, 1) := by decide +kernel
theorem xe_time_2 : decode cL_time 2 = .ok (.aload_n 0, 1) := by decide +kernel
theorem xe_time_3 : decode cL_time 3 = .ok (.iload_n 1, 1) := by decide +kernel
theorem xe_time_4 : decode cL_time 4 = .ok (.iload_n 2, 1) := by decide +kernel
theorem xe_time_5 : decode cL_time 5 = .ok (.invokevirtual 15, 3) := by decide +kernel
theorem xe_time_13 : decode cL_time 13 = .ok (.astore 4, 2) := by decide +kernel
theorem xe_time_15 : decode cL_time 15 = .ok (.iconst 1, 1) := by decide +kernel
theorem xe_time_16 : decode cL_time 16 = .ok (.ireturn, 1) := by decide +kernel
set_option maxHeartbeats 1000000 in
theorem xB_time {l : Launch} {ad cy : Nat → Nat} {D : va_G} {base L : Nat} {xs : Nat → Int32} {x y : Int32} (hl : l.stackTraces = false) : Met l yL_time (Cond.codeWith yL_time cL_time 5 (some .int) [(0, 10, 13, 13)] :: iv_G) (iv_rm 12 1 6) (xA_P ad cy D base L xs [.ref 0, .int x, .int y, .ref 592] sg2) (iv_Qc ad cy D base (some (.int 1)) sg2) 1 6 (iv_A base) := by
  have hM : 140 < iv_n := by decide
  obtain ⟨b1, b2, b3, b4, b5, b6, b7⟩ := iv_mfacts hM
  refine va_MetW (cc := cL_time) (maxL := 5) (ret := some .int) (hh := [(0, 10, 13, 13)]) (by decide) rfl ?_
  intro p e s m args below meth c s₁ B hml hv
  obtain ⟨⟨rfl, hK, hP⟩, hw⟩ := hv
  have hx := B.exec
  have hb := B.bytes
  have hr := B.returns
  have hts0 := atoms_spec (ws := Cond.codeWith yL_time cL_time 5 (some .int) [(0, 10, 13, 13)] :: iv_G) B.pre
  have hts : ∀ w ∈ iv_G, w.before (iv_sm ad [.ref 0, .int x, .int y, .ref 592]).toArray s = true := fun w hw => hts0 w (List.mem_cons_of_mem _ hw)
  have hown : s.vm.findClass RL = some m.cls := findClass_of_methodNamed B.named
  have htab := vx_table (x := yL_time) B (hts0 _ List.mem_cons_self)
  have hlv := lv_entry (iv_sm ad [.ref 0, .int x, .int y, .ref 592]) (n := 5) (by rw [iv_lgl]; exact (show (4 : Nat) ≤ 5 by decide))
  rw [lg_entry_eq]
  rw [iv_largs] at hlv
  generalize (lg_sl (iv_sm ad [.ref 0, .int x, .int y, .ref 592]) ++ List.replicate (5 - (lg_sl (iv_sm ad [.ref 0, .int x, .int y, .ref 592])).length) Slot.unset).toArray = ls at hlv ⊢
  have g0 : ls[0]? = some (.val (.ref (ad 0))) := hlv.2.2 (0, .ref (ad 0)) (by simp [lv_args, iv_v, Value.category])
  have g1 : ls[1]? = some (.val (.int x)) := hlv.2.2 (1, .int x) (by simp [lv_args, iv_v, Value.category])
  have g2 : ls[2]? = some (.val (.int y)) := hlv.2.2 (2, .int y) (by simp [lv_args, iv_v, Value.category])
  have g3 : ls[3]? = some (.val (.ref (ad 592))) := hlv.2.2 (3, .ref (ad 592)) (by simp [lv_args, iv_v, Value.category])
  refine lv_aload_n hx hb xe_time_0 rfl g3 ?_
  refine lv_iconst hx hb xe_time_1 rfl ?_
  refine lv_aload_n hx hb xe_time_2 rfl g0 ?_
  refine lv_iload_n hx hb xe_time_3 rfl g1 ?_
  refine lv_iload_n hx hb xe_time_4 rfl g2 ?_
  have ck := sg2_ck
  simp only [Bool.and_eq_true] at ck
  obtain ⟨⟨⟨c1, -⟩, -⟩, -⟩ := ck
  obtain ⟨k0, ek0, hk0, he⟩ := iv_get_ok (ckO_ok c1)
  have hat := iv_W_at (ad := ad) (cy := cy) hk0
  rw [he, ← ek0] at hat
  have hrec := va_recv hK.1.1 hP (iv_cl_at 11 (by decide)) hat
  have hPre : ∀ U : State, U.heap = s.heap → s.WarmedH U.vm → xA_P ad cy D base L xs [.ref 0, .int x, .int y] sg2 (iv_sm ad [.ref 0, .int x, .int y]).toArray U := fun U hU hW => ⟨⟨rfl, iv_K_to hK hW (by rw [hU]; exact Nat.le_refl _) (fun q h1 h2 => by rw [hU]), by rw [hU]; exact hP⟩, xw_to hw hW (fun q h1 h2 => by rw [hU])⟩
  have hrun := vx_runV (R := iv_rm 12 1 6) (rest := [.int 0, .ref (ad 592)]) (As := [.int x, .int y]) (b := ad 0) (C := RX12) (g := F0 m 5 ls [.int y, .int x, .ref (ad 0), .int 0, .ref (ad 592)]) (cells := 0) (slots := 0) (locs := []) (H := s.heap) (e := e) (below := below) (meth := meth) ⟨hx, hb, hml, hown, hts⟩ (xA_met140 (ad := ad) (cy := cy) (D := D) (base := base) (L := L) (xs := xs) (x := x) (y := y) hl) ⟨callB_of 2 hts (iv_ws_good hM) rfl rfl rfl (hts _ b1) (hts _ xB_l.2.2.1) ⟨b3.1, b3.2.1, rfl⟩ ⟨by decide, by decide⟩, hts _ xB_i.2, hts _ xB_l.2.2.2.2⟩ ⟨xA_blind, hrec, hPre⟩ rfl rfl hlv.1 rfl (lv_room (show (2 : Nat) ≤ 8 by decide)) xe_time_5 ⟨by decide, by decide⟩
  intro T hT X
  rcases hrun T hT X with ⟨v, st₀, t, T', L9, h0, X', hL, e1, e2, hF, st⟩ | ⟨q, st₀, t, T', L9, E, ce, h0, X', hL, e1, e2, ⟨rfl, hP1, hF⟩, hce, hcv, hcl, st⟩
  · exact hF.elim
  · obtain ⟨k1, k2, k3⟩ := vx_keep (A0 := iv_A base) (A1 := iv_A base) (H0 := s.heap) h0 e1 va_S.rf (fun _ _ z => z) (fun _ z => z) hL hF
    have hcast : (Cond.castable xc_N xc_N).before (iv_sm ad [.ref 0, .int x, .int y, .ref 592]).toArray s = true := va_any rfl (hw.2.2 _ (by simp [xw_bad]))
    have K := xc_catch (p := p) (l := l) (e := e) (R := iv_rm 12 1 6) (below := below) (meth := meth) (H := T'.heap) (locs := [] ++ L9) (cells := 0 + 1) (slots := 0 + 6) (ls := ls) (pc := 5) (rest := [.int 0, .ref (ad 592)]) (Q := MQ below (iv_Qc ad cy D base (some (.int 1)) sg2) (iv_sm ad [.ref 0, .int x, .int y, .ref 592]).toArray s 1 6 (iv_A base)) hown _ htab (by decide) (by decide) (hts _ xB_l.1) hcast (by rw [e1]; exact hce) hcv hcl ?_
    · obtain ⟨t2, a1, b1'⟩ := K T' rfl X'
      exact ⟨t2, st.trans a1, b1'⟩
    · refine lv_astore hx hb xe_time_13 hlv (by decide) rfl (fun ls2 hlv2 => ?_)
      refine lv_iconst hx hb xe_time_15 rfl ?_
      exact W.iret hx hb hr (fun t9 ht9 _ => ⟨rfl, by rw [ht9, e1]; exact hP1, k3.F ht9⟩) k3.2.2 xe_time_16
end XB
