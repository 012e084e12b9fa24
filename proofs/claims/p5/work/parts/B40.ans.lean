/-! ===== the law's brother and time, answered ===== -/
theorem inv_out {x y : Int32} {σ : iv_H} {f g : Nat → Int64} (hI : Inv x y σ) (ho : iv_get σ 592 = some (.inl (1, 1, .inr (.inl f)))) : Inv x y (iv_put σ 592 (.inl (1, 1, .inr (.inl g)))) := by
  have tz : tEq z_τ z_ty σ (iv_put σ 592 (.inl (1, 1, .inr (.inl g)))) := fun a T hT => by
    obtain ⟨e, h1, _⟩ := hI.1.1 a T hT
    rw [h1]
    exact iv_gp_n ho h1 (by have := (z_typed hT).2; omega)
  have tm : tEq m_τ m_ty σ (iv_put σ 592 (.inl (1, 1, .inr (.inl g)))) := fun a T hT => by
    obtain ⟨e, h1, _⟩ := hI.2.1.1 a T hT
    rw [h1]
    exact iv_gp_n ho h1 (by have := (m_typed hT).2.2; omega)
  obtain ⟨⟨a1, a2⟩, ⟨b1, b2⟩, ⟨c1, c2⟩, d1, d2, _, d4, ⟨T, hb, e1, e2⟩, e5, e6⟩ := hI
  obtain ⟨T72, hT72⟩ : ∃ T, z_ty 72 = some T := ⟨_, rfl⟩
  obtain ⟨cs, t1, _⟩ := z_t21
  refine ⟨⟨tEq_zI tz a1, z_J_eq tz a2⟩, ⟨tEq_zI tm b1, mJ_eq tm b2⟩, ⟨?_, ?_⟩, by rw [iv_mo_put.1]; exact d1, by rw [iv_mo_put.2]; exact d2, ⟨g, iv_gp_s ho⟩, FX_eq tz d4, ⟨T, hb, ?_, (mA_eq tm 550 rfl).trans e2⟩, FX2_m e5 tz, CK_eq e6 (CP_t tz rfl rfl rfl) (CP_t tz rfl rfl rfl) (CP_t tz rfl rfl rfl) (mA_eq2 tz 372 (show z_ty (z_τ 372) = some T72 from hT72)) (mSame_t tm)⟩
  · rw [← c1]
    unfold fB
    rw [tz 0 _ (show z_ty (z_τ 0) = _ from t1)]
  · rw [← c2]
    unfold fT
    rw [tm 548 _ rfl]
  · rw [← e1]
    unfold mA
    rw [tz 2 _ z_t68]
theorem inv_out5 {x y : Int32} {σ : iv_H} {f g : Nat → Int64} (hI : Inv5 x y σ) (ho : iv_get σ 592 = some (.inl (1, 1, .inr (.inl f)))) : Inv5 x y (iv_put σ 592 (.inl (1, 1, .inr (.inl g)))) := by
  have h := inv_out (g := g) (inv_of5 hI) ho
  have m : mD σ (iv_put σ 592 (.inl (1, 1, .inr (.inl g)))) 592 (.inl (1, 1, .inr (.inl g))) := mD_put2 ho
  obtain ⟨k, k0, k1⟩ := ft_of5 hI
  exact Inv5_of h ⟨k, (oF_g (m.2.2 0 (by decide)) 2).trans k0, (oF_g (m.2.2 548 (by decide)) 10).trans k1⟩
theorem xN_in : vp_in (0 : Int32) 1 := by
  rw [vp_in_iff]
  decide
theorem xe_brother_8 : decode cL_brother 8 = .ok (.i2l, 1) := by decide +kernel
theorem xe_brother_9 : decode cL_brother 9 = .ok (.lastore, 1) := by decide +kernel
theorem xe_brother_10 : decode cL_brother 10 = .ok (.goto 7, 3) := by decide +kernel
theorem xe_brother_17 : decode cL_brother 17 = .ok (.iconst 0, 1) := by decide +kernel
theorem xe_brother_18 : decode cL_brother 18 = .ok (.ireturn, 1) := by decide +kernel
set_option maxHeartbeats 1000000 in
theorem xN_brother {l : Launch} {ad cy : Nat → Nat} {D : va_G} {base L : Nat} {xs : Nat → Int32} {x y v : Int32} {σ σ1 : iv_H} {fs : List Value} {f : Nat → Int64} (hg0 : iv_get σ 0 = some (.inr (11, fs))) (hR : iv_Rn L xs 20 119 0 (lv_args 0 [.ref 0, .int x, .int y]) [] σ (some (.int v)) σ1) (hq1 : σ1.1 = σ.1) (hq2 : σ1.2.2 = σ.2.2) (ho : iv_get σ1 592 = some (.inl (1, 1, .inr (.inl f)))) : Met l yL_brother (Cond.codeWith yL_brother cL_brother 5 (some .int) [(0, 10, 13, 13)] :: iv_G) (iv_rm 22 0 0) (iv_PcN ad cy D base L xs [.ref 0, .int x, .int y, .ref 592] σ) (iv_Qc ad cy D base (some (.int 0)) (iv_put σ1 592 (.inl (1, 1, .inr (.inl (vp_updL f 0 v.toInt64)))))) 0 0 (iv_A base) := by
  have hM : 119 < iv_n := by decide
  obtain ⟨b1, b2, b3, b4, b5, b6, b7⟩ := iv_mfacts hM
  obtain ⟨n9, hn9⟩ := hR
  have hMet := iv_metN (l := l) (ad := ad) (cy := cy) (D := D) (base := base) (as := [.ref 0, .int x, .int y]) hM (show (3 : Nat) ≤ (iv_m 119).2.2.1 by decide) (iv_soundN l ad cy D base L xs n9 20 119 0 (lv_args 0 [.ref 0, .int x, .int y]) [] σ _ σ1 (Nat.le_of_lt hM) hn9) hq1 hq2
  unfold iv_MetN at hMet
  refine va_MetW (cc := cL_brother) (maxL := 5) (ret := some .int) (hh := [(0, 10, 13, 13)]) (by decide) rfl ?_
  intro p e s m args below meth c s₁ B hml hv
  obtain ⟨rfl, hK, hP⟩ := hv
  have hx := B.exec
  have hb := B.bytes
  have hr := B.returns
  have hts0 := atoms_spec (ws := Cond.codeWith yL_brother cL_brother 5 (some .int) [(0, 10, 13, 13)] :: iv_G) B.pre
  have hts : ∀ w ∈ iv_G, w.before (iv_sm ad [.ref 0, .int x, .int y, .ref 592]).toArray s = true := fun w hw => hts0 w (List.mem_cons_of_mem _ hw)
  have hown : s.vm.findClass RL = some m.cls := findClass_of_methodNamed B.named
  have hlv := lv_entry (iv_sm ad [.ref 0, .int x, .int y, .ref 592]) (n := 5) (by rw [iv_lgl]; exact (show (4 : Nat) ≤ 5 by decide))
  rw [lg_entry_eq]
  rw [iv_largs] at hlv
  generalize (lg_sl (iv_sm ad [.ref 0, .int x, .int y, .ref 592]) ++ List.replicate (5 - (lg_sl (iv_sm ad [.ref 0, .int x, .int y, .ref 592])).length) Slot.unset).toArray = ls at hlv ⊢
  have g0 : ls[0]? = some (.val (.ref (ad 0))) := hlv.2.2 (0, .ref (ad 0)) (by simp [lv_args, iv_v, Value.category])
  have g1 : ls[1]? = some (.val (.int x)) := hlv.2.2 (1, .int x) (by simp [lv_args, iv_v, Value.category])
  have g2 : ls[2]? = some (.val (.int y)) := hlv.2.2 (2, .int y) (by simp [lv_args, iv_v, Value.category])
  have g3 : ls[3]? = some (.val (.ref (ad 592))) := hlv.2.2 (3, .ref (ad 592)) (by simp [lv_args, iv_v, Value.category])
  refine lv_aload_n hx hb xe_brother_0 rfl g3 ?_
  refine lv_iconst hx hb xe_brother_1 rfl ?_
  refine lv_aload_n hx hb xe_brother_2 rfl g0 ?_
  refine lv_iload_n hx hb xe_brother_3 rfl g1 ?_
  refine lv_iload_n hx hb xe_brother_4 rfl g2 ?_
  obtain ⟨k0, ek0, hk0, he⟩ := iv_get_ok hg0
  have hat := iv_W_at (ad := ad) (cy := cy) hk0
  rw [he, ← ek0] at hat
  have hrec := va_recv hK.1.1 hP (iv_cl_at 11 (by decide)) hat
  have hPre : ∀ U : State, U.heap = s.heap → s.WarmedH U.vm → iv_PcN ad cy D base L xs [.ref 0, .int x, .int y] σ (iv_sm ad [.ref 0, .int x, .int y]).toArray U := fun U hU hW => ⟨rfl, iv_K_to hK hW (by rw [hU]; exact Nat.le_refl _) (fun q h1 h2 => by rw [hU]), by rw [hU]; exact hP⟩
  refine iv_callW (r := some (.int v)) (σ1 := σ1) (va_runV (As := [.int x, .int y]) (rest := [.int 0, .ref (ad 592)]) (b := ad 0) (C := RX12) ⟨hx, hb, hml, hown, hts⟩ hMet ⟨callB_of 2 hts (iv_ws_good hM) rfl rfl rfl (hts _ b1) (hts _ xB_l.2.1) ⟨b3.1, b3.2.1, rfl⟩ ⟨by decide, by decide⟩, hts _ xB_i.1, hts _ xB_l.2.2.2.1⟩ ⟨iv_blindN, hrec, hPre⟩ rfl rfl hlv.1 rfl (lv_room (show (2 : Nat) ≤ 8 by decide)) xe_brother_5 ⟨by decide, by decide⟩) va_S.rf ?_
  intro H1 locs1 hP1 hS1
  show W p l e _ s m _ below meth c H1 locs1 (0 + 0) (0 + 0) _ (F0 m 8 ls [.int v, .int 0, .ref (ad 592)])
  refine lv_i2l hx hb xe_brother_8 rfl ?_
  obtain ⟨k9, ek9, hk9, he9⟩ := iv_get_ok ho
  have hat9 := iv_W_at (ad := ad) (cy := cy) hk9
  rw [he9, ← ek9] at hat9
  refine va_last hx hb hK.1.1 hP1 (iv_D hK.2.2.2.2.2) hS1 k9 1 (n := 1) (f := f) hat9 rfl xN_in xe_brother_9 (fun H2 locs2 hP2 hD2 hS2 => ?_)
  have hP3 : va_P D vwCl (iv_W ad cy (iv_put σ1 592 (.inl (1, 1, .inr (.inl (vp_updL f 0 v.toInt64)))))) H2 := by
    rw [ek9, iv_put_eq, ← iv_W_put hk9, ← ek9]
    exact hP2
  refine lv_goto hx hb xe_brother_10 (tgt := 17) rfl ?_
  refine lv_iconst hx hb xe_brother_17 rfl ?_
  exact W.iret hx hb hr (fun t9 ht9 _ => ⟨rfl, by rw [ht9]; exact hP3, hS2.F ht9⟩) hS2.2.2 xe_brother_18
theorem xe_time_8 : decode cL_time 8 = .ok (.i2l, 1) := by decide +kernel
theorem xe_time_9 : decode cL_time 9 = .ok (.lastore, 1) := by decide +kernel
theorem xe_time_10 : decode cL_time 10 = .ok (.goto 7, 3) := by decide +kernel
theorem xe_time_17 : decode cL_time 17 = .ok (.iconst 0, 1) := by decide +kernel
theorem xe_time_18 : decode cL_time 18 = .ok (.ireturn, 1) := by decide +kernel
set_option maxHeartbeats 1000000 in
theorem xN_time {l : Launch} {ad cy : Nat → Nat} {D : va_G} {base L : Nat} {xs : Nat → Int32} {x y v : Int32} {σ σ1 : iv_H} {fs : List Value} {f : Nat → Int64} (hg0 : iv_get σ 0 = some (.inr (11, fs))) (hR : iv_Rn L xs 20 140 0 (lv_args 0 [.ref 0, .int x, .int y]) [] σ (some (.int v)) σ1) (hq1 : σ1.1 = σ.1) (hq2 : σ1.2.2 = σ.2.2) (ho : iv_get σ1 592 = some (.inl (1, 1, .inr (.inl f)))) : Met l yL_time (Cond.codeWith yL_time cL_time 5 (some .int) [(0, 10, 13, 13)] :: iv_G) (iv_rm 22 0 0) (iv_PcN ad cy D base L xs [.ref 0, .int x, .int y, .ref 592] σ) (iv_Qc ad cy D base (some (.int 0)) (iv_put σ1 592 (.inl (1, 1, .inr (.inl (vp_updL f 0 v.toInt64)))))) 0 0 (iv_A base) := by
  have hM : 140 < iv_n := by decide
  obtain ⟨b1, b2, b3, b4, b5, b6, b7⟩ := iv_mfacts hM
  obtain ⟨n9, hn9⟩ := hR
  have hMet := iv_metN (l := l) (ad := ad) (cy := cy) (D := D) (base := base) (as := [.ref 0, .int x, .int y]) hM (show (3 : Nat) ≤ (iv_m 140).2.2.1 by decide) (iv_soundN l ad cy D base L xs n9 20 140 0 (lv_args 0 [.ref 0, .int x, .int y]) [] σ _ σ1 (Nat.le_of_lt hM) hn9) hq1 hq2
  unfold iv_MetN at hMet
  refine va_MetW (cc := cL_time) (maxL := 5) (ret := some .int) (hh := [(0, 10, 13, 13)]) (by decide) rfl ?_
  intro p e s m args below meth c s₁ B hml hv
  obtain ⟨rfl, hK, hP⟩ := hv
  have hx := B.exec
  have hb := B.bytes
  have hr := B.returns
  have hts0 := atoms_spec (ws := Cond.codeWith yL_time cL_time 5 (some .int) [(0, 10, 13, 13)] :: iv_G) B.pre
  have hts : ∀ w ∈ iv_G, w.before (iv_sm ad [.ref 0, .int x, .int y, .ref 592]).toArray s = true := fun w hw => hts0 w (List.mem_cons_of_mem _ hw)
  have hown : s.vm.findClass RL = some m.cls := findClass_of_methodNamed B.named
  have hlv := lv_entry (iv_sm ad [.ref 0, .int x, .int y, .ref 592]) (n := 5) (by rw [iv_lgl]; exact (show (4 : Nat) ≤ 5 by decide))
  rw [lg_entry_eq]
  rw [iv_largs] at hlv
  generalize (lg_sl (iv_sm ad [.ref 0, .int x, .int y, .ref 592]) ++ List.replicate (5 - (lg_sl (iv_sm ad [.ref 0, .int x, .int y, .ref 592])).length) Slot.unset).toArray = ls at hlv ⊢
  have g0 : ls[0]? = some (.val (.ref (ad 0))) := hlv.2.2 (0, .ref (ad 0)) (by simp [lv_args, iv_v, Value.category])
  have g1 : ls[1]? = some (.val (.int x)) := hlv.2.2 (1, .int x) (by simp [lv_args, iv_v, Value.category])
  have g2 : ls[2]? = some (.val (.int y)) := hlv.2.2 (2, .int y) (by simp [lv_args, iv_v, Value.category])
  have g3 : ls[3]? = some (.val (.ref (ad 592))) := hlv.2.2 (3, .ref (ad 592)) (by simp [lv_args, iv_v, Value.category])
  refine lv_aload_n hx hb xe_time_0 rfl g3 ?_
  refine lv_iconst hx hb xe_time_1 rfl ?_
  refine lv_aload_n hx hb xe_time_2 rfl g0 ?_
  refine lv_iload_n hx hb xe_time_3 rfl g1 ?_
  refine lv_iload_n hx hb xe_time_4 rfl g2 ?_
  obtain ⟨k0, ek0, hk0, he⟩ := iv_get_ok hg0
  have hat := iv_W_at (ad := ad) (cy := cy) hk0
  rw [he, ← ek0] at hat
  have hrec := va_recv hK.1.1 hP (iv_cl_at 11 (by decide)) hat
  have hPre : ∀ U : State, U.heap = s.heap → s.WarmedH U.vm → iv_PcN ad cy D base L xs [.ref 0, .int x, .int y] σ (iv_sm ad [.ref 0, .int x, .int y]).toArray U := fun U hU hW => ⟨rfl, iv_K_to hK hW (by rw [hU]; exact Nat.le_refl _) (fun q h1 h2 => by rw [hU]), by rw [hU]; exact hP⟩
  refine iv_callW (r := some (.int v)) (σ1 := σ1) (va_runV (As := [.int x, .int y]) (rest := [.int 0, .ref (ad 592)]) (b := ad 0) (C := RX12) ⟨hx, hb, hml, hown, hts⟩ hMet ⟨callB_of 2 hts (iv_ws_good hM) rfl rfl rfl (hts _ b1) (hts _ xB_l.2.2.1) ⟨b3.1, b3.2.1, rfl⟩ ⟨by decide, by decide⟩, hts _ xB_i.2, hts _ xB_l.2.2.2.2⟩ ⟨iv_blindN, hrec, hPre⟩ rfl rfl hlv.1 rfl (lv_room (show (2 : Nat) ≤ 8 by decide)) xe_time_5 ⟨by decide, by decide⟩) va_S.rf ?_
  intro H1 locs1 hP1 hS1
  show W p l e _ s m _ below meth c H1 locs1 (0 + 0) (0 + 0) _ (F0 m 8 ls [.int v, .int 0, .ref (ad 592)])
  refine lv_i2l hx hb xe_time_8 rfl ?_
  obtain ⟨k9, ek9, hk9, he9⟩ := iv_get_ok ho
  have hat9 := iv_W_at (ad := ad) (cy := cy) hk9
  rw [he9, ← ek9] at hat9
  refine va_last hx hb hK.1.1 hP1 (iv_D hK.2.2.2.2.2) hS1 k9 1 (n := 1) (f := f) hat9 rfl xN_in xe_time_9 (fun H2 locs2 hP2 hD2 hS2 => ?_)
  have hP3 : va_P D vwCl (iv_W ad cy (iv_put σ1 592 (.inl (1, 1, .inr (.inl (vp_updL f 0 v.toInt64)))))) H2 := by
    rw [ek9, iv_put_eq, ← iv_W_put hk9, ← ek9]
    exact hP2
  refine lv_goto hx hb xe_time_10 (tgt := 17) rfl ?_
  refine lv_iconst hx hb xe_time_17 rfl ?_
  exact W.iret hx hb hr (fun t9 ht9 _ => ⟨rfl, by rw [ht9]; exact hP3, hS2.F ht9⟩) hS2.2.2 xe_time_18
