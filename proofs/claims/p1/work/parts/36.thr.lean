/-! ===== the class throws: brother and time on the new order ===== -/
section XA
def xw_t1 : String := "no such brother or no such thing of him"
def xw_t2 : String := "no such brother or no such part of a fraction"
def xw_bad : List Cond := [.declares (Bundle.initS "java/lang/RuntimeException"), .declares (Bundle.initS "java/lang/Exception"), .declares (Bundle.initS Bundle.tN), .castable xc_N xc_N]
def xw (base : Nat) (U : State) : Prop := ((∃ sa, vk_R RX12 157 xw_t1 sa U) ∧ (∃ sa, vk_R RX12 306 xw_t2 sa U)) ∧ (vx_Zq Bundle.tN "UNASSIGNED_STACK" Bundle.steD (iv_A base) U U.heap ∧ vx_Zq Bundle.tN "SUPPRESSED_SENTINEL" Bundle.listD (iv_A base) U U.heap) ∧ ∀ w ∈ xw_bad, va_Nw w U
theorem xw_to {base : Nat} {s U : State} (h : xw base s) (hW : s.WarmedH U.vm) (hk : ∀ q : Nat, q < s.heap.size → ¬ iv_A base q → U.heap[q]? = s.heap[q]?) : xw base U := by
  obtain ⟨⟨⟨a, ha⟩, b, hb⟩, ⟨h1, h2⟩, h3⟩ := h
  refine ⟨⟨⟨a, vk_R.warm hW ha⟩, b, vk_R.warm hW hb⟩, ⟨vx_Zq.moved hW.alike (h1.kept hk), vx_Zq.moved hW.alike (h2.kept hk)⟩, fun w hw => ?_⟩
  have h4 := h3 w hw
  simp only [xw_bad, List.mem_cons, List.not_mem_nil, or_false] at hw
  rcases hw with rfl | rfl | rfl | rfl
  · exact va_Nw.warmD hW h4
  · exact va_Nw.warmD hW h4
  · exact va_Nw.warmD hW h4
  · exact va_Nw.warmC hW h4
theorem xA_good : ∀ w ∈ ((xc_ws RX12 159).filter vx_no).filter goodWord, w ∈ iv_G := by decide +kernel
theorem xA_bad : ∀ w ∈ ((xc_ws RX12 159).filter vx_no).filter (fun w => !goodWord w), w ∈ xw_bad := by decide +kernel
theorem xA_tab : ∀ w ∈ xw_bad, w.onTables = true := by decide +kernel
theorem xA_ot : ∀ w ∈ Cond.classLink RX12 155 xc_N :: Cond.initialized xc_N :: (xc_ws RX12 159).filter vx_no, vx_ot w = true := by decide +kernel
theorem xA_l : Cond.classLink RX12 155 xc_N ∈ iv_G ∧ Cond.initialized xc_N ∈ iv_G := by decide +kernel
theorem Qe {L : Nat} {xs : Nat → Int32} {stop F d M : Nat} {lv : iv_L} {st : List Value} {σ : iv_H} : ∃ n, iv_part L xs stop F n d M stop lv st σ = some (lv, st, σ) := by
  refine ⟨1, ?_⟩
  rw [iv_part_s, Nat.beq_refl]
  rfl
theorem Qs {L : Nat} {xs : Nat → Int32} {stop F d M pc pc' : Nat} {lv lv' : iv_L} {st st' : List Value} {σ σ1 : iv_H} {y : iv_L × List Value × iv_H} {f : iv_F} (hpc : Nat.beq pc stop = false) (hf : iv_f1 (iv_p M) pc = some (.inl f)) (hs : f L xs pc lv st σ = some (pc', lv', st', σ1)) (k : ∃ n, iv_part L xs stop F n d M pc' lv' st' σ1 = some y) : ∃ n, iv_part L xs stop F n d M pc lv st σ = some y := by
  obtain ⟨n, hn⟩ := k
  refine ⟨n + 1, ?_⟩
  rw [iv_part_s, hpc, hf]
  simp only [cond_false, hs]
  rw [iv_fp_eq]
  exact hn
theorem Qc {L : Nat} {xs : Nat → Int32} {stop F d M pc kind mm nn ci : Nat} {lv : iv_L} {st as rest : List Value} {σ σ1 : iv_H} {r1 : Option Value} {y : iv_L × List Value × iv_H} (hpc : Nat.beq pc stop = false) (hf : iv_f1 (iv_p M) pc = some (.inr (.inr (kind, mm, nn, ci)))) (ha : iv_args kind nn ci st σ = some (as, rest)) (hcs : Nat.ble (iv_cs as) (iv_m mm).2.2.1 = true) (hr : iv_run L xs F d mm 0 (lv_args 0 as) [] σ = some (r1, σ1)) (k : ∃ n, iv_part L xs stop F n (d + 1) M (pc + 3) lv (r1.toList ++ rest) σ1 = some y) : ∃ n, iv_part L xs stop F n (d + 1) M pc lv st σ = some y := by
  obtain ⟨n, hn⟩ := k
  refine ⟨n + 1, ?_⟩
  rw [iv_part_s, hpc, hf]
  simp only [cond_false, ha, hcs, cond_true, hr]
  rw [iv_fp_eq]
  exact hn
set_option maxRecDepth 100000 in
theorem fq_26_0 : iv_f1 (iv_p 26) 0 = some (.inl (iv_oI 1 1)) := rfl
set_option maxRecDepth 100000 in
theorem fq_26_1 : iv_f1 (iv_p 26) 1 = some (.inl (iv_oIf .lt 15)) := rfl
set_option maxRecDepth 100000 in
theorem fq_26_4 : iv_f1 (iv_p 26) 4 = some (.inl (iv_oI 1 1)) := rfl
set_option maxRecDepth 100000 in
theorem fq_26_5 : iv_f1 (iv_p 26) 5 = some (.inl (iv_oA 0 1)) := rfl
set_option maxRecDepth 100000 in
theorem fq_26_6 : iv_f1 (iv_p 26) 6 = some (.inl (iv_oGF 3 1)) := rfl
set_option maxRecDepth 100000 in
theorem fq_26_9 : iv_f1 (iv_p 26) 9 = some (.inl (iv_oIc .ge 7)) := rfl
set_option maxRecDepth 100000 in
theorem fq_26_16 : iv_f1 (iv_p 26) 16 = some (.inl (iv_oK (.int 0) 1)) := rfl
set_option maxRecDepth 100000 in
theorem fq_26_17 : iv_f1 (iv_p 26) 17 = some (.inr (.inl 2)) := rfl
set_option maxRecDepth 100000 in
theorem fq_119_0 : iv_f1 (iv_p 119) 0 = some (.inl (iv_oA 0 1)) := rfl
set_option maxRecDepth 100000 in
theorem fq_119_1 : iv_f1 (iv_p 119) 1 = some (.inl (iv_oGF 11 3)) := rfl
set_option maxRecDepth 100000 in
theorem fq_119_4 : iv_f1 (iv_p 119) 4 = some (.inl (iv_oI 1 1)) := rfl
set_option maxRecDepth 100000 in
theorem fq_119_5 : iv_f1 (iv_p 119) 5 = some (.inr (.inr (6, 26, 1, 3))) := rfl
set_option maxRecDepth 100000 in
theorem fq_119_8 : iv_f1 (iv_p 119) 8 = some (.inl (iv_oIf .eq 13)) := rfl
set_option maxRecDepth 100000 in
theorem fq_140_0 : iv_f1 (iv_p 140) 0 = some (.inl (iv_oA 0 1)) := rfl
set_option maxRecDepth 100000 in
theorem fq_140_1 : iv_f1 (iv_p 140) 1 = some (.inl (iv_oGF 11 3)) := rfl
set_option maxRecDepth 100000 in
theorem fq_140_4 : iv_f1 (iv_p 140) 4 = some (.inl (iv_oI 1 1)) := rfl
set_option maxRecDepth 100000 in
theorem fq_140_5 : iv_f1 (iv_p 140) 5 = some (.inr (.inr (6, 26, 1, 3))) := rfl
set_option maxRecDepth 100000 in
theorem fq_140_8 : iv_f1 (iv_p 140) 8 = some (.inl (iv_oIf .eq 12)) := rfl
theorem xA_has {L : Nat} {xs : Nat → Int32} {d : Nat} {x : Int32} {σ : iv_H} (h : iv_get σ 4 = some (.inr (3, fsO))) : iv_Rn L xs d 26 0 [(0, .ref 4), (1, .int x)] [] σ (some (.int 0)) σ := by
  by_cases hx : x < 0
  · refine Rs fq_26_0 rfl ?_
    refine Rs fq_26_1 (o_IfT rfl (decide_eq_true hx)) ?_
    refine Rs fq_26_16 rfl ?_
    exact Rr fq_26_17 rfl
  · refine Rs fq_26_0 rfl ?_
    refine Rs fq_26_1 (o_IfF rfl (decide_eq_false hx)) ?_
    refine Rs fq_26_4 rfl ?_
    refine Rs fq_26_5 rfl ?_
    refine Rs fq_26_6 (o_GF h rfl) ?_
    refine Rs fq_26_9 (o_IcT rfl (decide_eq_true (Int32.not_lt.mp hx))) ?_
    refine Rs fq_26_16 rfl ?_
    exact Rr fq_26_17 rfl
theorem xA_part119 {L : Nat} {xs : Nat → Int32} {x y : Int32} : ∃ (F n : Nat) (lv : iv_L), iv_part L xs 21 F n 10 119 0 (lv_args 0 [.ref 0, .int x, .int y]) [] sg2 = some (lv, [], sg2) := by
  have ck := sg2_ck
  simp only [Bool.and_eq_true] at ck
  obtain ⟨⟨⟨c1, c2⟩, -⟩, -⟩ := ck
  have h0 := ckO_ok c1
  have h4 := ckO_ok c2
  obtain ⟨F, hF⟩ := xA_has (L := L) (xs := xs) (d := 9) (x := x) h4
  have g : ∃ n, iv_part L xs 21 F n 10 119 0 (lv_args 0 [.ref 0, .int x, .int y]) [] sg2 = some (lv_args 0 [.ref 0, .int x, .int y], [], sg2) := by
    refine Qs rfl fq_119_0 rfl ?_
    refine Qs rfl fq_119_1 (o_GF h0 rfl) ?_
    refine Qs rfl fq_119_4 rfl ?_
    refine Qc (d := 9) rfl fq_119_5 (a6_1 h4) rfl hF ?_
    refine Qs rfl fq_119_8 (o_IfT rfl (by decide)) ?_
    exact Qe
  obtain ⟨n, hn⟩ := g
  exact ⟨F, n, _, hn⟩
theorem xA_part140 {L : Nat} {xs : Nat → Int32} {x y : Int32} : ∃ (F n : Nat) (lv : iv_L), iv_part L xs 20 F n 10 140 0 (lv_args 0 [.ref 0, .int x, .int y]) [] sg2 = some (lv, [], sg2) := by
  have ck := sg2_ck
  simp only [Bool.and_eq_true] at ck
  obtain ⟨⟨⟨c1, c2⟩, -⟩, -⟩ := ck
  have h0 := ckO_ok c1
  have h4 := ckO_ok c2
  obtain ⟨F, hF⟩ := xA_has (L := L) (xs := xs) (d := 9) (x := x) h4
  have g : ∃ n, iv_part L xs 20 F n 10 140 0 (lv_args 0 [.ref 0, .int x, .int y]) [] sg2 = some (lv_args 0 [.ref 0, .int x, .int y], [], sg2) := by
    refine Qs rfl fq_140_0 rfl ?_
    refine Qs rfl fq_140_1 (o_GF h0 rfl) ?_
    refine Qs rfl fq_140_4 rfl ?_
    refine Qc (d := 9) rfl fq_140_5 (a6_1 h4) rfl hF ?_
    refine Qs rfl fq_140_8 (o_IfT rfl (by decide)) ?_
    exact Qe
  obtain ⟨n, hn⟩ := g
  exact ⟨F, n, _, hn⟩
def xA_P (ad cy : Nat → Nat) (D : va_G) (base L : Nat) (xs : Nat → Int32) (as : List Value) (σ : iv_H) : Array Value → State → Prop := fun a st => iv_PcN ad cy D base L xs as σ a st ∧ xw base st
theorem xA_blind {ad cy : Nat → Nat} {D : va_G} {base L : Nat} {xs : Nat → Int32} {as : List Value} {σ : iv_H} : FrameBlind (xA_P ad cy D base L xs as σ) := fun a U g mk q => ⟨iv_blindN a U g mk q.1, xw_to q.2 (State.WarmedH.refl U) (fun _ _ _ => rfl)⟩
def xA_X (ad cy : Nat → Nat) (D : va_G) (base : Nat) (σ : iv_H) : String → State → State → Prop := fun E st t => E = xc_N ∧ va_P D vwCl (iv_W ad cy σ) t.heap ∧ va_F (iv_A base) st t
theorem xd_119_21 : decode (iv_c 119) 21 = .ok (.new 155, 3) := by
  have h := List.all_eq_true.mp (iv_cok_all 119 (by decide)) _ (iv_f1_in _ _ _ (show iv_f1 (iv_m 119).2.2.2.2 21 = some (.new 155, 3) from rfl))
  rw [Bool.and_eq_true] at h
  exact of_decide_eq_true h.1
theorem xd_119_24 : decode (iv_c 119) 24 = .ok (.dup, 1) := by
  have h := List.all_eq_true.mp (iv_cok_all 119 (by decide)) _ (iv_f1_in _ _ _ (show iv_f1 (iv_m 119).2.2.2.2 24 = some (.dup, 1) from rfl))
  rw [Bool.and_eq_true] at h
  exact of_decide_eq_true h.1
theorem xd_119_25 : decode (iv_c 119) 25 = .ok (.ldc 157, 2) := by
  have h := List.all_eq_true.mp (iv_cok_all 119 (by decide)) _ (iv_f1_in _ _ _ (show iv_f1 (iv_m 119).2.2.2.2 25 = some (.ldc 157, 2) from rfl))
  rw [Bool.and_eq_true] at h
  exact of_decide_eq_true h.1
theorem xd_119_27 : decode (iv_c 119) 27 = .ok (.invokespecial 159, 3) := by
  have h := List.all_eq_true.mp (iv_cok_all 119 (by decide)) _ (iv_f1_in _ _ _ (show iv_f1 (iv_m 119).2.2.2.2 27 = some (.invokespecial 159, 3) from rfl))
  rw [Bool.and_eq_true] at h
  exact of_decide_eq_true h.1
theorem xd_119_30 : decode (iv_c 119) 30 = .ok (.athrow, 1) := by
  have h := List.all_eq_true.mp (iv_cok_all 119 (by decide)) _ (iv_f1_in _ _ _ (show iv_f1 (iv_m 119).2.2.2.2 30 = some (.athrow, 1) from rfl))
  rw [Bool.and_eq_true] at h
  exact of_decide_eq_true h.1
set_option maxHeartbeats 1000000 in
theorem xA_met119 {l : Launch} {ad cy : Nat → Nat} {D : va_G} {base L : Nat} {xs : Nat → Int32} {x y : Int32} (hl : l.stackTraces = false) : vx_Met l (iv_y 119) (iv_ws 119) (iv_rm 10 1 6) (xA_P ad cy D base L xs [.ref 0, .int x, .int y] sg2) (fun _ _ _ _ => False) (xA_X ad cy D base sg2) 1 6 (iv_A base) := by
  have hM : 119 < iv_n := by decide
  obtain ⟨b1, b2, b3, b4, b5, b6, b7⟩ := iv_mfacts hM
  refine vx_ofW (cc := iv_c 119) (maxL := (iv_m 119).2.2.1) (ret := (iv_m 119).2.2.2.1) b2 rfl ?_
  intro p e s m args below meth c s₁ B hml htab hv
  obtain ⟨⟨rfl, hK, hP⟩, hw⟩ := hv
  have hx := B.exec
  have hb := B.bytes
  have hts0 := atoms_spec (ws := iv_ws 119) B.pre
  have hts : ∀ w ∈ iv_G, w.before (iv_sm ad [.ref 0, .int x, .int y]).toArray s = true := fun w hw => hts0 w (List.mem_cons_of_mem _ hw)
  have hown : s.vm.findClass (iv_R (iv_m 119).2.1) = some m.cls := by rw [b5]; exact findClass_of_methodNamed B.named
  have hlocks := B.notSynchronized
  have hnm : meth.name = (iv_y 119).name := (name_of_methodNamed B.named B.method).1
  have hlv := lv_entry (iv_sm ad [.ref 0, .int x, .int y]) (n := (iv_m 119).2.2.1) (by rw [iv_lgl]; exact (show (3 : Nat) ≤ (iv_m 119).2.2.1 by decide))
  rw [lg_entry_eq]
  rw [iv_largs] at hlv
  obtain ⟨F, n, lv, hpart⟩ := xA_part119 (L := L) (xs := xs) (x := x) (y := y)
  obtain ⟨⟨⟨sa, hsa⟩, sb, hsb⟩, ⟨hU, hN⟩, hbad⟩ := hw
  have C : iv_C0 ad cy D base L xs p s m (iv_sm ad [.ref 0, .int x, .int y]).toArray meth c (iv_c 119) (iv_m 119).2.2.1 (iv_m 119).2.1 (iv_y 119).name := ⟨hx, hb, hml, hown, hts, hK, fun h9 => hnm.trans h9⟩
  have N := (iv_part_okN (l := l) (e := e) (R := iv_rm 10 1 6) (below := below) (Q := vx_MQ below (fun _ _ _ _ => False) (xA_X ad cy D base sg2) (iv_sm ad [.ref 0, .int x, .int y]).toArray s 1 6 (iv_A base)) (c0 := sg2.1) (n0 := sg2.2.2) 21 F n 10 119 0 _ [] sg2 lv [] sg2 (Nat.le_of_lt hM) hpart).2 C rfl rfl (Nat.le_refl _) (Nat.le_refl _) (by rw [Nat.sub_self]; exact Nat.zero_le _) (by rw [Nat.sub_self]; exact Nat.zero_le _) ?_
  · have N2 := N s.heap [] _ hlv hP va_S.rf
    exact W.cs (Nat.sub_self _).symm (Nat.sub_self _).symm N2
  · intro H locs ls hvv hP2 hS2
    refine W.cs (Nat.sub_self _) (Nat.sub_self _) ?_
    refine xc_throwS (own := RX12) (text := xw_t1) (ik := 155) (is := 157) (ic := 159) (A := iv_A base) hx hb hl hown (hts _ xA_l.1) (hts _ xA_l.2) hsa (vx_hat (fun w hw => hts w (xA_good w hw)) xA_bad (fun w hw => va_any (xA_tab w hw) (hbad w hw))) xA_ot hU hN hS2 (hvv.1.trans hml.symm) xd_119_21 xd_119_24 xd_119_25 xd_119_27 xd_119_30 (fun z hz => absurd hz (htab z)) (by decide) (show 0 + 82 ≤ 660 by decide) (by decide) (by decide) hlocks ?_ (fun z hz => hS2.2.2 z hz) (by decide) (by decide)
    intro t ha hz hk
    refine ⟨rfl, hP2.kept (fun k q hq => hk _ (hP2 k q hq).lt), Nat.le_trans hS2.1 hz, fun q h1 h2 => ?_⟩
    rw [hk q (Nat.lt_of_lt_of_le h1 hS2.1)]
    exact hS2.2.1 q h1 h2
theorem xd_140_20 : decode (iv_c 140) 20 = .ok (.new 155, 3) := by
  have h := List.all_eq_true.mp (iv_cok_all 140 (by decide)) _ (iv_f1_in _ _ _ (show iv_f1 (iv_m 140).2.2.2.2 20 = some (.new 155, 3) from rfl))
  rw [Bool.and_eq_true] at h
  exact of_decide_eq_true h.1
theorem xd_140_23 : decode (iv_c 140) 23 = .ok (.dup, 1) := by
  have h := List.all_eq_true.mp (iv_cok_all 140 (by decide)) _ (iv_f1_in _ _ _ (show iv_f1 (iv_m 140).2.2.2.2 23 = some (.dup, 1) from rfl))
  rw [Bool.and_eq_true] at h
  exact of_decide_eq_true h.1
theorem xd_140_24 : decode (iv_c 140) 24 = .ok (.ldc_w 306, 3) := by
  have h := List.all_eq_true.mp (iv_cok_all 140 (by decide)) _ (iv_f1_in _ _ _ (show iv_f1 (iv_m 140).2.2.2.2 24 = some (.ldc_w 306, 3) from rfl))
  rw [Bool.and_eq_true] at h
  exact of_decide_eq_true h.1
theorem xd_140_27 : decode (iv_c 140) 27 = .ok (.invokespecial 159, 3) := by
  have h := List.all_eq_true.mp (iv_cok_all 140 (by decide)) _ (iv_f1_in _ _ _ (show iv_f1 (iv_m 140).2.2.2.2 27 = some (.invokespecial 159, 3) from rfl))
  rw [Bool.and_eq_true] at h
  exact of_decide_eq_true h.1
theorem xd_140_30 : decode (iv_c 140) 30 = .ok (.athrow, 1) := by
  have h := List.all_eq_true.mp (iv_cok_all 140 (by decide)) _ (iv_f1_in _ _ _ (show iv_f1 (iv_m 140).2.2.2.2 30 = some (.athrow, 1) from rfl))
  rw [Bool.and_eq_true] at h
  exact of_decide_eq_true h.1
set_option maxHeartbeats 1000000 in
theorem xA_met140 {l : Launch} {ad cy : Nat → Nat} {D : va_G} {base L : Nat} {xs : Nat → Int32} {x y : Int32} (hl : l.stackTraces = false) : vx_Met l (iv_y 140) (iv_ws 140) (iv_rm 10 1 6) (xA_P ad cy D base L xs [.ref 0, .int x, .int y] sg2) (fun _ _ _ _ => False) (xA_X ad cy D base sg2) 1 6 (iv_A base) := by
  have hM : 140 < iv_n := by decide
  obtain ⟨b1, b2, b3, b4, b5, b6, b7⟩ := iv_mfacts hM
  refine vx_ofW (cc := iv_c 140) (maxL := (iv_m 140).2.2.1) (ret := (iv_m 140).2.2.2.1) b2 rfl ?_
  intro p e s m args below meth c s₁ B hml htab hv
  obtain ⟨⟨rfl, hK, hP⟩, hw⟩ := hv
  have hx := B.exec
  have hb := B.bytes
  have hts0 := atoms_spec (ws := iv_ws 140) B.pre
  have hts : ∀ w ∈ iv_G, w.before (iv_sm ad [.ref 0, .int x, .int y]).toArray s = true := fun w hw => hts0 w (List.mem_cons_of_mem _ hw)
  have hown : s.vm.findClass (iv_R (iv_m 140).2.1) = some m.cls := by rw [b5]; exact findClass_of_methodNamed B.named
  have hlocks := B.notSynchronized
  have hnm : meth.name = (iv_y 140).name := (name_of_methodNamed B.named B.method).1
  have hlv := lv_entry (iv_sm ad [.ref 0, .int x, .int y]) (n := (iv_m 140).2.2.1) (by rw [iv_lgl]; exact (show (3 : Nat) ≤ (iv_m 140).2.2.1 by decide))
  rw [lg_entry_eq]
  rw [iv_largs] at hlv
  obtain ⟨F, n, lv, hpart⟩ := xA_part140 (L := L) (xs := xs) (x := x) (y := y)
  obtain ⟨⟨⟨sa, hsa⟩, sb, hsb⟩, ⟨hU, hN⟩, hbad⟩ := hw
  have C : iv_C0 ad cy D base L xs p s m (iv_sm ad [.ref 0, .int x, .int y]).toArray meth c (iv_c 140) (iv_m 140).2.2.1 (iv_m 140).2.1 (iv_y 140).name := ⟨hx, hb, hml, hown, hts, hK, fun h9 => hnm.trans h9⟩
  have N := (iv_part_okN (l := l) (e := e) (R := iv_rm 10 1 6) (below := below) (Q := vx_MQ below (fun _ _ _ _ => False) (xA_X ad cy D base sg2) (iv_sm ad [.ref 0, .int x, .int y]).toArray s 1 6 (iv_A base)) (c0 := sg2.1) (n0 := sg2.2.2) 20 F n 10 140 0 _ [] sg2 lv [] sg2 (Nat.le_of_lt hM) hpart).2 C rfl rfl (Nat.le_refl _) (Nat.le_refl _) (by rw [Nat.sub_self]; exact Nat.zero_le _) (by rw [Nat.sub_self]; exact Nat.zero_le _) ?_
  · have N2 := N s.heap [] _ hlv hP va_S.rf
    exact W.cs (Nat.sub_self _).symm (Nat.sub_self _).symm N2
  · intro H locs ls hvv hP2 hS2
    refine W.cs (Nat.sub_self _) (Nat.sub_self _) ?_
    refine xc_throwSW (own := RX12) (text := xw_t2) (ik := 155) (is := 306) (ic := 159) (A := iv_A base) hx hb hl hown (hts _ xA_l.1) (hts _ xA_l.2) hsb (vx_hat (fun w hw => hts w (xA_good w hw)) xA_bad (fun w hw => va_any (xA_tab w hw) (hbad w hw))) xA_ot hU hN hS2 (hvv.1.trans hml.symm) xd_140_20 xd_140_23 xd_140_24 xd_140_27 xd_140_30 (fun z hz => absurd hz (htab z)) (by decide) (show 0 + 82 ≤ 660 by decide) (by decide) (by decide) hlocks ?_ (fun z hz => hS2.2.2 z hz) (by decide) (by decide)
    intro t ha hz hk
    refine ⟨rfl, hP2.kept (fun k q hq => hk _ (hP2 k q hq).lt), Nat.le_trans hS2.1 hz, fun q h1 h2 => ?_⟩
    rw [hk q (Nat.lt_of_lt_of_le h1 hS2.1)]
    exact hS2.2.1 q h1 h2
end XA
