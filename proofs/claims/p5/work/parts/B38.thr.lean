section XCT
variable {p : Program} {l : Launch} {e : Env} {R : Room} {s : State} {m : MethodId} {args : Array Value} {below : List Frame} {meth : Method} {c : Code} {H : Heap} {locs : List Loc} {cells slots : Nat}
variable {free : Addr → Prop} {ls : Array Slot} {rest : List Value}
variable {Qc : Array Value → State → Outcome → State → Prop} {XC : String → State → State → Prop}
theorem xc_throwS {cc : ByteArray} {pc : Nat} (hexec : p.tables.exec = Jvm.exec) (hb : c.code = cc) (hl : l.stackTraces = false) {own text : String} {ik is ic mc ms sa : Nat} {A : Nat → Prop}
    (hown : s.vm.findClass own = some m.cls) 
    (hk : (Cond.classLink own ik xc_N).before args s = true) (hini : (Cond.initialized xc_N).before args s = true) (hstr : vk_R own is text sa s) (hat : ∀ w ∈ (xc_ws own ic).filter vx_no, w.before args s = true)
    (hgood : ∀ w ∈ Cond.classLink own ik xc_N :: Cond.initialized xc_N :: (xc_ws own ic).filter vx_no, vx_ot w = true)
    (hU : vx_Zq Bundle.tN "UNASSIGNED_STACK" Bundle.steD A s s.heap) (hN : vx_Zq Bundle.tN "SUPPRESSED_SENTINEL" Bundle.listD A s s.heap) (hS : va_S A s.heap H locs) (hsize : ls.size = c.maxLocals)
    (d0 : decode cc pc = .ok (.new ik, 3)) (d3 : decode cc (pc + 3) = .ok (.dup, 1)) (d4 : decode cc (pc + 4) = .ok (.ldc is, 2)) (d6 : decode cc (pc + 6) = .ok (.invokespecial ic, 3)) (d9 : decode cc (pc + 9) = .ok (.athrow, 1))
    (hout : ∀ x ∈ c.exceptionTable.toList, covers x (pc + 9) = false)
    (hRframes : 5 < R.frames) (hRlocals : (rest.map fun v => v.category).sum + 82 ≤ R.locals) (hRcells : cells + 1 ≤ R.cells) (hRslots : slots + 6 ≤ R.slots) (hlocks : meth.locks = false)
    (hx : ∀ t : State, s.vm.Alike t.vm → H.size ≤ t.heap.size → (∀ q : Nat, q < H.size → t.heap[q]? = H[q]?) → XC xc_N s t)
    (hf : ∀ z ∈ locs, free z.base) (hc : cells + 1 ≤ mc) (hs : slots + 6 ≤ ms) :
    W p l e R s m args below meth c H locs cells slots (vx_MQ below Qc XC args s mc ms free) (F0 m pc ls rest) := by
  intro T hT X
  have htr : e.platform.stackTraces = false := (show e.platform.stackTraces = l.stackTraces by rw [X.admits.platform]).trans hl
  have Y := vx_rebase X (R' := { frames := R.frames, locals := R.locals, cells := 1, slots := 6 }) (Nat.le_refl _) (Nat.le_refl _) hRcells hRslots
  obtain ⟨s', hA⟩ : ∃ z, z = (T.setVm s.vm).setFrames (.invoking m args :: below) := ⟨_, rfl⟩
  rw [← hA] at Y
  have hvm : s'.vm = s.vm := by rw [hA]; rfl
  have hhp : s'.heap = H := by rw [hA]; exact hT
  have hW0 : s.WarmedH s'.vm := by rw [hvm]; exact State.WarmedH.refl s
  have hat' : ∀ w ∈ (xc_ws own ic).filter vx_no, w.before args s' = true := fun w hw => vx_ot_at hW0 hvm.symm (hgood w (List.mem_cons_of_mem _ (List.mem_cons_of_mem _ hw))) (hat w hw)
  have hk' : (Cond.classLink own ik xc_N).before args s' = true := vx_ot_at hW0 hvm.symm (hgood _ List.mem_cons_self) hk
  have hini' : (Cond.initialized xc_N).before args s' = true := vx_ot_at hW0 hvm.symm (hgood _ (List.mem_cons_of_mem _ List.mem_cons_self)) hini
  have hU' : vx_Zq Bundle.tN "UNASSIGNED_STACK" Bundle.steD A s' s'.heap := by rw [hhp]; exact vx_Zq.moved hW0.alike (hU.kept hS.2.1)
  have hN' : vx_Zq Bundle.tN "SUPPRESSED_SENTINEL" Bundle.listD A s' s'.heap := by rw [hhp]; exact vx_Zq.moved hW0.alike (hN.kept hS.2.1)
  have h : ∀ w ∈ xc_ws own ic, w.before args s' = true := vx_own hat' (vx_isRefq hU'.1) (vx_isRefq hN'.1) hU'.2.word hN'.2.word
  have hown' : s'.vm.findClass own = some m.cls := by rw [hvm]; exact hown
  have hins : (Cond.instantiable xc_N 6).before args s' = true := h _ (by simp [xc_ws])
  obtain ⟨vm₁, cX, kX, hfX, hkX, -, -, X₁, st1⟩ := Y.newCold hexec (own := own) (C := xc_N) (index := ik) (n := 6) hown' hk' hins hini'
    (g := F0 m pc ls rest) rfl (by rw [hb]; exact d0) (Nat.le_refl _) (Nat.le_refl _)
  generalize hT1 : (T.setVm vm₁).pushCell { cls := cX, slots := kX.instanceTypes.map defaultValue, vm := .none } = T1 at X₁ st1
  have hcat : (Value.ref T.heap.size).category = 1 := rfl
  have hcellA : T1.heap[T.heap.size]? = some (freshCell cX kX) := by rw [← hT1]; exact State.heap_pushCell_size _ _
  have d3' : decode c.code (pc + 3) = .ok (.dup, 1) := by rw [hb]; exact d3
  have d4' : decode c.code (pc + 4) = .ok (.ldc is, 2) := by rw [hb]; exact d4
  have hstr' : vk_R own is text sa s' := vk_R.warm hW0 hstr
  obtain ⟨U, hsteps, hrun, hend, hW, hsame, ce, hce, hO, hO2⟩ := xc_ctor X₁ hexec htr (own := own) (ic := ic) hown' h (fun x hx => nomatch hx) hfX hkX hcellA (by rw [hhp, hT]; exact Nat.le_refl _) (msg := .ref sa) rfl
    (g := { method := m, pc := pc + 6, locals := ls, stack := .ref sa :: .ref T.heap.size :: .ref T.heap.size :: rest, locked := none }) rfl hsize rfl rfl (rest := rest) rfl
    (by rw [hb]; exact d6) (by rw [hb]; exact d9) hout hRframes (by simp only [List.map_cons, List.sum_cons, hcat]; omega) hlocks
  obtain ⟨f1, f2⟩ := vx_frame hsame
  rw [hhp] at f1 f2
  have hWs : s.WarmedH U.vm := State.WarmedH.trans hW0 hW
  have hcl : s.vm.findClass xc_N = some ce.cls := by
    have h9 := hO
    rw [hvm] at h9
    exact h9
  have hall : s.sameButNew ({ U with vm := s.vm } : State) locs mc ms := by
    subst hA
    obtain ⟨e1, e2⟩ := hsame
    rw [State.setFrames_setFrames] at e1
    have h2 : (T.setVm s.vm).sameButNew ({ U with vm := s.vm } : State) [] (0 + 1) (0 + 6) := ⟨e1, e2⟩
    have h3 := X.same.trans h2
    rw [List.append_nil] at h3
    exact h3.mono hc hs
  refine ⟨U, ?_, .threw T.heap.size, hrun, hend, Or.inr ⟨T.heap.size, rfl, xc_N, ce, locs, hx U hWs.alike f1 (fun q hq => f2 q hq (fun z hz => nomatch hz)), hce, hO2, hcl, hWs, hall, hf⟩⟩
  refine st1 _ ?_
  show Steps p.tables e below (T1.setTop { method := m, pc := pc + 3, locals := ls, stack := .ref T.heap.size :: rest, locked := none }) _
  jvm_step X₁.here [X₁.here.top, hexec, d3', Value.category]
  exact X₁.ldcString hexec (own := own) (text := text) (index := is) (a := sa) hown' hstr'.1 hstr'.2
    (g := { method := m, pc := pc + 4, locals := ls, stack := .ref T.heap.size :: .ref T.heap.size :: rest, locked := none }) rfl d4' _ hsteps
theorem xc_throwSW {cc : ByteArray} {pc : Nat} (hexec : p.tables.exec = Jvm.exec) (hb : c.code = cc) (hl : l.stackTraces = false) {own text : String} {ik is ic mc ms sa : Nat} {A : Nat → Prop}
    (hown : s.vm.findClass own = some m.cls) 
    (hk : (Cond.classLink own ik xc_N).before args s = true) (hini : (Cond.initialized xc_N).before args s = true) (hstr : vk_R own is text sa s) (hat : ∀ w ∈ (xc_ws own ic).filter vx_no, w.before args s = true)
    (hgood : ∀ w ∈ Cond.classLink own ik xc_N :: Cond.initialized xc_N :: (xc_ws own ic).filter vx_no, vx_ot w = true)
    (hU : vx_Zq Bundle.tN "UNASSIGNED_STACK" Bundle.steD A s s.heap) (hN : vx_Zq Bundle.tN "SUPPRESSED_SENTINEL" Bundle.listD A s s.heap) (hS : va_S A s.heap H locs) (hsize : ls.size = c.maxLocals)
    (d0 : decode cc pc = .ok (.new ik, 3)) (d3 : decode cc (pc + 3) = .ok (.dup, 1)) (d4 : decode cc (pc + 4) = .ok (.ldc_w is, 3)) (d7 : decode cc (pc + 7) = .ok (.invokespecial ic, 3)) (d10 : decode cc (pc + 10) = .ok (.athrow, 1))
    (hout : ∀ x ∈ c.exceptionTable.toList, covers x (pc + 10) = false)
    (hRframes : 5 < R.frames) (hRlocals : (rest.map fun v => v.category).sum + 82 ≤ R.locals) (hRcells : cells + 1 ≤ R.cells) (hRslots : slots + 6 ≤ R.slots) (hlocks : meth.locks = false)
    (hx : ∀ t : State, s.vm.Alike t.vm → H.size ≤ t.heap.size → (∀ q : Nat, q < H.size → t.heap[q]? = H[q]?) → XC xc_N s t)
    (hf : ∀ z ∈ locs, free z.base) (hc : cells + 1 ≤ mc) (hs : slots + 6 ≤ ms) :
    W p l e R s m args below meth c H locs cells slots (vx_MQ below Qc XC args s mc ms free) (F0 m pc ls rest) := by
  intro T hT X
  have htr : e.platform.stackTraces = false := (show e.platform.stackTraces = l.stackTraces by rw [X.admits.platform]).trans hl
  have Y := vx_rebase X (R' := { frames := R.frames, locals := R.locals, cells := 1, slots := 6 }) (Nat.le_refl _) (Nat.le_refl _) hRcells hRslots
  obtain ⟨s', hA⟩ : ∃ z, z = (T.setVm s.vm).setFrames (.invoking m args :: below) := ⟨_, rfl⟩
  rw [← hA] at Y
  have hvm : s'.vm = s.vm := by rw [hA]; rfl
  have hhp : s'.heap = H := by rw [hA]; exact hT
  have hW0 : s.WarmedH s'.vm := by rw [hvm]; exact State.WarmedH.refl s
  have hat' : ∀ w ∈ (xc_ws own ic).filter vx_no, w.before args s' = true := fun w hw => vx_ot_at hW0 hvm.symm (hgood w (List.mem_cons_of_mem _ (List.mem_cons_of_mem _ hw))) (hat w hw)
  have hk' : (Cond.classLink own ik xc_N).before args s' = true := vx_ot_at hW0 hvm.symm (hgood _ List.mem_cons_self) hk
  have hini' : (Cond.initialized xc_N).before args s' = true := vx_ot_at hW0 hvm.symm (hgood _ (List.mem_cons_of_mem _ List.mem_cons_self)) hini
  have hU' : vx_Zq Bundle.tN "UNASSIGNED_STACK" Bundle.steD A s' s'.heap := by rw [hhp]; exact vx_Zq.moved hW0.alike (hU.kept hS.2.1)
  have hN' : vx_Zq Bundle.tN "SUPPRESSED_SENTINEL" Bundle.listD A s' s'.heap := by rw [hhp]; exact vx_Zq.moved hW0.alike (hN.kept hS.2.1)
  have h : ∀ w ∈ xc_ws own ic, w.before args s' = true := vx_own hat' (vx_isRefq hU'.1) (vx_isRefq hN'.1) hU'.2.word hN'.2.word
  have hown' : s'.vm.findClass own = some m.cls := by rw [hvm]; exact hown
  have hins : (Cond.instantiable xc_N 6).before args s' = true := h _ (by simp [xc_ws])
  obtain ⟨vm₁, cX, kX, hfX, hkX, -, -, X₁, st1⟩ := Y.newCold hexec (own := own) (C := xc_N) (index := ik) (n := 6) hown' hk' hins hini'
    (g := F0 m pc ls rest) rfl (by rw [hb]; exact d0) (Nat.le_refl _) (Nat.le_refl _)
  generalize hT1 : (T.setVm vm₁).pushCell { cls := cX, slots := kX.instanceTypes.map defaultValue, vm := .none } = T1 at X₁ st1
  have hcat : (Value.ref T.heap.size).category = 1 := rfl
  have hcellA : T1.heap[T.heap.size]? = some (freshCell cX kX) := by rw [← hT1]; exact State.heap_pushCell_size _ _
  have d3' : decode c.code (pc + 3) = .ok (.dup, 1) := by rw [hb]; exact d3
  have d4' : decode c.code (pc + 4) = .ok (.ldc_w is, 3) := by rw [hb]; exact d4
  have hstr' : vk_R own is text sa s' := vk_R.warm hW0 hstr
  obtain ⟨U, hsteps, hrun, hend, hW, hsame, ce, hce, hO, hO2⟩ := xc_ctor X₁ hexec htr (own := own) (ic := ic) hown' h (fun x hx => nomatch hx) hfX hkX hcellA (by rw [hhp, hT]; exact Nat.le_refl _) (msg := .ref sa) rfl
    (g := { method := m, pc := pc + 7, locals := ls, stack := .ref sa :: .ref T.heap.size :: .ref T.heap.size :: rest, locked := none }) rfl hsize rfl rfl (rest := rest) rfl
    (by rw [hb]; exact d7) (by rw [hb]; exact d10) hout hRframes (by simp only [List.map_cons, List.sum_cons, hcat]; omega) hlocks
  obtain ⟨f1, f2⟩ := vx_frame hsame
  rw [hhp] at f1 f2
  have hWs : s.WarmedH U.vm := State.WarmedH.trans hW0 hW
  have hcl : s.vm.findClass xc_N = some ce.cls := by
    have h9 := hO
    rw [hvm] at h9
    exact h9
  have hall : s.sameButNew ({ U with vm := s.vm } : State) locs mc ms := by
    subst hA
    obtain ⟨e1, e2⟩ := hsame
    rw [State.setFrames_setFrames] at e1
    have h2 : (T.setVm s.vm).sameButNew ({ U with vm := s.vm } : State) [] (0 + 1) (0 + 6) := ⟨e1, e2⟩
    have h3 := X.same.trans h2
    rw [List.append_nil] at h3
    exact h3.mono hc hs
  refine ⟨U, ?_, .threw T.heap.size, hrun, hend, Or.inr ⟨T.heap.size, rfl, xc_N, ce, locs, hx U hWs.alike f1 (fun q hq => f2 q hq (fun z hz => nomatch hz)), hce, hO2, hcl, hWs, hall, hf⟩⟩
  refine st1 _ ?_
  show Steps p.tables e below (T1.setTop { method := m, pc := pc + 3, locals := ls, stack := .ref T.heap.size :: rest, locked := none }) _
  jvm_step X₁.here [X₁.here.top, hexec, d3', Value.category]
  exact X₁.ldcStringW hexec (own := own) (text := text) (index := is) (a := sa) hown' hstr'.1 hstr'.2
    (g := { method := m, pc := pc + 4, locals := ls, stack := .ref T.heap.size :: .ref T.heap.size :: rest, locked := none }) rfl d4' _ hsteps
end XCT
/-! ===== the class throws: brother and time on the new order ===== -/
section XA
def xw_t1 : String := "no such brother or no such thing of him"
def xw_t2 : String := "no such brother or no such part of a fraction"
def xw_bad : List Cond := [.declares (Bundle.initS "java/lang/RuntimeException"), .declares (Bundle.initS "java/lang/Exception"), .declares (Bundle.initS Bundle.tN), .castable xc_N xc_N]
def xw (base : Nat) (U : State) : Prop := ((∃ sa, vk_R RX12 157 xw_t1 sa U) ∧ (∃ sa, vk_R RX12 306 xw_t2 sa U)) ∧ (vx_Zq Bundle.tN "UNASSIGNED_STACK" Bundle.steD (iv_A base) U U.heap ∧ vx_Zq Bundle.tN "SUPPRESSED_SENTINEL" Bundle.listD (iv_A base) U U.heap) ∧ ∀ w ∈ xw_bad, va_Nw w U
theorem xw_to {base : Nat} {s U : State} (h : xw base s) (hW : s.WarmedH U.vm) (hk : ∀ q : Nat, q < s.heap.size → ¬ iv_A base q → U.heap[q]? = s.heap[q]?) : xw base U := by
  obtain ⟨⟨⟨a, ha⟩, b, hb⟩, ⟨h1, h2⟩, h3⟩ := h
  refine ⟨⟨⟨a, vk_R.warm hW ha⟩, b, vk_R.warm hW hb⟩, ⟨vx_Zq.moved hW.alike (h1.kept hk), vx_Zq.moved hW.alike (h2.kept hk)⟩, fun w hw => ?_⟩
  have h4 := h3 w hw
  simp only [xw_bad, List.mem_cons, List.not_mem_nil, or_false] at hw
  rcases hw with rfl | rfl | rfl | rfl
  · exact va_Nw.warmD hW h4
  · exact va_Nw.warmD hW h4
  · exact va_Nw.warmD hW h4
  · exact va_Nw.warmC hW h4
theorem xA_good : ∀ w ∈ ((xc_ws RX12 159).filter vx_no).filter goodWord, w ∈ iv_G := by decide +kernel
theorem xA_bad : ∀ w ∈ ((xc_ws RX12 159).filter vx_no).filter (fun w => !goodWord w), w ∈ xw_bad := by decide +kernel
theorem xA_tab : ∀ w ∈ xw_bad, w.onTables = true := by decide +kernel
theorem xA_ot : ∀ w ∈ Cond.classLink RX12 155 xc_N :: Cond.initialized xc_N :: (xc_ws RX12 159).filter vx_no, vx_ot w = true := by decide +kernel
theorem xA_l : Cond.classLink RX12 155 xc_N ∈ iv_G ∧ Cond.initialized xc_N ∈ iv_G := by decide +kernel
def xA_P (ad cy : Nat → Nat) (D : va_G) (base L : Nat) (xs : Nat → Int32) (as : List Value) (σ : iv_H) : Array Value → State → Prop := fun a st => iv_PcN ad cy D base L xs as σ a st ∧ xw base st
theorem xA_blind {ad cy : Nat → Nat} {D : va_G} {base L : Nat} {xs : Nat → Int32} {as : List Value} {σ : iv_H} : FrameBlind (xA_P ad cy D base L xs as σ) := fun a U g mk q => ⟨iv_blindN a U g mk q.1, xw_to q.2 (State.WarmedH.refl U) (fun _ _ _ => rfl)⟩
def xA_X (ad cy : Nat → Nat) (D : va_G) (base : Nat) (σ : iv_H) : String → State → State → Prop := fun E st t => E = xc_N ∧ va_P D vwCl (iv_W ad cy σ) t.heap ∧ va_F (iv_A base) st t
theorem xd_119_21 : decode (iv_c 119) 21 = .ok (.new 155, 3) := by
  have h := List.all_eq_true.mp (iv_cok_all 119 (by decide)) _ (iv_f1_in _ _ _ (show iv_f1 (iv_m 119).2.2.2.2 21 = some (.new 155, 3) from rfl))
  rw [Bool.and_eq_true] at h
  exact of_decide_eq_true h.1
theorem xd_119_24 : decode (iv_c 119) 24 = .ok (.dup, 1) := by
  have h := List.all_eq_true.mp (iv_cok_all 119 (by decide)) _ (iv_f1_in _ _ _ (show iv_f1 (iv_m 119).2.2.2.2 24 = some (.dup, 1) from rfl))
  rw [Bool.and_eq_true] at h
  exact of_decide_eq_true h.1
theorem xd_119_25 : decode (iv_c 119) 25 = .ok (.ldc 157, 2) := by
  have h := List.all_eq_true.mp (iv_cok_all 119 (by decide)) _ (iv_f1_in _ _ _ (show iv_f1 (iv_m 119).2.2.2.2 25 = some (.ldc 157, 2) from rfl))
  rw [Bool.and_eq_true] at h
  exact of_decide_eq_true h.1
theorem xd_119_27 : decode (iv_c 119) 27 = .ok (.invokespecial 159, 3) := by
  have h := List.all_eq_true.mp (iv_cok_all 119 (by decide)) _ (iv_f1_in _ _ _ (show iv_f1 (iv_m 119).2.2.2.2 27 = some (.invokespecial 159, 3) from rfl))
  rw [Bool.and_eq_true] at h
  exact of_decide_eq_true h.1
theorem xd_119_30 : decode (iv_c 119) 30 = .ok (.athrow, 1) := by
  have h := List.all_eq_true.mp (iv_cok_all 119 (by decide)) _ (iv_f1_in _ _ _ (show iv_f1 (iv_m 119).2.2.2.2 30 = some (.athrow, 1) from rfl))
  rw [Bool.and_eq_true] at h
  exact of_decide_eq_true h.1
set_option maxHeartbeats 1000000 in
theorem xA_met119 {l : Launch} {ad cy : Nat → Nat} {D : va_G} {base L : Nat} {xs : Nat → Int32} {x y : Int32} {σ : iv_H} (hl : l.stackTraces = false) (hpt : ∃ F n, iv_part L xs 21 F n 20 119 0 (lv_args 0 [.ref 0, .int x, .int y]) [] σ = some (lv_args 0 [.ref 0, .int x, .int y], [], σ)) : vx_Met l (iv_y 119) (iv_ws 119) (iv_rm 20 1 6) (xA_P ad cy D base L xs [.ref 0, .int x, .int y] σ) (fun _ _ _ _ => False) (xA_X ad cy D base σ) 1 6 (iv_A base) := by
  have hM : 119 < iv_n := by decide
  obtain ⟨b1, b2, b3, b4, b5, b6, b7⟩ := iv_mfacts hM
  refine vx_ofW (cc := iv_c 119) (maxL := (iv_m 119).2.2.1) (ret := (iv_m 119).2.2.2.1) b2 rfl ?_
  intro p e s m args below meth c s₁ B hml htab hv
  obtain ⟨⟨rfl, hK, hP⟩, hw⟩ := hv
  have hx := B.exec
  have hb := B.bytes
  have hts0 := atoms_spec (ws := iv_ws 119) B.pre
  have hts : ∀ w ∈ iv_G, w.before (iv_sm ad [.ref 0, .int x, .int y]).toArray s = true := fun w hw => hts0 w (List.mem_cons_of_mem _ hw)
  have hown : s.vm.findClass (iv_R (iv_m 119).2.1) = some m.cls := by rw [b5]; exact findClass_of_methodNamed B.named
  have hlocks := B.notSynchronized
  have hnm : meth.name = (iv_y 119).name := (name_of_methodNamed B.named B.method).1
  have hlv := lv_entry (iv_sm ad [.ref 0, .int x, .int y]) (n := (iv_m 119).2.2.1) (by rw [iv_lgl]; exact (show (3 : Nat) ≤ (iv_m 119).2.2.1 by decide))
  rw [lg_entry_eq]
  rw [iv_largs] at hlv
  obtain ⟨F, n, hpart⟩ := hpt
  obtain ⟨⟨⟨sa, hsa⟩, sb, hsb⟩, ⟨hU, hN⟩, hbad⟩ := hw
  have C : iv_C0 ad cy D base L xs p s m (iv_sm ad [.ref 0, .int x, .int y]).toArray meth c (iv_c 119) (iv_m 119).2.2.1 (iv_m 119).2.1 (iv_y 119).name := ⟨hx, hb, hml, hown, hts, hK, fun h9 => hnm.trans h9⟩
  have N := (iv_part_okN (l := l) (e := e) (R := iv_rm 20 1 6) (below := below) (Q := vx_MQ below (fun _ _ _ _ => False) (xA_X ad cy D base σ) (iv_sm ad [.ref 0, .int x, .int y]).toArray s 1 6 (iv_A base)) (c0 := σ.1) (n0 := σ.2.2) 21 F n 20 119 0 _ [] σ _ [] σ (Nat.le_of_lt hM) hpart).2 C rfl rfl (Nat.le_refl _) (Nat.le_refl _) (by rw [Nat.sub_self]; exact Nat.zero_le _) (by rw [Nat.sub_self]; exact Nat.zero_le _) ?_
  · have N2 := N s.heap [] _ hlv hP va_S.rf
    exact W.cs (Nat.sub_self _).symm (Nat.sub_self _).symm N2
  · intro H locs ls hvv hP2 hS2
    refine W.cs (Nat.sub_self _) (Nat.sub_self _) ?_
    refine xc_throwS (own := RX12) (text := xw_t1) (ik := 155) (is := 157) (ic := 159) (A := iv_A base) hx hb hl hown (hts _ xA_l.1) (hts _ xA_l.2) hsa (vx_hat (fun w hw => hts w (xA_good w hw)) xA_bad (fun w hw => va_any (xA_tab w hw) (hbad w hw))) xA_ot hU hN hS2 (hvv.1.trans hml.symm) xd_119_21 xd_119_24 xd_119_25 xd_119_27 xd_119_30 (fun z hz => absurd hz (htab z)) (by decide) (show 0 + 82 ≤ 1680 by decide) (by decide) (by decide) hlocks ?_ (fun z hz => hS2.2.2 z hz) (by decide) (by decide)
    intro t ha hz hk
    refine ⟨rfl, hP2.kept (fun k q hq => hk _ (hP2 k q hq).lt), Nat.le_trans hS2.1 hz, fun q h1 h2 => ?_⟩
    rw [hk q (Nat.lt_of_lt_of_le h1 hS2.1)]
    exact hS2.2.1 q h1 h2
theorem xd_140_20 : decode (iv_c 140) 20 = .ok (.new 155, 3) := by
  have h := List.all_eq_true.mp (iv_cok_all 140 (by decide)) _ (iv_f1_in _ _ _ (show iv_f1 (iv_m 140).2.2.2.2 20 = some (.new 155, 3) from rfl))
  rw [Bool.and_eq_true] at h
  exact of_decide_eq_true h.1
theorem xd_140_23 : decode (iv_c 140) 23 = .ok (.dup, 1) := by
  have h := List.all_eq_true.mp (iv_cok_all 140 (by decide)) _ (iv_f1_in _ _ _ (show iv_f1 (iv_m 140).2.2.2.2 23 = some (.dup, 1) from rfl))
  rw [Bool.and_eq_true] at h
  exact of_decide_eq_true h.1
theorem xd_140_24 : decode (iv_c 140) 24 = .ok (.ldc_w 306, 3) := by
  have h := List.all_eq_true.mp (iv_cok_all 140 (by decide)) _ (iv_f1_in _ _ _ (show iv_f1 (iv_m 140).2.2.2.2 24 = some (.ldc_w 306, 3) from rfl))
  rw [Bool.and_eq_true] at h
  exact of_decide_eq_true h.1
theorem xd_140_27 : decode (iv_c 140) 27 = .ok (.invokespecial 159, 3) := by
  have h := List.all_eq_true.mp (iv_cok_all 140 (by decide)) _ (iv_f1_in _ _ _ (show iv_f1 (iv_m 140).2.2.2.2 27 = some (.invokespecial 159, 3) from rfl))
  rw [Bool.and_eq_true] at h
  exact of_decide_eq_true h.1
theorem xd_140_30 : decode (iv_c 140) 30 = .ok (.athrow, 1) := by
  have h := List.all_eq_true.mp (iv_cok_all 140 (by decide)) _ (iv_f1_in _ _ _ (show iv_f1 (iv_m 140).2.2.2.2 30 = some (.athrow, 1) from rfl))
  rw [Bool.and_eq_true] at h
  exact of_decide_eq_true h.1
set_option maxHeartbeats 1000000 in
theorem xA_met140 {l : Launch} {ad cy : Nat → Nat} {D : va_G} {base L : Nat} {xs : Nat → Int32} {x y : Int32} {σ : iv_H} (hl : l.stackTraces = false) (hpt : ∃ F n, iv_part L xs 20 F n 20 140 0 (lv_args 0 [.ref 0, .int x, .int y]) [] σ = some (lv_args 0 [.ref 0, .int x, .int y], [], σ)) : vx_Met l (iv_y 140) (iv_ws 140) (iv_rm 20 1 6) (xA_P ad cy D base L xs [.ref 0, .int x, .int y] σ) (fun _ _ _ _ => False) (xA_X ad cy D base σ) 1 6 (iv_A base) := by
  have hM : 140 < iv_n := by decide
  obtain ⟨b1, b2, b3, b4, b5, b6, b7⟩ := iv_mfacts hM
  refine vx_ofW (cc := iv_c 140) (maxL := (iv_m 140).2.2.1) (ret := (iv_m 140).2.2.2.1) b2 rfl ?_
  intro p e s m args below meth c s₁ B hml htab hv
  obtain ⟨⟨rfl, hK, hP⟩, hw⟩ := hv
  have hx := B.exec
  have hb := B.bytes
  have hts0 := atoms_spec (ws := iv_ws 140) B.pre
  have hts : ∀ w ∈ iv_G, w.before (iv_sm ad [.ref 0, .int x, .int y]).toArray s = true := fun w hw => hts0 w (List.mem_cons_of_mem _ hw)
  have hown : s.vm.findClass (iv_R (iv_m 140).2.1) = some m.cls := by rw [b5]; exact findClass_of_methodNamed B.named
  have hlocks := B.notSynchronized
  have hnm : meth.name = (iv_y 140).name := (name_of_methodNamed B.named B.method).1
  have hlv := lv_entry (iv_sm ad [.ref 0, .int x, .int y]) (n := (iv_m 140).2.2.1) (by rw [iv_lgl]; exact (show (3 : Nat) ≤ (iv_m 140).2.2.1 by decide))
  rw [lg_entry_eq]
  rw [iv_largs] at hlv
  obtain ⟨F, n, hpart⟩ := hpt
  obtain ⟨⟨⟨sa, hsa⟩, sb, hsb⟩, ⟨hU, hN⟩, hbad⟩ := hw
  have C : iv_C0 ad cy D base L xs p s m (iv_sm ad [.ref 0, .int x, .int y]).toArray meth c (iv_c 140) (iv_m 140).2.2.1 (iv_m 140).2.1 (iv_y 140).name := ⟨hx, hb, hml, hown, hts, hK, fun h9 => hnm.trans h9⟩
  have N := (iv_part_okN (l := l) (e := e) (R := iv_rm 20 1 6) (below := below) (Q := vx_MQ below (fun _ _ _ _ => False) (xA_X ad cy D base σ) (iv_sm ad [.ref 0, .int x, .int y]).toArray s 1 6 (iv_A base)) (c0 := σ.1) (n0 := σ.2.2) 20 F n 20 140 0 _ [] σ _ [] σ (Nat.le_of_lt hM) hpart).2 C rfl rfl (Nat.le_refl _) (Nat.le_refl _) (by rw [Nat.sub_self]; exact Nat.zero_le _) (by rw [Nat.sub_self]; exact Nat.zero_le _) ?_
  · have N2 := N s.heap [] _ hlv hP va_S.rf
    exact W.cs (Nat.sub_self _).symm (Nat.sub_self _).symm N2
  · intro H locs ls hvv hP2 hS2
    refine W.cs (Nat.sub_self _) (Nat.sub_self _) ?_
    refine xc_throwSW (own := RX12) (text := xw_t2) (ik := 155) (is := 306) (ic := 159) (A := iv_A base) hx hb hl hown (hts _ xA_l.1) (hts _ xA_l.2) hsb (vx_hat (fun w hw => hts w (xA_good w hw)) xA_bad (fun w hw => va_any (xA_tab w hw) (hbad w hw))) xA_ot hU hN hS2 (hvv.1.trans hml.symm) xd_140_20 xd_140_23 xd_140_24 xd_140_27 xd_140_30 (fun z hz => absurd hz (htab z)) (by decide) (show 0 + 82 ≤ 1680 by decide) (by decide) (by decide) hlocks ?_ (fun z hz => hS2.2.2 z hz) (by decide) (by decide)
    intro t ha hz hk
    refine ⟨rfl, hP2.kept (fun k q hq => hk _ (hP2 k q hq).lt), Nat.le_trans hS2.1 hz, fun q h1 h2 => ?_⟩
    rw [hk q (Nat.lt_of_lt_of_le h1 hS2.1)]
    exact hS2.2.1 q h1 h2
end XA
/-! ===== GraterOrderLaw.brother and .time catch it, and answer 1 ===== -/
section XB
theorem xB_l : Cond.classLink RL 13 xc_N ∈ iv_G ∧ Cond.methodLink RL 7 (iv_y 119) ∈ iv_G ∧ Cond.methodLink RL 15 (iv_y 140) ∈ iv_G ∧ Cond.selects RX12 (iv_y 119) (iv_y 119) ∈ iv_G ∧ Cond.selects RX12 (iv_y 140) (iv_y 140) ∈ iv_G := by decide +kernel
theorem xB_i : Cond.instanceMethod (iv_y 119) ∈ iv_G ∧ Cond.instanceMethod (iv_y 140) ∈ iv_G := by decide +kernel
theorem xe_brother_0 : decode cL_brother 0 = .ok (.aload_n 3, 1) := by decide +kernel
theorem xe_brother_1 : decode cL_brother 1 = .ok (.iconst 0, 1) := by decide +kernel
theorem xe_brother_2 : decode cL_brother 2 = .ok (.aload_n 0, 1) := by decide +kernel
theorem xe_brother_3 : decode cL_brother 3 = .ok (.iload_n 1, 1) := by decide +kernel
theorem xe_brother_4 : decode cL_brother 4 = .ok (.iload_n 2, 1) := by decide +kernel
theorem xe_brother_5 : decode cL_brother 5 = .ok (.invokevirtual 7, 3) := by decide +kernel
theorem xe_brother_13 : decode cL_brother 13 = .ok (.astore 4, 2) := by decide +kernel
theorem xe_brother_15 : decode cL_brother 15 = .ok (.iconst 1, 1) := by decide +kernel
theorem xe_brother_16 : decode cL_brother 16 = .ok (.ireturn, 1) := by decide +kernel
set_option maxHeartbeats 1000000 in
theorem xB_brother {l : Launch} {ad cy : Nat → Nat} {D : va_G} {base L : Nat} {xs : Nat → Int32} {x y : Int32} {σ : iv_H} {fs : List Value} (hl : l.stackTraces = false) (hg0 : iv_get σ 0 = some (.inr (11, fs))) (hpt : ∃ F n, iv_part L xs 21 F n 20 119 0 (lv_args 0 [.ref 0, .int x, .int y]) [] σ = some (lv_args 0 [.ref 0, .int x, .int y], [], σ)) : Met l yL_brother (Cond.codeWith yL_brother cL_brother 5 (some .int) [(0, 10, 13, 13)] :: iv_G) (iv_rm 22 1 6) (xA_P ad cy D base L xs [.ref 0, .int x, .int y, .ref 592] σ) (iv_Qc ad cy D base (some (.int 1)) σ) 1 6 (iv_A base) := by
  have hM : 119 < iv_n := by decide
  obtain ⟨b1, b2, b3, b4, b5, b6, b7⟩ := iv_mfacts hM
  refine va_MetW (cc := cL_brother) (maxL := 5) (ret := some .int) (hh := [(0, 10, 13, 13)]) (by decide) rfl ?_
  intro p e s m args below meth c s₁ B hml hv
  obtain ⟨⟨rfl, hK, hP⟩, hw⟩ := hv
  have hx := B.exec
  have hb := B.bytes
  have hr := B.returns
  have hts0 := atoms_spec (ws := Cond.codeWith yL_brother cL_brother 5 (some .int) [(0, 10, 13, 13)] :: iv_G) B.pre
  have hts : ∀ w ∈ iv_G, w.before (iv_sm ad [.ref 0, .int x, .int y, .ref 592]).toArray s = true := fun w hw => hts0 w (List.mem_cons_of_mem _ hw)
  have hown : s.vm.findClass RL = some m.cls := findClass_of_methodNamed B.named
  have htab := vx_table (x := yL_brother) B (hts0 _ List.mem_cons_self)
  have hlv := lv_entry (iv_sm ad [.ref 0, .int x, .int y, .ref 592]) (n := 5) (by rw [iv_lgl]; exact (show (4 : Nat) ≤ 5 by decide))
  rw [lg_entry_eq]
  rw [iv_largs] at hlv
  generalize (lg_sl (iv_sm ad [.ref 0, .int x, .int y, .ref 592]) ++ List.replicate (5 - (lg_sl (iv_sm ad [.ref 0, .int x, .int y, .ref 592])).length) Slot.unset).toArray = ls at hlv ⊢
  have g0 : ls[0]? = some (.val (.ref (ad 0))) := hlv.2.2 (0, .ref (ad 0)) (by simp [lv_args, iv_v, Value.category])
  have g1 : ls[1]? = some (.val (.int x)) := hlv.2.2 (1, .int x) (by simp [lv_args, iv_v, Value.category])
  have g2 : ls[2]? = some (.val (.int y)) := hlv.2.2 (2, .int y) (by simp [lv_args, iv_v, Value.category])
  have g3 : ls[3]? = some (.val (.ref (ad 592))) := hlv.2.2 (3, .ref (ad 592)) (by simp [lv_args, iv_v, Value.category])
  refine lv_aload_n hx hb xe_brother_0 rfl g3 ?_
  refine lv_iconst hx hb xe_brother_1 rfl ?_
  refine lv_aload_n hx hb xe_brother_2 rfl g0 ?_
  refine lv_iload_n hx hb xe_brother_3 rfl g1 ?_
  refine lv_iload_n hx hb xe_brother_4 rfl g2 ?_
  obtain ⟨k0, ek0, hk0, he⟩ := iv_get_ok hg0
  have hat := iv_W_at (ad := ad) (cy := cy) hk0
  rw [he, ← ek0] at hat
  have hrec := va_recv hK.1.1 hP (iv_cl_at 11 (by decide)) hat
  have hPre : ∀ U : State, U.heap = s.heap → s.WarmedH U.vm → xA_P ad cy D base L xs [.ref 0, .int x, .int y] σ (iv_sm ad [.ref 0, .int x, .int y]).toArray U := fun U hU hW => ⟨⟨rfl, iv_K_to hK hW (by rw [hU]; exact Nat.le_refl _) (fun q h1 h2 => by rw [hU]), by rw [hU]; exact hP⟩, xw_to hw hW (fun q h1 h2 => by rw [hU])⟩
  have hrun := vx_runV (R := iv_rm 22 1 6) (rest := [.int 0, .ref (ad 592)]) (As := [.int x, .int y]) (b := ad 0) (C := RX12) (g := F0 m 5 ls [.int y, .int x, .ref (ad 0), .int 0, .ref (ad 592)]) (cells := 0) (slots := 0) (locs := []) (H := s.heap) (e := e) (below := below) (meth := meth) ⟨hx, hb, hml, hown, hts⟩ (xA_met119 (ad := ad) (cy := cy) (D := D) (base := base) (L := L) (xs := xs) (x := x) (y := y) hl hpt) ⟨callB_of 2 hts (iv_ws_good hM) rfl rfl rfl (hts _ b1) (hts _ xB_l.2.1) ⟨b3.1, b3.2.1, rfl⟩ ⟨by decide, by decide⟩, hts _ xB_i.1, hts _ xB_l.2.2.2.1⟩ ⟨xA_blind, hrec, hPre⟩ rfl rfl hlv.1 rfl (lv_room (show (2 : Nat) ≤ 8 by decide)) xe_brother_5 ⟨by decide, by decide⟩
  intro T hT X
  rcases hrun T hT X with ⟨v, st₀, t, T', L9, h0, X', hL, e1, e2, hF, st⟩ | ⟨q, st₀, t, T', L9, E, ce, h0, X', hL, e1, e2, ⟨rfl, hP1, hF⟩, hce, hcv, hcl, st⟩
  · exact hF.elim
  · obtain ⟨k1, k2, k3⟩ := vx_keep (A0 := iv_A base) (A1 := iv_A base) (H0 := s.heap) h0 e1 va_S.rf (fun _ _ z => z) (fun _ z => z) hL hF
    have hcast : (Cond.castable xc_N xc_N).before (iv_sm ad [.ref 0, .int x, .int y, .ref 592]).toArray s = true := va_any rfl (hw.2.2 _ (by simp [xw_bad]))
    have K := xc_catch (p := p) (l := l) (e := e) (R := iv_rm 22 1 6) (below := below) (meth := meth) (H := T'.heap) (locs := [] ++ L9) (cells := 0 + 1) (slots := 0 + 6) (ls := ls) (pc := 5) (rest := [.int 0, .ref (ad 592)]) (Q := MQ below (iv_Qc ad cy D base (some (.int 1)) σ) (iv_sm ad [.ref 0, .int x, .int y, .ref 592]).toArray s 1 6 (iv_A base)) hown _ htab (by decide) (by decide) (hts _ xB_l.1) hcast (by rw [e1]; exact hce) hcv hcl ?_
    · obtain ⟨t2, a1, b1'⟩ := K T' rfl X'
      exact ⟨t2, st.trans a1, b1'⟩
    · refine lv_astore hx hb xe_brother_13 hlv (by decide) rfl (fun ls2 hlv2 => ?_)
      refine lv_iconst hx hb xe_brother_15 rfl ?_
      exact W.iret hx hb hr (fun t9 ht9 _ => ⟨rfl, by rw [ht9, e1]; exact hP1, k3.F ht9⟩) k3.2.2 xe_brother_16
theorem xe_time_0 : decode cL_time 0 = .ok (.aload_n 3, 1) := by decide +kernel
theorem xe_time_1 : decode cL_time 1 = .ok (.iconst 0, 1) := by decide +kernel
theorem xe_time_2 : decode cL_time 2 = .ok (.aload_n 0, 1) := by decide +kernel
theorem xe_time_3 : decode cL_time 3 = .ok (.iload_n 1, 1) := by decide +kernel
theorem xe_time_4 : decode cL_time 4 = .ok (.iload_n 2, 1) := by decide +kernel
theorem xe_time_5 : decode cL_time 5 = .ok (.invokevirtual 15, 3) := by decide +kernel
theorem xe_time_13 : decode cL_time 13 = .ok (.astore 4, 2) := by decide +kernel
theorem xe_time_15 : decode cL_time 15 = .ok (.iconst 1, 1) := by decide +kernel
theorem xe_time_16 : decode cL_time 16 = .ok (.ireturn, 1) := by decide +kernel
set_option maxHeartbeats 1000000 in
theorem xB_time {l : Launch} {ad cy : Nat → Nat} {D : va_G} {base L : Nat} {xs : Nat → Int32} {x y : Int32} {σ : iv_H} {fs : List Value} (hl : l.stackTraces = false) (hg0 : iv_get σ 0 = some (.inr (11, fs))) (hpt : ∃ F n, iv_part L xs 20 F n 20 140 0 (lv_args 0 [.ref 0, .int x, .int y]) [] σ = some (lv_args 0 [.ref 0, .int x, .int y], [], σ)) : Met l yL_time (Cond.codeWith yL_time cL_time 5 (some .int) [(0, 10, 13, 13)] :: iv_G) (iv_rm 22 1 6) (xA_P ad cy D base L xs [.ref 0, .int x, .int y, .ref 592] σ) (iv_Qc ad cy D base (some (.int 1)) σ) 1 6 (iv_A base) := by
  have hM : 140 < iv_n := by decide
  obtain ⟨b1, b2, b3, b4, b5, b6, b7⟩ := iv_mfacts hM
  refine va_MetW (cc := cL_time) (maxL := 5) (ret := some .int) (hh := [(0, 10, 13, 13)]) (by decide) rfl ?_
  intro p e s m args below meth c s₁ B hml hv
  obtain ⟨⟨rfl, hK, hP⟩, hw⟩ := hv
  have hx := B.exec
  have hb := B.bytes
  have hr := B.returns
  have hts0 := atoms_spec (ws := Cond.codeWith yL_time cL_time 5 (some .int) [(0, 10, 13, 13)] :: iv_G) B.pre
  have hts : ∀ w ∈ iv_G, w.before (iv_sm ad [.ref 0, .int x, .int y, .ref 592]).toArray s = true := fun w hw => hts0 w (List.mem_cons_of_mem _ hw)
  have hown : s.vm.findClass RL = some m.cls := findClass_of_methodNamed B.named
  have htab := vx_table (x := yL_time) B (hts0 _ List.mem_cons_self)
  have hlv := lv_entry (iv_sm ad [.ref 0, .int x, .int y, .ref 592]) (n := 5) (by rw [iv_lgl]; exact (show (4 : Nat) ≤ 5 by decide))
  rw [lg_entry_eq]
  rw [iv_largs] at hlv
  generalize (lg_sl (iv_sm ad [.ref 0, .int x, .int y, .ref 592]) ++ List.replicate (5 - (lg_sl (iv_sm ad [.ref 0, .int x, .int y, .ref 592])).length) Slot.unset).toArray = ls at hlv ⊢
  have g0 : ls[0]? = some (.val (.ref (ad 0))) := hlv.2.2 (0, .ref (ad 0)) (by simp [lv_args, iv_v, Value.category])
  have g1 : ls[1]? = some (.val (.int x)) := hlv.2.2 (1, .int x) (by simp [lv_args, iv_v, Value.category])
  have g2 : ls[2]? = some (.val (.int y)) := hlv.2.2 (2, .int y) (by simp [lv_args, iv_v, Value.category])
  have g3 : ls[3]? = some (.val (.ref (ad 592))) := hlv.2.2 (3, .ref (ad 592)) (by simp [lv_args, iv_v, Value.category])
  refine lv_aload_n hx hb xe_time_0 rfl g3 ?_
  refine lv_iconst hx hb xe_time_1 rfl ?_
  refine lv_aload_n hx hb xe_time_2 rfl g0 ?_
  refine lv_iload_n hx hb xe_time_3 rfl g1 ?_
  refine lv_iload_n hx hb xe_time_4 rfl g2 ?_
  obtain ⟨k0, ek0, hk0, he⟩ := iv_get_ok hg0
  have hat := iv_W_at (ad := ad) (cy := cy) hk0
  rw [he, ← ek0] at hat
  have hrec := va_recv hK.1.1 hP (iv_cl_at 11 (by decide)) hat
  have hPre : ∀ U : State, U.heap = s.heap → s.WarmedH U.vm → xA_P ad cy D base L xs [.ref 0, .int x, .int y] σ (iv_sm ad [.ref 0, .int x, .int y]).toArray U := fun U hU hW => ⟨⟨rfl, iv_K_to hK hW (by rw [hU]; exact Nat.le_refl _) (fun q h1 h2 => by rw [hU]), by rw [hU]; exact hP⟩, xw_to hw hW (fun q h1 h2 => by rw [hU])⟩
  have hrun := vx_runV (R := iv_rm 22 1 6) (rest := [.int 0, .ref (ad 592)]) (As := [.int x, .int y]) (b := ad 0) (C := RX12) (g := F0 m 5 ls [.int y, .int x, .ref (ad 0), .int 0, .ref (ad 592)]) (cells := 0) (slots := 0) (locs := []) (H := s.heap) (e := e) (below := below) (meth := meth) ⟨hx, hb, hml, hown, hts⟩ (xA_met140 (ad := ad) (cy := cy) (D := D) (base := base) (L := L) (xs := xs) (x := x) (y := y) hl hpt) ⟨callB_of 2 hts (iv_ws_good hM) rfl rfl rfl (hts _ b1) (hts _ xB_l.2.2.1) ⟨b3.1, b3.2.1, rfl⟩ ⟨by decide, by decide⟩, hts _ xB_i.2, hts _ xB_l.2.2.2.2⟩ ⟨xA_blind, hrec, hPre⟩ rfl rfl hlv.1 rfl (lv_room (show (2 : Nat) ≤ 8 by decide)) xe_time_5 ⟨by decide, by decide⟩
  intro T hT X
  rcases hrun T hT X with ⟨v, st₀, t, T', L9, h0, X', hL, e1, e2, hF, st⟩ | ⟨q, st₀, t, T', L9, E, ce, h0, X', hL, e1, e2, ⟨rfl, hP1, hF⟩, hce, hcv, hcl, st⟩
  · exact hF.elim
  · obtain ⟨k1, k2, k3⟩ := vx_keep (A0 := iv_A base) (A1 := iv_A base) (H0 := s.heap) h0 e1 va_S.rf (fun _ _ z => z) (fun _ z => z) hL hF
    have hcast : (Cond.castable xc_N xc_N).before (iv_sm ad [.ref 0, .int x, .int y, .ref 592]).toArray s = true := va_any rfl (hw.2.2 _ (by simp [xw_bad]))
    have K := xc_catch (p := p) (l := l) (e := e) (R := iv_rm 22 1 6) (below := below) (meth := meth) (H := T'.heap) (locs := [] ++ L9) (cells := 0 + 1) (slots := 0 + 6) (ls := ls) (pc := 5) (rest := [.int 0, .ref (ad 592)]) (Q := MQ below (iv_Qc ad cy D base (some (.int 1)) σ) (iv_sm ad [.ref 0, .int x, .int y, .ref 592]).toArray s 1 6 (iv_A base)) hown _ htab (by decide) (by decide) (hts _ xB_l.1) hcast (by rw [e1]; exact hce) hcv hcl ?_
    · obtain ⟨t2, a1, b1'⟩ := K T' rfl X'
      exact ⟨t2, st.trans a1, b1'⟩
    · refine lv_astore hx hb xe_time_13 hlv (by decide) rfl (fun ls2 hlv2 => ?_)
      refine lv_iconst hx hb xe_time_15 rfl ?_
      exact W.iret hx hb hr (fun t9 ht9 _ => ⟨rfl, by rw [ht9, e1]; exact hP1, k3.F ht9⟩) k3.2.2 xe_time_16
end XB
