/-! ===== the JDK's own methods of Strings, as the machine takes them (places printed by wip/gen/gen_jdk.py) ===== -/
theorem iv_isS_of {a : Nat} (h : iv_isS a = true) : ∃ j, j < 32 ∧ a = 2 * j + 203 := by
  unfold iv_isS at h
  rw [Bool.and_eq_true, Bool.and_eq_true] at h
  have h1 := Nat.eq_of_beq_eq_true h.1
  have h2 := Nat.le_of_ble_eq_true h.2.1
  have h3 := Nat.le_of_ble_eq_true h.2.2
  exact ⟨(a - 203) / 2, by omega, by omega⟩
abbrev kN : Nat → Prop := fun _ => False
abbrev kP (ad cy : Nat → Nat) (D : va_G) (base L : Nat) (xs : Nat → Int32) (as : List Value) : Array Value → State → Prop := va_Pc as (fun U => iv_K ad cy D base L xs U)
abbrev kQ (v : Int32) : Array Value → State → Outcome → State → Prop := va_Qi (S := Unit) (fun r _ => r = v) (fun _ _ => True) kN
abbrev kV : Array Value → State → Outcome → State → Prop := va_Qv (S := Unit) (fun _ => True) (fun _ _ => True) kN
abbrev kR (fr lo : Nat) : Room := { frames := fr, cells := 0, slots := 0, locals := lo }
theorem kS_w {base : Nat} {H0 H : Heap} {locs : List Loc} (h : va_S kN H0 H locs) : va_S (iv_A base) H0 H locs := ⟨h.1, fun q h1 _ => h.2.1 q h1 (fun z => z), fun q hq => (h.2.2 q hq).elim⟩
theorem kB {ad cy : Nat → Nat} {D : va_G} {base L : Nat} {xs : Nat → Int32} {as : List Value} : FrameBlind (kP ad cy D base L xs as) := fun a U g mk q => ⟨q.1, iv_K_to q.2 (State.WarmedH.refl U) (Nat.le_refl _) (fun _ _ _ => rfl)⟩
/-- with a text's bytes -/
abbrev kT (ad cy : Nat → Nat) (D : va_G) (base L : Nat) (xs : Nat → Int32) (i v : Nat) (as : List Value) : Array Value → State → Prop := va_Pc as (fun U => iv_K ad cy D base L xs U ∧ va_T .byte v (iv_sx (2 * i + 203)).length (fun j => .int ((iv_sx (2 * i + 203)).getD j 0)) (iv_A base) U U.heap)
theorem kBT {ad cy : Nat → Nat} {D : va_G} {base L : Nat} {xs : Nat → Int32} {i v : Nat} {as : List Value} : FrameBlind (kT ad cy D base L xs i v as) := fun a U g mk q => ⟨q.1, iv_K_to q.2.1 (State.WarmedH.refl U) (Nat.le_refl _) (fun _ _ _ => rfl), (q.2.2.moved (State.WarmedH.refl U).alike).kept (fun _ _ _ => rfl)⟩
theorem kGood {c : Cond} (h : c ∈ iv_G) : GoodIn iv_G (c :: iv_G) := iv_goodIn fun w hw => by
  rcases List.mem_cons.mp hw with rfl | hw
  · exact h
  · exact hw
section JD
variable {p : Program} {l : Launch} {e : Env} {R : Room} {s : State} {m : MethodId} {args : Array Value} {below : List Frame} {meth : Method} {c : Code} {Q : State → Prop} {ad cy : Nat → Nat} {D : va_G} {base L : Nat} {xs : Nat → Int32}
variable {cc bytes : ByteArray} {pc kx nL maxL fr lo cells slots : Nat} {own : String} {y : MethodName} {ret : Option FieldType} {H : Heap} {locs : List Loc} {ls : Array Slot} {rest As st0 : List Value} {v : Int32} {b : Nat}
theorem jd_pre (hK : iv_K ad cy D base L xs s) (hS : va_S kN s.heap H locs) {as : List Value} : ∀ U : State, U.heap = H → s.WarmedH U.vm → kP ad cy D base L xs as as.toArray U := fun U hU hW => ⟨rfl, iv_K_to hK hW (by rw [hU]; exact hS.1) (fun q h1 h2 => by rw [hU]; exact (kS_w hS).2.1 q h1 h2)⟩
theorem jd_preT (hK : iv_K ad cy D base L xs s) {i w : Nat} (hT : va_T .byte w (iv_sx (2 * i + 203)).length (fun j => .int ((iv_sx (2 * i + 203)).getD j 0)) (iv_A base) s s.heap) (hS : va_S kN s.heap H locs) {as : List Value} : ∀ U : State, U.heap = H → s.WarmedH U.vm → kT ad cy D base L xs i w as as.toArray U := fun U hU hW => ⟨rfl, iv_K_to hK hW (by rw [hU]; exact hS.1) (fun q h1 h2 => by rw [hU]; exact (kS_w hS).2.1 q h1 h2), (hT.moved hW.alike).kept (fun q h1 h2 => by rw [hU]; exact (kS_w (base := base) hS).2.1 q h1 h2)⟩
/-- a virtual call of a String's method -/
theorem jd_V (F : p.tables.exec = Jvm.exec ∧ c.code = cc ∧ c.maxLocals = nL ∧ s.vm.findClass own = some m.cls ∧ ∀ w ∈ iv_G, w.before args s = true) {Pc : Array Value → State → Prop} (hM : Met l y (Cond.code y bytes maxL ret :: iv_G) (kR fr lo) Pc (kQ v) 0 0 kN) (hp : FrameBlind Pc ∧ ∀ U : State, U.heap = H → s.WarmedH U.vm → Pc (Value.ref b :: As).toArray U) (w0 : Cond.code y bytes maxL ret ∈ iv_G) (w1 : Cond.methodLink own kx y ∈ iv_G) (w2 : Cond.instanceMethod y ∈ iv_G) (w3 : Cond.selects "java/lang/String" y y ∈ iv_G) (w4 : Cond.initialized y.cls ∈ iv_G) (hy : y.cls ≠ "java/lang/invoke/MethodHandle" ∧ y.cls ≠ "java/lang/invoke/VarHandle" ∧ (parseMethodDescriptor y.desc).map (fun d => d.parameters.length) = some As.length) (hR : fr + 1 ≤ R.frames ∧ 8 + (maxL + 11) + lo ≤ R.locals) (hc : cells ≤ R.cells ∧ slots ≤ R.slots)
    (ho : va_O "java/lang/String" b (iv_A base) s s.heap) (hS : va_S kN s.heap H locs) (hls : ls.size = nL) (hst : st0 = As.reverse ++ .ref b :: rest) (hr : (rest.map fun v => v.category).sum ≤ 8) (hd : decode cc pc = .ok (.invokevirtual kx, 3))
    (k : ∀ (H1 : Heap) (locs1 : List Loc), va_S kN s.heap H1 locs1 → W p l e R s m args below meth c H1 locs1 cells slots Q (F0 m (pc + 3) ls (.int v :: rest))) : W p l e R s m args below meth c H locs cells slots Q (F0 m pc ls st0) := by
  obtain ⟨hx, hb, hml, hown, hts⟩ := F
  obtain ⟨cell, g1, g2, g3, _⟩ := ho.kept (kS_w (base := base) hS).2.1
  refine va_calli (A0 := kN) (H0 := s.heap) (va_runV (As := As) (rest := rest) (b := b) (C := "java/lang/String") ⟨hx, hb, hml, hown, hts⟩ hM ⟨callB_of As.length hts (kGood w0) rfl rfl rfl (hts _ w4) (hts _ w1) hy hR, hts _ w2, hts _ w3⟩ ⟨hp.1, ⟨cell, g1, g2, g3⟩, hp.2⟩ rfl rfl hls hst (lv_room hr) hd ⟨hc.1, hc.2⟩) hS (fun q _ h9 => h9.elim) (fun q h9 => h9.elim) (fun r9 u t H1 locs1 ht hvm hw hB hz1 hk1 hS1 => ?_)
  rw [hw]
  exact k H1 locs1 hS1
/-- a static call -/
theorem jd_S (F : p.tables.exec = Jvm.exec ∧ c.code = cc ∧ c.maxLocals = nL ∧ s.vm.findClass own = some m.cls ∧ ∀ w ∈ iv_G, w.before args s = true) {Pc : Array Value → State → Prop} (hM : Met l y (Cond.code y bytes maxL ret :: iv_G) (kR fr lo) Pc (kQ v) 0 0 kN) (hp : FrameBlind Pc ∧ ∀ U : State, U.heap = H → s.WarmedH U.vm → Pc As.toArray U) (w0 : Cond.code y bytes maxL ret ∈ iv_G) (w1 : Cond.methodLink own kx y ∈ iv_G) (w2 : Cond.static y ∈ iv_G) (w4 : Cond.initialized y.cls ∈ iv_G) (hy : y.cls ≠ "java/lang/invoke/MethodHandle" ∧ y.cls ≠ "java/lang/invoke/VarHandle" ∧ (parseMethodDescriptor y.desc).map (fun d => d.parameters.length) = some As.length) (hR : fr + 1 ≤ R.frames ∧ 8 + (maxL + 11) + lo ≤ R.locals) (hc : cells ≤ R.cells ∧ slots ≤ R.slots)
    (hS : va_S kN s.heap H locs) (hls : ls.size = nL) (hst : st0 = As.reverse ++ rest) (hr : (rest.map fun v => v.category).sum ≤ 8) (hd : decode cc pc = .ok (.invokestatic kx, 3))
    (k : ∀ (H1 : Heap) (locs1 : List Loc), va_S kN s.heap H1 locs1 → W p l e R s m args below meth c H1 locs1 cells slots Q (F0 m (pc + 3) ls (.int v :: rest))) : W p l e R s m args below meth c H locs cells slots Q (F0 m pc ls st0) := by
  obtain ⟨hx, hb, hml, hown, hts⟩ := F
  refine va_calli (A0 := kN) (H0 := s.heap) (va_runS (As := As) (rest := rest) ⟨hx, hb, hml, hown, hts⟩ hM ⟨callB_of As.length hts (kGood w0) rfl rfl rfl (hts _ w4) (hts _ w1) hy hR, hts _ w2⟩ ⟨hp.1, hp.2⟩ rfl rfl hls hst (lv_room hr) hd ⟨hc.1, hc.2⟩) hS (fun q _ h9 => h9.elim) (fun q h9 => h9.elim) (fun r9 u t H1 locs1 ht hvm hw hB hz1 hk1 hS1 => ?_)
  rw [hw]
  exact k H1 locs1 hS1
theorem jd_Sv (F : p.tables.exec = Jvm.exec ∧ c.code = cc ∧ c.maxLocals = nL ∧ s.vm.findClass own = some m.cls ∧ ∀ w ∈ iv_G, w.before args s = true) {Pc : Array Value → State → Prop} (hM : Met l y (Cond.code y bytes maxL ret :: iv_G) (kR fr lo) Pc kV 0 0 kN) (hp : FrameBlind Pc ∧ ∀ U : State, U.heap = H → s.WarmedH U.vm → Pc As.toArray U) (w0 : Cond.code y bytes maxL ret ∈ iv_G) (w1 : Cond.methodLink own kx y ∈ iv_G) (w2 : Cond.static y ∈ iv_G) (w4 : Cond.initialized y.cls ∈ iv_G) (hy : y.cls ≠ "java/lang/invoke/MethodHandle" ∧ y.cls ≠ "java/lang/invoke/VarHandle" ∧ (parseMethodDescriptor y.desc).map (fun d => d.parameters.length) = some As.length) (hR : fr + 1 ≤ R.frames ∧ 8 + (maxL + 11) + lo ≤ R.locals) (hc : cells ≤ R.cells ∧ slots ≤ R.slots)
    (hS : va_S kN s.heap H locs) (hls : ls.size = nL) (hst : st0 = As.reverse ++ rest) (hr : (rest.map fun v => v.category).sum ≤ 8) (hd : decode cc pc = .ok (.invokestatic kx, 3))
    (k : ∀ (H1 : Heap) (locs1 : List Loc), va_S kN s.heap H1 locs1 → W p l e R s m args below meth c H1 locs1 cells slots Q (F0 m (pc + 3) ls rest)) : W p l e R s m args below meth c H locs cells slots Q (F0 m pc ls st0) := by
  obtain ⟨hx, hb, hml, hown, hts⟩ := F
  refine va_callv (A0 := kN) (H0 := s.heap) (va_runS (As := As) (rest := rest) ⟨hx, hb, hml, hown, hts⟩ hM ⟨callB_of As.length hts (kGood w0) rfl rfl rfl (hts _ w4) (hts _ w1) hy hR, hts _ w2⟩ ⟨hp.1, hp.2⟩ rfl rfl hls hst (lv_room hr) hd ⟨hc.1, hc.2⟩) hS (fun q _ h9 => h9.elim) (fun q h9 => h9.elim) (fun u t H1 locs1 ht hvm hw hB hz1 hk1 hS1 => ?_)
  exact k H1 locs1 hS1
end JD
theorem jc_0 : decode prog_25_method_152_code 0 = .ok (.getstatic 38, 3) := by decide +kernel
theorem jc_3 : decode prog_25_method_152_code 3 = .ok (.ifCond .eq (10), 3) := by decide +kernel
theorem jc_6 : decode prog_25_method_152_code 6 = .ok (.aload_n 0, 1) := by decide +kernel
theorem jc_7 : decode prog_25_method_152_code 7 = .ok (.getfield 15, 3) := by decide +kernel
theorem jc_10 : decode prog_25_method_152_code 10 = .ok (.goto (4), 3) := by decide +kernel
theorem jc_13 : decode prog_25_method_152_code 13 = .ok (.iconst 1, 1) := by decide +kernel
theorem jc_14 : decode prog_25_method_152_code 14 = .ok (.ireturn, 1) := by decide +kernel
theorem jd_coder (l : Launch) (ad cy : Nat → Nat) (D : va_G) (base L : Nat) (xs : Nat → Int32) (i : Nat) (hi : i < 32) : Met l (⟨"java/lang/String", "coder", "()B"⟩ : MethodName) (Cond.code (⟨"java/lang/String", "coder", "()B"⟩ : MethodName) prog_25_method_152_code 1 (some .byte) :: iv_G) (kR 0 0) (kP ad cy D base L xs [.ref (ad (2 * i + 203))]) (kQ 0) 0 0 kN := by
  refine Met.ofW (cc := prog_25_method_152_code) (maxL := 1) (ret := (some .byte)) (by decide +kernel) rfl ?_
  intro p e s m args below meth c s₁ B hml hv
  obtain ⟨rfl, hK⟩ := hv
  have hx := B.exec
  have hb := B.bytes
  have hr := B.returns
  have hts0 := atoms_spec (ws := Cond.code (⟨"java/lang/String", "coder", "()B"⟩ : MethodName) prog_25_method_152_code 1 (some .byte) :: iv_G) B.pre
  have hts : ∀ w ∈ iv_G, w.before ([.ref (ad (2 * i + 203))] : List Value).toArray s = true := fun w hw => hts0 w (List.mem_cons_of_mem _ hw)
  have hown : s.vm.findClass "java/lang/String" = some m.cls := findClass_of_methodNamed B.named
  have hlocks := B.notSynchronized
  have hl := lv_entry ([.ref (ad (2 * i + 203))] : List Value) (n := 1) (Nat.le_of_ble_eq_true rfl)
  rw [lg_entry_eq]
  generalize (lg_sl ([.ref (ad (2 * i + 203))] : List Value) ++ List.replicate (1 - (lg_sl ([.ref (ad (2 * i + 203))] : List Value)).length) Slot.unset).toArray = ls at hl ⊢
  have hl : lv_has ls 1 [(0, .ref (ad (2 * i + 203)))] := hl
  have hS : va_S kN s.heap s.heap [] := va_S.rf
  have F : p.tables.exec = Jvm.exec ∧ c.code = prog_25_method_152_code ∧ c.maxLocals = 1 ∧ s.vm.findClass "java/lang/String" = some m.cls ∧ ∀ w ∈ iv_G, w.before ([.ref (ad (2 * i + 203))] : List Value).toArray s = true := ⟨hx, hb, hml, hown, hts⟩
  obtain ⟨a1, a2, vv, a3, a4⟩ := (iv_K_S hK).1 i hi
  refine va_gets hx hb (iv_K_S hK).2.2.2.1.1 (kS_w hS) hown (hts _ (iv_gS 11 rfl)) (fun _ h9 => h9) jc_0 ?_
  refine lv_if_eq hx hb jc_3 (tgt := 13) rfl (fun q => absurd q (by decide)) (fun _ => ?_)
  refine lv_aload_n hx hb jc_6 rfl (lv_at hl 0 rfl) ?_
  refine vk_getf hx hb a2 (kS_w hS) hown (hts _ (iv_gS 12 rfl)) (fun _ h9 => h9) jc_7 ?_
  refine lv_goto hx hb jc_10 (tgt := 14) rfl ?_
  exact W.zret (v := 0) hx hb hr (by decide) (fun t ht hW => ⟨⟨0, (), rfl, rfl, trivial⟩, hS.F ht⟩) hS.2.2 jc_14
theorem ji_0 : decode prog_25_method_154_code 0 = .ok (.getstatic 38, 3) := by decide +kernel
theorem ji_3 : decode prog_25_method_154_code 3 = .ok (.ifCond .eq (14), 3) := by decide +kernel
theorem ji_6 : decode prog_25_method_154_code 6 = .ok (.aload_n 0, 1) := by decide +kernel
theorem ji_7 : decode prog_25_method_154_code 7 = .ok (.getfield 15, 3) := by decide +kernel
theorem ji_10 : decode prog_25_method_154_code 10 = .ok (.ifCond .ne (7), 3) := by decide +kernel
theorem ji_13 : decode prog_25_method_154_code 13 = .ok (.iconst 1, 1) := by decide +kernel
theorem ji_14 : decode prog_25_method_154_code 14 = .ok (.goto (4), 3) := by decide +kernel
theorem ji_17 : decode prog_25_method_154_code 17 = .ok (.iconst 0, 1) := by decide +kernel
theorem ji_18 : decode prog_25_method_154_code 18 = .ok (.ireturn, 1) := by decide +kernel
theorem jd_isL (l : Launch) (ad cy : Nat → Nat) (D : va_G) (base L : Nat) (xs : Nat → Int32) (i : Nat) (hi : i < 32) : Met l (⟨"java/lang/String", "isLatin1", "()Z"⟩ : MethodName) (Cond.code (⟨"java/lang/String", "isLatin1", "()Z"⟩ : MethodName) prog_25_method_154_code 1 (some .boolean) :: iv_G) (kR 0 0) (kP ad cy D base L xs [.ref (ad (2 * i + 203))]) (kQ 1) 0 0 kN := by
  refine Met.ofW (cc := prog_25_method_154_code) (maxL := 1) (ret := (some .boolean)) (by decide +kernel) rfl ?_
  intro p e s m args below meth c s₁ B hml hv
  obtain ⟨rfl, hK⟩ := hv
  have hx := B.exec
  have hb := B.bytes
  have hr := B.returns
  have hts0 := atoms_spec (ws := Cond.code (⟨"java/lang/String", "isLatin1", "()Z"⟩ : MethodName) prog_25_method_154_code 1 (some .boolean) :: iv_G) B.pre
  have hts : ∀ w ∈ iv_G, w.before ([.ref (ad (2 * i + 203))] : List Value).toArray s = true := fun w hw => hts0 w (List.mem_cons_of_mem _ hw)
  have hown : s.vm.findClass "java/lang/String" = some m.cls := findClass_of_methodNamed B.named
  have hlocks := B.notSynchronized
  have hl := lv_entry ([.ref (ad (2 * i + 203))] : List Value) (n := 1) (Nat.le_of_ble_eq_true rfl)
  rw [lg_entry_eq]
  generalize (lg_sl ([.ref (ad (2 * i + 203))] : List Value) ++ List.replicate (1 - (lg_sl ([.ref (ad (2 * i + 203))] : List Value)).length) Slot.unset).toArray = ls at hl ⊢
  have hl : lv_has ls 1 [(0, .ref (ad (2 * i + 203)))] := hl
  have hS : va_S kN s.heap s.heap [] := va_S.rf
  have F : p.tables.exec = Jvm.exec ∧ c.code = prog_25_method_154_code ∧ c.maxLocals = 1 ∧ s.vm.findClass "java/lang/String" = some m.cls ∧ ∀ w ∈ iv_G, w.before ([.ref (ad (2 * i + 203))] : List Value).toArray s = true := ⟨hx, hb, hml, hown, hts⟩
  obtain ⟨a1, a2, vv, a3, a4⟩ := (iv_K_S hK).1 i hi
  refine va_gets hx hb (iv_K_S hK).2.2.2.1.1 (kS_w hS) hown (hts _ (iv_gS 11 rfl)) (fun _ h9 => h9) ji_0 ?_
  refine lv_if_eq hx hb ji_3 (tgt := 17) rfl (fun q => absurd q (by decide)) (fun _ => ?_)
  refine lv_aload_n hx hb ji_6 rfl (lv_at hl 0 rfl) ?_
  refine vk_getf hx hb a2 (kS_w hS) hown (hts _ (iv_gS 12 rfl)) (fun _ h9 => h9) ji_7 ?_
  refine lv_if_ne hx hb ji_10 (tgt := 17) rfl (fun q => absurd rfl q) (fun _ => ?_)
  refine lv_iconst hx hb ji_13 rfl ?_
  refine lv_goto hx hb ji_14 (tgt := 18) rfl ?_
  exact W.zret (v := 1) hx hb hr (by decide) (fun t ht hW => ⟨⟨1, (), rfl, rfl, trivial⟩, hS.F ht⟩) hS.2.2 ji_18
theorem jd_sh : ∀ n ∈ List.range 8, Int32.ofNat n >>> ((0 : Int32) &&& 31) = Int32.ofNat n := by decide +kernel
theorem jl_0 : decode prog_25_method_54_code 0 = .ok (.aload_n 0, 1) := by decide +kernel
theorem jl_1 : decode prog_25_method_54_code 1 = .ok (.getfield 9, 3) := by decide +kernel
theorem jl_4 : decode prog_25_method_54_code 4 = .ok (.arraylength, 1) := by decide +kernel
theorem jl_5 : decode prog_25_method_54_code 5 = .ok (.aload_n 0, 1) := by decide +kernel
theorem jl_6 : decode prog_25_method_54_code 6 = .ok (.invokevirtual 335, 3) := by decide +kernel
theorem jl_9 : decode prog_25_method_54_code 9 = .ok (.ishr, 1) := by decide +kernel
theorem jl_10 : decode prog_25_method_54_code 10 = .ok (.ireturn, 1) := by decide +kernel
theorem jd_len (l : Launch) (ad cy : Nat → Nat) (D : va_G) (base L : Nat) (xs : Nat → Int32) (i : Nat) (hi : i < 32) : Met l (⟨"java/lang/String", "length", "()I"⟩ : MethodName) (Cond.code (⟨"java/lang/String", "length", "()I"⟩ : MethodName) prog_25_method_54_code 1 (some .int) :: iv_G) (kR 1 20) (kP ad cy D base L xs [.ref (ad (2 * i + 203))]) (kQ (Int32.ofNat (iv_sx (2 * i + 203)).length)) 0 0 kN := by
  refine Met.ofW (cc := prog_25_method_54_code) (maxL := 1) (ret := (some .int)) (by decide +kernel) rfl ?_
  intro p e s m args below meth c s₁ B hml hv
  obtain ⟨rfl, hK⟩ := hv
  have hx := B.exec
  have hb := B.bytes
  have hr := B.returns
  have hts0 := atoms_spec (ws := Cond.code (⟨"java/lang/String", "length", "()I"⟩ : MethodName) prog_25_method_54_code 1 (some .int) :: iv_G) B.pre
  have hts : ∀ w ∈ iv_G, w.before ([.ref (ad (2 * i + 203))] : List Value).toArray s = true := fun w hw => hts0 w (List.mem_cons_of_mem _ hw)
  have hown : s.vm.findClass "java/lang/String" = some m.cls := findClass_of_methodNamed B.named
  have hlocks := B.notSynchronized
  have hl := lv_entry ([.ref (ad (2 * i + 203))] : List Value) (n := 1) (Nat.le_of_ble_eq_true rfl)
  rw [lg_entry_eq]
  generalize (lg_sl ([.ref (ad (2 * i + 203))] : List Value) ++ List.replicate (1 - (lg_sl ([.ref (ad (2 * i + 203))] : List Value)).length) Slot.unset).toArray = ls at hl ⊢
  have hl : lv_has ls 1 [(0, .ref (ad (2 * i + 203)))] := hl
  have hS : va_S kN s.heap s.heap [] := va_S.rf
  have F : p.tables.exec = Jvm.exec ∧ c.code = prog_25_method_54_code ∧ c.maxLocals = 1 ∧ s.vm.findClass "java/lang/String" = some m.cls ∧ ∀ w ∈ iv_G, w.before ([.ref (ad (2 * i + 203))] : List Value).toArray s = true := ⟨hx, hb, hml, hown, hts⟩
  obtain ⟨a1, a2, vv, a3, a4⟩ := (iv_K_S hK).1 i hi
  have h7 := (s_sx (2 * i + 203)).1
  refine lv_aload_n hx hb jl_0 rfl (lv_at hl 0 rfl) ?_
  refine vk_getf hx hb a3 (kS_w hS) hown (hts _ (iv_gS 13 rfl)) (fun _ h9 => h9) jl_1 ?_
  refine va_tlen hx hb a4 (kS_w hS) rfl jl_4 ?_
  refine lv_aload_n hx hb jl_5 rfl (lv_at hl 0 rfl) ?_
  refine jd_V (b := ad (2 * i + 203)) (As := []) (rest := [.int (Int32.ofNat (iv_sx (2 * i + 203)).length)]) F (jd_coder l ad cy D base L xs i hi) ⟨kB, jd_pre hK hS⟩ (iv_gS 10 rfl) (iv_gS 7 rfl) (iv_gS 8 rfl) (iv_gS 9 rfl) (iv_gS 0 rfl) ⟨by decide +kernel, by decide +kernel, by decide +kernel⟩ ⟨by decide, by decide⟩ ⟨Nat.zero_le _, Nat.zero_le _⟩ a1 hS hl.1 rfl (Nat.le_of_ble_eq_true rfl) jl_6 (fun H1 locs1 hS1 => ?_)
  refine lv_ishr hx hb jl_9 ?_
  rw [jd_sh _ (List.mem_range.mpr (by omega))]
  exact W.iret (v := (Int32.ofNat (iv_sx (2 * i + 203)).length)) hx hb hr (fun t ht hW => ⟨⟨(Int32.ofNat (iv_sx (2 * i + 203)).length), (), rfl, rfl, trivial⟩, hS1.F ht⟩) hS1.2.2 jl_10
theorem jp_0 : decode prog_34_method_11_code 0 = .ok (.iload_n 0, 1) := by decide +kernel
theorem jp_1 : decode prog_34_method_11_code 1 = .ok (.ifCond .lt (8), 3) := by decide +kernel
theorem jp_4 : decode prog_34_method_11_code 4 = .ok (.iload_n 0, 1) := by decide +kernel
theorem jp_5 : decode prog_34_method_11_code 5 = .ok (.iload_n 1, 1) := by decide +kernel
theorem jp_6 : decode prog_34_method_11_code 6 = .ok (.if_icmp .lt (10), 3) := by decide +kernel
theorem jp_9 : decode prog_34_method_11_code 9 = .ok (.aload_n 2, 1) := by decide +kernel
theorem jp_10 : decode prog_34_method_11_code 10 = .ok (.iload_n 0, 1) := by decide +kernel
theorem jp_11 : decode prog_34_method_11_code 11 = .ok (.iload_n 1, 1) := by decide +kernel
theorem jp_12 : decode prog_34_method_11_code 12 = .ok (.invokestatic 95, 3) := by decide +kernel
theorem jp_15 : decode prog_34_method_11_code 15 = .ok (.athrow, 1) := by decide +kernel
theorem jp_16 : decode prog_34_method_11_code 16 = .ok (.iload_n 0, 1) := by decide +kernel
theorem jp_17 : decode prog_34_method_11_code 17 = .ok (.ireturn, 1) := by decide +kernel
theorem jd_pck0 (l : Launch) (ad cy : Nat → Nat) (D : va_G) (base L : Nat) (xs : Nat → Int32) (x n : Int32) (h0 : ¬ x < 0) (hn : x < n) : Met l (⟨"jdk/internal/util/Preconditions", "checkIndex", "(IILjava/util/function/BiFunction;)I"⟩ : MethodName) (Cond.code (⟨"jdk/internal/util/Preconditions", "checkIndex", "(IILjava/util/function/BiFunction;)I"⟩ : MethodName) prog_34_method_11_code 3 (some .int) :: iv_G) (kR 0 0) (kP ad cy D base L xs [.int x, .int n, .null]) (kQ x) 0 0 kN := by
  refine Met.ofW (cc := prog_34_method_11_code) (maxL := 3) (ret := (some .int)) (by decide +kernel) rfl ?_
  intro p e s m args below meth c s₁ B hml hv
  obtain ⟨rfl, hK⟩ := hv
  have hx := B.exec
  have hb := B.bytes
  have hr := B.returns
  have hts0 := atoms_spec (ws := Cond.code (⟨"jdk/internal/util/Preconditions", "checkIndex", "(IILjava/util/function/BiFunction;)I"⟩ : MethodName) prog_34_method_11_code 3 (some .int) :: iv_G) B.pre
  have hts : ∀ w ∈ iv_G, w.before ([.int x, .int n, .null] : List Value).toArray s = true := fun w hw => hts0 w (List.mem_cons_of_mem _ hw)
  have hown : s.vm.findClass "jdk/internal/util/Preconditions" = some m.cls := findClass_of_methodNamed B.named
  have hlocks := B.notSynchronized
  have hl := lv_entry ([.int x, .int n, .null] : List Value) (n := 3) (Nat.le_of_ble_eq_true rfl)
  rw [lg_entry_eq]
  generalize (lg_sl ([.int x, .int n, .null] : List Value) ++ List.replicate (3 - (lg_sl ([.int x, .int n, .null] : List Value)).length) Slot.unset).toArray = ls at hl ⊢
  have hl : lv_has ls 3 [(0, .int x), (1, .int n), (2, .null)] := hl
  have hS : va_S kN s.heap s.heap [] := va_S.rf
  have F : p.tables.exec = Jvm.exec ∧ c.code = prog_34_method_11_code ∧ c.maxLocals = 3 ∧ s.vm.findClass "jdk/internal/util/Preconditions" = some m.cls ∧ ∀ w ∈ iv_G, w.before ([.int x, .int n, .null] : List Value).toArray s = true := ⟨hx, hb, hml, hown, hts⟩
  refine lv_iload_n hx hb jp_0 rfl (lv_at hl 0 rfl) ?_
  refine lv_if_lt hx hb jp_1 (tgt := 9) rfl (fun q => absurd q h0) (fun _ => ?_)
  refine lv_iload_n hx hb jp_4 rfl (lv_at hl 0 rfl) ?_
  refine lv_iload_n hx hb jp_5 rfl (lv_at hl 1 rfl) ?_
  refine lv_icmp_lt hx hb jp_6 (tgt := 16) rfl (fun _ => ?_) (fun q => absurd hn q)
  refine lv_iload_n hx hb jp_16 rfl (lv_at hl 0 rfl) ?_
  exact W.iret (v := x) hx hb hr (fun t ht hW => ⟨⟨x, (), rfl, rfl, trivial⟩, hS.F ht⟩) hS.2.2 jp_17
theorem jd_pck1 (l : Launch) (ad cy : Nat → Nat) (D : va_G) (base L : Nat) (xs : Nat → Int32) (x n : Int32) (t0 : Nat) (h0 : ¬ x < 0) (hn : x < n) : Met l (⟨"jdk/internal/util/Preconditions", "checkIndex", "(IILjava/util/function/BiFunction;)I"⟩ : MethodName) (Cond.code (⟨"jdk/internal/util/Preconditions", "checkIndex", "(IILjava/util/function/BiFunction;)I"⟩ : MethodName) prog_34_method_11_code 3 (some .int) :: iv_G) (kR 0 0) (kP ad cy D base L xs [.int x, .int n, .ref t0]) (kQ x) 0 0 kN := by
  refine Met.ofW (cc := prog_34_method_11_code) (maxL := 3) (ret := (some .int)) (by decide +kernel) rfl ?_
  intro p e s m args below meth c s₁ B hml hv
  obtain ⟨rfl, hK⟩ := hv
  have hx := B.exec
  have hb := B.bytes
  have hr := B.returns
  have hts0 := atoms_spec (ws := Cond.code (⟨"jdk/internal/util/Preconditions", "checkIndex", "(IILjava/util/function/BiFunction;)I"⟩ : MethodName) prog_34_method_11_code 3 (some .int) :: iv_G) B.pre
  have hts : ∀ w ∈ iv_G, w.before ([.int x, .int n, .ref t0] : List Value).toArray s = true := fun w hw => hts0 w (List.mem_cons_of_mem _ hw)
  have hown : s.vm.findClass "jdk/internal/util/Preconditions" = some m.cls := findClass_of_methodNamed B.named
  have hlocks := B.notSynchronized
  have hl := lv_entry ([.int x, .int n, .ref t0] : List Value) (n := 3) (Nat.le_of_ble_eq_true rfl)
  rw [lg_entry_eq]
  generalize (lg_sl ([.int x, .int n, .ref t0] : List Value) ++ List.replicate (3 - (lg_sl ([.int x, .int n, .ref t0] : List Value)).length) Slot.unset).toArray = ls at hl ⊢
  have hl : lv_has ls 3 [(0, .int x), (1, .int n), (2, .ref t0)] := hl
  have hS : va_S kN s.heap s.heap [] := va_S.rf
  have F : p.tables.exec = Jvm.exec ∧ c.code = prog_34_method_11_code ∧ c.maxLocals = 3 ∧ s.vm.findClass "jdk/internal/util/Preconditions" = some m.cls ∧ ∀ w ∈ iv_G, w.before ([.int x, .int n, .ref t0] : List Value).toArray s = true := ⟨hx, hb, hml, hown, hts⟩
  refine lv_iload_n hx hb jp_0 rfl (lv_at hl 0 rfl) ?_
  refine lv_if_lt hx hb jp_1 (tgt := 9) rfl (fun q => absurd q h0) (fun _ => ?_)
  refine lv_iload_n hx hb jp_4 rfl (lv_at hl 0 rfl) ?_
  refine lv_iload_n hx hb jp_5 rfl (lv_at hl 1 rfl) ?_
  refine lv_icmp_lt hx hb jp_6 (tgt := 16) rfl (fun _ => ?_) (fun q => absurd hn q)
  refine lv_iload_n hx hb jp_16 rfl (lv_at hl 0 rfl) ?_
  exact W.iret (v := x) hx hb hr (fun t ht hW => ⟨⟨x, (), rfl, rfl, trivial⟩, hS.F ht⟩) hS.2.2 jp_17
theorem jk_0 : decode prog_25_method_155_code 0 = .ok (.iload_n 0, 1) := by decide +kernel
theorem jk_1 : decode prog_25_method_155_code 1 = .ok (.iload_n 1, 1) := by decide +kernel
theorem jk_2 : decode prog_25_method_155_code 2 = .ok (.getstatic 1053, 3) := by decide +kernel
theorem jk_5 : decode prog_25_method_155_code 5 = .ok (.invokestatic 1059, 3) := by decide +kernel
theorem jk_8 : decode prog_25_method_155_code 8 = .ok (.pop, 1) := by decide +kernel
theorem jk_9 : decode prog_25_method_155_code 9 = .ok (.return_, 1) := by decide +kernel
theorem jd_ck (l : Launch) (ad cy : Nat → Nat) (D : va_G) (base L : Nat) (xs : Nat → Int32) (x n : Int32) (h0 : ¬ x < 0) (hn : x < n) : Met l (⟨"java/lang/String", "checkIndex", "(II)V"⟩ : MethodName) (Cond.code (⟨"java/lang/String", "checkIndex", "(II)V"⟩ : MethodName) prog_25_method_155_code 2 none :: iv_G) (kR 1 22) (kP ad cy D base L xs [.int x, .int n]) kV 0 0 kN := by
  refine Met.ofW (cc := prog_25_method_155_code) (maxL := 2) (ret := none) (by decide +kernel) rfl ?_
  intro p e s m args below meth c s₁ B hml hv
  obtain ⟨rfl, hK⟩ := hv
  have hx := B.exec
  have hb := B.bytes
  have hr := B.returns
  have hts0 := atoms_spec (ws := Cond.code (⟨"java/lang/String", "checkIndex", "(II)V"⟩ : MethodName) prog_25_method_155_code 2 none :: iv_G) B.pre
  have hts : ∀ w ∈ iv_G, w.before ([.int x, .int n] : List Value).toArray s = true := fun w hw => hts0 w (List.mem_cons_of_mem _ hw)
  have hown : s.vm.findClass "java/lang/String" = some m.cls := findClass_of_methodNamed B.named
  have hlocks := B.notSynchronized
  have hl := lv_entry ([.int x, .int n] : List Value) (n := 2) (Nat.le_of_ble_eq_true rfl)
  rw [lg_entry_eq]
  generalize (lg_sl ([.int x, .int n] : List Value) ++ List.replicate (2 - (lg_sl ([.int x, .int n] : List Value)).length) Slot.unset).toArray = ls at hl ⊢
  have hl : lv_has ls 2 [(0, .int x), (1, .int n)] := hl
  have hS : va_S kN s.heap s.heap [] := va_S.rf
  have F : p.tables.exec = Jvm.exec ∧ c.code = prog_25_method_155_code ∧ c.maxLocals = 2 ∧ s.vm.findClass "java/lang/String" = some m.cls ∧ ∀ w ∈ iv_G, w.before ([.int x, .int n] : List Value).toArray s = true := ⟨hx, hb, hml, hown, hts⟩
  refine lv_iload_n hx hb jk_0 rfl (lv_at hl 0 rfl) ?_
  refine lv_iload_n hx hb jk_1 rfl (lv_at hl 1 rfl) ?_
  rcases (iv_K_S hK).2.2.2.1.2 with hz | ⟨t0, hz⟩
  · refine va_gets hx hb hz (kS_w hS) hown (hts _ (iv_gS 27 rfl)) (fun _ h9 => h9) jk_2 ?_
    refine jd_S (As := [.int x, .int n, .null]) (rest := []) F (jd_pck0 l ad cy D base L xs x n h0 hn) ⟨kB, jd_pre hK hS⟩ (iv_gS 30 rfl) (iv_gS 28 rfl) (iv_gS 29 rfl) (iv_gS 2 rfl) ⟨by decide +kernel, by decide +kernel, (show (parseMethodDescriptor "(IILjava/util/function/BiFunction;)I").map (fun d => d.parameters.length) = some 3 from by decide +kernel)⟩ ⟨by decide, by decide⟩ ⟨Nat.zero_le _, Nat.zero_le _⟩ hS hl.1 rfl (Nat.le_of_ble_eq_true rfl) jk_5 (fun H1 locs1 hS1 => ?_)
    refine lv_pop hx hb jk_8 rfl ?_
    exact W.vret hx hb hr (fun t ht hW => ⟨⟨(), rfl, trivial, trivial⟩, hS1.F ht⟩) hS1.2.2 jk_9
  · refine va_gets hx hb hz (kS_w hS) hown (hts _ (iv_gS 27 rfl)) (fun _ h9 => h9) jk_2 ?_
    refine jd_S (As := [.int x, .int n, .ref t0]) (rest := []) F (jd_pck1 l ad cy D base L xs x n t0 h0 hn) ⟨kB, jd_pre hK hS⟩ (iv_gS 30 rfl) (iv_gS 28 rfl) (iv_gS 29 rfl) (iv_gS 2 rfl) ⟨by decide +kernel, by decide +kernel, (show (parseMethodDescriptor "(IILjava/util/function/BiFunction;)I").map (fun d => d.parameters.length) = some 3 from by decide +kernel)⟩ ⟨by decide, by decide⟩ ⟨Nat.zero_le _, Nat.zero_le _⟩ hS hl.1 rfl (Nat.le_of_ble_eq_true rfl) jk_5 (fun H1 locs1 hS1 => ?_)
    refine lv_pop hx hb jk_8 rfl ?_
    exact W.vret hx hb hr (fun t ht hW => ⟨⟨(), rfl, trivial, trivial⟩, hS1.F ht⟩) hS1.2.2 jk_9
theorem jd_127 : iv_sxl.all (fun l => l.all (fun v => decide (0 ≤ v.toInt) && decide (v.toInt ≤ 127))) = true := by decide +kernel
theorem jd_b (a : Nat) : ∀ v ∈ iv_sx a, 0 ≤ v.toInt ∧ v.toInt ≤ 127 := by
  unfold iv_sx
  split
  · rename_i l hl
    have h := List.all_eq_true.mp jd_127 l (zn_in hl)
    intro v hv
    have h2 := List.all_eq_true.mp h v hv
    rw [Bool.and_eq_true] at h2
    exact ⟨of_decide_eq_true h2.1, of_decide_eq_true h2.2⟩
  · intro v hv
    cases hv
theorem jd_mem {l : List Int32} {k : Nat} (h : k < l.length) : l.getD k 0 ∈ l := by
  rw [List.getD_eq_getElem?_getD, List.getElem?_eq_getElem h]
  exact List.getElem_mem h
theorem jd_c0 : ∀ n ∈ List.range 128, ((Int32.ofNat n &&& 255).toUInt32 % 65536).toInt32 = Int32.ofNat n ∧ narrow .char (.int (Int32.ofNat n)) = .int (Int32.ofNat n) := by decide +kernel
theorem jd_c {x : Int32} (h0 : 0 ≤ x.toInt) (h1 : x.toInt ≤ 127) : ((x &&& 255).toUInt32 % 65536).toInt32 = x ∧ narrow .char (.int x) = .int x := by
  obtain ⟨n, rfl, e⟩ := i32_nat h0
  exact jd_c0 n (List.mem_range.mpr (by omega))
theorem jd_lt {a b : Nat} (h : a < b) (hb : b ≤ 1000000) : Int32.ofNat a < Int32.ofNat b := by
  rw [Int32.lt_iff_toInt_lt, i32_ev (by omega), i32_ev (by omega)]
  omega
theorem jd_nn {a : Nat} (h : a ≤ 1000000) : ¬ Int32.ofNat a < 0 := by
  intro q
  rw [Int32.lt_iff_toInt_lt, i32_ev h] at q
  have e : (0 : Int32).toInt = 0 := by decide
  omega
theorem jq_0 : decode prog_26_method_2_code 0 = .ok (.iload_n 1, 1) := by decide +kernel
theorem jq_1 : decode prog_26_method_2_code 1 = .ok (.aload_n 0, 1) := by decide +kernel
theorem jq_2 : decode prog_26_method_2_code 2 = .ok (.arraylength, 1) := by decide +kernel
theorem jq_3 : decode prog_26_method_2_code 3 = .ok (.invokestatic 9, 3) := by decide +kernel
theorem jq_6 : decode prog_26_method_2_code 6 = .ok (.aload_n 0, 1) := by decide +kernel
theorem jq_7 : decode prog_26_method_2_code 7 = .ok (.iload_n 1, 1) := by decide +kernel
theorem jq_8 : decode prog_26_method_2_code 8 = .ok (.baload, 1) := by decide +kernel
theorem jq_9 : decode prog_26_method_2_code 9 = .ok (.sipush 255, 3) := by decide +kernel
theorem jq_12 : decode prog_26_method_2_code 12 = .ok (.iand, 1) := by decide +kernel
theorem jq_13 : decode prog_26_method_2_code 13 = .ok (.i2c, 1) := by decide +kernel
theorem jq_14 : decode prog_26_method_2_code 14 = .ok (.ireturn, 1) := by decide +kernel
theorem jd_l1c (l : Launch) (ad cy : Nat → Nat) (D : va_G) (base L : Nat) (xs : Nat → Int32) (i vv k : Nat) (hk : k < (iv_sx (2 * i + 203)).length) : Met l (⟨"java/lang/StringLatin1", "charAt", "([BI)C"⟩ : MethodName) (Cond.code (⟨"java/lang/StringLatin1", "charAt", "([BI)C"⟩ : MethodName) prog_26_method_2_code 2 (some .char) :: iv_G) (kR 2 43) (kT ad cy D base L xs i vv [.ref vv, .int (Int32.ofNat k)]) (kQ ((iv_sx (2 * i + 203)).getD k 0)) 0 0 kN := by
  refine Met.ofW (cc := prog_26_method_2_code) (maxL := 2) (ret := (some .char)) (by decide +kernel) rfl ?_
  intro p e s m args below meth c s₁ B hml hv
  obtain ⟨rfl, hK, a4⟩ := hv
  have hx := B.exec
  have hb := B.bytes
  have hr := B.returns
  have hts0 := atoms_spec (ws := Cond.code (⟨"java/lang/StringLatin1", "charAt", "([BI)C"⟩ : MethodName) prog_26_method_2_code 2 (some .char) :: iv_G) B.pre
  have hts : ∀ w ∈ iv_G, w.before ([.ref vv, .int (Int32.ofNat k)] : List Value).toArray s = true := fun w hw => hts0 w (List.mem_cons_of_mem _ hw)
  have hown : s.vm.findClass "java/lang/StringLatin1" = some m.cls := findClass_of_methodNamed B.named
  have hlocks := B.notSynchronized
  have hl := lv_entry ([.ref vv, .int (Int32.ofNat k)] : List Value) (n := 2) (Nat.le_of_ble_eq_true rfl)
  rw [lg_entry_eq]
  generalize (lg_sl ([.ref vv, .int (Int32.ofNat k)] : List Value) ++ List.replicate (2 - (lg_sl ([.ref vv, .int (Int32.ofNat k)] : List Value)).length) Slot.unset).toArray = ls at hl ⊢
  have hl : lv_has ls 2 [(0, .ref vv), (1, .int (Int32.ofNat k))] := hl
  have hS : va_S kN s.heap s.heap [] := va_S.rf
  have F : p.tables.exec = Jvm.exec ∧ c.code = prog_26_method_2_code ∧ c.maxLocals = 2 ∧ s.vm.findClass "java/lang/StringLatin1" = some m.cls ∧ ∀ w ∈ iv_G, w.before ([.ref vv, .int (Int32.ofNat k)] : List Value).toArray s = true := ⟨hx, hb, hml, hown, hts⟩
  have h7 := (s_sx (2 * i + 203)).1
  obtain ⟨b0, b1⟩ := jd_b _ _ (jd_mem hk)
  obtain ⟨e1, e2⟩ := jd_c b0 b1
  obtain ⟨q1, q2, _⟩ := ofNat_in hk (by omega)
  refine lv_iload_n hx hb jq_0 rfl (lv_at hl 1 rfl) ?_
  refine lv_aload_n hx hb jq_1 rfl (lv_at hl 0 rfl) ?_
  refine va_tlen hx hb a4 (kS_w hS) rfl jq_2 ?_
  refine jd_Sv (As := [.int (Int32.ofNat k), .int (Int32.ofNat (iv_sx (2 * i + 203)).length)]) (rest := []) F (jd_ck l ad cy D base L xs (Int32.ofNat k) (Int32.ofNat (iv_sx (2 * i + 203)).length) (jd_nn (by omega)) (jd_lt hk (by omega))) ⟨kB, jd_pre hK hS⟩ (iv_gS 26 rfl) (iv_gS 24 rfl) (iv_gS 25 rfl) (iv_gS 0 rfl) ⟨by decide +kernel, by decide +kernel, (show (parseMethodDescriptor "(II)V").map (fun d => d.parameters.length) = some 2 from by decide +kernel)⟩ ⟨by decide, by decide⟩ ⟨Nat.zero_le _, Nat.zero_le _⟩ hS hl.1 rfl (Nat.le_of_ble_eq_true rfl) jq_3 (fun H1 locs1 hS1 => ?_)
  refine lv_aload_n hx hb jq_6 rfl (lv_at hl 0 rfl) ?_
  refine lv_iload_n hx hb jq_7 rfl (lv_at hl 1 rfl) ?_
  refine va_tb hx hb a4 (kS_w hS1) (iv_in_ok q1) (v := .int ((iv_sx (2 * i + 203)).getD k 0)) (by rw [q2]) jq_8 ?_
  refine lv_sipush hx hb jq_9 rfl ?_
  refine lv_iand hx hb jq_12 ?_
  refine lv_i2c hx hb jq_13 rfl ?_
  rw [show (((iv_sx (2 * i + 203)).getD k 0 &&& (Int16.ofInt 255).toInt32).toUInt32 % 65536).toInt32 = (iv_sx (2 * i + 203)).getD k 0 from e1]
  exact W.zret (v := ((iv_sx (2 * i + 203)).getD k 0)) hx hb hr e2 (fun t ht hW => ⟨⟨((iv_sx (2 * i + 203)).getD k 0), (), rfl, rfl, trivial⟩, hS1.F ht⟩) hS1.2.2 jq_14
theorem jh_0 : decode prog_25_method_56_code 0 = .ok (.aload_n 0, 1) := by decide +kernel
theorem jh_1 : decode prog_25_method_56_code 1 = .ok (.invokevirtual 492, 3) := by decide +kernel
theorem jh_4 : decode prog_25_method_56_code 4 = .ok (.ifCond .eq (12), 3) := by decide +kernel
theorem jh_7 : decode prog_25_method_56_code 7 = .ok (.aload_n 0, 1) := by decide +kernel
theorem jh_8 : decode prog_25_method_56_code 8 = .ok (.getfield 9, 3) := by decide +kernel
theorem jh_11 : decode prog_25_method_56_code 11 = .ok (.iload_n 1, 1) := by decide +kernel
theorem jh_12 : decode prog_25_method_56_code 12 = .ok (.invokestatic 495, 3) := by decide +kernel
theorem jh_15 : decode prog_25_method_56_code 15 = .ok (.ireturn, 1) := by decide +kernel
theorem jh_16 : decode prog_25_method_56_code 16 = .ok (.aload_n 0, 1) := by decide +kernel
theorem jh_17 : decode prog_25_method_56_code 17 = .ok (.getfield 9, 3) := by decide +kernel
theorem jh_20 : decode prog_25_method_56_code 20 = .ok (.iload_n 1, 1) := by decide +kernel
theorem jh_21 : decode prog_25_method_56_code 21 = .ok (.invokestatic 498, 3) := by decide +kernel
theorem jh_24 : decode prog_25_method_56_code 24 = .ok (.ireturn, 1) := by decide +kernel
theorem jd_chr (l : Launch) (ad cy : Nat → Nat) (D : va_G) (base L : Nat) (xs : Nat → Int32) (i : Nat) (hi : i < 32) (k : Nat) (hk : k < (iv_sx (2 * i + 203)).length) : Met l (⟨"java/lang/String", "charAt", "(I)C"⟩ : MethodName) (Cond.code (⟨"java/lang/String", "charAt", "(I)C"⟩ : MethodName) prog_25_method_56_code 2 (some .char) :: iv_G) (kR 3 64) (kP ad cy D base L xs [.ref (ad (2 * i + 203)), .int (Int32.ofNat k)]) (kQ ((iv_sx (2 * i + 203)).getD k 0)) 0 0 kN := by
  refine Met.ofW (cc := prog_25_method_56_code) (maxL := 2) (ret := (some .char)) (by decide +kernel) rfl ?_
  intro p e s m args below meth c s₁ B hml hv
  obtain ⟨rfl, hK⟩ := hv
  have hx := B.exec
  have hb := B.bytes
  have hr := B.returns
  have hts0 := atoms_spec (ws := Cond.code (⟨"java/lang/String", "charAt", "(I)C"⟩ : MethodName) prog_25_method_56_code 2 (some .char) :: iv_G) B.pre
  have hts : ∀ w ∈ iv_G, w.before ([.ref (ad (2 * i + 203)), .int (Int32.ofNat k)] : List Value).toArray s = true := fun w hw => hts0 w (List.mem_cons_of_mem _ hw)
  have hown : s.vm.findClass "java/lang/String" = some m.cls := findClass_of_methodNamed B.named
  have hlocks := B.notSynchronized
  have hl := lv_entry ([.ref (ad (2 * i + 203)), .int (Int32.ofNat k)] : List Value) (n := 2) (Nat.le_of_ble_eq_true rfl)
  rw [lg_entry_eq]
  generalize (lg_sl ([.ref (ad (2 * i + 203)), .int (Int32.ofNat k)] : List Value) ++ List.replicate (2 - (lg_sl ([.ref (ad (2 * i + 203)), .int (Int32.ofNat k)] : List Value)).length) Slot.unset).toArray = ls at hl ⊢
  have hl : lv_has ls 2 [(0, .ref (ad (2 * i + 203))), (1, .int (Int32.ofNat k))] := hl
  have hS : va_S kN s.heap s.heap [] := va_S.rf
  have F : p.tables.exec = Jvm.exec ∧ c.code = prog_25_method_56_code ∧ c.maxLocals = 2 ∧ s.vm.findClass "java/lang/String" = some m.cls ∧ ∀ w ∈ iv_G, w.before ([.ref (ad (2 * i + 203)), .int (Int32.ofNat k)] : List Value).toArray s = true := ⟨hx, hb, hml, hown, hts⟩
  obtain ⟨a1, a2, vv, a3, a4⟩ := (iv_K_S hK).1 i hi
  obtain ⟨b0, b1⟩ := jd_b _ _ (jd_mem hk)
  obtain ⟨e1, e2⟩ := jd_c b0 b1
  refine lv_aload_n hx hb jh_0 rfl (lv_at hl 0 rfl) ?_
  refine jd_V (b := ad (2 * i + 203)) (As := []) (rest := []) F (jd_isL l ad cy D base L xs i hi) ⟨kB, jd_pre hK hS⟩ (iv_gS 20 rfl) (iv_gS 17 rfl) (iv_gS 18 rfl) (iv_gS 19 rfl) (iv_gS 0 rfl) ⟨by decide +kernel, by decide +kernel, by decide +kernel⟩ ⟨by decide, by decide⟩ ⟨Nat.zero_le _, Nat.zero_le _⟩ a1 hS hl.1 rfl (Nat.le_of_ble_eq_true rfl) jh_1 (fun H1 locs1 hS1 => ?_)
  refine lv_if_eq hx hb jh_4 (tgt := 16) rfl (fun q => absurd q (by decide)) (fun _ => ?_)
  refine lv_aload_n hx hb jh_7 rfl (lv_at hl 0 rfl) ?_
  refine vk_getf hx hb a3 (kS_w hS1) hown (hts _ (iv_gS 13 rfl)) (fun _ h9 => h9) jh_8 ?_
  refine lv_iload_n hx hb jh_11 rfl (lv_at hl 1 rfl) ?_
  refine jd_S (As := [.ref vv, .int (Int32.ofNat k)]) (rest := []) F (jd_l1c l ad cy D base L xs i vv k hk) ⟨kBT, jd_preT hK a4 hS1⟩ (iv_gS 23 rfl) (iv_gS 21 rfl) (iv_gS 22 rfl) (iv_gS 1 rfl) ⟨by decide +kernel, by decide +kernel, (show (parseMethodDescriptor "([BI)C").map (fun d => d.parameters.length) = some 2 from by decide +kernel)⟩ ⟨by decide, by decide⟩ ⟨Nat.zero_le _, Nat.zero_le _⟩ hS1 hl.1 rfl (Nat.le_of_ble_eq_true rfl) jh_12 (fun H2 locs2 hS2 => ?_)
  exact W.zret (v := ((iv_sx (2 * i + 203)).getD k 0)) hx hb hr e2 (fun t ht hW => ⟨⟨((iv_sx (2 * i + 203)).getD k 0), (), rfl, rfl, trivial⟩, hS2.F ht⟩) hS2.2.2 jh_15
theorem jn_0 : decode prog_26_method_4_code 0 = .ok (.iload_n 0, 1) := by decide +kernel
theorem jn_1 : decode prog_26_method_4_code 1 = .ok (.ifCond .lt (14), 3) := by decide +kernel
theorem jn_4 : decode prog_26_method_4_code 4 = .ok (.iload_n 0, 1) := by decide +kernel
theorem jn_5 : decode prog_26_method_4_code 5 = .ok (.sipush 255, 3) := by decide +kernel
theorem jn_8 : decode prog_26_method_4_code 8 = .ok (.if_icmp .gt (7), 3) := by decide +kernel
theorem jn_11 : decode prog_26_method_4_code 11 = .ok (.iconst 1, 1) := by decide +kernel
theorem jn_12 : decode prog_26_method_4_code 12 = .ok (.goto (4), 3) := by decide +kernel
theorem jn_15 : decode prog_26_method_4_code 15 = .ok (.iconst 0, 1) := by decide +kernel
theorem jn_16 : decode prog_26_method_4_code 16 = .ok (.ireturn, 1) := by decide +kernel
theorem jd_can (l : Launch) (ad cy : Nat → Nat) (D : va_G) (base L : Nat) (xs : Nat → Int32) (x : Int32) (h0 : ¬ x < 0) (h1 : ¬ (255 : Int32) < x) : Met l (⟨"java/lang/StringLatin1", "canEncode", "(I)Z"⟩ : MethodName) (Cond.code (⟨"java/lang/StringLatin1", "canEncode", "(I)Z"⟩ : MethodName) prog_26_method_4_code 1 (some .boolean) :: iv_G) (kR 0 0) (kP ad cy D base L xs [.int x]) (kQ 1) 0 0 kN := by
  refine Met.ofW (cc := prog_26_method_4_code) (maxL := 1) (ret := (some .boolean)) (by decide +kernel) rfl ?_
  intro p e s m args below meth c s₁ B hml hv
  obtain ⟨rfl, hK⟩ := hv
  have hx := B.exec
  have hb := B.bytes
  have hr := B.returns
  have hts0 := atoms_spec (ws := Cond.code (⟨"java/lang/StringLatin1", "canEncode", "(I)Z"⟩ : MethodName) prog_26_method_4_code 1 (some .boolean) :: iv_G) B.pre
  have hts : ∀ w ∈ iv_G, w.before ([.int x] : List Value).toArray s = true := fun w hw => hts0 w (List.mem_cons_of_mem _ hw)
  have hown : s.vm.findClass "java/lang/StringLatin1" = some m.cls := findClass_of_methodNamed B.named
  have hlocks := B.notSynchronized
  have hl := lv_entry ([.int x] : List Value) (n := 1) (Nat.le_of_ble_eq_true rfl)
  rw [lg_entry_eq]
  generalize (lg_sl ([.int x] : List Value) ++ List.replicate (1 - (lg_sl ([.int x] : List Value)).length) Slot.unset).toArray = ls at hl ⊢
  have hl : lv_has ls 1 [(0, .int x)] := hl
  have hS : va_S kN s.heap s.heap [] := va_S.rf
  have F : p.tables.exec = Jvm.exec ∧ c.code = prog_26_method_4_code ∧ c.maxLocals = 1 ∧ s.vm.findClass "java/lang/StringLatin1" = some m.cls ∧ ∀ w ∈ iv_G, w.before ([.int x] : List Value).toArray s = true := ⟨hx, hb, hml, hown, hts⟩
  refine lv_iload_n hx hb jn_0 rfl (lv_at hl 0 rfl) ?_
  refine lv_if_lt hx hb jn_1 (tgt := 15) rfl (fun q => absurd q h0) (fun _ => ?_)
  refine lv_iload_n hx hb jn_4 rfl (lv_at hl 0 rfl) ?_
  refine lv_sipush hx hb jn_5 rfl ?_
  refine lv_icmp_gt hx hb jn_8 (tgt := 15) rfl (fun q => absurd q h1) (fun _ => ?_)
  refine lv_iconst hx hb jn_11 rfl ?_
  refine lv_goto hx hb jn_12 (tgt := 16) rfl ?_
  exact W.zret (v := 1) hx hb hr (by decide) (fun t ht hW => ⟨⟨1, (), rfl, rfl, trivial⟩, hS.F ht⟩) hS.2.2 jn_16
theorem jd_cmp : ((List.range 256).all fun c => (List.range 128).all fun b => decide ((Int32.ofNat b = (Int32.ofNat c).toInt8.toInt32) ↔ Int32.ofNat b = Int32.ofNat c)) = true := by decide +kernel
theorem jd_eq {b x : Int32} (hb0 : 0 ≤ b.toInt) (hb1 : b.toInt ≤ 127) (hx0 : 0 ≤ x.toInt) (hx1 : x.toInt ≤ 255) : b = x.toInt8.toInt32 ↔ b = x := by
  obtain ⟨m, rfl, e1⟩ := i32_nat hb0
  obtain ⟨n, rfl, e2⟩ := i32_nat hx0
  exact of_decide_eq_true (List.all_eq_true.mp (List.all_eq_true.mp jd_cmp n (List.mem_range.mpr (by omega))) m (List.mem_range.mpr (by omega)))
theorem jd_ixd {x : Int32} {l : List Int32} {k : Nat} (hk : k < l.length) : iv_ixF x (l.drop k) k = bif decide (l.getD k 0 = x) then Int32.ofNat k else iv_ixF x (l.drop (k + 1)) (k + 1) := by
  rw [List.drop_eq_getElem_cons hk, List.getD_eq_getElem?_getD, List.getElem?_eq_getElem hk]
  rfl
theorem jo_0 : decode prog_26_method_23_code 0 = .ok (.iload_n 1, 1) := by decide +kernel
theorem jo_1 : decode prog_26_method_23_code 1 = .ok (.i2b, 1) := by decide +kernel
theorem jo_2 : decode prog_26_method_23_code 2 = .ok (.istore 4, 2) := by decide +kernel
theorem jo_4 : decode prog_26_method_23_code 4 = .ok (.iload_n 2, 1) := by decide +kernel
theorem jo_5 : decode prog_26_method_23_code 5 = .ok (.istore 5, 2) := by decide +kernel
theorem jo_7 : decode prog_26_method_23_code 7 = .ok (.iload 5, 2) := by decide +kernel
theorem jo_9 : decode prog_26_method_23_code 9 = .ok (.iload_n 3, 1) := by decide +kernel
theorem jo_10 : decode prog_26_method_23_code 10 = .ok (.if_icmp .ge (21), 3) := by decide +kernel
theorem jo_13 : decode prog_26_method_23_code 13 = .ok (.aload_n 0, 1) := by decide +kernel
theorem jo_14 : decode prog_26_method_23_code 14 = .ok (.iload 5, 2) := by decide +kernel
theorem jo_16 : decode prog_26_method_23_code 16 = .ok (.baload, 1) := by decide +kernel
theorem jo_17 : decode prog_26_method_23_code 17 = .ok (.iload 4, 2) := by decide +kernel
theorem jo_19 : decode prog_26_method_23_code 19 = .ok (.if_icmp .ne (6), 3) := by decide +kernel
theorem jo_22 : decode prog_26_method_23_code 22 = .ok (.iload 5, 2) := by decide +kernel
theorem jo_24 : decode prog_26_method_23_code 24 = .ok (.ireturn, 1) := by decide +kernel
theorem jo_25 : decode prog_26_method_23_code 25 = .ok (.iinc 5 1, 3) := by decide +kernel
theorem jo_28 : decode prog_26_method_23_code 28 = .ok (.goto (-21), 3) := by decide +kernel
theorem jo_31 : decode prog_26_method_23_code 31 = .ok (.iconst (-1), 1) := by decide +kernel
theorem jo_32 : decode prog_26_method_23_code 32 = .ok (.ireturn, 1) := by decide +kernel
theorem jd_ioc (l : Launch) (ad cy : Nat → Nat) (D : va_G) (base L : Nat) (xs : Nat → Int32) (i vv : Nat) (x : Int32) (hx0 : 0 ≤ x.toInt) (hx1 : x.toInt ≤ 255) : Met l (⟨"java/lang/StringLatin1", "indexOfChar", "([BIII)I"⟩ : MethodName) (Cond.code (⟨"java/lang/StringLatin1", "indexOfChar", "([BIII)I"⟩ : MethodName) prog_26_method_23_code 6 (some .int) :: iv_G) (kR 0 0) (kT ad cy D base L xs i vv [.ref vv, .int x, .int 0, .int (Int32.ofNat (iv_sx (2 * i + 203)).length)]) (kQ (iv_ixF x (iv_sx (2 * i + 203)) 0)) 0 0 kN := by
  refine Met.ofW (cc := prog_26_method_23_code) (maxL := 6) (ret := (some .int)) (by decide +kernel) rfl ?_
  intro p e s m args below meth c s₁ B hml hv
  obtain ⟨rfl, hK, a4⟩ := hv
  have hx := B.exec
  have hb := B.bytes
  have hr := B.returns
  have hts0 := atoms_spec (ws := Cond.code (⟨"java/lang/StringLatin1", "indexOfChar", "([BIII)I"⟩ : MethodName) prog_26_method_23_code 6 (some .int) :: iv_G) B.pre
  have hts : ∀ w ∈ iv_G, w.before ([.ref vv, .int x, .int 0, .int (Int32.ofNat (iv_sx (2 * i + 203)).length)] : List Value).toArray s = true := fun w hw => hts0 w (List.mem_cons_of_mem _ hw)
  have hown : s.vm.findClass "java/lang/StringLatin1" = some m.cls := findClass_of_methodNamed B.named
  have hlocks := B.notSynchronized
  have hl := lv_entry ([.ref vv, .int x, .int 0, .int (Int32.ofNat (iv_sx (2 * i + 203)).length)] : List Value) (n := 6) (Nat.le_of_ble_eq_true rfl)
  rw [lg_entry_eq]
  generalize (lg_sl ([.ref vv, .int x, .int 0, .int (Int32.ofNat (iv_sx (2 * i + 203)).length)] : List Value) ++ List.replicate (6 - (lg_sl ([.ref vv, .int x, .int 0, .int (Int32.ofNat (iv_sx (2 * i + 203)).length)] : List Value)).length) Slot.unset).toArray = ls at hl ⊢
  have hl : lv_has ls 6 [(0, .ref vv), (1, .int x), (2, .int 0), (3, .int (Int32.ofNat (iv_sx (2 * i + 203)).length))] := hl
  have hS : va_S kN s.heap s.heap [] := va_S.rf
  have F : p.tables.exec = Jvm.exec ∧ c.code = prog_26_method_23_code ∧ c.maxLocals = 6 ∧ s.vm.findClass "java/lang/StringLatin1" = some m.cls ∧ ∀ w ∈ iv_G, w.before ([.ref vv, .int x, .int 0, .int (Int32.ofNat (iv_sx (2 * i + 203)).length)] : List Value).toArray s = true := ⟨hx, hb, hml, hown, hts⟩
  have h7 := (s_sx (2 * i + 203)).1
  refine lv_iload_n hx hb jo_0 rfl (lv_at hl 1 rfl) ?_
  refine lv_i2b hx hb jo_1 rfl ?_
  refine lv_istore hx hb jo_2 hl (by decide) rfl (fun ls1 hl1 => ?_)
  refine lv_iload_n hx hb jo_4 rfl (lv_at hl1 3 rfl) ?_
  refine lv_istore hx hb jo_5 hl1 (by decide) rfl (fun ls2 hl2 => ?_)
  have key : ∀ (t k : Nat), k + t = (iv_sx (2 * i + 203)).length → iv_ixF x ((iv_sx (2 * i + 203)).drop k) k = iv_ixF x (iv_sx (2 * i + 203)) 0 → ∀ ls3 : Array Slot, lv_has ls3 6 [(5, .int (Int32.ofNat k)), (4, .int x.toInt8.toInt32), (0, .ref vv), (1, .int x), (2, .int 0), (3, .int (Int32.ofNat (iv_sx (2 * i + 203)).length))] → W p l e (kR 0 0) s m ([.ref vv, .int x, .int 0, .int (Int32.ofNat (iv_sx (2 * i + 203)).length)] : List Value).toArray below meth c s.heap [] 0 0 (MQ below (kQ (iv_ixF x (iv_sx (2 * i + 203)) 0)) ([.ref vv, .int x, .int 0, .int (Int32.ofNat (iv_sx (2 * i + 203)).length)] : List Value).toArray s 0 0 kN) (F0 m 7 ls3 []) := by
    intro t
    induction t with
    | zero =>
      intro k hk hi ls3 hl3
      refine lv_iload hx hb jo_7 (lv_at hl3 0 rfl) ?_
      refine lv_iload_n hx hb jo_9 rfl (lv_at hl3 5 rfl) ?_
      refine lv_icmp_ge hx hb jo_10 (tgt := 31) rfl (fun _ => ?_) (fun q => absurd (by rw [show k = (iv_sx (2 * i + 203)).length by omega]; exact Int32.le_refl _) q)
      refine lv_iconst hx hb jo_31 rfl ?_
      have e9 : iv_ixF x (iv_sx (2 * i + 203)) 0 = -1 := by rw [← hi, List.drop_eq_nil_of_le (by omega)]; rfl
      rw [show Int32.ofInt (-1) = iv_ixF x (iv_sx (2 * i + 203)) 0 from by rw [e9]; decide]
      exact W.iret (v := (iv_ixF x (iv_sx (2 * i + 203)) 0)) hx hb hr (fun t ht hW => ⟨⟨(iv_ixF x (iv_sx (2 * i + 203)) 0), (), rfl, rfl, trivial⟩, hS.F ht⟩) hS.2.2 jo_32
    | succ t ih =>
      intro k hk hi ls3 hl3
      have hkl : k < (iv_sx (2 * i + 203)).length := by omega
      obtain ⟨b0, b1⟩ := jd_b _ _ (jd_mem hkl)
      obtain ⟨q1, q2, _⟩ := ofNat_in hkl (by omega)
      have hlt := jd_lt hkl (by omega)
      rw [jd_ixd hkl] at hi
      refine lv_iload hx hb jo_7 (lv_at hl3 0 rfl) ?_
      refine lv_iload_n hx hb jo_9 rfl (lv_at hl3 5 rfl) ?_
      refine lv_icmp_ge hx hb jo_10 (tgt := 31) rfl (fun q => absurd hlt (Int32.not_lt.mpr q)) (fun _ => ?_)
      refine lv_aload_n hx hb jo_13 rfl (lv_at hl3 2 rfl) ?_
      refine lv_iload hx hb jo_14 (lv_at hl3 0 rfl) ?_
      refine va_tb hx hb a4 (kS_w hS) (iv_in_ok q1) (v := .int ((iv_sx (2 * i + 203)).getD k 0)) (by rw [q2]) jo_16 ?_
      refine lv_iload hx hb jo_17 (lv_at hl3 1 rfl) ?_
      refine lv_icmp_ne hx hb jo_19 (tgt := 25) rfl (fun q => ?_) (fun q => ?_)
      · have hne : ¬ (iv_sx (2 * i + 203)).getD k 0 = x := fun z => q ((jd_eq b0 b1 hx0 hx1).mpr z)
        rw [decide_eq_false hne] at hi
        refine lv_iinc hx hb jo_25 hl3 (k := 0) rfl (show Int32.ofNat k + Int32.ofInt 1 = Int32.ofNat (k + 1) from (nI_succ k).symm) (by decide) rfl (fun ls4 hl4 => ?_)
        refine lv_goto hx hb jo_28 (tgt := 7) rfl ?_
        exact ih (k + 1) (by omega) hi ls4 hl4
      · have heq : (iv_sx (2 * i + 203)).getD k 0 = x := (jd_eq b0 b1 hx0 hx1).mp q
        rw [decide_eq_true heq] at hi
        have hi : Int32.ofNat k = iv_ixF x (iv_sx (2 * i + 203)) 0 := hi
        refine lv_iload hx hb jo_22 (lv_at hl3 0 rfl) ?_
        rw [hi]
        exact W.iret (v := (iv_ixF x (iv_sx (2 * i + 203)) 0)) hx hb hr (fun t ht hW => ⟨⟨(iv_ixF x (iv_sx (2 * i + 203)) 0), (), rfl, rfl, trivial⟩, hS.F ht⟩) hS.2.2 jo_24
  exact key (iv_sx (2 * i + 203)).length 0 (by omega) (by rw [List.drop_zero]) ls2 hl2
theorem jd_x {x : Int32} (hx0 : 0 ≤ x.toInt) (hx1 : x.toInt ≤ 255) : ¬ x < 0 ∧ ¬ (255 : Int32) < x := by
  have e0 : (0 : Int32).toInt = 0 := by decide
  have e1 : (255 : Int32).toInt = 255 := by decide
  refine ⟨fun q => ?_, fun q => ?_⟩
  · rw [Int32.lt_iff_toInt_lt] at q
    omega
  · rw [Int32.lt_iff_toInt_lt] at q
    omega
theorem jd_m1 : (if (0 : Int32) < 0 then (0 : Int32) else 0) = 0 := by decide
theorem jd_m2 (x : Int32) : (if x < x then x else x) = x := by split <;> rfl
theorem ju_0 : decode prog_26_method_22_code 0 = .ok (.iload_n 1, 1) := by decide +kernel
theorem ju_1 : decode prog_26_method_22_code 1 = .ok (.invokestatic 88, 3) := by decide +kernel
theorem ju_4 : decode prog_26_method_22_code 4 = .ok (.ifCond .ne (5), 3) := by decide +kernel
theorem ju_7 : decode prog_26_method_22_code 7 = .ok (.iconst (-1), 1) := by decide +kernel
theorem ju_8 : decode prog_26_method_22_code 8 = .ok (.ireturn, 1) := by decide +kernel
theorem ju_9 : decode prog_26_method_22_code 9 = .ok (.iload_n 2, 1) := by decide +kernel
theorem ju_10 : decode prog_26_method_22_code 10 = .ok (.iconst 0, 1) := by decide +kernel
theorem ju_11 : decode prog_26_method_22_code 11 = .ok (.invokestatic 92, 3) := by decide +kernel
theorem ju_14 : decode prog_26_method_22_code 14 = .ok (.istore_n 2, 1) := by decide +kernel
theorem ju_15 : decode prog_26_method_22_code 15 = .ok (.iload_n 3, 1) := by decide +kernel
theorem ju_16 : decode prog_26_method_22_code 16 = .ok (.aload_n 0, 1) := by decide +kernel
theorem ju_17 : decode prog_26_method_22_code 17 = .ok (.arraylength, 1) := by decide +kernel
theorem ju_18 : decode prog_26_method_22_code 18 = .ok (.invokestatic 38, 3) := by decide +kernel
theorem ju_21 : decode prog_26_method_22_code 21 = .ok (.istore_n 3, 1) := by decide +kernel
theorem ju_22 : decode prog_26_method_22_code 22 = .ok (.iload_n 2, 1) := by decide +kernel
theorem ju_23 : decode prog_26_method_22_code 23 = .ok (.iload_n 3, 1) := by decide +kernel
theorem ju_24 : decode prog_26_method_22_code 24 = .ok (.if_icmp .lt (5), 3) := by decide +kernel
theorem ju_27 : decode prog_26_method_22_code 27 = .ok (.iconst (-1), 1) := by decide +kernel
theorem ju_28 : decode prog_26_method_22_code 28 = .ok (.ireturn, 1) := by decide +kernel
theorem ju_29 : decode prog_26_method_22_code 29 = .ok (.aload_n 0, 1) := by decide +kernel
theorem ju_30 : decode prog_26_method_22_code 30 = .ok (.iload_n 1, 1) := by decide +kernel
theorem ju_31 : decode prog_26_method_22_code 31 = .ok (.iload_n 2, 1) := by decide +kernel
theorem ju_32 : decode prog_26_method_22_code 32 = .ok (.iload_n 3, 1) := by decide +kernel
theorem ju_33 : decode prog_26_method_22_code 33 = .ok (.invokestatic 95, 3) := by decide +kernel
theorem ju_36 : decode prog_26_method_22_code 36 = .ok (.ireturn, 1) := by decide +kernel
theorem jd_l1i (l : Launch) (ad cy : Nat → Nat) (D : va_G) (base L : Nat) (xs : Nat → Int32) (i vv : Nat) (x : Int32) (hx0 : 0 ≤ x.toInt) (hx1 : x.toInt ≤ 255) : Met l (⟨"java/lang/StringLatin1", "indexOf", "([BIII)I"⟩ : MethodName) (Cond.code (⟨"java/lang/StringLatin1", "indexOf", "([BIII)I"⟩ : MethodName) prog_26_method_22_code 4 (some .int) :: iv_G) (kR 1 40) (kT ad cy D base L xs i vv [.ref vv, .int x, .int 0, .int (Int32.ofNat (iv_sx (2 * i + 203)).length)]) (kQ (iv_ixF x (iv_sx (2 * i + 203)) 0)) 0 0 kN := by
  refine Met.ofW (cc := prog_26_method_22_code) (maxL := 4) (ret := (some .int)) (by decide +kernel) rfl ?_
  intro p e s m args below meth c s₁ B hml hv
  obtain ⟨rfl, hK, a4⟩ := hv
  have hx := B.exec
  have hb := B.bytes
  have hr := B.returns
  have hts0 := atoms_spec (ws := Cond.code (⟨"java/lang/StringLatin1", "indexOf", "([BIII)I"⟩ : MethodName) prog_26_method_22_code 4 (some .int) :: iv_G) B.pre
  have hts : ∀ w ∈ iv_G, w.before ([.ref vv, .int x, .int 0, .int (Int32.ofNat (iv_sx (2 * i + 203)).length)] : List Value).toArray s = true := fun w hw => hts0 w (List.mem_cons_of_mem _ hw)
  have hown : s.vm.findClass "java/lang/StringLatin1" = some m.cls := findClass_of_methodNamed B.named
  have hlocks := B.notSynchronized
  have hl := lv_entry ([.ref vv, .int x, .int 0, .int (Int32.ofNat (iv_sx (2 * i + 203)).length)] : List Value) (n := 4) (Nat.le_of_ble_eq_true rfl)
  rw [lg_entry_eq]
  generalize (lg_sl ([.ref vv, .int x, .int 0, .int (Int32.ofNat (iv_sx (2 * i + 203)).length)] : List Value) ++ List.replicate (4 - (lg_sl ([.ref vv, .int x, .int 0, .int (Int32.ofNat (iv_sx (2 * i + 203)).length)] : List Value)).length) Slot.unset).toArray = ls at hl ⊢
  have hl : lv_has ls 4 [(0, .ref vv), (1, .int x), (2, .int 0), (3, .int (Int32.ofNat (iv_sx (2 * i + 203)).length))] := hl
  have hS : va_S kN s.heap s.heap [] := va_S.rf
  have F : p.tables.exec = Jvm.exec ∧ c.code = prog_26_method_22_code ∧ c.maxLocals = 4 ∧ s.vm.findClass "java/lang/StringLatin1" = some m.cls ∧ ∀ w ∈ iv_G, w.before ([.ref vv, .int x, .int 0, .int (Int32.ofNat (iv_sx (2 * i + 203)).length)] : List Value).toArray s = true := ⟨hx, hb, hml, hown, hts⟩
  have h7 := (s_sx (2 * i + 203)).1
  obtain ⟨n0, n1⟩ := jd_x hx0 hx1
  refine lv_iload_n hx hb ju_0 rfl (lv_at hl 1 rfl) ?_
  refine jd_S (As := [.int x]) (rest := []) F (jd_can l ad cy D base L xs x n0 n1) ⟨kB, jd_pre hK hS⟩ (iv_gS 43 rfl) (iv_gS 41 rfl) (iv_gS 42 rfl) (iv_gS 1 rfl) ⟨by decide +kernel, by decide +kernel, (show (parseMethodDescriptor "(I)Z").map (fun d => d.parameters.length) = some 1 from by decide +kernel)⟩ ⟨by decide, by decide⟩ ⟨Nat.zero_le _, Nat.zero_le _⟩ hS hl.1 rfl (Nat.le_of_ble_eq_true rfl) ju_1 (fun H1 locs1 hS1 => ?_)
  refine lv_if_ne hx hb ju_4 (tgt := 9) rfl (fun _ => ?_) (fun q => absurd q (by decide))
  refine lv_iload_n hx hb ju_9 rfl (lv_at hl 2 rfl) ?_
  refine lv_iconst hx hb ju_10 rfl ?_
  refine va_mmax hx hb (hml.trans hl.1.symm) hown (hts _ (iv_gS 44 rfl)) (hts _ (iv_glob 14 rfl)) (hts _ (iv_glob 20 rfl)) (hts _ (iv_glob 17 rfl)) (by decide) (by decide) (Nat.zero_le _) (Nat.zero_le _) ju_11 ?_
  rw [show (if (0 : Int32) < Int32.ofInt 0 then Int32.ofInt 0 else 0) = 0 from jd_m1]
  refine lv_istore_n hx hb ju_14 rfl hl (by decide) rfl (fun ls2 hl2 => ?_)
  have hl2 : lv_has ls2 4 [(2, .int 0), (0, .ref vv), (1, .int x), (3, .int (Int32.ofNat (iv_sx (2 * i + 203)).length))] := hl2
  refine lv_iload_n hx hb ju_15 rfl (lv_at hl2 3 rfl) ?_
  refine lv_aload_n hx hb ju_16 rfl (lv_at hl2 1 rfl) ?_
  refine va_tlen hx hb a4 (kS_w hS1) rfl ju_17 ?_
  refine va_mmin hx hb (hml.trans hl2.1.symm) hown (hts _ (iv_gS 45 rfl)) (hts _ (iv_glob 15 rfl)) (hts _ (iv_glob 20 rfl)) (hts _ (iv_glob 18 rfl)) (by decide) (by decide) (Nat.zero_le _) (Nat.zero_le _) ju_18 ?_
  rw [jd_m2]
  refine lv_istore_n hx hb ju_21 rfl hl2 (by decide) rfl (fun ls3 hl => ?_)
  have hl : lv_has ls3 4 [(3, .int (Int32.ofNat (iv_sx (2 * i + 203)).length)), (2, .int 0), (0, .ref vv), (1, .int x)] := hl
  refine lv_iload_n hx hb ju_22 rfl (lv_at hl 1 rfl) ?_
  refine lv_iload_n hx hb ju_23 rfl (lv_at hl 0 rfl) ?_
  refine lv_icmp_lt hx hb ju_24 (tgt := 29) rfl (fun _ => ?_) (fun q => ?_)
  · refine lv_aload_n hx hb ju_29 rfl (lv_at hl 2 rfl) ?_
    refine lv_iload_n hx hb ju_30 rfl (lv_at hl 3 rfl) ?_
    refine lv_iload_n hx hb ju_31 rfl (lv_at hl 1 rfl) ?_
    refine lv_iload_n hx hb ju_32 rfl (lv_at hl 0 rfl) ?_
    refine jd_S (As := [.ref vv, .int x, .int 0, .int (Int32.ofNat (iv_sx (2 * i + 203)).length)]) (rest := []) F (jd_ioc l ad cy D base L xs i vv x hx0 hx1) ⟨kBT, jd_preT hK a4 hS1⟩ (iv_gS 48 rfl) (iv_gS 46 rfl) (iv_gS 47 rfl) (iv_gS 1 rfl) ⟨by decide +kernel, by decide +kernel, (show (parseMethodDescriptor "([BIII)I").map (fun d => d.parameters.length) = some 4 from by decide +kernel)⟩ ⟨by decide, by decide⟩ ⟨Nat.zero_le _, Nat.zero_le _⟩ hS1 hl.1 rfl (Nat.le_of_ble_eq_true rfl) ju_33 (fun H2 locs2 hS2 => ?_)
    exact W.iret (v := (iv_ixF x (iv_sx (2 * i + 203)) 0)) hx hb hr (fun t ht hW => ⟨⟨(iv_ixF x (iv_sx (2 * i + 203)) 0), (), rfl, rfl, trivial⟩, hS2.F ht⟩) hS2.2.2 ju_36
  · have e0 : (iv_sx (2 * i + 203)).length = 0 := by
      by_cases h0 : (iv_sx (2 * i + 203)).length = 0
      · exact h0
      · exact absurd (show (0 : Int32) < Int32.ofNat (iv_sx (2 * i + 203)).length from jd_lt (a := 0) (by omega) (by omega)) q
    have e9 : (iv_ixF x (iv_sx (2 * i + 203)) 0) = -1 := by rw [List.eq_nil_of_length_eq_zero e0]; rfl
    refine lv_iconst hx hb ju_27 rfl ?_
    rw [show Int32.ofInt (-1) = (iv_ixF x (iv_sx (2 * i + 203)) 0) from by rw [e9]; decide]
    exact W.iret (v := (iv_ixF x (iv_sx (2 * i + 203)) 0)) hx hb hr (fun t ht hW => ⟨⟨(iv_ixF x (iv_sx (2 * i + 203)) 0), (), rfl, rfl, trivial⟩, hS1.F ht⟩) hS1.2.2 ju_28
theorem jv_0 : decode prog_25_method_80_code 0 = .ok (.aload_n 0, 1) := by decide +kernel
theorem jv_1 : decode prog_25_method_80_code 1 = .ok (.invokevirtual 492, 3) := by decide +kernel
theorem jv_4 : decode prog_25_method_80_code 4 = .ok (.ifCond .eq (19), 3) := by decide +kernel
theorem jv_7 : decode prog_25_method_80_code 7 = .ok (.aload_n 0, 1) := by decide +kernel
theorem jv_8 : decode prog_25_method_80_code 8 = .ok (.getfield 9, 3) := by decide +kernel
theorem jv_11 : decode prog_25_method_80_code 11 = .ok (.iload_n 1, 1) := by decide +kernel
theorem jv_12 : decode prog_25_method_80_code 12 = .ok (.iload_n 2, 1) := by decide +kernel
theorem jv_13 : decode prog_25_method_80_code 13 = .ok (.aload_n 0, 1) := by decide +kernel
theorem jv_14 : decode prog_25_method_80_code 14 = .ok (.invokevirtual 505, 3) := by decide +kernel
theorem jv_17 : decode prog_25_method_80_code 17 = .ok (.invokestatic 637, 3) := by decide +kernel
theorem jv_20 : decode prog_25_method_80_code 20 = .ok (.goto (16), 3) := by decide +kernel
theorem jv_23 : decode prog_25_method_80_code 23 = .ok (.aload_n 0, 1) := by decide +kernel
theorem jv_24 : decode prog_25_method_80_code 24 = .ok (.getfield 9, 3) := by decide +kernel
theorem jv_27 : decode prog_25_method_80_code 27 = .ok (.iload_n 1, 1) := by decide +kernel
theorem jv_28 : decode prog_25_method_80_code 28 = .ok (.iload_n 2, 1) := by decide +kernel
theorem jv_29 : decode prog_25_method_80_code 29 = .ok (.aload_n 0, 1) := by decide +kernel
theorem jv_30 : decode prog_25_method_80_code 30 = .ok (.invokevirtual 505, 3) := by decide +kernel
theorem jv_33 : decode prog_25_method_80_code 33 = .ok (.invokestatic 640, 3) := by decide +kernel
theorem jv_36 : decode prog_25_method_80_code 36 = .ok (.ireturn, 1) := by decide +kernel
theorem jd_ii (l : Launch) (ad cy : Nat → Nat) (D : va_G) (base L : Nat) (xs : Nat → Int32) (i : Nat) (hi : i < 32) (x : Int32) (hx0 : 0 ≤ x.toInt) (hx1 : x.toInt ≤ 255) : Met l (⟨"java/lang/String", "indexOf", "(II)I"⟩ : MethodName) (Cond.code (⟨"java/lang/String", "indexOf", "(II)I"⟩ : MethodName) prog_25_method_80_code 3 (some .int) :: iv_G) (kR 2 63) (kP ad cy D base L xs [.ref (ad (2 * i + 203)), .int x, .int 0]) (kQ (iv_ixF x (iv_sx (2 * i + 203)) 0)) 0 0 kN := by
  refine Met.ofW (cc := prog_25_method_80_code) (maxL := 3) (ret := (some .int)) (by decide +kernel) rfl ?_
  intro p e s m args below meth c s₁ B hml hv
  obtain ⟨rfl, hK⟩ := hv
  have hx := B.exec
  have hb := B.bytes
  have hr := B.returns
  have hts0 := atoms_spec (ws := Cond.code (⟨"java/lang/String", "indexOf", "(II)I"⟩ : MethodName) prog_25_method_80_code 3 (some .int) :: iv_G) B.pre
  have hts : ∀ w ∈ iv_G, w.before ([.ref (ad (2 * i + 203)), .int x, .int 0] : List Value).toArray s = true := fun w hw => hts0 w (List.mem_cons_of_mem _ hw)
  have hown : s.vm.findClass "java/lang/String" = some m.cls := findClass_of_methodNamed B.named
  have hlocks := B.notSynchronized
  have hl := lv_entry ([.ref (ad (2 * i + 203)), .int x, .int 0] : List Value) (n := 3) (Nat.le_of_ble_eq_true rfl)
  rw [lg_entry_eq]
  generalize (lg_sl ([.ref (ad (2 * i + 203)), .int x, .int 0] : List Value) ++ List.replicate (3 - (lg_sl ([.ref (ad (2 * i + 203)), .int x, .int 0] : List Value)).length) Slot.unset).toArray = ls at hl ⊢
  have hl : lv_has ls 3 [(0, .ref (ad (2 * i + 203))), (1, .int x), (2, .int 0)] := hl
  have hS : va_S kN s.heap s.heap [] := va_S.rf
  have F : p.tables.exec = Jvm.exec ∧ c.code = prog_25_method_80_code ∧ c.maxLocals = 3 ∧ s.vm.findClass "java/lang/String" = some m.cls ∧ ∀ w ∈ iv_G, w.before ([.ref (ad (2 * i + 203)), .int x, .int 0] : List Value).toArray s = true := ⟨hx, hb, hml, hown, hts⟩
  obtain ⟨a1, a2, vv, a3, a4⟩ := (iv_K_S hK).1 i hi
  have h7 := (s_sx (2 * i + 203)).1
  refine lv_aload_n hx hb jv_0 rfl (lv_at hl 0 rfl) ?_
  refine jd_V (b := ad (2 * i + 203)) (As := []) (rest := []) F (jd_isL l ad cy D base L xs i hi) ⟨kB, jd_pre hK hS⟩ (iv_gS 20 rfl) (iv_gS 17 rfl) (iv_gS 18 rfl) (iv_gS 19 rfl) (iv_gS 0 rfl) ⟨by decide +kernel, by decide +kernel, by decide +kernel⟩ ⟨by decide, by decide⟩ ⟨Nat.zero_le _, Nat.zero_le _⟩ a1 hS hl.1 rfl (Nat.le_of_ble_eq_true rfl) jv_1 (fun H1 locs1 hS1 => ?_)
  refine lv_if_eq hx hb jv_4 (tgt := 23) rfl (fun q => absurd q (by decide)) (fun _ => ?_)
  refine lv_aload_n hx hb jv_7 rfl (lv_at hl 0 rfl) ?_
  refine vk_getf hx hb a3 (kS_w hS1) hown (hts _ (iv_gS 13 rfl)) (fun _ h9 => h9) jv_8 ?_
  refine lv_iload_n hx hb jv_11 rfl (lv_at hl 1 rfl) ?_
  refine lv_iload_n hx hb jv_12 rfl (lv_at hl 2 rfl) ?_
  refine lv_aload_n hx hb jv_13 rfl (lv_at hl 0 rfl) ?_
  refine jd_V (b := ad (2 * i + 203)) (As := []) (rest := [.int 0, .int x, .ref vv]) F (jd_len l ad cy D base L xs i hi) ⟨kB, jd_pre hK hS1⟩ (iv_gS 6 rfl) (iv_gS 3 rfl) (iv_gS 4 rfl) (iv_gS 5 rfl) (iv_gS 0 rfl) ⟨by decide +kernel, by decide +kernel, by decide +kernel⟩ ⟨by decide, by decide⟩ ⟨Nat.zero_le _, Nat.zero_le _⟩ a1 hS1 hl.1 rfl (Nat.le_of_ble_eq_true rfl) jv_14 (fun H2 locs2 hS2 => ?_)
  refine jd_S (As := [.ref vv, .int x, .int 0, .int (Int32.ofNat (iv_sx (2 * i + 203)).length)]) (rest := []) F (jd_l1i l ad cy D base L xs i vv x hx0 hx1) ⟨kBT, jd_preT hK a4 hS2⟩ (iv_gS 40 rfl) (iv_gS 38 rfl) (iv_gS 39 rfl) (iv_gS 1 rfl) ⟨by decide +kernel, by decide +kernel, (show (parseMethodDescriptor "([BIII)I").map (fun d => d.parameters.length) = some 4 from by decide +kernel)⟩ ⟨by decide, by decide⟩ ⟨Nat.zero_le _, Nat.zero_le _⟩ hS2 hl.1 rfl (Nat.le_of_ble_eq_true rfl) jv_17 (fun H3 locs3 hS3 => ?_)
  refine lv_goto hx hb jv_20 (tgt := 36) rfl ?_
  exact W.iret (v := (iv_ixF x (iv_sx (2 * i + 203)) 0)) hx hb hr (fun t ht hW => ⟨⟨(iv_ixF x (iv_sx (2 * i + 203)) 0), (), rfl, rfl, trivial⟩, hS3.F ht⟩) hS3.2.2 jv_36
theorem jw_0 : decode prog_25_method_79_code 0 = .ok (.aload_n 0, 1) := by decide +kernel
theorem jw_1 : decode prog_25_method_79_code 1 = .ok (.iload_n 1, 1) := by decide +kernel
theorem jw_2 : decode prog_25_method_79_code 2 = .ok (.iconst 0, 1) := by decide +kernel
theorem jw_3 : decode prog_25_method_79_code 3 = .ok (.invokevirtual 633, 3) := by decide +kernel
theorem jw_6 : decode prog_25_method_79_code 6 = .ok (.ireturn, 1) := by decide +kernel
theorem jd_i (l : Launch) (ad cy : Nat → Nat) (D : va_G) (base L : Nat) (xs : Nat → Int32) (i : Nat) (hi : i < 32) (x : Int32) (hx0 : 0 ≤ x.toInt) (hx1 : x.toInt ≤ 255) : Met l (⟨"java/lang/String", "indexOf", "(I)I"⟩ : MethodName) (Cond.code (⟨"java/lang/String", "indexOf", "(I)I"⟩ : MethodName) prog_25_method_79_code 2 (some .int) :: iv_G) (kR 3 85) (kP ad cy D base L xs [.ref (ad (2 * i + 203)), .int x]) (kQ (iv_ixF x (iv_sx (2 * i + 203)) 0)) 0 0 kN := by
  refine Met.ofW (cc := prog_25_method_79_code) (maxL := 2) (ret := (some .int)) (by decide +kernel) rfl ?_
  intro p e s m args below meth c s₁ B hml hv
  obtain ⟨rfl, hK⟩ := hv
  have hx := B.exec
  have hb := B.bytes
  have hr := B.returns
  have hts0 := atoms_spec (ws := Cond.code (⟨"java/lang/String", "indexOf", "(I)I"⟩ : MethodName) prog_25_method_79_code 2 (some .int) :: iv_G) B.pre
  have hts : ∀ w ∈ iv_G, w.before ([.ref (ad (2 * i + 203)), .int x] : List Value).toArray s = true := fun w hw => hts0 w (List.mem_cons_of_mem _ hw)
  have hown : s.vm.findClass "java/lang/String" = some m.cls := findClass_of_methodNamed B.named
  have hlocks := B.notSynchronized
  have hl := lv_entry ([.ref (ad (2 * i + 203)), .int x] : List Value) (n := 2) (Nat.le_of_ble_eq_true rfl)
  rw [lg_entry_eq]
  generalize (lg_sl ([.ref (ad (2 * i + 203)), .int x] : List Value) ++ List.replicate (2 - (lg_sl ([.ref (ad (2 * i + 203)), .int x] : List Value)).length) Slot.unset).toArray = ls at hl ⊢
  have hl : lv_has ls 2 [(0, .ref (ad (2 * i + 203))), (1, .int x)] := hl
  have hS : va_S kN s.heap s.heap [] := va_S.rf
  have F : p.tables.exec = Jvm.exec ∧ c.code = prog_25_method_79_code ∧ c.maxLocals = 2 ∧ s.vm.findClass "java/lang/String" = some m.cls ∧ ∀ w ∈ iv_G, w.before ([.ref (ad (2 * i + 203)), .int x] : List Value).toArray s = true := ⟨hx, hb, hml, hown, hts⟩
  obtain ⟨a1, a2, vv, a3, a4⟩ := (iv_K_S hK).1 i hi
  refine lv_aload_n hx hb jw_0 rfl (lv_at hl 0 rfl) ?_
  refine lv_iload_n hx hb jw_1 rfl (lv_at hl 1 rfl) ?_
  refine lv_iconst hx hb jw_2 rfl ?_
  refine jd_V (b := ad (2 * i + 203)) (As := [.int x, .int 0]) (rest := []) F (jd_ii l ad cy D base L xs i hi x hx0 hx1) ⟨kB, jd_pre hK hS⟩ (iv_gS 37 rfl) (iv_gS 34 rfl) (iv_gS 35 rfl) (iv_gS 36 rfl) (iv_gS 0 rfl) ⟨by decide +kernel, by decide +kernel, (show (parseMethodDescriptor "(II)I").map (fun d => d.parameters.length) = some 2 from by decide +kernel)⟩ ⟨by decide, by decide⟩ ⟨Nat.zero_le _, Nat.zero_le _⟩ a1 hS hl.1 rfl (Nat.le_of_ble_eq_true rfl) jw_3 (fun H1 locs1 hS1 => ?_)
  exact W.iret (v := (iv_ixF x (iv_sx (2 * i + 203)) 0)) hx hb hr (fun t ht hW => ⟨⟨(iv_ixF x (iv_sx (2 * i + 203)) 0), (), rfl, rfl, trivial⟩, hS1.F ht⟩) hS1.2.2 jw_6
