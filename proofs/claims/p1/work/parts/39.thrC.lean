/-! ===== the law at brother and time ===== -/
section XC9
set_option maxRecDepth 100000 in
theorem fq_286_328 : iv_f1 (iv_p 286) 328 = some (.inl (iv_oA 1 1)) := rfl
set_option maxRecDepth 100000 in
theorem fq_286_329 : iv_f1 (iv_p 286) 329 = some (.inl (iv_oA 0 1)) := rfl
set_option maxRecDepth 100000 in
theorem fq_286_330 : iv_f1 (iv_p 286) 330 = some (.inl (iv_oI 4 2)) := rfl
set_option maxRecDepth 100000 in
theorem fq_286_332 : iv_f1 (iv_p 286) 332 = some (.inl (iv_oK (.int 1) 1)) := rfl
set_option maxRecDepth 100000 in
theorem fq_286_333 : iv_f1 (iv_p 286) 333 = some (.inl (iv_oII fun x y => x + y)) := rfl
set_option maxRecDepth 100000 in
theorem fq_286_334 : iv_f1 (iv_p 286) 334 = some (.inl iv_oIl) := rfl
set_option maxRecDepth 100000 in
theorem fq_286_335 : iv_f1 (iv_p 286) 335 = some (.inl (iv_oA 0 1)) := rfl
set_option maxRecDepth 100000 in
theorem fq_286_336 : iv_f1 (iv_p 286) 336 = some (.inl (iv_oI 4 2)) := rfl
set_option maxRecDepth 100000 in
theorem fq_286_338 : iv_f1 (iv_p 286) 338 = some (.inl (iv_oK (.int 2) 1)) := rfl
set_option maxRecDepth 100000 in
theorem fq_286_339 : iv_f1 (iv_p 286) 339 = some (.inl (iv_oII fun x y => x + y)) := rfl
set_option maxRecDepth 100000 in
theorem fq_286_340 : iv_f1 (iv_p 286) 340 = some (.inl iv_oIl) := rfl
set_option maxRecDepth 100000 in
theorem fq_286_341 : iv_f1 (iv_p 286) 341 = some (.inl (iv_oA 3 1)) := rfl
set_option maxRecDepth 100000 in
theorem fq_286_894 : iv_f1 (iv_p 286) 894 = some (.inl (iv_oA 1 1)) := rfl
set_option maxRecDepth 100000 in
theorem fq_286_895 : iv_f1 (iv_p 286) 895 = some (.inl (iv_oA 0 1)) := rfl
set_option maxRecDepth 100000 in
theorem fq_286_896 : iv_f1 (iv_p 286) 896 = some (.inl (iv_oI 4 2)) := rfl
set_option maxRecDepth 100000 in
theorem fq_286_898 : iv_f1 (iv_p 286) 898 = some (.inl (iv_oK (.int 1) 1)) := rfl
set_option maxRecDepth 100000 in
theorem fq_286_899 : iv_f1 (iv_p 286) 899 = some (.inl (iv_oII fun x y => x + y)) := rfl
set_option maxRecDepth 100000 in
theorem fq_286_900 : iv_f1 (iv_p 286) 900 = some (.inl iv_oIl) := rfl
set_option maxRecDepth 100000 in
theorem fq_286_901 : iv_f1 (iv_p 286) 901 = some (.inl (iv_oA 0 1)) := rfl
set_option maxRecDepth 100000 in
theorem fq_286_902 : iv_f1 (iv_p 286) 902 = some (.inl (iv_oI 4 2)) := rfl
set_option maxRecDepth 100000 in
theorem fq_286_904 : iv_f1 (iv_p 286) 904 = some (.inl (iv_oK (.int 2) 1)) := rfl
set_option maxRecDepth 100000 in
theorem fq_286_905 : iv_f1 (iv_p 286) 905 = some (.inl (iv_oII fun x y => x + y)) := rfl
set_option maxRecDepth 100000 in
theorem fq_286_906 : iv_f1 (iv_p 286) 906 = some (.inl iv_oIl) := rfl
set_option maxRecDepth 100000 in
theorem fq_286_907 : iv_f1 (iv_p 286) 907 = some (.inl (iv_oA 3 1)) := rfl
theorem xC_to342 {xs : Nat → Int32} : iv_Pn 6 xs 342 21 iv_n 328 sgl [] sg2 sgl [.ref 592, .int (xs 2), .int (xs 1), .ref 0] sg2 := by
  refine Ps rfl fq_286_328 rfl ?_
  refine Ps rfl fq_286_329 rfl ?_
  refine Ps rfl fq_286_330 rfl ?_
  refine Ps rfl fq_286_332 rfl ?_
  refine Ps rfl fq_286_333 rfl ?_
  refine Ps rfl fq_286_334 (o_Sc (by decide)) ?_
  refine Ps rfl fq_286_335 rfl ?_
  refine Ps rfl fq_286_336 rfl ?_
  refine Ps rfl fq_286_338 rfl ?_
  refine Ps rfl fq_286_339 rfl ?_
  refine Ps rfl fq_286_340 (o_Sc (by decide)) ?_
  refine Ps rfl fq_286_341 rfl ?_
  exact Pe
theorem xC_to908 {xs : Nat → Int32} : iv_Pn 6 xs 908 21 iv_n 894 sgl [] sg2 sgl [.ref 592, .int (xs 2), .int (xs 1), .ref 0] sg2 := by
  refine Ps rfl fq_286_894 rfl ?_
  refine Ps rfl fq_286_895 rfl ?_
  refine Ps rfl fq_286_896 rfl ?_
  refine Ps rfl fq_286_898 rfl ?_
  refine Ps rfl fq_286_899 rfl ?_
  refine Ps rfl fq_286_900 (o_Sc (by decide)) ?_
  refine Ps rfl fq_286_901 rfl ?_
  refine Ps rfl fq_286_902 rfl ?_
  refine Ps rfl fq_286_904 rfl ?_
  refine Ps rfl fq_286_905 rfl ?_
  refine Ps rfl fq_286_906 (o_Sc (by decide)) ?_
  refine Ps rfl fq_286_907 rfl ?_
  exact Pe
set_option maxRecDepth 100000 in
theorem xC_d342 : decode code 342 = .ok (.invokestatic 41, 3) := by
  have h := List.all_eq_true.mp iv_cok_law _ (iv_f1_in _ _ _ (show iv_f1 (iv_m iv_n).2.2.2.2 342 = some (.invokestatic 41, 3) from rfl))
  rw [Bool.and_eq_true] at h
  exact of_decide_eq_true h.1
set_option maxRecDepth 100000 in
theorem xC_d908 : decode code 908 = .ok (.invokestatic 124, 3) := by
  have h := List.all_eq_true.mp iv_cok_law _ (iv_f1_in _ _ _ (show iv_f1 (iv_m iv_n).2.2.2.2 908 = some (.invokestatic 124, 3) from rfl))
  rw [Bool.and_eq_true] at h
  exact of_decide_eq_true h.1
theorem xC_bad : ∀ w ∈ xw_bad, w ∈ lw_tbl := by decide +kernel
theorem xC_str {own tx : String} {k : Nat} {A : Array Value} {s : State} (h : (Cond.stringRef own k tx).before A s = true) : ∃ a, (Term.string own k).eval A s none [] s = some (.ref a) := by
  have hc : ∃ cur, s.vm.findClass own = some cur := by
    cases hc : s.vm.findClass own with
    | none => unfold Cond.before Cond.holds at h; simp [Cond.value, hc] at h
    | some c => exact ⟨c, rfl⟩
  obtain ⟨cur, hcur⟩ := hc
  obtain ⟨k9, cf, i, a, -, -, -, -, -, hev⟩ := Cond.stringRef_spec hcur h
  first | exact ⟨a, hev⟩ | exact ⟨a, hev _⟩ | exact ⟨a, hev _ _⟩
theorem xw_start {s : State} {b : Nat} (hts : ∀ w ∈ lw_tbl, w.before #[Value.ref b] s = true) (hgv : (Jvm.Cond.and given_1 narrow_1).before #[Value.ref b] s = true) : xw s.heap.size s := by
  have hpr := flat_of_before _ hgv
  have hA : ∀ a : Nat, a < s.heap.size → ¬ iv_A s.heap.size a := fun a h z => absurd h (Nat.not_lt.mpr z)
  have st : ∀ (k : Nat) (tx : String), Cond.stringRef RX12 k tx ∈ lw_tbl → ∃ sa, vk_R RX12 k tx sa s := fun k tx hm => by
    have h1 := hts _ hm
    obtain ⟨a, h2⟩ := xC_str h1
    exact ⟨a, vk_R.of h1 h2⟩
  refine ⟨⟨st _ _ (by decide +kernel), st _ _ (by decide +kernel)⟩, ⟨vx_Zqof (hts _ (by decide +kernel)) (hts _ (by decide +kernel)) (hpr _ (by decide +kernel)) hA, vx_Zqof (hts _ (by decide +kernel)) (hts _ (by decide +kernel)) (hpr _ (by decide +kernel)) hA⟩, fun w hw => va_any (xA_tab w hw) (hts w (xC_bad w hw))⟩
theorem xC_l342 : Cond.methodLink RL 41 yL_brother ∈ iv_G ∧ Cond.static yL_brother ∈ iv_G ∧ Cond.initialized RL ∈ iv_G ∧ Cond.codeWith yL_brother cL_brother 5 (some .int) [(0, 10, 13, 13)] ∈ iv_G := by decide +kernel
set_option maxHeartbeats 1000000 in
theorem xC_brother {p : Program} {l : Launch} {e : Env} {s : State} {m : MethodId} {below : List Frame} {meth : Method} {c : Code} {ad cy : Nat → Nat} {D : va_G} {b : Nat} {xs : Nat → Int32} (hl : l.stackTraces = false) (C : lwC ad cy D 6 xs p s m b meth c) (hr : meth.sig.returnType = ret) (hlocks : meth.locks = false) (hw : xw s.heap.size s) : lwN ad cy D p l e s m b below meth c 342 sgl [.ref 592, .int (xs 2), .int (xs 1), .ref 0] sg2 := by
  intro H locs ls hvv hP hS
  obtain ⟨hx, hb, hml, hown, hts, hK, hnm⟩ := C
  have hPre : ∀ U : State, U.heap = H → s.WarmedH U.vm → xA_P ad cy D s.heap.size 6 xs [.ref 0, .int (xs 1), .int (xs 2), .ref 592] sg2 (iv_sm ad [.ref 0, .int (xs 1), .int (xs 2), .ref 592]).toArray U := fun U hU hW => ⟨⟨rfl, iv_K_to hK hW (by rw [hU]; exact hS.1) (fun q h1 h2 => by rw [hU]; exact hS.2.1 q h1 h2), by rw [hU]; exact hP⟩, xw_to hw hW (fun q h1 h2 => by rw [hU]; exact hS.2.1 q h1 h2)⟩
  have hz1 := sgP_eq.2.1
  have hz2 := sgP_eq.2.2
  have cw : vx_CSW room_1 s #[Value.ref b] RL 41 yL_brother cL_brother 5 (some .int) [(0, 10, 13, 13)] (Cond.codeWith yL_brother cL_brother 5 (some .int) [(0, 10, 13, 13)] :: iv_G) (iv_rm 12 1 6) 1 6 4 := vx_cwSW 4 hts (iv_goodIn fun w hw9 => by
    unfold va_wsS at hw9
    simp only [List.mem_append, List.mem_cons, List.not_mem_nil, or_false] at hw9
    rcases hw9 with (rfl | rfl | rfl) | rfl | h9
    · exact xC_l342.1
    · exact xC_l342.2.1
    · exact xC_l342.2.2.1
    · exact xC_l342.2.2.2
    · exact h9) rfl rfl rfl ⟨by decide, by decide, by decide +kernel⟩ ⟨by decide, by decide⟩
  refine iv_callW (r := some (.int 1)) (σ1 := sg2) (vx_runSW (rest := []) (As := iv_sm ad [.ref 0, .int (xs 1), .int (xs 2), .ref 592]) ⟨hx, hb, hml, hown, hts⟩ (xB_brother (ad := ad) (cy := cy) (D := D) (base := s.heap.size) (L := 6) (xs := xs) (x := xs 1) (y := xs 2) hl) cw ⟨xA_blind, hPre⟩ rfl rfl hvv.1 rfl (lv_room (show (0 : Nat) ≤ 8 by decide)) xC_d342 ⟨by show sg2.1 - 0 + 1 ≤ 600002; omega, by show sg2.2.2 - 0 + 6 ≤ 7302232; omega⟩) hS ?_
  intro H1 locs1 hP1 hS1
  refine lw_rb (fun q hq => hS1.2.2 q hq) (by omega) (by omega) (fun s' hv hh => ?_)
  have hW : s.WarmedH s'.vm := by rw [hv]; exact State.WarmedH.refl s
  have hkp : ∀ q : Nat, q < s.heap.size → ¬ iv_A s.heap.size q → s'.heap[q]? = s.heap[q]? := fun q h1 h2 => by rw [hh]; exact hS1.2.1 q h1 h2
  have C' : iv_C0 ad cy D s.heap.size 6 xs p s' m #[Value.ref b] meth c (iv_c iv_n) (iv_m iv_n).2.2.1 (iv_m iv_n).2.1 (iv_y iv_n).name := ⟨hx, hb, hml, by rw [hv]; exact hown, fun w hw9 => word_at hW (good_of_word (iv_G_good w hw9)) (hts w hw9), iv_K_to hK hW (by rw [hh]; exact hS1.1) hkp, hnm⟩
  obtain ⟨σ', hR, q1, q2⟩ := sD2 sK2_345 xs
  have N := lw_finN (l := l) (e := e) (below := below) C' hr hlocks hR q1 q2
  have N2 := N H1 [] ls hvv hP1 (by rw [hh]; exact va_S.rf)
  exact W.cs (Nat.sub_self _).symm (Nat.sub_self _).symm N2
theorem xC_l908 : Cond.methodLink RL 124 yL_time ∈ iv_G ∧ Cond.static yL_time ∈ iv_G ∧ Cond.initialized RL ∈ iv_G ∧ Cond.codeWith yL_time cL_time 5 (some .int) [(0, 10, 13, 13)] ∈ iv_G := by decide +kernel
set_option maxHeartbeats 1000000 in
theorem xC_time {p : Program} {l : Launch} {e : Env} {s : State} {m : MethodId} {below : List Frame} {meth : Method} {c : Code} {ad cy : Nat → Nat} {D : va_G} {b : Nat} {xs : Nat → Int32} (hl : l.stackTraces = false) (C : lwC ad cy D 6 xs p s m b meth c) (hr : meth.sig.returnType = ret) (hlocks : meth.locks = false) (hw : xw s.heap.size s) : lwN ad cy D p l e s m b below meth c 908 sgl [.ref 592, .int (xs 2), .int (xs 1), .ref 0] sg2 := by
  intro H locs ls hvv hP hS
  obtain ⟨hx, hb, hml, hown, hts, hK, hnm⟩ := C
  have hPre : ∀ U : State, U.heap = H → s.WarmedH U.vm → xA_P ad cy D s.heap.size 6 xs [.ref 0, .int (xs 1), .int (xs 2), .ref 592] sg2 (iv_sm ad [.ref 0, .int (xs 1), .int (xs 2), .ref 592]).toArray U := fun U hU hW => ⟨⟨rfl, iv_K_to hK hW (by rw [hU]; exact hS.1) (fun q h1 h2 => by rw [hU]; exact hS.2.1 q h1 h2), by rw [hU]; exact hP⟩, xw_to hw hW (fun q h1 h2 => by rw [hU]; exact hS.2.1 q h1 h2)⟩
  have hz1 := sgP_eq.2.1
  have hz2 := sgP_eq.2.2
  have cw : vx_CSW room_1 s #[Value.ref b] RL 124 yL_time cL_time 5 (some .int) [(0, 10, 13, 13)] (Cond.codeWith yL_time cL_time 5 (some .int) [(0, 10, 13, 13)] :: iv_G) (iv_rm 12 1 6) 1 6 4 := vx_cwSW 4 hts (iv_goodIn fun w hw9 => by
    unfold va_wsS at hw9
    simp only [List.mem_append, List.mem_cons, List.not_mem_nil, or_false] at hw9
    rcases hw9 with (rfl | rfl | rfl) | rfl | h9
    · exact xC_l908.1
    · exact xC_l908.2.1
    · exact xC_l908.2.2.1
    · exact xC_l908.2.2.2
    · exact h9) rfl rfl rfl ⟨by decide, by decide, by decide +kernel⟩ ⟨by decide, by decide⟩
  refine iv_callW (r := some (.int 1)) (σ1 := sg2) (vx_runSW (rest := []) (As := iv_sm ad [.ref 0, .int (xs 1), .int (xs 2), .ref 592]) ⟨hx, hb, hml, hown, hts⟩ (xB_time (ad := ad) (cy := cy) (D := D) (base := s.heap.size) (L := 6) (xs := xs) (x := xs 1) (y := xs 2) hl) cw ⟨xA_blind, hPre⟩ rfl rfl hvv.1 rfl (lv_room (show (0 : Nat) ≤ 8 by decide)) xC_d908 ⟨by show sg2.1 - 0 + 1 ≤ 600002; omega, by show sg2.2.2 - 0 + 6 ≤ 7302232; omega⟩) hS ?_
  intro H1 locs1 hP1 hS1
  refine lw_rb (fun q hq => hS1.2.2 q hq) (by omega) (by omega) (fun s' hv hh => ?_)
  have hW : s.WarmedH s'.vm := by rw [hv]; exact State.WarmedH.refl s
  have hkp : ∀ q : Nat, q < s.heap.size → ¬ iv_A s.heap.size q → s'.heap[q]? = s.heap[q]? := fun q h1 h2 => by rw [hh]; exact hS1.2.1 q h1 h2
  have C' : iv_C0 ad cy D s.heap.size 6 xs p s' m #[Value.ref b] meth c (iv_c iv_n) (iv_m iv_n).2.2.1 (iv_m iv_n).2.1 (iv_y iv_n).name := ⟨hx, hb, hml, by rw [hv]; exact hown, fun w hw9 => word_at hW (good_of_word (iv_G_good w hw9)) (hts w hw9), iv_K_to hK hW (by rw [hh]; exact hS1.1) hkp, hnm⟩
  obtain ⟨σ', hR, q1, q2⟩ := sD2 sK2_911 xs
  have N := lw_finN (l := l) (e := e) (below := below) C' hr hlocks hR q1 q2
  have N2 := N H1 [] ls hvv hP1 (by rw [hh]; exact va_S.rf)
  exact W.cs (Nat.sub_self _).symm (Nat.sub_self _).symm N2
theorem lw_thr {p : Program} {l : Launch} {e : Env} {s : State} {m : MethodId} {below : List Frame} {meth : Method} {c : Code} {ad cy : Nat → Nat} {D : va_G} {b t : Nat} {xs : Nat → Int32} (hl : l.stackTraces = false) (C : lwC ad cy D 6 xs p s m b meth c) (hr : meth.sig.returnType = ret) (hlocks : meth.locks = false) (ht : t = 328 ∨ t = 894) (hts : ∀ w ∈ lw_tbl, w.before #[Value.ref b] s = true) (hgv : (Jvm.Cond.and given_1 narrow_1).before #[Value.ref b] s = true) : lwN ad cy D p l e s m b below meth c t sgl [] sg2 := by
  have hw := xw_start hts hgv
  rcases ht with rfl | rfl
  · obtain ⟨n, h⟩ := xC_to342 (xs := xs)
    exact lw_upto C h sgP_eq.2.1 sgP_eq.2.2 (xC_brother hl C hr hlocks hw)
  · obtain ⟨n, h⟩ := xC_to908 (xs := xs)
    exact lw_upto C h sgP_eq.2.1 sgP_eq.2.2 (xC_time hl C hr hlocks hw)
end XC9
