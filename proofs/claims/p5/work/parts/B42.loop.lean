/-! ===== the law's loop on the machine ===== -/
theorem P_bk {ad cy : Nat → Nat} {D : va_G} {σ : iv_H} {a : Nat} {f : Nat → Int32} {H : Heap} (hg : iv_get σ a = some (.inl (0, 40, .inl f))) (hz : ∀ i, i < 40 → f i = 0) (hP : va_P D vwCl (iv_W ad cy σ) H) : va_P D vwCl (iv_W ad cy (iv_put σ a bkE)) H := by
  obtain ⟨k0, rfl, hk0, he⟩ := iv_get_ok hg
  rw [iv_put_eq]
  intro k q hq
  obtain ⟨hk, rfl⟩ := iv_W_of hq
  have hk : k < σ.1 := hk
  have h0 := hP k _ (iv_W_at hk)
  show va_at D vwCl (ad (2 * k), iv_e ad cy (iv_up σ.2.1 k0 bkE k)) H
  by_cases e : k = k0
  · subst e
    rw [iv_up_s]
    rw [he] at h0
    have h1 : H[ad (2 * k)]? = some (arrV (cy 0) 40 (fun j => .int (f j))) := h0
    show H[ad (2 * k)]? = some (arrV (cy 0) 40 (fun _ => .int 0))
    rw [h1]
    unfold arrV
    have e9 : (fun j : Fin 40 => Value.int (f j.val)) = fun _ => Value.int 0 := funext fun j => by rw [hz j.val j.isLt]
    rw [e9]
  · rw [iv_up_n e]
    exact h0
theorem P_sg3 {ad cy : Nat → Nat} {D : va_G} {H : Heap} (hP : va_P D vwCl (iv_W ad cy sg2) H) : va_P D vwCl (iv_W ad cy sg3) H := by
  obtain ⟨f1, a1, z1⟩ := sg2_b 376 (.inl rfl)
  obtain ⟨f2, a2, z2⟩ := sg2_b 378 (.inr (.inl rfl))
  obtain ⟨f3, a3, z3⟩ := sg2_b 380 (.inr (.inr (.inl rfl)))
  obtain ⟨f4, a4, z4⟩ := sg2_b 382 (.inr (.inr (.inr rfl)))
  unfold sg3
  have b2 := iv_gp_n (y := bkE) a1 a2 (by decide)
  have b3 := iv_gp_n (y := bkE) a1 a3 (by decide)
  have b4 := iv_gp_n (y := bkE) a1 a4 (by decide)
  have c3 := iv_gp_n (y := bkE) b2 b3 (by decide)
  have c4 := iv_gp_n (y := bkE) b2 b4 (by decide)
  have d4 := iv_gp_n (y := bkE) c3 c4 (by decide)
  exact P_bk d4 z4 (P_bk c3 z3 (P_bk b2 z2 (P_bk a1 z1 hP)))
section LOOP
variable {p : Program} {l : Launch} {e : Env} {m : MethodId} {below : List Frame} {meth : Method} {c : Code} {ad cy : Nat → Nat} {D : va_G} {base L b : Nat} {xs : Nat → Int32}
abbrev lC (ad cy : Nat → Nat) (D : va_G) (base L : Nat) (xs : Nat → Int32) (p : Program) (s : State) (m : MethodId) (b : Nat) (meth : Method) (c : Code) : Prop := iv_C0 ad cy D base L xs p s m #[Value.ref b] meth c (iv_c iv_n) (iv_m iv_n).2.2.1 (iv_m iv_n).2.1 (iv_y iv_n).name
def lR (k : Nat) : Room := { frames := 2048, cells := k, slots := 6 * k, locals := 84000 }
def lQ (k : Nat) (below : List Frame) (base : Nat) (s : State) : State → Prop := fun t => ∃ o, t.status = .running ∧ Ended t below o ∧ o = .returned (some (.int 1)) ∧ s.WarmedH t.vm ∧ ∃ locs : List Loc, (∀ q ∈ locs, base ≤ q.base) ∧ s.sameButNew ({ t with vm := s.vm } : State) locs k (6 * k)
theorem l_ret {k : Nat} {R : Room} {s : State} {args : Array Value} {locs : List Loc} (hf : ∀ q ∈ locs, base ≤ q.base) (hx : p.tables.exec = Jvm.exec) (hb : c.code = code) (hr : meth.sig.returnType = ret) (hlocks : meth.locks = false) {pc : Nat} {H : Heap} {ls : Array Slot} (hdg : decode code pc = .ok (.ireturn, 1)) : W p l e R s m args below meth c H locs 0 0 (lQ k below base s) (F0 m pc ls [.int 1]) := by
  intro T hT X
  obtain ⟨fs, hret, hrun, hended, hW, hframe⟩ := X.leave (v := some (.int 1)) (hlocks := hlocks) (fun h => by rw [hr] at h; cases h)
  have hmeth' : T.vm.method? m = some meth := X.method'
  refine ⟨T.setFrames fs, ?_, .returned (some (.int 1)), hrun, hended, rfl, hW, locs, hf, hframe.mono (Nat.zero_le _) (Nat.zero_le _)⟩
  jvm_step X.here [X.here.top, hx, hb, hdg, hmeth', hr, ret, narrow_b1]
  (try refine ⟨rfl, ?_⟩); (try refine ⟨rfl, ?_⟩)
  first | (intro acts; rw [hret _ acts rfl rfl rfl]) | rw [hret _ _ rfl rfl rfl]
  exact Steps.refl _
/-- the account begun anew -/
theorem l_rb {k k1 : Nat} {s : State} {args : Array Value} {H : Heap} {locs : List Loc} {cells slots : Nat} {g : JFrame} (hf : ∀ q ∈ locs, base ≤ q.base) (hc : cells + k1 ≤ k) (hs : slots + 6 * k1 ≤ 6 * k)
    (kk : ∀ s' : State, s'.vm = s.vm → s'.heap = H → W p l e (lR k1) s' m args below meth c H [] 0 0 (lQ k1 below base s') g) : W p l e (lR k) s m args below meth c H locs cells slots (lQ k below base s) g := by
  intro T hT X
  have Y := vx_rebase X (R' := lR k1) (Nat.le_refl _) (Nat.le_refl _) hc hs
  obtain ⟨t, a1, o, b1, b2, b3, b4, locs2, hf2, b5⟩ := kk ((T.setVm s.vm).setFrames (.invoking m args :: below)) rfl hT T hT Y
  subst b3
  obtain ⟨e1, e2⟩ := b5
  rw [State.setFrames_setFrames] at e1
  have h2 : (T.setVm s.vm).sameButNew ({ t with vm := s.vm } : State) locs2 k1 (6 * k1) := ⟨e1, e2⟩
  have h3 := X.same.trans h2
  refine ⟨t, a1, _, b1, b2, rfl, State.WarmedH.trans (State.WarmedH.refl s) b4, locs ++ locs2, fun q hq => ?_, h3.mono hc hs⟩
  rcases List.mem_append.mp hq with h | h
  · exact hf q h
  · exact hf2 q h
theorem l_rb1 {s : State} {args : Array Value} {H : Heap} {locs : List Loc} {cells slots : Nat} {g : JFrame} (hf : ∀ q ∈ locs, s.heap.size ≤ q.base) (hc : cells ≤ 1000) (hs : slots ≤ 200000)
    (kk : ∀ s' : State, s'.vm = s.vm → s'.heap = H → W p l e (lR 512) s' m args below meth c H [] 0 0 (lQ 512 below s.heap.size s') g) : W p l e room_1 s m args below meth c H locs cells slots (lw_Z below args s) g := by
  intro T hT X
  have Y := vx_rebase X (R' := lR 512) (Nat.le_refl _) (Nat.le_refl _) (by show cells + 512 ≤ 601024; omega) (by show slots + 6 * 512 ≤ 7293034; omega)
  obtain ⟨t, a1, o, b1, b2, b3, b4, locs2, hf2, b5⟩ := kk ((T.setVm s.vm).setFrames (.invoking m args :: below)) rfl hT T hT Y
  subst b3
  refine ⟨t, a1, _, b1, b2, rfl, ⟨_, rfl⟩, State.WarmedH.trans (State.WarmedH.refl s) b4, ?_⟩
  obtain ⟨e1, e2⟩ := b5
  rw [State.setFrames_setFrames] at e1
  have h2 : (T.setVm s.vm).sameButNew ({ t with vm := s.vm } : State) locs2 512 (6 * 512) := ⟨e1, e2⟩
  have h3 := X.same.trans h2
  exact h3.weaken (fun y hy hlt => absurd hlt (Nat.not_lt.mpr (by
    rcases List.mem_append.mp hy with h | h
    · exact hf y h
    · exact hf2 y h))) (by show cells + 512 ≤ 601024; omega) (by show slots + 6 * 512 ≤ 7293034; omega)
theorem l_C {s s' : State} {H : Heap} {locs : List Loc} (C : lC ad cy D base L xs p s m b meth c) (hS : va_S (iv_A base) s.heap H locs) (hv : s'.vm = s.vm) (hh : s'.heap = H) : lC ad cy D base L xs p s' m b meth c := by
  obtain ⟨hx, hb, hml, hown, hts, hK, hnm⟩ := C
  have hW : s.WarmedH s'.vm := by rw [hv]; exact State.WarmedH.refl s
  exact ⟨hx, hb, hml, by rw [hv]; exact hown, fun w hw9 => word_at hW (good_of_word (iv_G_good w hw9)) (hts w hw9), iv_K_to hK hW (by rw [hh]; exact hS.1) (fun q h1 h2 => by rw [hh]; exact hS.2.1 q h1 h2), hnm⟩
theorem l_xw {s s' : State} {H : Heap} {locs : List Loc} (hw : xw base s) (hS : va_S (iv_A base) s.heap H locs) (hv : s'.vm = s.vm) (hh : s'.heap = H) : xw base s' := xw_to hw (by rw [hv]; exact State.WarmedH.refl s) (fun q h1 h2 => by rw [hh]; exact hS.2.1 q h1 h2)
abbrev lNx (ad cy : Nat → Nat) (D : va_G) (base : Nat) (p : Program) (l : Launch) (e : Env) (k : Nat) (s : State) (m : MethodId) (b : Nat) (below : List Frame) (meth : Method) (c : Code) (pc : Nat) (lv : iv_L) (st : List Value) (σ : iv_H) : Prop := iv_Nx ad cy D base σ.1 σ.2.2 (iv_m iv_n).2.2.1 p l e (lR k) s m #[Value.ref b] below meth c (lQ k below base s) pc lv st σ
theorem l_part {k : Nat} {s : State} (C : lC ad cy D base L xs p s m b meth c) {stop F n pc : Nat} {lv lv' : iv_L} {st st' : List Value} {σ σ' : iv_H} (h : iv_part L xs stop F n 600 iv_n pc lv st σ = some (lv', st', σ')) (h1 : σ'.1 = σ.1) (kk : lNx ad cy D base p l e k s m b below meth c stop lv' st' σ') : lNx ad cy D base p l e k s m b below meth c pc lv st σ := by
  have h2 := (iv_part_q L xs stop F n 600 iv_n pc lv st σ lv' st' σ' (Nat.le_refl _) h).2 h1
  unfold lNx at kk ⊢
  rw [h1, h2] at kk
  exact (iv_part_okN (l := l) (e := e) (R := lR k) (below := below) (Q := lQ k below base s) (c0 := σ.1) (n0 := σ.2.2) stop F n 600 iv_n pc lv st σ lv' st' σ' (Nat.le_refl _) h).2 C h1 h2 (show 600 + 8 ≤ 2048 by decide) (show 60 * (600 + 8) ≤ 84000 by decide) (by rw [Nat.sub_self]; exact Nat.zero_le _) (by rw [Nat.sub_self]; exact Nat.zero_le _) kk
theorem l_fin {k : Nat} {s : State} (C : lC ad cy D base L xs p s m b meth c) (hr : meth.sig.returnType = ret) (hlocks : meth.locks = false) {pc : Nat} {lv : iv_L} {st : List Value} {σ : iv_H} (hR : iv_Rn L xs 600 iv_n pc lv st σ (some (.int 1)) σ) : lNx ad cy D base p l e k s m b below meth c pc lv st σ := by
  obtain ⟨n, hn⟩ := hR
  refine (iv_soundN l ad cy D base L xs n 600 iv_n pc lv st σ _ σ (Nat.le_refl _) hn).2 rfl rfl C (show 600 + 8 ≤ 2048 by decide) (show 60 * (600 + 8) ≤ 84000 by decide) (by rw [Nat.sub_self]; exact Nat.zero_le _) (by rw [Nat.sub_self]; exact Nat.zero_le _) ?_
  intro pc2 k2 len st2 lv2 i hd hln hop hrt H locs ls hvv hP2 hS2
  have hx := C.1
  have hb : c.code = code := C.2.1
  refine W.cs (Nat.sub_self _) (Nat.sub_self _) ?_
  rcases iv_ret_of hop with ⟨rfl, h2, rfl⟩ | ⟨rfl, h2, rfl⟩ | ⟨rfl, h2, rfl⟩ | ⟨rfl, h2, rfl⟩ | ⟨rfl, ⟨C9, h2⟩, rfl⟩
  · rcases st2 with _ | ⟨v, st2⟩ <;> cases hrt
  · cases h2
  · obtain rfl := iv_lenE (n := 0) hln rfl
    rcases st2 with _ | ⟨v, _ | ⟨w, st2⟩⟩
    · cases hrt
    · cases v with
      | int v =>
        have hrt : (bif decide (v = 0) || decide (v = 1) then some (some (Value.int v), σ) else none) = some (some (.int 1), σ) := hrt
        cases hb9 : (decide (v = 0) || decide (v = 1)) <;> rw [hb9] at hrt
        · cases hrt
        · have e1 : some (Value.int v) = some (.int 1) := (Prod.mk.inj (Option.some.inj hrt)).1
          cases e1
          exact l_ret (fun q hq => hS2.2.2 q hq) hx hb hr hlocks hd
      | _ => cases hrt
    · cases v <;> cases hrt
  · cases h2
  · cases h2
theorem lw_d26 : decode code 26 = .ok (.arraylength, 1) := by
  have h := List.all_eq_true.mp iv_cok_law _ (iv_f1_in _ _ _ (show iv_f1 (iv_m iv_n).2.2.2.2 26 = some (.arraylength, 1) from rfl))
  rw [Bool.and_eq_true] at h
  exact of_decide_eq_true h.1
/-- what is to be shown for k calls more -/
def lP (ad cy : Nat → Nat) (D : va_G) (base L : Nat) (xs : Nat → Int32) (p : Program) (l : Launch) (e : Env) (m : MethodId) (b : Nat) (below : List Frame) (meth : Method) (c : Code) (k : Nat) : Prop := ∀ s : State, lC ad cy D base L xs p s m b meth c → xw base s → ∀ (i : Nat) (lv : iv_L) (σ : iv_H) (x : Int32), lvI i lv → Inv5 x x σ → i ≤ 3078 → L < i + 6 * k + 6 → lNx ad cy D base p l e k s m b below meth c 23 lv [] σ
/-- behind a case -/
theorem l_tail {k : Nat} (ih : lP ad cy D base L xs p l e m b below meth c k) {s : State} (C : lC ad cy D base L xs p s m b meth c) (hw : xw base s) {i : Nat} {lv : iv_L} {σ : iv_H} {x : Int32} (hl : lvI i lv) (hI : Inv5 x x σ) (hi : i + 6 ≤ L) (hL : L ≤ 3072) (hk : L < i + 6 * (k + 1) + 6) : lNx ad cy D base p l e k s m b below meth c 1267 lv [] σ := by
  obtain ⟨n, lv', hn, hl'⟩ := l_next (L := L) (xs := xs) (F := 0) (d := 600) (σ := σ) hl
  exact l_part C hn rfl (ih s C hw (i + 6) lv' σ x hl' hI (by omega) (by omega))
/-- a case without a throw -/
theorem l_case {k : Nat} (ih : lP ad cy D base L xs p l e m b below meth c k) {s : State} (C : lC ad cy D base L xs p s m b meth c) (hw : xw base s) {i t : Nat} {lv : iv_L} {σ : iv_H} (hl : lvI i lv) (hI1 : σ.1 = 297) (hi : i + 6 ≤ L) (hL : L ≤ 3072) (hk : L < i + 6 * (k + 1) + 6) (hs : iv_oTs 1227 0 36 #[164, 237, 262, 275, 288, 328, 365, 390, 439, 476, 501, 538, 563, 588, 601, 650, 687, 712, 725, 750, 763, 776, 801, 826, 866, 903, 928, 953, 978, 1015, 1064, 1089, 1114, 1127, 1152, 1177, 1202] L xs 40 lv [.int (xs i &&& 63)] σ = some (t, lv, [], σ)) (h : ∃ (x' : Int32) (σ' : iv_H), iv_Pn L xs 1267 600 285 t lv [] σ lv [] σ' ∧ Inv5 x' x' σ') : lNx ad cy D base p l e (k + 1) s m b below meth c 27 lv [.int (Int32.ofNat L), .int (Int32.ofNat i)] σ := by
  obtain ⟨x', σ', ⟨F, hn⟩, hI'⟩ := h
  obtain ⟨n, hn⟩ := l_steps (fun j hj => p_ne (by rw [Nat.blt_eq]; omega)) hl hi hL hs hn
  intro H locs ls hvv hP hS
  refine W.cs (Nat.sub_self _) (Nat.sub_self _) ?_
  refine l_rb (k1 := k) (fun q hq => hS.2.2 q hq) (by omega) (by omega) (fun s' hv hh => ?_)
  have C' := l_C C hS hv hh
  have N := l_part (l := l) (e := e) (below := below) (k := k) C' hn (hI'.2.2.2.1.trans hI1.symm) (l_tail ih C' (l_xw hw hS hv hh) hl hI' hi hL hk)
  have N2 := N H [] ls hvv hP (by rw [hh]; exact va_S.rf)
  exact W.cs (Nat.sub_self _).symm (Nat.sub_self _).symm N2
theorem xL_brother : Cond.methodLink RL 41 yL_brother ∈ iv_G ∧ Cond.static yL_brother ∈ iv_G ∧ Cond.initialized RL ∈ iv_G ∧ Cond.codeWith yL_brother cL_brother 5 (some .int) [(0, 10, 13, 13)] ∈ iv_G := by decide +kernel
set_option maxRecDepth 100000 in
theorem xd_brother : decode code 342 = .ok (.invokestatic 41, 3) := by
  have h := List.all_eq_true.mp iv_cok_law _ (iv_f1_in _ _ _ (show iv_f1 (iv_m iv_n).2.2.2.2 342 = some (.invokestatic 41, 3) from rfl))
  rw [Bool.and_eq_true] at h
  exact of_decide_eq_true h.1
set_option maxHeartbeats 1000000 in
theorem l_brother (hl : l.stackTraces = false) {k : Nat} (ih : lP ad cy D base L xs p l e m b below meth c k) {s : State} (C : lC ad cy D base L xs p s m b meth c) (hw : xw base s) {i : Nat} {lv : iv_L} {σ : iv_H} {x : Int32} (hv5 : lvI i lv) (hI : Inv5 x x σ) (hi : i + 6 ≤ L) (hL : L ≤ 3072) (hk : L < i + 6 * (k + 1) + 6) : lNx ad cy D base p l e (k + 1) s m b below meth c 342 lv [.ref 592, .int (xs (i + 2)), .int (xs (i + 1)), .ref 0] σ := by
  have C0 := C
  obtain ⟨hx, hb, hml, hown, hts, hK, hnm⟩ := C
  obtain ⟨fs0, hg0, _⟩ := z_G hI.1.1
  have hG : GoodIn iv_G (va_wsS RL 41 yL_brother (Cond.codeWith yL_brother cL_brother 5 (some .int) [(0, 10, 13, 13)] :: iv_G)) := iv_goodIn fun w hw9 => by
    unfold va_wsS at hw9
    simp only [List.mem_append, List.mem_cons, List.not_mem_nil, or_false] at hw9
    rcases hw9 with (rfl | rfl | rfl) | rfl | h9
    · exact xL_brother.1
    · exact xL_brother.2.1
    · exact xL_brother.2.2.1
    · exact xL_brother.2.2.2
    · exact h9
  -- behind the call: to the end of the case
  have aft : ∀ (σ2 : iv_H) (r2 : Int32) (H1 : Heap) (locs1 : List Loc) (ls : Array Slot) (cells slots : Nat), Inv5 x x σ2 → cells + k ≤ k + 1 → slots + 6 * k ≤ 6 * (k + 1) → lv_has ls 7 (iv_ml ad lv) → va_P D vwCl (iv_W ad cy σ2) H1 → va_S (iv_A base) s.heap H1 locs1 → W p l e (lR (k + 1)) s m #[Value.ref b] below meth c H1 locs1 cells slots (lQ (k + 1) below base s) (F0 m 345 ls [.int r2]) := by
    intro σ2 r2 H1 locs1 ls cells slots hI2 hc hs hvv hP1 hS1
    refine l_rb (fun q hq => hS1.2.2 q hq) hc hs (fun s' hv hh => ?_)
    have C' := l_C C0 hS1 hv hh
    obtain ⟨lv', σ3, ⟨F, n, hn⟩, hl', hI3⟩ := k_brother2 (L := L) (xs := xs) (k := r2) hv5 (show i + 5 < L by omega) hL hI2
    have N := l_part (l := l) (e := e) (below := below) (k := k) C' hn (hI3.2.2.2.1.trans hI2.2.2.2.1.symm) (l_tail ih C' (l_xw hw hS1 hv hh) hl' hI3 hi hL hk)
    have N2 := N H1 [] ls hvv hP1 (by rw [hh]; exact va_S.rf)
    exact W.cs (Nat.sub_self _).symm (Nat.sub_self _).symm N2
  intro H locs ls hvv hP hS
  refine W.cs (Nat.sub_self _) (Nat.sub_self _) ?_
  rcases bt_119 (L := L) (xs := xs) (d := 19) (b := xs (i + 1)) (w := xs (i + 2)) (by decide) hI with hpt | ⟨v, σ1, hR, hI1⟩
  · have hPre : ∀ U : State, U.heap = H → s.WarmedH U.vm → xA_P ad cy D base L xs [.ref 0, .int (xs (i + 1)), .int (xs (i + 2)), .ref 592] σ (iv_sm ad [.ref 0, .int (xs (i + 1)), .int (xs (i + 2)), .ref 592]).toArray U := fun U hU hW => ⟨⟨rfl, iv_K_to hK hW (by rw [hU]; exact hS.1) (fun q h1 h2 => by rw [hU]; exact hS.2.1 q h1 h2), by rw [hU]; exact hP⟩, xw_to hw hW (fun q h1 h2 => by rw [hU]; exact hS.2.1 q h1 h2)⟩
    have cw : vx_CSW (lR (k + 1)) s #[Value.ref b] RL 41 yL_brother cL_brother 5 (some .int) [(0, 10, 13, 13)] (Cond.codeWith yL_brother cL_brother 5 (some .int) [(0, 10, 13, 13)] :: iv_G) (iv_rm 22 1 6) 1 6 4 := vx_cwSW 4 hts hG rfl rfl rfl ⟨by decide, by decide, by decide +kernel⟩ ⟨show 22 + 8 + 1 ≤ 2048 by decide, show 8 + (5 + 11) + 60 * (22 + 8) ≤ 84000 by decide⟩
    refine iv_callW (r := some (.int 1)) (σ1 := σ) (vx_runSW (rest := []) (As := iv_sm ad [.ref 0, .int (xs (i + 1)), .int (xs (i + 2)), .ref 592]) ⟨hx, hb, hml, hown, hts⟩ (xB_brother (ad := ad) (cy := cy) (D := D) (base := base) (L := L) (xs := xs) (x := xs (i + 1)) (y := xs (i + 2)) hl hg0 hpt) cw ⟨xA_blind, hPre⟩ rfl rfl hvv.1 rfl (lv_room (show (0 : Nat) ≤ 8 by decide)) xd_brother ⟨by show 0 + 1 ≤ k + 1; omega, by show 0 + 6 ≤ 6 * (k + 1); omega⟩) hS ?_
    intro H1 locs1 hP1 hS1
    exact aft σ 1 H1 locs1 ls (0 + 1) (0 + 6) hI (by omega) (by omega) hvv hP1 hS1
  · obtain ⟨⟨f, ho⟩, _⟩ := hI1.2.2.2.2.2.1
    have hq1 : σ1.1 = σ.1 := hI1.2.2.2.1.trans hI.2.2.2.1.symm
    have hR9 := hR
    obtain ⟨n9, hn9⟩ := hR9
    have hq2 := (iv_run_q L xs n9 20 119 0 _ [] σ _ σ1 (by decide) hn9).2 hq1
    have hPre : ∀ U : State, U.heap = H → s.WarmedH U.vm → iv_PcN ad cy D base L xs [.ref 0, .int (xs (i + 1)), .int (xs (i + 2)), .ref 592] σ (iv_sm ad [.ref 0, .int (xs (i + 1)), .int (xs (i + 2)), .ref 592]).toArray U := fun U hU hW => ⟨rfl, iv_K_to hK hW (by rw [hU]; exact hS.1) (fun q h1 h2 => by rw [hU]; exact hS.2.1 q h1 h2), by rw [hU]; exact hP⟩
    have cw : vx_CSW (lR (k + 1)) s #[Value.ref b] RL 41 yL_brother cL_brother 5 (some .int) [(0, 10, 13, 13)] (Cond.codeWith yL_brother cL_brother 5 (some .int) [(0, 10, 13, 13)] :: iv_G) (iv_rm 22 0 0) 0 0 4 := vx_cwSW 4 hts hG rfl rfl rfl ⟨by decide, by decide, by decide +kernel⟩ ⟨show 22 + 8 + 1 ≤ 2048 by decide, show 8 + (5 + 11) + 60 * (22 + 8) ≤ 84000 by decide⟩
    refine iv_callW (r := some (.int 0)) (σ1 := iv_put σ1 592 (.inl (1, 1, .inr (.inl (vp_updL f 0 v.toInt64))))) (vx_runSW (rest := []) (As := iv_sm ad [.ref 0, .int (xs (i + 1)), .int (xs (i + 2)), .ref 592]) ⟨hx, hb, hml, hown, hts⟩ (xN_brother (l := l) (ad := ad) (cy := cy) (D := D) (base := base) (L := L) (xs := xs) (x := xs (i + 1)) (y := xs (i + 2)) hg0 hR hq1 hq2 ho) cw ⟨iv_blindN, hPre⟩ rfl rfl hvv.1 rfl (lv_room (show (0 : Nat) ≤ 8 by decide)) xd_brother ⟨Nat.zero_le _, Nat.zero_le _⟩) hS ?_
    intro H1 locs1 hP1 hS1
    exact aft _ 0 H1 locs1 ls (0 + 0) (0 + 0) (inv_out5 hI1 ho) (by omega) (by omega) hvv hP1 hS1
theorem xL_time : Cond.methodLink RL 121 yL_time ∈ iv_G ∧ Cond.static yL_time ∈ iv_G ∧ Cond.initialized RL ∈ iv_G ∧ Cond.codeWith yL_time cL_time 5 (some .int) [(0, 10, 13, 13)] ∈ iv_G := by decide +kernel
set_option maxRecDepth 100000 in
theorem xd_time : decode code 880 = .ok (.invokestatic 121, 3) := by
  have h := List.all_eq_true.mp iv_cok_law _ (iv_f1_in _ _ _ (show iv_f1 (iv_m iv_n).2.2.2.2 880 = some (.invokestatic 121, 3) from rfl))
  rw [Bool.and_eq_true] at h
  exact of_decide_eq_true h.1
set_option maxHeartbeats 1000000 in
theorem l_time (hl : l.stackTraces = false) {k : Nat} (ih : lP ad cy D base L xs p l e m b below meth c k) {s : State} (C : lC ad cy D base L xs p s m b meth c) (hw : xw base s) {i : Nat} {lv : iv_L} {σ : iv_H} {x : Int32} (hv5 : lvI i lv) (hI : Inv5 x x σ) (hi : i + 6 ≤ L) (hL : L ≤ 3072) (hk : L < i + 6 * (k + 1) + 6) : lNx ad cy D base p l e (k + 1) s m b below meth c 880 lv [.ref 592, .int (xs (i + 2)), .int (xs (i + 1)), .ref 0] σ := by
  have C0 := C
  obtain ⟨hx, hb, hml, hown, hts, hK, hnm⟩ := C
  obtain ⟨fs0, hg0, _⟩ := z_G hI.1.1
  have hG : GoodIn iv_G (va_wsS RL 121 yL_time (Cond.codeWith yL_time cL_time 5 (some .int) [(0, 10, 13, 13)] :: iv_G)) := iv_goodIn fun w hw9 => by
    unfold va_wsS at hw9
    simp only [List.mem_append, List.mem_cons, List.not_mem_nil, or_false] at hw9
    rcases hw9 with (rfl | rfl | rfl) | rfl | h9
    · exact xL_time.1
    · exact xL_time.2.1
    · exact xL_time.2.2.1
    · exact xL_time.2.2.2
    · exact h9
  -- behind the call: to the end of the case
  have aft : ∀ (σ2 : iv_H) (r2 : Int32) (H1 : Heap) (locs1 : List Loc) (ls : Array Slot) (cells slots : Nat), Inv5 x x σ2 → cells + k ≤ k + 1 → slots + 6 * k ≤ 6 * (k + 1) → lv_has ls 7 (iv_ml ad lv) → va_P D vwCl (iv_W ad cy σ2) H1 → va_S (iv_A base) s.heap H1 locs1 → W p l e (lR (k + 1)) s m #[Value.ref b] below meth c H1 locs1 cells slots (lQ (k + 1) below base s) (F0 m 883 ls [.int r2]) := by
    intro σ2 r2 H1 locs1 ls cells slots hI2 hc hs hvv hP1 hS1
    refine l_rb (fun q hq => hS1.2.2 q hq) hc hs (fun s' hv hh => ?_)
    have C' := l_C C0 hS1 hv hh
    obtain ⟨lv', σ3, ⟨F, n, hn⟩, hl', hI3⟩ := k_time2 (L := L) (xs := xs) (k := r2) hv5 (show i + 5 < L by omega) hL hI2
    have N := l_part (l := l) (e := e) (below := below) (k := k) C' hn (hI3.2.2.2.1.trans hI2.2.2.2.1.symm) (l_tail ih C' (l_xw hw hS1 hv hh) hl' hI3 hi hL hk)
    have N2 := N H1 [] ls hvv hP1 (by rw [hh]; exact va_S.rf)
    exact W.cs (Nat.sub_self _).symm (Nat.sub_self _).symm N2
  intro H locs ls hvv hP hS
  refine W.cs (Nat.sub_self _) (Nat.sub_self _) ?_
  rcases bt_140 (L := L) (xs := xs) (d := 19) (b := xs (i + 1)) (w := xs (i + 2)) (by decide) hI with hpt | ⟨v, σ1, hR, hI1⟩
  · have hPre : ∀ U : State, U.heap = H → s.WarmedH U.vm → xA_P ad cy D base L xs [.ref 0, .int (xs (i + 1)), .int (xs (i + 2)), .ref 592] σ (iv_sm ad [.ref 0, .int (xs (i + 1)), .int (xs (i + 2)), .ref 592]).toArray U := fun U hU hW => ⟨⟨rfl, iv_K_to hK hW (by rw [hU]; exact hS.1) (fun q h1 h2 => by rw [hU]; exact hS.2.1 q h1 h2), by rw [hU]; exact hP⟩, xw_to hw hW (fun q h1 h2 => by rw [hU]; exact hS.2.1 q h1 h2)⟩
    have cw : vx_CSW (lR (k + 1)) s #[Value.ref b] RL 121 yL_time cL_time 5 (some .int) [(0, 10, 13, 13)] (Cond.codeWith yL_time cL_time 5 (some .int) [(0, 10, 13, 13)] :: iv_G) (iv_rm 22 1 6) 1 6 4 := vx_cwSW 4 hts hG rfl rfl rfl ⟨by decide, by decide, by decide +kernel⟩ ⟨show 22 + 8 + 1 ≤ 2048 by decide, show 8 + (5 + 11) + 60 * (22 + 8) ≤ 84000 by decide⟩
    refine iv_callW (r := some (.int 1)) (σ1 := σ) (vx_runSW (rest := []) (As := iv_sm ad [.ref 0, .int (xs (i + 1)), .int (xs (i + 2)), .ref 592]) ⟨hx, hb, hml, hown, hts⟩ (xB_time (ad := ad) (cy := cy) (D := D) (base := base) (L := L) (xs := xs) (x := xs (i + 1)) (y := xs (i + 2)) hl hg0 hpt) cw ⟨xA_blind, hPre⟩ rfl rfl hvv.1 rfl (lv_room (show (0 : Nat) ≤ 8 by decide)) xd_time ⟨by show 0 + 1 ≤ k + 1; omega, by show 0 + 6 ≤ 6 * (k + 1); omega⟩) hS ?_
    intro H1 locs1 hP1 hS1
    exact aft σ 1 H1 locs1 ls (0 + 1) (0 + 6) hI (by omega) (by omega) hvv hP1 hS1
  · obtain ⟨⟨f, ho⟩, _⟩ := hI1.2.2.2.2.2.1
    have hq1 : σ1.1 = σ.1 := hI1.2.2.2.1.trans hI.2.2.2.1.symm
    have hR9 := hR
    obtain ⟨n9, hn9⟩ := hR9
    have hq2 := (iv_run_q L xs n9 20 140 0 _ [] σ _ σ1 (by decide) hn9).2 hq1
    have hPre : ∀ U : State, U.heap = H → s.WarmedH U.vm → iv_PcN ad cy D base L xs [.ref 0, .int (xs (i + 1)), .int (xs (i + 2)), .ref 592] σ (iv_sm ad [.ref 0, .int (xs (i + 1)), .int (xs (i + 2)), .ref 592]).toArray U := fun U hU hW => ⟨rfl, iv_K_to hK hW (by rw [hU]; exact hS.1) (fun q h1 h2 => by rw [hU]; exact hS.2.1 q h1 h2), by rw [hU]; exact hP⟩
    have cw : vx_CSW (lR (k + 1)) s #[Value.ref b] RL 121 yL_time cL_time 5 (some .int) [(0, 10, 13, 13)] (Cond.codeWith yL_time cL_time 5 (some .int) [(0, 10, 13, 13)] :: iv_G) (iv_rm 22 0 0) 0 0 4 := vx_cwSW 4 hts hG rfl rfl rfl ⟨by decide, by decide, by decide +kernel⟩ ⟨show 22 + 8 + 1 ≤ 2048 by decide, show 8 + (5 + 11) + 60 * (22 + 8) ≤ 84000 by decide⟩
    refine iv_callW (r := some (.int 0)) (σ1 := iv_put σ1 592 (.inl (1, 1, .inr (.inl (vp_updL f 0 v.toInt64))))) (vx_runSW (rest := []) (As := iv_sm ad [.ref 0, .int (xs (i + 1)), .int (xs (i + 2)), .ref 592]) ⟨hx, hb, hml, hown, hts⟩ (xN_time (l := l) (ad := ad) (cy := cy) (D := D) (base := base) (L := L) (xs := xs) (x := xs (i + 1)) (y := xs (i + 2)) hg0 hR hq1 hq2 ho) cw ⟨iv_blindN, hPre⟩ rfl rfl hvv.1 rfl (lv_room (show (0 : Nat) ≤ 8 by decide)) xd_time ⟨Nat.zero_le _, Nat.zero_le _⟩) hS ?_
    intro H1 locs1 hP1 hS1
    exact aft _ 0 H1 locs1 ls (0 + 0) (0 + 0) (inv_out5 hI1 ho) (by omega) (by omega) hvv hP1 hS1
set_option maxHeartbeats 1000000 in
theorem l_loop (hl : l.stackTraces = false) (hr : meth.sig.returnType = ret) (hlocks : meth.locks = false) (hL : L ≤ 3072) : ∀ k : Nat, lP ad cy D base L xs p l e m b below meth c k := by
  have base1 : ∀ (k : Nat) (s : State), lC ad cy D base L xs p s m b meth c → ∀ (i : Nat) (lv : iv_L) (σ : iv_H), lvI i lv → lNx ad cy D base p l e k s m b below meth c 27 lv [.int (Int32.ofNat L), .int (Int32.ofNat i)] σ → lNx ad cy D base p l e k s m b below meth c 23 lv [] σ := by
    intro k s C i lv σ hv N27
    have g : ∃ n, iv_part L xs 26 0 n 600 iv_n 23 lv [] σ = some (lv, [.ref 1, .int (Int32.ofNat i)], σ) := by
      refine Qs rfl fq_23 (o_Ix hv.2.2.2.2) ?_
      refine Qs rfl fq_25 (o_Ax hv.1) ?_
      exact Qe
    obtain ⟨n, hn⟩ := g
    refine l_part C hn rfl ?_
    intro H locs ls hvv hP hS
    obtain ⟨hx, hb, hml, hown, hts, hK, hnm⟩ := C
    obtain ⟨-, -, q1, q2, q3, q4⟩ := hK
    exact va_slen hx hb q1 (Nat.lt_of_lt_of_le q2 q3) (Nat.not_le.mpr q2) hS lw_d26 (N27 H locs ls hvv hP hS)
  intro k
  induction k with
  | zero =>
    intro s C hw i lv σ x hv hI hi hk
    exact base1 0 s C i lv σ hv (l_fin C hr hlocks (l_out (by omega) (by omega) hL))
  | succ k ih =>
    intro s C hw i lv σ x hv hI hi hk
    refine base1 (k + 1) s C i lv σ hv ?_
    by_cases h6 : i + 6 ≤ L
    · have h5 : i + 5 < L := by omega
      rcases l_which (L := L) (xs := xs) (lv := lv) (σ := σ) (xs i &&& 63) with h | ⟨j, hj, go⟩
      · exact l_case ih C hw hv hI.2.2.2.1 h6 hL hk h ⟨x, σ, p_end, hI⟩
      · rcases j with _ | _ | _ | _ | _ | _ | _ | _ | _ | _ | _ | _ | _ | _ | _ | _ | _ | _ | _ | _ | _ | _ | _ | _ | _ | _ | _ | _ | _ | _ | _ | _ | _ | _ | _ | _ | _ | j
        · exact l_case ih C hw hv hI.2.2.2.1 h6 hL hk (go (164) 204 rfl rfl) (k_feed hv h5 hL hI)
        · exact l_case ih C hw hv hI.2.2.2.1 h6 hL hk (go (237) 277 rfl rfl) (k_end hv h5 hL hI)
        · exact l_case ih C hw hv hI.2.2.2.1 h6 hL hk (go (262) 302 rfl rfl) (k_order hv h5 hL hI)
        · exact l_case ih C hw hv hI.2.2.2.1 h6 hL hk (go (275) 315 rfl rfl) (k_fault hv h5 hL hI)
        · obtain ⟨n, hn⟩ := l_steps (F := 0) (d := 600) (stop := 342) (fun j hj => by
            cases hq : Nat.beq j 342 with
            | false => rfl
            | true => have := Nat.eq_of_beq_eq_true hq; omega) hv h6 hL (go (288) 328 rfl rfl) (k_brother1 hv h5 hL)
          exact l_part C hn rfl (l_brother hl ih C hw hv hI h6 hL hk)
        · exact l_case ih C hw hv hI.2.2.2.1 h6 hL hk (go (328) 368 rfl rfl) (k_grater hv h5 hL hI)
        · exact l_case ih C hw hv hI.2.2.2.1 h6 hL hk (go (365) 405 rfl rfl) (k_now hv h5 hL hI)
        · exact l_case ih C hw hv hI.2.2.2.1 h6 hL hk (go (390) 430 rfl rfl) (k_grate hv h5 hL hI)
        · exact l_case ih C hw hv hI.2.2.2.1 h6 hL hk (go (439) 479 rfl rfl) (k_take hv h5 hL hI)
        · exact l_case ih C hw hv hI.2.2.2.1 h6 hL hk (go (476) 516 rfl rfl) (k_put hv h5 hL hI)
        · exact l_case ih C hw hv hI.2.2.2.1 h6 hL hk (go (501) 541 rfl rfl) (k_swap hv h5 hL hI)
        · exact l_case ih C hw hv hI.2.2.2.1 h6 hL hk (go (538) 578 rfl rfl) (k_file hv h5 hL hI)
        · exact l_case ih C hw hv hI.2.2.2.1 h6 hL hk (go (563) 603 rfl rfl) (k_days hv h5 hL hI)
        · exact l_case ih C hw hv hI.2.2.2.1 h6 hL hk (go (588) 628 rfl rfl) (k_undo hv h5 hL hI)
        · exact l_case ih C hw hv hI.2.2.2.1 h6 hL hk (go (601) 641 rfl rfl) (k_curl hv h5 hL hI)
        · exact l_case ih C hw hv hI.2.2.2.1 h6 hL hk (go (650) 690 rfl rfl) (k_strokes hv h5 hL hI)
        · exact l_case ih C hw hv hI.2.2.2.1 h6 hL hk (go (687) 727 rfl rfl) (k_strokesOf hv h5 hL hI)
        · exact l_case ih C hw hv hI.2.2.2.1 h6 hL hk (go (712) 752 rfl rfl) (k_heaps hv h5 hL hI)
        · exact l_case ih C hw hv hI.2.2.2.1 h6 hL hk (go (725) 765 rfl rfl) (k_heapOf hv h5 hL hI)
        · exact l_case ih C hw hv hI.2.2.2.1 h6 hL hk (go (750) 790 rfl rfl) (k_look hv h5 hL hI)
        · exact l_case ih C hw hv hI.2.2.2.1 h6 hL hk (go (763) 803 rfl rfl) (k_dealt hv h5 hL hI)
        · exact l_case ih C hw hv hI.2.2.2.1 h6 hL hk (go (776) 816 rfl rfl) (k_dealtOf hv h5 hL hI)
        · exact l_case ih C hw hv hI.2.2.2.1 h6 hL hk (go (801) 841 rfl rfl) (k_gone hv h5 hL hI)
        · obtain ⟨n, hn⟩ := l_steps (F := 0) (d := 600) (stop := 880) (fun j hj => by
            cases hq : Nat.beq j 880 with
            | false => rfl
            | true => have := Nat.eq_of_beq_eq_true hq; omega) hv h6 hL (go (826) 866 rfl rfl) (k_time1 hv h5 hL)
          exact l_part C hn rfl (l_time hl ih C hw hv hI h6 hL hk)
        · exact l_case ih C hw hv hI.2.2.2.1 h6 hL hk (go (866) 906 rfl rfl) (k_from hv h5 hL hI)
        · exact l_case ih C hw hv hI.2.2.2.1 h6 hL hk (go (903) 943 rfl rfl) (k_thief hv h5 hL hI)
        · exact l_case ih C hw hv hI.2.2.2.1 h6 hL hk (go (928) 968 rfl rfl) (k_tag hv h5 hL hI)
        · exact l_case ih C hw hv hI.2.2.2.1 h6 hL hk (go (953) 993 rfl rfl) (k_byteAt hv h5 hL hI)
        · exact l_case ih C hw hv hI.2.2.2.1 h6 hL hk (go (978) 1018 rfl rfl) (k_drawn hv h5 hL hI)
        · exact l_case ih C hw hv hI.2.2.2.1 h6 hL hk (go (1015) 1055 rfl rfl) (k_odds hv h5 hL hI)
        · exact l_case ih C hw hv hI.2.2.2.1 h6 hL hk (go (1064) 1104 rfl rfl) (k_book hv h5 hL hI)
        · exact l_case ih C hw hv hI.2.2.2.1 h6 hL hk (go (1089) 1129 rfl rfl) (k_told hv h5 hL hI)
        · exact l_case ih C hw hv hI.2.2.2.1 h6 hL hk (go (1114) 1154 rfl rfl) (k_sentence hv h5 hL hI)
        · exact l_case ih C hw hv hI.2.2.2.1 h6 hL hk (go (1127) 1167 rfl rfl) (k_said hv h5 hL hI)
        · exact l_case ih C hw hv hI.2.2.2.1 h6 hL hk (go (1152) 1192 rfl rfl) (k_image hv h5 hL hI)
        · exact l_case ih C hw hv hI.2.2.2.1 h6 hL hk (go (1177) 1217 rfl rfl) (k_restore hv h5 hL hI)
        · exact l_case ih C hw hv hI.2.2.2.1 h6 hL hk (go (1202) 1242 rfl rfl) (k_count hv h5 hL hI)
        · omega
    · exact l_fin C hr hlocks (l_out (by omega) (by omega) hL)
end LOOP
