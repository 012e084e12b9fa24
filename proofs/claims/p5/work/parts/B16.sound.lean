theorem iv_room8 {q d X : Nat} (h1 : q ≤ 40) (h2 : 60 * (d + 1 + 8) ≤ X) : 8 + (q + 11) + 60 * (d + 8) ≤ X := by
  have e : 60 * (d + 1 + 8) = 60 * (d + 8) + 60 := by rw [show d + 1 + 8 = (d + 8) + 1 from Nat.add_right_comm d 1 8, Nat.mul_succ]
  rw [e] at h2
  generalize 60 * (d + 8) = Y at h2 ⊢
  omega
/-- the locals' words of the arguments -/
theorem iv_lgl (ad : Nat → Nat) : ∀ vs : List Value, (lg_sl (iv_sm ad vs)).length = iv_cs vs
  | [] => rfl
  | v :: r => by
    have h := iv_lgl ad r
    unfold lg_sl at h ⊢
    rw [show iv_sm ad (v :: r) = iv_v ad v :: iv_sm ad r from rfl, List.flatMap_cons, List.length_append, h, iv_v_cat]
    show _ = v.category + iv_cs r
    rcases lv_cat v with q | q <;> rw [q] <;> rfl
theorem iv_pop_ok : ∀ (n : Nat) (st acc as rest : List Value), iv_pop n st acc = some (as, rest) → ∃ pre : List Value, st = pre ++ rest ∧ as = pre.reverse ++ acc ∧ pre.length = n
  | 0, st, acc, as, rest, h => by
    have h : some (acc, st) = some (as, rest) := by cases st <;> exact h
    simp only [Option.some.injEq, Prod.mk.injEq] at h
    obtain ⟨rfl, rfl⟩ := h
    exact ⟨[], rfl, rfl, rfl⟩
  | n + 1, [], acc, as, rest, h => by cases h
  | n + 1, v :: r, acc, as, rest, h => by
    obtain ⟨pre, h1, h2, h3⟩ := iv_pop_ok n r (v :: acc) as rest h
    exact ⟨v :: pre, by rw [h1]; rfl, by rw [h2]; simp, by simp [h3]⟩
theorem iv_rt_eq {k : Nat} {st : List Value} {σ σ' : iv_H} {r : Option Value} (h : iv_rt k st σ = some (r, σ')) : σ' = σ := by
  unfold iv_rt at h
  split at h
  · cases h; rfl
  · cases h; rfl
  · rename_i v
    cases hb : (decide (v = 0) || decide (v = 1)) <;> rw [hb] at h
    · cases h
    · cases h; rfl
  · cases h; rfl
  · cases h; rfl
  · cases h
theorem iv_own_ok {M : Nat} (h : M < iv_n) : (iv_m M).2.1 ∈ iv_owns := by
  have h1 := List.all_eq_true.mp iv_owned M (List.mem_range.mpr h)
  exact List.contains_iff_mem.mp h1
theorem iv_fetch {M pc : Nat} {o : iv_O} (hc : iv_cok M = true) (hx9 : iv_lxM M = true) (h : iv_f1 (iv_p M) pc = some o) : ∃ (i : Instr) (len : Nat), decode (iv_c M) pc = .ok (i, len) ∧ iv_lnok i len = true ∧ iv_op M (iv_m M).2.1 (iv_m M).2.2.1 (iv_m M).2.2.2.1 i = o ∧ iv_lx i = true := by
  unfold iv_p at h
  rw [iv_f1_map (fun q : Instr × Nat => iv_op M (iv_m M).2.1 (iv_m M).2.2.1 (iv_m M).2.2.2.1 q.1)] at h
  cases hq : iv_f1 (iv_m M).2.2.2.2 pc with
  | none => rw [hq] at h; cases h
  | some q =>
    rw [hq] at h
    have h1 := List.all_eq_true.mp hc _ (iv_f1_in _ _ _ hq)
    rw [Bool.and_eq_true] at h1
    exact ⟨q.1, q.2, of_decide_eq_true h1.1, h1.2, Option.some.inj h, List.all_eq_true.mp hx9 _ (iv_f1_in _ _ _ hq)⟩
def iv_Qc (ad cy : Nat → Nat) (D : va_G) (base : Nat) (r : Option Value) (σ' : iv_H) : Array Value → State → Outcome → State → Prop := fun _ st oc t => oc = .returned (r.map (iv_v ad)) ∧ va_P D vwCl (iv_W ad cy σ') t.heap ∧ va_F (iv_A base) st t
abbrev iv_rm (d mc ms : Nat) : Room := { frames := d + 8, cells := mc, slots := ms, locals := 60 * (d + 8) }
abbrev iv_ws (M : Nat) : List Cond := .code (iv_y M) (iv_c M) (iv_m M).2.2.1 (iv_m M).2.2.2.1 :: iv_G
abbrev iv_Pc (ad cy : Nat → Nat) (D : va_G) (base L : Nat) (xs : Nat → Int32) (as : List Value) (σ : iv_H) : Array Value → State → Prop := va_Pc (iv_sm ad as) (fun U => iv_K ad cy D base L xs U ∧ va_P D vwCl (iv_W ad cy σ) U.heap ∧ U.heap.size = base + σ.1)
/-- the contract of a method out of its run -/
def iv_MetOf (l : Launch) (ad cy : Nat → Nat) (D : va_G) (base L : Nat) (xs : Nat → Int32) (d M : Nat) (as : List Value) (σ : iv_H) (r : Option Value) (σ' : iv_H) : Prop := Met l (iv_y M) (iv_ws M) (iv_rm d (σ'.1 - σ.1) (σ'.2.2 - σ.2.2)) (iv_Pc ad cy D base L xs as σ) (iv_Qc ad cy D base r σ') (σ'.1 - σ.1) (σ'.2.2 - σ.2.2) (iv_A base)
/-- a body's run, up to its return -/
def iv_Body (l : Launch) (ad cy : Nat → Nat) (D : va_G) (base L : Nat) (xs : Nat → Int32) (d M pc : Nat) (lv : iv_L) (st : List Value) (σ : iv_H) (r : Option Value) (σ' : iv_H) : Prop :=
  (σ.1 ≤ σ'.1 ∧ σ.2.2 ≤ σ'.2.2) ∧ ∀ {p : Program} {e : Env} {R : Room} {s : State} {m : MethodId} {args : Array Value} {below : List Frame} {meth : Method} {c : Code} {Q : State → Prop} {c0 n0 : Nat}, iv_C0 ad cy D base L xs p s m args meth c (iv_c M) (iv_m M).2.2.1 (iv_m M).2.1 (iv_y M).name → s.heap.size = base + c0 → c0 ≤ σ.1 → n0 ≤ σ.2.2 → d + 8 ≤ R.frames → 60 * (d + 8) ≤ R.locals → σ'.1 - c0 ≤ R.cells → σ'.2.2 - n0 ≤ R.slots →
    (∀ (pc2 k len : Nat) (st2 : List Value) (lv2 : iv_L) (i : Instr), decode (iv_c M) pc2 = .ok (i, len) → iv_lnok i len = true → iv_op M (iv_m M).2.1 (iv_m M).2.2.1 (iv_m M).2.2.2.1 i = .inr (.inl k) → iv_rt k st2 σ' = some (r, σ') → iv_Nx ad cy D base c0 n0 (iv_m M).2.2.1 p l e R s m args below meth c Q pc2 lv2 st2 σ') → iv_Nx ad cy D base c0 n0 (iv_m M).2.2.1 p l e R s m args below meth c Q pc lv st σ
theorem iv_mfacts {M : Nat} (h : M < iv_n) : Cond.initialized (iv_y M).cls ∈ iv_G ∧ plainName (iv_y M).cls = true ∧ ((iv_y M).cls ≠ "java/lang/invoke/MethodHandle" ∧ (iv_y M).cls ≠ "java/lang/invoke/VarHandle" ∧ (parseMethodDescriptor (iv_y M).desc).map (fun d => d.parameters.length) = some (iv_h M).1) ∧ (iv_m M).2.2.1 ≤ 40 ∧ iv_R (iv_m M).2.1 = (iv_y M).cls ∧ (Nat.beq (iv_h M).2.1 1 = true → Cond.static (iv_y M) ∈ iv_G) ∧ (Nat.beq (iv_h M).2.1 1 = false → Cond.instanceMethod (iv_y M) ∈ iv_G) := by
  have h1 := iv_mok_all M h
  unfold iv_mok at h1
  simp only [Bool.and_eq_true] at h1
  obtain ⟨⟨⟨_, a1⟩, a2, a3⟩, ⟨a4, a5⟩, a6, a7, a8⟩ := h1
  refine ⟨iv_w_in a1, a3, ⟨of_decide_eq_true a4, of_decide_eq_true a5, of_decide_eq_true a6⟩, Nat.le_of_ble_eq_true a7, of_decide_eq_true a8, fun hb => ?_, fun hb => ?_⟩
  · rw [hb] at a2; exact iv_w_in a2
  · rw [hb] at a2; exact iv_w_in a2
theorem iv_ini_lt : ∀ m0 ∈ iv_ini, m0 < iv_n := by decide +kernel
set_option maxHeartbeats 1000000 in
theorem iv_ret_of {m0 own nL k : Nat} {ret : Option FieldType} {i : Instr} (hop : iv_op m0 own nL ret i = .inr (.inl k)) : (i = .return_ ∧ ret = none ∧ k = 0) ∨ (i = .ireturn ∧ ret = some .int ∧ k = 1) ∨ (i = .ireturn ∧ ret = some .boolean ∧ k = 2) ∨ (i = .lreturn ∧ ret = some .long ∧ k = 3) ∨ (i = .areturn ∧ (∃ C, ret = some (.object C)) ∧ k = 4) := by
  cases i <;> simp only [iv_op, iv_st, iv_ofd, iv_opf, iv_ogs, iv_onw, iv_onq, iv_onm, iv_oss, iv_osp, iv_ovi, iv_oki, iv_okj, Bool.cond_eq_ite] at hop
  all_goals (repeat' split at hop)
  all_goals first
    | (cases hop; done)
    | (cases hop; first | exact Or.inl ⟨rfl, rfl, rfl⟩ | exact Or.inr (Or.inl ⟨rfl, rfl, rfl⟩) | exact Or.inr (Or.inr (Or.inl ⟨rfl, rfl, rfl⟩)) | exact Or.inr (Or.inr (Or.inr (Or.inl ⟨rfl, rfl, rfl⟩))) | exact Or.inr (Or.inr (Or.inr (Or.inr ⟨rfl, ⟨_, rfl⟩, rfl⟩))))
set_option maxHeartbeats 1000000 in
theorem iv_call_of {m0 own nL kind mm nn ci : Nat} {ret : Option FieldType} {i : Instr} (hop : iv_op m0 own nL ret i = .inr (.inr (kind, mm, nn, ci))) : ∃ kx z h : Nat, (i = .invokestatic kx ∧ kind = 4 ∧ iv_f1 (iv_ls own) kx = some (4, mm, nn, z, h)) ∨ (i = .invokespecial kx ∧ kind = 5 ∧ iv_f1 (iv_ls own) kx = some (5, mm, nn, z, h)) ∨ (i = .invokespecial kx ∧ kind = 7 ∧ iv_f1 (iv_ls own) kx = some (7, mm, nn, z, h)) ∨ (i = .invokevirtual kx ∧ kind = 6 ∧ iv_f1 (iv_ls own) kx = some (6, mm, nn, ci, h)) := by
  cases i <;> simp only [iv_op, iv_st, iv_ofd, iv_opf, iv_ogs, iv_onw, iv_onq, iv_onm, iv_oss, iv_osp, iv_ovi, iv_oki, iv_okj, Bool.cond_eq_ite] at hop
  all_goals (repeat' split at hop)
  all_goals first
    | (cases hop; done)
    | (cases hop
       rename_i hq
       first
         | exact ⟨_, _, _, Or.inl ⟨rfl, rfl, hq⟩⟩
         | exact ⟨_, _, _, Or.inr (Or.inl ⟨rfl, rfl, hq⟩)⟩
         | exact ⟨_, _, _, Or.inr (Or.inr (Or.inl ⟨rfl, rfl, hq⟩))⟩
         | exact ⟨_, 0, _, Or.inr (Or.inr (Or.inr ⟨rfl, rfl, hq⟩))⟩)
set_option maxHeartbeats 1000000 in
theorem iv_met {l : Launch} {ad cy : Nat → Nat} {D : va_G} {base L : Nat} {xs : Nat → Int32} {d M : Nat} {as : List Value} {σ σ' : iv_H} {r : Option Value} (hM : M < iv_n) (hcs : iv_cs as ≤ (iv_m M).2.2.1) (hB : iv_Body l ad cy D base L xs d M 0 (lv_args 0 as) [] σ r σ') : iv_MetOf l ad cy D base L xs d M as σ r σ' := by
  obtain ⟨hmo, hB⟩ := hB
  obtain ⟨b1, b2, b3, b4, b5, b6, b7⟩ := iv_mfacts hM
  refine Met.ofW (cc := iv_c M) (maxL := (iv_m M).2.2.1) (ret := (iv_m M).2.2.2.1) b2 rfl ?_
  intro p e s m args below meth c s₁ B hml hv
  obtain ⟨rfl, hK, hP, hz⟩ := hv
  have hx := B.exec
  have hb := B.bytes
  have hr := B.returns
  have hts0 := atoms_spec (ws := iv_ws M) B.pre
  have hts : ∀ w ∈ iv_G, w.before (iv_sm ad as).toArray s = true := fun w hw => hts0 w (List.mem_cons_of_mem _ hw)
  have hown : s.vm.findClass (iv_R (iv_m M).2.1) = some m.cls := by rw [b5]; exact findClass_of_methodNamed B.named
  have hlocks := B.notSynchronized
  have hnm : meth.name = (iv_y M).name := (name_of_methodNamed B.named B.method).1
  have hl := lv_entry (iv_sm ad as) (n := (iv_m M).2.2.1) (by rw [iv_lgl]; exact hcs)
  rw [lg_entry_eq]
  rw [iv_largs] at hl
  have N := hB (p := p) (e := e) (R := iv_rm d (σ'.1 - σ.1) (σ'.2.2 - σ.2.2)) (s := s) (m := m) (args := (iv_sm ad as).toArray) (below := below) (meth := meth) (c := c) (Q := MQ below (iv_Qc ad cy D base r σ') (iv_sm ad as).toArray s (σ'.1 - σ.1) (σ'.2.2 - σ.2.2) (iv_A base)) (c0 := σ.1) (n0 := σ.2.2) ⟨hx, hb, hml, hown, hts, hK, fun h9 => hnm.trans h9⟩ hz (Nat.le_refl _) (Nat.le_refl _) (Nat.le_refl _) (Nat.le_refl _) (Nat.le_refl _) (Nat.le_refl _) ?_
  · have N2 := N s.heap [] _ hl hP va_S.rf
    exact W.cs (Nat.sub_self _).symm (Nat.sub_self _).symm N2
  · intro pc2 k len st2 lv2 i hd hln hop hrt H locs ls hvv hP2 hS2
    have hq : ∀ t : State, t.heap = H → iv_Qc ad cy D base r σ' (iv_sm ad as).toArray s (.returned (r.map (iv_v ad))) t := fun t ht => ⟨rfl, by rw [ht]; exact hP2, hS2.F ht⟩
    rcases iv_ret_of hop with ⟨rfl, h2, rfl⟩ | ⟨rfl, h2, rfl⟩ | ⟨rfl, h2, rfl⟩ | ⟨rfl, h2, rfl⟩ | ⟨rfl, ⟨C9, h2⟩, rfl⟩
    · obtain rfl := iv_lenE (n := 0) hln rfl
      rcases st2 with _ | ⟨v, st2⟩
      · have e1 : none = r := (Prod.mk.inj (Option.some.inj hrt)).1
        subst e1
        exact W.vret hx hb (hr.trans h2) (fun t ht _ => hq t ht) hS2.2.2 hd
      · cases hrt
    · obtain rfl := iv_lenE (n := 0) hln rfl
      rcases st2 with _ | ⟨v, _ | ⟨w, st2⟩⟩
      · cases hrt
      · cases v with
        | int v =>
          have e1 : some (Value.int v) = r := (Prod.mk.inj (Option.some.inj hrt)).1
          subst e1
          exact W.iret hx hb (hr.trans h2) (fun t ht _ => hq t ht) hS2.2.2 hd
        | _ => cases hrt
      · cases v <;> cases hrt
    · obtain rfl := iv_lenE (n := 0) hln rfl
      rcases st2 with _ | ⟨v, _ | ⟨w, st2⟩⟩
      · cases hrt
      · cases v with
        | int v =>
          have hrt : (bif decide (v = 0) || decide (v = 1) then some (some (Value.int v), σ') else none) = some (r, σ') := hrt
          cases hb9 : (decide (v = 0) || decide (v = 1)) <;> rw [hb9] at hrt
          · cases hrt
          · have e1 : some (Value.int v) = r := (Prod.mk.inj (Option.some.inj hrt)).1
            subst e1
            have hnr : narrow .boolean (.int v) = .int v := (iv_fit_ok ad (ty := .boolean) (v := .int v) hb9).1
            exact W.zret hx hb (hr.trans h2) hnr (fun t ht _ => hq t ht) hS2.2.2 hd
        | _ => cases hrt
      · cases v <;> cases hrt
    · obtain rfl := iv_lenE (n := 0) hln rfl
      rcases st2 with _ | ⟨v, _ | ⟨w, st2⟩⟩
      · cases hrt
      · cases v with
        | long v =>
          have e1 : some (Value.long v) = r := (Prod.mk.inj (Option.some.inj hrt)).1
          subst e1
          exact W.lret hx hb (hr.trans h2) (fun t ht _ => hq t ht) hS2.2.2 hd
        | _ => cases hrt
      · cases v <;> cases hrt
    · obtain rfl := iv_lenE (n := 0) hln rfl
      rcases st2 with _ | ⟨v, _ | ⟨w, st2⟩⟩
      · cases hrt
      · cases v with
        | ref v =>
          have e1 : some (Value.ref v) = r := (Prod.mk.inj (Option.some.inj hrt)).1
          subst e1
          exact W.aret hx hb (hr.trans h2) (Or.inl ⟨C9, rfl⟩) (Or.inr ⟨ad v, rfl⟩) (fun t ht _ => hq t ht) hS2.2.2 hd
        | _ => cases hrt
      · cases v <;> cases hrt
section IVC
variable {p : Program} {l : Launch} {e : Env} {R : Room} {s : State} {m : MethodId} {args : Array Value} {below : List Frame} {meth : Method} {c : Code} {Q : State → Prop} {ad cy : Nat → Nat} {D : va_G} {base L : Nat} {xs : Nat → Int32}
theorem iv_callW {H : Heap} {locs : List Loc} {cells slots mc ms pc : Nat} {ls : Array Slot} {st0 rest : List Value} {r : Option Value} {σ1 : iv_H} {a : Array Value} (hr : va_Run p l e R s m args below meth c H locs cells slots mc ms (F0 m pc ls st0) rest (iv_Qc ad cy D base r σ1 a) (iv_A base)) (hS : va_S (iv_A base) s.heap H locs)
    (kk : ∀ (H1 : Heap) (locs1 : List Loc), va_P D vwCl (iv_W ad cy σ1) H1 → va_S (iv_A base) s.heap H1 locs1 → W p l e R s m args below meth c H1 locs1 (cells + mc) (slots + ms) Q (F0 m (pc + 3) ls ((r.map (iv_v ad)).toList ++ rest))) : W p l e R s m args below meth c H locs cells slots Q (F0 m pc ls st0) := by
  intro T hT X
  obtain ⟨v, st₀, t, T', L, h0, X', hL, e1, e2, ⟨hv, hP1, hz1, hk1⟩, st⟩ := hr T hT X
  have ev : v = r.map (iv_v ad) := by cases hv; rfl
  subst ev
  rw [h0] at hz1 hk1
  obtain ⟨t2, a1, b1⟩ := kk T'.heap (locs ++ L) (by rw [e1]; exact hP1) ⟨Nat.le_trans hS.1 (by rw [e1]; exact hz1), fun q h1 h2 => by rw [e1, hk1 q (Nat.lt_of_lt_of_le h1 hS.1) h2]; exact hS.2.1 q h1 h2, fun q hq => by
      rcases List.mem_append.mp hq with h | h
      · exact hS.2.2 q h
      · exact hL q h⟩ T' rfl X'
  exact ⟨t2, st t2 a1, b1⟩
theorem iv_blind {as : List Value} {σ : iv_H} : FrameBlind (iv_Pc ad cy D base L xs as σ) := fun a U g mk q => ⟨q.1, iv_K_to q.2.1 (State.WarmedH.refl U) (Nat.le_refl _) (fun _ _ _ => rfl), q.2.2.1, q.2.2.2⟩
theorem iv_ws_good {M : Nat} (h : M < iv_n) : GoodIn iv_G (iv_ws M) := iv_goodIn fun w hw => by
  rcases List.mem_cons.mp hw with rfl | hw
  · exact iv_code_in M h
  · exact hw
theorem iv_sm_app (a b : List Value) : iv_sm ad (a ++ b) = iv_sm ad a ++ iv_sm ad b := List.map_append
theorem iv_sm_rev (a : List Value) : iv_sm ad a.reverse = (iv_sm ad a).reverse := List.map_reverse
theorem iv_ret_l (r : Option Value) (rest : List Value) : (r.map (iv_v ad)).toList ++ iv_sm ad rest = iv_sm ad (r.toList ++ rest) := by cases r <;> rfl
end IVC
theorem iv_cok_any {M : Nat} (h : M ≤ iv_n) : iv_cok M = true := by
  by_cases h1 : M < iv_n
  · exact iv_cok_all M h1
  · have e : M = iv_n := Nat.le_antisymm h (Nat.le_of_not_lt h1)
    rw [e]; exact iv_cok_law
theorem iv_own_any {M : Nat} (h : M ≤ iv_n) : (iv_m M).2.1 ∈ iv_owns := by
  by_cases h1 : M < iv_n
  · exact iv_own_ok h1
  · have e : M = iv_n := Nat.le_antisymm h (Nat.le_of_not_lt h1)
    rw [e]; decide +kernel
set_option maxHeartbeats 4000000 in
theorem iv_sound (l : Launch) (ad cy : Nat → Nat) (D : va_G) (base L : Nat) (xs : Nat → Int32) : ∀ (n d M pc : Nat) (lv : iv_L) (st : List Value) (σ : iv_H) (r : Option Value) (σ' : iv_H), M ≤ iv_n → iv_run L xs n d M pc lv st σ = some (r, σ') → iv_Body l ad cy D base L xs d M pc lv st σ r σ' := by
  intro n
  induction n with
  | zero => intro d M pc lv st σ r σ' hM h; cases h
  | succ n ih =>
    intro d M pc lv st σ r σ' hM h
    rw [iv_run_s] at h
    unfold iv_step at h
    split at h
    · rename_i o ho
      obtain ⟨i, len, hd, hln, hop, hlx⟩ := iv_fetch (iv_cok_any hM) (iv_lw_any hM) ho
      have hown9 := iv_own_any hM
      have hini9 : iv_mem M iv_ini = true → (iv_y M).name = "<init>" := fun h9 => iv_ini_ok0 M (iv_mem_in _ h9)
      unfold iv_do at h
      split at h
      · rename_i f
        unfold iv_go1 at h
        split at h
        · rename_i pc' lv' st' σ1 hf
          rw [iv_fp_eq] at h
          obtain ⟨hmo, hB⟩ := ih d M pc' lv' st' σ1 r σ' hM h
          have hm1 := iv_op_mo hop L xs pc lv st σ pc' lv' st' σ1 hf
          refine ⟨⟨Nat.le_trans hm1.1 hmo.1, Nat.le_trans hm1.2 hmo.2⟩, ?_⟩
          intro p e R s m args below meth c Q c0 n0 C hz hc0 hn0 hRf hRl hRc hRs hret
          exact iv_op_ok hown9 hini9 C hd hln hlx hop hf hz hc0 hn0 ⟨by omega, by omega⟩ (by omega) (by omega) hm1 (hB C hz (Nat.le_trans hc0 hm1.1) (Nat.le_trans hn0 hm1.2) hRf hRl hRc hRs hret)
        · cases h
      · rename_i k
        have e9 := iv_rt_eq h
        subst e9
        refine ⟨⟨Nat.le_refl _, Nat.le_refl _⟩, ?_⟩
        intro p e R s m args below meth c Q c0 n0 C hz hc0 hn0 hRf hRl hRc hRs hret
        exact hret pc k len st lv i hd hln hop h
      · rename_i kind mm nn ci
        unfold iv_cl at h
        split at h
        · rename_i as rest d' hq
          rw [Bool.cond_eq_ite] at h
          split at h
          · rename_i hcs
            have hcs := Nat.le_of_ble_eq_true hcs
            split at h
            · rename_i r1 σ1 hrun
              rw [iv_fp_eq] at h
              obtain ⟨hmo2, hB2⟩ := ih (d' + 1) M (pc + 3) lv (r1.toList ++ rest) σ1 r σ' hM h
              obtain ⟨kx, z9, h9, hcall⟩ := iv_call_of hop
              have hmm : mm < iv_n := by
                rcases hcall with ⟨-, -, q⟩ | ⟨-, -, q⟩ | ⟨-, -, q⟩ | ⟨-, -, q⟩
                all_goals
                  have hk := iv_lk_ok hown9 q
                  simp only [iv_lok, Bool.and_eq_true] at hk
                  exact iv_blt hk.1
              have hB1 := ih d' mm 0 (lv_args 0 as) [] σ r1 σ1 (Nat.le_of_lt hmm) hrun
              have hMet := iv_met hmm hcs hB1
              unfold iv_MetOf at hMet
              have hmo1 := hB1.1
              obtain ⟨b1, b2, b3, b4, b5, b6, b7⟩ := iv_mfacts hmm
              refine ⟨⟨Nat.le_trans hmo1.1 hmo2.1, Nat.le_trans hmo1.2 hmo2.2⟩, ?_⟩
              intro p e R s m args below meth c Q c0 n0 C hz hc0 hn0 hRf hRl hRc hRs hret
              have N2 := hB2 C hz (Nat.le_trans hc0 hmo1.1) (Nat.le_trans hn0 hmo1.2) hRf hRl hRc hRs hret
              obtain ⟨hx, hb, hml, hown, hts, hK, hnm⟩ := C
              have had := hK.2.2.2.2.2
              intro H locs ls hvv hP hS
              refine iv_Wsz fun hsz => ?_
              have hsz := iv_size had hP hS hz hc0 hsz
              have hRoom : (iv_rm d' (σ1.1 - σ.1) (σ1.2.2 - σ.2.2)).frames + 1 ≤ R.frames ∧ 8 + ((iv_m mm).2.2.1 + 11) + (iv_rm d' (σ1.1 - σ.1) (σ1.2.2 - σ.2.2)).locals ≤ R.locals := by
                refine ⟨by show d' + 8 + 1 ≤ _; omega, ?_⟩
                exact iv_room8 b4 hRl
              have hfit : (σ.1 - c0) + (σ1.1 - σ.1) ≤ R.cells ∧ (σ.2.2 - n0) + (σ1.2.2 - σ.2.2) ≤ R.slots := ⟨by omega, by omega⟩
              have hPre : ∀ U : State, U.heap = H → s.WarmedH U.vm → iv_Pc ad cy D base L xs as σ (iv_sm ad as).toArray U := fun U hU hW => ⟨rfl, iv_K_to hK hW (by rw [hU]; exact hS.1) (fun q h1 h2 => by rw [hU]; exact hS.2.1 q h1 h2), by rw [hU]; exact hP, by rw [hU]; exact hsz⟩
              have hkk : ∀ (H1 : Heap) (locs1 : List Loc), va_P D vwCl (iv_W ad cy σ1) H1 → va_S (iv_A base) s.heap H1 locs1 → W p l e R s m args below meth c H1 locs1 ((σ.1 - c0) + (σ1.1 - σ.1)) ((σ.2.2 - n0) + (σ1.2.2 - σ.2.2)) Q (F0 m (pc + 3) ls ((r1.map (iv_v ad)).toList ++ iv_sm ad rest)) := fun H1 locs1 hP1 hS1 => by
                rw [iv_ret_l]
                exact W.cs (by omega) (by omega) (N2 H1 locs1 ls hvv hP1 hS1)
              unfold iv_args at hq
              split at hq
              · cases hq
              · rename_i as0 rest0 hpop
                obtain ⟨pre, g1, g2, g3⟩ := iv_pop_ok nn st [] as0 rest0 hpop
                rw [List.append_nil] at g2
                have hlen0 : as0.length = nn := by rw [g2, List.length_reverse]; exact g3
                have hst0 : iv_sm ad st = (iv_sm ad as0).reverse ++ iv_sm ad rest0 := by rw [g1, g2, iv_sm_app, iv_sm_rev, List.reverse_reverse]
                rcases hcall with ⟨rfl, rfl, q⟩ | ⟨rfl, rfl, q⟩ | ⟨rfl, rfl, q⟩ | ⟨rfl, rfl, q⟩
                · have hk := iv_lk_ok hown9 q
                  simp only [iv_lok, Bool.and_eq_true] at hk
                  obtain rfl := iv_lenE (n := 2) hln rfl
                  rw [show Nat.beq 4 4 = true from rfl] at hq
                  simp only [cond_true] at hq
                  rw [Bool.cond_eq_ite] at hq
                  split at hq
                  · rename_i h8
                    have h8 := Nat.le_of_ble_eq_true h8
                    cases hq
                    have hb3 := b3.2.2
                    rw [Nat.eq_of_beq_eq_true hk.2.1] at hb3
                    refine iv_callW (va_runS (As := iv_sm ad as) (rest := iv_sm ad rest) ⟨hx, hb, hml, hown, hts⟩ hMet ⟨callB_of nn hts (iv_ws_good hmm) rfl rfl rfl (hts _ b1) (hts _ (iv_w_in hk.2.2.2)) ⟨b3.1, b3.2.1, hb3⟩ hRoom, hts _ (b6 hk.2.2.1)⟩ ⟨iv_blind, hPre⟩ rfl (by rw [List.length_map]; exact hlen0) hvv.1 hst0 (lv_room (by rw [iv_cs_eq]; exact h8)) hd hfit) hS hkk
                  · cases hq
                · have hk := iv_lk_ok hown9 q
                  simp only [iv_lok, Bool.and_eq_true] at hk
                  obtain rfl := iv_lenE (n := 2) hln rfl
                  rw [show Nat.beq 5 4 = false from rfl] at hq
                  simp only [cond_false] at hq
                  split at hq
                  · rename_i a r9
                    rw [Bool.cond_eq_ite] at hq
                    split at hq
                    · rename_i h8
                      have h8 := Nat.le_of_ble_eq_true h8
                      rw [show Nat.beq 5 6 = false from rfl] at hq
                      simp only [cond_false] at hq
                      cases hq
                      have hb3 := b3.2.2
                      rw [Nat.eq_of_beq_eq_true hk.2.1] at hb3
                      have hrn := of_decide_eq_true hk.2.2.2.2.2
                      refine iv_callW (va_runI (As := iv_sm ad as0) (rest := iv_sm ad rest) (b := ad a) (maxL := (iv_m mm).2.2.1) (bytes := iv_c mm) ⟨hx, hb, hml, hown, hts⟩ hMet ⟨callB_of nn hts (iv_ws_good hmm) (by unfold iv_ws; rw [hrn]) rfl rfl (hts _ b1) (hts _ (iv_w_in hk.2.2.2.1)) ⟨b3.1, b3.2.1, hb3⟩ hRoom, of_decide_eq_true hk.2.2.2.2.1, hts _ (b7 (by rw [Nat.eq_of_beq_eq_true hk.2.2.1]; rfl))⟩ ⟨iv_blind, hPre⟩ rfl (by rw [List.length_map]; exact hlen0) hvv.1 hst0 (lv_room (by rw [iv_cs_eq]; exact h8)) hd hfit) hS hkk
                    · cases hq
                  · cases hq
                · have hk := iv_lk_ok hown9 q
                  simp only [iv_lok, Bool.and_eq_true] at hk
                  obtain rfl := iv_lenE (n := 2) hln rfl
                  rw [show Nat.beq 7 4 = false from rfl] at hq
                  simp only [cond_false] at hq
                  split at hq
                  · rename_i a r9
                    rw [Bool.cond_eq_ite] at hq
                    split at hq
                    · rename_i h8
                      have h8 := Nat.le_of_ble_eq_true h8
                      rw [show Nat.beq 7 6 = false from rfl] at hq
                      simp only [cond_false] at hq
                      cases hq
                      have hb3 := b3.2.2
                      rw [Nat.eq_of_beq_eq_true hk.2.1] at hb3
                      have hrn := of_decide_eq_true hk.2.2.2.2.2
                      refine iv_callW (va_runIN (As := iv_sm ad as0) (rest := iv_sm ad rest) (b := ad a) (maxL := (iv_m mm).2.2.1) (bytes := iv_c mm) ⟨hx, hb, hml, hown, hts⟩ hMet ⟨va_cnB nn hts (iv_ws_good hmm) (by unfold iv_ws; rw [hrn]) rfl rfl (hK.1.2.1 _ (of_decide_eq_true hk.2.2.2.1)) (hts _ b1) ⟨b3.1, b3.2.1, hb3⟩ hRoom, of_decide_eq_true hk.2.2.2.2.1, hts _ (b7 (by rw [Nat.eq_of_beq_eq_true hk.2.2.1]; rfl))⟩ ⟨iv_blind, hPre⟩ rfl (by rw [List.length_map]; exact hlen0) hvv.1 hst0 (lv_room (by rw [iv_cs_eq]; exact h8)) hd hfit) hS hkk
                    · cases hq
                  · cases hq
                · have hk := iv_lk_ok hown9 q
                  simp only [iv_lok, Bool.and_eq_true] at hk
                  obtain rfl := iv_lenE (n := 2) hln rfl
                  rw [show Nat.beq 6 4 = false from rfl] at hq
                  simp only [cond_false] at hq
                  split at hq
                  · rename_i a r9
                    rw [Bool.cond_eq_ite] at hq
                    split at hq
                    · rename_i h8
                      have h8 := Nat.le_of_ble_eq_true h8
                      rw [show Nat.beq 6 6 = true from rfl] at hq
                      simp only [cond_true] at hq
                      split at hq
                      · rename_i c2 fs hg
                        rw [Bool.cond_eq_ite] at hq
                        split at hq
                        · rename_i hc2
                          have hc2 := Nat.eq_of_beq_eq_true hc2
                          subst hc2
                          cases hq
                          obtain ⟨k0, rfl, hk0, he⟩ := iv_get_ok hg
                          have hat := iv_W_at (ad := ad) (cy := cy) hk0
                          rw [he] at hat
                          have hci := iv_blt hk.2.2.2.2.1
                          have hcls := of_decide_eq_true hk.2.2.2.2.2.1
                          have hb3 := b3.2.2
                          rw [Nat.eq_of_beq_eq_true hk.2.1] at hb3
                          have hrec := va_recv hK.1.1 hP (iv_cl_at ci hci) hat
                          rw [show (iv_C ci, iv_T ci, iv_fn ci).1 = (iv_y mm).cls from hcls.symm] at hrec
                          refine iv_callW (va_runV (As := iv_sm ad as0) (rest := iv_sm ad rest) (b := ad (2 * k0)) (C := (iv_y mm).cls) ⟨hx, hb, hml, hown, hts⟩ hMet ⟨callB_of nn hts (iv_ws_good hmm) rfl rfl rfl (hts _ b1) (hts _ (iv_w_in hk.2.2.2.1)) ⟨b3.1, b3.2.1, hb3⟩ hRoom, hts _ (b7 (by rw [Nat.eq_of_beq_eq_true hk.2.2.1]; rfl)), hts _ (iv_w_in hk.2.2.2.2.2.2)⟩ ⟨iv_blind, hrec, hPre⟩ rfl (by rw [List.length_map]; exact hlen0) hvv.1 hst0 (lv_room (by rw [iv_cs_eq]; exact h8)) hd hfit) hS hkk
                        · cases hq
                      · rw [Bool.cond_eq_ite] at hq
                        split at hq
                        · rename_i hc2
                          rw [Bool.and_eq_true] at hc2
                          have hc10 := Nat.eq_of_beq_eq_true hc2.1
                          subst hc10
                          obtain ⟨j0, hj0, rfl⟩ := iv_isW_of hc2.2
                          cases hq
                          have hcls := of_decide_eq_true hk.2.2.2.2.2.1
                          have hb3 := b3.2.2
                          rw [Nat.eq_of_beq_eq_true hk.2.1] at hb3
                          have hrec := va_recvE (ad := fun j => ad (2 * j + 3)) (i := j0) hK.2.1.1 hj0 hS
                          rw [show RX11 = (iv_y mm).cls from hcls.symm] at hrec
                          refine iv_callW (va_runV (As := iv_sm ad as0) (rest := iv_sm ad rest) (b := ad (2 * j0 + 3)) (C := (iv_y mm).cls) ⟨hx, hb, hml, hown, hts⟩ hMet ⟨callB_of nn hts (iv_ws_good hmm) rfl rfl rfl (hts _ b1) (hts _ (iv_w_in hk.2.2.2.1)) ⟨b3.1, b3.2.1, hb3⟩ hRoom, hts _ (b7 (by rw [Nat.eq_of_beq_eq_true hk.2.2.1]; rfl)), hts _ (iv_w_in hk.2.2.2.2.2.2)⟩ ⟨iv_blind, hrec, hPre⟩ rfl (by rw [List.length_map]; exact hlen0) hvv.1 hst0 (lv_room (by rw [iv_cs_eq]; exact h8)) hd hfit) hS hkk
                        · cases hq
                      · cases hq
                    · cases hq
                  · cases hq
            · cases h
          · cases h
        · cases h
    · cases h
