/-! ===== behind the catch: the frame's account begun anew, the rest of the law ===== -/
section XL
def lwR : Room := { frames := 2048, cells := 500000, slots := 7000000, locals := 84000 }
def lwQ (below : List Frame) (base : Nat) (s' : State) : State → Prop := fun t => ∃ o, t.status = .running ∧ Ended t below o ∧ o = .returned (some (.int 1)) ∧ s'.WarmedH t.vm ∧ ∃ locs : List Loc, (∀ q ∈ locs, base ≤ q.base) ∧ s'.sameButNew ({ t with vm := s'.vm } : State) locs 0 0
theorem lw_retG {p : Program} {l : Launch} {e : Env} {R : Room} {s : State} {m : MethodId} {args : Array Value} {below : List Frame} {meth : Method} {c : Code} {base : Nat} {locs : List Loc} (hf : ∀ q ∈ locs, base ≤ q.base) (hx : p.tables.exec = Jvm.exec) (hb : c.code = code) (hr : meth.sig.returnType = ret) (hlocks : meth.locks = false) {pc : Nat} {H : Heap} {ls : Array Slot} (hdg : decode code pc = .ok (.ireturn, 1)) : W p l e R s m args below meth c H locs 0 0 (lwQ below base s) (F0 m pc ls [.int 1]) := by
  intro T hT X
  obtain ⟨fs, hret, hrun, hended, hW, hframe⟩ := X.leave (v := some (.int 1)) (hlocks := hlocks) (fun h => by rw [hr] at h; cases h)
  have hmeth' : T.vm.method? m = some meth := X.method'
  refine ⟨T.setFrames fs, ?_, .returned (some (.int 1)), hrun, hended, rfl, hW, locs, hf, hframe⟩
  jvm_step X.here [X.here.top, hx, hb, hdg, hmeth', hr, ret, narrow_b1]
  (try refine ⟨rfl, ?_⟩); (try refine ⟨rfl, ?_⟩)
  first | (intro acts; rw [hret _ acts rfl rfl rfl]) | rw [hret _ _ rfl rfl rfl]
  exact Steps.refl _
theorem lw_rb {p : Program} {l : Launch} {e : Env} {s : State} {m : MethodId} {args : Array Value} {below : List Frame} {meth : Method} {c : Code} {H : Heap} {locs : List Loc} {cells slots : Nat} {g : JFrame} (hf : ∀ q ∈ locs, s.heap.size ≤ q.base) (hc : cells ≤ 1000) (hs : slots ≤ 200000)
    (k : ∀ s' : State, s'.vm = s.vm → s'.heap = H → W p l e lwR s' m args below meth c H [] 0 0 (lwQ below s.heap.size s') g) : W p l e room_1 s m args below meth c H locs cells slots (lw_Z below args s) g := by
  intro T hT X
  have Y := vx_rebase X (R' := lwR) (Nat.le_refl _) (Nat.le_refl _) (by show cells + 500000 ≤ 600002; omega) (by show slots + 7000000 ≤ 7302232; omega)
  obtain ⟨t, a1, o, b1, b2, b3, b4, locs2, hf2, b5⟩ := k ((T.setVm s.vm).setFrames (.invoking m args :: below)) rfl hT T hT Y
  subst b3
  refine ⟨t, a1, _, b1, b2, rfl, ⟨_, rfl⟩, State.WarmedH.trans (State.WarmedH.refl s) b4, ?_⟩
  obtain ⟨e1, e2⟩ := b5
  rw [State.setFrames_setFrames] at e1
  have h2 : (T.setVm s.vm).sameButNew ({ t with vm := s.vm } : State) locs2 0 0 := ⟨e1, e2⟩
  have h3 := X.same.trans h2
  exact h3.weaken (fun y hy hlt => absurd hlt (Nat.not_lt.mpr (by
    rcases List.mem_append.mp hy with h | h
    · exact hf y h
    · exact hf2 y h))) (by show cells + 0 ≤ 600002; omega) (by show slots + 0 ≤ 7302232; omega)
theorem lw_finN {p : Program} {l : Launch} {e : Env} {s : State} {m : MethodId} {args : Array Value} {below : List Frame} {meth : Method} {c : Code} {ad cy : Nat → Nat} {D : va_G} {base L : Nat} {xs : Nat → Int32} (C : iv_C0 ad cy D base L xs p s m args meth c (iv_c iv_n) (iv_m iv_n).2.2.1 (iv_m iv_n).2.1 (iv_y iv_n).name) (hr : meth.sig.returnType = ret) (hlocks : meth.locks = false) {pc : Nat} {lv : iv_L} {st : List Value} {σ σ' : iv_H} (hR : iv_Rn L xs 21 iv_n pc lv st σ (some (.int 1)) σ') (h1 : σ'.1 = σ.1) (h2 : σ'.2.2 = σ.2.2) : iv_Nx ad cy D base σ.1 σ.2.2 (iv_m iv_n).2.2.1 p l e lwR s m args below meth c (lwQ below base s) pc lv st σ := by
  obtain ⟨n, hn⟩ := hR
  refine (iv_soundN l ad cy D base L xs n 21 iv_n pc lv st σ _ σ' (Nat.le_refl _) hn).2 h1 h2 C (by decide) (by decide) (by rw [Nat.sub_self]; exact Nat.zero_le _) (by rw [Nat.sub_self]; exact Nat.zero_le _) ?_
  intro pc2 k len st2 lv2 i hd hln hop hrt H locs ls hvv hP2 hS2
  have hx := C.1
  have hb : c.code = code := C.2.1
  refine W.cs (show σ'.1 - σ.1 = 0 by omega) (show σ'.2.2 - σ.2.2 = 0 by omega) ?_
  rcases iv_ret_of hop with ⟨rfl, h2, rfl⟩ | ⟨rfl, h2, rfl⟩ | ⟨rfl, h2, rfl⟩ | ⟨rfl, h2, rfl⟩ | ⟨rfl, ⟨C9, h2⟩, rfl⟩
  · rcases st2 with _ | ⟨v, st2⟩ <;> cases hrt
  · cases h2
  · obtain rfl := iv_lenE (n := 0) hln rfl
    rcases st2 with _ | ⟨v, _ | ⟨w, st2⟩⟩
    · cases hrt
    · cases v with
      | int v =>
        have hrt : (bif decide (v = 0) || decide (v = 1) then some (some (Value.int v), σ') else none) = some (some (.int 1), σ') := hrt
        cases hb9 : (decide (v = 0) || decide (v = 1)) <;> rw [hb9] at hrt
        · cases hrt
        · have e1 : some (Value.int v) = some (.int 1) := (Prod.mk.inj (Option.some.inj hrt)).1
          cases e1
          exact lw_retG (fun q hq => hS2.2.2 q hq) hx hb hr hlocks hd
      | _ => cases hrt
    · cases v <;> cases hrt
  · cases h2
  · cases h2
noncomputable def sOK2 (cs : Nat) (a b : Int32) : Bool := match srun 6 (sBk a b) 20000 21 iv_n cs sgl [.int 1] sg2 with
  | some (some (.int r), σ) => decide (r = 1) && (decide (σ.1 = sg2.1) && decide (σ.2.2 = sg2.2.2))
  | _ => false
set_option maxRecDepth 100000 in
theorem sK2_345 : ([(-2147483648, -1), (0, 2147483647)] : List (Int32 × Int32)).all (fun q => sOK2 345 q.1 q.2) = true := by decide +kernel
set_option maxRecDepth 100000 in
theorem sK2_911 : ([(-2147483648, -1), (0, 2147483647)] : List (Int32 × Int32)).all (fun q => sOK2 911 q.1 q.2) = true := by decide +kernel
theorem sOK2_ok {cs : Nat} {a b : Int32} (h : sOK2 cs a b = true) (xs : Nat → Int32) (h1 : a ≤ xs 1) (h2 : xs 1 ≤ b) : ∃ σ', iv_Rn 6 xs 21 iv_n cs sgl [.int 1] sg2 (some (.int 1)) σ' ∧ σ'.1 = sg2.1 ∧ σ'.2.2 = sg2.2.2 := by
  unfold sOK2 at h
  split at h
  · rename_i r σ hr
    simp only [Bool.and_eq_true, decide_eq_true_eq] at h
    obtain ⟨rfl, h3, h4⟩ := h
    have hB : sBx 6 (sBk a b) xs := by
      intro s
      by_cases hs : s = 1
      · subst hs; exact ⟨h1, h2⟩
      · have e : sBk a b s = (-2147483648, 2147483647) := by
          unfold sBk
          split
          · exact absurd rfl hs
          · rfl
        rw [e, Int32.le_iff_toInt_le, Int32.le_iff_toInt_le]
        refine ⟨Int32.le_toInt _, ?_⟩
        have h9 := Int32.toInt_lt (xs s)
        rw [show ((2147483647 : Int32)).toInt = 2147483647 from by decide]
        omega
    exact ⟨σ, ⟨20000, (srun_ok hB _ _ _ _ _ _ _ _ _ hr).1⟩, h3, h4⟩
  · cases h
theorem sD2 {cs : Nat} (hl : ([(-2147483648, -1), (0, 2147483647)] : List (Int32 × Int32)).all (fun q => sOK2 cs q.1 q.2) = true) (xs : Nat → Int32) : ∃ σ', iv_Rn 6 xs 21 iv_n cs sgl [.int 1] sg2 (some (.int 1)) σ' ∧ σ'.1 = sg2.1 ∧ σ'.2.2 = sg2.2.2 := by
  obtain ⟨q, hq, h1, h2⟩ := cov_ok (xs 1) _ (-2147483648) (show cov (-2147483648) [(-2147483648, -1), (0, 2147483647)] = true by decide +kernel) (Int32.le_toInt _)
  exact sOK2_ok (List.all_eq_true.mp hl q hq) xs h1 h2
end XL
