/-! ===== each operation, held against the machine's own instruction ===== -/
section IVP
variable {p : Program} {l : Launch} {e : Env} {R : Room} {s : State} {m : MethodId} {args : Array Value} {below : List Frame} {meth : Method} {c : Code} {Q : State → Prop} {ad cy : Nat → Nat} {D : va_G} {base L : Nat} {xs : Nat → Int32} {M c0 n0 nL : Nat}
/-- what a body stands on -/
def iv_C0 (ad cy : Nat → Nat) (D : va_G) (base L : Nat) (xs : Nat → Int32) (p : Program) (s : State) (m : MethodId) (args : Array Value) (meth : Method) (c : Code) (cc : ByteArray) (nL : Nat) (own : Nat) (nm : String) : Prop :=
  p.tables.exec = Jvm.exec ∧ c.code = cc ∧ c.maxLocals = nL ∧ s.vm.findClass (iv_R own) = some m.cls ∧ (∀ w ∈ iv_G, w.before args s = true) ∧ iv_K ad cy D base L xs s ∧ (nm = "<init>" → meth.name = "<init>")
/-- the machine goes on well from here, wherever the cells lie -/
def iv_Nx (ad cy : Nat → Nat) (D : va_G) (base c0 n0 nL : Nat) (p : Program) (l : Launch) (e : Env) (R : Room) (s : State) (m : MethodId) (args : Array Value) (below : List Frame) (meth : Method) (c : Code) (Q : State → Prop) (pc : Nat) (lv : iv_L) (st : List Value) (σ : iv_H) : Prop :=
  ∀ (H : Heap) (locs : List Loc) (ls : Array Slot), lv_has ls nL (iv_ml ad lv) → va_P D vwCl (iv_W ad cy σ) H → va_S (iv_A base) s.heap H locs → W p l e R s m args below meth c H locs (σ.1 - c0) (σ.2.2 - n0) Q (F0 m pc ls (iv_sm ad st))
variable {cc : ByteArray} {pc pc' len own : Nat} {lv lv' : iv_L} {st st' : List Value} {σ σ' : iv_H}
theorem iv_s_K {v : Value} (k : iv_Nx ad cy D base c0 n0 nL p l e R s m args below meth c Q pc' lv' st' σ') (h : iv_oK v len L xs pc lv st σ = some (pc', lv', st', σ')) (row : ∀ {H : Heap} {locs : List Loc} {ls : Array Slot} {rest : List Value} {cells slots : Nat}, W p l e R s m args below meth c H locs cells slots Q (F0 m (pc + len) ls (iv_v ad v :: rest)) → W p l e R s m args below meth c H locs cells slots Q (F0 m pc ls rest)) : iv_Nx ad cy D base c0 n0 nL p l e R s m args below meth c Q pc lv st σ := by
  simp only [iv_oK, Option.some.injEq, Prod.mk.injEq] at h
  obtain ⟨rfl, rfl, rfl, rfl⟩ := h
  intro H locs ls hv hP hS
  exact row (k H locs ls hv hP hS)
theorem iv_s_I {j : Nat} (k : iv_Nx ad cy D base c0 n0 nL p l e R s m args below meth c Q pc' lv' st' σ') (h : iv_oI j len L xs pc lv st σ = some (pc', lv', st', σ')) (row : ∀ {H : Heap} {locs : List Loc} {ls : Array Slot} {rest : List Value} {cells slots : Nat} {x : Int32}, ls[j]? = some (.val (.int x)) → W p l e R s m args below meth c H locs cells slots Q (F0 m (pc + len) ls (.int x :: rest)) → W p l e R s m args below meth c H locs cells slots Q (F0 m pc ls rest)) : iv_Nx ad cy D base c0 n0 nL p l e R s m args below meth c Q pc lv st σ := by
  unfold iv_oI at h
  split at h
  · rename_i x hx
    simp only [Option.some.injEq, Prod.mk.injEq] at h
    obtain ⟨rfl, rfl, rfl, rfl⟩ := h
    intro H locs ls hv hP hS
    exact row (iv_lv hv hx) (k H locs ls hv hP hS)
  · cases h
theorem iv_s_J {j : Nat} (k : iv_Nx ad cy D base c0 n0 nL p l e R s m args below meth c Q pc' lv' st' σ') (h : iv_oJ j len L xs pc lv st σ = some (pc', lv', st', σ')) (row : ∀ {H : Heap} {locs : List Loc} {ls : Array Slot} {rest : List Value} {cells slots : Nat} {x : Int64}, ls[j]? = some (.val (.long x)) → W p l e R s m args below meth c H locs cells slots Q (F0 m (pc + len) ls (.long x :: rest)) → W p l e R s m args below meth c H locs cells slots Q (F0 m pc ls rest)) : iv_Nx ad cy D base c0 n0 nL p l e R s m args below meth c Q pc lv st σ := by
  unfold iv_oJ at h
  split at h
  · rename_i x hx
    simp only [Option.some.injEq, Prod.mk.injEq] at h
    obtain ⟨rfl, rfl, rfl, rfl⟩ := h
    intro H locs ls hv hP hS
    exact row (iv_lv hv hx) (k H locs ls hv hP hS)
  · cases h
theorem iv_s_A {j : Nat} (k : iv_Nx ad cy D base c0 n0 nL p l e R s m args below meth c Q pc' lv' st' σ') (h : iv_oA j len L xs pc lv st σ = some (pc', lv', st', σ')) (row : ∀ {H : Heap} {locs : List Loc} {ls : Array Slot} {rest : List Value} {cells slots : Nat} {x : Nat}, ls[j]? = some (.val (.ref x)) → W p l e R s m args below meth c H locs cells slots Q (F0 m (pc + len) ls (.ref x :: rest)) → W p l e R s m args below meth c H locs cells slots Q (F0 m pc ls rest)) : iv_Nx ad cy D base c0 n0 nL p l e R s m args below meth c Q pc lv st σ := by
  unfold iv_oA at h
  split at h
  · rename_i x hx
    simp only [Option.some.injEq, Prod.mk.injEq] at h
    obtain ⟨rfl, rfl, rfl, rfl⟩ := h
    intro H locs ls hv hP hS
    exact row (iv_lv hv hx) (k H locs ls hv hP hS)
  · cases h
/-- stores: the new locals -/
theorem iv_s_IS {j : Nat} (k : iv_Nx ad cy D base c0 n0 nL p l e R s m args below meth c Q pc' lv' st' σ') (h : iv_oIS j len L xs pc lv st σ = some (pc', lv', st', σ')) (row : ∀ {H : Heap} {locs : List Loc} {ls : Array Slot} {rest : List Value} {cells slots : Nat} {x : Int32} {l1 : iv_L}, lv_has ls nL l1 → (∀ ls' : Array Slot, lv_has ls' nL ((j, .int x) :: l1.filter (fun q => !(q.1 == j) && !(q.1 + 1 == j && q.2.category == 2))) → W p l e R s m args below meth c H locs cells slots Q (F0 m (pc + len) ls' rest)) → W p l e R s m args below meth c H locs cells slots Q (F0 m pc ls (.int x :: rest))) : iv_Nx ad cy D base c0 n0 nL p l e R s m args below meth c Q pc lv st σ := by
  unfold iv_oIS at h
  split at h
  · rename_i x r
    simp only [Option.some.injEq, Prod.mk.injEq] at h
    obtain ⟨rfl, rfl, rfl, rfl⟩ := h
    intro H locs ls hv hP hS
    exact row (x := x) hv (fun ls' hl' => k H locs ls' (iv_lv1 (v := .int x) hl') hP hS)
  · cases h
theorem iv_s_AS {j : Nat} (k : iv_Nx ad cy D base c0 n0 nL p l e R s m args below meth c Q pc' lv' st' σ') (h : iv_oAS j len L xs pc lv st σ = some (pc', lv', st', σ')) (row : ∀ {H : Heap} {locs : List Loc} {ls : Array Slot} {rest : List Value} {cells slots : Nat} {x : Nat} {l1 : iv_L}, lv_has ls nL l1 → (∀ ls' : Array Slot, lv_has ls' nL ((j, .ref x) :: l1.filter (fun q => !(q.1 == j) && !(q.1 + 1 == j && q.2.category == 2))) → W p l e R s m args below meth c H locs cells slots Q (F0 m (pc + len) ls' rest)) → W p l e R s m args below meth c H locs cells slots Q (F0 m pc ls (.ref x :: rest))) : iv_Nx ad cy D base c0 n0 nL p l e R s m args below meth c Q pc lv st σ := by
  unfold iv_oAS at h
  split at h
  · rename_i x r
    simp only [Option.some.injEq, Prod.mk.injEq] at h
    obtain ⟨rfl, rfl, rfl, rfl⟩ := h
    intro H locs ls hv hP hS
    exact row (x := ad x) hv (fun ls' hl' => k H locs ls' (iv_lv1 (v := .ref x) hl') hP hS)
  · cases h
theorem iv_s_JS {j : Nat} (k : iv_Nx ad cy D base c0 n0 nL p l e R s m args below meth c Q pc' lv' st' σ') (h : iv_oJS j len L xs pc lv st σ = some (pc', lv', st', σ')) (row : ∀ {H : Heap} {locs : List Loc} {ls : Array Slot} {rest : List Value} {cells slots : Nat} {x : Int64} {l1 : iv_L}, lv_has ls nL l1 → (∀ ls' : Array Slot, lv_has ls' nL ((j, .long x) :: l1.filter (fun q => !(q.1 == j) && (!(q.1 == j + 1) && !(q.1 + 1 == j && q.2.category == 2)))) → W p l e R s m args below meth c H locs cells slots Q (F0 m (pc + len) ls' rest)) → W p l e R s m args below meth c H locs cells slots Q (F0 m pc ls (.long x :: rest))) : iv_Nx ad cy D base c0 n0 nL p l e R s m args below meth c Q pc lv st σ := by
  unfold iv_oJS at h
  split at h
  · rename_i x r
    simp only [Option.some.injEq, Prod.mk.injEq] at h
    obtain ⟨rfl, rfl, rfl, rfl⟩ := h
    intro H locs ls hv hP hS
    exact row (x := x) hv (fun ls' hl' => k H locs ls' (iv_lv2 (v := .long x) hl') hP hS)
  · cases h
theorem iv_s_Inc {j : Nat} {z : Int} (hx0 : p.tables.exec = Jvm.exec) (hb : c.code = cc) (hd : decode cc pc = .ok (.iinc j z, 3)) (hn : j < nL) (k : iv_Nx ad cy D base c0 n0 nL p l e R s m args below meth c Q pc' lv' st' σ') (h : iv_oInc j z L xs pc lv st σ = some (pc', lv', st', σ')) : iv_Nx ad cy D base c0 n0 nL p l e R s m args below meth c Q pc lv st σ := by
  unfold iv_oInc at h
  split at h
  · rename_i x hx
    simp only [Option.some.injEq, Prod.mk.injEq] at h
    obtain ⟨rfl, rfl, rfl, rfl⟩ := h
    intro H locs ls hv hP hS
    obtain ⟨i0, hi0⟩ := iv_lv_idx (ad := ad) hx
    exact lv_iinc (v := x + Int32.ofInt z) hx0 hb hd hv (k := i0) hi0 rfl hn rfl (fun ls' hl' => k H locs ls' (iv_lv1 (v := .int (x + Int32.ofInt z)) hl') hP hS)
  · cases h
theorem iv_s_II {f : Int32 → Int32 → Int32} (k : iv_Nx ad cy D base c0 n0 nL p l e R s m args below meth c Q pc' lv' st' σ') (h : iv_oII f L xs pc lv st σ = some (pc', lv', st', σ')) (row : ∀ {H : Heap} {locs : List Loc} {ls : Array Slot} {rest : List Value} {cells slots : Nat} {x y : Int32}, W p l e R s m args below meth c H locs cells slots Q (F0 m (pc + 1) ls (.int (f x y) :: rest)) → W p l e R s m args below meth c H locs cells slots Q (F0 m pc ls (.int y :: .int x :: rest))) : iv_Nx ad cy D base c0 n0 nL p l e R s m args below meth c Q pc lv st σ := by
  unfold iv_oII at h
  split at h
  · simp only [Option.some.injEq, Prod.mk.injEq] at h
    obtain ⟨rfl, rfl, rfl, rfl⟩ := h
    intro H locs ls hv hP hS
    exact row (k H locs ls hv hP hS)
  · cases h
theorem iv_s_JJ {f : Int64 → Int64 → Int64} (k : iv_Nx ad cy D base c0 n0 nL p l e R s m args below meth c Q pc' lv' st' σ') (h : iv_oJJ f L xs pc lv st σ = some (pc', lv', st', σ')) (row : ∀ {H : Heap} {locs : List Loc} {ls : Array Slot} {rest : List Value} {cells slots : Nat} {x y : Int64}, W p l e R s m args below meth c H locs cells slots Q (F0 m (pc + 1) ls (.long (f x y) :: rest)) → W p l e R s m args below meth c H locs cells slots Q (F0 m pc ls (.long y :: .long x :: rest))) : iv_Nx ad cy D base c0 n0 nL p l e R s m args below meth c Q pc lv st σ := by
  unfold iv_oJJ at h
  split at h
  · simp only [Option.some.injEq, Prod.mk.injEq] at h
    obtain ⟨rfl, rfl, rfl, rfl⟩ := h
    intro H locs ls hv hP hS
    exact row (k H locs ls hv hP hS)
  · cases h
theorem iv_s_JI {f : Int64 → Int32 → Int64} (k : iv_Nx ad cy D base c0 n0 nL p l e R s m args below meth c Q pc' lv' st' σ') (h : iv_oJI f L xs pc lv st σ = some (pc', lv', st', σ')) (row : ∀ {H : Heap} {locs : List Loc} {ls : Array Slot} {rest : List Value} {cells slots : Nat} {x : Int64} {y : Int32}, W p l e R s m args below meth c H locs cells slots Q (F0 m (pc + 1) ls (.long (f x y) :: rest)) → W p l e R s m args below meth c H locs cells slots Q (F0 m pc ls (.int y :: .long x :: rest))) : iv_Nx ad cy D base c0 n0 nL p l e R s m args below meth c Q pc lv st σ := by
  unfold iv_oJI at h
  split at h
  · simp only [Option.some.injEq, Prod.mk.injEq] at h
    obtain ⟨rfl, rfl, rfl, rfl⟩ := h
    intro H locs ls hv hP hS
    exact row (k H locs ls hv hP hS)
  · cases h
theorem iv_s_DI {f : Int32 → Int32 → Int32} (k : iv_Nx ad cy D base c0 n0 nL p l e R s m args below meth c Q pc' lv' st' σ') (h : iv_oDI f L xs pc lv st σ = some (pc', lv', st', σ')) (row : ∀ {H : Heap} {locs : List Loc} {ls : Array Slot} {rest : List Value} {cells slots : Nat} {x y : Int32}, ¬ y = 0 → W p l e R s m args below meth c H locs cells slots Q (F0 m (pc + 1) ls (.int (f x y) :: rest)) → W p l e R s m args below meth c H locs cells slots Q (F0 m pc ls (.int y :: .int x :: rest))) : iv_Nx ad cy D base c0 n0 nL p l e R s m args below meth c Q pc lv st σ := by
  unfold iv_oDI at h
  split at h
  · rename_i y x r
    by_cases hy : y = 0
    · rw [decide_eq_true hy] at h; cases h
    · rw [decide_eq_false hy] at h
      simp only [cond_false, Option.some.injEq, Prod.mk.injEq] at h
      obtain ⟨rfl, rfl, rfl, rfl⟩ := h
      intro H locs ls hv hP hS
      exact row hy (k H locs ls hv hP hS)
  · cases h
theorem iv_s_DJ {f : Int64 → Int64 → Int64} (k : iv_Nx ad cy D base c0 n0 nL p l e R s m args below meth c Q pc' lv' st' σ') (h : iv_oDJ f L xs pc lv st σ = some (pc', lv', st', σ')) (row : ∀ {H : Heap} {locs : List Loc} {ls : Array Slot} {rest : List Value} {cells slots : Nat} {x y : Int64}, ¬ y = 0 → W p l e R s m args below meth c H locs cells slots Q (F0 m (pc + 1) ls (.long (f x y) :: rest)) → W p l e R s m args below meth c H locs cells slots Q (F0 m pc ls (.long y :: .long x :: rest))) : iv_Nx ad cy D base c0 n0 nL p l e R s m args below meth c Q pc lv st σ := by
  unfold iv_oDJ at h
  split at h
  · rename_i y x r
    by_cases hy : y = 0
    · rw [decide_eq_true hy] at h; cases h
    · rw [decide_eq_false hy] at h
      simp only [cond_false, Option.some.injEq, Prod.mk.injEq] at h
      obtain ⟨rfl, rfl, rfl, rfl⟩ := h
      intro H locs ls hv hP hS
      exact row hy (k H locs ls hv hP hS)
  · cases h
theorem iv_s_Cmp (k : iv_Nx ad cy D base c0 n0 nL p l e R s m args below meth c Q pc' lv' st' σ') (h : iv_oCmp L xs pc lv st σ = some (pc', lv', st', σ')) (row : ∀ {H : Heap} {locs : List Loc} {ls : Array Slot} {rest : List Value} {cells slots : Nat} {x y : Int64}, W p l e R s m args below meth c H locs cells slots Q (F0 m (pc + 1) ls (.int (lg_cmp x y) :: rest)) → W p l e R s m args below meth c H locs cells slots Q (F0 m pc ls (.long y :: .long x :: rest))) : iv_Nx ad cy D base c0 n0 nL p l e R s m args below meth c Q pc lv st σ := by
  unfold iv_oCmp at h
  split at h
  · simp only [Option.some.injEq, Prod.mk.injEq] at h
    obtain ⟨rfl, rfl, rfl, rfl⟩ := h
    intro H locs ls hv hP hS
    exact row (k H locs ls hv hP hS)
  · cases h
theorem iv_s_UI {f : Int32 → Value} (k : iv_Nx ad cy D base c0 n0 nL p l e R s m args below meth c Q pc' lv' st' σ') (h : iv_oUI f L xs pc lv st σ = some (pc', lv', st', σ')) (row : ∀ {H : Heap} {locs : List Loc} {ls : Array Slot} {rest : List Value} {cells slots : Nat} {x : Int32}, W p l e R s m args below meth c H locs cells slots Q (F0 m (pc + 1) ls (iv_v ad (f x) :: rest)) → W p l e R s m args below meth c H locs cells slots Q (F0 m pc ls (.int x :: rest))) : iv_Nx ad cy D base c0 n0 nL p l e R s m args below meth c Q pc lv st σ := by
  unfold iv_oUI at h
  split at h
  · simp only [Option.some.injEq, Prod.mk.injEq] at h
    obtain ⟨rfl, rfl, rfl, rfl⟩ := h
    intro H locs ls hv hP hS
    exact row (k H locs ls hv hP hS)
  · cases h
theorem iv_s_L2I (k : iv_Nx ad cy D base c0 n0 nL p l e R s m args below meth c Q pc' lv' st' σ') (h : iv_oL2I L xs pc lv st σ = some (pc', lv', st', σ')) (row : ∀ {H : Heap} {locs : List Loc} {ls : Array Slot} {rest : List Value} {cells slots : Nat} {x : Int64}, W p l e R s m args below meth c H locs cells slots Q (F0 m (pc + 1) ls (.int x.toInt32 :: rest)) → W p l e R s m args below meth c H locs cells slots Q (F0 m pc ls (.long x :: rest))) : iv_Nx ad cy D base c0 n0 nL p l e R s m args below meth c Q pc lv st σ := by
  unfold iv_oL2I at h
  split at h
  · simp only [Option.some.injEq, Prod.mk.injEq] at h
    obtain ⟨rfl, rfl, rfl, rfl⟩ := h
    intro H locs ls hv hP hS
    exact row (k H locs ls hv hP hS)
  · cases h
theorem iv_s_Dup (hx0 : p.tables.exec = Jvm.exec) (hb : c.code = cc) (hd : decode cc pc = .ok (.dup, 1)) (k : iv_Nx ad cy D base c0 n0 nL p l e R s m args below meth c Q pc' lv' st' σ') (h : iv_oDup L xs pc lv st σ = some (pc', lv', st', σ')) : iv_Nx ad cy D base c0 n0 nL p l e R s m args below meth c Q pc lv st σ := by
  unfold iv_oDup at h
  split at h
  · rename_i v r
    cases hc : Nat.beq v.category 1 <;> rw [hc] at h
    · cases h
    · simp only [cond_true, Option.some.injEq, Prod.mk.injEq] at h
      obtain ⟨rfl, rfl, rfl, rfl⟩ := h
      intro H locs ls hv hP hS
      exact lv_dup (va := iv_v ad v) hx0 hb hd (by rw [iv_v_cat]; exact Nat.eq_of_beq_eq_true hc) (k H locs ls hv hP hS)
  · cases h
theorem iv_s_Pop (hx0 : p.tables.exec = Jvm.exec) (hb : c.code = cc) (hd : decode cc pc = .ok (.pop, 1)) (k : iv_Nx ad cy D base c0 n0 nL p l e R s m args below meth c Q pc' lv' st' σ') (h : iv_oPop L xs pc lv st σ = some (pc', lv', st', σ')) : iv_Nx ad cy D base c0 n0 nL p l e R s m args below meth c Q pc lv st σ := by
  unfold iv_oPop at h
  split at h
  · rename_i v r
    cases hc : Nat.beq v.category 1 <;> rw [hc] at h
    · cases h
    · simp only [cond_true, Option.some.injEq, Prod.mk.injEq] at h
      obtain ⟨rfl, rfl, rfl, rfl⟩ := h
      intro H locs ls hv hP hS
      exact lv_pop (va := iv_v ad v) hx0 hb hd (by rw [iv_v_cat]; exact Nat.eq_of_beq_eq_true hc) (k H locs ls hv hP hS)
  · cases h
theorem iv_s_Dup2 (hx0 : p.tables.exec = Jvm.exec) (hb : c.code = cc) (hd : decode cc pc = .ok (.dup2, 1)) (k : iv_Nx ad cy D base c0 n0 nL p l e R s m args below meth c Q pc' lv' st' σ') (h : iv_oDup2 L xs pc lv st σ = some (pc', lv', st', σ')) : iv_Nx ad cy D base c0 n0 nL p l e R s m args below meth c Q pc lv st σ := by
  unfold iv_oDup2 at h
  split at h
  · rename_i v w r
    cases hc : (Nat.beq v.category 1 && Nat.beq w.category 1) <;> rw [hc] at h
    · cases h
    · simp only [cond_true, Option.some.injEq, Prod.mk.injEq] at h
      obtain ⟨rfl, rfl, rfl, rfl⟩ := h
      rw [Bool.and_eq_true] at hc
      intro H locs ls hv hP hS
      exact lv_dup2_11 (va := iv_v ad v) (vb := iv_v ad w) hx0 hb hd (by rw [iv_v_cat]; exact Nat.eq_of_beq_eq_true hc.1) (by rw [iv_v_cat]; exact Nat.eq_of_beq_eq_true hc.2) (k H locs ls hv hP hS)
  · cases h
theorem iv_s_go {off : Int} (k : iv_Nx ad cy D base c0 n0 nL p l e R s m args below meth c Q pc' lv' st' σ') (h : iv_go pc off lv st σ = some (pc', lv', st', σ')) : (pc : Int) + off = (pc' : Int) ∧ iv_Nx ad cy D base c0 n0 nL p l e R s m args below meth c Q pc' lv st σ := by
  unfold iv_go at h
  split at h
  · rename_i t ht
    simp only [Option.some.injEq, Prod.mk.injEq] at h
    obtain ⟨rfl, rfl, rfl, rfl⟩ := h
    exact ⟨iv_tgt_ok ht, k⟩
  · cases h
theorem iv_s_br {off : Int} {b : Bool} (k : iv_Nx ad cy D base c0 n0 nL p l e R s m args below meth c Q pc' lv' st' σ') (h : iv_br b pc off lv st σ = some (pc', lv', st', σ')) : ∃ t : Nat, (pc : Int) + off = (t : Int) ∧ (b = true → iv_Nx ad cy D base c0 n0 nL p l e R s m args below meth c Q t lv st σ) ∧ (b = false → iv_Nx ad cy D base c0 n0 nL p l e R s m args below meth c Q (pc + 3) lv st σ) := by
  unfold iv_br at h
  split at h
  · rename_i t ht
    refine ⟨t, iv_tgt_ok ht, fun hb => ?_, fun hb => ?_⟩
    · rw [hb] at h
      simp only [cond_true, Option.some.injEq, Prod.mk.injEq] at h
      obtain ⟨rfl, rfl, rfl, rfl⟩ := h
      exact k
    · rw [hb] at h
      simp only [cond_false, Option.some.injEq, Prod.mk.injEq] at h
      obtain ⟨rfl, rfl, rfl, rfl⟩ := h
      exact k
  · cases h
theorem iv_s_Go {off : Int} (hx0 : p.tables.exec = Jvm.exec) (hb : c.code = cc) (hd : decode cc pc = .ok (.goto off, 3)) (k : iv_Nx ad cy D base c0 n0 nL p l e R s m args below meth c Q pc' lv' st' σ') (h : iv_oGo off L xs pc lv st σ = some (pc', lv', st', σ')) : iv_Nx ad cy D base c0 n0 nL p l e R s m args below meth c Q pc lv st σ := by
  obtain ⟨ht, k2⟩ := iv_s_go k h
  intro H locs ls hv hP hS
  exact lv_goto hx0 hb hd ht (k2 H locs ls hv hP hS)
theorem iv_s_If {cd : ClassFile.Cond} {off : Int} (hx0 : p.tables.exec = Jvm.exec) (hb : c.code = cc) (hd : decode cc pc = .ok (.ifCond cd off, 3)) (k : iv_Nx ad cy D base c0 n0 nL p l e R s m args below meth c Q pc' lv' st' σ') (h : iv_oIf cd off L xs pc lv st σ = some (pc', lv', st', σ')) : iv_Nx ad cy D base c0 n0 nL p l e R s m args below meth c Q pc lv st σ := by
  unfold iv_oIf at h
  split at h
  · obtain ⟨t, ht, kt, kf⟩ := iv_s_br k h
    intro H locs ls hv hP hS
    cases cd
    · exact lv_if_eq hx0 hb hd ht (fun q => kt (decide_eq_true q) H locs ls hv hP hS) (fun q => kf (decide_eq_false q) H locs ls hv hP hS)
    · exact lv_if_ne hx0 hb hd ht (fun q => kt (decide_eq_true q) H locs ls hv hP hS) (fun q => kf (decide_eq_false (fun z => z q)) H locs ls hv hP hS)
    · exact lv_if_lt hx0 hb hd ht (fun q => kt (decide_eq_true q) H locs ls hv hP hS) (fun q => kf (decide_eq_false q) H locs ls hv hP hS)
    · exact lv_if_ge hx0 hb hd ht (fun q => kt (decide_eq_true q) H locs ls hv hP hS) (fun q => kf (decide_eq_false q) H locs ls hv hP hS)
    · exact lv_if_gt hx0 hb hd ht (fun q => kt (decide_eq_true q) H locs ls hv hP hS) (fun q => kf (decide_eq_false q) H locs ls hv hP hS)
    · exact lv_if_le hx0 hb hd ht (fun q => kt (decide_eq_true q) H locs ls hv hP hS) (fun q => kf (decide_eq_false q) H locs ls hv hP hS)
  · cases h
theorem iv_s_Ic {cd : ClassFile.Cond} {off : Int} (hx0 : p.tables.exec = Jvm.exec) (hb : c.code = cc) (hd : decode cc pc = .ok (.if_icmp cd off, 3)) (k : iv_Nx ad cy D base c0 n0 nL p l e R s m args below meth c Q pc' lv' st' σ') (h : iv_oIc cd off L xs pc lv st σ = some (pc', lv', st', σ')) : iv_Nx ad cy D base c0 n0 nL p l e R s m args below meth c Q pc lv st σ := by
  unfold iv_oIc at h
  split at h
  · obtain ⟨t, ht, kt, kf⟩ := iv_s_br k h
    intro H locs ls hv hP hS
    cases cd
    · exact lv_icmp_eq hx0 hb hd ht (fun q => kt (decide_eq_true q) H locs ls hv hP hS) (fun q => kf (decide_eq_false q) H locs ls hv hP hS)
    · exact lv_icmp_ne hx0 hb hd ht (fun q => kt (decide_eq_true q) H locs ls hv hP hS) (fun q => kf (decide_eq_false (fun z => z q)) H locs ls hv hP hS)
    · exact lv_icmp_lt hx0 hb hd ht (fun q => kt (decide_eq_true q) H locs ls hv hP hS) (fun q => kf (decide_eq_false q) H locs ls hv hP hS)
    · exact lv_icmp_ge hx0 hb hd ht (fun q => kt (decide_eq_true q) H locs ls hv hP hS) (fun q => kf (decide_eq_false q) H locs ls hv hP hS)
    · exact lv_icmp_gt hx0 hb hd ht (fun q => kt (decide_eq_true q) H locs ls hv hP hS) (fun q => kf (decide_eq_false q) H locs ls hv hP hS)
    · exact lv_icmp_le hx0 hb hd ht (fun q => kt (decide_eq_true q) H locs ls hv hP hS) (fun q => kf (decide_eq_false q) H locs ls hv hP hS)
  · cases h
theorem iv_s_Ts {dflt lo hi : Int} {offs : Array Int} (hx0 : p.tables.exec = Jvm.exec) (hb : c.code = cc) (hd : decode cc pc = .ok (.tableswitch dflt lo hi offs, len)) (k : iv_Nx ad cy D base c0 n0 nL p l e R s m args below meth c Q pc' lv' st' σ') (h : iv_oTs dflt lo hi offs L xs pc lv st σ = some (pc', lv', st', σ')) : iv_Nx ad cy D base c0 n0 nL p l e R s m args below meth c Q pc lv st σ := by
  unfold iv_oTs at h
  split at h
  · rename_i x r
    cases hc : (decide (x.toInt < lo) || decide (hi < x.toInt)) <;> rw [hc] at h
    · rw [Bool.or_eq_false_iff] at hc
      simp only [cond_false] at h
      split at h
      · rename_i off ho
        obtain ⟨ht, k2⟩ := iv_s_go k h
        intro H locs ls hv hP hS
        refine lv_tableIn hx0 hb hd (of_decide_eq_false hc.1) (of_decide_eq_false hc.2) (off := off) ?_ ht (k2 H locs ls hv hP hS)
        rw [iv_nth_eq] at ho
        rw [← ho]
        simp
      · cases h
    · rw [Bool.or_eq_true] at hc
      simp only [cond_true] at h
      obtain ⟨ht, k2⟩ := iv_s_go k h
      intro H locs ls hv hP hS
      exact lv_tableOut hx0 hb hd (hc.imp of_decide_eq_true of_decide_eq_true) ht (k2 H locs ls hv hP hS)
  · cases h
theorem iv_s_Ls {dflt : Int} {ps : Array (Int × Int)} (hx0 : p.tables.exec = Jvm.exec) (hb : c.code = cc) (hd : decode cc pc = .ok (.lookupswitch dflt ps, len)) (k : iv_Nx ad cy D base c0 n0 nL p l e R s m args below meth c Q pc' lv' st' σ') (h : iv_oLs dflt ps L xs pc lv st σ = some (pc', lv', st', σ')) : iv_Nx ad cy D base c0 n0 nL p l e R s m args below meth c Q pc lv st σ := by
  unfold iv_oLs at h
  split at h
  · rename_i x r
    cases hc : ((ps.toList.zip (ps.toList.drop 1)).all (fun (a, next) => a.1 < next.1)) <;> rw [hc] at h
    · cases h
    · simp only [cond_true] at h
      obtain ⟨ht, k2⟩ := iv_s_go k h
      intro H locs ls hv hP hS
      exact lv_lookup hx0 hb hd hc rfl ht (k2 H locs ls hv hP hS)
  · cases h
end IVP
