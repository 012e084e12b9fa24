/-! ===== new int[n][k]: the instruction has no law among the rounds' texts; here it is proved over the machine's own words (as the library does it for its shelf) ===== -/
/-- the outer array, i of its places filled -/
def mu_out (cA : ClassId) (N h0 : Nat) : Nat → Cell
  | 0 => { cls := cA, slots := Array.replicate N .null, vm := .none }
  | i + 1 => (mu_out cA N h0 i).setSlot i (.ref (h0 + 1 + i))
abbrev mu_in (cI : ClassId) (K : Nat) : Cell := { cls := cI, slots := Array.replicate K (.int 0), vm := .none }
/-- the state with i rows made -/
def mu_fill (T : State) (cA cI : ClassId) (N K : Nat) : Nat → State
  | 0 => T.pushCell (mu_out cA N T.heap.size 0)
  | i + 1 => ((mu_fill T cA cI N K i).pushCell (mu_in cI K)).setCell T.heap.size (mu_out cA N T.heap.size (i + 1))
theorem mu_out_ok (cA : ClassId) (N h0 : Nat) : ∀ i, (mu_out cA N h0 i).cls = cA ∧ (mu_out cA N h0 i).vm = .none ∧ (mu_out cA N h0 i).slots.size = N
  | 0 => ⟨rfl, rfl, by simp [mu_out]⟩
  | i + 1 => by
    obtain ⟨q1, q2, q3⟩ := mu_out_ok cA N h0 i
    exact ⟨by simp [mu_out, Cell.setSlot, q1], by simp [mu_out, Cell.setSlot, q2], by simp [mu_out, Cell.setSlot, q3]⟩
theorem mu_out_arr (cA : ClassId) (N h0 : Nat) : ∀ i : Nat, mu_out cA N h0 i = arrV cA N (fun j => va_rf (if j < i then some (h0 + 1 + j) else none))
  | 0 => by
    show ({ cls := cA, slots := Array.replicate N .null, vm := .none } : Cell) = _
    rw [arrV_new]
    refine congrArg (arrV cA N) (funext fun j => ?_)
    simp [va_rf]
  | i + 1 => by
    show (mu_out cA N h0 i).setSlot i (.ref (h0 + 1 + i)) = _
    rw [mu_out_arr cA N h0 i, arrV_store]
    refine congrArg (arrV cA N) (funext fun j => ?_)
    by_cases q : j = i
    · subst q
      simp [updV, va_rf]
    · by_cases h : j < i
      · simp [updV, q, h, Nat.lt_succ_of_lt h]
      · simp [updV, q, h, show ¬ j < i + 1 by omega]
theorem mu_fill_ok (T : State) (cA cI : ClassId) (N K : Nat) : ∀ i, (mu_fill T cA cI N K i).heap.size = T.heap.size + 1 + i ∧ (mu_fill T cA cI N K i).heap[T.heap.size]? = some (mu_out cA N T.heap.size i) ∧ (mu_fill T cA cI N K i).vm = T.vm ∧ (mu_fill T cA cI N K i).slotsUsed = T.slotsUsed + N + i * K
  | 0 => ⟨by simp [mu_fill], by simp [mu_fill], rfl, by simp [mu_fill, mu_out]⟩
  | i + 1 => by
    obtain ⟨q1, q2, q3, q4⟩ := mu_fill_ok T cA cI N K i
    have hlt : T.heap.size < (mu_fill T cA cI N K i).heap.size := by omega
    have q2' : ((mu_fill T cA cI N K i).pushCell (mu_in cI K)).heap[T.heap.size]? = some (mu_out cA N T.heap.size i) := by rw [State.heap_pushCell_of_lt (h := hlt)]; exact q2
    refine ⟨?_, State.heap_setCell_self q2', by simp [mu_fill, q3], ?_⟩
    · simp [mu_fill, State.setCell, q1]; omega
    · simp [mu_fill, q4, Nat.succ_mul]; omega
theorem mu_fill_top (T : State) (f : JFrame) (cA cI : ClassId) (N K : Nat) : ∀ i, mu_fill (T.setTop f) cA cI N K i = (mu_fill T cA cI N K i).setTop f
  | 0 => rfl
  | i + 1 => by simp only [mu_fill, mu_fill_top T f cA cI N K i, State.heap_setTop, State.pushCell_setTop, State.setCell_setTop]
theorem mu_fill_old (T : State) (cA cI : ClassId) (N K : Nat) {a : Addr} (ha : a < T.heap.size) : ∀ i, (mu_fill T cA cI N K i).heap[a]? = T.heap[a]?
  | 0 => State.heap_pushCell_of_lt _ _ ha
  | i + 1 => by
    have q1 := (mu_fill_ok T cA cI N K i).1
    have hlt : a < (mu_fill T cA cI N K i).heap.size := Nat.lt_of_lt_of_le ha (by rw [q1]; omega)
    show (((mu_fill T cA cI N K i).pushCell (mu_in cI K)).setCell T.heap.size _).heap[a]? = _
    rw [State.heap_setCell_other (Nat.ne_of_gt ha), State.heap_pushCell_of_lt (h := hlt)]
    exact mu_fill_old T cA cI N K ha i
theorem mu_fill_in (T : State) (cA cI : ClassId) (N K : Nat) : ∀ i j, j < i → (mu_fill T cA cI N K i).heap[T.heap.size + 1 + j]? = some (mu_in cI K)
  | 0, _, h => absurd h (Nat.not_lt_zero _)
  | i + 1, j, h => by
    have q1 := (mu_fill_ok T cA cI N K i).1
    show (((mu_fill T cA cI N K i).pushCell (mu_in cI K)).setCell T.heap.size _).heap[T.heap.size + 1 + j]? = _
    rw [State.heap_setCell_other (show T.heap.size ≠ T.heap.size + 1 + j by omega)]
    by_cases hj : j < i
    · rw [State.heap_pushCell_of_lt (h := (by rw [q1]; omega : T.heap.size + 1 + j < (mu_fill T cA cI N K i).heap.size))]
      exact mu_fill_in T cA cI N K i j hj
    · have q : j = i := by omega
      subst q
      rw [← q1]
      exact State.heap_pushCell_size _ _
section MUW
variable {E : CtlPost} {e : Env} {d : Bool} {acts : List Action} {s : State}
theorem mu_newArray {cA comp : ClassId} {k : Class} {type : FieldType} {len : Nat} {init : Value} (hk : s.vm.classes[cA]? = some k) (hkind : k.kind = .array comp type) (hlimit : ¬ len > e.platform.arrayLengthLimit) (hheap : ¬ len * componentBytes type > e.platform.maxHeapBytes) (hfit : fits type init = true) (hdef : init.isDefault = true) {Q : Addr → Pre} (h1 : s.heap.size < e.platform.maxCells) (h2 : s.slotsUsed + len ≤ e.platform.maxSlots)
    (hq : Q s.heap.size d acts (s.pushCell { cls := cA, slots := Array.replicate len init, vm := .none })) : wp (Jvm.newArray cA len init) Q E e d acts s := by
  have hfits : ∀ i v, (Array.replicate len init)[i]? = some v → s.fitsSlot cA .none i v = true := by
    intro i v hv
    simp only [Array.getElem?_replicate] at hv
    split at hv
    · cases hv; simp [State.fitsSlot, State.slotType?, hk, hkind, hfit]
    · cases hv
  have hda : allocActs (Array.replicate len init) s.heap.size acts = acts := by
    have hall : ((Array.replicate len init).all (·.isDefault)) = true := by
      rw [Array.all_replicate]; split <;> simp [hdef]
    unfold allocActs
    rw [if_pos hall]
  simp only [Jvm.newArray, Jvm.arrayFits, wp_bind', W.ask, W.ite, hlimit, if_false, wp_pure', W.theClass, hk, hkind, hheap, W.alloc, W.stop, Option.some.injEq, exists_eq_left', Array.size_replicate, hda]
  rw [if_neg (by omega)]
  exact ⟨h1, h2, hfits, hq⟩
theorem mu_row {cI cc : ClassId} {kc : Class} {j : Int32} (hkc : s.vm.classes[cI]? = some kc) (hkindc : kc.kind = .array cc .int) (hj : ¬ j < 0) (hl : ¬ j.toNatClampNeg > e.platform.arrayLengthLimit) (hh : ¬ j.toNatClampNeg * componentBytes .int > e.platform.maxHeapBytes) (h1 : s.heap.size < e.platform.maxCells) (h2 : s.slotsUsed + j.toNatClampNeg ≤ e.platform.maxSlots)
    {Q : Addr → Pre} (hq : Q s.heap.size d acts (s.pushCell (mu_in cI j.toNatClampNeg))) : wp (multianewarray.make cI [j]) Q E e d acts s := by
  rw [multianewarray.make]
  simp only [wp_bind', W.ite, hj, if_false, wp_pure', W.theClass, hkc, hkindc, Option.some.injEq, exists_eq_left']
  exact mu_newArray hkc hkindc hl hh rfl rfl h1 h2 hq
theorem mu_make {cA cI cc : ClassId} {k kc : Class} {n j : Int32} (hk : s.vm.classes[cA]? = some k) (hkind : k.kind = .array cI (.array .int)) (hkc : s.vm.classes[cI]? = some kc) (hkindc : kc.kind = .array cc .int) (hn : ¬ n < 0) (hj : ¬ j < 0)
    (hl1 : ¬ n.toNatClampNeg > e.platform.arrayLengthLimit) (hh1 : ¬ n.toNatClampNeg * componentBytes (.array .int) > e.platform.maxHeapBytes) (hl2 : ¬ j.toNatClampNeg > e.platform.arrayLengthLimit) (hh2 : ¬ j.toNatClampNeg * componentBytes .int > e.platform.maxHeapBytes)
    (hc : s.heap.size + 1 + n.toNatClampNeg ≤ e.platform.maxCells) (hs : s.slotsUsed + n.toNatClampNeg + n.toNatClampNeg * j.toNatClampNeg ≤ e.platform.maxSlots)
    {Q : Addr → Pre} (hq : ∀ d' acts', Q s.heap.size d' acts' (mu_fill s cA cI n.toNatClampNeg j.toNatClampNeg n.toNatClampNeg)) : wp (multianewarray.make cA [n, j]) Q E e d acts s := by
  have hfind : ([j].find? (· < 0)) = none := by simp [hj]
  rw [multianewarray.make]
  simp only [wp_bind', W.ite, hn, if_false, wp_pure', W.theClass, hk, hkind, Option.some.injEq, exists_eq_left']
  refine mu_newArray hk hkind hl1 hh1 rfl rfl (by omega) (by have := Nat.zero_le (n.toNatClampNeg * j.toNatClampNeg); omega) ?_
  simp only [hfind]
  rw [ite_self, wp_bind', Std.Legacy.Range.forIn_eq_forIn_range']
  rw [show ([:n.toNatClampNeg] : Std.Legacy.Range).size = n.toNatClampNeg by simp [Std.Legacy.Range.size]]
  show wp (forIn (List.range' 0 n.toNatClampNeg 1) PUnit.unit _) _ E e d acts _
  refine wp_forIn_inv (fun rest s' => ∃ i, i ≤ n.toNatClampNeg ∧ rest = List.range' i (n.toNatClampNeg - i) ∧ s' = mu_fill s cA cI n.toNatClampNeg j.toNatClampNeg i) _ _ ⟨0, Nat.zero_le _, rfl, rfl⟩ ?_ ?_
  · rintro x rest s' d' acts' Q' ⟨i, hi, hl, rfl⟩ hnext
    have hlt : i < n.toNatClampNeg := by
      rcases Nat.lt_or_ge i n.toNatClampNeg with h | h
      · exact h
      · rw [show n.toNatClampNeg - i = 0 from by omega] at hl; simp at hl
    obtain ⟨rfl, hrest⟩ : x = i ∧ rest = List.range' (i + 1) (n.toNatClampNeg - (i + 1)) := by
      rw [show n.toNatClampNeg - i = (n.toNatClampNeg - (i + 1)) + 1 from by omega, List.range'_succ] at hl
      exact ⟨(List.cons.inj hl).1, (List.cons.inj hl).2⟩
    obtain ⟨f1, f2, f3, f4⟩ := mu_fill_ok s cA cI n.toNatClampNeg j.toNatClampNeg x
    obtain ⟨o1, o2, o3⟩ := mu_out_ok cA n.toNatClampNeg s.heap.size x
    have hmul : x * j.toNatClampNeg + j.toNatClampNeg ≤ n.toNatClampNeg * j.toNatClampNeg := by
      have := Nat.mul_le_mul_right j.toNatClampNeg (show x + 1 ≤ n.toNatClampNeg from hlt)
      rw [Nat.succ_mul] at this; exact this
    simp only [wp_bind']
    refine mu_row (by rw [f3]; exact hkc) hkindc hj hl2 hh2 (by rw [f1]; omega) (by rw [f4]; omega) ?_
    have hlt0 : s.heap.size < (mu_fill s cA cI n.toNatClampNeg j.toNatClampNeg x).heap.size := by rw [f1]; omega
    simp only [wp_bind', W.writeLoc, wp_pure']
    refine ⟨mu_out cA n.toNatClampNeg s.heap.size x, by rw [State.heap_pushCell_of_lt (h := hlt0)]; exact f2, by rw [o2]; simp, by rw [o3]; exact hlt, ?_, hnext _ _ _ ⟨x + 1, hlt, hrest, ?_⟩⟩
    · rw [o1, o2]
      simp [State.fitsSlot, State.slotType?, f3, hk, hkind, fits]
    · rw [f1]; rfl
  · rintro s' d' acts' ⟨i, hi, hl, rfl⟩
    have hiN : i = n.toNatClampNeg := by
      rcases Nat.lt_or_ge i n.toNatClampNeg with h | h
      · rw [show n.toNatClampNeg - i = (n.toNatClampNeg - (i + 1)) + 1 from by omega, List.range'_succ] at hl; cases hl
      · omega
    subst hiN
    simp only [wp_pure']
    exact hq _ _
end MUW
theorem mu_over {args : Array Value} {U : State} (h : (Cond.arrayOver (.array .int)).before args U = true) : ∃ comp cA k, U.vm.findClass (FieldType.array .int).toString = some comp ∧ U.vm.classes[cA]? = some k ∧ k.kind = .array comp (.array .int) ∧ U.vm.findClass ("[" ++ (FieldType.array .int).toString) = some cA := by
  unfold Cond.before Cond.holds at h
  simp only [Cond.value, beq_iff_eq] at h
  cases hc : U.vm.findClass (FieldType.array .int).toString with
  | none => simp [hc] at h
  | some comp =>
    simp only [hc, Option.bind_some, Option.bind_eq_some_iff, Option.map_eq_some_iff] at h
    obtain ⟨cA, hi, k, hk, hb⟩ := h
    obtain ⟨hlt, hp, -⟩ := Array.findIdx?_eq_some_iff_getElem.mp hi
    rw [(Array.getElem?_eq_some_iff.mp hk).2] at hp
    cases hkind : k.kind with
    | array component ty =>
      rw [hkind] at hb hp
      simp at hb hp
      exact ⟨comp, cA, k, rfl, hk, by rw [hkind, hp, hb.1], hb.2⟩
    | _ => rw [hkind] at hb; simp at hb
section MUS
variable {p : Program} {l : Launch} {e : Env} {R : Room} {s : State} {m : MethodId} {args : Array Value} {below : List Frame} {meth : Method} {c : Code} {T : State} {locs : List Loc} {cells slots : Nat}
theorem mu_stand (X : Stand p l e R s m args below meth c T locs cells slots) (cA cI : ClassId) (N K : Nat) : ∀ i, Stand p l e R s m args below meth c (mu_fill T cA cI N K i) (locs ++ (List.range i).map fun j => ⟨T.heap.size, j⟩) (cells + 1 + i) (slots + N + i * K)
  | 0 => by
    have h := X.pushed (mu_out cA N T.heap.size 0)
    rw [(mu_out_ok cA N T.heap.size 0).2.2] at h
    simpa [mu_fill] using h
  | i + 1 => by
    have Xi := mu_stand X cA cI N K i
    obtain ⟨f1, f2, f3, f4⟩ := mu_fill_ok T cA cI N K i
    have hcell : ((mu_fill T cA cI N K i).pushCell (mu_in cI K)).heap[T.heap.size]? = some (mu_out cA N T.heap.size i) := by rw [State.heap_pushCell_of_lt (h := (by rw [f1]; omega : T.heap.size < (mu_fill T cA cI N K i).heap.size))]; exact f2
    have h := (Xi.pushed (mu_in cI K)).stored hcell i (.ref (T.heap.size + 1 + i))
    rw [show (mu_in cI K).slots.size = K by simp] at h
    have e2 : (locs ++ (List.range (i + 1)).map fun j => (⟨T.heap.size, j⟩ : Loc)) = (locs ++ (List.range i).map fun j => (⟨T.heap.size, j⟩ : Loc)) ++ [⟨T.heap.size, i⟩] := by simp [List.range_succ, List.append_assoc]
    rw [e2, show slots + N + (i + 1) * K = slots + N + i * K + K by rw [Nat.succ_mul]; omega]
    exact h
theorem mu_step (X : Stand p l e R s m args below meth c T locs cells slots) (hexec : p.tables.exec = Jvm.exec) {own : String} {index : Nat} (hown : s.vm.findClass own = some m.cls) (hclink : (Cond.classLink own index "[[I").before args s = true) (hover : iv_AOA s) (harr : (Cond.arrayClass .int).before args s = true)
    {g : JFrame} (hg : g.method = m) (hdg : decode c.code g.pc = .ok (.multianewarray index 2, 4)) {n k : Int32} {rest : List Value} (hstack : g.stack = .int k :: .int n :: rest) (hn : ¬ n < 0) (hk : ¬ k < 0) (hb1 : n.toNatClampNeg ≤ 60000000) (hb2 : k.toNatClampNeg ≤ 60000000)
    (hcells : cells + (1 + n.toNatClampNeg) ≤ R.cells) (hslots : slots + (n.toNatClampNeg + n.toNatClampNeg * k.toNatClampNeg) ≤ R.slots) :
    ∃ (vm₁ : Vm) (cA cI : ClassId), s.vm.findClass "[[I" = some cA ∧ s.vm.findClass "[I" = some cI ∧
      Stand p l e R s m args below meth c (mu_fill (T.setVm vm₁) cA cI n.toNatClampNeg k.toNatClampNeg n.toNatClampNeg) (locs ++ (List.range n.toNatClampNeg).map fun j => ⟨T.heap.size, j⟩) (cells + 1 + n.toNatClampNeg) (slots + n.toNatClampNeg + n.toNatClampNeg * k.toNatClampNeg) ∧
      ∀ target, Steps p.tables e below ((mu_fill (T.setVm vm₁) cA cI n.toNatClampNeg k.toNatClampNeg n.toNatClampNeg).setTop { g with pc := g.pc + 4, stack := .ref T.heap.size :: rest }) target → Steps p.tables e below (T.setTop g) target := by
  subst hg
  have hpl : e.platform.magicAccessors = ({} : Platform).magicAccessors := by rw [X.admits.platform]
  obtain ⟨comp, cA, kA, hcomp, hkA, hkindA, hnameA⟩ := mu_over hover
  obtain ⟨comp', kC, cc, hcomp', hkC, hkindC⟩ := Cond.arrayClass_spec harr
  have ecomp : comp' = comp := Option.some.inj (hcomp'.symm.trans hcomp)
  subst ecomp
  obtain ⟨c0, hfc0, hcl⟩ := Cond.classLink_spec hown hclink e.platform hpl
  have ec0 : c0 = cA := Option.some.inj (hfc0.symm.trans hnameA)
  subst ec0
  obtain ⟨hg₁, hwarm₁, hready₁⟩ := State.classEntry (e := e) X.warmed hcl
  generalize T.vm.noted g.method.cls index (.cls c0) = vm₁ at hg₁ hwarm₁ hready₁
  have hal : s.vm.Alike vm₁ := hwarm₁.alike
  obtain ⟨kA₁, hkA₁, heA⟩ := hal.2.2 _ _ hkA
  obtain ⟨kC₁, hkC₁, heC⟩ := hal.2.2 _ _ hkC
  have hkindA₁ : kA₁.kind = .array comp' (.array .int) := by rw [heA]; exact hkindA
  have hkindC₁ : kC₁.kind = .array cc .int := by rw [heC]; exact hkindC
  have X₁ := X.noted hwarm₁
  obtain ⟨hr1, hr2⟩ := X.roomAbove hcells hslots
  refine ⟨vm₁, c0, comp', hfc0, hcomp, mu_stand X₁ c0 comp' _ _ _, fun target hrest => ?_⟩
  have hl1 : ¬ n.toNatClampNeg > e.platform.arrayLengthLimit := by rw [Launch.admits_arrayLengthLimit X.admits]; omega
  have hh1 : ¬ n.toNatClampNeg * componentBytes (.array .int) > e.platform.maxHeapBytes := by rw [Launch.admits_maxHeapBytes X.admits]; show ¬ n.toNatClampNeg * 4 > 536870912; omega
  have hl2 : ¬ k.toNatClampNeg > e.platform.arrayLengthLimit := by rw [Launch.admits_arrayLengthLimit X.admits]; omega
  have hh2 : ¬ k.toNatClampNeg * componentBytes .int > e.platform.maxHeapBytes := by rw [Launch.admits_maxHeapBytes X.admits]; show ¬ k.toNatClampNeg * 4 > 536870912; omega
  jvm_step X.here [hexec, hdg]
  simp only [multianewarray.sem, wp_bind', W.resolveClassAt_links (State.method?_setTop g X.here.top) hg₁]
  rw [W.popN, if_neg (by decide)]
  refine ⟨g, State.topJava?_setTop' (s := T.setVm vm₁) g X.here.top, [.int n, .int k], rest, rfl, hstack, ?_⟩
  simp only [List.mapM_cons, List.mapM_nil, wp_bind', wp_pure']
  refine mu_make (k := kA₁) (kc := kC₁) (cI := comp') (cc := cc) hkA₁ hkindA₁ hkC₁ hkindC₁ hn hk hl1 hh1 hl2 hh2 (by show T.heap.size + 1 + _ ≤ _; omega) (by show T.slotsUsed + _ + _ ≤ _; omega) (fun d' acts' => ?_)
  have XF := mu_stand X₁ c0 comp' n.toNatClampNeg k.toNatClampNeg n.toNatClampNeg
  have eS : ((T.setTop g).setVm vm₁).setTop { g with stack := rest } = (T.setVm vm₁).setTop { g with stack := rest } := by
    show ((T.setVm vm₁).setTop g).setTop _ = _
    rw [State.setTop_setTop]
  rw [eS, mu_fill_top]
  simp only [wp_bind', W.mark, W.pushRef, State.topJava?_setTop' _ XF.here.top, Option.some.injEq, exists_eq_left', State.setTop_setTop, State.heap_setTop]
  intro acts
  simp [jvm, XF.here.top]
  exact hrest
end MUS
