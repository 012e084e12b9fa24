/-! ===== what stays so at every moment: the classes, the constants, the script ===== -/
def iv_tys (cy : Nat → Nat) : List (ClassId × FieldType) := [(cy 0, .int), (cy 1, .long), (cy 2, .boolean), (cy 3, .object RX4), (cy 4, .object RX8), (cy 5, .object RX7), (cy 6, .object RX11), (cy 7, .array .int)]
def iv_AOA (U : State) : Prop := (Cond.arrayOver (.array .int)).before #[] U = true
theorem iv_AOA_moved {u U : State} (hvm : u.vm.Alike U.vm) (h : iv_AOA u) : iv_AOA U := by
  unfold iv_AOA Cond.before Cond.holds at h ⊢
  simp only [Cond.value] at h ⊢
  cases hc : u.vm.findClass (FieldType.array .int).toString with
  | none => rw [hc] at h; cases h
  | some comp =>
    have f1 : U.vm.findClass (FieldType.array .int).toString = some comp := by rw [hvm.findClass]; exact hc
    rw [hc, Option.bind_some] at h
    rw [f1, Option.bind_some]
    have hi : (U.vm.classes.findIdx? fun (x : Class) => match x.kind with | .array component _ => component == comp | _ => false) = (u.vm.classes.findIdx? fun (x : Class) => match x.kind with | .array component _ => component == comp | _ => false) := by
      have a1 := va_idx_bare U.vm comp
      have a2 := va_idx_bare u.vm comp
      first | rw [hvm.bare_eq] at a1 | rw [← hvm.bare_eq] at a1
      exact a1.symm.trans a2
    cases hx : (u.vm.classes.findIdx? fun (x : Class) => match x.kind with | .array component _ => component == comp | _ => false) with
    | none => 
      erw [hx] at h
      cases h
    | some c =>
      erw [hx] at h
      erw [hi, hx]
      rw [Option.bind_some] at h ⊢
      cases hk : u.vm.classes[c]? with
      | none => rw [hk] at h; cases h
      | some k =>
        obtain ⟨k', hk', he⟩ := hvm.2.2 _ _ hk
        rw [hk] at h
        rw [hk']
        have e1 : k'.kind = k.kind := by rw [he]
        simp only [Option.map_some] at h ⊢
        rw [e1, hvm.findClass]
        exact h
def iv_Fl : List (String × String × String × List Int32) := [("java/lang/Enum", "ordinal", "I", (List.range 28).map Int32.ofNat)]
def iv_aoC : List String := [RX4, RX8, RX7, RX11]
/-- the String constants -/
def iv_St (ad : Nat → Nat) (A : Nat → Prop) (U : State) (H : Heap) : Prop := ∀ i : Nat, i < 32 → va_O "java/lang/String" (ad (2 * i + 203)) A U H ∧ va_OF "java/lang/String" "coder" "B" (.int 0) (ad (2 * i + 203)) A U H ∧ ∃ v : Nat, va_OF "java/lang/String" "value" "[B" (.ref v) (ad (2 * i + 203)) A U H ∧ va_T .byte v (iv_sx (2 * i + 203)).length (fun j => .int ((iv_sx (2 * i + 203)).getD j 0)) A U H
/-- the texts of Word, Word.ALL, what String and Preconditions have of statics, what ldc loads -/
def iv_Wx (ad : Nat → Nat) (A : Nat → Prop) (U : State) (H : Heap) : Prop := (∀ j : Nat, j < 28 → va_OF RX11 "text" "Ljava/lang/String;" (.ref (ad (2 * j + 203))) (ad (2 * j + 3)) A U H) ∧ (va_T (.object RX11) (ad 103) 28 (fun j => .ref (ad (2 * j + 3))) A U H ∧ va_Z RX11 "ALL" "[LGraterOrder$Word;" (.ref (ad 103)) A U H) ∧ (va_Z "java/lang/String" "COMPACT_STRINGS" "Z" (.int 1) A U H ∧ va_Zq "jdk/internal/util/Preconditions" "SIOOBE_FORMATTER" "Ljava/util/function/BiFunction;" A U H) ∧ ∀ (i : Nat) (q : String × Nat × String × Nat), iv_nth iv_skl i = some q → vk_R q.1 q.2.1 q.2.2.1 (ad (2 * i + 203)) U
def iv_SS (ad : Nat → Nat) (A : Nat → Prop) (U : State) (H : Heap) : Prop := iv_St ad A U H ∧ iv_Wx ad A U H
theorem iv_SS_to {ad : Nat → Nat} {A : Nat → Prop} {s U : State} (h : iv_SS ad A s s.heap) (hW : s.WarmedH U.vm) (hk : ∀ q : Nat, q < s.heap.size → ¬ A q → U.heap[q]? = s.heap[q]?) : iv_SS ad A U U.heap := by
  have hA := hW.alike
  obtain ⟨h1, h2, ⟨h3, h4⟩, ⟨h5, h6⟩, h7⟩ := h
  refine ⟨fun i hi => ?_, fun j hj => ((h2 j hj).moved hA).kept hk, ⟨(h3.moved hA).kept hk, (h4.moved hA).kept hk⟩, ⟨(h5.moved hA).kept hk, (h6.moved hA).kept hk⟩, fun i q hq => (h7 i q hq).warm hW⟩
  obtain ⟨a1, a2, v, a3, a4⟩ := h1 i hi
  exact ⟨(a1.moved hA).kept hk, (a2.moved hA).kept hk, v, (a3.moved hA).kept hk, (a4.moved hA).kept hk⟩
def iv_K (ad cy : Nat → Nat) (D : va_G) (base L : Nat) (xs : Nat → Int32) (U : State) : Prop :=
  (va_K D vwCl (iv_tys cy) U ∧ (∀ w ∈ iv_nest, va_Nw w U) ∧ (∀ C ∈ iv_aoC, va_AO C U) ∧ iv_AOA U) ∧
  (va_En RX11 "LGraterOrder$Word;" iv_nm iv_Fl (fun j => ad (2 * j + 3)) (iv_A base) U U.heap ∧ va_T .int (ad 101) 28 (fun j => .int (iv_sw j)) (iv_A base) U U.heap ∧ va_Z RX0 "$SwitchMap$GraterOrder$Word" "[I" (.ref (ad 101)) (iv_A base) U U.heap ∧ iv_SS ad (iv_A base) U U.heap) ∧
  (va_X (ad 1) L xs U U.heap ∧ ad 1 < base ∧ base ≤ U.heap.size ∧ ∀ k, ad (2 * k) = base + k)
theorem iv_nest_warm {s U : State} (hW : s.WarmedH U.vm) (h : ∀ w ∈ iv_nest, va_Nw w s) : ∀ w ∈ iv_nest, va_Nw w U := by
  intro w hw
  have h1 := h w hw
  simp only [iv_nest, List.mem_cons, List.not_mem_nil, or_false] at hw
  rcases hw with rfl | rfl | rfl | rfl | rfl <;> exact va_Nw.warmM hW h1
theorem iv_K_to {ad cy : Nat → Nat} {D : va_G} {base L : Nat} {xs : Nat → Int32} {s U : State} (h : iv_K ad cy D base L xs s) (hW : s.WarmedH U.vm) (hz : s.heap.size ≤ U.heap.size) (hk : ∀ q : Nat, q < s.heap.size → ¬ iv_A base q → U.heap[q]? = s.heap[q]?) : iv_K ad cy D base L xs U := by
  obtain ⟨⟨h1, h2, h3, h4⟩, ⟨h5, h6, h7, h7s⟩, h8, h9, h10, h11⟩ := h
  have hA := hW.alike
  refine ⟨⟨va_K.moved hA h1, iv_nest_warm hW h2, fun C hC => (h3 C hC).moved hA, iv_AOA_moved hA h4⟩, ⟨(h5.moved hA).kept hk, (h6.moved hA).kept hk, (h7.moved hA).kept hk, iv_SS_to h7s hW hk⟩, (h8.moved hA).kept (hk _ (Nat.lt_of_lt_of_le h9 h10) (Nat.not_le.mpr h9)), h9, Nat.le_trans h10 hz, h11⟩
theorem iv_K_S {ad cy : Nat → Nat} {D : va_G} {base L : Nat} {xs : Nat → Int32} {U : State} (h : iv_K ad cy D base L xs U) : iv_SS ad (iv_A base) U U.heap := h.2.1.2.2.2
