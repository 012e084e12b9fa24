/-! THE CLAIM OUT OF ONE WALK OF THE LAW'S BODY. Your part is whole_start (and what it stands on); all else here is the same for every law, but numbers. -/
def R_law : String := "GraterOrderLaw"
def lw_P (b : Addr) (xs : List Int32) (args : Array Value) (s : State) : Prop := args = #[.ref b] ∧ s.IntsAt b xs ∧ xs.length ≤ 3072 ∧ (Jvm.Cond.and given_1 narrow_1).before args s = true
def lw_Q (_ : Array Value) (s : State) (o : Outcome) (t : State) : Prop := o = .returned (some (.int 1)) ∧ Framed s o t [] 601024 7293034
def lw_Z (below : List Frame) (a : Array Value) (s : State) : State → Prop := fun t => ∃ o, t.status = .running ∧ Ended t below o ∧ lw_Q a s o t
/-- the law's own end, with 1 on the stack, nothing written that was there before, its room as the claim has it -/
theorem lw_ret {p : Program} {l : Launch} {e : Env} {s : State} {m : MethodId} {below : List Frame} {meth : Method} {c : Code} {b : Nat} (hx : p.tables.exec = Jvm.exec) (hb : c.code = code) (hr : meth.sig.returnType = ret) (hlocks : meth.locks = false) {pc : Nat} {H : Heap} {ls : Array Slot} (hdg : decode code pc = .ok (.ireturn, 1)) : W p l e room_1 s m #[Value.ref b] below meth c H [] 601024 7293034 (lw_Z below #[Value.ref b] s) (F0 m pc ls [.int 1]) := by
  intro T hT X
  obtain ⟨fs, hret, hrun, hended, hW, hframe⟩ := X.leave (v := some (.int 1)) (hlocks := hlocks) (fun h => by rw [hr] at h; cases h)
  have hmeth' : T.vm.method? m = some meth := X.method'
  refine ⟨T.setFrames fs, ?_, .returned (some (.int 1)), hrun, hended, rfl, ⟨_, rfl⟩, hW, hframe⟩
  jvm_step X.here [X.here.top, hx, hb, hdg, hmeth', hr, ret, narrow_b1]
  (try refine ⟨rfl, ?_⟩); (try refine ⟨rfl, ?_⟩)
  first | (intro acts; rw [hret _ acts rfl rfl rfl]) | rw [hret _ _ rfl rfl rfl]
  exact Steps.refl _
/-- what holds at the law's entry: the machine, the code, the tables' words (any of lw_tbl by 'hts w (by decide +kernel)'), the script of L ints xs at the cell b, what the Statement gives of the start (any of its parts by flat_of_before) -/
def lw_At (p : Program) (s : State) (m : MethodId) (meth : Method) (c : Code) (b L : Nat) (xs : Nat → Int32) : Prop :=
  p.tables.exec = Jvm.exec ∧ c.code = code ∧ meth.sig.returnType = ret ∧ c.maxLocals = 7 ∧ s.vm.findClass R_law = some m.cls ∧ (∀ w ∈ lw_tbl, w.before #[Value.ref b] s = true) ∧ va_X b L xs s s.heap ∧ b < s.heap.size ∧ meth.locks = false ∧ (Jvm.Cond.and given_1 narrow_1).before #[Value.ref b] s = true

theorem iv_pr1 : ∀ j ∈ List.range 28, Cond.exactly (iv_stt j) RX11 ∈ flatC (Jvm.Cond.and given_1 narrow_1) := by decide +kernel
theorem iv_pr2 : ∀ j ∈ List.range 28, Cond.eq (.field (iv_stt j) "java/lang/Enum" "ordinal" "I") (.int (Int32.ofNat j)) ∈ flatC (Jvm.Cond.and given_1 narrow_1) := by decide +kernel
theorem iv_pr3 : Cond.arrayOf iv_swt .int ∈ flatC (Jvm.Cond.and given_1 narrow_1) := by decide +kernel
theorem iv_pr4 : Cond.eq (.length iv_swt) (.int 28) ∈ flatC (Jvm.Cond.and given_1 narrow_1) := by decide +kernel
theorem iv_pr5 : ∀ j ∈ List.range 28, Cond.eq (.elem iv_swt (.int (Int32.ofNat j))) (.int (iv_sw j)) ∈ flatC (Jvm.Cond.and given_1 narrow_1) := by decide +kernel
theorem iv_tb1 : ∀ j ∈ List.range 28, Cond.laysStatic RX11 (iv_nm.getD j "") "LGraterOrder$Word;" ∈ lw_tbl := by decide +kernel
theorem iv_tb2 : Cond.initialized RX11 ∈ lw_tbl ∧ Cond.initialized RX0 ∈ lw_tbl ∧ Cond.laysStatic RX0 "$SwitchMap$GraterOrder$Word" "[I" ∈ lw_tbl := by decide +kernel
theorem iv_tb3 : ∀ w ∈ iv_nest, w ∈ lw_tbl ∧ w.onTables = true := by decide +kernel
theorem iv_tb4 : ∀ C ∈ iv_aoC, Cond.arrayOver (.object C) ∈ lw_tbl := by decide +kernel
theorem iv_tb5 : Cond.arrayOver (.array .int) ∈ lw_tbl := by decide +kernel
theorem iv_tb6 : (∀ ci ∈ List.range 13, Cond.instantiable (iv_C ci) (if ci = 10 then 4 else iv_fn ci) ∈ lw_tbl) := by decide +kernel
theorem iv_eqL {args : Array Value} {s : State} {t u : Term} {a : Nat} (h : (Cond.eq t u).before args s = true) (hu : u.eval args s none [] s = some (.ref a)) : t.eval args s none [] s = some (.ref a) := by
  cases ht : t.eval args s none [] s with
  | none => simp [Cond.before, Cond.holds, Cond.value, hu, ht] at h
  | some w =>
    simp only [Cond.before, Cond.holds, Cond.value, hu, ht] at h
    cases w <;> simp_all
theorem iv_skN {i : Nat} {q : String × Nat × String × Nat} (h : iv_nth iv_skl i = some q) : i < 32 := by
  have h1 := iv_nth_lt h
  have h2 : iv_skl.length = 32 := by decide
  omega
theorem iv_strs {s : State} {b : Nat} (hpr : ∀ w ∈ flatC (Jvm.Cond.and given_1 narrow_1), w.before #[Value.ref b] s = true) (hA : ∀ a : Nat, a < s.heap.size → ¬ iv_A s.heap.size a) : ∀ i : Nat, ∃ a : Nat, i < 32 → (iv_tS i).eval #[Value.ref b] s none [] s = some (.ref a) ∧ va_O "java/lang/String" a (iv_A s.heap.size) s s.heap ∧ va_OF "java/lang/String" "coder" "B" (.int 0) a (iv_A s.heap.size) s s.heap ∧ ∃ v : Nat, va_OF "java/lang/String" "value" "[B" (.ref v) a (iv_A s.heap.size) s s.heap ∧ va_T .byte v (iv_sx (2 * i + 203)).length (fun j => .int ((iv_sx (2 * i + 203)).getD j 0)) (iv_A s.heap.size) s s.heap := by
  intro i
  by_cases hi : i < 32
  · have hm := List.mem_range.mpr hi
    have h7 := (s_sx (2 * i + 203)).1
    obtain ⟨adK, adV, h1, h2⟩ := vk_Sof (args := #[Value.ref b]) (s := s) (N := 1) (tm := fun _ => iv_tS i) (len := [(iv_sx (2 * i + 203)).length]) (byt := [iv_sx (2 * i + 203)]) (A := iv_A s.heap.size) (fun k hk => by
        obtain rfl : k = 0 := by omega
        exact Nat.lt_of_le_of_lt h7 (by decide)) (fun _ _ => hpr _ (iv_ps1 i hm).1) (fun _ _ => hpr _ (iv_ps1 i hm).2) (fun _ _ => hpr _ (iv_ps2 i hm).1) (fun k hk => by
        obtain rfl : k = 0 := by omega
        exact hpr _ (iv_ps2 i hm).2) (fun k hk j hj => by
        obtain rfl : k = 0 := by omega
        exact hpr _ (iv_ps3 i hi j (List.mem_range.mpr hj))) (fun k j hk hj hne => absurd (show k = j by omega) hne) hA
    have g := h1.1 0 (by decide)
    exact ⟨adK 0, fun _ => ⟨h2 0 (by decide), g.1, g.2.1, adV 0, g.2.2.1, g.2.2.2⟩⟩
  · exact ⟨0, fun h => absurd h hi⟩
set_option maxHeartbeats 1000000 in
theorem iv_start {s : State} {b L : Nat} {xs : Nat → Int32} (hts : ∀ w ∈ lw_tbl, w.before #[Value.ref b] s = true) (hX : va_X b L xs s s.heap) (hbl : b < s.heap.size) (hgv : (Jvm.Cond.and given_1 narrow_1).before #[Value.ref b] s = true) : ∃ (ad cy : Nat → Nat) (D : va_G), iv_K ad cy D s.heap.size L xs s ∧ ad 1 = b := by
  have hpr := flat_of_before _ hgv
  have hA : ∀ a : Nat, a < s.heap.size → ¬ iv_A s.heap.size a := fun a h z => absurd h (Nat.not_lt.mpr z)
  -- the constants of Word
  have hw : ∀ j, ∃ a : Nat, j < 28 → ((iv_stt j).eval #[Value.ref b] s none [] s = some (.ref a) ∧ va_O RX11 a (iv_A s.heap.size) s s.heap) := by
    intro j
    by_cases hj : j < 28
    · obtain ⟨a, c9, cell, k9, q1, q2, q3, q4, q5, q6, -⟩ := Cond.exactly_spec (hpr _ (iv_pr1 j (List.mem_range.mpr hj)))
      exact ⟨a, fun _ => ⟨q1, cell, q3, q5, by rw [q6]; exact q2, hA a (Array.getElem?_eq_some_iff.mp q3).1⟩⟩
    · exact ⟨0, fun h => absurd h hj⟩
  obtain ⟨aw, haw⟩ := Classical.axiomOfChoice hw
  -- the switch table
  obtain ⟨sw, hsw1, hsw2⟩ := va_Tof (args := #[Value.ref b]) (s := s) (tm := iv_swt) (ty := .int) (N := 28) (f := fun j => .int (iv_sw j)) (A := iv_A s.heap.size) (by decide) (hpr _ iv_pr3) (va_eqt (hpr _ iv_pr4)) (fun j hj => va_eqt (hpr _ (iv_pr5 j (List.mem_range.mpr hj)))) hA
  -- the Strings, the array of all
  obtain ⟨ak, hak⟩ := Classical.axiomOfChoice (iv_strs hpr hA)
  obtain ⟨al, hal1, hal2⟩ := va_Tof (args := #[Value.ref b]) (s := s) (tm := iv_tA) (ty := .object RX11) (N := 28) (f := fun j => .ref (aw j)) (A := iv_A s.heap.size) (by decide) (hpr _ iv_ps5.1) (va_eqt (hpr _ iv_ps5.2)) (fun j hj => iv_eqL (hpr _ (iv_ps4 j (List.mem_range.mpr hj)).2) (haw j hj).1) hA
  -- classes
  have hc : ∀ ci : Nat, ∃ q : ClassId × (Nat → Nat), ci < 13 → u_Kn s (iv_C ci) (iv_T ci) (iv_fn ci) q.1 q.2 := by
    intro ci
    by_cases h : ci < 13
    · obtain ⟨c9, i9, h9⟩ := u_known (C := iv_C ci) (T := iv_T ci) (N := iv_fn ci) hts (fun w hw9 => iv_G_tbl w (iv_lay_in ci h w hw9)) (hts _ (iv_tb6 ci (List.mem_range.mpr h)))
      exact ⟨(c9, i9), fun _ => h9⟩
    · exact ⟨(0, fun _ => 0), fun h9 => absurd h9 h⟩
  obtain ⟨dd, hdd⟩ := Classical.axiomOfChoice hc
  -- array classes
  have ht : ∀ t : Nat, ∃ c9 : ClassId, t ≤ 7 → ArrOfT s c9 (iv_et t) ∧ va_RA s c9 (iv_et t) := by
    have pr : ∀ ty : FieldType, (Cond.arrayClass ty).before #[Value.ref b] s = true → (∀ c9 : ClassId, s.vm.findClass ("[" ++ ty.toString) = some c9 → va_RA s c9 ty) → ∃ c9 : ClassId, ArrOfT s c9 ty ∧ va_RA s c9 ty := fun ty h hr => by
      obtain ⟨c9, k9, comp, h1, h2, h3⟩ := Cond.arrayClass_spec h
      exact ⟨c9, fun n z => ⟨fun k h => (by cases h), k9, h2, comp, h3⟩, hr c9 h1⟩
    have ob : ∀ C : String, (Cond.arrayOver (.object C)).before #[Value.ref b] s = true → ∃ c9 : ClassId, ArrOfT s c9 (.object C) ∧ va_RA s c9 (.object C) := fun C h => by
      obtain ⟨comp, c9, k9, h1, -, h2, h3, h4⟩ := Cond.arrayOver_spec h
      exact ⟨c9, fun n z => ⟨fun k h => (by cases h), k9, h2, comp, h3⟩, k9, comp, h2, h3, h1, h4⟩
    intro t
    by_cases h7 : t ≤ 7
    · rcases t with _ | _ | _ | _ | _ | _ | _ | _ | t
      · obtain ⟨c9, h9⟩ := pr .int (hts _ (iv_G_tbl _ (iv_glob 11 rfl))) (fun _ h => h); exact ⟨c9, fun _ => h9⟩
      · obtain ⟨c9, h9⟩ := pr .long (hts _ (iv_G_tbl _ (iv_glob 12 rfl))) (fun _ h => h); exact ⟨c9, fun _ => h9⟩
      · obtain ⟨c9, h9⟩ := pr .boolean (hts _ (iv_G_tbl _ (iv_glob 13 rfl))) (fun _ h => h); exact ⟨c9, fun _ => h9⟩
      · obtain ⟨c9, h9⟩ := ob RX4 (hts _ (iv_tb4 _ (by decide +kernel))); exact ⟨c9, fun _ => h9⟩
      · obtain ⟨c9, h9⟩ := ob RX8 (hts _ (iv_tb4 _ (by decide +kernel))); exact ⟨c9, fun _ => h9⟩
      · obtain ⟨c9, h9⟩ := ob RX7 (hts _ (iv_tb4 _ (by decide +kernel))); exact ⟨c9, fun _ => h9⟩
      · obtain ⟨c9, h9⟩ := ob RX11 (hts _ (iv_tb4 _ (by decide +kernel))); exact ⟨c9, fun _ => h9⟩
      · obtain ⟨comp, c9, k9, h1, h2, h3, h4⟩ := mu_over (hts _ iv_tb5)
        exact ⟨c9, fun _ => ⟨fun n z => ⟨fun k h => (by cases h), k9, h2, comp, h3⟩, h4⟩⟩
      · exact absurd h7 (by omega)
    · exact ⟨0, fun h => absurd h h7⟩
  obtain ⟨cy, hcy⟩ := Classical.axiomOfChoice ht
  refine ⟨fun a => if a % 2 = 0 then s.heap.size + a / 2 else if a = 1 then b else if a = 101 then sw else if a = 103 then al else if 203 ≤ a then ak ((a - 203) / 2) else aw ((a - 3) / 2), cy, (fun ci => (dd ci).1, fun ci => (dd ci).2), ?_, by simp⟩
  have adW : ∀ j, j < 28 → (fun a => if a % 2 = 0 then s.heap.size + a / 2 else if a = 1 then b else if a = 101 then sw else if a = 103 then al else if 203 ≤ a then ak ((a - 203) / 2) else aw ((a - 3) / 2)) (2 * j + 3) = aw j := fun j hj => by
    show (if (2 * j + 3) % 2 = 0 then _ else if 2 * j + 3 = 1 then _ else if 2 * j + 3 = 101 then _ else if 2 * j + 3 = 103 then _ else if 203 ≤ 2 * j + 3 then _ else aw ((2 * j + 3 - 3) / 2)) = _
    rw [if_neg (by omega), if_neg (by omega), if_neg (by omega), if_neg (by omega), if_neg (by omega), show (2 * j + 3 - 3) / 2 = j by omega]
  have adK : ∀ j, j < 32 → (fun a => if a % 2 = 0 then s.heap.size + a / 2 else if a = 1 then b else if a = 101 then sw else if a = 103 then al else if 203 ≤ a then ak ((a - 203) / 2) else aw ((a - 3) / 2)) (2 * j + 203) = ak j := fun j hj => by
    show (if (2 * j + 203) % 2 = 0 then _ else if 2 * j + 203 = 1 then _ else if 2 * j + 203 = 101 then _ else if 2 * j + 203 = 103 then _ else if 203 ≤ 2 * j + 203 then ak ((2 * j + 203 - 203) / 2) else _) = _
    rw [if_neg (by omega), if_neg (by omega), if_neg (by omega), if_neg (by omega), if_pos (by omega), show (2 * j + 203 - 203) / 2 = j by omega]
  have ad103 : (fun a => if a % 2 = 0 then s.heap.size + a / 2 else if a = 1 then b else if a = 101 then sw else if a = 103 then al else if 203 ≤ a then ak ((a - 203) / 2) else aw ((a - 3) / 2)) 103 = al := by simp
  have ad1 : (fun a => if a % 2 = 0 then s.heap.size + a / 2 else if a = 1 then b else if a = 101 then sw else if a = 103 then al else if 203 ≤ a then ak ((a - 203) / 2) else aw ((a - 3) / 2)) 1 = b := by simp
  have ad101 : (fun a => if a % 2 = 0 then s.heap.size + a / 2 else if a = 1 then b else if a = 101 then sw else if a = 103 then al else if 203 ≤ a then ak ((a - 203) / 2) else aw ((a - 3) / 2)) 101 = sw := by simp
  have ad2 : ∀ k, (fun a => if a % 2 = 0 then s.heap.size + a / 2 else if a = 1 then b else if a = 101 then sw else if a = 103 then al else if 203 ≤ a then ak ((a - 203) / 2) else aw ((a - 3) / 2)) (2 * k) = s.heap.size + k := fun k => by
    show (if (2 * k) % 2 = 0 then s.heap.size + 2 * k / 2 else _) = _
    rw [if_pos (by omega), show 2 * k / 2 = k by omega]
  generalize (fun a => if a % 2 = 0 then s.heap.size + a / 2 else if a = 1 then b else if a = 101 then sw else if a = 103 then al else if 203 ≤ a then ak ((a - 203) / 2) else aw ((a - 3) / 2)) = ad at adW adK ad103 ad1 ad101 ad2
  have hord : ∀ j, j < 28 → va_OF "java/lang/Enum" "ordinal" "I" (.int (Int32.ofNat j)) (aw j) (iv_A s.heap.size) s s.heap := fun j hj => vk_OFof (haw j hj).1 (va_eqt (hpr _ (iv_pr2 j (List.mem_range.mpr hj)))) hA
  refine ⟨⟨⟨fun ci q hq => ?_, fun t q hq => ?_⟩, fun w hw9 => va_any (iv_tb3 w hw9).2 (hts w (iv_tb3 w hw9).1), fun C hC => va_AO.of (hts _ (iv_tb4 C hC)), (show (Cond.arrayOver (.array .int)).before #[] s = true from hts _ iv_tb5)⟩, ⟨⟨fun j hj => ?_, fun i j hi hj hij => ?_⟩, by rw [ad101]; exact hsw2, by rw [ad101]; exact va_Zof (hts _ iv_tb2.2.2) (hts _ iv_tb2.2.1) hsw1 hA, ⟨fun i hi => (by rw [adK i hi]; exact (hak i hi).2), fun j hj => (by rw [adW j hj, adK j (by omega)]; exact vk_OFof (haw j hj).1 (iv_eqL (hpr _ (iv_ps4 j (List.mem_range.mpr hj)).1) (hak j (by omega)).1) hA), ⟨?_, by rw [ad103]; exact va_Zof (hts _ iv_ts1.1.1) (hts _ iv_tb2.1) hal1 hA⟩, ⟨va_Zof (hts _ iv_ts1.1.2.1) (hts _ iv_ts1.2.1) (va_eqi (hpr _ iv_ps6.1)) hA, va_Zqof (hts _ iv_ts1.1.2.2) (hts _ iv_ts1.2.2) (hpr _ iv_ps6.2) hA⟩, fun i q hq => ?_⟩⟩, by rw [ad1]; exact hX, by rw [ad1]; exact hbl, Nat.le_refl _, ad2⟩
  · have hci : ci < 13 := (List.getElem?_eq_some_iff.mp hq).1
    rw [iv_cl_at ci hci] at hq
    cases hq
    exact hdd ci hci
  · have h7 : t ≤ 7 := Nat.le_of_lt_succ (List.getElem?_eq_some_iff.mp hq).1
    rw [iv_tys_at t h7] at hq
    cases hq
    exact hcy t h7
  · have hj : j < 28 := hj
    show va_Z RX11 (iv_nm.getD j "") "LGraterOrder$Word;" (.ref (ad (2 * j + 3))) (iv_A s.heap.size) s s.heap ∧ va_O RX11 (ad (2 * j + 3)) (iv_A s.heap.size) s s.heap ∧ ∀ q ∈ iv_Fl, va_OF q.1 q.2.1 q.2.2.1 (.int (q.2.2.2.getD j 0)) (ad (2 * j + 3)) (iv_A s.heap.size) s s.heap
    rw [adW j hj]
    refine ⟨va_Zof (hts _ (iv_tb1 j (List.mem_range.mpr hj))) (hts _ iv_tb2.1) (haw j hj).1 hA, (haw j hj).2, fun q hq => ?_⟩
    have eq : q = ("java/lang/Enum", "ordinal", "I", (List.range 28).map Int32.ofNat) := List.mem_singleton.mp hq
    subst eq
    have ej : ((List.range 28).map Int32.ofNat).getD j 0 = Int32.ofNat j := by
      rw [List.getD_eq_getElem?_getD, List.getElem?_map, List.getElem?_range hj]
      rfl
    show va_OF "java/lang/Enum" "ordinal" "I" (.int (((List.range 28).map Int32.ofNat).getD j 0)) (aw j) (iv_A s.heap.size) s s.heap
    rw [ej]
    exact hord j hj
  · have hi : i < 28 := hi
    have hj : j < 28 := hj
    have hij : ad (2 * i + 3) = ad (2 * j + 3) := hij
    rw [adW i hi, adW j hj] at hij
    obtain ⟨cf, k, fi, f, cell, g1, g2, g3, g4, g5, g6⟩ := hord i hi
    obtain ⟨cf', k', fi', f', cell', g1', g2', g3', g4', g5', g6'⟩ := hord j hj
    rw [← hij] at g3'
    have e1 := g1.symm.trans g1'
    have e2 := g3.symm.trans g3'
    simp only [Option.some.injEq, Prod.mk.injEq] at e1 e2
    obtain ⟨-, -, -, rfl⟩ := e1
    subst e2
    have e3 := Option.some.inj (g5.symm.trans g5')
    simp only [Value.int.injEq] at e3
    have e4 := congrArg Int32.toNatClampNeg e3
    have c1 : (nI i).toNatClampNeg = i := nI_clamp (by omega)
    have c2 : (nI j).toNatClampNeg = j := nI_clamp (by omega)
    unfold nI at c1 c2
    rw [c1, c2] at e4
    exact e4
  · rw [ad103]
    have e9 : (fun j => Value.ref (ad (2 * j + 3))) = fun j => Value.ref (ad (2 * j + 3)) := rfl
    obtain ⟨cell, z1, z2, z3, z4, z5, z6, z7⟩ := hal2
    exact ⟨cell, z1, z2, z3, z4, z5, fun j hj => (z6 j hj).trans (congrArg (fun z => some (Value.ref z)) (adW j hj).symm), z7⟩
  · have hi := iv_skN hq
    have h9 := of_decide_eq_true (List.all_eq_true.mp iv_ts2 q (zn_in hq))
    refine vk_R.of (A := #[Value.ref b]) (hts _ (iv_tb_in (iv_nth_in _ _ _ h9))) ?_
    rw [adK i hi]
    have h8 := (hak i hi).1
    unfold iv_tS at h8
    rw [hq] at h8
    exact h8
