/-! ===== the start ===== -/
theorem xC_bad : ∀ w ∈ xw_bad, w ∈ lw_tbl := by decide +kernel
theorem xC_str {own tx : String} {k : Nat} {A : Array Value} {s : State} (h : (Cond.stringRef own k tx).before A s = true) : ∃ a, (Term.string own k).eval A s none [] s = some (.ref a) := by
  have hc : ∃ cur, s.vm.findClass own = some cur := by
    cases hc : s.vm.findClass own with
    | none => unfold Cond.before Cond.holds at h; simp [Cond.value, hc] at h
    | some c => exact ⟨c, rfl⟩
  obtain ⟨cur, hcur⟩ := hc
  obtain ⟨k9, cf, i, a, -, -, -, -, -, hev⟩ := Cond.stringRef_spec hcur h
  first | exact ⟨a, hev⟩ | exact ⟨a, hev _⟩ | exact ⟨a, hev _ _⟩
theorem xw_start {s : State} {b : Nat} (hts : ∀ w ∈ lw_tbl, w.before #[Value.ref b] s = true) (hgv : (Jvm.Cond.and given_1 narrow_1).before #[Value.ref b] s = true) : xw s.heap.size s := by
  have hpr := flat_of_before _ hgv
  have hA : ∀ a : Nat, a < s.heap.size → ¬ iv_A s.heap.size a := fun a h z => absurd h (Nat.not_lt.mpr z)
  have st : ∀ (k : Nat) (tx : String), Cond.stringRef RX12 k tx ∈ lw_tbl → ∃ sa, vk_R RX12 k tx sa s := fun k tx hm => by
    have h1 := hts _ hm
    obtain ⟨a, h2⟩ := xC_str h1
    exact ⟨a, vk_R.of h1 h2⟩
  refine ⟨⟨st _ _ (by decide +kernel), st _ _ (by decide +kernel)⟩, ⟨vx_Zqof (hts _ (by decide +kernel)) (hts _ (by decide +kernel)) (hpr _ (by decide +kernel)) hA, vx_Zqof (hts _ (by decide +kernel)) (hts _ (by decide +kernel)) (hpr _ (by decide +kernel)) hA⟩, fun w hw => va_any (xA_tab w hw) (hts w (xC_bad w hw))⟩
theorem lvI_0 : lvI 0 sgl := ⟨rfl, rfl, rfl, rfl, rfl⟩
section START
variable {p : Program} {l : Launch} {e : Env} {s : State} {m : MethodId} {below : List Frame} {meth : Method} {c : Code} {ad cy : Nat → Nat} {D : va_G} {L b : Nat} {xs : Nat → Int32}
abbrev lwC (ad cy : Nat → Nat) (D : va_G) (L : Nat) (xs : Nat → Int32) (p : Program) (s : State) (m : MethodId) (b : Nat) (meth : Method) (c : Code) : Prop := iv_C0 ad cy D s.heap.size L xs p s m #[Value.ref b] meth c (iv_c iv_n) (iv_m iv_n).2.2.1 (iv_m iv_n).2.1 (iv_y iv_n).name
abbrev lwN (ad cy : Nat → Nat) (D : va_G) (p : Program) (l : Launch) (e : Env) (s : State) (m : MethodId) (b : Nat) (below : List Frame) (meth : Method) (c : Code) (pc : Nat) (lv : iv_L) (st : List Value) (σ : iv_H) : Prop := iv_Nx ad cy D s.heap.size 0 0 (iv_m iv_n).2.2.1 p l e room_1 s m #[Value.ref b] below meth c (lw_Z below #[Value.ref b] s) pc lv st σ
theorem lw_upto (C : lwC ad cy D L xs p s m b meth c) {stop F n pc : Nat} {lv lv' : iv_L} {st st' : List Value} {σ σ' : iv_H} (h : iv_part L xs stop F n 21 iv_n pc lv st σ = some (lv', st', σ')) (h1 : σ'.1 = 297) (h2 : σ'.2.2 ≤ 100000) (k : lwN ad cy D p l e s m b below meth c stop lv' st' σ') : lwN ad cy D p l e s m b below meth c pc lv st σ :=
  (iv_part_ok stop F n 21 iv_n pc lv st σ lv' st' σ' (Nat.le_refl _) h).2 C rfl (Nat.zero_le _) (Nat.zero_le _) (by decide) (by decide) (by show σ'.1 - 0 ≤ 601024; omega) (by show σ'.2.2 - 0 ≤ 7293034; omega) k
theorem lw_23 (hl : l.stackTraces = false) (hr : meth.sig.returnType = ret) (hlocks : meth.locks = false) (hL : L ≤ 3072) (C : lwC ad cy D L xs p s m b meth c) (hw : xw s.heap.size s) : lwN ad cy D p l e s m b below meth c 23 sgl [] sg2 := by
  intro H locs ls hvv hP hS
  have z1 := sgP_eq.2.1
  have z2 := sgP_eq.2.2
  refine l_rb1 (fun q hq => hS.2.2 q hq) (by omega) (by omega) (fun s' hv hh => ?_)
  have C' := l_C C hS hv hh
  have N := l_loop (l := l) (e := e) (below := below) hl hr hlocks hL 512 s' C' (l_xw hw hS hv hh) 0 sgl sg4 0 lvI_0 sg4_inv5 (by omega) (by omega)
  have N2 := N H [] ls hvv (P_sg4 hP) (by rw [hh]; exact va_S.rf)
  exact W.cs (Nat.sub_self _).symm (Nat.sub_self _).symm N2
end START
theorem whole_start {p : Program} {e : Env} {s : State} {m : MethodId} {below : List Frame} {meth : Method} {c : Code} (l : Launch) (hl : l.stackTraces = false) {b L : Nat} {xs : Nat → Int32} (hL : L ≤ 3072) (C0 : lw_At p s m meth c b L xs) : W p l e room_1 s m #[Value.ref b] below meth c s.heap [] 0 0 (lw_Z below #[Value.ref b] s) (entryFrame m ([Value.ref b] : List Value).toArray 7) := by
  obtain ⟨hx, hb, hr, hml, hown, hts, hX, hbl, hlocks, hgv⟩ := C0
  obtain ⟨ad, cy, D, hK, had⟩ := iv_start hts hX hbl hgv
  have C : lwC ad cy D L xs p s m b meth c := ⟨hx, hb, hml, hown, fun w hw => hts w (iv_G_tbl w hw), hK, fun h => absurd h (by decide)⟩
  have hlv := lv_entry (iv_sm ad [.ref 1]) (n := 7) (by rw [iv_lgl]; decide)
  rw [lg_entry_eq]
  rw [iv_largs] at hlv
  have had' : ([Value.ref b] : List Value) = iv_sm ad [.ref 1] := by show _ = [Value.ref (ad 1)]; rw [had]
  have N23 : lwN ad cy D p l e s m b below meth c 23 sgl [] sg2 := lw_23 hl hr hlocks hL C (xw_start hts hgv)
  have N0 : lwN ad cy D p l e s m b below meth c 0 [(0, .ref 1)] [] sg0 := lw_upto C (iv_part_id L sgz xs 23 40000 _ _ _ _ _ _ _ _ sgP_eq.1 (Nat.le_refl _)) sgP_eq.2.1 sgP_eq.2.2 N23
  rw [← had'] at hlv
  exact N0 s.heap [] _ hlv (fun k q hq => by cases k <;> cases hq) va_S.rf
