/-! ===== the start ===== -/
theorem lw_h2 {L : Nat} {xs : Nat → Int32} : iv_Pn L xs 26 21 iv_n 23 sgl [] sg2 sgl [.ref 1, .int 0] sg2 := by
  refine Ps rfl fq_286_23 rfl ?_
  refine Ps rfl fq_286_25 rfl ?_
  exact Pe
theorem lw_d26 : decode code 26 = .ok (.arraylength, 1) := by
  have h := List.all_eq_true.mp iv_cok_law _ (iv_f1_in _ _ _ (show iv_f1 (iv_m iv_n).2.2.2.2 26 = some (.arraylength, 1) from rfl))
  rw [Bool.and_eq_true] at h
  exact of_decide_eq_true h.1
theorem whole_start {p : Program} {e : Env} {s : State} {m : MethodId} {below : List Frame} {meth : Method} {c : Code} (l : Launch) (hl : l.stackTraces = false) {b L : Nat} {xs : Nat → Int32} (hL : L ≤ 6) (C0 : lw_At p s m meth c b L xs) : W p l e room_1 s m #[Value.ref b] below meth c s.heap [] 0 0 (lw_Z below #[Value.ref b] s) (entryFrame m ([Value.ref b] : List Value).toArray 7) := by
  obtain ⟨hx, hb, hr, hml, hown, hts, hX, hbl, hlocks, hgv⟩ := C0
  obtain ⟨ad, cy, D, hK, had⟩ := iv_start hts hX hbl hgv
  have C : lwC ad cy D L xs p s m b meth c := ⟨hx, hb, hml, hown, fun w hw => hts w (iv_G_tbl w hw), hK, fun h => absurd h (by decide)⟩
  have hlv := lv_entry (iv_sm ad [.ref 1]) (n := 7) (by rw [iv_lgl]; decide)
  rw [lg_entry_eq]
  rw [iv_largs] at hlv
  have had' : ([Value.ref b] : List Value) = iv_sm ad [.ref 1] := by show _ = [Value.ref (ad 1)]; rw [had]
  have N27 : lwN ad cy D p l e s m b below meth c 27 sgl (lwI L) sg2 := by
    rcases Nat.lt_or_ge L 6 with h6 | h6
    · exact lw_fin C hr hlocks (lw_short xs h6) sgP_eq.2.1 sgP_eq.2.2
    · have e6 : L = 6 := by omega
      subst e6
      rcases lw_switch xs with ⟨σ', h1, h2, h3⟩ | ⟨n, h⟩ | ⟨n, h⟩
      · exact lw_fin C hr hlocks h1 h2 h3
      · exact lw_upto C h sgP_eq.2.1 sgP_eq.2.2 (lw_thr hl C hr hlocks (.inl rfl) hts hgv)
      · exact lw_upto C h sgP_eq.2.1 sgP_eq.2.2 (lw_thr hl C hr hlocks (.inr rfl) hts hgv)
  have N26 : lwN ad cy D p l e s m b below meth c 26 sgl [.ref 1, .int 0] sg2 := by
    intro H locs ls hvv hP hS
    have hS' := hS
    show W p l e room_1 s m #[Value.ref b] below meth c H locs _ _ _ (F0 m 26 ls (.ref (ad 1) :: iv_sm ad [.int 0]))
    rw [had]
    exact va_slen (A := iv_A s.heap.size) hx hb hX hbl (fun z => absurd hbl (Nat.not_lt.mpr z)) hS lw_d26 (N27 H locs ls hvv hP hS)
  have N23 : lwN ad cy D p l e s m b below meth c 23 sgl [] sg2 := by
    obtain ⟨n, h⟩ := lw_h2 (L := L) (xs := xs)
    exact lw_upto C h sgP_eq.2.1 sgP_eq.2.2 N26
  have N0 : lwN ad cy D p l e s m b below meth c 0 [(0, .ref 1)] [] sg0 := lw_upto C (iv_part_id L sgz xs 23 40000 _ _ _ _ _ _ _ _ sgP_eq.1 (Nat.le_refl _)) sgP_eq.2.1 sgP_eq.2.2 N23
  rw [← had'] at hlv
  exact N0 s.heap [] _ hlv (fun k q hq => by cases k <;> cases hq) va_S.rf
