/-! ===== String.length, charAt, indexOf as operations ===== -/
theorem jt_get : ∀ {l : List Int32} {k : Nat} {v : Int32}, iv_nth l k = some v → l.getD k 0 = v
  | [], k, v, h => by cases h
  | x :: l, 0, v, h => by cases h; rfl
  | x :: l, k + 1, v, h => by
    have h : iv_nth l k = some v := h
    have := jt_get h
    simpa using this
theorem jt_256 {x : Int32} (h : iv_in x 256 = true) : 0 ≤ x.toInt ∧ x.toInt ≤ 255 := by
  have h1 := vp_in_iff.mp (iv_in_ok h)
  omega
section IVT
variable {p : Program} {l : Launch} {e : Env} {R : Room} {s : State} {m : MethodId} {args : Array Value} {below : List Frame} {meth : Method} {c : Code} {Q : State → Prop} {ad cy : Nat → Nat} {D : va_G} {base L : Nat} {xs : Nat → Int32} {c0 n0 nL : Nat}
variable {cc : ByteArray} {pc pc' len own kx : Nat} {nm : String} {lv lv' : iv_L} {st st' : List Value} {σ σ' : iv_H}
set_option maxHeartbeats 1000000 in
theorem iv_s_Sl (C : iv_C0 ad cy D base L xs p s m args meth c cc nL own nm) (hl : Cond.methodLink (iv_R own) kx ⟨"java/lang/String", "length", "()I"⟩ ∈ iv_G) (hd : decode cc pc = .ok (.invokevirtual kx, 3)) (hR : 8 ≤ R.frames ∧ 480 ≤ R.locals) (hRc : σ.1 - c0 ≤ R.cells) (hRs : σ.2.2 - n0 ≤ R.slots) (k : iv_Nx ad cy D base c0 n0 nL p l e R s m args below meth c Q pc' lv' st' σ') (h : iv_oSl L xs pc lv st σ = some (pc', lv', st', σ')) : iv_Nx ad cy D base c0 n0 nL p l e R s m args below meth c Q pc lv st σ := by
  obtain ⟨hx, hb, hml, hown, hts, hK, hnm⟩ := C
  unfold iv_oSl at h
  split at h
  · rename_i a r
    cases hq : (iv_isS a && Nat.ble (iv_cs r) 8) <;> rw [hq] at h <;> simp only [cond_true, cond_false] at h
    · cases h
    · rw [Bool.and_eq_true] at hq
      have h8 := Nat.le_of_ble_eq_true hq.2
      obtain ⟨j, hj, rfl⟩ := iv_isS_of hq.1
      simp only [Option.some.injEq, Prod.mk.injEq] at h
      obtain ⟨rfl, rfl, rfl, rfl⟩ := h
      intro H locs ls hvv hP hS
      obtain ⟨cell, g1, g2, g3, _⟩ := ((iv_K_S hK).1 j hj).1.kept hS.2.1
      refine va_calli (A0 := iv_A base) (H0 := s.heap) (va_runV (As := []) (rest := iv_sm ad r) (b := ad (2 * j + 203)) (C := "java/lang/String") ⟨hx, hb, hml, hown, hts⟩ (jd_len l ad cy D base L xs j hj) ⟨callB_of 0 hts (kGood (iv_gS 6 rfl)) rfl rfl rfl (hts _ (iv_gS 0 rfl)) (hts _ hl) ⟨by decide +kernel, by decide +kernel, (show (parseMethodDescriptor "()I").map (fun d => d.parameters.length) = some 0 from by decide +kernel)⟩ ⟨by have := hR.1; show 1 + 1 ≤ R.frames; omega, by have := hR.2; show 8 + (1 + 11) + 20 ≤ R.locals; omega⟩, hts _ (iv_gS 4 rfl), hts _ (iv_gS 5 rfl)⟩ ⟨kB, ⟨cell, g1, g2, g3⟩, fun U hU hW => ⟨rfl, iv_K_to hK hW (by rw [hU]; exact hS.1) (fun q h1 h2 => by rw [hU]; exact hS.2.1 q h1 h2)⟩⟩ rfl rfl hvv.1 rfl (lv_room (by rw [iv_cs_eq]; exact h8)) hd ⟨hRc, hRs⟩) hS (fun q _ h9 => h9.elim) (fun q h9 => h9.elim) (fun r9 u t H1 locs1 ht hvm hw hB hz1 hk1 hS1 => ?_)
      have hP1 : va_P D vwCl (iv_W ad cy σ) H1 := hP.kept (fun k9 q hq9 => hk1 q.1 ((hP k9 q hq9).lt) (fun z => z))
      rw [hw]
      exact k H1 locs1 ls hvv hP1 hS1
  · cases h
set_option maxHeartbeats 1000000 in
theorem iv_s_Sc (C : iv_C0 ad cy D base L xs p s m args meth c cc nL own nm) (hl : Cond.methodLink (iv_R own) kx ⟨"java/lang/String", "charAt", "(I)C"⟩ ∈ iv_G) (hd : decode cc pc = .ok (.invokevirtual kx, 3)) (hR : 8 ≤ R.frames ∧ 480 ≤ R.locals) (hRc : σ.1 - c0 ≤ R.cells) (hRs : σ.2.2 - n0 ≤ R.slots) (k : iv_Nx ad cy D base c0 n0 nL p l e R s m args below meth c Q pc' lv' st' σ') (h : iv_oSc L xs pc lv st σ = some (pc', lv', st', σ')) : iv_Nx ad cy D base c0 n0 nL p l e R s m args below meth c Q pc lv st σ := by
  obtain ⟨hx, hb, hml, hown, hts, hK, hnm⟩ := C
  unfold iv_oSc at h
  split at h
  · rename_i z a r
    cases hq : (iv_isS a && (iv_in z (iv_sx a).length && Nat.ble (iv_cs r) 8)) <;> rw [hq] at h <;> simp only [cond_true, cond_false] at h
    · cases h
    · rw [Bool.and_eq_true, Bool.and_eq_true] at hq
      have h8 := Nat.le_of_ble_eq_true hq.2.2
      obtain ⟨j, hj, rfl⟩ := iv_isS_of hq.1
      have h7 := (s_sx (2 * j + 203)).1
      obtain ⟨k1, hk1, e1⟩ := vp_in_of (iv_in_ok hq.2.1) (by omega)
      have e1 : z = Int32.ofNat k1 := e1
      subst e1
      rw [show (Int32.ofNat k1).toNatClampNeg = k1 from nI_clamp (by omega)] at h
      cases hv : iv_nth (iv_sx (2 * j + 203)) k1 with
      | none => rw [hv] at h; cases h
      | some v =>
      rw [hv] at h
      have ev := jt_get hv
      simp only [Option.some.injEq, Prod.mk.injEq] at h
      obtain ⟨rfl, rfl, rfl, rfl⟩ := h
      intro H locs ls hvv hP hS
      obtain ⟨cell, g1, g2, g3, _⟩ := ((iv_K_S hK).1 j hj).1.kept hS.2.1
      refine va_calli (A0 := iv_A base) (H0 := s.heap) (va_runV (As := [.int (Int32.ofNat k1)]) (rest := iv_sm ad r) (b := ad (2 * j + 203)) (C := "java/lang/String") ⟨hx, hb, hml, hown, hts⟩ (jd_chr l ad cy D base L xs j hj k1 hk1) ⟨callB_of 1 hts (kGood (iv_gS 16 rfl)) rfl rfl rfl (hts _ (iv_gS 0 rfl)) (hts _ hl) ⟨by decide +kernel, by decide +kernel, (show (parseMethodDescriptor "(I)C").map (fun d => d.parameters.length) = some 1 from by decide +kernel)⟩ ⟨by have := hR.1; show 3 + 1 ≤ R.frames; omega, by have := hR.2; show 8 + (2 + 11) + 64 ≤ R.locals; omega⟩, hts _ (iv_gS 14 rfl), hts _ (iv_gS 15 rfl)⟩ ⟨kB, ⟨cell, g1, g2, g3⟩, fun U hU hW => ⟨rfl, iv_K_to hK hW (by rw [hU]; exact hS.1) (fun q h1 h2 => by rw [hU]; exact hS.2.1 q h1 h2)⟩⟩ rfl rfl hvv.1 rfl (lv_room (by rw [iv_cs_eq]; exact h8)) hd ⟨hRc, hRs⟩) hS (fun q _ h9 => h9.elim) (fun q h9 => h9.elim) (fun r9 u t H1 locs1 ht hvm hw hB hz1 hk1 hS1 => ?_)
      have hP1 : va_P D vwCl (iv_W ad cy σ) H1 := hP.kept (fun k9 q hq9 => hk1 q.1 ((hP k9 q hq9).lt) (fun z => z))
      rw [hw]
      rw [ev]
      exact k H1 locs1 ls hvv hP1 hS1
  · cases h
set_option maxHeartbeats 1000000 in
theorem iv_s_Si (C : iv_C0 ad cy D base L xs p s m args meth c cc nL own nm) (hl : Cond.methodLink (iv_R own) kx ⟨"java/lang/String", "indexOf", "(I)I"⟩ ∈ iv_G) (hd : decode cc pc = .ok (.invokevirtual kx, 3)) (hR : 8 ≤ R.frames ∧ 480 ≤ R.locals) (hRc : σ.1 - c0 ≤ R.cells) (hRs : σ.2.2 - n0 ≤ R.slots) (k : iv_Nx ad cy D base c0 n0 nL p l e R s m args below meth c Q pc' lv' st' σ') (h : iv_oSi L xs pc lv st σ = some (pc', lv', st', σ')) : iv_Nx ad cy D base c0 n0 nL p l e R s m args below meth c Q pc lv st σ := by
  obtain ⟨hx, hb, hml, hown, hts, hK, hnm⟩ := C
  unfold iv_oSi at h
  split at h
  · rename_i z a r
    cases hq : (iv_isS a && (iv_in z 256 && Nat.ble (iv_cs r) 8)) <;> rw [hq] at h <;> simp only [cond_true, cond_false] at h
    · cases h
    · rw [Bool.and_eq_true, Bool.and_eq_true] at hq
      have h8 := Nat.le_of_ble_eq_true hq.2.2
      have hz := jt_256 hq.2.1
      obtain ⟨j, hj, rfl⟩ := iv_isS_of hq.1
      simp only [Option.some.injEq, Prod.mk.injEq] at h
      obtain ⟨rfl, rfl, rfl, rfl⟩ := h
      intro H locs ls hvv hP hS
      obtain ⟨cell, g1, g2, g3, _⟩ := ((iv_K_S hK).1 j hj).1.kept hS.2.1
      refine va_calli (A0 := iv_A base) (H0 := s.heap) (va_runV (As := [.int z]) (rest := iv_sm ad r) (b := ad (2 * j + 203)) (C := "java/lang/String") ⟨hx, hb, hml, hown, hts⟩ (jd_i l ad cy D base L xs j hj z hz.1 hz.2) ⟨callB_of 1 hts (kGood (iv_gS 33 rfl)) rfl rfl rfl (hts _ (iv_gS 0 rfl)) (hts _ hl) ⟨by decide +kernel, by decide +kernel, (show (parseMethodDescriptor "(I)I").map (fun d => d.parameters.length) = some 1 from by decide +kernel)⟩ ⟨by have := hR.1; show 3 + 1 ≤ R.frames; omega, by have := hR.2; show 8 + (2 + 11) + 85 ≤ R.locals; omega⟩, hts _ (iv_gS 31 rfl), hts _ (iv_gS 32 rfl)⟩ ⟨kB, ⟨cell, g1, g2, g3⟩, fun U hU hW => ⟨rfl, iv_K_to hK hW (by rw [hU]; exact hS.1) (fun q h1 h2 => by rw [hU]; exact hS.2.1 q h1 h2)⟩⟩ rfl rfl hvv.1 rfl (lv_room (by rw [iv_cs_eq]; exact h8)) hd ⟨hRc, hRs⟩) hS (fun q _ h9 => h9.elim) (fun q h9 => h9.elim) (fun r9 u t H1 locs1 ht hvm hw hB hz1 hk1 hS1 => ?_)
      have hP1 : va_P D vwCl (iv_W ad cy σ) H1 := hP.kept (fun k9 q hq9 => hk1 q.1 ((hP k9 q hq9).lt) (fun z => z))
      rw [hw]
      exact k H1 locs1 ls hvv hP1 hS1
  · cases h
end IVT
