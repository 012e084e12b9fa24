/-! ===== one call; a frame's run up to a place, held against the machine ===== -/
section IVQ
variable {p : Program} {l : Launch} {e : Env} {R : Room} {s : State} {m : MethodId} {args : Array Value} {below : List Frame} {meth : Method} {c : Code} {Q : State → Prop} {ad cy : Nat → Nat} {D : va_G} {base L : Nat} {xs : Nat → Int32} {c0 n0 : Nat}
set_option maxHeartbeats 4000000 in
theorem iv_one_c {M d' pc len kind mm nn ci : Nat} {lv : iv_L} {st as rest : List Value} {σ σ1 : iv_H} {r1 : Option Value} {i : Instr} (hM : M ≤ iv_n) (hd : decode (iv_c M) pc = .ok (i, len)) (hln : iv_lnok i len = true) (hop : iv_op M (iv_m M).2.1 (iv_m M).2.2.1 (iv_m M).2.2.2.1 i = .inr (.inr (kind, mm, nn, ci))) (hq : iv_args kind nn ci st σ = some (as, rest)) (hcs : iv_cs as ≤ (iv_m mm).2.2.1) (hB1 : iv_Body l ad cy D base L xs d' mm 0 (lv_args 0 as) [] σ r1 σ1)
    (C : iv_C0 ad cy D base L xs p s m args meth c (iv_c M) (iv_m M).2.2.1 (iv_m M).2.1 (iv_y M).name) (hz : s.heap.size = base + c0) (hc0 : c0 ≤ σ.1) (hn0 : n0 ≤ σ.2.2) (hRf : d' + 1 + 8 ≤ R.frames) (hRl : 60 * (d' + 1 + 8) ≤ R.locals) (hRc : σ1.1 - c0 ≤ R.cells) (hRs : σ1.2.2 - n0 ≤ R.slots) (N2 : iv_Nx ad cy D base c0 n0 (iv_m M).2.2.1 p l e R s m args below meth c Q (pc + 3) lv (r1.toList ++ rest) σ1) : iv_Nx ad cy D base c0 n0 (iv_m M).2.2.1 p l e R s m args below meth c Q pc lv st σ := by
  have hown9 := iv_own_any hM
  obtain ⟨kx, z9, h9, hcall⟩ := iv_call_of hop
  have hmm : mm < iv_n := by
    rcases hcall with ⟨-, -, q⟩ | ⟨-, -, q⟩ | ⟨-, -, q⟩ | ⟨-, -, q⟩
    all_goals
      have hk := iv_lk_ok hown9 q
      simp only [iv_lok, Bool.and_eq_true] at hk
      exact iv_blt hk.1
  have hMet := iv_met hmm hcs hB1
  unfold iv_MetOf at hMet
  have hmo1 := hB1.1
  obtain ⟨b1, b2, b3, b4, b5, b6, b7⟩ := iv_mfacts hmm
  obtain ⟨hx, hb, hml, hown, hts, hK, hnm⟩ := C
  have had := hK.2.2.2.2.2
  intro H locs ls hvv hP hS
  refine iv_Wsz fun hsz => ?_
  have hsz := iv_size had hP hS hz hc0 hsz
  have hRoom : (iv_rm d' (σ1.1 - σ.1) (σ1.2.2 - σ.2.2)).frames + 1 ≤ R.frames ∧ 8 + ((iv_m mm).2.2.1 + 11) + (iv_rm d' (σ1.1 - σ.1) (σ1.2.2 - σ.2.2)).locals ≤ R.locals := by
    refine ⟨by show d' + 8 + 1 ≤ _; omega, ?_⟩
    exact iv_room8 b4 hRl
  have hfit : (σ.1 - c0) + (σ1.1 - σ.1) ≤ R.cells ∧ (σ.2.2 - n0) + (σ1.2.2 - σ.2.2) ≤ R.slots := ⟨by omega, by omega⟩
  have hPre : ∀ U : State, U.heap = H → s.WarmedH U.vm → iv_Pc ad cy D base L xs as σ (iv_sm ad as).toArray U := fun U hU hW => ⟨rfl, iv_K_to hK hW (by rw [hU]; exact hS.1) (fun q h1 h2 => by rw [hU]; exact hS.2.1 q h1 h2), by rw [hU]; exact hP, by rw [hU]; exact hsz⟩
  have hkk : ∀ (H1 : Heap) (locs1 : List Loc), va_P D vwCl (iv_W ad cy σ1) H1 → va_S (iv_A base) s.heap H1 locs1 → W p l e R s m args below meth c H1 locs1 ((σ.1 - c0) + (σ1.1 - σ.1)) ((σ.2.2 - n0) + (σ1.2.2 - σ.2.2)) Q (F0 m (pc + 3) ls ((r1.map (iv_v ad)).toList ++ iv_sm ad rest)) := fun H1 locs1 hP1 hS1 => by
    rw [iv_ret_l]
    exact W.cs (by omega) (by omega) (N2 H1 locs1 ls hvv hP1 hS1)
  unfold iv_args at hq
  split at hq
  · cases hq
  · rename_i as0 rest0 hpop
    obtain ⟨pre, g1, g2, g3⟩ := iv_pop_ok nn st [] as0 rest0 hpop
    rw [List.append_nil] at g2
    have hlen0 : as0.length = nn := by rw [g2, List.length_reverse]; exact g3
    have hst0 : iv_sm ad st = (iv_sm ad as0).reverse ++ iv_sm ad rest0 := by rw [g1, g2, iv_sm_app, iv_sm_rev, List.reverse_reverse]
    rcases hcall with ⟨rfl, rfl, q⟩ | ⟨rfl, rfl, q⟩ | ⟨rfl, rfl, q⟩ | ⟨rfl, rfl, q⟩
    · have hk := iv_lk_ok hown9 q
      simp only [iv_lok, Bool.and_eq_true] at hk
      obtain rfl := iv_lenE (n := 2) hln rfl
      rw [show Nat.beq 4 4 = true from rfl] at hq
      simp only [cond_true] at hq
      rw [Bool.cond_eq_ite] at hq
      split at hq
      · rename_i h8
        have h8 := Nat.le_of_ble_eq_true h8
        cases hq
        have hb3 := b3.2.2
        rw [Nat.eq_of_beq_eq_true hk.2.1] at hb3
        refine iv_callW (va_runS (As := iv_sm ad as) (rest := iv_sm ad rest) ⟨hx, hb, hml, hown, hts⟩ hMet ⟨callB_of nn hts (iv_ws_good hmm) rfl rfl rfl (hts _ b1) (hts _ (iv_w_in hk.2.2.2)) ⟨b3.1, b3.2.1, hb3⟩ hRoom, hts _ (b6 hk.2.2.1)⟩ ⟨iv_blind, hPre⟩ rfl (by rw [List.length_map]; exact hlen0) hvv.1 hst0 (lv_room (by rw [iv_cs_eq]; exact h8)) hd hfit) hS hkk
      · cases hq
    · have hk := iv_lk_ok hown9 q
      simp only [iv_lok, Bool.and_eq_true] at hk
      obtain rfl := iv_lenE (n := 2) hln rfl
      rw [show Nat.beq 5 4 = false from rfl] at hq
      simp only [cond_false] at hq
      split at hq
      · rename_i a r9
        rw [Bool.cond_eq_ite] at hq
        split at hq
        · rename_i h8
          have h8 := Nat.le_of_ble_eq_true h8
          rw [show Nat.beq 5 6 = false from rfl] at hq
          simp only [cond_false] at hq
          cases hq
          have hb3 := b3.2.2
          rw [Nat.eq_of_beq_eq_true hk.2.1] at hb3
          have hrn := of_decide_eq_true hk.2.2.2.2.2
          refine iv_callW (va_runI (As := iv_sm ad as0) (rest := iv_sm ad rest) (b := ad a) (maxL := (iv_m mm).2.2.1) (bytes := iv_c mm) ⟨hx, hb, hml, hown, hts⟩ hMet ⟨callB_of nn hts (iv_ws_good hmm) (by unfold iv_ws; rw [hrn]) rfl rfl (hts _ b1) (hts _ (iv_w_in hk.2.2.2.1)) ⟨b3.1, b3.2.1, hb3⟩ hRoom, of_decide_eq_true hk.2.2.2.2.1, hts _ (b7 (by rw [Nat.eq_of_beq_eq_true hk.2.2.1]; rfl))⟩ ⟨iv_blind, hPre⟩ rfl (by rw [List.length_map]; exact hlen0) hvv.1 hst0 (lv_room (by rw [iv_cs_eq]; exact h8)) hd hfit) hS hkk
        · cases hq
      · cases hq
    · have hk := iv_lk_ok hown9 q
      simp only [iv_lok, Bool.and_eq_true] at hk
      obtain rfl := iv_lenE (n := 2) hln rfl
      rw [show Nat.beq 7 4 = false from rfl] at hq
      simp only [cond_false] at hq
      split at hq
      · rename_i a r9
        rw [Bool.cond_eq_ite] at hq
        split at hq
        · rename_i h8
          have h8 := Nat.le_of_ble_eq_true h8
          rw [show Nat.beq 7 6 = false from rfl] at hq
          simp only [cond_false] at hq
          cases hq
          have hb3 := b3.2.2
          rw [Nat.eq_of_beq_eq_true hk.2.1] at hb3
          have hrn := of_decide_eq_true hk.2.2.2.2.2
          refine iv_callW (va_runIN (As := iv_sm ad as0) (rest := iv_sm ad rest) (b := ad a) (maxL := (iv_m mm).2.2.1) (bytes := iv_c mm) ⟨hx, hb, hml, hown, hts⟩ hMet ⟨va_cnB nn hts (iv_ws_good hmm) (by unfold iv_ws; rw [hrn]) rfl rfl (hK.1.2.1 _ (of_decide_eq_true hk.2.2.2.1)) (hts _ b1) ⟨b3.1, b3.2.1, hb3⟩ hRoom, of_decide_eq_true hk.2.2.2.2.1, hts _ (b7 (by rw [Nat.eq_of_beq_eq_true hk.2.2.1]; rfl))⟩ ⟨iv_blind, hPre⟩ rfl (by rw [List.length_map]; exact hlen0) hvv.1 hst0 (lv_room (by rw [iv_cs_eq]; exact h8)) hd hfit) hS hkk
        · cases hq
      · cases hq
    · have hk := iv_lk_ok hown9 q
      simp only [iv_lok, Bool.and_eq_true] at hk
      obtain rfl := iv_lenE (n := 2) hln rfl
      rw [show Nat.beq 6 4 = false from rfl] at hq
      simp only [cond_false] at hq
      split at hq
      · rename_i a r9
        rw [Bool.cond_eq_ite] at hq
        split at hq
        · rename_i h8
          have h8 := Nat.le_of_ble_eq_true h8
          rw [show Nat.beq 6 6 = true from rfl] at hq
          simp only [cond_true] at hq
          split at hq
          · rename_i c2 fs hg
            rw [Bool.cond_eq_ite] at hq
            split at hq
            · rename_i hc2
              have hc2 := Nat.eq_of_beq_eq_true hc2
              subst hc2
              cases hq
              obtain ⟨k0, rfl, hk0, he⟩ := iv_get_ok hg
              have hat := iv_W_at (ad := ad) (cy := cy) hk0
              rw [he] at hat
              have hci := iv_blt hk.2.2.2.2.1
              have hcls := of_decide_eq_true hk.2.2.2.2.2.1
              have hb3 := b3.2.2
              rw [Nat.eq_of_beq_eq_true hk.2.1] at hb3
              have hrec := va_recv hK.1.1 hP (iv_cl_at ci hci) hat
              rw [show (iv_C ci, iv_T ci, iv_fn ci).1 = (iv_y mm).cls from hcls.symm] at hrec
              refine iv_callW (va_runV (As := iv_sm ad as0) (rest := iv_sm ad rest) (b := ad (2 * k0)) (C := (iv_y mm).cls) ⟨hx, hb, hml, hown, hts⟩ hMet ⟨callB_of nn hts (iv_ws_good hmm) rfl rfl rfl (hts _ b1) (hts _ (iv_w_in hk.2.2.2.1)) ⟨b3.1, b3.2.1, hb3⟩ hRoom, hts _ (b7 (by rw [Nat.eq_of_beq_eq_true hk.2.2.1]; rfl)), hts _ (iv_w_in hk.2.2.2.2.2.2)⟩ ⟨iv_blind, hrec, hPre⟩ rfl (by rw [List.length_map]; exact hlen0) hvv.1 hst0 (lv_room (by rw [iv_cs_eq]; exact h8)) hd hfit) hS hkk
            · cases hq
          · rw [Bool.cond_eq_ite] at hq
            split at hq
            · rename_i hc2
              rw [Bool.and_eq_true] at hc2
              have hc10 := Nat.eq_of_beq_eq_true hc2.1
              subst hc10
              obtain ⟨j0, hj0, rfl⟩ := iv_isW_of hc2.2
              cases hq
              have hcls := of_decide_eq_true hk.2.2.2.2.2.1
              have hb3 := b3.2.2
              rw [Nat.eq_of_beq_eq_true hk.2.1] at hb3
              have hrec := va_recvE (ad := fun j => ad (2 * j + 3)) (i := j0) hK.2.1.1 hj0 hS
              rw [show RX11 = (iv_y mm).cls from hcls.symm] at hrec
              refine iv_callW (va_runV (As := iv_sm ad as0) (rest := iv_sm ad rest) (b := ad (2 * j0 + 3)) (C := (iv_y mm).cls) ⟨hx, hb, hml, hown, hts⟩ hMet ⟨callB_of nn hts (iv_ws_good hmm) rfl rfl rfl (hts _ b1) (hts _ (iv_w_in hk.2.2.2.1)) ⟨b3.1, b3.2.1, hb3⟩ hRoom, hts _ (b7 (by rw [Nat.eq_of_beq_eq_true hk.2.2.1]; rfl)), hts _ (iv_w_in hk.2.2.2.2.2.2)⟩ ⟨iv_blind, hrec, hPre⟩ rfl (by rw [List.length_map]; exact hlen0) hvv.1 hst0 (lv_room (by rw [iv_cs_eq]; exact h8)) hd hfit) hS hkk
            · cases hq
          · cases hq
        · cases hq
      · cases hq
set_option maxHeartbeats 1000000 in
theorem iv_part_ok (stop F : Nat) : ∀ (n d M pc : Nat) (lv : iv_L) (st : List Value) (σ : iv_H) (lv' : iv_L) (st' : List Value) (σ' : iv_H), M ≤ iv_n → iv_part L xs stop F n d M pc lv st σ = some (lv', st', σ') → (σ.1 ≤ σ'.1 ∧ σ.2.2 ≤ σ'.2.2) ∧ (iv_C0 ad cy D base L xs p s m args meth c (iv_c M) (iv_m M).2.2.1 (iv_m M).2.1 (iv_y M).name → s.heap.size = base + c0 → c0 ≤ σ.1 → n0 ≤ σ.2.2 → d + 8 ≤ R.frames → 60 * (d + 8) ≤ R.locals → σ'.1 - c0 ≤ R.cells → σ'.2.2 - n0 ≤ R.slots → iv_Nx ad cy D base c0 n0 (iv_m M).2.2.1 p l e R s m args below meth c Q stop lv' st' σ' → iv_Nx ad cy D base c0 n0 (iv_m M).2.2.1 p l e R s m args below meth c Q pc lv st σ) := by
  intro n
  induction n with
  | zero => intro d M pc lv st σ lv' st' σ' hM h; cases h
  | succ n ih =>
    intro d M pc lv st σ lv' st' σ' hM h
    rw [iv_part_s] at h
    cases hpc : Nat.beq pc stop
    case true =>
      rw [hpc] at h
      simp only [cond_true, Option.some.injEq, Prod.mk.injEq] at h
      obtain ⟨rfl, rfl, rfl⟩ := h
      have e9 := Nat.eq_of_beq_eq_true hpc
      subst e9
      exact ⟨⟨Nat.le_refl _, Nat.le_refl _⟩, fun _ _ _ _ _ _ _ _ k => k⟩
    rw [hpc] at h
    simp only [cond_false] at h
    split at h
    · rename_i f ho
      obtain ⟨i, len, hd, hln, hop, hlx⟩ := iv_fetch (iv_cok_any hM) (iv_lw_any hM) ho
      have hini9 : iv_mem M iv_ini = true → (iv_y M).name = "<init>" := fun h9 => iv_ini_ok0 M (iv_mem_in _ h9)
      split at h
      · rename_i pc' lv1 st1 σ1 hf
        rw [iv_fp_eq] at h
        obtain ⟨hmo, hB⟩ := ih d M pc' lv1 st1 σ1 lv' st' σ' hM h
        have hm1 := iv_op_mo hop L xs pc lv st σ pc' lv1 st1 σ1 hf
        refine ⟨⟨Nat.le_trans hm1.1 hmo.1, Nat.le_trans hm1.2 hmo.2⟩, fun C hz hc0 hn0 hRf hRl hRc hRs k => ?_⟩
        exact iv_op_ok (iv_own_any hM) hini9 C hd hln hlx hop hf hz hc0 hn0 ⟨by omega, by omega⟩ (by omega) (by omega) hm1 (hB C hz (Nat.le_trans hc0 hm1.1) (Nat.le_trans hn0 hm1.2) hRf hRl hRc hRs k)
      · cases h
    · rename_i kind mm nn ci ho
      obtain ⟨i, len, hd, hln, hop, hlx⟩ := iv_fetch (iv_cok_any hM) (iv_lw_any hM) ho
      split at h
      · rename_i as rest d' hq
        rw [Bool.cond_eq_ite] at h
        split at h
        · rename_i hcs
          split at h
          · rename_i r1 σ1 hrun
            rw [iv_fp_eq] at h
            have hmm : mm < iv_n := by
              obtain ⟨kx, z9, h9, hcall⟩ := iv_call_of hop
              rcases hcall with ⟨-, -, q⟩ | ⟨-, -, q⟩ | ⟨-, -, q⟩ | ⟨-, -, q⟩
              all_goals
                have hk := iv_lk_ok (iv_own_any hM) q
                simp only [iv_lok, Bool.and_eq_true] at hk
                exact iv_blt hk.1
            have hB1 := iv_sound l ad cy D base L xs F d' mm 0 (lv_args 0 as) [] σ r1 σ1 (Nat.le_of_lt hmm) hrun
            obtain ⟨hmo, hB⟩ := ih (d' + 1) M (pc + 3) lv (r1.toList ++ rest) σ1 lv' st' σ' hM h
            refine ⟨⟨Nat.le_trans hB1.1.1 hmo.1, Nat.le_trans hB1.1.2 hmo.2⟩, fun C hz hc0 hn0 hRf hRl hRc hRs k => ?_⟩
            exact iv_one_c hM hd hln hop hq (Nat.le_of_ble_eq_true hcs) hB1 C hz hc0 hn0 hRf hRl (by omega) (by omega) (hB C hz (Nat.le_trans hc0 hB1.1.1) (Nat.le_trans hn0 hB1.1.2) hRf hRl hRc hRs k)
          · cases h
        · cases h
      · cases h
    · cases h
end IVQ
theorem iv_part_id (L : Nat) (xs0 xs : Nat → Int32) (stop F : Nat) : ∀ (n d M pc : Nat) (lv : iv_L) (st : List Value) (σ : iv_H) (y : iv_L × List Value × iv_H), iv_part 0 xs0 stop F n d M pc lv st σ = some y → M ≤ iv_n → iv_part L xs stop F n d M pc lv st σ = some y := by
  intro n
  induction n with
  | zero => intro d M pc lv st σ y h; cases h
  | succ n ih =>
    intro d M pc lv st σ y h hM
    rw [iv_part_s] at h ⊢
    cases hpc : Nat.beq pc stop
    case true =>
      rw [hpc] at h
      exact h
    rw [hpc] at h
    simp only [cond_false] at h ⊢
    split at h
    · rename_i f ho
      obtain ⟨i, len, hd, hln, hop, hlx⟩ := iv_fetch (iv_cok_any hM) (iv_lw_any hM) ho
      split at h
      · rename_i pc' lv1 st1 σ1 hf
        have hf2 := iv_op_id hop xs0 L xs pc lv st σ _ hf
        simp only [hf2]
        rw [iv_fp_eq] at h ⊢
        exact ih _ _ _ _ _ _ _ h hM
      · cases h
    · rename_i kind mm nn ci ho
      obtain ⟨i, len, hd, hln, hop, hlx⟩ := iv_fetch (iv_cok_any hM) (iv_lw_any hM) ho
      have hmm : mm < iv_n := by
        obtain ⟨kx, z9, h9, hcall⟩ := iv_call_of hop
        rcases hcall with ⟨-, -, q⟩ | ⟨-, -, q⟩ | ⟨-, -, q⟩ | ⟨-, -, q⟩
        all_goals
          have hk := iv_lk_ok (iv_own_any hM) q
          simp only [iv_lok, Bool.and_eq_true] at hk
          exact iv_blt hk.1
      split at h
      · rename_i as rest d' hq
        simp only [Bool.cond_eq_ite] at h ⊢
        split at h
        · rename_i hcs
          rw [if_pos hcs]
          split at h
          · rename_i r1 σ1 hrun
            have hrun2 := iv_run_id L xs0 xs _ _ _ _ _ _ _ _ hrun (Nat.le_of_lt hmm)
            simp only [hrun2]
            rw [iv_fp_eq] at h ⊢
            exact ih _ _ _ _ _ _ _ h hM
          · cases h
        · cases h
      · cases h
    · cases h
