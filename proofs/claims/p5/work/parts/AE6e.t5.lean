/-! ===== the reference's book: its fault ===== -/
set_option maxRecDepth 100000 in
theorem y266_0 : iv_f1 (iv_p 266) 0 = some (.inl (iv_oA 0 1)) := rfl
set_option maxRecDepth 100000 in
theorem y266_1 : iv_f1 (iv_p 266) 1 = some (.inl (iv_oK (.int (Int32.ofNat 0)) 1)) := rfl
set_option maxRecDepth 100000 in
theorem y266_2 : iv_f1 (iv_p 266) 2 = some (.inl (iv_oPF 12 0 .int)) := rfl
set_option maxRecDepth 100000 in
theorem y266_5 : iv_f1 (iv_p 266) 5 = some (.inl (iv_oI 1 1)) := rfl
set_option maxRecDepth 100000 in
theorem y266_6 : iv_f1 (iv_p 266) 6 = some (.inl (iv_oK (.int (Int32.ofNat 0)) 1)) := rfl
set_option maxRecDepth 100000 in
theorem y266_7 : iv_f1 (iv_p 266) 7 = some (.inl (iv_oK (.int (Int32.ofNat 1)) 1)) := rfl
set_option maxRecDepth 100000 in
theorem y266_8 : iv_f1 (iv_p 266) 8 = some (.inr (.inr (4, 160, 3, 0))) := rfl
set_option maxRecDepth 100000 in
theorem y266_11 : iv_f1 (iv_p 266) 11 = some (.inl (iv_oIf .ne (7))) := rfl
set_option maxRecDepth 100000 in
theorem y266_18 : iv_f1 (iv_p 266) 18 = some (.inl (iv_oA 0 1)) := rfl
set_option maxRecDepth 100000 in
theorem y266_19 : iv_f1 (iv_p 266) 19 = some (.inl (iv_oK (.int (Int32.ofNat 400)) 3)) := rfl
set_option maxRecDepth 100000 in
theorem y266_22 : iv_f1 (iv_p 266) 22 = some (.inr (.inr (6, 177, 1, 12))) := rfl
set_option maxRecDepth 100000 in
theorem y266_25 : iv_f1 (iv_p 266) 25 = some (.inl (iv_oA 0 1)) := rfl
set_option maxRecDepth 100000 in
theorem y266_26 : iv_f1 (iv_p 266) 26 = some (.inl (iv_oK (.int (Int32.ofNat 0)) 1)) := rfl
set_option maxRecDepth 100000 in
theorem y266_27 : iv_f1 (iv_p 266) 27 = some (.inl (iv_oPF 12 42 .int)) := rfl
set_option maxRecDepth 100000 in
theorem y266_30 : iv_f1 (iv_p 266) 30 = some (.inl (iv_oA 0 1)) := rfl
set_option maxRecDepth 100000 in
theorem y266_31 : iv_f1 (iv_p 266) 31 = some (.inl (iv_oGF 12 7)) := rfl
set_option maxRecDepth 100000 in
theorem y266_34 : iv_f1 (iv_p 266) 34 = some (.inl (iv_oIf .eq (31))) := rfl
set_option maxRecDepth 100000 in
theorem y266_37 : iv_f1 (iv_p 266) 37 = some (.inl (iv_oA 0 1)) := rfl
set_option maxRecDepth 100000 in
theorem y266_38 : iv_f1 (iv_p 266) 38 = some (.inr (.inr (6, 264, 0, 12))) := rfl
set_option maxRecDepth 100000 in
theorem y266_41 : iv_f1 (iv_p 266) 41 = some (.inl (iv_oIf .ne (11))) := rfl
set_option maxRecDepth 100000 in
theorem y266_44 : iv_f1 (iv_p 266) 44 = some (.inl (iv_oK (.int (Int32.ofInt (-2))) 2)) := rfl
set_option maxRecDepth 100000 in
theorem y266_46 : iv_f1 (iv_p 266) 46 = some (.inl (iv_oA 0 1)) := rfl
set_option maxRecDepth 100000 in
theorem y266_47 : iv_f1 (iv_p 266) 47 = some (.inl (iv_oGF 12 11)) := rfl
set_option maxRecDepth 100000 in
theorem y266_50 : iv_f1 (iv_p 266) 50 = some (.inl (iv_oII fun x y => x - y)) := rfl
set_option maxRecDepth 100000 in
theorem y266_51 : iv_f1 (iv_p 266) 51 = some (.inr (.inl 1)) := rfl
set_option maxRecDepth 100000 in
theorem y266_52 : iv_f1 (iv_p 266) 52 = some (.inl (iv_oA 0 1)) := rfl
set_option maxRecDepth 100000 in
theorem y266_53 : iv_f1 (iv_p 266) 53 = some (.inl iv_oDup) := rfl
set_option maxRecDepth 100000 in
theorem y266_54 : iv_f1 (iv_p 266) 54 = some (.inl (iv_oGF 12 42)) := rfl
set_option maxRecDepth 100000 in
theorem y266_57 : iv_f1 (iv_p 266) 57 = some (.inl (iv_oK (.int (Int32.ofNat 1)) 1)) := rfl
set_option maxRecDepth 100000 in
theorem y266_58 : iv_f1 (iv_p 266) 58 = some (.inl (iv_oII fun x y => x + y)) := rfl
set_option maxRecDepth 100000 in
theorem y266_59 : iv_f1 (iv_p 266) 59 = some (.inl (iv_oPF 12 42 .int)) := rfl
set_option maxRecDepth 100000 in
theorem y266_62 : iv_f1 (iv_p 266) 62 = some (.inl (iv_oGo (-32))) := rfl
section FW
variable {L : Nat} {xs : Nat → Int32} {d M pc pc' : Nat} {lv lv' : iv_L} {st st' : List Value} {σ σ1 σ' : iv_H} {r : Option Value} {f : iv_F}
theorem z_fs (hf : iv_f1 (iv_p M) pc = some (.inl f)) (he : f L xs pc lv st σ = some (pc', lv', st', σ1)) (h : iv_Rn L xs d M pc lv st σ r σ') : iv_Rn L xs d M pc' lv' st' σ1 r σ' := by
  obtain ⟨n, hn⟩ := h
  cases n with
  | zero => cases hn
  | succ n =>
    rw [iv_run_s] at hn
    unfold iv_step at hn
    rw [hf] at hn
    unfold iv_do iv_go1 at hn
    simp only [he] at hn
    rw [iv_fp_eq] at hn
    exact ⟨n, hn⟩
theorem z_fc {kind mm nn ci : Nat} {as rest : List Value} {r1 : Option Value} (hf : iv_f1 (iv_p M) pc = some (.inr (.inr (kind, mm, nn, ci)))) (ha : iv_args kind nn ci st σ = some (as, rest)) (hr : iv_Rn L xs d mm 0 (lv_args 0 as) [] σ r1 σ1) (h : iv_Rn L xs (d + 1) M pc lv st σ r σ') : iv_Rn L xs (d + 1) M (pc + 3) lv (r1.toList ++ rest) σ1 r σ' := by
  obtain ⟨n, hn⟩ := h
  cases n with
  | zero => cases hn
  | succ n =>
    rw [iv_run_s] at hn
    unfold iv_step at hn
    rw [hf] at hn
    unfold iv_do iv_cl at hn
    simp only [ha, Bool.cond_eq_ite] at hn
    split at hn
    · split at hn
      · rename_i r2 σ2 hrun
        obtain ⟨e1, e2⟩ := y_det ⟨n, hrun⟩ hr
        rw [e1, e2, iv_fp_eq] at hn
        exact ⟨n, hn⟩
      · cases hn
    · cases hn
theorem z_fr {k : Nat} {r0 : Option Value} {σ0 : iv_H} (hf : iv_f1 (iv_p M) pc = some (.inr (.inl k))) (hs : iv_rt k st σ = some (r0, σ0)) (h : iv_Rn L xs d M pc lv st σ r σ') : r = r0 ∧ σ' = σ0 := y_det h (Rr hf hs)
theorem e_gf {ci n j a : Nat} {V : Nat → Value} {v : Value} (hg : iv_get σ a = some (yob ci n V)) (hj : Nat.blt j n = true) (hv : V j = v) : iv_oGF ci j L xs pc lv (.ref a :: st) σ = some (pc + 3, lv, v :: st, σ) := o_GF hg (by rw [y_nthV (by rw [Nat.blt_eq] at hj; exact hj), hv])
theorem e_pf {ci n j a : Nat} {fty : FieldType} {V : Nat → Value} {v : Value} (hg : iv_get σ a = some (yob ci n V)) (hv : iv_fit fty v = true) (hj : Nat.blt j n = true) : ∃ σ1, mD σ σ1 a (yob ci n (yuV V j v)) ∧ iv_oPF ci j fty L xs pc lv (v :: .ref a :: st) σ = some (pc + 3, lv, st, σ1) := by
  have h := o_PF (L := L) (xs := xs) (pc := pc) (lv := lv) (r0 := st) hg hv (by rw [Nat.blt_eq] at hj ⊢; simpa using hj)
  rw [y_set] at h
  exact ⟨_, mD_put2 hg, h⟩
end FW
section BKF
variable {L : Nat} {xs : Nat → Int32} {T : Nat → Nat} {n : Nat} {Nm : Nat → Int64} {nb ng : Nat}
theorem yBln_40 {m p q : Nat} (h : yBln T n m Nm nb ng 40 p = .inr q) : False := by
  unfold yBln at h
  split at h
  · rw [if_pos rfl] at h
    cases h
  · split at h
    · rw [if_pos rfl] at h
      cases h
    · cases hq : yNmd T n m Nm 0 nb p with
      | inl e =>
        rw [hq] at h
        cases h
      | inr i =>
        rw [hq] at h
        have h2 : (if 40 = 40 then (.inl (ybd T n m p 4) : yE Nat) else yDoe T n m Nm nb ng (yto T n m p)) = .inr q := h
        rw [if_pos rfl] at h2
        cases h2
theorem mb_loop (hb : nb ≤ 7) (hg : ng ≤ 6) (hn : n ≤ 940) (hT : ∀ i, T i ≤ 255) {d : Nat} : ∀ (f p l : Nat) (F : Nat → Int32) (lv : iv_L) (σ : iv_H) (r : Option Value) (σ' : iv_H), l + f = 41 → l ≤ 40 → yKs T n 400 p Nm nb ng l F σ → iv_f1 lv 0 = some (.ref 548) → iv_Rn L xs (d + 7) 266 30 lv [] σ r σ' → oF σ' 548 10 = some (.int (Int32.ofNat (yFt (yBok T n 400 Nm nb ng f p l)))) := by
  intro f
  induction f with
  | zero =>
    intro p l F lv σ r σ' hl hl2
    omega
  | succ f ih =>
    intro p l F lv σ r σ' hl hl2 hK l0 h
    obtain ⟨s, V, hM, mo, ⟨h42, h13, h10, h47⟩, hN, gM, gF⟩ := id hK
    have g := hM.1
    have v7 := yTk_7 hM.2.2.2.2.2.2.2.2
    have hk4 := ykd_le (T := T) (n := n) (m := 400) (p := p)
    have h1 := z_fs y266_30 (o_Ax l0) h
    have h2 := z_fs y266_31 (e_gf g rfl v7) h1
    by_cases c : ykd T n 400 p = 0
    · have h3 := z_fs y266_34 (o_IfT (t := 65) rfl ((y_c (b := 0) (by omega) (by decide)).mpr (by simp only [zch]; omega))) h2
      obtain ⟨fs', g', e'⟩ := sfm_run h3 _ g
      have un : yBok T n 400 Nm nb ng (f + 1) p l = .inr l := if_pos c
      rw [un, hO_of g' 10, e', y_nthV (by decide), h10]
      rfl
    · have h3 := z_fs y266_34 (o_IfF (t := 65) rfl (c_f (fun e => by
        have := (y_c (b := 0) (by omega) (by decide)).mp e
        simp only [zch] at this
        omega))) h2
      have h4 := z_fs y266_37 (o_Ax l0) h3
      obtain ⟨b, σ2, r2, o2⟩ := ym_blnK (L := L) (xs := xs) (d := d) hl2 hb hg hn (by decide) hT hK
      have h5 := z_fc y266_38 (y_args6 g rfl rfl) r2 h4
      have un : yBok T n 400 Nm nb ng (f + 1) p l = yThen (yThen (yBln T n 400 Nm nb ng l p) fun q => yEnd T n 400 q) fun p2 => yBok T n 400 Nm nb ng f p2 (l + 1) := by
        have u1 : yBok T n 400 Nm nb ng (f + 1) p l = yThen (yBln T n 400 Nm nb ng l p) fun q => yThen (yEnd T n 400 q) fun p2 => yBok T n 400 Nm nb ng f p2 (l + 1) := if_neg c
        rw [u1]
        cases yBln T n 400 Nm nb ng l p <;> rfl
      rw [un]
      cases hq : yThen (yBln T n 400 Nm nb ng l p) fun q => yEnd T n 400 q with
      | inl e =>
        rw [hq] at o2
        obtain ⟨rfl, V5, ⟨g5, v10, v11⟩, _⟩ := (show b = false ∧ yB e σ2 from o2)
        have h6 := z_fs y266_41 (o_IfF (t := 52) rfl rfl) h5
        have h7 := z_fs y266_44 rfl h6
        have h8 := z_fs y266_46 (o_Ax l0) h7
        have h9 := z_fs y266_47 (e_gf g5 rfl v11) h8
        have h10 := z_fs y266_50 rfl h9
        obtain ⟨_, rfl⟩ := z_fr y266_51 rfl h10
        exact (hO_of g5 10).trans (by rw [y_nthV (by decide), v10]; rfl)
      | inr p2 =>
        rw [hq] at o2
        obtain ⟨rfl, F1, hK2⟩ := (show b = true ∧ ∃ F1, yKs T n 400 p2 Nm nb ng l F1 σ2 from o2)
        have hl3 : l < 40 := by
          rcases Nat.lt_or_ge l 40 with h9 | h9
          · exact h9
          · have e40 : l = 40 := by omega
            subst e40
            cases hq2 : yBln T n 400 Nm nb ng 40 p with
            | inl e =>
              rw [hq2] at hq
              cases hq
            | inr q => exact (yBln_40 hq2).elim
        obtain ⟨s2, V2, hM2, mo2, ⟨w42, w13, w10, w47⟩, ⟨N2, gN2, hN2⟩, gM2, gF2⟩ := id hK2
        have h6 := z_fs y266_41 (o_IfT (t := 52) rfl rfl) h5
        have h7 := z_fs y266_52 (o_Ax l0) h6
        have h8 := z_fs y266_53 rfl h7
        have h9 := z_fs y266_54 (e_gf hM2.1 rfl w42) h8
        have h11 := z_fs y266_57 rfl h9
        have h12 := z_fs y266_58 rfl h11
        have ea : Int32.ofNat l + Int32.ofNat 1 = Int32.ofNat (l + 1) := (Int32.ofNat_add l 1).symm
        obtain ⟨σ3, m3, e3⟩ := e_pf (L := L) (xs := xs) (pc := 59) (lv := lv) (st := []) (fty := .int) (j := 42) (v := .int (Int32.ofNat l + Int32.ofNat 1)) hM2.1 rfl rfl
        have h13 := z_fs y266_59 e3 h12
        have h14 := z_fs y266_62 (pc' := 30) rfl h13
        rw [ea] at m3
        have hK3 : yKs T n 400 p2 Nm nb ng (l + 1) F1 σ3 := ⟨s2, _, yMR_pf hM2 m3 rfl, mO_ag mo2 (fun j hj => (yA_u (S := [42]) rfl) j (y_disj (by decide) hj)), ⟨rfl, w13, w10, w47⟩, ⟨N2, mD_n m3 (by decide) gN2, hN2⟩, mD_n m3 (by decide) gM2, mD_n m3 (by decide) gF2⟩
        exact ih p2 (l + 1) F1 lv σ3 r σ' (by omega) (by omega) hK3 l0 h14
theorem mb_ft {d which : Nat} {σ σ' : iv_H} {V : Nat → Value} {N rd on F : Nat → Int32} {rn : Nat → Int64} {u t : Int32} {w : Option Value} (hw : which ≤ 1) (hb : nb ≤ 7) (hg : ng ≤ 6) (hn : n ≤ 940) (hT : ∀ i, T i ≤ 255) (mo : mO ((List.range 49).map V)) (g : iv_get σ 548 = some (yob 12 49 V)) (gt : iv_get σ 550 = some (yai 940 (ytp T))) (gr : iv_get σ 554 = some (yai 38 rd)) (gn : iv_get σ 564 = some (yaj 13 rn)) (go : iv_get σ 570 = some (yaz 3 on)) (gN : iv_get σ 552 = some (yai 374 N)) (gM : iv_get σ 562 = some (yaj 13 Nm)) (gF : iv_get σ 586 = some (yai 160 F)) (hN : N 0 = Int32.ofNat nb ∧ N 1 = Int32.ofNat ng) (v2 : V 2 = .int (Int32.ofNat n)) (v13 : V 13 = .int u) (v47 : V 47 = .int t) (ty : yTy V) (h : iv_Rn L xs (d + 7) 266 0 (lv_args 0 [.ref 548, .int (Int32.ofNat which)]) [] σ w σ') : oF σ' 548 10 = some (.int (Int32.ofNat (yFt (yBok T n 400 Nm nb ng 41 0 0)))) := by
  obtain ⟨v1, v15, v20, v23⟩ := mO_V mo
  have h1 := z_fs y266_0 (o_Ax rfl) h
  have h2 := z_fs y266_1 rfl h1
  obtain ⟨σ1, m1, e1⟩ := e_pf (L := L) (xs := xs) (pc := 2) (lv := lv_args 0 [.ref 548, .int (Int32.ofNat which)]) (st := []) (fty := .int) (j := 0) (v := .int (Int32.ofNat 0)) g rfl rfl
  have h3 := z_fs y266_2 e1 h2
  have h4 := z_fs y266_5 rfl h3
  have h5 := z_fs y266_6 rfl h4
  have h6 := z_fs y266_7 rfl h5
  have h7 := z_fc y266_8 (y_args4 rfl rfl) (ym_in (L := L) (xs := xs) (d := d + 6) (v := which) (a := 0) (b := 1) (by omega) (by decide) (by decide)) h6
  have h8 := z_fs y266_11 (o_IfT (t := 18) rfl (y_bneT (decide_eq_true ⟨Nat.zero_le _, hw⟩))) h7
  have h9 := z_fs y266_18 (o_Ax rfl) h8
  have h10 := z_fs y266_19 rfl h9
  have ag0 : yAg [0] V (yuV V 0 (.int (Int32.ofNat 0))) := yA_u rfl
  obtain ⟨⟨x12, v12⟩, ⟨x8, v8⟩, x9, v9⟩ := id ty
  obtain ⟨σ2, r2, V2, hM2, a2, f2, e10⟩ := ym_begin2 (L := L) (xs := xs) (d := d + 6) (m := 400) (s := (rd, rn, on)) (by omega) hn (by decide) hT m1.2.1 (mD_n m1 (by decide) gt) (mD_n m1 (by decide) gr) (mD_n m1 (by decide) gn) (mD_n m1 (by decide) go) v1 v2 v15 v20 v23 ⟨⟨x12, v12⟩, ⟨x8, v8⟩, x9, v9⟩
  have h11 := z_fc y266_22 (y_args6 m1.2.1 rfl rfl) r2 h10
  have h12 := z_fs y266_25 (o_Ax rfl) h11
  have h13 := z_fs y266_26 rfl h12
  obtain ⟨σ3, m3, e3⟩ := e_pf (L := L) (xs := xs) (pc := 27) (lv := lv_args 0 [.ref 548, .int (Int32.ofNat which)]) (st := []) (fty := .int) (j := 42) (v := .int (Int32.ofNat 0)) hM2.1 rfl rfl
  have h14 := z_fs y266_27 e3 h13
  have mo2 : mO ((List.range 49).map V2) := mO_ag (mO_ag mo (fun j hj => ag0 j (y_disj (by decide) hj))) (fun j hj => a2 j (y_disj (by decide) hj))
  have hK : yKs T n 400 0 Nm nb ng 0 F σ3 := ⟨(rd, rn, on), _, yMR_pf hM2 m3 rfl, mO_ag mo2 (fun j hj => (yA_u (S := [42]) rfl) j (y_disj (by decide) hj)), ⟨rfl, ⟨u, (a2 13 (by rfl)).trans v13⟩, e10, t, (a2 47 (by rfl)).trans v47⟩, ⟨N, mD_n m3 (by decide) (yF_n f2 (by rfl) (mD_n m1 (by decide) gN)), hN⟩, mD_n m3 (by decide) (yF_n f2 (by rfl) (mD_n m1 (by decide) gM)), mD_n m3 (by decide) (yF_n f2 (by rfl) (mD_n m1 (by decide) gF))⟩
  exact mb_loop hb hg hn hT 41 0 0 F _ σ3 w σ' rfl (by decide) hK rfl h14
end BKF
