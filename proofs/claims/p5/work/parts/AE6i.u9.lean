/-! ===== the class's book: its fault ===== -/
set_option maxRecDepth 100000 in
theorem y148_0 : iv_f1 (iv_p 148) 0 = some (.inl (iv_oI 1 1)) := rfl
set_option maxRecDepth 100000 in
theorem y148_1 : iv_f1 (iv_p 148) 1 = some (.inl (iv_oIf .eq (12))) := rfl
set_option maxRecDepth 100000 in
theorem y148_4 : iv_f1 (iv_p 148) 4 = some (.inl (iv_oI 1 1)) := rfl
set_option maxRecDepth 100000 in
theorem y148_5 : iv_f1 (iv_p 148) 5 = some (.inl (iv_oK (.int (Int32.ofNat 1)) 1)) := rfl
set_option maxRecDepth 100000 in
theorem y148_6 : iv_f1 (iv_p 148) 6 = some (.inl (iv_oIc .eq (7))) := rfl
set_option maxRecDepth 100000 in
theorem y148_9 : iv_f1 (iv_p 148) 9 = some (.inl (iv_oK (.int (Int32.ofInt (-1000))) 3)) := rfl
set_option maxRecDepth 100000 in
theorem y148_12 : iv_f1 (iv_p 148) 12 = some (.inr (.inl 1)) := rfl
set_option maxRecDepth 100000 in
theorem y148_13 : iv_f1 (iv_p 148) 13 = some (.inl (iv_oA 0 1)) := rfl
set_option maxRecDepth 100000 in
theorem y148_14 : iv_f1 (iv_p 148) 14 = some (.inl (iv_oK (.int (Int32.ofNat 400)) 3)) := rfl
set_option maxRecDepth 100000 in
theorem y148_17 : iv_f1 (iv_p 148) 17 = some (.inr (.inr (6, 116, 1, 11))) := rfl
set_option maxRecDepth 100000 in
theorem y148_20 : iv_f1 (iv_p 148) 20 = some (.inl (iv_oA 0 1)) := rfl
set_option maxRecDepth 100000 in
theorem y148_21 : iv_f1 (iv_p 148) 21 = some (.inl (iv_oGF 11 15)) := rfl
set_option maxRecDepth 100000 in
theorem y148_24 : iv_f1 (iv_p 148) 24 = some (.inl (iv_oA 0 1)) := rfl
set_option maxRecDepth 100000 in
theorem y148_25 : iv_f1 (iv_p 148) 25 = some (.inl (iv_oGF 11 10)) := rfl
set_option maxRecDepth 100000 in
theorem y148_28 : iv_f1 (iv_p 148) 28 = some (.inl (iv_oA 0 1)) := rfl
set_option maxRecDepth 100000 in
theorem y148_29 : iv_f1 (iv_p 148) 29 = some (.inl (iv_oGF 11 3)) := rfl
set_option maxRecDepth 100000 in
theorem y148_32 : iv_f1 (iv_p 148) 32 = some (.inr (.inr (6, 1, 2, 0))) := rfl
set_option maxRecDepth 100000 in
theorem y148_35 : iv_f1 (iv_p 148) 35 = some (.inl (iv_oIS 2 1)) := rfl
set_option maxRecDepth 100000 in
theorem y148_36 : iv_f1 (iv_p 148) 36 = some (.inl (iv_oA 0 1)) := rfl
set_option maxRecDepth 100000 in
theorem y148_37 : iv_f1 (iv_p 148) 37 = some (.inl (iv_oA 0 1)) := rfl
set_option maxRecDepth 100000 in
theorem y148_38 : iv_f1 (iv_p 148) 38 = some (.inl (iv_oGF 11 10)) := rfl
set_option maxRecDepth 100000 in
theorem y148_41 : iv_f1 (iv_p 148) 41 = some (.inl (iv_oGF 5 11)) := rfl
set_option maxRecDepth 100000 in
theorem y148_44 : iv_f1 (iv_p 148) 44 = some (.inl (iv_oPF 11 2 .int)) := rfl
set_option maxRecDepth 100000 in
theorem y266_14 : iv_f1 (iv_p 266) 14 = some (.inl (iv_oK (.int (Int32.ofInt (-1000))) 3)) := rfl
set_option maxRecDepth 100000 in
theorem y266_17 : iv_f1 (iv_p 266) 17 = some (.inr (.inl 1)) := rfl
theorem nth_lt : ∀ {l : List Value} {i : Nat} {x : Value}, iv_nth l i = some x → i < l.length
  | [], i, x, h => by cases i <;> cases h
  | y :: l, 0, x, h => Nat.zero_lt_succ _
  | y :: l, i + 1, x, h => Nat.succ_lt_succ (nth_lt (l := l) h)
section CF
variable {L : Nat} {xs : Nat → Int32} {T : Nat → Nat} {n : Nat} {Nm : Nat → Int64} {nb ng : Nat}
theorem cb_17 {d : Nat} {σ σ' : iv_H} {lv : iv_L} {w : Option Value} (hb : nb ≤ 7) (hg : ng ≤ 6) (hn : n ≤ 940) (hT : ∀ i, T i ≤ 255) (hI : zI z_τ z_ty σ) (hF : FX σ) (hfb : fB σ = some (.int (Int32.ofNat n))) (gt : iv_get σ 2 = some (yai 940 (ytp T))) (hr : yHr Nm nb ng σ) (l0 : iv_f1 lv 0 = some (.ref 0)) (h : iv_Rn L xs (d + 10) 148 13 lv [] σ w σ') : oF σ' 0 2 = some (.int (Int32.ofNat (yFt (yBok T n 400 Nm nb ng 41 0 0)))) := by
  obtain ⟨G, g0, oG⟩ := yo_of hI (a := 0) (t := 21) (n := 20) rfl rfl rfl
  have c0 := yFX_v hF oG (by decide : (0, 11, 0, 2) ∈ yFX)
  have c3 := yFX_v hF oG (by decide : (0, 11, 3, 4) ∈ yFX)
  have c15 := yFX_v hF oG (by decide : (0, 11, 15, 374) ∈ yFX)
  have c10 := yFX_v hF oG (by decide : (0, 11, 10, 356) ∈ yFX)
  have c1 : G 1 = .int (Int32.ofNat n) := by
    have h := fB_of (show iv_get σ 0 = some (.inr (11, (List.range 20).map G)) from g0)
    rw [hfb, y_nthV (by decide)] at h
    simp only [Option.some.injEq] at h
    exact h.symm
  obtain ⟨V, g, oV⟩ := yo_of hI (a := 356) (t := 15) (n := 13) rfl rfl rfl
  have v1 := yFX_v hF oV (by decide : (356, 5, 1, 358) ∈ yFX)
  have v2 := yFX_v hF oV (by decide : (356, 5, 2, 360) ∈ yFX)
  have v3 := yFX_v hF oV (by decide : (356, 5, 3, 362) ∈ yFX)
  have v4 := yFX_v hF oV (by decide : (356, 5, 4, 364) ∈ yFX)
  obtain ⟨K, gk⟩ := yi_of hI (a := 358) (n := 901) rfl
  obtain ⟨P, gp⟩ := yi_of hI (a := 360) (n := 901) rfl
  obtain ⟨X, gv⟩ := yj_of hI (a := 362) (n := 901) rfl
  obtain ⟨Q, gw⟩ := yq_of hI (a := 364) (n := 901) rfl
  obtain ⟨B, gB, oB⟩ := yo_of hI (a := 374) (t := 10) (n := 9) rfl rfl rfl
  have b1 := yFX_v hF oB (by decide : (374, 0, 1, 376) ∈ yFX)
  have b2 := yFX_v hF oB (by decide : (374, 0, 2, 378) ∈ yFX)
  have b3 := yFX_v hF oB (by decide : (374, 0, 3, 380) ∈ yFX)
  have b4 := yFX_v hF oB (by decide : (374, 0, 4, 382) ∈ yFX)
  obtain ⟨vb, q1⟩ := yi_of hI (a := 376) (n := 40) rfl
  obtain ⟨wh, q2⟩ := yi_of hI (a := 378) (n := 40) rfl
  obtain ⟨wt, q3⟩ := yi_of hI (a := 380) (n := 40) rfl
  obtain ⟨sd, q4⟩ := yi_of hI (a := 382) (n := 40) rfl
  obtain ⟨σ1, r1, V1, hC1, g01, e11, _, f1⟩ := yg_rt (L := L) (xs := xs) (d := d + 9) (n := n) (m := 400) (by omega) hn (by decide) hT g0 c0 c1 c10 g gk gp gv gw v1 v2 v3 v4 gt
  have gB1 := yF_n f1 (by rfl) gB
  obtain ⟨b, σ2, r2, o2⟩ := yh_bk (L := L) (xs := xs) (d := d + 3) (Nm := Nm) (nb := nb) (ng := ng) hT (by decide) hb hg hC1 e11 gB1 b1 b2 b3 b4 (yF_n f1 (by rfl) q1) (yF_n f1 (by rfl) q2) (yF_n f1 (by rfl) q3) (yF_n f1 (by rfl) q4) (yHr_F hr f1 rfl)
  have h1 := z_fs y148_13 (o_Ax l0) h
  have h2 := z_fs y148_14 rfl h1
  have h3 := z_fc y148_17 (y_args6 g0 rfl rfl) r1 h2
  have h4 := z_fs y148_20 (o_Ax l0) h3
  have h5 := z_fs y148_21 (e_gf g01 rfl c15) h4
  have h6 := z_fs y148_24 (o_Ax l0) h5
  have h7 := z_fs y148_25 (e_gf g01 rfl c10) h6
  have h8 := z_fs y148_28 (o_Ax l0) h7
  have h9 := z_fs y148_29 (e_gf g01 rfl c3) h8
  have h10 := z_fc y148_32 (y_args6 gB1 rfl rfl) r2 h9
  have h11 := z_fs y148_35 rfl h10
  have m0 : iv_f1 ((2, Value.int (yb b)) :: iv_d1 2 lv) 0 = some (.ref 0) := y_l1 rfl rfl l0
  have h12 := z_fs y148_36 (o_Ax m0) h11
  have h13 := z_fs y148_37 (o_Ax m0) h12
  obtain ⟨fs', g', e'⟩ := sfd_run r2 _ g01
  have e2 : iv_nth fs' 10 = some (.ref 356) := by
    rw [e', y_nthV (by decide)]
    exact congrArg some c10
  have h14 := z_fs y148_38 (o_GF g' e2) h13
  obtain ⟨V2, gV2, w11⟩ : ∃ V2, iv_get σ2 356 = some (yob 5 13 V2) ∧ V2 11 = .int (Int32.ofNat (yFt (yBok T n 400 Nm nb ng 41 0 0))) := by
    cases hq : yBok T n 400 Nm nb ng 41 0 0 with
    | inl e =>
      rw [hq] at o2
      obtain ⟨_, V2, g2, w11, w12⟩ := (show b = false ∧ ∃ V2, yCB e V2 σ2 from o2)
      exact ⟨V2, g2, w11⟩
    | inr k =>
      rw [hq] at o2
      obtain ⟨_, p1, V2, hC2, w11⟩ := (show b = true ∧ ∃ p1 V2, yCM T n 400 p1 V2 σ2 ∧ V2 11 = .int (Int32.ofNat 0) from o2)
      exact ⟨V2, yCM_g hC2, w11⟩
  have h15 := z_fs y148_41 (e_gf gV2 rfl w11) h14
  have hl : 2 < fs'.length := by
    have := nth_lt e2
    omega
  have h16 := z_fs y148_44 (o_PF g' rfl (by rw [Nat.blt_eq]; exact hl)) h15
  obtain ⟨f3, g3, e3⟩ := sfc_run h16 _ (iv_gp_s g')
  rw [hO_of g3 2, e3, iv_nth_set, if_pos ⟨rfl, hl⟩]
theorem cb_ft {d : Nat} {x : Int32} {σ σ' : iv_H} {w : Option Value} (hx : x = 0 ∨ x = 1) (hb : nb ≤ 7) (hg : ng ≤ 6) (hn : n ≤ 940) (hT : ∀ i, T i ≤ 255) (hI : zI z_τ z_ty σ) (hF : FX σ) (hfb : fB σ = some (.int (Int32.ofNat n))) (gt : iv_get σ 2 = some (yai 940 (ytp T))) (hr : yHr Nm nb ng σ) (h : iv_Rn L xs (d + 10) 148 0 (lv_args 0 [.ref 0, .int x]) [] σ w σ') : oF σ' 0 2 = some (.int (Int32.ofNat (yFt (yBok T n 400 Nm nb ng 41 0 0)))) := by
  have h1 := z_fs y148_0 rfl h
  rcases hx with rfl | rfl
  · have h2 := z_fs y148_1 (o_IfT (t := 13) rfl rfl) h1
    exact cb_17 hb hg hn hT hI hF hfb gt hr rfl h2
  · have h2 := z_fs y148_1 (o_IfF (t := 13) rfl rfl) h1
    have h3 := z_fs y148_4 rfl h2
    have h4 := z_fs y148_5 rfl h3
    have h5 := z_fs y148_6 (o_IcT (t := 13) rfl rfl) h4
    exact cb_17 hb hg hn hT hI hF hfb gt hr rfl h5
theorem cb_no {d : Nat} {x : Int32} {σ σ' : iv_H} {w : Option Value} (h0 : ¬ x = 0) (h9 : ¬ x = 1) (h : iv_Rn L xs d 148 0 (lv_args 0 [.ref 0, .int x]) [] σ w σ') : σ' = σ := by
  have h1 := z_fs y148_0 rfl h
  have h2 := z_fs y148_1 (o_IfF (t := 13) rfl (decide_eq_false h0)) h1
  have h3 := z_fs y148_4 rfl h2
  have h4 := z_fs y148_5 rfl h3
  have h5 := z_fs y148_6 (o_IcF (t := 13) rfl (decide_eq_false h9)) h4
  have h6 := z_fs y148_9 rfl h5
  exact (z_fr y148_12 rfl h6).2
/-- the reference, an argument that is neither -/
theorem i32_no01 {x : Int32} (h0 : ¬ x = 0) (h9 : ¬ x = 1) : x.toInt < 0 ∨ 1 < x.toInt := by
  rcases Int.lt_or_le x.toInt 0 with a | a
  · exact .inl a
  · rcases Int.lt_or_le 1 x.toInt with b | b
    · exact .inr b
    · exfalso
      have c : x.toInt = 0 ∨ x.toInt = 1 := by omega
      rcases c with c | c
      · exact h0 (Int32.toInt_inj.mp (by rw [c]; rfl))
      · exact h9 (Int32.toInt_inj.mp (by rw [c]; rfl))
theorem ym_in0 {d : Nat} {x : Int32} {σ : iv_H} (h0 : ¬ x = 0) (h9 : ¬ x = 1) : iv_Rn L xs d 160 0 (lv_args 0 [.int x, .int (Int32.ofNat 0), .int (Int32.ofNat 1)]) [] σ (some (.int (yb false))) σ := by
  refine y_Rp ?_
  refine w_I y160_0 rfl ?_
  refine w_I y160_1 rfl ?_
  rcases i32_no01 h0 h9 with c | c
  · refine w_icT y160_2 rfl (decide_eq_true (Int32.lt_iff_toInt_lt.mpr c)) ?_
    refine w_K y160_14 ?_
    exact y_ret (v := .int (yb false)) y160_15 y_rtb ⟨rfl, rfl⟩
  · refine w_icF y160_2 rfl (decide_eq_false (fun e => by
      have e2 := Int32.lt_iff_toInt_lt.mp e
      have e3 : (Int32.ofNat 0).toInt = 0 := rfl
      omega)) ?_
    refine w_I y160_5 rfl ?_
    refine w_I y160_6 rfl ?_
    refine w_icT y160_7 rfl (decide_eq_true (Int32.lt_iff_toInt_lt.mpr c)) ?_
    refine w_K y160_14 ?_
    exact y_ret (v := .int (yb false)) y160_15 y_rtb ⟨rfl, rfl⟩
theorem mb_no {d : Nat} {x : Int32} {σ σ' : iv_H} {V : Nat → Value} {w : Option Value} (h0 : ¬ x = 0) (h9 : ¬ x = 1) (g : iv_get σ 548 = some (yob 12 49 V)) (h : iv_Rn L xs (d + 1) 266 0 (lv_args 0 [.ref 548, .int x]) [] σ w σ') : oF σ' 548 10 = oF σ 548 10 := by
  have h1 := z_fs y266_0 (o_Ax rfl) h
  have h2 := z_fs y266_1 rfl h1
  obtain ⟨σ1, m1, e1⟩ := e_pf (L := L) (xs := xs) (pc := 2) (lv := lv_args 0 [.ref 548, .int x]) (st := []) (fty := .int) (j := 0) (v := .int (Int32.ofNat 0)) g rfl rfl
  have h3 := z_fs y266_2 e1 h2
  have h4 := z_fs y266_5 rfl h3
  have h5 := z_fs y266_6 rfl h4
  have h6 := z_fs y266_7 rfl h5
  have h7 := z_fc y266_8 (y_args4 rfl rfl) (ym_in0 (L := L) (xs := xs) (d := d) h0 h9) h6
  have h8 := z_fs y266_11 (o_IfF (t := 18) rfl rfl) h7
  have h10 := z_fs y266_14 rfl h8
  obtain ⟨_, rfl⟩ := z_fr y266_17 rfl h10
  rw [hO_of m1.2.1 10, hO_of g 10, y_nthV (by decide), y_nthV (by decide)]
  rfl
end CF
