/-! ===== printed by wip/gen/y/c3.py: the reference reads an order ===== -/
section YQ
variable {T : Nat → Nat} {n m p k : Nat} {V : Nat → Value} {w : Int64} {x : Int32}
theorem y_nmE (tw : ykd T n m p = 2 → V 12 = .long (yw T (ysk T n p) (yln T n p))) (v12 : V 12 = .long w) : decide (ykd T n m p = 2 ∧ yNoW w = true) = yisN T n m p := by
  unfold yisN
  by_cases h : ykd T n m p = 2
  · have e : w = yrv T n p := by
      have e2 := v12.symm.trans (tw h)
      simp only [Value.long.injEq] at e2
      exact e2
    rw [e]
  · rw [decide_eq_false (fun h2 => h h2.1), decide_eq_false (fun h2 => h h2.1)]
theorem y_iwE (tw : ykd T n m p = 2 → V 12 = .long (yw T (ysk T n p) (yln T n p))) (v12 : V 12 = .long w) : decide (ykd T n m p = 2 ∧ w = yWv k) = yisW T n m p k := by
  unfold yisW
  by_cases h : ykd T n m p = 2
  · have e : w = yrv T n p := by
      have e2 := v12.symm.trans (tw h)
      simp only [Value.long.injEq] at e2
      exact e2
    rw [e]
  · rw [decide_eq_false (fun h2 => h h2.1), decide_eq_false (fun h2 => h h2.1)]
theorem y_wE (tw : ykd T n m p = 2 → V 12 = .long (yw T (ysk T n p) (yln T n p))) (v12 : V 12 = .long w) (h : yisN T n m p = true) : w = yrv T n p := by
  have h2 := of_decide_eq_true h
  have e2 := v12.symm.trans (tw h2.1)
  simp only [Value.long.injEq] at e2
  exact e2
theorem y_sgE {c : Nat} (hT : ∀ i, T i ≤ 255) (hc : c ≤ 255) (tm : ykd T n m p = 4 → V 9 = .int (Int32.ofNat (T (ysk T n p)))) (v9 : V 9 = .int x) : decide (ykd T n m p = 4 ∧ x = Int32.ofNat c) = decide (ykd T n m p = 4 ∧ T (ysk T n p) = c) := by
  by_cases h : ykd T n m p = 4
  · have e2 := v9.symm.trans (tm h)
    simp only [Value.int.injEq] at e2
    rw [e2]
    by_cases h3 : T (ysk T n p) = c
    · rw [decide_eq_true (p := ykd T n m p = 4 ∧ Int32.ofNat (T (ysk T n p)) = Int32.ofNat c) ⟨h, by rw [h3]⟩, decide_eq_true (p := ykd T n m p = 4 ∧ T (ysk T n p) = c) ⟨h, h3⟩]
    · have h5 : ¬ Int32.ofNat (T (ysk T n p)) = Int32.ofNat c := fun e => h3 (by
        have e5 := congrArg Int32.toInt e
        have := hT (ysk T n p)
        rw [y_of (by omega), y_of (by omega)] at e5
        omega)
      rw [decide_eq_false (p := ykd T n m p = 4 ∧ Int32.ofNat (T (ysk T n p)) = Int32.ofNat c) (fun h4 => h5 h4.2), decide_eq_false (p := ykd T n m p = 4 ∧ T (ysk T n p) = c) (fun h4 => h3 h4.2)]
  · rw [decide_eq_false (fun h2 => h h2.1), decide_eq_false (fun h2 => h h2.1)]
end YQ
set_option maxRecDepth 100000 in
theorem y175_0 : iv_f1 (iv_p 175) 0 = some (.inl (iv_oA 0 1)) := rfl
set_option maxRecDepth 100000 in
theorem y175_1 : iv_f1 (iv_p 175) 1 = some (.inl (iv_oGF 12 7)) := rfl
set_option maxRecDepth 100000 in
theorem y175_4 : iv_f1 (iv_p 175) 4 = some (.inl (iv_oK (.int (Int32.ofNat 3)) 1)) := rfl
set_option maxRecDepth 100000 in
theorem y175_5 : iv_f1 (iv_p 175) 5 = some (.inl (iv_oIc .eq (9))) := rfl
set_option maxRecDepth 100000 in
theorem y175_8 : iv_f1 (iv_p 175) 8 = some (.inl (iv_oA 0 1)) := rfl
set_option maxRecDepth 100000 in
theorem y175_9 : iv_f1 (iv_p 175) 9 = some (.inl (iv_oK (.int (Int32.ofNat 1)) 1)) := rfl
set_option maxRecDepth 100000 in
theorem y175_10 : iv_f1 (iv_p 175) 10 = some (.inr (.inr (6, 174, 1, 12))) := rfl
set_option maxRecDepth 100000 in
theorem y175_13 : iv_f1 (iv_p 175) 13 = some (.inr (.inl 2)) := rfl
set_option maxRecDepth 100000 in
theorem y175_14 : iv_f1 (iv_p 175) 14 = some (.inl (iv_oA 0 1)) := rfl
set_option maxRecDepth 100000 in
theorem y175_15 : iv_f1 (iv_p 175) 15 = some (.inl (iv_oGF 12 8)) := rfl
set_option maxRecDepth 100000 in
theorem y175_18 : iv_f1 (iv_p 175) 18 = some (.inl (iv_oI 1 1)) := rfl
set_option maxRecDepth 100000 in
theorem y175_19 : iv_f1 (iv_p 175) 19 = some (.inl (iv_oI 2 1)) := rfl
set_option maxRecDepth 100000 in
theorem y175_20 : iv_f1 (iv_p 175) 20 = some (.inr (.inr (4, 160, 3, 0))) := rfl
set_option maxRecDepth 100000 in
theorem y175_23 : iv_f1 (iv_p 175) 23 = some (.inl (iv_oIf .ne (9))) := rfl
set_option maxRecDepth 100000 in
theorem y175_26 : iv_f1 (iv_p 175) 26 = some (.inl (iv_oA 0 1)) := rfl
set_option maxRecDepth 100000 in
theorem y175_27 : iv_f1 (iv_p 175) 27 = some (.inl (iv_oK (.int (Int32.ofNat 2)) 1)) := rfl
set_option maxRecDepth 100000 in
theorem y175_28 : iv_f1 (iv_p 175) 28 = some (.inr (.inr (6, 174, 1, 12))) := rfl
set_option maxRecDepth 100000 in
theorem y175_31 : iv_f1 (iv_p 175) 31 = some (.inr (.inl 2)) := rfl
set_option maxRecDepth 100000 in
theorem y175_32 : iv_f1 (iv_p 175) 32 = some (.inl (iv_oA 0 1)) := rfl
set_option maxRecDepth 100000 in
theorem y175_33 : iv_f1 (iv_p 175) 33 = some (.inl (iv_oA 0 1)) := rfl
set_option maxRecDepth 100000 in
theorem y175_34 : iv_f1 (iv_p 175) 34 = some (.inl (iv_oGF 12 8)) := rfl
set_option maxRecDepth 100000 in
theorem y175_37 : iv_f1 (iv_p 175) 37 = some (.inl (iv_oPF 12 13 .int)) := rfl
set_option maxRecDepth 100000 in
theorem y175_40 : iv_f1 (iv_p 175) 40 = some (.inl (iv_oA 0 1)) := rfl
set_option maxRecDepth 100000 in
theorem y175_41 : iv_f1 (iv_p 175) 41 = some (.inr (.inr (6, 168, 0, 12))) := rfl
set_option maxRecDepth 100000 in
theorem y175_44 : iv_f1 (iv_p 175) 44 = some (.inl (iv_oK (.int (Int32.ofNat 1)) 1)) := rfl
set_option maxRecDepth 100000 in
theorem y175_45 : iv_f1 (iv_p 175) 45 = some (.inr (.inl 2)) := rfl
theorem ym_num {L : Nat} {xs : Nat → Int32} {d : Nat} {T : Nat → Nat} {n m p : Nat} {s : yS} {V : Nat → Value} {σ : iv_H} {a b : Nat} (hd : 2 ≤ d) (ha : a ≤ 1000) (hbb : b ≤ 1000) (hn : n ≤ 940) (hm : m ≤ 940) (hT : ∀ i, T i ≤ 255) (hM : yMR T n m p s V σ) : ∃ r σ1 V1, iv_Rn L xs d 175 0 (lv_args 0 [.ref 548, .int (Int32.ofNat a), .int (Int32.ofNat b)]) [] σ (some (.int (yb r))) σ1 ∧ yON T n m s (yNum T n m a b p) r V1 σ1 ∧ yBx σ σ1 V V1 := by
  obtain ⟨d, rfl⟩ : ∃ e, d = e + 2 := ⟨d - 2, by omega⟩
  refine y_Rb ?_
  obtain ⟨g1, gt1, gr1, gn1, go1, ⟨v1_1, v3_1, v4_1, v15_1, v20_1, v23_1⟩, hp1, ty1, tk1⟩ := hM
  have t5_1 := yTk_5 tk1
  have t6_1 := yTk_6 tk1
  have t7_1 := yTk_7 tk1
  obtain ⟨⟨x12_1, v12_1⟩, ⟨x8_1, v8_1⟩, x9_1, v9_1⟩ := id ty1
  have kl2 := ykd_le (T := T) (n := n) (m := m) (p := p)
  refine w_A y175_0 rfl ?_
  refine y_gf y175_1 g1 rfl t7_1 ?_
  refine w_K y175_4 ?_
  by_cases c3 : ykd T n m p = 3
  · skip
    refine y_icT y175_5 rfl (by omega) (by omega) (by simp only [zch]; omega) ?_
    have k3 : ykd T n m p = 3 := by omega
    obtain ⟨en, ln⟩ := ykd_num k3
    have v8b := ((yTk_n tk1) k3).trans (congrArg Value.int en)
    refine w_A y175_14 rfl ?_
    refine y_gf y175_15 g1 rfl v8b ?_
    refine w_I y175_18 rfl ?_
    refine w_I y175_19 rfl ?_
    refine y_call y175_20 (y_args4 rfl rfl) rfl (ym_in (by omega) (by omega) (by omega)) ?_
    rcases y_bc (decide (a ≤ ynN T (ysk T n p) (yln T n p) ∧ ynN T (ysk T n p) (yln T n p) ≤ b)) with b4 | b4
    · skip
      refine w_ifF y175_23 rfl (y_bneF b4) ?_
      refine w_A y175_26 rfl ?_
      refine w_K y175_27 ?_
      obtain ⟨σ5, r5, V5, g5, a5, f5, e10_5, e11_5⟩ := ym_bad (L := L) (xs := xs) (d := d + 1) (k := 2) ykd_le9 g1 t7_1 t6_1
      refine y_call y175_28 (y_args6 g1 rfl rfl) rfl r5 ?_
      have sp : yNum T n m a b p = .inl (ybd T n m p 2) := by unfold yNum; rw [if_pos k3, if_neg (of_decide_eq_false b4)]
      exact y_ret y175_31 rfl ⟨false, _, rfl, yON_bad sp ⟨g5, e10_5, e11_5⟩, ⟨(yF_sub (by rfl) f5), (yA_sub (by rfl) a5)⟩⟩
    · skip
      refine w_ifT y175_23 rfl (y_bneT b4) ?_
      refine w_A y175_32 rfl ?_
      refine w_A y175_33 rfl ?_
      refine y_gf y175_34 g1 rfl v8b ?_
      refine y_pf y175_37 g1 rfl rfl ?_
      intro σ7 h6
      refine w_A y175_40 rfl ?_
      have g9 := (mD_n h6 (by decide) gt1)
      obtain ⟨σ8, r8, V8, g8, a8, f8, ty8, tk8⟩ := ym_go (L := L) (xs := xs) (d := d + 1) (by omega) hn hm (yto_le hn hp1) hT h6.2.1 g9 v1_1 v3_1 v4_1 t5_1 ⟨⟨_, v12_1⟩, ⟨_, v8b⟩, _, v9_1⟩
      refine y_call0 y175_41 (y_args6 h6.2.1 rfl rfl) rfl r8 ?_
      have z8_1 : V8 1 = _ := (a8 1 (by rfl)).trans v1_1
      have z8_3 : V8 3 = _ := (a8 3 (by rfl)).trans v3_1
      have z8_4 : V8 4 = _ := (a8 4 (by rfl)).trans v4_1
      have z8_15 : V8 15 = _ := (a8 15 (by rfl)).trans v15_1
      have z8_20 : V8 20 = _ := (a8 20 (by rfl)).trans v20_1
      have z8_23 : V8 23 = _ ∧ V8 10 = _ := ⟨(a8 23 (by rfl)).trans v23_1.1, (a8 10 (by rfl)).trans v23_1.2⟩
      have z8_13 : V8 13 = _ := (a8 13 (by rfl)).trans rfl
      obtain ⟨⟨xw8, yw8⟩, ⟨xn8, yn8⟩, xs8, ys8⟩ := id ty8
      have t5_8 := yTk_5 tk8
      have t6_8 := yTk_6 tk8
      have t7_8 := yTk_7 tk8
      refine w_K y175_44 ?_
      have sp : yNum T n m a b p = .inr (ynN T (ysk T n p) (yln T n p), yto T n m p) := by unfold yNum; rw [if_pos k3, if_pos (of_decide_eq_true b4)]
      have g10 := (yF_n f8 (by rfl) g9)
      have g11 := (yF_n f8 (by rfl) (mD_n h6 (by decide) gr1))
      have g12 := (yF_n f8 (by rfl) (mD_n h6 (by decide) gn1))
      have g13 := (yF_n f8 (by rfl) (mD_n h6 (by decide) go1))
      exact y_ret y175_45 rfl ⟨true, _, rfl, yON_good sp ⟨g8, g10, g11, g12, g13, ⟨z8_1, z8_3, z8_4, z8_15, z8_20, z8_23⟩, (yto_le hn hp1), ⟨⟨_, yw8⟩, ⟨_, yn8⟩, _, ys8⟩, tk8⟩ z8_13, ⟨(yF_tr (yF_D h6 (by rfl)) (yF_sub (by rfl) f8)), (yA_tr (yA_u (j := 13) (by rfl)) (yA_sub (by rfl) a8))⟩⟩
  · skip
    refine y_icF y175_5 rfl (by omega) (by omega) (by simp only [zch]; omega) ?_
    refine w_A y175_8 rfl ?_
    refine w_K y175_9 ?_
    obtain ⟨σ14, r14, V14, g14, a14, f14, e10_14, e11_14⟩ := ym_bad (L := L) (xs := xs) (d := d + 1) (k := 1) ykd_le9 g1 t7_1 t6_1
    refine y_call y175_10 (y_args6 g1 rfl rfl) rfl r14 ?_
    have sp : yNum T n m a b p = .inl (ybd T n m p 1) := by unfold yNum; rw [if_neg (by omega)]
    exact y_ret y175_13 rfl ⟨false, _, rfl, yON_bad sp ⟨g14, e10_14, e11_14⟩, ⟨(yF_sub (by rfl) f14), (yA_sub (by rfl) a14)⟩⟩
set_option maxRecDepth 100000 in
theorem y176_0 : iv_f1 (iv_p 176) 0 = some (.inl (iv_oA 0 1)) := rfl
set_option maxRecDepth 100000 in
theorem y176_1 : iv_f1 (iv_p 176) 1 = some (.inl (iv_oK (.int (Int32.ofNat 59)) 2)) := rfl
set_option maxRecDepth 100000 in
theorem y176_3 : iv_f1 (iv_p 176) 3 = some (.inr (.inr (6, 172, 1, 12))) := rfl
set_option maxRecDepth 100000 in
theorem y176_6 : iv_f1 (iv_p 176) 6 = some (.inl (iv_oIf .ne (9))) := rfl
set_option maxRecDepth 100000 in
theorem y176_9 : iv_f1 (iv_p 176) 9 = some (.inl (iv_oA 0 1)) := rfl
set_option maxRecDepth 100000 in
theorem y176_10 : iv_f1 (iv_p 176) 10 = some (.inl (iv_oK (.int (Int32.ofNat 1)) 1)) := rfl
set_option maxRecDepth 100000 in
theorem y176_11 : iv_f1 (iv_p 176) 11 = some (.inr (.inr (6, 174, 1, 12))) := rfl
set_option maxRecDepth 100000 in
theorem y176_14 : iv_f1 (iv_p 176) 14 = some (.inr (.inl 2)) := rfl
set_option maxRecDepth 100000 in
theorem y176_15 : iv_f1 (iv_p 176) 15 = some (.inl (iv_oA 0 1)) := rfl
set_option maxRecDepth 100000 in
theorem y176_16 : iv_f1 (iv_p 176) 16 = some (.inr (.inr (6, 168, 0, 12))) := rfl
set_option maxRecDepth 100000 in
theorem y176_19 : iv_f1 (iv_p 176) 19 = some (.inl (iv_oK (.int (Int32.ofNat 1)) 1)) := rfl
set_option maxRecDepth 100000 in
theorem y176_20 : iv_f1 (iv_p 176) 20 = some (.inr (.inl 2)) := rfl
theorem ym_end {L : Nat} {xs : Nat → Int32} {d : Nat} {T : Nat → Nat} {n m p : Nat} {s : yS} {V : Nat → Value} {σ : iv_H} (hd : 2 ≤ d) (hn : n ≤ 940) (hm : m ≤ 940) (hT : ∀ i, T i ≤ 255) (hM : yMR T n m p s V σ) : ∃ r σ1 V1, iv_Rn L xs d 176 0 (lv_args 0 [.ref 548]) [] σ (some (.int (yb r))) σ1 ∧ yOM T n m (yThen (yEnd T n m p) fun q => .inr (s, q)) r V1 σ1 ∧ yBx σ σ1 V V1 := by
  obtain ⟨d, rfl⟩ : ∃ e, d = e + 2 := ⟨d - 2, by omega⟩
  refine y_Rb ?_
  obtain ⟨g15, gt15, gr15, gn15, go15, ⟨v1_15, v3_15, v4_15, v15_15, v20_15, v23_15⟩, hp15, ty15, tk15⟩ := hM
  have t5_15 := yTk_5 tk15
  have t6_15 := yTk_6 tk15
  have t7_15 := yTk_7 tk15
  obtain ⟨⟨x12_15, v12_15⟩, ⟨x8_15, v8_15⟩, x9_15, v9_15⟩ := id ty15
  refine w_A y176_0 rfl ?_
  refine w_K y176_1 ?_
  have n16 := ym_is (L := L) (xs := xs) (d := d + 1) (c := 59) ykd_le9 g15 t7_15 v9_15
  rw [y_sgE hT (by decide) (yTk_m tk15) v9_15] at n16
  refine y_call y176_3 (y_args6 g15 rfl rfl) rfl n16 ?_
  rcases y_bc (decide (ykd T n m p = 4 ∧ T (ysk T n p) = 59)) with b17 | b17
  · skip
    refine w_ifF y176_6 rfl (y_bneF b17) ?_
    refine w_A y176_9 rfl ?_
    refine w_K y176_10 ?_
    obtain ⟨σ18, r18, V18, g18, a18, f18, e10_18, e11_18⟩ := ym_bad (L := L) (xs := xs) (d := d + 1) (k := 1) ykd_le9 g15 t7_15 t6_15
    refine y_call y176_11 (y_args6 g15 rfl rfl) rfl r18 ?_
    have sp : (yThen (yEnd T n m p) fun q => (.inr (s, q) : yE (yS × Nat))) = .inl (ybd T n m p 1) := by unfold yEnd; rw [if_neg (of_decide_eq_false b17)]; rfl
    exact y_ret y176_14 rfl ⟨false, _, rfl, yOM_bad sp ⟨g18, e10_18, e11_18⟩, ⟨(yF_sub (by rfl) f18), (yA_sub (by rfl) a18)⟩⟩
  · skip
    refine w_ifT y176_6 rfl (y_bneT b17) ?_
    refine w_A y176_15 rfl ?_
    obtain ⟨σ19, r19, V19, g19, a19, f19, ty19, tk19⟩ := ym_go (L := L) (xs := xs) (d := d + 1) (by omega) hn hm (yto_le hn hp15) hT g15 gt15 v1_15 v3_15 v4_15 t5_15 ⟨⟨_, v12_15⟩, ⟨_, v8_15⟩, _, v9_15⟩
    refine y_call0 y176_16 (y_args6 g15 rfl rfl) rfl r19 ?_
    have z19_1 : V19 1 = _ := (a19 1 (by rfl)).trans v1_15
    have z19_3 : V19 3 = _ := (a19 3 (by rfl)).trans v3_15
    have z19_4 : V19 4 = _ := (a19 4 (by rfl)).trans v4_15
    have z19_15 : V19 15 = _ := (a19 15 (by rfl)).trans v15_15
    have z19_20 : V19 20 = _ := (a19 20 (by rfl)).trans v20_15
    have z19_23 : V19 23 = _ ∧ V19 10 = _ := ⟨(a19 23 (by rfl)).trans v23_15.1, (a19 10 (by rfl)).trans v23_15.2⟩
    obtain ⟨⟨xw19, yw19⟩, ⟨xn19, yn19⟩, xs19, ys19⟩ := id ty19
    have t5_19 := yTk_5 tk19
    have t6_19 := yTk_6 tk19
    have t7_19 := yTk_7 tk19
    refine w_K y176_19 ?_
    have sp : (yThen (yEnd T n m p) fun q => (.inr (s, q) : yE (yS × Nat))) = .inr (s, yto T n m p) := by unfold yEnd; rw [if_pos (of_decide_eq_true b17)]; rfl
    have g20 := (yF_n f19 (by rfl) gt15)
    have g21 := (yF_n f19 (by rfl) gr15)
    have g22 := (yF_n f19 (by rfl) gn15)
    have g23 := (yF_n f19 (by rfl) go15)
    exact y_ret y176_20 rfl ⟨true, _, rfl, yOM_good sp ⟨g19, g20, g21, g22, g23, ⟨z19_1, z19_3, z19_4, z19_15, z19_20, z19_23⟩, (yto_le hn hp15), ⟨⟨_, yw19⟩, ⟨_, yn19⟩, _, ys19⟩, tk19⟩, ⟨(yF_sub (by rfl) f19), (yA_sub (by rfl) a19)⟩⟩
set_option maxRecDepth 100000 in
theorem y181_0 : iv_f1 (iv_p 181) 0 = some (.inl (iv_oK (.int (Int32.ofNat 0)) 1)) := rfl
set_option maxRecDepth 100000 in
theorem y181_1 : iv_f1 (iv_p 181) 1 = some (.inl (iv_oIS 5 2)) := rfl
set_option maxRecDepth 100000 in
theorem y181_3 : iv_f1 (iv_p 181) 3 = some (.inl (iv_oI 5 2)) := rfl
set_option maxRecDepth 100000 in
theorem y181_5 : iv_f1 (iv_p 181) 5 = some (.inl (iv_oI 2 1)) := rfl
set_option maxRecDepth 100000 in
theorem y181_6 : iv_f1 (iv_p 181) 6 = some (.inl (iv_oIc .ge (23))) := rfl
set_option maxRecDepth 100000 in
theorem y181_9 : iv_f1 (iv_p 181) 9 = some (.inl (iv_oA 0 1)) := rfl
set_option maxRecDepth 100000 in
theorem y181_10 : iv_f1 (iv_p 181) 10 = some (.inl (iv_oI 1 1)) := rfl
set_option maxRecDepth 100000 in
theorem y181_11 : iv_f1 (iv_p 181) 11 = some (.inl (iv_oI 5 2)) := rfl
set_option maxRecDepth 100000 in
theorem y181_13 : iv_f1 (iv_p 181) 13 = some (.inl (iv_oII fun x y => x + y)) := rfl
set_option maxRecDepth 100000 in
theorem y181_14 : iv_f1 (iv_p 181) 14 = some (.inl iv_oJl) := rfl
set_option maxRecDepth 100000 in
theorem y181_15 : iv_f1 (iv_p 181) 15 = some (.inl (iv_oJ 3 1)) := rfl
set_option maxRecDepth 100000 in
theorem y181_16 : iv_f1 (iv_p 181) 16 = some (.inl iv_oCmp) := rfl
set_option maxRecDepth 100000 in
theorem y181_17 : iv_f1 (iv_p 181) 17 = some (.inl (iv_oIf .ne (6))) := rfl
set_option maxRecDepth 100000 in
theorem y181_20 : iv_f1 (iv_p 181) 20 = some (.inl (iv_oI 5 2)) := rfl
set_option maxRecDepth 100000 in
theorem y181_22 : iv_f1 (iv_p 181) 22 = some (.inr (.inl 1)) := rfl
set_option maxRecDepth 100000 in
theorem y181_23 : iv_f1 (iv_p 181) 23 = some (.inl (iv_oInc 5 (1))) := rfl
set_option maxRecDepth 100000 in
theorem y181_26 : iv_f1 (iv_p 181) 26 = some (.inl (iv_oGo (-23))) := rfl
set_option maxRecDepth 100000 in
theorem y181_29 : iv_f1 (iv_p 181) 29 = some (.inl (iv_oK (.int (Int32.ofInt (-1))) 1)) := rfl
set_option maxRecDepth 100000 in
theorem y181_30 : iv_f1 (iv_p 181) 30 = some (.inr (.inl 1)) := rfl
theorem ym_fi1 {L : Nat} {xs : Nat → Int32} {d : Nat} {σ : iv_H} {f : Nat → Int64} {w : Int64} {base many : Nat} (hb : base + many ≤ 13) (g : iv_get σ 564 = some (yaj 13 f)) : ∀ (j k : Nat) (lv : iv_L), k + j = many → iv_f1 lv 0 = some (.ref 564) → iv_f1 lv 1 = some (.int (Int32.ofNat base)) → iv_f1 lv 2 = some (.int (Int32.ofNat many)) → iv_f1 lv 3 = some (.long w) → iv_f1 lv 5 = some (.int (Int32.ofNat k)) → zGo L xs (fun r σ1 => r = some (.int (yo (yfi (fun i => f (base + i)) w j k))) ∧ σ1 = σ) [] d 181 3 lv [] σ := by
  intro j
  induction j with
  | zero =>
    intro k lv hj l0 l1 l2 l3 l5
    refine w_I y181_3 l5 ?_
    refine w_I y181_5 l2 ?_
    refine y_icT y181_6 rfl (by omega) (by omega) (by simp only [zch]; omega) ?_
    refine w_K y181_29 ?_
    exact y_ret y181_30 rfl ⟨rfl, rfl⟩
  | succ j ih =>
    intro k lv hj l0 l1 l2 l3 l5
    refine w_I y181_3 l5 ?_
    refine w_I y181_5 l2 ?_
    refine y_icF y181_6 rfl (by omega) (by omega) (by simp only [zch]; omega) ?_
    refine w_A y181_9 l0 ?_
    refine w_I y181_10 l1 ?_
    refine w_I y181_11 l5 ?_
    refine w_add y181_13 ?_
    refine y_jl y181_14 g (by omega) (by decide) ?_
    refine w_J y181_15 l3 ?_
    refine w_cmp y181_16 ?_
    by_cases e24 : (f (base + k)) = w
    · skip
      refine w_ifF y181_17 rfl (lg_eq e24) ?_
      refine w_I y181_20 l5 ?_
      exact y_ret y181_22 rfl ⟨by rw [show yfi (fun i => f (base + i)) w (j + 1) k = some k from if_pos e24]; rfl, rfl⟩
    · skip
      refine w_ifT y181_17 rfl (lg_ne e24) ?_
      refine w_inc y181_23 (x := k) l5 ?_
      refine w_go y181_26 rfl ?_
      rw [show yfi (fun i => f (base + i)) w (j + 1) k = yfi (fun i => f (base + i)) w j (k + 1) from if_neg e24]
      exact ih (k + 1) _ (by omega) (y_l1 rfl rfl l0) (y_l1 rfl rfl l1) (y_l1 rfl rfl l2) (y_l1 rfl rfl l3) y_l0
theorem ym_fi {L : Nat} {xs : Nat → Int32} {d : Nat} {σ : iv_H} {f : Nat → Int64} {w : Int64} {base many : Nat} (hb : base + many ≤ 13) (g : iv_get σ 564 = some (yaj 13 f)) : iv_Rn L xs d 181 0 (lv_args 0 [.ref 564, .int (Int32.ofNat base), .int (Int32.ofNat many), .long w]) [] σ (some (.int (yo (yfi (fun i => f (base + i)) w many 0)))) σ := by
  refine y_Rp ?_
  refine w_K y181_0 ?_
  refine w_IS y181_1 ?_
  exact ym_fi1 hb g many 0 _ (by omega) rfl rfl rfl rfl rfl
set_option maxRecDepth 100000 in
theorem y182_0 : iv_f1 (iv_p 182) 0 = some (.inl (iv_oA 0 1)) := rfl
set_option maxRecDepth 100000 in
theorem y182_1 : iv_f1 (iv_p 182) 1 = some (.inr (.inr (6, 173, 0, 12))) := rfl
set_option maxRecDepth 100000 in
theorem y182_4 : iv_f1 (iv_p 182) 4 = some (.inl (iv_oIf .ne (9))) := rfl
set_option maxRecDepth 100000 in
theorem y182_7 : iv_f1 (iv_p 182) 7 = some (.inl (iv_oA 0 1)) := rfl
set_option maxRecDepth 100000 in
theorem y182_8 : iv_f1 (iv_p 182) 8 = some (.inl (iv_oK (.int (Int32.ofNat 1)) 1)) := rfl
set_option maxRecDepth 100000 in
theorem y182_9 : iv_f1 (iv_p 182) 9 = some (.inr (.inr (6, 174, 1, 12))) := rfl
set_option maxRecDepth 100000 in
theorem y182_12 : iv_f1 (iv_p 182) 12 = some (.inr (.inl 2)) := rfl
set_option maxRecDepth 100000 in
theorem y182_13 : iv_f1 (iv_p 182) 13 = some (.inl (iv_oA 0 1)) := rfl
set_option maxRecDepth 100000 in
theorem y182_14 : iv_f1 (iv_p 182) 14 = some (.inl (iv_oGF 12 20)) := rfl
set_option maxRecDepth 100000 in
theorem y182_17 : iv_f1 (iv_p 182) 17 = some (.inl (iv_oK (.int (Int32.ofNat 0)) 1)) := rfl
set_option maxRecDepth 100000 in
theorem y182_18 : iv_f1 (iv_p 182) 18 = some (.inl (iv_oA 0 1)) := rfl
set_option maxRecDepth 100000 in
theorem y182_19 : iv_f1 (iv_p 182) 19 = some (.inl (iv_oGF 12 15)) := rfl
set_option maxRecDepth 100000 in
theorem y182_22 : iv_f1 (iv_p 182) 22 = some (.inl (iv_oK (.int (Int32.ofNat 0)) 1)) := rfl
set_option maxRecDepth 100000 in
theorem y182_23 : iv_f1 (iv_p 182) 23 = some (.inl iv_oIl) := rfl
set_option maxRecDepth 100000 in
theorem y182_24 : iv_f1 (iv_p 182) 24 = some (.inl (iv_oA 0 1)) := rfl
set_option maxRecDepth 100000 in
theorem y182_25 : iv_f1 (iv_p 182) 25 = some (.inl (iv_oGF 12 12)) := rfl
set_option maxRecDepth 100000 in
theorem y182_28 : iv_f1 (iv_p 182) 28 = some (.inr (.inr (4, 181, 4, 0))) := rfl
set_option maxRecDepth 100000 in
theorem y182_31 : iv_f1 (iv_p 182) 31 = some (.inl (iv_oK (.int (Int32.ofInt (-1))) 1)) := rfl
set_option maxRecDepth 100000 in
theorem y182_32 : iv_f1 (iv_p 182) 32 = some (.inl (iv_oIc .ne (26))) := rfl
set_option maxRecDepth 100000 in
theorem y182_35 : iv_f1 (iv_p 182) 35 = some (.inl (iv_oA 0 1)) := rfl
set_option maxRecDepth 100000 in
theorem y182_36 : iv_f1 (iv_p 182) 36 = some (.inl (iv_oGF 12 20)) := rfl
set_option maxRecDepth 100000 in
theorem y182_39 : iv_f1 (iv_p 182) 39 = some (.inl (iv_oK (.int (Int32.ofNat 7)) 2)) := rfl
set_option maxRecDepth 100000 in
theorem y182_41 : iv_f1 (iv_p 182) 41 = some (.inl (iv_oA 0 1)) := rfl
set_option maxRecDepth 100000 in
theorem y182_42 : iv_f1 (iv_p 182) 42 = some (.inl (iv_oGF 12 15)) := rfl
set_option maxRecDepth 100000 in
theorem y182_45 : iv_f1 (iv_p 182) 45 = some (.inl (iv_oK (.int (Int32.ofNat 1)) 1)) := rfl
set_option maxRecDepth 100000 in
theorem y182_46 : iv_f1 (iv_p 182) 46 = some (.inl iv_oIl) := rfl
set_option maxRecDepth 100000 in
theorem y182_47 : iv_f1 (iv_p 182) 47 = some (.inl (iv_oA 0 1)) := rfl
set_option maxRecDepth 100000 in
theorem y182_48 : iv_f1 (iv_p 182) 48 = some (.inl (iv_oGF 12 12)) := rfl
set_option maxRecDepth 100000 in
theorem y182_51 : iv_f1 (iv_p 182) 51 = some (.inr (.inr (4, 181, 4, 0))) := rfl
set_option maxRecDepth 100000 in
theorem y182_54 : iv_f1 (iv_p 182) 54 = some (.inl (iv_oK (.int (Int32.ofInt (-1))) 1)) := rfl
set_option maxRecDepth 100000 in
theorem y182_55 : iv_f1 (iv_p 182) 55 = some (.inl (iv_oIc .eq (9))) := rfl
set_option maxRecDepth 100000 in
theorem y182_58 : iv_f1 (iv_p 182) 58 = some (.inl (iv_oA 0 1)) := rfl
set_option maxRecDepth 100000 in
theorem y182_59 : iv_f1 (iv_p 182) 59 = some (.inl (iv_oK (.int (Int32.ofNat 3)) 1)) := rfl
set_option maxRecDepth 100000 in
theorem y182_60 : iv_f1 (iv_p 182) 60 = some (.inr (.inr (6, 174, 1, 12))) := rfl
set_option maxRecDepth 100000 in
theorem y182_63 : iv_f1 (iv_p 182) 63 = some (.inr (.inl 2)) := rfl
set_option maxRecDepth 100000 in
theorem y182_64 : iv_f1 (iv_p 182) 64 = some (.inl (iv_oA 0 1)) := rfl
set_option maxRecDepth 100000 in
theorem y182_65 : iv_f1 (iv_p 182) 65 = some (.inl (iv_oGF 12 20)) := rfl
set_option maxRecDepth 100000 in
theorem y182_68 : iv_f1 (iv_p 182) 68 = some (.inl (iv_oI 1 1)) := rfl
set_option maxRecDepth 100000 in
theorem y182_69 : iv_f1 (iv_p 182) 69 = some (.inl (iv_oA 0 1)) := rfl
set_option maxRecDepth 100000 in
theorem y182_70 : iv_f1 (iv_p 182) 70 = some (.inl (iv_oGF 12 12)) := rfl
set_option maxRecDepth 100000 in
theorem y182_73 : iv_f1 (iv_p 182) 73 = some (.inl iv_oJst) := rfl
set_option maxRecDepth 100000 in
theorem y182_74 : iv_f1 (iv_p 182) 74 = some (.inl (iv_oA 0 1)) := rfl
set_option maxRecDepth 100000 in
theorem y182_75 : iv_f1 (iv_p 182) 75 = some (.inr (.inr (6, 168, 0, 12))) := rfl
set_option maxRecDepth 100000 in
theorem y182_78 : iv_f1 (iv_p 182) 78 = some (.inl (iv_oK (.int (Int32.ofNat 1)) 1)) := rfl
set_option maxRecDepth 100000 in
theorem y182_79 : iv_f1 (iv_p 182) 79 = some (.inr (.inl 2)) := rfl
theorem y_oeN {o : Option Nat} (h : o = none) : iv_c2 .eq (yo o) (Int32.ofInt (-1)) = true := by rw [h]; rfl
theorem y_onN {o : Option Nat} (h : o = none) : iv_c2 .ne (yo o) (Int32.ofInt (-1)) = false := by rw [h]; rfl
theorem y_oeS {o : Option Nat} {k : Nat} (h : o = some k) (hk : k ≤ 1000) : iv_c2 .eq (yo o) (Int32.ofInt (-1)) = false := by
  rw [h]
  exact decide_eq_false (y_oN hk)
theorem y_onS {o : Option Nat} {k : Nat} (h : o = some k) (hk : k ≤ 1000) : iv_c2 .ne (yo o) (Int32.ofInt (-1)) = true := by
  rw [h]
  exact decide_eq_true (y_oN hk)
theorem ym_new {L : Nat} {xs : Nat → Int32} {d : Nat} {T : Nat → Nat} {n m p : Nat} {s : yS} {V : Nat → Value} {σ : iv_H} {slot : Nat} (hd : 3 ≤ d) (hs : slot < 13) (hn : n ≤ 940) (hm : m ≤ 940) (hT : ∀ i, T i ≤ 255) (hM : yMR T n m p s V σ) {nb ng : Nat} (hb : s.1 0 = Int32.ofNat nb) (hg : s.1 1 = Int32.ofNat ng) (hb7 : nb ≤ 7) (hg6 : ng ≤ 6) : ∃ r σ1 V1, iv_Rn L xs d 182 0 (lv_args 0 [.ref 548, .int (Int32.ofNat slot)]) [] σ (some (.int (yb r))) σ1 ∧ yOM T n m (yNew T n m nb ng slot s p) r V1 σ1 ∧ yBx σ σ1 V V1 := by
  obtain ⟨d, rfl⟩ : ∃ e, d = e + 3 := ⟨d - 3, by omega⟩
  refine y_Rb ?_
  obtain ⟨g25, gt25, gr25, gn25, go25, ⟨v1_25, v3_25, v4_25, v15_25, v20_25, v23_25⟩, hp25, ty25, tk25⟩ := hM
  have t5_25 := yTk_5 tk25
  have t6_25 := yTk_6 tk25
  have t7_25 := yTk_7 tk25
  obtain ⟨⟨x12_25, v12_25⟩, ⟨x8_25, v8_25⟩, x9_25, v9_25⟩ := id ty25
  refine w_A y182_0 rfl ?_
  have n26 := ym_nm (L := L) (xs := xs) (d := d + 2) (by omega) ykd_le9 g25 t7_25 v12_25
  rw [y_nmE (yTk_w tk25) v12_25] at n26
  refine y_call y182_1 (y_args6 g25 rfl rfl) rfl n26 ?_
  rcases y_bc (yisN T n m p) with b27 | b27
  · skip
    refine w_ifF y182_4 rfl (y_bneF b27) ?_
    refine w_A y182_7 rfl ?_
    refine w_K y182_8 ?_
    obtain ⟨σ28, r28, V28, g28, a28, f28, e10_28, e11_28⟩ := ym_bad (L := L) (xs := xs) (d := d + 2) (k := 1) ykd_le9 g25 t7_25 t6_25
    refine y_call y182_9 (y_args6 g25 rfl rfl) rfl r28 ?_
    have sp : yNew T n m nb ng slot s p = .inl (ybd T n m p 1) := by unfold yNew; rw [if_neg (by rw [b27]; decide)]
    exact y_ret y182_12 rfl ⟨false, _, rfl, yOM_bad sp ⟨g28, e10_28, e11_28⟩, ⟨(yF_sub (by rfl) f28), (yA_sub (by rfl) a28)⟩⟩
  · skip
    refine w_ifT y182_4 rfl (y_bneT b27) ?_
    have eqw := y_wE (yTk_w tk25) v12_25 b27
    subst eqw
    refine w_A y182_13 rfl ?_
    refine y_gf y182_14 g25 rfl v20_25 ?_
    refine w_K y182_17 ?_
    refine w_A y182_18 rfl ?_
    refine y_gf y182_19 g25 rfl v15_25 ?_
    refine w_K y182_22 ?_
    refine y_ilE y182_23 gr25 rfl rfl (by omega) (by decide) hb ?_
    refine w_A y182_24 rfl ?_
    refine y_gf y182_25 g25 rfl v12_25 ?_
    refine y_call y182_28 (y_args4 rfl rfl) rfl (ym_fi (base := 0) (by omega) gn25) ?_
    refine w_K y182_31 ?_
    cases o29 : yfs T n s.2.1 0 nb p with
    | none =>
      refine w_icF y182_32 rfl (y_onN o29) ?_
      refine w_A y182_35 rfl ?_
      refine y_gf y182_36 g25 rfl v20_25 ?_
      refine w_K y182_39 ?_
      refine w_A y182_41 rfl ?_
      refine y_gf y182_42 g25 rfl v15_25 ?_
      refine w_K y182_45 ?_
      refine y_ilE y182_46 gr25 rfl rfl (by omega) (by decide) hg ?_
      refine w_A y182_47 rfl ?_
      refine y_gf y182_48 g25 rfl v12_25 ?_
      refine y_call y182_51 (y_args4 rfl rfl) rfl (ym_fi (base := 7) (by omega) gn25) ?_
      refine w_K y182_54 ?_
      cases o30 : yfs T n s.2.1 7 ng p with
      | none =>
        refine w_icT y182_55 rfl (y_oeN o30) ?_
        refine w_A y182_64 rfl ?_
        refine y_gf y182_65 g25 rfl v20_25 ?_
        refine w_I y182_68 rfl ?_
        refine w_A y182_69 rfl ?_
        refine y_gf y182_70 g25 rfl v12_25 ?_
        refine y_jst y182_73 gn25 (by omega) (by decide) ?_
        intro σ32 h31
        refine w_A y182_74 rfl ?_
        have g34 := (mD_n h31 (by decide) g25)
        have g35 := (mD_n h31 (by decide) gt25)
        obtain ⟨σ33, r33, V33, g33, a33, f33, ty33, tk33⟩ := ym_go (L := L) (xs := xs) (d := d + 2) (by omega) hn hm (yto_le hn hp25) hT g34 g35 v1_25 v3_25 v4_25 t5_25 ⟨⟨_, v12_25⟩, ⟨_, v8_25⟩, _, v9_25⟩
        refine y_call0 y182_75 (y_args6 g34 rfl rfl) rfl r33 ?_
        have z33_1 : V33 1 = _ := (a33 1 (by rfl)).trans v1_25
        have z33_3 : V33 3 = _ := (a33 3 (by rfl)).trans v3_25
        have z33_4 : V33 4 = _ := (a33 4 (by rfl)).trans v4_25
        have z33_15 : V33 15 = _ := (a33 15 (by rfl)).trans v15_25
        have z33_20 : V33 20 = _ := (a33 20 (by rfl)).trans v20_25
        have z33_23 : V33 23 = _ ∧ V33 10 = _ := ⟨(a33 23 (by rfl)).trans v23_25.1, (a33 10 (by rfl)).trans v23_25.2⟩
        obtain ⟨⟨xw33, yw33⟩, ⟨xn33, yn33⟩, xs33, ys33⟩ := id ty33
        have t5_33 := yTk_5 tk33
        have t6_33 := yTk_6 tk33
        have t7_33 := yTk_7 tk33
        refine w_K y182_78 ?_
        have sp : yNew T n m nb ng slot s p = .inr ((s.1, vp_updL s.2.1 slot (yrv T n p), s.2.2), yto T n m p) := by unfold yNew; rw [if_pos b27, if_pos ⟨o29, o30⟩]
        have g36 := (yF_n f33 (by rfl) g35)
        have g37 := (yF_n f33 (by rfl) (mD_n h31 (by decide) gr25))
        have g38 := (yF_n f33 (by rfl) h31.2.1)
        have g39 := (yF_n f33 (by rfl) (mD_n h31 (by decide) go25))
        exact y_ret y182_79 rfl ⟨true, _, rfl, yOM_good sp ⟨g33, g36, g37, g38, g39, ⟨z33_1, z33_3, z33_4, z33_15, z33_20, z33_23⟩, (yto_le hn hp25), ⟨⟨_, yw33⟩, ⟨_, yn33⟩, _, ys33⟩, tk33⟩, ⟨(yF_tr (yF_D h31 (by rfl)) (yF_sub (by rfl) f33)), (yA_sub (by rfl) a33)⟩⟩
      | some io30 =>
        refine w_icF y182_55 rfl (y_oeS o30 (by have := yfi_lt o30; omega)) ?_
        refine w_A y182_58 rfl ?_
        refine w_K y182_59 ?_
        obtain ⟨σ40, r40, V40, g40, a40, f40, e10_40, e11_40⟩ := ym_bad (L := L) (xs := xs) (d := d + 2) (k := 3) ykd_le9 g25 t7_25 t6_25
        refine y_call y182_60 (y_args6 g25 rfl rfl) rfl r40 ?_
        have sp : yNew T n m nb ng slot s p = .inl (ybd T n m p 3) := by unfold yNew; rw [if_pos b27, if_neg (fun h => by rw [o30] at h; cases h.2)]
        exact y_ret y182_63 rfl ⟨false, _, rfl, yOM_bad sp ⟨g40, e10_40, e11_40⟩, ⟨(yF_sub (by rfl) f40), (yA_sub (by rfl) a40)⟩⟩
    | some io29 =>
      refine w_icT y182_32 rfl (y_onS o29 (by have := yfi_lt o29; omega)) ?_
      refine w_A y182_58 rfl ?_
      refine w_K y182_59 ?_
      obtain ⟨σ41, r41, V41, g41, a41, f41, e10_41, e11_41⟩ := ym_bad (L := L) (xs := xs) (d := d + 2) (k := 3) ykd_le9 g25 t7_25 t6_25
      refine y_call y182_60 (y_args6 g25 rfl rfl) rfl r41 ?_
      have sp : yNew T n m nb ng slot s p = .inl (ybd T n m p 3) := by unfold yNew; rw [if_pos b27, if_neg (fun h => by rw [o29] at h; cases h.1)]
      exact y_ret y182_63 rfl ⟨false, _, rfl, yOM_bad sp ⟨g41, e10_41, e11_41⟩, ⟨(yF_sub (by rfl) f41), (yA_sub (by rfl) a41)⟩⟩
