/-! ===== printed by wip/gen/y/c4.py: the reference reads an order, its lines ===== -/
set_option maxRecDepth 100000 in
theorem y183_0 : iv_f1 (iv_p 183) 0 = some (.inl (iv_oA 0 1)) := rfl
set_option maxRecDepth 100000 in
theorem y183_1 : iv_f1 (iv_p 183) 1 = some (.inr (.inr (6, 173, 0, 12))) := rfl
set_option maxRecDepth 100000 in
theorem y183_4 : iv_f1 (iv_p 183) 4 = some (.inl (iv_oIf .ne (9))) := rfl
set_option maxRecDepth 100000 in
theorem y183_7 : iv_f1 (iv_p 183) 7 = some (.inl (iv_oA 0 1)) := rfl
set_option maxRecDepth 100000 in
theorem y183_8 : iv_f1 (iv_p 183) 8 = some (.inl (iv_oK (.int (Int32.ofNat 1)) 1)) := rfl
set_option maxRecDepth 100000 in
theorem y183_9 : iv_f1 (iv_p 183) 9 = some (.inr (.inr (6, 174, 1, 12))) := rfl
set_option maxRecDepth 100000 in
theorem y183_12 : iv_f1 (iv_p 183) 12 = some (.inr (.inl 2)) := rfl
set_option maxRecDepth 100000 in
theorem y183_13 : iv_f1 (iv_p 183) 13 = some (.inl (iv_oA 0 1)) := rfl
set_option maxRecDepth 100000 in
theorem y183_14 : iv_f1 (iv_p 183) 14 = some (.inl (iv_oA 0 1)) := rfl
set_option maxRecDepth 100000 in
theorem y183_15 : iv_f1 (iv_p 183) 15 = some (.inl (iv_oGF 12 20)) := rfl
set_option maxRecDepth 100000 in
theorem y183_18 : iv_f1 (iv_p 183) 18 = some (.inl (iv_oI 1 1)) := rfl
set_option maxRecDepth 100000 in
theorem y183_19 : iv_f1 (iv_p 183) 19 = some (.inl (iv_oI 2 1)) := rfl
set_option maxRecDepth 100000 in
theorem y183_20 : iv_f1 (iv_p 183) 20 = some (.inl (iv_oA 0 1)) := rfl
set_option maxRecDepth 100000 in
theorem y183_21 : iv_f1 (iv_p 183) 21 = some (.inl (iv_oGF 12 12)) := rfl
set_option maxRecDepth 100000 in
theorem y183_24 : iv_f1 (iv_p 183) 24 = some (.inr (.inr (4, 181, 4, 0))) := rfl
set_option maxRecDepth 100000 in
theorem y183_27 : iv_f1 (iv_p 183) 27 = some (.inl (iv_oPF 12 13 .int)) := rfl
set_option maxRecDepth 100000 in
theorem y183_30 : iv_f1 (iv_p 183) 30 = some (.inl (iv_oA 0 1)) := rfl
set_option maxRecDepth 100000 in
theorem y183_31 : iv_f1 (iv_p 183) 31 = some (.inl (iv_oGF 12 13)) := rfl
set_option maxRecDepth 100000 in
theorem y183_34 : iv_f1 (iv_p 183) 34 = some (.inl (iv_oK (.int (Int32.ofInt (-1))) 1)) := rfl
set_option maxRecDepth 100000 in
theorem y183_35 : iv_f1 (iv_p 183) 35 = some (.inl (iv_oIc .ne (11))) := rfl
set_option maxRecDepth 100000 in
theorem y183_38 : iv_f1 (iv_p 183) 38 = some (.inl (iv_oA 0 1)) := rfl
set_option maxRecDepth 100000 in
theorem y183_39 : iv_f1 (iv_p 183) 39 = some (.inl (iv_oK (.int (Int32.ofNat 3)) 1)) := rfl
set_option maxRecDepth 100000 in
theorem y183_40 : iv_f1 (iv_p 183) 40 = some (.inr (.inr (6, 174, 1, 12))) := rfl
set_option maxRecDepth 100000 in
theorem y183_43 : iv_f1 (iv_p 183) 43 = some (.inl (iv_oIf .eq (7))) := rfl
set_option maxRecDepth 100000 in
theorem y183_46 : iv_f1 (iv_p 183) 46 = some (.inl (iv_oK (.int (Int32.ofNat 1)) 1)) := rfl
set_option maxRecDepth 100000 in
theorem y183_47 : iv_f1 (iv_p 183) 47 = some (.inl (iv_oGo (4))) := rfl
set_option maxRecDepth 100000 in
theorem y183_50 : iv_f1 (iv_p 183) 50 = some (.inl (iv_oK (.int (Int32.ofNat 0)) 1)) := rfl
set_option maxRecDepth 100000 in
theorem y183_51 : iv_f1 (iv_p 183) 51 = some (.inr (.inl 2)) := rfl
theorem ym_one {L : Nat} {xs : Nat → Int32} {d : Nat} {T : Nat → Nat} {n m p : Nat} {s : yS} {V : Nat → Value} {σ : iv_H} {base many : Nat} (hd : 3 ≤ d) (hbm : base + many ≤ 13) (hn : n ≤ 940) (hm : m ≤ 940) (hT : ∀ i, T i ≤ 255) (hM : yMR T n m p s V σ) : ∃ r σ1 V1, iv_Rn L xs d 183 0 (lv_args 0 [.ref 548, .int (Int32.ofNat base), .int (Int32.ofNat many)]) [] σ (some (.int (yb r))) σ1 ∧ yO1 T n m p s (yOne T n m base many s p) r V1 σ1 ∧ yBx σ σ1 V V1 := by
  obtain ⟨d, rfl⟩ : ∃ e, d = e + 3 := ⟨d - 3, by omega⟩
  refine y_Rb ?_
  obtain ⟨g42, gt42, gr42, gn42, go42, ⟨v1_42, v3_42, v4_42, v15_42, v20_42, v23_42⟩, hp42, ty42, tk42⟩ := hM
  have t5_42 := yTk_5 tk42
  have t6_42 := yTk_6 tk42
  have t7_42 := yTk_7 tk42
  obtain ⟨⟨x12_42, v12_42⟩, ⟨x8_42, v8_42⟩, x9_42, v9_42⟩ := id ty42
  refine w_A y183_0 rfl ?_
  have n43 := ym_nm (L := L) (xs := xs) (d := d + 2) (by omega) ykd_le9 g42 t7_42 v12_42
  rw [y_nmE (yTk_w tk42) v12_42] at n43
  refine y_call y183_1 (y_args6 g42 rfl rfl) rfl n43 ?_
  rcases y_bc (yisN T n m p) with b44 | b44
  · skip
    refine w_ifF y183_4 rfl (y_bneF b44) ?_
    refine w_A y183_7 rfl ?_
    refine w_K y183_8 ?_
    obtain ⟨σ45, r45, V45, g45, a45, f45, e10_45, e11_45⟩ := ym_bad (L := L) (xs := xs) (d := d + 2) (k := 1) ykd_le9 g42 t7_42 t6_42
    refine y_call y183_9 (y_args6 g42 rfl rfl) rfl r45 ?_
    have sp : yOne T n m base many s p = .inl (ybd T n m p 1) := by unfold yOne; rw [if_neg (by rw [b44]; decide)]
    exact y_ret y183_12 rfl ⟨false, _, rfl, yO1_bad sp ⟨g45, e10_45, e11_45⟩, ⟨(yF_sub (by rfl) f45), (yA_sub (by rfl) a45)⟩⟩
  · skip
    refine w_ifT y183_4 rfl (y_bneT b44) ?_
    have eqw := y_wE (yTk_w tk42) v12_42 b44
    subst eqw
    refine w_A y183_13 rfl ?_
    refine w_A y183_14 rfl ?_
    refine y_gf y183_15 g42 rfl v20_42 ?_
    refine w_I y183_18 rfl ?_
    refine w_I y183_19 rfl ?_
    refine w_A y183_20 rfl ?_
    refine y_gf y183_21 g42 rfl v12_42 ?_
    refine y_call y183_24 (y_args4 rfl rfl) rfl (ym_fi (base := base) (by omega) gn42) ?_
    refine y_pf y183_27 g42 rfl rfl ?_
    intro σ47 h46
    refine w_A y183_30 rfl ?_
    refine y_gf y183_31 h46.2.1 rfl rfl ?_
    refine w_K y183_34 ?_
    cases o48 : yfs T n s.2.1 base many p with
    | none =>
      refine w_icF y183_35 rfl (y_onN o48) ?_
      refine w_A y183_38 rfl ?_
      refine w_K y183_39 ?_
      obtain ⟨σ49, r49, V49, g49, a49, f49, e10_49, e11_49⟩ := ym_bad (L := L) (xs := xs) (d := d + 2) (k := 3) ykd_le9 h46.2.1 t7_42 t6_42
      refine y_call y183_40 (y_args6 h46.2.1 rfl rfl) rfl r49 ?_
      refine w_ifT y183_43 rfl rfl ?_
      refine w_K y183_50 ?_
      have sp : yOne T n m base many s p = .inl (ybd T n m p 3) := by unfold yOne; rw [if_pos b44, o48]
      exact y_ret y183_51 rfl ⟨false, _, rfl, yO1_bad sp ⟨g49, e10_49, e11_49⟩, ⟨(yF_tr (yF_D h46 (by rfl)) (yF_sub (by rfl) f49)), (yA_tr (yA_u (j := 13) (by rfl)) (yA_sub (by rfl) a49))⟩⟩
    | some io48 =>
      refine w_icT y183_35 rfl (y_onS o48 (by have := yfi_lt o48; omega)) ?_
      refine w_K y183_46 ?_
      refine w_go y183_47 rfl ?_
      have sp : yOne T n m base many s p = .inr io48 := by unfold yOne; rw [if_pos b44, o48]
      have g50 := (mD_n h46 (by decide) gt42)
      have g51 := (mD_n h46 (by decide) gr42)
      have g52 := (mD_n h46 (by decide) gn42)
      have g53 := (mD_n h46 (by decide) go42)
      exact y_ret y183_51 rfl ⟨true, _, rfl, yO1_good sp ⟨h46.2.1, g50, g51, g52, g53, ⟨v1_42, v3_42, v4_42, v15_42, v20_42, v23_42⟩, hp42, ⟨⟨_, v12_42⟩, ⟨_, v8_42⟩, _, v9_42⟩, tk42⟩ (congrArg (fun o => Value.int (yo o)) o48), ⟨(yF_D h46 (by rfl)), (yA_u (j := 13) (by rfl))⟩⟩
set_option maxRecDepth 100000 in
theorem y184_0 : iv_f1 (iv_p 184) 0 = some (.inl (iv_oA 0 1)) := rfl
set_option maxRecDepth 100000 in
theorem y184_1 : iv_f1 (iv_p 184) 1 = some (.inl (iv_oGF 12 15)) := rfl
set_option maxRecDepth 100000 in
theorem y184_4 : iv_f1 (iv_p 184) 4 = some (.inl (iv_oI 1 1)) := rfl
set_option maxRecDepth 100000 in
theorem y184_5 : iv_f1 (iv_p 184) 5 = some (.inl iv_oIl) := rfl
set_option maxRecDepth 100000 in
theorem y184_6 : iv_f1 (iv_p 184) 6 = some (.inl (iv_oI 2 1)) := rfl
set_option maxRecDepth 100000 in
theorem y184_7 : iv_f1 (iv_p 184) 7 = some (.inl (iv_oIc .ne (9))) := rfl
set_option maxRecDepth 100000 in
theorem y184_10 : iv_f1 (iv_p 184) 10 = some (.inl (iv_oA 0 1)) := rfl
set_option maxRecDepth 100000 in
theorem y184_11 : iv_f1 (iv_p 184) 11 = some (.inl (iv_oK (.int (Int32.ofNat 4)) 1)) := rfl
set_option maxRecDepth 100000 in
theorem y184_12 : iv_f1 (iv_p 184) 12 = some (.inr (.inr (6, 174, 1, 12))) := rfl
set_option maxRecDepth 100000 in
theorem y184_15 : iv_f1 (iv_p 184) 15 = some (.inr (.inl 2)) := rfl
set_option maxRecDepth 100000 in
theorem y184_16 : iv_f1 (iv_p 184) 16 = some (.inl (iv_oA 0 1)) := rfl
set_option maxRecDepth 100000 in
theorem y184_17 : iv_f1 (iv_p 184) 17 = some (.inr (.inr (6, 168, 0, 12))) := rfl
set_option maxRecDepth 100000 in
theorem y184_20 : iv_f1 (iv_p 184) 20 = some (.inl (iv_oK (.int (Int32.ofNat 1)) 1)) := rfl
set_option maxRecDepth 100000 in
theorem y184_21 : iv_f1 (iv_p 184) 21 = some (.inr (.inl 2)) := rfl
theorem ym_fst0 {L : Nat} {xs : Nat → Int32} {d : Nat} {T : Nat → Nat} {n m p : Nat} {s : yS} {V : Nat → Value} {σ : iv_H} (hd : 2 ≤ d) (hn : n ≤ 940) (hm : m ≤ 940) (hT : ∀ i, T i ≤ 255) (hM : yMR T n m p s V σ) {nb ng : Nat} (hb : s.1 0 = Int32.ofNat nb) (hg : s.1 1 = Int32.ofNat ng) (hb7 : nb ≤ 7) (hg6 : ng ≤ 6) : ∃ r σ1 V1, iv_Rn L xs d 184 0 (lv_args 0 [.ref 548, .int (Int32.ofNat 0), .int (Int32.ofNat 7)]) [] σ (some (.int (yb r))) σ1 ∧ yOM T n m (yFst T n m nb 7 s p) r V1 σ1 ∧ yBx σ σ1 V V1 := by
  obtain ⟨d, rfl⟩ : ∃ e, d = e + 2 := ⟨d - 2, by omega⟩
  refine y_Rb ?_
  obtain ⟨g54, gt54, gr54, gn54, go54, ⟨v1_54, v3_54, v4_54, v15_54, v20_54, v23_54⟩, hp54, ty54, tk54⟩ := hM
  have t5_54 := yTk_5 tk54
  have t6_54 := yTk_6 tk54
  have t7_54 := yTk_7 tk54
  obtain ⟨⟨x12_54, v12_54⟩, ⟨x8_54, v8_54⟩, x9_54, v9_54⟩ := id ty54
  refine w_A y184_0 rfl ?_
  refine y_gf y184_1 g54 rfl v15_54 ?_
  refine w_I y184_4 rfl ?_
  refine y_ilE y184_5 gr54 rfl rfl (by omega) (by decide) hb ?_
  refine w_I y184_6 rfl ?_
  by_cases c55 : nb ≠ 7
  · skip
    refine y_icT y184_7 rfl (by omega) (by omega) (by simp only [zch]; omega) ?_
    refine w_A y184_16 rfl ?_
    obtain ⟨σ56, r56, V56, g56, a56, f56, ty56, tk56⟩ := ym_go (L := L) (xs := xs) (d := d + 1) (by omega) hn hm (yto_le hn hp54) hT g54 gt54 v1_54 v3_54 v4_54 t5_54 ⟨⟨_, v12_54⟩, ⟨_, v8_54⟩, _, v9_54⟩
    refine y_call0 y184_17 (y_args6 g54 rfl rfl) rfl r56 ?_
    have z56_1 : V56 1 = _ := (a56 1 (by rfl)).trans v1_54
    have z56_3 : V56 3 = _ := (a56 3 (by rfl)).trans v3_54
    have z56_4 : V56 4 = _ := (a56 4 (by rfl)).trans v4_54
    have z56_15 : V56 15 = _ := (a56 15 (by rfl)).trans v15_54
    have z56_20 : V56 20 = _ := (a56 20 (by rfl)).trans v20_54
    have z56_23 : V56 23 = _ ∧ V56 10 = _ := ⟨(a56 23 (by rfl)).trans v23_54.1, (a56 10 (by rfl)).trans v23_54.2⟩
    obtain ⟨⟨xw56, yw56⟩, ⟨xn56, yn56⟩, xs56, ys56⟩ := id ty56
    have t5_56 := yTk_5 tk56
    have t6_56 := yTk_6 tk56
    have t7_56 := yTk_7 tk56
    refine w_K y184_20 ?_
    have sp : yFst T n m nb 7 s p = .inr (s, yto T n m p) := by unfold yFst; rw [if_neg (by omega)]
    have g57 := (yF_n f56 (by rfl) gt54)
    have g58 := (yF_n f56 (by rfl) gr54)
    have g59 := (yF_n f56 (by rfl) gn54)
    have g60 := (yF_n f56 (by rfl) go54)
    exact y_ret y184_21 rfl ⟨true, _, rfl, yOM_good sp ⟨g56, g57, g58, g59, g60, ⟨z56_1, z56_3, z56_4, z56_15, z56_20, z56_23⟩, (yto_le hn hp54), ⟨⟨_, yw56⟩, ⟨_, yn56⟩, _, ys56⟩, tk56⟩, ⟨(yF_sub (by rfl) f56), (yA_sub (by rfl) a56)⟩⟩
  · skip
    refine y_icF y184_7 rfl (by omega) (by omega) (by simp only [zch]; omega) ?_
    refine w_A y184_10 rfl ?_
    refine w_K y184_11 ?_
    obtain ⟨σ61, r61, V61, g61, a61, f61, e10_61, e11_61⟩ := ym_bad (L := L) (xs := xs) (d := d + 1) (k := 4) ykd_le9 g54 t7_54 t6_54
    refine y_call y184_12 (y_args6 g54 rfl rfl) rfl r61 ?_
    have sp : yFst T n m nb 7 s p = .inl (ybd T n m p 4) := by unfold yFst; rw [if_pos (by omega)]
    exact y_ret y184_15 rfl ⟨false, _, rfl, yOM_bad sp ⟨g61, e10_61, e11_61⟩, ⟨(yF_sub (by rfl) f61), (yA_sub (by rfl) a61)⟩⟩
theorem ym_fst1 {L : Nat} {xs : Nat → Int32} {d : Nat} {T : Nat → Nat} {n m p : Nat} {s : yS} {V : Nat → Value} {σ : iv_H} (hd : 2 ≤ d) (hn : n ≤ 940) (hm : m ≤ 940) (hT : ∀ i, T i ≤ 255) (hM : yMR T n m p s V σ) {nb ng : Nat} (hb : s.1 0 = Int32.ofNat nb) (hg : s.1 1 = Int32.ofNat ng) (hb7 : nb ≤ 7) (hg6 : ng ≤ 6) : ∃ r σ1 V1, iv_Rn L xs d 184 0 (lv_args 0 [.ref 548, .int (Int32.ofNat 1), .int (Int32.ofNat 6)]) [] σ (some (.int (yb r))) σ1 ∧ yOM T n m (yFst T n m ng 6 s p) r V1 σ1 ∧ yBx σ σ1 V V1 := by
  obtain ⟨d, rfl⟩ : ∃ e, d = e + 2 := ⟨d - 2, by omega⟩
  refine y_Rb ?_
  obtain ⟨g62, gt62, gr62, gn62, go62, ⟨v1_62, v3_62, v4_62, v15_62, v20_62, v23_62⟩, hp62, ty62, tk62⟩ := hM
  have t5_62 := yTk_5 tk62
  have t6_62 := yTk_6 tk62
  have t7_62 := yTk_7 tk62
  obtain ⟨⟨x12_62, v12_62⟩, ⟨x8_62, v8_62⟩, x9_62, v9_62⟩ := id ty62
  refine w_A y184_0 rfl ?_
  refine y_gf y184_1 g62 rfl v15_62 ?_
  refine w_I y184_4 rfl ?_
  refine y_ilE y184_5 gr62 rfl rfl (by omega) (by decide) hg ?_
  refine w_I y184_6 rfl ?_
  by_cases c63 : ng ≠ 6
  · skip
    refine y_icT y184_7 rfl (by omega) (by omega) (by simp only [zch]; omega) ?_
    refine w_A y184_16 rfl ?_
    obtain ⟨σ64, r64, V64, g64, a64, f64, ty64, tk64⟩ := ym_go (L := L) (xs := xs) (d := d + 1) (by omega) hn hm (yto_le hn hp62) hT g62 gt62 v1_62 v3_62 v4_62 t5_62 ⟨⟨_, v12_62⟩, ⟨_, v8_62⟩, _, v9_62⟩
    refine y_call0 y184_17 (y_args6 g62 rfl rfl) rfl r64 ?_
    have z64_1 : V64 1 = _ := (a64 1 (by rfl)).trans v1_62
    have z64_3 : V64 3 = _ := (a64 3 (by rfl)).trans v3_62
    have z64_4 : V64 4 = _ := (a64 4 (by rfl)).trans v4_62
    have z64_15 : V64 15 = _ := (a64 15 (by rfl)).trans v15_62
    have z64_20 : V64 20 = _ := (a64 20 (by rfl)).trans v20_62
    have z64_23 : V64 23 = _ ∧ V64 10 = _ := ⟨(a64 23 (by rfl)).trans v23_62.1, (a64 10 (by rfl)).trans v23_62.2⟩
    obtain ⟨⟨xw64, yw64⟩, ⟨xn64, yn64⟩, xs64, ys64⟩ := id ty64
    have t5_64 := yTk_5 tk64
    have t6_64 := yTk_6 tk64
    have t7_64 := yTk_7 tk64
    refine w_K y184_20 ?_
    have sp : yFst T n m ng 6 s p = .inr (s, yto T n m p) := by unfold yFst; rw [if_neg (by omega)]
    have g65 := (yF_n f64 (by rfl) gt62)
    have g66 := (yF_n f64 (by rfl) gr62)
    have g67 := (yF_n f64 (by rfl) gn62)
    have g68 := (yF_n f64 (by rfl) go62)
    exact y_ret y184_21 rfl ⟨true, _, rfl, yOM_good sp ⟨g64, g65, g66, g67, g68, ⟨z64_1, z64_3, z64_4, z64_15, z64_20, z64_23⟩, (yto_le hn hp62), ⟨⟨_, yw64⟩, ⟨_, yn64⟩, _, ys64⟩, tk64⟩, ⟨(yF_sub (by rfl) f64), (yA_sub (by rfl) a64)⟩⟩
  · skip
    refine y_icF y184_7 rfl (by omega) (by omega) (by simp only [zch]; omega) ?_
    refine w_A y184_10 rfl ?_
    refine w_K y184_11 ?_
    obtain ⟨σ69, r69, V69, g69, a69, f69, e10_69, e11_69⟩ := ym_bad (L := L) (xs := xs) (d := d + 1) (k := 4) ykd_le9 g62 t7_62 t6_62
    refine y_call y184_12 (y_args6 g62 rfl rfl) rfl r69 ?_
    have sp : yFst T n m ng 6 s p = .inl (ybd T n m p 4) := by unfold yFst; rw [if_pos (by omega)]
    exact y_ret y184_15 rfl ⟨false, _, rfl, yOM_bad sp ⟨g69, e10_69, e11_69⟩, ⟨(yF_sub (by rfl) f69), (yA_sub (by rfl) a69)⟩⟩
set_option maxRecDepth 100000 in
theorem y185_0 : iv_f1 (iv_p 185) 0 = some (.inl (iv_oI 2 1)) := rfl
set_option maxRecDepth 100000 in
theorem y185_1 : iv_f1 (iv_p 185) 1 = some (.inl (iv_oIf .eq (13))) := rfl
set_option maxRecDepth 100000 in
theorem y185_4 : iv_f1 (iv_p 185) 4 = some (.inl (iv_oA 0 1)) := rfl
set_option maxRecDepth 100000 in
theorem y185_5 : iv_f1 (iv_p 185) 5 = some (.inl (iv_oGF 12 15)) := rfl
set_option maxRecDepth 100000 in
theorem y185_8 : iv_f1 (iv_p 185) 8 = some (.inl (iv_oI 1 1)) := rfl
set_option maxRecDepth 100000 in
theorem y185_9 : iv_f1 (iv_p 185) 9 = some (.inl (iv_oA 0 1)) := rfl
set_option maxRecDepth 100000 in
theorem y185_10 : iv_f1 (iv_p 185) 10 = some (.inl (iv_oGF 12 13)) := rfl
set_option maxRecDepth 100000 in
theorem y185_13 : iv_f1 (iv_p 185) 13 = some (.inl iv_oIst) := rfl
set_option maxRecDepth 100000 in
theorem y185_14 : iv_f1 (iv_p 185) 14 = some (.inl (iv_oI 2 1)) := rfl
set_option maxRecDepth 100000 in
theorem y185_15 : iv_f1 (iv_p 185) 15 = some (.inr (.inl 2)) := rfl
theorem ym_putF {L : Nat} {xs : Nat → Int32} {d i : Nat} {σ : iv_H} : iv_Rn L xs d 185 0 (lv_args 0 [.ref 548, .int (Int32.ofNat i), .int (yb false)]) [] σ (some (.int (yb false))) σ := by
  refine y_Rp ?_
  refine w_I y185_0 rfl ?_
  refine w_ifT y185_1 rfl (y_beqT rfl) ?_
  refine w_I y185_14 rfl ?_
  exact y_ret y185_15 rfl ⟨rfl, rfl⟩
theorem ym_putT {L : Nat} {xs : Nat → Int32} {d i : Nat} {σ : iv_H} {V : Nat → Value} {rd : Nat → Int32} {x : Int32} (hi : i < 38) (g : iv_get σ 548 = some (yob 12 49 V)) (gr : iv_get σ 554 = some (yai 38 rd)) (v15 : V 15 = .ref 554) (v13 : V 13 = .int x) : ∃ σ1, iv_Rn L xs d 185 0 (lv_args 0 [.ref 548, .int (Int32.ofNat i), .int (yb true)]) [] σ (some (.int (yb true))) σ1 ∧ mD σ σ1 554 (yai 38 (upd rd i x)) := by
  refine y_Rn ?_
  refine w_I y185_0 rfl ?_
  refine w_ifF y185_1 rfl (y_beqF rfl) ?_
  refine w_A y185_4 rfl ?_
  refine y_gf y185_5 g rfl v15 ?_
  refine w_I y185_8 rfl ?_
  refine w_A y185_9 rfl ?_
  refine y_gf y185_10 g rfl v13 ?_
  refine y_ist y185_13 gr (by omega) (by decide) ?_
  intro σ71 h70
  refine w_I y185_14 rfl ?_
  exact y_ret y185_15 rfl ⟨rfl, h70⟩
set_option maxRecDepth 100000 in
theorem y186_0 : iv_f1 (iv_p 186) 0 = some (.inl (iv_oA 0 1)) := rfl
set_option maxRecDepth 100000 in
theorem y186_1 : iv_f1 (iv_p 186) 1 = some (.inl (iv_oK (.int (Int32.ofNat 0)) 1)) := rfl
set_option maxRecDepth 100000 in
theorem y186_2 : iv_f1 (iv_p 186) 2 = some (.inl (iv_oK (.int (Int32.ofNat 7)) 2)) := rfl
set_option maxRecDepth 100000 in
theorem y186_4 : iv_f1 (iv_p 186) 4 = some (.inr (.inr (6, 184, 2, 12))) := rfl
set_option maxRecDepth 100000 in
theorem y186_7 : iv_f1 (iv_p 186) 7 = some (.inl (iv_oIf .ne (5))) := rfl
set_option maxRecDepth 100000 in
theorem y186_10 : iv_f1 (iv_p 186) 10 = some (.inl (iv_oK (.int (Int32.ofNat 0)) 1)) := rfl
set_option maxRecDepth 100000 in
theorem y186_11 : iv_f1 (iv_p 186) 11 = some (.inr (.inl 2)) := rfl
set_option maxRecDepth 100000 in
theorem y186_12 : iv_f1 (iv_p 186) 12 = some (.inl (iv_oA 0 1)) := rfl
set_option maxRecDepth 100000 in
theorem y186_13 : iv_f1 (iv_p 186) 13 = some (.inl (iv_oGF 12 15)) := rfl
set_option maxRecDepth 100000 in
theorem y186_16 : iv_f1 (iv_p 186) 16 = some (.inl (iv_oK (.int (Int32.ofNat 0)) 1)) := rfl
set_option maxRecDepth 100000 in
theorem y186_17 : iv_f1 (iv_p 186) 17 = some (.inl iv_oIl) := rfl
set_option maxRecDepth 100000 in
theorem y186_18 : iv_f1 (iv_p 186) 18 = some (.inl (iv_oIS 1 1)) := rfl
set_option maxRecDepth 100000 in
theorem y186_19 : iv_f1 (iv_p 186) 19 = some (.inl (iv_oA 0 1)) := rfl
set_option maxRecDepth 100000 in
theorem y186_20 : iv_f1 (iv_p 186) 20 = some (.inl (iv_oI 1 1)) := rfl
set_option maxRecDepth 100000 in
theorem y186_21 : iv_f1 (iv_p 186) 21 = some (.inr (.inr (6, 182, 1, 12))) := rfl
set_option maxRecDepth 100000 in
theorem y186_24 : iv_f1 (iv_p 186) 24 = some (.inl (iv_oIf .eq (38))) := rfl
set_option maxRecDepth 100000 in
theorem y186_27 : iv_f1 (iv_p 186) 27 = some (.inl (iv_oA 0 1)) := rfl
set_option maxRecDepth 100000 in
theorem y186_28 : iv_f1 (iv_p 186) 28 = some (.inl (iv_oK (.int (Int32.ofNat 5)) 1)) := rfl
set_option maxRecDepth 100000 in
theorem y186_29 : iv_f1 (iv_p 186) 29 = some (.inl (iv_oI 1 1)) := rfl
set_option maxRecDepth 100000 in
theorem y186_30 : iv_f1 (iv_p 186) 30 = some (.inl (iv_oII fun x y => x + y)) := rfl
set_option maxRecDepth 100000 in
theorem y186_31 : iv_f1 (iv_p 186) 31 = some (.inl (iv_oA 0 1)) := rfl
set_option maxRecDepth 100000 in
theorem y186_32 : iv_f1 (iv_p 186) 32 = some (.inl (iv_oK (.int (Int32.ofNat 1)) 1)) := rfl
set_option maxRecDepth 100000 in
theorem y186_33 : iv_f1 (iv_p 186) 33 = some (.inl (iv_oK (.int (Int32.ofNat 240)) 3)) := rfl
set_option maxRecDepth 100000 in
theorem y186_36 : iv_f1 (iv_p 186) 36 = some (.inr (.inr (6, 175, 2, 12))) := rfl
set_option maxRecDepth 100000 in
theorem y186_39 : iv_f1 (iv_p 186) 39 = some (.inr (.inr (6, 185, 2, 12))) := rfl
set_option maxRecDepth 100000 in
theorem y186_42 : iv_f1 (iv_p 186) 42 = some (.inl (iv_oIf .eq (20))) := rfl
set_option maxRecDepth 100000 in
theorem y186_45 : iv_f1 (iv_p 186) 45 = some (.inl (iv_oA 0 1)) := rfl
set_option maxRecDepth 100000 in
theorem y186_46 : iv_f1 (iv_p 186) 46 = some (.inl (iv_oK (.int (Int32.ofNat 12)) 2)) := rfl
set_option maxRecDepth 100000 in
theorem y186_48 : iv_f1 (iv_p 186) 48 = some (.inl (iv_oI 1 1)) := rfl
set_option maxRecDepth 100000 in
theorem y186_49 : iv_f1 (iv_p 186) 49 = some (.inl (iv_oII fun x y => x + y)) := rfl
set_option maxRecDepth 100000 in
theorem y186_50 : iv_f1 (iv_p 186) 50 = some (.inl (iv_oA 0 1)) := rfl
set_option maxRecDepth 100000 in
theorem y186_51 : iv_f1 (iv_p 186) 51 = some (.inl (iv_oK (.int (Int32.ofNat 0)) 1)) := rfl
set_option maxRecDepth 100000 in
theorem y186_52 : iv_f1 (iv_p 186) 52 = some (.inl (iv_oK (.int (Int32.ofNat 5)) 1)) := rfl
set_option maxRecDepth 100000 in
theorem y186_53 : iv_f1 (iv_p 186) 53 = some (.inr (.inr (6, 175, 2, 12))) := rfl
set_option maxRecDepth 100000 in
theorem y186_56 : iv_f1 (iv_p 186) 56 = some (.inr (.inr (6, 185, 2, 12))) := rfl
set_option maxRecDepth 100000 in
theorem y186_59 : iv_f1 (iv_p 186) 59 = some (.inl (iv_oIf .ne (5))) := rfl
set_option maxRecDepth 100000 in
theorem y186_62 : iv_f1 (iv_p 186) 62 = some (.inl (iv_oK (.int (Int32.ofNat 0)) 1)) := rfl
set_option maxRecDepth 100000 in
theorem y186_63 : iv_f1 (iv_p 186) 63 = some (.inr (.inl 2)) := rfl
set_option maxRecDepth 100000 in
theorem y186_64 : iv_f1 (iv_p 186) 64 = some (.inl (iv_oA 0 1)) := rfl
set_option maxRecDepth 100000 in
theorem y186_65 : iv_f1 (iv_p 186) 65 = some (.inl (iv_oGF 12 15)) := rfl
set_option maxRecDepth 100000 in
theorem y186_68 : iv_f1 (iv_p 186) 68 = some (.inl (iv_oK (.int (Int32.ofNat 0)) 1)) := rfl
set_option maxRecDepth 100000 in
theorem y186_69 : iv_f1 (iv_p 186) 69 = some (.inl iv_oDup2) := rfl
set_option maxRecDepth 100000 in
theorem y186_70 : iv_f1 (iv_p 186) 70 = some (.inl iv_oIl) := rfl
set_option maxRecDepth 100000 in
theorem y186_71 : iv_f1 (iv_p 186) 71 = some (.inl (iv_oK (.int (Int32.ofNat 1)) 1)) := rfl
set_option maxRecDepth 100000 in
theorem y186_72 : iv_f1 (iv_p 186) 72 = some (.inl (iv_oII fun x y => x + y)) := rfl
set_option maxRecDepth 100000 in
theorem y186_73 : iv_f1 (iv_p 186) 73 = some (.inl iv_oIst) := rfl
set_option maxRecDepth 100000 in
theorem y186_74 : iv_f1 (iv_p 186) 74 = some (.inl (iv_oK (.int (Int32.ofNat 1)) 1)) := rfl
set_option maxRecDepth 100000 in
theorem y186_75 : iv_f1 (iv_p 186) 75 = some (.inr (.inl 2)) := rfl
theorem ym_bro {L : Nat} {xs : Nat → Int32} {d : Nat} {T : Nat → Nat} {n m p : Nat} {s : yS} {V : Nat → Value} {σ : iv_H} (hd : 4 ≤ d) (hn : n ≤ 940) (hm : m ≤ 940) (hT : ∀ i, T i ≤ 255) (hM : yMR T n m p s V σ) {nb ng : Nat} (hb : s.1 0 = Int32.ofNat nb) (hg : s.1 1 = Int32.ofNat ng) (hb7 : nb ≤ 7) (hg6 : ng ≤ 6) : ∃ r σ1 V1, iv_Rn L xs d 186 0 (lv_args 0 [.ref 548]) [] σ (some (.int (yb r))) σ1 ∧ yOM T n m (yTwo T n m nb ng 0 7 nb (5 + nb) 1 240 (12 + nb) 0 5 nb s p) r V1 σ1 ∧ yBx σ σ1 V V1 := by
  obtain ⟨d, rfl⟩ : ∃ e, d = e + 4 := ⟨d - 4, by omega⟩
  refine y_Rb ?_
  obtain ⟨g72, gt72, gr72, gn72, go72, ⟨v1_72, v3_72, v4_72, v15_72, v20_72, v23_72⟩, hp72, ty72, tk72⟩ := hM
  have t5_72 := yTk_5 tk72
  have t6_72 := yTk_6 tk72
  have t7_72 := yTk_7 tk72
  obtain ⟨⟨x12_72, v12_72⟩, ⟨x8_72, v8_72⟩, x9_72, v9_72⟩ := id ty72
  refine w_A y186_0 rfl ?_
  refine w_K y186_1 ?_
  refine w_K y186_2 ?_
  have hM73 : yMR T n m p s _ σ := ⟨g72, gt72, gr72, gn72, go72, ⟨v1_72, v3_72, v4_72, v15_72, v20_72, v23_72⟩, hp72, ⟨⟨_, v12_72⟩, ⟨_, v8_72⟩, _, v9_72⟩, tk72⟩
  obtain ⟨r74, σ74, V74, hr74, o74, b74⟩ := ym_fst0 (L := L) (xs := xs) (d := d + 3) (by omega) hn hm hT hM73 hb hg hb7 hg6
  refine y_call y186_4 (y_args6 g72 rfl rfl) rfl hr74 ?_
  cases h74 : yFst T n m nb 7 s p with
  | inl e74 =>
    rw [h74] at o74
    obtain ⟨rfl, hb74⟩ := (show _ ∧ _ from o74)
    refine w_ifF y186_7 rfl (y_bneF rfl) ?_
    refine w_K y186_10 ?_
    have sp : yTwo T n m nb ng 0 7 nb (5 + nb) 1 240 (12 + nb) 0 5 nb s p = .inl e74 := by unfold yTwo; rw [h74, yThen_l]
    exact y_ret y186_11 rfl ⟨false, _, rfl, yOM_bad sp hb74, ⟨(yF_sub (by rfl) b74.1), (yA_sub (by rfl) b74.2)⟩⟩
  | inr q74 =>
    rw [h74] at o74
    obtain ⟨rfl, ok74⟩ := (show _ ∧ _ from o74)
    obtain ⟨rfl, hc74⟩ := yFst_inr h74
    have hM_74 : yMR T n m (yto T n m p) s V74 σ74 := ok74
    obtain ⟨g75, gt75, gr75, gn75, go75, ⟨v1_75, v3_75, v4_75, v15_75, v20_75, v23_75⟩, hp75, ty75, tk75⟩ := hM_74
    have t5_75 := yTk_5 tk75
    have t6_75 := yTk_6 tk75
    have t7_75 := yTk_7 tk75
    obtain ⟨⟨x12_75, v12_75⟩, ⟨x8_75, v8_75⟩, x9_75, v9_75⟩ := id ty75
    refine w_ifT y186_7 rfl (y_bneT rfl) ?_
    refine w_A y186_12 rfl ?_
    refine y_gf y186_13 g75 rfl v15_75 ?_
    refine w_K y186_16 ?_
    refine y_ilE y186_17 gr75 rfl rfl (by omega) (by decide) hb ?_
    refine w_IS y186_18 ?_
    refine w_A y186_19 rfl ?_
    refine w_I y186_20 rfl ?_
    have hM76 : yMR T n m (yto T n m p) s _ σ74 := ⟨g75, gt75, gr75, gn75, go75, ⟨v1_75, v3_75, v4_75, v15_75, v20_75, v23_75⟩, hp75, ⟨⟨_, v12_75⟩, ⟨_, v8_75⟩, _, v9_75⟩, tk75⟩
    obtain ⟨r77, σ77, V77, hr77, o77, b77⟩ := ym_new (L := L) (xs := xs) (d := d + 3) (slot := nb) (by omega) (by omega) hn hm hT hM76 hb hg hb7 hg6
    refine y_call y186_21 (y_args6 g75 rfl rfl) rfl hr77 ?_
    cases h77 : yNew T n m nb ng nb s (yto T n m p) with
    | inl e77 =>
      rw [h77] at o77
      obtain ⟨rfl, hb77⟩ := (show _ ∧ _ from o77)
      refine w_ifT y186_24 rfl (y_beqT rfl) ?_
      refine w_K y186_62 ?_
      have sp : yTwo T n m nb ng 0 7 nb (5 + nb) 1 240 (12 + nb) 0 5 nb s p = .inl e77 := by unfold yTwo; rw [h74, yThen_r, h77, yThen_l]
      exact y_ret y186_63 rfl ⟨false, _, rfl, yOM_bad sp hb77, ⟨(yF_tr (yF_sub (by rfl) b74.1) (yF_sub (by rfl) b77.1)), (yA_tr (yA_sub (by rfl) b74.2) (yA_sub (by rfl) b77.2))⟩⟩
    | inr q77 =>
      rw [h77] at o77
      obtain ⟨rfl, ok77⟩ := (show _ ∧ _ from o77)
      obtain rfl := yNew_inr h77
      have hM_77 : yMR T n m (yto T n m (yto T n m p)) (s.1, vp_updL s.2.1 nb (yrv T n (yto T n m p)), s.2.2) V77 σ77 := ok77
      obtain ⟨g78, gt78, gr78, gn78, go78, ⟨v1_78, v3_78, v4_78, v15_78, v20_78, v23_78⟩, hp78, ty78, tk78⟩ := hM_77
      have t5_78 := yTk_5 tk78
      have t6_78 := yTk_6 tk78
      have t7_78 := yTk_7 tk78
      obtain ⟨⟨x12_78, v12_78⟩, ⟨x8_78, v8_78⟩, x9_78, v9_78⟩ := id ty78
      refine w_ifF y186_24 rfl (y_beqF rfl) ?_
      refine w_A y186_27 rfl ?_
      refine w_K y186_28 ?_
      refine w_I y186_29 rfl ?_
      refine w_add y186_30 ?_
      refine w_A y186_31 rfl ?_
      refine w_K y186_32 ?_
      refine w_K y186_33 ?_
      have hM79 : yMR T n m (yto T n m (yto T n m p)) (s.1, vp_updL s.2.1 nb (yrv T n (yto T n m p)), s.2.2) _ σ77 := ⟨g78, gt78, gr78, gn78, go78, ⟨v1_78, v3_78, v4_78, v15_78, v20_78, v23_78⟩, hp78, ⟨⟨_, v12_78⟩, ⟨_, v8_78⟩, _, v9_78⟩, tk78⟩
      obtain ⟨r80, σ80, V80, hr80, o80, b80⟩ := ym_num (L := L) (xs := xs) (d := d + 3) (a := 1) (b := 240) (by omega) (by omega) (by omega) hn hm hT hM79
      refine y_call y186_36 (y_args6 g78 rfl rfl) rfl hr80 ?_
      cases h80 : yNum T n m 1 240 (yto T n m (yto T n m p)) with
      | inl e80 =>
        rw [h80] at o80
        obtain ⟨rfl, hb80⟩ := (show _ ∧ _ from o80)
        refine y_call y186_39 (y_args6 hb80.1 rfl rfl) rfl ym_putF ?_
        refine w_ifT y186_42 rfl (y_beqT rfl) ?_
        refine w_K y186_62 ?_
        have sp : yTwo T n m nb ng 0 7 nb (5 + nb) 1 240 (12 + nb) 0 5 nb s p = .inl e80 := by unfold yTwo; rw [h74, yThen_r, h77, yThen_r, yPut_l h80, yThen_l]
        exact y_ret y186_63 rfl ⟨false, _, rfl, yOM_bad sp hb80, ⟨(yF_tr (yF_sub (by rfl) b74.1) (yF_tr (yF_sub (by rfl) b77.1) (yF_sub (by rfl) b80.1))), (yA_tr (yA_sub (by rfl) b74.2) (yA_tr (yA_sub (by rfl) b77.2) (yA_sub (by rfl) b80.2)))⟩⟩
      | inr q80 =>
        rw [h80] at o80
        obtain ⟨rfl, ok80⟩ := (show _ ∧ _ from o80)
        obtain rfl := yNum_inr h80
        have hM_80 : yMR T n m (yto T n m (yto T n m (yto T n m p))) (s.1, vp_updL s.2.1 nb (yrv T n (yto T n m p)), s.2.2) V80 σ80 := ok80.1
        have vt80 : V80 13 = .int (Int32.ofNat (ynN T (ysk T n (yto T n m (yto T n m p))) (yln T n (yto T n m (yto T n m p))))) := ok80.2
        obtain ⟨g81, gt81, gr81, gn81, go81, ⟨v1_81, v3_81, v4_81, v15_81, v20_81, v23_81⟩, hp81, ty81, tk81⟩ := hM_80
        have t5_81 := yTk_5 tk81
        have t6_81 := yTk_6 tk81
        have t7_81 := yTk_7 tk81
        obtain ⟨⟨x12_81, v12_81⟩, ⟨x8_81, v8_81⟩, x9_81, v9_81⟩ := id ty81
        obtain ⟨σ82, hr82, m82⟩ := ym_putT (L := L) (xs := xs) (d := d + 3) (i := 5 + nb) (by omega) g81 gr81 v15_81 vt80
        refine y_call y186_39 (y_args6 g81 rfl rfl) rfl hr82 ?_
        refine w_ifF y186_42 rfl (y_beqF rfl) ?_
        refine w_A y186_45 rfl ?_
        refine w_K y186_46 ?_
        refine w_I y186_48 rfl ?_
        refine w_add y186_49 ?_
        refine w_A y186_50 rfl ?_
        refine w_K y186_51 ?_
        refine w_K y186_52 ?_
        have g84 := (mD_n m82 (by decide) g81)
        have g85 := (mD_n m82 (by decide) gt81)
        have g86 := (mD_n m82 (by decide) gn81)
        have g87 := (mD_n m82 (by decide) go81)
        have hM83 : yMR T n m (yto T n m (yto T n m (yto T n m p))) (upd (s.1, vp_updL s.2.1 nb (yrv T n (yto T n m p)), s.2.2).1 (5 + nb) (Int32.ofNat (ynN T (ysk T n (yto T n m (yto T n m p))) (yln T n (yto T n m (yto T n m p))))), (s.1, vp_updL s.2.1 nb (yrv T n (yto T n m p)), s.2.2).2) _ σ82 := ⟨g84, g85, m82.2.1, g86, g87, ⟨v1_81, v3_81, v4_81, v15_81, v20_81, v23_81⟩, hp81, ⟨⟨_, v12_81⟩, ⟨_, v8_81⟩, _, v9_81⟩, tk81⟩
        obtain ⟨r88, σ88, V88, hr88, o88, b88⟩ := ym_num (L := L) (xs := xs) (d := d + 3) (a := 0) (b := 5) (by omega) (by omega) (by omega) hn hm hT hM83
        refine y_call y186_53 (y_args6 g84 rfl rfl) rfl hr88 ?_
        cases h88 : yNum T n m 0 5 (yto T n m (yto T n m (yto T n m p))) with
        | inl e88 =>
          rw [h88] at o88
          obtain ⟨rfl, hb88⟩ := (show _ ∧ _ from o88)
          refine y_call y186_56 (y_args6 hb88.1 rfl rfl) rfl ym_putF ?_
          refine w_ifF y186_59 rfl (y_bneF rfl) ?_
          refine w_K y186_62 ?_
          have sp : yTwo T n m nb ng 0 7 nb (5 + nb) 1 240 (12 + nb) 0 5 nb s p = .inl e88 := by unfold yTwo; rw [h74, yThen_r, h77, yThen_r, yPut_r h80, yThen_r, yPut_l h88, yThen_l]
          exact y_ret y186_63 rfl ⟨false, _, rfl, yOM_bad sp hb88, ⟨(yF_tr (yF_sub (by rfl) b74.1) (yF_tr (yF_sub (by rfl) b77.1) (yF_tr (yF_sub (by rfl) b80.1) (yF_tr (yF_D m82 (by rfl)) (yF_sub (by rfl) b88.1))))), (yA_tr (yA_sub (by rfl) b74.2) (yA_tr (yA_sub (by rfl) b77.2) (yA_tr (yA_sub (by rfl) b80.2) (yA_sub (by rfl) b88.2))))⟩⟩
        | inr q88 =>
          rw [h88] at o88
          obtain ⟨rfl, ok88⟩ := (show _ ∧ _ from o88)
          obtain rfl := yNum_inr h88
          have hM_88 : yMR T n m (yto T n m (yto T n m (yto T n m (yto T n m p)))) (upd (s.1, vp_updL s.2.1 nb (yrv T n (yto T n m p)), s.2.2).1 (5 + nb) (Int32.ofNat (ynN T (ysk T n (yto T n m (yto T n m p))) (yln T n (yto T n m (yto T n m p))))), (s.1, vp_updL s.2.1 nb (yrv T n (yto T n m p)), s.2.2).2) V88 σ88 := ok88.1
          have vt88 : V88 13 = .int (Int32.ofNat (ynN T (ysk T n (yto T n m (yto T n m (yto T n m p)))) (yln T n (yto T n m (yto T n m (yto T n m p)))))) := ok88.2
          obtain ⟨g89, gt89, gr89, gn89, go89, ⟨v1_89, v3_89, v4_89, v15_89, v20_89, v23_89⟩, hp89, ty89, tk89⟩ := hM_88
          have t5_89 := yTk_5 tk89
          have t6_89 := yTk_6 tk89
          have t7_89 := yTk_7 tk89
          obtain ⟨⟨x12_89, v12_89⟩, ⟨x8_89, v8_89⟩, x9_89, v9_89⟩ := id ty89
          obtain ⟨σ90, hr90, m90⟩ := ym_putT (L := L) (xs := xs) (d := d + 3) (i := 12 + nb) (by omega) g89 gr89 v15_89 vt88
          refine y_call y186_56 (y_args6 g89 rfl rfl) rfl hr90 ?_
          refine w_ifT y186_59 rfl (y_bneT rfl) ?_
          refine w_A y186_64 rfl ?_
          have g91 := (mD_n m90 (by decide) g89)
          refine y_gf y186_65 g91 rfl v15_89 ?_
          refine w_K y186_68 ?_
          refine y_dup2 y186_69 rfl rfl ?_
          refine y_ilE y186_70 m90.2.1 rfl rfl (by omega) (by decide) (y_upn (by omega) (y_upn (by omega) hb)) ?_
          refine w_K y186_71 ?_
          refine w_add y186_72 ?_
          refine y_ist y186_73 m90.2.1 (by omega) (by decide) ?_
          intro σ93 h92
          refine w_K y186_74 ?_
          have sp : yTwo T n m nb ng 0 7 nb (5 + nb) 1 240 (12 + nb) 0 5 nb s p = .inr ((upd ((upd (upd (s.1, vp_updL s.2.1 nb (yrv T n (yto T n m p)), s.2.2).1 (5 + nb) (Int32.ofNat (ynN T (ysk T n (yto T n m (yto T n m p))) (yln T n (yto T n m (yto T n m p))))), (s.1, vp_updL s.2.1 nb (yrv T n (yto T n m p)), s.2.2).2).1 (12 + nb) (Int32.ofNat (ynN T (ysk T n (yto T n m (yto T n m (yto T n m p)))) (yln T n (yto T n m (yto T n m (yto T n m p)))))), (upd (s.1, vp_updL s.2.1 nb (yrv T n (yto T n m p)), s.2.2).1 (5 + nb) (Int32.ofNat (ynN T (ysk T n (yto T n m (yto T n m p))) (yln T n (yto T n m (yto T n m p))))), (s.1, vp_updL s.2.1 nb (yrv T n (yto T n m p)), s.2.2).2).2)).1 0 (Int32.ofNat (nb + 1)), ((upd (upd (s.1, vp_updL s.2.1 nb (yrv T n (yto T n m p)), s.2.2).1 (5 + nb) (Int32.ofNat (ynN T (ysk T n (yto T n m (yto T n m p))) (yln T n (yto T n m (yto T n m p))))), (s.1, vp_updL s.2.1 nb (yrv T n (yto T n m p)), s.2.2).2).1 (12 + nb) (Int32.ofNat (ynN T (ysk T n (yto T n m (yto T n m (yto T n m p)))) (yln T n (yto T n m (yto T n m (yto T n m p)))))), (upd (s.1, vp_updL s.2.1 nb (yrv T n (yto T n m p)), s.2.2).1 (5 + nb) (Int32.ofNat (ynN T (ysk T n (yto T n m (yto T n m p))) (yln T n (yto T n m (yto T n m p))))), (s.1, vp_updL s.2.1 nb (yrv T n (yto T n m p)), s.2.2).2).2)).2), (yto T n m (yto T n m (yto T n m (yto T n m p))))) := by unfold yTwo; rw [h74, yThen_r, h77, yThen_r, yPut_r h80, yThen_r, yPut_r h88, yThen_r]
          have g94 := (mD_n h92 (by decide) g91)
          have g95 := (mD_n h92 (by decide) (mD_n m90 (by decide) gt89))
          have g96 := (mD_n h92 (by decide) (mD_n m90 (by decide) gn89))
          have g97 := (mD_n h92 (by decide) (mD_n m90 (by decide) go89))
          exact y_ret y186_75 rfl ⟨true, _, rfl, yOM_good sp ⟨g94, g95, h92.2.1, g96, g97, ⟨v1_89, v3_89, v4_89, v15_89, v20_89, v23_89⟩, hp89, ⟨⟨_, v12_89⟩, ⟨_, v8_89⟩, _, v9_89⟩, tk89⟩, ⟨(yF_tr (yF_sub (by rfl) b74.1) (yF_tr (yF_sub (by rfl) b77.1) (yF_tr (yF_sub (by rfl) b80.1) (yF_tr (yF_D m82 (by rfl)) (yF_tr (yF_sub (by rfl) b88.1) (yF_tr (yF_D m90 (by rfl)) (yF_D h92 (by rfl)))))))), (yA_tr (yA_sub (by rfl) b74.2) (yA_tr (yA_sub (by rfl) b77.2) (yA_tr (yA_sub (by rfl) b80.2) (yA_sub (by rfl) b88.2))))⟩⟩
set_option maxRecDepth 100000 in
theorem y187_0 : iv_f1 (iv_p 187) 0 = some (.inl (iv_oA 0 1)) := rfl
set_option maxRecDepth 100000 in
theorem y187_1 : iv_f1 (iv_p 187) 1 = some (.inl (iv_oK (.int (Int32.ofNat 1)) 1)) := rfl
set_option maxRecDepth 100000 in
theorem y187_2 : iv_f1 (iv_p 187) 2 = some (.inl (iv_oK (.int (Int32.ofNat 6)) 2)) := rfl
set_option maxRecDepth 100000 in
theorem y187_4 : iv_f1 (iv_p 187) 4 = some (.inr (.inr (6, 184, 2, 12))) := rfl
set_option maxRecDepth 100000 in
theorem y187_7 : iv_f1 (iv_p 187) 7 = some (.inl (iv_oIf .ne (5))) := rfl
set_option maxRecDepth 100000 in
theorem y187_10 : iv_f1 (iv_p 187) 10 = some (.inl (iv_oK (.int (Int32.ofNat 0)) 1)) := rfl
set_option maxRecDepth 100000 in
theorem y187_11 : iv_f1 (iv_p 187) 11 = some (.inr (.inl 2)) := rfl
set_option maxRecDepth 100000 in
theorem y187_12 : iv_f1 (iv_p 187) 12 = some (.inl (iv_oA 0 1)) := rfl
set_option maxRecDepth 100000 in
theorem y187_13 : iv_f1 (iv_p 187) 13 = some (.inl (iv_oGF 12 15)) := rfl
set_option maxRecDepth 100000 in
theorem y187_16 : iv_f1 (iv_p 187) 16 = some (.inl (iv_oK (.int (Int32.ofNat 1)) 1)) := rfl
set_option maxRecDepth 100000 in
theorem y187_17 : iv_f1 (iv_p 187) 17 = some (.inl iv_oIl) := rfl
set_option maxRecDepth 100000 in
theorem y187_18 : iv_f1 (iv_p 187) 18 = some (.inl (iv_oIS 1 1)) := rfl
set_option maxRecDepth 100000 in
theorem y187_19 : iv_f1 (iv_p 187) 19 = some (.inl (iv_oA 0 1)) := rfl
set_option maxRecDepth 100000 in
theorem y187_20 : iv_f1 (iv_p 187) 20 = some (.inl (iv_oK (.int (Int32.ofNat 7)) 2)) := rfl
set_option maxRecDepth 100000 in
theorem y187_22 : iv_f1 (iv_p 187) 22 = some (.inl (iv_oI 1 1)) := rfl
set_option maxRecDepth 100000 in
theorem y187_23 : iv_f1 (iv_p 187) 23 = some (.inl (iv_oII fun x y => x + y)) := rfl
set_option maxRecDepth 100000 in
theorem y187_24 : iv_f1 (iv_p 187) 24 = some (.inr (.inr (6, 182, 1, 12))) := rfl
set_option maxRecDepth 100000 in
theorem y187_27 : iv_f1 (iv_p 187) 27 = some (.inl (iv_oIf .eq (39))) := rfl
set_option maxRecDepth 100000 in
theorem y187_30 : iv_f1 (iv_p 187) 30 = some (.inl (iv_oA 0 1)) := rfl
set_option maxRecDepth 100000 in
theorem y187_31 : iv_f1 (iv_p 187) 31 = some (.inl (iv_oK (.int (Int32.ofNat 26)) 2)) := rfl
set_option maxRecDepth 100000 in
theorem y187_33 : iv_f1 (iv_p 187) 33 = some (.inl (iv_oI 1 1)) := rfl
set_option maxRecDepth 100000 in
theorem y187_34 : iv_f1 (iv_p 187) 34 = some (.inl (iv_oII fun x y => x + y)) := rfl
set_option maxRecDepth 100000 in
theorem y187_35 : iv_f1 (iv_p 187) 35 = some (.inl (iv_oA 0 1)) := rfl
set_option maxRecDepth 100000 in
theorem y187_36 : iv_f1 (iv_p 187) 36 = some (.inl (iv_oK (.int (Int32.ofNat 1)) 1)) := rfl
set_option maxRecDepth 100000 in
theorem y187_37 : iv_f1 (iv_p 187) 37 = some (.inl (iv_oK (.int (Int32.ofNat 9)) 2)) := rfl
set_option maxRecDepth 100000 in
theorem y187_39 : iv_f1 (iv_p 187) 39 = some (.inr (.inr (6, 175, 2, 12))) := rfl
set_option maxRecDepth 100000 in
theorem y187_42 : iv_f1 (iv_p 187) 42 = some (.inr (.inr (6, 185, 2, 12))) := rfl
set_option maxRecDepth 100000 in
theorem y187_45 : iv_f1 (iv_p 187) 45 = some (.inl (iv_oIf .eq (21))) := rfl
set_option maxRecDepth 100000 in
theorem y187_48 : iv_f1 (iv_p 187) 48 = some (.inl (iv_oA 0 1)) := rfl
set_option maxRecDepth 100000 in
theorem y187_49 : iv_f1 (iv_p 187) 49 = some (.inl (iv_oK (.int (Int32.ofNat 32)) 2)) := rfl
set_option maxRecDepth 100000 in
theorem y187_51 : iv_f1 (iv_p 187) 51 = some (.inl (iv_oI 1 1)) := rfl
set_option maxRecDepth 100000 in
theorem y187_52 : iv_f1 (iv_p 187) 52 = some (.inl (iv_oII fun x y => x + y)) := rfl
set_option maxRecDepth 100000 in
theorem y187_53 : iv_f1 (iv_p 187) 53 = some (.inl (iv_oA 0 1)) := rfl
set_option maxRecDepth 100000 in
theorem y187_54 : iv_f1 (iv_p 187) 54 = some (.inl (iv_oK (.int (Int32.ofNat 1)) 1)) := rfl
set_option maxRecDepth 100000 in
theorem y187_55 : iv_f1 (iv_p 187) 55 = some (.inl (iv_oK (.int (Int32.ofNat 60)) 2)) := rfl
set_option maxRecDepth 100000 in
theorem y187_57 : iv_f1 (iv_p 187) 57 = some (.inr (.inr (6, 175, 2, 12))) := rfl
set_option maxRecDepth 100000 in
theorem y187_60 : iv_f1 (iv_p 187) 60 = some (.inr (.inr (6, 185, 2, 12))) := rfl
set_option maxRecDepth 100000 in
theorem y187_63 : iv_f1 (iv_p 187) 63 = some (.inl (iv_oIf .ne (5))) := rfl
set_option maxRecDepth 100000 in
theorem y187_66 : iv_f1 (iv_p 187) 66 = some (.inl (iv_oK (.int (Int32.ofNat 0)) 1)) := rfl
set_option maxRecDepth 100000 in
theorem y187_67 : iv_f1 (iv_p 187) 67 = some (.inr (.inl 2)) := rfl
set_option maxRecDepth 100000 in
theorem y187_68 : iv_f1 (iv_p 187) 68 = some (.inl (iv_oA 0 1)) := rfl
set_option maxRecDepth 100000 in
theorem y187_69 : iv_f1 (iv_p 187) 69 = some (.inl (iv_oGF 12 15)) := rfl
set_option maxRecDepth 100000 in
theorem y187_72 : iv_f1 (iv_p 187) 72 = some (.inl (iv_oK (.int (Int32.ofNat 1)) 1)) := rfl
set_option maxRecDepth 100000 in
theorem y187_73 : iv_f1 (iv_p 187) 73 = some (.inl iv_oDup2) := rfl
set_option maxRecDepth 100000 in
theorem y187_74 : iv_f1 (iv_p 187) 74 = some (.inl iv_oIl) := rfl
set_option maxRecDepth 100000 in
theorem y187_75 : iv_f1 (iv_p 187) 75 = some (.inl (iv_oK (.int (Int32.ofNat 1)) 1)) := rfl
set_option maxRecDepth 100000 in
theorem y187_76 : iv_f1 (iv_p 187) 76 = some (.inl (iv_oII fun x y => x + y)) := rfl
set_option maxRecDepth 100000 in
theorem y187_77 : iv_f1 (iv_p 187) 77 = some (.inl iv_oIst) := rfl
set_option maxRecDepth 100000 in
theorem y187_78 : iv_f1 (iv_p 187) 78 = some (.inl (iv_oK (.int (Int32.ofNat 1)) 1)) := rfl
set_option maxRecDepth 100000 in
theorem y187_79 : iv_f1 (iv_p 187) 79 = some (.inr (.inl 2)) := rfl
theorem ym_gra {L : Nat} {xs : Nat → Int32} {d : Nat} {T : Nat → Nat} {n m p : Nat} {s : yS} {V : Nat → Value} {σ : iv_H} (hd : 4 ≤ d) (hn : n ≤ 940) (hm : m ≤ 940) (hT : ∀ i, T i ≤ 255) (hM : yMR T n m p s V σ) {nb ng : Nat} (hb : s.1 0 = Int32.ofNat nb) (hg : s.1 1 = Int32.ofNat ng) (hb7 : nb ≤ 7) (hg6 : ng ≤ 6) : ∃ r σ1 V1, iv_Rn L xs d 187 0 (lv_args 0 [.ref 548]) [] σ (some (.int (yb r))) σ1 ∧ yOM T n m (yTwo T n m nb ng 1 6 (7 + ng) (26 + ng) 1 9 (32 + ng) 1 60 ng s p) r V1 σ1 ∧ yBx σ σ1 V V1 := by
  obtain ⟨d, rfl⟩ : ∃ e, d = e + 4 := ⟨d - 4, by omega⟩
  refine y_Rb ?_
  obtain ⟨g98, gt98, gr98, gn98, go98, ⟨v1_98, v3_98, v4_98, v15_98, v20_98, v23_98⟩, hp98, ty98, tk98⟩ := hM
  have t5_98 := yTk_5 tk98
  have t6_98 := yTk_6 tk98
  have t7_98 := yTk_7 tk98
  obtain ⟨⟨x12_98, v12_98⟩, ⟨x8_98, v8_98⟩, x9_98, v9_98⟩ := id ty98
  refine w_A y187_0 rfl ?_
  refine w_K y187_1 ?_
  refine w_K y187_2 ?_
  have hM99 : yMR T n m p s _ σ := ⟨g98, gt98, gr98, gn98, go98, ⟨v1_98, v3_98, v4_98, v15_98, v20_98, v23_98⟩, hp98, ⟨⟨_, v12_98⟩, ⟨_, v8_98⟩, _, v9_98⟩, tk98⟩
  obtain ⟨r100, σ100, V100, hr100, o100, b100⟩ := ym_fst1 (L := L) (xs := xs) (d := d + 3) (by omega) hn hm hT hM99 hb hg hb7 hg6
  refine y_call y187_4 (y_args6 g98 rfl rfl) rfl hr100 ?_
  cases h100 : yFst T n m ng 6 s p with
  | inl e100 =>
    rw [h100] at o100
    obtain ⟨rfl, hb100⟩ := (show _ ∧ _ from o100)
    refine w_ifF y187_7 rfl (y_bneF rfl) ?_
    refine w_K y187_10 ?_
    have sp : yTwo T n m nb ng 1 6 (7 + ng) (26 + ng) 1 9 (32 + ng) 1 60 ng s p = .inl e100 := by unfold yTwo; rw [h100, yThen_l]
    exact y_ret y187_11 rfl ⟨false, _, rfl, yOM_bad sp hb100, ⟨(yF_sub (by rfl) b100.1), (yA_sub (by rfl) b100.2)⟩⟩
  | inr q100 =>
    rw [h100] at o100
    obtain ⟨rfl, ok100⟩ := (show _ ∧ _ from o100)
    obtain ⟨rfl, hc100⟩ := yFst_inr h100
    have hM_100 : yMR T n m (yto T n m p) s V100 σ100 := ok100
    obtain ⟨g101, gt101, gr101, gn101, go101, ⟨v1_101, v3_101, v4_101, v15_101, v20_101, v23_101⟩, hp101, ty101, tk101⟩ := hM_100
    have t5_101 := yTk_5 tk101
    have t6_101 := yTk_6 tk101
    have t7_101 := yTk_7 tk101
    obtain ⟨⟨x12_101, v12_101⟩, ⟨x8_101, v8_101⟩, x9_101, v9_101⟩ := id ty101
    refine w_ifT y187_7 rfl (y_bneT rfl) ?_
    refine w_A y187_12 rfl ?_
    refine y_gf y187_13 g101 rfl v15_101 ?_
    refine w_K y187_16 ?_
    refine y_ilE y187_17 gr101 rfl rfl (by omega) (by decide) hg ?_
    refine w_IS y187_18 ?_
    refine w_A y187_19 rfl ?_
    refine w_K y187_20 ?_
    refine w_I y187_22 rfl ?_
    refine w_add y187_23 ?_
    have hM102 : yMR T n m (yto T n m p) s _ σ100 := ⟨g101, gt101, gr101, gn101, go101, ⟨v1_101, v3_101, v4_101, v15_101, v20_101, v23_101⟩, hp101, ⟨⟨_, v12_101⟩, ⟨_, v8_101⟩, _, v9_101⟩, tk101⟩
    obtain ⟨r103, σ103, V103, hr103, o103, b103⟩ := ym_new (L := L) (xs := xs) (d := d + 3) (slot := 7 + ng) (by omega) (by omega) hn hm hT hM102 hb hg hb7 hg6
    refine y_call y187_24 (y_args6 g101 rfl rfl) rfl hr103 ?_
    cases h103 : yNew T n m nb ng (7 + ng) s (yto T n m p) with
    | inl e103 =>
      rw [h103] at o103
      obtain ⟨rfl, hb103⟩ := (show _ ∧ _ from o103)
      refine w_ifT y187_27 rfl (y_beqT rfl) ?_
      refine w_K y187_66 ?_
      have sp : yTwo T n m nb ng 1 6 (7 + ng) (26 + ng) 1 9 (32 + ng) 1 60 ng s p = .inl e103 := by unfold yTwo; rw [h100, yThen_r, h103, yThen_l]
      exact y_ret y187_67 rfl ⟨false, _, rfl, yOM_bad sp hb103, ⟨(yF_tr (yF_sub (by rfl) b100.1) (yF_sub (by rfl) b103.1)), (yA_tr (yA_sub (by rfl) b100.2) (yA_sub (by rfl) b103.2))⟩⟩
    | inr q103 =>
      rw [h103] at o103
      obtain ⟨rfl, ok103⟩ := (show _ ∧ _ from o103)
      obtain rfl := yNew_inr h103
      have hM_103 : yMR T n m (yto T n m (yto T n m p)) (s.1, vp_updL s.2.1 (7 + ng) (yrv T n (yto T n m p)), s.2.2) V103 σ103 := ok103
      obtain ⟨g104, gt104, gr104, gn104, go104, ⟨v1_104, v3_104, v4_104, v15_104, v20_104, v23_104⟩, hp104, ty104, tk104⟩ := hM_103
      have t5_104 := yTk_5 tk104
      have t6_104 := yTk_6 tk104
      have t7_104 := yTk_7 tk104
      obtain ⟨⟨x12_104, v12_104⟩, ⟨x8_104, v8_104⟩, x9_104, v9_104⟩ := id ty104
      refine w_ifF y187_27 rfl (y_beqF rfl) ?_
      refine w_A y187_30 rfl ?_
      refine w_K y187_31 ?_
      refine w_I y187_33 rfl ?_
      refine w_add y187_34 ?_
      refine w_A y187_35 rfl ?_
      refine w_K y187_36 ?_
      refine w_K y187_37 ?_
      have hM105 : yMR T n m (yto T n m (yto T n m p)) (s.1, vp_updL s.2.1 (7 + ng) (yrv T n (yto T n m p)), s.2.2) _ σ103 := ⟨g104, gt104, gr104, gn104, go104, ⟨v1_104, v3_104, v4_104, v15_104, v20_104, v23_104⟩, hp104, ⟨⟨_, v12_104⟩, ⟨_, v8_104⟩, _, v9_104⟩, tk104⟩
      obtain ⟨r106, σ106, V106, hr106, o106, b106⟩ := ym_num (L := L) (xs := xs) (d := d + 3) (a := 1) (b := 9) (by omega) (by omega) (by omega) hn hm hT hM105
      refine y_call y187_39 (y_args6 g104 rfl rfl) rfl hr106 ?_
      cases h106 : yNum T n m 1 9 (yto T n m (yto T n m p)) with
      | inl e106 =>
        rw [h106] at o106
        obtain ⟨rfl, hb106⟩ := (show _ ∧ _ from o106)
        refine y_call y187_42 (y_args6 hb106.1 rfl rfl) rfl ym_putF ?_
        refine w_ifT y187_45 rfl (y_beqT rfl) ?_
        refine w_K y187_66 ?_
        have sp : yTwo T n m nb ng 1 6 (7 + ng) (26 + ng) 1 9 (32 + ng) 1 60 ng s p = .inl e106 := by unfold yTwo; rw [h100, yThen_r, h103, yThen_r, yPut_l h106, yThen_l]
        exact y_ret y187_67 rfl ⟨false, _, rfl, yOM_bad sp hb106, ⟨(yF_tr (yF_sub (by rfl) b100.1) (yF_tr (yF_sub (by rfl) b103.1) (yF_sub (by rfl) b106.1))), (yA_tr (yA_sub (by rfl) b100.2) (yA_tr (yA_sub (by rfl) b103.2) (yA_sub (by rfl) b106.2)))⟩⟩
      | inr q106 =>
        rw [h106] at o106
        obtain ⟨rfl, ok106⟩ := (show _ ∧ _ from o106)
        obtain rfl := yNum_inr h106
        have hM_106 : yMR T n m (yto T n m (yto T n m (yto T n m p))) (s.1, vp_updL s.2.1 (7 + ng) (yrv T n (yto T n m p)), s.2.2) V106 σ106 := ok106.1
        have vt106 : V106 13 = .int (Int32.ofNat (ynN T (ysk T n (yto T n m (yto T n m p))) (yln T n (yto T n m (yto T n m p))))) := ok106.2
        obtain ⟨g107, gt107, gr107, gn107, go107, ⟨v1_107, v3_107, v4_107, v15_107, v20_107, v23_107⟩, hp107, ty107, tk107⟩ := hM_106
        have t5_107 := yTk_5 tk107
        have t6_107 := yTk_6 tk107
        have t7_107 := yTk_7 tk107
        obtain ⟨⟨x12_107, v12_107⟩, ⟨x8_107, v8_107⟩, x9_107, v9_107⟩ := id ty107
        obtain ⟨σ108, hr108, m108⟩ := ym_putT (L := L) (xs := xs) (d := d + 3) (i := 26 + ng) (by omega) g107 gr107 v15_107 vt106
        refine y_call y187_42 (y_args6 g107 rfl rfl) rfl hr108 ?_
        refine w_ifF y187_45 rfl (y_beqF rfl) ?_
        refine w_A y187_48 rfl ?_
        refine w_K y187_49 ?_
        refine w_I y187_51 rfl ?_
        refine w_add y187_52 ?_
        refine w_A y187_53 rfl ?_
        refine w_K y187_54 ?_
        refine w_K y187_55 ?_
        have g110 := (mD_n m108 (by decide) g107)
        have g111 := (mD_n m108 (by decide) gt107)
        have g112 := (mD_n m108 (by decide) gn107)
        have g113 := (mD_n m108 (by decide) go107)
        have hM109 : yMR T n m (yto T n m (yto T n m (yto T n m p))) (upd (s.1, vp_updL s.2.1 (7 + ng) (yrv T n (yto T n m p)), s.2.2).1 (26 + ng) (Int32.ofNat (ynN T (ysk T n (yto T n m (yto T n m p))) (yln T n (yto T n m (yto T n m p))))), (s.1, vp_updL s.2.1 (7 + ng) (yrv T n (yto T n m p)), s.2.2).2) _ σ108 := ⟨g110, g111, m108.2.1, g112, g113, ⟨v1_107, v3_107, v4_107, v15_107, v20_107, v23_107⟩, hp107, ⟨⟨_, v12_107⟩, ⟨_, v8_107⟩, _, v9_107⟩, tk107⟩
        obtain ⟨r114, σ114, V114, hr114, o114, b114⟩ := ym_num (L := L) (xs := xs) (d := d + 3) (a := 1) (b := 60) (by omega) (by omega) (by omega) hn hm hT hM109
        refine y_call y187_57 (y_args6 g110 rfl rfl) rfl hr114 ?_
        cases h114 : yNum T n m 1 60 (yto T n m (yto T n m (yto T n m p))) with
        | inl e114 =>
          rw [h114] at o114
          obtain ⟨rfl, hb114⟩ := (show _ ∧ _ from o114)
          refine y_call y187_60 (y_args6 hb114.1 rfl rfl) rfl ym_putF ?_
          refine w_ifF y187_63 rfl (y_bneF rfl) ?_
          refine w_K y187_66 ?_
          have sp : yTwo T n m nb ng 1 6 (7 + ng) (26 + ng) 1 9 (32 + ng) 1 60 ng s p = .inl e114 := by unfold yTwo; rw [h100, yThen_r, h103, yThen_r, yPut_r h106, yThen_r, yPut_l h114, yThen_l]
          exact y_ret y187_67 rfl ⟨false, _, rfl, yOM_bad sp hb114, ⟨(yF_tr (yF_sub (by rfl) b100.1) (yF_tr (yF_sub (by rfl) b103.1) (yF_tr (yF_sub (by rfl) b106.1) (yF_tr (yF_D m108 (by rfl)) (yF_sub (by rfl) b114.1))))), (yA_tr (yA_sub (by rfl) b100.2) (yA_tr (yA_sub (by rfl) b103.2) (yA_tr (yA_sub (by rfl) b106.2) (yA_sub (by rfl) b114.2))))⟩⟩
        | inr q114 =>
          rw [h114] at o114
          obtain ⟨rfl, ok114⟩ := (show _ ∧ _ from o114)
          obtain rfl := yNum_inr h114
          have hM_114 : yMR T n m (yto T n m (yto T n m (yto T n m (yto T n m p)))) (upd (s.1, vp_updL s.2.1 (7 + ng) (yrv T n (yto T n m p)), s.2.2).1 (26 + ng) (Int32.ofNat (ynN T (ysk T n (yto T n m (yto T n m p))) (yln T n (yto T n m (yto T n m p))))), (s.1, vp_updL s.2.1 (7 + ng) (yrv T n (yto T n m p)), s.2.2).2) V114 σ114 := ok114.1
          have vt114 : V114 13 = .int (Int32.ofNat (ynN T (ysk T n (yto T n m (yto T n m (yto T n m p)))) (yln T n (yto T n m (yto T n m (yto T n m p)))))) := ok114.2
          obtain ⟨g115, gt115, gr115, gn115, go115, ⟨v1_115, v3_115, v4_115, v15_115, v20_115, v23_115⟩, hp115, ty115, tk115⟩ := hM_114
          have t5_115 := yTk_5 tk115
          have t6_115 := yTk_6 tk115
          have t7_115 := yTk_7 tk115
          obtain ⟨⟨x12_115, v12_115⟩, ⟨x8_115, v8_115⟩, x9_115, v9_115⟩ := id ty115
          obtain ⟨σ116, hr116, m116⟩ := ym_putT (L := L) (xs := xs) (d := d + 3) (i := 32 + ng) (by omega) g115 gr115 v15_115 vt114
          refine y_call y187_60 (y_args6 g115 rfl rfl) rfl hr116 ?_
          refine w_ifT y187_63 rfl (y_bneT rfl) ?_
          refine w_A y187_68 rfl ?_
          have g117 := (mD_n m116 (by decide) g115)
          refine y_gf y187_69 g117 rfl v15_115 ?_
          refine w_K y187_72 ?_
          refine y_dup2 y187_73 rfl rfl ?_
          refine y_ilE y187_74 m116.2.1 rfl rfl (by omega) (by decide) (y_upn (by omega) (y_upn (by omega) hg)) ?_
          refine w_K y187_75 ?_
          refine w_add y187_76 ?_
          refine y_ist y187_77 m116.2.1 (by omega) (by decide) ?_
          intro σ119 h118
          refine w_K y187_78 ?_
          have sp : yTwo T n m nb ng 1 6 (7 + ng) (26 + ng) 1 9 (32 + ng) 1 60 ng s p = .inr ((upd ((upd (upd (s.1, vp_updL s.2.1 (7 + ng) (yrv T n (yto T n m p)), s.2.2).1 (26 + ng) (Int32.ofNat (ynN T (ysk T n (yto T n m (yto T n m p))) (yln T n (yto T n m (yto T n m p))))), (s.1, vp_updL s.2.1 (7 + ng) (yrv T n (yto T n m p)), s.2.2).2).1 (32 + ng) (Int32.ofNat (ynN T (ysk T n (yto T n m (yto T n m (yto T n m p)))) (yln T n (yto T n m (yto T n m (yto T n m p)))))), (upd (s.1, vp_updL s.2.1 (7 + ng) (yrv T n (yto T n m p)), s.2.2).1 (26 + ng) (Int32.ofNat (ynN T (ysk T n (yto T n m (yto T n m p))) (yln T n (yto T n m (yto T n m p))))), (s.1, vp_updL s.2.1 (7 + ng) (yrv T n (yto T n m p)), s.2.2).2).2)).1 1 (Int32.ofNat (ng + 1)), ((upd (upd (s.1, vp_updL s.2.1 (7 + ng) (yrv T n (yto T n m p)), s.2.2).1 (26 + ng) (Int32.ofNat (ynN T (ysk T n (yto T n m (yto T n m p))) (yln T n (yto T n m (yto T n m p))))), (s.1, vp_updL s.2.1 (7 + ng) (yrv T n (yto T n m p)), s.2.2).2).1 (32 + ng) (Int32.ofNat (ynN T (ysk T n (yto T n m (yto T n m (yto T n m p)))) (yln T n (yto T n m (yto T n m (yto T n m p)))))), (upd (s.1, vp_updL s.2.1 (7 + ng) (yrv T n (yto T n m p)), s.2.2).1 (26 + ng) (Int32.ofNat (ynN T (ysk T n (yto T n m (yto T n m p))) (yln T n (yto T n m (yto T n m p))))), (s.1, vp_updL s.2.1 (7 + ng) (yrv T n (yto T n m p)), s.2.2).2).2)).2), (yto T n m (yto T n m (yto T n m (yto T n m p))))) := by unfold yTwo; rw [h100, yThen_r, h103, yThen_r, yPut_r h106, yThen_r, yPut_r h114, yThen_r]
          have g120 := (mD_n h118 (by decide) g117)
          have g121 := (mD_n h118 (by decide) (mD_n m116 (by decide) gt115))
          have g122 := (mD_n h118 (by decide) (mD_n m116 (by decide) gn115))
          have g123 := (mD_n h118 (by decide) (mD_n m116 (by decide) go115))
          exact y_ret y187_79 rfl ⟨true, _, rfl, yOM_good sp ⟨g120, g121, h118.2.1, g122, g123, ⟨v1_115, v3_115, v4_115, v15_115, v20_115, v23_115⟩, hp115, ⟨⟨_, v12_115⟩, ⟨_, v8_115⟩, _, v9_115⟩, tk115⟩, ⟨(yF_tr (yF_sub (by rfl) b100.1) (yF_tr (yF_sub (by rfl) b103.1) (yF_tr (yF_sub (by rfl) b106.1) (yF_tr (yF_D m108 (by rfl)) (yF_tr (yF_sub (by rfl) b114.1) (yF_tr (yF_D m116 (by rfl)) (yF_D h118 (by rfl)))))))), (yA_tr (yA_sub (by rfl) b100.2) (yA_tr (yA_sub (by rfl) b103.2) (yA_tr (yA_sub (by rfl) b106.2) (yA_sub (by rfl) b114.2))))⟩⟩
