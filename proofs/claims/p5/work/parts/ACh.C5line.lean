/-! ===== printed by wip/gen/y/c4.py: the reference reads an order, holds, once, a line ===== -/
set_option maxRecDepth 100000 in
theorem y189_0 : iv_f1 (iv_p 189) 0 = some (.inl (iv_oA 0 1)) := rfl
set_option maxRecDepth 100000 in
theorem y189_1 : iv_f1 (iv_p 189) 1 = some (.inl (iv_oGF 12 23)) := rfl
set_option maxRecDepth 100000 in
theorem y189_4 : iv_f1 (iv_p 189) 4 = some (.inl (iv_oI 1 1)) := rfl
set_option maxRecDepth 100000 in
theorem y189_5 : iv_f1 (iv_p 189) 5 = some (.inl iv_oZl) := rfl
set_option maxRecDepth 100000 in
theorem y189_6 : iv_f1 (iv_p 189) 6 = some (.inl (iv_oIf .eq (9))) := rfl
set_option maxRecDepth 100000 in
theorem y189_9 : iv_f1 (iv_p 189) 9 = some (.inl (iv_oA 0 1)) := rfl
set_option maxRecDepth 100000 in
theorem y189_10 : iv_f1 (iv_p 189) 10 = some (.inl (iv_oK (.int (Int32.ofNat 3)) 1)) := rfl
set_option maxRecDepth 100000 in
theorem y189_11 : iv_f1 (iv_p 189) 11 = some (.inr (.inr (6, 174, 1, 12))) := rfl
set_option maxRecDepth 100000 in
theorem y189_14 : iv_f1 (iv_p 189) 14 = some (.inr (.inl 2)) := rfl
set_option maxRecDepth 100000 in
theorem y189_15 : iv_f1 (iv_p 189) 15 = some (.inl (iv_oA 0 1)) := rfl
set_option maxRecDepth 100000 in
theorem y189_16 : iv_f1 (iv_p 189) 16 = some (.inl (iv_oGF 12 23)) := rfl
set_option maxRecDepth 100000 in
theorem y189_19 : iv_f1 (iv_p 189) 19 = some (.inl (iv_oI 1 1)) := rfl
set_option maxRecDepth 100000 in
theorem y189_20 : iv_f1 (iv_p 189) 20 = some (.inl (iv_oK (.int (Int32.ofNat 1)) 1)) := rfl
set_option maxRecDepth 100000 in
theorem y189_21 : iv_f1 (iv_p 189) 21 = some (.inl iv_oZst) := rfl
set_option maxRecDepth 100000 in
theorem y189_22 : iv_f1 (iv_p 189) 22 = some (.inl (iv_oA 0 1)) := rfl
set_option maxRecDepth 100000 in
theorem y189_23 : iv_f1 (iv_p 189) 23 = some (.inr (.inr (6, 168, 0, 12))) := rfl
set_option maxRecDepth 100000 in
theorem y189_26 : iv_f1 (iv_p 189) 26 = some (.inl (iv_oA 0 1)) := rfl
set_option maxRecDepth 100000 in
theorem y189_27 : iv_f1 (iv_p 189) 27 = some (.inl (iv_oK (.int (Int32.ofNat 2)) 1)) := rfl
set_option maxRecDepth 100000 in
theorem y189_28 : iv_f1 (iv_p 189) 28 = some (.inl (iv_oI 1 1)) := rfl
set_option maxRecDepth 100000 in
theorem y189_29 : iv_f1 (iv_p 189) 29 = some (.inl (iv_oII fun x y => x + y)) := rfl
set_option maxRecDepth 100000 in
theorem y189_30 : iv_f1 (iv_p 189) 30 = some (.inl (iv_oA 0 1)) := rfl
set_option maxRecDepth 100000 in
theorem y189_31 : iv_f1 (iv_p 189) 31 = some (.inl (iv_oK (.int (Int32.ofNat 0)) 1)) := rfl
set_option maxRecDepth 100000 in
theorem y189_32 : iv_f1 (iv_p 189) 32 = some (.inl (iv_oI 2 1)) := rfl
set_option maxRecDepth 100000 in
theorem y189_33 : iv_f1 (iv_p 189) 33 = some (.inr (.inr (6, 175, 2, 12))) := rfl
set_option maxRecDepth 100000 in
theorem y189_36 : iv_f1 (iv_p 189) 36 = some (.inr (.inr (6, 185, 2, 12))) := rfl
set_option maxRecDepth 100000 in
theorem y189_39 : iv_f1 (iv_p 189) 39 = some (.inr (.inl 2)) := rfl
theorem ym_onc {L : Nat} {xs : Nat → Int32} {d : Nat} {T : Nat → Nat} {n m p : Nat} {s : yS} {V : Nat → Value} {σ : iv_H} {k hi : Nat} (hd : 3 ≤ d) (hk : k < 3) (hhi : hi ≤ 1000) (hn : n ≤ 940) (hm : m ≤ 940) (hT : ∀ i, T i ≤ 255) (hM : yMR T n m p s V σ) : ∃ r σ1 V1, iv_Rn L xs d 189 0 (lv_args 0 [.ref 548, .int (Int32.ofNat k), .int (Int32.ofNat hi)]) [] σ (some (.int (yb r))) σ1 ∧ yOM T n m (yOnc T n m k hi s p) r V1 σ1 ∧ yBx σ σ1 V V1 := by
  obtain ⟨d, rfl⟩ : ∃ e, d = e + 3 := ⟨d - 3, by omega⟩
  refine y_Rb ?_
  obtain ⟨g124, gt124, gr124, gn124, go124, ⟨v1_124, v3_124, v4_124, v15_124, v20_124, v23_124⟩, hp124, ty124, tk124⟩ := hM
  have t5_124 := yTk_5 tk124
  have t6_124 := yTk_6 tk124
  have t7_124 := yTk_7 tk124
  obtain ⟨⟨x12_124, v12_124⟩, ⟨x8_124, v8_124⟩, x9_124, v9_124⟩ := id ty124
  refine w_A y189_0 rfl ?_
  refine y_gf y189_1 g124 rfl v23_124.1 ?_
  refine w_I y189_4 rfl ?_
  refine y_zl y189_5 go124 (by omega) (by decide) ?_
  by_cases e125 : (s.2.2 k) = Int32.ofNat 0
  · skip
    refine w_ifT y189_6 rfl (decide_eq_true e125) ?_
    refine w_A y189_15 rfl ?_
    refine y_gf y189_16 g124 rfl v23_124.1 ?_
    refine w_I y189_19 rfl ?_
    refine w_K y189_20 ?_
    refine y_zst y189_21 go124 (by omega) (by decide) rfl ?_
    intro σ127 h126
    refine w_A y189_22 rfl ?_
    have g129 := (mD_n h126 (by decide) g124)
    have g130 := (mD_n h126 (by decide) gt124)
    obtain ⟨σ128, r128, V128, g128, a128, f128, ty128, tk128⟩ := ym_go (L := L) (xs := xs) (d := d + 2) (by omega) hn hm (yto_le hn hp124) hT g129 g130 v1_124 v3_124 v4_124 t5_124 ⟨⟨_, v12_124⟩, ⟨_, v8_124⟩, _, v9_124⟩
    refine y_call0 y189_23 (y_args6 g129 rfl rfl) rfl r128 ?_
    have z128_1 : V128 1 = _ := (a128 1 (by rfl)).trans v1_124
    have z128_3 : V128 3 = _ := (a128 3 (by rfl)).trans v3_124
    have z128_4 : V128 4 = _ := (a128 4 (by rfl)).trans v4_124
    have z128_15 : V128 15 = _ := (a128 15 (by rfl)).trans v15_124
    have z128_20 : V128 20 = _ := (a128 20 (by rfl)).trans v20_124
    have z128_23 : V128 23 = _ ∧ V128 10 = _ := ⟨(a128 23 (by rfl)).trans v23_124.1, (a128 10 (by rfl)).trans v23_124.2⟩
    obtain ⟨⟨xw128, yw128⟩, ⟨xn128, yn128⟩, xs128, ys128⟩ := id ty128
    have t5_128 := yTk_5 tk128
    have t6_128 := yTk_6 tk128
    have t7_128 := yTk_7 tk128
    refine w_A y189_26 rfl ?_
    refine w_K y189_27 ?_
    refine w_I y189_28 rfl ?_
    refine w_add y189_29 ?_
    refine w_A y189_30 rfl ?_
    refine w_K y189_31 ?_
    refine w_I y189_32 rfl ?_
    have g132 := (yF_n f128 (by rfl) g130)
    have g133 := (yF_n f128 (by rfl) (mD_n h126 (by decide) gr124))
    have g134 := (yF_n f128 (by rfl) (mD_n h126 (by decide) gn124))
    have g135 := (yF_n f128 (by rfl) h126.2.1)
    have hM131 : yMR T n m (yto T n m p) (s.1, s.2.1, upd s.2.2 k (Int32.ofNat 1)) _ σ128 := ⟨g128, g132, g133, g134, g135, ⟨z128_1, z128_3, z128_4, z128_15, z128_20, z128_23⟩, (yto_le hn hp124), ⟨⟨_, yw128⟩, ⟨_, yn128⟩, _, ys128⟩, tk128⟩
    obtain ⟨r136, σ136, V136, hr136, o136, b136⟩ := ym_num (L := L) (xs := xs) (d := d + 2) (a := 0) (b := hi) (by omega) (by omega) (by omega) hn hm hT hM131
    refine y_call y189_33 (y_args6 g128 rfl rfl) rfl hr136 ?_
    cases h136 : yNum T n m 0 hi (yto T n m p) with
    | inl e136 =>
      rw [h136] at o136
      obtain ⟨rfl, hb136⟩ := (show _ ∧ _ from o136)
      refine y_call y189_36 (y_args6 hb136.1 rfl rfl) rfl ym_putF ?_
      have sp : yOnc T n m k hi s p = .inl e136 := by unfold yOnc; rw [if_pos e125, yPut_l h136]
      exact y_ret y189_39 rfl ⟨false, _, rfl, yOM_bad sp hb136, ⟨(yF_tr (yF_D h126 (by rfl)) (yF_tr (yF_sub (by rfl) f128) (yF_sub (by rfl) b136.1))), (yA_tr (yA_sub (by rfl) a128) (yA_sub (by rfl) b136.2))⟩⟩
    | inr q136 =>
      rw [h136] at o136
      obtain ⟨rfl, ok136⟩ := (show _ ∧ _ from o136)
      obtain rfl := yNum_inr h136
      have hM_136 : yMR T n m (yto T n m (yto T n m p)) (s.1, s.2.1, upd s.2.2 k (Int32.ofNat 1)) V136 σ136 := ok136.1
      have vt136 : V136 13 = .int (Int32.ofNat (ynN T (ysk T n (yto T n m p)) (yln T n (yto T n m p)))) := ok136.2
      obtain ⟨g137, gt137, gr137, gn137, go137, ⟨v1_137, v3_137, v4_137, v15_137, v20_137, v23_137⟩, hp137, ty137, tk137⟩ := hM_136
      have t5_137 := yTk_5 tk137
      have t6_137 := yTk_6 tk137
      have t7_137 := yTk_7 tk137
      obtain ⟨⟨x12_137, v12_137⟩, ⟨x8_137, v8_137⟩, x9_137, v9_137⟩ := id ty137
      obtain ⟨σ138, hr138, m138⟩ := ym_putT (L := L) (xs := xs) (d := d + 2) (i := 2 + k) (by omega) g137 gr137 v15_137 vt136
      refine y_call y189_36 (y_args6 g137 rfl rfl) rfl hr138 ?_
      have sp : yOnc T n m k hi s p = .inr ((upd (s.1, s.2.1, upd s.2.2 k (Int32.ofNat 1)).1 (2 + k) (Int32.ofNat (ynN T (ysk T n (yto T n m p)) (yln T n (yto T n m p)))), (s.1, s.2.1, upd s.2.2 k (Int32.ofNat 1)).2), (yto T n m (yto T n m p))) := by unfold yOnc; rw [if_pos e125, yPut_r h136]
      have g139 := (mD_n m138 (by decide) g137)
      have g140 := (mD_n m138 (by decide) gt137)
      have g141 := (mD_n m138 (by decide) gn137)
      have g142 := (mD_n m138 (by decide) go137)
      exact y_ret y189_39 rfl ⟨true, _, rfl, yOM_good sp ⟨g139, g140, m138.2.1, g141, g142, ⟨v1_137, v3_137, v4_137, v15_137, v20_137, v23_137⟩, hp137, ⟨⟨_, v12_137⟩, ⟨_, v8_137⟩, _, v9_137⟩, tk137⟩, ⟨(yF_tr (yF_D h126 (by rfl)) (yF_tr (yF_sub (by rfl) f128) (yF_tr (yF_sub (by rfl) b136.1) (yF_D m138 (by rfl))))), (yA_tr (yA_sub (by rfl) a128) (yA_sub (by rfl) b136.2))⟩⟩
  · skip
    refine w_ifF y189_6 rfl (decide_eq_false e125) ?_
    refine w_A y189_9 rfl ?_
    refine w_K y189_10 ?_
    obtain ⟨σ143, r143, V143, g143, a143, f143, e10_143, e11_143⟩ := ym_bad (L := L) (xs := xs) (d := d + 2) (k := 3) ykd_le9 g124 t7_124 t6_124
    refine y_call y189_11 (y_args6 g124 rfl rfl) rfl r143 ?_
    have sp : yOnc T n m k hi s p = .inl (ybd T n m p 3) := by unfold yOnc; rw [if_neg e125]
    exact y_ret y189_14 rfl ⟨false, _, rfl, yOM_bad sp ⟨g143, e10_143, e11_143⟩, ⟨(yF_sub (by rfl) f143), (yA_sub (by rfl) a143)⟩⟩
set_option maxRecDepth 100000 in
theorem y188_0 : iv_f1 (iv_p 188) 0 = some (.inl (iv_oA 0 1)) := rfl
set_option maxRecDepth 100000 in
theorem y188_1 : iv_f1 (iv_p 188) 1 = some (.inr (.inr (6, 168, 0, 12))) := rfl
set_option maxRecDepth 100000 in
theorem y188_4 : iv_f1 (iv_p 188) 4 = some (.inl (iv_oA 0 1)) := rfl
set_option maxRecDepth 100000 in
theorem y188_5 : iv_f1 (iv_p 188) 5 = some (.inl (iv_oK (.int (Int32.ofNat 0)) 1)) := rfl
set_option maxRecDepth 100000 in
theorem y188_6 : iv_f1 (iv_p 188) 6 = some (.inl (iv_oA 0 1)) := rfl
set_option maxRecDepth 100000 in
theorem y188_7 : iv_f1 (iv_p 188) 7 = some (.inl (iv_oGF 12 15)) := rfl
set_option maxRecDepth 100000 in
theorem y188_10 : iv_f1 (iv_p 188) 10 = some (.inl (iv_oK (.int (Int32.ofNat 0)) 1)) := rfl
set_option maxRecDepth 100000 in
theorem y188_11 : iv_f1 (iv_p 188) 11 = some (.inl iv_oIl) := rfl
set_option maxRecDepth 100000 in
theorem y188_12 : iv_f1 (iv_p 188) 12 = some (.inr (.inr (6, 183, 2, 12))) := rfl
set_option maxRecDepth 100000 in
theorem y188_15 : iv_f1 (iv_p 188) 15 = some (.inl (iv_oIf .ne (5))) := rfl
set_option maxRecDepth 100000 in
theorem y188_18 : iv_f1 (iv_p 188) 18 = some (.inl (iv_oK (.int (Int32.ofNat 0)) 1)) := rfl
set_option maxRecDepth 100000 in
theorem y188_19 : iv_f1 (iv_p 188) 19 = some (.inr (.inl 2)) := rfl
set_option maxRecDepth 100000 in
theorem y188_20 : iv_f1 (iv_p 188) 20 = some (.inl (iv_oA 0 1)) := rfl
set_option maxRecDepth 100000 in
theorem y188_21 : iv_f1 (iv_p 188) 21 = some (.inl (iv_oGF 12 13)) := rfl
set_option maxRecDepth 100000 in
theorem y188_24 : iv_f1 (iv_p 188) 24 = some (.inl (iv_oIS 1 1)) := rfl
set_option maxRecDepth 100000 in
theorem y188_25 : iv_f1 (iv_p 188) 25 = some (.inl (iv_oA 0 1)) := rfl
set_option maxRecDepth 100000 in
theorem y188_26 : iv_f1 (iv_p 188) 26 = some (.inl (iv_oGF 12 15)) := rfl
set_option maxRecDepth 100000 in
theorem y188_29 : iv_f1 (iv_p 188) 29 = some (.inl (iv_oK (.int (Int32.ofNat 19)) 2)) := rfl
set_option maxRecDepth 100000 in
theorem y188_31 : iv_f1 (iv_p 188) 31 = some (.inl (iv_oI 1 1)) := rfl
set_option maxRecDepth 100000 in
theorem y188_32 : iv_f1 (iv_p 188) 32 = some (.inl (iv_oII fun x y => x + y)) := rfl
set_option maxRecDepth 100000 in
theorem y188_33 : iv_f1 (iv_p 188) 33 = some (.inl iv_oIl) := rfl
set_option maxRecDepth 100000 in
theorem y188_34 : iv_f1 (iv_p 188) 34 = some (.inl (iv_oK (.int (Int32.ofInt (-1))) 1)) := rfl
set_option maxRecDepth 100000 in
theorem y188_35 : iv_f1 (iv_p 188) 35 = some (.inl (iv_oIc .eq (9))) := rfl
set_option maxRecDepth 100000 in
theorem y188_38 : iv_f1 (iv_p 188) 38 = some (.inl (iv_oA 0 1)) := rfl
set_option maxRecDepth 100000 in
theorem y188_39 : iv_f1 (iv_p 188) 39 = some (.inl (iv_oK (.int (Int32.ofNat 3)) 1)) := rfl
set_option maxRecDepth 100000 in
theorem y188_40 : iv_f1 (iv_p 188) 40 = some (.inr (.inr (6, 174, 1, 12))) := rfl
set_option maxRecDepth 100000 in
theorem y188_43 : iv_f1 (iv_p 188) 43 = some (.inr (.inl 2)) := rfl
set_option maxRecDepth 100000 in
theorem y188_44 : iv_f1 (iv_p 188) 44 = some (.inl (iv_oA 0 1)) := rfl
set_option maxRecDepth 100000 in
theorem y188_45 : iv_f1 (iv_p 188) 45 = some (.inr (.inr (6, 168, 0, 12))) := rfl
set_option maxRecDepth 100000 in
theorem y188_48 : iv_f1 (iv_p 188) 48 = some (.inl (iv_oA 0 1)) := rfl
set_option maxRecDepth 100000 in
theorem y188_49 : iv_f1 (iv_p 188) 49 = some (.inl (iv_oK (.int (Int32.ofNat 7)) 2)) := rfl
set_option maxRecDepth 100000 in
theorem y188_51 : iv_f1 (iv_p 188) 51 = some (.inl (iv_oA 0 1)) := rfl
set_option maxRecDepth 100000 in
theorem y188_52 : iv_f1 (iv_p 188) 52 = some (.inl (iv_oGF 12 15)) := rfl
set_option maxRecDepth 100000 in
theorem y188_55 : iv_f1 (iv_p 188) 55 = some (.inl (iv_oK (.int (Int32.ofNat 1)) 1)) := rfl
set_option maxRecDepth 100000 in
theorem y188_56 : iv_f1 (iv_p 188) 56 = some (.inl iv_oIl) := rfl
set_option maxRecDepth 100000 in
theorem y188_57 : iv_f1 (iv_p 188) 57 = some (.inr (.inr (6, 183, 2, 12))) := rfl
set_option maxRecDepth 100000 in
theorem y188_60 : iv_f1 (iv_p 188) 60 = some (.inl (iv_oIf .ne (5))) := rfl
set_option maxRecDepth 100000 in
theorem y188_63 : iv_f1 (iv_p 188) 63 = some (.inl (iv_oK (.int (Int32.ofNat 0)) 1)) := rfl
set_option maxRecDepth 100000 in
theorem y188_64 : iv_f1 (iv_p 188) 64 = some (.inr (.inl 2)) := rfl
set_option maxRecDepth 100000 in
theorem y188_65 : iv_f1 (iv_p 188) 65 = some (.inl (iv_oK (.int (Int32.ofNat 0)) 1)) := rfl
set_option maxRecDepth 100000 in
theorem y188_66 : iv_f1 (iv_p 188) 66 = some (.inl (iv_oIS 2 1)) := rfl
set_option maxRecDepth 100000 in
theorem y188_67 : iv_f1 (iv_p 188) 67 = some (.inl (iv_oI 2 1)) := rfl
set_option maxRecDepth 100000 in
theorem y188_68 : iv_f1 (iv_p 188) 68 = some (.inl (iv_oA 0 1)) := rfl
set_option maxRecDepth 100000 in
theorem y188_69 : iv_f1 (iv_p 188) 69 = some (.inl (iv_oGF 12 15)) := rfl
set_option maxRecDepth 100000 in
theorem y188_72 : iv_f1 (iv_p 188) 72 = some (.inl (iv_oK (.int (Int32.ofNat 0)) 1)) := rfl
set_option maxRecDepth 100000 in
theorem y188_73 : iv_f1 (iv_p 188) 73 = some (.inl iv_oIl) := rfl
set_option maxRecDepth 100000 in
theorem y188_74 : iv_f1 (iv_p 188) 74 = some (.inl (iv_oIc .ge (31))) := rfl
set_option maxRecDepth 100000 in
theorem y188_77 : iv_f1 (iv_p 188) 77 = some (.inl (iv_oA 0 1)) := rfl
set_option maxRecDepth 100000 in
theorem y188_78 : iv_f1 (iv_p 188) 78 = some (.inl (iv_oGF 12 15)) := rfl
set_option maxRecDepth 100000 in
theorem y188_81 : iv_f1 (iv_p 188) 81 = some (.inl (iv_oK (.int (Int32.ofNat 19)) 2)) := rfl
set_option maxRecDepth 100000 in
theorem y188_83 : iv_f1 (iv_p 188) 83 = some (.inl (iv_oI 2 1)) := rfl
set_option maxRecDepth 100000 in
theorem y188_84 : iv_f1 (iv_p 188) 84 = some (.inl (iv_oII fun x y => x + y)) := rfl
set_option maxRecDepth 100000 in
theorem y188_85 : iv_f1 (iv_p 188) 85 = some (.inl iv_oIl) := rfl
set_option maxRecDepth 100000 in
theorem y188_86 : iv_f1 (iv_p 188) 86 = some (.inl (iv_oA 0 1)) := rfl
set_option maxRecDepth 100000 in
theorem y188_87 : iv_f1 (iv_p 188) 87 = some (.inl (iv_oGF 12 13)) := rfl
set_option maxRecDepth 100000 in
theorem y188_90 : iv_f1 (iv_p 188) 90 = some (.inl (iv_oIc .ne (9))) := rfl
set_option maxRecDepth 100000 in
theorem y188_93 : iv_f1 (iv_p 188) 93 = some (.inl (iv_oA 0 1)) := rfl
set_option maxRecDepth 100000 in
theorem y188_94 : iv_f1 (iv_p 188) 94 = some (.inl (iv_oK (.int (Int32.ofNat 3)) 1)) := rfl
set_option maxRecDepth 100000 in
theorem y188_95 : iv_f1 (iv_p 188) 95 = some (.inr (.inr (6, 174, 1, 12))) := rfl
set_option maxRecDepth 100000 in
theorem y188_98 : iv_f1 (iv_p 188) 98 = some (.inr (.inl 2)) := rfl
set_option maxRecDepth 100000 in
theorem y188_99 : iv_f1 (iv_p 188) 99 = some (.inl (iv_oInc 2 (1))) := rfl
set_option maxRecDepth 100000 in
theorem y188_102 : iv_f1 (iv_p 188) 102 = some (.inl (iv_oGo (-35))) := rfl
set_option maxRecDepth 100000 in
theorem y188_105 : iv_f1 (iv_p 188) 105 = some (.inl (iv_oA 0 1)) := rfl
set_option maxRecDepth 100000 in
theorem y188_106 : iv_f1 (iv_p 188) 106 = some (.inl (iv_oGF 12 15)) := rfl
set_option maxRecDepth 100000 in
theorem y188_109 : iv_f1 (iv_p 188) 109 = some (.inl (iv_oK (.int (Int32.ofNat 19)) 2)) := rfl
set_option maxRecDepth 100000 in
theorem y188_111 : iv_f1 (iv_p 188) 111 = some (.inl (iv_oI 1 1)) := rfl
set_option maxRecDepth 100000 in
theorem y188_112 : iv_f1 (iv_p 188) 112 = some (.inl (iv_oII fun x y => x + y)) := rfl
set_option maxRecDepth 100000 in
theorem y188_113 : iv_f1 (iv_p 188) 113 = some (.inl (iv_oA 0 1)) := rfl
set_option maxRecDepth 100000 in
theorem y188_114 : iv_f1 (iv_p 188) 114 = some (.inl (iv_oGF 12 13)) := rfl
set_option maxRecDepth 100000 in
theorem y188_117 : iv_f1 (iv_p 188) 117 = some (.inl iv_oIst) := rfl
set_option maxRecDepth 100000 in
theorem y188_118 : iv_f1 (iv_p 188) 118 = some (.inl (iv_oA 0 1)) := rfl
set_option maxRecDepth 100000 in
theorem y188_119 : iv_f1 (iv_p 188) 119 = some (.inr (.inr (6, 168, 0, 12))) := rfl
set_option maxRecDepth 100000 in
theorem y188_122 : iv_f1 (iv_p 188) 122 = some (.inl (iv_oK (.int (Int32.ofNat 1)) 1)) := rfl
set_option maxRecDepth 100000 in
theorem y188_123 : iv_f1 (iv_p 188) 123 = some (.inr (.inl 2)) := rfl
theorem ym_hl1 {L : Nat} {xs : Nat → Int32} {d : Nat} {T : Nat → Nat} {n m p : Nat} {s : yS} {V : Nat → Value} {σ : iv_H} {Post : Option Value → iv_H → Prop} {gg : Nat} (hn : n ≤ 940) (hm : m ≤ 940) (hT : ∀ i, T i ≤ 255) (hM : yMR T n m p s V σ) {nb ng : Nat} (hb : s.1 0 = Int32.ofNat nb) (hg : s.1 1 = Int32.ofNat ng) (hb7 : nb ≤ 7) (hg6 : ng ≤ 6) (v13 : V 13 = .int (Int32.ofNat gg)) (hgg : gg ≤ 10) (KB : ∀ σ1 V1, yBad (ybd T n m p 3) V1 σ1 → yBx σ σ1 V V1 → yHeld s.1 gg nb 0 = true → Post (some (.int (Int32.ofNat 0))) σ1) : ∀ (j k : Nat) (lv : iv_L), k + j = nb → yHeld s.1 gg nb 0 = yHeld s.1 gg j k → iv_f1 lv 0 = some (.ref 548) → iv_f1 lv 2 = some (.int (Int32.ofNat k)) → (∀ lv1, iv_f1 lv1 0 = some (.ref 548) → (∀ v, iv_f1 lv 1 = some (.int v) → iv_f1 lv1 1 = some (.int v)) → yHeld s.1 gg nb 0 = false → zGo L xs Post [] (d + 1) 188 105 lv1 [] σ) → zGo L xs Post [] (d + 1) 188 67 lv [] σ := by
  intro j
  induction j with
  | zero =>
    intro k lv hj he l0 l2 K
    obtain ⟨g144, gt144, gr144, gn144, go144, ⟨v1_144, v3_144, v4_144, v15_144, v20_144, v23_144⟩, hp144, ty144, tk144⟩ := hM
    have t5_144 := yTk_5 tk144
    have t6_144 := yTk_6 tk144
    have t7_144 := yTk_7 tk144
    obtain ⟨⟨x12_144, v12_144⟩, ⟨x8_144, v8_144⟩, x9_144, v9_144⟩ := id ty144
    refine w_I y188_67 l2 ?_
    refine w_A y188_68 l0 ?_
    refine y_gf y188_69 g144 rfl v15_144 ?_
    refine w_K y188_72 ?_
    refine y_ilE y188_73 gr144 rfl rfl (by omega) (by decide) hb ?_
    refine y_icT y188_74 rfl (by omega) (by omega) (by simp only [zch]; omega) ?_
    exact K lv l0 (fun v h => h) he
  | succ j ih =>
    intro k lv hj he l0 l2 K
    obtain ⟨g145, gt145, gr145, gn145, go145, ⟨v1_145, v3_145, v4_145, v15_145, v20_145, v23_145⟩, hp145, ty145, tk145⟩ := hM
    have t5_145 := yTk_5 tk145
    have t6_145 := yTk_6 tk145
    have t7_145 := yTk_7 tk145
    obtain ⟨⟨x12_145, v12_145⟩, ⟨x8_145, v8_145⟩, x9_145, v9_145⟩ := id ty145
    refine w_I y188_67 l2 ?_
    refine w_A y188_68 l0 ?_
    refine y_gf y188_69 g145 rfl v15_145 ?_
    refine w_K y188_72 ?_
    refine y_ilE y188_73 gr145 rfl rfl (by omega) (by decide) hb ?_
    refine y_icF y188_74 rfl (by omega) (by omega) (by simp only [zch]; omega) ?_
    refine w_A y188_77 l0 ?_
    refine y_gf y188_78 g145 rfl v15_145 ?_
    refine w_K y188_81 ?_
    refine w_I y188_83 l2 ?_
    refine w_add y188_84 ?_
    refine y_il y188_85 gr145 rfl rfl (by omega) (by decide) ?_
    refine w_A y188_86 l0 ?_
    refine y_gf y188_87 g145 rfl v13 ?_
    by_cases e146 : (s.1 (19 + k)) = Int32.ofNat gg
    · skip
      refine w_icF y188_90 rfl (decide_eq_false (fun h => h e146)) ?_
      refine w_A y188_93 l0 ?_
      refine w_K y188_94 ?_
      obtain ⟨σ147, r147, V147, g147, a147, f147, e10_147, e11_147⟩ := ym_bad (L := L) (xs := xs) (d := d) (k := 3) ykd_le9 g145 t7_145 t6_145
      refine y_call y188_95 (y_args6 g145 rfl rfl) rfl r147 ?_
      exact y_ret y188_98 rfl (KB _ _ ⟨g147, e10_147, e11_147⟩ ⟨(yF_sub (by rfl) f147), (yA_sub (by rfl) a147)⟩ (he.trans (if_pos e146)))
    · skip
      refine w_icT y188_90 rfl (decide_eq_true e146) ?_
      refine w_inc y188_99 (x := k) l2 ?_
      refine w_go y188_102 rfl ?_
      exact ih (k + 1) _ (by omega) (he.trans (if_neg e146)) (y_l1 rfl rfl l0) y_l0 (fun lv1 q0 q1 q2 => K lv1 q0 (fun v h => q1 v (y_l1 rfl rfl h)) q2)
theorem ym_hol {L : Nat} {xs : Nat → Int32} {d : Nat} {T : Nat → Nat} {n m p : Nat} {s : yS} {V : Nat → Value} {σ : iv_H} (hd : 4 ≤ d) (hn : n ≤ 940) (hm : m ≤ 940) (hT : ∀ i, T i ≤ 255) (hM : yMR T n m p s V σ) {nb ng : Nat} (hb : s.1 0 = Int32.ofNat nb) (hg : s.1 1 = Int32.ofNat ng) (hb7 : nb ≤ 7) (hg6 : ng ≤ 6) : ∃ r σ1 V1, iv_Rn L xs d 188 0 (lv_args 0 [.ref 548]) [] σ (some (.int (yb r))) σ1 ∧ yOM T n m (yHol T n m nb ng s p) r V1 σ1 ∧ yBx σ σ1 V V1 := by
  obtain ⟨d, rfl⟩ : ∃ e, d = e + 4 := ⟨d - 4, by omega⟩
  refine y_Rb ?_
  obtain ⟨g148, gt148, gr148, gn148, go148, ⟨v1_148, v3_148, v4_148, v15_148, v20_148, v23_148⟩, hp148, ty148, tk148⟩ := hM
  have t5_148 := yTk_5 tk148
  have t6_148 := yTk_6 tk148
  have t7_148 := yTk_7 tk148
  obtain ⟨⟨x12_148, v12_148⟩, ⟨x8_148, v8_148⟩, x9_148, v9_148⟩ := id ty148
  refine w_A y188_0 rfl ?_
  obtain ⟨σ149, r149, V149, g149, a149, f149, ty149, tk149⟩ := ym_go (L := L) (xs := xs) (d := d + 3) (by omega) hn hm (yto_le hn hp148) hT g148 gt148 v1_148 v3_148 v4_148 t5_148 ⟨⟨_, v12_148⟩, ⟨_, v8_148⟩, _, v9_148⟩
  refine y_call0 y188_1 (y_args6 g148 rfl rfl) rfl r149 ?_
  have z149_1 : V149 1 = _ := (a149 1 (by rfl)).trans v1_148
  have z149_3 : V149 3 = _ := (a149 3 (by rfl)).trans v3_148
  have z149_4 : V149 4 = _ := (a149 4 (by rfl)).trans v4_148
  have z149_15 : V149 15 = _ := (a149 15 (by rfl)).trans v15_148
  have z149_20 : V149 20 = _ := (a149 20 (by rfl)).trans v20_148
  have z149_23 : V149 23 = _ ∧ V149 10 = _ := ⟨(a149 23 (by rfl)).trans v23_148.1, (a149 10 (by rfl)).trans v23_148.2⟩
  obtain ⟨⟨xw149, yw149⟩, ⟨xn149, yn149⟩, xs149, ys149⟩ := id ty149
  have t5_149 := yTk_5 tk149
  have t6_149 := yTk_6 tk149
  have t7_149 := yTk_7 tk149
  refine w_A y188_4 rfl ?_
  refine w_K y188_5 ?_
  refine w_A y188_6 rfl ?_
  refine y_gf y188_7 g149 rfl z149_15 ?_
  refine w_K y188_10 ?_
  have g150 := (yF_n f149 (by rfl) gr148)
  refine y_ilE y188_11 g150 rfl rfl (by omega) (by decide) hb ?_
  have g152 := (yF_n f149 (by rfl) gt148)
  have g153 := (yF_n f149 (by rfl) gn148)
  have g154 := (yF_n f149 (by rfl) go148)
  have hM151 : yMR T n m (yto T n m p) s _ σ149 := ⟨g149, g152, g150, g153, g154, ⟨z149_1, z149_3, z149_4, z149_15, z149_20, z149_23⟩, (yto_le hn hp148), ⟨⟨_, yw149⟩, ⟨_, yn149⟩, _, ys149⟩, tk149⟩
  obtain ⟨r155, σ155, V155, hr155, o155, b155⟩ := ym_one (L := L) (xs := xs) (d := d + 3) (base := 0) (many := nb) (by omega) (by omega) hn hm hT hM151
  refine y_call y188_12 (y_args6 g149 rfl rfl) rfl hr155 ?_
  cases h155 : yOne T n m 0 nb s (yto T n m p) with
  | inl e155 =>
    rw [h155] at o155
    obtain ⟨rfl, hb155⟩ := (show _ ∧ _ from o155)
    refine w_ifF y188_15 rfl (y_bneF rfl) ?_
    refine w_K y188_18 ?_
    have sp : yHol T n m nb ng s p = .inl e155 := by unfold yHol; rw [h155, yThen_l]
    exact y_ret y188_19 rfl ⟨false, _, rfl, yOM_bad sp hb155, ⟨(yF_tr (yF_sub (by rfl) f149) (yF_sub (by rfl) b155.1)), (yA_tr (yA_sub (by rfl) a149) (yA_sub (by rfl) b155.2))⟩⟩
  | inr q155 =>
    rw [h155] at o155
    obtain ⟨rfl, ok155⟩ := (show _ ∧ _ from o155)
    have lt155 := yOne_inr h155
    have hM_155 : yMR T n m (yto T n m p) s V155 σ155 := ok155.1
    have vt155 : V155 13 = .int (Int32.ofNat q155) := ok155.2
    obtain ⟨g156, gt156, gr156, gn156, go156, ⟨v1_156, v3_156, v4_156, v15_156, v20_156, v23_156⟩, hp156, ty156, tk156⟩ := hM_155
    have t5_156 := yTk_5 tk156
    have t6_156 := yTk_6 tk156
    have t7_156 := yTk_7 tk156
    obtain ⟨⟨x12_156, v12_156⟩, ⟨x8_156, v8_156⟩, x9_156, v9_156⟩ := id ty156
    refine w_ifT y188_15 rfl (y_bneT rfl) ?_
    refine w_A y188_20 rfl ?_
    refine y_gf y188_21 g156 rfl vt155 ?_
    refine w_IS y188_24 ?_
    refine w_A y188_25 rfl ?_
    refine y_gf y188_26 g156 rfl v15_156 ?_
    refine w_K y188_29 ?_
    refine w_I y188_31 rfl ?_
    refine w_add y188_32 ?_
    refine y_il y188_33 gr156 rfl rfl (by omega) (by decide) ?_
    refine w_K y188_34 ?_
    by_cases e157 : (s.1 (19 + q155)) = Int32.ofInt (-1)
    · skip
      refine w_icT y188_35 rfl (decide_eq_true e157) ?_
      refine w_A y188_44 rfl ?_
      obtain ⟨σ158, r158, V158, g158, a158, f158, ty158, tk158⟩ := ym_go (L := L) (xs := xs) (d := d + 3) (by omega) hn hm (yto_le hn hp156) hT g156 gt156 v1_156 v3_156 v4_156 t5_156 ⟨⟨_, v12_156⟩, ⟨_, v8_156⟩, _, v9_156⟩
      refine y_call0 y188_45 (y_args6 g156 rfl rfl) rfl r158 ?_
      have z158_1 : V158 1 = _ := (a158 1 (by rfl)).trans v1_156
      have z158_3 : V158 3 = _ := (a158 3 (by rfl)).trans v3_156
      have z158_4 : V158 4 = _ := (a158 4 (by rfl)).trans v4_156
      have z158_15 : V158 15 = _ := (a158 15 (by rfl)).trans v15_156
      have z158_20 : V158 20 = _ := (a158 20 (by rfl)).trans v20_156
      have z158_23 : V158 23 = _ ∧ V158 10 = _ := ⟨(a158 23 (by rfl)).trans v23_156.1, (a158 10 (by rfl)).trans v23_156.2⟩
      have z158_13 : V158 13 = _ := (a158 13 (by rfl)).trans vt155
      obtain ⟨⟨xw158, yw158⟩, ⟨xn158, yn158⟩, xs158, ys158⟩ := id ty158
      have t5_158 := yTk_5 tk158
      have t6_158 := yTk_6 tk158
      have t7_158 := yTk_7 tk158
      refine w_A y188_48 rfl ?_
      refine w_K y188_49 ?_
      refine w_A y188_51 rfl ?_
      refine y_gf y188_52 g158 rfl z158_15 ?_
      refine w_K y188_55 ?_
      have g159 := (yF_n f158 (by rfl) gr156)
      refine y_ilE y188_56 g159 rfl rfl (by omega) (by decide) hg ?_
      have g161 := (yF_n f158 (by rfl) gt156)
      have g162 := (yF_n f158 (by rfl) gn156)
      have g163 := (yF_n f158 (by rfl) go156)
      have hM160 : yMR T n m (yto T n m (yto T n m p)) s _ σ158 := ⟨g158, g161, g159, g162, g163, ⟨z158_1, z158_3, z158_4, z158_15, z158_20, z158_23⟩, (yto_le hn hp156), ⟨⟨_, yw158⟩, ⟨_, yn158⟩, _, ys158⟩, tk158⟩
      obtain ⟨r164, σ164, V164, hr164, o164, b164⟩ := ym_one (L := L) (xs := xs) (d := d + 3) (base := 7) (many := ng) (by omega) (by omega) hn hm hT hM160
      refine y_call y188_57 (y_args6 g158 rfl rfl) rfl hr164 ?_
      cases h164 : yOne T n m 7 ng s (yto T n m (yto T n m p)) with
      | inl e164 =>
        rw [h164] at o164
        obtain ⟨rfl, hb164⟩ := (show _ ∧ _ from o164)
        refine w_ifF y188_60 rfl (y_bneF rfl) ?_
        refine w_K y188_63 ?_
        have sp : yHol T n m nb ng s p = .inl e164 := by unfold yHol; rw [h155, yThen_r, if_pos e157, h164, yThen_l]
        exact y_ret y188_64 rfl ⟨false, _, rfl, yOM_bad sp hb164, ⟨(yF_tr (yF_sub (by rfl) f149) (yF_tr (yF_sub (by rfl) b155.1) (yF_tr (yF_sub (by rfl) f158) (yF_sub (by rfl) b164.1)))), (yA_tr (yA_sub (by rfl) a149) (yA_tr (yA_sub (by rfl) b155.2) (yA_tr (yA_sub (by rfl) a158) (yA_sub (by rfl) b164.2))))⟩⟩
      | inr q164 =>
        rw [h164] at o164
        obtain ⟨rfl, ok164⟩ := (show _ ∧ _ from o164)
        have lt164 := yOne_inr h164
        have hM_164 : yMR T n m (yto T n m (yto T n m p)) s V164 σ164 := ok164.1
        have vt164 : V164 13 = .int (Int32.ofNat q164) := ok164.2
        obtain ⟨g165, gt165, gr165, gn165, go165, ⟨v1_165, v3_165, v4_165, v15_165, v20_165, v23_165⟩, hp165, ty165, tk165⟩ := hM_164
        have t5_165 := yTk_5 tk165
        have t6_165 := yTk_6 tk165
        have t7_165 := yTk_7 tk165
        obtain ⟨⟨x12_165, v12_165⟩, ⟨x8_165, v8_165⟩, x9_165, v9_165⟩ := id ty165
        refine w_ifT y188_60 rfl (y_bneT rfl) ?_
        refine w_K y188_65 ?_
        refine w_IS y188_66 ?_
        have hM166 : yMR T n m (yto T n m (yto T n m p)) s _ σ164 := ⟨g165, gt165, gr165, gn165, go165, ⟨v1_165, v3_165, v4_165, v15_165, v20_165, v23_165⟩, hp165, ⟨⟨_, v12_165⟩, ⟨_, v8_165⟩, _, v9_165⟩, tk165⟩
        refine ym_hl1 hn hm hT hM166 hb hg hb7 hg6 vt164 (by omega) ?_ nb 0 _ (by omega) rfl rfl rfl ?_
        · intro σ1 V1 hbad hbx hh
          have sp : yHol T n m nb ng s p = .inl (ybd T n m (yto T n m (yto T n m p)) 3) := by unfold yHol; rw [h155, yThen_r, if_pos e157, h164, yThen_r, if_pos hh]
          exact ⟨false, _, rfl, yOM_bad sp hbad, yB_tr ⟨(yF_tr (yF_sub (by rfl) f149) (yF_tr (yF_sub (by rfl) b155.1) (yF_tr (yF_sub (by rfl) f158) (yF_sub (by rfl) b164.1)))), (yA_tr (yA_sub (by rfl) a149) (yA_tr (yA_sub (by rfl) b155.2) (yA_tr (yA_sub (by rfl) a158) (yA_sub (by rfl) b164.2))))⟩ hbx⟩
        · intro lv1 m0 m1 hhf
          have m1b := m1 _ rfl
          refine w_A y188_105 m0 ?_
          refine y_gf y188_106 g165 rfl v15_165 ?_
          refine w_K y188_109 ?_
          refine w_I y188_111 m1b ?_
          refine w_add y188_112 ?_
          refine w_A y188_113 m0 ?_
          refine y_gf y188_114 g165 rfl vt164 ?_
          refine y_ist y188_117 gr165 (by omega) (by decide) ?_
          intro σ168 h167
          refine w_A y188_118 m0 ?_
          have g170 := (mD_n h167 (by decide) g165)
          have g171 := (mD_n h167 (by decide) gt165)
          obtain ⟨σ169, r169, V169, g169, a169, f169, ty169, tk169⟩ := ym_go (L := L) (xs := xs) (d := d + 3) (by omega) hn hm (yto_le hn hp165) hT g170 g171 v1_165 v3_165 v4_165 t5_165 ⟨⟨_, v12_165⟩, ⟨_, v8_165⟩, _, v9_165⟩
          refine y_call0 y188_119 (y_args6 g170 rfl rfl) rfl r169 ?_
          have z169_1 : V169 1 = _ := (a169 1 (by rfl)).trans v1_165
          have z169_3 : V169 3 = _ := (a169 3 (by rfl)).trans v3_165
          have z169_4 : V169 4 = _ := (a169 4 (by rfl)).trans v4_165
          have z169_15 : V169 15 = _ := (a169 15 (by rfl)).trans v15_165
          have z169_20 : V169 20 = _ := (a169 20 (by rfl)).trans v20_165
          have z169_23 : V169 23 = _ ∧ V169 10 = _ := ⟨(a169 23 (by rfl)).trans v23_165.1, (a169 10 (by rfl)).trans v23_165.2⟩
          have z169_13 : V169 13 = _ := (a169 13 (by rfl)).trans vt164
          obtain ⟨⟨xw169, yw169⟩, ⟨xn169, yn169⟩, xs169, ys169⟩ := id ty169
          have t5_169 := yTk_5 tk169
          have t6_169 := yTk_6 tk169
          have t7_169 := yTk_7 tk169
          refine w_K y188_122 ?_
          have sp : yHol T n m nb ng s p = .inr ((upd s.1 (19 + q155) (Int32.ofNat q164), s.2), (yto T n m (yto T n m (yto T n m p)))) := by unfold yHol; rw [h155, yThen_r, if_pos e157, h164, yThen_r, if_neg (by rw [hhf]; decide)]
          have g172 := (yF_n f169 (by rfl) g171)
          have g173 := (yF_n f169 (by rfl) h167.2.1)
          have g174 := (yF_n f169 (by rfl) (mD_n h167 (by decide) gn165))
          have g175 := (yF_n f169 (by rfl) (mD_n h167 (by decide) go165))
          exact y_ret y188_123 rfl ⟨true, _, rfl, yOM_good sp ⟨g169, g172, g173, g174, g175, ⟨z169_1, z169_3, z169_4, z169_15, z169_20, z169_23⟩, (yto_le hn hp165), ⟨⟨_, yw169⟩, ⟨_, yn169⟩, _, ys169⟩, tk169⟩, ⟨(yF_tr (yF_sub (by rfl) f149) (yF_tr (yF_sub (by rfl) b155.1) (yF_tr (yF_sub (by rfl) f158) (yF_tr (yF_sub (by rfl) b164.1) (yF_tr (yF_D h167 (by rfl)) (yF_sub (by rfl) f169)))))), (yA_tr (yA_sub (by rfl) a149) (yA_tr (yA_sub (by rfl) b155.2) (yA_tr (yA_sub (by rfl) a158) (yA_tr (yA_sub (by rfl) b164.2) (yA_sub (by rfl) a169)))))⟩⟩
    · skip
      refine w_icF y188_35 rfl (decide_eq_false e157) ?_
      refine w_A y188_38 rfl ?_
      refine w_K y188_39 ?_
      obtain ⟨σ176, r176, V176, g176, a176, f176, e10_176, e11_176⟩ := ym_bad (L := L) (xs := xs) (d := d + 3) (k := 3) ykd_le9 g156 t7_156 t6_156
      refine y_call y188_40 (y_args6 g156 rfl rfl) rfl r176 ?_
      have sp : yHol T n m nb ng s p = .inl (ybd T n m (yto T n m p) 3) := by unfold yHol; rw [h155, yThen_r, if_neg e157]
      exact y_ret y188_43 rfl ⟨false, _, rfl, yOM_bad sp ⟨g176, e10_176, e11_176⟩, ⟨(yF_tr (yF_sub (by rfl) f149) (yF_tr (yF_sub (by rfl) b155.1) (yF_sub (by rfl) f176))), (yA_tr (yA_sub (by rfl) a149) (yA_tr (yA_sub (by rfl) b155.2) (yA_sub (by rfl) a176)))⟩⟩
set_option maxRecDepth 100000 in
theorem y190_0 : iv_f1 (iv_p 190) 0 = some (.inl (iv_oA 0 1)) := rfl
set_option maxRecDepth 100000 in
theorem y190_1 : iv_f1 (iv_p 190) 1 = some (.inl (iv_oK (.int (Int32.ofNat 0)) 1)) := rfl
set_option maxRecDepth 100000 in
theorem y190_2 : iv_f1 (iv_p 190) 2 = some (.inr (.inr (6, 171, 1, 12))) := rfl
set_option maxRecDepth 100000 in
theorem y190_5 : iv_f1 (iv_p 190) 5 = some (.inl (iv_oIf .eq (8))) := rfl
set_option maxRecDepth 100000 in
theorem y190_8 : iv_f1 (iv_p 190) 8 = some (.inl (iv_oA 0 1)) := rfl
set_option maxRecDepth 100000 in
theorem y190_9 : iv_f1 (iv_p 190) 9 = some (.inr (.inr (6, 186, 0, 12))) := rfl
set_option maxRecDepth 100000 in
theorem y190_12 : iv_f1 (iv_p 190) 12 = some (.inr (.inl 2)) := rfl
set_option maxRecDepth 100000 in
theorem y190_13 : iv_f1 (iv_p 190) 13 = some (.inl (iv_oA 0 1)) := rfl
set_option maxRecDepth 100000 in
theorem y190_14 : iv_f1 (iv_p 190) 14 = some (.inl (iv_oK (.int (Int32.ofNat 1)) 1)) := rfl
set_option maxRecDepth 100000 in
theorem y190_15 : iv_f1 (iv_p 190) 15 = some (.inr (.inr (6, 171, 1, 12))) := rfl
set_option maxRecDepth 100000 in
theorem y190_18 : iv_f1 (iv_p 190) 18 = some (.inl (iv_oIf .eq (8))) := rfl
set_option maxRecDepth 100000 in
theorem y190_21 : iv_f1 (iv_p 190) 21 = some (.inl (iv_oA 0 1)) := rfl
set_option maxRecDepth 100000 in
theorem y190_22 : iv_f1 (iv_p 190) 22 = some (.inr (.inr (6, 187, 0, 12))) := rfl
set_option maxRecDepth 100000 in
theorem y190_25 : iv_f1 (iv_p 190) 25 = some (.inr (.inl 2)) := rfl
set_option maxRecDepth 100000 in
theorem y190_26 : iv_f1 (iv_p 190) 26 = some (.inl (iv_oA 0 1)) := rfl
set_option maxRecDepth 100000 in
theorem y190_27 : iv_f1 (iv_p 190) 27 = some (.inl (iv_oK (.int (Int32.ofNat 2)) 1)) := rfl
set_option maxRecDepth 100000 in
theorem y190_28 : iv_f1 (iv_p 190) 28 = some (.inr (.inr (6, 171, 1, 12))) := rfl
set_option maxRecDepth 100000 in
theorem y190_31 : iv_f1 (iv_p 190) 31 = some (.inl (iv_oIf .eq (8))) := rfl
set_option maxRecDepth 100000 in
theorem y190_34 : iv_f1 (iv_p 190) 34 = some (.inl (iv_oA 0 1)) := rfl
set_option maxRecDepth 100000 in
theorem y190_35 : iv_f1 (iv_p 190) 35 = some (.inr (.inr (6, 188, 0, 12))) := rfl
set_option maxRecDepth 100000 in
theorem y190_38 : iv_f1 (iv_p 190) 38 = some (.inr (.inl 2)) := rfl
set_option maxRecDepth 100000 in
theorem y190_39 : iv_f1 (iv_p 190) 39 = some (.inl (iv_oA 0 1)) := rfl
set_option maxRecDepth 100000 in
theorem y190_40 : iv_f1 (iv_p 190) 40 = some (.inl (iv_oK (.int (Int32.ofNat 3)) 1)) := rfl
set_option maxRecDepth 100000 in
theorem y190_41 : iv_f1 (iv_p 190) 41 = some (.inr (.inr (6, 171, 1, 12))) := rfl
set_option maxRecDepth 100000 in
theorem y190_44 : iv_f1 (iv_p 190) 44 = some (.inl (iv_oIf .eq (11))) := rfl
set_option maxRecDepth 100000 in
theorem y190_47 : iv_f1 (iv_p 190) 47 = some (.inl (iv_oA 0 1)) := rfl
set_option maxRecDepth 100000 in
theorem y190_48 : iv_f1 (iv_p 190) 48 = some (.inl (iv_oK (.int (Int32.ofNat 0)) 1)) := rfl
set_option maxRecDepth 100000 in
theorem y190_49 : iv_f1 (iv_p 190) 49 = some (.inl (iv_oK (.int (Int32.ofNat 20)) 2)) := rfl
set_option maxRecDepth 100000 in
theorem y190_51 : iv_f1 (iv_p 190) 51 = some (.inr (.inr (6, 189, 2, 12))) := rfl
set_option maxRecDepth 100000 in
theorem y190_54 : iv_f1 (iv_p 190) 54 = some (.inr (.inl 2)) := rfl
set_option maxRecDepth 100000 in
theorem y190_55 : iv_f1 (iv_p 190) 55 = some (.inl (iv_oA 0 1)) := rfl
set_option maxRecDepth 100000 in
theorem y190_56 : iv_f1 (iv_p 190) 56 = some (.inl (iv_oK (.int (Int32.ofNat 4)) 1)) := rfl
set_option maxRecDepth 100000 in
theorem y190_57 : iv_f1 (iv_p 190) 57 = some (.inr (.inr (6, 171, 1, 12))) := rfl
set_option maxRecDepth 100000 in
theorem y190_60 : iv_f1 (iv_p 190) 60 = some (.inl (iv_oIf .eq (11))) := rfl
set_option maxRecDepth 100000 in
theorem y190_63 : iv_f1 (iv_p 190) 63 = some (.inl (iv_oA 0 1)) := rfl
set_option maxRecDepth 100000 in
theorem y190_64 : iv_f1 (iv_p 190) 64 = some (.inl (iv_oK (.int (Int32.ofNat 1)) 1)) := rfl
set_option maxRecDepth 100000 in
theorem y190_65 : iv_f1 (iv_p 190) 65 = some (.inl (iv_oK (.int (Int32.ofNat 20)) 2)) := rfl
set_option maxRecDepth 100000 in
theorem y190_67 : iv_f1 (iv_p 190) 67 = some (.inr (.inr (6, 189, 2, 12))) := rfl
set_option maxRecDepth 100000 in
theorem y190_70 : iv_f1 (iv_p 190) 70 = some (.inr (.inl 2)) := rfl
set_option maxRecDepth 100000 in
theorem y190_71 : iv_f1 (iv_p 190) 71 = some (.inl (iv_oA 0 1)) := rfl
set_option maxRecDepth 100000 in
theorem y190_72 : iv_f1 (iv_p 190) 72 = some (.inl (iv_oK (.int (Int32.ofNat 5)) 1)) := rfl
set_option maxRecDepth 100000 in
theorem y190_73 : iv_f1 (iv_p 190) 73 = some (.inr (.inr (6, 171, 1, 12))) := rfl
set_option maxRecDepth 100000 in
theorem y190_76 : iv_f1 (iv_p 190) 76 = some (.inl (iv_oIf .eq (13))) := rfl
set_option maxRecDepth 100000 in
theorem y190_79 : iv_f1 (iv_p 190) 79 = some (.inl (iv_oA 0 1)) := rfl
set_option maxRecDepth 100000 in
theorem y190_80 : iv_f1 (iv_p 190) 80 = some (.inl (iv_oK (.int (Int32.ofNat 2)) 1)) := rfl
set_option maxRecDepth 100000 in
theorem y190_81 : iv_f1 (iv_p 190) 81 = some (.inl (iv_oK (.int (Int32.ofNat 12)) 2)) := rfl
set_option maxRecDepth 100000 in
theorem y190_83 : iv_f1 (iv_p 190) 83 = some (.inr (.inr (6, 189, 2, 12))) := rfl
set_option maxRecDepth 100000 in
theorem y190_86 : iv_f1 (iv_p 190) 86 = some (.inl (iv_oGo (8))) := rfl
set_option maxRecDepth 100000 in
theorem y190_89 : iv_f1 (iv_p 190) 89 = some (.inl (iv_oA 0 1)) := rfl
set_option maxRecDepth 100000 in
theorem y190_90 : iv_f1 (iv_p 190) 90 = some (.inl (iv_oK (.int (Int32.ofNat 1)) 1)) := rfl
set_option maxRecDepth 100000 in
theorem y190_91 : iv_f1 (iv_p 190) 91 = some (.inr (.inr (6, 174, 1, 12))) := rfl
set_option maxRecDepth 100000 in
theorem y190_94 : iv_f1 (iv_p 190) 94 = some (.inr (.inl 2)) := rfl
theorem ym_lin {L : Nat} {xs : Nat → Int32} {d : Nat} {T : Nat → Nat} {n m p : Nat} {s : yS} {V : Nat → Value} {σ : iv_H} (hd : 5 ≤ d) (hn : n ≤ 940) (hm : m ≤ 940) (hT : ∀ i, T i ≤ 255) (hM : yMR T n m p s V σ) {nb ng : Nat} (hb : s.1 0 = Int32.ofNat nb) (hg : s.1 1 = Int32.ofNat ng) (hb7 : nb ≤ 7) (hg6 : ng ≤ 6) : ∃ r σ1 V1, iv_Rn L xs d 190 0 (lv_args 0 [.ref 548]) [] σ (some (.int (yb r))) σ1 ∧ yOM T n m (yLin T n m nb ng s p) r V1 σ1 ∧ yBx σ σ1 V V1 := by
  obtain ⟨d, rfl⟩ : ∃ e, d = e + 5 := ⟨d - 5, by omega⟩
  refine y_Rb ?_
  have hM0 := hM
  obtain ⟨g177, gt177, gr177, gn177, go177, ⟨v1_177, v3_177, v4_177, v15_177, v20_177, v23_177⟩, hp177, ty177, tk177⟩ := hM
  have t5_177 := yTk_5 tk177
  have t6_177 := yTk_6 tk177
  have t7_177 := yTk_7 tk177
  obtain ⟨⟨x12_177, v12_177⟩, ⟨x8_177, v8_177⟩, x9_177, v9_177⟩ := id ty177
  refine w_A y190_0 rfl ?_
  refine w_K y190_1 ?_
  have n178 := ym_iw (L := L) (xs := xs) (d := d + 4) (k := 0) (by omega) (by omega) ykd_le9 g177 t7_177 v12_177
  rw [y_iwE (yTk_w tk177) v12_177] at n178
  refine y_call y190_2 (y_args6 g177 rfl rfl) rfl n178 ?_
  rcases y_bc (yisW T n m p 0) with b179 | b179
  · skip
    refine w_ifT y190_5 rfl (y_beqT b179) ?_
    refine w_A y190_13 rfl ?_
    refine w_K y190_14 ?_
    have n180 := ym_iw (L := L) (xs := xs) (d := d + 4) (k := 1) (by omega) (by omega) ykd_le9 g177 t7_177 v12_177
    rw [y_iwE (yTk_w tk177) v12_177] at n180
    refine y_call y190_15 (y_args6 g177 rfl rfl) rfl n180 ?_
    rcases y_bc (yisW T n m p 1) with b181 | b181
    · skip
      refine w_ifT y190_18 rfl (y_beqT b181) ?_
      refine w_A y190_26 rfl ?_
      refine w_K y190_27 ?_
      have n182 := ym_iw (L := L) (xs := xs) (d := d + 4) (k := 2) (by omega) (by omega) ykd_le9 g177 t7_177 v12_177
      rw [y_iwE (yTk_w tk177) v12_177] at n182
      refine y_call y190_28 (y_args6 g177 rfl rfl) rfl n182 ?_
      rcases y_bc (yisW T n m p 2) with b183 | b183
      · skip
        refine w_ifT y190_31 rfl (y_beqT b183) ?_
        refine w_A y190_39 rfl ?_
        refine w_K y190_40 ?_
        have n184 := ym_iw (L := L) (xs := xs) (d := d + 4) (k := 3) (by omega) (by omega) ykd_le9 g177 t7_177 v12_177
        rw [y_iwE (yTk_w tk177) v12_177] at n184
        refine y_call y190_41 (y_args6 g177 rfl rfl) rfl n184 ?_
        rcases y_bc (yisW T n m p 3) with b185 | b185
        · skip
          refine w_ifT y190_44 rfl (y_beqT b185) ?_
          refine w_A y190_55 rfl ?_
          refine w_K y190_56 ?_
          have n186 := ym_iw (L := L) (xs := xs) (d := d + 4) (k := 4) (by omega) (by omega) ykd_le9 g177 t7_177 v12_177
          rw [y_iwE (yTk_w tk177) v12_177] at n186
          refine y_call y190_57 (y_args6 g177 rfl rfl) rfl n186 ?_
          rcases y_bc (yisW T n m p 4) with b187 | b187
          · skip
            refine w_ifT y190_60 rfl (y_beqT b187) ?_
            refine w_A y190_71 rfl ?_
            refine w_K y190_72 ?_
            have n188 := ym_iw (L := L) (xs := xs) (d := d + 4) (k := 5) (by omega) (by omega) ykd_le9 g177 t7_177 v12_177
            rw [y_iwE (yTk_w tk177) v12_177] at n188
            refine y_call y190_73 (y_args6 g177 rfl rfl) rfl n188 ?_
            rcases y_bc (yisW T n m p 5) with b189 | b189
            · skip
              refine w_ifT y190_76 rfl (y_beqT b189) ?_
              refine w_A y190_89 rfl ?_
              refine w_K y190_90 ?_
              obtain ⟨σ190, r190, V190, g190, a190, f190, e10_190, e11_190⟩ := ym_bad (L := L) (xs := xs) (d := d + 4) (k := 1) ykd_le9 g177 t7_177 t6_177
              refine y_call y190_91 (y_args6 g177 rfl rfl) rfl r190 ?_
              have sp : yLin T n m nb ng s p = .inl (ybd T n m p 1) := by unfold yLin; rw [if_neg (by rw [b179]; decide), if_neg (by rw [b181]; decide), if_neg (by rw [b183]; decide), if_neg (by rw [b185]; decide), if_neg (by rw [b187]; decide), if_neg (by rw [b189]; decide)]
              exact y_ret y190_94 rfl ⟨false, _, rfl, yOM_bad sp ⟨g190, e10_190, e11_190⟩, ⟨(yF_sub (by rfl) f190), (yA_sub (by rfl) a190)⟩⟩
            · skip
              refine w_ifF y190_76 rfl (y_beqF b189) ?_
              refine w_A y190_79 rfl ?_
              refine w_K y190_80 ?_
              refine w_K y190_81 ?_
              obtain ⟨r191, σ191, V191, hr191, o191, b191⟩ := ym_onc (k := 2) (hi := 12) (L := L) (xs := xs) (d := d + 4) (by omega) (by omega) (by omega) hn hm hT hM0
              refine y_call y190_83 (y_args6 g177 rfl rfl) rfl hr191 ?_
              refine w_go y190_86 rfl ?_
              refine y_ret y190_94 y_rtb ⟨r191, _, rfl, ?_, b191⟩
              unfold yLin
              rw [if_neg (by rw [b179]; decide), if_neg (by rw [b181]; decide), if_neg (by rw [b183]; decide), if_neg (by rw [b185]; decide), if_neg (by rw [b187]; decide), if_pos b189]
              exact o191
          · skip
            refine w_ifF y190_60 rfl (y_beqF b187) ?_
            refine w_A y190_63 rfl ?_
            refine w_K y190_64 ?_
            refine w_K y190_65 ?_
            obtain ⟨r192, σ192, V192, hr192, o192, b192⟩ := ym_onc (k := 1) (hi := 20) (L := L) (xs := xs) (d := d + 4) (by omega) (by omega) (by omega) hn hm hT hM0
            refine y_call y190_67 (y_args6 g177 rfl rfl) rfl hr192 ?_
            refine y_ret y190_70 y_rtb ⟨r192, _, rfl, ?_, b192⟩
            unfold yLin
            rw [if_neg (by rw [b179]; decide), if_neg (by rw [b181]; decide), if_neg (by rw [b183]; decide), if_neg (by rw [b185]; decide), if_pos b187]
            exact o192
        · skip
          refine w_ifF y190_44 rfl (y_beqF b185) ?_
          refine w_A y190_47 rfl ?_
          refine w_K y190_48 ?_
          refine w_K y190_49 ?_
          obtain ⟨r193, σ193, V193, hr193, o193, b193⟩ := ym_onc (k := 0) (hi := 20) (L := L) (xs := xs) (d := d + 4) (by omega) (by omega) (by omega) hn hm hT hM0
          refine y_call y190_51 (y_args6 g177 rfl rfl) rfl hr193 ?_
          refine y_ret y190_54 y_rtb ⟨r193, _, rfl, ?_, b193⟩
          unfold yLin
          rw [if_neg (by rw [b179]; decide), if_neg (by rw [b181]; decide), if_neg (by rw [b183]; decide), if_pos b185]
          exact o193
      · skip
        refine w_ifF y190_31 rfl (y_beqF b183) ?_
        refine w_A y190_34 rfl ?_
        obtain ⟨r194, σ194, V194, hr194, o194, b194⟩ := ym_hol (L := L) (xs := xs) (d := d + 4) (by omega) hn hm hT hM0 hb hg hb7 hg6
        refine y_call y190_35 (y_args6 g177 rfl rfl) rfl hr194 ?_
        refine y_ret y190_38 y_rtb ⟨r194, _, rfl, ?_, b194⟩
        unfold yLin
        rw [if_neg (by rw [b179]; decide), if_neg (by rw [b181]; decide), if_pos b183]
        exact o194
    · skip
      refine w_ifF y190_18 rfl (y_beqF b181) ?_
      refine w_A y190_21 rfl ?_
      obtain ⟨r195, σ195, V195, hr195, o195, b195⟩ := ym_gra (L := L) (xs := xs) (d := d + 4) (by omega) hn hm hT hM0 hb hg hb7 hg6
      refine y_call y190_22 (y_args6 g177 rfl rfl) rfl hr195 ?_
      refine y_ret y190_25 y_rtb ⟨r195, _, rfl, ?_, b195⟩
      unfold yLin
      rw [if_neg (by rw [b179]; decide), if_pos b181]
      exact o195
  · skip
    refine w_ifF y190_5 rfl (y_beqF b179) ?_
    refine w_A y190_8 rfl ?_
    obtain ⟨r196, σ196, V196, hr196, o196, b196⟩ := ym_bro (L := L) (xs := xs) (d := d + 4) (by omega) hn hm hT hM0 hb hg hb7 hg6
    refine y_call y190_9 (y_args6 g177 rfl rfl) rfl hr196 ?_
    refine y_ret y190_12 y_rtb ⟨r196, _, rfl, ?_, b196⟩
    unfold yLin
    rw [if_pos b179]
    exact o196
