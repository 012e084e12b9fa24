/-! ===== printed by wip/gen/y/ci.py: what is fed lies on both tapes ===== -/
def yby (a : Int32) (k : Nat) : Int32 := (a.toUInt32 >>> ((Int32.ofNat k).toUInt32 &&& Int32.toUInt32 31)).toInt32 &&& Int32.ofNat 255
def y4 (f : Nat → Int32) (n : Nat) (a : Int32) : Nat → Int32 := upd (upd (upd (upd f n (yby a 24)) (n + 1) (yby a 16)) (n + 2) (yby a 8)) (n + 3) (yby a 0)
def y20 (f : Nat → Int32) (n : Nat) (a b c e h : Int32) : Nat → Int32 := y4 (y4 (y4 (y4 (y4 f n a) (n + 4) b) (n + 8) c) (n + 12) e) (n + 16) h
theorem y4_eq {f g : Nat → Int32} {n : Nat} {a : Int32} (h : ∀ i, i < n → f i = g i) : ∀ i, i < n + 4 → y4 f n a i = y4 g n a i := fun i hi => by
  unfold y4
  simp only [upd_at]
  by_cases h3 : i = n + 3
  · rw [if_pos h3, if_pos h3]
  · rw [if_neg h3, if_neg h3]
    by_cases h2 : i = n + 2
    · rw [if_pos h2, if_pos h2]
    · rw [if_neg h2, if_neg h2]
      by_cases h1 : i = n + 1
      · rw [if_pos h1, if_pos h1]
      · rw [if_neg h1, if_neg h1]
        by_cases h0 : i = n
        · rw [if_pos h0, if_pos h0]
        · rw [if_neg h0, if_neg h0]
          exact h i (by omega)
theorem y20_eq {f g : Nat → Int32} {n : Nat} {a b c e h : Int32} (hf : ∀ i, i < n → f i = g i) : ∀ i, i < n + 20 → y20 f n a b c e h i = y20 g n a b c e h i := y4_eq (y4_eq (y4_eq (y4_eq (y4_eq hf))))
theorem y4_lo {f : Nat → Int32} {n i : Nat} {a : Int32} (h : i < n) : y4 f n a i = f i := by
  unfold y4
  rw [upd_at, if_neg (by omega), upd_at, if_neg (by omega), upd_at, if_neg (by omega), upd_at, if_neg (by omega)]
theorem y20_lo {f : Nat → Int32} {n i : Nat} {a b c e h : Int32} (hi : i < n) : y20 f n a b c e h i = f i := by
  unfold y20
  rw [y4_lo (by omega), y4_lo (by omega), y4_lo (by omega), y4_lo (by omega), y4_lo hi]
set_option maxRecDepth 100000 in
theorem y114_0 : iv_f1 (iv_p 114) 0 = some (.inl (iv_oK (.int (Int32.ofNat 24)) 2)) := rfl
set_option maxRecDepth 100000 in
theorem y114_2 : iv_f1 (iv_p 114) 2 = some (.inl (iv_oIS 2 1)) := rfl
set_option maxRecDepth 100000 in
theorem y114_3 : iv_f1 (iv_p 114) 3 = some (.inl (iv_oI 2 1)) := rfl
set_option maxRecDepth 100000 in
theorem y114_4 : iv_f1 (iv_p 114) 4 = some (.inl (iv_oIf .lt (47))) := rfl
set_option maxRecDepth 100000 in
theorem y114_7 : iv_f1 (iv_p 114) 7 = some (.inl (iv_oA 0 1)) := rfl
set_option maxRecDepth 100000 in
theorem y114_8 : iv_f1 (iv_p 114) 8 = some (.inl (iv_oGF 11 1)) := rfl
set_option maxRecDepth 100000 in
theorem y114_11 : iv_f1 (iv_p 114) 11 = some (.inl (iv_oA 0 1)) := rfl
set_option maxRecDepth 100000 in
theorem y114_12 : iv_f1 (iv_p 114) 12 = some (.inl (iv_oGF 11 0)) := rfl
set_option maxRecDepth 100000 in
theorem y114_15 : iv_f1 (iv_p 114) 15 = some (.inl iv_oLen) := rfl
set_option maxRecDepth 100000 in
theorem y114_16 : iv_f1 (iv_p 114) 16 = some (.inl (iv_oIc .ge (29))) := rfl
set_option maxRecDepth 100000 in
theorem y114_19 : iv_f1 (iv_p 114) 19 = some (.inl (iv_oA 0 1)) := rfl
set_option maxRecDepth 100000 in
theorem y114_20 : iv_f1 (iv_p 114) 20 = some (.inl (iv_oGF 11 0)) := rfl
set_option maxRecDepth 100000 in
theorem y114_23 : iv_f1 (iv_p 114) 23 = some (.inl (iv_oA 0 1)) := rfl
set_option maxRecDepth 100000 in
theorem y114_24 : iv_f1 (iv_p 114) 24 = some (.inl (iv_oGF 11 1)) := rfl
set_option maxRecDepth 100000 in
theorem y114_27 : iv_f1 (iv_p 114) 27 = some (.inl (iv_oI 1 1)) := rfl
set_option maxRecDepth 100000 in
theorem y114_28 : iv_f1 (iv_p 114) 28 = some (.inl (iv_oI 2 1)) := rfl
set_option maxRecDepth 100000 in
theorem y114_29 : iv_f1 (iv_p 114) 29 = some (.inl (iv_oII fun x y => (x.toUInt32 >>> (y.toUInt32 &&& Int32.toUInt32 31)).toInt32)) := rfl
set_option maxRecDepth 100000 in
theorem y114_30 : iv_f1 (iv_p 114) 30 = some (.inl (iv_oK (.int (Int32.ofNat 255)) 3)) := rfl
set_option maxRecDepth 100000 in
theorem y114_33 : iv_f1 (iv_p 114) 33 = some (.inl (iv_oII fun x y => x &&& y)) := rfl
set_option maxRecDepth 100000 in
theorem y114_34 : iv_f1 (iv_p 114) 34 = some (.inl iv_oIst) := rfl
set_option maxRecDepth 100000 in
theorem y114_35 : iv_f1 (iv_p 114) 35 = some (.inl (iv_oA 0 1)) := rfl
set_option maxRecDepth 100000 in
theorem y114_36 : iv_f1 (iv_p 114) 36 = some (.inl iv_oDup) := rfl
set_option maxRecDepth 100000 in
theorem y114_37 : iv_f1 (iv_p 114) 37 = some (.inl (iv_oGF 11 1)) := rfl
set_option maxRecDepth 100000 in
theorem y114_40 : iv_f1 (iv_p 114) 40 = some (.inl (iv_oK (.int (Int32.ofNat 1)) 1)) := rfl
set_option maxRecDepth 100000 in
theorem y114_41 : iv_f1 (iv_p 114) 41 = some (.inl (iv_oII fun x y => x + y)) := rfl
set_option maxRecDepth 100000 in
theorem y114_42 : iv_f1 (iv_p 114) 42 = some (.inl (iv_oPF 11 1 .int)) := rfl
set_option maxRecDepth 100000 in
theorem y114_45 : iv_f1 (iv_p 114) 45 = some (.inl (iv_oInc 2 (-8))) := rfl
set_option maxRecDepth 100000 in
theorem y114_48 : iv_f1 (iv_p 114) 48 = some (.inl (iv_oGo (-45))) := rfl
set_option maxRecDepth 100000 in
theorem y114_51 : iv_f1 (iv_p 114) 51 = some (.inr (.inl 0)) := rfl
theorem yf_c_4 {L : Nat} {xs : Nat → Int32} {d n : Nat} {σ : iv_H} {V : Nat → Value} {f : Nat → Int32} {a : Int32} (hn : n + 4 ≤ 940) (g : iv_get σ 0 = some (yob 11 20 V)) (gt : iv_get σ 2 = some (yai 940 f)) (vb : V 1 = .int (Int32.ofNat n)) (vt : V 0 = .ref 2) : ∃ σ1, iv_Rn L xs d 114 0 (lv_args 0 [.ref 0, .int a]) [] σ none σ1 ∧ ∃ V1, iv_get σ1 0 = some (yob 11 20 V1) ∧ V1 1 = .int (Int32.ofNat (n + 4)) ∧ yAg [1] V V1 ∧ iv_get σ1 2 = some (yai 940 (y4 f n a)) ∧ yFr [0, 2] σ σ1 := by
  refine y_R0 ?_
  refine w_K y114_0 ?_
  refine w_IS y114_2 ?_
  refine w_I y114_3 rfl ?_
  refine w_ifF y114_4 rfl rfl ?_
  refine w_A y114_7 rfl ?_
  refine y_gf y114_8 g rfl vb ?_
  refine w_A y114_11 rfl ?_
  refine y_gf y114_12 g rfl vt ?_
  refine y_len y114_15 gt rfl ?_
  refine y_icF y114_16 rfl (by omega) (by omega) (by simp only [zch]; omega) ?_
  refine w_A y114_19 rfl ?_
  refine y_gf y114_20 g rfl vt ?_
  refine w_A y114_23 rfl ?_
  refine y_gf y114_24 g rfl vb ?_
  refine w_I y114_27 rfl ?_
  refine w_I y114_28 rfl ?_
  refine y_II y114_29 ?_
  refine w_K y114_30 ?_
  refine y_II y114_33 ?_
  refine y_ist y114_34 gt (by omega) (by decide) ?_
  intro σ2 h1
  refine w_A y114_35 rfl ?_
  refine y_dup y114_36 rfl ?_
  have g3 := (mD_n h1 (by decide) g)
  refine y_gf y114_37 g3 rfl vb ?_
  refine w_K y114_40 ?_
  refine w_add y114_41 ?_
  refine y_pf y114_42 g3 rfl rfl ?_
  intro σ5 h4
  refine y_inck (y := 16) y114_45 rfl rfl ?_
  refine w_go y114_48 rfl ?_
  refine w_I y114_3 rfl ?_
  refine w_ifF y114_4 rfl rfl ?_
  refine w_A y114_7 rfl ?_
  refine y_gf y114_8 h4.2.1 rfl rfl ?_
  refine w_A y114_11 rfl ?_
  refine y_gf y114_12 h4.2.1 rfl vt ?_
  have g6 := (mD_n h4 (by decide) h1.2.1)
  refine y_len y114_15 g6 rfl ?_
  refine y_icF y114_16 rfl (by omega) (by omega) (by simp only [zch]; omega) ?_
  refine w_A y114_19 rfl ?_
  refine y_gf y114_20 h4.2.1 rfl vt ?_
  refine w_A y114_23 rfl ?_
  refine y_gf y114_24 h4.2.1 rfl rfl ?_
  refine w_I y114_27 rfl ?_
  refine w_I y114_28 rfl ?_
  refine y_II y114_29 ?_
  refine w_K y114_30 ?_
  refine y_II y114_33 ?_
  refine y_ist y114_34 g6 (by omega) (by decide) ?_
  intro σ8 h7
  refine w_A y114_35 rfl ?_
  refine y_dup y114_36 rfl ?_
  have g9 := (mD_n h7 (by decide) h4.2.1)
  refine y_gf y114_37 g9 rfl rfl ?_
  refine w_K y114_40 ?_
  refine w_add y114_41 ?_
  refine y_pf y114_42 g9 rfl rfl ?_
  intro σ11 h10
  refine y_inck (y := 8) y114_45 rfl rfl ?_
  refine w_go y114_48 rfl ?_
  refine w_I y114_3 rfl ?_
  refine w_ifF y114_4 rfl rfl ?_
  refine w_A y114_7 rfl ?_
  refine y_gf y114_8 h10.2.1 rfl rfl ?_
  refine w_A y114_11 rfl ?_
  refine y_gf y114_12 h10.2.1 rfl vt ?_
  have g12 := (mD_n h10 (by decide) h7.2.1)
  refine y_len y114_15 g12 rfl ?_
  refine y_icF y114_16 rfl (by omega) (by omega) (by simp only [zch]; omega) ?_
  refine w_A y114_19 rfl ?_
  refine y_gf y114_20 h10.2.1 rfl vt ?_
  refine w_A y114_23 rfl ?_
  refine y_gf y114_24 h10.2.1 rfl rfl ?_
  refine w_I y114_27 rfl ?_
  refine w_I y114_28 rfl ?_
  refine y_II y114_29 ?_
  refine w_K y114_30 ?_
  refine y_II y114_33 ?_
  refine y_ist y114_34 g12 (by omega) (by decide) ?_
  intro σ14 h13
  refine w_A y114_35 rfl ?_
  refine y_dup y114_36 rfl ?_
  have g15 := (mD_n h13 (by decide) h10.2.1)
  refine y_gf y114_37 g15 rfl rfl ?_
  refine w_K y114_40 ?_
  refine w_add y114_41 ?_
  refine y_pf y114_42 g15 rfl rfl ?_
  intro σ17 h16
  refine y_inck (y := 0) y114_45 rfl rfl ?_
  refine w_go y114_48 rfl ?_
  refine w_I y114_3 rfl ?_
  refine w_ifF y114_4 rfl rfl ?_
  refine w_A y114_7 rfl ?_
  refine y_gf y114_8 h16.2.1 rfl rfl ?_
  refine w_A y114_11 rfl ?_
  refine y_gf y114_12 h16.2.1 rfl vt ?_
  have g18 := (mD_n h16 (by decide) h13.2.1)
  refine y_len y114_15 g18 rfl ?_
  refine y_icF y114_16 rfl (by omega) (by omega) (by simp only [zch]; omega) ?_
  refine w_A y114_19 rfl ?_
  refine y_gf y114_20 h16.2.1 rfl vt ?_
  refine w_A y114_23 rfl ?_
  refine y_gf y114_24 h16.2.1 rfl rfl ?_
  refine w_I y114_27 rfl ?_
  refine w_I y114_28 rfl ?_
  refine y_II y114_29 ?_
  refine w_K y114_30 ?_
  refine y_II y114_33 ?_
  refine y_ist y114_34 g18 (by omega) (by decide) ?_
  intro σ20 h19
  refine w_A y114_35 rfl ?_
  refine y_dup y114_36 rfl ?_
  have g21 := (mD_n h19 (by decide) h16.2.1)
  refine y_gf y114_37 g21 rfl rfl ?_
  refine w_K y114_40 ?_
  refine w_add y114_41 ?_
  refine y_pf y114_42 g21 rfl rfl ?_
  intro σ23 h22
  refine zGo_s y114_45 rfl ?_
  refine w_go y114_48 rfl ?_
  refine w_I y114_3 rfl ?_
  refine w_ifT y114_4 rfl (by decide) ?_
  have g24 := (mD_n h22 (by decide) h19.2.1)
  exact w_ret0 y114_51 ⟨rfl, _, h22.2.1, rfl, (yA_tr (yA_u (j := 1) (by rfl)) (yA_tr (yA_u (j := 1) (by rfl)) (yA_tr (yA_u (j := 1) (by rfl)) (yA_u (j := 1) (by rfl))))), g24, (yF_tr (yF_D h1 (by rfl)) (yF_tr (yF_D h4 (by rfl)) (yF_tr (yF_D h7 (by rfl)) (yF_tr (yF_D h10 (by rfl)) (yF_tr (yF_D h13 (by rfl)) (yF_tr (yF_D h16 (by rfl)) (yF_tr (yF_D h19 (by rfl)) (yF_D h22 (by rfl)))))))))⟩
set_option maxRecDepth 100000 in
theorem y113_0 : iv_f1 (iv_p 113) 0 = some (.inl (iv_oA 0 1)) := rfl
set_option maxRecDepth 100000 in
theorem y113_1 : iv_f1 (iv_p 113) 1 = some (.inl (iv_oGF 11 1)) := rfl
set_option maxRecDepth 100000 in
theorem y113_4 : iv_f1 (iv_p 113) 4 = some (.inl (iv_oK (.int (Int32.ofNat 20)) 2)) := rfl
set_option maxRecDepth 100000 in
theorem y113_6 : iv_f1 (iv_p 113) 6 = some (.inl (iv_oII fun x y => x + y)) := rfl
set_option maxRecDepth 100000 in
theorem y113_7 : iv_f1 (iv_p 113) 7 = some (.inl (iv_oK (.int (Int32.ofNat 940)) 3)) := rfl
set_option maxRecDepth 100000 in
theorem y113_10 : iv_f1 (iv_p 113) 10 = some (.inl (iv_oIc .le (5))) := rfl
set_option maxRecDepth 100000 in
theorem y113_13 : iv_f1 (iv_p 113) 13 = some (.inl (iv_oK (.int (Int32.ofInt (-1))) 1)) := rfl
set_option maxRecDepth 100000 in
theorem y113_14 : iv_f1 (iv_p 113) 14 = some (.inr (.inl 1)) := rfl
set_option maxRecDepth 100000 in
theorem y113_15 : iv_f1 (iv_p 113) 15 = some (.inl (iv_oA 0 1)) := rfl
set_option maxRecDepth 100000 in
theorem y113_16 : iv_f1 (iv_p 113) 16 = some (.inl (iv_oI 1 1)) := rfl
set_option maxRecDepth 100000 in
theorem y113_17 : iv_f1 (iv_p 113) 17 = some (.inr (.inr (6, 114, 1, 11))) := rfl
set_option maxRecDepth 100000 in
theorem y113_20 : iv_f1 (iv_p 113) 20 = some (.inl (iv_oA 0 1)) := rfl
set_option maxRecDepth 100000 in
theorem y113_21 : iv_f1 (iv_p 113) 21 = some (.inl (iv_oI 2 1)) := rfl
set_option maxRecDepth 100000 in
theorem y113_22 : iv_f1 (iv_p 113) 22 = some (.inr (.inr (6, 114, 1, 11))) := rfl
set_option maxRecDepth 100000 in
theorem y113_25 : iv_f1 (iv_p 113) 25 = some (.inl (iv_oA 0 1)) := rfl
set_option maxRecDepth 100000 in
theorem y113_26 : iv_f1 (iv_p 113) 26 = some (.inl (iv_oI 3 1)) := rfl
set_option maxRecDepth 100000 in
theorem y113_27 : iv_f1 (iv_p 113) 27 = some (.inr (.inr (6, 114, 1, 11))) := rfl
set_option maxRecDepth 100000 in
theorem y113_30 : iv_f1 (iv_p 113) 30 = some (.inl (iv_oA 0 1)) := rfl
set_option maxRecDepth 100000 in
theorem y113_31 : iv_f1 (iv_p 113) 31 = some (.inl (iv_oI 4 2)) := rfl
set_option maxRecDepth 100000 in
theorem y113_33 : iv_f1 (iv_p 113) 33 = some (.inr (.inr (6, 114, 1, 11))) := rfl
set_option maxRecDepth 100000 in
theorem y113_36 : iv_f1 (iv_p 113) 36 = some (.inl (iv_oA 0 1)) := rfl
set_option maxRecDepth 100000 in
theorem y113_37 : iv_f1 (iv_p 113) 37 = some (.inl (iv_oI 5 2)) := rfl
set_option maxRecDepth 100000 in
theorem y113_39 : iv_f1 (iv_p 113) 39 = some (.inr (.inr (6, 114, 1, 11))) := rfl
set_option maxRecDepth 100000 in
theorem y113_42 : iv_f1 (iv_p 113) 42 = some (.inl (iv_oA 0 1)) := rfl
set_option maxRecDepth 100000 in
theorem y113_43 : iv_f1 (iv_p 113) 43 = some (.inl (iv_oGF 11 1)) := rfl
set_option maxRecDepth 100000 in
theorem y113_46 : iv_f1 (iv_p 113) 46 = some (.inr (.inl 1)) := rfl
theorem yf_c_feed {L : Nat} {xs : Nat → Int32} {d n : Nat} {σ : iv_H} {V : Nat → Value} {f : Nat → Int32} {a b c e h : Int32} (hd : 1 ≤ d) (hn : n ≤ 940) (g : iv_get σ 0 = some (yob 11 20 V)) (gt : iv_get σ 2 = some (yai 940 f)) (vb : V 1 = .int (Int32.ofNat n)) (vt : V 0 = .ref 2) : ∃ r σ1, iv_Rn L xs d 113 0 (lv_args 0 [.ref 0, .int a, .int b, .int c, .int e, .int h]) [] σ (some (.int r)) σ1 ∧ ∃ V1, iv_get σ1 0 = some (yob 11 20 V1) ∧ yAg [1] V V1 ∧ yFr [0, 2] σ σ1 ∧ ((n ≤ 920 ∧ V1 1 = .int (Int32.ofNat (n + 20)) ∧ iv_get σ1 2 = some (yai 940 (y20 f n a b c e h))) ∨ (920 < n ∧ V1 1 = .int (Int32.ofNat n) ∧ iv_get σ1 2 = some (yai 940 f))) := by
  obtain ⟨d, rfl⟩ : ∃ e, d = e + 1 := ⟨d - 1, by omega⟩
  have key : zGo L xs (fun r σ1 => ∃ v, r = some (.int v) ∧ ∃ V1, iv_get σ1 0 = some (yob 11 20 V1) ∧ yAg [1] V V1 ∧ yFr [0, 2] σ σ1 ∧ ((n ≤ 920 ∧ V1 1 = .int (Int32.ofNat (n + 20)) ∧ iv_get σ1 2 = some (yai 940 (y20 f n a b c e h))) ∨ (920 < n ∧ V1 1 = .int (Int32.ofNat n) ∧ iv_get σ1 2 = some (yai 940 f)))) [] (d + 1) 113 0 (lv_args 0 [.ref 0, .int a, .int b, .int c, .int e, .int h]) [] σ := by
    refine w_A y113_0 rfl ?_
    refine y_gf y113_1 g rfl vb ?_
    refine w_K y113_4 ?_
    refine w_add y113_6 ?_
    refine w_K y113_7 ?_
    by_cases c25 : n + 20 ≤ 940
    · skip
      refine y_icT y113_10 rfl (by omega) (by omega) (by simp only [zch]; omega) ?_
      refine w_A y113_15 rfl ?_
      refine w_I y113_16 rfl ?_
      obtain ⟨σ26, r26, V26, g26, v26, a26, t26, f26⟩ := yf_c_4 (L := L) (xs := xs) (d := d) (n := n + 0) (a := a) (by omega) g gt vb vt
      refine y_call0 y113_17 (y_args6 g rfl rfl) rfl r26 ?_
      have w26 : V26 0 = _ := (a26 0 (by rfl)).trans vt
      refine w_A y113_20 rfl ?_
      refine w_I y113_21 rfl ?_
      obtain ⟨σ27, r27, V27, g27, v27, a27, t27, f27⟩ := yf_c_4 (L := L) (xs := xs) (d := d) (n := n + 4) (a := b) (by omega) g26 t26 v26 w26
      refine y_call0 y113_22 (y_args6 g26 rfl rfl) rfl r27 ?_
      have w27 : V27 0 = _ := (a27 0 (by rfl)).trans w26
      refine w_A y113_25 rfl ?_
      refine w_I y113_26 rfl ?_
      obtain ⟨σ28, r28, V28, g28, v28, a28, t28, f28⟩ := yf_c_4 (L := L) (xs := xs) (d := d) (n := n + 8) (a := c) (by omega) g27 t27 v27 w27
      refine y_call0 y113_27 (y_args6 g27 rfl rfl) rfl r28 ?_
      have w28 : V28 0 = _ := (a28 0 (by rfl)).trans w27
      refine w_A y113_30 rfl ?_
      refine w_I y113_31 rfl ?_
      obtain ⟨σ29, r29, V29, g29, v29, a29, t29, f29⟩ := yf_c_4 (L := L) (xs := xs) (d := d) (n := n + 12) (a := e) (by omega) g28 t28 v28 w28
      refine y_call0 y113_33 (y_args6 g28 rfl rfl) rfl r29 ?_
      have w29 : V29 0 = _ := (a29 0 (by rfl)).trans w28
      refine w_A y113_36 rfl ?_
      refine w_I y113_37 rfl ?_
      obtain ⟨σ30, r30, V30, g30, v30, a30, t30, f30⟩ := yf_c_4 (L := L) (xs := xs) (d := d) (n := n + 16) (a := h) (by omega) g29 t29 v29 w29
      refine y_call0 y113_39 (y_args6 g29 rfl rfl) rfl r30 ?_
      have w30 : V30 0 = _ := (a30 0 (by rfl)).trans w29
      refine w_A y113_42 rfl ?_
      refine y_gf y113_43 g30 rfl v30 ?_
      exact y_ret y113_46 rfl ⟨_, rfl, _, g30, (yA_tr (yA_sub (by rfl) a26) (yA_tr (yA_sub (by rfl) a27) (yA_tr (yA_sub (by rfl) a28) (yA_tr (yA_sub (by rfl) a29) (yA_sub (by rfl) a30))))), (yF_tr (yF_sub (by rfl) f26) (yF_tr (yF_sub (by rfl) f27) (yF_tr (yF_sub (by rfl) f28) (yF_tr (yF_sub (by rfl) f29) (yF_sub (by rfl) f30))))), .inl ⟨by omega, v30, t30⟩⟩
    · skip
      refine y_icF y113_10 rfl (by omega) (by omega) (by simp only [zch]; omega) ?_
      refine w_K y113_13 ?_
      exact y_ret y113_14 rfl ⟨_, rfl, _, g, yA_rf, yF_rf, .inr ⟨by omega, vb, gt⟩⟩
  obtain ⟨r, σ1, h1, h2⟩ := key
  obtain ⟨v, e1, h3⟩ := (show ∃ v, r = some (.int v) ∧ _ from h2)
  exact ⟨v, σ1, by rw [← e1]; exact h1, h3⟩
set_option maxRecDepth 100000 in
theorem y156_0 : iv_f1 (iv_p 156) 0 = some (.inl (iv_oK (.int (Int32.ofNat 24)) 2)) := rfl
set_option maxRecDepth 100000 in
theorem y156_2 : iv_f1 (iv_p 156) 2 = some (.inl (iv_oIS 2 1)) := rfl
set_option maxRecDepth 100000 in
theorem y156_3 : iv_f1 (iv_p 156) 3 = some (.inl (iv_oI 2 1)) := rfl
set_option maxRecDepth 100000 in
theorem y156_4 : iv_f1 (iv_p 156) 4 = some (.inl (iv_oIf .lt (35))) := rfl
set_option maxRecDepth 100000 in
theorem y156_7 : iv_f1 (iv_p 156) 7 = some (.inl (iv_oA 0 1)) := rfl
set_option maxRecDepth 100000 in
theorem y156_8 : iv_f1 (iv_p 156) 8 = some (.inl (iv_oGF 12 1)) := rfl
set_option maxRecDepth 100000 in
theorem y156_11 : iv_f1 (iv_p 156) 11 = some (.inl (iv_oA 0 1)) := rfl
set_option maxRecDepth 100000 in
theorem y156_12 : iv_f1 (iv_p 156) 12 = some (.inl (iv_oGF 12 2)) := rfl
set_option maxRecDepth 100000 in
theorem y156_15 : iv_f1 (iv_p 156) 15 = some (.inl (iv_oI 1 1)) := rfl
set_option maxRecDepth 100000 in
theorem y156_16 : iv_f1 (iv_p 156) 16 = some (.inl (iv_oI 2 1)) := rfl
set_option maxRecDepth 100000 in
theorem y156_17 : iv_f1 (iv_p 156) 17 = some (.inl (iv_oII fun x y => (x.toUInt32 >>> (y.toUInt32 &&& Int32.toUInt32 31)).toInt32)) := rfl
set_option maxRecDepth 100000 in
theorem y156_18 : iv_f1 (iv_p 156) 18 = some (.inl (iv_oK (.int (Int32.ofNat 255)) 3)) := rfl
set_option maxRecDepth 100000 in
theorem y156_21 : iv_f1 (iv_p 156) 21 = some (.inl (iv_oII fun x y => x &&& y)) := rfl
set_option maxRecDepth 100000 in
theorem y156_22 : iv_f1 (iv_p 156) 22 = some (.inl iv_oIst) := rfl
set_option maxRecDepth 100000 in
theorem y156_23 : iv_f1 (iv_p 156) 23 = some (.inl (iv_oA 0 1)) := rfl
set_option maxRecDepth 100000 in
theorem y156_24 : iv_f1 (iv_p 156) 24 = some (.inl iv_oDup) := rfl
set_option maxRecDepth 100000 in
theorem y156_25 : iv_f1 (iv_p 156) 25 = some (.inl (iv_oGF 12 2)) := rfl
set_option maxRecDepth 100000 in
theorem y156_28 : iv_f1 (iv_p 156) 28 = some (.inl (iv_oK (.int (Int32.ofNat 1)) 1)) := rfl
set_option maxRecDepth 100000 in
theorem y156_29 : iv_f1 (iv_p 156) 29 = some (.inl (iv_oII fun x y => x + y)) := rfl
set_option maxRecDepth 100000 in
theorem y156_30 : iv_f1 (iv_p 156) 30 = some (.inl (iv_oPF 12 2 .int)) := rfl
set_option maxRecDepth 100000 in
theorem y156_33 : iv_f1 (iv_p 156) 33 = some (.inl (iv_oInc 2 (-8))) := rfl
set_option maxRecDepth 100000 in
theorem y156_36 : iv_f1 (iv_p 156) 36 = some (.inl (iv_oGo (-33))) := rfl
set_option maxRecDepth 100000 in
theorem y156_39 : iv_f1 (iv_p 156) 39 = some (.inr (.inl 0)) := rfl
theorem yf_m_4 {L : Nat} {xs : Nat → Int32} {d n : Nat} {σ : iv_H} {V : Nat → Value} {f : Nat → Int32} {a : Int32} (hn : n + 4 ≤ 940) (g : iv_get σ 548 = some (yob 12 49 V)) (gt : iv_get σ 550 = some (yai 940 f)) (vb : V 2 = .int (Int32.ofNat n)) (vt : V 1 = .ref 550) : ∃ σ1, iv_Rn L xs d 156 0 (lv_args 0 [.ref 548, .int a]) [] σ none σ1 ∧ ∃ V1, iv_get σ1 548 = some (yob 12 49 V1) ∧ V1 2 = .int (Int32.ofNat (n + 4)) ∧ yAg [2] V V1 ∧ iv_get σ1 550 = some (yai 940 (y4 f n a)) ∧ yFr [548, 550] σ σ1 := by
  refine y_R0 ?_
  refine w_K y156_0 ?_
  refine w_IS y156_2 ?_
  refine w_I y156_3 rfl ?_
  refine w_ifF y156_4 rfl rfl ?_
  refine w_A y156_7 rfl ?_
  refine y_gf y156_8 g rfl vt ?_
  refine w_A y156_11 rfl ?_
  refine y_gf y156_12 g rfl vb ?_
  refine w_I y156_15 rfl ?_
  refine w_I y156_16 rfl ?_
  refine y_II y156_17 ?_
  refine w_K y156_18 ?_
  refine y_II y156_21 ?_
  refine y_ist y156_22 gt (by omega) (by decide) ?_
  intro σ32 h31
  refine w_A y156_23 rfl ?_
  refine y_dup y156_24 rfl ?_
  have g33 := (mD_n h31 (by decide) g)
  refine y_gf y156_25 g33 rfl vb ?_
  refine w_K y156_28 ?_
  refine w_add y156_29 ?_
  refine y_pf y156_30 g33 rfl rfl ?_
  intro σ35 h34
  refine y_inck (y := 16) y156_33 rfl rfl ?_
  refine w_go y156_36 rfl ?_
  refine w_I y156_3 rfl ?_
  refine w_ifF y156_4 rfl rfl ?_
  refine w_A y156_7 rfl ?_
  refine y_gf y156_8 h34.2.1 rfl vt ?_
  refine w_A y156_11 rfl ?_
  refine y_gf y156_12 h34.2.1 rfl rfl ?_
  refine w_I y156_15 rfl ?_
  refine w_I y156_16 rfl ?_
  refine y_II y156_17 ?_
  refine w_K y156_18 ?_
  refine y_II y156_21 ?_
  have g36 := (mD_n h34 (by decide) h31.2.1)
  refine y_ist y156_22 g36 (by omega) (by decide) ?_
  intro σ38 h37
  refine w_A y156_23 rfl ?_
  refine y_dup y156_24 rfl ?_
  have g39 := (mD_n h37 (by decide) h34.2.1)
  refine y_gf y156_25 g39 rfl rfl ?_
  refine w_K y156_28 ?_
  refine w_add y156_29 ?_
  refine y_pf y156_30 g39 rfl rfl ?_
  intro σ41 h40
  refine y_inck (y := 8) y156_33 rfl rfl ?_
  refine w_go y156_36 rfl ?_
  refine w_I y156_3 rfl ?_
  refine w_ifF y156_4 rfl rfl ?_
  refine w_A y156_7 rfl ?_
  refine y_gf y156_8 h40.2.1 rfl vt ?_
  refine w_A y156_11 rfl ?_
  refine y_gf y156_12 h40.2.1 rfl rfl ?_
  refine w_I y156_15 rfl ?_
  refine w_I y156_16 rfl ?_
  refine y_II y156_17 ?_
  refine w_K y156_18 ?_
  refine y_II y156_21 ?_
  have g42 := (mD_n h40 (by decide) h37.2.1)
  refine y_ist y156_22 g42 (by omega) (by decide) ?_
  intro σ44 h43
  refine w_A y156_23 rfl ?_
  refine y_dup y156_24 rfl ?_
  have g45 := (mD_n h43 (by decide) h40.2.1)
  refine y_gf y156_25 g45 rfl rfl ?_
  refine w_K y156_28 ?_
  refine w_add y156_29 ?_
  refine y_pf y156_30 g45 rfl rfl ?_
  intro σ47 h46
  refine y_inck (y := 0) y156_33 rfl rfl ?_
  refine w_go y156_36 rfl ?_
  refine w_I y156_3 rfl ?_
  refine w_ifF y156_4 rfl rfl ?_
  refine w_A y156_7 rfl ?_
  refine y_gf y156_8 h46.2.1 rfl vt ?_
  refine w_A y156_11 rfl ?_
  refine y_gf y156_12 h46.2.1 rfl rfl ?_
  refine w_I y156_15 rfl ?_
  refine w_I y156_16 rfl ?_
  refine y_II y156_17 ?_
  refine w_K y156_18 ?_
  refine y_II y156_21 ?_
  have g48 := (mD_n h46 (by decide) h43.2.1)
  refine y_ist y156_22 g48 (by omega) (by decide) ?_
  intro σ50 h49
  refine w_A y156_23 rfl ?_
  refine y_dup y156_24 rfl ?_
  have g51 := (mD_n h49 (by decide) h46.2.1)
  refine y_gf y156_25 g51 rfl rfl ?_
  refine w_K y156_28 ?_
  refine w_add y156_29 ?_
  refine y_pf y156_30 g51 rfl rfl ?_
  intro σ53 h52
  refine zGo_s y156_33 rfl ?_
  refine w_go y156_36 rfl ?_
  refine w_I y156_3 rfl ?_
  refine w_ifT y156_4 rfl (by decide) ?_
  have g54 := (mD_n h52 (by decide) h49.2.1)
  exact w_ret0 y156_39 ⟨rfl, _, h52.2.1, rfl, (yA_tr (yA_u (j := 2) (by rfl)) (yA_tr (yA_u (j := 2) (by rfl)) (yA_tr (yA_u (j := 2) (by rfl)) (yA_u (j := 2) (by rfl))))), g54, (yF_tr (yF_D h31 (by rfl)) (yF_tr (yF_D h34 (by rfl)) (yF_tr (yF_D h37 (by rfl)) (yF_tr (yF_D h40 (by rfl)) (yF_tr (yF_D h43 (by rfl)) (yF_tr (yF_D h46 (by rfl)) (yF_tr (yF_D h49 (by rfl)) (yF_D h52 (by rfl)))))))))⟩
set_option maxRecDepth 100000 in
theorem y157_0 : iv_f1 (iv_p 157) 0 = some (.inl (iv_oA 0 1)) := rfl
set_option maxRecDepth 100000 in
theorem y157_1 : iv_f1 (iv_p 157) 1 = some (.inl (iv_oK (.int (Int32.ofNat 0)) 1)) := rfl
set_option maxRecDepth 100000 in
theorem y157_2 : iv_f1 (iv_p 157) 2 = some (.inl (iv_oPF 12 0 .int)) := rfl
set_option maxRecDepth 100000 in
theorem y157_5 : iv_f1 (iv_p 157) 5 = some (.inl (iv_oA 0 1)) := rfl
set_option maxRecDepth 100000 in
theorem y157_6 : iv_f1 (iv_p 157) 6 = some (.inl (iv_oGF 12 2)) := rfl
set_option maxRecDepth 100000 in
theorem y157_9 : iv_f1 (iv_p 157) 9 = some (.inl (iv_oK (.int (Int32.ofNat 20)) 2)) := rfl
set_option maxRecDepth 100000 in
theorem y157_11 : iv_f1 (iv_p 157) 11 = some (.inl (iv_oII fun x y => x + y)) := rfl
set_option maxRecDepth 100000 in
theorem y157_12 : iv_f1 (iv_p 157) 12 = some (.inl (iv_oK (.int (Int32.ofNat 940)) 3)) := rfl
set_option maxRecDepth 100000 in
theorem y157_15 : iv_f1 (iv_p 157) 15 = some (.inl (iv_oIc .le (5))) := rfl
set_option maxRecDepth 100000 in
theorem y157_18 : iv_f1 (iv_p 157) 18 = some (.inl (iv_oK (.int (Int32.ofInt (-1))) 1)) := rfl
set_option maxRecDepth 100000 in
theorem y157_19 : iv_f1 (iv_p 157) 19 = some (.inr (.inl 1)) := rfl
set_option maxRecDepth 100000 in
theorem y157_20 : iv_f1 (iv_p 157) 20 = some (.inl (iv_oA 0 1)) := rfl
set_option maxRecDepth 100000 in
theorem y157_21 : iv_f1 (iv_p 157) 21 = some (.inl (iv_oI 1 1)) := rfl
set_option maxRecDepth 100000 in
theorem y157_22 : iv_f1 (iv_p 157) 22 = some (.inr (.inr (6, 156, 1, 12))) := rfl
set_option maxRecDepth 100000 in
theorem y157_25 : iv_f1 (iv_p 157) 25 = some (.inl (iv_oA 0 1)) := rfl
set_option maxRecDepth 100000 in
theorem y157_26 : iv_f1 (iv_p 157) 26 = some (.inl (iv_oI 2 1)) := rfl
set_option maxRecDepth 100000 in
theorem y157_27 : iv_f1 (iv_p 157) 27 = some (.inr (.inr (6, 156, 1, 12))) := rfl
set_option maxRecDepth 100000 in
theorem y157_30 : iv_f1 (iv_p 157) 30 = some (.inl (iv_oA 0 1)) := rfl
set_option maxRecDepth 100000 in
theorem y157_31 : iv_f1 (iv_p 157) 31 = some (.inl (iv_oI 3 1)) := rfl
set_option maxRecDepth 100000 in
theorem y157_32 : iv_f1 (iv_p 157) 32 = some (.inr (.inr (6, 156, 1, 12))) := rfl
set_option maxRecDepth 100000 in
theorem y157_35 : iv_f1 (iv_p 157) 35 = some (.inl (iv_oA 0 1)) := rfl
set_option maxRecDepth 100000 in
theorem y157_36 : iv_f1 (iv_p 157) 36 = some (.inl (iv_oI 4 2)) := rfl
set_option maxRecDepth 100000 in
theorem y157_38 : iv_f1 (iv_p 157) 38 = some (.inr (.inr (6, 156, 1, 12))) := rfl
set_option maxRecDepth 100000 in
theorem y157_41 : iv_f1 (iv_p 157) 41 = some (.inl (iv_oA 0 1)) := rfl
set_option maxRecDepth 100000 in
theorem y157_42 : iv_f1 (iv_p 157) 42 = some (.inl (iv_oI 5 2)) := rfl
set_option maxRecDepth 100000 in
theorem y157_44 : iv_f1 (iv_p 157) 44 = some (.inr (.inr (6, 156, 1, 12))) := rfl
set_option maxRecDepth 100000 in
theorem y157_47 : iv_f1 (iv_p 157) 47 = some (.inl (iv_oA 0 1)) := rfl
set_option maxRecDepth 100000 in
theorem y157_48 : iv_f1 (iv_p 157) 48 = some (.inl (iv_oGF 12 2)) := rfl
set_option maxRecDepth 100000 in
theorem y157_51 : iv_f1 (iv_p 157) 51 = some (.inr (.inl 1)) := rfl
theorem yf_m_feed {L : Nat} {xs : Nat → Int32} {d n : Nat} {σ : iv_H} {V : Nat → Value} {f : Nat → Int32} {a b c e h : Int32} (hd : 1 ≤ d) (hn : n ≤ 940) (g : iv_get σ 548 = some (yob 12 49 V)) (gt : iv_get σ 550 = some (yai 940 f)) (vb : V 2 = .int (Int32.ofNat n)) (vt : V 1 = .ref 550) : ∃ r σ1, iv_Rn L xs d 157 0 (lv_args 0 [.ref 548, .int a, .int b, .int c, .int e, .int h]) [] σ (some (.int r)) σ1 ∧ ∃ V1, iv_get σ1 548 = some (yob 12 49 V1) ∧ yAg [0, 2] V V1 ∧ yFr [548, 550] σ σ1 ∧ ((n ≤ 920 ∧ V1 2 = .int (Int32.ofNat (n + 20)) ∧ iv_get σ1 550 = some (yai 940 (y20 f n a b c e h))) ∨ (920 < n ∧ V1 2 = .int (Int32.ofNat n) ∧ iv_get σ1 550 = some (yai 940 f))) := by
  obtain ⟨d, rfl⟩ : ∃ e, d = e + 1 := ⟨d - 1, by omega⟩
  have key : zGo L xs (fun r σ1 => ∃ v, r = some (.int v) ∧ ∃ V1, iv_get σ1 548 = some (yob 12 49 V1) ∧ yAg [0, 2] V V1 ∧ yFr [548, 550] σ σ1 ∧ ((n ≤ 920 ∧ V1 2 = .int (Int32.ofNat (n + 20)) ∧ iv_get σ1 550 = some (yai 940 (y20 f n a b c e h))) ∨ (920 < n ∧ V1 2 = .int (Int32.ofNat n) ∧ iv_get σ1 550 = some (yai 940 f)))) [] (d + 1) 157 0 (lv_args 0 [.ref 548, .int a, .int b, .int c, .int e, .int h]) [] σ := by
    refine w_A y157_0 rfl ?_
    refine w_K y157_1 ?_
    refine y_pf y157_2 g rfl rfl ?_
    intro σ56 h55
    refine w_A y157_5 rfl ?_
    refine y_gf y157_6 h55.2.1 rfl vb ?_
    refine w_K y157_9 ?_
    refine w_add y157_11 ?_
    refine w_K y157_12 ?_
    by_cases c57 : n + 20 ≤ 940
    · skip
      refine y_icT y157_15 rfl (by omega) (by omega) (by simp only [zch]; omega) ?_
      refine w_A y157_20 rfl ?_
      refine w_I y157_21 rfl ?_
      have g59 := (mD_n h55 (by decide) gt)
      obtain ⟨σ58, r58, V58, g58, v58, a58, t58, f58⟩ := yf_m_4 (L := L) (xs := xs) (d := d) (n := n + 0) (a := a) (by omega) h55.2.1 g59 vb vt
      refine y_call0 y157_22 (y_args6 h55.2.1 rfl rfl) rfl r58 ?_
      have w58 : V58 1 = _ := (a58 1 (by rfl)).trans vt
      refine w_A y157_25 rfl ?_
      refine w_I y157_26 rfl ?_
      obtain ⟨σ60, r60, V60, g60, v60, a60, t60, f60⟩ := yf_m_4 (L := L) (xs := xs) (d := d) (n := n + 4) (a := b) (by omega) g58 t58 v58 w58
      refine y_call0 y157_27 (y_args6 g58 rfl rfl) rfl r60 ?_
      have w60 : V60 1 = _ := (a60 1 (by rfl)).trans w58
      refine w_A y157_30 rfl ?_
      refine w_I y157_31 rfl ?_
      obtain ⟨σ61, r61, V61, g61, v61, a61, t61, f61⟩ := yf_m_4 (L := L) (xs := xs) (d := d) (n := n + 8) (a := c) (by omega) g60 t60 v60 w60
      refine y_call0 y157_32 (y_args6 g60 rfl rfl) rfl r61 ?_
      have w61 : V61 1 = _ := (a61 1 (by rfl)).trans w60
      refine w_A y157_35 rfl ?_
      refine w_I y157_36 rfl ?_
      obtain ⟨σ62, r62, V62, g62, v62, a62, t62, f62⟩ := yf_m_4 (L := L) (xs := xs) (d := d) (n := n + 12) (a := e) (by omega) g61 t61 v61 w61
      refine y_call0 y157_38 (y_args6 g61 rfl rfl) rfl r62 ?_
      have w62 : V62 1 = _ := (a62 1 (by rfl)).trans w61
      refine w_A y157_41 rfl ?_
      refine w_I y157_42 rfl ?_
      obtain ⟨σ63, r63, V63, g63, v63, a63, t63, f63⟩ := yf_m_4 (L := L) (xs := xs) (d := d) (n := n + 16) (a := h) (by omega) g62 t62 v62 w62
      refine y_call0 y157_44 (y_args6 g62 rfl rfl) rfl r63 ?_
      have w63 : V63 1 = _ := (a63 1 (by rfl)).trans w62
      refine w_A y157_47 rfl ?_
      refine y_gf y157_48 g63 rfl v63 ?_
      exact y_ret y157_51 rfl ⟨_, rfl, _, g63, (yA_tr (yA_u (j := 0) (by rfl)) (yA_tr (yA_sub (by rfl) a58) (yA_tr (yA_sub (by rfl) a60) (yA_tr (yA_sub (by rfl) a61) (yA_tr (yA_sub (by rfl) a62) (yA_sub (by rfl) a63)))))), (yF_tr (yF_D h55 (by rfl)) (yF_tr (yF_sub (by rfl) f58) (yF_tr (yF_sub (by rfl) f60) (yF_tr (yF_sub (by rfl) f61) (yF_tr (yF_sub (by rfl) f62) (yF_sub (by rfl) f63)))))), .inl ⟨by omega, v63, t63⟩⟩
    · skip
      refine y_icF y157_15 rfl (by omega) (by omega) (by simp only [zch]; omega) ?_
      refine w_K y157_18 ?_
      have g64 := (mD_n h55 (by decide) gt)
      exact y_ret y157_19 rfl ⟨_, rfl, _, h55.2.1, (yA_u (j := 0) (by rfl)), (yF_D h55 (by rfl)), .inr ⟨by omega, vb, g64⟩⟩
  obtain ⟨r, σ1, h1, h2⟩ := key
  obtain ⟨v, e1, h3⟩ := (show ∃ v, r = some (.int v) ∧ _ from h2)
  exact ⟨v, σ1, by rw [← e1]; exact h1, h3⟩
