/-! ===== printed by wip/gen/y/c7.py: the tokens of the class ===== -/
theorem y_cmpI {c : ClassFile.Cond} {x y : Int64} : iv_c2 c (lg_cmp x y) 0 = true ↔ zch c (if x.toInt < y.toInt then -1 else if x.toInt = y.toInt then 0 else 1) 0 := by
  rw [zch_32]
  have h := zlcmp (x := x) (y := y)
  by_cases h1 : x.toInt < y.toInt
  · rw [if_pos h1, h.1 h1]
    rfl
  · rw [if_neg h1]
    by_cases h2 : x.toInt = y.toInt
    · rw [if_pos h2, h.2.1 h2]
      rfl
    · rw [if_neg h2, h.2.2 (by omega)]
      rfl
theorem y_cmpN {v a : Nat} (hv : v ≤ 1000000) (ha : a ≤ 1000000) : (Int64.ofNat v).toInt = v ∧ ((Int32.ofNat a).toInt64).toInt = a := by
  rw [y_i64 ha]
  exact ⟨Int64.toInt_ofNat_of_lt (by omega), Int64.toInt_ofNat_of_lt (by omega)⟩
theorem y_ltT {v a : Nat} (hv : v ≤ 1000000) (ha : a ≤ 1000000) (h : v < a) : iv_c2 .lt (lg_cmp (Int64.ofNat v) (Int32.ofNat a).toInt64) 0 = true := y_cmpI.mpr (by
  rw [(y_cmpN hv ha).1, (y_cmpN hv ha).2, if_pos (by omega)]
  exact (by decide : (-1 : Int) < 0))
theorem y_ltF {v a : Nat} (hv : v ≤ 1000000) (ha : a ≤ 1000000) (h : ¬ v < a) : iv_c2 .lt (lg_cmp (Int64.ofNat v) (Int32.ofNat a).toInt64) 0 = false := c_f (fun e => by
  have e := y_cmpI.mp e
  rw [(y_cmpN hv ha).1, (y_cmpN hv ha).2, if_neg (by omega)] at e
  simp only [zch] at e
  split at e <;> omega)
theorem y_leT {v a : Nat} (hv : v ≤ 1000000) (ha : a ≤ 1000000) (h : v ≤ a) : iv_c2 .le (lg_cmp (Int64.ofNat v) (Int32.ofNat a).toInt64) 0 = true := y_cmpI.mpr (by
  rw [(y_cmpN hv ha).1, (y_cmpN hv ha).2]
  simp only [zch]
  split
  · omega
  · rw [if_pos (by omega)]
    exact Int.le_refl 0)
theorem y_leF {v a : Nat} (hv : v ≤ 1000000) (ha : a ≤ 1000000) (h : ¬ v ≤ a) : iv_c2 .le (lg_cmp (Int64.ofNat v) (Int32.ofNat a).toInt64) 0 = false := c_f (fun e => by
  have e := y_cmpI.mp e
  rw [(y_cmpN hv ha).1, (y_cmpN hv ha).2, if_neg (by omega), if_neg (by omega)] at e
  simp only [zch] at e
  omega)
set_option maxRecDepth 100000 in
theorem y51_0 : iv_f1 (iv_p 51) 0 = some (.inl (iv_oA 0 1)) := rfl
set_option maxRecDepth 100000 in
theorem y51_1 : iv_f1 (iv_p 51) 1 = some (.inl (iv_oGF 5 0)) := rfl
set_option maxRecDepth 100000 in
theorem y51_4 : iv_f1 (iv_p 51) 4 = some (.inl (iv_oK (.int (Int32.ofNat 901)) 3)) := rfl
set_option maxRecDepth 100000 in
theorem y51_7 : iv_f1 (iv_p 51) 7 = some (.inl (iv_oIc .ge (54))) := rfl
set_option maxRecDepth 100000 in
theorem y51_10 : iv_f1 (iv_p 51) 10 = some (.inl (iv_oA 0 1)) := rfl
set_option maxRecDepth 100000 in
theorem y51_11 : iv_f1 (iv_p 51) 11 = some (.inl (iv_oGF 5 1)) := rfl
set_option maxRecDepth 100000 in
theorem y51_14 : iv_f1 (iv_p 51) 14 = some (.inl (iv_oA 0 1)) := rfl
set_option maxRecDepth 100000 in
theorem y51_15 : iv_f1 (iv_p 51) 15 = some (.inl (iv_oGF 5 0)) := rfl
set_option maxRecDepth 100000 in
theorem y51_18 : iv_f1 (iv_p 51) 18 = some (.inl (iv_oI 1 1)) := rfl
set_option maxRecDepth 100000 in
theorem y51_19 : iv_f1 (iv_p 51) 19 = some (.inl iv_oIst) := rfl
set_option maxRecDepth 100000 in
theorem y51_20 : iv_f1 (iv_p 51) 20 = some (.inl (iv_oA 0 1)) := rfl
set_option maxRecDepth 100000 in
theorem y51_21 : iv_f1 (iv_p 51) 21 = some (.inl (iv_oGF 5 2)) := rfl
set_option maxRecDepth 100000 in
theorem y51_24 : iv_f1 (iv_p 51) 24 = some (.inl (iv_oA 0 1)) := rfl
set_option maxRecDepth 100000 in
theorem y51_25 : iv_f1 (iv_p 51) 25 = some (.inl (iv_oGF 5 0)) := rfl
set_option maxRecDepth 100000 in
theorem y51_28 : iv_f1 (iv_p 51) 28 = some (.inl (iv_oI 2 1)) := rfl
set_option maxRecDepth 100000 in
theorem y51_29 : iv_f1 (iv_p 51) 29 = some (.inl iv_oIst) := rfl
set_option maxRecDepth 100000 in
theorem y51_30 : iv_f1 (iv_p 51) 30 = some (.inl (iv_oA 0 1)) := rfl
set_option maxRecDepth 100000 in
theorem y51_31 : iv_f1 (iv_p 51) 31 = some (.inl (iv_oGF 5 3)) := rfl
set_option maxRecDepth 100000 in
theorem y51_34 : iv_f1 (iv_p 51) 34 = some (.inl (iv_oA 0 1)) := rfl
set_option maxRecDepth 100000 in
theorem y51_35 : iv_f1 (iv_p 51) 35 = some (.inl (iv_oGF 5 0)) := rfl
set_option maxRecDepth 100000 in
theorem y51_38 : iv_f1 (iv_p 51) 38 = some (.inl (iv_oJ 3 1)) := rfl
set_option maxRecDepth 100000 in
theorem y51_39 : iv_f1 (iv_p 51) 39 = some (.inl iv_oJst) := rfl
set_option maxRecDepth 100000 in
theorem y51_40 : iv_f1 (iv_p 51) 40 = some (.inl (iv_oA 0 1)) := rfl
set_option maxRecDepth 100000 in
theorem y51_41 : iv_f1 (iv_p 51) 41 = some (.inl (iv_oGF 5 4)) := rfl
set_option maxRecDepth 100000 in
theorem y51_44 : iv_f1 (iv_p 51) 44 = some (.inl (iv_oA 0 1)) := rfl
set_option maxRecDepth 100000 in
theorem y51_45 : iv_f1 (iv_p 51) 45 = some (.inl (iv_oGF 5 0)) := rfl
set_option maxRecDepth 100000 in
theorem y51_48 : iv_f1 (iv_p 51) 48 = some (.inl (iv_oA 5 2)) := rfl
set_option maxRecDepth 100000 in
theorem y51_50 : iv_f1 (iv_p 51) 50 = some (.inl iv_oQst) := rfl
set_option maxRecDepth 100000 in
theorem y51_51 : iv_f1 (iv_p 51) 51 = some (.inl (iv_oA 0 1)) := rfl
set_option maxRecDepth 100000 in
theorem y51_52 : iv_f1 (iv_p 51) 52 = some (.inl iv_oDup) := rfl
set_option maxRecDepth 100000 in
theorem y51_53 : iv_f1 (iv_p 51) 53 = some (.inl (iv_oGF 5 0)) := rfl
set_option maxRecDepth 100000 in
theorem y51_56 : iv_f1 (iv_p 51) 56 = some (.inl (iv_oK (.int (Int32.ofNat 1)) 1)) := rfl
set_option maxRecDepth 100000 in
theorem y51_57 : iv_f1 (iv_p 51) 57 = some (.inl (iv_oII fun x y => x + y)) := rfl
set_option maxRecDepth 100000 in
theorem y51_58 : iv_f1 (iv_p 51) 58 = some (.inl (iv_oPF 5 0 .int)) := rfl
set_option maxRecDepth 100000 in
theorem y51_61 : iv_f1 (iv_p 51) 61 = some (.inr (.inl 0)) := rfl
theorem yc_add {L : Nat} {xs : Nat → Int32} {d : Nat} {V : Nat → Value} {σ : iv_H} {K P : Nat → Int32} {X : Nat → Int64} {Q : Nat → Option Nat} {c kd pl wd : Nat} {v : Int64} (hc : c < 901) (hw : iv_isW wd = true) (g : iv_get σ 356 = some (yob 5 13 V)) (gk : iv_get σ 358 = some (yai 901 K)) (gp : iv_get σ 360 = some (yai 901 P)) (gv : iv_get σ 362 = some (yaj 901 X)) (gw : iv_get σ 364 = some (yaq 901 Q)) (v1 : V 1 = .ref 358) (v2 : V 2 = .ref 360) (v3 : V 3 = .ref 362) (v4 : V 4 = .ref 364) (v0 : V 0 = .int (Int32.ofNat c)) : ∃ σ1, iv_Rn L xs d 51 0 (lv_args 0 [.ref 356, .int (Int32.ofNat kd), .int (Int32.ofNat pl), .long v, .ref wd]) [] σ none σ1 ∧ ∃ V1, iv_get σ1 356 = some (yob 5 13 V1) ∧ yAg [0] V V1 ∧ V1 0 = .int (Int32.ofNat (c + 1)) ∧ iv_get σ1 358 = some (yai 901 (upd K c (Int32.ofNat kd))) ∧ iv_get σ1 360 = some (yai 901 (upd P c (Int32.ofNat pl))) ∧ iv_get σ1 362 = some (yaj 901 (vp_updL X c v)) ∧ iv_get σ1 364 = some (yaq 901 (va_up Q c (some wd))) ∧ yFr [356, 358, 360, 362, 364] σ σ1 := by
  refine y_R0 ?_
  refine w_A y51_0 rfl ?_
  refine y_gf y51_1 g rfl v0 ?_
  refine w_K y51_4 ?_
  refine y_icF y51_7 rfl (by omega) (by omega) (by simp only [zch]; omega) ?_
  refine w_A y51_10 rfl ?_
  refine y_gf y51_11 g rfl v1 ?_
  refine w_A y51_14 rfl ?_
  refine y_gf y51_15 g rfl v0 ?_
  refine w_I y51_18 rfl ?_
  refine y_ist y51_19 gk (by omega) (by decide) ?_
  intro σ2 h1
  refine w_A y51_20 rfl ?_
  have g3 := (mD_n h1 (by decide) g)
  refine y_gf y51_21 g3 rfl v2 ?_
  refine w_A y51_24 rfl ?_
  refine y_gf y51_25 g3 rfl v0 ?_
  refine w_I y51_28 rfl ?_
  have g4 := (mD_n h1 (by decide) gp)
  refine y_ist y51_29 g4 (by omega) (by decide) ?_
  intro σ6 h5
  refine w_A y51_30 rfl ?_
  have g7 := (mD_n h5 (by decide) g3)
  refine y_gf y51_31 g7 rfl v3 ?_
  refine w_A y51_34 rfl ?_
  refine y_gf y51_35 g7 rfl v0 ?_
  refine w_J y51_38 rfl ?_
  have g8 := (mD_n h5 (by decide) (mD_n h1 (by decide) gv))
  refine y_jst y51_39 g8 (by omega) (by decide) ?_
  intro σ10 h9
  refine w_A y51_40 rfl ?_
  have g11 := (mD_n h9 (by decide) g7)
  refine y_gf y51_41 g11 rfl v4 ?_
  refine w_A y51_44 rfl ?_
  refine y_gf y51_45 g11 rfl v0 ?_
  refine w_A y51_48 rfl ?_
  have g12 := (mD_n h9 (by decide) (mD_n h5 (by decide) (mD_n h1 (by decide) gw)))
  refine y_qst y51_50 g12 (by omega) (by decide) hw ?_
  intro σ14 h13
  refine w_A y51_51 rfl ?_
  refine y_dup y51_52 rfl ?_
  have g15 := (mD_n h13 (by decide) g11)
  refine y_gf y51_53 g15 rfl v0 ?_
  refine w_K y51_56 ?_
  refine w_add y51_57 ?_
  refine y_pf y51_58 g15 rfl rfl ?_
  intro σ17 h16
  have g18 := (mD_n h16 (by decide) (mD_n h13 (by decide) (mD_n h9 (by decide) (mD_n h5 (by decide) h1.2.1))))
  have g19 := (mD_n h16 (by decide) (mD_n h13 (by decide) (mD_n h9 (by decide) h5.2.1)))
  have g20 := (mD_n h16 (by decide) (mD_n h13 (by decide) h9.2.1))
  have g21 := (mD_n h16 (by decide) h13.2.1)
  exact w_ret0 y51_61 ⟨rfl, _, h16.2.1, (yA_u (j := 0) (by rfl)), rfl, g18, g19, g20, g21, (yF_tr (yF_D h1 (by rfl)) (yF_tr (yF_D h5 (by rfl)) (yF_tr (yF_D h9 (by rfl)) (yF_tr (yF_D h13 (by rfl)) (yF_D h16 (by rfl))))))⟩
set_option maxRecDepth 100000 in
theorem y52_0 : iv_f1 (iv_p 52) 0 = some (.inl (iv_oA 0 1)) := rfl
set_option maxRecDepth 100000 in
theorem y52_1 : iv_f1 (iv_p 52) 1 = some (.inl (iv_oGF 5 6)) := rfl
set_option maxRecDepth 100000 in
theorem y52_4 : iv_f1 (iv_p 52) 4 = some (.inl (iv_oK (.int (Int32.ofNat 1)) 1)) := rfl
set_option maxRecDepth 100000 in
theorem y52_5 : iv_f1 (iv_p 52) 5 = some (.inl (iv_oII fun x y => x + y)) := rfl
set_option maxRecDepth 100000 in
theorem y52_6 : iv_f1 (iv_p 52) 6 = some (.inl (iv_oA 0 1)) := rfl
set_option maxRecDepth 100000 in
theorem y52_7 : iv_f1 (iv_p 52) 7 = some (.inl (iv_oGF 5 0)) := rfl
set_option maxRecDepth 100000 in
theorem y52_10 : iv_f1 (iv_p 52) 10 = some (.inl (iv_oIc .ge (65))) := rfl
set_option maxRecDepth 100000 in
theorem y52_13 : iv_f1 (iv_p 52) 13 = some (.inl (iv_oA 0 1)) := rfl
set_option maxRecDepth 100000 in
theorem y52_14 : iv_f1 (iv_p 52) 14 = some (.inl iv_oDup) := rfl
set_option maxRecDepth 100000 in
theorem y52_15 : iv_f1 (iv_p 52) 15 = some (.inl (iv_oGF 5 6)) := rfl
set_option maxRecDepth 100000 in
theorem y52_18 : iv_f1 (iv_p 52) 18 = some (.inl (iv_oK (.int (Int32.ofNat 1)) 1)) := rfl
set_option maxRecDepth 100000 in
theorem y52_19 : iv_f1 (iv_p 52) 19 = some (.inl (iv_oII fun x y => x + y)) := rfl
set_option maxRecDepth 100000 in
theorem y52_20 : iv_f1 (iv_p 52) 20 = some (.inl (iv_oPF 5 6 .int)) := rfl
set_option maxRecDepth 100000 in
theorem y52_23 : iv_f1 (iv_p 52) 23 = some (.inl (iv_oA 0 1)) := rfl
set_option maxRecDepth 100000 in
theorem y52_24 : iv_f1 (iv_p 52) 24 = some (.inl (iv_oA 0 1)) := rfl
set_option maxRecDepth 100000 in
theorem y52_25 : iv_f1 (iv_p 52) 25 = some (.inl (iv_oGF 5 1)) := rfl
set_option maxRecDepth 100000 in
theorem y52_28 : iv_f1 (iv_p 52) 28 = some (.inl (iv_oA 0 1)) := rfl
set_option maxRecDepth 100000 in
theorem y52_29 : iv_f1 (iv_p 52) 29 = some (.inl (iv_oGF 5 6)) := rfl
set_option maxRecDepth 100000 in
theorem y52_32 : iv_f1 (iv_p 52) 32 = some (.inl iv_oIl) := rfl
set_option maxRecDepth 100000 in
theorem y52_33 : iv_f1 (iv_p 52) 33 = some (.inl (iv_oPF 5 8 .int)) := rfl
set_option maxRecDepth 100000 in
theorem y52_36 : iv_f1 (iv_p 52) 36 = some (.inl (iv_oA 0 1)) := rfl
set_option maxRecDepth 100000 in
theorem y52_37 : iv_f1 (iv_p 52) 37 = some (.inl (iv_oA 0 1)) := rfl
set_option maxRecDepth 100000 in
theorem y52_38 : iv_f1 (iv_p 52) 38 = some (.inl (iv_oGF 5 2)) := rfl
set_option maxRecDepth 100000 in
theorem y52_41 : iv_f1 (iv_p 52) 41 = some (.inl (iv_oA 0 1)) := rfl
set_option maxRecDepth 100000 in
theorem y52_42 : iv_f1 (iv_p 52) 42 = some (.inl (iv_oGF 5 6)) := rfl
set_option maxRecDepth 100000 in
theorem y52_45 : iv_f1 (iv_p 52) 45 = some (.inl iv_oIl) := rfl
set_option maxRecDepth 100000 in
theorem y52_46 : iv_f1 (iv_p 52) 46 = some (.inl (iv_oPF 5 7 .int)) := rfl
set_option maxRecDepth 100000 in
theorem y52_49 : iv_f1 (iv_p 52) 49 = some (.inl (iv_oA 0 1)) := rfl
set_option maxRecDepth 100000 in
theorem y52_50 : iv_f1 (iv_p 52) 50 = some (.inl (iv_oA 0 1)) := rfl
set_option maxRecDepth 100000 in
theorem y52_51 : iv_f1 (iv_p 52) 51 = some (.inl (iv_oGF 5 3)) := rfl
set_option maxRecDepth 100000 in
theorem y52_54 : iv_f1 (iv_p 52) 54 = some (.inl (iv_oA 0 1)) := rfl
set_option maxRecDepth 100000 in
theorem y52_55 : iv_f1 (iv_p 52) 55 = some (.inl (iv_oGF 5 6)) := rfl
set_option maxRecDepth 100000 in
theorem y52_58 : iv_f1 (iv_p 52) 58 = some (.inl iv_oJl) := rfl
set_option maxRecDepth 100000 in
theorem y52_59 : iv_f1 (iv_p 52) 59 = some (.inl (iv_oPF 5 10 .long)) := rfl
set_option maxRecDepth 100000 in
theorem y52_62 : iv_f1 (iv_p 52) 62 = some (.inl (iv_oA 0 1)) := rfl
set_option maxRecDepth 100000 in
theorem y52_63 : iv_f1 (iv_p 52) 63 = some (.inl (iv_oA 0 1)) := rfl
set_option maxRecDepth 100000 in
theorem y52_64 : iv_f1 (iv_p 52) 64 = some (.inl (iv_oGF 5 4)) := rfl
set_option maxRecDepth 100000 in
theorem y52_67 : iv_f1 (iv_p 52) 67 = some (.inl (iv_oA 0 1)) := rfl
set_option maxRecDepth 100000 in
theorem y52_68 : iv_f1 (iv_p 52) 68 = some (.inl (iv_oGF 5 6)) := rfl
set_option maxRecDepth 100000 in
theorem y52_71 : iv_f1 (iv_p 52) 71 = some (.inl iv_oQl) := rfl
set_option maxRecDepth 100000 in
theorem y52_72 : iv_f1 (iv_p 52) 72 = some (.inl (iv_oPF 5 9 (iv_fty 5 9))) := rfl
set_option maxRecDepth 100000 in
theorem y52_75 : iv_f1 (iv_p 52) 75 = some (.inr (.inl 0)) := rfl
theorem yc_adv {L : Nat} {xs : Nat → Int32} {d : Nat} {V : Nat → Value} {σ : iv_H} {K P : Nat → Int32} {X : Nat → Int64} {Q : Nat → Option Nat} {c k wd : Nat} {x : Int32} (hk : k < c) (hc : c ≤ 901) (hx : x + Int32.ofNat 1 = Int32.ofNat k) (hq : Q k = some wd) (g : iv_get σ 356 = some (yob 5 13 V)) (gk : iv_get σ 358 = some (yai 901 K)) (gp : iv_get σ 360 = some (yai 901 P)) (gv : iv_get σ 362 = some (yaj 901 X)) (gw : iv_get σ 364 = some (yaq 901 Q)) (v1 : V 1 = .ref 358) (v2 : V 2 = .ref 360) (v3 : V 3 = .ref 362) (v4 : V 4 = .ref 364) (v0 : V 0 = .int (Int32.ofNat c)) (v6 : V 6 = .int x) : ∃ σ1, iv_Rn L xs d 52 0 (lv_args 0 [.ref 356]) [] σ none σ1 ∧ ∃ V1, iv_get σ1 356 = some (yob 5 13 V1) ∧ yAg [6, 7, 8, 9, 10] V V1 ∧ V1 6 = .int (Int32.ofNat k) ∧ V1 7 = .int (P k) ∧ V1 8 = .int (K k) ∧ V1 9 = .ref wd ∧ V1 10 = .long (X k) ∧ yFr [356] σ σ1 := by
  refine y_R0 ?_
  refine w_A y52_0 rfl ?_
  refine y_gf y52_1 g rfl v6 ?_
  refine w_K y52_4 ?_
  refine y_IIk (z := k) y52_5 hx ?_
  refine w_A y52_6 rfl ?_
  refine y_gf y52_7 g rfl v0 ?_
  refine y_icF y52_10 rfl (by omega) (by omega) (by simp only [zch]; omega) ?_
  refine w_A y52_13 rfl ?_
  refine y_dup y52_14 rfl ?_
  refine y_gf y52_15 g rfl v6 ?_
  refine w_K y52_18 ?_
  refine y_IIk (z := k) y52_19 hx ?_
  refine y_pf y52_20 g rfl rfl ?_
  intro σ23 h22
  refine w_A y52_23 rfl ?_
  refine w_A y52_24 rfl ?_
  refine y_gf y52_25 h22.2.1 rfl v1 ?_
  refine w_A y52_28 rfl ?_
  refine y_gf y52_29 h22.2.1 rfl rfl ?_
  have g24 := (mD_n h22 (by decide) gk)
  refine y_il y52_32 g24 rfl rfl (by omega) (by decide) ?_
  refine y_pf y52_33 h22.2.1 rfl rfl ?_
  intro σ26 h25
  refine w_A y52_36 rfl ?_
  refine w_A y52_37 rfl ?_
  refine y_gf y52_38 h25.2.1 rfl v2 ?_
  refine w_A y52_41 rfl ?_
  refine y_gf y52_42 h25.2.1 rfl rfl ?_
  have g27 := (mD_n h25 (by decide) (mD_n h22 (by decide) gp))
  refine y_il y52_45 g27 rfl rfl (by omega) (by decide) ?_
  refine y_pf y52_46 h25.2.1 rfl rfl ?_
  intro σ29 h28
  refine w_A y52_49 rfl ?_
  refine w_A y52_50 rfl ?_
  refine y_gf y52_51 h28.2.1 rfl v3 ?_
  refine w_A y52_54 rfl ?_
  refine y_gf y52_55 h28.2.1 rfl rfl ?_
  have g30 := (mD_n h28 (by decide) (mD_n h25 (by decide) (mD_n h22 (by decide) gv)))
  refine y_jl y52_58 g30 (by omega) (by decide) ?_
  refine y_pf y52_59 h28.2.1 rfl rfl ?_
  intro σ32 h31
  refine w_A y52_62 rfl ?_
  refine w_A y52_63 rfl ?_
  refine y_gf y52_64 h31.2.1 rfl v4 ?_
  refine w_A y52_67 rfl ?_
  refine y_gf y52_68 h31.2.1 rfl rfl ?_
  have g33 := (mD_n h31 (by decide) (mD_n h28 (by decide) (mD_n h25 (by decide) (mD_n h22 (by decide) gw))))
  refine y_ql y52_71 g33 (by omega) (by decide) hq ?_
  refine y_pf y52_72 h31.2.1 rfl rfl ?_
  intro σ35 h34
  exact w_ret0 y52_75 ⟨rfl, _, h34.2.1, (yA_tr (yA_u (j := 6) (by rfl)) (yA_tr (yA_u (j := 8) (by rfl)) (yA_tr (yA_u (j := 7) (by rfl)) (yA_tr (yA_u (j := 10) (by rfl)) (yA_u (j := 9) (by rfl)))))), rfl, rfl, rfl, rfl, rfl, (yF_tr (yF_D h22 (by rfl)) (yF_tr (yF_D h25 (by rfl)) (yF_tr (yF_D h28 (by rfl)) (yF_tr (yF_D h31 (by rfl)) (yF_D h34 (by rfl))))))⟩
set_option maxRecDepth 100000 in
theorem y53_0 : iv_f1 (iv_p 53) 0 = some (.inl (iv_oA 0 1)) := rfl
set_option maxRecDepth 100000 in
theorem y53_1 : iv_f1 (iv_p 53) 1 = some (.inl (iv_oGF 5 8)) := rfl
set_option maxRecDepth 100000 in
theorem y53_4 : iv_f1 (iv_p 53) 4 = some (.inl (iv_oIf .ne (14))) := rfl
set_option maxRecDepth 100000 in
theorem y53_7 : iv_f1 (iv_p 53) 7 = some (.inl (iv_oA 0 1)) := rfl
set_option maxRecDepth 100000 in
theorem y53_8 : iv_f1 (iv_p 53) 8 = some (.inl (iv_oGF 5 5)) := rfl
set_option maxRecDepth 100000 in
theorem y53_11 : iv_f1 (iv_p 53) 11 = some (.inl (iv_oIf .ne (7))) := rfl
set_option maxRecDepth 100000 in
theorem y53_14 : iv_f1 (iv_p 53) 14 = some (.inl (iv_oK (.int (Int32.ofNat 1)) 1)) := rfl
set_option maxRecDepth 100000 in
theorem y53_15 : iv_f1 (iv_p 53) 15 = some (.inl (iv_oGo (4))) := rfl
set_option maxRecDepth 100000 in
theorem y53_18 : iv_f1 (iv_p 53) 18 = some (.inl (iv_oK (.int (Int32.ofNat 0)) 1)) := rfl
set_option maxRecDepth 100000 in
theorem y53_19 : iv_f1 (iv_p 53) 19 = some (.inr (.inl 2)) := rfl
theorem yc_ov {L : Nat} {xs : Nat → Int32} {d : Nat} {V : Nat → Value} {σ : iv_H} {kd : Nat} {b : Bool} (hkd : kd ≤ 9) (g : iv_get σ 356 = some (yob 5 13 V)) (v8 : V 8 = .int (Int32.ofNat kd)) (v5 : V 5 = .int (yb b)) : iv_Rn L xs d 53 0 (lv_args 0 [.ref 356]) [] σ (some (.int (yb (decide (kd = 0 ∧ b = false))))) σ := by
  refine y_Rp ?_
  refine w_A y53_0 rfl ?_
  refine y_gf y53_1 g rfl v8 ?_
  by_cases c36 : kd ≠ 0
  · skip
    refine y_ifT y53_4 rfl (by omega) (by simp only [zch]; omega) ?_
    refine w_K y53_18 ?_
    exact y_ret y53_19 rfl ⟨y_f (fun h => by have := h.1; omega), rfl⟩
  · skip
    refine y_ifF y53_4 rfl (by omega) (by simp only [zch]; omega) ?_
    refine w_A y53_7 rfl ?_
    refine y_gf y53_8 g rfl v5 ?_
    rcases y_bc (b) with b37 | b37
    · skip
      refine w_ifF y53_11 rfl (y_bneF b37) ?_
      refine w_K y53_14 ?_
      refine w_go y53_15 rfl ?_
      exact y_ret y53_19 rfl ⟨y_t ⟨by omega, b37⟩, rfl⟩
    · skip
      refine w_ifT y53_11 rfl (y_bneT b37) ?_
      refine w_K y53_18 ?_
      exact y_ret y53_19 rfl ⟨y_f (fun h => by rw [b37] at h; cases h.2), rfl⟩
set_option maxRecDepth 100000 in
theorem y54_0 : iv_f1 (iv_p 54) 0 = some (.inl (iv_oA 0 1)) := rfl
set_option maxRecDepth 100000 in
theorem y54_1 : iv_f1 (iv_p 54) 1 = some (.inl (iv_oGF 5 8)) := rfl
set_option maxRecDepth 100000 in
theorem y54_4 : iv_f1 (iv_p 54) 4 = some (.inl (iv_oK (.int (Int32.ofNat 1)) 1)) := rfl
set_option maxRecDepth 100000 in
theorem y54_5 : iv_f1 (iv_p 54) 5 = some (.inl (iv_oIc .ne (17))) := rfl
set_option maxRecDepth 100000 in
theorem y54_8 : iv_f1 (iv_p 54) 8 = some (.inl (iv_oA 0 1)) := rfl
set_option maxRecDepth 100000 in
theorem y54_9 : iv_f1 (iv_p 54) 9 = some (.inl (iv_oGF 5 9)) := rfl
set_option maxRecDepth 100000 in
theorem y54_12 : iv_f1 (iv_p 54) 12 = some (.inl (iv_oS 3)) := rfl
set_option maxRecDepth 100000 in
theorem y54_15 : iv_f1 (iv_p 54) 15 = some (.inl (iv_oAc (7))) := rfl
set_option maxRecDepth 100000 in
theorem y54_18 : iv_f1 (iv_p 54) 18 = some (.inl (iv_oK (.int (Int32.ofNat 1)) 1)) := rfl
set_option maxRecDepth 100000 in
theorem y54_19 : iv_f1 (iv_p 54) 19 = some (.inl (iv_oGo (4))) := rfl
set_option maxRecDepth 100000 in
theorem y54_22 : iv_f1 (iv_p 54) 22 = some (.inl (iv_oK (.int (Int32.ofNat 0)) 1)) := rfl
set_option maxRecDepth 100000 in
theorem y54_23 : iv_f1 (iv_p 54) 23 = some (.inr (.inl 2)) := rfl
theorem y_ac {L : Nat} {xs : Nat → Int32} {Post : Option Value → iv_H → Prop} {d M pc t : Nat} {lv : iv_L} {st : List Value} {σ : iv_H} {off : Int} {a b : Nat} (hf : iv_f1 (iv_p M) pc = some (.inl (iv_oAc off))) (ha : iv_isW a = true) (hb : iv_isW b = true) (ht : iv_tgt pc off = some t) (k : zGo L xs Post [] d M (if a = b then pc + 3 else t) lv st σ) : zGo L xs Post [] d M pc lv (.ref b :: .ref a :: st) σ := zGo_s hf (by
  unfold iv_oAc iv_br
  simp only [ha, hb, ht, Bool.and_self, cond_true]
  by_cases h : a = b
  · subst h
    rw [if_pos rfl, Nat.beq_refl]
    rfl
  · rw [if_neg h, y_beq h]
    rfl) k
theorem yc_nm {L : Nat} {xs : Nat → Int32} {d : Nat} {V : Nat → Value} {σ : iv_H} {kd wd : Nat} (hkd : kd ≤ 9) (hw : iv_isW wd = true) (g : iv_get σ 356 = some (yob 5 13 V)) (v8 : V 8 = .int (Int32.ofNat kd)) (v9 : V 9 = .ref wd) : iv_Rn L xs d 54 0 (lv_args 0 [.ref 356]) [] σ (some (.int (yb (decide (kd = 1 ∧ wd = 3))))) σ := by
  refine y_Rp ?_
  refine w_A y54_0 rfl ?_
  refine y_gf y54_1 g rfl v8 ?_
  refine w_K y54_4 ?_
  by_cases c38 : kd ≠ 1
  · skip
    refine y_icT y54_5 rfl (by omega) (by omega) (by simp only [zch]; omega) ?_
    refine w_K y54_22 ?_
    exact y_ret y54_23 rfl ⟨y_f (fun h => by have := h.1; omega), rfl⟩
  · skip
    refine y_icF y54_5 rfl (by omega) (by omega) (by simp only [zch]; omega) ?_
    refine w_A y54_8 rfl ?_
    refine y_gf y54_9 g rfl v9 ?_
    refine zGo_s y54_12 rfl ?_
    refine y_ac y54_15 hw rfl rfl ?_
    by_cases e39 : wd = 3
    · skip
      rw [if_pos e39]
      refine w_K y54_18 ?_
      refine w_go y54_19 rfl ?_
      exact y_ret y54_23 rfl ⟨y_t ⟨by omega, e39⟩, rfl⟩
    · skip
      rw [if_neg e39]
      refine w_K y54_22 ?_
      exact y_ret y54_23 rfl ⟨y_f (fun h => e39 h.2), rfl⟩
set_option maxRecDepth 100000 in
theorem y55_0 : iv_f1 (iv_p 55) 0 = some (.inl (iv_oA 0 1)) := rfl
set_option maxRecDepth 100000 in
theorem y55_1 : iv_f1 (iv_p 55) 1 = some (.inl (iv_oGF 5 8)) := rfl
set_option maxRecDepth 100000 in
theorem y55_4 : iv_f1 (iv_p 55) 4 = some (.inl (iv_oK (.int (Int32.ofNat 3)) 1)) := rfl
set_option maxRecDepth 100000 in
theorem y55_5 : iv_f1 (iv_p 55) 5 = some (.inl (iv_oIc .ne (17))) := rfl
set_option maxRecDepth 100000 in
theorem y55_8 : iv_f1 (iv_p 55) 8 = some (.inl (iv_oA 0 1)) := rfl
set_option maxRecDepth 100000 in
theorem y55_9 : iv_f1 (iv_p 55) 9 = some (.inl (iv_oGF 5 10)) := rfl
set_option maxRecDepth 100000 in
theorem y55_12 : iv_f1 (iv_p 55) 12 = some (.inl (iv_oI 1 1)) := rfl
set_option maxRecDepth 100000 in
theorem y55_13 : iv_f1 (iv_p 55) 13 = some (.inl (iv_oUI fun x => .long x.toInt64)) := rfl
set_option maxRecDepth 100000 in
theorem y55_14 : iv_f1 (iv_p 55) 14 = some (.inl iv_oCmp) := rfl
set_option maxRecDepth 100000 in
theorem y55_15 : iv_f1 (iv_p 55) 15 = some (.inl (iv_oIf .ne (7))) := rfl
set_option maxRecDepth 100000 in
theorem y55_18 : iv_f1 (iv_p 55) 18 = some (.inl (iv_oK (.int (Int32.ofNat 1)) 1)) := rfl
set_option maxRecDepth 100000 in
theorem y55_19 : iv_f1 (iv_p 55) 19 = some (.inl (iv_oGo (4))) := rfl
set_option maxRecDepth 100000 in
theorem y55_22 : iv_f1 (iv_p 55) 22 = some (.inl (iv_oK (.int (Int32.ofNat 0)) 1)) := rfl
set_option maxRecDepth 100000 in
theorem y55_23 : iv_f1 (iv_p 55) 23 = some (.inr (.inl 2)) := rfl
theorem yc_mk {L : Nat} {xs : Nat → Int32} {d : Nat} {V : Nat → Value} {σ : iv_H} {kd c : Nat} {v : Int64} (hkd : kd ≤ 9) (g : iv_get σ 356 = some (yob 5 13 V)) (v8 : V 8 = .int (Int32.ofNat kd)) (v10 : V 10 = .long v) : iv_Rn L xs d 55 0 (lv_args 0 [.ref 356, .int (Int32.ofNat c)]) [] σ (some (.int (yb (decide (kd = 3 ∧ v = (Int32.ofNat c).toInt64))))) σ := by
  refine y_Rp ?_
  refine w_A y55_0 rfl ?_
  refine y_gf y55_1 g rfl v8 ?_
  refine w_K y55_4 ?_
  by_cases c40 : kd ≠ 3
  · skip
    refine y_icT y55_5 rfl (by omega) (by omega) (by simp only [zch]; omega) ?_
    refine w_K y55_22 ?_
    exact y_ret y55_23 rfl ⟨y_f (fun h => by have := h.1; omega), rfl⟩
  · skip
    refine y_icF y55_5 rfl (by omega) (by omega) (by simp only [zch]; omega) ?_
    refine w_A y55_8 rfl ?_
    refine y_gf y55_9 g rfl v10 ?_
    refine w_I y55_12 rfl ?_
    refine y_UI y55_13 ?_
    refine w_cmp y55_14 ?_
    by_cases e41 : v = ((Int32.ofNat c)).toInt64
    · skip
      refine w_ifF y55_15 rfl (lg_eq e41) ?_
      refine w_K y55_18 ?_
      refine w_go y55_19 rfl ?_
      exact y_ret y55_23 rfl ⟨y_t ⟨by omega, e41⟩, rfl⟩
    · skip
      refine w_ifT y55_15 rfl (lg_ne e41) ?_
      refine w_K y55_22 ?_
      exact y_ret y55_23 rfl ⟨y_f (fun h => e41 h.2), rfl⟩
set_option maxRecDepth 100000 in
theorem y56_0 : iv_f1 (iv_p 56) 0 = some (.inl (iv_oA 0 1)) := rfl
set_option maxRecDepth 100000 in
theorem y56_1 : iv_f1 (iv_p 56) 1 = some (.inl (iv_oI 1 1)) := rfl
set_option maxRecDepth 100000 in
theorem y56_2 : iv_f1 (iv_p 56) 2 = some (.inl (iv_oPF 5 11 .int)) := rfl
set_option maxRecDepth 100000 in
theorem y56_5 : iv_f1 (iv_p 56) 5 = some (.inl (iv_oA 0 1)) := rfl
set_option maxRecDepth 100000 in
theorem y56_6 : iv_f1 (iv_p 56) 6 = some (.inl (iv_oA 0 1)) := rfl
set_option maxRecDepth 100000 in
theorem y56_7 : iv_f1 (iv_p 56) 7 = some (.inl (iv_oGF 5 7)) := rfl
set_option maxRecDepth 100000 in
theorem y56_10 : iv_f1 (iv_p 56) 10 = some (.inl (iv_oPF 5 12 .int)) := rfl
set_option maxRecDepth 100000 in
theorem y56_13 : iv_f1 (iv_p 56) 13 = some (.inl (iv_oK (.int (Int32.ofNat 0)) 1)) := rfl
set_option maxRecDepth 100000 in
theorem y56_14 : iv_f1 (iv_p 56) 14 = some (.inr (.inl 2)) := rfl
theorem yc_rf {L : Nat} {xs : Nat → Int32} {d : Nat} {V : Nat → Value} {σ : iv_H} {k pl : Nat} (g : iv_get σ 356 = some (yob 5 13 V)) (v7 : V 7 = .int (Int32.ofNat pl)) : ∃ σ1, iv_Rn L xs d 56 0 (lv_args 0 [.ref 356, .int (Int32.ofNat k)]) [] σ (some (.int (Int32.ofNat 0))) σ1 ∧ ∃ V1, iv_get σ1 356 = some (yob 5 13 V1) ∧ yAg [11, 12] V V1 ∧ V1 11 = .int (Int32.ofNat k) ∧ V1 12 = .int (Int32.ofNat pl) ∧ yFr [356] σ σ1 := by
  refine y_Rn ?_
  refine w_A y56_0 rfl ?_
  refine w_I y56_1 rfl ?_
  refine y_pf y56_2 g rfl rfl ?_
  intro σ43 h42
  refine w_A y56_5 rfl ?_
  refine w_A y56_6 rfl ?_
  refine y_gf y56_7 h42.2.1 rfl v7 ?_
  refine y_pf y56_10 h42.2.1 rfl rfl ?_
  intro σ45 h44
  refine w_K y56_13 ?_
  exact y_ret y56_14 rfl ⟨rfl, _, h44.2.1, (yA_tr (yA_u (j := 11) (by rfl)) (yA_u (j := 12) (by rfl))), rfl, rfl, (yF_tr (yF_D h42 (by rfl)) (yF_D h44 (by rfl)))⟩
