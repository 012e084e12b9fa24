/-! ===== printed by wip/gen/gen91.py: methods that copy, by hand ===== -/
theorem c_neT {a b : Nat} (h : ¬ a = b) (ha : a ≤ 1000000) (hb : b ≤ 1000000) : iv_c2 .ne (Int32.ofNat a) (Int32.ofNat b) = true := zch_32.mpr (by
  have e1 : (Int32.ofNat a).toInt = a := Int32.toInt_ofNat_of_lt (by omega)
  have e2 : (Int32.ofNat b).toInt = b := Int32.toInt_ofNat_of_lt (by omega)
  show ¬ (Int32.ofNat a).toInt = (Int32.ofNat b).toInt
  omega)
theorem mO_set0 {fs : List Value} (h : mO fs) {x : Int32} : mO (fs.set 0 (.int x)) := by
  unfold mO at h ⊢
  simp only [iv_nth_set, List.length_set]
  simpa using h
theorem f255_0 : iv_f1 (iv_p 255) 0 = some (.inl (iv_oK (.int (Int32.ofNat 0)) 1)) := rfl
theorem f255_1 : iv_f1 (iv_p 255) 1 = some (.inl (iv_oIS 1 1)) := rfl
theorem f255_29 : iv_f1 (iv_p 255) 29 = some (.inr (.inl 0)) := rfl
theorem f256_0 : iv_f1 (iv_p 256) 0 = some (.inl (iv_oK (.int (Int32.ofNat 0)) 1)) := rfl
theorem f256_1 : iv_f1 (iv_p 256) 1 = some (.inl (iv_oIS 1 1)) := rfl
theorem f256_29 : iv_f1 (iv_p 256) 29 = some (.inr (.inl 0)) := rfl
theorem f207_49 : iv_f1 (iv_p 207) 49 = some (.inl (iv_oK (.int (Int32.ofNat 0)) 1)) := rfl
theorem f207_50 : iv_f1 (iv_p 207) 50 = some (.inl (iv_oIS 1 1)) := rfl
theorem f207_86 : iv_f1 (iv_p 207) 86 = some (.inl (iv_oA 0 1)) := rfl
theorem f207_87 : iv_f1 (iv_p 207) 87 = some (.inl (iv_oDup)) := rfl
theorem f207_88 : iv_f1 (iv_p 207) 88 = some (.inl (iv_oGF 12 24)) := rfl
set_option maxRecDepth 8000 in
theorem f207_91 : iv_f1 (iv_p 207) 91 = some (.inl (iv_oK (.int (Int32.ofNat 1)) 1)) := rfl
set_option maxRecDepth 8000 in
theorem f207_92 : iv_f1 (iv_p 207) 92 = some (.inl (iv_oII fun x y => x + y)) := rfl
set_option maxRecDepth 8000 in
theorem f207_93 : iv_f1 (iv_p 207) 93 = some (.inl (iv_oPF 12 24 .int)) := rfl
set_option maxRecDepth 8000 in
theorem f207_96 : iv_f1 (iv_p 207) 96 = some (.inr (.inl 0)) := rfl
theorem f207_0 : iv_f1 (iv_p 207) 0 = some (.inl (iv_oA 0 1)) := rfl
theorem f207_1 : iv_f1 (iv_p 207) 1 = some (.inl (iv_oGF 12 24)) := rfl
theorem f207_4 : iv_f1 (iv_p 207) 4 = some (.inl (iv_oK (.int (Int32.ofNat 8)) 2)) := rfl
theorem f207_6 : iv_f1 (iv_p 207) 6 = some (.inl (iv_oIc .ne (43))) := rfl
theorem f207_9 : iv_f1 (iv_p 207) 9 = some (.inl (iv_oK (.int (Int32.ofNat 0)) 1)) := rfl
theorem f207_10 : iv_f1 (iv_p 207) 10 = some (.inl (iv_oIS 1 1)) := rfl
theorem f207_39 : iv_f1 (iv_p 207) 39 = some (.inl (iv_oA 0 1)) := rfl
theorem f207_40 : iv_f1 (iv_p 207) 40 = some (.inl (iv_oDup)) := rfl
theorem f207_41 : iv_f1 (iv_p 207) 41 = some (.inl (iv_oGF 12 24)) := rfl
theorem f207_44 : iv_f1 (iv_p 207) 44 = some (.inl (iv_oK (.int (Int32.ofNat 1)) 1)) := rfl
theorem f207_45 : iv_f1 (iv_p 207) 45 = some (.inl (iv_oII fun x y => x - y)) := rfl
theorem f207_46 : iv_f1 (iv_p 207) 46 = some (.inl (iv_oPF 12 24 .int)) := rfl
theorem f219_0 : iv_f1 (iv_p 219) 0 = some (.inl (iv_oA 0 1)) := rfl
theorem f219_1 : iv_f1 (iv_p 219) 1 = some (.inl (iv_oK (.int (Int32.ofNat 0)) 1)) := rfl
theorem f219_2 : iv_f1 (iv_p 219) 2 = some (.inl (iv_oPF 12 0 .int)) := rfl
theorem f219_5 : iv_f1 (iv_p 219) 5 = some (.inl (iv_oA 0 1)) := rfl
theorem f219_6 : iv_f1 (iv_p 219) 6 = some (.inl (iv_oGF 12 24)) := rfl
theorem f219_9 : iv_f1 (iv_p 219) 9 = some (.inl (iv_oIf .ne (5))) := rfl
theorem f219_12 : iv_f1 (iv_p 219) 12 = some (.inl (iv_oK (.int (-1)) 1)) := rfl
theorem f219_13 : iv_f1 (iv_p 219) 13 = some (.inr (.inl 1)) := rfl
theorem f219_14 : iv_f1 (iv_p 219) 14 = some (.inl (iv_oA 0 1)) := rfl
theorem f219_15 : iv_f1 (iv_p 219) 15 = some (.inl (iv_oDup)) := rfl
theorem f219_16 : iv_f1 (iv_p 219) 16 = some (.inl (iv_oGF 12 24)) := rfl
theorem f219_19 : iv_f1 (iv_p 219) 19 = some (.inl (iv_oK (.int (Int32.ofNat 1)) 1)) := rfl
theorem f219_20 : iv_f1 (iv_p 219) 20 = some (.inl (iv_oII fun x y => x - y)) := rfl
theorem f219_21 : iv_f1 (iv_p 219) 21 = some (.inl (iv_oPF 12 24 .int)) := rfl
theorem f219_24 : iv_f1 (iv_p 219) 24 = some (.inl (iv_oK (.int (Int32.ofNat 0)) 1)) := rfl
theorem f219_25 : iv_f1 (iv_p 219) 25 = some (.inl (iv_oIS 1 1)) := rfl
theorem f219_61 : iv_f1 (iv_p 219) 61 = some (.inl (iv_oA 0 1)) := rfl
theorem f219_62 : iv_f1 (iv_p 219) 62 = some (.inl (iv_oGF 12 24)) := rfl
theorem f219_65 : iv_f1 (iv_p 219) 65 = some (.inr (.inl 1)) := rfl
theorem g_lay {L : Nat} {xs : Nat → Int32} {Post : Option Value → iv_H → Prop} {d : Nat} {lv : iv_L} {σ : iv_H} {fs : List Value} {N A : Nat → Int32} (l0 : iv_f1 lv 0 = some (.ref 548)) (ho : iv_get σ 548 = some (.inr (12, fs))) (mo : mO fs) (gN : iv_get σ 552 = some (.inl (0, 374, .inl N))) (gA : iv_get σ 560 = some (.inl (0, 94, .inl A))) (k : ∀ σ2, mD σ σ2 560 (.inl (0, 94, .inl (va_cpy N A 38 0 94))) → Post none σ2) : zGo L xs Post [] d 255 0 lv [] σ := by
  refine w_K f255_0 ?_
  refine w_IS f255_1 ?_
  refine l255_2 (iv_d1_d1 1 lv) (lv_d l0 (by decide)) ho mo gA gN 94 0 rfl σ (by rw [cp_0]; exact mD_rf gA) (fun σ2 h2 => ?_)
  exact w_ret0 f255_29 (k σ2 h2)
theorem g_tb {L : Nat} {xs : Nat → Int32} {Post : Option Value → iv_H → Prop} {d : Nat} {lv : iv_L} {σ : iv_H} {fs : List Value} {N A : Nat → Int32} (l0 : iv_f1 lv 0 = some (.ref 548)) (ho : iv_get σ 548 = some (.inr (12, fs))) (mo : mO fs) (gN : iv_get σ 552 = some (.inl (0, 374, .inl N))) (gA : iv_get σ 560 = some (.inl (0, 94, .inl A))) (k : ∀ σ2, mD σ σ2 552 (.inl (0, 374, .inl (va_cpy A N 0 38 94))) → Post none σ2) : zGo L xs Post [] d 256 0 lv [] σ := by
  refine w_K f256_0 ?_
  refine w_IS f256_1 ?_
  refine l256_2 (iv_d1_d1 1 lv) (lv_d l0 (by decide)) ho mo gN gA 94 0 rfl σ (by rw [cp_0]; exact mD_rf gN) (fun σ2 h2 => ?_)
  exact w_ret0 f256_29 (k σ2 h2)
theorem g_snap2 {L : Nat} {xs : Nat → Int32} {Post : Option Value → iv_H → Prop} {d : Nat} {lv : iv_L} {σ : iv_H} {fs : List Value} {N S : Nat → Int32} {sm : Nat} (l0 : iv_f1 lv 0 = some (.ref 548)) (ho : iv_get σ 548 = some (.inr (12, fs))) (mo : mO fs) (e24 : iv_nth fs 24 = some (.int (Int32.ofNat sm))) (hsm : sm ≤ 7) (gN : iv_get σ 552 = some (.inl (0, 374, .inl N))) (gS : iv_get σ 558 = some (.inl (0, 752, .inl S))) (k : ∀ σ2, mD σ σ2 558 (.inl (0, 752, .inl (va_cpy N S 38 (94 * sm) 94))) → Post none (iv_put σ2 548 (.inr (12, fs.set 24 (.int (Int32.ofNat (sm + 1))))))) : zGo L xs Post [] d 207 49 lv [] σ := by
  refine w_K f207_49 ?_
  refine w_IS f207_50 ?_
  refine l207_51 (iv_d1_d1 1 lv) (lv_d l0 (by decide)) ho mo e24 hsm gS gN 94 0 rfl σ (by rw [cp_0]; exact mD_rf gS) (fun σ2 h2 => ?_)
  have ho2 := mD_n h2 (by decide) ho
  refine w_A f207_86 (lv_d l0 (by decide)) ?_
  refine w_dup f207_87 ?_
  refine w_gf f207_88 ho2 e24 ?_
  refine w_K f207_91 ?_
  refine w_add f207_92 ?_
  refine w_pf f207_93 ho2 rfl (by have := mo.1; omega) ?_
  exact w_ret0 f207_96 (k σ2 h2)
theorem g_snap {L : Nat} {xs : Nat → Int32} {Post : Option Value → iv_H → Prop} {d : Nat} {lv : iv_L} {σ : iv_H} {fs : List Value} {N S : Nat → Int32} {sm : Nat} (l0 : iv_f1 lv 0 = some (.ref 548)) (ho : iv_get σ 548 = some (.inr (12, fs))) (mo : mO fs) (e24 : iv_nth fs 24 = some (.int (Int32.ofNat sm))) (hsm : sm ≤ 8) (gN : iv_get σ 552 = some (.inl (0, 374, .inl N))) (gS : iv_get σ 558 = some (.inl (0, 752, .inl S))) (k1 : sm ≤ 7 → ∀ σ2, mD σ σ2 558 (.inl (0, 752, .inl (va_cpy N S 38 (94 * sm) 94))) → Post none (iv_put σ2 548 (.inr (12, fs.set 24 (.int (Int32.ofNat (sm + 1))))))) (k2 : sm = 8 → ∀ σ1 σ2, mD σ σ1 558 (.inl (0, 752, .inl (va_cpy S S 94 0 658))) → mD (iv_put σ1 548 (.inr (12, fs.set 24 (.int (Int32.ofNat 7))))) σ2 558 (.inl (0, 752, .inl (va_cpy N (va_cpy S S 94 0 658) 38 (94 * 7) 94))) → Post none (iv_put σ2 548 (.inr (12, (fs.set 24 (.int (Int32.ofNat 7))).set 24 (.int (Int32.ofNat 8)))))) : zGo L xs Post [] d 207 0 lv [] σ := by
  refine w_A f207_0 l0 ?_
  refine w_gf f207_1 ho e24 ?_
  refine w_K f207_4 ?_
  by_cases h8 : sm = 8
  · subst h8
    refine w_icF f207_6 rfl rfl ?_
    refine w_K f207_9 ?_
    refine w_IS f207_10 ?_
    refine l207_11 (iv_d1_d1 1 lv) (lv_d l0 (by decide)) ho mo gS 658 0 rfl σ (by rw [cp_0]; exact mD_rf gS) (fun σ1 h1 => ?_)
    have ho1 := mD_n h1 (by decide) ho
    refine w_A f207_39 (lv_d l0 (by decide)) ?_
    refine w_dup f207_40 ?_
    refine w_gf f207_41 ho1 e24 ?_
    refine w_K f207_44 ?_
    refine w_sub (by decide) f207_45 ?_
    refine w_pf f207_46 ho1 rfl (by have := mo.1; omega) ?_
    have h3 := mD_put2 (e2 := .inr (12, fs.set 24 (.int (Int32.ofNat 7)))) ho1
    exact g_snap2 (sm := 7) (show iv_f1 ((1, Value.int (Int32.ofNat 658)) :: iv_d1 1 lv) 0 = some (.ref 548) from lv_d l0 (by decide)) h3.2.1 (mO_set mo (.inl rfl)) (by rw [iv_nth_set, if_pos ⟨rfl, by have := mo.1; omega⟩]) (by decide) (mD_n h3 (by decide) (mD_n h1 (by decide) gN)) (mD_n h3 (by decide) h1.2.1) (fun σ2 h2 => k2 rfl σ1 σ2 h1 h2)
  · refine w_icT f207_6 rfl (c_neT h8 (by omega) (by decide)) ?_
    exact g_snap2 l0 ho mo e24 (by omega) gN gS (k1 (by omega))
theorem g_undo {L : Nat} {xs : Nat → Int32} {Post : Option Value → iv_H → Prop} {d : Nat} {lv : iv_L} {σ : iv_H} {fs : List Value} {N S : Nat → Int32} {sm : Nat} (l0 : iv_f1 lv 0 = some (.ref 548)) (ho : iv_get σ 548 = some (.inr (12, fs))) (mo : mO fs) (e24 : iv_nth fs 24 = some (.int (Int32.ofNat sm))) (hsm : sm ≤ 8) (gN : iv_get σ 552 = some (.inl (0, 374, .inl N))) (gS : iv_get σ 558 = some (.inl (0, 752, .inl S))) (k1 : sm = 0 → Post (some (.int (-1))) (iv_put σ 548 (.inr (12, fs.set 0 (.int (Int32.ofNat 0)))))) (k2 : 1 ≤ sm → ∀ σ2, mD (iv_put (iv_put σ 548 (.inr (12, fs.set 0 (.int (Int32.ofNat 0))))) 548 (.inr (12, (fs.set 0 (.int (Int32.ofNat 0))).set 24 (.int (Int32.ofNat (sm - 1)))))) σ2 552 (.inl (0, 374, .inl (va_cpy S N (94 * (sm - 1)) 38 94))) → Post (some (.int (Int32.ofNat (sm - 1)))) σ2) : zGo L xs Post [] d 219 0 lv [] σ := by
  refine w_A f219_0 l0 ?_
  refine w_K f219_1 ?_
  refine w_pf f219_2 ho rfl (by have := mo.1; omega) ?_
  have h1 := mD_put2 (e2 := .inr (12, fs.set 0 (.int (Int32.ofNat 0)))) ho
  have e1 : iv_nth (fs.set 0 (.int (Int32.ofNat 0))) 24 = some (.int (Int32.ofNat sm)) := by rw [iv_nth_set, if_neg (by omega)]; exact e24
  refine w_A f219_5 l0 ?_
  refine w_gf f219_6 h1.2.1 e1 ?_
  by_cases h8 : sm = 0
  · subst h8
    refine w_ifF f219_9 rfl rfl ?_
    refine w_K f219_12 ?_
    exact w_ret1 f219_13 (k1 rfl)
  · refine w_ifT f219_9 rfl (c_neT (b := 0) h8 (by omega) (by decide)) ?_
    refine w_A f219_14 l0 ?_
    refine w_dup f219_15 ?_
    refine w_gf f219_16 h1.2.1 e1 ?_
    refine w_K f219_19 ?_
    refine w_sub (by omega) f219_20 ?_
    refine w_pf f219_21 h1.2.1 rfl (by rw [List.length_set]; have := mo.1; omega) ?_
    have h2 := mD_put2 (e2 := .inr (12, (fs.set 0 (.int (Int32.ofNat 0))).set 24 (.int (Int32.ofNat (sm - 1))))) h1.2.1
    have mo2 : mO ((fs.set 0 (.int (Int32.ofNat 0))).set 24 (.int (Int32.ofNat (sm - 1)))) := mO_set (mO_set0 mo) (.inl rfl)
    have e2 : iv_nth ((fs.set 0 (.int (Int32.ofNat 0))).set 24 (.int (Int32.ofNat (sm - 1)))) 24 = some (.int (Int32.ofNat (sm - 1))) := by rw [iv_nth_set, if_pos ⟨rfl, by rw [List.length_set]; have := mo.1; omega⟩]
    have gN2 := mD_n h2 (by decide) (mD_n h1 (by decide) gN)
    have gS2 := mD_n h2 (by decide) (mD_n h1 (by decide) gS)
    refine w_K f219_24 ?_
    refine w_IS f219_25 ?_
    refine l219_26 (iv_d1_d1 1 lv) (lv_d l0 (by decide)) h2.2.1 mo2 e2 (by omega) gN2 gS2 94 0 rfl _ (by rw [cp_0]; exact mD_rf gN2) (fun σ2 h3 => ?_)
    have ho3 := mD_n h3 (by decide) h2.2.1
    refine w_A f219_61 (lv_d l0 (by decide)) ?_
    refine w_gf f219_62 ho3 e2 ?_
    exact w_ret1 f219_65 (k2 (by omega) σ2 h3)
