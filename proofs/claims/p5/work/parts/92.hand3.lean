/-! ===== printed by wip/gen/gen92.py: methods that copy, by hand ===== -/
theorem w_args0 {σ : iv_H} {fs : List Value} {st : List Value} (ho : iv_get σ 548 = some (.inr (12, fs))) (hs : Nat.ble (iv_cs st) 8 = true := by rfl) : iv_args 6 0 12 (.ref 548 :: st) σ = some ([.ref 548], st) := by
  simp only [iv_args, iv_pop, ho, hs, cond_true, show Nat.beq 6 4 = false from rfl, cond_false, show Nat.beq 6 6 = true from rfl, Nat.beq_refl]
theorem c_f {b : Bool} (h : ¬ b = true) : b = false := by cases b <;> simp_all
theorem v01 {v : Int32} (h1 : (Int32.ofNat 0).toInt ≤ v.toInt) (h2 : v.toInt ≤ (Int32.ofNat 1).toInt) : ∃ q : Nat, q ≤ 1 ∧ v = Int32.ofNat q := by
  have e0 : (Int32.ofNat 0).toInt = 0 := rfl
  have e1 : (Int32.ofNat 1).toInt = 1 := rfl
  have h : v.toInt = 0 ∨ v.toInt = 1 := by omega
  rcases h with h | h
  · exact ⟨0, by decide, Int32.toInt_inj.mp (by rw [h, e0])⟩
  · exact ⟨1, by decide, Int32.toInt_inj.mp (by rw [h, e1])⟩
theorem f179_0 : iv_f1 (iv_p 179) 0 = some (.inl (iv_oK (.int (Int32.ofNat 0)) 1)) := rfl
theorem f179_1 : iv_f1 (iv_p 179) 1 = some (.inl (iv_oIS 1 1)) := rfl
theorem f179_21 : iv_f1 (iv_p 179) 21 = some (.inl (iv_oK (.int (Int32.ofNat 0)) 1)) := rfl
theorem f179_22 : iv_f1 (iv_p 179) 22 = some (.inl (iv_oIS 1 1)) := rfl
theorem f179_41 : iv_f1 (iv_p 179) 41 = some (.inl (iv_oK (.int (Int32.ofNat 0)) 1)) := rfl
theorem f179_42 : iv_f1 (iv_p 179) 42 = some (.inl (iv_oIS 1 1)) := rfl
theorem f179_65 : iv_f1 (iv_p 179) 65 = some (.inl (iv_oA 0 1)) := rfl
theorem f179_66 : iv_f1 (iv_p 179) 66 = some (.inl (iv_oGF 12 15)) := rfl
theorem f179_69 : iv_f1 (iv_p 179) 69 = some (.inl (iv_oK (.int (Int32.ofNat 2)) 1)) := rfl
theorem f179_70 : iv_f1 (iv_p 179) 70 = some (.inl (iv_oK (.int (Int32.ofNat 3)) 1)) := rfl
theorem f179_71 : iv_f1 (iv_p 179) 71 = some (.inl (iv_oIst)) := rfl
theorem f179_72 : iv_f1 (iv_p 179) 72 = some (.inl (iv_oA 0 1)) := rfl
theorem f179_73 : iv_f1 (iv_p 179) 73 = some (.inl (iv_oGF 12 15)) := rfl
theorem f179_76 : iv_f1 (iv_p 179) 76 = some (.inl (iv_oK (.int (Int32.ofNat 3)) 1)) := rfl
theorem f179_77 : iv_f1 (iv_p 179) 77 = some (.inl (iv_oK (.int (Int32.ofNat 1)) 1)) := rfl
theorem f179_78 : iv_f1 (iv_p 179) 78 = some (.inl (iv_oIst)) := rfl
theorem f179_79 : iv_f1 (iv_p 179) 79 = some (.inr (.inl 0)) := rfl
theorem f180_38 : iv_f1 (iv_p 180) 38 = some (.inl (iv_oI 1 1)) := rfl
theorem f180_39 : iv_f1 (iv_p 180) 39 = some (.inl (iv_oK (.int (Int32.ofNat 7)) 2)) := rfl
theorem f180_41 : iv_f1 (iv_p 180) 41 = some (.inl (iv_oIc .ge (44))) := rfl
theorem f180_44 : iv_f1 (iv_p 180) 44 = some (.inl (iv_oA 0 1)) := rfl
theorem f180_45 : iv_f1 (iv_p 180) 45 = some (.inl (iv_oGF 12 14)) := rfl
theorem f180_48 : iv_f1 (iv_p 180) 48 = some (.inl (iv_oK (.int (Int32.ofNat 42)) 2)) := rfl
theorem f180_50 : iv_f1 (iv_p 180) 50 = some (.inl (iv_oI 1 1)) := rfl
theorem f180_51 : iv_f1 (iv_p 180) 51 = some (.inl (iv_oII fun x y => x + y)) := rfl
theorem f180_52 : iv_f1 (iv_p 180) 52 = some (.inl (iv_oA 0 1)) := rfl
theorem f180_53 : iv_f1 (iv_p 180) 53 = some (.inl (iv_oGF 12 14)) := rfl
theorem f180_56 : iv_f1 (iv_p 180) 56 = some (.inl (iv_oK (.int (Int32.ofNat 5)) 1)) := rfl
theorem f180_57 : iv_f1 (iv_p 180) 57 = some (.inl (iv_oI 1 1)) := rfl
theorem f180_58 : iv_f1 (iv_p 180) 58 = some (.inl (iv_oII fun x y => x + y)) := rfl
theorem f180_59 : iv_f1 (iv_p 180) 59 = some (.inl (iv_oIl)) := rfl
theorem f180_60 : iv_f1 (iv_p 180) 60 = some (.inl (iv_oIst)) := rfl
theorem f180_61 : iv_f1 (iv_p 180) 61 = some (.inl (iv_oA 0 1)) := rfl
theorem f180_62 : iv_f1 (iv_p 180) 62 = some (.inl (iv_oGF 12 14)) := rfl
theorem f180_65 : iv_f1 (iv_p 180) 65 = some (.inl (iv_oK (.int (Int32.ofNat 49)) 2)) := rfl
theorem f180_67 : iv_f1 (iv_p 180) 67 = some (.inl (iv_oI 1 1)) := rfl
theorem f180_68 : iv_f1 (iv_p 180) 68 = some (.inl (iv_oII fun x y => x + y)) := rfl
theorem f180_69 : iv_f1 (iv_p 180) 69 = some (.inl (iv_oA 0 1)) := rfl
theorem f180_70 : iv_f1 (iv_p 180) 70 = some (.inl (iv_oGF 12 14)) := rfl
theorem f180_73 : iv_f1 (iv_p 180) 73 = some (.inl (iv_oK (.int (Int32.ofNat 19)) 2)) := rfl
theorem f180_75 : iv_f1 (iv_p 180) 75 = some (.inl (iv_oI 1 1)) := rfl
theorem f180_76 : iv_f1 (iv_p 180) 76 = some (.inl (iv_oII fun x y => x + y)) := rfl
theorem f180_77 : iv_f1 (iv_p 180) 77 = some (.inl (iv_oIl)) := rfl
theorem f180_78 : iv_f1 (iv_p 180) 78 = some (.inl (iv_oIst)) := rfl
theorem f180_79 : iv_f1 (iv_p 180) 79 = some (.inl (iv_oInc 1 1)) := rfl
theorem f180_82 : iv_f1 (iv_p 180) 82 = some (.inl (iv_oGo (-44))) := rfl
theorem f180_0 : iv_f1 (iv_p 180) 0 = some (.inl (iv_oK (.int (Int32.ofNat 38)) 2)) := rfl
theorem f180_2 : iv_f1 (iv_p 180) 2 = some (.inl (iv_oIS 1 1)) := rfl
theorem f180_23 : iv_f1 (iv_p 180) 23 = some (.inl (iv_oA 0 1)) := rfl
theorem f180_24 : iv_f1 (iv_p 180) 24 = some (.inl (iv_oGF 12 14)) := rfl
theorem f180_27 : iv_f1 (iv_p 180) 27 = some (.inl (iv_oK (.int (Int32.ofNat 41)) 2)) := rfl
theorem f180_29 : iv_f1 (iv_p 180) 29 = some (.inl (iv_oA 0 1)) := rfl
theorem f180_30 : iv_f1 (iv_p 180) 30 = some (.inl (iv_oGF 12 14)) := rfl
theorem f180_33 : iv_f1 (iv_p 180) 33 = some (.inl (iv_oK (.int (Int32.ofNat 3)) 1)) := rfl
theorem f180_34 : iv_f1 (iv_p 180) 34 = some (.inl (iv_oIl)) := rfl
theorem f180_35 : iv_f1 (iv_p 180) 35 = some (.inl (iv_oIst)) := rfl
theorem f180_36 : iv_f1 (iv_p 180) 36 = some (.inl (iv_oK (.int (Int32.ofNat 0)) 1)) := rfl
theorem f180_37 : iv_f1 (iv_p 180) 37 = some (.inl (iv_oIS 1 1)) := rfl
theorem f180_85 : iv_f1 (iv_p 180) 85 = some (.inr (.inl 0)) := rfl
theorem f191_47 : iv_f1 (iv_p 191) 47 = some (.inl (iv_oK (.int (Int32.ofNat 0)) 1)) := rfl
theorem f191_48 : iv_f1 (iv_p 191) 48 = some (.inl (iv_oIS 2 1)) := rfl
theorem f191_73 : iv_f1 (iv_p 191) 73 = some (.inl (iv_oK (.int (Int32.ofNat 0)) 1)) := rfl
theorem f191_74 : iv_f1 (iv_p 191) 74 = some (.inl (iv_oIS 2 1)) := rfl
set_option maxRecDepth 8000 in
theorem f191_99 : iv_f1 (iv_p 191) 99 = some (.inl (iv_oA 0 1)) := rfl
set_option maxRecDepth 8000 in
theorem f191_100 : iv_f1 (iv_p 191) 100 = some (.inr (.inr (6, 180, 0, 12))) := rfl
set_option maxRecDepth 8000 in
theorem f191_103 : iv_f1 (iv_p 191) 103 = some (.inl (iv_oA 0 1)) := rfl
set_option maxRecDepth 8000 in
theorem f191_104 : iv_f1 (iv_p 191) 104 = some (.inl (iv_oK (.int (Int32.ofNat 0)) 1)) := rfl
set_option maxRecDepth 8000 in
theorem f191_105 : iv_f1 (iv_p 191) 105 = some (.inl (iv_oPF 12 24 .int)) := rfl
set_option maxRecDepth 8000 in
theorem f191_108 : iv_f1 (iv_p 191) 108 = some (.inl (iv_oI 1 1)) := rfl
set_option maxRecDepth 8000 in
theorem f191_109 : iv_f1 (iv_p 191) 109 = some (.inr (.inl 1)) := rfl
theorem f277_77 : iv_f1 (iv_p 277) 77 = some (.inl (iv_oK (.int (Int32.ofNat 0)) 1)) := rfl
theorem f277_78 : iv_f1 (iv_p 277) 78 = some (.inl (iv_oIS 1 1)) := rfl
set_option maxRecDepth 8000 in
theorem f277_108 : iv_f1 (iv_p 277) 108 = some (.inl (iv_oA 0 1)) := rfl
set_option maxRecDepth 8000 in
theorem f277_109 : iv_f1 (iv_p 277) 109 = some (.inl (iv_oGF 12 46)) := rfl
set_option maxRecDepth 8000 in
theorem f277_112 : iv_f1 (iv_p 277) 112 = some (.inr (.inl 1)) := rfl
theorem f160_0 : iv_f1 (iv_p 160) 0 = some (.inl (iv_oI 0 1)) := rfl
theorem f160_1 : iv_f1 (iv_p 160) 1 = some (.inl (iv_oI 1 1)) := rfl
theorem f160_2 : iv_f1 (iv_p 160) 2 = some (.inl (iv_oIc .lt (12))) := rfl
theorem f160_14 : iv_f1 (iv_p 160) 14 = some (.inl (iv_oK (.int (Int32.ofNat 0)) 1)) := rfl
theorem f160_15 : iv_f1 (iv_p 160) 15 = some (.inr (.inl 2)) := rfl
theorem f160_5 : iv_f1 (iv_p 160) 5 = some (.inl (iv_oI 0 1)) := rfl
theorem f160_6 : iv_f1 (iv_p 160) 6 = some (.inl (iv_oI 2 1)) := rfl
theorem f160_7 : iv_f1 (iv_p 160) 7 = some (.inl (iv_oIc .gt (7))) := rfl
theorem f160_10 : iv_f1 (iv_p 160) 10 = some (.inl (iv_oK (.int (Int32.ofNat 1)) 1)) := rfl
theorem f160_11 : iv_f1 (iv_p 160) 11 = some (.inl (iv_oGo (4))) := rfl
theorem f280_0 : iv_f1 (iv_p 280) 0 = some (.inl (iv_oA 0 1)) := rfl
theorem f280_1 : iv_f1 (iv_p 280) 1 = some (.inl (iv_oK (.int (Int32.ofNat 0)) 1)) := rfl
theorem f280_2 : iv_f1 (iv_p 280) 2 = some (.inl (iv_oPF 12 0 .int)) := rfl
theorem f280_5 : iv_f1 (iv_p 280) 5 = some (.inl (iv_oI 1 1)) := rfl
theorem f280_6 : iv_f1 (iv_p 280) 6 = some (.inl (iv_oK (.int (Int32.ofNat 0)) 1)) := rfl
theorem f280_7 : iv_f1 (iv_p 280) 7 = some (.inl (iv_oK (.int (Int32.ofNat 1)) 1)) := rfl
theorem f280_8 : iv_f1 (iv_p 280) 8 = some (.inr (.inr (4, 160, 3, 0))) := rfl
theorem f280_11 : iv_f1 (iv_p 280) 11 = some (.inl (iv_oIf .ne (5))) := rfl
theorem f280_16 : iv_f1 (iv_p 280) 16 = some (.inl (iv_oK (.int (Int32.ofNat 0)) 1)) := rfl
theorem f280_17 : iv_f1 (iv_p 280) 17 = some (.inl (iv_oIS 2 1)) := rfl
theorem f280_49 : iv_f1 (iv_p 280) 49 = some (.inl (iv_oK (.int (Int32.ofNat 0)) 1)) := rfl
theorem f280_50 : iv_f1 (iv_p 280) 50 = some (.inl (iv_oIS 2 1)) := rfl
theorem f280_80 : iv_f1 (iv_p 280) 80 = some (.inl (iv_oA 0 1)) := rfl
theorem f280_81 : iv_f1 (iv_p 280) 81 = some (.inl (iv_oGF 12 22)) := rfl
theorem f280_84 : iv_f1 (iv_p 280) 84 = some (.inl (iv_oI 1 1)) := rfl
theorem f280_85 : iv_f1 (iv_p 280) 85 = some (.inl (iv_oK (.int (Int32.ofNat 1)) 1)) := rfl
theorem f280_86 : iv_f1 (iv_p 280) 86 = some (.inl (iv_oZst)) := rfl
theorem f280_87 : iv_f1 (iv_p 280) 87 = some (.inl (iv_oK (.int (Int32.ofNat 1)) 1)) := rfl
theorem f280_88 : iv_f1 (iv_p 280) 88 = some (.inr (.inl 2)) := rfl
theorem f280_14 : iv_f1 (iv_p 280) 14 = some (.inl (iv_oK (.int (Int32.ofNat 0)) 1)) := rfl
theorem f280_15 : iv_f1 (iv_p 280) 15 = some (.inr (.inl 2)) := rfl
theorem f281_0 : iv_f1 (iv_p 281) 0 = some (.inl (iv_oA 0 1)) := rfl
theorem f281_1 : iv_f1 (iv_p 281) 1 = some (.inl (iv_oK (.int (Int32.ofNat 0)) 1)) := rfl
theorem f281_2 : iv_f1 (iv_p 281) 2 = some (.inl (iv_oPF 12 0 .int)) := rfl
theorem f281_5 : iv_f1 (iv_p 281) 5 = some (.inl (iv_oI 1 1)) := rfl
theorem f281_6 : iv_f1 (iv_p 281) 6 = some (.inl (iv_oK (.int (Int32.ofNat 0)) 1)) := rfl
theorem f281_7 : iv_f1 (iv_p 281) 7 = some (.inl (iv_oK (.int (Int32.ofNat 1)) 1)) := rfl
theorem f281_8 : iv_f1 (iv_p 281) 8 = some (.inr (.inr (4, 160, 3, 0))) := rfl
theorem f281_11 : iv_f1 (iv_p 281) 11 = some (.inl (iv_oIf .eq (12))) := rfl
theorem f281_14 : iv_f1 (iv_p 281) 14 = some (.inl (iv_oA 0 1)) := rfl
theorem f281_15 : iv_f1 (iv_p 281) 15 = some (.inl (iv_oGF 12 22)) := rfl
theorem f281_18 : iv_f1 (iv_p 281) 18 = some (.inl (iv_oI 1 1)) := rfl
theorem f281_19 : iv_f1 (iv_p 281) 19 = some (.inl (iv_oZl)) := rfl
theorem f281_20 : iv_f1 (iv_p 281) 20 = some (.inl (iv_oIf .ne (5))) := rfl
theorem f281_23 : iv_f1 (iv_p 281) 23 = some (.inl (iv_oK (.int (Int32.ofNat 0)) 1)) := rfl
theorem f281_24 : iv_f1 (iv_p 281) 24 = some (.inr (.inl 2)) := rfl
theorem f281_25 : iv_f1 (iv_p 281) 25 = some (.inl (iv_oK (.int (Int32.ofNat 0)) 1)) := rfl
theorem f281_26 : iv_f1 (iv_p 281) 26 = some (.inl (iv_oIS 2 1)) := rfl
theorem f281_58 : iv_f1 (iv_p 281) 58 = some (.inl (iv_oK (.int (Int32.ofNat 0)) 1)) := rfl
theorem f281_59 : iv_f1 (iv_p 281) 59 = some (.inl (iv_oIS 2 1)) := rfl
theorem f281_89 : iv_f1 (iv_p 281) 89 = some (.inl (iv_oA 0 1)) := rfl
set_option maxRecDepth 8000 in
theorem f281_90 : iv_f1 (iv_p 281) 90 = some (.inl (iv_oK (.int (Int32.ofNat 0)) 1)) := rfl
set_option maxRecDepth 8000 in
theorem f281_91 : iv_f1 (iv_p 281) 91 = some (.inl (iv_oPF 12 24 .int)) := rfl
set_option maxRecDepth 8000 in
theorem f281_94 : iv_f1 (iv_p 281) 94 = some (.inl (iv_oK (.int (Int32.ofNat 1)) 1)) := rfl
set_option maxRecDepth 8000 in
theorem f281_95 : iv_f1 (iv_p 281) 95 = some (.inr (.inl 2)) := rfl
theorem g_sr {L : Nat} {xs : Nat → Int32} {Post : Option Value → iv_H → Prop} {d : Nat} {lv : iv_L} {σ : iv_H} {fs : List Value} {R On : Nat → Int32} (l0 : iv_f1 lv 0 = some (.ref 548)) (ho : iv_get σ 548 = some (.inr (12, fs))) (mo : mO fs) (gR : iv_get σ 554 = some (.inl (0, 38, .inl R))) (gO : iv_get σ 570 = some (.inl (2, 3, .inl On))) (k : ∀ σ1 σ2 σ3, mD σ σ1 554 (.inl (0, 38, .inl (va_cpy (fun _ => (Int32.ofNat 0)) R 0 0 38))) → mD σ1 σ2 570 (.inl (2, 3, .inl (va_cpy (fun _ => (Int32.ofNat 0)) On 0 0 3))) → mD σ2 σ3 554 (.inl (0, 38, .inl (upd (upd (va_cpy (fun _ => (-1 : Int32)) (va_cpy (fun _ => (Int32.ofNat 0)) R 0 0 38) 0 19 7) 2 (Int32.ofNat 3)) 3 (Int32.ofNat 1)))) → Post none σ3) : zGo L xs Post [] d 179 0 lv [] σ := by
  refine w_K f179_0 ?_
  refine w_IS f179_1 ?_
  refine l179_2 (iv_d1_d1 1 lv) (lv_d l0 (by decide)) ho mo gR 38 0 rfl σ (by rw [cp_0]; exact mD_rf gR) (fun σ1 h1 => ?_)
  have ho1 := mD_n h1 (by decide) ho
  have gO1 := mD_n h1 (by decide) gO
  refine w_K f179_21 ?_
  refine w_ISr f179_22 (iv_d1_d1 1 lv) ?_
  refine l179_23 (iv_d1_d1 1 lv) (lv_d l0 (by decide)) ho1 mo gO1 3 0 rfl σ1 (by rw [cp_0]; exact mD_rf gO1) (fun σ2 h2 => ?_)
  have ho2 := mD_n h2 (by decide) ho1
  have gR2 := mD_n h2 (by decide) h1.2.1
  refine w_K f179_41 ?_
  refine w_ISr f179_42 (iv_d1_d1 1 lv) ?_
  refine l179_43 (iv_d1_d1 1 lv) (lv_d l0 (by decide)) ho2 mo gR2 7 0 rfl σ2 (by rw [cp_0]; exact mD_rf gR2) (fun σ3 h3 => ?_)
  have ho3 := mD_n h3 (by decide) ho2
  refine w_A f179_65 (lv_d l0 (by decide)) ?_
  refine w_gf f179_66 ho3 (mo.2.2.2.1) ?_
  refine w_K f179_69 ?_
  refine w_K f179_70 ?_
  refine w_ist f179_71 h3.2.1 (by decide) (by decide) ?_
  have h4 := mD_put (e2 := (.inl (0, 38, .inl (upd (va_cpy (fun _ => (-1 : Int32)) (va_cpy (fun _ => (Int32.ofNat 0)) R 0 0 38) 0 19 7) 2 (Int32.ofNat 3))))) h3
  have ho4 := mD_n h4 (by decide) ho2
  refine w_A f179_72 (lv_d l0 (by decide)) ?_
  refine w_gf f179_73 ho4 (mo.2.2.2.1) ?_
  refine w_K f179_76 ?_
  refine w_K f179_77 ?_
  refine w_ist f179_78 h4.2.1 (by decide) (by decide) ?_
  exact w_ret0 f179_79 (k σ1 σ2 _ h1 h2 (mD_put h4))
def soB (f : Nat → Int32) : Nat → Nat → Int32
  | 0 => f
  | k + 1 => upd (upd (soB f k) (42 + k) (soB f k (5 + k))) (49 + k) (upd (soB f k) (42 + k) (soB f k (5 + k)) (19 + k))
theorem soB_at (f : Nat → Int32) : ∀ (k : Nat), k ≤ 7 → ∀ i, soB f k i = if 42 ≤ i ∧ i < 42 + k then f (5 + (i - 42)) else if 49 ≤ i ∧ i < 49 + k then f (19 + (i - 49)) else f i
  | 0, _, i => by rw [if_neg (by omega), if_neg (by omega)]; rfl
  | k + 1, hk, i => by
    have h5 : soB f k (5 + k) = f (5 + k) := by rw [soB_at f k (by omega), if_neg (by omega), if_neg (by omega)]
    have h19 : soB f k (19 + k) = f (19 + k) := by rw [soB_at f k (by omega), if_neg (by omega), if_neg (by omega)]
    show upd (upd (soB f k) (42 + k) (soB f k (5 + k))) (49 + k) (upd (soB f k) (42 + k) (soB f k (5 + k)) (19 + k)) i = _
    rw [upd_at, upd_at, upd_at, if_neg (by omega : ¬ 19 + k = 42 + k), h5, h19, soB_at f k (by omega)]
    by_cases h1 : i = 49 + k
    · rw [if_pos h1, if_neg (by omega), if_pos (by omega), show 19 + (i - 49) = 19 + k by omega]
    · rw [if_neg h1]
      by_cases h2 : i = 42 + k
      · rw [if_pos h2, if_pos (by omega), show 5 + (i - 42) = 5 + k by omega]
      · rw [if_neg h2]
        by_cases h3 : 42 ≤ i ∧ i < 42 + k
        · rw [if_pos h3, if_pos (by omega)]
        · rw [if_neg h3, if_neg (by omega : ¬ (42 ≤ i ∧ i < 42 + (k + 1)))]
          by_cases h4 : 49 ≤ i ∧ i < 49 + k
          · rw [if_pos h4, if_pos (by omega)]
          · rw [if_neg h4, if_neg (by omega)]
theorem l180_38 {L : Nat} {xs : Nat → Int32} {Post : Option Value → iv_H → Prop} {d : Nat} {σ : iv_H} {fs : List Value} {f : Nat → Int32} {lvr : iv_L} (hd : iv_d1 1 lvr = lvr) (l0 : iv_f1 lvr 0 = some (.ref 548)) (ho : iv_get σ 548 = some (.inr (12, fs))) (mo : mO fs) : ∀ (j k : Nat), k + j = 7 → ∀ σ1, mD σ σ1 552 (.inl (0, 374, .inl (soB f k))) → (∀ σ2, mD σ σ2 552 (.inl (0, 374, .inl (soB f 7))) → zGo L xs Post [] d 180 85 ((1, .int (Int32.ofNat 7)) :: lvr) [] σ2) → zGo L xs Post [] d 180 38 ((1, .int (Int32.ofNat k)) :: lvr) [] σ1
  | 0, k, hk, σ1, h1, hx => by
    obtain rfl : k = 7 := by omega
    refine w_I f180_38 rfl ?_
    refine w_K f180_39 ?_
    refine w_icT f180_41 rfl (c_geT (by omega) (by omega)) ?_
    exact hx σ1 h1
  | j + 1, k, hk, σ1, h1, hx => by
    have ho1 := mD_n h1 (by decide) ho
    have ga1 := h1.2.1
    refine w_I f180_38 rfl ?_
    refine w_K f180_39 ?_
    refine w_icF f180_41 rfl (c_geF (by omega) (by omega)) ?_
    refine w_A f180_44 l0 ?_
    refine w_gf f180_45 ho1 (mo.2.2.1) ?_
    refine w_K f180_48 ?_
    refine w_I f180_50 rfl ?_
    refine w_add f180_51 ?_
    refine w_A f180_52 l0 ?_
    refine w_gf f180_53 ho1 (mo.2.2.1) ?_
    refine w_K f180_56 ?_
    refine w_I f180_57 rfl ?_
    refine w_add f180_58 ?_
    refine w_il f180_59 ga1 rfl rfl (by omega) (by decide) ?_
    refine w_ist f180_60 ga1 (by omega) (by decide) ?_
    have h2 := mD_put (e2 := (.inl (0, 374, .inl (upd (soB f k) (42 + k) (soB f k (5 + k)))))) h1
    have ho2 := mD_n h2 (by decide) ho
    refine w_A f180_61 l0 ?_
    refine w_gf f180_62 ho2 (mo.2.2.1) ?_
    refine w_K f180_65 ?_
    refine w_I f180_67 rfl ?_
    refine w_add f180_68 ?_
    refine w_A f180_69 l0 ?_
    refine w_gf f180_70 ho2 (mo.2.2.1) ?_
    refine w_K f180_73 ?_
    refine w_I f180_75 rfl ?_
    refine w_add f180_76 ?_
    refine w_il f180_77 h2.2.1 rfl rfl (by omega) (by decide) ?_
    refine w_ist f180_78 h2.2.1 (by omega) (by decide) ?_
    refine w_incr f180_79 hd ?_
    refine w_go f180_82 rfl ?_
    exact l180_38 hd l0 ho mo j (k + 1) (by omega) _ (mD_put h2) hx
theorem g_ss {L : Nat} {xs : Nat → Int32} {Post : Option Value → iv_H → Prop} {d : Nat} {lv : iv_L} {σ : iv_H} {fs : List Value} {N : Nat → Int32} (l0 : iv_f1 lv 0 = some (.ref 548)) (ho : iv_get σ 548 = some (.inr (12, fs))) (mo : mO fs) (gN : iv_get σ 552 = some (.inl (0, 374, .inl N))) (k : ∀ σ2, mD σ σ2 552 (.inl (0, 374, .inl (soB (upd (va_cpy (fun _ => (Int32.ofNat 0)) N 0 38 336) 41 ((va_cpy (fun _ => (Int32.ofNat 0)) N 0 38 336) 3)) 7))) → Post none σ2) : zGo L xs Post [] d 180 0 lv [] σ := by
  refine w_K f180_0 ?_
  refine w_IS f180_2 ?_
  refine l180_3 (iv_d1_d1 1 lv) (lv_d l0 (by decide)) ho mo gN 336 0 rfl σ (by rw [cp_0]; exact mD_rf gN) (fun σ1 h1 => ?_)
  have ho1 := mD_n h1 (by decide) ho
  refine w_A f180_23 (lv_d l0 (by decide)) ?_
  refine w_gf f180_24 ho1 (mo.2.2.1) ?_
  refine w_K f180_27 ?_
  refine w_A f180_29 (lv_d l0 (by decide)) ?_
  refine w_gf f180_30 ho1 (mo.2.2.1) ?_
  refine w_K f180_33 ?_
  refine w_il f180_34 h1.2.1 rfl rfl (by decide) (by decide) ?_
  refine w_ist f180_35 h1.2.1 (by decide) (by decide) ?_
  have h2 := mD_put (e2 := (.inl (0, 374, .inl (upd (va_cpy (fun _ => (Int32.ofNat 0)) N 0 38 336) 41 ((va_cpy (fun _ => (Int32.ofNat 0)) N 0 38 336) 3))))) h1
  refine w_K f180_36 ?_
  refine w_ISr f180_37 (iv_d1_d1 1 lv) ?_
  refine l180_38 (f := (upd (va_cpy (fun _ => (Int32.ofNat 0)) N 0 38 336) 41 ((va_cpy (fun _ => (Int32.ofNat 0)) N 0 38 336) 3))) (iv_d1_d1 1 lv) (lv_d l0 (by decide)) ho mo 7 0 rfl _ h2 (fun σ2 h3 => ?_)
  exact w_ret0 f180_85 (k σ2 h3)
theorem g_ord {L : Nat} {xs : Nat → Int32} {Post : Option Value → iv_H → Prop} {d : Nat} {lv : iv_L} {σ : iv_H} {fs : List Value} {N R : Nat → Int32} {Nm Rm : Nat → Int64} {ls : Int32} (l0 : iv_f1 lv 0 = some (.ref 548)) (ho : iv_get σ 548 = some (.inr (12, fs))) (mo : mO fs) (l1 : iv_f1 lv 1 = some (.int ls)) (gN : iv_get σ 552 = some (.inl (0, 374, .inl N))) (gR : iv_get σ 554 = some (.inl (0, 38, .inl R))) (gM : iv_get σ 562 = some (.inl (1, 13, .inr (.inl Nm)))) (gQ : iv_get σ 564 = some (.inl (1, 13, .inr (.inl Rm)))) (k : ∀ σ1 σ2 σ3, mD σ σ1 552 (.inl (0, 374, .inl (va_cpy R N 0 0 38))) → mD σ1 σ2 562 (.inl (1, 13, .inr (.inl (va_cpy Rm Nm 0 0 13)))) → mD σ2 σ3 552 (.inl (0, 374, .inl (soB (upd (va_cpy (fun _ => (Int32.ofNat 0)) (va_cpy R N 0 0 38) 0 38 336) 41 ((va_cpy (fun _ => (Int32.ofNat 0)) (va_cpy R N 0 0 38) 0 38 336) 3)) 7))) → Post (some (.int ls)) (iv_put σ3 548 (.inr (12, fs.set 24 (.int (Int32.ofNat 0)))))) : zGo L xs Post [] (d + 1) 191 47 lv [] σ := by
  refine w_K f191_47 ?_
  refine w_IS f191_48 ?_
  refine l191_49 (iv_d1_d1 2 lv) (lv_d l0 (by decide)) (lv_di l1 (by decide)) ho mo gN gR 38 0 rfl σ (by rw [cp_0]; exact mD_rf gN) (fun σ1 h1 => ?_)
  have ho1 := mD_n h1 (by decide) ho
  have gM1 := mD_n h1 (by decide) gM
  have gQ1 := mD_n h1 (by decide) gQ
  refine w_K f191_73 ?_
  refine w_ISr f191_74 (iv_d1_d1 2 lv) ?_
  refine l191_75 (iv_d1_d1 2 lv) (lv_d l0 (by decide)) (lv_di l1 (by decide)) ho1 mo gM1 gQ1 13 0 rfl σ1 (by rw [cp_0]; exact mD_rf gM1) (fun σ2 h2 => ?_)
  have ho2 := mD_n h2 (by decide) ho1
  have gN2 := mD_n h2 (by decide) h1.2.1
  refine w_A f191_99 (lv_d l0 (by decide)) ?_
  refine w_call f191_100 (w_args0 ho2) rfl ?_
  refine g_ss rfl ho2 mo gN2 (fun σ3 h3 => ?_)
  have ho3 := mD_n h3 (by decide) ho2
  refine w_A f191_103 (lv_d l0 (by decide)) ?_
  refine w_K f191_104 ?_
  refine w_pf f191_105 ho3 rfl (by have := mo.1; omega) ?_
  refine w_I f191_108 (lv_di l1 (by decide)) ?_
  exact w_ret1 f191_109 (k σ1 σ2 σ3 h1 h2 h3)
theorem g_sen {L : Nat} {xs : Nat → Int32} {Post : Option Value → iv_H → Prop} {d : Nat} {lv : iv_L} {σ : iv_H} {fs : List Value} {N D : Nat → Int32} {oz : Int32} (l0 : iv_f1 lv 0 = some (.ref 548)) (ho : iv_get σ 548 = some (.inr (12, fs))) (mo : mO fs) (e46 : iv_nth fs 46 = some (.int oz)) (gN : iv_get σ 552 = some (.inl (0, 374, .inl N))) (gD : iv_get σ 590 = some (.inl (0, 240, .inl D))) (k : ∀ σ1, mD σ σ1 552 (.inl (0, 374, .inl (va_cpy D N 0 134 240))) → Post (some (.int oz)) σ1) : zGo L xs Post [] d 277 77 lv [] σ := by
  refine w_K f277_77 ?_
  refine w_IS f277_78 ?_
  refine l277_79 (iv_d1_d1 1 lv) (lv_d l0 (by decide)) ho mo gN gD 240 0 rfl σ (by rw [cp_0]; exact mD_rf gN) (fun σ1 h1 => ?_)
  refine w_A f277_108 (lv_d l0 (by decide)) ?_
  refine w_gf f277_109 (mD_n h1 (by decide) ho) e46 ?_
  exact w_ret1 f277_112 (k σ1 h1)
theorem g_in {L : Nat} {xs : Nat → Int32} {Post : Option Value → iv_H → Prop} {d : Nat} {lv : iv_L} {σ : iv_H} {v a b : Int32} (l0 : iv_f1 lv 0 = some (.int v)) (l1 : iv_f1 lv 1 = some (.int a)) (l2 : iv_f1 lv 2 = some (.int b)) (k1 : a.toInt ≤ v.toInt → v.toInt ≤ b.toInt → Post (some (.int (Int32.ofNat 1))) σ) (k2 : ¬ (a.toInt ≤ v.toInt ∧ v.toInt ≤ b.toInt) → Post (some (.int (Int32.ofNat 0))) σ) : zGo L xs Post [] d 160 0 lv [] σ := by
  refine w_I f160_0 l0 ?_
  refine w_I f160_1 l1 ?_
  by_cases h1 : v.toInt < a.toInt
  · refine w_icT f160_2 rfl (zch_32.mpr h1) ?_
    refine w_K f160_14 ?_
    exact w_ret2 f160_15 rfl (k2 (by omega))
  · refine w_icF f160_2 rfl (c_f (fun h => h1 (zch_32.mp h))) ?_
    refine w_I f160_5 l0 ?_
    refine w_I f160_6 l2 ?_
    by_cases h2 : b.toInt < v.toInt
    · refine w_icT f160_7 rfl (zch_32.mpr h2) ?_
      refine w_K f160_14 ?_
      exact w_ret2 f160_15 rfl (k2 (by omega))
    · refine w_icF f160_7 rfl (c_f (fun h => h2 (zch_32.mp h))) ?_
      refine w_K f160_10 ?_
      refine w_go f160_11 rfl ?_
      exact w_ret2 f160_15 rfl (k1 (by omega) (by omega))
theorem g_img {L : Nat} {xs : Nat → Int32} {Post : Option Value → iv_H → Prop} {d : Nat} {lv : iv_L} {σ : iv_H} {fs : List Value} {N K Zk : Nat → Int32} {Nm Km : Nat → Int64} {v : Int32} (l0 : iv_f1 lv 0 = some (.ref 548)) (ho : iv_get σ 548 = some (.inr (12, fs))) (mo : mO fs) (l1 : iv_f1 lv 1 = some (.int v)) (gN : iv_get σ 552 = some (.inl (0, 374, .inl N))) (gK : iv_get σ 556 = some (.inl (0, 748, .inl K))) (gM : iv_get σ 562 = some (.inl (1, 13, .inr (.inl Nm)))) (gQ : iv_get σ 566 = some (.inl (1, 26, .inr (.inl Km)))) (gZ : iv_get σ 568 = some (.inl (2, 2, .inl Zk))) (k1 : ¬ (0 ≤ v.toInt ∧ v.toInt ≤ 1) → Post (some (.int (Int32.ofNat 0))) (iv_put σ 548 (.inr (12, fs.set 0 (.int (Int32.ofNat 0)))))) (k2 : ∀ q : Nat, q ≤ 1 → v = Int32.ofNat q → ∀ σ1 σ2 σ3, mD (iv_put σ 548 (.inr (12, fs.set 0 (.int (Int32.ofNat 0))))) σ1 556 (.inl (0, 748, .inl (va_cpy N K 0 (374 * q) 374))) → mD σ1 σ2 566 (.inl (1, 26, .inr (.inl (va_cpy Nm Km 0 (13 * q) 13)))) → mD σ2 σ3 568 (.inl (2, 2, .inl (upd Zk q (Int32.ofNat 1)))) → Post (some (.int (Int32.ofNat 1))) σ3) : zGo L xs Post [] (d + 1) 280 0 lv [] σ := by
  refine w_A f280_0 l0 ?_
  refine w_K f280_1 ?_
  refine w_pf f280_2 ho rfl (by have := mo.1; omega) ?_
  have h0 := mD_put2 (e2 := .inr (12, fs.set 0 (.int (Int32.ofNat 0)))) ho
  have mo0 := mO_set0 (x := Int32.ofNat 0) mo
  refine w_I f280_5 l1 ?_
  refine w_K f280_6 ?_
  refine w_K f280_7 ?_
  refine w_call f280_8 rfl rfl ?_
  refine g_in (v := v) (a := Int32.ofNat 0) (b := Int32.ofNat 1) rfl rfl rfl (fun a1 a2 => ?_) (fun a1 => ?_)
  · obtain ⟨q, hq, rfl⟩ : ∃ q : Nat, q ≤ 1 ∧ v = Int32.ofNat q := v01 a1 a2
    refine w_ifT f280_11 rfl rfl ?_
    have gN0 := mD_n h0 (by decide) gN
    have gK0 := mD_n h0 (by decide) gK
    have gM0 := mD_n h0 (by decide) gM
    have gQ0 := mD_n h0 (by decide) gQ
    have gZ0 := mD_n h0 (by decide) gZ
    refine w_K f280_16 ?_
    refine w_IS f280_17 ?_
    refine l280_18 (iv_d1_d1 2 lv) (lv_d l0 (by decide)) (lv_di l1 (by decide)) h0.2.1 mo0 hq gK0 gN0 374 0 rfl _ (by rw [cp_0]; exact mD_rf gK0) (fun σ1 h1 => ?_)
    have ho1 := mD_n h1 (by decide) h0.2.1
    have gQ1 := mD_n h1 (by decide) gQ0
    have gM1 := mD_n h1 (by decide) gM0
    refine w_K f280_49 ?_
    refine w_ISr f280_50 (iv_d1_d1 2 lv) ?_
    refine l280_51 (iv_d1_d1 2 lv) (lv_d l0 (by decide)) (lv_di l1 (by decide)) ho1 mo0 hq gQ1 gM1 13 0 rfl σ1 (by rw [cp_0]; exact mD_rf gQ1) (fun σ2 h2 => ?_)
    have ho2 := mD_n h2 (by decide) ho1
    have gZ2 := mD_n h2 (by decide) (mD_n h1 (by decide) gZ0)
    refine w_A f280_80 (lv_d l0 (by decide)) ?_
    refine w_gf f280_81 ho2 (mo0.2.2.2.2.2.2.2.2.2.2.1) ?_
    refine w_I f280_84 (lv_di l1 (by decide)) ?_
    refine w_K f280_85 ?_
    refine w_zst f280_86 gZ2 (by omega) (by decide) rfl ?_
    refine w_K f280_87 ?_
    exact w_ret2 f280_88 rfl (k2 q hq rfl σ1 σ2 _ h1 h2 (mD_put2 gZ2))
  · refine w_ifF f280_11 rfl rfl ?_
    refine w_K f280_14 ?_
    exact w_ret2 f280_15 rfl (k1 a1)
theorem g_rst {L : Nat} {xs : Nat → Int32} {Post : Option Value → iv_H → Prop} {d : Nat} {lv : iv_L} {σ : iv_H} {fs : List Value} {N K Zk : Nat → Int32} {Nm Km : Nat → Int64} {v : Int32} (l0 : iv_f1 lv 0 = some (.ref 548)) (ho : iv_get σ 548 = some (.inr (12, fs))) (mo : mO fs) (l1 : iv_f1 lv 1 = some (.int v)) (gN : iv_get σ 552 = some (.inl (0, 374, .inl N))) (gK : iv_get σ 556 = some (.inl (0, 748, .inl K))) (gM : iv_get σ 562 = some (.inl (1, 13, .inr (.inl Nm)))) (gQ : iv_get σ 566 = some (.inl (1, 26, .inr (.inl Km)))) (gZ : iv_get σ 568 = some (.inl (2, 2, .inl Zk))) (hz : ∀ i, i < 2 → Zk i = 0 ∨ Zk i = 1) (k1 : (¬ (0 ≤ v.toInt ∧ v.toInt ≤ 1) ∨ ∃ q : Nat, q ≤ 1 ∧ v = Int32.ofNat q ∧ Zk q = 0) → Post (some (.int (Int32.ofNat 0))) (iv_put σ 548 (.inr (12, fs.set 0 (.int (Int32.ofNat 0)))))) (k2 : ∀ q : Nat, q ≤ 1 → v = Int32.ofNat q → Zk q = 1 → ∀ σ1 σ2, mD (iv_put σ 548 (.inr (12, fs.set 0 (.int (Int32.ofNat 0))))) σ1 552 (.inl (0, 374, .inl (va_cpy K N (374 * q) 0 374))) → mD σ1 σ2 562 (.inl (1, 13, .inr (.inl (va_cpy Km Nm (13 * q) 0 13)))) → Post (some (.int (Int32.ofNat 1))) (iv_put σ2 548 (.inr (12, (fs.set 0 (.int (Int32.ofNat 0))).set 24 (.int (Int32.ofNat 0)))))) : zGo L xs Post [] (d + 1) 281 0 lv [] σ := by
  refine w_A f281_0 l0 ?_
  refine w_K f281_1 ?_
  refine w_pf f281_2 ho rfl (by have := mo.1; omega) ?_
  have h0 := mD_put2 (e2 := .inr (12, fs.set 0 (.int (Int32.ofNat 0)))) ho
  have mo0 := mO_set0 (x := Int32.ofNat 0) mo
  refine w_I f281_5 l1 ?_
  refine w_K f281_6 ?_
  refine w_K f281_7 ?_
  refine w_call f281_8 rfl rfl ?_
  refine g_in (v := v) (a := Int32.ofNat 0) (b := Int32.ofNat 1) rfl rfl rfl (fun a1 a2 => ?_) (fun a1 => ?_)
  · obtain ⟨q, hq, rfl⟩ : ∃ q : Nat, q ≤ 1 ∧ v = Int32.ofNat q := v01 a1 a2
    refine w_ifF f281_11 rfl rfl ?_
    have gN0 := mD_n h0 (by decide) gN
    have gK0 := mD_n h0 (by decide) gK
    have gM0 := mD_n h0 (by decide) gM
    have gQ0 := mD_n h0 (by decide) gQ
    have gZ0 := mD_n h0 (by decide) gZ
    refine w_A f281_14 l0 ?_
    refine w_gf f281_15 h0.2.1 (mo0.2.2.2.2.2.2.2.2.2.2.1) ?_
    refine w_I f281_18 l1 ?_
    refine w_zl f281_19 gZ0 (by omega) (by decide) ?_
    rcases hz q (by omega) with hz1 | hz1
    · rw [hz1]
      refine w_ifF f281_20 rfl rfl ?_
      refine w_K f281_23 ?_
      exact w_ret2 f281_24 rfl (k1 (.inr ⟨q, hq, rfl, hz1⟩))
    · rw [hz1]
      refine w_ifT f281_20 rfl rfl ?_
      refine w_K f281_25 ?_
      refine w_IS f281_26 ?_
      refine l281_27 (iv_d1_d1 2 lv) (lv_d l0 (by decide)) (lv_di l1 (by decide)) h0.2.1 mo0 hq gN0 gK0 374 0 rfl _ (by rw [cp_0]; exact mD_rf gN0) (fun σ1 h1 => ?_)
      have ho1 := mD_n h1 (by decide) h0.2.1
      have gQ1 := mD_n h1 (by decide) gQ0
      have gM1 := mD_n h1 (by decide) gM0
      refine w_K f281_58 ?_
      refine w_ISr f281_59 (iv_d1_d1 2 lv) ?_
      refine l281_60 (iv_d1_d1 2 lv) (lv_d l0 (by decide)) (lv_di l1 (by decide)) ho1 mo0 hq gM1 gQ1 13 0 rfl σ1 (by rw [cp_0]; exact mD_rf gM1) (fun σ2 h2 => ?_)
      have ho2 := mD_n h2 (by decide) ho1
      refine w_A f281_89 (lv_d l0 (by decide)) ?_
      refine w_K f281_90 ?_
      refine w_pf f281_91 ho2 rfl (by rw [List.length_set]; have := mo.1; omega) ?_
      refine w_K f281_94 ?_
      exact w_ret2 f281_95 rfl (k2 q hq rfl hz1 σ1 σ2 h1 h2)
  · refine w_ifT f281_11 rfl rfl ?_
    refine w_K f281_23 ?_
    exact w_ret2 f281_24 rfl (k1 (.inl a1))
