/-! ===== from the loop's head to its case; brother and time behind their calls ===== -/
set_option maxRecDepth 100000 in
theorem fq_328 : iv_f1 (iv_p 285) 328 = some (.inl (iv_oA 1 1)) := rfl
set_option maxRecDepth 100000 in
theorem fq_329 : iv_f1 (iv_p 285) 329 = some (.inl (iv_oA 0 1)) := rfl
set_option maxRecDepth 100000 in
theorem fq_330 : iv_f1 (iv_p 285) 330 = some (.inl (iv_oI 4 2)) := rfl
set_option maxRecDepth 100000 in
theorem fq_332 : iv_f1 (iv_p 285) 332 = some (.inl (iv_oK (.int (Int32.ofNat 1)) 1)) := rfl
set_option maxRecDepth 100000 in
theorem fq_333 : iv_f1 (iv_p 285) 333 = some (.inl (iv_oII fun x y => x + y)) := rfl
set_option maxRecDepth 100000 in
theorem fq_334 : iv_f1 (iv_p 285) 334 = some (.inl iv_oIl) := rfl
set_option maxRecDepth 100000 in
theorem fq_335 : iv_f1 (iv_p 285) 335 = some (.inl (iv_oA 0 1)) := rfl
set_option maxRecDepth 100000 in
theorem fq_336 : iv_f1 (iv_p 285) 336 = some (.inl (iv_oI 4 2)) := rfl
set_option maxRecDepth 100000 in
theorem fq_338 : iv_f1 (iv_p 285) 338 = some (.inl (iv_oK (.int (Int32.ofNat 2)) 1)) := rfl
set_option maxRecDepth 100000 in
theorem fq_339 : iv_f1 (iv_p 285) 339 = some (.inl (iv_oII fun x y => x + y)) := rfl
set_option maxRecDepth 100000 in
theorem fq_340 : iv_f1 (iv_p 285) 340 = some (.inl iv_oIl) := rfl
set_option maxRecDepth 100000 in
theorem fq_341 : iv_f1 (iv_p 285) 341 = some (.inl (iv_oA 3 1)) := rfl
set_option maxRecDepth 100000 in
theorem fq_345 : iv_f1 (iv_p 285) 345 = some (.inl (iv_oIS 5 2)) := rfl
set_option maxRecDepth 100000 in
theorem fq_347 : iv_f1 (iv_p 285) 347 = some (.inl (iv_oA 2 1)) := rfl
set_option maxRecDepth 100000 in
theorem fq_348 : iv_f1 (iv_p 285) 348 = some (.inl (iv_oA 0 1)) := rfl
set_option maxRecDepth 100000 in
theorem fq_349 : iv_f1 (iv_p 285) 349 = some (.inl (iv_oI 4 2)) := rfl
set_option maxRecDepth 100000 in
theorem fq_351 : iv_f1 (iv_p 285) 351 = some (.inl (iv_oK (.int (Int32.ofNat 1)) 1)) := rfl
set_option maxRecDepth 100000 in
theorem fq_352 : iv_f1 (iv_p 285) 352 = some (.inl (iv_oII fun x y => x + y)) := rfl
set_option maxRecDepth 100000 in
theorem fq_353 : iv_f1 (iv_p 285) 353 = some (.inl iv_oIl) := rfl
set_option maxRecDepth 100000 in
theorem fq_354 : iv_f1 (iv_p 285) 354 = some (.inl (iv_oA 0 1)) := rfl
set_option maxRecDepth 100000 in
theorem fq_355 : iv_f1 (iv_p 285) 355 = some (.inl (iv_oI 4 2)) := rfl
set_option maxRecDepth 100000 in
theorem fq_357 : iv_f1 (iv_p 285) 357 = some (.inl (iv_oK (.int (Int32.ofNat 2)) 1)) := rfl
set_option maxRecDepth 100000 in
theorem fq_358 : iv_f1 (iv_p 285) 358 = some (.inl (iv_oII fun x y => x + y)) := rfl
set_option maxRecDepth 100000 in
theorem fq_359 : iv_f1 (iv_p 285) 359 = some (.inl iv_oIl) := rfl
set_option maxRecDepth 100000 in
theorem fq_360 : iv_f1 (iv_p 285) 360 = some (.inr (.inr (6, 203, 2, 12))) := rfl
set_option maxRecDepth 100000 in
theorem fq_363 : iv_f1 (iv_p 285) 363 = some (.inl (iv_oIS 6 2)) := rfl
set_option maxRecDepth 100000 in
theorem fq_365 : iv_f1 (iv_p 285) 365 = some (.inl (iv_oGo (902))) := rfl
set_option maxRecDepth 100000 in
theorem fq_866 : iv_f1 (iv_p 285) 866 = some (.inl (iv_oA 1 1)) := rfl
set_option maxRecDepth 100000 in
theorem fq_867 : iv_f1 (iv_p 285) 867 = some (.inl (iv_oA 0 1)) := rfl
set_option maxRecDepth 100000 in
theorem fq_868 : iv_f1 (iv_p 285) 868 = some (.inl (iv_oI 4 2)) := rfl
set_option maxRecDepth 100000 in
theorem fq_870 : iv_f1 (iv_p 285) 870 = some (.inl (iv_oK (.int (Int32.ofNat 1)) 1)) := rfl
set_option maxRecDepth 100000 in
theorem fq_871 : iv_f1 (iv_p 285) 871 = some (.inl (iv_oII fun x y => x + y)) := rfl
set_option maxRecDepth 100000 in
theorem fq_872 : iv_f1 (iv_p 285) 872 = some (.inl iv_oIl) := rfl
set_option maxRecDepth 100000 in
theorem fq_873 : iv_f1 (iv_p 285) 873 = some (.inl (iv_oA 0 1)) := rfl
set_option maxRecDepth 100000 in
theorem fq_874 : iv_f1 (iv_p 285) 874 = some (.inl (iv_oI 4 2)) := rfl
set_option maxRecDepth 100000 in
theorem fq_876 : iv_f1 (iv_p 285) 876 = some (.inl (iv_oK (.int (Int32.ofNat 2)) 1)) := rfl
set_option maxRecDepth 100000 in
theorem fq_877 : iv_f1 (iv_p 285) 877 = some (.inl (iv_oII fun x y => x + y)) := rfl
set_option maxRecDepth 100000 in
theorem fq_878 : iv_f1 (iv_p 285) 878 = some (.inl iv_oIl) := rfl
set_option maxRecDepth 100000 in
theorem fq_879 : iv_f1 (iv_p 285) 879 = some (.inl (iv_oA 3 1)) := rfl
set_option maxRecDepth 100000 in
theorem fq_883 : iv_f1 (iv_p 285) 883 = some (.inl (iv_oIS 5 2)) := rfl
set_option maxRecDepth 100000 in
theorem fq_885 : iv_f1 (iv_p 285) 885 = some (.inl (iv_oA 2 1)) := rfl
set_option maxRecDepth 100000 in
theorem fq_886 : iv_f1 (iv_p 285) 886 = some (.inl (iv_oA 0 1)) := rfl
set_option maxRecDepth 100000 in
theorem fq_887 : iv_f1 (iv_p 285) 887 = some (.inl (iv_oI 4 2)) := rfl
set_option maxRecDepth 100000 in
theorem fq_889 : iv_f1 (iv_p 285) 889 = some (.inl (iv_oK (.int (Int32.ofNat 1)) 1)) := rfl
set_option maxRecDepth 100000 in
theorem fq_890 : iv_f1 (iv_p 285) 890 = some (.inl (iv_oII fun x y => x + y)) := rfl
set_option maxRecDepth 100000 in
theorem fq_891 : iv_f1 (iv_p 285) 891 = some (.inl iv_oIl) := rfl
set_option maxRecDepth 100000 in
theorem fq_892 : iv_f1 (iv_p 285) 892 = some (.inl (iv_oA 0 1)) := rfl
set_option maxRecDepth 100000 in
theorem fq_893 : iv_f1 (iv_p 285) 893 = some (.inl (iv_oI 4 2)) := rfl
set_option maxRecDepth 100000 in
theorem fq_895 : iv_f1 (iv_p 285) 895 = some (.inl (iv_oK (.int (Int32.ofNat 2)) 1)) := rfl
set_option maxRecDepth 100000 in
theorem fq_896 : iv_f1 (iv_p 285) 896 = some (.inl (iv_oII fun x y => x + y)) := rfl
set_option maxRecDepth 100000 in
theorem fq_897 : iv_f1 (iv_p 285) 897 = some (.inl iv_oIl) := rfl
set_option maxRecDepth 100000 in
theorem fq_898 : iv_f1 (iv_p 285) 898 = some (.inr (.inr (6, 242, 2, 12))) := rfl
set_option maxRecDepth 100000 in
theorem fq_901 : iv_f1 (iv_p 285) 901 = some (.inl (iv_oIS 6 2)) := rfl
set_option maxRecDepth 100000 in
theorem fq_903 : iv_f1 (iv_p 285) 903 = some (.inl (iv_oGo (364))) := rfl
theorem l_steps {L : Nat} {xs : Nat → Int32} {stop F d i t : Nat} {lv : iv_L} {σ : iv_H} {y : iv_L × List Value × iv_H} (ne : ∀ j, j < 100 → Nat.beq j stop = false) (hl : lvI i lv) (hi : i + 6 ≤ L) (hL : L ≤ 3072) (hs : iv_oTs 1227 0 36 #[164, 237, 262, 275, 288, 328, 365, 390, 439, 476, 501, 538, 563, 588, 601, 650, 687, 712, 725, 750, 763, 776, 801, 826, 866, 903, 928, 953, 978, 1015, 1064, 1089, 1114, 1127, 1152, 1177, 1202] L xs 40 lv [.int (xs i &&& 63)] σ = some (t, lv, [], σ)) (k : ∃ n, iv_part L xs stop F n d 285 t lv [] σ = some y) : ∃ n, iv_part L xs stop F n d 285 27 lv [.int (Int32.ofNat L), .int (Int32.ofNat i)] σ = some y := by
  refine Qs (ne 27 (by decide)) fq_27 rfl ?_
  refine Qs (ne 29 (by decide)) fq_29 (show _ = some (30, lv, [.int (Int32.ofNat (L - 6)), .int (Int32.ofNat i)], σ) from ?_) ?_
  · show some (29 + 1, lv, [Value.int (Int32.ofNat L - Int32.ofNat 6), Value.int (Int32.ofNat i)], σ) = _
    rw [ofNat_sub (by omega)]
  refine Qs (ne 30 (by decide)) fq_30 (o_IcF rfl (c_gtF (by omega) (by omega))) ?_
  refine Qs (ne 33 (by decide)) fq_33 (o_Ax hl.1) ?_
  refine Qs (ne 34 (by decide)) fq_34 (o_Ix hl.2.2.2.2) ?_
  refine Qs (ne 36 (by decide)) fq_36 (o_scr (by omega) hL) ?_
  refine Qs (ne 37 (by decide)) fq_37 rfl ?_
  refine Qs (ne 39 (by decide)) fq_39 rfl ?_
  exact Qs (ne 40 (by decide)) fq_40 hs k
theorem l_tsO {L : Nat} {xs : Nat → Int32} {lv : iv_L} {σ : iv_H} {x : Int32} (h : x.toInt < 0 ∨ 36 < x.toInt) : iv_oTs 1227 0 36 #[164, 237, 262, 275, 288, 328, 365, 390, 439, 476, 501, 538, 563, 588, 601, 650, 687, 712, 725, 750, 763, 776, 801, 826, 866, 903, 928, 953, 978, 1015, 1064, 1089, 1114, 1127, 1152, 1177, 1202] L xs 40 lv [.int x] σ = some (1267, lv, [], σ) := o_TsO h rfl
theorem o_TsI {L : Nat} {xs : Nat → Int32} {pc : Nat} {lv : iv_L} {r0 : List Value} {σ : iv_H} {dflt lo hi off : Int} {offs : Array Int} {x : Int32} {t : Nat} (h : (decide (x.toInt < lo) || decide (hi < x.toInt)) = false) (hn : iv_nth offs.toList (x.toInt - lo).toNat = some off) (ht : iv_tgt pc off = some t) : iv_oTs dflt lo hi offs L xs pc lv (.int x :: r0) σ = some (t, lv, r0, σ) := by
  simp only [iv_oTs, h, cond_false, hn, iv_go, ht]
/-- which case -/
theorem l_which {L : Nat} {xs : Nat → Int32} {lv : iv_L} {σ : iv_H} (x : Int32) : (iv_oTs 1227 0 36 #[164, 237, 262, 275, 288, 328, 365, 390, 439, 476, 501, 538, 563, 588, 601, 650, 687, 712, 725, 750, 763, 776, 801, 826, 866, 903, 928, 953, 978, 1015, 1064, 1089, 1114, 1127, 1152, 1177, 1202] L xs 40 lv [.int x] σ = some (1267, lv, [], σ)) ∨ ∃ k : Nat, k ≤ 36 ∧ ∀ (off : Int) (t : Nat), iv_nth (#[164, 237, 262, 275, 288, 328, 365, 390, 439, 476, 501, 538, 563, 588, 601, 650, 687, 712, 725, 750, 763, 776, 801, 826, 866, 903, 928, 953, 978, 1015, 1064, 1089, 1114, 1127, 1152, 1177, 1202] : Array Int).toList k = some off → iv_tgt 40 off = some t → iv_oTs 1227 0 36 #[164, 237, 262, 275, 288, 328, 365, 390, 439, 476, 501, 538, 563, 588, 601, 650, 687, 712, 725, 750, 763, 776, 801, 826, 866, 903, 928, 953, 978, 1015, 1064, 1089, 1114, 1127, 1152, 1177, 1202] L xs 40 lv [.int x] σ = some (t, lv, [], σ) := by
  by_cases hr : x.toInt < 0 ∨ 36 < x.toInt
  · exact .inl (l_tsO hr)
  · have e := Int.toNat_of_nonneg (show 0 ≤ x.toInt by omega)
    refine .inr ⟨x.toInt.toNat, by omega, fun off t h1 h2 => o_TsI ?_ ?_ h2⟩
    · rw [Bool.or_eq_false_iff, decide_eq_false_iff_not, decide_eq_false_iff_not]
      omega
    · rw [Int.sub_zero]
      exact h1
theorem l_out {L : Nat} {xs : Nat → Int32} {d i : Nat} {lv : iv_L} {σ : iv_H} (hi : L < i + 6) (hi2 : i ≤ 4000) (hL : L ≤ 3072) : iv_Rn L xs d 285 27 lv [.int (Int32.ofNat L), .int (Int32.ofNat i)] σ (some (.int 1)) σ := by
  refine Rs fq_27 rfl ?_
  refine Rs fq_29 rfl ?_
  refine Rs fq_30 (o_IcT rfl (zch_32.mpr ?_)) ?_
  · show (Int32.ofNat i).toInt > (Int32.ofNat L - Int32.ofNat 6).toInt
    have e1 := i32_ev (n := i) (by omega)
    have e2 : (Int32.ofNat L - Int32.ofNat 6).toInt = (L : Int) - 6 := pk_sub_toInt (a := L) (b := 6) (by omega) (by decide)
    omega
  refine Rs fq_1273 rfl ?_
  exact Rr fq_1274 rfl
theorem l_next {L : Nat} {xs : Nat → Int32} {F d i : Nat} {lv : iv_L} {σ : iv_H} (hl : lvI i lv) : ∃ n lv', iv_part L xs 23 F n d 285 1267 lv [] σ = some (lv', [], σ) ∧ lvI (i + 6) lv' := by
  have e : Int32.ofNat i + Int32.ofInt 6 = Int32.ofNat (i + 6) := nI_add i 6
  have g : ∃ n, iv_part L xs 23 F n d 285 1267 lv [] σ = some ((4, .int (Int32.ofNat (i + 6))) :: iv_d1 4 lv, [], σ) := by
    refine Qs rfl fq_1267 (show _ = some (1270, (4, .int (Int32.ofNat (i + 6))) :: iv_d1 4 lv, [], σ) from ?_) ?_
    · unfold iv_oInc
      rw [hl.2.2.2.2]
      show some (1267 + 3, (4, Value.int (Int32.ofNat i + Int32.ofInt 6)) :: iv_d1 4 lv, [], σ) = _
      rw [e]
    refine Qs rfl fq_1270 rfl ?_
    exact Qe
  obtain ⟨n, hn⟩ := g
  exact ⟨n, _, hn, lv_s hl.1 (by decide) cR, lv_s hl.2.1 (by decide) cR, lv_s hl.2.2.1 (by decide) cR, lv_s hl.2.2.2.1 (by decide) cR, lv_e⟩
theorem k_brother1 {L : Nat} {xs : Nat → Int32} {F d i : Nat} {lv : iv_L} {σ : iv_H} (hl : lvI i lv) (hi : i + 5 < L) (hL : L ≤ 3072) : ∃ n, iv_part L xs 342 F n d 285 328 lv [] σ = some (lv, [.ref 592, .int (xs (i + 2)), .int (xs (i + 1)), .ref 0], σ) := by
  have ad : ∀ k, Int32.ofNat i + Int32.ofNat k = Int32.ofNat (i + k) := fun k => nI_add i k
  refine Qs rfl fq_328 (o_Ax hl.2.1) ?_
  refine Qs rfl fq_329 (o_Ax hl.1) ?_
  refine Qs rfl fq_330 (o_Ix hl.2.2.2.2) ?_
  refine Qs rfl fq_332 rfl ?_
  refine Qs rfl fq_333 (show _ = some (334, lv, .int (Int32.ofNat (i + 1)) :: .ref 1 :: .ref 0 :: [], σ) from ?_) ?_
  · rw [← ad 1]
    rfl
  refine Qs rfl fq_334 (o_scr (by omega) hL) ?_
  refine Qs rfl fq_335 (o_Ax hl.1) ?_
  refine Qs rfl fq_336 (o_Ix hl.2.2.2.2) ?_
  refine Qs rfl fq_338 rfl ?_
  refine Qs rfl fq_339 (show _ = some (340, lv, .int (Int32.ofNat (i + 2)) :: .ref 1 :: .int (xs (i + 1)) :: .ref 0 :: [], σ) from ?_) ?_
  · rw [← ad 2]
    rfl
  refine Qs rfl fq_340 (o_scr (by omega) hL) ?_
  refine Qs rfl fq_341 (o_Ax hl.2.2.2.1) ?_
  exact Qe
theorem k_brother2 {L : Nat} {xs : Nat → Int32} {i : Nat} {lv : iv_L} {x k : Int32} {σ : iv_H} (hl : lvI i lv) (hi : i + 5 < L) (hL : L ≤ 3072) (hI : Inv5 x x σ) : ∃ (lv' : iv_L) (σ' : iv_H), iv_Pn L xs 1267 600 285 345 lv [.int k] σ lv' [] σ' ∧ lvI i lv' ∧ Inv5 x x σ' := by
  obtain ⟨w, σ2, hR2, hI2⟩ := cl_m5 (L := L) (xs := xs) (d := 599) (rs := [(-2147483648, 2147483647), (-2147483648, 2147483647)]) (ys := [xs (i + 1), xs (i + 2)]) (mt_33 hT_s.1) rfl rfl rfl rfl rfl ⟨i32_full _, ⟨i32_full _, trivial⟩⟩ (by decide) hI
  obtain ⟨fs2, ho2, _⟩ := m_G hI.2.1.1
  have hl5 : lvI i ((5, .int k) :: iv_d1 5 lv) := ⟨lv_s hl.1 (by decide) cR, lv_s hl.2.1 (by decide) cR, lv_s hl.2.2.1 (by decide) cR, lv_s hl.2.2.2.1 (by decide) cR, lv_s hl.2.2.2.2 (by decide) cI⟩
  refine ⟨(6, .int w) :: iv_d1 6 ((5, .int k) :: iv_d1 5 lv), σ2, ?_, ⟨lv_s hl5.1 (by decide) cR, lv_s hl5.2.1 (by decide) cR, lv_s hl5.2.2.1 (by decide) cR, lv_s hl5.2.2.2.1 (by decide) cR, lv_s hl5.2.2.2.2 (by decide) cI⟩, hI2⟩
  refine p_s rfl fq_345 rfl ?_
  refine p_A fq_347 hl5.2.2.1 rfl ?_
  refine p_arg (k := 1) fq_348 fq_349 fq_351 fq_352 fq_353 hl5 (by omega) hL (by decide) ?_
  refine p_arg (k := 2) fq_354 fq_355 fq_357 fq_358 fq_359 hl5 (by omega) hL (by decide) ?_
  refine p_call fq_360 (ar_2 ho2) rfl rfl hR2 ?_
  refine p_s rfl fq_363 rfl ?_
  exact p_go fq_365 rfl rfl p_end
theorem k_time1 {L : Nat} {xs : Nat → Int32} {F d i : Nat} {lv : iv_L} {σ : iv_H} (hl : lvI i lv) (hi : i + 5 < L) (hL : L ≤ 3072) : ∃ n, iv_part L xs 880 F n d 285 866 lv [] σ = some (lv, [.ref 592, .int (xs (i + 2)), .int (xs (i + 1)), .ref 0], σ) := by
  have ad : ∀ k, Int32.ofNat i + Int32.ofNat k = Int32.ofNat (i + k) := fun k => nI_add i k
  refine Qs rfl fq_866 (o_Ax hl.2.1) ?_
  refine Qs rfl fq_867 (o_Ax hl.1) ?_
  refine Qs rfl fq_868 (o_Ix hl.2.2.2.2) ?_
  refine Qs rfl fq_870 rfl ?_
  refine Qs rfl fq_871 (show _ = some (872, lv, .int (Int32.ofNat (i + 1)) :: .ref 1 :: .ref 0 :: [], σ) from ?_) ?_
  · rw [← ad 1]
    rfl
  refine Qs rfl fq_872 (o_scr (by omega) hL) ?_
  refine Qs rfl fq_873 (o_Ax hl.1) ?_
  refine Qs rfl fq_874 (o_Ix hl.2.2.2.2) ?_
  refine Qs rfl fq_876 rfl ?_
  refine Qs rfl fq_877 (show _ = some (878, lv, .int (Int32.ofNat (i + 2)) :: .ref 1 :: .int (xs (i + 1)) :: .ref 0 :: [], σ) from ?_) ?_
  · rw [← ad 2]
    rfl
  refine Qs rfl fq_878 (o_scr (by omega) hL) ?_
  refine Qs rfl fq_879 (o_Ax hl.2.2.2.1) ?_
  exact Qe
theorem k_time2 {L : Nat} {xs : Nat → Int32} {i : Nat} {lv : iv_L} {x k : Int32} {σ : iv_H} (hl : lvI i lv) (hi : i + 5 < L) (hL : L ≤ 3072) (hI : Inv5 x x σ) : ∃ (lv' : iv_L) (σ' : iv_H), iv_Pn L xs 1267 600 285 883 lv [.int k] σ lv' [] σ' ∧ lvI i lv' ∧ Inv5 x x σ' := by
  obtain ⟨w, σ2, hR2, hI2⟩ := cl_m5 (L := L) (xs := xs) (d := 599) (rs := [(-2147483648, 2147483647), (-2147483648, 2147483647)]) (ys := [xs (i + 1), xs (i + 2)]) (mt_60 hT_s.1) rfl rfl rfl rfl rfl ⟨i32_full _, ⟨i32_full _, trivial⟩⟩ (by decide) hI
  obtain ⟨fs2, ho2, _⟩ := m_G hI.2.1.1
  have hl5 : lvI i ((5, .int k) :: iv_d1 5 lv) := ⟨lv_s hl.1 (by decide) cR, lv_s hl.2.1 (by decide) cR, lv_s hl.2.2.1 (by decide) cR, lv_s hl.2.2.2.1 (by decide) cR, lv_s hl.2.2.2.2 (by decide) cI⟩
  refine ⟨(6, .int w) :: iv_d1 6 ((5, .int k) :: iv_d1 5 lv), σ2, ?_, ⟨lv_s hl5.1 (by decide) cR, lv_s hl5.2.1 (by decide) cR, lv_s hl5.2.2.1 (by decide) cR, lv_s hl5.2.2.2.1 (by decide) cR, lv_s hl5.2.2.2.2 (by decide) cI⟩, hI2⟩
  refine p_s rfl fq_883 rfl ?_
  refine p_A fq_885 hl5.2.2.1 rfl ?_
  refine p_arg (k := 1) fq_886 fq_887 fq_889 fq_890 fq_891 hl5 (by omega) hL (by decide) ?_
  refine p_arg (k := 2) fq_892 fq_893 fq_895 fq_896 fq_897 hl5 (by omega) hL (by decide) ?_
  refine p_call fq_898 (ar_2 ho2) rfl rfl hR2 ?_
  refine p_s rfl fq_901 rfl ?_
  exact p_go fq_903 rfl rfl p_end
