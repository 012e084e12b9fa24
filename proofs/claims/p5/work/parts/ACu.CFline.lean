/-! ===== printed by wip/gen/y/cf.py: holds, the rules, a line, by the class ===== -/
theorem yOne_k {T : Nat → Nat} {n m p base many k : Nat} {s : yS} (h : yOne T n m base many s p = .inr k) : ykd T n m p = 2 := by
  unfold yOne at h
  split at h
  · rename_i h2
    exact yisN_k h2
  · cases h
set_option maxRecDepth 100000 in
theorem y37_0 : iv_f1 (iv_p 37) 0 = some (.inl (iv_oA 1 1)) := rfl
set_option maxRecDepth 100000 in
theorem y37_1 : iv_f1 (iv_p 37) 1 = some (.inr (.inr (6, 52, 0, 5))) := rfl
set_option maxRecDepth 100000 in
theorem y37_4 : iv_f1 (iv_p 37) 4 = some (.inl (iv_oA 0 1)) := rfl
set_option maxRecDepth 100000 in
theorem y37_5 : iv_f1 (iv_p 37) 5 = some (.inl (iv_oA 1 1)) := rfl
set_option maxRecDepth 100000 in
theorem y37_6 : iv_f1 (iv_p 37) 6 = some (.inr (.inr (6, 30, 1, 3))) := rfl
set_option maxRecDepth 100000 in
theorem y37_9 : iv_f1 (iv_p 37) 9 = some (.inl (iv_oIS 2 1)) := rfl
set_option maxRecDepth 100000 in
theorem y37_10 : iv_f1 (iv_p 37) 10 = some (.inl (iv_oI 2 1)) := rfl
set_option maxRecDepth 100000 in
theorem y37_11 : iv_f1 (iv_p 37) 11 = some (.inl (iv_oK (.int (Int32.ofInt (-1))) 1)) := rfl
set_option maxRecDepth 100000 in
theorem y37_12 : iv_f1 (iv_p 37) 12 = some (.inl (iv_oIc .ne (5))) := rfl
set_option maxRecDepth 100000 in
theorem y37_15 : iv_f1 (iv_p 37) 15 = some (.inl (iv_oK (.int (Int32.ofNat 0)) 1)) := rfl
set_option maxRecDepth 100000 in
theorem y37_16 : iv_f1 (iv_p 37) 16 = some (.inr (.inl 2)) := rfl
set_option maxRecDepth 100000 in
theorem y37_17 : iv_f1 (iv_p 37) 17 = some (.inl (iv_oA 0 1)) := rfl
set_option maxRecDepth 100000 in
theorem y37_18 : iv_f1 (iv_p 37) 18 = some (.inl (iv_oGF 3 12)) := rfl
set_option maxRecDepth 100000 in
theorem y37_21 : iv_f1 (iv_p 37) 21 = some (.inl (iv_oI 2 1)) := rfl
set_option maxRecDepth 100000 in
theorem y37_22 : iv_f1 (iv_p 37) 22 = some (.inl iv_oIl) := rfl
set_option maxRecDepth 100000 in
theorem y37_23 : iv_f1 (iv_p 37) 23 = some (.inl (iv_oK (.int (Int32.ofInt (-1))) 1)) := rfl
set_option maxRecDepth 100000 in
theorem y37_24 : iv_f1 (iv_p 37) 24 = some (.inl (iv_oIc .eq (9))) := rfl
set_option maxRecDepth 100000 in
theorem y37_27 : iv_f1 (iv_p 37) 27 = some (.inl (iv_oA 1 1)) := rfl
set_option maxRecDepth 100000 in
theorem y37_28 : iv_f1 (iv_p 37) 28 = some (.inl (iv_oK (.int (Int32.ofNat 3)) 1)) := rfl
set_option maxRecDepth 100000 in
theorem y37_29 : iv_f1 (iv_p 37) 29 = some (.inr (.inr (6, 56, 1, 5))) := rfl
set_option maxRecDepth 100000 in
theorem y37_32 : iv_f1 (iv_p 37) 32 = some (.inr (.inl 2)) := rfl
set_option maxRecDepth 100000 in
theorem y37_33 : iv_f1 (iv_p 37) 33 = some (.inl (iv_oA 1 1)) := rfl
set_option maxRecDepth 100000 in
theorem y37_34 : iv_f1 (iv_p 37) 34 = some (.inr (.inr (6, 52, 0, 5))) := rfl
set_option maxRecDepth 100000 in
theorem y37_37 : iv_f1 (iv_p 37) 37 = some (.inl (iv_oA 0 1)) := rfl
set_option maxRecDepth 100000 in
theorem y37_38 : iv_f1 (iv_p 37) 38 = some (.inl (iv_oA 1 1)) := rfl
set_option maxRecDepth 100000 in
theorem y37_39 : iv_f1 (iv_p 37) 39 = some (.inr (.inr (6, 31, 1, 3))) := rfl
set_option maxRecDepth 100000 in
theorem y37_42 : iv_f1 (iv_p 37) 42 = some (.inl (iv_oIS 3 1)) := rfl
set_option maxRecDepth 100000 in
theorem y37_43 : iv_f1 (iv_p 37) 43 = some (.inl (iv_oI 3 1)) := rfl
set_option maxRecDepth 100000 in
theorem y37_44 : iv_f1 (iv_p 37) 44 = some (.inl (iv_oK (.int (Int32.ofInt (-1))) 1)) := rfl
set_option maxRecDepth 100000 in
theorem y37_45 : iv_f1 (iv_p 37) 45 = some (.inl (iv_oIc .ne (5))) := rfl
set_option maxRecDepth 100000 in
theorem y37_48 : iv_f1 (iv_p 37) 48 = some (.inl (iv_oK (.int (Int32.ofNat 0)) 1)) := rfl
set_option maxRecDepth 100000 in
theorem y37_49 : iv_f1 (iv_p 37) 49 = some (.inr (.inl 2)) := rfl
set_option maxRecDepth 100000 in
theorem y37_50 : iv_f1 (iv_p 37) 50 = some (.inl (iv_oA 0 1)) := rfl
set_option maxRecDepth 100000 in
theorem y37_51 : iv_f1 (iv_p 37) 51 = some (.inl (iv_oI 3 1)) := rfl
set_option maxRecDepth 100000 in
theorem y37_52 : iv_f1 (iv_p 37) 52 = some (.inr (.inr (6, 38, 1, 3))) := rfl
set_option maxRecDepth 100000 in
theorem y37_55 : iv_f1 (iv_p 37) 55 = some (.inl (iv_oIf .eq (9))) := rfl
set_option maxRecDepth 100000 in
theorem y37_58 : iv_f1 (iv_p 37) 58 = some (.inl (iv_oA 1 1)) := rfl
set_option maxRecDepth 100000 in
theorem y37_59 : iv_f1 (iv_p 37) 59 = some (.inl (iv_oK (.int (Int32.ofNat 3)) 1)) := rfl
set_option maxRecDepth 100000 in
theorem y37_60 : iv_f1 (iv_p 37) 60 = some (.inr (.inr (6, 56, 1, 5))) := rfl
set_option maxRecDepth 100000 in
theorem y37_63 : iv_f1 (iv_p 37) 63 = some (.inr (.inl 2)) := rfl
set_option maxRecDepth 100000 in
theorem y37_64 : iv_f1 (iv_p 37) 64 = some (.inl (iv_oA 1 1)) := rfl
set_option maxRecDepth 100000 in
theorem y37_65 : iv_f1 (iv_p 37) 65 = some (.inr (.inr (6, 52, 0, 5))) := rfl
set_option maxRecDepth 100000 in
theorem y37_68 : iv_f1 (iv_p 37) 68 = some (.inl (iv_oA 0 1)) := rfl
set_option maxRecDepth 100000 in
theorem y37_69 : iv_f1 (iv_p 37) 69 = some (.inl (iv_oGF 3 12)) := rfl
set_option maxRecDepth 100000 in
theorem y37_72 : iv_f1 (iv_p 37) 72 = some (.inl (iv_oI 2 1)) := rfl
set_option maxRecDepth 100000 in
theorem y37_73 : iv_f1 (iv_p 37) 73 = some (.inl (iv_oI 3 1)) := rfl
set_option maxRecDepth 100000 in
theorem y37_74 : iv_f1 (iv_p 37) 74 = some (.inl iv_oIst) := rfl
set_option maxRecDepth 100000 in
theorem y37_75 : iv_f1 (iv_p 37) 75 = some (.inl (iv_oK (.int (Int32.ofNat 1)) 1)) := rfl
set_option maxRecDepth 100000 in
theorem y37_76 : iv_f1 (iv_p 37) 76 = some (.inr (.inl 2)) := rfl
theorem yd_hol {L : Nat} {xs : Nat → Int32} {d : Nat} {T : Nat → Nat} {n m p nb ng l : Nat} {s : yS} {V D : Nat → Value} {σ : iv_H} (hd : 2 ≤ d) (hm : m ≤ 900) (hT : ∀ i, T i ≤ 255) (hC : yCM T n m p V σ) (hD : yCD s nb ng l D σ) (hn : yCn s nb ng) (hkw : ykd T n m p = 2) : ∃ b σ1 V1 D1, iv_Rn L xs d 37 0 (lv_args 0 [.ref 20, .ref 356]) [] σ (some (.int (yb b))) σ1 ∧ yDO T n m l (yHol T n m nb ng s p) b V1 D1 σ1 ∧ yFr [356, 20, 22, 24, 26, 28, 30, 32, 34] σ σ1 := by
  obtain ⟨d, rfl⟩ : ∃ e, d = e + 2 := ⟨d - 2, by omega⟩
  refine y_Rd ?_
  obtain ⟨⟨hb, hg⟩, hb7, hg6⟩ := id hn
  obtain ⟨bn, bl, hd_, hl, gn, te, ed, ⟨g20, g22, g24, g26, g28, g30, g32, g34⟩, ⟨d9, d10, d11, d12, d13, d14, d15⟩, ⟨d0, d1, d2⟩, ⟨d3, d4, d5, d6, d7, d8⟩, hN, hH⟩ := id hD
  have hv := yCM_v hT hC
  refine w_A y37_0 rfl ?_
  obtain ⟨σ275, r275, V275, h275, f275⟩ := yc_go (L := L) (xs := xs) (d := d + 1) hm hC (Nat.le_of_eq (hkw).symm)
  refine y_call0 y37_1 (y_args6 (yCM_g hC) rfl rfl) rfl r275 ?_
  have hv275 := yCM_v hT h275
  refine w_A y37_4 rfl ?_
  refine w_A y37_5 rfl ?_
  have hD277 := yCD_fr hD (show yFr [356] _ _ from (yF_sub (by rfl) f275))
  obtain ⟨x276, σ276, V276, r276, o276, f276⟩ := yd_ba (L := L) (xs := xs) (d := d + 1) (by omega) hm hT h275 hD277 hn
  have g278 := (yF_n f275 (by rfl) g20)
  refine y_call y37_6 (y_args6 g278 rfl rfl) rfl r276 ?_
  cases h276 : yOne T n m 0 nb s (yto T n m p) with
  | inl e276 =>
    rw [h276] at o276
    obtain ⟨rfl, hb276⟩ := (show _ ∧ _ from o276)
    refine w_IS y37_9 ?_
    refine w_I y37_10 rfl ?_
    refine w_K y37_11 ?_
    refine w_icF y37_12 rfl (by decide) ?_
    refine w_K y37_15 ?_
    have sp : yHol T n m nb ng s p = .inl e276 := by unfold yHol; rw [h276, yThen_l]
    exact y_ret y37_16 rfl ⟨false, _, D, rfl, yDO_bad sp hb276, (yF_tr (yF_sub (by rfl) f275) (yF_sub (by rfl) f276))⟩
  | inr q276 =>
    rw [h276] at o276
    have lt276 := yOne_inr h276
    obtain ⟨rfl, rfl⟩ := (show _ ∧ _ from o276)
    refine w_IS y37_9 ?_
    refine w_I y37_10 rfl ?_
    refine w_K y37_11 ?_
    refine w_icT y37_12 rfl (decide_eq_true (y_oN (by omega))) ?_
    refine w_A y37_17 rfl ?_
    refine y_gf y37_18 g278 rfl d12 ?_
    refine w_I y37_21 rfl ?_
    have g279 := (yF_n f275 (by rfl) g28)
    refine y_ilE y37_22 g279 rfl rfl (by omega) (by decide) (hH q276 (by omega)) ?_
    refine w_K y37_23 ?_
    by_cases e280 : (s.1 (19 + q276)) = Int32.ofInt (-1)
    · skip
      refine w_icT y37_24 rfl (decide_eq_true e280) ?_
      refine w_A y37_33 rfl ?_
      obtain ⟨σ281, r281, V281, h281, f281⟩ := yc_go (L := L) (xs := xs) (d := d + 1) hm h275 (Nat.le_of_eq ((yOne_k h276)).symm)
      refine y_call0 y37_34 (y_args6 (yCM_g h275) rfl rfl) rfl r281 ?_
      have hv281 := yCM_v hT h281
      refine w_A y37_37 rfl ?_
      refine w_A y37_38 rfl ?_
      have hD283 := yCD_fr hD277 (show yFr [356] _ _ from (yF_sub (by rfl) f281))
      obtain ⟨x282, σ282, V282, r282, o282, f282⟩ := yd_ga (L := L) (xs := xs) (d := d + 1) (by omega) hm hT h281 hD283 hn
      have g284 := (yF_n f281 (by rfl) g278)
      refine y_call y37_39 (y_args6 g284 rfl rfl) rfl r282 ?_
      cases h282 : yOne T n m 7 ng s (yto T n m (yto T n m p)) with
      | inl e282 =>
        rw [h282] at o282
        obtain ⟨rfl, hb282⟩ := (show _ ∧ _ from o282)
        refine w_IS y37_42 ?_
        refine w_I y37_43 rfl ?_
        refine w_K y37_44 ?_
        refine w_icF y37_45 rfl (by decide) ?_
        refine w_K y37_48 ?_
        have sp : yHol T n m nb ng s p = .inl e282 := by unfold yHol; rw [h276, yThen_r, if_pos e280, h282, yThen_l]
        exact y_ret y37_49 rfl ⟨false, _, D, rfl, yDO_bad sp hb282, (yF_tr (yF_sub (by rfl) f275) (yF_tr (yF_sub (by rfl) f281) (yF_sub (by rfl) f282)))⟩
      | inr q282 =>
        rw [h282] at o282
        have lt282 := yOne_inr h282
        obtain ⟨rfl, rfl⟩ := (show _ ∧ _ from o282)
        refine w_IS y37_42 ?_
        refine w_I y37_43 rfl ?_
        refine w_K y37_44 ?_
        refine w_icT y37_45 rfl (decide_eq_true (y_oN (by omega))) ?_
        refine w_A y37_50 rfl ?_
        refine w_I y37_51 rfl ?_
        have g285 := (yF_n f281 (by rfl) g279)
        refine y_call y37_52 (y_args6 g284 rfl rfl) rfl (yd_hd (rd := s.1) (gg := q282) (by omega) hH g284 g285 d1 d12) ?_
        rcases y_bc (yHeld s.1 q282 nb 0) with b286 | b286
        · skip
          refine w_ifT y37_55 rfl (y_beqT b286) ?_
          refine w_A y37_64 rfl ?_
          obtain ⟨σ287, r287, V287, h287, f287⟩ := yc_go (L := L) (xs := xs) (d := d + 1) hm h281 (Nat.le_of_eq ((yOne_k h282)).symm)
          refine y_call0 y37_65 (y_args6 (yCM_g h281) rfl rfl) rfl r287 ?_
          have hv287 := yCM_v hT h287
          refine w_A y37_68 rfl ?_
          have g288 := (yF_n f287 (by rfl) g284)
          refine y_gf y37_69 g288 rfl d12 ?_
          refine w_I y37_72 rfl ?_
          refine w_I y37_73 rfl ?_
          have g289 := (yF_n f287 (by rfl) g285)
          refine y_ist y37_74 g289 (by omega) (by decide) ?_
          intro σ291 h290
          refine w_K y37_75 ?_
          have hC292 := yCM_fr h287 (show yFr [20, 22, 24, 26, 28, 30, 32, 34] _ _ from (yF_D h290 (by rfl))) (by rfl)
          have sp : yHol T n m nb ng s p = .inr ((upd s.1 (19 + q276) (Int32.ofNat q282), s.2), (yto T n m (yto T n m (yto T n m p)))) := by unfold yHol; rw [h276, yThen_r, if_pos e280, h282, yThen_r, if_neg (by rw [b286]; decide)]
          have u : ∀ j, j < 19 → upd s.1 (19 + q276) (Int32.ofNat q282) j = s.1 j := fun j hj => by rw [upd_at, if_neg (by omega)]
          have g293 := (mD_n h290 (by decide) g288)
          have g294 := (mD_n h290 (by decide) (yF_n f287 (by rfl) (yF_n f281 (by rfl) (yF_n f275 (by rfl) g22))))
          have g295 := (mD_n h290 (by decide) (yF_n f287 (by rfl) (yF_n f281 (by rfl) (yF_n f275 (by rfl) g24))))
          have g296 := (mD_n h290 (by decide) (yF_n f287 (by rfl) (yF_n f281 (by rfl) (yF_n f275 (by rfl) g26))))
          have g297 := (mD_n h290 (by decide) (yF_n f287 (by rfl) (yF_n f281 (by rfl) (yF_n f275 (by rfl) g30))))
          have g298 := (mD_n h290 (by decide) (yF_n f287 (by rfl) (yF_n f281 (by rfl) (yF_n f275 (by rfl) g32))))
          have g299 := (mD_n h290 (by decide) (yF_n f287 (by rfl) (yF_n f281 (by rfl) (yF_n f275 (by rfl) g34))))
          have hD2 : yCD ((upd s.1 (19 + q276) (Int32.ofNat q282), s.2)) nb ng l _ _ := ⟨_, _, _, _, _, _, _, ⟨g293, g294, g295, g296, h290.2.1, g297, g298, g299⟩, ⟨d9, d10, d11, d12, d13, d14, d15⟩, ⟨d0, d1, d2⟩, ⟨(d3).trans (congrArg Value.int (u 2 (by omega))).symm, (d4).trans (congrArg Value.int (u 3 (by omega))).symm, (d5).trans (congrArg Value.int (u 4 (by omega))).symm, d6, d7, d8⟩, hN, fun b hb2 => by
            show upd hl q276 (Int32.ofNat q282) b = upd s.1 (19 + q276) (Int32.ofNat q282) (19 + b)
            by_cases e : b = q276
            · rw [upd_at, if_pos e, upd_at, if_pos (by omega)]
            · rw [upd_at, if_neg e, upd_at, if_neg (by omega)]; exact hH b hb2⟩
          exact y_ret y37_76 rfl ⟨true, _, _, rfl, yDO_good sp hC292 hD2 ⟨⟨(u 0 (by omega)).trans hb, (u 1 (by omega)).trans hg⟩, hb7, hg6⟩, (yF_tr (yF_sub (by rfl) f275) (yF_tr (yF_sub (by rfl) f281) (yF_tr (yF_sub (by rfl) f287) (yF_D h290 (by rfl)))))⟩
        · skip
          refine w_ifF y37_55 rfl (y_beqF b286) ?_
          refine w_A y37_58 rfl ?_
          refine w_K y37_59 ?_
          obtain ⟨σ300, r300, V300, h300, f300⟩ := yc_rfE (L := L) (xs := xs) (d := d + 1) (k := 3) hv281 (yCM_g h281) (.inl (by rw [(yOne_k h282)]; decide))
          refine y_call y37_60 (y_args6 (yCM_g h281) rfl rfl) rfl r300 ?_
          have sp : yHol T n m nb ng s p = .inl (ybd T n m (yto T n m (yto T n m p)) 3) := by unfold yHol; rw [h276, yThen_r, if_pos e280, h282, yThen_r, if_pos b286]
          exact y_ret y37_63 rfl ⟨false, _, D, rfl, yDO_bad sp h300, (yF_tr (yF_sub (by rfl) f275) (yF_tr (yF_sub (by rfl) f281) (yF_sub (by rfl) f300)))⟩
    · skip
      refine w_icF y37_24 rfl (decide_eq_false e280) ?_
      refine w_A y37_27 rfl ?_
      refine w_K y37_28 ?_
      obtain ⟨σ301, r301, V301, h301, f301⟩ := yc_rfE (L := L) (xs := xs) (d := d + 1) (k := 3) hv275 (yCM_g h275) (.inl (by rw [(yOne_k h276)]; decide))
      refine y_call y37_29 (y_args6 (yCM_g h275) rfl rfl) rfl r301 ?_
      have sp : yHol T n m nb ng s p = .inl (ybd T n m (yto T n m p) 3) := by unfold yHol; rw [h276, yThen_r, if_neg e280]
      exact y_ret y37_32 rfl ⟨false, _, D, rfl, yDO_bad sp h301, (yF_tr (yF_sub (by rfl) f275) (yF_sub (by rfl) f301))⟩
set_option maxRecDepth 100000 in
theorem y39_0 : iv_f1 (iv_p 39) 0 = some (.inl (iv_oA 0 1)) := rfl
set_option maxRecDepth 100000 in
theorem y39_1 : iv_f1 (iv_p 39) 1 = some (.inl (iv_oGF 3 6)) := rfl
set_option maxRecDepth 100000 in
theorem y39_4 : iv_f1 (iv_p 39) 4 = some (.inl (iv_oIf .eq (9))) := rfl
set_option maxRecDepth 100000 in
theorem y39_7 : iv_f1 (iv_p 39) 7 = some (.inl (iv_oA 1 1)) := rfl
set_option maxRecDepth 100000 in
theorem y39_8 : iv_f1 (iv_p 39) 8 = some (.inl (iv_oK (.int (Int32.ofNat 3)) 1)) := rfl
set_option maxRecDepth 100000 in
theorem y39_9 : iv_f1 (iv_p 39) 9 = some (.inr (.inr (6, 56, 1, 5))) := rfl
set_option maxRecDepth 100000 in
theorem y39_12 : iv_f1 (iv_p 39) 12 = some (.inr (.inl 2)) := rfl
set_option maxRecDepth 100000 in
theorem y39_13 : iv_f1 (iv_p 39) 13 = some (.inl (iv_oA 0 1)) := rfl
set_option maxRecDepth 100000 in
theorem y39_14 : iv_f1 (iv_p 39) 14 = some (.inl (iv_oK (.int (Int32.ofNat 1)) 1)) := rfl
set_option maxRecDepth 100000 in
theorem y39_15 : iv_f1 (iv_p 39) 15 = some (.inl (iv_oPF 3 6 .boolean)) := rfl
set_option maxRecDepth 100000 in
theorem y39_18 : iv_f1 (iv_p 39) 18 = some (.inl (iv_oA 1 1)) := rfl
set_option maxRecDepth 100000 in
theorem y39_19 : iv_f1 (iv_p 39) 19 = some (.inr (.inr (6, 52, 0, 5))) := rfl
set_option maxRecDepth 100000 in
theorem y39_22 : iv_f1 (iv_p 39) 22 = some (.inl (iv_oA 0 1)) := rfl
set_option maxRecDepth 100000 in
theorem y39_23 : iv_f1 (iv_p 39) 23 = some (.inl (iv_oA 1 1)) := rfl
set_option maxRecDepth 100000 in
theorem y39_24 : iv_f1 (iv_p 39) 24 = some (.inl (iv_oK (.int (Int32.ofNat 0)) 1)) := rfl
set_option maxRecDepth 100000 in
theorem y39_25 : iv_f1 (iv_p 39) 25 = some (.inl (iv_oK (.int (Int32.ofNat 20)) 2)) := rfl
set_option maxRecDepth 100000 in
theorem y39_27 : iv_f1 (iv_p 39) 27 = some (.inr (.inr (6, 58, 2, 5))) := rfl
set_option maxRecDepth 100000 in
theorem y39_30 : iv_f1 (iv_p 39) 30 = some (.inl (iv_oPF 3 3 .int)) := rfl
set_option maxRecDepth 100000 in
theorem y39_33 : iv_f1 (iv_p 39) 33 = some (.inl (iv_oA 0 1)) := rfl
set_option maxRecDepth 100000 in
theorem y39_34 : iv_f1 (iv_p 39) 34 = some (.inl (iv_oGF 3 3)) := rfl
set_option maxRecDepth 100000 in
theorem y39_37 : iv_f1 (iv_p 39) 37 = some (.inl (iv_oK (.int (Int32.ofInt (-1))) 1)) := rfl
set_option maxRecDepth 100000 in
theorem y39_38 : iv_f1 (iv_p 39) 38 = some (.inl (iv_oIc .eq (7))) := rfl
set_option maxRecDepth 100000 in
theorem y39_41 : iv_f1 (iv_p 39) 41 = some (.inl (iv_oK (.int (Int32.ofNat 1)) 1)) := rfl
set_option maxRecDepth 100000 in
theorem y39_42 : iv_f1 (iv_p 39) 42 = some (.inl (iv_oGo (4))) := rfl
set_option maxRecDepth 100000 in
theorem y39_45 : iv_f1 (iv_p 39) 45 = some (.inl (iv_oK (.int (Int32.ofNat 0)) 1)) := rfl
set_option maxRecDepth 100000 in
theorem y39_46 : iv_f1 (iv_p 39) 46 = some (.inr (.inl 2)) := rfl
theorem yd_even {L : Nat} {xs : Nat → Int32} {d : Nat} {T : Nat → Nat} {n m p nb ng l : Nat} {s : yS} {V D : Nat → Value} {σ : iv_H} (hd : 2 ≤ d) (hm : m ≤ 900) (hT : ∀ i, T i ≤ 255) (hC : yCM T n m p V σ) (hD : yCD s nb ng l D σ) (hn : yCn s nb ng) (hkw : ykd T n m p = 2) : ∃ b σ1 V1 D1, iv_Rn L xs d 39 0 (lv_args 0 [.ref 20, .ref 356]) [] σ (some (.int (yb b))) σ1 ∧ yDO T n m l (yOnc T n m 0 20 s p) b V1 D1 σ1 ∧ yFr [356, 20, 22, 24, 26, 28, 30, 32, 34] σ σ1 := by
  obtain ⟨d, rfl⟩ : ∃ e, d = e + 2 := ⟨d - 2, by omega⟩
  refine y_Rd ?_
  obtain ⟨⟨hb, hg⟩, hb7, hg6⟩ := id hn
  obtain ⟨bn, bl, hd_, hl, gn, te, ed, ⟨g20, g22, g24, g26, g28, g30, g32, g34⟩, ⟨d9, d10, d11, d12, d13, d14, d15⟩, ⟨d0, d1, d2⟩, ⟨d3, d4, d5, d6, d7, d8⟩, hN, hH⟩ := id hD
  have hv := yCM_v hT hC
  refine w_A y39_0 rfl ?_
  refine y_gf y39_1 g20 rfl d6 ?_
  by_cases e302 : (s.2.2 0) = Int32.ofNat 0
  · skip
    refine w_ifT y39_4 rfl (decide_eq_true e302) ?_
    refine w_A y39_13 rfl ?_
    refine w_K y39_14 ?_
    refine y_pf y39_15 g20 rfl rfl ?_
    intro σ304 h303
    refine w_A y39_18 rfl ?_
    have hC306 := yCM_fr hC (show yFr [20, 22, 24, 26, 28, 30, 32, 34] _ _ from (yF_D h303 (by rfl))) (by rfl)
    obtain ⟨σ305, r305, V305, h305, f305⟩ := yc_go (L := L) (xs := xs) (d := d + 1) hm hC306 (Nat.le_of_eq (hkw).symm)
    refine y_call0 y39_19 (y_args6 (yCM_g hC306) rfl rfl) rfl r305 ?_
    have hv305 := yCM_v hT h305
    refine w_A y39_22 rfl ?_
    refine w_A y39_23 rfl ?_
    refine w_K y39_24 ?_
    refine w_K y39_25 ?_
    obtain ⟨x307, σ307, V307, r307, o307, f307⟩ := yc_pn (L := L) (xs := xs) (d := d + 1) (a := 0) (b := 20) (by omega) hm hT (by omega) (by omega) h305
    refine y_call y39_27 (y_args6 (yCM_g h305) rfl rfl) rfl r307 ?_
    cases h307 : yNum T n m 0 20 (yto T n m p) with
    | inl e307 =>
      rw [h307] at o307
      obtain ⟨rfl, hb307⟩ := (show _ ∧ _ from o307)
      have g308 := (yF_n f307 (by rfl) (yF_n f305 (by rfl) h303.2.1))
      refine y_pf y39_30 g308 rfl rfl ?_
      intro σ310 h309
      refine w_A y39_33 rfl ?_
      refine y_gf y39_34 h309.2.1 rfl rfl ?_
      refine w_K y39_37 ?_
      refine w_icT y39_38 rfl (by decide) ?_
      refine w_K y39_45 ?_
      have sp : yOnc T n m 0 20 s p = .inl e307 := by unfold yOnc; rw [if_pos e302, yPut_l h307]
      have hbx : yCB e307 _ _ := ⟨mD_n h309 (by decide) hb307.1, hb307.2⟩
      exact y_ret y39_46 rfl ⟨false, _, D, rfl, yDO_bad sp hbx, (yF_tr (yF_D h303 (by rfl)) (yF_tr (yF_sub (by rfl) f305) (yF_tr (yF_sub (by rfl) f307) (yF_D h309 (by rfl)))))⟩
    | inr q307 =>
      rw [h307] at o307
      have ln307 : yK _ := Nat.le_trans (yNum_le h307) (by decide : 20 ≤ 1000)
      obtain rfl := yNum_inr h307
      obtain ⟨rfl, ok307⟩ := (show _ ∧ _ from o307)
      have hC307 : yCM T n m (yto T n m (yto T n m p)) V307 _ := ok307
      have g311 := (yF_n f307 (by rfl) (yF_n f305 (by rfl) h303.2.1))
      refine y_pf y39_30 g311 rfl rfl ?_
      intro σ313 h312
      refine w_A y39_33 rfl ?_
      refine y_gf y39_34 h312.2.1 rfl rfl ?_
      refine w_K y39_37 ?_
      refine w_icF y39_38 rfl (decide_eq_false (y_oN ln307)) ?_
      refine w_K y39_41 ?_
      refine w_go y39_42 rfl ?_
      have hC314 := yCM_fr hC307 (show yFr [20, 22, 24, 26, 28, 30, 32, 34] _ _ from (yF_D h312 (by rfl))) (by rfl)
      have sp : yOnc T n m 0 20 s p = .inr ((upd s.1 (2 + 0) (Int32.ofNat (ynN T (ysk T n (yto T n m p)) (yln T n (yto T n m p)))), s.2.1, upd s.2.2 0 (Int32.ofNat 1)), (yto T n m (yto T n m p))) := by unfold yOnc; rw [if_pos e302, yPut_r h307]
      have u : ∀ j, ¬ j = 2 → upd s.1 (2 + 0) (Int32.ofNat (ynN T (ysk T n (yto T n m p)) (yln T n (yto T n m p)))) j = s.1 j := fun j hj => by rw [upd_at, if_neg (by omega)]
      have w : ∀ j, ¬ j = 0 → upd s.2.2 0 (Int32.ofNat 1) j = s.2.2 j := fun j hj => by rw [upd_at, if_neg hj]
      have g315 := (mD_n h312 (by decide) (yF_n f307 (by rfl) (yF_n f305 (by rfl) (mD_n h303 (by decide) g22))))
      have g316 := (mD_n h312 (by decide) (yF_n f307 (by rfl) (yF_n f305 (by rfl) (mD_n h303 (by decide) g24))))
      have g317 := (mD_n h312 (by decide) (yF_n f307 (by rfl) (yF_n f305 (by rfl) (mD_n h303 (by decide) g26))))
      have g318 := (mD_n h312 (by decide) (yF_n f307 (by rfl) (yF_n f305 (by rfl) (mD_n h303 (by decide) g28))))
      have g319 := (mD_n h312 (by decide) (yF_n f307 (by rfl) (yF_n f305 (by rfl) (mD_n h303 (by decide) g30))))
      have g320 := (mD_n h312 (by decide) (yF_n f307 (by rfl) (yF_n f305 (by rfl) (mD_n h303 (by decide) g32))))
      have g321 := (mD_n h312 (by decide) (yF_n f307 (by rfl) (yF_n f305 (by rfl) (mD_n h303 (by decide) g34))))
      have hD2 : yCD (upd s.1 (2 + 0) (Int32.ofNat (ynN T (ysk T n (yto T n m p)) (yln T n (yto T n m p)))), s.2.1, upd s.2.2 0 (Int32.ofNat 1)) nb ng l _ _ := ⟨_, _, _, _, _, _, _, ⟨h312.2.1, g315, g316, g317, g318, g319, g320, g321⟩, ⟨d9, d10, d11, d12, d13, d14, d15⟩, ⟨d0, d1, d2⟩, ⟨rfl, (d4).trans (congrArg Value.int (u 3 (by omega))).symm, (d5).trans (congrArg Value.int (u 4 (by omega))).symm, rfl, (d7).trans (congrArg Value.int (w 1 (by omega))).symm, (d8).trans (congrArg Value.int (w 2 (by omega))).symm⟩, hN, fun b hb2 => (hH b hb2).trans (u (19 + b) (by omega)).symm⟩
      exact y_ret y39_46 rfl ⟨true, _, _, rfl, yDO_good sp hC314 hD2 ⟨⟨(u 0 (by omega)).trans hb, (u 1 (by omega)).trans hg⟩, hb7, hg6⟩, (yF_tr (yF_D h303 (by rfl)) (yF_tr (yF_sub (by rfl) f305) (yF_tr (yF_sub (by rfl) f307) (yF_D h312 (by rfl)))))⟩
  · skip
    refine w_ifF y39_4 rfl (decide_eq_false e302) ?_
    refine w_A y39_7 rfl ?_
    refine w_K y39_8 ?_
    obtain ⟨σ322, r322, V322, h322, f322⟩ := yc_rfE (L := L) (xs := xs) (d := d + 1) (k := 3) hv (yCM_g hC) (.inl (by rw [hkw]; decide))
    refine y_call y39_9 (y_args6 (yCM_g hC) rfl rfl) rfl r322 ?_
    have sp : yOnc T n m 0 20 s p = .inl (ybd T n m p 3) := by unfold yOnc; rw [if_neg e302]
    exact y_ret y39_12 rfl ⟨false, _, D, rfl, yDO_bad sp h322, (yF_sub (by rfl) f322)⟩
set_option maxRecDepth 100000 in
theorem y40_0 : iv_f1 (iv_p 40) 0 = some (.inl (iv_oA 0 1)) := rfl
set_option maxRecDepth 100000 in
theorem y40_1 : iv_f1 (iv_p 40) 1 = some (.inl (iv_oGF 3 7)) := rfl
set_option maxRecDepth 100000 in
theorem y40_4 : iv_f1 (iv_p 40) 4 = some (.inl (iv_oIf .eq (9))) := rfl
set_option maxRecDepth 100000 in
theorem y40_7 : iv_f1 (iv_p 40) 7 = some (.inl (iv_oA 1 1)) := rfl
set_option maxRecDepth 100000 in
theorem y40_8 : iv_f1 (iv_p 40) 8 = some (.inl (iv_oK (.int (Int32.ofNat 3)) 1)) := rfl
set_option maxRecDepth 100000 in
theorem y40_9 : iv_f1 (iv_p 40) 9 = some (.inr (.inr (6, 56, 1, 5))) := rfl
set_option maxRecDepth 100000 in
theorem y40_12 : iv_f1 (iv_p 40) 12 = some (.inr (.inl 2)) := rfl
set_option maxRecDepth 100000 in
theorem y40_13 : iv_f1 (iv_p 40) 13 = some (.inl (iv_oA 0 1)) := rfl
set_option maxRecDepth 100000 in
theorem y40_14 : iv_f1 (iv_p 40) 14 = some (.inl (iv_oK (.int (Int32.ofNat 1)) 1)) := rfl
set_option maxRecDepth 100000 in
theorem y40_15 : iv_f1 (iv_p 40) 15 = some (.inl (iv_oPF 3 7 .boolean)) := rfl
set_option maxRecDepth 100000 in
theorem y40_18 : iv_f1 (iv_p 40) 18 = some (.inl (iv_oA 1 1)) := rfl
set_option maxRecDepth 100000 in
theorem y40_19 : iv_f1 (iv_p 40) 19 = some (.inr (.inr (6, 52, 0, 5))) := rfl
set_option maxRecDepth 100000 in
theorem y40_22 : iv_f1 (iv_p 40) 22 = some (.inl (iv_oA 0 1)) := rfl
set_option maxRecDepth 100000 in
theorem y40_23 : iv_f1 (iv_p 40) 23 = some (.inl (iv_oA 1 1)) := rfl
set_option maxRecDepth 100000 in
theorem y40_24 : iv_f1 (iv_p 40) 24 = some (.inl (iv_oK (.int (Int32.ofNat 0)) 1)) := rfl
set_option maxRecDepth 100000 in
theorem y40_25 : iv_f1 (iv_p 40) 25 = some (.inl (iv_oK (.int (Int32.ofNat 20)) 2)) := rfl
set_option maxRecDepth 100000 in
theorem y40_27 : iv_f1 (iv_p 40) 27 = some (.inr (.inr (6, 58, 2, 5))) := rfl
set_option maxRecDepth 100000 in
theorem y40_30 : iv_f1 (iv_p 40) 30 = some (.inl (iv_oPF 3 4 .int)) := rfl
set_option maxRecDepth 100000 in
theorem y40_33 : iv_f1 (iv_p 40) 33 = some (.inl (iv_oA 0 1)) := rfl
set_option maxRecDepth 100000 in
theorem y40_34 : iv_f1 (iv_p 40) 34 = some (.inl (iv_oGF 3 4)) := rfl
set_option maxRecDepth 100000 in
theorem y40_37 : iv_f1 (iv_p 40) 37 = some (.inl (iv_oK (.int (Int32.ofInt (-1))) 1)) := rfl
set_option maxRecDepth 100000 in
theorem y40_38 : iv_f1 (iv_p 40) 38 = some (.inl (iv_oIc .eq (7))) := rfl
set_option maxRecDepth 100000 in
theorem y40_41 : iv_f1 (iv_p 40) 41 = some (.inl (iv_oK (.int (Int32.ofNat 1)) 1)) := rfl
set_option maxRecDepth 100000 in
theorem y40_42 : iv_f1 (iv_p 40) 42 = some (.inl (iv_oGo (4))) := rfl
set_option maxRecDepth 100000 in
theorem y40_45 : iv_f1 (iv_p 40) 45 = some (.inl (iv_oK (.int (Int32.ofNat 0)) 1)) := rfl
set_option maxRecDepth 100000 in
theorem y40_46 : iv_f1 (iv_p 40) 46 = some (.inr (.inl 2)) := rfl
theorem yd_files {L : Nat} {xs : Nat → Int32} {d : Nat} {T : Nat → Nat} {n m p nb ng l : Nat} {s : yS} {V D : Nat → Value} {σ : iv_H} (hd : 2 ≤ d) (hm : m ≤ 900) (hT : ∀ i, T i ≤ 255) (hC : yCM T n m p V σ) (hD : yCD s nb ng l D σ) (hn : yCn s nb ng) (hkw : ykd T n m p = 2) : ∃ b σ1 V1 D1, iv_Rn L xs d 40 0 (lv_args 0 [.ref 20, .ref 356]) [] σ (some (.int (yb b))) σ1 ∧ yDO T n m l (yOnc T n m 1 20 s p) b V1 D1 σ1 ∧ yFr [356, 20, 22, 24, 26, 28, 30, 32, 34] σ σ1 := by
  obtain ⟨d, rfl⟩ : ∃ e, d = e + 2 := ⟨d - 2, by omega⟩
  refine y_Rd ?_
  obtain ⟨⟨hb, hg⟩, hb7, hg6⟩ := id hn
  obtain ⟨bn, bl, hd_, hl, gn, te, ed, ⟨g20, g22, g24, g26, g28, g30, g32, g34⟩, ⟨d9, d10, d11, d12, d13, d14, d15⟩, ⟨d0, d1, d2⟩, ⟨d3, d4, d5, d6, d7, d8⟩, hN, hH⟩ := id hD
  have hv := yCM_v hT hC
  refine w_A y40_0 rfl ?_
  refine y_gf y40_1 g20 rfl d7 ?_
  by_cases e323 : (s.2.2 1) = Int32.ofNat 0
  · skip
    refine w_ifT y40_4 rfl (decide_eq_true e323) ?_
    refine w_A y40_13 rfl ?_
    refine w_K y40_14 ?_
    refine y_pf y40_15 g20 rfl rfl ?_
    intro σ325 h324
    refine w_A y40_18 rfl ?_
    have hC327 := yCM_fr hC (show yFr [20, 22, 24, 26, 28, 30, 32, 34] _ _ from (yF_D h324 (by rfl))) (by rfl)
    obtain ⟨σ326, r326, V326, h326, f326⟩ := yc_go (L := L) (xs := xs) (d := d + 1) hm hC327 (Nat.le_of_eq (hkw).symm)
    refine y_call0 y40_19 (y_args6 (yCM_g hC327) rfl rfl) rfl r326 ?_
    have hv326 := yCM_v hT h326
    refine w_A y40_22 rfl ?_
    refine w_A y40_23 rfl ?_
    refine w_K y40_24 ?_
    refine w_K y40_25 ?_
    obtain ⟨x328, σ328, V328, r328, o328, f328⟩ := yc_pn (L := L) (xs := xs) (d := d + 1) (a := 0) (b := 20) (by omega) hm hT (by omega) (by omega) h326
    refine y_call y40_27 (y_args6 (yCM_g h326) rfl rfl) rfl r328 ?_
    cases h328 : yNum T n m 0 20 (yto T n m p) with
    | inl e328 =>
      rw [h328] at o328
      obtain ⟨rfl, hb328⟩ := (show _ ∧ _ from o328)
      have g329 := (yF_n f328 (by rfl) (yF_n f326 (by rfl) h324.2.1))
      refine y_pf y40_30 g329 rfl rfl ?_
      intro σ331 h330
      refine w_A y40_33 rfl ?_
      refine y_gf y40_34 h330.2.1 rfl rfl ?_
      refine w_K y40_37 ?_
      refine w_icT y40_38 rfl (by decide) ?_
      refine w_K y40_45 ?_
      have sp : yOnc T n m 1 20 s p = .inl e328 := by unfold yOnc; rw [if_pos e323, yPut_l h328]
      have hbx : yCB e328 _ _ := ⟨mD_n h330 (by decide) hb328.1, hb328.2⟩
      exact y_ret y40_46 rfl ⟨false, _, D, rfl, yDO_bad sp hbx, (yF_tr (yF_D h324 (by rfl)) (yF_tr (yF_sub (by rfl) f326) (yF_tr (yF_sub (by rfl) f328) (yF_D h330 (by rfl)))))⟩
    | inr q328 =>
      rw [h328] at o328
      have ln328 : yK _ := Nat.le_trans (yNum_le h328) (by decide : 20 ≤ 1000)
      obtain rfl := yNum_inr h328
      obtain ⟨rfl, ok328⟩ := (show _ ∧ _ from o328)
      have hC328 : yCM T n m (yto T n m (yto T n m p)) V328 _ := ok328
      have g332 := (yF_n f328 (by rfl) (yF_n f326 (by rfl) h324.2.1))
      refine y_pf y40_30 g332 rfl rfl ?_
      intro σ334 h333
      refine w_A y40_33 rfl ?_
      refine y_gf y40_34 h333.2.1 rfl rfl ?_
      refine w_K y40_37 ?_
      refine w_icF y40_38 rfl (decide_eq_false (y_oN ln328)) ?_
      refine w_K y40_41 ?_
      refine w_go y40_42 rfl ?_
      have hC335 := yCM_fr hC328 (show yFr [20, 22, 24, 26, 28, 30, 32, 34] _ _ from (yF_D h333 (by rfl))) (by rfl)
      have sp : yOnc T n m 1 20 s p = .inr ((upd s.1 (2 + 1) (Int32.ofNat (ynN T (ysk T n (yto T n m p)) (yln T n (yto T n m p)))), s.2.1, upd s.2.2 1 (Int32.ofNat 1)), (yto T n m (yto T n m p))) := by unfold yOnc; rw [if_pos e323, yPut_r h328]
      have u : ∀ j, ¬ j = 3 → upd s.1 (2 + 1) (Int32.ofNat (ynN T (ysk T n (yto T n m p)) (yln T n (yto T n m p)))) j = s.1 j := fun j hj => by rw [upd_at, if_neg (by omega)]
      have w : ∀ j, ¬ j = 1 → upd s.2.2 1 (Int32.ofNat 1) j = s.2.2 j := fun j hj => by rw [upd_at, if_neg hj]
      have g336 := (mD_n h333 (by decide) (yF_n f328 (by rfl) (yF_n f326 (by rfl) (mD_n h324 (by decide) g22))))
      have g337 := (mD_n h333 (by decide) (yF_n f328 (by rfl) (yF_n f326 (by rfl) (mD_n h324 (by decide) g24))))
      have g338 := (mD_n h333 (by decide) (yF_n f328 (by rfl) (yF_n f326 (by rfl) (mD_n h324 (by decide) g26))))
      have g339 := (mD_n h333 (by decide) (yF_n f328 (by rfl) (yF_n f326 (by rfl) (mD_n h324 (by decide) g28))))
      have g340 := (mD_n h333 (by decide) (yF_n f328 (by rfl) (yF_n f326 (by rfl) (mD_n h324 (by decide) g30))))
      have g341 := (mD_n h333 (by decide) (yF_n f328 (by rfl) (yF_n f326 (by rfl) (mD_n h324 (by decide) g32))))
      have g342 := (mD_n h333 (by decide) (yF_n f328 (by rfl) (yF_n f326 (by rfl) (mD_n h324 (by decide) g34))))
      have hD2 : yCD (upd s.1 (2 + 1) (Int32.ofNat (ynN T (ysk T n (yto T n m p)) (yln T n (yto T n m p)))), s.2.1, upd s.2.2 1 (Int32.ofNat 1)) nb ng l _ _ := ⟨_, _, _, _, _, _, _, ⟨h333.2.1, g336, g337, g338, g339, g340, g341, g342⟩, ⟨d9, d10, d11, d12, d13, d14, d15⟩, ⟨d0, d1, d2⟩, ⟨(d3).trans (congrArg Value.int (u 2 (by omega))).symm, rfl, (d5).trans (congrArg Value.int (u 4 (by omega))).symm, (d6).trans (congrArg Value.int (w 0 (by omega))).symm, rfl, (d8).trans (congrArg Value.int (w 2 (by omega))).symm⟩, hN, fun b hb2 => (hH b hb2).trans (u (19 + b) (by omega)).symm⟩
      exact y_ret y40_46 rfl ⟨true, _, _, rfl, yDO_good sp hC335 hD2 ⟨⟨(u 0 (by omega)).trans hb, (u 1 (by omega)).trans hg⟩, hb7, hg6⟩, (yF_tr (yF_D h324 (by rfl)) (yF_tr (yF_sub (by rfl) f326) (yF_tr (yF_sub (by rfl) f328) (yF_D h333 (by rfl)))))⟩
  · skip
    refine w_ifF y40_4 rfl (decide_eq_false e323) ?_
    refine w_A y40_7 rfl ?_
    refine w_K y40_8 ?_
    obtain ⟨σ343, r343, V343, h343, f343⟩ := yc_rfE (L := L) (xs := xs) (d := d + 1) (k := 3) hv (yCM_g hC) (.inl (by rw [hkw]; decide))
    refine y_call y40_9 (y_args6 (yCM_g hC) rfl rfl) rfl r343 ?_
    have sp : yOnc T n m 1 20 s p = .inl (ybd T n m p 3) := by unfold yOnc; rw [if_neg e323]
    exact y_ret y40_12 rfl ⟨false, _, D, rfl, yDO_bad sp h343, (yF_sub (by rfl) f343)⟩
set_option maxRecDepth 100000 in
theorem y41_0 : iv_f1 (iv_p 41) 0 = some (.inl (iv_oA 0 1)) := rfl
set_option maxRecDepth 100000 in
theorem y41_1 : iv_f1 (iv_p 41) 1 = some (.inl (iv_oGF 3 8)) := rfl
set_option maxRecDepth 100000 in
theorem y41_4 : iv_f1 (iv_p 41) 4 = some (.inl (iv_oIf .eq (9))) := rfl
set_option maxRecDepth 100000 in
theorem y41_7 : iv_f1 (iv_p 41) 7 = some (.inl (iv_oA 1 1)) := rfl
set_option maxRecDepth 100000 in
theorem y41_8 : iv_f1 (iv_p 41) 8 = some (.inl (iv_oK (.int (Int32.ofNat 3)) 1)) := rfl
set_option maxRecDepth 100000 in
theorem y41_9 : iv_f1 (iv_p 41) 9 = some (.inr (.inr (6, 56, 1, 5))) := rfl
set_option maxRecDepth 100000 in
theorem y41_12 : iv_f1 (iv_p 41) 12 = some (.inr (.inl 2)) := rfl
set_option maxRecDepth 100000 in
theorem y41_13 : iv_f1 (iv_p 41) 13 = some (.inl (iv_oA 0 1)) := rfl
set_option maxRecDepth 100000 in
theorem y41_14 : iv_f1 (iv_p 41) 14 = some (.inl (iv_oK (.int (Int32.ofNat 1)) 1)) := rfl
set_option maxRecDepth 100000 in
theorem y41_15 : iv_f1 (iv_p 41) 15 = some (.inl (iv_oPF 3 8 .boolean)) := rfl
set_option maxRecDepth 100000 in
theorem y41_18 : iv_f1 (iv_p 41) 18 = some (.inl (iv_oA 1 1)) := rfl
set_option maxRecDepth 100000 in
theorem y41_19 : iv_f1 (iv_p 41) 19 = some (.inr (.inr (6, 52, 0, 5))) := rfl
set_option maxRecDepth 100000 in
theorem y41_22 : iv_f1 (iv_p 41) 22 = some (.inl (iv_oA 0 1)) := rfl
set_option maxRecDepth 100000 in
theorem y41_23 : iv_f1 (iv_p 41) 23 = some (.inl (iv_oA 1 1)) := rfl
set_option maxRecDepth 100000 in
theorem y41_24 : iv_f1 (iv_p 41) 24 = some (.inl (iv_oK (.int (Int32.ofNat 0)) 1)) := rfl
set_option maxRecDepth 100000 in
theorem y41_25 : iv_f1 (iv_p 41) 25 = some (.inl (iv_oK (.int (Int32.ofNat 12)) 2)) := rfl
set_option maxRecDepth 100000 in
theorem y41_27 : iv_f1 (iv_p 41) 27 = some (.inr (.inr (6, 58, 2, 5))) := rfl
set_option maxRecDepth 100000 in
theorem y41_30 : iv_f1 (iv_p 41) 30 = some (.inl (iv_oPF 3 5 .int)) := rfl
set_option maxRecDepth 100000 in
theorem y41_33 : iv_f1 (iv_p 41) 33 = some (.inl (iv_oA 0 1)) := rfl
set_option maxRecDepth 100000 in
theorem y41_34 : iv_f1 (iv_p 41) 34 = some (.inl (iv_oGF 3 5)) := rfl
set_option maxRecDepth 100000 in
theorem y41_37 : iv_f1 (iv_p 41) 37 = some (.inl (iv_oK (.int (Int32.ofInt (-1))) 1)) := rfl
set_option maxRecDepth 100000 in
theorem y41_38 : iv_f1 (iv_p 41) 38 = some (.inl (iv_oIc .eq (7))) := rfl
set_option maxRecDepth 100000 in
theorem y41_41 : iv_f1 (iv_p 41) 41 = some (.inl (iv_oK (.int (Int32.ofNat 1)) 1)) := rfl
set_option maxRecDepth 100000 in
theorem y41_42 : iv_f1 (iv_p 41) 42 = some (.inl (iv_oGo (4))) := rfl
set_option maxRecDepth 100000 in
theorem y41_45 : iv_f1 (iv_p 41) 45 = some (.inl (iv_oK (.int (Int32.ofNat 0)) 1)) := rfl
set_option maxRecDepth 100000 in
theorem y41_46 : iv_f1 (iv_p 41) 46 = some (.inr (.inl 2)) := rfl
theorem yd_draught {L : Nat} {xs : Nat → Int32} {d : Nat} {T : Nat → Nat} {n m p nb ng l : Nat} {s : yS} {V D : Nat → Value} {σ : iv_H} (hd : 2 ≤ d) (hm : m ≤ 900) (hT : ∀ i, T i ≤ 255) (hC : yCM T n m p V σ) (hD : yCD s nb ng l D σ) (hn : yCn s nb ng) (hkw : ykd T n m p = 2) : ∃ b σ1 V1 D1, iv_Rn L xs d 41 0 (lv_args 0 [.ref 20, .ref 356]) [] σ (some (.int (yb b))) σ1 ∧ yDO T n m l (yOnc T n m 2 12 s p) b V1 D1 σ1 ∧ yFr [356, 20, 22, 24, 26, 28, 30, 32, 34] σ σ1 := by
  obtain ⟨d, rfl⟩ : ∃ e, d = e + 2 := ⟨d - 2, by omega⟩
  refine y_Rd ?_
  obtain ⟨⟨hb, hg⟩, hb7, hg6⟩ := id hn
  obtain ⟨bn, bl, hd_, hl, gn, te, ed, ⟨g20, g22, g24, g26, g28, g30, g32, g34⟩, ⟨d9, d10, d11, d12, d13, d14, d15⟩, ⟨d0, d1, d2⟩, ⟨d3, d4, d5, d6, d7, d8⟩, hN, hH⟩ := id hD
  have hv := yCM_v hT hC
  refine w_A y41_0 rfl ?_
  refine y_gf y41_1 g20 rfl d8 ?_
  by_cases e344 : (s.2.2 2) = Int32.ofNat 0
  · skip
    refine w_ifT y41_4 rfl (decide_eq_true e344) ?_
    refine w_A y41_13 rfl ?_
    refine w_K y41_14 ?_
    refine y_pf y41_15 g20 rfl rfl ?_
    intro σ346 h345
    refine w_A y41_18 rfl ?_
    have hC348 := yCM_fr hC (show yFr [20, 22, 24, 26, 28, 30, 32, 34] _ _ from (yF_D h345 (by rfl))) (by rfl)
    obtain ⟨σ347, r347, V347, h347, f347⟩ := yc_go (L := L) (xs := xs) (d := d + 1) hm hC348 (Nat.le_of_eq (hkw).symm)
    refine y_call0 y41_19 (y_args6 (yCM_g hC348) rfl rfl) rfl r347 ?_
    have hv347 := yCM_v hT h347
    refine w_A y41_22 rfl ?_
    refine w_A y41_23 rfl ?_
    refine w_K y41_24 ?_
    refine w_K y41_25 ?_
    obtain ⟨x349, σ349, V349, r349, o349, f349⟩ := yc_pn (L := L) (xs := xs) (d := d + 1) (a := 0) (b := 12) (by omega) hm hT (by omega) (by omega) h347
    refine y_call y41_27 (y_args6 (yCM_g h347) rfl rfl) rfl r349 ?_
    cases h349 : yNum T n m 0 12 (yto T n m p) with
    | inl e349 =>
      rw [h349] at o349
      obtain ⟨rfl, hb349⟩ := (show _ ∧ _ from o349)
      have g350 := (yF_n f349 (by rfl) (yF_n f347 (by rfl) h345.2.1))
      refine y_pf y41_30 g350 rfl rfl ?_
      intro σ352 h351
      refine w_A y41_33 rfl ?_
      refine y_gf y41_34 h351.2.1 rfl rfl ?_
      refine w_K y41_37 ?_
      refine w_icT y41_38 rfl (by decide) ?_
      refine w_K y41_45 ?_
      have sp : yOnc T n m 2 12 s p = .inl e349 := by unfold yOnc; rw [if_pos e344, yPut_l h349]
      have hbx : yCB e349 _ _ := ⟨mD_n h351 (by decide) hb349.1, hb349.2⟩
      exact y_ret y41_46 rfl ⟨false, _, D, rfl, yDO_bad sp hbx, (yF_tr (yF_D h345 (by rfl)) (yF_tr (yF_sub (by rfl) f347) (yF_tr (yF_sub (by rfl) f349) (yF_D h351 (by rfl)))))⟩
    | inr q349 =>
      rw [h349] at o349
      have ln349 : yK _ := Nat.le_trans (yNum_le h349) (by decide : 12 ≤ 1000)
      obtain rfl := yNum_inr h349
      obtain ⟨rfl, ok349⟩ := (show _ ∧ _ from o349)
      have hC349 : yCM T n m (yto T n m (yto T n m p)) V349 _ := ok349
      have g353 := (yF_n f349 (by rfl) (yF_n f347 (by rfl) h345.2.1))
      refine y_pf y41_30 g353 rfl rfl ?_
      intro σ355 h354
      refine w_A y41_33 rfl ?_
      refine y_gf y41_34 h354.2.1 rfl rfl ?_
      refine w_K y41_37 ?_
      refine w_icF y41_38 rfl (decide_eq_false (y_oN ln349)) ?_
      refine w_K y41_41 ?_
      refine w_go y41_42 rfl ?_
      have hC356 := yCM_fr hC349 (show yFr [20, 22, 24, 26, 28, 30, 32, 34] _ _ from (yF_D h354 (by rfl))) (by rfl)
      have sp : yOnc T n m 2 12 s p = .inr ((upd s.1 (2 + 2) (Int32.ofNat (ynN T (ysk T n (yto T n m p)) (yln T n (yto T n m p)))), s.2.1, upd s.2.2 2 (Int32.ofNat 1)), (yto T n m (yto T n m p))) := by unfold yOnc; rw [if_pos e344, yPut_r h349]
      have u : ∀ j, ¬ j = 4 → upd s.1 (2 + 2) (Int32.ofNat (ynN T (ysk T n (yto T n m p)) (yln T n (yto T n m p)))) j = s.1 j := fun j hj => by rw [upd_at, if_neg (by omega)]
      have w : ∀ j, ¬ j = 2 → upd s.2.2 2 (Int32.ofNat 1) j = s.2.2 j := fun j hj => by rw [upd_at, if_neg hj]
      have g357 := (mD_n h354 (by decide) (yF_n f349 (by rfl) (yF_n f347 (by rfl) (mD_n h345 (by decide) g22))))
      have g358 := (mD_n h354 (by decide) (yF_n f349 (by rfl) (yF_n f347 (by rfl) (mD_n h345 (by decide) g24))))
      have g359 := (mD_n h354 (by decide) (yF_n f349 (by rfl) (yF_n f347 (by rfl) (mD_n h345 (by decide) g26))))
      have g360 := (mD_n h354 (by decide) (yF_n f349 (by rfl) (yF_n f347 (by rfl) (mD_n h345 (by decide) g28))))
      have g361 := (mD_n h354 (by decide) (yF_n f349 (by rfl) (yF_n f347 (by rfl) (mD_n h345 (by decide) g30))))
      have g362 := (mD_n h354 (by decide) (yF_n f349 (by rfl) (yF_n f347 (by rfl) (mD_n h345 (by decide) g32))))
      have g363 := (mD_n h354 (by decide) (yF_n f349 (by rfl) (yF_n f347 (by rfl) (mD_n h345 (by decide) g34))))
      have hD2 : yCD (upd s.1 (2 + 2) (Int32.ofNat (ynN T (ysk T n (yto T n m p)) (yln T n (yto T n m p)))), s.2.1, upd s.2.2 2 (Int32.ofNat 1)) nb ng l _ _ := ⟨_, _, _, _, _, _, _, ⟨h354.2.1, g357, g358, g359, g360, g361, g362, g363⟩, ⟨d9, d10, d11, d12, d13, d14, d15⟩, ⟨d0, d1, d2⟩, ⟨(d3).trans (congrArg Value.int (u 2 (by omega))).symm, (d4).trans (congrArg Value.int (u 3 (by omega))).symm, rfl, (d6).trans (congrArg Value.int (w 0 (by omega))).symm, (d7).trans (congrArg Value.int (w 1 (by omega))).symm, rfl⟩, hN, fun b hb2 => (hH b hb2).trans (u (19 + b) (by omega)).symm⟩
      exact y_ret y41_46 rfl ⟨true, _, _, rfl, yDO_good sp hC356 hD2 ⟨⟨(u 0 (by omega)).trans hb, (u 1 (by omega)).trans hg⟩, hb7, hg6⟩, (yF_tr (yF_D h345 (by rfl)) (yF_tr (yF_sub (by rfl) f347) (yF_tr (yF_sub (by rfl) f349) (yF_D h354 (by rfl)))))⟩
  · skip
    refine w_ifF y41_4 rfl (decide_eq_false e344) ?_
    refine w_A y41_7 rfl ?_
    refine w_K y41_8 ?_
    obtain ⟨σ364, r364, V364, h364, f364⟩ := yc_rfE (L := L) (xs := xs) (d := d + 1) (k := 3) hv (yCM_g hC) (.inl (by rw [hkw]; decide))
    refine y_call y41_9 (y_args6 (yCM_g hC) rfl rfl) rfl r364 ?_
    have sp : yOnc T n m 2 12 s p = .inl (ybd T n m p 3) := by unfold yOnc; rw [if_neg e344]
    exact y_ret y41_12 rfl ⟨false, _, D, rfl, yDO_bad sp h364, (yF_sub (by rfl) f364)⟩
set_option maxRecDepth 100000 in
theorem y33_0 : iv_f1 (iv_p 33) 0 = some (.inl (iv_oS 101)) := rfl
set_option maxRecDepth 100000 in
theorem y33_3 : iv_f1 (iv_p 33) 3 = some (.inl (iv_oA 1 1)) := rfl
set_option maxRecDepth 100000 in
theorem y33_4 : iv_f1 (iv_p 33) 4 = some (.inl (iv_oGF 5 9)) := rfl
set_option maxRecDepth 100000 in
theorem y33_7 : iv_f1 (iv_p 33) 7 = some (.inl iv_oOrd) := rfl
set_option maxRecDepth 100000 in
theorem y33_10 : iv_f1 (iv_p 33) 10 = some (.inl iv_oIl) := rfl
set_option maxRecDepth 100000 in
theorem y33_48 : iv_f1 (iv_p 33) 48 = some (.inl (iv_oA 0 1)) := rfl
set_option maxRecDepth 100000 in
theorem y33_49 : iv_f1 (iv_p 33) 49 = some (.inl (iv_oA 1 1)) := rfl
set_option maxRecDepth 100000 in
theorem y33_50 : iv_f1 (iv_p 33) 50 = some (.inr (.inr (6, 34, 1, 3))) := rfl
set_option maxRecDepth 100000 in
theorem y33_53 : iv_f1 (iv_p 33) 53 = some (.inr (.inl 2)) := rfl
set_option maxRecDepth 100000 in
theorem y33_54 : iv_f1 (iv_p 33) 54 = some (.inl (iv_oA 0 1)) := rfl
set_option maxRecDepth 100000 in
theorem y33_55 : iv_f1 (iv_p 33) 55 = some (.inl (iv_oA 1 1)) := rfl
set_option maxRecDepth 100000 in
theorem y33_56 : iv_f1 (iv_p 33) 56 = some (.inr (.inr (6, 35, 1, 3))) := rfl
set_option maxRecDepth 100000 in
theorem y33_59 : iv_f1 (iv_p 33) 59 = some (.inr (.inl 2)) := rfl
set_option maxRecDepth 100000 in
theorem y33_60 : iv_f1 (iv_p 33) 60 = some (.inl (iv_oA 0 1)) := rfl
set_option maxRecDepth 100000 in
theorem y33_61 : iv_f1 (iv_p 33) 61 = some (.inl (iv_oA 1 1)) := rfl
set_option maxRecDepth 100000 in
theorem y33_62 : iv_f1 (iv_p 33) 62 = some (.inr (.inr (6, 37, 1, 3))) := rfl
set_option maxRecDepth 100000 in
theorem y33_65 : iv_f1 (iv_p 33) 65 = some (.inr (.inl 2)) := rfl
set_option maxRecDepth 100000 in
theorem y33_66 : iv_f1 (iv_p 33) 66 = some (.inl (iv_oA 0 1)) := rfl
set_option maxRecDepth 100000 in
theorem y33_67 : iv_f1 (iv_p 33) 67 = some (.inl (iv_oA 1 1)) := rfl
set_option maxRecDepth 100000 in
theorem y33_68 : iv_f1 (iv_p 33) 68 = some (.inr (.inr (6, 39, 1, 3))) := rfl
set_option maxRecDepth 100000 in
theorem y33_71 : iv_f1 (iv_p 33) 71 = some (.inr (.inl 2)) := rfl
set_option maxRecDepth 100000 in
theorem y33_72 : iv_f1 (iv_p 33) 72 = some (.inl (iv_oA 0 1)) := rfl
set_option maxRecDepth 100000 in
theorem y33_73 : iv_f1 (iv_p 33) 73 = some (.inl (iv_oA 1 1)) := rfl
set_option maxRecDepth 100000 in
theorem y33_74 : iv_f1 (iv_p 33) 74 = some (.inr (.inr (6, 40, 1, 3))) := rfl
set_option maxRecDepth 100000 in
theorem y33_77 : iv_f1 (iv_p 33) 77 = some (.inr (.inl 2)) := rfl
set_option maxRecDepth 100000 in
theorem y33_78 : iv_f1 (iv_p 33) 78 = some (.inl (iv_oA 0 1)) := rfl
set_option maxRecDepth 100000 in
theorem y33_79 : iv_f1 (iv_p 33) 79 = some (.inl (iv_oA 1 1)) := rfl
set_option maxRecDepth 100000 in
theorem y33_80 : iv_f1 (iv_p 33) 80 = some (.inr (.inr (6, 41, 1, 3))) := rfl
set_option maxRecDepth 100000 in
theorem y33_83 : iv_f1 (iv_p 33) 83 = some (.inr (.inl 2)) := rfl
set_option maxRecDepth 100000 in
theorem y33_84 : iv_f1 (iv_p 33) 84 = some (.inl (iv_oA 1 1)) := rfl
set_option maxRecDepth 100000 in
theorem y33_85 : iv_f1 (iv_p 33) 85 = some (.inl (iv_oK (.int (Int32.ofNat 1)) 1)) := rfl
set_option maxRecDepth 100000 in
theorem y33_86 : iv_f1 (iv_p 33) 86 = some (.inr (.inr (6, 56, 1, 5))) := rfl
set_option maxRecDepth 100000 in
theorem y33_89 : iv_f1 (iv_p 33) 89 = some (.inr (.inl 2)) := rfl
set_option maxRecDepth 100000 in
theorem y33_11 : iv_f1 (iv_p 33) 11 = some (.inl (iv_oTs (73) (1) (6) #[37, 43, 49, 55, 61, 67])) := rfl
def ysw (j : Nat) : Nat := if j = 1 then 48 else if j = 2 then 54 else if j = 3 then 60 else if j = 4 then 66 else if j = 5 then 72 else if j = 6 then 78 else 84
theorem yd_sw0 {L : Nat} {xs : Nat → Int32} {lv : iv_L} {σ : iv_H} : ∀ {j : Nat}, j < 28 → (iv_oTs (73) (1) (6) #[37, 43, 49, 55, 61, 67]) L xs 11 lv [.int (iv_sw j)] σ = some (ysw j, lv, [], σ)
  | 0, _ => rfl
  | 1, _ => rfl
  | 2, _ => rfl
  | 3, _ => rfl
  | 4, _ => rfl
  | 5, _ => rfl
  | 6, _ => rfl
  | 7, _ => rfl
  | 8, _ => rfl
  | 9, _ => rfl
  | 10, _ => rfl
  | 11, _ => rfl
  | 12, _ => rfl
  | 13, _ => rfl
  | 14, _ => rfl
  | 15, _ => rfl
  | 16, _ => rfl
  | 17, _ => rfl
  | 18, _ => rfl
  | 19, _ => rfl
  | 20, _ => rfl
  | 21, _ => rfl
  | 22, _ => rfl
  | 23, _ => rfl
  | 24, _ => rfl
  | 25, _ => rfl
  | 26, _ => rfl
  | 27, _ => rfl
  | j + 28, h => by omega
theorem yd_ord {L : Nat} {xs : Nat → Int32} {Post : Option Value → iv_H → Prop} {d M pc : Nat} {lv : iv_L} {σ : iv_H} {j : Nat} {st : List Value} (hf : iv_f1 (iv_p M) pc = some (.inl iv_oOrd)) (hj : j < 28) (hs : Nat.ble (iv_cs st) 8 = true) (k : zGo L xs Post [] d M (pc + 3) lv (.int (Int32.ofNat j) :: st) σ) : zGo L xs Post [] d M pc lv (.ref (2 * j + 3) :: st) σ := zGo_s hf (by
  show (bif iv_isW (2 * j + 3) && Nat.ble (iv_cs st) 8 then some (pc + 3, lv, Value.int (Int32.ofNat ((2 * j + 3 - 3) / 2)) :: st, σ) else none) = _
  rw [s_isW hj, hs, show (2 * j + 3 - 3) / 2 = j by omega]
  rfl) k
theorem yd_swl {L : Nat} {xs : Nat → Int32} {Post : Option Value → iv_H → Prop} {d M pc : Nat} {lv : iv_L} {σ : iv_H} {j : Nat} {st : List Value} (hf : iv_f1 (iv_p M) pc = some (.inl iv_oIl)) (hj : j < 28) (k : zGo L xs Post [] d M (pc + 1) lv (.int (iv_sw j) :: st) σ) : zGo L xs Post [] d M pc lv (.int (Int32.ofNat j) :: .ref 101 :: st) σ := zGo_s hf (by
  show (bif iv_in (Int32.ofNat j) 28 then some (pc + 1, lv, Value.int (iv_sw (Int32.ofNat j).toNatClampNeg) :: st, σ) else none) = _
  rw [(ofNat_in hj (by decide)).1, (ofNat_in hj (by decide)).2.1]
  rfl) k
theorem yd_lin {L : Nat} {xs : Nat → Int32} {d : Nat} {T : Nat → Nat} {n m p nb ng l : Nat} {s : yS} {V D : Nat → Value} {σ : iv_H} (hd : 3 ≤ d) (hm : m ≤ 900) (hT : ∀ i, T i ≤ 255) (hC : yCM T n m p V σ) (hD : yCD s nb ng l D σ) (hn : yCn s nb ng) : ∃ b σ1 V1 D1, iv_Rn L xs d 33 0 (lv_args 0 [.ref 20, .ref 356]) [] σ (some (.int (yb b))) σ1 ∧ yDO T n m l (yLin T n m nb ng s p) b V1 D1 σ1 ∧ yFr [356, 20, 22, 24, 26, 28, 30, 32, 34] σ σ1 := by
  obtain ⟨d, rfl⟩ : ∃ e, d = e + 3 := ⟨d - 3, by omega⟩
  have hv := yCM_v hT hC
  have g := yCM_g hC
  obtain ⟨bn, bl, hd_, hl, gn, te, ed, ⟨g20, _⟩, _⟩ := id hD
  obtain ⟨j, c9, hj, hw⟩ := yCv_wd hv
  refine y_Rd ?_
  refine w_gs y33_0 ?_
  refine w_A y33_3 rfl ?_
  refine y_gf y33_4 g rfl c9 ?_
  refine yd_ord y33_7 hj rfl ?_
  refine yd_swl y33_10 hj ?_
  refine zGo_s y33_11 (yd_sw0 hj) ?_
  by_cases c0 : yisW T n m p 0 = true
  · have ej := (hw 0 (by decide)).mpr c0
    subst ej
    show zGo L xs _ [] (d + 3) 33 48 _ [] σ
    obtain ⟨b, σ1, V1, D1, hr, ho, hf⟩ := yd_bro (L := L) (xs := xs) (d := d + 2) (by omega) hm hT hC hD hn (yisW_k c0)
    refine w_A y33_48 rfl ?_
    refine w_A y33_49 rfl ?_
    refine y_call y33_50 (y_args6 g20 rfl rfl) rfl hr ?_
    refine y_ret y33_53 y_rtb ⟨b, V1, D1, rfl, ?_, hf⟩
    unfold yLin
    rw [if_pos c0]
    exact ho
  · skip
    by_cases c1 : yisW T n m p 1 = true
    · have ej := (hw 1 (by decide)).mpr c1
      subst ej
      show zGo L xs _ [] (d + 3) 33 54 _ [] σ
      obtain ⟨b, σ1, V1, D1, hr, ho, hf⟩ := yd_gra (L := L) (xs := xs) (d := d + 2) (by omega) hm hT hC hD hn (yisW_k c1)
      refine w_A y33_54 rfl ?_
      refine w_A y33_55 rfl ?_
      refine y_call y33_56 (y_args6 g20 rfl rfl) rfl hr ?_
      refine y_ret y33_59 y_rtb ⟨b, V1, D1, rfl, ?_, hf⟩
      unfold yLin
      rw [if_neg c0, if_pos c1]
      exact ho
    · skip
      by_cases c2 : yisW T n m p 2 = true
      · have ej := (hw 2 (by decide)).mpr c2
        subst ej
        show zGo L xs _ [] (d + 3) 33 60 _ [] σ
        obtain ⟨b, σ1, V1, D1, hr, ho, hf⟩ := yd_hol (L := L) (xs := xs) (d := d + 2) (by omega) hm hT hC hD hn (yisW_k c2)
        refine w_A y33_60 rfl ?_
        refine w_A y33_61 rfl ?_
        refine y_call y33_62 (y_args6 g20 rfl rfl) rfl hr ?_
        refine y_ret y33_65 y_rtb ⟨b, V1, D1, rfl, ?_, hf⟩
        unfold yLin
        rw [if_neg c0, if_neg c1, if_pos c2]
        exact ho
      · skip
        by_cases c3 : yisW T n m p 3 = true
        · have ej := (hw 3 (by decide)).mpr c3
          subst ej
          show zGo L xs _ [] (d + 3) 33 66 _ [] σ
          obtain ⟨b, σ1, V1, D1, hr, ho, hf⟩ := yd_even (L := L) (xs := xs) (d := d + 2) (by omega) hm hT hC hD hn (yisW_k c3)
          refine w_A y33_66 rfl ?_
          refine w_A y33_67 rfl ?_
          refine y_call y33_68 (y_args6 g20 rfl rfl) rfl hr ?_
          refine y_ret y33_71 y_rtb ⟨b, V1, D1, rfl, ?_, hf⟩
          unfold yLin
          rw [if_neg c0, if_neg c1, if_neg c2, if_pos c3]
          exact ho
        · skip
          by_cases c4 : yisW T n m p 4 = true
          · have ej := (hw 4 (by decide)).mpr c4
            subst ej
            show zGo L xs _ [] (d + 3) 33 72 _ [] σ
            obtain ⟨b, σ1, V1, D1, hr, ho, hf⟩ := yd_files (L := L) (xs := xs) (d := d + 2) (by omega) hm hT hC hD hn (yisW_k c4)
            refine w_A y33_72 rfl ?_
            refine w_A y33_73 rfl ?_
            refine y_call y33_74 (y_args6 g20 rfl rfl) rfl hr ?_
            refine y_ret y33_77 y_rtb ⟨b, V1, D1, rfl, ?_, hf⟩
            unfold yLin
            rw [if_neg c0, if_neg c1, if_neg c2, if_neg c3, if_pos c4]
            exact ho
          · skip
            by_cases c5 : yisW T n m p 5 = true
            · have ej := (hw 5 (by decide)).mpr c5
              subst ej
              show zGo L xs _ [] (d + 3) 33 78 _ [] σ
              obtain ⟨b, σ1, V1, D1, hr, ho, hf⟩ := yd_draught (L := L) (xs := xs) (d := d + 2) (by omega) hm hT hC hD hn (yisW_k c5)
              refine w_A y33_78 rfl ?_
              refine w_A y33_79 rfl ?_
              refine y_call y33_80 (y_args6 g20 rfl rfl) rfl hr ?_
              refine y_ret y33_83 y_rtb ⟨b, V1, D1, rfl, ?_, hf⟩
              unfold yLin
              rw [if_neg c0, if_neg c1, if_neg c2, if_neg c3, if_neg c4, if_pos c5]
              exact ho
            · skip
              have nj : ∀ i : Nat, i < 6 → ¬ j = i + 1 := by
                intro i hi e
                have h := (hw i (by omega)).mp e
                have hi2 : i = 0 ∨ i = 1 ∨ i = 2 ∨ i = 3 ∨ i = 4 ∨ i = 5 := by omega
                rcases hi2 with rfl | rfl | rfl | rfl | rfl | rfl
                · exact c0 h
                · exact c1 h
                · exact c2 h
                · exact c3 h
                · exact c4 h
                · exact c5 h
              have esw : ysw j = 84 := by
                have n0 := nj 0 (by omega)
                have n1 := nj 1 (by omega)
                have n2 := nj 2 (by omega)
                have n3 := nj 3 (by omega)
                have n4 := nj 4 (by omega)
                have n5 := nj 5 (by omega)
                unfold ysw
                rw [if_neg (by omega), if_neg (by omega), if_neg (by omega), if_neg (by omega), if_neg (by omega), if_neg (by omega)]
              rw [esw]
              obtain ⟨σ1, r1, V1, h1, f1⟩ := yc_rfE (L := L) (xs := xs) (d := d + 2) (k := 1) hv g (.inr rfl)
              refine w_A y33_84 rfl ?_
              refine w_K y33_85 ?_
              refine y_call y33_86 (y_args6 g rfl rfl) rfl r1 ?_
              have sp : yLin T n m nb ng s p = .inl (ybd T n m p 1) := by unfold yLin; rw [if_neg c0, if_neg c1, if_neg c2, if_neg c3, if_neg c4, if_neg c5]
              exact y_ret y33_89 rfl ⟨false, V1, D, rfl, yDO_bad sp h1, yF_sub (by rfl) f1⟩
