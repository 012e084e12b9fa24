/-! ===== printed by wip/gen/y/cg.py: a whole order, told; the reference reads it ===== -/
set_option maxRecDepth 100000 in
theorem y191_0 : iv_f1 (iv_p 191) 0 = some (.inl (iv_oA 0 1)) := rfl
set_option maxRecDepth 100000 in
theorem y191_1 : iv_f1 (iv_p 191) 1 = some (.inl (iv_oK (.int (Int32.ofNat 900)) 3)) := rfl
set_option maxRecDepth 100000 in
theorem y191_4 : iv_f1 (iv_p 191) 4 = some (.inr (.inr (6, 177, 1, 12))) := rfl
set_option maxRecDepth 100000 in
theorem y191_7 : iv_f1 (iv_p 191) 7 = some (.inl (iv_oA 0 1)) := rfl
set_option maxRecDepth 100000 in
theorem y191_8 : iv_f1 (iv_p 191) 8 = some (.inr (.inr (6, 179, 0, 12))) := rfl
set_option maxRecDepth 100000 in
theorem y191_11 : iv_f1 (iv_p 191) 11 = some (.inl (iv_oK (.int (Int32.ofNat 0)) 1)) := rfl
set_option maxRecDepth 100000 in
theorem y191_12 : iv_f1 (iv_p 191) 12 = some (.inl (iv_oIS 1 1)) := rfl
set_option maxRecDepth 100000 in
theorem y191_13 : iv_f1 (iv_p 191) 13 = some (.inl (iv_oA 0 1)) := rfl
set_option maxRecDepth 100000 in
theorem y191_14 : iv_f1 (iv_p 191) 14 = some (.inl (iv_oGF 12 7)) := rfl
set_option maxRecDepth 100000 in
theorem y191_17 : iv_f1 (iv_p 191) 17 = some (.inl (iv_oIf .eq (30))) := rfl
set_option maxRecDepth 100000 in
theorem y191_20 : iv_f1 (iv_p 191) 20 = some (.inl (iv_oA 0 1)) := rfl
set_option maxRecDepth 100000 in
theorem y191_21 : iv_f1 (iv_p 191) 21 = some (.inr (.inr (6, 190, 0, 12))) := rfl
set_option maxRecDepth 100000 in
theorem y191_24 : iv_f1 (iv_p 191) 24 = some (.inl (iv_oIf .eq (10))) := rfl
set_option maxRecDepth 100000 in
theorem y191_27 : iv_f1 (iv_p 191) 27 = some (.inl (iv_oA 0 1)) := rfl
set_option maxRecDepth 100000 in
theorem y191_28 : iv_f1 (iv_p 191) 28 = some (.inr (.inr (6, 176, 0, 12))) := rfl
set_option maxRecDepth 100000 in
theorem y191_31 : iv_f1 (iv_p 191) 31 = some (.inl (iv_oIf .ne (10))) := rfl
set_option maxRecDepth 100000 in
theorem y191_34 : iv_f1 (iv_p 191) 34 = some (.inl (iv_oK (.int (Int32.ofInt (-1))) 1)) := rfl
set_option maxRecDepth 100000 in
theorem y191_35 : iv_f1 (iv_p 191) 35 = some (.inl (iv_oA 0 1)) := rfl
set_option maxRecDepth 100000 in
theorem y191_36 : iv_f1 (iv_p 191) 36 = some (.inl (iv_oGF 12 11)) := rfl
set_option maxRecDepth 100000 in
theorem y191_39 : iv_f1 (iv_p 191) 39 = some (.inl (iv_oII fun x y => x - y)) := rfl
set_option maxRecDepth 100000 in
theorem y191_40 : iv_f1 (iv_p 191) 40 = some (.inr (.inl 1)) := rfl
set_option maxRecDepth 100000 in
theorem y191_41 : iv_f1 (iv_p 191) 41 = some (.inl (iv_oInc 1 (1))) := rfl
set_option maxRecDepth 100000 in
theorem y191_44 : iv_f1 (iv_p 191) 44 = some (.inl (iv_oGo (-31))) := rfl
theorem ym_ord1 {L : Nat} {xs : Nat → Int32} {Post : Option Value → iv_H → Prop} {d : Nat} {T : Nat → Nat} {n m : Nat} (hn : n ≤ 940) (hm : m ≤ 940) (hT : ∀ i, T i ≤ 255) : ∀ (f p l : Nat) (s : yS) (nb ng : Nat) (V : Nat → Value) (σ : iv_H) (lv : iv_L), 941 ≤ f + p → l ≤ p → yMR T n m p s V σ → yCn s nb ng → iv_f1 lv 0 = some (.ref 548) → iv_f1 lv 1 = some (.int (Int32.ofNat l)) → (∀ σ1 V1 e, yOrd T n m f s p l = .inl e → yBad e V1 σ1 → yBx σ σ1 V V1 → Post (some (.int (Int32.ofInt (-1) - Int32.ofNat e.2))) σ1) → (∀ σ1 V1 lv1 s1 l1 p1, yOrd T n m f s p l = .inr (s1, l1) → yMR T n m p1 s1 V1 σ1 → yBx σ σ1 V V1 → iv_f1 lv1 0 = some (.ref 548) → iv_f1 lv1 1 = some (.int (Int32.ofNat l1)) → zGo L xs Post [] (d + 6) 191 47 lv1 [] σ1) → zGo L xs Post [] (d + 6) 191 13 lv [] σ := by
  intro f
  induction f with
  | zero =>
    intro p l s nb ng V σ lv hf hl hM
    have hp : p ≤ 940 := hM.2.2.2.2.2.2.1
    omega
  | succ f ih =>
    intro p l s nb ng V σ lv hf hl hM hc l0 l1 KB KG
    have hp : p ≤ 940 := hM.2.2.2.2.2.2.1
    obtain ⟨enb, eng⟩ := ynb_eq hc
    obtain ⟨⟨hb, hg⟩, hb7, hg6⟩ := id hc
    have kl := ykd_le (T := T) (n := n) (m := m) (p := p)
    have un : yOrd T n m (f + 1) s p l = if ykd T n m p = 0 then .inr (s, l) else yThen (yLin T n m (ynb s) (yng s) s p) fun q => yThen (yEnd T n m q.2) fun p2 => yOrd T n m f q.1 p2 (l + 1) := rfl
    rw [enb, eng] at un
    have g548 := hM.1
    have t7 := yTk_7 hM.2.2.2.2.2.2.2.2
    refine w_A y191_13 l0 ?_
    refine y_gf y191_14 g548 rfl t7 ?_
    by_cases c0 : ykd T n m p = 0
    · refine y_ifT y191_17 rfl (by omega) (by simp only [zch]; omega) ?_
      exact KG σ V lv s l p (by rw [un, if_pos c0]) hM ⟨yF_rf, yA_rf⟩ l0 l1
    · refine y_ifF y191_17 rfl (by omega) (by simp only [zch]; omega) ?_
      rw [if_neg c0] at un
      clear kl c0
      obtain ⟨r1, σ1, V1, hr1, o1, b1⟩ := ym_lin (L := L) (xs := xs) (d := d + 5) (by omega) hn hm hT hM hb hg hb7 hg6
      refine w_A y191_20 l0 ?_
      refine y_call y191_21 (y_args6 g548 rfl rfl) rfl hr1 ?_
      have fail : ∀ (σ2 : iv_H) (V2 : Nat → Value) (e : Nat × Nat), yOrd T n m (f + 1) s p l = .inl e → yBad e V2 σ2 → yBx σ σ2 V V2 → zGo L xs Post [] (d + 6) 191 34 lv [] σ2 := fun σ2 V2 e h1 h2 h3 => by
        refine w_K y191_34 ?_
        refine w_A y191_35 l0 ?_
        refine y_gf y191_36 h2.1 rfl h2.2.2 ?_
        refine y_II y191_39 ?_
        exact y_ret y191_40 rfl (KB σ2 V2 e h1 h2 h3)
      cases h1 : yLin T n m nb ng s p with
      | inl e =>
        rw [h1] at o1 un
        obtain ⟨rfl, hb1⟩ := (show _ ∧ _ from o1)
        refine w_ifT y191_24 rfl (y_beqT rfl) ?_
        exact fail σ1 V1 e un hb1 b1
      | inr q =>
        rw [h1] at o1 un
        obtain ⟨rfl, hM1⟩ := (show _ ∧ _ from o1)
        obtain ⟨hq, nb2, ng2, hc2⟩ := yLin_inr hc h1
        refine w_ifF y191_24 rfl (y_beqF rfl) ?_
        obtain ⟨r2, σ2, V2, hr2, o2, b2⟩ := ym_end (L := L) (xs := xs) (d := d + 5) (by omega) hn hm hT hM1
        refine w_A y191_27 l0 ?_
        refine y_call y191_28 (y_args6 hM1.1 rfl rfl) rfl hr2 ?_
        cases h2 : yEnd T n m q.2 with
        | inl e =>
          rw [h2] at o2
          rw [yThen_r, h2] at un
          obtain ⟨rfl, hb2⟩ := (show _ ∧ _ from o2)
          refine w_ifF y191_31 rfl (y_bneF rfl) ?_
          exact fail σ2 V2 e un hb2 (yB_tr b1 b2)
        | inr p2 =>
          rw [h2] at o2
          rw [yThen_r, h2] at un
          have hp2 := yEnd_inr h2
          obtain ⟨rfl, hM2⟩ := (show _ ∧ _ from o2)
          refine w_ifT y191_31 rfl (y_bneT rfl) ?_
          refine w_inc y191_41 (x := l) l1 ?_
          refine w_go y191_44 rfl ?_
          have un2 : yOrd T n m (f + 1) s p l = yOrd T n m f q.1 p2 (l + 1) := un
          exact ih p2 (l + 1) q.1 nb2 ng2 V2 σ2 _ (by omega) (by omega) hM2 hc2 (y_l1 rfl rfl l0) y_l0 (fun σ3 V3 e h3 h4 h5 => KB σ3 V3 e (un2.trans h3) h4 (yB_tr b1 (yB_tr b2 h5))) (fun σ3 V3 lv3 s3 l3 p3 h3 h4 h5 h6 h7 => KG σ3 V3 lv3 s3 l3 p3 (un2.trans h3) h4 (yB_tr b1 (yB_tr b2 h5)) h6 h7)
set_option maxRecDepth 100000 in
theorem y159_0 : iv_f1 (iv_p 159) 0 = some (.inl (iv_oA 0 1)) := rfl
set_option maxRecDepth 100000 in
theorem y159_1 : iv_f1 (iv_p 159) 1 = some (.inl (iv_oGF 12 2)) := rfl
set_option maxRecDepth 100000 in
theorem y159_4 : iv_f1 (iv_p 159) 4 = some (.inl (iv_oIS 1 1)) := rfl
set_option maxRecDepth 100000 in
theorem y159_5 : iv_f1 (iv_p 159) 5 = some (.inl (iv_oA 0 1)) := rfl
set_option maxRecDepth 100000 in
theorem y159_6 : iv_f1 (iv_p 159) 6 = some (.inl (iv_oK (.int (Int32.ofNat 0)) 1)) := rfl
set_option maxRecDepth 100000 in
theorem y159_7 : iv_f1 (iv_p 159) 7 = some (.inl (iv_oPF 12 2 .int)) := rfl
set_option maxRecDepth 100000 in
theorem y159_10 : iv_f1 (iv_p 159) 10 = some (.inl (iv_oI 1 1)) := rfl
set_option maxRecDepth 100000 in
theorem y159_11 : iv_f1 (iv_p 159) 11 = some (.inr (.inl 1)) := rfl
set_option maxRecDepth 100000 in
theorem y177_0 : iv_f1 (iv_p 177) 0 = some (.inl (iv_oA 0 1)) := rfl
set_option maxRecDepth 100000 in
theorem y177_1 : iv_f1 (iv_p 177) 1 = some (.inl (iv_oK (.int (Int32.ofNat 0)) 1)) := rfl
set_option maxRecDepth 100000 in
theorem y177_2 : iv_f1 (iv_p 177) 2 = some (.inl (iv_oPF 12 0 .int)) := rfl
set_option maxRecDepth 100000 in
theorem y177_5 : iv_f1 (iv_p 177) 5 = some (.inl (iv_oA 0 1)) := rfl
set_option maxRecDepth 100000 in
theorem y177_6 : iv_f1 (iv_p 177) 6 = some (.inl (iv_oA 0 1)) := rfl
set_option maxRecDepth 100000 in
theorem y177_7 : iv_f1 (iv_p 177) 7 = some (.inr (.inr (6, 159, 0, 12))) := rfl
set_option maxRecDepth 100000 in
theorem y177_10 : iv_f1 (iv_p 177) 10 = some (.inl (iv_oPF 12 3 .int)) := rfl
set_option maxRecDepth 100000 in
theorem y177_13 : iv_f1 (iv_p 177) 13 = some (.inl (iv_oA 0 1)) := rfl
set_option maxRecDepth 100000 in
theorem y177_14 : iv_f1 (iv_p 177) 14 = some (.inl (iv_oI 1 1)) := rfl
set_option maxRecDepth 100000 in
theorem y177_15 : iv_f1 (iv_p 177) 15 = some (.inl (iv_oPF 12 4 .int)) := rfl
set_option maxRecDepth 100000 in
theorem y177_18 : iv_f1 (iv_p 177) 18 = some (.inl (iv_oA 0 1)) := rfl
set_option maxRecDepth 100000 in
theorem y177_19 : iv_f1 (iv_p 177) 19 = some (.inl (iv_oK (.int (Int32.ofNat 0)) 1)) := rfl
set_option maxRecDepth 100000 in
theorem y177_20 : iv_f1 (iv_p 177) 20 = some (.inl (iv_oPF 12 10 .int)) := rfl
set_option maxRecDepth 100000 in
theorem y177_23 : iv_f1 (iv_p 177) 23 = some (.inl (iv_oA 0 1)) := rfl
set_option maxRecDepth 100000 in
theorem y177_24 : iv_f1 (iv_p 177) 24 = some (.inl (iv_oK (.int (Int32.ofNat 0)) 1)) := rfl
set_option maxRecDepth 100000 in
theorem y177_25 : iv_f1 (iv_p 177) 25 = some (.inl (iv_oPF 12 5 .int)) := rfl
set_option maxRecDepth 100000 in
theorem y177_28 : iv_f1 (iv_p 177) 28 = some (.inl (iv_oA 0 1)) := rfl
set_option maxRecDepth 100000 in
theorem y177_29 : iv_f1 (iv_p 177) 29 = some (.inr (.inr (6, 168, 0, 12))) := rfl
set_option maxRecDepth 100000 in
theorem y177_32 : iv_f1 (iv_p 177) 32 = some (.inr (.inl 0)) := rfl
theorem ym_take {L : Nat} {xs : Nat → Int32} {d n : Nat} {σ : iv_H} {V : Nat → Value} (g : iv_get σ 548 = some (yob 12 49 V)) (v2 : V 2 = .int (Int32.ofNat n)) : ∃ σ1, iv_Rn L xs d 159 0 (lv_args 0 [.ref 548]) [] σ (some (.int (Int32.ofNat n))) σ1 ∧ mD σ σ1 548 (yob 12 49 (yuV V 2 (.int (Int32.ofNat 0)))) := by
  refine y_Rn ?_
  refine w_A y159_0 rfl ?_
  refine y_gf y159_1 g rfl v2 ?_
  refine w_IS y159_4 ?_
  refine w_A y159_5 rfl ?_
  refine w_K y159_6 ?_
  refine y_pf y159_7 g rfl rfl ?_
  intro σ198 h197
  refine w_I y159_10 rfl ?_
  exact y_ret y159_11 rfl ⟨rfl, h197⟩
theorem ym_begin {L : Nat} {xs : Nat → Int32} {d n m : Nat} {T : Nat → Nat} {σ : iv_H} {V : Nat → Value} {s : yS} (hd : 2 ≤ d) (hn : n ≤ 940) (hm : m ≤ 940) (hT : ∀ i, T i ≤ 255) (g : iv_get σ 548 = some (yob 12 49 V)) (gt : iv_get σ 550 = some (yai 940 (ytp T))) (gr : iv_get σ 554 = some (yai 38 s.1)) (gn : iv_get σ 564 = some (yaj 13 s.2.1)) (go : iv_get σ 570 = some (yaz 3 s.2.2)) (v1 : V 1 = .ref 550) (v2 : V 2 = .int (Int32.ofNat n)) (v15 : V 15 = .ref 554) (v20 : V 20 = .ref 564) (v23 : V 23 = .ref 570) (ty : yTy V) : ∃ σ1, iv_Rn L xs d 177 0 (lv_args 0 [.ref 548, .int (Int32.ofNat m)]) [] σ none σ1 ∧ ∃ V1, yMR T n m 0 s V1 σ1 ∧ yAg [0, 2, 3, 4, 5, 6, 7, 8, 9, 10, 12] V V1 ∧ yFr [548] σ σ1 := by
  obtain ⟨d, rfl⟩ : ∃ e, d = e + 2 := ⟨d - 2, by omega⟩
  obtain ⟨⟨x12, v12⟩, ⟨x8, v8⟩, x9, v9⟩ := ty
  refine y_R0 ?_
  refine w_A y177_0 rfl ?_
  refine w_K y177_1 ?_
  refine y_pf y177_2 g rfl rfl ?_
  intro σ200 h199
  refine w_A y177_5 rfl ?_
  refine w_A y177_6 rfl ?_
  obtain ⟨σ201, r201, m201⟩ := ym_take (L := L) (xs := xs) (d := d + 1) h199.2.1 v2
  refine y_call y177_7 (y_args6 h199.2.1 rfl rfl) rfl r201 ?_
  refine y_pf y177_10 m201.2.1 rfl rfl ?_
  intro σ203 h202
  refine w_A y177_13 rfl ?_
  refine w_I y177_14 rfl ?_
  refine y_pf y177_15 h202.2.1 rfl rfl ?_
  intro σ205 h204
  refine w_A y177_18 rfl ?_
  refine w_K y177_19 ?_
  refine y_pf y177_20 h204.2.1 rfl rfl ?_
  intro σ207 h206
  refine w_A y177_23 rfl ?_
  refine w_K y177_24 ?_
  refine y_pf y177_25 h206.2.1 rfl rfl ?_
  intro σ209 h208
  refine w_A y177_28 rfl ?_
  have g211 := (mD_n h208 (by decide) (mD_n h206 (by decide) (mD_n h204 (by decide) (mD_n h202 (by decide) (mD_n m201 (by decide) (mD_n h199 (by decide) gt))))))
  obtain ⟨σ210, r210, V210, g210, a210, f210, ty210, tk210⟩ := ym_go (L := L) (xs := xs) (d := d + 1) (p := 0) (by omega) hn hm (by omega) hT h208.2.1 g211 v1 rfl rfl rfl ⟨⟨_, v12⟩, ⟨_, v8⟩, _, v9⟩
  refine y_call0 y177_29 (y_args6 h208.2.1 rfl rfl) rfl r210 ?_
  have z210_1 : V210 1 = _ := (a210 1 (by rfl)).trans v1
  have z210_3 : V210 3 = _ := (a210 3 (by rfl)).trans rfl
  have z210_4 : V210 4 = _ := (a210 4 (by rfl)).trans rfl
  have z210_15 : V210 15 = _ := (a210 15 (by rfl)).trans v15
  have z210_20 : V210 20 = _ := (a210 20 (by rfl)).trans v20
  have z210_23 : V210 23 = .ref 570 ∧ V210 10 = .int (Int32.ofNat 0) := ⟨(a210 23 (by rfl)).trans v23, (a210 10 (by rfl)).trans rfl⟩
  have g212 := (yF_n f210 (by rfl) g211)
  have g213 := (yF_n f210 (by rfl) (mD_n h208 (by decide) (mD_n h206 (by decide) (mD_n h204 (by decide) (mD_n h202 (by decide) (mD_n m201 (by decide) (mD_n h199 (by decide) gr)))))))
  have g214 := (yF_n f210 (by rfl) (mD_n h208 (by decide) (mD_n h206 (by decide) (mD_n h204 (by decide) (mD_n h202 (by decide) (mD_n m201 (by decide) (mD_n h199 (by decide) gn)))))))
  have g215 := (yF_n f210 (by rfl) (mD_n h208 (by decide) (mD_n h206 (by decide) (mD_n h204 (by decide) (mD_n h202 (by decide) (mD_n m201 (by decide) (mD_n h199 (by decide) go)))))))
  exact w_ret0 y177_32 ⟨rfl, V210, ⟨g210, g212, g213, g214, g215, ⟨z210_1, z210_3, z210_4, z210_15, z210_20, z210_23⟩, Nat.zero_le 940, ty210, tk210⟩, (yA_tr (yA_u (j := 0) (by rfl)) (yA_tr (yA_u (j := 2) (by rfl)) (yA_tr (yA_u (j := 3) (by rfl)) (yA_tr (yA_u (j := 4) (by rfl)) (yA_tr (yA_u (j := 10) (by rfl)) (yA_tr (yA_u (j := 5) (by rfl)) (yA_sub (by rfl) a210))))))), (yF_tr (yF_D h199 (by rfl)) (yF_tr (yF_D m201 (by rfl)) (yF_tr (yF_D h202 (by rfl)) (yF_tr (yF_D h204 (by rfl)) (yF_tr (yF_D h206 (by rfl)) (yF_tr (yF_D h208 (by rfl)) (yF_sub (by rfl) f210)))))))⟩
theorem mO_ag {V V1 : Nat → Value} (mo : mO ((List.range 49).map V)) (h : ∀ j, iv_mem j [1, 14, 15, 16, 17, 18, 19, 20, 21, 22, 23, 27, 28, 29, 40, 44] = true → V1 j = V j) : mO ((List.range 49).map V1) := by
  unfold mO at mo ⊢
  simp only [y_nthV (V := V) (show 1 < 49 by decide), y_nthV (V := V) (show 14 < 49 by decide), y_nthV (V := V) (show 15 < 49 by decide), y_nthV (V := V) (show 16 < 49 by decide), y_nthV (V := V) (show 17 < 49 by decide), y_nthV (V := V) (show 18 < 49 by decide), y_nthV (V := V) (show 19 < 49 by decide), y_nthV (V := V) (show 20 < 49 by decide), y_nthV (V := V) (show 21 < 49 by decide), y_nthV (V := V) (show 22 < 49 by decide), y_nthV (V := V) (show 23 < 49 by decide), y_nthV (V := V) (show 27 < 49 by decide), y_nthV (V := V) (show 28 < 49 by decide), y_nthV (V := V) (show 29 < 49 by decide), y_nthV (V := V) (show 40 < 49 by decide), y_nthV (V := V) (show 44 < 49 by decide), y_nthV (V := V1) (show 1 < 49 by decide), y_nthV (V := V1) (show 14 < 49 by decide), y_nthV (V := V1) (show 15 < 49 by decide), y_nthV (V := V1) (show 16 < 49 by decide), y_nthV (V := V1) (show 17 < 49 by decide), y_nthV (V := V1) (show 18 < 49 by decide), y_nthV (V := V1) (show 19 < 49 by decide), y_nthV (V := V1) (show 20 < 49 by decide), y_nthV (V := V1) (show 21 < 49 by decide), y_nthV (V := V1) (show 22 < 49 by decide), y_nthV (V := V1) (show 23 < 49 by decide), y_nthV (V := V1) (show 27 < 49 by decide), y_nthV (V := V1) (show 28 < 49 by decide), y_nthV (V := V1) (show 29 < 49 by decide), y_nthV (V := V1) (show 40 < 49 by decide), y_nthV (V := V1) (show 44 < 49 by decide)] at mo ⊢
  rw [h 1 rfl, h 14 rfl, h 15 rfl, h 16 rfl, h 17 rfl, h 18 rfl, h 19 rfl, h 20 rfl, h 21 rfl, h 22 rfl, h 23 rfl, h 27 rfl, h 28 rfl, h 29 rfl, h 40 rfl, h 44 rfl]
  exact ⟨by simp, mo.2⟩
theorem mO_V {V : Nat → Value} (mo : mO ((List.range 49).map V)) : V 1 = .ref 550 ∧ V 15 = .ref 554 ∧ V 20 = .ref 564 ∧ V 23 = .ref 570 := by
  obtain ⟨_, h1, _, h15, _, _, _, _, h20, _, _, h23, _⟩ := mo
  rw [y_nthV (by decide)] at h1 h15 h20 h23
  simp only [Option.some.injEq] at h1 h15 h20 h23
  exact ⟨h1, h15, h20, h23⟩
/-- what an order answers -/
def yAns (o : yE (yS × Nat)) : Int32 := match o with
  | .inl e => Int32.ofInt (-1) - Int32.ofNat e.2
  | .inr q => Int32.ofNat q.2
/-- an order's beginning -/
def yIni (s : yS) : Prop := (s.1 0 = Int32.ofNat 0 ∧ s.1 1 = Int32.ofNat 0 ∧ s.1 2 = Int32.ofNat 3 ∧ s.1 3 = Int32.ofNat 1 ∧ s.1 4 = Int32.ofNat 0) ∧ (∀ b, b < 7 → s.1 (19 + b) = Int32.ofInt (-1)) ∧ ∀ k, k < 3 → s.2.2 k = Int32.ofNat 0
theorem y_disj : ∀ {S S2 : List Nat}, (S.all fun a => !(iv_mem a S2)) = true → ∀ {j : Nat}, iv_mem j S = true → iv_mem j S2 = false
  | [], _, _, _, h => by cases h
  | x :: r, S2, h, j, hj => by
    rw [List.all_cons, Bool.and_eq_true] at h
    have hj : (bif Nat.beq x j then true else iv_mem j r) = true := hj
    cases hb : Nat.beq x j with
    | true =>
      rw [← Nat.eq_of_beq_eq_true hb]
      simpa using h.1
    | false =>
      rw [hb] at hj
      exact y_disj h.2 hj
def yS0 (rd on : Nat → Int32) (rn : Nat → Int64) : yS := (upd (upd (va_cpy (fun _ => (-1 : Int32)) (va_cpy (fun _ => (Int32.ofNat 0)) rd 0 0 38) 0 19 7) 2 (Int32.ofNat 3)) 3 (Int32.ofNat 1), rn, va_cpy (fun _ => (Int32.ofNat 0)) on 0 0 3)
theorem yS0_ini {rd on : Nat → Int32} {rn : Nat → Int64} : yIni (yS0 rd on rn) := by
  have z : ∀ j, j < 38 → ¬ j = 2 → ¬ j = 3 → (j < 19 ∨ 26 ≤ j) → (yS0 rd on rn).1 j = Int32.ofNat 0 := fun j h1 h2 h3 h4 => by
    show upd (upd (va_cpy (fun _ => (-1 : Int32)) (va_cpy (fun _ => (Int32.ofNat 0)) rd 0 0 38) 0 19 7) 2 (Int32.ofNat 3)) 3 (Int32.ofNat 1) j = _
    rw [upd_at, if_neg h3, upd_at, if_neg h2, zcpy_at, if_neg (by omega), zcpy_at, if_pos (by omega)]
  refine ⟨⟨z 0 (by omega) (by omega) (by omega) (by omega), z 1 (by omega) (by omega) (by omega) (by omega), ?_, ?_, z 4 (by omega) (by omega) (by omega) (by omega)⟩, fun b hb => ?_, fun k hk => ?_⟩
  · show upd (upd (va_cpy (fun _ => (-1 : Int32)) (va_cpy (fun _ => (Int32.ofNat 0)) rd 0 0 38) 0 19 7) 2 (Int32.ofNat 3)) 3 (Int32.ofNat 1) 2 = _
    rw [upd_at, if_neg (by omega), upd_at, if_pos rfl]
  · show upd (upd (va_cpy (fun _ => (-1 : Int32)) (va_cpy (fun _ => (Int32.ofNat 0)) rd 0 0 38) 0 19 7) 2 (Int32.ofNat 3)) 3 (Int32.ofNat 1) 3 = _
    rw [upd_at, if_pos rfl]
  · show upd (upd (va_cpy (fun _ => (-1 : Int32)) (va_cpy (fun _ => (Int32.ofNat 0)) rd 0 0 38) 0 19 7) 2 (Int32.ofNat 3)) 3 (Int32.ofNat 1) (19 + b) = _
    rw [upd_at, if_neg (by omega), upd_at, if_neg (by omega), zcpy_at, if_pos (by omega)]
    rfl
  · show va_cpy (fun _ => (Int32.ofNat 0)) on 0 0 3 k = _
    rw [zcpy_at, if_pos (by omega)]
theorem yIni_cn {s : yS} (h : yIni s) : yCn s 0 0 := ⟨⟨h.1.1, h.1.2.1⟩, by decide, by decide⟩
/-- the fault of an order -/
def yFo (o : yE (yS × Nat)) : Nat := match o with
  | .inl e => e.1
  | .inr _ => 0
/-- what an order leaves on the reference's side -/
def yOm (o : yE (yS × Nat)) (σ σ1 : iv_H) : Prop := oF σ1 548 10 = some (.int (Int32.ofNat (yFo o))) ∧ match o with
  | .inl _ => mA σ1 552 = mA σ 552 ∧ mL σ1 562 = mL σ 562
  | .inr q => (∀ i, i < 38 → mA σ1 552 i = q.1.1 i) ∧ ∀ i, i < 13 → mL σ1 562 i = q.1.2.1 i
theorem yOm_l {o : yE (yS × Nat)} {e : Nat × Nat} {σ σ1 : iv_H} (h : o = .inl e) (f : oF σ1 548 10 = some (.int (Int32.ofNat e.1))) (k : mA σ1 552 = mA σ 552 ∧ mL σ1 562 = mL σ 562) : yOm o σ σ1 := by
  subst h
  exact ⟨f, k⟩
theorem yOm_r {o : yE (yS × Nat)} {q : yS × Nat} {σ σ1 : iv_H} (h : o = .inr q) (f : oF σ1 548 10 = some (.int (Int32.ofNat 0))) (k : (∀ i, i < 38 → mA σ1 552 i = q.1.1 i) ∧ ∀ i, i < 13 → mL σ1 562 i = q.1.2.1 i) : yOm o σ σ1 := by
  subst h
  exact ⟨f, k⟩
theorem ym_order {L : Nat} {xs : Nat → Int32} {d n : Nat} {T : Nat → Nat} {σ : iv_H} {V : Nat → Value} {N rd on : Nat → Int32} {Nm rn : Nat → Int64} (hd : 7 ≤ d) (hn : n ≤ 940) (hT : ∀ i, T i ≤ 255) (mo : mO ((List.range 49).map V)) (g : iv_get σ 548 = some (yob 12 49 V)) (gt : iv_get σ 550 = some (yai 940 (ytp T))) (gr : iv_get σ 554 = some (yai 38 rd)) (gn : iv_get σ 564 = some (yaj 13 rn)) (go : iv_get σ 570 = some (yaz 3 on)) (gN : iv_get σ 552 = some (yai 374 N)) (gM : iv_get σ 562 = some (yaj 13 Nm)) (v2 : V 2 = .int (Int32.ofNat n)) (ty : yTy V) : ∃ s : yS, yIni s ∧ ∃ σ1, iv_Rn L xs d 191 0 (lv_args 0 [.ref 548]) [] σ (some (.int (yAns (yOrd T n 900 941 s 0 0)))) σ1 ∧ yOm (yOrd T n 900 941 s 0 0) σ σ1 := by
  obtain ⟨d, rfl⟩ : ∃ e, d = e + 7 := ⟨d - 7, by omega⟩
  obtain ⟨v1, v15, v20, v23⟩ := mO_V mo
  obtain ⟨σ1, r1, V1, hM1, a1, f1⟩ := ym_begin (L := L) (xs := xs) (d := d + 6) (m := 900) (s := (rd, rn, on)) (by omega) hn (by decide) hT g gt gr gn go v1 v2 v15 v20 v23 ty
  have mo1 : mO ((List.range 49).map V1) := mO_ag mo (fun j hj => a1 j (y_disj (by decide) hj))
  refine ⟨yS0 rd on rn, yS0_ini, ?_⟩
  have key : zGo L xs (fun r σ2 => r = some (.int (yAns (yOrd T n 900 941 (yS0 rd on rn) 0 0))) ∧ yOm (yOrd T n 900 941 (yS0 rd on rn) 0 0) σ σ2) [] (d + 7) 191 0 (lv_args 0 [.ref 548]) [] σ := by
    refine w_A y191_0 rfl ?_
    refine w_K y191_1 ?_
    refine y_call0 y191_4 (y_args6 g rfl rfl) rfl r1 ?_
    refine w_A y191_7 rfl ?_
    refine w_call y191_8 (y_args6 hM1.1 rfl rfl) rfl ?_
    refine g_sr rfl hM1.1 mo1 hM1.2.2.1 hM1.2.2.2.2.1 ?_
    intro σ2 σ3 σ4 m1 m2 m3
    show zGo L xs _ [] (d + 7) 191 11 _ [] σ4
    refine w_K y191_11 ?_
    refine w_IS y191_12 ?_
    have hM2 : yMR T n 900 0 (yS0 rd on rn) V1 σ4 := ⟨mD_n m3 (by decide) (mD_n m2 (by decide) (mD_n m1 (by decide) hM1.1)), mD_n m3 (by decide) (mD_n m2 (by decide) (mD_n m1 (by decide) hM1.2.1)), m3.2.1, mD_n m3 (by decide) (mD_n m2 (by decide) (mD_n m1 (by decide) hM1.2.2.2.1)), mD_n m3 (by decide) m2.2.1, hM1.2.2.2.2.2⟩
    refine ym_ord1 (d := d + 1) hn (by decide) hT 941 0 0 (yS0 rd on rn) 0 0 V1 σ4 _ (by omega) (by omega) hM2 (yIni_cn yS0_ini) rfl rfl ?_ ?_
    · intro σ5 V5 e h1 h2 h3
      have gN5 := yF_n h3.1 (by rfl) (mD_n m3 (by decide) (mD_n m2 (by decide) (mD_n m1 (by decide) (yF_n f1 (by rfl) gN))))
      have gM5 := yF_n h3.1 (by rfl) (mD_n m3 (by decide) (mD_n m2 (by decide) (mD_n m1 (by decide) (yF_n f1 (by rfl) gM))))
      exact ⟨by rw [h1]; rfl, yOm_l h1 ((hO_of h2.1 10).trans (by rw [y_nthV (by decide), h2.2.1])) ⟨(hA_of gN5).trans (hA_of gN).symm, (hL_of gM5).trans (hL_of gM).symm⟩⟩
    · intro σ5 V5 lv5 s5 l5 p5 h1 h4 h5 l0 l1
      have mo5 : mO ((List.range 49).map V5) := mO_ag mo1 (fun j hj => h5.2 j (y_disj (by decide) hj))
      have gN5 := yF_n h5.1 (by rfl) (mD_n m3 (by decide) (mD_n m2 (by decide) (mD_n m1 (by decide) (yF_n f1 (by rfl) gN))))
      have gM5 := yF_n h5.1 (by rfl) (mD_n m3 (by decide) (mD_n m2 (by decide) (mD_n m1 (by decide) (yF_n f1 (by rfl) gM))))
      refine g_ord (d := d + 6) l0 h4.1 mo5 l1 gN5 h4.2.2.1 gM5 h4.2.2.2.1 ?_
      intro σ6 σ7 σ8 n1 n2 n3
      have n4 := mD_put2 (e2 := .inr (12, ((List.range 49).map V5).set 24 (.int (Int32.ofNat 0)))) (mD_n n3 (by decide) (mD_n n2 (by decide) (mD_n n1 (by decide) h4.1)))
      have v10 : V5 10 = .int (Int32.ofNat 0) := h4.2.2.2.2.2.1.2.2.2.2.2.2
      refine ⟨by rw [h1]; rfl, yOm_r h1 ((hO_of n4.2.1 10).trans (by rw [iv_nth_set, if_neg (fun h => absurd h.1 (by decide)), y_nthV (by decide), v10])) ⟨fun i hi => ?_, fun i hi => ?_⟩⟩
      · rw [hA_of (mD_n n4 (by decide) n3.2.1), soB_at _ 7 (by decide), if_neg (by omega), if_neg (by omega), upd_at, if_neg (by omega), zcpy_at, if_neg (by omega), zcpy_at, if_pos (by omega)]
        exact congrArg s5.1 (by omega)
      · rw [hL_of (mD_n n4 (by decide) (mD_n n3 (by decide) n2.2.1)), zcpy_at, if_pos (by omega)]
        exact congrArg s5.2.1 (by omega)
  obtain ⟨r, σ2, h1, h2⟩ := key
  have h3 : r = some (.int (yAns (yOrd T n 900 941 (yS0 rd on rn) 0 0))) ∧ yOm (yOrd T n 900 941 (yS0 rd on rn) 0 0) σ σ2 := h2
  obtain ⟨rfl, h4⟩ := h3
  exact ⟨σ2, h1, h4⟩
