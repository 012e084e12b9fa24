/-! ===== the reference's side of a book: its state and one rule for each call ===== -/
def yXb (Nm : Nat → Int64) (nb ng l : Nat) (F : Nat → Int32) (V : Nat → Value) (σ : iv_H) : Prop := mO ((List.range 49).map V) ∧ (V 42 = .int (Int32.ofNat l) ∧ (∃ u : Int32, V 13 = .int u) ∧ V 10 = .int (Int32.ofNat 0) ∧ ∃ x : Int32, V 47 = .int x) ∧ (∃ N, iv_get σ 552 = some (yai 374 N) ∧ N 0 = Int32.ofNat nb ∧ N 1 = Int32.ofNat ng) ∧ iv_get σ 562 = some (yaj 13 Nm) ∧ iv_get σ 586 = some (yai 160 F)
def yKs (T : Nat → Nat) (n m p : Nat) (Nm : Nat → Int64) (nb ng l : Nat) (F : Nat → Int32) (σ : iv_H) : Prop := ∃ (s : yS) (V : Nat → Value), yMR T n m p s V σ ∧ yXb Nm nb ng l F V σ
theorem yXb_fr {Nm : Nat → Int64} {nb ng l : Nat} {F : Nat → Int32} {V V1 : Nat → Value} {σ σ1 : iv_H} (h : yXb Nm nb ng l F V σ) (hf : yFr [548, 554, 564, 570] σ σ1) (ha : yAg [5, 6, 7, 8, 9, 10, 11, 12, 13] V V1) (h13 : ∃ u : Int32, V1 13 = .int u) (h10 : V1 10 = .int (Int32.ofNat 0)) : yXb Nm nb ng l F V1 σ1 := by
  obtain ⟨mo, ⟨h42, _, _, x, h47⟩, ⟨N, gN, hN⟩, gM, gF⟩ := h
  exact ⟨mO_ag mo (fun j hj => ha j (y_disj (by decide) hj)), ⟨(ha 42 (by rfl)).trans h42, h13, h10, x, (ha 47 (by rfl)).trans h47⟩, ⟨N, yF_n hf (by rfl) gN, hN⟩, yF_n hf (by rfl) gM, yF_n hf (by rfl) gF⟩
theorem yXb_13 {Nm : Nat → Int64} {nb ng l : Nat} {F : Nat → Int32} {V V1 : Nat → Value} {σ : iv_H} (h : yXb Nm nb ng l F V σ) (e : V1 13 = V 13) : ∃ u : Int32, V1 13 = .int u := by
  obtain ⟨_, ⟨_, ⟨u, h13⟩, _⟩, _⟩ := h
  exact ⟨u, e.trans h13⟩
theorem yXb_10 {Nm : Nat → Int64} {nb ng l : Nat} {F : Nat → Int32} {V V1 : Nat → Value} {σ : iv_H} (h : yXb Nm nb ng l F V σ) (e : V1 10 = V 10) : V1 10 = .int (Int32.ofNat 0) := by
  obtain ⟨_, ⟨_, _, h10, _⟩, _⟩ := h
  exact e.trans h10
theorem yO_ref40 {V : Nat → Value} (mo : mO ((List.range 49).map V)) : V 40 = .ref 586 := by
  obtain ⟨_, _, _, _, _, _, _, _, _, _, _, _, _, _, _, h40, _⟩ := mo
  rw [y_nthV (by decide)] at h40
  simp only [Option.some.injEq] at h40
  exact h40
section KK
variable {L : Nat} {xs : Nat → Int32} {Post : Option Value → iv_H → Prop} {d M pc : Nat} {lv : iv_L} {st : List Value} {σ : iv_H} {T : Nat → Nat} {n m p : Nat} {Nm : Nat → Int64} {nb ng l : Nat} {F : Nat → Int32}
theorem K_go (hn : n ≤ 940) (hm : m ≤ 940) (hT : ∀ i, T i ≤ 255) (hf : iv_f1 (iv_p M) pc = some (.inr (.inr (6, 168, 0, 12)))) (hs : Nat.ble (iv_cs st) 8 = true) (h : yKs T n m p Nm nb ng l F σ) (k : ∀ σ1, yKs T n m (yto T n m p) Nm nb ng l F σ1 → zGo L xs Post [] (d + 2) M (pc + 3) lv st σ1) : zGo L xs Post [] (d + 2) M pc lv (.ref 548 :: st) σ := by
  obtain ⟨s, V, ⟨g, gt, gr, gn, go, ⟨v1, v3, v4, v15, v20, v23⟩, hp, ty, tk⟩, hX⟩ := h
  obtain ⟨σ1, r1, V1, g1, a1, f1, ty1, tk1⟩ := ym_go (L := L) (xs := xs) (d := d + 1) (by omega) hn hm (yto_le hn hp) hT g gt v1 v3 v4 (yTk_5 tk) ty
  refine y_call0 hf (y_args6 g rfl hs) rfl r1 (k σ1 ⟨s, V1, ⟨g1, yF_n f1 (by rfl) gt, yF_n f1 (by rfl) gr, yF_n f1 (by rfl) gn, yF_n f1 (by rfl) go, ⟨(a1 1 (by rfl)).trans v1, (a1 3 (by rfl)).trans v3, (a1 4 (by rfl)).trans v4, (a1 15 (by rfl)).trans v15, (a1 20 (by rfl)).trans v20, (a1 23 (by rfl)).trans v23.1, (a1 10 (by rfl)).trans v23.2⟩, yto_le hn hp, ty1, tk1⟩, yXb_fr hX (yF_sub (by rfl) f1) (yA_sub (by rfl) a1) (yXb_13 hX (a1 13 (by rfl))) (yXb_10 hX (a1 10 (by rfl)))⟩)
theorem K_iw {i : Nat} (hi : i < 27) (hf : iv_f1 (iv_p M) pc = some (.inr (.inr (6, 171, 1, 12)))) (hs : Nat.ble (iv_cs st) 8 = true) (h : yKs T n m p Nm nb ng l F σ) (k : zGo L xs Post [] (d + 3) M (pc + 3) lv (.int (yb (yisW T n m p i)) :: st) σ) : zGo L xs Post [] (d + 3) M pc lv (.int (Int32.ofNat i) :: .ref 548 :: st) σ := by
  obtain ⟨s, V, ⟨g, _, _, _, _, _, _, ⟨⟨x12, v12⟩, _⟩, tk⟩, _⟩ := h
  have r := ym_iw (L := L) (xs := xs) (d := d + 2) (k := i) (by omega) hi ykd_le9 g (yTk_7 tk) v12
  rw [y_iwE (yTk_w tk) v12] at r
  exact y_call hf (y_args6 g rfl hs) rfl r k
theorem K_nm (hf : iv_f1 (iv_p M) pc = some (.inr (.inr (6, 173, 0, 12)))) (hs : Nat.ble (iv_cs st) 8 = true) (h : yKs T n m p Nm nb ng l F σ) (k : zGo L xs Post [] (d + 3) M (pc + 3) lv (.int (yb (yisN T n m p)) :: st) σ) : zGo L xs Post [] (d + 3) M pc lv (.ref 548 :: st) σ := by
  obtain ⟨s, V, ⟨g, _, _, _, _, _, _, ⟨⟨x12, v12⟩, _⟩, tk⟩, _⟩ := h
  have r := ym_nm (L := L) (xs := xs) (d := d + 2) (by omega) ykd_le9 g (yTk_7 tk) v12
  rw [y_nmE (yTk_w tk) v12] at r
  exact y_call hf (y_args6 g rfl hs) rfl r k
theorem K_bad {i : Nat} (hf : iv_f1 (iv_p M) pc = some (.inr (.inr (6, 174, 1, 12)))) (hs : Nat.ble (iv_cs st) 8 = true) (h : yKs T n m p Nm nb ng l F σ) (k : ∀ σ1, yB (ybd T n m p i) σ1 → zGo L xs Post [] (d + 2) M (pc + 3) lv (.int (yb false) :: st) σ1) : zGo L xs Post [] (d + 2) M pc lv (.int (Int32.ofNat i) :: .ref 548 :: st) σ := by
  obtain ⟨s, V, ⟨g, _, _, _, _, _, _, _, tk⟩, _, ⟨_, _, _, x47, h47⟩, _⟩ := h
  obtain ⟨σ1, r1, V1, g1, a1, _, e10, e11⟩ := ym_bad (L := L) (xs := xs) (d := d + 1) (k := i) ykd_le9 g (yTk_7 tk) (yTk_6 tk)
  exact y_call hf (y_args6 g rfl hs) rfl r1 (k σ1 ⟨V1, ⟨g1, e10, e11⟩, _, (a1 47 (by rfl)).trans h47⟩)
theorem K_g7 (hf : iv_f1 (iv_p M) pc = some (.inl (iv_oGF 12 7))) (h : yKs T n m p Nm nb ng l F σ) (k : zGo L xs Post [] d M (pc + 3) lv (.int (Int32.ofNat (ykd T n m p)) :: st) σ) : zGo L xs Post [] d M pc lv (.ref 548 :: st) σ := by
  obtain ⟨s, V, hM, _⟩ := h
  exact y_gf hf hM.1 rfl (yTk_7 hM.2.2.2.2.2.2.2.2) k
theorem K_g8 (hf : iv_f1 (iv_p M) pc = some (.inl (iv_oGF 12 8))) (h : yKs T n m p Nm nb ng l F σ) (hk : ykd T n m p = 3) (k : zGo L xs Post [] d M (pc + 3) lv (.int (Int32.ofNat (ynN T (ysk T n p) (yln T n p))) :: st) σ) : zGo L xs Post [] d M pc lv (.ref 548 :: st) σ := by
  obtain ⟨s, V, hM, _⟩ := h
  exact y_gf hf hM.1 rfl ((yTk_n hM.2.2.2.2.2.2.2.2 hk).trans (by rw [(ykd_num hk).1])) k
theorem K_p13 {x : Int32} (hf : iv_f1 (iv_p M) pc = some (.inl (iv_oPF 12 13 .int))) (h : yKs T n m p Nm nb ng l F σ) (k : ∀ σ1, yKs T n m p Nm nb ng l F σ1 → zGo L xs Post [] d M (pc + 3) lv st σ1) : zGo L xs Post [] d M pc lv (.int x :: .ref 548 :: st) σ := by
  obtain ⟨s, V, hM, mo, ⟨h42, _, h10, h47⟩, ⟨N, gN, hN⟩, gM, gF⟩ := h
  refine y_pf hf hM.1 rfl rfl (fun σ1 m1 => k σ1 ⟨s, _, yMR_pf hM m1 rfl, mO_ag mo (fun j hj => (yA_u (S := [13]) rfl) j (y_disj (by decide) hj)), ⟨h42, ⟨x, rfl⟩, h10, h47⟩, ⟨N, mD_n m1 (by decide) gN, hN⟩, mD_n m1 (by decide) gM, mD_n m1 (by decide) gF⟩)
theorem K_g13 (hf : iv_f1 (iv_p M) pc = some (.inl (iv_oGF 12 13))) (h : yKs T n m p Nm nb ng l F σ) (k : ∀ u : Int32, zGo L xs Post [] d M (pc + 3) lv (.int u :: st) σ) : zGo L xs Post [] d M pc lv (.ref 548 :: st) σ := by
  obtain ⟨s, V, hM, _, ⟨_, ⟨u, h13⟩, _⟩, _⟩ := h
  exact y_gf hf hM.1 rfl h13 (k u)
theorem K_g42 (hf : iv_f1 (iv_p M) pc = some (.inl (iv_oGF 12 42))) (h : yKs T n m p Nm nb ng l F σ) (k : zGo L xs Post [] d M (pc + 3) lv (.int (Int32.ofNat l) :: st) σ) : zGo L xs Post [] d M pc lv (.ref 548 :: st) σ := by
  obtain ⟨s, V, hM, _, ⟨h42, _⟩, _⟩ := h
  exact y_gf hf hM.1 rfl h42 k
theorem K_p42 {l2 : Nat} (hf : iv_f1 (iv_p M) pc = some (.inl (iv_oPF 12 42 .int))) (h : yKs T n m p Nm nb ng l F σ) (k : ∀ σ1, yKs T n m p Nm nb ng l2 F σ1 → zGo L xs Post [] d M (pc + 3) lv st σ1) : zGo L xs Post [] d M pc lv (.int (Int32.ofNat l2) :: .ref 548 :: st) σ := by
  obtain ⟨s, V, hM, mo, ⟨_, h13, h10, h47⟩, ⟨N, gN, hN⟩, gM, gF⟩ := h
  refine y_pf hf hM.1 rfl rfl (fun σ1 m1 => k σ1 ⟨s, _, yMR_pf hM m1 rfl, mO_ag mo (fun j hj => (yA_u (S := [42]) rfl) j (y_disj (by decide) hj)), ⟨rfl, h13, h10, h47⟩, ⟨N, mD_n m1 (by decide) gN, hN⟩, mD_n m1 (by decide) gM, mD_n m1 (by decide) gF⟩)
theorem K_g40 (hf : iv_f1 (iv_p M) pc = some (.inl (iv_oGF 12 40))) (h : yKs T n m p Nm nb ng l F σ) (k : zGo L xs Post [] d M (pc + 3) lv (.ref 586 :: st) σ) : zGo L xs Post [] d M pc lv (.ref 548 :: st) σ := by
  obtain ⟨s, V, hM, mo, _⟩ := h
  exact y_gf hf hM.1 rfl (yO_ref40 mo) k
theorem K_st {i : Nat} {x : Int32} (hi : i < 160) (hf : iv_f1 (iv_p M) pc = some (.inl iv_oIst)) (h : yKs T n m p Nm nb ng l F σ) (k : ∀ σ1, yKs T n m p Nm nb ng l (upd F i x) σ1 → zGo L xs Post [] d M (pc + 1) lv st σ1) : zGo L xs Post [] d M pc lv (.int x :: .int (Int32.ofNat i) :: .ref 586 :: st) σ := by
  obtain ⟨s, V, hM, mo, hv, ⟨N, gN, hN⟩, gM, gF⟩ := h
  exact y_ist hf gF hi (by decide) (fun σ1 m1 => k σ1 ⟨s, V, yMR_D hM m1 rfl, mo, hv, ⟨N, mD_n m1 (by decide) gN, hN⟩, mD_n m1 (by decide) gM, m1.2.1⟩)
theorem K_ld {i : Nat} (hi : i < 160) (hf : iv_f1 (iv_p M) pc = some (.inl iv_oIl)) (h : yKs T n m p Nm nb ng l F σ) (k : zGo L xs Post [] d M (pc + 1) lv (.int (F i) :: st) σ) : zGo L xs Post [] d M pc lv (.int (Int32.ofNat i) :: .ref 586 :: st) σ := by
  obtain ⟨s, V, hM, mo, hv, ⟨N, gN, hN⟩, gM, gF⟩ := h
  exact y_il hf gF rfl rfl hi (by decide) k
theorem K_g (h : yKs T n m p Nm nb ng l F σ) : ∃ V, iv_get σ 548 = some (yob 12 49 V) := by
  obtain ⟨s, V, hM, _⟩ := h
  exact ⟨V, hM.1⟩
theorem ym_num3 {a b : Nat} (ha : a ≤ 1000) (hb : b ≤ 1000) (hn : n ≤ 940) (hm : m ≤ 940) (hT : ∀ i, T i ≤ 255) (h : yKs T n m p Nm nb ng l F σ) : ∃ r σ1, iv_Rn L xs (d + 3) 175 0 (lv_args 0 [.ref 548, .int (Int32.ofNat a), .int (Int32.ofNat b)]) [] σ (some (.int (yb r))) σ1 ∧ (match yNum T n m a b p with
    | .inl e => r = false ∧ yB e σ1
    | .inr q => r = true ∧ yKs T n m q.2 Nm nb ng l F σ1) := by
  refine y_RbE ?_
  have hk4 := ykd_le (T := T) (n := n) (m := m) (p := p)
  refine w_A y175_0 rfl ?_
  refine K_g7 y175_1 h ?_
  refine w_K y175_4 ?_
  by_cases c : ykd T n m p = 3
  · obtain ⟨_, hx9⟩ := ykd_num c
    refine y_icT y175_5 rfl (by omega) (by omega) (by simp only [zch]; omega) ?_
    refine w_A y175_14 rfl ?_
    refine K_g8 y175_15 h c ?_
    refine w_I y175_18 rfl ?_
    refine w_I y175_19 rfl ?_
    refine y_call y175_20 (y_args4 rfl rfl) rfl (ym_in (L := L) (xs := xs) (d := d + 2) (v := ynN T (ysk T n p) (yln T n p)) (a := a) (b := b) (by omega) (by omega) (by omega)) ?_
    by_cases c2 : a ≤ ynN T (ysk T n p) (yln T n p) ∧ ynN T (ysk T n p) (yln T n p) ≤ b
    · have sp : yNum T n m a b p = .inr (ynN T (ysk T n p) (yln T n p), yto T n m p) := by unfold yNum; rw [if_pos c, if_pos c2]
      rw [sp]
      refine w_ifT y175_23 rfl (y_bneT (decide_eq_true c2)) ?_
      refine w_A y175_32 rfl ?_
      refine w_A y175_33 rfl ?_
      refine K_g8 y175_34 h c ?_
      refine K_p13 y175_37 h (fun σ1 h1 => ?_)
      refine w_A y175_40 rfl ?_
      refine K_go hn hm hT y175_41 rfl h1 (fun σ2 h2 => ?_)
      refine w_K y175_44 ?_
      exact y_ret (v := .int (yb true)) y175_45 y_rtb ⟨true, rfl, rfl, h2⟩
    · have sp : yNum T n m a b p = .inl (ybd T n m p 2) := by unfold yNum; rw [if_pos c, if_neg c2]
      rw [sp]
      refine w_ifF y175_23 rfl (y_bneF (decide_eq_false c2)) ?_
      refine w_A y175_26 rfl ?_
      refine w_K y175_27 ?_
      refine K_bad y175_28 rfl h (fun σ1 h1 => ?_)
      exact y_ret y175_31 y_rtb ⟨false, rfl, rfl, h1⟩
  · have sp : yNum T n m a b p = .inl (ybd T n m p 1) := by unfold yNum; rw [if_neg c]
    rw [sp]
    refine y_icF y175_5 rfl (by omega) (by omega) (by simp only [zch]; omega) ?_
    refine w_A y175_8 rfl ?_
    refine w_K y175_9 ?_
    refine K_bad y175_10 rfl h (fun σ1 h1 => ?_)
    exact y_ret y175_13 y_rtb ⟨false, rfl, rfl, h1⟩
theorem K_num {a b : Nat} (ha : a ≤ 1000) (hb : b ≤ 1000) (hn : n ≤ 940) (hm : m ≤ 940) (hT : ∀ i, T i ≤ 255) (hf : iv_f1 (iv_p M) pc = some (.inr (.inr (6, 175, 2, 12)))) (hs : Nat.ble (iv_cs st) 8 = true) (h : yKs T n m p Nm nb ng l F σ) (kb : ∀ e σ1, yNum T n m a b p = .inl e → yB e σ1 → zGo L xs Post [] (d + 4) M (pc + 3) lv (.int (yb false) :: st) σ1) (kg : ∀ q σ1, yNum T n m a b p = .inr q → yKs T n m q.2 Nm nb ng l F σ1 → zGo L xs Post [] (d + 4) M (pc + 3) lv (.int (yb true) :: st) σ1) : zGo L xs Post [] (d + 4) M pc lv (.int (Int32.ofNat b) :: .int (Int32.ofNat a) :: .ref 548 :: st) σ := by
  obtain ⟨r, σ1, r1, o1⟩ := ym_num3 (L := L) (xs := xs) (d := d) (a := a) (b := b) ha hb hn hm hT h
  obtain ⟨V, g⟩ := K_g h
  refine y_call hf (y_args6 g rfl hs) rfl r1 ?_
  cases hq : yNum T n m a b p with
  | inl e =>
    rw [hq] at o1
    obtain ⟨rfl, h2⟩ := (show r = false ∧ yB e σ1 from o1)
    exact kb e σ1 hq h2
  | inr q =>
    rw [hq] at o1
    obtain ⟨rfl, h2⟩ := (show r = true ∧ yKs T n m q.2 Nm nb ng l F σ1 from o1)
    exact kg q σ1 hq h2
/-! fields -/
end KK
