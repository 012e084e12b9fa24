/-! ===== the reference's side of a sentence: its state and one rule for each call ===== -/
def yXt (Nm : Nat → Int64) (ng o w nd : Nat) (V : Nat → Value) (σ : iv_H) : Prop := mO ((List.range 49).map V) ∧ (V 46 = .int (Int32.ofNat o) ∧ V 47 = .int (Int32.ofNat w) ∧ V 45 = .int (Int32.ofNat nd) ∧ (∃ t : Int32, V 48 = .int t) ∧ (∃ u : Int32, V 13 = .int u) ∧ V 10 = .int (Int32.ofNat 0)) ∧ (∃ N, iv_get σ 552 = some (yai 374 N) ∧ N 1 = Int32.ofNat ng) ∧ iv_get σ 562 = some (yaj 13 Nm) ∧ ∃ D, iv_get σ 590 = some (yai 240 D)
def yR (T : Nat → Nat) (n m p : Nat) (Nm : Nat → Int64) (ng o w nd : Nat) (σ : iv_H) : Prop := ∃ (s : yS) (V : Nat → Value), yMR T n m p s V σ ∧ yXt Nm ng o w nd V σ
def yB (e : Nat × Nat) (σ : iv_H) : Prop := ∃ V : Nat → Value, yBad e V σ ∧ ∃ x : Int32, V 47 = .int x
theorem yX_fr {Nm : Nat → Int64} {ng o w nd : Nat} {V V1 : Nat → Value} {σ σ1 : iv_H} (h : yXt Nm ng o w nd V σ) (hf : yFr [548, 554, 564, 570] σ σ1) (ha : yAg [5, 6, 7, 8, 9, 10, 11, 12, 13] V V1) (h13 : ∃ u : Int32, V1 13 = .int u) (h10 : V1 10 = .int (Int32.ofNat 0)) : yXt Nm ng o w nd V1 σ1 := by
  obtain ⟨mo, ⟨h46, h47, h45, ⟨t, h48⟩, _⟩, ⟨N, gN, hN⟩, gM, D, gD⟩ := h
  exact ⟨mO_ag mo (fun j hj => ha j (y_disj (by decide) hj)), ⟨(ha 46 (by rfl)).trans h46, (ha 47 (by rfl)).trans h47, (ha 45 (by rfl)).trans h45, ⟨t, (ha 48 (by rfl)).trans h48⟩, h13, h10⟩, ⟨N, yF_n hf (by rfl) gN, hN⟩, yF_n hf (by rfl) gM, D, yF_n hf (by rfl) gD⟩
theorem yX_13 {Nm : Nat → Int64} {ng o w nd : Nat} {V V1 : Nat → Value} {σ : iv_H} (h : yXt Nm ng o w nd V σ) (e : V1 13 = V 13) : ∃ u : Int32, V1 13 = .int u := by
  obtain ⟨_, ⟨_, _, _, _, ⟨u, h13⟩, _⟩, _⟩ := h
  exact ⟨u, e.trans h13⟩
theorem yX_10 {Nm : Nat → Int64} {ng o w nd : Nat} {V V1 : Nat → Value} {σ : iv_H} (h : yXt Nm ng o w nd V σ) (e : V1 10 = V 10) : V1 10 = .int (Int32.ofNat 0) := by
  obtain ⟨_, ⟨_, _, _, _, _, h10⟩, _⟩ := h
  exact e.trans h10
theorem yO_refs {V : Nat → Value} (mo : mO ((List.range 49).map V)) : V 14 = .ref 552 ∧ V 19 = .ref 562 ∧ V 44 = .ref 590 := by
  obtain ⟨_, _, h14, _, _, _, _, h19, _, _, _, _, _, _, _, _, h44⟩ := mo
  rw [y_nthV (by decide)] at h14 h19 h44
  simp only [Option.some.injEq] at h14 h19 h44
  exact ⟨h14, h19, h44⟩
/-- a field that is not among those of the token or of the references changes -/
theorem yMR_pf {T : Nat → Nat} {n m p j : Nat} {s : yS} {V : Nat → Value} {v : Value} {σ σ1 : iv_H} (hM : yMR T n m p s V σ) (h : mD σ σ1 548 (yob 12 49 (yuV V j v))) (hj : iv_mem j [1, 3, 4, 5, 6, 7, 8, 9, 10, 12, 15, 20, 23] = false) : yMR T n m p s (yuV V j v) σ1 := by
  obtain ⟨g, gt, gr, gn, go, ⟨v1, v3, v4, v15, v20, v23⟩, hp, ⟨⟨x12, v12⟩, ⟨x8, v8⟩, x9, v9⟩, tk⟩ := hM
  have e : ∀ i, iv_mem i [1, 3, 4, 5, 6, 7, 8, 9, 10, 12, 15, 20, 23] = true → yuV V j v i = V i := fun i hi => by
    unfold yuV
    rw [y_beq (fun e => by rw [e, hj] at hi; cases hi)]
    rfl
  refine ⟨h.2.1, mD_n h (by decide) gt, mD_n h (by decide) gr, mD_n h (by decide) gn, mD_n h (by decide) go, ⟨(e 1 rfl).trans v1, (e 3 rfl).trans v3, (e 4 rfl).trans v4, (e 15 rfl).trans v15, (e 20 rfl).trans v20, (e 23 rfl).trans v23.1, (e 10 rfl).trans v23.2⟩, hp, ⟨⟨x12, (e 12 rfl).trans v12⟩, ⟨x8, (e 8 rfl).trans v8⟩, x9, (e 9 rfl).trans v9⟩, ?_⟩
  obtain ⟨t5, t6, t7, tw, tn, tm⟩ := tk
  exact ⟨(e 5 rfl).trans t5, (e 6 rfl).trans t6, (e 7 rfl).trans t7, fun h => (e 12 rfl).trans (tw h), fun h => (e 8 rfl).trans (tn h), fun h => (e 9 rfl).trans (tm h)⟩
theorem yMR_D {T : Nat → Nat} {n m p X : Nat} {s : yS} {V : Nat → Value} {e : iv_E} {σ σ1 : iv_H} (hM : yMR T n m p s V σ) (h : mD σ σ1 X e) (hX : iv_mem X [548, 550, 554, 564, 570] = false) : yMR T n m p s V σ1 := by
  obtain ⟨g, gt, gr, gn, go, hv⟩ := hM
  have a : ∀ b, iv_mem b [548, 550, 554, 564, 570] = true → b ≠ X := fun b hb e => by rw [e, hX] at hb; cases hb
  exact ⟨mD_n h (a _ rfl) g, mD_n h (a _ rfl) gt, mD_n h (a _ rfl) gr, mD_n h (a _ rfl) gn, mD_n h (a _ rfl) go, hv⟩
theorem y_RbE {L : Nat} {xs : Nat → Int32} {d M pc : Nat} {lv : iv_L} {st : List Value} {σ : iv_H} {Q : Bool → iv_H → Prop} (h : zGo L xs (fun r σ1 => ∃ b, r = some (.int (yb b)) ∧ Q b σ1) [] d M pc lv st σ) : ∃ b σ1, iv_Rn L xs d M pc lv st σ (some (.int (yb b))) σ1 ∧ Q b σ1 := by
  obtain ⟨r, σ1, h1, h2⟩ := h
  have h3 : ∃ b, r = some (.int (yb b)) ∧ Q b σ1 := h2
  obtain ⟨b, rfl, h4⟩ := h3
  exact ⟨b, σ1, h1, h4⟩
section RR
variable {L : Nat} {xs : Nat → Int32} {Post : Option Value → iv_H → Prop} {d M pc : Nat} {lv : iv_L} {st : List Value} {σ : iv_H} {T : Nat → Nat} {n m p : Nat} {Nm : Nat → Int64} {ng o w nd : Nat}
theorem R_go (hn : n ≤ 940) (hm : m ≤ 940) (hT : ∀ i, T i ≤ 255) (hf : iv_f1 (iv_p M) pc = some (.inr (.inr (6, 168, 0, 12)))) (hs : Nat.ble (iv_cs st) 8 = true) (h : yR T n m p Nm ng o w nd σ) (k : ∀ σ1, yR T n m (yto T n m p) Nm ng o w nd σ1 → zGo L xs Post [] (d + 2) M (pc + 3) lv st σ1) : zGo L xs Post [] (d + 2) M pc lv (.ref 548 :: st) σ := by
  obtain ⟨s, V, ⟨g, gt, gr, gn, go, ⟨v1, v3, v4, v15, v20, v23⟩, hp, ty, tk⟩, hX⟩ := h
  obtain ⟨σ1, r1, V1, g1, a1, f1, ty1, tk1⟩ := ym_go (L := L) (xs := xs) (d := d + 1) (by omega) hn hm (yto_le hn hp) hT g gt v1 v3 v4 (yTk_5 tk) ty
  refine y_call0 hf (y_args6 g rfl hs) rfl r1 (k σ1 ⟨s, V1, ⟨g1, yF_n f1 (by rfl) gt, yF_n f1 (by rfl) gr, yF_n f1 (by rfl) gn, yF_n f1 (by rfl) go, ⟨(a1 1 (by rfl)).trans v1, (a1 3 (by rfl)).trans v3, (a1 4 (by rfl)).trans v4, (a1 15 (by rfl)).trans v15, (a1 20 (by rfl)).trans v20, (a1 23 (by rfl)).trans v23.1, (a1 10 (by rfl)).trans v23.2⟩, yto_le hn hp, ty1, tk1⟩, yX_fr hX (yF_sub (by rfl) f1) (yA_sub (by rfl) a1) (yX_13 hX (a1 13 (by rfl))) (yX_10 hX (a1 10 (by rfl)))⟩)
theorem R_iw {i : Nat} (hi : i < 27) (hf : iv_f1 (iv_p M) pc = some (.inr (.inr (6, 171, 1, 12)))) (hs : Nat.ble (iv_cs st) 8 = true) (h : yR T n m p Nm ng o w nd σ) (k : zGo L xs Post [] (d + 3) M (pc + 3) lv (.int (yb (yisW T n m p i)) :: st) σ) : zGo L xs Post [] (d + 3) M pc lv (.int (Int32.ofNat i) :: .ref 548 :: st) σ := by
  obtain ⟨s, V, ⟨g, _, _, _, _, _, _, ⟨⟨x12, v12⟩, _⟩, tk⟩, _⟩ := h
  have r := ym_iw (L := L) (xs := xs) (d := d + 2) (k := i) (by omega) hi ykd_le9 g (yTk_7 tk) v12
  rw [y_iwE (yTk_w tk) v12] at r
  exact y_call hf (y_args6 g rfl hs) rfl r k
theorem R_is {c : Nat} (hT : ∀ i, T i ≤ 255) (hc : c ≤ 255) (hf : iv_f1 (iv_p M) pc = some (.inr (.inr (6, 172, 1, 12)))) (hs : Nat.ble (iv_cs st) 8 = true) (h : yR T n m p Nm ng o w nd σ) (k : zGo L xs Post [] (d + 3) M (pc + 3) lv (.int (yb (yMk T n m p c)) :: st) σ) : zGo L xs Post [] (d + 3) M pc lv (.int (Int32.ofNat c) :: .ref 548 :: st) σ := by
  obtain ⟨s, V, ⟨g, _, _, _, _, _, _, ⟨_, _, x9, v9⟩, tk⟩, _⟩ := h
  have r := ym_is (L := L) (xs := xs) (d := d + 2) (c := c) ykd_le9 g (yTk_7 tk) v9
  rw [y_sgE hT hc (yTk_m tk) v9] at r
  exact y_call hf (y_args6 g rfl hs) rfl r k
theorem R_nm (hf : iv_f1 (iv_p M) pc = some (.inr (.inr (6, 173, 0, 12)))) (hs : Nat.ble (iv_cs st) 8 = true) (h : yR T n m p Nm ng o w nd σ) (k : zGo L xs Post [] (d + 3) M (pc + 3) lv (.int (yb (yisN T n m p)) :: st) σ) : zGo L xs Post [] (d + 3) M pc lv (.ref 548 :: st) σ := by
  obtain ⟨s, V, ⟨g, _, _, _, _, _, _, ⟨⟨x12, v12⟩, _⟩, tk⟩, _⟩ := h
  have r := ym_nm (L := L) (xs := xs) (d := d + 2) (by omega) ykd_le9 g (yTk_7 tk) v12
  rw [y_nmE (yTk_w tk) v12] at r
  exact y_call hf (y_args6 g rfl hs) rfl r k
theorem R_bad {i : Nat} (hf : iv_f1 (iv_p M) pc = some (.inr (.inr (6, 174, 1, 12)))) (hs : Nat.ble (iv_cs st) 8 = true) (h : yR T n m p Nm ng o w nd σ) (k : ∀ σ1, yB (ybd T n m p i) σ1 → zGo L xs Post [] (d + 2) M (pc + 3) lv (.int (yb false) :: st) σ1) : zGo L xs Post [] (d + 2) M pc lv (.int (Int32.ofNat i) :: .ref 548 :: st) σ := by
  obtain ⟨s, V, ⟨g, _, _, _, _, _, _, _, tk⟩, _, ⟨_, h47, _⟩, _⟩ := h
  obtain ⟨σ1, r1, V1, g1, a1, _, e10, e11⟩ := ym_bad (L := L) (xs := xs) (d := d + 1) (k := i) ykd_le9 g (yTk_7 tk) (yTk_6 tk)
  exact y_call hf (y_args6 g rfl hs) rfl r1 (k σ1 ⟨V1, ⟨g1, e10, e11⟩, _, (a1 47 (by rfl)).trans h47⟩)
theorem R_g7 (hf : iv_f1 (iv_p M) pc = some (.inl (iv_oGF 12 7))) (h : yR T n m p Nm ng o w nd σ) (k : zGo L xs Post [] d M (pc + 3) lv (.int (Int32.ofNat (ykd T n m p)) :: st) σ) : zGo L xs Post [] d M pc lv (.ref 548 :: st) σ := by
  obtain ⟨s, V, hM, _⟩ := h
  exact y_gf hf hM.1 rfl (yTk_7 hM.2.2.2.2.2.2.2.2) k
theorem R_g8 (hf : iv_f1 (iv_p M) pc = some (.inl (iv_oGF 12 8))) (h : yR T n m p Nm ng o w nd σ) (hk : ykd T n m p = 3) (k : zGo L xs Post [] d M (pc + 3) lv (.int (Int32.ofNat (ynN T (ysk T n p) (yln T n p))) :: st) σ) : zGo L xs Post [] d M pc lv (.ref 548 :: st) σ := by
  obtain ⟨s, V, hM, _⟩ := h
  exact y_gf hf hM.1 rfl ((yTk_n hM.2.2.2.2.2.2.2.2 hk).trans (by rw [(ykd_num hk).1])) k
theorem R_p13 {x : Int32} (hf : iv_f1 (iv_p M) pc = some (.inl (iv_oPF 12 13 .int))) (h : yR T n m p Nm ng o w nd σ) (k : ∀ σ1, yR T n m p Nm ng o w nd σ1 → zGo L xs Post [] d M (pc + 3) lv st σ1) : zGo L xs Post [] d M pc lv (.int x :: .ref 548 :: st) σ := by
  obtain ⟨s, V, hM, mo, ⟨h46, h47, h45, ⟨t, h48⟩, _, h10⟩, ⟨N, gN, hN⟩, gM, D, gD⟩ := h
  refine y_pf hf hM.1 rfl rfl (fun σ1 m1 => k σ1 ⟨s, _, yMR_pf hM m1 rfl, mO_ag mo (fun j hj => (yA_u (S := [13]) rfl) j (y_disj (by decide) hj)), ⟨h46, h47, h45, ⟨t, h48⟩, ⟨x, rfl⟩, h10⟩, ⟨N, mD_n m1 (by decide) gN, hN⟩, mD_n m1 (by decide) gM, D, mD_n m1 (by decide) gD⟩)
theorem R_g (h : yR T n m p Nm ng o w nd σ) : ∃ V, iv_get σ 548 = some (yob 12 49 V) := by
  obtain ⟨s, V, hM, _⟩ := h
  exact ⟨V, hM.1⟩
theorem ym_num2 {a b : Nat} (ha : a ≤ 1000) (hb : b ≤ 1000) (hn : n ≤ 940) (hm : m ≤ 940) (hT : ∀ i, T i ≤ 255) (h : yR T n m p Nm ng o w nd σ) : ∃ r σ1, iv_Rn L xs (d + 3) 175 0 (lv_args 0 [.ref 548, .int (Int32.ofNat a), .int (Int32.ofNat b)]) [] σ (some (.int (yb r))) σ1 ∧ (match yNum T n m a b p with
    | .inl e => r = false ∧ yB e σ1
    | .inr q => r = true ∧ yR T n m q.2 Nm ng o w nd σ1) := by
  refine y_RbE ?_
  have hk4 := ykd_le (T := T) (n := n) (m := m) (p := p)
  refine w_A y175_0 rfl ?_
  refine R_g7 y175_1 h ?_
  refine w_K y175_4 ?_
  by_cases c : ykd T n m p = 3
  · obtain ⟨_, hx9⟩ := ykd_num c
    refine y_icT y175_5 rfl (by omega) (by omega) (by simp only [zch]; omega) ?_
    refine w_A y175_14 rfl ?_
    refine R_g8 y175_15 h c ?_
    refine w_I y175_18 rfl ?_
    refine w_I y175_19 rfl ?_
    refine y_call y175_20 (y_args4 rfl rfl) rfl (ym_in (L := L) (xs := xs) (d := d + 2) (v := ynN T (ysk T n p) (yln T n p)) (a := a) (b := b) (by omega) (by omega) (by omega)) ?_
    by_cases c2 : a ≤ ynN T (ysk T n p) (yln T n p) ∧ ynN T (ysk T n p) (yln T n p) ≤ b
    · have sp : yNum T n m a b p = .inr (ynN T (ysk T n p) (yln T n p), yto T n m p) := by unfold yNum; rw [if_pos c, if_pos c2]
      rw [sp]
      refine w_ifT y175_23 rfl (y_bneT (decide_eq_true c2)) ?_
      refine w_A y175_32 rfl ?_
      refine w_A y175_33 rfl ?_
      refine R_g8 y175_34 h c ?_
      refine R_p13 y175_37 h (fun σ1 h1 => ?_)
      refine w_A y175_40 rfl ?_
      refine R_go hn hm hT y175_41 rfl h1 (fun σ2 h2 => ?_)
      refine w_K y175_44 ?_
      exact y_ret (v := .int (yb true)) y175_45 y_rtb ⟨true, rfl, rfl, h2⟩
    · have sp : yNum T n m a b p = .inl (ybd T n m p 2) := by unfold yNum; rw [if_pos c, if_neg c2]
      rw [sp]
      refine w_ifF y175_23 rfl (y_bneF (decide_eq_false c2)) ?_
      refine w_A y175_26 rfl ?_
      refine w_K y175_27 ?_
      refine R_bad y175_28 rfl h (fun σ1 h1 => ?_)
      exact y_ret y175_31 y_rtb ⟨false, rfl, rfl, h1⟩
  · have sp : yNum T n m a b p = .inl (ybd T n m p 1) := by unfold yNum; rw [if_neg c]
    rw [sp]
    refine y_icF y175_5 rfl (by omega) (by omega) (by simp only [zch]; omega) ?_
    refine w_A y175_8 rfl ?_
    refine w_K y175_9 ?_
    refine R_bad y175_10 rfl h (fun σ1 h1 => ?_)
    exact y_ret y175_13 y_rtb ⟨false, rfl, rfl, h1⟩
theorem R_num {a b : Nat} (ha : a ≤ 1000) (hb : b ≤ 1000) (hn : n ≤ 940) (hm : m ≤ 940) (hT : ∀ i, T i ≤ 255) (hf : iv_f1 (iv_p M) pc = some (.inr (.inr (6, 175, 2, 12)))) (hs : Nat.ble (iv_cs st) 8 = true) (h : yR T n m p Nm ng o w nd σ) (kb : ∀ e σ1, yNum T n m a b p = .inl e → yB e σ1 → zGo L xs Post [] (d + 4) M (pc + 3) lv (.int (yb false) :: st) σ1) (kg : ∀ q σ1, yNum T n m a b p = .inr q → yR T n m q.2 Nm ng o w nd σ1 → zGo L xs Post [] (d + 4) M (pc + 3) lv (.int (yb true) :: st) σ1) : zGo L xs Post [] (d + 4) M pc lv (.int (Int32.ofNat b) :: .int (Int32.ofNat a) :: .ref 548 :: st) σ := by
  obtain ⟨r, σ1, r1, o1⟩ := ym_num2 (L := L) (xs := xs) (d := d) (a := a) (b := b) ha hb hn hm hT h
  obtain ⟨V, g⟩ := R_g h
  refine y_call hf (y_args6 g rfl hs) rfl r1 ?_
  cases hq : yNum T n m a b p with
  | inl e =>
    rw [hq] at o1
    obtain ⟨rfl, h2⟩ := (show r = false ∧ yB e σ1 from o1)
    exact kb e σ1 hq h2
  | inr q =>
    rw [hq] at o1
    obtain ⟨rfl, h2⟩ := (show r = true ∧ yR T n m q.2 Nm ng o w nd σ1 from o1)
    exact kg q σ1 hq h2
/-! fields -/
theorem R_g46 (hf : iv_f1 (iv_p M) pc = some (.inl (iv_oGF 12 46))) (h : yR T n m p Nm ng o w nd σ) (k : zGo L xs Post [] d M (pc + 3) lv (.int (Int32.ofNat o) :: st) σ) : zGo L xs Post [] d M pc lv (.ref 548 :: st) σ := by
  obtain ⟨s, V, hM, _, ⟨h46, _⟩, _⟩ := h
  exact y_gf hf hM.1 rfl h46 k
theorem R_g47 (hf : iv_f1 (iv_p M) pc = some (.inl (iv_oGF 12 47))) (h : yR T n m p Nm ng o w nd σ) (k : zGo L xs Post [] d M (pc + 3) lv (.int (Int32.ofNat w) :: st) σ) : zGo L xs Post [] d M pc lv (.ref 548 :: st) σ := by
  obtain ⟨s, V, hM, _, ⟨_, h47, _⟩, _⟩ := h
  exact y_gf hf hM.1 rfl h47 k
theorem R_g45 (hf : iv_f1 (iv_p M) pc = some (.inl (iv_oGF 12 45))) (h : yR T n m p Nm ng o w nd σ) (k : zGo L xs Post [] d M (pc + 3) lv (.int (Int32.ofNat nd) :: st) σ) : zGo L xs Post [] d M pc lv (.ref 548 :: st) σ := by
  obtain ⟨s, V, hM, _, ⟨_, _, h45, _⟩, _⟩ := h
  exact y_gf hf hM.1 rfl h45 k
theorem R_g48 (hf : iv_f1 (iv_p M) pc = some (.inl (iv_oGF 12 48))) (h : yR T n m p Nm ng o w nd σ) (k : ∀ t : Int32, zGo L xs Post [] d M (pc + 3) lv (.int t :: st) σ) : zGo L xs Post [] d M pc lv (.ref 548 :: st) σ := by
  obtain ⟨s, V, hM, _, ⟨_, _, _, ⟨t, h48⟩, _⟩, _⟩ := h
  exact y_gf hf hM.1 rfl h48 (k t)
theorem R_g9 (hf : iv_f1 (iv_p M) pc = some (.inl (iv_oGF 12 9))) (h : yR T n m p Nm ng o w nd σ) (k : ∀ t : Int32, zGo L xs Post [] d M (pc + 3) lv (.int t :: st) σ) : zGo L xs Post [] d M pc lv (.ref 548 :: st) σ := by
  obtain ⟨s, V, hM, _⟩ := h
  obtain ⟨_, _, x9, v9⟩ := hM.2.2.2.2.2.2.2.1
  exact y_gf hf hM.1 rfl v9 (k x9)
theorem R_p46 {o2 : Nat} (hf : iv_f1 (iv_p M) pc = some (.inl (iv_oPF 12 46 .int))) (h : yR T n m p Nm ng o w nd σ) (k : ∀ σ1, yR T n m p Nm ng o2 w nd σ1 → zGo L xs Post [] d M (pc + 3) lv st σ1) : zGo L xs Post [] d M pc lv (.int (Int32.ofNat o2) :: .ref 548 :: st) σ := by
  obtain ⟨s, V, hM, mo, ⟨_, h47, h45, ⟨t, h48⟩, ⟨u, h13⟩, h10⟩, ⟨N, gN, hN⟩, gM, D, gD⟩ := h
  refine y_pf hf hM.1 rfl rfl (fun σ1 m1 => k σ1 ⟨s, _, yMR_pf hM m1 rfl, mO_ag mo (fun j hj => (yA_u (S := [46]) rfl) j (y_disj (by decide) hj)), ⟨rfl, h47, h45, ⟨t, h48⟩, ⟨u, h13⟩, h10⟩, ⟨N, mD_n m1 (by decide) gN, hN⟩, mD_n m1 (by decide) gM, D, mD_n m1 (by decide) gD⟩)
theorem R_p47 {w2 : Nat} (hf : iv_f1 (iv_p M) pc = some (.inl (iv_oPF 12 47 .int))) (h : yR T n m p Nm ng o w nd σ) (k : ∀ σ1, yR T n m p Nm ng o w2 nd σ1 → zGo L xs Post [] d M (pc + 3) lv st σ1) : zGo L xs Post [] d M pc lv (.int (Int32.ofNat w2) :: .ref 548 :: st) σ := by
  obtain ⟨s, V, hM, mo, ⟨h46, _, h45, ⟨t, h48⟩, ⟨u, h13⟩, h10⟩, ⟨N, gN, hN⟩, gM, D, gD⟩ := h
  refine y_pf hf hM.1 rfl rfl (fun σ1 m1 => k σ1 ⟨s, _, yMR_pf hM m1 rfl, mO_ag mo (fun j hj => (yA_u (S := [47]) rfl) j (y_disj (by decide) hj)), ⟨h46, rfl, h45, ⟨t, h48⟩, ⟨u, h13⟩, h10⟩, ⟨N, mD_n m1 (by decide) gN, hN⟩, mD_n m1 (by decide) gM, D, mD_n m1 (by decide) gD⟩)
theorem R_p45 {nd2 : Nat} (hf : iv_f1 (iv_p M) pc = some (.inl (iv_oPF 12 45 .int))) (h : yR T n m p Nm ng o w nd σ) (k : ∀ σ1, yR T n m p Nm ng o w nd2 σ1 → zGo L xs Post [] d M (pc + 3) lv st σ1) : zGo L xs Post [] d M pc lv (.int (Int32.ofNat nd2) :: .ref 548 :: st) σ := by
  obtain ⟨s, V, hM, mo, ⟨h46, h47, _, ⟨t, h48⟩, ⟨u, h13⟩, h10⟩, ⟨N, gN, hN⟩, gM, D, gD⟩ := h
  refine y_pf hf hM.1 rfl rfl (fun σ1 m1 => k σ1 ⟨s, _, yMR_pf hM m1 rfl, mO_ag mo (fun j hj => (yA_u (S := [45]) rfl) j (y_disj (by decide) hj)), ⟨h46, h47, rfl, ⟨t, h48⟩, ⟨u, h13⟩, h10⟩, ⟨N, mD_n m1 (by decide) gN, hN⟩, mD_n m1 (by decide) gM, D, mD_n m1 (by decide) gD⟩)
theorem R_p48 {x : Int32} (hf : iv_f1 (iv_p M) pc = some (.inl (iv_oPF 12 48 .int))) (h : yR T n m p Nm ng o w nd σ) (k : ∀ σ1, yR T n m p Nm ng o w nd σ1 → zGo L xs Post [] d M (pc + 3) lv st σ1) : zGo L xs Post [] d M pc lv (.int x :: .ref 548 :: st) σ := by
  obtain ⟨s, V, hM, mo, ⟨h46, h47, h45, ⟨t, h48⟩, ⟨u, h13⟩, h10⟩, ⟨N, gN, hN⟩, gM, D, gD⟩ := h
  refine y_pf hf hM.1 rfl rfl (fun σ1 m1 => k σ1 ⟨s, _, yMR_pf hM m1 rfl, mO_ag mo (fun j hj => (yA_u (S := [48]) rfl) j (y_disj (by decide) hj)), ⟨h46, h47, h45, ⟨x, rfl⟩, ⟨u, h13⟩, h10⟩, ⟨N, mD_n m1 (by decide) gN, hN⟩, mD_n m1 (by decide) gM, D, mD_n m1 (by decide) gD⟩)
theorem R_g44 (hf : iv_f1 (iv_p M) pc = some (.inl (iv_oGF 12 44))) (h : yR T n m p Nm ng o w nd σ) (k : zGo L xs Post [] d M (pc + 3) lv (.ref 590 :: st) σ) : zGo L xs Post [] d M pc lv (.ref 548 :: st) σ := by
  obtain ⟨s, V, hM, mo, _⟩ := h
  exact y_gf hf hM.1 rfl (yO_refs mo).2.2 k
theorem R_st {i : Nat} {x : Int32} (hi : i < 240) (hf : iv_f1 (iv_p M) pc = some (.inl iv_oIst)) (h : yR T n m p Nm ng o w nd σ) (k : ∀ σ1, yR T n m p Nm ng o w nd σ1 → zGo L xs Post [] d M (pc + 1) lv st σ1) : zGo L xs Post [] d M pc lv (.int x :: .int (Int32.ofNat i) :: .ref 590 :: st) σ := by
  obtain ⟨s, V, hM, mo, hv, ⟨N, gN, hN⟩, gM, D, gD⟩ := h
  exact y_ist hf gD hi (by decide) (fun σ1 m1 => k σ1 ⟨s, V, yMR_D hM m1 rfl, mo, hv, ⟨N, mD_n m1 (by decide) gN, hN⟩, mD_n m1 (by decide) gM, _, m1.2.1⟩)
end RR
