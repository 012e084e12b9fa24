/-! ===== the class's side of a book: its state and one rule for each call (printed by wip/gen/y/gen_h.py) ===== -/
theorem yh_bn1 {L : Nat} {xs : Nat → Int32} {d : Nat} {σ : iv_H} {D : Nat → Value} {f : Nat → Int64} {v : Int64} {nn : Nat} (hn : nn ≤ 7) (g : iv_get σ 4 = some (yob 3 16 D)) (ga : iv_get σ 6 = some (yaj 7 f)) (dc : D 1 = .int (Int32.ofNat nn)) (da : D 9 = .ref 6) : ∀ (j k : Nat) (lv : iv_L), k + j = nn → iv_f1 lv 0 = some (.ref 4) → iv_f1 lv 1 = some (.long v) → iv_f1 lv 3 = some (.int (Int32.ofNat k)) → zGo L xs (fun r σ1 => r = some (.int (yo (yfi f v j k))) ∧ σ1 = σ) [] d 28 2 lv [] σ := by
  intro j
  induction j with
  | zero =>
    intro k lv hj l0 l1 l3
    refine w_I y28_2 l3 ?_
    refine w_A y28_3 l0 ?_
    refine y_gf y28_4 g rfl dc ?_
    refine y_icT y28_7 rfl (by omega) (by omega) (by simp only [zch]; omega) ?_
    refine w_K y28_29 ?_
    exact y_ret y28_30 rfl ⟨rfl, rfl⟩
  | succ j ih =>
    intro k lv hj l0 l1 l3
    refine w_I y28_2 l3 ?_
    refine w_A y28_3 l0 ?_
    refine y_gf y28_4 g rfl dc ?_
    refine y_icF y28_7 rfl (by omega) (by omega) (by simp only [zch]; omega) ?_
    refine w_A y28_10 l0 ?_
    refine y_gf y28_11 g rfl da ?_
    refine w_I y28_14 l3 ?_
    refine y_jl y28_15 ga (by omega) (by decide) ?_
    refine w_J y28_16 l1 ?_
    refine w_cmp y28_17 ?_
    by_cases e144 : (f k) = v
    · skip
      refine w_ifF y28_18 rfl (lg_eq e144) ?_
      refine w_I y28_21 l3 ?_
      exact y_ret y28_22 rfl ⟨by rw [show yfi f v (j + 1) k = some k from if_pos e144]; rfl, rfl⟩
    · skip
      refine w_ifT y28_18 rfl (lg_ne e144) ?_
      refine w_inc y28_23 (x := k) l3 ?_
      refine w_go y28_26 rfl ?_
      rw [show yfi f v (j + 1) k = yfi f v j (k + 1) from if_neg e144]
      exact ih (k + 1) _ (by omega) (y_l1 rfl rfl l0) (y_l1 rfl rfl l1) y_l0
theorem yh_bn {L : Nat} {xs : Nat → Int32} {d : Nat} {σ : iv_H} {D : Nat → Value} {f : Nat → Int64} {v : Int64} {nn : Nat} (hn : nn ≤ 7) (g : iv_get σ 4 = some (yob 3 16 D)) (ga : iv_get σ 6 = some (yaj 7 f)) (dc : D 1 = .int (Int32.ofNat nn)) (da : D 9 = .ref 6) : iv_Rn L xs d 28 0 (lv_args 0 [.ref 4, .long v]) [] σ (some (.int (yo (yfi f v nn 0)))) σ := by
  refine y_Rp ?_
  refine w_K y28_0 ?_
  refine w_IS y28_1 ?_
  exact yh_bn1 hn g ga dc da nn 0 _ (by omega) rfl rfl rfl
def yHo (l : Nat) (σ : iv_H) : Prop := ∃ (B : Nat → Value) (vb wh wt sd : Nat → Int32), iv_get σ 374 = some (yob 0 9 B) ∧ (B 0 = .int (Int32.ofNat l) ∧ B 1 = .ref 376 ∧ B 2 = .ref 378 ∧ B 3 = .ref 380 ∧ B 4 = .ref 382) ∧ iv_get σ 376 = some (yai 40 vb) ∧ iv_get σ 378 = some (yai 40 wh) ∧ iv_get σ 380 = some (yai 40 wt) ∧ iv_get σ 382 = some (yai 40 sd)
def yHr (Nm : Nat → Int64) (nb ng : Nat) (σ : iv_H) : Prop := ∃ (E : Nat → Value) (bn gn : Nat → Int64), iv_get σ 4 = some (yob 3 16 E) ∧ (E 1 = .int (Int32.ofNat nb) ∧ E 2 = .int (Int32.ofNat ng) ∧ E 9 = .ref 6 ∧ E 13 = .ref 14) ∧ iv_get σ 6 = some (yaj 7 bn) ∧ iv_get σ 14 = some (yaj 6 gn) ∧ (∀ b, b < nb → yRel (Nm (0 + b)) (bn b)) ∧ ∀ g, g < ng → yRel (Nm (7 + g)) (gn g)
def yH (T : Nat → Nat) (n m p : Nat) (Nm : Nat → Int64) (nb ng l : Nat) (σ : iv_H) : Prop := (∃ V, yCM T n m p V σ ∧ V 11 = .int (Int32.ofNat 0)) ∧ yHo l σ ∧ yHr Nm nb ng σ
theorem yHo_F {l : Nat} {S : List Nat} {σ σ1 : iv_H} (h : yHo l σ) (f : yFr S σ σ1) (hS : (iv_mem 374 S || (iv_mem 376 S || (iv_mem 378 S || (iv_mem 380 S || iv_mem 382 S)))) = false) : yHo l σ1 := by
  obtain ⟨W, vb, wh, wt, sd, g, hv, g1, g2, g3, g4⟩ := h
  simp only [Bool.or_eq_false_iff] at hS
  exact ⟨W, vb, wh, wt, sd, yF_n f hS.1 g, hv, yF_n f hS.2.1 g1, yF_n f hS.2.2.1 g2, yF_n f hS.2.2.2.1 g3, yF_n f hS.2.2.2.2 g4⟩
theorem yHr_F {Nm : Nat → Int64} {nb ng : Nat} {S : List Nat} {σ σ1 : iv_H} (h : yHr Nm nb ng σ) (f : yFr S σ σ1) (hS : (iv_mem 4 S || (iv_mem 6 S || iv_mem 14 S)) = false) : yHr Nm nb ng σ1 := by
  obtain ⟨E, bn, gn, g, hv, g1, g2, hr⟩ := h
  simp only [Bool.or_eq_false_iff] at hS
  exact ⟨E, bn, gn, yF_n f hS.1 g, hv, yF_n f hS.2.1 g1, yF_n f hS.2.2 g2, hr⟩
section HH
variable {L : Nat} {xs : Nat → Int32} {Post : Option Value → iv_H → Prop} {d M pc : Nat} {lv : iv_L} {st : List Value} {σ : iv_H} {T : Nat → Nat} {n m p : Nat} {Nm : Nat → Int64} {nb ng l : Nat}
theorem yH_r (h : yH T n m p Nm nb ng l σ) : ∃ V, iv_get σ 356 = some (yob 5 13 V) := by
  obtain ⟨⟨V, hC, hV11⟩, _⟩ := h
  exact ⟨V, yCM_g hC⟩
theorem yH_b (h : yH T n m p Nm nb ng l σ) : ∃ V, iv_get σ 374 = some (yob 0 9 V) ∧ V 0 = .int (Int32.ofNat l) := by
  obtain ⟨_, ⟨W, vb, wh, wt, sd, g, ⟨b0, _⟩, _⟩, _⟩ := h
  exact ⟨W, g, b0⟩
theorem yH_4 (h : yH T n m p Nm nb ng l σ) : ∃ V, iv_get σ 4 = some (yob 3 16 V) := by
  obtain ⟨_, _, E, bn, gn, g, _⟩ := h
  exact ⟨E, g⟩
theorem H_go (hm : m ≤ 900) (hf : iv_f1 (iv_p M) pc = some (.inr (.inr (6, 52, 0, 5)))) (hs : Nat.ble (iv_cs st) 8 = true) (h : yH T n m p Nm nb ng l σ) (hk : 2 ≤ ykd T n m p) (k : ∀ σ1, yH T n m (yto T n m p) Nm nb ng l σ1 → zGo L xs Post [] (d + 1) M (pc + 3) lv st σ1) : zGo L xs Post [] (d + 1) M pc lv (.ref 356 :: st) σ := by
  obtain ⟨⟨V, hC, hV11⟩, ho, hr⟩ := h
  obtain ⟨σ1, r1, V1, h1, f1, e11, _⟩ := yc_go2 (L := L) (xs := xs) (d := d) hm hC hk
  exact y_call0 hf (y_args6 (yCM_g hC) rfl hs) rfl r1 (k σ1 ⟨⟨V1, h1, e11.trans hV11⟩, yHo_F ho f1 rfl, yHr_F hr f1 rfl⟩)
theorem H_mk {c : Nat} (hT : ∀ i, T i ≤ 255) (hc : c ≤ 255) (hf : iv_f1 (iv_p M) pc = some (.inr (.inr (6, 55, 1, 5)))) (hs : Nat.ble (iv_cs st) 8 = true) (h : yH T n m p Nm nb ng l σ) (k : zGo L xs Post [] (d + 1) M (pc + 3) lv (.int (yb (yMk T n m p c)) :: st) σ) : zGo L xs Post [] (d + 1) M pc lv (.int (Int32.ofNat c) :: .ref 356 :: st) σ := by
  obtain ⟨⟨V, hC, hV11⟩, _⟩ := h
  exact y_call hf (y_args6 (yCM_g hC) rfl hs) rfl (yc_mkE (L := L) (xs := xs) (d := d) hT hc hC) k
theorem H_ref {i : Nat} (hT : ∀ i, T i ≤ 255) (hf : iv_f1 (iv_p M) pc = some (.inr (.inr (6, 56, 1, 5)))) (hs : Nat.ble (iv_cs st) 8 = true) (h : yH T n m p Nm nb ng l σ) (hk : ¬ ykd T n m p = 1 ∨ i = 1) (k : ∀ σ1, yGB (ybd T n m p i) σ1 → zGo L xs Post [] (d + 1) M (pc + 3) lv (.int (yb false) :: st) σ1) : zGo L xs Post [] (d + 1) M pc lv (.int (Int32.ofNat i) :: .ref 356 :: st) σ := by
  obtain ⟨⟨V, hC, hV11⟩, _⟩ := h
  obtain ⟨σ1, r1, V1, h1, _⟩ := yc_rfE (L := L) (xs := xs) (d := d) (k := i) (yCM_v hT hC) (yCM_g hC) hk
  exact y_call hf (y_args6 (yCM_g hC) rfl hs) rfl r1 (k σ1 ⟨V1, h1⟩)
theorem H_nm (hT : ∀ i, T i ≤ 255) (hf : iv_f1 (iv_p M) pc = some (.inr (.inr (6, 54, 0, 5)))) (hs : Nat.ble (iv_cs st) 8 = true) (h : yH T n m p Nm nb ng l σ) (k : zGo L xs Post [] (d + 1) M (pc + 3) lv (.int (yb (yisN T n m p)) :: st) σ) : zGo L xs Post [] (d + 1) M pc lv (.ref 356 :: st) σ := by
  obtain ⟨⟨V, hC, hV11⟩, _⟩ := h
  exact y_call hf (y_args6 (yCM_g hC) rfl hs) rfl (yc_nmE (L := L) (xs := xs) (d := d) (yCM_v hT hC) (yCM_g hC)) k
theorem H_ov (hT : ∀ i, T i ≤ 255) (hf : iv_f1 (iv_p M) pc = some (.inr (.inr (6, 53, 0, 5)))) (hs : Nat.ble (iv_cs st) 8 = true) (h : yH T n m p Nm nb ng l σ) (k : zGo L xs Post [] (d + 1) M (pc + 3) lv (.int (yb (decide (ykd T n m p = 0))) :: st) σ) : zGo L xs Post [] (d + 1) M pc lv (.ref 356 :: st) σ := by
  obtain ⟨⟨V, hC, hV11⟩, _⟩ := h
  exact y_call hf (y_args6 (yCM_g hC) rfl hs) rfl (yc_ovE (L := L) (xs := xs) (d := d) (yCM_v hT hC) (yCM_g hC)) k
theorem H_num {a b : Nat} (ha : a ≤ 1000) (hb : b ≤ 1000) (hm : m ≤ 900) (hT : ∀ i, T i ≤ 255) (hf : iv_f1 (iv_p M) pc = some (.inr (.inr (6, 58, 2, 5)))) (hs : Nat.ble (iv_cs st) 8 = true) (h : yH T n m p Nm nb ng l σ) (kb : ∀ e σ1, yNum T n m a b p = .inl e → yGB e σ1 → zGo L xs Post [] (d + 2) M (pc + 3) lv (.int (Int32.ofInt (-1)) :: st) σ1) (kg : ∀ q σ1, yNum T n m a b p = .inr q → yH T n m q.2 Nm nb ng l σ1 → zGo L xs Post [] (d + 2) M (pc + 3) lv (.int (Int32.ofNat q.1) :: st) σ1) : zGo L xs Post [] (d + 2) M pc lv (.int (Int32.ofNat b) :: .int (Int32.ofNat a) :: .ref 356 :: st) σ := by
  obtain ⟨⟨V, hC, hV11⟩, ho, hr⟩ := h
  obtain ⟨x, σ1, V1, r1, o1, f1, e11⟩ := yc_pn2 (L := L) (xs := xs) (d := d + 1) (a := a) (b := b) (by omega) hm hT ha hb hC
  refine y_call hf (y_args6 (yCM_g hC) rfl hs) rfl r1 ?_
  cases hq : yNum T n m a b p with
  | inl e =>
    rw [hq] at o1
    obtain ⟨rfl, h2⟩ := (show x = Int32.ofInt (-1) ∧ yCB e V1 σ1 from o1)
    exact kb e σ1 hq ⟨V1, h2⟩
  | inr q =>
    rw [hq] at o1
    obtain ⟨rfl, h2⟩ := (show x = Int32.ofNat q.1 ∧ yCM T n m q.2 V1 σ1 from o1)
    exact kg q σ1 hq ⟨⟨V1, h2, (e11 q hq).trans hV11⟩, yHo_F ho f1 rfl, yHr_F hr f1 rfl⟩
theorem H_w (hT : ∀ i, T i ≤ 255) (hf : iv_f1 (iv_p M) pc = some (.inl (iv_oGF 5 9))) (h : yH T n m p Nm nb ng l σ) (k : ∀ j, yWd T n m p j → zGo L xs Post [] d M (pc + 3) lv (.ref (2 * j + 3) :: st) σ) : zGo L xs Post [] d M pc lv (.ref 356 :: st) σ := by
  obtain ⟨⟨V, hC, hV11⟩, _⟩ := h
  obtain ⟨j, c9, hj⟩ := yCv_wd (yCM_v hT hC)
  exact y_gf hf (yCM_g hC) rfl c9 (k j hj)
theorem yh_gat (hT : ∀ i, T i ≤ 255) (hg : ng ≤ 6) (h : yH T n m p Nm nb ng l σ) : ∃ x σ1, iv_Rn L xs (d + 2) 31 0 (lv_args 0 [.ref 4, .ref 356]) [] σ (some (.int x)) σ1 ∧ (match yNmd T n m Nm 7 ng p with
    | .inl e => x = Int32.ofInt (-1) ∧ yGB e σ1
    | .inr i => x = Int32.ofNat i ∧ yH T n m p Nm nb ng l σ1) := by
  refine y_RnE ?_
  obtain ⟨V, gV⟩ := yH_r h
  obtain ⟨⟨V1, hC, hV11⟩, ho, E, bn, gn, g4, ⟨e1, e2, e9, e13⟩, g6, g14, brel, hrel⟩ := id h
  obtain ⟨v, c10, hv⟩ := yCv_val (yCM_v hT hC)
  have g356 := yCM_g hC
  have fail : ∀ (lv : iv_L) (i : Nat), iv_f1 lv 0 = some (.ref 4) → iv_f1 lv 1 = some (.ref 356) → iv_f1 lv 2 = some (.int (Int32.ofInt (-1))) → yNmd T n m Nm 7 ng p = .inl (ybd T n m p i) → (yisN T n m p = true ∧ i = 3 ∨ yisN T n m p = false ∧ i = 1) → zGo L xs (fun r σ1 => ∃ x, r = some (.int x) ∧ (match yNmd T n m Nm 7 ng p with
    | .inl e => x = Int32.ofInt (-1) ∧ yGB e σ1
    | .inr i => x = Int32.ofNat i ∧ yH T n m p Nm nb ng l σ1)) [] (d + 2) 31 20 lv [] σ := fun lv i l0 l1 l2 sp hi => by
    rw [sp]
    refine w_I y31_20 l2 ?_
    refine w_K y31_21 ?_
    refine w_icF y31_22 rfl (by decide) ?_
    refine w_A y31_25 l1 ?_
    refine w_A y31_26 l1 ?_
    refine H_nm hT y31_27 rfl h ?_
    rcases hi with ⟨hn1, rfl⟩ | ⟨hn1, rfl⟩
    · refine w_ifF y31_30 rfl (y_beqF hn1) ?_
      refine w_K y31_33 ?_
      refine w_go y31_34 rfl ?_
      refine H_ref hT y31_38 rfl h (.inl (by rw [(of_decide_eq_true hn1).1]; decide)) (fun σ1 h1 => ?_)
      refine y_pop y31_41 rfl ?_
      refine w_I y31_42 l2 ?_
      exact y_ret y31_43 rfl ⟨_, rfl, rfl, h1⟩
    · refine w_ifT y31_30 rfl (y_beqT hn1) ?_
      refine w_K y31_37 ?_
      refine H_ref hT y31_38 rfl h (.inr rfl) (fun σ1 h1 => ?_)
      refine y_pop y31_41 rfl ?_
      refine w_I y31_42 l2 ?_
      exact y_ret y31_43 rfl ⟨_, rfl, rfl, h1⟩
  refine w_A y31_0 rfl ?_
  refine H_nm hT y31_1 rfl h ?_
  rcases y_bc (yisN T n m p) with e | e
  · refine w_ifT y31_4 rfl (y_beqT e) ?_
    refine w_K y31_18 ?_
    refine w_IS y31_19 ?_
    exact fail _ 1 rfl rfl rfl (by unfold yNmd; rw [if_neg (by rw [e]; decide)]) (.inr ⟨e, rfl⟩)
  · have hk : ykd T n m p = 2 := (of_decide_eq_true e).1
    refine w_ifF y31_4 rfl (y_beqF e) ?_
    refine w_A y31_7 rfl ?_
    refine w_A y31_8 rfl ?_
    refine y_gf y31_9 g356 rfl c10 ?_
    refine y_call y31_12 (y_args6 g4 rfl rfl) rfl (yh_gn (L := L) (xs := xs) (d := d + 1) (v := v) hg g4 g14 e2 e13) ?_
    refine w_go y31_15 rfl ?_
    have er : yfi gn v ng 0 = yfs T n Nm 7 ng p := yfi_rel (fun i _ hi => (yRel_iff (hrel i (by omega)) (hv hk)).symm)
    rw [er]
    refine w_IS y31_19 ?_
    cases hq : yfs T n Nm 7 ng p with
    | none =>
      have sp : yNmd T n m Nm 7 ng p = .inl (ybd T n m p 3) := by unfold yNmd; rw [if_pos e, hq]
      exact fail _ 3 rfl rfl rfl sp (.inl ⟨e, rfl⟩)
    | some i =>
      have hi := yfi_lt (show yfi (fun i => Nm (7 + i)) (yrv T n p) ng 0 = some i from hq)
      have sp : yNmd T n m Nm 7 ng p = .inr i := by unfold yNmd; rw [if_pos e, hq]
      rw [sp]
      refine w_I y31_20 rfl ?_
      refine w_K y31_21 ?_
      refine w_icT y31_22 rfl (by
        have := y_oN (k := i) (by omega)
        simp only [iv_c2]
        exact decide_eq_true this) ?_
      refine w_I y31_42 rfl ?_
      exact y_ret y31_43 rfl ⟨_, rfl, rfl, h⟩
theorem yh_bat (hT : ∀ i, T i ≤ 255) (hb : nb ≤ 7) (h : yH T n m p Nm nb ng l σ) : ∃ x σ1, iv_Rn L xs (d + 2) 30 0 (lv_args 0 [.ref 4, .ref 356]) [] σ (some (.int x)) σ1 ∧ (match yNmd T n m Nm 0 nb p with
    | .inl e => x = Int32.ofInt (-1) ∧ yGB e σ1
    | .inr i => x = Int32.ofNat i ∧ yH T n m p Nm nb ng l σ1) := by
  refine y_RnE ?_
  obtain ⟨V, gV⟩ := yH_r h
  obtain ⟨⟨V1, hC, hV11⟩, ho, E, bn, gn, g4, ⟨e1, e2, e9, e13⟩, g6, g14, brel, hrel⟩ := id h
  obtain ⟨v, c10, hv⟩ := yCv_val (yCM_v hT hC)
  have g356 := yCM_g hC
  have fail : ∀ (lv : iv_L) (i : Nat), iv_f1 lv 0 = some (.ref 4) → iv_f1 lv 1 = some (.ref 356) → iv_f1 lv 2 = some (.int (Int32.ofInt (-1))) → yNmd T n m Nm 0 nb p = .inl (ybd T n m p i) → (yisN T n m p = true ∧ i = 3 ∨ yisN T n m p = false ∧ i = 1) → zGo L xs (fun r σ1 => ∃ x, r = some (.int x) ∧ (match yNmd T n m Nm 0 nb p with
    | .inl e => x = Int32.ofInt (-1) ∧ yGB e σ1
    | .inr i => x = Int32.ofNat i ∧ yH T n m p Nm nb ng l σ1)) [] (d + 2) 30 20 lv [] σ := fun lv i l0 l1 l2 sp hi => by
    rw [sp]
    refine w_I y30_20 l2 ?_
    refine w_K y30_21 ?_
    refine w_icF y30_22 rfl (by decide) ?_
    refine w_A y30_25 l1 ?_
    refine w_A y30_26 l1 ?_
    refine H_nm hT y30_27 rfl h ?_
    rcases hi with ⟨hn1, rfl⟩ | ⟨hn1, rfl⟩
    · refine w_ifF y30_30 rfl (y_beqF hn1) ?_
      refine w_K y30_33 ?_
      refine w_go y30_34 rfl ?_
      refine H_ref hT y30_38 rfl h (.inl (by rw [(of_decide_eq_true hn1).1]; decide)) (fun σ1 h1 => ?_)
      refine y_pop y30_41 rfl ?_
      refine w_I y30_42 l2 ?_
      exact y_ret y30_43 rfl ⟨_, rfl, rfl, h1⟩
    · refine w_ifT y30_30 rfl (y_beqT hn1) ?_
      refine w_K y30_37 ?_
      refine H_ref hT y30_38 rfl h (.inr rfl) (fun σ1 h1 => ?_)
      refine y_pop y30_41 rfl ?_
      refine w_I y30_42 l2 ?_
      exact y_ret y30_43 rfl ⟨_, rfl, rfl, h1⟩
  refine w_A y30_0 rfl ?_
  refine H_nm hT y30_1 rfl h ?_
  rcases y_bc (yisN T n m p) with e | e
  · refine w_ifT y30_4 rfl (y_beqT e) ?_
    refine w_K y30_18 ?_
    refine w_IS y30_19 ?_
    exact fail _ 1 rfl rfl rfl (by unfold yNmd; rw [if_neg (by rw [e]; decide)]) (.inr ⟨e, rfl⟩)
  · have hk : ykd T n m p = 2 := (of_decide_eq_true e).1
    refine w_ifF y30_4 rfl (y_beqF e) ?_
    refine w_A y30_7 rfl ?_
    refine w_A y30_8 rfl ?_
    refine y_gf y30_9 g356 rfl c10 ?_
    refine y_call y30_12 (y_args6 g4 rfl rfl) rfl (yh_bn (L := L) (xs := xs) (d := d + 1) (v := v) hb g4 g6 e1 e9) ?_
    refine w_go y30_15 rfl ?_
    have er : yfi bn v nb 0 = yfs T n Nm 0 nb p := yfi_rel (fun i _ hi => (yRel_iff (brel i (by omega)) (hv hk)).symm)
    rw [er]
    refine w_IS y30_19 ?_
    cases hq : yfs T n Nm 0 nb p with
    | none =>
      have sp : yNmd T n m Nm 0 nb p = .inl (ybd T n m p 3) := by unfold yNmd; rw [if_pos e, hq]
      exact fail _ 3 rfl rfl rfl sp (.inl ⟨e, rfl⟩)
    | some i =>
      have hi := yfi_lt (show yfi (fun i => Nm (0 + i)) (yrv T n p) nb 0 = some i from hq)
      have sp : yNmd T n m Nm 0 nb p = .inr i := by unfold yNmd; rw [if_pos e, hq]
      rw [sp]
      refine w_I y30_20 rfl ?_
      refine w_K y30_21 ?_
      refine w_icT y30_22 rfl (by
        have := y_oN (k := i) (by omega)
        simp only [iv_c2]
        exact decide_eq_true this) ?_
      refine w_I y30_42 rfl ?_
      exact y_ret y30_43 rfl ⟨_, rfl, rfl, h⟩
theorem yh_pm {c : Nat} (hT : ∀ i, T i ≤ 255) (hm : m ≤ 900) (hc : c ≤ 255) (h : yH T n m p Nm nb ng l σ) : ∃ b σ1, iv_Rn L xs (d + 1) 57 0 (lv_args 0 [.ref 356, .int (Int32.ofNat c)]) [] σ (some (.int (yb b))) σ1 ∧ ((b = false ∧ yMk T n m p c = false ∧ yGB (ybd T n m p 1) σ1) ∨ (b = true ∧ yMk T n m p c = true ∧ yH T n m (yto T n m p) Nm nb ng l σ1)) := by
  refine y_RbE ?_
  refine w_A y57_0 rfl ?_
  refine w_I y57_1 rfl ?_
  refine H_mk hT hc y57_2 rfl h ?_
  rcases y_bc (yMk T n m p c) with e | e
  · refine w_ifF y57_5 rfl (y_bneF e) ?_
    refine w_A y57_8 rfl ?_
    refine w_K y57_9 ?_
    refine H_ref hT y57_10 rfl h (.inr rfl) (fun σ1 h1 => ?_)
    exact y_ret y57_13 y_rtb ⟨false, rfl, .inl ⟨rfl, e, h1⟩⟩
  · refine w_ifT y57_5 rfl (y_bneT e) ?_
    refine w_A y57_14 rfl ?_
    refine H_go hm y57_15 rfl h (by rw [yMk_k e]; decide) (fun σ1 h1 => ?_)
    refine w_K y57_18 ?_
    exact y_ret (v := .int (yb true)) y57_19 y_rtb ⟨true, rfl, .inr ⟨rfl, e, h1⟩⟩
end HH
