/-! ===== printed by wip/gen/y/cd.py: the class reads an order ===== -/
def yNms (s : yS) (nb ng : Nat) (bn gn : Nat → Int64) : Prop := (∀ b, b < nb → yRel (s.2.1 b) (bn b)) ∧ ∀ g, g < ng → yRel (s.2.1 (7 + g)) (gn g)
/-- the draft of the class holds what the reference has read -/
def yCD (s : yS) (nb ng l : Nat) (D : Nat → Value) (σ : iv_H) : Prop := ∃ (bn : Nat → Int64) (bl hd hl : Nat → Int32) (gn : Nat → Int64) (te ed : Nat → Int32), (iv_get σ 20 = some (yob 3 16 D) ∧ iv_get σ 22 = some (yaj 7 bn) ∧ iv_get σ 24 = some (yai 7 bl) ∧ iv_get σ 26 = some (yai 7 hd) ∧ iv_get σ 28 = some (yai 7 hl) ∧ iv_get σ 30 = some (yaj 6 gn) ∧ iv_get σ 32 = some (yai 6 te) ∧ iv_get σ 34 = some (yai 6 ed)) ∧ (D 9 = .ref 22 ∧ D 10 = .ref 24 ∧ D 11 = .ref 26 ∧ D 12 = .ref 28 ∧ D 13 = .ref 30 ∧ D 14 = .ref 32 ∧ D 15 = .ref 34) ∧ (D 0 = .int (Int32.ofNat l) ∧ D 1 = .int (Int32.ofNat nb) ∧ D 2 = .int (Int32.ofNat ng)) ∧ (D 3 = .int (s.1 2) ∧ D 4 = .int (s.1 3) ∧ D 5 = .int (s.1 4) ∧ D 6 = .int (s.2.2 0) ∧ D 7 = .int (s.2.2 1) ∧ D 8 = .int (s.2.2 2)) ∧ yNms s nb ng bn gn ∧ ∀ b, b < 7 → hl b = s.1 (19 + b)
/-- the draft's cells -/
def yCc (D : Nat → Value) (σ : iv_H) : Prop := ∃ (bn : Nat → Int64) (bl hd hl : Nat → Int32) (gn : Nat → Int64) (te ed : Nat → Int32), (iv_get σ 20 = some (yob 3 16 D) ∧ iv_get σ 22 = some (yaj 7 bn) ∧ iv_get σ 24 = some (yai 7 bl) ∧ iv_get σ 26 = some (yai 7 hd) ∧ iv_get σ 28 = some (yai 7 hl) ∧ iv_get σ 30 = some (yaj 6 gn) ∧ iv_get σ 32 = some (yai 6 te) ∧ iv_get σ 34 = some (yai 6 ed)) ∧ (D 9 = .ref 22 ∧ D 10 = .ref 24 ∧ D 11 = .ref 26 ∧ D 12 = .ref 28 ∧ D 13 = .ref 30 ∧ D 14 = .ref 32 ∧ D 15 = .ref 34)
theorem yCc_g {D : Nat → Value} {σ : iv_H} (h : yCc D σ) : iv_get σ 20 = some (yob 3 16 D) := by
  obtain ⟨bn, bl, hd_, hl, gn, te, ed, ⟨g20, _⟩, _⟩ := h
  exact g20
def yDO (T : Nat → Nat) (n m l : Nat) (o : yE (yS × Nat)) (r : Bool) (V1 D1 : Nat → Value) (σ1 : iv_H) : Prop := match o with
  | .inl e => r = false ∧ yCB e V1 σ1
  | .inr q => r = true ∧ yCM T n m q.2 V1 σ1 ∧ ∃ nb ng, yCD q.1 nb ng l D1 σ1 ∧ yCn q.1 nb ng
section YDO
variable {T : Nat → Nat} {n m l p : Nat} {V1 D1 : Nat → Value} {σ1 : iv_H} {e : Nat × Nat} {o : yE (yS × Nat)}
theorem yDO_bad (sp : o = .inl e) (h : yCB e V1 σ1) : yDO T n m l o false V1 D1 σ1 := by
  subst sp
  exact And.intro rfl h
theorem yDO_good {q : yS × Nat} {nb ng : Nat} (sp : o = .inr q) (h : yCM T n m q.2 V1 σ1) (h2 : yCD q.1 nb ng l D1 σ1) (h3 : yCn q.1 nb ng) : yDO T n m l o true V1 D1 σ1 := by
  subst sp
  exact And.intro rfl ⟨h, nb, ng, h2, h3⟩
theorem y_Rd {L : Nat} {xs : Nat → Int32} {d M pc : Nat} {lv : iv_L} {st : List Value} {σ : iv_H} {Q : Bool → (Nat → Value) → (Nat → Value) → iv_H → Prop} (h : zGo L xs (fun r σ1 => ∃ b V1 D1, r = some (.int (yb b)) ∧ Q b V1 D1 σ1) [] d M pc lv st σ) : ∃ b σ1 V1 D1, iv_Rn L xs d M pc lv st σ (some (.int (yb b))) σ1 ∧ Q b V1 D1 σ1 := by
  obtain ⟨r, σ1, h1, h2⟩ := h
  have h3 : ∃ b V1 D1, r = some (.int (yb b)) ∧ Q b V1 D1 σ1 := h2
  obtain ⟨b, V1, D1, rfl, h4⟩ := h3
  exact ⟨b, σ1, V1, D1, h1, h4⟩
theorem yisN_k (h : yisN T n m p = true) : ykd T n m p = 2 := (of_decide_eq_true h).1
theorem yisW_k {i : Nat} (h : yisW T n m p i = true) : ykd T n m p = 2 := (of_decide_eq_true h).1
theorem yfi_rel {f g : Nat → Int64} {w w' : Int64} : ∀ {j k : Nat}, (∀ i, k ≤ i → i < k + j → (f i = w ↔ g i = w')) → yfi f w j k = yfi g w' j k
  | 0, _, _ => rfl
  | j + 1, k, h => by
    have h0 := h k (Nat.le_refl _) (by omega)
    have ih := yfi_rel (f := f) (g := g) (w := w) (w' := w') (j := j) (k := k + 1) (fun i h1 h2 => h i (by omega) (by omega))
    show (if f k = w then some k else yfi f w j (k + 1)) = (if g k = w' then some k else yfi g w' j (k + 1))
    rw [ih]
    by_cases e : f k = w
    · rw [if_pos e, if_pos (h0.mp e)]
    · rw [if_neg e, if_neg (fun e2 => e (h0.mpr e2))]
theorem yfB_rel {s : yS} {nb ng : Nat} {bn gn : Nat → Int64} {v : Int64} (hN : yNms s nb ng bn gn) (hv : yVal T n m p v) (hk : ykd T n m p = 2) : yfi bn v nb 0 = yfs T n s.2.1 0 nb p := yfi_rel (fun i _ hi => by
  show _ ↔ s.2.1 (0 + i) = _
  rw [Nat.zero_add]
  exact (yRel_iff (hN.1 i (by omega)) (hv hk)).symm)
theorem yfG_rel {s : yS} {nb ng : Nat} {bn gn : Nat → Int64} {v : Int64} (hN : yNms s nb ng bn gn) (hv : yVal T n m p v) (hk : ykd T n m p = 2) : yfi gn v ng 0 = yfs T n s.2.1 7 ng p := yfi_rel (fun i _ hi => (yRel_iff (hN.2 i (by omega)) (hv hk)).symm)
theorem yNum_le {a b : Nat} {q : Nat × Nat} (h : yNum T n m a b p = .inr q) : q.1 ≤ b := by
  unfold yNum at h
  split at h
  · split at h
    · rename_i h2
      cases h
      exact h2.2
    · cases h
  · cases h
end YDO
/-- is the name new? -/
def yNw (T : Nat → Nat) (n m nb ng : Nat) (s : yS) (p : Nat) : yE Unit := if yisN T n m p = true then (if yfs T n s.2.1 0 nb p = none ∧ yfs T n s.2.1 7 ng p = none then .inr () else .inl (ybd T n m p 3)) else .inl (ybd T n m p 1)
theorem yNw_new {T : Nat → Nat} {n m nb ng slot : Nat} {s : yS} {p : Nat} : yNew T n m nb ng slot s p = yThen (yNw T n m nb ng s p) fun _ => .inr ((s.1, vp_updL s.2.1 slot (yrv T n p), s.2.2), yto T n m p) := by
  unfold yNew yNw
  split
  · split <;> rfl
  · rfl
theorem yNw_k {T : Nat → Nat} {n m nb ng : Nat} {s : yS} {p : Nat} {u : Unit} (h : yNw T n m nb ng s p = .inr u) : ykd T n m p = 2 := by
  unfold yNw at h
  split at h
  · rename_i h2
    exact yisN_k h2
  · cases h
set_option maxRecDepth 100000 in
theorem y284_0 : iv_f1 (iv_p 284) 0 = some (.inl (iv_oK (.int (Int32.ofNat 0)) 1)) := rfl
set_option maxRecDepth 100000 in
theorem y284_1 : iv_f1 (iv_p 284) 1 = some (.inl (iv_oIS 2 1)) := rfl
set_option maxRecDepth 100000 in
theorem y284_2 : iv_f1 (iv_p 284) 2 = some (.inl (iv_oA 0 1)) := rfl
set_option maxRecDepth 100000 in
theorem y284_3 : iv_f1 (iv_p 284) 3 = some (.inl iv_oLen) := rfl
set_option maxRecDepth 100000 in
theorem y284_4 : iv_f1 (iv_p 284) 4 = some (.inl (iv_oIS 3 1)) := rfl
set_option maxRecDepth 100000 in
theorem y284_5 : iv_f1 (iv_p 284) 5 = some (.inl (iv_oI 2 1)) := rfl
set_option maxRecDepth 100000 in
theorem y284_6 : iv_f1 (iv_p 284) 6 = some (.inl (iv_oI 3 1)) := rfl
set_option maxRecDepth 100000 in
theorem y284_7 : iv_f1 (iv_p 284) 7 = some (.inl (iv_oIc .ge (13))) := rfl
set_option maxRecDepth 100000 in
theorem y284_10 : iv_f1 (iv_p 284) 10 = some (.inl (iv_oA 0 1)) := rfl
set_option maxRecDepth 100000 in
theorem y284_11 : iv_f1 (iv_p 284) 11 = some (.inl (iv_oI 2 1)) := rfl
set_option maxRecDepth 100000 in
theorem y284_12 : iv_f1 (iv_p 284) 12 = some (.inl (iv_oI 1 1)) := rfl
set_option maxRecDepth 100000 in
theorem y284_13 : iv_f1 (iv_p 284) 13 = some (.inl iv_oIst) := rfl
set_option maxRecDepth 100000 in
theorem y284_14 : iv_f1 (iv_p 284) 14 = some (.inl (iv_oInc 2 (1))) := rfl
set_option maxRecDepth 100000 in
theorem y284_17 : iv_f1 (iv_p 284) 17 = some (.inl (iv_oGo (-12))) := rfl
set_option maxRecDepth 100000 in
theorem y284_20 : iv_f1 (iv_p 284) 20 = some (.inr (.inl 0)) := rfl
theorem yd_fill {L : Nat} {xs : Nat → Int32} {d : Nat} {σ : iv_H} {f : Nat → Int32} {x : Int32} (g : iv_get σ 28 = some (yai 7 f)) : ∃ σ1, iv_Rn L xs d 284 0 (lv_args 0 [.ref 28, .int x]) [] σ none σ1 ∧ ∃ f1, iv_get σ1 28 = some (yai 7 f1) ∧ (∀ b, b < 7 → f1 b = x) ∧ yFr [28] σ σ1 := by
  refine y_R0 ?_
  refine w_K y284_0 ?_
  refine w_IS y284_1 ?_
  refine w_A y284_2 rfl ?_
  refine y_len y284_3 g rfl ?_
  refine w_IS y284_4 ?_
  refine w_I y284_5 rfl ?_
  refine w_I y284_6 rfl ?_
  refine w_icF y284_7 rfl rfl ?_
  refine w_A y284_10 rfl ?_
  refine w_I y284_11 rfl ?_
  refine w_I y284_12 rfl ?_
  refine y_ist y284_13 g (by omega) (by decide) ?_
  intro σ131 h130
  refine y_inck (y := 1) y284_14 rfl rfl ?_
  refine w_go y284_17 rfl ?_
  refine w_I y284_5 rfl ?_
  refine w_I y284_6 rfl ?_
  refine w_icF y284_7 rfl rfl ?_
  refine w_A y284_10 rfl ?_
  refine w_I y284_11 rfl ?_
  refine w_I y284_12 rfl ?_
  refine y_ist y284_13 h130.2.1 (by omega) (by decide) ?_
  intro σ133 h132
  refine y_inck (y := 2) y284_14 rfl rfl ?_
  refine w_go y284_17 rfl ?_
  refine w_I y284_5 rfl ?_
  refine w_I y284_6 rfl ?_
  refine w_icF y284_7 rfl rfl ?_
  refine w_A y284_10 rfl ?_
  refine w_I y284_11 rfl ?_
  refine w_I y284_12 rfl ?_
  refine y_ist y284_13 h132.2.1 (by omega) (by decide) ?_
  intro σ135 h134
  refine y_inck (y := 3) y284_14 rfl rfl ?_
  refine w_go y284_17 rfl ?_
  refine w_I y284_5 rfl ?_
  refine w_I y284_6 rfl ?_
  refine w_icF y284_7 rfl rfl ?_
  refine w_A y284_10 rfl ?_
  refine w_I y284_11 rfl ?_
  refine w_I y284_12 rfl ?_
  refine y_ist y284_13 h134.2.1 (by omega) (by decide) ?_
  intro σ137 h136
  refine y_inck (y := 4) y284_14 rfl rfl ?_
  refine w_go y284_17 rfl ?_
  refine w_I y284_5 rfl ?_
  refine w_I y284_6 rfl ?_
  refine w_icF y284_7 rfl rfl ?_
  refine w_A y284_10 rfl ?_
  refine w_I y284_11 rfl ?_
  refine w_I y284_12 rfl ?_
  refine y_ist y284_13 h136.2.1 (by omega) (by decide) ?_
  intro σ139 h138
  refine y_inck (y := 5) y284_14 rfl rfl ?_
  refine w_go y284_17 rfl ?_
  refine w_I y284_5 rfl ?_
  refine w_I y284_6 rfl ?_
  refine w_icF y284_7 rfl rfl ?_
  refine w_A y284_10 rfl ?_
  refine w_I y284_11 rfl ?_
  refine w_I y284_12 rfl ?_
  refine y_ist y284_13 h138.2.1 (by omega) (by decide) ?_
  intro σ141 h140
  refine y_inck (y := 6) y284_14 rfl rfl ?_
  refine w_go y284_17 rfl ?_
  refine w_I y284_5 rfl ?_
  refine w_I y284_6 rfl ?_
  refine w_icF y284_7 rfl rfl ?_
  refine w_A y284_10 rfl ?_
  refine w_I y284_11 rfl ?_
  refine w_I y284_12 rfl ?_
  refine y_ist y284_13 h140.2.1 (by omega) (by decide) ?_
  intro σ143 h142
  refine y_inck (y := 7) y284_14 rfl rfl ?_
  refine w_go y284_17 rfl ?_
  refine w_I y284_5 rfl ?_
  refine w_I y284_6 rfl ?_
  refine w_icT y284_7 rfl rfl ?_
  refine w_ret0 y284_20 ⟨rfl, _, h142.2.1, ?_, (yF_tr (yF_D h130 (by rfl)) (yF_tr (yF_D h132 (by rfl)) (yF_tr (yF_D h134 (by rfl)) (yF_tr (yF_D h136 (by rfl)) (yF_tr (yF_D h138 (by rfl)) (yF_tr (yF_D h140 (by rfl)) (yF_D h142 (by rfl))))))))⟩
  intro b hb
  have hb2 : b = 0 ∨ b = 1 ∨ b = 2 ∨ b = 3 ∨ b = 4 ∨ b = 5 ∨ b = 6 := by omega
  rcases hb2 with rfl | rfl | rfl | rfl | rfl | rfl | rfl <;> rfl
set_option maxRecDepth 100000 in
theorem y28_0 : iv_f1 (iv_p 28) 0 = some (.inl (iv_oK (.int (Int32.ofNat 0)) 1)) := rfl
set_option maxRecDepth 100000 in
theorem y28_1 : iv_f1 (iv_p 28) 1 = some (.inl (iv_oIS 3 1)) := rfl
set_option maxRecDepth 100000 in
theorem y28_2 : iv_f1 (iv_p 28) 2 = some (.inl (iv_oI 3 1)) := rfl
set_option maxRecDepth 100000 in
theorem y28_3 : iv_f1 (iv_p 28) 3 = some (.inl (iv_oA 0 1)) := rfl
set_option maxRecDepth 100000 in
theorem y28_4 : iv_f1 (iv_p 28) 4 = some (.inl (iv_oGF 3 1)) := rfl
set_option maxRecDepth 100000 in
theorem y28_7 : iv_f1 (iv_p 28) 7 = some (.inl (iv_oIc .ge (22))) := rfl
set_option maxRecDepth 100000 in
theorem y28_10 : iv_f1 (iv_p 28) 10 = some (.inl (iv_oA 0 1)) := rfl
set_option maxRecDepth 100000 in
theorem y28_11 : iv_f1 (iv_p 28) 11 = some (.inl (iv_oGF 3 9)) := rfl
set_option maxRecDepth 100000 in
theorem y28_14 : iv_f1 (iv_p 28) 14 = some (.inl (iv_oI 3 1)) := rfl
set_option maxRecDepth 100000 in
theorem y28_15 : iv_f1 (iv_p 28) 15 = some (.inl iv_oJl) := rfl
set_option maxRecDepth 100000 in
theorem y28_16 : iv_f1 (iv_p 28) 16 = some (.inl (iv_oJ 1 1)) := rfl
set_option maxRecDepth 100000 in
theorem y28_17 : iv_f1 (iv_p 28) 17 = some (.inl iv_oCmp) := rfl
set_option maxRecDepth 100000 in
theorem y28_18 : iv_f1 (iv_p 28) 18 = some (.inl (iv_oIf .ne (5))) := rfl
set_option maxRecDepth 100000 in
theorem y28_21 : iv_f1 (iv_p 28) 21 = some (.inl (iv_oI 3 1)) := rfl
set_option maxRecDepth 100000 in
theorem y28_22 : iv_f1 (iv_p 28) 22 = some (.inr (.inl 1)) := rfl
set_option maxRecDepth 100000 in
theorem y28_23 : iv_f1 (iv_p 28) 23 = some (.inl (iv_oInc 3 (1))) := rfl
set_option maxRecDepth 100000 in
theorem y28_26 : iv_f1 (iv_p 28) 26 = some (.inl (iv_oGo (-24))) := rfl
set_option maxRecDepth 100000 in
theorem y28_29 : iv_f1 (iv_p 28) 29 = some (.inl (iv_oK (.int (Int32.ofInt (-1))) 1)) := rfl
set_option maxRecDepth 100000 in
theorem y28_30 : iv_f1 (iv_p 28) 30 = some (.inr (.inl 1)) := rfl
theorem yd_bn1 {L : Nat} {xs : Nat → Int32} {d : Nat} {σ : iv_H} {D : Nat → Value} {f : Nat → Int64} {v : Int64} {nn : Nat} (hn : nn ≤ 7) (g : iv_get σ 20 = some (yob 3 16 D)) (ga : iv_get σ 22 = some (yaj 7 f)) (dc : D 1 = .int (Int32.ofNat nn)) (da : D 9 = .ref 22) : ∀ (j k : Nat) (lv : iv_L), k + j = nn → iv_f1 lv 0 = some (.ref 20) → iv_f1 lv 1 = some (.long v) → iv_f1 lv 3 = some (.int (Int32.ofNat k)) → zGo L xs (fun r σ1 => r = some (.int (yo (yfi f v j k))) ∧ σ1 = σ) [] d 28 2 lv [] σ := by
  intro j
  induction j with
  | zero =>
    intro k lv hj l0 l1 l3
    refine w_I y28_2 l3 ?_
    refine w_A y28_3 l0 ?_
    refine y_gf y28_4 g rfl dc ?_
    refine y_icT y28_7 rfl (by omega) (by omega) (by simp only [zch]; omega) ?_
    refine w_K y28_29 ?_
    exact y_ret y28_30 rfl ⟨rfl, rfl⟩
  | succ j ih =>
    intro k lv hj l0 l1 l3
    refine w_I y28_2 l3 ?_
    refine w_A y28_3 l0 ?_
    refine y_gf y28_4 g rfl dc ?_
    refine y_icF y28_7 rfl (by omega) (by omega) (by simp only [zch]; omega) ?_
    refine w_A y28_10 l0 ?_
    refine y_gf y28_11 g rfl da ?_
    refine w_I y28_14 l3 ?_
    refine y_jl y28_15 ga (by omega) (by decide) ?_
    refine w_J y28_16 l1 ?_
    refine w_cmp y28_17 ?_
    by_cases e144 : (f k) = v
    · skip
      refine w_ifF y28_18 rfl (lg_eq e144) ?_
      refine w_I y28_21 l3 ?_
      exact y_ret y28_22 rfl ⟨by rw [show yfi f v (j + 1) k = some k from if_pos e144]; rfl, rfl⟩
    · skip
      refine w_ifT y28_18 rfl (lg_ne e144) ?_
      refine w_inc y28_23 (x := k) l3 ?_
      refine w_go y28_26 rfl ?_
      rw [show yfi f v (j + 1) k = yfi f v j (k + 1) from if_neg e144]
      exact ih (k + 1) _ (by omega) (y_l1 rfl rfl l0) (y_l1 rfl rfl l1) y_l0
theorem yd_bn {L : Nat} {xs : Nat → Int32} {d : Nat} {σ : iv_H} {D : Nat → Value} {f : Nat → Int64} {v : Int64} {nn : Nat} (hn : nn ≤ 7) (g : iv_get σ 20 = some (yob 3 16 D)) (ga : iv_get σ 22 = some (yaj 7 f)) (dc : D 1 = .int (Int32.ofNat nn)) (da : D 9 = .ref 22) : iv_Rn L xs d 28 0 (lv_args 0 [.ref 20, .long v]) [] σ (some (.int (yo (yfi f v nn 0)))) σ := by
  refine y_Rp ?_
  refine w_K y28_0 ?_
  refine w_IS y28_1 ?_
  exact yd_bn1 hn g ga dc da nn 0 _ (by omega) rfl rfl rfl
set_option maxRecDepth 100000 in
theorem y29_0 : iv_f1 (iv_p 29) 0 = some (.inl (iv_oK (.int (Int32.ofNat 0)) 1)) := rfl
set_option maxRecDepth 100000 in
theorem y29_1 : iv_f1 (iv_p 29) 1 = some (.inl (iv_oIS 3 1)) := rfl
set_option maxRecDepth 100000 in
theorem y29_2 : iv_f1 (iv_p 29) 2 = some (.inl (iv_oI 3 1)) := rfl
set_option maxRecDepth 100000 in
theorem y29_3 : iv_f1 (iv_p 29) 3 = some (.inl (iv_oA 0 1)) := rfl
set_option maxRecDepth 100000 in
theorem y29_4 : iv_f1 (iv_p 29) 4 = some (.inl (iv_oGF 3 2)) := rfl
set_option maxRecDepth 100000 in
theorem y29_7 : iv_f1 (iv_p 29) 7 = some (.inl (iv_oIc .ge (22))) := rfl
set_option maxRecDepth 100000 in
theorem y29_10 : iv_f1 (iv_p 29) 10 = some (.inl (iv_oA 0 1)) := rfl
set_option maxRecDepth 100000 in
theorem y29_11 : iv_f1 (iv_p 29) 11 = some (.inl (iv_oGF 3 13)) := rfl
set_option maxRecDepth 100000 in
theorem y29_14 : iv_f1 (iv_p 29) 14 = some (.inl (iv_oI 3 1)) := rfl
set_option maxRecDepth 100000 in
theorem y29_15 : iv_f1 (iv_p 29) 15 = some (.inl iv_oJl) := rfl
set_option maxRecDepth 100000 in
theorem y29_16 : iv_f1 (iv_p 29) 16 = some (.inl (iv_oJ 1 1)) := rfl
set_option maxRecDepth 100000 in
theorem y29_17 : iv_f1 (iv_p 29) 17 = some (.inl iv_oCmp) := rfl
set_option maxRecDepth 100000 in
theorem y29_18 : iv_f1 (iv_p 29) 18 = some (.inl (iv_oIf .ne (5))) := rfl
set_option maxRecDepth 100000 in
theorem y29_21 : iv_f1 (iv_p 29) 21 = some (.inl (iv_oI 3 1)) := rfl
set_option maxRecDepth 100000 in
theorem y29_22 : iv_f1 (iv_p 29) 22 = some (.inr (.inl 1)) := rfl
set_option maxRecDepth 100000 in
theorem y29_23 : iv_f1 (iv_p 29) 23 = some (.inl (iv_oInc 3 (1))) := rfl
set_option maxRecDepth 100000 in
theorem y29_26 : iv_f1 (iv_p 29) 26 = some (.inl (iv_oGo (-24))) := rfl
set_option maxRecDepth 100000 in
theorem y29_29 : iv_f1 (iv_p 29) 29 = some (.inl (iv_oK (.int (Int32.ofInt (-1))) 1)) := rfl
set_option maxRecDepth 100000 in
theorem y29_30 : iv_f1 (iv_p 29) 30 = some (.inr (.inl 1)) := rfl
theorem yd_gn1 {L : Nat} {xs : Nat → Int32} {d : Nat} {σ : iv_H} {D : Nat → Value} {f : Nat → Int64} {v : Int64} {nn : Nat} (hn : nn ≤ 6) (g : iv_get σ 20 = some (yob 3 16 D)) (ga : iv_get σ 30 = some (yaj 6 f)) (dc : D 2 = .int (Int32.ofNat nn)) (da : D 13 = .ref 30) : ∀ (j k : Nat) (lv : iv_L), k + j = nn → iv_f1 lv 0 = some (.ref 20) → iv_f1 lv 1 = some (.long v) → iv_f1 lv 3 = some (.int (Int32.ofNat k)) → zGo L xs (fun r σ1 => r = some (.int (yo (yfi f v j k))) ∧ σ1 = σ) [] d 29 2 lv [] σ := by
  intro j
  induction j with
  | zero =>
    intro k lv hj l0 l1 l3
    refine w_I y29_2 l3 ?_
    refine w_A y29_3 l0 ?_
    refine y_gf y29_4 g rfl dc ?_
    refine y_icT y29_7 rfl (by omega) (by omega) (by simp only [zch]; omega) ?_
    refine w_K y29_29 ?_
    exact y_ret y29_30 rfl ⟨rfl, rfl⟩
  | succ j ih =>
    intro k lv hj l0 l1 l3
    refine w_I y29_2 l3 ?_
    refine w_A y29_3 l0 ?_
    refine y_gf y29_4 g rfl dc ?_
    refine y_icF y29_7 rfl (by omega) (by omega) (by simp only [zch]; omega) ?_
    refine w_A y29_10 l0 ?_
    refine y_gf y29_11 g rfl da ?_
    refine w_I y29_14 l3 ?_
    refine y_jl y29_15 ga (by omega) (by decide) ?_
    refine w_J y29_16 l1 ?_
    refine w_cmp y29_17 ?_
    by_cases e145 : (f k) = v
    · skip
      refine w_ifF y29_18 rfl (lg_eq e145) ?_
      refine w_I y29_21 l3 ?_
      exact y_ret y29_22 rfl ⟨by rw [show yfi f v (j + 1) k = some k from if_pos e145]; rfl, rfl⟩
    · skip
      refine w_ifT y29_18 rfl (lg_ne e145) ?_
      refine w_inc y29_23 (x := k) l3 ?_
      refine w_go y29_26 rfl ?_
      rw [show yfi f v (j + 1) k = yfi f v j (k + 1) from if_neg e145]
      exact ih (k + 1) _ (by omega) (y_l1 rfl rfl l0) (y_l1 rfl rfl l1) y_l0
theorem yd_gn {L : Nat} {xs : Nat → Int32} {d : Nat} {σ : iv_H} {D : Nat → Value} {f : Nat → Int64} {v : Int64} {nn : Nat} (hn : nn ≤ 6) (g : iv_get σ 20 = some (yob 3 16 D)) (ga : iv_get σ 30 = some (yaj 6 f)) (dc : D 2 = .int (Int32.ofNat nn)) (da : D 13 = .ref 30) : iv_Rn L xs d 29 0 (lv_args 0 [.ref 20, .long v]) [] σ (some (.int (yo (yfi f v nn 0)))) σ := by
  refine y_Rp ?_
  refine w_K y29_0 ?_
  refine w_IS y29_1 ?_
  exact yd_gn1 hn g ga dc da nn 0 _ (by omega) rfl rfl rfl
set_option maxRecDepth 100000 in
theorem y38_0 : iv_f1 (iv_p 38) 0 = some (.inl (iv_oK (.int (Int32.ofNat 0)) 1)) := rfl
set_option maxRecDepth 100000 in
theorem y38_1 : iv_f1 (iv_p 38) 1 = some (.inl (iv_oIS 2 1)) := rfl
set_option maxRecDepth 100000 in
theorem y38_2 : iv_f1 (iv_p 38) 2 = some (.inl (iv_oI 2 1)) := rfl
set_option maxRecDepth 100000 in
theorem y38_3 : iv_f1 (iv_p 38) 3 = some (.inl (iv_oA 0 1)) := rfl
set_option maxRecDepth 100000 in
theorem y38_4 : iv_f1 (iv_p 38) 4 = some (.inl (iv_oGF 3 1)) := rfl
set_option maxRecDepth 100000 in
theorem y38_7 : iv_f1 (iv_p 38) 7 = some (.inl (iv_oIc .ge (21))) := rfl
set_option maxRecDepth 100000 in
theorem y38_10 : iv_f1 (iv_p 38) 10 = some (.inl (iv_oA 0 1)) := rfl
set_option maxRecDepth 100000 in
theorem y38_11 : iv_f1 (iv_p 38) 11 = some (.inl (iv_oGF 3 12)) := rfl
set_option maxRecDepth 100000 in
theorem y38_14 : iv_f1 (iv_p 38) 14 = some (.inl (iv_oI 2 1)) := rfl
set_option maxRecDepth 100000 in
theorem y38_15 : iv_f1 (iv_p 38) 15 = some (.inl iv_oIl) := rfl
set_option maxRecDepth 100000 in
theorem y38_16 : iv_f1 (iv_p 38) 16 = some (.inl (iv_oI 1 1)) := rfl
set_option maxRecDepth 100000 in
theorem y38_17 : iv_f1 (iv_p 38) 17 = some (.inl (iv_oIc .ne (5))) := rfl
set_option maxRecDepth 100000 in
theorem y38_20 : iv_f1 (iv_p 38) 20 = some (.inl (iv_oK (.int (Int32.ofNat 1)) 1)) := rfl
set_option maxRecDepth 100000 in
theorem y38_21 : iv_f1 (iv_p 38) 21 = some (.inr (.inl 2)) := rfl
set_option maxRecDepth 100000 in
theorem y38_22 : iv_f1 (iv_p 38) 22 = some (.inl (iv_oInc 2 (1))) := rfl
set_option maxRecDepth 100000 in
theorem y38_25 : iv_f1 (iv_p 38) 25 = some (.inl (iv_oGo (-23))) := rfl
set_option maxRecDepth 100000 in
theorem y38_28 : iv_f1 (iv_p 38) 28 = some (.inl (iv_oK (.int (Int32.ofNat 0)) 1)) := rfl
set_option maxRecDepth 100000 in
theorem y38_29 : iv_f1 (iv_p 38) 29 = some (.inr (.inl 2)) := rfl
theorem yd_hd1 {L : Nat} {xs : Nat → Int32} {d : Nat} {σ : iv_H} {D : Nat → Value} {hl rd : Nat → Int32} {nb gg : Nat} (hn : nb ≤ 7) (hH : ∀ b, b < 7 → hl b = rd (19 + b)) (g : iv_get σ 20 = some (yob 3 16 D)) (ga : iv_get σ 28 = some (yai 7 hl)) (d1 : D 1 = .int (Int32.ofNat nb)) (d12 : D 12 = .ref 28) : ∀ (j k : Nat) (lv : iv_L), k + j = nb → iv_f1 lv 0 = some (.ref 20) → iv_f1 lv 1 = some (.int (Int32.ofNat gg)) → iv_f1 lv 2 = some (.int (Int32.ofNat k)) → zGo L xs (fun r σ1 => r = some (.int (yb (yHeld rd gg j k))) ∧ σ1 = σ) [] d 38 2 lv [] σ := by
  intro j
  induction j with
  | zero =>
    intro k lv hj l0 l1 l2
    refine w_I y38_2 l2 ?_
    refine w_A y38_3 l0 ?_
    refine y_gf y38_4 g rfl d1 ?_
    refine y_icT y38_7 rfl (by omega) (by omega) (by simp only [zch]; omega) ?_
    refine w_K y38_28 ?_
    exact y_ret y38_29 rfl ⟨rfl, rfl⟩
  | succ j ih =>
    intro k lv hj l0 l1 l2
    refine w_I y38_2 l2 ?_
    refine w_A y38_3 l0 ?_
    refine y_gf y38_4 g rfl d1 ?_
    refine y_icF y38_7 rfl (by omega) (by omega) (by simp only [zch]; omega) ?_
    refine w_A y38_10 l0 ?_
    refine y_gf y38_11 g rfl d12 ?_
    refine w_I y38_14 l2 ?_
    refine y_ilE y38_15 ga rfl rfl (by omega) (by decide) (hH k (by omega)) ?_
    refine w_I y38_16 l1 ?_
    by_cases e146 : (rd (19 + k)) = Int32.ofNat gg
    · skip
      refine w_icF y38_17 rfl (decide_eq_false (fun h => h e146)) ?_
      refine w_K y38_20 ?_
      exact y_ret y38_21 rfl ⟨by rw [show yHeld rd gg (j + 1) k = true from if_pos e146]; rfl, rfl⟩
    · skip
      refine w_icT y38_17 rfl (decide_eq_true e146) ?_
      refine w_inc y38_22 (x := k) l2 ?_
      refine w_go y38_25 rfl ?_
      rw [show yHeld rd gg (j + 1) k = yHeld rd gg j (k + 1) from if_neg e146]
      exact ih (k + 1) _ (by omega) (y_l1 rfl rfl l0) (y_l1 rfl rfl l1) y_l0
theorem yd_hd {L : Nat} {xs : Nat → Int32} {d : Nat} {σ : iv_H} {D : Nat → Value} {hl rd : Nat → Int32} {nb gg : Nat} (hn : nb ≤ 7) (hH : ∀ b, b < 7 → hl b = rd (19 + b)) (g : iv_get σ 20 = some (yob 3 16 D)) (ga : iv_get σ 28 = some (yai 7 hl)) (d1 : D 1 = .int (Int32.ofNat nb)) (d12 : D 12 = .ref 28) : iv_Rn L xs d 38 0 (lv_args 0 [.ref 20, .int (Int32.ofNat gg)]) [] σ (some (.int (yb (yHeld rd gg nb 0)))) σ := by
  refine y_Rp ?_
  refine w_K y38_0 ?_
  refine w_IS y38_1 ?_
  exact yd_hd1 hn hH g ga d1 d12 nb 0 _ (by omega) rfl rfl rfl
set_option maxRecDepth 100000 in
theorem y24_0 : iv_f1 (iv_p 24) 0 = some (.inl (iv_oA 0 1)) := rfl
set_option maxRecDepth 100000 in
theorem y24_1 : iv_f1 (iv_p 24) 1 = some (.inl (iv_oK (.int (Int32.ofNat 0)) 1)) := rfl
set_option maxRecDepth 100000 in
theorem y24_2 : iv_f1 (iv_p 24) 2 = some (.inl (iv_oPF 3 0 .int)) := rfl
set_option maxRecDepth 100000 in
theorem y24_5 : iv_f1 (iv_p 24) 5 = some (.inl (iv_oA 0 1)) := rfl
set_option maxRecDepth 100000 in
theorem y24_6 : iv_f1 (iv_p 24) 6 = some (.inl (iv_oK (.int (Int32.ofNat 0)) 1)) := rfl
set_option maxRecDepth 100000 in
theorem y24_7 : iv_f1 (iv_p 24) 7 = some (.inl (iv_oPF 3 1 .int)) := rfl
set_option maxRecDepth 100000 in
theorem y24_10 : iv_f1 (iv_p 24) 10 = some (.inl (iv_oA 0 1)) := rfl
set_option maxRecDepth 100000 in
theorem y24_11 : iv_f1 (iv_p 24) 11 = some (.inl (iv_oK (.int (Int32.ofNat 0)) 1)) := rfl
set_option maxRecDepth 100000 in
theorem y24_12 : iv_f1 (iv_p 24) 12 = some (.inl (iv_oPF 3 2 .int)) := rfl
set_option maxRecDepth 100000 in
theorem y24_15 : iv_f1 (iv_p 24) 15 = some (.inl (iv_oA 0 1)) := rfl
set_option maxRecDepth 100000 in
theorem y24_16 : iv_f1 (iv_p 24) 16 = some (.inl (iv_oK (.int (Int32.ofNat 3)) 1)) := rfl
set_option maxRecDepth 100000 in
theorem y24_17 : iv_f1 (iv_p 24) 17 = some (.inl (iv_oPF 3 3 .int)) := rfl
set_option maxRecDepth 100000 in
theorem y24_20 : iv_f1 (iv_p 24) 20 = some (.inl (iv_oA 0 1)) := rfl
set_option maxRecDepth 100000 in
theorem y24_21 : iv_f1 (iv_p 24) 21 = some (.inl (iv_oK (.int (Int32.ofNat 1)) 1)) := rfl
set_option maxRecDepth 100000 in
theorem y24_22 : iv_f1 (iv_p 24) 22 = some (.inl (iv_oPF 3 4 .int)) := rfl
set_option maxRecDepth 100000 in
theorem y24_25 : iv_f1 (iv_p 24) 25 = some (.inl (iv_oA 0 1)) := rfl
set_option maxRecDepth 100000 in
theorem y24_26 : iv_f1 (iv_p 24) 26 = some (.inl (iv_oK (.int (Int32.ofNat 0)) 1)) := rfl
set_option maxRecDepth 100000 in
theorem y24_27 : iv_f1 (iv_p 24) 27 = some (.inl (iv_oPF 3 5 .int)) := rfl
set_option maxRecDepth 100000 in
theorem y24_30 : iv_f1 (iv_p 24) 30 = some (.inl (iv_oA 0 1)) := rfl
set_option maxRecDepth 100000 in
theorem y24_31 : iv_f1 (iv_p 24) 31 = some (.inl (iv_oK (.int (Int32.ofNat 0)) 1)) := rfl
set_option maxRecDepth 100000 in
theorem y24_32 : iv_f1 (iv_p 24) 32 = some (.inl (iv_oPF 3 6 .boolean)) := rfl
set_option maxRecDepth 100000 in
theorem y24_35 : iv_f1 (iv_p 24) 35 = some (.inl (iv_oA 0 1)) := rfl
set_option maxRecDepth 100000 in
theorem y24_36 : iv_f1 (iv_p 24) 36 = some (.inl (iv_oK (.int (Int32.ofNat 0)) 1)) := rfl
set_option maxRecDepth 100000 in
theorem y24_37 : iv_f1 (iv_p 24) 37 = some (.inl (iv_oPF 3 7 .boolean)) := rfl
set_option maxRecDepth 100000 in
theorem y24_40 : iv_f1 (iv_p 24) 40 = some (.inl (iv_oA 0 1)) := rfl
set_option maxRecDepth 100000 in
theorem y24_41 : iv_f1 (iv_p 24) 41 = some (.inl (iv_oK (.int (Int32.ofNat 0)) 1)) := rfl
set_option maxRecDepth 100000 in
theorem y24_42 : iv_f1 (iv_p 24) 42 = some (.inl (iv_oPF 3 8 .boolean)) := rfl
set_option maxRecDepth 100000 in
theorem y24_45 : iv_f1 (iv_p 24) 45 = some (.inl (iv_oA 0 1)) := rfl
set_option maxRecDepth 100000 in
theorem y24_46 : iv_f1 (iv_p 24) 46 = some (.inl (iv_oGF 3 12)) := rfl
set_option maxRecDepth 100000 in
theorem y24_49 : iv_f1 (iv_p 24) 49 = some (.inl (iv_oK (.int (Int32.ofInt (-1))) 1)) := rfl
set_option maxRecDepth 100000 in
theorem y24_50 : iv_f1 (iv_p 24) 50 = some (.inr (.inr (4, 284, 2, 0))) := rfl
set_option maxRecDepth 100000 in
theorem y24_53 : iv_f1 (iv_p 24) 53 = some (.inr (.inl 0)) := rfl
theorem yd_clear {L : Nat} {xs : Nat → Int32} {d : Nat} {σ : iv_H} {D : Nat → Value} (hd : 1 ≤ d) (hD : yCc D σ) (rd : Nat → Int32) (rn : Nat → Int64) (on : Nat → Int32) (r2 : rd 2 = Int32.ofNat 3) (r3 : rd 3 = Int32.ofNat 1) (r4 : rd 4 = Int32.ofNat 0) (r19 : ∀ b, b < 7 → rd (19 + b) = Int32.ofInt (-1)) (ro : ∀ k, k < 3 → on k = Int32.ofNat 0) : ∃ σ1, iv_Rn L xs d 24 0 (lv_args 0 [.ref 20]) [] σ none σ1 ∧ ∃ D1, yCD (rd, rn, on) 0 0 0 D1 σ1 ∧ yFr [20, 28] σ σ1 := by
  obtain ⟨d, rfl⟩ : ∃ e, d = e + 1 := ⟨d - 1, by omega⟩
  obtain ⟨bn, bl, hd_, hl, gn, te, ed, ⟨g20, g22, g24, g26, g28, g30, g32, g34⟩, ⟨d9, d10, d11, d12, d13, d14, d15⟩⟩ := hD
  refine y_R0 ?_
  refine w_A y24_0 rfl ?_
  refine w_K y24_1 ?_
  refine y_pf y24_2 g20 rfl rfl ?_
  intro σ148 h147
  refine w_A y24_5 rfl ?_
  refine w_K y24_6 ?_
  refine y_pf y24_7 h147.2.1 rfl rfl ?_
  intro σ150 h149
  refine w_A y24_10 rfl ?_
  refine w_K y24_11 ?_
  refine y_pf y24_12 h149.2.1 rfl rfl ?_
  intro σ152 h151
  refine w_A y24_15 rfl ?_
  refine w_K y24_16 ?_
  refine y_pf y24_17 h151.2.1 rfl rfl ?_
  intro σ154 h153
  refine w_A y24_20 rfl ?_
  refine w_K y24_21 ?_
  refine y_pf y24_22 h153.2.1 rfl rfl ?_
  intro σ156 h155
  refine w_A y24_25 rfl ?_
  refine w_K y24_26 ?_
  refine y_pf y24_27 h155.2.1 rfl rfl ?_
  intro σ158 h157
  refine w_A y24_30 rfl ?_
  refine w_K y24_31 ?_
  refine y_pf y24_32 h157.2.1 rfl rfl ?_
  intro σ160 h159
  refine w_A y24_35 rfl ?_
  refine w_K y24_36 ?_
  refine y_pf y24_37 h159.2.1 rfl rfl ?_
  intro σ162 h161
  refine w_A y24_40 rfl ?_
  refine w_K y24_41 ?_
  refine y_pf y24_42 h161.2.1 rfl rfl ?_
  intro σ164 h163
  refine w_A y24_45 rfl ?_
  refine y_gf y24_46 h163.2.1 rfl d12 ?_
  refine w_K y24_49 ?_
  have g166 := (mD_n h163 (by decide) (mD_n h161 (by decide) (mD_n h159 (by decide) (mD_n h157 (by decide) (mD_n h155 (by decide) (mD_n h153 (by decide) (mD_n h151 (by decide) (mD_n h149 (by decide) (mD_n h147 (by decide) g28)))))))))
  obtain ⟨σ165, r165, f165, g165, e165, fr165⟩ := yd_fill (L := L) (xs := xs) (d := d) (x := Int32.ofInt (-1)) g166
  refine y_call0 y24_50 (y_args4 rfl rfl) rfl r165 ?_
  have g167 := (yF_n fr165 (by rfl) h163.2.1)
  have g168 := (yF_n fr165 (by rfl) (mD_n h163 (by decide) (mD_n h161 (by decide) (mD_n h159 (by decide) (mD_n h157 (by decide) (mD_n h155 (by decide) (mD_n h153 (by decide) (mD_n h151 (by decide) (mD_n h149 (by decide) (mD_n h147 (by decide) g22))))))))))
  have g169 := (yF_n fr165 (by rfl) (mD_n h163 (by decide) (mD_n h161 (by decide) (mD_n h159 (by decide) (mD_n h157 (by decide) (mD_n h155 (by decide) (mD_n h153 (by decide) (mD_n h151 (by decide) (mD_n h149 (by decide) (mD_n h147 (by decide) g24))))))))))
  have g170 := (yF_n fr165 (by rfl) (mD_n h163 (by decide) (mD_n h161 (by decide) (mD_n h159 (by decide) (mD_n h157 (by decide) (mD_n h155 (by decide) (mD_n h153 (by decide) (mD_n h151 (by decide) (mD_n h149 (by decide) (mD_n h147 (by decide) g26))))))))))
  have g171 := (yF_n fr165 (by rfl) (mD_n h163 (by decide) (mD_n h161 (by decide) (mD_n h159 (by decide) (mD_n h157 (by decide) (mD_n h155 (by decide) (mD_n h153 (by decide) (mD_n h151 (by decide) (mD_n h149 (by decide) (mD_n h147 (by decide) g30))))))))))
  have g172 := (yF_n fr165 (by rfl) (mD_n h163 (by decide) (mD_n h161 (by decide) (mD_n h159 (by decide) (mD_n h157 (by decide) (mD_n h155 (by decide) (mD_n h153 (by decide) (mD_n h151 (by decide) (mD_n h149 (by decide) (mD_n h147 (by decide) g32))))))))))
  have g173 := (yF_n fr165 (by rfl) (mD_n h163 (by decide) (mD_n h161 (by decide) (mD_n h159 (by decide) (mD_n h157 (by decide) (mD_n h155 (by decide) (mD_n h153 (by decide) (mD_n h151 (by decide) (mD_n h149 (by decide) (mD_n h147 (by decide) g34))))))))))
  exact w_ret0 y24_53 ⟨rfl, _, ⟨bn, bl, hd_, f165, gn, te, ed, ⟨g167, g168, g169, g170, g165, g171, g172, g173⟩, ⟨d9, d10, d11, d12, d13, d14, d15⟩, ⟨rfl, rfl, rfl⟩, ⟨(congrArg Value.int r2).symm, (congrArg Value.int r3).symm, (congrArg Value.int r4).symm, (congrArg Value.int (ro 0 (by decide))).symm, (congrArg Value.int (ro 1 (by decide))).symm, (congrArg Value.int (ro 2 (by decide))).symm⟩, ⟨fun b h => by omega, fun b h => by omega⟩, fun b h => (e165 b h).trans (r19 b h).symm⟩, (yF_tr (yF_D h147 (by rfl)) (yF_tr (yF_D h149 (by rfl)) (yF_tr (yF_D h151 (by rfl)) (yF_tr (yF_D h153 (by rfl)) (yF_tr (yF_D h155 (by rfl)) (yF_tr (yF_D h157 (by rfl)) (yF_tr (yF_D h159 (by rfl)) (yF_tr (yF_D h161 (by rfl)) (yF_tr (yF_D h163 (by rfl)) (yF_sub (by rfl) fr165))))))))))⟩
