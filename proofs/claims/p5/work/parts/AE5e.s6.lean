/-! ===== the class's side of a sentence: its state and one rule for each call ===== -/
set_option maxRecDepth 100000 in
theorem y69_0 : iv_f1 (iv_p 69) 0 = some (.inl (iv_oA 0 1)) := rfl
set_option maxRecDepth 100000 in
theorem y69_1 : iv_f1 (iv_p 69) 1 = some (.inl (iv_oGF 6 1)) := rfl
set_option maxRecDepth 100000 in
theorem y69_4 : iv_f1 (iv_p 69) 4 = some (.inl (iv_oK (.int (Int32.ofNat 40)) 2)) := rfl
set_option maxRecDepth 100000 in
theorem y69_6 : iv_f1 (iv_p 69) 6 = some (.inl (iv_oIc .ge (43))) := rfl
set_option maxRecDepth 100000 in
theorem y69_9 : iv_f1 (iv_p 69) 9 = some (.inl (iv_oA 0 1)) := rfl
set_option maxRecDepth 100000 in
theorem y69_10 : iv_f1 (iv_p 69) 10 = some (.inl (iv_oGF 6 2)) := rfl
set_option maxRecDepth 100000 in
theorem y69_13 : iv_f1 (iv_p 69) 13 = some (.inl (iv_oA 0 1)) := rfl
set_option maxRecDepth 100000 in
theorem y69_14 : iv_f1 (iv_p 69) 14 = some (.inl (iv_oGF 6 1)) := rfl
set_option maxRecDepth 100000 in
theorem y69_17 : iv_f1 (iv_p 69) 17 = some (.inl (iv_oA 1 1)) := rfl
set_option maxRecDepth 100000 in
theorem y69_18 : iv_f1 (iv_p 69) 18 = some (.inl iv_oQst) := rfl
set_option maxRecDepth 100000 in
theorem y69_19 : iv_f1 (iv_p 69) 19 = some (.inl (iv_oA 0 1)) := rfl
set_option maxRecDepth 100000 in
theorem y69_20 : iv_f1 (iv_p 69) 20 = some (.inl (iv_oGF 6 3)) := rfl
set_option maxRecDepth 100000 in
theorem y69_23 : iv_f1 (iv_p 69) 23 = some (.inl (iv_oA 0 1)) := rfl
set_option maxRecDepth 100000 in
theorem y69_24 : iv_f1 (iv_p 69) 24 = some (.inl (iv_oGF 6 1)) := rfl
set_option maxRecDepth 100000 in
theorem y69_27 : iv_f1 (iv_p 69) 27 = some (.inl (iv_oI 2 1)) := rfl
set_option maxRecDepth 100000 in
theorem y69_28 : iv_f1 (iv_p 69) 28 = some (.inl iv_oIst) := rfl
set_option maxRecDepth 100000 in
theorem y69_29 : iv_f1 (iv_p 69) 29 = some (.inl (iv_oA 0 1)) := rfl
set_option maxRecDepth 100000 in
theorem y69_30 : iv_f1 (iv_p 69) 30 = some (.inl (iv_oGF 6 4)) := rfl
set_option maxRecDepth 100000 in
theorem y69_33 : iv_f1 (iv_p 69) 33 = some (.inl (iv_oA 0 1)) := rfl
set_option maxRecDepth 100000 in
theorem y69_34 : iv_f1 (iv_p 69) 34 = some (.inl (iv_oGF 6 1)) := rfl
set_option maxRecDepth 100000 in
theorem y69_37 : iv_f1 (iv_p 69) 37 = some (.inl (iv_oI 3 1)) := rfl
set_option maxRecDepth 100000 in
theorem y69_38 : iv_f1 (iv_p 69) 38 = some (.inl iv_oIst) := rfl
set_option maxRecDepth 100000 in
theorem y69_39 : iv_f1 (iv_p 69) 39 = some (.inl (iv_oA 0 1)) := rfl
set_option maxRecDepth 100000 in
theorem y69_40 : iv_f1 (iv_p 69) 40 = some (.inl iv_oDup) := rfl
set_option maxRecDepth 100000 in
theorem y69_41 : iv_f1 (iv_p 69) 41 = some (.inl (iv_oGF 6 1)) := rfl
set_option maxRecDepth 100000 in
theorem y69_44 : iv_f1 (iv_p 69) 44 = some (.inl (iv_oK (.int (Int32.ofNat 1)) 1)) := rfl
set_option maxRecDepth 100000 in
theorem y69_45 : iv_f1 (iv_p 69) 45 = some (.inl (iv_oII fun x y => x + y)) := rfl
set_option maxRecDepth 100000 in
theorem y69_46 : iv_f1 (iv_p 69) 46 = some (.inl (iv_oPF 6 1 .int)) := rfl
set_option maxRecDepth 100000 in
theorem y69_49 : iv_f1 (iv_p 69) 49 = some (.inl (iv_oK (.int (Int32.ofNat 1)) 1)) := rfl
set_option maxRecDepth 100000 in
theorem y69_50 : iv_f1 (iv_p 69) 50 = some (.inr (.inl 2)) := rfl
theorem yh_gn1 {L : Nat} {xs : Nat → Int32} {d : Nat} {σ : iv_H} {D : Nat → Value} {f : Nat → Int64} {v : Int64} {nn : Nat} (hn : nn ≤ 6) (g : iv_get σ 4 = some (yob 3 16 D)) (ga : iv_get σ 14 = some (yaj 6 f)) (dc : D 2 = .int (Int32.ofNat nn)) (da : D 13 = .ref 14) : ∀ (j k : Nat) (lv : iv_L), k + j = nn → iv_f1 lv 0 = some (.ref 4) → iv_f1 lv 1 = some (.long v) → iv_f1 lv 3 = some (.int (Int32.ofNat k)) → zGo L xs (fun r σ1 => r = some (.int (yo (yfi f v j k))) ∧ σ1 = σ) [] d 29 2 lv [] σ := by
  intro j
  induction j with
  | zero =>
    intro k lv hj l0 l1 l3
    refine w_I y29_2 l3 ?_
    refine w_A y29_3 l0 ?_
    refine y_gf y29_4 g rfl dc ?_
    refine y_icT y29_7 rfl (by omega) (by omega) (by simp only [zch]; omega) ?_
    refine w_K y29_29 ?_
    exact y_ret y29_30 rfl ⟨rfl, rfl⟩
  | succ j ih =>
    intro k lv hj l0 l1 l3
    refine w_I y29_2 l3 ?_
    refine w_A y29_3 l0 ?_
    refine y_gf y29_4 g rfl dc ?_
    refine y_icF y29_7 rfl (by omega) (by omega) (by simp only [zch]; omega) ?_
    refine w_A y29_10 l0 ?_
    refine y_gf y29_11 g rfl da ?_
    refine w_I y29_14 l3 ?_
    refine y_jl y29_15 ga (by omega) (by decide) ?_
    refine w_J y29_16 l1 ?_
    refine w_cmp y29_17 ?_
    by_cases e145 : (f k) = v
    · skip
      refine w_ifF y29_18 rfl (lg_eq e145) ?_
      refine w_I y29_21 l3 ?_
      exact y_ret y29_22 rfl ⟨by rw [show yfi f v (j + 1) k = some k from if_pos e145]; rfl, rfl⟩
    · skip
      refine w_ifT y29_18 rfl (lg_ne e145) ?_
      refine w_inc y29_23 (x := k) l3 ?_
      refine w_go y29_26 rfl ?_
      rw [show yfi f v (j + 1) k = yfi f v j (k + 1) from if_neg e145]
      exact ih (k + 1) _ (by omega) (y_l1 rfl rfl l0) (y_l1 rfl rfl l1) y_l0
theorem yh_gn {L : Nat} {xs : Nat → Int32} {d : Nat} {σ : iv_H} {D : Nat → Value} {f : Nat → Int64} {v : Int64} {nn : Nat} (hn : nn ≤ 6) (g : iv_get σ 4 = some (yob 3 16 D)) (ga : iv_get σ 14 = some (yaj 6 f)) (dc : D 2 = .int (Int32.ofNat nn)) (da : D 13 = .ref 14) : iv_Rn L xs d 29 0 (lv_args 0 [.ref 4, .long v]) [] σ (some (.int (yo (yfi f v nn 0)))) σ := by
  refine y_Rp ?_
  refine w_K y29_0 ?_
  refine w_IS y29_1 ?_
  exact yh_gn1 hn g ga dc da nn 0 _ (by omega) rfl rfl rfl
def yGo (o : Nat) (σ : iv_H) : Prop := ∃ (S : Nat → Value) (k : Nat) (Q : Nat → Option Nat) (nu sg : Nat → Int32), iv_get σ 104 = some (yob 6 5 S) ∧ (S 0 = .int (Int32.ofNat o) ∧ S 1 = .int (Int32.ofNat k) ∧ k ≤ 40 ∧ S 2 = .ref 106 ∧ S 3 = .ref 108 ∧ S 4 = .ref 110 ∧ ∀ i, i < 40 → ∃ b, Q i = some b ∧ iv_isW b = true) ∧ iv_get σ 106 = some (yaq 40 Q) ∧ iv_get σ 108 = some (yai 40 nu) ∧ iv_get σ 110 = some (yai 40 sg)
def yGr (Nm : Nat → Int64) (ng : Nat) (σ : iv_H) : Prop := ∃ (E : Nat → Value) (gn : Nat → Int64), iv_get σ 4 = some (yob 3 16 E) ∧ (E 2 = .int (Int32.ofNat ng) ∧ E 13 = .ref 14) ∧ iv_get σ 14 = some (yaj 6 gn) ∧ ∀ g, g < ng → yRel (Nm (7 + g)) (gn g)
def yG (T : Nat → Nat) (n m p : Nat) (Nm : Nat → Int64) (ng o : Nat) (σ : iv_H) : Prop := (∃ V, yCM T n m p V σ ∧ V 11 = .int (Int32.ofNat 0)) ∧ yGo o σ ∧ yGr Nm ng σ
def yGB (e : Nat × Nat) (σ : iv_H) : Prop := ∃ V, yCB e V σ
theorem yGo_F {o : Nat} {S : List Nat} {σ σ1 : iv_H} (h : yGo o σ) (f : yFr S σ σ1) (hS : (iv_mem 104 S || (iv_mem 106 S || (iv_mem 108 S || iv_mem 110 S))) = false) : yGo o σ1 := by
  obtain ⟨W, k, Q, nu, sg, g, hv, g2, g3, g4⟩ := h
  simp only [Bool.or_eq_false_iff] at hS
  exact ⟨W, k, Q, nu, sg, yF_n f hS.1 g, hv, yF_n f hS.2.1 g2, yF_n f hS.2.2.1 g3, yF_n f hS.2.2.2 g4⟩
theorem yGr_F {Nm : Nat → Int64} {ng : Nat} {S : List Nat} {σ σ1 : iv_H} (h : yGr Nm ng σ) (f : yFr S σ σ1) (hS : (iv_mem 4 S || iv_mem 14 S) = false) : yGr Nm ng σ1 := by
  obtain ⟨E, gn, g, hv, g2, hr⟩ := h
  rw [Bool.or_eq_false_iff] at hS
  exact ⟨E, gn, yF_n f hS.1 g, hv, yF_n f hS.2 g2, hr⟩
theorem yc_go2 {L : Nat} {xs : Nat → Int32} {d : Nat} {V : Nat → Value} {σ : iv_H} {T : Nat → Nat} {n m p : Nat} (hm : m ≤ 900) (h : yCM T n m p V σ) (hk : 2 ≤ ykd T n m p) : ∃ σ1, iv_Rn L xs d 52 0 (lv_args 0 [.ref 356]) [] σ none σ1 ∧ ∃ V1, yCM T n m (yto T n m p) V1 σ1 ∧ yFr [356] σ σ1 ∧ V1 11 = V 11 ∧ V1 12 = V 12 := by
  obtain ⟨c, k, K, P, X, Q, ⟨⟨hc, hkc, rfl, hpn⟩, ht, hge, k0, p0, q0⟩, ⟨g, gk, gp, gv, gw⟩, ⟨v1, v2, v3, v4, v11⟩, v0, v5, v6, v7, v8, hw9, v10⟩ := h
  have hlt : k < c := by
    by_cases e : k = c
    · subst e
      have := yend_kd (T := T) hge
      omega
    · omega
  obtain ⟨⟨hs1, hs2⟩, _⟩ := ht k hlt
  have hpn2 : ypk T n m (k + 1) ≤ n := by
    show yto T n m (ypk T n m k) ≤ n
    rw [yto_lay hs1 hs2]
    exact (ycl_le hs1).1
  have hq : ∃ wd, Q (k + 1) = some wd := by
    by_cases e : k + 1 = c
    · exact ⟨3, by rw [e]; exact q0⟩
    · obtain ⟨_, _, _, w, h, _⟩ := ht (k + 1) (by omega)
      exact ⟨w, h⟩
  obtain ⟨wd, hq⟩ := hq
  obtain ⟨σ1, r1, V1, g1, a1, x6, x7, x8, x9, x10, f1⟩ := yc_adv (L := L) (xs := xs) (d := d) (c := c + 1) (k := k + 1) (x := Int32.ofNat k) (by omega) (by omega) (Int32.ofNat_add k 1).symm hq g gk gp gv gw v1 v2 v3 v4 v0 v6
  refine ⟨σ1, r1, V1, (show yCMx T n m _ V1 σ1 from ⟨c, k + 1, K, P, X, Q, ⟨⟨hc, by omega, rfl, hpn2⟩, ht, hge, k0, p0, q0⟩, ⟨g1, yF_n f1 (by rfl) gk, yF_n f1 (by rfl) gp, yF_n f1 (by rfl) gv, yF_n f1 (by rfl) gw⟩, ⟨(a1 1 (by rfl)).trans v1, (a1 2 (by rfl)).trans v2, (a1 3 (by rfl)).trans v3, (a1 4 (by rfl)).trans v4, (a1 11 (by rfl)).trans v11⟩, (a1 0 (by rfl)).trans v0, (a1 5 (by rfl)).trans v5, x6, x7, x8, ⟨wd, hq, x9⟩, x10⟩), f1, a1 11 (by rfl), a1 12 (by rfl)⟩
theorem yc_pn2 {L : Nat} {xs : Nat → Int32} {d : Nat} {V : Nat → Value} {σ : iv_H} {T : Nat → Nat} {n m p a b : Nat} (hd : 1 ≤ d) (hm : m ≤ 900) (hT : ∀ i, T i ≤ 255) (ha : a ≤ 1000) (hb : b ≤ 1000) (h : yCM T n m p V σ) : ∃ x σ1 V1, iv_Rn L xs d 58 0 (lv_args 0 [.ref 356, .int (Int32.ofNat a), .int (Int32.ofNat b)]) [] σ (some (.int x)) σ1 ∧ yCN T n m (yNum T n m a b p) x V1 σ1 ∧ yFr [356] σ σ1 ∧ (∀ q, yNum T n m a b p = .inr q → V1 11 = V 11) := by
  obtain ⟨d, rfl⟩ : ∃ e, d = e + 1 := ⟨d - 1, by omega⟩
  have hv := yCM_v hT h
  have g := yCM_g h
  obtain ⟨kc, v, j, ⟨_, c8, _, c10, _⟩, ⟨_, h4⟩, _, _, i2, _, _, _, i6, _, _⟩ := id hv
  refine y_Ri ?_
  refine w_A y58_0 rfl ?_
  refine y_gf y58_1 g rfl c8 ?_
  refine w_K y58_4 ?_
  by_cases hc : kc = 2
  · refine y_icT y58_5 rfl (by omega) (by omega) (by simp only [zch]; omega) ?_
    have k3 := i2.mp hc
    obtain ⟨_, ln⟩ := ykd_num k3
    rw [i6 hc] at c10
    generalize hx : ynN T (ysk T n p) (yln T n p) = x at *
    have bad2 : ¬ (a ≤ x ∧ x ≤ b) → zGo L xs (fun r σ1 => ∃ b1 V1, r = some (.int b1) ∧ yCN T n m (yNum T n m a b p) b1 V1 σ1 ∧ yFr [356] σ σ1 ∧ (∀ q, yNum T n m a b p = .inr q → V1 11 = V 11)) [] (d + 1) 58 36 (lv_args 0 [.ref 356, .int (Int32.ofNat a), .int (Int32.ofNat b)]) [] σ := fun hn => by
      obtain ⟨σ1, r1, V1, h1, f1⟩ := yc_rfE (L := L) (xs := xs) (d := d) (k := 2) hv g (.inl (by omega))
      refine w_A y58_36 rfl ?_
      refine w_K y58_37 ?_
      refine y_call y58_38 (y_args6 g rfl rfl) rfl r1 ?_
      refine y_pop y58_41 rfl ?_
      refine w_K y58_42 ?_
      have sp : yNum T n m a b p = .inl (ybd T n m p 2) := by unfold yNum; rw [if_pos k3, hx, if_neg hn]
      exact y_ret y58_43 rfl ⟨_, V1, rfl, yCN_bad sp h1, f1, fun q hq => by rw [sp] at hq; cases hq⟩
    refine w_A y58_16 rfl ?_
    refine y_gf y58_17 g rfl c10 ?_
    refine w_I y58_20 rfl ?_
    refine y_UI y58_21 ?_
    refine w_cmp y58_22 ?_
    by_cases c1 : x < a
    · refine w_ifT y58_23 rfl (y_ltT (by omega) (by omega) c1) ?_
      exact bad2 (fun h => by omega)
    · refine w_ifF y58_23 rfl (y_ltF (by omega) (by omega) c1) ?_
      refine w_A y58_26 rfl ?_
      refine y_gf y58_27 g rfl c10 ?_
      refine w_I y58_30 rfl ?_
      refine y_UI y58_31 ?_
      refine w_cmp y58_32 ?_
      by_cases c2 : x ≤ b
      · refine w_ifT y58_33 rfl (y_leT (by omega) (by omega) c2) ?_
        refine w_A y58_44 rfl ?_
        refine y_gf y58_45 g rfl c10 ?_
        refine y_l2i y58_48 (by omega) ?_
        refine w_IS y58_49 ?_
        obtain ⟨σ1, r1, V1, h1, f1, e11, _⟩ := yc_go2 (L := L) (xs := xs) (d := d) hm h (by omega)
        refine w_A y58_50 rfl ?_
        refine y_call0 y58_51 (y_args6 g rfl rfl) rfl r1 ?_
        refine w_I y58_54 rfl ?_
        have sp : yNum T n m a b p = .inr (x, yto T n m p) := by unfold yNum; rw [if_pos k3, hx, if_pos ⟨by omega, c2⟩]
        exact y_ret y58_55 rfl ⟨_, V1, rfl, yCN_good sp h1, f1, fun _ _ => e11⟩
      · refine w_ifF y58_33 rfl (y_leF (by omega) (by omega) c2) ?_
        exact bad2 (fun h => by omega)
  · refine y_icF y58_5 rfl (by omega) (by omega) (by simp only [zch]; omega) ?_
    obtain ⟨σ1, r1, V1, h1, f1⟩ := yc_rfE (L := L) (xs := xs) (d := d) (k := 1) hv g (.inr rfl)
    refine w_A y58_8 rfl ?_
    refine w_K y58_9 ?_
    refine y_call y58_10 (y_args6 g rfl rfl) rfl r1 ?_
    refine y_pop y58_13 rfl ?_
    refine w_K y58_14 ?_
    have sp : yNum T n m a b p = .inl (ybd T n m p 1) := by unfold yNum; rw [if_neg (fun h => hc (i2.mpr h))]
    exact y_ret y58_15 rfl ⟨_, V1, rfl, yCN_bad sp h1, f1, fun q hq => by rw [sp] at hq; cases hq⟩
theorem va_upat {f : Nat → Option Nat} {i j : Nat} {x : Option Nat} : va_up f i x j = if j = i then x else f j := rfl
section GG
variable {L : Nat} {xs : Nat → Int32} {Post : Option Value → iv_H → Prop} {d M pc : Nat} {lv : iv_L} {st : List Value} {σ : iv_H} {T : Nat → Nat} {n m p : Nat} {Nm : Nat → Int64} {ng o : Nat}
theorem yG_r (h : yG T n m p Nm ng o σ) : ∃ V, iv_get σ 356 = some (yob 5 13 V) := by
  obtain ⟨⟨V, hC, hV11⟩, _⟩ := h
  exact ⟨V, yCM_g hC⟩
theorem yG_s (h : yG T n m p Nm ng o σ) : ∃ V, iv_get σ 104 = some (yob 6 5 V) := by
  obtain ⟨_, ⟨W, k, Q, nu, sg, g, _⟩, _⟩ := h
  exact ⟨W, g⟩
theorem yG_4 (h : yG T n m p Nm ng o σ) : ∃ V, iv_get σ 4 = some (yob 3 16 V) := by
  obtain ⟨_, _, E, gn, g, _⟩ := h
  exact ⟨E, g⟩
theorem G_go (hm : m ≤ 900) (hf : iv_f1 (iv_p M) pc = some (.inr (.inr (6, 52, 0, 5)))) (hs : Nat.ble (iv_cs st) 8 = true) (h : yG T n m p Nm ng o σ) (hk : 2 ≤ ykd T n m p) (k : ∀ σ1, yG T n m (yto T n m p) Nm ng o σ1 → zGo L xs Post [] (d + 1) M (pc + 3) lv st σ1) : zGo L xs Post [] (d + 1) M pc lv (.ref 356 :: st) σ := by
  obtain ⟨⟨V, hC, hV11⟩, ho, hr⟩ := h
  obtain ⟨σ1, r1, V1, h1, f1, e11, _⟩ := yc_go2 (L := L) (xs := xs) (d := d) hm hC hk
  exact y_call0 hf (y_args6 (yCM_g hC) rfl hs) rfl r1 (k σ1 ⟨⟨V1, h1, e11.trans hV11⟩, yGo_F ho f1 rfl, yGr_F hr f1 rfl⟩)
theorem yc_mkE {V : Nat → Value} {c : Nat} (hT : ∀ i, T i ≤ 255) (hc : c ≤ 255) (hC : yCM T n m p V σ) : iv_Rn L xs d 55 0 (lv_args 0 [.ref 356, .int (Int32.ofNat c)]) [] σ (some (.int (yb (yMk T n m p c)))) σ := by
  have hv := yCM_v hT hC
  obtain ⟨kc, v, j, ⟨_, c8, _, c10, _⟩, ⟨_, h4⟩, _, _, _, i3, _, _, _, i7, _⟩ := id hv
  have r := yc_mk (L := L) (xs := xs) (d := d) (kd := kc) (c := c) (v := v) (by omega) (yCM_g hC) c8 c10
  have e : decide (kc = 3 ∧ v = (Int32.ofNat c).toInt64) = yMk T n m p c := by
    unfold yMk
    by_cases hk : kc = 3
    · have k4 := i3.mp hk
      have e := i7 hk
      have hb := hT (ysk T n p)
      have q : (v = (Int32.ofNat c).toInt64) ↔ T (ysk T n p) = c := by
        rw [e, y_i64 (by omega)]
        constructor
        · intro h
          exact y64_inj (by omega) (by omega) h
        · intro h
          rw [h]
      by_cases hc2 : T (ysk T n p) = c
      · rw [decide_eq_true (show kc = 3 ∧ v = (Int32.ofNat c).toInt64 from ⟨hk, q.mpr hc2⟩), decide_eq_true (show ykd T n m p = 4 ∧ T (ysk T n p) = c from ⟨k4, hc2⟩)]
      · rw [decide_eq_false (show ¬ (kc = 3 ∧ v = (Int32.ofNat c).toInt64) from fun h => hc2 (q.mp h.2)), decide_eq_false (show ¬ (ykd T n m p = 4 ∧ T (ysk T n p) = c) from fun h => hc2 h.2)]
    · rw [decide_eq_false (show ¬ (kc = 3 ∧ v = (Int32.ofNat c).toInt64) from fun h => hk h.1), decide_eq_false (show ¬ (ykd T n m p = 4 ∧ T (ysk T n p) = c) from fun h => hk (i3.mpr h.1))]
  rw [e] at r
  exact r
theorem G_mk {c : Nat} (hT : ∀ i, T i ≤ 255) (hc : c ≤ 255) (hf : iv_f1 (iv_p M) pc = some (.inr (.inr (6, 55, 1, 5)))) (hs : Nat.ble (iv_cs st) 8 = true) (h : yG T n m p Nm ng o σ) (k : zGo L xs Post [] (d + 1) M (pc + 3) lv (.int (yb (yMk T n m p c)) :: st) σ) : zGo L xs Post [] (d + 1) M pc lv (.int (Int32.ofNat c) :: .ref 356 :: st) σ := by
  obtain ⟨⟨V, hC, hV11⟩, _⟩ := h
  exact y_call hf (y_args6 (yCM_g hC) rfl hs) rfl (yc_mkE (L := L) (xs := xs) (d := d) hT hc hC) k
theorem G_ref {i : Nat} (hT : ∀ i, T i ≤ 255) (hf : iv_f1 (iv_p M) pc = some (.inr (.inr (6, 56, 1, 5)))) (hs : Nat.ble (iv_cs st) 8 = true) (h : yG T n m p Nm ng o σ) (hk : ¬ ykd T n m p = 1 ∨ i = 1) (k : ∀ σ1, yGB (ybd T n m p i) σ1 → zGo L xs Post [] (d + 1) M (pc + 3) lv (.int (yb false) :: st) σ1) : zGo L xs Post [] (d + 1) M pc lv (.int (Int32.ofNat i) :: .ref 356 :: st) σ := by
  obtain ⟨⟨V, hC, hV11⟩, _⟩ := h
  obtain ⟨σ1, r1, V1, h1, _⟩ := yc_rfE (L := L) (xs := xs) (d := d) (k := i) (yCM_v hT hC) (yCM_g hC) hk
  exact y_call hf (y_args6 (yCM_g hC) rfl hs) rfl r1 (k σ1 ⟨V1, h1⟩)
theorem G_nm (hT : ∀ i, T i ≤ 255) (hf : iv_f1 (iv_p M) pc = some (.inr (.inr (6, 54, 0, 5)))) (hs : Nat.ble (iv_cs st) 8 = true) (h : yG T n m p Nm ng o σ) (k : zGo L xs Post [] (d + 1) M (pc + 3) lv (.int (yb (yisN T n m p)) :: st) σ) : zGo L xs Post [] (d + 1) M pc lv (.ref 356 :: st) σ := by
  obtain ⟨⟨V, hC, hV11⟩, _⟩ := h
  exact y_call hf (y_args6 (yCM_g hC) rfl hs) rfl (yc_nmE (L := L) (xs := xs) (d := d) (yCM_v hT hC) (yCM_g hC)) k
theorem G_ov (hT : ∀ i, T i ≤ 255) (hf : iv_f1 (iv_p M) pc = some (.inr (.inr (6, 53, 0, 5)))) (hs : Nat.ble (iv_cs st) 8 = true) (h : yG T n m p Nm ng o σ) (k : zGo L xs Post [] (d + 1) M (pc + 3) lv (.int (yb (decide (ykd T n m p = 0))) :: st) σ) : zGo L xs Post [] (d + 1) M pc lv (.ref 356 :: st) σ := by
  obtain ⟨⟨V, hC, hV11⟩, _⟩ := h
  exact y_call hf (y_args6 (yCM_g hC) rfl hs) rfl (yc_ovE (L := L) (xs := xs) (d := d) (yCM_v hT hC) (yCM_g hC)) k
theorem G_num {a b : Nat} (ha : a ≤ 1000) (hb : b ≤ 1000) (hm : m ≤ 900) (hT : ∀ i, T i ≤ 255) (hf : iv_f1 (iv_p M) pc = some (.inr (.inr (6, 58, 2, 5)))) (hs : Nat.ble (iv_cs st) 8 = true) (h : yG T n m p Nm ng o σ) (kb : ∀ e σ1, yNum T n m a b p = .inl e → yGB e σ1 → zGo L xs Post [] (d + 2) M (pc + 3) lv (.int (Int32.ofInt (-1)) :: st) σ1) (kg : ∀ q σ1, yNum T n m a b p = .inr q → yG T n m q.2 Nm ng o σ1 → zGo L xs Post [] (d + 2) M (pc + 3) lv (.int (Int32.ofNat q.1) :: st) σ1) : zGo L xs Post [] (d + 2) M pc lv (.int (Int32.ofNat b) :: .int (Int32.ofNat a) :: .ref 356 :: st) σ := by
  obtain ⟨⟨V, hC, hV11⟩, ho, hr⟩ := h
  obtain ⟨x, σ1, V1, r1, o1, f1, e11⟩ := yc_pn2 (L := L) (xs := xs) (d := d + 1) (a := a) (b := b) (by omega) hm hT ha hb hC
  refine y_call hf (y_args6 (yCM_g hC) rfl hs) rfl r1 ?_
  cases hq : yNum T n m a b p with
  | inl e =>
    rw [hq] at o1
    obtain ⟨rfl, h2⟩ := (show x = Int32.ofInt (-1) ∧ yCB e V1 σ1 from o1)
    exact kb e σ1 hq ⟨V1, h2⟩
  | inr q =>
    rw [hq] at o1
    obtain ⟨rfl, h2⟩ := (show x = Int32.ofNat q.1 ∧ yCM T n m q.2 V1 σ1 from o1)
    exact kg q σ1 hq ⟨⟨V1, h2, (e11 q hq).trans hV11⟩, yGo_F ho f1 rfl, yGr_F hr f1 rfl⟩
theorem G_w (hT : ∀ i, T i ≤ 255) (hf : iv_f1 (iv_p M) pc = some (.inl (iv_oGF 5 9))) (h : yG T n m p Nm ng o σ) (k : ∀ j, yWd T n m p j → zGo L xs Post [] d M (pc + 3) lv (.ref (2 * j + 3) :: st) σ) : zGo L xs Post [] d M pc lv (.ref 356 :: st) σ := by
  obtain ⟨⟨V, hC, hV11⟩, _⟩ := h
  obtain ⟨j, c9, hj⟩ := yCv_wd (yCM_v hT hC)
  exact y_gf hf (yCM_g hC) rfl c9 (k j hj)
theorem G_g0 (hf : iv_f1 (iv_p M) pc = some (.inl (iv_oGF 6 0))) (h : yG T n m p Nm ng o σ) (k : zGo L xs Post [] d M (pc + 3) lv (.int (Int32.ofNat o) :: st) σ) : zGo L xs Post [] d M pc lv (.ref 104 :: st) σ := by
  obtain ⟨_, ⟨W, k2, Q, nu, sg, g, ⟨s0, _⟩, _⟩, _⟩ := h
  exact y_gf hf g rfl s0 k
theorem G_p0 {o2 : Nat} (hf : iv_f1 (iv_p M) pc = some (.inl (iv_oPF 6 0 .int))) (h : yG T n m p Nm ng o σ) (k : ∀ σ1, yG T n m p Nm ng o2 σ1 → zGo L xs Post [] d M (pc + 3) lv st σ1) : zGo L xs Post [] d M pc lv (.int (Int32.ofNat o2) :: .ref 104 :: st) σ := by
  obtain ⟨⟨V, hC, hV11⟩, ⟨W, k2, Q, nu, sg, g, ⟨s0, s1, s2, s3, s4, s5, s6⟩, g2, g3, g4⟩, hr⟩ := h
  refine y_pf hf g rfl rfl (fun σ1 m1 => ?_)
  have f1 : yFr [104] σ σ1 := yF_D m1 rfl
  exact k σ1 ⟨⟨V, yCM_fr hC f1 rfl, hV11⟩, ⟨_, k2, Q, nu, sg, m1.2.1, ⟨rfl, s1, s2, s3, s4, s5, s6⟩, mD_n m1 (by decide) g2, mD_n m1 (by decide) g3, mD_n m1 (by decide) g4⟩, yGr_F hr f1 rfl⟩
theorem yg_add {j : Nat} {a b : Int32} (hj : j < 28) (h : yG T n m p Nm ng o σ) : ∃ σ1, iv_Rn L xs d 69 0 (lv_args 0 [.ref 104, .ref (2 * j + 3), .int a, .int b]) [] σ (some (.int (yb true))) σ1 ∧ yG T n m p Nm ng o σ1 := by
  obtain ⟨⟨V, hC, hV11⟩, ⟨W, k, Q, nu, sg, g, ⟨s0, s1, s2, s3, s4, s5, s6⟩, g2, g3, g4⟩, hr⟩ := h
  refine y_Rn ?_
  refine w_A y69_0 rfl ?_
  refine y_gf y69_1 g rfl s1 ?_
  refine w_K y69_4 ?_
  by_cases c : 40 ≤ k
  · refine y_icT y69_6 rfl (by omega) (by omega) (by simp only [zch]; omega) ?_
    refine w_K y69_49 ?_
    exact y_ret (v := .int (yb true)) y69_50 y_rtb ⟨rfl, ⟨V, hC, hV11⟩, ⟨W, k, Q, nu, sg, g, ⟨s0, s1, s2, s3, s4, s5, s6⟩, g2, g3, g4⟩, hr⟩
  · refine y_icF y69_6 rfl (by omega) (by omega) (by simp only [zch]; omega) ?_
    refine w_A y69_9 rfl ?_
    refine y_gf y69_10 g rfl s3 ?_
    refine w_A y69_13 rfl ?_
    refine y_gf y69_14 g rfl s1 ?_
    refine w_A y69_17 rfl ?_
    refine y_qst y69_18 g2 (by omega) (by decide) (s_isW hj) (fun σ1 m1 => ?_)
    have g1 := mD_n m1 (by decide) g
    refine w_A y69_19 rfl ?_
    refine y_gf y69_20 g1 rfl s4 ?_
    refine w_A y69_23 rfl ?_
    refine y_gf y69_24 g1 rfl s1 ?_
    refine w_I y69_27 rfl ?_
    refine y_ist y69_28 (mD_n m1 (by decide) g3) (by omega) (by decide) (fun σ2 m2 => ?_)
    have g12 := mD_n m2 (by decide) g1
    refine w_A y69_29 rfl ?_
    refine y_gf y69_30 g12 rfl s5 ?_
    refine w_A y69_33 rfl ?_
    refine y_gf y69_34 g12 rfl s1 ?_
    refine w_I y69_37 rfl ?_
    refine y_ist y69_38 (mD_n m2 (by decide) (mD_n m1 (by decide) g4)) (by omega) (by decide) (fun σ3 m3 => ?_)
    have g13 := mD_n m3 (by decide) g12
    refine w_A y69_39 rfl ?_
    refine y_dup y69_40 rfl ?_
    refine y_gf y69_41 g13 rfl s1 ?_
    refine w_K y69_44 ?_
    refine w_add y69_45 ?_
    refine y_pf y69_46 g13 rfl rfl (fun σ4 m4 => ?_)
    refine w_K y69_49 ?_
    have f1 : yFr [104, 106, 108, 110] σ σ4 := yF_tr (yF_D m1 rfl) (yF_tr (yF_D m2 rfl) (yF_tr (yF_D m3 rfl) (yF_D m4 rfl)))
    exact y_ret (v := .int (yb true)) y69_50 y_rtb ⟨rfl, ⟨V, yCM_fr hC f1 rfl, hV11⟩, ⟨_, k + 1, _, _, _, m4.2.1, ⟨s0, rfl, by omega, s3, s4, s5, fun i hi => by
      by_cases e : i = k
      · exact ⟨2 * j + 3, by rw [va_upat, if_pos e], s_isW hj⟩
      · obtain ⟨b2, e1, e2⟩ := s6 i hi
        exact ⟨b2, by rw [va_upat, if_neg e]; exact e1, e2⟩⟩, mD_n m4 (by decide) (mD_n m3 (by decide) (mD_n m2 (by decide) m1.2.1)), mD_n m4 (by decide) (mD_n m3 (by decide) m2.2.1), mD_n m4 (by decide) m3.2.1⟩, yGr_F hr f1 rfl⟩
theorem G_add {j : Nat} {a b : Int32} (hj : j < 28) (hf : iv_f1 (iv_p M) pc = some (.inr (.inr (6, 69, 3, 6)))) (hs : Nat.ble (iv_cs st) 8 = true) (h : yG T n m p Nm ng o σ) (k : ∀ σ1, yG T n m p Nm ng o σ1 → zGo L xs Post [] (d + 1) M (pc + 3) lv (.int (yb true) :: st) σ1) : zGo L xs Post [] (d + 1) M pc lv (.int b :: .int a :: .ref (2 * j + 3) :: .ref 104 :: st) σ := by
  obtain ⟨σ1, r1, h1⟩ := yg_add (L := L) (xs := xs) (d := d) (a := a) (b := b) hj h
  obtain ⟨V, g⟩ := yG_s h
  exact y_call hf (y_args6 g rfl hs) rfl r1 (k σ1 h1)
/-- a grater's name, not passed -/
theorem yg_gat (hT : ∀ i, T i ≤ 255) (hg : ng ≤ 6) (h : yG T n m p Nm ng o σ) : ∃ x σ1, iv_Rn L xs (d + 2) 31 0 (lv_args 0 [.ref 4, .ref 356]) [] σ (some (.int x)) σ1 ∧ (match yNmd T n m Nm 7 ng p with
    | .inl e => x = Int32.ofInt (-1) ∧ yGB e σ1
    | .inr i => x = Int32.ofNat i ∧ yG T n m p Nm ng o σ1) := by
  refine y_RnE ?_
  obtain ⟨V, gV⟩ := yG_r h
  obtain ⟨⟨V1, hC, hV11⟩, ho, E, gn, g4, ⟨e2, e13⟩, g14, hrel⟩ := id h
  obtain ⟨v, c10, hv⟩ := yCv_val (yCM_v hT hC)
  have g356 := yCM_g hC
  have fail : ∀ (lv : iv_L) (i : Nat), iv_f1 lv 0 = some (.ref 4) → iv_f1 lv 1 = some (.ref 356) → iv_f1 lv 2 = some (.int (Int32.ofInt (-1))) → yNmd T n m Nm 7 ng p = .inl (ybd T n m p i) → (yisN T n m p = true ∧ i = 3 ∨ yisN T n m p = false ∧ i = 1) → zGo L xs (fun r σ1 => ∃ x, r = some (.int x) ∧ (match yNmd T n m Nm 7 ng p with
    | .inl e => x = Int32.ofInt (-1) ∧ yGB e σ1
    | .inr i => x = Int32.ofNat i ∧ yG T n m p Nm ng o σ1)) [] (d + 2) 31 20 lv [] σ := fun lv i l0 l1 l2 sp hi => by
    rw [sp]
    refine w_I y31_20 l2 ?_
    refine w_K y31_21 ?_
    refine w_icF y31_22 rfl (by decide) ?_
    refine w_A y31_25 l1 ?_
    refine w_A y31_26 l1 ?_
    refine G_nm hT y31_27 rfl h ?_
    rcases hi with ⟨hn1, rfl⟩ | ⟨hn1, rfl⟩
    · refine w_ifF y31_30 rfl (y_beqF hn1) ?_
      refine w_K y31_33 ?_
      refine w_go y31_34 rfl ?_
      refine G_ref hT y31_38 rfl h (.inl (by rw [(of_decide_eq_true hn1).1]; decide)) (fun σ1 h1 => ?_)
      refine y_pop y31_41 rfl ?_
      refine w_I y31_42 l2 ?_
      exact y_ret y31_43 rfl ⟨_, rfl, rfl, h1⟩
    · refine w_ifT y31_30 rfl (y_beqT hn1) ?_
      refine w_K y31_37 ?_
      refine G_ref hT y31_38 rfl h (.inr rfl) (fun σ1 h1 => ?_)
      refine y_pop y31_41 rfl ?_
      refine w_I y31_42 l2 ?_
      exact y_ret y31_43 rfl ⟨_, rfl, rfl, h1⟩
  refine w_A y31_0 rfl ?_
  refine G_nm hT y31_1 rfl h ?_
  rcases y_bc (yisN T n m p) with e | e
  · refine w_ifT y31_4 rfl (y_beqT e) ?_
    refine w_K y31_18 ?_
    refine w_IS y31_19 ?_
    exact fail _ 1 rfl rfl rfl (by unfold yNmd; rw [if_neg (by rw [e]; decide)]) (.inr ⟨e, rfl⟩)
  · have hk : ykd T n m p = 2 := (of_decide_eq_true e).1
    refine w_ifF y31_4 rfl (y_beqF e) ?_
    refine w_A y31_7 rfl ?_
    refine w_A y31_8 rfl ?_
    refine y_gf y31_9 g356 rfl c10 ?_
    refine y_call y31_12 (y_args6 g4 rfl rfl) rfl (yh_gn (L := L) (xs := xs) (d := d + 1) (v := v) hg g4 g14 e2 e13) ?_
    refine w_go y31_15 rfl ?_
    have er : yfi gn v ng 0 = yfs T n Nm 7 ng p := yfi_rel (fun i _ hi => (yRel_iff (hrel i (by omega)) (hv hk)).symm)
    rw [er]
    refine w_IS y31_19 ?_
    cases hq : yfs T n Nm 7 ng p with
    | none =>
      have sp : yNmd T n m Nm 7 ng p = .inl (ybd T n m p 3) := by unfold yNmd; rw [if_pos e, hq]
      exact fail _ 3 rfl rfl rfl sp (.inl ⟨e, rfl⟩)
    | some i =>
      have hi := yfi_lt (show yfi (fun i => Nm (7 + i)) (yrv T n p) ng 0 = some i from hq)
      have sp : yNmd T n m Nm 7 ng p = .inr i := by unfold yNmd; rw [if_pos e, hq]
      rw [sp]
      refine w_I y31_20 rfl ?_
      refine w_K y31_21 ?_
      refine w_icT y31_22 rfl (by
        have := y_oN (k := i) (by omega)
        simp only [iv_c2]
        exact decide_eq_true this) ?_
      refine w_I y31_42 rfl ?_
      exact y_ret y31_43 rfl ⟨_, rfl, rfl, h⟩
/-- a mark that is passed -/
theorem yg_pm {c : Nat} (hT : ∀ i, T i ≤ 255) (hm : m ≤ 900) (hc : c ≤ 255) (h : yG T n m p Nm ng o σ) : ∃ b σ1, iv_Rn L xs (d + 1) 57 0 (lv_args 0 [.ref 356, .int (Int32.ofNat c)]) [] σ (some (.int (yb b))) σ1 ∧ ((b = false ∧ yMk T n m p c = false ∧ yGB (ybd T n m p 1) σ1) ∨ (b = true ∧ yMk T n m p c = true ∧ yG T n m (yto T n m p) Nm ng o σ1)) := by
  refine y_RbE ?_
  refine w_A y57_0 rfl ?_
  refine w_I y57_1 rfl ?_
  refine G_mk hT hc y57_2 rfl h ?_
  rcases y_bc (yMk T n m p c) with e | e
  · refine w_ifF y57_5 rfl (y_bneF e) ?_
    refine w_A y57_8 rfl ?_
    refine w_K y57_9 ?_
    refine G_ref hT y57_10 rfl h (.inr rfl) (fun σ1 h1 => ?_)
    exact y_ret y57_13 y_rtb ⟨false, rfl, .inl ⟨rfl, e, h1⟩⟩
  · refine w_ifT y57_5 rfl (y_bneT e) ?_
    refine w_A y57_14 rfl ?_
    refine G_go hm y57_15 rfl h (by rw [yMk_k e]; decide) (fun σ1 h1 => ?_)
    refine w_K y57_18 ?_
    exact y_ret (v := .int (yb true)) y57_19 y_rtb ⟨true, rfl, .inr ⟨rfl, e, h1⟩⟩
end GG
