/-! ===== printed by wip/gen/y/cc.py: the class goes from token to token ===== -/
section YC
variable {T : Nat → Nat} {n m p : Nat} {V : Nat → Value} {σ σ1 : iv_H}
theorem yend_kd (h : ylim n m ≤ ysk T n p) : ykd T n m p ≤ 1 := by
  unfold ylim at h
  unfold ykd
  by_cases h1 : m < n
  · rw [if_pos h1] at h
    rw [if_pos ⟨h1, h⟩]
    exact Nat.le_refl 1
  · rw [if_neg h1] at h
    rw [if_neg (fun h2 => h1 h2.1), if_pos h]
    exact Nat.zero_le 1
theorem yCM_fr {S : List Nat} (h : yCM T n m p V σ) (f : yFr S σ σ1) (hs : (iv_mem 356 S || iv_mem 358 S || iv_mem 360 S || iv_mem 362 S || iv_mem 364 S) = false) : yCM T n m p V σ1 := by
  obtain ⟨c, k, K, P, X, Q, h1, ⟨g1, g2, g3, g4, g5⟩, h3⟩ := h
  simp only [Bool.or_eq_false_iff] at hs
  exact (show yCMx T n m p V σ1 from ⟨c, k, K, P, X, Q, h1, ⟨yF_n f hs.1.1.1.1 g1, yF_n f hs.1.1.1.2 g2, yF_n f hs.1.1.2 g3, yF_n f hs.1.2 g4, yF_n f hs.2 g5⟩, h3⟩)
theorem yCM_11 (h : yCM T n m p V σ) : V 11 = .int (Int32.ofNat 0) := by
  obtain ⟨c, k, K, P, X, Q, _, _, ⟨_, _, _, _, v⟩, _⟩ := h
  exact v
theorem yCM_g (h : yCM T n m p V σ) : iv_get σ 356 = some (yob 5 13 V) := by
  obtain ⟨c, k, K, P, X, Q, _, ⟨g, _⟩, _⟩ := h
  exact g
/-- the value of a word is the name's other code -/
def yVal (T : Nat → Nat) (n m p : Nat) (v : Int64) : Prop := ykd T n m p = 2 → yRel (yrv T n p) v
theorem yCv_val (h : yCv T n m p V) : ∃ v, V 10 = .long v ∧ yVal T n m p v := by
  obtain ⟨kc, v, j, ⟨_, _, _, c10, _⟩, _, _, i1, _, _, _, i5, _⟩ := h
  exact ⟨v, c10, fun h => (i5 (i1.mpr h)).1⟩
/-- which word the class sees -/
def yWd (T : Nat → Nat) (n m p j : Nat) : Prop := j < 28 ∧ ∀ i, i < 27 → (j = i + 1 ↔ yisW T n m p i = true)
theorem yCv_wd (h : yCv T n m p V) : ∃ j, V 9 = .ref (2 * j + 3) ∧ yWd T n m p j := by
  obtain ⟨kc, v, j, ⟨_, _, c9, _, _⟩, ⟨hj, _⟩, _, i1, _, _, _, i5, _, _, i8⟩ := h
  refine ⟨j, c9, hj, fun i hi => ?_⟩
  unfold yisW
  rw [decide_eq_true_iff]
  by_cases h2 : kc = 1
  · obtain ⟨_, _, _, hw⟩ := i5 h2
    rw [hw i hi]
    exact ⟨fun e => ⟨i1.mp h2, e⟩, fun e => e.2⟩
  · have := i8 h2
    exact ⟨fun e => by omega, fun e => absurd (i1.mpr e.1) h2⟩
theorem yCv_7 (h : yCv T n m p V) : V 7 = .int (Int32.ofNat (yfm T n m p)) := by
  obtain ⟨kc, v, j, ⟨c7, _⟩, _⟩ := h
  exact c7
end YC
theorem yc_go {L : Nat} {xs : Nat → Int32} {d : Nat} {V : Nat → Value} {σ : iv_H} {T : Nat → Nat} {n m p : Nat} (hm : m ≤ 900) (h : yCM T n m p V σ) (hk : 2 ≤ ykd T n m p) : ∃ σ1, iv_Rn L xs d 52 0 (lv_args 0 [.ref 356]) [] σ none σ1 ∧ ∃ V1, yCM T n m (yto T n m p) V1 σ1 ∧ yFr [356] σ σ1 := by
  obtain ⟨c, k, K, P, X, Q, ⟨⟨hc, hkc, rfl, hpn⟩, ht, hge, k0, p0, q0⟩, ⟨g, gk, gp, gv, gw⟩, ⟨v1, v2, v3, v4, v11⟩, v0, v5, v6, v7, v8, hw9, v10⟩ := h
  have hlt : k < c := by
    by_cases e : k = c
    · subst e
      have := yend_kd (T := T) hge
      omega
    · omega
  obtain ⟨⟨hs1, hs2⟩, _⟩ := ht k hlt
  have hpn2 : ypk T n m (k + 1) ≤ n := by
    show yto T n m (ypk T n m k) ≤ n
    rw [yto_lay hs1 hs2]
    exact (ycl_le hs1).1
  have hq : ∃ wd, Q (k + 1) = some wd := by
    by_cases e : k + 1 = c
    · exact ⟨3, by rw [e]; exact q0⟩
    · obtain ⟨_, _, _, w, h, _⟩ := ht (k + 1) (by omega)
      exact ⟨w, h⟩
  obtain ⟨wd, hq⟩ := hq
  obtain ⟨σ1, r1, V1, g1, a1, x6, x7, x8, x9, x10, f1⟩ := yc_adv (L := L) (xs := xs) (d := d) (c := c + 1) (k := k + 1) (x := Int32.ofNat k) (by omega) (by omega) (Int32.ofNat_add k 1).symm hq g gk gp gv gw v1 v2 v3 v4 v0 v6
  refine ⟨σ1, r1, V1, (show yCMx T n m _ V1 σ1 from ⟨c, k + 1, K, P, X, Q, ⟨⟨hc, by omega, rfl, hpn2⟩, ht, hge, k0, p0, q0⟩, ⟨g1, yF_n f1 (by rfl) gk, yF_n f1 (by rfl) gp, yF_n f1 (by rfl) gv, yF_n f1 (by rfl) gw⟩, ⟨(a1 1 (by rfl)).trans v1, (a1 2 (by rfl)).trans v2, (a1 3 (by rfl)).trans v3, (a1 4 (by rfl)).trans v4, (a1 11 (by rfl)).trans v11⟩, (a1 0 (by rfl)).trans v0, (a1 5 (by rfl)).trans v5, x6, x7, x8, ⟨wd, hq, x9⟩, x10⟩), f1⟩
theorem yc_nmE {L : Nat} {xs : Nat → Int32} {d : Nat} {V : Nat → Value} {σ : iv_H} {T : Nat → Nat} {n m p : Nat} (h : yCv T n m p V) (g : iv_get σ 356 = some (yob 5 13 V)) : iv_Rn L xs d 54 0 (lv_args 0 [.ref 356]) [] σ (some (.int (yb (yisN T n m p)))) σ := by
  obtain ⟨kc, v, j, ⟨_, c8, c9, _, _⟩, ⟨hj, h4⟩, _, i1, _, _, _, i5, _⟩ := h
  have r := yc_nm (L := L) (xs := xs) (d := d) (kd := kc) (wd := 2 * j + 3) (by omega) (s_isW hj) g c8 c9
  have e : decide (kc = 1 ∧ 2 * j + 3 = 3) = yisN T n m p := by
    unfold yisN
    by_cases h1 : kc = 1
    · obtain ⟨_, _, hw, _⟩ := i5 h1
      by_cases h0 : j = 0
      · rw [decide_eq_true (p := kc = 1 ∧ 2 * j + 3 = 3) ⟨h1, by omega⟩, decide_eq_true ⟨i1.mp h1, hw.mp h0⟩]
      · rw [decide_eq_false (p := kc = 1 ∧ 2 * j + 3 = 3) (fun e => by omega), decide_eq_false (fun e => h0 (hw.mpr e.2))]
    · rw [decide_eq_false (p := kc = 1 ∧ 2 * j + 3 = 3) (fun e => h1 e.1), decide_eq_false (fun e => h1 (i1.mpr e.1))]
  rw [← e]
  exact r
theorem yc_ovE {L : Nat} {xs : Nat → Int32} {d : Nat} {V : Nat → Value} {σ : iv_H} {T : Nat → Nat} {n m p : Nat} (h : yCv T n m p V) (g : iv_get σ 356 = some (yob 5 13 V)) : iv_Rn L xs d 53 0 (lv_args 0 [.ref 356]) [] σ (some (.int (yb (decide (ykd T n m p = 0))))) σ := by
  obtain ⟨kc, v, j, ⟨_, c8, _, _, c5⟩, ⟨hj, h4⟩, i0, _⟩ := h
  have r := yc_ov (L := L) (xs := xs) (d := d) (kd := kc) (b := decide (m < n)) (by omega) g c8 c5
  have e : decide (kc = 0 ∧ decide (m < n) = false) = decide (ykd T n m p = 0) := by
    by_cases h1 : ykd T n m p = 0
    · have h2 := i0.mpr h1
      rw [decide_eq_true h1, decide_eq_true (p := kc = 0 ∧ decide (m < n) = false) ⟨h2.1, decide_eq_false h2.2⟩]
    · rw [decide_eq_false h1, decide_eq_false (p := kc = 0 ∧ decide (m < n) = false) (fun e => h1 (i0.mp ⟨e.1, of_decide_eq_false e.2⟩))]
  rw [← e]
  exact r
/-- the class's faults -/
abbrev yCB (e : Nat × Nat) (V1 : Nat → Value) (σ1 : iv_H) : Prop := iv_get σ1 356 = some (yob 5 13 V1) ∧ V1 11 = .int (Int32.ofNat e.1) ∧ V1 12 = .int (Int32.ofNat e.2)
theorem ybd_k {T : Nat → Nat} {n m p k : Nat} (h : ¬ ykd T n m p = 1 ∨ k = 1) : ybd T n m p k = (k, yfm T n m p) := by
  unfold ybd
  rcases h with h | h
  · rw [if_neg h]
  · subst h
    split <;> rfl
theorem yc_rfE {L : Nat} {xs : Nat → Int32} {d : Nat} {V : Nat → Value} {σ : iv_H} {T : Nat → Nat} {n m p k : Nat} (h : yCv T n m p V) (g : iv_get σ 356 = some (yob 5 13 V)) (hk : ¬ ykd T n m p = 1 ∨ k = 1) : ∃ σ1, iv_Rn L xs d 56 0 (lv_args 0 [.ref 356, .int (Int32.ofNat k)]) [] σ (some (.int (Int32.ofNat 0))) σ1 ∧ ∃ V1, yCB (ybd T n m p k) V1 σ1 ∧ yFr [356] σ σ1 := by
  obtain ⟨σ1, r, V1, g1, _, e11, e12, f⟩ := yc_rf (L := L) (xs := xs) (d := d) (k := k) g (yCv_7 h)
  refine ⟨σ1, r, V1, ?_, f⟩
  rw [ybd_k hk]
  exact ⟨g1, e11, e12⟩
def yCO (T : Nat → Nat) (n m : Nat) (o : yE Nat) (r : Bool) (V1 : Nat → Value) (σ1 : iv_H) : Prop := match o with
  | .inl e => r = false ∧ yCB e V1 σ1
  | .inr q => r = true ∧ yCM T n m q V1 σ1
def yCN (T : Nat → Nat) (n m : Nat) (o : yE (Nat × Nat)) (x : Int32) (V1 : Nat → Value) (σ1 : iv_H) : Prop := match o with
  | .inl e => x = Int32.ofInt (-1) ∧ yCB e V1 σ1
  | .inr q => x = Int32.ofNat q.1 ∧ yCM T n m q.2 V1 σ1
section YCO
variable {T : Nat → Nat} {n m : Nat} {V1 : Nat → Value} {σ1 : iv_H} {e : Nat × Nat}
theorem yCO_bad {o : yE Nat} (sp : o = .inl e) (h : yCB e V1 σ1) : yCO T n m o false V1 σ1 := by
  subst sp
  exact And.intro rfl h
theorem yCO_good {o : yE Nat} {q : Nat} (sp : o = .inr q) (h : yCM T n m q V1 σ1) : yCO T n m o true V1 σ1 := by
  subst sp
  exact And.intro rfl h
theorem yCN_bad {o : yE (Nat × Nat)} (sp : o = .inl e) (h : yCB e V1 σ1) : yCN T n m o (Int32.ofInt (-1)) V1 σ1 := by
  subst sp
  exact And.intro rfl h
theorem yCN_good {o : yE (Nat × Nat)} {q : Nat × Nat} (sp : o = .inr q) (h : yCM T n m q.2 V1 σ1) : yCN T n m o (Int32.ofNat q.1) V1 σ1 := by
  subst sp
  exact And.intro rfl h
theorem y_Ri {L : Nat} {xs : Nat → Int32} {d M pc : Nat} {lv : iv_L} {st : List Value} {σ : iv_H} {Q : Int32 → (Nat → Value) → iv_H → Prop} (h : zGo L xs (fun r σ1 => ∃ b V1, r = some (.int b) ∧ Q b V1 σ1) [] d M pc lv st σ) : ∃ b σ1 V1, iv_Rn L xs d M pc lv st σ (some (.int b)) σ1 ∧ Q b V1 σ1 := by
  obtain ⟨r, σ1, h1, h2⟩ := h
  have h3 : ∃ b V1, r = some (.int b) ∧ Q b V1 σ1 := h2
  obtain ⟨b, V1, rfl, h4⟩ := h3
  exact ⟨b, σ1, V1, h1, h4⟩
theorem y_l2i {L : Nat} {xs : Nat → Int32} {Post : Option Value → iv_H → Prop} {d M pc : Nat} {lv : iv_L} {st : List Value} {σ : iv_H} {v : Nat} (hf : iv_f1 (iv_p M) pc = some (.inl iv_oL2I)) (hv : v ≤ 1000000) (k : zGo L xs Post [] d M (pc + 1) lv (.int (Int32.ofNat v) :: st) σ) : zGo L xs Post [] d M pc lv (.long (Int64.ofNat v) :: st) σ := zGo_s hf rfl (by
  rw [← y_i64 hv, Int32.toInt32_toInt64]
  exact k)
end YCO
set_option maxRecDepth 100000 in
theorem y57_0 : iv_f1 (iv_p 57) 0 = some (.inl (iv_oA 0 1)) := rfl
set_option maxRecDepth 100000 in
theorem y57_1 : iv_f1 (iv_p 57) 1 = some (.inl (iv_oI 1 1)) := rfl
set_option maxRecDepth 100000 in
theorem y57_2 : iv_f1 (iv_p 57) 2 = some (.inr (.inr (6, 55, 1, 5))) := rfl
set_option maxRecDepth 100000 in
theorem y57_5 : iv_f1 (iv_p 57) 5 = some (.inl (iv_oIf .ne (9))) := rfl
set_option maxRecDepth 100000 in
theorem y57_8 : iv_f1 (iv_p 57) 8 = some (.inl (iv_oA 0 1)) := rfl
set_option maxRecDepth 100000 in
theorem y57_9 : iv_f1 (iv_p 57) 9 = some (.inl (iv_oK (.int (Int32.ofNat 1)) 1)) := rfl
set_option maxRecDepth 100000 in
theorem y57_10 : iv_f1 (iv_p 57) 10 = some (.inr (.inr (6, 56, 1, 5))) := rfl
set_option maxRecDepth 100000 in
theorem y57_13 : iv_f1 (iv_p 57) 13 = some (.inr (.inl 2)) := rfl
set_option maxRecDepth 100000 in
theorem y57_14 : iv_f1 (iv_p 57) 14 = some (.inl (iv_oA 0 1)) := rfl
set_option maxRecDepth 100000 in
theorem y57_15 : iv_f1 (iv_p 57) 15 = some (.inr (.inr (6, 52, 0, 5))) := rfl
set_option maxRecDepth 100000 in
theorem y57_18 : iv_f1 (iv_p 57) 18 = some (.inl (iv_oK (.int (Int32.ofNat 1)) 1)) := rfl
set_option maxRecDepth 100000 in
theorem y57_19 : iv_f1 (iv_p 57) 19 = some (.inr (.inl 2)) := rfl
theorem yc_pm {L : Nat} {xs : Nat → Int32} {d : Nat} {V : Nat → Value} {σ : iv_H} {T : Nat → Nat} {n m p : Nat} (hd : 1 ≤ d) (hm : m ≤ 900) (hT : ∀ i, T i ≤ 255) (h : yCM T n m p V σ) : ∃ b σ1 V1, iv_Rn L xs d 57 0 (lv_args 0 [.ref 356, .int (Int32.ofNat 59)]) [] σ (some (.int (yb b))) σ1 ∧ yCO T n m (yEnd T n m p) b V1 σ1 ∧ yFr [356] σ σ1 := by
  obtain ⟨d, rfl⟩ : ∃ e, d = e + 1 := ⟨d - 1, by omega⟩
  have hv := yCM_v hT h
  have g := yCM_g h
  obtain ⟨kc, v, j, ⟨_, c8, _, c10, _⟩, ⟨_, h4⟩, _, _, _, i3, _, _, _, i7, _⟩ := id hv
  have r := yc_mk (L := L) (xs := xs) (d := d) (kd := kc) (c := 59) (v := v) (by omega) g c8 c10
  refine y_Rb ?_
  refine w_A y57_0 rfl ?_
  refine w_I y57_1 rfl ?_
  refine y_call y57_2 (y_args6 g rfl rfl) rfl r ?_
  by_cases hc : kc = 3 ∧ v = (Int32.ofNat 59).toInt64
  · refine w_ifT y57_5 rfl (y_bneT (decide_eq_true hc)) ?_
    have k4 := i3.mp hc.1
    have e59 : T (ysk T n p) = 59 := by
      have e := (i7 hc.1).symm.trans hc.2
      rw [y_i64 (by decide)] at e
      have := hT (ysk T n p)
      exact y64_inj (by omega) (by decide) e
    obtain ⟨σ1, r1, V1, h1, f1⟩ := yc_go (L := L) (xs := xs) (d := d) hm h (by omega)
    refine w_A y57_14 rfl ?_
    refine y_call0 y57_15 (y_args6 g rfl rfl) rfl r1 ?_
    refine w_K y57_18 ?_
    have sp : yEnd T n m p = .inr (yto T n m p) := by unfold yEnd; rw [if_pos ⟨k4, e59⟩]
    exact y_ret y57_19 rfl ⟨true, V1, rfl, yCO_good sp h1, f1⟩
  · refine w_ifF y57_5 rfl (y_bneF (decide_eq_false hc)) ?_
    obtain ⟨σ1, r1, V1, h1, f1⟩ := yc_rfE (L := L) (xs := xs) (d := d) (k := 1) hv g (.inr rfl)
    refine w_A y57_8 rfl ?_
    refine w_K y57_9 ?_
    refine y_call y57_10 (y_args6 g rfl rfl) rfl r1 ?_
    have sp : yEnd T n m p = .inl (ybd T n m p 1) := by
      unfold yEnd
      rw [if_neg]
      rintro ⟨k4, e59⟩
      exact hc ⟨i3.mpr k4, by rw [i7 (i3.mpr k4), e59, y_i64 (by decide)]⟩
    exact y_ret y57_13 rfl ⟨false, V1, rfl, yCO_bad sp h1, f1⟩
set_option maxRecDepth 100000 in
theorem y58_0 : iv_f1 (iv_p 58) 0 = some (.inl (iv_oA 0 1)) := rfl
set_option maxRecDepth 100000 in
theorem y58_1 : iv_f1 (iv_p 58) 1 = some (.inl (iv_oGF 5 8)) := rfl
set_option maxRecDepth 100000 in
theorem y58_4 : iv_f1 (iv_p 58) 4 = some (.inl (iv_oK (.int (Int32.ofNat 2)) 1)) := rfl
set_option maxRecDepth 100000 in
theorem y58_5 : iv_f1 (iv_p 58) 5 = some (.inl (iv_oIc .eq (11))) := rfl
set_option maxRecDepth 100000 in
theorem y58_8 : iv_f1 (iv_p 58) 8 = some (.inl (iv_oA 0 1)) := rfl
set_option maxRecDepth 100000 in
theorem y58_9 : iv_f1 (iv_p 58) 9 = some (.inl (iv_oK (.int (Int32.ofNat 1)) 1)) := rfl
set_option maxRecDepth 100000 in
theorem y58_10 : iv_f1 (iv_p 58) 10 = some (.inr (.inr (6, 56, 1, 5))) := rfl
set_option maxRecDepth 100000 in
theorem y58_13 : iv_f1 (iv_p 58) 13 = some (.inl iv_oPop) := rfl
set_option maxRecDepth 100000 in
theorem y58_14 : iv_f1 (iv_p 58) 14 = some (.inl (iv_oK (.int (Int32.ofInt (-1))) 1)) := rfl
set_option maxRecDepth 100000 in
theorem y58_15 : iv_f1 (iv_p 58) 15 = some (.inr (.inl 1)) := rfl
set_option maxRecDepth 100000 in
theorem y58_16 : iv_f1 (iv_p 58) 16 = some (.inl (iv_oA 0 1)) := rfl
set_option maxRecDepth 100000 in
theorem y58_17 : iv_f1 (iv_p 58) 17 = some (.inl (iv_oGF 5 10)) := rfl
set_option maxRecDepth 100000 in
theorem y58_20 : iv_f1 (iv_p 58) 20 = some (.inl (iv_oI 1 1)) := rfl
set_option maxRecDepth 100000 in
theorem y58_21 : iv_f1 (iv_p 58) 21 = some (.inl (iv_oUI fun x => .long x.toInt64)) := rfl
set_option maxRecDepth 100000 in
theorem y58_22 : iv_f1 (iv_p 58) 22 = some (.inl iv_oCmp) := rfl
set_option maxRecDepth 100000 in
theorem y58_23 : iv_f1 (iv_p 58) 23 = some (.inl (iv_oIf .lt (13))) := rfl
set_option maxRecDepth 100000 in
theorem y58_26 : iv_f1 (iv_p 58) 26 = some (.inl (iv_oA 0 1)) := rfl
set_option maxRecDepth 100000 in
theorem y58_27 : iv_f1 (iv_p 58) 27 = some (.inl (iv_oGF 5 10)) := rfl
set_option maxRecDepth 100000 in
theorem y58_30 : iv_f1 (iv_p 58) 30 = some (.inl (iv_oI 2 1)) := rfl
set_option maxRecDepth 100000 in
theorem y58_31 : iv_f1 (iv_p 58) 31 = some (.inl (iv_oUI fun x => .long x.toInt64)) := rfl
set_option maxRecDepth 100000 in
theorem y58_32 : iv_f1 (iv_p 58) 32 = some (.inl iv_oCmp) := rfl
set_option maxRecDepth 100000 in
theorem y58_33 : iv_f1 (iv_p 58) 33 = some (.inl (iv_oIf .le (11))) := rfl
set_option maxRecDepth 100000 in
theorem y58_36 : iv_f1 (iv_p 58) 36 = some (.inl (iv_oA 0 1)) := rfl
set_option maxRecDepth 100000 in
theorem y58_37 : iv_f1 (iv_p 58) 37 = some (.inl (iv_oK (.int (Int32.ofNat 2)) 1)) := rfl
set_option maxRecDepth 100000 in
theorem y58_38 : iv_f1 (iv_p 58) 38 = some (.inr (.inr (6, 56, 1, 5))) := rfl
set_option maxRecDepth 100000 in
theorem y58_41 : iv_f1 (iv_p 58) 41 = some (.inl iv_oPop) := rfl
set_option maxRecDepth 100000 in
theorem y58_42 : iv_f1 (iv_p 58) 42 = some (.inl (iv_oK (.int (Int32.ofInt (-1))) 1)) := rfl
set_option maxRecDepth 100000 in
theorem y58_43 : iv_f1 (iv_p 58) 43 = some (.inr (.inl 1)) := rfl
set_option maxRecDepth 100000 in
theorem y58_44 : iv_f1 (iv_p 58) 44 = some (.inl (iv_oA 0 1)) := rfl
set_option maxRecDepth 100000 in
theorem y58_45 : iv_f1 (iv_p 58) 45 = some (.inl (iv_oGF 5 10)) := rfl
set_option maxRecDepth 100000 in
theorem y58_48 : iv_f1 (iv_p 58) 48 = some (.inl iv_oL2I) := rfl
set_option maxRecDepth 100000 in
theorem y58_49 : iv_f1 (iv_p 58) 49 = some (.inl (iv_oIS 3 1)) := rfl
set_option maxRecDepth 100000 in
theorem y58_50 : iv_f1 (iv_p 58) 50 = some (.inl (iv_oA 0 1)) := rfl
set_option maxRecDepth 100000 in
theorem y58_51 : iv_f1 (iv_p 58) 51 = some (.inr (.inr (6, 52, 0, 5))) := rfl
set_option maxRecDepth 100000 in
theorem y58_54 : iv_f1 (iv_p 58) 54 = some (.inl (iv_oI 3 1)) := rfl
set_option maxRecDepth 100000 in
theorem y58_55 : iv_f1 (iv_p 58) 55 = some (.inr (.inl 1)) := rfl
theorem yc_pn {L : Nat} {xs : Nat → Int32} {d : Nat} {V : Nat → Value} {σ : iv_H} {T : Nat → Nat} {n m p a b : Nat} (hd : 1 ≤ d) (hm : m ≤ 900) (hT : ∀ i, T i ≤ 255) (ha : a ≤ 1000) (hb : b ≤ 1000) (h : yCM T n m p V σ) : ∃ x σ1 V1, iv_Rn L xs d 58 0 (lv_args 0 [.ref 356, .int (Int32.ofNat a), .int (Int32.ofNat b)]) [] σ (some (.int x)) σ1 ∧ yCN T n m (yNum T n m a b p) x V1 σ1 ∧ yFr [356] σ σ1 := by
  obtain ⟨d, rfl⟩ : ∃ e, d = e + 1 := ⟨d - 1, by omega⟩
  have hv := yCM_v hT h
  have g := yCM_g h
  obtain ⟨kc, v, j, ⟨_, c8, _, c10, _⟩, ⟨_, h4⟩, _, _, i2, _, _, _, i6, _, _⟩ := id hv
  refine y_Ri ?_
  refine w_A y58_0 rfl ?_
  refine y_gf y58_1 g rfl c8 ?_
  refine w_K y58_4 ?_
  by_cases hc : kc = 2
  · refine y_icT y58_5 rfl (by omega) (by omega) (by simp only [zch]; omega) ?_
    have k3 := i2.mp hc
    obtain ⟨_, ln⟩ := ykd_num k3
    rw [i6 hc] at c10
    generalize hx : ynN T (ysk T n p) (yln T n p) = x at *
    have bad2 : ¬ (a ≤ x ∧ x ≤ b) → zGo L xs (fun r σ1 => ∃ b1 V1, r = some (.int b1) ∧ yCN T n m (yNum T n m a b p) b1 V1 σ1 ∧ yFr [356] σ σ1) [] (d + 1) 58 36 (lv_args 0 [.ref 356, .int (Int32.ofNat a), .int (Int32.ofNat b)]) [] σ := fun hn => by
      obtain ⟨σ1, r1, V1, h1, f1⟩ := yc_rfE (L := L) (xs := xs) (d := d) (k := 2) hv g (.inl (by omega))
      refine w_A y58_36 rfl ?_
      refine w_K y58_37 ?_
      refine y_call y58_38 (y_args6 g rfl rfl) rfl r1 ?_
      refine y_pop y58_41 rfl ?_
      refine w_K y58_42 ?_
      have sp : yNum T n m a b p = .inl (ybd T n m p 2) := by unfold yNum; rw [if_pos k3, hx, if_neg hn]
      exact y_ret y58_43 rfl ⟨_, V1, rfl, yCN_bad sp h1, f1⟩
    refine w_A y58_16 rfl ?_
    refine y_gf y58_17 g rfl c10 ?_
    refine w_I y58_20 rfl ?_
    refine y_UI y58_21 ?_
    refine w_cmp y58_22 ?_
    by_cases c1 : x < a
    · refine w_ifT y58_23 rfl (y_ltT (by omega) (by omega) c1) ?_
      exact bad2 (fun h => by omega)
    · refine w_ifF y58_23 rfl (y_ltF (by omega) (by omega) c1) ?_
      refine w_A y58_26 rfl ?_
      refine y_gf y58_27 g rfl c10 ?_
      refine w_I y58_30 rfl ?_
      refine y_UI y58_31 ?_
      refine w_cmp y58_32 ?_
      by_cases c2 : x ≤ b
      · refine w_ifT y58_33 rfl (y_leT (by omega) (by omega) c2) ?_
        refine w_A y58_44 rfl ?_
        refine y_gf y58_45 g rfl c10 ?_
        refine y_l2i y58_48 (by omega) ?_
        refine w_IS y58_49 ?_
        obtain ⟨σ1, r1, V1, h1, f1⟩ := yc_go (L := L) (xs := xs) (d := d) hm h (by omega)
        refine w_A y58_50 rfl ?_
        refine y_call0 y58_51 (y_args6 g rfl rfl) rfl r1 ?_
        refine w_I y58_54 rfl ?_
        have sp : yNum T n m a b p = .inr (x, yto T n m p) := by unfold yNum; rw [if_pos k3, hx, if_pos ⟨by omega, c2⟩]
        exact y_ret y58_55 rfl ⟨_, V1, rfl, yCN_good sp h1, f1⟩
      · refine w_ifF y58_33 rfl (y_leF (by omega) (by omega) c2) ?_
        exact bad2 (fun h => by omega)
  · refine y_icF y58_5 rfl (by omega) (by omega) (by simp only [zch]; omega) ?_
    obtain ⟨σ1, r1, V1, h1, f1⟩ := yc_rfE (L := L) (xs := xs) (d := d) (k := 1) hv g (.inr rfl)
    refine w_A y58_8 rfl ?_
    refine w_K y58_9 ?_
    refine y_call y58_10 (y_args6 g rfl rfl) rfl r1 ?_
    refine y_pop y58_13 rfl ?_
    refine w_K y58_14 ?_
    have sp : yNum T n m a b p = .inl (ybd T n m p 1) := by unfold yNum; rw [if_neg (fun h => hc (i2.mpr h))]
    exact y_ret y58_15 rfl ⟨_, V1, rfl, yCN_bad sp h1, f1⟩
