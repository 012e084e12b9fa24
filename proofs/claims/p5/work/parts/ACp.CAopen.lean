/-! ===== printed by wip/gen/y/ca.py: the class opens a text ===== -/
theorem y_lt {a b : Nat} (ha : a ≤ 1000000) (hb : b ≤ 1000000) : Int32.ofNat a < Int32.ofNat b ↔ a < b := by
  have h := y_c (c := .lt) ha hb
  have h2 : (decide (Int32.ofNat a < Int32.ofNat b) = true) ↔ (a : Int) < (b : Int) := h
  rw [decide_eq_true_iff] at h2
  exact h2.trans (by omega)
section YMM
variable {L : Nat} {xs : Nat → Int32} {Post : Option Value → iv_H → Prop} {d M pc : Nat} {lv : iv_L} {st : List Value} {σ : iv_H} {a b z : Nat}
theorem y_mn (hf : iv_f1 (iv_p M) pc = some (.inl (iv_oMM fun x y => if y < x then y else x))) (hs : Nat.ble (iv_cs st) 8 = true) (ha : a ≤ 1000000) (hb : b ≤ 1000000) (hz : z = if b < a then b else a) (k : zGo L xs Post [] d M (pc + 3) lv (.int (Int32.ofNat z) :: st) σ) : zGo L xs Post [] d M pc lv (.int (Int32.ofNat b) :: .int (Int32.ofNat a) :: st) σ := zGo_s hf (by
  show (bif Nat.ble (iv_cs st) 8 then some (pc + 3, lv, Value.int (if Int32.ofNat b < Int32.ofNat a then Int32.ofNat b else Int32.ofNat a) :: st, σ) else none) = some (pc + 3, lv, Value.int (Int32.ofNat z) :: st, σ)
  rw [hs, hz]
  by_cases h : b < a
  · rw [if_pos ((y_lt hb ha).mpr h), if_pos h]
    rfl
  · rw [if_neg (fun e => h ((y_lt hb ha).mp e)), if_neg h]
    rfl) k
theorem y_mx (hf : iv_f1 (iv_p M) pc = some (.inl (iv_oMM fun x y => if x < y then y else x))) (hs : Nat.ble (iv_cs st) 8 = true) (ha : a ≤ 1000000) (hb : b ≤ 1000000) (hz : z = if a < b then b else a) (k : zGo L xs Post [] d M (pc + 3) lv (.int (Int32.ofNat z) :: st) σ) : zGo L xs Post [] d M pc lv (.int (Int32.ofNat b) :: .int (Int32.ofNat a) :: st) σ := zGo_s hf (by
  show (bif Nat.ble (iv_cs st) 8 then some (pc + 3, lv, Value.int (if Int32.ofNat a < Int32.ofNat b then Int32.ofNat b else Int32.ofNat a) :: st, σ) else none) = some (pc + 3, lv, Value.int (Int32.ofNat z) :: st, σ)
  rw [hs, hz]
  by_cases h : a < b
  · rw [if_pos ((y_lt ha hb).mpr h), if_pos h]
    rfl
  · rw [if_neg (fun e => h ((y_lt ha hb).mp e)), if_neg h]
    rfl) k
end YMM
def ypk (T : Nat → Nat) (n m : Nat) : Nat → Nat
  | 0 => 0
  | k + 1 => yto T n m (ypk T n m k)
/-- the tokens that lie there -/
def yTks (T : Nat → Nat) (n m c : Nat) (K P : Nat → Int32) (X : Nat → Int64) (Q : Nat → Option Nat) : Prop := ∀ k, k < c → (ysk T n (ypk T n m k) < n ∧ ysk T n (ypk T n m k) < m) ∧ K k = Int32.ofNat (ykc T n (ysk T n (ypk T n m k))) ∧ P k = Int32.ofNat (ysk T n (ypk T n m k)) ∧ ∃ wd, Q k = some wd ∧ yTC T n (ysk T n (ypk T n m k)) (X k) wd
/-- blanks from p on, as far as i -/
def yBl (T : Nat → Nat) (p i : Nat) : Prop := ∀ x, p ≤ x → x < i → ysB (T x) = true
section YTK2
variable {T : Nat → Nat} {n m : Nat}
theorem ysk_go : ∀ {e p i : Nat}, p + e = i → i ≤ n → yBl T p i → ysk T n p = ysk T n i
  | 0, p, i, h, _, _ => by
    have e : p = i := by omega
    rw [e]
  | e + 1, p, i, h, hn, hb => by
    rw [ysk_s (by omega) (hb p (Nat.le_refl _) (by omega))]
    exact ysk_go (e := e) (by omega) hn (fun x h1 h2 => hb x (by omega) h2)
theorem ysk_ge2 {p i : Nat} (hp : p ≤ i) (hn : i ≤ n) (hb : yBl T p i) : i ≤ ysk T n p := by
  rw [ysk_go (e := i - p) (by omega) hn hb]
  exact ysk_ge
theorem ysk_at {p i : Nat} (hp : p ≤ i) (hn : i < n) (hb : yBl T p i) (h : ysB (T i) = false) : ysk T n p = i := by
  rw [ysk_go (e := i - p) (by omega) (by omega) hb]
  exact ysk_e (fun h2 => by rw [h] at h2; cases h2.2)
theorem yto_lay {p : Nat} (h1 : ysk T n p < n) (h2 : ysk T n p < m) : yto T n m p = ysk T n p + ycl T n (ysk T n p) := by
  unfold yto ycl
  rw [if_neg (fun h => by omega), if_neg (by omega)]
  by_cases h : ysA (T (ysk T n p)) = true
  · rw [if_pos h, if_pos h]
    have := yre_ge (T := T) (n := n) (i := ysk T n p)
    omega
  · rw [if_neg h, if_neg h]
theorem ycl_le {s : Nat} (h : s < n) : s + ycl T n s ≤ n ∧ 0 < ycl T n s := by
  unfold ycl
  by_cases h2 : ysA (T s) = true
  · rw [if_pos h2]
    have a := yre_le (T := T) (n := n) (i := s) (by omega)
    have b := yre_gt (T := T) h h2
    omega
  · rw [if_neg h2]
    omega
theorem yTks_add {c : Nat} {K P : Nat → Int32} {X : Nat → Int64} {Q : Nat → Option Nat} {v : Int64} {wd s : Nat} (h : yTks T n m c K P X Q) (hs : ysk T n (ypk T n m c) = s) (h1 : s < n) (h2 : s < m) (ht : yTC T n s v wd) : yTks T n m (c + 1) (upd K c (Int32.ofNat (ykc T n s))) (upd P c (Int32.ofNat s)) (vp_updL X c v) (va_up Q c (some wd)) := fun k hk => by
  by_cases e : k = c
  · subst e
    rw [hs, upd_at, if_pos rfl, upd_at, if_pos rfl, updL_at, if_pos rfl]
    exact ⟨⟨h1, h2⟩, rfl, rfl, wd, if_pos rfl, ht⟩
  · obtain ⟨a1, a2, a3, w, a4, a5⟩ := h k (by omega)
    rw [upd_at, if_neg e, upd_at, if_neg e, updL_at, if_neg e]
    exact ⟨a1, a2, a3, w, (if_neg e).trans a4, a5⟩
end YTK2
set_option maxRecDepth 100000 in
theorem y47_0 : iv_f1 (iv_p 47) 0 = some (.inl (iv_oK (.int (Int32.ofNat 0)) 1)) := rfl
set_option maxRecDepth 100000 in
theorem y47_1 : iv_f1 (iv_p 47) 1 = some (.inl (iv_oI 2 1)) := rfl
set_option maxRecDepth 100000 in
theorem y47_2 : iv_f1 (iv_p 47) 2 = some (.inl (iv_oA 1 1)) := rfl
set_option maxRecDepth 100000 in
theorem y47_3 : iv_f1 (iv_p 47) 3 = some (.inl iv_oLen) := rfl
set_option maxRecDepth 100000 in
theorem y47_4 : iv_f1 (iv_p 47) 4 = some (.inl (iv_oMM fun x y => if y < x then y else x)) := rfl
set_option maxRecDepth 100000 in
theorem y47_7 : iv_f1 (iv_p 47) 7 = some (.inl (iv_oMM fun x y => if x < y then y else x)) := rfl
set_option maxRecDepth 100000 in
theorem y47_10 : iv_f1 (iv_p 47) 10 = some (.inl (iv_oIS 4 2)) := rfl
set_option maxRecDepth 100000 in
theorem y47_12 : iv_f1 (iv_p 47) 12 = some (.inl (iv_oI 4 2)) := rfl
set_option maxRecDepth 100000 in
theorem y47_14 : iv_f1 (iv_p 47) 14 = some (.inl (iv_oI 3 1)) := rfl
set_option maxRecDepth 100000 in
theorem y47_15 : iv_f1 (iv_p 47) 15 = some (.inl (iv_oMM fun x y => if y < x then y else x)) := rfl
set_option maxRecDepth 100000 in
theorem y47_18 : iv_f1 (iv_p 47) 18 = some (.inl (iv_oIS 5 2)) := rfl
set_option maxRecDepth 100000 in
theorem y47_20 : iv_f1 (iv_p 47) 20 = some (.inl (iv_oK (.int (Int32.ofNat 0)) 1)) := rfl
set_option maxRecDepth 100000 in
theorem y47_21 : iv_f1 (iv_p 47) 21 = some (.inl (iv_oIS 6 2)) := rfl
set_option maxRecDepth 100000 in
theorem y47_23 : iv_f1 (iv_p 47) 23 = some (.inl (iv_oA 0 1)) := rfl
set_option maxRecDepth 100000 in
theorem y47_24 : iv_f1 (iv_p 47) 24 = some (.inl (iv_oK (.int (Int32.ofNat 0)) 1)) := rfl
set_option maxRecDepth 100000 in
theorem y47_25 : iv_f1 (iv_p 47) 25 = some (.inl (iv_oPF 5 0 .int)) := rfl
set_option maxRecDepth 100000 in
theorem y47_28 : iv_f1 (iv_p 47) 28 = some (.inl (iv_oK (.int (Int32.ofNat 0)) 1)) := rfl
set_option maxRecDepth 100000 in
theorem y47_29 : iv_f1 (iv_p 47) 29 = some (.inl (iv_oIS 7 2)) := rfl
set_option maxRecDepth 100000 in
theorem y47_31 : iv_f1 (iv_p 47) 31 = some (.inl (iv_oI 7 2)) := rfl
set_option maxRecDepth 100000 in
theorem y47_33 : iv_f1 (iv_p 47) 33 = some (.inl (iv_oI 5 2)) := rfl
set_option maxRecDepth 100000 in
theorem y47_35 : iv_f1 (iv_p 47) 35 = some (.inl (iv_oIc .ge (40))) := rfl
set_option maxRecDepth 100000 in
theorem y47_38 : iv_f1 (iv_p 47) 38 = some (.inl (iv_oI 7 2)) := rfl
set_option maxRecDepth 100000 in
theorem y47_40 : iv_f1 (iv_p 47) 40 = some (.inl (iv_oI 6 2)) := rfl
set_option maxRecDepth 100000 in
theorem y47_42 : iv_f1 (iv_p 47) 42 = some (.inl (iv_oIc .lt (27))) := rfl
set_option maxRecDepth 100000 in
theorem y47_45 : iv_f1 (iv_p 47) 45 = some (.inl (iv_oA 1 1)) := rfl
set_option maxRecDepth 100000 in
theorem y47_46 : iv_f1 (iv_p 47) 46 = some (.inl (iv_oI 7 2)) := rfl
set_option maxRecDepth 100000 in
theorem y47_48 : iv_f1 (iv_p 47) 48 = some (.inl iv_oIl) := rfl
set_option maxRecDepth 100000 in
theorem y47_49 : iv_f1 (iv_p 47) 49 = some (.inr (.inr (4, 49, 1, 0))) := rfl
set_option maxRecDepth 100000 in
theorem y47_52 : iv_f1 (iv_p 47) 52 = some (.inl (iv_oIf .ne (17))) := rfl
set_option maxRecDepth 100000 in
theorem y47_55 : iv_f1 (iv_p 47) 55 = some (.inl (iv_oI 7 2)) := rfl
set_option maxRecDepth 100000 in
theorem y47_57 : iv_f1 (iv_p 47) 57 = some (.inl (iv_oA 0 1)) := rfl
set_option maxRecDepth 100000 in
theorem y47_58 : iv_f1 (iv_p 47) 58 = some (.inl (iv_oA 1 1)) := rfl
set_option maxRecDepth 100000 in
theorem y47_59 : iv_f1 (iv_p 47) 59 = some (.inl (iv_oI 4 2)) := rfl
set_option maxRecDepth 100000 in
theorem y47_61 : iv_f1 (iv_p 47) 61 = some (.inl (iv_oI 7 2)) := rfl
set_option maxRecDepth 100000 in
theorem y47_63 : iv_f1 (iv_p 47) 63 = some (.inr (.inr (6, 48, 3, 5))) := rfl
set_option maxRecDepth 100000 in
theorem y47_66 : iv_f1 (iv_p 47) 66 = some (.inl (iv_oII fun x y => x + y)) := rfl
set_option maxRecDepth 100000 in
theorem y47_67 : iv_f1 (iv_p 47) 67 = some (.inl (iv_oIS 6 2)) := rfl
set_option maxRecDepth 100000 in
theorem y47_69 : iv_f1 (iv_p 47) 69 = some (.inl (iv_oInc 7 (1))) := rfl
set_option maxRecDepth 100000 in
theorem y47_72 : iv_f1 (iv_p 47) 72 = some (.inl (iv_oGo (-41))) := rfl
set_option maxRecDepth 100000 in
theorem y47_75 : iv_f1 (iv_p 47) 75 = some (.inl (iv_oA 0 1)) := rfl
set_option maxRecDepth 100000 in
theorem y47_76 : iv_f1 (iv_p 47) 76 = some (.inl (iv_oK (.int (Int32.ofNat 0)) 1)) := rfl
set_option maxRecDepth 100000 in
theorem y47_77 : iv_f1 (iv_p 47) 77 = some (.inl (iv_oI 5 2)) := rfl
set_option maxRecDepth 100000 in
theorem y47_79 : iv_f1 (iv_p 47) 79 = some (.inl (iv_oK (.long (Int64.ofNat 0)) 1)) := rfl
set_option maxRecDepth 100000 in
theorem y47_80 : iv_f1 (iv_p 47) 80 = some (.inl (iv_oS 3)) := rfl
set_option maxRecDepth 100000 in
theorem y47_83 : iv_f1 (iv_p 47) 83 = some (.inr (.inr (6, 51, 4, 5))) := rfl
set_option maxRecDepth 100000 in
theorem y47_86 : iv_f1 (iv_p 47) 86 = some (.inl (iv_oA 0 1)) := rfl
set_option maxRecDepth 100000 in
theorem y47_87 : iv_f1 (iv_p 47) 87 = some (.inl (iv_oI 4 2)) := rfl
set_option maxRecDepth 100000 in
theorem y47_89 : iv_f1 (iv_p 47) 89 = some (.inl (iv_oI 3 1)) := rfl
set_option maxRecDepth 100000 in
theorem y47_90 : iv_f1 (iv_p 47) 90 = some (.inl (iv_oIc .le (7))) := rfl
set_option maxRecDepth 100000 in
theorem y47_93 : iv_f1 (iv_p 47) 93 = some (.inl (iv_oK (.int (Int32.ofNat 1)) 1)) := rfl
set_option maxRecDepth 100000 in
theorem y47_94 : iv_f1 (iv_p 47) 94 = some (.inl (iv_oGo (4))) := rfl
set_option maxRecDepth 100000 in
theorem y47_97 : iv_f1 (iv_p 47) 97 = some (.inl (iv_oK (.int (Int32.ofNat 0)) 1)) := rfl
set_option maxRecDepth 100000 in
theorem y47_98 : iv_f1 (iv_p 47) 98 = some (.inl (iv_oPF 5 5 .boolean)) := rfl
set_option maxRecDepth 100000 in
theorem y47_101 : iv_f1 (iv_p 47) 101 = some (.inl (iv_oA 0 1)) := rfl
set_option maxRecDepth 100000 in
theorem y47_102 : iv_f1 (iv_p 47) 102 = some (.inl (iv_oK (.int (Int32.ofNat 0)) 1)) := rfl
set_option maxRecDepth 100000 in
theorem y47_103 : iv_f1 (iv_p 47) 103 = some (.inl (iv_oPF 5 11 .int)) := rfl
set_option maxRecDepth 100000 in
theorem y47_106 : iv_f1 (iv_p 47) 106 = some (.inl (iv_oA 0 1)) := rfl
set_option maxRecDepth 100000 in
theorem y47_107 : iv_f1 (iv_p 47) 107 = some (.inl (iv_oK (.int (Int32.ofNat 0)) 1)) := rfl
set_option maxRecDepth 100000 in
theorem y47_108 : iv_f1 (iv_p 47) 108 = some (.inl (iv_oPF 5 12 .int)) := rfl
set_option maxRecDepth 100000 in
theorem y47_111 : iv_f1 (iv_p 47) 111 = some (.inl (iv_oA 0 1)) := rfl
set_option maxRecDepth 100000 in
theorem y47_112 : iv_f1 (iv_p 47) 112 = some (.inl (iv_oK (.int (Int32.ofInt (-1))) 1)) := rfl
set_option maxRecDepth 100000 in
theorem y47_113 : iv_f1 (iv_p 47) 113 = some (.inl (iv_oPF 5 6 .int)) := rfl
set_option maxRecDepth 100000 in
theorem y47_116 : iv_f1 (iv_p 47) 116 = some (.inl (iv_oA 0 1)) := rfl
set_option maxRecDepth 100000 in
theorem y47_117 : iv_f1 (iv_p 47) 117 = some (.inr (.inr (6, 52, 0, 5))) := rfl
set_option maxRecDepth 100000 in
theorem y47_120 : iv_f1 (iv_p 47) 120 = some (.inr (.inl 0)) := rfl
theorem yc_op1 {L : Nat} {xs : Nat → Int32} {Post : Option Value → iv_H → Prop} {d : Nat} {T : Nat → Nat} {n m lim : Nat} (hn : n ≤ 940) (hm : m ≤ 900) (hln : lim ≤ n) (hlm : lim ≤ m) (hT : ∀ i, T i ≤ 255) : ∀ (j i c : Nat) (σ : iv_H) (V : Nat → Value) (K P : Nat → Int32) (X : Nat → Int64) (Q : Nat → Option Nat) (lv : iv_L), lim - i = j → i ≤ lim → c ≤ i → ypk T n m c ≤ n → (ypk T n m c ≤ i → yBl T (ypk T n m c) i) → yTks T n m c K P X Q → iv_get σ 2 = some (yai 940 (ytp T)) → iv_get σ 356 = some (yob 5 13 V) → iv_get σ 358 = some (yai 901 K) → iv_get σ 360 = some (yai 901 P) → iv_get σ 362 = some (yaj 901 X) → iv_get σ 364 = some (yaq 901 Q) → V 0 = .int (Int32.ofNat c) → V 1 = .ref 358 → V 2 = .ref 360 → V 3 = .ref 362 → V 4 = .ref 364 → iv_f1 lv 0 = some (.ref 356) → iv_f1 lv 1 = some (.ref 2) → iv_f1 lv 3 = some (.int (Int32.ofNat m)) → iv_f1 lv 4 = some (.int (Int32.ofNat n)) → iv_f1 lv 5 = some (.int (Int32.ofNat lim)) → iv_f1 lv 6 = some (.int (Int32.ofNat (ypk T n m c))) → iv_f1 lv 7 = some (.int (Int32.ofNat i)) → (∀ (σ1 : iv_H) (V1 : Nat → Value) (K1 P1 : Nat → Int32) (X1 : Nat → Int64) (Q1 : Nat → Option Nat) (c1 : Nat) (lv1 : iv_L), c1 ≤ lim → ypk T n m c1 ≤ n → lim ≤ ysk T n (ypk T n m c1) → yTks T n m c1 K1 P1 X1 Q1 → iv_get σ1 356 = some (yob 5 13 V1) → iv_get σ1 358 = some (yai 901 K1) → iv_get σ1 360 = some (yai 901 P1) → iv_get σ1 362 = some (yaj 901 X1) → iv_get σ1 364 = some (yaq 901 Q1) → V1 0 = .int (Int32.ofNat c1) → yAg [0] V V1 → yFr [356, 358, 360, 362, 364] σ σ1 → iv_f1 lv1 0 = some (.ref 356) → iv_f1 lv1 1 = some (.ref 2) → iv_f1 lv1 3 = some (.int (Int32.ofNat m)) → iv_f1 lv1 4 = some (.int (Int32.ofNat n)) → iv_f1 lv1 5 = some (.int (Int32.ofNat lim)) → zGo L xs Post [] (d + 4) 47 75 lv1 [] σ1) → zGo L xs Post [] (d + 4) 47 31 lv [] σ := by
  intro j
  induction j using Nat.strongRecOn with
  | _ j ih =>
  intro i c σ V K P X Q lv hj hi hc hpn hb ht gt g gk gp gv gw v0 v1 v2 v3 v4 l0 l1 l3 l4 l5 l6 l7 KK
  refine w_I y47_31 l7 ?_
  refine w_I y47_33 l5 ?_
  by_cases c82 : i ≥ lim
  · skip
    refine y_icT y47_35 rfl (by omega) (by omega) (by simp only [zch]; omega) ?_
    have ei : i = lim := by omega
    have hge : lim ≤ ysk T n (ypk T n m c) := by
      by_cases h : ypk T n m c ≤ i
      · have := ysk_ge2 (T := T) (n := n) h (by omega) (hb h)
        omega
      · have := ysk_ge (T := T) (n := n) (i := ypk T n m c)
        omega
    exact KK σ V K P X Q c lv (by omega) hpn hge ht g gk gp gv gw v0 yA_rf yF_rf l0 l1 l3 l4 l5
  · skip
    refine y_icF y47_35 rfl (by omega) (by omega) (by simp only [zch]; omega) ?_
    refine w_I y47_38 l7 ?_
    refine w_I y47_40 l6 ?_
    by_cases c83 : i < ypk T n m c
    · skip
      refine y_icT y47_42 rfl (by omega) (by omega) (by simp only [zch]; omega) ?_
      refine w_inc y47_69 (x := i) l7 ?_
      refine w_go y47_72 rfl ?_
      exact ih (lim - (i + 1)) (by omega) (i + 1) c σ V K P X Q _ rfl (by omega) (by omega) hpn (fun h x h1 h2 => by omega) ht gt g gk gp gv gw v0 v1 v2 v3 v4 (y_l1 rfl rfl l0) (y_l1 rfl rfl l1) (y_l1 rfl rfl l3) (y_l1 rfl rfl l4) (y_l1 rfl rfl l5) (y_l1 rfl rfl l6) y_l0 KK
    · skip
      refine y_icF y47_42 rfl (by omega) (by omega) (by simp only [zch]; omega) ?_
      refine w_A y47_45 l1 ?_
      refine w_I y47_46 l7 ?_
      refine y_il y47_48 gt rfl rfl (by omega) (by decide) ?_
      have t84 := hT i
      refine y_call y47_49 (y_args4 rfl rfl) rfl (yc_bl (hT _)) ?_
      rcases y_bc (ysB (T i)) with b85 | b85
      · skip
        refine w_ifF y47_52 rfl (y_bneF b85) ?_
        refine w_I y47_55 l7 ?_
        refine w_A y47_57 l0 ?_
        refine w_A y47_58 l1 ?_
        refine w_I y47_59 l4 ?_
        refine w_I y47_61 l7 ?_
        have es : ysk T n (ypk T n m c) = i := ysk_at (by omega) (by omega) (hb (by omega)) b85
        have hi1 : i < n := by omega
        have hi2 : i < m := by omega
        obtain ⟨σ86, r86, V86, x86, wd86, g86, a86, z86, gk86, gp86, gv86, gw86, f86, tc86⟩ := yc_rt (L := L) (xs := xs) (d := d + 3) (n := n) (s := i) (c := c) (by omega) hn (by omega) (by omega) hT g gk gp gv gw v1 v2 v3 v4 v0 gt
        have tks86 := yTks_add ht es hi1 hi2 tc86
        clear tc86
        refine y_call y47_63 (y_args6 g rfl rfl) rfl r86 ?_
        have cl := ycl_le (T := T) (n := n) (s := i) (by omega)
        refine w_add y47_66 ?_
        refine w_IS y47_67 ?_
        refine w_inc y47_69 (x := i) (y_l1 rfl rfl l7) ?_
        refine w_go y47_72 rfl ?_
        have ep : ypk T n m (c + 1) = i + ycl T n i := by
          show yto T n m (ypk T n m c) = _
          rw [yto_lay (by omega) (by omega), es]
        have w1 : V86 1 = _ := (a86 1 (by rfl)).trans v1
        have w2 : V86 2 = _ := (a86 2 (by rfl)).trans v2
        have w3 : V86 3 = _ := (a86 3 (by rfl)).trans v3
        have w4 : V86 4 = _ := (a86 4 (by rfl)).trans v4
        exact ih (lim - (i + 1)) (by omega) (i + 1) (c + 1) σ86 V86 _ _ _ _ _ rfl (by omega) (by omega) (by omega) (fun h x h1 h2 => by omega) tks86 (yF_n f86 (by rfl) gt) g86 gk86 gp86 gv86 gw86 z86 w1 w2 w3 w4 (y_l1 rfl rfl (y_l1 rfl rfl l0)) (y_l1 rfl rfl (y_l1 rfl rfl l1)) (y_l1 rfl rfl (y_l1 rfl rfl l3)) (y_l1 rfl rfl (y_l1 rfl rfl l4)) (y_l1 rfl rfl (y_l1 rfl rfl l5)) (by rw [ep]; exact (y_l1 rfl rfl y_l0)) y_l0 (fun σ1 V1 K1 P1 X1 Q1 c1 lv1 q1 q2 q3 q4 q5 q6 q7 q8 q9 q10 q11 q12 => KK σ1 V1 K1 P1 X1 Q1 c1 lv1 q1 q2 q3 q4 q5 q6 q7 q8 q9 q10 (yA_tr a86 q11) (yF_tr f86 q12))
      · skip
        refine w_ifT y47_52 rfl (y_bneT b85) ?_
        refine w_inc y47_69 (x := i) l7 ?_
        refine w_go y47_72 rfl ?_
        exact ih (lim - (i + 1)) (by omega) (i + 1) c σ V K P X Q _ rfl (by omega) (by omega) hpn (fun h x h1 h2 => by
            by_cases e : x = i
            · rw [e]
              exact b85
            · exact hb (by omega) x h1 (by omega)) ht gt g gk gp gv gw v0 v1 v2 v3 v4 (y_l1 rfl rfl l0) (y_l1 rfl rfl l1) (y_l1 rfl rfl l3) (y_l1 rfl rfl l4) (y_l1 rfl rfl l5) (y_l1 rfl rfl l6) y_l0 KK
/-- where the class's text ends -/
def ylim (n m : Nat) : Nat := if m < n then m else n
/-- the class stands at the token that begins from p on -/
abbrev yCMx (T : Nat → Nat) (n m p : Nat) (V : Nat → Value) (σ : iv_H) : Prop := ∃ (c k : Nat) (K P : Nat → Int32) (X : Nat → Int64) (Q : Nat → Option Nat), ((c ≤ 900 ∧ k ≤ c ∧ p = ypk T n m k ∧ p ≤ n) ∧ yTks T n m c K P X Q ∧ ylim n m ≤ ysk T n (ypk T n m c) ∧ K c = Int32.ofNat 0 ∧ P c = Int32.ofNat (ylim n m) ∧ Q c = some 3) ∧ (iv_get σ 356 = some (yob 5 13 V) ∧ iv_get σ 358 = some (yai 901 K) ∧ iv_get σ 360 = some (yai 901 P) ∧ iv_get σ 362 = some (yaj 901 X) ∧ iv_get σ 364 = some (yaq 901 Q)) ∧ (V 1 = .ref 358 ∧ V 2 = .ref 360 ∧ V 3 = .ref 362 ∧ V 4 = .ref 364 ∧ V 11 = .int (Int32.ofNat 0)) ∧ V 0 = .int (Int32.ofNat (c + 1)) ∧ V 5 = .int (yb (decide (m < n))) ∧ V 6 = .int (Int32.ofNat k) ∧ V 7 = .int (P k) ∧ V 8 = .int (K k) ∧ (∃ wd, Q k = some wd ∧ V 9 = .ref wd) ∧ V 10 = .long (X k)
def yCM (T : Nat → Nat) (n m p : Nat) (V : Nat → Value) (σ : iv_H) : Prop := yCMx T n m p V σ
theorem yc_open {L : Nat} {xs : Nat → Int32} {d : Nat} {V : Nat → Value} {σ : iv_H} {K P : Nat → Int32} {X : Nat → Int64} {Q : Nat → Option Nat} {T : Nat → Nat} {n m : Nat} (hd : 5 ≤ d) (hn : n ≤ 940) (hm : m ≤ 900) (hT : ∀ i, T i ≤ 255) (g : iv_get σ 356 = some (yob 5 13 V)) (gk : iv_get σ 358 = some (yai 901 K)) (gp : iv_get σ 360 = some (yai 901 P)) (gv : iv_get σ 362 = some (yaj 901 X)) (gw : iv_get σ 364 = some (yaq 901 Q)) (v1 : V 1 = .ref 358) (v2 : V 2 = .ref 360) (v3 : V 3 = .ref 362) (v4 : V 4 = .ref 364) (gt : iv_get σ 2 = some (yai 940 (ytp T))) : ∃ σ1, iv_Rn L xs d 47 0 (lv_args 0 [.ref 356, .ref 2, .int (Int32.ofNat n), .int (Int32.ofNat m)]) [] σ none σ1 ∧ ∃ V1, yCM T n m 0 V1 σ1 ∧ V1 11 = .int (Int32.ofNat 0) ∧ V1 12 = .int (Int32.ofNat 0) ∧ yFr [356, 358, 360, 362, 364] σ σ1 := by
  obtain ⟨d, rfl⟩ : ∃ e, d = e + 5 := ⟨d - 5, by omega⟩
  refine y_R0 ?_
  have hl1 : ylim n m ≤ n := by unfold ylim; split <;> omega
  have hl2 : ylim n m ≤ m := by unfold ylim; split <;> omega
  refine w_K y47_0 ?_
  refine w_I y47_1 rfl ?_
  refine w_A y47_2 rfl ?_
  refine y_len y47_3 gt rfl ?_
  refine y_mn (z := n) y47_4 rfl (by omega) (by omega) (by rw [if_neg (by omega)]) ?_
  refine y_mx (z := n) y47_7 rfl (by omega) (by omega) (by by_cases h : 0 < n; rw [if_pos h]; rw [if_neg h]; omega) ?_
  refine w_IS y47_10 ?_
  refine w_I y47_12 rfl ?_
  refine w_I y47_14 rfl ?_
  refine y_mn (z := ylim n m) y47_15 rfl (by omega) (by omega) rfl ?_
  refine w_IS y47_18 ?_
  refine w_K y47_20 ?_
  refine w_IS y47_21 ?_
  refine w_A y47_23 rfl ?_
  refine w_K y47_24 ?_
  refine y_pf y47_25 g rfl rfl ?_
  intro σ88 h87
  refine w_K y47_28 ?_
  refine w_IS y47_29 ?_
  have g89 := (mD_n h87 (by decide) gt)
  have g90 := (mD_n h87 (by decide) gk)
  have g91 := (mD_n h87 (by decide) gp)
  have g92 := (mD_n h87 (by decide) gv)
  have g93 := (mD_n h87 (by decide) gw)
  refine yc_op1 (d := d + 1) hn hm hl1 hl2 hT (ylim n m - 0) 0 0 _ _ K P X Q _ rfl (by omega) (by omega) (Nat.zero_le _) (fun _ x h1 h2 => by omega) (fun k hk => by omega) g89 h87.2.1 g90 g91 g92 g93 rfl v1 v2 v3 v4 rfl rfl rfl rfl rfl rfl rfl ?_
  intro σ2 V2 K2 P2 X2 Q2 c lv2 hc hpn hge ht g2 gk2 gp2 gv2 gw2 z2 a2 f2 m0 m1 m3 m4 m5
  have w1 : V2 1 = _ := (a2 1 (by rfl)).trans v1
  have w2 : V2 2 = _ := (a2 2 (by rfl)).trans v2
  have w3 : V2 3 = _ := (a2 3 (by rfl)).trans v3
  have w4 : V2 4 = _ := (a2 4 (by rfl)).trans v4
  refine w_A y47_75 m0 ?_
  refine w_K y47_76 ?_
  refine w_I y47_77 m5 ?_
  refine w_K y47_79 ?_
  refine zGo_s y47_80 rfl ?_
  obtain ⟨σ94, r94, V94, g94, a94, z94, gk94, gp94, gv94, gw94, f94⟩ := yc_add (L := L) (xs := xs) (d := d + 4) (kd := 0) (pl := ylim n m) (wd := 3) (v := Int64.ofNat 0) (c := c) (by omega) rfl g2 gk2 gp2 gv2 gw2 w1 w2 w3 w4 z2
  refine y_call0 y47_83 (y_args6 g2 rfl rfl) rfl r94 ?_
  have u1 : V94 1 = _ := (a94 1 (by rfl)).trans w1
  have u2 : V94 2 = _ := (a94 2 (by rfl)).trans w2
  have u3 : V94 3 = _ := (a94 3 (by rfl)).trans w3
  have u4 : V94 4 = _ := (a94 4 (by rfl)).trans w4
  refine w_A y47_86 m0 ?_
  refine w_I y47_87 m4 ?_
  refine w_I y47_89 m3 ?_
  by_cases c95 : n ≤ m
  · skip
    refine y_icT y47_90 rfl (by omega) (by omega) (by simp only [zch]; omega) ?_
    refine w_K y47_97 ?_
    refine y_pf y47_98 g94 rfl rfl ?_
    intro σ97 h96
    refine w_A y47_101 m0 ?_
    refine w_K y47_102 ?_
    refine y_pf y47_103 h96.2.1 rfl rfl ?_
    intro σ99 h98
    refine w_A y47_106 m0 ?_
    refine w_K y47_107 ?_
    refine y_pf y47_108 h98.2.1 rfl rfl ?_
    intro σ101 h100
    refine w_A y47_111 m0 ?_
    refine w_K y47_112 ?_
    refine y_pf y47_113 h100.2.1 rfl rfl ?_
    intro σ103 h102
    refine w_A y47_116 m0 ?_
    have hq : ∃ wd, (va_up Q2 c (some 3)) 0 = some wd := by
      by_cases e : 0 = c
      · exact ⟨3, if_pos e⟩
      · obtain ⟨_, _, _, w, h, _⟩ := ht 0 (by omega)
        exact ⟨w, (if_neg e).trans h⟩
    obtain ⟨wd, hq⟩ := hq
    have g105 := (mD_n h102 (by decide) (mD_n h100 (by decide) (mD_n h98 (by decide) (mD_n h96 (by decide) gk94))))
    have g106 := (mD_n h102 (by decide) (mD_n h100 (by decide) (mD_n h98 (by decide) (mD_n h96 (by decide) gp94))))
    have g107 := (mD_n h102 (by decide) (mD_n h100 (by decide) (mD_n h98 (by decide) (mD_n h96 (by decide) gv94))))
    have g108 := (mD_n h102 (by decide) (mD_n h100 (by decide) (mD_n h98 (by decide) (mD_n h96 (by decide) gw94))))
    obtain ⟨σ104, r104, V104, g104, a104, x6, x7, x8, x9, x10, f104⟩ := yc_adv (L := L) (xs := xs) (d := d + 4) (c := c + 1) (k := 0) (x := Int32.ofInt (-1)) (by omega) (by omega) rfl hq h102.2.1 g105 g106 g107 g108 u1 u2 u3 u4 z94 rfl
    refine y_call0 y47_117 (y_args6 h102.2.1 rfl rfl) rfl r104 ?_
    have n0 : V104 0 = _ := (a104 0 (by rfl)).trans z94
    have n1 : V104 1 = _ := (a104 1 (by rfl)).trans u1
    have n2 : V104 2 = _ := (a104 2 (by rfl)).trans u2
    have n3 : V104 3 = _ := (a104 3 (by rfl)).trans u3
    have n4 : V104 4 = _ := (a104 4 (by rfl)).trans u4
    have n5 : V104 5 = _ := (a104 5 (by rfl)).trans rfl
    have n11 : V104 11 = _ := (a104 11 (by rfl)).trans rfl
    have n12 : V104 12 = _ := (a104 12 (by rfl)).trans rfl
    have sets : yTks T n m c (upd K2 c (Int32.ofNat 0)) (upd P2 c (Int32.ofNat (ylim n m))) (vp_updL X2 c (Int64.ofNat 0)) (va_up Q2 c (some 3)) := fun i hi => by
      have e : ¬ i = c := by omega
      obtain ⟨b1, b2, b3, w, b4, b5⟩ := ht i hi
      rw [upd_at, if_neg e, upd_at, if_neg e, updL_at, if_neg e]
      exact ⟨b1, b2, b3, w, (if_neg e).trans b4, b5⟩
    have g109 := (yF_n f104 (by rfl) g105)
    have g110 := (yF_n f104 (by rfl) g106)
    have g111 := (yF_n f104 (by rfl) g107)
    have g112 := (yF_n f104 (by rfl) g108)
    refine w_ret0 y47_120 ⟨rfl, V104, (show yCMx T n m 0 _ _ from ⟨c, 0, _, _, _, _, ⟨⟨by omega, Nat.zero_le _, rfl, Nat.zero_le _⟩, sets, hge, if_pos rfl, if_pos rfl, if_pos rfl⟩, ⟨g104, g109, g110, g111, g112⟩, ⟨n1, n2, n3, n4, n11⟩, n0, ?_, x6, x7, x8, ⟨wd, hq, x9⟩, x10⟩), n11, n12, yF_tr (yF_D h87 (by rfl)) (yF_tr f2 (yF_tr (yF_sub (by rfl) f94) (yF_tr (yF_D h96 (by rfl)) (yF_tr (yF_D h98 (by rfl)) (yF_tr (yF_D h100 (by rfl)) (yF_tr (yF_D h102 (by rfl)) (yF_sub (by rfl) f104)))))))⟩
    rw [decide_eq_false (by omega)]; exact n5
  · skip
    refine y_icF y47_90 rfl (by omega) (by omega) (by simp only [zch]; omega) ?_
    refine w_K y47_93 ?_
    refine w_go y47_94 rfl ?_
    refine y_pf y47_98 g94 rfl rfl ?_
    intro σ114 h113
    refine w_A y47_101 m0 ?_
    refine w_K y47_102 ?_
    refine y_pf y47_103 h113.2.1 rfl rfl ?_
    intro σ116 h115
    refine w_A y47_106 m0 ?_
    refine w_K y47_107 ?_
    refine y_pf y47_108 h115.2.1 rfl rfl ?_
    intro σ118 h117
    refine w_A y47_111 m0 ?_
    refine w_K y47_112 ?_
    refine y_pf y47_113 h117.2.1 rfl rfl ?_
    intro σ120 h119
    refine w_A y47_116 m0 ?_
    have hq : ∃ wd, (va_up Q2 c (some 3)) 0 = some wd := by
      by_cases e : 0 = c
      · exact ⟨3, if_pos e⟩
      · obtain ⟨_, _, _, w, h, _⟩ := ht 0 (by omega)
        exact ⟨w, (if_neg e).trans h⟩
    obtain ⟨wd, hq⟩ := hq
    have g122 := (mD_n h119 (by decide) (mD_n h117 (by decide) (mD_n h115 (by decide) (mD_n h113 (by decide) gk94))))
    have g123 := (mD_n h119 (by decide) (mD_n h117 (by decide) (mD_n h115 (by decide) (mD_n h113 (by decide) gp94))))
    have g124 := (mD_n h119 (by decide) (mD_n h117 (by decide) (mD_n h115 (by decide) (mD_n h113 (by decide) gv94))))
    have g125 := (mD_n h119 (by decide) (mD_n h117 (by decide) (mD_n h115 (by decide) (mD_n h113 (by decide) gw94))))
    obtain ⟨σ121, r121, V121, g121, a121, x6, x7, x8, x9, x10, f121⟩ := yc_adv (L := L) (xs := xs) (d := d + 4) (c := c + 1) (k := 0) (x := Int32.ofInt (-1)) (by omega) (by omega) rfl hq h119.2.1 g122 g123 g124 g125 u1 u2 u3 u4 z94 rfl
    refine y_call0 y47_117 (y_args6 h119.2.1 rfl rfl) rfl r121 ?_
    have n0 : V121 0 = _ := (a121 0 (by rfl)).trans z94
    have n1 : V121 1 = _ := (a121 1 (by rfl)).trans u1
    have n2 : V121 2 = _ := (a121 2 (by rfl)).trans u2
    have n3 : V121 3 = _ := (a121 3 (by rfl)).trans u3
    have n4 : V121 4 = _ := (a121 4 (by rfl)).trans u4
    have n5 : V121 5 = _ := (a121 5 (by rfl)).trans rfl
    have n11 : V121 11 = _ := (a121 11 (by rfl)).trans rfl
    have n12 : V121 12 = _ := (a121 12 (by rfl)).trans rfl
    have sets : yTks T n m c (upd K2 c (Int32.ofNat 0)) (upd P2 c (Int32.ofNat (ylim n m))) (vp_updL X2 c (Int64.ofNat 0)) (va_up Q2 c (some 3)) := fun i hi => by
      have e : ¬ i = c := by omega
      obtain ⟨b1, b2, b3, w, b4, b5⟩ := ht i hi
      rw [upd_at, if_neg e, upd_at, if_neg e, updL_at, if_neg e]
      exact ⟨b1, b2, b3, w, (if_neg e).trans b4, b5⟩
    have g126 := (yF_n f121 (by rfl) g122)
    have g127 := (yF_n f121 (by rfl) g123)
    have g128 := (yF_n f121 (by rfl) g124)
    have g129 := (yF_n f121 (by rfl) g125)
    refine w_ret0 y47_120 ⟨rfl, V121, (show yCMx T n m 0 _ _ from ⟨c, 0, _, _, _, _, ⟨⟨by omega, Nat.zero_le _, rfl, Nat.zero_le _⟩, sets, hge, if_pos rfl, if_pos rfl, if_pos rfl⟩, ⟨g121, g126, g127, g128, g129⟩, ⟨n1, n2, n3, n4, n11⟩, n0, ?_, x6, x7, x8, ⟨wd, hq, x9⟩, x10⟩), n11, n12, yF_tr (yF_D h87 (by rfl)) (yF_tr f2 (yF_tr (yF_sub (by rfl) f94) (yF_tr (yF_D h113 (by rfl)) (yF_tr (yF_D h115 (by rfl)) (yF_tr (yF_D h117 (by rfl)) (yF_tr (yF_D h119 (by rfl)) (yF_sub (by rfl) f121)))))))⟩
    rw [decide_eq_true (by omega)]; exact n5
