/-! ===== printed by wip/gen/gen_a5.py: strokes and places, by hand ===== -/
theorem f195_0 : iv_f1 (iv_p 195) 0 = some (.inl (iv_oA 0 1)) := rfl
theorem f195_1 : iv_f1 (iv_p 195) 1 = some (.inl (iv_oGF 12 14)) := rfl
theorem f195_4 : iv_f1 (iv_p 195) 4 = some (.inl (iv_oK (.int (Int32.ofNat 49)) 2)) := rfl
theorem f195_6 : iv_f1 (iv_p 195) 6 = some (.inl (iv_oI 1 1)) := rfl
theorem f195_7 : iv_f1 (iv_p 195) 7 = some (.inl (iv_oII fun x y => x + y)) := rfl
theorem f195_8 : iv_f1 (iv_p 195) 8 = some (.inl (iv_oIl)) := rfl
theorem f195_9 : iv_f1 (iv_p 195) 9 = some (.inl (iv_oK (.int (-1)) 1)) := rfl
theorem f195_10 : iv_f1 (iv_p 195) 10 = some (.inl (iv_oIc .eq (7))) := rfl
theorem f195_17 : iv_f1 (iv_p 195) 17 = some (.inl (iv_oK (.int (Int32.ofNat 0)) 1)) := rfl
theorem f195_18 : iv_f1 (iv_p 195) 18 = some (.inr (.inl 2)) := rfl
theorem f195_13 : iv_f1 (iv_p 195) 13 = some (.inl (iv_oK (.int (Int32.ofNat 1)) 1)) := rfl
theorem f195_14 : iv_f1 (iv_p 195) 14 = some (.inl (iv_oGo (4))) := rfl
theorem f198_27 : iv_f1 (iv_p 198) 27 = some (.inl (iv_oDI fun x y => x / y)) := rfl
theorem f198_0 : iv_f1 (iv_p 198) 0 = some (.inl (iv_oA 0 1)) := rfl
theorem f198_1 : iv_f1 (iv_p 198) 1 = some (.inl (iv_oGF 12 14)) := rfl
theorem f198_4 : iv_f1 (iv_p 198) 4 = some (.inl (iv_oK (.int (Int32.ofNat 26)) 2)) := rfl
theorem f198_6 : iv_f1 (iv_p 198) 6 = some (.inl (iv_oI 1 1)) := rfl
theorem f198_7 : iv_f1 (iv_p 198) 7 = some (.inl (iv_oII fun x y => x + y)) := rfl
theorem f198_8 : iv_f1 (iv_p 198) 8 = some (.inl (iv_oIl)) := rfl
theorem f198_9 : iv_f1 (iv_p 198) 9 = some (.inl (iv_oA 0 1)) := rfl
theorem f198_10 : iv_f1 (iv_p 198) 10 = some (.inl (iv_oGF 12 14)) := rfl
theorem f198_13 : iv_f1 (iv_p 198) 13 = some (.inl (iv_oK (.int (Int32.ofNat 77)) 2)) := rfl
theorem f198_15 : iv_f1 (iv_p 198) 15 = some (.inl (iv_oI 1 1)) := rfl
theorem f198_16 : iv_f1 (iv_p 198) 16 = some (.inl (iv_oII fun x y => x + y)) := rfl
theorem f198_17 : iv_f1 (iv_p 198) 17 = some (.inl (iv_oIl)) := rfl
theorem f198_18 : iv_f1 (iv_p 198) 18 = some (.inl (iv_oA 0 1)) := rfl
theorem f198_19 : iv_f1 (iv_p 198) 19 = some (.inl (iv_oGF 12 14)) := rfl
theorem f198_22 : iv_f1 (iv_p 198) 22 = some (.inl (iv_oK (.int (Int32.ofNat 32)) 2)) := rfl
theorem f198_24 : iv_f1 (iv_p 198) 24 = some (.inl (iv_oI 1 1)) := rfl
theorem f198_25 : iv_f1 (iv_p 198) 25 = some (.inl (iv_oII fun x y => x + y)) := rfl
theorem f198_26 : iv_f1 (iv_p 198) 26 = some (.inl (iv_oIl)) := rfl
theorem f198_28 : iv_f1 (iv_p 198) 28 = some (.inl (iv_oII fun x y => x - y)) := rfl
theorem f198_29 : iv_f1 (iv_p 198) 29 = some (.inl (iv_oIS 2 1)) := rfl
theorem f198_30 : iv_f1 (iv_p 198) 30 = some (.inl (iv_oI 2 1)) := rfl
theorem f198_31 : iv_f1 (iv_p 198) 31 = some (.inl (iv_oIf .ge (7))) := rfl
theorem f198_34 : iv_f1 (iv_p 198) 34 = some (.inl (iv_oK (.int (Int32.ofNat 0)) 1)) := rfl
theorem f198_35 : iv_f1 (iv_p 198) 35 = some (.inl (iv_oGo (4))) := rfl
theorem f198_39 : iv_f1 (iv_p 198) 39 = some (.inr (.inl 1)) := rfl
theorem f198_38 : iv_f1 (iv_p 198) 38 = some (.inl (iv_oI 2 1)) := rfl
theorem f199_0 : iv_f1 (iv_p 199) 0 = some (.inl (iv_oA 0 1)) := rfl
theorem f199_1 : iv_f1 (iv_p 199) 1 = some (.inl (iv_oI 1 1)) := rfl
theorem f199_2 : iv_f1 (iv_p 199) 2 = some (.inr (.inr (6, 198, 1, 12))) := rfl
theorem f199_5 : iv_f1 (iv_p 199) 5 = some (.inl (iv_oIS 4 2)) := rfl
theorem f199_7 : iv_f1 (iv_p 199) 7 = some (.inl (iv_oI 3 1)) := rfl
theorem f199_8 : iv_f1 (iv_p 199) 8 = some (.inl (iv_oIf .ne (14))) := rfl
theorem f199_22 : iv_f1 (iv_p 199) 22 = some (.inl (iv_oI 4 2)) := rfl
theorem f199_24 : iv_f1 (iv_p 199) 24 = some (.inl (iv_oA 0 1)) := rfl
theorem f199_25 : iv_f1 (iv_p 199) 25 = some (.inl (iv_oGF 12 14)) := rfl
theorem f199_28 : iv_f1 (iv_p 199) 28 = some (.inl (iv_oK (.int (Int32.ofNat 12)) 2)) := rfl
theorem f199_30 : iv_f1 (iv_p 199) 30 = some (.inl (iv_oI 2 1)) := rfl
theorem f199_31 : iv_f1 (iv_p 199) 31 = some (.inl (iv_oII fun x y => x + y)) := rfl
theorem f199_32 : iv_f1 (iv_p 199) 32 = some (.inl (iv_oIl)) := rfl
theorem f199_33 : iv_f1 (iv_p 199) 33 = some (.inl (iv_oIc .gt (5))) := rfl
theorem f199_36 : iv_f1 (iv_p 199) 36 = some (.inl (iv_oK (.int (Int32.ofNat 0)) 1)) := rfl
theorem f199_37 : iv_f1 (iv_p 199) 37 = some (.inr (.inl 1)) := rfl
theorem f199_38 : iv_f1 (iv_p 199) 38 = some (.inl (iv_oI 4 2)) := rfl
theorem f199_40 : iv_f1 (iv_p 199) 40 = some (.inl (iv_oA 0 1)) := rfl
theorem f199_41 : iv_f1 (iv_p 199) 41 = some (.inl (iv_oGF 12 14)) := rfl
theorem f199_44 : iv_f1 (iv_p 199) 44 = some (.inl (iv_oK (.int (Int32.ofNat 12)) 2)) := rfl
theorem f199_46 : iv_f1 (iv_p 199) 46 = some (.inl (iv_oI 2 1)) := rfl
theorem f199_47 : iv_f1 (iv_p 199) 47 = some (.inl (iv_oII fun x y => x + y)) := rfl
theorem f199_48 : iv_f1 (iv_p 199) 48 = some (.inl (iv_oIl)) := rfl
theorem f199_49 : iv_f1 (iv_p 199) 49 = some (.inl (iv_oII fun x y => x - y)) := rfl
theorem f199_50 : iv_f1 (iv_p 199) 50 = some (.inl (iv_oI 3 1)) := rfl
theorem f199_51 : iv_f1 (iv_p 199) 51 = some (.inl (iv_oK (.int (Int32.ofNat 2)) 1)) := rfl
theorem f199_52 : iv_f1 (iv_p 199) 52 = some (.inl (iv_oIc .ne (7))) := rfl
theorem f199_59 : iv_f1 (iv_p 199) 59 = some (.inl (iv_oK (.int (Int32.ofNat 1)) 1)) := rfl
theorem f199_60 : iv_f1 (iv_p 199) 60 = some (.inl (iv_oII fun x y => x * y)) := rfl
theorem f199_61 : iv_f1 (iv_p 199) 61 = some (.inr (.inl 1)) := rfl
theorem f227_2 : iv_f1 (iv_p 227) 2 = some (.inr (.inr (6, 195, 1, 12))) := rfl
theorem f227_0 : iv_f1 (iv_p 227) 0 = some (.inl (iv_oA 0 1)) := rfl
theorem f227_1 : iv_f1 (iv_p 227) 1 = some (.inl (iv_oI 1 1)) := rfl
theorem f227_5 : iv_f1 (iv_p 227) 5 = some (.inl (iv_oIf .eq (21))) := rfl
theorem f227_26 : iv_f1 (iv_p 227) 26 = some (.inl (iv_oK (.int (Int32.ofNat 0)) 1)) := rfl
theorem f227_27 : iv_f1 (iv_p 227) 27 = some (.inr (.inl 1)) := rfl
theorem f227_8 : iv_f1 (iv_p 227) 8 = some (.inl (iv_oA 0 1)) := rfl
theorem f227_9 : iv_f1 (iv_p 227) 9 = some (.inl (iv_oA 0 1)) := rfl
theorem f227_10 : iv_f1 (iv_p 227) 10 = some (.inl (iv_oGF 12 14)) := rfl
theorem f227_13 : iv_f1 (iv_p 227) 13 = some (.inl (iv_oK (.int (Int32.ofNat 49)) 2)) := rfl
theorem f227_15 : iv_f1 (iv_p 227) 15 = some (.inl (iv_oI 1 1)) := rfl
theorem f227_16 : iv_f1 (iv_p 227) 16 = some (.inl (iv_oII fun x y => x + y)) := rfl
theorem f227_17 : iv_f1 (iv_p 227) 17 = some (.inl (iv_oIl)) := rfl
theorem f227_18 : iv_f1 (iv_p 227) 18 = some (.inl (iv_oI 1 1)) := rfl
theorem f227_19 : iv_f1 (iv_p 227) 19 = some (.inl (iv_oK (.int (Int32.ofNat 1)) 1)) := rfl
theorem f227_20 : iv_f1 (iv_p 227) 20 = some (.inr (.inr (6, 199, 3, 12))) := rfl
theorem f227_23 : iv_f1 (iv_p 227) 23 = some (.inl (iv_oGo (4))) := rfl
theorem f228_2 : iv_f1 (iv_p 228) 2 = some (.inr (.inr (6, 195, 1, 12))) := rfl
theorem f228_0 : iv_f1 (iv_p 228) 0 = some (.inl (iv_oA 0 1)) := rfl
theorem f228_1 : iv_f1 (iv_p 228) 1 = some (.inl (iv_oI 1 1)) := rfl
theorem f228_5 : iv_f1 (iv_p 228) 5 = some (.inl (iv_oIf .eq (7))) := rfl
theorem f228_12 : iv_f1 (iv_p 228) 12 = some (.inl (iv_oK (.int (Int32.ofNat 0)) 1)) := rfl
theorem f228_13 : iv_f1 (iv_p 228) 13 = some (.inr (.inl 1)) := rfl
theorem f228_8 : iv_f1 (iv_p 228) 8 = some (.inl (iv_oK (.int (Int32.ofNat 3)) 1)) := rfl
theorem f228_9 : iv_f1 (iv_p 228) 9 = some (.inl (iv_oGo (4))) := rfl
theorem f229_0 : iv_f1 (iv_p 229) 0 = some (.inl (iv_oI 3 1)) := rfl
theorem f229_1 : iv_f1 (iv_p 229) 1 = some (.inl (iv_oK (.int (Int32.ofNat 0)) 1)) := rfl
theorem f229_2 : iv_f1 (iv_p 229) 2 = some (.inl (iv_oK (.int (Int32.ofNat 189)) 3)) := rfl
theorem f229_5 : iv_f1 (iv_p 229) 5 = some (.inr (.inr (4, 160, 3, 0))) := rfl
theorem f229_8 : iv_f1 (iv_p 229) 8 = some (.inl (iv_oIf .eq (15))) := rfl
theorem f229_11 : iv_f1 (iv_p 229) 11 = some (.inl (iv_oA 1 1)) := rfl
theorem f229_12 : iv_f1 (iv_p 229) 12 = some (.inl (iv_oK (.int (Int32.ofNat 190)) 3)) := rfl
theorem f229_15 : iv_f1 (iv_p 229) 15 = some (.inl (iv_oI 2 1)) := rfl
theorem f229_16 : iv_f1 (iv_p 229) 16 = some (.inl (iv_oII fun x y => x * y)) := rfl
theorem f229_17 : iv_f1 (iv_p 229) 17 = some (.inl (iv_oI 3 1)) := rfl
theorem f229_18 : iv_f1 (iv_p 229) 18 = some (.inl (iv_oII fun x y => x + y)) := rfl
theorem f229_19 : iv_f1 (iv_p 229) 19 = some (.inl (iv_oIl)) := rfl
theorem f229_20 : iv_f1 (iv_p 229) 20 = some (.inl (iv_oGo (4))) := rfl
theorem f229_24 : iv_f1 (iv_p 229) 24 = some (.inr (.inl 1)) := rfl
theorem f229_23 : iv_f1 (iv_p 229) 23 = some (.inl (iv_oK (.int (Int32.ofNat 0)) 1)) := rfl
theorem lv_s {lv : iv_L} {i j : Nat} {x v : Value} (h : iv_f1 lv i = some v) (hij : i ≠ j) (hv : v.category ≠ 2) : iv_f1 ((j, x) :: iv_d1 j lv) i = some v := by
  have h1 := iv_f1_d1 (i := j) h hij (fun _ => hv)
  show (bif Nat.beq j i then some x else iv_f1 (iv_d1 j lv) i) = some v
  cases hb : Nat.beq j i
  · exact h1
  · exact absurd (Nat.eq_of_beq_eq_true hb).symm hij
theorem lv_e {lv : iv_L} {j : Nat} {x : Value} : iv_f1 ((j, x) :: lv) j = some x := by
  show (bif Nat.beq j j then some x else iv_f1 lv j) = some x
  rw [Nat.beq_refl]
  rfl
theorem cI {x : Int32} : (Value.int x).category ≠ 2 := by show (1 : Nat) ≠ 2; decide
theorem cR {a : Nat} : (Value.ref a).category ≠ 2 := by show (1 : Nat) ≠ 2; decide
/-- locals but for those of B stay -/
def lvK (B : List Nat) (lv lv2 : iv_L) : Prop := ∀ (t : Nat) (v : Value), t ∉ B → v.category ≠ 2 → iv_f1 lv t = some v → iv_f1 lv2 t = some v
theorem lvK_rf {B : List Nat} {lv : iv_L} : lvK B lv lv := fun _ _ _ _ h => h
theorem lvK_s {B : List Nat} {lv lv2 : iv_L} {j : Nat} {x : Value} (h : lvK B lv lv2) (hj : j ∈ B) : lvK B lv ((j, x) :: iv_d1 j lv2) := fun t v ht hv e => lv_s (h t v ht hv e) (fun e2 => ht (e2 ▸ hj)) hv
theorem lvK_sub {B C : List Nat} {lv lv2 lv3 : iv_L} (h : lvK B lv lv2) (h2 : lvK C lv2 lv3) (hs : ∀ t, t ∈ C → t ∈ B) : lvK B lv lv3 := fun t v ht hv e => h2 t v (fun e2 => ht (hs t e2)) hv (h t v ht hv e)
theorem w_ii {L : Nat} {xs : Nat → Int32} {Post : Option Value → iv_H → Prop} {d M pc : Nat} {lv : iv_L} {st : List Value} {σ : iv_H} {g : Int32 → Int32 → Int32} {x y : Int32} (hf : iv_f1 (iv_p M) pc = some (.inl (iv_oII g))) (k : zGo L xs Post [] d M (pc + 1) lv (.int (g x y) :: st) σ) : zGo L xs Post [] d M pc lv (.int y :: .int x :: st) σ := zGo_s hf rfl k
theorem w_dv {L : Nat} {xs : Nat → Int32} {Post : Option Value → iv_H → Prop} {d M pc : Nat} {lv : iv_L} {st : List Value} {σ : iv_H} {x y : Int32} (hf : iv_f1 (iv_p M) pc = some (.inl (iv_oDI fun x y => x / y))) (hy : ¬ y = 0) (k : zGo L xs Post [] d M (pc + 1) lv (.int (x / y) :: st) σ) : zGo L xs Post [] d M pc lv (.int y :: .int x :: st) σ := zGo_s hf (by
  show (bif decide (y = 0) then none else some _) = _
  rw [decide_eq_false hy]
  rfl) k
theorem w_args1 {σ : iv_H} {fs : List Value} {st : List Value} {x : Value} (ho : iv_get σ 548 = some (.inr (12, fs))) (hs : Nat.ble (iv_cs st) 8 = true := by rfl) : iv_args 6 1 12 (x :: .ref 548 :: st) σ = some ([.ref 548, x], st) := by
  simp only [iv_args, iv_pop, ho, hs, cond_true, show Nat.beq 6 4 = false from rfl, cond_false, show Nat.beq 6 6 = true from rfl, Nat.beq_refl]
theorem w_args3 {σ : iv_H} {fs : List Value} {st : List Value} {a b c : Value} (ho : iv_get σ 548 = some (.inr (12, fs))) (hs : Nat.ble (iv_cs st) 8 = true := by rfl) : iv_args 6 3 12 (c :: b :: a :: .ref 548 :: st) σ = some ([.ref 548, a, b, c], st) := by
  simp only [iv_args, iv_pop, ho, hs, cond_true, show Nat.beq 6 4 = false from rfl, cond_false, show Nat.beq 6 6 = true from rfl, Nat.beq_refl]
theorem w_args3s {σ : iv_H} {st : List Value} {a b c : Value} (hs : Nat.ble (iv_cs st) 8 = true := by rfl) : iv_args 4 3 0 (c :: b :: a :: st) σ = some ([a, b, c], st) := by
  simp only [iv_args, iv_pop, hs, cond_true, show Nat.beq 4 4 = true from rfl]
theorem c_eq {x y : Int32} (h : x = y) : iv_c2 .eq x y = true := zch_32.mpr (congrArg Int32.toInt h)
theorem c_ne {x y : Int32} (h : ¬ x = y) : iv_c2 .eq x y = false := c_f (fun e => h (Int32.toInt_inj.mp (zch_32.mp e)))
theorem c_neq {x : Int32} (h : ¬ x = 0) : iv_c2 .ne x 0 = true := zch_32.mpr (fun e => h (Int32.toInt_inj.mp e))
theorem c_gtT {a b : Nat} (h : b < a) (ha : a ≤ 1000000) : iv_c2 .gt (Int32.ofNat a) (Int32.ofNat b) = true := zch_32.mpr (by
  have e1 := i32_ev (n := a) (by omega)
  have e2 := i32_ev (n := b) (by omega)
  show (Int32.ofNat a).toInt > (Int32.ofNat b).toInt
  omega)
theorem c_gtF {a b : Nat} (h : a ≤ b) (hb : b ≤ 1000000) : iv_c2 .gt (Int32.ofNat a) (Int32.ofNat b) = false := c_f (fun e => by
  have e1 := i32_ev (n := a) (by omega)
  have e2 := i32_ev (n := b) (by omega)
  have e3 : (Int32.ofNat a).toInt > (Int32.ofNat b).toInt := zch_32.mp e
  omega)
theorem g_arm {L : Nat} {xs : Nat → Int32} {Post : Option Value → iv_H → Prop} {d : Nat} {σ : iv_H} {fs : List Value} {N : Nat → Int32} {b : Nat} (hb : b < 7) (ho : iv_get σ 548 = some (.inr (12, fs))) (mo : mO fs) (gN : iv_get σ 552 = some (.inl (0, 374, .inl N))) (k : Post (some (.int (if N (49 + b) = -1 then Int32.ofNat 0 else Int32.ofNat 1))) σ) : zGo L xs Post [] d 195 0 (lv_args 0 [.ref 548, .int (Int32.ofNat b)]) [] σ := by
  refine w_A f195_0 rfl ?_
  refine w_gf f195_1 ho (mo.2.2.1) ?_
  refine w_K f195_4 ?_
  refine w_I f195_6 rfl ?_
  refine w_add f195_7 ?_
  refine w_il f195_8 gN rfl rfl (by omega) (by decide) ?_
  refine w_K f195_9 ?_
  by_cases h : N (49 + b) = -1
  · rw [if_pos h] at k
    refine w_icT f195_10 rfl (c_eq h) ?_
    refine w_K f195_17 ?_
    exact w_ret2 f195_18 rfl k
  · rw [if_neg h] at k
    refine w_icF f195_10 rfl (c_ne h) ?_
    refine w_K f195_13 ?_
    refine w_go f195_14 rfl ?_
    exact w_ret2 f195_18 rfl k
def sStk (N : Nat → Int32) (b : Nat) (s : Int32) : Prop := ∀ (L : Nat) (xs : Nat → Int32) (Post : Option Value → iv_H → Prop) (d : Nat) (σ : iv_H) (fs : List Value), iv_get σ 548 = some (.inr (12, fs)) → mO fs → iv_get σ 552 = some (.inl (0, 374, .inl N)) → Post (some (.int s)) σ → zGo L xs Post [] (d + 2) 227 0 (lv_args 0 [.ref 548, .int (Int32.ofNat b)]) [] σ
def sMost (N : Nat → Int32) (b : Nat) (q : Nat) : Prop := ∀ (L : Nat) (xs : Nat → Int32) (Post : Option Value → iv_H → Prop) (d : Nat) (σ : iv_H) (fs : List Value), iv_get σ 548 = some (.inr (12, fs)) → mO fs → iv_get σ 552 = some (.inl (0, 374, .inl N)) → Post (some (.int (Int32.ofNat q))) σ → zGo L xs Post [] (d + 1) 228 0 (lv_args 0 [.ref 548, .int (Int32.ofNat b)]) [] σ
theorem g_bit {N : Nat → Int32} {g : Nat} (hg : g < 6) (h0 : ¬ N (32 + g) = 0) : ∃ v : Int32, ∀ (L : Nat) (xs : Nat → Int32) (Post : Option Value → iv_H → Prop) (d : Nat) (σ : iv_H) (fs : List Value), iv_get σ 548 = some (.inr (12, fs)) → mO fs → iv_get σ 552 = some (.inl (0, 374, .inl N)) → Post (some (.int v)) σ → zGo L xs Post [] (d + 0) 198 0 (lv_args 0 [.ref 548, .int (Int32.ofNat g)]) [] σ := by
  have go : ∀ (L : Nat) (xs : Nat → Int32) (Post : Option Value → iv_H → Prop) (d : Nat) (σ : iv_H) (fs : List Value), iv_get σ 548 = some (.inr (12, fs)) → mO fs → iv_get σ 552 = some (.inl (0, 374, .inl N)) → zGo L xs Post [] d 198 30 ((2, .int (N (26 + g) - N (77 + g) / N (32 + g))) :: iv_d1 2 (lv_args 0 [.ref 548, .int (Int32.ofNat g)])) [] σ → zGo L xs Post [] d 198 0 (lv_args 0 [.ref 548, .int (Int32.ofNat g)]) [] σ := by
    intro L xs Post d σ fs ho mo gN k
    refine w_A f198_0 rfl ?_
    refine w_gf f198_1 ho (mo.2.2.1) ?_
    refine w_K f198_4 ?_
    refine w_I f198_6 rfl ?_
    refine w_add f198_7 ?_
    refine w_il f198_8 gN rfl rfl (by omega) (by decide) ?_
    refine w_A f198_9 rfl ?_
    refine w_gf f198_10 ho (mo.2.2.1) ?_
    refine w_K f198_13 ?_
    refine w_I f198_15 rfl ?_
    refine w_add f198_16 ?_
    refine w_il f198_17 gN rfl rfl (by omega) (by decide) ?_
    refine w_A f198_18 rfl ?_
    refine w_gf f198_19 ho (mo.2.2.1) ?_
    refine w_K f198_22 ?_
    refine w_I f198_24 rfl ?_
    refine w_add f198_25 ?_
    refine w_il f198_26 gN rfl rfl (by omega) (by decide) ?_
    refine w_dv f198_27 h0 ?_
    refine w_ii f198_28 ?_
    refine w_IS f198_29 ?_
    exact k
  cases hc : iv_c2 .ge (N (26 + g) - N (77 + g) / N (32 + g)) 0
  · refine ⟨Int32.ofNat 0, fun L xs Post d σ fs ho mo gN k => go L xs Post d σ fs ho mo gN ?_⟩
    refine w_I f198_30 rfl ?_
    refine w_ifF f198_31 rfl hc ?_
    refine w_K f198_34 ?_
    refine w_go f198_35 rfl ?_
    exact w_ret1 f198_39 k
  · refine ⟨N (26 + g) - N (77 + g) / N (32 + g), fun L xs Post d σ fs ho mo gN k => go L xs Post d σ fs ho mo gN ?_⟩
    refine w_I f198_30 rfl ?_
    refine w_ifT f198_31 rfl hc ?_
    refine w_I f198_38 rfl ?_
    exact w_ret1 f198_39 k
theorem g_off {N : Nat → Int32} {g b : Nat} (hg : g < 6) (h0 : ¬ N (32 + g) = 0) (hb : b < 7) : ∃ v : Int32, ∀ (L : Nat) (xs : Nat → Int32) (Post : Option Value → iv_H → Prop) (d : Nat) (σ : iv_H) (fs : List Value), iv_get σ 548 = some (.inr (12, fs)) → mO fs → iv_get σ 552 = some (.inl (0, 374, .inl N)) → Post (some (.int v)) σ → zGo L xs Post [] (d + 1) 199 0 (lv_args 0 [.ref 548, .int (Int32.ofNat g), .int (Int32.ofNat b), .int (Int32.ofNat 1)]) [] σ := by
  obtain ⟨v, hv⟩ := g_bit hg h0
  have go : ∀ (L : Nat) (xs : Nat → Int32) (Post : Option Value → iv_H → Prop) (d : Nat) (σ : iv_H) (fs : List Value), iv_get σ 548 = some (.inr (12, fs)) → mO fs → iv_get σ 552 = some (.inl (0, 374, .inl N)) → zGo L xs Post [] (d + 1) 199 33 ((4, .int v) :: iv_d1 4 (lv_args 0 [.ref 548, .int (Int32.ofNat g), .int (Int32.ofNat b), .int (Int32.ofNat 1)])) [.int (N (12 + b)), .int v] σ → zGo L xs Post [] (d + 1) 199 0 (lv_args 0 [.ref 548, .int (Int32.ofNat g), .int (Int32.ofNat b), .int (Int32.ofNat 1)]) [] σ := by
    intro L xs Post d σ fs ho mo gN k
    refine w_A f199_0 rfl ?_
    refine w_I f199_1 rfl ?_
    refine w_call f199_2 (w_args1 ho) rfl ?_
    refine hv _ _ _ _ _ _ ho mo gN ?_
    show zGo L xs Post [] (d + 1) 199 5 _ [.int v] σ
    refine w_IS f199_5 ?_
    refine w_I f199_7 rfl ?_
    refine w_ifT f199_8 rfl rfl ?_
    refine w_I f199_22 rfl ?_
    refine w_A f199_24 rfl ?_
    refine w_gf f199_25 ho (mo.2.2.1) ?_
    refine w_K f199_28 ?_
    refine w_I f199_30 rfl ?_
    refine w_add f199_31 ?_
    refine w_il f199_32 gN rfl rfl (by omega) (by decide) ?_
    exact k
  cases hc : iv_c2 .gt v (N (12 + b))
  · refine ⟨Int32.ofNat 0, fun L xs Post d σ fs ho mo gN k => go L xs Post d σ fs ho mo gN ?_⟩
    refine w_icF f199_33 rfl hc ?_
    refine w_K f199_36 ?_
    exact w_ret1 f199_37 k
  · refine ⟨(v - N (12 + b)) * Int32.ofNat 1, fun L xs Post d σ fs ho mo gN k => go L xs Post d σ fs ho mo gN ?_⟩
    refine w_icT f199_33 rfl hc ?_
    refine w_I f199_38 rfl ?_
    refine w_A f199_40 rfl ?_
    refine w_gf f199_41 ho (mo.2.2.1) ?_
    refine w_K f199_44 ?_
    refine w_I f199_46 rfl ?_
    refine w_add f199_47 ?_
    refine w_il f199_48 gN rfl rfl (by omega) (by decide) ?_
    refine w_ii f199_49 ?_
    refine w_I f199_50 rfl ?_
    refine w_K f199_51 ?_
    refine w_icT f199_52 rfl rfl ?_
    refine w_K f199_59 ?_
    refine w_ii f199_60 ?_
    exact w_ret1 f199_61 k
theorem g_stk {N : Nat → Int32} {b : Nat} (hb : b < 7) (hG : N (49 + b) = -1 ∨ ∃ g : Nat, N (49 + b) = Int32.ofNat g ∧ g < 6 ∧ ¬ N (32 + g) = 0) : ∃ s : Int32, sStk N b s := by
  rcases hG with h | ⟨g, h, hg, h0⟩
  · refine ⟨Int32.ofNat 0, fun L xs Post d σ fs ho mo gN k => ?_⟩
    refine w_A f227_0 rfl ?_
    refine w_I f227_1 rfl ?_
    refine w_call f227_2 (w_args1 ho) rfl ?_
    refine g_arm hb ho mo gN ?_
    rw [if_pos h]
    show zGo L xs Post [] (d + 2) 227 5 _ [.int (Int32.ofNat 0)] σ
    refine w_ifT f227_5 rfl rfl ?_
    refine w_K f227_26 ?_
    exact w_ret1 f227_27 k
  · obtain ⟨s, hs⟩ := g_off hg h0 hb
    have hn : ¬ N (49 + b) = -1 := by
      rw [h]
      intro e
      have e1 := i32_ev (n := g) (by omega)
      rw [e] at e1
      have e2 : (-1 : Int32).toInt = -1 := rfl
      omega
    refine ⟨s, fun L xs Post d σ fs ho mo gN k => ?_⟩
    refine w_A f227_0 rfl ?_
    refine w_I f227_1 rfl ?_
    refine w_call f227_2 (w_args1 ho) rfl ?_
    refine g_arm hb ho mo gN ?_
    rw [if_neg hn]
    show zGo L xs Post [] (d + 2) 227 5 _ [.int (Int32.ofNat 1)] σ
    refine w_ifF f227_5 rfl rfl ?_
    refine w_A f227_8 rfl ?_
    refine w_A f227_9 rfl ?_
    refine w_gf f227_10 ho (mo.2.2.1) ?_
    refine w_K f227_13 ?_
    refine w_I f227_15 rfl ?_
    refine w_add f227_16 ?_
    refine w_il f227_17 gN rfl rfl (by omega) (by decide) ?_
    rw [h]
    refine w_I f227_18 rfl ?_
    refine w_K f227_19 ?_
    refine w_call f227_20 (w_args3 ho) rfl ?_
    refine hs _ _ _ _ _ _ ho mo gN ?_
    show zGo L xs Post [] (d + 2) 227 23 _ [.int s] σ
    refine w_go f227_23 rfl ?_
    exact w_ret1 f227_27 k
theorem g_most {N : Nat → Int32} {b : Nat} (hb : b < 7) : ∃ q : Nat, q ≤ 3 ∧ sMost N b q := by
  by_cases h : N (49 + b) = -1
  · refine ⟨0, by decide, fun L xs Post d σ fs ho mo gN k => ?_⟩
    refine w_A f228_0 rfl ?_
    refine w_I f228_1 rfl ?_
    refine w_call f228_2 (w_args1 ho) rfl ?_
    refine g_arm hb ho mo gN ?_
    rw [if_pos h]
    show zGo L xs Post [] (d + 1) 228 5 _ [.int (Int32.ofNat 0)] σ
    refine w_ifT f228_5 rfl rfl ?_
    refine w_K f228_12 ?_
    exact w_ret1 f228_13 k
  · refine ⟨3, by decide, fun L xs Post d σ fs ho mo gN k => ?_⟩
    refine w_A f228_0 rfl ?_
    refine w_I f228_1 rfl ?_
    refine w_call f228_2 (w_args1 ho) rfl ?_
    refine g_arm hb ho mo gN ?_
    rw [if_neg h]
    show zGo L xs Post [] (d + 1) 228 5 _ [.int (Int32.ofNat 1)] σ
    refine w_ifF f228_5 rfl rfl ?_
    refine w_K f228_8 ?_
    refine w_go f228_9 rfl ?_
    exact w_ret1 f228_13 k
theorem g_isin {L : Nat} {xs : Nat → Int32} {Post : Option Value → iv_H → Prop} {d : Nat} {σ : iv_H} {x : Int32} (k : Post (some (.int (if 0 ≤ x.toInt ∧ x.toInt ≤ 189 then Int32.ofNat 1 else Int32.ofNat 0))) σ) : zGo L xs Post [] d 160 0 (lv_args 0 [.int x, .int (Int32.ofNat 0), .int (Int32.ofNat 189)]) [] σ := by
  have e0 : (Int32.ofNat 0).toInt = 0 := rfl
  have e9 : (Int32.ofNat 189).toInt = 189 := rfl
  refine w_I f160_0 rfl ?_
  refine w_I f160_1 rfl ?_
  by_cases h : x.toInt < 0
  · rw [if_neg (by omega)] at k
    refine w_icT f160_2 rfl (zch_32.mpr (by show x.toInt < (Int32.ofNat 0).toInt; omega)) ?_
    refine w_K f160_14 ?_
    exact w_ret2 f160_15 rfl k
  · refine w_icF f160_2 rfl (c_f (fun e => by have e : x.toInt < (Int32.ofNat 0).toInt := zch_32.mp e; omega)) ?_
    refine w_I f160_5 rfl ?_
    refine w_I f160_6 rfl ?_
    by_cases h2 : 189 < x.toInt
    · rw [if_neg (by omega)] at k
      refine w_icT f160_7 rfl (zch_32.mpr (by show x.toInt > (Int32.ofNat 189).toInt; omega)) ?_
      refine w_K f160_14 ?_
      exact w_ret2 f160_15 rfl k
    · rw [if_pos (by omega)] at k
      refine w_icF f160_7 rfl (c_f (fun e => by have e : x.toInt > (Int32.ofNat 189).toInt := zch_32.mp e; omega)) ?_
      refine w_K f160_10 ?_
      refine w_go f160_11 rfl ?_
      exact w_ret2 f160_15 rfl k
def atF (g : Nat → Int32) (c : Nat) (x : Int32) : Int32 := if 0 ≤ x.toInt ∧ x.toInt ≤ 189 then g (190 * c + x.toInt.toNat) else Int32.ofNat 0
theorem g_at {L : Nat} {xs : Nat → Int32} {Post : Option Value → iv_H → Prop} {d : Nat} {σ : iv_H} {a : Nat} {g : Nat → Int32} {c : Nat} {x : Int32} (h1 : Nat.beq a 1 = false) (h2 : Nat.beq a 101 = false) (hc : c ≤ 7) (ga : iv_get σ a = some (.inl (0, 1520, .inl g))) (k : Post (some (.int (atF g c x))) σ) : zGo L xs Post [] (d + 1) 229 0 (lv_args 0 [.ref 548, .ref a, .int (Int32.ofNat c), .int x]) [] σ := by
  refine w_I f229_0 rfl ?_
  refine w_K f229_1 ?_
  refine w_K f229_2 ?_
  refine w_call f229_5 w_args3s rfl ?_
  refine g_isin ?_
  unfold atF at k
  by_cases h : 0 ≤ x.toInt ∧ x.toInt ≤ 189
  · rw [if_pos h] at k ⊢
    obtain ⟨m, rfl, em⟩ := i32_nat h.1
    have em2 : (Int32.ofNat m).toInt.toNat = m := by omega
    rw [em2] at k
    show zGo L xs Post [] (d + 1) 229 8 _ [.int (Int32.ofNat 1)] σ
    refine w_ifF f229_8 rfl rfl ?_
    refine w_A f229_11 rfl ?_
    refine w_K f229_12 ?_
    refine w_I f229_15 rfl ?_
    refine w_mul f229_16 ?_
    refine w_I f229_17 rfl ?_
    refine w_add f229_18 ?_
    refine w_il f229_19 ga h1 h2 (by omega) (by decide) ?_
    refine w_go f229_20 rfl ?_
    exact w_ret1 f229_24 k
  · rw [if_neg h] at k ⊢
    show zGo L xs Post [] (d + 1) 229 8 _ [.int (Int32.ofNat 0)] σ
    refine w_ifT f229_8 rfl rfl ?_
    refine w_K f229_23 ?_
    exact w_ret1 f229_24 k
