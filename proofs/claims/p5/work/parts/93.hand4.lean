/-! ===== printed by wip/gen/gen93.py: stay, saysOne, by hand ===== -/
theorem f267_2 : iv_f1 (iv_p 267) 2 = some (.inl (iv_oI 2 1)) := rfl
theorem f267_3 : iv_f1 (iv_p 267) 3 = some (.inl (iv_oK (.int (Int32.ofNat 94)) 2)) := rfl
theorem f267_5 : iv_f1 (iv_p 267) 5 = some (.inl (iv_oIc .ge (41))) := rfl
theorem f267_8 : iv_f1 (iv_p 267) 8 = some (.inl (iv_oA 0 1)) := rfl
theorem f267_9 : iv_f1 (iv_p 267) 9 = some (.inl (iv_oGF 12 14)) := rfl
theorem f267_12 : iv_f1 (iv_p 267) 12 = some (.inl (iv_oK (.int (Int32.ofNat 38)) 2)) := rfl
theorem f267_14 : iv_f1 (iv_p 267) 14 = some (.inl (iv_oI 2 1)) := rfl
theorem f267_15 : iv_f1 (iv_p 267) 15 = some (.inl (iv_oII fun x y => x + y)) := rfl
theorem f267_16 : iv_f1 (iv_p 267) 16 = some (.inl (iv_oIl)) := rfl
theorem f267_17 : iv_f1 (iv_p 267) 17 = some (.inl (iv_oIS 3 1)) := rfl
theorem f267_18 : iv_f1 (iv_p 267) 18 = some (.inl (iv_oA 0 1)) := rfl
theorem f267_19 : iv_f1 (iv_p 267) 19 = some (.inl (iv_oGF 12 14)) := rfl
theorem f267_22 : iv_f1 (iv_p 267) 22 = some (.inl (iv_oK (.int (Int32.ofNat 38)) 2)) := rfl
theorem f267_24 : iv_f1 (iv_p 267) 24 = some (.inl (iv_oI 2 1)) := rfl
theorem f267_25 : iv_f1 (iv_p 267) 25 = some (.inl (iv_oII fun x y => x + y)) := rfl
theorem f267_26 : iv_f1 (iv_p 267) 26 = some (.inl (iv_oA 0 1)) := rfl
theorem f267_27 : iv_f1 (iv_p 267) 27 = some (.inl (iv_oGF 12 18)) := rfl
theorem f267_30 : iv_f1 (iv_p 267) 30 = some (.inl (iv_oI 2 1)) := rfl
theorem f267_31 : iv_f1 (iv_p 267) 31 = some (.inl (iv_oIl)) := rfl
theorem f267_32 : iv_f1 (iv_p 267) 32 = some (.inl (iv_oIst)) := rfl
theorem f267_33 : iv_f1 (iv_p 267) 33 = some (.inl (iv_oA 0 1)) := rfl
theorem f267_34 : iv_f1 (iv_p 267) 34 = some (.inl (iv_oGF 12 18)) := rfl
theorem f267_37 : iv_f1 (iv_p 267) 37 = some (.inl (iv_oI 2 1)) := rfl
theorem f267_38 : iv_f1 (iv_p 267) 38 = some (.inl (iv_oI 3 1)) := rfl
theorem f267_39 : iv_f1 (iv_p 267) 39 = some (.inl (iv_oIst)) := rfl
theorem f267_40 : iv_f1 (iv_p 267) 40 = some (.inl (iv_oInc 2 1)) := rfl
theorem f267_43 : iv_f1 (iv_p 267) 43 = some (.inl (iv_oGo (-41))) := rfl
theorem f269_0 : iv_f1 (iv_p 269) 0 = some (.inl (iv_oK (.int (Int32.ofNat 4)) 1)) := rfl
theorem f269_1 : iv_f1 (iv_p 269) 1 = some (.inl (iv_oA 0 1)) := rfl
theorem f269_2 : iv_f1 (iv_p 269) 2 = some (.inl (iv_oGF 12 45)) := rfl
theorem f269_5 : iv_f1 (iv_p 269) 5 = some (.inl (iv_oII fun x y => x * y)) := rfl
theorem f269_6 : iv_f1 (iv_p 269) 6 = some (.inl (iv_oIS 5 2)) := rfl
theorem f269_8 : iv_f1 (iv_p 269) 8 = some (.inl (iv_oA 0 1)) := rfl
theorem f269_9 : iv_f1 (iv_p 269) 9 = some (.inl (iv_oGF 12 44)) := rfl
theorem f269_12 : iv_f1 (iv_p 269) 12 = some (.inl (iv_oI 5 2)) := rfl
theorem f269_14 : iv_f1 (iv_p 269) 14 = some (.inl (iv_oI 1 1)) := rfl
theorem f269_15 : iv_f1 (iv_p 269) 15 = some (.inl (iv_oIst)) := rfl
theorem f269_16 : iv_f1 (iv_p 269) 16 = some (.inl (iv_oA 0 1)) := rfl
theorem f269_17 : iv_f1 (iv_p 269) 17 = some (.inl (iv_oGF 12 44)) := rfl
theorem f269_20 : iv_f1 (iv_p 269) 20 = some (.inl (iv_oI 5 2)) := rfl
theorem f269_22 : iv_f1 (iv_p 269) 22 = some (.inl (iv_oK (.int (Int32.ofNat 1)) 1)) := rfl
theorem f269_23 : iv_f1 (iv_p 269) 23 = some (.inl (iv_oII fun x y => x + y)) := rfl
theorem f269_24 : iv_f1 (iv_p 269) 24 = some (.inl (iv_oI 2 1)) := rfl
theorem f269_25 : iv_f1 (iv_p 269) 25 = some (.inl (iv_oIst)) := rfl
theorem f269_26 : iv_f1 (iv_p 269) 26 = some (.inl (iv_oA 0 1)) := rfl
theorem f269_27 : iv_f1 (iv_p 269) 27 = some (.inl (iv_oGF 12 44)) := rfl
theorem f269_30 : iv_f1 (iv_p 269) 30 = some (.inl (iv_oI 5 2)) := rfl
theorem f269_32 : iv_f1 (iv_p 269) 32 = some (.inl (iv_oK (.int (Int32.ofNat 2)) 1)) := rfl
theorem f269_33 : iv_f1 (iv_p 269) 33 = some (.inl (iv_oII fun x y => x + y)) := rfl
theorem f269_34 : iv_f1 (iv_p 269) 34 = some (.inl (iv_oI 3 1)) := rfl
theorem f269_35 : iv_f1 (iv_p 269) 35 = some (.inl (iv_oIst)) := rfl
theorem f269_36 : iv_f1 (iv_p 269) 36 = some (.inl (iv_oA 0 1)) := rfl
theorem f269_37 : iv_f1 (iv_p 269) 37 = some (.inl (iv_oGF 12 44)) := rfl
theorem f269_40 : iv_f1 (iv_p 269) 40 = some (.inl (iv_oI 5 2)) := rfl
theorem f269_42 : iv_f1 (iv_p 269) 42 = some (.inl (iv_oK (.int (Int32.ofNat 3)) 1)) := rfl
theorem f269_43 : iv_f1 (iv_p 269) 43 = some (.inl (iv_oII fun x y => x + y)) := rfl
theorem f269_44 : iv_f1 (iv_p 269) 44 = some (.inl (iv_oI 4 2)) := rfl
theorem f269_46 : iv_f1 (iv_p 269) 46 = some (.inl (iv_oIst)) := rfl
theorem f269_47 : iv_f1 (iv_p 269) 47 = some (.inl (iv_oA 0 1)) := rfl
theorem f269_48 : iv_f1 (iv_p 269) 48 = some (.inl (iv_oDup)) := rfl
theorem f269_49 : iv_f1 (iv_p 269) 49 = some (.inl (iv_oGF 12 45)) := rfl
theorem f269_52 : iv_f1 (iv_p 269) 52 = some (.inl (iv_oK (.int (Int32.ofNat 1)) 1)) := rfl
theorem f269_53 : iv_f1 (iv_p 269) 53 = some (.inl (iv_oII fun x y => x + y)) := rfl
theorem f269_54 : iv_f1 (iv_p 269) 54 = some (.inl (iv_oPF 12 45 .int)) := rfl
theorem f269_57 : iv_f1 (iv_p 269) 57 = some (.inl (iv_oA 0 1)) := rfl
theorem f269_58 : iv_f1 (iv_p 269) 58 = some (.inl (iv_oGF 12 45)) := rfl
theorem f269_61 : iv_f1 (iv_p 269) 61 = some (.inl (iv_oK (.int (Int32.ofNat 1)) 1)) := rfl
theorem f269_62 : iv_f1 (iv_p 269) 62 = some (.inl (iv_oII fun x y => x - y)) := rfl
theorem f269_63 : iv_f1 (iv_p 269) 63 = some (.inr (.inl 1)) := rfl
theorem f267_0 : iv_f1 (iv_p 267) 0 = some (.inl (iv_oK (.int (Int32.ofNat 0)) 1)) := rfl
theorem f267_1 : iv_f1 (iv_p 267) 1 = some (.inl (iv_oIS 2 1)) := rfl
theorem f267_46 : iv_f1 (iv_p 267) 46 = some (.inl (iv_oI 1 1)) := rfl
theorem f267_47 : iv_f1 (iv_p 267) 47 = some (.inl (iv_oIf .ne (4))) := rfl
theorem f267_50 : iv_f1 (iv_p 267) 50 = some (.inr (.inl 0)) := rfl
theorem f267_51 : iv_f1 (iv_p 267) 51 = some (.inl (iv_oA 0 1)) := rfl
theorem f267_52 : iv_f1 (iv_p 267) 52 = some (.inr (.inr (6, 207, 0, 12))) := rfl
theorem f267_55 : iv_f1 (iv_p 267) 55 = some (.inl (iv_oA 0 1)) := rfl
theorem f267_56 : iv_f1 (iv_p 267) 56 = some (.inr (.inr (6, 256, 0, 12))) := rfl
theorem f267_59 : iv_f1 (iv_p 267) 59 = some (.inr (.inl 0)) := rfl
/-- σ' is σ but for now and aside -/
def mD2 (σ σ' : iv_H) (e1 e2 : iv_E) : Prop := (σ'.1 = σ.1 ∧ σ'.2.2 = σ.2.2) ∧ iv_get σ' 552 = some e1 ∧ iv_get σ' 560 = some e2 ∧ ∀ a, a ≠ 552 → a ≠ 560 → iv_get σ' a = iv_get σ a
theorem mD2_1 {σ σ' : iv_H} {e1 e2 e : iv_E} (h : mD2 σ σ' e1 e2) : mD2 σ (iv_put σ' 552 e) e e2 := by
  have h1 := mD_put2 (e2 := e) h.2.1
  exact ⟨⟨h1.1.1.trans h.1.1, h1.1.2.trans h.1.2⟩, h1.2.1, mD_n h1 (by decide) h.2.2.1, fun a a1 a2 => mD_n h1 a1 (h.2.2.2 a a1 a2)⟩
theorem mD2_2 {σ σ' : iv_H} {e1 e2 e : iv_E} (h : mD2 σ σ' e1 e2) : mD2 σ (iv_put σ' 560 e) e1 e := by
  have h1 := mD_put2 (e2 := e) h.2.2.1
  exact ⟨⟨h1.1.1.trans h.1.1, h1.1.2.trans h.1.2⟩, mD_n h1 (by decide) h.2.1, h1.2.1, fun a a1 a2 => mD_n h1 a2 (h.2.2.2 a a1 a2)⟩
theorem l267_2 {L : Nat} {xs : Nat → Int32} {Post : Option Value → iv_H → Prop} {d : Nat} {σ : iv_H} {fs : List Value} {N A : Nat → Int32} {b : Int32} (ho : iv_get σ 548 = some (.inr (12, fs))) (mo : mO fs) : ∀ (j k : Nat), k + j = 94 → ∀ (lvr : iv_L) (σ1 : iv_H), iv_f1 lvr 0 = some (.ref 548) → iv_f1 lvr 1 = some (.int b) → mD2 σ σ1 (.inl (0, 374, .inl (va_cpy A N 0 38 k))) (.inl (0, 94, .inl (va_cpy N A 38 0 k))) → (∀ lv2 σ2, iv_f1 lv2 0 = some (.ref 548) → iv_f1 lv2 1 = some (.int b) → mD2 σ σ2 (.inl (0, 374, .inl (va_cpy A N 0 38 94))) (.inl (0, 94, .inl (va_cpy N A 38 0 94))) → zGo L xs Post [] d 267 46 lv2 [] σ2) → zGo L xs Post [] d 267 2 ((2, .int (Int32.ofNat k)) :: lvr) [] σ1
  | 0, k, hk, lvr, σ1, l0, l1, h1, hx => by
    obtain rfl : k = 94 := by omega
    refine w_I f267_2 rfl ?_
    refine w_K f267_3 ?_
    refine w_icT f267_5 rfl (c_geT (by omega) (by omega)) ?_
    exact hx _ σ1 l0 l1 h1
  | j + 1, k, hk, lvr, σ1, l0, l1, h1, hx => by
    have ho1 : iv_get σ1 548 = some (.inr (12, fs)) := (h1.2.2.2 548 (by decide) (by decide)).trans ho
    refine w_I f267_2 rfl ?_
    refine w_K f267_3 ?_
    refine w_icF f267_5 rfl (c_geF (by omega) (by omega)) ?_
    refine w_A f267_8 l0 ?_
    refine w_gf f267_9 ho1 (mo.2.2.1) ?_
    refine w_K f267_12 ?_
    refine w_I f267_14 rfl ?_
    refine w_add f267_15 ?_
    refine w_il f267_16 h1.2.1 rfl rfl (by omega) (by decide) ?_
    refine w_IS f267_17 ?_
    have m0 : iv_f1 (iv_d1 3 ((2, Value.int (Int32.ofNat k)) :: lvr)) 0 = some (.ref 548) := lv_d (lv := (2, Value.int (Int32.ofNat k)) :: lvr) l0 (by decide)
    have m1 : iv_f1 (iv_d1 3 ((2, Value.int (Int32.ofNat k)) :: lvr)) 1 = some (.int b) := lv_di (lv := (2, Value.int (Int32.ofNat k)) :: lvr) l1 (by decide)
    have m2 : iv_f1 (iv_d1 3 ((2, Value.int (Int32.ofNat k)) :: lvr)) 2 = some (.int (Int32.ofNat k)) := lv_di (lv := (2, Value.int (Int32.ofNat k)) :: lvr) rfl (by decide)
    refine w_A f267_18 m0 ?_
    refine w_gf f267_19 ho1 (mo.2.2.1) ?_
    refine w_K f267_22 ?_
    refine w_I f267_24 m2 ?_
    refine w_add f267_25 ?_
    refine w_A f267_26 m0 ?_
    refine w_gf f267_27 ho1 (mo.2.2.2.2.2.2.1) ?_
    refine w_I f267_30 m2 ?_
    refine w_il f267_31 h1.2.2.1 rfl rfl (by omega) (by decide) ?_
    refine w_ist f267_32 h1.2.1 (by omega) (by decide) ?_
    rw [show (va_cpy N A 38 0 k) k = A k by rw [zcpy_at, if_neg (by omega)]]
    rw [cp_sg (lo := 38) (off := 0) (k := k) (i := 38 + k) (j := k) (by omega) (by omega)]
    have h2 := mD2_1 (e := (.inl (0, 374, .inl (va_cpy A N 0 38 (k + 1))))) h1
    have ho2 : iv_get (iv_put σ1 552 (.inl (0, 374, .inl (va_cpy A N 0 38 (k + 1))))) 548 = some (.inr (12, fs)) := (h2.2.2.2 548 (by decide) (by decide)).trans ho
    refine w_A f267_33 m0 ?_
    refine w_gf f267_34 ho2 (mo.2.2.2.2.2.2.1) ?_
    refine w_I f267_37 m2 ?_
    refine w_I f267_38 rfl ?_
    refine w_ist f267_39 h2.2.2.1 (by omega) (by decide) ?_
    rw [show (va_cpy A N 0 38 k) (38 + k) = N (38 + k) by rw [zcpy_at, if_neg (by omega)]]
    rw [cp_sg (lo := 0) (off := 38) (k := k) (i := k) (j := 38 + k) (by omega) (by omega)]
    refine w_inc f267_40 (x := k) m2 ?_
    refine w_go f267_43 rfl ?_
    exact l267_2 ho mo j (k + 1) (by omega) _ _ (lv_d (lv := (3, Value.int (N (38 + k))) :: iv_d1 3 ((2, Value.int (Int32.ofNat k)) :: lvr)) m0 (by decide)) (lv_di (lv := (3, Value.int (N (38 + k))) :: iv_d1 3 ((2, Value.int (Int32.ofNat k)) :: lvr)) m1 (by decide)) (mD2_2 h2) hx
theorem g_says {L : Nat} {xs : Nat → Int32} {Post : Option Value → iv_H → Prop} {d : Nat} {lv : iv_L} {σ : iv_H} {fs : List Value} {D : Nat → Int32} {n : Nat} {w a b r : Int32} (l0 : iv_f1 lv 0 = some (.ref 548)) (ho : iv_get σ 548 = some (.inr (12, fs))) (mo : mO fs) (l1 : iv_f1 lv 1 = some (.int w)) (l2 : iv_f1 lv 2 = some (.int a)) (l3 : iv_f1 lv 3 = some (.int b)) (l4 : iv_f1 lv 4 = some (.int r)) (e45 : iv_nth fs 45 = some (.int (Int32.ofNat n))) (hn : n ≤ 39) (gD : iv_get σ 590 = some (.inl (0, 240, .inl D))) (k : ∀ σ2, mD σ σ2 590 (.inl (0, 240, .inl (upd (upd (upd (upd D (4 * n) w) (4 * n + 1) a) (4 * n + 2) b) (4 * n + 3) r))) → Post (some (.int (Int32.ofNat n))) (iv_put σ2 548 (.inr (12, fs.set 45 (.int (Int32.ofNat (n + 1))))))) : zGo L xs Post [] d 269 0 lv [] σ := by
  have l5 : ∀ {i : Nat} {v : Value}, iv_f1 lv i = some v → i ≠ 5 → v.category ≠ 2 → iv_f1 (iv_d1 5 lv) i = some v := fun h1 h2 h3 => iv_f1_d1 h1 h2 (fun _ => h3)
  refine w_K f269_0 ?_
  refine w_A f269_1 l0 ?_
  refine w_gf f269_2 ho e45 ?_
  refine w_mul f269_5 ?_
  refine w_IS f269_6 ?_
  have t0 := l5 l0 (by decide) (by decide)
  have t1 := l5 l1 (by decide) (by show (1 : Nat) ≠ 2; decide)
  have t2 := l5 l2 (by decide) (by show (1 : Nat) ≠ 2; decide)
  have t3 := l5 l3 (by decide) (by show (1 : Nat) ≠ 2; decide)
  have t4 := l5 l4 (by decide) (by show (1 : Nat) ≠ 2; decide)
  refine w_A f269_8 t0 ?_
  refine w_gf f269_9 ho (mo.2.2.2.2.2.2.2.2.2.2.2.2.2.2.2.2) ?_
  refine w_I f269_12 rfl ?_
  refine w_I f269_14 t1 ?_
  refine w_ist f269_15 gD (by omega) (by decide) ?_
  have h1 := mD_put2 (e2 := (.inl (0, 240, .inl (upd D (4 * n) w)))) gD
  have ho1 := mD_n h1 (by decide) ho
  refine w_A f269_16 t0 ?_
  refine w_gf f269_17 ho1 (mo.2.2.2.2.2.2.2.2.2.2.2.2.2.2.2.2) ?_
  refine w_I f269_20 rfl ?_
  refine w_K f269_22 ?_
  refine w_add f269_23 ?_
  refine w_I f269_24 t2 ?_
  refine w_ist f269_25 h1.2.1 (by omega) (by decide) ?_
  have h2 := mD_put (e2 := (.inl (0, 240, .inl (upd (upd D (4 * n) w) (4 * n + 1) a)))) h1
  have ho2 := mD_n h2 (by decide) ho
  refine w_A f269_26 t0 ?_
  refine w_gf f269_27 ho2 (mo.2.2.2.2.2.2.2.2.2.2.2.2.2.2.2.2) ?_
  refine w_I f269_30 rfl ?_
  refine w_K f269_32 ?_
  refine w_add f269_33 ?_
  refine w_I f269_34 t3 ?_
  refine w_ist f269_35 h2.2.1 (by omega) (by decide) ?_
  have h3 := mD_put (e2 := (.inl (0, 240, .inl (upd (upd (upd D (4 * n) w) (4 * n + 1) a) (4 * n + 2) b)))) h2
  have ho3 := mD_n h3 (by decide) ho
  refine w_A f269_36 t0 ?_
  refine w_gf f269_37 ho3 (mo.2.2.2.2.2.2.2.2.2.2.2.2.2.2.2.2) ?_
  refine w_I f269_40 rfl ?_
  refine w_K f269_42 ?_
  refine w_add f269_43 ?_
  refine w_I f269_44 t4 ?_
  refine w_ist f269_46 h3.2.1 (by omega) (by decide) ?_
  have h4 := mD_put (e2 := (.inl (0, 240, .inl (upd (upd (upd (upd D (4 * n) w) (4 * n + 1) a) (4 * n + 2) b) (4 * n + 3) r)))) h3
  have ho4 := mD_n h4 (by decide) ho
  refine w_A f269_47 t0 ?_
  refine w_dup f269_48 ?_
  refine w_gf f269_49 ho4 e45 ?_
  refine w_K f269_52 ?_
  refine w_add f269_53 ?_
  refine w_pf f269_54 ho4 rfl (by have := mo.1; omega) ?_
  have h5 := mD_put2 (e2 := .inr (12, fs.set 45 (.int (Int32.ofNat (n + 1))))) ho4
  refine w_A f269_57 t0 ?_
  refine w_gf f269_58 h5.2.1 (by rw [iv_nth_set, if_pos ⟨rfl, by have := mo.1; omega⟩]) ?_
  refine w_K f269_61 ?_
  refine w_sub (by omega) f269_62 ?_
  exact w_ret1 f269_63 (k _ h4)
