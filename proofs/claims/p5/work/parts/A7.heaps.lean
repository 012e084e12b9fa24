/-! ===== printed by wip/gen/gen_a7.py: heaps, by hand ===== -/
theorem f233_73 : iv_f1 (iv_p 233) 73 = some (.inl (iv_oA 0 1)) := rfl
theorem f233_74 : iv_f1 (iv_p 233) 74 = some (.inl (iv_oA 0 1)) := rfl
theorem f233_75 : iv_f1 (iv_p 233) 75 = some (.inl (iv_oGF 12 28)) := rfl
theorem f233_78 : iv_f1 (iv_p 233) 78 = some (.inl (iv_oI 4 2)) := rfl
theorem f233_80 : iv_f1 (iv_p 233) 80 = some (.inl (iv_oK (.int (Int32.ofNat 1)) 1)) := rfl
theorem f233_81 : iv_f1 (iv_p 233) 81 = some (.inl (iv_oII fun x y => x + y)) := rfl
theorem f233_82 : iv_f1 (iv_p 233) 82 = some (.inl (iv_oI 3 1)) := rfl
theorem f233_83 : iv_f1 (iv_p 233) 83 = some (.inl (iv_oI 5 2)) := rfl
theorem f233_85 : iv_f1 (iv_p 233) 85 = some (.inl (iv_oA 0 1)) := rfl
theorem f233_86 : iv_f1 (iv_p 233) 86 = some (.inl (iv_oI 4 2)) := rfl
theorem f233_88 : iv_f1 (iv_p 233) 88 = some (.inr (.inr (6, 227, 1, 12))) := rfl
set_option maxRecDepth 8000 in
theorem f233_91 : iv_f1 (iv_p 233) 91 = some (.inl (iv_oII fun x y => x * y)) := rfl
set_option maxRecDepth 8000 in
theorem f233_92 : iv_f1 (iv_p 233) 92 = some (.inl (iv_oII fun x y => x - y)) := rfl
set_option maxRecDepth 8000 in
theorem f233_93 : iv_f1 (iv_p 233) 93 = some (.inr (.inr (6, 229, 3, 12))) := rfl
set_option maxRecDepth 8000 in
theorem f233_96 : iv_f1 (iv_p 233) 96 = some (.inl (iv_oIf .ne (9))) := rfl
set_option maxRecDepth 8000 in
theorem f233_99 : iv_f1 (iv_p 233) 99 = some (.inl (iv_oInc 5 1)) := rfl
set_option maxRecDepth 8000 in
theorem f233_102 : iv_f1 (iv_p 233) 102 = some (.inl (iv_oGo (-29))) := rfl
theorem f233_59 : iv_f1 (iv_p 233) 59 = some (.inl (iv_oI 4 2)) := rfl
theorem f233_61 : iv_f1 (iv_p 233) 61 = some (.inl (iv_oA 0 1)) := rfl
theorem f233_62 : iv_f1 (iv_p 233) 62 = some (.inl (iv_oGF 12 14)) := rfl
theorem f233_65 : iv_f1 (iv_p 233) 65 = some (.inl (iv_oK (.int (Int32.ofNat 0)) 1)) := rfl
theorem f233_66 : iv_f1 (iv_p 233) 66 = some (.inl (iv_oIl)) := rfl
theorem f233_67 : iv_f1 (iv_p 233) 67 = some (.inl (iv_oIc .ge (65))) := rfl
theorem f233_70 : iv_f1 (iv_p 233) 70 = some (.inl (iv_oK (.int (Int32.ofNat 0)) 1)) := rfl
theorem f233_71 : iv_f1 (iv_p 233) 71 = some (.inl (iv_oIS 5 2)) := rfl
set_option maxRecDepth 8000 in
theorem f233_105 : iv_f1 (iv_p 233) 105 = some (.inl (iv_oA 0 1)) := rfl
set_option maxRecDepth 8000 in
theorem f233_106 : iv_f1 (iv_p 233) 106 = some (.inl (iv_oGF 12 29)) := rfl
set_option maxRecDepth 8000 in
theorem f233_109 : iv_f1 (iv_p 233) 109 = some (.inl (iv_oI 4 2)) := rfl
set_option maxRecDepth 8000 in
theorem f233_111 : iv_f1 (iv_p 233) 111 = some (.inl (iv_oI 5 2)) := rfl
set_option maxRecDepth 8000 in
theorem f233_113 : iv_f1 (iv_p 233) 113 = some (.inl (iv_oIst)) := rfl
set_option maxRecDepth 8000 in
theorem f233_114 : iv_f1 (iv_p 233) 114 = some (.inl (iv_oI 3 1)) := rfl
set_option maxRecDepth 8000 in
theorem f233_115 : iv_f1 (iv_p 233) 115 = some (.inl (iv_oI 5 2)) := rfl
set_option maxRecDepth 8000 in
theorem f233_117 : iv_f1 (iv_p 233) 117 = some (.inl (iv_oA 0 1)) := rfl
set_option maxRecDepth 8000 in
theorem f233_118 : iv_f1 (iv_p 233) 118 = some (.inl (iv_oI 4 2)) := rfl
set_option maxRecDepth 8000 in
theorem f233_120 : iv_f1 (iv_p 233) 120 = some (.inr (.inr (6, 227, 1, 12))) := rfl
set_option maxRecDepth 8000 in
theorem f233_123 : iv_f1 (iv_p 233) 123 = some (.inl (iv_oII fun x y => x * y)) := rfl
set_option maxRecDepth 8000 in
theorem f233_124 : iv_f1 (iv_p 233) 124 = some (.inl (iv_oII fun x y => x - y)) := rfl
set_option maxRecDepth 8000 in
theorem f233_125 : iv_f1 (iv_p 233) 125 = some (.inl (iv_oIS 3 1)) := rfl
set_option maxRecDepth 8000 in
theorem f233_126 : iv_f1 (iv_p 233) 126 = some (.inl (iv_oInc 4 1)) := rfl
set_option maxRecDepth 8000 in
theorem f233_129 : iv_f1 (iv_p 233) 129 = some (.inl (iv_oGo (-70))) := rfl
theorem f233_33 : iv_f1 (iv_p 233) 33 = some (.inl (iv_oA 0 1)) := rfl
theorem f233_34 : iv_f1 (iv_p 233) 34 = some (.inr (.inr (6, 230, 0, 12))) := rfl
theorem f233_37 : iv_f1 (iv_p 233) 37 = some (.inl (iv_oA 0 1)) := rfl
theorem f233_38 : iv_f1 (iv_p 233) 38 = some (.inl (iv_oA 0 1)) := rfl
theorem f233_39 : iv_f1 (iv_p 233) 39 = some (.inl (iv_oGF 12 28)) := rfl
theorem f233_42 : iv_f1 (iv_p 233) 42 = some (.inl (iv_oK (.int (Int32.ofNat 0)) 1)) := rfl
theorem f233_43 : iv_f1 (iv_p 233) 43 = some (.inl (iv_oI 1 1)) := rfl
theorem f233_44 : iv_f1 (iv_p 233) 44 = some (.inr (.inr (6, 229, 3, 12))) := rfl
theorem f233_47 : iv_f1 (iv_p 233) 47 = some (.inl (iv_oIS 2 1)) := rfl
theorem f233_48 : iv_f1 (iv_p 233) 48 = some (.inl (iv_oI 2 1)) := rfl
theorem f233_49 : iv_f1 (iv_p 233) 49 = some (.inl (iv_oIf .ne (5))) := rfl
theorem f233_52 : iv_f1 (iv_p 233) 52 = some (.inl (iv_oK (.int (Int32.ofNat 0)) 1)) := rfl
theorem f233_53 : iv_f1 (iv_p 233) 53 = some (.inr (.inl 1)) := rfl
theorem f233_54 : iv_f1 (iv_p 233) 54 = some (.inl (iv_oI 1 1)) := rfl
theorem f233_55 : iv_f1 (iv_p 233) 55 = some (.inl (iv_oIS 3 1)) := rfl
theorem f233_56 : iv_f1 (iv_p 233) 56 = some (.inl (iv_oK (.int (Int32.ofNat 0)) 1)) := rfl
theorem f233_57 : iv_f1 (iv_p 233) 57 = some (.inl (iv_oIS 4 2)) := rfl
theorem l233_73 {L : Nat} {xs : Nat → Int32} {Post : Option Value → iv_H → Prop} {d : Nat} {σ : iv_H} {fs : List Value} {N : Nat → Int32} {B : Nat → Int32} {i k0 : Nat} {X st : Int32} (hi : i ≤ 6) (ho : iv_get σ 548 = some (.inr (12, fs))) (mo : mO fs) (gN : iv_get σ 552 = some (.inl (0, 374, .inl N))) (gB : iv_get σ 576 = some (.inl (0, 1520, .inl B))) (hs : sStk N i st) (hk0 : k0 ≤ 3) (hz : ¬ atF B (i + 1) (X - Int32.ofNat k0 * st) = 0) : ∀ (j k : Nat), k + j = k0 → ∀ (lv : iv_L), iv_f1 lv 0 = some (.ref 548) → iv_f1 lv 3 = some (.int X) → iv_f1 lv 4 = some (.int (Int32.ofNat i)) → iv_f1 lv 5 = some (.int (Int32.ofNat k)) → (∀ (lv2 : iv_L) (k2 : Nat), k2 ≤ 3 → lvK [5] lv lv2 → iv_f1 lv2 5 = some (.int (Int32.ofNat k2)) → ¬ atF B (i + 1) (X - Int32.ofNat k2 * st) = 0 → zGo L xs Post [] (d + 4) 233 105 lv2 [] σ) → zGo L xs Post [] (d + 4) 233 73 lv [] σ
  | 0, k, hk, lv, l0, l3, l4, l5, hx => by
    have hz2 : ¬ atF B (i + 1) (X - Int32.ofNat k * st) = 0 := by
      rw [show k = k0 by omega]
      exact hz
    refine w_A f233_73 l0 ?_
    refine w_A f233_74 l0 ?_
    refine w_gf f233_75 ho (mo.2.2.2.2.2.2.2.2.2.2.2.2.2.1) ?_
    refine w_I f233_78 l4 ?_
    refine w_K f233_80 ?_
    refine w_add f233_81 ?_
    refine w_I f233_82 l3 ?_
    refine w_I f233_83 l5 ?_
    refine w_A f233_85 l0 ?_
    refine w_I f233_86 l4 ?_
    refine w_call f233_88 (w_args1 ho) rfl ?_
    refine hs _ _ _ (d + 1) _ _ ho mo gN ?_
    show zGo L xs Post [] (d + 4) 233 91 lv [.int st, .int (Int32.ofNat k), .int X, .int (Int32.ofNat (i + 1)), .ref 576, .ref 548] σ
    refine w_ii f233_91 ?_
    refine w_ii f233_92 ?_
    refine w_call f233_93 (w_args3 ho) rfl ?_
    refine g_at (d := d + 2) rfl rfl (by omega) gB ?_
    show zGo L xs Post [] (d + 4) 233 96 lv [.int (atF B (i + 1) (X - Int32.ofNat k * st))] σ
    refine w_ifT f233_96 rfl (c_neq hz2) ?_
    exact hx lv k (by omega) lvK_rf l5 hz2
  | j + 1, k, hk, lv, l0, l3, l4, l5, hx => by
    refine w_A f233_73 l0 ?_
    refine w_A f233_74 l0 ?_
    refine w_gf f233_75 ho (mo.2.2.2.2.2.2.2.2.2.2.2.2.2.1) ?_
    refine w_I f233_78 l4 ?_
    refine w_K f233_80 ?_
    refine w_add f233_81 ?_
    refine w_I f233_82 l3 ?_
    refine w_I f233_83 l5 ?_
    refine w_A f233_85 l0 ?_
    refine w_I f233_86 l4 ?_
    refine w_call f233_88 (w_args1 ho) rfl ?_
    refine hs _ _ _ (d + 1) _ _ ho mo gN ?_
    show zGo L xs Post [] (d + 4) 233 91 lv [.int st, .int (Int32.ofNat k), .int X, .int (Int32.ofNat (i + 1)), .ref 576, .ref 548] σ
    refine w_ii f233_91 ?_
    refine w_ii f233_92 ?_
    refine w_call f233_93 (w_args3 ho) rfl ?_
    refine g_at (d := d + 2) rfl rfl (by omega) gB ?_
    show zGo L xs Post [] (d + 4) 233 96 lv [.int (atF B (i + 1) (X - Int32.ofNat k * st))] σ
    by_cases h2 : atF B (i + 1) (X - Int32.ofNat k * st) = 0
    · refine w_ifF f233_96 rfl (by rw [h2]; rfl) ?_
      refine w_inc f233_99 (x := k) l5 ?_
      refine w_go f233_102 rfl ?_
      exact l233_73 hi ho mo gN gB hs hk0 hz j (k + 1) (by omega) _ (lv_s l0 (by decide) cR) (lv_s l3 (by decide) cI) (lv_s l4 (by decide) cI) lv_e (fun lv2 k2 a1 a2 a3 a4 => hx lv2 k2 a1 (lvK_sub (lvK_s lvK_rf (by decide)) a2 (fun _ h => h)) a3 a4)
    · refine w_ifT f233_96 rfl (c_neq h2) ?_
      exact hx lv k (by omega) lvK_rf l5 h2
/-- σ' is σ but for ahead, behind and heaped -/
def mE3 (σ σ' : iv_H) (A B H : Nat → Int32) : Prop := (σ'.1 = σ.1 ∧ σ'.2.2 = σ.2.2) ∧ iv_get σ' 574 = some (.inl (0, 1520, .inl A)) ∧ iv_get σ' 576 = some (.inl (0, 1520, .inl B)) ∧ iv_get σ' 578 = some (.inl (0, 7, .inl H)) ∧ ∀ a, a ≠ 574 → a ≠ 576 → a ≠ 578 → iv_get σ' a = iv_get σ a
theorem mE3_3 {σ σ' : iv_H} {A B H H2 : Nat → Int32} (h : mE3 σ σ' A B H) : mE3 σ (iv_put σ' 578 (.inl (0, 7, .inl H2))) A B H2 := by
  have h1 := mD_put2 (e2 := .inl (0, 7, .inl H2)) h.2.2.2.1
  exact ⟨⟨h1.1.1.trans h.1.1, h1.1.2.trans h.1.2⟩, mD_n h1 (by decide) h.2.1, mD_n h1 (by decide) h.2.2.1, h1.2.1, fun a a1 a2 a3 => mD_n h1 a3 (h.2.2.2.2 a a1 a2 a3)⟩
theorem mE_3 {σ σ' : iv_H} {A B H : Nat → Int32} (h : mE σ σ' A B) (g : iv_get σ 578 = some (.inl (0, 7, .inl H))) : mE3 σ σ' A B H := ⟨h.1, h.2.1, h.2.2.1, (h.2.2.2 578 (by decide) (by decide)).trans g, fun a a1 a2 _ => h.2.2.2 a a1 a2⟩
theorem m_any {len : Nat} {f : Nat → Int32} : ∀ i, i < len → zseg [(0, len - 1, -2147483648, 2147483647)] i (f i).toInt := fun i hi => ⟨(0, len - 1, -2147483648, 2147483647), List.mem_singleton.mpr rfl, Nat.zero_le _, by show i ≤ len - 1; omega, Int32.le_toInt _, by have := Int32.toInt_lt (f i); show _ ≤ (2147483647 : Int); omega⟩
theorem mE3_fin {σ σ' : iv_H} {A B H A0 B0 H0 : Nat → Int32} (h : mE3 σ σ' A B H) (gA : iv_get σ 574 = some (.inl (0, 1520, .inl A0))) (gB : iv_get σ 576 = some (.inl (0, 1520, .inl B0))) (gH : iv_get σ 578 = some (.inl (0, 7, .inl H0))) (hI : zI m_τ m_ty σ) (hJ : mJ hT σ) : zI m_τ m_ty σ' ∧ mJ hT σ' ∧ zFr m_τ [(0, 12, 30), (0, 12, 31), (0, 12, 32), (1, 85, 0), (1, 86, 0), (1, 87, 0)] σ σ' := by
  have h1 := mD_put2 (e2 := .inl (0, 1520, .inl A)) gA
  have gB1 := mD_n h1 (by decide) gB
  have gH1 := mD_n h1 (by decide) gH
  have h2 := mD_put2 (e2 := .inl (0, 1520, .inl B)) gB1
  have gH2 := mD_n h2 (by decide) gH1
  have h3 : mD (iv_put (iv_put σ 574 (.inl (0, 1520, .inl A))) 576 (.inl (0, 1520, .inl B))) σ' 578 (.inl (0, 7, .inl H)) := ⟨⟨h.1.1.trans (h2.1.1.trans h1.1.1).symm, h.1.2.trans (h2.1.2.trans h1.1.2).symm⟩, h.2.2.2.1, fun a ha => by
    by_cases e1 : a = 576
    · subst e1
      rw [h.2.2.1, h2.2.1]
    · rw [h2.2.2 a e1]
      by_cases e2 : a = 574
      · subst e2
        rw [h.2.1, h1.2.1]
      · rw [h1.2.2 a e2, h.2.2.2.2 a e2 e1 ha]⟩
  have hF : zFr m_τ [(0, 12, 30), (0, 12, 31), (0, 12, 32), (1, 85, 0), (1, 86, 0), (1, 87, 0)] σ σ' := zFr_tr (fun _ h => h) (zFr_tr (fun _ h => h) (mD_zFr gA h1 rfl) (mD_zFr gB1 h2 rfl)) (mD_zFr gH2 h3 rfl)
  refine ⟨mD_zI (mD_zI (mD_zI hI h1 (m_ze (t := 85) (k := 0) rfl (m_any (len := 1520)))) h2 (m_ze (t := 86) (k := 0) rfl (m_any (len := 1520)))) h3 (m_ze (t := 87) (k := 0) rfl (m_any (len := 7))), ⟨m_Jsx _ σ σ' (by decide) hF hJ.1, trivial⟩, hF⟩
theorem l233_59 {L : Nat} {xs : Nat → Int32} {Post : Option Value → iv_H → Prop} {d : Nat} {σ : iv_H} {fs : List Value} {N : Nat → Int32} {A B : Nat → Int32} {x T : Int32} {stk : Nat → Int32} {n : Nat} (hn : n ≤ 7) (ho : iv_get σ 548 = some (.inr (12, fs))) (mo : mO fs) (gN : iv_get σ 552 = some (.inl (0, 374, .inl N))) (hN : N 0 = Int32.ofNat n) (hs : ∀ b, b < 7 → sStk N b (stk b)) (hP : ∀ c2, c2 < n → ∀ s2, s2 < 190 → pP stk B c2 s2) : ∀ (j i : Nat), i + j = n → ∀ (lv : iv_L) (σ1 : iv_H) (H : Nat → Int32) (X : Int32), iv_f1 lv 0 = some (.ref 548) → iv_f1 lv 1 = some (.int x) → iv_f1 lv 2 = some (.int T) → iv_f1 lv 3 = some (.int X) → iv_f1 lv 4 = some (.int (Int32.ofNat i)) → mE3 σ σ1 A B H → ¬ atF B i X = 0 → (∀ (lv2 : iv_L) (σ2 : iv_H) (H2 : Nat → Int32), iv_f1 lv2 0 = some (.ref 548) → iv_f1 lv2 1 = some (.int x) → iv_f1 lv2 2 = some (.int T) → mE3 σ σ2 A B H2 → zGo L xs Post [] (d + 4) 233 132 lv2 [] σ2) → zGo L xs Post [] (d + 4) 233 59 lv [] σ1
  | 0, i, hij, lv, σ1, H, X, l0, l1, l2, l3, l4, h1, hz, hx => by
    obtain rfl : i = n := by omega
    have ho1 : iv_get σ1 548 = some (.inr (12, fs)) := (h1.2.2.2.2 548 (by decide) (by decide) (by decide)).trans ho
    have gN1 : iv_get σ1 552 = some (.inl (0, 374, .inl N)) := (h1.2.2.2.2 552 (by decide) (by decide) (by decide)).trans gN
    refine w_I f233_59 l4 ?_
    refine w_A f233_61 l0 ?_
    refine w_gf f233_62 ho1 (mo.2.2.1) ?_
    refine w_K f233_65 ?_
    refine w_il (i := 0) f233_66 gN1 rfl rfl (by decide) (by decide) ?_
    rw [hN]
    refine w_icT f233_67 rfl (c_geT (by omega) (by omega)) ?_
    exact hx lv σ1 H l0 l1 l2 h1
  | j + 1, i, hij, lv, σ1, H, X, l0, l1, l2, l3, l4, h1, hz, hx => by
    have ho1 : iv_get σ1 548 = some (.inr (12, fs)) := (h1.2.2.2.2 548 (by decide) (by decide) (by decide)).trans ho
    have gN1 : iv_get σ1 552 = some (.inl (0, 374, .inl N)) := (h1.2.2.2.2 552 (by decide) (by decide) (by decide)).trans gN
    have hr : 0 ≤ X.toInt ∧ X.toInt ≤ 189 := by
      by_cases hr : 0 ≤ X.toInt ∧ X.toInt ≤ 189
      · exact hr
      · exact absurd (by unfold atF; rw [if_neg hr]; rfl) hz
    obtain ⟨s, rfl, es⟩ := i32_nat hr.1
    have hb : ¬ B (190 * i + s) = 0 := by
      intro e
      apply hz
      unfold atF
      rw [if_pos hr, show (Int32.ofNat s).toInt.toNat = s by omega]
      exact e
    obtain ⟨k0, k1, k2⟩ := hP i (by omega) s (by omega) hb
    refine w_I f233_59 l4 ?_
    refine w_A f233_61 l0 ?_
    refine w_gf f233_62 ho1 (mo.2.2.1) ?_
    refine w_K f233_65 ?_
    refine w_il (i := 0) f233_66 gN1 rfl rfl (by decide) (by decide) ?_
    rw [hN]
    refine w_icF f233_67 rfl (c_geF (by omega) (by omega)) ?_
    refine w_K f233_70 ?_
    refine w_IS f233_71 ?_
    refine l233_73 (X := Int32.ofNat s) (by omega) ho1 mo gN1 h1.2.2.1 (hs i (by omega)) k1 k2 k0 0 (by omega) _ (lv_s l0 (by decide) cR) (lv_s l3 (by decide) cI) (lv_s l4 (by decide) cI) lv_e (fun lv2 q q1 kk m5 hz2 => ?_)
    have m0 := kk 0 _ (by decide) cR (lv_s l0 (by decide) cR)
    have m1 := kk 1 _ (by decide) cI (lv_s l1 (by decide) cI)
    have m2 := kk 2 _ (by decide) cI (lv_s l2 (by decide) cI)
    have m3 := kk 3 _ (by decide) cI (lv_s l3 (by decide) cI)
    have m4 := kk 4 _ (by decide) cI (lv_s l4 (by decide) cI)
    refine w_A f233_105 m0 ?_
    refine w_gf f233_106 ho1 (mo.2.2.2.2.2.2.2.2.2.2.2.2.2.2.1) ?_
    refine w_I f233_109 m4 ?_
    refine w_I f233_111 m5 ?_
    refine w_ist f233_113 h1.2.2.2.1 (by omega) (by decide) ?_
    have h2 := mE3_3 (H2 := upd H i (Int32.ofNat q)) h1
    have ho2 : iv_get (iv_put σ1 578 (.inl (0, 7, .inl (upd H i (Int32.ofNat q))))) 548 = some (.inr (12, fs)) := (h2.2.2.2.2 548 (by decide) (by decide) (by decide)).trans ho
    have gN2 : iv_get (iv_put σ1 578 (.inl (0, 7, .inl (upd H i (Int32.ofNat q))))) 552 = some (.inl (0, 374, .inl N)) := (h2.2.2.2.2 552 (by decide) (by decide) (by decide)).trans gN
    refine w_I f233_114 m3 ?_
    refine w_I f233_115 m5 ?_
    refine w_A f233_117 m0 ?_
    refine w_I f233_118 m4 ?_
    refine w_call f233_120 (w_args1 ho2) rfl ?_
    refine hs i (by omega) _ _ _ (d + 1) _ _ ho2 mo gN2 ?_
    show zGo L xs Post [] (d + 4) 233 123 lv2 [.int (stk i), .int (Int32.ofNat q), .int (Int32.ofNat s)] _
    refine w_ii f233_123 ?_
    refine w_ii f233_124 ?_
    refine w_IS f233_125 ?_
    refine w_inc f233_126 (x := i) (lv_s m4 (by decide) cI) ?_
    refine w_go f233_129 rfl ?_
    exact l233_59 hn ho mo gN hN hs hP j (i + 1) (by omega) _ _ _ _ (lv_s (lv_s m0 (by decide) cR) (by decide) cR) (lv_s (lv_s m1 (by decide) cI) (by decide) cI) (lv_s (lv_s m2 (by decide) cI) (by decide) cI) (lv_s lv_e (by decide) cI) lv_e h2 hz2 hx
theorem mt_ah0 {P : iv_H → Prop} (h : m_Pf P) : zCT m_τ m_ty (mJ P) ma_h_0 := zchk_ok m_T (m_Jf h) m_OK0 (fun k hk => by cases hk) ma_h_0_k
theorem mt_ah1 {P : iv_H → Prop} (h : m_Pf P) : zCT m_τ m_ty (mJ P) ma_h_1 := zchk_ok m_T (m_Jf h) m_OK0 (fun k hk => by
  simp only [List.mem_cons, List.not_mem_nil, or_false] at hk
  rcases hk with rfl
  exact mt_ah0 h) ma_h_1_k
theorem m_stks {σ : iv_H} {N : Nat → Int32} (hI : zI m_τ m_ty σ) (hJ : m_Jb σ) (gN : iv_get σ 552 = some (.inl (0, 374, .inl N))) (zN : ∀ i, i < 374 → zseg (m_sg 74) i (N i).toInt) : ∃ f : Nat → Int32, ∀ b, b < 7 → sStk N b (f b) := by
  obtain ⟨_, b3, b4⟩ := m_N hI
  rw [hA_of gN] at b3 b4
  obtain ⟨_, ⟨⟨j1, _⟩, j3, _⟩, _⟩ := hJ
  rw [hA_of gN] at j1 j3
  have lo : ∀ b, b < 7 → (-1 : Int) ≤ (N (49 + b)).toInt := by
    intro b hb
    match b, hb with
    | 0, _ => exact (show (-1 : Int) ≤ (N 49).toInt ∧ (N 49).toInt ≤ (5 : Int) from zsgh_ok (by decide +kernel) (zN 49 (by decide))).1
    | 1, _ => exact (show (-1 : Int) ≤ (N 50).toInt ∧ (N 50).toInt ≤ (5 : Int) from zsgh_ok (by decide +kernel) (zN 50 (by decide))).1
    | 2, _ => exact (show (-1 : Int) ≤ (N 51).toInt ∧ (N 51).toInt ≤ (5 : Int) from zsgh_ok (by decide +kernel) (zN 51 (by decide))).1
    | 3, _ => exact (show (-1 : Int) ≤ (N 52).toInt ∧ (N 52).toInt ≤ (5 : Int) from zsgh_ok (by decide +kernel) (zN 52 (by decide))).1
    | 4, _ => exact (show (-1 : Int) ≤ (N 53).toInt ∧ (N 53).toInt ≤ (5 : Int) from zsgh_ok (by decide +kernel) (zN 53 (by decide))).1
    | 5, _ => exact (show (-1 : Int) ≤ (N 54).toInt ∧ (N 54).toInt ≤ (5 : Int) from zsgh_ok (by decide +kernel) (zN 54 (by decide))).1
    | 6, _ => exact (show (-1 : Int) ≤ (N 55).toInt ∧ (N 55).toInt ≤ (5 : Int) from zsgh_ok (by decide +kernel) (zN 55 (by decide))).1
    | b + 7, hb => exact absurd hb (by omega)
  exact Classical.axiomOfChoice (α := Nat) (β := fun _ => Int32) (r := fun b s => b < 7 → sStk N b s) (fun b => by
    by_cases hb : b < 7
    · have h1 := lo b hb
      have h2 := j3 b hb
      rw [show 0 + 49 + b = 49 + b by omega] at h2
      obtain ⟨s, h⟩ := g_stk (N := N) hb (by
        by_cases e : (N (49 + b)).toInt = -1
        · exact .inl (Int32.toInt_inj.mp (e.trans (show (-1 : Int) = (-1 : Int32).toInt from rfl)))
        · obtain ⟨g, g1, g2⟩ := i32_nat (x := N (49 + b)) (by omega)
          have h2 : (N (49 + b)).toInt < (N (0 + 1)).toInt := h2
          have b4 : (N (0 + 1)).toInt ≤ 6 := b4
          refine .inr ⟨g, g1, by omega, fun e0 => ?_⟩
          have h3 := j1 g (by omega)
          rw [show 0 + 32 + g = 32 + g by omega, e0] at h3
          have e1 : (0 : Int32).toInt = 0 := rfl
          omega)
      exact ⟨s, fun _ => h⟩
    · exact ⟨0, fun h => absurd h hb⟩)
theorem m_heap_H (L : Nat) (xs : Nat → Int32) (d : Nat) (clv : iv_L) (σ : iv_H) (ρ : Nat → Int) (hd : 40 ≤ d) (hI : zI m_τ m_ty σ) (hJ : mJ hT σ) (hP : zP_ok m_τ (fun _ => 0) clv none σ ([((0, 0, 0, 0), (24, 0, 1000)), ((0, 1, 0, 0), (0, 0, 65535))], []) ρ) : zGo L xs (fun r σ' => (∃ x : Int32, r = some (.int x)) ∧ zI m_τ m_ty σ' ∧ mJ hT σ' ∧ zFr m_τ [(0, 12, 30), (0, 12, 31), (0, 12, 32), (1, 85, 0), (1, 86, 0), (1, 87, 0)] σ σ') [] d 233 33 clv [] σ := by
  obtain ⟨d, rfl⟩ : ∃ e, d = e + 4 := ⟨d - 4, by omega⟩
  have l0 := m_this (lo := 0) (hi := 0) hP (i := 0) rfl
  obtain ⟨x, l1, ex, x1, x2⟩ := m_intl hP (i := 1) rfl
  obtain ⟨fs, ho, mo, _⟩ := mO_of hI
  obtain ⟨N, gN, zN⟩ := m_iaN hI
  obtain ⟨⟨b1, b2⟩, _⟩ := m_N hI
  rw [hA_of gN] at b1 b2
  obtain ⟨n, hN, en⟩ := i32_nat b1
  obtain ⟨A, gA, _⟩ : ∃ f, iv_get σ 574 = some (.inl (0, 1520, .inl f)) ∧ ∀ i, i < 1520 → zseg (m_sg 85) i (f i).toInt := zI_ia hI (a := 574) (t := 85) rfl rfl
  obtain ⟨B, gB, _⟩ : ∃ f, iv_get σ 576 = some (.inl (0, 1520, .inl f)) ∧ ∀ i, i < 1520 → zseg (m_sg 86) i (f i).toInt := zI_ia hI (a := 576) (t := 86) rfl rfl
  obtain ⟨H, gH, _⟩ : ∃ f, iv_get σ 578 = some (.inl (0, 7, .inl f)) ∧ ∀ i, i < 7 → zseg (m_sg 87) i (f i).toInt := zI_ia hI (a := 578) (t := 87) rfl rfl
  obtain ⟨stk, hs⟩ := m_stks hI hJ.1 gN zN
  refine w_A f233_33 l0 ?_
  refine w_call f233_34 (w_args0 ho) rfl ?_
  refine g_rows (n := n) (by omega) ho mo gN hN hs gA gB (fun σ2 A2 B2 h2 p2 => ?_)
  show zGo L xs _ [] (d + 4) 233 37 clv [] σ2
  have ho2 : iv_get σ2 548 = some (.inr (12, fs)) := (h2.2.2.2 548 (by decide) (by decide)).trans ho
  refine w_A f233_37 l0 ?_
  refine w_A f233_38 l0 ?_
  refine w_gf f233_39 ho2 (mo.2.2.2.2.2.2.2.2.2.2.2.2.2.1) ?_
  refine w_K f233_42 ?_
  refine w_I f233_43 l1 ?_
  refine w_call f233_44 (w_args3 ho2) rfl ?_
  refine g_at (d := d + 2) rfl rfl (by decide) h2.2.2.1 ?_
  show zGo L xs _ [] (d + 4) 233 47 clv [.int (atF B2 0 x)] σ2
  refine w_IS f233_47 ?_
  refine w_I f233_48 lv_e ?_
  have h3 := mE_3 h2 gH
  by_cases hz : atF B2 0 x = 0
  · refine w_ifF f233_49 rfl (by rw [hz]; rfl) ?_
    refine w_K f233_52 ?_
    exact w_ret1 f233_53 ⟨⟨_, rfl⟩, mE3_fin h3 gA gB gH hI hJ⟩
  · refine w_ifT f233_49 rfl (c_neq hz) ?_
    refine w_I f233_54 (lv_s l1 (by decide) cI) ?_
    refine w_IS f233_55 ?_
    refine w_K f233_56 ?_
    refine w_IS f233_57 ?_
    refine l233_59 (n := n) (by omega) ho mo gN hN hs p2 n 0 (by omega) _ σ2 H x (lv_s (lv_s (lv_s l0 (by decide) cR) (by decide) cR) (by decide) cR) (lv_s (lv_s (lv_s l1 (by decide) cI) (by decide) cI) (by decide) cI) (lv_s (lv_s lv_e (by decide) cI) (by decide) cI) (lv_s lv_e (by decide) cI) lv_e h3 hz (fun lv2 σ3 H3 m0 m1 m2 h4 => ?_)
    obtain ⟨i3, j3, f3⟩ := mE3_fin h4 gA gB gH hI hJ
    have hP3 : zP_ok m_τ (fun _ => 0) lv2 none σ3 ([((0, 0, 0, 0), (24, 0, 1000)), ((0, 1, 0, 0), (0, 0, 65535)), ((0, 2, 0, 0), (0, (-2147483648), 2147483647))], []) (fun i => if i = 2 then (atF B2 0 x).toInt else ρ i) := by
      refine ⟨fun s c h => ?_, fun g hg => (by cases hg), fun i b c h => ?_⟩
      · match s, h with
        | 0, h => cases h; exact hP.1 0 _ rfl
        | 1, h => cases h; exact hP.1 1 _ rfl
        | 2, h => cases h; exact ⟨by show (-2147483648 : Int) ≤ (atF B2 0 x).toInt; exact Int32.le_toInt _, by have := Int32.toInt_lt (atF B2 0 x); show (atF B2 0 x).toInt ≤ (2147483647 : Int); omega, fun h9 => by have h9 : 2 ≤ 0 := h9; omega⟩
        | s + 3, h => cases h
      · match i, h with
        | 0, h =>
          cases h
          obtain ⟨x0, g0, g1⟩ := hP.2.2 0 _ _ rfl
          have g0 : iv_f1 clv 0 = some x0 := g0
          rw [l0] at g0
          cases g0
          exact ⟨_, m0, g1⟩
        | 1, h =>
          cases h
          obtain ⟨x0, g0, g1⟩ := hP.2.2 1 _ _ rfl
          have g0 : iv_f1 clv 1 = some x0 := g0
          rw [l1] at g0
          cases g0
          exact ⟨_, m1, g1⟩
        | 2, h => cases h; exact ⟨_, m2, _, rfl, rfl⟩
        | i + 3, h => cases h
    obtain ⟨r2, σ4, u1, u2⟩ := zchkT_ok (t := (132, _)) m_T (m_Jf hT_s.1) m_OK0 (fun k hk => by
      simp only [List.mem_cons, List.not_mem_nil, or_false] at hk
      rcases hk with rfl
      exact mt_ah1 hT_s.1) ma_h_k (List.mem_cons_self) rfl L xs (d + 4) lv2 σ3 _ (show 38 ≤ d + 4 by omega) i3 j3 hP3
    exact ⟨r2, σ4, u1, m_post u2 rfl (fun h => h) f3 (by decide)⟩
