/-! ===== brother and time: thrown or answered ===== -/
/-- G.brother from 31 on -/
def zb_0 : zct := (119, 10, [], (0, ([], []), (1, []), []), [(31, ([((0, 0, 0, 0), (23, 0, 1000)), ((0, 1, 0, 0), (0, 0, 6)), ((0, 2, 0, 0), (0, 0, 7))], []), (1, []), [])], [([((3, 0, 0, 0), (0, (-2147483648), 2147483647))], [])])
theorem zbk_0 : zchkT z_τ z_ty z_sf z_oc [zc_90] z_inl 4000 zb_0 = true := by decide +kernel
/-- G.time from 31 on -/
def zb_1 : zct := (140, 10, [], (0, ([], []), (1, []), []), [(31, ([((0, 0, 0, 0), (23, 0, 1000)), ((0, 1, 0, 0), (0, 0, 6)), ((0, 2, 0, 0), (0, 0, 1))], []), (1, []), [])], [([((3, 0, 0, 0), (0, (-2147483648), 2147483647))], [])])
theorem zbk_1 : zchkT z_τ z_ty z_sf z_oc [zc_100] z_inl 4000 zb_1 = true := by decide +kernel
theorem f26_0 : iv_f1 (iv_p 26) 0 = some (.inl (iv_oI 1 1)) := rfl
theorem f26_1 : iv_f1 (iv_p 26) 1 = some (.inl (iv_oIf .lt (15))) := rfl
theorem f26_4 : iv_f1 (iv_p 26) 4 = some (.inl (iv_oI 1 1)) := rfl
theorem f26_5 : iv_f1 (iv_p 26) 5 = some (.inl (iv_oA 0 1)) := rfl
theorem f26_6 : iv_f1 (iv_p 26) 6 = some (.inl (iv_oGF 3 1)) := rfl
theorem f26_9 : iv_f1 (iv_p 26) 9 = some (.inl (iv_oIc .ge (7))) := rfl
theorem f26_12 : iv_f1 (iv_p 26) 12 = some (.inl (iv_oK (.int (Int32.ofNat 1)) 1)) := rfl
theorem f26_13 : iv_f1 (iv_p 26) 13 = some (.inl (iv_oGo (4))) := rfl
theorem f26_16 : iv_f1 (iv_p 26) 16 = some (.inl (iv_oK (.int (Int32.ofNat 0)) 1)) := rfl
theorem f26_17 : iv_f1 (iv_p 26) 17 = some (.inr (.inl 2)) := rfl
theorem f119_0 : iv_f1 (iv_p 119) 0 = some (.inl (iv_oA 0 1)) := rfl
theorem f119_1 : iv_f1 (iv_p 119) 1 = some (.inl (iv_oGF 11 3)) := rfl
theorem f119_4 : iv_f1 (iv_p 119) 4 = some (.inl (iv_oI 1 1)) := rfl
theorem f119_5 : iv_f1 (iv_p 119) 5 = some (.inr (.inr (6, 26, 1, 3))) := rfl
theorem f119_8 : iv_f1 (iv_p 119) 8 = some (.inl (iv_oIf .eq (13))) := rfl
theorem f119_11 : iv_f1 (iv_p 119) 11 = some (.inl (iv_oI 2 1)) := rfl
theorem f119_12 : iv_f1 (iv_p 119) 12 = some (.inl (iv_oIf .lt (9))) := rfl
theorem f119_15 : iv_f1 (iv_p 119) 15 = some (.inl (iv_oI 2 1)) := rfl
theorem f119_16 : iv_f1 (iv_p 119) 16 = some (.inl (iv_oK (.int (Int32.ofNat 7)) 2)) := rfl
theorem f119_18 : iv_f1 (iv_p 119) 18 = some (.inl (iv_oIc .le (13))) := rfl
theorem f140_0 : iv_f1 (iv_p 140) 0 = some (.inl (iv_oA 0 1)) := rfl
theorem f140_1 : iv_f1 (iv_p 140) 1 = some (.inl (iv_oGF 11 3)) := rfl
theorem f140_4 : iv_f1 (iv_p 140) 4 = some (.inl (iv_oI 1 1)) := rfl
theorem f140_5 : iv_f1 (iv_p 140) 5 = some (.inr (.inr (6, 26, 1, 3))) := rfl
theorem f140_8 : iv_f1 (iv_p 140) 8 = some (.inl (iv_oIf .eq (12))) := rfl
theorem f140_11 : iv_f1 (iv_p 140) 11 = some (.inl (iv_oI 2 1)) := rfl
theorem f140_12 : iv_f1 (iv_p 140) 12 = some (.inl (iv_oIf .lt (8))) := rfl
theorem f140_15 : iv_f1 (iv_p 140) 15 = some (.inl (iv_oI 2 1)) := rfl
theorem f140_16 : iv_f1 (iv_p 140) 16 = some (.inl (iv_oK (.int (Int32.ofNat 1)) 1)) := rfl
theorem f140_17 : iv_f1 (iv_p 140) 17 = some (.inl (iv_oIc .le (14))) := rfl
theorem Qe {L : Nat} {xs : Nat → Int32} {stop F d M : Nat} {lv : iv_L} {st : List Value} {σ : iv_H} : ∃ n, iv_part L xs stop F n d M stop lv st σ = some (lv, st, σ) := by
  refine ⟨1, ?_⟩
  rw [iv_part_s, Nat.beq_refl]
  rfl
theorem Qs {L : Nat} {xs : Nat → Int32} {stop F d M pc pc' : Nat} {lv lv' : iv_L} {st st' : List Value} {σ σ1 : iv_H} {y : iv_L × List Value × iv_H} {f : iv_F} (hpc : Nat.beq pc stop = false) (hf : iv_f1 (iv_p M) pc = some (.inl f)) (hs : f L xs pc lv st σ = some (pc', lv', st', σ1)) (k : ∃ n, iv_part L xs stop F n d M pc' lv' st' σ1 = some y) : ∃ n, iv_part L xs stop F n d M pc lv st σ = some y := by
  obtain ⟨n, hn⟩ := k
  refine ⟨n + 1, ?_⟩
  rw [iv_part_s, hpc, hf]
  simp only [cond_false, hs]
  rw [iv_fp_eq]
  exact hn
theorem Qc {L : Nat} {xs : Nat → Int32} {stop F d M pc kind mm nn ci : Nat} {lv : iv_L} {st as rest : List Value} {σ σ1 : iv_H} {r1 : Option Value} {y : iv_L × List Value × iv_H} (hpc : Nat.beq pc stop = false) (hf : iv_f1 (iv_p M) pc = some (.inr (.inr (kind, mm, nn, ci)))) (ha : iv_args kind nn ci st σ = some (as, rest)) (hcs : Nat.ble (iv_cs as) (iv_m mm).2.2.1 = true) (hr : iv_run L xs F d mm 0 (lv_args 0 as) [] σ = some (r1, σ1)) (k : ∃ n, iv_part L xs stop F n (d + 1) M (pc + 3) lv (r1.toList ++ rest) σ1 = some y) : ∃ n, iv_part L xs stop F n (d + 1) M pc lv st σ = some y := by
  obtain ⟨n, hn⟩ := k
  refine ⟨n + 1, ?_⟩
  rw [iv_part_s, hpc, hf]
  simp only [cond_false, ha, hcs, cond_true, hr]
  rw [iv_fp_eq]
  exact hn
/-- the order and how many brothers it has -/
theorem z_ord {σ : iv_H} (hI : zI z_τ z_ty σ) : ∃ (fs fs3 : List Value) (q : Nat) (n : Int32), iv_get σ 0 = some (.inr (11, fs)) ∧ iv_nth fs 3 = some (.ref q) ∧ iv_get σ q = some (.inr (3, fs3)) ∧ iv_nth fs3 1 = some (.int n) ∧ 0 ≤ n.toInt ∧ n.toInt ≤ 7 := by
  obtain ⟨fs, h1, h2, h3⟩ := zI_obj hI (a := 0) (t := 21) rfl (show z_ty 21 = some (.inl (11, _)) from rfl)
  have h2 : fs.length = 20 := h2
  obtain ⟨x3, e3⟩ := iv_nth_some (l := fs) (n := 3) (by omega)
  obtain ⟨q, rfl, _, _, t3⟩ : ∃ a : Nat, x3 = .ref a ∧ (0 : Int) ≤ a ∧ (a : Int) ≤ 1000 ∧ z_τ a = 13 := h3 3 _ x3 rfl e3
  obtain ⟨fs3, g1, g2, g3⟩ := zI_obj hI t3 (show z_ty 13 = some (.inl (3, _)) from rfl)
  have g2 : fs3.length = 16 := g2
  obtain ⟨x1, e1⟩ := iv_nth_some (l := fs3) (n := 1) (by omega)
  obtain ⟨n, rfl, n0, n7⟩ : ∃ y : Int32, x1 = .int y ∧ (0 : Int) ≤ y.toInt ∧ y.toInt ≤ 7 := g3 1 _ x1 rfl e1
  exact ⟨fs, fs3, q, n, h1, e3, g1, e1, n0, n7⟩
theorem h_hasF {L : Nat} {xs : Nat → Int32} {d q : Nat} {b n : Int32} {σ : iv_H} {fs3 : List Value} (hq : iv_get σ q = some (.inr (3, fs3))) (hn : iv_nth fs3 1 = some (.int n)) (h : b < 0 ∨ n ≤ b) : iv_Rn L xs d 26 0 (lv_args 0 [.ref q, .int b]) [] σ (some (.int (Int32.ofNat 0))) σ := by
  by_cases hb : b < 0
  · refine Rs f26_0 rfl ?_
    refine Rs f26_1 (o_IfT rfl (decide_eq_true hb)) ?_
    refine Rs f26_16 rfl ?_
    exact Rr f26_17 rfl
  · refine Rs f26_0 rfl ?_
    refine Rs f26_1 (o_IfF rfl (decide_eq_false hb)) ?_
    refine Rs f26_4 rfl ?_
    refine Rs f26_5 rfl ?_
    refine Rs f26_6 (o_GF hq hn) ?_
    refine Rs f26_9 (o_IcT rfl (decide_eq_true (h.resolve_left hb))) ?_
    refine Rs f26_16 rfl ?_
    exact Rr f26_17 rfl
theorem h_hasT {L : Nat} {xs : Nat → Int32} {d q : Nat} {b n : Int32} {σ : iv_H} {fs3 : List Value} (hq : iv_get σ q = some (.inr (3, fs3))) (hn : iv_nth fs3 1 = some (.int n)) (h : ¬ b < 0) (h2 : ¬ n ≤ b) : iv_Rn L xs d 26 0 (lv_args 0 [.ref q, .int b]) [] σ (some (.int (Int32.ofNat 1))) σ := by
  refine Rs f26_0 rfl ?_
  refine Rs f26_1 (o_IfF rfl (decide_eq_false h)) ?_
  refine Rs f26_4 rfl ?_
  refine Rs f26_5 rfl ?_
  refine Rs f26_6 (o_GF hq hn) ?_
  refine Rs f26_9 (o_IcF rfl (decide_eq_false h2)) ?_
  refine Rs f26_12 rfl ?_
  refine Rs f26_13 rfl ?_
  exact Rr f26_17 rfl

theorem bt_119 {L : Nat} {xs : Nat → Int32} {d : Nat} {x y b w : Int32} {σ : iv_H} (hd : 10 ≤ d) (hI : Inv5 x y σ) : (∃ F n, iv_part L xs 21 F n (d + 1) 119 0 (lv_args 0 [.ref 0, .int b, .int w]) [] σ = some (lv_args 0 [.ref 0, .int b, .int w], [], σ)) ∨ ∃ (v : Int32) (σ1 : iv_H), iv_Rn L xs (d + 1) 119 0 (lv_args 0 [.ref 0, .int b, .int w]) [] σ (some (.int v)) σ1 ∧ Inv5 x y σ1 := by
  obtain ⟨fs, fs3, q, n, h0, e3, h3, hn, n0, n7⟩ := z_ord hI.1.1
  by_cases hb : b < 0 ∨ n ≤ b
  · obtain ⟨F, hF⟩ := h_hasF (L := L) (xs := xs) (d := d) h3 hn hb
    refine .inl ⟨F, ?_⟩
    refine Qs rfl f119_0 rfl ?_
    refine Qs rfl f119_1 (o_GF h0 e3) ?_
    refine Qs rfl f119_4 rfl ?_
    refine Qc rfl f119_5 (s_arg1 h3) rfl hF ?_
    refine Qs rfl f119_8 (o_IfT rfl (by decide)) ?_
    exact Qe
  · have hb0 : ¬ b < 0 := fun z => hb (.inl z)
    have hb1 : ¬ n ≤ b := fun z => hb (.inr z)
    by_cases hw0 : w < 0
    · obtain ⟨F, hF⟩ := h_hasT (L := L) (xs := xs) (d := d) h3 hn hb0 hb1
      refine .inl ⟨F, ?_⟩
      refine Qs rfl f119_0 rfl ?_
      refine Qs rfl f119_1 (o_GF h0 e3) ?_
      refine Qs rfl f119_4 rfl ?_
      refine Qc rfl f119_5 (s_arg1 h3) rfl hF ?_
      refine Qs rfl f119_8 (o_IfF rfl (by decide)) ?_
      refine Qs rfl f119_11 rfl ?_
      refine Qs rfl f119_12 (o_IfT rfl (decide_eq_true hw0)) ?_
      exact Qe
    · by_cases hw1 : w ≤ Int32.ofNat 7
      · refine .inr ?_
        have eT : (Int32.ofNat 7).toInt = 7 := by decide
        have e0 : (0 : Int32).toInt = 0 := by decide
        have w0 : 0 ≤ w.toInt := by
          have h9 : ¬ w.toInt < (0 : Int32).toInt := fun z => hw0 (Int32.lt_iff_toInt_lt.mpr z)
          omega
        have w1 : w.toInt ≤ 7 := by
          have := Int32.le_iff_toInt_le.mp hw1
          omega
        have b0 : 0 ≤ b.toInt := by
          have h9 : ¬ b.toInt < (0 : Int32).toInt := fun z => hb0 (Int32.lt_iff_toInt_lt.mpr z)
          omega
        have b1 : b.toInt ≤ 6 := by
          have h9 : ¬ n.toInt ≤ b.toInt := fun z => hb1 (Int32.le_iff_toInt_le.mpr z)
          omega
        obtain ⟨r, σ1, hR, g1, g2, g3, X, hX, ⟨ρX, g4⟩, _⟩ := zchkT_ok (t := (31, _)) z_T z_Js z_O (fun k hk => by rw [List.mem_singleton.mp hk]; exact zt_90) zbk_0 List.mem_cons_self rfl L xs (d + 1) (lv_args 0 [.ref 0, .int b, .int w]) σ (stdR 0 [b, w] 0) (show 10 ≤ d + 1 by omega) hI.1.1 hI.1.2 (std_zP (t := 21) (rs := [(0, 6), (0, 7)]) (ys := [b, w]) rfl (by decide) ⟨⟨b0, b1⟩, ⟨w0, w1⟩, trivial⟩)
        obtain ⟨v, rfl⟩ := exI_ok (Xs := zb_0.2.2.2.2.2) rfl hX g4
        refine ⟨v, σ1, ?_, inv_c5 hI g1 g2 g3 rfl rfl (by rw [fB_fr hI.1.1 g3 rfl]; exact hI.2.2.1.1)⟩
        refine Rs f119_0 rfl ?_
        refine Rs f119_1 (o_GF h0 e3) ?_
        refine Rs f119_4 rfl ?_
        refine Rc f119_5 (s_arg1 h3) rfl (h_hasT h3 hn hb0 hb1) ?_
        refine Rs f119_8 (o_IfF rfl (by decide)) ?_
        refine Rs f119_11 rfl ?_
        refine Rs f119_12 (o_IfF rfl (decide_eq_false hw0)) ?_
        refine Rs f119_15 rfl ?_
        refine Rs f119_16 rfl ?_
        exact Rs f119_18 (o_IcT rfl (decide_eq_true hw1)) hR
      · obtain ⟨F, hF⟩ := h_hasT (L := L) (xs := xs) (d := d) h3 hn hb0 hb1
        refine .inl ⟨F, ?_⟩
        refine Qs rfl f119_0 rfl ?_
        refine Qs rfl f119_1 (o_GF h0 e3) ?_
        refine Qs rfl f119_4 rfl ?_
        refine Qc rfl f119_5 (s_arg1 h3) rfl hF ?_
        refine Qs rfl f119_8 (o_IfF rfl (by decide)) ?_
        refine Qs rfl f119_11 rfl ?_
        refine Qs rfl f119_12 (o_IfF rfl (decide_eq_false hw0)) ?_
        refine Qs rfl f119_15 rfl ?_
        refine Qs rfl f119_16 rfl ?_
        refine Qs rfl f119_18 (o_IcF rfl (decide_eq_false hw1)) ?_
        exact Qe

theorem bt_140 {L : Nat} {xs : Nat → Int32} {d : Nat} {x y b w : Int32} {σ : iv_H} (hd : 10 ≤ d) (hI : Inv5 x y σ) : (∃ F n, iv_part L xs 20 F n (d + 1) 140 0 (lv_args 0 [.ref 0, .int b, .int w]) [] σ = some (lv_args 0 [.ref 0, .int b, .int w], [], σ)) ∨ ∃ (v : Int32) (σ1 : iv_H), iv_Rn L xs (d + 1) 140 0 (lv_args 0 [.ref 0, .int b, .int w]) [] σ (some (.int v)) σ1 ∧ Inv5 x y σ1 := by
  obtain ⟨fs, fs3, q, n, h0, e3, h3, hn, n0, n7⟩ := z_ord hI.1.1
  by_cases hb : b < 0 ∨ n ≤ b
  · obtain ⟨F, hF⟩ := h_hasF (L := L) (xs := xs) (d := d) h3 hn hb
    refine .inl ⟨F, ?_⟩
    refine Qs rfl f140_0 rfl ?_
    refine Qs rfl f140_1 (o_GF h0 e3) ?_
    refine Qs rfl f140_4 rfl ?_
    refine Qc rfl f140_5 (s_arg1 h3) rfl hF ?_
    refine Qs rfl f140_8 (o_IfT rfl (by decide)) ?_
    exact Qe
  · have hb0 : ¬ b < 0 := fun z => hb (.inl z)
    have hb1 : ¬ n ≤ b := fun z => hb (.inr z)
    by_cases hw0 : w < 0
    · obtain ⟨F, hF⟩ := h_hasT (L := L) (xs := xs) (d := d) h3 hn hb0 hb1
      refine .inl ⟨F, ?_⟩
      refine Qs rfl f140_0 rfl ?_
      refine Qs rfl f140_1 (o_GF h0 e3) ?_
      refine Qs rfl f140_4 rfl ?_
      refine Qc rfl f140_5 (s_arg1 h3) rfl hF ?_
      refine Qs rfl f140_8 (o_IfF rfl (by decide)) ?_
      refine Qs rfl f140_11 rfl ?_
      refine Qs rfl f140_12 (o_IfT rfl (decide_eq_true hw0)) ?_
      exact Qe
    · by_cases hw1 : w ≤ Int32.ofNat 1
      · refine .inr ?_
        have eT : (Int32.ofNat 1).toInt = 1 := by decide
        have e0 : (0 : Int32).toInt = 0 := by decide
        have w0 : 0 ≤ w.toInt := by
          have h9 : ¬ w.toInt < (0 : Int32).toInt := fun z => hw0 (Int32.lt_iff_toInt_lt.mpr z)
          omega
        have w1 : w.toInt ≤ 1 := by
          have := Int32.le_iff_toInt_le.mp hw1
          omega
        have b0 : 0 ≤ b.toInt := by
          have h9 : ¬ b.toInt < (0 : Int32).toInt := fun z => hb0 (Int32.lt_iff_toInt_lt.mpr z)
          omega
        have b1 : b.toInt ≤ 6 := by
          have h9 : ¬ n.toInt ≤ b.toInt := fun z => hb1 (Int32.le_iff_toInt_le.mpr z)
          omega
        obtain ⟨r, σ1, hR, g1, g2, g3, X, hX, ⟨ρX, g4⟩, _⟩ := zchkT_ok (t := (31, _)) z_T z_Js z_O (fun k hk => by rw [List.mem_singleton.mp hk]; exact zt_100) zbk_1 List.mem_cons_self rfl L xs (d + 1) (lv_args 0 [.ref 0, .int b, .int w]) σ (stdR 0 [b, w] 0) (show 10 ≤ d + 1 by omega) hI.1.1 hI.1.2 (std_zP (t := 21) (rs := [(0, 6), (0, 1)]) (ys := [b, w]) rfl (by decide) ⟨⟨b0, b1⟩, ⟨w0, w1⟩, trivial⟩)
        obtain ⟨v, rfl⟩ := exI_ok (Xs := zb_1.2.2.2.2.2) rfl hX g4
        refine ⟨v, σ1, ?_, inv_c5 hI g1 g2 g3 rfl rfl (by rw [fB_fr hI.1.1 g3 rfl]; exact hI.2.2.1.1)⟩
        refine Rs f140_0 rfl ?_
        refine Rs f140_1 (o_GF h0 e3) ?_
        refine Rs f140_4 rfl ?_
        refine Rc f140_5 (s_arg1 h3) rfl (h_hasT h3 hn hb0 hb1) ?_
        refine Rs f140_8 (o_IfF rfl (by decide)) ?_
        refine Rs f140_11 rfl ?_
        refine Rs f140_12 (o_IfF rfl (decide_eq_false hw0)) ?_
        refine Rs f140_15 rfl ?_
        refine Rs f140_16 rfl ?_
        exact Rs f140_17 (o_IcT rfl (decide_eq_true hw1)) hR
      · obtain ⟨F, hF⟩ := h_hasT (L := L) (xs := xs) (d := d) h3 hn hb0 hb1
        refine .inl ⟨F, ?_⟩
        refine Qs rfl f140_0 rfl ?_
        refine Qs rfl f140_1 (o_GF h0 e3) ?_
        refine Qs rfl f140_4 rfl ?_
        refine Qc rfl f140_5 (s_arg1 h3) rfl hF ?_
        refine Qs rfl f140_8 (o_IfF rfl (by decide)) ?_
        refine Qs rfl f140_11 rfl ?_
        refine Qs rfl f140_12 (o_IfF rfl (decide_eq_false hw0)) ?_
        refine Qs rfl f140_15 rfl ?_
        refine Qs rfl f140_16 rfl ?_
        refine Qs rfl f140_17 (o_IcF rfl (decide_eq_false hw1)) ?_
        exact Qe

