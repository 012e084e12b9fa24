/-! ===== order, image, restore, count on both sides ===== -/
/-- both faults are the same -/
def FT (σ : iv_H) : Prop := ∃ k : Nat, oF σ 0 2 = some (.int (Int32.ofNat k)) ∧ oF σ 548 10 = some (.int (Int32.ofNat k))
theorem oF_t0 {σ σ' : iv_H} (ht : tEq z_τ z_ty σ σ') (j : Nat) : oF σ' 0 j = oF σ 0 j := by
  obtain ⟨cs, t1, _⟩ := z_t21
  exact oF_g (ht 0 _ (show z_ty (z_τ 0) = _ from t1)) j
theorem oF_t548 {σ σ' : iv_H} (ht : tEq m_τ m_ty σ σ') (j : Nat) : oF σ' 548 j = oF σ 548 j := oF_g (ht 548 _ rfl) j
theorem oF_z {ms : zm} {σ σ' : iv_H} {j : Nat} (hI : zI z_τ z_ty σ) (hF : zFr z_τ ms σ σ') (hm : zmem (0, 11, j) ms = false) : oF σ' 0 j = oF σ 0 j := by
  obtain ⟨fs, g, _⟩ := z_G hI
  obtain ⟨fs', g', e⟩ := (hF.2 0).1 11 fs g
  rw [hO_of g', hO_of g, e j hm]
theorem oF_m {ms : zm} {σ σ' : iv_H} {j : Nat} (hM : zI m_τ m_ty σ) (hF : zFr m_τ ms σ σ') (hm : zmem (0, 12, j) ms = false) : oF σ' 548 j = oF σ 548 j := by
  obtain ⟨fs, g, _⟩ := m_G hM
  obtain ⟨fs', g', e⟩ := (hF.2 548).1 12 fs g
  rw [hO_of g', hO_of g, e j hm]
theorem FT_c {ms : zm} {σ σ' : iv_H} (hI : zI z_τ z_ty σ) (hM : zI m_τ m_ty σ) (hF : zFr z_τ ms σ σ') (hm : cOK ms = true) (h2 : zmem (0, 11, 2) ms = false) (h : FT σ) : FT σ' := by
  obtain ⟨k, h0, h1⟩ := h
  exact ⟨k, (oF_z hI hF h2).trans h0, (oF_t548 (c_leaves hM hF hm) 10).trans h1⟩
theorem FT_m {ms : zm} {σ σ' : iv_H} (hI : zI z_τ z_ty σ) (hM : zI m_τ m_ty σ) (hF : zFr m_τ ms σ σ') (hm : mOK ms = true) (h2 : zmem (0, 12, 10) ms = false) (h : FT σ) : FT σ' := by
  obtain ⟨k, h0, h1⟩ := h
  exact ⟨k, (oF_t0 (m_leaves hI hF hm) 2).trans h0, (oF_m hM hF h2).trans h1⟩
def Q3 (σ : iv_H) : Prop := Out σ ∧ FX σ ∧ TP σ ∧ FX2 σ
def CK2 (σ : iv_H) : Prop := ∀ k, k < 2 → mA σ 372 k = mA σ 568 k ∧ (mA σ 372 k = 1 → CA σ (440 + 54 * k) (fun i => mA σ 556 (374 * k + i)) (fun i => mL σ 566 (13 * k + i)))
theorem CK2_eq {σ σ' : iv_H} (h2 : CK2 σ) (p0 : CP σ σ' 440 440) (p1 : CP σ σ' 494 494) (pk : mA σ' 372 = mA σ 372) (e3 : mA σ' 556 = mA σ 556) (e4 : mL σ' 566 = mL σ 566) (e5 : mA σ' 568 = mA σ 568) : CK2 σ' := by
  intro k hk
  obtain ⟨h3, h4⟩ := h2 k hk
  rw [pk, e3, e4, e5]
  refine ⟨h3, fun h5 => ?_⟩
  have h6 := h4 h5
  rcases k01 hk with rfl | rfl
  · exact CA_eq h6 p0 (fun _ _ => rfl) (fun _ _ => rfl)
  · exact CA_eq h6 p1 (fun _ _ => rfl) (fun _ _ => rfl)
theorem Q3_c {ms : zm} {σ σ' : iv_H} (hI : zI z_τ z_ty σ) (hM : zI m_τ m_ty σ) (hF : zFr z_τ ms σ σ') (hm : cOK ms = true) (hf : fxOK ms = true) (h68 : zmt 68 ms = false) (h69 : zmt 69 ms = false) (h : Out2 σ) : Q3 σ' := ⟨out_fr hF rfl (cOK_t hm) h.1, FX_fr h.2.1 hF hf, TP_c hI hM hF hm h68 h.2.2.1, FX2_c h.2.2.2.1 hF h69⟩
theorem Q3_m {ms : zm} {σ σ' : iv_H} (hI : zI z_τ z_ty σ) (hM : zI m_τ m_ty σ) (hF : zFr m_τ ms σ σ') (hm : mOK ms = true) (h73 : zmt 73 ms = false) (h : Q3 σ) (hc : CK σ') : Out2 σ' := ⟨out_fr hF rfl (mOK_t hm) h.1, FX_eq (m_leaves hI hF hm) h.2.1, TP_m hI hM hF hm h73 h.2.2.1, FX2_m h.2.2.2 (m_leaves hI hF hm), hc⟩
theorem z_t72e {σ σ' : iv_H} (ht : tEq z_τ z_ty σ σ') : mA σ' 372 = mA σ 372 := by
  obtain ⟨T, hT2⟩ : ∃ T, z_ty 72 = some T := ⟨_, rfl⟩
  exact mA_eq2 ht 372 (show z_ty (z_τ 372) = some T from hT2)
theorem ord_pair {L : Nat} {xs : Nat → Int32} {x : Int32} {σ : iv_H} (hI : Inv x x σ) : ∃ (v w x' : Int32) (σ1 σ2 : iv_H), iv_Rn L xs 599 117 0 (lv_args 0 [.ref 0]) [] σ (some (.int v)) σ1 ∧ zI m_τ m_ty σ1 ∧ iv_Rn L xs 599 191 0 (lv_args 0 [.ref 548]) [] σ1 (some (.int w)) σ2 ∧ Inv x' x' σ2 ∧ FT σ2 := by
  have hq2 := hI.2.2.2.2.2
  obtain ⟨o1, o2, ⟨T, hb, e1, e2⟩, o4, o5⟩ := hq2
  have hz := hI.1.1
  obtain ⟨r, σ1, hR, hF, hq, ⟨b0, b9⟩, X, hX, ρX, h5⟩ := cl_cF (L := L) (xs := xs) (d := 599) (rs := []) (ys := []) zu_7 rfl trivial (by decide) hI
  have hX : X ∈ [([((3, 0, 0, 0), (0, (-2147483648), 2147483647)), ((5, 0, 11, 1), (0, 0, 0)), ((2, 1, 0, 0), (0, 0, 940))], [])] := hX
  obtain rfl := List.mem_singleton.mp hX
  obtain ⟨v, rfl, ev, v1, v2⟩ := ex_res (k := 0) h5 rfl
  obtain ⟨fs1, z, g1, g2, ez, z1, z2⟩ := ex_fld (k := 1) (a := 0) h5 rfl rfl
  have hI1 : InvQ Q3 z x σ1 := hq _ z rfl (by rw [fB_of g1]; exact g2) (Q3_c hz hI.2.1.1 hF rfl rfl rfl rfl hI.2.2.2.2.2)
  have ht1 := c_leaves hI.2.1.1 hF rfl
  have t1 : mA σ1 550 = ytp T := (mA_eq ht1 550 rfl).trans e2
  obtain ⟨fs, gfs, hfs⟩ := z_G hz
  have hx3 : iv_nth fs 1 = some (.int x) := by rw [← fB_of gfs]; exact hI.2.2.1.1
  have hx9 := hfs x hx3
  obtain ⟨n, rfl, en⟩ := i32_nat (x := x) hx9.1
  have hM1 := hI1.2.1.1
  obtain ⟨fs2, g, mo, _⟩ := mO_of hM1
  obtain ⟨V, efs, hV⟩ := y_V (fs := fs2) (n := 49) mo.1
  have g0 : iv_get σ1 548 = some (yob 12 49 V) := by rw [g, efs]; rfl
  have c2 : V 2 = .int (Int32.ofNat n) := hV 2 _ (by rw [← fT_of g]; exact hI1.2.2.1.2)
  have mo2 : mO ((List.range 49).map V) := by rw [← efs]; exact mo
  obtain ⟨ft, gt, _⟩ := zI_ia hM1 (a := 550) (t := 73) rfl rfl
  have gt2 : iv_get σ1 550 = some (yai 940 (ytp T)) := by rw [← t1, hA_of gt]; exact gt
  obtain ⟨fN, gN, _⟩ := zI_ia hM1 (a := 552) (t := 74) rfl rfl
  obtain ⟨fR, gR, _⟩ := zI_ia hM1 (a := 554) (t := 75) rfl rfl
  obtain ⟨eM, gM, hMc⟩ := hM1 562 _ rfl
  obtain ⟨fM, rfl, _⟩ := (show ∃ f : Nat → Int64, eM = .inl (1, 13, .inr (.inl f)) ∧ _ from hMc)
  obtain ⟨eQ, gQ, hQc⟩ := hM1 564 _ rfl
  obtain ⟨fQ, rfl, _⟩ := (show ∃ f : Nat → Int64, eQ = .inl (1, 13, .inr (.inl f)) ∧ _ from hQc)
  obtain ⟨eO, gO, hOc⟩ := hM1 570 _ rfl
  obtain ⟨fO, rfl, _⟩ := (show ∃ f : Nat → Int32, eO = .inl (2, 3, .inl f) ∧ _ from hOc)
  obtain ⟨fsT, gT, hlT, hfT⟩ := zI_obj hM1 (a := 548) (t := 22) rfl rfl
  rw [g] at gT
  cases gT
  have ty : yTy V := by
    refine ⟨?_, ?_, ?_⟩
    · obtain ⟨q, hq⟩ := iv_nth_some (l := fs2) (n := 12) (by rw [mo.1]; decide)
      obtain ⟨y, e, _⟩ := (show ∃ y : Int64, q = .long y ∧ _ from hfT 12 _ _ rfl hq)
      exact ⟨y, by rw [hV 12 _ hq, e]⟩
    · obtain ⟨q, hq⟩ := iv_nth_some (l := fs2) (n := 8) (by rw [mo.1]; decide)
      obtain ⟨y, e, _⟩ := (show ∃ y : Int32, q = .int y ∧ _ from hfT 8 _ _ rfl hq)
      exact ⟨y, by rw [hV 8 _ hq, e]⟩
    · obtain ⟨q, hq⟩ := iv_nth_some (l := fs2) (n := 9) (by rw [mo.1]; decide)
      obtain ⟨y, e, _⟩ := (show ∃ y : Int32, q = .int y ∧ _ from hfT 9 _ _ rfl hq)
      exact ⟨y, by rw [hV 9 _ hq, e]⟩
  obtain ⟨s, hi, σ3, R3, hom⟩ := ym_order (L := L) (xs := xs) (d := 599) (n := n) (by decide) (by omega) hb mo2 g0 gt2 gR gQ gO gN gM c2 ty
  have gtc : iv_get σ 2 = some (yai 940 (ytp T)) := by
    obtain ⟨f, g⟩ := yi_of hz (a := 2) (n := 940) rfl
    rw [← e1, hA_of g]
    exact g
  obtain ⟨σ4, R4, hoc⟩ := yg_order (L := L) (xs := xs) (d := 599) (n := n) (by decide) (by omega) hb hz hI.1.2 o2 hI.2.2.1.1 gtc hi
  obtain ⟨_, rfl⟩ := y_det hR R4
  obtain ⟨r2, σ2, hR2, hF2, hq3, _, X2, hX2, ρ2, h6⟩ := cl_mF (L := L) (xs := xs) (d := 599) (rs := []) (ys := []) nt_4 rfl trivial (by decide) hI1
  have hX2 : X2 ∈ [([((3, 0, 0, 0), (0, (-2147483648), 2147483647)), ((5, 0, 12, 2), (0, 0, 0)), ((2, 1, 0, 0), (0, 0, 940))], [])] := hX2
  obtain rfl := List.mem_singleton.mp hX2
  obtain ⟨w, rfl, _, _, _⟩ := ex_res (k := 0) h6 rfl
  obtain ⟨fs3, z3, k1, k2, _, k4, k5⟩ := ex_fld (k := 1) (a := 548) h6 rfl rfl
  obtain ⟨_, rfl⟩ := y_det hR2 R3
  obtain rfl : z = z3 := Int32.toInt_inj.mp (by omega)
  have ht2 := m_leaves hI1.1.1 hF2 rfl
  have p : ∀ A, z_τ A = 13 → z_τ (A + 2) = 43 → z_τ (A + 10) = 47 → CP σ1 σ2 A A := fun A a1 a2 a3 => CP_t ht2 a1 a2 a3
  obtain ⟨fk, gk, _⟩ := c_isk hz
  have e72 : mA σ2 372 = mA σ 372 := (z_t72e ht2).trans (mA_z gk hF rfl)
  have e556 : mA σ2 556 = mA σ 556 := by
    obtain ⟨K, gK, _⟩ := zI_ia hM1 (a := 556) (t := 76) rfl rfl
    have g2 := (hF2.2 556).2.1 _ gK rfl
    exact ((hA_of g2).trans (hA_of gK).symm).trans (mA_eq ht1 556 rfl)
  have e566 : mL σ2 566 = mL σ 566 := (mL_m hM1 hF2 (a := 566) (t := 81) rfl rfl rfl).trans (mL_eq ht1 566 rfl)
  have e568 : mA σ2 568 = mA σ 568 := by
    obtain ⟨Z, gZ, _⟩ := m_isk hM1
    have g2 := (hF2.2 568).2.1 _ gZ rfl
    exact ((hA_of g2).trans (hA_of gZ).symm).trans (mA_eq ht1 568 rfl)
  obtain ⟨hf1, ⟨c0, c1⟩, hoc2⟩ := hoc
  obtain ⟨hf2, hom⟩ := hom
  have ft : FT σ2 := ⟨yFo (yOrd T n 900 941 s 0 0), (oF_t0 ht2 2).trans hf1, hf2⟩
  have ck2 : CK2 σ2 := CK2_eq o5.2 (CP_tr c0 (p 440 rfl rfl rfl)) (CP_tr c1 (p 494 rfl rfl rfl)) e72 e556 e566 e568
  have ck1 : CA σ2 4 (mA σ2 552) (mL σ2 562) := by
    cases ho : yOrd T n 900 941 s 0 0 with
    | inl e =>
      rw [ho] at hoc2 hom
      obtain ⟨m1, m2⟩ := (show mA σ2 552 = mA σ1 552 ∧ mL σ2 562 = mL σ1 562 from hom)
      have hc : CP σ σ1 4 4 := hoc2
      exact CA_eq o5.1 (CP_tr hc (p 4 rfl rfl rfl)) (fun i _ => by rw [m1, mA_eq ht1 552 rfl]) (fun i _ => by rw [m2, mL_eq ht1 562 rfl])
    | inr q =>
      rw [ho] at hoc2 hom
      obtain ⟨m1, m2⟩ := (show (∀ i, i < 38 → mA σ2 552 i = q.1.1 i) ∧ ∀ i, i < 13 → mL σ2 562 i = q.1.2.1 i from hom)
      have hc : CA σ1 4 q.1.1 q.1.2.1 := hoc2
      exact CA_eq hc (p 4 rfl rfl rfl) m1 m2
  exact ⟨v, w, z, σ1, σ2, hR, hM1, hR2, hq3 Out2 z rfl (by rw [fT_of k1]; exact k2) (Q3_m hI1.1.1 hM1 hF2 rfl rfl hI1.2.2.2.2.2 ⟨ck1, ck2⟩), ft⟩
theorem img_pair {L : Nat} {xs : Nat → Int32} {x : Int32} {σ : iv_H} (a : Int32) (hI : Inv x x σ) : ∃ (v w : Int32) (σ1 σ2 : iv_H), iv_Rn L xs 599 152 0 (lv_args 0 [.ref 0, .int a]) [] σ (some (.int v)) σ1 ∧ zI m_τ m_ty σ1 ∧ iv_Rn L xs 599 280 0 (lv_args 0 [.ref 548, .int a]) [] σ1 (some (.int w)) σ2 ∧ Inv x x σ2 := by
  have o := hI.2.2.2.2.2
  have hz := hI.1.1
  obtain ⟨v, σ1, hR, hF, hq⟩ := cl_cZ (L := L) (xs := xs) (d := 599) (rs := [(-2147483648, 2147483647)]) (ys := [a]) zt_96 rfl rfl ⟨i32_full _, trivial⟩ (by decide) hI
  have hI1 : InvQ Q3 x x σ1 := hq _ rfl rfl (Q3_c hz hI.2.1.1 hF rfl rfl rfl rfl o)
  obtain ⟨v2, σ3, R1, hc⟩ := yc_img (L := L) (xs := xs) (d := 599) a (by decide) hz hI.1.2 o.2.1 o.2.2.2.1
  obtain ⟨_, rfl⟩ := y_det hR R1
  have ht1 := c_leaves hI.2.1.1 hF rfl
  have hM1 := hI1.2.1.1
  obtain ⟨w, σ2, hR2, hF2, hq2⟩ := cl_mZ (L := L) (xs := xs) (d := 599) (rs := [(-2147483648, 2147483647)]) (ys := [a]) mt_img rfl rfl ⟨i32_full _, trivial⟩ (by decide) hI1
  obtain ⟨w2, σ4, R2, hm⟩ := ym_img (L := L) (xs := xs) (d := 599) a (by decide) hM1
  obtain ⟨_, rfl⟩ := y_det hR2 R2
  have ht2 := m_leaves hI1.1.1 hF2 rfl
  have p : ∀ A, z_τ A = 13 → z_τ (A + 2) = 43 → z_τ (A + 10) = 47 → CP σ1 σ2 A A := fun A a1 a2 a3 => CP_t ht2 a1 a2 a3
  have e72 : mA σ2 372 = mA σ1 372 := z_t72e ht2
  have ck : CK σ2 := by
    rcases hc with ⟨n1, rfl⟩ | ⟨q, hq, hv, p4, pq, pr, pk⟩ <;> rcases hm with ⟨n2, hs⟩ | ⟨q2, hq2, hv2, ⟨s1, s2⟩, s3, s4, s5⟩
    · exact CK_eq o.2.2.2.2 (p 4 rfl rfl rfl) (p 440 rfl rfl rfl) (p 494 rfl rfl rfl) e72 hs
    · exact absurd (by rw [hv2]; exact kf_in hq2) n1
    · exact absurd (by rw [hv]; exact kf_in hq) n2
    · obtain rfl := kf_q hq hq2 (hv.symm.trans hv2)
      rw [mA_eq ht1 552 rfl] at s1 s3
      rw [mL_eq ht1 562 rfl] at s2 s4
      rw [mA_eq ht1 556 rfl] at s3
      rw [mL_eq ht1 566 rfl] at s4
      rw [mA_eq ht1 568 rfl] at s5
      obtain ⟨h1, h2⟩ := o.2.2.2.2
      refine ⟨CA_eq h1 (CP_tr p4 (p 4 rfl rfl rfl)) (fun i _ => by rw [s1]) (fun i _ => by rw [s2]), fun k hk => ?_⟩
      rw [e72, pk, s3, s4, s5]
      have pz : CP σ1 σ2 (440 + 54 * k) (440 + 54 * k) := by
        rcases k01 hk with rfl | rfl
        · exact p 440 rfl rfl rfl
        · exact p 494 rfl rfl rfl
      by_cases e : k = q
      · subst e
        refine ⟨by rw [upd_at, if_pos rfl, upd_at, if_pos rfl], fun _ => CA_eq h1 (CP_tr pq pz) (fun i hi => ?_) (fun i hi => ?_)⟩
        · show va_cpy (mA σ 552) (mA σ 556) 0 (374 * k) 374 (374 * k + i) = mA σ 552 i
          rw [zcpy_at, if_pos (by omega)]
          exact congrArg (mA σ 552) (by omega)
        · show va_cpy (mL σ 562) (mL σ 566) 0 (13 * k) 13 (13 * k + i) = mL σ 562 i
          rw [zcpy_at, if_pos (by omega)]
          exact congrArg (mL σ 562) (by omega)
      · obtain ⟨h3, h4⟩ := h2 k hk
        rw [upd_at, if_neg e, upd_at, if_neg e]
        refine ⟨h3, fun h5 => CA_eq (h4 h5) (CP_tr (pr k hk e) pz) (fun i hi => ?_) (fun i hi => ?_)⟩
        · show va_cpy (mA σ 552) (mA σ 556) 0 (374 * q) 374 (374 * k + i) = mA σ 556 (374 * k + i)
          rw [zcpy_at, if_neg (by omega)]
        · show va_cpy (mL σ 562) (mL σ 566) 0 (13 * q) 13 (13 * k + i) = mL σ 566 (13 * k + i)
          rw [zcpy_at, if_neg (by omega)]
  exact ⟨v, w, σ1, σ2, hR, hM1, hR2, hq2 Out2 rfl rfl (Q3_m hI1.1.1 hM1 hF2 rfl rfl hI1.2.2.2.2.2 ck)⟩
theorem rst_pair {L : Nat} {xs : Nat → Int32} {x : Int32} {σ : iv_H} (a : Int32) (hI : Inv x x σ) : ∃ (v w : Int32) (σ1 σ2 : iv_H), iv_Rn L xs 599 153 0 (lv_args 0 [.ref 0, .int a]) [] σ (some (.int v)) σ1 ∧ zI m_τ m_ty σ1 ∧ iv_Rn L xs 599 281 0 (lv_args 0 [.ref 548, .int a]) [] σ1 (some (.int w)) σ2 ∧ Inv x x σ2 := by
  have o := hI.2.2.2.2.2
  have hz := hI.1.1
  obtain ⟨v, σ1, hR, hF, hq⟩ := cl_cZ (L := L) (xs := xs) (d := 599) (rs := [(-2147483648, 2147483647)]) (ys := [a]) zt_98 rfl rfl ⟨i32_full _, trivial⟩ (by decide) hI
  have hI1 : InvQ Q3 x x σ1 := hq _ rfl rfl (Q3_c hz hI.2.1.1 hF rfl rfl rfl rfl o)
  obtain ⟨v2, σ3, R1, hc⟩ := yc_rst (L := L) (xs := xs) (d := 599) a (by decide) hz hI.1.2 o.2.1 o.2.2.2.1
  obtain ⟨_, rfl⟩ := y_det hR R1
  have ht1 := c_leaves hI.2.1.1 hF rfl
  have hM1 := hI1.2.1.1
  obtain ⟨w, σ2, hR2, hF2, hq2⟩ := cl_mZ (L := L) (xs := xs) (d := 599) (rs := [(-2147483648, 2147483647)]) (ys := [a]) mt_rst rfl rfl ⟨i32_full _, trivial⟩ (by decide) hI1
  obtain ⟨w2, σ4, R2, hm⟩ := ym_rst (L := L) (xs := xs) (d := 599) a (by decide) hM1
  obtain ⟨_, rfl⟩ := y_det hR2 R2
  have ht2 := m_leaves hI1.1.1 hF2 rfl
  have p : ∀ A, z_τ A = 13 → z_τ (A + 2) = 43 → z_τ (A + 10) = 47 → CP σ1 σ2 A A := fun A a1 a2 a3 => CP_t ht2 a1 a2 a3
  have e72 : mA σ2 372 = mA σ1 372 := z_t72e ht2
  have e568 : mA σ1 568 = mA σ 568 := mA_eq ht1 568 rfl
  obtain ⟨h1, h2⟩ := o.2.2.2.2
  have one : ¬ ((1 : Int32) = 0) := by decide
  have ck : CK σ2 := by
    rcases hc with ⟨n1, rfl⟩ | ⟨q, hq, hv, hz1, p4, p0, p1, pk⟩ <;> rcases hm with ⟨n2, hs⟩ | ⟨q2, hq2, hv2, hz2, s1, s2, s3, s4, s5⟩
    · exact CK_eq ⟨h1, h2⟩ (p 4 rfl rfl rfl) (p 440 rfl rfl rfl) (p 494 rfl rfl rfl) e72 hs
    · exfalso
      rcases n1 with n1 | ⟨q, hq, hv, hz1⟩
      · exact n1 (by rw [hv2]; exact kf_in hq2)
      · obtain rfl := kf_q hq hq2 (hv.symm.trans hv2)
        rw [← (h2 q (by omega)).1, hz1] at hz2
        exact one hz2.symm
    · exfalso
      rcases n2 with n2 | ⟨q2, hq2, hv2, hz2⟩
      · exact n2 (by rw [hv]; exact kf_in hq)
      · obtain rfl := kf_q hq hq2 (hv.symm.trans hv2)
        rw [e568, ← (h2 q (by omega)).1, hz1] at hz2
        exact one hz2
    · obtain rfl := kf_q hq hq2 (hv.symm.trans hv2)
      rw [mA_eq ht1 552 rfl, mA_eq ht1 556 rfl] at s1
      rw [mL_eq ht1 562 rfl, mL_eq ht1 566 rfl] at s2
      rw [mA_eq ht1 556 rfl] at s3
      rw [mL_eq ht1 566 rfl] at s4
      rw [e568] at s5
      have h6 := (h2 q (by omega)).2 hz1
      have ck1 : CA σ2 4 (mA σ2 552) (mL σ2 562) := CA_eq h6 (CP_tr p4 (p 4 rfl rfl rfl)) (fun i hi => by
        rw [s1, zcpy_at, if_pos (by omega)]
        exact congrArg (mA σ 556) (by omega)) (fun i hi => by
        rw [s2, zcpy_at, if_pos (by omega)]
        exact congrArg (mL σ 566) (by omega))
      exact ⟨ck1, CK2_eq h2 (CP_tr p0 (p 440 rfl rfl rfl)) (CP_tr p1 (p 494 rfl rfl rfl)) (e72.trans pk) s3 s4 s5⟩
  exact ⟨v, w, σ1, σ2, hR, hM1, hR2, hq2 Out2 rfl rfl (Q3_m hI1.1.1 hM1 hF2 rfl rfl hI1.2.2.2.2.2 ck)⟩
