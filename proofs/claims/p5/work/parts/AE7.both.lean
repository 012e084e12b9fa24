/-! ===== both books: their faults agree ===== -/
theorem yHr_of {x y : Int32} {σ : iv_H} (hI : Inv x y σ) : ∃ nb ng, nb ≤ 7 ∧ ng ≤ 6 ∧ (mA σ 552 0 = Int32.ofNat nb ∧ mA σ 552 1 = Int32.ofNat ng) ∧ yHr (mL σ 562) nb ng σ := by
  obtain ⟨⟨⟨f1, f2, _, _⟩, nb, ng, ⟨n0, n1⟩, ⟨b7, g6⟩, hbr, hgr⟩, _⟩ := hI.2.2.2.2.2.2.2.2.2
  obtain ⟨E, g4, oE⟩ := yo_of hI.1.1 (a := 4) (t := 13) (n := 16) rfl rfl rfl
  obtain ⟨bn, q6⟩ := yj_of hI.1.1 (a := 6) (n := 7) rfl
  obtain ⟨gn, q14⟩ := yj_of hI.1.1 (a := 14) (n := 6) rfl
  refine ⟨nb, ng, b7, g6, ⟨n0, n1⟩, E, bn, gn, g4, ⟨?_, ?_, yFX_v hI.2.2.2.2.2.2.1 oE (by decide : (4, 3, 9, 6) ∈ yFX), yFX_v hI.2.2.2.2.2.2.1 oE (by decide : (4, 3, 13, 14) ∈ yFX)⟩, q6, q14, fun b hb => ?_, fun g hg => ?_⟩
  · have h := oI_of g4 (j := 1) (by decide)
    rw [f1] at h
    simp only [Option.some.injEq] at h
    rw [← h, n0]
  · have h := oI_of g4 (j := 2) (by decide)
    rw [f2] at h
    simp only [Option.some.injEq] at h
    rw [← h, n1]
  · have h := hbr b hb
    rw [show mL σ (4 + 2) = bn from hL_of q6] at h
    rw [Nat.zero_add]
    exact h
  · have h := hgr g hg
    rw [show mL σ (4 + 10) = gn from hL_of q14] at h
    exact h
theorem bk_fr {L : Nat} {xs : Nat → Int32} {a x y v : Int32} {σ σ1 : iv_H} (hI : Inv x y σ) (hR : iv_Rn L xs 599 148 0 (lv_args 0 [.ref 0, .int a]) [] σ (some (.int v)) σ1) : tEq m_τ m_ty σ σ1 := by
  have hf := i32_full a
  by_cases h1 : a.toInt ≤ -1
  · obtain ⟨r, σb, R, hF, _⟩ := cl_cF (L := L) (xs := xs) (d := 599) (rs := [(-2147483648, -1)]) (ys := [a]) zu_11 rfl ⟨⟨hf.1, h1⟩, trivial⟩ (by decide) hI
    obtain ⟨_, rfl⟩ := y_det hR R
    exact c_leaves hI.2.1.1 hF rfl
  · by_cases h2 : a.toInt ≤ 0
    · obtain ⟨r, σb, R, hF, _⟩ := cl_cF (L := L) (xs := xs) (d := 599) (rs := [(0, 0)]) (ys := [a]) zu_12 rfl ⟨⟨by omega, h2⟩, trivial⟩ (by decide) hI
      obtain ⟨_, rfl⟩ := y_det hR R
      exact c_leaves hI.2.1.1 hF rfl
    · by_cases h3 : a.toInt ≤ 1
      · obtain ⟨r, σb, R, hF, _⟩ := cl_cF (L := L) (xs := xs) (d := 599) (rs := [(1, 1)]) (ys := [a]) zu_13 rfl ⟨⟨by omega, h3⟩, trivial⟩ (by decide) hI
        obtain ⟨_, rfl⟩ := y_det hR R
        exact c_leaves hI.2.1.1 hF rfl
      · obtain ⟨r, σb, R, hF, _⟩ := cl_cF (L := L) (xs := xs) (d := 599) (rs := [(2, 2147483647)]) (ys := [a]) zu_14 rfl ⟨⟨by omega, hf.2⟩, trivial⟩ (by decide) hI
        obtain ⟨_, rfl⟩ := y_det hR R
        exact c_leaves hI.2.1.1 hF rfl
theorem bk_same {L : Nat} {xs : Nat → Int32} {a x x' v w : Int32} {σ σ1 σ2 : iv_H} (hI : Inv x x σ) (hI1 : Inv x' x σ1) (hf : FT σ) (hR : iv_Rn L xs 599 148 0 (lv_args 0 [.ref 0, .int a]) [] σ (some (.int v)) σ1) (hR2 : iv_Rn L xs 599 266 0 (lv_args 0 [.ref 548, .int a]) [] σ1 (some (.int w)) σ2) : FT σ2 := by
  obtain ⟨rb, σb, Rb, hFm, _⟩ := cl_mF (L := L) (xs := xs) (d := 599) (rs := [(-2147483648, 2147483647)]) (ys := [a]) nt_6 rfl ⟨i32_full a, trivial⟩ (by decide) hI1
  obtain ⟨_, rfl⟩ := y_det hR2 Rb
  have e0 : oF σ2 0 2 = oF σ1 0 2 := oF_t0 (m_leaves hI1.1.1 hFm rfl) 2
  have hM1 := hI1.2.1.1
  obtain ⟨fs2, g, mo, _⟩ := mO_of hM1
  obtain ⟨V, efs, hV⟩ := y_V (fs := fs2) (n := 49) mo.1
  have g0 : iv_get σ1 548 = some (yob 12 49 V) := by rw [g, efs]; rfl
  by_cases ha : a = 0 ∨ a = 1
  · have hq2 := hI.2.2.2.2.2
    obtain ⟨o1, o2, ⟨T, hb, e1, e2⟩, o4, o5⟩ := hq2
    have hz := hI.1.1
    obtain ⟨fs, gfs, hfs⟩ := z_G hz
    have hx3 : iv_nth fs 1 = some (.int x) := by rw [← fB_of gfs]; exact hI.2.2.1.1
    have hx9 := hfs x hx3
    have ht1 := bk_fr hI hR
    have t1 : mA σ1 550 = ytp T := (mA_eq ht1 550 rfl).trans e2
    obtain ⟨n, rfl, en⟩ := i32_nat (x := x) hx9.1
    obtain ⟨nb, ng, b7, g6, ⟨n0, n1⟩, hhr⟩ := yHr_of hI
    have c2 : V 2 = .int (Int32.ofNat n) := hV 2 _ (by rw [← fT_of g]; exact hI1.2.2.1.2)
    have mo2 : mO ((List.range 49).map V) := by rw [← efs]; exact mo
    obtain ⟨ft, gt, _⟩ := zI_ia hM1 (a := 550) (t := 73) rfl rfl
    have gt2 : iv_get σ1 550 = some (yai 940 (ytp T)) := by rw [← t1, hA_of gt]; exact gt
    obtain ⟨fN, gN, _⟩ := zI_ia hM1 (a := 552) (t := 74) rfl rfl
    have hN : fN 0 = Int32.ofNat nb ∧ fN 1 = Int32.ofNat ng := by
      have h := mA_eq ht1 552 rfl
      rw [hA_of gN] at h
      rw [h]
      exact ⟨n0, n1⟩
    obtain ⟨fR, gR, _⟩ := zI_ia hM1 (a := 554) (t := 75) rfl rfl
    obtain ⟨fF, gF, _⟩ := zI_ia hM1 (a := 586) (t := 91) rfl rfl
    obtain ⟨fM, gM⟩ := m_name hM1
    have eM : fM = mL σ 562 := (hL_of gM).symm.trans (mL_eq ht1 562 rfl)
    rw [eM] at gM
    obtain ⟨eQ, gQ, hQc⟩ := hM1 564 _ rfl
    obtain ⟨fQ, rfl, _⟩ := (show ∃ f : Nat → Int64, eQ = .inl (1, 13, .inr (.inl f)) ∧ _ from hQc)
    obtain ⟨eO, gO, hOc⟩ := hM1 570 _ rfl
    obtain ⟨fO, rfl, _⟩ := (show ∃ f : Nat → Int32, eO = .inl (2, 3, .inl f) ∧ _ from hOc)
    obtain ⟨fsT, gT, hlT, hfT⟩ := zI_obj hM1 (a := 548) (t := 22) rfl rfl
    rw [g] at gT
    cases gT
    have ty : yTy V := by
      refine ⟨?_, ?_, ?_⟩
      · obtain ⟨q, hq⟩ := iv_nth_some (l := fs2) (n := 12) (by rw [mo.1]; decide)
        obtain ⟨y, e, _⟩ := (show ∃ y : Int64, q = .long y ∧ _ from hfT 12 _ _ rfl hq)
        exact ⟨y, by rw [hV 12 _ hq, e]⟩
      · obtain ⟨q, hq⟩ := iv_nth_some (l := fs2) (n := 8) (by rw [mo.1]; decide)
        obtain ⟨y, e, _⟩ := (show ∃ y : Int32, q = .int y ∧ _ from hfT 8 _ _ rfl hq)
        exact ⟨y, by rw [hV 8 _ hq, e]⟩
      · obtain ⟨q, hq⟩ := iv_nth_some (l := fs2) (n := 9) (by rw [mo.1]; decide)
        obtain ⟨y, e, _⟩ := (show ∃ y : Int32, q = .int y ∧ _ from hfT 9 _ _ rfl hq)
        exact ⟨y, by rw [hV 9 _ hq, e]⟩
    obtain ⟨u, v13⟩ : ∃ u : Int32, V 13 = .int u := by
      obtain ⟨q, hq⟩ := iv_nth_some (l := fs2) (n := 13) (by rw [mo.1]; decide)
      obtain ⟨y, e, _⟩ := (show ∃ y : Int32, q = .int y ∧ _ from hfT 13 _ _ rfl hq)
      exact ⟨y, by rw [hV 13 _ hq, e]⟩
    obtain ⟨t, v47⟩ : ∃ u : Int32, V 47 = .int u := by
      obtain ⟨q, hq⟩ := iv_nth_some (l := fs2) (n := 47) (by rw [mo.1]; decide)
      obtain ⟨y, e, _⟩ := (show ∃ y : Int32, q = .int y ∧ _ from hfT 47 _ _ rfl hq)
      exact ⟨y, by rw [hV 47 _ hq, e]⟩
    have gtc : iv_get σ 2 = some (yai 940 (ytp T)) := by
      obtain ⟨f, g⟩ := yi_of hz (a := 2) (n := 940) rfl
      rw [← e1, hA_of g]
      exact g
    have kc := cb_ft (L := L) (xs := xs) (d := 589) (n := n) (x := a) ha b7 g6 (by omega) hb hz o2 hI.2.2.1.1 gtc hhr hR
    have km : oF σ2 548 10 = some (.int (Int32.ofNat (yFt (yBok T n 400 (mL σ 562) nb ng 41 0 0)))) := by
      rcases ha with rfl | rfl
      · exact mb_ft (L := L) (xs := xs) (d := 592) (n := n) (which := 0) (by decide) b7 g6 (by omega) hb mo2 g0 gt2 gR gQ gO gN gM gF hN c2 v13 v47 ty hR2
      · exact mb_ft (L := L) (xs := xs) (d := 592) (n := n) (which := 1) (by decide) b7 g6 (by omega) hb mo2 g0 gt2 gR gQ gO gN gM gF hN c2 v13 v47 ty hR2
    exact ⟨_, e0.trans kc, km⟩
  · have h0 : ¬ a = 0 := fun e => ha (.inl e)
    have h1 : ¬ a = 1 := fun e => ha (.inr e)
    have es : σ1 = σ := cb_no h0 h1 hR
    have e1 := mb_no (L := L) (xs := xs) (d := 598) h0 h1 g0 hR2
    obtain ⟨k, k0, k1⟩ := hf
    refine ⟨k, e0.trans ?_, e1.trans ?_⟩
    · rw [es]; exact k0
    · rw [es]; exact k1
theorem sen_ft {L : Nat} {xs : Nat → Int32} {x x' v w : Int32} {σ σ1 σ2 : iv_H} (hI : Inv x x σ) (hI1 : Inv x' x σ1) (hR : iv_Rn L xs 599 150 0 (lv_args 0 [.ref 0]) [] σ (some (.int v)) σ1) (hR2 : iv_Rn L xs 599 277 0 (lv_args 0 [.ref 548]) [] σ1 (some (.int w)) σ2) : FT σ2 := by
  obtain ⟨_, k, k0, k1⟩ := sen_same hI hI1 hR hR2
  obtain ⟨rb, σb, Rb, hFm, _⟩ := cl_mF (L := L) (xs := xs) (d := 599) (rs := []) (ys := []) nt_7 rfl trivial (by decide) hI1
  obtain ⟨_, rfl⟩ := y_det hR2 Rb
  exact ⟨k, (oF_t0 (m_leaves hI1.1.1 hFm rfl) 2).trans k0, k1⟩
/-! what holds between two calls, with the faults -/
def Out5 (σ : iv_H) : Prop := Out2 σ ∧ FT σ
def Inv5 (x y : Int32) (σ : iv_H) : Prop := InvQ Out5 x y σ
theorem Inv5_of {x y : Int32} {σ : iv_H} (h : Inv x y σ) (f : FT σ) : Inv5 x y σ := ⟨h.1, h.2.1, h.2.2.1, h.2.2.2.1, h.2.2.2.2.1, h.2.2.2.2.2, f⟩
theorem inv_of5 {x y : Int32} {σ : iv_H} (h : Inv5 x y σ) : Inv x y σ := ⟨h.1, h.2.1, h.2.2.1, h.2.2.2.1, h.2.2.2.2.1, h.2.2.2.2.2.1⟩
theorem ft_of5 {x y : Int32} {σ : iv_H} (h : Inv5 x y σ) : FT σ := h.2.2.2.2.2.2
theorem inv_c5 {ms : zm} {x x' y : Int32} {σ σ' : iv_H} (h : Inv5 x y σ) (h1 : zI z_τ z_ty σ') (h2 : z_J σ') (hF : zFr z_τ ms σ σ') (hm : cOK2 ms = true) (hf : zmem (0, 11, 2) ms = false) (hx : fB σ' = some (.int x')) : Inv5 x' y σ' := Inv5_of (inv_c (inv_of5 h) h1 h2 hF hm hx) (FT_c h.1.1 h.2.1.1 hF (cOK2_of hm).1 hf (ft_of5 h))
section CLS5
variable {L : Nat} {xs : Nat → Int32} {d : Nat} {c c2 : zct} {rs : List (Int × Int)} {ys : List Int32} {x y : Int32} {σ σ1 σ2 : iv_H} {r r2 : Option Value}
theorem cl_c5 (hC : zCT z_τ z_ty z_J c) (e : c.2.2.2.1.2.1 = zstd 23 rs) (hm : cOK2 c.2.2.1 = true) (hf : zmem (0, 11, 2) c.2.2.1 = false) (hb : zmem (0, 11, 1) c.2.2.1 = false) (hx : exI c.2.2.2.2.2 = true) (hr : inR rs ys) (hd : c.2.1 ≤ d) (hI : Inv5 x y σ) : ∃ (v : Int32) (σ1 : iv_H), iv_Rn L xs d c.1 0 (lv_args 0 (.ref 0 :: ys.map .int)) [] σ (some (.int v)) σ1 ∧ Inv5 x y σ1 := by
  obtain ⟨v, σ1, hR, hI1⟩ := cl_c (L := L) (xs := xs) (d := d) hC e hm hb hx hr hd (inv_of5 hI)
  obtain ⟨v2, σ2, hR2, hF, _⟩ := cl_cZ (L := L) (xs := xs) (d := d) hC e hx hr hd hI
  obtain ⟨_, rfl⟩ := y_det hR hR2
  exact ⟨v, σ1, hR, Inv5_of hI1 (FT_c hI.1.1 hI.2.1.1 hF (cOK2_of hm).1 hf (ft_of5 hI))⟩
theorem cl_m5 (hC : zCT m_τ m_ty (mJ hT) c) (e : c.2.2.2.1.2.1 = zstd 24 rs) (hm : mOK2 c.2.2.1 = true) (hf : zmem (0, 12, 10) c.2.2.1 = false) (hb : zmem (0, 12, 2) c.2.2.1 = false) (hx : exI c.2.2.2.2.2 = true) (hr : inR rs ys) (hd : c.2.1 ≤ d) (hI : Inv5 x y σ) : ∃ (v : Int32) (σ1 : iv_H), iv_Rn L xs d c.1 0 (lv_args 0 (.ref 548 :: ys.map .int)) [] σ (some (.int v)) σ1 ∧ Inv5 x y σ1 := by
  obtain ⟨v, σ1, hR, hI1⟩ := cl_m (L := L) (xs := xs) (d := d) hC e hm hb hx hr hd (inv_of5 hI)
  obtain ⟨v2, σ2, hR2, hF, _⟩ := cl_mZ (L := L) (xs := xs) (d := d) hC e hx hr hd hI
  obtain ⟨_, rfl⟩ := y_det hR hR2
  exact ⟨v, σ1, hR, Inv5_of hI1 (FT_m hI.1.1 hI.2.1.1 hF (mOK2_of hm).1 hf (ft_of5 hI))⟩
/-- a call of the class that tells the tape's length, one of the reference: they leave the faults -/
theorem ft_cB {Q0 : iv_H → Prop} (hC : zCT z_τ z_ty z_J c) (e : c.2.2.2.1.2.1 = zstdB 23 rs 11 1) (hr : inR rs ys) (hd : c.2.1 ≤ d) (hk : cOK c.2.2.1 = true) (h2 : zmem (0, 11, 2) c.2.2.1 = false) (hI : InvQ Q0 x y σ) (hR : iv_Rn L xs d c.1 0 (lv_args 0 (.ref 0 :: ys.map .int)) [] σ r σ1) (h : FT σ) : FT σ1 := by
  obtain ⟨rb, σb, Rb, hF, _⟩ := cl_cF (L := L) (xs := xs) (d := d) hC e hr hd hI
  obtain ⟨_, rfl⟩ := y_det hR Rb
  exact FT_c hI.1.1 hI.2.1.1 hF hk h2 h
theorem ft_mB {Q0 : iv_H → Prop} (hC : zCT m_τ m_ty (mJ hT) c) (e : c.2.2.2.1.2.1 = zstdB 24 rs 12 2) (hr : inR rs ys) (hd : c.2.1 ≤ d) (hk : mOK c.2.2.1 = true) (h2 : zmem (0, 12, 10) c.2.2.1 = false) (hI : InvQ Q0 x y σ) (hR : iv_Rn L xs d c.1 0 (lv_args 0 (.ref 548 :: ys.map .int)) [] σ r σ1) (h : FT σ) : FT σ1 := by
  obtain ⟨rb, σb, Rb, hF, _⟩ := cl_mF (L := L) (xs := xs) (d := d) hC e hr hd hI
  obtain ⟨_, rfl⟩ := y_det hR Rb
  exact FT_m hI.1.1 hI.2.1.1 hF hk h2 h
/-- both sides, by contracts that leave the tape's length -/
theorem ft_two (hC : zCT z_τ z_ty z_J c) (e : c.2.2.2.1.2.1 = zstd 23 rs) (hx : exI c.2.2.2.2.2 = true) (hr : inR rs ys) (hd : c.2.1 ≤ d) (hk : cOK c.2.2.1 = true) (hb : zmem (0, 11, 1) c.2.2.1 = false) (h2 : zmem (0, 11, 2) c.2.2.1 = false) (gC : zCT m_τ m_ty (mJ hT) c2) (ge : c2.2.2.2.1.2.1 = zstd 24 rs) (gx : exI c2.2.2.2.2.2 = true) (gd : c2.2.1 ≤ d) (gk : mOK c2.2.2.1 = true) (g2 : zmem (0, 12, 10) c2.2.2.1 = false) (hI : Inv5 x y σ) (hR : iv_Rn L xs d c.1 0 (lv_args 0 (.ref 0 :: ys.map .int)) [] σ r σ1) (hR2 : iv_Rn L xs d c2.1 0 (lv_args 0 (.ref 548 :: ys.map .int)) [] σ1 r2 σ2) : FT σ2 := by
  obtain ⟨v, σb, Rb, hF, hq⟩ := cl_cZ (L := L) (xs := xs) (d := d) hC e hx hr hd hI
  obtain ⟨_, rfl⟩ := y_det hR Rb
  have hI1 : InvQ (fun _ => True) x y σ1 := hq _ hk hb trivial
  obtain ⟨w, σc, Rc, hG, _⟩ := cl_mZ (L := L) (xs := xs) (d := d) gC ge gx hr gd hI1
  obtain ⟨_, rfl⟩ := y_det hR2 Rc
  exact FT_m hI1.1.1 hI1.2.1.1 hG gk g2 (FT_c hI.1.1 hI.2.1.1 hF hk h2 (ft_of5 hI))
end CLS5
set_option maxRecDepth 100000 in
theorem y118_0 : iv_f1 (iv_p 118) 0 = some (.inl (iv_oA 0 1)) := rfl
set_option maxRecDepth 100000 in
theorem y118_1 : iv_f1 (iv_p 118) 1 = some (.inl (iv_oGF 11 2)) := rfl
set_option maxRecDepth 100000 in
theorem y118_4 : iv_f1 (iv_p 118) 4 = some (.inr (.inl 1)) := rfl
set_option maxRecDepth 100000 in
theorem y192_0 : iv_f1 (iv_p 192) 0 = some (.inl (iv_oA 0 1)) := rfl
set_option maxRecDepth 100000 in
theorem y192_1 : iv_f1 (iv_p 192) 1 = some (.inl (iv_oK (.int (Int32.ofNat 0)) 1)) := rfl
set_option maxRecDepth 100000 in
theorem y192_2 : iv_f1 (iv_p 192) 2 = some (.inl (iv_oPF 12 0 .int)) := rfl
set_option maxRecDepth 100000 in
theorem y192_5 : iv_f1 (iv_p 192) 5 = some (.inl (iv_oA 0 1)) := rfl
set_option maxRecDepth 100000 in
theorem y192_6 : iv_f1 (iv_p 192) 6 = some (.inl (iv_oGF 12 10)) := rfl
set_option maxRecDepth 100000 in
theorem y192_9 : iv_f1 (iv_p 192) 9 = some (.inr (.inl 1)) := rfl
theorem fault_same {L : Nat} {xs : Nat → Int32} {d : Nat} {x v w : Int32} {σ σ1 σ2 : iv_H} (hI : Inv5 x x σ) (hR : iv_Rn L xs d 118 0 (lv_args 0 [.ref 0]) [] σ (some (.int v)) σ1) (hR2 : iv_Rn L xs d 192 0 (lv_args 0 [.ref 548]) [] σ1 (some (.int w)) σ2) : v = w := by
  obtain ⟨k, k0, k1⟩ := ft_of5 hI
  obtain ⟨G, g0, oG⟩ := yo_of hI.1.1 (a := 0) (t := 21) (n := 20) rfl rfl rfl
  have e2 : G 2 = .int (Int32.ofNat k) := by
    have h := hO_of g0 2
    rw [k0, y_nthV (by decide)] at h
    simp only [Option.some.injEq] at h
    exact h.symm
  have R1 : iv_Rn L xs d 118 0 (lv_args 0 [.ref 0]) [] σ (some (.int (Int32.ofNat k))) σ := by
    refine y_Rp ?_
    refine w_A y118_0 rfl ?_
    refine y_gf y118_1 g0 rfl e2 ?_
    exact y_ret y118_4 rfl ⟨rfl, rfl⟩
  obtain ⟨ev, es⟩ := y_det hR R1
  rw [es] at hR2
  obtain ⟨fs2, g, mo, _⟩ := mO_of hI.2.1.1
  obtain ⟨V, efs, hV⟩ := y_V (fs := fs2) (n := 49) mo.1
  have g9 : iv_get σ 548 = some (yob 12 49 V) := by rw [g, efs]; rfl
  have v10 : V 10 = .int (Int32.ofNat k) := by
    have h := hO_of g9 10
    rw [k1, y_nthV (by decide)] at h
    simp only [Option.some.injEq] at h
    exact h.symm
  obtain ⟨σ4, R2⟩ : ∃ σ4, iv_Rn L xs d 192 0 (lv_args 0 [.ref 548]) [] σ (some (.int (Int32.ofNat k))) σ4 := by
    refine y_RpE ?_
    refine w_A y192_0 rfl ?_
    refine w_K y192_1 ?_
    refine y_pf y192_2 g9 rfl rfl ?_
    intro σ3 m3
    refine w_A y192_5 rfl ?_
    refine y_gf y192_6 m3.2.1 rfl v10 ?_
    exact y_ret y192_9 rfl rfl
  obtain ⟨ew, _⟩ := y_det hR2 R2
  simp only [Option.some.injEq, Value.int.injEq] at ev ew
  rw [ev, ew]
