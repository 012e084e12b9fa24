/-! ===== order answers the same on both sides ===== -/
theorem ord_same {L : Nat} {xs : Nat → Int32} {d : Nat} {x x' v w : Int32} {σ σ1 σ2 : iv_H} (hd : 60 ≤ d) (hI : Inv x x σ) (hI1 : Inv x' x σ1) (hR : iv_Rn L xs d 117 0 (lv_args 0 [.ref 0]) [] σ (some (.int v)) σ1) (hR2 : iv_Rn L xs d 191 0 (lv_args 0 [.ref 548]) [] σ1 (some (.int w)) σ2) : v = w := by
  obtain ⟨o1, o2, T, hb, e1, e2⟩ := hI.2.2.2.2.2
  obtain ⟨_, _, T1, hb1, k1, k2⟩ := hI1.2.2.2.2.2
  have hz := hI.1.1
  obtain ⟨fs, gfs, hfs⟩ := z_G hz
  have hx3 : iv_nth fs 1 = some (.int x) := by rw [← fB_of gfs]; exact hI.2.2.1.1
  have hx9 := hfs x hx3
  obtain ⟨rb, σb, Rb, _, _, Fb, _⟩ := zu_7 L xs d (.ref 0 :: ([] : List Int32).map .int) σ (stdR 0 [] x.toInt) (show 50 ≤ d by omega) hz hI.1.2 (std_zPB (rs := []) (ys := []) (t := 21) (a := 0) (x := x) rfl (by decide) trivial gfs hx3 hx9.1 hx9.2)
  obtain ⟨_, rfl⟩ := y_det hR Rb
  have t1 : mA σ1 550 = ytp T := (k2.trans (k1.symm.trans (mA_c hz Fb rfl))).trans e1
  obtain ⟨n, rfl, en⟩ := i32_nat (x := x) hx9.1
  have hM1 := hI1.2.1.1
  obtain ⟨fs1, g, mo, _⟩ := mO_of hM1
  obtain ⟨V, efs, hV⟩ := y_V (fs := fs1) (n := 49) mo.1
  have g0 : iv_get σ1 548 = some (yob 12 49 V) := by rw [g, efs]; rfl
  have c2 : V 2 = .int (Int32.ofNat n) := hV 2 _ (by rw [← fT_of g]; exact hI1.2.2.1.2)
  have mo2 : mO ((List.range 49).map V) := by rw [← efs]; exact mo
  obtain ⟨ft, gt, _⟩ := zI_ia hM1 (a := 550) (t := 73) rfl rfl
  have gt2 : iv_get σ1 550 = some (yai 940 (ytp T)) := by rw [← t1, hA_of gt]; exact gt
  obtain ⟨fN, gN, _⟩ := zI_ia hM1 (a := 552) (t := 74) rfl rfl
  obtain ⟨fR, gR, _⟩ := zI_ia hM1 (a := 554) (t := 75) rfl rfl
  obtain ⟨eM, gM, hMc⟩ := hM1 562 _ rfl
  obtain ⟨fM, rfl, _⟩ := (show ∃ f : Nat → Int64, eM = .inl (1, 13, .inr (.inl f)) ∧ _ from hMc)
  obtain ⟨eQ, gQ, hQc⟩ := hM1 564 _ rfl
  obtain ⟨fQ, rfl, _⟩ := (show ∃ f : Nat → Int64, eQ = .inl (1, 13, .inr (.inl f)) ∧ _ from hQc)
  obtain ⟨eO, gO, hOc⟩ := hM1 570 _ rfl
  obtain ⟨fO, rfl, _⟩ := (show ∃ f : Nat → Int32, eO = .inl (2, 3, .inl f) ∧ _ from hOc)
  obtain ⟨fsT, gT, hlT, hfT⟩ := zI_obj hM1 (a := 548) (t := 22) rfl rfl
  rw [g] at gT
  cases gT
  have ty : yTy V := by
    refine ⟨?_, ?_, ?_⟩
    · obtain ⟨q, hq⟩ := iv_nth_some (l := fs1) (n := 12) (by rw [mo.1]; decide)
      obtain ⟨y, e, _⟩ := (show ∃ y : Int64, q = .long y ∧ _ from hfT 12 _ _ rfl hq)
      exact ⟨y, by rw [hV 12 _ hq, e]⟩
    · obtain ⟨q, hq⟩ := iv_nth_some (l := fs1) (n := 8) (by rw [mo.1]; decide)
      obtain ⟨y, e, _⟩ := (show ∃ y : Int32, q = .int y ∧ _ from hfT 8 _ _ rfl hq)
      exact ⟨y, by rw [hV 8 _ hq, e]⟩
    · obtain ⟨q, hq⟩ := iv_nth_some (l := fs1) (n := 9) (by rw [mo.1]; decide)
      obtain ⟨y, e, _⟩ := (show ∃ y : Int32, q = .int y ∧ _ from hfT 9 _ _ rfl hq)
      exact ⟨y, by rw [hV 9 _ hq, e]⟩
  obtain ⟨s, hi, σ3, R3⟩ := ym_order (L := L) (xs := xs) (d := d) (n := n) (by omega) (by omega) hb mo2 g0 gt2 gR gQ gO gN gM c2 ty
  obtain ⟨ew, _⟩ := y_det hR2 R3
  have gtc : iv_get σ 2 = some (yai 940 (ytp T)) := by
    obtain ⟨f, g⟩ := yi_of hz (a := 2) (n := 940) rfl
    rw [← e1, hA_of g]
    exact g
  obtain ⟨σ4, R4⟩ := yg_order (L := L) (xs := xs) (d := d) (n := n) hd (by omega) hb hz hI.1.2 o2 hI.2.2.1.1 gtc hi
  obtain ⟨ev, _⟩ := y_det hR R4
  simp only [Option.some.injEq, Value.int.injEq] at ev ew
  rw [ev, ew]
