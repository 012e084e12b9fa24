/-! ===== printed by wip/gen/emit_img.py: image by its argument ===== -/
/-- G.image (-2147483648, -1) -/
def zgI_0 : zct := (152, 10, [], (0, ([((0, 0, 0, 0), (23, 0, 1000)), ((0, 1, 0, 0), (0, (-2147483648), (-1)))], []), (1, []), []), [], [([((3, 0, 0, 0), (0, 0, 0))], [])])
theorem zhI_0 : zchk z_τ z_ty z_sf z_oc2 [] z_inl2 4000 zgI_0 = true := by decide +kernel
theorem ziI_0 : zCT z_τ z_ty z_J zgI_0 := zchk_ok z_T z_Js z_O2 (fun k hk => by cases hk) zhI_0
/-- G.image (0, 1) -/
def zgI_1 : zct := (152, 10, [(0, 3, 0), (0, 3, 1), (0, 3, 2), (0, 3, 3), (0, 3, 4), (0, 3, 5), (0, 6, 0), (0, 6, 1), (0, 7, 8), (0, 7, 9), (0, 7, 10), (0, 7, 11), (1, 43, 0), (1, 44, 0), (1, 45, 0), (1, 46, 0), (1, 47, 0), (1, 48, 0), (1, 49, 0), (1, 55, 0), (1, 56, 0), (1, 57, 0), (1, 58, 0), (1, 59, 0), (1, 60, 0), (1, 61, 0), (1, 62, 0), (1, 64, 0), (1, 65, 0), (1, 72, 0)], (0, ([((0, 0, 0, 0), (23, 0, 1000)), ((0, 1, 0, 0), (0, 0, 1))], []), (1, []), []), [], [([((3, 0, 0, 0), (0, 1, 1))], [])])
theorem zhI_1 : zchk z_τ z_ty z_sf z_oc2 [zc_12, zc_94, zc_95] z_inl2 4000 zgI_1 = true := by decide +kernel
theorem ziI_1 : zCT z_τ z_ty z_J zgI_1 := zchk_ok z_T z_Js z_O2 (fun k hk => by
  simp only [List.mem_cons, List.not_mem_nil, or_false] at hk
  rcases hk with rfl | rfl | rfl
  · exact zt_12
  · exact zt_94
  · exact zt_95) zhI_1
/-- G.image (2, 2147483647) -/
def zgI_2 : zct := (152, 10, [], (0, ([((0, 0, 0, 0), (23, 0, 1000)), ((0, 1, 0, 0), (0, 2, 2147483647))], []), (1, []), []), [], [([((3, 0, 0, 0), (0, 0, 0))], [])])
theorem zhI_2 : zchk z_τ z_ty z_sf z_oc2 [] z_inl2 4000 zgI_2 = true := by decide +kernel
theorem ziI_2 : zCT z_τ z_ty z_J zgI_2 := zchk_ok z_T z_Js z_O2 (fun k hk => by cases hk) zhI_2
/-! image on both sides -/
theorem cl_cX {L : Nat} {xs : Nat → Int32} {d : Nat} {c : zct} {rs : List (Int × Int)} {ys : List Int32} {x y : Int32} {σ : iv_H} {lo hi : Int} {w : Nat × Nat × Nat} (hC : zCT z_τ z_ty z_J c) (e : c.2.2.2.1.2.1 = zstd 23 rs) (hm : cOK c.2.2.1 = true) (hb : zmem (0, 11, 1) c.2.2.1 = false) (hx : c.2.2.2.2.2 = [([((3, w), (0, lo, hi))], [])]) (hr : inR rs ys) (hd : c.2.1 ≤ d) (hI : Inv x y σ) : ∃ (v : Int32) (σ1 : iv_H), iv_Rn L xs d c.1 0 (lv_args 0 (.ref 0 :: ys.map .int)) [] σ (some (.int v)) σ1 ∧ Inv x y σ1 ∧ lo ≤ v.toInt ∧ v.toInt ≤ hi := by
  obtain ⟨r, σ1, h1, h2, h3, h4, X, hX, ⟨ρX, h5⟩, _⟩ := hC L xs d (.ref 0 :: ys.map .int) σ (stdR 0 ys 0) hd hI.1.1 hI.1.2 (by rw [e]; exact std_zP (t := 21) rfl (by decide) hr)
  rw [hx] at hX
  obtain rfl := List.mem_singleton.mp hX
  obtain ⟨v, rfl, _, v1, v2⟩ := ex_res (k := 0) h5 rfl
  exact ⟨v, σ1, h1, inv_c hI h2 h3 h4 hm (by rw [fB_fr hI.1.1 h4 hb]; exact hI.2.2.1.1), v1, v2⟩
def imgP (a v : Int32) : Prop := ((a.toInt < 0 ∨ 1 < a.toInt) ∧ v.toInt = 0) ∨ (0 ≤ a.toInt ∧ a.toInt ≤ 1 ∧ v.toInt = 1)
theorem img_same {a v w : Int32} (h1 : imgP a v) (h2 : imgP a w) : v = w := by
  apply Int32.toInt_inj.mp
  rcases h1 with ⟨_, h1⟩ | ⟨_, _, h1⟩ <;> rcases h2 with ⟨_, h2⟩ | ⟨_, _, h2⟩ <;> omega
theorem s_image_c {L : Nat} {xs : Nat → Int32} {d : Nat} {x y a1 : Int32} {σ : iv_H} (hd : 10 ≤ d) (hI : Inv x y σ) : ∃ (v : Int32) (σ1 : iv_H), iv_Rn L xs d 152 0 (lv_args 0 [.ref 0, .int a1]) [] σ (some (.int v)) σ1 ∧ Inv x y σ1 ∧ imgP a1 v := by
  have hf := i32_full a1
  by_cases h0 : a1.toInt < 0
  · obtain ⟨v, σ1, g1, g2, g3, g4⟩ := cl_cX (L := L) (xs := xs) (d := d) (rs := [(-2147483648, -1)]) (ys := [a1]) ziI_0 rfl rfl rfl rfl ⟨⟨hf.1, by show a1.toInt ≤ -1; omega⟩, trivial⟩ hd hI
    exact ⟨v, σ1, g1, g2, .inl ⟨.inl h0, by omega⟩⟩
  · by_cases h1 : 1 < a1.toInt
    · obtain ⟨v, σ1, g1, g2, g3, g4⟩ := cl_cX (L := L) (xs := xs) (d := d) (rs := [(2, 2147483647)]) (ys := [a1]) ziI_2 rfl rfl rfl rfl ⟨⟨by show (2 : Int) ≤ a1.toInt; omega, hf.2⟩, trivial⟩ hd hI
      exact ⟨v, σ1, g1, g2, .inl ⟨.inr h1, by omega⟩⟩
    · obtain ⟨v, σ1, g1, g2, g3, g4⟩ := cl_cX (L := L) (xs := xs) (d := d) (rs := [(0, 1)]) (ys := [a1]) ziI_1 rfl rfl rfl rfl ⟨⟨by show (0 : Int) ≤ a1.toInt; omega, by show a1.toInt ≤ 1; omega⟩, trivial⟩ hd hI
      exact ⟨v, σ1, g1, g2, .inr ⟨by omega, by omega, by omega⟩⟩
theorem s_image_m {L : Nat} {xs : Nat → Int32} {d : Nat} {x y a1 : Int32} {σ : iv_H} (hd : 1 ≤ d) (hI : Inv x y σ) : ∃ (v : Int32) (σ1 : iv_H), iv_Rn L xs d 280 0 (lv_args 0 [.ref 548, .int a1]) [] σ (some (.int v)) σ1 ∧ Inv x y σ1 ∧ imgP a1 v := by
  obtain ⟨d', rfl⟩ : ∃ e, d = e + 1 := ⟨d - 1, by omega⟩
  obtain ⟨r, σ', g1, g2, g3, g4, g5⟩ := m_img_H L xs d' (lv_args 0 [.ref 548, .int a1]) σ a1 hI.2.1.1 hI.2.1.2.1 rfl rfl
  have hI' : Inv x y σ' := inv_m hI g3 ⟨g4, trivial⟩ g5 rfl (by rw [fT_fr hI.2.1.1 g5 rfl]; exact hI.2.2.1.2)
  rcases g2 with ⟨h, rfl, _⟩ | ⟨q, h, rfl, rfl, _⟩
  · exact ⟨_, σ', g1, hI', .inl ⟨by omega, by decide⟩⟩
  · refine ⟨_, σ', g1, hI', .inr ?_⟩
    have hq : q = 0 ∨ q = 1 := by omega
    rcases hq with rfl | rfl <;> exact ⟨by decide, by decide, by decide⟩
