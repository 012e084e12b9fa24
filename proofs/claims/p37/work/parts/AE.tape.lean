/-! ===== the calls that change a flag, or read it ===== -/
theorem i32_full (y : Int32) : (-2147483648 : Int) ≤ y.toInt ∧ y.toInt ≤ 2147483647 := by
  have h1 := Int32.le_toInt y
  have h2 := Int32.toInt_lt y
  omega
theorem s_book_c {L : Nat} {xs : Nat → Int32} {d : Nat} {x y a1 : Int32} {σ : iv_H} (hd : 50 ≤ d) (hI : Inv x y σ) : ∃ (v : Int32) (σ1 : iv_H), iv_Rn L xs d 148 0 (lv_args 0 [.ref 0, .int a1]) [] σ (some (.int v)) σ1 ∧ Inv x y σ1 := by
  have hf := i32_full a1
  by_cases h0 : a1.toInt < 0
  · exact cl_cB (L := L) (xs := xs) (d := d) (rs := [(-2147483648, -1)]) (ys := [a1]) zu_11 rfl rfl rfl rfl ⟨⟨hf.1, by show a1.toInt ≤ -1; omega⟩, trivial⟩ (by show 5 ≤ d; omega) hI
  · by_cases h1 : 1 < a1.toInt
    · exact cl_cB (L := L) (xs := xs) (d := d) (rs := [(2, 2147483647)]) (ys := [a1]) zu_14 rfl rfl rfl rfl ⟨⟨by show (2 : Int) ≤ a1.toInt; omega, hf.2⟩, trivial⟩ (by show 5 ≤ d; omega) hI
    · by_cases h2 : a1.toInt = 0
      · exact cl_cB (L := L) (xs := xs) (d := d) (rs := [(0, 0)]) (ys := [a1]) zu_12 rfl rfl rfl rfl ⟨⟨by show (0 : Int) ≤ a1.toInt; omega, by show a1.toInt ≤ 0; omega⟩, trivial⟩ hd hI
      · exact cl_cB (L := L) (xs := xs) (d := d) (rs := [(1, 1)]) (ys := [a1]) zu_13 rfl rfl rfl rfl ⟨⟨by show (1 : Int) ≤ a1.toInt; omega, by show a1.toInt ≤ 1; omega⟩, trivial⟩ hd hI
