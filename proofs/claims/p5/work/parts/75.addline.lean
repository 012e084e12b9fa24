/-! ===== Book.addLine by hand ===== -/
theorem fa_0 : iv_f1 (iv_p 12) 0 = some (.inl (iv_oA 0 1)) := rfl
theorem fa_1 : iv_f1 (iv_p 12) 1 = some (.inl (iv_oGF 0 0)) := rfl
theorem fa_4 : iv_f1 (iv_p 12) 4 = some (.inl (iv_oK (.int 40) 2)) := rfl
theorem fa_6 : iv_f1 (iv_p 12) 6 = some (.inl (iv_oIc .ge 44)) := rfl
theorem fa_9 : iv_f1 (iv_p 12) 9 = some (.inl (iv_oA 0 1)) := rfl
theorem fa_10 : iv_f1 (iv_p 12) 10 = some (.inl (iv_oGF 0 1)) := rfl
theorem fa_13 : iv_f1 (iv_p 12) 13 = some (.inl (iv_oA 0 1)) := rfl
theorem fa_14 : iv_f1 (iv_p 12) 14 = some (.inl (iv_oGF 0 0)) := rfl
theorem fa_17 : iv_f1 (iv_p 12) 17 = some (.inl (iv_oI 1 1)) := rfl
theorem fa_18 : iv_f1 (iv_p 12) 18 = some (.inl iv_oIst) := rfl
theorem fa_19 : iv_f1 (iv_p 12) 19 = some (.inl (iv_oA 0 1)) := rfl
theorem fa_20 : iv_f1 (iv_p 12) 20 = some (.inl (iv_oGF 0 2)) := rfl
theorem fa_23 : iv_f1 (iv_p 12) 23 = some (.inl (iv_oA 0 1)) := rfl
theorem fa_24 : iv_f1 (iv_p 12) 24 = some (.inl (iv_oGF 0 0)) := rfl
theorem fa_27 : iv_f1 (iv_p 12) 27 = some (.inl (iv_oI 2 1)) := rfl
theorem fa_28 : iv_f1 (iv_p 12) 28 = some (.inl iv_oIst) := rfl
theorem fa_29 : iv_f1 (iv_p 12) 29 = some (.inl (iv_oA 0 1)) := rfl
theorem fa_30 : iv_f1 (iv_p 12) 30 = some (.inl (iv_oGF 0 3)) := rfl
theorem fa_33 : iv_f1 (iv_p 12) 33 = some (.inl (iv_oA 0 1)) := rfl
theorem fa_34 : iv_f1 (iv_p 12) 34 = some (.inl (iv_oGF 0 0)) := rfl
theorem fa_37 : iv_f1 (iv_p 12) 37 = some (.inl (iv_oI 3 1)) := rfl
theorem fa_38 : iv_f1 (iv_p 12) 38 = some (.inl iv_oIst) := rfl
theorem fa_39 : iv_f1 (iv_p 12) 39 = some (.inl (iv_oA 0 1)) := rfl
theorem fa_40 : iv_f1 (iv_p 12) 40 = some (.inl (iv_oGF 0 4)) := rfl
theorem fa_43 : iv_f1 (iv_p 12) 43 = some (.inl (iv_oA 0 1)) := rfl
theorem fa_44 : iv_f1 (iv_p 12) 44 = some (.inl (iv_oGF 0 0)) := rfl
theorem fa_47 : iv_f1 (iv_p 12) 47 = some (.inl (iv_oI 4 2)) := rfl
theorem fa_49 : iv_f1 (iv_p 12) 49 = some (.inl iv_oIst) := rfl
theorem fa_50 : iv_f1 (iv_p 12) 50 = some (.inr (.inl 0)) := rfl
theorem o_Ax {L : Nat} {xs : Nat → Int32} {pc k len x : Nat} {lv : iv_L} {st : List Value} {σ : iv_H} (h : iv_f1 lv k = some (.ref x)) : iv_oA k len L xs pc lv st σ = some (pc + len, lv, .ref x :: st, σ) := by
  unfold iv_oA
  rw [h]
theorem o_Ix {L : Nat} {xs : Nat → Int32} {pc k len : Nat} {x : Int32} {lv : iv_L} {st : List Value} {σ : iv_H} (h : iv_f1 lv k = some (.int x)) : iv_oI k len L xs pc lv st σ = some (pc + len, lv, .int x :: st, σ) := by
  unfold iv_oI
  rw [h]
/-- one int array with one place written -/
def zpi (σ : iv_H) (a : Nat) (f : Nat → Int32) (i : Nat) (x : Int32) : iv_H := iv_put σ a (.inl (0, 40, .inl (upd f i x)))
theorem h_add {L : Nat} {xs : Nat → Int32} {d bk A1 A2 A3 A4 : Nat} {σ : iv_H} {fs : List Value} {l v a b c : Int32} {f1 f2 f3 f4 : Nat → Int32} {lv : iv_L} (l0 : iv_f1 lv 0 = some (.ref bk)) (l1 : iv_f1 lv 1 = some (.int v)) (l2 : iv_f1 lv 2 = some (.int a)) (l3 : iv_f1 lv 3 = some (.int b)) (l4 : iv_f1 lv 4 = some (.int c)) (hb : iv_get σ bk = some (.inr (0, fs))) (e0 : iv_nth fs 0 = some (.int l)) (e1 : iv_nth fs 1 = some (.ref A1)) (e2 : iv_nth fs 2 = some (.ref A2)) (e3 : iv_nth fs 3 = some (.ref A3)) (e4 : iv_nth fs 4 = some (.ref A4)) (g1 : iv_get σ A1 = some (.inl (0, 40, .inl f1))) (g2 : iv_get σ A2 = some (.inl (0, 40, .inl f2))) (g3 : iv_get σ A3 = some (.inl (0, 40, .inl f3))) (g4 : iv_get σ A4 = some (.inl (0, 40, .inl f4))) (n12 : A2 ≠ A1) (n13 : A3 ≠ A1) (n14 : A4 ≠ A1) (n23 : A3 ≠ A2) (n24 : A4 ≠ A2) (n34 : A4 ≠ A3) (h0 : 0 ≤ l.toInt) : ∃ σ', iv_Rn L xs d 12 0 lv [] σ none σ' ∧ (σ' = σ ∨ (l.toInt < 40 ∧ σ' = zpi (zpi (zpi (zpi σ A1 f1 l.toNatClampNeg v) A2 f2 l.toNatClampNeg a) A3 f3 l.toNatClampNeg b) A4 f4 l.toNatClampNeg c)) := by
  by_cases h : l.toInt < 40
  · obtain ⟨k1, k2, k3⟩ := zin_of (n := 40) h0 h
    have hc : iv_c2 .ge l 40 = false := by
      cases hz : iv_c2 .ge l 40 with
      | false => rfl
      | true =>
        have := zch_32.mp hz
        have e40 : (40 : Int32).toInt = 40 := rfl
        simp only [zch] at this
        omega
    have nb1 : bk ≠ A1 := fun e => by rw [e, g1] at hb; cases hb
    have nb2 : bk ≠ A2 := fun e => by rw [e, g2] at hb; cases hb
    have nb3 : bk ≠ A3 := fun e => by rw [e, g3] at hb; cases hb
    have hb1 : iv_get (zpi σ A1 f1 l.toNatClampNeg v) bk = some (.inr (0, fs)) := iv_gp_n g1 hb nb1
    have g21 : iv_get (zpi σ A1 f1 l.toNatClampNeg v) A2 = some (.inl (0, 40, .inl f2)) := iv_gp_n g1 g2 n12
    have g31 : iv_get (zpi σ A1 f1 l.toNatClampNeg v) A3 = some (.inl (0, 40, .inl f3)) := iv_gp_n g1 g3 n13
    have g41 : iv_get (zpi σ A1 f1 l.toNatClampNeg v) A4 = some (.inl (0, 40, .inl f4)) := iv_gp_n g1 g4 n14
    have hb2 : iv_get (zpi (zpi σ A1 f1 l.toNatClampNeg v) A2 f2 l.toNatClampNeg a) bk = some (.inr (0, fs)) := iv_gp_n g21 hb1 nb2
    have g32 : iv_get (zpi (zpi σ A1 f1 l.toNatClampNeg v) A2 f2 l.toNatClampNeg a) A3 = some (.inl (0, 40, .inl f3)) := iv_gp_n g21 g31 n23
    have g42 : iv_get (zpi (zpi σ A1 f1 l.toNatClampNeg v) A2 f2 l.toNatClampNeg a) A4 = some (.inl (0, 40, .inl f4)) := iv_gp_n g21 g41 n24
    have hb3 : iv_get (zpi (zpi (zpi σ A1 f1 l.toNatClampNeg v) A2 f2 l.toNatClampNeg a) A3 f3 l.toNatClampNeg b) bk = some (.inr (0, fs)) := iv_gp_n g32 hb2 nb3
    have g43 : iv_get (zpi (zpi (zpi σ A1 f1 l.toNatClampNeg v) A2 f2 l.toNatClampNeg a) A3 f3 l.toNatClampNeg b) A4 = some (.inl (0, 40, .inl f4)) := iv_gp_n g32 g42 n34
    refine ⟨_, ?_, .inr ⟨h, rfl⟩⟩
    refine Rs fa_0 (o_Ax l0) ?_
    refine Rs fa_1 (o_GF hb e0) ?_
    refine Rs fa_4 rfl ?_
    refine Rs fa_6 (o_IcF rfl hc) ?_
    refine Rs fa_9 (o_Ax l0) ?_
    refine Rs fa_10 (o_GF hb e1) ?_
    refine Rs fa_13 (o_Ax l0) ?_
    refine Rs fa_14 (o_GF hb e0) ?_
    refine Rs fa_17 (o_Ix l1) ?_
    refine Rs fa_18 (o_Ist g1 k1) ?_
    refine Rs fa_19 (o_Ax l0) ?_
    refine Rs fa_20 (o_GF hb1 e2) ?_
    refine Rs fa_23 (o_Ax l0) ?_
    refine Rs fa_24 (o_GF hb1 e0) ?_
    refine Rs fa_27 (o_Ix l2) ?_
    refine Rs fa_28 (o_Ist g21 k1) ?_
    refine Rs fa_29 (o_Ax l0) ?_
    refine Rs fa_30 (o_GF hb2 e3) ?_
    refine Rs fa_33 (o_Ax l0) ?_
    refine Rs fa_34 (o_GF hb2 e0) ?_
    refine Rs fa_37 (o_Ix l3) ?_
    refine Rs fa_38 (o_Ist g32 k1) ?_
    refine Rs fa_39 (o_Ax l0) ?_
    refine Rs fa_40 (o_GF hb3 e4) ?_
    refine Rs fa_43 (o_Ax l0) ?_
    refine Rs fa_44 (o_GF hb3 e0) ?_
    refine Rs fa_47 (o_Ix l4) ?_
    refine Rs fa_49 (o_Ist g43 k1) ?_
    exact Rr fa_50 rfl
  · have hc : iv_c2 .ge l 40 = true := zch_32.mpr (by
      have e40 : (40 : Int32).toInt = 40 := rfl
      show (40 : Int32).toInt ≤ l.toInt
      omega)
    refine ⟨σ, ?_, .inl rfl⟩
    refine Rs fa_0 (o_Ax l0) ?_
    refine Rs fa_1 (o_GF hb e0) ?_
    refine Rs fa_4 rfl ?_
    refine Rs fa_6 (o_IcT rfl hc) ?_
    exact Rr fa_50 rfl
