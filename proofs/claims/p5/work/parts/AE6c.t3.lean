/-! ===== the reference reads a book's lines ===== -/
set_option maxRecDepth 100000 in
theorem y258_0 : iv_f1 (iv_p 258) 0 = some (.inl (iv_oI 2 1)) := rfl
set_option maxRecDepth 100000 in
theorem y258_1 : iv_f1 (iv_p 258) 1 = some (.inl (iv_oIf .eq (13))) := rfl
set_option maxRecDepth 100000 in
theorem y258_4 : iv_f1 (iv_p 258) 4 = some (.inl (iv_oA 0 1)) := rfl
set_option maxRecDepth 100000 in
theorem y258_5 : iv_f1 (iv_p 258) 5 = some (.inl (iv_oGF 12 40)) := rfl
set_option maxRecDepth 100000 in
theorem y258_8 : iv_f1 (iv_p 258) 8 = some (.inl (iv_oI 1 1)) := rfl
set_option maxRecDepth 100000 in
theorem y258_9 : iv_f1 (iv_p 258) 9 = some (.inl (iv_oA 0 1)) := rfl
set_option maxRecDepth 100000 in
theorem y258_10 : iv_f1 (iv_p 258) 10 = some (.inl (iv_oGF 12 13)) := rfl
set_option maxRecDepth 100000 in
theorem y258_13 : iv_f1 (iv_p 258) 13 = some (.inl iv_oIst) := rfl
set_option maxRecDepth 100000 in
theorem y258_14 : iv_f1 (iv_p 258) 14 = some (.inl (iv_oI 2 1)) := rfl
set_option maxRecDepth 100000 in
theorem y258_15 : iv_f1 (iv_p 258) 15 = some (.inr (.inl 2)) := rfl
set_option maxRecDepth 100000 in
theorem y260_0 : iv_f1 (iv_p 260) 0 = some (.inl (iv_oA 0 1)) := rfl
set_option maxRecDepth 100000 in
theorem y260_1 : iv_f1 (iv_p 260) 1 = some (.inl (iv_oK (.int (Int32.ofNat 0)) 1)) := rfl
set_option maxRecDepth 100000 in
theorem y260_2 : iv_f1 (iv_p 260) 2 = some (.inl (iv_oA 0 1)) := rfl
set_option maxRecDepth 100000 in
theorem y260_3 : iv_f1 (iv_p 260) 3 = some (.inl (iv_oGF 12 14)) := rfl
set_option maxRecDepth 100000 in
theorem y260_6 : iv_f1 (iv_p 260) 6 = some (.inl (iv_oK (.int (Int32.ofNat 0)) 1)) := rfl
set_option maxRecDepth 100000 in
theorem y260_7 : iv_f1 (iv_p 260) 7 = some (.inl iv_oIl) := rfl
set_option maxRecDepth 100000 in
theorem y260_8 : iv_f1 (iv_p 260) 8 = some (.inr (.inr (6, 259, 2, 12))) := rfl
set_option maxRecDepth 100000 in
theorem y260_11 : iv_f1 (iv_p 260) 11 = some (.inr (.inl 2)) := rfl
set_option maxRecDepth 100000 in
theorem y262_0 : iv_f1 (iv_p 262) 0 = some (.inl (iv_oK (.int (Int32.ofNat 12)) 2)) := rfl
set_option maxRecDepth 100000 in
theorem y262_2 : iv_f1 (iv_p 262) 2 = some (.inl (iv_oIS 1 1)) := rfl
set_option maxRecDepth 100000 in
theorem y262_3 : iv_f1 (iv_p 262) 3 = some (.inl (iv_oI 1 1)) := rfl
set_option maxRecDepth 100000 in
theorem y262_4 : iv_f1 (iv_p 262) 4 = some (.inl (iv_oK (.int (Int32.ofNat 14)) 2)) := rfl
set_option maxRecDepth 100000 in
theorem y262_6 : iv_f1 (iv_p 262) 6 = some (.inl (iv_oIc .gt (17))) := rfl
set_option maxRecDepth 100000 in
theorem y262_9 : iv_f1 (iv_p 262) 9 = some (.inl (iv_oA 0 1)) := rfl
set_option maxRecDepth 100000 in
theorem y262_10 : iv_f1 (iv_p 262) 10 = some (.inl (iv_oI 1 1)) := rfl
set_option maxRecDepth 100000 in
theorem y262_11 : iv_f1 (iv_p 262) 11 = some (.inr (.inr (6, 171, 1, 12))) := rfl
set_option maxRecDepth 100000 in
theorem y262_14 : iv_f1 (iv_p 262) 14 = some (.inl (iv_oIf .ne (9))) := rfl
set_option maxRecDepth 100000 in
theorem y262_17 : iv_f1 (iv_p 262) 17 = some (.inl (iv_oInc 1 (1))) := rfl
set_option maxRecDepth 100000 in
theorem y262_20 : iv_f1 (iv_p 262) 20 = some (.inl (iv_oGo (-17))) := rfl
set_option maxRecDepth 100000 in
theorem y262_23 : iv_f1 (iv_p 262) 23 = some (.inl (iv_oI 1 1)) := rfl
set_option maxRecDepth 100000 in
theorem y262_24 : iv_f1 (iv_p 262) 24 = some (.inl (iv_oK (.int (Int32.ofNat 14)) 2)) := rfl
set_option maxRecDepth 100000 in
theorem y262_26 : iv_f1 (iv_p 262) 26 = some (.inl (iv_oIc .le (9))) := rfl
set_option maxRecDepth 100000 in
theorem y262_29 : iv_f1 (iv_p 262) 29 = some (.inl (iv_oA 0 1)) := rfl
set_option maxRecDepth 100000 in
theorem y262_30 : iv_f1 (iv_p 262) 30 = some (.inl (iv_oK (.int (Int32.ofNat 1)) 1)) := rfl
set_option maxRecDepth 100000 in
theorem y262_31 : iv_f1 (iv_p 262) 31 = some (.inr (.inr (6, 174, 1, 12))) := rfl
set_option maxRecDepth 100000 in
theorem y262_34 : iv_f1 (iv_p 262) 34 = some (.inr (.inl 2)) := rfl
set_option maxRecDepth 100000 in
theorem y262_35 : iv_f1 (iv_p 262) 35 = some (.inl (iv_oA 0 1)) := rfl
set_option maxRecDepth 100000 in
theorem y262_36 : iv_f1 (iv_p 262) 36 = some (.inl (iv_oI 1 1)) := rfl
set_option maxRecDepth 100000 in
theorem y262_37 : iv_f1 (iv_p 262) 37 = some (.inl (iv_oK (.int (Int32.ofNat 12)) 2)) := rfl
set_option maxRecDepth 100000 in
theorem y262_39 : iv_f1 (iv_p 262) 39 = some (.inl (iv_oII fun x y => x - y)) := rfl
set_option maxRecDepth 100000 in
theorem y262_40 : iv_f1 (iv_p 262) 40 = some (.inl (iv_oPF 12 13 .int)) := rfl
set_option maxRecDepth 100000 in
theorem y262_43 : iv_f1 (iv_p 262) 43 = some (.inl (iv_oA 0 1)) := rfl
set_option maxRecDepth 100000 in
theorem y262_44 : iv_f1 (iv_p 262) 44 = some (.inr (.inr (6, 168, 0, 12))) := rfl
set_option maxRecDepth 100000 in
theorem y262_47 : iv_f1 (iv_p 262) 47 = some (.inl (iv_oK (.int (Int32.ofNat 1)) 1)) := rfl
set_option maxRecDepth 100000 in
theorem y262_48 : iv_f1 (iv_p 262) 48 = some (.inr (.inl 2)) := rfl
set_option maxRecDepth 100000 in
theorem y263_0 : iv_f1 (iv_p 263) 0 = some (.inl (iv_oK (.int (Int32.ofNat 6)) 2)) := rfl
set_option maxRecDepth 100000 in
theorem y263_2 : iv_f1 (iv_p 263) 2 = some (.inl (iv_oIS 2 1)) := rfl
set_option maxRecDepth 100000 in
theorem y263_3 : iv_f1 (iv_p 263) 3 = some (.inl (iv_oI 2 1)) := rfl
set_option maxRecDepth 100000 in
theorem y263_4 : iv_f1 (iv_p 263) 4 = some (.inl (iv_oK (.int (Int32.ofNat 9)) 2)) := rfl
set_option maxRecDepth 100000 in
theorem y263_6 : iv_f1 (iv_p 263) 6 = some (.inl (iv_oIc .gt (17))) := rfl
set_option maxRecDepth 100000 in
theorem y263_9 : iv_f1 (iv_p 263) 9 = some (.inl (iv_oA 0 1)) := rfl
set_option maxRecDepth 100000 in
theorem y263_10 : iv_f1 (iv_p 263) 10 = some (.inl (iv_oI 2 1)) := rfl
set_option maxRecDepth 100000 in
theorem y263_11 : iv_f1 (iv_p 263) 11 = some (.inr (.inr (6, 171, 1, 12))) := rfl
set_option maxRecDepth 100000 in
theorem y263_14 : iv_f1 (iv_p 263) 14 = some (.inl (iv_oIf .ne (9))) := rfl
set_option maxRecDepth 100000 in
theorem y263_17 : iv_f1 (iv_p 263) 17 = some (.inl (iv_oInc 2 (1))) := rfl
set_option maxRecDepth 100000 in
theorem y263_20 : iv_f1 (iv_p 263) 20 = some (.inl (iv_oGo (-17))) := rfl
set_option maxRecDepth 100000 in
theorem y263_23 : iv_f1 (iv_p 263) 23 = some (.inl (iv_oI 2 1)) := rfl
set_option maxRecDepth 100000 in
theorem y263_24 : iv_f1 (iv_p 263) 24 = some (.inl (iv_oK (.int (Int32.ofNat 9)) 2)) := rfl
set_option maxRecDepth 100000 in
theorem y263_26 : iv_f1 (iv_p 263) 26 = some (.inl (iv_oIc .le (9))) := rfl
set_option maxRecDepth 100000 in
theorem y263_29 : iv_f1 (iv_p 263) 29 = some (.inl (iv_oA 0 1)) := rfl
set_option maxRecDepth 100000 in
theorem y263_30 : iv_f1 (iv_p 263) 30 = some (.inl (iv_oK (.int (Int32.ofNat 1)) 1)) := rfl
set_option maxRecDepth 100000 in
theorem y263_31 : iv_f1 (iv_p 263) 31 = some (.inr (.inr (6, 174, 1, 12))) := rfl
set_option maxRecDepth 100000 in
theorem y263_34 : iv_f1 (iv_p 263) 34 = some (.inr (.inl 2)) := rfl
set_option maxRecDepth 100000 in
theorem y263_35 : iv_f1 (iv_p 263) 35 = some (.inl (iv_oA 0 1)) := rfl
set_option maxRecDepth 100000 in
theorem y263_36 : iv_f1 (iv_p 263) 36 = some (.inl (iv_oGF 12 40)) := rfl
set_option maxRecDepth 100000 in
theorem y263_39 : iv_f1 (iv_p 263) 39 = some (.inl (iv_oI 1 1)) := rfl
set_option maxRecDepth 100000 in
theorem y263_40 : iv_f1 (iv_p 263) 40 = some (.inl (iv_oI 2 1)) := rfl
set_option maxRecDepth 100000 in
theorem y263_41 : iv_f1 (iv_p 263) 41 = some (.inl (iv_oK (.int (Int32.ofNat 6)) 2)) := rfl
set_option maxRecDepth 100000 in
theorem y263_43 : iv_f1 (iv_p 263) 43 = some (.inl (iv_oII fun x y => x - y)) := rfl
set_option maxRecDepth 100000 in
theorem y263_44 : iv_f1 (iv_p 263) 44 = some (.inl iv_oIst) := rfl
set_option maxRecDepth 100000 in
theorem y263_45 : iv_f1 (iv_p 263) 45 = some (.inl (iv_oA 0 1)) := rfl
set_option maxRecDepth 100000 in
theorem y263_46 : iv_f1 (iv_p 263) 46 = some (.inr (.inr (6, 168, 0, 12))) := rfl
set_option maxRecDepth 100000 in
theorem y263_49 : iv_f1 (iv_p 263) 49 = some (.inl (iv_oA 0 1)) := rfl
set_option maxRecDepth 100000 in
theorem y263_50 : iv_f1 (iv_p 263) 50 = some (.inl (iv_oGF 12 40)) := rfl
set_option maxRecDepth 100000 in
theorem y263_53 : iv_f1 (iv_p 263) 53 = some (.inl (iv_oI 1 1)) := rfl
set_option maxRecDepth 100000 in
theorem y263_54 : iv_f1 (iv_p 263) 54 = some (.inl iv_oIl) := rfl
set_option maxRecDepth 100000 in
theorem y263_55 : iv_f1 (iv_p 263) 55 = some (.inl (iv_oTs (87) (0) (3) #[29, 63, 87, 75])) := rfl
set_option maxRecDepth 100000 in
theorem y263_84 : iv_f1 (iv_p 263) 84 = some (.inl (iv_oA 0 1)) := rfl
set_option maxRecDepth 100000 in
theorem y263_85 : iv_f1 (iv_p 263) 85 = some (.inl (iv_oI 1 1)) := rfl
set_option maxRecDepth 100000 in
theorem y263_86 : iv_f1 (iv_p 263) 86 = some (.inl (iv_oK (.int (Int32.ofNat 2)) 1)) := rfl
set_option maxRecDepth 100000 in
theorem y263_87 : iv_f1 (iv_p 263) 87 = some (.inl (iv_oII fun x y => x + y)) := rfl
set_option maxRecDepth 100000 in
theorem y263_88 : iv_f1 (iv_p 263) 88 = some (.inl (iv_oA 0 1)) := rfl
set_option maxRecDepth 100000 in
theorem y263_89 : iv_f1 (iv_p 263) 89 = some (.inr (.inr (6, 260, 0, 12))) := rfl
set_option maxRecDepth 100000 in
theorem y263_92 : iv_f1 (iv_p 263) 92 = some (.inr (.inr (6, 258, 2, 12))) := rfl
set_option maxRecDepth 100000 in
theorem y263_95 : iv_f1 (iv_p 263) 95 = some (.inl (iv_oIf .eq (21))) := rfl
set_option maxRecDepth 100000 in
theorem y263_98 : iv_f1 (iv_p 263) 98 = some (.inl (iv_oA 0 1)) := rfl
set_option maxRecDepth 100000 in
theorem y263_99 : iv_f1 (iv_p 263) 99 = some (.inl (iv_oI 1 1)) := rfl
set_option maxRecDepth 100000 in
theorem y263_100 : iv_f1 (iv_p 263) 100 = some (.inl (iv_oK (.int (Int32.ofNat 3)) 1)) := rfl
set_option maxRecDepth 100000 in
theorem y263_101 : iv_f1 (iv_p 263) 101 = some (.inl (iv_oII fun x y => x + y)) := rfl
set_option maxRecDepth 100000 in
theorem y263_102 : iv_f1 (iv_p 263) 102 = some (.inl (iv_oA 0 1)) := rfl
set_option maxRecDepth 100000 in
theorem y263_103 : iv_f1 (iv_p 263) 103 = some (.inr (.inr (6, 262, 0, 12))) := rfl
set_option maxRecDepth 100000 in
theorem y263_106 : iv_f1 (iv_p 263) 106 = some (.inr (.inr (6, 258, 2, 12))) := rfl
set_option maxRecDepth 100000 in
theorem y263_109 : iv_f1 (iv_p 263) 109 = some (.inl (iv_oIf .eq (7))) := rfl
set_option maxRecDepth 100000 in
theorem y263_112 : iv_f1 (iv_p 263) 112 = some (.inl (iv_oK (.int (Int32.ofNat 1)) 1)) := rfl
set_option maxRecDepth 100000 in
theorem y263_113 : iv_f1 (iv_p 263) 113 = some (.inl (iv_oGo (4))) := rfl
set_option maxRecDepth 100000 in
theorem y263_116 : iv_f1 (iv_p 263) 116 = some (.inl (iv_oK (.int (Int32.ofNat 0)) 1)) := rfl
set_option maxRecDepth 100000 in
theorem y263_117 : iv_f1 (iv_p 263) 117 = some (.inr (.inl 2)) := rfl
set_option maxRecDepth 100000 in
theorem y263_118 : iv_f1 (iv_p 263) 118 = some (.inl (iv_oA 0 1)) := rfl
set_option maxRecDepth 100000 in
theorem y263_119 : iv_f1 (iv_p 263) 119 = some (.inl (iv_oI 1 1)) := rfl
set_option maxRecDepth 100000 in
theorem y263_120 : iv_f1 (iv_p 263) 120 = some (.inl (iv_oK (.int (Int32.ofNat 2)) 1)) := rfl
set_option maxRecDepth 100000 in
theorem y263_121 : iv_f1 (iv_p 263) 121 = some (.inl (iv_oII fun x y => x + y)) := rfl
set_option maxRecDepth 100000 in
theorem y263_122 : iv_f1 (iv_p 263) 122 = some (.inl (iv_oA 0 1)) := rfl
set_option maxRecDepth 100000 in
theorem y263_123 : iv_f1 (iv_p 263) 123 = some (.inr (.inr (6, 261, 0, 12))) := rfl
set_option maxRecDepth 100000 in
theorem y263_126 : iv_f1 (iv_p 263) 126 = some (.inr (.inr (6, 258, 2, 12))) := rfl
set_option maxRecDepth 100000 in
theorem y263_129 : iv_f1 (iv_p 263) 129 = some (.inr (.inl 2)) := rfl
set_option maxRecDepth 100000 in
theorem y263_130 : iv_f1 (iv_p 263) 130 = some (.inl (iv_oA 0 1)) := rfl
set_option maxRecDepth 100000 in
theorem y263_131 : iv_f1 (iv_p 263) 131 = some (.inl (iv_oI 1 1)) := rfl
set_option maxRecDepth 100000 in
theorem y263_132 : iv_f1 (iv_p 263) 132 = some (.inl (iv_oK (.int (Int32.ofNat 2)) 1)) := rfl
set_option maxRecDepth 100000 in
theorem y263_133 : iv_f1 (iv_p 263) 133 = some (.inl (iv_oII fun x y => x + y)) := rfl
set_option maxRecDepth 100000 in
theorem y263_134 : iv_f1 (iv_p 263) 134 = some (.inl (iv_oA 0 1)) := rfl
set_option maxRecDepth 100000 in
theorem y263_135 : iv_f1 (iv_p 263) 135 = some (.inr (.inr (6, 260, 0, 12))) := rfl
set_option maxRecDepth 100000 in
theorem y263_138 : iv_f1 (iv_p 263) 138 = some (.inr (.inr (6, 258, 2, 12))) := rfl
set_option maxRecDepth 100000 in
theorem y263_141 : iv_f1 (iv_p 263) 141 = some (.inr (.inl 2)) := rfl
set_option maxRecDepth 100000 in
theorem y263_142 : iv_f1 (iv_p 263) 142 = some (.inl (iv_oK (.int (Int32.ofNat 1)) 1)) := rfl
set_option maxRecDepth 100000 in
theorem y263_143 : iv_f1 (iv_p 263) 143 = some (.inr (.inl 2)) := rfl
section KR
variable {L : Nat} {xs : Nat → Int32} {Post : Option Value → iv_H → Prop} {d M pc : Nat} {lv : iv_L} {st : List Value} {σ : iv_H} {T : Nat → Nat} {n m p : Nat} {Nm : Nat → Int64} {nb ng l : Nat} {F : Nat → Int32}
theorem K_is {c : Nat} (hT : ∀ i, T i ≤ 255) (hc : c ≤ 255) (hf : iv_f1 (iv_p M) pc = some (.inr (.inr (6, 172, 1, 12)))) (hs : Nat.ble (iv_cs st) 8 = true) (h : yKs T n m p Nm nb ng l F σ) (k : zGo L xs Post [] (d + 3) M (pc + 3) lv (.int (yb (yMk T n m p c)) :: st) σ) : zGo L xs Post [] (d + 3) M pc lv (.int (Int32.ofNat c) :: .ref 548 :: st) σ := by
  obtain ⟨s, V, ⟨g, _, _, _, _, _, _, ⟨_, _, x9, v9⟩, tk⟩, _⟩ := h
  have r := ym_is (L := L) (xs := xs) (d := d + 2) (c := c) ykd_le9 g (yTk_7 tk) v9
  rw [y_sgE hT hc (yTk_m tk) v9] at r
  exact y_call hf (y_args6 g rfl hs) rfl r k
/-- what a reader leaves: the position is told, the line's places are not -/
def yKn (T : Nat → Nat) (n m p : Nat) (Nm : Nat → Int64) (nb ng l : Nat) (F : Nat → Int32) (q : yE Nat) (b : Bool) (σ1 : iv_H) : Prop := match q with
  | .inl e => b = false ∧ yB e σ1
  | .inr _ => b = true ∧ yKs T n m p Nm nb ng l F σ1
def yKq (T : Nat → Nat) (n m : Nat) (Nm : Nat → Int64) (nb ng l : Nat) (q : yE Nat) (b : Bool) (σ1 : iv_H) : Prop := match q with
  | .inl e => b = false ∧ yB e σ1
  | .inr p1 => b = true ∧ ∃ F1, yKs T n m p1 Nm nb ng l F1 σ1
theorem K_ref (h : yKs T n m p Nm nb ng l F σ) : ∃ (V : Nat → Value) (N : Nat → Int32) (x12 : Int64), iv_get σ 548 = some (yob 12 49 V) ∧ V 14 = .ref 552 ∧ V 19 = .ref 562 ∧ V 12 = .long x12 ∧ iv_get σ 552 = some (yai 374 N) ∧ N 0 = Int32.ofNat nb ∧ N 1 = Int32.ofNat ng ∧ iv_get σ 562 = some (yaj 13 Nm) ∧ (yisN T n m p = true → x12 = yrv T n p) := by
  obtain ⟨s, V, hM, mo, hv, ⟨N, gN, n0, n1⟩, gM, gF⟩ := h
  obtain ⟨⟨x12, v12⟩, _⟩ := hM.2.2.2.2.2.2.2.1
  exact ⟨V, N, x12, hM.1, (yO_refs mo).1, (yO_refs mo).2.1, v12, gN, n0, n1, gM, fun e => y_wE (yTk_w hM.2.2.2.2.2.2.2.2) v12 e⟩
theorem ym_nmK {a mm : Nat} (hb : a + mm ≤ 13) (hn : n ≤ 940) (hm : m ≤ 940) (hT : ∀ i, T i ≤ 255) (h : yKs T n m p Nm nb ng l F σ) : ∃ b σ1, iv_Rn L xs (d + 3) 259 0 (lv_args 0 [.ref 548, .int (Int32.ofNat a), .int (Int32.ofNat mm)]) [] σ (some (.int (yb b))) σ1 ∧ yKn T n m (yto T n m p) Nm nb ng l F (yNmd T n m Nm a mm p) b σ1 := by
  refine y_RbE ?_
  refine w_A y259_0 rfl ?_
  refine K_nm y259_1 rfl h ?_
  rcases y_bc (yisN T n m p) with e | e
  · refine w_ifF y259_4 rfl (y_bneF e) ?_
    refine w_A y259_7 rfl ?_
    refine w_K y259_8 ?_
    refine K_bad y259_9 rfl h (fun σ1 h1 => ?_)
    have sp : yNmd T n m Nm a mm p = .inl (ybd T n m p 1) := by unfold yNmd; rw [if_neg (by rw [e]; decide)]
    rw [sp]
    exact y_ret y259_12 y_rtb ⟨false, rfl, rfl, h1⟩
  · refine w_ifT y259_4 rfl (y_bneT e) ?_
    obtain ⟨s, V, hM, mo, ⟨h42, h13, h10, h47⟩, ⟨N, gN, hN⟩, gM, gF⟩ := id h
    obtain ⟨⟨x12, v12⟩, _⟩ := hM.2.2.2.2.2.2.2.1
    have ew : x12 = yrv T n p := y_wE (yTk_w hM.2.2.2.2.2.2.2.2) v12 e
    refine w_A y259_13 rfl ?_
    refine w_A y259_14 rfl ?_
    refine y_gf y259_15 hM.1 rfl (yO_refs mo).2.1 ?_
    refine w_I y259_18 rfl ?_
    refine w_I y259_19 rfl ?_
    refine w_A y259_20 rfl ?_
    refine y_gf y259_21 hM.1 rfl v12 ?_
    refine y_call y259_24 (y_args4 rfl rfl) rfl (ym_fj (L := L) (xs := xs) (d := d + 2) (f := Nm) (w := x12) (base := a) (many := mm) hb gM) ?_
    have e13 : (yo (yfi (fun i => Nm (a + i)) x12 mm 0)) = yo (yfs T n Nm a mm p) := by rw [ew]; rfl
    refine y_pf y259_27 hM.1 rfl rfl (fun σ1 m1 => ?_)
    have hM1 := yMR_pf hM m1 rfl
    have h1 : yKs T n m p Nm nb ng l F σ1 := ⟨s, _, hM1, mO_ag mo (fun j hj => (yA_u (S := [13]) rfl) j (y_disj (by decide) hj)), ⟨h42, ⟨_, rfl⟩, h10, h47⟩, ⟨N, mD_n m1 (by decide) gN, hN⟩, mD_n m1 (by decide) gM, mD_n m1 (by decide) gF⟩
    refine w_A y259_30 rfl ?_
    refine y_gf y259_31 m1.2.1 rfl rfl ?_
    refine w_K y259_34 ?_
    cases hq : yfs T n Nm a mm p with
    | none =>
      have e2 : (yo (yfi (fun i => Nm (a + i)) x12 mm 0)) = Int32.ofInt (-1) := by rw [e13, hq]; rfl
      refine w_icF y259_35 rfl (by rw [e2]; decide) ?_
      refine w_A y259_38 rfl ?_
      refine w_K y259_39 ?_
      refine K_bad y259_40 rfl h1 (fun σ2 h2 => ?_)
      have sp : yNmd T n m Nm a mm p = .inl (ybd T n m p 3) := by unfold yNmd; rw [if_pos e, hq]
      rw [sp]
      exact y_ret y259_43 y_rtb ⟨false, rfl, rfl, h2⟩
    | some i =>
      have hi := yfi_lt (show yfi (fun i => Nm (a + i)) (yrv T n p) mm 0 = some i from hq)
      have e2 : (yo (yfi (fun i => Nm (a + i)) x12 mm 0)) = Int32.ofNat i := by rw [e13, hq]; rfl
      refine w_icT y259_35 rfl (by
        rw [e2]
        have := y_oN (k := i) (by omega)
        simp only [iv_c2]
        exact decide_eq_true this) ?_
      refine w_A y259_44 rfl ?_
      refine K_go hn hm hT y259_45 rfl h1 (fun σ2 h2 => ?_)
      refine w_K y259_48 ?_
      have sp : yNmd T n m Nm a mm p = .inr i := by unfold yNmd; rw [if_pos e, hq]
      rw [sp]
      exact y_ret (v := .int (yb true)) y259_49 y_rtb ⟨true, rfl, rfl, h2⟩
theorem ym_bnK (hg : nb ≤ 7) (hn : n ≤ 940) (hm : m ≤ 940) (hT : ∀ i, T i ≤ 255) (h : yKs T n m p Nm nb ng l F σ) : ∃ b σ1, iv_Rn L xs (d + 4) 260 0 (lv_args 0 [.ref 548]) [] σ (some (.int (yb b))) σ1 ∧ yKn T n m (yto T n m p) Nm nb ng l F (yNmd T n m Nm 0 nb p) b σ1 := by
  obtain ⟨b, σ1, r1, h1⟩ := ym_nmK (L := L) (xs := xs) (d := d) (a := 0) (mm := nb) (by omega) hn hm hT h
  obtain ⟨V, N, x12, g, v14, v19, v12, gN, n0, n1, gM, _⟩ := K_ref h
  refine y_RbE ?_
  refine w_A y260_0 rfl ?_
  refine w_K y260_1 ?_
  refine w_A y260_2 rfl ?_
  refine y_gf y260_3 g rfl v14 ?_
  refine w_K y260_6 ?_
  refine y_ilE y260_7 gN rfl rfl (by decide) (by decide) n0 ?_
  refine y_call y260_8 (y_args6 g rfl rfl) rfl r1 ?_
  exact y_ret y260_11 y_rtb ⟨b, rfl, h1⟩
theorem ym_gnK (hg : ng ≤ 6) (hn : n ≤ 940) (hm : m ≤ 940) (hT : ∀ i, T i ≤ 255) (h : yKs T n m p Nm nb ng l F σ) : ∃ b σ1, iv_Rn L xs (d + 4) 261 0 (lv_args 0 [.ref 548]) [] σ (some (.int (yb b))) σ1 ∧ yKn T n m (yto T n m p) Nm nb ng l F (yNmd T n m Nm 7 ng p) b σ1 := by
  obtain ⟨b, σ1, r1, h1⟩ := ym_nmK (L := L) (xs := xs) (d := d) (a := 7) (mm := ng) (by omega) hn hm hT h
  obtain ⟨V, N, x12, g, v14, v19, v12, gN, n0, n1, gM, _⟩ := K_ref h
  refine y_RbE ?_
  refine w_A y261_0 rfl ?_
  refine w_K y261_1 ?_
  refine w_A y261_3 rfl ?_
  refine y_gf y261_4 g rfl v14 ?_
  refine w_K y261_7 ?_
  refine y_ilE y261_8 gN rfl rfl (by decide) (by decide) n1 ?_
  refine y_call y261_9 (y_args6 g rfl rfl) rfl r1 ?_
  exact y_ret y261_12 y_rtb ⟨b, rfl, h1⟩
theorem K_nb (hg : nb ≤ 7) (hn : n ≤ 940) (hm : m ≤ 940) (hT : ∀ i, T i ≤ 255) (hf : iv_f1 (iv_p M) pc = some (.inr (.inr (6, 260, 0, 12)))) (hs : Nat.ble (iv_cs st) 8 = true) (h : yKs T n m p Nm nb ng l F σ) (kb : ∀ e σ1, yNmd T n m Nm 0 nb p = .inl e → yB e σ1 → zGo L xs Post [] (d + 5) M (pc + 3) lv (.int (yb false) :: st) σ1) (kg : ∀ i σ1, yNmd T n m Nm 0 nb p = .inr i → yKs T n m (yto T n m p) Nm nb ng l F σ1 → zGo L xs Post [] (d + 5) M (pc + 3) lv (.int (yb true) :: st) σ1) : zGo L xs Post [] (d + 5) M pc lv (.ref 548 :: st) σ := by
  obtain ⟨b, σ1, r1, o1⟩ := ym_bnK (L := L) (xs := xs) (d := d) hg hn hm hT h
  obtain ⟨V, g⟩ := K_g h
  refine y_call hf (y_args6 g rfl hs) rfl r1 ?_
  cases hq : yNmd T n m Nm 0 nb p with
  | inl e =>
    rw [hq] at o1
    obtain ⟨rfl, h2⟩ := (show b = false ∧ yB e σ1 from o1)
    exact kb e σ1 hq h2
  | inr i =>
    rw [hq] at o1
    obtain ⟨rfl, h2⟩ := (show b = true ∧ yKs T n m (yto T n m p) Nm nb ng l F σ1 from o1)
    exact kg i σ1 hq h2
theorem K_ng (hg : ng ≤ 6) (hn : n ≤ 940) (hm : m ≤ 940) (hT : ∀ i, T i ≤ 255) (hf : iv_f1 (iv_p M) pc = some (.inr (.inr (6, 261, 0, 12)))) (hs : Nat.ble (iv_cs st) 8 = true) (h : yKs T n m p Nm nb ng l F σ) (kb : ∀ e σ1, yNmd T n m Nm 7 ng p = .inl e → yB e σ1 → zGo L xs Post [] (d + 5) M (pc + 3) lv (.int (yb false) :: st) σ1) (kg : ∀ i σ1, yNmd T n m Nm 7 ng p = .inr i → yKs T n m (yto T n m p) Nm nb ng l F σ1 → zGo L xs Post [] (d + 5) M (pc + 3) lv (.int (yb true) :: st) σ1) : zGo L xs Post [] (d + 5) M pc lv (.ref 548 :: st) σ := by
  obtain ⟨b, σ1, r1, o1⟩ := ym_gnK (L := L) (xs := xs) (d := d) hg hn hm hT h
  obtain ⟨V, g⟩ := K_g h
  refine y_call hf (y_args6 g rfl hs) rfl r1 ?_
  cases hq : yNmd T n m Nm 7 ng p with
  | inl e =>
    rw [hq] at o1
    obtain ⟨rfl, h2⟩ := (show b = false ∧ yB e σ1 from o1)
    exact kb e σ1 hq h2
  | inr i =>
    rw [hq] at o1
    obtain ⟨rfl, h2⟩ := (show b = true ∧ yKs T n m (yto T n m p) Nm nb ng l F σ1 from o1)
    exact kg i σ1 hq h2
theorem K_kt {i : Nat} (hi : i < 160) (hf : iv_f1 (iv_p M) pc = some (.inr (.inr (6, 258, 2, 12)))) (hs : Nat.ble (iv_cs st) 8 = true) (h : yKs T n m p Nm nb ng l F σ) (k : ∀ F1 σ1, yKs T n m p Nm nb ng l F1 σ1 → zGo L xs Post [] (d + 1) M (pc + 3) lv (.int (yb true) :: st) σ1) : zGo L xs Post [] (d + 1) M pc lv (.int (yb true) :: .int (Int32.ofNat i) :: .ref 548 :: st) σ := by
  have r : ∃ v σ1, iv_Rn L xs d 258 0 (lv_args 0 [.ref 548, .int (Int32.ofNat i), .int (yb true)]) [] σ (some (.int v)) σ1 ∧ (v = yb true ∧ ∃ F1, yKs T n m p Nm nb ng l F1 σ1) := by
    refine y_RnE ?_
    refine w_I y258_0 rfl ?_
    refine w_ifF y258_1 rfl (y_beqF rfl) ?_
    refine w_A y258_4 rfl ?_
    refine K_g40 y258_5 h ?_
    refine w_I y258_8 rfl ?_
    refine w_A y258_9 rfl ?_
    refine K_g13 y258_10 h (fun u => ?_)
    refine K_st hi y258_13 h (fun σ1 h1 => ?_)
    refine w_I y258_14 rfl ?_
    exact y_ret y258_15 y_rtb ⟨_, rfl, rfl, _, h1⟩
  obtain ⟨v, σ1, r1, rfl, F1, h1⟩ := r
  obtain ⟨V, g⟩ := K_g h
  exact y_call hf (y_args6 g rfl hs) rfl r1 (k F1 σ1 h1)
theorem K_kf {i : Nat} {e : Nat × Nat} (hf : iv_f1 (iv_p M) pc = some (.inr (.inr (6, 258, 2, 12)))) (hs : Nat.ble (iv_cs st) 8 = true) (h : yB e σ) (k : zGo L xs Post [] (d + 1) M (pc + 3) lv (.int (yb false) :: st) σ) : zGo L xs Post [] (d + 1) M pc lv (.int (yb false) :: .int (Int32.ofNat i) :: .ref 548 :: st) σ := by
  have r : ∃ v σ1, iv_Rn L xs d 258 0 (lv_args 0 [.ref 548, .int (Int32.ofNat i), .int (yb false)]) [] σ (some (.int v)) σ1 ∧ (v = yb false ∧ σ1 = σ) := by
    refine y_RnE ?_
    refine w_I y258_0 rfl ?_
    refine w_ifT y258_1 rfl (y_beqT rfl) ?_
    refine w_I y258_14 rfl ?_
    exact y_ret y258_15 y_rtb ⟨_, rfl, rfl, rfl⟩
  obtain ⟨v, σ1, r1, rfl, rfl⟩ := r
  obtain ⟨V, ⟨g, _⟩, _⟩ := h
  exact y_call hf (y_args6 g rfl hs) rfl r1 k
theorem ym_endK (hn : n ≤ 940) (hm : m ≤ 940) (hT : ∀ i, T i ≤ 255) (h : yKs T n m p Nm nb ng l F σ) : ∃ b σ1, iv_Rn L xs (d + 3) 176 0 (lv_args 0 [.ref 548]) [] σ (some (.int (yb b))) σ1 ∧ yKq T n m Nm nb ng l (yEnd T n m p) b σ1 := by
  refine y_RbE ?_
  refine w_A y176_0 rfl ?_
  refine w_K y176_1 ?_
  refine K_is hT (by decide) y176_3 rfl h ?_
  rcases y_bc (yMk T n m p 59) with e | e
  · refine w_ifF y176_6 rfl (y_bneF e) ?_
    refine w_A y176_9 rfl ?_
    refine w_K y176_10 ?_
    refine K_bad y176_11 rfl h (fun σ1 h1 => ?_)
    have sp : yEnd T n m p = .inl (ybd T n m p 1) := by unfold yEnd; rw [if_neg (of_decide_eq_false e)]
    rw [sp]
    exact y_ret y176_14 y_rtb ⟨false, rfl, rfl, h1⟩
  · refine w_ifT y176_6 rfl (y_bneT e) ?_
    refine w_A y176_15 rfl ?_
    refine K_go hn hm hT y176_16 rfl h (fun σ1 h1 => ?_)
    refine w_K y176_19 ?_
    have sp : yEnd T n m p = .inr (yto T n m p) := by unfold yEnd; rw [if_pos (of_decide_eq_true e)]
    rw [sp]
    exact y_ret (v := .int (yb true)) y176_20 y_rtb ⟨true, rfl, rfl, _, h1⟩
theorem K_end (hn : n ≤ 940) (hm : m ≤ 940) (hT : ∀ i, T i ≤ 255) (hf : iv_f1 (iv_p M) pc = some (.inr (.inr (6, 176, 0, 12)))) (hs : Nat.ble (iv_cs st) 8 = true) (h : yKs T n m p Nm nb ng l F σ) (k : ∀ b σ1, yKq T n m Nm nb ng l (yEnd T n m p) b σ1 → zGo L xs Post [] (d + 4) M (pc + 3) lv (.int (yb b) :: st) σ1) : zGo L xs Post [] (d + 4) M pc lv (.ref 548 :: st) σ := by
  obtain ⟨b, σ1, r1, o1⟩ := ym_endK (L := L) (xs := xs) (d := d) hn hm hT h
  obtain ⟨V, g⟩ := K_g h
  exact y_call hf (y_args6 g rfl hs) rfl r1 (k b σ1 o1)
/-- which word, from 12 on -/
theorem ym_w262 (h : yKs T n m p Nm nb ng l F σ) : ∀ (j k : Nat) (lv : iv_L), k + j = 15 → iv_f1 lv 0 = some (.ref 548) → iv_f1 lv 1 = some (.int (Int32.ofNat k)) → (∀ lv1, iv_f1 lv1 0 = some (.ref 548) → iv_f1 lv1 1 = some (.int (Int32.ofNat (yFw T n m p j k))) → zGo L xs Post [] (d + 3) 262 23 lv1 [] σ) → zGo L xs Post [] (d + 3) 262 3 lv [] σ := by
  intro j
  induction j with
  | zero =>
    intro k lv hk l0 l2 K
    refine w_I y262_3 l2 ?_
    refine w_K y262_4 ?_
    refine y_icT y262_6 rfl (by omega) (by omega) (by simp only [zch]; omega) ?_
    exact K lv l0 l2
  | succ j ih =>
    intro k lv hk l0 l2 K
    refine w_I y262_3 l2 ?_
    refine w_K y262_4 ?_
    refine y_icF y262_6 rfl (by omega) (by omega) (by simp only [zch]; omega) ?_
    refine w_A y262_9 l0 ?_
    refine w_I y262_10 l2 ?_
    refine K_iw (by omega) y262_11 rfl h ?_
    rcases y_bc (yisW T n m p k) with e | e
    · refine w_ifF y262_14 rfl (y_bneF e) ?_
      refine w_inc y262_17 (x := k) l2 ?_
      refine w_go y262_20 rfl ?_
      have un : yFw T n m p (j + 1) k = yFw T n m p j (k + 1) := if_neg (by rw [e]; decide)
      rw [un] at K
      exact ih (k + 1) _ (by omega) (y_l1 rfl rfl l0) y_l0 K
    · refine w_ifT y262_14 rfl (y_bneT e) ?_
      have un : yFw T n m p (j + 1) k = k := if_pos e
      rw [un] at K
      exact K lv l0 l2
theorem ym_sidK (hn : n ≤ 940) (hm : m ≤ 940) (hT : ∀ i, T i ≤ 255) (h : yKs T n m p Nm nb ng l F σ) : ∃ b σ1, iv_Rn L xs (d + 3) 262 0 (lv_args 0 [.ref 548]) [] σ (some (.int (yb b))) σ1 ∧ yKq T n m Nm nb ng l (ySid T n m p) b σ1 := by
  have hW := yFw_le (T := T) (n := n) (m := m) (p := p) (j := 3) (k := 12)
  refine y_RbE ?_
  refine w_K y262_0 ?_
  refine w_IS y262_2 ?_
  refine ym_w262 h 3 12 _ rfl rfl rfl (fun lv1 l0 l2 => ?_)
  refine w_I y262_23 l2 ?_
  refine w_K y262_24 ?_
  by_cases c : yFw T n m p 3 12 < 15
  · have sp : ySid T n m p = .inr (yto T n m p) := by unfold ySid; rw [if_pos c]
    rw [sp]
    refine y_icT y262_26 rfl (by omega) (by omega) (by simp only [zch]; omega) ?_
    refine w_A y262_35 l0 ?_
    refine w_I y262_36 l2 ?_
    refine w_K y262_37 ?_
    refine y_II y262_39 ?_
    refine K_p13 y262_40 h (fun σ1 h1 => ?_)
    refine w_A y262_43 l0 ?_
    refine K_go hn hm hT y262_44 rfl h1 (fun σ2 h2 => ?_)
    refine w_K y262_47 ?_
    exact y_ret (v := .int (yb true)) y262_48 y_rtb ⟨true, rfl, rfl, _, h2⟩
  · have sp : ySid T n m p = .inl (ybd T n m p 1) := by unfold ySid; rw [if_neg c]
    rw [sp]
    refine y_icF y262_26 rfl (by omega) (by omega) (by simp only [zch]; omega) ?_
    refine w_A y262_29 l0 ?_
    refine w_K y262_30 ?_
    refine K_bad y262_31 rfl h (fun σ1 h1 => ?_)
    exact y_ret y262_34 y_rtb ⟨false, rfl, rfl, h1⟩
/-- which word, from 6 on -/
theorem ym_w263 {b1 : Int32} (h : yKs T n m p Nm nb ng l F σ) : ∀ (j k : Nat) (lv : iv_L), k + j = 10 → iv_f1 lv 0 = some (.ref 548) → iv_f1 lv 1 = some (.int b1) → iv_f1 lv 2 = some (.int (Int32.ofNat k)) → (∀ lv1, iv_f1 lv1 0 = some (.ref 548) → iv_f1 lv1 1 = some (.int b1) → iv_f1 lv1 2 = some (.int (Int32.ofNat (yFw T n m p j k))) → zGo L xs Post [] (d + 3) 263 23 lv1 [] σ) → zGo L xs Post [] (d + 3) 263 3 lv [] σ := by
  intro j
  induction j with
  | zero =>
    intro k lv hk l0 l1 l2 K
    refine w_I y263_3 l2 ?_
    refine w_K y263_4 ?_
    refine y_icT y263_6 rfl (by omega) (by omega) (by simp only [zch]; omega) ?_
    exact K lv l0 l1 l2
  | succ j ih =>
    intro k lv hk l0 l1 l2 K
    refine w_I y263_3 l2 ?_
    refine w_K y263_4 ?_
    refine y_icF y263_6 rfl (by omega) (by omega) (by simp only [zch]; omega) ?_
    refine w_A y263_9 l0 ?_
    refine w_I y263_10 l2 ?_
    refine K_iw (by omega) y263_11 rfl h ?_
    rcases y_bc (yisW T n m p k) with e | e
    · refine w_ifF y263_14 rfl (y_bneF e) ?_
      refine w_inc y263_17 (x := k) l2 ?_
      refine w_go y263_20 rfl ?_
      have un : yFw T n m p (j + 1) k = yFw T n m p j (k + 1) := if_neg (by rw [e]; decide)
      rw [un] at K
      exact ih (k + 1) _ (by omega) (y_l1 rfl rfl l0) (y_l1 rfl rfl l1) y_l0 K
    · refine w_ifT y263_14 rfl (y_bneT e) ?_
      have un : yFw T n m p (j + 1) k = k := if_pos e
      rw [un] at K
      exact K lv l0 l1 l2
theorem ym_doeK {bs : Nat} (hbs : bs + 3 < 160) (hb : nb ≤ 7) (hg : ng ≤ 6) (hn : n ≤ 940) (hm : m ≤ 940) (hT : ∀ i, T i ≤ 255) (h : yKs T n m p Nm nb ng l F σ) : ∃ b σ1, iv_Rn L xs (d + 5) 263 0 (lv_args 0 [.ref 548, .int (Int32.ofNat bs)]) [] σ (some (.int (yb b))) σ1 ∧ yKq T n m Nm nb ng l (yDoe T n m Nm nb ng p) b σ1 := by
  have hW := yFw_le (T := T) (n := n) (m := m) (p := p) (j := 4) (k := 6)
  refine y_RbE ?_
  refine w_K y263_0 ?_
  refine w_IS y263_2 ?_
  refine ym_w263 (d := d + 2) h 4 6 _ rfl rfl rfl rfl (fun lv1 l0 l1 l2 => ?_)
  refine w_I y263_23 l2 ?_
  refine w_K y263_24 ?_
  by_cases c : yFw T n m p 4 6 ≤ 9
  · refine y_icT y263_26 rfl (by omega) (by omega) (by simp only [zch]; omega) ?_
    refine w_A y263_35 l0 ?_
    refine K_g40 y263_36 h ?_
    refine w_I y263_39 l1 ?_
    refine w_I y263_40 l2 ?_
    refine w_K y263_41 ?_
    refine y_sub y263_43 (by omega) (by omega) ?_
    refine K_st (by omega) y263_44 h (fun σ1 h1 => ?_)
    refine w_A y263_45 l0 ?_
    refine K_go hn hm hT y263_46 rfl h1 (fun σ2 h2 => ?_)
    refine w_A y263_49 l0 ?_
    refine K_g40 y263_50 h2 ?_
    refine w_I y263_53 l1 ?_
    refine K_ld (by omega) y263_54 h2 ?_
    have eu : upd F bs (Int32.ofNat (yFw T n m p 4 6 - 6)) bs = Int32.ofNat (yFw T n m p 4 6 - 6) := by simp [upd]
    rw [eu]
    have h4 : yFw T n m p 4 6 = 6 ∨ yFw T n m p 4 6 = 7 ∨ yFw T n m p 4 6 = 8 ∨ yFw T n m p 4 6 = 9 := by omega
    rcases h4 with c6 | c7 | c8 | c9
    · rw [c6]
      refine w_tsk y263_55 (by decide) (by decide) rfl rfl ?_
      have sp : yDoe T n m Nm nb ng p = yThen (yNmd T n m Nm 0 nb (yto T n m p)) fun _ => ySid T n m (yto T n m (yto T n m p)) := by unfold yDoe; rw [if_pos c6]
      rw [sp]
      refine w_A y263_84 l0 ?_
      refine w_I y263_85 l1 ?_
      refine w_K y263_86 ?_
      refine w_add y263_87 ?_
      refine w_A y263_88 l0 ?_
      refine K_nb hb hn hm hT y263_89 rfl h2 (fun e σ3 hq h3 => ?_) (fun i σ3 hq h3 => ?_)
      · rw [hq]
        refine K_kf y263_92 rfl h3 ?_
        refine w_ifT y263_95 rfl (y_beqT rfl) ?_
        refine w_K y263_116 ?_
        exact y_ret (v := .int (yb false)) y263_117 y_rtb ⟨false, rfl, rfl, h3⟩
      · rw [hq]
        refine K_kt (by omega) y263_92 rfl h3 (fun F4 σ4 h4 => ?_)
        refine w_ifF y263_95 rfl (y_beqF rfl) ?_
        refine w_A y263_98 l0 ?_
        refine w_I y263_99 l1 ?_
        refine w_K y263_100 ?_
        refine w_add y263_101 ?_
        refine w_A y263_102 l0 ?_
        obtain ⟨b5, σ5, r5, o5⟩ := ym_sidK (L := L) (xs := xs) (d := d + 1) hn hm hT h4
        obtain ⟨V4, g4⟩ := K_g h4
        refine y_call y263_103 (y_args6 g4 rfl rfl) rfl r5 ?_
        show zGo L xs (fun r σ1 => ∃ b, r = some (.int (yb b)) ∧ yKq T n m Nm nb ng l (ySid T n m (yto T n m (yto T n m p))) b σ1) [] _ 263 106 _ _ σ5
        cases hs : ySid T n m (yto T n m (yto T n m p)) with
        | inl e =>
          rw [hs] at o5
          obtain ⟨rfl, h6⟩ := (show b5 = false ∧ yB e σ5 from o5)
          refine K_kf y263_106 rfl h6 ?_
          refine w_ifT y263_109 rfl (y_beqT rfl) ?_
          refine w_K y263_116 ?_
          exact y_ret (v := .int (yb false)) y263_117 y_rtb ⟨false, rfl, rfl, h6⟩
        | inr q =>
          rw [hs] at o5
          obtain ⟨rfl, F6, h6⟩ := (show b5 = true ∧ ∃ F1, yKs T n m q Nm nb ng l F1 σ5 from o5)
          refine K_kt (by omega) y263_106 rfl h6 (fun F7 σ7 h7 => ?_)
          refine w_ifF y263_109 rfl (y_beqF rfl) ?_
          refine w_K y263_112 ?_
          refine w_go y263_113 rfl ?_
          exact y_ret (v := .int (yb true)) y263_117 y_rtb ⟨true, rfl, rfl, _, h7⟩
    · rw [c7]
      refine w_tsk y263_55 (by decide) (by decide) rfl rfl ?_
      have sp : yDoe T n m Nm nb ng p = yThen (yNmd T n m Nm 7 ng (yto T n m p)) fun _ => .inr (yto T n m (yto T n m p)) := by unfold yDoe; rw [if_neg (by omega), if_pos c7]
      rw [sp]
      refine w_A y263_118 l0 ?_
      refine w_I y263_119 l1 ?_
      refine w_K y263_120 ?_
      refine w_add y263_121 ?_
      refine w_A y263_122 l0 ?_
      refine K_ng hg hn hm hT y263_123 rfl h2 (fun e σ3 hq h3 => ?_) (fun i σ3 hq h3 => ?_)
      · rw [hq]
        refine K_kf y263_126 rfl h3 ?_
        exact y_ret (v := .int (yb false)) y263_129 y_rtb ⟨false, rfl, rfl, h3⟩
      · rw [hq]
        refine K_kt (by omega) y263_126 rfl h3 (fun F4 σ4 h4 => ?_)
        exact y_ret (v := .int (yb true)) y263_129 y_rtb ⟨true, rfl, rfl, _, h4⟩
    · rw [c8]
      refine w_tsk y263_55 (by decide) (by decide) rfl rfl ?_
      have sp : yDoe T n m Nm nb ng p = .inr (yto T n m p) := by unfold yDoe; rw [if_neg (by omega), if_neg (by omega), if_pos c8]
      rw [sp]
      refine w_K y263_142 ?_
      exact y_ret (v := .int (yb true)) y263_143 y_rtb ⟨true, rfl, rfl, _, h2⟩
    · rw [c9]
      refine w_tsk y263_55 (by decide) (by decide) rfl rfl ?_
      have sp : yDoe T n m Nm nb ng p = yThen (yNmd T n m Nm 0 nb (yto T n m p)) fun _ => .inr (yto T n m (yto T n m p)) := by unfold yDoe; rw [if_neg (by omega), if_neg (by omega), if_neg (by omega), if_pos c9]
      rw [sp]
      refine w_A y263_130 l0 ?_
      refine w_I y263_131 l1 ?_
      refine w_K y263_132 ?_
      refine w_add y263_133 ?_
      refine w_A y263_134 l0 ?_
      refine K_nb hb hn hm hT y263_135 rfl h2 (fun e σ3 hq h3 => ?_) (fun i σ3 hq h3 => ?_)
      · rw [hq]
        refine K_kf y263_138 rfl h3 ?_
        exact y_ret (v := .int (yb false)) y263_141 y_rtb ⟨false, rfl, rfl, h3⟩
      · rw [hq]
        refine K_kt (by omega) y263_138 rfl h3 (fun F4 σ4 h4 => ?_)
        exact y_ret (v := .int (yb true)) y263_141 y_rtb ⟨true, rfl, rfl, _, h4⟩
  · have sp : yDoe T n m Nm nb ng p = .inl (ybd T n m p 1) := by unfold yDoe; rw [if_neg (by omega), if_neg (by omega), if_neg (by omega), if_neg (by omega)]
    rw [sp]
    refine y_icF y263_26 rfl (by omega) (by omega) (by simp only [zch]; omega) ?_
    refine w_A y263_29 l0 ?_
    refine w_K y263_30 ?_
    refine K_bad y263_31 rfl h (fun σ1 h1 => ?_)
    exact y_ret y263_34 y_rtb ⟨false, rfl, rfl, h1⟩
end KR
