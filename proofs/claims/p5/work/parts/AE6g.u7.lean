/-! ===== the class reads a book ===== -/
set_option maxRecDepth 100000 in
theorem y3_0 : iv_f1 (iv_p 3) 0 = some (.inl (iv_oA 0 1)) := rfl
set_option maxRecDepth 100000 in
theorem y3_1 : iv_f1 (iv_p 3) 1 = some (.inl (iv_oGF 0 0)) := rfl
set_option maxRecDepth 100000 in
theorem y3_4 : iv_f1 (iv_p 3) 4 = some (.inl (iv_oK (.int (Int32.ofNat 40)) 2)) := rfl
set_option maxRecDepth 100000 in
theorem y3_6 : iv_f1 (iv_p 3) 6 = some (.inl (iv_oIc .lt (11))) := rfl
set_option maxRecDepth 100000 in
theorem y3_9 : iv_f1 (iv_p 3) 9 = some (.inl (iv_oA 1 1)) := rfl
set_option maxRecDepth 100000 in
theorem y3_10 : iv_f1 (iv_p 3) 10 = some (.inl (iv_oK (.int (Int32.ofNat 4)) 1)) := rfl
set_option maxRecDepth 100000 in
theorem y3_11 : iv_f1 (iv_p 3) 11 = some (.inr (.inr (6, 56, 1, 5))) := rfl
set_option maxRecDepth 100000 in
theorem y3_14 : iv_f1 (iv_p 3) 14 = some (.inl (iv_oIf .eq (7))) := rfl
set_option maxRecDepth 100000 in
theorem y3_17 : iv_f1 (iv_p 3) 17 = some (.inl (iv_oK (.int (Int32.ofNat 1)) 1)) := rfl
set_option maxRecDepth 100000 in
theorem y3_18 : iv_f1 (iv_p 3) 18 = some (.inl (iv_oGo (4))) := rfl
set_option maxRecDepth 100000 in
theorem y3_21 : iv_f1 (iv_p 3) 21 = some (.inl (iv_oK (.int (Int32.ofNat 0)) 1)) := rfl
set_option maxRecDepth 100000 in
theorem y3_22 : iv_f1 (iv_p 3) 22 = some (.inr (.inl 2)) := rfl
set_option maxRecDepth 100000 in
theorem y4_0 : iv_f1 (iv_p 4) 0 = some (.inl (iv_oA 0 1)) := rfl
set_option maxRecDepth 100000 in
theorem y4_1 : iv_f1 (iv_p 4) 1 = some (.inl (iv_oA 1 1)) := rfl
set_option maxRecDepth 100000 in
theorem y4_2 : iv_f1 (iv_p 4) 2 = some (.inr (.inr (6, 3, 1, 0))) := rfl
set_option maxRecDepth 100000 in
theorem y4_5 : iv_f1 (iv_p 4) 5 = some (.inl (iv_oIf .ne (5))) := rfl
set_option maxRecDepth 100000 in
theorem y4_8 : iv_f1 (iv_p 4) 8 = some (.inl (iv_oK (.int (Int32.ofNat 0)) 1)) := rfl
set_option maxRecDepth 100000 in
theorem y4_9 : iv_f1 (iv_p 4) 9 = some (.inr (.inl 2)) := rfl
set_option maxRecDepth 100000 in
theorem y4_10 : iv_f1 (iv_p 4) 10 = some (.inl (iv_oA 1 1)) := rfl
set_option maxRecDepth 100000 in
theorem y4_11 : iv_f1 (iv_p 4) 11 = some (.inr (.inr (6, 52, 0, 5))) := rfl
set_option maxRecDepth 100000 in
theorem y4_14 : iv_f1 (iv_p 4) 14 = some (.inl (iv_oA 2 1)) := rfl
set_option maxRecDepth 100000 in
theorem y4_15 : iv_f1 (iv_p 4) 15 = some (.inl (iv_oA 1 1)) := rfl
set_option maxRecDepth 100000 in
theorem y4_16 : iv_f1 (iv_p 4) 16 = some (.inr (.inr (6, 31, 1, 3))) := rfl
set_option maxRecDepth 100000 in
theorem y4_19 : iv_f1 (iv_p 4) 19 = some (.inl (iv_oIS 3 1)) := rfl
set_option maxRecDepth 100000 in
theorem y4_20 : iv_f1 (iv_p 4) 20 = some (.inl (iv_oI 3 1)) := rfl
set_option maxRecDepth 100000 in
theorem y4_21 : iv_f1 (iv_p 4) 21 = some (.inl (iv_oK (.int (Int32.ofInt (-1))) 1)) := rfl
set_option maxRecDepth 100000 in
theorem y4_22 : iv_f1 (iv_p 4) 22 = some (.inl (iv_oIc .ne (5))) := rfl
set_option maxRecDepth 100000 in
theorem y4_25 : iv_f1 (iv_p 4) 25 = some (.inl (iv_oK (.int (Int32.ofNat 0)) 1)) := rfl
set_option maxRecDepth 100000 in
theorem y4_26 : iv_f1 (iv_p 4) 26 = some (.inr (.inl 2)) := rfl
set_option maxRecDepth 100000 in
theorem y4_27 : iv_f1 (iv_p 4) 27 = some (.inl (iv_oA 1 1)) := rfl
set_option maxRecDepth 100000 in
theorem y4_28 : iv_f1 (iv_p 4) 28 = some (.inr (.inr (6, 52, 0, 5))) := rfl
set_option maxRecDepth 100000 in
theorem y4_31 : iv_f1 (iv_p 4) 31 = some (.inl (iv_oA 0 1)) := rfl
set_option maxRecDepth 100000 in
theorem y4_32 : iv_f1 (iv_p 4) 32 = some (.inl (iv_oK (.int (Int32.ofNat 4)) 1)) := rfl
set_option maxRecDepth 100000 in
theorem y4_33 : iv_f1 (iv_p 4) 33 = some (.inl (iv_oI 3 1)) := rfl
set_option maxRecDepth 100000 in
theorem y4_34 : iv_f1 (iv_p 4) 34 = some (.inl (iv_oK (.int (Int32.ofNat 0)) 1)) := rfl
set_option maxRecDepth 100000 in
theorem y4_35 : iv_f1 (iv_p 4) 35 = some (.inl (iv_oK (.int (Int32.ofNat 0)) 1)) := rfl
set_option maxRecDepth 100000 in
theorem y4_36 : iv_f1 (iv_p 4) 36 = some (.inr (.inr (6, 12, 4, 0))) := rfl
set_option maxRecDepth 100000 in
theorem y4_39 : iv_f1 (iv_p 4) 39 = some (.inl (iv_oK (.int (Int32.ofNat 1)) 1)) := rfl
set_option maxRecDepth 100000 in
theorem y4_40 : iv_f1 (iv_p 4) 40 = some (.inr (.inl 2)) := rfl
set_option maxRecDepth 100000 in
theorem y5_0 : iv_f1 (iv_p 5) 0 = some (.inl (iv_oA 0 1)) := rfl
set_option maxRecDepth 100000 in
theorem y5_1 : iv_f1 (iv_p 5) 1 = some (.inl (iv_oA 1 1)) := rfl
set_option maxRecDepth 100000 in
theorem y5_2 : iv_f1 (iv_p 5) 2 = some (.inr (.inr (6, 3, 1, 0))) := rfl
set_option maxRecDepth 100000 in
theorem y5_5 : iv_f1 (iv_p 5) 5 = some (.inl (iv_oIf .ne (5))) := rfl
set_option maxRecDepth 100000 in
theorem y5_8 : iv_f1 (iv_p 5) 8 = some (.inl (iv_oK (.int (Int32.ofNat 0)) 1)) := rfl
set_option maxRecDepth 100000 in
theorem y5_9 : iv_f1 (iv_p 5) 9 = some (.inr (.inl 2)) := rfl
set_option maxRecDepth 100000 in
theorem y5_10 : iv_f1 (iv_p 5) 10 = some (.inl (iv_oA 1 1)) := rfl
set_option maxRecDepth 100000 in
theorem y5_11 : iv_f1 (iv_p 5) 11 = some (.inr (.inr (6, 52, 0, 5))) := rfl
set_option maxRecDepth 100000 in
theorem y5_14 : iv_f1 (iv_p 5) 14 = some (.inl (iv_oA 1 1)) := rfl
set_option maxRecDepth 100000 in
theorem y5_15 : iv_f1 (iv_p 5) 15 = some (.inl (iv_oK (.int (Int32.ofNat 1)) 1)) := rfl
set_option maxRecDepth 100000 in
theorem y5_16 : iv_f1 (iv_p 5) 16 = some (.inl (iv_oK (.int (Int32.ofNat 60)) 2)) := rfl
set_option maxRecDepth 100000 in
theorem y5_18 : iv_f1 (iv_p 5) 18 = some (.inr (.inr (6, 58, 2, 5))) := rfl
set_option maxRecDepth 100000 in
theorem y5_21 : iv_f1 (iv_p 5) 21 = some (.inl (iv_oIS 2 1)) := rfl
set_option maxRecDepth 100000 in
theorem y5_22 : iv_f1 (iv_p 5) 22 = some (.inl (iv_oI 2 1)) := rfl
set_option maxRecDepth 100000 in
theorem y5_23 : iv_f1 (iv_p 5) 23 = some (.inl (iv_oK (.int (Int32.ofInt (-1))) 1)) := rfl
set_option maxRecDepth 100000 in
theorem y5_24 : iv_f1 (iv_p 5) 24 = some (.inl (iv_oIc .ne (5))) := rfl
set_option maxRecDepth 100000 in
theorem y5_27 : iv_f1 (iv_p 5) 27 = some (.inl (iv_oK (.int (Int32.ofNat 0)) 1)) := rfl
set_option maxRecDepth 100000 in
theorem y5_28 : iv_f1 (iv_p 5) 28 = some (.inr (.inl 2)) := rfl
set_option maxRecDepth 100000 in
theorem y5_29 : iv_f1 (iv_p 5) 29 = some (.inl (iv_oA 0 1)) := rfl
set_option maxRecDepth 100000 in
theorem y5_30 : iv_f1 (iv_p 5) 30 = some (.inl (iv_oK (.int (Int32.ofNat 5)) 1)) := rfl
set_option maxRecDepth 100000 in
theorem y5_31 : iv_f1 (iv_p 5) 31 = some (.inl (iv_oI 2 1)) := rfl
set_option maxRecDepth 100000 in
theorem y5_32 : iv_f1 (iv_p 5) 32 = some (.inl (iv_oK (.int (Int32.ofNat 0)) 1)) := rfl
set_option maxRecDepth 100000 in
theorem y5_33 : iv_f1 (iv_p 5) 33 = some (.inl (iv_oK (.int (Int32.ofNat 0)) 1)) := rfl
set_option maxRecDepth 100000 in
theorem y5_34 : iv_f1 (iv_p 5) 34 = some (.inr (.inr (6, 12, 4, 0))) := rfl
set_option maxRecDepth 100000 in
theorem y5_37 : iv_f1 (iv_p 5) 37 = some (.inl (iv_oK (.int (Int32.ofNat 1)) 1)) := rfl
set_option maxRecDepth 100000 in
theorem y5_38 : iv_f1 (iv_p 5) 38 = some (.inr (.inl 2)) := rfl
set_option maxRecDepth 100000 in
theorem y8_0 : iv_f1 (iv_p 8) 0 = some (.inl (iv_oS 101)) := rfl
set_option maxRecDepth 100000 in
theorem y8_3 : iv_f1 (iv_p 8) 3 = some (.inl (iv_oA 0 1)) := rfl
set_option maxRecDepth 100000 in
theorem y8_4 : iv_f1 (iv_p 8) 4 = some (.inl iv_oOrd) := rfl
set_option maxRecDepth 100000 in
theorem y8_7 : iv_f1 (iv_p 8) 7 = some (.inl iv_oIl) := rfl
set_option maxRecDepth 100000 in
theorem y8_8 : iv_f1 (iv_p 8) 8 = some (.inl (iv_oTs (34) (13) (15) #[28, 30, 32])) := rfl
set_option maxRecDepth 100000 in
theorem y8_36 : iv_f1 (iv_p 8) 36 = some (.inl (iv_oK (.int (Int32.ofNat 0)) 1)) := rfl
set_option maxRecDepth 100000 in
theorem y8_37 : iv_f1 (iv_p 8) 37 = some (.inr (.inl 1)) := rfl
set_option maxRecDepth 100000 in
theorem y8_38 : iv_f1 (iv_p 8) 38 = some (.inl (iv_oK (.int (Int32.ofNat 1)) 1)) := rfl
set_option maxRecDepth 100000 in
theorem y8_39 : iv_f1 (iv_p 8) 39 = some (.inr (.inl 1)) := rfl
set_option maxRecDepth 100000 in
theorem y8_40 : iv_f1 (iv_p 8) 40 = some (.inl (iv_oK (.int (Int32.ofNat 2)) 1)) := rfl
set_option maxRecDepth 100000 in
theorem y8_41 : iv_f1 (iv_p 8) 41 = some (.inr (.inl 1)) := rfl
set_option maxRecDepth 100000 in
theorem y8_42 : iv_f1 (iv_p 8) 42 = some (.inl (iv_oK (.int (Int32.ofInt (-1))) 1)) := rfl
set_option maxRecDepth 100000 in
theorem y8_43 : iv_f1 (iv_p 8) 43 = some (.inr (.inl 1)) := rfl
set_option maxRecDepth 100000 in
theorem y12_0 : iv_f1 (iv_p 12) 0 = some (.inl (iv_oA 0 1)) := rfl
set_option maxRecDepth 100000 in
theorem y12_1 : iv_f1 (iv_p 12) 1 = some (.inl (iv_oGF 0 0)) := rfl
set_option maxRecDepth 100000 in
theorem y12_4 : iv_f1 (iv_p 12) 4 = some (.inl (iv_oK (.int (Int32.ofNat 40)) 2)) := rfl
set_option maxRecDepth 100000 in
theorem y12_6 : iv_f1 (iv_p 12) 6 = some (.inl (iv_oIc .ge (44))) := rfl
set_option maxRecDepth 100000 in
theorem y12_9 : iv_f1 (iv_p 12) 9 = some (.inl (iv_oA 0 1)) := rfl
set_option maxRecDepth 100000 in
theorem y12_10 : iv_f1 (iv_p 12) 10 = some (.inl (iv_oGF 0 1)) := rfl
set_option maxRecDepth 100000 in
theorem y12_13 : iv_f1 (iv_p 12) 13 = some (.inl (iv_oA 0 1)) := rfl
set_option maxRecDepth 100000 in
theorem y12_14 : iv_f1 (iv_p 12) 14 = some (.inl (iv_oGF 0 0)) := rfl
set_option maxRecDepth 100000 in
theorem y12_17 : iv_f1 (iv_p 12) 17 = some (.inl (iv_oI 1 1)) := rfl
set_option maxRecDepth 100000 in
theorem y12_18 : iv_f1 (iv_p 12) 18 = some (.inl iv_oIst) := rfl
set_option maxRecDepth 100000 in
theorem y12_19 : iv_f1 (iv_p 12) 19 = some (.inl (iv_oA 0 1)) := rfl
set_option maxRecDepth 100000 in
theorem y12_20 : iv_f1 (iv_p 12) 20 = some (.inl (iv_oGF 0 2)) := rfl
set_option maxRecDepth 100000 in
theorem y12_23 : iv_f1 (iv_p 12) 23 = some (.inl (iv_oA 0 1)) := rfl
set_option maxRecDepth 100000 in
theorem y12_24 : iv_f1 (iv_p 12) 24 = some (.inl (iv_oGF 0 0)) := rfl
set_option maxRecDepth 100000 in
theorem y12_27 : iv_f1 (iv_p 12) 27 = some (.inl (iv_oI 2 1)) := rfl
set_option maxRecDepth 100000 in
theorem y12_28 : iv_f1 (iv_p 12) 28 = some (.inl iv_oIst) := rfl
set_option maxRecDepth 100000 in
theorem y12_29 : iv_f1 (iv_p 12) 29 = some (.inl (iv_oA 0 1)) := rfl
set_option maxRecDepth 100000 in
theorem y12_30 : iv_f1 (iv_p 12) 30 = some (.inl (iv_oGF 0 3)) := rfl
set_option maxRecDepth 100000 in
theorem y12_33 : iv_f1 (iv_p 12) 33 = some (.inl (iv_oA 0 1)) := rfl
set_option maxRecDepth 100000 in
theorem y12_34 : iv_f1 (iv_p 12) 34 = some (.inl (iv_oGF 0 0)) := rfl
set_option maxRecDepth 100000 in
theorem y12_37 : iv_f1 (iv_p 12) 37 = some (.inl (iv_oI 3 1)) := rfl
set_option maxRecDepth 100000 in
theorem y12_38 : iv_f1 (iv_p 12) 38 = some (.inl iv_oIst) := rfl
set_option maxRecDepth 100000 in
theorem y12_39 : iv_f1 (iv_p 12) 39 = some (.inl (iv_oA 0 1)) := rfl
set_option maxRecDepth 100000 in
theorem y12_40 : iv_f1 (iv_p 12) 40 = some (.inl (iv_oGF 0 4)) := rfl
set_option maxRecDepth 100000 in
theorem y12_43 : iv_f1 (iv_p 12) 43 = some (.inl (iv_oA 0 1)) := rfl
set_option maxRecDepth 100000 in
theorem y12_44 : iv_f1 (iv_p 12) 44 = some (.inl (iv_oGF 0 0)) := rfl
set_option maxRecDepth 100000 in
theorem y12_47 : iv_f1 (iv_p 12) 47 = some (.inl (iv_oI 4 2)) := rfl
set_option maxRecDepth 100000 in
theorem y12_49 : iv_f1 (iv_p 12) 49 = some (.inl iv_oIst) := rfl
set_option maxRecDepth 100000 in
theorem y12_50 : iv_f1 (iv_p 12) 50 = some (.inr (.inl 0)) := rfl
theorem yk_ls2 {L : Nat} {xs : Nat → Int32} {lv : iv_L} {σ : iv_H} : ∀ {j : Nat}, j < 28 → (iv_oLs (38) #[(7, 25), (8, 32)]) L xs 11 lv [.int (iv_sw j)] σ = some (if j = 11 then 36 else if j = 12 then 43 else 49, lv, [], σ)
  | 0, _ => rfl
  | 1, _ => rfl
  | 2, _ => rfl
  | 3, _ => rfl
  | 4, _ => rfl
  | 5, _ => rfl
  | 6, _ => rfl
  | 7, _ => rfl
  | 8, _ => rfl
  | 9, _ => rfl
  | 10, _ => rfl
  | 11, _ => rfl
  | 12, _ => rfl
  | 13, _ => rfl
  | 14, _ => rfl
  | 15, _ => rfl
  | 16, _ => rfl
  | 17, _ => rfl
  | 18, _ => rfl
  | 19, _ => rfl
  | 20, _ => rfl
  | 21, _ => rfl
  | 22, _ => rfl
  | 23, _ => rfl
  | 24, _ => rfl
  | 25, _ => rfl
  | 26, _ => rfl
  | 27, _ => rfl
  | j + 28, h => by omega
theorem yk_ts6 {L : Nat} {xs : Nat → Int32} {lv : iv_L} {σ : iv_H} : ∀ {j : Nat}, j < 28 → (iv_oTs (63) (9) (12) #[32, 40, 48, 55]) L xs 36 lv [.int (iv_sw j)] σ = some (if j = 7 then 68 else if j = 8 then 76 else if j = 9 then 84 else if j = 10 then 91 else 99, lv, [], σ)
  | 0, _ => rfl
  | 1, _ => rfl
  | 2, _ => rfl
  | 3, _ => rfl
  | 4, _ => rfl
  | 5, _ => rfl
  | 6, _ => rfl
  | 7, _ => rfl
  | 8, _ => rfl
  | 9, _ => rfl
  | 10, _ => rfl
  | 11, _ => rfl
  | 12, _ => rfl
  | 13, _ => rfl
  | 14, _ => rfl
  | 15, _ => rfl
  | 16, _ => rfl
  | 17, _ => rfl
  | 18, _ => rfl
  | 19, _ => rfl
  | 20, _ => rfl
  | 21, _ => rfl
  | 22, _ => rfl
  | 23, _ => rfl
  | 24, _ => rfl
  | 25, _ => rfl
  | 26, _ => rfl
  | 27, _ => rfl
  | j + 28, h => by omega
theorem yk_ts8 {L : Nat} {xs : Nat → Int32} {lv : iv_L} {σ : iv_H} : ∀ {j : Nat}, j < 28 → (iv_oTs (34) (13) (15) #[28, 30, 32]) L xs 8 lv [.int (iv_sw j)] σ = some (if j = 13 then 36 else if j = 14 then 38 else if j = 15 then 40 else 42, lv, [], σ)
  | 0, _ => rfl
  | 1, _ => rfl
  | 2, _ => rfl
  | 3, _ => rfl
  | 4, _ => rfl
  | 5, _ => rfl
  | 6, _ => rfl
  | 7, _ => rfl
  | 8, _ => rfl
  | 9, _ => rfl
  | 10, _ => rfl
  | 11, _ => rfl
  | 12, _ => rfl
  | 13, _ => rfl
  | 14, _ => rfl
  | 15, _ => rfl
  | 16, _ => rfl
  | 17, _ => rfl
  | 18, _ => rfl
  | 19, _ => rfl
  | 20, _ => rfl
  | 21, _ => rfl
  | 22, _ => rfl
  | 23, _ => rfl
  | 24, _ => rfl
  | 25, _ => rfl
  | 26, _ => rfl
  | 27, _ => rfl
  | j + 28, h => by omega
section HB
variable {L : Nat} {xs : Nat → Int32} {Post : Option Value → iv_H → Prop} {d M pc : Nat} {lv : iv_L} {st : List Value} {σ : iv_H} {T : Nat → Nat} {n m p : Nat} {Nm : Nat → Int64} {nb ng l : Nat}
def yHq (T : Nat → Nat) (n m : Nat) (Nm : Nat → Int64) (nb ng l : Nat) (q : yE Nat) (b : Bool) (σ1 : iv_H) : Prop := match q with
  | .inl e => b = false ∧ yGB e σ1
  | .inr p1 => b = true ∧ yH T n m p1 Nm nb ng l σ1
theorem yNmd_n {a mm i : Nat} (h : yNmd T n m Nm a mm p = .inr i) : yisN T n m p = true := by
  unfold yNmd at h
  split at h
  · assumption
  · cases h
theorem yNmd_lt {a mm i : Nat} (h : yNmd T n m Nm a mm p = .inr i) : i < mm := by
  unfold yNmd at h
  split at h
  · split at h
    · rename_i k hq
      cases h
      have := yfi_lt (show yfi (fun i => Nm (a + i)) (yrv T n p) mm 0 = some i from hq)
      omega
    · cases h
  · cases h
theorem neq1 {i : Nat} (hi : i ≤ 100) : iv_c2 .ne (Int32.ofNat i) (Int32.ofInt (-1)) = true := by
  have := y_oN (k := i) (by omega)
  simp only [iv_c2]
  exact decide_eq_true this
theorem yh_room (hT : ∀ i, T i ≤ 255) (hl : l ≤ 40) (hk : ykd T n m p = 2) (h : yH T n m p Nm nb ng l σ) : ∃ b σ1, iv_Rn L xs (d + 1) 3 0 (lv_args 0 [.ref 374, .ref 356]) [] σ (some (.int (yb b))) σ1 ∧ ((b = true ∧ l < 40 ∧ σ1 = σ) ∨ (b = false ∧ l = 40 ∧ yGB (ybd T n m p 4) σ1)) := by
  obtain ⟨B, gB, b0⟩ := yH_b h
  refine y_RbE ?_
  refine w_A y3_0 rfl ?_
  refine y_gf y3_1 gB rfl b0 ?_
  refine w_K y3_4 ?_
  by_cases c : l < 40
  · refine y_icT y3_6 rfl (by omega) (by omega) (by simp only [zch]; omega) ?_
    refine w_K y3_17 ?_
    refine w_go y3_18 rfl ?_
    exact y_ret (v := .int (yb true)) y3_22 y_rtb ⟨true, rfl, .inl ⟨rfl, c, rfl⟩⟩
  · refine y_icF y3_6 rfl (by omega) (by omega) (by simp only [zch]; omega) ?_
    refine w_A y3_9 rfl ?_
    refine w_K y3_10 ?_
    refine H_ref hT y3_11 rfl h (.inl (by omega)) (fun σ1 h1 => ?_)
    refine w_ifT y3_14 rfl (y_beqT rfl) ?_
    refine w_K y3_21 ?_
    exact y_ret (v := .int (yb false)) y3_22 y_rtb ⟨false, rfl, .inr ⟨rfl, by omega, h1⟩⟩
theorem yh_add {a b c e : Int32} (hl : l < 40) (h : yH T n m p Nm nb ng l σ) : ∃ σ1, iv_Rn L xs d 12 0 (lv_args 0 [.ref 374, .int a, .int b, .int c, .int e]) [] σ none σ1 ∧ yH T n m p Nm nb ng l σ1 := by
  obtain ⟨⟨V, hC, hV11⟩, ⟨W, vb, wh, wt, sd, g, ⟨s0, s1, s2, s3, s4⟩, g1, g2, g3, g4⟩, hr⟩ := h
  refine y_R0 ?_
  refine w_A y12_0 rfl ?_
  refine y_gf y12_1 g rfl s0 ?_
  refine w_K y12_4 ?_
  refine y_icF y12_6 rfl (by omega) (by omega) (by simp only [zch]; omega) ?_
  refine w_A y12_9 rfl ?_
  refine y_gf y12_10 g rfl s1 ?_
  refine w_A y12_13 rfl ?_
  refine y_gf y12_14 g rfl s0 ?_
  refine w_I y12_17 rfl ?_
  refine y_ist y12_18 g1 (by omega) (by decide) (fun σ1 m1 => ?_)
  have h1 := mD_n m1 (by decide) g
  refine w_A y12_19 rfl ?_
  refine y_gf y12_20 h1 rfl s2 ?_
  refine w_A y12_23 rfl ?_
  refine y_gf y12_24 h1 rfl s0 ?_
  refine w_I y12_27 rfl ?_
  refine y_ist y12_28 (mD_n m1 (by decide) g2) (by omega) (by decide) (fun σ2 m2 => ?_)
  have h2 := mD_n m2 (by decide) h1
  refine w_A y12_29 rfl ?_
  refine y_gf y12_30 h2 rfl s3 ?_
  refine w_A y12_33 rfl ?_
  refine y_gf y12_34 h2 rfl s0 ?_
  refine w_I y12_37 rfl ?_
  refine y_ist y12_38 (mD_n m2 (by decide) (mD_n m1 (by decide) g3)) (by omega) (by decide) (fun σ3 m3 => ?_)
  have h3 := mD_n m3 (by decide) h2
  refine w_A y12_39 rfl ?_
  refine y_gf y12_40 h3 rfl s4 ?_
  refine w_A y12_43 rfl ?_
  refine y_gf y12_44 h3 rfl s0 ?_
  refine w_I y12_47 rfl ?_
  refine y_ist y12_49 (mD_n m3 (by decide) (mD_n m2 (by decide) (mD_n m1 (by decide) g4))) (by omega) (by decide) (fun σ4 m4 => ?_)
  have f1 : yFr [376, 378, 380, 382] σ σ4 := yF_tr (yF_D m1 rfl) (yF_tr (yF_D m2 rfl) (yF_tr (yF_D m3 rfl) (yF_D m4 rfl)))
  exact zGo_r y12_50 rfl ⟨rfl, ⟨V, yCM_fr hC f1 rfl, hV11⟩, ⟨W, _, _, _, _, mD_n m4 (by decide) h3, ⟨s0, s1, s2, s3, s4⟩, mD_n m4 (by decide) (mD_n m3 (by decide) (mD_n m2 (by decide) m1.2.1)), mD_n m4 (by decide) (mD_n m3 (by decide) m2.2.1), mD_n m4 (by decide) m3.2.1, m4.2.1⟩, yHr_F hr f1 rfl⟩
/-- a grater that is told at its first place, a day -/
theorem yh_file (hT : ∀ i, T i ≤ 255) (hm : m ≤ 900) (hg : ng ≤ 6) (hl : l ≤ 40) (hk : ykd T n m p = 2) (h : yH T n m p Nm nb ng l σ) : ∃ b σ1, iv_Rn L xs (d + 3) 4 0 (lv_args 0 [.ref 374, .ref 356, .ref 4]) [] σ (some (.int (yb b))) σ1 ∧ yHq T n m Nm nb ng l (if l = 40 then .inl (ybd T n m p 4) else yThen (yNmd T n m Nm 7 ng (yto T n m p)) fun _ => .inr (yto T n m (yto T n m p))) b σ1 := by
  obtain ⟨B, gB, b0⟩ := yH_b h
  obtain ⟨V, gV⟩ := yH_r h
  refine y_RbE ?_
  refine w_A y4_0 rfl ?_
  refine w_A y4_1 rfl ?_
  obtain ⟨b1, σ1, r1, o1⟩ := yh_room (L := L) (xs := xs) (d := d + 1) hT hl hk h
  refine y_call y4_2 (y_args6 gB rfl rfl) rfl r1 ?_
  rcases o1 with ⟨rfl, hl2, rfl⟩ | ⟨rfl, hl2, h1⟩
  · rw [if_neg (by omega)]
    refine w_ifT y4_5 rfl (y_bneT rfl) ?_
    refine w_A y4_10 rfl ?_
    refine H_go hm y4_11 rfl h (by omega) (fun σ2 h2 => ?_)
    obtain ⟨E, gE⟩ := yH_4 h2
    refine w_A y4_14 rfl ?_
    refine w_A y4_15 rfl ?_
    obtain ⟨x, σ3, r3, o3⟩ := yh_gat (L := L) (xs := xs) (d := d) hT hg h2
    refine y_call y4_16 (y_args6 gE rfl rfl) rfl r3 ?_
    refine w_IS y4_19 ?_
    refine w_I y4_20 rfl ?_
    refine w_K y4_21 ?_
    cases hq : yNmd T n m Nm 7 ng (yto T n m p) with
    | inl e =>
      rw [hq] at o3
      obtain ⟨rfl, h3⟩ := (show x = Int32.ofInt (-1) ∧ yGB e σ3 from o3)
      refine w_icF y4_22 rfl (by decide) ?_
      refine w_K y4_25 ?_
      exact y_ret (v := .int (yb false)) y4_26 y_rtb ⟨false, rfl, rfl, h3⟩
    | inr i =>
      rw [hq] at o3
      obtain ⟨rfl, h3⟩ := (show x = Int32.ofNat i ∧ yH T n m (yto T n m p) Nm nb ng l σ3 from o3)
      have hi := yNmd_lt hq
      refine w_icT y4_22 rfl (neq1 (by omega)) ?_
      refine w_A y4_27 rfl ?_
      refine H_go hm y4_28 rfl h3 (by rw [yisN_k (yNmd_n hq)]; decide) (fun σ4 h4 => ?_)
      refine w_A y4_31 rfl ?_
      refine w_K y4_32 ?_
      refine w_I y4_33 rfl ?_
      refine w_K y4_34 ?_
      refine w_K y4_35 ?_
      obtain ⟨σ5, r5, h5⟩ := yh_add (L := L) (xs := xs) (d := d + 2) (a := Int32.ofNat 4) (b := Int32.ofNat i) (c := Int32.ofNat 0) (e := Int32.ofNat 0) hl2 h4
      obtain ⟨B4, gB4, _⟩ := yH_b h4
      refine y_call0 y4_36 (y_args6 gB4 rfl rfl) rfl r5 ?_
      refine w_K y4_39 ?_
      exact y_ret (v := .int (yb true)) y4_40 y_rtb ⟨true, rfl, rfl, h5⟩
  · rw [if_pos hl2]
    refine w_ifF y4_5 rfl (y_bneF rfl) ?_
    refine w_K y4_8 ?_
    exact y_ret (v := .int (yb false)) y4_9 y_rtb ⟨false, rfl, rfl, h1⟩
theorem yh_day (hT : ∀ i, T i ≤ 255) (hm : m ≤ 900) (hl : l ≤ 40) (hk : ykd T n m p = 2) (h : yH T n m p Nm nb ng l σ) : ∃ b σ1, iv_Rn L xs (d + 3) 5 0 (lv_args 0 [.ref 374, .ref 356]) [] σ (some (.int (yb b))) σ1 ∧ yHq T n m Nm nb ng l (if l = 40 then .inl (ybd T n m p 4) else yThen (yNum T n m 1 60 (yto T n m p)) fun q => .inr q.2) b σ1 := by
  obtain ⟨B, gB, b0⟩ := yH_b h
  refine y_RbE ?_
  refine w_A y5_0 rfl ?_
  refine w_A y5_1 rfl ?_
  obtain ⟨b1, σ1, r1, o1⟩ := yh_room (L := L) (xs := xs) (d := d + 1) hT hl hk h
  refine y_call y5_2 (y_args6 gB rfl rfl) rfl r1 ?_
  rcases o1 with ⟨rfl, hl2, rfl⟩ | ⟨rfl, hl2, h1⟩
  · rw [if_neg (by omega)]
    refine w_ifT y5_5 rfl (y_bneT rfl) ?_
    refine w_A y5_10 rfl ?_
    refine H_go hm y5_11 rfl h (by omega) (fun σ2 h2 => ?_)
    refine w_A y5_14 rfl ?_
    refine w_K y5_15 ?_
    refine w_K y5_16 ?_
    refine H_num (by decide) (by decide) hm hT y5_18 rfl h2 (fun e σ3 hq h3 => ?_) (fun q σ3 hq h3 => ?_)
    · rw [hq]
      refine w_IS y5_21 ?_
      refine w_I y5_22 rfl ?_
      refine w_K y5_23 ?_
      refine w_icF y5_24 rfl (by decide) ?_
      refine w_K y5_27 ?_
      exact y_ret (v := .int (yb false)) y5_28 y_rtb ⟨false, rfl, rfl, h3⟩
    · have hq9 : q.1 ≤ 60 := by
        have h9 := hq
        unfold yNum at h9
        split at h9
        · split at h9
          · rename_i c9
            cases h9
            exact c9.2
          · cases h9
        · cases h9
      rw [hq]
      refine w_IS y5_21 ?_
      refine w_I y5_22 rfl ?_
      refine w_K y5_23 ?_
      refine w_icT y5_24 rfl (neq1 (by omega)) ?_
      refine w_A y5_29 rfl ?_
      refine w_K y5_30 ?_
      refine w_I y5_31 rfl ?_
      refine w_K y5_32 ?_
      refine w_K y5_33 ?_
      obtain ⟨σ5, r5, h5⟩ := yh_add (L := L) (xs := xs) (d := d + 2) (a := Int32.ofNat 5) (b := Int32.ofNat q.1) (c := Int32.ofNat 0) (e := Int32.ofNat 0) hl2 h3
      obtain ⟨B4, gB4, _⟩ := yH_b h3
      refine y_call0 y5_34 (y_args6 gB4 rfl rfl) rfl r5 ?_
      refine w_K y5_37 ?_
      exact y_ret (v := .int (yb true)) y5_38 y_rtb ⟨true, rfl, rfl, h5⟩
  · rw [if_pos hl2]
    refine w_ifF y5_5 rfl (y_bneF rfl) ?_
    refine w_K y5_8 ?_
    exact y_ret (v := .int (yb false)) y5_9 y_rtb ⟨false, rfl, rfl, h1⟩
/-- which side -/
theorem yh_sof {j : Nat} (hj : j < 28) : ∃ x : Int32, iv_Rn L xs d 8 0 (lv_args 0 [.ref (2 * j + 3)]) [] σ (some (.int x)) σ ∧ ((12 < j ∧ j ≤ 15 ∧ ∃ i, i ≤ 2 ∧ x = Int32.ofNat i) ∨ (¬ (12 < j ∧ j ≤ 15) ∧ x = Int32.ofInt (-1))) := by
  have q : ∃ x σ1, iv_Rn L xs d 8 0 (lv_args 0 [.ref (2 * j + 3)]) [] σ (some (.int x)) σ1 ∧ (((12 < j ∧ j ≤ 15 ∧ ∃ i, i ≤ 2 ∧ x = Int32.ofNat i) ∨ (¬ (12 < j ∧ j ≤ 15) ∧ x = Int32.ofInt (-1))) ∧ σ1 = σ) := by
    refine y_RnE ?_
    refine w_gs y8_0 ?_
    refine w_A y8_3 rfl ?_
    refine yd_ord y8_4 hj rfl ?_
    refine yd_swl y8_7 hj ?_
    refine zGo_s y8_8 (yk_ts8 hj) ?_
    by_cases c1 : j = 13
    · rw [if_pos c1]
      refine w_K y8_36 ?_
      exact y_ret y8_37 rfl ⟨_, rfl, .inl ⟨by omega, by omega, 0, by decide, rfl⟩, rfl⟩
    · rw [if_neg c1]
      by_cases c2 : j = 14
      · rw [if_pos c2]
        refine w_K y8_38 ?_
        exact y_ret y8_39 rfl ⟨_, rfl, .inl ⟨by omega, by omega, 1, by decide, rfl⟩, rfl⟩
      · rw [if_neg c2]
        by_cases c3 : j = 15
        · rw [if_pos c3]
          refine w_K y8_40 ?_
          exact y_ret y8_41 rfl ⟨_, rfl, .inl ⟨by omega, by omega, 2, by decide, rfl⟩, rfl⟩
        · rw [if_neg c3]
          refine w_K y8_42 ?_
          exact y_ret y8_43 rfl ⟨_, rfl, .inr ⟨by omega, rfl⟩, rfl⟩
  obtain ⟨x, σ1, r1, o1, rfl⟩ := q
  exact ⟨x, r1, o1⟩
end HB
