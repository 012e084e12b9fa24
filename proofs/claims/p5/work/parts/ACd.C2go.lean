/-! ===== printed by wip/gen/y/c2.py: the reference reads a token ===== -/
set_option maxRecDepth 100000 in
theorem y166_0 : iv_f1 (iv_p 166) 0 = some (.inl (iv_oI 0 1)) := rfl
set_option maxRecDepth 100000 in
theorem y166_1 : iv_f1 (iv_p 166) 1 = some (.inl (iv_oK (.int (Int32.ofNat 48)) 2)) := rfl
set_option maxRecDepth 100000 in
theorem y166_3 : iv_f1 (iv_p 166) 3 = some (.inl (iv_oIc .lt (13))) := rfl
set_option maxRecDepth 100000 in
theorem y166_6 : iv_f1 (iv_p 166) 6 = some (.inl (iv_oI 0 1)) := rfl
set_option maxRecDepth 100000 in
theorem y166_7 : iv_f1 (iv_p 166) 7 = some (.inl (iv_oK (.int (Int32.ofNat 57)) 2)) := rfl
set_option maxRecDepth 100000 in
theorem y166_9 : iv_f1 (iv_p 166) 9 = some (.inl (iv_oIc .gt (7))) := rfl
set_option maxRecDepth 100000 in
theorem y166_12 : iv_f1 (iv_p 166) 12 = some (.inl (iv_oK (.int (Int32.ofNat 1)) 1)) := rfl
set_option maxRecDepth 100000 in
theorem y166_13 : iv_f1 (iv_p 166) 13 = some (.inl (iv_oGo (4))) := rfl
set_option maxRecDepth 100000 in
theorem y166_16 : iv_f1 (iv_p 166) 16 = some (.inl (iv_oK (.int (Int32.ofNat 0)) 1)) := rfl
set_option maxRecDepth 100000 in
theorem y166_17 : iv_f1 (iv_p 166) 17 = some (.inr (.inl 2)) := rfl
theorem ym_dg {L : Nat} {xs : Nat → Int32} {d : Nat} {c : Nat} {σ : iv_H} (hc : c ≤ 255) : iv_Rn L xs d 166 0 (lv_args 0 [.int (Int32.ofNat c)]) [] σ (some (.int (yb (ysD c)))) σ := by
  refine y_Rp ?_
  refine w_I y166_0 rfl ?_
  refine w_K y166_1 ?_
  by_cases c1 : c < 48
  · skip
    refine y_icT y166_3 rfl (by omega) (by omega) (by simp only [zch]; omega) ?_
    refine w_K y166_16 ?_
    exact y_ret y166_17 rfl ⟨y_f (by omega), rfl⟩
  · skip
    refine y_icF y166_3 rfl (by omega) (by omega) (by simp only [zch]; omega) ?_
    refine w_I y166_6 rfl ?_
    refine w_K y166_7 ?_
    by_cases c2 : c > 57
    · skip
      refine y_icT y166_9 rfl (by omega) (by omega) (by simp only [zch]; omega) ?_
      refine w_K y166_16 ?_
      exact y_ret y166_17 rfl ⟨y_f (by omega), rfl⟩
    · skip
      refine y_icF y166_9 rfl (by omega) (by omega) (by simp only [zch]; omega) ?_
      refine w_K y166_12 ?_
      refine w_go y166_13 rfl ?_
      exact y_ret y166_17 rfl ⟨y_t (by omega), rfl⟩
set_option maxRecDepth 100000 in
theorem y167_0 : iv_f1 (iv_p 167) 0 = some (.inl (iv_oI 0 1)) := rfl
set_option maxRecDepth 100000 in
theorem y167_1 : iv_f1 (iv_p 167) 1 = some (.inl (iv_oK (.int (Int32.ofNat 97)) 2)) := rfl
set_option maxRecDepth 100000 in
theorem y167_3 : iv_f1 (iv_p 167) 3 = some (.inl (iv_oIc .lt (13))) := rfl
set_option maxRecDepth 100000 in
theorem y167_6 : iv_f1 (iv_p 167) 6 = some (.inl (iv_oI 0 1)) := rfl
set_option maxRecDepth 100000 in
theorem y167_7 : iv_f1 (iv_p 167) 7 = some (.inl (iv_oK (.int (Int32.ofNat 122)) 2)) := rfl
set_option maxRecDepth 100000 in
theorem y167_9 : iv_f1 (iv_p 167) 9 = some (.inl (iv_oIc .gt (7))) := rfl
set_option maxRecDepth 100000 in
theorem y167_12 : iv_f1 (iv_p 167) 12 = some (.inl (iv_oK (.int (Int32.ofNat 1)) 1)) := rfl
set_option maxRecDepth 100000 in
theorem y167_13 : iv_f1 (iv_p 167) 13 = some (.inl (iv_oGo (4))) := rfl
set_option maxRecDepth 100000 in
theorem y167_16 : iv_f1 (iv_p 167) 16 = some (.inl (iv_oK (.int (Int32.ofNat 0)) 1)) := rfl
set_option maxRecDepth 100000 in
theorem y167_17 : iv_f1 (iv_p 167) 17 = some (.inr (.inl 2)) := rfl
theorem ym_lt {L : Nat} {xs : Nat → Int32} {d : Nat} {c : Nat} {σ : iv_H} (hc : c ≤ 255) : iv_Rn L xs d 167 0 (lv_args 0 [.int (Int32.ofNat c)]) [] σ (some (.int (yb (ysL c)))) σ := by
  refine y_Rp ?_
  refine w_I y167_0 rfl ?_
  refine w_K y167_1 ?_
  by_cases c3 : c < 97
  · skip
    refine y_icT y167_3 rfl (by omega) (by omega) (by simp only [zch]; omega) ?_
    refine w_K y167_16 ?_
    exact y_ret y167_17 rfl ⟨y_f (by omega), rfl⟩
  · skip
    refine y_icF y167_3 rfl (by omega) (by omega) (by simp only [zch]; omega) ?_
    refine w_I y167_6 rfl ?_
    refine w_K y167_7 ?_
    by_cases c4 : c > 122
    · skip
      refine y_icT y167_9 rfl (by omega) (by omega) (by simp only [zch]; omega) ?_
      refine w_K y167_16 ?_
      exact y_ret y167_17 rfl ⟨y_f (by omega), rfl⟩
    · skip
      refine y_icF y167_9 rfl (by omega) (by omega) (by simp only [zch]; omega) ?_
      refine w_K y167_12 ?_
      refine w_go y167_13 rfl ?_
      exact y_ret y167_17 rfl ⟨y_t (by omega), rfl⟩
set_option maxRecDepth 100000 in
theorem y160_0 : iv_f1 (iv_p 160) 0 = some (.inl (iv_oI 0 1)) := rfl
set_option maxRecDepth 100000 in
theorem y160_1 : iv_f1 (iv_p 160) 1 = some (.inl (iv_oI 1 1)) := rfl
set_option maxRecDepth 100000 in
theorem y160_2 : iv_f1 (iv_p 160) 2 = some (.inl (iv_oIc .lt (12))) := rfl
set_option maxRecDepth 100000 in
theorem y160_5 : iv_f1 (iv_p 160) 5 = some (.inl (iv_oI 0 1)) := rfl
set_option maxRecDepth 100000 in
theorem y160_6 : iv_f1 (iv_p 160) 6 = some (.inl (iv_oI 2 1)) := rfl
set_option maxRecDepth 100000 in
theorem y160_7 : iv_f1 (iv_p 160) 7 = some (.inl (iv_oIc .gt (7))) := rfl
set_option maxRecDepth 100000 in
theorem y160_10 : iv_f1 (iv_p 160) 10 = some (.inl (iv_oK (.int (Int32.ofNat 1)) 1)) := rfl
set_option maxRecDepth 100000 in
theorem y160_11 : iv_f1 (iv_p 160) 11 = some (.inl (iv_oGo (4))) := rfl
set_option maxRecDepth 100000 in
theorem y160_14 : iv_f1 (iv_p 160) 14 = some (.inl (iv_oK (.int (Int32.ofNat 0)) 1)) := rfl
set_option maxRecDepth 100000 in
theorem y160_15 : iv_f1 (iv_p 160) 15 = some (.inr (.inl 2)) := rfl
theorem ym_in {L : Nat} {xs : Nat → Int32} {d : Nat} {v a b : Nat} {σ : iv_H} (hv : v ≤ 100000) (ha : a ≤ 100000) (hb : b ≤ 100000) : iv_Rn L xs d 160 0 (lv_args 0 [.int (Int32.ofNat v), .int (Int32.ofNat a), .int (Int32.ofNat b)]) [] σ (some (.int (yb (decide (a ≤ v ∧ v ≤ b))))) σ := by
  refine y_Rp ?_
  refine w_I y160_0 rfl ?_
  refine w_I y160_1 rfl ?_
  by_cases c5 : v < a
  · skip
    refine y_icT y160_2 rfl (by omega) (by omega) (by simp only [zch]; omega) ?_
    refine w_K y160_14 ?_
    exact y_ret y160_15 rfl ⟨y_f (by omega), rfl⟩
  · skip
    refine y_icF y160_2 rfl (by omega) (by omega) (by simp only [zch]; omega) ?_
    refine w_I y160_5 rfl ?_
    refine w_I y160_6 rfl ?_
    by_cases c6 : v > b
    · skip
      refine y_icT y160_7 rfl (by omega) (by omega) (by simp only [zch]; omega) ?_
      refine w_K y160_14 ?_
      exact y_ret y160_15 rfl ⟨y_f (by omega), rfl⟩
    · skip
      refine y_icF y160_7 rfl (by omega) (by omega) (by simp only [zch]; omega) ?_
      refine w_K y160_10 ?_
      refine w_go y160_11 rfl ?_
      exact y_ret y160_15 rfl ⟨y_t (by omega), rfl⟩
set_option maxRecDepth 100000 in
theorem y165_0 : iv_f1 (iv_p 165) 0 = some (.inl (iv_oI 1 1)) := rfl
set_option maxRecDepth 100000 in
theorem y165_1 : iv_f1 (iv_p 165) 1 = some (.inl (iv_oA 0 1)) := rfl
set_option maxRecDepth 100000 in
theorem y165_2 : iv_f1 (iv_p 165) 2 = some (.inl (iv_oGF 12 3)) := rfl
set_option maxRecDepth 100000 in
theorem y165_5 : iv_f1 (iv_p 165) 5 = some (.inl (iv_oIc .ge (12))) := rfl
set_option maxRecDepth 100000 in
theorem y165_8 : iv_f1 (iv_p 165) 8 = some (.inl (iv_oA 0 1)) := rfl
set_option maxRecDepth 100000 in
theorem y165_9 : iv_f1 (iv_p 165) 9 = some (.inl (iv_oGF 12 1)) := rfl
set_option maxRecDepth 100000 in
theorem y165_12 : iv_f1 (iv_p 165) 12 = some (.inl (iv_oI 1 1)) := rfl
set_option maxRecDepth 100000 in
theorem y165_13 : iv_f1 (iv_p 165) 13 = some (.inl iv_oIl) := rfl
set_option maxRecDepth 100000 in
theorem y165_14 : iv_f1 (iv_p 165) 14 = some (.inl (iv_oGo (4))) := rfl
set_option maxRecDepth 100000 in
theorem y165_17 : iv_f1 (iv_p 165) 17 = some (.inl (iv_oK (.int (Int32.ofNat 0)) 1)) := rfl
set_option maxRecDepth 100000 in
theorem y165_18 : iv_f1 (iv_p 165) 18 = some (.inr (.inl 1)) := rfl
theorem ym_at {L : Nat} {xs : Nat → Int32} {d : Nat} {σ : iv_H} {V : Nat → Value} {T : Nat → Nat} {n p : Nat} (hn : n ≤ 940) (hp : p ≤ 940) (g : iv_get σ 548 = some (yob 12 49 V)) (gt : iv_get σ 550 = some (yai 940 (ytp T))) (hT : ∀ i, T i ≤ 255) (v1 : V 1 = .ref 550) (v3 : V 3 = .int (Int32.ofNat n)) : iv_Rn L xs d 165 0 (lv_args 0 [.ref 548, .int (Int32.ofNat p)]) [] σ (some (.int (Int32.ofNat (yat T n p)))) σ := by
  refine y_Rp ?_
  refine w_I y165_0 rfl ?_
  refine w_A y165_1 rfl ?_
  refine y_gf y165_2 g rfl v3 ?_
  by_cases c7 : p ≥ n
  · skip
    refine y_icT y165_5 rfl (by omega) (by omega) (by simp only [zch]; omega) ?_
    refine w_K y165_17 ?_
    exact y_ret y165_18 rfl ⟨by unfold yat; rw [if_neg (by omega)], rfl⟩
  · skip
    refine y_icF y165_5 rfl (by omega) (by omega) (by simp only [zch]; omega) ?_
    refine w_A y165_8 rfl ?_
    refine y_gf y165_9 g rfl v1 ?_
    refine w_I y165_12 rfl ?_
    refine y_il y165_13 gt rfl rfl (by omega) (by decide) ?_
    have t8 := hT p
    refine w_go y165_14 rfl ?_
    exact y_ret y165_18 rfl ⟨by unfold yat; rw [if_pos (by omega)]; rfl, rfl⟩
theorem y_atb {T : Nat → Nat} {n p : Nat} (hT : ∀ i, T i ≤ 255) : yat T n p ≤ 255 := by
  unfold yat
  split
  · exact hT _
  · decide
set_option maxRecDepth 100000 in
theorem y168_0 : iv_f1 (iv_p 168) 0 = some (.inl (iv_oA 0 1)) := rfl
set_option maxRecDepth 100000 in
theorem y168_1 : iv_f1 (iv_p 168) 1 = some (.inl (iv_oGF 12 5)) := rfl
set_option maxRecDepth 100000 in
theorem y168_4 : iv_f1 (iv_p 168) 4 = some (.inl (iv_oA 0 1)) := rfl
set_option maxRecDepth 100000 in
theorem y168_5 : iv_f1 (iv_p 168) 5 = some (.inl (iv_oGF 12 3)) := rfl
set_option maxRecDepth 100000 in
theorem y168_8 : iv_f1 (iv_p 168) 8 = some (.inl (iv_oIc .ge (44))) := rfl
set_option maxRecDepth 100000 in
theorem y168_11 : iv_f1 (iv_p 168) 11 = some (.inl (iv_oA 0 1)) := rfl
set_option maxRecDepth 100000 in
theorem y168_12 : iv_f1 (iv_p 168) 12 = some (.inl (iv_oGF 12 1)) := rfl
set_option maxRecDepth 100000 in
theorem y168_15 : iv_f1 (iv_p 168) 15 = some (.inl (iv_oA 0 1)) := rfl
set_option maxRecDepth 100000 in
theorem y168_16 : iv_f1 (iv_p 168) 16 = some (.inl (iv_oGF 12 5)) := rfl
set_option maxRecDepth 100000 in
theorem y168_19 : iv_f1 (iv_p 168) 19 = some (.inl iv_oIl) := rfl
set_option maxRecDepth 100000 in
theorem y168_20 : iv_f1 (iv_p 168) 20 = some (.inl (iv_oK (.int (Int32.ofNat 32)) 2)) := rfl
set_option maxRecDepth 100000 in
theorem y168_22 : iv_f1 (iv_p 168) 22 = some (.inl (iv_oIc .eq (17))) := rfl
set_option maxRecDepth 100000 in
theorem y168_25 : iv_f1 (iv_p 168) 25 = some (.inl (iv_oA 0 1)) := rfl
set_option maxRecDepth 100000 in
theorem y168_26 : iv_f1 (iv_p 168) 26 = some (.inl (iv_oGF 12 1)) := rfl
set_option maxRecDepth 100000 in
theorem y168_29 : iv_f1 (iv_p 168) 29 = some (.inl (iv_oA 0 1)) := rfl
set_option maxRecDepth 100000 in
theorem y168_30 : iv_f1 (iv_p 168) 30 = some (.inl (iv_oGF 12 5)) := rfl
set_option maxRecDepth 100000 in
theorem y168_33 : iv_f1 (iv_p 168) 33 = some (.inl iv_oIl) := rfl
set_option maxRecDepth 100000 in
theorem y168_34 : iv_f1 (iv_p 168) 34 = some (.inl (iv_oK (.int (Int32.ofNat 10)) 2)) := rfl
set_option maxRecDepth 100000 in
theorem y168_36 : iv_f1 (iv_p 168) 36 = some (.inl (iv_oIc .ne (16))) := rfl
set_option maxRecDepth 100000 in
theorem y168_39 : iv_f1 (iv_p 168) 39 = some (.inl (iv_oA 0 1)) := rfl
set_option maxRecDepth 100000 in
theorem y168_40 : iv_f1 (iv_p 168) 40 = some (.inl iv_oDup) := rfl
set_option maxRecDepth 100000 in
theorem y168_41 : iv_f1 (iv_p 168) 41 = some (.inl (iv_oGF 12 5)) := rfl
set_option maxRecDepth 100000 in
theorem y168_44 : iv_f1 (iv_p 168) 44 = some (.inl (iv_oK (.int (Int32.ofNat 1)) 1)) := rfl
set_option maxRecDepth 100000 in
theorem y168_45 : iv_f1 (iv_p 168) 45 = some (.inl (iv_oII fun x y => x + y)) := rfl
set_option maxRecDepth 100000 in
theorem y168_46 : iv_f1 (iv_p 168) 46 = some (.inl (iv_oPF 12 5 .int)) := rfl
set_option maxRecDepth 100000 in
theorem y168_49 : iv_f1 (iv_p 168) 49 = some (.inl (iv_oGo (-49))) := rfl
set_option maxRecDepth 100000 in
theorem y168_52 : iv_f1 (iv_p 168) 52 = some (.inl (iv_oA 0 1)) := rfl
set_option maxRecDepth 100000 in
theorem y168_53 : iv_f1 (iv_p 168) 53 = some (.inl (iv_oA 0 1)) := rfl
set_option maxRecDepth 100000 in
theorem y168_54 : iv_f1 (iv_p 168) 54 = some (.inl (iv_oGF 12 5)) := rfl
set_option maxRecDepth 100000 in
theorem y168_57 : iv_f1 (iv_p 168) 57 = some (.inl (iv_oPF 12 6 .int)) := rfl
set_option maxRecDepth 100000 in
theorem y168_60 : iv_f1 (iv_p 168) 60 = some (.inl (iv_oA 0 1)) := rfl
set_option maxRecDepth 100000 in
theorem y168_61 : iv_f1 (iv_p 168) 61 = some (.inl (iv_oGF 12 3)) := rfl
set_option maxRecDepth 100000 in
theorem y168_64 : iv_f1 (iv_p 168) 64 = some (.inl (iv_oA 0 1)) := rfl
set_option maxRecDepth 100000 in
theorem y168_65 : iv_f1 (iv_p 168) 65 = some (.inl (iv_oGF 12 4)) := rfl
set_option maxRecDepth 100000 in
theorem y168_68 : iv_f1 (iv_p 168) 68 = some (.inl (iv_oIc .le (28))) := rfl
set_option maxRecDepth 100000 in
theorem y168_71 : iv_f1 (iv_p 168) 71 = some (.inl (iv_oA 0 1)) := rfl
set_option maxRecDepth 100000 in
theorem y168_72 : iv_f1 (iv_p 168) 72 = some (.inl (iv_oGF 12 6)) := rfl
set_option maxRecDepth 100000 in
theorem y168_75 : iv_f1 (iv_p 168) 75 = some (.inl (iv_oA 0 1)) := rfl
set_option maxRecDepth 100000 in
theorem y168_76 : iv_f1 (iv_p 168) 76 = some (.inl (iv_oGF 12 4)) := rfl
set_option maxRecDepth 100000 in
theorem y168_79 : iv_f1 (iv_p 168) 79 = some (.inl (iv_oIc .lt (17))) := rfl
set_option maxRecDepth 100000 in
theorem y168_82 : iv_f1 (iv_p 168) 82 = some (.inl (iv_oA 0 1)) := rfl
set_option maxRecDepth 100000 in
theorem y168_83 : iv_f1 (iv_p 168) 83 = some (.inl (iv_oA 0 1)) := rfl
set_option maxRecDepth 100000 in
theorem y168_84 : iv_f1 (iv_p 168) 84 = some (.inl (iv_oGF 12 4)) := rfl
set_option maxRecDepth 100000 in
theorem y168_87 : iv_f1 (iv_p 168) 87 = some (.inl (iv_oPF 12 6 .int)) := rfl
set_option maxRecDepth 100000 in
theorem y168_90 : iv_f1 (iv_p 168) 90 = some (.inl (iv_oA 0 1)) := rfl
set_option maxRecDepth 100000 in
theorem y168_91 : iv_f1 (iv_p 168) 91 = some (.inl (iv_oK (.int (Int32.ofNat 1)) 1)) := rfl
set_option maxRecDepth 100000 in
theorem y168_92 : iv_f1 (iv_p 168) 92 = some (.inl (iv_oPF 12 7 .int)) := rfl
set_option maxRecDepth 100000 in
theorem y168_95 : iv_f1 (iv_p 168) 95 = some (.inr (.inl 0)) := rfl
set_option maxRecDepth 100000 in
theorem y168_96 : iv_f1 (iv_p 168) 96 = some (.inl (iv_oA 0 1)) := rfl
set_option maxRecDepth 100000 in
theorem y168_97 : iv_f1 (iv_p 168) 97 = some (.inl (iv_oGF 12 5)) := rfl
set_option maxRecDepth 100000 in
theorem y168_100 : iv_f1 (iv_p 168) 100 = some (.inl (iv_oA 0 1)) := rfl
set_option maxRecDepth 100000 in
theorem y168_101 : iv_f1 (iv_p 168) 101 = some (.inl (iv_oGF 12 3)) := rfl
set_option maxRecDepth 100000 in
theorem y168_104 : iv_f1 (iv_p 168) 104 = some (.inl (iv_oIc .lt (9))) := rfl
set_option maxRecDepth 100000 in
theorem y168_107 : iv_f1 (iv_p 168) 107 = some (.inl (iv_oA 0 1)) := rfl
set_option maxRecDepth 100000 in
theorem y168_108 : iv_f1 (iv_p 168) 108 = some (.inl (iv_oK (.int (Int32.ofNat 0)) 1)) := rfl
set_option maxRecDepth 100000 in
theorem y168_109 : iv_f1 (iv_p 168) 109 = some (.inl (iv_oPF 12 7 .int)) := rfl
set_option maxRecDepth 100000 in
theorem y168_112 : iv_f1 (iv_p 168) 112 = some (.inr (.inl 0)) := rfl
set_option maxRecDepth 100000 in
theorem y168_113 : iv_f1 (iv_p 168) 113 = some (.inl (iv_oA 0 1)) := rfl
set_option maxRecDepth 100000 in
theorem y168_114 : iv_f1 (iv_p 168) 114 = some (.inl (iv_oGF 12 1)) := rfl
set_option maxRecDepth 100000 in
theorem y168_117 : iv_f1 (iv_p 168) 117 = some (.inl (iv_oA 0 1)) := rfl
set_option maxRecDepth 100000 in
theorem y168_118 : iv_f1 (iv_p 168) 118 = some (.inl (iv_oGF 12 5)) := rfl
set_option maxRecDepth 100000 in
theorem y168_121 : iv_f1 (iv_p 168) 121 = some (.inl iv_oIl) := rfl
set_option maxRecDepth 100000 in
theorem y168_122 : iv_f1 (iv_p 168) 122 = some (.inl (iv_oIS 1 1)) := rfl
set_option maxRecDepth 100000 in
theorem y168_123 : iv_f1 (iv_p 168) 123 = some (.inl (iv_oI 1 1)) := rfl
set_option maxRecDepth 100000 in
theorem y168_124 : iv_f1 (iv_p 168) 124 = some (.inr (.inr (4, 167, 1, 0))) := rfl
set_option maxRecDepth 100000 in
theorem y168_127 : iv_f1 (iv_p 168) 127 = some (.inl (iv_oIf .ne (71))) := rfl
set_option maxRecDepth 100000 in
theorem y168_130 : iv_f1 (iv_p 168) 130 = some (.inl (iv_oI 1 1)) := rfl
set_option maxRecDepth 100000 in
theorem y168_131 : iv_f1 (iv_p 168) 131 = some (.inr (.inr (4, 166, 1, 0))) := rfl
set_option maxRecDepth 100000 in
theorem y168_134 : iv_f1 (iv_p 168) 134 = some (.inl (iv_oIf .ne (64))) := rfl
set_option maxRecDepth 100000 in
theorem y168_137 : iv_f1 (iv_p 168) 137 = some (.inl (iv_oA 0 1)) := rfl
set_option maxRecDepth 100000 in
theorem y168_138 : iv_f1 (iv_p 168) 138 = some (.inl (iv_oI 1 1)) := rfl
set_option maxRecDepth 100000 in
theorem y168_139 : iv_f1 (iv_p 168) 139 = some (.inl (iv_oK (.int (Int32.ofNat 59)) 2)) := rfl
set_option maxRecDepth 100000 in
theorem y168_141 : iv_f1 (iv_p 168) 141 = some (.inl (iv_oIc .eq (33))) := rfl
set_option maxRecDepth 100000 in
theorem y168_144 : iv_f1 (iv_p 168) 144 = some (.inl (iv_oI 1 1)) := rfl
set_option maxRecDepth 100000 in
theorem y168_145 : iv_f1 (iv_p 168) 145 = some (.inl (iv_oK (.int (Int32.ofNat 60)) 2)) := rfl
set_option maxRecDepth 100000 in
theorem y168_147 : iv_f1 (iv_p 168) 147 = some (.inl (iv_oIc .eq (27))) := rfl
set_option maxRecDepth 100000 in
theorem y168_150 : iv_f1 (iv_p 168) 150 = some (.inl (iv_oI 1 1)) := rfl
set_option maxRecDepth 100000 in
theorem y168_151 : iv_f1 (iv_p 168) 151 = some (.inl (iv_oK (.int (Int32.ofNat 61)) 2)) := rfl
set_option maxRecDepth 100000 in
theorem y168_153 : iv_f1 (iv_p 168) 153 = some (.inl (iv_oIc .eq (21))) := rfl
set_option maxRecDepth 100000 in
theorem y168_156 : iv_f1 (iv_p 168) 156 = some (.inl (iv_oI 1 1)) := rfl
set_option maxRecDepth 100000 in
theorem y168_157 : iv_f1 (iv_p 168) 157 = some (.inl (iv_oK (.int (Int32.ofNat 62)) 2)) := rfl
set_option maxRecDepth 100000 in
theorem y168_159 : iv_f1 (iv_p 168) 159 = some (.inl (iv_oIc .eq (15))) := rfl
set_option maxRecDepth 100000 in
theorem y168_162 : iv_f1 (iv_p 168) 162 = some (.inl (iv_oI 1 1)) := rfl
set_option maxRecDepth 100000 in
theorem y168_163 : iv_f1 (iv_p 168) 163 = some (.inl (iv_oK (.int (Int32.ofNat 40)) 2)) := rfl
set_option maxRecDepth 100000 in
theorem y168_165 : iv_f1 (iv_p 168) 165 = some (.inl (iv_oIc .eq (9))) := rfl
set_option maxRecDepth 100000 in
theorem y168_168 : iv_f1 (iv_p 168) 168 = some (.inl (iv_oI 1 1)) := rfl
set_option maxRecDepth 100000 in
theorem y168_169 : iv_f1 (iv_p 168) 169 = some (.inl (iv_oK (.int (Int32.ofNat 41)) 2)) := rfl
set_option maxRecDepth 100000 in
theorem y168_171 : iv_f1 (iv_p 168) 171 = some (.inl (iv_oIc .ne (7))) := rfl
set_option maxRecDepth 100000 in
theorem y168_174 : iv_f1 (iv_p 168) 174 = some (.inl (iv_oK (.int (Int32.ofNat 4)) 1)) := rfl
set_option maxRecDepth 100000 in
theorem y168_175 : iv_f1 (iv_p 168) 175 = some (.inl (iv_oGo (4))) := rfl
set_option maxRecDepth 100000 in
theorem y168_178 : iv_f1 (iv_p 168) 178 = some (.inl (iv_oK (.int (Int32.ofNat 1)) 1)) := rfl
set_option maxRecDepth 100000 in
theorem y168_179 : iv_f1 (iv_p 168) 179 = some (.inl (iv_oPF 12 7 .int)) := rfl
set_option maxRecDepth 100000 in
theorem y168_182 : iv_f1 (iv_p 168) 182 = some (.inl (iv_oA 0 1)) := rfl
set_option maxRecDepth 100000 in
theorem y168_183 : iv_f1 (iv_p 168) 183 = some (.inl (iv_oI 1 1)) := rfl
set_option maxRecDepth 100000 in
theorem y168_184 : iv_f1 (iv_p 168) 184 = some (.inl (iv_oPF 12 9 .int)) := rfl
set_option maxRecDepth 100000 in
theorem y168_187 : iv_f1 (iv_p 168) 187 = some (.inl (iv_oA 0 1)) := rfl
set_option maxRecDepth 100000 in
theorem y168_188 : iv_f1 (iv_p 168) 188 = some (.inl iv_oDup) := rfl
set_option maxRecDepth 100000 in
theorem y168_189 : iv_f1 (iv_p 168) 189 = some (.inl (iv_oGF 12 5)) := rfl
set_option maxRecDepth 100000 in
theorem y168_192 : iv_f1 (iv_p 168) 192 = some (.inl (iv_oK (.int (Int32.ofNat 1)) 1)) := rfl
set_option maxRecDepth 100000 in
theorem y168_193 : iv_f1 (iv_p 168) 193 = some (.inl (iv_oII fun x y => x + y)) := rfl
set_option maxRecDepth 100000 in
theorem y168_194 : iv_f1 (iv_p 168) 194 = some (.inl (iv_oPF 12 5 .int)) := rfl
set_option maxRecDepth 100000 in
theorem y168_197 : iv_f1 (iv_p 168) 197 = some (.inr (.inl 0)) := rfl
set_option maxRecDepth 100000 in
theorem y168_198 : iv_f1 (iv_p 168) 198 = some (.inl (iv_oI 1 1)) := rfl
set_option maxRecDepth 100000 in
theorem y168_199 : iv_f1 (iv_p 168) 199 = some (.inr (.inr (4, 167, 1, 0))) := rfl
set_option maxRecDepth 100000 in
theorem y168_202 : iv_f1 (iv_p 168) 202 = some (.inl (iv_oIS 2 1)) := rfl
set_option maxRecDepth 100000 in
theorem y168_203 : iv_f1 (iv_p 168) 203 = some (.inl (iv_oK (.int (Int32.ofNat 1)) 1)) := rfl
set_option maxRecDepth 100000 in
theorem y168_204 : iv_f1 (iv_p 168) 204 = some (.inl (iv_oIS 3 1)) := rfl
set_option maxRecDepth 100000 in
theorem y168_205 : iv_f1 (iv_p 168) 205 = some (.inl (iv_oA 0 1)) := rfl
set_option maxRecDepth 100000 in
theorem y168_206 : iv_f1 (iv_p 168) 206 = some (.inl (iv_oK (.long (Int64.ofNat 0)) 1)) := rfl
set_option maxRecDepth 100000 in
theorem y168_207 : iv_f1 (iv_p 168) 207 = some (.inl (iv_oPF 12 12 .long)) := rfl
set_option maxRecDepth 100000 in
theorem y168_210 : iv_f1 (iv_p 168) 210 = some (.inl (iv_oA 0 1)) := rfl
set_option maxRecDepth 100000 in
theorem y168_211 : iv_f1 (iv_p 168) 211 = some (.inl (iv_oK (.int (Int32.ofNat 0)) 1)) := rfl
set_option maxRecDepth 100000 in
theorem y168_212 : iv_f1 (iv_p 168) 212 = some (.inl (iv_oPF 12 8 .int)) := rfl
set_option maxRecDepth 100000 in
theorem y168_215 : iv_f1 (iv_p 168) 215 = some (.inl (iv_oA 0 1)) := rfl
set_option maxRecDepth 100000 in
theorem y168_216 : iv_f1 (iv_p 168) 216 = some (.inl (iv_oA 0 1)) := rfl
set_option maxRecDepth 100000 in
theorem y168_217 : iv_f1 (iv_p 168) 217 = some (.inl (iv_oGF 12 5)) := rfl
set_option maxRecDepth 100000 in
theorem y168_220 : iv_f1 (iv_p 168) 220 = some (.inr (.inr (6, 165, 1, 12))) := rfl
set_option maxRecDepth 100000 in
theorem y168_223 : iv_f1 (iv_p 168) 223 = some (.inr (.inr (4, 167, 1, 0))) := rfl
set_option maxRecDepth 100000 in
theorem y168_226 : iv_f1 (iv_p 168) 226 = some (.inl (iv_oIf .ne (17))) := rfl
set_option maxRecDepth 100000 in
theorem y168_229 : iv_f1 (iv_p 168) 229 = some (.inl (iv_oA 0 1)) := rfl
set_option maxRecDepth 100000 in
theorem y168_230 : iv_f1 (iv_p 168) 230 = some (.inl (iv_oA 0 1)) := rfl
set_option maxRecDepth 100000 in
theorem y168_231 : iv_f1 (iv_p 168) 231 = some (.inl (iv_oGF 12 5)) := rfl
set_option maxRecDepth 100000 in
theorem y168_234 : iv_f1 (iv_p 168) 234 = some (.inr (.inr (6, 165, 1, 12))) := rfl
set_option maxRecDepth 100000 in
theorem y168_237 : iv_f1 (iv_p 168) 237 = some (.inr (.inr (4, 166, 1, 0))) := rfl
set_option maxRecDepth 100000 in
theorem y168_240 : iv_f1 (iv_p 168) 240 = some (.inl (iv_oIf .eq (110))) := rfl
set_option maxRecDepth 100000 in
theorem y168_243 : iv_f1 (iv_p 168) 243 = some (.inl (iv_oA 0 1)) := rfl
set_option maxRecDepth 100000 in
theorem y168_244 : iv_f1 (iv_p 168) 244 = some (.inl (iv_oGF 12 1)) := rfl
set_option maxRecDepth 100000 in
theorem y168_247 : iv_f1 (iv_p 168) 247 = some (.inl (iv_oA 0 1)) := rfl
set_option maxRecDepth 100000 in
theorem y168_248 : iv_f1 (iv_p 168) 248 = some (.inl (iv_oGF 12 5)) := rfl
set_option maxRecDepth 100000 in
theorem y168_251 : iv_f1 (iv_p 168) 251 = some (.inl iv_oIl) := rfl
set_option maxRecDepth 100000 in
theorem y168_252 : iv_f1 (iv_p 168) 252 = some (.inl (iv_oIS 4 2)) := rfl
set_option maxRecDepth 100000 in
theorem y168_254 : iv_f1 (iv_p 168) 254 = some (.inl (iv_oI 3 1)) := rfl
set_option maxRecDepth 100000 in
theorem y168_255 : iv_f1 (iv_p 168) 255 = some (.inl (iv_oIf .eq (16))) := rfl
set_option maxRecDepth 100000 in
theorem y168_258 : iv_f1 (iv_p 168) 258 = some (.inl (iv_oI 4 2)) := rfl
set_option maxRecDepth 100000 in
theorem y168_260 : iv_f1 (iv_p 168) 260 = some (.inr (.inr (4, 167, 1, 0))) := rfl
set_option maxRecDepth 100000 in
theorem y168_263 : iv_f1 (iv_p 168) 263 = some (.inl (iv_oI 2 1)) := rfl
set_option maxRecDepth 100000 in
theorem y168_264 : iv_f1 (iv_p 168) 264 = some (.inl (iv_oIc .ne (7))) := rfl
set_option maxRecDepth 100000 in
theorem y168_267 : iv_f1 (iv_p 168) 267 = some (.inl (iv_oK (.int (Int32.ofNat 1)) 1)) := rfl
set_option maxRecDepth 100000 in
theorem y168_268 : iv_f1 (iv_p 168) 268 = some (.inl (iv_oGo (4))) := rfl
set_option maxRecDepth 100000 in
theorem y168_271 : iv_f1 (iv_p 168) 271 = some (.inl (iv_oK (.int (Int32.ofNat 0)) 1)) := rfl
set_option maxRecDepth 100000 in
theorem y168_272 : iv_f1 (iv_p 168) 272 = some (.inl (iv_oIS 3 1)) := rfl
set_option maxRecDepth 100000 in
theorem y168_273 : iv_f1 (iv_p 168) 273 = some (.inl (iv_oA 0 1)) := rfl
set_option maxRecDepth 100000 in
theorem y168_274 : iv_f1 (iv_p 168) 274 = some (.inl (iv_oGF 12 5)) := rfl
set_option maxRecDepth 100000 in
theorem y168_277 : iv_f1 (iv_p 168) 277 = some (.inl (iv_oA 0 1)) := rfl
set_option maxRecDepth 100000 in
theorem y168_278 : iv_f1 (iv_p 168) 278 = some (.inl (iv_oGF 12 6)) := rfl
set_option maxRecDepth 100000 in
theorem y168_281 : iv_f1 (iv_p 168) 281 = some (.inl (iv_oII fun x y => x - y)) := rfl
set_option maxRecDepth 100000 in
theorem y168_282 : iv_f1 (iv_p 168) 282 = some (.inl (iv_oK (.int (Int32.ofNat 7)) 2)) := rfl
set_option maxRecDepth 100000 in
theorem y168_284 : iv_f1 (iv_p 168) 284 = some (.inl (iv_oIc .ge (23))) := rfl
set_option maxRecDepth 100000 in
theorem y168_287 : iv_f1 (iv_p 168) 287 = some (.inl (iv_oA 0 1)) := rfl
set_option maxRecDepth 100000 in
theorem y168_288 : iv_f1 (iv_p 168) 288 = some (.inl (iv_oK (.long (Int64.ofNat 27)) 3)) := rfl
set_option maxRecDepth 100000 in
theorem y168_291 : iv_f1 (iv_p 168) 291 = some (.inl (iv_oA 0 1)) := rfl
set_option maxRecDepth 100000 in
theorem y168_292 : iv_f1 (iv_p 168) 292 = some (.inl (iv_oGF 12 12)) := rfl
set_option maxRecDepth 100000 in
theorem y168_295 : iv_f1 (iv_p 168) 295 = some (.inl (iv_oJJ fun x y => x * y)) := rfl
set_option maxRecDepth 100000 in
theorem y168_296 : iv_f1 (iv_p 168) 296 = some (.inl (iv_oI 4 2)) := rfl
set_option maxRecDepth 100000 in
theorem y168_298 : iv_f1 (iv_p 168) 298 = some (.inl (iv_oUI fun x => .long x.toInt64)) := rfl
set_option maxRecDepth 100000 in
theorem y168_299 : iv_f1 (iv_p 168) 299 = some (.inl (iv_oJJ fun x y => x + y)) := rfl
set_option maxRecDepth 100000 in
theorem y168_300 : iv_f1 (iv_p 168) 300 = some (.inl (iv_oK (.long (Int64.ofNat 96)) 3)) := rfl
set_option maxRecDepth 100000 in
theorem y168_303 : iv_f1 (iv_p 168) 303 = some (.inl (iv_oJJ fun x y => x - y)) := rfl
set_option maxRecDepth 100000 in
theorem y168_304 : iv_f1 (iv_p 168) 304 = some (.inl (iv_oPF 12 12 .long)) := rfl
set_option maxRecDepth 100000 in
theorem y168_307 : iv_f1 (iv_p 168) 307 = some (.inl (iv_oA 0 1)) := rfl
set_option maxRecDepth 100000 in
theorem y168_308 : iv_f1 (iv_p 168) 308 = some (.inl (iv_oGF 12 5)) := rfl
set_option maxRecDepth 100000 in
theorem y168_311 : iv_f1 (iv_p 168) 311 = some (.inl (iv_oA 0 1)) := rfl
set_option maxRecDepth 100000 in
theorem y168_312 : iv_f1 (iv_p 168) 312 = some (.inl (iv_oGF 12 6)) := rfl
set_option maxRecDepth 100000 in
theorem y168_315 : iv_f1 (iv_p 168) 315 = some (.inl (iv_oII fun x y => x - y)) := rfl
set_option maxRecDepth 100000 in
theorem y168_316 : iv_f1 (iv_p 168) 316 = some (.inl (iv_oK (.int (Int32.ofNat 3)) 1)) := rfl
set_option maxRecDepth 100000 in
theorem y168_317 : iv_f1 (iv_p 168) 317 = some (.inl (iv_oIc .ge (20))) := rfl
set_option maxRecDepth 100000 in
theorem y168_320 : iv_f1 (iv_p 168) 320 = some (.inl (iv_oA 0 1)) := rfl
set_option maxRecDepth 100000 in
theorem y168_321 : iv_f1 (iv_p 168) 321 = some (.inl (iv_oK (.int (Int32.ofNat 10)) 2)) := rfl
set_option maxRecDepth 100000 in
theorem y168_323 : iv_f1 (iv_p 168) 323 = some (.inl (iv_oA 0 1)) := rfl
set_option maxRecDepth 100000 in
theorem y168_324 : iv_f1 (iv_p 168) 324 = some (.inl (iv_oGF 12 8)) := rfl
set_option maxRecDepth 100000 in
theorem y168_327 : iv_f1 (iv_p 168) 327 = some (.inl (iv_oII fun x y => x * y)) := rfl
set_option maxRecDepth 100000 in
theorem y168_328 : iv_f1 (iv_p 168) 328 = some (.inl (iv_oI 4 2)) := rfl
set_option maxRecDepth 100000 in
theorem y168_330 : iv_f1 (iv_p 168) 330 = some (.inl (iv_oII fun x y => x + y)) := rfl
set_option maxRecDepth 100000 in
theorem y168_331 : iv_f1 (iv_p 168) 331 = some (.inl (iv_oK (.int (Int32.ofNat 48)) 2)) := rfl
set_option maxRecDepth 100000 in
theorem y168_333 : iv_f1 (iv_p 168) 333 = some (.inl (iv_oII fun x y => x - y)) := rfl
set_option maxRecDepth 100000 in
theorem y168_334 : iv_f1 (iv_p 168) 334 = some (.inl (iv_oPF 12 8 .int)) := rfl
set_option maxRecDepth 100000 in
theorem y168_337 : iv_f1 (iv_p 168) 337 = some (.inl (iv_oA 0 1)) := rfl
set_option maxRecDepth 100000 in
theorem y168_338 : iv_f1 (iv_p 168) 338 = some (.inl iv_oDup) := rfl
set_option maxRecDepth 100000 in
theorem y168_339 : iv_f1 (iv_p 168) 339 = some (.inl (iv_oGF 12 5)) := rfl
set_option maxRecDepth 100000 in
theorem y168_342 : iv_f1 (iv_p 168) 342 = some (.inl (iv_oK (.int (Int32.ofNat 1)) 1)) := rfl
set_option maxRecDepth 100000 in
theorem y168_343 : iv_f1 (iv_p 168) 343 = some (.inl (iv_oII fun x y => x + y)) := rfl
set_option maxRecDepth 100000 in
theorem y168_344 : iv_f1 (iv_p 168) 344 = some (.inl (iv_oPF 12 5 .int)) := rfl
set_option maxRecDepth 100000 in
theorem y168_347 : iv_f1 (iv_p 168) 347 = some (.inl (iv_oGo (-132))) := rfl
set_option maxRecDepth 100000 in
theorem y168_350 : iv_f1 (iv_p 168) 350 = some (.inl (iv_oA 0 1)) := rfl
set_option maxRecDepth 100000 in
theorem y168_351 : iv_f1 (iv_p 168) 351 = some (.inl (iv_oI 3 1)) := rfl
set_option maxRecDepth 100000 in
theorem y168_352 : iv_f1 (iv_p 168) 352 = some (.inl (iv_oIf .eq (25))) := rfl
set_option maxRecDepth 100000 in
theorem y168_355 : iv_f1 (iv_p 168) 355 = some (.inl (iv_oA 0 1)) := rfl
set_option maxRecDepth 100000 in
theorem y168_356 : iv_f1 (iv_p 168) 356 = some (.inl (iv_oGF 12 5)) := rfl
set_option maxRecDepth 100000 in
theorem y168_359 : iv_f1 (iv_p 168) 359 = some (.inl (iv_oA 0 1)) := rfl
set_option maxRecDepth 100000 in
theorem y168_360 : iv_f1 (iv_p 168) 360 = some (.inl (iv_oGF 12 6)) := rfl
set_option maxRecDepth 100000 in
theorem y168_363 : iv_f1 (iv_p 168) 363 = some (.inl (iv_oII fun x y => x - y)) := rfl
set_option maxRecDepth 100000 in
theorem y168_364 : iv_f1 (iv_p 168) 364 = some (.inl (iv_oI 2 1)) := rfl
set_option maxRecDepth 100000 in
theorem y168_365 : iv_f1 (iv_p 168) 365 = some (.inl (iv_oIf .eq (8))) := rfl
set_option maxRecDepth 100000 in
theorem y168_368 : iv_f1 (iv_p 168) 368 = some (.inl (iv_oK (.int (Int32.ofNat 7)) 2)) := rfl
set_option maxRecDepth 100000 in
theorem y168_370 : iv_f1 (iv_p 168) 370 = some (.inl (iv_oGo (4))) := rfl
set_option maxRecDepth 100000 in
theorem y168_373 : iv_f1 (iv_p 168) 373 = some (.inl (iv_oK (.int (Int32.ofNat 3)) 1)) := rfl
set_option maxRecDepth 100000 in
theorem y168_374 : iv_f1 (iv_p 168) 374 = some (.inl (iv_oIc .le (7))) := rfl
set_option maxRecDepth 100000 in
theorem y168_377 : iv_f1 (iv_p 168) 377 = some (.inl (iv_oK (.int (Int32.ofNat 1)) 1)) := rfl
set_option maxRecDepth 100000 in
theorem y168_378 : iv_f1 (iv_p 168) 378 = some (.inl (iv_oGo (12))) := rfl
set_option maxRecDepth 100000 in
theorem y168_381 : iv_f1 (iv_p 168) 381 = some (.inl (iv_oI 2 1)) := rfl
set_option maxRecDepth 100000 in
theorem y168_382 : iv_f1 (iv_p 168) 382 = some (.inl (iv_oIf .eq (7))) := rfl
set_option maxRecDepth 100000 in
theorem y168_385 : iv_f1 (iv_p 168) 385 = some (.inl (iv_oK (.int (Int32.ofNat 2)) 1)) := rfl
set_option maxRecDepth 100000 in
theorem y168_386 : iv_f1 (iv_p 168) 386 = some (.inl (iv_oGo (4))) := rfl
set_option maxRecDepth 100000 in
theorem y168_389 : iv_f1 (iv_p 168) 389 = some (.inl (iv_oK (.int (Int32.ofNat 3)) 1)) := rfl
set_option maxRecDepth 100000 in
theorem y168_390 : iv_f1 (iv_p 168) 390 = some (.inl (iv_oPF 12 7 .int)) := rfl
set_option maxRecDepth 100000 in
theorem y168_393 : iv_f1 (iv_p 168) 393 = some (.inr (.inl 0)) := rfl
theorem ym_go0 {L : Nat} {xs : Nat → Int32} {Post : Option Value → iv_H → Prop} {d : Nat} {lv : iv_L} {T : Nat → Nat} {n : Nat} (hn : n ≤ 940) (l0 : iv_f1 lv 0 = some (.ref 548)) : ∀ (j p : Nat) (σ : iv_H) (V : Nat → Value), n - p = j → p ≤ 940 → iv_get σ 548 = some (yob 12 49 V) → iv_get σ 550 = some (yai 940 (ytp T)) → V 1 = .ref 550 → V 3 = .int (Int32.ofNat n) → V 5 = .int (Int32.ofNat p) → (∀ i, T i ≤ 255) → (∀ σ1 V1, iv_get σ1 548 = some (yob 12 49 V1) → V1 5 = .int (Int32.ofNat (ysk T n p)) → yAg [5] V V1 → yFr [548] σ σ1 → zGo L xs Post [] d 168 52 lv [] σ1) → zGo L xs Post [] d 168 0 lv [] σ := by
  intro j
  induction j using Nat.strongRecOn with
  | _ j ih =>
  intro p σ V hj hp g gt v1 v3 v5 hT K
  refine w_A y168_0 l0 ?_
  refine y_gf y168_1 g rfl v5 ?_
  refine w_A y168_4 l0 ?_
  refine y_gf y168_5 g rfl v3 ?_
  by_cases c9 : p ≥ n
  · skip
    refine y_icT y168_8 rfl (by omega) (by omega) (by simp only [zch]; omega) ?_
    have e : ysk T n p = p := ysk_e (fun h => by have h2 := h.2; unfold ysB at h2; have h3 := of_decide_eq_true h2; omega)
    exact K σ V g (by rw [e]; exact v5) yA_rf yF_rf
  · skip
    refine y_icF y168_8 rfl (by omega) (by omega) (by simp only [zch]; omega) ?_
    refine w_A y168_11 l0 ?_
    refine y_gf y168_12 g rfl v1 ?_
    refine w_A y168_15 l0 ?_
    refine y_gf y168_16 g rfl v5 ?_
    refine y_il y168_19 gt rfl rfl (by omega) (by decide) ?_
    have t10 := hT p
    refine w_K y168_20 ?_
    by_cases c11 : T p = 32
    · skip
      refine y_icT y168_22 rfl (by omega) (by omega) (by simp only [zch]; omega) ?_
      refine w_A y168_39 l0 ?_
      refine y_dup y168_40 rfl ?_
      refine y_gf y168_41 g rfl v5 ?_
      refine w_K y168_44 ?_
      refine w_add y168_45 ?_
      refine y_pf y168_46 g rfl rfl ?_
      intro σ13 h12
      refine w_go y168_49 rfl ?_
      have e : ysk T n p = ysk T n (p + 1) := ysk_s (by omega) (by unfold ysB; exact decide_eq_true (by omega))
      have g14 := (mD_n h12 (by decide) gt)
      exact ih (n - (p + 1)) (by omega) (p + 1) _ _ rfl (by omega) h12.2.1 g14 v1 v3 rfl hT (fun σ1 V1 k1 k2 k3 k4 => K σ1 V1 k1 (by rw [e]; exact k2) (yA_tr (yA_u (j := 5) (by rfl)) k3) (yF_tr (yF_D h12 (by rfl)) k4))
    · skip
      refine y_icF y168_22 rfl (by omega) (by omega) (by simp only [zch]; omega) ?_
      refine w_A y168_25 l0 ?_
      refine y_gf y168_26 g rfl v1 ?_
      refine w_A y168_29 l0 ?_
      refine y_gf y168_30 g rfl v5 ?_
      refine y_il y168_33 gt rfl rfl (by omega) (by decide) ?_
      have t15 := hT p
      refine w_K y168_34 ?_
      by_cases c16 : T p ≠ 10
      · skip
        refine y_icT y168_36 rfl (by omega) (by omega) (by simp only [zch]; omega) ?_
        have e : ysk T n p = p := ysk_e (fun h => by have h2 := h.2; unfold ysB at h2; have h3 := of_decide_eq_true h2; omega)
        exact K σ V g (by rw [e]; exact v5) yA_rf yF_rf
      · skip
        refine y_icF y168_36 rfl (by omega) (by omega) (by simp only [zch]; omega) ?_
        refine w_A y168_39 l0 ?_
        refine y_dup y168_40 rfl ?_
        refine y_gf y168_41 g rfl v5 ?_
        refine w_K y168_44 ?_
        refine w_add y168_45 ?_
        refine y_pf y168_46 g rfl rfl ?_
        intro σ18 h17
        refine w_go y168_49 rfl ?_
        have e : ysk T n p = ysk T n (p + 1) := ysk_s (by omega) (by unfold ysB; exact decide_eq_true (by omega))
        have g19 := (mD_n h17 (by decide) gt)
        exact ih (n - (p + 1)) (by omega) (p + 1) _ _ rfl (by omega) h17.2.1 g19 v1 v3 rfl hT (fun σ1 V1 k1 k2 k3 k4 => K σ1 V1 k1 (by rw [e]; exact k2) (yA_tr (yA_u (j := 5) (by rfl)) k3) (yF_tr (yF_D h17 (by rfl)) k4))
theorem ym_go2 {L : Nat} {xs : Nat → Int32} {Post : Option Value → iv_H → Prop} {d : Nat} {T : Nat → Nat} {n s : Nat} {b : Bool} (hn : n ≤ 940) (hT : ∀ i, T i ≤ 255) : ∀ (j k : Nat) (σ : iv_H) (V : Nat → Value) (lv : iv_L), n - (s + k) = j → s + k ≤ n → yre T n s = yre T n (s + k) → iv_get σ 548 = some (yob 12 49 V) → iv_get σ 550 = some (yai 940 (ytp T)) → V 1 = .ref 550 → V 3 = .int (Int32.ofNat n) → V 5 = .int (Int32.ofNat (s + k)) → V 6 = .int (Int32.ofNat s) → V 12 = .long (yw T s k) → V 8 = .int (yn T s k) → iv_f1 lv 0 = some (.ref 548) → iv_f1 lv 2 = some (.int (yb b)) → iv_f1 lv 3 = some (.int (yb (ygd T b s k))) → (∀ σ1 V1 lv1 k1, yre T n s = s + k1 → s + k1 ≤ n → iv_get σ1 548 = some (yob 12 49 V1) → V1 5 = .int (Int32.ofNat (s + k1)) → V1 12 = .long (yw T s k1) → V1 8 = .int (yn T s k1) → yAg [5, 8, 12] V V1 → yFr [548] σ σ1 → iv_f1 lv1 0 = some (.ref 548) → iv_f1 lv1 2 = some (.int (yb b)) → iv_f1 lv1 3 = some (.int (yb (ygd T b s k1))) → zGo L xs Post [] (d + 1) 168 350 lv1 [] σ1) → zGo L xs Post [] (d + 1) 168 215 lv [] σ := by
  intro j
  induction j using Nat.strongRecOn with
  | _ j ih =>
  intro k σ V lv hj hs hr g gt v1 v3 v5 v6 v12 v8 l0 l2 l3 K
  have j337 : ∀ (σ1 : iv_H) (V1 : Nat → Value) (lv1 : iv_L), s + k < n → ysA (T (s + k)) = true → iv_get σ1 548 = some (yob 12 49 V1) → V1 12 = .long (yw T s (k + 1)) → V1 8 = .int (yn T s (k + 1)) → yAg [8, 12] V V1 → yFr [548] σ σ1 → iv_f1 lv1 0 = some (.ref 548) → iv_f1 lv1 2 = some (.int (yb b)) → iv_f1 lv1 3 = some (.int (yb (ygd T b s (k + 1)))) → zGo L xs Post [] (d + 1) 168 337 lv1 [] σ1 := by
    intro σ1 V1 lv1 hk ha g1 u12 u8 a1 f1 m0 m2 m3
    have z1 := yA_f a1 (by rfl) v1
    have z3 := yA_f a1 (by rfl) v3
    have z5 := yA_f a1 (by rfl) v5
    have z6 := yA_f a1 (by rfl) v6
    refine w_A y168_337 m0 ?_
    refine y_dup y168_338 rfl ?_
    refine y_gf y168_339 g1 rfl z5 ?_
    refine w_K y168_342 ?_
    refine w_add y168_343 ?_
    refine y_pf y168_344 g1 rfl rfl ?_
    intro σ21 h20
    refine w_go y168_347 rfl ?_
    exact ih (n - (s + (k + 1))) (by omega) (k + 1) _ _ lv1 rfl (by omega) (hr.trans (yre_s hk ha)) h20.2.1 (yF_n (yF_tr f1 (yF_D h20 (by rfl))) (by rfl) gt) z1 z3 rfl z6 u12 u8 m0 m2 m3 (fun σ2 V2 lv2 k2 q1 q2 q3 q4 q5 q6 q7 q8 q9 q10 q11 => K σ2 V2 lv2 k2 q1 q2 q3 q4 q5 q6 (yA_tr (yA_sub (by rfl) a1) (yA_tr (yA_u (j := 5) (by rfl)) q7)) (yF_tr f1 (yF_tr (yF_D h20 (by rfl)) q8)) q9 q10 q11)
  have j307 : ∀ (σ1 : iv_H) (V1 : Nat → Value) (lv1 : iv_L), s + k < n → ysA (T (s + k)) = true → iv_get σ1 548 = some (yob 12 49 V1) → V1 12 = .long (yw T s (k + 1)) → yAg [12] V V1 → yFr [548] σ σ1 → iv_f1 lv1 0 = some (.ref 548) → iv_f1 lv1 2 = some (.int (yb b)) → iv_f1 lv1 3 = some (.int (yb (ygd T b s (k + 1)))) → iv_f1 lv1 4 = some (.int (Int32.ofNat (T (s + k)))) → zGo L xs Post [] (d + 1) 168 307 lv1 [] σ1 := by
    intro σ1 V1 lv1 hk ha g1 u12 a1 f1 m0 m2 m3 m4
    have z5 := yA_f a1 (by rfl) v5
    have z6 := yA_f a1 (by rfl) v6
    have z8 := yA_f a1 (by rfl) v8
    refine w_A y168_307 m0 ?_
    refine y_gf y168_308 g1 rfl z5 ?_
    refine w_A y168_311 m0 ?_
    refine y_gf y168_312 g1 rfl z6 ?_
    refine y_sub y168_315 (by omega) (by omega) ?_
    refine w_K y168_316 ?_
    by_cases c22 : (s + k) - s ≥ 3
    · skip
      refine y_icT y168_317 rfl (by omega) (by omega) (by simp only [zch]; omega) ?_
      exact j337 _ _ lv1 hk ha g1 u12 (by show _ = Value.int (if k < 3 then _ else _); rw [if_neg (by omega)]; exact z8) (yA_sub (by rfl) a1) f1 m0 m2 m3
    · skip
      refine y_icF y168_317 rfl (by omega) (by omega) (by simp only [zch]; omega) ?_
      refine w_A y168_320 m0 ?_
      refine w_K y168_321 ?_
      refine w_A y168_323 m0 ?_
      refine y_gf y168_324 g1 rfl z8 ?_
      refine y_II y168_327 ?_
      refine w_I y168_328 m4 ?_
      refine y_II y168_330 ?_
      refine w_K y168_331 ?_
      refine y_II y168_333 ?_
      refine y_pf y168_334 g1 rfl rfl ?_
      intro σ24 h23
      exact j337 _ _ lv1 hk ha h23.2.1 u12 (by show _ = Value.int (if k < 3 then _ else _); rw [if_pos (by omega)]; rfl) (yA_tr (yA_sub (by rfl) a1) (yA_u (j := 8) (by rfl))) (yF_tr f1 (yF_D h23 (by rfl))) m0 m2 m3
  have j273 : ∀ (lv1 : iv_L), s + k < n → ysA (T (s + k)) = true → iv_f1 lv1 0 = some (.ref 548) → iv_f1 lv1 2 = some (.int (yb b)) → iv_f1 lv1 3 = some (.int (yb (ygd T b s (k + 1)))) → iv_f1 lv1 4 = some (.int (Int32.ofNat (T (s + k)))) → zGo L xs Post [] (d + 1) 168 273 lv1 [] σ := by
    intro lv1 hk ha m0 m2 m3 m4
    refine w_A y168_273 m0 ?_
    refine y_gf y168_274 g rfl v5 ?_
    refine w_A y168_277 m0 ?_
    refine y_gf y168_278 g rfl v6 ?_
    refine y_sub y168_281 (by omega) (by omega) ?_
    refine w_K y168_282 ?_
    by_cases c25 : (s + k) - s ≥ 7
    · skip
      refine y_icT y168_284 rfl (by omega) (by omega) (by simp only [zch]; omega) ?_
      exact j307 _ _ lv1 hk ha g (by show _ = Value.long (if k < 7 then _ else _); rw [if_neg (by omega)]; exact v12) yA_rf yF_rf m0 m2 m3 m4
    · skip
      refine y_icF y168_284 rfl (by omega) (by omega) (by simp only [zch]; omega) ?_
      refine w_A y168_287 m0 ?_
      refine w_K y168_288 ?_
      refine w_A y168_291 m0 ?_
      refine y_gf y168_292 g rfl v12 ?_
      refine y_JJ y168_295 ?_
      refine w_I y168_296 m4 ?_
      refine y_UI y168_298 ?_
      refine y_JJ y168_299 ?_
      refine w_K y168_300 ?_
      refine y_JJ y168_303 ?_
      refine y_pf y168_304 g rfl rfl ?_
      intro σ27 h26
      exact j307 _ _ lv1 hk ha h26.2.1 (by show _ = Value.long (if k < 7 then _ else _); rw [if_pos (by omega)]; rfl) (yA_u (j := 12) (by rfl)) (yF_D h26 (by rfl)) m0 m2 m3 m4
  have j243 : s + k < n → ysA (T (s + k)) = true → zGo L xs Post [] (d + 1) 168 243 lv [] σ := by
    intro hk ha
    refine w_A y168_243 l0 ?_
    refine y_gf y168_244 g rfl v1 ?_
    refine w_A y168_247 l0 ?_
    refine y_gf y168_248 g rfl v5 ?_
    refine y_il y168_251 gt rfl rfl (by omega) (by decide) ?_
    have t28 := hT (s + k)
    refine w_IS y168_252 ?_
    refine w_I y168_254 (y_l1 rfl rfl l3) ?_
    rcases y_bc (ygd T b s k) with b29 | b29
    · skip
      refine w_ifT y168_255 rfl (y_beqT b29) ?_
      refine w_K y168_271 ?_
      refine w_IS y168_272 ?_
      exact j273 _ hk ha (y_l1 rfl rfl (y_l1 rfl rfl l0)) (y_l1 rfl rfl (y_l1 rfl rfl l2)) (by rw [show ygd T b s (k + 1) = (ygd T b s k && (ysL (T (s + k)) == b)) from rfl, b29, Bool.false_and]; exact y_l0) (y_l1 rfl rfl y_l0)
    · skip
      refine w_ifF y168_255 rfl (y_beqF b29) ?_
      refine w_I y168_258 y_l0 ?_
      refine y_call y168_260 (y_args4 rfl rfl) rfl (ym_lt (hT _)) ?_
      refine w_I y168_263 (y_l1 rfl rfl l2) ?_
      rcases y_bc (ysL (T (s + k)) == b) with e31 | e31
      · skip
        refine w_icT y168_264 rfl (by rw [y_bb, e31]; rfl) ?_
        refine w_K y168_271 ?_
        refine w_IS y168_272 ?_
        exact j273 _ hk ha (y_l1 rfl rfl (y_l1 rfl rfl l0)) (y_l1 rfl rfl (y_l1 rfl rfl l2)) (by rw [show ygd T b s (k + 1) = (ygd T b s k && (ysL (T (s + k)) == b)) from rfl, b29, e31, Bool.true_and]; exact y_l0) (y_l1 rfl rfl y_l0)
      · skip
        refine w_icF y168_264 rfl (by rw [y_bb, e31]; rfl) ?_
        refine w_K y168_267 ?_
        refine w_go y168_268 rfl ?_
        refine w_IS y168_272 ?_
        exact j273 _ hk ha (y_l1 rfl rfl (y_l1 rfl rfl l0)) (y_l1 rfl rfl (y_l1 rfl rfl l2)) (by rw [show ygd T b s (k + 1) = (ygd T b s k && (ysL (T (s + k)) == b)) from rfl, b29, e31, Bool.true_and]; exact y_l0) (y_l1 rfl rfl y_l0)
  refine w_A y168_215 l0 ?_
  refine w_A y168_216 l0 ?_
  refine y_gf y168_217 g rfl v5 ?_
  refine y_call y168_220 (y_args6 g rfl rfl) rfl (ym_at hn (by omega) g gt hT v1 v3) ?_
  refine y_call y168_223 (y_args4 rfl rfl) rfl (ym_lt (y_atb hT)) ?_
  rcases y_bc (ysL (yat T n (s + k))) with b33 | b33
  · skip
    refine w_ifF y168_226 rfl (y_bneF b33) ?_
    refine w_A y168_229 l0 ?_
    refine w_A y168_230 l0 ?_
    refine y_gf y168_231 g rfl v5 ?_
    refine y_call y168_234 (y_args6 g rfl rfl) rfl (ym_at hn (by omega) g gt hT v1 v3) ?_
    refine y_call y168_237 (y_args4 rfl rfl) rfl (ym_dg (y_atb hT)) ?_
    rcases y_bc (ysD (yat T n (s + k))) with b35 | b35
    · skip
      refine w_ifT y168_240 rfl (y_beqT b35) ?_
      exact K σ V lv k (hr.trans (yre_e (y_atN b33 b35))) hs g v5 v12 v8 yA_rf yF_rf l0 l2 l3
    · skip
      refine w_ifF y168_240 rfl (y_beqF b35) ?_
      exact j243 (y_atD b35).1 (by unfold ysA; rw [(y_atD b35).2, Bool.or_true])
  · skip
    refine w_ifT y168_226 rfl (y_bneT b33) ?_
    exact j243 (y_atL b33).1 (by unfold ysA; rw [(y_atL b33).2]; rfl)
theorem ym_go {L : Nat} {xs : Nat → Int32} {d : Nat} {σ : iv_H} {V : Nat → Value} {T : Nat → Nat} {n m p : Nat} (hd : 1 ≤ d) (hn : n ≤ 940) (hm : m ≤ 940) (hp : p ≤ 940) (hT : ∀ i, T i ≤ 255) (g : iv_get σ 548 = some (yob 12 49 V)) (gt : iv_get σ 550 = some (yai 940 (ytp T))) (v1 : V 1 = .ref 550) (v3 : V 3 = .int (Int32.ofNat n)) (v4 : V 4 = .int (Int32.ofNat m)) (v5 : V 5 = .int (Int32.ofNat p)) (ty : yTy V) : ∃ σ1, iv_Rn L xs d 168 0 (lv_args 0 [.ref 548]) [] σ none σ1 ∧ ∃ V1, iv_get σ1 548 = some (yob 12 49 V1) ∧ yAg [5, 6, 7, 8, 9, 12] V V1 ∧ yFr [548] σ σ1 ∧ yTy V1 ∧ yTk T n m p V1 := by
  obtain ⟨⟨w0, v12⟩, ⟨x8, v8⟩, x9, v9⟩ := ty
  obtain ⟨d, rfl⟩ : ∃ e, d = e + 1 := ⟨d - 1, by omega⟩
  refine y_R0 ?_
  refine ym_go0 hn rfl (n - p) p σ V rfl hp g gt v1 v3 v5 hT ?_
  intro σ1 V1 g1 u5 a1 f1
  have gt1 := yF_n f1 (by rfl) gt
  have hsk : ysk T n p ≤ 940 := by
    by_cases h : p ≤ n
    · have := ysk_le (T := T) h
      omega
    · rw [ysk_e (fun h2 => by omega)]
      exact hp
  generalize hs : ysk T n p = s at u5 hsk
  have z1 := yA_f a1 (by rfl) v1
  have z3 := yA_f a1 (by rfl) v3
  have z4 := yA_f a1 (by rfl) v4
  have z12 := yA_f a1 (by rfl) v12
  have z8 := yA_f a1 (by rfl) v8
  have z9 := yA_f a1 (by rfl) v9
  have j198 : ∀ (σ2 : iv_H) (V2 : Nat → Value) (lv2 : iv_L), ysA (T s) = true → s < n → ¬ (m < n ∧ m ≤ s) → iv_get σ2 548 = some (yob 12 49 V2) → yAg [6] V1 V2 → yFr [548] σ1 σ2 → V2 5 = .int (Int32.ofNat s) → V2 6 = .int (Int32.ofNat s) → iv_f1 lv2 0 = some (.ref 548) → iv_f1 lv2 1 = some (.int (Int32.ofNat (T s))) → zGo L xs (fun r σ9 => r = none ∧ ∃ V9, iv_get σ9 548 = some (yob 12 49 V9) ∧ yAg [5, 6, 7, 8, 9, 12] V V9 ∧ yFr [548] σ σ9 ∧ yTy V9 ∧ yTk T n m p V9) [] (d + 1) 168 198 lv2 [] σ2 := by
    intro σ2 V2 lv2 ha hsn hnm g2 a2 f2 u25 u26 m0 m1
    have x1 := yA_f a2 (by rfl) z1
    have x3 := yA_f a2 (by rfl) z3
    refine w_I y168_198 m1 ?_
    refine y_call y168_199 (y_args4 rfl rfl) rfl (ym_lt (hT _)) ?_
    refine w_IS y168_202 ?_
    refine w_K y168_203 ?_
    refine w_IS y168_204 ?_
    refine w_A y168_205 (y_l1 rfl rfl (y_l1 rfl rfl m0)) ?_
    refine w_K y168_206 ?_
    refine y_pf y168_207 g2 rfl rfl ?_
    intro σ38 h37
    refine w_A y168_210 (y_l1 rfl rfl (y_l1 rfl rfl m0)) ?_
    refine w_K y168_211 ?_
    refine y_pf y168_212 h37.2.1 rfl rfl ?_
    intro σ40 h39
    have g41 := (mD_n h39 (by decide) (mD_n h37 (by decide) (yF_n f2 (by rfl) gt1)))
    refine ym_go2 (s := s) (b := ysL (T s)) hn hT (n - (s + 0)) 0 _ _ _ rfl (by omega) rfl h39.2.1 g41 x1 x3 u25 u26 rfl rfl (y_l1 rfl rfl (y_l1 rfl rfl m0)) (y_l1 rfl rfl y_l0) y_l0 ?_
    intro σ3 V3 lv3 k hk hkn g3 w5 w12 w8 a3 f3 n0 n2 n3
    have x6 : V3 6 = .int (Int32.ofNat s) := (a3 6 (by rfl)).trans u26
    have x9b : V3 9 = .int x9 := (a3 9 (by rfl)).trans ((a2 9 (by rfl)).trans z9)
    have hkl : yln T n p = k := by unfold yln; rw [hs]; omega
    have ag3 := yA_tr (S := [5, 6, 7, 8, 9, 12]) (yA_sub (by rfl) a1) (yA_tr (yA_sub (by rfl) a2) (yA_tr (yA_tr (yA_u (j := 12) (by rfl)) (yA_u (j := 8) (by rfl))) (yA_sub (by rfl) a3)))
    have fr3 := yF_tr f1 (yF_tr f2 (yF_tr (yF_tr (yF_D h37 (by rfl)) (yF_D h39 (by rfl))) f3))
    refine w_A y168_350 n0 ?_
    refine w_I y168_351 n3 ?_
    rcases y_bc (ygd T (ysL (T s)) s k) with b42 | b42
    · skip
      refine w_ifT y168_352 rfl (y_beqT b42) ?_
      refine w_K y168_377 ?_
      refine w_go y168_378 rfl ?_
      refine y_pf y168_390 g3 rfl rfl ?_
      intro σ44 h43
      have hw : ykw T n p = 1 := ykw_1g hkl hs b42
      refine w_ret0 y168_393 ⟨rfl, _, h43.2.1, (yA_tr ag3 (yA_u (j := 7) (by rfl))), (yF_tr fr3 (yF_D h43 (by rfl))), ⟨⟨_, w12⟩, ⟨_, w8⟩, _, x9b⟩, (show yTok T n m p _ from ⟨?_, ?_, ?_, ?_, ?_, ?_⟩)⟩
      · rw [yto, hs, if_neg hnm, if_neg (by omega), if_pos ha, hk]; exact w5
      · rw [yfm, hs, if_neg hnm]; exact x6
      · rw [ykd, hs, if_neg hnm, if_neg (by omega), if_pos ha, hw]; exact rfl
      · intro _; rw [hs, hkl]; exact w12
      · intro _; rw [hs, hkl]; exact w8
      · intro h; rw [ykd, hs, if_neg hnm, if_neg (by omega), if_pos ha, hw] at h; exact absurd h (by decide)
    · skip
      refine w_ifF y168_352 rfl (y_beqF b42) ?_
      refine w_A y168_355 n0 ?_
      refine y_gf y168_356 g3 rfl w5 ?_
      refine w_A y168_359 n0 ?_
      refine y_gf y168_360 g3 rfl x6 ?_
      refine y_sub y168_363 (by omega) (by omega) ?_
      refine w_I y168_364 n2 ?_
      rcases y_bc (ysL (T s)) with b45 | b45
      · skip
        refine w_ifT y168_365 rfl (y_beqT b45) ?_
        refine w_K y168_373 ?_
        by_cases c46 : (s + k) - s ≤ 3
        · skip
          refine y_icT y168_374 rfl (by omega) (by omega) (by simp only [zch]; omega) ?_
          refine w_I y168_381 n2 ?_
          refine w_ifT y168_382 rfl (y_beqT b45) ?_
          refine w_K y168_389 ?_
          refine y_pf y168_390 g3 rfl rfl ?_
          intro σ48 h47
          have hw : ykw T n p = 3 := ykw_3 hkl hs b42 b45 (by omega)
          refine w_ret0 y168_393 ⟨rfl, _, h47.2.1, (yA_tr ag3 (yA_u (j := 7) (by rfl))), (yF_tr fr3 (yF_D h47 (by rfl))), ⟨⟨_, w12⟩, ⟨_, w8⟩, _, x9b⟩, (show yTok T n m p _ from ⟨?_, ?_, ?_, ?_, ?_, ?_⟩)⟩
          · rw [yto, hs, if_neg hnm, if_neg (by omega), if_pos ha, hk]; exact w5
          · rw [yfm, hs, if_neg hnm]; exact x6
          · rw [ykd, hs, if_neg hnm, if_neg (by omega), if_pos ha, hw]; exact rfl
          · intro _; rw [hs, hkl]; exact w12
          · intro _; rw [hs, hkl]; exact w8
          · intro h; rw [ykd, hs, if_neg hnm, if_neg (by omega), if_pos ha, hw] at h; exact absurd h (by decide)
        · skip
          refine y_icF y168_374 rfl (by omega) (by omega) (by simp only [zch]; omega) ?_
          refine w_K y168_377 ?_
          refine w_go y168_378 rfl ?_
          refine y_pf y168_390 g3 rfl rfl ?_
          intro σ50 h49
          have hw : ykw T n p = 1 := ykw_1d hkl hs b45 (by omega)
          refine w_ret0 y168_393 ⟨rfl, _, h49.2.1, (yA_tr ag3 (yA_u (j := 7) (by rfl))), (yF_tr fr3 (yF_D h49 (by rfl))), ⟨⟨_, w12⟩, ⟨_, w8⟩, _, x9b⟩, (show yTok T n m p _ from ⟨?_, ?_, ?_, ?_, ?_, ?_⟩)⟩
          · rw [yto, hs, if_neg hnm, if_neg (by omega), if_pos ha, hk]; exact w5
          · rw [yfm, hs, if_neg hnm]; exact x6
          · rw [ykd, hs, if_neg hnm, if_neg (by omega), if_pos ha, hw]; exact rfl
          · intro _; rw [hs, hkl]; exact w12
          · intro _; rw [hs, hkl]; exact w8
          · intro h; rw [ykd, hs, if_neg hnm, if_neg (by omega), if_pos ha, hw] at h; exact absurd h (by decide)
      · skip
        refine w_ifF y168_365 rfl (y_beqF b45) ?_
        refine w_K y168_368 ?_
        refine w_go y168_370 rfl ?_
        by_cases c51 : (s + k) - s ≤ 7
        · skip
          refine y_icT y168_374 rfl (by omega) (by omega) (by simp only [zch]; omega) ?_
          refine w_I y168_381 n2 ?_
          refine w_ifF y168_382 rfl (y_beqF b45) ?_
          refine w_K y168_385 ?_
          refine w_go y168_386 rfl ?_
          refine y_pf y168_390 g3 rfl rfl ?_
          intro σ53 h52
          have hw : ykw T n p = 2 := ykw_2 hkl hs b42 b45 (by omega)
          refine w_ret0 y168_393 ⟨rfl, _, h52.2.1, (yA_tr ag3 (yA_u (j := 7) (by rfl))), (yF_tr fr3 (yF_D h52 (by rfl))), ⟨⟨_, w12⟩, ⟨_, w8⟩, _, x9b⟩, (show yTok T n m p _ from ⟨?_, ?_, ?_, ?_, ?_, ?_⟩)⟩
          · rw [yto, hs, if_neg hnm, if_neg (by omega), if_pos ha, hk]; exact w5
          · rw [yfm, hs, if_neg hnm]; exact x6
          · rw [ykd, hs, if_neg hnm, if_neg (by omega), if_pos ha, hw]; exact rfl
          · intro _; rw [hs, hkl]; exact w12
          · intro _; rw [hs, hkl]; exact w8
          · intro h; rw [ykd, hs, if_neg hnm, if_neg (by omega), if_pos ha, hw] at h; exact absurd h (by decide)
        · skip
          refine y_icF y168_374 rfl (by omega) (by omega) (by simp only [zch]; omega) ?_
          refine w_K y168_377 ?_
          refine w_go y168_378 rfl ?_
          refine y_pf y168_390 g3 rfl rfl ?_
          intro σ55 h54
          have hw : ykw T n p = 1 := ykw_1l hkl hs b45 (by omega)
          refine w_ret0 y168_393 ⟨rfl, _, h54.2.1, (yA_tr ag3 (yA_u (j := 7) (by rfl))), (yF_tr fr3 (yF_D h54 (by rfl))), ⟨⟨_, w12⟩, ⟨_, w8⟩, _, x9b⟩, (show yTok T n m p _ from ⟨?_, ?_, ?_, ?_, ?_, ?_⟩)⟩
          · rw [yto, hs, if_neg hnm, if_neg (by omega), if_pos ha, hk]; exact w5
          · rw [yfm, hs, if_neg hnm]; exact x6
          · rw [ykd, hs, if_neg hnm, if_neg (by omega), if_pos ha, hw]; exact rfl
          · intro _; rw [hs, hkl]; exact w12
          · intro _; rw [hs, hkl]; exact w8
          · intro h; rw [ykd, hs, if_neg hnm, if_neg (by omega), if_pos ha, hw] at h; exact absurd h (by decide)
  refine w_A y168_52 rfl ?_
  refine w_A y168_53 rfl ?_
  refine y_gf y168_54 g1 rfl u5 ?_
  refine y_pf y168_57 g1 rfl rfl ?_
  intro σ57 h56
  refine w_A y168_60 rfl ?_
  refine y_gf y168_61 h56.2.1 rfl z3 ?_
  refine w_A y168_64 rfl ?_
  refine y_gf y168_65 h56.2.1 rfl z4 ?_
  by_cases c58 : n ≤ m
  · skip
    refine y_icT y168_68 rfl (by omega) (by omega) (by simp only [zch]; omega) ?_
    refine w_A y168_96 rfl ?_
    refine y_gf y168_97 h56.2.1 rfl u5 ?_
    refine w_A y168_100 rfl ?_
    refine y_gf y168_101 h56.2.1 rfl z3 ?_
    by_cases c59 : s < n
    · skip
      refine y_icT y168_104 rfl (by omega) (by omega) (by simp only [zch]; omega) ?_
      refine w_A y168_113 rfl ?_
      refine y_gf y168_114 h56.2.1 rfl z1 ?_
      refine w_A y168_117 rfl ?_
      refine y_gf y168_118 h56.2.1 rfl u5 ?_
      have g60 := (mD_n h56 (by decide) gt1)
      refine y_il y168_121 g60 rfl rfl (by omega) (by decide) ?_
      have t61 := hT s
      refine w_IS y168_122 ?_
      refine w_I y168_123 rfl ?_
      refine y_call y168_124 (y_args4 rfl rfl) rfl (ym_lt (hT _)) ?_
      rcases y_bc (ysL (T s)) with b63 | b63
      · skip
        refine w_ifF y168_127 rfl (y_bneF b63) ?_
        refine w_I y168_130 rfl ?_
        refine y_call y168_131 (y_args4 rfl rfl) rfl (ym_dg (hT _)) ?_
        rcases y_bc (ysD (T s)) with b65 | b65
        · skip
          refine w_ifF y168_134 rfl (y_bneF b65) ?_
          refine w_A y168_137 rfl ?_
          refine w_I y168_138 rfl ?_
          refine w_K y168_139 ?_
          by_cases c66 : T s = 59
          · skip
            refine y_icT y168_141 rfl (by omega) (by omega) (by simp only [zch]; omega) ?_
            refine w_K y168_174 ?_
            refine w_go y168_175 rfl ?_
            refine y_pf y168_179 h56.2.1 rfl rfl ?_
            intro σ68 h67
            refine w_A y168_182 rfl ?_
            refine w_I y168_183 rfl ?_
            refine y_pf y168_184 h67.2.1 rfl rfl ?_
            intro σ70 h69
            refine w_A y168_187 rfl ?_
            refine y_dup y168_188 rfl ?_
            refine y_gf y168_189 h69.2.1 rfl u5 ?_
            refine w_K y168_192 ?_
            refine w_add y168_193 ?_
            refine y_pf y168_194 h69.2.1 rfl rfl ?_
            intro σ72 h71
            have ha : ¬ ysA (T s) = true := by unfold ysA; rw [b63, b65]; decide
            have hm2 : ysM (T s) = true := by unfold ysM; exact decide_eq_true (by omega)
            refine w_ret0 y168_197 ⟨rfl, _, h71.2.1, (yA_tr (yA_sub (by rfl) a1) (yA_tr (yA_u (j := 6) (by rfl)) (yA_tr (yA_u (j := 7) (by rfl)) (yA_tr (yA_u (j := 9) (by rfl)) (yA_u (j := 5) (by rfl)))))), (yF_tr f1 (yF_tr (yF_D h56 (by rfl)) (yF_tr (yF_D h67 (by rfl)) (yF_tr (yF_D h69 (by rfl)) (yF_D h71 (by rfl)))))), ⟨⟨_, z12⟩, ⟨_, z8⟩, _, rfl⟩, (show yTok T n m p _ from ⟨?_, ?_, ?_, ?_, ?_, ?_⟩)⟩
            · rw [yto, hs, if_neg (fun h => by omega), if_neg (by omega), if_neg ha]; exact rfl
            · rw [yfm, hs, if_neg (fun h => by omega)]; exact rfl
            · rw [ykd, hs, if_neg (fun h => by omega), if_neg (by omega), if_neg ha, if_pos hm2]; exact rfl
            · intro h; rw [ykd, hs, if_neg (fun h => by omega), if_neg (by omega), if_neg ha, if_pos hm2] at h; exact absurd h (by decide)
            · intro h; rw [ykd, hs, if_neg (fun h => by omega), if_neg (by omega), if_neg ha, if_pos hm2] at h; exact absurd h (by decide)
            · intro _; rw [hs]; exact rfl
          · skip
            refine y_icF y168_141 rfl (by omega) (by omega) (by simp only [zch]; omega) ?_
            refine w_I y168_144 rfl ?_
            refine w_K y168_145 ?_
            by_cases c73 : T s = 60
            · skip
              refine y_icT y168_147 rfl (by omega) (by omega) (by simp only [zch]; omega) ?_
              refine w_K y168_174 ?_
              refine w_go y168_175 rfl ?_
              refine y_pf y168_179 h56.2.1 rfl rfl ?_
              intro σ75 h74
              refine w_A y168_182 rfl ?_
              refine w_I y168_183 rfl ?_
              refine y_pf y168_184 h74.2.1 rfl rfl ?_
              intro σ77 h76
              refine w_A y168_187 rfl ?_
              refine y_dup y168_188 rfl ?_
              refine y_gf y168_189 h76.2.1 rfl u5 ?_
              refine w_K y168_192 ?_
              refine w_add y168_193 ?_
              refine y_pf y168_194 h76.2.1 rfl rfl ?_
              intro σ79 h78
              have ha : ¬ ysA (T s) = true := by unfold ysA; rw [b63, b65]; decide
              have hm2 : ysM (T s) = true := by unfold ysM; exact decide_eq_true (by omega)
              refine w_ret0 y168_197 ⟨rfl, _, h78.2.1, (yA_tr (yA_sub (by rfl) a1) (yA_tr (yA_u (j := 6) (by rfl)) (yA_tr (yA_u (j := 7) (by rfl)) (yA_tr (yA_u (j := 9) (by rfl)) (yA_u (j := 5) (by rfl)))))), (yF_tr f1 (yF_tr (yF_D h56 (by rfl)) (yF_tr (yF_D h74 (by rfl)) (yF_tr (yF_D h76 (by rfl)) (yF_D h78 (by rfl)))))), ⟨⟨_, z12⟩, ⟨_, z8⟩, _, rfl⟩, (show yTok T n m p _ from ⟨?_, ?_, ?_, ?_, ?_, ?_⟩)⟩
              · rw [yto, hs, if_neg (fun h => by omega), if_neg (by omega), if_neg ha]; exact rfl
              · rw [yfm, hs, if_neg (fun h => by omega)]; exact rfl
              · rw [ykd, hs, if_neg (fun h => by omega), if_neg (by omega), if_neg ha, if_pos hm2]; exact rfl
              · intro h; rw [ykd, hs, if_neg (fun h => by omega), if_neg (by omega), if_neg ha, if_pos hm2] at h; exact absurd h (by decide)
              · intro h; rw [ykd, hs, if_neg (fun h => by omega), if_neg (by omega), if_neg ha, if_pos hm2] at h; exact absurd h (by decide)
              · intro _; rw [hs]; exact rfl
            · skip
              refine y_icF y168_147 rfl (by omega) (by omega) (by simp only [zch]; omega) ?_
              refine w_I y168_150 rfl ?_
              refine w_K y168_151 ?_
              by_cases c80 : T s = 61
              · skip
                refine y_icT y168_153 rfl (by omega) (by omega) (by simp only [zch]; omega) ?_
                refine w_K y168_174 ?_
                refine w_go y168_175 rfl ?_
                refine y_pf y168_179 h56.2.1 rfl rfl ?_
                intro σ82 h81
                refine w_A y168_182 rfl ?_
                refine w_I y168_183 rfl ?_
                refine y_pf y168_184 h81.2.1 rfl rfl ?_
                intro σ84 h83
                refine w_A y168_187 rfl ?_
                refine y_dup y168_188 rfl ?_
                refine y_gf y168_189 h83.2.1 rfl u5 ?_
                refine w_K y168_192 ?_
                refine w_add y168_193 ?_
                refine y_pf y168_194 h83.2.1 rfl rfl ?_
                intro σ86 h85
                have ha : ¬ ysA (T s) = true := by unfold ysA; rw [b63, b65]; decide
                have hm2 : ysM (T s) = true := by unfold ysM; exact decide_eq_true (by omega)
                refine w_ret0 y168_197 ⟨rfl, _, h85.2.1, (yA_tr (yA_sub (by rfl) a1) (yA_tr (yA_u (j := 6) (by rfl)) (yA_tr (yA_u (j := 7) (by rfl)) (yA_tr (yA_u (j := 9) (by rfl)) (yA_u (j := 5) (by rfl)))))), (yF_tr f1 (yF_tr (yF_D h56 (by rfl)) (yF_tr (yF_D h81 (by rfl)) (yF_tr (yF_D h83 (by rfl)) (yF_D h85 (by rfl)))))), ⟨⟨_, z12⟩, ⟨_, z8⟩, _, rfl⟩, (show yTok T n m p _ from ⟨?_, ?_, ?_, ?_, ?_, ?_⟩)⟩
                · rw [yto, hs, if_neg (fun h => by omega), if_neg (by omega), if_neg ha]; exact rfl
                · rw [yfm, hs, if_neg (fun h => by omega)]; exact rfl
                · rw [ykd, hs, if_neg (fun h => by omega), if_neg (by omega), if_neg ha, if_pos hm2]; exact rfl
                · intro h; rw [ykd, hs, if_neg (fun h => by omega), if_neg (by omega), if_neg ha, if_pos hm2] at h; exact absurd h (by decide)
                · intro h; rw [ykd, hs, if_neg (fun h => by omega), if_neg (by omega), if_neg ha, if_pos hm2] at h; exact absurd h (by decide)
                · intro _; rw [hs]; exact rfl
              · skip
                refine y_icF y168_153 rfl (by omega) (by omega) (by simp only [zch]; omega) ?_
                refine w_I y168_156 rfl ?_
                refine w_K y168_157 ?_
                by_cases c87 : T s = 62
                · skip
                  refine y_icT y168_159 rfl (by omega) (by omega) (by simp only [zch]; omega) ?_
                  refine w_K y168_174 ?_
                  refine w_go y168_175 rfl ?_
                  refine y_pf y168_179 h56.2.1 rfl rfl ?_
                  intro σ89 h88
                  refine w_A y168_182 rfl ?_
                  refine w_I y168_183 rfl ?_
                  refine y_pf y168_184 h88.2.1 rfl rfl ?_
                  intro σ91 h90
                  refine w_A y168_187 rfl ?_
                  refine y_dup y168_188 rfl ?_
                  refine y_gf y168_189 h90.2.1 rfl u5 ?_
                  refine w_K y168_192 ?_
                  refine w_add y168_193 ?_
                  refine y_pf y168_194 h90.2.1 rfl rfl ?_
                  intro σ93 h92
                  have ha : ¬ ysA (T s) = true := by unfold ysA; rw [b63, b65]; decide
                  have hm2 : ysM (T s) = true := by unfold ysM; exact decide_eq_true (by omega)
                  refine w_ret0 y168_197 ⟨rfl, _, h92.2.1, (yA_tr (yA_sub (by rfl) a1) (yA_tr (yA_u (j := 6) (by rfl)) (yA_tr (yA_u (j := 7) (by rfl)) (yA_tr (yA_u (j := 9) (by rfl)) (yA_u (j := 5) (by rfl)))))), (yF_tr f1 (yF_tr (yF_D h56 (by rfl)) (yF_tr (yF_D h88 (by rfl)) (yF_tr (yF_D h90 (by rfl)) (yF_D h92 (by rfl)))))), ⟨⟨_, z12⟩, ⟨_, z8⟩, _, rfl⟩, (show yTok T n m p _ from ⟨?_, ?_, ?_, ?_, ?_, ?_⟩)⟩
                  · rw [yto, hs, if_neg (fun h => by omega), if_neg (by omega), if_neg ha]; exact rfl
                  · rw [yfm, hs, if_neg (fun h => by omega)]; exact rfl
                  · rw [ykd, hs, if_neg (fun h => by omega), if_neg (by omega), if_neg ha, if_pos hm2]; exact rfl
                  · intro h; rw [ykd, hs, if_neg (fun h => by omega), if_neg (by omega), if_neg ha, if_pos hm2] at h; exact absurd h (by decide)
                  · intro h; rw [ykd, hs, if_neg (fun h => by omega), if_neg (by omega), if_neg ha, if_pos hm2] at h; exact absurd h (by decide)
                  · intro _; rw [hs]; exact rfl
                · skip
                  refine y_icF y168_159 rfl (by omega) (by omega) (by simp only [zch]; omega) ?_
                  refine w_I y168_162 rfl ?_
                  refine w_K y168_163 ?_
                  by_cases c94 : T s = 40
                  · skip
                    refine y_icT y168_165 rfl (by omega) (by omega) (by simp only [zch]; omega) ?_
                    refine w_K y168_174 ?_
                    refine w_go y168_175 rfl ?_
                    refine y_pf y168_179 h56.2.1 rfl rfl ?_
                    intro σ96 h95
                    refine w_A y168_182 rfl ?_
                    refine w_I y168_183 rfl ?_
                    refine y_pf y168_184 h95.2.1 rfl rfl ?_
                    intro σ98 h97
                    refine w_A y168_187 rfl ?_
                    refine y_dup y168_188 rfl ?_
                    refine y_gf y168_189 h97.2.1 rfl u5 ?_
                    refine w_K y168_192 ?_
                    refine w_add y168_193 ?_
                    refine y_pf y168_194 h97.2.1 rfl rfl ?_
                    intro σ100 h99
                    have ha : ¬ ysA (T s) = true := by unfold ysA; rw [b63, b65]; decide
                    have hm2 : ysM (T s) = true := by unfold ysM; exact decide_eq_true (by omega)
                    refine w_ret0 y168_197 ⟨rfl, _, h99.2.1, (yA_tr (yA_sub (by rfl) a1) (yA_tr (yA_u (j := 6) (by rfl)) (yA_tr (yA_u (j := 7) (by rfl)) (yA_tr (yA_u (j := 9) (by rfl)) (yA_u (j := 5) (by rfl)))))), (yF_tr f1 (yF_tr (yF_D h56 (by rfl)) (yF_tr (yF_D h95 (by rfl)) (yF_tr (yF_D h97 (by rfl)) (yF_D h99 (by rfl)))))), ⟨⟨_, z12⟩, ⟨_, z8⟩, _, rfl⟩, (show yTok T n m p _ from ⟨?_, ?_, ?_, ?_, ?_, ?_⟩)⟩
                    · rw [yto, hs, if_neg (fun h => by omega), if_neg (by omega), if_neg ha]; exact rfl
                    · rw [yfm, hs, if_neg (fun h => by omega)]; exact rfl
                    · rw [ykd, hs, if_neg (fun h => by omega), if_neg (by omega), if_neg ha, if_pos hm2]; exact rfl
                    · intro h; rw [ykd, hs, if_neg (fun h => by omega), if_neg (by omega), if_neg ha, if_pos hm2] at h; exact absurd h (by decide)
                    · intro h; rw [ykd, hs, if_neg (fun h => by omega), if_neg (by omega), if_neg ha, if_pos hm2] at h; exact absurd h (by decide)
                    · intro _; rw [hs]; exact rfl
                  · skip
                    refine y_icF y168_165 rfl (by omega) (by omega) (by simp only [zch]; omega) ?_
                    refine w_I y168_168 rfl ?_
                    refine w_K y168_169 ?_
                    by_cases c101 : T s ≠ 41
                    · skip
                      refine y_icT y168_171 rfl (by omega) (by omega) (by simp only [zch]; omega) ?_
                      refine w_K y168_178 ?_
                      refine y_pf y168_179 h56.2.1 rfl rfl ?_
                      intro σ103 h102
                      refine w_A y168_182 rfl ?_
                      refine w_I y168_183 rfl ?_
                      refine y_pf y168_184 h102.2.1 rfl rfl ?_
                      intro σ105 h104
                      refine w_A y168_187 rfl ?_
                      refine y_dup y168_188 rfl ?_
                      refine y_gf y168_189 h104.2.1 rfl u5 ?_
                      refine w_K y168_192 ?_
                      refine w_add y168_193 ?_
                      refine y_pf y168_194 h104.2.1 rfl rfl ?_
                      intro σ107 h106
                      have ha : ¬ ysA (T s) = true := by unfold ysA; rw [b63, b65]; decide
                      have hm2 : ¬ ysM (T s) = true := by unfold ysM; exact fun h => absurd (of_decide_eq_true h) (by omega)
                      refine w_ret0 y168_197 ⟨rfl, _, h106.2.1, (yA_tr (yA_sub (by rfl) a1) (yA_tr (yA_u (j := 6) (by rfl)) (yA_tr (yA_u (j := 7) (by rfl)) (yA_tr (yA_u (j := 9) (by rfl)) (yA_u (j := 5) (by rfl)))))), (yF_tr f1 (yF_tr (yF_D h56 (by rfl)) (yF_tr (yF_D h102 (by rfl)) (yF_tr (yF_D h104 (by rfl)) (yF_D h106 (by rfl)))))), ⟨⟨_, z12⟩, ⟨_, z8⟩, _, rfl⟩, (show yTok T n m p _ from ⟨?_, ?_, ?_, ?_, ?_, ?_⟩)⟩
                      · rw [yto, hs, if_neg (fun h => by omega), if_neg (by omega), if_neg ha]; exact rfl
                      · rw [yfm, hs, if_neg (fun h => by omega)]; exact rfl
                      · rw [ykd, hs, if_neg (fun h => by omega), if_neg (by omega), if_neg ha, if_neg hm2]; exact rfl
                      · intro h; rw [ykd, hs, if_neg (fun h => by omega), if_neg (by omega), if_neg ha, if_neg hm2] at h; exact absurd h (by decide)
                      · intro h; rw [ykd, hs, if_neg (fun h => by omega), if_neg (by omega), if_neg ha, if_neg hm2] at h; exact absurd h (by decide)
                      · intro h; rw [ykd, hs, if_neg (fun h => by omega), if_neg (by omega), if_neg ha, if_neg hm2] at h; exact absurd h (by decide)
                    · skip
                      refine y_icF y168_171 rfl (by omega) (by omega) (by simp only [zch]; omega) ?_
                      refine w_K y168_174 ?_
                      refine w_go y168_175 rfl ?_
                      refine y_pf y168_179 h56.2.1 rfl rfl ?_
                      intro σ109 h108
                      refine w_A y168_182 rfl ?_
                      refine w_I y168_183 rfl ?_
                      refine y_pf y168_184 h108.2.1 rfl rfl ?_
                      intro σ111 h110
                      refine w_A y168_187 rfl ?_
                      refine y_dup y168_188 rfl ?_
                      refine y_gf y168_189 h110.2.1 rfl u5 ?_
                      refine w_K y168_192 ?_
                      refine w_add y168_193 ?_
                      refine y_pf y168_194 h110.2.1 rfl rfl ?_
                      intro σ113 h112
                      have ha : ¬ ysA (T s) = true := by unfold ysA; rw [b63, b65]; decide
                      have hm2 : ysM (T s) = true := by unfold ysM; exact decide_eq_true (by omega)
                      refine w_ret0 y168_197 ⟨rfl, _, h112.2.1, (yA_tr (yA_sub (by rfl) a1) (yA_tr (yA_u (j := 6) (by rfl)) (yA_tr (yA_u (j := 7) (by rfl)) (yA_tr (yA_u (j := 9) (by rfl)) (yA_u (j := 5) (by rfl)))))), (yF_tr f1 (yF_tr (yF_D h56 (by rfl)) (yF_tr (yF_D h108 (by rfl)) (yF_tr (yF_D h110 (by rfl)) (yF_D h112 (by rfl)))))), ⟨⟨_, z12⟩, ⟨_, z8⟩, _, rfl⟩, (show yTok T n m p _ from ⟨?_, ?_, ?_, ?_, ?_, ?_⟩)⟩
                      · rw [yto, hs, if_neg (fun h => by omega), if_neg (by omega), if_neg ha]; exact rfl
                      · rw [yfm, hs, if_neg (fun h => by omega)]; exact rfl
                      · rw [ykd, hs, if_neg (fun h => by omega), if_neg (by omega), if_neg ha, if_pos hm2]; exact rfl
                      · intro h; rw [ykd, hs, if_neg (fun h => by omega), if_neg (by omega), if_neg ha, if_pos hm2] at h; exact absurd h (by decide)
                      · intro h; rw [ykd, hs, if_neg (fun h => by omega), if_neg (by omega), if_neg ha, if_pos hm2] at h; exact absurd h (by decide)
                      · intro _; rw [hs]; exact rfl
        · skip
          refine w_ifT y168_134 rfl (y_bneT b65) ?_
          have ha : ysA (T s) = true := by unfold ysA; rw [b65, Bool.or_true]
          exact j198 _ _ _ ha (by omega) (by omega) h56.2.1 (yA_u (j := 6) (by rfl)) (yF_D h56 (by rfl)) u5 rfl rfl rfl
      · skip
        refine w_ifT y168_127 rfl (y_bneT b63) ?_
        have ha : ysA (T s) = true := by unfold ysA; rw [b63]; rfl
        exact j198 _ _ _ ha (by omega) (by omega) h56.2.1 (yA_u (j := 6) (by rfl)) (yF_D h56 (by rfl)) u5 rfl rfl rfl
    · skip
      refine y_icF y168_104 rfl (by omega) (by omega) (by simp only [zch]; omega) ?_
      refine w_A y168_107 rfl ?_
      refine w_K y168_108 ?_
      refine y_pf y168_109 h56.2.1 rfl rfl ?_
      intro σ115 h114
      refine w_ret0 y168_112 ⟨rfl, _, h114.2.1, (yA_tr (yA_sub (by rfl) a1) (yA_tr (yA_u (j := 6) (by rfl)) (yA_u (j := 7) (by rfl)))), (yF_tr f1 (yF_tr (yF_D h56 (by rfl)) (yF_D h114 (by rfl)))), ⟨⟨_, z12⟩, ⟨_, z8⟩, _, z9⟩, (show yTok T n m p _ from ⟨?_, ?_, ?_, ?_, ?_, ?_⟩)⟩
      · rw [yto, hs, if_neg (fun h => by omega), if_pos (by omega)]; exact u5
      · rw [yfm, hs, if_neg (fun h => by omega)]; exact rfl
      · rw [ykd, hs, if_neg (fun h => by omega), if_pos (by omega)]; exact rfl
      · intro h; rw [ykd, hs, if_neg (fun h => by omega), if_pos (by omega)] at h; exact absurd h (by decide)
      · intro h; rw [ykd, hs, if_neg (fun h => by omega), if_pos (by omega)] at h; exact absurd h (by decide)
      · intro h; rw [ykd, hs, if_neg (fun h => by omega), if_pos (by omega)] at h; exact absurd h (by decide)
  · skip
    refine y_icF y168_68 rfl (by omega) (by omega) (by simp only [zch]; omega) ?_
    refine w_A y168_71 rfl ?_
    refine y_gf y168_72 h56.2.1 rfl rfl ?_
    refine w_A y168_75 rfl ?_
    refine y_gf y168_76 h56.2.1 rfl z4 ?_
    by_cases c116 : s < m
    · skip
      refine y_icT y168_79 rfl (by omega) (by omega) (by simp only [zch]; omega) ?_
      refine w_A y168_96 rfl ?_
      refine y_gf y168_97 h56.2.1 rfl u5 ?_
      refine w_A y168_100 rfl ?_
      refine y_gf y168_101 h56.2.1 rfl z3 ?_
      by_cases c117 : s < n
      · skip
        refine y_icT y168_104 rfl (by omega) (by omega) (by simp only [zch]; omega) ?_
        refine w_A y168_113 rfl ?_
        refine y_gf y168_114 h56.2.1 rfl z1 ?_
        refine w_A y168_117 rfl ?_
        refine y_gf y168_118 h56.2.1 rfl u5 ?_
        have g118 := (mD_n h56 (by decide) gt1)
        refine y_il y168_121 g118 rfl rfl (by omega) (by decide) ?_
        have t119 := hT s
        refine w_IS y168_122 ?_
        refine w_I y168_123 rfl ?_
        refine y_call y168_124 (y_args4 rfl rfl) rfl (ym_lt (hT _)) ?_
        rcases y_bc (ysL (T s)) with b121 | b121
        · skip
          refine w_ifF y168_127 rfl (y_bneF b121) ?_
          refine w_I y168_130 rfl ?_
          refine y_call y168_131 (y_args4 rfl rfl) rfl (ym_dg (hT _)) ?_
          rcases y_bc (ysD (T s)) with b123 | b123
          · skip
            refine w_ifF y168_134 rfl (y_bneF b123) ?_
            refine w_A y168_137 rfl ?_
            refine w_I y168_138 rfl ?_
            refine w_K y168_139 ?_
            by_cases c124 : T s = 59
            · skip
              refine y_icT y168_141 rfl (by omega) (by omega) (by simp only [zch]; omega) ?_
              refine w_K y168_174 ?_
              refine w_go y168_175 rfl ?_
              refine y_pf y168_179 h56.2.1 rfl rfl ?_
              intro σ126 h125
              refine w_A y168_182 rfl ?_
              refine w_I y168_183 rfl ?_
              refine y_pf y168_184 h125.2.1 rfl rfl ?_
              intro σ128 h127
              refine w_A y168_187 rfl ?_
              refine y_dup y168_188 rfl ?_
              refine y_gf y168_189 h127.2.1 rfl u5 ?_
              refine w_K y168_192 ?_
              refine w_add y168_193 ?_
              refine y_pf y168_194 h127.2.1 rfl rfl ?_
              intro σ130 h129
              have ha : ¬ ysA (T s) = true := by unfold ysA; rw [b121, b123]; decide
              have hm2 : ysM (T s) = true := by unfold ysM; exact decide_eq_true (by omega)
              refine w_ret0 y168_197 ⟨rfl, _, h129.2.1, (yA_tr (yA_sub (by rfl) a1) (yA_tr (yA_u (j := 6) (by rfl)) (yA_tr (yA_u (j := 7) (by rfl)) (yA_tr (yA_u (j := 9) (by rfl)) (yA_u (j := 5) (by rfl)))))), (yF_tr f1 (yF_tr (yF_D h56 (by rfl)) (yF_tr (yF_D h125 (by rfl)) (yF_tr (yF_D h127 (by rfl)) (yF_D h129 (by rfl)))))), ⟨⟨_, z12⟩, ⟨_, z8⟩, _, rfl⟩, (show yTok T n m p _ from ⟨?_, ?_, ?_, ?_, ?_, ?_⟩)⟩
              · rw [yto, hs, if_neg (fun h => by omega), if_neg (by omega), if_neg ha]; exact rfl
              · rw [yfm, hs, if_neg (fun h => by omega)]; exact rfl
              · rw [ykd, hs, if_neg (fun h => by omega), if_neg (by omega), if_neg ha, if_pos hm2]; exact rfl
              · intro h; rw [ykd, hs, if_neg (fun h => by omega), if_neg (by omega), if_neg ha, if_pos hm2] at h; exact absurd h (by decide)
              · intro h; rw [ykd, hs, if_neg (fun h => by omega), if_neg (by omega), if_neg ha, if_pos hm2] at h; exact absurd h (by decide)
              · intro _; rw [hs]; exact rfl
            · skip
              refine y_icF y168_141 rfl (by omega) (by omega) (by simp only [zch]; omega) ?_
              refine w_I y168_144 rfl ?_
              refine w_K y168_145 ?_
              by_cases c131 : T s = 60
              · skip
                refine y_icT y168_147 rfl (by omega) (by omega) (by simp only [zch]; omega) ?_
                refine w_K y168_174 ?_
                refine w_go y168_175 rfl ?_
                refine y_pf y168_179 h56.2.1 rfl rfl ?_
                intro σ133 h132
                refine w_A y168_182 rfl ?_
                refine w_I y168_183 rfl ?_
                refine y_pf y168_184 h132.2.1 rfl rfl ?_
                intro σ135 h134
                refine w_A y168_187 rfl ?_
                refine y_dup y168_188 rfl ?_
                refine y_gf y168_189 h134.2.1 rfl u5 ?_
                refine w_K y168_192 ?_
                refine w_add y168_193 ?_
                refine y_pf y168_194 h134.2.1 rfl rfl ?_
                intro σ137 h136
                have ha : ¬ ysA (T s) = true := by unfold ysA; rw [b121, b123]; decide
                have hm2 : ysM (T s) = true := by unfold ysM; exact decide_eq_true (by omega)
                refine w_ret0 y168_197 ⟨rfl, _, h136.2.1, (yA_tr (yA_sub (by rfl) a1) (yA_tr (yA_u (j := 6) (by rfl)) (yA_tr (yA_u (j := 7) (by rfl)) (yA_tr (yA_u (j := 9) (by rfl)) (yA_u (j := 5) (by rfl)))))), (yF_tr f1 (yF_tr (yF_D h56 (by rfl)) (yF_tr (yF_D h132 (by rfl)) (yF_tr (yF_D h134 (by rfl)) (yF_D h136 (by rfl)))))), ⟨⟨_, z12⟩, ⟨_, z8⟩, _, rfl⟩, (show yTok T n m p _ from ⟨?_, ?_, ?_, ?_, ?_, ?_⟩)⟩
                · rw [yto, hs, if_neg (fun h => by omega), if_neg (by omega), if_neg ha]; exact rfl
                · rw [yfm, hs, if_neg (fun h => by omega)]; exact rfl
                · rw [ykd, hs, if_neg (fun h => by omega), if_neg (by omega), if_neg ha, if_pos hm2]; exact rfl
                · intro h; rw [ykd, hs, if_neg (fun h => by omega), if_neg (by omega), if_neg ha, if_pos hm2] at h; exact absurd h (by decide)
                · intro h; rw [ykd, hs, if_neg (fun h => by omega), if_neg (by omega), if_neg ha, if_pos hm2] at h; exact absurd h (by decide)
                · intro _; rw [hs]; exact rfl
              · skip
                refine y_icF y168_147 rfl (by omega) (by omega) (by simp only [zch]; omega) ?_
                refine w_I y168_150 rfl ?_
                refine w_K y168_151 ?_
                by_cases c138 : T s = 61
                · skip
                  refine y_icT y168_153 rfl (by omega) (by omega) (by simp only [zch]; omega) ?_
                  refine w_K y168_174 ?_
                  refine w_go y168_175 rfl ?_
                  refine y_pf y168_179 h56.2.1 rfl rfl ?_
                  intro σ140 h139
                  refine w_A y168_182 rfl ?_
                  refine w_I y168_183 rfl ?_
                  refine y_pf y168_184 h139.2.1 rfl rfl ?_
                  intro σ142 h141
                  refine w_A y168_187 rfl ?_
                  refine y_dup y168_188 rfl ?_
                  refine y_gf y168_189 h141.2.1 rfl u5 ?_
                  refine w_K y168_192 ?_
                  refine w_add y168_193 ?_
                  refine y_pf y168_194 h141.2.1 rfl rfl ?_
                  intro σ144 h143
                  have ha : ¬ ysA (T s) = true := by unfold ysA; rw [b121, b123]; decide
                  have hm2 : ysM (T s) = true := by unfold ysM; exact decide_eq_true (by omega)
                  refine w_ret0 y168_197 ⟨rfl, _, h143.2.1, (yA_tr (yA_sub (by rfl) a1) (yA_tr (yA_u (j := 6) (by rfl)) (yA_tr (yA_u (j := 7) (by rfl)) (yA_tr (yA_u (j := 9) (by rfl)) (yA_u (j := 5) (by rfl)))))), (yF_tr f1 (yF_tr (yF_D h56 (by rfl)) (yF_tr (yF_D h139 (by rfl)) (yF_tr (yF_D h141 (by rfl)) (yF_D h143 (by rfl)))))), ⟨⟨_, z12⟩, ⟨_, z8⟩, _, rfl⟩, (show yTok T n m p _ from ⟨?_, ?_, ?_, ?_, ?_, ?_⟩)⟩
                  · rw [yto, hs, if_neg (fun h => by omega), if_neg (by omega), if_neg ha]; exact rfl
                  · rw [yfm, hs, if_neg (fun h => by omega)]; exact rfl
                  · rw [ykd, hs, if_neg (fun h => by omega), if_neg (by omega), if_neg ha, if_pos hm2]; exact rfl
                  · intro h; rw [ykd, hs, if_neg (fun h => by omega), if_neg (by omega), if_neg ha, if_pos hm2] at h; exact absurd h (by decide)
                  · intro h; rw [ykd, hs, if_neg (fun h => by omega), if_neg (by omega), if_neg ha, if_pos hm2] at h; exact absurd h (by decide)
                  · intro _; rw [hs]; exact rfl
                · skip
                  refine y_icF y168_153 rfl (by omega) (by omega) (by simp only [zch]; omega) ?_
                  refine w_I y168_156 rfl ?_
                  refine w_K y168_157 ?_
                  by_cases c145 : T s = 62
                  · skip
                    refine y_icT y168_159 rfl (by omega) (by omega) (by simp only [zch]; omega) ?_
                    refine w_K y168_174 ?_
                    refine w_go y168_175 rfl ?_
                    refine y_pf y168_179 h56.2.1 rfl rfl ?_
                    intro σ147 h146
                    refine w_A y168_182 rfl ?_
                    refine w_I y168_183 rfl ?_
                    refine y_pf y168_184 h146.2.1 rfl rfl ?_
                    intro σ149 h148
                    refine w_A y168_187 rfl ?_
                    refine y_dup y168_188 rfl ?_
                    refine y_gf y168_189 h148.2.1 rfl u5 ?_
                    refine w_K y168_192 ?_
                    refine w_add y168_193 ?_
                    refine y_pf y168_194 h148.2.1 rfl rfl ?_
                    intro σ151 h150
                    have ha : ¬ ysA (T s) = true := by unfold ysA; rw [b121, b123]; decide
                    have hm2 : ysM (T s) = true := by unfold ysM; exact decide_eq_true (by omega)
                    refine w_ret0 y168_197 ⟨rfl, _, h150.2.1, (yA_tr (yA_sub (by rfl) a1) (yA_tr (yA_u (j := 6) (by rfl)) (yA_tr (yA_u (j := 7) (by rfl)) (yA_tr (yA_u (j := 9) (by rfl)) (yA_u (j := 5) (by rfl)))))), (yF_tr f1 (yF_tr (yF_D h56 (by rfl)) (yF_tr (yF_D h146 (by rfl)) (yF_tr (yF_D h148 (by rfl)) (yF_D h150 (by rfl)))))), ⟨⟨_, z12⟩, ⟨_, z8⟩, _, rfl⟩, (show yTok T n m p _ from ⟨?_, ?_, ?_, ?_, ?_, ?_⟩)⟩
                    · rw [yto, hs, if_neg (fun h => by omega), if_neg (by omega), if_neg ha]; exact rfl
                    · rw [yfm, hs, if_neg (fun h => by omega)]; exact rfl
                    · rw [ykd, hs, if_neg (fun h => by omega), if_neg (by omega), if_neg ha, if_pos hm2]; exact rfl
                    · intro h; rw [ykd, hs, if_neg (fun h => by omega), if_neg (by omega), if_neg ha, if_pos hm2] at h; exact absurd h (by decide)
                    · intro h; rw [ykd, hs, if_neg (fun h => by omega), if_neg (by omega), if_neg ha, if_pos hm2] at h; exact absurd h (by decide)
                    · intro _; rw [hs]; exact rfl
                  · skip
                    refine y_icF y168_159 rfl (by omega) (by omega) (by simp only [zch]; omega) ?_
                    refine w_I y168_162 rfl ?_
                    refine w_K y168_163 ?_
                    by_cases c152 : T s = 40
                    · skip
                      refine y_icT y168_165 rfl (by omega) (by omega) (by simp only [zch]; omega) ?_
                      refine w_K y168_174 ?_
                      refine w_go y168_175 rfl ?_
                      refine y_pf y168_179 h56.2.1 rfl rfl ?_
                      intro σ154 h153
                      refine w_A y168_182 rfl ?_
                      refine w_I y168_183 rfl ?_
                      refine y_pf y168_184 h153.2.1 rfl rfl ?_
                      intro σ156 h155
                      refine w_A y168_187 rfl ?_
                      refine y_dup y168_188 rfl ?_
                      refine y_gf y168_189 h155.2.1 rfl u5 ?_
                      refine w_K y168_192 ?_
                      refine w_add y168_193 ?_
                      refine y_pf y168_194 h155.2.1 rfl rfl ?_
                      intro σ158 h157
                      have ha : ¬ ysA (T s) = true := by unfold ysA; rw [b121, b123]; decide
                      have hm2 : ysM (T s) = true := by unfold ysM; exact decide_eq_true (by omega)
                      refine w_ret0 y168_197 ⟨rfl, _, h157.2.1, (yA_tr (yA_sub (by rfl) a1) (yA_tr (yA_u (j := 6) (by rfl)) (yA_tr (yA_u (j := 7) (by rfl)) (yA_tr (yA_u (j := 9) (by rfl)) (yA_u (j := 5) (by rfl)))))), (yF_tr f1 (yF_tr (yF_D h56 (by rfl)) (yF_tr (yF_D h153 (by rfl)) (yF_tr (yF_D h155 (by rfl)) (yF_D h157 (by rfl)))))), ⟨⟨_, z12⟩, ⟨_, z8⟩, _, rfl⟩, (show yTok T n m p _ from ⟨?_, ?_, ?_, ?_, ?_, ?_⟩)⟩
                      · rw [yto, hs, if_neg (fun h => by omega), if_neg (by omega), if_neg ha]; exact rfl
                      · rw [yfm, hs, if_neg (fun h => by omega)]; exact rfl
                      · rw [ykd, hs, if_neg (fun h => by omega), if_neg (by omega), if_neg ha, if_pos hm2]; exact rfl
                      · intro h; rw [ykd, hs, if_neg (fun h => by omega), if_neg (by omega), if_neg ha, if_pos hm2] at h; exact absurd h (by decide)
                      · intro h; rw [ykd, hs, if_neg (fun h => by omega), if_neg (by omega), if_neg ha, if_pos hm2] at h; exact absurd h (by decide)
                      · intro _; rw [hs]; exact rfl
                    · skip
                      refine y_icF y168_165 rfl (by omega) (by omega) (by simp only [zch]; omega) ?_
                      refine w_I y168_168 rfl ?_
                      refine w_K y168_169 ?_
                      by_cases c159 : T s ≠ 41
                      · skip
                        refine y_icT y168_171 rfl (by omega) (by omega) (by simp only [zch]; omega) ?_
                        refine w_K y168_178 ?_
                        refine y_pf y168_179 h56.2.1 rfl rfl ?_
                        intro σ161 h160
                        refine w_A y168_182 rfl ?_
                        refine w_I y168_183 rfl ?_
                        refine y_pf y168_184 h160.2.1 rfl rfl ?_
                        intro σ163 h162
                        refine w_A y168_187 rfl ?_
                        refine y_dup y168_188 rfl ?_
                        refine y_gf y168_189 h162.2.1 rfl u5 ?_
                        refine w_K y168_192 ?_
                        refine w_add y168_193 ?_
                        refine y_pf y168_194 h162.2.1 rfl rfl ?_
                        intro σ165 h164
                        have ha : ¬ ysA (T s) = true := by unfold ysA; rw [b121, b123]; decide
                        have hm2 : ¬ ysM (T s) = true := by unfold ysM; exact fun h => absurd (of_decide_eq_true h) (by omega)
                        refine w_ret0 y168_197 ⟨rfl, _, h164.2.1, (yA_tr (yA_sub (by rfl) a1) (yA_tr (yA_u (j := 6) (by rfl)) (yA_tr (yA_u (j := 7) (by rfl)) (yA_tr (yA_u (j := 9) (by rfl)) (yA_u (j := 5) (by rfl)))))), (yF_tr f1 (yF_tr (yF_D h56 (by rfl)) (yF_tr (yF_D h160 (by rfl)) (yF_tr (yF_D h162 (by rfl)) (yF_D h164 (by rfl)))))), ⟨⟨_, z12⟩, ⟨_, z8⟩, _, rfl⟩, (show yTok T n m p _ from ⟨?_, ?_, ?_, ?_, ?_, ?_⟩)⟩
                        · rw [yto, hs, if_neg (fun h => by omega), if_neg (by omega), if_neg ha]; exact rfl
                        · rw [yfm, hs, if_neg (fun h => by omega)]; exact rfl
                        · rw [ykd, hs, if_neg (fun h => by omega), if_neg (by omega), if_neg ha, if_neg hm2]; exact rfl
                        · intro h; rw [ykd, hs, if_neg (fun h => by omega), if_neg (by omega), if_neg ha, if_neg hm2] at h; exact absurd h (by decide)
                        · intro h; rw [ykd, hs, if_neg (fun h => by omega), if_neg (by omega), if_neg ha, if_neg hm2] at h; exact absurd h (by decide)
                        · intro h; rw [ykd, hs, if_neg (fun h => by omega), if_neg (by omega), if_neg ha, if_neg hm2] at h; exact absurd h (by decide)
                      · skip
                        refine y_icF y168_171 rfl (by omega) (by omega) (by simp only [zch]; omega) ?_
                        refine w_K y168_174 ?_
                        refine w_go y168_175 rfl ?_
                        refine y_pf y168_179 h56.2.1 rfl rfl ?_
                        intro σ167 h166
                        refine w_A y168_182 rfl ?_
                        refine w_I y168_183 rfl ?_
                        refine y_pf y168_184 h166.2.1 rfl rfl ?_
                        intro σ169 h168
                        refine w_A y168_187 rfl ?_
                        refine y_dup y168_188 rfl ?_
                        refine y_gf y168_189 h168.2.1 rfl u5 ?_
                        refine w_K y168_192 ?_
                        refine w_add y168_193 ?_
                        refine y_pf y168_194 h168.2.1 rfl rfl ?_
                        intro σ171 h170
                        have ha : ¬ ysA (T s) = true := by unfold ysA; rw [b121, b123]; decide
                        have hm2 : ysM (T s) = true := by unfold ysM; exact decide_eq_true (by omega)
                        refine w_ret0 y168_197 ⟨rfl, _, h170.2.1, (yA_tr (yA_sub (by rfl) a1) (yA_tr (yA_u (j := 6) (by rfl)) (yA_tr (yA_u (j := 7) (by rfl)) (yA_tr (yA_u (j := 9) (by rfl)) (yA_u (j := 5) (by rfl)))))), (yF_tr f1 (yF_tr (yF_D h56 (by rfl)) (yF_tr (yF_D h166 (by rfl)) (yF_tr (yF_D h168 (by rfl)) (yF_D h170 (by rfl)))))), ⟨⟨_, z12⟩, ⟨_, z8⟩, _, rfl⟩, (show yTok T n m p _ from ⟨?_, ?_, ?_, ?_, ?_, ?_⟩)⟩
                        · rw [yto, hs, if_neg (fun h => by omega), if_neg (by omega), if_neg ha]; exact rfl
                        · rw [yfm, hs, if_neg (fun h => by omega)]; exact rfl
                        · rw [ykd, hs, if_neg (fun h => by omega), if_neg (by omega), if_neg ha, if_pos hm2]; exact rfl
                        · intro h; rw [ykd, hs, if_neg (fun h => by omega), if_neg (by omega), if_neg ha, if_pos hm2] at h; exact absurd h (by decide)
                        · intro h; rw [ykd, hs, if_neg (fun h => by omega), if_neg (by omega), if_neg ha, if_pos hm2] at h; exact absurd h (by decide)
                        · intro _; rw [hs]; exact rfl
          · skip
            refine w_ifT y168_134 rfl (y_bneT b123) ?_
            have ha : ysA (T s) = true := by unfold ysA; rw [b123, Bool.or_true]
            exact j198 _ _ _ ha (by omega) (by omega) h56.2.1 (yA_u (j := 6) (by rfl)) (yF_D h56 (by rfl)) u5 rfl rfl rfl
        · skip
          refine w_ifT y168_127 rfl (y_bneT b121) ?_
          have ha : ysA (T s) = true := by unfold ysA; rw [b121]; rfl
          exact j198 _ _ _ ha (by omega) (by omega) h56.2.1 (yA_u (j := 6) (by rfl)) (yF_D h56 (by rfl)) u5 rfl rfl rfl
      · skip
        refine y_icF y168_104 rfl (by omega) (by omega) (by simp only [zch]; omega) ?_
        refine w_A y168_107 rfl ?_
        refine w_K y168_108 ?_
        refine y_pf y168_109 h56.2.1 rfl rfl ?_
        intro σ173 h172
        refine w_ret0 y168_112 ⟨rfl, _, h172.2.1, (yA_tr (yA_sub (by rfl) a1) (yA_tr (yA_u (j := 6) (by rfl)) (yA_u (j := 7) (by rfl)))), (yF_tr f1 (yF_tr (yF_D h56 (by rfl)) (yF_D h172 (by rfl)))), ⟨⟨_, z12⟩, ⟨_, z8⟩, _, z9⟩, (show yTok T n m p _ from ⟨?_, ?_, ?_, ?_, ?_, ?_⟩)⟩
        · rw [yto, hs, if_neg (fun h => by omega), if_pos (by omega)]; exact u5
        · rw [yfm, hs, if_neg (fun h => by omega)]; exact rfl
        · rw [ykd, hs, if_neg (fun h => by omega), if_pos (by omega)]; exact rfl
        · intro h; rw [ykd, hs, if_neg (fun h => by omega), if_pos (by omega)] at h; exact absurd h (by decide)
        · intro h; rw [ykd, hs, if_neg (fun h => by omega), if_pos (by omega)] at h; exact absurd h (by decide)
        · intro h; rw [ykd, hs, if_neg (fun h => by omega), if_pos (by omega)] at h; exact absurd h (by decide)
    · skip
      refine y_icF y168_79 rfl (by omega) (by omega) (by simp only [zch]; omega) ?_
      refine w_A y168_82 rfl ?_
      refine w_A y168_83 rfl ?_
      refine y_gf y168_84 h56.2.1 rfl z4 ?_
      refine y_pf y168_87 h56.2.1 rfl rfl ?_
      intro σ175 h174
      refine w_A y168_90 rfl ?_
      refine w_K y168_91 ?_
      refine y_pf y168_92 h174.2.1 rfl rfl ?_
      intro σ177 h176
      refine w_ret0 y168_95 ⟨rfl, _, h176.2.1, (yA_tr (yA_sub (by rfl) a1) (yA_tr (yA_u (j := 6) (by rfl)) (yA_tr (yA_u (j := 6) (by rfl)) (yA_u (j := 7) (by rfl))))), (yF_tr f1 (yF_tr (yF_D h56 (by rfl)) (yF_tr (yF_D h174 (by rfl)) (yF_D h176 (by rfl))))), ⟨⟨_, z12⟩, ⟨_, z8⟩, _, z9⟩, (show yTok T n m p _ from ⟨?_, ?_, ?_, ?_, ?_, ?_⟩)⟩
      · rw [yto, hs, if_pos ⟨by omega, by omega⟩]; exact u5
      · rw [yfm, hs, if_pos ⟨by omega, by omega⟩]; exact rfl
      · rw [ykd, hs, if_pos ⟨by omega, by omega⟩]; exact rfl
      · intro h; rw [ykd, hs, if_pos ⟨by omega, by omega⟩] at h; exact absurd h (by decide)
      · intro h; rw [ykd, hs, if_pos ⟨by omega, by omega⟩] at h; exact absurd h (by decide)
      · intro h; rw [ykd, hs, if_pos ⟨by omega, by omega⟩] at h; exact absurd h (by decide)
set_option maxRecDepth 100000 in
theorem y169_0 : iv_f1 (iv_p 169) 0 = some (.inl (iv_oK (.long (Int64.ofNat 27)) 3)) := rfl
set_option maxRecDepth 100000 in
theorem y169_3 : iv_f1 (iv_p 169) 3 = some (.inl (iv_oI 0 1)) := rfl
set_option maxRecDepth 100000 in
theorem y169_4 : iv_f1 (iv_p 169) 4 = some (.inl (iv_oUI fun x => .long x.toInt64)) := rfl
set_option maxRecDepth 100000 in
theorem y169_5 : iv_f1 (iv_p 169) 5 = some (.inl (iv_oK (.long (Int64.ofNat 96)) 3)) := rfl
set_option maxRecDepth 100000 in
theorem y169_8 : iv_f1 (iv_p 169) 8 = some (.inl (iv_oJJ fun x y => x - y)) := rfl
set_option maxRecDepth 100000 in
theorem y169_9 : iv_f1 (iv_p 169) 9 = some (.inl (iv_oJJ fun x y => x * y)) := rfl
set_option maxRecDepth 100000 in
theorem y169_10 : iv_f1 (iv_p 169) 10 = some (.inl (iv_oI 1 1)) := rfl
set_option maxRecDepth 100000 in
theorem y169_11 : iv_f1 (iv_p 169) 11 = some (.inl (iv_oUI fun x => .long x.toInt64)) := rfl
set_option maxRecDepth 100000 in
theorem y169_12 : iv_f1 (iv_p 169) 12 = some (.inl (iv_oJJ fun x y => x + y)) := rfl
set_option maxRecDepth 100000 in
theorem y169_13 : iv_f1 (iv_p 169) 13 = some (.inl (iv_oK (.long (Int64.ofNat 96)) 3)) := rfl
set_option maxRecDepth 100000 in
theorem y169_16 : iv_f1 (iv_p 169) 16 = some (.inl (iv_oJJ fun x y => x - y)) := rfl
set_option maxRecDepth 100000 in
theorem y169_17 : iv_f1 (iv_p 169) 17 = some (.inl (iv_oJS 7 2)) := rfl
set_option maxRecDepth 100000 in
theorem y169_19 : iv_f1 (iv_p 169) 19 = some (.inl (iv_oI 2 1)) := rfl
set_option maxRecDepth 100000 in
theorem y169_20 : iv_f1 (iv_p 169) 20 = some (.inl (iv_oIf .le (18))) := rfl
set_option maxRecDepth 100000 in
theorem y169_23 : iv_f1 (iv_p 169) 23 = some (.inl (iv_oK (.long (Int64.ofNat 27)) 3)) := rfl
set_option maxRecDepth 100000 in
theorem y169_26 : iv_f1 (iv_p 169) 26 = some (.inl (iv_oJ 7 2)) := rfl
set_option maxRecDepth 100000 in
theorem y169_28 : iv_f1 (iv_p 169) 28 = some (.inl (iv_oJJ fun x y => x * y)) := rfl
set_option maxRecDepth 100000 in
theorem y169_29 : iv_f1 (iv_p 169) 29 = some (.inl (iv_oI 2 1)) := rfl
set_option maxRecDepth 100000 in
theorem y169_30 : iv_f1 (iv_p 169) 30 = some (.inl (iv_oUI fun x => .long x.toInt64)) := rfl
set_option maxRecDepth 100000 in
theorem y169_31 : iv_f1 (iv_p 169) 31 = some (.inl (iv_oJJ fun x y => x + y)) := rfl
set_option maxRecDepth 100000 in
theorem y169_32 : iv_f1 (iv_p 169) 32 = some (.inl (iv_oK (.long (Int64.ofNat 96)) 3)) := rfl
set_option maxRecDepth 100000 in
theorem y169_35 : iv_f1 (iv_p 169) 35 = some (.inl (iv_oJJ fun x y => x - y)) := rfl
set_option maxRecDepth 100000 in
theorem y169_36 : iv_f1 (iv_p 169) 36 = some (.inl (iv_oJS 7 2)) := rfl
set_option maxRecDepth 100000 in
theorem y169_38 : iv_f1 (iv_p 169) 38 = some (.inl (iv_oI 3 1)) := rfl
set_option maxRecDepth 100000 in
theorem y169_39 : iv_f1 (iv_p 169) 39 = some (.inl (iv_oIf .le (18))) := rfl
set_option maxRecDepth 100000 in
theorem y169_42 : iv_f1 (iv_p 169) 42 = some (.inl (iv_oK (.long (Int64.ofNat 27)) 3)) := rfl
set_option maxRecDepth 100000 in
theorem y169_45 : iv_f1 (iv_p 169) 45 = some (.inl (iv_oJ 7 2)) := rfl
set_option maxRecDepth 100000 in
theorem y169_47 : iv_f1 (iv_p 169) 47 = some (.inl (iv_oJJ fun x y => x * y)) := rfl
set_option maxRecDepth 100000 in
theorem y169_48 : iv_f1 (iv_p 169) 48 = some (.inl (iv_oI 3 1)) := rfl
set_option maxRecDepth 100000 in
theorem y169_49 : iv_f1 (iv_p 169) 49 = some (.inl (iv_oUI fun x => .long x.toInt64)) := rfl
set_option maxRecDepth 100000 in
theorem y169_50 : iv_f1 (iv_p 169) 50 = some (.inl (iv_oJJ fun x y => x + y)) := rfl
set_option maxRecDepth 100000 in
theorem y169_51 : iv_f1 (iv_p 169) 51 = some (.inl (iv_oK (.long (Int64.ofNat 96)) 3)) := rfl
set_option maxRecDepth 100000 in
theorem y169_54 : iv_f1 (iv_p 169) 54 = some (.inl (iv_oJJ fun x y => x - y)) := rfl
set_option maxRecDepth 100000 in
theorem y169_55 : iv_f1 (iv_p 169) 55 = some (.inl (iv_oJS 7 2)) := rfl
set_option maxRecDepth 100000 in
theorem y169_57 : iv_f1 (iv_p 169) 57 = some (.inl (iv_oI 4 2)) := rfl
set_option maxRecDepth 100000 in
theorem y169_59 : iv_f1 (iv_p 169) 59 = some (.inl (iv_oIf .le (19))) := rfl
set_option maxRecDepth 100000 in
theorem y169_62 : iv_f1 (iv_p 169) 62 = some (.inl (iv_oK (.long (Int64.ofNat 27)) 3)) := rfl
set_option maxRecDepth 100000 in
theorem y169_65 : iv_f1 (iv_p 169) 65 = some (.inl (iv_oJ 7 2)) := rfl
set_option maxRecDepth 100000 in
theorem y169_67 : iv_f1 (iv_p 169) 67 = some (.inl (iv_oJJ fun x y => x * y)) := rfl
set_option maxRecDepth 100000 in
theorem y169_68 : iv_f1 (iv_p 169) 68 = some (.inl (iv_oI 4 2)) := rfl
set_option maxRecDepth 100000 in
theorem y169_70 : iv_f1 (iv_p 169) 70 = some (.inl (iv_oUI fun x => .long x.toInt64)) := rfl
set_option maxRecDepth 100000 in
theorem y169_71 : iv_f1 (iv_p 169) 71 = some (.inl (iv_oJJ fun x y => x + y)) := rfl
set_option maxRecDepth 100000 in
theorem y169_72 : iv_f1 (iv_p 169) 72 = some (.inl (iv_oK (.long (Int64.ofNat 96)) 3)) := rfl
set_option maxRecDepth 100000 in
theorem y169_75 : iv_f1 (iv_p 169) 75 = some (.inl (iv_oJJ fun x y => x - y)) := rfl
set_option maxRecDepth 100000 in
theorem y169_76 : iv_f1 (iv_p 169) 76 = some (.inl (iv_oJS 7 2)) := rfl
set_option maxRecDepth 100000 in
theorem y169_78 : iv_f1 (iv_p 169) 78 = some (.inl (iv_oI 5 2)) := rfl
set_option maxRecDepth 100000 in
theorem y169_80 : iv_f1 (iv_p 169) 80 = some (.inl (iv_oIf .le (19))) := rfl
set_option maxRecDepth 100000 in
theorem y169_83 : iv_f1 (iv_p 169) 83 = some (.inl (iv_oK (.long (Int64.ofNat 27)) 3)) := rfl
set_option maxRecDepth 100000 in
theorem y169_86 : iv_f1 (iv_p 169) 86 = some (.inl (iv_oJ 7 2)) := rfl
set_option maxRecDepth 100000 in
theorem y169_88 : iv_f1 (iv_p 169) 88 = some (.inl (iv_oJJ fun x y => x * y)) := rfl
set_option maxRecDepth 100000 in
theorem y169_89 : iv_f1 (iv_p 169) 89 = some (.inl (iv_oI 5 2)) := rfl
set_option maxRecDepth 100000 in
theorem y169_91 : iv_f1 (iv_p 169) 91 = some (.inl (iv_oUI fun x => .long x.toInt64)) := rfl
set_option maxRecDepth 100000 in
theorem y169_92 : iv_f1 (iv_p 169) 92 = some (.inl (iv_oJJ fun x y => x + y)) := rfl
set_option maxRecDepth 100000 in
theorem y169_93 : iv_f1 (iv_p 169) 93 = some (.inl (iv_oK (.long (Int64.ofNat 96)) 3)) := rfl
set_option maxRecDepth 100000 in
theorem y169_96 : iv_f1 (iv_p 169) 96 = some (.inl (iv_oJJ fun x y => x - y)) := rfl
set_option maxRecDepth 100000 in
theorem y169_97 : iv_f1 (iv_p 169) 97 = some (.inl (iv_oJS 7 2)) := rfl
set_option maxRecDepth 100000 in
theorem y169_99 : iv_f1 (iv_p 169) 99 = some (.inl (iv_oI 6 2)) := rfl
set_option maxRecDepth 100000 in
theorem y169_101 : iv_f1 (iv_p 169) 101 = some (.inl (iv_oIf .le (19))) := rfl
set_option maxRecDepth 100000 in
theorem y169_104 : iv_f1 (iv_p 169) 104 = some (.inl (iv_oK (.long (Int64.ofNat 27)) 3)) := rfl
set_option maxRecDepth 100000 in
theorem y169_107 : iv_f1 (iv_p 169) 107 = some (.inl (iv_oJ 7 2)) := rfl
set_option maxRecDepth 100000 in
theorem y169_109 : iv_f1 (iv_p 169) 109 = some (.inl (iv_oJJ fun x y => x * y)) := rfl
set_option maxRecDepth 100000 in
theorem y169_110 : iv_f1 (iv_p 169) 110 = some (.inl (iv_oI 6 2)) := rfl
set_option maxRecDepth 100000 in
theorem y169_112 : iv_f1 (iv_p 169) 112 = some (.inl (iv_oUI fun x => .long x.toInt64)) := rfl
set_option maxRecDepth 100000 in
theorem y169_113 : iv_f1 (iv_p 169) 113 = some (.inl (iv_oJJ fun x y => x + y)) := rfl
set_option maxRecDepth 100000 in
theorem y169_114 : iv_f1 (iv_p 169) 114 = some (.inl (iv_oK (.long (Int64.ofNat 96)) 3)) := rfl
set_option maxRecDepth 100000 in
theorem y169_117 : iv_f1 (iv_p 169) 117 = some (.inl (iv_oJJ fun x y => x - y)) := rfl
set_option maxRecDepth 100000 in
theorem y169_118 : iv_f1 (iv_p 169) 118 = some (.inl (iv_oJS 7 2)) := rfl
set_option maxRecDepth 100000 in
theorem y169_120 : iv_f1 (iv_p 169) 120 = some (.inl (iv_oJ 7 2)) := rfl
set_option maxRecDepth 100000 in
theorem y169_122 : iv_f1 (iv_p 169) 122 = some (.inr (.inl 3)) := rfl
theorem y_J3 {L : Nat} {xs : Nat → Int32} {Post : Option Value → iv_H → Prop} {d M pc : Nat} {lv : iv_L} {σ : iv_H} {x : Int64} (hf : iv_f1 (iv_p M) pc = some (.inr (.inl 3))) (k : Post (some (.long x)) σ) : zGo L xs Post [] d M pc lv [.long x] σ := zGo_r hf rfl k
theorem ym_sp19 {L : Nat} {xs : Nat → Int32} {Post : Option Value → iv_H → Prop} {d : Nat} {lv : iv_L} {σ : iv_H} {v : Int64} {c c3 c4 c5 c6 : Nat} (hc : c ≤ 255) (lc : iv_f1 lv 2 = some (.int (Int32.ofNat c))) (l3 : iv_f1 lv 3 = some (.int (Int32.ofNat c3))) (l4 : iv_f1 lv 4 = some (.int (Int32.ofNat c4))) (l5 : iv_f1 lv 5 = some (.int (Int32.ofNat c5))) (l6 : iv_f1 lv 6 = some (.int (Int32.ofNat c6))) (l7 : iv_f1 lv 7 = some (.long v)) (K : ∀ lv1, iv_f1 lv1 3 = some (.int (Int32.ofNat c3)) → iv_f1 lv1 4 = some (.int (Int32.ofNat c4)) → iv_f1 lv1 5 = some (.int (Int32.ofNat c5)) → iv_f1 lv1 6 = some (.int (Int32.ofNat c6)) → iv_f1 lv1 7 = some (.long (ysp v c)) → zGo L xs Post [] d 169 38 lv1 [] σ) : zGo L xs Post [] d 169 19 lv [] σ := by
  refine w_I y169_19 lc ?_
  by_cases c178 : c ≤ 0
  · skip
    refine y_ifT y169_20 rfl (by omega) (by simp only [zch]; omega) ?_
    exact K _ l3 l4 l5 l6 (by unfold ysp; rw [if_pos (by omega)]; exact l7)
  · skip
    refine y_ifF y169_20 rfl (by omega) (by simp only [zch]; omega) ?_
    refine w_K y169_23 ?_
    refine w_J y169_26 l7 ?_
    refine y_JJ y169_28 ?_
    refine w_I y169_29 lc ?_
    refine y_UI y169_30 ?_
    refine y_JJ y169_31 ?_
    refine w_K y169_32 ?_
    refine y_JJ y169_35 ?_
    refine y_JS y169_36 ?_
    exact K _ (y_l2 rfl rfl l3) (y_l2 rfl rfl l4) (y_l2 rfl rfl l5) (y_l2 rfl rfl l6) (by unfold ysp; rw [if_neg (by omega)]; exact y_l0)
theorem ym_sp38 {L : Nat} {xs : Nat → Int32} {Post : Option Value → iv_H → Prop} {d : Nat} {lv : iv_L} {σ : iv_H} {v : Int64} {c c3 c4 c5 c6 : Nat} (hc : c ≤ 255) (lc : iv_f1 lv 3 = some (.int (Int32.ofNat c))) (l4 : iv_f1 lv 4 = some (.int (Int32.ofNat c4))) (l5 : iv_f1 lv 5 = some (.int (Int32.ofNat c5))) (l6 : iv_f1 lv 6 = some (.int (Int32.ofNat c6))) (l7 : iv_f1 lv 7 = some (.long v)) (K : ∀ lv1, iv_f1 lv1 4 = some (.int (Int32.ofNat c4)) → iv_f1 lv1 5 = some (.int (Int32.ofNat c5)) → iv_f1 lv1 6 = some (.int (Int32.ofNat c6)) → iv_f1 lv1 7 = some (.long (ysp v c)) → zGo L xs Post [] d 169 57 lv1 [] σ) : zGo L xs Post [] d 169 38 lv [] σ := by
  refine w_I y169_38 lc ?_
  by_cases c179 : c ≤ 0
  · skip
    refine y_ifT y169_39 rfl (by omega) (by simp only [zch]; omega) ?_
    exact K _ l4 l5 l6 (by unfold ysp; rw [if_pos (by omega)]; exact l7)
  · skip
    refine y_ifF y169_39 rfl (by omega) (by simp only [zch]; omega) ?_
    refine w_K y169_42 ?_
    refine w_J y169_45 l7 ?_
    refine y_JJ y169_47 ?_
    refine w_I y169_48 lc ?_
    refine y_UI y169_49 ?_
    refine y_JJ y169_50 ?_
    refine w_K y169_51 ?_
    refine y_JJ y169_54 ?_
    refine y_JS y169_55 ?_
    exact K _ (y_l2 rfl rfl l4) (y_l2 rfl rfl l5) (y_l2 rfl rfl l6) (by unfold ysp; rw [if_neg (by omega)]; exact y_l0)
theorem ym_sp57 {L : Nat} {xs : Nat → Int32} {Post : Option Value → iv_H → Prop} {d : Nat} {lv : iv_L} {σ : iv_H} {v : Int64} {c c3 c4 c5 c6 : Nat} (hc : c ≤ 255) (lc : iv_f1 lv 4 = some (.int (Int32.ofNat c))) (l5 : iv_f1 lv 5 = some (.int (Int32.ofNat c5))) (l6 : iv_f1 lv 6 = some (.int (Int32.ofNat c6))) (l7 : iv_f1 lv 7 = some (.long v)) (K : ∀ lv1, iv_f1 lv1 5 = some (.int (Int32.ofNat c5)) → iv_f1 lv1 6 = some (.int (Int32.ofNat c6)) → iv_f1 lv1 7 = some (.long (ysp v c)) → zGo L xs Post [] d 169 78 lv1 [] σ) : zGo L xs Post [] d 169 57 lv [] σ := by
  refine w_I y169_57 lc ?_
  by_cases c180 : c ≤ 0
  · skip
    refine y_ifT y169_59 rfl (by omega) (by simp only [zch]; omega) ?_
    exact K _ l5 l6 (by unfold ysp; rw [if_pos (by omega)]; exact l7)
  · skip
    refine y_ifF y169_59 rfl (by omega) (by simp only [zch]; omega) ?_
    refine w_K y169_62 ?_
    refine w_J y169_65 l7 ?_
    refine y_JJ y169_67 ?_
    refine w_I y169_68 lc ?_
    refine y_UI y169_70 ?_
    refine y_JJ y169_71 ?_
    refine w_K y169_72 ?_
    refine y_JJ y169_75 ?_
    refine y_JS y169_76 ?_
    exact K _ (y_l2 rfl rfl l5) (y_l2 rfl rfl l6) (by unfold ysp; rw [if_neg (by omega)]; exact y_l0)
theorem ym_sp78 {L : Nat} {xs : Nat → Int32} {Post : Option Value → iv_H → Prop} {d : Nat} {lv : iv_L} {σ : iv_H} {v : Int64} {c c3 c4 c5 c6 : Nat} (hc : c ≤ 255) (lc : iv_f1 lv 5 = some (.int (Int32.ofNat c))) (l6 : iv_f1 lv 6 = some (.int (Int32.ofNat c6))) (l7 : iv_f1 lv 7 = some (.long v)) (K : ∀ lv1, iv_f1 lv1 6 = some (.int (Int32.ofNat c6)) → iv_f1 lv1 7 = some (.long (ysp v c)) → zGo L xs Post [] d 169 99 lv1 [] σ) : zGo L xs Post [] d 169 78 lv [] σ := by
  refine w_I y169_78 lc ?_
  by_cases c181 : c ≤ 0
  · skip
    refine y_ifT y169_80 rfl (by omega) (by simp only [zch]; omega) ?_
    exact K _ l6 (by unfold ysp; rw [if_pos (by omega)]; exact l7)
  · skip
    refine y_ifF y169_80 rfl (by omega) (by simp only [zch]; omega) ?_
    refine w_K y169_83 ?_
    refine w_J y169_86 l7 ?_
    refine y_JJ y169_88 ?_
    refine w_I y169_89 lc ?_
    refine y_UI y169_91 ?_
    refine y_JJ y169_92 ?_
    refine w_K y169_93 ?_
    refine y_JJ y169_96 ?_
    refine y_JS y169_97 ?_
    exact K _ (y_l2 rfl rfl l6) (by unfold ysp; rw [if_neg (by omega)]; exact y_l0)
theorem ym_sp99 {L : Nat} {xs : Nat → Int32} {Post : Option Value → iv_H → Prop} {d : Nat} {lv : iv_L} {σ : iv_H} {v : Int64} {c c3 c4 c5 c6 : Nat} (hc : c ≤ 255) (lc : iv_f1 lv 6 = some (.int (Int32.ofNat c))) (l7 : iv_f1 lv 7 = some (.long v)) (K : ∀ lv1, iv_f1 lv1 7 = some (.long (ysp v c)) → zGo L xs Post [] d 169 120 lv1 [] σ) : zGo L xs Post [] d 169 99 lv [] σ := by
  refine w_I y169_99 lc ?_
  by_cases c182 : c ≤ 0
  · skip
    refine y_ifT y169_101 rfl (by omega) (by simp only [zch]; omega) ?_
    exact K _  (by unfold ysp; rw [if_pos (by omega)]; exact l7)
  · skip
    refine y_ifF y169_101 rfl (by omega) (by simp only [zch]; omega) ?_
    refine w_K y169_104 ?_
    refine w_J y169_107 l7 ?_
    refine y_JJ y169_109 ?_
    refine w_I y169_110 lc ?_
    refine y_UI y169_112 ?_
    refine y_JJ y169_113 ?_
    refine w_K y169_114 ?_
    refine y_JJ y169_117 ?_
    refine y_JS y169_118 ?_
    exact K _  (by unfold ysp; rw [if_neg (by omega)]; exact y_l0)
def yspl (a b c e f h i : Nat) : Int64 := ysp (ysp (ysp (ysp (ysp (Int64.ofNat 27 * ((Int32.ofNat a).toInt64 - Int64.ofNat 96) + (Int32.ofNat b).toInt64 - Int64.ofNat 96) c) e) f) h) i
theorem ym_spl {L : Nat} {xs : Nat → Int32} {d : Nat} {σ : iv_H} {a b c e f h i : Nat} (hc : c ≤ 255) (he : e ≤ 255) (hf : f ≤ 255) (hh : h ≤ 255) (hi : i ≤ 255) : iv_Rn L xs d 169 0 (lv_args 0 [.int (Int32.ofNat a), .int (Int32.ofNat b), .int (Int32.ofNat c), .int (Int32.ofNat e), .int (Int32.ofNat f), .int (Int32.ofNat h), .int (Int32.ofNat i)]) [] σ (some (.long (yspl a b c e f h i))) σ := by
  refine y_Rp ?_
  refine w_K y169_0 ?_
  refine w_I y169_3 rfl ?_
  refine y_UI y169_4 ?_
  refine w_K y169_5 ?_
  refine y_JJ y169_8 ?_
  refine y_JJ y169_9 ?_
  refine w_I y169_10 rfl ?_
  refine y_UI y169_11 ?_
  refine y_JJ y169_12 ?_
  refine w_K y169_13 ?_
  refine y_JJ y169_16 ?_
  refine y_JS y169_17 ?_
  refine ym_sp19 hc rfl (c3 := e) (c4 := f) (c5 := h) (c6 := i) rfl rfl rfl rfl rfl ?_
  intro lv1 q3 q4 q5 q6 q7
  refine ym_sp38 (c3 := 0) he q3 q4 q5 q6 q7 ?_
  intro lv2 r4 r5 r6 r7
  refine ym_sp57 (c3 := 0) (c4 := 0) hf r4 r5 r6 r7 ?_
  intro lv3 s5 s6 s7
  refine ym_sp78 (c3 := 0) (c4 := 0) (c5 := 0) hh s5 s6 s7 ?_
  intro lv4 t6 t7
  refine ym_sp99 (c3 := 0) (c4 := 0) (c5 := 0) (c6 := 0) hi t6 t7 ?_
  intro lv5 u7
  refine w_J y169_120 u7 ?_
  exact y_J3 y169_122 ⟨rfl, rfl⟩
set_option maxRecDepth 100000 in
theorem y170_0 : iv_f1 (iv_p 170) 0 = some (.inl (iv_oI 0 1)) := rfl
set_option maxRecDepth 100000 in
theorem y170_1 : iv_f1 (iv_p 170) 1 = some (.inl (iv_oTs (526) (0) (25) #[119, 137, 154, 170, 185, 201, 219, 236, 252, 267, 283, 298, 312, 327, 344, 360, 373, 387, 401, 416, 432, 448, 465, 480, 495, 511])) := rfl
set_option maxRecDepth 100000 in
theorem y170_120 : iv_f1 (iv_p 170) 120 = some (.inl (iv_oK (.int (Int32.ofNat 98)) 2)) := rfl
set_option maxRecDepth 100000 in
theorem y170_122 : iv_f1 (iv_p 170) 122 = some (.inl (iv_oK (.int (Int32.ofNat 114)) 2)) := rfl
set_option maxRecDepth 100000 in
theorem y170_124 : iv_f1 (iv_p 170) 124 = some (.inl (iv_oK (.int (Int32.ofNat 111)) 2)) := rfl
set_option maxRecDepth 100000 in
theorem y170_126 : iv_f1 (iv_p 170) 126 = some (.inl (iv_oK (.int (Int32.ofNat 116)) 2)) := rfl
set_option maxRecDepth 100000 in
theorem y170_128 : iv_f1 (iv_p 170) 128 = some (.inl (iv_oK (.int (Int32.ofNat 104)) 2)) := rfl
set_option maxRecDepth 100000 in
theorem y170_130 : iv_f1 (iv_p 170) 130 = some (.inl (iv_oK (.int (Int32.ofNat 101)) 2)) := rfl
set_option maxRecDepth 100000 in
theorem y170_132 : iv_f1 (iv_p 170) 132 = some (.inl (iv_oK (.int (Int32.ofNat 114)) 2)) := rfl
set_option maxRecDepth 100000 in
theorem y170_134 : iv_f1 (iv_p 170) 134 = some (.inr (.inr (4, 169, 7, 0))) := rfl
set_option maxRecDepth 100000 in
theorem y170_137 : iv_f1 (iv_p 170) 137 = some (.inr (.inl 3)) := rfl
set_option maxRecDepth 100000 in
theorem y170_138 : iv_f1 (iv_p 170) 138 = some (.inl (iv_oK (.int (Int32.ofNat 103)) 2)) := rfl
set_option maxRecDepth 100000 in
theorem y170_140 : iv_f1 (iv_p 170) 140 = some (.inl (iv_oK (.int (Int32.ofNat 114)) 2)) := rfl
set_option maxRecDepth 100000 in
theorem y170_142 : iv_f1 (iv_p 170) 142 = some (.inl (iv_oK (.int (Int32.ofNat 97)) 2)) := rfl
set_option maxRecDepth 100000 in
theorem y170_144 : iv_f1 (iv_p 170) 144 = some (.inl (iv_oK (.int (Int32.ofNat 116)) 2)) := rfl
set_option maxRecDepth 100000 in
theorem y170_146 : iv_f1 (iv_p 170) 146 = some (.inl (iv_oK (.int (Int32.ofNat 101)) 2)) := rfl
set_option maxRecDepth 100000 in
theorem y170_148 : iv_f1 (iv_p 170) 148 = some (.inl (iv_oK (.int (Int32.ofNat 114)) 2)) := rfl
set_option maxRecDepth 100000 in
theorem y170_150 : iv_f1 (iv_p 170) 150 = some (.inl (iv_oK (.int (Int32.ofNat 0)) 1)) := rfl
set_option maxRecDepth 100000 in
theorem y170_151 : iv_f1 (iv_p 170) 151 = some (.inr (.inr (4, 169, 7, 0))) := rfl
set_option maxRecDepth 100000 in
theorem y170_154 : iv_f1 (iv_p 170) 154 = some (.inr (.inl 3)) := rfl
set_option maxRecDepth 100000 in
theorem y170_155 : iv_f1 (iv_p 170) 155 = some (.inl (iv_oK (.int (Int32.ofNat 104)) 2)) := rfl
set_option maxRecDepth 100000 in
theorem y170_157 : iv_f1 (iv_p 170) 157 = some (.inl (iv_oK (.int (Int32.ofNat 111)) 2)) := rfl
set_option maxRecDepth 100000 in
theorem y170_159 : iv_f1 (iv_p 170) 159 = some (.inl (iv_oK (.int (Int32.ofNat 108)) 2)) := rfl
set_option maxRecDepth 100000 in
theorem y170_161 : iv_f1 (iv_p 170) 161 = some (.inl (iv_oK (.int (Int32.ofNat 100)) 2)) := rfl
set_option maxRecDepth 100000 in
theorem y170_163 : iv_f1 (iv_p 170) 163 = some (.inl (iv_oK (.int (Int32.ofNat 115)) 2)) := rfl
set_option maxRecDepth 100000 in
theorem y170_165 : iv_f1 (iv_p 170) 165 = some (.inl (iv_oK (.int (Int32.ofNat 0)) 1)) := rfl
set_option maxRecDepth 100000 in
theorem y170_166 : iv_f1 (iv_p 170) 166 = some (.inl (iv_oK (.int (Int32.ofNat 0)) 1)) := rfl
set_option maxRecDepth 100000 in
theorem y170_167 : iv_f1 (iv_p 170) 167 = some (.inr (.inr (4, 169, 7, 0))) := rfl
set_option maxRecDepth 100000 in
theorem y170_170 : iv_f1 (iv_p 170) 170 = some (.inr (.inl 3)) := rfl
set_option maxRecDepth 100000 in
theorem y170_171 : iv_f1 (iv_p 170) 171 = some (.inl (iv_oK (.int (Int32.ofNat 101)) 2)) := rfl
set_option maxRecDepth 100000 in
theorem y170_173 : iv_f1 (iv_p 170) 173 = some (.inl (iv_oK (.int (Int32.ofNat 118)) 2)) := rfl
set_option maxRecDepth 100000 in
theorem y170_175 : iv_f1 (iv_p 170) 175 = some (.inl (iv_oK (.int (Int32.ofNat 101)) 2)) := rfl
set_option maxRecDepth 100000 in
theorem y170_177 : iv_f1 (iv_p 170) 177 = some (.inl (iv_oK (.int (Int32.ofNat 110)) 2)) := rfl
set_option maxRecDepth 100000 in
theorem y170_179 : iv_f1 (iv_p 170) 179 = some (.inl (iv_oK (.int (Int32.ofNat 0)) 1)) := rfl
set_option maxRecDepth 100000 in
theorem y170_180 : iv_f1 (iv_p 170) 180 = some (.inl (iv_oK (.int (Int32.ofNat 0)) 1)) := rfl
set_option maxRecDepth 100000 in
theorem y170_181 : iv_f1 (iv_p 170) 181 = some (.inl (iv_oK (.int (Int32.ofNat 0)) 1)) := rfl
set_option maxRecDepth 100000 in
theorem y170_182 : iv_f1 (iv_p 170) 182 = some (.inr (.inr (4, 169, 7, 0))) := rfl
set_option maxRecDepth 100000 in
theorem y170_185 : iv_f1 (iv_p 170) 185 = some (.inr (.inl 3)) := rfl
set_option maxRecDepth 100000 in
theorem y170_186 : iv_f1 (iv_p 170) 186 = some (.inl (iv_oK (.int (Int32.ofNat 102)) 2)) := rfl
set_option maxRecDepth 100000 in
theorem y170_188 : iv_f1 (iv_p 170) 188 = some (.inl (iv_oK (.int (Int32.ofNat 105)) 2)) := rfl
set_option maxRecDepth 100000 in
theorem y170_190 : iv_f1 (iv_p 170) 190 = some (.inl (iv_oK (.int (Int32.ofNat 108)) 2)) := rfl
set_option maxRecDepth 100000 in
theorem y170_192 : iv_f1 (iv_p 170) 192 = some (.inl (iv_oK (.int (Int32.ofNat 101)) 2)) := rfl
set_option maxRecDepth 100000 in
theorem y170_194 : iv_f1 (iv_p 170) 194 = some (.inl (iv_oK (.int (Int32.ofNat 115)) 2)) := rfl
set_option maxRecDepth 100000 in
theorem y170_196 : iv_f1 (iv_p 170) 196 = some (.inl (iv_oK (.int (Int32.ofNat 0)) 1)) := rfl
set_option maxRecDepth 100000 in
theorem y170_197 : iv_f1 (iv_p 170) 197 = some (.inl (iv_oK (.int (Int32.ofNat 0)) 1)) := rfl
set_option maxRecDepth 100000 in
theorem y170_198 : iv_f1 (iv_p 170) 198 = some (.inr (.inr (4, 169, 7, 0))) := rfl
set_option maxRecDepth 100000 in
theorem y170_201 : iv_f1 (iv_p 170) 201 = some (.inr (.inl 3)) := rfl
set_option maxRecDepth 100000 in
theorem y170_202 : iv_f1 (iv_p 170) 202 = some (.inl (iv_oK (.int (Int32.ofNat 100)) 2)) := rfl
set_option maxRecDepth 100000 in
theorem y170_204 : iv_f1 (iv_p 170) 204 = some (.inl (iv_oK (.int (Int32.ofNat 114)) 2)) := rfl
set_option maxRecDepth 100000 in
theorem y170_206 : iv_f1 (iv_p 170) 206 = some (.inl (iv_oK (.int (Int32.ofNat 97)) 2)) := rfl
set_option maxRecDepth 100000 in
theorem y170_208 : iv_f1 (iv_p 170) 208 = some (.inl (iv_oK (.int (Int32.ofNat 117)) 2)) := rfl
set_option maxRecDepth 100000 in
theorem y170_210 : iv_f1 (iv_p 170) 210 = some (.inl (iv_oK (.int (Int32.ofNat 103)) 2)) := rfl
set_option maxRecDepth 100000 in
theorem y170_212 : iv_f1 (iv_p 170) 212 = some (.inl (iv_oK (.int (Int32.ofNat 104)) 2)) := rfl
set_option maxRecDepth 100000 in
theorem y170_214 : iv_f1 (iv_p 170) 214 = some (.inl (iv_oK (.int (Int32.ofNat 116)) 2)) := rfl
set_option maxRecDepth 100000 in
theorem y170_216 : iv_f1 (iv_p 170) 216 = some (.inr (.inr (4, 169, 7, 0))) := rfl
set_option maxRecDepth 100000 in
theorem y170_219 : iv_f1 (iv_p 170) 219 = some (.inr (.inl 3)) := rfl
set_option maxRecDepth 100000 in
theorem y170_220 : iv_f1 (iv_p 170) 220 = some (.inl (iv_oK (.int (Int32.ofNat 103)) 2)) := rfl
set_option maxRecDepth 100000 in
theorem y170_222 : iv_f1 (iv_p 170) 222 = some (.inl (iv_oK (.int (Int32.ofNat 114)) 2)) := rfl
set_option maxRecDepth 100000 in
theorem y170_224 : iv_f1 (iv_p 170) 224 = some (.inl (iv_oK (.int (Int32.ofNat 97)) 2)) := rfl
set_option maxRecDepth 100000 in
theorem y170_226 : iv_f1 (iv_p 170) 226 = some (.inl (iv_oK (.int (Int32.ofNat 116)) 2)) := rfl
set_option maxRecDepth 100000 in
theorem y170_228 : iv_f1 (iv_p 170) 228 = some (.inl (iv_oK (.int (Int32.ofNat 101)) 2)) := rfl
set_option maxRecDepth 100000 in
theorem y170_230 : iv_f1 (iv_p 170) 230 = some (.inl (iv_oK (.int (Int32.ofNat 115)) 2)) := rfl
set_option maxRecDepth 100000 in
theorem y170_232 : iv_f1 (iv_p 170) 232 = some (.inl (iv_oK (.int (Int32.ofNat 0)) 1)) := rfl
set_option maxRecDepth 100000 in
theorem y170_233 : iv_f1 (iv_p 170) 233 = some (.inr (.inr (4, 169, 7, 0))) := rfl
set_option maxRecDepth 100000 in
theorem y170_236 : iv_f1 (iv_p 170) 236 = some (.inr (.inl 3)) := rfl
set_option maxRecDepth 100000 in
theorem y170_237 : iv_f1 (iv_p 170) 237 = some (.inl (iv_oK (.int (Int32.ofNat 116)) 2)) := rfl
set_option maxRecDepth 100000 in
theorem y170_239 : iv_f1 (iv_p 170) 239 = some (.inl (iv_oK (.int (Int32.ofNat 97)) 2)) := rfl
set_option maxRecDepth 100000 in
theorem y170_241 : iv_f1 (iv_p 170) 241 = some (.inl (iv_oK (.int (Int32.ofNat 107)) 2)) := rfl
set_option maxRecDepth 100000 in
theorem y170_243 : iv_f1 (iv_p 170) 243 = some (.inl (iv_oK (.int (Int32.ofNat 101)) 2)) := rfl
set_option maxRecDepth 100000 in
theorem y170_245 : iv_f1 (iv_p 170) 245 = some (.inl (iv_oK (.int (Int32.ofNat 115)) 2)) := rfl
set_option maxRecDepth 100000 in
theorem y170_247 : iv_f1 (iv_p 170) 247 = some (.inl (iv_oK (.int (Int32.ofNat 0)) 1)) := rfl
set_option maxRecDepth 100000 in
theorem y170_248 : iv_f1 (iv_p 170) 248 = some (.inl (iv_oK (.int (Int32.ofNat 0)) 1)) := rfl
set_option maxRecDepth 100000 in
theorem y170_249 : iv_f1 (iv_p 170) 249 = some (.inr (.inr (4, 169, 7, 0))) := rfl
set_option maxRecDepth 100000 in
theorem y170_252 : iv_f1 (iv_p 170) 252 = some (.inr (.inl 3)) := rfl
set_option maxRecDepth 100000 in
theorem y170_253 : iv_f1 (iv_p 170) 253 = some (.inl (iv_oK (.int (Int32.ofNat 112)) 2)) := rfl
set_option maxRecDepth 100000 in
theorem y170_255 : iv_f1 (iv_p 170) 255 = some (.inl (iv_oK (.int (Int32.ofNat 117)) 2)) := rfl
set_option maxRecDepth 100000 in
theorem y170_257 : iv_f1 (iv_p 170) 257 = some (.inl (iv_oK (.int (Int32.ofNat 116)) 2)) := rfl
set_option maxRecDepth 100000 in
theorem y170_259 : iv_f1 (iv_p 170) 259 = some (.inl (iv_oK (.int (Int32.ofNat 115)) 2)) := rfl
set_option maxRecDepth 100000 in
theorem y170_261 : iv_f1 (iv_p 170) 261 = some (.inl (iv_oK (.int (Int32.ofNat 0)) 1)) := rfl
set_option maxRecDepth 100000 in
theorem y170_262 : iv_f1 (iv_p 170) 262 = some (.inl (iv_oK (.int (Int32.ofNat 0)) 1)) := rfl
set_option maxRecDepth 100000 in
theorem y170_263 : iv_f1 (iv_p 170) 263 = some (.inl (iv_oK (.int (Int32.ofNat 0)) 1)) := rfl
set_option maxRecDepth 100000 in
theorem y170_264 : iv_f1 (iv_p 170) 264 = some (.inr (.inr (4, 169, 7, 0))) := rfl
set_option maxRecDepth 100000 in
theorem y170_267 : iv_f1 (iv_p 170) 267 = some (.inr (.inl 3)) := rfl
set_option maxRecDepth 100000 in
theorem y170_268 : iv_f1 (iv_p 170) 268 = some (.inl (iv_oK (.int (Int32.ofNat 115)) 2)) := rfl
set_option maxRecDepth 100000 in
theorem y170_270 : iv_f1 (iv_p 170) 270 = some (.inl (iv_oK (.int (Int32.ofNat 119)) 2)) := rfl
set_option maxRecDepth 100000 in
theorem y170_272 : iv_f1 (iv_p 170) 272 = some (.inl (iv_oK (.int (Int32.ofNat 97)) 2)) := rfl
set_option maxRecDepth 100000 in
theorem y170_274 : iv_f1 (iv_p 170) 274 = some (.inl (iv_oK (.int (Int32.ofNat 112)) 2)) := rfl
set_option maxRecDepth 100000 in
theorem y170_276 : iv_f1 (iv_p 170) 276 = some (.inl (iv_oK (.int (Int32.ofNat 115)) 2)) := rfl
set_option maxRecDepth 100000 in
theorem y170_278 : iv_f1 (iv_p 170) 278 = some (.inl (iv_oK (.int (Int32.ofNat 0)) 1)) := rfl
set_option maxRecDepth 100000 in
theorem y170_279 : iv_f1 (iv_p 170) 279 = some (.inl (iv_oK (.int (Int32.ofNat 0)) 1)) := rfl
set_option maxRecDepth 100000 in
theorem y170_280 : iv_f1 (iv_p 170) 280 = some (.inr (.inr (4, 169, 7, 0))) := rfl
set_option maxRecDepth 100000 in
theorem y170_283 : iv_f1 (iv_p 170) 283 = some (.inr (.inl 3)) := rfl
set_option maxRecDepth 100000 in
theorem y170_284 : iv_f1 (iv_p 170) 284 = some (.inl (iv_oK (.int (Int32.ofNat 102)) 2)) := rfl
set_option maxRecDepth 100000 in
theorem y170_286 : iv_f1 (iv_p 170) 286 = some (.inl (iv_oK (.int (Int32.ofNat 105)) 2)) := rfl
set_option maxRecDepth 100000 in
theorem y170_288 : iv_f1 (iv_p 170) 288 = some (.inl (iv_oK (.int (Int32.ofNat 108)) 2)) := rfl
set_option maxRecDepth 100000 in
theorem y170_290 : iv_f1 (iv_p 170) 290 = some (.inl (iv_oK (.int (Int32.ofNat 101)) 2)) := rfl
set_option maxRecDepth 100000 in
theorem y170_292 : iv_f1 (iv_p 170) 292 = some (.inl (iv_oK (.int (Int32.ofNat 0)) 1)) := rfl
set_option maxRecDepth 100000 in
theorem y170_293 : iv_f1 (iv_p 170) 293 = some (.inl (iv_oK (.int (Int32.ofNat 0)) 1)) := rfl
set_option maxRecDepth 100000 in
theorem y170_294 : iv_f1 (iv_p 170) 294 = some (.inl (iv_oK (.int (Int32.ofNat 0)) 1)) := rfl
set_option maxRecDepth 100000 in
theorem y170_295 : iv_f1 (iv_p 170) 295 = some (.inr (.inr (4, 169, 7, 0))) := rfl
set_option maxRecDepth 100000 in
theorem y170_298 : iv_f1 (iv_p 170) 298 = some (.inr (.inl 3)) := rfl
set_option maxRecDepth 100000 in
theorem y170_299 : iv_f1 (iv_p 170) 299 = some (.inl (iv_oK (.int (Int32.ofNat 100)) 2)) := rfl
set_option maxRecDepth 100000 in
theorem y170_301 : iv_f1 (iv_p 170) 301 = some (.inl (iv_oK (.int (Int32.ofNat 97)) 2)) := rfl
set_option maxRecDepth 100000 in
theorem y170_303 : iv_f1 (iv_p 170) 303 = some (.inl (iv_oK (.int (Int32.ofNat 121)) 2)) := rfl
set_option maxRecDepth 100000 in
theorem y170_305 : iv_f1 (iv_p 170) 305 = some (.inl (iv_oK (.int (Int32.ofNat 0)) 1)) := rfl
set_option maxRecDepth 100000 in
theorem y170_306 : iv_f1 (iv_p 170) 306 = some (.inl (iv_oK (.int (Int32.ofNat 0)) 1)) := rfl
set_option maxRecDepth 100000 in
theorem y170_307 : iv_f1 (iv_p 170) 307 = some (.inl (iv_oK (.int (Int32.ofNat 0)) 1)) := rfl
set_option maxRecDepth 100000 in
theorem y170_308 : iv_f1 (iv_p 170) 308 = some (.inl (iv_oK (.int (Int32.ofNat 0)) 1)) := rfl
set_option maxRecDepth 100000 in
theorem y170_309 : iv_f1 (iv_p 170) 309 = some (.inr (.inr (4, 169, 7, 0))) := rfl
set_option maxRecDepth 100000 in
theorem y170_312 : iv_f1 (iv_p 170) 312 = some (.inr (.inl 3)) := rfl
set_option maxRecDepth 100000 in
theorem y170_313 : iv_f1 (iv_p 170) 313 = some (.inl (iv_oK (.int (Int32.ofNat 102)) 2)) := rfl
set_option maxRecDepth 100000 in
theorem y170_315 : iv_f1 (iv_p 170) 315 = some (.inl (iv_oK (.int (Int32.ofNat 105)) 2)) := rfl
set_option maxRecDepth 100000 in
theorem y170_317 : iv_f1 (iv_p 170) 317 = some (.inl (iv_oK (.int (Int32.ofNat 110)) 2)) := rfl
set_option maxRecDepth 100000 in
theorem y170_319 : iv_f1 (iv_p 170) 319 = some (.inl (iv_oK (.int (Int32.ofNat 101)) 2)) := rfl
set_option maxRecDepth 100000 in
theorem y170_321 : iv_f1 (iv_p 170) 321 = some (.inl (iv_oK (.int (Int32.ofNat 0)) 1)) := rfl
set_option maxRecDepth 100000 in
theorem y170_322 : iv_f1 (iv_p 170) 322 = some (.inl (iv_oK (.int (Int32.ofNat 0)) 1)) := rfl
set_option maxRecDepth 100000 in
theorem y170_323 : iv_f1 (iv_p 170) 323 = some (.inl (iv_oK (.int (Int32.ofNat 0)) 1)) := rfl
set_option maxRecDepth 100000 in
theorem y170_324 : iv_f1 (iv_p 170) 324 = some (.inr (.inr (4, 169, 7, 0))) := rfl
set_option maxRecDepth 100000 in
theorem y170_327 : iv_f1 (iv_p 170) 327 = some (.inr (.inl 3)) := rfl
set_option maxRecDepth 100000 in
theorem y170_328 : iv_f1 (iv_p 170) 328 = some (.inl (iv_oK (.int (Int32.ofNat 99)) 2)) := rfl
set_option maxRecDepth 100000 in
theorem y170_330 : iv_f1 (iv_p 170) 330 = some (.inl (iv_oK (.int (Int32.ofNat 111)) 2)) := rfl
set_option maxRecDepth 100000 in
theorem y170_332 : iv_f1 (iv_p 170) 332 = some (.inl (iv_oK (.int (Int32.ofNat 97)) 2)) := rfl
set_option maxRecDepth 100000 in
theorem y170_334 : iv_f1 (iv_p 170) 334 = some (.inl (iv_oK (.int (Int32.ofNat 114)) 2)) := rfl
set_option maxRecDepth 100000 in
theorem y170_336 : iv_f1 (iv_p 170) 336 = some (.inl (iv_oK (.int (Int32.ofNat 115)) 2)) := rfl
set_option maxRecDepth 100000 in
theorem y170_338 : iv_f1 (iv_p 170) 338 = some (.inl (iv_oK (.int (Int32.ofNat 101)) 2)) := rfl
set_option maxRecDepth 100000 in
theorem y170_340 : iv_f1 (iv_p 170) 340 = some (.inl (iv_oK (.int (Int32.ofNat 0)) 1)) := rfl
set_option maxRecDepth 100000 in
theorem y170_341 : iv_f1 (iv_p 170) 341 = some (.inr (.inr (4, 169, 7, 0))) := rfl
set_option maxRecDepth 100000 in
theorem y170_344 : iv_f1 (iv_p 170) 344 = some (.inr (.inl 3)) := rfl
set_option maxRecDepth 100000 in
theorem y170_345 : iv_f1 (iv_p 170) 345 = some (.inl (iv_oK (.int (Int32.ofNat 115)) 2)) := rfl
set_option maxRecDepth 100000 in
theorem y170_347 : iv_f1 (iv_p 170) 347 = some (.inl (iv_oK (.int (Int32.ofNat 108)) 2)) := rfl
set_option maxRecDepth 100000 in
theorem y170_349 : iv_f1 (iv_p 170) 349 = some (.inl (iv_oK (.int (Int32.ofNat 105)) 2)) := rfl
set_option maxRecDepth 100000 in
theorem y170_351 : iv_f1 (iv_p 170) 351 = some (.inl (iv_oK (.int (Int32.ofNat 99)) 2)) := rfl
set_option maxRecDepth 100000 in
theorem y170_353 : iv_f1 (iv_p 170) 353 = some (.inl (iv_oK (.int (Int32.ofNat 101)) 2)) := rfl
set_option maxRecDepth 100000 in
theorem y170_355 : iv_f1 (iv_p 170) 355 = some (.inl (iv_oK (.int (Int32.ofNat 0)) 1)) := rfl
set_option maxRecDepth 100000 in
theorem y170_356 : iv_f1 (iv_p 170) 356 = some (.inl (iv_oK (.int (Int32.ofNat 0)) 1)) := rfl
set_option maxRecDepth 100000 in
theorem y170_357 : iv_f1 (iv_p 170) 357 = some (.inr (.inr (4, 169, 7, 0))) := rfl
set_option maxRecDepth 100000 in
theorem y170_360 : iv_f1 (iv_p 170) 360 = some (.inr (.inl 3)) := rfl
set_option maxRecDepth 100000 in
theorem y170_361 : iv_f1 (iv_p 170) 361 = some (.inl (iv_oK (.int (Int32.ofNat 111)) 2)) := rfl
set_option maxRecDepth 100000 in
theorem y170_363 : iv_f1 (iv_p 170) 363 = some (.inl (iv_oK (.int (Int32.ofNat 114)) 2)) := rfl
set_option maxRecDepth 100000 in
theorem y170_365 : iv_f1 (iv_p 170) 365 = some (.inl (iv_oK (.int (Int32.ofNat 0)) 1)) := rfl
set_option maxRecDepth 100000 in
theorem y170_366 : iv_f1 (iv_p 170) 366 = some (.inl (iv_oK (.int (Int32.ofNat 0)) 1)) := rfl
set_option maxRecDepth 100000 in
theorem y170_367 : iv_f1 (iv_p 170) 367 = some (.inl (iv_oK (.int (Int32.ofNat 0)) 1)) := rfl
set_option maxRecDepth 100000 in
theorem y170_368 : iv_f1 (iv_p 170) 368 = some (.inl (iv_oK (.int (Int32.ofNat 0)) 1)) := rfl
set_option maxRecDepth 100000 in
theorem y170_369 : iv_f1 (iv_p 170) 369 = some (.inl (iv_oK (.int (Int32.ofNat 0)) 1)) := rfl
set_option maxRecDepth 100000 in
theorem y170_370 : iv_f1 (iv_p 170) 370 = some (.inr (.inr (4, 169, 7, 0))) := rfl
set_option maxRecDepth 100000 in
theorem y170_373 : iv_f1 (iv_p 170) 373 = some (.inr (.inl 3)) := rfl
set_option maxRecDepth 100000 in
theorem y170_374 : iv_f1 (iv_p 170) 374 = some (.inl (iv_oK (.int (Int32.ofNat 97)) 2)) := rfl
set_option maxRecDepth 100000 in
theorem y170_376 : iv_f1 (iv_p 170) 376 = some (.inl (iv_oK (.int (Int32.ofNat 110)) 2)) := rfl
set_option maxRecDepth 100000 in
theorem y170_378 : iv_f1 (iv_p 170) 378 = some (.inl (iv_oK (.int (Int32.ofNat 100)) 2)) := rfl
set_option maxRecDepth 100000 in
theorem y170_380 : iv_f1 (iv_p 170) 380 = some (.inl (iv_oK (.int (Int32.ofNat 0)) 1)) := rfl
set_option maxRecDepth 100000 in
theorem y170_381 : iv_f1 (iv_p 170) 381 = some (.inl (iv_oK (.int (Int32.ofNat 0)) 1)) := rfl
set_option maxRecDepth 100000 in
theorem y170_382 : iv_f1 (iv_p 170) 382 = some (.inl (iv_oK (.int (Int32.ofNat 0)) 1)) := rfl
set_option maxRecDepth 100000 in
theorem y170_383 : iv_f1 (iv_p 170) 383 = some (.inl (iv_oK (.int (Int32.ofNat 0)) 1)) := rfl
set_option maxRecDepth 100000 in
theorem y170_384 : iv_f1 (iv_p 170) 384 = some (.inr (.inr (4, 169, 7, 0))) := rfl
set_option maxRecDepth 100000 in
theorem y170_387 : iv_f1 (iv_p 170) 387 = some (.inr (.inl 3)) := rfl
set_option maxRecDepth 100000 in
theorem y170_388 : iv_f1 (iv_p 170) 388 = some (.inl (iv_oK (.int (Int32.ofNat 110)) 2)) := rfl
set_option maxRecDepth 100000 in
theorem y170_390 : iv_f1 (iv_p 170) 390 = some (.inl (iv_oK (.int (Int32.ofNat 111)) 2)) := rfl
set_option maxRecDepth 100000 in
theorem y170_392 : iv_f1 (iv_p 170) 392 = some (.inl (iv_oK (.int (Int32.ofNat 116)) 2)) := rfl
set_option maxRecDepth 100000 in
theorem y170_394 : iv_f1 (iv_p 170) 394 = some (.inl (iv_oK (.int (Int32.ofNat 0)) 1)) := rfl
set_option maxRecDepth 100000 in
theorem y170_395 : iv_f1 (iv_p 170) 395 = some (.inl (iv_oK (.int (Int32.ofNat 0)) 1)) := rfl
set_option maxRecDepth 100000 in
theorem y170_396 : iv_f1 (iv_p 170) 396 = some (.inl (iv_oK (.int (Int32.ofNat 0)) 1)) := rfl
set_option maxRecDepth 100000 in
theorem y170_397 : iv_f1 (iv_p 170) 397 = some (.inl (iv_oK (.int (Int32.ofNat 0)) 1)) := rfl
set_option maxRecDepth 100000 in
theorem y170_398 : iv_f1 (iv_p 170) 398 = some (.inr (.inr (4, 169, 7, 0))) := rfl
set_option maxRecDepth 100000 in
theorem y170_401 : iv_f1 (iv_p 170) 401 = some (.inr (.inl 3)) := rfl
set_option maxRecDepth 100000 in
theorem y170_402 : iv_f1 (iv_p 170) 402 = some (.inl (iv_oK (.int (Int32.ofNat 103)) 2)) := rfl
set_option maxRecDepth 100000 in
theorem y170_404 : iv_f1 (iv_p 170) 404 = some (.inl (iv_oK (.int (Int32.ofNat 111)) 2)) := rfl
set_option maxRecDepth 100000 in
theorem y170_406 : iv_f1 (iv_p 170) 406 = some (.inl (iv_oK (.int (Int32.ofNat 110)) 2)) := rfl
set_option maxRecDepth 100000 in
theorem y170_408 : iv_f1 (iv_p 170) 408 = some (.inl (iv_oK (.int (Int32.ofNat 101)) 2)) := rfl
set_option maxRecDepth 100000 in
theorem y170_410 : iv_f1 (iv_p 170) 410 = some (.inl (iv_oK (.int (Int32.ofNat 0)) 1)) := rfl
set_option maxRecDepth 100000 in
theorem y170_411 : iv_f1 (iv_p 170) 411 = some (.inl (iv_oK (.int (Int32.ofNat 0)) 1)) := rfl
set_option maxRecDepth 100000 in
theorem y170_412 : iv_f1 (iv_p 170) 412 = some (.inl (iv_oK (.int (Int32.ofNat 0)) 1)) := rfl
set_option maxRecDepth 100000 in
theorem y170_413 : iv_f1 (iv_p 170) 413 = some (.inr (.inr (4, 169, 7, 0))) := rfl
set_option maxRecDepth 100000 in
theorem y170_416 : iv_f1 (iv_p 170) 416 = some (.inr (.inl 3)) := rfl
set_option maxRecDepth 100000 in
theorem y170_417 : iv_f1 (iv_p 170) 417 = some (.inl (iv_oK (.int (Int32.ofNat 119)) 2)) := rfl
set_option maxRecDepth 100000 in
theorem y170_419 : iv_f1 (iv_p 170) 419 = some (.inl (iv_oK (.int (Int32.ofNat 104)) 2)) := rfl
set_option maxRecDepth 100000 in
theorem y170_421 : iv_f1 (iv_p 170) 421 = some (.inl (iv_oK (.int (Int32.ofNat 111)) 2)) := rfl
set_option maxRecDepth 100000 in
theorem y170_423 : iv_f1 (iv_p 170) 423 = some (.inl (iv_oK (.int (Int32.ofNat 108)) 2)) := rfl
set_option maxRecDepth 100000 in
theorem y170_425 : iv_f1 (iv_p 170) 425 = some (.inl (iv_oK (.int (Int32.ofNat 101)) 2)) := rfl
set_option maxRecDepth 100000 in
theorem y170_427 : iv_f1 (iv_p 170) 427 = some (.inl (iv_oK (.int (Int32.ofNat 0)) 1)) := rfl
set_option maxRecDepth 100000 in
theorem y170_428 : iv_f1 (iv_p 170) 428 = some (.inl (iv_oK (.int (Int32.ofNat 0)) 1)) := rfl
set_option maxRecDepth 100000 in
theorem y170_429 : iv_f1 (iv_p 170) 429 = some (.inr (.inr (4, 169, 7, 0))) := rfl
set_option maxRecDepth 100000 in
theorem y170_432 : iv_f1 (iv_p 170) 432 = some (.inr (.inl 3)) := rfl
set_option maxRecDepth 100000 in
theorem y170_433 : iv_f1 (iv_p 170) 433 = some (.inl (iv_oK (.int (Int32.ofNat 97)) 2)) := rfl
set_option maxRecDepth 100000 in
theorem y170_435 : iv_f1 (iv_p 170) 435 = some (.inl (iv_oK (.int (Int32.ofNat 114)) 2)) := rfl
set_option maxRecDepth 100000 in
theorem y170_437 : iv_f1 (iv_p 170) 437 = some (.inl (iv_oK (.int (Int32.ofNat 109)) 2)) := rfl
set_option maxRecDepth 100000 in
theorem y170_439 : iv_f1 (iv_p 170) 439 = some (.inl (iv_oK (.int (Int32.ofNat 101)) 2)) := rfl
set_option maxRecDepth 100000 in
theorem y170_441 : iv_f1 (iv_p 170) 441 = some (.inl (iv_oK (.int (Int32.ofNat 100)) 2)) := rfl
set_option maxRecDepth 100000 in
theorem y170_443 : iv_f1 (iv_p 170) 443 = some (.inl (iv_oK (.int (Int32.ofNat 0)) 1)) := rfl
set_option maxRecDepth 100000 in
theorem y170_444 : iv_f1 (iv_p 170) 444 = some (.inl (iv_oK (.int (Int32.ofNat 0)) 1)) := rfl
set_option maxRecDepth 100000 in
theorem y170_445 : iv_f1 (iv_p 170) 445 = some (.inr (.inr (4, 169, 7, 0))) := rfl
set_option maxRecDepth 100000 in
theorem y170_448 : iv_f1 (iv_p 170) 448 = some (.inr (.inl 3)) := rfl
set_option maxRecDepth 100000 in
theorem y170_449 : iv_f1 (iv_p 170) 449 = some (.inl (iv_oK (.int (Int32.ofNat 114)) 2)) := rfl
set_option maxRecDepth 100000 in
theorem y170_451 : iv_f1 (iv_p 170) 451 = some (.inl (iv_oK (.int (Int32.ofNat 111)) 2)) := rfl
set_option maxRecDepth 100000 in
theorem y170_453 : iv_f1 (iv_p 170) 453 = some (.inl (iv_oK (.int (Int32.ofNat 98)) 2)) := rfl
set_option maxRecDepth 100000 in
theorem y170_455 : iv_f1 (iv_p 170) 455 = some (.inl (iv_oK (.int (Int32.ofNat 98)) 2)) := rfl
set_option maxRecDepth 100000 in
theorem y170_457 : iv_f1 (iv_p 170) 457 = some (.inl (iv_oK (.int (Int32.ofNat 101)) 2)) := rfl
set_option maxRecDepth 100000 in
theorem y170_459 : iv_f1 (iv_p 170) 459 = some (.inl (iv_oK (.int (Int32.ofNat 100)) 2)) := rfl
set_option maxRecDepth 100000 in
theorem y170_461 : iv_f1 (iv_p 170) 461 = some (.inl (iv_oK (.int (Int32.ofNat 0)) 1)) := rfl
set_option maxRecDepth 100000 in
theorem y170_462 : iv_f1 (iv_p 170) 462 = some (.inr (.inr (4, 169, 7, 0))) := rfl
set_option maxRecDepth 100000 in
theorem y170_465 : iv_f1 (iv_p 170) 465 = some (.inr (.inl 3)) := rfl
set_option maxRecDepth 100000 in
theorem y170_466 : iv_f1 (iv_p 170) 466 = some (.inl (iv_oK (.int (Int32.ofNat 119)) 2)) := rfl
set_option maxRecDepth 100000 in
theorem y170_468 : iv_f1 (iv_p 170) 468 = some (.inl (iv_oK (.int (Int32.ofNat 105)) 2)) := rfl
set_option maxRecDepth 100000 in
theorem y170_470 : iv_f1 (iv_p 170) 470 = some (.inl (iv_oK (.int (Int32.ofNat 116)) 2)) := rfl
set_option maxRecDepth 100000 in
theorem y170_472 : iv_f1 (iv_p 170) 472 = some (.inl (iv_oK (.int (Int32.ofNat 104)) 2)) := rfl
set_option maxRecDepth 100000 in
theorem y170_474 : iv_f1 (iv_p 170) 474 = some (.inl (iv_oK (.int (Int32.ofNat 0)) 1)) := rfl
set_option maxRecDepth 100000 in
theorem y170_475 : iv_f1 (iv_p 170) 475 = some (.inl (iv_oK (.int (Int32.ofNat 0)) 1)) := rfl
set_option maxRecDepth 100000 in
theorem y170_476 : iv_f1 (iv_p 170) 476 = some (.inl (iv_oK (.int (Int32.ofNat 0)) 1)) := rfl
set_option maxRecDepth 100000 in
theorem y170_477 : iv_f1 (iv_p 170) 477 = some (.inr (.inr (4, 169, 7, 0))) := rfl
set_option maxRecDepth 100000 in
theorem y170_480 : iv_f1 (iv_p 170) 480 = some (.inr (.inl 3)) := rfl
set_option maxRecDepth 100000 in
theorem y170_481 : iv_f1 (iv_p 170) 481 = some (.inl (iv_oK (.int (Int32.ofNat 108)) 2)) := rfl
set_option maxRecDepth 100000 in
theorem y170_483 : iv_f1 (iv_p 170) 483 = some (.inl (iv_oK (.int (Int32.ofNat 101)) 2)) := rfl
set_option maxRecDepth 100000 in
theorem y170_485 : iv_f1 (iv_p 170) 485 = some (.inl (iv_oK (.int (Int32.ofNat 102)) 2)) := rfl
set_option maxRecDepth 100000 in
theorem y170_487 : iv_f1 (iv_p 170) 487 = some (.inl (iv_oK (.int (Int32.ofNat 116)) 2)) := rfl
set_option maxRecDepth 100000 in
theorem y170_489 : iv_f1 (iv_p 170) 489 = some (.inl (iv_oK (.int (Int32.ofNat 0)) 1)) := rfl
set_option maxRecDepth 100000 in
theorem y170_490 : iv_f1 (iv_p 170) 490 = some (.inl (iv_oK (.int (Int32.ofNat 0)) 1)) := rfl
set_option maxRecDepth 100000 in
theorem y170_491 : iv_f1 (iv_p 170) 491 = some (.inl (iv_oK (.int (Int32.ofNat 0)) 1)) := rfl
set_option maxRecDepth 100000 in
theorem y170_492 : iv_f1 (iv_p 170) 492 = some (.inr (.inr (4, 169, 7, 0))) := rfl
set_option maxRecDepth 100000 in
theorem y170_495 : iv_f1 (iv_p 170) 495 = some (.inr (.inl 3)) := rfl
set_option maxRecDepth 100000 in
theorem y170_496 : iv_f1 (iv_p 170) 496 = some (.inl (iv_oK (.int (Int32.ofNat 116)) 2)) := rfl
set_option maxRecDepth 100000 in
theorem y170_498 : iv_f1 (iv_p 170) 498 = some (.inl (iv_oK (.int (Int32.ofNat 111)) 2)) := rfl
set_option maxRecDepth 100000 in
theorem y170_500 : iv_f1 (iv_p 170) 500 = some (.inl (iv_oK (.int (Int32.ofNat 100)) 2)) := rfl
set_option maxRecDepth 100000 in
theorem y170_502 : iv_f1 (iv_p 170) 502 = some (.inl (iv_oK (.int (Int32.ofNat 97)) 2)) := rfl
set_option maxRecDepth 100000 in
theorem y170_504 : iv_f1 (iv_p 170) 504 = some (.inl (iv_oK (.int (Int32.ofNat 121)) 2)) := rfl
set_option maxRecDepth 100000 in
theorem y170_506 : iv_f1 (iv_p 170) 506 = some (.inl (iv_oK (.int (Int32.ofNat 0)) 1)) := rfl
set_option maxRecDepth 100000 in
theorem y170_507 : iv_f1 (iv_p 170) 507 = some (.inl (iv_oK (.int (Int32.ofNat 0)) 1)) := rfl
set_option maxRecDepth 100000 in
theorem y170_508 : iv_f1 (iv_p 170) 508 = some (.inr (.inr (4, 169, 7, 0))) := rfl
set_option maxRecDepth 100000 in
theorem y170_511 : iv_f1 (iv_p 170) 511 = some (.inr (.inl 3)) := rfl
set_option maxRecDepth 100000 in
theorem y170_512 : iv_f1 (iv_p 170) 512 = some (.inl (iv_oK (.int (Int32.ofNat 104)) 2)) := rfl
set_option maxRecDepth 100000 in
theorem y170_514 : iv_f1 (iv_p 170) 514 = some (.inl (iv_oK (.int (Int32.ofNat 117)) 2)) := rfl
set_option maxRecDepth 100000 in
theorem y170_516 : iv_f1 (iv_p 170) 516 = some (.inl (iv_oK (.int (Int32.ofNat 114)) 2)) := rfl
set_option maxRecDepth 100000 in
theorem y170_518 : iv_f1 (iv_p 170) 518 = some (.inl (iv_oK (.int (Int32.ofNat 116)) 2)) := rfl
set_option maxRecDepth 100000 in
theorem y170_520 : iv_f1 (iv_p 170) 520 = some (.inl (iv_oK (.int (Int32.ofNat 0)) 1)) := rfl
set_option maxRecDepth 100000 in
theorem y170_521 : iv_f1 (iv_p 170) 521 = some (.inl (iv_oK (.int (Int32.ofNat 0)) 1)) := rfl
set_option maxRecDepth 100000 in
theorem y170_522 : iv_f1 (iv_p 170) 522 = some (.inl (iv_oK (.int (Int32.ofNat 0)) 1)) := rfl
set_option maxRecDepth 100000 in
theorem y170_523 : iv_f1 (iv_p 170) 523 = some (.inr (.inr (4, 169, 7, 0))) := rfl
set_option maxRecDepth 100000 in
theorem y170_526 : iv_f1 (iv_p 170) 526 = some (.inr (.inl 3)) := rfl
set_option maxRecDepth 100000 in
theorem y170_527 : iv_f1 (iv_p 170) 527 = some (.inl (iv_oK (.int (Int32.ofNat 110)) 2)) := rfl
set_option maxRecDepth 100000 in
theorem y170_529 : iv_f1 (iv_p 170) 529 = some (.inl (iv_oK (.int (Int32.ofNat 117)) 2)) := rfl
set_option maxRecDepth 100000 in
theorem y170_531 : iv_f1 (iv_p 170) 531 = some (.inl (iv_oK (.int (Int32.ofNat 109)) 2)) := rfl
set_option maxRecDepth 100000 in
theorem y170_533 : iv_f1 (iv_p 170) 533 = some (.inl (iv_oK (.int (Int32.ofNat 98)) 2)) := rfl
set_option maxRecDepth 100000 in
theorem y170_535 : iv_f1 (iv_p 170) 535 = some (.inl (iv_oK (.int (Int32.ofNat 101)) 2)) := rfl
set_option maxRecDepth 100000 in
theorem y170_537 : iv_f1 (iv_p 170) 537 = some (.inl (iv_oK (.int (Int32.ofNat 114)) 2)) := rfl
set_option maxRecDepth 100000 in
theorem y170_539 : iv_f1 (iv_p 170) 539 = some (.inl (iv_oK (.int (Int32.ofNat 0)) 1)) := rfl
set_option maxRecDepth 100000 in
theorem y170_540 : iv_f1 (iv_p 170) 540 = some (.inr (.inr (4, 169, 7, 0))) := rfl
set_option maxRecDepth 100000 in
theorem y170_543 : iv_f1 (iv_p 170) 543 = some (.inr (.inl 3)) := rfl
def yWl : List (List Nat) := [[98, 114, 111, 116, 104, 101, 114], [103, 114, 97, 116, 101, 114, 0], [104, 111, 108, 100, 115, 0, 0], [101, 118, 101, 110, 0, 0, 0], [102, 105, 108, 101, 115, 0, 0], [100, 114, 97, 117, 103, 104, 116], [103, 114, 97, 116, 101, 115, 0], [116, 97, 107, 101, 115, 0, 0], [112, 117, 116, 115, 0, 0, 0], [115, 119, 97, 112, 115, 0, 0], [102, 105, 108, 101, 0, 0, 0], [100, 97, 121, 0, 0, 0, 0], [102, 105, 110, 101, 0, 0, 0], [99, 111, 97, 114, 115, 101, 0], [115, 108, 105, 99, 101, 0, 0], [111, 114, 0, 0, 0, 0, 0], [97, 110, 100, 0, 0, 0, 0], [110, 111, 116, 0, 0, 0, 0], [103, 111, 110, 101, 0, 0, 0], [119, 104, 111, 108, 101, 0, 0], [97, 114, 109, 101, 100, 0, 0], [114, 111, 98, 98, 101, 100, 0], [119, 105, 116, 104, 0, 0, 0], [108, 101, 102, 116, 0, 0, 0], [116, 111, 100, 97, 121, 0, 0], [104, 117, 114, 116, 0, 0, 0], [110, 117, 109, 98, 101, 114, 0]]
def yWv (k : Nat) : Int64 := match iv_nth yWl k with
  | some [a, b, c, e, f, h, i] => yspl a b c e f h i
  | _ => 0
theorem ym_wo0 {L : Nat} {xs : Nat → Int32} {d : Nat} {σ : iv_H} : iv_Rn L xs (d + 1) 170 0 (lv_args 0 [.int (Int32.ofNat 0)]) [] σ (some (.long (yWv 0))) σ := by
  refine y_Rp ?_
  refine w_I y170_0 rfl ?_
  refine y_ts (t := 120) y170_1 rfl ?_
  refine w_K y170_120 ?_
  refine w_K y170_122 ?_
  refine w_K y170_124 ?_
  refine w_K y170_126 ?_
  refine w_K y170_128 ?_
  refine w_K y170_130 ?_
  refine w_K y170_132 ?_
  refine y_call y170_134 (y_args4 rfl rfl) rfl (ym_spl (by decide) (by decide) (by decide) (by decide) (by decide)) ?_
  exact y_J3 y170_137 ⟨rfl, rfl⟩
theorem ym_wo1 {L : Nat} {xs : Nat → Int32} {d : Nat} {σ : iv_H} : iv_Rn L xs (d + 1) 170 0 (lv_args 0 [.int (Int32.ofNat 1)]) [] σ (some (.long (yWv 1))) σ := by
  refine y_Rp ?_
  refine w_I y170_0 rfl ?_
  refine y_ts (t := 138) y170_1 rfl ?_
  refine w_K y170_138 ?_
  refine w_K y170_140 ?_
  refine w_K y170_142 ?_
  refine w_K y170_144 ?_
  refine w_K y170_146 ?_
  refine w_K y170_148 ?_
  refine w_K y170_150 ?_
  refine y_call y170_151 (y_args4 rfl rfl) rfl (ym_spl (by decide) (by decide) (by decide) (by decide) (by decide)) ?_
  exact y_J3 y170_154 ⟨rfl, rfl⟩
theorem ym_wo2 {L : Nat} {xs : Nat → Int32} {d : Nat} {σ : iv_H} : iv_Rn L xs (d + 1) 170 0 (lv_args 0 [.int (Int32.ofNat 2)]) [] σ (some (.long (yWv 2))) σ := by
  refine y_Rp ?_
  refine w_I y170_0 rfl ?_
  refine y_ts (t := 155) y170_1 rfl ?_
  refine w_K y170_155 ?_
  refine w_K y170_157 ?_
  refine w_K y170_159 ?_
  refine w_K y170_161 ?_
  refine w_K y170_163 ?_
  refine w_K y170_165 ?_
  refine w_K y170_166 ?_
  refine y_call y170_167 (y_args4 rfl rfl) rfl (ym_spl (by decide) (by decide) (by decide) (by decide) (by decide)) ?_
  exact y_J3 y170_170 ⟨rfl, rfl⟩
theorem ym_wo3 {L : Nat} {xs : Nat → Int32} {d : Nat} {σ : iv_H} : iv_Rn L xs (d + 1) 170 0 (lv_args 0 [.int (Int32.ofNat 3)]) [] σ (some (.long (yWv 3))) σ := by
  refine y_Rp ?_
  refine w_I y170_0 rfl ?_
  refine y_ts (t := 171) y170_1 rfl ?_
  refine w_K y170_171 ?_
  refine w_K y170_173 ?_
  refine w_K y170_175 ?_
  refine w_K y170_177 ?_
  refine w_K y170_179 ?_
  refine w_K y170_180 ?_
  refine w_K y170_181 ?_
  refine y_call y170_182 (y_args4 rfl rfl) rfl (ym_spl (by decide) (by decide) (by decide) (by decide) (by decide)) ?_
  exact y_J3 y170_185 ⟨rfl, rfl⟩
theorem ym_wo4 {L : Nat} {xs : Nat → Int32} {d : Nat} {σ : iv_H} : iv_Rn L xs (d + 1) 170 0 (lv_args 0 [.int (Int32.ofNat 4)]) [] σ (some (.long (yWv 4))) σ := by
  refine y_Rp ?_
  refine w_I y170_0 rfl ?_
  refine y_ts (t := 186) y170_1 rfl ?_
  refine w_K y170_186 ?_
  refine w_K y170_188 ?_
  refine w_K y170_190 ?_
  refine w_K y170_192 ?_
  refine w_K y170_194 ?_
  refine w_K y170_196 ?_
  refine w_K y170_197 ?_
  refine y_call y170_198 (y_args4 rfl rfl) rfl (ym_spl (by decide) (by decide) (by decide) (by decide) (by decide)) ?_
  exact y_J3 y170_201 ⟨rfl, rfl⟩
theorem ym_wo5 {L : Nat} {xs : Nat → Int32} {d : Nat} {σ : iv_H} : iv_Rn L xs (d + 1) 170 0 (lv_args 0 [.int (Int32.ofNat 5)]) [] σ (some (.long (yWv 5))) σ := by
  refine y_Rp ?_
  refine w_I y170_0 rfl ?_
  refine y_ts (t := 202) y170_1 rfl ?_
  refine w_K y170_202 ?_
  refine w_K y170_204 ?_
  refine w_K y170_206 ?_
  refine w_K y170_208 ?_
  refine w_K y170_210 ?_
  refine w_K y170_212 ?_
  refine w_K y170_214 ?_
  refine y_call y170_216 (y_args4 rfl rfl) rfl (ym_spl (by decide) (by decide) (by decide) (by decide) (by decide)) ?_
  exact y_J3 y170_219 ⟨rfl, rfl⟩
theorem ym_wo6 {L : Nat} {xs : Nat → Int32} {d : Nat} {σ : iv_H} : iv_Rn L xs (d + 1) 170 0 (lv_args 0 [.int (Int32.ofNat 6)]) [] σ (some (.long (yWv 6))) σ := by
  refine y_Rp ?_
  refine w_I y170_0 rfl ?_
  refine y_ts (t := 220) y170_1 rfl ?_
  refine w_K y170_220 ?_
  refine w_K y170_222 ?_
  refine w_K y170_224 ?_
  refine w_K y170_226 ?_
  refine w_K y170_228 ?_
  refine w_K y170_230 ?_
  refine w_K y170_232 ?_
  refine y_call y170_233 (y_args4 rfl rfl) rfl (ym_spl (by decide) (by decide) (by decide) (by decide) (by decide)) ?_
  exact y_J3 y170_236 ⟨rfl, rfl⟩
theorem ym_wo7 {L : Nat} {xs : Nat → Int32} {d : Nat} {σ : iv_H} : iv_Rn L xs (d + 1) 170 0 (lv_args 0 [.int (Int32.ofNat 7)]) [] σ (some (.long (yWv 7))) σ := by
  refine y_Rp ?_
  refine w_I y170_0 rfl ?_
  refine y_ts (t := 237) y170_1 rfl ?_
  refine w_K y170_237 ?_
  refine w_K y170_239 ?_
  refine w_K y170_241 ?_
  refine w_K y170_243 ?_
  refine w_K y170_245 ?_
  refine w_K y170_247 ?_
  refine w_K y170_248 ?_
  refine y_call y170_249 (y_args4 rfl rfl) rfl (ym_spl (by decide) (by decide) (by decide) (by decide) (by decide)) ?_
  exact y_J3 y170_252 ⟨rfl, rfl⟩
theorem ym_wo8 {L : Nat} {xs : Nat → Int32} {d : Nat} {σ : iv_H} : iv_Rn L xs (d + 1) 170 0 (lv_args 0 [.int (Int32.ofNat 8)]) [] σ (some (.long (yWv 8))) σ := by
  refine y_Rp ?_
  refine w_I y170_0 rfl ?_
  refine y_ts (t := 253) y170_1 rfl ?_
  refine w_K y170_253 ?_
  refine w_K y170_255 ?_
  refine w_K y170_257 ?_
  refine w_K y170_259 ?_
  refine w_K y170_261 ?_
  refine w_K y170_262 ?_
  refine w_K y170_263 ?_
  refine y_call y170_264 (y_args4 rfl rfl) rfl (ym_spl (by decide) (by decide) (by decide) (by decide) (by decide)) ?_
  exact y_J3 y170_267 ⟨rfl, rfl⟩
theorem ym_wo9 {L : Nat} {xs : Nat → Int32} {d : Nat} {σ : iv_H} : iv_Rn L xs (d + 1) 170 0 (lv_args 0 [.int (Int32.ofNat 9)]) [] σ (some (.long (yWv 9))) σ := by
  refine y_Rp ?_
  refine w_I y170_0 rfl ?_
  refine y_ts (t := 268) y170_1 rfl ?_
  refine w_K y170_268 ?_
  refine w_K y170_270 ?_
  refine w_K y170_272 ?_
  refine w_K y170_274 ?_
  refine w_K y170_276 ?_
  refine w_K y170_278 ?_
  refine w_K y170_279 ?_
  refine y_call y170_280 (y_args4 rfl rfl) rfl (ym_spl (by decide) (by decide) (by decide) (by decide) (by decide)) ?_
  exact y_J3 y170_283 ⟨rfl, rfl⟩
theorem ym_wo10 {L : Nat} {xs : Nat → Int32} {d : Nat} {σ : iv_H} : iv_Rn L xs (d + 1) 170 0 (lv_args 0 [.int (Int32.ofNat 10)]) [] σ (some (.long (yWv 10))) σ := by
  refine y_Rp ?_
  refine w_I y170_0 rfl ?_
  refine y_ts (t := 284) y170_1 rfl ?_
  refine w_K y170_284 ?_
  refine w_K y170_286 ?_
  refine w_K y170_288 ?_
  refine w_K y170_290 ?_
  refine w_K y170_292 ?_
  refine w_K y170_293 ?_
  refine w_K y170_294 ?_
  refine y_call y170_295 (y_args4 rfl rfl) rfl (ym_spl (by decide) (by decide) (by decide) (by decide) (by decide)) ?_
  exact y_J3 y170_298 ⟨rfl, rfl⟩
theorem ym_wo11 {L : Nat} {xs : Nat → Int32} {d : Nat} {σ : iv_H} : iv_Rn L xs (d + 1) 170 0 (lv_args 0 [.int (Int32.ofNat 11)]) [] σ (some (.long (yWv 11))) σ := by
  refine y_Rp ?_
  refine w_I y170_0 rfl ?_
  refine y_ts (t := 299) y170_1 rfl ?_
  refine w_K y170_299 ?_
  refine w_K y170_301 ?_
  refine w_K y170_303 ?_
  refine w_K y170_305 ?_
  refine w_K y170_306 ?_
  refine w_K y170_307 ?_
  refine w_K y170_308 ?_
  refine y_call y170_309 (y_args4 rfl rfl) rfl (ym_spl (by decide) (by decide) (by decide) (by decide) (by decide)) ?_
  exact y_J3 y170_312 ⟨rfl, rfl⟩
theorem ym_wo12 {L : Nat} {xs : Nat → Int32} {d : Nat} {σ : iv_H} : iv_Rn L xs (d + 1) 170 0 (lv_args 0 [.int (Int32.ofNat 12)]) [] σ (some (.long (yWv 12))) σ := by
  refine y_Rp ?_
  refine w_I y170_0 rfl ?_
  refine y_ts (t := 313) y170_1 rfl ?_
  refine w_K y170_313 ?_
  refine w_K y170_315 ?_
  refine w_K y170_317 ?_
  refine w_K y170_319 ?_
  refine w_K y170_321 ?_
  refine w_K y170_322 ?_
  refine w_K y170_323 ?_
  refine y_call y170_324 (y_args4 rfl rfl) rfl (ym_spl (by decide) (by decide) (by decide) (by decide) (by decide)) ?_
  exact y_J3 y170_327 ⟨rfl, rfl⟩
theorem ym_wo13 {L : Nat} {xs : Nat → Int32} {d : Nat} {σ : iv_H} : iv_Rn L xs (d + 1) 170 0 (lv_args 0 [.int (Int32.ofNat 13)]) [] σ (some (.long (yWv 13))) σ := by
  refine y_Rp ?_
  refine w_I y170_0 rfl ?_
  refine y_ts (t := 328) y170_1 rfl ?_
  refine w_K y170_328 ?_
  refine w_K y170_330 ?_
  refine w_K y170_332 ?_
  refine w_K y170_334 ?_
  refine w_K y170_336 ?_
  refine w_K y170_338 ?_
  refine w_K y170_340 ?_
  refine y_call y170_341 (y_args4 rfl rfl) rfl (ym_spl (by decide) (by decide) (by decide) (by decide) (by decide)) ?_
  exact y_J3 y170_344 ⟨rfl, rfl⟩
theorem ym_wo14 {L : Nat} {xs : Nat → Int32} {d : Nat} {σ : iv_H} : iv_Rn L xs (d + 1) 170 0 (lv_args 0 [.int (Int32.ofNat 14)]) [] σ (some (.long (yWv 14))) σ := by
  refine y_Rp ?_
  refine w_I y170_0 rfl ?_
  refine y_ts (t := 345) y170_1 rfl ?_
  refine w_K y170_345 ?_
  refine w_K y170_347 ?_
  refine w_K y170_349 ?_
  refine w_K y170_351 ?_
  refine w_K y170_353 ?_
  refine w_K y170_355 ?_
  refine w_K y170_356 ?_
  refine y_call y170_357 (y_args4 rfl rfl) rfl (ym_spl (by decide) (by decide) (by decide) (by decide) (by decide)) ?_
  exact y_J3 y170_360 ⟨rfl, rfl⟩
theorem ym_wo15 {L : Nat} {xs : Nat → Int32} {d : Nat} {σ : iv_H} : iv_Rn L xs (d + 1) 170 0 (lv_args 0 [.int (Int32.ofNat 15)]) [] σ (some (.long (yWv 15))) σ := by
  refine y_Rp ?_
  refine w_I y170_0 rfl ?_
  refine y_ts (t := 361) y170_1 rfl ?_
  refine w_K y170_361 ?_
  refine w_K y170_363 ?_
  refine w_K y170_365 ?_
  refine w_K y170_366 ?_
  refine w_K y170_367 ?_
  refine w_K y170_368 ?_
  refine w_K y170_369 ?_
  refine y_call y170_370 (y_args4 rfl rfl) rfl (ym_spl (by decide) (by decide) (by decide) (by decide) (by decide)) ?_
  exact y_J3 y170_373 ⟨rfl, rfl⟩
theorem ym_wo16 {L : Nat} {xs : Nat → Int32} {d : Nat} {σ : iv_H} : iv_Rn L xs (d + 1) 170 0 (lv_args 0 [.int (Int32.ofNat 16)]) [] σ (some (.long (yWv 16))) σ := by
  refine y_Rp ?_
  refine w_I y170_0 rfl ?_
  refine y_ts (t := 374) y170_1 rfl ?_
  refine w_K y170_374 ?_
  refine w_K y170_376 ?_
  refine w_K y170_378 ?_
  refine w_K y170_380 ?_
  refine w_K y170_381 ?_
  refine w_K y170_382 ?_
  refine w_K y170_383 ?_
  refine y_call y170_384 (y_args4 rfl rfl) rfl (ym_spl (by decide) (by decide) (by decide) (by decide) (by decide)) ?_
  exact y_J3 y170_387 ⟨rfl, rfl⟩
theorem ym_wo17 {L : Nat} {xs : Nat → Int32} {d : Nat} {σ : iv_H} : iv_Rn L xs (d + 1) 170 0 (lv_args 0 [.int (Int32.ofNat 17)]) [] σ (some (.long (yWv 17))) σ := by
  refine y_Rp ?_
  refine w_I y170_0 rfl ?_
  refine y_ts (t := 388) y170_1 rfl ?_
  refine w_K y170_388 ?_
  refine w_K y170_390 ?_
  refine w_K y170_392 ?_
  refine w_K y170_394 ?_
  refine w_K y170_395 ?_
  refine w_K y170_396 ?_
  refine w_K y170_397 ?_
  refine y_call y170_398 (y_args4 rfl rfl) rfl (ym_spl (by decide) (by decide) (by decide) (by decide) (by decide)) ?_
  exact y_J3 y170_401 ⟨rfl, rfl⟩
theorem ym_wo18 {L : Nat} {xs : Nat → Int32} {d : Nat} {σ : iv_H} : iv_Rn L xs (d + 1) 170 0 (lv_args 0 [.int (Int32.ofNat 18)]) [] σ (some (.long (yWv 18))) σ := by
  refine y_Rp ?_
  refine w_I y170_0 rfl ?_
  refine y_ts (t := 402) y170_1 rfl ?_
  refine w_K y170_402 ?_
  refine w_K y170_404 ?_
  refine w_K y170_406 ?_
  refine w_K y170_408 ?_
  refine w_K y170_410 ?_
  refine w_K y170_411 ?_
  refine w_K y170_412 ?_
  refine y_call y170_413 (y_args4 rfl rfl) rfl (ym_spl (by decide) (by decide) (by decide) (by decide) (by decide)) ?_
  exact y_J3 y170_416 ⟨rfl, rfl⟩
theorem ym_wo19 {L : Nat} {xs : Nat → Int32} {d : Nat} {σ : iv_H} : iv_Rn L xs (d + 1) 170 0 (lv_args 0 [.int (Int32.ofNat 19)]) [] σ (some (.long (yWv 19))) σ := by
  refine y_Rp ?_
  refine w_I y170_0 rfl ?_
  refine y_ts (t := 417) y170_1 rfl ?_
  refine w_K y170_417 ?_
  refine w_K y170_419 ?_
  refine w_K y170_421 ?_
  refine w_K y170_423 ?_
  refine w_K y170_425 ?_
  refine w_K y170_427 ?_
  refine w_K y170_428 ?_
  refine y_call y170_429 (y_args4 rfl rfl) rfl (ym_spl (by decide) (by decide) (by decide) (by decide) (by decide)) ?_
  exact y_J3 y170_432 ⟨rfl, rfl⟩
theorem ym_wo20 {L : Nat} {xs : Nat → Int32} {d : Nat} {σ : iv_H} : iv_Rn L xs (d + 1) 170 0 (lv_args 0 [.int (Int32.ofNat 20)]) [] σ (some (.long (yWv 20))) σ := by
  refine y_Rp ?_
  refine w_I y170_0 rfl ?_
  refine y_ts (t := 433) y170_1 rfl ?_
  refine w_K y170_433 ?_
  refine w_K y170_435 ?_
  refine w_K y170_437 ?_
  refine w_K y170_439 ?_
  refine w_K y170_441 ?_
  refine w_K y170_443 ?_
  refine w_K y170_444 ?_
  refine y_call y170_445 (y_args4 rfl rfl) rfl (ym_spl (by decide) (by decide) (by decide) (by decide) (by decide)) ?_
  exact y_J3 y170_448 ⟨rfl, rfl⟩
theorem ym_wo21 {L : Nat} {xs : Nat → Int32} {d : Nat} {σ : iv_H} : iv_Rn L xs (d + 1) 170 0 (lv_args 0 [.int (Int32.ofNat 21)]) [] σ (some (.long (yWv 21))) σ := by
  refine y_Rp ?_
  refine w_I y170_0 rfl ?_
  refine y_ts (t := 449) y170_1 rfl ?_
  refine w_K y170_449 ?_
  refine w_K y170_451 ?_
  refine w_K y170_453 ?_
  refine w_K y170_455 ?_
  refine w_K y170_457 ?_
  refine w_K y170_459 ?_
  refine w_K y170_461 ?_
  refine y_call y170_462 (y_args4 rfl rfl) rfl (ym_spl (by decide) (by decide) (by decide) (by decide) (by decide)) ?_
  exact y_J3 y170_465 ⟨rfl, rfl⟩
theorem ym_wo22 {L : Nat} {xs : Nat → Int32} {d : Nat} {σ : iv_H} : iv_Rn L xs (d + 1) 170 0 (lv_args 0 [.int (Int32.ofNat 22)]) [] σ (some (.long (yWv 22))) σ := by
  refine y_Rp ?_
  refine w_I y170_0 rfl ?_
  refine y_ts (t := 466) y170_1 rfl ?_
  refine w_K y170_466 ?_
  refine w_K y170_468 ?_
  refine w_K y170_470 ?_
  refine w_K y170_472 ?_
  refine w_K y170_474 ?_
  refine w_K y170_475 ?_
  refine w_K y170_476 ?_
  refine y_call y170_477 (y_args4 rfl rfl) rfl (ym_spl (by decide) (by decide) (by decide) (by decide) (by decide)) ?_
  exact y_J3 y170_480 ⟨rfl, rfl⟩
theorem ym_wo23 {L : Nat} {xs : Nat → Int32} {d : Nat} {σ : iv_H} : iv_Rn L xs (d + 1) 170 0 (lv_args 0 [.int (Int32.ofNat 23)]) [] σ (some (.long (yWv 23))) σ := by
  refine y_Rp ?_
  refine w_I y170_0 rfl ?_
  refine y_ts (t := 481) y170_1 rfl ?_
  refine w_K y170_481 ?_
  refine w_K y170_483 ?_
  refine w_K y170_485 ?_
  refine w_K y170_487 ?_
  refine w_K y170_489 ?_
  refine w_K y170_490 ?_
  refine w_K y170_491 ?_
  refine y_call y170_492 (y_args4 rfl rfl) rfl (ym_spl (by decide) (by decide) (by decide) (by decide) (by decide)) ?_
  exact y_J3 y170_495 ⟨rfl, rfl⟩
theorem ym_wo24 {L : Nat} {xs : Nat → Int32} {d : Nat} {σ : iv_H} : iv_Rn L xs (d + 1) 170 0 (lv_args 0 [.int (Int32.ofNat 24)]) [] σ (some (.long (yWv 24))) σ := by
  refine y_Rp ?_
  refine w_I y170_0 rfl ?_
  refine y_ts (t := 496) y170_1 rfl ?_
  refine w_K y170_496 ?_
  refine w_K y170_498 ?_
  refine w_K y170_500 ?_
  refine w_K y170_502 ?_
  refine w_K y170_504 ?_
  refine w_K y170_506 ?_
  refine w_K y170_507 ?_
  refine y_call y170_508 (y_args4 rfl rfl) rfl (ym_spl (by decide) (by decide) (by decide) (by decide) (by decide)) ?_
  exact y_J3 y170_511 ⟨rfl, rfl⟩
theorem ym_wo25 {L : Nat} {xs : Nat → Int32} {d : Nat} {σ : iv_H} : iv_Rn L xs (d + 1) 170 0 (lv_args 0 [.int (Int32.ofNat 25)]) [] σ (some (.long (yWv 25))) σ := by
  refine y_Rp ?_
  refine w_I y170_0 rfl ?_
  refine y_ts (t := 512) y170_1 rfl ?_
  refine w_K y170_512 ?_
  refine w_K y170_514 ?_
  refine w_K y170_516 ?_
  refine w_K y170_518 ?_
  refine w_K y170_520 ?_
  refine w_K y170_521 ?_
  refine w_K y170_522 ?_
  refine y_call y170_523 (y_args4 rfl rfl) rfl (ym_spl (by decide) (by decide) (by decide) (by decide) (by decide)) ?_
  exact y_J3 y170_526 ⟨rfl, rfl⟩
theorem ym_wo26 {L : Nat} {xs : Nat → Int32} {d : Nat} {σ : iv_H} : iv_Rn L xs (d + 1) 170 0 (lv_args 0 [.int (Int32.ofNat 26)]) [] σ (some (.long (yWv 26))) σ := by
  refine y_Rp ?_
  refine w_I y170_0 rfl ?_
  refine y_ts (t := 527) y170_1 rfl ?_
  refine w_K y170_527 ?_
  refine w_K y170_529 ?_
  refine w_K y170_531 ?_
  refine w_K y170_533 ?_
  refine w_K y170_535 ?_
  refine w_K y170_537 ?_
  refine w_K y170_539 ?_
  refine y_call y170_540 (y_args4 rfl rfl) rfl (ym_spl (by decide) (by decide) (by decide) (by decide) (by decide)) ?_
  exact y_J3 y170_543 ⟨rfl, rfl⟩
theorem ym_wo {L : Nat} {xs : Nat → Int32} {d : Nat} {σ : iv_H} : ∀ {k : Nat}, k < 27 → iv_Rn L xs (d + 1) 170 0 (lv_args 0 [.int (Int32.ofNat k)]) [] σ (some (.long (yWv k))) σ
  | 0, _ => ym_wo0
  | 1, _ => ym_wo1
  | 2, _ => ym_wo2
  | 3, _ => ym_wo3
  | 4, _ => ym_wo4
  | 5, _ => ym_wo5
  | 6, _ => ym_wo6
  | 7, _ => ym_wo7
  | 8, _ => ym_wo8
  | 9, _ => ym_wo9
  | 10, _ => ym_wo10
  | 11, _ => ym_wo11
  | 12, _ => ym_wo12
  | 13, _ => ym_wo13
  | 14, _ => ym_wo14
  | 15, _ => ym_wo15
  | 16, _ => ym_wo16
  | 17, _ => ym_wo17
  | 18, _ => ym_wo18
  | 19, _ => ym_wo19
  | 20, _ => ym_wo20
  | 21, _ => ym_wo21
  | 22, _ => ym_wo22
  | 23, _ => ym_wo23
  | 24, _ => ym_wo24
  | 25, _ => ym_wo25
  | 26, _ => ym_wo26
  | k + 27, h => by omega
set_option maxRecDepth 100000 in
theorem y171_0 : iv_f1 (iv_p 171) 0 = some (.inl (iv_oA 0 1)) := rfl
set_option maxRecDepth 100000 in
theorem y171_1 : iv_f1 (iv_p 171) 1 = some (.inl (iv_oGF 12 7)) := rfl
set_option maxRecDepth 100000 in
theorem y171_4 : iv_f1 (iv_p 171) 4 = some (.inl (iv_oK (.int (Int32.ofNat 2)) 1)) := rfl
set_option maxRecDepth 100000 in
theorem y171_5 : iv_f1 (iv_p 171) 5 = some (.inl (iv_oIc .ne (19))) := rfl
set_option maxRecDepth 100000 in
theorem y171_8 : iv_f1 (iv_p 171) 8 = some (.inl (iv_oA 0 1)) := rfl
set_option maxRecDepth 100000 in
theorem y171_9 : iv_f1 (iv_p 171) 9 = some (.inl (iv_oGF 12 12)) := rfl
set_option maxRecDepth 100000 in
theorem y171_12 : iv_f1 (iv_p 171) 12 = some (.inl (iv_oI 1 1)) := rfl
set_option maxRecDepth 100000 in
theorem y171_13 : iv_f1 (iv_p 171) 13 = some (.inr (.inr (4, 170, 1, 0))) := rfl
set_option maxRecDepth 100000 in
theorem y171_16 : iv_f1 (iv_p 171) 16 = some (.inl iv_oCmp) := rfl
set_option maxRecDepth 100000 in
theorem y171_17 : iv_f1 (iv_p 171) 17 = some (.inl (iv_oIf .ne (7))) := rfl
set_option maxRecDepth 100000 in
theorem y171_20 : iv_f1 (iv_p 171) 20 = some (.inl (iv_oK (.int (Int32.ofNat 1)) 1)) := rfl
set_option maxRecDepth 100000 in
theorem y171_21 : iv_f1 (iv_p 171) 21 = some (.inl (iv_oGo (4))) := rfl
set_option maxRecDepth 100000 in
theorem y171_24 : iv_f1 (iv_p 171) 24 = some (.inl (iv_oK (.int (Int32.ofNat 0)) 1)) := rfl
set_option maxRecDepth 100000 in
theorem y171_25 : iv_f1 (iv_p 171) 25 = some (.inr (.inl 2)) := rfl
theorem y_lne {x y : Int64} : iv_c2 .ne (lg_cmp x y) 0 = !(decide (x = y)) := by
  by_cases h : x = y
  · rw [lg_eq h, decide_eq_true h]; rfl
  · rw [lg_ne h, decide_eq_false h]; rfl
theorem ym_iw {L : Nat} {xs : Nat → Int32} {d : Nat} {σ : iv_H} {V : Nat → Value} {kd k : Nat} {w : Int64} (hd : 2 ≤ d) (hk : k < 27) (hkd : kd ≤ 9) (g : iv_get σ 548 = some (yob 12 49 V)) (v7 : V 7 = .int (Int32.ofNat kd)) (v12 : V 12 = .long w) : iv_Rn L xs d 171 0 (lv_args 0 [.ref 548, .int (Int32.ofNat k)]) [] σ (some (.int (yb (decide (kd = 2 ∧ w = yWv k))))) σ := by
  obtain ⟨d, rfl⟩ : ∃ e, d = e + 2 := ⟨d - 2, by omega⟩
  refine y_Rp ?_
  refine w_A y171_0 rfl ?_
  refine y_gf y171_1 g rfl v7 ?_
  refine w_K y171_4 ?_
  by_cases c183 : kd ≠ 2
  · skip
    refine y_icT y171_5 rfl (by omega) (by omega) (by simp only [zch]; omega) ?_
    refine w_K y171_24 ?_
    exact y_ret y171_25 rfl ⟨y_f (fun h => by have := h.1; omega), rfl⟩
  · skip
    refine y_icF y171_5 rfl (by omega) (by omega) (by simp only [zch]; omega) ?_
    refine w_A y171_8 rfl ?_
    refine y_gf y171_9 g rfl v12 ?_
    refine w_I y171_12 rfl ?_
    refine y_call y171_13 (y_args4 rfl rfl) rfl (ym_wo hk) ?_
    refine w_cmp y171_16 ?_
    by_cases e184 : w = yWv k
    · skip
      refine w_ifF y171_17 rfl (lg_eq e184) ?_
      refine w_K y171_20 ?_
      refine w_go y171_21 rfl ?_
      exact y_ret y171_25 rfl ⟨y_t ⟨by omega, e184⟩, rfl⟩
    · skip
      refine w_ifT y171_17 rfl (lg_ne e184) ?_
      refine w_K y171_24 ?_
      exact y_ret y171_25 rfl ⟨y_f (fun h => e184 h.2), rfl⟩
set_option maxRecDepth 100000 in
theorem y172_0 : iv_f1 (iv_p 172) 0 = some (.inl (iv_oA 0 1)) := rfl
set_option maxRecDepth 100000 in
theorem y172_1 : iv_f1 (iv_p 172) 1 = some (.inl (iv_oGF 12 7)) := rfl
set_option maxRecDepth 100000 in
theorem y172_4 : iv_f1 (iv_p 172) 4 = some (.inl (iv_oK (.int (Int32.ofNat 4)) 1)) := rfl
set_option maxRecDepth 100000 in
theorem y172_5 : iv_f1 (iv_p 172) 5 = some (.inl (iv_oIc .ne (15))) := rfl
set_option maxRecDepth 100000 in
theorem y172_8 : iv_f1 (iv_p 172) 8 = some (.inl (iv_oA 0 1)) := rfl
set_option maxRecDepth 100000 in
theorem y172_9 : iv_f1 (iv_p 172) 9 = some (.inl (iv_oGF 12 9)) := rfl
set_option maxRecDepth 100000 in
theorem y172_12 : iv_f1 (iv_p 172) 12 = some (.inl (iv_oI 1 1)) := rfl
set_option maxRecDepth 100000 in
theorem y172_13 : iv_f1 (iv_p 172) 13 = some (.inl (iv_oIc .ne (7))) := rfl
set_option maxRecDepth 100000 in
theorem y172_16 : iv_f1 (iv_p 172) 16 = some (.inl (iv_oK (.int (Int32.ofNat 1)) 1)) := rfl
set_option maxRecDepth 100000 in
theorem y172_17 : iv_f1 (iv_p 172) 17 = some (.inl (iv_oGo (4))) := rfl
set_option maxRecDepth 100000 in
theorem y172_20 : iv_f1 (iv_p 172) 20 = some (.inl (iv_oK (.int (Int32.ofNat 0)) 1)) := rfl
set_option maxRecDepth 100000 in
theorem y172_21 : iv_f1 (iv_p 172) 21 = some (.inr (.inl 2)) := rfl
theorem ym_is {L : Nat} {xs : Nat → Int32} {d : Nat} {σ : iv_H} {V : Nat → Value} {kd c : Nat} {sg : Int32} (hkd : kd ≤ 9) (g : iv_get σ 548 = some (yob 12 49 V)) (v7 : V 7 = .int (Int32.ofNat kd)) (v9 : V 9 = .int sg) : iv_Rn L xs d 172 0 (lv_args 0 [.ref 548, .int (Int32.ofNat c)]) [] σ (some (.int (yb (decide (kd = 4 ∧ sg = Int32.ofNat c))))) σ := by
  refine y_Rp ?_
  refine w_A y172_0 rfl ?_
  refine y_gf y172_1 g rfl v7 ?_
  refine w_K y172_4 ?_
  by_cases c185 : kd ≠ 4
  · skip
    refine y_icT y172_5 rfl (by omega) (by omega) (by simp only [zch]; omega) ?_
    refine w_K y172_20 ?_
    exact y_ret y172_21 rfl ⟨y_f (fun h => by have := h.1; omega), rfl⟩
  · skip
    refine y_icF y172_5 rfl (by omega) (by omega) (by simp only [zch]; omega) ?_
    refine w_A y172_8 rfl ?_
    refine y_gf y172_9 g rfl v9 ?_
    refine w_I y172_12 rfl ?_
    by_cases e186 : sg = (Int32.ofNat c)
    · skip
      refine w_icF y172_13 rfl (by unfold iv_c2; simp [e186]) ?_
      refine w_K y172_16 ?_
      refine w_go y172_17 rfl ?_
      exact y_ret y172_21 rfl ⟨y_t ⟨by omega, e186⟩, rfl⟩
    · skip
      refine w_icT y172_13 rfl (by unfold iv_c2; simp [e186]) ?_
      refine w_K y172_20 ?_
      exact y_ret y172_21 rfl ⟨y_f (fun h => e186 h.2), rfl⟩
set_option maxRecDepth 100000 in
theorem y173_0 : iv_f1 (iv_p 173) 0 = some (.inl (iv_oA 0 1)) := rfl
set_option maxRecDepth 100000 in
theorem y173_1 : iv_f1 (iv_p 173) 1 = some (.inl (iv_oGF 12 7)) := rfl
set_option maxRecDepth 100000 in
theorem y173_4 : iv_f1 (iv_p 173) 4 = some (.inl (iv_oK (.int (Int32.ofNat 2)) 1)) := rfl
set_option maxRecDepth 100000 in
theorem y173_5 : iv_f1 (iv_p 173) 5 = some (.inl (iv_oIc .eq (5))) := rfl
set_option maxRecDepth 100000 in
theorem y173_8 : iv_f1 (iv_p 173) 8 = some (.inl (iv_oK (.int (Int32.ofNat 0)) 1)) := rfl
set_option maxRecDepth 100000 in
theorem y173_9 : iv_f1 (iv_p 173) 9 = some (.inr (.inl 2)) := rfl
set_option maxRecDepth 100000 in
theorem y173_10 : iv_f1 (iv_p 173) 10 = some (.inl (iv_oK (.int (Int32.ofNat 0)) 1)) := rfl
set_option maxRecDepth 100000 in
theorem y173_11 : iv_f1 (iv_p 173) 11 = some (.inl (iv_oIS 1 1)) := rfl
set_option maxRecDepth 100000 in
theorem y173_12 : iv_f1 (iv_p 173) 12 = some (.inl (iv_oI 1 1)) := rfl
set_option maxRecDepth 100000 in
theorem y173_13 : iv_f1 (iv_p 173) 13 = some (.inl (iv_oK (.int (Int32.ofNat 26)) 2)) := rfl
set_option maxRecDepth 100000 in
theorem y173_15 : iv_f1 (iv_p 173) 15 = some (.inl (iv_oIc .gt (23))) := rfl
set_option maxRecDepth 100000 in
theorem y173_18 : iv_f1 (iv_p 173) 18 = some (.inl (iv_oA 0 1)) := rfl
set_option maxRecDepth 100000 in
theorem y173_19 : iv_f1 (iv_p 173) 19 = some (.inl (iv_oGF 12 12)) := rfl
set_option maxRecDepth 100000 in
theorem y173_22 : iv_f1 (iv_p 173) 22 = some (.inl (iv_oI 1 1)) := rfl
set_option maxRecDepth 100000 in
theorem y173_23 : iv_f1 (iv_p 173) 23 = some (.inr (.inr (4, 170, 1, 0))) := rfl
set_option maxRecDepth 100000 in
theorem y173_26 : iv_f1 (iv_p 173) 26 = some (.inl iv_oCmp) := rfl
set_option maxRecDepth 100000 in
theorem y173_27 : iv_f1 (iv_p 173) 27 = some (.inl (iv_oIf .ne (5))) := rfl
set_option maxRecDepth 100000 in
theorem y173_30 : iv_f1 (iv_p 173) 30 = some (.inl (iv_oK (.int (Int32.ofNat 0)) 1)) := rfl
set_option maxRecDepth 100000 in
theorem y173_31 : iv_f1 (iv_p 173) 31 = some (.inr (.inl 2)) := rfl
set_option maxRecDepth 100000 in
theorem y173_32 : iv_f1 (iv_p 173) 32 = some (.inl (iv_oInc 1 (1))) := rfl
set_option maxRecDepth 100000 in
theorem y173_35 : iv_f1 (iv_p 173) 35 = some (.inl (iv_oGo (-23))) := rfl
set_option maxRecDepth 100000 in
theorem y173_38 : iv_f1 (iv_p 173) 38 = some (.inl (iv_oK (.int (Int32.ofNat 1)) 1)) := rfl
set_option maxRecDepth 100000 in
theorem y173_39 : iv_f1 (iv_p 173) 39 = some (.inr (.inl 2)) := rfl
def yNoW (w : Int64) : Bool := (List.range 27).all fun i => !(decide (w = yWv i))
theorem yNoW_iff {w : Int64} : yNoW w = true ↔ ∀ i, i < 27 → ¬ w = yWv i := by
  unfold yNoW
  rw [List.all_eq_true]
  constructor
  · intro h i hi e
    have h2 := h i (List.mem_range.mpr hi)
    rw [decide_eq_true e] at h2
    cases h2
  · intro h i hi
    rw [decide_eq_false (h i (List.mem_range.mp hi))]
    rfl
theorem ym_nm1 {L : Nat} {xs : Nat → Int32} {d : Nat} {σ : iv_H} {V : Nat → Value} {w : Int64} (g : iv_get σ 548 = some (yob 12 49 V)) (v12 : V 12 = .long w) : ∀ (j k : Nat) (lv : iv_L), k + j = 27 → (∀ i, i < k → ¬ w = yWv i) → iv_f1 lv 0 = some (.ref 548) → iv_f1 lv 1 = some (.int (Int32.ofNat k)) → zGo L xs (fun r σ1 => r = some (.int (yb (decide (yNoW w = true)))) ∧ σ1 = σ) [] (d + 2) 173 12 lv [] σ := by
  intro j
  induction j with
  | zero =>
    intro k lv hj hi l0 l1
    refine w_I y173_12 l1 ?_
    refine w_K y173_13 ?_
    refine y_icT y173_15 rfl (by omega) (by omega) (by simp only [zch]; omega) ?_
    refine w_K y173_38 ?_
    exact y_ret y173_39 rfl ⟨y_t (yNoW_iff.mpr (fun i h => hi i (by omega))), rfl⟩
  | succ j ih =>
    intro k lv hj hi l0 l1
    refine w_I y173_12 l1 ?_
    refine w_K y173_13 ?_
    refine y_icF y173_15 rfl (by omega) (by omega) (by simp only [zch]; omega) ?_
    refine w_A y173_18 l0 ?_
    refine y_gf y173_19 g rfl v12 ?_
    refine w_I y173_22 l1 ?_
    refine y_call y173_23 (y_args4 rfl rfl) rfl (ym_wo (by omega)) ?_
    refine w_cmp y173_26 ?_
    by_cases e187 : w = yWv k
    · skip
      refine w_ifF y173_27 rfl (lg_eq e187) ?_
      refine w_K y173_30 ?_
      exact y_ret y173_31 rfl ⟨y_f (fun h => yNoW_iff.mp h k (by omega) e187), rfl⟩
    · skip
      refine w_ifT y173_27 rfl (lg_ne e187) ?_
      refine w_inc y173_32 (x := k) l1 ?_
      refine w_go y173_35 rfl ?_
      exact ih (k + 1) _ (by omega) (fun i h => by by_cases e : i = k; exact e ▸ e187; exact hi i (by omega)) (y_l1 rfl rfl l0) y_l0
theorem ym_nm {L : Nat} {xs : Nat → Int32} {d : Nat} {σ : iv_H} {V : Nat → Value} {kd : Nat} {w : Int64} (hd : 2 ≤ d) (hkd : kd ≤ 9) (g : iv_get σ 548 = some (yob 12 49 V)) (v7 : V 7 = .int (Int32.ofNat kd)) (v12 : V 12 = .long w) : iv_Rn L xs d 173 0 (lv_args 0 [.ref 548]) [] σ (some (.int (yb (decide (kd = 2 ∧ yNoW w = true))))) σ := by
  obtain ⟨d, rfl⟩ : ∃ e, d = e + 2 := ⟨d - 2, by omega⟩
  refine y_Rp ?_
  refine w_A y173_0 rfl ?_
  refine y_gf y173_1 g rfl v7 ?_
  refine w_K y173_4 ?_
  by_cases c188 : kd = 2
  · skip
    refine y_icT y173_5 rfl (by omega) (by omega) (by simp only [zch]; omega) ?_
    refine w_K y173_10 ?_
    refine w_IS y173_11 ?_
    obtain ⟨r, σ1, h1, h2⟩ := ym_nm1 (L := L) (xs := xs) (d := d) g v12 27 0 _ rfl (fun i h => by omega) (show iv_f1 ((1, Value.int (Int32.ofNat 0)) :: iv_d1 1 (lv_args 0 [.ref 548])) 0 = _ from rfl) rfl
    have h3 : r = some (.int (yb (decide (yNoW w = true)))) ∧ σ1 = σ := h2
    have e : decide (kd = 2 ∧ yNoW w = true) = decide (yNoW w = true) := by
      by_cases h : yNoW w = true
      · rw [decide_eq_true h, decide_eq_true ⟨by omega, h⟩]
      · rw [decide_eq_false h, decide_eq_false (fun h4 => h h4.2)]
    exact ⟨r, σ1, h1, by rw [e]; exact h3⟩
  · skip
    refine y_icF y173_5 rfl (by omega) (by omega) (by simp only [zch]; omega) ?_
    refine w_K y173_8 ?_
    exact y_ret y173_9 rfl ⟨y_f (fun h => by have := h.1; omega), rfl⟩
set_option maxRecDepth 100000 in
theorem y174_0 : iv_f1 (iv_p 174) 0 = some (.inl (iv_oA 0 1)) := rfl
set_option maxRecDepth 100000 in
theorem y174_1 : iv_f1 (iv_p 174) 1 = some (.inl (iv_oA 0 1)) := rfl
set_option maxRecDepth 100000 in
theorem y174_2 : iv_f1 (iv_p 174) 2 = some (.inl (iv_oGF 12 7)) := rfl
set_option maxRecDepth 100000 in
theorem y174_5 : iv_f1 (iv_p 174) 5 = some (.inl (iv_oK (.int (Int32.ofNat 1)) 1)) := rfl
set_option maxRecDepth 100000 in
theorem y174_6 : iv_f1 (iv_p 174) 6 = some (.inl (iv_oIc .ne (7))) := rfl
set_option maxRecDepth 100000 in
theorem y174_9 : iv_f1 (iv_p 174) 9 = some (.inl (iv_oK (.int (Int32.ofNat 1)) 1)) := rfl
set_option maxRecDepth 100000 in
theorem y174_10 : iv_f1 (iv_p 174) 10 = some (.inl (iv_oGo (4))) := rfl
set_option maxRecDepth 100000 in
theorem y174_13 : iv_f1 (iv_p 174) 13 = some (.inl (iv_oI 1 1)) := rfl
set_option maxRecDepth 100000 in
theorem y174_14 : iv_f1 (iv_p 174) 14 = some (.inl (iv_oPF 12 10 .int)) := rfl
set_option maxRecDepth 100000 in
theorem y174_17 : iv_f1 (iv_p 174) 17 = some (.inl (iv_oA 0 1)) := rfl
set_option maxRecDepth 100000 in
theorem y174_18 : iv_f1 (iv_p 174) 18 = some (.inl (iv_oA 0 1)) := rfl
set_option maxRecDepth 100000 in
theorem y174_19 : iv_f1 (iv_p 174) 19 = some (.inl (iv_oGF 12 6)) := rfl
set_option maxRecDepth 100000 in
theorem y174_22 : iv_f1 (iv_p 174) 22 = some (.inl (iv_oPF 12 11 .int)) := rfl
set_option maxRecDepth 100000 in
theorem y174_25 : iv_f1 (iv_p 174) 25 = some (.inl (iv_oK (.int (Int32.ofNat 0)) 1)) := rfl
set_option maxRecDepth 100000 in
theorem y174_26 : iv_f1 (iv_p 174) 26 = some (.inr (.inl 2)) := rfl
theorem ym_bad {L : Nat} {xs : Nat → Int32} {d : Nat} {σ : iv_H} {V : Nat → Value} {kd k fm : Nat} (hkd : kd ≤ 9) (g : iv_get σ 548 = some (yob 12 49 V)) (v7 : V 7 = .int (Int32.ofNat kd)) (v6 : V 6 = .int (Int32.ofNat fm)) : ∃ σ1, iv_Rn L xs d 174 0 (lv_args 0 [.ref 548, .int (Int32.ofNat k)]) [] σ (some (.int (Int32.ofNat 0))) σ1 ∧ ∃ V1, iv_get σ1 548 = some (yob 12 49 V1) ∧ yAg [10, 11] V V1 ∧ yFr [548] σ σ1 ∧ V1 10 = .int (Int32.ofNat (if kd = 1 then 1 else k)) ∧ V1 11 = .int (Int32.ofNat fm) := by
  refine y_Rn ?_
  refine w_A y174_0 rfl ?_
  refine w_A y174_1 rfl ?_
  refine y_gf y174_2 g rfl v7 ?_
  refine w_K y174_5 ?_
  by_cases c189 : kd ≠ 1
  · skip
    refine y_icT y174_6 rfl (by omega) (by omega) (by simp only [zch]; omega) ?_
    refine w_I y174_13 rfl ?_
    refine y_pf y174_14 g rfl rfl ?_
    intro σ191 h190
    refine w_A y174_17 rfl ?_
    refine w_A y174_18 rfl ?_
    refine y_gf y174_19 h190.2.1 rfl v6 ?_
    refine y_pf y174_22 h190.2.1 rfl rfl ?_
    intro σ193 h192
    refine w_K y174_25 ?_
    exact y_ret y174_26 rfl ⟨rfl, _, h192.2.1, (yA_tr (yA_u (j := 10) (by rfl)) (yA_u (j := 11) (by rfl))), (yF_tr (yF_D h190 (by rfl)) (yF_D h192 (by rfl))), by rw [if_neg (by omega)]; exact rfl, rfl⟩
  · skip
    refine y_icF y174_6 rfl (by omega) (by omega) (by simp only [zch]; omega) ?_
    refine w_K y174_9 ?_
    refine w_go y174_10 rfl ?_
    refine y_pf y174_14 g rfl rfl ?_
    intro σ195 h194
    refine w_A y174_17 rfl ?_
    refine w_A y174_18 rfl ?_
    refine y_gf y174_19 h194.2.1 rfl v6 ?_
    refine y_pf y174_22 h194.2.1 rfl rfl ?_
    intro σ197 h196
    refine w_K y174_25 ?_
    exact y_ret y174_26 rfl ⟨rfl, _, h196.2.1, (yA_tr (yA_u (j := 10) (by rfl)) (yA_u (j := 11) (by rfl))), (yF_tr (yF_D h194 (by rfl)) (yF_D h196 (by rfl))), by rw [if_pos (by omega)]; exact rfl, rfl⟩
