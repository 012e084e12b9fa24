/-! ===== printed by wip/gen/y/c9.py: the class lays its tokens ===== -/
set_option maxRecDepth 100000 in
theorem y49_0 : iv_f1 (iv_p 49) 0 = some (.inl (iv_oI 0 1)) := rfl
set_option maxRecDepth 100000 in
theorem y49_1 : iv_f1 (iv_p 49) 1 = some (.inl (iv_oK (.int (Int32.ofNat 32)) 2)) := rfl
set_option maxRecDepth 100000 in
theorem y49_3 : iv_f1 (iv_p 49) 3 = some (.inl (iv_oIc .eq (9))) := rfl
set_option maxRecDepth 100000 in
theorem y49_6 : iv_f1 (iv_p 49) 6 = some (.inl (iv_oI 0 1)) := rfl
set_option maxRecDepth 100000 in
theorem y49_7 : iv_f1 (iv_p 49) 7 = some (.inl (iv_oK (.int (Int32.ofNat 10)) 2)) := rfl
set_option maxRecDepth 100000 in
theorem y49_9 : iv_f1 (iv_p 49) 9 = some (.inl (iv_oIc .ne (7))) := rfl
set_option maxRecDepth 100000 in
theorem y49_12 : iv_f1 (iv_p 49) 12 = some (.inl (iv_oK (.int (Int32.ofNat 1)) 1)) := rfl
set_option maxRecDepth 100000 in
theorem y49_13 : iv_f1 (iv_p 49) 13 = some (.inl (iv_oGo (4))) := rfl
set_option maxRecDepth 100000 in
theorem y49_16 : iv_f1 (iv_p 49) 16 = some (.inl (iv_oK (.int (Int32.ofNat 0)) 1)) := rfl
set_option maxRecDepth 100000 in
theorem y49_17 : iv_f1 (iv_p 49) 17 = some (.inr (.inl 2)) := rfl
set_option maxRecDepth 100000 in
theorem y50_0 : iv_f1 (iv_p 50) 0 = some (.inl (iv_oI 0 1)) := rfl
set_option maxRecDepth 100000 in
theorem y50_1 : iv_f1 (iv_p 50) 1 = some (.inl (iv_oK (.int (Int32.ofNat 97)) 2)) := rfl
set_option maxRecDepth 100000 in
theorem y50_3 : iv_f1 (iv_p 50) 3 = some (.inl (iv_oIc .lt (9))) := rfl
set_option maxRecDepth 100000 in
theorem y50_6 : iv_f1 (iv_p 50) 6 = some (.inl (iv_oI 0 1)) := rfl
set_option maxRecDepth 100000 in
theorem y50_7 : iv_f1 (iv_p 50) 7 = some (.inl (iv_oK (.int (Int32.ofNat 122)) 2)) := rfl
set_option maxRecDepth 100000 in
theorem y50_9 : iv_f1 (iv_p 50) 9 = some (.inl (iv_oIc .le (15))) := rfl
set_option maxRecDepth 100000 in
theorem y50_12 : iv_f1 (iv_p 50) 12 = some (.inl (iv_oI 0 1)) := rfl
set_option maxRecDepth 100000 in
theorem y50_13 : iv_f1 (iv_p 50) 13 = some (.inl (iv_oK (.int (Int32.ofNat 48)) 2)) := rfl
set_option maxRecDepth 100000 in
theorem y50_15 : iv_f1 (iv_p 50) 15 = some (.inl (iv_oIc .lt (13))) := rfl
set_option maxRecDepth 100000 in
theorem y50_18 : iv_f1 (iv_p 50) 18 = some (.inl (iv_oI 0 1)) := rfl
set_option maxRecDepth 100000 in
theorem y50_19 : iv_f1 (iv_p 50) 19 = some (.inl (iv_oK (.int (Int32.ofNat 57)) 2)) := rfl
set_option maxRecDepth 100000 in
theorem y50_21 : iv_f1 (iv_p 50) 21 = some (.inl (iv_oIc .gt (7))) := rfl
set_option maxRecDepth 100000 in
theorem y50_24 : iv_f1 (iv_p 50) 24 = some (.inl (iv_oK (.int (Int32.ofNat 1)) 1)) := rfl
set_option maxRecDepth 100000 in
theorem y50_25 : iv_f1 (iv_p 50) 25 = some (.inl (iv_oGo (4))) := rfl
set_option maxRecDepth 100000 in
theorem y50_28 : iv_f1 (iv_p 50) 28 = some (.inl (iv_oK (.int (Int32.ofNat 0)) 1)) := rfl
set_option maxRecDepth 100000 in
theorem y50_29 : iv_f1 (iv_p 50) 29 = some (.inr (.inl 2)) := rfl
theorem yc_bl {L : Nat} {xs : Nat → Int32} {d : Nat} {c : Nat} {σ : iv_H} (hc : c ≤ 255) : iv_Rn L xs d 49 0 (lv_args 0 [.int (Int32.ofNat c)]) [] σ (some (.int (yb (ysB c)))) σ := by
  refine y_Rp ?_
  refine w_I y49_0 rfl ?_
  refine w_K y49_1 ?_
  by_cases c46 : c = 32
  · skip
    refine y_icT y49_3 rfl (by omega) (by omega) (by simp only [zch]; omega) ?_
    refine w_K y49_12 ?_
    refine w_go y49_13 rfl ?_
    exact y_ret y49_17 rfl ⟨y_t (by omega), rfl⟩
  · skip
    refine y_icF y49_3 rfl (by omega) (by omega) (by simp only [zch]; omega) ?_
    refine w_I y49_6 rfl ?_
    refine w_K y49_7 ?_
    by_cases c47 : c ≠ 10
    · skip
      refine y_icT y49_9 rfl (by omega) (by omega) (by simp only [zch]; omega) ?_
      refine w_K y49_16 ?_
      exact y_ret y49_17 rfl ⟨y_f (by omega), rfl⟩
    · skip
      refine y_icF y49_9 rfl (by omega) (by omega) (by simp only [zch]; omega) ?_
      refine w_K y49_12 ?_
      refine w_go y49_13 rfl ?_
      exact y_ret y49_17 rfl ⟨y_t (by omega), rfl⟩
theorem yc_ld0 {L : Nat} {xs : Nat → Int32} {d : Nat} {c : Nat} {σ : iv_H} (hc : c ≤ 255) : iv_Rn L xs d 50 0 (lv_args 0 [.int (Int32.ofNat c)]) [] σ (some (.int (yb (decide ((97 ≤ c ∧ c ≤ 122) ∨ (48 ≤ c ∧ c ≤ 57)))))) σ := by
  refine y_Rp ?_
  refine w_I y50_0 rfl ?_
  refine w_K y50_1 ?_
  by_cases c48 : c < 97
  · skip
    refine y_icT y50_3 rfl (by omega) (by omega) (by simp only [zch]; omega) ?_
    refine w_I y50_12 rfl ?_
    refine w_K y50_13 ?_
    by_cases c49 : c < 48
    · skip
      refine y_icT y50_15 rfl (by omega) (by omega) (by simp only [zch]; omega) ?_
      refine w_K y50_28 ?_
      exact y_ret y50_29 rfl ⟨y_f (by omega), rfl⟩
    · skip
      refine y_icF y50_15 rfl (by omega) (by omega) (by simp only [zch]; omega) ?_
      refine w_I y50_18 rfl ?_
      refine w_K y50_19 ?_
      by_cases c50 : c > 57
      · skip
        refine y_icT y50_21 rfl (by omega) (by omega) (by simp only [zch]; omega) ?_
        refine w_K y50_28 ?_
        exact y_ret y50_29 rfl ⟨y_f (by omega), rfl⟩
      · skip
        refine y_icF y50_21 rfl (by omega) (by omega) (by simp only [zch]; omega) ?_
        refine w_K y50_24 ?_
        refine w_go y50_25 rfl ?_
        exact y_ret y50_29 rfl ⟨y_t (by omega), rfl⟩
  · skip
    refine y_icF y50_3 rfl (by omega) (by omega) (by simp only [zch]; omega) ?_
    refine w_I y50_6 rfl ?_
    refine w_K y50_7 ?_
    by_cases c51 : c ≤ 122
    · skip
      refine y_icT y50_9 rfl (by omega) (by omega) (by simp only [zch]; omega) ?_
      refine w_K y50_24 ?_
      refine w_go y50_25 rfl ?_
      exact y_ret y50_29 rfl ⟨y_t (by omega), rfl⟩
    · skip
      refine y_icF y50_9 rfl (by omega) (by omega) (by simp only [zch]; omega) ?_
      refine w_I y50_12 rfl ?_
      refine w_K y50_13 ?_
      by_cases c52 : c < 48
      · skip
        refine y_icT y50_15 rfl (by omega) (by omega) (by simp only [zch]; omega) ?_
        refine w_K y50_28 ?_
        exact y_ret y50_29 rfl ⟨y_f (by omega), rfl⟩
      · skip
        refine y_icF y50_15 rfl (by omega) (by omega) (by simp only [zch]; omega) ?_
        refine w_I y50_18 rfl ?_
        refine w_K y50_19 ?_
        by_cases c53 : c > 57
        · skip
          refine y_icT y50_21 rfl (by omega) (by omega) (by simp only [zch]; omega) ?_
          refine w_K y50_28 ?_
          exact y_ret y50_29 rfl ⟨y_f (by omega), rfl⟩
        · skip
          refine y_icF y50_21 rfl (by omega) (by omega) (by simp only [zch]; omega) ?_
          refine w_K y50_24 ?_
          refine w_go y50_25 rfl ?_
          exact y_ret y50_29 rfl ⟨y_t (by omega), rfl⟩
theorem ysA_d {c : Nat} : decide ((97 ≤ c ∧ c ≤ 122) ∨ (48 ≤ c ∧ c ≤ 57)) = ysA c := by
  unfold ysA ysL ysD
  rw [Bool.decide_or]
theorem yc_ld {L : Nat} {xs : Nat → Int32} {d : Nat} {c : Nat} {σ : iv_H} (hc : c ≤ 255) : iv_Rn L xs d 50 0 (lv_args 0 [.int (Int32.ofNat c)]) [] σ (some (.int (yb (ysA c)))) σ := by
  rw [← ysA_d]
  exact yc_ld0 hc
def ylc (T : Nat → Nat) (s : Nat) : Nat → Nat
  | 0 => 0
  | k + 1 => if 97 ≤ T (s + k) then ylc T s k + 1 else ylc T s k
def ydc (T : Nat → Nat) (s : Nat) : Nat → Nat
  | 0 => 0
  | k + 1 => if 97 ≤ T (s + k) then ydc T s k else ydc T s k + 1
def ynu (T : Nat → Nat) (s : Nat) : Nat → Int32
  | 0 => Int32.ofNat 0
  | k + 1 => if 97 ≤ T (s + k) then ynu T s k else ynu T s k * Int32.ofNat 10 + Int32.ofNat (T (s + k)) - Int32.ofNat 48
theorem ylc_sum {T : Nat → Nat} {s : Nat} : ∀ k, ylc T s k + ydc T s k = k
  | 0 => rfl
  | k + 1 => by
    have h := ylc_sum (T := T) (s := s) k
    unfold ylc ydc
    split <;> omega
theorem ylc_all {T : Nat → Nat} {s : Nat} : ∀ {k : Nat}, ydc T s k = 0 → ∀ i, i < k → 97 ≤ T (s + i)
  | 0, _, _, h => by omega
  | k + 1, h, i, hi => by
    unfold ydc at h
    by_cases h1 : 97 ≤ T (s + k)
    · rw [if_pos h1] at h
      by_cases e : i = k
      · rw [e]; exact h1
      · exact ylc_all h i (by omega)
    · rw [if_neg h1] at h; omega
theorem ydc_all {T : Nat → Nat} {s : Nat} : ∀ {k : Nat}, ylc T s k = 0 → ∀ i, i < k → ¬ 97 ≤ T (s + i)
  | 0, _, _, h => by omega
  | k + 1, h, i, hi => by
    unfold ylc at h
    by_cases h1 : 97 ≤ T (s + k)
    · rw [if_pos h1] at h; omega
    · rw [if_neg h1] at h
      by_cases e : i = k
      · rw [e]; exact h1
      · exact ydc_all h i (by omega)
set_option maxRecDepth 8000 in
theorem y_ix0 : ∀ m ∈ List.range 256, (iv_c2 .lt (iv_ixF ((Int32.ofNat m).toUInt32 % 65536).toInt32 (iv_sx 259) 0) 0 = !(ysM m)) ∧ iv_in ((Int32.ofNat m).toUInt32 % 65536).toInt32 256 = true := by decide +kernel
theorem y_ix {c : Nat} (hc : c ≤ 255) : (iv_c2 .lt (iv_ixF ((Int32.ofNat c).toUInt32 % 65536).toInt32 (iv_sx 259) 0) 0 = !(ysM c)) ∧ iv_in ((Int32.ofNat c).toUInt32 % 65536).toInt32 256 = true := y_ix0 c (List.mem_range.mpr (by omega))
theorem y_si {L : Nat} {xs : Nat → Int32} {Post : Option Value → iv_H → Prop} {d M pc : Nat} {lv : iv_L} {σ : iv_H} {c : Int32} (hf : iv_f1 (iv_p M) pc = some (.inl iv_oSi)) (hi : iv_in c 256 = true) (k : zGo L xs Post [] d M (pc + 3) lv [.int (iv_ixF c (iv_sx 259) 0)] σ) : zGo L xs Post [] d M pc lv [.int c, .ref 259] σ := zGo_s hf (by
  show (bif iv_isS 259 && (iv_in c 256 && Nat.ble (iv_cs []) 8) then some (pc + 3, lv, [Value.int (iv_ixF c (iv_sx 259) 0)], σ) else none) = _
  rw [hi]
  rfl) k
/-- the class's kind of the token that begins at s -/
def ykc (T : Nat → Nat) (n s : Nat) : Nat := if ysA (T s) = true then (if ydc T s (yre T n s - s) = 0 ∧ ylc T s (yre T n s - s) ≤ 7 then 1 else if ylc T s (yre T n s - s) = 0 ∧ ydc T s (yre T n s - s) ≤ 3 then 2 else 4) else if ysM (T s) = true then 3 else 4
def ycl (T : Nat → Nat) (n s : Nat) : Nat := if ysA (T s) = true then yre T n s - s else 1
/-- what lies of a token that begins at s -/
abbrev yTC (T : Nat → Nat) (n s : Nat) (v : Int64) (wd : Nat) : Prop := (ykc T n s = 1 → v = yv T s (yre T n s - s) ∧ ∃ j, j < 28 ∧ wd = 2 * j + 3 ∧ (ysd T s (yre T n s - s) j ∨ (j = 0 ∧ ∀ i, i < 28 → ¬ ysd T s (yre T n s - s) i))) ∧ (ykc T n s = 2 → v = (ynu T s (yre T n s - s)).toInt64) ∧ (ykc T n s = 3 → v = (Int32.ofNat (T s)).toInt64) ∧ (¬ ykc T n s = 1 → wd = 3)
set_option maxRecDepth 100000 in
theorem y48_0 : iv_f1 (iv_p 48) 0 = some (.inl (iv_oK (.int (Int32.ofNat 0)) 1)) := rfl
set_option maxRecDepth 100000 in
theorem y48_1 : iv_f1 (iv_p 48) 1 = some (.inl (iv_oIS 4 2)) := rfl
set_option maxRecDepth 100000 in
theorem y48_3 : iv_f1 (iv_p 48) 3 = some (.inl (iv_oK (.int (Int32.ofNat 0)) 1)) := rfl
set_option maxRecDepth 100000 in
theorem y48_4 : iv_f1 (iv_p 48) 4 = some (.inl (iv_oIS 5 2)) := rfl
set_option maxRecDepth 100000 in
theorem y48_6 : iv_f1 (iv_p 48) 6 = some (.inl (iv_oK (.long (Int64.ofNat 0)) 1)) := rfl
set_option maxRecDepth 100000 in
theorem y48_7 : iv_f1 (iv_p 48) 7 = some (.inl (iv_oJS 6 2)) := rfl
set_option maxRecDepth 100000 in
theorem y48_9 : iv_f1 (iv_p 48) 9 = some (.inl (iv_oK (.int (Int32.ofNat 0)) 1)) := rfl
set_option maxRecDepth 100000 in
theorem y48_10 : iv_f1 (iv_p 48) 10 = some (.inl (iv_oIS 8 2)) := rfl
set_option maxRecDepth 100000 in
theorem y48_12 : iv_f1 (iv_p 48) 12 = some (.inl (iv_oI 3 1)) := rfl
set_option maxRecDepth 100000 in
theorem y48_13 : iv_f1 (iv_p 48) 13 = some (.inl (iv_oIS 9 2)) := rfl
set_option maxRecDepth 100000 in
theorem y48_15 : iv_f1 (iv_p 48) 15 = some (.inl (iv_oI 9 2)) := rfl
set_option maxRecDepth 100000 in
theorem y48_17 : iv_f1 (iv_p 48) 17 = some (.inl (iv_oI 2 1)) := rfl
set_option maxRecDepth 100000 in
theorem y48_18 : iv_f1 (iv_p 48) 18 = some (.inl (iv_oIc .ge (65))) := rfl
set_option maxRecDepth 100000 in
theorem y48_21 : iv_f1 (iv_p 48) 21 = some (.inl (iv_oA 1 1)) := rfl
set_option maxRecDepth 100000 in
theorem y48_22 : iv_f1 (iv_p 48) 22 = some (.inl (iv_oI 9 2)) := rfl
set_option maxRecDepth 100000 in
theorem y48_24 : iv_f1 (iv_p 48) 24 = some (.inl iv_oIl) := rfl
set_option maxRecDepth 100000 in
theorem y48_25 : iv_f1 (iv_p 48) 25 = some (.inr (.inr (4, 50, 1, 0))) := rfl
set_option maxRecDepth 100000 in
theorem y48_28 : iv_f1 (iv_p 48) 28 = some (.inl (iv_oIf .eq (55))) := rfl
set_option maxRecDepth 100000 in
theorem y48_31 : iv_f1 (iv_p 48) 31 = some (.inl (iv_oA 1 1)) := rfl
set_option maxRecDepth 100000 in
theorem y48_32 : iv_f1 (iv_p 48) 32 = some (.inl (iv_oI 9 2)) := rfl
set_option maxRecDepth 100000 in
theorem y48_34 : iv_f1 (iv_p 48) 34 = some (.inl iv_oIl) := rfl
set_option maxRecDepth 100000 in
theorem y48_35 : iv_f1 (iv_p 48) 35 = some (.inl (iv_oK (.int (Int32.ofNat 97)) 2)) := rfl
set_option maxRecDepth 100000 in
theorem y48_37 : iv_f1 (iv_p 48) 37 = some (.inl (iv_oIc .lt (22))) := rfl
set_option maxRecDepth 100000 in
theorem y48_40 : iv_f1 (iv_p 48) 40 = some (.inl (iv_oInc 4 (1))) := rfl
set_option maxRecDepth 100000 in
theorem y48_43 : iv_f1 (iv_p 48) 43 = some (.inl (iv_oJ 6 2)) := rfl
set_option maxRecDepth 100000 in
theorem y48_45 : iv_f1 (iv_p 48) 45 = some (.inl (iv_oK (.int (Int32.ofNat 8)) 2)) := rfl
set_option maxRecDepth 100000 in
theorem y48_47 : iv_f1 (iv_p 48) 47 = some (.inl (iv_oJI fun x y => x <<< (y.toInt64 &&& 63))) := rfl
set_option maxRecDepth 100000 in
theorem y48_48 : iv_f1 (iv_p 48) 48 = some (.inl (iv_oA 1 1)) := rfl
set_option maxRecDepth 100000 in
theorem y48_49 : iv_f1 (iv_p 48) 49 = some (.inl (iv_oI 9 2)) := rfl
set_option maxRecDepth 100000 in
theorem y48_51 : iv_f1 (iv_p 48) 51 = some (.inl iv_oIl) := rfl
set_option maxRecDepth 100000 in
theorem y48_52 : iv_f1 (iv_p 48) 52 = some (.inl (iv_oUI fun x => .long x.toInt64)) := rfl
set_option maxRecDepth 100000 in
theorem y48_53 : iv_f1 (iv_p 48) 53 = some (.inl (iv_oJJ fun x y => x ||| y)) := rfl
set_option maxRecDepth 100000 in
theorem y48_54 : iv_f1 (iv_p 48) 54 = some (.inl (iv_oJS 6 2)) := rfl
set_option maxRecDepth 100000 in
theorem y48_56 : iv_f1 (iv_p 48) 56 = some (.inl (iv_oGo (21))) := rfl
set_option maxRecDepth 100000 in
theorem y48_59 : iv_f1 (iv_p 48) 59 = some (.inl (iv_oInc 5 (1))) := rfl
set_option maxRecDepth 100000 in
theorem y48_62 : iv_f1 (iv_p 48) 62 = some (.inl (iv_oI 8 2)) := rfl
set_option maxRecDepth 100000 in
theorem y48_64 : iv_f1 (iv_p 48) 64 = some (.inl (iv_oK (.int (Int32.ofNat 10)) 2)) := rfl
set_option maxRecDepth 100000 in
theorem y48_66 : iv_f1 (iv_p 48) 66 = some (.inl (iv_oII fun x y => x * y)) := rfl
set_option maxRecDepth 100000 in
theorem y48_67 : iv_f1 (iv_p 48) 67 = some (.inl (iv_oA 1 1)) := rfl
set_option maxRecDepth 100000 in
theorem y48_68 : iv_f1 (iv_p 48) 68 = some (.inl (iv_oI 9 2)) := rfl
set_option maxRecDepth 100000 in
theorem y48_70 : iv_f1 (iv_p 48) 70 = some (.inl iv_oIl) := rfl
set_option maxRecDepth 100000 in
theorem y48_71 : iv_f1 (iv_p 48) 71 = some (.inl (iv_oII fun x y => x + y)) := rfl
set_option maxRecDepth 100000 in
theorem y48_72 : iv_f1 (iv_p 48) 72 = some (.inl (iv_oK (.int (Int32.ofNat 48)) 2)) := rfl
set_option maxRecDepth 100000 in
theorem y48_74 : iv_f1 (iv_p 48) 74 = some (.inl (iv_oII fun x y => x - y)) := rfl
set_option maxRecDepth 100000 in
theorem y48_75 : iv_f1 (iv_p 48) 75 = some (.inl (iv_oIS 8 2)) := rfl
set_option maxRecDepth 100000 in
theorem y48_77 : iv_f1 (iv_p 48) 77 = some (.inl (iv_oInc 9 (1))) := rfl
set_option maxRecDepth 100000 in
theorem y48_80 : iv_f1 (iv_p 48) 80 = some (.inl (iv_oGo (-65))) := rfl
set_option maxRecDepth 100000 in
theorem y48_83 : iv_f1 (iv_p 48) 83 = some (.inl (iv_oI 4 2)) := rfl
set_option maxRecDepth 100000 in
theorem y48_85 : iv_f1 (iv_p 48) 85 = some (.inl (iv_oI 5 2)) := rfl
set_option maxRecDepth 100000 in
theorem y48_87 : iv_f1 (iv_p 48) 87 = some (.inl (iv_oII fun x y => x + y)) := rfl
set_option maxRecDepth 100000 in
theorem y48_88 : iv_f1 (iv_p 48) 88 = some (.inl (iv_oIf .ne (46))) := rfl
set_option maxRecDepth 100000 in
theorem y48_91 : iv_f1 (iv_p 48) 91 = some (.inl (iv_oK (.ref 259) 2)) := rfl
set_option maxRecDepth 100000 in
theorem y48_93 : iv_f1 (iv_p 48) 93 = some (.inl (iv_oA 1 1)) := rfl
set_option maxRecDepth 100000 in
theorem y48_94 : iv_f1 (iv_p 48) 94 = some (.inl (iv_oI 3 1)) := rfl
set_option maxRecDepth 100000 in
theorem y48_95 : iv_f1 (iv_p 48) 95 = some (.inl iv_oIl) := rfl
set_option maxRecDepth 100000 in
theorem y48_96 : iv_f1 (iv_p 48) 96 = some (.inl (iv_oUI fun x => .int (x.toUInt32 % 65536).toInt32)) := rfl
set_option maxRecDepth 100000 in
theorem y48_97 : iv_f1 (iv_p 48) 97 = some (.inl iv_oSi) := rfl
set_option maxRecDepth 100000 in
theorem y48_100 : iv_f1 (iv_p 48) 100 = some (.inl (iv_oIf .lt (7))) := rfl
set_option maxRecDepth 100000 in
theorem y48_103 : iv_f1 (iv_p 48) 103 = some (.inl (iv_oK (.int (Int32.ofNat 1)) 1)) := rfl
set_option maxRecDepth 100000 in
theorem y48_104 : iv_f1 (iv_p 48) 104 = some (.inl (iv_oGo (4))) := rfl
set_option maxRecDepth 100000 in
theorem y48_107 : iv_f1 (iv_p 48) 107 = some (.inl (iv_oK (.int (Int32.ofNat 0)) 1)) := rfl
set_option maxRecDepth 100000 in
theorem y48_108 : iv_f1 (iv_p 48) 108 = some (.inl (iv_oIS 9 2)) := rfl
set_option maxRecDepth 100000 in
theorem y48_110 : iv_f1 (iv_p 48) 110 = some (.inl (iv_oA 0 1)) := rfl
set_option maxRecDepth 100000 in
theorem y48_111 : iv_f1 (iv_p 48) 111 = some (.inl (iv_oI 9 2)) := rfl
set_option maxRecDepth 100000 in
theorem y48_113 : iv_f1 (iv_p 48) 113 = some (.inl (iv_oIf .eq (7))) := rfl
set_option maxRecDepth 100000 in
theorem y48_116 : iv_f1 (iv_p 48) 116 = some (.inl (iv_oK (.int (Int32.ofNat 3)) 1)) := rfl
set_option maxRecDepth 100000 in
theorem y48_117 : iv_f1 (iv_p 48) 117 = some (.inl (iv_oGo (4))) := rfl
set_option maxRecDepth 100000 in
theorem y48_120 : iv_f1 (iv_p 48) 120 = some (.inl (iv_oK (.int (Int32.ofNat 4)) 1)) := rfl
set_option maxRecDepth 100000 in
theorem y48_121 : iv_f1 (iv_p 48) 121 = some (.inl (iv_oI 3 1)) := rfl
set_option maxRecDepth 100000 in
theorem y48_122 : iv_f1 (iv_p 48) 122 = some (.inl (iv_oA 1 1)) := rfl
set_option maxRecDepth 100000 in
theorem y48_123 : iv_f1 (iv_p 48) 123 = some (.inl (iv_oI 3 1)) := rfl
set_option maxRecDepth 100000 in
theorem y48_124 : iv_f1 (iv_p 48) 124 = some (.inl iv_oIl) := rfl
set_option maxRecDepth 100000 in
theorem y48_125 : iv_f1 (iv_p 48) 125 = some (.inl (iv_oUI fun x => .long x.toInt64)) := rfl
set_option maxRecDepth 100000 in
theorem y48_126 : iv_f1 (iv_p 48) 126 = some (.inl (iv_oS 3)) := rfl
set_option maxRecDepth 100000 in
theorem y48_129 : iv_f1 (iv_p 48) 129 = some (.inr (.inr (6, 51, 4, 5))) := rfl
set_option maxRecDepth 100000 in
theorem y48_132 : iv_f1 (iv_p 48) 132 = some (.inl (iv_oK (.int (Int32.ofNat 1)) 1)) := rfl
set_option maxRecDepth 100000 in
theorem y48_133 : iv_f1 (iv_p 48) 133 = some (.inr (.inl 1)) := rfl
set_option maxRecDepth 100000 in
theorem y48_134 : iv_f1 (iv_p 48) 134 = some (.inl (iv_oI 5 2)) := rfl
set_option maxRecDepth 100000 in
theorem y48_136 : iv_f1 (iv_p 48) 136 = some (.inl (iv_oIf .ne (28))) := rfl
set_option maxRecDepth 100000 in
theorem y48_139 : iv_f1 (iv_p 48) 139 = some (.inl (iv_oI 4 2)) := rfl
set_option maxRecDepth 100000 in
theorem y48_141 : iv_f1 (iv_p 48) 141 = some (.inl (iv_oK (.int (Int32.ofNat 7)) 2)) := rfl
set_option maxRecDepth 100000 in
theorem y48_143 : iv_f1 (iv_p 48) 143 = some (.inl (iv_oIc .gt (21))) := rfl
set_option maxRecDepth 100000 in
theorem y48_146 : iv_f1 (iv_p 48) 146 = some (.inl (iv_oA 0 1)) := rfl
set_option maxRecDepth 100000 in
theorem y48_147 : iv_f1 (iv_p 48) 147 = some (.inl (iv_oK (.int (Int32.ofNat 1)) 1)) := rfl
set_option maxRecDepth 100000 in
theorem y48_148 : iv_f1 (iv_p 48) 148 = some (.inl (iv_oI 3 1)) := rfl
set_option maxRecDepth 100000 in
theorem y48_149 : iv_f1 (iv_p 48) 149 = some (.inl (iv_oJ 6 2)) := rfl
set_option maxRecDepth 100000 in
theorem y48_151 : iv_f1 (iv_p 48) 151 = some (.inl (iv_oA 1 1)) := rfl
set_option maxRecDepth 100000 in
theorem y48_152 : iv_f1 (iv_p 48) 152 = some (.inl (iv_oI 3 1)) := rfl
set_option maxRecDepth 100000 in
theorem y48_153 : iv_f1 (iv_p 48) 153 = some (.inl (iv_oI 4 2)) := rfl
set_option maxRecDepth 100000 in
theorem y48_155 : iv_f1 (iv_p 48) 155 = some (.inr (.inr (4, 110, 3, 0))) := rfl
set_option maxRecDepth 100000 in
theorem y48_158 : iv_f1 (iv_p 48) 158 = some (.inr (.inr (6, 51, 4, 5))) := rfl
set_option maxRecDepth 100000 in
theorem y48_161 : iv_f1 (iv_p 48) 161 = some (.inl (iv_oGo (39))) := rfl
set_option maxRecDepth 100000 in
theorem y48_164 : iv_f1 (iv_p 48) 164 = some (.inl (iv_oI 4 2)) := rfl
set_option maxRecDepth 100000 in
theorem y48_166 : iv_f1 (iv_p 48) 166 = some (.inl (iv_oIf .ne (24))) := rfl
set_option maxRecDepth 100000 in
theorem y48_169 : iv_f1 (iv_p 48) 169 = some (.inl (iv_oI 5 2)) := rfl
set_option maxRecDepth 100000 in
theorem y48_171 : iv_f1 (iv_p 48) 171 = some (.inl (iv_oK (.int (Int32.ofNat 3)) 1)) := rfl
set_option maxRecDepth 100000 in
theorem y48_172 : iv_f1 (iv_p 48) 172 = some (.inl (iv_oIc .gt (18))) := rfl
set_option maxRecDepth 100000 in
theorem y48_175 : iv_f1 (iv_p 48) 175 = some (.inl (iv_oA 0 1)) := rfl
set_option maxRecDepth 100000 in
theorem y48_176 : iv_f1 (iv_p 48) 176 = some (.inl (iv_oK (.int (Int32.ofNat 2)) 1)) := rfl
set_option maxRecDepth 100000 in
theorem y48_177 : iv_f1 (iv_p 48) 177 = some (.inl (iv_oI 3 1)) := rfl
set_option maxRecDepth 100000 in
theorem y48_178 : iv_f1 (iv_p 48) 178 = some (.inl (iv_oI 8 2)) := rfl
set_option maxRecDepth 100000 in
theorem y48_180 : iv_f1 (iv_p 48) 180 = some (.inl (iv_oUI fun x => .long x.toInt64)) := rfl
set_option maxRecDepth 100000 in
theorem y48_181 : iv_f1 (iv_p 48) 181 = some (.inl (iv_oS 3)) := rfl
set_option maxRecDepth 100000 in
theorem y48_184 : iv_f1 (iv_p 48) 184 = some (.inr (.inr (6, 51, 4, 5))) := rfl
set_option maxRecDepth 100000 in
theorem y48_187 : iv_f1 (iv_p 48) 187 = some (.inl (iv_oGo (13))) := rfl
set_option maxRecDepth 100000 in
theorem y48_190 : iv_f1 (iv_p 48) 190 = some (.inl (iv_oA 0 1)) := rfl
set_option maxRecDepth 100000 in
theorem y48_191 : iv_f1 (iv_p 48) 191 = some (.inl (iv_oK (.int (Int32.ofNat 4)) 1)) := rfl
set_option maxRecDepth 100000 in
theorem y48_192 : iv_f1 (iv_p 48) 192 = some (.inl (iv_oI 3 1)) := rfl
set_option maxRecDepth 100000 in
theorem y48_193 : iv_f1 (iv_p 48) 193 = some (.inl (iv_oK (.long (Int64.ofNat 0)) 1)) := rfl
set_option maxRecDepth 100000 in
theorem y48_194 : iv_f1 (iv_p 48) 194 = some (.inl (iv_oS 3)) := rfl
set_option maxRecDepth 100000 in
theorem y48_197 : iv_f1 (iv_p 48) 197 = some (.inr (.inr (6, 51, 4, 5))) := rfl
set_option maxRecDepth 100000 in
theorem y48_200 : iv_f1 (iv_p 48) 200 = some (.inl (iv_oI 4 2)) := rfl
set_option maxRecDepth 100000 in
theorem y48_202 : iv_f1 (iv_p 48) 202 = some (.inl (iv_oI 5 2)) := rfl
set_option maxRecDepth 100000 in
theorem y48_204 : iv_f1 (iv_p 48) 204 = some (.inl (iv_oII fun x y => x + y)) := rfl
set_option maxRecDepth 100000 in
theorem y48_205 : iv_f1 (iv_p 48) 205 = some (.inr (.inl 1)) := rfl
theorem yc_rl {L : Nat} {xs : Nat → Int32} {Post : Option Value → iv_H → Prop} {d : Nat} {σ : iv_H} {T : Nat → Nat} {n s : Nat} (hn : n ≤ 940) (hT : ∀ i, T i ≤ 255) (gt : iv_get σ 2 = some (yai 940 (ytp T))) : ∀ (j k : Nat) (lv : iv_L), n - (s + k) = j → s + k ≤ n → yre T n s = yre T n (s + k) → iv_f1 lv 0 = some (.ref 356) → iv_f1 lv 1 = some (.ref 2) → iv_f1 lv 2 = some (.int (Int32.ofNat n)) → iv_f1 lv 3 = some (.int (Int32.ofNat s)) → iv_f1 lv 4 = some (.int (Int32.ofNat (ylc T s k))) → iv_f1 lv 5 = some (.int (Int32.ofNat (ydc T s k))) → iv_f1 lv 6 = some (.long (yv T s k)) → iv_f1 lv 8 = some (.int (ynu T s k)) → iv_f1 lv 9 = some (.int (Int32.ofNat (s + k))) → (∀ lv1 k1, yre T n s = s + k1 → s + k1 ≤ n → iv_f1 lv1 0 = some (.ref 356) → iv_f1 lv1 1 = some (.ref 2) → iv_f1 lv1 2 = some (.int (Int32.ofNat n)) → iv_f1 lv1 3 = some (.int (Int32.ofNat s)) → iv_f1 lv1 4 = some (.int (Int32.ofNat (ylc T s k1))) → iv_f1 lv1 5 = some (.int (Int32.ofNat (ydc T s k1))) → iv_f1 lv1 6 = some (.long (yv T s k1)) → iv_f1 lv1 8 = some (.int (ynu T s k1)) → iv_f1 lv1 9 = some (.int (Int32.ofNat (s + k1))) → zGo L xs Post [] (d + 1) 48 83 lv1 [] σ) → zGo L xs Post [] (d + 1) 48 15 lv [] σ := by
  intro j
  induction j using Nat.strongRecOn with
  | _ j ih =>
  intro k lv hj hs hr l0 l1 l2 l3 l4 l5 l6 l8 l9 KK
  have hsum := ylc_sum (T := T) (s := s) k
  refine w_I y48_15 l9 ?_
  refine w_I y48_17 l2 ?_
  by_cases c54 : s + k ≥ n
  · skip
    refine y_icT y48_18 rfl (by omega) (by omega) (by simp only [zch]; omega) ?_
    exact KK lv k (hr.trans (yre_e (fun h => by omega))) hs l0 l1 l2 l3 l4 l5 l6 l8 l9
  · skip
    refine y_icF y48_18 rfl (by omega) (by omega) (by simp only [zch]; omega) ?_
    refine w_A y48_21 l1 ?_
    refine w_I y48_22 l9 ?_
    refine y_il y48_24 gt rfl rfl (by omega) (by decide) ?_
    have t55 := hT (s + k)
    refine y_call y48_25 (y_args4 rfl rfl) rfl (yc_ld (hT _)) ?_
    rcases y_bc (ysA (T (s + k))) with b56 | b56
    · skip
      refine w_ifT y48_28 rfl (y_beqT b56) ?_
      exact KK lv k (hr.trans (yre_e (fun h => by rw [b56] at h; cases h.2))) hs l0 l1 l2 l3 l4 l5 l6 l8 l9
    · skip
      refine w_ifF y48_28 rfl (y_beqF b56) ?_
      refine w_A y48_31 l1 ?_
      refine w_I y48_32 l9 ?_
      refine y_il y48_34 gt rfl rfl (by omega) (by decide) ?_
      have t57 := hT (s + k)
      refine w_K y48_35 ?_
      by_cases c58 : T (s + k) < 97
      · skip
        refine y_icT y48_37 rfl (by omega) (by omega) (by simp only [zch]; omega) ?_
        refine w_inc y48_59 (x := ydc T s k) l5 ?_
        refine w_I y48_62 (y_l1 rfl rfl l8) ?_
        refine w_K y48_64 ?_
        refine y_II y48_66 ?_
        refine w_A y48_67 (y_l1 rfl rfl l1) ?_
        refine w_I y48_68 (y_l1 rfl rfl l9) ?_
        refine y_il y48_70 gt rfl rfl (by omega) (by decide) ?_
        have t59 := hT (s + k)
        refine y_II y48_71 ?_
        refine w_K y48_72 ?_
        refine y_II y48_74 ?_
        refine w_IS y48_75 ?_
        refine w_inc y48_77 (x := s + k) (y_l1 rfl rfl (y_l1 rfl rfl l9)) ?_
        refine w_go y48_80 rfl ?_
        have q4 : ylc T s (k + 1) = ylc T s k := if_neg (by omega : ¬ 97 ≤ T (s + k))
        have q5 : ydc T s (k + 1) = ydc T s k + 1 := if_neg (by omega : ¬ 97 ≤ T (s + k))
        have q6 : yv T s (k + 1) = _ := if_neg (by omega : ¬ 97 ≤ T (s + k))
        have q8 : ynu T s (k + 1) = _ := if_neg (by omega : ¬ 97 ≤ T (s + k))
        exact ih (n - (s + (k + 1))) (by omega) (k + 1) _ rfl (by omega) (hr.trans (yre_s (by omega) b56)) (y_l1 rfl rfl (y_l1 rfl rfl (y_l1 rfl rfl l0))) (y_l1 rfl rfl (y_l1 rfl rfl (y_l1 rfl rfl l1))) (y_l1 rfl rfl (y_l1 rfl rfl (y_l1 rfl rfl l2))) (y_l1 rfl rfl (y_l1 rfl rfl (y_l1 rfl rfl l3))) (by rw [q4]; exact (y_l1 rfl rfl (y_l1 rfl rfl (y_l1 rfl rfl l4)))) (by rw [q5]; exact (y_l1 rfl rfl (y_l1 rfl rfl y_l0))) (by rw [q6]; exact (y_l1 rfl rfl (y_l1 rfl rfl (y_l1 rfl rfl l6)))) (by rw [q8]; exact (y_l1 rfl rfl y_l0)) y_l0 KK
      · skip
        refine y_icF y48_37 rfl (by omega) (by omega) (by simp only [zch]; omega) ?_
        refine w_inc y48_40 (x := ylc T s k) l4 ?_
        refine w_J y48_43 (y_l1 rfl rfl l6) ?_
        refine w_K y48_45 ?_
        refine y_JI y48_47 ?_
        refine w_A y48_48 (y_l1 rfl rfl l1) ?_
        refine w_I y48_49 (y_l1 rfl rfl l9) ?_
        refine y_il y48_51 gt rfl rfl (by omega) (by decide) ?_
        have t60 := hT (s + k)
        refine y_UI y48_52 ?_
        refine y_JJ y48_53 ?_
        refine y_JS y48_54 ?_
        refine w_go y48_56 rfl ?_
        refine w_inc y48_77 (x := s + k) (y_l2 rfl rfl (y_l1 rfl rfl l9)) ?_
        refine w_go y48_80 rfl ?_
        have q4 : ylc T s (k + 1) = ylc T s k + 1 := if_pos (by omega : 97 ≤ T (s + k))
        have q5 : ydc T s (k + 1) = ydc T s k := if_pos (by omega : 97 ≤ T (s + k))
        have q6 : yv T s (k + 1) = _ := if_pos (by omega : 97 ≤ T (s + k))
        have q8 : ynu T s (k + 1) = _ := if_pos (by omega : 97 ≤ T (s + k))
        exact ih (n - (s + (k + 1))) (by omega) (k + 1) _ rfl (by omega) (hr.trans (yre_s (by omega) b56)) (y_l1 rfl rfl (y_l2 rfl rfl (y_l1 rfl rfl l0))) (y_l1 rfl rfl (y_l2 rfl rfl (y_l1 rfl rfl l1))) (y_l1 rfl rfl (y_l2 rfl rfl (y_l1 rfl rfl l2))) (y_l1 rfl rfl (y_l2 rfl rfl (y_l1 rfl rfl l3))) (by rw [q4]; exact (y_l1 rfl rfl (y_l2 rfl rfl y_l0))) (by rw [q5]; exact (y_l1 rfl rfl (y_l2 rfl rfl (y_l1 rfl rfl l5)))) (by rw [q6]; exact (y_l1 rfl rfl y_l0)) (by rw [q8]; exact (y_l1 rfl rfl (y_l2 rfl rfl (y_l1 rfl rfl l8)))) y_l0 KK
theorem yc_rt {L : Nat} {xs : Nat → Int32} {d : Nat} {V : Nat → Value} {σ : iv_H} {K P : Nat → Int32} {X : Nat → Int64} {Q : Nat → Option Nat} {T : Nat → Nat} {n s c : Nat} (hd : 3 ≤ d) (hn : n ≤ 940) (hs : s < n) (hc : c < 901) (hT : ∀ i, T i ≤ 255) (g : iv_get σ 356 = some (yob 5 13 V)) (gk : iv_get σ 358 = some (yai 901 K)) (gp : iv_get σ 360 = some (yai 901 P)) (gv : iv_get σ 362 = some (yaj 901 X)) (gw : iv_get σ 364 = some (yaq 901 Q)) (v1 : V 1 = .ref 358) (v2 : V 2 = .ref 360) (v3 : V 3 = .ref 362) (v4 : V 4 = .ref 364) (v0 : V 0 = .int (Int32.ofNat c)) (gt : iv_get σ 2 = some (yai 940 (ytp T))) : ∃ σ1, iv_Rn L xs d 48 0 (lv_args 0 [.ref 356, .ref 2, .int (Int32.ofNat n), .int (Int32.ofNat s)]) [] σ (some (.int (Int32.ofNat (ycl T n s)))) σ1 ∧ ∃ V1 v wd, iv_get σ1 356 = some (yob 5 13 V1) ∧ yAg [0] V V1 ∧ V1 0 = .int (Int32.ofNat (c + 1)) ∧ iv_get σ1 358 = some (yai 901 (upd K c (Int32.ofNat (ykc T n s)))) ∧ iv_get σ1 360 = some (yai 901 (upd P c (Int32.ofNat s))) ∧ iv_get σ1 362 = some (yaj 901 (vp_updL X c v)) ∧ iv_get σ1 364 = some (yaq 901 (va_up Q c (some wd))) ∧ yFr [356, 358, 360, 362, 364] σ σ1 ∧ yTC T n s v wd := by
  obtain ⟨d, rfl⟩ : ∃ e, d = e + 3 := ⟨d - 3, by omega⟩
  refine y_Rn ?_
  refine w_K y48_0 ?_
  refine w_IS y48_1 ?_
  refine w_K y48_3 ?_
  refine w_IS y48_4 ?_
  refine w_K y48_6 ?_
  refine y_JS y48_7 ?_
  refine w_K y48_9 ?_
  refine w_IS y48_10 ?_
  refine w_I y48_12 rfl ?_
  refine w_IS y48_13 ?_
  refine yc_rl (s := s) hn hT gt (n - (s + 0)) 0 _ rfl (by omega) rfl rfl rfl rfl rfl rfl rfl rfl rfl rfl ?_
  intro lv k hk hkn l0 l1 l2 l3 l4 l5 l6 l8 l9
  have hsum := ylc_sum (T := T) (s := s) k
  have hkk : yre T n s - s = k := by omega
  refine w_I y48_83 l4 ?_
  refine w_I y48_85 l5 ?_
  refine w_add y48_87 ?_
  by_cases c61 : (ylc T s k) + (ydc T s k) ≠ 0
  · skip
    refine y_ifT y48_88 rfl (by omega) (by simp only [zch]; omega) ?_
    refine w_I y48_134 l5 ?_
    by_cases c62 : ydc T s k ≠ 0
    · skip
      refine y_ifT y48_136 rfl (by omega) (by simp only [zch]; omega) ?_
      refine w_I y48_164 l4 ?_
      by_cases c63 : ylc T s k ≠ 0
      · skip
        refine y_ifT y48_166 rfl (by omega) (by simp only [zch]; omega) ?_
        refine w_A y48_190 l0 ?_
        refine w_K y48_191 ?_
        refine w_I y48_192 l3 ?_
        refine w_K y48_193 ?_
        refine zGo_s y48_194 rfl ?_
        obtain ⟨σ64, r64, V64, g64, a64, z64, gk64, gp64, gv64, gw64, f64⟩ := yc_add (L := L) (xs := xs) (d := d + 2) (kd := 4) (pl := s) (wd := 3) (v := (Int64.ofNat 0)) hc rfl g gk gp gv gw v1 v2 v3 v4 v0
        refine y_call0 y48_197 (y_args6 g rfl rfl) rfl r64 ?_
        refine w_I y48_200 l4 ?_
        refine w_I y48_202 l5 ?_
        refine w_add y48_204 ?_
        have ha : ysA (T s) = true := by
          cases hx : ysA (T s) with
          | true => rfl
          | false =>
            have := yre_e (T := T) (n := n) (i := s) (fun h => by rw [hx] at h; cases h.2)
            omega
        have ek : ykc T n s = 4 := by unfold ykc; rw [if_pos ha, hkk, if_neg (fun h => by omega), if_neg (fun h => by omega)]
        have el : ycl T n s = ylc T s k + ydc T s k := by unfold ycl; rw [if_pos ha]; omega
        refine y_ret y48_205 rfl ⟨by rw [el], V64, _, _, g64, a64, z64, by rw [ek]; exact gk64, gp64, gv64, gw64, f64, ?_, ?_, ?_, ?_⟩
        · exact fun h => absurd (ek.symm.trans h) (by decide)
        · exact fun h => absurd (ek.symm.trans h) (by decide)
        · exact fun h => absurd (ek.symm.trans h) (by decide)
        · exact fun _ => rfl
      · skip
        refine y_ifF y48_166 rfl (by omega) (by simp only [zch]; omega) ?_
        refine w_I y48_169 l5 ?_
        refine w_K y48_171 ?_
        by_cases c65 : ydc T s k > 3
        · skip
          refine y_icT y48_172 rfl (by omega) (by omega) (by simp only [zch]; omega) ?_
          refine w_A y48_190 l0 ?_
          refine w_K y48_191 ?_
          refine w_I y48_192 l3 ?_
          refine w_K y48_193 ?_
          refine zGo_s y48_194 rfl ?_
          obtain ⟨σ66, r66, V66, g66, a66, z66, gk66, gp66, gv66, gw66, f66⟩ := yc_add (L := L) (xs := xs) (d := d + 2) (kd := 4) (pl := s) (wd := 3) (v := (Int64.ofNat 0)) hc rfl g gk gp gv gw v1 v2 v3 v4 v0
          refine y_call0 y48_197 (y_args6 g rfl rfl) rfl r66 ?_
          refine w_I y48_200 l4 ?_
          refine w_I y48_202 l5 ?_
          refine w_add y48_204 ?_
          have ha : ysA (T s) = true := by
            cases hx : ysA (T s) with
            | true => rfl
            | false =>
              have := yre_e (T := T) (n := n) (i := s) (fun h => by rw [hx] at h; cases h.2)
              omega
          have ek : ykc T n s = 4 := by unfold ykc; rw [if_pos ha, hkk, if_neg (fun h => by omega), if_neg (fun h => by omega)]
          have el : ycl T n s = ylc T s k + ydc T s k := by unfold ycl; rw [if_pos ha]; omega
          refine y_ret y48_205 rfl ⟨by rw [el], V66, _, _, g66, a66, z66, by rw [ek]; exact gk66, gp66, gv66, gw66, f66, ?_, ?_, ?_, ?_⟩
          · exact fun h => absurd (ek.symm.trans h) (by decide)
          · exact fun h => absurd (ek.symm.trans h) (by decide)
          · exact fun h => absurd (ek.symm.trans h) (by decide)
          · exact fun _ => rfl
        · skip
          refine y_icF y48_172 rfl (by omega) (by omega) (by simp only [zch]; omega) ?_
          refine w_A y48_175 l0 ?_
          refine w_K y48_176 ?_
          refine w_I y48_177 l3 ?_
          refine w_I y48_178 l8 ?_
          refine y_UI y48_180 ?_
          refine zGo_s y48_181 rfl ?_
          obtain ⟨σ67, r67, V67, g67, a67, z67, gk67, gp67, gv67, gw67, f67⟩ := yc_add (L := L) (xs := xs) (d := d + 2) (kd := 2) (pl := s) (wd := 3) (v := ((ynu T s k)).toInt64) hc rfl g gk gp gv gw v1 v2 v3 v4 v0
          refine y_call0 y48_184 (y_args6 g rfl rfl) rfl r67 ?_
          refine w_go y48_187 rfl ?_
          refine w_I y48_200 l4 ?_
          refine w_I y48_202 l5 ?_
          refine w_add y48_204 ?_
          have ha : ysA (T s) = true := by
            cases hx : ysA (T s) with
            | true => rfl
            | false =>
              have := yre_e (T := T) (n := n) (i := s) (fun h => by rw [hx] at h; cases h.2)
              omega
          have ek : ykc T n s = 2 := by unfold ykc; rw [if_pos ha, hkk, if_neg (fun h => by omega), if_pos ⟨by omega, by omega⟩]
          have el : ycl T n s = ylc T s k + ydc T s k := by unfold ycl; rw [if_pos ha]; omega
          refine y_ret y48_205 rfl ⟨by rw [el], V67, _, _, g67, a67, z67, by rw [ek]; exact gk67, gp67, gv67, gw67, f67, ?_, ?_, ?_, ?_⟩
          · exact fun h => absurd (ek.symm.trans h) (by decide)
          · exact fun _ => by rw [hkk]
          · exact fun h => absurd (ek.symm.trans h) (by decide)
          · exact fun _ => rfl
    · skip
      refine y_ifF y48_136 rfl (by omega) (by simp only [zch]; omega) ?_
      refine w_I y48_139 l4 ?_
      refine w_K y48_141 ?_
      by_cases c68 : ylc T s k > 7
      · skip
        refine y_icT y48_143 rfl (by omega) (by omega) (by simp only [zch]; omega) ?_
        refine w_I y48_164 l4 ?_
        by_cases c69 : ylc T s k ≠ 0
        · skip
          refine y_ifT y48_166 rfl (by omega) (by simp only [zch]; omega) ?_
          refine w_A y48_190 l0 ?_
          refine w_K y48_191 ?_
          refine w_I y48_192 l3 ?_
          refine w_K y48_193 ?_
          refine zGo_s y48_194 rfl ?_
          obtain ⟨σ70, r70, V70, g70, a70, z70, gk70, gp70, gv70, gw70, f70⟩ := yc_add (L := L) (xs := xs) (d := d + 2) (kd := 4) (pl := s) (wd := 3) (v := (Int64.ofNat 0)) hc rfl g gk gp gv gw v1 v2 v3 v4 v0
          refine y_call0 y48_197 (y_args6 g rfl rfl) rfl r70 ?_
          refine w_I y48_200 l4 ?_
          refine w_I y48_202 l5 ?_
          refine w_add y48_204 ?_
          have ha : ysA (T s) = true := by
            cases hx : ysA (T s) with
            | true => rfl
            | false =>
              have := yre_e (T := T) (n := n) (i := s) (fun h => by rw [hx] at h; cases h.2)
              omega
          have ek : ykc T n s = 4 := by unfold ykc; rw [if_pos ha, hkk, if_neg (fun h => by omega), if_neg (fun h => by omega)]
          have el : ycl T n s = ylc T s k + ydc T s k := by unfold ycl; rw [if_pos ha]; omega
          refine y_ret y48_205 rfl ⟨by rw [el], V70, _, _, g70, a70, z70, by rw [ek]; exact gk70, gp70, gv70, gw70, f70, ?_, ?_, ?_, ?_⟩
          · exact fun h => absurd (ek.symm.trans h) (by decide)
          · exact fun h => absurd (ek.symm.trans h) (by decide)
          · exact fun h => absurd (ek.symm.trans h) (by decide)
          · exact fun _ => rfl
        · skip
          refine y_ifF y48_166 rfl (by omega) (by simp only [zch]; omega) ?_
          refine w_I y48_169 l5 ?_
          refine w_K y48_171 ?_
          by_cases c71 : ydc T s k > 3
          · skip
            refine y_icT y48_172 rfl (by omega) (by omega) (by simp only [zch]; omega) ?_
            refine w_A y48_190 l0 ?_
            refine w_K y48_191 ?_
            refine w_I y48_192 l3 ?_
            refine w_K y48_193 ?_
            refine zGo_s y48_194 rfl ?_
            obtain ⟨σ72, r72, V72, g72, a72, z72, gk72, gp72, gv72, gw72, f72⟩ := yc_add (L := L) (xs := xs) (d := d + 2) (kd := 4) (pl := s) (wd := 3) (v := (Int64.ofNat 0)) hc rfl g gk gp gv gw v1 v2 v3 v4 v0
            refine y_call0 y48_197 (y_args6 g rfl rfl) rfl r72 ?_
            refine w_I y48_200 l4 ?_
            refine w_I y48_202 l5 ?_
            refine w_add y48_204 ?_
            have ha : ysA (T s) = true := by
              cases hx : ysA (T s) with
              | true => rfl
              | false =>
                have := yre_e (T := T) (n := n) (i := s) (fun h => by rw [hx] at h; cases h.2)
                omega
            have ek : ykc T n s = 4 := by unfold ykc; rw [if_pos ha, hkk, if_neg (fun h => by omega), if_neg (fun h => by omega)]
            have el : ycl T n s = ylc T s k + ydc T s k := by unfold ycl; rw [if_pos ha]; omega
            refine y_ret y48_205 rfl ⟨by rw [el], V72, _, _, g72, a72, z72, by rw [ek]; exact gk72, gp72, gv72, gw72, f72, ?_, ?_, ?_, ?_⟩
            · exact fun h => absurd (ek.symm.trans h) (by decide)
            · exact fun h => absurd (ek.symm.trans h) (by decide)
            · exact fun h => absurd (ek.symm.trans h) (by decide)
            · exact fun _ => rfl
          · skip
            refine y_icF y48_172 rfl (by omega) (by omega) (by simp only [zch]; omega) ?_
            refine w_A y48_175 l0 ?_
            refine w_K y48_176 ?_
            refine w_I y48_177 l3 ?_
            refine w_I y48_178 l8 ?_
            refine y_UI y48_180 ?_
            refine zGo_s y48_181 rfl ?_
            obtain ⟨σ73, r73, V73, g73, a73, z73, gk73, gp73, gv73, gw73, f73⟩ := yc_add (L := L) (xs := xs) (d := d + 2) (kd := 2) (pl := s) (wd := 3) (v := ((ynu T s k)).toInt64) hc rfl g gk gp gv gw v1 v2 v3 v4 v0
            refine y_call0 y48_184 (y_args6 g rfl rfl) rfl r73 ?_
            refine w_go y48_187 rfl ?_
            refine w_I y48_200 l4 ?_
            refine w_I y48_202 l5 ?_
            refine w_add y48_204 ?_
            have ha : ysA (T s) = true := by
              cases hx : ysA (T s) with
              | true => rfl
              | false =>
                have := yre_e (T := T) (n := n) (i := s) (fun h => by rw [hx] at h; cases h.2)
                omega
            have ek : ykc T n s = 2 := by unfold ykc; rw [if_pos ha, hkk, if_neg (fun h => by omega), if_pos ⟨by omega, by omega⟩]
            have el : ycl T n s = ylc T s k + ydc T s k := by unfold ycl; rw [if_pos ha]; omega
            refine y_ret y48_205 rfl ⟨by rw [el], V73, _, _, g73, a73, z73, by rw [ek]; exact gk73, gp73, gv73, gw73, f73, ?_, ?_, ?_, ?_⟩
            · exact fun h => absurd (ek.symm.trans h) (by decide)
            · exact fun _ => by rw [hkk]
            · exact fun h => absurd (ek.symm.trans h) (by decide)
            · exact fun _ => rfl
      · skip
        refine y_icF y48_143 rfl (by omega) (by omega) (by simp only [zch]; omega) ?_
        refine w_A y48_146 l0 ?_
        refine w_K y48_147 ?_
        refine w_I y48_148 l3 ?_
        refine w_J y48_149 l6 ?_
        refine w_A y48_151 l1 ?_
        refine w_I y48_152 l3 ?_
        refine w_I y48_153 l4 ?_
        obtain ⟨j74, hj74, hr74, hw74⟩ := yc_at (L := L) (xs := xs) (d := d + 1) (p := s) (q := ylc T s k) gt (by omega) (by omega)
        refine y_call y48_155 (y_args4 rfl rfl) rfl hr74 ?_
        obtain ⟨σ75, r75, V75, g75, a75, z75, gk75, gp75, gv75, gw75, f75⟩ := yc_add (L := L) (xs := xs) (d := d + 2) (kd := 1) (pl := s) (wd := (2 * j74 + 3)) (v := (yv T s k)) hc (s_isW hj74) g gk gp gv gw v1 v2 v3 v4 v0
        refine y_call0 y48_158 (y_args6 g rfl rfl) rfl r75 ?_
        refine w_go y48_161 rfl ?_
        refine w_I y48_200 l4 ?_
        refine w_I y48_202 l5 ?_
        refine w_add y48_204 ?_
        have ha : ysA (T s) = true := by
          cases hx : ysA (T s) with
          | true => rfl
          | false =>
            have := yre_e (T := T) (n := n) (i := s) (fun h => by rw [hx] at h; cases h.2)
            omega
        have ek : ykc T n s = 1 := by unfold ykc; rw [if_pos ha, hkk, if_pos ⟨by omega, by omega⟩]
        have el : ycl T n s = ylc T s k + ydc T s k := by unfold ycl; rw [if_pos ha]; omega
        refine y_ret y48_205 rfl ⟨by rw [el], V75, _, _, g75, a75, z75, by rw [ek]; exact gk75, gp75, gv75, gw75, f75, ?_, ?_, ?_, ?_⟩
        · exact fun _ => by rw [hkk]; exact ⟨rfl, j74, hj74, rfl, by rw [show k = ylc T s k by omega]; exact hw74⟩
        · exact fun h => absurd (ek.symm.trans h) (by decide)
        · exact fun h => absurd (ek.symm.trans h) (by decide)
        · exact fun h => absurd ek h
  · skip
    refine y_ifF y48_88 rfl (by omega) (by simp only [zch]; omega) ?_
    refine w_K y48_91 ?_
    refine w_A y48_93 l1 ?_
    refine w_I y48_94 l3 ?_
    refine y_il y48_95 gt rfl rfl (by omega) (by decide) ?_
    have t76 := hT s
    refine y_UI y48_96 ?_
    refine y_si y48_97 (y_ix (hT s)).2 ?_
    rcases y_bc (ysM (T s)) with b77 | b77
    · skip
      refine w_ifT y48_100 rfl ((y_ix (hT s)).1.trans (by rw [b77]; rfl)) ?_
      refine w_K y48_107 ?_
      refine w_IS y48_108 ?_
      refine w_A y48_110 (y_l1 rfl rfl l0) ?_
      refine w_I y48_111 y_l0 ?_
      refine w_ifT y48_113 rfl rfl ?_
      refine w_K y48_120 ?_
      refine w_I y48_121 (y_l1 rfl rfl l3) ?_
      refine w_A y48_122 (y_l1 rfl rfl l1) ?_
      refine w_I y48_123 (y_l1 rfl rfl l3) ?_
      refine y_il y48_124 gt rfl rfl (by omega) (by decide) ?_
      have t78 := hT s
      refine y_UI y48_125 ?_
      refine zGo_s y48_126 rfl ?_
      obtain ⟨σ79, r79, V79, g79, a79, z79, gk79, gp79, gv79, gw79, f79⟩ := yc_add (L := L) (xs := xs) (d := d + 2) (kd := 4) (pl := s) (wd := 3) (v := ((Int32.ofNat (T s))).toInt64) hc rfl g gk gp gv gw v1 v2 v3 v4 v0
      refine y_call0 y48_129 (y_args6 g rfl rfl) rfl r79 ?_
      refine w_K y48_132 ?_
      have ha : ¬ ysA (T s) = true := fun h => by have := yre_gt (T := T) (n := n) hs h; omega
      have ek : ykc T n s = 4 := by unfold ykc; rw [if_neg ha, if_neg (by rw [b77]; decide)]
      have el : ycl T n s = 1 := by unfold ycl; rw [if_neg ha]
      refine y_ret y48_133 rfl ⟨by rw [el], V79, _, _, g79, a79, z79, by rw [ek]; exact gk79, gp79, gv79, gw79, f79, ?_, ?_, ?_, ?_⟩
      · exact fun h => absurd (ek.symm.trans h) (by decide)
      · exact fun h => absurd (ek.symm.trans h) (by decide)
      · exact fun h => absurd (ek.symm.trans h) (by decide)
      · exact fun _ => rfl
    · skip
      refine w_ifF y48_100 rfl ((y_ix (hT s)).1.trans (by rw [b77]; rfl)) ?_
      refine w_K y48_103 ?_
      refine w_go y48_104 rfl ?_
      refine w_IS y48_108 ?_
      refine w_A y48_110 (y_l1 rfl rfl l0) ?_
      refine w_I y48_111 y_l0 ?_
      refine w_ifF y48_113 rfl rfl ?_
      refine w_K y48_116 ?_
      refine w_go y48_117 rfl ?_
      refine w_I y48_121 (y_l1 rfl rfl l3) ?_
      refine w_A y48_122 (y_l1 rfl rfl l1) ?_
      refine w_I y48_123 (y_l1 rfl rfl l3) ?_
      refine y_il y48_124 gt rfl rfl (by omega) (by decide) ?_
      have t80 := hT s
      refine y_UI y48_125 ?_
      refine zGo_s y48_126 rfl ?_
      obtain ⟨σ81, r81, V81, g81, a81, z81, gk81, gp81, gv81, gw81, f81⟩ := yc_add (L := L) (xs := xs) (d := d + 2) (kd := 3) (pl := s) (wd := 3) (v := ((Int32.ofNat (T s))).toInt64) hc rfl g gk gp gv gw v1 v2 v3 v4 v0
      refine y_call0 y48_129 (y_args6 g rfl rfl) rfl r81 ?_
      refine w_K y48_132 ?_
      have ha : ¬ ysA (T s) = true := fun h => by have := yre_gt (T := T) (n := n) hs h; omega
      have ek : ykc T n s = 3 := by unfold ykc; rw [if_neg ha, if_pos b77]
      have el : ycl T n s = 1 := by unfold ycl; rw [if_neg ha]
      refine y_ret y48_133 rfl ⟨by rw [el], V81, _, _, g81, a81, z81, by rw [ek]; exact gk81, gp81, gv81, gw81, f81, ?_, ?_, ?_, ?_⟩
      · exact fun h => absurd (ek.symm.trans h) (by decide)
      · exact fun h => absurd (ek.symm.trans h) (by decide)
      · exact fun _ => rfl
      · exact fun _ => rfl
