/-! ===== arithmetic of ints and longs by bounds ===== -/
theorem zi_bm {x : Int} (h1 : -2147483648 ≤ x) (h2 : x ≤ 2147483647) : x.bmod (2 ^ 32) = x := by
  rw [Int.bmod_eq_of_le] <;> omega
theorem zj_bm {x : Int} (h1 : -9223372036854775808 ≤ x) (h2 : x ≤ 9223372036854775807) : x.bmod (2 ^ 64) = x := by
  rw [Int.bmod_eq_of_le] <;> omega
theorem zi_rg (x : Int32) : -2147483648 ≤ x.toInt ∧ x.toInt ≤ 2147483647 := by
  have h1 := x.le_toInt
  have h2 := x.toInt_lt
  omega
theorem zj_rg (x : Int64) : -9223372036854775808 ≤ x.toInt ∧ x.toInt ≤ 9223372036854775807 := by
  have h1 := x.le_toInt
  have h2 := x.toInt_lt
  omega
/-- what an operation gives: a value, or a new symbol with bounds and defs -/
abbrev zr : Type := zv ⊕ (zc × (Nat → List zd))
def zvl (B : zB) (v : zv) : Int := zlb B.1 B.2.1 v.2.1 v.2.2
def zvh (B : zB) (v : zv) : Int := zub B.1 B.2.1 v.2.1 v.2.2
section ZAR
variable {τ : Nat → Nat} {ty : Nat → Option zt} {ρ : Nat → Int} {B : zB}
theorem zvl_ok (h : zB_ok τ ty ρ B) {v : zv} (hw : zl_wf B.1.length v.2.2 = true) : zvl B v ≤ zv_ev ρ v := zlb_ok h.1 h.2.1 hw
theorem zvh_ok (h : zB_ok τ ty ρ B) {v : zv} (hw : zl_wf B.1.length v.2.2 = true) : zv_ev ρ v ≤ zvh B v := zub_ok h.1 h.2.1 hw
/-- the answer of an operation is right: k its kind, y what it is -/
def zr_ok (τ : Nat → Nat) (ty : Nat → Option zt) (ρ : Nat → Int) (B : zB) (k : Nat) (y : Int) : zr → Prop
  | .inl v => v.1 = k ∧ zl_wf B.1.length v.2.2 = true ∧ zv_ev ρ v = y
  | .inr (c, ds) => c.1 = k ∧ c.2.1 ≤ y ∧ y ≤ c.2.2 ∧ ∀ d ∈ ds B.1.length, zd_ok ty (zup ρ B.1.length y) (B.1.length + 1) d
def zTi : zr := .inr ((0, -2147483648, 2147483647), fun _ => [])
def zTj : zr := .inr ((1, -9223372036854775808, 9223372036854775807), fun _ => [])
theorem zTi_ok {y : Int32} : zr_ok τ ty ρ B 0 y.toInt zTi := ⟨rfl, (zi_rg y).1, (zi_rg y).2, fun d hd => by cases hd⟩
theorem zTj_ok {y : Int64} : zr_ok τ ty ρ B 1 y.toInt zTj := ⟨rfl, (zj_rg y).1, (zj_rg y).2, fun d hd => by cases hd⟩
/-- a value, if it is an int, else any int -/
def zin (B : zB) (v : zv) : zr := bif zle (-2147483648) (zvl B v) && zle (zvh B v) 2147483647 then .inl v else zTi
def zjn (B : zB) (v : zv) : zr := bif zle (-9223372036854775808) (zvl B v) && zle (zvh B v) 9223372036854775807 then .inl v else zTj
theorem zin_ok (h : zB_ok τ ty ρ B) {v : zv} (hk : v.1 = 0) (hw : zl_wf B.1.length v.2.2 = true) {y : Int32} (hy : y.toInt = (zv_ev ρ v).bmod (2 ^ 32)) : zr_ok τ ty ρ B 0 y.toInt (zin B v) := by
  unfold zin
  cases hz : zle (-2147483648) (zvl B v) && zle (zvh B v) 2147483647
  · exact zTi_ok
  · rw [Bool.and_eq_true] at hz
    have h1 := zle_iff.mp hz.1
    have h2 := zle_iff.mp hz.2
    have h3 := zvl_ok h hw
    have h4 := zvh_ok h hw
    refine ⟨hk, hw, ?_⟩
    rw [hy, zi_bm (by omega) (by omega)]
theorem zjn_ok (h : zB_ok τ ty ρ B) {v : zv} (hk : v.1 = 1) (hw : zl_wf B.1.length v.2.2 = true) {y : Int64} (hy : y.toInt = (zv_ev ρ v).bmod (2 ^ 64)) : zr_ok τ ty ρ B 1 y.toInt (zjn B v) := by
  unfold zjn
  cases hz : zle (-9223372036854775808) (zvl B v) && zle (zvh B v) 9223372036854775807
  · exact zTj_ok
  · rw [Bool.and_eq_true] at hz
    have h1 := zle_iff.mp hz.1
    have h2 := zle_iff.mp hz.2
    have h3 := zvl_ok h hw
    have h4 := zvh_ok h hw
    refine ⟨hk, hw, ?_⟩
    rw [hy, zj_bm (by omega) (by omega)]
/-- a + m b -/
def zv_cm (m : Int) (a b : zv) : zv := (a.1, a.2.1 + m * b.2.1, zl_cm m a.2.2 b.2.2)
theorem zv_cm_ev (m : Int) (a b : zv) : zv_ev ρ (zv_cm m a b) = zv_ev ρ a + m * zv_ev ρ b := by
  unfold zv_ev zv_cm
  rw [zl_cm_ev, Int.mul_add]
  show a.2.1 + m * b.2.1 + (zl_ev ρ a.2.2 + m * zl_ev ρ b.2.2) = _
  omega
/-- a new symbol between two bounds -/
def zbt (k : Nat) (lo hi : Int) : zr := .inr ((k, lo, hi), fun _ => [])
theorem zbt_ok {k : Nat} {lo hi y : Int} (h1 : lo ≤ y) (h2 : y ≤ hi) : zr_ok τ ty ρ B k y (zbt k lo hi) := ⟨rfl, h1, h2, fun d hd => by cases hd⟩
abbrev zo2 : Type := zB → zv → zv → Option zr
/-- an operation of two ints; P: what must hold of the second for it to be done -/
def zII (h : Int32 → Int32 → Int32) (g : zo2) : Prop := ∀ (τ : Nat → Nat) (ty : Nat → Option zt) (ρ : Nat → Int) (B : zB) (v w : zv) (x y : Int32) (r : zr), zB_ok τ ty ρ B → zl_wf B.1.length v.2.2 = true → zl_wf B.1.length w.2.2 = true → v.1 = 0 → w.1 = 0 → x.toInt = zv_ev ρ v → y.toInt = zv_ev ρ w → g B v w = some r → zr_ok τ ty ρ B 0 (h x y).toInt r
def zadd : zo2 := fun B v w => some (zin B (zv_cm 1 v w))
theorem zadd_ok : zII (fun x y => x + y) zadd := by
  intro τ ty ρ B v w x y r hB hv hw kv kw ex ey hg
  cases hg
  refine zin_ok hB (v := zv_cm 1 v w) kv (zl_cm_wf hv hw) ?_
  rw [Int32.toInt_add, zv_cm_ev, ex, ey, Int.one_mul]
def zsub : zo2 := fun B v w => some (zin B (zv_cm (-1) v w))
theorem zsub_ok : zII (fun x y => x - y) zsub := by
  intro τ ty ρ B v w x y r hB hv hw kv kw ex ey hg
  cases hg
  refine zin_ok hB (v := zv_cm (-1) v w) kv (zl_cm_wf hv hw) ?_
  rw [Int32.toInt_sub, zv_cm_ev, ex, ey]
  congr 1; omega
def zmul : zo2 := fun B v w => match v.2.2 with
  | [] => some (zin B (0, v.2.1 * w.2.1, zl_cm v.2.1 [] w.2.2))
  | _ :: _ => match w.2.2 with
  | [] => some (zin B (0, w.2.1 * v.2.1, zl_cm w.2.1 [] v.2.2))
  | _ :: _ => (fun a b c d => bif (zle 0 a && zle 0 c) && zle (b * d) 2147483647 then some (.inr ((0, a * c, b * d), fun n => [(1, n, v, w)])) else some zTi) (zvl B v) (zvh B v) (zvl B w) (zvh B w)
theorem zmul_ok : zII (fun x y => x * y) zmul := by
  intro τ ty ρ B v w x y r hB hv hw kv kw ex ey hg
  unfold zmul at hg
  split at hg
  · rename_i h0
    cases hg
    refine zin_ok hB rfl (zl_cm_wf rfl hw) ?_
    have e1 : zv_ev ρ v = v.2.1 := by unfold zv_ev; rw [h0]; show v.2.1 + 0 = _; omega
    rw [Int32.toInt_mul, ex, ey, e1]
    congr 1
    show v.2.1 * zv_ev ρ w = v.2.1 * w.2.1 + zl_ev ρ (zl_cm v.2.1 [] w.2.2)
    rw [zl_cm_ev]
    unfold zv_ev
    rw [Int.mul_add]
    show _ = v.2.1 * w.2.1 + (0 + _)
    omega
  split at hg
  · rename_i h0
    cases hg
    refine zin_ok hB rfl (zl_cm_wf rfl hv) ?_
    have e1 : zv_ev ρ w = w.2.1 := by unfold zv_ev; rw [h0]; show w.2.1 + 0 = _; omega
    rw [Int32.toInt_mul, ex, ey, e1, Int.mul_comm]
    congr 1
    show w.2.1 * zv_ev ρ v = w.2.1 * v.2.1 + zl_ev ρ (zl_cm w.2.1 [] v.2.2)
    rw [zl_cm_ev]
    unfold zv_ev
    rw [Int.mul_add]
    show _ = w.2.1 * v.2.1 + (0 + _)
    omega
  · dsimp only at hg
    cases hz : (zle 0 (zvl B v) && zle 0 (zvl B w)) && zle (zvh B v * zvh B w) 2147483647
    · rw [hz] at hg; cases hg; exact zTi_ok
    · rw [hz] at hg
      cases hg
      rw [Bool.and_eq_true, Bool.and_eq_true] at hz
      have h1 := zle_iff.mp hz.1.1
      have h2 := zle_iff.mp hz.1.2
      have h3 := zle_iff.mp hz.2
      have a1 := zvl_ok hB hv
      have a2 := zvh_ok hB hv
      have a3 := zvl_ok hB hw
      have a4 := zvh_ok hB hw
      have m1 : zvl B v * zvl B w ≤ zv_ev ρ v * zv_ev ρ w := Int.mul_le_mul a1 a3 h2 (by omega)
      have m2 : zv_ev ρ v * zv_ev ρ w ≤ zvh B v * zvh B w := Int.mul_le_mul a2 a4 (by omega) (by omega)
      have m0 : 0 ≤ zvl B v * zvl B w := Int.mul_nonneg h1 h2
      have e1 : (x * y).toInt = zv_ev ρ v * zv_ev ρ w := by rw [Int32.toInt_mul, ex, ey, zi_bm (by omega) (by omega)]
      show zr_ok τ ty ρ B 0 (x * y).toInt _
      rw [e1]
      refine ⟨rfl, m1, m2, ?_⟩
      intro d hd
      rcases List.mem_singleton.mp hd with rfl
      refine ⟨Nat.lt_succ_self _, zl_wf_le (Nat.le_succ _) hv, zl_wf_le (Nat.le_succ _) hw, ?_⟩
      show zup ρ B.1.length (zv_ev ρ v * zv_ev ρ w) B.1.length = zv_ev (zup ρ B.1.length (zv_ev ρ v * zv_ev ρ w)) v * zv_ev (zup ρ B.1.length (zv_ev ρ v * zv_ev ρ w)) w
      rw [zup_s, zv_ag zup_ag hv, zv_ag zup_ag hw]
theorem zi_nn {x : Int32} (h : 0 ≤ x.toInt) : x.toInt = (x.toBitVec.toNat : Int) := by
  have h2 : x.toInt = x.toBitVec.toInt := rfl
  rw [h2] at h ⊢
  rw [BitVec.toInt_eq_toNat_cond] at h ⊢
  have := x.toBitVec.isLt
  split at h <;> omega
theorem zi_of {b : BitVec 32} (h : b.toNat < 2147483648) : b.toInt = (b.toNat : Int) := by
  rw [BitVec.toInt_eq_toNat_cond]
  split <;> omega
theorem zi_and {x y : Int32} (h : 0 ≤ y.toInt) : 0 ≤ (x &&& y).toInt ∧ (x &&& y).toInt ≤ y.toInt := by
  have h1 := zi_nn h
  have h2 := (zi_rg y).2
  have h3 : (x &&& y).toBitVec.toNat ≤ y.toBitVec.toNat := by
    show (x.toBitVec &&& y.toBitVec).toNat ≤ _
    rw [BitVec.toNat_and]
    exact Nat.and_le_right
  have h4 : (x &&& y).toInt = ((x &&& y).toBitVec.toNat : Int) := zi_of (by omega)
  omega
theorem zi_and' {x y : Int32} (h : 0 ≤ x.toInt) : 0 ≤ (x &&& y).toInt ∧ (x &&& y).toInt ≤ x.toInt := by
  have h1 := zi_nn h
  have h2 := (zi_rg x).2
  have h3 : (x &&& y).toBitVec.toNat ≤ x.toBitVec.toNat := by
    show (x.toBitVec &&& y.toBitVec).toNat ≤ _
    rw [BitVec.toNat_and]
    exact Nat.and_le_left
  have h4 : (x &&& y).toInt = ((x &&& y).toBitVec.toNat : Int) := zi_of (by omega)
  omega
def zand : zo2 := fun B v w => bif zle 0 (zvl B w) then some (zbt 0 0 (zvh B w)) else bif zle 0 (zvl B v) then some (zbt 0 0 (zvh B v)) else some zTi
theorem zand_ok : zII (fun x y => x &&& y) zand := by
  intro τ ty ρ B v w x y r hB hv hw kv kw ex ey hg
  unfold zand at hg
  cases hz : zle 0 (zvl B w)
  · rw [hz] at hg
    cases hz2 : zle 0 (zvl B v)
    · rw [hz2] at hg; cases hg; exact zTi_ok
    · rw [hz2] at hg
      cases hg
      have a1 := zvl_ok hB hv
      have a2 := zvh_ok hB hv
      have h2 := zle_iff.mp hz2
      have h3 := zi_and' (x := x) (y := y) (by omega)
      show zr_ok τ ty ρ B 0 (x &&& y).toInt _
      exact zbt_ok h3.1 (by omega)
  · rw [hz] at hg
    cases hg
    have a1 := zvl_ok hB hw
    have a2 := zvh_ok hB hw
    have h2 := zle_iff.mp hz
    have h3 := zi_and (x := x) (y := y) (by omega)
    show zr_ok τ ty ρ B 0 (x &&& y).toInt _
    exact zbt_ok h3.1 (by omega)
/-- one less than a power of 2, at least m -/
def zpw : Nat → Nat → Int → Option Nat
  | 0, _, _ => none
  | n + 1, k, m => bif zle m (2 ^ k - 1) then some k else zpw n (k + 1) m
theorem zpw_ok : ∀ {n k : Nat} {m : Int} {j : Nat}, zpw n k m = some j → m ≤ 2 ^ j - 1
  | 0, _, _, _, h => by cases h
  | n + 1, k, m, j, h => by
    unfold zpw at h
    cases hz : zle m (2 ^ k - 1)
    · rw [hz] at h; exact zpw_ok h
    · rw [hz] at h; cases h; exact zle_iff.mp hz
def zor : zo2 := fun B v w => bif zle 0 (zvl B v) && zle 0 (zvl B w) then (match zpw 31 0 (bif zle (zvh B v) (zvh B w) then zvh B w else zvh B v) with
  | some k => some (zbt 0 0 (2 ^ k - 1))
  | none => some zTi) else some zTi
theorem zor_ok : zII (fun x y => x ||| y) zor := by
  intro τ ty ρ B v w x y r hB hv hw kv kw ex ey hg
  unfold zor at hg
  cases hz : zle 0 (zvl B v) && zle 0 (zvl B w)
  · rw [hz] at hg; cases hg; exact zTi_ok
  · rw [hz] at hg
    simp only [cond_true] at hg
    split at hg
    · rename_i k hk
      cases hg
      rw [Bool.and_eq_true] at hz
      have h1 := zle_iff.mp hz.1
      have h2 := zle_iff.mp hz.2
      have a1 := zvl_ok hB hv
      have a2 := zvh_ok hB hv
      have a3 := zvl_ok hB hw
      have a4 := zvh_ok hB hw
      have hm := zpw_ok hk
      have hm2 : zvh B v ≤ 2 ^ k - 1 ∧ zvh B w ≤ 2 ^ k - 1 := by
        cases hq : zle (zvh B v) (zvh B w)
        · rw [hq] at hm
          have : ¬ zvh B v ≤ zvh B w := fun h9 => by rw [zle_iff.mpr h9] at hq; cases hq
          simp only [cond_false] at hm
          omega
        · rw [hq] at hm
          have := zle_iff.mp hq
          simp only [cond_true] at hm
          omega
      have n1 := zi_nn (x := x) (by omega)
      have n2 := zi_nn (x := y) (by omega)
      have hp : ((2 ^ k : Nat) : Int) = 2 ^ k := by simp
      have l1 : x.toBitVec.toNat < 2 ^ k := by omega
      have l2 : y.toBitVec.toNat < 2 ^ k := by omega
      have l3 : (x ||| y).toBitVec.toNat < 2 ^ k := by
        show (x.toBitVec ||| y.toBitVec).toNat < _
        rw [BitVec.toNat_or]
        exact Nat.or_lt_two_pow l1 l2
      have hmsb : (x ||| y).toBitVec.toNat < 2147483648 := by
        have r1 := (zi_rg x).2
        have r2 := (zi_rg y).2
        show (x.toBitVec ||| y.toBitVec).toNat < 2 ^ 31
        rw [BitVec.toNat_or]
        exact Nat.or_lt_two_pow (by omega) (by omega)
      have l4 : (x ||| y).toInt = ((x ||| y).toBitVec.toNat : Int) := zi_of hmsb
      show zr_ok τ ty ρ B 0 (x ||| y).toInt _
      exact zbt_ok (by omega) (by omega)
    · cases hg; exact zTi_ok
def zany : zo2 := fun _ _ _ => some zTi
theorem zany_ok (f : Int32 → Int32 → Int32) : zII f zany := by
  intro τ ty ρ B v w x y r hB hv hw kv kw ex ey hg
  cases hg
  exact zTi_ok
end ZAR
