/-! ===== shifts, division, longs ===== -/
section ZAR2
variable {τ : Nat → Nat} {ty : Nat → Option zt} {ρ : Nat → Int} {B : zB}
theorem zi_31 {y : Int32} (h1 : 0 ≤ y.toInt) (h2 : y.toInt ≤ 31) : (y &&& 31) = y := by
  have h3 := zi_nn h1
  rw [← Int32.toInt_inj]
  have h4 : (y &&& 31).toBitVec.toNat = y.toBitVec.toNat := by
    show (y.toBitVec &&& (31#32)).toNat = _
    rw [BitVec.toNat_and]
    show y.toBitVec.toNat &&& 31 = _
    have h5 : y.toBitVec.toNat < 2 ^ 5 := by omega
    rw [show (31 : Nat) = 2 ^ 5 - 1 from rfl, Nat.and_two_pow_sub_one_eq_mod, Nat.mod_eq_of_lt h5]
  have h6 : (y &&& 31).toBitVec = y.toBitVec := BitVec.eq_of_toNat_eq h4
  show (y &&& 31).toBitVec.toInt = y.toBitVec.toInt
  rw [h6]
theorem zi_shl {x y : Int32} {n : Nat} (hx : 0 ≤ x.toInt) (hy : y.toInt = (n : Int)) (hn : n ≤ 30) (hb : x.toInt * 2 ^ n ≤ 2147483647) : (x <<< (y &&& 31)).toInt = x.toInt * 2 ^ n := by
  rw [zi_31 (by omega) (by omega)]
  have h1 := zi_nn hx
  have h2 := zi_nn (x := y) (by omega)
  have h3 : y.toBitVec.toNat = n := by omega
  have hs : (x <<< y).toBitVec = x.toBitVec <<< n := by
    show x.toBitVec <<< (y.toBitVec.smod 32#32) = _
    have h5 : y.toBitVec.smod 32#32 = y.toBitVec := by
      apply BitVec.eq_of_toInt_eq
      rw [BitVec.toInt_smod]
      have h6 : y.toBitVec.toInt = (n : Int) := hy
      rw [h6]
      show Int.fmod (n : Int) 32 = _
      rw [Int.fmod_eq_emod_of_nonneg _ (by omega)]
      omega
    rw [h5]
    show x.toBitVec <<< y.toBitVec.toNat = _
    rw [h3]
  have hp : ((2 ^ n : Nat) : Int) = 2 ^ n := by simp
  have h4 : (x <<< y).toBitVec.toNat = x.toBitVec.toNat * 2 ^ n := by
    rw [hs, BitVec.toNat_shiftLeft, Nat.shiftLeft_eq]
    refine Nat.mod_eq_of_lt ?_
    have h7 : ((x.toBitVec.toNat * 2 ^ n : Nat) : Int) ≤ 2147483647 := by
      rw [Int.natCast_mul, hp, ← h1]; exact hb
    omega
  have h8 : ((x.toBitVec.toNat * 2 ^ n : Nat) : Int) ≤ 2147483647 := by
    rw [Int.natCast_mul, hp, ← h1]; exact hb
  have h9 : (x <<< y).toInt = ((x <<< y).toBitVec.toNat : Int) := zi_of (by rw [h4]; omega)
  rw [h9, h4, Int.natCast_mul, hp, ← h1]
/-- the shift is by some number up to 30 -/
def zshl : zo2 := fun B v w => (fun a b c d => bif ((zle 0 a && zle 0 c) && zle d 30) && zle (b * 2 ^ d.toNat) 2147483647 then some (zbt 0 0 (b * 2 ^ d.toNat)) else some zTi) (zvl B v) (zvh B v) (zvl B w) (zvh B w)
theorem zshl_ok : zII (fun x y => x <<< (y &&& 31)) zshl := by
  intro τ ty ρ B v w x y r hB hv hw kv kw ex ey hg
  unfold zshl at hg
  dsimp only at hg
  cases hz : ((zle 0 (zvl B v) && zle 0 (zvl B w)) && zle (zvh B w) 30) && zle (zvh B v * 2 ^ (zvh B w).toNat) 2147483647
  · rw [hz] at hg; cases hg; exact zTi_ok
  · rw [hz] at hg
    cases hg
    simp only [Bool.and_eq_true] at hz
    have h1 := zle_iff.mp hz.1.1.1
    have h2 := zle_iff.mp hz.1.1.2
    have h3 := zle_iff.mp hz.1.2
    have h4 := zle_iff.mp hz.2
    have a1 := zvl_ok hB hv
    have a2 := zvh_ok hB hv
    have a3 := zvl_ok hB hw
    have a4 := zvh_ok hB hw
    obtain ⟨n, hn⟩ := Int.eq_ofNat_of_zero_le (show 0 ≤ y.toInt by omega)
    have hn2 : n ≤ (zvh B w).toNat := by omega
    have hpw : (2 : Int) ^ n ≤ 2 ^ (zvh B w).toNat := by
      have := Nat.pow_le_pow_right (show 0 < 2 by decide) hn2
      have e1 : ((2 ^ n : Nat) : Int) = 2 ^ n := by simp
      have e2 : ((2 ^ (zvh B w).toNat : Nat) : Int) = 2 ^ (zvh B w).toNat := by simp
      omega
    have hpos : (0 : Int) ≤ 2 ^ n := by
      have e1 : ((2 ^ n : Nat) : Int) = (2 : Int) ^ n := by simp
      rw [← e1]
      exact Int.natCast_nonneg _
    have hm : x.toInt * 2 ^ n ≤ zvh B v * 2 ^ (zvh B w).toNat := Int.mul_le_mul (by omega) hpw hpos (by omega)
    have hs := zi_shl (x := x) (y := y) (n := n) (by omega) hn (by omega) (by omega)
    show zr_ok τ ty ρ B 0 (x <<< (y &&& 31)).toInt _
    rw [hs]
    exact zbt_ok (Int.mul_nonneg (by omega) hpos) hm
theorem zi_ushr {x y : Int32} {n : Nat} (hy : y.toInt = (n : Int)) (h1 : 1 ≤ n) (h2 : n ≤ 31) : 0 ≤ ((x.toUInt32 >>> (y.toUInt32 &&& Int32.toUInt32 31)).toInt32).toInt ∧ ((x.toUInt32 >>> (y.toUInt32 &&& Int32.toUInt32 31)).toInt32).toInt ≤ 2 ^ (32 - n) - 1 := by
  have h3 := zi_nn (x := y) (by omega)
  have e1 : y.toBitVec.toNat = n := by omega
  have e2 : (y.toUInt32 &&& Int32.toUInt32 31).toNat = n := by
    show (y.toBitVec &&& 31#32).toNat = n
    rw [BitVec.toNat_and]
    show y.toBitVec.toNat &&& 31 = n
    rw [e1, show (31 : Nat) = 2 ^ 5 - 1 from rfl, Nat.and_two_pow_sub_one_eq_mod]
    exact Nat.mod_eq_of_lt (by omega)
  have e3 : (x.toUInt32 >>> (y.toUInt32 &&& Int32.toUInt32 31)).toNat = x.toUInt32.toNat >>> n := by
    rw [UInt32.toNat_shiftRight, e2, Nat.mod_eq_of_lt (by omega)]
  have e4 : x.toUInt32.toNat >>> n < 2 ^ (32 - n) := by
    rw [Nat.shiftRight_eq_div_pow]
    apply Nat.div_lt_of_lt_mul
    rw [← Nat.pow_add, show n + (32 - n) = 32 by omega]
    exact x.toUInt32.toNat_lt
  have e5 : 2 ^ (32 - n) ≤ 2 ^ 31 := Nat.pow_le_pow_right (by decide) (by omega)
  have e6 : ((x.toUInt32 >>> (y.toUInt32 &&& Int32.toUInt32 31)).toInt32).toInt = ((x.toUInt32 >>> (y.toUInt32 &&& Int32.toUInt32 31)).toNat : Int) := by
    show (x.toUInt32 >>> (y.toUInt32 &&& Int32.toUInt32 31)).toBitVec.toInt = _
    exact zi_of (by show (x.toUInt32 >>> (y.toUInt32 &&& Int32.toUInt32 31)).toNat < _; rw [e3]; omega)
  have hp : ((2 ^ (32 - n) : Nat) : Int) = 2 ^ (32 - n) := by simp
  rw [e6, e3]
  omega
def zushr : zo2 := fun _ _ w => match w.2.2 with
  | [] => bif zle 1 w.2.1 && zle w.2.1 31 then some (zbt 0 0 (2 ^ (32 - w.2.1.toNat) - 1)) else some zTi
  | _ => some zTi
theorem zushr_ok : zII (fun x y => (x.toUInt32 >>> (y.toUInt32 &&& Int32.toUInt32 31)).toInt32) zushr := by
  intro τ ty ρ B v w x y r hB hv hw kv kw ex ey hg
  unfold zushr at hg
  split at hg
  · rename_i h0
    cases hz : zle 1 w.2.1 && zle w.2.1 31
    · rw [hz] at hg; cases hg; exact zTi_ok
    · rw [hz] at hg
      cases hg
      rw [Bool.and_eq_true] at hz
      have h1 := zle_iff.mp hz.1
      have h2 := zle_iff.mp hz.2
      have e1 : zv_ev ρ w = w.2.1 := by unfold zv_ev; rw [h0]; show w.2.1 + 0 = _; omega
      have h3 := zi_ushr (x := x) (y := y) (n := w.2.1.toNat) (by omega) (by omega) (by omega)
      show zr_ok τ ty ρ B 0 ((x.toUInt32 >>> (y.toUInt32 &&& Int32.toUInt32 31)).toInt32).toInt _
      exact zbt_ok h3.1 h3.2
  · cases hg; exact zTi_ok
/-- division: the second is not 0 -/
def znz (B : zB) (w : zv) : Bool := zle 1 (zvl B w) || zle (zvh B w) (-1)
theorem znz_ok (h : zB_ok τ ty ρ B) {w : zv} (hw : zl_wf B.1.length w.2.2 = true) (hz : znz B w = true) : zv_ev ρ w ≠ 0 := by
  have a1 := zvl_ok h hw
  have a2 := zvh_ok h hw
  unfold znz at hz
  rw [Bool.or_eq_true] at hz
  rcases hz with g | g
  · have := zle_iff.mp g; omega
  · have := zle_iff.mp g; omega
theorem zi_div {x y : Int32} (hx : 0 ≤ x.toInt) (hy : 1 ≤ y.toInt) : (x / y).toInt = x.toInt / y.toInt := by
  rw [Int32.toInt_div, Int.tdiv_eq_ediv_of_nonneg hx]
  have h1 := Int.ediv_nonneg hx (show 0 ≤ y.toInt by omega)
  have h2 : x.toInt / y.toInt ≤ x.toInt := Int.ediv_le_self _ hx
  have h3 := zi_rg x
  exact zi_bm (by omega) (by omega)
def zl_eq : zl → zl → Bool
  | [], [] => true
  | p :: r, q :: s => bif Nat.beq p.1 q.1 && zeq p.2 q.2 then zl_eq r s else false
  | _, _ => false
theorem zl_eq_ok : ∀ {a b : zl}, zl_eq a b = true → a = b
  | [], [], _ => rfl
  | p :: r, q :: s, h => by
    unfold zl_eq at h
    cases hb : Nat.beq p.1 q.1 && zeq p.2 q.2
    · rw [hb] at h; cases h
    · rw [hb] at h
      rw [Bool.and_eq_true] at hb
      have h1 := Nat.eq_of_beq_eq_true hb.1
      have h2 := zbeq.mp hb.2
      rw [zl_eq_ok h, show p = q from Prod.ext h1 h2]
  | [], q :: s, h => by cases h
  | p :: r, [], h => by cases h
def zv_eq (v w : zv) : Bool := Nat.beq v.1 w.1 && (zeq v.2.1 w.2.1 && zl_eq v.2.2 w.2.2)
theorem zv_eq_ok {v w : zv} (h : zv_eq v w = true) : v = w := by
  unfold zv_eq at h
  rw [Bool.and_eq_true, Bool.and_eq_true] at h
  exact Prod.ext (Nat.eq_of_beq_eq_true h.1) (Prod.ext (zbeq.mp h.2.1) (zl_eq_ok h.2.2))
/-- a quotient that is known -/
def zfd (v w : zv) : List zd → Option Nat
  | [] => none
  | d :: r => bif Nat.beq d.1 2 && (zv_eq d.2.2.1 v && zv_eq d.2.2.2 w) then some d.2.1 else zfd v w r
theorem zfd_in {v w : zv} : ∀ {D : List zd} {q : Nat}, zfd v w D = some q → (2, q, v, w) ∈ D
  | [], q, h => by cases h
  | d :: r, q, h => by
    unfold zfd at h
    cases hb : Nat.beq d.1 2 && (zv_eq d.2.2.1 v && zv_eq d.2.2.2 w)
    · rw [hb] at h; exact List.mem_cons_of_mem _ (zfd_in h)
    · rw [hb] at h
      cases h
      rw [Bool.and_eq_true, Bool.and_eq_true] at hb
      have e : d = (2, d.2.1, v, w) := Prod.ext (Nat.eq_of_beq_eq_true hb.1) (Prod.ext rfl (Prod.ext (zv_eq_ok hb.2.1) (zv_eq_ok hb.2.2)))
      rw [← e]
      exact List.mem_cons_self
def zdiv : zo2 := fun B v w => bif zle 0 (zvl B v) && zle 1 (zvl B w) then (match zfd v w B.2.2 with
  | some q => some (.inl (0, 0, [(q, 1)]))
  | none => some (.inr ((0, 0, zvh B v / zvl B w), fun n => [(2, n, v, w)]))) else bif znz B w then some zTi else none
theorem zdiv_ok : zII (fun x y => x / y) zdiv := by
  intro τ ty ρ B v w x y r hB hv hw kv kw ex ey hg
  unfold zdiv at hg
  cases hz : zle 0 (zvl B v) && zle 1 (zvl B w)
  · rw [hz] at hg
    cases hn : znz B w
    · rw [hn] at hg; cases hg
    · rw [hn] at hg; cases hg; exact zTi_ok
  · rw [hz] at hg
    rw [Bool.and_eq_true] at hz
    have h1 := zle_iff.mp hz.1
    have h2 := zle_iff.mp hz.2
    have a1 := zvl_ok hB hv
    have a2 := zvh_ok hB hv
    have a3 := zvl_ok hB hw
    have e1 := zi_div (x := x) (y := y) (by omega) (by omega)
    show zr_ok τ ty ρ B 0 (x / y).toInt _
    rw [e1, ex, ey]
    simp only [cond_true] at hg
    split at hg
    · rename_i q hq
      cases hg
      obtain ⟨d1, _, _, d4⟩ := hB.2.2 _ (zfd_in hq)
      refine ⟨rfl, zl_wf_c.mpr ⟨d1, rfl⟩, ?_⟩
      have d5 : ρ q = zv_ev ρ v / zv_ev ρ w := d4 (by show 0 ≤ zv_ev ρ v; omega) (by show 0 < zv_ev ρ w; omega)
      rw [← d5]
      show (0 : Int) + (1 * ρ q + 0) = ρ q
      omega
    cases hg
    refine ⟨rfl, Int.ediv_nonneg (by omega) (by omega), ?_, ?_⟩
    · show zv_ev ρ v / zv_ev ρ w ≤ zvh B v / zvl B w
      apply (Int.le_ediv_iff_mul_le (by omega)).mpr
      have q1 : 0 ≤ zv_ev ρ v / zv_ev ρ w := Int.ediv_nonneg (by omega) (by omega)
      have q2 : zv_ev ρ v / zv_ev ρ w * zvl B w ≤ zv_ev ρ v / zv_ev ρ w * zv_ev ρ w := Int.mul_le_mul_of_nonneg_left a3 q1
      have q3 : zv_ev ρ v / zv_ev ρ w * zv_ev ρ w ≤ zv_ev ρ v := Int.ediv_mul_le _ (by omega)
      omega
    · intro d hd
      rcases List.mem_singleton.mp hd with rfl
      refine ⟨Nat.lt_succ_self _, zl_wf_le (Nat.le_succ _) hv, zl_wf_le (Nat.le_succ _) hw, ?_⟩
      intro _ _
      show zup ρ B.1.length (zv_ev ρ v / zv_ev ρ w) B.1.length = zv_ev (zup ρ B.1.length (zv_ev ρ v / zv_ev ρ w)) v / zv_ev (zup ρ B.1.length (zv_ev ρ v / zv_ev ρ w)) w
      rw [zup_s, zv_ag zup_ag hv, zv_ag zup_ag hw]
theorem zi_rem {x y : Int32} (hy : 1 ≤ y.toInt) : (x - x / y * y).toInt = x.toInt.tmod y.toInt := by
  have r1 := zi_rg x
  have r2 := zi_rg y
  have hq : (x / y).toInt = x.toInt.tdiv y.toInt := by
    rw [Int32.toInt_div]
    have h1 : (x.toInt.tdiv y.toInt).natAbs ≤ x.toInt.natAbs := by
      rw [Int.natAbs_tdiv]
      exact Nat.div_le_self _ _
    apply zi_bm
    · rcases zlg y.toInt 2 with g | g
      · have : y.toInt = 1 := by omega
        rw [this, Int.tdiv_one]; omega
      · omega
    · rcases zlg y.toInt 2 with g | g
      · have : y.toInt = 1 := by omega
        rw [this, Int.tdiv_one]; omega
      · have h4 : (x.toInt.tdiv y.toInt).natAbs ≤ x.toInt.natAbs / 2 := by
          rw [Int.natAbs_tdiv]
          exact Nat.div_le_div_left (by omega) (by decide)
        omega
  have hm := Int.tmod_add_mul_tdiv x.toInt y.toInt
  have hl : (x.toInt.tmod y.toInt).natAbs < y.toInt.natAbs := by
    rw [Int.natAbs_tmod]
    exact Nat.mod_lt _ (by omega)
  have hp : (x / y * y).toInt = (x.toInt - x.toInt.tmod y.toInt).bmod (2 ^ 32) := by
    rw [Int32.toInt_mul, hq]
    congr 1
    rw [Int.mul_comm]; omega
  rw [Int32.toInt_sub, hp, Int.sub_bmod_bmod]
  rw [show x.toInt - (x.toInt - x.toInt.tmod y.toInt) = x.toInt.tmod y.toInt by omega]
  exact zi_bm (by omega) (by omega)
def zrem : zo2 := fun B v w => bif zle 1 (zvl B w) then (bif zle 0 (zvl B v) then some (.inr ((0, 0, (bif zle (zvh B v) (zvh B w - 1) then zvh B v else zvh B w - 1)), fun n => [(3, n, v, w)])) else some (zbt 0 (1 - zvh B w) (zvh B w - 1))) else bif znz B w then some zTi else none
theorem zrem_ok : zII (fun x y => x - x / y * y) zrem := by
  intro τ ty ρ B v w x y r hB hv hw kv kw ex ey hg
  unfold zrem at hg
  have a1 := zvl_ok hB hv
  have a2 := zvh_ok hB hv
  have a3 := zvl_ok hB hw
  have a4 := zvh_ok hB hw
  cases hz : zle 1 (zvl B w)
  · rw [hz] at hg
    cases hn : znz B w
    · rw [hn] at hg; cases hg
    · rw [hn] at hg; cases hg; exact zTi_ok
  · rw [hz] at hg
    have h1 := zle_iff.mp hz
    have e1 := zi_rem (x := x) (y := y) (by omega)
    have hl : (x.toInt.tmod y.toInt).natAbs < y.toInt.natAbs := by
      rw [Int.natAbs_tmod]
      exact Nat.mod_lt _ (by omega)
    cases hz2 : zle 0 (zvl B v)
    · rw [hz2] at hg
      cases hg
      show zr_ok τ ty ρ B 0 (x - x / y * y).toInt _
      rw [e1]
      exact zbt_ok (by omega) (by omega)
    · rw [hz2] at hg
      cases hg
      have h2 := zle_iff.mp hz2
      show zr_ok τ ty ρ B 0 (x - x / y * y).toInt _
      rw [e1]
      have h3 : 0 ≤ x.toInt.tmod y.toInt := Int.tmod_nonneg _ (by omega)
      have h4 : x.toInt.tmod y.toInt ≤ x.toInt := by
        rw [Int.tmod_eq_emod_of_nonneg (by omega)]
        have q1 := Int.mul_ediv_add_emod x.toInt y.toInt
        have q2 : 0 ≤ y.toInt * (x.toInt / y.toInt) := Int.mul_nonneg (by omega) (Int.ediv_nonneg (by omega) (by omega))
        omega
      refine ⟨rfl, h3, ?_, ?_⟩
      · show _ ≤ (bif zle (zvh B v) (zvh B w - 1) then zvh B v else zvh B w - 1)
        cases zle (zvh B v) (zvh B w - 1)
        · show _ ≤ zvh B w - 1
          omega
        · show _ ≤ zvh B v
          omega
      · intro d hd
        rcases List.mem_singleton.mp hd with rfl
        refine ⟨Nat.lt_succ_self _, zl_wf_le (Nat.le_succ _) hv, zl_wf_le (Nat.le_succ _) hw, ?_⟩
        intro _ _
        show zup ρ B.1.length (x.toInt.tmod y.toInt) B.1.length < zv_ev (zup ρ B.1.length (x.toInt.tmod y.toInt)) w
        rw [zup_s, zv_ag zup_ag hw, ← ey]
        omega
/-! longs -/
def zJJ (h : Int64 → Int64 → Int64) (g : zo2) : Prop := ∀ (τ : Nat → Nat) (ty : Nat → Option zt) (ρ : Nat → Int) (B : zB) (v w : zv) (x y : Int64) (r : zr), zB_ok τ ty ρ B → zl_wf B.1.length v.2.2 = true → zl_wf B.1.length w.2.2 = true → v.1 = 1 → w.1 = 1 → x.toInt = zv_ev ρ v → y.toInt = zv_ev ρ w → g B v w = some r → zr_ok τ ty ρ B 1 (h x y).toInt r
def zjadd : zo2 := fun B v w => some (zjn B (zv_cm 1 v w))
theorem zjadd_ok : zJJ (fun x y => x + y) zjadd := by
  intro τ ty ρ B v w x y r hB hv hw kv kw ex ey hg
  cases hg
  refine zjn_ok hB (v := zv_cm 1 v w) kv (zl_cm_wf hv hw) ?_
  rw [Int64.toInt_add, zv_cm_ev, ex, ey, Int.one_mul]
def zjsub : zo2 := fun B v w => some (zjn B (zv_cm (-1) v w))
theorem zjsub_ok : zJJ (fun x y => x - y) zjsub := by
  intro τ ty ρ B v w x y r hB hv hw kv kw ex ey hg
  cases hg
  refine zjn_ok hB (v := zv_cm (-1) v w) kv (zl_cm_wf hv hw) ?_
  rw [Int64.toInt_sub, zv_cm_ev, ex, ey]
  congr 1; omega
def zjmul : zo2 := fun B v w => match v.2.2 with
  | [] => some (zjn B (1, v.2.1 * w.2.1, zl_cm v.2.1 [] w.2.2))
  | _ :: _ => match w.2.2 with
  | [] => some (zjn B (1, w.2.1 * v.2.1, zl_cm w.2.1 [] v.2.2))
  | _ :: _ => some zTj
theorem zjmul_ok : zJJ (fun x y => x * y) zjmul := by
  intro τ ty ρ B v w x y r hB hv hw kv kw ex ey hg
  unfold zjmul at hg
  split at hg
  · rename_i h0
    cases hg
    refine zjn_ok hB rfl (zl_cm_wf rfl hw) ?_
    have e1 : zv_ev ρ v = v.2.1 := by unfold zv_ev; rw [h0]; show v.2.1 + 0 = _; omega
    rw [Int64.toInt_mul, ex, ey, e1]
    congr 1
    show v.2.1 * zv_ev ρ w = v.2.1 * w.2.1 + zl_ev ρ (zl_cm v.2.1 [] w.2.2)
    rw [zl_cm_ev]
    unfold zv_ev
    rw [Int.mul_add]
    show _ = v.2.1 * w.2.1 + (0 + _)
    omega
  split at hg
  · rename_i h0
    cases hg
    refine zjn_ok hB rfl (zl_cm_wf rfl hv) ?_
    have e1 : zv_ev ρ w = w.2.1 := by unfold zv_ev; rw [h0]; show w.2.1 + 0 = _; omega
    rw [Int64.toInt_mul, ex, ey, e1, Int.mul_comm]
    congr 1
    show w.2.1 * zv_ev ρ v = w.2.1 * v.2.1 + zl_ev ρ (zl_cm w.2.1 [] v.2.2)
    rw [zl_cm_ev]
    unfold zv_ev
    rw [Int.mul_add]
    show _ = w.2.1 * v.2.1 + (0 + _)
    omega
  · cases hg
    exact zTj_ok
def zjany : zo2 := fun _ _ _ => some zTj
theorem zjany_ok (f : Int64 → Int64 → Int64) : zJJ f zjany := by
  intro τ ty ρ B v w x y r hB hv hw kv kw ex ey hg
  cases hg
  exact zTj_ok
theorem zj_div {x y : Int64} (hx : 0 ≤ x.toInt) (hy : 1 ≤ y.toInt) : (x / y).toInt = x.toInt / y.toInt := by
  rw [Int64.toInt_div, Int.tdiv_eq_ediv_of_nonneg hx]
  have h1 := Int.ediv_nonneg hx (show 0 ≤ y.toInt by omega)
  have h2 : x.toInt / y.toInt ≤ x.toInt := Int.ediv_le_self _ hx
  have h3 := zj_rg x
  exact zj_bm (by omega) (by omega)
def zjdiv : zo2 := fun B v w => bif zle 0 (zvl B v) && zle 1 (zvl B w) then some (zbt 1 0 (zvh B v / zvl B w)) else bif znz B w then some zTj else none
theorem zjdiv_ok : zJJ (fun x y => x / y) zjdiv := by
  intro τ ty ρ B v w x y r hB hv hw kv kw ex ey hg
  unfold zjdiv at hg
  cases hz : zle 0 (zvl B v) && zle 1 (zvl B w)
  · rw [hz] at hg
    cases hn : znz B w
    · rw [hn] at hg; cases hg
    · rw [hn] at hg; cases hg; exact zTj_ok
  · rw [hz] at hg
    cases hg
    rw [Bool.and_eq_true] at hz
    have h1 := zle_iff.mp hz.1
    have h2 := zle_iff.mp hz.2
    have a1 := zvl_ok hB hv
    have a2 := zvh_ok hB hv
    have a3 := zvl_ok hB hw
    have e1 := zj_div (x := x) (y := y) (by omega) (by omega)
    show zr_ok τ ty ρ B 1 (x / y).toInt _
    rw [e1, ex, ey]
    refine zbt_ok (Int.ediv_nonneg (by omega) (by omega)) ?_
    apply (Int.le_ediv_iff_mul_le (by omega)).mpr
    have q1 : 0 ≤ zv_ev ρ v / zv_ev ρ w := Int.ediv_nonneg (by omega) (by omega)
    have q2 : zv_ev ρ v / zv_ev ρ w * zvl B w ≤ zv_ev ρ v / zv_ev ρ w * zv_ev ρ w := Int.mul_le_mul_of_nonneg_left a3 q1
    have q3 : zv_ev ρ v / zv_ev ρ w * zv_ev ρ w ≤ zv_ev ρ v := Int.ediv_mul_le _ (by omega)
    omega
def zjnz : zo2 := fun B _ w => bif znz B w then some zTj else none
theorem zjnz_ok (f : Int64 → Int64 → Int64) : zJJ f zjnz := by
  intro τ ty ρ B v w x y r hB hv hw kv kw ex ey hg
  unfold zjnz at hg
  cases hn : znz B w
  · rw [hn] at hg; cases hg
  · rw [hn] at hg; cases hg; exact zTj_ok
end ZAR2
