/-! ===== operations on the stack ===== -/
section ZOP2
variable {τ : Nat → Nat} {ty : Nat → Option zt} {ms : zm}
/-- two ints (kind k both), one answer of kind k' -/
def zo22 (k k2 : Nat) (g : zo2) : Nat → zA → zO := fun pc A => match A.2.2.1 with
  | w :: v :: r => bif Nat.beq v.1 k && Nat.beq w.1 k2 then (match g A.1 v w with
    | some q => some [(pc + 1, zpu A r q)]
    | none => none) else none
  | _ => none
theorem zo22_in {k k2 pc : Nat} {g : zo2} {A : zA} {outs : List (Nat × zA)} (hg : zo22 k k2 g pc A = some outs) : ∃ w v r q, A.2.2.1 = w :: v :: r ∧ v.1 = k ∧ w.1 = k2 ∧ g A.1 v w = some q ∧ outs = [(pc + 1, zpu A r q)] := by
  unfold zo22 at hg
  split at hg
  · rename_i w v r hst
    cases hb : Nat.beq v.1 k && Nat.beq w.1 k2
    · rw [hb] at hg; cases hg
    · rw [hb] at hg
      simp only [cond_true] at hg
      split at hg
      · rename_i q hq
        cases hg
        rw [Bool.and_eq_true] at hb
        exact ⟨w, v, r, q, hst, Nat.eq_of_beq_eq_true hb.1, Nat.eq_of_beq_eq_true hb.2, hq, rfl⟩
      · cases hg
  · cases hg
theorem zoII_ok {f : Int32 → Int32 → Int32} {g : zo2} (h : zII f g) : zS τ ty ms (iv_oII f) (zo22 0 0 g) := by
  intro ρ A clv cst σ L xs pc outs hg hA hI
  obtain ⟨w, v, r, q, hst, kv, kw, hq, rfl⟩ := zo22_in hg
  have h1 := hA.2.2.1
  rw [hst] at h1
  obtain ⟨x2, c2, rfl, a1, h2⟩ := zst_c h1
  obtain ⟨x1, c1, rfl, b1, h3⟩ := zst_c h2
  obtain ⟨y, rfl, ey⟩ := zdn0 a1.2 kw
  obtain ⟨x, rfl, ex⟩ := zdn0 b1.2 kv
  have hr := h τ ty ρ A.1 v w x y q hA.1 b1.1 a1.1 kv kw ex ey hq
  obtain ⟨ρ', e1, e2, e3⟩ := zpu_ok hA h3 hr (by decide) (x := .int (f x y)) ⟨_, rfl, rfl⟩
  exact zQ_one rfl e1 hI e2 e3
theorem zoJJ_ok {f : Int64 → Int64 → Int64} {g : zo2} (h : zJJ f g) : zS τ ty ms (iv_oJJ f) (zo22 1 1 g) := by
  intro ρ A clv cst σ L xs pc outs hg hA hI
  obtain ⟨w, v, r, q, hst, kv, kw, hq, rfl⟩ := zo22_in hg
  have h1 := hA.2.2.1
  rw [hst] at h1
  obtain ⟨x2, c2, rfl, a1, h2⟩ := zst_c h1
  obtain ⟨x1, c1, rfl, b1, h3⟩ := zst_c h2
  obtain ⟨y, rfl, ey⟩ := zdn1 a1.2 kw
  obtain ⟨x, rfl, ex⟩ := zdn1 b1.2 kv
  have hr := h τ ty ρ A.1 v w x y q hA.1 b1.1 a1.1 kv kw ex ey hq
  obtain ⟨ρ', e1, e2, e3⟩ := zpu_ok hA h3 hr (by decide) (x := .long (f x y)) ⟨_, rfl, rfl⟩
  exact zQ_one rfl e1 hI e2 e3
theorem zoJI_ok {f : Int64 → Int32 → Int64} : zS τ ty ms (iv_oJI f) (zo22 1 0 zjany) := by
  intro ρ A clv cst σ L xs pc outs hg hA hI
  obtain ⟨w, v, r, q, hst, kv, kw, hq, rfl⟩ := zo22_in hg
  have h1 := hA.2.2.1
  rw [hst] at h1
  obtain ⟨x2, c2, rfl, a1, h2⟩ := zst_c h1
  obtain ⟨x1, c1, rfl, b1, h3⟩ := zst_c h2
  obtain ⟨y, rfl, ey⟩ := zdn0 a1.2 kw
  obtain ⟨x, rfl, ex⟩ := zdn1 b1.2 kv
  cases hq
  obtain ⟨ρ', e1, e2, e3⟩ := zpu_ok hA h3 (zTj_ok (y := f x y)) (by decide) (x := .long (f x y)) ⟨_, rfl, rfl⟩
  exact zQ_one rfl e1 hI e2 e3
/-- division: the second not 0 -/
theorem zoDI_ok {f : Int32 → Int32 → Int32} {g : zo2} (h : zII f g) (h0 : ∀ (B : zB) (v w : zv) (q : zr), g B v w = some q → znz B w = true ∨ zle 1 (zvl B w) = true) : zS τ ty ms (iv_oDI f) (zo22 0 0 g) := by
  intro ρ A clv cst σ L xs pc outs hg hA hI
  obtain ⟨w, v, r, q, hst, kv, kw, hq, rfl⟩ := zo22_in hg
  have h1 := hA.2.2.1
  rw [hst] at h1
  obtain ⟨x2, c2, rfl, a1, h2⟩ := zst_c h1
  obtain ⟨x1, c1, rfl, b1, h3⟩ := zst_c h2
  obtain ⟨y, rfl, ey⟩ := zdn0 a1.2 kw
  obtain ⟨x, rfl, ex⟩ := zdn0 b1.2 kv
  have hr := h τ ty ρ A.1 v w x y q hA.1 b1.1 a1.1 kv kw ex ey hq
  obtain ⟨ρ', e1, e2, e3⟩ := zpu_ok hA h3 hr (by decide) (x := .int (f x y)) ⟨_, rfl, rfl⟩
  have hy : ¬ y = 0 := by
    intro e
    have e0 : zv_ev ρ w = 0 := by rw [← ey, e]; rfl
    rcases h0 A.1 v w q hq with g1 | g1
    · exact znz_ok hA.1 a1.1 g1 e0
    · have g2 := zle_iff.mp g1
      have g3 := zvl_ok hA.1 a1.1
      omega
  refine zQ_one ?_ e1 hI e2 e3
  show (bif decide (y = 0) then none else some (pc + 1, clv, Value.int (f x y) :: c1, σ)) = _
  rw [decide_eq_false hy]
  rfl
theorem zoDJ_ok {f : Int64 → Int64 → Int64} {g : zo2} (h : zJJ f g) (h0 : ∀ (B : zB) (v w : zv) (q : zr), g B v w = some q → znz B w = true ∨ zle 1 (zvl B w) = true) : zS τ ty ms (iv_oDJ f) (zo22 1 1 g) := by
  intro ρ A clv cst σ L xs pc outs hg hA hI
  obtain ⟨w, v, r, q, hst, kv, kw, hq, rfl⟩ := zo22_in hg
  have h1 := hA.2.2.1
  rw [hst] at h1
  obtain ⟨x2, c2, rfl, a1, h2⟩ := zst_c h1
  obtain ⟨x1, c1, rfl, b1, h3⟩ := zst_c h2
  obtain ⟨y, rfl, ey⟩ := zdn1 a1.2 kw
  obtain ⟨x, rfl, ex⟩ := zdn1 b1.2 kv
  have hr := h τ ty ρ A.1 v w x y q hA.1 b1.1 a1.1 kv kw ex ey hq
  obtain ⟨ρ', e1, e2, e3⟩ := zpu_ok hA h3 hr (by decide) (x := .long (f x y)) ⟨_, rfl, rfl⟩
  have hy : ¬ y = 0 := by
    intro e
    have e0 : zv_ev ρ w = 0 := by rw [← ey, e]; rfl
    rcases h0 A.1 v w q hq with g1 | g1
    · exact znz_ok hA.1 a1.1 g1 e0
    · have g2 := zle_iff.mp g1
      have g3 := zvl_ok hA.1 a1.1
      omega
  refine zQ_one ?_ e1 hI e2 e3
  show (bif decide (y = 0) then none else some (pc + 1, clv, Value.long (f x y) :: c1, σ)) = _
  rw [decide_eq_false hy]
  rfl
theorem zdiv_nz (B : zB) (v w : zv) (q : zr) (h : zdiv B v w = some q) : znz B w = true ∨ zle 1 (zvl B w) = true := by
  unfold zdiv at h
  cases hz : zle 0 (zvl B v) && zle 1 (zvl B w)
  · rw [hz] at h
    cases hn : znz B w
    · rw [hn] at h; cases h
    · exact .inl rfl
  · rw [Bool.and_eq_true] at hz
    exact .inr hz.2
theorem zrem_nz (B : zB) (v w : zv) (q : zr) (h : zrem B v w = some q) : znz B w = true ∨ zle 1 (zvl B w) = true := by
  unfold zrem at h
  cases hz : zle 1 (zvl B w)
  · rw [hz] at h
    cases hn : znz B w
    · rw [hn] at h; cases h
    · exact .inl rfl
  · exact .inr rfl
theorem zjdiv_nz (B : zB) (v w : zv) (q : zr) (h : zjdiv B v w = some q) : znz B w = true ∨ zle 1 (zvl B w) = true := by
  unfold zjdiv at h
  cases hz : zle 0 (zvl B v) && zle 1 (zvl B w)
  · rw [hz] at h
    cases hn : znz B w
    · rw [hn] at h; cases h
    · exact .inl rfl
  · rw [Bool.and_eq_true] at hz
    exact .inr hz.2
theorem zjnz_nz (B : zB) (v w : zv) (q : zr) (h : zjnz B v w = some q) : znz B w = true ∨ zle 1 (zvl B w) = true := by
  unfold zjnz at h
  cases hn : znz B w
  · rw [hn] at h; cases h
  · exact .inl rfl
/-- which of two longs is the greater -/
def zcmp : zo2 := fun _ v w => some (.inr ((0, -1, 1), fun n => [(0, n, v, w)]))
theorem zlcmp {x y : Int64} : (x.toInt < y.toInt → (lg_cmp x y).toInt = -1) ∧ (x.toInt = y.toInt → (lg_cmp x y).toInt = 0) ∧ (y.toInt < x.toInt → (lg_cmp x y).toInt = 1) := by
  unfold lg_cmp
  refine ⟨fun h => ?_, fun h => ?_, fun h => ?_⟩
  · have h1 : ¬ x > y := fun g => by have := Int64.lt_iff_toInt_lt.mp g; omega
    have h3 : ¬ x = y := fun g => by rw [g] at h; omega
    rw [if_neg h1, if_neg h3]
    rfl
  · have h1 : ¬ x > y := fun g => by have := Int64.lt_iff_toInt_lt.mp g; omega
    have h3 : x = y := Int64.toInt_inj.mp h
    rw [if_neg h1, if_pos h3]
    rfl
  · have h2 : x > y := Int64.lt_iff_toInt_lt.mpr h
    rw [if_pos h2]
    rfl
theorem zoCmp_ok : zS τ ty ms iv_oCmp (zo22 1 1 zcmp) := by
  intro ρ A clv cst σ L xs pc outs hg hA hI
  obtain ⟨w, v, r, q, hst, kv, kw, hq, rfl⟩ := zo22_in hg
  have h1 := hA.2.2.1
  rw [hst] at h1
  obtain ⟨x2, c2, rfl, a1, h2⟩ := zst_c h1
  obtain ⟨x1, c1, rfl, b1, h3⟩ := zst_c h2
  obtain ⟨y, rfl, ey⟩ := zdn1 a1.2 kw
  obtain ⟨x, rfl, ex⟩ := zdn1 b1.2 kv
  cases hq
  obtain ⟨m1, m2, m3⟩ := zlcmp (x := x) (y := y)
  have hr : zr_ok τ ty ρ A.1 0 (lg_cmp x y).toInt (.inr ((0, -1, 1), fun n => [(0, n, v, w)])) := by
    refine ⟨rfl, ?_, ?_, ?_⟩
    · rcases Int.lt_trichotomy x.toInt y.toInt with g | g | g
      · rw [m1 g]; decide
      · rw [m2 g]; decide
      · rw [m3 g]; decide
    · rcases Int.lt_trichotomy x.toInt y.toInt with g | g | g
      · rw [m1 g]; decide
      · rw [m2 g]; decide
      · rw [m3 g]; decide
    · intro d hd
      rcases List.mem_singleton.mp hd with rfl
      refine ⟨Nat.lt_succ_self _, zl_wf_le (Nat.le_succ _) b1.1, zl_wf_le (Nat.le_succ _) a1.1, ?_⟩
      show (zv_ev (zup ρ A.1.1.length (lg_cmp x y).toInt) v < zv_ev (zup ρ A.1.1.length (lg_cmp x y).toInt) w → zup ρ A.1.1.length (lg_cmp x y).toInt A.1.1.length = -1) ∧ _
      rw [zup_s, zv_ag zup_ag b1.1, zv_ag zup_ag a1.1, ← ex, ← ey]
      exact ⟨m1, m2, m3⟩
  obtain ⟨ρ', e1, e2, e3⟩ := zpu_ok hA h3 hr (by decide) (x := .int (lg_cmp x y)) ⟨_, rfl, rfl⟩
  exact zQ_one rfl e1 hI e2 e3
/-- one value (kind k), one answer -/
def zo11 (k : Nat) (g : zB → zv → zr) : Nat → zA → zO := fun pc A => match A.2.2.1 with
  | v :: r => bif Nat.beq v.1 k then some [(pc + 1, zpu A r (g A.1 v))] else none
  | _ => none
theorem zo11_in {k pc : Nat} {g : zB → zv → zr} {A : zA} {outs : List (Nat × zA)} (hg : zo11 k g pc A = some outs) : ∃ v r, A.2.2.1 = v :: r ∧ v.1 = k ∧ outs = [(pc + 1, zpu A r (g A.1 v))] := by
  unfold zo11 at hg
  split at hg
  · rename_i v r hst
    cases hb : Nat.beq v.1 k
    · rw [hb] at hg; cases hg
    · rw [hb] at hg
      cases hg
      exact ⟨v, r, hst, Nat.eq_of_beq_eq_true hb, rfl⟩
  · cases hg
def zi2l (_ : zB) (v : zv) : zr := .inl (1, v.2)
theorem zoI2L_ok : zS τ ty ms (iv_oUI fun x => .long x.toInt64) (zo11 0 zi2l) := by
  intro ρ A clv cst σ L xs pc outs hg hA hI
  obtain ⟨v, r, hst, kv, rfl⟩ := zo11_in hg
  have h1 := hA.2.2.1
  rw [hst] at h1
  obtain ⟨x1, c1, rfl, b1, h3⟩ := zst_c h1
  obtain ⟨x, rfl, ex⟩ := zdn0 b1.2 kv
  have hr : zr_ok τ ty ρ A.1 1 x.toInt64.toInt (zi2l A.1 v) := ⟨rfl, b1.1, by rw [Int32.toInt_toInt64, ex]; rfl⟩
  obtain ⟨ρ', e1, e2, e3⟩ := zpu_ok hA h3 hr (by decide) (x := .long x.toInt64) ⟨_, rfl, rfl⟩
  exact zQ_one rfl e1 hI e2 e3
def zl2i (B : zB) (v : zv) : zr := zin B (0, v.2)
theorem zoL2I_ok : zS τ ty ms iv_oL2I (zo11 1 zl2i) := by
  intro ρ A clv cst σ L xs pc outs hg hA hI
  obtain ⟨v, r, hst, kv, rfl⟩ := zo11_in hg
  have h1 := hA.2.2.1
  rw [hst] at h1
  obtain ⟨x1, c1, rfl, b1, h3⟩ := zst_c h1
  obtain ⟨x, rfl, ex⟩ := zdn1 b1.2 kv
  have hr : zr_ok τ ty ρ A.1 0 x.toInt32.toInt (zl2i A.1 v) := zin_ok hA.1 (v := (0, v.2)) rfl b1.1 (by rw [Int64.toInt_toInt32, ex]; rfl)
  obtain ⟨ρ', e1, e2, e3⟩ := zpu_ok hA h3 hr (by decide) (x := .int x.toInt32) ⟨_, rfl, rfl⟩
  exact zQ_one rfl e1 hI e2 e3
def zneg (B : zB) (v : zv) : zr := zin B (0, -v.2.1, zl_ng v.2.2)
theorem zoNeg_ok : zS τ ty ms (iv_oUI fun x => .int (-x)) (zo11 0 zneg) := by
  intro ρ A clv cst σ L xs pc outs hg hA hI
  obtain ⟨v, r, hst, kv, rfl⟩ := zo11_in hg
  have h1 := hA.2.2.1
  rw [hst] at h1
  obtain ⟨x1, c1, rfl, b1, h3⟩ := zst_c h1
  obtain ⟨x, rfl, ex⟩ := zdn0 b1.2 kv
  have hr : zr_ok τ ty ρ A.1 0 (-x).toInt (zneg A.1 v) := zin_ok hA.1 (v := (0, -v.2.1, zl_ng v.2.2)) rfl (zl_ng_wf b1.1) (by
    rw [Int32.toInt_neg, ex]
    congr 1
    show _ = -v.2.1 + zl_ev ρ (zl_ng v.2.2)
    rw [zl_ng_ev]
    unfold zv_ev
    omega)
  obtain ⟨ρ', e1, e2, e3⟩ := zpu_ok hA h3 hr (by decide) (x := .int (-x)) ⟨_, rfl, rfl⟩
  exact zQ_one rfl e1 hI e2 e3
theorem zi_c {x : Int32} : 0 ≤ ((x.toUInt32 % 65536).toInt32).toInt ∧ ((x.toUInt32 % 65536).toInt32).toInt ≤ 65535 := by
  have h1 : (x.toUInt32 % 65536).toNat < 65536 := by
    rw [UInt32.toNat_mod]
    exact Nat.mod_lt _ (by decide)
  have h2 : ((x.toUInt32 % 65536).toInt32).toInt = ((x.toUInt32 % 65536).toNat : Int) := zi_of (b := (x.toUInt32 % 65536).toBitVec) (by show (x.toUInt32 % 65536).toNat < _; omega)
  omega
theorem zi_c_id {x : Int32} (h1 : 0 ≤ x.toInt) (h2 : x.toInt ≤ 65535) : ((x.toUInt32 % 65536).toInt32).toInt = x.toInt := by
  have h3 := zi_nn h1
  have h4 : (x.toUInt32 % 65536).toNat = x.toBitVec.toNat := by
    rw [UInt32.toNat_mod]
    show x.toBitVec.toNat % 65536 = _
    exact Nat.mod_eq_of_lt (by omega)
  have h5 : ((x.toUInt32 % 65536).toInt32).toInt = ((x.toUInt32 % 65536).toNat : Int) := zi_of (b := (x.toUInt32 % 65536).toBitVec) (by show (x.toUInt32 % 65536).toNat < _; omega)
  omega
def zi2c (B : zB) (v : zv) : zr := bif zle 0 (zvl B v) && zle (zvh B v) 65535 then .inl v else zbt 0 0 65535
theorem zoI2C_ok : zS τ ty ms (iv_oUI fun x => .int (x.toUInt32 % 65536).toInt32) (zo11 0 zi2c) := by
  intro ρ A clv cst σ L xs pc outs hg hA hI
  obtain ⟨v, r, hst, kv, rfl⟩ := zo11_in hg
  have h1 := hA.2.2.1
  rw [hst] at h1
  obtain ⟨x1, c1, rfl, b1, h3⟩ := zst_c h1
  obtain ⟨x, rfl, ex⟩ := zdn0 b1.2 kv
  have hr : zr_ok τ ty ρ A.1 0 ((x.toUInt32 % 65536).toInt32).toInt (zi2c A.1 v) := by
    unfold zi2c
    cases hz : zle 0 (zvl A.1 v) && zle (zvh A.1 v) 65535
    · exact zbt_ok zi_c.1 zi_c.2
    · rw [Bool.and_eq_true] at hz
      have g1 := zle_iff.mp hz.1
      have g2 := zle_iff.mp hz.2
      have g3 := zvl_ok hA.1 b1.1
      have g4 := zvh_ok hA.1 b1.1
      exact ⟨kv, b1.1, by rw [zi_c_id (by omega) (by omega), ex]⟩
  obtain ⟨ρ', e1, e2, e3⟩ := zpu_ok hA h3 hr (by decide) (x := .int (x.toUInt32 % 65536).toInt32) ⟨_, rfl, rfl⟩
  exact zQ_one rfl e1 hI e2 e3
/-! a local counted on -/
def zoInc (i : Nat) (n : Int) : Nat → zA → zO := fun pc A => match iv_f1 A.2.1 i with
  | some v => bif Nat.beq v.1 0 then (match zin A.1 (0, v.2.1 + (Int32.ofInt n).toInt, v.2.2) with
    | .inl w => some [(pc + 3, (A.1, (i, w) :: zdl i i A.2.1, A.2.2))]
    | .inr q => some [(pc + 3, (fun m => ((A.1.1 ++ [q.1], A.1.2), (i, (0, 0, [(m, 1)])) :: zdl i i A.2.1, A.2.2)) A.1.1.length)]) else none
  | none => none
theorem zoInc_ok (i : Nat) (n : Int) : zS τ ty ms (iv_oInc i n) (zoInc i n) := by
  intro ρ A clv cst σ L xs pc outs hg hA hI
  unfold zoInc at hg
  split at hg
  · rename_i v hv
    cases hb : Nat.beq v.1 0
    · rw [hb] at hg; cases hg
    · rw [hb] at hg
      simp only [cond_true] at hg
      obtain ⟨x0, hx, hk⟩ := zlv_at hA.2.1 hv
      obtain ⟨x, rfl, ex⟩ := zdn0 hk.2 (Nat.eq_of_beq_eq_true hb)
      have hr : zr_ok τ ty ρ A.1 0 (x + Int32.ofInt n).toInt (zin A.1 (0, v.2.1 + (Int32.ofInt n).toInt, v.2.2)) := zin_ok hA.1 (v := (0, v.2.1 + (Int32.ofInt n).toInt, v.2.2)) rfl hk.1 (by
        rw [Int32.toInt_add, ex]
        congr 1
        show _ = v.2.1 + (Int32.ofInt n).toInt + zl_ev ρ v.2.2
        unfold zv_ev
        omega)
      have hf : iv_oInc i n L xs pc clv cst σ = some (pc + 3, (i, .int (x + Int32.ofInt n)) :: iv_d1 i clv, cst, σ) := by
        unfold iv_oInc
        rw [hx]
      split at hg
      · rename_i w hw
        cases hg
        rw [hw] at hr
        obtain ⟨r1, r2, r3⟩ := hr
        exact zQ_one hf ⟨hA.1, zlv_st1 hA.2.1 ⟨r2, zdn_of (k := 0) (x := .int (x + Int32.ofInt n)) ⟨_, rfl, rfl⟩ r1 r3⟩, hA.2.2⟩ hI zag_rf (Nat.le_refl _)
      · rename_i q hw
        cases hg
        rw [hw] at hr
        obtain ⟨c, ds⟩ := q
        obtain ⟨r1, r2, r3, r4⟩ := hr
        have h5 := zfr_ok (A := A) hA (c := c) (x := (x + Int32.ofInt n).toInt) (ds := []) ⟨r2, r3, fun h9 => by have : c.1 = 0 := r1; omega⟩ (fun d hd => by cases hd)
        have hl : (zfr A c []).1.1.length = A.1.1.length + 1 := by simp [zfr]
        refine zQ_one hf (ρ' := zup ρ A.1.1.length (x + Int32.ofInt n).toInt) ⟨h5.1, zlv_st1 (n := (zfr A c []).1.1.length) h5.2.1 ⟨?_, ?_⟩, h5.2.2⟩ hI zup_ag ?_
        · rw [hl]; exact zl_wf_c.mpr ⟨Nat.lt_succ_self _, rfl⟩
        · exact zdn_of (k := 0) (x := .int (x + Int32.ofInt n)) ⟨_, rfl, rfl⟩ rfl (by rw [zev1, zup_s])
        · show A.1.1.length ≤ (zfr A c []).1.1.length
          omega
  · cases hg
/-! the stack's own -/
def zoDup : Nat → zA → zO := fun pc A => match A.2.2.1 with
  | v :: r => bif Nat.beq v.1 1 then none else some [(pc + 1, (A.1, A.2.1, v :: v :: r, A.2.2.2))]
  | _ => none
theorem zcat1 {ρ : Nat → Int} {v : zv} {x : Value} (h : zdn ρ v x) (hk : Nat.beq v.1 1 = false) : Nat.beq x.category 1 = true := by
  unfold zdn at h
  split at h
  · obtain ⟨y, rfl, _⟩ := h; rfl
  · rename_i h1; rw [h1] at hk; cases hk
  · obtain ⟨y, rfl, _⟩ := h; rfl
theorem zoDup_ok : zS τ ty ms iv_oDup zoDup := by
  intro ρ A clv cst σ L xs pc outs hg hA hI
  unfold zoDup at hg
  split at hg
  · rename_i v r hst
    cases hb : Nat.beq v.1 1
    · rw [hb] at hg
      cases hg
      have h1 := hA.2.2.1
      rw [hst] at h1
      obtain ⟨x, c1, rfl, b1, h3⟩ := zst_c h1
      refine zQ_one ?_ (zA_st hA (st := v :: v :: r) (cst' := x :: x :: c1) ⟨b1, b1, h3⟩) hI zag_rf (Nat.le_refl _)
      show (bif Nat.beq x.category 1 then _ else none) = _
      rw [zcat1 b1.2 hb]
      rfl
    · rw [hb] at hg; cases hg
  · cases hg
def zoPop : Nat → zA → zO := fun pc A => match A.2.2.1 with
  | v :: r => bif Nat.beq v.1 1 then none else some [(pc + 1, (A.1, A.2.1, r, A.2.2.2))]
  | _ => none
theorem zoPop_ok : zS τ ty ms iv_oPop zoPop := by
  intro ρ A clv cst σ L xs pc outs hg hA hI
  unfold zoPop at hg
  split at hg
  · rename_i v r hst
    cases hb : Nat.beq v.1 1
    · rw [hb] at hg
      cases hg
      have h1 := hA.2.2.1
      rw [hst] at h1
      obtain ⟨x, c1, rfl, b1, h3⟩ := zst_c h1
      refine zQ_one ?_ (zA_st hA (st := r) (cst' := c1) h3) hI zag_rf (Nat.le_refl _)
      show (bif Nat.beq x.category 1 then _ else none) = _
      rw [zcat1 b1.2 hb]
      rfl
    · rw [hb] at hg; cases hg
  · cases hg
def zoDup2 : Nat → zA → zO := fun pc A => match A.2.2.1 with
  | v :: w :: r => bif Nat.beq v.1 1 || Nat.beq w.1 1 then none else some [(pc + 1, (A.1, A.2.1, v :: w :: v :: w :: r, A.2.2.2))]
  | _ => none
theorem zoDup2_ok : zS τ ty ms iv_oDup2 zoDup2 := by
  intro ρ A clv cst σ L xs pc outs hg hA hI
  unfold zoDup2 at hg
  split at hg
  · rename_i v w r hst
    cases hb : Nat.beq v.1 1 || Nat.beq w.1 1
    · rw [hb] at hg
      cases hg
      rw [Bool.or_eq_false_iff] at hb
      have h1 := hA.2.2.1
      rw [hst] at h1
      obtain ⟨x, c1, rfl, b1, h3⟩ := zst_c h1
      obtain ⟨y, c2, rfl, b2, h4⟩ := zst_c h3
      refine zQ_one ?_ (zA_st hA (st := v :: w :: v :: w :: r) (cst' := x :: y :: x :: y :: c2) ⟨b1, b2, b1, b2, h4⟩) hI zag_rf (Nat.le_refl _)
      show (bif (Nat.beq x.category 1 && Nat.beq y.category 1) then _ else none) = _
      rw [zcat1 b1.2 hb.1, zcat1 b2.2 hb.2]
      rfl
    · rw [hb] at hg; cases hg
  · cases hg
end ZOP2
