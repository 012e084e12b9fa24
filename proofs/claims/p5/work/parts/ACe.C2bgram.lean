theorem ykd_le9 {T : Nat → Nat} {n m p : Nat} : ykd T n m p ≤ 9 := Nat.le_trans ykd_le (by decide)
/-! the grammar of an order, over what the reference keeps -/
abbrev yE (α : Type) : Type := (Nat × Nat) ⊕ α
abbrev yS : Type := (Nat → Int32) × (Nat → Int64) × (Nat → Int32)
section YG
variable (T : Nat → Nat) (n m : Nat)
def yrv (p : Nat) : Int64 := yw T (ysk T n p) (yln T n p)
def ybd (p k : Nat) : Nat × Nat := (if ykd T n m p = 1 then 1 else k, yfm T n m p)
def yisW (p k : Nat) : Bool := decide (ykd T n m p = 2 ∧ yrv T n p = yWv k)
def yisN (p : Nat) : Bool := decide (ykd T n m p = 2 ∧ yNoW (yrv T n p) = true)
def yNum (a b p : Nat) : yE (Nat × Nat) := if ykd T n m p = 3 then (if a ≤ ynN T (ysk T n p) (yln T n p) ∧ ynN T (ysk T n p) (yln T n p) ≤ b then .inr (ynN T (ysk T n p) (yln T n p), yto T n m p) else .inl (ybd T n m p 2)) else .inl (ybd T n m p 1)
def yEnd (p : Nat) : yE Nat := if ykd T n m p = 4 ∧ T (ysk T n p) = 59 then .inr (yto T n m p) else .inl (ybd T n m p 1)
def yfi (f : Nat → Int64) (w : Int64) : Nat → Nat → Option Nat
  | 0, _ => none
  | j + 1, k => if f k = w then some k else yfi f w j (k + 1)
def yo (o : Option Nat) : Int32 := match o with
  | some k => Int32.ofNat k
  | none => Int32.ofInt (-1)
def yfs (rn : Nat → Int64) (base many p : Nat) : Option Nat := yfi (fun i => rn (base + i)) (yrv T n p) many 0
/-- too many? else on -/
def yFst (c most : Nat) (s : yS) (p : Nat) : yE (yS × Nat) := if c = most then .inl (ybd T n m p 4) else .inr (s, yto T n m p)
/-- a new name into a slot -/
def yNew (nb ng slot : Nat) (s : yS) (p : Nat) : yE (yS × Nat) := if yisN T n m p = true then (if yfs T n s.2.1 0 nb p = none ∧ yfs T n s.2.1 7 ng p = none then .inr ((s.1, vp_updL s.2.1 slot (yrv T n p), s.2.2), yto T n m p) else .inl (ybd T n m p 3)) else .inl (ybd T n m p 1)
/-- a number into a slot -/
def yPut (i a b : Nat) (s : yS) (p : Nat) : yE (yS × Nat) := match yNum T n m a b p with
  | .inl e => .inl e
  | .inr q => .inr ((upd s.1 i (Int32.ofNat q.1), s.2), q.2)
/-- which one is named -/
def yOne (base many : Nat) (s : yS) (p : Nat) : yE Nat := if yisN T n m p = true then (match yfs T n s.2.1 base many p with
  | some k => .inr k
  | none => .inl (ybd T n m p 3)) else .inl (ybd T n m p 1)
def yThen {α β : Type} (o : yE α) (f : α → yE β) : yE β := match o with
  | .inl e => .inl e
  | .inr q => f q
/-- a line of a brother, of a grater: the count's place, at most so many, the name's slot, two numbers -/
def yTwo (nb ng c0 most slot i1 a1 b1 i2 a2 b2 c : Nat) (s : yS) (p : Nat) : yE (yS × Nat) := yThen (yFst T n m c most s p) fun q => yThen (yNew T n m nb ng slot q.1 q.2) fun q => yThen (yPut T n m i1 a1 b1 q.1 q.2) fun q => yThen (yPut T n m i2 a2 b2 q.1 q.2) fun q => .inr ((upd q.1.1 c0 (Int32.ofNat (c + 1)), q.1.2), q.2)
def yHeld (rd : Nat → Int32) (g : Nat) : Nat → Nat → Bool
  | 0, _ => false
  | j + 1, k => if rd (19 + k) = Int32.ofNat g then true else yHeld rd g j (k + 1)
def yHol (nb ng : Nat) (s : yS) (p : Nat) : yE (yS × Nat) := yThen (yOne T n m 0 nb s (yto T n m p)) fun b => if s.1 (19 + b) = Int32.ofInt (-1) then (yThen (yOne T n m 7 ng s (yto T n m (yto T n m p))) fun g => if yHeld s.1 g nb 0 = true then .inl (ybd T n m (yto T n m (yto T n m p)) 3) else .inr ((upd s.1 (19 + b) (Int32.ofNat g), s.2), yto T n m (yto T n m (yto T n m p)))) else .inl (ybd T n m (yto T n m p) 3)
def yOnc (k hi : Nat) (s : yS) (p : Nat) : yE (yS × Nat) := if s.2.2 k = Int32.ofNat 0 then yPut T n m (2 + k) 0 hi (s.1, s.2.1, upd s.2.2 k (Int32.ofNat 1)) (yto T n m p) else .inl (ybd T n m p 3)
def yLin (nb ng : Nat) (s : yS) (p : Nat) : yE (yS × Nat) := if yisW T n m p 0 = true then yTwo T n m nb ng 0 7 nb (5 + nb) 1 240 (12 + nb) 0 5 nb s p else if yisW T n m p 1 = true then yTwo T n m nb ng 1 6 (7 + ng) (26 + ng) 1 9 (32 + ng) 1 60 ng s p else if yisW T n m p 2 = true then yHol T n m nb ng s p else if yisW T n m p 3 = true then yOnc T n m 0 20 s p else if yisW T n m p 4 = true then yOnc T n m 1 20 s p else if yisW T n m p 5 = true then yOnc T n m 2 12 s p else .inl (ybd T n m p 1)
end YG
/-- a place on the tape -/
def yP9 (p : Nat) : Prop := p ≤ 940
/-- the reference reads -/
abbrev yMR (T : Nat → Nat) (n m p : Nat) (s : yS) (V : Nat → Value) (σ : iv_H) : Prop := iv_get σ 548 = some (yob 12 49 V) ∧ iv_get σ 550 = some (yai 940 (ytp T)) ∧ iv_get σ 554 = some (yai 38 s.1) ∧ iv_get σ 564 = some (yaj 13 s.2.1) ∧ iv_get σ 570 = some (yaz 3 s.2.2) ∧ (V 1 = .ref 550 ∧ V 3 = .int (Int32.ofNat n) ∧ V 4 = .int (Int32.ofNat m) ∧ V 15 = .ref 554 ∧ V 20 = .ref 564 ∧ V 23 = .ref 570 ∧ V 10 = .int (Int32.ofNat 0)) ∧ yP9 p ∧ yTy V ∧ yTk T n m p V
abbrev yBx (σ σ1 : iv_H) (V V1 : Nat → Value) : Prop := yFr [548, 554, 564, 570] σ σ1 ∧ yAg [5, 6, 7, 8, 9, 10, 11, 12, 13] V V1
theorem yB_tr {σ σ1 σ2 : iv_H} {V V1 V2 : Nat → Value} (h : yBx σ σ1 V V1) (k : yBx σ1 σ2 V1 V2) : yBx σ σ2 V V2 := ⟨yF_tr h.1 k.1, yA_tr h.2 k.2⟩
abbrev yBad (e : Nat × Nat) (V1 : Nat → Value) (σ1 : iv_H) : Prop := iv_get σ1 548 = some (yob 12 49 V1) ∧ V1 10 = .int (Int32.ofNat e.1) ∧ V1 11 = .int (Int32.ofNat e.2)
def yOM (T : Nat → Nat) (n m : Nat) (o : yE (yS × Nat)) (r : Bool) (V1 : Nat → Value) (σ1 : iv_H) : Prop := match o with
  | .inl e => r = false ∧ yBad e V1 σ1
  | .inr q => r = true ∧ yMR T n m q.2 q.1 V1 σ1
def yON (T : Nat → Nat) (n m : Nat) (s : yS) (o : yE (Nat × Nat)) (r : Bool) (V1 : Nat → Value) (σ1 : iv_H) : Prop := match o with
  | .inl e => r = false ∧ yBad e V1 σ1
  | .inr q => r = true ∧ yMR T n m q.2 s V1 σ1 ∧ V1 13 = .int (Int32.ofNat q.1)
def yO1 (T : Nat → Nat) (n m p : Nat) (s : yS) (o : yE Nat) (r : Bool) (V1 : Nat → Value) (σ1 : iv_H) : Prop := match o with
  | .inl e => r = false ∧ yBad e V1 σ1
  | .inr k => r = true ∧ yMR T n m p s V1 σ1 ∧ V1 13 = .int (Int32.ofNat k)
theorem y_Rb {L : Nat} {xs : Nat → Int32} {d M pc : Nat} {lv : iv_L} {st : List Value} {σ : iv_H} {Q : Bool → (Nat → Value) → iv_H → Prop} (h : zGo L xs (fun r σ1 => ∃ b V1, r = some (.int (yb b)) ∧ Q b V1 σ1) [] d M pc lv st σ) : ∃ b σ1 V1, iv_Rn L xs d M pc lv st σ (some (.int (yb b))) σ1 ∧ Q b V1 σ1 := by
  obtain ⟨r, σ1, h1, h2⟩ := h
  have h3 : ∃ b V1, r = some (.int (yb b)) ∧ Q b V1 σ1 := h2
  obtain ⟨b, V1, rfl, h4⟩ := h3
  exact ⟨b, σ1, V1, h1, h4⟩
theorem y_rtb {b : Bool} {σ : iv_H} : iv_rt 2 [.int (yb b)] σ = some (some (.int (yb b)), σ) := by cases b <;> rfl
theorem y_ilE {L : Nat} {xs : Nat → Int32} {Post : Option Value → iv_H → Prop} {d M pc : Nat} {lv : iv_L} {st : List Value} {σ : iv_H} {a n i : Nat} {g : Nat → Int32} {x : Int32} (hf : iv_f1 (iv_p M) pc = some (.inl iv_oIl)) (hg : iv_get σ a = some (yai n g)) (h1 : Nat.beq a 1 = false) (h2 : Nat.beq a 101 = false) (hi : i < n) (hn : n ≤ 2000) (he : g i = x) (k : zGo L xs Post [] d M (pc + 1) lv (.int x :: st) σ) : zGo L xs Post [] d M pc lv (.int (Int32.ofNat i) :: .ref a :: st) σ := y_il hf hg h1 h2 hi hn (by rw [he]; exact k)
theorem y_oN {k : Nat} (h : k ≤ 1000) : ¬ Int32.ofNat k = Int32.ofInt (-1) := fun e => by
  have e2 := congrArg Int32.toInt e
  rw [y_of (by omega)] at e2
  have e3 : (Int32.ofInt (-1)).toInt = -1 := by decide
  omega
theorem yfi_lt {f : Nat → Int64} {w : Int64} : ∀ {j k i : Nat}, yfi f w j k = some i → k ≤ i ∧ i < k + j
  | 0, _, _, h => by cases h
  | j + 1, k, i, h => by
    have h : (if f k = w then some k else yfi f w j (k + 1)) = some i := h
    by_cases e : f k = w
    · rw [if_pos e] at h
      cases h
      omega
    · rw [if_neg e] at h
      have := yfi_lt h
      omega
section YO
variable {T : Nat → Nat} {n m p : Nat} {s : yS} {V1 : Nat → Value} {σ1 : iv_H} {e : Nat × Nat}
theorem yOM_bad {o : yE (yS × Nat)} (sp : o = .inl e) (h : yBad e V1 σ1) : yOM T n m o false V1 σ1 := by
  subst sp
  exact And.intro rfl h
theorem yOM_good {o : yE (yS × Nat)} {q : yS × Nat} (sp : o = .inr q) (h : yMR T n m q.2 q.1 V1 σ1) : yOM T n m o true V1 σ1 := by
  subst sp
  exact And.intro rfl h
theorem yON_bad {o : yE (Nat × Nat)} (sp : o = .inl e) (h : yBad e V1 σ1) : yON T n m s o false V1 σ1 := by
  subst sp
  exact And.intro rfl h
theorem yON_good {o : yE (Nat × Nat)} {q : Nat × Nat} (sp : o = .inr q) (h : yMR T n m q.2 s V1 σ1) (h2 : V1 13 = .int (Int32.ofNat q.1)) : yON T n m s o true V1 σ1 := by
  subst sp
  exact And.intro rfl ⟨h, h2⟩
theorem yO1_bad {o : yE Nat} (sp : o = .inl e) (h : yBad e V1 σ1) : yO1 T n m p s o false V1 σ1 := by
  subst sp
  exact And.intro rfl h
theorem yO1_good {o : yE Nat} {k : Nat} (sp : o = .inr k) (h : yMR T n m p s V1 σ1) (h2 : V1 13 = .int (Int32.ofNat k)) : yO1 T n m p s o true V1 σ1 := by
  subst sp
  exact And.intro rfl ⟨h, h2⟩
end YO
section YI
variable {T : Nat → Nat} {n m p : Nat} {s : yS}
theorem yThen_r {α β : Type} {q : α} {f : α → yE β} : yThen (.inr q : yE α) f = f q := rfl
theorem yThen_l {α β : Type} {e : Nat × Nat} {f : α → yE β} : yThen (.inl e : yE α) f = .inl e := rfl
theorem yFst_inr {c most : Nat} {q : yS × Nat} (h : yFst T n m c most s p = .inr q) : q = (s, yto T n m p) ∧ ¬ c = most := by
  unfold yFst at h
  split at h
  · cases h
  · rename_i h2
    cases h
    exact ⟨rfl, h2⟩
theorem yNew_inr {nb ng slot : Nat} {q : yS × Nat} (h : yNew T n m nb ng slot s p = .inr q) : q = ((s.1, vp_updL s.2.1 slot (yrv T n p), s.2.2), yto T n m p) := by
  unfold yNew at h
  split at h
  · split at h
    · cases h
      rfl
    · cases h
  · cases h
theorem yNum_inr {a b : Nat} {q : Nat × Nat} (h : yNum T n m a b p = .inr q) : q = (ynN T (ysk T n p) (yln T n p), yto T n m p) := by
  unfold yNum at h
  split at h
  · split at h
    · cases h
      rfl
    · cases h
  · cases h
theorem yOne_inr {base many k : Nat} (h : yOne T n m base many s p = .inr k) : k < many := by
  unfold yOne at h
  split at h
  · split at h
    · rename_i i hi
      cases h
      have := yfi_lt hi
      omega
    · cases h
  · cases h
theorem yPut_l {i a b : Nat} {e : Nat × Nat} (h : yNum T n m a b p = .inl e) : yPut T n m i a b s p = .inl e := by
  unfold yPut
  rw [h]
theorem yPut_r {i a b : Nat} {q : Nat × Nat} (h : yNum T n m a b p = .inr q) : yPut T n m i a b s p = .inr ((upd s.1 i (Int32.ofNat q.1), s.2), q.2) := by
  unfold yPut
  rw [h]
theorem y_upn {f : Nat → Int32} {i j : Nat} {x v : Int32} (h : ¬ j = i) (hx : f j = x) : upd f i v j = x := by
  rw [upd_at, if_neg h]
  exact hx
end YI
theorem y_dup2 {L : Nat} {xs : Nat → Int32} {Post : Option Value → iv_H → Prop} {d M pc : Nat} {lv : iv_L} {st : List Value} {σ : iv_H} {v w : Value} (hf : iv_f1 (iv_p M) pc = some (.inl iv_oDup2)) (h1 : Nat.beq v.category 1 = true) (h2 : Nat.beq w.category 1 = true) (k : zGo L xs Post [] d M (pc + 1) lv (v :: w :: v :: w :: st) σ) : zGo L xs Post [] d M pc lv (v :: w :: st) σ := zGo_s hf (by
  show (bif (Nat.beq v.category 1 && Nat.beq w.category 1) then some (pc + 1, lv, v :: w :: v :: w :: st, σ) else none) = _
  rw [h1, h2]
  rfl) k
