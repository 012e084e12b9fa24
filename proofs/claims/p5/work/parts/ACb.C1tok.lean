/-! ===== what the tape says: tokens ===== -/
def ysB (c : Nat) : Bool := decide (c = 32 ∨ c = 10)
def ysL (c : Nat) : Bool := decide (97 ≤ c ∧ c ≤ 122)
def ysD (c : Nat) : Bool := decide (48 ≤ c ∧ c ≤ 57)
def ysM (c : Nat) : Bool := decide (c = 59 ∨ c = 60 ∨ c = 61 ∨ c = 62 ∨ c = 40 ∨ c = 41)
def ysA (c : Nat) : Bool := ysL c || ysD c
section YS
variable {T : Nat → Nat} {n i : Nat}
def yskF (T : Nat → Nat) (n : Nat) : Nat → Nat → Nat
  | 0, i => i
  | f + 1, i => if i < n ∧ ysB (T i) = true then yskF T n f (i + 1) else i
def ysk (T : Nat → Nat) (n i : Nat) : Nat := yskF T n (n - i) i
theorem ysk_s (h : i < n) (hb : ysB (T i) = true) : ysk T n i = ysk T n (i + 1) := by
  unfold ysk
  rw [show n - i = (n - (i + 1)) + 1 by omega]
  show (if i < n ∧ ysB (T i) = true then yskF T n (n - (i + 1)) (i + 1) else i) = _
  rw [if_pos ⟨h, hb⟩]
theorem ysk_e (h : ¬ (i < n ∧ ysB (T i) = true)) : ysk T n i = i := by
  unfold ysk
  cases n - i with
  | zero => rfl
  | succ f =>
    show (if i < n ∧ ysB (T i) = true then _ else i) = _
    rw [if_neg h]
theorem yskF_b : ∀ (f i : Nat), i ≤ yskF T n f i ∧ (i ≤ n → yskF T n f i ≤ n)
  | 0, i => ⟨Nat.le_refl _, fun h => h⟩
  | f + 1, i => by
    have ih := yskF_b f (i + 1)
    show i ≤ (if i < n ∧ ysB (T i) = true then yskF T n f (i + 1) else i) ∧ (i ≤ n → (if i < n ∧ ysB (T i) = true then yskF T n f (i + 1) else i) ≤ n)
    split
    · rename_i h
      exact ⟨by omega, fun _ => ih.2 (by omega)⟩
    · exact ⟨Nat.le_refl _, fun h => h⟩
theorem ysk_ge : i ≤ ysk T n i := (yskF_b _ _).1
theorem ysk_le (h : i ≤ n) : ysk T n i ≤ n := (yskF_b _ _).2 h
theorem ysk_nb : ∀ {j i : Nat}, n - i = j → ysk T n i < n → ysB (T (ysk T n i)) = false := by
  intro j
  induction j with
  | zero =>
    intro i hj h
    have := ysk_ge (T := T) (n := n) (i := i)
    omega
  | succ j ih =>
    intro i hj h
    by_cases hb : i < n ∧ ysB (T i) = true
    · rw [ysk_s hb.1 hb.2] at h ⊢
      exact ih (by omega) h
    · rw [ysk_e hb] at h ⊢
      cases hc : ysB (T i) with
      | false => rfl
      | true => exact absurd ⟨h, hc⟩ hb
def yreF (T : Nat → Nat) (n : Nat) : Nat → Nat → Nat
  | 0, i => i
  | f + 1, i => if i < n ∧ ysA (T i) = true then yreF T n f (i + 1) else i
def yre (T : Nat → Nat) (n i : Nat) : Nat := yreF T n (n - i) i
theorem yre_s (h : i < n) (hb : ysA (T i) = true) : yre T n i = yre T n (i + 1) := by
  unfold yre
  rw [show n - i = (n - (i + 1)) + 1 by omega]
  show (if i < n ∧ ysA (T i) = true then yreF T n (n - (i + 1)) (i + 1) else i) = _
  rw [if_pos ⟨h, hb⟩]
theorem yre_e (h : ¬ (i < n ∧ ysA (T i) = true)) : yre T n i = i := by
  unfold yre
  cases n - i with
  | zero => rfl
  | succ f =>
    show (if i < n ∧ ysA (T i) = true then _ else i) = _
    rw [if_neg h]
theorem yreF_b : ∀ (f i : Nat), i ≤ yreF T n f i ∧ (i ≤ n → yreF T n f i ≤ n)
  | 0, i => ⟨Nat.le_refl _, fun h => h⟩
  | f + 1, i => by
    have ih := yreF_b f (i + 1)
    show i ≤ (if i < n ∧ ysA (T i) = true then yreF T n f (i + 1) else i) ∧ (i ≤ n → (if i < n ∧ ysA (T i) = true then yreF T n f (i + 1) else i) ≤ n)
    split
    · rename_i h
      exact ⟨by omega, fun _ => ih.2 (by omega)⟩
    · exact ⟨Nat.le_refl _, fun h => h⟩
theorem yre_ge : i ≤ yre T n i := (yreF_b _ _).1
theorem yre_le (h : i ≤ n) : yre T n i ≤ n := (yreF_b _ _).2 h
theorem yre_gt (h : i < n) (hb : ysA (T i) = true) : i < yre T n i := by
  rw [yre_s h hb]
  have := yre_ge (T := T) (n := n) (i := i + 1)
  omega
end YS
def yat (T : Nat → Nat) (n p : Nat) : Nat := if p < n then T p else 0
theorem y_atL {T : Nat → Nat} {n p : Nat} (h : ysL (yat T n p) = true) : p < n ∧ ysL (T p) = true := by
  unfold yat at h
  split at h
  · exact ⟨by assumption, h⟩
  · exact absurd h (by decide)
theorem y_atD {T : Nat → Nat} {n p : Nat} (h : ysD (yat T n p) = true) : p < n ∧ ysD (T p) = true := by
  unfold yat at h
  split at h
  · exact ⟨by assumption, h⟩
  · exact absurd h (by decide)
theorem y_atN {T : Nat → Nat} {n p : Nat} (h1 : ysL (yat T n p) = false) (h2 : ysD (yat T n p) = false) : ¬ (p < n ∧ ysA (T p) = true) := by
  rintro ⟨h3, h4⟩
  unfold yat at h1 h2
  rw [if_pos h3] at h1 h2
  unfold ysA at h4
  rw [h1, h2] at h4
  cases h4
/-- all letters, or all digits, as far as k -/
def ygd (T : Nat → Nat) (b : Bool) (s : Nat) : Nat → Bool
  | 0 => true
  | k + 1 => ygd T b s k && (ysL (T (s + k)) == b)
def yw (T : Nat → Nat) (s : Nat) : Nat → Int64
  | 0 => Int64.ofNat 0
  | k + 1 => if k < 7 then Int64.ofNat 27 * yw T s k + (Int32.ofNat (T (s + k))).toInt64 - Int64.ofNat 96 else yw T s k
def yn (T : Nat → Nat) (s : Nat) : Nat → Int32
  | 0 => Int32.ofNat 0
  | k + 1 => if k < 3 then Int32.ofNat 10 * yn T s k + Int32.ofNat (T (s + k)) - Int32.ofNat 48 else yn T s k
/-- the token from p on: where it ends, where it begins, what it is (0: the end, 1: nothing, 2: a word, 3: a number, 4: a mark) -/
def yto (T : Nat → Nat) (n m p : Nat) : Nat := if m < n ∧ m ≤ ysk T n p then ysk T n p else if n ≤ ysk T n p then ysk T n p else if ysA (T (ysk T n p)) = true then yre T n (ysk T n p) else ysk T n p + 1
def yfm (T : Nat → Nat) (n m p : Nat) : Nat := if m < n ∧ m ≤ ysk T n p then m else ysk T n p
def yln (T : Nat → Nat) (n p : Nat) : Nat := yre T n (ysk T n p) - ysk T n p
def ykw (T : Nat → Nat) (n p : Nat) : Nat := if ygd T (ysL (T (ysk T n p))) (ysk T n p) (yln T n p) = true ∧ yln T n p ≤ (if ysL (T (ysk T n p)) = true then 7 else 3) then (if ysL (T (ysk T n p)) = true then 2 else 3) else 1
def ykd (T : Nat → Nat) (n m p : Nat) : Nat := if m < n ∧ m ≤ ysk T n p then 1 else if n ≤ ysk T n p then 0 else if ysA (T (ysk T n p)) = true then ykw T n p else if ysM (T (ysk T n p)) = true then 4 else 1
/-- fields that stay -/
def yAg (S : List Nat) (V V1 : Nat → Value) : Prop := ∀ j, iv_mem j S = false → V1 j = V j
theorem yA_rf {S : List Nat} {V : Nat → Value} : yAg S V V := fun _ _ => rfl
theorem yA_tr {S : List Nat} {V V1 V2 : Nat → Value} (h : yAg S V V1) (k : yAg S V1 V2) : yAg S V V2 := fun j hj => (k j hj).trans (h j hj)
theorem yA_sub {S S' : List Nat} {V V1 : Nat → Value} (hs : (S.all fun a => iv_mem a S') = true) (h : yAg S V V1) : yAg S' V V1 := fun j hj => h j (y_sub1 hs j hj)
theorem yA_u {S : List Nat} {V : Nat → Value} {j : Nat} {v : Value} (hj : iv_mem j S = true) : yAg S V (yuV V j v) := fun i hi => by
  unfold yuV
  rw [y_beq (y_mem hj i hi)]
  rfl
theorem yA_f {S : List Nat} {V V1 : Nat → Value} {j : Nat} {v : Value} (h : yAg S V V1) (hj : iv_mem j S = false) (hv : V j = v) : V1 j = v := (h j hj).trans hv
/-- the reference stands at the token that begins from p on -/
abbrev yTok (T : Nat → Nat) (n m p : Nat) (V : Nat → Value) : Prop := V 5 = .int (Int32.ofNat (yto T n m p)) ∧ V 6 = .int (Int32.ofNat (yfm T n m p)) ∧ V 7 = .int (Int32.ofNat (ykd T n m p)) ∧ (ykd T n m p = 2 → V 12 = .long (yw T (ysk T n p) (yln T n p))) ∧ (ykd T n m p = 3 → V 8 = .int (yn T (ysk T n p) (yln T n p))) ∧ (ykd T n m p = 4 → V 9 = .int (Int32.ofNat (T (ysk T n p))))
def yTk (T : Nat → Nat) (n m p : Nat) (V : Nat → Value) : Prop := yTok T n m p V
section YTK
variable {T : Nat → Nat} {n m p : Nat} {V : Nat → Value}
theorem yTk_5 (h : yTk T n m p V) : V 5 = .int (Int32.ofNat (yto T n m p)) := h.1
theorem yTk_6 (h : yTk T n m p V) : V 6 = .int (Int32.ofNat (yfm T n m p)) := h.2.1
theorem yTk_7 (h : yTk T n m p V) : V 7 = .int (Int32.ofNat (ykd T n m p)) := h.2.2.1
theorem yTk_w (h : yTk T n m p V) : ykd T n m p = 2 → V 12 = .long (yw T (ysk T n p) (yln T n p)) := h.2.2.2.1
theorem yTk_n (h : yTk T n m p V) : ykd T n m p = 3 → V 8 = .int (yn T (ysk T n p) (yln T n p)) := h.2.2.2.2.1
theorem yTk_m (h : yTk T n m p V) : ykd T n m p = 4 → V 9 = .int (Int32.ofNat (T (ysk T n p))) := h.2.2.2.2.2
end YTK
/-- word, number and sign are there -/
abbrev yTy (V : Nat → Value) : Prop := (∃ w, V 12 = .long w) ∧ (∃ x, V 8 = .int x) ∧ ∃ x, V 9 = .int x
def ytp (T : Nat → Nat) : Nat → Int32 := fun i => Int32.ofNat (T i)
def ysp (v : Int64) (c : Nat) : Int64 := if c = 0 then v else Int64.ofNat 27 * v + (Int32.ofNat c).toInt64 - Int64.ofNat 96
theorem y_ts {L : Nat} {xs : Nat → Int32} {Post : Option Value → iv_H → Prop} {d M pc : Nat} {lv : iv_L} {st : List Value} {σ : iv_H} {df lo hi : Int} {of : Array Int} {x : Int32} {t : Nat} (hf : iv_f1 (iv_p M) pc = some (.inl (iv_oTs df lo hi of))) (h : iv_oTs df lo hi of L xs pc lv (.int x :: st) σ = some (t, lv, st, σ)) (k : zGo L xs Post [] d M t lv st σ) : zGo L xs Post [] d M pc lv (.int x :: st) σ := zGo_s hf h k
theorem y_bb {a b : Bool} : iv_c2 .ne (yb a) (yb b) = !(a == b) := by cases a <;> cases b <;> rfl
theorem y_bc (b : Bool) : b = false ∨ b = true := by cases b <;> simp
section YKW
variable {T : Nat → Nat} {n p k s : Nat}
theorem ykw_2 (hk : yln T n p = k) (hs : ysk T n p = s) (hg : ygd T (ysL (T s)) s k = true) (hl : ysL (T s) = true) (h : k ≤ 7) : ykw T n p = 2 := by
  unfold ykw
  rw [hk, hs, if_pos ⟨hg, by rw [if_pos hl]; exact h⟩, if_pos hl]
theorem ykw_3 (hk : yln T n p = k) (hs : ysk T n p = s) (hg : ygd T (ysL (T s)) s k = true) (hl : ysL (T s) = false) (h : k ≤ 3) : ykw T n p = 3 := by
  have hl2 : ¬ ysL (T s) = true := by rw [hl]; decide
  unfold ykw
  rw [hk, hs, if_pos ⟨hg, by rw [if_neg hl2]; exact h⟩, if_neg hl2]
theorem ykw_1g (hk : yln T n p = k) (hs : ysk T n p = s) (hg : ygd T (ysL (T s)) s k = false) : ykw T n p = 1 := by
  unfold ykw
  rw [hk, hs, if_neg (fun h => by rw [hg] at h; cases h.1)]
theorem ykw_1l (hk : yln T n p = k) (hs : ysk T n p = s) (hl : ysL (T s) = true) (h : 7 < k) : ykw T n p = 1 := by
  unfold ykw
  rw [hk, hs, if_neg (fun h2 => by have h3 := h2.2; rw [if_pos hl] at h3; omega)]
theorem ykw_1d (hk : yln T n p = k) (hs : ysk T n p = s) (hl : ysL (T s) = false) (h : 3 < k) : ykw T n p = 1 := by
  have hl2 : ¬ ysL (T s) = true := by rw [hl]; decide
  unfold ykw
  rw [hk, hs, if_neg (fun h2 => by have h3 := h2.2; rw [if_neg hl2] at h3; omega)]
end YKW
