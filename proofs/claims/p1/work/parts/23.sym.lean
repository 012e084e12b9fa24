/-! ===== the machine on states that hold words of the script unread: .retAddr k stands for the word k; B gives each word's bounds ===== -/
def sv (ρ : Nat → Int32) (v : Value) : Value := match v with
  | .retAddr k => .int (ρ k)
  | v => v
def sS (ρ : Nat → Int32) (st : List Value) : List Value := st.map (sv ρ)
def sL (ρ : Nat → Int32) (lv : iv_L) : iv_L := lv.map fun q => (q.1, sv ρ q.2)
theorem sv_cat (ρ : Nat → Int32) (v : Value) : (sv ρ v).category = v.category := by cases v <;> rfl
theorem sS_cs (ρ : Nat → Int32) (st : List Value) : iv_cs (sS ρ st) = iv_cs st := by
  induction st with
  | nil => rfl
  | cons v r ih =>
    show (sv ρ v).category + iv_cs (sS ρ r) = v.category + iv_cs r
    rw [sv_cat, ih]
theorem sL_f1 (ρ : Nat → Int32) (lv : iv_L) (k : Nat) : iv_f1 (sL ρ lv) k = (iv_f1 lv k).map (sv ρ) := by
  induction lv with
  | nil => rfl
  | cons q r ih =>
    show (bif Nat.beq q.1 k then some (sv ρ q.2) else iv_f1 (sL ρ r) k) = (bif Nat.beq q.1 k then some q.2 else iv_f1 r k).map (sv ρ)
    rw [ih]
    cases Nat.beq q.1 k <;> rfl
theorem sL_d1 (ρ : Nat → Int32) (lv : iv_L) (k : Nat) : iv_d1 k (sL ρ lv) = sL ρ (iv_d1 k lv) := by
  induction lv with
  | nil => rfl
  | cons q r ih =>
    show (bif (Nat.beq q.1 k || (Nat.beq (q.1 + 1) k && Nat.beq (sv ρ q.2).category 2)) then iv_d1 k (sL ρ r) else (q.1, sv ρ q.2) :: iv_d1 k (sL ρ r)) = sL ρ (bif (Nat.beq q.1 k || (Nat.beq (q.1 + 1) k && Nat.beq q.2.category 2)) then iv_d1 k r else q :: iv_d1 k r)
    rw [ih, sv_cat]
    cases (Nat.beq q.1 k || (Nat.beq (q.1 + 1) k && Nat.beq q.2.category 2)) <;> rfl
theorem sL_d2 (ρ : Nat → Int32) (lv : iv_L) (k : Nat) : iv_d2 k (sL ρ lv) = sL ρ (iv_d2 k lv) := by
  induction lv with
  | nil => rfl
  | cons q r ih =>
    show (bif (Nat.beq q.1 k || (Nat.beq q.1 (k + 1) || (Nat.beq (q.1 + 1) k && Nat.beq (sv ρ q.2).category 2))) then iv_d2 k (sL ρ r) else (q.1, sv ρ q.2) :: iv_d2 k (sL ρ r)) = sL ρ (bif (Nat.beq q.1 k || (Nat.beq q.1 (k + 1) || (Nat.beq (q.1 + 1) k && Nat.beq q.2.category 2))) then iv_d2 k r else q :: iv_d2 k r)
    rw [ih, sv_cat]
    cases (Nat.beq q.1 k || (Nat.beq q.1 (k + 1) || (Nat.beq (q.1 + 1) k && Nat.beq q.2.category 2))) <;> rfl
/-- an operation that succeeds on the unread state succeeds alike on the read one -/
def iv_sb (f : iv_F) : Prop := ∀ (ρ xs0 : Nat → Int32) (pc : Nat) (lv : iv_L) (st : List Value) (σ : iv_H) (pc' : Nat) (lv' : iv_L) (st' : List Value) (σ' : iv_H), f 0 xs0 pc lv st σ = some (pc', lv', st', σ') → f 0 xs0 pc (sL ρ lv) (sS ρ st) σ = some (pc', sL ρ lv', sS ρ st', σ')
