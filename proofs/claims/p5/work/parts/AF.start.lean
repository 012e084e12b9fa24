/-! ===== a frame's run up to a place ===== -/
/-- the frame's run up to the place 'stop'; calls have F steps -/
noncomputable def iv_part (L : Nat) (xs : Nat → Int32) (stop F : Nat) (n : Nat) : Nat → Nat → Nat → iv_L → List Value → iv_H → Option (iv_L × List Value × iv_H) := Nat.rec (fun _ _ _ _ _ _ => none) (fun _ ih d M pc lv st σ => bif Nat.beq pc stop then some (lv, st, σ) else match iv_f1 (iv_p M) pc with
  | some (.inl f) => (match f L xs pc lv st σ with
    | some (pc', lv', st', σ') => iv_fp pc' fun p => ih d M p lv' st' σ'
    | none => none)
  | some (.inr (.inr (kind, m, nn, ci))) => (match iv_args kind nn ci st σ, d with
    | some (as, rest), d' + 1 => bif Nat.ble (iv_cs as) (iv_m m).2.2.1 then (match iv_run L xs F d' m 0 (lv_args 0 as) [] σ with
      | some (r, σ') => iv_fp (pc + 3) fun p => ih (d' + 1) M p lv (r.toList ++ rest) σ'
      | none => none) else none
    | _, _ => none)
  | _ => none) n
theorem iv_part_s (L : Nat) (xs : Nat → Int32) (stop F n d M pc : Nat) (lv : iv_L) (st : List Value) (σ : iv_H) : iv_part L xs stop F (n + 1) d M pc lv st σ = (bif Nat.beq pc stop then some (lv, st, σ) else match iv_f1 (iv_p M) pc with
  | some (.inl f) => (match f L xs pc lv st σ with
    | some (pc', lv', st', σ') => iv_fp pc' fun p => iv_part L xs stop F n d M p lv' st' σ'
    | none => none)
  | some (.inr (.inr (kind, m, nn, ci))) => (match iv_args kind nn ci st σ, d with
    | some (as, rest), d' + 1 => bif Nat.ble (iv_cs as) (iv_m m).2.2.1 then (match iv_run L xs F d' m 0 (lv_args 0 as) [] σ with
      | some (r, σ') => iv_fp (pc + 3) fun p => iv_part L xs stop F n (d' + 1) M p lv (r.toList ++ rest) σ'
      | none => none) else none
    | _, _ => none)
  | _ => none) := rfl
/-! ===== the two new objects ===== -/
def sg0 : iv_H := (0, fun _ => .inr (0, []), 0)
def sgz : Nat → Int32 := fun _ => 0
def sgl : iv_L := [(4, .int 0), (3, .ref 592), (2, .ref 548), (1, .ref 0), (0, .ref 1)]
noncomputable def sgP : Option (iv_L × List Value × iv_H) := iv_part 0 sgz 23 40000 22 21 iv_n 0 [(0, .ref 1)] [] sg0
noncomputable def sg2 : iv_H := match sgP with
  | some (_, _, σ) => σ
  | none => sg0
set_option maxRecDepth 100000 in
theorem sgP_ok : (match sgP with | some (lv, st, σ) => decide (lv = sgl) && (decide (st = []) && (decide (σ.1 = 297) && decide (σ.2.2 ≤ 100000))) | none => false) = true := by decide +kernel
theorem sgP_eq : sgP = some (sgl, [], sg2) ∧ sg2.1 = 297 ∧ sg2.2.2 ≤ 100000 := by
  have h := sgP_ok
  unfold sg2
  cases hq : sgP with
  | none => rw [hq] at h; cases h
  | some q =>
    obtain ⟨lv, st, σ⟩ := q
    rw [hq] at h
    simp only [Bool.and_eq_true, decide_eq_true_eq] at h
    obtain ⟨rfl, rfl, h3, h4⟩ := h
    exact ⟨rfl, h3, h4⟩
/-! ===== the two new objects are as they are to be ===== -/
def allB (n : Nat) (p : Nat → Bool) : Bool := match n with
  | 0 => true
  | m + 1 => bif p m then allB m p else false
theorem allB_ok {p : Nat → Bool} : ∀ {n : Nat}, allB n p = true → ∀ i, i < n → p i = true
  | 0, _, i, hi => absurd hi (Nat.not_lt_zero i)
  | n + 1, h, i, hi => by
    have h : (bif p n then allB n p else false) = true := h
    cases hp : p n
    · rw [hp] at h; cases h
    · rw [hp] at h
      by_cases e : i = n
      · rw [e]; exact hp
      · exact allB_ok (n := n) h i (by omega)
def zseB (sg : List (Nat × Nat × Int × Int)) (i : Nat) (v : Int) : Bool := sg.any fun s => Nat.ble s.1 i && (Nat.ble i s.2.1 && (zle s.2.2.1 v && zle v s.2.2.2))
theorem zseB_ok {sg : List (Nat × Nat × Int × Int)} {i : Nat} {v : Int} (h : zseB sg i v = true) : zseg sg i v := by
  obtain ⟨s, h1, h2⟩ := List.any_eq_true.mp h
  rw [Bool.and_eq_true, Bool.and_eq_true, Bool.and_eq_true] at h2
  exact ⟨s, h1, Nat.le_of_ble_eq_true h2.1, Nat.le_of_ble_eq_true h2.2.1, zle_iff.mp h2.2.2.1, zle_iff.mp h2.2.2.2⟩
def zfiB (τ : Nat → Nat) (c : zc) (x : Value) : Bool := match c.1, x with
  | 0, .int y => zle c.2.1 y.toInt && zle y.toInt c.2.2
  | 1, .long y => zle c.2.1 y.toInt && zle y.toInt c.2.2
  | t + 2, .ref a => (zle c.2.1 (a : Int) && zle (a : Int) c.2.2) && Nat.beq (τ a) t
  | _, _ => false
theorem zfiB_ok {τ : Nat → Nat} {c : zc} {x : Value} (h : zfiB τ c x = true) : zfit τ c x := by
  obtain ⟨k, lo, hi⟩ := c
  rcases k with _ | _ | t
  · cases x with
    | int y =>
      have h : (zle lo y.toInt && zle y.toInt hi) = true := h
      rw [Bool.and_eq_true] at h
      exact ⟨y, rfl, zle_iff.mp h.1, zle_iff.mp h.2⟩
    | _ => cases h
  · cases x with
    | long y =>
      have h : (zle lo y.toInt && zle y.toInt hi) = true := h
      rw [Bool.and_eq_true] at h
      exact ⟨y, rfl, zle_iff.mp h.1, zle_iff.mp h.2⟩
    | _ => cases h
  · cases x with
    | ref a =>
      have h : ((zle lo (a : Int) && zle (a : Int) hi) && Nat.beq (τ a) t) = true := h
      rw [Bool.and_eq_true, Bool.and_eq_true] at h
      exact ⟨a, rfl, zle_iff.mp h.1.1, zle_iff.mp h.1.2, Nat.eq_of_beq_eq_true h.2⟩
    | _ => cases h
def zfsB (τ : Nat → Nat) : List zc → List Value → Bool
  | [], [] => true
  | c :: cs, x :: fs => bif zfiB τ c x then zfsB τ cs fs else false
  | _, _ => false
theorem zfsB_ok {τ : Nat → Nat} : ∀ {cs : List zc} {fs : List Value}, zfsB τ cs fs = true → fs.length = cs.length ∧ ∀ (j : Nat) (c : zc) (x : Value), iv_nth cs j = some c → iv_nth fs j = some x → zfit τ c x
  | [], [], _ => ⟨rfl, fun j c x h => by cases h⟩
  | [], x :: fs, h => by cases h
  | c :: cs, [], h => by cases h
  | c :: cs, x :: fs, h => by
    have h : (bif zfiB τ c x then zfsB τ cs fs else false) = true := h
    cases hp : zfiB τ c x
    · rw [hp] at h; cases h
    · rw [hp] at h
      obtain ⟨h1, h2⟩ := zfsB_ok (cs := cs) (fs := fs) h
      refine ⟨by simp [h1], fun j c2 x2 e1 e2 => ?_⟩
      cases j with
      | zero =>
        cases e1
        cases e2
        exact zfiB_ok hp
      | succ j => exact h2 j c2 x2 e1 e2
def zceB (τ : Nat → Nat) (T : zt) (e : iv_E) : Bool := match T, e with
  | .inl (ci, cs), .inr (c2, fs) => Nat.beq ci c2 && zfsB τ cs fs
  | .inr (0, len, _, sg), .inl (0, n, .inl f) => Nat.beq len n && allB len (fun i => zseB sg i (f i).toInt)
  | .inr (1, len, _, sg), .inl (1, n, .inr (.inl f)) => Nat.beq len n && allB len (fun i => zseB sg i (f i).toInt)
  | .inr (2, len, _, sg), .inl (2, n, .inl f) => Nat.beq len n && allB len (fun i => (decide (f i = 0) || decide (f i = 1)) && zseB sg i (f i).toInt)
  | .inr (t + 3, len, k, _), .inl (u, n, .inr (.inr (.inr (.inr f)))) => (Nat.beq u (t + 3) && Nat.ble t 4) && (Nat.beq len n && allB len (fun i => match f i with
    | some a => Nat.beq (τ a) k
    | none => false))
  | _, _ => false
theorem zceB_ok {τ : Nat → Nat} {T : zt} {e : iv_E} (h : zceB τ T e = true) : zcell τ T e := by
  unfold zceB at h
  split at h
  · rw [Bool.and_eq_true] at h
    rw [← Nat.eq_of_beq_eq_true h.1]
    exact ⟨_, rfl, (zfsB_ok h.2).1, (zfsB_ok h.2).2⟩
  · rw [Bool.and_eq_true] at h
    rw [← Nat.eq_of_beq_eq_true h.1]
    exact ⟨_, rfl, fun i hi => zseB_ok (allB_ok h.2 i hi)⟩
  · rw [Bool.and_eq_true] at h
    rw [← Nat.eq_of_beq_eq_true h.1]
    exact ⟨_, rfl, fun i hi => zseB_ok (allB_ok h.2 i hi)⟩
  · rw [Bool.and_eq_true] at h
    rw [← Nat.eq_of_beq_eq_true h.1]
    refine ⟨_, rfl, fun i hi => ?_⟩
    have h2 := allB_ok h.2 i hi
    rw [Bool.and_eq_true, Bool.or_eq_true] at h2
    exact ⟨h2.1.imp of_decide_eq_true of_decide_eq_true, zseB_ok h2.2⟩
  · rw [Bool.and_eq_true, Bool.and_eq_true, Bool.and_eq_true] at h
    rw [← Nat.eq_of_beq_eq_true h.2.1, Nat.eq_of_beq_eq_true h.1.1]
    refine ⟨_, Nat.le_of_ble_eq_true h.1.2, rfl, fun i hi => ?_⟩
    have h2 := allB_ok h.2.2 i hi
    split at h2
    · rename_i a ha
      exact ⟨a, ha, Nat.eq_of_beq_eq_true h2⟩
    · cases h2
  · cases h
def zIB (τ : Nat → Nat) (ty : Nat → Option zt) (σ : iv_H) : Bool := allB 297 fun k => match ty (τ (2 * k)) with
  | some T => (match iv_get σ (2 * k) with
    | some e => zceB τ T e
    | none => false)
  | none => true
theorem zIB_ok {τ : Nat → Nat} {ty : Nat → Option zt} {σ : iv_H} (h : zIB τ ty σ = true) (hd : ∀ a T, ty (τ a) = some T → a % 2 = 0 ∧ a < 594) : zI τ ty σ := by
  intro a T hT
  obtain ⟨h1, h2⟩ := hd a T hT
  have h3 := allB_ok h (a / 2) (by omega)
  rw [show 2 * (a / 2) = a by omega, hT] at h3
  simp only at h3
  split at h3
  · rename_i e he
    exact ⟨e, he, zceB_ok h3⟩
  · cases h3
/-- the rows of the book, told anew: nothing behind their ends -/
def bkE : iv_E := .inl (0, 40, .inl (fun _ => 0))
noncomputable def sg3 : iv_H := iv_put (iv_put (iv_put (iv_put sg2 376 bkE) 378 bkE) 380 bkE) 382 bkE
def bkB (σ : iv_H) (a : Nat) : Bool := match iv_get σ a with
  | some (.inl (0, n, .inl f)) => Nat.beq n 40 && allB 40 (fun i => decide (f i = 0))
  | _ => false
def mJB (σ : iv_H) : Bool := (decide (mA σ 552 0 = 0) && (decide (mA σ 552 1 = 0) && (decide (mA σ 554 0 = 0) && decide (mA σ 554 1 = 0)))) && ((allB 7 (fun b => decide ((mA σ 552 (49 + b)).toInt < 0) && decide ((mA σ 554 (19 + b)).toInt < 0)) && allB 60 (fun k => decide (mA σ 552 (134 + 4 * k) = 0) && decide (mA σ 590 (4 * k) = 0))) && (decide (mF σ 24 = 0) && (decide (mA σ 568 0 = 0) && decide (mA σ 568 1 = 0))))
