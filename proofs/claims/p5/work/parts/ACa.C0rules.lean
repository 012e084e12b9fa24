/-! ===== exact walks: cells as functions, rules ===== -/
def yob (c n : Nat) (V : Nat → Value) : iv_E := .inr (c, (List.range n).map V)
def yai (n : Nat) (f : Nat → Int32) : iv_E := .inl (0, n, .inl f)
def yaj (n : Nat) (f : Nat → Int64) : iv_E := .inl (1, n, .inr (.inl f))
def yaz (n : Nat) (f : Nat → Int32) : iv_E := .inl (2, n, .inl f)
def yaq (n : Nat) (f : Nat → Option Nat) : iv_E := .inl (6, n, .inr (.inr (.inr (.inr f))))
def yuV (V : Nat → Value) (j : Nat) (v : Value) : Nat → Value := fun i => bif Nat.beq i j then v else V i
def yb (b : Bool) : Int32 := bif b then Int32.ofNat 1 else Int32.ofNat 0
theorem y_ext : ∀ {l l' : List Value}, (∀ j, iv_nth l' j = iv_nth l j) → l' = l
  | [], [], _ => rfl
  | [], y :: r, h => by have h0 : some y = none := h 0; cases h0
  | x :: l, [], h => by have h0 : none = some x := h 0; cases h0
  | x :: l, y :: l', h => by
    have h0 : some y = some x := h 0
    cases h0
    rw [y_ext (l := l) (l' := l') (fun j => h (j + 1))]
theorem y_beq {a b : Nat} (h : ¬ a = b) : Nat.beq a b = false := by
  cases hb : Nat.beq a b with
  | false => rfl
  | true => exact absurd (Nat.eq_of_beq_eq_true hb) h
theorem y_no {α : Type} {l : List α} {i : Nat} (h : l.length ≤ i) : iv_nth l i = none := by
  cases he : iv_nth l i with
  | none => rfl
  | some x => exact absurd (iv_nth_lt he) (by omega)
theorem y_nth {α : Type} : ∀ (l : List α) (j : Nat), iv_nth l j = l[j]?
  | [], _ => by simp [iv_nth]
  | x :: _, 0 => by simp [iv_nth]
  | x :: r, n + 1 => by
    show iv_nth r n = _
    rw [y_nth r n]
    simp
theorem y_nthV {n j : Nat} {V : Nat → Value} (h : j < n) : iv_nth ((List.range n).map V) j = some (V j) := by
  rw [y_nth, List.getElem?_map, List.getElem?_range h]
  rfl
theorem y_set {n j : Nat} {V : Nat → Value} {v : Value} : ((List.range n).map V).set j v = (List.range n).map (yuV V j v) := by
  apply y_ext
  intro i
  rw [iv_nth_set]
  by_cases hi : i < n
  · rw [y_nthV (V := yuV V j v) hi]
    unfold yuV
    by_cases hij : i = j
    · subst hij
      rw [if_pos ⟨rfl, by simpa using hi⟩, Nat.beq_refl]
      rfl
    · rw [if_neg (fun h => hij h.1), y_nthV hi, y_beq hij]
      rfl
  · rw [if_neg (fun h => hi (by have h2 := h.2; have h1 := h.1; simp at h2; omega)), y_no (by simp; omega), y_no (by simp; omega)]
theorem y_V {fs : List Value} {n : Nat} (h : fs.length = n) : ∃ V : Nat → Value, fs = (List.range n).map V ∧ ∀ j v, iv_nth fs j = some v → V j = v := by
  refine ⟨fun j => (iv_nth fs j).getD .null, ?_, fun j v hv => ?_⟩
  · apply y_ext
    intro i
    by_cases hi : i < n
    · rw [y_nthV hi]
      obtain ⟨x, hx⟩ := iv_nth_some (l := fs) (n := i) (by omega)
      show iv_nth fs i = some ((iv_nth fs i).getD .null)
      rw [hx]
      rfl
    · rw [y_no (by omega), y_no (by simp; omega)]
  · show (iv_nth fs j).getD .null = v
    rw [hv]
    rfl
/-- what changed lies in S -/
def yFr (S : List Nat) (σ σ' : iv_H) : Prop := (σ'.1 = σ.1 ∧ σ'.2.2 = σ.2.2) ∧ ∀ a, iv_mem a S = false → iv_get σ' a = iv_get σ a
theorem yF_rf {S : List Nat} {σ : iv_H} : yFr S σ σ := ⟨⟨rfl, rfl⟩, fun _ _ => rfl⟩
theorem yF_tr {S : List Nat} {σ σ1 σ2 : iv_H} (h : yFr S σ σ1) (k : yFr S σ1 σ2) : yFr S σ σ2 := ⟨⟨k.1.1.trans h.1.1, k.1.2.trans h.1.2⟩, fun a ha => (k.2 a ha).trans (h.2 a ha)⟩
theorem y_mem {x : Nat} : ∀ {S : List Nat}, iv_mem x S = true → ∀ a, iv_mem a S = false → a ≠ x
  | [], h, _, _ => by cases h
  | y :: r, h, a, ha => by
    intro e
    subst e
    rw [h] at ha
    cases ha
theorem yF_D {S : List Nat} {σ σ1 : iv_H} {A : Nat} {e : iv_E} (h : mD σ σ1 A e) (hA : iv_mem A S = true) : yFr S σ σ1 := ⟨h.1, fun a ha => h.2.2 a (y_mem hA a ha)⟩
theorem y_sub1 : ∀ {S S' : List Nat}, (S.all fun a => iv_mem a S') = true → ∀ a, iv_mem a S' = false → iv_mem a S = false
  | [], _, _, _, _ => rfl
  | x :: r, S', h, a, ha => by
    rw [List.all_cons, Bool.and_eq_true] at h
    show (bif Nat.beq x a then true else iv_mem a r) = false
    rw [y_beq (fun e => y_mem h.1 a ha e.symm)]
    exact y_sub1 h.2 a ha
theorem yF_sub {S S' : List Nat} {σ σ1 : iv_H} (hs : (S.all fun a => iv_mem a S') = true) (h : yFr S σ σ1) : yFr S' σ σ1 := ⟨h.1, fun a ha => h.2 a (y_sub1 hs a ha)⟩
theorem yF_n {S : List Nat} {σ σ1 : iv_H} {a : Nat} {x : Option iv_E} (h : yFr S σ σ1) (ha : iv_mem a S = false) (hx : iv_get σ a = x) : iv_get σ1 a = x := (h.2 a ha).trans hx
/-! locals -/
theorem y_l0 {i : Nat} {v : Value} {l : iv_L} : iv_f1 ((i, v) :: l) i = some v := by
  show (bif Nat.beq i i then some v else _) = _
  rw [Nat.beq_refl]
  rfl
theorem y_d1 {i j : Nat} {x : Value} : ∀ {l : iv_L}, Nat.beq j i = false → (Nat.beq (j + 1) i && Nat.beq x.category 2) = false → iv_f1 l j = some x → iv_f1 (iv_d1 i l) j = some x
  | [], _, _, h => by cases h
  | q :: r, h1, h2, h => by
    have h : (bif Nat.beq q.1 j then some q.2 else iv_f1 r j) = some x := h
    show iv_f1 (bif (Nat.beq q.1 i || (Nat.beq (q.1 + 1) i && Nat.beq q.2.category 2)) then iv_d1 i r else q :: iv_d1 i r) j = some x
    cases hq : Nat.beq q.1 j with
    | true =>
      rw [hq] at h
      have h3 : some q.2 = some x := h
      cases h3
      rw [Nat.eq_of_beq_eq_true hq, h1, h2]
      show (bif Nat.beq q.1 j then some q.2 else _) = _
      rw [hq]
      rfl
    | false =>
      rw [hq] at h
      have h3 : iv_f1 r j = some x := h
      have ih := y_d1 (l := r) h1 h2 h3
      cases hb : (Nat.beq q.1 i || (Nat.beq (q.1 + 1) i && Nat.beq q.2.category 2)) with
      | true => exact ih
      | false =>
        show (bif Nat.beq q.1 j then some q.2 else iv_f1 (iv_d1 i r) j) = some x
        rw [hq]
        exact ih
theorem y_d2 {i j : Nat} {x : Value} : ∀ {l : iv_L}, (Nat.beq j i || Nat.beq j (i + 1)) = false → (Nat.beq (j + 1) i && Nat.beq x.category 2) = false → iv_f1 l j = some x → iv_f1 (iv_d2 i l) j = some x
  | [], _, _, h => by cases h
  | q :: r, h1, h2, h => by
    have h : (bif Nat.beq q.1 j then some q.2 else iv_f1 r j) = some x := h
    show iv_f1 (bif (Nat.beq q.1 i || (Nat.beq q.1 (i + 1) || (Nat.beq (q.1 + 1) i && Nat.beq q.2.category 2))) then iv_d2 i r else q :: iv_d2 i r) j = some x
    cases hq : Nat.beq q.1 j with
    | true =>
      rw [hq] at h
      have h3 : some q.2 = some x := h
      cases h3
      rw [Bool.or_eq_false_iff] at h1
      rw [Nat.eq_of_beq_eq_true hq, h1.1, h1.2, h2]
      show (bif Nat.beq q.1 j then some q.2 else _) = _
      rw [hq]
      rfl
    | false =>
      rw [hq] at h
      have h3 : iv_f1 r j = some x := h
      have ih := y_d2 (l := r) h1 h2 h3
      cases hb : (Nat.beq q.1 i || (Nat.beq q.1 (i + 1) || (Nat.beq (q.1 + 1) i && Nat.beq q.2.category 2))) with
      | true => exact ih
      | false =>
        show (bif Nat.beq q.1 j then some q.2 else iv_f1 (iv_d2 i r) j) = some x
        rw [hq]
        exact ih
theorem y_f1c {i j : Nat} {v x : Value} {l : iv_L} (h : Nat.beq i j = false) (hx : iv_f1 l j = some x) : iv_f1 ((i, v) :: l) j = some x := by
  show (bif Nat.beq i j then some v else iv_f1 l j) = some x
  rw [h]
  exact hx
theorem y_sym {i j : Nat} (h : Nat.beq j i = false) : Nat.beq i j = false := y_beq (fun e => by subst e; rw [Nat.beq_refl] at h; cases h)
theorem y_l1 {i j : Nat} {v x : Value} {l : iv_L} (h1 : Nat.beq j i = false) (h2 : (Nat.beq (j + 1) i && Nat.beq x.category 2) = false) (h : iv_f1 l j = some x) : iv_f1 ((i, v) :: iv_d1 i l) j = some x := y_f1c (y_sym h1) (y_d1 h1 h2 h)
theorem y_l2 {i j : Nat} {v x : Value} {l : iv_L} (h1 : (Nat.beq j i || Nat.beq j (i + 1)) = false) (h2 : (Nat.beq (j + 1) i && Nat.beq x.category 2) = false) (h : iv_f1 l j = some x) : iv_f1 ((i, v) :: iv_d2 i l) j = some x := y_f1c (y_sym (by rw [Bool.or_eq_false_iff] at h1; exact h1.1)) (y_d2 h1 h2 h)
theorem y_of {a : Nat} (h : a ≤ 1000000) : (Int32.ofNat a).toInt = a := Int32.toInt_ofNat_of_lt (by omega)
section YR
variable {L : Nat} {xs : Nat → Int32} {Post : Option Value → iv_H → Prop} {d M pc : Nat} {lv : iv_L} {st : List Value} {σ : iv_H}
theorem y_gf {ci n j a : Nat} {V : Nat → Value} {v : Value} (hf : iv_f1 (iv_p M) pc = some (.inl (iv_oGF ci j))) (hg : iv_get σ a = some (yob ci n V)) (hj : Nat.blt j n = true) (hv : V j = v) (k : zGo L xs Post [] d M (pc + 3) lv (v :: st) σ) : zGo L xs Post [] d M pc lv (.ref a :: st) σ := w_gf hf hg (by rw [y_nthV (by rw [Nat.blt_eq] at hj; exact hj), hv]) k
theorem y_pf {ci n j a : Nat} {fty : FieldType} {V : Nat → Value} {v : Value} (hf : iv_f1 (iv_p M) pc = some (.inl (iv_oPF ci j fty))) (hg : iv_get σ a = some (yob ci n V)) (hv : iv_fit fty v = true) (hj : Nat.blt j n = true) (k : ∀ σ1, mD σ σ1 a (yob ci n (yuV V j v)) → zGo L xs Post [] d M (pc + 3) lv st σ1) : zGo L xs Post [] d M pc lv (v :: .ref a :: st) σ := w_pf hf hg hv (by rw [Nat.blt_eq] at hj; simpa using hj) (by
  rw [y_set]
  exact k _ (mD_put2 hg))
theorem y_il {a n i : Nat} {g : Nat → Int32} (hf : iv_f1 (iv_p M) pc = some (.inl iv_oIl)) (hg : iv_get σ a = some (yai n g)) (h1 : Nat.beq a 1 = false) (h2 : Nat.beq a 101 = false) (hi : i < n) (hn : n ≤ 2000) (k : zGo L xs Post [] d M (pc + 1) lv (.int (g i) :: st) σ) : zGo L xs Post [] d M pc lv (.int (Int32.ofNat i) :: .ref a :: st) σ := w_il hf hg h1 h2 hi hn k
theorem y_jl {a n i : Nat} {g : Nat → Int64} (hf : iv_f1 (iv_p M) pc = some (.inl iv_oJl)) (hg : iv_get σ a = some (yaj n g)) (hi : i < n) (hn : n ≤ 2000) (k : zGo L xs Post [] d M (pc + 1) lv (.long (g i) :: st) σ) : zGo L xs Post [] d M pc lv (.int (Int32.ofNat i) :: .ref a :: st) σ := w_jl hf hg hi hn k
theorem y_zl {a n i : Nat} {g : Nat → Int32} (hf : iv_f1 (iv_p M) pc = some (.inl iv_oZl)) (hg : iv_get σ a = some (yaz n g)) (hi : i < n) (hn : n ≤ 2000) (k : zGo L xs Post [] d M (pc + 1) lv (.int (g i) :: st) σ) : zGo L xs Post [] d M pc lv (.int (Int32.ofNat i) :: .ref a :: st) σ := w_zl hf hg hi hn k
theorem y_ist {a n i : Nat} {g : Nat → Int32} {x : Int32} (hf : iv_f1 (iv_p M) pc = some (.inl iv_oIst)) (hg : iv_get σ a = some (yai n g)) (hi : i < n) (hn : n ≤ 2000) (k : ∀ σ1, mD σ σ1 a (yai n (upd g i x)) → zGo L xs Post [] d M (pc + 1) lv st σ1) : zGo L xs Post [] d M pc lv (.int x :: .int (Int32.ofNat i) :: .ref a :: st) σ := w_ist hf hg hi hn (k _ (mD_put2 hg))
theorem y_jst {a n i : Nat} {g : Nat → Int64} {x : Int64} (hf : iv_f1 (iv_p M) pc = some (.inl iv_oJst)) (hg : iv_get σ a = some (yaj n g)) (hi : i < n) (hn : n ≤ 2000) (k : ∀ σ1, mD σ σ1 a (yaj n (vp_updL g i x)) → zGo L xs Post [] d M (pc + 1) lv st σ1) : zGo L xs Post [] d M pc lv (.long x :: .int (Int32.ofNat i) :: .ref a :: st) σ := w_jst hf hg hi hn (k _ (mD_put2 hg))
theorem y_zst {a n i : Nat} {g : Nat → Int32} {x : Int32} (hf : iv_f1 (iv_p M) pc = some (.inl iv_oZst)) (hg : iv_get σ a = some (yaz n g)) (hi : i < n) (hn : n ≤ 2000) (hx : (decide (x = 0) || decide (x = 1)) = true) (k : ∀ σ1, mD σ σ1 a (yaz n (upd g i x)) → zGo L xs Post [] d M (pc + 1) lv st σ1) : zGo L xs Post [] d M pc lv (.int x :: .int (Int32.ofNat i) :: .ref a :: st) σ := w_zst hf hg hi hn hx (k _ (mD_put2 hg))
theorem y_ql {a n i b : Nat} {f : Nat → Option Nat} (hf : iv_f1 (iv_p M) pc = some (.inl iv_oQl)) (hg : iv_get σ a = some (yaq n f)) (hi : i < n) (hn : n ≤ 2000) (hb : f i = some b) (k : zGo L xs Post [] d M (pc + 1) lv (.ref b :: st) σ) : zGo L xs Post [] d M pc lv (.int (Int32.ofNat i) :: .ref a :: st) σ := zGo_s hf (by
  have hg : iv_get σ a = some (.inl (6, n, .inr (.inr (.inr (.inr f))))) := hg
  have e1 : Nat.ble 3 6 = true := rfl
  have e2 : Nat.ble 6 7 = true := rfl
  simp only [iv_oQl, hg, (ofNat_in hi hn).1, (ofNat_in hi hn).2.1, e1, e2, Bool.and_self, cond_true, hb]
  first | done | rfl) k
theorem y_qst {a n i b : Nat} {f : Nat → Option Nat} (hf : iv_f1 (iv_p M) pc = some (.inl iv_oQst)) (hg : iv_get σ a = some (yaq n f)) (hi : i < n) (hn : n ≤ 2000) (hb : iv_isW b = true) (k : ∀ σ1, mD σ σ1 a (yaq n (va_up f i (some b))) → zGo L xs Post [] d M (pc + 1) lv st σ1) : zGo L xs Post [] d M pc lv (.ref b :: .int (Int32.ofNat i) :: .ref a :: st) σ := zGo_s hf (by
  have hg2 : iv_get σ a = some (.inl (6, n, .inr (.inr (.inr (.inr f))))) := hg
  have e1 : Nat.ble 6 7 = true := rfl
  have e2 : Nat.beq (iv_ec 6) (iv_co σ b) = true := by unfold iv_co; rw [hb]; rfl
  simp only [iv_oQst, hg2, (ofNat_in hi hn).1, (ofNat_in hi hn).2.1, e1, e2, Bool.and_self, cond_true]
  first | done | rfl) (k _ (mD_put2 hg))
theorem y_AS {i len a : Nat} (hf : iv_f1 (iv_p M) pc = some (.inl (iv_oAS i len))) (k : zGo L xs Post [] d M (pc + len) ((i, .ref a) :: iv_d1 i lv) st σ) : zGo L xs Post [] d M pc lv (.ref a :: st) σ := zGo_s hf rfl k
theorem y_JS {i len : Nat} {x : Int64} (hf : iv_f1 (iv_p M) pc = some (.inl (iv_oJS i len))) (k : zGo L xs Post [] d M (pc + len) ((i, .long x) :: iv_d2 i lv) st σ) : zGo L xs Post [] d M pc lv (.long x :: st) σ := zGo_s hf rfl k
theorem y_inck {i : Nat} {n : Int} {x : Int32} {y : Nat} (hf : iv_f1 (iv_p M) pc = some (.inl (iv_oInc i n))) (h : iv_f1 lv i = some (.int x)) (he : x + Int32.ofInt n = Int32.ofNat y) (k : zGo L xs Post [] d M (pc + 3) ((i, .int (Int32.ofNat y)) :: iv_d1 i lv) st σ) : zGo L xs Post [] d M pc lv st σ := zGo_s hf (by
  unfold iv_oInc
  rw [h]
  simp only
  rw [he]) k
theorem y_IIk {f : Int32 → Int32 → Int32} {x y : Int32} {z : Nat} (hf : iv_f1 (iv_p M) pc = some (.inl (iv_oII f))) (he : f x y = Int32.ofNat z) (k : zGo L xs Post [] d M (pc + 1) lv (.int (Int32.ofNat z) :: st) σ) : zGo L xs Post [] d M pc lv (.int y :: .int x :: st) σ := zGo_s hf rfl (by rw [he]; exact k)
theorem y_II {f : Int32 → Int32 → Int32} {x y : Int32} (hf : iv_f1 (iv_p M) pc = some (.inl (iv_oII f))) (k : zGo L xs Post [] d M (pc + 1) lv (.int (f x y) :: st) σ) : zGo L xs Post [] d M pc lv (.int y :: .int x :: st) σ := zGo_s hf rfl k
theorem y_JJ {f : Int64 → Int64 → Int64} {x y : Int64} (hf : iv_f1 (iv_p M) pc = some (.inl (iv_oJJ f))) (k : zGo L xs Post [] d M (pc + 1) lv (.long (f x y) :: st) σ) : zGo L xs Post [] d M pc lv (.long y :: .long x :: st) σ := zGo_s hf rfl k
theorem y_JI {f : Int64 → Int32 → Int64} {x : Int64} {y : Int32} (hf : iv_f1 (iv_p M) pc = some (.inl (iv_oJI f))) (k : zGo L xs Post [] d M (pc + 1) lv (.long (f x y) :: st) σ) : zGo L xs Post [] d M pc lv (.int y :: .long x :: st) σ := zGo_s hf rfl k
theorem y_UI {f : Int32 → Value} {x : Int32} (hf : iv_f1 (iv_p M) pc = some (.inl (iv_oUI f))) (k : zGo L xs Post [] d M (pc + 1) lv (f x :: st) σ) : zGo L xs Post [] d M pc lv (.int x :: st) σ := zGo_s hf rfl k
theorem y_sub {a b : Nat} (hf : iv_f1 (iv_p M) pc = some (.inl (iv_oII fun x y => x - y))) (h : b ≤ a) (ha : a ≤ 1000000) (k : zGo L xs Post [] d M (pc + 1) lv (.int (Int32.ofNat (a - b)) :: st) σ) : zGo L xs Post [] d M pc lv (.int (Int32.ofNat b) :: .int (Int32.ofNat a) :: st) σ := y_IIk hf (by
  show Int32.ofNat a - Int32.ofNat b = Int32.ofNat (a - b)
  have e : Int32.ofNat a = Int32.ofNat (a - b) + Int32.ofNat b := by
    rw [← Int32.ofNat_add]
    congr 1
    omega
  rw [e, Int32.add_sub_cancel]) k
theorem y_dup {v : Value} (hf : iv_f1 (iv_p M) pc = some (.inl iv_oDup)) (hc : Nat.beq v.category 1 = true) (k : zGo L xs Post [] d M (pc + 1) lv (v :: v :: st) σ) : zGo L xs Post [] d M pc lv (v :: st) σ := zGo_s hf (by
  show (bif Nat.beq v.category 1 then some (pc + 1, lv, v :: v :: st, σ) else none) = _
  rw [hc]
  rfl) k
theorem y_pop {v : Value} (hf : iv_f1 (iv_p M) pc = some (.inl iv_oPop)) (hc : Nat.beq v.category 1 = true) (k : zGo L xs Post [] d M (pc + 1) lv st σ) : zGo L xs Post [] d M pc lv (v :: st) σ := zGo_s hf (by
  show (bif Nat.beq v.category 1 then some (pc + 1, lv, st, σ) else none) = _
  rw [hc]
  rfl) k
theorem y_len {a n : Nat} {g : Nat → Int32} (hf : iv_f1 (iv_p M) pc = some (.inl iv_oLen)) (hg : iv_get σ a = some (yai n g)) (h1 : Nat.beq a 1 = false) (k : zGo L xs Post [] d M (pc + 1) lv (.int (Int32.ofNat n) :: st) σ) : zGo L xs Post [] d M pc lv (.ref a :: st) σ := zGo_s hf (by
  have hg : iv_get σ a = some (.inl (0, n, .inl g)) := hg
  simp only [iv_oLen, h1, hg, cond_false]
  first | done | rfl) k
theorem y_c {c : ClassFile.Cond} {a b : Nat} (ha : a ≤ 1000000) (hb : b ≤ 1000000) : iv_c2 c (Int32.ofNat a) (Int32.ofNat b) = true ↔ zch c (a : Int) (b : Int) := by
  rw [zch_32, y_of ha, y_of hb]
theorem y_icT {c : ClassFile.Cond} {off : Int} {a b t : Nat} (hf : iv_f1 (iv_p M) pc = some (.inl (iv_oIc c off))) (ht : iv_tgt pc off = some t) (ha : a ≤ 1000000) (hb : b ≤ 1000000) (h : zch c (a : Int) (b : Int)) (k : zGo L xs Post [] d M t lv st σ) : zGo L xs Post [] d M pc lv (.int (Int32.ofNat b) :: .int (Int32.ofNat a) :: st) σ := w_icT hf ht ((y_c ha hb).mpr h) k
theorem y_icF {c : ClassFile.Cond} {off : Int} {a b t : Nat} (hf : iv_f1 (iv_p M) pc = some (.inl (iv_oIc c off))) (ht : iv_tgt pc off = some t) (ha : a ≤ 1000000) (hb : b ≤ 1000000) (h : ¬ zch c (a : Int) (b : Int)) (k : zGo L xs Post [] d M (pc + 3) lv st σ) : zGo L xs Post [] d M pc lv (.int (Int32.ofNat b) :: .int (Int32.ofNat a) :: st) σ := w_icF hf ht (c_f (fun e => h ((y_c ha hb).mp e))) k
theorem y_ifT {c : ClassFile.Cond} {off : Int} {a t : Nat} (hf : iv_f1 (iv_p M) pc = some (.inl (iv_oIf c off))) (ht : iv_tgt pc off = some t) (ha : a ≤ 1000000) (h : zch c (a : Int) ((0 : Nat) : Int)) (k : zGo L xs Post [] d M t lv st σ) : zGo L xs Post [] d M pc lv (.int (Int32.ofNat a) :: st) σ := w_ifT hf ht ((y_c (b := 0) ha (by decide)).mpr h) k
theorem y_ifF {c : ClassFile.Cond} {off : Int} {a t : Nat} (hf : iv_f1 (iv_p M) pc = some (.inl (iv_oIf c off))) (ht : iv_tgt pc off = some t) (ha : a ≤ 1000000) (h : ¬ zch c (a : Int) ((0 : Nat) : Int)) (k : zGo L xs Post [] d M (pc + 3) lv st σ) : zGo L xs Post [] d M pc lv (.int (Int32.ofNat a) :: st) σ := w_ifF hf ht (c_f (fun e => h ((y_c (b := 0) ha (by decide)).mp e))) k
theorem y_ret {v : Value} {r : Nat} (hf : iv_f1 (iv_p M) pc = some (.inr (.inl r))) (hr : iv_rt r [v] σ = some (some v, σ)) (k : Post (some v) σ) : zGo L xs Post [] d M pc lv [v] σ := zGo_r hf hr k
theorem y_args4 {n ci : Nat} {as r : List Value} (hp : iv_pop n st [] = some (as, r)) (hr : Nat.ble (iv_cs r) 8 = true) : iv_args 4 n ci st σ = some (as, r) := by
  unfold iv_args
  rw [hp]
  simp only [hr, cond_true, show Nat.beq 4 4 = true from rfl]
theorem y_args6 {n ci a m : Nat} {as r : List Value} {V : Nat → Value} (hg : iv_get σ a = some (yob ci m V)) (hp : iv_pop n st [] = some (as, .ref a :: r)) (hr : Nat.ble (iv_cs r) 8 = true) : iv_args 6 n ci st σ = some (.ref a :: as, r) := by
  have hg : iv_get σ a = some (.inr (ci, (List.range m).map V)) := hg
  unfold iv_args
  rw [hp]
  simp only [hr, hg, cond_true, cond_false, show Nat.beq 6 4 = false from rfl, show Nat.beq 6 6 = true from rfl, Nat.beq_refl]
theorem y_call {kind mm nn ci : Nat} {as rest : List Value} {v : Value} {σ1 : iv_H} (hf : iv_f1 (iv_p M) pc = some (.inr (.inr (kind, mm, nn, ci)))) (ha : iv_args kind nn ci st σ = some (as, rest)) (hcs : Nat.ble (iv_cs as) (iv_m mm).2.2.1 = true) (hr : iv_Rn L xs d mm 0 (lv_args 0 as) [] σ (some v) σ1) (k : zGo L xs Post [] (d + 1) M (pc + 3) lv (v :: rest) σ1) : zGo L xs Post [] (d + 1) M pc lv st σ := zGo_c hf ha hcs hr k
theorem y_call0 {kind mm nn ci : Nat} {as rest : List Value} {σ1 : iv_H} (hf : iv_f1 (iv_p M) pc = some (.inr (.inr (kind, mm, nn, ci)))) (ha : iv_args kind nn ci st σ = some (as, rest)) (hcs : Nat.ble (iv_cs as) (iv_m mm).2.2.1 = true) (hr : iv_Rn L xs d mm 0 (lv_args 0 as) [] σ none σ1) (k : zGo L xs Post [] (d + 1) M (pc + 3) lv rest σ1) : zGo L xs Post [] (d + 1) M pc lv st σ := zGo_c hf ha hcs hr k
end YR
theorem y_bneT {b : Bool} (h : b = true) : iv_c2 .ne (yb b) 0 = true := by rw [h]; rfl
theorem y_bneF {b : Bool} (h : b = false) : iv_c2 .ne (yb b) 0 = false := by rw [h]; rfl
theorem y_beqT {b : Bool} (h : b = false) : iv_c2 .eq (yb b) 0 = true := by rw [h]; rfl
theorem y_beqF {b : Bool} (h : b = true) : iv_c2 .eq (yb b) 0 = false := by rw [h]; rfl
theorem y_fz {b : Bool} : iv_fit .boolean (.int (yb b)) = true := by cases b <;> rfl
theorem y_t {P : Prop} [Decidable P] (h : P) : some (Value.int (Int32.ofNat 1)) = some (Value.int (yb (decide P))) := by rw [decide_eq_true h]; rfl
theorem y_f {P : Prop} [Decidable P] (h : ¬ P) : some (Value.int (Int32.ofNat 0)) = some (Value.int (yb (decide P))) := by rw [decide_eq_false h]; rfl
theorem y_Rn {L : Nat} {xs : Nat → Int32} {d M pc : Nat} {lv : iv_L} {st : List Value} {σ : iv_H} {v : Value} {Q : iv_H → Prop} (h : zGo L xs (fun r σ1 => r = some v ∧ Q σ1) [] d M pc lv st σ) : ∃ σ1, iv_Rn L xs d M pc lv st σ (some v) σ1 ∧ Q σ1 := by
  obtain ⟨r, σ1, h1, h2⟩ := h
  have h3 : r = some v ∧ Q σ1 := h2
  obtain ⟨rfl, h4⟩ := h3
  exact ⟨σ1, h1, h4⟩
theorem y_Rp {L : Nat} {xs : Nat → Int32} {d M pc : Nat} {lv : iv_L} {st : List Value} {σ : iv_H} {v : Value} (h : zGo L xs (fun r σ1 => r = some v ∧ σ1 = σ) [] d M pc lv st σ) : iv_Rn L xs d M pc lv st σ (some v) σ := by
  obtain ⟨σ1, h1, rfl⟩ := y_Rn h
  exact h1
theorem y_R0 {L : Nat} {xs : Nat → Int32} {d M pc : Nat} {lv : iv_L} {st : List Value} {σ : iv_H} {Q : iv_H → Prop} (h : zGo L xs (fun r σ1 => r = none ∧ Q σ1) [] d M pc lv st σ) : ∃ σ1, iv_Rn L xs d M pc lv st σ none σ1 ∧ Q σ1 := by
  obtain ⟨r, σ1, h1, h2⟩ := h
  have h3 : r = none ∧ Q σ1 := h2
  obtain ⟨rfl, h4⟩ := h3
  exact ⟨σ1, h1, h4⟩
