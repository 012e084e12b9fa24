/-! ===== names: the two codings of a word are one-to-one ===== -/
def yl7 (l : List Nat) : Prop := (∀ x ∈ l, 97 ≤ x ∧ x ≤ 122) ∧ l.length ≤ 7
def e27 : List Nat → Nat
  | [] => 0
  | c :: r => 27 * e27 r + (c - 96)
def e256 : List Nat → Nat
  | [] => 0
  | c :: r => 256 * e256 r + c
/-- the letters of a run, the last one first -/
def yls (T : Nat → Nat) (s : Nat) : Nat → List Nat
  | 0 => []
  | k + 1 => T (s + k) :: yls T s k
theorem e27_lt : ∀ {l : List Nat}, (∀ x ∈ l, 97 ≤ x ∧ x ≤ 122) → e27 l < 27 ^ l.length
  | [], _ => by decide
  | c :: r, h => by
    have h1 := e27_lt (l := r) (fun x hx => h x (List.mem_cons_of_mem _ hx))
    have h2 := h c List.mem_cons_self
    show 27 * e27 r + (c - 96) < 27 ^ (r.length + 1)
    rw [Nat.pow_succ]
    omega
theorem e256_lt : ∀ {l : List Nat}, (∀ x ∈ l, 97 ≤ x ∧ x ≤ 122) → e256 l < 256 ^ l.length
  | [], _ => by decide
  | c :: r, h => by
    have h1 := e256_lt (l := r) (fun x hx => h x (List.mem_cons_of_mem _ hx))
    have h2 := h c List.mem_cons_self
    show 256 * e256 r + c < 256 ^ (r.length + 1)
    rw [Nat.pow_succ]
    omega
theorem e27_inj : ∀ {l l' : List Nat}, (∀ x ∈ l, 97 ≤ x ∧ x ≤ 122) → (∀ x ∈ l', 97 ≤ x ∧ x ≤ 122) → e27 l = e27 l' → l = l'
  | [], [], _, _, _ => rfl
  | [], c :: r, _, h, e => by
    have h2 := h c List.mem_cons_self
    have e : 0 = 27 * e27 r + (c - 96) := e
    omega
  | c :: r, [], h, _, e => by
    have h2 := h c List.mem_cons_self
    have e : 27 * e27 r + (c - 96) = 0 := e
    omega
  | c :: r, c' :: r', h, h', e => by
    have h2 := h c List.mem_cons_self
    have h3 := h' c' List.mem_cons_self
    have e : 27 * e27 r + (c - 96) = 27 * e27 r' + (c' - 96) := e
    have e1 : c = c' := by omega
    have e2 : e27 r = e27 r' := by omega
    rw [e1, e27_inj (fun x hx => h x (List.mem_cons_of_mem _ hx)) (fun x hx => h' x (List.mem_cons_of_mem _ hx)) e2]
theorem e256_inj : ∀ {l l' : List Nat}, (∀ x ∈ l, 97 ≤ x ∧ x ≤ 122) → (∀ x ∈ l', 97 ≤ x ∧ x ≤ 122) → e256 l = e256 l' → l = l'
  | [], [], _, _, _ => rfl
  | [], c :: r, _, h, e => by
    have h2 := h c List.mem_cons_self
    have e : 0 = 256 * e256 r + c := e
    omega
  | c :: r, [], h, _, e => by
    have h2 := h c List.mem_cons_self
    have e : 256 * e256 r + c = 0 := e
    omega
  | c :: r, c' :: r', h, h', e => by
    have h2 := h c List.mem_cons_self
    have h3 := h' c' List.mem_cons_self
    have e : 256 * e256 r + c = 256 * e256 r' + c' := e
    have e1 : c = c' := by omega
    have e2 : e256 r = e256 r' := by omega
    rw [e1, e256_inj (fun x hx => h x (List.mem_cons_of_mem _ hx)) (fun x hx => h' x (List.mem_cons_of_mem _ hx)) e2]
theorem y64_inj {a b : Nat} (ha : a < 2 ^ 62) (hb : b < 2 ^ 62) (h : Int64.ofNat a = Int64.ofNat b) : a = b := by
  have e := congrArg Int64.toInt h
  rw [Int64.toInt_ofNat_of_lt (by omega), Int64.toInt_ofNat_of_lt (by omega)] at e
  omega
/-- two codes of one name -/
def yRel (r c : Int64) : Prop := ∃ l, yl7 l ∧ r = Int64.ofNat (e27 l) ∧ c = Int64.ofNat (e256 l)
theorem y27_b {l : List Nat} (h : yl7 l) : e27 l < 2 ^ 62 := by
  have h1 := e27_lt h.1
  have h2 : 27 ^ l.length ≤ 27 ^ 7 := Nat.pow_le_pow_right (by decide) h.2
  have h3 : 27 ^ 7 < 2 ^ 62 := by decide
  omega
theorem y256_b {l : List Nat} (h : yl7 l) : e256 l < 2 ^ 62 := by
  have h1 := e256_lt h.1
  have h2 : 256 ^ l.length ≤ 256 ^ 7 := Nat.pow_le_pow_right (by decide) h.2
  have h3 : 256 ^ 7 < 2 ^ 62 := by decide
  omega
theorem yRel_iff {r c r' c' : Int64} (h : yRel r c) (h' : yRel r' c') : r = r' ↔ c = c' := by
  obtain ⟨l, h1, rfl, rfl⟩ := h
  obtain ⟨l', h1', rfl, rfl⟩ := h'
  constructor
  · intro e
    rw [e27_inj h1.1 h1'.1 (y64_inj (y27_b h1) (y27_b h1') e)]
  · intro e
    rw [e256_inj h1.1 h1'.1 (y64_inj (y256_b h1) (y256_b h1') e)]
theorem yls_len {T : Nat → Nat} {s : Nat} : ∀ k, (yls T s k).length = k
  | 0 => rfl
  | k + 1 => by rw [show yls T s (k + 1) = T (s + k) :: yls T s k from rfl, List.length_cons, yls_len k]
theorem yls_all {T : Nat → Nat} {s : Nat} : ∀ {k : Nat}, (∀ i, i < k → ysL (T (s + i)) = true) → ∀ x ∈ yls T s k, 97 ≤ x ∧ x ≤ 122
  | 0, _, x, hx => by cases hx
  | k + 1, h, x, hx => by
    rcases List.mem_cons.mp hx with e | e
    · rw [e]
      exact of_decide_eq_true (h k (by omega))
    · exact yls_all (fun i hi => h i (by omega)) x e
theorem y_i64 {a : Nat} (h : a ≤ 1000000) : (Int32.ofNat a).toInt64 = Int64.ofNat a := by
  apply Int64.toInt_inj.mp
  rw [Int32.toInt_toInt64, y_of h, Int64.toInt_ofNat_of_lt (by omega)]
theorem yw_eq {T : Nat → Nat} {s : Nat} : ∀ {k : Nat}, k ≤ 7 → (∀ i, i < k → ysL (T (s + i)) = true) → yw T s k = Int64.ofNat (e27 (yls T s k))
  | 0, _, _ => rfl
  | k + 1, hk, h => by
    have ih := yw_eq (k := k) (by omega) (fun i hi => h i (by omega))
    have h3 := of_decide_eq_true (h k (by omega))
    show (if k < 7 then Int64.ofNat 27 * yw T s k + (Int32.ofNat (T (s + k))).toInt64 - Int64.ofNat 96 else yw T s k) = Int64.ofNat (27 * e27 (yls T s k) + (T (s + k) - 96))
    rw [if_pos (by omega), ih, y_i64 (by omega), ← Int64.ofNat_mul, ← Int64.ofNat_add]
    have e2 : 27 * e27 (yls T s k) + T (s + k) = (27 * e27 (yls T s k) + (T (s + k) - 96)) + 96 := by omega
    rw [e2, Int64.ofNat_add, Int64.add_sub_cancel]
/-- how the class packs a word -/
def yv (T : Nat → Nat) (s : Nat) : Nat → Int64
  | 0 => Int64.ofNat 0
  | k + 1 => if 97 ≤ T (s + k) then yv T s k <<< ((Int32.ofNat 8).toInt64 &&& 63) ||| (Int32.ofNat (T (s + k))).toInt64 else yv T s k
theorem y_or {a c : Nat} (ha : a < 2 ^ 50) (hc : c < 256) : Int64.ofNat a <<< ((Int32.ofNat 8).toInt64 &&& 63) ||| Int64.ofNat c = Int64.ofNat (256 * a + c) := by
  have e8 : (Int32.ofNat 8).toInt64 &&& 63 = 8 := by decide
  rw [e8]
  apply Int64.toBitVec_inj.mp
  apply BitVec.eq_of_toNat_eq
  have h1 : (Int64.ofNat a <<< (8 : Int64)).toBitVec.toNat = a <<< 8 := by
    show (BitVec.ofNat 64 a <<< ((8 : Int64).toBitVec.smod 64)).toNat = _
    rw [show (8 : Int64).toBitVec.smod 64 = 8#64 by decide, BitVec.shiftLeft_eq', show (8#64).toNat = 8 from rfl, BitVec.toNat_shiftLeft, BitVec.toNat_ofNat, Nat.mod_eq_of_lt (a := a) (by omega), Nat.shiftLeft_eq, Nat.mod_eq_of_lt (by omega)]
  have h2 : (Int64.ofNat c).toBitVec.toNat = c := by
    show (BitVec.ofNat 64 c).toNat = c
    rw [BitVec.toNat_ofNat, Nat.mod_eq_of_lt (by omega)]
  rw [Int64.toBitVec_or, BitVec.toNat_or, h1, h2, ← Nat.shiftLeft_add_eq_or_of_lt (show c < 2 ^ 8 by omega)]
  show a <<< 8 + c = (BitVec.ofNat 64 (256 * a + c)).toNat
  rw [BitVec.toNat_ofNat, Nat.mod_eq_of_lt (by omega), Nat.shiftLeft_eq]
  omega
theorem yv_eq {T : Nat → Nat} {s : Nat} : ∀ {k : Nat}, k ≤ 7 → (∀ i, i < k → ysL (T (s + i)) = true) → yv T s k = Int64.ofNat (e256 (yls T s k))
  | 0, _, _ => rfl
  | k + 1, hk, h => by
    have ih := yv_eq (k := k) (by omega) (fun i hi => h i (by omega))
    have h3 := of_decide_eq_true (h k (by omega))
    have hb := e256_lt (yls_all (T := T) (s := s) (k := k) (fun i hi => h i (by omega)))
    rw [yls_len] at hb
    have hb2 : 256 ^ k ≤ 256 ^ 6 := Nat.pow_le_pow_right (by decide) (by omega)
    have hb3 : 256 ^ 6 < 2 ^ 50 := by decide
    show (if 97 ≤ T (s + k) then yv T s k <<< ((Int32.ofNat 8).toInt64 &&& 63) ||| (Int32.ofNat (T (s + k))).toInt64 else yv T s k) = Int64.ofNat (256 * e256 (yls T s k) + T (s + k))
    rw [if_pos (by omega), ih, y_i64 (a := T (s + k)) (by omega), y_or (by omega) (by omega)]
theorem yk_rel {T : Nat → Nat} {s k : Nat} (hk : k ≤ 7) (h : ∀ i, i < k → ysL (T (s + i)) = true) : yRel (yw T s k) (yv T s k) := ⟨yls T s k, ⟨yls_all h, by rw [yls_len]; exact hk⟩, yw_eq hk h, yv_eq hk h⟩
