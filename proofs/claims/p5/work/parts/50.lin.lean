/-! ===== linear forms over symbols, bounds, facts ===== -/
abbrev zl : Type := List (Nat × Int)
/-- kind (0 int, 1 long, 2 + t: a reference to a cell of type t), least, greatest -/
abbrev zc : Type := Nat × Int × Int
/-- a fact: a number and a form, their sum is at most 0 -/
abbrev zf : Type := Int × zl
theorem zlg (a b : Int) : a < b ∨ b ≤ a := by omega
def zle (a b : Int) : Bool := match b - a with
  | .ofNat _ => true
  | .negSucc _ => false
theorem zle_iff {a b : Int} : zle a b = true ↔ a ≤ b := by
  unfold zle
  cases h : b - a with
  | ofNat n =>
    have h2 : b - a = (n : Int) := h
    constructor
    · intro _; omega
    · intro _; rfl
  | negSucc n =>
    have h2 : b - a = -((n : Int) + 1) := by rw [h]; exact Int.negSucc_eq n
    constructor
    · intro h3; cases h3
    · intro h3; omega
def zeq (a b : Int) : Bool := match a - b with
  | .ofNat 0 => true
  | _ => false
theorem zbeq {a b : Int} : zeq a b = true ↔ a = b := by
  unfold zeq
  split
  · rename_i h
    have h2 : a - b = 0 := h
    constructor
    · intro _; omega
    · intro _; rfl
  · rename_i h
    constructor
    · intro h3; cases h3
    · intro h3
      exact absurd (show a - b = .ofNat 0 from by rw [h3]; exact Int.sub_self b) h
def zl_ev (ρ : Nat → Int) : zl → Int
  | [] => 0
  | q :: r => q.2 * ρ q.1 + zl_ev ρ r
def zl_wf (n : Nat) : zl → Bool
  | [] => true
  | q :: r => bif Nat.blt q.1 n then zl_wf n r else false
theorem zl_wf_c {n : Nat} {q : Nat × Int} {r : zl} : zl_wf n (q :: r) = true ↔ q.1 < n ∧ zl_wf n r = true := by
  show (bif Nat.blt q.1 n then zl_wf n r else false) = true ↔ _
  cases h : Nat.blt q.1 n
  · constructor
    · intro h2; cases h2
    · intro h2
      have h3 : Nat.blt q.1 n = true := by rw [Nat.blt_eq]; exact h2.1
      rw [h] at h3; cases h3
  · have h3 : q.1 < n := by rw [← Nat.blt_eq]; exact h
    constructor
    · intro h2; exact ⟨h3, h2⟩
    · intro h2; exact h2.2
theorem zl_wf_le {n n' : Nat} (h : n ≤ n') : ∀ {l : zl}, zl_wf n l = true → zl_wf n' l = true
  | [], _ => rfl
  | q :: r, hw => by
    rw [zl_wf_c] at hw ⊢
    exact ⟨Nat.lt_of_lt_of_le hw.1 h, zl_wf_le h hw.2⟩
theorem zl_ag {ρ ρ' : Nat → Int} {n : Nat} (h : ∀ i, i < n → ρ' i = ρ i) : ∀ {l : zl}, zl_wf n l = true → zl_ev ρ' l = zl_ev ρ l
  | [], _ => rfl
  | q :: r, hw => by
    rw [zl_wf_c] at hw
    show q.2 * ρ' q.1 + zl_ev ρ' r = q.2 * ρ q.1 + zl_ev ρ r
    rw [h _ hw.1, zl_ag h hw.2]
/-- c times s more -/
def zl_ad (s : Nat) (c : Int) : zl → zl
  | [] => bif zeq c 0 then [] else [(s, c)]
  | q :: r => bif Nat.beq q.1 s then (bif zeq (q.2 + c) 0 then r else (s, q.2 + c) :: r) else q :: zl_ad s c r
theorem zl_ad_ev (ρ : Nat → Int) (s : Nat) (c : Int) : ∀ l : zl, zl_ev ρ (zl_ad s c l) = c * ρ s + zl_ev ρ l
  | [] => by
    show zl_ev ρ (bif zeq c 0 then [] else [(s, c)]) = _
    cases h : zeq c 0
    · rfl
    · rw [zbeq] at h; subst h; simp [zl_ev]
  | q :: r => by
    show zl_ev ρ (bif Nat.beq q.1 s then (bif zeq (q.2 + c) 0 then r else (s, q.2 + c) :: r) else q :: zl_ad s c r) = c * ρ s + (q.2 * ρ q.1 + zl_ev ρ r)
    cases h : Nat.beq q.1 s
    · show q.2 * ρ q.1 + zl_ev ρ (zl_ad s c r) = _
      rw [zl_ad_ev ρ s c r]; omega
    · have hs := Nat.eq_of_beq_eq_true h
      rw [hs]
      cases h2 : zeq (q.2 + c) 0
      · show (q.2 + c) * ρ s + zl_ev ρ r = _
        rw [Int.add_mul]; omega
      · rw [zbeq] at h2
        show zl_ev ρ r = _
        have : q.2 * ρ s + c * ρ s = 0 := by rw [← Int.add_mul, h2, Int.zero_mul]
        omega
theorem zl_ad_wf {n s : Nat} {c : Int} (hs : s < n) : ∀ {l : zl}, zl_wf n l = true → zl_wf n (zl_ad s c l) = true
  | [], _ => by
    show zl_wf n (bif zeq c 0 then [] else [(s, c)]) = true
    cases h : zeq c 0
    · exact zl_wf_c.mpr ⟨hs, rfl⟩
    · rfl
  | q :: r, hw => by
    show zl_wf n (bif Nat.beq q.1 s then (bif zeq (q.2 + c) 0 then r else (s, q.2 + c) :: r) else q :: zl_ad s c r) = true
    rw [zl_wf_c] at hw
    cases h : Nat.beq q.1 s
    · exact zl_wf_c.mpr ⟨hw.1, zl_ad_wf hs hw.2⟩
    · cases h2 : zeq (q.2 + c) 0
      · exact zl_wf_c.mpr ⟨hs, hw.2⟩
      · exact hw.2
/-- a and m times b -/
def zl_cm (m : Int) (a : zl) : zl → zl
  | [] => a
  | q :: r => zl_cm m (zl_ad q.1 (m * q.2) a) r
theorem zl_cm_ev (ρ : Nat → Int) (m : Int) : ∀ (a b : zl), zl_ev ρ (zl_cm m a b) = zl_ev ρ a + m * zl_ev ρ b
  | a, [] => by show zl_ev ρ a = zl_ev ρ a + m * 0; rw [Int.mul_zero, Int.add_zero]
  | a, q :: r => by
    show zl_ev ρ (zl_cm m (zl_ad q.1 (m * q.2) a) r) = zl_ev ρ a + m * (q.2 * ρ q.1 + zl_ev ρ r)
    rw [zl_cm_ev ρ m _ r, zl_ad_ev, Int.mul_add, Int.mul_assoc]; omega
theorem zl_cm_wf {n : Nat} {m : Int} : ∀ {a b : zl}, zl_wf n a = true → zl_wf n b = true → zl_wf n (zl_cm m a b) = true
  | a, [], ha, _ => ha
  | a, q :: r, ha, hb => by
    rw [zl_wf_c] at hb
    show zl_wf n (zl_cm m (zl_ad q.1 (m * q.2) a) r) = true
    exact zl_cm_wf (zl_ad_wf hb.1 ha) hb.2
def zl_co (s : Nat) : zl → Int
  | [] => 0
  | q :: r => bif Nat.beq q.1 s then q.2 else zl_co s r
/-! bounds -/
def zE_lo (E : List zc) (s : Nat) : Int := match iv_nth E s with
  | some c => c.2.1
  | none => 0
def zE_hi (E : List zc) (s : Nat) : Int := match iv_nth E s with
  | some c => c.2.2
  | none => 0
def zE_ok (τ : Nat → Nat) (E : List zc) (ρ : Nat → Int) : Prop := ∀ (s : Nat) (c : zc), iv_nth E s = some c → c.2.1 ≤ ρ s ∧ ρ s ≤ c.2.2 ∧ (2 ≤ c.1 → 0 ≤ ρ s ∧ τ (ρ s).toNat = c.1 - 2)
theorem iv_nth_some {α : Type} : ∀ {l : List α} {n : Nat}, n < l.length → ∃ x, iv_nth l n = some x
  | [], n, h => absurd h (Nat.not_lt_zero n)
  | x :: l, 0, _ => ⟨x, rfl⟩
  | x :: l, n + 1, h => iv_nth_some (l := l) (Nat.lt_of_succ_lt_succ h)
theorem iv_nth_lt {α : Type} : ∀ {l : List α} {n : Nat} {x : α}, iv_nth l n = some x → n < l.length
  | [], n, x, h => by cases h
  | y :: l, 0, x, _ => Nat.succ_pos _
  | y :: l, n + 1, x, h => Nat.succ_lt_succ (iv_nth_lt (l := l) h)
theorem zE_bd {τ : Nat → Nat} {E : List zc} {ρ : Nat → Int} (h : zE_ok τ E ρ) {s : Nat} (hs : s < E.length) : zE_lo E s ≤ ρ s ∧ ρ s ≤ zE_hi E s := by
  obtain ⟨c, hc⟩ := iv_nth_some hs
  unfold zE_lo zE_hi
  rw [hc]
  exact ⟨(h s c hc).1, (h s c hc).2.1⟩
def zl_hi (E : List zc) : zl → Int
  | [] => 0
  | q :: r => (bif zle 0 q.2 then q.2 * zE_hi E q.1 else q.2 * zE_lo E q.1) + zl_hi E r
theorem zl_hi_ok {τ : Nat → Nat} {E : List zc} {ρ : Nat → Int} (h : zE_ok τ E ρ) : ∀ {l : zl}, zl_wf E.length l = true → zl_ev ρ l ≤ zl_hi E l
  | [], _ => Int.le_refl _
  | q :: r, hw => by
    rw [zl_wf_c] at hw
    have h1 := zl_hi_ok h hw.2
    obtain ⟨h2, h3⟩ := zE_bd h hw.1
    show q.2 * ρ q.1 + zl_ev ρ r ≤ (bif zle 0 q.2 then q.2 * zE_hi E q.1 else q.2 * zE_lo E q.1) + zl_hi E r
    cases hz : zle 0 q.2
    · have h4 : q.2 ≤ 0 := by
        rcases zlg q.2 0 with g | g
        · omega
        · have := zle_iff.mpr g; rw [hz] at this; cases this
      have h5 : q.2 * ρ q.1 ≤ q.2 * zE_lo E q.1 := Int.mul_le_mul_of_nonpos_left h4 h2
      show _ ≤ q.2 * zE_lo E q.1 + zl_hi E r
      omega
    · have h5 : q.2 * ρ q.1 ≤ q.2 * zE_hi E q.1 := Int.mul_le_mul_of_nonneg_left h3 (zle_iff.mp hz)
      show _ ≤ q.2 * zE_hi E q.1 + zl_hi E r
      omega
def zF_ok (ρ : Nat → Int) (n : Nat) (F : List zf) : Prop := ∀ f ∈ F, zl_wf n f.2 = true ∧ f.1 + zl_ev ρ f.2 ≤ 0
def zu1 (E : List zc) : List zf → Int → zl → Int
  | [], c, l => c + zl_hi E l
  | g :: F, c, l => match g.2 with
    | [] => zu1 E F c l
    | q :: _ => (fun m => bif zle 1 m then (fun c2 l2 => (fun a b => bif zle a b then a else b) (c2 + zl_hi E l2) (zu1 E F c2 l2)) (c - m * g.1) (zl_cm (-m) l g.2) else zu1 E F c l) (zl_co q.1 l / q.2)
theorem zu1_ok {τ : Nat → Nat} {E : List zc} {ρ : Nat → Int} (h : zE_ok τ E ρ) : ∀ {F : List zf}, zF_ok ρ E.length F → ∀ {c : Int} {l : zl}, zl_wf E.length l = true → c + zl_ev ρ l ≤ zu1 E F c l
  | [], _, c, l, hw => by have := zl_hi_ok h hw; show _ ≤ c + zl_hi E l; omega
  | g :: F, hF, c, l, hw => by
    have hF2 : zF_ok ρ E.length F := fun f hf => hF f (List.mem_cons_of_mem _ hf)
    obtain ⟨hg1, hg2⟩ := hF g List.mem_cons_self
    unfold zu1
    split
    · exact zu1_ok h hF2 hw
    · rename_i q r hq
      dsimp only
      cases hz : zle 1 (zl_co q.1 l / q.2)
      · exact zu1_ok h hF2 hw
      · have hm := zle_iff.mp hz
        generalize zl_co q.1 l / q.2 = m at hm
        have h1 := zu1_ok h hF2 (c := c - m * g.1) (l := zl_cm (-m) l g.2) (zl_cm_wf hw hg1)
        have h3 := zl_hi_ok h (l := zl_cm (-m) l g.2) (zl_cm_wf hw hg1)
        rw [zl_cm_ev] at h1 h3
        have h2 : m * (g.1 + zl_ev ρ g.2) ≤ 0 := Int.mul_nonpos_of_nonneg_of_nonpos (by omega) hg2
        rw [Int.mul_add] at h2
        rw [Int.neg_mul] at h1 h3
        show _ ≤ bif zle (c - m * g.1 + zl_hi E (zl_cm (-m) l g.2)) (zu1 E F (c - m * g.1) (zl_cm (-m) l g.2)) then c - m * g.1 + zl_hi E (zl_cm (-m) l g.2) else zu1 E F (c - m * g.1) (zl_cm (-m) l g.2)
        cases zle (c - m * g.1 + zl_hi E (zl_cm (-m) l g.2)) (zu1 E F (c - m * g.1) (zl_cm (-m) l g.2))
        · show _ ≤ zu1 E F (c - m * g.1) (zl_cm (-m) l g.2)
          omega
        · show _ ≤ c - m * g.1 + zl_hi E (zl_cm (-m) l g.2)
          omega
/-- the least over all rows of at most n facts, in their order -/
def zuD (E : List zc) : List zf → Nat → Int → zl → Int
  | [], _, c, l => c + zl_hi E l
  | g :: F, n, c, l => match n with
    | 0 => zuD E F 0 c l
    | n2 + 1 => (match g.2 with
      | [] => zuD E F (n2 + 1) c l
      | q :: _ => (fun m => bif zle 1 m then (fun a b => bif zle a b then a else b) (zuD E F (n2 + 1) c l) (zuD E F n2 (c - m * g.1) (zl_cm (-m) l g.2)) else zuD E F (n2 + 1) c l) (zl_co q.1 l / q.2))
theorem zuD_ok {τ : Nat → Nat} {E : List zc} {ρ : Nat → Int} (h : zE_ok τ E ρ) : ∀ {F : List zf}, zF_ok ρ E.length F → ∀ {n : Nat} {c : Int} {l : zl}, zl_wf E.length l = true → c + zl_ev ρ l ≤ zuD E F n c l
  | [], _, n, c, l, hw => by have := zl_hi_ok h hw; show _ ≤ c + zl_hi E l; omega
  | g :: F, hF, n, c, l, hw => by
    have hF2 : zF_ok ρ E.length F := fun f hf => hF f (List.mem_cons_of_mem _ hf)
    obtain ⟨hg1, hg2⟩ := hF g List.mem_cons_self
    cases n with
    | zero => exact zuD_ok h hF2 (n := 0) hw
    | succ n2 =>
      unfold zuD
      dsimp only
      split
      · exact zuD_ok h hF2 hw
      · rename_i q r hq
        have h0 := zuD_ok h hF2 (n := n2 + 1) (c := c) (l := l) hw
        cases hz : zle 1 (zl_co q.1 l / q.2)
        · exact h0
        · have hm := zle_iff.mp hz
          generalize zl_co q.1 l / q.2 = m at hm
          have h1 := zuD_ok h hF2 (n := n2) (c := c - m * g.1) (l := zl_cm (-m) l g.2) (zl_cm_wf hw hg1)
          rw [zl_cm_ev] at h1
          have h2 : m * (g.1 + zl_ev ρ g.2) ≤ 0 := Int.mul_nonpos_of_nonneg_of_nonpos (by omega) hg2
          rw [Int.mul_add] at h2
          rw [Int.neg_mul] at h1
          show _ ≤ bif zle (zuD E F (n2 + 1) c l) (zuD E F n2 (c - m * g.1) (zl_cm (-m) l g.2)) then zuD E F (n2 + 1) c l else zuD E F n2 (c - m * g.1) (zl_cm (-m) l g.2)
          cases zle (zuD E F (n2 + 1) c l) (zuD E F n2 (c - m * g.1) (zl_cm (-m) l g.2))
          · show _ ≤ zuD E F n2 (c - m * g.1) (zl_cm (-m) l g.2)
            omega
          · exact h0
/-- the greatest that it can be -/
def zub (E : List zc) (F : List zf) (c : Int) (l : zl) : Int := (fun a b => bif zle a b then a else b) (c + zl_hi E l) (zu1 E F c l)
theorem zub_ok {τ : Nat → Nat} {E : List zc} {ρ : Nat → Int} {F : List zf} (h : zE_ok τ E ρ) (hF : zF_ok ρ E.length F) {c : Int} {l : zl} (hw : zl_wf E.length l = true) : c + zl_ev ρ l ≤ zub E F c l := by
  have h1 := zl_hi_ok h hw
  have h2 := zu1_ok h hF (c := c) hw
  unfold zub
  dsimp only
  cases zle (c + zl_hi E l) (zu1 E F c l)
  · exact h2
  · show _ ≤ c + zl_hi E l
    omega
def zl_ng (l : zl) : zl := zl_cm (-1) [] l
theorem zl_ng_ev (ρ : Nat → Int) (l : zl) : zl_ev ρ (zl_ng l) = - zl_ev ρ l := by
  unfold zl_ng
  rw [zl_cm_ev]
  show 0 + -1 * zl_ev ρ l = _
  omega
theorem zl_ng_wf {n : Nat} {l : zl} (h : zl_wf n l = true) : zl_wf n (zl_ng l) = true := zl_cm_wf rfl h
def zlb (E : List zc) (F : List zf) (c : Int) (l : zl) : Int := - zub E F (-c) (zl_ng l)
theorem zlb_ok {τ : Nat → Nat} {E : List zc} {ρ : Nat → Int} {F : List zf} (h : zE_ok τ E ρ) (hF : zF_ok ρ E.length F) {c : Int} {l : zl} (hw : zl_wf E.length l = true) : zlb E F c l ≤ c + zl_ev ρ l := by
  have h1 := zub_ok h hF (c := -c) (zl_ng_wf hw)
  rw [zl_ng_ev] at h1
  unfold zlb
  omega
/-! a fact more: the bounds of its symbols -/
def zE_set (E : List zc) (s : Nat) (lo hi : Int) : List zc := match iv_nth E s with
  | some c => E.set s (c.1, (bif zle lo c.2.1 then c.2.1 else lo), (bif zle c.2.2 hi then c.2.2 else hi))
  | none => E
theorem iv_nth_set {α : Type} : ∀ {l : List α} {n m : Nat} {x : α}, iv_nth (l.set n x) m = if m = n ∧ n < l.length then some x else iv_nth l m
  | [], n, m, x => by simp [iv_nth]
  | y :: l, 0, 0, x => by simp [iv_nth]
  | y :: l, 0, m + 1, x => by simp [iv_nth]
  | y :: l, n + 1, 0, x => by simp [iv_nth]
  | y :: l, n + 1, m + 1, x => by
    show iv_nth (l.set n x) m = _
    rw [iv_nth_set]
    simp [iv_nth]
theorem zE_set_len (E : List zc) (s : Nat) (lo hi : Int) : (zE_set E s lo hi).length = E.length := by
  unfold zE_set
  split
  · exact List.length_set
  · rfl
theorem zE_set_ok {τ : Nat → Nat} {E : List zc} {ρ : Nat → Int} (h : zE_ok τ E ρ) {s : Nat} {lo hi : Int} (h1 : s < E.length → lo ≤ ρ s ∧ ρ s ≤ hi) : zE_ok τ (zE_set E s lo hi) ρ := by
  unfold zE_set
  split
  · rename_i c hc
    have hs := iv_nth_lt hc
    obtain ⟨g1, g2⟩ := h1 hs
    obtain ⟨k1, k2, k3⟩ := h s c hc
    intro s2 c2 hc2
    rw [iv_nth_set] at hc2
    split at hc2
    · rename_i hh
      obtain ⟨rfl, _⟩ := hh
      cases hc2
      refine ⟨?_, ?_, k3⟩
      · dsimp only
        cases zle lo c.2.1
        · exact g1
        · exact k1
      · dsimp only
        cases zle c.2.2 hi
        · exact g2
        · exact k2
    · exact h s2 c2 hc2
  · exact h
/-- bounds of each symbol of l out of 'c + l ≤ 0': t is the least of c + l -/
def zpr (c0 : Int) (l0 : zl) : zl → List zc → List zc
  | [], E => E
  | q :: r, E => zpr c0 l0 r ((fun rest => bif zle 1 q.2 then zE_set E q.1 (zE_lo E q.1) ((-rest) / q.2)
      else bif zle q.2 (-1) then zE_set E q.1 (-((-rest) / (-q.2))) (zE_hi E q.1) else E) (- zl_hi E (zl_ng (zl_ad q.1 (-q.2) l0)) + c0))
theorem zpr_len (c0 : Int) (l0 : zl) : ∀ (l : zl) (E : List zc), (zpr c0 l0 l E).length = E.length
  | [], E => rfl
  | q :: r, E => by
    unfold zpr
    rw [zpr_len c0 l0 r]
    dsimp only
    cases zle 1 q.2
    · cases zle q.2 (-1)
      · rfl
      · exact zE_set_len _ _ _ _
    · exact zE_set_len _ _ _ _
theorem zpr_ok {τ : Nat → Nat} {ρ : Nat → Int} {c0 : Int} {l0 : zl} (hf : c0 + zl_ev ρ l0 ≤ 0) : ∀ {l : zl} {E : List zc}, zE_ok τ E ρ → zl_wf E.length l0 = true → zl_wf E.length l = true → zE_ok τ (zpr c0 l0 l E) ρ
  | [], E, h, _, _ => h
  | q :: r, E, h, hw0, hw => by
    rw [zl_wf_c] at hw
    unfold zpr
    have hb := zl_hi_ok h (l := zl_ng (zl_ad q.1 (-q.2) l0)) (zl_ng_wf (zl_ad_wf hw.1 hw0))
    rw [zl_ng_ev, zl_ad_ev] at hb
    obtain ⟨hlo, hhi⟩ := zE_bd h hw.1
    generalize hT : - zl_hi E (zl_ng (zl_ad q.1 (-q.2) l0)) + c0 = rest
    have hkey : q.2 * ρ q.1 ≤ -rest := by
      rw [Int.neg_mul] at hb
      omega
    dsimp only
    have hgo : ∀ E2 : List zc, E2.length = E.length → zE_ok τ E2 ρ → zE_ok τ (zpr c0 l0 r E2) ρ := fun E2 hl h2 => zpr_ok hf h2 (by rw [hl]; exact hw0) (by rw [hl]; exact hw.2)
    cases hz : zle 1 q.2
    · cases hz2 : zle q.2 (-1)
      · exact hgo E rfl h
      · have hn := zle_iff.mp hz2
        refine hgo _ (zE_set_len _ _ _ _) (zE_set_ok h fun _ => ⟨?_, hhi⟩)
        have h3 : (-rest) / (-q.2) ≥ - ρ q.1 := by
          apply (Int.le_ediv_iff_mul_le (by omega)).mpr
          have : - ρ q.1 * -q.2 = q.2 * ρ q.1 := by rw [Int.neg_mul_neg, Int.mul_comm]
          omega
        omega
    · have hn := zle_iff.mp hz
      refine hgo _ (zE_set_len _ _ _ _) (zE_set_ok h fun _ => ⟨hlo, ?_⟩)
      apply (Int.le_ediv_iff_mul_le (by omega)).mpr
      rw [Int.mul_comm]
      exact hkey
/-- can a symbol of l be nothing any more? -/
def zdead (E : List zc) : zl → Bool
  | [] => false
  | q :: r => bif zle (zE_lo E q.1) (zE_hi E q.1) then zdead E r else true
theorem zdead_no {τ : Nat → Nat} {E : List zc} {ρ : Nat → Int} (h : zE_ok τ E ρ) : ∀ {l : zl}, zl_wf E.length l = true → zdead E l = false
  | [], _ => rfl
  | q :: r, hw => by
    rw [zl_wf_c] at hw
    obtain ⟨h1, h2⟩ := zE_bd h hw.1
    unfold zdead
    rw [zle_iff.mpr (show zE_lo E q.1 ≤ zE_hi E q.1 by omega)]
    exact zdead_no h hw.2
