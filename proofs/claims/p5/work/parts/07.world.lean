/-! ===== the abstract machine's cells in the heap ===== -/
theorem iv_fp_eq {β : Type} (n : Nat) (k : Nat → β) : iv_fp n k = k n := by cases n <;> rfl
theorem iv_f1_in {α : Type} : ∀ (l : List (Nat × α)) (i : Nat) (v : α), iv_f1 l i = some v → (i, v) ∈ l
  | [], _, _, h => by cases h
  | q :: r, i, v, h => by
    unfold iv_f1 at h
    cases hb : Nat.beq q.1 i
    · rw [hb] at h
      exact List.mem_cons_of_mem _ (iv_f1_in r i v h)
    · rw [hb] at h
      have e1 : q.1 = i := Nat.eq_of_beq_eq_true hb
      have e2 : q.2 = v := Option.some.inj h
      subst e1; subst e2
      exact List.mem_cons_self
theorem iv_f1_map {α β : Type} (f : α → β) : ∀ (l : List (Nat × α)) (i : Nat), iv_f1 (l.map fun q => (q.1, f q.2)) i = (iv_f1 l i).map f
  | [], _ => rfl
  | q :: r, i => by
    simp only [List.map_cons, iv_f1]
    cases hb : Nat.beq q.1 i
    · exact iv_f1_map f r i
    · rfl
theorem iv_nth_eq {α : Type} : ∀ (l : List α) (n : Nat), iv_nth l n = l[n]?
  | [], n => by simp [iv_nth]
  | x :: r, 0 => by simp [iv_nth]
  | x :: r, n + 1 => by simp [iv_nth, iv_nth_eq r n]
theorem iv_tgt_ok {pc t : Nat} {off : Int} (h : iv_tgt pc off = some t) : (pc : Int) + off = (t : Int) := by
  unfold iv_tgt at h
  cases hq : Int.ofNat pc + off with
  | ofNat n =>
    rw [hq] at h
    have e : n = t := Option.some.inj h
    subst e
    rfl
  | negSucc n => rw [hq] at h; cases h
def iv_v (ad : Nat → Nat) : Value → Value
  | .ref a => .ref (ad a)
  | .int x => .int x
  | .long x => .long x
  | .float x => .float x
  | .double x => .double x
  | .null => .null
  | .retAddr x => .retAddr x
theorem iv_v_cat (ad : Nat → Nat) (v : Value) : (iv_v ad v).category = v.category := by cases v <;> rfl
def iv_a (ad : Nat → Nat) (a : vp_A) : vp_A := (a.1, match a.2 with
  | .inl f => .inl f
  | .inr (.inl f) => .inr (.inl f)
  | .inr (.inr (.inl f)) => .inr (.inr (.inl f))
  | .inr (.inr (.inr (.inl f))) => .inr (.inr (.inr (.inl f)))
  | .inr (.inr (.inr (.inr f))) => .inr (.inr (.inr (.inr (fun i => (f i).map ad)))))
def iv_e (ad cy : Nat → Nat) : iv_E → va_E
  | .inl x => .inl (cy x.1, iv_a ad x.2)
  | .inr x => .inr (x.1, x.2.map (iv_v ad))
def iv_W (ad cy : Nat → Nat) (σ : iv_H) : va_W := (List.range σ.1).map fun k => (ad (2 * k), iv_e ad cy (σ.2.1 k))
abbrev iv_sm (ad : Nat → Nat) (st : List Value) : List Value := st.map (iv_v ad)
abbrev iv_ml (ad : Nat → Nat) (lv : iv_L) : iv_L := lv.map fun q => (q.1, iv_v ad q.2)
theorem iv_cs_eq (ad : Nat → Nat) : ∀ st : List Value, ((iv_sm ad st).map fun v => v.category).sum = iv_cs st
  | [] => rfl
  | v :: r => by
    have h := iv_cs_eq ad r
    simp only [List.map_cons, List.sum_cons, iv_cs, iv_v_cat] at h ⊢
    rw [h]
theorem iv_get_ok {σ : iv_H} {a : Nat} {e : iv_E} (h : iv_get σ a = some e) : ∃ k, a = 2 * k ∧ k < σ.1 ∧ σ.2.1 k = e := by
  unfold iv_get at h
  rw [iv_fp_eq] at h
  cases h1 : Nat.beq (a % 2) 0
  · rw [h1] at h; cases h
  · rw [h1] at h
    have e1 : a % 2 = 0 := Nat.eq_of_beq_eq_true h1
    cases h2 : Nat.blt (a / 2) σ.1
    · rw [h2] at h; cases h
    · rw [h2] at h
      have e2 : a / 2 < σ.1 := by rw [Nat.blt_eq] at h2; exact h2
      exact ⟨a / 2, by omega, e2, Option.some.inj h⟩
theorem iv_put_eq {σ : iv_H} {k : Nat} {e : iv_E} : iv_put σ (2 * k) e = (σ.1, iv_up σ.2.1 k e, σ.2.2) := by
  unfold iv_put
  rw [iv_fp_eq, show 2 * k / 2 = k by omega]
theorem iv_psh_eq {σ : iv_H} {e : iv_E} {n : Nat} : iv_psh σ e n = (σ.1 + 1, iv_up σ.2.1 σ.1 e, σ.2.2 + n) := by
  unfold iv_psh
  rw [iv_fp_eq]
theorem iv_up_s {f : Nat → iv_E} {k : Nat} {e : iv_E} : iv_up f k e k = e := by
  unfold iv_up
  rw [Nat.beq_refl]
  rfl
theorem iv_up_n {f : Nat → iv_E} {k j : Nat} {e : iv_E} (h : j ≠ k) : iv_up f k e j = f j := by
  unfold iv_up
  rw [show Nat.beq j k = false from by cases hb : Nat.beq j k; rfl; exact absurd (Nat.eq_of_beq_eq_true hb) h]
  rfl
section IVW
variable {ad cy : Nat → Nat} {σ : iv_H} {base : Nat}
theorem iv_W_at {k : Nat} (h : k < σ.1) : (iv_W ad cy σ)[k]? = some (ad (2 * k), iv_e ad cy (σ.2.1 k)) := by simp [iv_W, h]
theorem iv_W_of {k : Nat} {q : Nat × va_E} (h : (iv_W ad cy σ)[k]? = some q) : k < σ.1 ∧ q = (ad (2 * k), iv_e ad cy (σ.2.1 k)) := by
  have hl := (List.getElem?_eq_some_iff.mp h).1
  have hk : k < σ.1 := by simpa [iv_W] using hl
  rw [iv_W_at hk] at h
  exact ⟨hk, (Option.some.inj h).symm⟩
theorem iv_W_put {k n : Nat} {e : iv_E} (h : k < σ.1) : (iv_W ad cy σ).set k (ad (2 * k), iv_e ad cy e) = iv_W ad cy (σ.1, iv_up σ.2.1 k e, n) := by
  apply List.ext_getElem?
  intro j
  by_cases hj : j = k
  · subst hj
    rw [List.getElem?_set_self (by simpa [iv_W] using h), iv_W_at (σ := (σ.1, iv_up σ.2.1 j e, n)) h]
    show _ = some (ad (2 * j), iv_e ad cy (iv_up σ.2.1 j e j))
    rw [iv_up_s]
  · rw [List.getElem?_set_ne (Ne.symm hj)]
    by_cases hl : j < σ.1
    · rw [iv_W_at hl, iv_W_at (σ := (σ.1, iv_up σ.2.1 k e, n)) hl]
      show _ = some (ad (2 * j), iv_e ad cy (iv_up σ.2.1 k e j))
      rw [iv_up_n hj]
    · rw [List.getElem?_eq_none (by simpa [iv_W] using Nat.le_of_not_lt hl), List.getElem?_eq_none (by simpa [iv_W] using Nat.le_of_not_lt hl)]
theorem iv_W_psh {n : Nat} {e : iv_E} : iv_W ad cy σ ++ [(ad (2 * σ.1), iv_e ad cy e)] = iv_W ad cy (σ.1 + 1, iv_up σ.2.1 σ.1 e, n) := by
  unfold iv_W
  rw [List.range_succ, List.map_append]
  congr 1
  · apply List.map_congr_left
    intro k hk
    have hk := List.mem_range.mp hk
    show _ = (ad (2 * k), iv_e ad cy (iv_up σ.2.1 σ.1 e k))
    rw [iv_up_n (by omega)]
  · show _ = [(ad (2 * σ.1), iv_e ad cy (iv_up σ.2.1 σ.1 e σ.1))]
    rw [iv_up_s]
def iv_A (base : Nat) : Nat → Prop := fun q => base ≤ q
theorem iv_D (had : ∀ k, ad (2 * k) = base + k) : va_D (iv_A base) (iv_W ad cy σ) := by
  refine ⟨fun i j x y hx hy hxy => ?_, fun k q hk => ?_⟩
  · obtain ⟨-, rfl⟩ := iv_W_of hx
    obtain ⟨-, rfl⟩ := iv_W_of hy
    have h : ad (2 * i) = ad (2 * j) := hxy
    rw [had, had] at h
    omega
  · obtain ⟨-, rfl⟩ := iv_W_of hk
    show base ≤ ad (2 * k)
    rw [had]
    omega
end IVW
/-! locals -/
theorem iv_lv {ad : Nat → Nat} {ls : Array Slot} {nL k : Nat} {lv : iv_L} {v : Value} (h : lv_has ls nL (iv_ml ad lv)) (hk : iv_f1 lv k = some v) : ls[k]? = some (.val (iv_v ad v)) :=
  h.2.2 (k, iv_v ad v) (List.mem_map.mpr ⟨(k, v), iv_f1_in _ _ _ hk, rfl⟩)
theorem iv_lv_idx {ad : Nat → Nat} {k : Nat} {lv : iv_L} {v : Value} (hk : iv_f1 lv k = some v) : ∃ j : Nat, (iv_ml ad lv)[j]? = some (k, iv_v ad v) :=
  List.getElem?_of_mem (List.mem_map.mpr ⟨(k, v), iv_f1_in _ _ _ hk, rfl⟩)
theorem iv_lv_mono {ls : Array Slot} {nL : Nat} {l l' : iv_L} (h : lv_has ls nL l) (hs : ∀ q ∈ l', q ∈ l) : lv_has ls nL l' := ⟨h.1, h.2.1, fun q hq => h.2.2 q (hs q hq)⟩
theorem iv_d1_in {i : Nat} : ∀ (lv : iv_L) (q : Nat × Value), q ∈ iv_d1 i lv → q ∈ lv ∧ (!(q.1 == i) && !(q.1 + 1 == i && q.2.category == 2)) = true
  | [], _, h => by cases h
  | x :: r, q, h => by
    unfold iv_d1 at h
    cases hb : (Nat.beq x.1 i || (Nat.beq (x.1 + 1) i && Nat.beq x.2.category 2))
    · rw [hb] at h
      rcases List.mem_cons.mp h with rfl | h
      · refine ⟨List.mem_cons_self, ?_⟩
        rw [Bool.or_eq_false_iff, Bool.and_eq_false_iff] at hb
        have e1 : ¬ q.1 = i := fun z => by rw [z, Nat.beq_refl] at hb; cases hb.1
        have e2 : ¬ (q.1 + 1 = i ∧ q.2.category = 2) := fun z => by
          rw [z.1, z.2, Nat.beq_refl] at hb
          rcases hb.2 with w | w <;> cases w
        by_cases e3 : q.1 + 1 = i
        · have e4 : ¬ q.2.category = 2 := fun z => e2 ⟨e3, z⟩
          simp [e1, e4]
        · simp [e1, e3]
      · have := iv_d1_in r q h
        exact ⟨List.mem_cons_of_mem _ this.1, this.2⟩
    · rw [hb] at h
      have := iv_d1_in r q h
      exact ⟨List.mem_cons_of_mem _ this.1, this.2⟩
theorem iv_d2_in {i : Nat} : ∀ (lv : iv_L) (q : Nat × Value), q ∈ iv_d2 i lv → q ∈ lv ∧ (!(q.1 == i) && (!(q.1 == i + 1) && !(q.1 + 1 == i && q.2.category == 2))) = true
  | [], _, h => by cases h
  | x :: r, q, h => by
    unfold iv_d2 at h
    cases hb : (Nat.beq x.1 i || (Nat.beq x.1 (i + 1) || (Nat.beq (x.1 + 1) i && Nat.beq x.2.category 2)))
    · rw [hb] at h
      rcases List.mem_cons.mp h with rfl | h
      · refine ⟨List.mem_cons_self, ?_⟩
        rw [Bool.or_eq_false_iff, Bool.or_eq_false_iff, Bool.and_eq_false_iff] at hb
        have e1 : ¬ q.1 = i := fun z => by rw [z, Nat.beq_refl] at hb; cases hb.1
        have e0 : ¬ q.1 = i + 1 := fun z => by rw [z, Nat.beq_refl] at hb; cases hb.2.1
        have e2 : ¬ (q.1 + 1 = i ∧ q.2.category = 2) := fun z => by
          rw [z.1, z.2, Nat.beq_refl] at hb
          rcases hb.2.2 with w | w <;> cases w
        by_cases e3 : q.1 + 1 = i
        · have e4 : ¬ q.2.category = 2 := fun z => e2 ⟨e3, z⟩
          simp [e1, e0, e4]
        · simp [e1, e0, e3]
      · have := iv_d2_in r q h
        exact ⟨List.mem_cons_of_mem _ this.1, this.2⟩
    · rw [hb] at h
      have := iv_d2_in r q h
      exact ⟨List.mem_cons_of_mem _ this.1, this.2⟩
theorem iv_lv1 {ad : Nat → Nat} {ls : Array Slot} {nL i : Nat} {lv : iv_L} {v : Value} (h : lv_has ls nL ((i, iv_v ad v) :: (iv_ml ad lv).filter (fun q => !(q.1 == i) && !(q.1 + 1 == i && q.2.category == 2)))) : lv_has ls nL (iv_ml ad ((i, v) :: iv_d1 i lv)) := by
  refine iv_lv_mono h fun q hq => ?_
  rcases List.mem_map.mp hq with ⟨x, hx, rfl⟩
  rcases List.mem_cons.mp hx with rfl | hx
  · exact List.mem_cons_self
  · obtain ⟨h1, h2⟩ := iv_d1_in _ _ hx
    refine List.mem_cons_of_mem _ (List.mem_filter.mpr ⟨List.mem_map.mpr ⟨x, h1, rfl⟩, ?_⟩)
    show (!(x.1 == i) && !(x.1 + 1 == i && (iv_v ad x.2).category == 2)) = true
    rw [iv_v_cat]
    exact h2
theorem iv_lv2 {ad : Nat → Nat} {ls : Array Slot} {nL i : Nat} {lv : iv_L} {v : Value} (h : lv_has ls nL ((i, iv_v ad v) :: (iv_ml ad lv).filter (fun q => !(q.1 == i) && (!(q.1 == i + 1) && !(q.1 + 1 == i && q.2.category == 2))))) : lv_has ls nL (iv_ml ad ((i, v) :: iv_d2 i lv)) := by
  refine iv_lv_mono h fun q hq => ?_
  rcases List.mem_map.mp hq with ⟨x, hx, rfl⟩
  rcases List.mem_cons.mp hx with rfl | hx
  · exact List.mem_cons_self
  · obtain ⟨h1, h2⟩ := iv_d2_in _ _ hx
    refine List.mem_cons_of_mem _ (List.mem_filter.mpr ⟨List.mem_map.mpr ⟨x, h1, rfl⟩, ?_⟩)
    show (!(x.1 == i) && (!(x.1 == i + 1) && !(x.1 + 1 == i && (iv_v ad x.2).category == 2))) = true
    rw [iv_v_cat]
    exact h2
theorem iv_largs (ad : Nat → Nat) : ∀ (i : Nat) (vs : List Value), lv_args i (iv_sm ad vs) = iv_ml ad (lv_args i vs)
  | _, [] => rfl
  | i, v :: vs => by
    simp only [List.map_cons, lv_args, iv_v_cat]
    rw [iv_largs ad _ vs]
theorem iv_in_ok {i : Int32} {n : Nat} (h : iv_in i n = true) : vp_in i n := by
  unfold iv_in at h
  by_cases h0 : i < 0
  · rw [decide_eq_true h0] at h; cases h
  · rw [decide_eq_false h0] at h
    have h1 : Nat.blt i.toNatClampNeg n = true := h
    rw [Nat.blt_eq] at h1
    intro z
    rcases z with z | z
    · exact h0 z
    · omega
