/-! ===== operations of the machine on states of the checker ===== -/
/-- what may change: (0, a class, a field) or (1, the type of an array, 0) -/
abbrev zm : Type := List (Nat × Nat × Nat)
def zmem (q : Nat × Nat × Nat) : zm → Bool
  | [] => false
  | p :: r => bif Nat.beq p.1 q.1 && (Nat.beq p.2.1 q.2.1 && Nat.beq p.2.2 q.2.2) then true else zmem q r
/-- is an array of type t among them; which of its places (1, t, lo * 100000 + hi): from lo on, below hi; (1, t, 0): all -/
def zmt (t : Nat) : zm → Bool
  | [] => false
  | p :: r => bif Nat.beq p.1 1 && Nat.beq p.2.1 t then true else zmt t r
def zmb (t : Nat) : zm → Nat
  | [] => 0
  | p :: r => bif Nat.beq p.1 1 && Nat.beq p.2.1 t then (bif Nat.ble (p.2.2 % 100000) (zmb t r) then zmb t r else p.2.2 % 100000) else zmb t r
def zml (t : Nat) : zm → Nat
  | [] => 1000000000
  | p :: r => bif Nat.beq p.1 1 && Nat.beq p.2.1 t then (bif Nat.ble (p.2.2 / 100000) (zml t r) then p.2.2 / 100000 else zml t r) else zml t r
def zsub_m (ms ms' : zm) : Prop := ∀ q, zmem q ms = true → zmem q ms' = true
theorem zble_f {a b : Nat} (h : Nat.ble a b = false) : b < a := by
  rcases Nat.lt_or_ge b a with g | g
  · exact g
  · rw [Nat.ble_eq.mpr g] at h; cases h
theorem zmt_of {t b : Nat} : ∀ {ms : zm}, zmem (1, t, b) ms = true → zmt t ms = true ∧ b % 100000 ≤ zmb t ms ∧ zml t ms ≤ b / 100000
  | [], h => by cases h
  | p :: r, h => by
    unfold zmem at h
    unfold zmt zmb zml
    cases hy : Nat.beq p.1 1 && Nat.beq p.2.1 t
    · have hz : (Nat.beq p.1 1 && (Nat.beq p.2.1 t && Nat.beq p.2.2 b)) = false := by
        cases h1 : Nat.beq p.1 1
        · rfl
        · rw [h1] at hy
          have h2 : Nat.beq p.2.1 t = false := hy
          rw [h2]
          rfl
      rw [hz] at h
      exact zmt_of h
    · simp only [cond_true]
      refine ⟨trivial, ?_, ?_⟩
      · cases hz : Nat.beq p.1 1 && (Nat.beq p.2.1 t && Nat.beq p.2.2 b)
        · rw [hz] at h
          obtain ⟨_, h2, _⟩ := zmt_of h
          cases hx : Nat.ble (p.2.2 % 100000) (zmb t r)
          · have := zble_f hx; show _ ≤ p.2.2 % 100000; omega
          · exact h2
        · rw [Bool.and_eq_true, Bool.and_eq_true] at hz
          have e := Nat.eq_of_beq_eq_true hz.2.2
          cases hx : Nat.ble (p.2.2 % 100000) (zmb t r)
          · show _ ≤ p.2.2 % 100000; rw [e]; exact Nat.le_refl _
          · have := Nat.le_of_ble_eq_true hx; show _ ≤ zmb t r; rw [← e]; exact this
      · cases hz : Nat.beq p.1 1 && (Nat.beq p.2.1 t && Nat.beq p.2.2 b)
        · rw [hz] at h
          obtain ⟨_, _, h3⟩ := zmt_of h
          cases hx : Nat.ble (p.2.2 / 100000) (zml t r)
          · exact h3
          · have := Nat.le_of_ble_eq_true hx; show p.2.2 / 100000 ≤ _; omega
        · rw [Bool.and_eq_true, Bool.and_eq_true] at hz
          have e := Nat.eq_of_beq_eq_true hz.2.2
          cases hx : Nat.ble (p.2.2 / 100000) (zml t r)
          · have := zble_f hx; show zml t r ≤ _; rw [← e]; omega
          · show p.2.2 / 100000 ≤ _; rw [e]; exact Nat.le_refl _
theorem zmem_c {q p : Nat × Nat × Nat} {r : zm} (h : zmem q r = true) : zmem q (p :: r) = true := by
  unfold zmem
  rw [h]
  cases Nat.beq p.1 q.1 && (Nat.beq p.2.1 q.2.1 && Nat.beq p.2.2 q.2.2) <;> rfl
theorem zmem_h {t : Nat} {p : Nat × Nat × Nat} {r : zm} (h : (Nat.beq p.1 1 && Nat.beq p.2.1 t) = true) : zmem (1, t, p.2.2) (p :: r) = true := by
  rw [Bool.and_eq_true] at h
  unfold zmem
  rw [h.1, h.2, Nat.beq_refl]
  rfl
theorem zmt_ex {t : Nat} : ∀ {ms : zm}, (zmt t ms = true → ∃ b, zmem (1, t, b) ms = true) ∧ (zmb t ms = 0 ∨ ∃ b, zmem (1, t, b) ms = true ∧ zmb t ms = b % 100000) ∧ (zml t ms = 1000000000 ∨ ∃ b, zmem (1, t, b) ms = true ∧ zml t ms = b / 100000)
  | [] => ⟨fun h => (by cases h), .inl rfl, .inl rfl⟩
  | p :: r => by
    obtain ⟨h1, h2, h3⟩ := zmt_ex (t := t) (ms := r)
    unfold zmt zmb zml
    cases hy : Nat.beq p.1 1 && Nat.beq p.2.1 t
    · simp only [cond_false]
      refine ⟨fun h => ?_, ?_, ?_⟩
      · obtain ⟨b, hb⟩ := h1 h; exact ⟨b, zmem_c hb⟩
      · rcases h2 with h2 | ⟨b, hb, e⟩
        · exact .inl h2
        · exact .inr ⟨b, zmem_c hb, e⟩
      · rcases h3 with h3 | ⟨b, hb, e⟩
        · exact .inl h3
        · exact .inr ⟨b, zmem_c hb, e⟩
    · simp only [cond_true]
      refine ⟨fun _ => ⟨p.2.2, zmem_h hy⟩, ?_, ?_⟩
      · cases hx : Nat.ble (p.2.2 % 100000) (zmb t r)
        · exact .inr ⟨p.2.2, zmem_h hy, rfl⟩
        · rcases h2 with h2 | ⟨b, hb, e⟩
          · exact .inl h2
          · exact .inr ⟨b, zmem_c hb, e⟩
      · cases hx : Nat.ble (p.2.2 / 100000) (zml t r)
        · rcases h3 with h3 | ⟨b, hb, e⟩
          · exact .inl h3
          · exact .inr ⟨b, zmem_c hb, e⟩
        · exact .inr ⟨p.2.2, zmem_h hy, rfl⟩
theorem zml_top {t : Nat} : ∀ {ms : zm}, zml t ms ≤ 1000000000
  | [] => Nat.le_refl _
  | p :: r => by
    have h := zml_top (t := t) (ms := r)
    unfold zml
    cases Nat.beq p.1 1 && Nat.beq p.2.1 t
    · exact h
    · simp only [cond_true]
      cases hx : Nat.ble (p.2.2 / 100000) (zml t r)
      · exact h
      · have := Nat.le_of_ble_eq_true hx; show p.2.2 / 100000 ≤ _; omega
theorem zmt_sub {t : Nat} {ms ms' : zm} (hs : zsub_m ms ms') : (zmt t ms' = false → zmt t ms = false) ∧ zmb t ms ≤ zmb t ms' ∧ zml t ms' ≤ zml t ms := by
  obtain ⟨h1, h2, h3⟩ := zmt_ex (t := t) (ms := ms)
  refine ⟨fun h => ?_, ?_, ?_⟩
  · cases hz : zmt t ms with
    | false => rfl
    | true =>
      obtain ⟨b, hb⟩ := h1 hz
      rw [(zmt_of (hs _ hb)).1] at h
      cases h
  · rcases h2 with h2 | ⟨b, hb, e⟩
    · rw [h2]; exact Nat.zero_le _
    · rw [e]; exact (zmt_of (hs _ hb)).2.1
  · rcases h3 with h3 | ⟨b, hb, e⟩
    · rw [h3]; exact zml_top
    · rw [e]; exact (zmt_of (hs _ hb)).2.2
def zFr (τ : Nat → Nat) (ms : zm) (σ σ' : iv_H) : Prop := (σ'.1 = σ.1 ∧ σ'.2.2 = σ.2.2) ∧ ∀ (a : Nat), (∀ (ci : Nat) (fs : List Value), iv_get σ a = some (.inr (ci, fs)) → ∃ fs' : List Value, iv_get σ' a = some (.inr (ci, fs')) ∧ ∀ j, zmem (0, ci, j) ms = false → iv_nth fs' j = iv_nth fs j) ∧ (∀ x, iv_get σ a = some (.inl x) → zmt (τ a) ms = false → iv_get σ' a = some (.inl x)) ∧ ∀ (tag len : Nat) (f : Nat → Int32), iv_get σ a = some (.inl (tag, len, .inl f)) → zmem (1, τ a, 0) ms = false → ∃ f' : Nat → Int32, iv_get σ' a = some (.inl (tag, len, .inl f')) ∧ ∀ i, (i < zml (τ a) ms ∨ zmb (τ a) ms ≤ i) → f' i = f i
theorem zFr_rf {τ : Nat → Nat} {ms : zm} {σ : iv_H} : zFr τ ms σ σ := ⟨⟨rfl, rfl⟩, fun a => ⟨fun ci fs h => ⟨fs, h, fun _ _ => rfl⟩, fun x h _ => h, fun tag len f h _ => ⟨f, h, fun _ _ => rfl⟩⟩⟩
theorem zFr_tr {τ : Nat → Nat} {ms ms' : zm} {σ σ1 σ2 : iv_H} (hs : zsub_m ms ms') (h : zFr τ ms σ σ1) (h2 : zFr τ ms' σ1 σ2) : zFr τ ms' σ σ2 := by
  have hn : ∀ q, zmem q ms' = false → zmem q ms = false := fun q hq => by
    cases hz : zmem q ms with
    | false => rfl
    | true => rw [hs q hz] at hq; cases hq
  refine ⟨⟨h2.1.1.trans h.1.1, h2.1.2.trans h.1.2⟩, fun a => ⟨fun ci fs hg => ?_, fun x hg hm => ?_, fun tag len f hg hm => ?_⟩⟩
  · obtain ⟨fs1, g1, g2⟩ := (h.2 a).1 ci fs hg
    obtain ⟨fs2, g3, g4⟩ := (h2.2 a).1 ci fs1 g1
    exact ⟨fs2, g3, fun j hj => (g4 j hj).trans (g2 j (hn _ hj))⟩
  · exact (h2.2 a).2.1 x ((h.2 a).2.1 x hg ((zmt_sub hs).1 hm)) hm
  · obtain ⟨f1, g1, g2⟩ := (h.2 a).2.2 tag len f hg (hn _ hm)
    obtain ⟨f2, g3, g4⟩ := (h2.2 a).2.2 tag len f1 g1 hm
    exact ⟨f2, g3, fun i hi => (g4 i hi).trans (g2 i (hi.imp (fun q => Nat.lt_of_lt_of_le q (zmt_sub hs).2.2) (fun q => Nat.le_trans (zmt_sub hs).2.1 q)))⟩
abbrev zO : Type := Option (List (Nat × zA))
/-- a step of the machine is met by one of the states -/
def zQ (τ : Nat → Nat) (ty : Nat → Option zt) (ms : zm) (ρ : Nat → Int) (n : Nat) (σ : iv_H) (outs : List (Nat × zA)) (X : iv_X) : Prop := ∃ (pc' : Nat) (clv' : iv_L) (cst' : List Value) (σ' : iv_H) (A' : zA) (ρ' : Nat → Int), X = some (pc', clv', cst', σ') ∧ (pc', A') ∈ outs ∧ zA_ok τ ty ρ' A' clv' cst' σ' ∧ zI τ ty σ' ∧ zag n ρ ρ' ∧ n ≤ A'.1.1.length ∧ zFr τ ms σ σ'
/-- an operation and its picture -/
def zS (τ : Nat → Nat) (ty : Nat → Option zt) (ms : zm) (f : iv_F) (g : Nat → zA → zO) : Prop := ∀ (ρ : Nat → Int) (A : zA) (clv : iv_L) (cst : List Value) (σ : iv_H) (L : Nat) (xs : Nat → Int32) (pc : Nat) (outs : List (Nat × zA)), g pc A = some outs → zA_ok τ ty ρ A clv cst σ → zI τ ty σ → zQ τ ty ms ρ A.1.1.length σ outs (f L xs pc clv cst σ)
/-- kinds of values out of kinds of bounds -/
def zk (k : Nat) : Nat := match k with
  | 0 => 0
  | 1 => 1
  | _ => 2
/-- the answer on the stack -/
def zpu (A : zA) (st : List zv) : zr → zA
  | .inl v => (A.1, A.2.1, v :: st, A.2.2.2)
  | .inr (c, ds) => (fun n => ((A.1.1 ++ [c], A.1.2.1, ds n ++ A.1.2.2), A.2.1, (zk c.1, 0, [(n, 1)]) :: st, A.2.2.2)) A.1.1.length
def zdk (k : Nat) (y : Int) (x : Value) : Prop := match k with
  | 0 => ∃ z : Int32, x = .int z ∧ z.toInt = y
  | 1 => ∃ z : Int64, x = .long z ∧ z.toInt = y
  | _ => ∃ a : Nat, x = .ref a ∧ (a : Int) = y
theorem zdn_of {ρ : Nat → Int} {v : zv} {x : Value} {k : Nat} {y : Int} (h : zdk (zk k) y x) (hk : v.1 = zk k) (hy : zv_ev ρ v = y) : zdn ρ v x := by
  unfold zdn
  rw [hk, hy]
  rcases k with _ | _ | k
  · exact h
  · exact h
  · exact h
theorem zev1 {ρ : Nat → Int} {n : Nat} {k : Nat} : zv_ev ρ (k, 0, [(n, 1)]) = ρ n := by
  show 0 + (1 * ρ n + 0) = ρ n
  omega
section ZOP
variable {τ : Nat → Nat} {ty : Nat → Option zt} {ρ : Nat → Int} {A : zA} {clv : iv_L} {cst : List Value} {σ : iv_H}
/-- the stack apart -/
theorem zA_st (h : zA_ok τ ty ρ A clv cst σ) {st : List zv} {cst' : List Value} (hs : zst_ok ρ A.1.1.length st cst') : zA_ok τ ty ρ (A.1, A.2.1, st, A.2.2.2) clv cst' σ := ⟨h.1, h.2.1, hs, h.2.2.2⟩
theorem zst_c {n : Nat} {v : zv} {r : List zv} {c : List Value} (h : zst_ok ρ n (v :: r) c) : ∃ x c', c = x :: c' ∧ zok ρ n v x ∧ zst_ok ρ n r c' := by
  cases c with
  | nil => exact h.elim
  | cons x c' => exact ⟨x, c', rfl, h.1, h.2⟩
theorem zpu_ok (h : zA_ok τ ty ρ A clv cst σ) {st : List zv} {cst' : List Value} (hs : zst_ok ρ A.1.1.length st cst') {k : Nat} {y : Int} {x : Value} {r : zr} (hr : zr_ok τ ty ρ A.1 k y r) (hk : k < 2) (hx : zdk k y x) : ∃ ρ', zA_ok τ ty ρ' (zpu A st r) clv (x :: cst') σ ∧ zag A.1.1.length ρ ρ' ∧ A.1.1.length ≤ (zpu A st r).1.1.length := by
  have hkk : zk k = k := by
    rcases k with _ | _ | k
    · rfl
    · rfl
    · omega
  cases r with
  | inl v =>
    obtain ⟨h1, h2, h3⟩ := hr
    refine ⟨ρ, zA_st (A := A) h (st := v :: st) (cst' := x :: cst') ⟨⟨h2, zdn_of (k := k) (by rw [hkk]; exact hx) (by rw [hkk]; exact h1) h3⟩, hs⟩, zag_rf, Nat.le_refl _⟩
  | inr q =>
    obtain ⟨c, ds⟩ := q
    obtain ⟨h1, h2, h3, h4⟩ := hr
    have h5 := zfr_ok (A := A) h (c := c) (x := y) (ds := ds A.1.1.length) ⟨h2, h3, fun h9 => by omega⟩ h4
    have hl : (zfr A c (ds A.1.1.length)).1.1.length = A.1.1.length + 1 := by simp [zfr]
    refine ⟨zup ρ A.1.1.length y, zA_st (A := zfr A c (ds A.1.1.length)) h5 (st := (zk c.1, 0, [(A.1.1.length, 1)]) :: st) (cst' := x :: cst') ⟨⟨?_, ?_⟩, ?_⟩, zup_ag, ?_⟩
    · rw [hl]; exact zl_wf_c.mpr ⟨Nat.lt_succ_self _, rfl⟩
    · refine zdn_of (k := k) (by rw [hkk]; exact hx) (by rw [h1]) ?_
      rw [zev1, zup_s]
    · exact zst_ag zup_ag (by rw [hl]; exact Nat.le_succ _) hs
    · show A.1.1.length ≤ (zfr A c (ds A.1.1.length)).1.1.length
      rw [hl]; exact Nat.le_succ _
/-- a step that leaves the cells: one state behind it -/
theorem zQ_one {ms : zm} {n pc' : Nat} {A' : zA} {ρ' : Nat → Int} {clv' : iv_L} {cst' : List Value} {X : iv_X} (hX : X = some (pc', clv', cst', σ)) (hA : zA_ok τ ty ρ' A' clv' cst' σ) (hI : zI τ ty σ) (ha : zag n ρ ρ') (hn : n ≤ A'.1.1.length) : zQ τ ty ms ρ n σ [(pc', A')] X := ⟨pc', clv', cst', σ, A', ρ', hX, List.mem_singleton.mpr rfl, hA, hI, ha, hn, zFr_rf⟩
end ZOP
/-! constants, locals -/
def zoK (v : Value) (len : Nat) : Nat → zA → zO := fun pc A => match v with
  | .int x => some [(pc + len, zpu A A.2.2.1 (.inl (0, x.toInt, [])))]
  | .long x => some [(pc + len, zpu A A.2.2.1 (.inl (1, x.toInt, [])))]
  | _ => none
theorem zev0 {ρ : Nat → Int} {k : Nat} {c : Int} : zv_ev ρ (k, c, []) = c := by
  show c + 0 = c
  omega
theorem zoK_ok {τ : Nat → Nat} {ty : Nat → Option zt} {ms : zm} (v : Value) (len : Nat) : zS τ ty ms (iv_oK v len) (zoK v len) := by
  intro ρ A clv cst σ L xs pc outs hg hA hI
  unfold zoK at hg
  split at hg
  · rename_i x
    cases hg
    obtain ⟨ρ', h1, h2, h3⟩ := zpu_ok hA hA.2.2.1 (k := 0) (y := x.toInt) (x := .int x) (r := .inl (0, x.toInt, [])) ⟨rfl, rfl, zev0⟩ (by decide) ⟨x, rfl, rfl⟩
    exact zQ_one rfl h1 hI h2 h3
  · rename_i x
    cases hg
    obtain ⟨ρ', h1, h2, h3⟩ := zpu_ok hA hA.2.2.1 (k := 1) (y := x.toInt) (x := .long x) (r := .inl (1, x.toInt, [])) ⟨rfl, rfl, zev0⟩ (by decide) ⟨x, rfl, rfl⟩
    exact zQ_one rfl h1 hI h2 h3
  · cases hg
/-- load a local of kind k -/
def zoL (k i len : Nat) : Nat → zA → zO := fun pc A => match iv_f1 A.2.1 i with
  | some v => bif Nat.beq v.1 k then some [(pc + len, (A.1, A.2.1, v :: A.2.2.1, A.2.2.2))] else none
  | none => none
theorem zlv_at {ρ : Nat → Int} {n : Nat} {lv : List (Nat × zv)} {clv : iv_L} {i : Nat} {v : zv} (h : zlv_ok ρ n lv clv) (hi : iv_f1 lv i = some v) : ∃ x, iv_f1 clv i = some x ∧ zok ρ n v x := h (i, v) (iv_f1_in _ _ _ hi)
theorem zoL_ok {τ : Nat → Nat} {ty : Nat → Option zt} {ms : zm} {k i len : Nat} {f : iv_F} (hf : ∀ (L : Nat) (xs : Nat → Int32) (pc : Nat) (lv : iv_L) (st : List Value) (σ : iv_H) (x : Value) (v : zv) (ρ : Nat → Int), iv_f1 lv i = some x → v.1 = k → zdn ρ v x → f L xs pc lv st σ = some (pc + len, lv, x :: st, σ)) : zS τ ty ms f (zoL k i len) := by
  intro ρ A clv cst σ L xs pc outs hg hA hI
  unfold zoL at hg
  split at hg
  · rename_i v hv
    cases hb : Nat.beq v.1 k
    · rw [hb] at hg; cases hg
    · rw [hb] at hg
      cases hg
      obtain ⟨x, hx, hk⟩ := zlv_at hA.2.1 hv
      exact zQ_one (hf L xs pc clv cst σ x v ρ hx (Nat.eq_of_beq_eq_true hb) hk.2) (zA_st hA (st := v :: A.2.2.1) (cst' := x :: cst) ⟨hk, hA.2.2.1⟩) hI zag_rf (Nat.le_refl _)
  · cases hg
theorem zdn0 {ρ : Nat → Int} {v : zv} {x : Value} (h : zdn ρ v x) (hk : v.1 = 0) : ∃ y : Int32, x = .int y ∧ y.toInt = zv_ev ρ v := by
  unfold zdn at h
  rw [hk] at h
  exact h
theorem zdn1 {ρ : Nat → Int} {v : zv} {x : Value} (h : zdn ρ v x) (hk : v.1 = 1) : ∃ y : Int64, x = .long y ∧ y.toInt = zv_ev ρ v := by
  unfold zdn at h
  rw [hk] at h
  exact h
theorem zdn2 {ρ : Nat → Int} {v : zv} {x : Value} (h : zdn ρ v x) (hk : v.1 = 2) : ∃ a : Nat, x = .ref a ∧ (a : Int) = zv_ev ρ v := by
  unfold zdn at h
  rw [hk] at h
  exact h
theorem zoI_ok {τ : Nat → Nat} {ty : Nat → Option zt} {ms : zm} (i len : Nat) : zS τ ty ms (iv_oI i len) (zoL 0 i len) := zoL_ok fun L xs pc lv st σ x v ρ hx hk hd => by
  obtain ⟨y, rfl, _⟩ := zdn0 hd hk
  unfold iv_oI
  rw [hx]
theorem zoJ_ok {τ : Nat → Nat} {ty : Nat → Option zt} {ms : zm} (i len : Nat) : zS τ ty ms (iv_oJ i len) (zoL 1 i len) := zoL_ok fun L xs pc lv st σ x v ρ hx hk hd => by
  obtain ⟨y, rfl, _⟩ := zdn1 hd hk
  unfold iv_oJ
  rw [hx]
theorem zoA_ok {τ : Nat → Nat} {ty : Nat → Option zt} {ms : zm} (i len : Nat) : zS τ ty ms (iv_oA i len) (zoL 2 i len) := zoL_ok fun L xs pc lv st σ x v ρ hx hk hd => by
  obtain ⟨y, rfl, _⟩ := zdn2 hd hk
  unfold iv_oA
  rw [hx]
/-- what is left of the locals behind a store -/
def zdl (a b : Nat) : List (Nat × zv) → List (Nat × zv)
  | [] => []
  | q :: r => bif (Nat.beq q.1 a || (Nat.beq q.1 b || (Nat.beq (q.1 + 1) a && Nat.beq q.2.1 1))) then zdl a b r else q :: zdl a b r
theorem zdl_in {a b : Nat} : ∀ {l : List (Nat × zv)} {q : Nat × zv}, q ∈ zdl a b l → q ∈ l ∧ q.1 ≠ a ∧ q.1 ≠ b ∧ (q.1 + 1 = a → q.2.1 ≠ 1)
  | [], q, h => by cases h
  | p :: r, q, h => by
    unfold zdl at h
    cases hz : (Nat.beq p.1 a || (Nat.beq p.1 b || (Nat.beq (p.1 + 1) a && Nat.beq p.2.1 1)))
    · rw [hz] at h
      rcases List.mem_cons.mp h with rfl | h
      · simp only [Bool.or_eq_false_iff, Bool.and_eq_false_iff] at hz
        refine ⟨List.mem_cons_self, fun e => ?_, fun e => ?_, fun e e2 => ?_⟩
        · rw [e, Nat.beq_refl] at hz; cases hz.1
        · rw [e, Nat.beq_refl] at hz; cases hz.2.1
        · rw [e, e2, Nat.beq_refl, Nat.beq_refl] at hz
          rcases hz.2.2 with g | g <;> cases g
      · obtain ⟨h1, h2⟩ := zdl_in h
        exact ⟨List.mem_cons_of_mem _ h1, h2⟩
    · rw [hz] at h
      obtain ⟨h1, h2⟩ := zdl_in h
      exact ⟨List.mem_cons_of_mem _ h1, h2⟩
theorem iv_f1_d1 {i j : Nat} {x : Value} : ∀ {lv : iv_L}, iv_f1 lv j = some x → j ≠ i → (j + 1 = i → x.category ≠ 2) → iv_f1 (iv_d1 i lv) j = some x
  | [], h, _, _ => by cases h
  | q :: r, h, h1, h2 => by
    unfold iv_f1 at h
    cases hb : Nat.beq q.1 j
    · rw [hb] at h
      have h3 := iv_f1_d1 (i := i) (lv := r) h h1 h2
      unfold iv_d1
      cases hz : (Nat.beq q.1 i || (Nat.beq (q.1 + 1) i && Nat.beq q.2.category 2))
      · show iv_f1 (q :: iv_d1 i r) j = some x
        unfold iv_f1
        rw [hb]
        exact h3
      · exact h3
    · rw [hb] at h
      have hq : q.2 = x := Option.some.inj h
      have hj := Nat.eq_of_beq_eq_true hb
      unfold iv_d1
      have hz : (Nat.beq q.1 i || (Nat.beq (q.1 + 1) i && Nat.beq q.2.category 2)) = false := by
        rw [Bool.or_eq_false_iff, Bool.and_eq_false_iff]
        refine ⟨?_, ?_⟩
        · cases hc : Nat.beq q.1 i with
          | false => rfl
          | true => exact absurd (hj.symm.trans (Nat.eq_of_beq_eq_true hc)) h1
        · rcases Nat.decEq (j + 1) i with g | g
          · left
            cases hc : Nat.beq (q.1 + 1) i with
            | false => rfl
            | true => exact absurd (by rw [← hj]; exact Nat.eq_of_beq_eq_true hc) g
          · right
            cases hc : Nat.beq q.2.category 2 with
            | false => rfl
            | true => exact absurd (by rw [← hq]; exact Nat.eq_of_beq_eq_true hc) (h2 g)
      rw [hz]
      show iv_f1 (q :: iv_d1 i r) j = some x
      unfold iv_f1
      rw [hb]
      exact h
theorem iv_f1_d2 {i j : Nat} {x : Value} : ∀ {lv : iv_L}, iv_f1 lv j = some x → j ≠ i → j ≠ i + 1 → (j + 1 = i → x.category ≠ 2) → iv_f1 (iv_d2 i lv) j = some x
  | [], h, _, _, _ => by cases h
  | q :: r, h, h1, h1', h2 => by
    unfold iv_f1 at h
    cases hb : Nat.beq q.1 j
    · rw [hb] at h
      have h3 := iv_f1_d2 (i := i) (lv := r) h h1 h1' h2
      unfold iv_d2
      cases hz : (Nat.beq q.1 i || (Nat.beq q.1 (i + 1) || (Nat.beq (q.1 + 1) i && Nat.beq q.2.category 2)))
      · show iv_f1 (q :: iv_d2 i r) j = some x
        unfold iv_f1
        rw [hb]
        exact h3
      · exact h3
    · rw [hb] at h
      have hq : q.2 = x := Option.some.inj h
      have hj := Nat.eq_of_beq_eq_true hb
      unfold iv_d2
      have hz : (Nat.beq q.1 i || (Nat.beq q.1 (i + 1) || (Nat.beq (q.1 + 1) i && Nat.beq q.2.category 2))) = false := by
        rw [Bool.or_eq_false_iff, Bool.or_eq_false_iff, Bool.and_eq_false_iff]
        refine ⟨?_, ?_, ?_⟩
        · cases hc : Nat.beq q.1 i with
          | false => rfl
          | true => exact absurd (hj.symm.trans (Nat.eq_of_beq_eq_true hc)) h1
        · cases hc : Nat.beq q.1 (i + 1) with
          | false => rfl
          | true => exact absurd (hj.symm.trans (Nat.eq_of_beq_eq_true hc)) h1'
        · rcases Nat.decEq (j + 1) i with g | g
          · left
            cases hc : Nat.beq (q.1 + 1) i with
            | false => rfl
            | true => exact absurd (by rw [← hj]; exact Nat.eq_of_beq_eq_true hc) g
          · right
            cases hc : Nat.beq q.2.category 2 with
            | false => rfl
            | true => exact absurd (by rw [← hq]; exact Nat.eq_of_beq_eq_true hc) (h2 g)
      rw [hz]
      show iv_f1 (q :: iv_d2 i r) j = some x
      unfold iv_f1
      rw [hb]
      exact h
theorem zdn_cat {ρ : Nat → Int} {v : zv} {x : Value} (h : zdn ρ v x) (hk : v.1 ≠ 1) : x.category ≠ 2 := by
  unfold zdn at h
  split at h
  · obtain ⟨y, rfl, _⟩ := h; exact (by decide : (1 : Nat) ≠ 2)
  · rename_i h1; exact absurd h1 hk
  · obtain ⟨y, rfl, _⟩ := h; exact (by decide : (1 : Nat) ≠ 2)
/-- store into a local of kind k; e: the local behind it that goes -/
def zoS (k i e len : Nat) : Nat → zA → zO := fun pc A => match A.2.2.1 with
  | v :: r => bif Nat.beq v.1 k then some [(pc + len, (A.1, (i, v) :: zdl i e A.2.1, r, A.2.2.2))] else none
  | [] => none
theorem zlv_st1 {ρ : Nat → Int} {n i e : Nat} {lv : List (Nat × zv)} {clv : iv_L} {v : zv} {x : Value} (h : zlv_ok ρ n lv clv) (hv : zok ρ n v x) : zlv_ok ρ n ((i, v) :: zdl i e lv) ((i, x) :: iv_d1 i clv) := by
  intro q hq
  rcases List.mem_cons.mp hq with rfl | hq
  · exact ⟨x, by show iv_f1 ((i, x) :: iv_d1 i clv) i = some x; unfold iv_f1; rw [Nat.beq_refl]; rfl, hv⟩
  · obtain ⟨h1, h2, h3, h4⟩ := zdl_in hq
    obtain ⟨y, hy, hk⟩ := h q h1
    refine ⟨y, ?_, hk⟩
    unfold iv_f1
    have hb : Nat.beq i q.1 = false := by
      cases hc : Nat.beq i q.1 with
      | false => rfl
      | true => exact absurd (Nat.eq_of_beq_eq_true hc).symm h2
    rw [hb]
    exact iv_f1_d1 hy h2 (fun g => zdn_cat hk.2 (h4 g))
theorem zlv_st2 {ρ : Nat → Int} {n i : Nat} {lv : List (Nat × zv)} {clv : iv_L} {v : zv} {x : Value} (h : zlv_ok ρ n lv clv) (hv : zok ρ n v x) : zlv_ok ρ n ((i, v) :: zdl i (i + 1) lv) ((i, x) :: iv_d2 i clv) := by
  intro q hq
  rcases List.mem_cons.mp hq with rfl | hq
  · exact ⟨x, by show iv_f1 ((i, x) :: iv_d2 i clv) i = some x; unfold iv_f1; rw [Nat.beq_refl]; rfl, hv⟩
  · obtain ⟨h1, h2, h3, h4⟩ := zdl_in hq
    obtain ⟨y, hy, hk⟩ := h q h1
    refine ⟨y, ?_, hk⟩
    unfold iv_f1
    have hb : Nat.beq i q.1 = false := by
      cases hc : Nat.beq i q.1 with
      | false => rfl
      | true => exact absurd (Nat.eq_of_beq_eq_true hc).symm h2
    rw [hb]
    exact iv_f1_d2 hy h2 h3 (fun g => zdn_cat hk.2 (h4 g))
theorem zoS_in {k i e len pc : Nat} {A : zA} {outs : List (Nat × zA)} (hg : zoS k i e len pc A = some outs) : ∃ v r, A.2.2.1 = v :: r ∧ v.1 = k ∧ outs = [(pc + len, (A.1, (i, v) :: zdl i e A.2.1, r, A.2.2.2))] := by
  unfold zoS at hg
  split at hg
  · rename_i v r hst
    cases hb : Nat.beq v.1 k
    · rw [hb] at hg; cases hg
    · rw [hb] at hg
      cases hg
      exact ⟨v, r, hst, Nat.eq_of_beq_eq_true hb, rfl⟩
  · cases hg
theorem zoIS_ok {τ : Nat → Nat} {ty : Nat → Option zt} {ms : zm} (i e len : Nat) : zS τ ty ms (iv_oIS i len) (zoS 0 i e len) := by
  intro ρ A clv cst σ L xs pc outs hg hA hI
  obtain ⟨v, r, hst, hk, rfl⟩ := zoS_in hg
  have h1 := hA.2.2.1
  rw [hst] at h1
  obtain ⟨x, c', rfl, h2, h3⟩ := zst_c h1
  obtain ⟨y, rfl, _⟩ := zdn0 h2.2 hk
  exact zQ_one (by unfold iv_oIS; rfl) ⟨hA.1, zlv_st1 hA.2.1 h2, h3, hA.2.2.2⟩ hI zag_rf (Nat.le_refl _)
theorem zoAS_ok {τ : Nat → Nat} {ty : Nat → Option zt} {ms : zm} (i e len : Nat) : zS τ ty ms (iv_oAS i len) (zoS 2 i e len) := by
  intro ρ A clv cst σ L xs pc outs hg hA hI
  obtain ⟨v, r, hst, hk, rfl⟩ := zoS_in hg
  have h1 := hA.2.2.1
  rw [hst] at h1
  obtain ⟨x, c', rfl, h2, h3⟩ := zst_c h1
  obtain ⟨y, rfl, _⟩ := zdn2 h2.2 hk
  exact zQ_one (by unfold iv_oAS; rfl) ⟨hA.1, zlv_st1 hA.2.1 h2, h3, hA.2.2.2⟩ hI zag_rf (Nat.le_refl _)
theorem zoJS_ok {τ : Nat → Nat} {ty : Nat → Option zt} {ms : zm} (i len : Nat) : zS τ ty ms (iv_oJS i len) (zoS 1 i (i + 1) len) := by
  intro ρ A clv cst σ L xs pc outs hg hA hI
  obtain ⟨v, r, hst, hk, rfl⟩ := zoS_in hg
  have h1 := hA.2.2.1
  rw [hst] at h1
  obtain ⟨x, c', rfl, h2, h3⟩ := zst_c h1
  obtain ⟨y, rfl, _⟩ := zdn1 h2.2 hk
  exact zQ_one (by unfold iv_oJS; rfl) ⟨hA.1, zlv_st2 hA.2.1 h2, h3, hA.2.2.2⟩ hI zag_rf (Nat.le_refl _)
