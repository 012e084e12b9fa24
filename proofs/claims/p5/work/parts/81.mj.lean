/-! ===== the reference: what holds between the calls ===== -/
/-- an int array, by its label -/
def mA (σ : iv_H) (a : Nat) : Nat → Int32 := match iv_get σ a with
  | some (.inl (_, _, .inl f)) => f
  | _ => fun _ => 0
/-- an int field of the reference -/
def mF (σ : iv_H) (j : Nat) : Int := match iv_get σ 548 with
  | some (.inr (_, fs)) => (match iv_nth fs j with
    | some (.int x) => x.toInt
    | _ => 0)
  | _ => 0
theorem hA_of {σ : iv_H} {a tag len : Nat} {f : Nat → Int32} (h : iv_get σ a = some (.inl (tag, len, .inl f))) : mA σ a = f := by
  unfold mA
  rw [h]
theorem hF_of {σ : iv_H} {ci j : Nat} {fs : List Value} {x : Int32} (h : iv_get σ 548 = some (.inr (ci, fs))) (hx : iv_nth fs j = some (.int x)) : mF σ j = x.toInt := by
  unfold mF
  rw [h]
  simp only [hx]
/-- graters have an edge; brothers have a block -/
def jE (f : Nat → Int32) (o : Nat) : Prop := ∀ g : Nat, (g : Int) < (f (o + 1)).toInt → 1 ≤ (f (o + 32 + g)).toInt
def jB (f : Nat → Int32) (o : Nat) : Prop := ∀ b : Nat, (b : Int) < (f o).toInt → 1 ≤ (f (o + 5 + b)).toInt
/-- what is held is a grater -/
def jS (f : Nat → Int32) (p : Nat) (K : Int) : Prop := ∀ b : Nat, b < 7 → (f (p + b)).toInt < K
def rowD (v x y : Int) (k : Nat) : Prop := (v = 1 → 0 ≤ x ∧ x < k) ∧ (v = 2 ∨ v = 3 → (0 ≤ x ∧ x < k) ∧ 0 ≤ y ∧ y < k)
def jD (f : Nat → Int32) (p : Nat) : Prop := ∀ k : Nat, k < 60 → rowD (f (p + 4 * k)).toInt (f (p + 4 * k + 1)).toInt (f (p + 4 * k + 2)).toInt k
def rowL (v x y s K : Int) : Prop := (0 ≤ v ∧ v ≤ 5) ∧ (v = 0 → (0 ≤ x ∧ x ≤ 6) ∧ (0 ≤ y ∧ y ≤ 6) ∧ 0 ≤ s ∧ s ≤ 2) ∧ (v = 1 → (0 ≤ x ∧ x ≤ 6) ∧ (0 ≤ y ∧ y ≤ 5) ∧ y < K) ∧ (v = 2 → 0 ≤ x ∧ x ≤ 6) ∧ (v = 3 → (0 ≤ x ∧ x ≤ 6) ∧ 0 ≤ y ∧ y ≤ 6) ∧ (v = 4 → 0 ≤ x ∧ x ≤ 5)
def jL (f : Nat → Int32) (n K : Int) : Prop := ∀ r : Nat, (r : Int) < n → rowL (f (4 * r)).toInt (f (4 * r + 1)).toInt (f (4 * r + 2)).toInt (f (4 * r + 3)).toInt K
def jR (f : Nat → Int32) (n K : Int) : Prop := ∀ r : Nat, (r : Int) < n → jS f (94 * r + 11) K
def jI (f : Nat → Int32) (o : Nat) : Prop := (jE f o ∧ jB f o) ∧ jS f (o + 49) (f (o + 1)).toInt ∧ jD f (o + 134)
/-- now; what is read; the rows of a sentence; n rows of a book; what can be undone; images -/
def m_Jx (n : Int) (σ : iv_H) : Prop := (∃ fs, iv_get σ 548 = some (.inr (12, fs))) ∧ jI (mA σ 552) 0 ∧ ((jE (mA σ 554) 0 ∧ jB (mA σ 554) 0) ∧ jS (mA σ 554) 19 (mA σ 554 1).toInt) ∧ jD (mA σ 590) 0 ∧ jL (mA σ 586) n (mA σ 552 1).toInt ∧ jR (mA σ 558) (mF σ 24) (mA σ 552 1).toInt ∧ ∀ k : Nat, k < 2 → (mA σ 568 k) = 1 → jI (mA σ 556) (374 * k)
/-- within a book: its rows too -/
def m_J (σ : iv_H) : Prop := m_Jx (mF σ 42) σ
/-- between the calls -/
def m_Jb (σ : iv_H) : Prop := m_Jx 0 σ
/-- what J looks at is not for plain stores -/
def m_sf : zsf2 := fun q => bif Nat.beq q.1 1 then (bif Nat.ble 74 q.2.1 && Nat.ble q.2.1 78 then false else bif Nat.beq q.2.1 82 || (Nat.beq q.2.1 91 || Nat.beq q.2.1 93) then false else true) else bif Nat.beq q.2.1 12 && (Nat.beq q.2.2 42 || Nat.beq q.2.2 24) then false else true
theorem m_sfa {t : Nat} (ht : (74 ≤ t ∧ t ≤ 78) ∨ t = 82 ∨ t = 91 ∨ t = 93) : ∀ {ms : zm}, ms.all m_sf = true → zmt t ms = false
  | [], _ => rfl
  | p :: r, h => by
    have h2 : (m_sf p && r.all m_sf) = true := h
    rw [Bool.and_eq_true] at h2
    unfold zmt
    cases hb : Nat.beq p.1 1 && Nat.beq p.2.1 t
    · exact m_sfa ht h2.2
    · rw [Bool.and_eq_true] at hb
      have h3 := h2.1
      unfold m_sf at h3
      rw [hb.1, Nat.eq_of_beq_eq_true hb.2] at h3
      simp only [cond_true] at h3
      rcases ht with ⟨h4, h5⟩ | rfl | rfl | rfl
      · rw [Nat.ble_eq_true_of_le h4, Nat.ble_eq_true_of_le h5] at h3
        cases h3
      · cases h3
      · cases h3
      · cases h3
theorem m_sff {j : Nat} (hj : j = 42 ∨ j = 24) : ∀ {ms : zm}, ms.all m_sf = true → zmem (0, 12, j) ms = false
  | [], _ => rfl
  | p :: r, h => by
    have h2 : (m_sf p && r.all m_sf) = true := h
    rw [Bool.and_eq_true] at h2
    unfold zmem
    cases hb : Nat.beq p.1 0 && (Nat.beq p.2.1 12 && Nat.beq p.2.2 j)
    · exact m_sff hj h2.2
    · rw [Bool.and_eq_true, Bool.and_eq_true] at hb
      have h3 := h2.1
      unfold m_sf at h3
      rw [Nat.eq_of_beq_eq_true hb.1, Nat.eq_of_beq_eq_true hb.2.1, Nat.eq_of_beq_eq_true hb.2.2] at h3
      rcases hj with rfl | rfl
      · cases h3
      · cases h3
/-- an array that is not among what may change -/
theorem hA_fr {ms : zm} {σ σ' : iv_H} (h : zFr m_τ ms σ σ') {a : Nat} (hm : zmt (m_τ a) ms = false) : mA σ' a = mA σ a := by
  unfold mA
  cases h1 : iv_get σ' a with
  | none =>
    cases h2 : iv_get σ a with
    | none => rfl
    | some e =>
      cases e with
      | inl x => have := (h.2 a).2.1 x h2 hm; rw [h1] at this; cases this
      | inr q => rfl
  | some e =>
    cases e with
    | inl x => rw [zFr_arr h hm h1]
    | inr q =>
      cases h2 : iv_get σ a with
      | none => rfl
      | some e =>
        cases e with
        | inl x => have := (h.2 a).2.1 x h2 hm; rw [h1] at this; cases this
        | inr q => rfl
theorem hF_fr {ms : zm} {σ σ' : iv_H} (h : zFr m_τ ms σ σ') {fs : List Value} (ho : iv_get σ 548 = some (.inr (12, fs))) {j : Nat} (hm : zmem (0, 12, j) ms = false) : mF σ' j = mF σ j ∧ ∃ fs', iv_get σ' 548 = some (.inr (12, fs')) := by
  obtain ⟨fs', h1, h2⟩ := (h.2 548).1 12 fs ho
  refine ⟨?_, fs', h1⟩
  unfold mF
  rw [h1, ho]
  simp only [h2 j hm]
/-- J by what it looks at -/
theorem m_Je {n n' : Int} {σ σ' : iv_H} (ho : ∃ fs, iv_get σ' 548 = some (.inr (12, fs))) (h1 : mA σ' 552 = mA σ 552) (h2 : mA σ' 554 = mA σ 554) (h3 : mA σ' 556 = mA σ 556) (h4 : mA σ' 558 = mA σ 558) (h5 : mA σ' 568 = mA σ 568) (h6 : mA σ' 586 = mA σ 586) (h7 : mA σ' 590 = mA σ 590) (h8 : n' = n) (h9 : mF σ' 24 = mF σ 24) (hJ : m_Jx n σ) : m_Jx n' σ' := by
  unfold m_Jx at hJ ⊢
  rw [h1, h2, h3, h4, h5, h6, h7, h8, h9]
  exact ⟨ho, hJ.2⟩
theorem m_Jsx {n : Int} (ms : zm) (σ σ' : iv_H) (hs : ms.all m_sf = true) (h : zFr m_τ ms σ σ') (hJ : m_Jx n σ) : m_Jx n σ' := by
  obtain ⟨fs, ho⟩ := hJ.1
  obtain ⟨k3, k2⟩ := hF_fr h ho (m_sff (.inr rfl) hs)
  exact m_Je k2 (hA_fr h (m_sfa (.inl (by decide)) hs)) (hA_fr h (m_sfa (.inl (by decide)) hs)) (hA_fr h (m_sfa (.inl (by decide)) hs)) (hA_fr h (m_sfa (.inl (by decide)) hs)) (hA_fr h (m_sfa (.inr (.inl rfl)) hs)) (hA_fr h (m_sfa (.inr (.inr (.inl rfl))) hs)) (hA_fr h (m_sfa (.inr (.inr (.inr rfl))) hs)) rfl k3 hJ
theorem m_Js (ms : zm) (σ σ' : iv_H) (hs : ms.all m_sf = true) (h : zFr m_τ ms σ σ') (hJ : m_J σ) : m_J σ' := by
  obtain ⟨fs, ho⟩ := hJ.1
  obtain ⟨k1, _⟩ := hF_fr h ho (m_sff (.inl rfl) hs)
  unfold m_J
  rw [k1]
  exact m_Jsx ms σ σ' hs h hJ
theorem iv_put_none {σ : iv_H} {a b : Nat} {x y : iv_E} (ha : iv_get σ a = some x) (hb : iv_get σ b = none) : iv_get (iv_put σ a y) b = none := by
  cases h : iv_get (iv_put σ a y) b with
  | none => rfl
  | some z =>
    obtain ⟨k, rfl, hk, _⟩ := iv_get_ok h
    rw [(iv_put_sz ha).1] at hk
    rw [iv_get_even hk] at hb
    cases hb
/-- one int array written -/
theorem hA_st {σ : iv_H} {a tag len : Nat} {f g : Nat → Int32} (h : iv_get σ a = some (.inl (tag, len, .inl f))) (b : Nat) : mA (iv_put σ a (.inl (tag, len, .inl g))) b = if b = a then g else mA σ b := by
  split
  · rename_i e
    rw [e]
    exact hA_of (iv_gp_s h)
  · rename_i e
    cases hb : iv_get σ b with
    | none =>
      have h2 : iv_get (iv_put σ a (.inl (tag, len, .inl g))) b = none := iv_put_none h hb
      unfold mA
      rw [hb, h2]
    | some x =>
      unfold mA
      rw [hb, iv_gp_n h hb e]
theorem hF_st {σ : iv_H} {a tag len : Nat} {f g : Nat → Int32} (h : iv_get σ a = some (.inl (tag, len, .inl f))) {ci : Nat} {fs : List Value} (ho : iv_get σ 548 = some (.inr (ci, fs))) : iv_get (iv_put σ a (.inl (tag, len, .inl g))) 548 = some (.inr (ci, fs)) ∧ ∀ j, mF (iv_put σ a (.inl (tag, len, .inl g))) j = mF σ j := by
  have hn : 548 ≠ a := fun e => by rw [← e, ho] at h; cases h
  have h1 := iv_gp_n (y := .inl (tag, len, .inl g)) h ho hn
  refine ⟨h1, fun j => ?_⟩
  unfold mF
  rw [h1, ho]
/-- bounds at a place, out of the segments -/
def zsgh (sg : List (Nat × Nat × Int × Int)) (i : Nat) (lo hi : Int) : Bool := sg.all fun s => bif Nat.ble s.1 i && Nat.ble i s.2.1 then zle lo s.2.2.1 && zle s.2.2.2 hi else true
theorem zsgh_ok {sg : List (Nat × Nat × Int × Int)} {i : Nat} {lo hi v : Int} (h : zsgh sg i lo hi = true) (hs : zseg sg i v) : lo ≤ v ∧ v ≤ hi := by
  obtain ⟨s, h1, h2, h3, h4, h5⟩ := hs
  have h6 := List.all_eq_true.mp h s h1
  simp only [Nat.ble_eq_true_of_le h2, Nat.ble_eq_true_of_le h3, Bool.and_self, cond_true, Bool.and_eq_true] at h6
  have h7 := zle_iff.mp h6.1
  have h8 := zle_iff.mp h6.2
  omega
theorem m_N {σ : iv_H} (hI : zI m_τ m_ty σ) : (0 ≤ (mA σ 552 0).toInt ∧ (mA σ 552 0).toInt ≤ 7) ∧ 0 ≤ (mA σ 552 1).toInt ∧ (mA σ 552 1).toInt ≤ 6 := by
  obtain ⟨f, h1, h2⟩ := zI_ia hI (a := 552) (t := 74) rfl rfl
  rw [hA_of h1]
  exact ⟨zsgh_ok (by decide +kernel) (h2 0 (by decide)), zsgh_ok (by decide +kernel) (h2 1 (by decide))⟩
theorem m_R {σ : iv_H} (hI : zI m_τ m_ty σ) : (0 ≤ (mA σ 554 0).toInt ∧ (mA σ 554 0).toInt ≤ 7) ∧ 0 ≤ (mA σ 554 1).toInt ∧ (mA σ 554 1).toInt ≤ 6 := by
  obtain ⟨f, h1, h2⟩ := zI_ia hI (a := 554) (t := 75) rfl rfl
  rw [hA_of h1]
  exact ⟨zsgh_ok (by decide +kernel) (h2 0 (by decide)), zsgh_ok (by decide +kernel) (h2 1 (by decide))⟩
