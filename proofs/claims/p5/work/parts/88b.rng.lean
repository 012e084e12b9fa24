/-! ===== p38: frames of a range; long arrays, objects' fields ===== -/
theorem mD_zFrN {σ σ' : iv_H} {A b tag len : Nat} {f g : Nat → Int32} {ms : zm} (hx : iv_get σ A = some (.inl (tag, len, .inl f))) (h : mD σ σ' A (.inl (tag, len, .inl g))) (hm : zmem (1, m_τ A, b) ms = true) (hg : ∀ i, i < b / 100000 ∨ b % 100000 ≤ i → g i = f i) : zFr m_τ ms σ σ' := by
  obtain ⟨h1, h2, h3⟩ := zmt_of hm
  refine ⟨h.1, fun c => ⟨fun c2 fs2 k2 => ?_, fun z k2 hz => ?_, fun tag2 len2 f2 k2 hz => ?_⟩⟩
  · by_cases hb : c = A
    · subst hb; rw [hx] at k2; cases k2
    · exact ⟨fs2, mD_n h hb k2, fun _ _ => rfl⟩
  · by_cases hb : c = A
    · subst hb; rw [h1] at hz; cases hz
    · exact mD_n h hb k2
  · by_cases hb : c = A
    · subst hb
      rw [hx] at k2
      cases k2
      refine ⟨g, h.2.1, fun i hi => hg i ?_⟩
      rcases hi with hi | hi
      · exact .inl (Nat.lt_of_lt_of_le hi h3)
      · exact .inr (Nat.le_trans h2 hi)
    · exact ⟨f2, mD_n h hb k2, fun _ _ => rfl⟩
def mL (σ : iv_H) (a : Nat) : Nat → Int64 := match iv_get σ a with
  | some (.inl (_, _, .inr (.inl f))) => f
  | _ => fun _ => 0
def oF (σ : iv_H) (a j : Nat) : Option Value := match iv_get σ a with
  | some (.inr (_, fs)) => iv_nth fs j
  | _ => none
theorem hL_of {σ : iv_H} {a tag len : Nat} {f : Nat → Int64} (h : iv_get σ a = some (.inl (tag, len, .inr (.inl f)))) : mL σ a = f := by
  unfold mL
  rw [h]
theorem hO_of {σ : iv_H} {a ci : Nat} {fs : List Value} (h : iv_get σ a = some (.inr (ci, fs))) (j : Nat) : oF σ a j = iv_nth fs j := by
  unfold oF
  rw [h]
theorem mA_g {σ σ' : iv_H} {a b : Nat} (h : iv_get σ' a = iv_get σ b) : mA σ' a = mA σ b := by
  unfold mA
  rw [h]
theorem mL_g {σ σ' : iv_H} {a b : Nat} (h : iv_get σ' a = iv_get σ b) : mL σ' a = mL σ b := by
  unfold mL
  rw [h]
theorem oF_g {σ σ' : iv_H} {a b : Nat} (h : iv_get σ' a = iv_get σ b) (j : Nat) : oF σ' a j = oF σ b j := by
  unfold oF
  rw [h]
