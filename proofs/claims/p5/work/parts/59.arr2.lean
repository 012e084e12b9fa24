/-! ===== further arrays, statics, members of the library ===== -/
section ZAZ
variable {τ : Nat → Nat} {ty : Nat → Option zt} {ms : zm}
/-- loads that are not kept: of tag g (1 long, 2 boolean) -/
def zoLd (ty : Nat → Option zt) (g : Nat) : Nat → zA → zO := fun pc A => match A.2.2.1 with
  | ix :: ar :: r => (match zty A.1.1 ar with
    | some t => (match ty t with
      | some (.inr (g2, len, _, sg)) => bif Nat.beq g g2 && zix A.1 ix len then (match zhu (zvl A.1 ix) (zvh A.1 ix) sg with
        | some q => some [(pc + 1, zpu A r (zbt (bif Nat.beq g 1 then 1 else 0) q.1 q.2))]
        | none => none) else none
      | _ => none)
    | none => none)
  | _ => none
theorem zoLd_in {g pc : Nat} {A : zA} {outs : List (Nat × zA)} (hg : zoLd ty g pc A = some outs) : ∃ ix ar r t len k sg q, A.2.2.1 = ix :: ar :: r ∧ zty A.1.1 ar = some t ∧ ty t = some (.inr (g, len, k, sg)) ∧ zix A.1 ix len = true ∧ zhu (zvl A.1 ix) (zvh A.1 ix) sg = some q ∧ outs = [(pc + 1, zpu A r (zbt (bif Nat.beq g 1 then 1 else 0) q.1 q.2))] := by
  unfold zoLd at hg
  split at hg
  · rename_i ix ar r hst
    split at hg
    · rename_i t ht
      split at hg
      · rename_i g2 len k sg hty
        cases hb : Nat.beq g g2 && zix A.1 ix len
        · rw [hb] at hg; cases hg
        · rw [hb] at hg
          rw [Bool.and_eq_true] at hb
          have e := Nat.eq_of_beq_eq_true hb.1
          subst e
          simp only [cond_true] at hg
          split at hg
          · rename_i q hq
            cases hg
            exact ⟨ix, ar, r, t, len, k, sg, q, hst, ht, hty, hb.2, hq, rfl⟩
          · cases hg
      · cases hg
    · cases hg
  · cases hg
theorem zoJl_ok : zS τ ty ms iv_oJl (zoLd ty 1) := by
  intro ρ A clv cst σ L xs pc outs hg hA hI
  obtain ⟨ix, ar, r, t, len, k, sg, q, hst, ht, hty, hz, hq, rfl⟩ := zoLd_in hg
  have h1 := hA.2.2.1
  rw [hst] at h1
  obtain ⟨x, c1, rfl, a1, h2⟩ := zst_c h1
  obtain ⟨x0, c2, rfl, b1, h3⟩ := zst_c h2
  obtain ⟨a, rfl, ea, hta⟩ := zty_ok hA.1.1 b1 ht
  obtain ⟨y, rfl, ey, k1, k2, k3, k4, k5⟩ := zix_ok hA.1 a1 hz
  obtain ⟨e, g1, f, rfl, g2⟩ := hI a _ (by rw [hta]; exact hty)
  obtain ⟨l, hh, e1, e2, e3⟩ := zhu_ok (g2 _ k2) k4 k5
  rw [hq] at e1
  cases e1
  obtain ⟨ρ', f1, f2, f3⟩ := zpu_ok hA h3 (zbt_ok (k := 1) e2 e3) (by decide) (x := .long (f y.toNatClampNeg)) ⟨_, rfl, rfl⟩
  refine zQ_one ?_ f1 hI f2 f3
  unfold iv_oJl
  simp only [g1, k1, cond_true]
theorem zoZl_ok : zS τ ty ms iv_oZl (zoLd ty 2) := by
  intro ρ A clv cst σ L xs pc outs hg hA hI
  obtain ⟨ix, ar, r, t, len, k, sg, q, hst, ht, hty, hz, hq, rfl⟩ := zoLd_in hg
  have h1 := hA.2.2.1
  rw [hst] at h1
  obtain ⟨x, c1, rfl, a1, h2⟩ := zst_c h1
  obtain ⟨x0, c2, rfl, b1, h3⟩ := zst_c h2
  obtain ⟨a, rfl, ea, hta⟩ := zty_ok hA.1.1 b1 ht
  obtain ⟨y, rfl, ey, k1, k2, k3, k4, k5⟩ := zix_ok hA.1 a1 hz
  obtain ⟨e, g1, f, rfl, g2⟩ := hI a _ (by rw [hta]; exact hty)
  obtain ⟨l, hh, e1, e2, e3⟩ := zhu_ok (g2 _ k2).2 k4 k5
  rw [hq] at e1
  cases e1
  obtain ⟨ρ', f1, f2, f3⟩ := zpu_ok hA h3 (zbt_ok (k := 0) e2 e3) (by decide) (x := .int (f y.toNatClampNeg)) ⟨_, rfl, rfl⟩
  refine zQ_one ?_ f1 hI f2 f3
  unfold iv_oZl
  simp only [g1, k1, cond_true]
/-- a reference out of an array -/
def zoQl (ty : Nat → Option zt) : Nat → zA → zO := fun pc A => match A.2.2.1 with
  | ix :: ar :: r => (match zty A.1.1 ar with
    | some t => (match ty t with
      | some (.inr (_ + 3, len, k, _)) => bif zix A.1 ix len && Nat.ble 1 k then some [(pc + 1, (fun n => ((A.1.1 ++ [(k + 2, 0, 1000)], A.1.2), A.2.1, (2, 0, [(n, 1)]) :: r, A.2.2.2)) A.1.1.length)] else none
      | _ => none)
    | none => none)
  | _ => none
theorem zoQl_ok (hT : ∀ a, 1 ≤ τ a → a ≤ 1000) : zS τ ty ms iv_oQl (zoQl ty) := by
  intro ρ A clv cst σ L xs pc outs hg hA hI
  unfold zoQl at hg
  split at hg
  · rename_i ix ar r hst
    have h1 := hA.2.2.1
    rw [hst] at h1
    obtain ⟨x, c1, rfl, a1, h2⟩ := zst_c h1
    obtain ⟨x0, c2, rfl, b1, h3⟩ := zst_c h2
    split at hg
    · rename_i t ht
      obtain ⟨a, rfl, ea, hta⟩ := zty_ok hA.1.1 b1 ht
      split at hg
      · rename_i g len k sg hty
        cases hb : zix A.1 ix len && Nat.ble 1 k
        · rw [hb] at hg; cases hg
        · rw [hb] at hg
          cases hg
          rw [Bool.and_eq_true] at hb
          have hk := Nat.le_of_ble_eq_true hb.2
          obtain ⟨y, rfl, ey, k1, k2, k3, k4, k5⟩ := zix_ok hA.1 a1 hb.1
          obtain ⟨e, g1, f, g0, rfl, g2⟩ := hI a _ (by rw [hta]; exact hty)
          obtain ⟨b, e1, e2⟩ := g2 _ k2
          obtain ⟨ρ', z, f1, f2, f3, f4, f5, f6⟩ := znew hA (c := (k + 2, 0, 1000)) (x := .ref b) ⟨b, rfl, by show (0 : Int) ≤ (b : Int); omega, by have := hT b (by rw [e2]; exact hk); show (b : Int) ≤ 1000; omega, e2⟩
          have hl : (A.1.1 ++ [((k + 2, 0, 1000) : zc)]).length = A.1.1.length + 1 := f5
          have hle : A.1.1.length ≤ (A.1.1 ++ [((k + 2, 0, 1000) : zc)]).length := by omega
          refine zQ_one (ρ' := ρ') (cst' := .ref b :: c2) ?_ ⟨f4.1, f4.2.1, ⟨by rw [← hl] at f6; exact f6, zst_ag f2 hle h3⟩, f4.2.2.2.1, f4.2.2.2.2⟩ hI f2 hle
          have q1 : Nat.ble 3 (g + 3) = true := Nat.ble_eq.mpr (by omega)
          have q2 : Nat.ble (g + 3) 7 = true := Nat.ble_eq.mpr (by omega)
          unfold iv_oQl
          simp only [g1, k1, q1, q2, Bool.and_self, cond_true, e1]
          rfl
      · cases hg
    · cases hg
  · cases hg
def zoLen (ty : Nat → Option zt) : Nat → zA → zO := fun pc A => match A.2.2.1 with
  | ar :: r => (match zty A.1.1 ar with
    | some t => (match ty t with
      | some (.inr (_, len, _, _)) => bif Nat.blt len 2147483648 then some [(pc + 1, zpu A r (.inl (0, len, [])))] else none
      | _ => none)
    | none => none)
  | _ => none
theorem zI_ar {σ : iv_H} (hI : zI τ ty σ) {a t g len k : Nat} {sg : zsg} (ha : τ a = t) (ht : ty t = some (.inr (g, len, k, sg))) : ∃ x : vp_A, iv_get σ a = some (.inl (g, x)) ∧ x.1 = len ∧ g ≤ 7 := by
  obtain ⟨e, h1, h2⟩ := hI a _ (by rw [ha]; exact ht)
  unfold zcell at h2
  split at h2
  · rename_i hh; cases hh
  · rename_i hh
    cases hh
    obtain ⟨f, rfl, _⟩ := h2
    exact ⟨_, h1, rfl, by omega⟩
  · rename_i hh
    cases hh
    obtain ⟨f, rfl, _⟩ := h2
    exact ⟨_, h1, rfl, by omega⟩
  · rename_i hh
    cases hh
    obtain ⟨f, rfl, _⟩ := h2
    exact ⟨_, h1, rfl, by omega⟩
  · rename_i hh
    cases hh
    obtain ⟨f, h3, rfl, _⟩ := h2
    exact ⟨_, h1, rfl, by omega⟩
theorem zoLen_ok : zS τ ty ms iv_oLen (zoLen ty) := by
  intro ρ A clv cst σ L xs pc outs hg hA hI
  unfold zoLen at hg
  split at hg
  · rename_i ar r hst
    have h1 := hA.2.2.1
    rw [hst] at h1
    obtain ⟨x0, c2, rfl, b1, h3⟩ := zst_c h1
    split at hg
    · rename_i t ht
      obtain ⟨a, rfl, ea, hta⟩ := zty_ok hA.1.1 b1 ht
      split at hg
      · rename_i g len k sg hty
        cases hb : Nat.blt len 2147483648
        · rw [hb] at hg; cases hg
        · rw [hb] at hg
          cases hg
          rw [Nat.blt_eq] at hb
          obtain ⟨x, g1, g2, g3⟩ := zI_ar hI hta hty
          have e1 : (Int32.ofNat len).toInt = (len : Int) := Int32.toInt_ofNat_of_lt hb
          obtain ⟨ρ', f1, f2, f3⟩ := zpu_ok hA h3 (k := 0) (y := (len : Int)) (x := .int (Int32.ofNat len)) (r := .inl (0, len, [])) ⟨rfl, rfl, zev0⟩ (by decide) ⟨_, rfl, e1⟩
          refine zQ_one ?_ f1 hI f2 f3
          rw [← g2]
          exact o_Len (iv_get_odd g1).1 g1 (Nat.ble_eq.mpr g3)
      · cases hg
    · cases hg
  · cases hg
end ZAZ
