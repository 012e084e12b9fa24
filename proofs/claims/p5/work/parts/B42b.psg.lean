/-! ===== the tapes at the start ===== -/
theorem P_bkT {ad cy : Nat → Nat} {D : va_G} {σ : iv_H} {a : Nat} {f : Nat → Int32} {H : Heap} (hg : iv_get σ a = some (.inl (0, 940, .inl f))) (hz : ∀ i, i < 940 → f i = 0) (hP : va_P D vwCl (iv_W ad cy σ) H) : va_P D vwCl (iv_W ad cy (iv_put σ a bkT)) H := by
  obtain ⟨k0, rfl, hk0, he⟩ := iv_get_ok hg
  rw [iv_put_eq]
  intro k q hq
  obtain ⟨hk, rfl⟩ := iv_W_of hq
  have hk : k < σ.1 := hk
  have h0 := hP k _ (iv_W_at hk)
  show va_at D vwCl (ad (2 * k), iv_e ad cy (iv_up σ.2.1 k0 bkT k)) H
  by_cases e : k = k0
  · subst e
    rw [iv_up_s]
    rw [he] at h0
    have h1 : H[ad (2 * k)]? = some (arrV (cy 0) 940 (fun j => .int (f j))) := h0
    show H[ad (2 * k)]? = some (arrV (cy 0) 940 (fun _ => .int 0))
    rw [h1]
    unfold arrV
    have e9 : (fun j : Fin 940 => Value.int (f j.val)) = fun _ => Value.int 0 := funext fun j => by rw [hz j.val j.isLt]
    rw [e9]
  · rw [iv_up_n e]
    exact h0
theorem P_sg4 {ad cy : Nat → Nat} {D : va_G} {H : Heap} (hP : va_P D vwCl (iv_W ad cy sg2) H) : va_P D vwCl (iv_W ad cy sg4) H := by
  obtain ⟨⟨f, ga, za⟩, ⟨f2, gb, zb⟩, _⟩ := sg3_t
  unfold sg4
  exact P_bkT (mD_n (mD_put2 ga) (by decide) gb) zb (P_bkT ga za (P_sg3 hP))
