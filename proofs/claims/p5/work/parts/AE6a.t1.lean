/-! ===== the grammar of a book, told: its faults ===== -/
def ySid (T : Nat → Nat) (n m p : Nat) : yE Nat := if yFw T n m p 3 12 < 15 then .inr (yto T n m p) else .inl (ybd T n m p 1)
def yDoe (T : Nat → Nat) (n m : Nat) (Nm : Nat → Int64) (nb ng p : Nat) : yE Nat := if yFw T n m p 4 6 = 6 then yThen (yNmd T n m Nm 0 nb (yto T n m p)) fun _ => ySid T n m (yto T n m (yto T n m p))
  else if yFw T n m p 4 6 = 7 then yThen (yNmd T n m Nm 7 ng (yto T n m p)) fun _ => .inr (yto T n m (yto T n m p))
  else if yFw T n m p 4 6 = 8 then .inr (yto T n m p)
  else if yFw T n m p 4 6 = 9 then yThen (yNmd T n m Nm 0 nb (yto T n m p)) fun _ => .inr (yto T n m (yto T n m p))
  else .inl (ybd T n m p 1)
def yBln (T : Nat → Nat) (n m : Nat) (Nm : Nat → Int64) (nb ng l p : Nat) : yE Nat := if yisW T n m p 10 = true then (if l = 40 then .inl (ybd T n m p 4) else yThen (yNmd T n m Nm 7 ng (yto T n m p)) fun _ => .inr (yto T n m (yto T n m p)))
  else if yisW T n m p 11 = true then (if l = 40 then .inl (ybd T n m p 4) else yThen (yNum T n m 1 60 (yto T n m p)) fun q => .inr q.2)
  else yThen (yNmd T n m Nm 0 nb p) fun _ => if l = 40 then .inl (ybd T n m p 4) else yDoe T n m Nm nb ng (yto T n m p)
def yBok (T : Nat → Nat) (n m : Nat) (Nm : Nat → Int64) (nb ng : Nat) : Nat → Nat → Nat → yE Nat
  | 0, _, _ => .inl (0, 0)
  | f + 1, p, l => if ykd T n m p = 0 then .inr l else yThen (yBln T n m Nm nb ng l p) fun q => yThen (yEnd T n m q) fun p2 => yBok T n m Nm nb ng f p2 (l + 1)
theorem yFw_wd2 {T : Nat → Nat} {n m p j : Nat} (h : yWd T n m p j) : ∀ (jj k e : Nat), k + jj = e → e ≤ 27 → yFw T n m p jj k = if k < j ∧ j ≤ e then j - 1 else e
  | 0, k, e, hk, he => by
    show k = _
    rw [if_neg (by omega)]
    omega
  | jj + 1, k, e, hk, he => by
    have ih := yFw_wd2 h jj (k + 1) e (by omega) he
    show (if yisW T n m p k = true then k else yFw T n m p jj (k + 1)) = _
    have hw := h.2 k (by omega)
    by_cases c : yisW T n m p k = true
    · rw [if_pos c]
      have := hw.mpr c
      rw [if_pos (by omega)]
      omega
    · rw [if_neg c, ih]
      have : ¬ j = k + 1 := fun e2 => c (hw.mp e2)
      by_cases c2 : k + 1 < j ∧ j ≤ e
      · rw [if_pos c2, if_pos (by omega)]
      · rw [if_neg c2, if_neg (by omega)]
