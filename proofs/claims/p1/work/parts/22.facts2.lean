/-! ===== what the two new objects hold ===== -/
def ckO (σ : iv_H) (a ci : Nat) (fs : List Value) : Bool := match iv_get σ a with
  | some (.inr (c, f)) => decide (c = ci) && decide (f = fs)
  | _ => false
def ckI (σ : iv_H) (a n : Nat) (vs : List (Nat × Int32)) : Bool := match iv_get σ a with
  | some (.inl (0, m, .inl f)) => decide (m = n) && vs.all (fun q => decide (f q.1 = q.2))
  | _ => false
theorem ckO_ok {σ : iv_H} {a ci : Nat} {fs : List Value} (h : ckO σ a ci fs = true) : iv_get σ a = some (.inr (ci, fs)) := by
  unfold ckO at h
  split at h
  · rename_i c f hg
    rw [Bool.and_eq_true] at h
    rw [hg, of_decide_eq_true h.1, of_decide_eq_true h.2]
  · cases h
theorem ckI_ok {σ : iv_H} {a n : Nat} {vs : List (Nat × Int32)} (h : ckI σ a n vs = true) : ∃ f : Nat → Int32, iv_get σ a = some (.inl (0, n, .inl f)) ∧ ∀ q ∈ vs, f q.1 = q.2 := by
  unfold ckI at h
  split at h
  · rename_i m f hg
    rw [Bool.and_eq_true] at h
    refine ⟨f, by rw [hg, of_decide_eq_true h.1], fun q hq => of_decide_eq_true (List.all_eq_true.mp h.2 q hq)⟩
  · cases h
def fsG : List Value := [.ref 2, .int 0, .int 0, .ref 4, .ref 20, .ref 36, .ref 66, .ref 96, .ref 104, .ref 112, .ref 356, .ref 366, .ref 368, .ref 370, .ref 372, .ref 374, .ref 384, .ref 388, .ref 414, .ref 436]
def fsO : List Value := [.int 0, .int 0, .int 0, .int 3, .int 1, .int 0, .int 0, .int 0, .int 0, .ref 6, .ref 8, .ref 10, .ref 12, .ref 14, .ref 16, .ref 18]
def fsM : List Value := [.int 0, .ref 550, .int 0, .int 0, .int 0, .int 0, .int 0, .int 0, .int 0, .int 0, .int 0, .int 0, .long 0, .int 0, .ref 552, .ref 554, .ref 556, .ref 558, .ref 560, .ref 562, .ref 564, .ref 566, .ref 568, .ref 570, .int 0, .ref 572, .int 0, .ref 574, .ref 576, .ref 578, .int 0, .int (-1), .int 0, .ref 580, .ref 582, .int 0, .int 0, .ref 584, .int 0, .int 0, .ref 586, .ref 588, .int 0, .int 0, .ref 590, .int 0, .int 0, .int 0, .int 0]
def fsSe : List Value := [.int 0, .int 0, .ref 98, .ref 100, .ref 102]
def fsSt : List Value := [.int 0, .ref 386]
def fsTa : List Value := [.int 0, .ref 438]
set_option maxRecDepth 100000 in
theorem sg2_ck : (((ckO sg2 0 11 fsG && ckO sg2 4 3 fsO) && (ckO sg2 548 12 fsM && ckO sg2 96 6 fsSe)) && ((ckO sg2 384 8 fsSt && ckO sg2 436 9 fsTa) && (ckI sg2 552 374 [(0, 0), (1, 0), (132, 0)] && (ckI sg2 2 940 [] && ckI sg2 550 940 [])))) = true := by decide +kernel
