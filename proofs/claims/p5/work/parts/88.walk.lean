/-! ===== by hand: one step after another ===== -/
section WK
variable {L : Nat} {xs : Nat → Int32} {Post : Option Value → iv_H → Prop} {d M pc : Nat} {lv : iv_L} {st : List Value} {σ : iv_H}
theorem w_K {v : Value} {len : Nat} (hf : iv_f1 (iv_p M) pc = some (.inl (iv_oK v len))) (k : zGo L xs Post [] d M (pc + len) lv (v :: st) σ) : zGo L xs Post [] d M pc lv st σ := zGo_s hf rfl k
theorem w_I {i len : Nat} {x : Int32} (hf : iv_f1 (iv_p M) pc = some (.inl (iv_oI i len))) (h : iv_f1 lv i = some (.int x)) (k : zGo L xs Post [] d M (pc + len) lv (.int x :: st) σ) : zGo L xs Post [] d M pc lv st σ := zGo_s hf (o_Ix h) k
theorem w_A {i len a : Nat} (hf : iv_f1 (iv_p M) pc = some (.inl (iv_oA i len))) (h : iv_f1 lv i = some (.ref a)) (k : zGo L xs Post [] d M (pc + len) lv (.ref a :: st) σ) : zGo L xs Post [] d M pc lv st σ := zGo_s hf (o_Ax h) k
theorem w_J {i len : Nat} {x : Int64} (hf : iv_f1 (iv_p M) pc = some (.inl (iv_oJ i len))) (h : iv_f1 lv i = some (.long x)) (k : zGo L xs Post [] d M (pc + len) lv (.long x :: st) σ) : zGo L xs Post [] d M pc lv st σ := zGo_s hf (by unfold iv_oJ; rw [h]) k
theorem w_IS {i len : Nat} {x : Int32} (hf : iv_f1 (iv_p M) pc = some (.inl (iv_oIS i len))) (k : zGo L xs Post [] d M (pc + len) ((i, .int x) :: iv_d1 i lv) st σ) : zGo L xs Post [] d M pc lv (.int x :: st) σ := zGo_s hf rfl k
theorem w_inc {i x : Nat} (hf : iv_f1 (iv_p M) pc = some (.inl (iv_oInc i 1))) (h : iv_f1 lv i = some (.int (Int32.ofNat x))) (k : zGo L xs Post [] d M (pc + 3) ((i, .int (Int32.ofNat (x + 1))) :: iv_d1 i lv) st σ) : zGo L xs Post [] d M pc lv st σ := zGo_s hf (by
  unfold iv_oInc
  rw [h]
  simp only
  rw [show Int32.ofNat x + Int32.ofInt 1 = Int32.ofNat (x + 1) from (Int32.ofNat_add x 1).symm]) k
theorem w_incr {i x : Nat} {lvr : iv_L} (hf : iv_f1 (iv_p M) pc = some (.inl (iv_oInc i 1))) (hd : iv_d1 i lvr = lvr) (k : zGo L xs Post [] d M (pc + 3) ((i, .int (Int32.ofNat (x + 1))) :: lvr) st σ) : zGo L xs Post [] d M pc ((i, .int (Int32.ofNat x)) :: lvr) st σ := by
  refine w_inc hf (x := x) (by show (bif Nat.beq i i then _ else _) = _; rw [Nat.beq_refl]; rfl) ?_
  rw [show iv_d1 i ((i, Value.int (Int32.ofNat x)) :: lvr) = lvr by
    show (bif (Nat.beq i i || _) then _ else _) = _
    rw [Nat.beq_refl]
    exact hd]
  exact k
theorem w_ISr {i len : Nat} {x : Int32} {v : Value} {lvr : iv_L} (hf : iv_f1 (iv_p M) pc = some (.inl (iv_oIS i len))) (hd : iv_d1 i lvr = lvr) (k : zGo L xs Post [] d M (pc + len) ((i, .int x) :: lvr) st σ) : zGo L xs Post [] d M pc ((i, v) :: lvr) (.int x :: st) σ := by
  refine w_IS hf ?_
  rw [show iv_d1 i ((i, v) :: lvr) = lvr by
    show (bif (Nat.beq i i || _) then _ else _) = _
    rw [Nat.beq_refl]
    exact hd]
  exact k
theorem w_add {a b : Nat} (hf : iv_f1 (iv_p M) pc = some (.inl (iv_oII fun x y => x + y))) (k : zGo L xs Post [] d M (pc + 1) lv (.int (Int32.ofNat (a + b)) :: st) σ) : zGo L xs Post [] d M pc lv (.int (Int32.ofNat b) :: .int (Int32.ofNat a) :: st) σ := zGo_s hf (by
  show some (pc + 1, lv, Value.int (Int32.ofNat a + Int32.ofNat b) :: st, σ) = _
  rw [← Int32.ofNat_add]) k
theorem w_mul {a b : Nat} (hf : iv_f1 (iv_p M) pc = some (.inl (iv_oII fun x y => x * y))) (k : zGo L xs Post [] d M (pc + 1) lv (.int (Int32.ofNat (a * b)) :: st) σ) : zGo L xs Post [] d M pc lv (.int (Int32.ofNat b) :: .int (Int32.ofNat a) :: st) σ := zGo_s hf (by
  show some (pc + 1, lv, Value.int (Int32.ofNat a * Int32.ofNat b) :: st, σ) = _
  rw [← Int32.ofNat_mul]) k
theorem w_go {off : Int} {t : Nat} (hf : iv_f1 (iv_p M) pc = some (.inl (iv_oGo off))) (ht : iv_tgt pc off = some t) (k : zGo L xs Post [] d M t lv st σ) : zGo L xs Post [] d M pc lv st σ := zGo_s hf (by
  unfold iv_oGo iv_go
  rw [ht]) k
theorem w_icT {c : ClassFile.Cond} {off : Int} {x y : Int32} {t : Nat} (hf : iv_f1 (iv_p M) pc = some (.inl (iv_oIc c off))) (ht : iv_tgt pc off = some t) (h : iv_c2 c x y = true) (k : zGo L xs Post [] d M t lv st σ) : zGo L xs Post [] d M pc lv (.int y :: .int x :: st) σ := zGo_s hf (o_IcT ht h) k
theorem w_icF {c : ClassFile.Cond} {off : Int} {x y : Int32} {t : Nat} (hf : iv_f1 (iv_p M) pc = some (.inl (iv_oIc c off))) (ht : iv_tgt pc off = some t) (h : iv_c2 c x y = false) (k : zGo L xs Post [] d M (pc + 3) lv st σ) : zGo L xs Post [] d M pc lv (.int y :: .int x :: st) σ := zGo_s hf (o_IcF ht h) k
theorem w_ifT {c : ClassFile.Cond} {off : Int} {x : Int32} {t : Nat} (hf : iv_f1 (iv_p M) pc = some (.inl (iv_oIf c off))) (ht : iv_tgt pc off = some t) (h : iv_c2 c x 0 = true) (k : zGo L xs Post [] d M t lv st σ) : zGo L xs Post [] d M pc lv (.int x :: st) σ := zGo_s hf (o_IfT ht h) k
theorem w_ifF {c : ClassFile.Cond} {off : Int} {x : Int32} {t : Nat} (hf : iv_f1 (iv_p M) pc = some (.inl (iv_oIf c off))) (ht : iv_tgt pc off = some t) (h : iv_c2 c x 0 = false) (k : zGo L xs Post [] d M (pc + 3) lv st σ) : zGo L xs Post [] d M pc lv (.int x :: st) σ := zGo_s hf (o_IfF ht h) k
theorem w_gf {ci j a : Nat} {fs : List Value} {v : Value} (hf : iv_f1 (iv_p M) pc = some (.inl (iv_oGF ci j))) (hg : iv_get σ a = some (.inr (ci, fs))) (hv : iv_nth fs j = some v) (k : zGo L xs Post [] d M (pc + 3) lv (v :: st) σ) : zGo L xs Post [] d M pc lv (.ref a :: st) σ := zGo_s hf (o_GF hg hv) k
theorem w_pf {ci j a : Nat} {fty : FieldType} {fs : List Value} {v : Value} (hf : iv_f1 (iv_p M) pc = some (.inl (iv_oPF ci j fty))) (hg : iv_get σ a = some (.inr (ci, fs))) (hv : iv_fit fty v = true) (hl : j < fs.length) (k : zGo L xs Post [] d M (pc + 3) lv st (iv_put σ a (.inr (ci, fs.set j v)))) : zGo L xs Post [] d M pc lv (v :: .ref a :: st) σ := zGo_s hf (o_PF hg hv (by rw [Nat.blt_eq]; exact hl)) k
theorem ofNat_in {k n : Nat} (hk : k < n) (hn : n ≤ 2000) : iv_in (Int32.ofNat k) n = true ∧ (Int32.ofNat k).toNatClampNeg = k ∧ (Int32.ofNat k).toInt = k := by
  have e : (Int32.ofNat k).toInt = k := Int32.toInt_ofNat_of_lt (by omega)
  obtain ⟨h1, h2, h3⟩ := zin_of (y := Int32.ofNat k) (n := n) (by omega) (by omega)
  exact ⟨h1, by omega, e⟩
theorem w_il {a n i : Nat} {g : Nat → Int32} (hf : iv_f1 (iv_p M) pc = some (.inl iv_oIl)) (hg : iv_get σ a = some (.inl (0, n, .inl g))) (h1 : Nat.beq a 1 = false) (h2 : Nat.beq a 101 = false) (hi : i < n) (hn : n ≤ 2000) (k : zGo L xs Post [] d M (pc + 1) lv (.int (g i) :: st) σ) : zGo L xs Post [] d M pc lv (.int (Int32.ofNat i) :: .ref a :: st) σ := zGo_s hf (by
  rw [o_Il h1 h2 hg (ofNat_in hi hn).1, (ofNat_in hi hn).2.1]) k
theorem w_ist {a n i : Nat} {g : Nat → Int32} {x : Int32} (hf : iv_f1 (iv_p M) pc = some (.inl iv_oIst)) (hg : iv_get σ a = some (.inl (0, n, .inl g))) (hi : i < n) (hn : n ≤ 2000) (k : zGo L xs Post [] d M (pc + 1) lv st (iv_put σ a (.inl (0, n, .inl (upd g i x))))) : zGo L xs Post [] d M pc lv (.int x :: .int (Int32.ofNat i) :: .ref a :: st) σ := zGo_s hf (by
  rw [o_Ist hg (ofNat_in hi hn).1, (ofNat_in hi hn).2.1]) k
theorem w_jl {a n i : Nat} {g : Nat → Int64} (hf : iv_f1 (iv_p M) pc = some (.inl iv_oJl)) (hg : iv_get σ a = some (.inl (1, n, .inr (.inl g)))) (hi : i < n) (hn : n ≤ 2000) (k : zGo L xs Post [] d M (pc + 1) lv (.long (g i) :: st) σ) : zGo L xs Post [] d M pc lv (.int (Int32.ofNat i) :: .ref a :: st) σ := zGo_s hf (by
  simp only [iv_oJl, hg, (ofNat_in hi hn).1, (ofNat_in hi hn).2.1, cond_true]) k
theorem w_jst {a n i : Nat} {g : Nat → Int64} {x : Int64} (hf : iv_f1 (iv_p M) pc = some (.inl iv_oJst)) (hg : iv_get σ a = some (.inl (1, n, .inr (.inl g)))) (hi : i < n) (hn : n ≤ 2000) (k : zGo L xs Post [] d M (pc + 1) lv st (iv_put σ a (.inl (1, n, .inr (.inl (vp_updL g i x)))))) : zGo L xs Post [] d M pc lv (.long x :: .int (Int32.ofNat i) :: .ref a :: st) σ := zGo_s hf (by
  simp only [iv_oJst, hg, (ofNat_in hi hn).1, (ofNat_in hi hn).2.1, cond_true]) k
theorem w_zl {a n i : Nat} {g : Nat → Int32} (hf : iv_f1 (iv_p M) pc = some (.inl iv_oZl)) (hg : iv_get σ a = some (.inl (2, n, .inl g))) (hi : i < n) (hn : n ≤ 2000) (k : zGo L xs Post [] d M (pc + 1) lv (.int (g i) :: st) σ) : zGo L xs Post [] d M pc lv (.int (Int32.ofNat i) :: .ref a :: st) σ := zGo_s hf (by
  simp only [iv_oZl, hg, (ofNat_in hi hn).1, (ofNat_in hi hn).2.1, cond_true]) k
theorem w_zst {a n i : Nat} {g : Nat → Int32} {x : Int32} (hf : iv_f1 (iv_p M) pc = some (.inl iv_oZst)) (hg : iv_get σ a = some (.inl (2, n, .inl g))) (hi : i < n) (hn : n ≤ 2000) (hx : (decide (x = 0) || decide (x = 1)) = true) (k : zGo L xs Post [] d M (pc + 1) lv st (iv_put σ a (.inl (2, n, .inl (upd g i x))))) : zGo L xs Post [] d M pc lv (.int x :: .int (Int32.ofNat i) :: .ref a :: st) σ := zGo_s hf (by
  simp only [iv_oZst, hg, (ofNat_in hi hn).1, (ofNat_in hi hn).2.1, hx, Bool.and_self, cond_true]) k
theorem w_ret0 (hf : iv_f1 (iv_p M) pc = some (.inr (.inl 0))) (k : Post none σ) : zGo L xs Post [] d M pc lv [] σ := zGo_r hf rfl k
theorem w_ret1 {x : Int32} (hf : iv_f1 (iv_p M) pc = some (.inr (.inl 1))) (k : Post (some (.int x)) σ) : zGo L xs Post [] d M pc lv [.int x] σ := zGo_r hf rfl k
theorem w_ret2 {x : Int32} (hf : iv_f1 (iv_p M) pc = some (.inr (.inl 2))) (hx : (decide (x = 0) || decide (x = 1)) = true) (k : Post (some (.int x)) σ) : zGo L xs Post [] d M pc lv [.int x] σ := zGo_r hf (by
  show (bif decide (x = 0) || decide (x = 1) then some (some (Value.int x), σ) else none) = _
  rw [hx]
  rfl) k
/-- a call: what it gives -/
theorem w_call {kind mm nn ci : Nat} {as rest : List Value} (hf : iv_f1 (iv_p M) pc = some (.inr (.inr (kind, mm, nn, ci)))) (ha : iv_args kind nn ci st σ = some (as, rest)) (hcs : Nat.ble (iv_cs as) (iv_m mm).2.2.1 = true) (hr : zGo L xs (fun r σ1 => zGo L xs Post [] (d + 1) M (pc + 3) lv (r.toList ++ rest) σ1) [] d mm 0 (lv_args 0 as) [] σ) : zGo L xs Post [] (d + 1) M pc lv st σ := by
  obtain ⟨r1, σ1, h1, h2⟩ := hr
  exact zGo_c hf ha hcs h1 h2
end WK
theorem c_geF {a b : Nat} (h : a < b) (hb : b ≤ 1000000) : iv_c2 .ge (Int32.ofNat a) (Int32.ofNat b) = false := by
  cases hz : iv_c2 .ge (Int32.ofNat a) (Int32.ofNat b) with
  | false => rfl
  | true =>
    have := zch_32.mp hz
    have e1 : (Int32.ofNat a).toInt = a := Int32.toInt_ofNat_of_lt (by omega)
    have e2 : (Int32.ofNat b).toInt = b := Int32.toInt_ofNat_of_lt (by omega)
    simp only [zch] at this
    omega
theorem c_geT {a b : Nat} (h : b ≤ a) (ha : a ≤ 1000000) : iv_c2 .ge (Int32.ofNat a) (Int32.ofNat b) = true := zch_32.mpr (by
  have e1 : (Int32.ofNat a).toInt = a := Int32.toInt_ofNat_of_lt (by omega)
  have e2 : (Int32.ofNat b).toInt = b := Int32.toInt_ofNat_of_lt (by omega)
  show (Int32.ofNat b).toInt ≤ (Int32.ofNat a).toInt
  omega)
theorem iv_d1_d1 (i : Nat) : ∀ l : iv_L, iv_d1 i (iv_d1 i l) = iv_d1 i l
  | [] => rfl
  | q :: r => by
    have e : ∀ (q : Nat × Value) (r : iv_L), iv_d1 i (q :: r) = bif (Nat.beq q.1 i || (Nat.beq (q.1 + 1) i && Nat.beq q.2.category 2)) then iv_d1 i r else q :: iv_d1 i r := fun _ _ => rfl
    rw [e q r]
    cases hb : (Nat.beq q.1 i || (Nat.beq (q.1 + 1) i && Nat.beq q.2.category 2))
    · simp only [cond_false]
      rw [e, hb, iv_d1_d1 i r]
      rfl
    · simp only [cond_true]
      exact iv_d1_d1 i r
/-- σ' is σ but for the cell A, which is e -/
def mD (σ σ' : iv_H) (A : Nat) (e : iv_E) : Prop := (σ'.1 = σ.1 ∧ σ'.2.2 = σ.2.2) ∧ iv_get σ' A = some e ∧ ∀ a, a ≠ A → iv_get σ' a = iv_get σ a
theorem mD_rf {σ : iv_H} {A : Nat} {e : iv_E} (h : iv_get σ A = some e) : mD σ σ A e := ⟨⟨rfl, rfl⟩, h, fun _ _ => rfl⟩
theorem mD_put {σ σ' : iv_H} {A : Nat} {e e2 : iv_E} (h : mD σ σ' A e) : mD σ (iv_put σ' A e2) A e2 := by
  refine ⟨⟨(iv_put_sz h.2.1).1.trans h.1.1, (iv_put_sz h.2.1).2.trans h.1.2⟩, iv_gp_s h.2.1, fun a ha => ?_⟩
  rw [← h.2.2 a ha]
  cases hg : iv_get σ' a with
  | none => exact iv_put_none h.2.1 hg
  | some x => exact iv_gp_n h.2.1 hg ha
theorem mD_put2 {σ : iv_H} {A : Nat} {e e2 : iv_E} (h : iv_get σ A = some e) : mD σ (iv_put σ A e2) A e2 := mD_put (mD_rf h)
theorem mD_n {σ σ' : iv_H} {A a : Nat} {e : iv_E} {x : Option iv_E} (h : mD σ σ' A e) (ha : a ≠ A) (hx : iv_get σ a = x) : iv_get σ' a = x := (h.2.2 a ha).trans hx
theorem mD_A {σ σ' : iv_H} {A : Nat} {e : iv_E} {x : Option iv_E} (h : mD σ σ' A e) {a : Nat} (ha : a ≠ A) : mA σ' a = mA σ a := by
  unfold mA
  rw [h.2.2 a ha]
theorem mD_As {σ σ' : iv_H} {A tag len : Nat} {g : Nat → Int32} (h : mD σ σ' A (.inl (tag, len, .inl g))) : mA σ' A = g := hA_of h.2.1
theorem mD_F {σ σ' : iv_H} {A : Nat} {e : iv_E} (h : mD σ σ' A e) (ha : 548 ≠ A) (j : Nat) : mF σ' j = mF σ j := by
  unfold mF
  rw [h.2.2 548 ha]
theorem mD_zI {σ σ' : iv_H} {A : Nat} {e : iv_E} (hI : zI m_τ m_ty σ) (h : mD σ σ' A e) (he : ∀ T, m_ty (m_τ A) = some T → zcell m_τ T e) : zI m_τ m_ty σ' := by
  intro b T hT
  by_cases hb : b = A
  · subst hb
    exact ⟨e, h.2.1, he T hT⟩
  · obtain ⟨e1, h1, h2⟩ := hI b T hT
    exact ⟨e1, mD_n h hb h1, h2⟩
theorem mD_zFr {σ σ' : iv_H} {A : Nat} {x y : Nat × vp_A} {ms : zm} (hx : iv_get σ A = some (.inl x)) (h : mD σ σ' A (.inl y)) (hm : zmem (1, m_τ A, 0) ms = true) : zFr m_τ ms σ σ' := by
  refine ⟨h.1, fun b => ⟨fun c2 fs2 h2 => ?_, fun z h2 hz => ?_, fun tag len f h2 hz => ?_⟩⟩
  · by_cases hb : b = A
    · subst hb; rw [hx] at h2; cases h2
    · exact ⟨fs2, mD_n h hb h2, fun _ _ => rfl⟩
  · by_cases hb : b = A
    · subst hb
      rw [(zmt_of hm).1] at hz
      cases hz
    · exact mD_n h hb h2
  · by_cases hb : b = A
    · subst hb; rw [hm] at hz; cases hz
    · exact ⟨f, mD_n h hb h2, fun _ _ => rfl⟩
theorem mD_zFf {σ σ' : iv_H} {j : Nat} {fs : List Value} {v : Value} {ms : zm} (hx : iv_get σ 548 = some (.inr (12, fs))) (h : mD σ σ' 548 (.inr (12, fs.set j v))) (hm : zmem (0, 12, j) ms = true) : zFr m_τ ms σ σ' := by
  refine ⟨h.1, fun b => ⟨fun c2 fs2 h2 => ?_, fun z h2 hz => ?_, fun tag len f h2 hz => ?_⟩⟩
  · by_cases hb : b = 548
    · subst hb
      rw [hx] at h2
      cases h2
      refine ⟨fs.set j v, h.2.1, fun i hi => ?_⟩
      rw [iv_nth_set, if_neg]
      intro e
      rw [e.1, hm] at hi
      cases hi
    · exact ⟨fs2, mD_n h hb h2, fun _ _ => rfl⟩
  · by_cases hb : b = 548
    · subst hb; rw [hx] at h2; cases h2
    · exact mD_n h hb h2
  · by_cases hb : b = 548
    · subst hb; rw [hx] at h2; cases h2
    · exact ⟨f, mD_n h hb h2, fun _ _ => rfl⟩
/-- copied as far as k -/
theorem cp_s {f s : Nat → Int32} {off lo k : Nat} : upd (va_cpy s f off lo k) (lo + k) (s (off + k)) = va_cpy s f off lo (k + 1) := by
  funext i
  rw [upd_at, zcpy_at, zcpy_at]
  by_cases h : i = lo + k
  · rw [if_pos h, if_pos (by omega)]
    rw [show off + (i - lo) = off + k by omega]
  · rw [if_neg h]
    by_cases h2 : lo ≤ i ∧ i < lo + k
    · rw [if_pos h2, if_pos (by omega)]
    · rw [if_neg h2, if_neg (by omega)]
theorem cp_sL {f s : Nat → Int64} {off lo k : Nat} : vp_updL (va_cpy s f off lo k) (lo + k) (s (off + k)) = va_cpy s f off lo (k + 1) := by
  funext i
  rw [updL_at, zcpy_at, zcpy_at]
  by_cases h : i = lo + k
  · rw [if_pos h, if_pos (by omega)]
    rw [show off + (i - lo) = off + k by omega]
  · rw [if_neg h]
    by_cases h2 : lo ≤ i ∧ i < lo + k
    · rw [if_pos h2, if_pos (by omega)]
    · rw [if_neg h2, if_neg (by omega)]
theorem cp_0 {α : Type} {f s : Nat → α} {off lo : Nat} : va_cpy s f off lo 0 = f := by
  funext i
  rw [zcpy_at, if_neg (by omega)]
/-- the fields of the reference that are arrays -/
def mO (fs : List Value) : Prop := fs.length = 49 ∧ iv_nth fs 1 = some (.ref 550) ∧ iv_nth fs 14 = some (.ref 552) ∧ iv_nth fs 15 = some (.ref 554) ∧ iv_nth fs 16 = some (.ref 556) ∧ iv_nth fs 17 = some (.ref 558) ∧ iv_nth fs 18 = some (.ref 560) ∧ iv_nth fs 19 = some (.ref 562) ∧ iv_nth fs 20 = some (.ref 564) ∧ iv_nth fs 21 = some (.ref 566) ∧ iv_nth fs 22 = some (.ref 568) ∧ iv_nth fs 23 = some (.ref 570) ∧ iv_nth fs 27 = some (.ref 574) ∧ iv_nth fs 28 = some (.ref 576) ∧ iv_nth fs 29 = some (.ref 578) ∧ iv_nth fs 40 = some (.ref 586) ∧ iv_nth fs 44 = some (.ref 590)
theorem mO_of {σ : iv_H} (hI : zI m_τ m_ty σ) : ∃ fs, iv_get σ 548 = some (.inr (12, fs)) ∧ mO fs ∧ (∃ x : Int32, iv_nth fs 24 = some (.int x) ∧ 0 ≤ x.toInt ∧ x.toInt ≤ 8) ∧ (∃ x : Int32, iv_nth fs 45 = some (.int x) ∧ 0 ≤ x.toInt ∧ x.toInt ≤ 40) ∧ (∃ x : Int32, iv_nth fs 42 = some (.int x) ∧ 0 ≤ x.toInt ∧ x.toInt ≤ 40) ∧ ∃ x : Int64, iv_nth fs 12 = some (.long x) := by
  obtain ⟨fs, h1, h2, h3⟩ := zI_obj hI (a := 548) (t := 22) rfl rfl
  have h2 : fs.length = 49 := h2
  have rf : ∀ (j t : Nat), 73 ≤ t → iv_nth ((match m_ty 22 with | some (.inl (_, cs)) => cs | _ => []) : List zc) j = some (t + 2, 0, 1000) → j < 49 → iv_nth fs j = some (.ref (550 + 2 * (t - 73))) := by
    intro j t ht hj hl
    obtain ⟨x, hx⟩ := iv_nth_some (l := fs) (n := j) (by omega)
    obtain ⟨a, rfl, _, _, ha⟩ : ∃ a : Nat, x = .ref a ∧ (0 : Int) ≤ a ∧ (a : Int) ≤ 1000 ∧ m_τ a = t := h3 j _ x hj hx
    rw [hx, m_un ha ht]
  refine ⟨fs, h1, ⟨h2, rf 1 73 (by decide) rfl (by decide), rf 14 74 (by decide) rfl (by decide), rf 15 75 (by decide) rfl (by decide), rf 16 76 (by decide) rfl (by decide), rf 17 77 (by decide) rfl (by decide), rf 18 78 (by decide) rfl (by decide), rf 19 79 (by decide) rfl (by decide), rf 20 80 (by decide) rfl (by decide), rf 21 81 (by decide) rfl (by decide), rf 22 82 (by decide) rfl (by decide), rf 23 83 (by decide) rfl (by decide), rf 27 85 (by decide) rfl (by decide), rf 28 86 (by decide) rfl (by decide), rf 29 87 (by decide) rfl (by decide), rf 40 91 (by decide) rfl (by decide), rf 44 93 (by decide) rfl (by decide)⟩, ?_, ?_, ?_, ?_⟩
  · obtain ⟨x, hx⟩ := iv_nth_some (l := fs) (n := 24) (by omega)
    obtain ⟨y, rfl, a, b⟩ : ∃ y : Int32, x = .int y ∧ 0 ≤ y.toInt ∧ y.toInt ≤ 8 := h3 24 _ x rfl hx
    exact ⟨y, hx, a, b⟩
  · obtain ⟨x, hx⟩ := iv_nth_some (l := fs) (n := 45) (by omega)
    obtain ⟨y, rfl, a, b⟩ : ∃ y : Int32, x = .int y ∧ 0 ≤ y.toInt ∧ y.toInt ≤ 40 := h3 45 _ x rfl hx
    exact ⟨y, hx, a, b⟩
  · obtain ⟨x, hx⟩ := iv_nth_some (l := fs) (n := 42) (by omega)
    obtain ⟨y, rfl, a, b⟩ : ∃ y : Int32, x = .int y ∧ 0 ≤ y.toInt ∧ y.toInt ≤ 40 := h3 42 _ x rfl hx
    exact ⟨y, hx, a, b⟩
  · obtain ⟨x, hx⟩ := iv_nth_some (l := fs) (n := 12) (by omega)
    obtain ⟨y, rfl, _⟩ : ∃ y : Int64, x = .long y ∧ _ ≤ y.toInt ∧ y.toInt ≤ _ := h3 12 (1, _, _) x rfl hx
    exact ⟨y, hx⟩
theorem mO_set {fs : List Value} (h : mO fs) {j : Nat} {x : Int32} (hj : j = 24 ∨ j = 45) : mO (fs.set j (.int x)) := by
  unfold mO at h ⊢
  simp only [iv_nth_set, List.length_set]
  rcases hj with rfl | rfl <;> simpa using h
