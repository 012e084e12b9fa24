/-! ===== runs without a count of steps, and the rules by which they are told ===== -/
theorem iv_run_up (L : Nat) (xs : Nat → Int32) : ∀ (n d M pc : Nat) (lv : iv_L) (st : List Value) (σ : iv_H) (y : Option Value × iv_H), iv_run L xs n d M pc lv st σ = some y → iv_run L xs (n + 1) d M pc lv st σ = some y := by
  intro n
  induction n with
  | zero => intro d M pc lv st σ y h; cases h
  | succ n ih =>
    intro d M pc lv st σ y h
    rw [iv_run_s] at h ⊢
    unfold iv_step at h ⊢
    split at h
    · rename_i o ho
      unfold iv_do at h ⊢
      split at h
      · rename_i f
        unfold iv_go1 at h ⊢
        split at h
        · rename_i pc' lv' st' σ1 hf
          rw [iv_fp_eq] at h ⊢
          exact ih _ _ _ _ _ _ _ h
        · cases h
      · exact h
      · unfold iv_cl at h ⊢
        split at h
        · rename_i as rest d' hq
          simp only [Bool.cond_eq_ite] at h ⊢
          split at h
          · rename_i hcs
            rw [if_pos hcs]
            split at h
            · rename_i r1 σ1 hrun
              have hrun2 := ih _ _ _ _ _ _ _ hrun
              simp only [hrun2]
              rw [iv_fp_eq] at h ⊢
              exact ih _ _ _ _ _ _ _ h
            · cases h
          · cases h
        · cases h
    · cases h
theorem iv_run_le (L : Nat) (xs : Nat → Int32) {n n' d M pc : Nat} {lv : iv_L} {st : List Value} {σ : iv_H} {y : Option Value × iv_H} (h : n ≤ n') (hr : iv_run L xs n d M pc lv st σ = some y) : iv_run L xs n' d M pc lv st σ = some y := by
  induction h with
  | refl => exact hr
  | step _ ih => exact iv_run_up L xs _ _ _ _ _ _ _ _ ih
/-- from here the method M comes to its end with r and σ' -/
def iv_Rn (L : Nat) (xs : Nat → Int32) (d M pc : Nat) (lv : iv_L) (st : List Value) (σ : iv_H) (r : Option Value) (σ' : iv_H) : Prop := ∃ n, iv_run L xs n d M pc lv st σ = some (r, σ')
section IVN2
variable {L : Nat} {xs : Nat → Int32} {d M pc pc' : Nat} {lv lv' : iv_L} {st st' r0 : List Value} {σ σ1 σ' : iv_H} {r : Option Value} {f : iv_F}
/-- one operation -/
theorem Rs (hf : iv_f1 (iv_p M) pc = some (.inl f)) (hs : f L xs pc lv st σ = some (pc', lv', st', σ1)) (k : iv_Rn L xs d M pc' lv' st' σ1 r σ') : iv_Rn L xs d M pc lv st σ r σ' := by
  obtain ⟨n, hn⟩ := k
  refine ⟨n + 1, ?_⟩
  rw [iv_run_s]
  unfold iv_step
  rw [hf]
  unfold iv_do iv_go1
  simp only [hs]
  rw [iv_fp_eq]
  exact hn
/-- the return -/
theorem Rr {k : Nat} (hf : iv_f1 (iv_p M) pc = some (.inr (.inl k))) (hs : iv_rt k st σ = some (r, σ')) : iv_Rn L xs d M pc lv st σ r σ' := by
  refine ⟨1, ?_⟩
  rw [iv_run_s]
  unfold iv_step
  rw [hf]
  exact hs
/-- a call -/
theorem Rc {kind m nn ci : Nat} {as rest : List Value} {r1 : Option Value} (hf : iv_f1 (iv_p M) pc = some (.inr (.inr (kind, m, nn, ci)))) (ha : iv_args kind nn ci st σ = some (as, rest)) (hcs : Nat.ble (iv_cs as) (iv_m m).2.2.1 = true) (hr : iv_Rn L xs d m 0 (lv_args 0 as) [] σ r1 σ1) (k : iv_Rn L xs (d + 1) M (pc + 3) lv (r1.toList ++ rest) σ1 r σ') : iv_Rn L xs (d + 1) M pc lv st σ r σ' := by
  obtain ⟨n1, h1⟩ := hr
  obtain ⟨n2, h2⟩ := k
  refine ⟨max n1 n2 + 1, ?_⟩
  rw [iv_run_s]
  unfold iv_step
  rw [hf]
  show iv_cl (iv_run L xs (max n1 n2)) (d + 1) M pc lv σ m (iv_args kind nn ci st σ) = _
  rw [ha]
  unfold iv_cl
  simp only [Bool.cond_eq_ite]
  rw [if_pos hcs, iv_run_le L xs (Nat.le_max_left n1 n2) h1]
  simp only
  rw [iv_fp_eq]
  exact iv_run_le L xs (Nat.le_max_right n1 n2) h2
theorem o_IfT {c : ClassFile.Cond} {off : Int} {x : Int32} {t : Nat} (ht : iv_tgt pc off = some t) (h : iv_c2 c x 0 = true) : iv_oIf c off L xs pc lv (.int x :: r0) σ = some (t, lv, r0, σ) := by
  simp only [iv_oIf, iv_br, ht, h, cond_true]
theorem o_IfF {c : ClassFile.Cond} {off : Int} {x : Int32} {t : Nat} (ht : iv_tgt pc off = some t) (h : iv_c2 c x 0 = false) : iv_oIf c off L xs pc lv (.int x :: r0) σ = some (pc + 3, lv, r0, σ) := by
  simp only [iv_oIf, iv_br, ht, h, cond_false]
theorem o_IcT {c : ClassFile.Cond} {off : Int} {x y : Int32} {t : Nat} (ht : iv_tgt pc off = some t) (h : iv_c2 c x y = true) : iv_oIc c off L xs pc lv (.int y :: .int x :: r0) σ = some (t, lv, r0, σ) := by
  simp only [iv_oIc, iv_br, ht, h, cond_true]
theorem o_IcF {c : ClassFile.Cond} {off : Int} {x y : Int32} {t : Nat} (ht : iv_tgt pc off = some t) (h : iv_c2 c x y = false) : iv_oIc c off L xs pc lv (.int y :: .int x :: r0) σ = some (pc + 3, lv, r0, σ) := by
  simp only [iv_oIc, iv_br, ht, h, cond_false]
theorem o_GF {ci j a : Nat} {fs : List Value} {v : Value} (hg : iv_get σ a = some (.inr (ci, fs))) (hv : iv_nth fs j = some v) : iv_oGF ci j L xs pc lv (.ref a :: r0) σ = some (pc + 3, lv, v :: r0, σ) := by
  simp only [iv_oGF, hg, Nat.beq_refl, cond_true, hv]
theorem o_PF {ci j a : Nat} {ty : FieldType} {fs : List Value} {v : Value} (hg : iv_get σ a = some (.inr (ci, fs))) (hf : iv_fit ty v = true) (hl : Nat.blt j fs.length = true) : iv_oPF ci j ty L xs pc lv (v :: .ref a :: r0) σ = some (pc + 3, lv, r0, iv_put σ a (.inr (ci, fs.set j v))) := by
  simp only [iv_oPF, hg, Nat.beq_refl, cond_true, hf, hl, Bool.and_self]
theorem o_Il {a n : Nat} {g : Nat → Int32} {i : Int32} (h1 : Nat.beq a 1 = false) (h2 : Nat.beq a 101 = false) (hg : iv_get σ a = some (.inl (0, n, .inl g))) (hi : iv_in i n = true) : iv_oIl L xs pc lv (.int i :: .ref a :: r0) σ = some (pc + 1, lv, .int (g i.toNatClampNeg) :: r0, σ) := by
  simp only [iv_oIl, h1, h2, hg, hi, cond_true, cond_false]
theorem o_Ist {a n : Nat} {g : Nat → Int32} {i x : Int32} (hg : iv_get σ a = some (.inl (0, n, .inl g))) (hi : iv_in i n = true) : iv_oIst L xs pc lv (.int x :: .int i :: .ref a :: r0) σ = some (pc + 1, lv, r0, iv_put σ a (.inl (0, n, .inl (upd g i.toNatClampNeg x)))) := by
  simp only [iv_oIst, hg, hi, cond_true]
theorem o_Len {a t : Nat} {x : vp_A} (h1 : Nat.beq a 1 = false) (hg : iv_get σ a = some (.inl (t, x))) (ht : Nat.ble t 7 = true) : iv_oLen L xs pc lv (.ref a :: r0) σ = some (pc + 1, lv, .int (Int32.ofNat x.1) :: r0, σ) := by
  simp only [iv_oLen, h1, hg, ht, cond_true, cond_false]
theorem o_TsO {dflt lo hi : Int} {offs : Array Int} {x : Int32} {t : Nat} (h : x.toInt < lo ∨ hi < x.toInt) (ht : iv_tgt pc dflt = some t) : iv_oTs dflt lo hi offs L xs pc lv (.int x :: r0) σ = some (t, lv, r0, σ) := by
  have h1 : (decide (x.toInt < lo) || decide (hi < x.toInt)) = true := by
    rw [Bool.or_eq_true]
    exact h.imp decide_eq_true decide_eq_true
  simp only [iv_oTs, h1, cond_true, iv_go, ht]
end IVN2
theorem iv_get_even {σ : iv_H} {k : Nat} (h : k < σ.1) : iv_get σ (2 * k) = some (σ.2.1 k) := by
  unfold iv_get
  rw [iv_fp_eq, show 2 * k % 2 = 0 by omega, show 2 * k / 2 = k by omega]
  rw [show Nat.beq 0 0 = true from rfl, show Nat.blt k σ.1 = true from by rw [Nat.blt_eq]; exact h]
  rfl
theorem iv_gp_s {σ : iv_H} {a : Nat} {x y : iv_E} (h : iv_get σ a = some x) : iv_get (iv_put σ a y) a = some y := by
  obtain ⟨k, rfl, hk, -⟩ := iv_get_ok h
  rw [iv_put_eq, iv_get_even (σ := (σ.1, iv_up σ.2.1 k y, σ.2.2)) hk]
  show some (iv_up σ.2.1 k y k) = _
  rw [iv_up_s]
theorem iv_gp_n {σ : iv_H} {a b : Nat} {x y z : iv_E} (ha : iv_get σ a = some x) (hb : iv_get σ b = some z) (h : b ≠ a) : iv_get (iv_put σ a y) b = some z := by
  obtain ⟨k, rfl, hk, -⟩ := iv_get_ok ha
  obtain ⟨j, rfl, hj, he⟩ := iv_get_ok hb
  rw [iv_put_eq, iv_get_even (σ := (σ.1, iv_up σ.2.1 k y, σ.2.2)) hj]
  show some (iv_up σ.2.1 k y j) = _
  rw [iv_up_n (by omega), he]
