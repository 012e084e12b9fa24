/-! ===== branches ===== -/
/-- facts of 'v c w' (B for what can't be equal at an end) -/
def zlf (v w : zv) (k : Int) : zf := (v.2.1 - w.2.1 + k, zl_cm (-1) v.2.2 w.2.2)
def zcf (B : zB) (c : ClassFile.Cond) (v w : zv) : List zf := match c with
  | .lt => [zlf v w 1]
  | .le => [zlf v w 0]
  | .gt => [zlf w v 1]
  | .ge => [zlf w v 0]
  | .eq => [zlf v w 0, zlf w v 0]
  | .ne => bif zle 0 (zvl B (zv_cm (-1) v w)) then [zlf w v 1] else bif zle (zvh B (zv_cm (-1) v w)) 0 then [zlf v w 1] else []
def znc (c : ClassFile.Cond) : ClassFile.Cond := match c with
  | .lt => .ge
  | .le => .gt
  | .gt => .le
  | .ge => .lt
  | .eq => .ne
  | .ne => .eq
def zch (c : ClassFile.Cond) (x y : Int) : Prop := match c with
  | .lt => x < y
  | .le => x ≤ y
  | .gt => y < x
  | .ge => y ≤ x
  | .eq => x = y
  | .ne => x ≠ y
theorem zch_n {c : ClassFile.Cond} {x y : Int} : zch (znc c) x y ↔ ¬ zch c x y := by
  cases c <;> simp only [zch, znc] <;> omega
theorem zch_32 {c : ClassFile.Cond} {x y : Int32} : iv_c2 c x y = true ↔ zch c x.toInt y.toInt := by
  cases c
  · show decide (x = y) = true ↔ _
    rw [decide_eq_true_iff]; exact Int32.toInt_inj.symm
  · show decide (¬ x = y) = true ↔ _
    rw [decide_eq_true_iff]; exact (not_congr Int32.toInt_inj).symm
  · show decide (x < y) = true ↔ _
    rw [decide_eq_true_iff]; exact Int32.lt_iff_toInt_lt
  · show decide (y ≤ x) = true ↔ _
    rw [decide_eq_true_iff]; exact Int32.le_iff_toInt_le
  · show decide (y < x) = true ↔ _
    rw [decide_eq_true_iff]; exact Int32.lt_iff_toInt_lt
  · show decide (x ≤ y) = true ↔ _
    rw [decide_eq_true_iff]; exact Int32.le_iff_toInt_le
section ZBR
variable {τ : Nat → Nat} {ty : Nat → Option zt} {ρ : Nat → Int} {B : zB}
theorem zlf_ev {v w : zv} {k : Int} : (zlf v w k).1 + zl_ev ρ (zlf v w k).2 = zv_ev ρ v - zv_ev ρ w + k := by
  unfold zlf zv_ev
  rw [zl_cm_ev]
  show v.2.1 - w.2.1 + k + (zl_ev ρ v.2.2 + -1 * zl_ev ρ w.2.2) = _
  omega
theorem zcf_ok2 (h : zB_ok τ ty ρ B) {c : ClassFile.Cond} {v w : zv} (hv : zl_wf B.1.length v.2.2 = true) (hw : zl_wf B.1.length w.2.2 = true) (hc : zch c (zv_ev ρ v) (zv_ev ρ w)) : ∀ f ∈ zcf B c v w, zl_wf B.1.length f.2 = true ∧ f.1 + zl_ev ρ f.2 ≤ 0 := by
  have w1 : ∀ k, zl_wf B.1.length (zlf v w k).2 = true := fun k => zl_cm_wf hv hw
  have w2 : ∀ k, zl_wf B.1.length (zlf w v k).2 = true := fun k => zl_cm_wf hw hv
  have a1 := zvl_ok h (v := zv_cm (-1) v w) (zl_cm_wf hv hw)
  have a2 := zvh_ok h (v := zv_cm (-1) v w) (zl_cm_wf hv hw)
  rw [zv_cm_ev] at a1 a2
  intro f hf
  cases c
  · simp only [zcf, List.mem_cons, List.not_mem_nil, or_false] at hf
    have hc : zv_ev ρ v = zv_ev ρ w := hc
    rcases hf with rfl | rfl
    · exact ⟨w1 _, by rw [zlf_ev]; omega⟩
    · exact ⟨w2 _, by rw [zlf_ev]; omega⟩
  · have hc : zv_ev ρ v ≠ zv_ev ρ w := hc
    unfold zcf at hf
    cases hz : zle 0 (zvl B (zv_cm (-1) v w))
    · rw [hz] at hf
      cases hz2 : zle (zvh B (zv_cm (-1) v w)) 0
      · rw [hz2] at hf; cases hf
      · rw [hz2] at hf
        have g := zle_iff.mp hz2
        rcases List.mem_singleton.mp hf with rfl
        exact ⟨w1 _, by rw [zlf_ev]; omega⟩
    · rw [hz] at hf
      have g := zle_iff.mp hz
      rcases List.mem_singleton.mp hf with rfl
      exact ⟨w2 _, by rw [zlf_ev]; omega⟩
  · have hc : zv_ev ρ v < zv_ev ρ w := hc
    rcases List.mem_singleton.mp hf with rfl
    exact ⟨w1 _, by rw [zlf_ev]; omega⟩
  · have hc : zv_ev ρ w ≤ zv_ev ρ v := hc
    rcases List.mem_singleton.mp hf with rfl
    exact ⟨w2 _, by rw [zlf_ev]; omega⟩
  · have hc : zv_ev ρ w < zv_ev ρ v := hc
    rcases List.mem_singleton.mp hf with rfl
    exact ⟨w2 _, by rw [zlf_ev]; omega⟩
  · have hc : zv_ev ρ v ≤ zv_ev ρ w := hc
    rcases List.mem_singleton.mp hf with rfl
    exact ⟨w1 _, by rw [zlf_ev]; omega⟩
end ZBR
/-- facts one behind another -/
def zasL : zA → List zf → Option zA
  | A, [] => some A
  | A, f :: r => match zasA A f with
    | some A' => zasL A' r
    | none => none
theorem zasL_ok {τ : Nat → Nat} {ty : Nat → Option zt} {ρ : Nat → Int} {clv : iv_L} {cst : List Value} {σ : iv_H} : ∀ {fs : List zf} {A : zA}, zA_ok τ ty ρ A clv cst σ → (∀ f ∈ fs, zl_wf A.1.1.length f.2 = true ∧ f.1 + zl_ev ρ f.2 ≤ 0) → ∃ A', zasL A fs = some A' ∧ zA_ok τ ty ρ A' clv cst σ ∧ A'.1.1.length = A.1.1.length ∧ A'.2 = A.2
  | [], A, h, _ => ⟨A, rfl, h, rfl, rfl⟩
  | f :: r, A, h, hf => by
    obtain ⟨A1, e1, e2, e3, e4⟩ := zasA_ok h (hf f List.mem_cons_self).1 (hf f List.mem_cons_self).2
    obtain ⟨A2, g1, g2, g3, g4⟩ := zasL_ok (fs := r) e2 (fun f2 hf2 => by rw [e3]; exact hf f2 (List.mem_cons_of_mem _ hf2))
    refine ⟨A2, ?_, g2, g3.trans e3, g4.trans e4⟩
    unfold zasL
    rw [e1]
    exact g1
/-- the longs of which a symbol is the comparison -/
def zlc (s : Nat) : List zd → Option (zv × zv)
  | [] => none
  | d :: r => bif Nat.beq d.1 0 && Nat.beq d.2.1 s then some d.2.2 else zlc s r
theorem zlc_in {s : Nat} : ∀ {ds : List zd} {p : zv × zv}, zlc s ds = some p → (0, s, p) ∈ ds
  | [], p, h => by cases h
  | d :: r, p, h => by
    unfold zlc at h
    cases hb : Nat.beq d.1 0 && Nat.beq d.2.1 s
    · rw [hb] at h; exact List.mem_cons_of_mem _ (zlc_in h)
    · rw [hb] at h
      rw [Bool.and_eq_true] at hb
      have h1 := Nat.eq_of_beq_eq_true hb.1
      have h2 := Nat.eq_of_beq_eq_true hb.2
      cases h
      rw [← h1, ← h2]
      exact List.mem_cons_self
/-- facts of 'v c 0' -/
def zcf0 (B : zB) (c : ClassFile.Cond) (v : zv) : List zf := zcf B c v (0, 0, []) ++ (match v with
  | (_, .ofNat 0, [(s, .ofNat 1)]) => (match zlc s B.2.2 with
    | some p => zcf B c p.1 p.2
    | none => [])
  | _ => [])
theorem zcf0_ok {τ : Nat → Nat} {ty : Nat → Option zt} {ρ : Nat → Int} {B : zB} (h : zB_ok τ ty ρ B) {c : ClassFile.Cond} {v : zv} (hv : zl_wf B.1.length v.2.2 = true) (hc : zch c (zv_ev ρ v) 0) : ∀ f ∈ zcf0 B c v, zl_wf B.1.length f.2 = true ∧ f.1 + zl_ev ρ f.2 ≤ 0 := by
  intro f hf
  unfold zcf0 at hf
  rcases List.mem_append.mp hf with hf | hf
  · exact zcf_ok2 h hv (w := (0, 0, [])) rfl (by rw [zev0]; exact hc) f hf
  · split at hf
    · rename_i k s _
      split at hf
      · rename_i p hp
        obtain ⟨d1, d2, d3, d4⟩ := h.2.2 _ (zlc_in hp)
        have e1 : zv_ev ρ (k, (.ofNat 0 : Int), [(s, (.ofNat 1 : Int))]) = ρ s := zev1
        rw [e1] at hc
        have d4 : (zv_ev ρ p.1 < zv_ev ρ p.2 → ρ s = -1) ∧ (zv_ev ρ p.1 = zv_ev ρ p.2 → ρ s = 0) ∧ (zv_ev ρ p.2 < zv_ev ρ p.1 → ρ s = 1) := d4
        obtain ⟨m1, m2, m3⟩ := d4
        refine zcf_ok2 h d2 d3 ?_ f hf
        rcases Int.lt_trichotomy (zv_ev ρ p.1) (zv_ev ρ p.2) with g | g | g
        · rw [m1 g] at hc
          cases c <;> simp only [zch] at hc ⊢ <;> omega
        · rw [m2 g] at hc
          cases c <;> simp only [zch] at hc ⊢ <;> omega
        · rw [m3 g] at hc
          cases c <;> simp only [zch] at hc ⊢ <;> omega
      · cases hf
    · cases hf
/-- a branch: facts of the one side, of the other -/
def zbr (A : zA) (ft ff : List zf) (pc : Nat) (off : Int) : zO := match iv_tgt pc off with
  | some t => some ((match zasL A ft with
      | some A' => [(t, A')]
      | none => []) ++ (match zasL A ff with
      | some A' => [(pc + 3, A')]
      | none => []))
  | none => none
theorem zbr_ok {τ : Nat → Nat} {ty : Nat → Option zt} {ms : zm} {ρ : Nat → Int} {A : zA} {clv : iv_L} {cst : List Value} {σ : iv_H} {n : Nat} {ft ff : List zf} {pc : Nat} {off : Int} {b : Bool} {outs : List (Nat × zA)} (hg : zbr A ft ff pc off = some outs) (hA : zA_ok τ ty ρ A clv cst σ) (hI : zI τ ty σ) (hn : A.1.1.length = n) (ht : b = true → ∀ f ∈ ft, zl_wf n f.2 = true ∧ f.1 + zl_ev ρ f.2 ≤ 0) (hf : b = false → ∀ f ∈ ff, zl_wf n f.2 = true ∧ f.1 + zl_ev ρ f.2 ≤ 0) : zQ τ ty ms ρ n σ outs (iv_br b pc off clv cst σ) := by
  subst hn
  unfold zbr at hg
  split at hg
  · rename_i t htg
    cases hg
    cases b
    · obtain ⟨A', e1, e2, e3, _⟩ := zasL_ok hA (hf rfl)
      refine ⟨pc + 3, clv, cst, σ, A', ρ, ?_, ?_, e2, hI, zag_rf, by omega, zFr_rf⟩
      · unfold iv_br; rw [htg]; rfl
      · rw [e1]; exact List.mem_append_right _ (List.mem_singleton.mpr rfl)
    · obtain ⟨A', e1, e2, e3, _⟩ := zasL_ok hA (ht rfl)
      refine ⟨t, clv, cst, σ, A', ρ, ?_, ?_, e2, hI, zag_rf, by omega, zFr_rf⟩
      · unfold iv_br; rw [htg]; rfl
      · rw [e1]; exact List.mem_append_left _ (List.mem_singleton.mpr rfl)
  · cases hg
section ZBR2
variable {τ : Nat → Nat} {ty : Nat → Option zt} {ms : zm}
def zoIf (c : ClassFile.Cond) (off : Int) : Nat → zA → zO := fun pc A => match A.2.2.1 with
  | v :: r => bif Nat.beq v.1 0 then zbr (A.1, A.2.1, r, A.2.2.2) (zcf0 A.1 c v) (zcf0 A.1 (znc c) v) pc off else none
  | _ => none
theorem zoIf_ok (c : ClassFile.Cond) (off : Int) : zS τ ty ms (iv_oIf c off) (zoIf c off) := by
  intro ρ A clv cst σ L xs pc outs hg hA hI
  unfold zoIf at hg
  split at hg
  · rename_i v r hst
    cases hb : Nat.beq v.1 0
    · rw [hb] at hg; cases hg
    · rw [hb] at hg
      have h1 := hA.2.2.1
      rw [hst] at h1
      obtain ⟨x0, c1, rfl, b1, h3⟩ := zst_c h1
      obtain ⟨x, rfl, ex⟩ := zdn0 b1.2 (Nat.eq_of_beq_eq_true hb)
      have key := zch_32 (c := c) (x := x) (y := 0)
      rw [ex, show (0 : Int32).toInt = 0 from rfl] at key
      refine zbr_ok (b := iv_c2 c x 0) hg (zA_st hA h3) hI rfl (fun hb2 => zcf0_ok hA.1 b1.1 (key.mp hb2)) (fun hb2 => zcf0_ok hA.1 b1.1 (zch_n.mpr fun h9 => ?_))
      rw [key.mpr h9] at hb2; cases hb2
  · cases hg
def zoIc (c : ClassFile.Cond) (off : Int) : Nat → zA → zO := fun pc A => match A.2.2.1 with
  | w :: v :: r => bif Nat.beq v.1 0 && Nat.beq w.1 0 then zbr (A.1, A.2.1, r, A.2.2.2) (zcf A.1 c v w) (zcf A.1 (znc c) v w) pc off else none
  | _ => none
theorem zoIc_ok (c : ClassFile.Cond) (off : Int) : zS τ ty ms (iv_oIc c off) (zoIc c off) := by
  intro ρ A clv cst σ L xs pc outs hg hA hI
  unfold zoIc at hg
  split at hg
  · rename_i w v r hst
    cases hb : Nat.beq v.1 0 && Nat.beq w.1 0
    · rw [hb] at hg; cases hg
    · rw [hb] at hg
      rw [Bool.and_eq_true] at hb
      have h1 := hA.2.2.1
      rw [hst] at h1
      obtain ⟨y0, c1, rfl, a1, h2⟩ := zst_c h1
      obtain ⟨x0, c2, rfl, b1, h3⟩ := zst_c h2
      obtain ⟨x, rfl, ex⟩ := zdn0 b1.2 (Nat.eq_of_beq_eq_true hb.1)
      obtain ⟨y, rfl, ey⟩ := zdn0 a1.2 (Nat.eq_of_beq_eq_true hb.2)
      have key := zch_32 (c := c) (x := x) (y := y)
      rw [ex, ey] at key
      refine zbr_ok (b := iv_c2 c x y) hg (zA_st hA h3) hI rfl (fun hb2 => zcf_ok2 hA.1 b1.1 a1.1 (key.mp hb2)) (fun hb2 => zcf_ok2 hA.1 b1.1 a1.1 (zch_n.mpr fun h9 => ?_))
      rw [key.mpr h9] at hb2; cases hb2
  · cases hg
def zoGo (off : Int) : Nat → zA → zO := fun pc A => match iv_tgt pc off with
  | some t => some [(t, A)]
  | none => none
theorem zoGo_ok (off : Int) : zS τ ty ms (iv_oGo off) (zoGo off) := by
  intro ρ A clv cst σ L xs pc outs hg hA hI
  unfold zoGo at hg
  split at hg
  · rename_i t ht
    cases hg
    refine zQ_one ?_ hA hI zag_rf (Nat.le_refl _)
    unfold iv_oGo iv_go
    rw [ht]
  · cases hg
/-- one of a switch's places -/
def zgo1 (A : zA) (fs : List zf) (pc : Nat) (off : Int) : zO := match iv_tgt pc off with
  | some t => some (match zasL A fs with
      | some A' => [(t, A')]
      | none => [])
  | none => none
def zap (a b : zO) : zO := match a, b with
  | some x, some y => some (x ++ y)
  | _, _ => none
def zcases (A : zA) (v : zv) (pc : Nat) : Int → List Int → zO
  | _, [] => some []
  | k, off :: r => zap (zgo1 A (zcf A.1 .eq v (0, k, [])) pc off) (zcases A v pc (k + 1) r)
theorem zgo1_ok {ρ : Nat → Int} {A : zA} {clv : iv_L} {cst : List Value} {σ : iv_H} {fs : List zf} {pc : Nat} {off : Int} {outs : List (Nat × zA)} (hg : zgo1 A fs pc off = some outs) (hA : zA_ok τ ty ρ A clv cst σ) (hI : zI τ ty σ) (hf : ∀ f ∈ fs, zl_wf A.1.1.length f.2 = true ∧ f.1 + zl_ev ρ f.2 ≤ 0) : zQ τ ty ms ρ A.1.1.length σ outs (iv_go pc off clv cst σ) := by
  unfold zgo1 at hg
  split at hg
  · rename_i t ht
    cases hg
    obtain ⟨A', e1, e2, e3, _⟩ := zasL_ok hA hf
    rw [e1]
    refine zQ_one ?_ e2 hI zag_rf (by omega)
    unfold iv_go
    rw [ht]
  · cases hg
theorem zQ_mono {ρ : Nat → Int} {n : Nat} {σ : iv_H} {o1 o2 : List (Nat × zA)} {X : iv_X} (h : zQ τ ty ms ρ n σ o1 X) (hs : ∀ q ∈ o1, q ∈ o2) : zQ τ ty ms ρ n σ o2 X := by
  obtain ⟨a, b, c, d, e, f, h1, h2, h3⟩ := h
  exact ⟨a, b, c, d, e, f, h1, hs _ h2, h3⟩
theorem zap_in {a b : zO} {o : List (Nat × zA)} (h : zap a b = some o) : ∃ x y, a = some x ∧ b = some y ∧ o = x ++ y := by
  unfold zap at h
  split at h
  · rename_i x y
    cases h
    exact ⟨x, y, rfl, rfl, rfl⟩
  · cases h
theorem zcases_ok {ρ : Nat → Int} {A : zA} {clv : iv_L} {cst : List Value} {σ : iv_H} {v : zv} {pc : Nat} (hA : zA_ok τ ty ρ A clv cst σ) (hI : zI τ ty σ) (hv : zl_wf A.1.1.length v.2.2 = true) : ∀ {l : List Int} {k : Int} {outs : List (Nat × zA)} {j : Nat} {off : Int}, zcases A v pc k l = some outs → iv_nth l j = some off → zv_ev ρ v = k + (j : Int) → zQ τ ty ms ρ A.1.1.length σ outs (iv_go pc off clv cst σ)
  | [], k, outs, j, off, _, hj, _ => by cases hj
  | o :: r, k, outs, j, off, hg, hj, hk => by
    unfold zcases at hg
    obtain ⟨x, y, hx, hy, rfl⟩ := zap_in hg
    cases j with
    | zero =>
      cases hj
      exact zQ_mono (zgo1_ok hx hA hI (zcf_ok2 hA.1 hv rfl (by show zv_ev ρ v = zv_ev ρ (0, k, []); rw [zev0]; omega))) (fun q hq => List.mem_append_left _ hq)
    | succ j =>
      exact zQ_mono (zcases_ok hA hI hv hy hj (by omega)) (fun q hq => List.mem_append_right _ hq)
def zoTs (dflt lo hi : Int) (offs : Array Int) : Nat → zA → zO := fun pc A => match A.2.2.1 with
  | v :: r => bif Nat.beq v.1 0 then (fun A1 => zap (zcases A1 v pc lo offs.toList) (zap (zgo1 A1 (zcf A.1 .lt v (0, lo, [])) pc dflt) (zgo1 A1 (zcf A.1 .gt v (0, hi, [])) pc dflt))) (A.1, A.2.1, r, A.2.2.2) else none
  | _ => none
theorem iv_oTs_nth {dflt lo hi : Int} {offs : Array Int} {L : Nat} {xs : Nat → Int32} {pc : Nat} {lv : iv_L} {r : List Value} {σ : iv_H} {x : Int32} (h1 : ¬ x.toInt < lo) (h2 : ¬ hi < x.toInt) : iv_oTs dflt lo hi offs L xs pc lv (.int x :: r) σ = match iv_nth offs.toList (x.toInt - lo).toNat with
    | some off => iv_go pc off lv r σ
    | none => none := by
  unfold iv_oTs
  dsimp only
  rw [decide_eq_false h1, decide_eq_false h2]
  rfl
theorem zoTs_ok (dflt lo hi : Int) (offs : Array Int) (hl : (offs.toList.length : Int) = hi - lo + 1) : zS τ ty ms (iv_oTs dflt lo hi offs) (zoTs dflt lo hi offs) := by
  intro ρ A clv cst σ L xs pc outs hg hA hI
  unfold zoTs at hg
  split at hg
  · rename_i v r hst
    cases hb : Nat.beq v.1 0
    · rw [hb] at hg; cases hg
    · rw [hb] at hg
      simp only [cond_true] at hg
      obtain ⟨x1, y1, hx1, hy1, rfl⟩ := zap_in hg
      obtain ⟨x2, y2, hx2, hy2, rfl⟩ := zap_in hy1
      have h1 := hA.2.2.1
      rw [hst] at h1
      obtain ⟨x0, c1, rfl, b1, h3⟩ := zst_c h1
      obtain ⟨x, rfl, ex⟩ := zdn0 b1.2 (Nat.eq_of_beq_eq_true hb)
      have hA1 := zA_st hA h3
      by_cases g1 : x.toInt < lo
      · have hq := zgo1_ok (ms := ms) hx2 hA1 hI (zcf_ok2 hA.1 b1.1 (w := (0, lo, [])) rfl (by show zv_ev ρ v < zv_ev ρ (0, lo, []); rw [zev0, ← ex]; exact g1))
        have e1 : iv_oTs dflt lo hi offs L xs pc clv (.int x :: c1) σ = iv_go pc dflt clv c1 σ := by
          unfold iv_oTs
          dsimp only
          rw [decide_eq_true g1]
          rfl
        rw [e1]
        exact zQ_mono hq (fun q hq => List.mem_append_right _ (List.mem_append_left _ hq))
      · by_cases g2 : hi < x.toInt
        · have hq := zgo1_ok (ms := ms) hy2 hA1 hI (zcf_ok2 hA.1 b1.1 (w := (0, hi, [])) rfl (by show zv_ev ρ (0, hi, []) < zv_ev ρ v; rw [zev0, ← ex]; exact g2))
          have e1 : iv_oTs dflt lo hi offs L xs pc clv (.int x :: c1) σ = iv_go pc dflt clv c1 σ := by
            unfold iv_oTs
            dsimp only
            rw [decide_eq_false g1, decide_eq_true g2]
            rfl
          rw [e1]
          exact zQ_mono hq (fun q hq => List.mem_append_right _ (List.mem_append_right _ hq))
        · rw [iv_oTs_nth g1 g2]
          obtain ⟨off, hoff⟩ := iv_nth_some (l := offs.toList) (n := (x.toInt - lo).toNat) (by omega)
          rw [hoff]
          exact zQ_mono (zcases_ok (ms := ms) hA1 hI b1.1 hx1 hoff (by rw [← ex]; omega)) (fun q hq => List.mem_append_left _ hq)
  · cases hg
/-- lookupswitch: each of its keys, and the rest -/
def zkeys (A : zA) (v : zv) (pc : Nat) (dflt : Int) : List (Int × Int) → zO
  | [] => zgo1 A [] pc dflt
  | q :: r => zap (zgo1 A (zcf A.1 .eq v (0, q.1, [])) pc q.2) (zkeys A v pc dflt r)
theorem zkeys_ok {ρ : Nat → Int} {A : zA} {clv : iv_L} {cst : List Value} {σ : iv_H} {v : zv} {pc : Nat} {dflt : Int} (hA : zA_ok τ ty ρ A clv cst σ) (hI : zI τ ty σ) (hv : zl_wf A.1.1.length v.2.2 = true) : ∀ {l : List (Int × Int)} {outs : List (Nat × zA)}, zkeys A v pc dflt l = some outs → zQ τ ty ms ρ A.1.1.length σ outs (iv_go pc (Op.lookupswitch.offset l dflt (zv_ev ρ v)) clv cst σ)
  | [], outs, hg => zgo1_ok hg hA hI (fun f hf => by cases hf)
  | q :: r, outs, hg => by
    unfold zkeys at hg
    obtain ⟨x, y, hx, hy, rfl⟩ := zap_in hg
    by_cases h : zv_ev ρ v = q.1
    · have e1 : Op.lookupswitch.offset (q :: r) dflt (zv_ev ρ v) = q.2 := by
        obtain ⟨q1, q2⟩ := q
        simp [Op.lookupswitch.offset, h]
      rw [e1]
      exact zQ_mono (zgo1_ok hx hA hI (zcf_ok2 hA.1 hv rfl (by show zv_ev ρ v = zv_ev ρ (0, q.1, []); rw [zev0]; exact h))) (fun q hq => List.mem_append_left _ hq)
    · have e1 : Op.lookupswitch.offset (q :: r) dflt (zv_ev ρ v) = Op.lookupswitch.offset r dflt (zv_ev ρ v) := by
        obtain ⟨q1, q2⟩ := q
        have h2 : ¬ q1 = zv_ev ρ v := fun e => h e.symm
        simp [Op.lookupswitch.offset, h, h2]
      rw [e1]
      exact zQ_mono (zkeys_ok hA hI hv hy) (fun q hq => List.mem_append_right _ hq)
def zoLs (dflt : Int) (ps : Array (Int × Int)) : Nat → zA → zO := fun pc A => match A.2.2.1 with
  | v :: r => bif Nat.beq v.1 0 && ((ps.toList.zip (ps.toList.drop 1)).all (fun (a, next) => a.1 < next.1)) then zkeys (A.1, A.2.1, r, A.2.2.2) v pc dflt ps.toList else none
  | _ => none
theorem zoLs_ok (dflt : Int) (ps : Array (Int × Int)) : zS τ ty ms (iv_oLs dflt ps) (zoLs dflt ps) := by
  intro ρ A clv cst σ L xs pc outs hg hA hI
  unfold zoLs at hg
  split at hg
  · rename_i v r hst
    cases hb : Nat.beq v.1 0 && ((ps.toList.zip (ps.toList.drop 1)).all (fun (a, next) => a.1 < next.1))
    · rw [hb] at hg; cases hg
    · rw [hb] at hg
      rw [Bool.and_eq_true] at hb
      have h1 := hA.2.2.1
      rw [hst] at h1
      obtain ⟨x0, c1, rfl, b1, h3⟩ := zst_c h1
      obtain ⟨x, rfl, ex⟩ := zdn0 b1.2 (Nat.eq_of_beq_eq_true hb.1)
      have hq := zkeys_ok (ms := ms) (zA_st hA h3) hI b1.1 hg
      rw [← ex] at hq
      unfold iv_oLs
      dsimp only
      rw [hb.2]
      exact hq
  · cases hg
/-- two constants of Word compared: either -/
def zoAc (off : Int) : Nat → zA → zO := fun pc A => match A.2.2.1 with
  | w :: v :: r => bif (Nat.beq v.1 2 && Nat.beq w.1 2) && ((zle 3 (zvl A.1 v) && zle (zvh A.1 v) 57) && (zle 3 (zvl A.1 w) && zle (zvh A.1 w) 57)) then zbr (A.1, A.2.1, r, A.2.2.2) [] [] pc off else none
  | _ => none
end ZBR2
