/-! ===== oracles: products, quotients, remainders ===== -/
def zq1 (s : Nat) : zv := (0, 0, [(s, 1)])
def ztf (B : zB) (d : zd) : List zf := match d.1 with
  | 1 => (bif zle 1 (zvl B d.2.2.1) && zle 0 (zvl B d.2.2.2) then [zlf d.2.2.2 (0, zvh B (zq1 d.2.1) / zvl B d.2.2.1, []) 0] else []) ++ (bif zle 1 (zvl B d.2.2.2) && zle 0 (zvl B d.2.2.1) then [zlf d.2.2.1 (0, zvh B (zq1 d.2.1) / zvl B d.2.2.2, []) 0] else [])
  | 2 => bif zle 0 (zvl B d.2.2.1) && zle 1 (zvl B d.2.2.2) then [zlf d.2.2.1 (0, (zvh B (zq1 d.2.1) + 1) * zvh B d.2.2.2 - 1, []) 0] else []
  | 3 => bif zle 0 (zvl B d.2.2.1) && zle 1 (zvl B d.2.2.2) then [zlf (zq1 d.2.1) d.2.2.2 1] else []
  | _ => []
section ZOR
variable {τ : Nat → Nat} {ty : Nat → Option zt} {ρ : Nat → Int}
theorem ztf_ok {B : zB} (h : zB_ok τ ty ρ B) {d : zd} (hd : zd_ok ty ρ B.1.length d) : ∀ f ∈ ztf B d, zl_wf B.1.length f.2 = true ∧ f.1 + zl_ev ρ f.2 ≤ 0 := by
  obtain ⟨h1, h2, h3, h4⟩ := hd
  have wq : zl_wf B.1.length (zq1 d.2.1).2.2 = true := zl_wf_c.mpr ⟨h1, rfl⟩
  have eq : zv_ev ρ (zq1 d.2.1) = ρ d.2.1 := zev1
  have a1 := zvl_ok h h2
  have a2 := zvh_ok h h2
  have a3 := zvl_ok h h3
  have a4 := zvh_ok h h3
  have a5 := zvh_ok h wq
  rw [eq] at a5
  intro f hf
  unfold ztf at hf
  split at hf
  · rename_i e
    rw [e] at h4
    have h4 : ρ d.2.1 = zv_ev ρ d.2.2.1 * zv_ev ρ d.2.2.2 := h4
    rcases List.mem_append.mp hf with hf | hf
    · cases hz : zle 1 (zvl B d.2.2.1) && zle 0 (zvl B d.2.2.2)
      · rw [hz] at hf; cases hf
      · rw [hz] at hf
        rw [Bool.and_eq_true] at hz
        have g1 := zle_iff.mp hz.1
        have g2 := zle_iff.mp hz.2
        rcases List.mem_singleton.mp hf with rfl
        refine ⟨zl_cm_wf h3 rfl, ?_⟩
        rw [zlf_ev, zev0]
        have k1 : zv_ev ρ d.2.2.2 ≤ zvh B (zq1 d.2.1) / zvl B d.2.2.1 := by
          apply (Int.le_ediv_iff_mul_le (by omega)).mpr
          have k2 : zv_ev ρ d.2.2.2 * zvl B d.2.2.1 ≤ zv_ev ρ d.2.2.2 * zv_ev ρ d.2.2.1 := Int.mul_le_mul_of_nonneg_left a1 (by omega)
          rw [Int.mul_comm (zv_ev ρ d.2.2.2) (zv_ev ρ d.2.2.1)] at k2
          omega
        omega
    · cases hz : zle 1 (zvl B d.2.2.2) && zle 0 (zvl B d.2.2.1)
      · rw [hz] at hf; cases hf
      · rw [hz] at hf
        rw [Bool.and_eq_true] at hz
        have g1 := zle_iff.mp hz.1
        have g2 := zle_iff.mp hz.2
        rcases List.mem_singleton.mp hf with rfl
        refine ⟨zl_cm_wf h2 rfl, ?_⟩
        rw [zlf_ev, zev0]
        have k1 : zv_ev ρ d.2.2.1 ≤ zvh B (zq1 d.2.1) / zvl B d.2.2.2 := by
          apply (Int.le_ediv_iff_mul_le (by omega)).mpr
          have k2 : zv_ev ρ d.2.2.1 * zvl B d.2.2.2 ≤ zv_ev ρ d.2.2.1 * zv_ev ρ d.2.2.2 := Int.mul_le_mul_of_nonneg_left a3 (by omega)
          omega
        omega
  · rename_i e
    rw [e] at h4
    cases hz : zle 0 (zvl B d.2.2.1) && zle 1 (zvl B d.2.2.2)
    · rw [hz] at hf; cases hf
    · rw [hz] at hf
      rw [Bool.and_eq_true] at hz
      have g1 := zle_iff.mp hz.1
      have g2 := zle_iff.mp hz.2
      have h4 : ρ d.2.1 = zv_ev ρ d.2.2.1 / zv_ev ρ d.2.2.2 := h4 (by omega) (by omega)
      rcases List.mem_singleton.mp hf with rfl
      refine ⟨zl_cm_wf h2 rfl, ?_⟩
      rw [zlf_ev, zev0]
      have k1 : zv_ev ρ d.2.2.1 < (zv_ev ρ d.2.2.1 / zv_ev ρ d.2.2.2 + 1) * zv_ev ρ d.2.2.2 := Int.lt_ediv_add_one_mul_self _ (by omega)
      have k0 : 0 ≤ zv_ev ρ d.2.2.1 / zv_ev ρ d.2.2.2 := Int.ediv_nonneg (by omega) (by omega)
      have k2 : (zv_ev ρ d.2.2.1 / zv_ev ρ d.2.2.2 + 1) * zv_ev ρ d.2.2.2 ≤ (zvh B (zq1 d.2.1) + 1) * zvh B d.2.2.2 := Int.mul_le_mul (by omega) a4 (by omega) (by omega)
      omega
  · rename_i e
    rw [e] at h4
    cases hz : zle 0 (zvl B d.2.2.1) && zle 1 (zvl B d.2.2.2)
    · rw [hz] at hf; cases hf
    · rw [hz] at hf
      rw [Bool.and_eq_true] at hz
      have g1 := zle_iff.mp hz.1
      have g2 := zle_iff.mp hz.2
      have h4 : ρ d.2.1 < zv_ev ρ d.2.2.2 := h4 (by omega) (by omega)
      rcases List.mem_singleton.mp hf with rfl
      refine ⟨zl_cm_wf wq h3, ?_⟩
      rw [zlf_ev, eq]
      omega
  · cases hf
def ztg : zA → List zd → Option zA
  | A, [] => some A
  | A, d :: r => match zasL A (ztf A.1 d) with
    | some A' => ztg A' r
    | none => none
theorem ztg_ok {clv : iv_L} {cst : List Value} {σ : iv_H} : ∀ {ds : List zd} {A : zA}, zA_ok τ ty ρ A clv cst σ → (∀ d ∈ ds, zd_ok ty ρ A.1.1.length d) → ∃ A', ztg A ds = some A' ∧ zA_ok τ ty ρ A' clv cst σ ∧ A'.1.1.length = A.1.1.length
  | [], A, h, _ => ⟨A, rfl, h, rfl⟩
  | d :: r, A, h, hd => by
    obtain ⟨A1, e1, e2, e3, _⟩ := zasL_ok h (ztf_ok h.1 (hd d List.mem_cons_self))
    obtain ⟨A2, g1, g2, g3⟩ := ztg_ok e2 (fun d2 hd2 => by rw [e3]; exact hd d2 (List.mem_cons_of_mem _ hd2))
    refine ⟨A2, ?_, g2, g3.trans e3⟩
    unfold ztg
    rw [e1]
    exact g1
def ztgo (A : zA) : Option (List zA) := match ztg A A.1.2.2 with
  | some A' => some [A']
  | none => some []
theorem ztgo_ok {J : iv_H → Prop} : zO_ok τ ty J ztgo := by
  intro ρ A clv cst σ outs hg hA hI hJ
  obtain ⟨A', e1, e2, e3⟩ := ztg_ok hA hA.1.2.2
  unfold ztgo at hg
  rw [e1] at hg
  cases hg
  exact ⟨A', List.mem_singleton.mpr rfl, ρ, e2, zag_rf, Nat.le_of_eq e3.symm⟩
/-! rows of four arrays: by cases -/
abbrev zrw : Type := Int × (Int × Int) × (Int × Int) × (Int × Int)
def zrow (R : List zrw) (v a b c : Int) : Prop := ∃ r ∈ R, v = r.1 ∧ (r.2.1.1 ≤ a ∧ a ≤ r.2.1.2) ∧ (r.2.2.1.1 ≤ b ∧ b ≤ r.2.2.1.2) ∧ r.2.2.2.1 ≤ c ∧ c ≤ r.2.2.2.2
/-- the place of a value that was read from an array of type t -/
def zplc (E : List zc) (t : Nat) (v : zv) : List (zv × zv × zv) → Option (zv × zv)
  | [] => none
  | q :: r => bif zv_eq q.2.2 v && (match zty E q.1 with
      | some t2 => Nat.beq t2 t
      | none => false) then some (q.1, q.2.1) else zplc E t v r
theorem zplc_in {E : List zc} {t : Nat} {v : zv} : ∀ {C : List (zv × zv × zv)} {p : zv × zv}, zplc E t v C = some p → (p.1, p.2, v) ∈ C ∧ zty E p.1 = some t
  | [], p, h => by cases h
  | q :: r, p, h => by
    unfold zplc at h
    cases hb : zv_eq q.2.2 v && (match zty E q.1 with
      | some t2 => Nat.beq t2 t
      | none => false)
    · rw [hb] at h
      exact ⟨List.mem_cons_of_mem _ (zplc_in h).1, (zplc_in h).2⟩
    · rw [hb] at h
      cases h
      rw [Bool.and_eq_true] at hb
      refine ⟨?_, ?_⟩
      · rw [← zv_eq_ok hb.1]; exact List.mem_cons_self
      · have h2 := hb.2
        split at h2
        · rename_i t2 ht
          rw [ht, Nat.eq_of_beq_eq_true h2]
        · cases h2
def zrf (v a b c : zv) (r : zrw) : List zf := [zlf v (0, r.1, []) 0, zlf (0, r.1, []) v 0, zlf (0, r.2.1.1, []) a 0, zlf a (0, r.2.1.2, []) 0, zlf (0, r.2.2.1.1, []) b 0, zlf b (0, r.2.2.1.2, []) 0, zlf (0, r.2.2.2.1, []) c 0, zlf c (0, r.2.2.2.2, []) 0]
def zrcs (A : zA) (v a b c : zv) : List zrw → List zA
  | [] => []
  | r :: R => (match zasL A (zrf v a b c r) with
    | some A' => [A']
    | none => []) ++ zrcs A v a b c R
/-- side, what, who, verb lie on the stack -/
def zrowo (t1 t2 t3 t4 : Nat) (R : List zrw) (A : zA) : Option (List zA) := match A.2.2.1 with
  | c :: b :: a :: v :: _ => (match zplc A.1.1 t1 v A.2.2.2.2, zplc A.1.1 t2 a A.2.2.2.2, zplc A.1.1 t3 b A.2.2.2.2, zplc A.1.1 t4 c A.2.2.2.2 with
    | some p1, some p2, some p3, some p4 => bif zv_eq p1.2 p2.2 && (zv_eq p1.2 p3.2 && zv_eq p1.2 p4.2) then some (zrcs A v a b c R) else none
    | _, _, _, _ => none)
  | _ => none
/-- the rows of four int arrays are as R says -/
def zJrow (τ : Nat → Nat) (t1 t2 t3 t4 : Nat) (R : List zrw) (σ : iv_H) : Prop := ∀ (a1 a2 a3 a4 : Nat) (g1 g2 g3 g4 l1 l2 l3 l4 : Nat) (f1 f2 f3 f4 : Nat → Int32), τ a1 = t1 → τ a2 = t2 → τ a3 = t3 → τ a4 = t4 → iv_get σ a1 = some (.inl (g1, l1, .inl f1)) → iv_get σ a2 = some (.inl (g2, l2, .inl f2)) → iv_get σ a3 = some (.inl (g3, l3, .inl f3)) → iv_get σ a4 = some (.inl (g4, l4, .inl f4)) → ∀ i, zrow R (f1 i).toInt (f2 i).toInt (f3 i).toInt (f4 i).toInt
theorem zrcs_ok {A : zA} {clv : iv_L} {cst : List Value} {σ : iv_H} {v a b c : zv} (hA : zA_ok τ ty ρ A clv cst σ) (hv : zl_wf A.1.1.length v.2.2 = true) (ha : zl_wf A.1.1.length a.2.2 = true) (hb : zl_wf A.1.1.length b.2.2 = true) (hc : zl_wf A.1.1.length c.2.2 = true) : ∀ {R : List zrw}, zrow R (zv_ev ρ v) (zv_ev ρ a) (zv_ev ρ b) (zv_ev ρ c) → ∃ A' ∈ zrcs A v a b c R, zA_ok τ ty ρ A' clv cst σ ∧ A'.1.1.length = A.1.1.length
  | [], h => by obtain ⟨r, hr, _⟩ := h; cases hr
  | r0 :: R, h => by
    obtain ⟨r, hr, h1, h2, h3, h4⟩ := h
    rcases List.mem_cons.mp hr with rfl | hr
    · have w0 : ∀ {x : zv} {k z : Int}, zl_wf A.1.1.length x.2.2 = true → zl_wf A.1.1.length (zlf x (0, k, []) z).2 = true := fun hx => zl_cm_wf hx rfl
      have w1 : ∀ {x : zv} {k z : Int}, zl_wf A.1.1.length x.2.2 = true → zl_wf A.1.1.length (zlf (0, k, []) x z).2 = true := fun hx => zl_cm_wf rfl hx
      obtain ⟨A', e1, e2, e3, _⟩ := zasL_ok hA (fs := zrf v a b c r) (fun f hf => by
        unfold zrf at hf
        simp only [List.mem_cons, List.not_mem_nil, or_false] at hf
        rcases hf with rfl | rfl | rfl | rfl | rfl | rfl | rfl | rfl
        · exact ⟨w0 hv, by rw [zlf_ev, zev0]; omega⟩
        · exact ⟨w1 hv, by rw [zlf_ev, zev0]; omega⟩
        · exact ⟨w1 ha, by rw [zlf_ev, zev0]; omega⟩
        · exact ⟨w0 ha, by rw [zlf_ev, zev0]; omega⟩
        · exact ⟨w1 hb, by rw [zlf_ev, zev0]; omega⟩
        · exact ⟨w0 hb, by rw [zlf_ev, zev0]; omega⟩
        · exact ⟨w1 hc, by rw [zlf_ev, zev0]; omega⟩
        · exact ⟨w0 hc, by rw [zlf_ev, zev0]; omega⟩)
      refine ⟨A', ?_, e2, e3⟩
      unfold zrcs
      rw [e1]
      exact List.mem_append_left _ (List.mem_singleton.mpr rfl)
    · obtain ⟨A', e1, e2⟩ := zrcs_ok hA hv ha hb hc (R := R) ⟨r, hr, h1, h2, h3, h4⟩
      refine ⟨A', ?_, e2⟩
      unfold zrcs
      exact List.mem_append_right _ e1
theorem zrowo_ok {J : iv_H → Prop} {t1 t2 t3 t4 : Nat} {R : List zrw} (hJ : ∀ σ, J σ → zJrow τ t1 t2 t3 t4 R σ) : zO_ok τ ty J (zrowo t1 t2 t3 t4 R) := by
  intro ρ A clv cst σ outs hg hA hI hj
  unfold zrowo at hg
  split at hg
  · rename_i c b a v r hst
    split at hg
    · rename_i p1 p2 p3 p4 q1 q2 q3 q4
      cases hz : zv_eq p1.2 p2.2 && (zv_eq p1.2 p3.2 && zv_eq p1.2 p4.2)
      · rw [hz] at hg; cases hg
      · rw [hz] at hg
        cases hg
        simp only [Bool.and_eq_true] at hz
        obtain ⟨z1, z2, z3⟩ := hz
        have e2 := zv_eq_ok z1
        have e3 := zv_eq_ok z2
        have e4 := zv_eq_ok z3
        obtain ⟨m1, y1⟩ := zplc_in q1
        obtain ⟨m2, y2⟩ := zplc_in q2
        obtain ⟨m3, y3⟩ := zplc_in q3
        obtain ⟨m4, y4⟩ := zplc_in q4
        obtain ⟨w1, _, a1, i1, g1, l1, f1, b1, c1, d1, k1⟩ := hA.2.2.2.2 _ m1
        obtain ⟨w2, _, a2, i2, g2, l2, f2, b2, c2, d2, k2⟩ := hA.2.2.2.2 _ m2
        obtain ⟨w3, _, a3, i3, g3, l3, f3, b3, c3, d3, k3⟩ := hA.2.2.2.2 _ m3
        obtain ⟨w4, _, a4, i4, g4, l4, f4, b4, c4, d4, k4⟩ := hA.2.2.2.2 _ m4
        have c1 : (i1 : Int) = zv_ev ρ p1.2 := c1
        have c2 : (i2 : Int) = zv_ev ρ p2.2 := c2
        have c3 : (i3 : Int) = zv_ev ρ p3.2 := c3
        have c4 : (i4 : Int) = zv_ev ρ p4.2 := c4
        rw [← e2] at c2
        rw [← e3] at c3
        rw [← e4] at c4
        have n2 : i2 = i1 := by omega
        have n3 : i3 = i1 := by omega
        have n4 : i4 = i1 := by omega
        rw [n2] at k2
        rw [n3] at k3
        rw [n4] at k4
        have hrow := hJ σ hj a1 a2 a3 a4 g1 g2 g3 g4 l1 l2 l3 l4 f1 f2 f3 f4 (zca_ty hA.1.1 w1 b1 y1) (zca_ty hA.1.1 w2 b2 y2) (zca_ty hA.1.1 w3 b3 y3) (zca_ty hA.1.1 w4 b4 y4) d1 d2 d3 d4 i1
        have ev : ∀ {x : zv} {z : Int32}, zok ρ A.1.1.length x (.int z) → z.toInt = zv_ev ρ x := fun hk => by
          have hd := hk.2
          unfold zdn at hd
          split at hd
          · obtain ⟨y, e, ey⟩ := hd; cases e; exact ey
          · obtain ⟨y, e, ey⟩ := hd; cases e
          · obtain ⟨y, e, ey⟩ := hd; cases e
        rw [ev k1, ev k2, ev k3, ev k4] at hrow
        obtain ⟨A', u1, u2, u3⟩ := zrcs_ok hA k1.1 k2.1 k3.1 k4.1 hrow
        exact ⟨A', u1, ρ, u2, zag_rf, Nat.le_of_eq u3.symm⟩
    · cases hg
  · cases hg
end ZOR
