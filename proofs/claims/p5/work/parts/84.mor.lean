/-! ===== the reference: what J says of values ===== -/
def m_fx (A : zA) (fs : List zf) : Option (List zA) := match zasL A fs with
  | some A' => some [A']
  | none => some []
def m_sh (v : zv) (c : Int) : zv := (0, v.2.1 - c, v.2.2)
/-- before a division by an edge -/
def m_div (A : zA) : Option (List zA) := match A.2.2.1 with
  | w :: _ => (match zplc A.1.1 74 w A.2.2.2.2 with
    | some p => bif m_in A.1 p.2 32 37 && (m_bel A (m_sh p.2 32) 74 1 || m_sam A (m_sh p.2 32) 74 49 55) then m_fx A [zlf (0, 1, []) w 0] else some [A]
    | none => some [A])
  | _ => some [A]
/-- a brother's block is above 0 -/
def m_com (A : zA) : Option (List zA) := match A.2.2.1 with
  | _ :: w :: _ => (match zplc A.1.1 74 w A.2.2.2.2 with
    | some p => bif m_in A.1 p.2 5 11 && m_bel A (m_sh p.2 5) 74 0 then m_fx A [zlf (0, 1, []) w 0] else some [A]
    | none => some [A])
  | _ => some [A]
/-- what is held is below now[1] -/
def m_hold (A : zA) : Option (List zA) := match A.2.2.1 with
  | w :: _ => (match zplc A.1.1 74 w A.2.2.2.2 with
    | some p => bif m_in A.1 p.2 49 55 then (fun n => m_fx ((A.1.1 ++ [(0, 0, 6)], A.1.2), A.2.1, A.2.2.1, A.2.2.2.1, (p.1, (0, 1, []), (0, 0, [(n, 1)])) :: A.2.2.2.2) [zlf w (0, 0, [(n, 1)]) 1]) A.1.1.length else some [A]
    | none => some [A])
  | _ => some [A]
def m_rg (w : zv) (lo hi : Int) : List zf := [zlf (0, lo, []) w 0, zlf w (0, hi, []) 0]
def m_eqf (w : zv) (k : Int) : List zf := [zlf w (0, k, []) 0, zlf (0, k, []) w 0]
def m_alt (A : zA) : List (List zf) → List zA
  | [] => []
  | fs :: r => (match zasL A fs with
    | some A' => [A']
    | none => []) ++ m_alt A r
/-- a row of a book: kind, x, y, side lie on the stack -/
def m_row (A : zA) : Option (List zA) := match A.2.2.1 with
  | c :: b :: a :: v :: _ => (match zplc A.1.1 91 v A.2.2.2.2, zplc A.1.1 91 a A.2.2.2.2, zplc A.1.1 91 b A.2.2.2.2, zplc A.1.1 91 c A.2.2.2.2, m_lm A with
    | some p0, some p1, some p2, some p3, some m => (fun s => bif (m_o4 p0.2 s 0 && m_o4 p1.2 s 1) && ((m_o4 p2.2 s 2 && m_o4 p3.2 s 3) && zle (zvh A.1 (zv_cm (-1) s m)) (-1)) then some (m_alt A [m_eqf v 0 ++ (m_rg a 0 6 ++ (m_rg b 0 6 ++ m_rg c 0 2)), m_eqf v 1 ++ (m_rg a 0 6 ++ m_rg b 0 5), m_eqf v 2 ++ m_rg a 0 6, m_eqf v 3 ++ (m_rg a 0 6 ++ m_rg b 0 6), m_eqf v 4 ++ m_rg a 0 5, m_eqf v 5]) else none) (m_q4 p0.2 0)
    | _, _, _, _, _ => none)
  | _ => none
/-- a row of a sentence: its kind lies on the stack, k, x, y are the locals 1, 4, 5 -/
def m_hl (A : zA) : Option (List zA) := match A.2.2.1, iv_f1 A.2.1 1, iv_f1 A.2.1 4, iv_f1 A.2.1 5 with
  | v :: _, some k, some x, some y => (match zplc A.1.1 74 v A.2.2.2.2, zplc A.1.1 74 x A.2.2.2.2, zplc A.1.1 74 y A.2.2.2.2 with
    | some p0, some p1, some p2 => bif (m_o4 p0.2 k 134 && (m_o4 p1.2 k 135 && m_o4 p2.2 k 136)) && m_in A.1 k 0 59 then some (m_alt A [m_eqf v 1 ++ [zlf (0, 0, []) x 0, zlf x k 1], m_rg v 2 3 ++ ([zlf (0, 0, []) x 0, zlf x k 1] ++ [zlf (0, 0, []) y 0, zlf y k 1]), [zlf v (0, 0, []) 0], [zlf (0, 4, []) v 0]]) else none
    | _, _, _ => none)
  | _, _, _, _ => none
/-- what stands at place i of the array of type t is K -/
def m_eqL (E : List zc) (t : Nat) (i K : Int) : List (zv × zv × zv) → List zf
  | [] => []
  | q :: r => (bif (match zty E q.1 with
      | some t2 => Nat.beq t2 t
      | none => false) && zv_eq q.2.1 (0, i, []) then m_eqf q.2.2 K else []) ++ m_eqL E t i K r
def m_eq (t : Nat) (i K : Int) (A : zA) : Option (List zA) := m_fx A (m_eqL A.1.1 t i K A.2.2.2.2)
section MOR
variable {ρ : Nat → Int} {A : zA} {clv : iv_L} {cst : List Value} {σ : iv_H}
theorem m_fx_ok (hA : zA_ok m_τ m_ty ρ A clv cst σ) {fs : List zf} {outs : List zA} (h : m_fx A fs = some outs) (hf : ∀ f ∈ fs, zl_wf A.1.1.length f.2 = true ∧ f.1 + zl_ev ρ f.2 ≤ 0) : ∃ A' ∈ outs, ∃ ρ', zA_ok m_τ m_ty ρ' A' clv cst σ ∧ zag A.1.1.length ρ ρ' ∧ A.1.1.length ≤ A'.1.1.length := by
  obtain ⟨A', e1, e2, e3, _⟩ := zasL_ok hA hf
  unfold m_fx at h
  rw [e1] at h
  cases h
  exact ⟨A', List.mem_singleton.mpr rfl, ρ, e2, zag_rf, Nat.le_of_eq e3.symm⟩
theorem m_id (hA : zA_ok m_τ m_ty ρ A clv cst σ) {outs : List zA} (h : some [A] = some outs) : ∃ A' ∈ outs, ∃ ρ', zA_ok m_τ m_ty ρ' A' clv cst σ ∧ zag A.1.1.length ρ ρ' ∧ A.1.1.length ≤ A'.1.1.length := by
  cases h
  exact ⟨A, List.mem_singleton.mpr rfl, ρ, hA, zag_rf, Nat.le_refl _⟩
/-- the place of a value -/
theorem m_plc (hA : zA_ok m_τ m_ty ρ A clv cst σ) {t : Nat} (ht : 73 ≤ t) {w : zv} {p : zv × zv} (h : zplc A.1.1 t w A.2.2.2.2 = some p) : ∃ (i tag len : Nat) (f : Nat → Int32), (i : Int) = zv_ev ρ p.2 ∧ (mA σ (550 + 2 * (t - 73)) i).toInt = zv_ev ρ w ∧ zl_wf A.1.1.length p.2.2.2 = true ∧ zl_wf A.1.1.length w.2.2 = true ∧ zl_wf A.1.1.length p.1.2.2 = true ∧ ((550 + 2 * (t - 73) : Nat) : Int) = zv_ev ρ p.1 ∧ iv_get σ (550 + 2 * (t - 73)) = some (.inl (tag, len, .inl f)) := by
  obtain ⟨h1, h2⟩ := zplc_in h
  obtain ⟨w1, w2, a, i, tag, len, f, b1, b2, b3, b4⟩ := hA.2.2.2.2 _ h1
  have e := m_un (zca_ty hA.1.1 w1 b1 h2) ht
  subst e
  refine ⟨i, tag, len, f, b2, ?_, w2, b4.1, w1, b1, b3⟩
  rw [hA_of b3]
  exact zok_int b4
theorem m_alt_ok (hA : zA_ok m_τ m_ty ρ A clv cst σ) : ∀ {l : List (List zf)}, (∃ fs ∈ l, ∀ f ∈ fs, zl_wf A.1.1.length f.2 = true ∧ f.1 + zl_ev ρ f.2 ≤ 0) → ∃ A' ∈ m_alt A l, ∃ ρ', zA_ok m_τ m_ty ρ' A' clv cst σ ∧ zag A.1.1.length ρ ρ' ∧ A.1.1.length ≤ A'.1.1.length
  | [], h => by obtain ⟨fs, h1, _⟩ := h; cases h1
  | g :: l, h => by
    obtain ⟨fs, h1, h2⟩ := h
    unfold m_alt
    rcases List.mem_cons.mp h1 with rfl | h1
    · obtain ⟨A', e1, e2, e3, _⟩ := zasL_ok hA h2
      refine ⟨A', ?_, ρ, e2, zag_rf, Nat.le_of_eq e3.symm⟩
      rw [e1]
      exact List.mem_append_left _ (List.mem_singleton.mpr rfl)
    · obtain ⟨A', e1, e2⟩ := m_alt_ok hA (l := l) ⟨fs, h1, h2⟩
      exact ⟨A', List.mem_append_right _ e1, e2⟩
theorem m_c0 {n : Nat} {x : zv} (hx : zl_wf n x.2.2 = true) {k z : Int} (h : zv_ev ρ x - k + z ≤ 0) : zl_wf n (zlf x (0, k, []) z).2 = true ∧ (zlf x (0, k, []) z).1 + zl_ev ρ (zlf x (0, k, []) z).2 ≤ 0 := ⟨zl_cm_wf hx rfl, by rw [zlf_ev, zev0]; exact h⟩
theorem m_c1 {n : Nat} {x : zv} (hx : zl_wf n x.2.2 = true) {k z : Int} (h : k - zv_ev ρ x + z ≤ 0) : zl_wf n (zlf (0, k, []) x z).2 = true ∧ (zlf (0, k, []) x z).1 + zl_ev ρ (zlf (0, k, []) x z).2 ≤ 0 := ⟨zl_cm_wf rfl hx, by rw [zlf_ev, zev0]; exact h⟩
theorem m_c2 {n : Nat} {x y : zv} (hx : zl_wf n x.2.2 = true) (hy : zl_wf n y.2.2 = true) {z : Int} (h : zv_ev ρ x - zv_ev ρ y + z ≤ 0) : zl_wf n (zlf x y z).2 = true ∧ (zlf x y z).1 + zl_ev ρ (zlf x y z).2 ≤ 0 := ⟨zl_cm_wf hx hy, by rw [zlf_ev]; exact h⟩
theorem m_rg_ok {n : Nat} {w : zv} (hw : zl_wf n w.2.2 = true) {lo hi : Int} (h1 : lo ≤ zv_ev ρ w) (h2 : zv_ev ρ w ≤ hi) : ∀ f ∈ m_rg w lo hi, zl_wf n f.2 = true ∧ f.1 + zl_ev ρ f.2 ≤ 0 := by
  intro f hf
  unfold m_rg at hf
  simp only [List.mem_cons, List.not_mem_nil, or_false] at hf
  rcases hf with rfl | rfl
  · exact m_c1 hw (by omega)
  · exact m_c0 hw (by omega)
theorem m_eqf_ok {n : Nat} {w : zv} (hw : zl_wf n w.2.2 = true) {k : Int} (h : zv_ev ρ w = k) : ∀ f ∈ m_eqf w k, zl_wf n f.2 = true ∧ f.1 + zl_ev ρ f.2 ≤ 0 := by
  intro f hf
  unfold m_eqf at hf
  simp only [List.mem_cons, List.not_mem_nil, or_false] at hf
  rcases hf with rfl | rfl
  · exact m_c0 hw (by omega)
  · exact m_c1 hw (by omega)
theorem m_app {n : Nat} {a b : List zf} (h1 : ∀ f ∈ a, zl_wf n f.2 = true ∧ f.1 + zl_ev ρ f.2 ≤ 0) (h2 : ∀ f ∈ b, zl_wf n f.2 = true ∧ f.1 + zl_ev ρ f.2 ≤ 0) : ∀ f ∈ a ++ b, zl_wf n f.2 = true ∧ f.1 + zl_ev ρ f.2 ≤ 0 := fun f hf => (List.mem_append.mp hf).elim (h1 f) (h2 f)
theorem m_shev {v : zv} {c : Int} : zv_ev ρ (m_sh v c) = zv_ev ρ v - c := by
  show v.2.1 - c + zl_ev ρ v.2.2 = v.2.1 + zl_ev ρ v.2.2 - c
  omega
end MOR
theorem m_div_ok {J : iv_H → Prop} (hq : ∀ σ, J σ → ∃ n, m_Jx n σ) : zO_ok m_τ m_ty J m_div := by
  intro ρ A clv cst σ outs h hA hI hJ0
  obtain ⟨n0, hJ⟩ := hq σ hJ0
  unfold m_div at h
  split at h
  · rename_i w r hst
    split at h
    · rename_i p hp
      cases hb : m_in A.1 p.2 32 37 && (m_bel A (m_sh p.2 32) 74 1 || m_sam A (m_sh p.2 32) 74 49 55)
      · rw [hb] at h; exact m_id hA h
      · rw [hb] at h
        obtain ⟨i, tag, len, f, e1, e2, e3, e4, _⟩ := m_plc hA (by decide) hp
        have e2 : (mA σ 552 i).toInt = zv_ev ρ w := e2
        rw [Bool.and_eq_true, Bool.or_eq_true] at hb
        have k1 := m_in_ok hA.1 e3 hb.1
        have k2 : zv_ev ρ (m_sh p.2 32) < (mA σ 552 1).toInt := by
          rcases hb.2 with hb | hb
          · exact m_bel_ok hA (t := 74) (by decide) (w := m_sh p.2 32) e3 (i := 1) hb
          · obtain ⟨q, q1, q2, q3⟩ := m_sam_ok hA (t := 74) (by decide) hb
            have q3 : (mA σ 552 q).toInt = zv_ev ρ (m_sh p.2 32) := q3
            have q4 := hJ.2.1.2.1 (q - 49) (by omega)
            have q4 : (mA σ 552 (0 + 49 + (q - 49))).toInt < (mA σ 552 1).toInt := q4
            rw [show 0 + 49 + (q - 49) = q by omega] at q4
            omega
        rw [m_shev] at k2
        have k3 := hJ.2.1.1.1 (i - 32) (by show ((i - 32 : Nat) : Int) < (mA σ 552 1).toInt; omega)
        rw [show 0 + 32 + (i - 32) = i by omega] at k3
        exact m_fx_ok hA h (fun f hf => by
          rw [List.mem_singleton.mp hf]
          exact m_c1 e4 (by omega))
    · exact m_id hA h
  · exact m_id hA h
theorem m_com_ok {J : iv_H → Prop} (hq : ∀ σ, J σ → ∃ n, m_Jx n σ) : zO_ok m_τ m_ty J m_com := by
  intro ρ A clv cst σ outs h hA hI hJ0
  obtain ⟨n0, hJ⟩ := hq σ hJ0
  unfold m_com at h
  split at h
  · rename_i w0 w r hst
    split at h
    · rename_i p hp
      cases hb : m_in A.1 p.2 5 11 && m_bel A (m_sh p.2 5) 74 0
      · rw [hb] at h; exact m_id hA h
      · rw [hb] at h
        obtain ⟨i, tag, len, f, e1, e2, e3, e4, _⟩ := m_plc hA (by decide) hp
        have e2 : (mA σ 552 i).toInt = zv_ev ρ w := e2
        rw [Bool.and_eq_true] at hb
        have k1 := m_in_ok hA.1 e3 hb.1
        have k2 := m_bel_ok hA (t := 74) (by decide) (w := m_sh p.2 5) e3 (i := 0) hb.2
        have k2 : zv_ev ρ (m_sh p.2 5) < (mA σ 552 0).toInt := k2
        rw [m_shev] at k2
        have k3 := hJ.2.1.1.2 (i - 5) (by show ((i - 5 : Nat) : Int) < (mA σ 552 0).toInt; omega)
        rw [show 0 + 5 + (i - 5) = i by omega] at k3
        exact m_fx_ok hA h (fun f hf => by
          rw [List.mem_singleton.mp hf]
          exact m_c1 e4 (by omega))
    · exact m_id hA h
  · exact m_id hA h
theorem m_hold_ok {J : iv_H → Prop} (hq : ∀ σ, J σ → ∃ n, m_Jx n σ) : zO_ok m_τ m_ty J m_hold := by
  intro ρ A clv cst σ outs h hA hI hJ0
  obtain ⟨n0, hJ⟩ := hq σ hJ0
  unfold m_hold at h
  split at h
  · rename_i w r hst
    split at h
    · rename_i p hp
      cases hb : m_in A.1 p.2 49 55
      · rw [hb] at h; exact m_id hA h
      · rw [hb] at h
        obtain ⟨i, tag, len, f, e1, e2, e3, e4, e5, e6, e7⟩ := m_plc hA (by decide) hp
        have e2 : (mA σ 552 i).toInt = zv_ev ρ w := e2
        have e7 : iv_get σ 552 = some (.inl (tag, len, .inl f)) := e7
        have k1 := m_in_ok hA.1 e3 hb
        have k2 := hJ.2.1.2.1 (i - 49) (by omega)
        have k2 : (mA σ 552 (0 + 49 + (i - 49))).toInt < (mA σ 552 1).toInt := k2
        rw [show 0 + 49 + (i - 49) = i by omega] at k2
        obtain ⟨_, b3, b4⟩ := m_N hI
        rw [hA_of e7] at k2 b3 b4 e2
        have hz := zfr_ok (c := (0, 0, 6)) (x := (f 1).toInt) (ds := []) hA ⟨b3, b4, fun h9 => by have h9 : 2 ≤ 0 := h9; omega⟩ (fun d hd => by cases hd)
        have hA2 : zA_ok m_τ m_ty (zup ρ A.1.1.length (f 1).toInt) ((A.1.1 ++ [(0, 0, 6)], A.1.2), A.2.1, A.2.2.1, A.2.2.2.1, (p.1, (0, 1, []), (0, 0, [(A.1.1.length, 1)])) :: A.2.2.2.2) clv cst σ := by
          refine ⟨hz.1, hz.2.1, hz.2.2.1, hz.2.2.2.1, fun q hq => ?_⟩
          rcases List.mem_cons.mp hq with rfl | hq
          · have hl : (A.1.1 ++ [((0, 0, 6) : zc)]).length = A.1.1.length + 1 := by simp
            refine ⟨zl_wf_le (by rw [hl]; omega) e5, rfl, 552, 1, tag, len, f, ?_, rfl, e7, zl_wf_c.mpr ⟨by show A.1.1.length < (A.1.1 ++ [((0, 0, 6) : zc)]).length; rw [hl]; omega, rfl⟩, f 1, rfl, ?_⟩
            · show ((552 : Nat) : Int) = zv_ev (zup ρ A.1.1.length (f 1).toInt) p.1
              rw [zv_ag zup_ag e5]
              exact e6
            · show (f 1).toInt = zv_ev (zup ρ A.1.1.length (f 1).toInt) (0, 0, [(A.1.1.length, 1)])
              rw [zev1, zup_s]
          · exact hz.2.2.2.2 q hq
        obtain ⟨A', u1, ρ', u2, u3, u4⟩ := m_fx_ok hA2 h (fun g hg => by
          rw [List.mem_singleton.mp hg]
          have hl : (A.1.1 ++ [((0, 0, 6) : zc)]).length = A.1.1.length + 1 := by simp
          refine m_c2 (zl_wf_le (by show A.1.1.length ≤ (A.1.1 ++ [((0, 0, 6) : zc)]).length; rw [hl]; omega) e4) (zl_wf_c.mpr ⟨by show A.1.1.length < (A.1.1 ++ [((0, 0, 6) : zc)]).length; rw [hl]; omega, rfl⟩) ?_
          rw [zv_ag zup_ag e4, zev1, zup_s]
          omega)
        have hl : (A.1.1 ++ [((0, 0, 6) : zc)]).length = A.1.1.length + 1 := by simp
        have u3 : zag (A.1.1 ++ [((0, 0, 6) : zc)]).length (zup ρ A.1.1.length (f 1).toInt) ρ' := u3
        have u4 : (A.1.1 ++ [((0, 0, 6) : zc)]).length ≤ A'.1.1.length := u4
        rw [hl] at u3 u4
        exact ⟨A', u1, ρ', u2, zag_tr zup_ag u3 (by omega), by omega⟩
    · exact m_id hA h
  · exact m_id hA h
theorem m_row_ok : zO_ok m_τ m_ty m_J m_row := by
  intro ρ A clv cst σ outs h hA hI hJ
  unfold m_row at h
  split at h
  · rename_i c b a v r hst
    split at h
    · rename_i p0 p1 p2 p3 m q0 q1 q2 q3 hm
      dsimp only at h
      cases hb : (m_o4 p0.2 (m_q4 p0.2 0) 0 && m_o4 p1.2 (m_q4 p0.2 0) 1) && ((m_o4 p2.2 (m_q4 p0.2 0) 2 && m_o4 p3.2 (m_q4 p0.2 0) 3) && zle (zvh A.1 (zv_cm (-1) (m_q4 p0.2 0) m)) (-1))
      · rw [hb] at h; cases h
      · rw [hb] at h
        cases h
        simp only [Bool.and_eq_true] at hb
        obtain ⟨⟨z0, z1⟩, ⟨z2, z3⟩, z4⟩ := hb
        obtain ⟨l1, l2⟩ := m_lm_ok hA hI hm
        obtain ⟨i0, _, _, _, e1, e2, e3, e4, _⟩ := m_plc hA (by decide) q0
        obtain ⟨i1, _, _, _, f1, f2, f3, f4, _⟩ := m_plc hA (by decide) q1
        obtain ⟨i2, _, _, _, g1, g2, g3, g4, _⟩ := m_plc hA (by decide) q2
        obtain ⟨i3, _, _, _, d1, d2, d3, d4, _⟩ := m_plc hA (by decide) q3
        have e2 : (mA σ 586 i0).toInt = zv_ev ρ v := e2
        have f2 : (mA σ 586 i1).toInt = zv_ev ρ a := f2
        have g2 : (mA σ 586 i2).toInt = zv_ev ρ b := g2
        have d2 : (mA σ 586 i3).toInt = zv_ev ρ c := d2
        have y0 := m_o4_ok (ρ := ρ) z0
        have y1 := m_o4_ok (ρ := ρ) z1
        have y2 := m_o4_ok (ρ := ρ) z2
        have y3 := m_o4_ok (ρ := ρ) z3
        have hwf : zl_wf A.1.1.length (m_q4 p0.2 0).2.2 = true := by
          show zl_wf A.1.1.length (p0.2.2.2.map fun q => (q.1, q.2 / 4)) = true
          have main : ∀ {l : zl}, zl_wf A.1.1.length l = true → zl_wf A.1.1.length (l.map fun q => (q.1, q.2 / 4)) = true := by
            intro l
            induction l with
            | nil => intro _; rfl
            | cons q l ih => intro h9; exact zl_wf_c.mpr ⟨(zl_wf_c.mp h9).1, ih (zl_wf_c.mp h9).2⟩
          exact main e3
        have e5 := zle_iff.mp z4
        have e6 := zvh_ok hA.1 (v := zv_cm (-1) (m_q4 p0.2 0) m) (zl_cm_wf hwf l2)
        rw [zv_cm_ev] at e6
        obtain ⟨rr, hr⟩ : ∃ rr : Nat, (rr : Int) = zv_ev ρ (m_q4 p0.2 0) := ⟨(zv_ev ρ (m_q4 p0.2 0)).toNat, by omega⟩
        have k := hJ.2.2.2.2.1 rr (by omega)
        rw [show 4 * rr = i0 by omega] at k
        rw [show i0 + 1 = i1 by omega, show i0 + 2 = i2 by omega, show i0 + 3 = i3 by omega] at k
        rw [e2, f2, g2, d2] at k
        unfold rowL at k
        refine m_alt_ok hA ?_
        have hc : zv_ev ρ v = 0 ∨ zv_ev ρ v = 1 ∨ zv_ev ρ v = 2 ∨ zv_ev ρ v = 3 ∨ zv_ev ρ v = 4 ∨ zv_ev ρ v = 5 := by omega
        rcases hc with e | e | e | e | e | e
        · exact ⟨_, List.mem_cons_self, m_app (m_eqf_ok e4 e) (m_app (m_rg_ok f4 (by omega) (by omega)) (m_app (m_rg_ok g4 (by omega) (by omega)) (m_rg_ok d4 (by omega) (by omega))))⟩
        · exact ⟨_, List.mem_cons_of_mem _ List.mem_cons_self, m_app (m_eqf_ok e4 e) (m_app (m_rg_ok f4 (by omega) (by omega)) (m_rg_ok g4 (by omega) (by omega)))⟩
        · exact ⟨_, List.mem_cons_of_mem _ (List.mem_cons_of_mem _ List.mem_cons_self), m_app (m_eqf_ok e4 e) (m_rg_ok f4 (by omega) (by omega))⟩
        · exact ⟨_, List.mem_cons_of_mem _ (List.mem_cons_of_mem _ (List.mem_cons_of_mem _ List.mem_cons_self)), m_app (m_eqf_ok e4 e) (m_app (m_rg_ok f4 (by omega) (by omega)) (m_rg_ok g4 (by omega) (by omega)))⟩
        · exact ⟨_, List.mem_cons_of_mem _ (List.mem_cons_of_mem _ (List.mem_cons_of_mem _ (List.mem_cons_of_mem _ List.mem_cons_self))), m_app (m_eqf_ok e4 e) (m_rg_ok f4 (by omega) (by omega))⟩
        · exact ⟨_, List.mem_cons_of_mem _ (List.mem_cons_of_mem _ (List.mem_cons_of_mem _ (List.mem_cons_of_mem _ (List.mem_cons_of_mem _ List.mem_cons_self)))), m_eqf_ok e4 e⟩
    · cases h
  · cases h
theorem m_hl_ok {J : iv_H → Prop} (hq : ∀ σ, J σ → ∃ n, m_Jx n σ) : zO_ok m_τ m_ty J m_hl := by
  intro ρ A clv cst σ outs h hA hI hJ0
  obtain ⟨n0, hJ⟩ := hq σ hJ0
  unfold m_hl at h
  split at h
  · rename_i v r k x y hst hk hx hy
    split at h
    · rename_i p0 p1 p2 q0 q1 q2
      cases hb : (m_o4 p0.2 k 134 && (m_o4 p1.2 k 135 && m_o4 p2.2 k 136)) && m_in A.1 k 0 59
      · rw [hb] at h; cases h
      · rw [hb] at h
        cases h
        simp only [Bool.and_eq_true] at hb
        obtain ⟨⟨z0, z1, z2⟩, z3⟩ := hb
        obtain ⟨kx, _, hkx⟩ := zlv_at hA.2.1 hk
        have kw := hkx.1
        have k1 := m_in_ok hA.1 kw z3
        obtain ⟨i0, _, _, _, e1, e2, e3, e4, _⟩ := m_plc hA (by decide) q0
        obtain ⟨i1, _, _, _, f1, f2, f3, f4, _⟩ := m_plc hA (by decide) q1
        obtain ⟨i2, _, _, _, g1, g2, g3, g4, _⟩ := m_plc hA (by decide) q2
        have e2 : (mA σ 552 i0).toInt = zv_ev ρ v := e2
        have f2 : (mA σ 552 i1).toInt = zv_ev ρ x := f2
        have g2 : (mA σ 552 i2).toInt = zv_ev ρ y := g2
        have y0 := m_o4_ok (ρ := ρ) z0
        have y1 := m_o4_ok (ρ := ρ) z1
        have y2 := m_o4_ok (ρ := ρ) z2
        obtain ⟨rr, hr⟩ : ∃ rr : Nat, (rr : Int) = zv_ev ρ k := ⟨(zv_ev ρ k).toNat, by omega⟩
        have kk := hJ.2.1.2.2 rr (by omega)
        rw [show 0 + 134 + 4 * rr = i0 by omega] at kk
        rw [show i0 + 1 = i1 by omega, show i0 + 2 = i2 by omega] at kk
        rw [e2, f2, g2] at kk
        obtain ⟨ka, kb⟩ := kk
        refine m_alt_ok hA ?_
        have lo : ∀ {z : zv}, zl_wf A.1.1.length z.2.2 = true → 0 ≤ zv_ev ρ z → zv_ev ρ z < (rr : Int) → ∀ f ∈ [zlf (0, 0, []) z 0, zlf z k 1], zl_wf A.1.1.length f.2 = true ∧ f.1 + zl_ev ρ f.2 ≤ 0 := by
          intro z hz h1 h2 f hf
          simp only [List.mem_cons, List.not_mem_nil, or_false] at hf
          rcases hf with rfl | rfl
          · exact m_c1 hz (by omega)
          · exact m_c2 hz kw (by omega)
        have hc : zv_ev ρ v = 1 ∨ (zv_ev ρ v = 2 ∨ zv_ev ρ v = 3) ∨ zv_ev ρ v ≤ 0 ∨ 4 ≤ zv_ev ρ v := by omega
        rcases hc with e | e | e | e
        · obtain ⟨u1, u2⟩ := ka e
          exact ⟨_, List.mem_cons_self, m_app (m_eqf_ok e4 e) (lo f4 u1 u2)⟩
        · obtain ⟨⟨u1, u2⟩, u3, u4⟩ := kb e
          exact ⟨_, List.mem_cons_of_mem _ List.mem_cons_self, m_app (m_rg_ok e4 (by omega) (by omega)) (m_app (lo f4 u1 u2) (lo g4 u3 u4))⟩
        · exact ⟨_, List.mem_cons_of_mem _ (List.mem_cons_of_mem _ List.mem_cons_self), fun f hf => by
            rw [List.mem_singleton.mp hf]
            exact m_c0 e4 (by omega)⟩
        · exact ⟨_, List.mem_cons_of_mem _ (List.mem_cons_of_mem _ (List.mem_cons_of_mem _ List.mem_cons_self)), fun f hf => by
            rw [List.mem_singleton.mp hf]
            exact m_c1 e4 (by omega)⟩
    · cases h
  · cases h
theorem m_eq_ok {J : iv_H → Prop} {t : Nat} {i : Nat} {K : Int} (ht : 73 ≤ t) (hK : ∀ σ, J σ → (mA σ (550 + 2 * (t - 73)) i).toInt = K) : zO_ok m_τ m_ty J (m_eq t i K) := by
  intro ρ A clv cst σ outs h hA hI hJ
  refine m_fx_ok hA h ?_
  have main : ∀ {C : List (zv × zv × zv)}, (∀ q ∈ C, zca_ok ρ A.1.1.length σ q) → ∀ f ∈ m_eqL A.1.1 t i K C, zl_wf A.1.1.length f.2 = true ∧ f.1 + zl_ev ρ f.2 ≤ 0 := by
    intro C
    induction C with
    | nil => intro _ f hf; cases hf
    | cons q C ih =>
      intro hC f hf
      unfold m_eqL at hf
      rcases List.mem_append.mp hf with hg | hg
      · cases hb : (match zty A.1.1 q.1 with
          | some t2 => Nat.beq t2 t
          | none => false) && zv_eq q.2.1 (0, (i : Int), [])
        · rw [hb] at hg; cases hg
        · rw [hb] at hg
          rw [Bool.and_eq_true] at hb
          obtain ⟨w1, w2, a, j, tag, len, g, b1, b2, b3, b4⟩ := hC q List.mem_cons_self
          have h3 := hb.1
          split at h3
          · rename_i t2 ht2
            rw [Nat.eq_of_beq_eq_true h3] at ht2
            have e := m_un (zca_ty hA.1.1 w1 b1 ht2) ht
            subst e
            have e2 := zv_eq_ok hb.2
            rw [e2, zev0] at b2
            have e3 : j = i := by omega
            subst e3
            have k := hK σ hJ
            rw [hA_of b3] at k
            exact m_eqf_ok b4.1 (by rw [← zok_int b4]; exact k) f hg
          · cases h3
      · exact ih (fun q hq => hC q (List.mem_cons_of_mem _ hq)) f hg
  exact main hA.2.2.2.2
/-- a row's kind is 0 to 5: it lies below the top of the stack -/
def m_row0 (A : zA) : Option (List zA) := match A.2.2.1 with
  | _ :: v :: _ => (match zplc A.1.1 91 v A.2.2.2.2, m_lm A with
    | some p0, some m => (fun s => bif m_o4 p0.2 s 0 && zle (zvh A.1 (zv_cm (-1) s m)) (-1) then m_fx A (m_rg v 0 5) else none) (m_q4 p0.2 0)
    | _, _ => none)
  | _ => none
theorem m_row0_ok : zO_ok m_τ m_ty m_J m_row0 := by
  intro ρ A clv cst σ outs h hA hI hJ
  unfold m_row0 at h
  split at h
  · rename_i w0 v r hst
    split at h
    · rename_i p0 m q0 hm
      dsimp only at h
      cases hb : m_o4 p0.2 (m_q4 p0.2 0) 0 && zle (zvh A.1 (zv_cm (-1) (m_q4 p0.2 0) m)) (-1)
      · rw [hb] at h; cases h
      · rw [hb] at h
        simp only [Bool.and_eq_true] at hb
        obtain ⟨z0, z4⟩ := hb
        obtain ⟨l1, l2⟩ := m_lm_ok hA hI hm
        obtain ⟨i0, _, _, _, e1, e2, e3, e4, _⟩ := m_plc hA (by decide) q0
        have e2 : (mA σ 586 i0).toInt = zv_ev ρ v := e2
        have y0 := m_o4_ok (ρ := ρ) z0
        have hwf : zl_wf A.1.1.length (m_q4 p0.2 0).2.2 = true := by
          show zl_wf A.1.1.length (p0.2.2.2.map fun q => (q.1, q.2 / 4)) = true
          have main : ∀ {l : zl}, zl_wf A.1.1.length l = true → zl_wf A.1.1.length (l.map fun q => (q.1, q.2 / 4)) = true := by
            intro l
            induction l with
            | nil => intro _; rfl
            | cons q l ih => intro h9; exact zl_wf_c.mpr ⟨(zl_wf_c.mp h9).1, ih (zl_wf_c.mp h9).2⟩
          exact main e3
        have e5 := zle_iff.mp z4
        have e6 := zvh_ok hA.1 (v := zv_cm (-1) (m_q4 p0.2 0) m) (zl_cm_wf hwf l2)
        rw [zv_cm_ev] at e6
        obtain ⟨rr, hr⟩ : ∃ rr : Nat, (rr : Int) = zv_ev ρ (m_q4 p0.2 0) := ⟨(zv_ev ρ (m_q4 p0.2 0)).toNat, by omega⟩
        have k := hJ.2.2.2.2.1 rr (by omega)
        rw [show 4 * rr = i0 by omega] at k
        rw [e2] at k
        obtain ⟨⟨k1, k2⟩, _⟩ := k
        exact m_fx_ok hA h (m_rg_ok e4 k1 k2)
    · cases h
  · cases h
