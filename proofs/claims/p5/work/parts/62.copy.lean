/-! ===== System.arraycopy ===== -/
def zall1 (s : Nat × Nat × Int × Int) : zsg → Bool
  | [] => true
  | D :: r => bif zle D.2.2.1 s.2.2.1 && zle s.2.2.2 D.2.2.2 then zall1 s r else false
def zall (dst : zsg) : zsg → Bool
  | [] => true
  | s :: r => bif zall1 s dst then zall dst r else false
theorem zall1_in {s : Nat × Nat × Int × Int} : ∀ {dst : zsg} {D : Nat × Nat × Int × Int}, zall1 s dst = true → D ∈ dst → D.2.2.1 ≤ s.2.2.1 ∧ s.2.2.2 ≤ D.2.2.2
  | [], D, _, h => by cases h
  | p :: r, D, hf, h => by
    unfold zall1 at hf
    cases hz : zle p.2.2.1 s.2.2.1 && zle s.2.2.2 p.2.2.2
    · rw [hz] at hf; cases hf
    · rw [hz] at hf
      rcases List.mem_cons.mp h with rfl | h
      · rw [Bool.and_eq_true] at hz
        exact ⟨zle_iff.mp hz.1, zle_iff.mp hz.2⟩
      · exact zall1_in hf h
theorem zall_in {dst : zsg} : ∀ {src : zsg} {s : Nat × Nat × Int × Int}, zall dst src = true → s ∈ src → zall1 s dst = true
  | [], s, _, h => by cases h
  | p :: r, s, hf, h => by
    unfold zall at hf
    cases hz : zall1 p dst
    · rw [hz] at hf; cases hf
    · rw [hz] at hf
      rcases List.mem_cons.mp h with rfl | h
      · exact hz
      · exact zall_in hf h
theorem zall_ok {dst src : zsg} {i j : Nat} {v w : Int} (h : zall dst src = true) (h1 : zseg src i v) (h2 : zseg dst j w) : zseg dst j v := by
  obtain ⟨s, hs, _, _, k1, k2⟩ := h1
  obtain ⟨D, hD, g1, g2, _, _⟩ := h2
  obtain ⟨m1, m2⟩ := zall1_in (zall_in h hs) hD
  exact ⟨D, hD, g1, g2, by omega, by omega⟩
/-- known places of arrays of other types -/
def zcy (E : List zc) (t : Nat) : List (zv × zv × zv) → List (zv × zv × zv)
  | [] => []
  | q :: r => bif (match zty E q.1 with
      | some t2 => bif Nat.beq t2 t then false else true
      | none => false) then q :: zcy E t r else zcy E t r
theorem zcy_in {E : List zc} {t : Nat} : ∀ {C : List (zv × zv × zv)} {q : zv × zv × zv}, q ∈ zcy E t C → q ∈ C ∧ ∃ t2, zty E q.1 = some t2 ∧ t2 ≠ t
  | [], q, h => by cases h
  | p :: r, q, h => by
    unfold zcy at h
    split at h
    · rename_i t2 ht
      cases hb : Nat.beq t2 t
      · rw [hb] at h
        simp only [cond_false, cond_true] at h
        rcases List.mem_cons.mp h with rfl | h
        · refine ⟨List.mem_cons_self, t2, ht, fun e => ?_⟩
          rw [e, Nat.beq_refl] at hb; cases hb
        · exact ⟨List.mem_cons_of_mem _ (zcy_in h).1, (zcy_in h).2⟩
      · rw [hb] at h
        simp only [cond_true, cond_false] at h
        exact ⟨List.mem_cons_of_mem _ (zcy_in h).1, (zcy_in h).2⟩
    · exact ⟨List.mem_cons_of_mem _ (zcy_in h).1, (zcy_in h).2⟩
section ZCP
variable {τ : Nat → Nat} {ty : Nat → Option zt} {ms : zm}
/-- the type of a known place's array -/
theorem zca_ty {ρ : Nat → Int} {E : List zc} {n : Nat} (hE : zE_ok τ E ρ) {v : zv} {a t : Nat} (hw : zl_wf n v.2.2 = true) (ha : (a : Int) = zv_ev ρ v) (ht : zty E v = some t) : τ a = t := by
  have hv : v.1 = 2 := by
    unfold zty at ht
    split at ht
    · rfl
    · cases ht
  have hk : zok ρ n v (.ref a) := by
    refine ⟨hw, ?_⟩
    unfold zdn
    rw [hv]
    exact ⟨a, rfl, ha⟩
  obtain ⟨a3, e3, _, e5⟩ := zty_ok hE hk ht
  cases e3
  exact e5
theorem zcy_st {ρ : Nat → Int} {A : zA} {clv : iv_L} {cst : List Value} {σ : iv_H} (hA : zA_ok τ ty ρ A clv cst σ) {a t : Nat} {x y : Nat × vp_A} (hta : τ a = t) (g : iv_get σ a = some (.inl x)) : ∀ q ∈ zcy A.1.1 t A.2.2.2.2, zca_ok ρ A.1.1.length (iv_put σ a (.inl y)) q := by
  intro q hq
  obtain ⟨h1, t2, h2, h3⟩ := zcy_in hq
  obtain ⟨m1, m2, a2, i2, tag, len, f, m3, m4, m5, m6⟩ := hA.2.2.2.2 q h1
  have hba : a2 ≠ a := fun e => by
    apply h3
    rw [← zca_ty hA.1.1 m1 m3 h2, e, hta]
  exact ⟨m1, m2, a2, i2, tag, len, f, m3, m4, iv_gp_n g m5 hba, m6⟩
def zoCp (ty : Nat → Option zt) (ms : zm) : Nat → zA → zO := fun pc A => match A.2.2.1 with
  | n :: dp :: b :: sp :: a :: r => (match zty A.1.1 a, zty A.1.1 b with
    | some ta, some tb => (match ty ta, ty tb with
      | some (.inr (g, n0, _, src)), some (.inr (g2, n1, _, dst)) => bif ((Nat.beq g g2 && Nat.ble g 1) && (Nat.beq n.1 0 && (Nat.beq dp.1 0 && Nat.beq sp.1 0))) && (((zle 0 (zvl A.1 n) && (zle 0 (zvl A.1 dp) && zle 0 (zvl A.1 sp))) && (zle (zvh A.1 sp + zvh A.1 n) n0 && zle (zvh A.1 dp + zvh A.1 n) n1)) && (zall dst src && (zmem (1, tb, 0) ms && Nat.ble (zcs r) 8))) then some [(pc + 3, (A.1, A.2.1, r, A.2.2.2.1, zcy A.1.1 tb A.2.2.2.2))] else none
      | _, _ => none)
    | _, _ => none)
  | _ => none
theorem zcpy_at {α : Type} {f g : Nat → α} {sp dp n k : Nat} : va_cpy f g sp dp n k = if dp ≤ k ∧ k < dp + n then f (sp + (k - dp)) else g k := rfl
theorem zoCp_ok : zS τ ty ms iv_oCp (zoCp ty ms) := by
  intro ρ A clv cst σ L xs pc outs hg hA hI
  unfold zoCp at hg
  split at hg
  · rename_i n dp b sp a r hst
    split at hg
    · rename_i ta tb hta htb
      split at hg
      · rename_i g n0 k0 src g2 n1 k1 dst tya tyb
        cases hb : ((Nat.beq g g2 && Nat.ble g 1) && (Nat.beq n.1 0 && (Nat.beq dp.1 0 && Nat.beq sp.1 0))) && (((zle 0 (zvl A.1 n) && (zle 0 (zvl A.1 dp) && zle 0 (zvl A.1 sp))) && (zle (zvh A.1 sp + zvh A.1 n) n0 && zle (zvh A.1 dp + zvh A.1 n) n1)) && (zall dst src && (zmem (1, tb, 0) ms && Nat.ble (zcs r) 8)))
        · rw [hb] at hg; cases hg
        · rw [hb] at hg
          cases hg
          simp only [Bool.and_eq_true] at hb
          obtain ⟨⟨⟨q1, q2⟩, q3, q4, q5⟩, ⟨⟨q6, q7, q8⟩, q9, q10⟩, q11, q12, q13⟩ := hb
          have eg := Nat.eq_of_beq_eq_true q1
          subst eg
          have h1 := hA.2.2.1
          rw [hst] at h1
          obtain ⟨x1, c1, rfl, w1, h2⟩ := zst_c h1
          obtain ⟨x2, c2, rfl, w2, h3⟩ := zst_c h2
          obtain ⟨x3, c3, rfl, w3, h4⟩ := zst_c h3
          obtain ⟨x4, c4, rfl, w4, h5⟩ := zst_c h4
          obtain ⟨x5, c5, rfl, w5, h6⟩ := zst_c h5
          obtain ⟨N, rfl, eN⟩ := zdn0 w1.2 (Nat.eq_of_beq_eq_true q3)
          obtain ⟨D, rfl, eD⟩ := zdn0 w2.2 (Nat.eq_of_beq_eq_true q4)
          obtain ⟨P, rfl, eP⟩ := zdn0 w4.2 (Nat.eq_of_beq_eq_true q5)
          obtain ⟨lb, rfl, eb, tb2⟩ := zty_ok hA.1.1 w3 htb
          obtain ⟨la, rfl, ea, ta2⟩ := zty_ok hA.1.1 w5 hta
          have a1 := zvl_ok hA.1 w1.1
          have a2 := zvh_ok hA.1 w1.1
          have a3 := zvl_ok hA.1 w2.1
          have a4 := zvh_ok hA.1 w2.1
          have a5 := zvl_ok hA.1 w4.1
          have a6 := zvh_ok hA.1 w4.1
          have p6 := zle_iff.mp q6
          have p7 := zle_iff.mp q7
          have p8 := zle_iff.mp q8
          have p9 := zle_iff.mp q9
          have p10 := zle_iff.mp q10
          have nn : ∀ z : Int32, 0 ≤ z.toInt → ¬ z < 0 := fun z hz h => by
            have := Int32.lt_iff_toInt_lt.mp h
            have e0 : (0 : Int32).toInt = 0 := rfl
            omega
          have cN : N.toNatClampNeg = N.toInt.toNat := rfl
          have cD : D.toNatClampNeg = D.toInt.toNat := rfl
          have cP : P.toNatClampNeg = P.toInt.toNat := rfl
          have s1 : Nat.ble (P.toNatClampNeg + N.toNatClampNeg) n0 = true := Nat.ble_eq.mpr (by rw [cP, cN]; omega)
          have s2 : Nat.ble (D.toNatClampNeg + N.toNatClampNeg) n1 = true := Nat.ble_eq.mpr (by rw [cD, cN]; omega)
          have s3 : Nat.blt 8 (iv_cs c5) = false := by
            rw [zcs_ok h6]
            have := Nat.le_of_ble_eq_true q13
            cases hx : Nat.blt 8 (zcs r) with
            | false => rfl
            | true => rw [Nat.blt_eq] at hx; omega
          have s4 : ((decide (P < 0) || decide (D < 0)) || (decide (N < 0) || Nat.blt 8 (iv_cs c5))) = false := by
            rw [decide_eq_false (nn P (by omega)), decide_eq_false (nn D (by omega)), decide_eq_false (nn N (by omega)), s3]
            rfl
          have s5 := Nat.le_of_ble_eq_true s1
          have s6 := Nat.le_of_ble_eq_true s2
          rcases (show g = 0 ∨ g = 1 by have := Nat.le_of_ble_eq_true q2; omega) with rfl | rfl
          · obtain ⟨e1, g1, f, rfl, f2⟩ := hI la _ (by rw [ta2]; exact tya)
            obtain ⟨e2, g3, h, rfl, h9⟩ := hI lb _ (by rw [tb2]; exact tyb)
            have hf : iv_oCp L xs pc clv (.int N :: .int D :: .ref lb :: .int P :: .ref la :: c5) σ = some (pc + 3, clv, c5, iv_put σ lb (.inl (0, n1, .inl (va_cpy f h P.toNatClampNeg D.toNatClampNeg N.toNatClampNeg)))) := by
              unfold iv_oCp
              simp only [s4, cond_false, g1, g3, s1, s2, Bool.and_self, cond_true]
            refine ⟨pc + 3, clv, c5, _, _, ρ, hf, List.mem_singleton.mpr rfl, ⟨hA.1, hA.2.1, h6, zcf_st hA g3, zcy_st hA tb2 g3⟩, ?_, zag_rf, Nat.le_refl _, zFr_a g3 (by rw [tb2]; exact q12)⟩
            refine zI_put hI g3 (fun T hT => ?_)
            rw [tb2, tyb] at hT
            cases hT
            refine ⟨_, rfl, fun j hj => ?_⟩
            rw [zcpy_at]
            split
            · rename_i hh
              exact zall_ok q11 (f2 _ (by omega)) (h9 j hj)
            · exact h9 j hj
          · obtain ⟨e1, g1, f, rfl, f2⟩ := hI la _ (by rw [ta2]; exact tya)
            obtain ⟨e2, g3, h, rfl, h9⟩ := hI lb _ (by rw [tb2]; exact tyb)
            have hf : iv_oCp L xs pc clv (.int N :: .int D :: .ref lb :: .int P :: .ref la :: c5) σ = some (pc + 3, clv, c5, iv_put σ lb (.inl (1, n1, .inr (.inl (va_cpy f h P.toNatClampNeg D.toNatClampNeg N.toNatClampNeg))))) := by
              unfold iv_oCp
              simp only [s4, cond_false, g1, g3, s1, s2, Bool.and_self, cond_true]
            refine ⟨pc + 3, clv, c5, _, _, ρ, hf, List.mem_singleton.mpr rfl, ⟨hA.1, hA.2.1, h6, zcf_st hA g3, zcy_st hA tb2 g3⟩, ?_, zag_rf, Nat.le_refl _, zFr_a g3 (by rw [tb2]; exact q12)⟩
            refine zI_put hI g3 (fun T hT => ?_)
            rw [tb2, tyb] at hT
            cases hT
            refine ⟨_, rfl, fun j hj => ?_⟩
            rw [zcpy_at]
            split
            · rename_i hh
              exact zall_ok q11 (f2 _ (by omega)) (h9 j hj)
            · exact h9 j hj
      · cases hg
    · cases hg
  · cases hg
end ZCP
