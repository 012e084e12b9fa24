/-! ===== constants of Word, copies, members of Math ===== -/
def zcs (st : List zv) : Nat := match st with
  | [] => 0
  | v :: r => (bif Nat.beq v.1 1 then 2 else 1) + zcs r
theorem zcs_ok {ρ : Nat → Int} {n : Nat} : ∀ {st : List zv} {cst : List Value}, zst_ok ρ n st cst → iv_cs cst = zcs st
  | [], [], _ => rfl
  | v :: r, x :: c, h => by
    have h2 := zcs_ok h.2
    show x.category + iv_cs c = (bif Nat.beq v.1 1 then 2 else 1) + zcs r
    rw [h2]
    congr 1
    have h1 := h.1.2
    unfold zdn at h1
    split at h1
    · rename_i hk
      obtain ⟨y, rfl, _⟩ := h1
      rw [hk]; rfl
    · rename_i hk
      obtain ⟨y, rfl, _⟩ := h1
      rw [hk]; rfl
    · rename_i k0 k1
      obtain ⟨y, rfl, _⟩ := h1
      have : Nat.beq v.1 1 = false := by
        cases hb : Nat.beq v.1 1 with
        | false => rfl
        | true => exact absurd (Nat.eq_of_beq_eq_true hb) k1
      rw [this]; rfl
  | [], x :: c, h => h.elim
  | v :: r, [], h => h.elim
section ZLB
variable {τ : Nat → Nat} {ty : Nat → Option zt} {ms : zm}
/-- a static that is a constant: its label a, its type t -/
def zoSt8 (τ : Nat → Nat) (a : Nat) : Nat → zA → zO := fun pc A => bif Nat.ble 1 (τ a) then some [(pc + 3, (fun n => ((A.1.1 ++ [(τ a + 2, (a : Int), (a : Int))], A.1.2), A.2.1, (2, 0, [(n, 1)]) :: A.2.2.1, A.2.2.2)) A.1.1.length)] else none
theorem zoStat_ok (a : Nat) : zS τ ty ms (iv_oS a) (zoSt8 τ a) := by
  intro ρ A clv cst σ L xs pc outs hg hA hI
  unfold zoSt8 at hg
  cases hb : Nat.ble 1 (τ a)
  · rw [hb] at hg; cases hg
  · rw [hb] at hg
    cases hg
    obtain ⟨ρ', z, f1, f2, f3, f4, f5, f6⟩ := znew hA (c := (τ a + 2, (a : Int), (a : Int))) (x := .ref a) ⟨a, rfl, Int.le_refl _, Int.le_refl _, rfl⟩
    have hl : (A.1.1 ++ [((τ a + 2, (a : Int), (a : Int)) : zc)]).length = A.1.1.length + 1 := f5
    have hle : A.1.1.length ≤ (A.1.1 ++ [((τ a + 2, (a : Int), (a : Int)) : zc)]).length := by omega
    exact zQ_one (ρ' := ρ') (cst' := .ref a :: cst) rfl ⟨f4.1, f4.2.1, ⟨by rw [← hl] at f6; exact f6, zst_ag f2 hle hA.2.2.1⟩, f4.2.2.2.1, f4.2.2.2.2⟩ hI f2 hle
def zoOrd : Nat → zA → zO := fun pc A => match A.2.2.1 with
  | v :: r => (match zty A.1.1 v with
    | some t => bif Nat.beq t 1 && Nat.ble (zcs r) 8 then some [(pc + 3, zpu A r (zbt 0 0 27))] else none
    | none => none)
  | _ => none
theorem zw_lab {a : Nat} (h : iv_isW a = true) : (a - 3) / 2 ≤ 27 := by
  unfold iv_isW at h
  simp only [Bool.and_eq_true] at h
  have h2 := Nat.le_of_ble_eq_true h.2.1
  have h3 := Nat.le_of_ble_eq_true h.2.2
  omega
theorem zoOrd_ok (hW : ∀ a, τ a = 1 → iv_isW a = true) : zS τ ty ms iv_oOrd zoOrd := by
  intro ρ A clv cst σ L xs pc outs hg hA hI
  unfold zoOrd at hg
  split at hg
  · rename_i v r hst
    have h1 := hA.2.2.1
    rw [hst] at h1
    obtain ⟨x0, c2, rfl, b1, h3⟩ := zst_c h1
    split at hg
    · rename_i t ht
      obtain ⟨a, rfl, ea, hta⟩ := zty_ok hA.1.1 b1 ht
      cases hb : Nat.beq t 1 && Nat.ble (zcs r) 8
      · rw [hb] at hg; cases hg
      · rw [hb] at hg
        cases hg
        rw [Bool.and_eq_true] at hb
        have hw := hW a (hta.trans (Nat.eq_of_beq_eq_true hb.1))
        have hl := zw_lab hw
        have e1 : (Int32.ofNat ((a - 3) / 2)).toInt = (((a - 3) / 2 : Nat) : Int) := Int32.toInt_ofNat_of_lt (by omega)
        obtain ⟨ρ', f1, f2, f3⟩ := zpu_ok hA h3 (zbt_ok (k := 0) (lo := 0) (hi := 27) (y := (Int32.ofNat ((a - 3) / 2)).toInt) (by omega) (by omega)) (by decide) (x := .int (Int32.ofNat ((a - 3) / 2))) ⟨_, rfl, rfl⟩
        refine zQ_one ?_ f1 hI f2 f3
        have hcs : Nat.ble (iv_cs c2) 8 = true := by rw [zcs_ok h3]; exact hb.2
        unfold iv_oOrd
        simp only [hw, hcs, Bool.and_self, cond_true]
    · cases hg
  · cases hg
theorem zoAc_ok (hW : ∀ a, τ a = 1 → iv_isW a = true) (off : Int) : zS τ ty ms (iv_oAc off) (fun pc A => match A.2.2.1 with
  | w :: v :: r => (match zty A.1.1 v, zty A.1.1 w with
    | some 1, some 1 => zbr (A.1, A.2.1, r, A.2.2.2) [] [] pc off
    | _, _ => none)
  | _ => none) := by
  intro ρ A clv cst σ L xs pc outs hg hA hI
  dsimp only at hg
  split at hg
  · rename_i w v r hst
    have h1 := hA.2.2.1
    rw [hst] at h1
    obtain ⟨y0, c1, rfl, a1, h2⟩ := zst_c h1
    obtain ⟨x0, c2, rfl, b1, h3⟩ := zst_c h2
    split at hg
    · rename_i e1 e2
      obtain ⟨a, rfl, _, hta⟩ := zty_ok hA.1.1 b1 e1
      obtain ⟨b, rfl, _, htb⟩ := zty_ok hA.1.1 a1 e2
      have hq := zbr_ok (ms := ms) (b := (bif Nat.beq a b then false else true)) hg (zA_st hA h3) hI rfl (fun _ f hf => by cases hf) (fun _ f hf => by cases hf)
      unfold iv_oAc
      simp only [hW a hta, hW b htb, Bool.and_self, cond_true]
      exact hq
    · cases hg
  · cases hg
/-- the greater, the lesser of two -/
def zoM2 (mx : Bool) : Nat → zA → zO := fun pc A => match A.2.2.1 with
  | w :: v :: r => bif (Nat.beq v.1 0 && Nat.beq w.1 0) && Nat.ble (zcs r) 8 then some [(pc + 3, zpu A r ((fun p q => bif mx then zbt 0 (bif zle p q then q else p) (bif zle (zvh A.1 v) (zvh A.1 w) then zvh A.1 w else zvh A.1 v) else zbt 0 (bif zle p q then p else q) (bif zle (zvh A.1 v) (zvh A.1 w) then zvh A.1 v else zvh A.1 w)) (zvl A.1 v) (zvl A.1 w)))] else none
  | _ => none
theorem zoM2_in {mx : Bool} {pc : Nat} {A : zA} {outs : List (Nat × zA)} (hg : zoM2 mx pc A = some outs) : ∃ w v r, A.2.2.1 = w :: v :: r ∧ v.1 = 0 ∧ w.1 = 0 ∧ Nat.ble (zcs r) 8 = true ∧ outs = [(pc + 3, zpu A r (bif mx then zbt 0 (bif zle (zvl A.1 v) (zvl A.1 w) then zvl A.1 w else zvl A.1 v) (bif zle (zvh A.1 v) (zvh A.1 w) then zvh A.1 w else zvh A.1 v) else zbt 0 (bif zle (zvl A.1 v) (zvl A.1 w) then zvl A.1 v else zvl A.1 w) (bif zle (zvh A.1 v) (zvh A.1 w) then zvh A.1 v else zvh A.1 w)))] := by
  unfold zoM2 at hg
  split at hg
  · rename_i w v r hst
    cases hb : (Nat.beq v.1 0 && Nat.beq w.1 0) && Nat.ble (zcs r) 8
    · rw [hb] at hg; cases hg
    · rw [hb] at hg
      cases hg
      simp only [Bool.and_eq_true] at hb
      exact ⟨w, v, r, hst, Nat.eq_of_beq_eq_true hb.1.1, Nat.eq_of_beq_eq_true hb.1.2, hb.2, rfl⟩
  · cases hg
theorem zbif {b : Bool} {p q : Int} : (b = true ∧ (bif b then p else q) = p) ∨ (b = false ∧ (bif b then p else q) = q) := by
  cases b
  · exact .inr ⟨rfl, rfl⟩
  · exact .inl ⟨rfl, rfl⟩
theorem zmx_ok {p q P Q x y : Int} (h1 : p ≤ x) (h2 : x ≤ P) (h3 : q ≤ y) (h4 : y ≤ Q) : (bif zle p q then q else p) ≤ (if x < y then y else x) ∧ (if x < y then y else x) ≤ (bif zle P Q then Q else P) ∧ (bif zle p q then p else q) ≤ (if y < x then y else x) ∧ (if y < x then y else x) ≤ (bif zle P Q then P else Q) := by
  rcases zbif (b := zle p q) (p := q) (q := p) with ⟨e1, e2⟩ | ⟨e1, e2⟩ <;> rcases zbif (b := zle P Q) (p := Q) (q := P) with ⟨e3, e4⟩ | ⟨e3, e4⟩ <;> simp only [e1, e3, cond_true, cond_false] <;> (first | have g1 := zle_iff.mp e1 | have g1 := zle_f e1) <;> (first | have g2 := zle_iff.mp e3 | have g2 := zle_f e3) <;> refine ⟨?_, ?_, ?_, ?_⟩ <;> split <;> omega
theorem zoMax_ok : zS τ ty ms (iv_oMM fun x y => if x < y then y else x) (zoM2 true) := by
  intro ρ A clv cst σ L xs pc outs hg hA hI
  obtain ⟨w, v, r, hst, kv, kw, hcs, rfl⟩ := zoM2_in hg
  have h1 := hA.2.2.1
  rw [hst] at h1
  obtain ⟨y0, c1, rfl, a1, h2⟩ := zst_c h1
  obtain ⟨x0, c2, rfl, b1, h3⟩ := zst_c h2
  obtain ⟨x, rfl, ex⟩ := zdn0 b1.2 kv
  obtain ⟨y, rfl, ey⟩ := zdn0 a1.2 kw
  have m := zmx_ok (zvl_ok hA.1 b1.1) (zvh_ok hA.1 b1.1) (zvl_ok hA.1 a1.1) (zvh_ok hA.1 a1.1)
  have e1 : (if x < y then y else x : Int32).toInt = if zv_ev ρ v < zv_ev ρ w then zv_ev ρ w else zv_ev ρ v := by
    rw [← ex, ← ey]
    by_cases g : x < y
    · rw [if_pos g, if_pos (Int32.lt_iff_toInt_lt.mp g)]
    · rw [if_neg g, if_neg (fun h => g (Int32.lt_iff_toInt_lt.mpr h))]
  obtain ⟨ρ', f1, f2, f3⟩ := zpu_ok hA h3 (zbt_ok (k := 0) (y := (if x < y then y else x : Int32).toInt) (by rw [e1]; exact m.1) (by rw [e1]; exact m.2.1)) (by decide) (x := .int (if x < y then y else x)) ⟨_, rfl, rfl⟩
  refine zQ_one ?_ f1 hI f2 f3
  have hc : Nat.ble (iv_cs c2) 8 = true := by rw [zcs_ok h3]; exact hcs
  unfold iv_oMM
  simp only [hc, cond_true]
theorem zoMin_ok : zS τ ty ms (iv_oMM fun x y => if y < x then y else x) (zoM2 false) := by
  intro ρ A clv cst σ L xs pc outs hg hA hI
  obtain ⟨w, v, r, hst, kv, kw, hcs, rfl⟩ := zoM2_in hg
  have h1 := hA.2.2.1
  rw [hst] at h1
  obtain ⟨y0, c1, rfl, a1, h2⟩ := zst_c h1
  obtain ⟨x0, c2, rfl, b1, h3⟩ := zst_c h2
  obtain ⟨x, rfl, ex⟩ := zdn0 b1.2 kv
  obtain ⟨y, rfl, ey⟩ := zdn0 a1.2 kw
  have m := zmx_ok (zvl_ok hA.1 b1.1) (zvh_ok hA.1 b1.1) (zvl_ok hA.1 a1.1) (zvh_ok hA.1 a1.1)
  have e1 : (if y < x then y else x : Int32).toInt = if zv_ev ρ w < zv_ev ρ v then zv_ev ρ w else zv_ev ρ v := by
    rw [← ex, ← ey]
    by_cases g : y < x
    · rw [if_pos g, if_pos (Int32.lt_iff_toInt_lt.mp g)]
    · rw [if_neg g, if_neg (fun h => g (Int32.lt_iff_toInt_lt.mpr h))]
  obtain ⟨ρ', f1, f2, f3⟩ := zpu_ok hA h3 (zbt_ok (k := 0) (y := (if y < x then y else x : Int32).toInt) (by rw [e1]; exact m.2.2.1) (by rw [e1]; exact m.2.2.2)) (by decide) (x := .int (if y < x then y else x)) ⟨_, rfl, rfl⟩
  refine zQ_one ?_ f1 hI f2 f3
  have hc : Nat.ble (iv_cs c2) 8 = true := by rw [zcs_ok h3]; exact hcs
  unfold iv_oMM
  simp only [hc, cond_true]
/-- the size of a number: any int -/
def zoAb : Nat → zA → zO := fun pc A => match A.2.2.1 with
  | v :: r => bif Nat.beq v.1 0 && Nat.ble (zcs r) 8 then some [(pc + 3, zpu A r zTi)] else none
  | _ => none
theorem zoAb_ok : zS τ ty ms iv_oAb zoAb := by
  intro ρ A clv cst σ L xs pc outs hg hA hI
  unfold zoAb at hg
  split at hg
  · rename_i v r hst
    cases hb : Nat.beq v.1 0 && Nat.ble (zcs r) 8
    · rw [hb] at hg; cases hg
    · rw [hb] at hg
      cases hg
      rw [Bool.and_eq_true] at hb
      have h1 := hA.2.2.1
      rw [hst] at h1
      obtain ⟨x0, c2, rfl, b1, h3⟩ := zst_c h1
      obtain ⟨x, rfl, ex⟩ := zdn0 b1.2 (Nat.eq_of_beq_eq_true hb.1)
      obtain ⟨ρ', f1, f2, f3⟩ := zpu_ok hA h3 (zTi_ok (y := if 0 ≤ x then x else 0 - x)) (by decide) (x := .int (if 0 ≤ x then x else 0 - x)) ⟨_, rfl, rfl⟩
      refine zQ_one ?_ f1 hI f2 f3
      have hc : Nat.ble (iv_cs c2) 8 = true := by rw [zcs_ok h3]; exact hb.2
      unfold iv_oAb
      simp only [hc, cond_true]
  · cases hg
/-- a constant of Word into an array of them -/
def zoQs (ty : Nat → Option zt) (ms : zm) : Nat → zA → zO := fun pc A => match A.2.2.1 with
  | w :: ix :: ar :: r => (match zty A.1.1 ar with
    | some t => (match ty t, zty A.1.1 w with
      | some (.inr (6, len, 1, _)), some 1 => bif zix A.1 ix len && zmem (1, t, 0) ms then some [(pc + 1, (A.1, A.2.1, r, A.2.2.2.1, zcx A.1 t ar ix A.2.2.2.2))] else none
      | _, _ => none)
    | none => none)
  | _ => none
theorem zoQst_ok (hW : ∀ a, τ a = 1 → iv_isW a = true) : zS τ ty ms iv_oQst (zoQs ty ms) := by
  intro ρ A clv cst σ L xs pc outs hg hA hI
  unfold zoQs at hg
  split at hg
  · rename_i w ix ar r hst
    split at hg
    · rename_i t ht
      split at hg
      · rename_i len sg hty htw
        cases hb : zix A.1 ix len && zmem (1, t, 0) ms
        · rw [hb] at hg; cases hg
        · rw [hb] at hg
          cases hg
          rw [Bool.and_eq_true] at hb
          obtain ⟨hz, hm⟩ := hb
          have h1 := hA.2.2.1
          rw [hst] at h1
          obtain ⟨xw, c0, rfl, w1, h2⟩ := zst_c h1
          obtain ⟨x, c1, rfl, a1, h3⟩ := zst_c h2
          obtain ⟨x0, c2, rfl, b1, h4⟩ := zst_c h3
          obtain ⟨a, rfl, ea, hta⟩ := zty_ok hA.1.1 b1 ht
          obtain ⟨y, rfl, ey, k1, k2, k3, k4, k5⟩ := zix_ok hA.1 a1 hz
          obtain ⟨v, rfl, _, htv⟩ := zty_ok hA.1.1 w1 htw
          obtain ⟨e, g1, f, g0, rfl, g2⟩ := hI a _ (by rw [hta]; exact hty)
          have hf : iv_oQst L xs pc clv (.ref v :: .int y :: .ref a :: c2) σ = some (pc + 1, clv, c2, iv_put σ a (.inl (6, len, .inr (.inr (.inr (.inr (va_up f y.toNatClampNeg (some v)))))))) := by
            unfold iv_oQst
            have q1 : iv_co σ v = 10 := by unfold iv_co; rw [hW v htv]; rfl
            simp only [g1, k1, q1]
            rfl
          refine ⟨pc + 1, clv, c2, _, _, ρ, hf, List.mem_singleton.mpr rfl, ⟨hA.1, hA.2.1, h4, zcf_st hA g1, ?_⟩, ?_, zag_rf, Nat.le_refl _, zFr_a g1 (by rw [hta]; exact hm)⟩
          · intro q hq
            refine zca_st hA hta ea k3 a1.1 g1 ?_ q hq
            intro tag len2 f2 e
            cases e
          · refine zI_put hI g1 (fun T hT => ?_)
            rw [hta, hty] at hT
            cases hT
            refine ⟨_, by decide, rfl, fun j hj => ?_⟩
            by_cases hji : j = y.toNatClampNeg
            · rw [hji, va_up_self]; exact ⟨v, rfl, htv⟩
            · rw [va_up_ne _ _ hji]; exact g2 j hj
      · cases hg
    · cases hg
  · cases hg
end ZLB
