/-! ===== the reference: stores that keep J ===== -/
def m_in (B : zB) (ix : zv) (a b : Int) : Bool := zle a (zvl B ix) && zle (zvh B ix) b
/-- some place of the array of type t is known so -/
def m_kn (A : zA) (t : Nat) (p : zv → zv → Bool) : Bool := A.2.2.2.2.any fun q => (match zty A.1.1 q.1 with
  | some t2 => Nat.beq t2 t
  | none => false) && p q.2.1 q.2.2
def m_bel (A : zA) (w : zv) (t : Nat) (i : Int) : Bool := m_kn A t fun ix v => m_in A.1 ix i i && zle (zvh A.1 (zv_cm (-1) w v)) (-1)
def m_sam (A : zA) (w : zv) (t : Nat) (a b : Int) : Bool := m_kn A t fun ix v => zv_eq v w && m_in A.1 ix a b
/-- lineMany, if it is known -/
def m_lmL (E : List zc) : List (zv × Nat × Nat × zv) → Option zv
  | [] => none
  | q :: r => bif Nat.beq q.2.1 12 && (Nat.beq q.2.2.1 42 && (match zty E q.1 with
    | some t2 => Nat.beq t2 22
    | none => false)) then some q.2.2.2 else m_lmL E r
def m_lm (A : zA) : Option zv := m_lmL A.1.1 A.2.2.2.1
/-- ix is 4 m + c -/
def m_o4 (ix m : zv) (c : Int) : Bool := (fun d => zeq d.2.1 c && (match d.2.2 with
  | [] => true
  | _ => false)) (zv_cm (-4) ix m)
def m_at4 (A : zA) (m : zv) (c : Int) (p : zv → Bool) : Bool := m_kn A 91 fun ix v => m_o4 ix m c && p v
def m_rk (A : zA) (m : zv) (k : Int) : Bool := m_at4 A m 0 fun v => m_in A.1 v k k
/-- row m of a book is whole -/
def m_rowok (A : zA) (m : zv) : Bool := m_rk A m 5 || (m_rk A m 4 && m_at4 A m 1 (fun v => m_in A.1 v 0 5) || (m_rk A m 0 && (m_at4 A m 1 (fun v => m_in A.1 v 0 6) && (m_at4 A m 2 (fun v => m_in A.1 v 0 6) && m_at4 A m 3 (fun v => m_in A.1 v 0 2))) || (m_rk A m 1 && (m_at4 A m 1 (fun v => m_in A.1 v 0 6) && m_at4 A m 2 (fun v => m_in A.1 v 0 5 && m_bel A v 74 1)) || (m_rk A m 2 && m_at4 A m 1 (fun v => m_in A.1 v 0 6) || m_rk A m 3 && (m_at4 A m 1 (fun v => m_in A.1 v 0 6) && m_at4 A m 2 (fun v => m_in A.1 v 0 6))))))
/-- the fourth part of ix - c -/
def m_q4 (ix : zv) (c : Int) : zv := (0, (ix.2.1 - c) / 4, ix.2.2.map fun q => (q.1, q.2 / 4))
/-- w was read from the third place of a row of kind 1 below lineMany -/
def m_linep (A : zA) (w : zv) : Bool := match m_lm A with
  | some m => m_kn A 91 fun ix v => zv_eq v w && (fun s => m_o4 ix s 2 && (m_rk A s 1 && zle (zvh A.1 (zv_cm (-1) s m)) (-1))) (m_q4 ix 2)
  | none => false
/-- w is one more than what stands at place i, and at place e + that stands what is above 0 -/
def m_up (A : zA) (w : zv) (i e : Int) : Bool := m_kn A 75 (fun jx v => zv_eq jx (0, e + w.2.1 - 1, w.2.2) && zle 1 (zvl A.1 v)) && m_kn A 75 (fun jx v => m_in A.1 jx i i && zv_eq v (0, w.2.1 - 1, w.2.2))
/-- without rows of a book -/
def m_soN0 (A : zA) (ix w : zv) : Bool := m_in A.1 ix 38 48 || (m_in A.1 ix 56 133 || (m_in A.1 ix 49 55 && (zle (zvh A.1 w) (-1) || (m_bel A w 74 1 || m_sam A w 74 49 55))))
def m_soN (A : zA) (ix w : zv) : Bool := m_in A.1 ix 38 48 || (m_in A.1 ix 56 133 || (m_in A.1 ix 49 55 && (zle (zvh A.1 w) (-1) || (m_bel A w 74 1 || (m_sam A w 74 49 55 || m_linep A w)))))
def m_soR (A : zA) (ix w : zv) : Bool := (m_in A.1 ix 2 4 || (m_in A.1 ix 12 18 || m_in A.1 ix 26 31)) || ((m_in A.1 ix 5 11 || m_in A.1 ix 32 37) && zle 1 (zvl A.1 w) || (m_in A.1 ix 19 25 && (zle (zvh A.1 w) (-1) || m_bel A w 75 1) || (m_in A.1 ix 0 0 && m_up A w 0 5 || m_in A.1 ix 1 1 && m_up A w 1 32)))
def m_soL (A : zA) (ix : zv) : Bool := match m_lm A with
  | some m => m_o4 ix m 0 || (m_o4 ix m 1 || (m_o4 ix m 2 || m_o4 ix m 3))
  | none => false
def m_so1 (A : zA) : Bool := match A.2.2.1 with
  | w :: ix :: ar :: _ => (match zty A.1.1 ar with
    | some t => bif Nat.beq t 74 then m_soN A ix w else bif Nat.beq t 75 then m_soR A ix w else bif Nat.beq t 91 then m_soL A ix else false
    | none => false)
  | _ => false
def m_so0 (A : zA) : Bool := match A.2.2.1 with
  | w :: ix :: ar :: _ => (match zty A.1.1 ar with
    | some t => bif Nat.beq t 74 then m_soN0 A ix w else bif Nat.beq t 75 then m_soR A ix w else false
    | none => false)
  | _ => false
def m_so2 (ci j : Nat) (A : zA) : Bool := bif Nat.beq ci 12 && Nat.beq j 42 then (match A.2.2.1 with
  | w :: o :: _ => (Nat.beq w.1 0 && (match zty A.1.1 o with
    | some t => Nat.beq t 22
    | none => false)) && (zle (zvh A.1 w) 0 || (match m_lm A with
    | some m => zv_eq w (0, m.2.1 + 1, m.2.2) && m_rowok A m
    | none => false))
  | _ => false) else false
section MST
variable {ρ : Nat → Int} {A : zA} {clv : iv_L} {cst : List Value} {σ : iv_H}
theorem zok_int {n : Nat} {x : zv} {z : Int32} (hk : zok ρ n x (.int z)) : z.toInt = zv_ev ρ x := by
  have hd := hk.2
  unfold zdn at hd
  split at hd
  · obtain ⟨y, e, ey⟩ := hd; cases e; exact ey
  · obtain ⟨y, e, ey⟩ := hd; cases e
  · obtain ⟨y, e, ey⟩ := hd; cases e
theorem iv_in_nn {i : Int32} {n : Nat} (h : iv_in i n = true) : (i.toNatClampNeg : Int) = i.toInt := by
  have e : i.toNatClampNeg = i.toInt.toNat := rfl
  unfold iv_in at h
  cases hd : decide (i < 0)
  · have h1 := of_decide_eq_false hd
    have h2 : 0 ≤ i.toInt := by
      rcases zlg i.toInt 0 with g | g
      · exact absurd (Int32.lt_iff_toInt_lt.mpr g) h1
      · exact g
    rw [e]; omega
  · rw [hd] at h; cases h
theorem m_in_ok {τ : Nat → Nat} {ty : Nat → Option zt} {B : zB} (h : zB_ok τ ty ρ B) {ix : zv} (hw : zl_wf B.1.length ix.2.2 = true) {a b : Int} (hi : m_in B ix a b = true) : a ≤ zv_ev ρ ix ∧ zv_ev ρ ix ≤ b := by
  unfold m_in at hi
  rw [Bool.and_eq_true] at hi
  have h1 := zle_iff.mp hi.1
  have h2 := zle_iff.mp hi.2
  have h3 := zvl_ok h hw
  have h4 := zvh_ok h hw
  omega
theorem m_kn_ok (hA : zA_ok m_τ m_ty ρ A clv cst σ) {t : Nat} (ht : 73 ≤ t) {p : zv → zv → Bool} (h : m_kn A t p = true) : ∃ (ix v : zv) (i : Nat), p ix v = true ∧ (i : Int) = zv_ev ρ ix ∧ (mA σ (550 + 2 * (t - 73)) i).toInt = zv_ev ρ v ∧ zl_wf A.1.1.length ix.2.2 = true ∧ zl_wf A.1.1.length v.2.2 = true := by
  obtain ⟨q, h1, h2⟩ := List.any_eq_true.mp h
  rw [Bool.and_eq_true] at h2
  obtain ⟨w1, w2, a, i, tag, len, f, b1, b2, b3, b4⟩ := hA.2.2.2.2 q h1
  have h3 := h2.1
  split at h3
  · rename_i t2 ht2
    rw [Nat.eq_of_beq_eq_true h3] at ht2
    have e := m_un (zca_ty hA.1.1 w1 b1 ht2) ht
    refine ⟨q.2.1, q.2.2, i, h2.2, b2, ?_, w2, b4.1⟩
    rw [← e, hA_of b3]
    exact zok_int b4
  · cases h3
theorem m_bel_ok (hA : zA_ok m_τ m_ty ρ A clv cst σ) {t : Nat} (ht : 73 ≤ t) {w : zv} (hw : zl_wf A.1.1.length w.2.2 = true) {i : Nat} (h : m_bel A w t i = true) : zv_ev ρ w < (mA σ (550 + 2 * (t - 73)) i).toInt := by
  obtain ⟨ix, v, j, h1, h2, h3, h4, h5⟩ := m_kn_ok hA ht h
  rw [Bool.and_eq_true] at h1
  have h6 := m_in_ok hA.1 h4 h1.1
  have h7 := zle_iff.mp h1.2
  have h8 := zvh_ok hA.1 (v := zv_cm (-1) w v) (zl_cm_wf hw h5)
  rw [zv_cm_ev] at h8
  have e : j = i := by omega
  subst e
  omega
theorem m_sam_ok (hA : zA_ok m_τ m_ty ρ A clv cst σ) {t : Nat} (ht : 73 ≤ t) {w : zv} {a b : Int} (h : m_sam A w t a b = true) : ∃ i : Nat, a ≤ i ∧ i ≤ b ∧ (mA σ (550 + 2 * (t - 73)) i).toInt = zv_ev ρ w := by
  obtain ⟨ix, v, j, h1, h2, h3, h4, h5⟩ := m_kn_ok hA ht h
  rw [Bool.and_eq_true] at h1
  have h6 := m_in_ok hA.1 h4 h1.2
  have e := zv_eq_ok h1.1
  subst e
  exact ⟨j, by omega, by omega, h3⟩
theorem m_lm_ok (hA : zA_ok m_τ m_ty ρ A clv cst σ) (hI : zI m_τ m_ty σ) {m : zv} (h : m_lm A = some m) : mF σ 42 = zv_ev ρ m ∧ zl_wf A.1.1.length m.2.2 = true := by
  have main : ∀ {C : List (zv × Nat × Nat × zv)}, (∀ q ∈ C, zcf_ok ρ A.1.1.length σ q) → m_lmL A.1.1 C = some m → mF σ 42 = zv_ev ρ m ∧ zl_wf A.1.1.length m.2.2 = true := by
    intro C
    induction C with
    | nil => intro _ h9; cases h9
    | cons q C ih =>
      intro hC h9
      unfold m_lmL at h9
      cases hb : Nat.beq q.2.1 12 && (Nat.beq q.2.2.1 42 && (match zty A.1.1 q.1 with
        | some t2 => Nat.beq t2 22
        | none => false))
      · rw [hb] at h9
        exact ih (fun q hq => hC q (List.mem_cons_of_mem _ hq)) h9
      · rw [hb] at h9
        cases h9
        rw [Bool.and_eq_true, Bool.and_eq_true] at hb
        obtain ⟨w1, a, fs, x, b1, b2, b3, b4⟩ := hC q List.mem_cons_self
        have h3 := hb.2.2
        split at h3
        · rename_i t2 ht2
          rw [Nat.eq_of_beq_eq_true h3] at ht2
          have e := m_uo (zca_ty hA.1.1 w1 b1 ht2)
          rw [e, Nat.eq_of_beq_eq_true hb.1] at b2
          rw [Nat.eq_of_beq_eq_true hb.2.1] at b3
          obtain ⟨fs2, c1, c2, c3⟩ := zI_obj hI (a := 548) (t := 22) rfl rfl
          rw [b2] at c1
          cases c1
          obtain ⟨y, rfl, _⟩ : ∃ y : Int32, x = .int y ∧ 0 ≤ y.toInt ∧ y.toInt ≤ 40 := c3 42 (0, 0, 40) x rfl b3
          exact ⟨(hF_of b2 b3).trans (zok_int b4), b4.1⟩
        · cases h3
  exact main hA.2.2.2.1 h
theorem m_o4_ok {ix m : zv} {c : Int} (h : m_o4 ix m c = true) : zv_ev ρ ix = 4 * zv_ev ρ m + c := by
  unfold m_o4 at h
  dsimp only at h
  rw [Bool.and_eq_true] at h
  have h1 := zbeq.mp h.1
  have h2 := h.2
  split at h2
  · rename_i e
    have h3 := zv_cm_ev (ρ := ρ) (-4) ix m
    have h4 : zv_ev ρ (zv_cm (-4) ix m) = c := by
      unfold zv_ev
      rw [e, h1]
      show c + 0 = c
      omega
    omega
  · cases h2
theorem m_at4_ok (hA : zA_ok m_τ m_ty ρ A clv cst σ) {m : zv} {c : Int} {p : zv → Bool} (h : m_at4 A m c p = true) : ∃ (v : zv) (i : Nat), p v = true ∧ (i : Int) = 4 * zv_ev ρ m + c ∧ (mA σ 586 i).toInt = zv_ev ρ v ∧ zl_wf A.1.1.length v.2.2 = true := by
  obtain ⟨ix, v, j, h1, h2, h3, h4, h5⟩ := m_kn_ok hA (by decide) h
  rw [Bool.and_eq_true] at h1
  exact ⟨v, j, h1.2, by rw [h2]; exact m_o4_ok h1.1, h3, h5⟩
theorem m_at4b (hA : zA_ok m_τ m_ty ρ A clv cst σ) {m : zv} {r c : Nat} {lo hi : Int} (hr : (r : Int) = zv_ev ρ m) (h : m_at4 A m c (fun v => m_in A.1 v lo hi) = true) : lo ≤ (mA σ 586 (4 * r + c)).toInt ∧ (mA σ 586 (4 * r + c)).toInt ≤ hi := by
  obtain ⟨v, i, h1, h2, h3, h4⟩ := m_at4_ok hA h
  have e : i = 4 * r + c := by omega
  subst e
  rw [h3]
  exact m_in_ok hA.1 h4 h1
theorem m_rk_ok (hA : zA_ok m_τ m_ty ρ A clv cst σ) {m : zv} {r : Nat} {k : Int} (hr : (r : Int) = zv_ev ρ m) (h : m_rk A m k = true) : (mA σ 586 (4 * r)).toInt = k := by
  have := m_at4b hA (c := 0) hr h
  simp only [Nat.add_zero] at this
  omega
theorem m_rowok_ok (hA : zA_ok m_τ m_ty ρ A clv cst σ) {m : zv} {r : Nat} (hr : (r : Int) = zv_ev ρ m) (h : m_rowok A m = true) : rowL (mA σ 586 (4 * r)).toInt (mA σ 586 (4 * r + 1)).toInt (mA σ 586 (4 * r + 2)).toInt (mA σ 586 (4 * r + 3)).toInt (mA σ 552 1).toInt := by
  unfold m_rowok at h
  simp only [Bool.or_eq_true, Bool.and_eq_true] at h
  unfold rowL
  rcases h with h | ⟨h, h1⟩ | ⟨h, h1, h2, h3⟩ | ⟨h, h1, h2⟩ | ⟨h, h1⟩ | ⟨h, h1, h2⟩
  · have k := m_rk_ok hA hr h
    rw [k]
    omega
  · have k := m_rk_ok hA hr h
    have k1 := m_at4b hA (c := 1) hr h1
    rw [k]
    omega
  · have k := m_rk_ok hA hr h
    have k1 := m_at4b hA (c := 1) hr h1
    have k2 := m_at4b hA (c := 2) hr h2
    have k3 := m_at4b hA (c := 3) hr h3
    rw [k]
    omega
  · have k := m_rk_ok hA hr h
    have k1 := m_at4b hA (c := 1) hr h1
    obtain ⟨v, i, g1, g2, g3, g4⟩ := m_at4_ok hA h2
    rw [Bool.and_eq_true] at g1
    have g5 := m_in_ok hA.1 g4 g1.1
    have g6 := m_bel_ok hA (t := 74) (by decide) g4 (i := 1) g1.2
    have g6 : zv_ev ρ v < (mA σ 552 1).toInt := g6
    have e : i = 4 * r + 2 := by omega
    subst e
    rw [k]
    omega
  · have k := m_rk_ok hA hr h
    have k1 := m_at4b hA (c := 1) hr h1
    rw [k]
    omega
  · have k := m_rk_ok hA hr h
    have k1 := m_at4b hA (c := 1) hr h1
    have k2 := m_at4b hA (c := 2) hr h2
    rw [k]
    omega
theorem m_linep_ok (hA : zA_ok m_τ m_ty ρ A clv cst σ) (hI : zI m_τ m_ty σ) (hJ : jL (mA σ 586) (mF σ 42) (mA σ 552 1).toInt) {w : zv} (h : m_linep A w = true) : zv_ev ρ w < (mA σ 552 1).toInt := by
  unfold m_linep at h
  split at h
  · rename_i m hm
    obtain ⟨l1, l2⟩ := m_lm_ok hA hI hm
    obtain ⟨ix, v, j, h1, h2, h3, h4, h5⟩ := m_kn_ok hA (by decide) h
    have h3 : (mA σ 586 j).toInt = zv_ev ρ v := h3
    dsimp only at h1
    rw [Bool.and_eq_true, Bool.and_eq_true, Bool.and_eq_true] at h1
    obtain ⟨g1, g2, g3, g4⟩ := h1
    have e := zv_eq_ok g1
    subst e
    have e1 := m_o4_ok (ρ := ρ) g2
    have hwf : zl_wf A.1.1.length (m_q4 ix 2).2.2 = true := by
      show zl_wf A.1.1.length (ix.2.2.map fun q => (q.1, q.2 / 4)) = true
      have main : ∀ {l : zl}, zl_wf A.1.1.length l = true → zl_wf A.1.1.length (l.map fun q => (q.1, q.2 / 4)) = true := by
        intro l
        induction l with
        | nil => intro _; rfl
        | cons q l ih => intro h9; exact zl_wf_c.mpr ⟨(zl_wf_c.mp h9).1, ih (zl_wf_c.mp h9).2⟩
      exact main h4
    have e2 := zle_iff.mp g4
    have e3 := zvh_ok hA.1 (v := zv_cm (-1) (m_q4 ix 2) m) (zl_cm_wf hwf l2)
    rw [zv_cm_ev] at e3
    obtain ⟨r, hr⟩ : ∃ r : Nat, (r : Int) = zv_ev ρ (m_q4 ix 2) := ⟨(zv_ev ρ (m_q4 ix 2)).toNat, by omega⟩
    have k1 := m_rk_ok hA hr g3
    have k2 := hJ r (by omega)
    have k3 := (k2.2.2.1 k1).2.2
    have e4 : j = 4 * r + 2 := by omega
    subst e4
    omega
  · cases h
/-- what a store of an int does -/
theorem m_view (hA : zA_ok m_τ m_ty ρ A clv cst σ) {w ix ar : zv} {rs : List zv} (hst : A.2.2.1 = w :: ix :: ar :: rs) {t : Nat} (ht : zty A.1.1 ar = some t) (h73 : 73 ≤ t) {L : Nat} {xs : Nat → Int32} {pc pc' : Nat} {clv' : iv_L} {cst' : List Value} {σ' : iv_H} (hs : iv_oIst L xs pc clv cst σ = some (pc', clv', cst', σ')) : ∃ (i n : Nat) (x : Int32) (f : Nat → Int32), (i : Int) = zv_ev ρ ix ∧ x.toInt = zv_ev ρ w ∧ iv_get σ (550 + 2 * (t - 73)) = some (.inl (0, n, .inl f)) ∧ σ' = iv_put σ (550 + 2 * (t - 73)) (.inl (0, n, .inl (upd f i x))) ∧ zl_wf A.1.1.length ix.2.2 = true ∧ zl_wf A.1.1.length w.2.2 = true := by
  have h1 := hA.2.2.1
  rw [hst] at h1
  obtain ⟨x1, c1, rfl, k1, h1⟩ := zst_c h1
  obtain ⟨x2, c2, rfl, k2, h1⟩ := zst_c h1
  obtain ⟨x3, c3, rfl, k3, h1⟩ := zst_c h1
  obtain ⟨a, rfl, ea, ta⟩ := zty_ok hA.1.1 k3 ht
  have e := m_un ta h73
  subst e
  unfold iv_oIst at hs
  split at hs
  · rename_i x i a r heq
    cases heq
    split at hs
    · rename_i n f hg
      cases hi : iv_in i n
      · rw [hi] at hs; cases hs
      · rw [hi] at hs
        cases hs
        refine ⟨i.toNatClampNeg, n, x, f, ?_, zok_int k1, hg, rfl, k2.1, k1.1⟩
        rw [← zok_int k2]
        exact iv_in_nn hi
    · cases hs
  · cases hs
end MST
