/-! ===== the reference: contracts, J with a further property ===== -/
def mJ (P : iv_H → Prop) (σ : iv_H) : Prop := m_Jb σ ∧ P σ
def m_Pf (P : iv_H → Prop) : Prop := ∀ (ms : zm) (σ σ' : iv_H), ms.all m_sf = true → zFr m_τ ms σ σ' → P σ → P σ'
def m_P1 (P : iv_H → Prop) : Prop := ∀ (ρ : Nat → Int) (A : zA) (clv clv' : iv_L) (cst cst' : List Value) (σ σ' : iv_H) (L : Nat) (xs : Nat → Int32) (pc pc' : Nat), m_so0 A = true → zA_ok m_τ m_ty ρ A clv cst σ → zI m_τ m_ty σ → m_Jb σ → P σ → iv_oIst L xs pc clv cst σ = some (pc', clv', cst', σ') → P σ'
def m_Ps (P : iv_H → Prop) : Prop := m_Pf P ∧ m_P1 P
def hT : iv_H → Prop := fun _ => True
theorem hT_s : m_Ps hT := ⟨fun _ _ _ _ _ _ => trivial, fun _ _ _ _ _ _ _ _ _ _ _ _ _ _ _ _ _ _ => trivial⟩
theorem m_Jf {P : iv_H → Prop} (h : m_Pf P) : ∀ (ms : zm) (σ σ' : iv_H), ms.all m_sf = true → zFr m_τ ms σ σ' → mJ P σ → mJ P σ' := fun ms σ σ' h1 h2 h3 => ⟨m_Jsx ms σ σ' h1 h2 h3.1, h ms σ σ' h1 h2 h3.2⟩
theorem zO_mono {τ : Nat → Nat} {ty : Nat → Option zt} {J J' : iv_H → Prop} {g : zA → Option (List zA)} (h : ∀ σ, J' σ → J σ) (hg : zO_ok τ ty J g) : zO_ok τ ty J' g := fun ρ A clv cst σ outs h1 h2 h3 h4 => hg ρ A clv cst σ outs h1 h2 h3 (h σ h4)
theorem m_or_ok {J : iv_H → Prop} (hq : ∀ σ, J σ → ∃ n, m_Jx n σ) {M pc : Nat} {g : zA → Option (List zA)} (h : m_or M pc = some g) : zO_ok m_τ m_ty J g := by
  unfold m_or at h
  simp only [Bool.cond_eq_ite] at h
  repeat' split at h
  all_goals first
    | (cases h; first
      | exact ztgo_ok
      | exact m_div_ok hq
      | exact m_com_ok hq
      | exact m_hold_ok hq
      | exact m_hl_ok hq)
    | cases h
theorem m_qJ {P : iv_H → Prop} : ∀ σ, mJ P σ → ∃ n, m_Jx n σ := fun _ h => ⟨0, h.1⟩
theorem m_OK0 {P : iv_H → Prop} : zOK m_τ m_ty (mJ P) m_oc0 := ⟨fun M pc g h => m_or_ok m_qJ h, zno_ok⟩
theorem m_S0J {P : iv_H → Prop} (h : m_Ps P) : zS1_ok m_τ m_ty (mJ P) m_so0 ∧ zS2_ok m_τ m_ty (mJ P) (fun _ _ _ => false) := ⟨fun ρ A clv clv' cst cst' σ σ' L xs pc pc' h1 h2 h3 h4 h5 => ⟨m_S0 h1 h2 h3 h4.1 h5, h.2 ρ A clv clv' cst cst' σ σ' L xs pc pc' h1 h2 h3 h4.1 h4.2 h5⟩, fun ci j fty ρ A clv clv' cst cst' σ σ' L xs pc pc' h1 => by cases h1⟩
theorem m_OKS {P : iv_H → Prop} (h : m_Ps P) : zOK m_τ m_ty (mJ P) m_ocS := ⟨fun M pc g h => m_or_ok m_qJ h, m_S0J h, fun M pc q h => by cases h⟩
/-- a contract by cases -/
theorem zCT_un {τ : Nat → Nat} {ty : Nat → Option zt} {J : iv_H → Prop} {c : zct} {n : Nat} {J' : Nat → iv_H → Prop} {ck : Nat → zct} (h1 : ∀ σ, zI τ ty σ → J σ → ∃ k, k < n ∧ J' k σ) (h2 : ∀ k σ, J' k σ → J σ) (hc : ∀ k, k < n → zCT τ ty (J' k) (ck k)) (he : ∀ k, k < n → (ck k).1 = c.1 ∧ (ck k).2.1 = c.2.1 ∧ (ck k).2.2.1 = c.2.2.1 ∧ (ck k).2.2.2.1.2.1 = c.2.2.2.1.2.1 ∧ (ck k).2.2.2.1.2.2.2 = c.2.2.2.1.2.2.2 ∧ (ck k).2.2.2.2.2 = c.2.2.2.2.2) : zCT τ ty J c := by
  intro L xs d cas σ ρ hd hI hJ hP
  obtain ⟨k, hk, hJk⟩ := h1 σ hI hJ
  obtain ⟨e1, e2, e3, e4, e5, e6⟩ := he k hk
  obtain ⟨r, σ', g1, g2, g3, g4, g5⟩ := hc k hk L xs d cas σ ρ (by rw [e2]; exact hd) hI hJk (by rw [e4]; exact hP)
  rw [e1] at g1
  rw [e3] at g4
  rw [e5, e6] at g5
  exact ⟨r, σ', g1, g2, h2 k σ' g3, g4, g5⟩
/-- a place that is K: stable -/
theorem m_PfA {t : Nat} (ht : (74 ≤ t ∧ t ≤ 78) ∨ t = 82 ∨ t = 91 ∨ t = 93) {Q : (Nat → Int32) → Prop} : m_Pf (fun σ => Q (mA σ (550 + 2 * (t - 73)))) := by
  intro ms σ σ' hs hF h
  have e : mA σ' (550 + 2 * (t - 73)) = mA σ (550 + 2 * (t - 73)) := hA_fr hF (by
    have e2 : m_τ (550 + 2 * (t - 73)) = t := by
      rcases ht with ⟨h1, h2⟩ | rfl | rfl | rfl
      · have : t = 74 ∨ t = 75 ∨ t = 76 ∨ t = 77 ∨ t = 78 := by omega
        rcases this with rfl | rfl | rfl | rfl | rfl <;> rfl
      · rfl
      · rfl
      · rfl
    rw [e2]
    exact m_sfa ht hs)
  show Q (mA σ' (550 + 2 * (t - 73)))
  rw [e]
  exact h
theorem m_Pand {P Q : iv_H → Prop} (h1 : m_Pf P) (h2 : m_Pf Q) : m_Pf (fun σ => P σ ∧ Q σ) := fun ms σ σ' a b c => ⟨h1 ms σ σ' a b c.1, h2 ms σ σ' a b c.2⟩
/-! contracts by hand -/
theorem m_this {lv : iv_L} {σ : iv_H} {ρ γ : Nat → Int} {r : Option Value} {P : zp} (hP : zP_ok m_τ γ lv r σ P ρ) {i l lo hi : Nat} {lo' hi' : Int} (h : iv_nth P.1 i = some ((0, l, 0, 0), (24, lo', hi'))) : iv_f1 lv l = some (.ref 548) := by
  obtain ⟨x, l0, k0⟩ := hP.2.2 i _ _ h
  obtain ⟨a, rfl, ea⟩ : ∃ a : Nat, x = .ref a ∧ (a : Int) = ρ i := k0
  obtain ⟨_, _, c0⟩ := hP.1 i _ (zcons_of h)
  have h9 := (c0 (by show 2 ≤ 24; decide)).2
  rw [← ea, Int.toNat_natCast] at h9
  rw [l0, m_uo h9]
theorem m_intl {lv : iv_L} {σ : iv_H} {ρ γ : Nat → Int} {r : Option Value} {P : zp} (hP : zP_ok m_τ γ lv r σ P ρ) {i l : Nat} {lo hi : Int} (h : iv_nth P.1 i = some ((0, l, 0, 0), (0, lo, hi))) : ∃ x : Int32, iv_f1 lv l = some (.int x) ∧ x.toInt = ρ i ∧ lo ≤ x.toInt ∧ x.toInt ≤ hi := by
  obtain ⟨x, l0, k0⟩ := hP.2.2 i _ _ h
  obtain ⟨y, rfl, ey⟩ : ∃ y : Int32, x = .int y ∧ y.toInt = ρ i := k0
  obtain ⟨c1, c2, _⟩ := hP.1 i _ (zcons_of h)
  have c1 : lo ≤ ρ i := c1
  have c2 : ρ i ≤ hi := c2
  exact ⟨y, l0, ey, by omega, by omega⟩
theorem hand_v {J : iv_H → Prop} {m h : Nat} {ms : zm} (H : ∀ (L : Nat) (xs : Nat → Int32) (d : Nat) (lv : iv_L) (σ : iv_H), zI m_τ m_ty σ → J σ → iv_f1 lv 0 = some (.ref 548) → zGo L xs (fun r σ' => r = none ∧ zI m_τ m_ty σ' ∧ J σ' ∧ zFr m_τ ms σ σ') [] d m 0 lv [] σ) : zCT m_τ m_ty J (m, h, ms, (0, ([((0, 0, 0, 0), (24, 0, 1000))], []), (1, []), []), [], [([], [])]) := by
  intro L xs d cas σ ρ hd hI hJ hP
  obtain ⟨r, σ', g1, g2, g3, g4, g5⟩ := H L xs d (lv_args 0 cas) σ hI hJ (m_this (lo := 0) (hi := 0) hP (i := 0) rfl)
  subst g2
  exact ⟨none, σ', g1, g3, g4, g5, ([], []), List.mem_singleton.mpr rfl, ⟨ρ, fun s c h => (by cases h), fun f h => (by cases h), fun i b c h => (by cases h)⟩, fun h => (by cases h), fun _ => rfl⟩
theorem i32_nat {x : Int32} (h : 0 ≤ x.toInt) : ∃ n : Nat, x = Int32.ofNat n ∧ (n : Int) = x.toInt := by
  have h2 := Int32.toInt_lt x
  refine ⟨x.toInt.toNat, ?_, by omega⟩
  apply Int32.toInt_inj.mp
  rw [Int32.toInt_ofNat_of_lt (by omega)]
  omega
theorem i32_ev {n : Nat} (h : n ≤ 1000000) : (Int32.ofNat n).toInt = n := Int32.toInt_ofNat_of_lt (by omega)
/-- J out of its parts -/
theorem m_Jmk {σ : iv_H} {fs : List Value} {n : Int} {N R K S Z Ln D : Nat → Int32} {sm : Int} (ho : iv_get σ 548 = some (.inr (12, fs))) (hN : mA σ 552 = N) (hR : mA σ 554 = R) (hK : mA σ 556 = K) (hS : mA σ 558 = S) (hZ : mA σ 568 = Z) (hL : mA σ 586 = Ln) (hD : mA σ 590 = D) (h9 : mF σ 24 = sm) (h : jI N 0 ∧ ((jE R 0 ∧ jB R 0) ∧ jS R 19 (R 1).toInt) ∧ jD D 0 ∧ jL Ln n (N 1).toInt ∧ jR S sm (N 1).toInt ∧ ∀ k : Nat, k < 2 → Z k = 1 → jI K (374 * k)) : m_Jx n σ := by
  unfold m_Jx
  rw [hN, hR, hK, hS, hZ, hL, hD, h9]
  exact ⟨⟨fs, ho⟩, h⟩
theorem mF_set {σ : iv_H} {fs : List Value} {j : Nat} {x : Int32} (ho : iv_get σ 548 = some (.inr (12, fs.set j (.int x)))) (hj : j < fs.length) : mF σ j = x.toInt := hF_of ho (by rw [iv_nth_set, if_pos ⟨rfl, hj⟩])
theorem mF_ne {σ σ' : iv_H} {fs : List Value} {j i : Nat} {v : Value} (ho : iv_get σ 548 = some (.inr (12, fs))) (ho' : iv_get σ' 548 = some (.inr (12, fs.set j v))) (hi : i ≠ j) : mF σ' i = mF σ i := by
  unfold mF
  rw [ho, ho']
  simp only
  rw [iv_nth_set, if_neg (fun e => hi e.1)]
/-- snaps and snapMany anew -/
theorem m_fsn {σ σ2 : iv_H} {fs : List Value} {S S2 : Nat → Int32} {n : Nat} (hI : zI m_τ m_ty σ) (hJ : m_Jb σ) (ho : iv_get σ 548 = some (.inr (12, fs))) (mo : mO fs) (gS : iv_get σ 558 = some (.inl (0, 752, .inl S))) (hn : n ≤ 8) (h2 : mD σ σ2 558 (.inl (0, 752, .inl S2))) (hz : ∀ i, i < 752 → zseg (m_sg 77) i (S2 i).toInt) (hr : jR S2 n (mA σ 552 1).toInt) : zI m_τ m_ty (iv_put σ2 548 (.inr (12, fs.set 24 (.int (Int32.ofNat n))))) ∧ m_Jb (iv_put σ2 548 (.inr (12, fs.set 24 (.int (Int32.ofNat n))))) ∧ zFr m_τ [(0, 12, 24), (1, 77, 0)] σ (iv_put σ2 548 (.inr (12, fs.set 24 (.int (Int32.ofNat n))))) := by
  have ho2 := mD_n h2 (by decide) ho
  have h3 := mD_put2 (e2 := .inr (12, fs.set 24 (.int (Int32.ofNat n)))) ho2
  have hI2 := mD_zI hI h2 (m_ze (t := 77) (k := 0) rfl hz)
  have en := i32_ev (n := n) (by omega)
  refine ⟨mD_zI hI2 h3 (m_zo hI2 ho2 (lo := 0) (hi := 8) rfl (by omega) (by omega)), ?_, zFr_tr (fun _ h => h) (mD_zFr gS h2 rfl) (mD_zFf ho2 h3 rfl)⟩
  have a : ∀ {b : Nat}, b ≠ 558 → b ≠ 548 → mA (iv_put σ2 548 (.inr (12, fs.set 24 (.int (Int32.ofNat n))))) b = mA σ b := fun b1 b2 => (mD_A (x := none) h3 b2).trans (mD_A (x := none) h2 b1)
  have hs : mA (iv_put σ2 548 (.inr (12, fs.set 24 (.int (Int32.ofNat n))))) 558 = S2 := (mD_A (x := none) h3 (by decide)).trans (mD_As h2)
  obtain ⟨_, q1, q2, q3, q4, q5, q6⟩ := hJ
  exact m_Jmk h3.2.1 (a (by decide) (by decide)) (a (by decide) (by decide)) (a (by decide) (by decide)) hs (a (by decide) (by decide)) (a (by decide) (by decide)) (a (by decide) (by decide)) ((mF_set h3.2.1 (by have := mo.1; omega)).trans en) ⟨q1, q2, q3, q4, hr, q6⟩
theorem m_cpNS {sm : Nat} (h : sm ≤ 7) : zcpk (m_sg 74) (m_sg 77) (38 : Nat) ((94 * sm : Nat) : Int) (94 : Nat) = true := by
  have : sm = 0 ∨ sm = 1 ∨ sm = 2 ∨ sm = 3 ∨ sm = 4 ∨ sm = 5 ∨ sm = 6 ∨ sm = 7 := by omega
  rcases this with rfl | rfl | rfl | rfl | rfl | rfl | rfl | rfl <;> decide +kernel
theorem m_cpSN {sm : Nat} (h : sm ≤ 7) : zcpk (m_sg 77) (m_sg 74) ((94 * sm : Nat) : Int) (38 : Nat) (94 : Nat) = true := by
  have : sm = 0 ∨ sm = 1 ∨ sm = 2 ∨ sm = 3 ∨ sm = 4 ∨ sm = 5 ∨ sm = 6 ∨ sm = 7 := by omega
  rcases this with rfl | rfl | rfl | rfl | rfl | rfl | rfl | rfl <;> decide +kernel
theorem m_snap_H (L : Nat) (xs : Nat → Int32) (d : Nat) (lv : iv_L) (σ : iv_H) (hI : zI m_τ m_ty σ) (hJ : m_Jb σ) (l0 : iv_f1 lv 0 = some (.ref 548)) : zGo L xs (fun r σ' => r = none ∧ zI m_τ m_ty σ' ∧ m_Jb σ' ∧ zFr m_τ [(0, 12, 24), (1, 77, 0)] σ σ') [] d 207 0 lv [] σ := by
  obtain ⟨fs, ho, mo, ⟨x, e24, x1, x2⟩, _⟩ := mO_of hI
  obtain ⟨N, gN, zN⟩ := m_iaN hI
  obtain ⟨S, gS, zS⟩ := m_iaS hI
  obtain ⟨sm, rfl, es⟩ := i32_nat x1
  have hN : mA σ 552 = N := hA_of gN
  have hS : mA σ 558 = S := hA_of gS
  have hsm : mF σ 24 = sm := (hF_of ho e24).trans es.symm
  have jn : jS N 49 (N 1).toInt := by have := hJ.2.1.2.1; rw [hN] at this; exact this
  have jr := hJ.2.2.2.2.2.1
  rw [hN, hS, hsm] at jr
  refine g_snap l0 ho mo e24 (by omega) gN gS (fun h7 σ2 h2 => ⟨rfl, ?_⟩) (fun h8 σ1 σ2 h1 h2 => ⟨rfl, ?_⟩)
  · refine m_fsn hI hJ ho mo gS (by omega) h2 (zcpk_ok (m_cpNS h7) zN zS (by decide)) ?_
    rw [hN]
    intro r hr b hb
    have hr : (r : Int) < ((sm + 1 : Nat) : Int) := hr
    rw [zcpy_at]
    by_cases hc : 94 * sm ≤ 94 * r + 11 + b ∧ 94 * r + 11 + b < 94 * sm + 94
    · rw [if_pos hc]
      have e : 38 + (94 * r + 11 + b - 94 * sm) = 49 + b := by omega
      rw [e]
      exact jn b hb
    · rw [if_neg hc]
      exact jr r (by omega) b hb
  · subst h8
    have ho1 := mD_n h1 (by decide) ho
    have h3 := mD_put2 (e2 := .inr (12, fs.set 24 (.int (Int32.ofNat 7)))) ho1
    have zS1 : ∀ i, i < 752 → zseg (m_sg 77) i (va_cpy S S 94 0 658 i).toInt := zcpk_ok (by decide +kernel) zS zS (by decide)
    obtain ⟨hI3, hJ3, hF3⟩ := m_fsn (n := 7) hI hJ ho mo gS (by decide) h1 zS1 (by
      rw [hN]
      intro r hr b hb
      have hr : (r : Int) < ((7 : Nat) : Int) := hr
      rw [zcpy_at, if_pos (by omega)]
      have e : 94 + (94 * r + 11 + b - 0) = 94 * (r + 1) + 11 + b := by omega
      rw [e]
      exact jr (r + 1) (by omega) b hb)
    have gS3 := mD_n h3 (by decide) h1.2.1
    have hN3 : mA (iv_put σ1 548 (.inr (12, fs.set 24 (.int (Int32.ofNat 7))))) 552 = N := ((mD_A (x := none) h3 (by decide)).trans (mD_A (x := none) h1 (by decide))).trans hN
    obtain ⟨r1, r2, r3⟩ := m_fsn (n := 8) hI3 hJ3 h3.2.1 (mO_set mo (.inl rfl)) gS3 (by decide) h2 (zcpk_ok (m_cpNS (by decide)) zN zS1 (by decide)) (by
      rw [hN3]
      intro r hr b hb
      have hr : (r : Int) < ((8 : Nat) : Int) := hr
      rw [zcpy_at]
      by_cases hc : 94 * 7 ≤ 94 * r + 11 + b ∧ 94 * r + 11 + b < 94 * 7 + 94
      · rw [if_pos hc]
        have e : 38 + (94 * r + 11 + b - 94 * 7) = 49 + b := by omega
        rw [e]
        exact jn b hb
      · rw [if_neg hc, zcpy_at, if_pos (by omega)]
        have e : 94 + (94 * r + 11 + b - 0) = 94 * (r + 1) + 11 + b := by omega
        rw [e]
        exact jr (r + 1) (by omega) b hb)
    exact ⟨r1, r2, zFr_tr (fun _ h => h) hF3 r3⟩
