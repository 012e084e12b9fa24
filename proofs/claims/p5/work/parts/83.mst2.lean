/-! ===== the reference: stores keep J ===== -/
theorem jE_up {f : Nat → Int32} {o i : Nat} {x : Int32} (h : jE f o) (hi : i ≠ o + 1) (hx : ∀ g : Nat, (g : Int) < (f (o + 1)).toInt → o + 32 + g = i → 1 ≤ x.toInt) : jE (upd f i x) o := by
  intro g hg
  rw [upd_at] at hg
  rw [if_neg (fun e => hi e.symm)] at hg
  rw [upd_at]
  split
  · rename_i e; exact hx g hg e
  · exact h g hg
theorem jB_up {f : Nat → Int32} {o i : Nat} {x : Int32} (h : jB f o) (hi : i ≠ o) (hx : ∀ g : Nat, (g : Int) < (f o).toInt → o + 5 + g = i → 1 ≤ x.toInt) : jB (upd f i x) o := by
  intro g hg
  rw [upd_at] at hg
  rw [if_neg (fun e => hi e.symm)] at hg
  rw [upd_at]
  split
  · rename_i e; exact hx g hg e
  · exact h g hg
theorem jS_up {f : Nat → Int32} {p i : Nat} {K : Int} {x : Int32} (h : jS f p K) (hx : ∀ b : Nat, b < 7 → p + b = i → x.toInt < K) : jS (upd f i x) p K := by
  intro b hb
  rw [upd_at]
  split
  · rename_i e; exact hx b hb e
  · exact h b hb
theorem jD_up {f : Nat → Int32} {p i : Nat} {x : Int32} (h : jD f p) (hi : i < p) : jD (upd f i x) p := by
  intro k hk
  rw [upd_at, upd_at, upd_at, if_neg (by omega), if_neg (by omega), if_neg (by omega)]
  exact h k hk
section MS2
variable {σ : iv_H}
/-- a store into now at 38 .. 133 -/
theorem m_JN {q : Int} (hI : zI m_τ m_ty σ) (hJ : m_Jx q σ) {i n : Nat} {x : Int32} {f : Nat → Int32} (hg : iv_get σ 552 = some (.inl (0, n, .inl f))) (h1 : 38 ≤ i) (h2 : i ≤ 133) (h3 : 49 ≤ i → i ≤ 55 → x.toInt < (mA σ 552 1).toInt) : m_Jx q (iv_put σ 552 (.inl (0, n, .inl (upd f i x)))) := by
  obtain ⟨⟨fs, ho⟩, ⟨⟨j1, j2⟩, j3, j4⟩, jr, jd, jl, jq, jk⟩ := hJ
  obtain ⟨⟨b1, b2⟩, b3, b4⟩ := m_N hI
  have hs := hA_st (g := upd f i x) hg
  obtain ⟨k1, k2⟩ := hF_st (g := upd f i x) hg ho
  have e0 := hA_of hg
  unfold m_Jx
  simp only [hs, k2]
  simp only [Nat.reduceEqDiff, if_true, if_false]
  rw [e0] at j1 j2 j3 j4 jl jq h3 b1 b2 b3 b4
  have e1 : upd f i x 1 = f 1 := by rw [upd_at, if_neg (by omega)]
  refine ⟨⟨fs, k1⟩, ⟨⟨jE_up j1 (by omega) (fun g hg e => ?_), jB_up j2 (by omega) (fun g hg e => ?_)⟩, ?_, jD_up j4 (by omega)⟩, jr, jd, ?_, ?_, jk⟩
  · simp only [Nat.zero_add] at hg; omega
  · omega
  · simp only [Nat.zero_add] at j3 ⊢
    rw [e1]
    exact jS_up j3 (fun b hb e => h3 (by omega) (by omega))
  · rw [e1]; exact jl
  · rw [e1]; exact jq
/-- a store into what is read -/
theorem m_JR {q : Int} (hJ : m_Jx q σ) {i n : Nat} {x : Int32} {f : Nat → Int32} (hg : iv_get σ 554 = some (.inl (0, n, .inl f))) (h : ((jE f 0 ∧ jB f 0) ∧ jS f 19 (f 1).toInt) → (jE (upd f i x) 0 ∧ jB (upd f i x) 0) ∧ jS (upd f i x) 19 (upd f i x 1).toInt) : m_Jx q (iv_put σ 554 (.inl (0, n, .inl (upd f i x)))) := by
  obtain ⟨⟨fs, ho⟩, jn, jr, jd, jl, jq, jk⟩ := hJ
  have hs := hA_st (g := upd f i x) hg
  obtain ⟨k1, k2⟩ := hF_st (g := upd f i x) hg ho
  have e0 := hA_of hg
  unfold m_Jx
  simp only [hs, k2]
  simp only [Nat.reduceEqDiff, if_true, if_false]
  rw [e0] at jr
  exact ⟨⟨fs, k1⟩, jn, h jr, jd, jl, jq, jk⟩
/-- a store into a row of a book that is not counted yet -/
theorem m_JL (hJ : m_J σ) {i n : Nat} {x : Int32} {f : Nat → Int32} (hg : iv_get σ 586 = some (.inl (0, n, .inl f))) (h : 4 * mF σ 42 ≤ (i : Int)) : m_J (iv_put σ 586 (.inl (0, n, .inl (upd f i x)))) := by
  obtain ⟨⟨fs, ho⟩, jn, jr, jd, jl, jq, jk⟩ := hJ
  have hs := hA_st (g := upd f i x) hg
  obtain ⟨k1, k2⟩ := hF_st (g := upd f i x) hg ho
  have e0 := hA_of hg
  unfold m_J m_Jx
  simp only [hs, k2]
  simp only [Nat.reduceEqDiff, if_true, if_false]
  rw [e0] at jl
  refine ⟨⟨fs, k1⟩, jn, jr, jd, fun r hr => ?_, jq, jk⟩
  rw [upd_at, upd_at, upd_at, upd_at, if_neg (by omega), if_neg (by omega), if_neg (by omega), if_neg (by omega)]
  exact jl r hr
end MS2
theorem mD_put0 {σ : iv_H} {A : Nat} {e e2 : iv_E} (h : iv_get σ A = some e) (a : Nat) (ha : a ≠ A) : iv_get (iv_put σ A e2) a = iv_get σ a := by
  cases hg : iv_get σ a with
  | none => exact iv_put_none h hg
  | some x => exact iv_gp_n h hg ha
theorem hA_ob {σ : iv_H} {q q2 : Nat × List Value} (ho : iv_get σ 548 = some (.inr q)) (b : Nat) : mA (iv_put σ 548 (.inr q2)) b = mA σ b := by
  by_cases e : b = 548
  · subst e
    unfold mA
    rw [iv_gp_s ho, ho]
  · cases hb : iv_get σ b with
    | none => unfold mA; rw [hb, iv_put_none ho hb]
    | some x => unfold mA; rw [hb, iv_gp_n ho hb e]
theorem m_SR {q : Int} {ρ : Nat → Int} {A : zA} {clv clv' : iv_L} {cst cst' : List Value} {σ σ' : iv_H} {L : Nat} {xs : Nat → Int32} {pc pc' : Nat} {w ix ar : zv} {rs : List zv} (hst : A.2.2.1 = w :: ix :: ar :: rs) (ht : zty A.1.1 ar = some 75) (h : m_soR A ix w = true) (hA : zA_ok m_τ m_ty ρ A clv cst σ) (hI : zI m_τ m_ty σ) (hJ : m_Jx q σ) (hs : iv_oIst L xs pc clv cst σ = some (pc', clv', cst', σ')) : m_Jx q σ' := by
  obtain ⟨i, n, x, f, ei, ex, hg, rfl, w1, w2⟩ := m_view hA hst ht (by decide) hs
  obtain ⟨⟨b1, b2⟩, b3, b4⟩ := m_R hI
  have e0 : mA σ 554 = f := hA_of hg
  rw [e0] at b1 b2 b3 b4
  refine m_JR hJ hg (fun hj => ?_)
  obtain ⟨⟨j1, j2⟩, j3⟩ := hj
  unfold m_soR at h
  simp only [Bool.or_eq_true, Bool.and_eq_true] at h
  rcases h with (h | h | h) | ⟨h, hv⟩ | ⟨h, hv⟩ | ⟨h, hv⟩ | ⟨h, hv⟩
  · have := m_in_ok hA.1 w1 h
    refine ⟨⟨jE_up j1 (by omega) (fun g hg e => by simp only [Nat.zero_add] at hg; omega), jB_up j2 (by omega) (fun g hg e => by omega)⟩, ?_⟩
    rw [show upd f i x 1 = f 1 by rw [upd_at, if_neg (by omega)]]
    exact jS_up j3 (fun b hb e => by omega)
  · have := m_in_ok hA.1 w1 h
    refine ⟨⟨jE_up j1 (by omega) (fun g hg e => by simp only [Nat.zero_add] at hg; omega), jB_up j2 (by omega) (fun g hg e => by omega)⟩, ?_⟩
    rw [show upd f i x 1 = f 1 by rw [upd_at, if_neg (by omega)]]
    exact jS_up j3 (fun b hb e => by omega)
  · have := m_in_ok hA.1 w1 h
    refine ⟨⟨jE_up j1 (by omega) (fun g hg e => by simp only [Nat.zero_add] at hg; omega), jB_up j2 (by omega) (fun g hg e => by omega)⟩, ?_⟩
    rw [show upd f i x 1 = f 1 by rw [upd_at, if_neg (by omega)]]
    exact jS_up j3 (fun b hb e => by omega)
  · have k1 := zle_iff.mp hv
    have k2 := zvl_ok hA.1 w2
    have k3 : (5 ≤ i ∧ i ≤ 11) ∨ (32 ≤ i ∧ i ≤ 37) := by
      rcases h with h | h
      · have := m_in_ok hA.1 w1 h; omega
      · have := m_in_ok hA.1 w1 h; omega
    refine ⟨⟨jE_up j1 (by omega) (fun g hg e => by omega), jB_up j2 (by omega) (fun g hg e => by omega)⟩, ?_⟩
    rw [show upd f i x 1 = f 1 by rw [upd_at, if_neg (by omega)]]
    exact jS_up j3 (fun b hb e => by omega)
  · have := m_in_ok hA.1 w1 h
    have k3 : x.toInt < (f 1).toInt := by
      rcases hv with hv | hv
      · have k1 := zle_iff.mp hv
        have k2 := zvh_ok hA.1 w2
        omega
      · have k2 := m_bel_ok hA (t := 75) (by decide) w2 (i := 1) hv
        have k2 : zv_ev ρ w < (mA σ 554 1).toInt := k2
        rw [e0] at k2
        omega
    refine ⟨⟨jE_up j1 (by omega) (fun g hg e => by simp only [Nat.zero_add] at hg; omega), jB_up j2 (by omega) (fun g hg e => by omega)⟩, ?_⟩
    rw [show upd f i x 1 = f 1 by rw [upd_at, if_neg (by omega)]]
    exact jS_up j3 (fun b hb e => k3)
  · have := m_in_ok hA.1 w1 h
    have ei0 : i = 0 := by omega
    subst ei0
    unfold m_up at hv
    rw [Bool.and_eq_true] at hv
    obtain ⟨jx, v, p, g1, g2, g3, g4, g5⟩ := m_kn_ok hA (by decide) hv.1
    have g3 : (mA σ 554 p).toInt = zv_ev ρ v := g3
    rw [Bool.and_eq_true] at g1
    have q1 := zv_eq_ok g1.1
    subst q1
    have q2 := zle_iff.mp g1.2
    have q3 := zvl_ok hA.1 g5
    obtain ⟨jx2, v2, p2, d1, d2, d3, d4, d5⟩ := m_kn_ok hA (by decide) hv.2
    have d3 : (mA σ 554 p2).toInt = zv_ev ρ v2 := d3
    rw [Bool.and_eq_true] at d1
    have q4 := m_in_ok hA.1 d4 d1.1
    have q5 := zv_eq_ok d1.2
    subst q5
    have q6 : zv_ev ρ (0, 5 + w.2.1 - 1, w.2.2) = 4 + zv_ev ρ w := by show 5 + w.2.1 - 1 + zl_ev ρ w.2.2 = 4 + (w.2.1 + zl_ev ρ w.2.2); omega
    have q7 : zv_ev ρ (0, w.2.1 - 1, w.2.2) = zv_ev ρ w - 1 := by show w.2.1 - 1 + zl_ev ρ w.2.2 = w.2.1 + zl_ev ρ w.2.2 - 1; omega
    have q8 : p2 = 0 := by omega
    subst q8
    rw [e0] at g3 d3
    refine ⟨⟨jE_up j1 (by decide) (fun g hg e => by omega), ?_⟩, ?_⟩
    · intro b hb
      rw [upd_at, if_pos rfl] at hb
      rw [upd_at, if_neg (by omega)]
      by_cases hc : (b : Int) < (f 0).toInt
      · exact j2 b hc
      · have : p = 0 + 5 + b := by omega
        rw [← this]
        omega
    · rw [show upd f 0 x 1 = f 1 by rw [upd_at, if_neg (by omega)]]
      exact jS_up j3 (fun b hb e => by omega)
  · have := m_in_ok hA.1 w1 h
    have ei0 : i = 1 := by omega
    subst ei0
    unfold m_up at hv
    rw [Bool.and_eq_true] at hv
    obtain ⟨jx, v, p, g1, g2, g3, g4, g5⟩ := m_kn_ok hA (by decide) hv.1
    have g3 : (mA σ 554 p).toInt = zv_ev ρ v := g3
    rw [Bool.and_eq_true] at g1
    have q1 := zv_eq_ok g1.1
    subst q1
    have q2 := zle_iff.mp g1.2
    have q3 := zvl_ok hA.1 g5
    obtain ⟨jx2, v2, p2, d1, d2, d3, d4, d5⟩ := m_kn_ok hA (by decide) hv.2
    have d3 : (mA σ 554 p2).toInt = zv_ev ρ v2 := d3
    rw [Bool.and_eq_true] at d1
    have q4 := m_in_ok hA.1 d4 d1.1
    have q5 := zv_eq_ok d1.2
    subst q5
    have q6 : zv_ev ρ (0, 32 + w.2.1 - 1, w.2.2) = 31 + zv_ev ρ w := by show 32 + w.2.1 - 1 + zl_ev ρ w.2.2 = 31 + (w.2.1 + zl_ev ρ w.2.2); omega
    have q7 : zv_ev ρ (0, w.2.1 - 1, w.2.2) = zv_ev ρ w - 1 := by show w.2.1 - 1 + zl_ev ρ w.2.2 = w.2.1 + zl_ev ρ w.2.2 - 1; omega
    have q8 : p2 = 1 := by omega
    subst q8
    rw [e0] at g3 d3
    refine ⟨⟨?_, jB_up j2 (by decide) (fun g hg e => by omega)⟩, ?_⟩
    · intro b hb
      rw [upd_at, if_pos rfl] at hb
      rw [upd_at, if_neg (by omega)]
      by_cases hc : (b : Int) < (f 1).toInt
      · exact j1 b hc
      · have : p = 0 + 32 + b := by omega
        rw [← this]
        omega
    · intro b hb
      have q9 := j3 b hb
      rw [upd_at, if_neg (by omega), upd_at, if_pos rfl]
      omega
theorem m_SN {q : Int} {ρ : Nat → Int} {A : zA} {clv clv' : iv_L} {cst cst' : List Value} {σ σ' : iv_H} {L : Nat} {xs : Nat → Int32} {pc pc' : Nat} {w ix ar : zv} {rs : List zv} (hst : A.2.2.1 = w :: ix :: ar :: rs) (ht : zty A.1.1 ar = some 74) (h : m_soN0 A ix w = true) (hA : zA_ok m_τ m_ty ρ A clv cst σ) (hI : zI m_τ m_ty σ) (hJ : m_Jx q σ) (hs : iv_oIst L xs pc clv cst σ = some (pc', clv', cst', σ')) : m_Jx q σ' := by
  obtain ⟨i, n, x, f, ei, ex, hg, rfl, w1, w2⟩ := m_view hA hst ht (by decide) hs
  unfold m_soN0 at h
  simp only [Bool.or_eq_true, Bool.and_eq_true] at h
  rcases h with h | h | ⟨h, hv⟩
  · have := m_in_ok hA.1 w1 h
    exact m_JN hI hJ hg (by omega) (by omega) (fun h1 h2 => by omega)
  · have := m_in_ok hA.1 w1 h
    exact m_JN hI hJ hg (by omega) (by omega) (fun h1 h2 => by omega)
  · have := m_in_ok hA.1 w1 h
    refine m_JN hI hJ hg (by omega) (by omega) (fun h1 h2 => ?_)
    obtain ⟨⟨b1, b2⟩, b3, b4⟩ := m_N hI
    rcases hv with hv | hv | hv
    · have k1 := zle_iff.mp hv
      have k2 := zvh_ok hA.1 w2
      omega
    · have k2 := m_bel_ok hA (t := 74) (by decide) w2 (i := 1) hv
      have k2 : zv_ev ρ w < (mA σ 552 1).toInt := k2
      omega
    · obtain ⟨p, p1, p2, p3⟩ := m_sam_ok hA (t := 74) (by decide) hv
      have p3 : (mA σ 552 p).toInt = zv_ev ρ w := p3
      have k2 := hJ.2.1.2.1 (p - 49) (by omega)
      have k2 : (mA σ 552 (0 + 49 + (p - 49))).toInt < (mA σ 552 (0 + 1)).toInt := k2
      rw [show 0 + 49 + (p - 49) = p by omega] at k2
      have k2 : (mA σ 552 p).toInt < (mA σ 552 1).toInt := k2
      omega
/-- a store into an array leaves lineMany -/
theorem m_SRq {ρ : Nat → Int} {A : zA} {clv clv' : iv_L} {cst cst' : List Value} {σ σ' : iv_H} {L : Nat} {xs : Nat → Int32} {pc pc' : Nat} {w ix ar : zv} {rs : List zv} {t : Nat} (hA : zA_ok m_τ m_ty ρ A clv cst σ) (hst : A.2.2.1 = w :: ix :: ar :: rs) (ht : zty A.1.1 ar = some t) (hs : iv_oIst L xs pc clv cst σ = some (pc', clv', cst', σ')) (h73 : 73 ≤ t) (hj : m_Jx (mF σ 42) σ') : m_J σ' := by
  obtain ⟨i, n, x, f, ei, ex, hg, rfl, w1, w2⟩ := m_view hA hst ht h73 hs
  unfold m_J
  obtain ⟨fs', ho'⟩ := hj.1
  have hn : 548 ≠ 550 + 2 * (t - 73) := by omega
  have ho : iv_get σ 548 = some (.inr (12, fs')) := by
    have h1 := mD_put0 (e2 := .inl (0, n, .inl (upd f i x))) hg
    rw [← h1 548 hn]
    exact ho'
  rw [(hF_st (g := upd f i x) hg ho).2 42]
  exact hj
theorem m_S0 {q : Int} {ρ : Nat → Int} {A : zA} {clv clv' : iv_L} {cst cst' : List Value} {σ σ' : iv_H} {L : Nat} {xs : Nat → Int32} {pc pc' : Nat} (h : m_so0 A = true) (hA : zA_ok m_τ m_ty ρ A clv cst σ) (hI : zI m_τ m_ty σ) (hJ : m_Jx q σ) (hs : iv_oIst L xs pc clv cst σ = some (pc', clv', cst', σ')) : m_Jx q σ' := by
  unfold m_so0 at h
  split at h
  · rename_i w ix ar rs hst
    split at h
    · rename_i t ht
      cases h74 : Nat.beq t 74
      · rw [h74] at h
        simp only [cond_false] at h
        cases h75 : Nat.beq t 75
        · rw [h75] at h; cases h
        · rw [h75] at h
          have e := Nat.eq_of_beq_eq_true h75
          subst e
          exact m_SR hst ht h hA hI hJ hs
      · rw [h74] at h
        have e := Nat.eq_of_beq_eq_true h74
        subst e
        exact m_SN hst ht h hA hI hJ hs
    · cases h
  · cases h
theorem m_S1 : zS1_ok m_τ m_ty m_J m_so1 := by
  intro ρ A clv clv' cst cst' σ σ' L xs pc pc' h hA hI hJ hs
  unfold m_so1 at h
  split at h
  · rename_i w ix ar rs hst
    split at h
    · rename_i t ht
      cases h74 : Nat.beq t 74
      · rw [h74] at h
        simp only [cond_false] at h
        cases h75 : Nat.beq t 75
        · rw [h75] at h
          simp only [cond_false] at h
          cases h91 : Nat.beq t 91
          · rw [h91] at h; cases h
          · rw [h91] at h
            have e := Nat.eq_of_beq_eq_true h91
            subst e
            obtain ⟨i, n, x, f, ei, ex, hg, rfl, w1, w2⟩ := m_view hA hst ht (by decide) hs
            refine m_JL hJ hg ?_
            have h : m_soL A ix = true := h
            unfold m_soL at h
            split at h
            · rename_i m hm
              obtain ⟨l1, l2⟩ := m_lm_ok hA hI hm
              simp only [Bool.or_eq_true] at h
              rcases h with h | h | h | h
              · have := m_o4_ok (ρ := ρ) h; omega
              · have := m_o4_ok (ρ := ρ) h; omega
              · have := m_o4_ok (ρ := ρ) h; omega
              · have := m_o4_ok (ρ := ρ) h; omega
            · cases h
        · rw [h75] at h
          have e := Nat.eq_of_beq_eq_true h75
          subst e
          exact m_SRq hA hst ht hs (by decide) (m_SR (q := mF σ 42) hst ht h hA hI hJ hs)
      · rw [h74] at h
        have e := Nat.eq_of_beq_eq_true h74
        subst e
        have hj : m_Jx (mF σ 42) σ' := by
          have h : m_soN A ix w = true := h
          unfold m_soN at h
          simp only [Bool.or_eq_true, Bool.and_eq_true] at h
          rcases h with h | h | ⟨h, hv⟩
          · exact m_SN hst ht (by unfold m_soN0; rw [h]; rfl) hA hI hJ hs
          · exact m_SN hst ht (by unfold m_soN0; rw [h]; simp) hA hI hJ hs
          · rcases hv with hv | hv | hv | hv
            · exact m_SN hst ht (by unfold m_soN0; rw [h, hv]; simp) hA hI hJ hs
            · exact m_SN hst ht (by unfold m_soN0; rw [h, hv]; simp) hA hI hJ hs
            · exact m_SN hst ht (by unfold m_soN0; rw [h, hv]; simp) hA hI hJ hs
            · obtain ⟨i, n, x, f, ei, ex, hg, rfl, w1, w2⟩ := m_view hA hst ht (by decide) hs
              have := m_in_ok hA.1 w1 h
              refine m_JN hI hJ hg (by omega) (by omega) (fun h1 h2 => ?_)
              have k2 := m_linep_ok hA hI hJ.2.2.2.2.1 hv
              omega
        exact m_SRq hA hst ht hs (by decide) hj
    · cases h
  · cases h
theorem m_S2 : zS2_ok m_τ m_ty m_J m_so2 := by
  intro ci j fty ρ A clv clv' cst cst' σ σ' L xs pc pc' h hA hI hJ hs
  unfold m_so2 at h
  cases hcj : Nat.beq ci 12 && Nat.beq j 42
  · rw [hcj] at h; cases h
  · rw [hcj] at h
    rw [Bool.and_eq_true] at hcj
    have e1 := Nat.eq_of_beq_eq_true hcj.1
    have e2 := Nat.eq_of_beq_eq_true hcj.2
    subst e1
    subst e2
    simp only [cond_true] at h
    split at h
    · rename_i w o rs hst
      rw [Bool.and_eq_true, Bool.and_eq_true] at h
      have h1 := hA.2.2.1
      rw [hst] at h1
      obtain ⟨x1, c1, rfl, k1, h1⟩ := zst_c h1
      obtain ⟨x2, c2, rfl, k2, h1⟩ := zst_c h1
      obtain ⟨y, rfl, ey⟩ := zdn0 k1.2 (Nat.eq_of_beq_eq_true h.1.1)
      have h3 := h.1.2
      split at h3
      · rename_i t ht
        rw [Nat.eq_of_beq_eq_true h3] at ht
        obtain ⟨a, rfl, ea, ta⟩ := zty_ok hA.1.1 k2 ht
        have e := m_uo ta
        subst e
        obtain ⟨⟨fs, ho⟩, jn, jr, jd, jl, jq, jk⟩ := hJ
        simp only [iv_oPF, ho] at hs
        · cases hb : Nat.beq 12 12 && (iv_fit fty (.int y) && Nat.blt 42 fs.length)
          · rw [hb] at hs; cases hs
          · rw [hb] at hs
            cases hs
            have hlen : 42 < fs.length := by
              rw [Bool.and_eq_true, Bool.and_eq_true, Nat.blt_eq] at hb
              exact hb.2.2
            have ho2 := iv_gp_s (y := .inr (12, fs.set 42 (.int y))) ho
            have hf : mF (iv_put σ 548 (.inr (12, fs.set 42 (.int y)))) 42 = y.toInt := hF_of ho2 (by rw [iv_nth_set, if_pos ⟨rfl, hlen⟩])
            have hf2 : mF (iv_put σ 548 (.inr (12, fs.set 42 (.int y)))) 24 = mF σ 24 := by
              unfold mF
              rw [ho2, ho]
              simp only
              rw [iv_nth_set, if_neg (by omega)]
            have ha : ∀ b, mA (iv_put σ 548 (.inr (12, fs.set 42 (.int y)))) b = mA σ b := fun b => hA_ob ho b
            unfold m_J m_Jx
            simp only [ha, hf, hf2]
            refine ⟨⟨_, ho2⟩, jn, jr, jd, fun r hr => ?_, jq, jk⟩
            have h4 := h.2
            rw [Bool.or_eq_true] at h4
            rcases h4 with h4 | h4
            · have q1 := zle_iff.mp h4
              have q2 := zvh_ok hA.1 k1.1
              omega
            · split at h4
              · rename_i m hm
                rw [Bool.and_eq_true] at h4
                obtain ⟨l1, l2⟩ := m_lm_ok hA hI hm
                have q1 := zv_eq_ok h4.1
                have q2 : zv_ev ρ w = zv_ev ρ m + 1 := by
                  rw [q1]; show m.2.1 + 1 + zl_ev ρ m.2.2 = m.2.1 + zl_ev ρ m.2.2 + 1; omega
                by_cases hc : (r : Int) < mF σ 42
                · exact jl r hc
                · exact m_rowok_ok hA (by omega) h4.2
              · cases h4
      · cases h3
    · cases h
