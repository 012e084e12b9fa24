/-! ===== printed by wip/gen/gen98.py: contracts of the reference ===== -/
theorem m_OKB {P : iv_H → Prop} {k : Nat} : zOK m_τ m_ty (mJ (fun σ => P σ ∧ (mA σ 552 0).toInt = k)) (m_ocB k) := by
  refine ⟨fun M pc g h => ?_, zno_ok⟩
  have h : (bif Nat.beq M 238 && (Nat.beq pc 6 || Nat.beq pc 26 || Nat.beq pc 49) then some (m_eq 74 0 k) else m_or M pc) = some g := h
  cases hb : Nat.beq M 238 && (Nat.beq pc 6 || Nat.beq pc 26 || Nat.beq pc 49)
  · rw [hb] at h; exact m_or_ok m_qJ h
  · rw [hb] at h
    cases h
    exact m_eq_ok (t := 74) (i := 0) (by decide) (fun σ hj => hj.2.2)
theorem m_OKK {P : iv_H → Prop} {k : Nat} : zOK m_τ m_ty (mJ (fun σ => P σ ∧ (mA σ 552 1).toInt = k)) (m_ocK k) := by
  refine ⟨fun M pc g h => ?_, zno_ok⟩
  have h : (bif Nat.beq M 239 && (Nat.beq pc 32 || Nat.beq pc 74) then some (m_eq 74 1 k) else m_or M pc) = some g := h
  cases hb : Nat.beq M 239 && (Nat.beq pc 32 || Nat.beq pc 74)
  · rw [hb] at h; exact m_or_ok m_qJ h
  · rw [hb] at h
    cases h
    exact m_eq_ok (t := 74) (i := 1) (by decide) (fun σ hj => hj.2.2)
theorem m_OKR {k : Nat} : zOK m_τ m_ty (mJ (fun σ => (mA σ 554 1).toInt = k)) (m_ocR k) := by
  refine ⟨fun M pc g h => ?_, ⟨?_, fun ci j fty ρ A clv clv' cst cst' σ σ' L xs pc pc' h1 => by cases h1⟩, fun M pc q h => by cases h⟩
  · have h : (bif Nat.beq M 188 && (Nat.beq pc 12 || Nat.beq pc 57) then some (m_eq 75 1 k) else m_or M pc) = some g := h
    cases hb : Nat.beq M 188 && (Nat.beq pc 12 || Nat.beq pc 57)
    · rw [hb] at h; exact m_or_ok m_qJ h
    · rw [hb] at h
      cases h
      exact m_eq_ok (t := 75) (i := 1) (by decide) (fun σ hj => hj.2)
  · intro ρ A clv clv' cst cst' σ σ' L xs pc pc' h hA hI hJ hs
    have h : m_soK k A = true := h
    unfold m_soK at h
    split at h
    · rename_i w ix ar rs hst
      split at h
      · rename_i t ht
        simp only [Bool.and_eq_true] at h
        obtain ⟨h1, h2, h3⟩ := h
        have e := Nat.eq_of_beq_eq_true h1
        subst e
        obtain ⟨i, n, x, f, ei, ex, hg, rfl, w1, w2⟩ := m_view hA hst ht (by decide) hs
        have hg : iv_get σ 554 = some (.inl (0, n, .inl f)) := hg
        have k1 := m_in_ok hA.1 w1 h2
        have k2 := zle_iff.mp h3
        have k3 := zvh_ok hA.1 w2
        have hK : (mA σ 554 1).toInt = k := hJ.2
        have e0 : mA σ 554 = f := hA_of hg
        obtain ⟨⟨b1, b2⟩, b3, b4⟩ := m_R hI
        rw [e0] at hK b1 b2 b3 b4
        refine ⟨m_JR hJ.1 hg (fun hj => ?_), ?_⟩
        · obtain ⟨⟨j1, j2⟩, j3⟩ := hj
          refine ⟨⟨jE_up j1 (by omega) (fun g hg e => by simp only [Nat.zero_add] at hg; omega), jB_up j2 (by omega) (fun g hg e => by omega)⟩, ?_⟩
          rw [show upd f i x 1 = f 1 by rw [upd_at, if_neg (by omega)]]
          exact jS_up j3 (fun b hb e => by omega)
        · show (mA (iv_put σ 554 (.inl (0, n, .inl (upd f i x)))) 554 1).toInt = k
          rw [hA_st hg 554, if_pos rfl, upd_at, if_neg (by omega)]
          exact hK
      · cases h
    · cases h
theorem mt_0 {P : iv_H → Prop} (h : m_Pf P) : zCT m_τ m_ty (mJ P) mc_0 := zchk_ok m_T (m_Jf h) m_OK0 (fun k hk => by cases hk) mk_0
theorem mt_1 {P : iv_H → Prop} (h : m_Pf P) : zCT m_τ m_ty (mJ P) mc_1 := zchk_ok m_T (m_Jf h) m_OK0 (fun k hk => by cases hk) mk_1
theorem mt_2 {P : iv_H → Prop} (h : m_Pf P) : zCT m_τ m_ty (mJ P) mc_2 := zchk_ok m_T (m_Jf h) m_OK0 (fun k hk => by cases hk) mk_2
theorem mt_3 {P : iv_H → Prop} (h : m_Pf P) : zCT m_τ m_ty (mJ P) mc_3 := zchk_ok m_T (m_Jf h) m_OK0 (fun k hk => by cases hk) mk_3
theorem mt_4 {P : iv_H → Prop} (h : m_Pf P) : zCT m_τ m_ty (mJ P) mc_4 := zchk_ok m_T (m_Jf h) m_OK0 (fun k hk => by
  simp only [List.mem_cons, List.not_mem_nil, or_false] at hk
  rcases hk with rfl | rfl
  · exact mt_2 h
  · exact mt_3 h) mk_4
theorem mt_5 {P : iv_H → Prop} (h : m_Pf P) : zCT m_τ m_ty (mJ P) mc_5 := zchk_ok m_T (m_Jf h) m_OK0 (fun k hk => by cases hk) mk_5
theorem mt_6 {P : iv_H → Prop} (h : m_Pf P) : zCT m_τ m_ty (mJ P) mc_6 := zchk_ok m_T (m_Jf h) m_OK0 (fun k hk => by
  simp only [List.mem_cons, List.not_mem_nil, or_false] at hk
  rcases hk with rfl | rfl
  · exact mt_5 h
  · exact mt_2 h) mk_6
theorem mt_8 {P : iv_H → Prop} (h : m_Pf P) : zCT m_τ m_ty (mJ P) mc_8 := zchk_ok m_T (m_Jf h) m_OK0 (fun k hk => by cases hk) mk_8
theorem mt_9 {P : iv_H → Prop} (h : m_Pf P) : zCT m_τ m_ty (mJ P) mc_9 := zchk_ok m_T (m_Jf h) m_OK0 (fun k hk => by
  simp only [List.mem_cons, List.not_mem_nil, or_false] at hk
  rcases hk with rfl | rfl
  · exact mt_2 h
  · exact mt_3 h) mk_9
theorem mt_10 {P : iv_H → Prop} (h : m_Pf P) : zCT m_τ m_ty (mJ P) mc_10 := zchk_ok m_T (m_Jf h) m_OK0 (fun k hk => by
  simp only [List.mem_cons, List.not_mem_nil, or_false] at hk
  rcases hk with rfl | rfl
  · exact mt_2 h
  · exact mt_3 h) mk_10
theorem mt_11 {P : iv_H → Prop} (h : m_Pf P) : zCT m_τ m_ty (mJ P) mc_11 := zchk_ok m_T (m_Jf h) m_OK0 (fun k hk => by rw [List.mem_singleton.mp hk]; exact mt_8 h) mk_11
theorem mt_12 {P : iv_H → Prop} (h : m_Pf P) : zCT m_τ m_ty (mJ P) mc_12 := zchk_ok m_T (m_Jf h) m_OK0 (fun k hk => by cases hk) mk_12
theorem mt_13 {P : iv_H → Prop} (h : m_Pf P) : zCT m_τ m_ty (mJ P) mc_13 := zchk_ok m_T (m_Jf h) m_OK0 (fun k hk => by cases hk) mk_13
theorem mt_14 {P : iv_H → Prop} (h : m_Pf P) : zCT m_τ m_ty (mJ P) mc_14 := zchk_ok m_T (m_Jf h) m_OK0 (fun k hk => by
  simp only [List.mem_cons, List.not_mem_nil, or_false] at hk
  rcases hk with rfl | rfl | rfl | rfl | rfl
  · exact mt_2 h
  · exact mt_11 h
  · exact mt_3 h
  · exact mt_12 h
  · exact mt_13 h) mk_14
theorem mt_15 {P : iv_H → Prop} (h : m_Ps P) : zCT m_τ m_ty (mJ P) mc_15 := zchk_ok m_T (m_Jf h.1) (m_OKS h) (fun k hk => by
  simp only [List.mem_cons, List.not_mem_nil, or_false] at hk
  rcases hk with rfl | rfl | rfl | rfl | rfl
  · exact mt_2 h.1
  · exact mt_3 h.1
  · exact mt_9 h.1
  · exact mt_10 h.1
  · exact mt_14 h.1) mk_15
theorem mt_16 {P : iv_H → Prop} (h : m_Pf P) : zCT m_τ m_ty (mJ P) mc_16 := zchk_ok m_T (m_Jf h) m_OK0 (fun k hk => by
  simp only [List.mem_cons, List.not_mem_nil, or_false] at hk
  rcases hk with rfl | rfl
  · exact mt_2 h
  · exact mt_3 h) mk_16
theorem mt_17 {P : iv_H → Prop} (h : m_Pf P) : zCT m_τ m_ty (mJ P) mc_17 := zchk_ok m_T (m_Jf h) m_OK0 (fun k hk => by
  simp only [List.mem_cons, List.not_mem_nil, or_false] at hk
  rcases hk with rfl | rfl
  · exact mt_2 h
  · exact mt_3 h) mk_17
theorem mt_18 {P : iv_H → Prop} (h : m_Ps P) : zCT m_τ m_ty (mJ P) mc_18 := zchk_ok m_T (m_Jf h.1) (m_OKS h) (fun k hk => by
  simp only [List.mem_cons, List.not_mem_nil, or_false] at hk
  rcases hk with rfl | rfl | rfl | rfl | rfl
  · exact mt_2 h.1
  · exact mt_3 h.1
  · exact mt_16 h.1
  · exact mt_17 h.1
  · exact mt_14 h.1) mk_18
theorem mt_19 {P : iv_H → Prop} (h : m_Pf P) : zCT m_τ m_ty (mJ P) mc_19 := zchk_ok m_T (m_Jf h) m_OK0 (fun k hk => by
  simp only [List.mem_cons, List.not_mem_nil, or_false] at hk
  rcases hk with rfl | rfl | rfl
  · exact mt_11 h
  · exact mt_3 h
  · exact mt_12 h) mk_19
theorem mt_20 {P : iv_H → Prop} (h : m_Pf P) : zCT m_τ m_ty (mJ P) mc_20 := zchk_ok m_T (m_Jf h) m_OK0 (fun k hk => by
  simp only [List.mem_cons, List.not_mem_nil, or_false] at hk
  rcases hk with rfl | rfl | rfl
  · exact mt_11 h
  · exact mt_3 h
  · exact mt_13 h) mk_20
theorem mt_21  : zCT m_τ m_ty (mJ hT) mc_21 := by
  refine zCT_un (n := 7) (J' := fun k => mJ (fun σ => (mA σ 554 1).toInt = k)) (ck := fun k => match k with
    | 0 => ms188_0
    | 1 => ms188_1
    | 2 => ms188_2
    | 3 => ms188_3
    | 4 => ms188_4
    | 5 => ms188_5
    | _ => ms188_6) ?_ ?_ ?_ ?_
  · intro σ hI hJ
    obtain ⟨⟨b1, b2⟩, b3, b4⟩ := m_R hI
    exact ⟨(mA σ 554 1).toInt.toNat, by omega, hJ.1, (by show (mA σ 554 1).toInt = (((mA σ 554 1).toInt.toNat : Nat) : Int); omega)⟩
  · exact fun k σ hj => ⟨hj.1, trivial⟩
  · intro k hk
    have hP := m_Jf (P := fun σ => (mA σ 554 1).toInt = k) (m_PfA (t := 75) (.inl (by decide)) (Q := fun f => (f 1).toInt = _))
    have hc : k = 0 ∨ k = 1 ∨ k = 2 ∨ k = 3 ∨ k = 4 ∨ k = 5 ∨ k = 6 := by omega
    rcases hc with rfl | rfl | rfl | rfl | rfl | rfl | rfl
    · exact zchk_ok m_T hP m_OKR (fun k hk => by
      simp only [List.mem_cons, List.not_mem_nil, or_false] at hk
      rcases hk with rfl | rfl | rfl | rfl
      · exact mt_2 (m_PfA (t := 75) (.inl (by decide)) (Q := fun f => (f 1).toInt = _))
      · exact mt_3 (m_PfA (t := 75) (.inl (by decide)) (Q := fun f => (f 1).toInt = _))
      · exact mt_19 (m_PfA (t := 75) (.inl (by decide)) (Q := fun f => (f 1).toInt = _))
      · exact mt_20 (m_PfA (t := 75) (.inl (by decide)) (Q := fun f => (f 1).toInt = _))) mq188_0
    · exact zchk_ok m_T hP m_OKR (fun k hk => by
      simp only [List.mem_cons, List.not_mem_nil, or_false] at hk
      rcases hk with rfl | rfl | rfl | rfl
      · exact mt_2 (m_PfA (t := 75) (.inl (by decide)) (Q := fun f => (f 1).toInt = _))
      · exact mt_3 (m_PfA (t := 75) (.inl (by decide)) (Q := fun f => (f 1).toInt = _))
      · exact mt_19 (m_PfA (t := 75) (.inl (by decide)) (Q := fun f => (f 1).toInt = _))
      · exact mt_20 (m_PfA (t := 75) (.inl (by decide)) (Q := fun f => (f 1).toInt = _))) mq188_1
    · exact zchk_ok m_T hP m_OKR (fun k hk => by
      simp only [List.mem_cons, List.not_mem_nil, or_false] at hk
      rcases hk with rfl | rfl | rfl | rfl
      · exact mt_2 (m_PfA (t := 75) (.inl (by decide)) (Q := fun f => (f 1).toInt = _))
      · exact mt_3 (m_PfA (t := 75) (.inl (by decide)) (Q := fun f => (f 1).toInt = _))
      · exact mt_19 (m_PfA (t := 75) (.inl (by decide)) (Q := fun f => (f 1).toInt = _))
      · exact mt_20 (m_PfA (t := 75) (.inl (by decide)) (Q := fun f => (f 1).toInt = _))) mq188_2
    · exact zchk_ok m_T hP m_OKR (fun k hk => by
      simp only [List.mem_cons, List.not_mem_nil, or_false] at hk
      rcases hk with rfl | rfl | rfl | rfl
      · exact mt_2 (m_PfA (t := 75) (.inl (by decide)) (Q := fun f => (f 1).toInt = _))
      · exact mt_3 (m_PfA (t := 75) (.inl (by decide)) (Q := fun f => (f 1).toInt = _))
      · exact mt_19 (m_PfA (t := 75) (.inl (by decide)) (Q := fun f => (f 1).toInt = _))
      · exact mt_20 (m_PfA (t := 75) (.inl (by decide)) (Q := fun f => (f 1).toInt = _))) mq188_3
    · exact zchk_ok m_T hP m_OKR (fun k hk => by
      simp only [List.mem_cons, List.not_mem_nil, or_false] at hk
      rcases hk with rfl | rfl | rfl | rfl
      · exact mt_2 (m_PfA (t := 75) (.inl (by decide)) (Q := fun f => (f 1).toInt = _))
      · exact mt_3 (m_PfA (t := 75) (.inl (by decide)) (Q := fun f => (f 1).toInt = _))
      · exact mt_19 (m_PfA (t := 75) (.inl (by decide)) (Q := fun f => (f 1).toInt = _))
      · exact mt_20 (m_PfA (t := 75) (.inl (by decide)) (Q := fun f => (f 1).toInt = _))) mq188_4
    · exact zchk_ok m_T hP m_OKR (fun k hk => by
      simp only [List.mem_cons, List.not_mem_nil, or_false] at hk
      rcases hk with rfl | rfl | rfl | rfl
      · exact mt_2 (m_PfA (t := 75) (.inl (by decide)) (Q := fun f => (f 1).toInt = _))
      · exact mt_3 (m_PfA (t := 75) (.inl (by decide)) (Q := fun f => (f 1).toInt = _))
      · exact mt_19 (m_PfA (t := 75) (.inl (by decide)) (Q := fun f => (f 1).toInt = _))
      · exact mt_20 (m_PfA (t := 75) (.inl (by decide)) (Q := fun f => (f 1).toInt = _))) mq188_5
    · exact zchk_ok m_T hP m_OKR (fun k hk => by
      simp only [List.mem_cons, List.not_mem_nil, or_false] at hk
      rcases hk with rfl | rfl | rfl | rfl
      · exact mt_2 (m_PfA (t := 75) (.inl (by decide)) (Q := fun f => (f 1).toInt = _))
      · exact mt_3 (m_PfA (t := 75) (.inl (by decide)) (Q := fun f => (f 1).toInt = _))
      · exact mt_19 (m_PfA (t := 75) (.inl (by decide)) (Q := fun f => (f 1).toInt = _))
      · exact mt_20 (m_PfA (t := 75) (.inl (by decide)) (Q := fun f => (f 1).toInt = _))) mq188_6
  · intro k hk
    have hc : k = 0 ∨ k = 1 ∨ k = 2 ∨ k = 3 ∨ k = 4 ∨ k = 5 ∨ k = 6 := by omega
    rcases hc with rfl | rfl | rfl | rfl | rfl | rfl | rfl <;> exact ⟨rfl, rfl, rfl, rfl, rfl, rfl⟩
theorem mt_22 {P : iv_H → Prop} (h : m_Pf P) : zCT m_τ m_ty (mJ P) mc_22 := zchk_ok m_T (m_Jf h) m_OK0 (fun k hk => by
  simp only [List.mem_cons, List.not_mem_nil, or_false] at hk
  rcases hk with rfl | rfl
  · exact mt_2 h
  · exact mt_3 h) mk_22
theorem mt_23 {P : iv_H → Prop} (h : m_Ps P) : zCT m_τ m_ty (mJ P) mc_23 := zchk_ok m_T (m_Jf h.1) (m_OKS h) (fun k hk => by
  simp only [List.mem_cons, List.not_mem_nil, or_false] at hk
  rcases hk with rfl | rfl | rfl
  · exact mt_2 h.1
  · exact mt_3 h.1
  · exact mt_22 h.1) mk_23
theorem mt_24 {P : iv_H → Prop} (h : m_Ps P) : zCT m_τ m_ty (mJ P) mc_24 := zchk_ok m_T (m_Jf h.1) (m_OKS h) (fun k hk => by
  simp only [List.mem_cons, List.not_mem_nil, or_false] at hk
  rcases hk with rfl | rfl | rfl
  · exact mt_2 h.1
  · exact mt_3 h.1
  · exact mt_22 h.1) mk_24
theorem mt_25 {P : iv_H → Prop} (h : m_Pf P) : zCT m_τ m_ty (mJ P) mc_25 := zchk_ok m_T (m_Jf h) m_OK0 (fun k hk => by
  simp only [List.mem_cons, List.not_mem_nil, or_false] at hk
  rcases hk with rfl | rfl
  · exact mt_2 h
  · exact mt_3 h) mk_25
theorem mt_26 {P : iv_H → Prop} (h : m_Ps P) : zCT m_τ m_ty (mJ P) mc_26 := zchk_ok m_T (m_Jf h.1) (m_OKS h) (fun k hk => by
  simp only [List.mem_cons, List.not_mem_nil, or_false] at hk
  rcases hk with rfl | rfl | rfl
  · exact mt_2 h.1
  · exact mt_3 h.1
  · exact mt_25 h.1) mk_26
theorem mt_27 : zCT m_τ m_ty (mJ hT) mc_27 := zchk_ok m_T (m_Jf hT_s.1) m_OK0 (fun k hk => by
  simp only [List.mem_cons, List.not_mem_nil, or_false] at hk
  rcases hk with rfl | rfl | rfl | rfl | rfl | rfl | rfl | rfl
  · exact mt_8 hT_s.1
  · exact mt_3 hT_s.1
  · exact mt_15 hT_s
  · exact mt_18 hT_s
  · exact mt_21
  · exact mt_23 hT_s
  · exact mt_24 hT_s
  · exact mt_26 hT_s) mk_27
theorem mt_29 {P : iv_H → Prop} (h : m_Pf P) : zCT m_τ m_ty (mJ P) mc_29 := zchk_ok m_T (m_Jf h) m_OK0 (fun k hk => by cases hk) mk_29
theorem mt_30 {P : iv_H → Prop} (h : m_Pf P) : zCT m_τ m_ty (mJ P) mc_30 := zchk_ok m_T (m_Jf h) m_OK0 (fun k hk => by cases hk) mk_30
theorem mt_31 {P : iv_H → Prop} (h : m_Pf P) : zCT m_τ m_ty (mJ P) mc_31 := zchk_ok m_T (m_Jf h) m_OK0 (fun k hk => by cases hk) mk_31
theorem mt_32 {P : iv_H → Prop} (h : m_Pf P) : zCT m_τ m_ty (mJ P) mc_32 := zchk_ok m_T (m_Jf h) m_OK0 (fun k hk => by rw [List.mem_singleton.mp hk]; exact mt_31 h) mk_32
theorem mt_33 {P : iv_H → Prop} (h : m_Pf P) : zCT m_τ m_ty (mJ P) mc_33 := zchk_ok m_T (m_Jf h) m_OK0 (fun k hk => by
  simp only [List.mem_cons, List.not_mem_nil, or_false] at hk
  rcases hk with rfl | rfl
  · exact mt_30 h
  · exact mt_32 h) mk_33
theorem mt_34 {P : iv_H → Prop} (h : m_Pf P) : zCT m_τ m_ty (mJ P) mc_34 := zchk_ok m_T (m_Jf h) m_OK0 (fun k hk => by cases hk) mk_34
theorem mt_35 {P : iv_H → Prop} (h : m_Pf P) : zCT m_τ m_ty (mJ P) mc_35 := zchk_ok m_T (m_Jf h) m_OK0 (fun k hk => by rw [List.mem_singleton.mp hk]; exact mt_34 h) mk_35
theorem mt_36 {P : iv_H → Prop} (h : m_Pf P) : zCT m_τ m_ty (mJ P) mc_36 := zchk_ok m_T (m_Jf h) m_OK0 (fun k hk => by cases hk) mk_36
theorem mt_37 {P : iv_H → Prop} (h : m_Pf P) : zCT m_τ m_ty (mJ P) mc_37 := zchk_ok m_T (m_Jf h) m_OK0 (fun k hk => by rw [List.mem_singleton.mp hk]; exact mt_36 h) mk_37
theorem mt_38 {P : iv_H → Prop} (h : m_Pf P) : zCT m_τ m_ty (mJ P) mc_38 := zchk_ok m_T (m_Jf h) m_OK0 (fun k hk => by cases hk) mk_38
theorem mt_39 {P : iv_H → Prop} (h : m_Pf P) : zCT m_τ m_ty (mJ P) mc_39 := zchk_ok m_T (m_Jf h) m_OK0 (fun k hk => by cases hk) mk_39
theorem mt_41 {P : iv_H → Prop} (h : m_Pf P) : zCT m_τ m_ty (mJ P) mc_41 := zchk_ok m_T (m_Jf h) m_OK0 (fun k hk => by cases hk) mk_41
theorem mt_42 : zCT m_τ m_ty (mJ hT) mc_42 := zchk_ok m_T (m_Jf hT_s.1) (m_OKS hT_s) (fun k hk => by
  simp only [List.mem_cons, List.not_mem_nil, or_false] at hk
  rcases hk with rfl | rfl | rfl | rfl
  · exact mt_39 hT_s.1
  · exact mt_38 hT_s.1
  · exact mt_40
  · exact mt_41 hT_s.1) mk_42
theorem mt_43 : zCT m_τ m_ty (mJ hT) mc_43 := zchk_ok m_T (m_Jf hT_s.1) (m_OKS hT_s) (fun k hk => by
  simp only [List.mem_cons, List.not_mem_nil, or_false] at hk
  rcases hk with rfl | rfl
  · exact mt_34 hT_s.1
  · exact mt_40) mk_43
theorem mt_44 : zCT m_τ m_ty (mJ hT) mc_44 := zchk_ok m_T (m_Jf hT_s.1) (m_OKS hT_s) (fun k hk => by rw [List.mem_singleton.mp hk]; exact mt_40) mk_44
theorem mt_45 : zCT m_τ m_ty (mJ hT) mc_45 := zchk_ok m_T (m_Jf hT_s.1) (m_OKS hT_s) (fun k hk => by rw [List.mem_singleton.mp hk]; exact mt_40) mk_45
theorem mt_46 : zCT m_τ m_ty (mJ hT) mc_46 := zchk_ok m_T (m_Jf hT_s.1) (m_OKS hT_s) (fun k hk => by rw [List.mem_singleton.mp hk]; exact mt_40) mk_46
theorem mt_47 {P : iv_H → Prop} (h : m_Ps P) : zCT m_τ m_ty (mJ P) mc_47 := zchk_ok m_T (m_Jf h.1) (m_OKS h) (fun k hk => by rw [List.mem_singleton.mp hk]; exact mt_38 h.1) mk_47
theorem mt_48 {P : iv_H → Prop} (h : m_Ps P) : zCT m_τ m_ty (mJ P) mc_48 := zchk_ok m_T (m_Jf h.1) m_OK0 (fun k hk => by
  simp only [List.mem_cons, List.not_mem_nil, or_false] at hk
  rcases hk with rfl | rfl
  · exact mt_38 h.1
  · exact mt_47 h) mk_48
theorem mt_49 : zCT m_τ m_ty (mJ hT) mc_49 := zchk_ok m_T (m_Jf hT_s.1) m_OK0 (fun k hk => by
  simp only [List.mem_cons, List.not_mem_nil, or_false] at hk
  rcases hk with rfl | rfl
  · exact mt_40
  · exact mt_48 hT_s) mk_49
theorem mt_50 {P : iv_H → Prop} (h : m_Pf P) : zCT m_τ m_ty (mJ P) mc_50 := zchk_ok m_T (m_Jf h) m_OK0 (fun k hk => by rw [List.mem_singleton.mp hk]; exact mt_39 h) mk_50
theorem mt_51 {P : iv_H → Prop} (h : m_Pf P) : zCT m_τ m_ty (mJ P) mc_51 := zchk_ok m_T (m_Jf h) m_OK0 (fun k hk => by cases hk) mk_51
theorem mt_52 {P : iv_H → Prop} (h : m_Pf P) : zCT m_τ m_ty (mJ P) mc_52 := zchk_ok m_T (m_Jf h) m_OK0 (fun k hk => by rw [List.mem_singleton.mp hk]; exact mt_51 h) mk_52
theorem mt_53 {P : iv_H → Prop} (h : m_Pf P) : zCT m_τ m_ty (mJ P) mc_53 := zchk_ok m_T (m_Jf h) m_OK0 (fun k hk => by cases hk) mk_53
theorem mt_55 {P : iv_H → Prop} (h : m_Pf P) : zCT m_τ m_ty (mJ P) mc_55 := zchk_ok m_T (m_Jf h) m_OK0 (fun k hk => by cases hk) mk_55
theorem mt_56 {P : iv_H → Prop} (h : m_Pf P) : zCT m_τ m_ty (mJ P) mc_56 := zchk_ok m_T (m_Jf h) m_OK0 (fun k hk => by cases hk) mk_56
theorem mt_57 {P : iv_H → Prop} (h : m_Pf P) : zCT m_τ m_ty (mJ P) mc_57 := zchk_ok m_T (m_Jf h) m_OK0 (fun k hk => by cases hk) mk_57
theorem mt_58 {P : iv_H → Prop} (h : m_Pf P) : zCT m_τ m_ty (mJ P) mc_58 := zchk_ok m_T (m_Jf h) m_OK0 (fun k hk => by cases hk) mk_58
theorem mt_59 {P : iv_H → Prop} (h : m_Pf P) : zCT m_τ m_ty (mJ P) mc_59 := zchk_ok m_T (m_Jf h) m_OK0 (fun k hk => by cases hk) mk_59
theorem mt_60 {P : iv_H → Prop} (h : m_Pf P) : zCT m_τ m_ty (mJ P) mc_60 := zchk_ok m_T (m_Jf h) m_OK0 (fun k hk => by
  simp only [List.mem_cons, List.not_mem_nil, or_false] at hk
  rcases hk with rfl | rfl
  · exact mt_30 h
  · exact mt_59 h) mk_60
theorem mt_61 {P : iv_H → Prop} (h : m_Pf P) : zCT m_τ m_ty (mJ P) mc_61 := zchk_ok m_T (m_Jf h) m_OK0 (fun k hk => by rw [List.mem_singleton.mp hk]; exact mt_31 h) mk_61
theorem mt_62 {P : iv_H → Prop} (h : m_Pf P) : zCT m_τ m_ty (mJ P) mc_62 := zchk_ok m_T (m_Jf h) m_OK0 (fun k hk => by rw [List.mem_singleton.mp hk]; exact mt_31 h) mk_62
theorem mt_63 {P : iv_H → Prop} (h : m_Pf P) : zCT m_τ m_ty (mJ P) mc_63 := zchk_ok m_T (m_Jf h) m_OK0 (fun k hk => by cases hk) mk_63
theorem mt_64 {P : iv_H → Prop} (h : m_Pf P) : zCT m_τ m_ty (mJ P) mc_64 := zchk_ok m_T (m_Jf h) m_OK0 (fun k hk => by rw [List.mem_singleton.mp hk]; exact mt_63 h) mk_64
theorem mt_65 {P : iv_H → Prop} (h : m_Pf P) : zCT m_τ m_ty (mJ P) mc_65 := zchk_ok m_T (m_Jf h) m_OK0 (fun k hk => by rw [List.mem_singleton.mp hk]; exact mt_64 h) mk_65
theorem mt_66 {P : iv_H → Prop} (h : m_Pf P) : zCT m_τ m_ty (mJ P) mc_66 := zchk_ok m_T (m_Jf h) m_OK0 (fun k hk => by rw [List.mem_singleton.mp hk]; exact mt_65 h) mk_66
theorem mt_67 {P : iv_H → Prop} (h : m_Pf P) : zCT m_τ m_ty (mJ P) mc_67 := zchk_ok m_T (m_Jf h) m_OK0 (fun k hk => by rw [List.mem_singleton.mp hk]; exact mt_66 h) mk_67
theorem mt_68 {P : iv_H → Prop} (h : m_Pf P) : zCT m_τ m_ty (mJ P) mc_68 := zchk_ok m_T (m_Jf h) m_OK0 (fun k hk => by rw [List.mem_singleton.mp hk]; exact mt_67 h) mk_68
theorem mt_69 {P : iv_H → Prop} (h : m_Pf P) : zCT m_τ m_ty (mJ P) mc_69 := zchk_ok m_T (m_Jf h) m_OK0 (fun k hk => by rw [List.mem_singleton.mp hk]; exact mt_68 h) mk_69
theorem mt_70 {P : iv_H → Prop} (h : m_Pf P) : zCT m_τ m_ty (mJ P) mc_70 := zchk_ok m_T (m_Jf h) m_OK0 (fun k hk => by rw [List.mem_singleton.mp hk]; exact mt_69 h) mk_70
theorem mt_71 {P : iv_H → Prop} (h : m_Pf P) : zCT m_τ m_ty (mJ P) mc_71 := zchk_ok m_T (m_Jf h) m_OK0 (fun k hk => by rw [List.mem_singleton.mp hk]; exact mt_70 h) mk_71
theorem mt_72 {P : iv_H → Prop} (h : m_Pf P) : zCT m_τ m_ty (mJ P) mc_72 := zchk_ok m_T (m_Jf h) m_OK0 (fun k hk => by rw [List.mem_singleton.mp hk]; exact mt_71 h) mk_72
theorem mt_73 {P : iv_H → Prop} (h : m_Pf P) : zCT m_τ m_ty (mJ P) mc_73 := zchk_ok m_T (m_Jf h) m_OK0 (fun k hk => by rw [List.mem_singleton.mp hk]; exact mt_72 h) mk_73
theorem mt_74 {P : iv_H → Prop} (h : m_Pf P) : zCT m_τ m_ty (mJ P) mc_74 := zchk_ok m_T (m_Jf h) m_OK0 (fun k hk => by rw [List.mem_singleton.mp hk]; exact mt_73 h) mk_74
theorem mt_75 {P : iv_H → Prop} (h : m_Pf P) : zCT m_τ m_ty (mJ P) mc_75 := zchk_ok m_T (m_Jf h) m_OK0 (fun k hk => by rw [List.mem_singleton.mp hk]; exact mt_74 h) mk_75
theorem mt_76 {P : iv_H → Prop} (h : m_Pf P) : zCT m_τ m_ty (mJ P) mc_76 := zchk_ok m_T (m_Jf h) m_OK0 (fun k hk => by rw [List.mem_singleton.mp hk]; exact mt_75 h) mk_76
theorem mt_77 {P : iv_H → Prop} (h : m_Pf P) : zCT m_τ m_ty (mJ P) mc_77 := zchk_ok m_T (m_Jf h) m_OK0 (fun k hk => by cases hk) mk_77
theorem mt_78 {P : iv_H → Prop} (h : m_Pf P) : zCT m_τ m_ty (mJ P) mc_78 := zchk_ok m_T (m_Jf h) m_OK0 (fun k hk => by rw [List.mem_singleton.mp hk]; exact mt_77 h) mk_78
theorem mt_79 {P : iv_H → Prop} (h : m_Pf P) : zCT m_τ m_ty (mJ P) mc_79 := zchk_ok m_T (m_Jf h) m_OK0 (fun k hk => by rw [List.mem_singleton.mp hk]; exact mt_78 h) mk_79
theorem mt_80 {P : iv_H → Prop} (h : m_Pf P) : zCT m_τ m_ty (mJ P) mc_80 := zchk_ok m_T (m_Jf h) m_OK0 (fun k hk => by rw [List.mem_singleton.mp hk]; exact mt_76 h) mk_80
theorem mt_81 {P : iv_H → Prop} (h : m_Pf P) : zCT m_τ m_ty (mJ P) mc_81 := zchk_ok m_T (m_Jf h) m_OK0 (fun k hk => by rw [List.mem_singleton.mp hk]; exact mt_64 h) mk_81
theorem mt_82 {P : iv_H → Prop} (h : m_Pf P) : zCT m_τ m_ty (mJ P) mc_82 := zchk_ok m_T (m_Jf h) m_OK0 (fun k hk => by rw [List.mem_singleton.mp hk]; exact mt_65 h) mk_82
theorem mt_83 {P : iv_H → Prop} (h : m_Pf P) : zCT m_τ m_ty (mJ P) mc_83 := zchk_ok m_T (m_Jf h) m_OK0 (fun k hk => by
  simp only [List.mem_cons, List.not_mem_nil, or_false] at hk
  rcases hk with rfl | rfl | rfl | rfl | rfl
  · exact mt_76 h
  · exact mt_79 h
  · exact mt_81 h
  · exact mt_82 h
  · exact mt_80 h) mk_83
theorem mt_84 {P : iv_H → Prop} (h : m_Pf P) : zCT m_τ m_ty (mJ P) mc_84 := zchk_ok m_T (m_Jf h) m_OK0 (fun k hk => by cases hk) mk_84
theorem mt_85 {P : iv_H → Prop} (h : m_Pf P) : zCT m_τ m_ty (mJ P) mc_85 := zchk_ok m_T (m_Jf h) m_OK0 (fun k hk => by cases hk) mk_85
theorem mt_86 {P : iv_H → Prop} (h : m_Pf P) : zCT m_τ m_ty (mJ P) mc_86 := zchk_ok m_T (m_Jf h) m_OK0 (fun k hk => by cases hk) mk_86
theorem mt_87 {P : iv_H → Prop} (h : m_Pf P) : zCT m_τ m_ty (mJ P) mc_87 := zchk_ok m_T (m_Jf h) m_OK0 (fun k hk => by cases hk) mk_87
theorem mt_88 {P : iv_H → Prop} (h : m_Ps P) : zCT m_τ m_ty (mJ P) mc_88 := zchk_ok m_T (m_Jf h.1) (m_OKS h) (fun k hk => by
  simp only [List.mem_cons, List.not_mem_nil, or_false] at hk
  rcases hk with rfl | rfl | rfl | rfl | rfl | rfl | rfl
  · exact mt_39 h.1
  · exact mt_38 h.1
  · exact mt_41 h.1
  · exact mt_47 h
  · exact mt_85 h.1
  · exact mt_86 h.1
  · exact mt_87 h.1) mk_88
theorem mt_89 : zCT m_τ m_ty (mJ hT) mc_89 := zchk_ok m_T (m_Jf hT_s.1) m_OK0 (fun k hk => by
  simp only [List.mem_cons, List.not_mem_nil, or_false] at hk
  rcases hk with rfl | rfl
  · exact mt_40
  · exact mt_88 hT_s) mk_89
theorem mt_92 {P : iv_H → Prop} (h : m_Pf P) : zCT m_τ m_ty (mJ P) mc_92 := zchk_ok m_T (m_Jf h) m_OK0 (fun k hk => by cases hk) mk_92
theorem mt_96 {P : iv_H → Prop} (h : m_Pf P) : zCT m_τ m_ty (mJ P) mc_96 := zchk_ok m_T (m_Jf h) m_OK0 (fun k hk => by
  simp only [List.mem_cons, List.not_mem_nil, or_false] at hk
  rcases hk with rfl | rfl
  · exact mt_8 h
  · exact mt_3 h) mk_96
theorem mt_97 {P : iv_H → Prop} (h : m_Pf P) : zCT m_τ m_ty (mJ P) mc_97 := zchk_ok m_T (m_Jf h) m_OK0 (fun k hk => by rw [List.mem_singleton.mp hk]; exact mt_96 h) mk_97
theorem mt_98 {P : iv_H → Prop} (h : m_Pf P) : zCT m_τ m_ty (mJ P) mc_98 := zchk_ok m_T (m_Jf h) m_OK0 (fun k hk => by rw [List.mem_singleton.mp hk]; exact mt_96 h) mk_98
theorem mt_99 {P : iv_H → Prop} (h : m_Pf P) : zCT m_τ m_ty (mJ P) mc_99 := zchk_ok m_T (m_Jf h) m_OK0 (fun k hk => by rw [List.mem_singleton.mp hk]; exact mt_98 h) mk_99
theorem mt_100 {P : iv_H → Prop} (h : m_Pf P) : zCT m_τ m_ty (mJ P) mc_100 := zchk_ok m_T (m_Jf h) m_OK0 (fun k hk => by rw [List.mem_singleton.mp hk]; exact mt_99 h) mk_100
theorem mt_101 {P : iv_H → Prop} (h : m_Pf P) : zCT m_τ m_ty (mJ P) mc_101 := zchk_ok m_T (m_Jf h) m_OK0 (fun k hk => by cases hk) mk_101
theorem mt_102 {P : iv_H → Prop} (h : m_Pf P) : zCT m_τ m_ty (mJ P) mc_102 := zchk_ok m_T (m_Jf h) m_OK0 (fun k hk => by
  simp only [List.mem_cons, List.not_mem_nil, or_false] at hk
  rcases hk with rfl | rfl | rfl | rfl
  · exact mt_2 h
  · exact mt_11 h
  · exact mt_3 h
  · exact mt_101 h) mk_102
theorem mt_103 : zCT m_τ m_ty (mJ hT) mc_103 := zchk_ok m_T (m_Jf hT_s.1) m_OK0 (fun k hk => by
  simp only [List.mem_cons, List.not_mem_nil, or_false] at hk
  rcases hk with rfl | rfl
  · exact mt_102 hT_s.1
  · exact mt_94) mk_103
theorem mt_104 {P : iv_H → Prop} (h : m_Pf P) : zCT m_τ m_ty (mJ P) mc_104 := zchk_ok m_T (m_Jf h) m_OK0 (fun k hk => by
  simp only [List.mem_cons, List.not_mem_nil, or_false] at hk
  rcases hk with rfl | rfl
  · exact mt_2 h
  · exact mt_3 h) mk_104
theorem mt_105 : zCT m_τ m_ty (mJ hT) mc_105 := zchk_ok m_T (m_Jf hT_s.1) m_OK0 (fun k hk => by
  simp only [List.mem_cons, List.not_mem_nil, or_false] at hk
  rcases hk with rfl | rfl | rfl | rfl
  · exact mt_2 hT_s.1
  · exact mt_3 hT_s.1
  · exact mt_104 hT_s.1
  · exact mt_94) mk_105
theorem mt_106 : zCT m_τ m_ty (mJ hT) mc_106 := zchk_ok m_T (m_Jf hT_s.1) m_OK0 (fun k hk => by
  simp only [List.mem_cons, List.not_mem_nil, or_false] at hk
  rcases hk with rfl | rfl | rfl | rfl | rfl | rfl | rfl | rfl
  · exact mt_2 hT_s.1
  · exact mt_8 hT_s.1
  · exact mt_3 hT_s.1
  · exact mt_94
  · exact mt_97 hT_s.1
  · exact mt_100 hT_s.1
  · exact mt_103
  · exact mt_105) mk_106
theorem mt_107 : zCT m_τ m_ty (mJ hT) mc_107 := zchk_ok m_T (m_Jf hT_s.1) m_OK0 (fun k hk => by
  simp only [List.mem_cons, List.not_mem_nil, or_false] at hk
  rcases hk with rfl | rfl
  · exact mt_95
  · exact mt_106) mk_107
theorem mt_108 : zCT m_τ m_ty (mJ hT) mc_108 := zchk_ok m_T (m_Jf hT_s.1) m_OK0 (fun k hk => by
  simp only [List.mem_cons, List.not_mem_nil, or_false] at hk
  rcases hk with rfl | rfl | rfl | rfl
  · exact mt_2 hT_s.1
  · exact mt_8 hT_s.1
  · exact mt_93
  · exact mt_106) mk_108
theorem mt_109 : zCT m_τ m_ty (mJ hT) mc_109 := zchk_ok m_T (m_Jf hT_s.1) m_OK0 (fun k hk => by
  simp only [List.mem_cons, List.not_mem_nil, or_false] at hk
  rcases hk with rfl | rfl | rfl | rfl
  · exact mt_2 hT_s.1
  · exact mt_8 hT_s.1
  · exact mt_93
  · exact mt_108) mk_109
theorem mt_110 : zCT m_τ m_ty (mJ hT) mc_110 := zchk_ok m_T (m_Jf hT_s.1) m_OK0 (fun k hk => by
  simp only [List.mem_cons, List.not_mem_nil, or_false] at hk
  rcases hk with rfl | rfl | rfl
  · exact mt_2 hT_s.1
  · exact mt_3 hT_s.1
  · exact mt_109) mk_110
theorem mt_111 : zCT m_τ m_ty (mJ hT) mc_111 := zchk_ok m_T (m_Jf hT_s.1) m_OK0 (fun k hk => by
  simp only [List.mem_cons, List.not_mem_nil, or_false] at hk
  rcases hk with rfl | rfl
  · exact mt_102 hT_s.1
  · exact mt_94) mk_111
theorem mt_112 : zCT m_τ m_ty (mJ hT) mc_112 := zchk_ok m_T (m_Jf hT_s.1) m_OK0 (fun k hk => by
  simp only [List.mem_cons, List.not_mem_nil, or_false] at hk
  rcases hk with rfl | rfl | rfl | rfl
  · exact mt_2 hT_s.1
  · exact mt_3 hT_s.1
  · exact mt_104 hT_s.1
  · exact mt_94) mk_112
theorem mt_113 : zCT m_τ m_ty (mJ hT) mc_113 := zchk_ok m_T (m_Jf hT_s.1) m_OK0 (fun k hk => by
  simp only [List.mem_cons, List.not_mem_nil, or_false] at hk
  rcases hk with rfl | rfl | rfl | rfl | rfl | rfl | rfl | rfl
  · exact mt_2 hT_s.1
  · exact mt_8 hT_s.1
  · exact mt_3 hT_s.1
  · exact mt_94
  · exact mt_107
  · exact mt_110
  · exact mt_111
  · exact mt_112) mk_113
theorem mt_114 : zCT m_τ m_ty (mJ hT) mc_114 := zchk_ok m_T (m_Jf hT_s.1) m_OK0 (fun k hk => by
  simp only [List.mem_cons, List.not_mem_nil, or_false] at hk
  rcases hk with rfl | rfl
  · exact mt_95
  · exact mt_113) mk_114
theorem mt_115 : zCT m_τ m_ty (mJ hT) mc_115 := zchk_ok m_T (m_Jf hT_s.1) m_OK0 (fun k hk => by
  simp only [List.mem_cons, List.not_mem_nil, or_false] at hk
  rcases hk with rfl | rfl | rfl | rfl
  · exact mt_2 hT_s.1
  · exact mt_8 hT_s.1
  · exact mt_93
  · exact mt_113) mk_115
theorem mt_116 : zCT m_τ m_ty (mJ hT) mc_116 := zchk_ok m_T (m_Jf hT_s.1) m_OK0 (fun k hk => by
  simp only [List.mem_cons, List.not_mem_nil, or_false] at hk
  rcases hk with rfl | rfl | rfl | rfl
  · exact mt_2 hT_s.1
  · exact mt_8 hT_s.1
  · exact mt_93
  · exact mt_115) mk_116
theorem mt_117 : zCT m_τ m_ty (mJ hT) mc_117 := zchk_ok m_T (m_Jf hT_s.1) m_OK0 (fun k hk => by
  simp only [List.mem_cons, List.not_mem_nil, or_false] at hk
  rcases hk with rfl | rfl | rfl
  · exact mt_2 hT_s.1
  · exact mt_3 hT_s.1
  · exact mt_116) mk_117
theorem mt_118 : zCT m_τ m_ty (mJ hT) mc_118 := zchk_ok m_T (m_Jf hT_s.1) m_OK0 (fun k hk => by
  simp only [List.mem_cons, List.not_mem_nil, or_false] at hk
  rcases hk with rfl | rfl
  · exact mt_102 hT_s.1
  · exact mt_94) mk_118
theorem mt_119 : zCT m_τ m_ty (mJ hT) mc_119 := zchk_ok m_T (m_Jf hT_s.1) m_OK0 (fun k hk => by
  simp only [List.mem_cons, List.not_mem_nil, or_false] at hk
  rcases hk with rfl | rfl | rfl | rfl
  · exact mt_2 hT_s.1
  · exact mt_3 hT_s.1
  · exact mt_104 hT_s.1
  · exact mt_94) mk_119
theorem mt_120 : zCT m_τ m_ty (mJ hT) mc_120 := zchk_ok m_T (m_Jf hT_s.1) m_OK0 (fun k hk => by
  simp only [List.mem_cons, List.not_mem_nil, or_false] at hk
  rcases hk with rfl | rfl | rfl | rfl | rfl | rfl | rfl | rfl
  · exact mt_2 hT_s.1
  · exact mt_8 hT_s.1
  · exact mt_3 hT_s.1
  · exact mt_94
  · exact mt_114
  · exact mt_117
  · exact mt_118
  · exact mt_119) mk_120
theorem mt_121 : zCT m_τ m_ty (mJ hT) mc_121 := zchk_ok m_T (m_Jf hT_s.1) m_OK0 (fun k hk => by
  simp only [List.mem_cons, List.not_mem_nil, or_false] at hk
  rcases hk with rfl | rfl
  · exact mt_95
  · exact mt_120) mk_121
theorem mt_122 : zCT m_τ m_ty (mJ hT) mc_122 := zchk_ok m_T (m_Jf hT_s.1) m_OK0 (fun k hk => by
  simp only [List.mem_cons, List.not_mem_nil, or_false] at hk
  rcases hk with rfl | rfl | rfl | rfl
  · exact mt_2 hT_s.1
  · exact mt_8 hT_s.1
  · exact mt_93
  · exact mt_120) mk_122
theorem mt_123 : zCT m_τ m_ty (mJ hT) mc_123 := zchk_ok m_T (m_Jf hT_s.1) m_OK0 (fun k hk => by
  simp only [List.mem_cons, List.not_mem_nil, or_false] at hk
  rcases hk with rfl | rfl | rfl | rfl
  · exact mt_2 hT_s.1
  · exact mt_8 hT_s.1
  · exact mt_93
  · exact mt_122) mk_123
theorem mt_124 : zCT m_τ m_ty (mJ hT) mc_124 := zchk_ok m_T (m_Jf hT_s.1) m_OK0 (fun k hk => by
  simp only [List.mem_cons, List.not_mem_nil, or_false] at hk
  rcases hk with rfl | rfl | rfl
  · exact mt_2 hT_s.1
  · exact mt_3 hT_s.1
  · exact mt_123) mk_124
theorem mt_125 : zCT m_τ m_ty (mJ hT) mc_125 := zchk_ok m_T (m_Jf hT_s.1) m_OK0 (fun k hk => by
  simp only [List.mem_cons, List.not_mem_nil, or_false] at hk
  rcases hk with rfl | rfl
  · exact mt_102 hT_s.1
  · exact mt_94) mk_125
theorem mt_126 : zCT m_τ m_ty (mJ hT) mc_126 := zchk_ok m_T (m_Jf hT_s.1) m_OK0 (fun k hk => by
  simp only [List.mem_cons, List.not_mem_nil, or_false] at hk
  rcases hk with rfl | rfl | rfl | rfl
  · exact mt_2 hT_s.1
  · exact mt_3 hT_s.1
  · exact mt_104 hT_s.1
  · exact mt_94) mk_126
theorem mt_127 : zCT m_τ m_ty (mJ hT) mc_127 := zchk_ok m_T (m_Jf hT_s.1) m_OK0 (fun k hk => by
  simp only [List.mem_cons, List.not_mem_nil, or_false] at hk
  rcases hk with rfl | rfl | rfl | rfl | rfl | rfl | rfl | rfl
  · exact mt_2 hT_s.1
  · exact mt_8 hT_s.1
  · exact mt_3 hT_s.1
  · exact mt_94
  · exact mt_121
  · exact mt_124
  · exact mt_125
  · exact mt_126) mk_127
theorem mt_128 : zCT m_τ m_ty (mJ hT) mc_128 := zchk_ok m_T (m_Jf hT_s.1) m_OK0 (fun k hk => by
  simp only [List.mem_cons, List.not_mem_nil, or_false] at hk
  rcases hk with rfl | rfl
  · exact mt_95
  · exact mt_127) mk_128
theorem mt_129 : zCT m_τ m_ty (mJ hT) mc_129 := zchk_ok m_T (m_Jf hT_s.1) m_OK0 (fun k hk => by
  simp only [List.mem_cons, List.not_mem_nil, or_false] at hk
  rcases hk with rfl | rfl | rfl | rfl
  · exact mt_2 hT_s.1
  · exact mt_8 hT_s.1
  · exact mt_93
  · exact mt_127) mk_129
theorem mt_130 : zCT m_τ m_ty (mJ hT) mc_130 := zchk_ok m_T (m_Jf hT_s.1) m_OK0 (fun k hk => by
  simp only [List.mem_cons, List.not_mem_nil, or_false] at hk
  rcases hk with rfl | rfl | rfl | rfl
  · exact mt_2 hT_s.1
  · exact mt_8 hT_s.1
  · exact mt_93
  · exact mt_129) mk_130
theorem mt_131 : zCT m_τ m_ty (mJ hT) mc_131 := zchk_ok m_T (m_Jf hT_s.1) m_OK0 (fun k hk => by
  simp only [List.mem_cons, List.not_mem_nil, or_false] at hk
  rcases hk with rfl | rfl | rfl
  · exact mt_2 hT_s.1
  · exact mt_3 hT_s.1
  · exact mt_130) mk_131
theorem mt_132 : zCT m_τ m_ty (mJ hT) mc_132 := zchk_ok m_T (m_Jf hT_s.1) m_OK0 (fun k hk => by
  simp only [List.mem_cons, List.not_mem_nil, or_false] at hk
  rcases hk with rfl | rfl
  · exact mt_102 hT_s.1
  · exact mt_94) mk_132
theorem mt_133 : zCT m_τ m_ty (mJ hT) mc_133 := zchk_ok m_T (m_Jf hT_s.1) m_OK0 (fun k hk => by
  simp only [List.mem_cons, List.not_mem_nil, or_false] at hk
  rcases hk with rfl | rfl | rfl | rfl
  · exact mt_2 hT_s.1
  · exact mt_3 hT_s.1
  · exact mt_104 hT_s.1
  · exact mt_94) mk_133
theorem mt_134 : zCT m_τ m_ty (mJ hT) mc_134 := zchk_ok m_T (m_Jf hT_s.1) m_OK0 (fun k hk => by
  simp only [List.mem_cons, List.not_mem_nil, or_false] at hk
  rcases hk with rfl | rfl | rfl | rfl | rfl | rfl | rfl | rfl
  · exact mt_2 hT_s.1
  · exact mt_8 hT_s.1
  · exact mt_3 hT_s.1
  · exact mt_94
  · exact mt_128
  · exact mt_131
  · exact mt_132
  · exact mt_133) mk_134
theorem mt_135 : zCT m_τ m_ty (mJ hT) mc_135 := zchk_ok m_T (m_Jf hT_s.1) m_OK0 (fun k hk => by
  simp only [List.mem_cons, List.not_mem_nil, or_false] at hk
  rcases hk with rfl | rfl
  · exact mt_95
  · exact mt_134) mk_135
theorem mt_136 : zCT m_τ m_ty (mJ hT) mc_136 := zchk_ok m_T (m_Jf hT_s.1) m_OK0 (fun k hk => by
  simp only [List.mem_cons, List.not_mem_nil, or_false] at hk
  rcases hk with rfl | rfl | rfl | rfl
  · exact mt_2 hT_s.1
  · exact mt_8 hT_s.1
  · exact mt_93
  · exact mt_134) mk_136
theorem mt_137 : zCT m_τ m_ty (mJ hT) mc_137 := zchk_ok m_T (m_Jf hT_s.1) m_OK0 (fun k hk => by
  simp only [List.mem_cons, List.not_mem_nil, or_false] at hk
  rcases hk with rfl | rfl | rfl | rfl
  · exact mt_2 hT_s.1
  · exact mt_8 hT_s.1
  · exact mt_93
  · exact mt_136) mk_137
theorem mt_138 : zCT m_τ m_ty (mJ hT) mc_138 := zchk_ok m_T (m_Jf hT_s.1) m_OK0 (fun k hk => by
  simp only [List.mem_cons, List.not_mem_nil, or_false] at hk
  rcases hk with rfl | rfl | rfl
  · exact mt_2 hT_s.1
  · exact mt_3 hT_s.1
  · exact mt_137) mk_138
theorem mt_139 : zCT m_τ m_ty (mJ hT) mc_139 := zchk_ok m_T (m_Jf hT_s.1) m_OK0 (fun k hk => by
  simp only [List.mem_cons, List.not_mem_nil, or_false] at hk
  rcases hk with rfl | rfl
  · exact mt_102 hT_s.1
  · exact mt_94) mk_139
theorem mt_140 : zCT m_τ m_ty (mJ hT) mc_140 := zchk_ok m_T (m_Jf hT_s.1) m_OK0 (fun k hk => by
  simp only [List.mem_cons, List.not_mem_nil, or_false] at hk
  rcases hk with rfl | rfl | rfl | rfl
  · exact mt_2 hT_s.1
  · exact mt_3 hT_s.1
  · exact mt_104 hT_s.1
  · exact mt_94) mk_140
theorem mt_141 : zCT m_τ m_ty (mJ hT) mc_141 := zchk_ok m_T (m_Jf hT_s.1) m_OK0 (fun k hk => by
  simp only [List.mem_cons, List.not_mem_nil, or_false] at hk
  rcases hk with rfl | rfl | rfl | rfl | rfl | rfl | rfl | rfl
  · exact mt_2 hT_s.1
  · exact mt_8 hT_s.1
  · exact mt_3 hT_s.1
  · exact mt_94
  · exact mt_135
  · exact mt_138
  · exact mt_139
  · exact mt_140) mk_141
theorem mt_142 : zCT m_τ m_ty (mJ hT) mc_142 := zchk_ok m_T (m_Jf hT_s.1) m_OK0 (fun k hk => by
  simp only [List.mem_cons, List.not_mem_nil, or_false] at hk
  rcases hk with rfl | rfl
  · exact mt_95
  · exact mt_141) mk_142
theorem mt_143 : zCT m_τ m_ty (mJ hT) mc_143 := zchk_ok m_T (m_Jf hT_s.1) m_OK0 (fun k hk => by
  simp only [List.mem_cons, List.not_mem_nil, or_false] at hk
  rcases hk with rfl | rfl | rfl | rfl
  · exact mt_2 hT_s.1
  · exact mt_8 hT_s.1
  · exact mt_93
  · exact mt_141) mk_143
theorem mt_144 : zCT m_τ m_ty (mJ hT) mc_144 := zchk_ok m_T (m_Jf hT_s.1) m_OK0 (fun k hk => by
  simp only [List.mem_cons, List.not_mem_nil, or_false] at hk
  rcases hk with rfl | rfl | rfl | rfl
  · exact mt_2 hT_s.1
  · exact mt_8 hT_s.1
  · exact mt_93
  · exact mt_143) mk_144
theorem mt_145 : zCT m_τ m_ty (mJ hT) mc_145 := zchk_ok m_T (m_Jf hT_s.1) m_OK0 (fun k hk => by
  simp only [List.mem_cons, List.not_mem_nil, or_false] at hk
  rcases hk with rfl | rfl | rfl
  · exact mt_2 hT_s.1
  · exact mt_3 hT_s.1
  · exact mt_144) mk_145
theorem mt_146 : zCT m_τ m_ty (mJ hT) mc_146 := zchk_ok m_T (m_Jf hT_s.1) m_OK0 (fun k hk => by
  simp only [List.mem_cons, List.not_mem_nil, or_false] at hk
  rcases hk with rfl | rfl
  · exact mt_102 hT_s.1
  · exact mt_94) mk_146
theorem mt_147 : zCT m_τ m_ty (mJ hT) mc_147 := zchk_ok m_T (m_Jf hT_s.1) m_OK0 (fun k hk => by
  simp only [List.mem_cons, List.not_mem_nil, or_false] at hk
  rcases hk with rfl | rfl | rfl | rfl
  · exact mt_2 hT_s.1
  · exact mt_3 hT_s.1
  · exact mt_104 hT_s.1
  · exact mt_94) mk_147
theorem mt_148 : zCT m_τ m_ty (mJ hT) mc_148 := zchk_ok m_T (m_Jf hT_s.1) m_OK0 (fun k hk => by
  simp only [List.mem_cons, List.not_mem_nil, or_false] at hk
  rcases hk with rfl | rfl | rfl | rfl | rfl | rfl | rfl | rfl
  · exact mt_2 hT_s.1
  · exact mt_8 hT_s.1
  · exact mt_3 hT_s.1
  · exact mt_94
  · exact mt_142
  · exact mt_145
  · exact mt_146
  · exact mt_147) mk_148
theorem mt_149 : zCT m_τ m_ty (mJ hT) mc_149 := zchk_ok m_T (m_Jf hT_s.1) m_OK0 (fun k hk => by
  simp only [List.mem_cons, List.not_mem_nil, or_false] at hk
  rcases hk with rfl | rfl
  · exact mt_95
  · exact mt_148) mk_149
theorem mt_150 : zCT m_τ m_ty (mJ hT) mc_150 := zchk_ok m_T (m_Jf hT_s.1) m_OK0 (fun k hk => by
  simp only [List.mem_cons, List.not_mem_nil, or_false] at hk
  rcases hk with rfl | rfl | rfl | rfl
  · exact mt_2 hT_s.1
  · exact mt_8 hT_s.1
  · exact mt_93
  · exact mt_148) mk_150
theorem mt_151 : zCT m_τ m_ty (mJ hT) mc_151 := zchk_ok m_T (m_Jf hT_s.1) m_OK0 (fun k hk => by
  simp only [List.mem_cons, List.not_mem_nil, or_false] at hk
  rcases hk with rfl | rfl | rfl | rfl
  · exact mt_2 hT_s.1
  · exact mt_8 hT_s.1
  · exact mt_93
  · exact mt_150) mk_151
theorem mt_152 : zCT m_τ m_ty (mJ hT) mc_152 := zchk_ok m_T (m_Jf hT_s.1) m_OK0 (fun k hk => by
  simp only [List.mem_cons, List.not_mem_nil, or_false] at hk
  rcases hk with rfl | rfl | rfl
  · exact mt_2 hT_s.1
  · exact mt_3 hT_s.1
  · exact mt_151) mk_152
theorem mt_153 : zCT m_τ m_ty (mJ hT) mc_153 := zchk_ok m_T (m_Jf hT_s.1) m_OK0 (fun k hk => by
  simp only [List.mem_cons, List.not_mem_nil, or_false] at hk
  rcases hk with rfl | rfl
  · exact mt_102 hT_s.1
  · exact mt_94) mk_153
theorem mt_154 : zCT m_τ m_ty (mJ hT) mc_154 := zchk_ok m_T (m_Jf hT_s.1) m_OK0 (fun k hk => by
  simp only [List.mem_cons, List.not_mem_nil, or_false] at hk
  rcases hk with rfl | rfl | rfl | rfl
  · exact mt_2 hT_s.1
  · exact mt_3 hT_s.1
  · exact mt_104 hT_s.1
  · exact mt_94) mk_154
theorem mt_155 : zCT m_τ m_ty (mJ hT) mc_155 := zchk_ok m_T (m_Jf hT_s.1) m_OK0 (fun k hk => by
  simp only [List.mem_cons, List.not_mem_nil, or_false] at hk
  rcases hk with rfl | rfl | rfl | rfl | rfl | rfl | rfl | rfl
  · exact mt_2 hT_s.1
  · exact mt_8 hT_s.1
  · exact mt_3 hT_s.1
  · exact mt_94
  · exact mt_149
  · exact mt_152
  · exact mt_153
  · exact mt_154) mk_155
theorem mt_156 : zCT m_τ m_ty (mJ hT) mc_156 := zchk_ok m_T (m_Jf hT_s.1) m_OK0 (fun k hk => by
  simp only [List.mem_cons, List.not_mem_nil, or_false] at hk
  rcases hk with rfl | rfl | rfl | rfl
  · exact mt_2 hT_s.1
  · exact mt_8 hT_s.1
  · exact mt_93
  · exact mt_155) mk_156
theorem mt_157 : zCT m_τ m_ty (mJ hT) mc_157 := zchk_ok m_T (m_Jf hT_s.1) m_OK0 (fun k hk => by
  simp only [List.mem_cons, List.not_mem_nil, or_false] at hk
  rcases hk with rfl | rfl | rfl | rfl
  · exact mt_2 hT_s.1
  · exact mt_8 hT_s.1
  · exact mt_93
  · exact mt_156) mk_157
theorem mt_159 {P : iv_H → Prop} (h : m_Pf P) : zCT m_τ m_ty (mJ P) mc_159 := zchk_ok m_T (m_Jf h) m_OK0 (fun k hk => by rw [List.mem_singleton.mp hk]; exact mt_32 h) mk_159
theorem mt_160 {P : iv_H → Prop} (h : m_Pf P) : zCT m_τ m_ty (mJ P) mc_160 := zchk_ok m_T (m_Jf h) m_OK0 (fun k hk => by
  simp only [List.mem_cons, List.not_mem_nil, or_false] at hk
  rcases hk with rfl | rfl
  · exact mt_32 h
  · exact mt_159 h) mk_160
theorem mt_161 {P : iv_H → Prop} (h : m_Pf P) : zCT m_τ m_ty (mJ P) mc_161 := zchk_ok m_T (m_Jf h) m_OK0 (fun k hk => by
  simp only [List.mem_cons, List.not_mem_nil, or_false] at hk
  rcases hk with rfl | rfl
  · exact mt_32 h
  · exact mt_160 h) mk_161
theorem mt_162 {P : iv_H → Prop} (h : m_Pf P) : zCT m_τ m_ty (mJ P) mc_162 := zchk_ok m_T (m_Jf h) m_OK0 (fun k hk => by
  simp only [List.mem_cons, List.not_mem_nil, or_false] at hk
  rcases hk with rfl | rfl
  · exact mt_32 h
  · exact mt_161 h) mk_162
theorem mt_163 {P : iv_H → Prop} (h : m_Pf P) : zCT m_τ m_ty (mJ P) mc_163 := zchk_ok m_T (m_Jf h) m_OK0 (fun k hk => by
  simp only [List.mem_cons, List.not_mem_nil, or_false] at hk
  rcases hk with rfl | rfl
  · exact mt_32 h
  · exact mt_162 h) mk_163
theorem mt_164 {P : iv_H → Prop} (h : m_Pf P) : zCT m_τ m_ty (mJ P) mc_164 := zchk_ok m_T (m_Jf h) m_OK0 (fun k hk => by
  simp only [List.mem_cons, List.not_mem_nil, or_false] at hk
  rcases hk with rfl | rfl
  · exact mt_32 h
  · exact mt_163 h) mk_164
theorem mt_165 {P : iv_H → Prop} (h : m_Pf P) : zCT m_τ m_ty (mJ P) mc_165 := zchk_ok m_T (m_Jf h) m_OK0 (fun k hk => by
  simp only [List.mem_cons, List.not_mem_nil, or_false] at hk
  rcases hk with rfl | rfl
  · exact mt_32 h
  · exact mt_164 h) mk_165
theorem mt_166 {P : iv_H → Prop} (h : m_Pf P) : zCT m_τ m_ty (mJ P) mc_166 := zchk_ok m_T (m_Jf h) m_OK0 (fun k hk => by
  simp only [List.mem_cons, List.not_mem_nil, or_false] at hk
  rcases hk with rfl | rfl
  · exact mt_32 h
  · exact mt_165 h) mk_166
theorem mt_167 {P : iv_H → Prop} (h : m_Pf P) : zCT m_τ m_ty (mJ P) mc_167 := zchk_ok m_T (m_Jf h) m_OK0 (fun k hk => by
  simp only [List.mem_cons, List.not_mem_nil, or_false] at hk
  rcases hk with rfl | rfl
  · exact mt_32 h
  · exact mt_166 h) mk_167
theorem mt_168 {P : iv_H → Prop} (h : m_Pf P) : zCT m_τ m_ty (mJ P) mc_168 := zchk_ok m_T (m_Jf h) m_OK0 (fun k hk => by
  simp only [List.mem_cons, List.not_mem_nil, or_false] at hk
  rcases hk with rfl | rfl
  · exact mt_32 h
  · exact mt_167 h) mk_168
theorem mt_169 {P : iv_H → Prop} (h : m_Pf P) : zCT m_τ m_ty (mJ P) mc_169 := zchk_ok m_T (m_Jf h) m_OK0 (fun k hk => by
  simp only [List.mem_cons, List.not_mem_nil, or_false] at hk
  rcases hk with rfl | rfl
  · exact mt_32 h
  · exact mt_168 h) mk_169
theorem mt_170 {P : iv_H → Prop} (h : m_Pf P) : zCT m_τ m_ty (mJ P) mc_170 := zchk_ok m_T (m_Jf h) m_OK0 (fun k hk => by
  simp only [List.mem_cons, List.not_mem_nil, or_false] at hk
  rcases hk with rfl | rfl
  · exact mt_32 h
  · exact mt_169 h) mk_170
theorem mt_171 {P : iv_H → Prop} (h : m_Pf P) : zCT m_τ m_ty (mJ P) mc_171 := zchk_ok m_T (m_Jf h) m_OK0 (fun k hk => by
  simp only [List.mem_cons, List.not_mem_nil, or_false] at hk
  rcases hk with rfl | rfl
  · exact mt_32 h
  · exact mt_170 h) mk_171
theorem mt_172 {P : iv_H → Prop} (h : m_Pf P) : zCT m_τ m_ty (mJ P) mc_172 := zchk_ok m_T (m_Jf h) m_OK0 (fun k hk => by
  simp only [List.mem_cons, List.not_mem_nil, or_false] at hk
  rcases hk with rfl | rfl
  · exact mt_32 h
  · exact mt_171 h) mk_172
theorem mt_173 {P : iv_H → Prop} (h : m_Pf P) : zCT m_τ m_ty (mJ P) mc_173 := zchk_ok m_T (m_Jf h) m_OK0 (fun k hk => by
  simp only [List.mem_cons, List.not_mem_nil, or_false] at hk
  rcases hk with rfl | rfl
  · exact mt_32 h
  · exact mt_172 h) mk_173
theorem mt_174 {P : iv_H → Prop} (h : m_Pf P) : zCT m_τ m_ty (mJ P) mc_174 := zchk_ok m_T (m_Jf h) m_OK0 (fun k hk => by
  simp only [List.mem_cons, List.not_mem_nil, or_false] at hk
  rcases hk with rfl | rfl
  · exact mt_32 h
  · exact mt_173 h) mk_174
theorem mt_175 {P : iv_H → Prop} (h : m_Pf P) : zCT m_τ m_ty (mJ P) mc_175 := zchk_ok m_T (m_Jf h) m_OK0 (fun k hk => by
  simp only [List.mem_cons, List.not_mem_nil, or_false] at hk
  rcases hk with rfl | rfl
  · exact mt_32 h
  · exact mt_174 h) mk_175
theorem mt_176 {P : iv_H → Prop} (h : m_Pf P) : zCT m_τ m_ty (mJ P) mc_176 := zchk_ok m_T (m_Jf h) m_OK0 (fun k hk => by
  simp only [List.mem_cons, List.not_mem_nil, or_false] at hk
  rcases hk with rfl | rfl
  · exact mt_32 h
  · exact mt_175 h) mk_176
theorem mt_177 {P : iv_H → Prop} (h : m_Pf P) : zCT m_τ m_ty (mJ P) mc_177 := zchk_ok m_T (m_Jf h) m_OK0 (fun k hk => by
  simp only [List.mem_cons, List.not_mem_nil, or_false] at hk
  rcases hk with rfl | rfl
  · exact mt_32 h
  · exact mt_176 h) mk_177
theorem mt_178 {P : iv_H → Prop} (h : m_Pf P) : zCT m_τ m_ty (mJ P) mc_178 := zchk_ok m_T (m_Jf h) m_OK0 (fun k hk => by
  simp only [List.mem_cons, List.not_mem_nil, or_false] at hk
  rcases hk with rfl | rfl
  · exact mt_32 h
  · exact mt_177 h) mk_178
theorem mt_179 {P : iv_H → Prop} (h : m_Pf P) : zCT m_τ m_ty (mJ P) mc_179 := zchk_ok m_T (m_Jf h) m_OK0 (fun k hk => by
  simp only [List.mem_cons, List.not_mem_nil, or_false] at hk
  rcases hk with rfl | rfl
  · exact mt_32 h
  · exact mt_178 h) mk_179
theorem mt_180 {P : iv_H → Prop} (h : m_Pf P) : zCT m_τ m_ty (mJ P) mc_180 := zchk_ok m_T (m_Jf h) m_OK0 (fun k hk => by
  simp only [List.mem_cons, List.not_mem_nil, or_false] at hk
  rcases hk with rfl | rfl
  · exact mt_32 h
  · exact mt_179 h) mk_180
theorem mt_181 {P : iv_H → Prop} (h : m_Pf P) : zCT m_τ m_ty (mJ P) mc_181 := zchk_ok m_T (m_Jf h) m_OK0 (fun k hk => by
  simp only [List.mem_cons, List.not_mem_nil, or_false] at hk
  rcases hk with rfl | rfl
  · exact mt_32 h
  · exact mt_180 h) mk_181
theorem mt_182 {P : iv_H → Prop} (h : m_Pf P) : zCT m_τ m_ty (mJ P) mc_182 := zchk_ok m_T (m_Jf h) m_OK0 (fun k hk => by
  simp only [List.mem_cons, List.not_mem_nil, or_false] at hk
  rcases hk with rfl | rfl
  · exact mt_32 h
  · exact mt_181 h) mk_182
theorem mt_183 {P : iv_H → Prop} (h : m_Pf P) : zCT m_τ m_ty (mJ P) mc_183 := zchk_ok m_T (m_Jf h) m_OK0 (fun k hk => by
  simp only [List.mem_cons, List.not_mem_nil, or_false] at hk
  rcases hk with rfl | rfl
  · exact mt_32 h
  · exact mt_182 h) mk_183
theorem mt_184 {P : iv_H → Prop} (h : m_Pf P) : zCT m_τ m_ty (mJ P) mc_184 := zchk_ok m_T (m_Jf h) m_OK0 (fun k hk => by
  simp only [List.mem_cons, List.not_mem_nil, or_false] at hk
  rcases hk with rfl | rfl
  · exact mt_32 h
  · exact mt_183 h) mk_184
theorem mt_185 {P : iv_H → Prop} (h : m_Pf P) : zCT m_τ m_ty (mJ P) mc_185 := zchk_ok m_T (m_Jf h) m_OK0 (fun k hk => by
  simp only [List.mem_cons, List.not_mem_nil, or_false] at hk
  rcases hk with rfl | rfl
  · exact mt_32 h
  · exact mt_184 h) mk_185
theorem mt_186 {P : iv_H → Prop} (h : m_Pf P) : zCT m_τ m_ty (mJ P) mc_186 := zchk_ok m_T (m_Jf h) m_OK0 (fun k hk => by
  simp only [List.mem_cons, List.not_mem_nil, or_false] at hk
  rcases hk with rfl | rfl
  · exact mt_32 h
  · exact mt_185 h) mk_186
theorem mt_187 {P : iv_H → Prop} (h : m_Pf P) : zCT m_τ m_ty (mJ P) mc_187 := zchk_ok m_T (m_Jf h) m_OK0 (fun k hk => by
  simp only [List.mem_cons, List.not_mem_nil, or_false] at hk
  rcases hk with rfl | rfl
  · exact mt_32 h
  · exact mt_186 h) mk_187
theorem mt_188 {P : iv_H → Prop} (h : m_Pf P) : zCT m_τ m_ty (mJ P) mc_188 := zchk_ok m_T (m_Jf h) m_OK0 (fun k hk => by
  simp only [List.mem_cons, List.not_mem_nil, or_false] at hk
  rcases hk with rfl | rfl
  · exact mt_32 h
  · exact mt_187 h) mk_188
theorem mt_189 {P : iv_H → Prop} (h : m_Pf P) : zCT m_τ m_ty (mJ P) mc_189 := zchk_ok m_T (m_Jf h) m_OK0 (fun k hk => by
  simp only [List.mem_cons, List.not_mem_nil, or_false] at hk
  rcases hk with rfl | rfl
  · exact mt_32 h
  · exact mt_188 h) mk_189
theorem mt_190 {P : iv_H → Prop} (h : m_Pf P) : zCT m_τ m_ty (mJ P) mc_190 := zchk_ok m_T (m_Jf h) m_OK0 (fun k hk => by
  simp only [List.mem_cons, List.not_mem_nil, or_false] at hk
  rcases hk with rfl | rfl
  · exact mt_32 h
  · exact mt_189 h) mk_190
theorem mt_191 {P : iv_H → Prop} (h : m_Pf P) : zCT m_τ m_ty (mJ P) mc_191 := zchk_ok m_T (m_Jf h) m_OK0 (fun k hk => by
  simp only [List.mem_cons, List.not_mem_nil, or_false] at hk
  rcases hk with rfl | rfl
  · exact mt_32 h
  · exact mt_190 h) mk_191
theorem mt_192 {P : iv_H → Prop} (h : m_Pf P) : zCT m_τ m_ty (mJ P) mc_192 := zchk_ok m_T (m_Jf h) m_OK0 (fun k hk => by
  simp only [List.mem_cons, List.not_mem_nil, or_false] at hk
  rcases hk with rfl | rfl
  · exact mt_32 h
  · exact mt_191 h) mk_192
theorem mt_193 {P : iv_H → Prop} (h : m_Pf P) : zCT m_τ m_ty (mJ P) mc_193 := zchk_ok m_T (m_Jf h) m_OK0 (fun k hk => by
  simp only [List.mem_cons, List.not_mem_nil, or_false] at hk
  rcases hk with rfl | rfl
  · exact mt_32 h
  · exact mt_192 h) mk_193
theorem mt_194 {P : iv_H → Prop} (h : m_Pf P) : zCT m_τ m_ty (mJ P) mc_194 := zchk_ok m_T (m_Jf h) m_OK0 (fun k hk => by
  simp only [List.mem_cons, List.not_mem_nil, or_false] at hk
  rcases hk with rfl | rfl
  · exact mt_32 h
  · exact mt_193 h) mk_194
theorem mt_195 {P : iv_H → Prop} (h : m_Pf P) : zCT m_τ m_ty (mJ P) mc_195 := zchk_ok m_T (m_Jf h) m_OK0 (fun k hk => by
  simp only [List.mem_cons, List.not_mem_nil, or_false] at hk
  rcases hk with rfl | rfl
  · exact mt_32 h
  · exact mt_194 h) mk_195
theorem mt_196 {P : iv_H → Prop} (h : m_Pf P) : zCT m_τ m_ty (mJ P) mc_196 := zchk_ok m_T (m_Jf h) m_OK0 (fun k hk => by
  simp only [List.mem_cons, List.not_mem_nil, or_false] at hk
  rcases hk with rfl | rfl
  · exact mt_32 h
  · exact mt_195 h) mk_196
theorem mt_197 {P : iv_H → Prop} (h : m_Pf P) : zCT m_τ m_ty (mJ P) mc_197 := zchk_ok m_T (m_Jf h) m_OK0 (fun k hk => by
  simp only [List.mem_cons, List.not_mem_nil, or_false] at hk
  rcases hk with rfl | rfl
  · exact mt_32 h
  · exact mt_196 h) mk_197
theorem mt_198 {P : iv_H → Prop} (h : m_Pf P) : zCT m_τ m_ty (mJ P) mc_198 := zchk_ok m_T (m_Jf h) m_OK0 (fun k hk => by
  simp only [List.mem_cons, List.not_mem_nil, or_false] at hk
  rcases hk with rfl | rfl
  · exact mt_32 h
  · exact mt_197 h) mk_198
theorem mt_199 {P : iv_H → Prop} (h : m_Pf P) : zCT m_τ m_ty (mJ P) mc_199 := zchk_ok m_T (m_Jf h) m_OK0 (fun k hk => by rw [List.mem_singleton.mp hk]; exact mt_198 h) mk_199
theorem mt_200 {P : iv_H → Prop} (h : m_Pf P) : zCT m_τ m_ty (mJ P) mc_200 := zchk_ok m_T (m_Jf h) m_OK0 (fun k hk => by cases hk) mk_200
theorem mt_201 {P : iv_H → Prop} (h : m_Pf P) : zCT m_τ m_ty (mJ P) mc_201 := by
  refine zCT_un (n := 8) (J' := fun k => mJ (fun σ => P σ ∧ (mA σ 552 0).toInt = k)) (ck := fun k => match k with
    | 0 => ms238_0
    | 1 => ms238_1
    | 2 => ms238_2
    | 3 => ms238_3
    | 4 => ms238_4
    | 5 => ms238_5
    | 6 => ms238_6
    | _ => ms238_7) ?_ ?_ ?_ ?_
  · intro σ hI hJ
    obtain ⟨⟨b1, b2⟩, b3, b4⟩ := m_N hI
    exact ⟨(mA σ 552 0).toInt.toNat, by omega, hJ.1, hJ.2, (by show (mA σ 552 0).toInt = (((mA σ 552 0).toInt.toNat : Nat) : Int); omega)⟩
  · exact fun k σ hj => ⟨hj.1, hj.2.1⟩
  · intro k hk
    have hP := m_Jf (P := fun σ => P σ ∧ (mA σ 552 0).toInt = k) (m_Pand h (m_PfA (t := 74) (.inl (by decide)) (Q := fun f => (f 0).toInt = _)))
    have hc : k = 0 ∨ k = 1 ∨ k = 2 ∨ k = 3 ∨ k = 4 ∨ k = 5 ∨ k = 6 ∨ k = 7 := by omega
    rcases hc with rfl | rfl | rfl | rfl | rfl | rfl | rfl | rfl
    · exact zchk_ok m_T hP m_OKB (fun k hk => by cases hk) mq238_0
    · exact zchk_ok m_T hP m_OKB (fun k hk => by
      simp only [List.mem_cons, List.not_mem_nil, or_false] at hk
      rcases hk with rfl | rfl
      · exact mt_39 (m_Pand h (m_PfA (t := 74) (.inl (by decide)) (Q := fun f => (f 0).toInt = _)))
      · exact mt_38 (m_Pand h (m_PfA (t := 74) (.inl (by decide)) (Q := fun f => (f 0).toInt = _)))) mq238_1
    · exact zchk_ok m_T hP m_OKB (fun k hk => by
      simp only [List.mem_cons, List.not_mem_nil, or_false] at hk
      rcases hk with rfl | rfl
      · exact mt_39 (m_Pand h (m_PfA (t := 74) (.inl (by decide)) (Q := fun f => (f 0).toInt = _)))
      · exact mt_38 (m_Pand h (m_PfA (t := 74) (.inl (by decide)) (Q := fun f => (f 0).toInt = _)))) mq238_2
    · exact zchk_ok m_T hP m_OKB (fun k hk => by
      simp only [List.mem_cons, List.not_mem_nil, or_false] at hk
      rcases hk with rfl | rfl
      · exact mt_39 (m_Pand h (m_PfA (t := 74) (.inl (by decide)) (Q := fun f => (f 0).toInt = _)))
      · exact mt_38 (m_Pand h (m_PfA (t := 74) (.inl (by decide)) (Q := fun f => (f 0).toInt = _)))) mq238_3
    · exact zchk_ok m_T hP m_OKB (fun k hk => by
      simp only [List.mem_cons, List.not_mem_nil, or_false] at hk
      rcases hk with rfl | rfl
      · exact mt_39 (m_Pand h (m_PfA (t := 74) (.inl (by decide)) (Q := fun f => (f 0).toInt = _)))
      · exact mt_38 (m_Pand h (m_PfA (t := 74) (.inl (by decide)) (Q := fun f => (f 0).toInt = _)))) mq238_4
    · exact zchk_ok m_T hP m_OKB (fun k hk => by
      simp only [List.mem_cons, List.not_mem_nil, or_false] at hk
      rcases hk with rfl | rfl
      · exact mt_39 (m_Pand h (m_PfA (t := 74) (.inl (by decide)) (Q := fun f => (f 0).toInt = _)))
      · exact mt_38 (m_Pand h (m_PfA (t := 74) (.inl (by decide)) (Q := fun f => (f 0).toInt = _)))) mq238_5
    · exact zchk_ok m_T hP m_OKB (fun k hk => by
      simp only [List.mem_cons, List.not_mem_nil, or_false] at hk
      rcases hk with rfl | rfl
      · exact mt_39 (m_Pand h (m_PfA (t := 74) (.inl (by decide)) (Q := fun f => (f 0).toInt = _)))
      · exact mt_38 (m_Pand h (m_PfA (t := 74) (.inl (by decide)) (Q := fun f => (f 0).toInt = _)))) mq238_6
    · exact zchk_ok m_T hP m_OKB (fun k hk => by
      simp only [List.mem_cons, List.not_mem_nil, or_false] at hk
      rcases hk with rfl | rfl
      · exact mt_39 (m_Pand h (m_PfA (t := 74) (.inl (by decide)) (Q := fun f => (f 0).toInt = _)))
      · exact mt_38 (m_Pand h (m_PfA (t := 74) (.inl (by decide)) (Q := fun f => (f 0).toInt = _)))) mq238_7
  · intro k hk
    have hc : k = 0 ∨ k = 1 ∨ k = 2 ∨ k = 3 ∨ k = 4 ∨ k = 5 ∨ k = 6 ∨ k = 7 := by omega
    rcases hc with rfl | rfl | rfl | rfl | rfl | rfl | rfl | rfl <;> exact ⟨rfl, rfl, rfl, rfl, rfl, rfl⟩
theorem mt_202 {P : iv_H → Prop} (h : m_Pf P) : zCT m_τ m_ty (mJ P) mc_202 := by
  refine zCT_un (n := 7) (J' := fun k => mJ (fun σ => P σ ∧ (mA σ 552 1).toInt = k)) (ck := fun k => match k with
    | 0 => ms239_0
    | 1 => ms239_1
    | 2 => ms239_2
    | 3 => ms239_3
    | 4 => ms239_4
    | 5 => ms239_5
    | _ => ms239_6) ?_ ?_ ?_ ?_
  · intro σ hI hJ
    obtain ⟨⟨b1, b2⟩, b3, b4⟩ := m_N hI
    exact ⟨(mA σ 552 1).toInt.toNat, by omega, hJ.1, hJ.2, (by show (mA σ 552 1).toInt = (((mA σ 552 1).toInt.toNat : Nat) : Int); omega)⟩
  · exact fun k σ hj => ⟨hj.1, hj.2.1⟩
  · intro k hk
    have hP := m_Jf (P := fun σ => P σ ∧ (mA σ 552 1).toInt = k) (m_Pand h (m_PfA (t := 74) (.inl (by decide)) (Q := fun f => (f 1).toInt = _)))
    have hc : k = 0 ∨ k = 1 ∨ k = 2 ∨ k = 3 ∨ k = 4 ∨ k = 5 ∨ k = 6 := by omega
    rcases hc with rfl | rfl | rfl | rfl | rfl | rfl | rfl
    · exact zchk_ok m_T hP m_OKK (fun k hk => by rw [List.mem_singleton.mp hk]; exact mt_201 (m_Pand h (m_PfA (t := 74) (.inl (by decide)) (Q := fun f => (f 1).toInt = _)))) mq239_0
    · exact zchk_ok m_T hP m_OKK (fun k hk => by
      simp only [List.mem_cons, List.not_mem_nil, or_false] at hk
      rcases hk with rfl | rfl
      · exact mt_39 (m_Pand h (m_PfA (t := 74) (.inl (by decide)) (Q := fun f => (f 1).toInt = _)))
      · exact mt_201 (m_Pand h (m_PfA (t := 74) (.inl (by decide)) (Q := fun f => (f 1).toInt = _)))) mq239_1
    · exact zchk_ok m_T hP m_OKK (fun k hk => by
      simp only [List.mem_cons, List.not_mem_nil, or_false] at hk
      rcases hk with rfl | rfl
      · exact mt_39 (m_Pand h (m_PfA (t := 74) (.inl (by decide)) (Q := fun f => (f 1).toInt = _)))
      · exact mt_201 (m_Pand h (m_PfA (t := 74) (.inl (by decide)) (Q := fun f => (f 1).toInt = _)))) mq239_2
    · exact zchk_ok m_T hP m_OKK (fun k hk => by
      simp only [List.mem_cons, List.not_mem_nil, or_false] at hk
      rcases hk with rfl | rfl
      · exact mt_39 (m_Pand h (m_PfA (t := 74) (.inl (by decide)) (Q := fun f => (f 1).toInt = _)))
      · exact mt_201 (m_Pand h (m_PfA (t := 74) (.inl (by decide)) (Q := fun f => (f 1).toInt = _)))) mq239_3
    · exact zchk_ok m_T hP m_OKK (fun k hk => by
      simp only [List.mem_cons, List.not_mem_nil, or_false] at hk
      rcases hk with rfl | rfl
      · exact mt_39 (m_Pand h (m_PfA (t := 74) (.inl (by decide)) (Q := fun f => (f 1).toInt = _)))
      · exact mt_201 (m_Pand h (m_PfA (t := 74) (.inl (by decide)) (Q := fun f => (f 1).toInt = _)))) mq239_4
    · exact zchk_ok m_T hP m_OKK (fun k hk => by
      simp only [List.mem_cons, List.not_mem_nil, or_false] at hk
      rcases hk with rfl | rfl
      · exact mt_39 (m_Pand h (m_PfA (t := 74) (.inl (by decide)) (Q := fun f => (f 1).toInt = _)))
      · exact mt_201 (m_Pand h (m_PfA (t := 74) (.inl (by decide)) (Q := fun f => (f 1).toInt = _)))) mq239_5
    · exact zchk_ok m_T hP m_OKK (fun k hk => by
      simp only [List.mem_cons, List.not_mem_nil, or_false] at hk
      rcases hk with rfl | rfl
      · exact mt_39 (m_Pand h (m_PfA (t := 74) (.inl (by decide)) (Q := fun f => (f 1).toInt = _)))
      · exact mt_201 (m_Pand h (m_PfA (t := 74) (.inl (by decide)) (Q := fun f => (f 1).toInt = _)))) mq239_6
  · intro k hk
    have hc : k = 0 ∨ k = 1 ∨ k = 2 ∨ k = 3 ∨ k = 4 ∨ k = 5 ∨ k = 6 := by omega
    rcases hc with rfl | rfl | rfl | rfl | rfl | rfl | rfl <;> exact ⟨rfl, rfl, rfl, rfl, rfl, rfl⟩
