/-! ===== the reference: the book's own contracts (printed by wip/gen/gen_a4.py), the book from 25 on ===== -/
theorem mw_0 {P : iv_H → Prop} (h : m_Pf P) : zCT m_τ m_ty (mJ P) mb_0 := zchk_ok m_T (m_Jf h) m_OK0 (fun k hk => by cases hk) mv_0
theorem mw_1 {P : iv_H → Prop} (h : m_Pf P) : zCT m_τ m_ty (mJ P) mb_1 := zchk_ok m_T (m_Jf h) m_OK0 (fun k hk => by cases hk) mv_1
theorem mw_2 {P : iv_H → Prop} (h : m_Pf P) : zCT m_τ m_ty (mJ P) mb_2 := zchk_ok m_T (m_Jf h) m_OK0 (fun k hk => by
  simp only [List.mem_cons, List.not_mem_nil, or_false] at hk
  rcases hk with rfl
  exact mw_1 h) mv_2
theorem mw_3 {P : iv_H → Prop} (h : m_Pf P) : zCT m_τ m_ty (mJ P) mb_3 := zchk_ok m_T (m_Jf h) m_OK0 (fun k hk => by cases hk) mv_3
theorem mw_4 {P : iv_H → Prop} (h : m_Pf P) : zCT m_τ m_ty (mJ P) mb_4 := zchk_ok m_T (m_Jf h) m_OK0 (fun k hk => by
  simp only [List.mem_cons, List.not_mem_nil, or_false] at hk
  rcases hk with rfl | rfl
  · exact mw_0 h
  · exact mw_3 h) mv_4
theorem mw_5 {P : iv_H → Prop} (h : m_Pf P) : zCT m_τ m_ty (mJ P) mb_5 := zchk_ok m_T (m_Jf h) m_OK0 (fun k hk => by
  simp only [List.mem_cons, List.not_mem_nil, or_false] at hk
  rcases hk with rfl | rfl
  · exact mw_0 h
  · exact mw_3 h) mv_5
theorem mw_6 {P : iv_H → Prop} (h : m_Pf P) : zCT m_τ m_ty (mJ P) mb_6 := zchk_ok m_T (m_Jf h) m_OK0 (fun k hk => by cases hk) mv_6
theorem mw_7 {P : iv_H → Prop} (h : m_Pf P) : zCT m_τ m_ty (mJ P) mb_7 := zchk_ok m_T (m_Jf h) m_OK0 (fun k hk => by
  simp only [List.mem_cons, List.not_mem_nil, or_false] at hk
  rcases hk with rfl | rfl
  · exact mw_0 h
  · exact mw_6 h) mv_7
theorem mw_8 {P : iv_H → Prop} (h : m_Pf P) : zCT m_τ m_ty (mJ P) mb_8 := zchk_ok m_T (m_Jf h) m_OK0 (fun k hk => by cases hk) mv_8
theorem mw_9 {P : iv_H → Prop} (h : m_Pf P) : zCT m_τ m_ty (mJ P) mb_9 := zchk_ok m_T (m_Jf h) m_OK0 (fun k hk => by
  simp only [List.mem_cons, List.not_mem_nil, or_false] at hk
  rcases hk with rfl | rfl | rfl | rfl
  · exact mw_0 h
  · exact mw_2 h
  · exact mw_3 h
  · exact mw_8 h) mv_9
theorem mw_10 {P : iv_H → Prop} (h : m_Pf P) : zCT m_τ m_ty (mJ P) mb_10 := zchk_ok m_T (m_Jf h) m_OK0 (fun k hk => by cases hk) mv_10
theorem mw_11 {P : iv_H → Prop} (h : m_Pf P) : zCT m_τ m_ty (mJ P) mb_11 := zchk_ok m_T (m_Jf h) m_OK0 (fun k hk => by
  simp only [List.mem_cons, List.not_mem_nil, or_false] at hk
  rcases hk with rfl | rfl | rfl | rfl
  · exact mw_0 h
  · exact mw_2 h
  · exact mw_3 h
  · exact mw_10 h) mv_11
theorem mw_12 {P : iv_H → Prop} (h : m_Pf P) : zCT m_τ m_ty (mJ P) mb_12 := zchk_ok m_T (m_Jf h) m_OK0 (fun k hk => by
  simp only [List.mem_cons, List.not_mem_nil, or_false] at hk
  rcases hk with rfl | rfl | rfl
  · exact mw_0 h
  · exact mw_1 h
  · exact mw_3 h) mv_12
theorem m_bk25_H (L : Nat) (xs : Nat → Int32) (d : Nat) (clv : iv_L) (σ : iv_H) (ρ : Nat → Int) (hd : 90 ≤ d) (hI : zI m_τ m_ty σ) (hJ : mJ hT σ) (hP : zP_ok m_τ (fun _ => 0) clv none σ ([((0, 0, 0, 0), (24, 0, 1000)), ((0, 1, 0, 0), (0, 0, 1))], []) ρ) : zGo L xs (fun r σ' => (∃ x : Int32, r = some (.int x)) ∧ zI m_τ m_ty σ' ∧ mJ hT σ' ∧ zFr m_τ [(0, 12, 5), (0, 12, 6), (0, 12, 7), (0, 12, 8), (0, 12, 9), (0, 12, 10), (0, 12, 11), (0, 12, 12), (0, 12, 13), (0, 12, 24), (0, 12, 42), (0, 12, 43), (1, 74, 3800374), (1, 77, 0), (1, 78, 0), (1, 91, 0), (1, 92, 0)] σ σ') [] d 266 25 clv [] σ := by
  have l0 := m_this (lo := 0) (hi := 0) hP (i := 0) rfl
  obtain ⟨fs, ho, mo, _⟩ := mO_of hI
  refine w_A f266_25 l0 ?_
  refine w_K f266_26 ?_
  refine w_pf f266_27 ho rfl (by have := mo.1; omega) ?_
  have h1 := mD_put2 (e2 := .inr (12, fs.set 42 (.int (Int32.ofNat 0)))) ho
  have hI1 := mD_zI hI h1 (m_zo hI ho (lo := 0) (hi := 40) rfl (by decide) (by decide))
  have e42 : iv_nth (fs.set 42 (.int (Int32.ofNat 0))) 42 = some (.int (Int32.ofNat 0)) := by rw [iv_nth_set, if_pos ⟨rfl, by have := mo.1; omega⟩]
  have aa : ∀ {c : Nat}, c ≠ 548 → mA (iv_put σ 548 (.inr (12, fs.set 42 (.int (Int32.ofNat 0))))) c = mA σ c := fun b => mD_A (x := none) h1 b
  have hJ1 : m_Jb (iv_put σ 548 (.inr (12, fs.set 42 (.int (Int32.ofNat 0))))) := m_Je ⟨_, h1.2.1⟩ (aa (by decide)) (aa (by decide)) (aa (by decide)) (aa (by decide)) (aa (by decide)) (aa (by decide)) (aa (by decide)) rfl (mF_ne ho h1.2.1 (by decide)) hJ.1
  have hF0 : mF (iv_put σ 548 (.inr (12, fs.set 42 (.int (Int32.ofNat 0))))) 42 = 0 := hF_of h1.2.1 e42
  have hL1 : pL (iv_put σ 548 (.inr (12, fs.set 42 (.int (Int32.ofNat 0))))) := ⟨⟨_, h1.2.1⟩, by
    rw [hF0]
    intro r hr
    omega⟩
  have hP1 : zP_ok m_τ (fun _ => 0) clv none (iv_put σ 548 (.inr (12, fs.set 42 (.int (Int32.ofNat 0))))) ([((0, 0, 0, 0), (24, 0, 1000)), ((0, 1, 0, 0), (0, 0, 1)), ((1, 0, 12, 42), (0, 0, 40))], []) (fun i => if i = 2 then 0 else ρ i) := by
    refine ⟨fun s c h => ?_, fun f hf => (by cases hf), fun i b c h => ?_⟩
    · match s, h with
      | 0, h => cases h; exact hP.1 0 _ rfl
      | 1, h => cases h; exact hP.1 1 _ rfl
      | 2, h => cases h; exact ⟨by show (0 : Int) ≤ 0; omega, by show (0 : Int) ≤ 40; omega, fun h9 => by have h9 : 2 ≤ 0 := h9; omega⟩
      | s + 3, h => cases h
    · match i, h with
      | 0, h => cases h; exact hP.2.2 0 _ _ rfl
      | 1, h => cases h; exact hP.2.2 1 _ _ rfl
      | 2, h => cases h; exact ⟨548, _, _, l0, h1.2.1, e42, _, rfl, rfl⟩
      | i + 3, h => cases h
  show zGo L xs _ [] d 266 30 clv [] _
  obtain ⟨r2, σ2, u1, u2⟩ := zchkT_ok (t := (30, _)) m_T (m_Jf (m_Psand pL_s hT_s).1) m_OKL (fun k hk => by
    simp only [List.mem_cons, List.not_mem_nil, or_false] at hk
    rcases hk with rfl | rfl | rfl | rfl | rfl | rfl | rfl | rfl | rfl | rfl
    · exact mw_0 (m_Psand pL_s hT_s).1
    · exact mw_1 (m_Psand pL_s hT_s).1
    · exact mw_2 (m_Psand pL_s hT_s).1
    · exact mw_3 (m_Psand pL_s hT_s).1
    · exact mw_4 (m_Psand pL_s hT_s).1
    · exact mw_5 (m_Psand pL_s hT_s).1
    · exact mw_7 (m_Psand pL_s hT_s).1
    · exact mw_9 (m_Psand pL_s hT_s).1
    · exact mw_11 (m_Psand pL_s hT_s).1
    · exact mw_12 (m_Psand pL_s hT_s).1) mv_13 (List.mem_cons_self) rfl L xs d clv _ _ hd hI1 ⟨hJ1, hL1, trivial⟩ hP1
  exact ⟨r2, σ2, u1, m_post u2 rfl (fun h => ⟨h.1, trivial⟩) (mD_zFf ho h1 rfl) (by decide)⟩
