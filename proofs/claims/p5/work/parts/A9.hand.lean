/-! ===== the reference: undo, image, restore come back ===== -/
theorem mt_und : zCT m_τ m_ty (mJ hT) (hi_c 219 0 [(0, 12, 0), (0, 12, 24), (1, 74, 3800374)] ([((0, 0, 0, 0), (24, 0, 1000))], [])) := hi_ok m_und_H
theorem mt_img : zCT m_τ m_ty (mJ hT) (hi_c 280 1 [(0, 12, 0), (1, 76, 0), (1, 81, 0), (1, 82, 0)] ([((0, 0, 0, 0), (24, 0, 1000)), ((0, 1, 0, 0), (0, (-2147483648), 2147483647))], [])) := hi_ok (fun L xs d lv σ ρ hd hI hJ hP => by
  obtain ⟨d', rfl⟩ : ∃ e, d = e + 1 := ⟨d - 1, by omega⟩
  obtain ⟨v, l1, _⟩ := m_intl hP (i := 1) rfl
  obtain ⟨r, σ', g1, g2, g3, g4, g5⟩ := m_img_H L xs d' lv σ v hI hJ.1 (m_this (lo := 0) (hi := 0) hP (i := 0) rfl) l1
  refine ⟨r, σ', g1, ?_, g3, ⟨g4, trivial⟩, g5⟩
  rcases g2 with ⟨_, rfl, _⟩ | ⟨q, _, _, rfl, _⟩
  · exact ⟨_, rfl⟩
  · exact ⟨_, rfl⟩)
theorem mt_rst : zCT m_τ m_ty (mJ hT) (hi_c 281 1 [(0, 12, 0), (0, 12, 24), (1, 74, 0), (1, 79, 0)] ([((0, 0, 0, 0), (24, 0, 1000)), ((0, 1, 0, 0), (0, (-2147483648), 2147483647))], [])) := hi_ok (fun L xs d lv σ ρ hd hI hJ hP => by
  obtain ⟨d', rfl⟩ : ∃ e, d = e + 1 := ⟨d - 1, by omega⟩
  obtain ⟨v, l1, _⟩ := m_intl hP (i := 1) rfl
  obtain ⟨r, σ', g1, g2, g3, g4, g5⟩ := m_rst_H L xs d' lv σ v hI hJ.1 (m_this (lo := 0) (hi := 0) hP (i := 0) rfl) l1
  refine ⟨r, σ', g1, ?_, g3, ⟨g4, trivial⟩, g5⟩
  rcases g2 with ⟨_, rfl⟩ | ⟨q, _, _, _, rfl⟩
  · exact ⟨_, rfl⟩
  · exact ⟨_, rfl⟩)
