/-! ===== printed by wip/gen/emit3.py: certificates of the reference ===== -/
/-- M.holds 4; class 0 -/
def mc_163 : zct := (278, 84, [], (0, ([((0, 0, 0, 0), (24, 0, 1000)), ((0, 1, 0, 0), (0, 0, 4)), ((0, 2, 0, 0), (0, 0, 6))], []), (1, []), []), [], [([((3, 0, 0, 0), (0, 0, 1))], [])])
theorem mk_163 : zchk m_τ m_ty m_sf m_oc0 [mc_32, mc_162] m_inl 4000 mc_163 = true := by decide +kernel
/-- M.holds 5; class 0 -/
def mc_164 : zct := (278, 96, [], (0, ([((0, 0, 0, 0), (24, 0, 1000)), ((0, 1, 0, 0), (0, 0, 5)), ((0, 2, 0, 0), (0, 0, 6))], []), (1, []), []), [], [([((3, 0, 0, 0), (0, 0, 1))], [])])
theorem mk_164 : zchk m_τ m_ty m_sf m_oc0 [mc_32, mc_163] m_inl 4000 mc_164 = true := by decide +kernel
/-- M.holds 6; class 0 -/
def mc_165 : zct := (278, 108, [], (0, ([((0, 0, 0, 0), (24, 0, 1000)), ((0, 1, 0, 0), (0, 0, 6)), ((0, 2, 0, 0), (0, 0, 6))], []), (1, []), []), [], [([((3, 0, 0, 0), (0, 0, 1))], [])])
theorem mk_165 : zchk m_τ m_ty m_sf m_oc0 [mc_32, mc_164] m_inl 4000 mc_165 = true := by decide +kernel
/-- M.holds 7; class 0 -/
def mc_166 : zct := (278, 120, [], (0, ([((0, 0, 0, 0), (24, 0, 1000)), ((0, 1, 0, 0), (0, 0, 7)), ((0, 2, 0, 0), (0, 0, 6))], []), (1, []), []), [], [([((3, 0, 0, 0), (0, 0, 1))], [])])
theorem mk_166 : zchk m_τ m_ty m_sf m_oc0 [mc_32, mc_165] m_inl 4000 mc_166 = true := by decide +kernel
/-- M.holds 8; class 0 -/
def mc_167 : zct := (278, 132, [], (0, ([((0, 0, 0, 0), (24, 0, 1000)), ((0, 1, 0, 0), (0, 0, 8)), ((0, 2, 0, 0), (0, 0, 6))], []), (1, []), []), [], [([((3, 0, 0, 0), (0, 0, 1))], [])])
theorem mk_167 : zchk m_τ m_ty m_sf m_oc0 [mc_32, mc_166] m_inl 4000 mc_167 = true := by decide +kernel
