/-! ===== printed by wip/gen/emit3.py: certificates of the reference ===== -/
/-- M.holds 9; class 0 -/
def mc_168 : zct := (278, 144, [], (0, ([((0, 0, 0, 0), (24, 0, 1000)), ((0, 1, 0, 0), (0, 0, 9)), ((0, 2, 0, 0), (0, 0, 6))], []), (1, []), []), [], [([((3, 0, 0, 0), (0, 0, 1))], [])])
theorem mk_168 : zchk m_τ m_ty m_sf m_oc0 [mc_32, mc_167] m_inl 4000 mc_168 = true := by decide +kernel
/-- M.holds 10; class 0 -/
def mc_169 : zct := (278, 156, [], (0, ([((0, 0, 0, 0), (24, 0, 1000)), ((0, 1, 0, 0), (0, 0, 10)), ((0, 2, 0, 0), (0, 0, 6))], []), (1, []), []), [], [([((3, 0, 0, 0), (0, 0, 1))], [])])
theorem mk_169 : zchk m_τ m_ty m_sf m_oc0 [mc_32, mc_168] m_inl 4000 mc_169 = true := by decide +kernel
/-- M.holds 11; class 0 -/
def mc_170 : zct := (278, 168, [], (0, ([((0, 0, 0, 0), (24, 0, 1000)), ((0, 1, 0, 0), (0, 0, 11)), ((0, 2, 0, 0), (0, 0, 6))], []), (1, []), []), [], [([((3, 0, 0, 0), (0, 0, 1))], [])])
theorem mk_170 : zchk m_τ m_ty m_sf m_oc0 [mc_32, mc_169] m_inl 4000 mc_170 = true := by decide +kernel
/-- M.holds 12; class 0 -/
def mc_171 : zct := (278, 180, [], (0, ([((0, 0, 0, 0), (24, 0, 1000)), ((0, 1, 0, 0), (0, 0, 12)), ((0, 2, 0, 0), (0, 0, 6))], []), (1, []), []), [], [([((3, 0, 0, 0), (0, 0, 1))], [])])
theorem mk_171 : zchk m_τ m_ty m_sf m_oc0 [mc_32, mc_170] m_inl 4000 mc_171 = true := by decide +kernel
/-- M.holds 13; class 0 -/
def mc_172 : zct := (278, 192, [], (0, ([((0, 0, 0, 0), (24, 0, 1000)), ((0, 1, 0, 0), (0, 0, 13)), ((0, 2, 0, 0), (0, 0, 6))], []), (1, []), []), [], [([((3, 0, 0, 0), (0, 0, 1))], [])])
theorem mk_172 : zchk m_τ m_ty m_sf m_oc0 [mc_32, mc_171] m_inl 4000 mc_172 = true := by decide +kernel
