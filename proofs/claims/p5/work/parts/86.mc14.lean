/-! ===== printed by wip/gen/emit3.py: certificates of the reference ===== -/
/-- M.holds 34; class 0 -/
def mc_193 : zct := (278, 444, [], (0, ([((0, 0, 0, 0), (24, 0, 1000)), ((0, 1, 0, 0), (0, 0, 34)), ((0, 2, 0, 0), (0, 0, 6))], []), (1, []), []), [], [([((3, 0, 0, 0), (0, 0, 1))], [])])
theorem mk_193 : zchk m_τ m_ty m_sf m_oc0 [mc_32, mc_192] m_inl 4000 mc_193 = true := by decide +kernel
/-- M.holds 35; class 0 -/
def mc_194 : zct := (278, 456, [], (0, ([((0, 0, 0, 0), (24, 0, 1000)), ((0, 1, 0, 0), (0, 0, 35)), ((0, 2, 0, 0), (0, 0, 6))], []), (1, []), []), [], [([((3, 0, 0, 0), (0, 0, 1))], [])])
theorem mk_194 : zchk m_τ m_ty m_sf m_oc0 [mc_32, mc_193] m_inl 4000 mc_194 = true := by decide +kernel
/-- M.holds 36; class 0 -/
def mc_195 : zct := (278, 468, [], (0, ([((0, 0, 0, 0), (24, 0, 1000)), ((0, 1, 0, 0), (0, 0, 36)), ((0, 2, 0, 0), (0, 0, 6))], []), (1, []), []), [], [([((3, 0, 0, 0), (0, 0, 1))], [])])
theorem mk_195 : zchk m_τ m_ty m_sf m_oc0 [mc_32, mc_194] m_inl 4000 mc_195 = true := by decide +kernel
/-- M.holds 37; class 0 -/
def mc_196 : zct := (278, 480, [], (0, ([((0, 0, 0, 0), (24, 0, 1000)), ((0, 1, 0, 0), (0, 0, 37)), ((0, 2, 0, 0), (0, 0, 6))], []), (1, []), []), [], [([((3, 0, 0, 0), (0, 0, 1))], [])])
theorem mk_196 : zchk m_τ m_ty m_sf m_oc0 [mc_32, mc_195] m_inl 4000 mc_196 = true := by decide +kernel
/-- M.holds 38; class 0 -/
def mc_197 : zct := (278, 492, [], (0, ([((0, 0, 0, 0), (24, 0, 1000)), ((0, 1, 0, 0), (0, 0, 38)), ((0, 2, 0, 0), (0, 0, 6))], []), (1, []), []), [], [([((3, 0, 0, 0), (0, 0, 1))], [])])
theorem mk_197 : zchk m_τ m_ty m_sf m_oc0 [mc_32, mc_196] m_inl 4000 mc_197 = true := by decide +kernel
