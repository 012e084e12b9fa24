/-! ===== printed by wip/gen/emit3.py: certificates of the reference ===== -/
/-- M.holds 24; class 0 -/
def mc_183 : zct := (278, 324, [], (0, ([((0, 0, 0, 0), (24, 0, 1000)), ((0, 1, 0, 0), (0, 0, 24)), ((0, 2, 0, 0), (0, 0, 6))], []), (1, []), []), [], [([((3, 0, 0, 0), (0, 0, 1))], [])])
theorem mk_183 : zchk m_τ m_ty m_sf m_oc0 [mc_32, mc_182] m_inl 4000 mc_183 = true := by decide +kernel
/-- M.holds 25; class 0 -/
def mc_184 : zct := (278, 336, [], (0, ([((0, 0, 0, 0), (24, 0, 1000)), ((0, 1, 0, 0), (0, 0, 25)), ((0, 2, 0, 0), (0, 0, 6))], []), (1, []), []), [], [([((3, 0, 0, 0), (0, 0, 1))], [])])
theorem mk_184 : zchk m_τ m_ty m_sf m_oc0 [mc_32, mc_183] m_inl 4000 mc_184 = true := by decide +kernel
/-- M.holds 26; class 0 -/
def mc_185 : zct := (278, 348, [], (0, ([((0, 0, 0, 0), (24, 0, 1000)), ((0, 1, 0, 0), (0, 0, 26)), ((0, 2, 0, 0), (0, 0, 6))], []), (1, []), []), [], [([((3, 0, 0, 0), (0, 0, 1))], [])])
theorem mk_185 : zchk m_τ m_ty m_sf m_oc0 [mc_32, mc_184] m_inl 4000 mc_185 = true := by decide +kernel
/-- M.holds 27; class 0 -/
def mc_186 : zct := (278, 360, [], (0, ([((0, 0, 0, 0), (24, 0, 1000)), ((0, 1, 0, 0), (0, 0, 27)), ((0, 2, 0, 0), (0, 0, 6))], []), (1, []), []), [], [([((3, 0, 0, 0), (0, 0, 1))], [])])
theorem mk_186 : zchk m_τ m_ty m_sf m_oc0 [mc_32, mc_185] m_inl 4000 mc_186 = true := by decide +kernel
/-- M.holds 28; class 0 -/
def mc_187 : zct := (278, 372, [], (0, ([((0, 0, 0, 0), (24, 0, 1000)), ((0, 1, 0, 0), (0, 0, 28)), ((0, 2, 0, 0), (0, 0, 6))], []), (1, []), []), [], [([((3, 0, 0, 0), (0, 0, 1))], [])])
theorem mk_187 : zchk m_τ m_ty m_sf m_oc0 [mc_32, mc_186] m_inl 4000 mc_187 = true := by decide +kernel
