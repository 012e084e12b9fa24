/-! ===== printed by wip/gen/emit3.py: certificates of the reference ===== -/
/-- M.holds 14; class 0 -/
def mc_173 : zct := (278, 204, [], (0, ([((0, 0, 0, 0), (24, 0, 1000)), ((0, 1, 0, 0), (0, 0, 14)), ((0, 2, 0, 0), (0, 0, 6))], []), (1, []), []), [], [([((3, 0, 0, 0), (0, 0, 1))], [])])
theorem mk_173 : zchk m_τ m_ty m_sf m_oc0 [mc_32, mc_172] m_inl 4000 mc_173 = true := by decide +kernel
/-- M.holds 15; class 0 -/
def mc_174 : zct := (278, 216, [], (0, ([((0, 0, 0, 0), (24, 0, 1000)), ((0, 1, 0, 0), (0, 0, 15)), ((0, 2, 0, 0), (0, 0, 6))], []), (1, []), []), [], [([((3, 0, 0, 0), (0, 0, 1))], [])])
theorem mk_174 : zchk m_τ m_ty m_sf m_oc0 [mc_32, mc_173] m_inl 4000 mc_174 = true := by decide +kernel
/-- M.holds 16; class 0 -/
def mc_175 : zct := (278, 228, [], (0, ([((0, 0, 0, 0), (24, 0, 1000)), ((0, 1, 0, 0), (0, 0, 16)), ((0, 2, 0, 0), (0, 0, 6))], []), (1, []), []), [], [([((3, 0, 0, 0), (0, 0, 1))], [])])
theorem mk_175 : zchk m_τ m_ty m_sf m_oc0 [mc_32, mc_174] m_inl 4000 mc_175 = true := by decide +kernel
/-- M.holds 17; class 0 -/
def mc_176 : zct := (278, 240, [], (0, ([((0, 0, 0, 0), (24, 0, 1000)), ((0, 1, 0, 0), (0, 0, 17)), ((0, 2, 0, 0), (0, 0, 6))], []), (1, []), []), [], [([((3, 0, 0, 0), (0, 0, 1))], [])])
theorem mk_176 : zchk m_τ m_ty m_sf m_oc0 [mc_32, mc_175] m_inl 4000 mc_176 = true := by decide +kernel
/-- M.holds 18; class 0 -/
def mc_177 : zct := (278, 252, [], (0, ([((0, 0, 0, 0), (24, 0, 1000)), ((0, 1, 0, 0), (0, 0, 18)), ((0, 2, 0, 0), (0, 0, 6))], []), (1, []), []), [], [([((3, 0, 0, 0), (0, 0, 1))], [])])
theorem mk_177 : zchk m_τ m_ty m_sf m_oc0 [mc_32, mc_176] m_inl 4000 mc_177 = true := by decide +kernel
