/-! ===== printed by wip/gen/emit3.py: certificates of the reference ===== -/
/-- M.holds 19; class 0 -/
def mc_178 : zct := (278, 264, [], (0, ([((0, 0, 0, 0), (24, 0, 1000)), ((0, 1, 0, 0), (0, 0, 19)), ((0, 2, 0, 0), (0, 0, 6))], []), (1, []), []), [], [([((3, 0, 0, 0), (0, 0, 1))], [])])
theorem mk_178 : zchk m_τ m_ty m_sf m_oc0 [mc_32, mc_177] m_inl 4000 mc_178 = true := by decide +kernel
/-- M.holds 20; class 0 -/
def mc_179 : zct := (278, 276, [], (0, ([((0, 0, 0, 0), (24, 0, 1000)), ((0, 1, 0, 0), (0, 0, 20)), ((0, 2, 0, 0), (0, 0, 6))], []), (1, []), []), [], [([((3, 0, 0, 0), (0, 0, 1))], [])])
theorem mk_179 : zchk m_τ m_ty m_sf m_oc0 [mc_32, mc_178] m_inl 4000 mc_179 = true := by decide +kernel
/-- M.holds 21; class 0 -/
def mc_180 : zct := (278, 288, [], (0, ([((0, 0, 0, 0), (24, 0, 1000)), ((0, 1, 0, 0), (0, 0, 21)), ((0, 2, 0, 0), (0, 0, 6))], []), (1, []), []), [], [([((3, 0, 0, 0), (0, 0, 1))], [])])
theorem mk_180 : zchk m_τ m_ty m_sf m_oc0 [mc_32, mc_179] m_inl 4000 mc_180 = true := by decide +kernel
/-- M.holds 22; class 0 -/
def mc_181 : zct := (278, 300, [], (0, ([((0, 0, 0, 0), (24, 0, 1000)), ((0, 1, 0, 0), (0, 0, 22)), ((0, 2, 0, 0), (0, 0, 6))], []), (1, []), []), [], [([((3, 0, 0, 0), (0, 0, 1))], [])])
theorem mk_181 : zchk m_τ m_ty m_sf m_oc0 [mc_32, mc_180] m_inl 4000 mc_181 = true := by decide +kernel
/-- M.holds 23; class 0 -/
def mc_182 : zct := (278, 312, [], (0, ([((0, 0, 0, 0), (24, 0, 1000)), ((0, 1, 0, 0), (0, 0, 23)), ((0, 2, 0, 0), (0, 0, 6))], []), (1, []), []), [], [([((3, 0, 0, 0), (0, 0, 1))], [])])
theorem mk_182 : zchk m_τ m_ty m_sf m_oc0 [mc_32, mc_181] m_inl 4000 mc_182 = true := by decide +kernel
