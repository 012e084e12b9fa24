/-! ===== printed by wip/gen/emit3.py: certificates of the reference ===== -/
/-- M.holds 29; class 0 -/
def mc_188 : zct := (278, 384, [], (0, ([((0, 0, 0, 0), (24, 0, 1000)), ((0, 1, 0, 0), (0, 0, 29)), ((0, 2, 0, 0), (0, 0, 6))], []), (1, []), []), [], [([((3, 0, 0, 0), (0, 0, 1))], [])])
theorem mk_188 : zchk m_τ m_ty m_sf m_oc0 [mc_32, mc_187] m_inl 4000 mc_188 = true := by decide +kernel
/-- M.holds 30; class 0 -/
def mc_189 : zct := (278, 396, [], (0, ([((0, 0, 0, 0), (24, 0, 1000)), ((0, 1, 0, 0), (0, 0, 30)), ((0, 2, 0, 0), (0, 0, 6))], []), (1, []), []), [], [([((3, 0, 0, 0), (0, 0, 1))], [])])
theorem mk_189 : zchk m_τ m_ty m_sf m_oc0 [mc_32, mc_188] m_inl 4000 mc_189 = true := by decide +kernel
/-- M.holds 31; class 0 -/
def mc_190 : zct := (278, 408, [], (0, ([((0, 0, 0, 0), (24, 0, 1000)), ((0, 1, 0, 0), (0, 0, 31)), ((0, 2, 0, 0), (0, 0, 6))], []), (1, []), []), [], [([((3, 0, 0, 0), (0, 0, 1))], [])])
theorem mk_190 : zchk m_τ m_ty m_sf m_oc0 [mc_32, mc_189] m_inl 4000 mc_190 = true := by decide +kernel
/-- M.holds 32; class 0 -/
def mc_191 : zct := (278, 420, [], (0, ([((0, 0, 0, 0), (24, 0, 1000)), ((0, 1, 0, 0), (0, 0, 32)), ((0, 2, 0, 0), (0, 0, 6))], []), (1, []), []), [], [([((3, 0, 0, 0), (0, 0, 1))], [])])
theorem mk_191 : zchk m_τ m_ty m_sf m_oc0 [mc_32, mc_190] m_inl 4000 mc_191 = true := by decide +kernel
/-- M.holds 33; class 0 -/
def mc_192 : zct := (278, 432, [], (0, ([((0, 0, 0, 0), (24, 0, 1000)), ((0, 1, 0, 0), (0, 0, 33)), ((0, 2, 0, 0), (0, 0, 6))], []), (1, []), []), [], [([((3, 0, 0, 0), (0, 0, 1))], [])])
theorem mk_192 : zchk m_τ m_ty m_sf m_oc0 [mc_32, mc_191] m_inl 4000 mc_192 = true := by decide +kernel
