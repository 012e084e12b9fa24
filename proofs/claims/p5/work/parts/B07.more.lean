/-! ===== wide loads have far entries, Strings near ones ===== -/
def iv_lx (i : Instr) : Bool := match i with
  | .ldc_w k => Nat.ble 256 k
  | _ => true
def iv_lxM (M : Nat) : Bool := (iv_m M).2.2.2.2.all fun q => iv_lx q.2.1
set_option maxRecDepth 100000 in
theorem iv_lw : (List.range (iv_n + 1)).all iv_lxM = true := by decide +kernel
theorem iv_lw_any {M : Nat} (h : M ≤ iv_n) : iv_lxM M = true := List.all_eq_true.mp iv_lw M (List.mem_range.mpr (Nat.lt_succ_of_le h))
def iv_q2 (q : Nat × Value × Nat) : Bool := match q.2.1 with
  | .ref _ => Nat.blt q.1 256
  | _ => true
theorem iv_q256 : ∀ o ∈ iv_owns, (iv_qs o).all iv_q2 = true := by decide +kernel
