noncomputable def sgC (mc mm : Nat) (as : List Value) : Bool := match iv_run 0 sgz 20000 20 mc 0 (lv_args 0 (.ref 0 :: as)) [] sg2 with
  | some (some (.int r), σ3) => (match iv_run 0 sgz 20000 20 mm 0 (lv_args 0 (.ref 548 :: as)) [] σ3 with
    | some (some (.int r2), σ4) => decide (r = r2) && (decide (σ4.1 = 297) && decide (σ4.2.2 ≤ 100000))
    | _ => false)
  | _ => false
