theorem iv_cok_all (m : Nat) (h : m < iv_n) : iv_cok m = true := sorry
theorem iv_cok_law : iv_cok iv_n = true := sorry
