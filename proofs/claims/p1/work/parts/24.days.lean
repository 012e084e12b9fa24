/-! ===== days(n), n from 1 to 60 ===== -/
set_option maxRecDepth 100000 in
theorem sgC_d0 : [(129, 223, [.int 1]), (129, 223, [.int 2]), (129, 223, [.int 3]), (129, 223, [.int 4])].all (fun q => sgC q.1 q.2.1 q.2.2) = true := by decide +kernel
set_option maxRecDepth 100000 in
theorem sgC_d1 : [(129, 223, [.int 5]), (129, 223, [.int 6]), (129, 223, [.int 7]), (129, 223, [.int 8])].all (fun q => sgC q.1 q.2.1 q.2.2) = true := by decide +kernel
set_option maxRecDepth 100000 in
theorem sgC_d2 : [(129, 223, [.int 9]), (129, 223, [.int 10]), (129, 223, [.int 11]), (129, 223, [.int 12])].all (fun q => sgC q.1 q.2.1 q.2.2) = true := by decide +kernel
set_option maxRecDepth 100000 in
theorem sgC_d3 : [(129, 223, [.int 13]), (129, 223, [.int 14]), (129, 223, [.int 15]), (129, 223, [.int 16])].all (fun q => sgC q.1 q.2.1 q.2.2) = true := by decide +kernel
set_option maxRecDepth 100000 in
theorem sgC_d4 : [(129, 223, [.int 17]), (129, 223, [.int 18]), (129, 223, [.int 19]), (129, 223, [.int 20])].all (fun q => sgC q.1 q.2.1 q.2.2) = true := by decide +kernel
set_option maxRecDepth 100000 in
theorem sgC_d5 : [(129, 223, [.int 21]), (129, 223, [.int 22]), (129, 223, [.int 23]), (129, 223, [.int 24])].all (fun q => sgC q.1 q.2.1 q.2.2) = true := by decide +kernel
set_option maxRecDepth 100000 in
theorem sgC_d6 : [(129, 223, [.int 25]), (129, 223, [.int 26]), (129, 223, [.int 27]), (129, 223, [.int 28])].all (fun q => sgC q.1 q.2.1 q.2.2) = true := by decide +kernel
set_option maxRecDepth 100000 in
theorem sgC_d7 : [(129, 223, [.int 29]), (129, 223, [.int 30]), (129, 223, [.int 31]), (129, 223, [.int 32])].all (fun q => sgC q.1 q.2.1 q.2.2) = true := by decide +kernel
set_option maxRecDepth 100000 in
theorem sgC_d8 : [(129, 223, [.int 33]), (129, 223, [.int 34]), (129, 223, [.int 35]), (129, 223, [.int 36])].all (fun q => sgC q.1 q.2.1 q.2.2) = true := by decide +kernel
set_option maxRecDepth 100000 in
theorem sgC_d9 : [(129, 223, [.int 37]), (129, 223, [.int 38]), (129, 223, [.int 39]), (129, 223, [.int 40])].all (fun q => sgC q.1 q.2.1 q.2.2) = true := by decide +kernel
set_option maxRecDepth 100000 in
theorem sgC_d10 : [(129, 223, [.int 41]), (129, 223, [.int 42]), (129, 223, [.int 43]), (129, 223, [.int 44])].all (fun q => sgC q.1 q.2.1 q.2.2) = true := by decide +kernel
set_option maxRecDepth 100000 in
theorem sgC_d11 : [(129, 223, [.int 45]), (129, 223, [.int 46]), (129, 223, [.int 47]), (129, 223, [.int 48])].all (fun q => sgC q.1 q.2.1 q.2.2) = true := by decide +kernel
set_option maxRecDepth 100000 in
theorem sgC_d12 : [(129, 223, [.int 49]), (129, 223, [.int 50]), (129, 223, [.int 51]), (129, 223, [.int 52])].all (fun q => sgC q.1 q.2.1 q.2.2) = true := by decide +kernel
set_option maxRecDepth 100000 in
theorem sgC_d13 : [(129, 223, [.int 53]), (129, 223, [.int 54]), (129, 223, [.int 55]), (129, 223, [.int 56])].all (fun q => sgC q.1 q.2.1 q.2.2) = true := by decide +kernel
set_option maxRecDepth 100000 in
theorem sgC_d14 : [(129, 223, [.int 57]), (129, 223, [.int 58]), (129, 223, [.int 59]), (129, 223, [.int 60])].all (fun q => sgC q.1 q.2.1 q.2.2) = true := by decide +kernel
theorem sgC_days (n : Nat) (h1 : 1 ≤ n) (h2 : n ≤ 60) : sgC 129 223 [.int (nI n)] = true := by
  by_cases g0 : n ≤ 4
  · have q := List.all_eq_true.mp sgC_d0 (129, 223, [.int (nI n)]) (by
      rcases (show n = 1 ∨ n = 2 ∨ n = 3 ∨ n = 4 by omega) with rfl | rfl | rfl | rfl
      all_goals decide +kernel)
    exact q
  by_cases g1 : n ≤ 8
  · have q := List.all_eq_true.mp sgC_d1 (129, 223, [.int (nI n)]) (by
      rcases (show n = 5 ∨ n = 6 ∨ n = 7 ∨ n = 8 by omega) with rfl | rfl | rfl | rfl
      all_goals decide +kernel)
    exact q
  by_cases g2 : n ≤ 12
  · have q := List.all_eq_true.mp sgC_d2 (129, 223, [.int (nI n)]) (by
      rcases (show n = 9 ∨ n = 10 ∨ n = 11 ∨ n = 12 by omega) with rfl | rfl | rfl | rfl
      all_goals decide +kernel)
    exact q
  by_cases g3 : n ≤ 16
  · have q := List.all_eq_true.mp sgC_d3 (129, 223, [.int (nI n)]) (by
      rcases (show n = 13 ∨ n = 14 ∨ n = 15 ∨ n = 16 by omega) with rfl | rfl | rfl | rfl
      all_goals decide +kernel)
    exact q
  by_cases g4 : n ≤ 20
  · have q := List.all_eq_true.mp sgC_d4 (129, 223, [.int (nI n)]) (by
      rcases (show n = 17 ∨ n = 18 ∨ n = 19 ∨ n = 20 by omega) with rfl | rfl | rfl | rfl
      all_goals decide +kernel)
    exact q
  by_cases g5 : n ≤ 24
  · have q := List.all_eq_true.mp sgC_d5 (129, 223, [.int (nI n)]) (by
      rcases (show n = 21 ∨ n = 22 ∨ n = 23 ∨ n = 24 by omega) with rfl | rfl | rfl | rfl
      all_goals decide +kernel)
    exact q
  by_cases g6 : n ≤ 28
  · have q := List.all_eq_true.mp sgC_d6 (129, 223, [.int (nI n)]) (by
      rcases (show n = 25 ∨ n = 26 ∨ n = 27 ∨ n = 28 by omega) with rfl | rfl | rfl | rfl
      all_goals decide +kernel)
    exact q
  by_cases g7 : n ≤ 32
  · have q := List.all_eq_true.mp sgC_d7 (129, 223, [.int (nI n)]) (by
      rcases (show n = 29 ∨ n = 30 ∨ n = 31 ∨ n = 32 by omega) with rfl | rfl | rfl | rfl
      all_goals decide +kernel)
    exact q
  by_cases g8 : n ≤ 36
  · have q := List.all_eq_true.mp sgC_d8 (129, 223, [.int (nI n)]) (by
      rcases (show n = 33 ∨ n = 34 ∨ n = 35 ∨ n = 36 by omega) with rfl | rfl | rfl | rfl
      all_goals decide +kernel)
    exact q
  by_cases g9 : n ≤ 40
  · have q := List.all_eq_true.mp sgC_d9 (129, 223, [.int (nI n)]) (by
      rcases (show n = 37 ∨ n = 38 ∨ n = 39 ∨ n = 40 by omega) with rfl | rfl | rfl | rfl
      all_goals decide +kernel)
    exact q
  by_cases g10 : n ≤ 44
  · have q := List.all_eq_true.mp sgC_d10 (129, 223, [.int (nI n)]) (by
      rcases (show n = 41 ∨ n = 42 ∨ n = 43 ∨ n = 44 by omega) with rfl | rfl | rfl | rfl
      all_goals decide +kernel)
    exact q
  by_cases g11 : n ≤ 48
  · have q := List.all_eq_true.mp sgC_d11 (129, 223, [.int (nI n)]) (by
      rcases (show n = 45 ∨ n = 46 ∨ n = 47 ∨ n = 48 by omega) with rfl | rfl | rfl | rfl
      all_goals decide +kernel)
    exact q
  by_cases g12 : n ≤ 52
  · have q := List.all_eq_true.mp sgC_d12 (129, 223, [.int (nI n)]) (by
      rcases (show n = 49 ∨ n = 50 ∨ n = 51 ∨ n = 52 by omega) with rfl | rfl | rfl | rfl
      all_goals decide +kernel)
    exact q
  by_cases g13 : n ≤ 56
  · have q := List.all_eq_true.mp sgC_d13 (129, 223, [.int (nI n)]) (by
      rcases (show n = 53 ∨ n = 54 ∨ n = 55 ∨ n = 56 by omega) with rfl | rfl | rfl | rfl
      all_goals decide +kernel)
    exact q
  by_cases g14 : n ≤ 60
  · have q := List.all_eq_true.mp sgC_d14 (129, 223, [.int (nI n)]) (by
      rcases (show n = 57 ∨ n = 58 ∨ n = 59 ∨ n = 60 by omega) with rfl | rfl | rfl | rfl
      all_goals decide +kernel)
    exact q
  omega
