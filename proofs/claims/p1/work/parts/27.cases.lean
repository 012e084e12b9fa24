/-! ===== the commands but feed, brother, days, time ===== -/
set_option maxRecDepth 100000 in
theorem sK_277 : ([(-2147483648, -1), (0, 0), (1, 2147483647)] : List (Int32 × Int32)).all (fun q => sOK 277 q.1 q.2) = true := by decide +kernel
theorem sD_277 (xs : Nat → Int32) : ∃ σ', iv_Rn 6 xs 21 iv_n 277 sgl [] sg2 (some (.int 1)) σ' ∧ σ'.1 = 297 ∧ σ'.2.2 ≤ 100000 := sCase _ (by decide +kernel) sK_277 xs
set_option maxRecDepth 100000 in
theorem sK_302 : ([(-2147483648, 2147483647)] : List (Int32 × Int32)).all (fun q => sOK 302 q.1 q.2) = true := by decide +kernel
theorem sD_302 (xs : Nat → Int32) : ∃ σ', iv_Rn 6 xs 21 iv_n 302 sgl [] sg2 (some (.int 1)) σ' ∧ σ'.1 = 297 ∧ σ'.2.2 ≤ 100000 := sCase _ (by decide +kernel) sK_302 xs
set_option maxRecDepth 100000 in
theorem sK_315 : ([(-2147483648, 2147483647)] : List (Int32 × Int32)).all (fun q => sOK 315 q.1 q.2) = true := by decide +kernel
theorem sD_315 (xs : Nat → Int32) : ∃ σ', iv_Rn 6 xs 21 iv_n 315 sgl [] sg2 (some (.int 1)) σ' ∧ σ'.1 = 297 ∧ σ'.2.2 ≤ 100000 := sCase _ (by decide +kernel) sK_315 xs
set_option maxRecDepth 100000 in
theorem sK_396 : ([(-2147483648, -1), (0, 2147483647)] : List (Int32 × Int32)).all (fun q => sOK 396 q.1 q.2) = true := by decide +kernel
theorem sD_396 (xs : Nat → Int32) : ∃ σ', iv_Rn 6 xs 21 iv_n 396 sgl [] sg2 (some (.int 1)) σ' ∧ σ'.1 = 297 ∧ σ'.2.2 ≤ 100000 := sCase _ (by decide +kernel) sK_396 xs
set_option maxRecDepth 100000 in
theorem sK_433 : ([(-2147483648, -1), (0, 0), (1, 1), (2, 2), (3, 3), (4, 4), (5, 5), (6, 6), (7, 7), (8, 2147483647)] : List (Int32 × Int32)).all (fun q => sOK 433 q.1 q.2) = true := by decide +kernel
theorem sD_433 (xs : Nat → Int32) : ∃ σ', iv_Rn 6 xs 21 iv_n 433 sgl [] sg2 (some (.int 1)) σ' ∧ σ'.1 = 297 ∧ σ'.2.2 ≤ 100000 := sCase _ (by decide +kernel) sK_433 xs
set_option maxRecDepth 100000 in
theorem sK_458 : ([(-2147483648, -1), (0, 2147483647)] : List (Int32 × Int32)).all (fun q => sOK 458 q.1 q.2) = true := by decide +kernel
theorem sD_458 (xs : Nat → Int32) : ∃ σ', iv_Rn 6 xs 21 iv_n 458 sgl [] sg2 (some (.int 1)) σ' ∧ σ'.1 = 297 ∧ σ'.2.2 ≤ 100000 := sCase _ (by decide +kernel) sK_458 xs
set_option maxRecDepth 100000 in
theorem sK_507 : ([(-2147483648, -1), (0, 2147483647)] : List (Int32 × Int32)).all (fun q => sOK 507 q.1 q.2) = true := by decide +kernel
theorem sD_507 (xs : Nat → Int32) : ∃ σ', iv_Rn 6 xs 21 iv_n 507 sgl [] sg2 (some (.int 1)) σ' ∧ σ'.1 = 297 ∧ σ'.2.2 ≤ 100000 := sCase _ (by decide +kernel) sK_507 xs
set_option maxRecDepth 100000 in
theorem sK_544 : ([(-2147483648, -1), (0, 2147483647)] : List (Int32 × Int32)).all (fun q => sOK 544 q.1 q.2) = true := by decide +kernel
theorem sD_544 (xs : Nat → Int32) : ∃ σ', iv_Rn 6 xs 21 iv_n 544 sgl [] sg2 (some (.int 1)) σ' ∧ σ'.1 = 297 ∧ σ'.2.2 ≤ 100000 := sCase _ (by decide +kernel) sK_544 xs
set_option maxRecDepth 100000 in
theorem sK_569 : ([(-2147483648, -1), (0, 2147483647)] : List (Int32 × Int32)).all (fun q => sOK 569 q.1 q.2) = true := by decide +kernel
theorem sD_569 (xs : Nat → Int32) : ∃ σ', iv_Rn 6 xs 21 iv_n 569 sgl [] sg2 (some (.int 1)) σ' ∧ σ'.1 = 297 ∧ σ'.2.2 ≤ 100000 := sCase _ (by decide +kernel) sK_569 xs
set_option maxRecDepth 100000 in
theorem sK_606 : ([(-2147483648, -1), (0, 2147483647)] : List (Int32 × Int32)).all (fun q => sOK 606 q.1 q.2) = true := by decide +kernel
theorem sD_606 (xs : Nat → Int32) : ∃ σ', iv_Rn 6 xs 21 iv_n 606 sgl [] sg2 (some (.int 1)) σ' ∧ σ'.1 = 297 ∧ σ'.2.2 ≤ 100000 := sCase _ (by decide +kernel) sK_606 xs
set_option maxRecDepth 100000 in
theorem sK_656 : ([(-2147483648, 2147483647)] : List (Int32 × Int32)).all (fun q => sOK 656 q.1 q.2) = true := by decide +kernel
theorem sD_656 (xs : Nat → Int32) : ∃ σ', iv_Rn 6 xs 21 iv_n 656 sgl [] sg2 (some (.int 1)) σ' ∧ σ'.1 = 297 ∧ σ'.2.2 ≤ 100000 := sCase _ (by decide +kernel) sK_656 xs
set_option maxRecDepth 100000 in
theorem sK_669 : ([(-2147483648, -1), (0, 2147483647)] : List (Int32 × Int32)).all (fun q => sOK 669 q.1 q.2) = true := by decide +kernel
theorem sD_669 (xs : Nat → Int32) : ∃ σ', iv_Rn 6 xs 21 iv_n 669 sgl [] sg2 (some (.int 1)) σ' ∧ σ'.1 = 297 ∧ σ'.2.2 ≤ 100000 := sCase _ (by decide +kernel) sK_669 xs
set_option maxRecDepth 100000 in
theorem sK_718 : ([(-2147483648, -1), (0, 2147483647)] : List (Int32 × Int32)).all (fun q => sOK 718 q.1 q.2) = true := by decide +kernel
theorem sD_718 (xs : Nat → Int32) : ∃ σ', iv_Rn 6 xs 21 iv_n 718 sgl [] sg2 (some (.int 1)) σ' ∧ σ'.1 = 297 ∧ σ'.2.2 ≤ 100000 := sCase _ (by decide +kernel) sK_718 xs
set_option maxRecDepth 100000 in
theorem sK_755 : ([(-2147483648, 2147483647)] : List (Int32 × Int32)).all (fun q => sOK 755 q.1 q.2) = true := by decide +kernel
theorem sD_755 (xs : Nat → Int32) : ∃ σ', iv_Rn 6 xs 21 iv_n 755 sgl [] sg2 (some (.int 1)) σ' ∧ σ'.1 = 297 ∧ σ'.2.2 ≤ 100000 := sCase _ (by decide +kernel) sK_755 xs
set_option maxRecDepth 100000 in
theorem sK_780 : ([(-2147483648, 2147483647)] : List (Int32 × Int32)).all (fun q => sOK 780 q.1 q.2) = true := by decide +kernel
theorem sD_780 (xs : Nat → Int32) : ∃ σ', iv_Rn 6 xs 21 iv_n 780 sgl [] sg2 (some (.int 1)) σ' ∧ σ'.1 = 297 ∧ σ'.2.2 ≤ 100000 := sCase _ (by decide +kernel) sK_780 xs
set_option maxRecDepth 100000 in
theorem sK_793 : ([(-2147483648, -1), (0, 2147483647)] : List (Int32 × Int32)).all (fun q => sOK 793 q.1 q.2) = true := by decide +kernel
theorem sD_793 (xs : Nat → Int32) : ∃ σ', iv_Rn 6 xs 21 iv_n 793 sgl [] sg2 (some (.int 1)) σ' ∧ σ'.1 = 297 ∧ σ'.2.2 ≤ 100000 := sCase _ (by decide +kernel) sK_793 xs
set_option maxRecDepth 100000 in
theorem sK_818 : ([(-2147483648, 2147483647)] : List (Int32 × Int32)).all (fun q => sOK 818 q.1 q.2) = true := by decide +kernel
theorem sD_818 (xs : Nat → Int32) : ∃ σ', iv_Rn 6 xs 21 iv_n 818 sgl [] sg2 (some (.int 1)) σ' ∧ σ'.1 = 297 ∧ σ'.2.2 ≤ 100000 := sCase _ (by decide +kernel) sK_818 xs
set_option maxRecDepth 100000 in
theorem sK_831 : ([(-2147483648, 2147483647)] : List (Int32 × Int32)).all (fun q => sOK 831 q.1 q.2) = true := by decide +kernel
theorem sD_831 (xs : Nat → Int32) : ∃ σ', iv_Rn 6 xs 21 iv_n 831 sgl [] sg2 (some (.int 1)) σ' ∧ σ'.1 = 297 ∧ σ'.2.2 ≤ 100000 := sCase _ (by decide +kernel) sK_831 xs
set_option maxRecDepth 100000 in
theorem sK_844 : ([(-2147483648, -1), (0, 2147483647)] : List (Int32 × Int32)).all (fun q => sOK 844 q.1 q.2) = true := by decide +kernel
theorem sD_844 (xs : Nat → Int32) : ∃ σ', iv_Rn 6 xs 21 iv_n 844 sgl [] sg2 (some (.int 1)) σ' ∧ σ'.1 = 297 ∧ σ'.2.2 ≤ 100000 := sCase _ (by decide +kernel) sK_844 xs
set_option maxRecDepth 100000 in
theorem sK_869 : ([(-2147483648, -1), (0, 2147483647)] : List (Int32 × Int32)).all (fun q => sOK 869 q.1 q.2) = true := by decide +kernel
theorem sD_869 (xs : Nat → Int32) : ∃ σ', iv_Rn 6 xs 21 iv_n 869 sgl [] sg2 (some (.int 1)) σ' ∧ σ'.1 = 297 ∧ σ'.2.2 ≤ 100000 := sCase _ (by decide +kernel) sK_869 xs
set_option maxRecDepth 100000 in
theorem sK_962 : ([(-2147483648, -1), (0, 2147483647)] : List (Int32 × Int32)).all (fun q => sOK 962 q.1 q.2) = true := by decide +kernel
theorem sD_962 (xs : Nat → Int32) : ∃ σ', iv_Rn 6 xs 21 iv_n 962 sgl [] sg2 (some (.int 1)) σ' ∧ σ'.1 = 297 ∧ σ'.2.2 ≤ 100000 := sCase _ (by decide +kernel) sK_962 xs
set_option maxRecDepth 100000 in
theorem sK_999 : ([(-2147483648, -1), (0, 2147483647)] : List (Int32 × Int32)).all (fun q => sOK 999 q.1 q.2) = true := by decide +kernel
theorem sD_999 (xs : Nat → Int32) : ∃ σ', iv_Rn 6 xs 21 iv_n 999 sgl [] sg2 (some (.int 1)) σ' ∧ σ'.1 = 297 ∧ σ'.2.2 ≤ 100000 := sCase _ (by decide +kernel) sK_999 xs
set_option maxRecDepth 100000 in
theorem sK_1024 : ([(-2147483648, -1), (0, 2147483647)] : List (Int32 × Int32)).all (fun q => sOK 1024 q.1 q.2) = true := by decide +kernel
theorem sD_1024 (xs : Nat → Int32) : ∃ σ', iv_Rn 6 xs 21 iv_n 1024 sgl [] sg2 (some (.int 1)) σ' ∧ σ'.1 = 297 ∧ σ'.2.2 ≤ 100000 := sCase _ (by decide +kernel) sK_1024 xs
set_option maxRecDepth 100000 in
theorem sK_1049 : ([(-2147483648, -1), (0, 2147483647)] : List (Int32 × Int32)).all (fun q => sOK 1049 q.1 q.2) = true := by decide +kernel
theorem sD_1049 (xs : Nat → Int32) : ∃ σ', iv_Rn 6 xs 21 iv_n 1049 sgl [] sg2 (some (.int 1)) σ' ∧ σ'.1 = 297 ∧ σ'.2.2 ≤ 100000 := sCase _ (by decide +kernel) sK_1049 xs
set_option maxRecDepth 100000 in
theorem sK_1074 : ([(-2147483648, 0), (1, 60), (61, 2147483647)] : List (Int32 × Int32)).all (fun q => sOK 1074 q.1 q.2) = true := by decide +kernel
theorem sD_1074 (xs : Nat → Int32) : ∃ σ', iv_Rn 6 xs 21 iv_n 1074 sgl [] sg2 (some (.int 1)) σ' ∧ σ'.1 = 297 ∧ σ'.2.2 ≤ 100000 := sCase _ (by decide +kernel) sK_1074 xs
set_option maxRecDepth 100000 in
theorem sK_1111 : ([(-2147483648, -1), (0, 2147483647)] : List (Int32 × Int32)).all (fun q => sOK 1111 q.1 q.2) = true := by decide +kernel
theorem sD_1111 (xs : Nat → Int32) : ∃ σ', iv_Rn 6 xs 21 iv_n 1111 sgl [] sg2 (some (.int 1)) σ' ∧ σ'.1 = 297 ∧ σ'.2.2 ≤ 100000 := sCase _ (by decide +kernel) sK_1111 xs
set_option maxRecDepth 100000 in
theorem sK_1160 : ([(-2147483648, -1), (0, 0), (1, 1), (2, 2147483647)] : List (Int32 × Int32)).all (fun q => sOK 1160 q.1 q.2) = true := by decide +kernel
theorem sD_1160 (xs : Nat → Int32) : ∃ σ', iv_Rn 6 xs 21 iv_n 1160 sgl [] sg2 (some (.int 1)) σ' ∧ σ'.1 = 297 ∧ σ'.2.2 ≤ 100000 := sCase _ (by decide +kernel) sK_1160 xs
set_option maxRecDepth 100000 in
theorem sK_1185 : ([(-2147483648, -1), (0, 0), (1, 1), (2, 2), (3, 3), (4, 2147483647)] : List (Int32 × Int32)).all (fun q => sOK 1185 q.1 q.2) = true := by decide +kernel
theorem sD_1185 (xs : Nat → Int32) : ∃ σ', iv_Rn 6 xs 21 iv_n 1185 sgl [] sg2 (some (.int 1)) σ' ∧ σ'.1 = 297 ∧ σ'.2.2 ≤ 100000 := sCase _ (by decide +kernel) sK_1185 xs
set_option maxRecDepth 100000 in
theorem sK_1210 : ([(-2147483648, 2147483647)] : List (Int32 × Int32)).all (fun q => sOK 1210 q.1 q.2) = true := by decide +kernel
theorem sD_1210 (xs : Nat → Int32) : ∃ σ', iv_Rn 6 xs 21 iv_n 1210 sgl [] sg2 (some (.int 1)) σ' ∧ σ'.1 = 297 ∧ σ'.2.2 ≤ 100000 := sCase _ (by decide +kernel) sK_1210 xs
set_option maxRecDepth 100000 in
theorem sK_1223 : ([(-2147483648, 2147483647)] : List (Int32 × Int32)).all (fun q => sOK 1223 q.1 q.2) = true := by decide +kernel
theorem sD_1223 (xs : Nat → Int32) : ∃ σ', iv_Rn 6 xs 21 iv_n 1223 sgl [] sg2 (some (.int 1)) σ' ∧ σ'.1 = 297 ∧ σ'.2.2 ≤ 100000 := sCase _ (by decide +kernel) sK_1223 xs
set_option maxRecDepth 100000 in
theorem sK_1248 : ([(-2147483648, -1), (0, 0), (1, 1), (2, 2147483647)] : List (Int32 × Int32)).all (fun q => sOK 1248 q.1 q.2) = true := by decide +kernel
theorem sD_1248 (xs : Nat → Int32) : ∃ σ', iv_Rn 6 xs 21 iv_n 1248 sgl [] sg2 (some (.int 1)) σ' ∧ σ'.1 = 297 ∧ σ'.2.2 ≤ 100000 := sCase _ (by decide +kernel) sK_1248 xs
set_option maxRecDepth 100000 in
theorem sK_1273 : ([(-2147483648, -1), (0, 0), (1, 1), (2, 2147483647)] : List (Int32 × Int32)).all (fun q => sOK 1273 q.1 q.2) = true := by decide +kernel
theorem sD_1273 (xs : Nat → Int32) : ∃ σ', iv_Rn 6 xs 21 iv_n 1273 sgl [] sg2 (some (.int 1)) σ' ∧ σ'.1 = 297 ∧ σ'.2.2 ≤ 100000 := sCase _ (by decide +kernel) sK_1273 xs
set_option maxRecDepth 100000 in
theorem sK_1298 : ([(-2147483648, -1), (0, 0), (1, 1), (2, 2), (3, 3), (4, 4), (5, 2147483647)] : List (Int32 × Int32)).all (fun q => sOK 1298 q.1 q.2) = true := by decide +kernel
theorem sD_1298 (xs : Nat → Int32) : ∃ σ', iv_Rn 6 xs 21 iv_n 1298 sgl [] sg2 (some (.int 1)) σ' ∧ σ'.1 = 297 ∧ σ'.2.2 ≤ 100000 := sCase _ (by decide +kernel) sK_1298 xs
