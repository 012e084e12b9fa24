/-! ===== days(n) ===== -/
set_option maxRecDepth 100000 in
theorem sK_631_0 : ([(-2147483648, 0), (1, 1), (2, 2), (3, 3)] : List (Int32 × Int32)).all (fun q => sOK 631 q.1 q.2) = true := by decide +kernel
set_option maxRecDepth 100000 in
theorem sK_631_1 : ([(4, 4), (5, 5), (6, 6), (7, 7)] : List (Int32 × Int32)).all (fun q => sOK 631 q.1 q.2) = true := by decide +kernel
set_option maxRecDepth 100000 in
theorem sK_631_2 : ([(8, 8), (9, 9), (10, 10), (11, 11)] : List (Int32 × Int32)).all (fun q => sOK 631 q.1 q.2) = true := by decide +kernel
set_option maxRecDepth 100000 in
theorem sK_631_3 : ([(12, 12), (13, 13), (14, 14), (15, 15)] : List (Int32 × Int32)).all (fun q => sOK 631 q.1 q.2) = true := by decide +kernel
set_option maxRecDepth 100000 in
theorem sK_631_4 : ([(16, 16), (17, 17), (18, 18), (19, 19)] : List (Int32 × Int32)).all (fun q => sOK 631 q.1 q.2) = true := by decide +kernel
set_option maxRecDepth 100000 in
theorem sK_631_5 : ([(20, 20), (21, 21), (22, 22), (23, 23)] : List (Int32 × Int32)).all (fun q => sOK 631 q.1 q.2) = true := by decide +kernel
set_option maxRecDepth 100000 in
theorem sK_631_6 : ([(24, 24), (25, 25), (26, 26), (27, 27)] : List (Int32 × Int32)).all (fun q => sOK 631 q.1 q.2) = true := by decide +kernel
set_option maxRecDepth 100000 in
theorem sK_631_7 : ([(28, 28), (29, 29), (30, 30), (31, 31)] : List (Int32 × Int32)).all (fun q => sOK 631 q.1 q.2) = true := by decide +kernel
set_option maxRecDepth 100000 in
theorem sK_631_8 : ([(32, 32), (33, 33), (34, 34), (35, 35)] : List (Int32 × Int32)).all (fun q => sOK 631 q.1 q.2) = true := by decide +kernel
set_option maxRecDepth 100000 in
theorem sK_631_9 : ([(36, 36), (37, 37), (38, 38), (39, 39)] : List (Int32 × Int32)).all (fun q => sOK 631 q.1 q.2) = true := by decide +kernel
set_option maxRecDepth 100000 in
theorem sK_631_10 : ([(40, 40), (41, 41), (42, 42), (43, 43)] : List (Int32 × Int32)).all (fun q => sOK 631 q.1 q.2) = true := by decide +kernel
set_option maxRecDepth 100000 in
theorem sK_631_11 : ([(44, 44), (45, 45), (46, 46), (47, 47)] : List (Int32 × Int32)).all (fun q => sOK 631 q.1 q.2) = true := by decide +kernel
set_option maxRecDepth 100000 in
theorem sK_631_12 : ([(48, 48), (49, 49), (50, 50), (51, 51)] : List (Int32 × Int32)).all (fun q => sOK 631 q.1 q.2) = true := by decide +kernel
set_option maxRecDepth 100000 in
theorem sK_631_13 : ([(52, 52), (53, 53), (54, 54), (55, 55)] : List (Int32 × Int32)).all (fun q => sOK 631 q.1 q.2) = true := by decide +kernel
set_option maxRecDepth 100000 in
theorem sK_631_14 : ([(56, 56), (57, 57), (58, 58), (59, 59)] : List (Int32 × Int32)).all (fun q => sOK 631 q.1 q.2) = true := by decide +kernel
set_option maxRecDepth 100000 in
theorem sK_631_15 : ([(60, 60), (61, 2147483647)] : List (Int32 × Int32)).all (fun q => sOK 631 q.1 q.2) = true := by decide +kernel
theorem sD_631 (xs : Nat → Int32) : ∃ σ', iv_Rn 6 xs 21 iv_n 631 sgl [] sg2 (some (.int 1)) σ' ∧ σ'.1 = 297 ∧ σ'.2.2 ≤ 100000 := by
  refine sCase ([(-2147483648, 0), (1, 1), (2, 2), (3, 3)] ++ ([(4, 4), (5, 5), (6, 6), (7, 7)] ++ ([(8, 8), (9, 9), (10, 10), (11, 11)] ++ ([(12, 12), (13, 13), (14, 14), (15, 15)] ++ ([(16, 16), (17, 17), (18, 18), (19, 19)] ++ ([(20, 20), (21, 21), (22, 22), (23, 23)] ++ ([(24, 24), (25, 25), (26, 26), (27, 27)] ++ ([(28, 28), (29, 29), (30, 30), (31, 31)] ++ ([(32, 32), (33, 33), (34, 34), (35, 35)] ++ ([(36, 36), (37, 37), (38, 38), (39, 39)] ++ ([(40, 40), (41, 41), (42, 42), (43, 43)] ++ ([(44, 44), (45, 45), (46, 46), (47, 47)] ++ ([(48, 48), (49, 49), (50, 50), (51, 51)] ++ ([(52, 52), (53, 53), (54, 54), (55, 55)] ++ ([(56, 56), (57, 57), (58, 58), (59, 59)] ++ ([(60, 60), (61, 2147483647)])))))))))))))))) (by decide +kernel) ?_ xs
  simp only [List.all_append, Bool.and_eq_true]
  exact ⟨sK_631_0, sK_631_1, sK_631_2, sK_631_3, sK_631_4, sK_631_5, sK_631_6, sK_631_7, sK_631_8, sK_631_9, sK_631_10, sK_631_11, sK_631_12, sK_631_13, sK_631_14, sK_631_15⟩
