/-! each method's code is decoded as its rows say -/
set_option maxRecDepth 100000 in
theorem iv_cok_0 : (List.range' 0 20).all iv_cok = true := by decide +kernel
set_option maxRecDepth 100000 in
theorem iv_cok_1 : (List.range' 20 20).all iv_cok = true := by decide +kernel
set_option maxRecDepth 100000 in
theorem iv_cok_2 : (List.range' 40 20).all iv_cok = true := by decide +kernel
set_option maxRecDepth 100000 in
theorem iv_cok_3 : (List.range' 60 20).all iv_cok = true := by decide +kernel
set_option maxRecDepth 100000 in
theorem iv_cok_4 : (List.range' 80 20).all iv_cok = true := by decide +kernel
set_option maxRecDepth 100000 in
theorem iv_cok_5 : (List.range' 100 20).all iv_cok = true := by decide +kernel
set_option maxRecDepth 100000 in
theorem iv_cok_6 : (List.range' 120 20).all iv_cok = true := by decide +kernel
set_option maxRecDepth 100000 in
theorem iv_cok_7 : (List.range' 140 20).all iv_cok = true := by decide +kernel
set_option maxRecDepth 100000 in
theorem iv_cok_8 : (List.range' 160 20).all iv_cok = true := by decide +kernel
set_option maxRecDepth 100000 in
theorem iv_cok_9 : (List.range' 180 20).all iv_cok = true := by decide +kernel
set_option maxRecDepth 100000 in
theorem iv_cok_10 : (List.range' 200 20).all iv_cok = true := by decide +kernel
set_option maxRecDepth 100000 in
theorem iv_cok_11 : (List.range' 220 20).all iv_cok = true := by decide +kernel
set_option maxRecDepth 100000 in
theorem iv_cok_12 : (List.range' 240 20).all iv_cok = true := by decide +kernel
set_option maxRecDepth 100000 in
theorem iv_cok_13 : (List.range' 260 20).all iv_cok = true := by decide +kernel
set_option maxRecDepth 100000 in
theorem iv_cok_14 : (List.range' 280 5).all iv_cok = true := by decide +kernel
theorem iv_cok_all (m : Nat) (h : m < iv_n) : iv_cok m = true := by
  have h : m < 285 := h
  by_cases h0 : m < 20
  · exact List.all_eq_true.mp iv_cok_0 m (List.mem_range'_1.mpr ⟨by omega, by omega⟩)
  by_cases h1 : m < 40
  · exact List.all_eq_true.mp iv_cok_1 m (List.mem_range'_1.mpr ⟨by omega, by omega⟩)
  by_cases h2 : m < 60
  · exact List.all_eq_true.mp iv_cok_2 m (List.mem_range'_1.mpr ⟨by omega, by omega⟩)
  by_cases h3 : m < 80
  · exact List.all_eq_true.mp iv_cok_3 m (List.mem_range'_1.mpr ⟨by omega, by omega⟩)
  by_cases h4 : m < 100
  · exact List.all_eq_true.mp iv_cok_4 m (List.mem_range'_1.mpr ⟨by omega, by omega⟩)
  by_cases h5 : m < 120
  · exact List.all_eq_true.mp iv_cok_5 m (List.mem_range'_1.mpr ⟨by omega, by omega⟩)
  by_cases h6 : m < 140
  · exact List.all_eq_true.mp iv_cok_6 m (List.mem_range'_1.mpr ⟨by omega, by omega⟩)
  by_cases h7 : m < 160
  · exact List.all_eq_true.mp iv_cok_7 m (List.mem_range'_1.mpr ⟨by omega, by omega⟩)
  by_cases h8 : m < 180
  · exact List.all_eq_true.mp iv_cok_8 m (List.mem_range'_1.mpr ⟨by omega, by omega⟩)
  by_cases h9 : m < 200
  · exact List.all_eq_true.mp iv_cok_9 m (List.mem_range'_1.mpr ⟨by omega, by omega⟩)
  by_cases h10 : m < 220
  · exact List.all_eq_true.mp iv_cok_10 m (List.mem_range'_1.mpr ⟨by omega, by omega⟩)
  by_cases h11 : m < 240
  · exact List.all_eq_true.mp iv_cok_11 m (List.mem_range'_1.mpr ⟨by omega, by omega⟩)
  by_cases h12 : m < 260
  · exact List.all_eq_true.mp iv_cok_12 m (List.mem_range'_1.mpr ⟨by omega, by omega⟩)
  by_cases h13 : m < 280
  · exact List.all_eq_true.mp iv_cok_13 m (List.mem_range'_1.mpr ⟨by omega, by omega⟩)
  by_cases h14 : m < 285
  · exact List.all_eq_true.mp iv_cok_14 m (List.mem_range'_1.mpr ⟨by omega, by omega⟩)
  omega
set_option maxRecDepth 100000 in
theorem iv_ckl_0 : iv_kl0.all (fun q => decide (decode code q.1 = .ok (q.2.1, q.2.2)) && iv_lnok q.2.1 q.2.2) = true := by decide +kernel
set_option maxRecDepth 100000 in
theorem iv_ckl_1 : iv_kl1.all (fun q => decide (decode code q.1 = .ok (q.2.1, q.2.2)) && iv_lnok q.2.1 q.2.2) = true := by decide +kernel
set_option maxRecDepth 100000 in
theorem iv_ckl_2 : iv_kl2.all (fun q => decide (decode code q.1 = .ok (q.2.1, q.2.2)) && iv_lnok q.2.1 q.2.2) = true := by decide +kernel
set_option maxRecDepth 100000 in
theorem iv_ckl_3 : iv_kl3.all (fun q => decide (decode code q.1 = .ok (q.2.1, q.2.2)) && iv_lnok q.2.1 q.2.2) = true := by decide +kernel
set_option maxRecDepth 100000 in
theorem iv_ckl_4 : iv_kl4.all (fun q => decide (decode code q.1 = .ok (q.2.1, q.2.2)) && iv_lnok q.2.1 q.2.2) = true := by decide +kernel
set_option maxRecDepth 100000 in
theorem iv_ckl_5 : iv_kl5.all (fun q => decide (decode code q.1 = .ok (q.2.1, q.2.2)) && iv_lnok q.2.1 q.2.2) = true := by decide +kernel
set_option maxRecDepth 100000 in
theorem iv_ckl_6 : iv_kl6.all (fun q => decide (decode code q.1 = .ok (q.2.1, q.2.2)) && iv_lnok q.2.1 q.2.2) = true := by decide +kernel
set_option maxRecDepth 100000 in
theorem iv_ckl_7 : iv_kl7.all (fun q => decide (decode code q.1 = .ok (q.2.1, q.2.2)) && iv_lnok q.2.1 q.2.2) = true := by decide +kernel
set_option maxRecDepth 100000 in
theorem iv_ckl_8 : iv_kl8.all (fun q => decide (decode code q.1 = .ok (q.2.1, q.2.2)) && iv_lnok q.2.1 q.2.2) = true := by decide +kernel
set_option maxRecDepth 100000 in
theorem iv_ckl_9 : iv_kl9.all (fun q => decide (decode code q.1 = .ok (q.2.1, q.2.2)) && iv_lnok q.2.1 q.2.2) = true := by decide +kernel
set_option maxRecDepth 100000 in
theorem iv_ckl_10 : iv_kl10.all (fun q => decide (decode code q.1 = .ok (q.2.1, q.2.2)) && iv_lnok q.2.1 q.2.2) = true := by decide +kernel
set_option maxRecDepth 100000 in
theorem iv_ckl_11 : iv_kl11.all (fun q => decide (decode code q.1 = .ok (q.2.1, q.2.2)) && iv_lnok q.2.1 q.2.2) = true := by decide +kernel
set_option maxRecDepth 100000 in
theorem iv_ckl_12 : iv_kl12.all (fun q => decide (decode code q.1 = .ok (q.2.1, q.2.2)) && iv_lnok q.2.1 q.2.2) = true := by decide +kernel
set_option maxRecDepth 100000 in
theorem iv_ckl_13 : iv_kl13.all (fun q => decide (decode code q.1 = .ok (q.2.1, q.2.2)) && iv_lnok q.2.1 q.2.2) = true := by decide +kernel
set_option maxRecDepth 100000 in
theorem iv_ckl_14 : iv_kl14.all (fun q => decide (decode code q.1 = .ok (q.2.1, q.2.2)) && iv_lnok q.2.1 q.2.2) = true := by decide +kernel
set_option maxRecDepth 100000 in
theorem iv_ckl_15 : iv_kl15.all (fun q => decide (decode code q.1 = .ok (q.2.1, q.2.2)) && iv_lnok q.2.1 q.2.2) = true := by decide +kernel
set_option maxRecDepth 100000 in
theorem iv_ckl_16 : iv_kl16.all (fun q => decide (decode code q.1 = .ok (q.2.1, q.2.2)) && iv_lnok q.2.1 q.2.2) = true := by decide +kernel
set_option maxRecDepth 100000 in
theorem iv_ckl_17 : iv_kl17.all (fun q => decide (decode code q.1 = .ok (q.2.1, q.2.2)) && iv_lnok q.2.1 q.2.2) = true := by decide +kernel
set_option maxRecDepth 100000 in
theorem iv_ckl_18 : iv_kl18.all (fun q => decide (decode code q.1 = .ok (q.2.1, q.2.2)) && iv_lnok q.2.1 q.2.2) = true := by decide +kernel
set_option maxRecDepth 100000 in
theorem iv_ckl_19 : iv_kl19.all (fun q => decide (decode code q.1 = .ok (q.2.1, q.2.2)) && iv_lnok q.2.1 q.2.2) = true := by decide +kernel
theorem iv_cok_law : iv_cok iv_n = true := by
  show (iv_kl0 ++ (iv_kl1 ++ (iv_kl2 ++ (iv_kl3 ++ (iv_kl4 ++ (iv_kl5 ++ (iv_kl6 ++ (iv_kl7 ++ (iv_kl8 ++ (iv_kl9 ++ (iv_kl10 ++ (iv_kl11 ++ (iv_kl12 ++ (iv_kl13 ++ (iv_kl14 ++ (iv_kl15 ++ (iv_kl16 ++ (iv_kl17 ++ (iv_kl18 ++ (iv_kl19)))))))))))))))))))).all (fun q => decide (decode code q.1 = .ok (q.2.1, q.2.2)) && iv_lnok q.2.1 q.2.2) = true
  simp only [List.all_append, iv_ckl_0, iv_ckl_1, iv_ckl_2, iv_ckl_3, iv_ckl_4, iv_ckl_5, iv_ckl_6, iv_ckl_7, iv_ckl_8, iv_ckl_9, iv_ckl_10, iv_ckl_11, iv_ckl_12, iv_ckl_13, iv_ckl_14, iv_ckl_15, iv_ckl_16, iv_ckl_17, iv_ckl_18, iv_ckl_19, Bool.and_self]
