set_option maxRecDepth 100000 in
theorem iv_ckl_0 : iv_kl0.all (fun q => decide (decode code q.1 = .ok (q.2.1, q.2.2)) && iv_lnok q.2.1 q.2.2) = true := by decide +kernel
set_option maxRecDepth 100000 in
theorem iv_ckl_1 : iv_kl1.all (fun q => decide (decode code q.1 = .ok (q.2.1, q.2.2)) && iv_lnok q.2.1 q.2.2) = true := by decide +kernel
set_option maxRecDepth 100000 in
theorem iv_ckl_2 : iv_kl2.all (fun q => decide (decode code q.1 = .ok (q.2.1, q.2.2)) && iv_lnok q.2.1 q.2.2) = true := by decide +kernel
set_option maxRecDepth 100000 in
theorem iv_ckl_3 : iv_kl3.all (fun q => decide (decode code q.1 = .ok (q.2.1, q.2.2)) && iv_lnok q.2.1 q.2.2) = true := by decide +kernel
set_option maxRecDepth 100000 in
theorem iv_ckl_4 : iv_kl4.all (fun q => decide (decode code q.1 = .ok (q.2.1, q.2.2)) && iv_lnok q.2.1 q.2.2) = true := by decide +kernel
set_option maxRecDepth 100000 in
theorem iv_ckl_5 : iv_kl5.all (fun q => decide (decode code q.1 = .ok (q.2.1, q.2.2)) && iv_lnok q.2.1 q.2.2) = true := by decide +kernel
set_option maxRecDepth 100000 in
theorem iv_ckl_6 : iv_kl6.all (fun q => decide (decode code q.1 = .ok (q.2.1, q.2.2)) && iv_lnok q.2.1 q.2.2) = true := by decide +kernel
set_option maxRecDepth 100000 in
theorem iv_ckl_7 : iv_kl7.all (fun q => decide (decode code q.1 = .ok (q.2.1, q.2.2)) && iv_lnok q.2.1 q.2.2) = true := by decide +kernel
set_option maxRecDepth 100000 in
theorem iv_ckl_8 : iv_kl8.all (fun q => decide (decode code q.1 = .ok (q.2.1, q.2.2)) && iv_lnok q.2.1 q.2.2) = true := by decide +kernel
set_option maxRecDepth 100000 in
theorem iv_ckl_9 : iv_kl9.all (fun q => decide (decode code q.1 = .ok (q.2.1, q.2.2)) && iv_lnok q.2.1 q.2.2) = true := by decide +kernel
set_option maxRecDepth 100000 in
theorem iv_ckl_10 : iv_kl10.all (fun q => decide (decode code q.1 = .ok (q.2.1, q.2.2)) && iv_lnok q.2.1 q.2.2) = true := by decide +kernel
set_option maxRecDepth 100000 in
theorem iv_ckl_11 : iv_kl11.all (fun q => decide (decode code q.1 = .ok (q.2.1, q.2.2)) && iv_lnok q.2.1 q.2.2) = true := by decide +kernel
set_option maxRecDepth 100000 in
theorem iv_ckl_12 : iv_kl12.all (fun q => decide (decode code q.1 = .ok (q.2.1, q.2.2)) && iv_lnok q.2.1 q.2.2) = true := by decide +kernel
set_option maxRecDepth 100000 in
theorem iv_ckl_13 : iv_kl13.all (fun q => decide (decode code q.1 = .ok (q.2.1, q.2.2)) && iv_lnok q.2.1 q.2.2) = true := by decide +kernel
set_option maxRecDepth 100000 in
theorem iv_ckl_14 : iv_kl14.all (fun q => decide (decode code q.1 = .ok (q.2.1, q.2.2)) && iv_lnok q.2.1 q.2.2) = true := by decide +kernel
set_option maxRecDepth 100000 in
theorem iv_ckl_15 : iv_kl15.all (fun q => decide (decode code q.1 = .ok (q.2.1, q.2.2)) && iv_lnok q.2.1 q.2.2) = true := by decide +kernel
set_option maxRecDepth 100000 in
theorem iv_ckl_16 : iv_kl16.all (fun q => decide (decode code q.1 = .ok (q.2.1, q.2.2)) && iv_lnok q.2.1 q.2.2) = true := by decide +kernel
set_option maxRecDepth 100000 in
theorem iv_ckl_17 : iv_kl17.all (fun q => decide (decode code q.1 = .ok (q.2.1, q.2.2)) && iv_lnok q.2.1 q.2.2) = true := by decide +kernel
set_option maxRecDepth 100000 in
theorem iv_ckl_18 : iv_kl18.all (fun q => decide (decode code q.1 = .ok (q.2.1, q.2.2)) && iv_lnok q.2.1 q.2.2) = true := by decide +kernel
set_option maxRecDepth 100000 in
theorem iv_ckl_19 : iv_kl19.all (fun q => decide (decode code q.1 = .ok (q.2.1, q.2.2)) && iv_lnok q.2.1 q.2.2) = true := by decide +kernel
set_option maxRecDepth 100000 in
theorem iv_ckl_20 : iv_kl20.all (fun q => decide (decode code q.1 = .ok (q.2.1, q.2.2)) && iv_lnok q.2.1 q.2.2) = true := by decide +kernel
theorem iv_cok_law : iv_cok iv_n = true := by
  show (iv_kl0 ++ (iv_kl1 ++ (iv_kl2 ++ (iv_kl3 ++ (iv_kl4 ++ (iv_kl5 ++ (iv_kl6 ++ (iv_kl7 ++ (iv_kl8 ++ (iv_kl9 ++ (iv_kl10 ++ (iv_kl11 ++ (iv_kl12 ++ (iv_kl13 ++ (iv_kl14 ++ (iv_kl15 ++ (iv_kl16 ++ (iv_kl17 ++ (iv_kl18 ++ (iv_kl19 ++ (iv_kl20))))))))))))))))))))).all (fun q => decide (decode code q.1 = .ok (q.2.1, q.2.2)) && iv_lnok q.2.1 q.2.2) = true
  simp only [List.all_append, iv_ckl_0, iv_ckl_1, iv_ckl_2, iv_ckl_3, iv_ckl_4, iv_ckl_5, iv_ckl_6, iv_ckl_7, iv_ckl_8, iv_ckl_9, iv_ckl_10, iv_ckl_11, iv_ckl_12, iv_ckl_13, iv_ckl_14, iv_ckl_15, iv_ckl_16, iv_ckl_17, iv_ckl_18, iv_ckl_19, iv_ckl_20, Bool.and_self]
