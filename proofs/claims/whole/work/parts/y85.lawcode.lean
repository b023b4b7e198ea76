set_option maxRecDepth 100000 in
theorem mm_d403_0 : mm_c403_0.all (fun q => decide (decode cL_law q.1 = .ok q.2)) = true := by decide +kernel
set_option maxRecDepth 100000 in
theorem mm_d403_1 : mm_c403_1.all (fun q => decide (decode cL_law q.1 = .ok q.2)) = true := by decide +kernel
set_option maxRecDepth 100000 in
theorem mm_d403_2 : mm_c403_2.all (fun q => decide (decode cL_law q.1 = .ok q.2)) = true := by decide +kernel
set_option maxRecDepth 100000 in
theorem mm_d403_3 : mm_c403_3.all (fun q => decide (decode cL_law q.1 = .ok q.2)) = true := by decide +kernel
set_option maxRecDepth 100000 in
theorem mm_d403_4 : mm_c403_4.all (fun q => decide (decode cL_law q.1 = .ok q.2)) = true := by decide +kernel
set_option maxRecDepth 100000 in
theorem mm_d403_5 : mm_c403_5.all (fun q => decide (decode cL_law q.1 = .ok q.2)) = true := by decide +kernel
set_option maxRecDepth 100000 in
theorem mm_d403_6 : mm_c403_6.all (fun q => decide (decode cL_law q.1 = .ok q.2)) = true := by decide +kernel
set_option maxRecDepth 100000 in
theorem mm_d403_7 : mm_c403_7.all (fun q => decide (decode cL_law q.1 = .ok q.2)) = true := by decide +kernel
set_option maxRecDepth 100000 in
theorem mm_d403_8 : mm_c403_8.all (fun q => decide (decode cL_law q.1 = .ok q.2)) = true := by decide +kernel
set_option maxRecDepth 100000 in
theorem mm_d403_9 : mm_c403_9.all (fun q => decide (decode cL_law q.1 = .ok q.2)) = true := by decide +kernel
set_option maxRecDepth 100000 in
theorem mm_d403_10 : mm_c403_10.all (fun q => decide (decode cL_law q.1 = .ok q.2)) = true := by decide +kernel
set_option maxRecDepth 100000 in
theorem mm_d403_11 : mm_c403_11.all (fun q => decide (decode cL_law q.1 = .ok q.2)) = true := by decide +kernel
set_option maxRecDepth 100000 in
theorem mm_d403_12 : mm_c403_12.all (fun q => decide (decode cL_law q.1 = .ok q.2)) = true := by decide +kernel
set_option maxRecDepth 100000 in
theorem mm_d403_13 : mm_c403_13.all (fun q => decide (decode cL_law q.1 = .ok q.2)) = true := by decide +kernel
set_option maxRecDepth 100000 in
theorem mm_d403_14 : mm_c403_14.all (fun q => decide (decode cL_law q.1 = .ok q.2)) = true := by decide +kernel
set_option maxRecDepth 100000 in
theorem mm_d403_15 : mm_c403_15.all (fun q => decide (decode cL_law q.1 = .ok q.2)) = true := by decide +kernel
set_option maxRecDepth 100000 in
theorem mm_d403_16 : mm_c403_16.all (fun q => decide (decode cL_law q.1 = .ok q.2)) = true := by decide +kernel
set_option maxRecDepth 100000 in
theorem mm_d403_17 : mm_c403_17.all (fun q => decide (decode cL_law q.1 = .ok q.2)) = true := by decide +kernel
set_option maxRecDepth 100000 in
theorem mm_d403_18 : mm_c403_18.all (fun q => decide (decode cL_law q.1 = .ok q.2)) = true := by decide +kernel
set_option maxRecDepth 100000 in
theorem mm_d403_19 : mm_c403_19.all (fun q => decide (decode cL_law q.1 = .ok q.2)) = true := by decide +kernel
set_option maxRecDepth 100000 in
theorem mm_d403_20 : mm_c403_20.all (fun q => decide (decode cL_law q.1 = .ok q.2)) = true := by decide +kernel
theorem mm_d403 : mm_c403.all (fun q => decide (decode cL_law q.1 = .ok q.2)) = true := by
  unfold mm_c403
  simp only [List.all_append, mm_d403_0, mm_d403_1, mm_d403_2, mm_d403_3, mm_d403_4, mm_d403_5, mm_d403_6, mm_d403_7, mm_d403_8, mm_d403_9, mm_d403_10, mm_d403_11, mm_d403_12, mm_d403_13, mm_d403_14, mm_d403_15, mm_d403_16, mm_d403_17, mm_d403_18, mm_d403_19, mm_d403_20, Bool.and_self]
