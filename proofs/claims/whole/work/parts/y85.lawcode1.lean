set_option maxRecDepth 100000 in
theorem mm_d403_0 : mm_c403_0.all (fun q => decide (decode cL_law q.1 = .ok q.2)) = true := by decide +kernel
set_option maxRecDepth 100000 in
theorem mm_d403_1 : mm_c403_1.all (fun q => decide (decode cL_law q.1 = .ok q.2)) = true := by decide +kernel
set_option maxRecDepth 100000 in
theorem mm_d403_2 : mm_c403_2.all (fun q => decide (decode cL_law q.1 = .ok q.2)) = true := by decide +kernel
set_option maxRecDepth 100000 in
theorem mm_d403_3 : mm_c403_3.all (fun q => decide (decode cL_law q.1 = .ok q.2)) = true := by decide +kernel
set_option maxRecDepth 100000 in
theorem mm_d403_4 : mm_c403_4.all (fun q => decide (decode cL_law q.1 = .ok q.2)) = true := by decide +kernel
set_option maxRecDepth 100000 in
theorem mm_d403_5 : mm_c403_5.all (fun q => decide (decode cL_law q.1 = .ok q.2)) = true := by decide +kernel
set_option maxRecDepth 100000 in
theorem mm_d403_6 : mm_c403_6.all (fun q => decide (decode cL_law q.1 = .ok q.2)) = true := by decide +kernel
