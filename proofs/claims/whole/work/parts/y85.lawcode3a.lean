set_option maxRecDepth 100000 in
theorem mm_d403_14 : mm_c403_14.all (fun q => decide (decode cL_law q.1 = .ok q.2)) = true := by decide +kernel
