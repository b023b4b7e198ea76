set_option maxRecDepth 100000 in
theorem mm_d403_19 : mm_c403_19.all (fun q => decide (decode cL_law q.1 = .ok q.2)) = true := by decide +kernel
