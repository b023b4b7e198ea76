theorem mm_d403 : mm_c403.all (fun q => decide (decode cL_law q.1 = .ok q.2)) = true := by
  unfold mm_c403
  simp only [List.all_append, mm_d403_0, mm_d403_1, mm_d403_2, mm_d403_3, mm_d403_4, mm_d403_5, mm_d403_6, mm_d403_7, mm_d403_8, mm_d403_9, mm_d403_10, mm_d403_11, mm_d403_12, mm_d403_13, mm_d403_14, mm_d403_15, mm_d403_16, mm_d403_17, mm_d403_18, mm_d403_19, mm_d403_20, Bool.and_self]
