theorem mm_ap {A : Type} {l : List A} {p : A → Bool} (n : Nat) (h1 : (l.take n).all p = true) (h2 : (l.drop n).all p = true) : l.all p = true := by
  rw [← List.take_append_drop n l, List.all_append, h1, h2]
  rfl
set_option maxRecDepth 100000 in
theorem mm_d403_14 : mm_c403_14.all (fun q => decide (decode cL_law q.1 = .ok q.2)) = true := (mm_ap 10 (by decide +kernel) (mm_ap 10 (by decide +kernel) (mm_ap 10 (by decide +kernel) (mm_ap 10 (by decide +kernel) (mm_ap 10 (by decide +kernel) (by decide +kernel))))))
