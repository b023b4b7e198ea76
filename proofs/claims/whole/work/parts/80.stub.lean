theorem mm_MF {mi : Nat} (h : mi < 403) : mm_MFP mi := sorry
theorem mm_d403 : mm_c403.all (fun q => decide (decode cL_law q.1 = .ok q.2)) = true := sorry
theorem mm_pure (L : Nat) (xs : Nat → Int32) (hL : L ≤ 512) : ∃ (n d : Nat) (h' : mm_H), d ≤ 1000 ∧ mm_ex (mm_xt L xs) (mm_run (mm_xt L xs) n d) 403 n 0 [(0, .ref 1000000)] [] mm_h0 = some (.inl (some (.int 1), h')) ∧ h'.1 ≤ 600128 ∧ h'.2.1 ≤ 7301097 := sorry
