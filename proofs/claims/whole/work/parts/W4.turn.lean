/-! one turn of the law, whatever the script says -/
section TurnAll
variable {L : Nat} {xs : Nat → Int32} {i : Int} {h : jH}
theorem stl_all (hi : 0 ≤ i) (hL : i + 8 ≤ L) (hLL : L ≤ 1000) (R : RelL h) (h6 : h.1 ≤ 900000) : StL (jd_403_s23 L xs (some 0) (some 76) (some 152) i h) i h := by
  have e0 : jsc L xs i = some (jX xs i 0) := by
    have := jsc_e (xs := xs) (i := i) (j := 0) (L := L) (by omega) (by omega) (by omega)
    rw [Int.add_zero] at this
    exact this
  unfold jd_403_s23
  rw [n_jw (z := (L : Int) - 8) (by omega) (by omega), n_jw (z := i) (by omega) (by omega), if_neg (by omega), e0, Option.bind_some]
  generalize jw (jand (jX xs i 0) 63) = z
  by_cases z0 : z = 0
  · rw [if_pos z0]
    exact stl_0 hi hL hLL R h6
  rw [if_neg z0]
  by_cases z1 : z = 1
  · rw [if_pos z1]
    exact stl_1 hi hL hLL R h6
  rw [if_neg z1]
  by_cases z2 : z = 2
  · rw [if_pos z2]
    exact stl_2 hi hL hLL R h6
  rw [if_neg z2]
  by_cases z3 : z = 3
  · rw [if_pos z3]
    exact stl_3 hi hL hLL R h6
  rw [if_neg z3]
  by_cases z4 : z = 4
  · rw [if_pos z4]
    exact stl_4 hi hL hLL R h6
  rw [if_neg z4]
  by_cases z5 : z = 5
  · rw [if_pos z5]
    exact stl_5 hi hL hLL R h6
  rw [if_neg z5]
  by_cases z6 : z = 6
  · rw [if_pos z6]
    exact stl_6 hi hL hLL R h6
  rw [if_neg z6]
  by_cases z7 : z = 7
  · rw [if_pos z7]
    exact stl_7 hi hL hLL R h6
  rw [if_neg z7]
  by_cases z8 : z = 8
  · rw [if_pos z8]
    exact stl_8 hi hL hLL R h6
  rw [if_neg z8]
  by_cases z9 : z = 9
  · rw [if_pos z9]
    exact stl_9 hi hL hLL R h6
  rw [if_neg z9]
  by_cases z10 : z = 10
  · rw [if_pos z10]
    exact stl_10 hi hL hLL R h6
  rw [if_neg z10]
  by_cases z11 : z = 11
  · rw [if_pos z11]
    exact stl_11 hi hL hLL R h6
  rw [if_neg z11]
  by_cases z12 : z = 12
  · rw [if_pos z12]
    exact stl_12 hi hL hLL R h6
  rw [if_neg z12]
  by_cases z13 : z = 13
  · rw [if_pos z13]
    exact stl_13 hi hL hLL R h6
  rw [if_neg z13]
  by_cases z14 : z = 14
  · rw [if_pos z14]
    exact stl_14 hi hL hLL R h6
  rw [if_neg z14]
  by_cases z15 : z = 15
  · rw [if_pos z15]
    exact stl_15 hi hL hLL R h6
  rw [if_neg z15]
  by_cases z16 : z = 16
  · rw [if_pos z16]
    exact stl_16 hi hL hLL R h6
  rw [if_neg z16]
  by_cases z17 : z = 17
  · rw [if_pos z17]
    exact stl_17 hi hL hLL R h6
  rw [if_neg z17]
  by_cases z18 : z = 18
  · rw [if_pos z18]
    exact stl_18 hi hL hLL R h6
  rw [if_neg z18]
  by_cases z19 : z = 19
  · rw [if_pos z19]
    exact stl_19 hi hL hLL R h6
  rw [if_neg z19]
  by_cases z20 : z = 20
  · rw [if_pos z20]
    exact stl_20 hi hL hLL R h6
  rw [if_neg z20]
  by_cases z21 : z = 21
  · rw [if_pos z21]
    exact stl_21 hi hL hLL R h6
  rw [if_neg z21]
  by_cases z22 : z = 22
  · rw [if_pos z22]
    exact stl_22 hi hL hLL R h6
  rw [if_neg z22]
  by_cases z23 : z = 23
  · rw [if_pos z23]
    exact stl_23 hi hL hLL R h6
  rw [if_neg z23]
  by_cases z24 : z = 24
  · rw [if_pos z24]
    exact stl_24 hi hL hLL R h6
  rw [if_neg z24]
  by_cases z25 : z = 25
  · rw [if_pos z25]
    exact stl_25 hi hL hLL R h6
  rw [if_neg z25]
  by_cases z26 : z = 26
  · rw [if_pos z26]
    exact stl_26 hi hL hLL R h6
  rw [if_neg z26]
  by_cases z27 : z = 27
  · rw [if_pos z27]
    exact stl_27 hi hL hLL R h6
  rw [if_neg z27]
  by_cases z28 : z = 28
  · rw [if_pos z28]
    exact stl_28 hi hL hLL R h6
  rw [if_neg z28]
  by_cases z29 : z = 29
  · rw [if_pos z29]
    exact stl_29 hi hL hLL R h6
  rw [if_neg z29]
  by_cases z30 : z = 30
  · rw [if_pos z30]
    exact stl_30 hi hL hLL R h6
  rw [if_neg z30]
  by_cases z31 : z = 31
  · rw [if_pos z31]
    exact stl_31 hi hL hLL R h6
  rw [if_neg z31]
  by_cases z32 : z = 32
  · rw [if_pos z32]
    exact stl_32 hi hL hLL R h6
  rw [if_neg z32]
  by_cases z33 : z = 33
  · rw [if_pos z33]
    exact stl_33 hi hL hLL R h6
  rw [if_neg z33]
  by_cases z34 : z = 34
  · rw [if_pos z34]
    exact stl_34 hi hL hLL R h6
  rw [if_neg z34]
  by_cases z35 : z = 35
  · rw [if_pos z35]
    exact stl_35 hi hL hLL R h6
  rw [if_neg z35]
  by_cases z36 : z = 36
  · rw [if_pos z36]
    exact stl_36 hi hL hLL R h6
  rw [if_neg z36]
  by_cases z37 : z = 37
  · rw [if_pos z37]
    exact stl_37 hi hL hLL R h6
  rw [if_neg z37]
  by_cases z38 : z = 38
  · rw [if_pos z38]
    exact stl_38 hi hL hLL R h6
  rw [if_neg z38]
  by_cases z39 : z = 39
  · rw [if_pos z39]
    exact stl_39 hi hL hLL R h6
  rw [if_neg z39]
  by_cases z40 : z = 40
  · rw [if_pos z40]
    exact stl_40 hi hL hLL R h6
  rw [if_neg z40]
  by_cases z41 : z = 41
  · rw [if_pos z41]
    exact stl_41 hi hL hLL R h6
  rw [if_neg z41]
  exact ⟨h, h, rfl, rfl, R, ⟨Nat.le_add_right _ _, Nat.le_add_right _ _⟩⟩
theorem stl_end (h8 : (L : Int) < i + 8) (hi : 0 ≤ i) (hLL : L ≤ 1000) (i1 : i ≤ 1000) : jd_403_s23 L xs (some 0) (some 76) (some 152) i h = some (.inr h) := by
  unfold jd_403_s23
  rw [n_jw (z := (L : Int) - 8) (by omega) (by omega), n_jw (z := i) (by omega) (by omega), if_pos (by omega)]
end TurnAll
