/-! the law on at most eight ints -/
theorem q_step (xs : Nat → Int32) : jok1 (jd_403_s23 8 xs (some 0) (some 76) (some 152) 0 jhS) := by
  unfold jd_403_s23
  rw [if_neg (by decide), show jsc 8 xs 0 = some (jX xs 0 0) from jsc_e (i := 0) (j := 0) (by decide) (by decide) (by decide), Option.bind_some]
  generalize jw (jand (jX xs 0 0) 63) = z
  by_cases z0 : z = 0
  · rw [if_pos z0]
    exact q_0 xs
  rw [if_neg z0]
  by_cases z1 : z = 1
  · rw [if_pos z1]
    exact q_1 xs
  rw [if_neg z1]
  by_cases z2 : z = 2
  · rw [if_pos z2]
    exact q_2 xs
  rw [if_neg z2]
  by_cases z3 : z = 3
  · rw [if_pos z3]
    exact q_3 xs
  rw [if_neg z3]
  by_cases z4 : z = 4
  · rw [if_pos z4]
    exact q_4 xs
  rw [if_neg z4]
  by_cases z5 : z = 5
  · rw [if_pos z5]
    exact q_5 xs
  rw [if_neg z5]
  by_cases z6 : z = 6
  · rw [if_pos z6]
    exact q_6 xs
  rw [if_neg z6]
  by_cases z7 : z = 7
  · rw [if_pos z7]
    exact q_7 xs
  rw [if_neg z7]
  by_cases z8 : z = 8
  · rw [if_pos z8]
    exact q_8 xs
  rw [if_neg z8]
  by_cases z9 : z = 9
  · rw [if_pos z9]
    exact q_9 xs
  rw [if_neg z9]
  by_cases z10 : z = 10
  · rw [if_pos z10]
    exact q_10 xs
  rw [if_neg z10]
  by_cases z11 : z = 11
  · rw [if_pos z11]
    exact q_11 xs
  rw [if_neg z11]
  by_cases z12 : z = 12
  · rw [if_pos z12]
    exact q_12 xs
  rw [if_neg z12]
  by_cases z13 : z = 13
  · rw [if_pos z13]
    exact q_13 xs
  rw [if_neg z13]
  by_cases z14 : z = 14
  · rw [if_pos z14]
    exact q_14 xs
  rw [if_neg z14]
  by_cases z15 : z = 15
  · rw [if_pos z15]
    exact q_15 xs
  rw [if_neg z15]
  by_cases z16 : z = 16
  · rw [if_pos z16]
    exact q_16 xs
  rw [if_neg z16]
  by_cases z17 : z = 17
  · rw [if_pos z17]
    exact q_17 xs
  rw [if_neg z17]
  by_cases z18 : z = 18
  · rw [if_pos z18]
    exact q_18 xs
  rw [if_neg z18]
  by_cases z19 : z = 19
  · rw [if_pos z19]
    exact q_19 xs
  rw [if_neg z19]
  by_cases z20 : z = 20
  · rw [if_pos z20]
    exact q_20 xs
  rw [if_neg z20]
  by_cases z21 : z = 21
  · rw [if_pos z21]
    exact q_21 xs
  rw [if_neg z21]
  by_cases z22 : z = 22
  · rw [if_pos z22]
    exact q_22 xs
  rw [if_neg z22]
  by_cases z23 : z = 23
  · rw [if_pos z23]
    exact q_23 xs
  rw [if_neg z23]
  by_cases z24 : z = 24
  · rw [if_pos z24]
    exact q_24 xs
  rw [if_neg z24]
  by_cases z25 : z = 25
  · rw [if_pos z25]
    exact q_25 xs
  rw [if_neg z25]
  by_cases z26 : z = 26
  · rw [if_pos z26]
    exact q_26 xs
  rw [if_neg z26]
  by_cases z27 : z = 27
  · rw [if_pos z27]
    exact q_27 xs
  rw [if_neg z27]
  by_cases z28 : z = 28
  · rw [if_pos z28]
    exact q_28 xs
  rw [if_neg z28]
  by_cases z29 : z = 29
  · rw [if_pos z29]
    exact q_29 xs
  rw [if_neg z29]
  by_cases z30 : z = 30
  · rw [if_pos z30]
    exact q_30 xs
  rw [if_neg z30]
  by_cases z31 : z = 31
  · rw [if_pos z31]
    exact q_31 xs
  rw [if_neg z31]
  by_cases z32 : z = 32
  · rw [if_pos z32]
    exact q_32 xs
  rw [if_neg z32]
  by_cases z33 : z = 33
  · rw [if_pos z33]
    exact q_33 xs
  rw [if_neg z33]
  by_cases z34 : z = 34
  · rw [if_pos z34]
    exact q_34 xs
  rw [if_neg z34]
  by_cases z35 : z = 35
  · rw [if_pos z35]
    exact q_35 xs
  rw [if_neg z35]
  by_cases z36 : z = 36
  · rw [if_pos z36]
    exact q_36 xs
  rw [if_neg z36]
  by_cases z37 : z = 37
  · rw [if_pos z37]
    exact q_37 xs
  rw [if_neg z37]
  by_cases z38 : z = 38
  · rw [if_pos z38]
    exact q_38 xs
  rw [if_neg z38]
  by_cases z39 : z = 39
  · rw [if_pos z39]
    exact q_39 xs
  rw [if_neg z39]
  by_cases z40 : z = 40
  · rw [if_pos z40]
    exact q_40 xs
  rw [if_neg z40]
  by_cases z41 : z = 41
  · rw [if_pos z41]
    exact q_41 xs
  rw [if_neg z41]
  exact ⟨jhS, rfl, jS_a.2.2.1, jS_a.2.2.2⟩
theorem q_loop (L : Nat) (xs : Nat → Int32) (hL : L ≤ 8) : ∃ h', jd_403_l23 L xs (some 0) (some 76) (some 152) 0 jhS = some h' ∧ h'.1 ≤ 1000 ∧ h'.2.1 ≤ 700000 := by
  unfold jd_403_l23
  by_cases h8 : L = 8
  · subst h8
    obtain ⟨h', e, b1, b2⟩ := q_step xs
    refine ⟨h', ?_, b1, b2⟩
    have key := jlp_all (f := fun s : Int × jH => jd_403_s23 8 xs (some 0) (some 76) (some 152) s.1 s.2) (fun k : Nat => if k = 0 then (0, jhS) else (0 + 8, h')) 1 (x := h') (fun k hk => by
      have hk0 : k = 0 := by omega
      subst hk0
      exact e) (by
      show jd_403_s23 8 xs (some 0) (some 76) (some 152) (0 + 8) h' = some (.inr h')
      unfold jd_403_s23
      rw [if_pos (by decide)]) (fu := jfu) (by unfold jfu; decide)
    exact key
  · refine ⟨jhS, jlp_end ?_ (by unfold jfu; decide), jS_a.2.2.1, jS_a.2.2.2⟩
    show jd_403_s23 L xs (some 0) (some 76) (some 152) 0 jhS = some (.inr jhS)
    unfold jd_403_s23
    rw [jw_s (z := (L : Int) - 8) (by omega) (by omega), jw_0, if_pos (by omega)]
def jst4 : Option (Nat × Nat × Nat × jH) := (jnw jb0 11).bind fun n1 => (jd_139 n1.1 n1.2).bind fun h3 => (jnw h3 12).bind fun n5 => (jd_202 n5.1 n5.2).bind fun h7 => (jna h7 3 1).bind fun n9 => some (n1.1, n5.1, n9.1, n9.2)
theorem jst4_a : (jst4.map fun q => (q.1, q.2.1, q.2.2.1)) = some (0, 76, 152) := by decide +kernel
theorem jst4_b : (jst4.map fun q => q.2.2.2) = jstart := by
  unfold jst4 jstart
  simp only [Option.map_bind, Function.comp_def, Option.map_some]
theorem jst4_e : jst4 = some (0, 76, 152, jhS) := by
  have a := jst4_a
  have b := jst4_b
  rw [jhS_e] at b
  cases h : jst4 with
  | none => rw [h] at a; cases a
  | some q =>
    obtain ⟨q1, q2, q3, q4⟩ := q
    rw [h] at a b
    cases a
    cases b
    rfl
theorem q_law (L : Nat) (xs : Nat → Int32) (hL : L ≤ 8) : ∃ h', jd_403 L xs jb0 = some (1, h') ∧ h'.1 ≤ 1000 ∧ h'.2.1 ≤ 700000 := by
  obtain ⟨h', e, b1, b2⟩ := q_loop L xs hL
  refine ⟨h', ?_, b1, b2⟩
  have k : jd_403 L xs jb0 = jst4.bind fun q => (jd_403_l23 L xs (some q.1) (some q.2.1) (some q.2.2.1) 0 q.2.2.2).bind fun x => some (1, x) := by
    unfold jd_403 jst4
    simp only [Option.bind_assoc, Option.bind_some]
  rw [k, jst4_e, Option.bind_some, e, Option.bind_some]
theorem q_run (L : Nat) (xs : Nat → Int32) (hL : L ≤ 8) : ∃ (n d : Nat) (h' : mm_H), d ≤ 1000 ∧ mm_ex (mm_xt L xs) (mm_run (mm_xt L xs) n d) 403 n 0 [(0, .ref 1000000)] [] (jaH jb0) = some (.inl (some (.int 1), h')) ∧ h'.1 ≤ 600128 ∧ h'.2.1 ≤ 7301097 := by
  obtain ⟨h', e, b1, b2⟩ := q_law L xs hL
  obtain ⟨n, hn⟩ := ok_403 (L := L) (xs := xs) e
  refine ⟨n, 72, jaH h', by decide, ?_, ?_, ?_⟩
  · replace hn : (bif Nat.ble (lg_sl [Value.ref 1000000]).length (mm_MT 403).2.1 then mm_ex (mm_xt L xs) (mm_run (mm_xt L xs) n 72) 403 n 0 (lv_args 0 [Value.ref 1000000]) [] (jaH jb0) else none) = some (.inl (some (jcv (jI 1)), jaH h')) := hn
    exact hn
  · exact Nat.le_trans b1 (by decide)
  · exact Nat.le_trans b2 (by decide)
