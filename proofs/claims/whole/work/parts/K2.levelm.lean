/-! making: levels of a block, the model; their codes -/
/-- a signed number's code -/
def us (v : Int) : Int := if v ≤ 0 then -2 * v else 2 * v - 1
theorem us_b {v u : Int} (h0 : -u ≤ v) (h1 : v ≤ u) : 0 ≤ us v ∧ us v ≤ 2 * u := by
  unfold us
  split <;> omega
theorem k_us {v : Int} (h0 : -1000000 ≤ v) (h1 : v ≤ 1000000) : jd_236 v = us v ∧ jd_12 v = us v := by
  unfold jd_236 jd_12 us
  rw [n_jw (z := v) (by omega) (by omega)]
  exact ⟨rfl, rfl⟩
theorem cd_le {v : Int} {k : Nat} (h0 : 0 ≤ v) (h : v + 1 < ((2 ^ k : Nat) : Int)) : ((cd v).length : Int) ≤ 2 * (k : Int) - 1 := by
  have := cdL_lt h0 h
  rw [cd_len]
  omega
/-- what waits, and the bits, after n levels -/
def rl (lv : Int → Int) : Nat → Int × List Int
  | 0 => (0, [])
  | n + 1 => if lv n = 0 then ((rl lv n).1 + 1, (rl lv n).2) else (0, (rl lv n).2 ++ (cd (rl lv n).1 ++ cd (us (lv n))))
theorem rl_z {lv : Int → Int} {n : Nat} (h : lv n = 0) : rl lv (n + 1) = ((rl lv n).1 + 1, (rl lv n).2) := if_pos h
theorem rl_n {lv : Int → Int} {n : Nat} (h : lv n ≠ 0) : rl lv (n + 1) = (0, (rl lv n).2 ++ (cd (rl lv n).1 ++ cd (us (lv n)))) := if_neg h
theorem rl_p {lv : Int → Int} : ∀ n : Nat, 0 ≤ (rl lv n).1 ∧ (rl lv n).1 ≤ n
  | 0 => ⟨Int.le_refl _, Int.le_refl _⟩
  | n + 1 => by
    have := rl_p (lv := lv) n
    by_cases h : lv n = 0
    · rw [rl_z h]
      show 0 ≤ (rl lv n).1 + 1 ∧ (rl lv n).1 + 1 ≤ ((n + 1 : Nat) : Int)
      omega
    · rw [rl_n h]
      show (0 : Int) ≤ 0 ∧ (0 : Int) ≤ ((n + 1 : Nat) : Int)
      omega
theorem rl_c {lv lv' : Int → Int} : ∀ n : Nat, (∀ j : Int, 0 ≤ j → j < n → lv j = lv' j) → rl lv n = rl lv' n
  | 0, _ => rfl
  | n + 1, h => by
    have ih := rl_c n (fun j j0 j1 => h j j0 (by omega))
    have e := h n (by omega) (by omega)
    by_cases c : lv n = 0
    · rw [rl_z c, rl_z (e ▸ c), ih]
    · rw [rl_n c, rl_n (e ▸ c), ih, e]
theorem rl_len {lv : Int → Int} (hl : ∀ j : Int, 0 ≤ j → j < 16 → -4095 ≤ lv j ∧ lv j ≤ 4095) : ∀ n : Nat, n ≤ 16 → ((rl lv n).2.length : Int) ≤ 34 * n
  | 0, _ => Int.le_refl _
  | n + 1, h => by
    have ih := rl_len hl n (by omega)
    have p := rl_p (lv := lv) n
    by_cases c : lv n = 0
    · rw [rl_z c]
      show ((rl lv n).2.length : Int) ≤ _
      omega
    · have b := hl n (by omega) (by omega)
      have u := us_b b.1 b.2
      have l1 := cd_le (v := (rl lv n).1) (k := 5) p.1 (by show (rl lv n).1 + 1 < 32; omega)
      have l2 := cd_le (v := us (lv n)) (k := 13) u.1 (by show us (lv n) + 1 < 8192; omega)
      rw [rl_n c]
      show (((rl lv n).2 ++ (cd (rl lv n).1 ++ cd (us (lv n)))).length : Int) ≤ _
      rw [List.length_append, List.length_append]
      omega
/-- a block's bits -/
def blkB (lv : Int → Int) : List Int := cd (lc lv 16) ++ (rl lv 16).2
theorem blk_len {lv : Int → Int} (hl : ∀ j : Int, 0 ≤ j → j < 16 → -4095 ≤ lv j ∧ lv j ≤ 4095) : ((blkB lv).length : Int) ≤ 553 := by
  have l1 := rl_len hl 16 (Nat.le_refl _)
  have b := lc_b (g := lv) (n := 16)
  have l2 := cd_le (v := lc lv 16) (k := 5) b.1 (by show lc lv 16 + 1 < 32; omega)
  unfold blkB
  rw [List.length_append]
  omega
/-- counting in the told order, or square by square -/
theorem lc_p (g : Int → Int) : lc (fun i => g (jd_254 i)) 16 = lc g 16 := by
  have e : ∀ k : Nat, (fun i => g (jd_254 i)) (k : Int) = g (jd_254 (k : Int)) := fun _ => rfl
  have d : jd_254 ((0 : Nat) : Int) = ((0 : Nat) : Int) ∧ jd_254 ((1 : Nat) : Int) = ((1 : Nat) : Int) ∧ jd_254 ((2 : Nat) : Int) = ((4 : Nat) : Int) ∧ jd_254 ((3 : Nat) : Int) = ((8 : Nat) : Int) ∧ jd_254 ((4 : Nat) : Int) = ((5 : Nat) : Int) ∧ jd_254 ((5 : Nat) : Int) = ((2 : Nat) : Int) ∧ jd_254 ((6 : Nat) : Int) = ((3 : Nat) : Int) ∧ jd_254 ((7 : Nat) : Int) = ((6 : Nat) : Int) ∧ jd_254 ((8 : Nat) : Int) = ((9 : Nat) : Int) ∧ jd_254 ((9 : Nat) : Int) = ((12 : Nat) : Int) ∧ jd_254 ((10 : Nat) : Int) = ((13 : Nat) : Int) ∧ jd_254 ((11 : Nat) : Int) = ((10 : Nat) : Int) ∧ jd_254 ((12 : Nat) : Int) = ((7 : Nat) : Int) ∧ jd_254 ((13 : Nat) : Int) = ((11 : Nat) : Int) ∧ jd_254 ((14 : Nat) : Int) = ((14 : Nat) : Int) ∧ jd_254 ((15 : Nat) : Int) = ((15 : Nat) : Int) := by decide
  obtain ⟨d0, d1, d2, d3, d4, d5, d6, d7, d8, d9, d10, d11, d12, d13, d14, d15⟩ := d
  rw [show (16 : Nat) = 15 + 1 from rfl, lc_s, lc_s, show (15 : Nat) = 14 + 1 from rfl, lc_s, lc_s, show (14 : Nat) = 13 + 1 from rfl, lc_s, lc_s, show (13 : Nat) = 12 + 1 from rfl, lc_s, lc_s, show (12 : Nat) = 11 + 1 from rfl, lc_s, lc_s, show (11 : Nat) = 10 + 1 from rfl, lc_s, lc_s, show (10 : Nat) = 9 + 1 from rfl, lc_s, lc_s, show (9 : Nat) = 8 + 1 from rfl, lc_s, lc_s, show (8 : Nat) = 7 + 1 from rfl, lc_s, lc_s, show (7 : Nat) = 6 + 1 from rfl, lc_s, lc_s, show (6 : Nat) = 5 + 1 from rfl, lc_s, lc_s, show (5 : Nat) = 4 + 1 from rfl, lc_s, lc_s, show (4 : Nat) = 3 + 1 from rfl, lc_s, lc_s, show (3 : Nat) = 2 + 1 from rfl, lc_s, lc_s, show (2 : Nat) = 1 + 1 from rfl, lc_s, lc_s, show (1 : Nat) = 0 + 1 from rfl, lc_s, lc_s]
  show lc _ 0 + (if g (jd_254 ((0 : Nat) : Int)) = 0 then 0 else 1) + (if g (jd_254 ((1 : Nat) : Int)) = 0 then 0 else 1) + (if g (jd_254 ((2 : Nat) : Int)) = 0 then 0 else 1) + (if g (jd_254 ((3 : Nat) : Int)) = 0 then 0 else 1) + (if g (jd_254 ((4 : Nat) : Int)) = 0 then 0 else 1) + (if g (jd_254 ((5 : Nat) : Int)) = 0 then 0 else 1) + (if g (jd_254 ((6 : Nat) : Int)) = 0 then 0 else 1) + (if g (jd_254 ((7 : Nat) : Int)) = 0 then 0 else 1) + (if g (jd_254 ((8 : Nat) : Int)) = 0 then 0 else 1) + (if g (jd_254 ((9 : Nat) : Int)) = 0 then 0 else 1) + (if g (jd_254 ((10 : Nat) : Int)) = 0 then 0 else 1) + (if g (jd_254 ((11 : Nat) : Int)) = 0 then 0 else 1) + (if g (jd_254 ((12 : Nat) : Int)) = 0 then 0 else 1) + (if g (jd_254 ((13 : Nat) : Int)) = 0 then 0 else 1) + (if g (jd_254 ((14 : Nat) : Int)) = 0 then 0 else 1) + (if g (jd_254 ((15 : Nat) : Int)) = 0 then 0 else 1) = _
  rw [d0, d1, d2, d3, d4, d5, d6, d7, d8, d9, d10, d11, d12, d13, d14, d15, show lc (fun i => g (jd_254 i)) 0 = 0 from rfl, show lc g 0 = 0 from rfl]
  have key : ∀ e : Nat → Int, 0 + e 0 + e 1 + e 4 + e 8 + e 5 + e 2 + e 3 + e 6 + e 9 + e 12 + e 13 + e 10 + e 7 + e 11 + e 14 + e 15 = 0 + e 0 + e 1 + e 2 + e 3 + e 4 + e 5 + e 6 + e 7 + e 8 + e 9 + e 10 + e 11 + e 12 + e 13 + e 14 + e 15 := fun e => by omega
  exact key (fun k => if g (k : Int) = 0 then 0 else 1)
