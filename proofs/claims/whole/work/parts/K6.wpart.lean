/-! making: writePart, class -/
section WPart2
variable {s : hS} {Q : hQ} {hm : hO} {I : jM} {T b : Nat} {n way md kd : Int} {g : Int → Int} {V G : Int → Int} {lv : Int → Int → Int}
theorem WX_ck {n : Int} (X : WX s Q T I n g) : jck (hh s Q I) T 0 = some () := by
  rcases X.2.2 with ⟨z1, z2, -⟩ | ⟨b, ⟨z1, -⟩, -⟩
  · exact x_ck z1 z2
  · exact x_ck z1.1 z1.2
theorem lw_a {A : Nat} {k : Nat} {v : Int} (h0 : 0 ≤ v) (h : v + 1 < ((2 ^ k : Nat) : Int)) (e : (cd v).length = A) : (A : Int) ≤ 2 * (k : Int) - 1 := by
  rw [← e]
  exact cd_le h0 h
theorem lw_0 {l : List Int} {B : Nat} (hl : ∀ b j : Int, -4095 ≤ lv b j ∧ lv b j ≤ 4095) (B6 : B < 6) (hn : n + (l.length : Int) ≤ 28500) : n + ((l ++ bkL lv B).length : Int) + ((cd (lc (lv B) 16)).length : Int) ≤ 32000 := by
  obtain ⟨c, hc⟩ : ∃ c, lc (lv B) 16 = c := ⟨_, rfl⟩
  have b := lc_b (g := lv B) (n := 16)
  rw [hc] at b ⊢
  have l1 := bkL_len hl B
  obtain ⟨A, hA⟩ : ∃ A, (cd c).length = A := ⟨_, rfl⟩
  have a := lw_a (k := 5) b.1 (by show c + 1 < 32; omega) hA
  rw [hA, List.length_append]
  obtain ⟨D, hD⟩ : ∃ D, (bkL lv B).length = D := ⟨_, rfl⟩
  rw [hD] at l1 ⊢
  omega
theorem lw_1 {l : List Int} {B j : Nat} (hl : ∀ b j : Int, -4095 ≤ lv b j ∧ lv b j ≤ 4095) (B6 : B < 6) (j16 : j < 16) (hn : n + (l.length : Int) ≤ 28500) : n + ((l ++ (bkL lv B ++ (cd (lc (lv B) 16) ++ (rl (lv B) j).2))).length : Int) + ((cd (rl (lv B) j).1).length : Int) ≤ 31900 ∧ n + ((l ++ (bkL lv B ++ (cd (lc (lv B) 16) ++ (rl (lv B) j).2)) ++ cd (rl (lv B) j).1).length : Int) + ((cd (us (lv B j))).length : Int) ≤ 32000 := by
  obtain ⟨c, hc⟩ : ∃ c, lc (lv B) 16 = c := ⟨_, rfl⟩
  have b := lc_b (g := lv B) (n := 16)
  rw [hc] at b ⊢
  have l1 := bkL_len hl B
  have l2 := rl_len (lv := lv B) (fun j _ _ => hl B j) j (by omega)
  have pb := rl_p (lv := lv B) j
  have lvb := hl B j
  have u := us_b lvb.1 lvb.2
  clear lvb
  obtain ⟨p, hp⟩ : ∃ p, (rl (lv B) j).1 = p := ⟨_, rfl⟩
  obtain ⟨w, hw⟩ : ∃ w, us (lv B j) = w := ⟨_, rfl⟩
  obtain ⟨R, hR⟩ : ∃ R, (rl (lv B) j).2.length = R := ⟨_, rfl⟩
  obtain ⟨D, hD⟩ : ∃ D, (bkL lv B).length = D := ⟨_, rfl⟩
  obtain ⟨A, hA⟩ : ∃ A, (cd c).length = A := ⟨_, rfl⟩
  obtain ⟨P, hP⟩ : ∃ P, (cd p).length = P := ⟨_, rfl⟩
  obtain ⟨U, hU⟩ : ∃ U, (cd w).length = U := ⟨_, rfl⟩
  rw [hp] at pb ⊢
  rw [hw] at u ⊢
  rw [hR] at l2
  rw [hD] at l1
  have a := lw_a (k := 5) b.1 (by show c + 1 < 32; omega) hA
  have a2 := lw_a (k := 5) pb.1 (by show p + 1 < 32; omega) hP
  have a3 := lw_a (k := 13) u.1 (by show w + 1 < 8192; omega) hU
  have e : (l ++ (bkL lv B ++ (cd c ++ (rl (lv B) j).2))).length = l.length + (D + (A + R)) := by rw [List.length_append, List.length_append, List.length_append, hR, hD, hA]
  rw [List.length_append (as := l ++ (bkL lv B ++ (cd c ++ (rl (lv B) j).2))) (bs := cd p), e, hP, hU]
  clear e hp hw hR hD hA hP hU hc
  omega
theorem c_20l {l : List Int} (L : Lay s Q hm) (h6 : s.1 ≤ 1000000) (W : WT Q T) (X : WX s Q T I (n + (l.length : Int)) (gW g n l)) (m1 : 1 ≤ md) (m6 : md ≤ 6) (hl : ∀ b j : Int, -4095 ≤ lv b j ∧ lv b j ≤ 4095) (hv : ∀ b i : Int, 0 ≤ b → b < 6 → 0 ≤ i → i < 16 → I 49 (16 * b + i) = lv b i) (hn : n + (l.length : Int) ≤ 28500) : ∃ I', jd_20_l72 44 (some T) md 0 0 (hh s Q I) = some (hh s Q I') ∧ WX s Q T I' (n + ((l ++ bkL lv 6).length : Int)) (gW g n (l ++ bkL lv 6)) ∧ NW Q T I I' := by
  have F := PtC_45 L
  have q0 : Q 44 ((0 : Nat) : Int) = some 45 := Lq L rfl
  have q10 := T_q F 4 10 rfl rfl rfl
  have md0 : ¬ jw md = 0 := by rw [n_jw (z := md) (by omega) (by omega)]; omega
  obtain ⟨h', e, I', rfl, h⟩ : wT (jd_20_l72 44 (some T) md 0 0 (hh s Q I)) (fun h' => ∃ I', h' = hh s Q I' ∧ WX s Q T I' (n + ((l ++ bkL lv 6).length : Int)) (gW g n (l ++ bkL lv 6)) ∧ NW Q T I I') := by
    unfold jd_20_l72
    refine w_lp (fun k (st : Int × Int × jH) => k ≤ 96 ∧ ∃ (I' : jM) (x : Int), st = (x, (k : Int), hh s Q I') ∧ (k % 16 ≠ 0 → x = (rl (lv ((k / 16 : Nat) : Int)) (k % 16)).1) ∧ WX s Q T I' (n + ((l ++ lbB lv (k / 16) (k % 16)).length : Int)) (gW g n (l ++ lbB lv (k / 16) (k % 16))) ∧ NW Q T I I') 96 (fun k st hk J => ?_) (n_fu (by decide)) ⟨by decide, I, 0, rfl, fun h => absurd rfl h, by rw [show l ++ lbB lv (0 / 16) (0 % 16) = l from by show l ++ (bkL lv 0 ++ []) = l; rw [bkL_0, List.append_nil, List.append_nil]]; exact X, fun _ _ _ => rfl, fun _ _ => rfl⟩
    obtain ⟨k96, I1, x, rfl, jx, j1, j2⟩ := J
    by_cases hk9 : k < 96
    · obtain ⟨B, hB⟩ : ∃ B, k / 16 = B := ⟨_, rfl⟩
      obtain ⟨j, hj⟩ : ∃ j, k % 16 = j := ⟨_, rfl⟩
      have kk : k = 16 * B + j := by omega
      have B6 : B < 6 := by omega
      have j16 : j < 16 := by omega
      rw [hB, hj] at j1
      rw [hB, hj] at jx
      have e49 : I1 49 = I 49 := NW_lo W j2 (by decide) (by decide) (by decide)
      have v49 : ∀ i : Int, 0 ≤ i → i < 16 → I1 49 (16 * (B : Int) + i) = lv B i := fun i i0 i1 => by rw [e49]; exact hv B i (by omega) (by omega) i0 i1
      -- the head of a block, then the level
      have step : ∀ (x1 : Int) (I2 : jM), x1 = (rl (lv B) j).1 → WX s Q T I2 (n + ((l ++ (bkL lv B ++ (cd (lc (lv B) 16) ++ (rl (lv B) j).2))).length : Int)) (gW g n (l ++ (bkL lv B ++ (cd (lc (lv B) 16) ++ (rl (lv B) j).2)))) → NW Q T I I2 → wT (jd_20_b110 44 (some T) md x1 (k : Int) (hh s Q I2)) (fun o => jse o (fun s' => k < 96 ∧ k + 1 ≤ 96 ∧ ∃ (I' : jM) (x : Int), s' = (x, ((k + 1 : Nat) : Int), hh s Q I') ∧ ((k + 1) % 16 ≠ 0 → x = (rl (lv (((k + 1) / 16 : Nat) : Int)) ((k + 1) % 16)).1) ∧ WX s Q T I' (n + ((l ++ lbB lv ((k + 1) / 16) ((k + 1) % 16)).length : Int)) (gW g n (l ++ lbB lv ((k + 1) / 16) ((k + 1) % 16))) ∧ NW Q T I I') (fun h' => ∃ I', h' = hh s Q I' ∧ WX s Q T I' (n + ((l ++ bkL lv 6).length : Int)) (gW g n (l ++ bkL lv 6)) ∧ NW Q T I I')) := by
        intro x1 I2 hx X2 N2
        have lvb := hl B j
        have v2 : I2 49 (k : Int) = lv B j := by
          rw [NW_lo W N2 (by decide) (by decide) (by decide), show (k : Int) = 16 * (B : Int) + (j : Int) by omega]
          exact hv B j (by omega) (by omega) (by omega) (by omega)
        have a49 : jai (hh s Q I2) 49 (k : Int) = some (lv B j) := by
          have := T_ai (R := Q) (I := I2) (z := (k : Int)) F h6 4 96 rfl rfl rfl rfl (by omega) (by omega)
          rw [show 45 + 4 = 49 from rfl, v2] at this
          exact this
        -- the next state
        have nxt : ∀ (I3 : jM), WX s Q T I3 (n + ((l ++ (bkL lv B ++ (cd (lc (lv B) 16) ++ (rl (lv B) (j + 1)).2))).length : Int)) (gW g n (l ++ (bkL lv B ++ (cd (lc (lv B) 16) ++ (rl (lv B) (j + 1)).2)))) → NW Q T I I3 → ((k + 1) % 16 ≠ 0 → (rl (lv B) (j + 1)).1 = (rl (lv (((k + 1) / 16 : Nat) : Int)) ((k + 1) % 16)).1) ∧ WX s Q T I3 (n + ((l ++ lbB lv ((k + 1) / 16) ((k + 1) % 16)).length : Int)) (gW g n (l ++ lbB lv ((k + 1) / 16) ((k + 1) % 16))) ∧ NW Q T I I3 := fun I3 X3 N3 => by
          by_cases c15 : j = 15
          · have e1 : (k + 1) / 16 = B + 1 := by omega
            have e2 : (k + 1) % 16 = 0 := by omega
            refine ⟨fun h => absurd e2 h, ?_, N3⟩
            rw [e1, e2]
            have e3 : lbB lv (B + 1) 0 = bkL lv B ++ (cd (lc (lv B) 16) ++ (rl (lv B) (j + 1)).2) := by
              rw [c15]
              unfold lbB
              rw [if_pos rfl, List.append_nil, bkL_s]
            rw [e3]
            exact X3
          · have e1 : (k + 1) / 16 = B := by omega
            have e2 : (k + 1) % 16 = j + 1 := by omega
            rw [e1, e2]
            refine ⟨fun _ => rfl, ?_, N3⟩
            have e3 : lbB lv B (j + 1) = bkL lv B ++ (cd (lc (lv B) 16) ++ (rl (lv B) (j + 1)).2) := by
              unfold lbB
              rw [if_neg (by omega)]
            rw [e3]
            exact X3
        have hd : jd_20_b110 44 (some T) md x1 (k : Int) (hh s Q I2) = if lv B j = 0 then some (.inl (x1 + 1, (k : Int) + 1, hh s Q I2)) else ((jd_9 T x1 (hh s Q I2)).bind fun h77 => ((jck h77 T 0).bind fun u81 => ((jd_9 T (us (lv B j)) h77).bind fun h83 => some (.inl (0, (k : Int) + 1, h83))))) := by
          unfold jd_20_b110 jd_20_b151
          rw [y_gr L 44 1 rfl rfl, Option.bind_some, q0, Option.bind_some, T_gr F, Option.bind_some, q10, Option.bind_some, a49, Option.bind_some, n_jw (z := lv B j) (by omega) (by omega), Option.bind_some, WX_ck X2, Option.bind_some, (k_us (v := lv B j) (by omega) (by omega)).2]
          rfl
        rw [hd]
        by_cases c : lv B j = 0
        · rw [if_pos c]
          refine ⟨_, rfl, ?_⟩
          show jse _ _ _
          rw [jse_l]
          have ez := rl_z (lv := lv B) (n := j) c
          have eb : (rl (lv B) (j + 1)).2 = (rl (lv B) j).2 := by rw [ez]
          have ea : x1 + 1 = (rl (lv B) (j + 1)).1 := by rw [ez, hx]
          obtain ⟨n1, n2, n3⟩ := nxt I2 (by rw [eb]; exact X2) N2
          exact ⟨hk9, by omega, I2, x1 + 1, by rw [show ((k + 1 : Nat) : Int) = (k : Int) + 1 by omega], fun h => ea.trans (n1 h), n2, n3⟩
        · rw [if_neg c]
          obtain ⟨I3, y1, y2, y3⟩ := c_9a (v := (rl (lv B) j).1) X2 (rl_p j).1 (Int.lt_of_le_of_lt (rl_p j).2 (by omega)) (Int.le_trans (lw_1 hl B6 j16 hn).1 (by decide))
          obtain ⟨I4, w1, w2, w3⟩ := c_9a (v := us (lv B j)) y2 (us_b lvb.1 lvb.2).1 (Int.lt_of_le_of_lt (us_b lvb.1 lvb.2).2 (by decide)) (lw_1 hl B6 j16 hn).2
          rw [hx, y1, Option.bind_some, WX_ck y2, Option.bind_some, w1, Option.bind_some]
          refine ⟨_, rfl, ?_⟩
          show jse _ _ _
          rw [jse_l]
          have ez := rl_n (lv := lv B) (n := j) c
          have eb : l ++ (bkL lv B ++ (cd (lc (lv B) 16) ++ (rl (lv B) (j + 1)).2)) = l ++ (bkL lv B ++ (cd (lc (lv B) 16) ++ (rl (lv B) j).2)) ++ cd (rl (lv B) j).1 ++ cd (us (lv B j)) := by
            rw [ez]
            simp only [List.append_assoc]
          have ea : (0 : Int) = (rl (lv B) (j + 1)).1 := by rw [ez]
          obtain ⟨n1, n2, n3⟩ := nxt I4 (by rw [eb]; exact w2) (NW_t N2 (NW_t y3 w3))
          exact ⟨hk9, by omega, I4, 0, by rw [show ((k + 1 : Nat) : Int) = (k : Int) + 1 by omega], fun h => ea.trans (n1 h), n2, n3⟩
      show wT (jd_20_s72 44 (some T) md x (k : Int) (hh s Q I1)) _
      have r16 : jrem (k : Int) 16 = ((j : Nat) : Int) := by rw [n_rem (by omega) (by omega) (by decide) (by decide)]; omega
      have d16 : jdiv (k : Int) 16 = ((B : Nat) : Int) := by rw [n_div (by omega) (by omega) (by decide) (by decide)]; omega
      by_cases c0 : j = 0
      · subst c0
        have e0 : lbB lv B 0 = bkL lv B := by unfold lbB; rw [if_pos rfl, List.append_nil]
        rw [e0] at j1
        obtain ⟨I2, y1, y2, y3⟩ := c_9a (v := lc (lv B) 16) j1 lc_b.1 (Int.lt_of_le_of_lt lc_b.2 (by decide)) (lw_0 hl B6 hn)
        have c89 := c_89 (I := I1) (b := (B : Int)) F h6 (by omega) (by omega) (fun z z0 z1 => by
          have := hl (z / 16) (z % 16)
          have e := v49
          have hz := hv (z / 16) (z % 16) (by omega) (by omega) (by omega) (by omega)
          rw [show 16 * (z / 16) + z % 16 = z by omega] at hz
          show -4095 ≤ I1 49 z ∧ I1 49 z ≤ 4095
          rw [e49, hz]
          exact this)
        have lce : lc (fun i => I1 (45 + 4) (16 * (B : Int) + i)) 16 = lc (lv B) 16 := lc_c (fun i i0 i1 => v49 i i0 (by omega))
        rw [lce] at c89
        have hh1 : jd_20_s72 44 (some T) md x (k : Int) (hh s Q I1) = jd_20_b110 44 (some T) md 0 (k : Int) (hh s Q I2) := by
          unfold jd_20_s72
          rw [n_jw (z := (k : Int)) (by omega) (by omega), if_neg (by omega), if_neg md0, r16, if_pos (by decide), y_gr L 44 1 rfl rfl, Option.bind_some, q0, Option.bind_some, T_ck F, Option.bind_some, d16, c89, Option.bind_some, Option.bind_some, WX_ck j1, Option.bind_some, y1, Option.bind_some]
        rw [hh1]
        refine step 0 I2 (by rw [rl_0]) ?_ (NW_t j2 y3)
        have e3 : l ++ (bkL lv B ++ (cd (lc (lv B) 16) ++ (rl (lv B) 0).2)) = l ++ bkL lv B ++ cd (lc (lv B) 16) := by
          rw [rl_0, List.append_nil, List.append_assoc]
        rw [e3]
        exact y2
      · have hh1 : jd_20_s72 44 (some T) md x (k : Int) (hh s Q I1) = jd_20_b110 44 (some T) md x (k : Int) (hh s Q I1) := by
          unfold jd_20_s72
          rw [n_jw (z := (k : Int)) (by omega) (by omega), if_neg (by omega), if_neg md0, r16, n_jw (z := (j : Int)) (by omega) (by omega), if_neg (by omega)]
        rw [hh1]
        refine step x I1 (jx c0) ?_ j2
        have e3 : bkL lv B ++ (cd (lc (lv B) 16) ++ (rl (lv B) j).2) = lbB lv B j := by unfold lbB; rw [if_neg c0]
        rw [e3]
        exact j1
    · have ek : k = 96 := by omega
      subst ek
      refine ⟨.inr (hh s Q I1), ?_, ?_⟩
      · show jd_20_s72 44 (some T) md x ((96 : Nat) : Int) (hh s Q I1) = _
        unfold jd_20_s72
        rw [if_pos (by decide)]
      · show jse _ _ _
        rw [jse_r]
        have e3 : l ++ lbB lv (96 / 16) (96 % 16) = l ++ bkL lv 6 := by
          show l ++ (bkL lv 6 ++ []) = _
          rw [List.append_nil]
        rw [e3] at j1
        exact ⟨I1, rfl, j1, j2⟩
  exact ⟨I', e, h⟩
/-- writePart -/
theorem c_20 (L : Lay s Q hm) (h6 : s.1 ≤ 1000000) (W : WT Q T) (X : WX s Q T I n g) (eK : I 45 0 = kd) (k0 : 0 ≤ kd) (k2 : kd ≤ 2) (w0 : 0 ≤ way) (w6 : way ≤ 6) (hmd : mdW kd way = md) (m0 : 0 ≤ md) (m6 : md ≤ 6) (hv : ∀ i : Int, 0 ≤ i → i < 4 → I 50 i = V i ∧ I 51 i = G i ∧ -32 ≤ V i - G i ∧ V i - G i ≤ 32) (hl : ∀ b j : Int, -4095 ≤ lv b j ∧ lv b j ≤ 4095) (hlv : md ≠ 0 → ∀ b i : Int, 0 ≤ b → b < 6 → 0 ≤ i → i < 16 → I 49 (16 * b + i) = lv b i) (hn : n ≤ 28400) : ∃ I', jd_20 44 (some T) way (hh s Q I) = some (hh s Q I') ∧ WX s Q T I' (n + ((pB way md V G lv).length : Int)) (gW g n (pB way md V G lv)) ∧ NW Q T I I' := by
  have F := PtC_45 L
  have q0 : Q 44 ((0 : Nat) : Int) = some 45 := Lq L rfl
  have n0 := X.2.1
  obtain ⟨A, hA⟩ : ∃ A, (cd way).length = A := ⟨_, rfl⟩
  have l1 := lw_a (k := 3) w0 (by show way + 1 < 8; omega) hA
  obtain ⟨I1, y1, y2, y3, y4⟩ := c_9 X w0 (by omega) (by rw [hA]; omega)
  have N1 : NW Q T I I1 := ⟨y3, y4⟩
  obtain ⟨I2, z1, z2, z3⟩ := c_20v (md := md) (V := V) (G := G) L h6 W y2 m0 m6 (fun i i0 i1 => by
    rw [NW_lo W N1 (by decide) (by decide) (by decide), NW_lo W N1 (by decide) (by decide) (by decide)]
    exact hv i i0 i1) (by rw [hA]; omega)
  have N2 := NW_t N1 z3
  have hd : ∀ {I3 : jM}, jd_20_l72 44 (some T) md 0 0 (hh s Q I2) = some (hh s Q I3) → jd_20 44 (some T) way (hh s Q I) = some (hh s Q I3) := fun {I3} e => by
    unfold jd_20
    rw [y_gr L 44 1 rfl rfl, Option.bind_some, q0, Option.bind_some, T_ck F, Option.bind_some, k_76 L eK k0 k2 w0 w6, Option.bind_some, hmd, Option.bind_some, WX_ck X, Option.bind_some, y1, Option.bind_some, z1, Option.bind_some, e, Option.bind_some]
  by_cases c : md = 0
  · have e : jd_20_l72 44 (some T) md 0 0 (hh s Q I2) = some (hh s Q I2) := by
      unfold jd_20_l72
      refine w_for (f := fun u : (Int × Int × jH) => jd_20_s72 44 (some T) md u.1 u.2.1 u.2.2) (fun _ => (0, 0, hh s Q I2)) 0 (fun k hk => absurd hk (by omega)) ?_ (n_fu (by decide))
      show jd_20_s72 44 (some T) md 0 0 (hh s Q I2) = _
      unfold jd_20_s72
      rw [if_neg (by decide), c, if_pos (by decide)]
    have eb : pB way md V G lv = cd way ++ vcL md V G 4 := by
      unfold pB
      rw [if_pos c, List.append_nil]
    rw [eb]
    exact ⟨I2, hd e, z2, N2⟩
  · have vl := vcL_len (md := md) (V := V) (G := G) (fun i i0 i1 => (hv i i0 i1).2.2) 4 (by decide)
    have la : n + ((cd way ++ vcL md V G 4).length : Int) ≤ 28500 := by
      rw [List.length_append, hA]
      omega
    clear vl
    obtain ⟨I3, x1, x2, x3⟩ := c_20l (md := md) (lv := lv) L h6 W z2 (by omega) m6 hl (fun b i b0 b1 i0 i1 => by
      rw [NW_lo W N2 (by decide) (by decide) (by decide)]
      exact hlv c b i b0 b1 i0 i1) la
    have eb : pB way md V G lv = cd way ++ vcL md V G 4 ++ bkL lv 6 := by
      unfold pB
      rw [if_neg c, List.append_assoc]
    rw [eb]
    exact ⟨I3, hd x1, x2, NW_t N2 x3⟩
end WPart2
