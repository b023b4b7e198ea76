/-! distance -/
def az (d : Int) : Int := if 0 ≤ jw d then d else -d
def dst (t x z : Int) : Int := if jw t = 0 then x + z else if jw t = 1 then x + z * z else if jw t = 2 then (if jw z = 0 then x + 0 else x + 1) else (if jw x < jw z then z else x)
def fld (t : Int) (d : Int → Int) : Nat → Int → Int
  | 0, x => x
  | n + 1, x => dst t (fld t d n x) (az (d n))
theorem fld_0 {t : Int} {d : Int → Int} {x : Int} : fld t d 0 x = x := rfl
theorem fld_s {t : Int} {d : Int → Int} {n : Nat} {x : Int} : fld t d (n + 1) x = dst t (fld t d n x) (az (d n)) := rfl
theorem fld_add {t : Int} {d : Int → Int} {n : Nat} {x : Int} (k : Nat) : fld t d (n + k) x = fld t (fun j => d (n + j)) k (fld t d n x) := by
  induction k with
  | zero => rfl
  | succ k ih => rw [← Nat.add_assoc, fld_s, fld_s, ih, show ((n + k : Nat) : Int) = (n : Int) + (k : Int) by omega]
theorem fld_c {t : Int} {d d' : Int → Int} {n : Nat} {x : Int} (h : ∀ j : Int, 0 ≤ j → j < n → d j = d' j) : fld t d n x = fld t d' n x := by
  induction n with
  | zero => rfl
  | succ n ih => rw [fld_s, fld_s, ih (fun j h1 h2 => h j h1 (by omega)), h n (by omega) (by omega)]
section Dist
variable {s : hS} {Q : hQ} {hm : hO} {I m : jM} {a b : Nat} {p q t x y w h o o' N : Int}
theorem c_105l (A : PicAt s Q hm a o) (B : PicAt s Q hm b o') (h6 : s.1 ≤ 1000000) (n0 : 0 ≤ N) (n1 : N ≤ 864) : jd_105_l28 a (some b) t N 0 0 (hh s Q I) = some (fld t (fun i => I (a + 1) i - I (b + 1) i) N.toNat 0) := by
  obtain ⟨l1, l2, l3⟩ := Pic_ar A
  obtain ⟨r1, r2, r3⟩ := Pic_ar B
  have e2 : Q a ((2 : Nat) : Int) = some (a + 1) := A.2.2.2
  have e3 : Q b ((2 : Nat) : Int) = some (b + 1) := B.2.2.2
  unfold jd_105_l28
  refine w_for (f := fun u : (Int × Int) => jd_105_s28 a (some b) t N u.1 u.2 (hh s Q I)) (fun k => (fld t (fun i => I (a + 1) i - I (b + 1) i) k 0, (k : Int))) N.toNat (fun k hk => ?_) ?_ (n_fu (n := N.toNat) (by omega))
  · dsimp only
    unfold jd_105_s28 jd_105_b130
    rw [n_jw (z := N) (by omega) (by omega), n_jw (z := (k : Int)) (by omega) (by omega), if_neg (by omega), x_gr A.2.1.1 A.2.1.2.1, Option.bind_some, e2, Option.bind_some, x_ai l1 h6 l2 (by omega) (by rw [l3]; omega) (by rw [l3]; decide), Option.bind_some, Option.bind_some, x_gr B.2.1.1 B.2.1.2.1, Option.bind_some, e3, Option.bind_some, x_ai r1 h6 r2 (by omega) (by rw [r3]; omega) (by rw [r3]; decide), Option.bind_some, Option.bind_some, fld_s]
    rfl
  · dsimp only
    unfold jd_105_s28
    rw [n_jw (z := N) (by omega) (by omega), n_jw (by omega) (by omega), if_pos (by omega)]
theorem k_213 (hp : 0 ≤ p ∧ p < 60) (hq : okI q) (sw : isSd (m 77 p)) (sh : isSd (m 78 p)) : jd_213 p q m = some (pw (m 77 p) q * pw (m 78 p) q) := by
  unfold jd_213
  rw [y_ma 77 60 rfl rfl hp.1 (by omega), Option.bind_some, y_ma 78 60 rfl rfl hp.1 (by omega), Option.bind_some, k_206 hq sw, k_206 hq sh]
theorem k_348i (ht : 0 ≤ t ∧ t ≤ 3) (hp : 0 ≤ p ∧ p < 60) (hq : 0 ≤ q ∧ q < 60) (sw : isSd (m 77 p)) (sh : isSd (m 78 p)) (x0 : 0 ≤ x) (x2 : x ≤ 2) : jd_348_l116 p q t x y 0 m = some (fld t (fun j => m 79 (864 * p + (pf x + j)) - m 79 (864 * q + (pf x + j))) (pw (m 77 p) x * pw (m 78 p) x).toNat y) := by
  have z := pl_sz sw sh x0 x2
  have hx : okI x := by unfold okI; omega
  unfold jd_348_l116
  have k13 := k_213 (m := m) hp hx sw sh
  generalize pw (m 77 p) x * pw (m 78 p) x = N at *
  refine w_for (f := fun u : (Int × Int) => jd_348_s116 p q t x u.1 u.2 m) (fun k => (fld t (fun j => m 79 (864 * p + (pf x + j)) - m 79 (864 * q + (pf x + j))) k y, (k : Int))) N.toNat (fun k hk => ?_) ?_ (n_fu (n := N.toNat) (by omega))
  · dsimp only
    unfold jd_348_s116 jd_348_b245
    rw [k13, Option.bind_some, n_jw (z := N) (by omega) (by omega), n_jw (z := (k : Int)) (by omega) (by omega), if_neg (by omega), k_207 hx, y_ma 79 51840 rfl rfl (by omega) (by omega), Option.bind_some, y_ma 79 51840 rfl rfl (by omega) (by omega), Option.bind_some, Option.bind_some, fld_s, Int.add_assoc, Int.add_assoc]
    show some (Sum.inl (_, _)) = some (Sum.inl (dst t _ (az (m 79 (864 * p + (pf x + (k : Int))) - m 79 (864 * q + (pf x + (k : Int))))), _))
    generalize m 79 (864 * p + (pf x + (k : Int))) - m 79 (864 * q + (pf x + (k : Int))) = D
    have ea : (if 0 ≤ jw D then D else -D) = az D := rfl
    rw [ea]
    unfold dst
    have h4 : t = 0 ∨ t = 1 ∨ t = 2 ∨ t = 3 := by omega
    rcases h4 with rfl | rfl | rfl | rfl
    · rw [if_neg (show ¬ jw 0 = 3 by decide), if_pos (show jw 0 = 0 by decide), if_pos (show jw 0 = 0 by decide)]
      rfl
    · rw [if_neg (show ¬ jw 1 = 3 by decide), if_neg (show ¬ jw 1 = 0 by decide), if_pos (show jw 1 = 1 by decide), if_neg (show ¬ jw 1 = 0 by decide), if_pos (show jw 1 = 1 by decide)]
      rfl
    · rw [if_neg (show ¬ jw 2 = 3 by decide), if_neg (show ¬ jw 2 = 0 by decide), if_neg (show ¬ jw 2 = 1 by decide), if_neg (show ¬ jw 2 = 0 by decide), if_neg (show ¬ jw 2 = 1 by decide), if_pos (show jw 2 = 2 by decide)]
      rfl
    · rw [if_pos (show jw 3 = 3 by decide), if_neg (show ¬ jw 3 = 0 by decide), if_neg (show ¬ jw 3 = 1 by decide), if_neg (show ¬ jw 3 = 2 by decide)]
      generalize fld _ _ _ _ = X
      by_cases c : jw X < jw (az D)
      · rw [if_pos c, if_neg (by omega)]
        rfl
      · rw [if_neg c, if_pos (by omega)]
        rfl
  · dsimp only
    unfold jd_348_s116
    rw [k13, Option.bind_some, n_jw (z := N) (by omega) (by omega), n_jw (by omega) (by omega), if_pos (by omega)]
/-- where the planes of a picture begin -/
theorem pl_cat (sw : isSd w) (sh : isSd h) : pb w h 0 = 0 ∧ pb w h 1 = pw w 0 * pw h 0 ∧ pb w h 2 = pw w 0 * pw h 0 + pw w 1 * pw h 1 ∧ w * h * 3 / 2 = pw w 0 * pw h 0 + pw w 1 * pw h 1 + pw w 2 * pw h 2 ∧ w * h = pw w 0 * pw h 0 := by
  rcases sw with rfl | rfl | rfl <;> rcases sh with rfl | rfl | rfl <;> decide
theorem fld_pl (ht : 0 ≤ t ∧ t ≤ 3) {G G' : Int → Int} (X : Pix I a w h G) (Y : Pix I b w h G') (x0 : 0 ≤ x) (x2 : x ≤ 2) : fld t (fun j => G (pf x + j) - G' (pf x + j)) (pw w x * pw h x).toNat y = fld t (fun j => I (a + 1) (pb w h x + j) - I (b + 1) (pb w h x + j)) (pw w x * pw h x).toNat y := by
  refine fld_c (fun j j0 j1 => ?_)
  rw [(X.2.2.2.2 x j x0 x2 j0 (by omega)).1, (Y.2.2.2.2 x j x0 x2 j0 (by omega)).1]
theorem si_distance (R : RelH s Q hm I m) (h6 : s.1 < 1000000) (hp : okI p) (hq : okI q) (ht : okI t) : SimI (jd_171 0 p q t (hh s Q I)) (jd_348 p q t m) (fun E => if E = 2 then 1 else if E = 0 then 2 else 0) s Q I := by
  have L := R.1
  obtain ⟨t1, t2, t3, t4, t5⟩ := id R.2.1
  have ht' : -2147483648 ≤ t ∧ t < 2147483648 := ht
  have kp := k_210 (m := m) ⟨t2, t3⟩ hp
  have kq := k_210 (m := m) ⟨t2, t3⟩ hq
  have b80 : ∀ c : Int, c = 1 ∨ c = 2 → jd_348_b80 p q t c m = some (0, jms m 76 0 c) := by
    intro c hc
    unfold jd_348_b80
    rcases hc with rfl | rfl
    · rw [Option.bind_some, jms_e, if_neg (by decide)]
    · rw [Option.bind_some, jms_e, if_neg (by decide)]
  by_cases c1 : 0 ≤ p ∧ p < m 76 1
  · obtain ⟨a, ea, hA, A, X⟩ := c_193 R hp c1.1 c1.2
    rw [if_pos c1] at kp
    by_cases c2 : 0 ≤ q ∧ q < m 76 1
    · obtain ⟨b, eb, hB, B, Y⟩ := c_193 R hq c2.1 c2.2
      rw [if_pos c2] at kq
      have w1 : 0 ≤ m 77 p ∧ m 77 p ≤ 24 := by rcases X.2.2.1 with e | e | e <;> omega
      have w2 : 0 ≤ m 78 p ∧ m 78 p ≤ 24 := by rcases X.2.2.2.1 with e | e | e <;> omega
      have w3 : 0 ≤ m 77 q ∧ m 77 q ≤ 24 := by rcases Y.2.2.1 with e | e | e <;> omega
      have w4 : 0 ≤ m 78 q ∧ m 78 q ≤ 24 := by rcases Y.2.2.2.1 with e | e | e <;> omega
      have e100 := c_100 A B X Y
      have pM : jd_348 p q t m = jd_348_b80 p q t (if m 77 p = m 77 q ∧ m 78 p = m 78 q then (if 0 ≤ t ∧ t ≤ 3 then 0 else 2) else 2) m := by
        unfold jd_348 jd_348_b21
        rw [kp, kq, if_neg (show ¬ (1 : Int) = 0 by decide), if_neg (show ¬ (1 : Int) = 0 by decide), if_neg (show ¬ jw 1 = 0 by decide), y_ma 77 60 rfl rfl c1.1 (by omega), Option.bind_some, y_ma 77 60 rfl rfl c2.1 (by omega), Option.bind_some, n_jw (z := m 77 p) (by omega) (by omega), n_jw (z := m 77 q) (by omega) (by omega)]
        by_cases g1 : m 77 p = m 77 q
        · rw [if_pos g1, y_ma 78 60 rfl rfl c1.1 (by omega), Option.bind_some, y_ma 78 60 rfl rfl c2.1 (by omega), Option.bind_some, n_jw (z := m 78 p) (by omega) (by omega), n_jw (z := m 78 q) (by omega) (by omega), n_jw ht.1 ht.2, x_in (by omega) (by omega) (by decide) (by decide) (by decide) (by decide)]
          by_cases g2 : m 78 p = m 78 q
          · rw [if_pos g2, if_pos (show m 77 p = m 77 q ∧ m 78 p = m 78 q from ⟨g1, g2⟩)]
            by_cases g3 : 0 ≤ t ∧ t ≤ 3
            · rw [if_pos g3, if_neg (by decide), if_pos g3]
            · rw [if_neg g3, if_pos rfl, if_neg g3]
          · rw [if_neg g2, if_neg (fun e => g2 e.2)]
        · rw [if_neg g1, if_neg (fun e => g1 e.1)]
      by_cases c3 : m 77 p = m 77 q ∧ m 78 p = m 78 q
      · rw [if_pos c3] at pM e100
        by_cases c4 : 0 ≤ t ∧ t ≤ 3
        · rw [if_pos c4] at pM
          rw [← c3.1, ← c3.2] at Y
          have sz0 := pl_sz X.2.2.1 X.2.2.2.1 (show (0 : Int) ≤ 0 by decide) (show (0 : Int) ≤ 2 by decide)
          have sz1 := pl_sz X.2.2.1 X.2.2.2.1 (show (0 : Int) ≤ 1 by decide) (show (1 : Int) ≤ 2 by decide)
          have sz2 := pl_sz X.2.2.1 X.2.2.2.1 (show (0 : Int) ≤ 2 by decide) (show (2 : Int) ≤ 2 by decide)
          obtain ⟨ct0, ct1, ct2, ct3, ct4⟩ := pl_cat X.2.2.1 X.2.2.2.1
          have k0 := fun y => (k_348i (m := jms m 76 0 0) (y := y) c4 ⟨c1.1, by omega⟩ ⟨c2.1, by omega⟩ X.2.2.1 X.2.2.2.1 (show (0 : Int) ≤ 0 by decide) (show (0 : Int) ≤ 2 by decide)).trans (congrArg some (fld_pl (y := y) c4 X Y (show (0 : Int) ≤ 0 by decide) (show (0 : Int) ≤ 2 by decide)))
          have k1 := fun y => (k_348i (m := jms m 76 0 0) (y := y) c4 ⟨c1.1, by omega⟩ ⟨c2.1, by omega⟩ X.2.2.1 X.2.2.2.1 (show (0 : Int) ≤ 1 by decide) (show (1 : Int) ≤ 2 by decide)).trans (congrArg some (fld_pl (y := y) c4 X Y (show (0 : Int) ≤ 1 by decide) (show (1 : Int) ≤ 2 by decide)))
          have k2 := fun y => (k_348i (m := jms m 76 0 0) (y := y) c4 ⟨c1.1, by omega⟩ ⟨c2.1, by omega⟩ X.2.2.1 X.2.2.2.1 (show (0 : Int) ≤ 2 by decide) (show (2 : Int) ≤ 2 by decide)).trans (congrArg some (fld_pl (y := y) c4 X Y (show (0 : Int) ≤ 2 by decide) (show (2 : Int) ≤ 2 by decide)))
          rw [ct0] at k0
          rw [ct1] at k1
          rw [ct2] at k2
          generalize pw (m 77 p) 0 * pw (m 78 p) 0 = N0 at *
          generalize pw (m 77 p) 1 * pw (m 78 p) 1 = N1 at *
          generalize pw (m 77 p) 2 * pw (m 78 p) 2 = N2 at *
          have k0' : ∀ y, jd_348_l116 p q t 0 y 0 (jms m 76 0 0) = some (fld t (fun i => I (a + 1) i - I (b + 1) i) N0.toNat y) := fun y => by
            rw [k0 y]
            congr 1
            exact fld_c (fun j _ _ => by rw [Int.zero_add])
          have cC : ∀ N, 0 ≤ N → N ≤ 864 → jd_105_b21 a (some b) t N (hh s Q I) = some (fld t (fun i => I (a + 1) i - I (b + 1) i) N.toNat 0) := fun N n0 n1 => by
            unfold jd_105_b21
            rw [c_105l A B (by omega) n0 n1, Option.bind_some]
          have j0 : I a ((0 : Nat) : Int) = m 77 p := X.1
          have j1 : I a ((1 : Nat) : Int) = m 78 p := X.2.1
          by_cases c5 : t = 3
          · subst c5
            refine SimI_id (v := fld 3 (fun i => I (a + 1) i - I (b + 1) i) N0.toNat 0) (b := fld 3 (fun i => I (a + 1) i - I (b + 1) i) N0.toNat 0) R ?_ ?_ rfl
            · unfold jd_171 jd_105
              rw [y_ck L 0 11 rfl rfl, Option.bind_some, ea, b_jtb, y_ck L 0 11 rfl rfl, Option.bind_some, eb, b_jtb, x_ck A.2.1.1 A.2.1.2.1, Option.bind_some, e100, Option.bind_some, if_neg (by decide), (c_185 ht (q := 3) (by unfold okI; omega) _).1 c4, b_jtb, x_ck A.2.1.1 A.2.1.2.1, Option.bind_some, if_pos (by decide), x_gi A.2.1.1 A.2.1.2.1, Option.bind_some, x_gi A.2.1.1 A.2.1.2.1, Option.bind_some, j0, j1, ct4, cC N0 (by omega) (by omega), Option.bind_some]
            · rw [pM]
              unfold jd_348_b80
              rw [Option.bind_some, jms_e, if_pos (by decide)]
              have hl : jd_348_l98 p q 3 0 0 (jms m 76 0 0) = some (fld 3 (fun i => I (a + 1) i - I (b + 1) i) N0.toNat 0) := by
                unfold jd_348_l98
                refine w_for (f := fun u : (Int × Int) => jd_348_s98 p q 3 u.1 u.2 (jms m 76 0 0)) (fun k => if k = 0 then (0, 0) else (fld 3 (fun i => I (a + 1) i - I (b + 1) i) N0.toNat 0, 1)) 1 (fun k hk => ?_) ?_ (n_fu (by decide))
                · have : k = 0 := by omega
                  subst this
                  show jd_348_s98 p q 3 0 0 (jms m 76 0 0) = some (Sum.inl (fld 3 (fun i => I (a + 1) i - I (b + 1) i) N0.toNat 0, 1))
                  unfold jd_348_s98
                  rw [if_neg (by decide), k0', Option.bind_some]
                  rfl
                · show jd_348_s98 p q 3 _ 1 (jms m 76 0 0) = _
                  unfold jd_348_s98
                  rw [if_pos (by decide)]
                  rfl
              rw [hl, Option.bind_some]
          · have e3 : jw t ≠ 3 := by rw [n_jw ht.1 ht.2]; exact c5
            refine SimI_id (v := fld t (fun i => I (a + 1) i - I (b + 1) i) (N0 + N1 + N2).toNat 0) (b := fld t (fun i => I (a + 1) i - I (b + 1) i) (N0 + N1 + N2).toNat 0) R ?_ ?_ rfl
            · unfold jd_171 jd_105
              rw [y_ck L 0 11 rfl rfl, Option.bind_some, ea, b_jtb, y_ck L 0 11 rfl rfl, Option.bind_some, eb, b_jtb, x_ck A.2.1.1 A.2.1.2.1, Option.bind_some, e100, Option.bind_some, if_neg (by decide), (c_185 ht (q := 3) (by unfold okI; omega) _).1 c4, b_jtb, x_ck A.2.1.1 A.2.1.2.1, Option.bind_some, if_neg e3, Option.bind_some, c_99 A.2.1.1 A.2.1.2.1 X.1 X.2.1 X.2.2.1 X.2.2.2.1, Option.bind_some, ct3, cC (N0 + N1 + N2) (by omega) (by omega), Option.bind_some]
            · rw [pM]
              unfold jd_348_b80
              rw [Option.bind_some, jms_e, if_pos (by decide)]
              have hl : jd_348_l98 p q t 0 0 (jms m 76 0 0) = some (fld t (fun i => I (a + 1) i - I (b + 1) i) (N0 + N1 + N2).toNat 0) := by
                unfold jd_348_l98
                refine w_for (f := fun u : (Int × Int) => jd_348_s98 p q t u.1 u.2 (jms m 76 0 0)) (fun k => (fld t (fun i => I (a + 1) i - I (b + 1) i) (if k = 0 then 0 else if k = 1 then N0.toNat else if k = 2 then (N0 + N1).toNat else (N0 + N1 + N2).toNat) 0, (k : Int))) 3 (fun k hk => ?_) ?_ (n_fu (by decide))
                · have h3 : k = 0 ∨ k = 1 ∨ k = 2 := by omega
                  rcases h3 with rfl | rfl | rfl
                  · show jd_348_s98 p q t _ 0 (jms m 76 0 0) = some (Sum.inl (_, 1))
                    unfold jd_348_s98
                    rw [if_neg e3, if_neg (by decide), if_pos rfl, k0', Option.bind_some]
                    rfl
                  · show jd_348_s98 p q t _ 1 (jms m 76 0 0) = some (Sum.inl (_, 2))
                    unfold jd_348_s98
                    rw [if_neg e3, if_neg (by decide), k1, Option.bind_some]
                    show some (Sum.inl (fld t _ N1.toNat (fld t _ N0.toNat 0), _)) = some (Sum.inl (fld t _ (N0 + N1).toNat 0, _))
                    rw [show (N0 + N1).toNat = N0.toNat + N1.toNat by omega, fld_add, show ((N0.toNat : Nat) : Int) = N0 by omega]
                    rfl
                  · show jd_348_s98 p q t _ 2 (jms m 76 0 0) = some (Sum.inl (_, 3))
                    unfold jd_348_s98
                    rw [if_neg e3, if_neg (by decide), k2, Option.bind_some]
                    show some (Sum.inl (fld t _ N2.toNat (fld t _ (N0 + N1).toNat 0), _)) = some (Sum.inl (fld t _ (N0 + N1 + N2).toNat 0, _))
                    rw [show (N0 + N1 + N2).toNat = (N0 + N1).toNat + N2.toNat by omega, fld_add, show (((N0 + N1).toNat : Nat) : Int) = N0 + N1 by omega]
                    rfl
                · show jd_348_s98 p q t _ 3 (jms m 76 0 0) = _
                  unfold jd_348_s98
                  rw [if_neg e3, if_pos (by decide)]
                  rfl
              rw [hl, Option.bind_some]
        · rw [if_neg c4] at pM
          refine SimI_th (E := 0) (b := 0) R ?_ (pM.trans (b80 2 (Or.inr rfl))) (by decide)
          unfold jd_171
          rw [y_ck L 0 11 rfl rfl, Option.bind_some, ea, b_jtb, y_ck L 0 11 rfl rfl, Option.bind_some, eb, b_jtb, x_ck A.2.1.1 A.2.1.2.1, Option.bind_some, e100, Option.bind_some, if_neg (by decide), (c_185 ht (q := 3) (by unfold okI; omega) _).2 c4 h6, b_jtx]
      · rw [if_neg c3] at pM e100
        refine SimI_th (E := 0) (b := 0) R ?_ (pM.trans (b80 2 (Or.inr rfl))) (by decide)
        unfold jd_171
        rw [y_ck L 0 11 rfl rfl, Option.bind_some, ea, b_jtb, y_ck L 0 11 rfl rfl, Option.bind_some, eb, b_jtb, x_ck A.2.1.1 A.2.1.2.1, Option.bind_some, e100, Option.bind_some, if_pos (by decide), x_6 h6, Option.bind_some]
    · rw [if_neg c2] at kq
      refine SimI_th (E := 2) (b := 0) R ?_ ?_ (by decide)
      · unfold jd_171
        rw [y_ck L 0 11 rfl rfl, Option.bind_some, ea, b_jtb, y_ck L 0 11 rfl rfl, Option.bind_some, c_193n R h6 hq c2, b_jtx]
      · unfold jd_348 jd_348_b21
        rw [kp, kq, if_neg (show ¬ (1 : Int) = 0 by decide), if_pos rfl, if_pos (by decide), b80 1 (Or.inl rfl)]
        rfl
  · rw [if_neg c1] at kp
    refine SimI_th (E := 2) (b := 0) R ?_ ?_ (by decide)
    · unfold jd_171
      rw [y_ck L 0 11 rfl rfl, Option.bind_some, c_193n R h6 hp c1, b_jtx]
    · unfold jd_348 jd_348_b21
      rw [kp, if_pos rfl, if_pos (by decide), b80 1 (Or.inl rfl)]
      rfl
end Dist
