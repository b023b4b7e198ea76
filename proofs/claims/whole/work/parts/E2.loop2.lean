/-! all pictures of a film read and laid -/
section Loop2
variable {s : hS} {Q Q' : hQ} {hm : hO} {I m I' m' : jM} {a A : Nat} {w h cod f T len n : Int} {pj : Int → Nat}
theorem LpI_s (h6 : s.1 ≤ 1000000) (F : FilmAt s Q hm a f) (B : LpB s Q hm I m a A w h cod f T len pj) (J : LpI s Q hm I m a w h cod f T pj n Q' I' m') (n0 : 0 ≤ n) (nT : n < T) : ∃ Q2 I2 m2, jd_115 9 (some a) (some a) n 0 0 (hh s Q' I') = some (hh s Q2 I2) ∧ jd_308_s103 f n m' = some (.inl (n + 1, m2)) ∧ LpI s Q hm I m a w h cod f T pj (n + 1) Q2 I2 m2 := by
  have a153 := F.1
  have PI := LpI_in F B J n0 nT
  obtain ⟨⟨f0, f8⟩, ⟨b1, b2, b3, b4, b5, b6, b7⟩, ⟨sw, sh⟩, ⟨BB, V⟩, l1, eqs, -, pcs, dst⟩ := B
  obtain ⟨j1, j2, j3, j4, j5, j6, j7, j8, j9⟩ := J
  have t12 : T ≤ 12 := V.2.1
  have vk := V.2.2.2.2.2.2.2
  have F' : FilmAt s Q' hm a f := FilmAt_q (fun x hx => j1 x (by omega) (by omega)) F
  obtain ⟨Q2, I2, M, e1, e2, q1, q2, ⟨r, sp, ⟨r0, r7, s0, s1, rs⟩, u1, u2, u3, u4, u5, u6⟩, u7, u8, u9, u10⟩ := rpic (lo := 0) j2 h6 F' (FlC_F F') (Or.inr a153) (Or.inl rfl) PI
  have m103 : m' 103 = m 103 := j4 103 (by decide) (by decide)
  have Mm : ∀ x : Nat, x ≠ 76 → (x < 107 ∨ (111 < x ∧ x < 114) ∨ 120 < x) → M x = m' x := fun x h1 h2 => u9 x h1 (by omega) (by omega) (by omega) (by omega) (by omega) (by omega)
  obtain ⟨z, hz⟩ : ∃ z, z = 12 * f + n := ⟨_, rfl⟩
  have e35 : m' 76 35 = T := by rw [j5 35 (by decide)]; exact b6
  obtain ⟨m2, c1, c2, c3, c4, c5, c6, c7, c8, c9, c10, ⟨v, c11, c12, c13⟩, c14, c15, c16, c17⟩ := k_308c (M := M) (m := m') (T := T) hz f0 f8 n0 (by rw [u10 35 (by decide)]; exact e35) nT t12 (fun j j0 jT => by rw [Mm 103 (by decide) (by decide), m103]; have := (vk j j0 jT).2.1; omega) (by rw [Mm 102 (by decide) (by decide), j4 102 (by decide) (by decide)]; exact (vk n n0 nT).1) e35 e2
  have zr : 12 * f ≤ z ∧ z < 12 * f + 12 := by omega
  have M102 : M 102 = m 102 := (Mm 102 (by decide) (by decide)).trans (j4 102 (by decide) (by decide))
  have M103 : M 103 = m 103 := (Mm 103 (by decide) (by decide)).trans m103
  have M104 : M 104 = m 104 := (Mm 104 (by decide) (by decide)).trans (j4 104 (by decide) (by decide))
  have M105 : M 105 = m 105 := (Mm 105 (by decide) (by decide)).trans (j4 105 (by decide) (by decide))
  have M106 : M 106 = m 106 := (Mm 106 (by decide) (by decide)).trans (j4 106 (by decide) (by decide))
  have m2109 : m2 109 = M 109 := c2 109 (by decide)
  have jw' : ∀ {g : Int → Int} {v y : Int}, y ≠ z → jiu g z v y = g y := fun hy => jiu_o hy
  have row : ∀ x : Nat, 90 ≤ x → x ≤ 98 → ∀ y : Int, y ≠ z → m2 x y = m' x y := fun x x0 x1 y hy => by
    rw [← Mm x (by omega) (by omega)]
    have hx : x = 90 ∨ x = 91 ∨ x = 92 ∨ x = 93 ∨ x = 94 ∨ x = 95 ∨ x = 96 ∨ x = 97 ∨ x = 98 := by omega
    rcases hx with rfl | rfl | rfl | rfl | rfl | rfl | rfl | rfl | rfl
    · rw [c3, jw' hy]
    · rw [c4, jw' hy]
    · rw [c5, jw' hy]
    · rw [c6, jw' hy]
    · rw [c7, jw' hy]
    · rw [c11, jw' hy]
    · rw [c8, jw' hy]
    · rw [c9, jw' hy]
    · rw [c10, jw' hy]
  refine ⟨Q2, I2, m2, e1, c1, fun x h1 h2 => (q1 x h1 h2).trans (j1 x h1 h2), q2, fun x h1 h2 h3 h4 h5 => ?_, fun x h1 h2 => ?_, fun j hj => ?_, fun x x0 x1 y hy => ?_, fun y hy => ?_, fun y hy => ?_, fun j j0 jn => ?_⟩
  · rw [u8 x h1 (h5 n n0 (by omega)) h2 h3 h4]
    exact j3 x h1 h2 h3 h4 (fun j i0 i1 => h5 j i0 (by omega))
  · rw [c2 x (by omega), Mm x h1 (by omega)]
    exact j4 x h1 h2
  · rw [c2 76 (by decide), u10 j hj]
    exact j5 j hj
  · rw [row x x0 x1 y (by omega)]
    exact j6 x x0 x1 y hy
  · have := c15 y (by omega)
    rw [this.1, this.2, Mm 99 (by decide) (by decide), Mm 100 (by decide) (by decide)]
    exact j7 y hy
  · rw [c17 y (by omega), Mm 101 (by decide) (by decide)]
    exact j8 y hy
  · by_cases cj : j = n
    · -- the new one
      subst cj
      unfold PK
      rw [← hz]
      have n96 : m2 96 z = r := by rw [c8, jiu_e, u3, jiu_e]
      have n97 : m2 97 z = sp := by rw [c9, jiu_e, u4, jiu_e]
      refine ⟨⟨by rw [c3, jiu_e, M102], by rw [c4, jiu_e, M103], by rw [c5, jiu_e, M104], by rw [c6, jiu_e, M105], by rw [c7, jiu_e, M106], by rw [c10, jiu_e], by rw [c11, jiu_e]; exact c12, by rw [c11, jiu_e, c13, M102, M103]⟩, ⟨by rw [n96]; exact r0, by rw [n96]; exact r7, by rw [n97]; exact s0, by rw [n97]; exact s1, by rw [n96, u1, jiu_e], by rw [n97, u2, jiu_e]⟩, fun pl x y p0 p2 x0 x1 y0 y1 => ?_, fun d0 q y q0 q9 y0 y7 => ?_⟩
      · have ps := pl_sz sw sh p0 p2
        have db := dm_b (W := pw w pl) (H := pw h pl) y0 y1 x0 x1
        have U := u5 pl x y p0 p2 x0 x1 y0 y1
        have G := c14 (pf pl + (y * pw w pl + x)) (by omega) (by omega)
        rw [m2109, G.1, G.2, n97]
        refine ⟨U.1, rfl, U.2.1, U.2.2.1, ?_⟩
        rw [show M 110 (864 * j + (pf pl + (y * pw w pl + x))) % 2 % 2 = M 110 (864 * j + (pf pl + (y * pw w pl + x))) % 2 by omega]
        exact U.2.2.2
      · have n9 := N_9 sw sh
        have G := c16 (7 * q + y) (by omega) (by omega)
        rw [show 63 * z + 7 * q + y = 63 * z + (7 * q + y) by omega, G, n97, ← Int.add_assoc]
        exact (u6 d0).1 q y q0 q9 y0 y7
    · -- those before
      have jn' : j < n := by omega
      obtain ⟨⟨k1, k2, k3, k4, k5, k6, k7, k8⟩, ⟨k9, k10, k11, k12, k13, k14⟩, k15, k16⟩ := j9 j j0 jn'
      have ny : 12 * f + j ≠ z := by omega
      have rw' := fun x x0 x1 => row x x0 x1 (12 * f + j) ny
      have P := pcs j j0 (by omega)
      have P6 := P.2.1.2.2.2.2.2.1
      have P1 := P.2.1.1
      have nr10 : ∀ i : Nat, i < 13 → pj j + 1 ≠ a + i := fun i hi e => by
        have g3 := (F.2.1 i hi).2.2.1
        rw [← e, P6] at g3
        have : ∀ j : Fin 13, 864 ≠ (fTag j.val).2 := by decide
        exact this ⟨i, hi⟩ g3
      have ip : I2 (pj j + 1) = I' (pj j + 1) := u8 (pj j + 1) (by omega) (by have := dst j n j0 (by omega) n0 nT cj; omega) (nr10 10 (by decide)) (nr10 11 (by decide)) (nr10 12 (by decide))
      refine ⟨⟨by rw [rw' 90 (by decide) (by decide)]; exact k1, by rw [rw' 91 (by decide) (by decide)]; exact k2, by rw [rw' 92 (by decide) (by decide)]; exact k3, by rw [rw' 93 (by decide) (by decide)]; exact k4, by rw [rw' 94 (by decide) (by decide)]; exact k5, by rw [rw' 98 (by decide) (by decide)]; exact k6, by rw [rw' 95 (by decide) (by decide)]; exact k7, by rw [rw' 95 (by decide) (by decide)]; exact k8⟩, ⟨by rw [rw' 96 (by decide) (by decide)]; exact k9, by rw [rw' 96 (by decide) (by decide)]; exact k10, by rw [rw' 97 (by decide) (by decide)]; exact k11, by rw [rw' 97 (by decide) (by decide)]; exact k12, by rw [rw' 96 (by decide) (by decide), u1, jiu_o cj]; exact k13, by rw [rw' 97 (by decide) (by decide), u2, jiu_o cj]; exact k14⟩, fun pl x y p0 p2 x0 x1 y0 y1 => ?_, fun d0 q y q0 q9 y0 y7 => ?_⟩
      · have ps := pl_sz sw sh p0 p2
        have db := dm_b (W := pw w pl) (H := pw h pl) y0 y1 x0 x1
        have G := c15 (864 * (12 * f + j) + (pf pl + (y * pw w pl + x))) (by omega)
        rw [ip, m2109, (u7 (864 * j + (pf pl + (y * pw w pl + x))) (by omega)).1, G.1, G.2, Mm 99 (by decide) (by decide), Mm 100 (by decide) (by decide), rw' 97 (by decide) (by decide)]
        exact k15 pl x y p0 p2 x0 x1 y0 y1
      · have n9 := N_9 sw sh
        rw [c17 (63 * (12 * f + j) + 7 * q + y) (by omega), Mm 101 (by decide) (by decide), rw' 97 (by decide) (by decide), ((u6 d0).2 ((j * 9 + q) * 7 + y) (by omega)).2]
        exact k16 d0 q y q0 q9 y0 y7
theorem read_l (L : Lay s Q hm) (h6 : s.1 ≤ 1000000) (F : FilmAt s Q hm a f) (B : LpB s Q hm I m a A w h cod f T len pj) : ∃ Q' I' m', jd_197_l36 0 (some a) 0 (hh s Q I) = some (hh s Q' I') ∧ jd_308_l103 f 0 m = some m' ∧ LpI s Q hm I m a w h cod f T pj T Q' I' m' := by
  have a153 := F.1
  have t12 : 1 ≤ T ∧ T ≤ 12 := by obtain ⟨BB, V⟩ := B.2.2.2.1; exact ⟨V.1, V.2.1⟩
  have pcs := B.2.2.2.2.2.2.2.1
  unfold jd_197_l36 jd_308_l103
  have key := w_lp2 (f := fun u : (Int × jH) => jd_197_s36 0 (some a) u.1 u.2) (g := fun u : (Int × jM) => jd_308_s103 f u.1 u.2) (Q := fun x y => ∃ Q' I', x = hh s Q' I' ∧ LpI s Q hm I m a w h cod f T pj T Q' I' y) (fun n u t => ∃ Q' I' m', u = ((n : Int), hh s Q' I') ∧ t = ((n : Int), m') ∧ LpI s Q hm I m a w h cod f T pj (n : Int) Q' I' m') T.toNat (fun n u t hn hu => ?_) (n_fu (n := T.toNat) (by omega)) (n_fu (n := T.toNat) (by omega)) (s0 := (0, hh s Q I)) (t0 := (0, m)) ⟨Q, I, m, rfl, rfl, fun _ _ _ => rfl, L, fun _ _ _ _ _ _ => rfl, fun _ _ _ => rfl, fun _ _ => rfl, fun _ _ _ _ _ => rfl, fun _ _ => ⟨rfl, rfl⟩, fun _ _ => rfl, fun j j0 j1 => absurd j1 (by omega)⟩
  · obtain ⟨x, y, e1, e2, Q', I', rfl, J⟩ := key
    exact ⟨Q', I', y, e1, e2, J⟩
  · obtain ⟨Q', I', m', rfl, rfl, J⟩ := hu
    have F' : FilmAt s Q' hm a f := FilmAt_q (fun x hx => J.1 x (by omega) (by omega)) F
    have ia : I' a = I a := by
      refine J.2.2.1 a (by omega) (by omega) (by omega) (by omega) (fun j j0 j1 e => ?_)
      have t0 := (F.2.1 0 (by decide)).2.1
      have P5 := (pcs j j0 (by omega)).2.1.2.2.2.2.1
      have t0' : s.2.2.1 a = 10 := t0
      rw [e, P5] at t0'
      exact absurd t0' (by decide)
    have iT : I' a ((4 : Nat) : Int) = T := by rw [ia]; exact B.2.1.2.1
    have mT : m' 76 35 = T := by rw [J.2.2.2.2.1 35 (by decide)]; exact B.2.1.2.2.2.2.2.1
    have q14 : Q' 0 ((14 : Nat) : Int) = some 9 := Lq J.2.1 rfl
    dsimp only
    by_cases cn : T ≤ (n : Int)
    · right
      have en : (n : Int) = T := by omega
      rw [en] at J
      refine ⟨hh s Q' I', m', ?_, ?_, Q', I', rfl, J⟩
      · unfold jd_197_s36
        rw [Option.bind_some, F_gi F', Option.bind_some, iT, n_jw (z := T) (by omega) (by omega), n_jw (z := (n : Int)) (by omega) (by omega), if_pos cn]
      · unfold jd_308_s103
        rw [mT, n_jw (z := T) (by omega) (by omega), n_jw (z := (n : Int)) (by omega) (by omega), if_pos cn]
    · left
      obtain ⟨Q2, I2, m2, e1, e2, J2⟩ := LpI_s h6 F B J (by omega) (by omega)
      refine ⟨((n : Int) + 1, hh s Q2 I2), _, ?_, e2, by omega, Q2, I2, m2, by rw [show ((n + 1 : Nat) : Int) = (n : Int) + 1 by omega], by rw [show ((n + 1 : Nat) : Int) = (n : Int) + 1 by omega], by rw [show ((n + 1 : Nat) : Int) = (n : Int) + 1 by omega]; exact J2⟩
      unfold jd_197_s36
      rw [Option.bind_some, F_gi F', Option.bind_some, iT, n_jw (z := T) (by omega) (by omega), n_jw (z := (n : Int)) (by omega) (by omega), if_neg cn, y_gr J.2.1 0 11 rfl rfl, Option.bind_some, q14, Option.bind_some, y_ck J.2.1 9 8 rfl rfl, Option.bind_some, e1, Option.bind_some]
end Loop2
