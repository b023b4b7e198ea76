/-! apply: all samples -/
def cl (z : Int) : Int := if z < 0 then 0 else if 255 < z then 255 else z
theorem cl_b (z : Int) : 0 ≤ cl z ∧ cl z ≤ 255 := by
  unfold cl
  repeat' split
  all_goals omega
theorem cl_c (V : Int) : jw (jd_183 V) = cl (jw V) := by
  unfold jd_183 cl
  by_cases c1 : 0 ≤ jw V
  · rw [if_pos c1, if_neg (show ¬ jw V < 0 by omega)]
    by_cases c2 : jw V ≤ 255
    · rw [if_pos c2, if_neg (show ¬ 255 < jw V by omega)]
    · rw [if_neg c2, if_pos (show 255 < jw V by omega)]
      decide
  · rw [if_neg c1, if_pos (show jw V < 0 by omega)]
    decide
theorem cl_m (V : Int) : jd_205 (jw V) 0 255 = cl (jw V) := by
  have := n_jwr V
  rw [k_205 (by omega) (by omega) (by unfold okI; omega) (by unfold okI; omega)]
  rfl
section Apply
variable {s : hS} {Q : hQ} {hm : hO} {J J0 J' m m0 m' : jM} {a b d : Nat} {f o o2 p q x y t w h n k r : Int}
theorem FEn_J (E : FEn s Q hm J m a b f o p w h) (e1 : J' a = J a) (e2 : J' (a + 1) = J (a + 1)) (e3 : J' b = J b) (e4 : J' (b + 1) = J (b + 1)) : FEn s Q hm J' m a b f o p w h := by
  obtain ⟨F, h6, A, ho, j0, j1, sw, sh, ⟨c1, c2, c3, c4, c5⟩, f0, p0, m7, m8, X⟩ := E
  refine ⟨F, h6, A, ho, by rw [e3]; exact j0, by rw [e3]; exact j1, sw, sh, ⟨by rw [e1]; exact c1, c2, c3, by rw [e2]; exact c4, c5⟩, f0, p0, m7, m8, by rw [e4]; exact X⟩
theorem FEn_m (E : FEn s Q hm J m a b f o p w h) (e1 : ∀ x : Nat, x ≠ 79 → x ≠ 140 → m' x = m x) (e2 : ∀ j : Int, 0 ≤ j → j < 864 → m' 79 (864 * p + j) = m 79 (864 * p + j)) : FEn s Q hm J m' a b f o p w h := by
  obtain ⟨F, h6, A, ho, j0, j1, sw, sh, ⟨c1, c2, c3, c4, c5⟩, f0, p0, m7, m8, X⟩ := E
  have a5 := e1 135 (by decide) (by decide)
  have a6 := e1 136 (by decide) (by decide)
  have a7 := e1 137 (by decide) (by decide)
  have b7 := e1 77 (by decide) (by decide)
  have b8 := e1 78 (by decide) (by decide)
  refine ⟨F, h6, A, ho, j0, j1, sw, sh, ⟨by rw [a5]; exact c1, by rw [a5]; exact c2, by rw [a5]; exact c3, by rw [a5, a6, a7]; exact c4, by rw [a5, a6]; exact c5⟩, f0, p0, by rw [b7]; exact m7, by rw [b8]; exact m8, fun q k q0 q2 k0 k1 => ?_⟩
  have ps := pl_sz sw sh q0 q2
  rw [e2 _ (by omega) (by omega)]
  exact X q k q0 q2 k0 k1
/-- the samples before sample k of plane q are done -/
def ApC (J0 : jM) (a d : Nat) (w h : Int) (val : Int → Int → Int) (q k : Int) (J : jM) : Prop := (∀ c : Nat, c ≠ a + 2 → c ≠ d + 1 → J c = J0 c) ∧ ∀ q' k' : Int, 0 ≤ q' → q' ≤ 2 → 0 ≤ k' → k' < pw w q' * pw h q' → (q' < q ∨ (q' = q ∧ k' < k)) → jw (J (d + 1) (pb w h q' + k')) = val q' k'
def ApM (m0 : jM) (n w h : Int) (val : Int → Int → Int) (q k : Int) (m : jM) : Prop := (∀ x : Nat, x ≠ 79 → x ≠ 140 → m x = m0 x) ∧ (∀ j : Int, ¬ (864 * n ≤ j ∧ j < 864 * n + 864) → m 79 j = m0 79 j) ∧ ∀ q' k' : Int, 0 ≤ q' → q' ≤ 2 → 0 ≤ k' → k' < pw w q' * pw h q' → (q' < q ∨ (q' = q ∧ k' < k)) → m 79 (864 * n + (pf q' + k')) = val q' k'
/-- the value of sample k of plane q -/
def apV (m0 : jM) (f p w t : Int) (q k : Int) : Int := cl (evM m0 f p q (k % pw w q) (k / pw w q) t)
theorem ApC_next (sw : isSd w) (sh : isSd h) {val : Int → Int → Int} (C : ApC J0 a d w h val q (pw w q * pw h q) J) : ApC J0 a d w h val (q + 1) 0 J := by
  refine ⟨C.1, fun q' k' h1 h2 h3 h4 h5 => C.2 q' k' h1 h2 h3 h4 ?_⟩
  by_cases e : q' = q
  · subst e
    exact Or.inr ⟨rfl, h4⟩
  · exact Or.inl (by omega)
theorem ApM_next (sw : isSd w) (sh : isSd h) {val : Int → Int → Int} (C : ApM m0 n w h val q (pw w q * pw h q) m) : ApM m0 n w h val (q + 1) 0 m := by
  refine ⟨C.1, C.2.1, fun q' k' h1 h2 h3 h4 h5 => C.2.2 q' k' h1 h2 h3 h4 ?_⟩
  by_cases e : q' = q
  · subst e
    exact Or.inr ⟨rfl, h4⟩
  · exact Or.inl (by omega)
theorem c_ap87 (L : Lay s Q hm) (E : FEn s Q hm J0 m0 a b f o p w h) (B : PicAt s Q hm d o2) (hQ7 : Q 7 f = some a) (o1 : o2 ≠ 520 + f) (o3 : o ≠ o2) (j0 : J0 d 0 = w) (hq : 0 ≤ q ∧ q ≤ 2) (hr : 0 ≤ r ∧ r < pw h q) (C : ApC J0 a d w h (apV m0 f p w t) q (r * pw w q) J) : ∃ J', jd_170_l87 0 f t (some b) (some d) q r (pb w h q + r * pw w q) 0 (hh s Q J) = some (pb w h q + (r + 1) * pw w q, hh s Q J') ∧ ApC J0 a d w h (apV m0 f p w t) q ((r + 1) * pw w q) J' := by
  obtain ⟨F, h6, A, ho, -, -, sw, sh, -, f0, -, -, -, -⟩ := id E
  have hqo : okI q := by unfold okI; omega
  have bw := pw_sd sw q
  have bh := pw_sd sh q
  have ps := pl_sz sw sh hq.1 hq.2
  have hD := B.2.1.2.2.2
  have hD1 := B.2.2.1.2.2.2
  have n1 : d ≠ a + 2 := fun e => o1 (hD.symm.trans ((congrArg hm e).trans F.2.2.2.1.2.2.2))
  have n2 : d + 1 ≠ a + 2 := fun e => o1 (hD1.symm.trans ((congrArg hm e).trans F.2.2.2.1.2.2.2))
  have n3 : d + 1 ≠ a := fun e => o1 (hD1.symm.trans ((congrArg hm e).trans F.2.1.2.2.2))
  have n4 : d + 1 ≠ a + 1 := fun e => o1 (hD1.symm.trans ((congrArg hm e).trans F.2.2.1.2.2.2))
  have n5 : d + 1 ≠ b := fun e => o3 (A.2.1.2.2.2.symm.trans ((congrArg hm e.symm).trans hD1))
  have n6 : d + 1 ≠ b + 1 := fun e => o3 (A.2.2.1.2.2.2.symm.trans ((congrArg hm e.symm).trans hD1))
  have n7 : b ≠ a + 2 := fun e => ho (A.2.1.2.2.2.symm.trans ((congrArg hm e).trans F.2.2.2.1.2.2.2))
  have n8 : b + 1 ≠ a + 2 := fun e => ho (A.2.2.1.2.2.2.symm.trans ((congrArg hm e).trans F.2.2.2.1.2.2.2))
  obtain ⟨l1, l2, l3⟩ := Pic_ar B
  have e2 : Q d ((2 : Nat) : Int) = some (d + 1) := B.2.2.2
  have e11 : Q 0 ((11 : Nat) : Int) = some 7 := Lq L rfl
  have key : wT (jd_170_l87 0 f t (some b) (some d) q r (pb w h q + r * pw w q) 0 (hh s Q J)) (fun u => u.1 = pb w h q + (r + 1) * pw w q ∧ ∃ J', u.2 = hh s Q J' ∧ ApC J0 a d w h (apV m0 f p w t) q ((r + 1) * pw w q) J') := by
    unfold jd_170_l87
    refine w_lp (f := fun u : (Int × Int × jH) => jd_170_s87 0 f t (some b) (some d) q r u.1 u.2.1 u.2.2) (fun c u => u.1 = pb w h q + (r * pw w q + (c : Int)) ∧ u.2.1 = (c : Int) ∧ ∃ J', u.2.2 = hh s Q J' ∧ ApC J0 a d w h (apV m0 f p w t) q (r * pw w q + (c : Int)) J') (pw w q).toNat (fun c u hc hI => ?_) (n_fu (n := (pw w q).toNat) (by omega)) ⟨by dsimp only; omega, rfl, J, rfl, by rw [show r * pw w q + ((0 : Nat) : Int) = r * pw w q by omega]; exact C⟩
    obtain ⟨u1, u2, u3⟩ := u
    obtain ⟨g1, g2, J1, g3, g4⟩ := hI
    dsimp only at g1 g2 g3 ⊢
    subst g1 g2 g3
    have jd : J1 d = J0 d := g4.1 d n1 (by omega)
    have w0 : J1 d 0 = w := by rw [jd]; exact j0
    unfold jd_170_s87
    rw [Option.bind_some, x_ck B.2.1.1 B.2.1.2.1, Option.bind_some, c_96 B.2.1.1 B.2.1.2.1 w0 sw hqo, Option.bind_some, n_jw (z := pw w q) (by omega) (by omega), n_jw (z := (c : Int)) (by omega) (by omega)]
    by_cases cc : pw w q ≤ (c : Int)
    · rw [if_pos cc]
      have ec : r * pw w q + (c : Int) = (r + 1) * pw w q := by rw [Int.add_mul, Int.one_mul]; omega
      rw [ec] at g4 ⊢
      exact ⟨_, rfl, rfl, J1, rfl, g4⟩
    · have db := dm_b (W := pw w q) (H := pw h q) (r := r) (c := (c : Int)) hr.1 hr.2 (by omega) (by omega)
      have dv := (dm (W := pw w q) (k := r * pw w q + (c : Int)) (r := r) (c := (c : Int)) (by omega) (by omega) (by omega)).mp rfl
      have E1 := FEn_J E (g4.1 a (by omega) (fun e => n3 e.symm)) (g4.1 (a + 1) (by omega) (fun e => n4 e.symm)) (g4.1 b n7 (fun e => n5 e.symm)) (g4.1 (b + 1) n8 (fun e => n6 e.symm))
      obtain ⟨V, S, v1, v2⟩ := ev_c (q := q) (x := (c : Int)) (y := r) (t := t) E1 hq ⟨by omega, by omega⟩ hr
      rw [if_neg cc, Option.bind_some, x_gr B.2.1.1 B.2.1.2.1, Option.bind_some, y_gr L 0 11 rfl rfl, Option.bind_some, e11, Option.bind_some, y_ar L 7 5 8 rfl rfl rfl f0.1 (by omega), Option.bind_some, hQ7, Option.bind_some, x_ck F.2.1.1 F.2.1.2.1, Option.bind_some, v1, Option.bind_some, e2, Option.bind_some]
      dsimp only
      rw [x_ta l1 l2 (by omega) (by rw [l3]; omega) (by rw [l3]; decide), Option.bind_some]
      refine ⟨_, rfl, by omega, by dsimp only; omega, by dsimp only; omega, _, rfl, ?_, ?_⟩
      · intro z z1 z2
        rw [jms_o z2, ims_o z1]
        exact g4.1 z z1 z2
      · intro q' k' h1 h2 h3 h4 h5
        by_cases e : q' = q ∧ k' = r * pw w q + (c : Int)
        · obtain ⟨rfl, rfl⟩ := e
          rw [jms_e, cl_c, v2]
          unfold apV
          rw [dv.1, dv.2]
        · have ne : pb w h q' + k' ≠ pb w h q + (r * pw w q + (c : Int)) := by
            by_cases eq : q' = q
            · subst eq
              omega
            · exact (pl_ne sw sh h1 h2 hq.1 hq.2 eq h3 h4 db.1 db.2).1
          rw [jms_i ne, ims_o n2]
          exact g4.2 q' k' h1 h2 h3 h4 (by omega)
  obtain ⟨u, k1, k2, J', k3, k4⟩ := key
  obtain ⟨u1, u2⟩ := u
  dsimp only at k2 k3
  subst k2 k3
  exact ⟨J', k1, k4⟩
theorem c_ap54 (L : Lay s Q hm) (E : FEn s Q hm J0 m0 a b f o p w h) (B : PicAt s Q hm d o2) (hQ7 : Q 7 f = some a) (o1 : o2 ≠ 520 + f) (o3 : o ≠ o2) (j0 : J0 d 0 = w) (j1 : J0 d 1 = h) : ∃ J', jd_170_l54 0 f t (some b) (some d) 0 (hh s Q J0) = some (hh s Q J') ∧ ApC J0 a d w h (apV m0 f p w t) 3 0 J' := by
  obtain ⟨F, h6, A, ho, -, -, sw, sh, -, f0, -, -, -, -⟩ := id E
  have hD := B.2.1.2.2.2
  have n1 : d ≠ a + 2 := fun e => o1 (hD.symm.trans ((congrArg hm e).trans F.2.2.2.1.2.2.2))
  have rows : ∀ q : Int, (0 ≤ q ∧ q ≤ 2) → ∀ J, ApC J0 a d w h (apV m0 f p w t) q 0 J → ∃ J', jd_170_l72 0 f t (some b) (some d) q (pb w h q) 0 (hh s Q J) = some (hh s Q J') ∧ ApC J0 a d w h (apV m0 f p w t) (q + 1) 0 J' := by
    intro q hq J C
    have hqo : okI q := by unfold okI; omega
    have bw := pw_sd sw q
    have bh := pw_sd sh q
    have key : wT (jd_170_l72 0 f t (some b) (some d) q (pb w h q) 0 (hh s Q J)) (fun u => ∃ J', u = hh s Q J' ∧ ApC J0 a d w h (apV m0 f p w t) (q + 1) 0 J') := by
      unfold jd_170_l72
      refine w_lp (f := fun u : (Int × Int × jH) => jd_170_s72 0 f t (some b) (some d) q u.1 u.2.1 u.2.2) (fun r u => u.1 = pb w h q + (r : Int) * pw w q ∧ u.2.1 = (r : Int) ∧ ∃ J', u.2.2 = hh s Q J' ∧ ApC J0 a d w h (apV m0 f p w t) q ((r : Int) * pw w q) J') (pw h q).toNat (fun r u hr hI => ?_) (n_fu (n := (pw h q).toNat) (by omega)) ⟨by show pb w h q = pb w h q + 0 * pw w q; rw [Int.zero_mul, Int.add_zero], rfl, J, rfl, by rw [show ((0 : Nat) : Int) * pw w q = 0 by rw [show ((0 : Nat) : Int) = 0 from rfl, Int.zero_mul]]; exact C⟩
      obtain ⟨u1, u2, u3⟩ := u
      obtain ⟨g1, g2, J1, g3, g4⟩ := hI
      dsimp only at g1 g2 g3 ⊢
      subst g1 g2 g3
      have jd : J1 d = J0 d := g4.1 d n1 (by omega)
      have w1 : J1 d 1 = h := by rw [jd]; exact j1
      unfold jd_170_s72
      rw [Option.bind_some, x_ck B.2.1.1 B.2.1.2.1, Option.bind_some, c_97 B.2.1.1 B.2.1.2.1 w1 sh hqo, Option.bind_some, n_jw (z := pw h q) (by omega) (by omega), n_jw (z := (r : Int)) (by omega) (by omega)]
      by_cases cc : pw h q ≤ (r : Int)
      · rw [if_pos cc]
        have er : (r : Int) * pw w q = pw w q * pw h q := by rw [show (r : Int) = pw h q by omega, Int.mul_comm]
        rw [er] at g4
        exact ⟨_, rfl, J1, rfl, ApC_next sw sh g4⟩
      · obtain ⟨J2, z1, z2⟩ := c_ap87 (r := (r : Int)) L E B hQ7 o1 o3 j0 hq ⟨by omega, by omega⟩ g4
        rw [if_neg cc, z1, Option.bind_some]
        refine ⟨_, rfl, by omega, ?_, ?_, J2, rfl, ?_⟩
        · dsimp only
          rw [show ((r + 1 : Nat) : Int) = (r : Int) + 1 by omega]
        · dsimp only
          omega
        · rw [show ((r + 1 : Nat) : Int) = (r : Int) + 1 by omega]
          exact z2
    obtain ⟨u, k1, J', k2, k3⟩ := key
    subst k2
    exact ⟨J', k1, k3⟩
  have key : wT (jd_170_l54 0 f t (some b) (some d) 0 (hh s Q J0)) (fun u => ∃ J', u = hh s Q J' ∧ ApC J0 a d w h (apV m0 f p w t) 3 0 J') := by
    unfold jd_170_l54
    refine w_lp (f := fun u : (Int × jH) => jd_170_s54 0 f t (some b) (some d) u.1 u.2) (fun q u => u.1 = (q : Int) ∧ ∃ J', u.2 = hh s Q J' ∧ ApC J0 a d w h (apV m0 f p w t) (q : Int) 0 J') 3 (fun q u hq hI => ?_) (n_fu (by decide)) ⟨rfl, J0, rfl, fun _ _ _ => rfl, fun q' k' h1 h2 h3 h4 h5 => absurd h5 (by omega)⟩
    obtain ⟨u1, u2⟩ := u
    obtain ⟨g1, J1, g2, g3⟩ := hI
    dsimp only at g1 g2 ⊢
    subst g1 g2
    have jd : J1 d = J0 d := g3.1 d n1 (by omega)
    have w0 : J1 d 0 = w := by rw [jd]; exact j0
    have w1 : J1 d 1 = h := by rw [jd]; exact j1
    unfold jd_170_s54
    rw [n_jw (z := (q : Int)) (by omega) (by omega)]
    by_cases cc : 3 ≤ (q : Int)
    · rw [if_pos cc]
      rw [show (q : Int) = 3 by omega] at g3
      exact ⟨_, rfl, J1, rfl, g3⟩
    · obtain ⟨J2, z1, z2⟩ := rows (q : Int) (by omega) J1 g3
      rw [if_neg cc, Option.bind_some, x_ck B.2.1.1 B.2.1.2.1, Option.bind_some, c_98 B.2.1.1 B.2.1.2.1 w0 w1 sw sh (by unfold okI; omega), Option.bind_some, z1, Option.bind_some]
      exact ⟨_, rfl, by omega, by dsimp only; omega, J2, rfl, by rw [show ((q + 1 : Nat) : Int) = (q : Int) + 1 by omega]; exact z2⟩
  obtain ⟨u, k1, J', k2, k3⟩ := key
  subst k2
  exact ⟨J', k1, k3⟩
theorem k_ap88 (E : FEn s Q hm J0 m0 a b f o p w h) (n0 : 0 ≤ n ∧ n < 60) (np : n ≠ p) (en : m0 76 1 = n) : ∃ m', jd_347_l88 f p t 0 m0 = some m' ∧ ApM m0 n w h (apV m0 f p w t) 3 0 m' := by
  obtain ⟨F, h6, A, ho, -, -, sw, sh, -, f0, p0, m7, m8, -⟩ := id E
  have pln : ∀ q : Int, (0 ≤ q ∧ q ≤ 2) → ∀ m, ApM m0 n w h (apV m0 f p w t) q 0 m → ∃ m', jd_347_l110 f p t q (pw w q) 0 m = some m' ∧ ApM m0 n w h (apV m0 f p w t) (q + 1) 0 m' := by
    intro q hq m C
    have hqo : okI q := by unfold okI; omega
    have bw := pw_sd sw q
    have bh := pw_sd sh q
    have ps := pl_sz sw sh hq.1 hq.2
    have key : wT (jd_347_l110 f p t q (pw w q) 0 m) (fun m' => ApM m0 n w h (apV m0 f p w t) q (pw w q * pw h q) m') := by
      unfold jd_347_l110
      refine w_lp (f := fun u : (Int × jM) => jd_347_s110 f p t q (pw w q) u.1 u.2) (fun k u => u.1 = (k : Int) ∧ ApM m0 n w h (apV m0 f p w t) q (k : Int) u.2) (pw w q * pw h q).toNat (fun k u hk hI => ?_) (n_fu (n := (pw w q * pw h q).toNat) (by omega)) ⟨rfl, C⟩
      obtain ⟨u1, m1⟩ := u
      obtain ⟨g1, g2⟩ := hI
      dsimp only at g1 g2 ⊢
      subst g1
      have e7 : m1 77 p = w := by rw [g2.1 77 (by decide) (by decide)]; exact m7
      have e8 : m1 78 p = h := by rw [g2.1 78 (by decide) (by decide)]; exact m8
      have k13 := k_213 (m := m1) p0 hqo (by rw [e7]; exact sw) (by rw [e8]; exact sh)
      rw [e7, e8] at k13
      unfold jd_347_s110
      rw [k13, Option.bind_some, n_jw (z := pw w q * pw h q) (by omega) (by omega), n_jw (z := (k : Int)) (by omega) (by omega)]
      by_cases cc : pw w q * pw h q ≤ (k : Int)
      · rw [if_pos cc]
        rw [show (k : Int) = pw w q * pw h q by omega] at g2
        exact ⟨_, rfl, g2⟩
      · have dr := dm_r (W := pw w q) (H := pw h q) (k := (k : Int)) (by omega) (by omega) (by omega)
        have E1 : FEn s Q hm J0 m1 a b f o p w h := FEn_m E g2.1 (fun j j0 j1 => g2.2.1 _ (by omega))
        obtain ⟨V, T, v1, v2⟩ := ev_m (q := q) (x := (k : Int) % pw w q) (y := (k : Int) / pw w q) (t := t) E E1 hq ⟨dr.2.2.1, dr.2.2.2⟩ ⟨dr.1, dr.2.1⟩
        have nz : jnz (pw w q) = some () := by
          unfold jnz
          rw [n_jw (by omega) (by omega)]
          exact if_neg (by omega)
        have e1 : m1 76 1 = n := by rw [g2.1 76 (by decide) (by decide)]; exact en
        rw [if_neg cc, nz, Option.bind_some, Option.bind_some, n_rem (by omega) (by omega) (by omega) (by omega), n_div (by omega) (by omega) (by omega) (by omega), v1, Option.bind_some]
        dsimp only
        rw [cl_m, v2, k_207 hqo, e1, Int.add_assoc, y_mw 79 51840 rfl rfl (by omega) (by omega), Option.bind_some]
        refine ⟨_, rfl, by omega, by dsimp only; omega, ?_, ?_, ?_⟩
        · intro x x1 x2
          dsimp only
          rw [jms_o x1, ims_o x2]
          exact g2.1 x x1 x2
        · intro j hj
          dsimp only
          rw [jms_i (by omega), ims_o (by decide)]
          exact g2.2.1 j hj
        · intro q' k' h1 h2 h3 h4 h5
          by_cases e : q' = q ∧ k' = (k : Int)
          · obtain ⟨rfl, rfl⟩ := e
            dsimp only
            rw [jms_e]
            rfl
          · have ne : 864 * n + (pf q' + k') ≠ 864 * n + (pf q + (k : Int)) := by
              by_cases eq : q' = q
              · subst eq
                omega
              · have := (pl_ne sw sh h1 h2 hq.1 hq.2 eq h3 h4 (show 0 ≤ (k : Int) by omega) (by omega)).2
                omega
            dsimp only
            rw [jms_i ne, ims_o (by decide)]
            exact g2.2.2 q' k' h1 h2 h3 h4 (by omega)
    obtain ⟨m', k1, k2⟩ := key
    exact ⟨m', k1, ApM_next sw sh k2⟩
  have key : wT (jd_347_l88 f p t 0 m0) (fun m' => ApM m0 n w h (apV m0 f p w t) 3 0 m') := by
    unfold jd_347_l88
    refine w_lp (f := fun u : (Int × jM) => jd_347_s88 f p t u.1 u.2) (fun q u => u.1 = (q : Int) ∧ ApM m0 n w h (apV m0 f p w t) (q : Int) 0 u.2) 3 (fun q u hq hI => ?_) (n_fu (by decide)) ⟨rfl, fun _ _ _ => rfl, fun _ _ => rfl, fun q' k' h1 h2 h3 h4 h5 => absurd h5 (by omega)⟩
    obtain ⟨u1, m1⟩ := u
    obtain ⟨g1, g2⟩ := hI
    dsimp only at g1 g2 ⊢
    subst g1
    unfold jd_347_s88
    rw [n_jw (z := (q : Int)) (by omega) (by omega)]
    by_cases cc : 3 ≤ (q : Int)
    · rw [if_pos cc]
      rw [show (q : Int) = 3 by omega] at g2
      exact ⟨_, rfl, g2⟩
    · have e7 : m1 77 p = w := by rw [g2.1 77 (by decide) (by decide)]; exact m7
      obtain ⟨m2, z1, z2⟩ := pln (q : Int) (by omega) m1 g2
      rw [if_neg cc, y_ma 77 60 rfl rfl p0.1 (by omega), Option.bind_some, e7, k_206 (by unfold okI; omega) sw, z1, Option.bind_some]
      exact ⟨_, rfl, by omega, by dsimp only; omega, by rw [show ((q + 1 : Nat) : Int) = (q : Int) + 1 by omega]; exact z2⟩
  exact key
end Apply
