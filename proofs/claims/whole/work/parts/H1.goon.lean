/-! tick: a player goes on, class -/
section GoOnC
variable {s : hS} {Q : hQ} {hm : hO} {I : jM} {f W n T ps st dl pr rt e : Int} {a k : Nat}
theorem c_112h (L : Lay s Q hm) (F : FilmAt s Q hm a f) (hk : k < 4) (q0 : Q (72 + k) 0 = some a) (i6 : I a 6 = n) (i4 : I a 4 = T) (p2 : I (72 + k) 2 = pr) (p9 : I (72 + k) 9 = rt) (p3 : I (72 + k) 3 = ps) (p10 : I (72 + k) 10 = dl) (p11 : I (72 + k) 11 = st) (bn : 0 ≤ n ∧ n ≤ 100000) (bT : 0 ≤ T ∧ T ≤ 12) (bp : 0 ≤ pr ∧ pr ≤ n) (br : 1 ≤ rt ∧ rt ≤ 4000) (bs : 0 ≤ ps ∧ ps ≤ T) (bd : 0 ≤ dl ∧ dl ≤ 4000) (bt : 0 ≤ st ∧ st ≤ pr) (hW : W = if pr + rt < n then pr + rt else n) : jd_112 (72 + k) (hh s Q I) = if ps < T then jd_112_b83 (72 + k) (if I (72 + k) 4 % 2 = 1 ∨ dl ≤ W - st ∨ W = n then 1 else 0) (hh s Q (jms I (72 + k) 2 W)) else some (-3, hh s Q (jms I (72 + k) 2 W)) := by
  obtain ⟨g1, g2, -⟩ := skp hk
  have a153 := F.1
  have Wb : 0 ≤ W ∧ W ≤ n := by
    rw [hW]
    split <;> omega
  have q0' : Q (72 + k) ((0 : Nat) : Int) = some a := q0
  have e6 : I a ((6 : Nat) : Int) = n := i6
  have e2 : I (72 + k) ((2 : Nat) : Int) = pr := p2
  have e9 : I (72 + k) ((9 : Nat) : Int) = rt := p9
  obtain ⟨J, hJ⟩ : ∃ J, J = jms I (72 + k) 2 W := ⟨_, rfl⟩
  have j3 : J (72 + k) ((3 : Nat) : Int) = ps := by rw [hJ, jms_i (by decide)]; exact p3
  have j2 : J (72 + k) ((2 : Nat) : Int) = W := by rw [hJ]; exact jms_e
  have j4 : J (72 + k) ((4 : Nat) : Int) = I (72 + k) 4 := by rw [hJ, jms_i (by decide)]; rfl
  have j10 : J (72 + k) ((10 : Nat) : Int) = dl := by rw [hJ, jms_i (by decide)]; exact p10
  have j11 : J (72 + k) ((11 : Nat) : Int) = st := by rw [hJ, jms_i (by decide)]; exact p11
  have ja : ∀ z, J a z = I a z := fun z => by rw [hJ, jms_o (by omega)]
  have ja4 : J a ((4 : Nat) : Int) = T := by rw [ja]; exact i4
  have ja6 : J a ((6 : Nat) : Int) = n := by rw [ja]; exact i6
  have hW' : (if jw (pr + rt) < jw n then pr + rt else n) = W := by
    rw [n_jw (z := pr + rt) (by omega) (by omega), n_jw (z := n) (by omega) (by omega), hW]
  have hJ' : jms I (72 + k) ((2 : Nat) : Int) W = J := hJ.symm
  unfold jd_112 jd_112_b78
  rw [y_gr L (72 + k) 7 g1 g2, Option.bind_some, q0', Option.bind_some, F_gi F, Option.bind_some, y_gi L (72 + k) 7 g1 g2, Option.bind_some, y_gi L (72 + k) 7 g1 g2, Option.bind_some, e6, e2, e9, hW', y_pi L (72 + k) 7 g1 g2, Option.bind_some, hJ', ← hJ, y_gi L (72 + k) 7 g1 g2, Option.bind_some, y_gr L (72 + k) 7 g1 g2, Option.bind_some, q0', Option.bind_some, F_gi F, Option.bind_some, ja4, j3, n_jw (z := ps) (by omega) (by omega), n_jw (z := T) (by omega) (by omega)]
  by_cases c : ps < T
  · rw [if_pos c, if_pos c, y_gb L (72 + k) 7 g1 g2, Option.bind_some, j4, n_jw (z := I (72 + k) 4 % 2) (by omega) (by omega)]
    by_cases c2 : I (72 + k) 4 % 2 = 0
    · rw [if_pos c2, y_gi L (72 + k) 7 g1 g2, Option.bind_some, j2, y_gi L (72 + k) 7 g1 g2, Option.bind_some, j11, y_gi L (72 + k) 7 g1 g2, Option.bind_some, j10, n_jw (z := dl) (by omega) (by omega), n_jw (z := W - st) (by omega) (by omega)]
      by_cases c3 : dl ≤ W - st
      · rw [if_pos c3, if_pos (show I (72 + k) 4 % 2 = 1 ∨ dl ≤ W - st ∨ W = n by omega)]
      · rw [if_neg c3, Option.bind_some, Option.bind_some, Option.bind_some, F_gi F, Option.bind_some, ja6, n_jw (z := W) (by omega) (by omega), n_jw (z := n) (by omega) (by omega)]
        by_cases c4 : W = n
        · rw [if_pos c4, if_pos (show I (72 + k) 4 % 2 = 1 ∨ dl ≤ W - st ∨ W = n by omega)]
        · rw [if_neg c4, if_neg (show ¬ (I (72 + k) 4 % 2 = 1 ∨ dl ≤ W - st ∨ W = n) by omega)]
    · rw [if_neg c2, if_pos (show I (72 + k) 4 % 2 = 1 ∨ dl ≤ W - st ∨ W = n by omega)]
  · rw [if_neg c, if_neg c]
theorem c_112z (L : Lay s Q hm) (hk : k < 4) : jd_112_b83 (72 + k) 0 (hh s Q I) = some (-2, hh s Q (jms I (72 + k) 4 0)) := by
  obtain ⟨g1, g2, -⟩ := skp hk
  have e : jms I (72 + k) ((4 : Nat) : Int) 0 (72 + k) ((4 : Nat) : Int) = 0 := jms_e
  unfold jd_112_b83
  rw [show jbc 0 = some () from rfl, Option.bind_some, y_pi L (72 + k) 7 g1 g2, Option.bind_some, y_gb L (72 + k) 7 g1 g2, Option.bind_some, e, if_pos (show jw (0 % 2) = 0 by decide)]
  rfl
theorem c_112o (L : Lay s Q hm) (h6 : s.1 ≤ 1000000) (F : FilmAt s Q hm a f) (hk : k < 4) (q0 : Q (72 + k) 0 = some a) (p3 : I (72 + k) 3 = ps) (p2 : I (72 + k) 2 = W) (bs : 0 ≤ ps ∧ ps < 12) (he : I (a + 6) ps = e) (be : 0 ≤ e ∧ e < 12) (bW : 0 ≤ W ∧ W ≤ 100000) (bE : 0 ≤ I (a + 5) e + 5 + I (a + 4) e ∧ I (a + 5) e + 5 + I (a + 4) e ≤ 100000) : jd_112_b83 (72 + k) 1 (hh s Q I) = if I (a + 5) e + 5 + I (a + 4) e ≤ W then some (ps, hh s Q (jms (jms (jms I (72 + k) 4 1) (72 + k) 6 ps) (72 + k) 3 (ps + 1))) else some (-1, hh s Q (jms (jms I (72 + k) 4 1) (72 + k) 5 (I (72 + k) 5 + 1))) := by
  obtain ⟨g1, g2, -⟩ := skp hk
  have a153 := F.1
  obtain ⟨J, hJ⟩ : ∃ J, J = jms I (72 + k) 4 1 := ⟨_, rfl⟩
  have hJ' : jms I (72 + k) ((4 : Nat) : Int) 1 = J := hJ.symm
  have j4 : J (72 + k) ((4 : Nat) : Int) = 1 := by rw [hJ]; exact jms_e
  have j2 : J (72 + k) ((2 : Nat) : Int) = W := by rw [hJ, jms_i (by decide)]; exact p2
  have j3 : J (72 + k) ((3 : Nat) : Int) = ps := by rw [hJ, jms_i (by decide)]; exact p3
  have j5 : J (72 + k) ((5 : Nat) : Int) = I (72 + k) 5 := by rw [hJ, jms_i (by decide)]; rfl
  have q0' : Q (72 + k) ((0 : Nat) : Int) = some a := q0
  have q12 : Q a ((12 : Nat) : Int) = some (a + 6) := F_q F 5 12 rfl rfl
  have ja : ∀ b : Nat, 153 ≤ b → J b = I b := fun b hb => by rw [hJ, jms_o (by omega)]
  unfold jd_112_b83
  rw [show jbc 1 = some () from rfl, Option.bind_some, y_pi L (72 + k) 7 g1 g2, Option.bind_some, hJ', ← hJ, y_gb L (72 + k) 7 g1 g2, Option.bind_some, j4, if_neg (show ¬ jw (1 % 2) = 0 by decide), y_gi L (72 + k) 7 g1 g2, Option.bind_some, j2, y_gr L (72 + k) 7 g1 g2, Option.bind_some, Option.bind_some, q0', Option.bind_some, F_gr F, Option.bind_some, q12, y_gi L (72 + k) 7 g1 g2, Option.bind_some, j3, Option.bind_some, F_ai F h6 6 12 rfl rfl rfl bs.1 bs.2, Option.bind_some, ja (a + 6) (by omega), he, Option.bind_some, F_ck F, Option.bind_some, c_42 F h6 be.1 be.2, Option.bind_some, ja (a + 5) (by omega), ja (a + 4) (by omega), n_jw (z := W) (by omega) (by omega), n_jw (z := I (a + 5) e + 5 + I (a + 4) e) (by omega) (by omega)]
  by_cases c : I (a + 5) e + 5 + I (a + 4) e ≤ W
  · have x1 : jms J (72 + k) ((6 : Nat) : Int) ps (72 + k) ((3 : Nat) : Int) = ps := by rw [jms_i (by decide)]; exact j3
    have x2 : jms (jms J (72 + k) ((6 : Nat) : Int) ps) (72 + k) ((3 : Nat) : Int) (ps + 1) (72 + k) ((6 : Nat) : Int) = ps := by rw [jms_i (by decide), jms_e]
    rw [if_pos c, if_pos c, Option.bind_some, y_pi L (72 + k) 7 g1 g2, Option.bind_some, y_gi L (72 + k) 7 g1 g2, Option.bind_some, x1, y_pi L (72 + k) 7 g1 g2, Option.bind_some, y_gi L (72 + k) 7 g1 g2, Option.bind_some, x2]
    rfl
  · rw [if_neg c, if_neg c, y_gi L (72 + k) 7 g1 g2, Option.bind_some, j5, y_pi L (72 + k) 7 g1 g2, Option.bind_some]
    rfl
end GoOnC
