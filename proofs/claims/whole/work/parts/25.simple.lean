/-! simple calls -/
section Simple
variable {s : hS} {Q : hQ} {hm : hO} {I m : jM} {p q x y v : Int}
theorem Sm_0 {z v : Int} (L : Lay s Q hm) : Sm (fun o => o ≠ 1000) s Q hm I s Q hm (jms I 0 z v) := Sm_jms (by rw [Lo L rfl]; decide)
theorem si_wipe (R : RelH s Q hm I m) : SimN (jd_151 0 (hh s Q I)) (jd_226 m) s Q I := by
  obtain ⟨L, r1, r2, r3, r4, r5, r6, r7, r8, r9⟩ := R
  have e1 : jd_151 0 (hh s Q I) = some (I 0 3, hh s Q (jms I 0 3 0)) := by
    unfold jd_151
    rw [y_gi L 0 11 rfl rfl, Option.bind_some, y_pi L 0 11 rfl rfl, Option.bind_some]
    rfl
  have S : Sm (fun o => o ≠ 1000) s Q hm I s Q hm (jms I 0 3 0) := Sm_0 L
  have hE : ∀ x : Nat, 77 ≤ x → jms (jms m 76 0 0) 76 5 0 x = m x := fun x hx => (jms_o (show x ≠ 76 by omega)).trans (jms_o (show x ≠ 76 by omega))
  refine ⟨I 0 3, m 76 5, s, Q, jms I 0 3 0, jms (jms m 76 0 0) 76 5 0, e1, rfl, by rw [r2.1], Kp_of L S (fun i _ _ => by omega), Gr_refl, hm, ?_⟩
  exact ⟨L, RPic_fr (m := m) L S (by omega) (fun i _ _ => by omega) (rfl) (rfl) (rfl) (rfl) (rfl) r1, ⟨rfl, Int.le_refl 0, (by decide : (0 : Int) ≤ 4000), fun i h1 h2 => absurd h2 (Int.not_lt.mpr h1)⟩, RSet_fr (I := I) (m := m) (Lay_fr L S (by decide) (by omega)).2 (rfl) r3, RRee_fr (m := m) L S (by omega) (fun i _ _ => by omega) (rfl) (rfl) (rfl) (rfl) (rfl) r4, RFil_fr (m := m) L S (by omega) (fun i _ _ => by omega) (fun i _ _ => by omega) (fun i _ _ => by omega) (rfl) (rfl) (fun x _ _ => hE x (by omega)) r5, RRow_fr (I := I) (m := m) (rfl) (Lay_fr L S (by decide) (by omega)).2 (rfl) (rfl) (rfl) (rfl) (rfl) (rfl) (rfl) r6, RFlt_fr (m := m) L S (by omega) (fun i _ _ => by omega) (rfl) (rfl) (rfl) (rfl) (rfl) r7, RPly_fr (m := m) L S (by omega) (fun i _ _ => by omega) (fun i _ _ => by omega) (rfl) (fun x _ _ => hE x (by omega)) (fun x _ _ => hE x (by omega)) r9 r8, RMis_fr L S (by omega) (by omega) (by omega) (fun i _ _ => by omega) (fun i _ _ => by omega) (fun i _ _ => by omega) r9⟩
theorem si_unreel (R : RelH s Q hm I m) : SimN (jd_154 0 (hh s Q I)) (jd_298 m) s Q I := by
  obtain ⟨L, r1, r2, r3, r4, r5, r6, r7, r8, r9⟩ := R
  have e1 : jd_154 0 (hh s Q I) = some (I 0 6, hh s Q (jms I 0 6 0)) := by
    unfold jd_154
    rw [y_gi L 0 11 rfl rfl, Option.bind_some, y_pi L 0 11 rfl rfl, Option.bind_some]
    rfl
  have S : Sm (fun o => o ≠ 1000) s Q hm I s Q hm (jms I 0 6 0) := Sm_0 L
  have hE : ∀ x : Nat, 77 ≤ x → jms (jms m 76 0 0) 76 7 0 x = m x := fun x hx => (jms_o (show x ≠ 76 by omega)).trans (jms_o (show x ≠ 76 by omega))
  refine ⟨I 0 6, m 76 7, s, Q, jms I 0 6 0, jms (jms m 76 0 0) 76 7 0, e1, rfl, by rw [r4.1], Kp_of L S (fun i _ _ => by omega), Gr_refl, hm, ?_⟩
  exact ⟨L, RPic_fr (m := m) L S (by omega) (fun i _ _ => by omega) (rfl) (rfl) (rfl) (rfl) (rfl) r1, RTap_fr (I := I) (m := m) (rfl) (Lay_fr L S (by decide) (by omega)).2 (rfl) (rfl) r2, RSet_fr (I := I) (m := m) (Lay_fr L S (by decide) (by omega)).2 (rfl) r3, ⟨rfl, Int.le_refl 0, (by decide : (0 : Int) ≤ 12), r4.2.2.2.1, fun i h1 h2 => absurd h2 (Int.not_lt.mpr h1)⟩, RFil_fr (m := m) L S (by omega) (fun i _ _ => by omega) (fun i _ _ => by omega) (fun i _ _ => by omega) (rfl) (rfl) (fun x _ _ => hE x (by omega)) r5, RRow_fr (I := I) (m := m) (rfl) (Lay_fr L S (by decide) (by omega)).2 (rfl) (rfl) (rfl) (rfl) (rfl) (rfl) (rfl) r6, RFlt_fr (m := m) L S (by omega) (fun i _ _ => by omega) (rfl) (rfl) (rfl) (rfl) (rfl) r7, RPly_fr (m := m) L S (by omega) (fun i _ _ => by omega) (fun i _ _ => by omega) (rfl) (fun x _ _ => hE x (by omega)) (fun x _ _ => hE x (by omega)) r9 r8, RMis_fr L S (by omega) (by omega) (by omega) (fun i _ _ => by omega) (fun i _ _ => by omega) (fun i _ _ => by omega) r9⟩
theorem si_tape (R : RelH s Q hm I m) (hp : okI p) : (jd_150 0 p (hh s Q I) = some (if 0 ≤ p ∧ p < m 76 5 then m 80 p else -1)) ∧ jd_225 p m = some (if 0 ≤ p ∧ p < m 76 5 then m 80 p else -1, jms m 76 0 0) := by
  obtain ⟨L, r1, ⟨t1, t2, t3, t4⟩, -⟩ := R
  have e1 : I 0 ((3 : Nat) : Int) = m 76 5 := t1
  have e2 : Q 0 ((2 : Nat) : Int) = some 2 := Lq L rfl
  have ep := n_jw hp.1 hp.2
  have m5 : (jms m 76 0 0) 76 5 = m 76 5 := rfl
  have hi := x_in (x := p) (lo := 0) (hi := m 76 5 - 1) (by have := hp.1; omega) (by have := hp.2; omega) (by decide) (by decide) (by omega) (by omega)
  unfold jd_150 jd_150_b12 jd_150_b26 jd_225 jd_225_b31
  rw [ep, Option.bind_some, m5, n_jw (z := m 76 5 - 1) (by omega) (by omega), hi]
  by_cases hc : 0 ≤ p ∧ p < m 76 5
  · rw [if_pos hc, if_neg (by omega), y_gi L 0 11 rfl rfl, Option.bind_some, e1, n_jw (z := m 76 5) (by omega) (by omega), if_pos hc.2, y_gr L 0 11 rfl rfl, Option.bind_some, e2, Option.bind_some, y_ab L 2 4000 rfl rfl rfl hc.1 (by omega), Option.bind_some, n_and255, n_jwb_m', ← t4 p hc.1 hc.2, if_pos (show (0 ≤ p ∧ p ≤ m 76 5 - 1) by omega), if_neg (by decide), y_ma 80 4000 rfl rfl hc.1 (show p < ((4000 : Nat) : Int) by omega), Option.bind_some]
    exact ⟨rfl, rfl⟩
  · rw [if_neg hc, if_neg (show ¬ (0 ≤ p ∧ p ≤ m 76 5 - 1) by omega), if_pos rfl]
    refine ⟨?_, rfl⟩
    by_cases h0 : p < 0
    · rw [if_pos h0]
    · rw [if_neg h0, y_gi L 0 11 rfl rfl, Option.bind_some, e1, n_jw (z := m 76 5) (by omega) (by omega), if_neg (by omega)]
theorem si_alter (R : RelH s Q hm I m) (h6 : s.1 < 1000000) (hp : okI p) : SimI (jd_149 0 p q (hh s Q I)) (jd_224 p q m) (fun E => if E = 2 then 1 else 0) s Q I := by
  have R0 := R
  obtain ⟨L, r1, r2, r3, r4, r5, r6, r7, r8, r9⟩ := R
  obtain ⟨t1, t2, t3, t4⟩ := id r2
  have e1 : I 0 ((3 : Nat) : Int) = m 76 5 := t1
  have e2 : Q 0 ((2 : Nat) : Int) = some 2 := Lq L rfl
  have ep := n_jw hp.1 hp.2
  have hi := x_in (x := p) (lo := 0) (hi := m 76 5 - 1) (by have := hp.1; omega) (by have := hp.2; omega) (by decide) (by decide) (by omega) (by omega)
  by_cases hc : 0 ≤ p ∧ p < m 76 5
  · have eC : jd_149 0 p q (hh s Q I) = some (.inl (m 80 p), hh s Q (jms I 2 p (jwb q))) := by
      unfold jd_149
      rw [ep, if_neg (by omega), y_gi L 0 11 rfl rfl, Option.bind_some, e1, n_jw (z := m 76 5) (by omega) (by omega), if_pos hc.2, y_gr L 0 11 rfl rfl, Option.bind_some, e2, Option.bind_some, y_ab L 2 4000 rfl rfl rfl hc.1 (by omega), Option.bind_some, Option.bind_some, Option.bind_some, y_ta L 2 1 4000 rfl rfl rfl hc.1 (by omega), Option.bind_some, n_and255, n_jwb_m', ← t4 p hc.1 hc.2]
    have eM : jd_224 p q m = some (m 80 p, jms (jms m 76 0 0) 80 p (q % 256)) := by
      unfold jd_224 jd_224_b22
      rw [ep, n_jw (z := m 76 5 - 1) (by omega) (by omega), hi, if_pos (show (0 ≤ p ∧ p ≤ m 76 5 - 1) by omega), if_neg (show ¬ ((1 : Int) = 0) by decide), Option.bind_some, jms_e, if_pos (by decide), y_ma 80 4000 rfl rfl hc.1 (show p < ((4000 : Nat) : Int) by omega), Option.bind_some, y_mw 80 4000 rfl rfl hc.1 (show p < ((4000 : Nat) : Int) by omega), Option.bind_some, n_and255]
      rfl
    have S : Sm (fun o => o ≠ 1002) s Q hm I s Q hm (jms I 2 p (jwb q)) := Sm_jms (by rw [Lo L rfl]; decide)
    have hE : ∀ x : Nat, 81 ≤ x → jms (jms m 76 0 0) 80 p (q % 256) x = m x := fun x hx => (jms_o (show x ≠ 80 by omega)).trans (jms_o (show x ≠ 76 by omega))
    refine Or.inl ⟨m 80 p, m 80 p, s, Q, _, _, eC, eM, rfl, rfl, Kp_of L S (fun i _ _ => by omega), Gr_refl, hm, ?_⟩
    refine ⟨L, RPic_fr (m := m) L S (by omega) (fun i _ _ => by omega) (rfl) (rfl) (rfl) (rfl) (rfl) r1, ⟨t1, t2, t3, fun i h1 h2 => ?_⟩, RSet_fr (I := I) (m := m) (Lay_fr L S (by decide) (by omega)).2 (rfl) r3, RRee_fr (m := m) L S (by omega) (fun i _ _ => by omega) (rfl) (rfl) (rfl) (rfl) (rfl) r4, RFil_fr (m := m) L S (by omega) (fun i _ _ => by omega) (fun i _ _ => by omega) (fun i _ _ => by omega) (rfl) (rfl) (fun x _ _ => hE x (by omega)) r5, RRow_fr (I := I) (m := m) (rfl) (Lay_fr L S (by decide) (by omega)).2 (rfl) (rfl) (rfl) (rfl) (rfl) (rfl) (rfl) r6, RFlt_fr (m := m) L S (by omega) (fun i _ _ => by omega) (rfl) (rfl) (rfl) (rfl) (rfl) r7, RPly_fr (m := m) L S (by omega) (fun i _ _ => by omega) (fun i _ _ => by omega) (rfl) (fun x _ _ => hE x (by omega)) (fun x _ _ => hE x (by omega)) r9 r8, RMis_fr L S (by omega) (by omega) (by omega) (fun i _ _ => by omega) (fun i _ _ => by omega) (fun i _ _ => by omega) r9⟩
    by_cases hi : i = p
    · subst hi
      rw [jms_e, jms_e, n_jwb_m']
    · rw [jms_i hi, jms_i hi]
      exact t4 i h1 h2
  · refine SimI_th (E := 2) (b := 0) R0 ?_ ?_ (by decide)
    · unfold jd_149 jd_149_b12
      rw [ep, x_6 h6, Option.bind_some]
      by_cases h0 : p < 0
      · rw [if_pos h0]
      · rw [if_neg h0, y_gi L 0 11 rfl rfl, Option.bind_some, e1, n_jw (z := m 76 5) (by omega) (by omega), if_neg (by omega)]
    · unfold jd_224 jd_224_b22
      rw [ep, n_jw (z := m 76 5 - 1) (by omega) (by omega), hi, if_neg (show ¬ (0 ≤ p ∧ p ≤ m 76 5 - 1) by omega), if_pos rfl, Option.bind_some, jms_e, if_neg (by decide)]
      rfl
theorem si_drop (R : RelH s Q hm I m) (h6 : s.1 < 1000000) (hp : okI p) : SimI (jd_147 0 p (hh s Q I)) (jd_222 p m) (fun E => if E = 0 then 1 else 0) s Q I := by
  have R0 := R
  obtain ⟨L, r1, r2, r3, r4, r5, r6, r7, r8, r9⟩ := R
  obtain ⟨t1, t2, t3, t4, t5⟩ := id r1
  have e1 : I 0 ((1 : Nat) : Int) = m 76 1 := t1
  have ep := n_jw hp.1 hp.2
  by_cases hc : 0 ≤ p
  · have eC : jd_147 0 p (hh s Q I) = some (.inl (if p < m 76 1 then p else m 76 1), hh s Q (jms I 0 1 (if p < m 76 1 then p else m 76 1))) := by
      unfold jd_147
      rw [ep, if_pos hc, y_gi L 0 11 rfl rfl, Option.bind_some, e1, n_jw (z := m 76 1) (by omega) (by omega), y_pi L 0 11 rfl rfl, Option.bind_some, y_gi L 0 11 rfl rfl, Option.bind_some, jms_e]
      rfl
    have eM : jd_222 p m = some (if p < m 76 1 then p else m 76 1, jms (jms m 76 0 0) 76 1 (if p < m 76 1 then p else m 76 1)) := by
      unfold jd_222
      have m1 : (jms m 76 0 0) 76 1 = m 76 1 := rfl
      rw [ep, if_pos hc, Option.bind_some, jms_e, if_pos (by decide), m1, n_jw (z := m 76 1) (by omega) (by omega), Option.bind_some, jms_e]
      have : (if m 76 1 ≤ p then m 76 1 else p) = (if p < m 76 1 then p else m 76 1) := by split <;> split <;> omega
      rw [this]
    have S := Sm_0 (I := I) (z := 1) (v := if p < m 76 1 then p else m 76 1) L
    refine Or.inl ⟨_, _, s, Q, _, _, eC, eM, rfl, rfl, Kp_of L S (fun i _ _ => by omega), Gr_refl, hm, ?_⟩
    have hq : (if p < m 76 1 then p else m 76 1) ≤ m 76 1 ∧ 0 ≤ (if p < m 76 1 then p else m 76 1) := by split <;> omega
    generalize (if p < m 76 1 then p else m 76 1) = q at S hq ⊢
    have hE : ∀ x : Nat, 77 ≤ x → jms (jms m 76 0 0) 76 1 q x = m x := fun x hx => (jms_o (show x ≠ 76 by omega)).trans (jms_o (show x ≠ 76 by omega))
    exact ⟨L, ⟨jms_e.trans jms_e.symm, by rw [jms_e]; exact hq.2, by rw [jms_e]; omega, t4, fun i h1 h2 => by rw [jms_e] at h2; obtain ⟨a, ha, hx⟩ := t5 i h1 (by omega); obtain ⟨-, f1, f2⟩ := PicAt_fr S (t4 i h1 (by omega) a ha) (by omega); exact ⟨a, ha, Pix_fr hx f1 f2⟩⟩, RTap_fr (I := I) (m := m) (rfl) (Lay_fr L S (by decide) (by omega)).2 (rfl) (rfl) r2, RSet_fr (I := I) (m := m) (Lay_fr L S (by decide) (by omega)).2 (rfl) r3, RRee_fr (m := m) L S (by omega) (fun i _ _ => by omega) (rfl) (rfl) (rfl) (rfl) (rfl) r4, RFil_fr (m := m) L S (by omega) (fun i _ _ => by omega) (fun i _ _ => by omega) (fun i _ _ => by omega) (rfl) (rfl) (fun x _ _ => hE x (by omega)) r5, RRow_fr (I := I) (m := m) (rfl) (Lay_fr L S (by decide) (by omega)).2 (rfl) (rfl) (rfl) (rfl) (rfl) (rfl) (rfl) r6, RFlt_fr (m := m) L S (by omega) (fun i _ _ => by omega) (rfl) (rfl) (rfl) (rfl) (rfl) r7, RPly_fr (m := m) L S (by omega) (fun i _ _ => by omega) (fun i _ _ => by omega) (rfl) (fun x _ _ => hE x (by omega)) (fun x _ _ => hE x (by omega)) r9 r8, RMis_fr L S (by omega) (by omega) (by omega) (fun i _ _ => by omega) (fun i _ _ => by omega) (fun i _ _ => by omega) r9⟩
  · refine SimI_th (E := 0) (b := 0) R0 ?_ ?_ (by decide)
    · unfold jd_147
      rw [ep, if_neg hc, x_6 h6, Option.bind_some]
    · unfold jd_222
      rw [ep, if_neg hc, Option.bind_some, jms_e, if_neg (by decide)]
      rfl
theorem si_size (R : RelH s Q hm I m) (h6 : s.1 < 1000000) (hp : okI p) (hq : okI q) : SimI (jd_146 0 p q (hh s Q I)) (jd_221 p q m) (fun E => if E = 2 then 1 else if E = 0 then 2 else 0) s Q I := by
  have L := R.1
  have hn := R.2.1.2.1
  have hn' := R.2.1.2.2.1
  have hp' : -2147483648 ≤ p ∧ p < 2147483648 := hp
  have hq' : -2147483648 ≤ q ∧ q < 2147483648 := hq
  have i1 := x_in (x := p) (lo := 0) (hi := m 76 1 - 1) (by omega) (by omega) (by decide) (by decide) (by omega) (by omega)
  have i2 := x_in (x := q) (lo := 0) (hi := 1) (by omega) (by omega) (by decide) (by decide) (by decide) (by decide)
  have hM : jd_221 p q m = jd_221_b28 p q (if (if 0 ≤ p ∧ p ≤ m 76 1 - 1 then (1 : Int) else 0) = 0 then 1 else (if (if 0 ≤ q ∧ q ≤ 1 then (1 : Int) else 0) = 0 then 2 else 0)) m := by
    unfold jd_221 jd_210
    rw [n_jw hp.1 hp.2, n_jw hq.1 hq.2, n_jw (z := m 76 1 - 1) (by omega) (by omega), i1, i2]
  by_cases c1 : 0 ≤ p ∧ p < m 76 1
  · obtain ⟨a, ea, ha, A, X⟩ := c_193 R hp c1.1 c1.2
    by_cases c2 : 0 ≤ q ∧ q ≤ 1
    · refine SimI_id (v := if q = 0 then m 77 p else m 78 p) (b := if q = 0 then m 77 p else m 78 p) R ?_ ?_ rfl
      · unfold jd_146 jd_146_b26
        have x1 : I a ((0 : Nat) : Int) = m 77 p := X.1
        have x2 : I a ((1 : Nat) : Int) = m 78 p := X.2.1
        rw [y_ck L 0 11 rfl rfl, Option.bind_some, ea, b_jtb, (c_185 hq (by unfold okI; omega) _).1 c2, b_jtb, n_jw hq.1 hq.2, x_gi A.2.1.1 A.2.1.2.1, Option.bind_some, x_gi A.2.1.1 A.2.1.2.1, Option.bind_some, x1, x2]
        split <;> rfl
      · rw [hM, if_pos (show 0 ≤ p ∧ p ≤ m 76 1 - 1 by omega), if_pos c2, if_neg (by decide), if_neg (by decide)]
        unfold jd_221_b28 jd_221_b61
        rw [Option.bind_some, jms_e, if_pos (by decide), n_jw hq.1 hq.2, y_ma 77 60 rfl rfl c1.1 (show p < ((60 : Nat) : Int) by omega), Option.bind_some, y_ma 78 60 rfl rfl c1.1 (show p < ((60 : Nat) : Int) by omega), Option.bind_some]
        split <;> rfl
    · refine SimI_th (E := 0) (b := 0) R ?_ ?_ (by decide)
      · unfold jd_146
        rw [y_ck L 0 11 rfl rfl, Option.bind_some, ea, b_jtb, (c_185 hq (by unfold okI; omega) _).2 c2 h6, b_jtx]
      · rw [hM, if_pos (show 0 ≤ p ∧ p ≤ m 76 1 - 1 by omega), if_neg c2, if_neg (by decide), if_pos rfl]
        unfold jd_221_b28 jd_221_b61
        rw [Option.bind_some, jms_e, if_neg (by decide)]
        rfl
  · refine SimI_th (E := 2) (b := 0) R ?_ ?_ (by decide)
    · unfold jd_146
      rw [y_ck L 0 11 rfl rfl, Option.bind_some, c_193n R h6 hp c1, b_jtx]
    · rw [hM, if_neg (show ¬ (0 ≤ p ∧ p ≤ m 76 1 - 1) by omega), if_pos rfl]
      unfold jd_221_b28 jd_221_b61
      rw [Option.bind_some, jms_e, if_neg (by decide)]
      rfl
end Simple
