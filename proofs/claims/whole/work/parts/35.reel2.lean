/-! reel, both sides -/
section Reel2
variable {s : hS} {Q : hQ} {hm : hO} {I m : jM} {a b : Nat} {z p : Int}
theorem si_reel (R : RelH s Q hm I m) (h6 : s.1 ≤ 900000) (hp : okI p) : SimI (jd_153 0 p (hh s Q I)) (jd_297 p m) (fun E => if E = 2 then 1 else if E = 0 then 2 else if E = 1 then 3 else 0) s Q I := by
  have L := R.1
  obtain ⟨t1, t2, t3, t4, t5⟩ := id R.2.1
  obtain ⟨u1, u2, u3, u4, u5⟩ := id R.2.2.2.2.1
  have e1 : I 0 ((6 : Nat) : Int) = m 76 7 := u1
  have e5 : Q 0 ((5 : Nat) : Int) = some 4 := Lq L rfl
  have nw := n_jw (z := m 76 7) (by omega) (by omega)
  have r : ∀ {x : Int}, isSd x → jw x = x := fun hx => n_jw (by rcases hx with rfl | rfl | rfl <;> decide) (by rcases hx with rfl | rfl | rfl <;> decide)
  have hk := k_210 (m := m) ⟨t2, t3⟩ hp
  by_cases c1 : 0 ≤ p ∧ p < m 76 1
  · rw [if_pos c1] at hk
    obtain ⟨a, ea, hA, A, X⟩ := c_193 R hp c1.1 c1.2
    by_cases c2 : 0 < m 76 7 ∧ ¬ (m 77 p = m 76 8 ∧ m 78 p = m 76 9)
    · obtain ⟨a0, h0, X0⟩ := u5 0 (by decide) c2.1
      have A0 := u4 0 (by decide) (by decide) a0 h0
      refine SimI_th (E := 0) (b := 0) R ?_ ?_ (by decide)
      · unfold jd_153
        rw [y_ck L 0 11 rfl rfl, Option.bind_some, ea, b_jtb, y_gi L 0 11 rfl rfl, Option.bind_some, e1, nw, if_neg (by omega), y_gr L 0 11 rfl rfl, Option.bind_some, e5, Option.bind_some, y_ar L 4 6 12 rfl rfl rfl (by decide) (by decide), Option.bind_some, h0, Option.bind_some, x_ck A0.2.1.1 A0.2.1.2.1, Option.bind_some, c_100 A0 A X0 X, Option.bind_some, if_neg (show ¬ (m 76 8 = m 77 p ∧ m 76 9 = m 78 p) from fun e => c2.2 ⟨e.1.symm, e.2.symm⟩), if_pos (show jw 0 = 0 by decide), x_6 (show s.1 < 1000000 by omega), Option.bind_some]
      · unfold jd_297
        rw [hk, if_neg (by decide), nw, if_neg (by omega), y_ma 77 60 rfl rfl c1.1 (by omega), Option.bind_some, r X.2.2.1, r X0.2.2.1, y_ma 78 60 rfl rfl c1.1 (by omega), Option.bind_some, r X.2.2.2.1, r X0.2.2.2.1]
        have fin : jd_297_b64 p 2 m = some (0, jms m 76 0 2) := by
          unfold jd_297_b64
          rw [Option.bind_some, jms_e, if_neg (by decide)]
        by_cases c3 : m 77 p = m 76 8
        · rw [if_pos c3, if_neg (fun e => c2.2 ⟨c3, e⟩), fin]
          rfl
        · rw [if_neg c3, fin]
          rfl
    · have pC : jd_153 0 p (hh s Q I) = jd_153_b36 0 (some a) (hh s Q I) := by
        unfold jd_153
        rw [y_ck L 0 11 rfl rfl, Option.bind_some, ea, b_jtb, y_gi L 0 11 rfl rfl, Option.bind_some, e1, nw]
        by_cases c3 : m 76 7 ≤ 0
        · rw [if_pos c3]
        · obtain ⟨a0, h0, X0⟩ := u5 0 (by decide) (by omega)
          have A0 := u4 0 (by decide) (by decide) a0 h0
          have c4 : m 77 p = m 76 8 ∧ m 78 p = m 76 9 := Classical.byContradiction (fun e => c2 ⟨by omega, e⟩)
          rw [if_neg c3, y_gr L 0 11 rfl rfl, Option.bind_some, e5, Option.bind_some, y_ar L 4 6 12 rfl rfl rfl (by decide) (by decide), Option.bind_some, h0, Option.bind_some, x_ck A0.2.1.1 A0.2.1.2.1, Option.bind_some, c_100 A0 A X0 X, Option.bind_some, if_pos (show (m 76 8 = m 77 p ∧ m 76 9 = m 78 p) from ⟨c4.1.symm, c4.2.symm⟩), if_neg (show ¬ jw 1 = 0 by decide)]
      have pM : jd_297 p m = jd_297_b64 p (if m 76 7 = 12 then 3 else 0) m := by
        unfold jd_297
        rw [hk, if_neg (by decide), nw]
        by_cases c3 : m 76 7 ≤ 0
        · rw [if_pos c3]
        · obtain ⟨a0, h0, X0⟩ := u5 0 (by decide) (by omega)
          have c4 : m 77 p = m 76 8 ∧ m 78 p = m 76 9 := Classical.byContradiction (fun e => c2 ⟨by omega, e⟩)
          rw [if_neg c3, y_ma 77 60 rfl rfl c1.1 (by omega), Option.bind_some, if_pos (by rw [c4.1]), y_ma 78 60 rfl rfl c1.1 (by omega), Option.bind_some, if_pos (by rw [c4.2])]
      by_cases c3 : m 76 7 < 12
      · obtain ⟨b, s', Q', hm', I', J, I1, eC, S1, R', hb, hI', Y, hJ, g1, g2⟩ := c_153 R h6 c1 hA c3
        have L' := R'.1
        have B := R'.2.2.2.2.1.2.2.2.1 _ u2 c3 b hb
        have eM := k_297b (m := m) (p := p) ⟨c1.1, by omega⟩ u2 c3
        rw [if_neg (by omega)] at pM
        have hI : ∀ c, c ≠ b → c ≠ b + 1 → c ≠ 0 → I' c = I1 c := fun c f1 f2 f3 => by rw [hI', jms_o f3, hJ c f1 f2]
        have S2 : Sm (fun o => o ≠ 100 + m 76 7 ∧ o ≠ 1000) s' Q' hm' I1 s' Q' hm' I' := Sm_I (fun c _ hc => hI c (fun e => hc.1 (by rw [e]; exact B.2.1.2.2.2)) (fun e => hc.1 (by rw [e]; exact B.2.2.1.2.2.2)) (fun e => hc.2 (by rw [e]; exact Lo L' rfl)))
        have Kp1 : Kp s Q I s' Q' I' := by
          intro c f1 f2
          obtain ⟨d1, d2, d3, d4⟩ := Kp_of L S1 (fun i _ _ => by omega) c f1 f2
          have := B.1
          exact ⟨d1, d2, d3, (hI c (by omega) (by omega) (by omega)).trans d4⟩
        refine Or.inl ⟨_, _, s', Q', I', _, by rw [pC, eC], by rw [pM, eM], rfl, rfl, Kp1, ⟨S1.1, by omega, by omega⟩, hm', ?_⟩
        generalize hM : jms (ims (jms (jms (jms m 76 0 0) 76 8 (m 77 p)) 76 9 (m 78 p)) 81 (seqf (m 81) (864 * m 76 7) (fun k _ => m 79 (864 * p + k)) 864)) 76 7 (m 76 7 + 1) = M
        have hE : ∀ x : Nat, 77 ≤ x → x ≠ 81 → M x = m x := fun x h1 h2 => by
          rw [← hM, jms_o (show x ≠ 76 by omega), ims_o h2, jms_o (show x ≠ 76 by omega), jms_o (show x ≠ 76 by omega), jms_o (show x ≠ 76 by omega)]
        have hF : ∀ k : Int, k ≠ 0 → k ≠ 7 → k ≠ 8 → k ≠ 9 → M 76 k = m 76 k := fun k h1 h2 h3 h4 => by
          rw [← hM, jms_i h2, ims_o (by decide), jms_i h4, jms_i h3, jms_i h1]
        have m7 : M 76 7 = m 76 7 + 1 := by rw [← hM]; exact jms_e
        have m8 : M 76 8 = m 77 p := by rw [← hM]; rfl
        have m9 : M 76 9 = m 78 p := by rw [← hM]; rfl
        have m81 : M 81 = seqf (m 81) (864 * m 76 7) (fun k _ => m 79 (864 * p + k)) 864 := by rw [← hM]; rfl
        have i0 : ∀ k : Int, k ≠ 6 → I' 0 k = I1 0 k := fun k hk => by rw [hI', jms_i hk, hJ 0 (by have := B.1; omega) (by omega)]
        have i6 : I' 0 6 = m 76 7 + 1 := by rw [hI']; exact jms_e
        obtain ⟨-, r1, r2, r3, r4, r5, r6, r7, r8, r9⟩ := R'
        obtain ⟨v1, v2, v3, v4, v5⟩ := id r4
        refine ⟨L', RPic_fr (m := m) L' S2 (by omega) (fun i _ _ => by omega) (i0 _ (by decide)) (hF _ (by decide) (by decide) (by decide) (by decide)) (hE _ (by decide) (by decide)) (hE _ (by decide) (by decide)) (hE _ (by decide) (by decide)) r1, RTap_fr (I := I1) (m := m) (i0 _ (by decide)) (Lay_fr L' S2 (by decide) (by omega)).2 (hF _ (by decide) (by decide) (by decide) (by decide)) (hE _ (by decide) (by decide)) r2, RSet_fr (I := I1) (m := m) (Lay_fr L' S2 (by decide) (by omega)).2 (hE _ (by decide) (by decide)) r3, ⟨by rw [i6, m7], by omega, by omega, v4, fun i h1 h2 => ?_⟩, RFil_fr (m := m) L' S2 (by omega) (fun i _ _ => by omega) (fun i _ _ => by omega) (fun i _ _ => by omega) (i0 _ (by decide)) (hF _ (by decide) (by decide) (by decide) (by decide)) (fun x _ _ => hE x (by omega) (by omega)) r5, RRow_fr (I := I1) (m := m) (i0 _ (by decide)) (Lay_fr L' S2 (by decide) (by omega)).2 (hF _ (by decide) (by decide) (by decide) (by decide)) (hF _ (by decide) (by decide) (by decide) (by decide)) (hE _ (by decide) (by decide)) (hE _ (by decide) (by decide)) (hE _ (by decide) (by decide)) (hE _ (by decide) (by decide)) (hE _ (by decide) (by decide)) r6, RFlt_fr (m := m) L' S2 (by omega) (fun i _ _ => by omega) (i0 _ (by decide)) (hF _ (by decide) (by decide) (by decide) (by decide)) (hE _ (by decide) (by decide)) (hE _ (by decide) (by decide)) (hE _ (by decide) (by decide)) r7, RPly_fr (m := m) L' S2 (by omega) (fun i _ _ => by omega) (fun i _ _ => by omega) (hF _ (by decide) (by decide) (by decide) (by decide)) (fun x _ _ => hE x (by omega) (by omega)) (fun x _ _ => hE x (by omega) (by omega)) r9 r8, RMis_fr L' S2 (by omega) (by omega) (by omega) (fun i _ _ => by omega) (fun i _ _ => by omega) (fun i _ _ => by omega) r9⟩
        by_cases hi : i = m 76 7
        · subst hi
          refine ⟨b, hb, ?_⟩
          rw [m8, m9, m81]
          refine Pix_fr (I := J) (Pix_g Y (fun q k q0 q2 k0 k1 => ?_)) (by rw [hI']; exact jms_o (by have := B.1; omega)) (by rw [hI']; exact jms_o (by omega))
          have bb := pl_sz X.2.2.1 X.2.2.2.1 q0 q2
          exact seqf_k (by omega) (by omega)
        · obtain ⟨d, hd, Z⟩ := v5 i h1 (by omega)
          refine ⟨d, hd, ?_⟩
          have c4 : m 77 p = m 76 8 ∧ m 78 p = m 76 9 := Classical.byContradiction (fun e => c2 ⟨by omega, e⟩)
          obtain ⟨-, f1, f2⟩ := PicAt_fr S2 (v4 i h1 (by omega) d hd) (by omega)
          rw [m8, m9, m81, c4.1, c4.2]
          refine Pix_g (Pix_fr Z f1 f2) (fun q k q0 q2 k0 k1 => ?_)
          have bb := pl_sz Z.2.2.1 Z.2.2.2.1 q0 q2
          exact seqf_lo (by omega)
      · refine SimI_th (E := 1) (b := 0) R ?_ ?_ (by decide)
        · rw [pC]
          unfold jd_153_b36
          rw [y_gi L 0 11 rfl rfl, Option.bind_some, e1, nw, if_neg c3, x_6 (show s.1 < 1000000 by omega), Option.bind_some]
        · rw [pM, if_pos (by omega)]
          unfold jd_297_b64
          rw [Option.bind_some, jms_e, if_neg (by decide)]
          rfl
  · rw [if_neg c1] at hk
    refine SimI_th (E := 2) (b := 0) R ?_ ?_ (by decide)
    · unfold jd_153
      rw [y_ck L 0 11 rfl rfl, Option.bind_some, c_193n R (by omega) hp c1, b_jtx]
    · unfold jd_297 jd_297_b64
      rw [hk, if_pos rfl, Option.bind_some, jms_e, if_neg (by decide)]
      rfl
end Reel2
