/-! READ -/
section ReadAll
variable {s : hS} {Q : hQ} {hm : hO} {I m : jM}
theorem si_read (R : RelH s Q hm I m) (h6 : s.1 ≤ 900000) : SimI (jd_156 0 (hh s Q I)) (jd_310 m) (fun E => if E = 1 then 1 else 0) s Q I := by
  have L := R.1
  obtain ⟨t1, t2, t3, t4, t5⟩ := id R.2.2.2.2.2.1
  by_cases hn : m 76 12 < 8
  · obtain ⟨a, s1, Q1, hm1, I1, e1, ha, F1, S1, R1, g1, g2⟩ := c_196 R h6 hn
    obtain ⟨f, hf⟩ : ∃ f, m 76 12 = f := ⟨_, rfl⟩
    obtain ⟨n, hn'⟩ : ∃ n, m 76 5 = n := ⟨_, rfl⟩
    rw [hf] at ha F1 hn t2
    have L1 := R1.1
    obtain ⟨w1, w2, w3, w4⟩ := R1.2.2.1
    rw [hn'] at w1 w2 w3 w4
    have a153 := F1.1
    have c0 : Ce s1 hm1 a 10 0 (500 + f) := F1.2.1 0 (by decide)
    have c8 : Ce s1 hm1 (a + 8) 2 12 (500 + f) := F1.2.1 8 (by decide)
    -- emptied
    have z6 : ims (jms (jms I1 0 3 0) a 6 0) (a + 8) (fun x => if 0 ≤ x ∧ x < 12 then 0 else jms I1 0 3 0 (a + 8) x) a 6 = 0 := by rw [ims_o (by omega), jms_e]
    obtain ⟨s4, Q4, hm4, I4, b, e4, l4, f4, S4, ⟨b1, b2, b3⟩, ⟨b4, b5⟩, b6, b7, b8, b9, ba⟩ := c_23r t2 hn L1 F1 (show s1.1 < 1000000 by omega) z6 w2 w3
    have e0 : I4 0 = jms I1 0 3 0 0 := by
      rw [b6 0 (by have := L1.1; omega) (by omega) (by rw [Lo L1 rfl]; omega), ims_o (by omega), jms_o (by omega)]
    have e2 : ∀ g : Int → Int, ims (jms (jms I1 0 3 0) a 6 0) (a + 8) g 2 = I1 2 := fun g => by rw [ims_o (by omega), jms_o (by omega), jms_o (by omega)]
    have SA : Sm (PF f) s1 Q1 hm1 I1 s1 Q1 hm1 (ims (jms (jms I1 0 3 0) a 6 0) (a + 8) (fun x => if 0 ≤ x ∧ x < 12 then 0 else jms I1 0 3 0 (a + 8) x)) := Sm_trans (Sm_jms (by rw [Lo L1 rfl]; unfold PF; omega)) (Sm_trans (Sm_jms (by rw [c0.2.2.2]; unfold PF; omega)) (Sm_ims (by rw [c8.2.2.2]; unfold PF; omega)))
    have SB : Sm (PF f) s1 Q1 hm1 I1 s4 Q4 hm4 I4 := Sm_trans SA (Sm_mono S4 (fun o ho => ⟨ho.2.2.2.1, ho.2.2.2.2.1⟩))
    have k8 : ∀ x : Int, 0 ≤ x → x < 12 → I4 (a + 8) x = 0 := fun x x0 x1 => by
      rw [b6 (a + 8) c8.1 (by omega) (by rw [c8.2.2.2]; omega), ims_e, if_pos ⟨x0, x1⟩]
    obtain ⟨-, k, hk, cb⟩ := f4.2.2.2.1 b b1
    have Y : BySm s4 Q4 I4 (jms (ims (jms (jms m 76 0 0) 76 47 n) 112 (fun x => if 0 ≤ x ∧ x < n then jwb (m 80 x) else m 112 x)) 76 5 0) a b n := by
      refine ⟨b1, ⟨cb.1, cb.2.1, by rw [cb.2.2.1]; omega⟩, b4, w2, b2, by omega, ?_, fun i i0 i1 => ?_⟩
      · rw [jms_i (by decide), ims_o (by decide), jms_e]
      · rw [b3 i i0 i1, e2, jms_o (by decide), ims_e, if_pos ⟨i0, i1⟩, w4 i i0 i1]
        unfold jwb
        omega
    obtain ⟨v, s', Q', hm', I', m', x1, x2, x3, x4, x5, x6, x7⟩ := rd_go R1 hf t2 hn ha SB l4 f4 Y w3 k8 (fun y hy => by rw [e0, jms_i hy]) (by rw [e0, jms_e]) (by rw [jms_i (by decide), ims_o (by decide), jms_i (by decide), jms_e]) jms_e (fun j j0 j5 j7 => by rw [jms_i j5, ims_o (by decide), jms_i j7, jms_i j0]) (fun x xa xb => by rw [jms_o xa, ims_o xb, jms_o xa, jms_o xa]) (by omega)
    refine Or.inl ⟨v, v, s', Q', I', m', ?_, ?_, x3, rfl, Kp_of L (P := fun o => 1076 ≤ o) (Sm_trans (Sm_mono S1 (fun o ho => by omega)) (Sm_trans (Sm_mono SB (fun o ho => by unfold PF; omega)) (Sm_mono x5 (fun o ho => by unfold PF; omega)))) (fun x xa xb => by omega), ⟨?_, by omega, by omega⟩, hm', x4⟩
    · have q2 : Q1 0 ((2 : Nat) : Int) = some 2 := Lq L1 rfl
      have i3 : I1 0 ((3 : Nat) : Int) = n := w1
      unfold jd_156
      rw [y_ck L 0 11 rfl rfl, Option.bind_some, e1, b_jtb, y_gi L1 0 11 rfl rfl, Option.bind_some, i3, y_pi L1 0 11 rfl rfl, Option.bind_some, F_ck F1, Option.bind_some, c_22 F1, Option.bind_some, y_gr L1 0 11 rfl rfl, Option.bind_some, q2, F_ck F1, Option.bind_some]
      refine (congrArg (fun o : Option jH => o.bind fun h20 => ((jck h20 0 11).bind fun u22 => ((jd_197 0 (some a) h20).bind fun q24 => some ((Sum.inl q24.1 : Int ⊕ Nat), q24.2)))) e4).trans ?_
      rw [Option.bind_some, y_ck l4 0 11 rfl rfl, Option.bind_some, x1, Option.bind_some]
    · have y0 : jw (m 76 12) = m 76 12 := n_jw (by omega) (by omega)
      have l := k_310l (m := jms (jms m 76 0 0) 76 47 n) (n := n) (by rw [jms_i (by decide), jms_i (by decide), hn']) w2 w3
      have z5 : jms m 76 0 0 76 5 = n := by rw [jms_i (by decide), hn']
      unfold jd_310
      rw [Option.bind_some, y0, if_neg (show ¬ m 76 12 = 8 by omega), if_pos (show jw (jms m 76 0 0 76 0) ≤ 0 by rw [jms_e]; decide), Option.bind_some, z5, l, Option.bind_some, Option.bind_some]
      exact x2
    · have := S1.1
      have := SB.1
      have := x5.1
      omega
  · refine SimI_th (E := 1) (b := 0) R ?_ ?_ (by decide)
    · unfold jd_156
      rw [y_ck L 0 11 rfl rfl, Option.bind_some, c_196n R (by omega) hn, b_jtx]
    · have y0 : jw (m 76 12) = m 76 12 := n_jw (by omega) (by omega)
      unfold jd_310
      rw [Option.bind_some, y0, if_pos (show m 76 12 = 8 by omega), if_neg (show ¬ jw (jms m 76 0 1 76 0) ≤ 0 by rw [jms_e]; decide)]
      rfl
end ReadAll
