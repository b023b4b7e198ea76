/-! making: room for a film's bytes, class, all cases -/
section RoomG
variable {s : hS} {Q : hQ} {hm : hO} {I m : jM} {a b : Nat} {f p len : Int}
theorem c_25g (f0 : 0 ≤ f) (f8 : f < 8) (L : Lay s Q hm) (F : FilmAt s Q hm a f) (h6 : s.1 < 1000000) (hl : I a 6 = len) (l0 : 0 ≤ len) (lp : len ≤ p) (p1 : p ≤ 24067) (h0 : len = 0 → p ≤ 4000) (hB : len = 0 ∨ ∃ b, Q a 5 = some b ∧ len ≤ ((s.2.2.2 b : Nat) : Int)) : ∃ (s' : hS) (Q' : hQ) (hm' : hO) (I' : jM) (b : Nat), jd_25 a p (hh s Q I) = some (hh s' Q' I') ∧ RM a f s Q hm I s' Q' hm' I' ∧ Q' a 5 = some b ∧ p ≤ ((s'.2.2.2 b : Nat) : Int) ∧ (∀ c, Q a 5 = some c → ∀ i : Int, 0 ≤ i → i < len → I' b i = I c i) ∧ s'.1 ≤ 1000000 := by
  have c0 : Ce s hm a 10 0 (500 + f) := F.2.1 0 (by decide)
  have na : a ≠ s.1 := Nat.ne_of_lt c0.1
  cases hb : Q a 5 with
  | none =>
    have p4 : p ≤ 4000 := by
      rcases hB with e | ⟨b, e, -⟩
      · exact h0 e
      · rw [hb] at e
        cases e
    refine ⟨_, _, bOw hm s.1 f, _, s.1, c_25n F h6 hb (by omega) p4, RM_nw (Or.inl rfl) f0 f8 L F (fun x hx => if_neg (Nat.ne_of_lt hx)) ?_, rms_e, ?_, fun c hc => (by cases hc), h6⟩
    · rw [bzR_n hb, bzR_s (b := s.1) rms_e (show (s_mk s 4000 1 4000).2.2.2 s.1 = 4000 from if_pos rfl)]
      omega
    · rw [show (s_mk s 4000 1 4000).2.2.2 s.1 = 4000 from if_pos rfl]
      omega
  | some b =>
    obtain ⟨b153, n, hn, b1, b2, b3, b4⟩ := F.2.2.2.1 b hb
    by_cases cp : p ≤ ((s.2.2.2 b : Nat) : Int)
    · exact ⟨s, Q, hm, I, b, c_25e F (Nat.le_of_lt h6) hb ⟨by omega, by omega⟩ cp, ⟨L, F, fun _ _ _ => rfl, fun _ _ => rfl, fun _ _ => ⟨rfl, rfl, rfl, rfl⟩, Nat.le_refl _, Nat.le_refl _, Nat.le_refl _⟩, hb, cp, fun c hc i _ _ => by cases hc; rfl, Nat.le_of_lt h6⟩
    · have n4 : n = 4000 := by
        rcases hn with e | e
        · exact e
        · rw [b3, e] at cp
          omega
      rw [n4] at b3
      have lb : len ≤ 4000 := by
        rcases hB with e | ⟨c, e, h⟩
        · omega
        · rw [hb] at e
          cases e
          rw [b3] at h
          omega
      have bs : b ≠ s.1 := Nat.ne_of_lt b1
      have ba : b ≠ a := fun e => by
        rw [e, c0.2.1] at b2
        exact absurd b2 (by decide)
      obtain ⟨T, hT⟩ : ∃ T, T = s_mk s 24067 1 24067 := ⟨_, rfl⟩
      have T1 : T.1 = s.1 + 1 := by rw [hT]; rfl
      have Tn : T.2.2.1 s.1 = 1 ∧ T.2.2.2 s.1 = 24067 := by rw [hT]; exact ⟨if_pos rfl, if_pos rfl⟩
      have To : ∀ x : Nat, x < s.1 → T.2.2.1 x = s.2.2.1 x ∧ T.2.2.2 x = s.2.2.2 x := fun x hx => by
        rw [hT]
        exact ⟨if_neg (Nat.ne_of_lt hx), if_neg (Nat.ne_of_lt hx)⟩
      obtain ⟨R, hR⟩ : ∃ R, R = r_mk Q s.1 := ⟨_, rfl⟩
      obtain ⟨J, hJ⟩ : ∃ J, J = i_mk I s.1 := ⟨_, rfl⟩
      have Ra : R a ((5 : Nat) : Int) = some b := by
        rw [hR]
        exact (congrFun (if_neg na) _).trans hb
      have Jo : ∀ x : Nat, x < s.1 → J x = I x := fun x hx => by rw [hJ]; exact if_neg (Nat.ne_of_lt hx)
      have J6 : J a ((6 : Nat) : Int) = len := by rw [Jo a c0.1]; exact hl
      have e1 : jna (hh s Q I) 1 24067 = some (s.1, hh T R J) := by
        rw [hT, hR, hJ]
        exact x_na h6 (by decide) (by decide)
      have aT : a < T.1 ∧ T.2.2.1 a = 2 + 8 := ⟨by have := c0.1; omega, by rw [(To a c0.1).1]; exact c0.2.1⟩
      have e2 : jcp (hh T R J) b 0 s.1 0 len = some (hh T R (ims J s.1 (fun j => if 0 ≤ j ∧ j < 0 + len then J b (0 + (j - 0)) else J s.1 j))) := x_cp (t := 1) (by omega) (by omega) (by rw [(To b b1).1]; exact b2) Tn.1 (Or.inr rfl) (by decide) (by decide) l0 (by rw [(To b b1).2, b3]; omega) (by rw [Tn.2]; omega) (by rw [(To b b1).2, b3]; decide) (by rw [Tn.2]; decide)
      obtain ⟨K, hK⟩ : ∃ K, K = ims J s.1 (fun j => if 0 ≤ j ∧ j < 0 + len then J b (0 + (j - 0)) else J s.1 j) := ⟨_, rfl⟩
      rw [← hK] at e2
      have e5 : Q a ((5 : Nat) : Int) = some b := hb
      refine ⟨T, rms R a 5 (some s.1), bOw hm s.1 f, K, s.1, ?_, ?_, rms_e, by rw [Tn.2]; omega, fun c hc i i0 i1 => ?_, by omega⟩
      · unfold jd_25
        rw [F_gr F, Option.bind_some, e5, if_neg (by simp), Option.bind_some, Option.bind_some, x_ln b1 (by omega) (by rw [b2]; decide), Option.bind_some, n_jw (z := ((s.2.2.2 b : Nat) : Int)) (by omega) (by rw [b3]; decide), n_jw (z := p) (by omega) (by omega), if_pos (by omega)]
        unfold jd_25_b17
        rw [n_jw (z := p) (by omega) (by omega), if_pos (by rw [b3] at cp; omega), e1, Option.bind_some]
        dsimp only
        rw [x_gr aT.1 aT.2, Option.bind_some, Ra, if_neg (by simp), Option.bind_some, x_gi aT.1 aT.2, Option.bind_some, J6, Option.bind_some, e2, Option.bind_some]
        unfold jd_25_b57
        rw [x_pr aT.1 aT.2, Option.bind_some]
        rfl
      · rw [hT, hR]
        refine RM_nw (Or.inr rfl) f0 f8 L F (fun x hx => ?_) ?_
        · rw [hK, ims_o (Nat.ne_of_lt hx)]
          exact Jo x hx
        · rw [bzR_s hb b3, bzR_l (b := s.1) rms_e (by rw [show (s_mk s 24067 1 24067).2.2.2 s.1 = 24067 from if_pos rfl]; decide)]
          omega
      · cases hc
        rw [hK, ims_e, if_pos (by omega), show (0 : Int) + (i - 0) = i by omega, Jo b b1]
end RoomG
