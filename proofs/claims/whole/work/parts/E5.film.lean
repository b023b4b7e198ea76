/-! a new film -/
section NewFilm
variable {P : Int → Prop} {s s' : hS} {Q Q' : hQ} {hm : hO} {I I' m : jM} {f z : Int} {a b n : Nat}
/-- n rows of the new film at s.1 stand -/
def NwF (n : Nat) (s : hS) (Q : hQ) (I : jM) (s' : hS) (Q' : hQ) (I' : jM) : Prop := s'.1 = s.1 + 1 + n ∧ s'.2.1 ≤ s.2.1 + 100 + 756 * n ∧ (∀ x : Nat, x < s.1 → s'.2.2.1 x = s.2.2.1 x ∧ s'.2.2.2 x = s.2.2.2 x ∧ Q' x = Q x ∧ I' x = I x) ∧ (∀ j : Nat, j ≤ n → s'.2.2.1 (s.1 + j) = (fTag j).1 ∧ s'.2.2.2 (s.1 + j) = (fTag j).2) ∧ Q' s.1 5 = none ∧ (∀ j : Nat, j < n → Q' s.1 ((j + 7 : Nat) : Int) = some (s.1 + (j + 1))) ∧ ∀ j : Nat, 1 ≤ j → j ≤ n → ∀ k : Int, Q' (s.1 + j) k = none
theorem NwF_s (X : NwF n s Q I s' Q' I') (h6 : s.1 + 13 ≤ 1000000) (hn : n < 12) (t k : Nat) (z : Int) (z0 : 0 ≤ z) (z1 : z ≤ 756) (et : fTag (n + 1) = (t, z.toNat)) (ek : k = n + 7) : ∃ (s2 : hS) (Q2 : hQ) (I2 : jM) (q : Nat × jH), jna (hh s' Q' I') t z = some q ∧ jpr q.2 s.1 2 k (some q.1) = some (hh s2 Q2 I2) ∧ NwF (n + 1) s Q I s2 Q2 I2 := by
  obtain ⟨x1, x2, x3, x4, x5, x6, x7⟩ := X
  have lt : s.1 < s'.1 := by omega
  have ne : s.1 ≠ s'.1 := by omega
  have t0 : (s_mk s' z.toNat t z.toNat).2.2.1 s.1 = 2 + 8 := (if_neg ne).trans ((x4 0 (Nat.zero_le _)).1)
  refine ⟨s_mk s' z.toNat t z.toNat, rms (r_mk Q' s'.1) s.1 (k : Int) (some s'.1), i_mk I' s'.1, (s'.1, hh (s_mk s' z.toNat t z.toNat) (r_mk Q' s'.1) (i_mk I' s'.1)), x_na (by omega) z0 (by omega), x_pr (Nat.lt_succ_of_lt lt) t0, ?_, ?_, fun x hx => ?_, fun j hj => ?_, ?_, fun j hj => ?_, fun j j1 hj y => ?_⟩
  · show s'.1 + 1 = _
    omega
  · show s'.2.1 + z.toNat ≤ _
    omega
  · have nx : x ≠ s'.1 := by omega
    obtain ⟨y1, y2, y3, y4⟩ := x3 x hx
    refine ⟨(if_neg nx).trans y1, (if_neg nx).trans y2, ?_, (if_neg nx).trans y4⟩
    rw [rms_o (Nat.ne_of_lt hx)]
    exact (if_neg nx).trans y3
  · by_cases e : j = n + 1
    · subst e
      have e2 : s.1 + (n + 1) = s'.1 := by omega
      rw [et, e2]
      exact ⟨if_pos rfl, if_pos rfl⟩
    · have nx : s.1 + j ≠ s'.1 := by omega
      obtain ⟨y1, y2⟩ := x4 j (by omega)
      exact ⟨(if_neg nx).trans y1, (if_neg nx).trans y2⟩
  · rw [rms_i (by omega)]
    exact (congrFun (if_neg ne) _).trans x5
  · by_cases e : j = n
    · subst e
      rw [show ((k : Nat) : Int) = ((j + 7 : Nat) : Int) by rw [ek], rms_e, show s'.1 = s.1 + (j + 1) by omega]
    · rw [rms_i (by omega)]
      exact (congrFun (if_neg ne) _).trans (x6 j (by omega))
  · rw [rms_o (by omega)]
    by_cases e : s.1 + j = s'.1
    · exact congrFun (if_pos e) y
    · exact (congrFun (if_neg e) y).trans (x7 j j1 (by omega) y)
theorem n21 (h6 : s.1 + 13 ≤ 1000000) : ∃ (q : Nat × jH) (s' : hS) (Q' : hQ) (I' : jM), jnw (hh s Q I) 2 = some q ∧ q.1 = s.1 ∧ jd_21 q.1 q.2 = some (hh s' Q' I') ∧ NwF 12 s Q I s' Q' I' := by
  have t1 : (s_mk s (mm_cn 2) 10 0).2.2.1 s.1 = 2 + 8 := if_pos rfl
  have l1 : s.1 < (s_mk s (mm_cn 2) 10 0).1 := Nat.lt_succ_self _
  have X0 : NwF 0 s Q I (s_mk s (mm_cn 2) 10 0) (rms (r_mk Q s.1) s.1 ((5 : Nat) : Int) none) (jms (jms (jms (jms (jms (jms (i_mk I s.1) s.1 ((0 : Nat) : Int) 0) s.1 ((1 : Nat) : Int) 8) s.1 ((2 : Nat) : Int) 8) s.1 ((3 : Nat) : Int) 1) s.1 ((4 : Nat) : Int) 0) s.1 ((6 : Nat) : Int) 0) := by
    refine ⟨rfl, ?_, fun x hx => ?_, fun j hj => ?_, rms_e, fun j hj => absurd hj (Nat.not_lt_zero _), fun j j1 hj => absurd j1 (by omega)⟩
    · show s.2.1 + mm_cn 2 ≤ _
      have : mm_cn 2 ≤ 100 := by decide
      omega
    · have nx : x ≠ s.1 := by omega
      refine ⟨if_neg nx, if_neg nx, ?_, ?_⟩
      · rw [rms_o nx]
        exact if_neg nx
      · rw [jms_o nx, jms_o nx, jms_o nx, jms_o nx, jms_o nx, jms_o nx]
        exact if_neg nx
    · have : j = 0 := by omega
      subst this
      exact ⟨if_pos rfl, if_pos rfl⟩
  obtain ⟨s1, Q1, I1, q1, e1, p1, X1⟩ := NwF_s X0 h6 (by decide) 0 7 12 (by decide) (by decide) rfl rfl
  obtain ⟨s2, Q2, I2, q2, e2, p2, X2⟩ := NwF_s X1 h6 (by decide) 0 8 12 (by decide) (by decide) rfl rfl
  obtain ⟨s3, Q3, I3, q3, e3, p3, X3⟩ := NwF_s X2 h6 (by decide) 0 9 12 (by decide) (by decide) rfl rfl
  obtain ⟨s4, Q4, I4, q4, e4, p4, X4⟩ := NwF_s X3 h6 (by decide) 0 10 12 (by decide) (by decide) rfl rfl
  obtain ⟨s5, Q5, I5, q5, e5, p5, X5⟩ := NwF_s X4 h6 (by decide) 0 11 12 (by decide) (by decide) rfl rfl
  obtain ⟨s6, Q6, I6, q6, e6, p6, X6⟩ := NwF_s X5 h6 (by decide) 0 12 12 (by decide) (by decide) rfl rfl
  obtain ⟨s7, Q7, I7, q7, e7, p7, X7⟩ := NwF_s X6 h6 (by decide) 2 13 12 (by decide) (by decide) rfl rfl
  obtain ⟨s8, Q8, I8, q8, e8, p8, X8⟩ := NwF_s X7 h6 (by decide) 2 14 12 (by decide) (by decide) rfl rfl
  obtain ⟨s9, Q9, I9, q9, e9, p9, X9⟩ := NwF_s X8 h6 (by decide) 6 15 12 (by decide) (by decide) rfl rfl
  obtain ⟨sa, Qa, Ia, qa, ea, pa, Xa⟩ := NwF_s X9 h6 (by decide) 0 16 12 (by decide) (by decide) rfl rfl
  obtain ⟨sb, Qb, Ib, qb, eb, pb, Xb⟩ := NwF_s Xa h6 (by decide) 0 17 12 (by decide) (by decide) rfl rfl
  obtain ⟨sc, Qc, Ic, qc, ec, pc, Xc⟩ := NwF_s Xb h6 (by decide) 0 18 756 (by decide) (by decide) rfl rfl
  refine ⟨(s.1, hh (s_mk s (mm_cn 2) 10 0) (r_mk Q s.1) (i_mk I s.1)), sc, Qc, Ic, x_nw (by omega), rfl, ?_, Xc⟩
  show jd_21 s.1 (hh (s_mk s (mm_cn 2) 10 0) (r_mk Q s.1) (i_mk I s.1)) = _
  unfold jd_21
  rw [x_pi l1 t1, Option.bind_some, x_pi l1 t1, Option.bind_some, x_pi l1 t1, Option.bind_some, x_pi l1 t1, Option.bind_some, x_pi l1 t1, Option.bind_some, x_pr l1 t1, Option.bind_some, x_pi l1 t1, Option.bind_some, e1, Option.bind_some, p1, Option.bind_some, e2, Option.bind_some, p2, Option.bind_some, e3, Option.bind_some, p3, Option.bind_some, e4, Option.bind_some, p4, Option.bind_some, e5, Option.bind_some, p5, Option.bind_some, e6, Option.bind_some, p6, Option.bind_some, e7, Option.bind_some, p7, Option.bind_some, e8, Option.bind_some, p8, Option.bind_some, e9, Option.bind_some, p9, Option.bind_some, ea, Option.bind_some, pa, Option.bind_some, eb, Option.bind_some, pb, Option.bind_some, ec, Option.bind_some, pc, Option.bind_some]
/-- the new film's owner -/
def fOw (hm : hO) (b : Nat) (f : Int) : hO := fun x => if b ≤ x ∧ x < b + 13 then 500 + f else hm x
theorem NwF_at (X : NwF 12 s Q I s' Q' I') (L : Lay s Q hm) : Lay s' Q' (fOw hm s.1 f) ∧ FilmAt s' Q' (fOw hm s.1 f) s.1 f ∧ Sm P s Q hm I s' Q' (fOw hm s.1 f) I' := by
  obtain ⟨x1, x2, x3, x4, x5, x6, x7⟩ := X
  have S : ∀ {P : Int → Prop}, Sm P s Q hm I s' Q' (fOw hm s.1 f) I' := fun {P} => ⟨by omega, fun x hx _ => by
    obtain ⟨y1, y2, y3, y4⟩ := x3 x hx
    exact ⟨y1, y2, y3, y4, if_neg (by omega)⟩⟩
  refine ⟨?_, ⟨L.1, fun j hj => ?_, x6, fun b hb => ?_, fun k _ _ x hx => ?_⟩, S⟩
  · obtain ⟨l1, l2, l3, l4⟩ := L
    refine ⟨by omega, fun a ha => (Ce_fr (S (P := fun _ => True)) (l2 a ha) trivial).1, fun a h1 h2 => ?_, fun a k b e => ?_⟩
    · rw [← l3 a h1 h2]
      exact if_neg (by omega)
    · rw [(x3 a (by have := sq_lt e; omega)).2.2.1]
      exact l4 a k b e
  · obtain ⟨y1, y2⟩ := x4 j (by omega)
    exact ⟨by omega, y1, y2, if_pos (by omega)⟩
  · rw [x5] at hb
    cases hb
  · rw [x7 9 (by decide) (by decide) k] at hx
    cases hx
end NewFilm
