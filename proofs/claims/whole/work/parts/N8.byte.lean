/-! making: one byte of a film, both sides -/
section ByteM
variable {s s' s2 : hS} {Q Q' Q2 : hQ} {hm hm' hm2 : hO} {I I' I2 m : jM} {a b : Nat} {f len v u : Int}
/-- a film whose bytes are being written, on both sides -/
def FBm (s : hS) (Q : hQ) (hm : hO) (I m : jM) (a : Nat) (f len : Int) : Prop := FilmAt s Q hm a f ∧ (0 ≤ f ∧ f < 8) ∧ (I a 6 = len ∧ 0 ≤ len ∧ m 76 47 = len) ∧ (len = 0 ∨ ∃ b, Q a 5 = some b ∧ len ≤ ((s.2.2.2 b : Nat) : Int) ∧ ∀ i : Int, 0 ≤ i → i < len → I b i % 256 = m 112 i % 256)
/-- what bytes written leave as it was, class -/
def BF (a : Nat) (f : Int) (s : hS) (Q : hQ) (hm : hO) (I : jM) (s' : hS) (Q' : hQ) (hm' : hO) (I' : jM) : Prop := (∀ x : Nat, x < s.1 → x ≠ a → Q' x = Q x) ∧ (∀ z : Int, z ≠ 5 → Q' a z = Q a z) ∧ (∀ x : Nat, x < s.1 → hm' x = hm x ∧ s'.2.2.1 x = s.2.2.1 x ∧ s'.2.2.2 x = s.2.2.2 x) ∧ (∀ x : Nat, x < s.1 → x ≠ a → hm x ≠ 540 + f → I' x = I x) ∧ (∀ z : Int, z ≠ 6 → I' a z = I a z) ∧ s.1 ≤ s'.1 ∧ s'.1 + bzR s Q a ≤ s.1 + bzR s' Q' a ∧ s'.2.1 + 24067 * bzR s Q a ≤ s.2.1 + 24067 * bzR s' Q' a
theorem BF_refl : BF a f s Q hm I s Q hm I := ⟨fun _ _ _ => rfl, fun _ _ => rfl, fun _ _ => ⟨rfl, rfl, rfl⟩, fun _ _ _ _ => rfl, fun _ _ => rfl, Nat.le_refl _, Nat.le_refl _, Nat.le_refl _⟩
theorem BF_t (A : BF a f s Q hm I s' Q' hm' I') (B : BF a f s' Q' hm' I' s2 Q2 hm2 I2) : BF a f s Q hm I s2 Q2 hm2 I2 := by
  obtain ⟨a1, a2, a3, a4, a5, a6, a7, a8⟩ := A
  obtain ⟨b1, b2, b3, b4, b5, b6, b7, b8⟩ := B
  refine ⟨fun x x1 x2 => (b1 x (Nat.lt_of_lt_of_le x1 a6) x2).trans (a1 x x1 x2), fun z hz => (b2 z hz).trans (a2 z hz), fun x x1 => ?_, fun x x1 x2 x3 => ?_, fun z hz => (b5 z hz).trans (a5 z hz), Nat.le_trans a6 b6, ?_, ?_⟩
  · obtain ⟨c1, c2, c3⟩ := a3 x x1
    obtain ⟨d1, d2, d3⟩ := b3 x (Nat.lt_of_lt_of_le x1 a6)
    exact ⟨d1.trans c1, d2.trans c2, d3.trans c3⟩
  · rw [b4 x (Nat.lt_of_lt_of_le x1 a6) x2 (by rw [(a3 x x1).1]; exact x3)]
    exact a4 x x1 x2 x3
  · clear a1 a2 a3 a4 a5 b1 b2 b3 b4 b5
    generalize bzR s Q a = z1 at *
    generalize bzR s' Q' a = z2 at *
    generalize bzR s2 Q2 a = z3 at *
    omega
  · clear a1 a2 a3 a4 a5 b1 b2 b3 b4 b5
    generalize bzR s Q a = z1 at *
    generalize bzR s' Q' a = z2 at *
    generalize bzR s2 Q2 a = z3 at *
    omega
theorem k_292 (hl : m 76 47 = len) (l0 : 0 ≤ len) (l1 : len < 24100) : jd_292 u m = some (jms (jms m 112 len (jwb u)) 76 47 (len + 1)) := by
  have e : jms m 112 len (jwb u) 76 47 = len := by rw [jms_o (by decide)]; exact hl
  unfold jd_292
  rw [hl, n_jw (z := len) (by omega) (by omega), if_neg (by omega), y_mw 112 24100 rfl rfl l0 (by omega), Option.bind_some]
  unfold jd_292_b21
  rw [e, Option.bind_some]
theorem c_24m (L : Lay s Q hm) (B : FBm s Q hm I m a f len) (h6 : s.1 + 2 < 1000000 + bzR s Q a) (l1 : len < 24067) (hv : v % 256 = u % 256) : ∃ (s' : hS) (Q' : hQ) (hm' : hO) (I' : jM), jd_24 a v (hh s Q I) = some (hh s' Q' I') ∧ jd_292 u m = some (jms (jms m 112 len (jwb u)) 76 47 (len + 1)) ∧ Lay s' Q' hm' ∧ FBm s' Q' hm' I' (jms (jms m 112 len (jwb u)) 76 47 (len + 1)) a f (len + 1) ∧ BF a f s Q hm I s' Q' hm' I' := by
  obtain ⟨F, ⟨f0, f8⟩, ⟨i6, l0, m47⟩, hB⟩ := B
  have h6' : s.1 < 1000000 := by
    have := bzR_2 (s := s) (Q := Q) (a := a)
    generalize bzR s Q a = z1 at *
    omega
  obtain ⟨S, R, H, J, b, e25, ⟨L1, F1, r1, r2, r3, r4, r5, r6⟩, hb, hp, hc, s6⟩ := c_25g (p := len + 1) f0 f8 L F h6' i6 l0 (by omega) (by omega) (fun e => by omega) (by
    rcases hB with e | ⟨b, e1, e2, -⟩
    · exact Or.inl e
    · exact Or.inr ⟨b, e1, e2⟩)
  obtain ⟨b153, n, hn, b1, b2, b3, b4⟩ := F1.2.2.2.1 b hb
  have c0 : Ce s hm a 10 0 (500 + f) := F.2.1 0 (by decide)
  have c1 : Ce S H a 10 0 (500 + f) := F1.2.1 0 (by decide)
  have ba : b ≠ a := fun e => by
    rw [e, c1.2.1] at b2
    exact absurd b2 (by decide)
  have Ja : J a = I a := (r3 a c0.1).1
  have J6 : J a ((6 : Nat) : Int) = len := by rw [Ja]; exact i6
  have R5 : R a ((5 : Nat) : Int) = some b := hb
  obtain ⟨K, hK⟩ : ∃ K, K = jms (jms J a 6 (len + 1)) b len (jwb v) := ⟨_, rfl⟩
  have i6' : I a ((6 : Nat) : Int) = len := i6
  refine ⟨S, R, H, K, ?_, k_292 m47 l0 (by omega), L1, ⟨F1, ⟨f0, f8⟩, ⟨by rw [hK, jms_o (fun e => ba e.symm), jms_e], by omega, jms_e⟩, Or.inr ⟨b, hb, hp, fun i i0 i1 => ?_⟩⟩, r1, r2, fun x x1 => (r3 x x1).2, fun x x1 x2 x3 => ?_, fun z hz => by rw [hK, jms_o (fun e => ba e.symm), jms_i hz, Ja], r4, r5, r6⟩
  · unfold jd_24
    rw [F_gi F, Option.bind_some, i6', F_ck F, Option.bind_some, e25, Option.bind_some, F_gi F1, Option.bind_some, J6, F_gr F1, Option.bind_some, R5, Option.bind_some, x_ln b1 s6 (by rw [b2]; decide), Option.bind_some, n_jw (z := ((S.2.2.2 b : Nat) : Int)) (by omega) (by rw [b3]; rcases hn with e | e <;> rw [e] <;> decide), n_jw (z := len) (by omega) (by omega), if_neg (by omega), Option.bind_some, Option.bind_some, F_pi F1, Option.bind_some, Option.bind_some, x_ta b1 b2 l0 (by omega) (by rw [b3]; rcases hn with e | e <;> rw [e] <;> decide), Option.bind_some, hK]
    rfl
  · rw [jms_o (show (112 : Nat) ≠ 76 by decide), hK]
    by_cases e : i = len
    · rw [e, jms_e, jms_e, n_jwb_m', n_jwb_m']
      exact hv
    · rw [jms_i e, jms_i e, jms_o ba]
      rcases hB with e1 | ⟨c, e1, e2, e3⟩
      · omega
      · rw [hc c e1 i i0 (by omega)]
        exact e3 i i0 (by omega)
  · have xb : x ≠ b := fun e => x3 (by
      rw [← (r3 x x1).2.1, e]
      exact b4)
    rw [hK, jms_o xb, jms_o x2]
    exact (r3 x x1).1
end ByteM
