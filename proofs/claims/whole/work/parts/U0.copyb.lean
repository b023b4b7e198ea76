/-! cutting: bytes of another film put behind a film's, both sides -/
section CopyB
variable {s : hS} {Q : hQ} {hm : hO} {I m : jM} {a c : Nat} {f len z sp t : Int} {g : Int → Int}
/-- the model's rows after t bytes of g -/
def mCp (m : jM) (g : Int → Int) (len t : Int) : jM := fun y => if y = 112 then (fun i => if len ≤ i ∧ i < len + t then jwb (g (i - len)) else m 112 i) else if y = 76 then (fun y => if y = 47 then len + t else m 76 y) else m y
theorem mCp_f : (∀ y : Nat, y ≠ 76 → y ≠ 112 → mCp m g len t y = m y) ∧ (∀ y : Int, y ≠ 47 → mCp m g len t 76 y = m 76 y) ∧ mCp m g len t 76 47 = len + t ∧ (∀ i : Int, i < len → mCp m g len t 112 i = m 112 i) ∧ ∀ i : Int, len ≤ i → i < len + t → mCp m g len t 112 i = jwb (g (i - len)) := by
  unfold mCp
  refine ⟨fun y c1 c2 => by rw [if_neg c2, if_neg c1], fun y hy => ?_, ?_, fun i hi => ?_, fun i i0 i1 => ?_⟩
  · rw [if_neg (by decide), if_pos rfl]
    exact if_neg hy
  · rw [if_neg (by decide), if_pos rfl]
    exact if_pos rfl
  · rw [if_pos rfl]
    exact if_neg (by omega)
  · rw [if_pos rfl]
    exact if_pos ⟨i0, i1⟩
theorem c_23k (L : Lay s Q hm) (B : FBm s Q hm I m a f len) (h6 : s.1 + 2 < 1000000 + bzR s Q a) (lp : 0 < len) (c1 : c < s.1) (c2 : s.2.2.1 c = 1) (c3 : sp + z ≤ ((s.2.2.2 c : Nat) : Int)) (c4 : s.2.2.2 c ≤ 1000000) (s0 : 0 ≤ sp) (Y : ∀ i : Int, 0 ≤ i → i < z → I c (sp + i) % 256 = g i % 256) (z0 : 0 ≤ z) (lz : len + z ≤ 24067) : ∃ (s' : hS) (Q' : hQ) (hm' : hO) (I' : jM), jd_23 a (some c) sp z (hh s Q I) = some (hh s' Q' I') ∧ Lay s' Q' hm' ∧ FBm s' Q' hm' I' (mCp m g len z) a f (len + z) ∧ BF a f s Q hm I s' Q' hm' I' := by
  obtain ⟨F, ⟨f0, f8⟩, ⟨i6, l0, m47⟩, hB⟩ := B
  have h6' : s.1 < 1000000 := by
    have := bzR_2 (s := s) (Q := Q) (a := a)
    generalize bzR s Q a = z1 at *
    omega
  obtain ⟨S, R, H, J, d, e25, ⟨L1, F1, r1, r2, r3, r4, r5, r6⟩, hd, hp, hc, s6⟩ := c_25g (p := len + z) f0 f8 L F h6' i6 l0 (by omega) lz (fun e => absurd e (by omega)) (by
    rcases hB with e | ⟨b, e1, e2, -⟩
    · exact Or.inl e
    · exact Or.inr ⟨b, e1, e2⟩)
  obtain ⟨d153, k, hn, d1, d2, d3, d4⟩ := F1.2.2.2.1 d hd
  have c0 : Ce s hm a 10 0 (500 + f) := F.2.1 0 (by decide)
  have c1' : Ce S H a 10 0 (500 + f) := F1.2.1 0 (by decide)
  have da : d ≠ a := fun e => by
    rw [e, c1'.2.1] at d2
    exact absurd d2 (by decide)
  obtain ⟨jb, hb', tb, nb⟩ := r3 c c1
  have Ja : J a = I a := (r3 a c0.1).1
  have l1 : J a 6 = len := by rw [Ja]; exact i6
  have e23 := c_23e (I := J) (n := z) (sp := sp) (len := len) (c := c) F1 s6 hd l1 l0 z0 s0 hp (Nat.lt_of_lt_of_le c1 r4) (by rw [tb]; exact c2) (by rw [nb]; exact c3) (by rw [nb]; exact c4) da
  obtain ⟨K, hK⟩ : ∃ K, K = jms (ims J d (fun j => if len ≤ j ∧ j < len + z then J c (sp + (j - len)) else J d j)) a 6 (len + z) := ⟨_, rfl⟩
  rw [← hK] at e23
  obtain ⟨g1, g2, g3, g4, g5⟩ := mCp_f (m := m) (g := g) (len := len) (t := z)
  refine ⟨S, R, H, K, ?_, L1, ⟨F1, ⟨f0, f8⟩, ⟨by rw [hK, jms_e], by omega, g3⟩, Or.inr ⟨d, hd, hp, fun i i0 i1 => ?_⟩⟩, r1, r2, fun x x1 => (r3 x x1).2, fun x x1 x2 x3 => ?_, fun y hy => by rw [hK, jms_i hy, ims_o (fun e => da e.symm), Ja], r4, r5, r6⟩
  · rw [← e23]
    exact c_23_of (v := len) (by rw [F_gi F]; exact congrArg some i6) (F_ck F) e25 (by rw [F_gi F1]; exact congrArg some l1) (F_ck F1) (c_25e F1 s6 hd ⟨by omega, by omega⟩ hp)
  · rw [hK, jms_o da, ims_e]
    by_cases cc : len ≤ i
    · rw [if_pos ⟨cc, i1⟩, g5 i cc i1, n_jwb_m', jb]
      exact Y (i - len) (by omega) (by omega)
    · rw [if_neg (by omega), g4 i (by omega)]
      rcases hB with e1 | ⟨c', e1, e2, e3⟩
      · omega
      · rw [hc c' e1 i i0 (by omega)]
        exact e3 i i0 (by omega)
  · have xd : x ≠ d := fun e => x3 (by
      rw [← (r3 x x1).2.1, e]
      exact d4)
    rw [hK, jms_o x2, ims_o xd]
    exact (r3 x x1).1
end CopyB
