/-! filter -/
section Filter
variable {s : hS} {Q Q' : hQ} {hm : hO} {I I' m m' : jM} {a b : Nat} {q z n : Int}
theorem flt_b48 (R : RelH s Q hm I m) (hq : m 76 92 = q) (q8 : q < 8) (ha : Q 7 q = some a) (h6 : s.1 ≤ 1000000) : ∃ (v b : Int) (Q' : hQ) (I' m' : jM), jd_169_b48 0 (hh s Q I) = some (.inl v, hh s Q' I') ∧ jd_344 m = some (b, m') ∧ m' 76 0 = 0 ∧ jw b = jw v ∧ (∀ x : Nat, x ≠ 0 → x ≠ a → x ≠ a + 1 → Q' x = Q x ∧ I' x = I x) ∧ RelH s Q' hm I' m' := by
  have L := R.1
  obtain ⟨t1, t2, t3, t4, t5⟩ := id R.2.2.2.2.2.2.2.1
  obtain ⟨u1, u2, u3, u4⟩ := id R.2.2.1
  have q0 : 0 ≤ q := by omega
  have A := t4 q q0 q8 a ha
  have a153 := A.1
  obtain ⟨n, hn⟩ : ∃ n, m 76 5 = n := ⟨_, rfl⟩
  rw [hn] at u1 u2 u3 u4
  have L' : Lay s (rms Q a 3 (some 2)) hm := Lay_rmsD L (by omega)
  obtain ⟨J, hJ⟩ : ∃ J, J = jms I 0 3 0 := ⟨_, rfl⟩
  have jo : ∀ x : Nat, x ≠ 0 → J x = I x := fun x hx => by rw [hJ, jms_o hx]
  have X : Fx s (rms Q a 3 (some 2)) hm a q n (if 200 < n then 200 else n) J (jms m 76 0 0) := by
    obtain ⟨A1, A2, A3, A4, A5, A6⟩ := A
    refine ⟨L', ⟨A1, A2, A3, A4, by rw [rms_i (by decide)]; exact A5, by rw [rms_i (by decide)]; exact A6⟩, h6, rms_e, ⟨q0, q8⟩, by rw [jms_i (by decide)]; exact hq, by rw [jms_i (by decide)]; exact hn, ⟨u2, u3⟩, rfl, fun i i0 i1 => ?_⟩
    unfold tC
    rw [jms_o (by decide), jo 2 (by decide), n_jwb_m']
    exact u4 i i0 i1
  obtain ⟨v, I1, mm, e1, e2, F, io, rest⟩ := flt_run X
  obtain ⟨F1, F2, F3⟩ := F
  have q11 : Q 0 ((11 : Nat) : Int) = some 7 := Lq L rfl
  have q2 : Q 0 ((2 : Nat) : Int) = some 2 := Lq L rfl
  have i3 : I 0 ((3 : Nat) : Int) = n := u1
  have hJ' : jms I 0 ((3 : Nat) : Int) 0 = J := hJ.symm
  have j12 : J 0 ((12 : Nat) : Int) = q := by rw [hJ, jms_i (by decide)]; exact t1.trans hq
  have tg : s.2.2.1 a = 3 + 8 := A.2.1.2.1
  have hC : jd_169_b48 0 (hh s Q I) = (if 0 ≤ jw v then jd_169_b97 0 (-1 - v) (hh s (rms Q a 3 (some 2)) I1) else ((jgi (hh s (rms Q a 3 (some 2)) I1) 0 11 12).bind fun v46 => ((jpi (hh s (rms Q a 3 (some 2)) I1) 0 11 12 (v46 + 1)).bind fun h48 => jd_169_b97 0 v46 h48))) := by
    unfold jd_169_b48
    rw [y_gi L 0 11 rfl rfl, Option.bind_some, i3, y_pi L 0 11 rfl rfl, Option.bind_some, hJ', y_gr L 0 11 rfl rfl, Option.bind_some, q11, y_gi L 0 11 rfl rfl, Option.bind_some, j12, Option.bind_some, y_ar L 7 5 8 rfl rfl rfl q0 q8, Option.bind_some, ha, y_gr L 0 11 rfl rfl, Option.bind_some, q2, Option.bind_some, x_ck A.2.1.1 tg, Option.bind_some, e1, Option.bind_some]
  have hM : jd_344 m = (if jw (jms mm 76 5 0 76 97) = -1 then ((jmw (jms mm 76 5 0) 135 (jms mm 76 5 0 76 92) (jms mm 76 5 0 76 102)).bind fun m32 => ((some (jms m32 76 92 ((m32 76 92) + 1))).bind fun m34 => some (((m34 76 92) - 1), m34))) else some (((-1) - (jms mm 76 5 0 76 97)), jms mm 76 5 0)) := by
    have x0 : (if jw q = 8 then (1 : Int) else 0) = 0 := by rw [n_jw (z := q) (by omega) (by omega), if_neg (by omega)]
    have x1 : jms m 76 0 0 76 0 = 0 := jms_e
    have e2' : jd_344_l59 1 (jms (jms (jms (jms (jms (jms (jms m 76 0 0) 76 96 0) 76 97 (-1)) 76 98 0) 76 101 0) 76 102 0) 76 103 0) = some mm := e2
    unfold jd_344
    rw [hq, x0, Option.bind_some, x1, if_pos (show jw 0 ≤ 0 by decide), Option.bind_some, Option.bind_some, Option.bind_some, Option.bind_some, Option.bind_some, Option.bind_some, e2', Option.bind_some, Option.bind_some]
  have m97 : jms mm 76 5 0 76 97 = mm 76 97 := jms_i (by decide)
  have m92 : jms mm 76 5 0 76 92 = q := by rw [jms_i (by decide), F2 92 (by omega), jms_i (by decide)]; exact hq
  have m102 : jms mm 76 5 0 76 102 = mm 76 102 := jms_i (by decide)
  have mo : ∀ x : Nat, x ≠ 76 → (x < 135 ∨ 139 < x) → mm x = m x := fun x h1 h2 => by rw [F1 x h1 (by omega), jms_o h1]
  have m135 : mm 135 = m 135 := by rw [F1 135 (by decide) (by omega), jms_o (by decide)]
  have m76 : ∀ z : Int, z ≠ 0 → z < 96 → mm 76 z = m 76 z := fun z h1 h2 => by rw [F2 z (by omega), jms_i h1]
  have m136 : ∀ z : Int, z < 400 * q ∨ 400 * q + 400 ≤ z → mm 136 z = m 136 z ∧ mm 137 z = m 137 z := fun z hz => F3 z hz
  have I0 : I1 0 = J 0 := io 0 (by omega) (by omega)
  rw [hC, hM, m97, m92, m102]
  rcases rest with ⟨v1, v2, c, w1, w2, w3, w4, E, D⟩ | ⟨v1, v2, v3⟩
  · have z0 : mm 76 0 = 0 := by rw [F2 0 (by omega), jms_e]
    have i12 : I1 0 ((12 : Nat) : Int) = q := by rw [I0]; exact j12
    have y92 : jms (jms mm 76 5 0) 135 q c 76 92 = q := by rw [jms_o (by decide)]; exact m92
    have y93 : jms (jms (jms mm 76 5 0) 135 q c) 76 92 (q + 1) 76 92 = q + 1 := jms_e
    rw [v1, v2, w1, if_neg (show ¬ 0 ≤ jw (-1) by decide), if_pos (show jw (-1) = -1 by decide), y_gi L' 0 11 rfl rfl, Option.bind_some, i12, y_pi L' 0 11 rfl rfl, Option.bind_some, y_mw 135 8 rfl rfl q0 q8, Option.bind_some, y92, Option.bind_some, y93]
    refine ⟨q, q + 1 - 1, rms Q a 3 (some 2), jms I1 0 12 (q + 1), jms (jms (jms mm 76 5 0) 135 q c) 76 92 (q + 1), rfl, rfl, ?_, by rw [show q + 1 - 1 = q by omega], fun x h0 h1 h2 => ⟨rms_o h1, by rw [jms_o h0, io x h1 h2]; exact jo x h0⟩, ?_⟩
    · rw [jms_i (by decide), jms_o (by decide), jms_i (by decide)]
      exact z0
    · refine RelH_flt (q' := q + 1) R hq q8 ha rfl (fun x h0 h1 h2 => by rw [jms_o h0, io x h1 h2]; exact jo x h0) (fun z h1 h2 => by rw [jms_i h2, I0, hJ, jms_i h1]) (by rw [jms_i (by decide), I0, hJ, jms_e]) jms_e (fun x h1 h2 => by rw [jms_o h1, jms_o (by omega), jms_o h1]; exact mo x h1 h2) (fun z h1 h2 h3 h4 => by rw [jms_i h2, jms_o (by decide), jms_i h1]; exact m76 z h3 h4) (by rw [jms_i (by decide), jms_o (by decide), jms_e]) jms_e (fun z hz => by rw [jms_o (by decide), jms_i hz, jms_o (by decide), m135]) (fun z hz => by rw [jms_o (by decide), jms_o (by decide), jms_o (by decide), jms_o (by decide), jms_o (by decide), jms_o (by decide)]; exact m136 z hz) (Or.inr ⟨rfl, ?_⟩)
      have x1 : jms I1 0 12 (q + 1) a = I1 a := jms_o (by omega)
      have x2 : jms I1 0 12 (q + 1) (a + 1) = I1 (a + 1) := jms_o (by omega)
      have y1 : jms (jms (jms mm 76 5 0) 135 q c) 76 92 (q + 1) 135 q = c := by rw [jms_o (by decide), jms_e]
      have y2 : jms (jms (jms mm 76 5 0) 135 q c) 76 92 (q + 1) 136 = mm 136 := rfl
      have y3 : jms (jms (jms mm 76 5 0) 135 q c) 76 92 (q + 1) 137 = mm 137 := rfl
      unfold FltC
      rw [x1, x2, y1, y2, y3]
      refine ⟨w2, w3, w4, fun k k0 k1 => E k k0 k1, ?_⟩
      obtain ⟨D, d1, d2, d3⟩ := D
      refine ⟨D, d1, d2, fun k k0 k1 => ?_⟩
      rw [← ar_st (E k k0 k1)]
      exact d3 k k0 k1
  · rw [v3, n_jw (z := v) (by omega) (by omega), if_pos v1, if_neg (by omega)]
    refine ⟨-1 - v, -1 - v, rms Q a 3 (some 2), I1, jms mm 76 5 0, rfl, rfl, ?_, rfl, fun x h0 h1 h2 => ⟨rms_o h1, by rw [io x h1 h2]; exact jo x h0⟩, ?_⟩
    · rw [jms_i (by decide), F2 0 (by omega), jms_e]
    · exact RelH_flt (q' := q) R hq q8 ha rfl (fun x h0 h1 h2 => by rw [io x h1 h2]; exact jo x h0) (fun z h1 h2 => by rw [I0, hJ, jms_i h1]) (by rw [I0, hJ, jms_e]) (by rw [I0]; exact j12) (fun x h1 h2 => by rw [jms_o h1]; exact mo x h1 h2) (fun z h1 h2 h3 h4 => by rw [jms_i h1]; exact m76 z h3 h4) jms_e m92 (fun z hz => by rw [jms_o (by decide), m135]) (fun z hz => by rw [jms_o (by decide), jms_o (by decide)]; exact m136 z hz) (Or.inl rfl)
theorem si_filter (R : RelH s Q hm I m) (h6 : s.1 ≤ 900000) : SimI (jd_169 0 (hh s Q I)) (jd_344 m) (fun E => if E = 1 then 1 else 0) s Q I := by
  have L := R.1
  obtain ⟨t1, t2, t3, t4, t5⟩ := id R.2.2.2.2.2.2.2.1
  obtain ⟨q, hq⟩ : ∃ q, m 76 92 = q := ⟨_, rfl⟩
  rw [hq] at t1 t2 t3
  have q11 : Q 0 ((11 : Nat) : Int) = some 7 := Lq L rfl
  have i12 : I 0 ((12 : Nat) : Int) = q := t1
  by_cases c : q < 8
  · cases hs : Q 7 q with
    | some a =>
      have A := t4 q t2 c a hs
      obtain ⟨v, b, Q', I', m', e1, e2, e3, e4, e5, e6⟩ := flt_b48 R hq c hs (by omega)
      refine Or.inl ⟨v, b, s, Q', I', m', ?_, e2, e3, e4, fun x h1 h2 => ?_, Gr_refl, hm, e6⟩
      · unfold jd_169
        rw [y_gi L 0 11 rfl rfl, Option.bind_some, i12, n_jw (z := q) (by omega) (by omega), if_pos c, y_gr L 0 11 rfl rfl, Option.bind_some, q11, Option.bind_some, Option.bind_some, y_ar L 7 5 8 rfl rfl rfl t2 c, Option.bind_some, hs, if_neg (by simp)]
        exact e1
      · have := A.1
        obtain ⟨x1, x2⟩ := e5 x (by omega) (by omega) (by omega)
        exact ⟨rfl, rfl, x1, x2⟩
    | none =>
      obtain ⟨n, Q1, I1, g1, g2, g3, g4, g5, g6⟩ := c_new3 (s := s) (Q := Q) (I := I) (by omega)
      obtain ⟨f1, f2, f3, f4, f5, f6⟩ := f_sh (s := s)
      have S : Sm (fun _ => True) s Q hm I (fSh s) Q1 (fOw3 hm s.1 (520 + q)) I1 := ⟨by omega, fun x hx _ => by
        obtain ⟨x1, x2⟩ := g4 x hx
        obtain ⟨x3, x4⟩ := f3 x hx
        exact ⟨x3, x4, x1, x2, if_neg (by omega)⟩⟩
      have L1 : Lay (fSh s) Q1 (fOw3 hm s.1 (520 + q)) := by
        obtain ⟨l1, l2, l3, l4⟩ := L
        refine ⟨by omega, fun x hx => (Ce_fr S (l2 x hx) trivial).1, fun x h1 h2 => ?_, fun x k y e => ?_⟩
        · rw [← l3 x h1 h2]
          exact if_neg (by omega)
        · rw [(g4 x (by have := sq_lt e; omega)).1]
          exact l4 x k y e
      have R1 : RelH (fSh s) Q1 (fOw3 hm s.1 (520 + q)) I1 m := RelH_fr S (fun _ _ => trivial) L1 Mm_refl R
      have s153 := L.1
      have A1 : FltAt (fSh s) Q1 (fOw3 hm s.1 (520 + q)) s.1 q := ⟨s153, ⟨by omega, f4.1, f4.2, if_pos (Or.inl rfl)⟩, ⟨by omega, f5.1, f5.2, if_pos (Or.inr (Or.inl rfl))⟩, ⟨by omega, f6.1, f6.2, if_pos (Or.inr (Or.inr rfl))⟩, g5, g6⟩
      have R2 := RelH_slot7 R1 (z := q) ⟨by omega, c⟩ A1
      obtain ⟨v, b, Q', I', m', e1, e2, e3, e4, e5, e6⟩ := flt_b48 (a := s.1) R2 hq c rms_e (by omega)
      have g0 := g4 0 (by omega)
      refine Or.inl ⟨v, b, fSh s, Q', I', m', ?_, e2, e3, e4, fun x h1 h2 => ?_, ⟨by omega, by omega, by omega⟩, _, e6⟩
      · unfold jd_169
        rw [y_gi L 0 11 rfl rfl, Option.bind_some, i12, n_jw (z := q) (by omega) (by omega), if_pos c, y_gr L 0 11 rfl rfl, Option.bind_some, q11, Option.bind_some, Option.bind_some, y_ar L 7 5 8 rfl rfl rfl t2 c, Option.bind_some, hs, if_pos rfl, Option.bind_some, Option.bind_some, g1, Option.bind_some, g3, Option.bind_some, Option.bind_some, g2, y_tr L1 7 5 8 rfl rfl rfl t2 c A1.2.1.1 (A1.2.1.2.1.trans rfl), Option.bind_some]
        exact e1
      · obtain ⟨x1, x2⟩ := e5 x (by omega) (by omega) (by omega)
        obtain ⟨x3, x4⟩ := g4 x (by omega)
        obtain ⟨x5, x6⟩ := f3 x (by omega)
        exact ⟨x5, x6, by rw [x1, rms_o (by omega), x3], x2.trans x4⟩
  · refine SimI_th (E := 1) (b := 0) R ?_ ?_ (by decide)
    · unfold jd_169
      rw [y_gi L 0 11 rfl rfl, Option.bind_some, i12, n_jw (z := q) (by omega) (by omega), if_neg c, x_6 (by omega), Option.bind_some]
    · have q8 : q = 8 := by omega
      have x1 : jms m 76 0 1 76 0 = 1 := jms_e
      unfold jd_344
      rw [hq, q8, if_pos (show jw 8 = 8 by decide), Option.bind_some, x1, if_neg (show ¬ jw 1 ≤ 0 by decide)]
      rfl
end Filter
