/-! making: a picture's bytes put behind the film's, both sides -/
section BytesM
variable {s : hS} {Q : hQ} {hm : hO} {I m : jM} {a b : Nat} {f n len z t x1 x3 x4 x5 x6 : Int}
/-- the model's rows after t bytes -/
def mBy (m : jM) (n len t : Int) : jM := fun c => if c = 112 then (fun i => if len ≤ i ∧ i < len + t then jwb (pk (m 113) n (i - len)) else m 112 i) else if c = 76 then (fun y => if y = 47 then len + t else m 76 y) else m c
theorem mBy_0 (h : m 76 47 = len) : mBy m n len 0 = m := by
  funext c i
  unfold mBy
  by_cases c1 : c = 112
  · rw [if_pos c1, c1]
    exact if_neg (by omega)
  · rw [if_neg c1]
    by_cases c2 : c = 76
    · rw [if_pos c2, c2]
      show (if i = 47 then len + 0 else m 76 i) = m 76 i
      by_cases c3 : i = 47
      · rw [if_pos c3, c3, h, Int.add_zero]
      · rw [if_neg c3]
    · rw [if_neg c2]
theorem mBy_s (t0 : 0 ≤ t) : jms (jms (mBy m n len t) 112 (len + t) (jwb (pk (m 113) n t))) 76 47 (len + t + 1) = mBy m n len (t + 1) := by
  funext c i
  by_cases c2 : c = 76
  · rw [c2]
    by_cases c3 : i = 47
    · rw [c3, jms_e]
      unfold mBy
      rw [if_neg (by decide), if_pos rfl]
      show len + t + 1 = if (47 : Int) = 47 then len + (t + 1) else m 76 47
      rw [if_pos rfl]
      omega
    · rw [jms_i c3, jms_o (by decide)]
      unfold mBy
      show (if i = 47 then len + t else m 76 i) = if i = 47 then len + (t + 1) else m 76 i
      rw [if_neg c3, if_neg c3]
  · rw [jms_o c2]
    by_cases c1 : c = 112
    · rw [c1]
      by_cases e : i = len + t
      · rw [e, jms_e]
        unfold mBy
        rw [if_pos rfl]
        show jwb (pk (m 113) n t) = if len ≤ len + t ∧ len + t < len + (t + 1) then jwb (pk (m 113) n (len + t - len)) else m 112 (len + t)
        rw [if_pos (by omega), show len + t - len = t by omega]
      · rw [jms_i e]
        unfold mBy
        rw [if_pos rfl, if_pos rfl]
        show (if len ≤ i ∧ i < len + t then jwb (pk (m 113) n (i - len)) else m 112 i) = if len ≤ i ∧ i < len + (t + 1) then jwb (pk (m 113) n (i - len)) else m 112 i
        by_cases d : len ≤ i ∧ i < len + t
        · rw [if_pos d, if_pos (by omega)]
        · rw [if_neg d, if_neg (by omega)]
    · rw [jms_o c1]
      unfold mBy
      rw [if_neg c1, if_neg c2, if_neg c1, if_neg c2]
theorem mBy_f : (∀ c : Nat, c ≠ 76 → c ≠ 112 → mBy m n len t c = m c) ∧ (∀ y : Int, y ≠ 47 → mBy m n len t 76 y = m 76 y) ∧ mBy m n len t 76 47 = len + t ∧ (∀ i : Int, i < len → mBy m n len t 112 i = m 112 i) ∧ ∀ i : Int, len ≤ i → i < len + t → mBy m n len t 112 i = jwb (pk (m 113) n (i - len)) := by
  unfold mBy
  refine ⟨fun c c1 c2 => by rw [if_neg c2, if_neg c1], fun y hy => ?_, ?_, fun i hi => ?_, fun i i0 i1 => ?_⟩
  · rw [if_neg (by decide), if_pos rfl]
    exact if_neg hy
  · rw [if_neg (by decide), if_pos rfl]
    exact if_pos rfl
  · rw [if_pos rfl]
    exact if_neg (by omega)
  · rw [if_pos rfl]
    exact if_pos ⟨i0, i1⟩
theorem k_294c (h47 : m 76 47 = len) (l0 : 0 ≤ len) (h53 : m 76 53 = n) (n0 : 0 ≤ n) (n1 : n ≤ 30600) (hb : ∀ i : Int, 0 ≤ i → i < n → m 113 i = 0 ∨ m 113 i = 1) (z0 : 0 ≤ z) (z1 : z ≤ 2000) (lz : len + z ≤ 24067) : jd_294_l275 x1 x3 x4 x5 x6 z 0 m = some (mBy m n len z) := by
  unfold jd_294_l275
  have := w_for (f := fun u : (Int × jM) => jd_294_s275 x1 x3 x4 x5 x6 z u.1 u.2) (fun k => ((k : Int), mBy m n len (k : Int))) z.toNat (x := mBy m n len z) (fun k hk => ?_) ?_ (n_fu (by omega))
  · rw [show ((0 : Nat) : Int) = 0 from rfl, mBy_0 h47] at this
    exact this
  · show jd_294_s275 x1 x3 x4 x5 x6 z (k : Int) (mBy m n len (k : Int)) = some (.inl (((k + 1 : Nat) : Int), mBy m n len ((k + 1 : Nat) : Int)))
    obtain ⟨f1, f2, f3, -, -⟩ := mBy_f (m := m) (n := n) (len := len) (t := (k : Int))
    have g113 : mBy m n len (k : Int) 113 = m 113 := f1 113 (by decide) (by decide)
    have e1 := k_294b (m := mBy m n len (k : Int)) (x1 := x1) (x3 := x3) (x4 := x4) (x5 := x5) (x6 := x6) (x8 := z) (j := (k : Int)) (n := n) (by rw [f2 53 (by decide)]; exact h53) n0 n1 (fun i i0 i1 => by rw [g113]; exact hb i i0 i1) (by omega) (by omega)
    rw [g113] at e1
    have e2 := k_292 (m := mBy m n len (k : Int)) (len := len + (k : Int)) (u := pk (m 113) n (k : Int)) f3 (by omega) (by omega)
    rw [mBy_s (by omega)] at e2
    unfold jd_294_s275
    rw [n_jw (z := z) (by omega) (by omega), n_jw (z := (k : Int)) (by omega) (by omega), if_neg (by omega), e1, Option.bind_some, e2, Option.bind_some]
    rfl
  · show jd_294_s275 x1 x3 x4 x5 x6 z ((z.toNat : Nat) : Int) (mBy m n len ((z.toNat : Nat) : Int)) = some (.inr (mBy m n len z))
    rw [show ((z.toNat : Nat) : Int) = z by omega]
    unfold jd_294_s275
    rw [if_pos (Int.le_refl _)]
/-- many bytes: class jd_23 out of the writer's row, the model's loop -/
theorem c_23m (L : Lay s Q hm) (B : FBm s Q hm I m a f len) (h6 : s.1 + 2 < 1000000 + bzR s Q a) (lp : 0 < len) (W : WrT s Q 43 b) (ob : hm b = 560) (Y : By I b (m 113) n) (h53 : m 76 53 = n) (n0 : 0 ≤ n) (n1 : n ≤ 30600) (hz : (n + 7) / 8 = z) (z1 : z ≤ 2000) (lz : len + z ≤ 24067) : ∃ (s' : hS) (Q' : hQ) (hm' : hO) (I' : jM), jd_23 a (some b) 0 z (hh s Q I) = some (hh s' Q' I') ∧ jd_294_l275 x1 x3 x4 x5 x6 z 0 m = some (mBy m n len z) ∧ Lay s' Q' hm' ∧ FBm s' Q' hm' I' (mBy m n len z) a f (len + z) ∧ BF a f s Q hm I s' Q' hm' I' := by
  obtain ⟨F, ⟨f0, f8⟩, ⟨i6, l0, m47⟩, hB⟩ := B
  have z0 : 0 ≤ z := by omega
  have h6' : s.1 < 1000000 := by
    have := bzR_2 (s := s) (Q := Q) (a := a)
    generalize bzR s Q a = z1 at *
    omega
  obtain ⟨S, R, H, J, d, e25, ⟨L1, F1, r1, r2, r3, r4, r5, r6⟩, hd, hp, hc, s6⟩ := c_25g (p := len + z) f0 f8 L F h6' i6 l0 (by omega) lz (fun e => absurd e (by omega)) (by
    rcases hB with e | ⟨b, e1, e2, -⟩
    · exact Or.inl e
    · exact Or.inr ⟨b, e1, e2⟩)
  obtain ⟨d153, k, hn, d1, d2, d3, d4⟩ := F1.2.2.2.1 d hd
  have c0 : Ce s hm a 10 0 (500 + f) := F.2.1 0 (by decide)
  have c1 : Ce S H a 10 0 (500 + f) := F1.2.1 0 (by decide)
  have da : d ≠ a := fun e => by
    rw [e, c1.2.1] at d2
    exact absurd d2 (by decide)
  obtain ⟨w1, w2, w3, w4⟩ := W
  obtain ⟨jb, hb', tb, nb⟩ := r3 b w2.1
  have Ja : J a = I a := (r3 a c0.1).1
  have l1 : J a 6 = len := by rw [Ja]; exact i6
  have e23 := c_23e (I := J) (n := z) (sp := 0) (len := len) (c := b) F1 s6 hd l1 l0 z0 (Int.le_refl _) hp (by have := w2.1; omega) (by rw [tb]; exact w2.2.1) (by rw [nb, w2.2.2]; omega) (by rw [nb, w2.2.2]; decide) da
  obtain ⟨K, hK⟩ : ∃ K, K = jms (ims J d (fun j => if len ≤ j ∧ j < len + z then J b (0 + (j - len)) else J d j)) a 6 (len + z) := ⟨_, rfl⟩
  rw [← hK] at e23
  obtain ⟨g1, g2, g3, g4, g5⟩ := mBy_f (m := m) (n := n) (len := len) (t := z)
  refine ⟨S, R, H, K, ?_, k_294c m47 l0 h53 n0 n1 Y.2 z0 z1 lz, L1, ⟨F1, ⟨f0, f8⟩, ⟨by rw [hK, jms_e], by omega, g3⟩, Or.inr ⟨d, hd, hp, fun i i0 i1 => ?_⟩⟩, r1, r2, fun x x1 => (r3 x x1).2, fun x x1 x2 x3 => ?_, fun y hy => by rw [hK, jms_i hy, ims_o (fun e => da e.symm), Ja], r4, r5, r6⟩
  · rw [← e23]
    exact c_23_of (v := len) (by rw [F_gi F]; exact congrArg some i6) (F_ck F) e25 (by rw [F_gi F1]; exact congrArg some l1) (F_ck F1) (c_25e F1 s6 hd ⟨by omega, by omega⟩ hp)
  · rw [hK, jms_o da, ims_e]
    by_cases c : len ≤ i
    · rw [if_pos ⟨c, i1⟩, g5 i c i1, n_jwb_m', jb, show (0 : Int) + (i - len) = i - len by omega, Y.1 (i - len) (by omega) (by omega)]
      have := pk_b (g := m 113) (n := n) (j := i - len) Y.2 (by omega)
      omega
    · rw [if_neg (by omega), g4 i (by omega)]
      rcases hB with e1 | ⟨c', e1, e2, e3⟩
      · omega
      · rw [hc c' e1 i i0 (by omega)]
        exact e3 i i0 (by omega)
  · have xd : x ≠ d := fun e => x3 (by
      rw [← (r3 x x1).2.1, e]
      exact d4)
    rw [hK, jms_o x2, ims_o xd]
    exact (r3 x x1).1
end BytesM
