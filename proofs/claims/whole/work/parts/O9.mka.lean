/-! making: one picture of a group, up to its bytes, both sides -/
section MkA
variable {s s' s2 : hS} {Q Q' Q2 : hQ} {hm hm' hm2 : hO} {I I' I2 m m' m2 : jM} {a p b src : Nat} {f w h g k kd rc os st st' n d T len sz x hv q x5 : Int}
/-- as MFp, what is had aside -/
def MFq (m m' : jM) (k st : Int) : Prop := (∀ c : Nat, c ≠ 76 → c ≠ 104 → ¬ (109 ≤ c ∧ c ≤ 111) → ¬ (113 ≤ c ∧ c ≤ 117) → ¬ (122 ≤ c ∧ c ≤ 125) → m' c = m c) ∧ (∀ z : Int, z ≠ 53 → ¬ (59 ≤ z ∧ z ≤ 65) → ¬ (74 ≤ z ∧ z ≤ 77) → z ≠ 82 → z ≠ 83 → m' 76 z = m 76 z) ∧ m' 104 k = st ∧ (∀ j : Int, j < 864 * k ∨ 864 * k + 864 ≤ j → m' 109 j = m 109 j)
theorem MFq_p (A : MFp m m' k st) : MFq m m' k st := ⟨A.1, fun z z1 z2 z3 _ _ => A.2.1 z z1 z2 z3, A.2.2.1, A.2.2.2.2.1⟩
theorem MFq_t (A : MFq m m' k st) (B : MFq m' m2 k st') : MFq m m2 k st' := ⟨fun c c1 c2 c3 c4 c5 => (B.1 c c1 c2 c3 c4 c5).trans (A.1 c c1 c2 c3 c4 c5), fun z z1 z2 z3 z4 z5 => (B.2.1 z z1 z2 z3 z4 z5).trans (A.2.1 z z1 z2 z3 z4 z5), B.2.2.1, fun j hj => (B.2.2.2 j hj).trans (A.2.2.2 j hj)⟩
theorem MFq_82 {v : Int} (h : m 104 k = st) : MFq m (jms m 76 82 v) k st := ⟨fun c c1 _ _ _ _ => jms_o c1, fun z _ _ _ z4 _ => jms_i z4, by rw [jms_o (by decide)]; exact h, fun j _ => by rw [jms_o (by decide)]⟩
theorem MFq_83 {v : Int} (h : m 104 k = st) : MFq m (jms m 76 83 v) k st := ⟨fun c c1 _ _ _ _ => jms_o c1, fun z _ _ _ _ z5 => jms_i z5, by rw [jms_o (by decide)]; exact h, fun j _ => by rw [jms_o (by decide)]⟩
theorem MFq_G (A : MFq m m' k st) : MG m m' := ⟨fun c c1 c2 c3 => A.1 c c1 (by omega) (by omega) (by omega) c3, fun z hz => A.2.1 z (by omega) (by omega) (by omega) (by omega) (by omega)⟩
theorem PKm_m (h1 : ∀ c : Nat, c ≠ 76 → m' c = m c) (h2 : m' 76 32 = m 76 32 ∧ m' 76 33 = m 76 33 ∧ m' 76 34 = m 76 34 ∧ m' 76 36 = m 76 36) (X : PKm s Q hm I m a p src f w h g k kd rc os) : PKm s Q hm I m' a p src f w h g k kd rc os := by
  unfold PKm RfE at *
  rw [h1 102 (by decide), h1 103 (by decide), h1 109 (by decide), h1 121 (by decide), h1 82 (by decide), h2.1, h2.2.1, h2.2.2.1, h2.2.2.2]
  exact X
theorem MdP_m (h1 : ∀ c : Nat, c ≠ 76 → m' c = m c) (h2 : m' 76 53 = m 76 53) (D : MdP s Q hm I m p b w h k st n) : MdP s Q hm I m' p b w h k st n := by
  unfold MdP RfE at *
  rw [h1 113 (by decide), h1 109 (by decide), h1 104 (by decide), h2]
  exact D
/-- what is had: nothing told, or as much on both sides -/
def HV (sz x hv q : Int) : Prop := (sz = 0 ∧ -16000 * q ≤ x ∧ x ≤ 0) ∨ (0 < sz ∧ x = hv ∧ 0 ≤ x ∧ x ≤ 20000)
/-- a picture is made; class, model -/
def Mad (s : hS) (Q : hQ) (hm : hO) (I m : jM) (a p src : Nat) (f w h g k st n : Int) (S : hS) (R : hQ) (H : hO) (J m' : jM) (b : Nat) : Prop := Lay S R H ∧ FilmAt S R H a f ∧ MdP S R H J m' p b w h k st n ∧ Sm (PFp (200 + 12 * f + (g + k))) s Q hm I S R H J ∧ J p = I p ∧ MFq m m' k st ∧ Gw s Q S R ∧ (1 ≤ st ∧ st ≤ 31)
theorem mk_a (C : MkC s Q hm I m a f w h T 0) (k0 : 0 ≤ k) (gk : g + k < T) (g0 : 0 ≤ g) (X : PKm s Q hm I m a p src f w h g k kd rc os) (q68 : Q 68 (m 103 k) = some src) (pl : 0 ≤ m 103 k ∧ m 103 k < T) (ip : I (a + 2) (g + k) = m 103 k) (m35 : m 76 35 = n) (kn : k < n) (n12 : n ≤ 12) (h6 : s.1 + 2 < 1000000) (hsz : m 82 5 = sz) (h5 : x5 = if jw sz ≤ 0 then 0 else 1) (V : HV sz x (m 76 82) (g + k)) : ∃ (S : hS) (R : hQ) (H : hO) (J m' : jM) (b : Nat) (nb st hv : Int), Mad s Q hm I m a p src f w h g k st nb S R H J m' b ∧ ((jd_66_s14 42 (some a) sz x (g + k) (hh s Q I) = some (.inr (.inl (hh S R J))) ∧ jd_294_s42 g g (m 82 4) x5 k m = some (.inr (.inl m'))) ∨ (jd_66_s14 42 (some a) sz x (g + k) (hh s Q I) = jd_66_b150 42 (some a) sz hv (g + k) st ((nb + 7) / 8) (hh S R J) ∧ jd_294_s42 g g (m 82 4) x5 k m = jd_294_b179 g g (m 82 4) x5 k ((nb + 7) / 8) m' ∧ ((nb + 7) / 8 ≤ 2000 → HV sz (hv - 8 * ((nb + 7) / 8)) (m' 76 82) (g + k + 1)))) := by
  obtain ⟨⟨L, F, f0, f8⟩, hb, -, ⟨T1, T2, i5, q6⟩, c5, -, -, -⟩ := C
  have so : ∀ {i : Int}, 0 ≤ i → i < 8 → i ≠ 5 → (jxv 1).getD i.toNat 0 ≤ m 82 i ∧ m 82 i ≤ (jxv 2).getD i.toNat 0 := fun {i} i0 i1 i2 => by
    rcases (c5 i i0 i1).2 with ⟨e, -⟩ | e
    · exact absurd e i2
    · exact e
  have so5 : sz = 0 ∨ (100 ≤ sz ∧ sz ≤ 20000) := by
    rw [← hsz]
    rcases (c5 5 (by decide) (by decide)).2 with ⟨-, e⟩ | e
    · exact Or.inl e
    · exact Or.inr e
  have so6 : 50 ≤ m 82 6 ∧ m 82 6 ≤ 10000 := so (by decide) (by decide) (by decide)
  have so4 : 1 ≤ m 82 4 ∧ m 82 4 ≤ 31 := so (by decide) (by decide) (by decide)
  have rc3 : m 82 3 = rc := X.2.2.2.2.2.2.2.2.2.2.1
  have i33 : I 3 3 = rc := (c5 3 (by decide) (by decide)).1.trans rc3
  obtain ⟨S1, R1, H1, J1, m1, b1, n1, e1, e2, L1, X1, D1, Sm1, ip1, M1, G1⟩ := pic_2 (st := m 82 4) L (by omega) hb X so4.1 so4.2
  obtain ⟨y, hy⟩ : ∃ y, (n1 + 7) / 8 = y := ⟨_, rfl⟩
  have yb : 0 ≤ y ∧ y ≤ 3826 := by have := D1.2.1; omega
  obtain ⟨hv, hhv⟩ : ∃ hv, hv = if x + m 82 6 < sz then x + m 82 6 else sz := ⟨_, rfl⟩
  have xb : -192000 ≤ x ∧ x ≤ 20000 := by
    rcases V with ⟨-, h1, h2⟩ | ⟨-, -, h1, h2⟩ <;> omega
  have e82' : m1 82 = m 82 := M1.1 82 (by decide) (by decide) (by decide) (by decide) (by decide)
  -- the class as far as the loop
  have ec : jd_66_s14 42 (some a) sz x (g + k) (hh s Q I) = (jd_66_l85 42 (some a) sz hv (g + k) (some src) (m 82 4) y (hh S1 R1 J1)).bind fun x73 => (if (jw sz) ≤ 0 then jd_66_b150 42 (some a) sz hv (g + k) x73.1 x73.2.1 x73.2.2 else (if (jw hv) < (jw (8 * x73.2.1)) then some (.inr (.inl x73.2.2)) else jd_66_b150 42 (some a) sz hv (g + k) x73.1 x73.2.1 x73.2.2)) := by
    have i5' : I 42 ((5 : Nat) : Int) = T := i5
    have q6' : Q 42 ((6 : Nat) : Int) = some 3 := q6
    have q4 : Q 42 ((4 : Nat) : Int) = some 68 := Lq L rfl
    have q1 : Q 42 ((1 : Nat) : Int) = some 44 := Lq L rfl
    have q0 : Q 42 ((0 : Nat) : Int) = some 43 := Lq L rfl
    have q8 := F_q F 1 8 rfl rfl
    have a2 : I (a + (1 + 1)) (g + k) = m 103 k := ip
    unfold jd_66_s14
    rw [y_gi L 42 4 rfl rfl, Option.bind_some, i5', n_jw (z := T) (by omega) (by omega), n_jw (z := g + k) (by omega) (by omega), if_neg (by omega), y_gr L 42 4 rfl rfl, Option.bind_some, q6', Option.bind_some, y_ai L (by omega) 3 8 rfl rfl rfl (by decide) (by decide), Option.bind_some, (c5 6 (by decide) (by decide)).1, n_jw (z := x + m 82 6) (by omega) (by omega), n_jw (z := sz) (by omega) (by omega), ← hhv, Option.bind_some, y_gr L 42 4 rfl rfl, Option.bind_some, q4, Option.bind_some, F_gr F, Option.bind_some, q8, Option.bind_some, F_ai F (by omega) (1 + 1) 12 rfl rfl rfl (by omega) (by omega), Option.bind_some, a2, Option.bind_some, y_ar L 68 6 12 rfl rfl rfl (by omega) (by omega), Option.bind_some, q68, Option.bind_some, Option.bind_some, y_ai L (by omega) 3 8 rfl rfl rfl (by decide) (by decide), Option.bind_some, (c5 4 (by decide) (by decide)).1, y_gr L 42 4 rfl rfl, Option.bind_some, q1, y_gr L 42 4 rfl rfl, Option.bind_some, q0, Option.bind_some, Option.bind_some, y_ai L (by omega) 3 8 rfl rfl rfl (by decide) (by decide), Option.bind_some, i33, Option.bind_some, y_ck L 44 1 rfl rfl, Option.bind_some, e1, Option.bind_some, hy]
  have e76 : m1 76 82 = m 76 82 := M1.2.1 82 (by decide) (by decide) (by decide)
  have em : jd_294_s42 g g (m 82 4) x5 k m = if jw x5 = 0 then jd_294_b179 g g (m 82 4) x5 k y m1 else jd_294_b113 g g (m 82 4) x5 k (m 82 4) y (if sz ≤ m 76 82 + m 82 6 then sz else m 76 82 + m 82 6) m1 := by
    unfold jd_294_s42
    rw [m35, n_jw (z := n) (by omega) (by omega), n_jw (z := k) (by omega) (by omega), if_neg (by omega), e2, Option.bind_some, hy]
    dsimp only
    by_cases c : jw x5 = 0
    · rw [if_pos c, if_pos c]
    · rw [if_neg c, if_neg c, y_ma 82 8 rfl rfl (by decide) (by decide), Option.bind_some, y_ma 82 8 rfl rfl (by decide) (by decide), Option.bind_some]
      show (if jw (m1 82 5) ≤ jw (m1 76 82 + m1 82 6) then jd_294_b113 g g (m 82 4) x5 k (m 82 4) y (m1 82 5) m1 else ((some (m1 82 6)).bind fun v64 => jd_294_b113 g g (m 82 4) x5 k (m 82 4) y (m1 76 82 + v64) m1)) = _
      rw [e82', e76, hsz]
      have nz : 0 < sz := by
        rcases so5 with e | e
        · rw [h5, e, if_pos (by decide)] at c
          exact absurd (by decide) c
        · omega
      have hx : m 76 82 = x := by
        rcases V with ⟨e, -⟩ | ⟨-, e, -⟩
        · omega
        · exact e.symm
      rw [hx, n_jw (z := sz) (by omega) (by omega), n_jw (z := x + m 82 6) (by omega) (by omega)]
      by_cases c2 : sz ≤ x + m 82 6
      · rw [if_pos c2, if_pos c2]
      · rw [if_neg c2, if_neg c2, Option.bind_some]
  rw [ec, em]
  rcases so5 with rfl | ⟨z1, z2⟩
  · have e50 : x5 = 0 := by rw [h5]; rfl
    have hv0 : -16000 * (g + k) ≤ hv ∧ hv ≤ 0 := by
      rcases V with ⟨-, v1, v2⟩ | ⟨v1, -⟩
      · rw [hhv]
        by_cases c : x + m 82 6 < 0
        · rw [if_pos c]; omega
        · rw [if_neg c]; omega
      · omega
    have l : jd_66_l85 42 (some a) 0 hv (g + k) (some src) (m 82 4) y (hh S1 R1 J1) = some (m 82 4, y, hh S1 R1 J1) := by
      unfold jd_66_l85
      exact jlp_r (n := 99999999) (by
        show jd_66_s85 42 (some a) 0 hv (g + k) (some src) (m 82 4) y (hh S1 R1 J1) = _
        unfold jd_66_s85
        rw [if_pos (by decide)])
    refine ⟨S1, R1, H1, J1, m1, b1, n1, m 82 4, hv, ⟨L1, X1.1, D1, Sm1, ip1, MFq_p M1, G1, so4⟩, Or.inr ⟨?_, ?_, fun hz => Or.inl ⟨rfl, by omega, by omega⟩⟩⟩
    · rw [l, Option.bind_some, if_pos (show jw 0 ≤ 0 by decide), hy]
    · rw [e50, if_pos (show jw 0 = 0 by decide), hy]
  · have e51 : x5 = 1 := by rw [h5, n_jw (z := sz) (by omega) (by omega), if_neg (by omega)]
    obtain ⟨hx, x0, x1⟩ : x = m 76 82 ∧ 0 ≤ x ∧ x ≤ 20000 := by
      rcases V with ⟨e, -⟩ | ⟨-, e⟩
      · omega
      · exact e
    have hve : (if sz ≤ m 76 82 + m 82 6 then sz else m 76 82 + m 82 6) = hv := by
      rw [hhv, ← hx]
      by_cases c : sz ≤ x + m 82 6
      · rw [if_pos c, if_neg (by omega)]
      · rw [if_neg c, if_pos (by omega)]
    have hvb : 0 ≤ hv ∧ hv ≤ 20000 := by
      rw [hhv]
      by_cases c : x + m 82 6 < sz
      · rw [if_pos c]; omega
      · rw [if_neg c]; omega
    obtain ⟨m3, hm3⟩ : ∃ z, z = jms m1 76 82 hv := ⟨_, rfl⟩
    have o3 : ∀ c : Nat, c ≠ 76 → m3 c = m1 c := fun c hc => by rw [hm3, jms_o hc]
    have z3 : ∀ z : Int, z ≠ 82 → m3 76 z = m1 76 z := fun z hz => by rw [hm3, jms_i hz]
    have pf42 : ∀ o : Int, 1000 ≤ o → o < 1043 → PFp (200 + 12 * f + (g + k)) o := fun o o1 o2 => ⟨by omega, by omega, by omega⟩
    have t42 := Lay_fr (a := 42) L Sm1 (by decide) (pf42 _ (by decide) (by decide))
    have t3 := Lay_fr (a := 3) L Sm1 (by decide) (pf42 _ (by decide) (by decide))
    have s1b : S1.1 + 1 < 1000000 := by
      have := G1.2.1
      have := nW_le (Q := R1)
      omega
    obtain ⟨S2, R2, J2, m2, n2, st2, r1, r2, r3, H2, b2, L2, X2, D2, Sm2, ip2, M2, G2⟩ := rate_m (x1 := g) (x3 := g) (x4 := m 82 4) (x5 := x5) (sz := sz) (hv := hv) L1 s1b (PKm_m o3 ⟨z3 32 (by decide), z3 33 (by decide), z3 34 (by decide), z3 36 (by decide)⟩ X1) (MdP_m o3 (z3 53 (by decide)) D1) so4.1 so4.2 (by omega) z2 hvb.1 hvb.2 (by rw [hm3, jms_e]) (by rw [t42.1]; exact q6) (by rw [t3.2]; exact i33)
    rw [hy] at r1 r2
    have n82 : m2 76 82 = hv := by rw [M2.2.1 82 (by decide) (by decide) (by decide), hm3, jms_e]
    obtain ⟨y2, hy2⟩ : ∃ y2, (n2 + 7) / 8 = y2 := ⟨_, rfl⟩
    have y2b : 0 ≤ y2 ∧ y2 ≤ 3826 := by have := D2.2.1; omega
    have A3 : MFq m1 m3 k (m 82 4) := by rw [hm3]; exact MFq_82 M1.2.2.1
    have A2 : MFq m m2 k st2 := MFq_t (MFq_p M1) (MFq_t A3 (MFq_p M2))
    have eb : jd_294_b113 g g (m 82 4) 1 k (m 82 4) y hv m1 = if 8 * y2 ≤ hv then jd_294_b179 g g (m 82 4) 1 k y2 (jms m2 76 82 (hv - 8 * y2)) else some (.inr (.inl m2)) := by
      unfold jd_294_b113
      rw [Option.bind_some, ← hm3, show jd_294_l116 g g (m 82 4) 1 k (m 82 4) y m3 = some (y2, m2) by rw [← e51, ← hy2]; exact r2, Option.bind_some]
      show (if jw (8 * y2) ≤ jw (m2 76 82) then ((some (jms m2 76 82 (m2 76 82 - 8 * y2))).bind fun m62 => jd_294_b179 g g (m 82 4) 1 k y2 m62) else some (.inr (.inl m2))) = _
      rw [n82, n_jw (z := hv) (by omega) (by omega), n_jw (z := 8 * y2) (by omega) (by omega), Option.bind_some]
    rw [r1, Option.bind_some, e51, if_neg (show ¬ jw 1 = 0 by decide), hve, eb]
    dsimp only
    rw [n_jw (z := sz) (by omega) (by omega), if_neg (show ¬ sz ≤ 0 by omega), hy2, n_jw (z := hv) (by omega) (by omega), n_jw (z := 8 * y2) (by omega) (by omega)]
    by_cases c : hv < 8 * y2
    · rw [if_pos c, if_neg (show ¬ 8 * y2 ≤ hv by omega)]
      exact ⟨S2, R2, H2, J2, m2, b2, n2, st2, hv, ⟨L2, X2.1, D2, Sm_trans Sm1 Sm2, ip2.trans ip1, A2, Gw_t G1 G2, r3⟩, Or.inl ⟨rfl, rfl⟩⟩
    · rw [if_neg c, if_pos (show 8 * y2 ≤ hv by omega)]
      refine ⟨S2, R2, H2, J2, jms m2 76 82 (hv - 8 * y2), b2, n2, st2, hv, ⟨L2, X2.1, MdP_m (fun c hc => jms_o hc) (jms_i (by decide)) D2, Sm_trans Sm1 Sm2, ip2.trans ip1, MFq_t A2 (MFq_82 D2.2.2.2), Gw_t G1 G2, r3⟩, Or.inr ⟨by rw [hy2], by rw [hy2], fun hz => Or.inr ⟨by omega, by rw [hy2, jms_e], by omega, by omega⟩⟩⟩
end MkA
