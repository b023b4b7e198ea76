/-! making in waves and runs: one picture, both sides -/
section MkOth
variable {s s' : hS} {Q Q' : hQ} {hm hm' : hO} {I I' m m' : jM} {a b : Nat} {f w h g k n T cod len st : Int}
def MO (m m' : jM) : Prop := (∀ c : Nat, c ≠ 76 → ¬ (102 ≤ c ∧ c ≤ 120) → ¬ (122 ≤ c ∧ c ≤ 130) → m' c = m c) ∧ ∀ z : Int, z < 35 ∨ 84 ≤ z → m' 76 z = m 76 z
theorem MO_t {m2 : jM} (A : MO m m') (B : MO m' m2) : MO m m2 := ⟨fun c c1 c2 c3 => (B.1 c c1 c2 c3).trans (A.1 c c1 c2 c3), fun z hz => (B.2 z hz).trans (A.2 z hz)⟩
theorem MO_G (A : MG m m') : MO m m' := ⟨fun c c1 c2 c3 => A.1 c c1 (by omega) (by omega), A.2⟩
theorem MkC_o (C : MkC s Q hm I m a f w h T cod) (S : Sm (PG f) s Q hm I s' Q' hm' I') (L' : Lay s' Q' hm') (F' : FilmAt s' Q' hm' a f) (hb' : ∀ b, Q' 43 0 = some b → 153 ≤ b ∧ Ce s' hm' b 1 4000 560) (M : MO m m') (c8 : ∀ j : Int, 0 ≤ j → j < T → ∃ p, Q' (a + 9) j = some p ∧ I' p 0 = w ∧ I' p 1 = h) (c9 : I' (a + 1) = I (a + 1)) : MkC s' Q' hm' I' m' a f w h T cod := by
  obtain ⟨⟨L, F, f0, f8⟩, -, ⟨m32, m33, m34, sw, sh⟩, ⟨T1, T2, i5, q6⟩, c5, c6, -, x9⟩ := C
  have q42 := Lay_fr (a := 42) L S (by decide) (by unfold PG; omega)
  have q3 := Lay_fr (a := 3) L S (by decide) (by unfold PG; omega)
  have q68 := Lay_fr (a := 68) L S (by decide) (by unfold PG; omega)
  have e82 : m' 82 = m 82 := M.1 82 (by decide) (by decide) (by decide)
  have e121 : m' 121 = m 121 := M.1 121 (by decide) (by decide) (by decide)
  refine ⟨⟨L', F', f0, f8⟩, hb', ⟨by rw [M.2 32 (by decide)]; exact m32, by rw [M.2 33 (by decide)]; exact m33, by rw [M.2 34 (by decide)]; exact m34, sw, sh⟩, ⟨T1, T2, by rw [q42.2]; exact i5, by rw [q42.1]; exact q6⟩, fun k k0 k1 => by rw [q3.2, e82]; exact c5 k k0 k1, fun i i0 i1 => ?_, c8, by rw [c9]; exact x9⟩
  obtain ⟨src, h1, h2, h3⟩ := c6 i i0 i1
  obtain ⟨P', j1, j2⟩ := PicAt_fr S h2 (by unfold PG; omega)
  exact ⟨src, by rw [q68.1]; exact h1, P', by rw [e121]; exact Pix_fr h3 j1 j2⟩
def MkO (s : hS) (Q : hQ) (hm : hO) (I m : jM) (a : Nat) (f w h g k n T len cod : Int) : Prop := MkC s Q hm I m a f w h T cod ∧ GrC I m a g n 0 T ∧ FBm s Q hm I m a f len ∧ (7 ≤ len ∧ len ≤ 7 + 2005 * (g + k)) ∧ (∀ j : Int, 0 ≤ j → j < k → ∀ x : Int, 0 ≤ x → x < 864 → m 109 (864 * j + x) = m 121 (864 * m 103 j + x)) ∧ HBy (m 112) (I (a + 1)) (I (a + 2)) cod (g + k) len
def MkU (s : hS) (Q : hQ) (hm : hO) (I m : jM) (a : Nat) (f : Int) (S : hS) (R : hQ) (H : hO) (J m' : jM) : Prop := (Lay S R H ∧ FilmAt S R H a f) ∧ (∀ b, R 43 0 = some b → 153 ≤ b ∧ Ce S H b 1 4000 560) ∧ Sm (PG f) s Q hm I S R H J ∧ MO m m' ∧ Gm a s Q S R ∧ J (a + 1) = I (a + 1) ∧ J (a + 2) = I (a + 2) ∧ J (a + 8) = I (a + 8) ∧ ∀ i : Int, i < 7 → m' 112 i = m 112 i
theorem MkU_t {s2 : hS} {Q2 : hQ} {hm2 : hO} {I2 m2 : jM} (A : MkU s Q hm I m a f s' Q' hm' I' m') (B : MkU s' Q' hm' I' m' a f s2 Q2 hm2 I2 m2) : MkU s Q hm I m a f s2 Q2 hm2 I2 m2 := ⟨B.1, B.2.1, Sm_trans A.2.2.1 B.2.2.1, MO_t A.2.2.2.1 B.2.2.2.1, Gm_t A.2.2.2.2.1 B.2.2.2.2.1, B.2.2.2.2.2.1.trans A.2.2.2.2.2.1, B.2.2.2.2.2.2.1.trans A.2.2.2.2.2.2.1, B.2.2.2.2.2.2.2.1.trans A.2.2.2.2.2.2.2.1, fun i hi => (B.2.2.2.2.2.2.2.2 i hi).trans (A.2.2.2.2.2.2.2.2 i hi)⟩
/-- the planes of picture k, both sides: what is asked of a coding -/
def PlnQ (m : jM) (a : Nat) (f w h g k n T cod : Int) : Prop := ∀ (S : hS) (R : hQ) (H : hO) (J : jM) (x4 : Option Nat), MkC S R H J m a f w h T cod → GrC J m a g n 0 T → S.1 ≤ 1000000 → (∀ c, R 43 0 = some c → 153 ≤ c ∧ H c = 560) → WM S R J (m0W m k (g + k)) 0 → x4 = (if k = 0 then none else R 68 (g + k - 1)) → ∃ (I' m' : jM) (n' : Int), jd_67_l48 42 (some a) cod (g + k) x4 0 (hh S R J) = some (hh S R I') ∧ (if cod = 1 then ((jd_286 k (m0W m k (g + k))).bind fun m23 => jd_291_b118 k m23) else jd_291_b118 k (m0W m k (g + k))) = some ((n' + 7) / 8, m') ∧ WM S R I' m' n' ∧ n' ≤ 30600 ∧ NV R J I' ∧ MV (m0W m k (g + k)) m'
theorem mkoth (Z : MkO s Q hm I m a f w h g k n T len cod) (hc : cod = 1 ∨ cod = 2) (k0 : 0 ≤ k) (k1 : k < n) (h6 : s.1 + 8 < 1000000) (PQ : PlnQ m a f w h g k n T cod) : ∃ (S : hS) (R : hQ) (H : hO) (J m' : jM), MkU s Q hm I m a f S R H J m' ∧ ((jd_67_s2 42 (some a) cod (g + k) (hh s Q I) = some (.inr (.inl (hh S R J))) ∧ jd_294_s42 g g st 0 k m = some (.inr (.inr (.inl m')))) ∨ ∃ len' : Int, jd_67_s2 42 (some a) cod (g + k) (hh s Q I) = some (.inl (g + k + 1, hh S R J)) ∧ jd_294_s42 g g st 0 k m = some (.inl (k + 1, m')) ∧ MkO S R H J m' a f w h g (k + 1) n T len' cod) := by
  obtain ⟨C, Gr, B, ⟨l7, l1⟩, R9, W⟩ := Z
  obtain ⟨⟨m35, m36⟩, G, ⟨g0, n1, gn⟩, hj⟩ := id Gr
  obtain ⟨⟨L, F, f0, f8⟩, hb, ⟨m32, m33, m34, sw, sh⟩, ⟨T1, T2, i5, q6⟩, c5, c6, c8, c9⟩ := id C
  obtain ⟨u1, u2, u3, u4⟩ := hj k k0 k1
  obtain ⟨z1, z2⟩ := kk0 (n := n) (by omega) (by omega) k0 k1
  rw [z1] at u1 u3
  rw [z2] at u2 u4
  have a153 := F.1
  -- writing begins
  obtain ⟨S, R, H, J, b, e6, L1, S1, W1, b153, Cb, j43, j43', r43', g1, g2, g3, g4⟩ := c_6 (I := I) L (by omega) hb
  have cj : ∀ j : Nat, j < 13 → Ce S H (a + j) (fTag j).1 (fTag j).2 (500 + f) ∧ R (a + j) = Q (a + j) ∧ J (a + j) = I (a + j) := fun j hj => Ce_fr S1 (F.2.1 j hj) (by omega)
  obtain ⟨F1, -, fb, fp⟩ := FilmAt_fr1 S1 (fun j _ _ => by omega) (by omega) (by omega) F
  have hb1 : ∀ c, R 43 0 = some c → 153 ≤ c ∧ Ce S H c 1 4000 560 := fun c hc => by
    have := W1.2.2.2
    rw [hc] at this
    cases this
    exact ⟨b153, Cb⟩
  have S1' : Sm (PG f) s Q hm I S R H J := Sm_mono S1 (fun o ho => by unfold PG at ho; omega)
  have rdy1 : ∀ j : Int, 0 ≤ j → j < T → ∃ p, R (a + 9) j = some p ∧ J p 0 = w ∧ J p 1 = h := fun j j0 j1 => by
    obtain ⟨y, y1, y2, y3⟩ := c8 j j0 j1
    have := (fp j j0 (by omega) y y1).1
    exact ⟨y, by rw [(cj 9 (by decide)).2.1]; exact y1, by rw [this]; exact y2, by rw [this]; exact y3⟩
  have C1 : MkC S R H J m a f w h T cod := MkC_fr C S1' L1 F1 hb1 MG_refl rdy1 (cj 1 (by decide)).2.2
  have Gr1 : GrC J m a g n 0 T := ⟨⟨m35, m36⟩, G, ⟨g0, n1, gn⟩, fun j j0 j1 => by rw [(cj 1 (by decide)).2.2, (cj 2 (by decide)).2.2]; exact hj j j0 j1⟩
  obtain ⟨w1, w2, w3, w4, w5⟩ := m0W_f (m := m) (k := k) (pos := g + k)
  have WM1 : WM S R J (m0W m k (g + k)) 0 := ⟨⟨j43, Int.le_refl _, Or.inr ⟨b, W1, fun j j0 j1 => absurd j1 (by omega), fun i i0 i1 => absurd i1 (by omega)⟩⟩, w3⟩
  have hw1 : ∀ c, R 43 0 = some c → 153 ≤ c ∧ H c = 560 := fun c hc => ⟨(hb1 c hc).1, (hb1 c hc).2.2.2.2⟩
  have g6 : S.1 ≤ 1000000 := by omega
  obtain ⟨I2, m2, nb, p1, p2, WM2, nb1, NV2, MV2⟩ := PQ S R H J (if k = 0 then none else R 68 (g + k - 1)) C1 Gr1 g6 hw1 WM1 rfl
  have nb0 : 0 ≤ nb := WM2.1.2.1
  obtain ⟨z, hz⟩ : ∃ z, (nb + 7) / 8 = z := ⟨_, rfl⟩
  have zb : 0 ≤ z ∧ z ≤ 3826 := by omega
  have e291 : jd_291 k st m = some (z, m2) := by
    rw [k_291w k0 (by omega) hc m32 u2 (by omega) (by omega), p2, hz]
  have By2 : By I2 b (m2 113) nb := by
    rcases WM2.1.2.2 with ⟨-, -, y⟩ | ⟨c, y1, y2⟩
    · rw [W1.2.2.2] at y
      cases y
    · have : some b = some c := by rw [← W1.2.2.2, ← y1.2.2.2]
      cases this
      exact y2
  -- what stays
  have bne : ∀ x : Nat, x < S.1 → H x ≠ 560 → R 43 0 ≠ some x := fun x _ hx e => hx (hb1 x e).2.2.2.2
  have i2 : ∀ x : Nat, x < S.1 → H x ≠ 560 → ¬ (1043 ≤ H x ∧ H x ≤ 1067) → I2 x = J x := fun x xS x1 x2 => by
    refine NV2.1 x (fun e => ?_) (fun e => ?_) (bne x xS x1)
    · rw [e, Lo L1 rfl] at x2
      omega
    · have := (L1.2.1 x (by omega)).2.2.2
      omega
  have S2 : Sm (PG f) S R H J S R H I2 := Sm_I (fun x xS hx => i2 x xS hx.2.1 hx.1)
  have ca : ∀ j : Nat, j < 13 → I2 (a + j) = I (a + j) := fun j hj => by
    have c1 := (cj j hj).1
    rw [i2 (a + j) c1.1 (by rw [c1.2.2.2]; omega) (by rw [c1.2.2.2]; omega)]
    exact (cj j hj).2.2
  have mo2 : MO m m2 := MO_t (⟨fun c c1 c2 c3 => w1 c c1 (by omega) (by omega) (by omega), fun y hy => w2 y (by omega)⟩ : MO m (m0W m k (g + k))) ⟨fun c c1 c2 c3 => MV2.1 c c1 (by omega) (by omega) (by omega), fun y hy => MV2.2 y (by omega)⟩
  have bz1 : bzR S R a = bzR s Q a := bzR_c (by rw [show R a = Q a from (cj 0 (by decide)).2.1]) (fun c hc => (fb c hc).1)
  have gm1 : Gm a s Q S R := by
    refine ⟨g1, ?_, ?_⟩
    · rw [bz1, nW_1 W1.2.2.2]
      cases hq : Q 43 0 with
      | none => rw [nW_0 hq]; omega
      | some y => rw [nW_1 hq, g4 (by rw [hq]; exact fun e => by cases e)]; omega
    · rw [bz1, nW_1 W1.2.2.2]
      cases hq : Q 43 0 with
      | none => rw [nW_0 hq]; generalize bzR s Q a = zz; omega
      | some y => rw [nW_1 hq, g4 (by rw [hq]; exact fun e => by cases e)]; generalize bzR s Q a = zz; omega
  have U2 : MkU s Q hm I m a f S R H I2 m2 := ⟨⟨L1, F1⟩, hb1, Sm_trans S1' S2, mo2, gm1, ca 1 (by decide), ca 2 (by decide), ca 8 (by decide), fun i _ => by rw [MV2.1 112 (by decide) (by decide) (by decide) (by decide), w1 112 (by decide) (by decide) (by decide) (by decide)]⟩
  obtain ⟨m6, hm6⟩ : ∃ y, y = jms m2 76 83 (m2 76 83 + (5 + z)) := ⟨_, rfl⟩
  have o6 : ∀ c : Nat, c ≠ 76 → m6 c = m2 c := fun c hc => by rw [hm6, jms_o hc]
  have z6 : ∀ y : Int, y ≠ 83 → m6 76 y = m2 76 y := fun y hy => by rw [hm6, jms_i hy]
  have mo6 : MO m2 m6 := ⟨fun c c1 _ _ => o6 c c1, fun y hy => z6 y (by omega)⟩
  have U6 : MkU s Q hm I m a f S R H I2 m6 := ⟨U2.1, U2.2.1, U2.2.2.1, MO_t mo2 mo6, U2.2.2.2.2.1, U2.2.2.2.2.2.1, U2.2.2.2.2.2.2.1, U2.2.2.2.2.2.2.2.1, fun i hi => by rw [o6 112 (by decide)]; exact U2.2.2.2.2.2.2.2.2 i hi⟩
  -- class and model as far as the bytes
  have ec : jd_67_s2 42 (some a) cod (g + k) (hh s Q I) = if z ≤ 2000 then ((jd_27 a (g + k) 0 (some b) 0 z (hh S R I2)).bind fun h85 => some (.inl (g + k + 1, h85))) else some (.inr (.inl (hh S R I2))) := by
    have i5' : I 42 ((5 : Nat) : Int) = T := i5
    have t0 : Q 42 ((0 : Nat) : Int) = some 43 := Lq L rfl
    have t0' : R 42 ((0 : Nat) : Int) = some 43 := Lq L1 rfl
    have t4' : R 42 ((4 : Nat) : Int) = some 68 := Lq L1 rfl
    have tb : R 43 ((0 : Nat) : Int) = some b := W1.2.2.2
    have q7 := F_q F1 0 7 rfl rfl
    have kv : J (a + (0 + 1)) (g + k) = (if k = 0 then 0 else 1) := by rw [show a + (0 + 1) = a + 1 from rfl, (cj 1 (by decide)).2.2]; exact u3
    have b43 : jd_67_b43 42 (some a) cod (g + k) (if k = 0 then none else R 68 (g + k - 1)) (hh S R J) = if z ≤ 2000 then ((jd_27 a (g + k) 0 (some b) 0 z (hh S R I2)).bind fun h85 => some (.inl (g + k + 1, h85))) else some (.inr (.inl (hh S R I2))) := by
      have t10 : jd_10 43 (hh S R I2) = some z := by rw [c_10 W1.1.1 W1.1.2 WM2.1.1 nb0 (by omega), hz]
      unfold jd_67_b43
      rw [p1, Option.bind_some, y_gr L1 42 4 rfl rfl, Option.bind_some, t0', Option.bind_some, y_ck L1 43 0 rfl rfl, Option.bind_some, t10, Option.bind_some, n_jw (z := z) (by omega) (by omega)]
      by_cases c : z ≤ 2000
      · rw [if_pos c, if_pos c, Option.bind_some, Option.bind_some, y_gr L1 43 0 rfl rfl, Option.bind_some, tb, Option.bind_some, Option.bind_some, y_ck L1 43 0 rfl rfl, Option.bind_some, t10, Option.bind_some, Option.bind_some, F_ck F1, Option.bind_some]
      · rw [if_neg c, if_neg c]
    unfold jd_67_s2
    rw [y_gi L 42 4 rfl rfl, Option.bind_some, i5', n_jw (z := T) (by omega) (by omega), n_jw (z := g + k) (by omega) (by omega), if_neg (by omega), y_gr L 42 4 rfl rfl, Option.bind_some, t0, Option.bind_some, y_ck L 43 0 rfl rfl, Option.bind_some, e6, Option.bind_some, Option.bind_some, F_gr F1, Option.bind_some, q7, Option.bind_some, F_ai F1 g6 (0 + 1) 12 rfl rfl rfl (by omega) (by omega), Option.bind_some, kv, ← b43]
    by_cases ck : k = 0
    · rw [if_pos ck, if_neg (show ¬ jw 0 = 1 by decide), if_pos ck]
      rfl
    · rw [if_neg ck, if_pos (show jw 1 = 1 by decide), if_neg (by omega), y_gr L1 42 4 rfl rfl, Option.bind_some, t4', Option.bind_some, y_ar L1 68 6 12 rfl rfl rfl (by omega) (by omega), Option.bind_some, if_neg ck]
  have em : jd_294_s42 g g st 0 k m = if z ≤ 2000 then jd_294_b207 g g st 0 k z m6 else some (.inr (.inr (.inl m6))) := by
    unfold jd_294_s42
    rw [m35, n_jw (z := n) (by omega) (by omega), n_jw (z := k) (by omega) (by omega), if_neg (by omega), e291, Option.bind_some, if_pos (show jw 0 = 0 by decide)]
    unfold jd_294_b179
    rw [Option.bind_some, n_jw (z := z) (by omega) (by omega), n_jw (z := g) (by omega) (by omega), if_neg (show ¬ g = -1 by omega), ← hm6]
  rw [ec, em]
  by_cases c : z ≤ 2000
  · rw [if_pos c, if_pos c]
    have e102 : m6 102 = m 102 := by rw [o6 102 (by decide), MV2.1 102 (by decide) (by decide) (by decide) (by decide), w1 102 (by decide) (by decide) (by decide) (by decide)]
    have e103 : m6 103 = m 103 := by rw [o6 103 (by decide), MV2.1 103 (by decide) (by decide) (by decide) (by decide), w1 103 (by decide) (by decide) (by decide) (by decide)]
    have e112 : m6 112 = m 112 := by rw [o6 112 (by decide), MV2.1 112 (by decide) (by decide) (by decide) (by decide), w1 112 (by decide) (by decide) (by decide) (by decide)]
    have e121 : m6 121 = m 121 := by rw [o6 121 (by decide), MV2.1 121 (by decide) (by decide) (by decide) (by decide), w1 121 (by decide) (by decide) (by decide) (by decide)]
    have e109 : m6 109 = m0W m k (g + k) 109 := by rw [o6 109 (by decide), MV2.1 109 (by decide) (by decide) (by decide) (by decide)]
    have y76 : ∀ y : Int, y ≠ 53 → y ≠ 83 → m6 76 y = m 76 y := fun y y1 y2 => by rw [z6 y y2, MV2.2 y y1, w2 y y1]
    have B6 : FBm S R H I2 m6 a f len := by
      obtain ⟨-, ff, ⟨x1, x2, x3⟩, x4⟩ := B
      refine ⟨F1, ff, ⟨by rw [show I2 a = I a from ca 0 (by decide)]; exact x1, x2, by rw [y76 47 (by decide) (by decide)]; exact x3⟩, ?_⟩
      rcases x4 with x4 | ⟨y, x5, x6, x7⟩
      · exact Or.inl x4
      · obtain ⟨-, yy, -, hyy⟩ := F.2.2.2.1 y x5
        have cy := Ce_fr S1 hyy (show 540 + f ≠ 1043 by omega)
        refine Or.inr ⟨y, by rw [show R a = Q a from (cj 0 (by decide)).2.1]; exact x5, by rw [(fb y x5).1]; exact x6, ?_⟩
        rw [i2 y cy.1.1 (by rw [cy.1.2.2.2]; omega) (by rw [cy.1.2.2.2]; omega), (fb y x5).2, e112]
        exact x7
    have By6 : By I2 b (m6 113) nb := by rw [o6 113 (by decide)]; exact By2
    have g6' : S.1 + 2 < 1000000 + bzR S R a := by
      generalize bzR S R a = zz
      omega
    obtain ⟨S3, R3, H3, J3, m3, r1, r2, L3, B3, X3, g3', MB3, v0, v1, v2, v3, v4⟩ := picb (x1 := g) (x3 := g) (x4 := st) (x5 := 0) (q := g + k) (k := k) (st := 0) L1 B6 g6' (by omega) W1 Cb.2.2.2 By6 (by rw [z6 53 (by decide)]; exact WM2.2) nb0 nb1 hz c (by omega) (by omega) (by omega) k0 (by omega) (by rw [ca 1 (by decide), e102, u1]; exact u3) (by rw [ca 2 (by decide), e103, u4, u2]; omega) (by rw [o6 104 (by decide), MV2.1 104 (by decide) (by decide) (by decide) (by decide)]; exact w4) (by rw [n_jw (z := g) (by omega) (by omega)]; omega)
    have F3 : FilmAt S3 R3 H3 a f := B3.1
    have S3' := BF_Sm F1 X3
    have n43 : (43 : Nat) ≠ a := by omega
    have q43 : R3 43 = R 43 := X3.1 43 W1.1.1 n43
    have hb3 : ∀ b, R3 43 0 = some b → 153 ≤ b ∧ Ce S3 H3 b 1 4000 560 := fun y hy => by
      rw [q43] at hy
      obtain ⟨y1, y2⟩ := hb1 y hy
      obtain ⟨t1, t2, t3⟩ := X3.2.2.1 y y2.1
      exact ⟨y1, Nat.lt_of_lt_of_le y2.1 X3.2.2.2.2.2.1, t2.trans y2.2.1, t3.trans y2.2.2.1, t1.trans y2.2.2.2⟩
    have rw3 : ∀ j : Nat, 0 < j → j < 13 → R3 (a + j) = Q (a + j) ∧ J3 (a + j) = I (a + j) := fun j j0 j1 => by
      have cc := (cj j j1).1
      rw [X3.1 (a + j) cc.1 (by omega), X3.2.2.2.1 (a + j) cc.1 (by omega) (by rw [cc.2.2.2]; omega)]
      exact ⟨(cj j j1).2.1, ca j j1⟩
    have mg3 : MO m6 m3 := ⟨fun y y1 y2 y3 => MB3.1 y y1 (by omega), fun y hy => MB3.2.1 y (by omega)⟩
    have FA : MkU s Q hm I m a f S3 R3 H3 J3 m3 := MkU_t U6 ⟨⟨L3, F3⟩, hb3, S3', mg3, BF_Gm q43 X3, by rw [(rw3 1 (by decide) (by decide)).2, ca 1 (by decide)], by rw [(rw3 2 (by decide) (by decide)).2, ca 2 (by decide)], by rw [(rw3 8 (by decide) (by decide)).2, ca 8 (by decide)], fun i hi => MB3.2.2 i (by omega)⟩
    have rdy3 : ∀ j : Int, 0 ≤ j → j < T → ∃ p, R3 (a + 9) j = some p ∧ J3 p 0 = w ∧ J3 p 1 = h := fun j j0 j1 => by
      obtain ⟨y, y1, y2, y3⟩ := rdy1 j j0 j1
      have A := F1.2.2.2.2 j j0 (by omega) y y1
      have ya : y ≠ a := fun e => by
        have t1 := A.2.1.2.2.2
        have t2 := (cj 0 (by decide)).1.2.2.2
        rw [e, show a = a + 0 from rfl, t2] at t1
        omega
      have : J3 y = J y := by
        rw [X3.2.2.2.1 y A.2.1.1 ya (by rw [A.2.1.2.2.2]; omega)]
        exact i2 y A.2.1.1 (by rw [A.2.1.2.2.2]; omega) (by rw [A.2.1.2.2.2]; omega)
      exact ⟨y, by rw [(rw3 9 (by decide) (by decide)).1, ← (cj 9 (by decide)).2.1]; exact y1, by rw [this]; exact y2, by rw [this]; exact y3⟩
    refine ⟨S3, R3, H3, J3, m3, FA, Or.inr ⟨len + 5 + z, ?_, r2, MkC_o C FA.2.2.1 L3 F3 hb3 FA.2.2.2.1 rdy3 FA.2.2.2.2.2.1, ⟨⟨?_, ?_⟩, G, ⟨g0, n1, gn⟩, fun j j0 j1 => ?_⟩, B3, ⟨by omega, by omega⟩, fun j j0 j1 x x0 x1 => ?_, ?_⟩⟩
    · rw [r1, Option.bind_some]
    · rw [MB3.2.1 35 (by decide), y76 35 (by decide) (by decide)]
      exact m35
    · rw [MB3.2.1 36 (by decide), y76 36 (by decide) (by decide)]
      exact m36
    · rw [MB3.1 102 (by decide) (by decide), MB3.1 103 (by decide) (by decide), e102, e103, FA.2.2.2.2.2.1, FA.2.2.2.2.2.2.1]
      exact hj j j0 j1
    · rw [MB3.1 109 (by decide) (by decide), MB3.1 121 (by decide) (by decide), MB3.1 103 (by decide) (by decide), e109, e121, e103, w5]
      dsimp only
      by_cases cjk : j = k
      · rw [cjk, if_pos ⟨by omega, by omega⟩, u2, show 864 * k + x - 864 * k = x by omega]
      · rw [if_neg (by omega)]
        exact R9 j j0 (by omega) x x0 x1
    · rw [FA.2.2.2.2.2.1, FA.2.2.2.2.2.2.1, show g + (k + 1) = g + k + 1 by omega]
      refine HBy_s (st := 0) (by omega) l7 W zb.1 c (fun e => absurd e (by omega)) (fun _ => rfl) (fun i hi => by rw [MB3.2.2 i hi, e112]) ?_ ?_ v2 v3 v4
      · rw [v0, e102, u1, u3]
      · rw [v1, e103, u2, u4, show g + k - g + g = g + k by omega]
  · rw [if_neg c, if_neg c]
    exact ⟨S, R, H, I2, m6, U6, Or.inl ⟨rfl, rfl⟩⟩
end MkOth
