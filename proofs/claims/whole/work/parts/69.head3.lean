/-! one head, both -/
section Head3
variable {s : hS} {Q : hQ} {hm : hO} {I m : jM} {a b n : Nat} {f T cod p len : Int}
/-- what a head that fits leaves behind -/
def hGot (I I' m m' : jM) (a n : Nat) (p kd x S Z : Int) : Prop := (I' (a + 1) = jiu (I (a + 1)) n kd ∧ I' (a + 2) = jiu (I (a + 2)) n x ∧ I' (a + 3) = jiu (I (a + 3)) n S ∧ I' (a + 4) = jiu (I (a + 4)) n Z ∧ I' (a + 5) = jiu (I (a + 5)) n p ∧ I' (a + 6) = jiu (I (a + 6)) x n) ∧ m' 102 = jiu (m 102) n kd ∧ m' 103 = jiu (m 103) n x ∧ m' 104 = jiu (m 104) n S ∧ m' 105 = jiu (m 105) n Z
theorem jms_at {M : jM} {c : Nat} {z v : Int} : jms M c z v c = jiu (M c) z v := if_pos rfl
theorem head1 (F : FilmAt s Q hm a f) (h6 : s.1 ≤ 1000000) (Y : BySm s Q I m a b len) (l1 : len ≤ 24090) (hb : ∀ j : Nat, j < 13 → b ≠ a + j) (HC : HdC I a n T cod) (HM : HdM m n T) (hc : m 76 32 = cod) (hn : (n : Int) < T) (eK : ∀ j : Int, 0 ≤ j → j < n → I (a + 1) j = m 102 j) (eP : ∀ j : Int, 0 ≤ j → j < n → I (a + 2) j = m 103 j) (p0 : 0 ≤ p) (p1 : p ≤ len) : ∃ r I' m', jd_31 a (n : Int) p (hh s Q I) = some (r, hh s Q I') ∧ jd_307 p T m = some (r, m') ∧ (∀ c, (c < a + 1 ∨ a + 6 < c) → I' c = I c) ∧ (∀ c, c ≠ 102 → c ≠ 103 → c ≠ 104 → c ≠ 105 → m' c = m c) ∧ ((0 ≤ r ∧ r ≤ len) ∨ (r = -1 ∧ kdOk (m 102) (m 103) T cod n (m 112 p % 256) ∧ plOk (m 102) (m 103) T n (m 112 p % 256) (m 112 (p + 1) % 256) ∧ hTail m cod len p ∧ hGot I I' m m' a n p (m 112 p % 256) (m 112 (p + 1) % 256) (m 112 (p + 2) % 256) (256 * (m 112 (p + 3) % 256) + m 112 (p + 4) % 256))) := by
  obtain ⟨y1, y2, y3, y4, y5, y6, y7, y8⟩ := id Y
  obtain ⟨c0, c4, cc, tt, kk, vv, mx⟩ := id HC
  obtain ⟨h1, h2, h3, h4⟩ := id HM
  have n12 : n < 12 := by omega
  have lj : jw len = len := n_jw (by omega) (by omega)
  have e11 : Q a ((11 : Nat) : Int) = some (a + 5) := F_q F 4 11 rfl rfl
  have e7 : Q a ((7 : Nat) : Int) = some (a + 1) := F_q F 0 7 rfl rfl
  have e8 : Q a ((8 : Nat) : Int) = some (a + 2) := F_q F 1 8 rfl rfl
  have e9 : Q a ((9 : Nat) : Int) = some (a + 3) := F_q F 2 9 rfl rfl
  have e12 : Q a ((12 : Nat) : Int) = some (a + 6) := F_q F 5 12 rfl rfl
  have k302 : ∀ (M : jM) q, M 76 47 = len → M 112 = m 112 → 0 ≤ q → q < 24100 → jd_302 q M = some (if len ≤ q then -1 else m 112 q % 256) := fun M q g1 g2 g3 g4 => by
    rw [k_302 g3 g4 g1 y4 (by omega), g2]
  generalize hI1 : jms I (a + 5) (n : Int) p = I1
  have i1o : ∀ c, c ≠ a + 5 → I1 c = I c := fun c hc => by rw [← hI1]; exact jms_o hc
  have i16 : I1 a ((6 : Nat) : Int) = len := by rw [i1o a (by omega)]; exact y3
  have Y1 : BySm s Q I1 m a b len := BySm_J Y (i1o b (hb 5 (by decide))) (i1o a (by omega))
  obtain ⟨X, hX⟩ : ∃ X, jd_307 p T m = X := ⟨_, rfl⟩
  rw [hX]
  unfold jd_307 at hX
  rw [k302 m p y7 rfl p0 (by omega), Option.bind_some] at hX
  unfold jd_31 jd_31_b161
  rw [F_gr F, Option.bind_some, e11, Option.bind_some, F_ta F 5 0 12 rfl rfl rfl (by omega) (by omega), Option.bind_some, hI1, F_gi F, Option.bind_some, i16, lj, n_jw (z := p) (by omega) (by omega)]
  by_cases c1 : p < len
  · rw [if_neg (show ¬ len ≤ p by omega)] at hX
    rw [if_pos c1, F_gr F, Option.bind_some, F_ck F, Option.bind_some, c_30 F Y1 p0 c1, Option.bind_some, e7, Option.bind_some, F_ta F 1 0 12 rfl rfl rfl (by omega) (by omega), Option.bind_some]
    generalize hkd : m 112 p % 256 = kd at *
    have kb : 0 ≤ kd ∧ kd ≤ 255 := by omega
    generalize hI2 : jms I1 (a + 1) (n : Int) kd = I2
    have i2o : ∀ c, c ≠ a + 1 → c ≠ a + 5 → I2 c = I c := fun c g1 g2 => by rw [← hI2, jms_o g1, i1o c g2]
    have i21 : I2 (a + 1) = jiu (I (a + 1)) n kd := by rw [← hI2, jms_at, i1o (a + 1) (by omega)]
    have i2n : I2 (a + 1) n = kd := by rw [i21]; exact if_pos rfl
    have i2j : ∀ j : Int, 0 ≤ j → j < n → I2 (a + 1) j = I (a + 1) j := fun j j0 j1 => by rw [i21]; exact if_neg (by omega)
    have i26 : I2 a ((6 : Nat) : Int) = len := by rw [i2o a (by omega) (by omega)]; exact y3
    have Y2 : BySm s Q I2 m a b len := BySm_J Y (i2o b (hb 1 (by decide)) (hb 5 (by decide))) (i2o a (by omega) (by omega))
    have H2 : HdC I2 a n T cod := HdC_c HC (by rw [i2o a (by omega) (by omega)]) (by rw [i2o a (by omega) (by omega)]) i2j (fun j _ _ => by rw [i2o (a + 2) (by omega) (by omega)]) (i2o (a + 6) (by omega) (by omega))
    obtain ⟨ke, ke1, ke2, ke3⟩ := c_33 F h6 H2 n12 i2n kb
    obtain ⟨me, me1, me2, me3⟩ := k_306 (kd := kd) HM hc cc (by omega)
    have kc : kdOk (I2 (a + 1)) (I2 (a + 2)) T cod n kd ↔ kdOk (m 102) (m 103) T cod n kd := kdOk_c (fun j j0 j1 => (i2j j j0 j1).trans (eK j j0 j1)) (fun j j0 j1 => by rw [i2o (a + 2) (by omega) (by omega)]; exact eP j j0 j1)
    have kme : ke = me := by
      have : ke = 1 ↔ me = 1 := ke3.trans (kc.trans me3.symm)
      omega
    subst kme
    rw [F_ck F, Option.bind_some, ke1, Option.bind_some, n_jw (z := ke) (by omega) (by omega)]
    rw [me1, Option.bind_some, n_jw (z := ke) (by omega) (by omega)] at hX
    by_cases c2 : ke = 0
    · rw [if_pos c2] at hX
      rw [if_pos c2]
      exact ⟨p, I2, m, rfl, hX.symm, fun c g => i2o c (by omega) (by omega), fun c _ _ _ _ => rfl, Or.inl ⟨p0, by omega⟩⟩
    · have KD := me3.mp (by omega)
      rw [if_neg c2, h1, y_mw 102 12 rfl rfl (by omega) (by omega), Option.bind_some] at hX
      rw [if_neg c2, F_gi F, Option.bind_some, i26, lj, n_jw (z := p + 1) (by omega) (by omega)]
      generalize hm6 : jms m 102 (n : Int) kd = m6 at *
      have m6o : ∀ c, c ≠ 102 → m6 c = m c := fun c g => by rw [← hm6]; exact jms_o g
      have m61 : m6 102 = jiu (m 102) n kd := by rw [← hm6]; exact jms_at
      have m6j : ∀ j : Int, 0 ≤ j → j < n → m6 102 j = m 102 j := fun j j0 j1 => by rw [m61]; exact if_neg (by omega)
      have HM6 : HdM m6 n T := ⟨by rw [m6o 76 (by decide)]; exact h1, by rw [m6o 76 (by decide)]; exact h2, h3, fun j j0 j1 => by rw [m6j j j0 j1, m6o 103 (by decide)]; exact h4 j j0 j1⟩
      have A2 : anc (m6 102) 0 n = anc (m 102) 0 n := anc_c m6j
      have r1 := anc_r (K := m 102) (fr := 0) n
      have A3 : anc (m6 102) 0 (anc (m 102) 0 n).toNat = anc (m 102) 0 (anc (m 102) 0 n).toNat := anc_c (fun j j0 j1 => m6j j j0 (by omega))
      have hz6 : kd = 2 → anc (m6 102) 0 (anc (m6 102) 0 n).toNat ≠ -1 := fun h => by rw [A2, A3]; exact KD.2.2.2.2.2.1 h
      rw [k302 m6 (p + 1) (by rw [m6o 76 (by decide)]; exact y7) (m6o 112 (by decide)) (by omega) (by omega), Option.bind_some] at hX
      by_cases c3 : p + 1 < len
      · rw [if_neg (show ¬ len ≤ p + 1 by omega)] at hX
        rw [if_pos c3, F_gr F, Option.bind_some, Option.bind_some, c_30 F Y2 (by omega) c3, Option.bind_some, e8, Option.bind_some, F_ta F 2 0 12 rfl rfl rfl (by omega) (by omega), Option.bind_some]
        generalize hx : m 112 (p + 1) % 256 = x at *
        have xb : 0 ≤ x ∧ x ≤ 255 := by omega
        generalize hI3 : jms I2 (a + 2) (n : Int) x = I3
        have i3o : ∀ c, c ≠ a + 2 → I3 c = I2 c := fun c g => by rw [← hI3]; exact jms_o g
        have i32 : I3 (a + 2) = jiu (I (a + 2)) n x := by rw [← hI3, jms_at, i2o (a + 2) (by omega) (by omega)]
        have i3n : I3 (a + 2) n = x := by rw [i32]; exact if_pos rfl
        have i3j : ∀ j : Int, 0 ≤ j → j < n → I3 (a + 2) j = I (a + 2) j := fun j j0 j1 => by rw [i32]; exact if_neg (by omega)
        have i36 : I3 a ((6 : Nat) : Int) = len := by rw [i3o a (by omega)]; exact i26
        have Y3 : BySm s Q I3 m a b len := BySm_J Y2 (i3o b (hb 2 (by decide))) (i3o a (by omega))
        have H3 : HdC I3 a n T cod := HdC_c H2 (by rw [i3o a (by omega)]) (by rw [i3o a (by omega)]) (fun j _ _ => by rw [i3o (a + 1) (by omega)]) (fun j j0 j1 => by rw [i3j j j0 j1, i2o (a + 2) (by omega) (by omega)]) (i3o (a + 6) (by omega))
        have k3j : ∀ j : Int, 0 ≤ j → j < n → I3 (a + 1) j = m6 102 j := fun j j0 j1 => by rw [i3o (a + 1) (by omega), i2j j j0 j1, m6j j j0 j1]; exact eK j j0 j1
        have p3j : ∀ j : Int, 0 ≤ j → j < n → I3 (a + 2) j = m6 103 j := fun j j0 j1 => by rw [i3j j j0 j1, m6o 103 (by decide)]; exact eP j j0 j1
        have q2 : anc (I3 (a + 1)) 0 n = anc (m 102) 0 n := (anc_c k3j).trans A2
        have q3 : anc (I3 (a + 1)) 0 (anc (m 102) 0 n).toNat = anc (m 102) 0 (anc (m 102) 0 n).toNat := (anc_c (fun j j0 j1 => k3j j j0 (by omega))).trans A3
        have hz3 : kd = 2 → anc (I3 (a + 1)) 0 (anc (I3 (a + 1)) 0 n).toNat ≠ -1 := fun h => by rw [q2, q3]; exact KD.2.2.2.2.2.1 h
        obtain ⟨pe, pe1, pe2, pe3⟩ := c_34 F h6 H3 n12 (by rw [i3o (a + 1) (by omega)]; exact i2n) ⟨KD.1, KD.2.1⟩ KD.2.2.1 i3n xb
        obtain ⟨qe, qe1, qe2, qe3⟩ := k_305 (kd := kd) (x := x) HM6 (by omega) (by unfold okI; omega) hz6
        have pc : plOk (I3 (a + 1)) (I3 (a + 2)) T n kd x ↔ plOk (m6 102) (m6 103) T n kd x := plOk_c k3j p3j hz3
        have pq : pe = qe := by
          have : pe = 1 ↔ qe = 1 := (pe3 hz3).trans (pc.trans qe3.symm)
          omega
        subst pq
        rw [F_ck F, Option.bind_some, pe1, Option.bind_some, n_jw (z := pe) (by omega) (by omega)]
        rw [qe1, Option.bind_some, n_jw (z := pe) (by omega) (by omega)] at hX
        by_cases c4 : pe = 0
        · rw [if_pos c4] at hX
          rw [if_pos c4]
          exact ⟨p + 1, I3, m6, rfl, hX.symm, fun c g => (i3o c (by omega)).trans (i2o c (by omega) (by omega)), fun c g _ _ _ => m6o c g, Or.inl ⟨by omega, by omega⟩⟩
        · have PL6 := qe3.mp (by omega)
          have PL : plOk (m 102) (m 103) T n kd x := by
            have := (plOk_c (T := T) (x := x) (kd := kd) m6j (fun j _ _ => by rw [m6o 103 (by decide)]) hz6).mp PL6
            exact this
          have xT := PL.1
          have h61 : m6 76 35 = n := HM6.1
          rw [if_neg c4, h61, y_mw 103 12 rfl rfl (by omega) (by omega), Option.bind_some] at hX
          rw [if_neg c4, F_gr F, Option.bind_some, F_gr F, Option.bind_some, e8, Option.bind_some, F_ai F h6 2 12 rfl rfl rfl (by omega) (by omega), Option.bind_some, i3n, e12, Option.bind_some, F_ta F 6 0 12 rfl rfl rfl (by omega) (by omega), Option.bind_some]
          generalize hI4 : jms I3 (a + 6) x (n : Int) = I4
          have i4o : ∀ c, c ≠ a + 6 → I4 c = I3 c := fun c g => by rw [← hI4]; exact jms_o g
          have i4a : I4 (a + 6) = jiu (I (a + 6)) x n := by rw [← hI4, jms_at, i3o (a + 6) (by omega), i2o (a + 6) (by omega) (by omega)]
          have i46 : I4 a ((6 : Nat) : Int) = len := by rw [i4o a (by omega)]; exact i36
          have i40 : I4 a ((0 : Nat) : Int) = cod := by rw [i4o a (by omega), i3o a (by omega), i2o a (by omega) (by omega)]; exact c0
          have Y4 : BySm s Q I4 m a b len := BySm_J Y3 (i4o b (hb 6 (by decide))) (i4o a (by omega))
          generalize hm7 : jms m6 103 (n : Int) x = m7 at *
          have m7o : ∀ c, c ≠ 102 → c ≠ 103 → m7 c = m c := fun c g1 g2 => by rw [← hm7, jms_o g2, m6o c g1]
          have m72 : m7 102 = jiu (m 102) n kd := by rw [← hm7, jms_o (by decide)]; exact m61
          have m73 : m7 103 = jiu (m 103) n x := by rw [← hm7, jms_at, m6o 103 (by decide)]
          have m7c : m7 76 32 = cod := by rw [m7o 76 (by decide) (by decide)]; exact hc
          rw [F_gi F, Option.bind_some, i46, lj, n_jw (z := p + 2) (by omega) (by omega)]
          rw [k302 m7 (p + 2) (by rw [m7o 76 (by decide) (by decide)]; exact y7) (m7o 112 (by decide) (by decide)) (by omega) (by omega), Option.bind_some, m7c, n_jw (z := cod) (by omega) (by omega)] at hX
          by_cases c5 : p + 2 < len
          · rw [if_neg (show ¬ len ≤ p + 2 by omega)] at hX
            rw [if_pos c5, F_gr F, Option.bind_some, F_ck F, Option.bind_some, c_30 F Y4 (by omega) c5, Option.bind_some, e9, Option.bind_some, F_ta F 3 0 12 rfl rfl rfl (by omega) (by omega), Option.bind_some]
            generalize hS : m 112 (p + 2) % 256 = S at *
            have sb : 0 ≤ S ∧ S ≤ 255 := by omega
            have i50 : jms I4 (a + 3) (n : Int) S a ((0 : Nat) : Int) = cod := by rw [jms_o (by omega)]; exact i40
            have i53 : jms I4 (a + 3) (n : Int) S (a + 3) (n : Int) = S := jms_e
            have bad : some (p + 2, m7) = X → ∃ r I' m', some (p + 2, hh s Q (jms I4 (a + 3) (n : Int) S)) = some (r, hh s Q I') ∧ X = some (r, m') ∧ (∀ c, (c < a + 1 ∨ a + 6 < c) → I' c = I c) ∧ (∀ c, c ≠ 102 → c ≠ 103 → c ≠ 104 → c ≠ 105 → m' c = m c) ∧ ((0 ≤ r ∧ r ≤ len) ∨ (r = -1 ∧ kdOk (m 102) (m 103) T cod n kd ∧ plOk (m 102) (m 103) T n kd x ∧ hTail m cod len p ∧ hGot I I' m m' a n p kd x S (256 * (m 112 (p + 3) % 256) + m 112 (p + 4) % 256))) := fun hh' => ⟨p + 2, _, m7, rfl, hh'.symm, fun c g => (jms_o (by omega)).trans ((i4o c (by omega)).trans ((i3o c (by omega)).trans (i2o c (by omega) (by omega)))), fun c g1 g2 _ _ => m7o c g1 g2, Or.inl ⟨by omega, by omega⟩⟩
            have good : jd_307_b103 p S m7 = X → ((cod = 0 → 1 ≤ S ∧ S ≤ 31) ∧ (cod ≠ 0 → S = 0)) → ∃ r I' m', jd_31_b165 a (n : Int) p (hh s Q (jms I4 (a + 3) (n : Int) S)) = some (r, hh s Q I') ∧ X = some (r, m') ∧ (∀ c, (c < a + 1 ∨ a + 6 < c) → I' c = I c) ∧ (∀ c, c ≠ 102 → c ≠ 103 → c ≠ 104 → c ≠ 105 → m' c = m c) ∧ ((0 ≤ r ∧ r ≤ len) ∨ (r = -1 ∧ kdOk (m 102) (m 103) T cod n kd ∧ plOk (m 102) (m 103) T n kd x ∧ hTail m cod len p ∧ hGot I I' m m' a n p kd x S (256 * (m 112 (p + 3) % 256) + m 112 (p + 4) % 256))) := by
              intro hh' gS
              obtain ⟨r, I', u1, u2, u3⟩ := c_31t (S := S) F h6 Y4 hb n12 p0 c5
              obtain ⟨r', m', v1, v2, v3⟩ := k_307b (m := m7) (S := S) (by rw [m7o 76 (by decide) (by decide)]; exact h1) n12 (by rw [m7o 76 (by decide) (by decide)]; exact y7) y4 l1 p0 c5
              rw [m7o 112 (by decide) (by decide)] at v3
              have er : r = r' := by omega
              subst er
              refine ⟨r, I', m', u1, hh'.symm.trans v1, fun c g => (u2 c (by omega) (by omega)).trans ((i4o c (by omega)).trans ((i3o c (by omega)).trans (i2o c (by omega) (by omega)))), fun c g1 g2 g3 g4 => (v2 c g3 g4).trans (m7o c g1 g2), ?_⟩
              rcases u3 with ⟨w1, w2, w3, w4, w5, w6, w7⟩ | w | w | w | w
              · rcases v3 with ⟨-, -, -, -, -, -, z7⟩ | z | z | z | z
                · refine Or.inr ⟨w6, KD, PL, ⟨⟨c5, by rw [hS]; exact gS.1, by rw [hS]; exact gS.2⟩, ⟨w1, w2⟩, by omega, by rw [show p + 4 = p + 3 + 1 by omega]; exact w4, by rw [show p + 4 = p + 3 + 1 by omega]; omega⟩, ?_⟩
                  rw [show p + 4 = p + 3 + 1 by omega]
                  subst w7 z7
                  refine ⟨⟨?_, ?_, ?_, ?_, ?_, ?_⟩, ?_, ?_, ?_, ?_⟩
                  · rw [jms_o (by omega), jms_o (by omega), i4o _ (by omega), i3o _ (by omega)]
                    exact i21
                  · rw [jms_o (by omega), jms_o (by omega), i4o _ (by omega)]
                    exact i32
                  · rw [jms_o (by omega), jms_at, i4o _ (by omega), i3o _ (by omega), i2o _ (by omega) (by omega)]
                  · rw [jms_at, jms_o (by omega), i4o _ (by omega), i3o _ (by omega), i2o _ (by omega) (by omega)]
                  · rw [jms_o (by omega), jms_o (by omega), i4o _ (by omega), i3o _ (by omega), ← hI2, jms_o (by omega), ← hI1, jms_at]
                  · rw [jms_o (by omega), jms_o (by omega)]
                    exact i4a
                  · rw [jms_o (by decide), jms_o (by decide)]
                    exact m72
                  · rw [jms_o (by decide), jms_o (by decide)]
                    exact m73
                  · rw [jms_o (by decide), jms_at, m7o 104 (by decide) (by decide)]
                  · rw [jms_at, jms_o (by decide), m7o 105 (by decide) (by decide)]
                · omega
                · omega
                · omega
                · omega
              · exact Or.inl ⟨by omega, by omega⟩
              · exact Or.inl ⟨by omega, by omega⟩
              · exact Or.inl ⟨by omega, by omega⟩
              · exact Or.inl ⟨by omega, by omega⟩
            rw [F_gi F, Option.bind_some, i50, n_jw (z := cod) (by omega) (by omega)]
            by_cases c6 : cod = 0
            · rw [if_pos c6, n_jw (z := S) (by omega) (by omega), x_in (by omega) (by omega) (by decide) (by decide) (by decide) (by decide)] at hX
              rw [if_pos c6, F_gr F, Option.bind_some, e9, Option.bind_some, F_ai F h6 3 12 rfl rfl rfl (by omega) (by omega), Option.bind_some, i53, n_jw (z := S) (by omega) (by omega)]
              by_cases c7 : 1 ≤ S ∧ S ≤ 31
              · rw [if_pos c7, if_neg (by decide)] at hX
                rw [if_neg (show ¬ S < 1 by omega), Option.bind_some, Option.bind_some, F_ai F h6 3 12 rfl rfl rfl (by omega) (by omega), Option.bind_some, i53, n_jw (z := S) (by omega) (by omega), if_pos c7.2]
                exact good hX ⟨fun _ => c7, fun h => absurd c6 h⟩
              · rw [if_neg c7, if_pos rfl] at hX
                unfold jd_307_b99 at hX
                by_cases c8 : S < 1
                · rw [if_pos c8]
                  exact bad hX
                · rw [if_neg c8, Option.bind_some, Option.bind_some, F_ai F h6 3 12 rfl rfl rfl (by omega) (by omega), Option.bind_some, i53, n_jw (z := S) (by omega) (by omega), if_neg (by omega)]
                  exact bad hX
            · rw [if_neg c6, n_jw (z := S) (by omega) (by omega)] at hX
              rw [if_neg c6, F_gr F, Option.bind_some, e9, Option.bind_some, F_ai F h6 3 12 rfl rfl rfl (by omega) (by omega), Option.bind_some, i53, n_jw (z := S) (by omega) (by omega)]
              by_cases c7 : S = 0
              · rw [if_pos c7] at hX
                rw [if_pos c7]
                exact good hX ⟨fun h => absurd h c6, fun _ => c7⟩
              · rw [if_neg c7] at hX
                rw [if_neg c7]
                unfold jd_307_b99 at hX
                exact bad hX
          · rw [if_pos (show len ≤ p + 2 by omega)] at hX
            rw [if_neg c5, Option.bind_some]
            unfold jd_307_b99 at hX
            have fr : ∀ c, (c < a + 1 ∨ a + 6 < c) → I4 c = I c := fun c g => (i4o c (by omega)).trans ((i3o c (by omega)).trans (i2o c (by omega) (by omega)))
            by_cases c6 : cod = 0
            · rw [if_pos c6, if_pos (by decide)] at hX
              exact ⟨p + 2, I4, m7, by rw [show len = p + 2 by omega], hX.symm, fr, fun c g1 g2 _ _ => m7o c g1 g2, Or.inl ⟨by omega, by omega⟩⟩
            · rw [if_neg c6, if_neg (by decide)] at hX
              exact ⟨p + 2, I4, m7, by rw [show len = p + 2 by omega], hX.symm, fr, fun c g1 g2 _ _ => m7o c g1 g2, Or.inl ⟨by omega, by omega⟩⟩
      · obtain ⟨qe, qe1, qe2, qe3⟩ := k_305 (kd := kd) (x := -1) HM6 (by omega) (by unfold okI; omega) hz6
        have q0 : qe = 0 := by
          by_cases h : qe = 1
          · have := (qe3.mp h).1
            omega
          · omega
        subst q0
        rw [if_pos (show len ≤ p + 1 by omega), qe1, Option.bind_some, if_pos (by decide)] at hX
        rw [if_neg c3, Option.bind_some]
        exact ⟨p + 1, I2, m6, by rw [show len = p + 1 by omega], hX.symm, fun c g => i2o c (by omega) (by omega), fun c g _ _ _ => m6o c g, Or.inl ⟨by omega, by omega⟩⟩
  · obtain ⟨me, me1, me2, me3⟩ := k_306 (kd := -1) HM hc cc (by omega)
    have q0 : me = 0 := by
      by_cases h : me = 1
      · have := (me3.mp h).1
        omega
      · omega
    subst q0
    rw [if_pos (show len ≤ p by omega), me1, Option.bind_some, if_pos (by decide)] at hX
    rw [if_neg c1, Option.bind_some]
    exact ⟨p, I1, m, by rw [show len = p by omega], hX.symm, fun c g => i1o c (by omega), fun c _ _ _ _ => rfl, Or.inl ⟨p0, by omega⟩⟩
end Head3
