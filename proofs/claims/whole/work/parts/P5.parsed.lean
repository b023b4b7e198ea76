/-! making: the bytes of a made film are a film, model -/
section ParsedM
variable {m : jM} {n : Nat} {T cod len p kd x w h rt : Int} {K P : Int → Int}
theorem k_307ok (HM : HdM m n T) (hn : (n : Int) < T) (hc : m 76 32 = cod) (cc : 0 ≤ cod ∧ cod ≤ 2) (hl : m 76 47 = len) (l0 : 0 ≤ len) (l1 : len ≤ 24090) (p0 : 0 ≤ p) (ek : m 112 p % 256 = kd) (ex : m 112 (p + 1) % 256 = x) (KD : kdOk (m 102) (m 103) T cod n kd) (PL : plOk (m 102) (m 103) T n kd x) (TL : hTail m cod len p) : ∃ m', jd_307 p T m = some (-1, m') ∧ (∀ c, c ≠ 102 → c ≠ 103 → c ≠ 104 → c ≠ 105 → m' c = m c) ∧ m' 102 = jiu (m 102) n kd ∧ m' 103 = jiu (m 103) n x ∧ m' 105 (n : Int) = 256 * (m 112 (p + 3) % 256) + m 112 (p + 4) % 256 := by
  obtain ⟨h1, h2, h3, h4⟩ := id HM
  obtain ⟨⟨b2, s0, s1⟩, ⟨b3, b7⟩, b4, zz, fit⟩ := TL
  have n12 : n < 12 := by omega
  have k302 : ∀ (M : jM) q, M 76 47 = len → M 112 = m 112 → 0 ≤ q → q < 24100 → jd_302 q M = some (if len ≤ q then -1 else m 112 q % 256) := fun M q g1 g2 g3 g4 => by
    rw [k_302 g3 g4 g1 l0 (by omega), g2]
  have kb := KD.1
  have kb2 := KD.2.1
  obtain ⟨me, me1, me2, me3⟩ := k_306 (kd := kd) HM hc cc (by omega)
  have e1 : me = 1 := me3.mpr KD
  obtain ⟨m6, hm6⟩ : ∃ z, z = jms m 102 (n : Int) kd := ⟨_, rfl⟩
  have m6o : ∀ c, c ≠ 102 → m6 c = m c := fun c g => by rw [hm6]; exact jms_o g
  have m61 : m6 102 = jiu (m 102) n kd := by rw [hm6]; exact jms_at
  have m6j : ∀ j : Int, 0 ≤ j → j < n → m6 102 j = m 102 j := fun j j0 j1 => by rw [m61]; exact if_neg (by omega)
  have HM6 : HdM m6 n T := ⟨by rw [m6o 76 (by decide)]; exact h1, by rw [m6o 76 (by decide)]; exact h2, h3, fun j j0 j1 => by rw [m6j j j0 j1, m6o 103 (by decide)]; exact h4 j j0 j1⟩
  have A2 : anc (m6 102) 0 n = anc (m 102) 0 n := anc_c m6j
  have r1 := anc_r (K := m 102) (fr := 0) n
  have A3 : anc (m6 102) 0 (anc (m 102) 0 n).toNat = anc (m 102) 0 (anc (m 102) 0 n).toNat := anc_c (fun j j0 j1 => m6j j j0 (by omega))
  have hz6 : kd = 2 → anc (m6 102) 0 (anc (m6 102) 0 n).toNat ≠ -1 := fun h => by rw [A2, A3]; exact KD.2.2.2.2.2.1 h
  have xb : 0 ≤ x ∧ x < T := PL.1
  obtain ⟨qe, qe1, qe2, qe3⟩ := k_305 (kd := kd) (x := x) HM6 (by omega) (by unfold okI; omega) hz6
  have e2 : qe = 1 := qe3.mpr ((plOk_c (T := T) (x := x) (kd := kd) m6j (fun j _ _ => by rw [m6o 103 (by decide)]) hz6).mpr PL)
  obtain ⟨m7, hm7⟩ : ∃ z, z = jms m6 103 (n : Int) x := ⟨_, rfl⟩
  have m7o : ∀ c, c ≠ 102 → c ≠ 103 → m7 c = m c := fun c g1 g2 => by rw [hm7, jms_o g2, m6o c g1]
  have m72 : m7 102 = jiu (m 102) n kd := by rw [hm7, jms_o (by decide)]; exact m61
  have m73 : m7 103 = jiu (m 103) n x := by rw [hm7, jms_at, m6o 103 (by decide)]
  have m7c : m7 76 32 = cod := by rw [m7o 76 (by decide) (by decide)]; exact hc
  obtain ⟨S, hS⟩ : ∃ S, m 112 (p + 2) % 256 = S := ⟨_, rfl⟩
  rw [hS] at s0 s1
  have sb : 0 ≤ S ∧ S ≤ 255 := by omega
  obtain ⟨r', m', v1, v2, v3⟩ := k_307b (m := m7) (S := S) (by rw [m7o 76 (by decide) (by decide)]; exact h1) n12 (by rw [m7o 76 (by decide) (by decide)]; exact hl) l0 l1 p0 b2
  rw [m7o 112 (by decide) (by decide), show p + 3 + 1 = p + 4 by omega] at v3
  have h61 : m6 76 35 = n := HM6.1
  have go : jd_307 p T m = jd_307_b103 p S m7 := by
    unfold jd_307
    rw [k302 m p hl rfl p0 (by omega), Option.bind_some, if_neg (show ¬ len ≤ p by omega), ek, me1, Option.bind_some, e1, if_neg (show ¬ jw 1 = 0 by decide), h1, y_mw 102 12 rfl rfl (by omega) (by omega), Option.bind_some, ← hm6, k302 m6 (p + 1) (by rw [m6o 76 (by decide)]; exact hl) (m6o 112 (by decide)) (by omega) (by omega), Option.bind_some, if_neg (show ¬ len ≤ p + 1 by omega), ex, qe1, Option.bind_some, e2, if_neg (show ¬ jw 1 = 0 by decide), h61, y_mw 103 12 rfl rfl (by omega) (by omega), Option.bind_some, ← hm7, k302 m7 (p + 2) (by rw [m7o 76 (by decide) (by decide)]; exact hl) (m7o 112 (by decide) (by decide)) (by omega) (by omega), Option.bind_some, if_neg (show ¬ len ≤ p + 2 by omega), hS, m7c, n_jw (z := cod) (by omega) (by omega), n_jw (z := S) (by omega) (by omega)]
    by_cases c6 : cod = 0
    · rw [if_pos c6, x_in (by omega) (by omega) (by decide) (by decide) (by decide) (by decide), if_pos (s0 c6), if_neg (by decide)]
    · rw [if_neg c6, if_pos (s1 c6)]
  rcases v3 with ⟨-, -, -, -, -, z6, z7⟩ | z | z | z | z
  · refine ⟨m', by rw [go, v1, z6], fun c g1 g2 g3 g4 => (v2 c g3 g4).trans (m7o c g1 g2), by rw [v2 102 (by decide) (by decide)]; exact m72, by rw [v2 103 (by decide) (by decide)]; exact m73, ?_⟩
    rw [z7, jms_e]
  · omega
  · omega
  · omega
  · omega
/-- t heads are read, the next one begins at p -/
def PrI (m : jM) (Hd K P : Int → Int) (T cod len : Int) (t : Nat) (p : Int) (M : jM) : Prop := p = Hd (t : Int) ∧ HdM M t T ∧ (∀ c, c ≠ 76 → c ≠ 102 → c ≠ 103 → c ≠ 104 → c ≠ 105 → c ≠ 106 → M c = m c) ∧ (M 76 32 = cod ∧ M 76 47 = len) ∧ ∀ j : Int, 0 ≤ j → j < t → M 102 j = K j ∧ M 103 j = P j
theorem parse_ok (hl : m 76 47 = len) (l1 : len ≤ 24090) (T1 : 1 ≤ T) (T2 : T ≤ 12) (cc : 0 ≤ cod ∧ cod ≤ 2) (sw : isSd w) (sh : isSd h) (rb : 1 ≤ rt ∧ rt ≤ 60) (hd : m 112 0 = 77 ∧ m 112 1 = 70 ∧ m 112 2 = jwb cod ∧ m 112 3 = jwb (jdiv w 8) ∧ m 112 4 = jwb (jdiv h 8) ∧ m 112 5 = jwb rt ∧ m 112 6 = jwb T) (W : HBy (m 112) K P cod T len) (O : ∀ n : Nat, (n : Int) < T → kdOk K P T cod n (K (n : Int)) ∧ plOk K P T n (K (n : Int)) (P (n : Int))) : ∃ m', jd_301 m = some (-1, m') := by
  obtain ⟨d0, d1, d2, d3, d4, d5, d6⟩ := hd
  obtain ⟨Hd, Z, St, w0, w1, wq⟩ := W
  have dw : jdiv w 8 = w / 8 := by rcases sw with rfl | rfl | rfl <;> exact n_div (by decide) (by decide) (by decide) (by decide)
  have dh : jdiv h 8 = h / 8 := by rcases sh with rfl | rfl | rfl <;> exact n_div (by decide) (by decide) (by decide) (by decide)
  have wb : 1 ≤ w / 8 ∧ w / 8 ≤ 3 := by rcases sw with rfl | rfl | rfl <;> decide
  have hb : 1 ≤ h / 8 ∧ h / 8 ≤ 3 := by rcases sh with rfl | rfl | rfl <;> decide
  rw [dw, jwb_s (by omega) (by omega)] at d3
  rw [dh, jwb_s (by omega) (by omega)] at d4
  rw [jwb_s (by omega) (by omega)] at d2
  rw [jwb_s (by omega) (by omega)] at d5
  rw [jwb_s (by omega) (by omega)] at d6
  have l7 : 7 ≤ len := by
    obtain ⟨⟨z0, -⟩, -, -, ⟨q1, q2, q3⟩, -⟩ := wq 0 (Int.le_refl _) (by omega)
    omega
  have k303 : jd_303 m = some (-1) := by
    have s2 : ∀ k : Nat, k < 7 → jd_303_s2 (k : Int) m = some (.inl ((k : Int) + 1)) := fun k hk => by
      have v : m 112 (k : Int) % 256 = m 112 (k : Int) ∧ hLo k ≤ m 112 (k : Int) ∧ m 112 (k : Int) ≤ hHi k := by
        have : k = 0 ∨ k = 1 ∨ k = 2 ∨ k = 3 ∨ k = 4 ∨ k = 5 ∨ k = 6 := by omega
        have lo : hLo 0 = 77 ∧ hLo 1 = 70 ∧ hLo 2 = 0 ∧ hLo 3 = 1 ∧ hLo 4 = 1 ∧ hLo 5 = 1 ∧ hLo 6 = 1 := by decide
        have hi : hHi 0 = 77 ∧ hHi 1 = 70 ∧ hHi 2 = 2 ∧ hHi 3 = 3 ∧ hHi 4 = 3 ∧ hHi 5 = 60 ∧ hHi 6 = 12 := by decide
        rcases this with rfl | rfl | rfl | rfl | rfl | rfl | rfl
        · rw [show ((0 : Nat) : Int) = 0 from rfl, d0]; omega
        · rw [show ((1 : Nat) : Int) = 1 from rfl, d1]; omega
        · rw [show ((2 : Nat) : Int) = 2 from rfl, d2]; omega
        · rw [show ((3 : Nat) : Int) = 3 from rfl, d3]; omega
        · rw [show ((4 : Nat) : Int) = 4 from rfl, d4]; omega
        · rw [show ((5 : Nat) : Int) = 5 from rfl, d5]; omega
        · rw [show ((6 : Nat) : Int) = 6 from rfl, d6]; omega
      have e := k_302 (m := m) (p := (k : Int)) (by omega) (by omega) hl (by omega) (by omega)
      rw [if_neg (by omega)] at e
      rw [k_303s hk e (by omega) (by omega), if_pos (by rw [v.1]; exact v.2)]
    unfold jd_303 jd_303_l2
    have := w_for (f := fun u : Int => jd_303_s2 u m) (fun k => (k : Int)) 7 (x := .inr ()) (fun k hk => by
      show jd_303_s2 (k : Int) m = some (.inl ((k + 1 : Nat) : Int))
      rw [s2 k hk, show ((k + 1 : Nat) : Int) = (k : Int) + 1 by omega]) (by
      show jd_303_s2 7 m = some (.inr (.inr ()))
      unfold jd_303_s2
      rw [if_pos (by decide)]) (n_fu (by decide))
    rw [show jlp (fun u : Int => jd_303_s2 u m) jfu 0 = some (.inr ()) from this, Option.bind_some]
    rfl
  obtain ⟨m1, hm1⟩ : ∃ z, z = jms (jms (jms (jms (jms m 76 32 cod) 76 33 (8 * (w / 8))) 76 34 (8 * (h / 8))) 76 36 0) 76 35 0 := ⟨_, rfl⟩
  have m1o : ∀ c, c ≠ 76 → m1 c = m c := fun c hc => by rw [hm1, jms_o hc, jms_o hc, jms_o hc, jms_o hc, jms_o hc]
  have m1k : ∀ k : Int, k < 32 ∨ 36 < k → m1 76 k = m 76 k := fun k hk => by rw [hm1, jms_i (by omega), jms_i (by omega), jms_i (by omega), jms_i (by omega), jms_i (by omega)]
  have m32 : m1 76 32 = cod := by rw [hm1, jms_i (by decide), jms_i (by decide), jms_i (by decide), jms_i (by decide)]; exact jms_e
  have m36 : m1 76 36 = 0 := by rw [hm1, jms_i (by decide)]; exact jms_e
  have m35 : m1 76 35 = 0 := by rw [hm1]; exact jms_e
  -- the loop over the heads
  have lp : ∃ m', jd_301_l69 T 7 m1 = some (.inr (len, m')) ∧ m' 76 47 = len := by
    have step : ∀ (t : Nat) (u : Int × jM), t ≤ T.toNat → PrI m Hd K P T cod len t u.1 u.2 → wT ((fun u : (Int × jM) => jd_301_s69 T u.1 u.2) u) (fun o => jse o (fun u' => t < T.toNat ∧ PrI m Hd K P T cod len (t + 1) u'.1 u'.2) (fun x => ∃ m', x = .inr (len, m') ∧ m' 76 47 = len)) := by
      intro t u ht J
      obtain ⟨u1, u2⟩ := u
      obtain ⟨rfl, HM, fr, ⟨c32, c47⟩, kp⟩ := J
      dsimp only at HM fr c32 c47 kp ⊢
      by_cases c : t = T.toNat
      · have et : (t : Int) = T := by omega
        refine ⟨.inr (.inr (len, u2)), ?_, u2, rfl, c47⟩
        unfold jd_301_s69
        rw [HM.1, et, if_pos (Int.le_refl _), w1]
      · have tT : (t : Int) < T := by omega
        obtain ⟨⟨z0, z1⟩, x2, x3, ⟨x4, x5, x6⟩, y0, y1, y2, y3, y4⟩ := wq (t : Int) (by omega) tT
        have e112 : u2 112 = m 112 := fr 112 (by decide) (by decide) (by decide) (by decide) (by decide) (by decide)
        obtain ⟨KD, PL⟩ := O t tT
        have kb := KD.1
        have kb2 := KD.2.1
        have xb := PL.1
        rw [jwb_s (by omega) (by omega)] at y0 y1
        have s31 : 0 ≤ St (t : Int) ∧ St (t : Int) ≤ 31 := by
          by_cases cz : cod = 0
          · have := x2 cz; omega
          · have := x3 cz; omega
        rw [jwb_s (by omega) (by omega)] at y2
        rw [jwb_s (by omega) (by omega)] at y3
        have y4' : m 112 (Hd (t : Int) + 4) % 256 = Z (t : Int) % 256 := by rw [y4, n_jwb_m']; omega
        have KD' : kdOk (u2 102) (u2 103) T cod t (K (t : Int)) := (kdOk_c (fun j j0 j1 => ((kp j j0 j1).1).symm) (fun j j0 j1 => ((kp j j0 j1).2).symm)).mp KD
        have PL' : plOk (u2 102) (u2 103) T t (K (t : Int)) (P (t : Int)) := (plOk_c (fun j j0 j1 => ((kp j j0 j1).1).symm) (fun j j0 j1 => ((kp j j0 j1).2).symm) (fun e => KD.2.2.2.2.2.1 e)).mp PL
        obtain ⟨m', e1, o1, o2, o3, o5⟩ := k_307ok (p := Hd (t : Int)) (kd := K (t : Int)) (x := P (t : Int)) HM tT c32 cc c47 (by omega) l1 (by omega) (by rw [e112, y0]; omega) (by rw [e112, y1]; omega) KD' PL' ⟨⟨by omega, fun cz => by rw [e112, y2]; have := x2 cz; omega, fun cz => by rw [e112, y2]; have := x3 cz; omega⟩, ⟨by omega, by rw [e112, y3]; omega⟩, by omega, by rw [e112, y3, y4']; omega, by rw [e112, y3, y4']; omega⟩
        rw [e112, y3, y4'] at o5
        have m76 : m' 76 = u2 76 := o1 76 (by decide) (by decide) (by decide) (by decide)
        have q35 : m' 76 35 = (t : Int) := by rw [m76]; exact HM.1
        have v1 : jms m' 106 (t : Int) (Hd (t : Int)) 76 35 = (t : Int) := by rw [jms_o (by decide)]; exact q35
        have v2 : jms m' 106 (t : Int) (Hd (t : Int)) 105 (t : Int) = Z (t : Int) := by rw [jms_o (by decide), o5]; omega
        obtain ⟨m3, hm3⟩ : ∃ z, z = jms (jms m' 106 (t : Int) (Hd (t : Int))) 76 35 ((t : Int) + 1) := ⟨_, rfl⟩
        have g3 : ∀ c, c ≠ 76 → c ≠ 106 → m3 c = m' c := fun c c1 c2 => by rw [hm3, jms_o c1, jms_o c2]
        have g4 : ∀ z : Int, z ≠ 35 → m3 76 z = u2 76 z := fun z hz => by rw [hm3, jms_i hz, jms_o (by decide), m76]
        have k2 : ∀ j : Int, 0 ≤ j → j < (t + 1 : Nat) → m3 102 j = K j ∧ m3 103 j = P j := fun j j0 j1 => by
          rw [g3 102 (by decide) (by decide), g3 103 (by decide) (by decide), o2, o3]
          unfold jiu
          by_cases cj : j = (t : Int)
          · rw [if_pos cj, if_pos cj, cj]
            exact ⟨rfl, rfl⟩
          · rw [if_neg cj, if_neg cj]
            exact kp j j0 (by omega)
        have NI : PrI m Hd K P T cod len (t + 1) (Hd (t : Int) + (5 + Z (t : Int))) m3 := by
          refine ⟨?_, ⟨by rw [hm3, jms_e]; omega, by rw [g4 36 (by decide)]; exact HM.2.1, ⟨by omega, T2⟩, fun j j0 j1 => ?_⟩, fun c c1 c2 c3 c4 c5 c6 => by rw [g3 c c1 c6, o1 c c2 c3 c4 c5]; exact fr c c1 c2 c3 c4 c5 c6, ⟨by rw [g4 32 (by decide)]; exact c32, by rw [g4 47 (by decide)]; exact c47⟩, k2⟩
          · rw [show ((t + 1 : Nat) : Int) = (t : Int) + 1 by omega, ← x5]
            omega
          · obtain ⟨a1, a2⟩ := k2 j j0 j1
            rw [a1, a2]
            obtain ⟨KDj, PLj⟩ := O j.toNat (by omega)
            rw [show ((j.toNat : Nat) : Int) = j by omega] at KDj PLj
            exact ⟨⟨KDj.1, KDj.2.1⟩, PLj.1⟩
        refine ⟨.inl (Hd (t : Int) + (5 + Z (t : Int)), m3), ?_, by omega, NI⟩
        unfold jd_301_s69
        rw [HM.1, n_jw (z := T) (by omega) (by omega), n_jw (z := (t : Int)) (by omega) (by omega), if_neg (by omega), e1, Option.bind_some, if_pos (show jw (-1) = -1 by decide)]
        dsimp only
        rw [q35, y_mw 106 12 rfl rfl (by omega) (by omega), Option.bind_some, v1, y_ma 105 12 rfl rfl (by omega) (by omega), Option.bind_some, v2, Option.bind_some, hm3]
    unfold jd_301_l69
    obtain ⟨x, e, m', hx, h47⟩ := w_lp (f := fun u : (Int × jM) => jd_301_s69 T u.1 u.2) (Q := fun x => ∃ m', x = .inr (len, m') ∧ m' 76 47 = len) (fun t u => PrI m Hd K P T cod len t u.1 u.2) T.toNat step (n_fu (by omega)) (s0 := (7, m1)) ⟨w0.symm, ⟨m35, m36, ⟨by omega, T2⟩, fun j j0 j1 => absurd j1 (by omega)⟩, fun c c1 _ _ _ _ _ => m1o c c1, ⟨m32, (m1k 47 (by decide)).trans hl⟩, fun j j0 j1 => absurd j1 (by omega)⟩
    exact ⟨m', by rw [e, hx], h47⟩
  obtain ⟨m', l, h47⟩ := lp
  have j2 : jwb (m 112 2) = cod := by rw [d2]; exact jwb_s (by omega) (by omega)
  have j3 : jwb (m 112 3) = w / 8 := by rw [d3]; exact jwb_s (by omega) (by omega)
  have j4 : jwb (m 112 4) = h / 8 := by rw [d4]; exact jwb_s (by omega) (by omega)
  have j6 : jwb (m 112 6) = T := by rw [d6]; exact jwb_s (by omega) (by omega)
  have q : ∀ (M : jM) (k : Int), M 112 = m 112 → 0 ≤ k → k < 24100 → jmb M 112 k = some (jwb (m 112 k)) := fun M k q1 q2 q3 => by rw [y_mb 112 24100 rfl rfl q2 (by omega), q1]
  refine ⟨m', ?_⟩
  unfold jd_301
  rw [k303, Option.bind_some, if_pos (by decide), q m 2 rfl (by decide) (by decide), Option.bind_some, j2, Option.bind_some, q (jms m 76 32 cod) 3 rfl (by decide) (by decide), Option.bind_some, j3, Option.bind_some, q (jms (jms m 76 32 cod) 76 33 (8 * (w / 8))) 4 rfl (by decide) (by decide), Option.bind_some, j4, Option.bind_some, q (jms (jms (jms m 76 32 cod) 76 33 (8 * (w / 8))) 76 34 (8 * (h / 8))) 6 rfl (by decide) (by decide), Option.bind_some, j6, Option.bind_some, Option.bind_some, ← hm1, l, Option.bind_some]
  show some ((if (jw (m' 76 47)) ≤ (jw len) then (-1) else len), m') = some (-1, m')
  rw [h47, if_pos (Int.le_refl _)]
end ParsedM
