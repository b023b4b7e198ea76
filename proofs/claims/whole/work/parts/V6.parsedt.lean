/-! cutting: a cut film can be read, and how many pictures it has -/
section ParsedT
variable {m : jM} {n : Nat} {T cod len p kd x w h rt : Int} {K P : Int → Int}
theorem parse_okT (hl : m 76 47 = len) (l1 : len ≤ 24090) (T1 : 1 ≤ T) (T2 : T ≤ 12) (cc : 0 ≤ cod ∧ cod ≤ 2) (sw : isSd w) (sh : isSd h) (rb : 1 ≤ rt ∧ rt ≤ 60) (hd : m 112 0 = 77 ∧ m 112 1 = 70 ∧ m 112 2 = jwb cod ∧ m 112 3 = jwb (jdiv w 8) ∧ m 112 4 = jwb (jdiv h 8) ∧ m 112 5 = jwb rt ∧ m 112 6 = jwb T) (W : HBy (m 112) K P cod T len) (O : ∀ n : Nat, (n : Int) < T → kdOk K P T cod n (K (n : Int)) ∧ plOk K P T n (K (n : Int)) (P (n : Int))) : ∃ m', jd_301 m = some (-1, m') ∧ m' 76 35 = T := by
  obtain ⟨d0, d1, d2, d3, d4, d5, d6⟩ := hd
  obtain ⟨Hd, Z, St, w0, w1, wq⟩ := W
  have dw : jdiv w 8 = w / 8 := by rcases sw with rfl | rfl | rfl <;> exact n_div (by decide) (by decide) (by decide) (by decide)
  have dh : jdiv h 8 = h / 8 := by rcases sh with rfl | rfl | rfl <;> exact n_div (by decide) (by decide) (by decide) (by decide)
  have wb : 1 ≤ w / 8 ∧ w / 8 ≤ 3 := by rcases sw with rfl | rfl | rfl <;> decide
  have hb : 1 ≤ h / 8 ∧ h / 8 ≤ 3 := by rcases sh with rfl | rfl | rfl <;> decide
  rw [dw, jwb_s (by omega) (by omega)] at d3
  rw [dh, jwb_s (by omega) (by omega)] at d4
  rw [jwb_s (by omega) (by omega)] at d2
  rw [jwb_s (by omega) (by omega)] at d5
  rw [jwb_s (by omega) (by omega)] at d6
  have l7 : 7 ≤ len := by
    obtain ⟨⟨z0, -⟩, -, -, ⟨q1, q2, q3⟩, -⟩ := wq 0 (Int.le_refl _) (by omega)
    omega
  have k303 : jd_303 m = some (-1) := by
    have s2 : ∀ k : Nat, k < 7 → jd_303_s2 (k : Int) m = some (.inl ((k : Int) + 1)) := fun k hk => by
      have v : m 112 (k : Int) % 256 = m 112 (k : Int) ∧ hLo k ≤ m 112 (k : Int) ∧ m 112 (k : Int) ≤ hHi k := by
        have : k = 0 ∨ k = 1 ∨ k = 2 ∨ k = 3 ∨ k = 4 ∨ k = 5 ∨ k = 6 := by omega
        have lo : hLo 0 = 77 ∧ hLo 1 = 70 ∧ hLo 2 = 0 ∧ hLo 3 = 1 ∧ hLo 4 = 1 ∧ hLo 5 = 1 ∧ hLo 6 = 1 := by decide
        have hi : hHi 0 = 77 ∧ hHi 1 = 70 ∧ hHi 2 = 2 ∧ hHi 3 = 3 ∧ hHi 4 = 3 ∧ hHi 5 = 60 ∧ hHi 6 = 12 := by decide
        rcases this with rfl | rfl | rfl | rfl | rfl | rfl | rfl
        · rw [show ((0 : Nat) : Int) = 0 from rfl, d0]; omega
        · rw [show ((1 : Nat) : Int) = 1 from rfl, d1]; omega
        · rw [show ((2 : Nat) : Int) = 2 from rfl, d2]; omega
        · rw [show ((3 : Nat) : Int) = 3 from rfl, d3]; omega
        · rw [show ((4 : Nat) : Int) = 4 from rfl, d4]; omega
        · rw [show ((5 : Nat) : Int) = 5 from rfl, d5]; omega
        · rw [show ((6 : Nat) : Int) = 6 from rfl, d6]; omega
      have e := k_302 (m := m) (p := (k : Int)) (by omega) (by omega) hl (by omega) (by omega)
      rw [if_neg (by omega)] at e
      rw [k_303s hk e (by omega) (by omega), if_pos (by rw [v.1]; exact v.2)]
    unfold jd_303 jd_303_l2
    have := w_for (f := fun u : Int => jd_303_s2 u m) (fun k => (k : Int)) 7 (x := .inr ()) (fun k hk => by
      show jd_303_s2 (k : Int) m = some (.inl ((k + 1 : Nat) : Int))
      rw [s2 k hk, show ((k + 1 : Nat) : Int) = (k : Int) + 1 by omega]) (by
      show jd_303_s2 7 m = some (.inr (.inr ()))
      unfold jd_303_s2
      rw [if_pos (by decide)]) (n_fu (by decide))
    rw [show jlp (fun u : Int => jd_303_s2 u m) jfu 0 = some (.inr ()) from this, Option.bind_some]
    rfl
  obtain ⟨m1, hm1⟩ : ∃ z, z = jms (jms (jms (jms (jms m 76 32 cod) 76 33 (8 * (w / 8))) 76 34 (8 * (h / 8))) 76 36 0) 76 35 0 := ⟨_, rfl⟩
  have m1o : ∀ c, c ≠ 76 → m1 c = m c := fun c hc => by rw [hm1, jms_o hc, jms_o hc, jms_o hc, jms_o hc, jms_o hc]
  have m1k : ∀ k : Int, k < 32 ∨ 36 < k → m1 76 k = m 76 k := fun k hk => by rw [hm1, jms_i (by omega), jms_i (by omega), jms_i (by omega), jms_i (by omega), jms_i (by omega)]
  have m32 : m1 76 32 = cod := by rw [hm1, jms_i (by decide), jms_i (by decide), jms_i (by decide), jms_i (by decide)]; exact jms_e
  have m36 : m1 76 36 = 0 := by rw [hm1, jms_i (by decide)]; exact jms_e
  have m35 : m1 76 35 = 0 := by rw [hm1]; exact jms_e
  -- the loop over the heads
  have lp : ∃ m', jd_301_l69 T 7 m1 = some (.inr (len, m')) ∧ m' 76 47 = len ∧ m' 76 35 = T := by
    have step : ∀ (t : Nat) (u : Int × jM), t ≤ T.toNat → PrI m Hd K P T cod len t u.1 u.2 → wT ((fun u : (Int × jM) => jd_301_s69 T u.1 u.2) u) (fun o => jse o (fun u' => t < T.toNat ∧ PrI m Hd K P T cod len (t + 1) u'.1 u'.2) (fun x => ∃ m', x = .inr (len, m') ∧ m' 76 47 = len ∧ m' 76 35 = T)) := by
      intro t u ht J
      obtain ⟨u1, u2⟩ := u
      obtain ⟨rfl, HM, fr, ⟨c32, c47⟩, kp⟩ := J
      dsimp only at HM fr c32 c47 kp ⊢
      by_cases c : t = T.toNat
      · have et : (t : Int) = T := by omega
        refine ⟨.inr (.inr (len, u2)), ?_, u2, rfl, c47, HM.1.trans et⟩
        unfold jd_301_s69
        rw [HM.1, et, if_pos (Int.le_refl _), w1]
      · have tT : (t : Int) < T := by omega
        obtain ⟨⟨z0, z1⟩, x2, x3, ⟨x4, x5, x6⟩, y0, y1, y2, y3, y4⟩ := wq (t : Int) (by omega) tT
        have e112 : u2 112 = m 112 := fr 112 (by decide) (by decide) (by decide) (by decide) (by decide) (by decide)
        obtain ⟨KD, PL⟩ := O t tT
        have kb := KD.1
        have kb2 := KD.2.1
        have xb := PL.1
        rw [jwb_s (by omega) (by omega)] at y0 y1
        have s31 : 0 ≤ St (t : Int) ∧ St (t : Int) ≤ 31 := by
          by_cases cz : cod = 0
          · have := x2 cz; omega
          · have := x3 cz; omega
        rw [jwb_s (by omega) (by omega)] at y2
        rw [jwb_s (by omega) (by omega)] at y3
        have y4' : m 112 (Hd (t : Int) + 4) % 256 = Z (t : Int) % 256 := by rw [y4, n_jwb_m']; omega
        have KD' : kdOk (u2 102) (u2 103) T cod t (K (t : Int)) := (kdOk_c (fun j j0 j1 => ((kp j j0 j1).1).symm) (fun j j0 j1 => ((kp j j0 j1).2).symm)).mp KD
        have PL' : plOk (u2 102) (u2 103) T t (K (t : Int)) (P (t : Int)) := (plOk_c (fun j j0 j1 => ((kp j j0 j1).1).symm) (fun j j0 j1 => ((kp j j0 j1).2).symm) (fun e => KD.2.2.2.2.2.1 e)).mp PL
        obtain ⟨m', e1, o1, o2, o3, o5⟩ := k_307ok (p := Hd (t : Int)) (kd := K (t : Int)) (x := P (t : Int)) HM tT c32 cc c47 (by omega) l1 (by omega) (by rw [e112, y0]; omega) (by rw [e112, y1]; omega) KD' PL' ⟨⟨by omega, fun cz => by rw [e112, y2]; have := x2 cz; omega, fun cz => by rw [e112, y2]; have := x3 cz; omega⟩, ⟨by omega, by rw [e112, y3]; omega⟩, by omega, by rw [e112, y3, y4']; omega, by rw [e112, y3, y4']; omega⟩
        rw [e112, y3, y4'] at o5
        have m76 : m' 76 = u2 76 := o1 76 (by decide) (by decide) (by decide) (by decide)
        have q35 : m' 76 35 = (t : Int) := by rw [m76]; exact HM.1
        have v1 : jms m' 106 (t : Int) (Hd (t : Int)) 76 35 = (t : Int) := by rw [jms_o (by decide)]; exact q35
        have v2 : jms m' 106 (t : Int) (Hd (t : Int)) 105 (t : Int) = Z (t : Int) := by rw [jms_o (by decide), o5]; omega
        obtain ⟨m3, hm3⟩ : ∃ z, z = jms (jms m' 106 (t : Int) (Hd (t : Int))) 76 35 ((t : Int) + 1) := ⟨_, rfl⟩
        have g3 : ∀ c, c ≠ 76 → c ≠ 106 → m3 c = m' c := fun c c1 c2 => by rw [hm3, jms_o c1, jms_o c2]
        have g4 : ∀ z : Int, z ≠ 35 → m3 76 z = u2 76 z := fun z hz => by rw [hm3, jms_i hz, jms_o (by decide), m76]
        have k2 : ∀ j : Int, 0 ≤ j → j < (t + 1 : Nat) → m3 102 j = K j ∧ m3 103 j = P j := fun j j0 j1 => by
          rw [g3 102 (by decide) (by decide), g3 103 (by decide) (by decide), o2, o3]
          unfold jiu
          by_cases cj : j = (t : Int)
          · rw [if_pos cj, if_pos cj, cj]
            exact ⟨rfl, rfl⟩
          · rw [if_neg cj, if_neg cj]
            exact kp j j0 (by omega)
        have NI : PrI m Hd K P T cod len (t + 1) (Hd (t : Int) + (5 + Z (t : Int))) m3 := by
          refine ⟨?_, ⟨by rw [hm3, jms_e]; omega, by rw [g4 36 (by decide)]; exact HM.2.1, ⟨by omega, T2⟩, fun j j0 j1 => ?_⟩, fun c c1 c2 c3 c4 c5 c6 => by rw [g3 c c1 c6, o1 c c2 c3 c4 c5]; exact fr c c1 c2 c3 c4 c5 c6, ⟨by rw [g4 32 (by decide)]; exact c32, by rw [g4 47 (by decide)]; exact c47⟩, k2⟩
          · rw [show ((t + 1 : Nat) : Int) = (t : Int) + 1 by omega, ← x5]
            omega
          · obtain ⟨a1, a2⟩ := k2 j j0 j1
            rw [a1, a2]
            obtain ⟨KDj, PLj⟩ := O j.toNat (by omega)
            rw [show ((j.toNat : Nat) : Int) = j by omega] at KDj PLj
            exact ⟨⟨KDj.1, KDj.2.1⟩, PLj.1⟩
        refine ⟨.inl (Hd (t : Int) + (5 + Z (t : Int)), m3), ?_, by omega, NI⟩
        unfold jd_301_s69
        rw [HM.1, n_jw (z := T) (by omega) (by omega), n_jw (z := (t : Int)) (by omega) (by omega), if_neg (by omega), e1, Option.bind_some, if_pos (show jw (-1) = -1 by decide)]
        dsimp only
        rw [q35, y_mw 106 12 rfl rfl (by omega) (by omega), Option.bind_some, v1, y_ma 105 12 rfl rfl (by omega) (by omega), Option.bind_some, v2, Option.bind_some, hm3]
    unfold jd_301_l69
    obtain ⟨x, e, m', hx, h47, h35⟩ := w_lp (f := fun u : (Int × jM) => jd_301_s69 T u.1 u.2) (Q := fun x => ∃ m', x = .inr (len, m') ∧ m' 76 47 = len ∧ m' 76 35 = T) (fun t u => PrI m Hd K P T cod len t u.1 u.2) T.toNat step (n_fu (by omega)) (s0 := (7, m1)) ⟨w0.symm, ⟨m35, m36, ⟨by omega, T2⟩, fun j j0 j1 => absurd j1 (by omega)⟩, fun c c1 _ _ _ _ _ => m1o c c1, ⟨m32, (m1k 47 (by decide)).trans hl⟩, fun j j0 j1 => absurd j1 (by omega)⟩
    exact ⟨m', by rw [e, hx], h47, h35⟩
  obtain ⟨m', l, h47, h35⟩ := lp
  have j2 : jwb (m 112 2) = cod := by rw [d2]; exact jwb_s (by omega) (by omega)
  have j3 : jwb (m 112 3) = w / 8 := by rw [d3]; exact jwb_s (by omega) (by omega)
  have j4 : jwb (m 112 4) = h / 8 := by rw [d4]; exact jwb_s (by omega) (by omega)
  have j6 : jwb (m 112 6) = T := by rw [d6]; exact jwb_s (by omega) (by omega)
  have q : ∀ (M : jM) (k : Int), M 112 = m 112 → 0 ≤ k → k < 24100 → jmb M 112 k = some (jwb (m 112 k)) := fun M k q1 q2 q3 => by rw [y_mb 112 24100 rfl rfl q2 (by omega), q1]
  refine ⟨m', ?_, h35⟩
  unfold jd_301
  rw [k303, Option.bind_some, if_pos (by decide), q m 2 rfl (by decide) (by decide), Option.bind_some, j2, Option.bind_some, q (jms m 76 32 cod) 3 rfl (by decide) (by decide), Option.bind_some, j3, Option.bind_some, q (jms (jms m 76 32 cod) 76 33 (8 * (w / 8))) 4 rfl (by decide) (by decide), Option.bind_some, j4, Option.bind_some, q (jms (jms (jms m 76 32 cod) 76 33 (8 * (w / 8))) 76 34 (8 * (h / 8))) 6 rfl (by decide) (by decide), Option.bind_some, j6, Option.bind_some, Option.bind_some, ← hm1, l, Option.bind_some]
  show some ((if (jw (m' 76 47)) ≤ (jw len) then (-1) else len), m') = some (-1, m')
  rw [h47, if_pos (Int.le_refl _)]
end ParsedT
