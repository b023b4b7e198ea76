/-! making: a whole picture opened, both sides -/
section PicO
variable {s s' : hS} {Q Q' : hQ} {hm hm' : hO} {I I' m m' : jM} {a p b src : Nat} {f w h g k kd st rc os : Int}
/-- the model's state as the parts begin -/
def m0P (m : jM) (k st : Int) : jM := jms (ims (jms m 76 53 0) 110 (fun x => if 864 * k ≤ x ∧ x < 864 * k + 864 then 0 else m 110 x)) 104 k st
theorem m0P_f : (∀ c : Nat, c ≠ 76 → c ≠ 110 → c ≠ 104 → m0P m k st c = m c) ∧ (∀ z : Int, z ≠ 53 → m0P m k st 76 z = m 76 z) ∧ m0P m k st 76 53 = 0 ∧ m0P m k st 104 k = st ∧ (∀ z : Int, z ≠ k → m0P m k st 104 z = m 104 z) ∧ ∀ z : Int, ¬ (864 * k ≤ z ∧ z < 864 * k + 864) → m0P m k st 110 z = m 110 z := by
  unfold m0P
  refine ⟨fun c c1 c2 c3 => by rw [jms_o c3, ims_o c2, jms_o c1], fun z hz => by rw [jms_o (by decide), ims_o (by decide), jms_i hz], by rw [jms_o (by decide), ims_o (by decide), jms_e], jms_e, fun z hz => by rw [jms_i hz, ims_o (by decide), jms_o (by decide)], fun z hz => ?_⟩
  rw [jms_o (by decide), ims_e]
  exact if_neg hz
theorem k_291o (k0 : 0 ≤ k) (k1 : k < 12) (h32 : m 76 32 = 0) : jd_291 k st m = (jd_291_l37 k st 0 (m0P m k st)).bind fun x11 => jd_291_b145 x11 := by
  obtain ⟨M, hM⟩ : ∃ M, M = ims (jms m 76 53 0) 110 (fun x => if 864 * k ≤ x ∧ x < 864 * k + 864 then 0 else m 110 x) := ⟨_, rfl⟩
  have e1 : jd_242 k (jms m 76 53 0) = some M := by
    rw [hM]
    have := k_242 (m := jms m 76 53 0) k0 k1
    rw [jms_o (by decide : (110 : Nat) ≠ 76)] at this
    exact this
  have M32 : M 76 32 = 0 := by rw [hM, ims_o (by decide), jms_i (by decide)]; exact h32
  have N32 : jms M 104 k st 76 32 = 0 := by rw [jms_o (by decide)]; exact M32
  have eN : m0P m k st = jms M 104 k st := by rw [hM]; rfl
  rw [eN]
  unfold jd_291
  rw [Option.bind_some, e1, Option.bind_some, M32, if_pos (by decide), y_mw 104 12 rfl rfl k0 (by omega), Option.bind_some, N32, if_pos (by decide)]
theorem pic_o (L : Lay s Q hm) (h6 : s.1 < 1000000) (hb : ∀ b, Q 43 0 = some b → 153 ≤ b ∧ Ce s hm b 1 4000 560) (X : PKm s Q hm I m a p src f w h g k kd rc os) (s0 : 1 ≤ st) (s1 : st ≤ 31) : ∃ (S : hS) (Q1 : hQ) (H : hO) (I1 : jM) (b b1 b2 : Nat) (a1 a2 : Int), (jd_16 44 (some 43) (some a) (g + k) (some src) st rc (hh s Q I) = (jd_16_l46 44 (some 43) (some src) rc (w / 8 * (h / 8)) 0 (hh S Q1 I1)).bind fun x127 => (jck x127 43 0).bind fun _ => (jd_10 43 x127).bind fun v => some (v, x127)) ∧ MP S Q1 I1 (m0P m k st) p b1 b2 src w h k kd st 0 a1 a2 0 rc ∧ Lay S Q1 H ∧ Sm (fun o => o ≠ 1043 ∧ o ≠ 1045) s Q hm I S Q1 H I1 ∧ FilmAt S Q1 H a f ∧ WrT S Q1 43 b ∧ 153 ≤ b ∧ Ce S H b 1 4000 560 ∧ s.1 ≤ S.1 ∧ S.1 ≤ s.1 + 1 ∧ S.2.1 ≤ s.2.1 + 4000 ∧ (Q 43 0 ≠ none → S = s) := by
  obtain ⟨F, ⟨f0, f7⟩, ⟨-, mw, mh, m36, sw, sh⟩, ⟨g0, k0, gk, hk⟩, hK, hOk, ⟨h20, h22⟩, hR, ⟨qp, pw0, ph0⟩, ⟨PS, os0, ws, hs, c0, c1, srcE⟩, hrc, rc0, rc8⟩ := X
  obtain ⟨S, Q0, H, I0, b, e6, L0, Sm0, W0, b153, Cb, i43, -, -, n1, n2, n3, n4⟩ := c_6 (I := I) L h6 hb
  obtain ⟨F0, fq, -, fp⟩ := FilmAt_fr1 Sm0 (fun j j0 j1 => by omega) (by omega) (by omega) F
  have ia1 : I0 (a + 1) = I (a + 1) := (fq 1 (by decide)).2
  have qa9 : Q0 (a + 9) = Q (a + 9) := (fq 9 (by decide)).1
  have kb : 0 ≤ kd ∧ kd ≤ 2 := by have := hK k k0 (by omega); rw [hk] at this; omega
  have eK : I0 (a + 1) (g + k) = kd := by rw [ia1, (hK k k0 (by omega)).1, hk]
  have e73 := c_73m (I := I0) (k := g + k) (fr := 0) (kd := kd) (c := a) L0 (by omega) F0 (FlC_F F0) (Or.inr F.1) (by omega) gk (fun j j0 j1 => by
    rw [ia1]
    by_cases c : j < g
    · exact hOk j j0 c
    · have := hK (j - g) (by omega) (by omega)
      rw [show g + (j - g) = j by omega] at this
      rw [this.1]
      unfold okI
      omega) eK kb.1 kb.2 (by omega) (by omega)
  obtain ⟨A1, A2⟩ := pic_a (K := I0 (a + 1)) (M := m 102) g0 k0 (fun j j0 j1 => by rw [ia1]; exact (hK j j0 j1).1) h20 hk h22
  obtain ⟨R3, hR3⟩ : ∃ z, z = if 0 ≤ rfB (I0 (a + 1)) 0 (g + k) kd then Q0 (a + 9) (rfB (I0 (a + 1)) 0 (g + k) kd) else none := ⟨_, rfl⟩
  obtain ⟨R4, hR4⟩ : ∃ z, z = if kd = 2 ∧ 0 ≤ anc (I0 (a + 1)) 0 (g + k).toNat then Q0 (a + 9) (anc (I0 (a + 1)) 0 (g + k).toNat) else none := ⟨_, rfl⟩
  rw [← hR3, ← hR4] at e73
  obtain ⟨Q3, hQ3⟩ : ∃ z, z = rms (rms (rms Q0 45 2 (Q0 (a + 9) (g + k))) 45 3 R3) 45 4 R4 := ⟨_, rfl⟩
  obtain ⟨I3, hI3⟩ : ∃ z, z = jms (jms I0 45 0 kd) 45 1 st := ⟨_, rfl⟩
  have o3 : ∀ x : Nat, x ≠ 45 → Q3 x = Q0 x := fun x hx => by rw [hQ3, rms_o hx, rms_o hx, rms_o hx]
  have v3 : ∀ x : Nat, x ≠ 45 → I3 x = I0 x := fun x hx => by rw [hI3, jms_o hx, jms_o hx]
  have L3 : Lay S Q3 H := by rw [hQ3]; exact Lay_rms (k := 4) (Lay_rms (k := 3) (Lay_rms (k := 2) L0 rfl) rfl) rfl
  have F3 : FilmAt S Q3 H a f := FilmAt_q (fun x hx => o3 x (by omega)) F0
  have o45 : H 45 = 1045 := by rw [Lo L0 rfl]; rfl
  have Sm3 : Sm (fun o => o ≠ 1043 ∧ o ≠ 1045) s Q hm I S Q3 H I3 := by
    refine ⟨n1, fun x hx hp => ?_⟩
    obtain ⟨y1, y2, y3, y4, y5⟩ := Sm0.2 x hx hp.1
    have x45 : x ≠ 45 := fun e => hp.2 (by rw [← y5, e]; exact o45)
    exact ⟨y1, y2, by rw [o3 x x45]; exact y3, by rw [v3 x x45]; exact y4, y5⟩
  have pic : ∀ j : Int, 0 ≤ j → j ≤ k → ∀ q, Q (a + 9) (g + j) = some q → PcC S Q3 q ∧ I3 q = I q ∧ I3 (q + 1) = I (q + 1) ∧ H q = 200 + 12 * f + (g + j) := fun j j0 j1 q hq => by
    have A := F.2.2.2.2 (g + j) (by omega) (by omega) q hq
    obtain ⟨B1, B2, B3⟩ := PicAt_fr Sm3 A ⟨by omega, by omega⟩
    exact ⟨PcC_at B1, B2, B3, B1.2.1.2.2.2⟩
  obtain ⟨Pp, ip, -, hp⟩ := pic k k0 (by omega) p qp
  obtain ⟨PSr, is, is1⟩ := PicAt_fr Sm3 PS ⟨by omega, by omega⟩
  obtain ⟨mf, mz, m53, -, -, -⟩ := m0P_f (m := m) (k := k) (st := st)
  have m102 : m0P m k st 102 = m 102 := mf 102 (by decide) (by decide) (by decide)
  have m109 : m0P m k st 109 = m 109 := mf 109 (by decide) (by decide) (by decide)
  have m36' : m0P m k st 76 36 = 0 := by rw [mz 36 (by decide)]; exact m36
  have k239 : ∀ m' : jM, m' 76 36 = m0P m k st 76 36 → m' 102 = m0P m k st 102 → jd_239 k 1 m' = some (anc (m 102) 0 k.toNat) ∧ jd_239 k 2 m' = some (anc (m 102) 0 (anc (m 102) 0 k.toNat).toNat) := fun m' e1 e2 => by
    have := k_239 (m := m') (fr := 0) (by rw [e1]; exact m36') (by decide) (by decide) (N := k) (by omega) (fun j j0 j1 => by rw [e2, m102]; have := hK j j0 (by omega); unfold okI; omega) k.toNat (by omega)
    rw [show ((k.toNat : Nat) : Int) = k by omega, e2, m102] at this
    exact this
  have q3 : Q3 45 2 = some p ∧ Q3 45 3 = R3 ∧ Q3 45 4 = R4 := by
    rw [hQ3]
    exact ⟨by rw [rms_i (by decide), rms_i (by decide), rms_e, qa9]; exact qp, by rw [rms_i (by decide), rms_e], rms_e⟩
  have Ref : ∀ r : Int, 0 ≤ r → r < k → ∃ q, Q0 (a + 9) (g + r) = some q ∧ RfE S Q3 I3 (m0P m k st) q w h r ∧ q ≠ p := fun r r0 r1 => by
    obtain ⟨q, hq, R⟩ := hR r r0 r1
    obtain ⟨B1, B2, B3, B4⟩ := pic r r0 (by omega) q hq
    exact ⟨q, by rw [qa9]; exact hq, RfE_tr R B1 B2 B3 (fun j _ _ => by rw [m109]) sw sh, fun e => by rw [e] at B4; omega⟩
  have T1 : ∃ (b1 : Nat) (a1 : Int), kd ≠ 0 → (Q3 45 3 = some b1 ∧ RfE S Q3 I3 (m0P m k st) b1 w h a1 ∧ ∀ m' : jM, m' 76 36 = m0P m k st 76 36 → m' 102 = m0P m k st 102 → jd_239 k (if kd = 2 then 2 else 1) m' = some a1) ∧ b1 ≠ p ∧ a1 ≠ k := by
    by_cases c : kd = 0
    · exact ⟨0, 0, fun e => absurd c e⟩
    · obtain ⟨r, r0, r1, r2, r3⟩ := A1 c
      obtain ⟨q, hq, R, qn⟩ := Ref r r0 r1
      refine ⟨q, r, fun _ => ⟨⟨by rw [q3.2.1, hR3, r2, if_pos (by omega)]; exact hq, R, fun m' e1 e2 => ?_⟩, qn, by omega⟩⟩
      obtain ⟨z1, z2⟩ := k239 m' e1 e2
      by_cases c2 : kd = 2
      · rw [if_pos c2] at r3 ⊢
        rw [z2, r3]
      · rw [if_neg c2] at r3 ⊢
        rw [z1, r3]
  have T2 : ∃ (b2 : Nat) (a2 : Int), kd = 2 → (Q3 45 4 = some b2 ∧ RfE S Q3 I3 (m0P m k st) b2 w h a2 ∧ ∀ m' : jM, m' 76 36 = m0P m k st 76 36 → m' 102 = m0P m k st 102 → jd_239 k 1 m' = some a2) ∧ b2 ≠ p ∧ a2 ≠ k := by
    by_cases c : kd = 2
    · obtain ⟨r, r0, r1, r2, r3⟩ := A2 c
      obtain ⟨q, hq, R, qn⟩ := Ref r r0 r1
      refine ⟨q, r, fun _ => ⟨⟨by rw [q3.2.2, hR4, r2, if_pos ⟨c, by omega⟩]; exact hq, R, fun m' e1 e2 => ?_⟩, qn, by omega⟩⟩
      rw [(k239 m' e1 e2).1, r3]
    · exact ⟨0, 0, fun e => absurd e c⟩
  obtain ⟨b1, a1, T1⟩ := T1
  obtain ⟨b2, a2, T2⟩ := T2
  have W3 : WrT S Q3 43 b := ⟨W0.1, W0.2.1, W0.2.2.1, by rw [o3 43 (by decide)]; exact W0.2.2.2⟩
  have spn : src ≠ p := fun e => by
    have := PSr.2.1.2.2.2
    rw [e, hp] at this
    omega
  refine ⟨S, Q3, H, I3, b, b1, b2, a1, a2, ?_, ⟨⟨Pp, q3.1⟩, ⟨by rw [ip]; exact pw0, by rw [ip]; exact ph0, sw, sh⟩, ⟨by rw [hI3, jms_i (by decide), jms_e], by rw [hI3, jms_e]⟩, ⟨kb.1, kb.2, s0, s1⟩, ⟨by rw [mz 33 (by decide)]; exact mw, by rw [mz 34 (by decide)]; exact mh, by rw [m102]; exact hk, k0, by omega⟩, fun pl x y _ _ x0 _ y0 _ hlt => ?_, T1, T2, ?_, fun e => absurd e (by decide), ⟨⟨by rw [v3 43 (by decide)]; exact i43, by decide, Or.inr ⟨b, W3, fun j j0 j1 => absurd j1 (by omega), fun i i0 i1 => absurd i1 (by omega)⟩⟩, m53, by decide, ⟨Or.inl rfl, fun c hc => by rw [W3.2.2.2] at hc; cases hc; exact b153⟩⟩, by rw [mf 82 (by decide) (by decide) (by decide)]; exact hrc, rc0, rc8⟩, L3, Sm3, F3, W3, b153, Cb, n1, n2, n3, n4⟩
  · have T := PtC_45 L0
    have T3 := PtC_45 L3
    have q440 : Q0 44 ((0 : Nat) : Int) = some 45 := Lq L0 rfl
    have q443 : Q3 44 ((0 : Nat) : Int) = some 45 := Lq L3 rfl
    have L3' : Lay S (rms (rms (rms Q0 45 2 (Q0 (a + 9) (g + k))) 45 3 R3) 45 4 R4) H := by rw [← hQ3]; exact L3
    have s3 : src < S.1 ∧ S.2.2.1 src = 6 + 8 := ⟨PSr.2.1.1, PSr.2.1.2.1⟩
    have d1 : I3 src ((0 : Nat) : Int) = w := by rw [is]; exact ws
    have d2 : I3 src ((1 : Nat) : Int) = h := by rw [is]; exact hs
    unfold jd_16
    rw [Option.bind_some, y_ck L 43 0 rfl rfl, Option.bind_some, e6, Option.bind_some, y_gr L0 44 1 rfl rfl, Option.bind_some, q440, Option.bind_some, y_ck L0 45 5 rfl rfl, Option.bind_some, e73, Option.bind_some, ← hQ3, y_gr L3 44 1 rfl rfl, Option.bind_some, q443, Option.bind_some, y_pi L3 45 5 rfl rfl, Option.bind_some, show jms (jms I0 45 0 kd) 45 ((1 : Nat) : Int) st = I3 from hI3.symm, Option.bind_some, x_gi s3.1 s3.2, Option.bind_some, Option.bind_some, x_gi s3.1 s3.2, Option.bind_some, d1, d2, n_div (z := w) (by rcases sw with rfl | rfl | rfl <;> decide) (by rcases sw with rfl | rfl | rfl <;> decide) (by decide) (by decide), n_div (z := h) (by rcases sh with rfl | rfl | rfl <;> decide) (by rcases sh with rfl | rfl | rfl <;> decide) (by decide) (by decide)]
    rfl
  · refine absurd hlt ?_
    have d0 : 0 < sdOf pl := by unfold sdOf; split <;> decide
    have u1 : 0 ≤ y / sdOf pl := Int.ediv_nonneg y0 (by omega)
    have u2 : 0 ≤ x / sdOf pl := Int.ediv_nonneg x0 (by omega)
    have u3 : 0 ≤ w / 8 := by rcases sw with rfl | rfl | rfl <;> decide
    have := Int.mul_nonneg u1 u3
    omega
  · have m103 : m0P m k st 103 = m 103 := mf 103 (by decide) (by decide) (by decide)
    have m121 : m0P m k st 121 = m 121 := mf 121 (by decide) (by decide) (by decide)
    rw [m103, m121, is, is1]
    exact ⟨PcC_at PSr, ws, hs, spn, c0, c1, srcE⟩
end PicO
