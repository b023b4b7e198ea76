/-! making in waves and runs: groups and films, both sides -/
section OthFilm
variable {a : Nat} {f w h g n T cod st0 x2 : Int} {s0 : hS} {Q0 : hQ} {G : Int → Int} {N : Nat}
def AllQ (a : Nat) (f w h T cod : Int) : Prop := ∀ (m : jM) (g n k : Int), 0 ≤ k → k < n → (cod = 1 → n = 1) → (∀ j : Int, 0 ≤ j → j < k → ∀ x : Int, 0 ≤ x → x < 864 → m 109 (864 * j + x) = m 121 (864 * m 103 j + x)) → PlnQ m a f w h g k n T cod
theorem MkU_0 {s : hS} {Q : hQ} {hm : hO} {I m : jM} (C : MkC s Q hm I m a f w h T cod) : MkU s Q hm I m a f s Q hm I m := ⟨⟨C.1.1, C.1.2.1⟩, C.2.1, Sm_refl, ⟨fun _ _ _ _ => rfl, fun _ _ => rfl⟩, Gm_refl, rfl, rfl, rfl, fun _ _ => rfl⟩
theorem mkgro (h6 : s0.1 + 11 < 1000000) (hc : cod = 1 ∨ cod = 2) (n1c : cod = 1 → n = 1) (PQ : AllQ a f w h T cod) : ∀ (r : Nat) (k : Int) (s : hS) (Q : hQ) (hm : hO) (I m : jM) (len : Int), MkO s Q hm I m a f w h g k n T len cod → 0 ≤ k → k + (r : Int) = n → Gm a s0 Q0 s Q → ∃ (S : hS) (R : hQ) (H : hO) (J m' : jM), MkU s Q hm I m a f S R H J m' ∧ (((∀ e : Nat, jlp (fun u : (Int × jH) => jd_67_s2 42 (some a) cod u.1 u.2) (e + (r + 1)) (g + k, hh s Q I) = some (.inl (hh S R J))) ∧ ∀ e : Nat, jlp (fun u : (Int × jM) => jd_294_s42 g g st0 0 u.1 u.2) (e + (r + 1)) (k, m) = some (.inr (.inl m'))) ∨ ∃ len' : Int, (∀ e : Nat, jlp (fun u : (Int × jH) => jd_67_s2 42 (some a) cod u.1 u.2) (e + r) (g + k, hh s Q I) = jlp (fun u : (Int × jH) => jd_67_s2 42 (some a) cod u.1 u.2) e (g + n, hh S R J)) ∧ (∀ e : Nat, jlp (fun u : (Int × jM) => jd_294_s42 g g st0 0 u.1 u.2) (e + (r + 1)) (k, m) = some (.inr (.inr m'))) ∧ MkO S R H J m' a f w h g n n T len' cod)
  | 0, k, s, Q, hm, I, m, len, Z, k0, kr, G0 => by
    have e : k = n := by omega
    subst e
    have m35 := Z.2.1.1.1
    refine ⟨s, Q, hm, I, m, MkU_0 Z.1, Or.inr ⟨len, fun e => rfl, fun e => ?_, Z⟩⟩
    refine jlp_r ?_
    show jd_294_s42 g g st0 0 k m = _
    unfold jd_294_s42
    rw [m35, if_pos (Int.le_refl _)]
  | r + 1, k, s, Q, hm, I, m, len, Z, k0, kr, G0 => by
    have g3 := (Gm_3 G0).1
    obtain ⟨S, R, H, J, m', FF, alt⟩ := mkoth (st := st0) Z hc k0 (by omega) (by omega) (PQ m g n k k0 (by omega) n1c Z.2.2.2.2.1)
    rcases alt with ⟨e1, e2⟩ | ⟨len', e1, e2, Z'⟩
    · exact ⟨S, R, H, J, m', FF, Or.inl ⟨fun e => jlp_r e1, fun e => jlp_r e2⟩⟩
    · rw [show g + k + 1 = g + (k + 1) by omega] at e1
      obtain ⟨S2, R2, H2, J2, m2, FF2, alt2⟩ := mkgro h6 hc n1c PQ r (k + 1) S R H J m' len' Z' (by omega) (by omega) (Gm_t G0 FF.2.2.2.2.1)
      refine ⟨S2, R2, H2, J2, m2, MkU_t FF FF2, ?_⟩
      rcases alt2 with ⟨d1, d2⟩ | ⟨len2, d1, d2, Z2⟩
      · refine Or.inl ⟨fun e => ?_, fun e => ?_⟩
        · rw [show e + (r + 1 + 1) = (e + (r + 1)) + 1 by omega, jlp_i (v := (g + (k + 1), hh S R J)) e1]
          exact d1 e
        · rw [show e + (r + 1 + 1) = (e + (r + 1)) + 1 by omega, jlp_i (v := (k + 1, m')) e2]
          exact d2 e
      · refine Or.inr ⟨len2, fun e => ?_, fun e => ?_, Z2⟩
        · rw [show e + (r + 1) = (e + r) + 1 by omega, jlp_i (v := (g + (k + 1), hh S R J)) e1]
          exact d1 e
        · rw [show e + (r + 1 + 1) = (e + (r + 1)) + 1 by omega, jlp_i (v := (k + 1, m')) e2]
          exact d2 e
/-- the invariant between groups -/
def MkV (s : hS) (Q : hQ) (hm : hO) (I m : jM) (a : Nat) (f w h g T len cod : Int) (G : Int → Int) (N : Nat) : Prop := MkC s Q hm I m a f w h T cod ∧ Laid I a G 0 N ∧ FBm s Q hm I m a f len ∧ (7 ≤ len ∧ len ≤ 7 + 2005 * g) ∧ HBy (m 112) (I (a + 1)) (I (a + 2)) cod g len
theorem mk_layo {s : hS} {Q : hQ} {hm : hO} {I m : jM} {len : Int} {i : Nat} (hc : cod = 1 ∨ cod = 2) (hG : GSz G T) (W : Wk G T N) (Z : MkV s Q hm I m a f w h (gSt G i) T len cod G N) (iN : i < N) (h6 : s.1 ≤ 1000000) {x3 x4 x5 : Int} : ∃ M m' : jM, jd_293 (G (gSt G i)) m = some M ∧ jd_294_l13 (gSt G i) x3 x4 x5 0 (jms M 76 83 0) = some m' ∧ MkO s Q hm I m' a f w h (gSt G i) 0 (G (gSt G i)) T len cod ∧ MG m m' ∧ m' 112 = m 112 := by
  obtain ⟨C, LA, B, l, Wb⟩ := Z
  obtain ⟨⟨L, F, f0, f8⟩, hb, ⟨m32, m33, m34, sw, sh⟩, ⟨T1, T2, i5, q6⟩, c5, c6, c8, c9⟩ := id C
  have gb := gSt_b (by omega) hG i (fun j hj => W.1 j (by omega))
  have gl := W.1 i iN
  obtain ⟨n1, n2⟩ := hG (gSt G i) (by omega) gl
  obtain ⟨M, m', e1, e2, ⟨m35, m36, m83⟩, LGk, hj, r1, r2⟩ := lay_m (m := m) (g := gSt G i) (n := G (gSt G i)) (d := 0) (x3 := x3) (x4 := x4) (x5 := x5) F h6 n1 (by omega) (by omega) (by omega) (Or.inr ⟨by rw [m32, n_jw (z := cod) (by omega) (by omega)]; omega, rfl⟩)
  have mg : MG m m' := ⟨fun c c1 c2 c3 => r1 c c1 (by omega) (by omega), fun z hz => r2 z (by omega) (by omega) (by omega)⟩
  have e112 : m' 112 = m 112 := r1 112 (by decide) (by decide) (by decide)
  refine ⟨M, m', e1, e2, ⟨MkC_fr C Sm_refl L F hb mg c8 rfl, ⟨⟨m35, m36⟩, LGk, ⟨by omega, n1, n2⟩, fun j j0 j1 => ?_⟩, ?_, by rw [Int.add_zero]; exact l, fun j j0 j1 => absurd j1 (by omega), ?_⟩, mg, e112⟩
  · obtain ⟨t1, t2⟩ := hj j j0 j1
    obtain ⟨t3, t4⟩ := LA i iN j j0 j1
    exact ⟨t1, t2, t3, t4⟩
  · unfold FBm at *
    rw [r2 47 (by decide) (by decide) (by decide), e112]
    exact B
  · rw [e112, Int.add_zero]
    exact Wb
theorem mkfilo (h6 : s0.1 + 11 < 1000000) (hc : cod = 1 ∨ cod = 2) (hG : GSz G T) (n1c : cod = 1 → ∀ p : Int, 0 ≤ p → p < T → G p = 1) (W : Wk G T N) (PQ : AllQ a f w h T cod) : ∀ (r i : Nat) (s : hS) (Q : hQ) (hm : hO) (I m : jM) (len : Int), MkV s Q hm I m a f w h (gSt G i) T len cod G N → i + r = N → m 76 7 = T → Gm a s0 Q0 s Q → (∀ m' : jM, MO m m' → ∀ g : Int, 0 ≤ g → g < T → jd_300_s186 x2 0 g m' = jd_300_b253 x2 0 g (G g) m') → ∃ (S : hS) (R : hQ) (H : hO) (J m' : jM) (c : Nat), c ≤ 20 * (r + 1) ∧ MkU s Q hm I m a f S R H J m' ∧ (((∀ e : Nat, jlp (fun u : (Int × jH) => jd_67_s2 42 (some a) cod u.1 u.2) (e + c) (gSt G i, hh s Q I) = some (.inl (hh S R J))) ∧ ∀ e : Nat, jlp (fun u : (Int × jM) => jd_300_s186 x2 0 u.1 u.2) (e + (r + 1)) (gSt G i, m) = some (.inl m')) ∨ ∃ len' : Int, (∀ e : Nat, jlp (fun u : (Int × jH) => jd_67_s2 42 (some a) cod u.1 u.2) (e + c) (gSt G i, hh s Q I) = some (.inr (hh S R J))) ∧ (∀ e : Nat, jlp (fun u : (Int × jM) => jd_300_s186 x2 0 u.1 u.2) (e + (r + 1)) (gSt G i, m) = some (.inr m')) ∧ MkV S R H J m' a f w h T T len' cod G N)
  | 0, i, s, Q, hm, I, m, len, Z, ir, h7, G0, hy => by
    have e : i = N := by omega
    have eT : gSt G i = T := by rw [e]; exact W.2
    obtain ⟨⟨L, F, f0, f8⟩, hb, -, ⟨T1, T2, i5, q6⟩, -⟩ := id Z.1
    rw [eT] at Z ⊢
    refine ⟨s, Q, hm, I, m, 1, by omega, MkU_0 Z.1, Or.inr ⟨len, fun e => ?_, fun e => ?_, Z⟩⟩
    · refine jlp_r ?_
      show jd_67_s2 42 (some a) cod T (hh s Q I) = _
      have i5' : I 42 ((5 : Nat) : Int) = T := i5
      unfold jd_67_s2
      rw [y_gi L 42 4 rfl rfl, Option.bind_some, i5', if_pos (Int.le_refl _)]
    · refine jlp_r ?_
      show jd_300_s186 x2 0 T m = _
      unfold jd_300_s186
      rw [h7, if_pos (Int.le_refl _)]
  | r + 1, i, s, Q, hm, I, m, len, Z, ir, h7, G0, hy => by
    have g3 := (Gm_3 G0).1
    have iN : i < N := by omega
    obtain ⟨-, -, -, ⟨T1, T2, -, -⟩, -⟩ := id Z.1
    have gb := gSt_b (by omega) hG i (fun j hj => W.1 j (by omega))
    have gl := W.1 i iN
    obtain ⟨n1, n2⟩ := hG (gSt G i) (by omega) gl
    obtain ⟨M, m1, l1, l2, Z1, mg1, x112⟩ := mk_layo (x3 := gSt G i) (x4 := m 82 4) (x5 := 0) hc hG W Z iN (by omega)
    obtain ⟨S, R, H, J, m', FF, alt⟩ := mkgro (s0 := s0) (Q0 := Q0) (st0 := m 82 4) h6 hc (fun e => n1c e _ (by omega) gl) PQ (G (gSt G i)).toNat 0 s Q hm I m1 len Z1 (by decide) (by omega) G0
    rw [Int.add_zero] at alt
    have FF' : MkU s Q hm I m a f S R H J m' := ⟨FF.1, FF.2.1, FF.2.2.1, MO_t (MO_G mg1) FF.2.2.2.1, FF.2.2.2.2.1, FF.2.2.2.2.2.1, FF.2.2.2.2.2.2.1, FF.2.2.2.2.2.2.2.1, fun i hi => by rw [FF.2.2.2.2.2.2.2.2 i hi, x112]⟩
    have ms := hy m ⟨fun _ _ _ _ => rfl, fun _ _ => rfl⟩ (gSt G i) (by omega) gl
    have m4 : ∀ y : Option (jM ⊕ (jM ⊕ jM)), jd_294_l42 (gSt G i) (gSt G i) (m 82 4) 0 0 m1 = y → jd_300_s186 x2 0 (gSt G i) m = (y.bind fun x66 => jse x66 (fun y68 => some (0, y68)) (fun y69 => jse y69 (fun y70 => some (0, y70)) (fun y71 => some (1, y71)))).bind fun q37 => (if (jw q37.1) = 0 then some (.inr (.inl q37.2)) else some (.inl ((gSt G i + G (gSt G i)), q37.2))) := fun y hy => by
      rw [ms]
      unfold jd_300_b253 jd_294
      rw [y_ma 82 8 rfl rfl (by decide) (by decide), Option.bind_some, l1, Option.bind_some, Option.bind_some, l2, Option.bind_some, hy]
    rcases alt with ⟨a1, a2⟩ | ⟨len', a1, a2, Z2⟩
    · have fl : jd_300_s186 x2 0 (gSt G i) m = some (.inr (.inl m')) := by
        have := a2 (jfu - ((G (gSt G i)).toNat + 1))
        rw [show jfu - ((G (gSt G i)).toNat + 1) + ((G (gSt G i)).toNat + 1) = jfu from Nat.sub_add_cancel (by unfold jfu; omega)] at this
        rw [m4 _ this]
        rfl
      exact ⟨S, R, H, J, m', (G (gSt G i)).toNat + 1, by omega, FF', Or.inl ⟨a1, fun e => jlp_r fl⟩⟩
    · have fl : jd_300_s186 x2 0 (gSt G i) m = some (.inl (gSt G (i + 1), m')) := by
        have := a2 (jfu - ((G (gSt G i)).toNat + 1))
        rw [show jfu - ((G (gSt G i)).toNat + 1) + ((G (gSt G i)).toNat + 1) = jfu from Nat.sub_add_cancel (by unfold jfu; omega)] at this
        rw [m4 _ this]
        rfl
      have e7 : m' 76 7 = T := by rw [FF'.2.2.2.1.2 7 (by decide)]; exact h7
      have g1 : gSt G (i + 1) = gSt G i + G (gSt G i) := rfl
      obtain ⟨z1, z2, z3, z4, z5, z6⟩ := Z2
      have Z3 : MkV S R H J m' a f w h (gSt G (i + 1)) T len' cod G N := by
        rw [g1]
        refine ⟨z1, fun j jN y y0 y1 => ?_, z3, z4, z6⟩
        rw [FF'.2.2.2.2.2.1, FF'.2.2.2.2.2.2.1]
        exact Z.2.1 j jN y y0 y1
      obtain ⟨S2, R2, H2, J2, m2, c2, cb, FF2, alt2⟩ := mkfilo h6 hc hG n1c W PQ r (i + 1) S R H J m' len' Z3 (by omega) e7 (Gm_t G0 FF.2.2.2.2.1) (fun m2 mg g g0 gT => hy m2 (MO_t FF'.2.2.2.1 mg) g g0 gT)
      refine ⟨S2, R2, H2, J2, m2, c2 + (G (gSt G i)).toNat, by omega, MkU_t FF' FF2, ?_⟩
      have ca : ∀ e : Nat, jlp (fun u : (Int × jH) => jd_67_s2 42 (some a) cod u.1 u.2) (e + (c2 + (G (gSt G i)).toNat)) (gSt G i, hh s Q I) = jlp (fun u : (Int × jH) => jd_67_s2 42 (some a) cod u.1 u.2) (e + c2) (gSt G (i + 1), hh S R J) := fun e => by
        rw [show e + (c2 + (G (gSt G i)).toNat) = (e + c2) + (G (gSt G i)).toNat by omega]
        exact a1 (e + c2)
      rcases alt2 with ⟨b1, b2⟩ | ⟨len'', b1, b2, Z4⟩
      · refine Or.inl ⟨fun e => (ca e).trans (b1 e), fun e => ?_⟩
        rw [show e + (r + 1 + 1) = (e + (r + 1)) + 1 by omega, jlp_i (v := (gSt G (i + 1), m')) fl]
        exact b2 e
      · refine Or.inr ⟨len'', fun e => (ca e).trans (b1 e), fun e => ?_, Z4⟩
        rw [show e + (r + 1 + 1) = (e + (r + 1)) + 1 by omega, jlp_i (v := (gSt G (i + 1), m')) fl]
        exact b2 e
/-- waves: what is asked of the planes -/
theorem allq_w : AllQ a f w h T 1 := fun m g n k k0 k1 n1 _ S R H J x4 C Gr h6 hw W hx4 => by
  obtain ⟨⟨m35, m36⟩, LGk, ⟨g0, -, gn⟩, hj⟩ := Gr
  obtain ⟨⟨L, F, f0, f8⟩, hb, ⟨m32, m33, m34, sw, sh⟩, ⟨T1, T2, i5, q6⟩, c5, c6, c8, c9⟩ := C
  obtain ⟨u1, u2, u3, u4⟩ := hj k k0 k1
  obtain ⟨-, z2⟩ := kk0 (n := n) (by omega) (by omega) k0 k1
  rw [z2] at u2
  obtain ⟨src, r68, P, ⟨p0, p1, -, -, px⟩⟩ := c6 (g + k) (by omega) (by omega)
  obtain ⟨w1, w2, w3, w4, w5⟩ := m0W_f (m := m) (k := k) (pos := g + k)
  have e121 : m0W m k (g + k) 121 = m 121 := w1 121 (by decide) (by decide) (by decide) (by decide)
  have e103 : m0W m k (g + k) 103 = m 103 := w1 103 (by decide) (by decide) (by decide) (by decide)
  obtain ⟨I', m', n', e1, e2, e3, e4, e5, e6⟩ := oth_w (a := a) (x4 := x4) (q := g + k) (k := k) (pos := g + k) L h6 W hw P ⟨by omega, by omega⟩ p0 p1 sw sh (by rw [w2 33 (by decide)]; exact m33) (by rw [w2 34 (by decide)]; exact m34) k0 (by omega) (by rw [e103]; exact u2) (by omega) (by omega) (fun pl j q0 q2 j0 j1 => by rw [e121]; exact px pl j q0 q2 j0 j1) r68 (by omega) (by omega)
  refine ⟨I', m', n', e1, ?_, e3, by omega, e5, e6⟩
  have n0 := e3.1.2.1
  have m532 : m' 76 32 = 1 := by rw [e6.2 32 (by decide), w2 32 (by decide)]; exact m32
  have l120 : jd_291_l120 k 0 m' = some m' := by
    unfold jd_291_l120
    exact jlp_r (n := 99999999) (by
      show jd_291_s120 k 0 m' = _
      unfold jd_291_s120
      rw [if_neg (by decide), m532, if_neg (by decide)])
  rw [if_pos rfl, e2, Option.bind_some]
  unfold jd_291_b118 jd_291_b145
  rw [l120, Option.bind_some, e3.2, n_div (z := n' + 7) (by omega) (by omega) (by decide) (by decide)]
end OthFilm
