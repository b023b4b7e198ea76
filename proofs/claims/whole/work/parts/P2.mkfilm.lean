/-! making: all groups of a film in blocks, both sides -/
section MkFilm
variable {a : Nat} {f w h d T sz x2 x3 : Int} {s0 : hS} {Q0 : hQ} {G : Int → Int} {N : Nat}
/-- the invariant between groups -/
def MkJ (s : hS) (Q : hQ) (hm : hO) (I m : jM) (a : Nat) (f w h g d T x len cod : Int) (G : Int → Int) (N : Nat) : Prop := MkC s Q hm I m a f w h T cod ∧ Laid I a G d N ∧ FBm s Q hm I m a f len ∧ (7 ≤ len ∧ len ≤ 7 + 2005 * g) ∧ HV (m 82 5) x (m 76 82) g ∧ HBy (m 112) (I (a + 1)) (I (a + 2)) cod g len
theorem mk_lay {s : hS} {Q : hQ} {hm : hO} {I m : jM} {x len : Int} {i : Nat} (hG : GSz G T) (W : Wk G T N) (Z : MkJ s Q hm I m a f w h (gSt G i) d T x len 0 G N) (iN : i < N) (h6 : s.1 ≤ 1000000) (d0 : 0 ≤ d) (d1 : d ≤ 1000) (hd : m 82 2 = d) {x3 x4 x5 : Int} : ∃ M m' : jM, jd_293 (G (gSt G i)) m = some M ∧ jd_294_l13 (gSt G i) x3 x4 x5 0 (jms M 76 83 0) = some m' ∧ MkI s Q hm I m' a f w h (gSt G i) 0 (G (gSt G i)) d T x len ∧ MG m m' ∧ m' 112 = m 112 := by
  obtain ⟨C, LA, B, l, V, Wb⟩ := Z
  obtain ⟨⟨L, F, f0, f8⟩, hb, ⟨m32, m33, m34, sw, sh⟩, ⟨T1, T2, i5, q6⟩, c5, c6, c8, c9⟩ := id C
  have gb := gSt_b (by omega) hG i (fun j hj => W.1 j (by omega))
  have gl := W.1 i iN
  obtain ⟨n1, n2⟩ := hG (gSt G i) (by omega) gl
  obtain ⟨M, m', e1, e2, ⟨m35, m36, m83⟩, LGk, hj, r1, r2⟩ := lay_m (m := m) (g := gSt G i) (n := G (gSt G i)) (d := d) (x3 := x3) (x4 := x4) (x5 := x5) F h6 n1 (by omega) d0 d1 (Or.inl ⟨by rw [m32]; decide, hd⟩)
  have mg : MG m m' := ⟨fun c c1 c2 c3 => r1 c c1 (by omega) (by omega), fun z hz => r2 z (by omega) (by omega) (by omega)⟩
  have e112 : m' 112 = m 112 := r1 112 (by decide) (by decide) (by decide)
  refine ⟨M, m', e1, e2, ⟨MkC_fr C Sm_refl L F hb mg c8 rfl, ⟨⟨m35, m36⟩, LGk, ⟨by omega, n1, n2⟩, fun j j0 j1 => ?_⟩, ?_, by rw [Int.add_zero]; exact l, fun j j0 j1 => absurd j1 (by omega), ?_, ?_⟩, mg, e112⟩
  · obtain ⟨t1, t2⟩ := hj j j0 j1
    obtain ⟨t3, t4⟩ := LA i iN j j0 j1
    exact ⟨t1, t2, t3, t4⟩
  · unfold FBm at *
    rw [r2 47 (by decide) (by decide) (by decide), e112]
    exact B
  · rw [r1 82 (by decide) (by decide) (by decide), r2 82 (by decide) (by decide) (by decide), Int.add_zero]
    exact V
  · rw [e112, Int.add_zero]
    exact Wb
theorem mkfilm (h6 : s0.1 + 11 < 1000000) (h3 : x3 = if jw sz ≤ 0 then 0 else 1) (hG : GSz G T) (W : Wk G T N) (d0 : 0 ≤ d) (d1 : d ≤ 1000) : ∀ (r i : Nat) (s : hS) (Q : hQ) (hm : hO) (I m : jM) (x len : Int), MkJ s Q hm I m a f w h (gSt G i) d T x len 0 G N → i + r = N → m 82 5 = sz → m 82 2 = d → m 76 7 = T → Gm a s0 Q0 s Q → (∀ m' : jM, MG m m' → ∀ g : Int, 0 ≤ g → g < T → jd_300_s186 x2 x3 g m' = jd_300_b253 x2 x3 g (G g) m') → ∃ (S : hS) (R : hQ) (H : hO) (J m' : jM) (c : Nat), c ≤ 20 * (r + 1) ∧ MkF s Q hm I m a f S R H J m' ∧ (((∀ e : Nat, jlp (fun u : (Int × Int × jH) => jd_66_s14 42 (some a) sz u.1 u.2.1 u.2.2) (e + c) (x, gSt G i, hh s Q I) = some (.inl (hh S R J))) ∧ ∀ e : Nat, jlp (fun u : (Int × jM) => jd_300_s186 x2 x3 u.1 u.2) (e + (r + 1)) (gSt G i, m) = some (.inl m')) ∨ ∃ x' len' : Int, (∀ e : Nat, jlp (fun u : (Int × Int × jH) => jd_66_s14 42 (some a) sz u.1 u.2.1 u.2.2) (e + c) (x, gSt G i, hh s Q I) = some (.inr (hh S R J))) ∧ (∀ e : Nat, jlp (fun u : (Int × jM) => jd_300_s186 x2 x3 u.1 u.2) (e + (r + 1)) (gSt G i, m) = some (.inr m')) ∧ MkJ S R H J m' a f w h T d T x' len' 0 G N)
  | 0, i, s, Q, hm, I, m, x, len, Z, ir, hsz, hd, h7, G0, hy => by
    have e : i = N := by omega
    have eT : gSt G i = T := by rw [e]; exact W.2
    obtain ⟨⟨L, F, f0, f8⟩, hb, -, ⟨T1, T2, i5, q6⟩, -⟩ := id Z.1
    rw [eT] at Z ⊢
    refine ⟨s, Q, hm, I, m, 1, by omega, MkF_0 Z.1, Or.inr ⟨x, len, fun e => ?_, fun e => ?_, Z⟩⟩
    · refine jlp_r ?_
      show jd_66_s14 42 (some a) sz x T (hh s Q I) = _
      have i5' : I 42 ((5 : Nat) : Int) = T := i5
      unfold jd_66_s14
      rw [y_gi L 42 4 rfl rfl, Option.bind_some, i5', if_pos (Int.le_refl _)]
    · refine jlp_r ?_
      show jd_300_s186 x2 x3 T m = _
      unfold jd_300_s186
      rw [h7, if_pos (Int.le_refl _)]
  | r + 1, i, s, Q, hm, I, m, x, len, Z, ir, hsz, hd, h7, G0, hy => by
    have g3 := (Gm_3 G0).1
    have iN : i < N := by omega
    obtain ⟨-, -, -, ⟨T1, T2, -, -⟩, -⟩ := id Z.1
    have gb := gSt_b (by omega) hG i (fun j hj => W.1 j (by omega))
    have gl := W.1 i iN
    obtain ⟨n1, n2⟩ := hG (gSt G i) (by omega) gl
    obtain ⟨M, m1, l1, l2, Z1, mg1, x112⟩ := mk_lay (x3 := gSt G i) (x4 := m 82 4) (x5 := x3) hG W Z iN (by omega) d0 d1 hd
    have e82 : m1 82 = m 82 := mg1.1 82 (by decide) (by decide) (by decide)
    obtain ⟨S, R, H, J, m', FF, alt⟩ := mkgrp (s0 := s0) (Q0 := Q0) (x5 := x3) (sz := sz) (st0 := m 82 4) h6 h3 (G (gSt G i)).toNat 0 s Q hm I m1 x len Z1 (by decide) (by omega) (by rw [e82]; exact hsz) (by rw [e82]) G0
    rw [Int.add_zero] at alt
    have FF' : MkF s Q hm I m a f S R H J m' := ⟨FF.1, FF.2.1, FF.2.2.1, MG_t mg1 FF.2.2.2.1, FF.2.2.2.2.1, FF.2.2.2.2.2.1, FF.2.2.2.2.2.2.1, FF.2.2.2.2.2.2.2.1, fun i hi => by rw [FF.2.2.2.2.2.2.2.2 i hi, x112]⟩
    have ms := hy m MG_refl (gSt G i) (by omega) gl
    have m4 : ∀ y : Option (jM ⊕ (jM ⊕ jM)), jd_294_l42 (gSt G i) (gSt G i) (m 82 4) x3 0 m1 = y → jd_300_s186 x2 x3 (gSt G i) m = (y.bind fun x66 => jse x66 (fun y68 => some (0, y68)) (fun y69 => jse y69 (fun y70 => some (0, y70)) (fun y71 => some (1, y71)))).bind fun q37 => (if (jw q37.1) = 0 then some (.inr (.inl q37.2)) else some (.inl ((gSt G i + G (gSt G i)), q37.2))) := fun y hy => by
      rw [ms]
      unfold jd_300_b253 jd_294
      rw [y_ma 82 8 rfl rfl (by decide) (by decide), Option.bind_some, l1, Option.bind_some, Option.bind_some, l2, Option.bind_some, hy]
    rcases alt with ⟨a1, a2⟩ | ⟨x', len', a1, a2, Z2⟩
    · have fl : jd_300_s186 x2 x3 (gSt G i) m = some (.inr (.inl m')) := by
        have := a2 (jfu - ((G (gSt G i)).toNat + 1))
        rw [show jfu - ((G (gSt G i)).toNat + 1) + ((G (gSt G i)).toNat + 1) = jfu from Nat.sub_add_cancel (by unfold jfu; omega)] at this
        rcases this with q | q
        · rw [m4 _ q]
          rfl
        · rw [m4 _ q]
          rfl
      exact ⟨S, R, H, J, m', (G (gSt G i)).toNat + 1, by omega, FF', Or.inl ⟨a1, fun e => jlp_r fl⟩⟩
    · have fl : jd_300_s186 x2 x3 (gSt G i) m = some (.inl (gSt G (i + 1), m')) := by
        have := a2 (jfu - ((G (gSt G i)).toNat + 1))
        rw [show jfu - ((G (gSt G i)).toNat + 1) + ((G (gSt G i)).toNat + 1) = jfu from Nat.sub_add_cancel (by unfold jfu; omega)] at this
        rw [m4 _ this]
        rfl
      have e82' : m' 82 = m 82 := FF'.2.2.2.1.1 82 (by decide) (by decide) (by decide)
      have e7 : m' 76 7 = T := by rw [FF'.2.2.2.1.2 7 (by decide)]; exact h7
      have g1 : gSt G (i + 1) = gSt G i + G (gSt G i) := rfl
      obtain ⟨z1, z2, z3, z4, z5, z6, z7⟩ := Z2
      have Z3 : MkJ S R H J m' a f w h (gSt G (i + 1)) d T x' len' 0 G N := by
        rw [g1]
        refine ⟨z1, fun j jN y y0 y1 => ?_, z3, z4, z6, z7⟩
        rw [FF'.2.2.2.2.2.1, FF'.2.2.2.2.2.2.1]
        exact Z.2.1 j jN y y0 y1
      obtain ⟨S2, R2, H2, J2, m2, c2, cb, FF2, alt2⟩ := mkfilm h6 h3 hG W d0 d1 r (i + 1) S R H J m' x' len' Z3 (by omega) (by rw [e82']; exact hsz) (by rw [e82']; exact hd) e7 (Gm_t G0 FF.2.2.2.2.1) (fun m2 mg g g0 gT => hy m2 (MG_t FF'.2.2.2.1 mg) g g0 gT)
      refine ⟨S2, R2, H2, J2, m2, c2 + (G (gSt G i)).toNat, by omega, MkF_t FF' FF2, ?_⟩
      have ca : ∀ e : Nat, jlp (fun u : (Int × Int × jH) => jd_66_s14 42 (some a) sz u.1 u.2.1 u.2.2) (e + (c2 + (G (gSt G i)).toNat)) (x, gSt G i, hh s Q I) = jlp (fun u : (Int × Int × jH) => jd_66_s14 42 (some a) sz u.1 u.2.1 u.2.2) (e + c2) (x', gSt G (i + 1), hh S R J) := fun e => by
        rw [show e + (c2 + (G (gSt G i)).toNat) = (e + c2) + (G (gSt G i)).toNat by omega]
        exact a1 (e + c2)
      rcases alt2 with ⟨b1, b2⟩ | ⟨x'', len'', b1, b2, Z4⟩
      · refine Or.inl ⟨fun e => (ca e).trans (b1 e), fun e => ?_⟩
        rw [show e + (r + 1 + 1) = (e + (r + 1)) + 1 by omega, jlp_i (v := (gSt G (i + 1), m')) fl]
        exact b2 e
      · refine Or.inr ⟨x'', len'', fun e => (ca e).trans (b1 e), fun e => ?_, Z4⟩
        rw [show e + (r + 1 + 1) = (e + (r + 1)) + 1 by omega, jlp_i (v := (gSt G (i + 1), m')) fl]
        exact b2 e
end MkFilm
