/-! making: a group, both sides -/
section MkGrp
variable {a : Nat} {f w h g n d T sz x5 st0 : Int} {s0 : hS} {Q0 : hQ}
theorem MkF_0 {s : hS} {Q : hQ} {hm : hO} {I m : jM} {cod : Int} (C : MkC s Q hm I m a f w h T cod) : MkF s Q hm I m a f s Q hm I m := ⟨⟨C.1.1, C.1.2.1⟩, C.2.1, Sm_refl, MG_refl, Gm_refl, rfl, rfl, rfl, fun _ _ => rfl⟩
theorem mkgrp (h6 : s0.1 + 11 < 1000000) (h5 : x5 = if jw sz ≤ 0 then 0 else 1) : ∀ (r : Nat) (k : Int) (s : hS) (Q : hQ) (hm : hO) (I m : jM) (x len : Int), MkI s Q hm I m a f w h g k n d T x len → 0 ≤ k → k + (r : Int) = n → m 82 5 = sz → m 82 4 = st0 → Gm a s0 Q0 s Q → ∃ (S : hS) (R : hQ) (H : hO) (J m' : jM), MkF s Q hm I m a f S R H J m' ∧ (((∀ e : Nat, jlp (fun u : (Int × Int × jH) => jd_66_s14 42 (some a) sz u.1 u.2.1 u.2.2) (e + (r + 1)) (x, g + k, hh s Q I) = some (.inl (hh S R J))) ∧ ∀ e : Nat, jlp (fun u : (Int × jM) => jd_294_s42 g g st0 x5 u.1 u.2) (e + (r + 1)) (k, m) = some (.inl m') ∨ jlp (fun u : (Int × jM) => jd_294_s42 g g st0 x5 u.1 u.2) (e + (r + 1)) (k, m) = some (.inr (.inl m'))) ∨ ∃ x' len' : Int, (∀ e : Nat, jlp (fun u : (Int × Int × jH) => jd_66_s14 42 (some a) sz u.1 u.2.1 u.2.2) (e + r) (x, g + k, hh s Q I) = jlp (fun u : (Int × Int × jH) => jd_66_s14 42 (some a) sz u.1 u.2.1 u.2.2) e (x', g + n, hh S R J)) ∧ (∀ e : Nat, jlp (fun u : (Int × jM) => jd_294_s42 g g st0 x5 u.1 u.2) (e + (r + 1)) (k, m) = some (.inr (.inr m'))) ∧ MkI S R H J m' a f w h g n n d T x' len')
  | 0, k, s, Q, hm, I, m, x, len, Z, k0, kr, hsz, hst, G0 => by
    have e : k = n := by omega
    subst e
    have m35 := Z.2.1.1.1
    have n12 : k ≤ 12 := by
      have := Z.2.1.2.2.1
      have := Z.1.2.2.2.1.2.1
      omega
    refine ⟨s, Q, hm, I, m, MkF_0 Z.1, Or.inr ⟨x, len, fun e => rfl, fun e => ?_, Z⟩⟩
    refine jlp_r ?_
    show jd_294_s42 g g st0 x5 k m = _
    unfold jd_294_s42
    rw [m35, if_pos (Int.le_refl _)]
  | r + 1, k, s, Q, hm, I, m, x, len, Z, k0, kr, hsz, hst, G0 => by
    have g3 := (Gm_3 G0).1
    obtain ⟨S, R, H, J, m', FF, alt⟩ := mkpic Z k0 (by omega) (by omega) hsz h5
    rw [hst] at alt
    rcases alt with ⟨e1, e2⟩ | ⟨x', len', e1, e2, Z'⟩
    · refine ⟨S, R, H, J, m', FF, Or.inl ⟨fun e => jlp_r e1, fun e => ?_⟩⟩
      rcases e2 with e2 | e2
      · exact Or.inl (jlp_r e2)
      · exact Or.inr (jlp_r e2)
    · have e82 : m' 82 = m 82 := FF.2.2.2.1.1 82 (by decide) (by decide) (by decide)
      rw [show g + k + 1 = g + (k + 1) by omega] at e1
      obtain ⟨S2, R2, H2, J2, m2, FF2, alt2⟩ := mkgrp h6 h5 r (k + 1) S R H J m' x' len' Z' (by omega) (by omega) (by rw [e82]; exact hsz) (by rw [e82]; exact hst) (Gm_t G0 FF.2.2.2.2.1)
      refine ⟨S2, R2, H2, J2, m2, MkF_t FF FF2, ?_⟩
      rcases alt2 with ⟨d1, d2⟩ | ⟨x2, len2, d1, d2, Z2⟩
      · refine Or.inl ⟨fun e => ?_, fun e => ?_⟩
        · rw [show e + (r + 1 + 1) = (e + (r + 1)) + 1 by omega, jlp_i (v := (x', g + (k + 1), hh S R J)) e1]
          exact d1 e
        · rw [show e + (r + 1 + 1) = (e + (r + 1)) + 1 by omega, jlp_i (v := (k + 1, m')) e2]
          exact d2 e
      · refine Or.inr ⟨x2, len2, fun e => ?_, fun e => ?_, Z2⟩
        · rw [show e + (r + 1) = (e + r) + 1 by omega, jlp_i (v := (x', g + (k + 1), hh S R J)) e1]
          exact d1 e
        · rw [show e + (r + 1 + 1) = (e + (r + 1)) + 1 by omega, jlp_i (v := (k + 1, m')) e2]
          exact d2 e
end MkGrp
