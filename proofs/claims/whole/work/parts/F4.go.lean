/-! from the bytes on: parsed, and read or refused -/
section ReadGo
variable {s1 s4 : hS} {Q1 Q4 : hQ} {hm1 hm4 : hO} {I1 I4 m mP : jM} {f n : Int} {a b : Nat}
theorem rd_go (R1 : RelH s1 Q1 hm1 I1 m) (hf : m 76 12 = f) (f0 : 0 ≤ f) (f8 : f < 8) (ha : Q1 5 f = some a) (S : Sm (PF f) s1 Q1 hm1 I1 s4 Q4 hm4 I4) (L4 : Lay s4 Q4 hm4) (F4 : FilmAt s4 Q4 hm4 a f) (Y : BySm s4 Q4 I4 mP a b n) (n1 : n ≤ 4000) (kz : ∀ x : Int, 0 ≤ x → x < 12 → I4 (a + 8) x = 0) (i0 : ∀ y : Int, y ≠ 3 → I4 0 y = I1 0 y) (i3 : I4 0 3 = 0) (q0 : mP 76 0 = 0) (q5 : mP 76 5 = 0) (qj : ∀ j : Int, j ≠ 0 → j ≠ 5 → j ≠ 47 → mP 76 j = m 76 j) (qx : ∀ x : Nat, x ≠ 76 → x ≠ 112 → mP x = m x) (h6 : s4.1 + 24 ≤ 1000000) : ∃ (v : Int) (s' : hS) (Q' : hQ) (hm' : hO) (I' m' : jM), jd_197 0 (some a) (hh s4 Q4 I4) = some (v, hh s' Q' I') ∧ ((jd_301 mP).bind fun q15 => (if (jw q15.1) = (-1) then ((jd_308 q15.2).bind fun q18 => jd_310_b89 q18.1 q18.2) else jd_310_b89 ((-1) - q15.1) q15.2)) = some (v, m') ∧ m' 76 0 = 0 ∧ RelH s' Q' hm' I' m' ∧ Sm (PF f) s4 Q4 hm4 I4 s' Q' hm' I' ∧ s'.1 ≤ s4.1 + 24 ∧ s'.2.1 ≤ s4.2.1 + 10404 := by
  obtain ⟨r, J, M, e1, e2, fr, fr5, mc, m76, br⟩ := parse F4 (by omega) Y (by omega) (fun j hj => b_nf F4 Y.1 j hj)
  have a153 := F4.1
  have i8 : I1 0 8 = f := R1.2.2.2.2.2.1.1.trans hf
  have M112 : M 112 = mP 112 := mc 112 (by decide) (by decide) (by decide) (by decide) (by decide) (by decide)
  rcases br with ⟨r0, r1⟩ | ⟨rfl, H⟩
  · have S2 : Sm (PF f) s4 Q4 hm4 I4 s4 Q4 hm4 J := by
      have := Sm_prs (W := J (a + 7)) F4 fr
      rw [ims_self] at this
      exact this
    have j0 : J 0 = I4 0 := fr 0 (by omega)
    refine ⟨-1 - r, s4, Q4, hm4, J, M, ?_, ?_, ?_, ?_, S2, by omega, by omega⟩
    · unfold jd_197
      rw [Option.bind_some, F_ck F4, Option.bind_some, e1, Option.bind_some, if_neg (show ¬ jw (r, hh s4 Q4 J).1 < 0 from (by rw [n_jw (z := r) (by omega) (by omega)]; omega : ¬ jw r < 0))]
    · rw [e2, Option.bind_some, if_neg (show ¬ jw (r, M).1 = -1 from (by rw [n_jw (z := r) (by omega) (by omega)]; omega : ¬ jw r = -1))]
      rfl
    · rw [m76 0 (by omega)]
      exact q0
    · refine RelH_film R1 hf f8 (Sm_trans S S2) L4 ha F4 (fun y y3 y8 => by rw [j0, i0 y y3]) (by rw [j0, i3]) (by rw [m76 5 (by omega), q5]) ⟨by rw [m76 1 (by omega), qj 1 (by decide) (by decide) (by decide)], by rw [m76 7 (by omega), qj 7 (by decide) (by decide) (by decide)], by rw [m76 8 (by omega), qj 8 (by decide) (by decide) (by decide)], by rw [m76 9 (by omega), qj 9 (by decide) (by decide) (by decide)], by rw [m76 86 (by omega), qj 86 (by decide) (by decide) (by decide)], by rw [m76 92 (by omega), qj 92 (by decide) (by decide) (by decide)]⟩ (fun x hx => by rw [mc x (by omega) (by omega) (by omega) (by omega) (by omega) (by omega), qx x (by omega) (by omega)]) (fun g g0 gf => ?_) (Or.inl ⟨by rw [j0, i0 8 (by decide), i8], by rw [m76 12 (by omega), qj 12 (by decide) (by decide) (by decide), hf]⟩)
      have G : ∀ x : Nat, 83 ≤ x → x ≤ 101 → M x = m x := fun x xa xb => by rw [mc x (by omega) (by omega) (by omega) (by omega) (by omega) (by omega), qx x (by omega) (by omega)]
      exact ⟨fun x xa xb => by rw [G x xa (by omega)], fun i _ _ => by rw [G 89 (by decide) (by decide)], fun x xa xb k _ _ => by rw [G x (by omega) (by omega)], fun k j _ _ _ _ => by rw [G 99 (by decide) (by decide), G 100 (by decide) (by decide)]; exact ⟨rfl, rfl⟩, fun k j _ _ _ _ => by rw [G 101 (by decide) (by decide)]⟩
  · have M12 : M 76 12 = f := by rw [m76 12 (by omega), qj 12 (by decide) (by decide) (by decide), hf]
    have M47 : M 76 47 = n := by rw [m76 47 (by omega)]; exact Y.2.2.2.2.2.2.1
    obtain ⟨s', Q', hm', I', m', d1, d2, d3, d4, d5, d6, d7, d8, d9, da, db, dc⟩ := rd_ok f0 f8 L4 F4 h6 Y (by omega) kz M12 (by rw [i0 8 (by decide), i8]) e1 H fr fr5 M112 M47
    have N : ∀ j : Int, j < 32 ∨ 69 < j → j ≠ 12 → j ≠ 0 → j ≠ 5 → m' 76 j = m 76 j := fun j ja j12 j0 j5 => by rw [d8 j j12 (by omega), m76 j (by omega), qj j j0 j5 (by omega)]
    refine ⟨f, s', Q', hm', I', m', d1, ?_, ?_, ?_, d5, db, dc⟩
    · rw [e2, Option.bind_some, if_pos (show jw ((-1 : Int), M).1 = -1 from (by decide : jw (-1 : Int) = -1)), d2, Option.bind_some]
      rfl
    · rw [d8 0 (by decide) (by omega), m76 0 (by omega)]
      exact q0
    · refine RelH_film R1 hf f8 (Sm_trans S d5) d3 ha d4 (fun y y3 y8 => by rw [d6 y y8, i0 y y3]) (by rw [d6 3 (by decide), i3]) (by rw [d8 5 (by decide) (by omega), m76 5 (by omega), q5]) ⟨N 1 (by omega) (by decide) (by decide) (by decide), N 7 (by omega) (by decide) (by decide) (by decide), N 8 (by omega) (by decide) (by decide) (by decide), N 9 (by omega) (by decide) (by decide) (by decide), N 86 (by omega) (by decide) (by decide) (by decide), N 92 (by omega) (by decide) (by decide) (by decide)⟩ (fun x hx => by rw [d9 x (by omega) (by omega), mc x (by omega) (by omega) (by omega) (by omega) (by omega) (by omega), qx x (by omega) (by omega)]) (fun g g0 gf => ?_) (Or.inr d7)
      obtain ⟨z1, z2, z3, z4, z5⟩ := da g g0 gf
      have G : ∀ x : Nat, 83 ≤ x → x ≤ 101 → M x = m x := fun x xa xb => by rw [mc x (by omega) (by omega) (by omega) (by omega) (by omega) (by omega), qx x (by omega) (by omega)]
      exact ⟨fun x xa xb => by rw [z1 x xa xb, G x xa (by omega)], fun i u1 u2 => by rw [z2 i u1 u2, G 89 (by decide) (by decide)], fun x xa xb k u1 u2 => by rw [z3 x xa xb k u1 u2, G x (by omega) (by omega)], fun k j u1 u2 u3 u4 => by rw [(z4 k j u1 u2 u3 u4).1, (z4 k j u1 u2 u3 u4).2, G 99 (by decide) (by decide), G 100 (by decide) (by decide)]; exact ⟨rfl, rfl⟩, fun k j u1 u2 u3 u4 => by rw [z5 k j u1 u2 u3 u4, G 101 (by decide) (by decide)]⟩
end ReadGo
