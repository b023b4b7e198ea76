/-! making: all parts of a picture, both sides -/
section PartsM
variable {s : hS} {Q Q' : hQ} {hm : hO} {I J m m' M : jM} {p b b1 b2 src T : Nat} {w h k kd st q a1 a2 n rc : Int} {x7 : Int}
theorem QF_t {I1 m1 I2 m2 : jM} (h43 : Q' 43 = Q 43) (A : QF Q p I I1 m m1 k) (B : QF Q' p I1 I2 m1 m2 k) : QF Q p I I2 m m2 k := by
  obtain ⟨A1, A2, A3, A4, A5, A6, A7⟩ := A
  obtain ⟨B1, B2, B3, B4, B5, B6, B7⟩ := B
  exact ⟨fun x x1 x2 x3 => (B1 x x1 x2 (by rw [h43]; exact x3)).trans (A1 x x1 x2 x3), fun z hz => (B2 z hz).trans (A2 z hz), fun z z1 z2 => (B3 z z1 z2).trans (A3 z z1 z2), fun c c1 c2 c3 c4 c5 => (B4 c c1 c2 c3 c4 c5).trans (A4 c c1 c2 c3 c4 c5), fun z z1 z2 z3 => (B5 z z1 z2 z3).trans (A5 z z1 z2 z3), fun j hj => (B6 j hj).trans (A6 j hj), fun j hj => (B7 j hj).trans (A7 j hj)⟩
theorem QF_refl : QF Q p I I m m k := ⟨fun _ _ _ _ => rfl, fun _ _ => rfl, fun _ _ _ => rfl, fun _ _ _ _ _ _ => rfl, fun _ _ _ _ => rfl, fun _ _ => rfl, fun _ _ => rfl⟩
theorem parts_m (L : Lay s Q hm) (h6 : s.1 ≤ 1000000) (S : MP s Q I m p b1 b2 src w h k kd st 0 a1 a2 0 rc) (hx7 : x7 = w / 8 * (h / 8)) : ∃ (I' m' : jM) (n' : Int), jd_16_l46 44 (some 43) (some src) rc x7 0 (hh s Q I) = some (hh s (rms Q 55 0 none) I') ∧ jd_291_l37 k st 0 m = some m' ∧ MP s (rms Q 55 0 none) I' m' p b1 b2 src w h k kd st x7 a1 a2 n' rc ∧ QF Q p I I' m m' k := by
  obtain ⟨-, ⟨-, -, sw, sh⟩, -⟩ := id S
  have xb : 1 ≤ x7 ∧ x7 ≤ 9 := by
    rw [hx7]
    rcases sw with rfl | rfl | rfl <;> rcases sh with rfl | rfl | rfl <;> decide
  have step : ∀ (t : Nat) (u : Int × jH) (v : Int × jM), t ≤ x7.toNat → (∃ (Qt : hQ) (It mt : jM) (nt : Int), u = ((t : Int), hh s Qt It) ∧ v = ((t : Int), mt) ∧ (Qt = Q ∨ Qt = rms Q 55 0 none) ∧ (0 < t → Qt = rms Q 55 0 none) ∧ MP s Qt It mt p b1 b2 src w h k kd st (t : Int) a1 a2 nt rc ∧ QF Q p I It m mt k) → (∃ u' v', (fun u : (Int × jH) => jd_16_s46 44 (some 43) (some src) rc x7 u.1 u.2) u = some (.inl u') ∧ (fun u : (Int × jM) => jd_291_s37 k st u.1 u.2) v = some (.inl v') ∧ t < x7.toNat ∧ (∃ (Qt : hQ) (It mt : jM) (nt : Int), u' = (((t + 1 : Nat) : Int), hh s Qt It) ∧ v' = (((t + 1 : Nat) : Int), mt) ∧ (Qt = Q ∨ Qt = rms Q 55 0 none) ∧ (0 < t + 1 → Qt = rms Q 55 0 none) ∧ MP s Qt It mt p b1 b2 src w h k kd st ((t + 1 : Nat) : Int) a1 a2 nt rc ∧ QF Q p I It m mt k)) ∨ (∃ x y, (fun u : (Int × jH) => jd_16_s46 44 (some 43) (some src) rc x7 u.1 u.2) u = some (.inr x) ∧ (fun u : (Int × jM) => jd_291_s37 k st u.1 u.2) v = some (.inr y) ∧ ∃ (I' : jM) (n' : Int), x = hh s (rms Q 55 0 none) I' ∧ MP s (rms Q 55 0 none) I' y p b1 b2 src w h k kd st x7 a1 a2 n' rc ∧ QF Q p I I' m y k) := by
    intro t u v ht J
    obtain ⟨Qt, It, mt, nt, rfl, rfl, hQ, hQ1, St, Ft⟩ := J
    have Lt : Lay s Qt hm := by
      rcases hQ with e | e
      · rw [e]; exact L
      · rw [e]; exact Lay_rms (k := 0) L rfl
    have rq : rms Qt 55 0 none = rms Q 55 0 none := by
      rcases hQ with e | e
      · rw [e]
      · rw [e, rms_rms]
    have q43 : Qt 43 = Q 43 := by
      rcases hQ with e | e
      · rw [e]
      · rw [e, rms_o (by decide)]
    show (∃ u' v', jd_16_s46 44 (some 43) (some src) rc x7 (t : Int) (hh s Qt It) = some (.inl u') ∧ jd_291_s37 k st (t : Int) mt = some (.inl v') ∧ t < x7.toNat ∧ _) ∨ (∃ x y, jd_16_s46 44 (some 43) (some src) rc x7 (t : Int) (hh s Qt It) = some (.inr x) ∧ jd_291_s37 k st (t : Int) mt = some (.inr y) ∧ _)
    obtain ⟨-, -, -, -, ⟨mw, mh, -⟩, -⟩ := id St
    have e238 : jd_238 mt = x7 := by
      unfold jd_238
      rw [mw, mh, hx7, n_div (z := w) (by rcases sw with rfl | rfl | rfl <;> decide) (by rcases sw with rfl | rfl | rfl <;> decide) (by decide) (by decide), n_div (z := h) (by rcases sh with rfl | rfl | rfl <;> decide) (by rcases sh with rfl | rfl | rfl <;> decide) (by decide) (by decide)]
    by_cases ct : (t : Int) < x7
    · obtain ⟨I', m', n', c1, c2, c3, c4⟩ := part1 (x7 := x7) Lt h6 St (by omega) (by rw [← hx7]; exact ct) hx7
      rw [rq] at c1 c3
      refine Or.inl ⟨_, ((t : Int) + 1, m'), c1, ?_, by omega, rms Q 55 0 none, I', m', n', by rw [show ((t + 1 : Nat) : Int) = (t : Int) + 1 by omega], by rw [show ((t + 1 : Nat) : Int) = (t : Int) + 1 by omega], Or.inr rfl, fun _ => rfl, by rw [show ((t + 1 : Nat) : Int) = (t : Int) + 1 by omega]; exact c3, QF_t q43 Ft c4⟩
      unfold jd_291_s37
      rw [e238, n_jw (z := x7) (by omega) (by omega), n_jw (z := (t : Int)) (by omega) (by omega), if_neg (by omega), c2, Option.bind_some]
    · have et : (t : Int) = x7 := by omega
      refine Or.inr ⟨hh s Qt It, mt, ?_, ?_, It, nt, by rw [hQ1 (by omega)], ?_, Ft⟩
      · unfold jd_16_s46
        rw [n_jw (z := x7) (by omega) (by omega), n_jw (z := (t : Int)) (by omega) (by omega), if_pos (by omega)]
      · unfold jd_291_s37
        rw [e238, n_jw (z := x7) (by omega) (by omega), n_jw (z := (t : Int)) (by omega) (by omega), if_pos (by omega)]
      · rw [← hQ1 (by omega), ← et]
        exact St
  unfold jd_16_l46 jd_291_l37
  obtain ⟨x, y, e1, e2, I', n', hx, S2, F2⟩ := w_lp2 (f := fun u : (Int × jH) => jd_16_s46 44 (some 43) (some src) rc x7 u.1 u.2) (g := fun u : (Int × jM) => jd_291_s37 k st u.1 u.2) (Q := fun x y => ∃ (I' : jM) (n' : Int), x = hh s (rms Q 55 0 none) I' ∧ MP s (rms Q 55 0 none) I' y p b1 b2 src w h k kd st x7 a1 a2 n' rc ∧ QF Q p I I' m y k) (fun t u v => ∃ (Qt : hQ) (It mt : jM) (nt : Int), u = ((t : Int), hh s Qt It) ∧ v = ((t : Int), mt) ∧ (Qt = Q ∨ Qt = rms Q 55 0 none) ∧ (0 < t → Qt = rms Q 55 0 none) ∧ MP s Qt It mt p b1 b2 src w h k kd st (t : Int) a1 a2 nt rc ∧ QF Q p I It m mt k) x7.toNat step (n_fu (by omega)) (n_fu (by omega)) (s0 := (0, hh s Q I)) (t0 := (0, m)) ⟨Q, I, m, 0, rfl, rfl, Or.inl rfl, fun h => absurd h (by omega), S, QF_refl⟩
  exact ⟨I', y, n', by rw [e1, hx], e2, S2, F2⟩
end PartsM
