/-! heads in the model: taken places, places that fit, kinds that fit -/
def tkn (P : Int → Int) (n x : Int) : Prop := ∃ j : Int, 0 ≤ j ∧ j < n ∧ P j = x
def plOk (K P : Int → Int) (T : Int) (n : Nat) (kd x : Int) : Prop := (0 ≤ x ∧ x < T) ∧ ¬ tkn P (n : Int) x ∧ (kd = 2 → P (anc K 0 (anc K 0 n).toNat) < x ∧ x < P (anc K 0 n)) ∧ (kd ≠ 2 → anc K 0 n = -1 ∨ P (anc K 0 n) < x)
def kdOk (K P : Int → Int) (T cod : Int) (n : Nat) (kd : Int) : Prop := 0 ≤ kd ∧ kd ≤ 2 ∧ (n = 0 → kd = 0) ∧ (cod = 1 → kd = 0) ∧ (cod = 2 → kd ≠ 2) ∧ (kd = 2 → anc K 0 (anc K 0 n).toNat ≠ -1) ∧ ∃ x, plOk K P T n kd x
section HeadM
variable {m : jM} {n : Nat} {kd x T cod : Int}
/-- the heads so far in the model -/
def HdM (m : jM) (n : Nat) (T : Int) : Prop := m 76 35 = n ∧ m 76 36 = 0 ∧ ((n : Int) ≤ T ∧ T ≤ 12) ∧ ∀ j : Int, 0 ≤ j → j < n → (0 ≤ m 102 j ∧ m 102 j ≤ 2) ∧ 0 ≤ m 103 j ∧ m 103 j < T
theorem k_304 (H : HdM m n T) (hx : okI x) : ∃ e, jd_304 x m = some e ∧ (e = 0 ∨ e = 1) ∧ (e = 1 ↔ tkn (m 103) (n : Int) x) := by
  obtain ⟨h1, h2, h3, h4⟩ := H
  have key : ∃ e, jd_304_l4 x 0 0 m = some e ∧ (e = 0 ∨ e = 1) ∧ (e = 1 ↔ tkn (m 103) (n : Int) x) := by
    unfold jd_304_l4
    refine w_lp (f := fun u : (Int × Int) => jd_304_s4 x u.1 u.2 m) (Q := fun e => (e = 0 ∨ e = 1) ∧ (e = 1 ↔ tkn (m 103) (n : Int) x)) (fun k u => u.2 = (k : Int) ∧ (u.1 = 0 ∨ u.1 = 1) ∧ (u.1 = 1 ↔ tkn (m 103) (k : Int) x)) n (fun k u hk hI => ?_) (n_fu (by omega)) ⟨rfl, Or.inl rfl, fun h => absurd h (by decide), fun ⟨j, j0, j1, j2⟩ => absurd j1 (by omega)⟩
    obtain ⟨u1, u2⟩ := u
    obtain ⟨g1, g2, g3⟩ := hI
    dsimp only at g1 g2 g3 ⊢
    subst g1
    unfold jd_304_s4 jd_304_b31
    rw [h1, n_jw (z := (n : Int)) (by omega) (by omega), n_jw (z := (k : Int)) (by omega) (by omega), n_jw (z := u1) (by omega) (by omega)]
    by_cases c : (n : Int) ≤ (k : Int)
    · rw [if_pos c]
      rw [show (k : Int) = (n : Int) by omega] at g3
      exact ⟨_, rfl, g2, g3⟩
    · have b := h4 k (by omega) (by omega)
      rw [if_neg c]
      by_cases c2 : u1 = 0
      · rw [if_pos c2, y_ma 103 12 rfl rfl (by omega) (by omega), Option.bind_some, n_jw (z := m 103 (k : Int)) (by omega) (by omega), n_jw hx.1 hx.2]
        refine ⟨_, rfl, by omega, by dsimp only; omega, by dsimp only; split <;> omega, ?_⟩
        dsimp only
        constructor
        · intro h
          by_cases e : m 103 (k : Int) = x
          · exact ⟨k, by omega, by omega, e⟩
          · rw [if_neg e] at h
            omega
        · rintro ⟨j, j0, j1, j2⟩
          by_cases ej : j = k
          · subst ej
            rw [if_pos j2]
          · have := g3.mpr ⟨j, j0, by omega, j2⟩
            omega
      · rw [if_neg c2]
        refine ⟨_, rfl, by omega, by dsimp only; omega, Or.inr rfl, fun _ => ?_, fun _ => rfl⟩
        obtain ⟨j, j0, j1, j2⟩ := g3.mp (by omega)
        exact ⟨j, j0, by omega, j2⟩
  obtain ⟨e, e1, e2, e3⟩ := key
  refine ⟨e, ?_, e2, e3⟩
  unfold jd_304
  rw [e1, Option.bind_some]
  rcases e2 with rfl | rfl
  · rfl
  · rfl
theorem k_305 (H : HdM m n T) (hx : -1 ≤ x ∧ x ≤ 255) (hk : okI kd) (h2' : kd = 2 → anc (m 102) 0 (anc (m 102) 0 n).toNat ≠ -1) : ∃ e, jd_305 kd x T m = some e ∧ (e = 0 ∨ e = 1) ∧ (e = 1 ↔ plOk (m 102) (m 103) T n kd x) := by
  obtain ⟨e, e1, e2, e3⟩ := k_304 (x := x) H (by unfold okI; omega)
  obtain ⟨h1, h2, h3, h4⟩ := id H
  obtain ⟨a1, a2⟩ := k_239 (m := m) h2 (by decide) (by decide) (N := (n : Int)) (by omega) (fun j j0 j1 => by have := (h4 j j0 j1).1; unfold okI; omega) n (by omega)
  have r1 := anc_r (K := m 102) (fr := 0) n
  have r2 := anc_r (K := m 102) (fr := 0) (anc (m 102) 0 n).toNat
  generalize hA : anc (m 102) 0 n = A at *
  generalize hB : anc (m 102) 0 A.toNat = B at *
  have up : plOk (m 102) (m 103) T n kd x ↔ (0 ≤ x ∧ x < T) ∧ ¬ tkn (m 103) (n : Int) x ∧ (kd = 2 → m 103 B < x ∧ x < m 103 A) ∧ (kd ≠ 2 → A = -1 ∨ m 103 A < x) := by
    unfold plOk
    rw [hA, hB]
  unfold jd_305 jd_305_b21
  rw [n_jw (z := x) (by omega) (by omega), n_jw (z := T - 1) (by omega) (by omega), x_in (by omega) (by omega) (by decide) (by decide) (by omega) (by omega), h1]
  by_cases c1 : 0 ≤ x ∧ x < T
  · rw [if_pos (show 0 ≤ x ∧ x ≤ T - 1 by omega), if_neg (by decide), e1, Option.bind_some, n_jw (z := e) (by omega) (by omega)]
    by_cases c2 : e = 0
    · have nt : ¬ tkn (m 103) (n : Int) x := fun h => by have := e3.mpr h; omega
      rw [if_pos c2, a1, Option.bind_some, n_jw hk.1 hk.2]
      by_cases c3 : kd = 2
      · have hb := h2' c3
        have pB := h4 B (by omega) (by omega)
        have pA := h4 A (by omega) (by omega)
        rw [if_pos c3, a2, Option.bind_some, y_ma 103 12 rfl rfl (by omega) (by omega), Option.bind_some, n_jw (z := m 103 B) (by omega) (by omega)]
        by_cases c4 : x ≤ m 103 B
        · rw [if_pos c4]
          exact ⟨0, rfl, Or.inl rfl, fun h => by omega, fun h => by have := (up.mp h).2.2.1 c3; omega⟩
        · rw [if_neg c4, y_ma 103 12 rfl rfl (by omega) (by omega), Option.bind_some, n_jw (z := m 103 A) (by omega) (by omega)]
          by_cases c5 : m 103 A ≤ x
          · rw [if_pos c5]
            exact ⟨0, rfl, Or.inl rfl, fun h => by omega, fun h => by have := (up.mp h).2.2.1 c3; omega⟩
          · rw [if_neg c5]
            exact ⟨1, rfl, Or.inr rfl, fun _ => up.mpr ⟨c1, nt, fun _ => ⟨by omega, by omega⟩, fun h => absurd c3 h⟩, fun _ => rfl⟩
      · rw [if_neg c3, n_jw (z := A) (by omega) (by omega)]
        by_cases c4 : A = -1
        · rw [if_pos c4]
          exact ⟨1, rfl, Or.inr rfl, fun _ => up.mpr ⟨c1, nt, fun h => absurd h c3, fun _ => Or.inl c4⟩, fun _ => rfl⟩
        · have pA := h4 A (by omega) (by omega)
          rw [if_neg c4, y_ma 103 12 rfl rfl (by omega) (by omega), Option.bind_some, n_jw (z := m 103 A) (by omega) (by omega)]
          by_cases c5 : x ≤ m 103 A
          · rw [if_pos c5]
            exact ⟨0, rfl, Or.inl rfl, fun h => by omega, fun h => by have := (up.mp h).2.2.2 c3; omega⟩
          · rw [if_neg c5]
            exact ⟨1, rfl, Or.inr rfl, fun _ => up.mpr ⟨c1, nt, fun h => absurd h c3, fun _ => Or.inr (by omega)⟩, fun _ => rfl⟩
    · rw [if_neg c2]
      exact ⟨0, rfl, Or.inl rfl, fun h => by omega, fun h => absurd (e3.mp (by omega)) (up.mp h).2.1⟩
  · rw [if_neg (show ¬ (0 ≤ x ∧ x ≤ T - 1) by omega), if_pos rfl]
    exact ⟨0, rfl, Or.inl rfl, fun h => by omega, fun h => absurd (up.mp h).1 c1⟩
theorem k_306 (H : HdM m n T) (hc : m 76 32 = cod) (hc' : 0 ≤ cod ∧ cod ≤ 2) (hk : -1 ≤ kd ∧ kd ≤ 255) : ∃ e, jd_306 kd T m = some e ∧ (e = 0 ∨ e = 1) ∧ (e = 1 ↔ kdOk (m 102) (m 103) T cod n kd) := by
  obtain ⟨h1, h2, h3, h4⟩ := id H
  obtain ⟨a1, a2⟩ := k_239 (m := m) h2 (by decide) (by decide) (N := (n : Int)) (by omega) (fun j j0 j1 => by have := (h4 j j0 j1).1; unfold okI; omega) n (by omega)
  have r1 := anc_r (K := m 102) (fr := 0) n
  have r2 := anc_r (K := m 102) (fr := 0) (anc (m 102) 0 n).toNat
  have hko : okI kd := by unfold okI; omega
  have b68 : (kd = 2 → anc (m 102) 0 (anc (m 102) 0 n).toNat ≠ -1) → ∃ e, jd_306_b68 kd T m = some e ∧ (e = 0 ∨ e = 1) ∧ (e = 1 ↔ ∃ x, plOk (m 102) (m 103) T n kd x) := by
    intro h2'
    have key : ∃ e, jd_306_l73 kd T 0 0 m = some e ∧ (e = 0 ∨ e = 1) ∧ (e = 1 ↔ ∃ x, x < T ∧ plOk (m 102) (m 103) T n kd x) := by
      unfold jd_306_l73
      refine w_lp (f := fun u : (Int × Int) => jd_306_s73 kd T u.1 u.2 m) (Q := fun e => (e = 0 ∨ e = 1) ∧ (e = 1 ↔ ∃ x, x < T ∧ plOk (m 102) (m 103) T n kd x)) (fun k u => u.2 = (k : Int) ∧ (u.1 = 0 ∨ u.1 = 1) ∧ (u.1 = 1 ↔ ∃ x, x < (k : Int) ∧ plOk (m 102) (m 103) T n kd x)) T.toNat (fun k u hk' hI => ?_) (n_fu (n := T.toNat) (by omega)) ⟨rfl, Or.inl rfl, fun h => absurd h (by decide), fun ⟨x, x0, x1⟩ => absurd x1.1.1 (by omega)⟩
      obtain ⟨u1, u2⟩ := u
      obtain ⟨g1, g2, g3⟩ := hI
      dsimp only at g1 g2 g3 ⊢
      subst g1
      unfold jd_306_s73 jd_306_b99
      rw [n_jw (z := T) (by omega) (by omega), n_jw (z := (k : Int)) (by omega) (by omega), n_jw (z := u1) (by omega) (by omega)]
      by_cases c : T ≤ (k : Int)
      · rw [if_pos c]
        rw [show (k : Int) = T by omega] at g3
        exact ⟨_, rfl, g2, g3⟩
      · rw [if_neg c]
        by_cases c2 : u1 = 0
        · obtain ⟨e, e1, e2, e3⟩ := k_305 (x := (k : Int)) H (by omega) hko h2'
          rw [if_pos c2, e1, Option.bind_some, n_jw (z := e) (by omega) (by omega)]
          refine ⟨_, rfl, by omega, by dsimp only; omega, by dsimp only; split <;> omega, ?_⟩
          dsimp only
          constructor
          · intro h
            by_cases ee : e = 0
            · rw [if_pos ee] at h
              omega
            · exact ⟨k, by omega, e3.mp (by omega)⟩
          · rintro ⟨x, x0, x1⟩
            by_cases ex : x = k
            · subst ex
              have := e3.mpr x1
              rw [if_neg (by omega)]
            · have := g3.mpr ⟨x, by omega, x1⟩
              omega
        · rw [if_neg c2]
          refine ⟨_, rfl, by omega, by dsimp only; omega, Or.inr rfl, fun _ => ?_, fun _ => rfl⟩
          obtain ⟨x, x0, x1⟩ := g3.mp (by omega)
          exact ⟨x, by omega, x1⟩
    obtain ⟨e, e1, e2, e3⟩ := key
    refine ⟨e, ?_, e2, ?_⟩
    · unfold jd_306_b68
      rw [e1, Option.bind_some]
      rcases e2 with rfl | rfl
      · rfl
      · rfl
    · rw [e3]
      exact ⟨fun ⟨x, _, x1⟩ => ⟨x, x1⟩, fun ⟨x, x1⟩ => ⟨x, x1.1.2, x1⟩⟩
  have no : ∀ {o : Option Int}, o = some 0 → ¬ kdOk (m 102) (m 103) T cod n kd → ∃ e, o = some e ∧ (e = 0 ∨ e = 1) ∧ (e = 1 ↔ kdOk (m 102) (m 103) T cod n kd) := fun h1 h2 => ⟨0, h1, Or.inl rfl, fun h => by omega, fun h => absurd h h2⟩
  have e48 : (0 ≤ kd ∧ kd ≤ 2) → (n = 0 → kd = 0) → (cod = 1 → kd = 0) → (cod = 2 → kd ≠ 2) → ∃ e, jd_306_b48 kd T m = some e ∧ (e = 0 ∨ e = 1) ∧ (e = 1 ↔ kdOk (m 102) (m 103) T cod n kd) := by
    intro g1 g2 g3 g4
    unfold jd_306_b48
    rw [n_jw hko.1 hko.2, h1]
    by_cases c : kd = 2
    · rw [if_pos c, a2, Option.bind_some, n_jw (z := anc (m 102) 0 (anc (m 102) 0 n).toNat) (by omega) (by omega)]
      by_cases c2 : anc (m 102) 0 (anc (m 102) 0 n).toNat = -1
      · rw [if_pos c2]
        exact no rfl (fun h => h.2.2.2.2.2.1 c c2)
      · rw [if_neg c2]
        obtain ⟨e, e1, e2, e3⟩ := b68 (fun _ => c2)
        exact ⟨e, e1, e2, e3.trans ⟨fun h => ⟨g1.1, g1.2, g2, g3, g4, fun _ => c2, h⟩, fun h => h.2.2.2.2.2.2⟩⟩
    · rw [if_neg c]
      obtain ⟨e, e1, e2, e3⟩ := b68 (fun h => absurd h c)
      exact ⟨e, e1, e2, e3.trans ⟨fun h => ⟨g1.1, g1.2, g2, g3, g4, fun h => absurd h c, h⟩, fun h => h.2.2.2.2.2.2⟩⟩
  have e21 : (0 ≤ kd ∧ kd ≤ 2) → (n = 0 → kd = 0) → ∃ e, jd_306_b21 kd T m = some e ∧ (e = 0 ∨ e = 1) ∧ (e = 1 ↔ kdOk (m 102) (m 103) T cod n kd) := by
    intro g1 g2
    unfold jd_306_b21 jd_306_b33 jd_306_b46
    rw [hc, n_jw (z := cod) (by omega) (by omega), n_jw hko.1 hko.2]
    by_cases c1 : cod = 1
    · rw [if_pos c1]
      by_cases c2 : kd = 0
      · rw [if_pos c2, if_neg (by omega)]
        exact e48 g1 g2 (fun _ => c2) (by omega)
      · rw [if_neg c2]
        exact no rfl (fun h => c2 (h.2.2.2.1 c1))
    · rw [if_neg c1]
      by_cases c2 : cod = 2
      · rw [if_pos c2]
        by_cases c3 : kd = 2
        · rw [if_pos c3]
          exact no rfl (fun h => h.2.2.2.2.1 c2 c3)
        · rw [if_neg c3]
          exact e48 g1 g2 (by omega) (fun _ => c3)
      · rw [if_neg c2]
        exact e48 g1 g2 (by omega) (by omega)
  unfold jd_306 jd_306_b46
  rw [n_jw hko.1 hko.2, h1, n_jw (z := (n : Int)) (by omega) (by omega)]
  by_cases c1 : kd = -1
  · rw [if_pos c1]
    exact no rfl (fun h => by have := h.1; omega)
  · rw [if_neg c1]
    by_cases c2 : 2 < kd
    · rw [if_pos c2]
      exact no rfl (fun h => by have := h.2.1; omega)
    · rw [if_neg c2]
      by_cases c3 : (n : Int) = 0
      · rw [if_pos c3]
        by_cases c4 : kd = 0
        · rw [if_pos c4]
          exact e21 (by omega) (fun _ => c4)
        · rw [if_neg c4]
          exact no rfl (fun h => c4 (h.2.2.1 (by omega)))
      · rw [if_neg c3]
        exact e21 (by omega) (fun h => absurd h (by omega))
end HeadM
