/-! heads in the class: kinds that fit, places that fit -/
section HeadC
variable {s : hS} {Q : hQ} {hm : hO} {I m : jM} {a n : Nat} {f kd x T cod : Int}
/-- the heads so far in the class -/
def HdC (I : jM) (a n : Nat) (T cod : Int) : Prop := I a 0 = cod ∧ I a 4 = T ∧ (0 ≤ cod ∧ cod ≤ 2) ∧ ((n : Int) ≤ T ∧ 1 ≤ T ∧ T ≤ 12) ∧ (∀ j : Int, 0 ≤ j → j < n → (0 ≤ I (a + 1) j ∧ I (a + 1) j ≤ 2) ∧ 0 ≤ I (a + 2) j ∧ I (a + 2) j < T) ∧ (∀ x : Int, 0 ≤ x → x < 12 → okI (I (a + 6) x) ∧ (0 ≤ I (a + 6) x ↔ tkn (I (a + 2)) (n : Int) x)) ∧ (0 < n → 0 ≤ anc (I (a + 1)) 0 n ∧ ∀ j : Int, 0 ≤ j → j < n → I (a + 2) j ≤ I (a + 2) (anc (I (a + 1)) 0 n))
theorem c_33 (F : FilmAt s Q hm a f) (h6 : s.1 ≤ 1000000) (H : HdC I a n T cod) (hn : n < 12) (hk : I (a + 1) n = kd) (hk' : 0 ≤ kd ∧ kd ≤ 255) : ∃ e, jd_33 a (n : Int) (hh s Q I) = some e ∧ (e = 0 ∨ e = 1) ∧ (e = 1 ↔ kdOk (I (a + 1)) (I (a + 2)) T cod n kd) := by
  obtain ⟨c0, c4, cc, tt, kk, vv, mx⟩ := H
  have e7 := F_q F 0 7 rfl rfl
  have e8 := F_q F 1 8 rfl rfl
  have e12 := F_q F 5 12 rfl rfl
  have i0 : I a ((0 : Nat) : Int) = cod := c0
  have i4 : I a ((4 : Nat) : Int) = T := c4
  have hKo : ∀ j : Int, 0 ≤ j → j < (n : Int) → okI (I (a + 1) j) := fun j j0 j1 => by
    have := (kk j j0 j1).1
    unfold okI
    omega
  have a1 := c_35 (Q := Q) (hm := hm) F h6 (fr := 0) (N := (n : Int)) (by omega) hKo (by decide) (by decide) n (by omega)
  have r1 := anc_r (K := I (a + 1)) (fr := 0) n
  have r2 := anc_r (K := I (a + 1)) (fr := 0) (anc (I (a + 1)) 0 n).toNat
  generalize hK : I (a + 1) = K at *
  generalize hP : I (a + 2) = P at *
  generalize hV : I (a + 6) = V at *
  have a2 : 0 ≤ anc K 0 n → jd_35 a (anc K 0 n) 0 (hh s Q I) = some (anc K 0 (anc K 0 n).toNat) := fun h => by
    have := c_35 (I := I) (Q := Q) (hm := hm) F h6 (fr := 0) (N := (n : Int)) (by omega) (by rw [hK]; exact hKo) (by decide) (by decide) (anc K 0 n).toNat (by omega)
    rw [show (((anc K 0 n).toNat : Nat) : Int) = anc K 0 n by omega, hK] at this
    exact this
  have aiK : ∀ j : Int, 0 ≤ j → j < 12 → jai (hh s Q I) (a + (0 + 1)) j = some (K j) := fun j j0 j1 => by
    rw [← hK]
    exact F_ai F h6 1 12 rfl rfl rfl j0 (by omega)
  have aiP : ∀ j : Int, 0 ≤ j → j < 12 → jai (hh s Q I) (a + (1 + 1)) j = some (P j) := fun j j0 j1 => by
    rw [← hP]
    exact F_ai F h6 2 12 rfl rfl rfl j0 (by omega)
  have aiV : ∀ j : Int, 0 ≤ j → j < 12 → jai (hh s Q I) (a + (5 + 1)) j = some (V j) := fun j j0 j1 => by
    rw [← hV]
    exact F_ai F h6 6 12 rfl rfl rfl j0 (by omega)
  have no : ∀ {o : Option Int}, o = some 0 → ¬ kdOk K P T cod n kd → ∃ e, o = some e ∧ (e = 0 ∨ e = 1) ∧ (e = 1 ↔ kdOk K P T cod n kd) := fun h1 h2 => ⟨0, h1, Or.inl rfl, fun h => by omega, fun h => absurd h h2⟩
  have b49 : kd ≤ 2 → (n = 0 → kd = 0) → (cod = 1 → kd = 0) → (cod = 2 → kd ≠ 2) → ∃ e, jd_33_b49 a (n : Int) kd (hh s Q I) = some e ∧ (e = 0 ∨ e = 1) ∧ (e = 1 ↔ kdOk K P T cod n kd) := by
    intro g1 g2 g3 g4
    unfold jd_33_b49
    rw [F_ck F, Option.bind_some, a1, Option.bind_some, n_jw (z := kd) (by omega) (by omega)]
    by_cases ck : kd = 2
    · have n0 : 0 < n := by
        by_cases h : n = 0
        · have := g2 h
          omega
        · omega
      have A0 := (mx n0).1
      have pA := kk (anc K 0 n) A0 (by omega)
      rw [if_pos ck, Option.bind_some, a2 A0, Option.bind_some, n_jw (z := anc K 0 (anc K 0 n).toNat) (by omega) (by omega)]
      by_cases cb : 0 ≤ anc K 0 (anc K 0 n).toNat
      · have pB := kk (anc K 0 (anc K 0 n).toNat) cb (by omega)
        rw [if_pos cb, F_gr F, Option.bind_some, e8, Option.bind_some, aiP _ cb (by omega), Option.bind_some]
        generalize hA : anc K 0 n = A at *
        generalize hB : anc K 0 A.toNat = B at *
        have lp : ∃ e, jd_33_l115 a A 0 (P B + 1) (hh s Q I) = some e ∧ (e = 0 ∨ e = 1) ∧ (e = 1 ↔ ∃ x, P B < x ∧ x < P A ∧ ¬ tkn P (n : Int) x) := by
          unfold jd_33_l115
          refine w_lp (f := fun u : (Int × Int) => jd_33_s115 a A u.1 u.2 (hh s Q I)) (Q := fun e => (e = 0 ∨ e = 1) ∧ (e = 1 ↔ ∃ x, P B < x ∧ x < P A ∧ ¬ tkn P (n : Int) x)) (fun k u => u.2 = P B + 1 + (k : Int) ∧ (u.1 = 0 ∨ u.1 = 1) ∧ (k = 0 ∨ u.2 ≤ P A) ∧ (u.1 = 1 ↔ ∃ x, P B < x ∧ x < u.2 ∧ ¬ tkn P (n : Int) x)) 12 (fun k u hk' hI => ?_) (n_fu (by decide)) ⟨by dsimp only; omega, Or.inl rfl, Or.inl rfl, fun h => absurd (show (0 : Int) = 1 from h) (by decide), fun ⟨x, x0, x1, _⟩ => absurd x1 (by dsimp only; omega)⟩
          obtain ⟨u1, u2⟩ := u
          obtain ⟨q1, q2, q4, q3⟩ := hI
          dsimp only at q1 q2 q3 q4 ⊢
          unfold jd_33_s115 jd_33_b146
          rw [F_gr F, Option.bind_some, e8, Option.bind_some, aiP A A0 (by omega), Option.bind_some, n_jw (z := P A) (by omega) (by omega), n_jw (z := u2) (by omega) (by omega), n_jw (z := u1) (by omega) (by omega)]
          by_cases c : P A ≤ u2
          · rw [if_pos c]
            refine ⟨_, rfl, q2, ?_⟩
            rw [q3]
            refine ⟨fun ⟨x, x0, x1, x2⟩ => ?_, fun ⟨x, x0, x1, x2⟩ => ⟨x, x0, by omega, x2⟩⟩
            exact ⟨x, x0, by omega, x2⟩
          · have vx := vv u2 (by omega) (by omega)
            rw [if_neg c]
            by_cases c2 : u1 = 0
            · rw [if_pos c2, F_gr F, Option.bind_some, e12, Option.bind_some, aiV u2 (by omega) (by omega), Option.bind_some, n_jw vx.1.1 vx.1.2]
              refine ⟨_, rfl, by omega, by dsimp only; omega, by dsimp only; split <;> omega, Or.inr (by dsimp only; omega), ?_⟩
              dsimp only
              constructor
              · intro h
                by_cases cv : 0 ≤ V u2
                · rw [if_pos cv] at h
                  omega
                · exact ⟨u2, by omega, by omega, fun ht => cv (vx.2.mpr ht)⟩
              · rintro ⟨x, x0, x1, x2⟩
                by_cases ex : x = u2
                · subst ex
                  rw [if_neg (fun h => x2 (vx.2.mp h))]
                · have := q3.mpr ⟨x, x0, by omega, x2⟩
                  omega
            · rw [if_neg c2]
              refine ⟨_, rfl, by omega, by dsimp only; omega, Or.inr rfl, Or.inr (by dsimp only; omega), fun _ => ?_, fun _ => rfl⟩
              obtain ⟨x, x0, x1, x2⟩ := q3.mp (by omega)
              exact ⟨x, x0, by dsimp only; omega, x2⟩
        obtain ⟨e, e1, e2, e3⟩ := lp
        have fin : (e = 1 ↔ kdOk K P T cod n kd) := by
          rw [e3]
          unfold kdOk plOk
          rw [hA, hB]
          constructor
          · rintro ⟨x, x0, x1, x2⟩
            exact ⟨by omega, by omega, g2, g3, g4, fun _ => by omega, x, ⟨by omega, by omega⟩, x2, fun _ => ⟨x0, x1⟩, fun h => absurd ck h⟩
          · rintro ⟨-, -, -, -, -, -, x, -, x2, x3, -⟩
            exact ⟨x, (x3 ck).1, (x3 ck).2, x2⟩
        rw [e1, Option.bind_some]
        rcases e2 with rfl | rfl
        · exact ⟨0, rfl, Or.inl rfl, fin⟩
        · exact ⟨1, rfl, Or.inr rfl, fin⟩
      · rw [if_neg cb]
        exact no rfl (fun h => h.2.2.2.2.2.1 ck (by omega))
    · rw [if_neg ck, n_jw (z := anc K 0 n) (by omega) (by omega)]
      unfold jd_33_b85
      by_cases ca : anc K 0 n < 0
      · have n0 : n = 0 := by
          by_cases h : n = 0
          · exact h
          · have := (mx (by omega)).1
            omega
        rw [if_pos ca]
        refine ⟨1, rfl, Or.inr rfl, fun _ => ?_, fun _ => rfl⟩
        exact ⟨hk'.1, g1, g2, g3, g4, fun h => absurd h ck, 0, ⟨by omega, by omega⟩, fun ⟨j, j0, j1, _⟩ => by omega, fun h => absurd h ck, fun _ => Or.inl (by omega)⟩
      · have n0 : 0 < n := by omega
        have pA := kk (anc K 0 n) (by omega) (by omega)
        rw [if_neg ca, F_gr F, Option.bind_some, e8, Option.bind_some, aiP _ (by omega) (by omega), Option.bind_some, F_gi F, Option.bind_some, i4, n_jw (z := T - 1) (by omega) (by omega), n_jw (z := P (anc K 0 n)) (by omega) (by omega)]
        by_cases ct : T - 1 ≤ P (anc K 0 n)
        · rw [if_pos ct]
          refine no rfl (fun h => ?_)
          obtain ⟨x, x1, x2, x3, x4⟩ := h.2.2.2.2.2.2
          have := x4 ck
          omega
        · rw [if_neg ct]
          refine ⟨1, rfl, Or.inr rfl, fun _ => ?_, fun _ => rfl⟩
          refine ⟨hk'.1, g1, g2, g3, g4, fun h => absurd h ck, T - 1, ⟨by omega, by omega⟩, fun ⟨j, j0, j1, j2⟩ => ?_, fun h => absurd h ck, fun _ => Or.inr (by omega)⟩
          have := (mx n0).2 j j0 j1
          omega
  have b22 : kd ≤ 2 → (n = 0 → kd = 0) → ∃ e, jd_33_b22 a (n : Int) kd (hh s Q I) = some e ∧ (e = 0 ∨ e = 1) ∧ (e = 1 ↔ kdOk K P T cod n kd) := by
    intro g1 g2
    unfold jd_33_b22 jd_33_b34 jd_33_b47
    rw [F_gi F, Option.bind_some, i0, n_jw (z := cod) (by omega) (by omega), n_jw (z := kd) (by omega) (by omega)]
    by_cases c1 : cod = 1
    · rw [if_pos c1]
      by_cases c2 : kd = 0
      · rw [if_pos c2, Option.bind_some, n_jw (z := cod) (by omega) (by omega), if_neg (by omega)]
        exact b49 g1 g2 (fun _ => c2) (by omega)
      · rw [if_neg c2]
        exact no rfl (fun h => c2 (h.2.2.2.1 c1))
    · rw [if_neg c1, Option.bind_some, n_jw (z := cod) (by omega) (by omega)]
      by_cases c2 : cod = 2
      · rw [if_pos c2]
        by_cases c3 : kd = 2
        · rw [if_pos c3]
          exact no rfl (fun h => h.2.2.2.2.1 c2 c3)
        · rw [if_neg c3]
          exact b49 g1 g2 (by omega) (fun _ => c3)
      · rw [if_neg c2]
        exact b49 g1 g2 (by omega) (by omega)
  unfold jd_33 jd_33_b20
  rw [F_gr F, Option.bind_some, e7, Option.bind_some, aiK (n : Int) (by omega) (by omega), Option.bind_some, hk, n_jw (z := kd) (by omega) (by omega), n_jw (z := (n : Int)) (by omega) (by omega)]
  by_cases c1 : 2 < kd
  · rw [if_pos c1]
    exact no rfl (fun h => by have := h.2.1; omega)
  · rw [if_neg c1]
    by_cases c2 : (n : Int) = 0
    · rw [if_pos c2]
      by_cases c3 : kd = 0
      · rw [if_pos c3]
        exact b22 (by omega) (fun _ => c3)
      · rw [if_neg c3]
        exact no rfl (fun h => c3 (h.2.2.1 (by omega)))
    · rw [if_neg c2]
      exact b22 (by omega) (fun h => absurd h (by omega))
end HeadC
