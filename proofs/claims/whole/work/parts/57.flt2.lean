/-! apply: a filter's whole work at one sample -/
theorem jlp_i {S X : Type} {f : S → Option (S ⊕ X)} {n : Nat} {u v : S} (h : f u = some (.inl v)) : jlp f (n + 1) u = jlp f n v := by
  simp only [jlp, h]
theorem jlp_r {S X : Type} {f : S → Option (S ⊕ X)} {n : Nat} {u : S} {x : X} (h : f u = some (.inr x)) : jlp f (n + 1) u = some x := by
  simp only [jlp, h]
section FltRun
variable {s : hS} {Q : hQ} {hm : hO} {J J' m m' : jM} {a b : Nat} {f o p q x y t w h N : Int}
/-- all that a work at a sample stands on -/
def FEn (s : hS) (Q : hQ) (hm : hO) (J m : jM) (a b : Nat) (f o p w h : Int) : Prop := FltAt s Q hm a f ∧ s.1 ≤ 1000000 ∧ PicAt s Q hm b o ∧ o ≠ 520 + f ∧ J b 0 = w ∧ J b 1 = h ∧ isSd w ∧ isSd h ∧ FltC J m a f ∧ (0 ≤ f ∧ f < 8) ∧ (0 ≤ p ∧ p < 60) ∧ m 77 p = w ∧ m 78 p = h ∧ ∀ q k : Int, 0 ≤ q → q ≤ 2 → 0 ≤ k → k < pw w q * pw h q → J (b + 1) (pb w h q + k) = m 79 (864 * p + (pf q + k))
theorem ev_loop (E : FEn s Q hm J m a b f o p w h) (hq : 0 ≤ q ∧ q ≤ 2) (hx : 0 ≤ x ∧ x < pw w q) (hy : 0 ≤ y ∧ y < pw h q) {D : Int → Int} (dN : D (m 135 f) = 1) (dS : ∀ k : Int, 0 ≤ k → k < m 135 f → ari (m 136 (400 * f + k)) ≤ D k ∧ D (k + 1) = D k - ari (m 136 (400 * f + k)) + 1) (n : Nat) : ∀ (k : Nat) (S T : Int → Int), ((k + n : Nat) : Int) = m 135 f → D k ≤ k → (∀ j : Int, 0 ≤ j → j < D k → jw (S j) = jw (T j)) → ∀ fu fu' : Nat, n < fu → n < fu' → ∃ S' T' : Int → Int, jlp (fun u : (Int × Int × jH) => jd_56_s6 a (some b) q x y t u.1 u.2.1 u.2.2) fu (D k, (k : Int), hh s Q (ims J (a + 2) S)) = some (.inr (1, hh s Q (ims J (a + 2) S'))) ∧ jlp (fun u : (Int × Int × jM) => jd_345_s34 f p q x y t (pw w q) (pw h q) u.1 u.2.1 u.2.2) fu' (D k, 400 * f + (k : Int), ims m 140 T) = some (ims m 140 T') ∧ jw (S' 0) = jw (T' 0) := by
  obtain ⟨F, h6, A, ho, j0, j1, sw, sh, ⟨c1, c2, c3, c4, -⟩, f0, p0, m7, m8, X⟩ := E
  have n1 : b ≠ a + 2 := fun e => ho (A.2.1.2.2.2.symm.trans ((congrArg hm e).trans F.2.2.2.1.2.2.2))
  have n2 : b + 1 ≠ a + 2 := fun e => ho (A.2.2.1.2.2.2.symm.trans ((congrArg hm e).trans F.2.2.2.1.2.2.2))
  have g1 : ∀ S, ims J (a + 2) S b = J b := fun S => ims_o n1
  have g2 : ∀ S, ims J (a + 2) S (b + 1) = J (b + 1) := fun S => ims_o n2
  have g3 : ∀ S, ims J (a + 2) S a = J a := fun S => ims_o (by omega)
  have g4 : ∀ S, ims J (a + 2) S (a + 1) = J (a + 1) := fun S => ims_o (by omega)
  have g5 : ∀ (T : Int → Int) (x : Nat), x ≠ 140 → ims m 140 T x = m x := fun T x hx => ims_o hx
  induction n with
  | zero =>
    intro k S T hk hd hS fu fu' h1 h2
    obtain ⟨fu, rfl⟩ : ∃ j, fu = j + 1 := ⟨fu - 1, by omega⟩
    obtain ⟨fu', rfl⟩ : ∃ j, fu' = j + 1 := ⟨fu' - 1, by omega⟩
    have ek : (k : Int) = m 135 f := by omega
    have e1 : ims J (a + 2) S a ((1 : Nat) : Int) = m 135 f := by rw [g3]; exact c1
    have dk : D k = 1 := by rw [ek]; exact dN
    refine ⟨S, T, ?_, ?_, hS 0 (by omega) (by omega)⟩
    · refine jlp_r ?_
      dsimp only
      unfold jd_56_s6
      rw [x_gi F.2.1.1 F.2.1.2.1, Option.bind_some, e1, n_jw (z := m 135 f) (by omega) (by omega), n_jw (z := (k : Int)) (by omega) (by omega), if_pos (by omega), dk]
    · refine jlp_r ?_
      dsimp only
      unfold jd_345_s34
      have e2 : ims m 140 T 135 f = m 135 f := by rw [g5 T 135 (by decide)]
      rw [y_ma 135 8 rfl rfl f0.1 (by omega), Option.bind_some, e2, n_jw (by omega) (by omega), n_jw (by omega) (by omega), if_pos (by omega)]
  | succ n ih =>
    intro k S T hk hd hS fu fu' h1 h2
    obtain ⟨fu, rfl⟩ : ∃ j, fu = j + 1 := ⟨fu - 1, by omega⟩
    obtain ⟨fu', rfl⟩ : ∃ j, fu' = j + 1 := ⟨fu' - 1, by omega⟩
    obtain ⟨o1, o2, o3, o4⟩ := c4 k (by omega) (by omega)
    obtain ⟨d1, d2⟩ := dS k (by omega) (by omega)
    have ar : 0 ≤ ari (m 136 (400 * f + (k : Int))) := by
      unfold ari
      repeat' split
      all_goals omega
    have P : Fst s Q hm (ims J (a + 2) S) (ims m 140 T) a b f o p q x y (D k) (k : Int) w h (m 135 f) (m 136 (400 * f + (k : Int))) (m 137 (400 * f + (k : Int))) := by
      refine ⟨F, h6, A, by rw [g1]; exact j0, by rw [g1]; exact j1, sw, sh, hq, hx, hy, by rw [g3]; exact c1, ⟨by omega, by omega, by omega⟩, by rw [g4]; exact o4, f0, ?_, ?_, ?_, p0, ?_, ?_, ⟨d1, by omega⟩, fun j j0 j1 => ?_, fun j j0 j1 => ?_⟩
      · rw [g5 T 135 (by decide)]
      · rw [g5 T 136 (by decide)]
      · rw [g5 T 137 (by decide)]
      · rw [g5 T 77 (by decide)]; exact m7
      · rw [g5 T 78 (by decide)]; exact m8
      · rw [g2, g5 T 79 (by decide)]
        exact X q j hq.1 hq.2 j0 j1
      · rw [ims_e, ims_e]
        exact hS j j0 j1
    obtain ⟨V, V', v1, v2, v3⟩ := st_all (t := t) P o1 o2 o3
    rw [ims_jms] at v2 v3
    have e1 : D k - ari (m 136 (400 * f + (k : Int))) + 1 = D ((k + 1 : Nat) : Int) := by
      rw [show ((k + 1 : Nat) : Int) = (k : Int) + 1 by omega, d2]
    rw [e1, show (k : Int) + 1 = ((k + 1 : Nat) : Int) by omega] at v2
    rw [e1, show 400 * f + (k : Int) + 1 = 400 * f + ((k + 1 : Nat) : Int) by omega] at v3
    obtain ⟨S', T', r1, r2, r3⟩ := ih (k + 1) (jiu S (D k - ari (m 136 (400 * f + (k : Int)))) V) (jiu T (D k - ari (m 136 (400 * f + (k : Int)))) V') (by omega) (by omega) (fun j j0 j1 => by
      unfold jiu
      by_cases ej : j = D k - ari (m 136 (400 * f + (k : Int)))
      · rw [if_pos ej, if_pos ej]
        exact v1
      · rw [if_neg ej, if_neg ej]
        exact hS j j0 (by omega)) fu fu' (by omega) (by omega)
    exact ⟨S', T', (jlp_i v2).trans r1, (jlp_i v3).trans r2, r3⟩
theorem ev (E : FEn s Q hm J m a b f o p w h) (hq : 0 ≤ q ∧ q ≤ 2) (hx : 0 ≤ x ∧ x < pw w q) (hy : 0 ≤ y ∧ y < pw h q) : ∃ (V V' : Int) (S T : Int → Int), jd_56 a (some b) q x y t (hh s Q J) = some (V, hh s Q (ims J (a + 2) S)) ∧ jd_345 f p q x y t m = some (V', ims m 140 T) ∧ jw V = jw V' := by
  have hqo : okI q := by unfold okI; omega
  obtain ⟨F, h6, A, ho, j0, j1, sw, sh, ⟨c1, c2, c3, c4, D, d0, dN, dS⟩, f0, p0, m7, m8, X⟩ := id E
  obtain ⟨S, T, r1, r2, r3⟩ := ev_loop (t := t) E hq hx hy dN dS (m 135 f).toNat 0 (J (a + 2)) (m 140) (by omega) (by show D 0 ≤ 0; omega) (fun j j0 j1 => by
    have : D ((0 : Nat) : Int) = 0 := d0
    omega) jfu jfu (n_fu (n := (m 135 f).toNat) (by omega)) (n_fu (n := (m 135 f).toNat) (by omega))
  have d0' : D ((0 : Nat) : Int) = 0 := d0
  rw [d0', ims_self, show ((0 : Nat) : Int) = 0 from rfl] at r1
  rw [d0', ims_self, show ((0 : Nat) : Int) = 0 from rfl, Int.add_zero] at r2
  have e2 : Q a ((2 : Nat) : Int) = some (a + 2) := F.2.2.2.2.2
  refine ⟨S 0, T 0, S, T, ?_, ?_, r3⟩
  · unfold jd_56 jd_56_l6
    rw [r1, Option.bind_some]
    unfold jd_56_b415 jse
    dsimp only
    rw [if_pos (by decide), x_gr F.2.1.1 F.2.1.2.1, Option.bind_some, e2, Option.bind_some, x_ai F.2.2.2.1.1 h6 F.2.2.2.1.2.1 (by decide) (by rw [F.2.2.2.1.2.2.1]; decide) (by rw [F.2.2.2.1.2.2.1]; decide), Option.bind_some, ims_e]
  · unfold jd_345 jd_345_l34
    rw [y_ma 77 60 rfl rfl p0.1 (by omega), Option.bind_some, y_ma 78 60 rfl rfl p0.1 (by omega), Option.bind_some, m7, m8, k_206 hqo sw, k_206 hqo sh, r2, Option.bind_some, y_ma 140 420 rfl rfl (by decide) (by decide), Option.bind_some, ims_e]
/-- what the model finds at a sample -/
def evM (m : jM) (f p q x y t : Int) : Int := match jd_345 f p q x y t m with
  | some r => jw r.1
  | none => 0
theorem evM_e {r : Int × jM} (e : jd_345 f p q x y t m = some r) : evM m f p q x y t = jw r.1 := by
  unfold evM
  rw [e]
theorem ev_c (E : FEn s Q hm J m a b f o p w h) (hq : 0 ≤ q ∧ q ≤ 2) (hx : 0 ≤ x ∧ x < pw w q) (hy : 0 ≤ y ∧ y < pw h q) : ∃ (V : Int) (S : Int → Int), jd_56 a (some b) q x y t (hh s Q J) = some (V, hh s Q (ims J (a + 2) S)) ∧ jw V = evM m f p q x y t := by
  obtain ⟨V, V', S, T, e1, e2, e3⟩ := ev (t := t) E hq hx hy
  exact ⟨V, S, e1, by rw [evM_e e2]; exact e3⟩
theorem ev_m (E : FEn s Q hm J m a b f o p w h) (E' : FEn s Q hm J m' a b f o p w h) (hq : 0 ≤ q ∧ q ≤ 2) (hx : 0 ≤ x ∧ x < pw w q) (hy : 0 ≤ y ∧ y < pw h q) : ∃ (V : Int) (T : Int → Int), jd_345 f p q x y t m' = some (V, ims m' 140 T) ∧ jw V = evM m f p q x y t := by
  obtain ⟨V, V', S, T, e1, e2, e3⟩ := ev (t := t) E hq hx hy
  obtain ⟨W, W', S', T', g1, g2, g3⟩ := ev (t := t) E' hq hx hy
  rw [e1] at g1
  injection g1 with g1
  injection g1 with g4 g5
  refine ⟨W', T', g2, ?_⟩
  rw [evM_e e2, ← g3, ← g4]
  exact e3
end FltRun
