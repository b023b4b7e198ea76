/-! making: all groups laid, class -/
section Walk
variable {s : hS} {Q : hQ} {hm : hO} {I m : jM} {a : Nat} {f n d T cod : Int} {G : Int → Int}
/-- where the i-th group begins -/
def gSt (G : Int → Int) : Nat → Int
  | 0 => 0
  | i + 1 => gSt G i + G (gSt G i)
def GSz (G : Int → Int) (T : Int) : Prop := ∀ p : Int, 0 ≤ p → p < T → 1 ≤ G p ∧ p + G p ≤ T
def Wk (G : Int → Int) (T : Int) (N : Nat) : Prop := (∀ i : Nat, i < N → gSt G i < T) ∧ gSt G N = T
theorem gSt_b (T0 : 0 ≤ T) (hG : GSz G T) : ∀ t : Nat, (∀ i : Nat, i < t → gSt G i < T) → (t : Int) ≤ gSt G t ∧ gSt G t ≤ T
  | 0, _ => ⟨by unfold gSt; omega, by unfold gSt; omega⟩
  | t + 1, h => by
    have e : gSt G (t + 1) = gSt G t + G (gSt G t) := rfl
    obtain ⟨h1, h2⟩ := gSt_b T0 hG t (fun i hi => h i (by omega))
    obtain ⟨h3, h4⟩ := hG (gSt G t) (by omega) (h t (by omega))
    rw [e]
    omega
theorem gSt_N (T0 : 0 ≤ T) (hG : GSz G T) : ∀ r t : Nat, t + r = T.toNat + 1 → (∀ i : Nat, i < t → gSt G i < T) → ∃ N : Nat, (N : Int) ≤ T ∧ Wk G T N
  | 0, t, e, h => by
    have := gSt_b T0 hG t h
    omega
  | r + 1, t, e, h => by
    have b := gSt_b T0 hG t h
    by_cases c : gSt G t < T
    · exact gSt_N T0 hG r (t + 1) (by omega) (fun i hi => by
        by_cases ei : i = t
        · rw [ei]; exact c
        · exact h i (by omega))
    · exact ⟨t, by omega, h, by omega⟩
theorem gSt_mono (hG : GSz G T) (T0 : 0 ≤ T) {N : Nat} (W : Wk G T N) {i : Nat} : ∀ j : Nat, i < j → j ≤ N → gSt G i + G (gSt G i) ≤ gSt G j
  | 0, h, _ => absurd h (by omega)
  | j + 1, h, hj => by
    by_cases c : i = j
    · rw [c]
      exact Int.le_refl _
    · have h1 := gSt_mono (i := i) hG T0 W j (by omega) (by omega)
      have hb := gSt_b T0 hG j (fun i hi => W.1 i (by omega))
      have h2 := hG (gSt G j) (by omega) (W.1 j (by omega))
      have e : gSt G (j + 1) = gSt G j + G (gSt G j) := rfl
      rw [e]
      omega
/-- the groups ahead of the t-th are laid -/
def Laid (I : jM) (a : Nat) (G : Int → Int) (d : Int) (t : Nat) : Prop := ∀ i : Nat, i < t → ∀ j : Int, 0 ≤ j → j < G (gSt G i) → I (a + 1) (gSt G i + j) = kkG (G (gSt G i)) d j ∧ I (a + 2) (gSt G i + j) = gSt G i + ssG (G (gSt G i)) d j
theorem walk_c (L : Lay s Q hm) (F : FilmAt s Q hm a f) (h6 : s.1 ≤ 1000000) (T0 : 0 ≤ T) (T1 : T ≤ 12) (i5 : I 42 5 = T) (hI : ∀ p : Int, 0 ≤ p → p < T → I 69 p = G p) (hG : GSz G T) (d0 : 0 ≤ d) (d1 : d ≤ 1000) {N : Nat} (W : Wk G T N) : ∃ I' : jM, jd_65_l73 42 (some a) cod d 0 0 (hh s Q I) = some (hh s Q I') ∧ Laid I' a G d N ∧ ∀ x : Nat, x ≠ a + 1 → x ≠ a + 2 → I' x = I x := by
  have N1 : (N : Int) ≤ T := by
    have := gSt_b T0 hG N W.1
    omega
  have a153 := F.1
  have step : ∀ (t : Nat) (u : Int × Int × jH), t ≤ N → (∃ It : jM, u = (gSt G t, (t : Int), hh s Q It) ∧ Laid It a G d t ∧ ∀ x : Nat, x ≠ a + 1 → x ≠ a + 2 → It x = I x) → wT ((fun u : (Int × Int × jH) => jd_65_s73 42 (some a) cod d u.1 u.2.1 u.2.2) u) (fun o => jse o (fun u' => t < N ∧ ∃ It : jM, u' = (gSt G (t + 1), ((t + 1 : Nat) : Int), hh s Q It) ∧ Laid It a G d (t + 1) ∧ ∀ x : Nat, x ≠ a + 1 → x ≠ a + 2 → It x = I x) (fun x => ∃ I' : jM, x = hh s Q I' ∧ Laid I' a G d N ∧ ∀ x : Nat, x ≠ a + 1 → x ≠ a + 2 → I' x = I x)) := by
    intro t u ht J
    obtain ⟨It, rfl, LA, fr⟩ := J
    have hb := gSt_b T0 hG t (fun i hi => W.1 i (by omega))
    have v5 : It 42 ((5 : Nat) : Int) = T := by rw [fr 42 (by omega) (by omega)]; exact i5
    have q7 : Q 42 ((7 : Nat) : Int) = some 69 := Lq L rfl
    dsimp only
    unfold jd_65_s73
    by_cases c : t = N
    · have e : gSt G t = T := by rw [c]; exact W.2
      refine ⟨.inr (hh s Q It), ?_, It, rfl, by rw [← c]; exact LA, fr⟩
      rw [y_gi L 42 4 rfl rfl, Option.bind_some, v5]
      by_cases c2 : jw T ≤ jw (t : Int)
      · rw [if_pos c2]
      · rw [if_neg c2, Option.bind_some, e, if_pos (Int.le_refl _)]
    · have tN : t < N := by omega
      have lt := W.1 t tN
      obtain ⟨g1, g2⟩ := hG (gSt G t) (by omega) lt
      have r69 : It 69 (gSt G t) = G (gSt G t) := by rw [fr 69 (by omega) (by omega)]; exact hI _ (by omega) lt
      obtain ⟨I', c1, -, c3, c4, c5⟩ := lay_c (I := It) (p := gSt G t) (g := gSt G t) (n := G (gSt G t)) (d := d) F (by omega) (by omega) g1 d0 d1
      have r69' : I' 69 (gSt G t) = G (gSt G t) := by rw [c4 69 (by omega) (by omega)]; exact r69
      have v5' : I' 42 ((5 : Nat) : Int) = T := by rw [c4 42 (by omega) (by omega)]; exact v5
      refine ⟨.inl (gSt G (t + 1), ((t + 1 : Nat) : Int), hh s Q I'), ?_, tN, I', rfl, fun i hi j j0 j1 => ?_, fun x xa xb => (c4 x xa xb).trans (fr x xa xb)⟩
      · rw [y_gi L 42 4 rfl rfl, Option.bind_some, v5, n_jw (z := T) (by omega) (by omega), n_jw (z := (t : Int)) (by omega) (by omega), if_neg (by omega), Option.bind_some, n_jw (z := gSt G t) (by omega) (by omega), n_jw (z := T) (by omega) (by omega), if_neg (by omega), y_gr L 42 4 rfl rfl, Option.bind_some, q7, Option.bind_some, y_ai L h6 69 12 rfl rfl rfl (by omega) (by omega), Option.bind_some, r69, c1, Option.bind_some, y_gr L 42 4 rfl rfl, Option.bind_some, q7, Option.bind_some, y_ai L h6 69 12 rfl rfl rfl (by omega) (by omega), Option.bind_some, r69']
        rfl
      · by_cases ei : i = t
        · rw [ei] at j1 ⊢
          exact c3 j j0 j1
        · have hm' := gSt_mono hG T0 W (i := i) t (by omega) (by omega)
          obtain ⟨z1, z2⟩ := c5 (gSt G i + j) (Or.inl (by omega))
          rw [z1, z2]
          exact LA i (by omega) j j0 j1
  unfold jd_65_l73
  obtain ⟨x, e, I', hx, h1, h2⟩ := w_lp (f := fun u : (Int × Int × jH) => jd_65_s73 42 (some a) cod d u.1 u.2.1 u.2.2) (Q := fun x => ∃ I' : jM, x = hh s Q I' ∧ Laid I' a G d N ∧ ∀ x : Nat, x ≠ a + 1 → x ≠ a + 2 → I' x = I x) (fun t u => ∃ It : jM, u = (gSt G t, (t : Int), hh s Q It) ∧ Laid It a G d t ∧ ∀ x : Nat, x ≠ a + 1 → x ≠ a + 2 → It x = I x) N step (n_fu (by omega)) (s0 := (0, 0, hh s Q I)) ⟨I, rfl, fun i hi => absurd hi (by omega), fun _ _ _ => rfl⟩
  exact ⟨I', by rw [e, hx], h1, h2⟩
end Walk
