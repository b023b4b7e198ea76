/-! filter: numbers, both sides -/
section FltNum
variable {s : hS} {Q : hQ} {hm : hO} {I0 m0 I m : jM} {a : Nat} {q n en p c A B K v : Int} {nd : Nat}
def dg (I0 : jM) (en p : Int) : Prop := p < en ∧ 48 ≤ tC I0 p ∧ tC I0 p ≤ 57
def vl (I0 : jM) (A : Int) : Nat → Int
  | 0 => 0
  | k + 1 => 10 * vl I0 A k + tC I0 (A + (k : Int)) - 48
theorem vl_s {k : Nat} : vl I0 A (k + 1) = 10 * vl I0 A k + tC I0 (A + (k : Int)) - 48 := rfl
/-- nd digits stand from A on, no more than five, and all if fewer -/
def Nd (I0 : jM) (en A : Int) (nd : Nat) : Prop := nd ≤ 5 ∧ (∀ k : Nat, k < nd → dg I0 en (A + (k : Int))) ∧ (nd < 5 → ¬ dg I0 en (A + (nd : Int)))
theorem nd_ex : ∃ nd, Nd I0 en A nd := by
  have : ∀ j : Nat, j ≤ 5 → (∀ k : Nat, k < 5 - j → dg I0 en (A + (k : Int))) → ∃ nd, Nd I0 en A nd := by
    intro j
    induction j with
    | zero => exact fun _ h => ⟨5, Nat.le_refl _, fun k hk => h k (by omega), fun h => absurd h (by omega)⟩
    | succ j ih =>
      intro hj h
      by_cases c : dg I0 en (A + ((5 - (j + 1) : Nat) : Int))
      · refine ih (by omega) (fun k hk => ?_)
        by_cases e : k = 5 - (j + 1)
        · rw [e]; exact c
        · exact h k (by omega)
      · exact ⟨5 - (j + 1), by omega, h, fun _ => c⟩
  exact this 5 (Nat.le_refl _) (fun k hk => absurd hk (by omega))
theorem vl_b (h : ∀ k : Nat, k < nd → dg I0 en (A + (k : Int))) (h5 : nd ≤ 5) : 0 ≤ vl I0 A nd ∧ vl I0 A nd ≤ 99999 := by
  have : ∀ k : Nat, k ≤ nd → 0 ≤ vl I0 A k ∧ vl I0 A k < 10 ^ k := by
    intro k
    induction k with
    | zero => exact fun _ => ⟨Int.le_refl _, by show (0 : Int) < 10 ^ 0; decide⟩
    | succ k ih =>
      intro hk
      obtain ⟨h1, h2⟩ := ih (by omega)
      obtain ⟨-, d1, d2⟩ := h k (by omega)
      rw [vl_s, Int.pow_succ]
      omega
  obtain ⟨h1, h2⟩ := this nd (Nat.le_refl _)
  refine ⟨h1, ?_⟩
  have : (10 : Int) ^ nd ≤ 100000 := by
    have h5' : nd = 0 ∨ nd = 1 ∨ nd = 2 ∨ nd = 3 ∨ nd = 4 ∨ nd = 5 := by omega
    rcases h5' with rfl | rfl | rfl | rfl | rfl | rfl <;> decide
  omega
theorem c_53 (X : Fx s Q hm a q n en I0 m0) (C : CS I0 a en p c I) : (dg I0 en p → jd_53 a (hh s Q I) = some 1) ∧ (¬ dg I0 en p → jd_53 a (hh s Q I) = some 0) := by
  have e := Fx_e X
  have q3 : Q a ((3 : Nat) : Int) = some 2 := X.2.2.2.1
  have i2 := CS_2 X C
  obtain ⟨c1, c2, c3, c4, c5, c6, c7, c8⟩ := C
  have e5 : I a ((5 : Nat) : Int) = p := c1
  have e4 : I a ((4 : Nat) : Int) = en := c3
  have tr := tC_r (I0 := I0) p
  have z0 : jd_53_b43 a (hh s Q I) = some 0 := rfl
  have hd : jd_53 a (hh s Q I) = if en ≤ p then some 0 else if tC I0 p < 48 then some 0 else jd_53_b44 a (if 57 < tC I0 p then 0 else 1) (hh s Q I) := by
    unfold jd_53
    rw [C_gi X, Option.bind_some, C_gi X, Option.bind_some, e5, e4, n_jw (z := en) (by omega) (by omega), n_jw (z := p) (by omega) (by omega), z0, C_gr X, Option.bind_some, q3, Option.bind_some, Option.bind_some, Option.bind_some, Option.bind_some]
    by_cases h : en ≤ p
    · rw [if_pos h, if_pos h]
    · rw [if_neg h, if_neg h, C_ab X i2 c7 (by omega), Option.bind_some, n_jw (z := tC I0 p) (by omega) (by omega)]
      by_cases h4 : tC I0 p < 48
      · rw [if_pos h4, if_pos h4]
      · rw [if_neg h4, if_neg h4, Option.bind_some, C_ab X i2 c7 (by omega), Option.bind_some, n_jw (z := tC I0 p) (by omega) (by omega)]
  rw [hd]
  unfold dg
  refine ⟨fun h => ?_, fun h => ?_⟩
  · rw [if_neg (by omega), if_neg (by omega), if_neg (by omega)]
    rfl
  · by_cases h1 : en ≤ p
    · rw [if_pos h1]
    · rw [if_neg h1]
      by_cases h2 : tC I0 p < 48
      · rw [if_pos h2]
      · rw [if_neg h2, if_pos (by omega)]
        rfl
theorem c_52l (X : Fx s Q hm a q n en I0 m0) (C : CS I0 a en A c I) (D : Nd I0 en A nd) : jd_52_l4 a 0 0 (hh s Q I) = some (vl I0 A nd, hh s Q (jms I a 5 (A + (nd : Int)))) := by
  have e := Fx_e X
  have q3 : Q a ((3 : Nat) : Int) = some 2 := X.2.2.2.1
  have a153 := X.2.1.1
  have i2 := CS_2 X C
  have A0 := C.2.2.2.2.2.2.1
  have A1 := C.2.2.2.2.2.2.2
  obtain ⟨d1, d2, d3⟩ := D
  have cs : ∀ k : Nat, k ≤ nd → CS I0 a en (A + (k : Int)) c (jms I a 5 (A + (k : Int))) := fun k hk => CS_p C (by omega) (by
    by_cases hk0 : k = 0
    · subst hk0; omega
    · have := (d2 (k - 1) (by omega)).1
      omega)
  unfold jd_52_l4
  have := w_for (f := fun u : (Int × Int × jH) => jd_52_s4 a u.1 u.2.1 u.2.2) (fun k => (vl I0 A k, (k : Int), hh s Q (jms I a 5 (A + (k : Int))))) nd (x := (vl I0 A nd, hh s Q (jms I a 5 (A + (nd : Int))))) (fun k hk => ?_) ?_ (n_fu (by omega))
  · have e0 : jms I a 5 (A + ((0 : Nat) : Int)) = I := by
      rw [show A + ((0 : Nat) : Int) = I a 5 by rw [C.1]; omega]
      exact jms_self
    try dsimp only at this
    rw [e0] at this
    exact this
  · try dsimp only
    unfold jd_52_s4
    have c' := cs k (by omega)
    have dk := d2 k hk
    have e5 : jms I a 5 (A + (k : Int)) a ((5 : Nat) : Int) = A + (k : Int) := jms_e
    have J3 : jms (jms I a 5 (A + (k : Int))) a ((5 : Nat) : Int) (A + (k : Int) + 1) = jms I a 5 (A + ((k + 1 : Nat) : Int)) := by
      rw [show A + ((k + 1 : Nat) : Int) = A + (k : Int) + 1 by omega]
      exact jms_jms
    rw [n_jw (z := (k : Int)) (by omega) (by omega), if_neg (by omega), C_ck X, Option.bind_some, (c_53 X c').1 dk, Option.bind_some, if_neg (show ¬ jw 1 = 0 by decide), C_gr X, Option.bind_some, q3, C_gi X, Option.bind_some, e5, Option.bind_some, C_ab X (by rw [jms_o (by omega)]; exact i2) (by omega) dk.1, Option.bind_some, Option.bind_some, C_pi X, Option.bind_some, J3, vl_s, show ((k + 1 : Nat) : Int) = (k : Int) + 1 by omega]
  · try dsimp only
    unfold jd_52_s4
    by_cases h5 : nd = 5
    · rw [h5, if_pos (by decide)]
    · rw [n_jw (z := (nd : Int)) (by omega) (by omega), if_neg (by omega), C_ck X, Option.bind_some, (c_53 X (cs nd (Nat.le_refl _))).2 (d3 (by omega)), Option.bind_some, if_pos (show jw 0 = 0 by decide)]
/-- readNumber -/
theorem c_52 (X : Fx s Q hm a q n en I0 m0) (C : CS I0 a en A c I) (D : Nd I0 en A nd) : ∃ I', CS I0 a en (A + (nd : Int)) (if c < 200 then c + 1 else c) I' ∧ (c < 200 → I' (a + 1) = jiu (I (a + 1)) c (1000 + vl I0 A nd)) ∧ (dg I0 en (A + (nd : Int)) → jd_52 a (hh s Q I) = some (0, hh s Q I')) ∧ (¬ dg I0 en (A + (nd : Int)) → jd_52 a (hh s Q I) = some (1, hh s Q I')) := by
  have A0 := C.2.2.2.2.2.2.1
  have A1 := C.2.2.2.2.2.2.2
  have le : A + (nd : Int) ≤ en := by
    by_cases h : nd = 0
    · subst h; omega
    · have := (D.2.1 (nd - 1) (by omega)).1
      omega
  have C1 := CS_p (A := A + (nd : Int)) C (by omega) le
  obtain ⟨I', h1, h2, h3⟩ := c_46 (v := 1000 + vl I0 A nd) X C1
  rw [jms_o (by omega)] at h3
  refine ⟨I', h2, h3, fun d => ?_, fun d => ?_⟩
  · unfold jd_52
    rw [c_52l X C D, Option.bind_some, C_ck X, Option.bind_some, h1, Option.bind_some, C_ck X, Option.bind_some, (c_53 X h2).1 d, Option.bind_some, if_neg (show ¬ jw 1 = 0 by decide)]
  · unfold jd_52
    rw [c_52l X C D, Option.bind_some, C_ck X, Option.bind_some, h1, Option.bind_some, C_ck X, Option.bind_some, (c_53 X h2).2 d, Option.bind_some, if_pos (show jw 0 = 0 by decide)]
theorem k_339 {v : Int} (h0 : -1 ≤ v) (h1 : v < 256) : jw (jd_339 v) = if 48 ≤ v ∧ v ≤ 57 then 1 else 0 := by
  unfold jd_339
  rw [n_jw (z := v) (by omega) (by omega)]
  exact x_in (by omega) (by omega) (by decide) (by decide) (by decide) (by decide)
theorem k_339y {v : Int} (h0 : 48 ≤ v % 256) (h1 : v % 256 ≤ 57) : jw (jd_339 (v % 256)) = 1 := by
  rw [k_339 (by omega) (by omega), if_pos (by omega)]
theorem k_339n {v : Int} (h0 : ¬ (48 ≤ v % 256 ∧ v % 256 ≤ 57)) : jw (jd_339 (v % 256)) = 0 := by
  rw [k_339 (by omega) (by omega), if_neg (by omega)]
/-- the model's digits -/
theorem k_342l (X : Fx s Q hm a q n en I0 m0) (h96 : m 76 96 = A) (h5 : m 76 5 = n) (h80 : m 80 = m0 80) (A0 : 0 ≤ A) (A1 : A ≤ en) (D : Nd I0 en A nd) : (dg I0 en (A + (nd : Int)) → jd_342_l16 0 0 m = some (.inl (jms m 76 96 (A + (nd : Int))))) ∧ (¬ dg I0 en (A + (nd : Int)) → jd_342_l16 0 0 m = some (.inr (vl I0 A nd, jms m 76 96 (A + (nd : Int))))) := by
  have e := Fx_e X
  have n4 := X.2.2.2.2.2.2.2.1
  have tx := X.2.2.2.2.2.2.2.2.2
  obtain ⟨d1, d2, d3⟩ := D
  have le : ∀ k : Nat, k ≤ nd → A + (k : Int) ≤ en := fun k hk => by
    by_cases h : k = 0
    · subst h; omega
    · have := (d2 (k - 1) (by omega)).1
      omega
  have J5 : ∀ z, jms m 76 96 z 76 5 = n := fun z => by rw [jms_i (by decide)]; exact h5
  have J96 : ∀ z, jms m 76 96 z 76 96 = z := fun z => jms_e
  have J80 : ∀ z i : Int, 0 ≤ i → i < en → jms m 76 96 z 80 i = tC I0 i % 256 := fun z i i0 i1 => by rw [jms_o (by decide), h80]; exact tx i i0 (by omega)
  have st : ∀ k : Nat, k < nd → jd_342_s16 (vl I0 A k) (k : Int) (jms m 76 96 (A + (k : Int))) = some (.inl (vl I0 A (k + 1), ((k + 1 : Nat) : Int), jms m 76 96 (A + ((k + 1 : Nat) : Int)))) := fun k hk => by
    obtain ⟨x1, x2, x3⟩ := d2 k hk
    have J3 : jms (jms m 76 96 (A + (k : Int))) 76 96 (A + (k : Int) + 1) = jms m 76 96 (A + ((k + 1 : Nat) : Int)) := by
      rw [show A + ((k + 1 : Nat) : Int) = A + (k : Int) + 1 by omega]
      exact jms_jms
    unfold jd_342_s16
    rw [J5, J96, n_jw (z := n) (by omega) (by omega), n_jw (z := A + (k : Int)) (by omega) (by omega), if_neg (by omega), if_neg (by omega), y_ma 80 4000 rfl rfl (by omega) (by omega), Option.bind_some, Option.bind_some, J80 _ _ (by omega) x1, k_339y (by omega) (by omega), if_neg (show ¬ (1 : Int) = 0 by decide), n_jw (z := (k : Int)) (by omega) (by omega), if_neg (by omega), Option.bind_some, J3, show tC I0 (A + (k : Int)) % 256 = tC I0 (A + (k : Int)) by omega, vl_s, show ((k + 1 : Nat) : Int) = (k : Int) + 1 by omega]
  have e0 : jms m 76 96 (A + ((0 : Nat) : Int)) = m := by
    rw [show A + ((0 : Nat) : Int) = m 76 96 by omega]
    exact jms_self
  have ln := le nd (Nat.le_refl _)
  unfold jd_342_l16
  refine ⟨fun d => ?_, fun d => ?_⟩
  · have h5n : nd = 5 := by
      by_cases h : nd < 5
      · exact absurd d (d3 h)
      · omega
    have := w_for (f := fun u : (Int × Int × jM) => jd_342_s16 u.1 u.2.1 u.2.2) (fun k => (vl I0 A k, (k : Int), jms m 76 96 (A + (k : Int)))) nd (x := .inl (jms m 76 96 (A + (nd : Int)))) st ?_ (n_fu (by omega))
    · try dsimp only at this
      rw [e0] at this
      exact this
    · try dsimp only
      obtain ⟨x1, x2, x3⟩ := d
      unfold jd_342_s16
      rw [J5, J96, n_jw (z := n) (by omega) (by omega), n_jw (z := A + (nd : Int)) (by omega) (by omega), if_neg (by omega), if_neg (by omega), y_ma 80 4000 rfl rfl (by omega) (by omega), Option.bind_some, J80 _ _ (by omega) x1, k_339y (by omega) (by omega), if_neg (show ¬ (1 : Int) = 0 by decide), h5n, if_pos (by decide)]
  · have := w_for (f := fun u : (Int × Int × jM) => jd_342_s16 u.1 u.2.1 u.2.2) (fun k => (vl I0 A k, (k : Int), jms m 76 96 (A + (k : Int)))) nd (x := .inr (vl I0 A nd, jms m 76 96 (A + (nd : Int)))) st ?_ (n_fu (by omega))
    · try dsimp only at this
      rw [e0] at this
      exact this
    · try dsimp only
      unfold jd_342_s16
      rw [J5, J96, n_jw (z := n) (by omega) (by omega), n_jw (z := A + (nd : Int)) (by omega) (by omega)]
      by_cases c1 : n ≤ A + (nd : Int)
      · rw [if_pos c1]
      · rw [if_neg c1]
        by_cases c2 : 200 ≤ A + (nd : Int)
        · rw [if_pos c2]
        · have tr := tC_r (I0 := I0) (A + (nd : Int))
          unfold dg at d
          rw [if_neg c2, y_ma 80 4000 rfl rfl (by omega) (by omega), Option.bind_some, J80 _ _ (by omega) (by omega), k_339n (by omega), if_pos rfl]
end FltNum
