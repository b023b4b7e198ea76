/-! films: what the calls share -/
/-- no n + 1 numbers below n are all different -/
theorem pig0 : ∀ (n : Nat) (f : Int → Int), (∀ k : Int, 0 ≤ k → k < (n : Int) + 1 → 0 ≤ f k ∧ f k < n) → (∀ j k : Int, 0 ≤ j → j < k → k < (n : Int) + 1 → f j ≠ f k) → False := by
  intro n
  induction n with
  | zero =>
    intro f h1 _
    have := h1 0 (by omega) (by omega)
    omega
  | succ n ih =>
    intro f h1 h2
    have hv := h1 ((n : Int) + 1) (by omega) (by omega)
    refine ih (fun k => if f k = n then f ((n : Int) + 1) else f k) (fun k k0 k1 => ?_) (fun j k j0 jk k1 => ?_)
    · have a := h1 k k0 (by omega)
      have b := h2 k ((n : Int) + 1) k0 (by omega) (by omega)
      split <;> omega
    · have a := h2 j k j0 jk (by omega)
      have b := h2 j ((n : Int) + 1) j0 (by omega) (by omega)
      have c := h2 k ((n : Int) + 1) (by omega) (by omega) (by omega)
      split <;> split <;> omega
theorem pig {n : Int} {f : Int → Int} (h1 : ∀ k : Int, 0 ≤ k → k < n → 0 ≤ f k ∧ f k < n) (h2 : ∀ j k : Int, 0 ≤ j → j < k → k < n → f j ≠ f k) {p : Int} (p0 : 0 ≤ p) (p1 : p < n) : ∃ k : Int, 0 ≤ k ∧ k < n ∧ f k = p := by
  refine Classical.byContradiction (fun hno => ?_)
  have hno' : ∀ k : Int, 0 ≤ k → k < n → f k ≠ p := fun k k0 k1 e => hno ⟨k, k0, k1, e⟩
  refine pig0 (n - 1).toNat (fun k => if f k = n - 1 then p else f k) (fun k k0 k1 => ?_) (fun j k j0 jk k1 => ?_)
  · have a := h1 k k0 (by omega)
    have b := hno' k k0 (by omega)
    split <;> omega
  · have a := h2 j k j0 jk (by omega)
    have b := hno' j j0 (by omega)
    have c := hno' k (by omega) (by omega)
    split <;> split <;> omega
section Films
variable {s : hS} {Q R : hQ} {hm : hO} {I m : jM} {a : Nat} {f p q x y v z : Int} {k : Nat}
theorem F_gi (F : FilmAt s Q hm a f) : jgi (hh s R I) a 2 k = some (I a (k : Int)) := x_gi (F.2.1 0 (by decide)).1 (F.2.1 0 (by decide)).2.1
theorem F_gr (F : FilmAt s Q hm a f) : jgr (hh s R I) a 2 k = some (R a (k : Int)) := x_gr (F.2.1 0 (by decide)).1 (F.2.1 0 (by decide)).2.1
theorem F_ck (F : FilmAt s Q hm a f) : jck (hh s R I) a 2 = some () := x_ck (F.2.1 0 (by decide)).1 (F.2.1 0 (by decide)).2.1
theorem F_pi (F : FilmAt s Q hm a f) : jpi (hh s R I) a 2 k v = some (hh s R (jms I a (k : Int) v)) := x_pi (F.2.1 0 (by decide)).1 (F.2.1 0 (by decide)).2.1
theorem F_pr {r : Option Nat} (F : FilmAt s Q hm a f) : jpr (hh s R I) a 2 k r = some (hh s (rms R a (k : Int) r) I) := x_pr (F.2.1 0 (by decide)).1 (F.2.1 0 (by decide)).2.1
theorem F_q (F : FilmAt s Q hm a f) (j k : Nat) (hj : Nat.blt j 12 = true) (e : j + 7 = k) : Q a (k : Int) = some (a + (j + 1)) := by
  subst e
  exact F.2.2.1 j (Nat.le_of_ble_eq_true hj)
theorem F_ai (F : FilmAt s Q hm a f) (h6 : s.1 ≤ 1000000) (j n : Nat) (hj : Nat.blt j 13 = true) (e : fTag j = (0, n)) (hn : Nat.ble n 1000000 = true) (h0 : 0 ≤ z) (h1 : z < (n : Int)) : jai (hh s R I) (a + j) z = some (I (a + j) z) := by
  obtain ⟨c1, c2, c3, -⟩ := F.2.1 j (Nat.le_of_ble_eq_true hj)
  rw [e] at c2 c3
  exact x_ai c1 h6 c2 h0 (by rw [c3]; exact h1) (by rw [c3]; exact Nat.le_of_ble_eq_true hn)
theorem F_az (F : FilmAt s Q hm a f) (j n : Nat) (hj : Nat.blt j 13 = true) (e : fTag j = (2, n)) (hn : Nat.ble n 1000000 = true) (h0 : 0 ≤ z) (h1 : z < (n : Int)) : jaz (hh s R I) (a + j) z = some (I (a + j) z % 2) := by
  obtain ⟨c1, c2, c3, -⟩ := F.2.1 j (Nat.le_of_ble_eq_true hj)
  rw [e] at c2 c3
  exact x_az c1 c2 h0 (by rw [c3]; exact h1) (by rw [c3]; exact Nat.le_of_ble_eq_true hn)
theorem F_ar (F : FilmAt s Q hm a f) (h0 : 0 ≤ z) (h1 : z < 12) : jar (hh s R I) (a + 9) 6 z = some (R (a + 9) z) := by
  obtain ⟨c1, c2, c3, -⟩ := F.2.1 9 (by decide)
  have c3' : s.2.2.2 (a + 9) = 12 := c3
  exact x_ar c1 c2 h0 (by rw [c3']; exact h1) (by rw [c3']; decide)
theorem F_ta (F : FilmAt s Q hm a f) (j t n : Nat) (hj : Nat.blt j 13 = true) (e : fTag j = (t, n)) (hn : Nat.ble n 1000000 = true) (h0 : 0 ≤ z) (h1 : z < (n : Int)) : jta (hh s R I) (a + j) t z v = some (hh s R (jms I (a + j) z v)) := by
  obtain ⟨c1, c2, c3, -⟩ := F.2.1 j (Nat.le_of_ble_eq_true hj)
  rw [e] at c2 c3
  exact x_ta c1 c2 h0 (by rw [c3]; exact h1) (by rw [c3]; exact Nat.le_of_ble_eq_true hn)
/-- filmAt -/
theorem c_195 (R : RelH s Q hm I m) (hp : okI f) (h0 : 0 ≤ f) (h1 : f < m 76 12) : ∃ a, jd_195 0 f (hh s Q I) = some (.inl a, hh s Q I) ∧ Q 5 f = some a ∧ FilmAt s Q hm a f ∧ FilmC s Q I m a f := by
  have L := R.1
  obtain ⟨t1, t2, t3, t4, t5⟩ := id R.2.2.2.2.2.1
  obtain ⟨a, ha, C⟩ := t5 f h0 h1
  refine ⟨a, ?_, ha, t4 f h0 (by omega) a ha, C⟩
  have e1 : I 0 ((8 : Nat) : Int) = m 76 12 := t1
  have e2 : Q 0 ((7 : Nat) : Int) = some 5 := Lq L rfl
  unfold jd_195
  rw [n_jw hp.1 hp.2, if_neg (by omega), y_gi L 0 11 rfl rfl, Option.bind_some, e1, n_jw (z := m 76 12) (by omega) (by omega), if_pos h1, y_gr L 0 11 rfl rfl, Option.bind_some, e2, Option.bind_some, y_ar L 5 4 8 rfl rfl rfl h0 (by omega), Option.bind_some, ha, Option.bind_some]
theorem c_195n (R : RelH s Q hm I m) (h6 : s.1 < 1000000) (hp : okI f) (hn : ¬ (0 ≤ f ∧ f < m 76 12)) : jd_195 0 f (hh s Q I) = some (.inr 2, jth (hh s Q I) 2) := by
  have L := R.1
  obtain ⟨t1, t2, t3, t4, t5⟩ := id R.2.2.2.2.2.1
  have e1 : I 0 ((8 : Nat) : Int) = m 76 12 := t1
  unfold jd_195 jd_195_b12
  rw [x_6 h6, Option.bind_some, n_jw hp.1 hp.2]
  by_cases h0 : f < 0
  · rw [if_pos h0]
  · rw [if_neg h0, y_gi L 0 11 rfl rfl, Option.bind_some, e1, n_jw (z := m 76 12) (by omega) (by omega), if_neg (by omega)]
theorem k_311 (hn : 0 ≤ m 76 12 ∧ m 76 12 ≤ 8) (hp : okI f) : jw (jd_311 f m) = if 0 ≤ f ∧ f < m 76 12 then 1 else 0 := by
  have hp' : -2147483648 ≤ f ∧ f < 2147483648 := hp
  unfold jd_311
  rw [n_jw hp.1 hp.2, n_jw (z := m 76 12 - 1) (by omega) (by omega), x_in (by omega) (by omega) (by decide) (by decide) (by omega) (by omega)]
  exact if_c (by omega)
def cOk (m : jM) (f k : Int) : Prop := (0 ≤ f ∧ f < m 76 12) ∧ 0 ≤ k ∧ k < m 87 f
theorem k_314 (R : RelH s Q hm I m) (hf : okI f) (hk : okI p) : ∃ b, jd_314 f p m = some b ∧ ((cOk m f p ∧ b = 1) ∨ (¬ cOk m f p ∧ b = 0)) := by
  obtain ⟨t1, t2, t3, t4, t5⟩ := id R.2.2.2.2.2.1
  have hk' : -2147483648 ≤ p ∧ p < 2147483648 := hk
  unfold jd_314 jd_314_b31
  rw [k_311 ⟨t2, t3⟩ hf]
  by_cases c1 : 0 ≤ f ∧ f < m 76 12
  · obtain ⟨a, ha, C⟩ := t5 f c1.1 c1.2
    have n := C.2.2.2.1
    rw [if_pos c1, if_neg (by decide), y_ma 87 8 rfl rfl c1.1 (by omega), Option.bind_some, n_jw hk.1 hk.2, n_jw (z := m 87 f - 1) (by have := n.1; omega) (by have := n.2.1; omega), x_in (by omega) (by omega) (by decide) (by decide) (by have := n.1; omega) (by have := n.2.1; omega)]
    by_cases c2 : 0 ≤ p ∧ p < m 87 f
    · rw [if_pos (show 0 ≤ p ∧ p ≤ m 87 f - 1 by omega), if_neg (by decide)]
      exact ⟨1, rfl, Or.inl ⟨⟨c1, c2⟩, rfl⟩⟩
    · rw [if_neg (show ¬ (0 ≤ p ∧ p ≤ m 87 f - 1) by omega), if_pos rfl]
      exact ⟨0, rfl, Or.inr ⟨fun e => c2 e.2, rfl⟩⟩
  · rw [if_neg c1, if_pos rfl]
    exact ⟨0, rfl, Or.inr ⟨fun e => c1 e.1, rfl⟩⟩
/-- needCoded and needPlace -/
theorem c_187 (F : FilmAt s Q hm a f) (C : FilmC s Q I m a f) (hp : okI p) : (0 ≤ p ∧ p < m 87 f → jd_187 (some a) p (hh s Q I) = some (.inl (), hh s Q I) ∧ jd_188 (some a) p (hh s Q I) = some (.inl (), hh s Q I)) ∧ (¬ (0 ≤ p ∧ p < m 87 f) → s.1 < 1000000 → jd_187 (some a) p (hh s Q I) = some (.inr 2, jth (hh s Q I) 2) ∧ jd_188 (some a) p (hh s Q I) = some (.inr 2, jth (hh s Q I) 2)) := by
  have e4 : I a ((4 : Nat) : Int) = m 87 f := C.1.2.2.2.2.1
  have n := C.2.2.2.1
  have nw := n_jw (z := m 87 f) (by have := n.1; omega) (by have := n.2.1; omega)
  unfold jd_187 jd_188 jd_187_b12 jd_188_b12
  rw [n_jw hp.1 hp.2]
  refine ⟨fun c => ?_, fun c h6 => ?_⟩
  · rw [if_neg (by omega), Option.bind_some, F_gi F, Option.bind_some, e4, nw, if_pos c.2]
    exact ⟨rfl, rfl⟩
  · rw [x_6 h6, Option.bind_some]
    by_cases h0 : p < 0
    · rw [if_pos h0]
      exact ⟨rfl, rfl⟩
    · rw [if_neg h0, Option.bind_some, F_gi F, Option.bind_some, e4, nw, if_neg (by omega)]
      exact ⟨rfl, rfl⟩
/-- the coded picture that is shown at a place -/
theorem film_k (C : FilmC s Q I m a f) (h0 : 0 ≤ p) (h1 : p < m 87 f) : ∃ k : Int, 0 ≤ k ∧ k < m 87 f ∧ m 91 (12 * f + k) = p ∧ I (a + 6) p = k ∧ (∀ j : Int, 0 ≤ j → j < m 87 f → m 91 (12 * f + j) = p → j = k) := by
  obtain ⟨-, -, -, V, K⟩ := C
  obtain ⟨v1, v2, -, -, -, -, -, W⟩ := V
  obtain ⟨k, k0, k1, kp⟩ := pig (n := m 87 f) (f := fun k => m 91 (12 * f + k)) (fun k k0 k1 => (W k k0 k1).2.1) (fun j k j0 jk k1 => (W k (by omega) k1).2.2.2.2.2.2.2.2.1 j j0 jk) h0 h1
  have kp' : m 91 (12 * f + k) = p := kp
  refine ⟨k, k0, k1, kp', ?_, fun j j0 j1 jp => ?_⟩
  · have := (K k k0 k1).2.1
    rw [kp'] at this
    exact this
  · have e1 := (K k k0 k1).2.1
    have e2 := (K j j0 j1).2.1
    rw [kp'] at e1
    rw [jp] at e2
    omega
theorem k_318 {k : Int} (hf : 0 ≤ f ∧ f < 8) (hk : 0 ≤ k ∧ k < 12) (hp : okI p) (e : m 91 (12 * f + k) = p) (hb : ∀ j : Int, 0 ≤ j → j < k → okI (m 91 (12 * f + j)) ∧ m 91 (12 * f + j) ≠ p) : jd_318 f p m = some (12 * f + k) := by
  unfold jd_318
  have key : jd_318_l2 f p 0 m = some k := by
    unfold jd_318_l2
    have := w_for (f := fun u : Int => jd_318_s2 f p u m) (fun j => (j : Int)) k.toNat (x := k) (fun j hj => ?_) ?_ (n_fu (n := k.toNat) (by omega))
    · exact this
    · unfold jd_318_s2
      obtain ⟨b1, b2⟩ := hb (j : Int) (by omega) (by omega)
      rw [y_ma 91 96 rfl rfl (by omega) (by omega), Option.bind_some, n_jw b1.1 b1.2, n_jw hp.1 hp.2, if_neg b2]
      rfl
    · unfold jd_318_s2
      rw [show ((k.toNat : Nat) : Int) = k by omega, y_ma 91 96 rfl rfl (by omega) (by omega), Option.bind_some, e, if_pos rfl]
  rw [key, Option.bind_some]
/-- codedAt, for a film that stands -/
theorem k_318f {k : Int} (R : RelH s Q hm I m) (C : FilmC s Q I m a f) (hf : 0 ≤ f ∧ f < m 76 12) (h0 : 0 ≤ p) (h1 : p < m 87 f) (k0 : 0 ≤ k) (k1 : k < m 87 f) (kp : m 91 (12 * f + k) = p) {m' : jM} (e91 : m' 91 = m 91) : jd_318 f p m' = some (12 * f + k) := by
  have n := C.2.2.2.1
  have n12 := n.2.1
  have n8 := R.2.2.2.2.2.1.2.2.1
  refine k_318 ⟨hf.1, by omega⟩ ⟨k0, by omega⟩ (by unfold okI; omega) (by rw [e91]; exact kp) (fun j j0 jk => ?_)
  have w := n.2.2.2.2.2.2.2 j j0 (by omega)
  have wk := n.2.2.2.2.2.2.2 k k0 k1
  have d := wk.2.2.2.2.2.2.2.2.1 j j0 jk
  have wb : 0 ≤ m 91 (12 * f + j) ∧ m 91 (12 * f + j) < m 87 f := w.2.1
  have d' : m 91 (12 * f + j) ≠ m 91 (12 * f + k) := d
  rw [e91]
  exact ⟨by unfold okI; omega, by rw [← kp]; exact d'⟩
/-- pictureShown -/
theorem c_192 (F : FilmAt s Q hm a f) (C : FilmC s Q I m a f) (h6 : s.1 ≤ 1000000) (hp : okI p) (h0 : 0 ≤ p) (h1 : p < m 87 f) : ∃ (k : Int) (b : Nat), jd_192 (some a) p (hh s Q I) = some (.inl b, hh s Q I) ∧ 0 ≤ k ∧ k < m 87 f ∧ m 91 (12 * f + k) = p ∧ I (a + 6) p = k ∧ Q (a + 9) k = some b ∧ PicAt s Q hm b (200 + 12 * f + k) ∧ Pix I b (m 84 f) (m 85 f) (fun j => m 99 (864 * (12 * f + k) + j)) := by
  obtain ⟨k, k0, k1, kp, ko, -⟩ := film_k C h0 h1
  have n12 := C.2.2.2.1.2.1
  obtain ⟨b, hb, X⟩ := (C.2.2.2.2 k k0 k1).2.2.2.2.2.2.2.2.1
  refine ⟨k, b, ?_, k0, k1, kp, ko, hb, F.2.2.2.2 k k0 (by omega) b hb, X⟩
  unfold jd_192
  have q15 := F_q F 8 15 rfl rfl
  have q12 := F_q F 5 12 rfl rfl
  rw [((c_187 F C hp).1 ⟨h0, h1⟩).2, b_jtb, Option.bind_some, F_gr F, Option.bind_some, Option.bind_some, F_gr F, Option.bind_some, q12, q15, Option.bind_some, F_ai F h6 6 12 rfl rfl rfl h0 (by omega), Option.bind_some, ko, Option.bind_some, F_ar F k0 (by omega), Option.bind_some, hb, Option.bind_some]
theorem c_192n (F : FilmAt s Q hm a f) (C : FilmC s Q I m a f) (h6 : s.1 < 1000000) (hp : okI p) (hn : ¬ (0 ≤ p ∧ p < m 87 f)) : jd_192 (some a) p (hh s Q I) = some (.inr 2, jth (hh s Q I) 2) := by
  unfold jd_192
  rw [((c_187 F C hp).2 hn h6).2, b_jtx]
end Films
