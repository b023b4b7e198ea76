/-! scan, cells of blocks, levels -/
def usc (j : Int) : Int := ([0, 1, 5, 6, 2, 4, 7, 12, 3, 8, 11, 13, 9, 10, 14, 15] : List Int).getD j.toNat 0
theorem scan_u {i : Int} (h0 : 0 ≤ i) (h1 : i < 16) : usc (jd_254 i) = i ∧ 0 ≤ jd_254 i ∧ jd_254 i < 16 := by
  have : ∀ i : Fin 16, usc (jd_254 (i.val : Int)) = (i.val : Int) ∧ 0 ≤ jd_254 (i.val : Int) ∧ jd_254 (i.val : Int) < 16 := by decide
  have := this ⟨i.toNat, by omega⟩
  dsimp only at this
  rw [show ((i.toNat : Nat) : Int) = i by omega] at this
  exact this
theorem usc_s {i : Int} (h0 : 0 ≤ i) (h1 : i < 16) : jd_254 (usc i) = i ∧ 0 ≤ usc i ∧ usc i < 16 := by
  have : ∀ i : Fin 16, jd_254 (usc (i.val : Int)) = (i.val : Int) ∧ 0 ≤ usc (i.val : Int) ∧ usc (i.val : Int) < 16 := by decide
  have := this ⟨i.toNat, by omega⟩
  dsimp only at this
  rw [show ((i.toNat : Nat) : Int) = i by omega] at this
  exact this
theorem jst_4 {i : Int} (h0 : 0 ≤ i) (h1 : i < 16) : jst 4 i = some (jd_254 i) := by
  have : ∀ i : Fin 16, jst 4 (i.val : Int) = some (jd_254 (i.val : Int)) := by decide
  have := this ⟨i.toNat, by omega⟩
  dsimp only at this
  rw [show ((i.toNat : Nat) : Int) = i by omega] at this
  exact this
def cb (b r c : Int) : Int := if b < 4 then 8 * (4 * (b / 2) + r) + 4 * (b % 2) + c else 16 * b + 4 * r + c
theorem cb_r {b r c : Int} (b0 : 0 ≤ b) (b1 : b < 6) (r0 : 0 ≤ r) (r1 : r < 4) (c0 : 0 ≤ c) (c1 : c < 4) : 0 ≤ cb b r c ∧ cb b r c < 96 := by
  unfold cb; split <;> omega
theorem cb_j {b r c b' r' c' : Int} (b0 : 0 ≤ b) (b1 : b < 6) (r0 : 0 ≤ r) (r1 : r < 4) (c0 : 0 ≤ c) (c1 : c < 4) (b0' : 0 ≤ b') (b1' : b' < 6) (r0' : 0 ≤ r') (r1' : r' < 4) (c0' : 0 ≤ c') (c1' : c' < 4) (e : cb b r c = cb b' r' c') : b = b' ∧ r = r' ∧ c = c' := by
  unfold cb at e
  split at e <;> split at e <;> omega
theorem k_253 {b r c : Int} (b0 : 0 ≤ b) (b1 : b < 6) (r0 : 0 ≤ r) (r1 : r < 4) (c0 : 0 ≤ c) (c1 : c < 4) : jd_253 b c r = cb b r c := by
  unfold jd_253 cb jd_244
  rw [n_jw (z := b) (by omega) (by omega), n_jw (z := b - 3) (by omega) (by omega), shr1 (by omega) (by omega), n_and1]
  by_cases h : b < 4
  · rw [if_pos h, if_pos h]
  · rw [if_neg h, if_neg h, if_neg (by omega)]
    by_cases h' : b - 3 = 1
    · rw [if_pos h']; omega
    · rw [if_neg h']; omega
theorem c_86 {b i : Int} (b0 : 0 ≤ b) (b1 : b < 6) (i0 : 0 ≤ i) (i1 : i < 16) : jd_86 b i = cb b (i / 4) (i % 4) := by
  unfold jd_86 cb
  rw [n_jw (z := b) (by omega) (by omega), shr1 (i := b) (by omega) (by omega), shr2 (i := i) (by omega) (by omega), n_and1, n_and3]
  by_cases h : b < 4
  · rw [if_pos h, if_pos h]; omega
  · rw [if_neg h, if_neg h]; omega
/-- how many of the first n are not 0 -/
def lc (g : Int → Int) : Nat → Int
  | 0 => 0
  | n + 1 => lc g n + (if g n = 0 then 0 else 1)
theorem lc_s {g : Int → Int} {n : Nat} : lc g (n + 1) = lc g n + (if g n = 0 then 0 else 1) := rfl
theorem lc_c {g g' : Int → Int} {n : Nat} (h : ∀ j : Int, 0 ≤ j → j < n → g j = g' j) : lc g n = lc g' n := by
  induction n with
  | zero => rfl
  | succ n ih => rw [lc_s, lc_s, ih (fun j h0 h1 => h j h0 (by omega)), h n (by omega) (by omega)]
theorem lc_b {g : Int → Int} {n : Nat} : 0 ≤ lc g n ∧ lc g n ≤ n := by
  induction n with
  | zero => exact ⟨Int.le_refl _, Int.le_refl _⟩
  | succ n ih => rw [lc_s]; split <;> omega
theorem lc_z {g : Int → Int} {a d : Nat} (h : ∀ j : Int, a ≤ j → j < a + d → g j = 0) : lc g (a + d) = lc g a := by
  induction d with
  | zero => rfl
  | succ d ih => rw [show a + (d + 1) = a + d + 1 from rfl, lc_s, ih (fun j h0 h1 => h j h0 (by omega)), if_pos (h _ (by omega) (by omega)), Int.add_zero]
theorem lc_0 {g : Int → Int} {n : Nat} (h : lc g n = 0) (j : Int) (j0 : 0 ≤ j) (j1 : j < n) : g j = 0 := by
  induction n with
  | zero => omega
  | succ n ih =>
    rw [lc_s] at h
    have b := lc_b (g := g) (n := n)
    by_cases c : g n = 0
    · rw [if_pos c] at h
      by_cases d : j = n
      · rw [d]; exact c
      · exact ih (by omega) (by omega)
    · rw [if_neg c] at h; omega
theorem hd_c {G G' : Int → Int} (h : ∀ j : Int, 0 ≤ j → j < 16 → G j = G' j) (r c : Int) : hd G r c = hd G' r c := by
  unfold hd
  rw [h 0 (by decide) (by decide), h 1 (by decide) (by decide), h 2 (by decide) (by decide), h 3 (by decide) (by decide), h 4 (by decide) (by decide), h 5 (by decide) (by decide), h 6 (by decide) (by decide), h 7 (by decide) (by decide), h 8 (by decide) (by decide), h 9 (by decide) (by decide), h 10 (by decide) (by decide), h 11 (by decide) (by decide), h 12 (by decide) (by decide), h 13 (by decide) (by decide), h 14 (by decide) (by decide), h 15 (by decide) (by decide)]
theorem f4_b {r a b c d u : Int} (ha : -u ≤ a ∧ a ≤ u) (hb : -u ≤ b ∧ b ≤ u) (hc : -u ≤ c ∧ c ≤ u) (hd : -u ≤ d ∧ d ≤ u) : -(4 * u) ≤ f4 r a b c d ∧ f4 r a b c d ≤ 4 * u := by
  unfold f4
  split
  · omega
  · split
    · omega
    · split <;> omega
theorem hd_b {G : Int → Int} {u : Int} (h : ∀ j : Int, 0 ≤ j → j < 16 → -u ≤ G j ∧ G j ≤ u) (r c : Int) : -(16 * u) ≤ hd G r c ∧ hd G r c ≤ 16 * u := by
  have := f4_b (r := r) (u := 4 * u) (f4_b (r := c) (h 0 (by decide) (by decide)) (h 1 (by decide) (by decide)) (h 2 (by decide) (by decide)) (h 3 (by decide) (by decide))) (f4_b (r := c) (h 4 (by decide) (by decide)) (h 5 (by decide) (by decide)) (h 6 (by decide) (by decide)) (h 7 (by decide) (by decide))) (f4_b (r := c) (h 8 (by decide) (by decide)) (h 9 (by decide) (by decide)) (h 10 (by decide) (by decide)) (h 11 (by decide) (by decide))) (f4_b (r := c) (h 12 (by decide) (by decide)) (h 13 (by decide) (by decide)) (h 14 (by decide) (by decide)) (h 15 (by decide) (by decide)))
  unfold hd
  omega
theorem hd_0 {G : Int → Int} (h : ∀ j : Int, 0 ≤ j → j < 16 → G j = 0) (r c : Int) : hd G r c = 0 := by
  have := hd_b (G := G) (u := 0) (fun j h0 h1 => by rw [h j h0 h1]; omega) r c
  omega
/-- levels times the step, unscanned; what they add at row r, column c -/
def sqL (lv : Int → Int) (st : Int) : Int → Int := fun j => lv (usc j) * st
def rsB (lv : Int → Int) (st r c : Int) : Int := jshr (hd (sqL lv st) r c + 8) 4
theorem rsB_0 {lv : Int → Int} {st r c : Int} (h : ∀ j : Int, 0 ≤ j → j < 16 → lv j = 0) : rsB lv st r c = 0 := by
  unfold rsB
  rw [hd_0 (fun j h0 h1 => by
    unfold sqL
    have := usc_s h0 h1
    rw [h _ this.2.1 this.2.2, Int.zero_mul])]
  decide
theorem mul_b {x y u v : Int} (hx : -u ≤ x ∧ x ≤ u) (hy : 0 ≤ y ∧ y ≤ v) (hu : 0 ≤ u) : -(u * v) ≤ x * y ∧ x * y ≤ u * v := by
  constructor
  · have h1 : -u * y ≤ x * y := Int.mul_le_mul_of_nonneg_right hx.1 hy.1
    have h2 : u * y ≤ u * v := Int.mul_le_mul_of_nonneg_left hy.2 hu
    rw [Int.neg_mul] at h1
    omega
  · have h1 : x * y ≤ u * y := Int.mul_le_mul_of_nonneg_right hx.2 hy.1
    have h2 : u * y ≤ u * v := Int.mul_le_mul_of_nonneg_left hy.2 hu
    omega
theorem shr4 {i : Int} (h0 : -2147483648 ≤ i) (h1 : i < 2147483648) : jshr i 4 = i / 16 := n_shr (k := 4) h0 h1 (by decide)
theorem rsB_b {lv : Int → Int} {st : Int} (h : ∀ j : Int, 0 ≤ j → j < 16 → -4095 ≤ lv j ∧ lv j ≤ 4095) (s0 : 0 ≤ st) (s1 : st ≤ 255) (r c : Int) : -2000000 ≤ rsB lv st r c ∧ rsB lv st r c ≤ 2000000 := by
  have := hd_b (G := sqL lv st) (u := 4095 * 255) (fun j h0 h1 => by
    have q := usc_s h0 h1
    exact mul_b (h _ q.2.1 q.2.2) ⟨s0, s1⟩ (by decide)) r c
  unfold rsB
  rw [shr4 (by omega) (by omega)]
  omega
