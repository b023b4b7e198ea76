/-! the class's checks -/
section Chk
variable {s : hS} {Q : hQ} {hm : hO} {I m : jM} {p x y v : Int} {a : Nat}
theorem b_jtb {A B : Type} {v : A} {h : jH} {f : A → jH → Option ((B ⊕ Nat) × jH)} : jtb (some (.inl v, h)) f = f v h := rfl
theorem b_jtx {A B : Type} {E : Nat} {h : jH} {f : A → jH → Option ((B ⊕ Nat) × jH)} : jtb (some (Sum.inr E, h)) f = some (.inr E, h) := rfl
def okI (p : Int) : Prop := -2147483648 ≤ p ∧ p < 2147483648
theorem c_184 (hp : okI p) (h : jH) : (0 ≤ p ∧ p ≤ 255 → jd_184 p h = some (.inl (), h)) ∧ (¬ (0 ≤ p ∧ p ≤ 255) → h.1 < 1000000 → jd_184 p h = some (.inr 0, jth h 0)) := by
  have e : jw p = p := n_jw hp.1 hp.2
  unfold jd_184 jd_184_b11
  rw [e]
  refine ⟨fun hc => ?_, fun hc h6 => ?_⟩
  · rw [if_neg (by omega), if_pos (by omega)]
  · have e6 : j6 h = some () := if_pos h6
    rw [e6, Option.bind_some]
    by_cases h0 : p < 0
    · rw [if_pos h0]
    · rw [if_neg h0, if_neg (by omega)]
theorem c_185 {q : Int} (hp : okI p) (hq : okI q) (h : jH) : (0 ≤ p ∧ p ≤ q → jd_185 p q h = some (.inl (), h)) ∧ (¬ (0 ≤ p ∧ p ≤ q) → h.1 < 1000000 → jd_185 p q h = some (.inr 0, jth h 0)) := by
  have e : jw p = p := n_jw hp.1 hp.2
  have e' : jw q = q := n_jw hq.1 hq.2
  unfold jd_185 jd_185_b9
  rw [e, e']
  refine ⟨fun hc => ?_, fun hc h6 => ?_⟩
  · rw [if_neg (by omega), if_pos (by omega)]
  · have e6 : j6 h = some () := if_pos h6
    rw [e6, Option.bind_some]
    by_cases h0 : p < 0
    · rw [if_pos h0]
    · rw [if_neg h0, if_neg (by omega)]
theorem c_186 (hp : okI p) (h : jH) : (0 ≤ p ∧ p ≤ 2 → jd_186 p h = some (.inl (), h)) ∧ (¬ (0 ≤ p ∧ p ≤ 2) → h.1 < 1000000 → jd_186 p h = some (.inr 2, jth h 2)) := by
  have e : jw p = p := n_jw hp.1 hp.2
  unfold jd_186 jd_186_b9
  rw [e]
  refine ⟨fun hc => ?_, fun hc h6 => ?_⟩
  · rw [if_neg (by omega), if_pos (by omega)]
  · have e6 : j6 h = some () := if_pos h6
    rw [e6, Option.bind_some]
    by_cases h0 : p < 0
    · rw [if_pos h0]
    · rw [if_neg h0, if_neg (by omega)]
/-- a picture's sides and bases -/
theorem c_96 {w : Int} (ha : a < s.1) (ht : s.2.2.1 a = 14) (hw : I a 0 = w) (hs : isSd w) (hp : okI p) : jd_96 a p (hh s Q I) = some (pw w p) := by
  have e : jw p = p := n_jw hp.1 hp.2
  have hw' : I a ((0 : Nat) : Int) = w := hw
  unfold jd_96 jd_96_b17 pw
  rw [e, x_gi ha ht, Option.bind_some, Option.bind_some, hw', n_div (by rcases hs with rfl | rfl | rfl <;> decide) (by rcases hs with rfl | rfl | rfl <;> decide) (by decide) (by decide)]
  split <;> rfl
theorem c_97 {h : Int} (ha : a < s.1) (ht : s.2.2.1 a = 14) (hw : I a 1 = h) (hs : isSd h) (hp : okI p) : jd_97 a p (hh s Q I) = some (pw h p) := by
  have e : jw p = p := n_jw hp.1 hp.2
  have hw' : I a ((1 : Nat) : Int) = h := hw
  unfold jd_97 jd_97_b17 pw
  rw [e, x_gi ha ht, Option.bind_some, Option.bind_some, hw', n_div (by rcases hs with rfl | rfl | rfl <;> decide) (by rcases hs with rfl | rfl | rfl <;> decide) (by decide) (by decide)]
  split <;> rfl
theorem c_98 {w h : Int} (ha : a < s.1) (ht : s.2.2.1 a = 14) (hw : I a 0 = w) (hv : I a 1 = h) (hs : isSd w) (hs' : isSd h) (hp : okI p) : jd_98 a p (hh s Q I) = some (pb w h p) := by
  have e : jw p = p := n_jw hp.1 hp.2
  have hw' : I a ((0 : Nat) : Int) = w := hw
  have hv' : I a ((1 : Nat) : Int) = h := hv
  have hb : 0 ≤ w * h ∧ w * h < 1000 := by rcases hs with rfl | rfl | rfl <;> rcases hs' with rfl | rfl | rfl <;> decide
  unfold jd_98 jd_98_b32 pb
  rw [e, x_gi ha ht, Option.bind_some, x_gi ha ht, Option.bind_some, hw', hv', n_div hb.1 (by omega) (by decide) (by decide)]
theorem c_99 {w h : Int} (ha : a < s.1) (ht : s.2.2.1 a = 14) (hw : I a 0 = w) (hv : I a 1 = h) (hs : isSd w) (hs' : isSd h) : jd_99 a (hh s Q I) = some (w * h * 3 / 2) := by
  have hw' : I a ((0 : Nat) : Int) = w := hw
  have hv' : I a ((1 : Nat) : Int) = h := hv
  have hb : 0 ≤ w * h ∧ w * h < 1000 := by rcases hs with rfl | rfl | rfl <;> rcases hs' with rfl | rfl | rfl <;> decide
  unfold jd_99
  rw [x_gi ha ht, Option.bind_some, x_gi ha ht, Option.bind_some, hw', hv', n_div (by omega) (by omega) (by decide) (by decide)]
/-- pictureAt -/
theorem c_193 (R : RelH s Q hm I m) (hp : okI p) (h0 : 0 ≤ p) (h1 : p < m 76 1) : ∃ a, jd_193 0 p (hh s Q I) = some (.inl a, hh s Q I) ∧ Q 1 p = some a ∧ PicAt s Q hm a p ∧ Pix I a (m 77 p) (m 78 p) (fun j => m 79 (864 * p + j)) := by
  obtain ⟨L, ⟨i1, n0, n60, sl, px⟩, -⟩ := R
  obtain ⟨a, ha, hx⟩ := px p h0 h1
  refine ⟨a, ?_, ha, sl p h0 (by omega) a ha, hx⟩
  have e1 : I 0 ((1 : Nat) : Int) = m 76 1 := i1
  have e2 : Q 0 ((0 : Nat) : Int) = some 1 := Lq L rfl
  unfold jd_193
  rw [n_jw hp.1 hp.2, if_neg (by omega), y_gi L 0 11 rfl rfl, Option.bind_some, e1, n_jw (z := m 76 1) (by omega) (by omega), if_pos h1, y_gr L 0 11 rfl rfl, Option.bind_some, e2, Option.bind_some, y_ar L 1 6 60 rfl rfl rfl h0 (by omega), Option.bind_some, ha, Option.bind_some]
theorem c_193n (R : RelH s Q hm I m) (h6 : s.1 < 1000000) (hp : okI p) (hn : ¬ (0 ≤ p ∧ p < m 76 1)) : jd_193 0 p (hh s Q I) = some (.inr 2, jth (hh s Q I) 2) := by
  obtain ⟨L, ⟨i1, n0, n60, sl, px⟩, -⟩ := R
  have e1 : I 0 ((1 : Nat) : Int) = m 76 1 := i1
  unfold jd_193 jd_193_b12
  rw [x_6 h6, Option.bind_some, n_jw hp.1 hp.2]
  by_cases h0 : p < 0
  · rw [if_pos h0]
  · rw [if_neg h0, y_gi L 0 11 rfl rfl, Option.bind_some, e1, n_jw (z := m 76 1) (by omega) (by omega), if_neg (by omega)]
/-- placeOfSample -/
theorem c_191 {w h o : Int} {G : Int → Int} (A : PicAt s Q hm a o) (X : Pix I a w h G) (hp : okI p) (hx : okI x) (hy : okI y) (h0 : 0 ≤ p ∧ p ≤ 2) (h1 : 0 ≤ x ∧ x < pw w p) (h2 : 0 ≤ y ∧ y < pw h p) : jd_191 (some a) p x y (hh s Q I) = some (.inl (pb w h p + y * pw w p + x), hh s Q I) := by
  obtain ⟨x1, x2, x3, x4, -⟩ := X
  obtain ⟨-, ⟨a1, a2, -⟩, -⟩ := A
  have b1 := pw_sd x3 p
  have b2 := pw_sd x4 p
  unfold jd_191
  rw [(c_186 hp _).1 h0, b_jtb, Option.bind_some, x_ck a1 a2, Option.bind_some, c_96 a1 a2 x1 x3 hp, Option.bind_some, n_jw hx.1 hx.2, n_jw hy.1 hy.2, if_neg (by omega), n_jw (z := pw w p) (by omega) (by omega), if_neg (by omega), if_neg (by omega), Option.bind_some, x_ck a1 a2, Option.bind_some, c_97 a1 a2 x2 x4 hp, Option.bind_some, n_jw (z := pw h p) (by omega) (by omega), if_pos h2.2, Option.bind_some, x_ck a1 a2, Option.bind_some, c_98 a1 a2 x1 x2 x3 x4 hp, Option.bind_some]
theorem c_191n {w h o : Int} {G : Int → Int} (A : PicAt s Q hm a o) (X : Pix I a w h G) (h6 : s.1 < 1000000) (hp : okI p) (hx : okI x) (hy : okI y) (hn : ¬ ((0 ≤ p ∧ p ≤ 2) ∧ (0 ≤ x ∧ x < pw w p) ∧ (0 ≤ y ∧ y < pw h p))) : jd_191 (some a) p x y (hh s Q I) = some (.inr 2, jth (hh s Q I) 2) := by
  obtain ⟨x1, x2, x3, x4, -⟩ := X
  obtain ⟨-, ⟨a1, a2, -⟩, -⟩ := A
  have b1 := pw_sd x3 p
  have b2 := pw_sd x4 p
  unfold jd_191 jd_191_b34
  by_cases h0 : 0 ≤ p ∧ p ≤ 2
  · rw [(c_186 hp _).1 h0, b_jtb, Option.bind_some, x_ck a1 a2, Option.bind_some, c_96 a1 a2 x1 x3 hp, Option.bind_some, x_6 h6, Option.bind_some, n_jw hx.1 hx.2, n_jw hy.1 hy.2]
    by_cases k1 : x < 0
    · rw [if_pos k1]
    · rw [if_neg k1, n_jw (z := pw w p) (by omega) (by omega)]
      by_cases k2 : pw w p ≤ x
      · rw [if_pos k2]
      · rw [if_neg k2]
        by_cases k3 : y < 0
        · rw [if_pos k3]
        · rw [if_neg k3, Option.bind_some, x_ck a1 a2, Option.bind_some, c_97 a1 a2 x2 x4 hp, Option.bind_some, n_jw (z := pw h p) (by omega) (by omega), if_neg (by omega)]
  · rw [(c_186 hp _).2 h0 h6, b_jtx]
end Chk
