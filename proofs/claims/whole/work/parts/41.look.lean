/-! look, mended, kept -/
section Look
variable {s : hS} {Q : hQ} {hm : hO} {I m : jM} {a : Nat} {f p q x y v z : Int}
def lOk (m : jM) (f p q x y : Int) : Prop := cOk m f p ∧ (0 ≤ q ∧ q ≤ 2) ∧ (0 ≤ x ∧ x < pw (m 84 f) q) ∧ (0 ≤ y ∧ y < pw (m 85 f) q)
theorem film_c (R : RelH s Q hm I m) (hf : 0 ≤ f ∧ f < m 76 12) : ∃ a, Q 5 f = some a ∧ FilmAt s Q hm a f ∧ FilmC s Q I m a f := by
  obtain ⟨t1, t2, t3, t4, t5⟩ := id R.2.2.2.2.2.1
  obtain ⟨a, ha, C⟩ := t5 f hf.1 hf.2
  exact ⟨a, ha, t4 f hf.1 (by omega) a ha, C⟩
theorem k_320 (R : RelH s Q hm I m) (hf : okI f) (hp : okI p) (hq : okI q) (hx : okI x) (hy : okI y) : ∃ b, jd_320 f p q x y m = some b ∧ ((lOk m f p q x y ∧ b = 1) ∨ (¬ lOk m f p q x y ∧ b = 0)) := by
  have hx' : -2147483648 ≤ x ∧ x < 2147483648 := hx
  have hy' : -2147483648 ≤ y ∧ y < 2147483648 := hy
  obtain ⟨b, eb, hb⟩ := k_314 R hf hp
  unfold jd_320 jd_320_b66 jd_320_b67
  rw [eb, Option.bind_some]
  rcases hb with ⟨c1, rfl⟩ | ⟨c1, rfl⟩
  · rw [if_neg (show ¬ jw 1 = 0 by decide), k_211 hq]
    by_cases c2 : 0 ≤ q ∧ q ≤ 2
    · obtain ⟨a, ha, F, C⟩ := film_c R c1.1
      have n8 := R.2.2.2.2.2.1.2.2.1
      have c1' := c1.1
      have b1 := pw_sd C.2.1.1 q
      have b2 := pw_sd C.2.1.2.1 q
      rw [if_pos c2, if_neg (by decide), y_ma 84 8 rfl rfl c1.1.1 (by omega), Option.bind_some, k_206 hq C.2.1.1, n_jw hx.1 hx.2, n_jw (z := pw (m 84 f) q - 1) (by omega) (by omega), x_in (by omega) (by omega) (by decide) (by decide) (by omega) (by omega)]
      by_cases c3 : 0 ≤ x ∧ x < pw (m 84 f) q
      · rw [if_pos (show 0 ≤ x ∧ x ≤ pw (m 84 f) q - 1 by omega), if_neg (by decide), y_ma 85 8 rfl rfl c1.1.1 (by omega), Option.bind_some, k_206 hq C.2.1.2.1, n_jw hy.1 hy.2, n_jw (z := pw (m 85 f) q - 1) (by omega) (by omega), x_in (by omega) (by omega) (by decide) (by decide) (by omega) (by omega)]
        by_cases c4 : 0 ≤ y ∧ y < pw (m 85 f) q
        · rw [if_pos (show 0 ≤ y ∧ y ≤ pw (m 85 f) q - 1 by omega), if_neg (by decide)]
          exact ⟨1, rfl, Or.inl ⟨⟨c1, c2, c3, c4⟩, rfl⟩⟩
        · rw [if_neg (show ¬ (0 ≤ y ∧ y ≤ pw (m 85 f) q - 1) by omega), if_pos rfl]
          exact ⟨0, rfl, Or.inr ⟨fun h => c4 h.2.2.2, rfl⟩⟩
      · rw [if_neg (show ¬ (0 ≤ x ∧ x ≤ pw (m 84 f) q - 1) by omega), if_pos rfl]
        exact ⟨0, rfl, Or.inr ⟨fun h => c3 h.2.2.1, rfl⟩⟩
    · rw [if_neg c2, if_pos rfl]
      exact ⟨0, rfl, Or.inr ⟨fun h => c2 h.2.1, rfl⟩⟩
  · rw [if_pos (show jw 0 = 0 by decide)]
    exact ⟨0, rfl, Or.inr ⟨fun h => c1 h.1, rfl⟩⟩
theorem k_319 {k : Int} (R : RelH s Q hm I m) (C : FilmC s Q I m a f) (hf : 0 ≤ f ∧ f < m 76 12) (hq : okI q) (h0 : 0 ≤ p) (h1 : p < m 87 f) (k0 : 0 ≤ k) (k1 : k < m 87 f) (kp : m 91 (12 * f + k) = p) {c : Int} : jd_319 f p q x y (jms m 76 0 c) = some (864 * (12 * f + k) + (pf q + (y * pw (m 84 f) q + x))) := by
  have n8 := R.2.2.2.2.2.1.2.2.1
  unfold jd_319
  have e : jms m 76 0 c 84 f = m 84 f := rfl
  rw [k_318f (m' := jms m 76 0 c) R C hf h0 h1 k0 k1 kp rfl, Option.bind_some, y_ma 84 8 rfl rfl hf.1 (by omega), Option.bind_some, e, k_206 hq C.2.1.1, k_207 hq]
  congr 1
  omega
theorem lk_b {k w h : Int} (hf : 0 ≤ f ∧ f < 8) (k0 : 0 ≤ k) (k1 : k < 12) (sw : isSd w) (sh : isSd h) (q0 : 0 ≤ q) (q2 : q ≤ 2) (hx : 0 ≤ x ∧ x < pw w q) (hy : 0 ≤ y ∧ y < pw h q) : 0 ≤ y * pw w q + x ∧ y * pw w q + x < pw w q * pw h q ∧ 0 ≤ 864 * (12 * f + k) + (pf q + (y * pw w q + x)) ∧ 864 * (12 * f + k) + (pf q + (y * pw w q + x)) < 82944 := by
  have b := pl_sz sw sh q0 q2
  have d := dm_b hy.1 hy.2 hx.1 hx.2
  omega
theorem si_look (R : RelH s Q hm I m) (h6 : s.1 < 1000000) (hf : okI f) (hp : okI p) (hq : okI q) (hx : okI x) (hy : okI y) : SimI (jd_161 0 f p q x y (hh s Q I)) (jd_321 f p q x y m) (fun E => if E = 2 then 1 else 0) s Q I := by
  have L := R.1
  have n8 := R.2.2.2.2.2.1.2.2.1
  obtain ⟨b, hb, hbv⟩ := k_320 R hf hp hq hx hy
  rcases hbv with ⟨c, rfl⟩ | ⟨c, rfl⟩
  · obtain ⟨a, ea, ha, F, C⟩ := c_195 R hf c.1.1.1 c.1.1.2
    obtain ⟨k, b, eb, k0, k1, kp, ko, hb', B, X⟩ := c_192 F C (by omega) hp c.1.2.1 c.1.2.2
    have n12 := C.2.2.2.1.2.1
    have c11 := c.1.1
    have lb := lk_b (k := k) (f := f) ⟨c11.1, by omega⟩ k0 (by omega) C.2.1.1 C.2.1.2.1 c.2.1.1 c.2.1.2 c.2.2.1 c.2.2.2
    have ps := pl_sz C.2.1.1 C.2.1.2.1 c.2.1.1 c.2.1.2
    refine SimI_id (v := m 99 (864 * (12 * f + k) + (pf q + (y * pw (m 84 f) q + x)))) (b := m 99 (864 * (12 * f + k) + (pf q + (y * pw (m 84 f) q + x)))) R ?_ ?_ rfl
    · have e2 : Q b ((2 : Nat) : Int) = some (b + 1) := B.2.2.2
      unfold jd_161
      rw [y_ck L 0 11 rfl rfl, Option.bind_some, ea, b_jtb, eb, b_jtb, x_gr B.2.1.1 B.2.1.2.1, Option.bind_some, e2, c_191 B X hq hx hy c.2.1 c.2.2.1 c.2.2.2, b_jtb, Option.bind_some, x_ai B.2.2.1.1 (by omega) B.2.2.1.2.1 (by omega) (by rw [B.2.2.1.2.2.1]; omega) (by rw [B.2.2.1.2.2.1]; decide), Option.bind_some]
      have := (X.2.2.2.2 q (y * pw (m 84 f) q + x) c.2.1.1 c.2.1.2 lb.1 lb.2.1).1
      rw [show pb (m 84 f) (m 85 f) q + y * pw (m 84 f) q + x = pb (m 84 f) (m 85 f) q + (y * pw (m 84 f) q + x) by omega, this]
    · unfold jd_321 jd_321_b50
      rw [hb, Option.bind_some, if_neg (show ¬ jw 1 = 0 by decide), Option.bind_some, jms_e, if_pos (by decide), k_319 R C c.1.1 hq c.1.2.1 c.1.2.2 k0 k1 kp, Option.bind_some, y_ma 99 82944 rfl rfl lb.2.2.1 (by omega), Option.bind_some]
      rfl
  · refine SimI_th (E := 2) (b := 0) R ?_ ?_ (by decide)
    · unfold jd_161
      rw [y_ck L 0 11 rfl rfl, Option.bind_some]
      by_cases c1 : 0 ≤ f ∧ f < m 76 12
      · obtain ⟨a, ea, ha, F, C⟩ := c_195 R hf c1.1 c1.2
        rw [ea, b_jtb]
        by_cases c2 : 0 ≤ p ∧ p < m 87 f
        · obtain ⟨k, b, eb, k0, k1, kp, ko, hb', B, X⟩ := c_192 F C (by omega) hp c2.1 c2.2
          rw [eb, b_jtb, x_gr B.2.1.1 B.2.1.2.1, Option.bind_some, c_191n B X h6 hq hx hy (fun h => c ⟨⟨c1, c2⟩, h⟩), b_jtx]
        · rw [c_192n F C h6 hp c2, b_jtx]
      · rw [c_195n R h6 hf c1, b_jtx]
    · unfold jd_321 jd_321_b50
      rw [hb, Option.bind_some, if_pos (show jw 0 = 0 by decide), Option.bind_some, jms_e, if_neg (by decide)]
      rfl
/-- isMended -/
theorem sd_of (hq : okI q) : (if jw q = 0 then (8 : Int) else 4) = sdOf q := by unfold sdOf; rw [n_jw hq.1 hq.2]
theorem c_43 {k : Int} {b : Nat} (F : FilmAt s Q hm a f) (C : FilmC s Q I m a f) (h6 : s.1 ≤ 1000000) (k0 : 0 ≤ k) (k1 : k < m 87 f) (hb : Q (a + 9) k = some b) (q0 : 0 ≤ q) (q2 : q ≤ 2) (hx : 0 ≤ x ∧ x < pw (m 84 f) q) (hy : 0 ≤ y ∧ y < pw (m 85 f) q) : ∃ v, jd_43 a k q x y (hh s Q I) = some v ∧ ((mdAt (m 83 f) (m 97 (12 * f + k)) (m 84 f) (m 85 f) q x y ∧ v = 1) ∨ (¬ mdAt (m 83 f) (m 97 (12 * f + k)) (m 84 f) (m 85 f) q x y ∧ v = 0)) := by
  have hq : okI q := by unfold okI; omega
  have n12 := C.2.2.2.1.2.1
  have K := C.2.2.2.2 k k0 k1
  obtain ⟨b', hb', X⟩ := K.2.2.2.2.2.2.2.2.1
  rw [hb] at hb'
  cases hb'
  have B := F.2.2.2.2 k k0 (by omega) b hb
  have e0 : I a ((0 : Nat) : Int) = m 83 f := C.1.1
  have e17 : I (a + 11) k = m 97 (12 * f + k) := K.2.2.2.2.2.1
  have sr := K.2.2.2.2.2.2.2.1
  have cr := C.2.2.2.1.2.2.1
  have cr2 := C.2.2.2.1.2.2.2.1
  have q17 := F_q F 10 17 rfl rfl
  have q15 := F_q F 8 15 rfl rfl
  have bw := pw_sd C.2.1.1 q
  have bh := pw_sd C.2.1.2.1 q
  have ps := pl_sz C.2.1.1 C.2.1.2.1 q0 q2
  have db := dm_b (W := pw (m 84 f) q) (H := pw (m 85 f) q) hy.1 hy.2 hx.1 hx.2
  unfold jd_43 mdAt
  rw [F_gr F, Option.bind_some, q17, Option.bind_some, F_ai F h6 11 12 rfl rfl rfl k0 (by omega), Option.bind_some, e17, n_jw (z := m 97 (12 * f + k)) (by omega) (by omega)]
  by_cases c0 : 0 ≤ m 97 (12 * f + k)
  · rw [if_pos c0, F_gr F, Option.bind_some, q15, Option.bind_some, F_ar F k0 (by omega), Option.bind_some, F_gi F, Option.bind_some, e0, n_jw (z := m 83 f) (by omega) (by omega), hb]
    by_cases c1 : m 83 f = 0
    · have e1 : I b ((0 : Nat) : Int) = m 84 f := X.1
      have s8 : sdOf q = 8 ∨ sdOf q = 4 := by unfold sdOf; split <;> simp
      have w8 : m 84 f = 8 ∨ m 84 f = 16 ∨ m 84 f = 24 := C.2.1.1
      have nz : jnz (sdOf q) = some () := by
        unfold jnz
        rw [n_jw (by omega) (by omega)]
        exact if_neg (by omega)
      unfold jd_104
      rw [if_pos c1, if_pos c1, Option.bind_some, x_ck B.2.1.1 B.2.1.2.1, Option.bind_some, sd_of hq, nz, Option.bind_some, x_gi B.2.1.1 B.2.1.2.1, Option.bind_some, Option.bind_some, e1, Option.bind_some, n_div (z := y) (by omega) (by omega) (by omega) (by omega), n_div (z := m 84 f) (by omega) (by omega) (by decide) (by decide), n_div (z := x) (by omega) (by omega) (by omega) (by omega)]
      have g1 : 0 ≤ y / sdOf q * (m 84 f / 8) + x / sdOf q ∧ y / sdOf q * (m 84 f / 8) + x / sdOf q < 1000 := by
        rcases s8 with s8 | s8 <;> rcases w8 with w8 | w8 | w8 <;> rw [s8, w8] <;> omega
      rw [n_jw (by omega) (by omega)]
      by_cases c2 : y / sdOf q * (m 84 f / 8) + x / sdOf q < m 97 (12 * f + k)
      · rw [if_pos c2]
        exact ⟨0, rfl, Or.inr ⟨fun e => by omega, rfl⟩⟩
      · rw [if_neg c2]
        exact ⟨1, rfl, Or.inl ⟨⟨c0, by omega⟩, rfl⟩⟩
    · rw [if_neg c1, if_neg c1]
      by_cases c3 : m 83 f = 1
      · rw [if_pos c3, if_pos c3, n_jw hq.1 hq.2]
        by_cases c2 : q < m 97 (12 * f + k)
        · rw [if_pos c2]
          exact ⟨0, rfl, Or.inr ⟨fun e => by omega, rfl⟩⟩
        · rw [if_neg c2]
          exact ⟨1, rfl, Or.inl ⟨⟨c0, by omega⟩, rfl⟩⟩
      · rw [if_neg c3, if_neg c3, Option.bind_some, x_ck B.2.1.1 B.2.1.2.1, Option.bind_some, c_98 B.2.1.1 B.2.1.2.1 X.1 X.2.1 C.2.1.1 C.2.1.2.1 hq, Option.bind_some, Option.bind_some, x_ck B.2.1.1 B.2.1.2.1, Option.bind_some, c_96 B.2.1.1 B.2.1.2.1 X.1 C.2.1.1 hq, Option.bind_some, n_jw (by omega) (by omega)]
        by_cases c2 : pb (m 84 f) (m 85 f) q + y * pw (m 84 f) q + x < m 97 (12 * f + k)
        · rw [if_pos c2]
          exact ⟨0, rfl, Or.inr ⟨fun e => by omega, rfl⟩⟩
        · rw [if_neg c2]
          exact ⟨1, rfl, Or.inl ⟨⟨c0, by omega⟩, rfl⟩⟩
  · rw [if_neg c0]
    exact ⟨0, rfl, Or.inr ⟨fun e => c0 e.1, rfl⟩⟩
theorem si_mended (R : RelH s Q hm I m) (h6 : s.1 < 1000000) (hf : okI f) (hp : okI p) (hq : okI q) (hx : okI x) (hy : okI y) : SimI (jd_162 0 f p q x y (hh s Q I)) (jd_322 f p q x y m) (fun E => if E = 2 then 1 else 0) s Q I := by
  have L := R.1
  have n8 := R.2.2.2.2.2.1.2.2.1
  obtain ⟨b, hb, hbv⟩ := k_320 R hf hp hq hx hy
  rcases hbv with ⟨c, rfl⟩ | ⟨c, rfl⟩
  · obtain ⟨a, ea, ha, F, C⟩ := c_195 R hf c.1.1.1 c.1.1.2
    obtain ⟨k, b, eb, k0, k1, kp, ko, hb', B, X⟩ := c_192 F C (by omega) hp c.1.2.1 c.1.2.2
    have n12 := C.2.2.2.1.2.1
    have c11 := c.1.1
    have c12 := c.1.2
    have lb := lk_b (k := k) (f := f) ⟨c11.1, by omega⟩ k0 (by omega) C.2.1.1 C.2.1.2.1 c.2.1.1 c.2.1.2 c.2.2.1 c.2.2.2
    obtain ⟨v, ev, hv⟩ := c_43 F C (by omega) k0 k1 hb' c.2.1.1 c.2.1.2 c.2.2.1 c.2.2.2
    have md := (C.2.2.2.2 k k0 k1).2.2.2.2.2.2.2.2.2.1 q x y c.2.1.1 c.2.1.2 c.2.2.1.1 c.2.2.1.2 c.2.2.2.1 c.2.2.2.2
    have hv01 : v = 0 ∨ v = 1 := by rcases hv with h | h <;> omega
    have q12 := F_q F 5 12 rfl rfl
    refine SimI_id (v := v) (b := v) R ?_ ?_ rfl
    · unfold jd_162
      rw [y_ck L 0 11 rfl rfl, Option.bind_some, ea, b_jtb, eb, b_jtb, c_191 B X hq hx hy c.2.1 c.2.2.1 c.2.2.2, b_jtb, F_gr F, Option.bind_some, q12, Option.bind_some, F_ai F (by omega) 6 12 rfl rfl rfl c.1.2.1 (by omega), Option.bind_some, ko, F_ck F, Option.bind_some, ev, Option.bind_some]
      have : jbc v = some () := if_pos hv01
      rw [this, Option.bind_some]
    · unfold jd_322 jd_322_b54
      rw [hb, Option.bind_some, if_neg (show ¬ jw 1 = 0 by decide), Option.bind_some, jms_e, if_pos (show jw 0 = 0 by decide), k_319 R C c.1.1 hq c.1.2.1 c.1.2.2 k0 k1 kp, Option.bind_some, y_mz 100 82944 rfl rfl lb.2.2.1 (by omega), Option.bind_some]
      have e9 : jms m 76 0 0 100 (864 * (12 * f + k) + (pf q + (y * pw (m 84 f) q + x))) = m 100 (864 * (12 * f + k) + (pf q + (y * pw (m 84 f) q + x))) := rfl
      rw [e9, n_jw (by omega) (by omega)]
      rcases hv with ⟨h1, rfl⟩ | ⟨h1, rfl⟩
      · rw [if_neg (by have := md.mpr h1; omega)]
        rfl
      · have : ¬ m 100 (864 * (12 * f + k) + (pf q + (y * pw (m 84 f) q + x))) % 2 = 1 := fun e => h1 (md.mp e)
        rw [if_pos (by omega)]
        rfl
  · refine SimI_th (E := 2) (b := 0) R ?_ ?_ (by decide)
    · unfold jd_162
      rw [y_ck L 0 11 rfl rfl, Option.bind_some]
      by_cases c1 : 0 ≤ f ∧ f < m 76 12
      · obtain ⟨a, ea, ha, F, C⟩ := c_195 R hf c1.1 c1.2
        rw [ea, b_jtb]
        by_cases c2 : 0 ≤ p ∧ p < m 87 f
        · obtain ⟨k, b, eb, k0, k1, kp, ko, hb', B, X⟩ := c_192 F C (by omega) hp c2.1 c2.2
          rw [eb, b_jtb, c_191n B X h6 hq hx hy (fun h => c ⟨⟨c1, c2⟩, h⟩), b_jtx]
        · rw [c_192n F C h6 hp c2, b_jtx]
      · rw [c_195n R h6 hf c1, b_jtx]
    · unfold jd_322 jd_322_b54
      rw [hb, Option.bind_some, if_pos (show jw 0 = 0 by decide), Option.bind_some, jms_e, if_neg (by decide)]
      rfl
theorem si_kept (R : RelH s Q hm I m) (h6 : s.1 < 1000000) (hf : okI f) (hp : okI p) : SimI (jd_167 0 f p (hh s Q I)) (jd_331 f p m) (fun E => if E = 2 then 1 else 0) s Q I := by
  have L := R.1
  have n8 := R.2.2.2.2.2.1.2.2.1
  obtain ⟨b, hb, hbv⟩ := k_314 R hf hp
  rcases hbv with ⟨c, rfl⟩ | ⟨c, rfl⟩
  · obtain ⟨a, ea, ha, F, C⟩ := c_195 R hf c.1.1 c.1.2
    obtain ⟨k, k0, k1, kp, ko, -⟩ := film_k C c.2.1 c.2.2
    have n12 := C.2.2.2.1.2.1
    have c1 := c.1
    have c2 := c.2
    have K := (C.2.2.2.2 k k0 k1).2.2.2.1
    rw [kp] at K
    have q14 := F_q F 7 14 rfl rfl
    refine SimI_id (v := I (a + 8) p % 2) (b := I (a + 8) p % 2) R ?_ ?_ rfl
    · unfold jd_167
      rw [y_ck L 0 11 rfl rfl, Option.bind_some, ea, b_jtb, ((c_187 F C hp).1 c.2).2, b_jtb, F_gr F, Option.bind_some, q14, Option.bind_some, F_az F 8 12 rfl rfl rfl c.2.1 (by omega), Option.bind_some]
      have : jbc (I (a + 8) p % 2) = some () := if_pos (by omega)
      rw [this, Option.bind_some]
    · unfold jd_331 jd_331_b44
      rw [hb, Option.bind_some, if_neg (show ¬ jw 1 = 0 by decide), Option.bind_some, jms_e, if_pos (show jw 0 = 0 by decide), k_318f (m' := jms m 76 0 0) R C c.1 c.2.1 c.2.2 k0 k1 kp rfl, Option.bind_some, y_mz 98 96 rfl rfl (by omega) (by omega), Option.bind_some]
      have e9 : jms m 76 0 0 98 (12 * f + k) = m 98 (12 * f + k) := rfl
      rw [e9, K, n_jw (by omega) (by omega)]
      by_cases z : m 98 (12 * f + k) % 2 = 0
      · rw [if_pos z, z]
        rfl
      · rw [if_neg z, show m 98 (12 * f + k) % 2 = 1 by omega]
        rfl
  · refine SimI_th (E := 2) (b := 0) R ?_ ?_ (by decide)
    · unfold jd_167
      rw [y_ck L 0 11 rfl rfl, Option.bind_some]
      by_cases c1 : 0 ≤ f ∧ f < m 76 12
      · obtain ⟨a, ea, ha, F, C⟩ := c_195 R hf c1.1 c1.2
        rw [ea, b_jtb, ((c_187 F C hp).2 (fun e => c ⟨c1, e⟩) h6).2, b_jtx]
      · rw [c_195n R h6 hf c1, b_jtx]
    · unfold jd_331 jd_331_b44
      rw [hb, Option.bind_some, if_pos (show jw 0 = 0 by decide), Option.bind_some, jms_e, if_neg (by decide)]
      rfl
end Look
