/-! count, sample, put -/
section Samples
variable {s : hS} {Q : hQ} {hm : hO} {I m : jM} {p q x y v : Int}
theorem si_count (R : RelH s Q hm I m) (h6 : s.1 < 1000000) (hp : okI p) : SimI (jd_181 0 p (hh s Q I)) (jd_364 p m) (fun E => if E = 0 then 1 else 0) s Q I := by
  have L := R.1
  have hp' : -2147483648 ≤ p ∧ p < 2147483648 := hp
  have i2 := x_in (x := p) (lo := 0) (hi := 5) (by omega) (by omega) (by decide) (by decide) (by decide) (by decide)
  by_cases c : 0 ≤ p ∧ p ≤ 5
  · have e1 : I 0 ((1 : Nat) : Int) = m 76 1 := R.2.1.1
    have e3 : I 0 ((3 : Nat) : Int) = m 76 5 := R.2.2.1.1
    have e6 : I 0 ((6 : Nat) : Int) = m 76 7 := R.2.2.2.2.1.1
    have e8 : I 0 ((8 : Nat) : Int) = m 76 12 := R.2.2.2.2.2.1.1
    have e10 : I 0 ((10 : Nat) : Int) = m 76 86 := R.2.2.2.2.2.2.1.1
    have e12 : I 0 ((12 : Nat) : Int) = m 76 92 := R.2.2.2.2.2.2.2.1.1
    have hp6 : p = 0 ∨ p = 1 ∨ p = 2 ∨ p = 3 ∨ p = 4 ∨ p = 5 := by omega
    have g := fun k => x_gi (R := Q) (I := I) (k := k) (Lt L (a := 0) rfl) (Lg L (t := 11 + 8) rfl rfl)
    have c5 := (c_185 hp (q := 5) (by unfold okI; omega) (hh s Q I)).1 c
    have hM : jd_364 p m = some (if p = 0 then m 76 1 else if p = 1 then m 76 12 else if p = 2 then m 76 92 else if p = 3 then m 76 7 else if p = 4 then m 76 86 else m 76 5, jms m 76 0 0) := by
      unfold jd_364
      rw [n_jw hp.1 hp.2, i2, if_pos c, if_neg (by decide), Option.bind_some]
      rcases hp6 with rfl | rfl | rfl | rfl | rfl | rfl <;> rfl
    have hC : jd_181 0 p (hh s Q I) = some (.inl (if p = 0 then m 76 1 else if p = 1 then m 76 12 else if p = 2 then m 76 92 else if p = 3 then m 76 7 else if p = 4 then m 76 86 else m 76 5), hh s Q I) := by
      unfold jd_181
      rw [c5, b_jtb, n_jw hp.1 hp.2, g, g, g, g, g, g, e1, e3, e6, e8, e10, e12]
      rcases hp6 with rfl | rfl | rfl | rfl | rfl | rfl <;> rfl
    exact SimI_id R hC hM rfl
  · refine SimI_th (E := 0) (b := if p = 0 then m 76 1 else if p = 1 then m 76 12 else if p = 2 then m 76 92 else if p = 3 then m 76 7 else if p = 4 then m 76 86 else if p = 5 then m 76 5 else 0) R ?_ ?_ (by decide)
    · unfold jd_181
      rw [(c_185 hp (q := 5) (by unfold okI; omega) _).2 c h6, b_jtx]
    · unfold jd_364
      rw [n_jw hp.1 hp.2, i2, if_neg c, if_pos rfl, Option.bind_some, if_neg (by omega), if_neg (by omega), if_neg (by omega), if_neg (by omega), if_neg (by omega), if_neg (by omega), if_neg (by omega), if_neg (by omega), if_neg (by omega), if_neg (by omega), if_neg (by omega), if_neg (by omega)]
      rfl
/-- the model's words for a sample -/
theorem k_206 {w : Int} (hp : okI p) (hw : isSd w) : jd_206 w p = pw w p := by
  unfold jd_206 pw
  rw [n_jw hp.1 hp.2, n_div (by rcases hw with rfl | rfl | rfl <;> decide) (by rcases hw with rfl | rfl | rfl <;> decide) (by decide) (by decide)]
theorem k_207 (hp : okI p) : jd_207 p = pf p := by
  unfold jd_207 pf
  rw [n_jw hp.1 hp.2]
def sOk (m : jM) (p q x y : Int) : Prop := (0 ≤ p ∧ p < m 76 1) ∧ (0 ≤ q ∧ q ≤ 2) ∧ (0 ≤ x ∧ x < pw (m 77 p) q) ∧ (0 ≤ y ∧ y < pw (m 78 p) q)
theorem k_210 (hn : 0 ≤ m 76 1 ∧ m 76 1 ≤ 60) (hp : okI p) : jw (jd_210 p m) = if 0 ≤ p ∧ p < m 76 1 then 1 else 0 := by
  have hp' : -2147483648 ≤ p ∧ p < 2147483648 := hp
  unfold jd_210
  rw [n_jw hp.1 hp.2, n_jw (z := m 76 1 - 1) (by omega) (by omega), x_in (by omega) (by omega) (by decide) (by decide) (by omega) (by omega)]
  by_cases h : 0 ≤ p ∧ p < m 76 1
  · rw [if_pos h, if_pos (by omega)]
  · rw [if_neg h, if_neg (by omega)]
theorem k_211 (hp : okI p) : jw (jd_211 p) = if 0 ≤ p ∧ p ≤ 2 then 1 else 0 := by
  have hp' : -2147483648 ≤ p ∧ p < 2147483648 := hp
  unfold jd_211
  rw [n_jw hp.1 hp.2, x_in (by omega) (by omega) (by decide) (by decide) (by decide) (by decide)]
theorem k_218 (R : RPic s Q hm I m) (hp : okI p) (hq : okI q) (hx : okI x) (hy : okI y) : ∃ b, jd_218 p q x y m = some b ∧ ((sOk m p q x y ∧ b = 1) ∨ (¬ sOk m p q x y ∧ b = 0)) := by
  obtain ⟨t1, t2, t3, t4, t5⟩ := R
  have hx' : -2147483648 ≤ x ∧ x < 2147483648 := hx
  have hy' : -2147483648 ≤ y ∧ y < 2147483648 := hy
  unfold jd_218 jd_218_b64 jd_218_b65
  rw [k_210 ⟨t2, t3⟩ hp, k_211 hq]
  by_cases c1 : 0 ≤ p ∧ p < m 76 1
  · rw [if_pos c1, if_neg (by decide)]
    by_cases c2 : 0 ≤ q ∧ q ≤ 2
    · obtain ⟨a, ha, X⟩ := t5 p c1.1 c1.2
      have b1 := pw_sd X.2.2.1 q
      have b2 := pw_sd X.2.2.2.1 q
      rw [if_pos c2, if_neg (by decide), y_ma 77 60 rfl rfl c1.1 (show p < ((60 : Nat) : Int) by omega), Option.bind_some, k_206 hq X.2.2.1, n_jw hx.1 hx.2, n_jw (z := pw (m 77 p) q - 1) (by omega) (by omega), x_in (by omega) (by omega) (by decide) (by decide) (by omega) (by omega)]
      by_cases c3 : 0 ≤ x ∧ x < pw (m 77 p) q
      · rw [if_pos (show 0 ≤ x ∧ x ≤ pw (m 77 p) q - 1 by omega), if_neg (by decide), y_ma 78 60 rfl rfl c1.1 (show p < ((60 : Nat) : Int) by omega), Option.bind_some, k_206 hq X.2.2.2.1, n_jw hy.1 hy.2, n_jw (z := pw (m 78 p) q - 1) (by omega) (by omega), x_in (by omega) (by omega) (by decide) (by decide) (by omega) (by omega)]
        by_cases c4 : 0 ≤ y ∧ y < pw (m 78 p) q
        · rw [if_pos (show 0 ≤ y ∧ y ≤ pw (m 78 p) q - 1 by omega), if_neg (by decide)]
          exact ⟨1, rfl, Or.inl ⟨⟨c1, c2, c3, c4⟩, rfl⟩⟩
        · rw [if_neg (show ¬ (0 ≤ y ∧ y ≤ pw (m 78 p) q - 1) by omega), if_pos rfl]
          exact ⟨0, rfl, Or.inr ⟨fun h => c4 h.2.2.2, rfl⟩⟩
      · rw [if_neg (show ¬ (0 ≤ x ∧ x ≤ pw (m 77 p) q - 1) by omega), if_pos rfl]
        exact ⟨0, rfl, Or.inr ⟨fun h => c3 h.2.2.1, rfl⟩⟩
    · rw [if_neg c2, if_pos rfl]
      exact ⟨0, rfl, Or.inr ⟨fun h => c2 h.2.1, rfl⟩⟩
  · rw [if_neg c1, if_pos rfl]
    exact ⟨0, rfl, Or.inr ⟨fun h => c1 h.1, rfl⟩⟩
theorem k_212 {w : Int} (hp : 0 ≤ p ∧ p < 60) (hq : okI q) (hw : m 77 p = w) (hs : isSd w) : jd_212 p q x y m = some (864 * p + pf q + y * pw w q + x) := by
  unfold jd_212
  rw [y_ma 77 60 rfl rfl hp.1 (show p < ((60 : Nat) : Int) by omega), Option.bind_some, hw, k_206 hq hs, k_207 hq]
/-- where a sample stands: in the class's row, in the model's -/
theorem sOk_at (R : RPic s Q hm I m) (c : sOk m p q x y) : ∃ a, Q 1 p = some a ∧ PicAt s Q hm a p ∧ Pix I a (m 77 p) (m 78 p) (fun j => m 79 (864 * p + j)) ∧ 0 ≤ y * pw (m 77 p) q + x ∧ y * pw (m 77 p) q + x < pw (m 77 p) q * pw (m 78 p) q ∧ 0 ≤ pb (m 77 p) (m 78 p) q ∧ pb (m 77 p) (m 78 p) q + pw (m 77 p) q * pw (m 78 p) q ≤ 864 ∧ 0 ≤ pf q ∧ pf q + pw (m 77 p) q * pw (m 78 p) q ≤ 864 := by
  obtain ⟨t1, t2, t3, t4, t5⟩ := R
  obtain ⟨c1, c2, c3, c4⟩ := c
  obtain ⟨a, ha, X⟩ := t5 p c1.1 c1.2
  have b := pl_sz X.2.2.1 X.2.2.2.1 c2.1 c2.2
  have d := dm_b c4.1 c4.2 c3.1 c3.2
  exact ⟨a, ha, t4 p c1.1 (by omega) a ha, X, d.1, d.2, b.1, b.2.1, b.2.2.2.2.1, b.2.2.2.2.2⟩
theorem si_sample (R : RelH s Q hm I m) (h6 : s.1 < 1000000) (hp : okI p) (hq : okI q) (hx : okI x) (hy : okI y) : SimI (jd_145 0 p q x y (hh s Q I)) (jd_220 p q x y m) (fun E => if E = 2 then 1 else 0) s Q I := by
  have L := R.1
  obtain ⟨b, hb, hbv⟩ := k_218 R.2.1 hp hq hx hy
  rcases hbv with ⟨c, rfl⟩ | ⟨c, rfl⟩
  · obtain ⟨a, ha, A, X, z0, z1, d0, d1, f0, f1⟩ := sOk_at R.2.1 c
    obtain ⟨a', ea, ha', -, -⟩ := c_193 R hp c.1.1 c.1.2
    rw [ha] at ha'
    cases ha'
    have hs := R.2.1.2.2.1
    have hp' := c.1
    refine SimI_id (v := m 79 (864 * p + (pf q + (y * pw (m 77 p) q + x)))) (b := m 79 (864 * p + (pf q + (y * pw (m 77 p) q + x)))) R ?_ ?_ rfl
    · have e2 : Q a ((2 : Nat) : Int) = some (a + 1) := A.2.2.2
      unfold jd_145
      rw [y_ck L 0 11 rfl rfl, Option.bind_some, ea, b_jtb, x_gr A.2.1.1 A.2.1.2.1, Option.bind_some, e2, c_191 A X hq hx hy c.2.1 c.2.2.1 c.2.2.2, b_jtb, Option.bind_some, x_ai A.2.2.1.1 (by omega) A.2.2.1.2.1 (by omega) (by rw [A.2.2.1.2.2.1]; omega) (by rw [A.2.2.1.2.2.1]; decide), Option.bind_some]
      have := (X.2.2.2.2 q (y * pw (m 77 p) q + x) c.2.1.1 c.2.1.2 z0 z1).1
      rw [show pb (m 77 p) (m 78 p) q + y * pw (m 77 p) q + x = pb (m 77 p) (m 78 p) q + (y * pw (m 77 p) q + x) by omega, this]
    · unfold jd_220 jd_220_b46
      have e7 : (jms m 76 0 0) 77 p = m 77 p := rfl
      rw [hb, Option.bind_some, if_neg (show ¬ jw 1 = 0 by decide), Option.bind_some, jms_e, if_pos (by decide), k_212 ⟨hp'.1, by omega⟩ hq e7 X.2.2.1, Option.bind_some, y_ma 79 51840 rfl rfl (by omega) (show _ < ((51840 : Nat) : Int) by omega), Option.bind_some, show 864 * p + pf q + y * pw (m 77 p) q + x = 864 * p + (pf q + (y * pw (m 77 p) q + x)) by omega]
      rfl
  · refine SimI_th (E := 2) (b := 0) R ?_ ?_ (by decide)
    · unfold jd_145
      rw [y_ck L 0 11 rfl rfl, Option.bind_some]
      by_cases c1 : 0 ≤ p ∧ p < m 76 1
      · obtain ⟨a, ea, ha, A, X⟩ := c_193 R hp c1.1 c1.2
        rw [ea, b_jtb, x_gr A.2.1.1 A.2.1.2.1, Option.bind_some, c_191n A X h6 hq hx hy (fun h => c ⟨c1, h⟩), b_jtx]
      · rw [c_193n R h6 hp c1, b_jtx]
    · unfold jd_220 jd_220_b46
      rw [hb, Option.bind_some, if_pos (show jw 0 = 0 by decide), Option.bind_some, jms_e, if_neg (by decide)]
      rfl
end Samples
