/-! part, buffer, row, forget -/
section PartBuf
variable {s : hS} {Q : hQ} {hm : hO} {I m : jM} {a : Nat} {f p q x y v z : Int}
theorem n_pts {w h : Int} (sw : isSd w) (sh : isSd h) : jdiv w 8 * jdiv h 8 = w / 8 * (h / 8) ∧ 1 ≤ w / 8 * (h / 8) ∧ w / 8 * (h / 8) ≤ 9 := by
  rcases sw with rfl | rfl | rfl <;> rcases sh with rfl | rfl | rfl <;> decide
theorem c_189 (F : FilmAt s Q hm a f) (C : FilmC s Q I m a f) (hp : okI p) : (0 ≤ p ∧ p < m 84 f / 8 * (m 85 f / 8) → jd_189 (some a) p (hh s Q I) = some (.inl (), hh s Q I)) ∧ (¬ (0 ≤ p ∧ p < m 84 f / 8 * (m 85 f / 8)) → s.1 < 1000000 → jd_189 (some a) p (hh s Q I) = some (.inr 2, jth (hh s Q I) 2)) := by
  have e1 : I a ((1 : Nat) : Int) = m 84 f := C.1.2.1
  have e2 : I a ((2 : Nat) : Int) = m 85 f := C.1.2.2.1
  obtain ⟨n1, n2, n3⟩ := n_pts C.2.1.1 C.2.1.2.1
  unfold jd_189 jd_189_b12 jd_41
  rw [n_jw hp.1 hp.2]
  refine ⟨fun c => ?_, fun c h6 => ?_⟩
  · rw [if_neg (by omega), Option.bind_some, F_ck F, Option.bind_some, F_gi F, Option.bind_some, F_gi F, Option.bind_some, Option.bind_some, e1, e2, n1, n_jw (by omega) (by omega), if_pos c.2]
  · rw [x_6 h6, Option.bind_some]
    by_cases h0 : p < 0
    · rw [if_pos h0]
    · rw [if_neg h0, Option.bind_some, F_ck F, Option.bind_some, F_gi F, Option.bind_some, F_gi F, Option.bind_some, Option.bind_some, e1, e2, n1, n_jw (by omega) (by omega), if_neg (by omega)]
theorem k_316 (C : FilmC s Q I m a f) (hf : 0 ≤ f ∧ f < 8) : jd_316 f m = some (m 84 f / 8 * (m 85 f / 8)) := by
  unfold jd_316
  rw [y_ma 84 8 rfl rfl hf.1 (by omega), Option.bind_some, y_ma 85 8 rfl rfl hf.1 (by omega), Option.bind_some, (n_pts C.2.1.1 C.2.1.2.1).1]
theorem si_part (R : RelH s Q hm I m) (h6 : s.1 < 1000000) (hf : okI f) (hp : okI p) (hq : okI q) (hx : okI x) : SimI (jd_160 0 f p q x (hh s Q I)) (jd_317 f p q x m) (fun E => if E = 2 then 1 else if E = 0 then 2 else 0) s Q I := by
  have L := R.1
  have n8 := R.2.2.2.2.2.1.2.2.1
  have hq' : -2147483648 ≤ q ∧ q < 2147483648 := hq
  have hx' : -2147483648 ≤ x ∧ x < 2147483648 := hx
  have i2 := x_in (x := x) (lo := 0) (hi := 6) (by omega) (by omega) (by decide) (by decide) (by decide) (by decide)
  have o6 : okI 6 := by unfold okI; omega
  obtain ⟨b, hb, hbv⟩ := k_314 R hf hp
  have b36 : jd_317_b36 f p q x m = some (0, jms m 76 0 1) := by
    unfold jd_317_b36 jd_317_b94
    rw [Option.bind_some, jms_e, if_neg (by decide)]
  rcases hbv with ⟨c, rfl⟩ | ⟨c, rfl⟩
  · obtain ⟨a, ea, ha, F, C⟩ := c_195 R hf c.1.1 c.1.2
    have n12 := C.2.2.2.1.2.1
    have c1 := c.1
    have c2 := c.2
    obtain ⟨g1, g2, g3⟩ := n_pts C.2.1.1 C.2.1.2.1
    have cr := C.2.2.2.1.2.2.1
    have cr2 := C.2.2.2.1.2.2.2.1
    have e0 : I a ((0 : Nat) : Int) = m 83 f := C.1.1
    have nc := n_jw (z := m 83 f) (by omega) (by omega)
    have i3 := x_in (x := q) (lo := 0) (hi := m 84 f / 8 * (m 85 f / 8) - 1) (by omega) (by omega) (by decide) (by decide) (by omega) (by omega)
    by_cases cc : m 83 f = 0
    · have pM : jd_317 f p q x m = jd_317_b58 f p q x (if (if 0 ≤ q ∧ q ≤ m 84 f / 8 * (m 85 f / 8) - 1 then (1 : Int) else 0) = 0 then 1 else (if (if 0 ≤ x ∧ x ≤ 6 then (1 : Int) else 0) = 0 then 2 else 0)) m := by
        unfold jd_317
        rw [hb, Option.bind_some, if_neg (show ¬ jw 1 = 0 by decide), y_ma 83 8 rfl rfl c.1.1 (by omega), Option.bind_some, nc, if_pos cc, k_316 C ⟨c.1.1, by omega⟩, Option.bind_some, n_jw hq.1 hq.2, n_jw hx.1 hx.2, n_jw (z := m 84 f / 8 * (m 85 f / 8) - 1) (by omega) (by omega), i3, i2]
      by_cases c3 : 0 ≤ q ∧ q < m 84 f / 8 * (m 85 f / 8)
      · by_cases c4 : 0 ≤ x ∧ x ≤ 6
        · obtain ⟨-, -, -, -, -, d11, -, d13, -, -, d16⟩ := C.2.2.2.2 p c.2.1 c.2.2
          have K := d16 cc q x c3.1 c3.2 c4.1 (by omega)
          have nsp := n_jw (z := m 97 (12 * f + p)) (by omega) (by omega)
          have q17 := F_q F 10 17 rfl rfl
          have q18 := F_q F 11 18 rfl rfl
          refine SimI_id (v := m 101 (63 * (12 * f + p) + 7 * q + x)) (b := m 101 (63 * (12 * f + p) + 7 * q + x)) R ?_ ?_ rfl
          · have b68 : jd_160_b68 0 p q x (some a) (hh s Q I) = some (.inl (I (a + 12) ((p * 9 + q) * 7 + x)), hh s Q I) := by
              unfold jd_160_b68
              rw [Option.bind_some, F_gr F, Option.bind_some, q18, Option.bind_some, F_ai F (by omega) 12 756 rfl rfl rfl (by omega) (by omega), Option.bind_some]
            unfold jd_160
            rw [y_ck L 0 11 rfl rfl, Option.bind_some, ea, b_jtb, ((c_187 F C hp).1 c.2).1, b_jtb, F_gi F, Option.bind_some, e0, nc, if_pos cc, (c_189 F C hq).1 c3, b_jtb, (c_185 hx o6 _).1 c4, b_jtb, F_gr F, Option.bind_some, q17, Option.bind_some, F_ai F (by omega) 11 12 rfl rfl rfl c.2.1 (by omega), Option.bind_some, d11, nsp, b68, Option.bind_some, Option.bind_some, F_ai F (by omega) 11 12 rfl rfl rfl c.2.1 (by omega), Option.bind_some, d11, n_jw hq.1 hq.2, nsp, K]
            by_cases c5 : m 97 (12 * f + p) < 0
            · rw [if_pos c5, if_neg (by omega)]
            · rw [if_neg c5]
              by_cases c6 : q < m 97 (12 * f + p)
              · rw [if_pos c6, if_neg (by omega)]
              · rw [if_neg c6, if_pos (by omega)]
          · rw [pM, if_pos (show 0 ≤ q ∧ q ≤ m 84 f / 8 * (m 85 f / 8) - 1 by omega), if_pos c4, if_neg (by decide), if_neg (by decide)]
            unfold jd_317_b58 jd_317_b94
            rw [Option.bind_some, jms_e, if_pos (by decide), y_ma 101 6048 rfl rfl (by omega) (by omega), Option.bind_some]
            rfl
        · refine SimI_th (E := 0) (b := 0) R ?_ ?_ (by decide)
          · unfold jd_160
            rw [y_ck L 0 11 rfl rfl, Option.bind_some, ea, b_jtb, ((c_187 F C hp).1 c.2).1, b_jtb, F_gi F, Option.bind_some, e0, nc, if_pos cc, (c_189 F C hq).1 c3, b_jtb, (c_185 hx o6 _).2 c4 h6, b_jtx]
          · rw [pM, if_pos (show 0 ≤ q ∧ q ≤ m 84 f / 8 * (m 85 f / 8) - 1 by omega), if_neg c4, if_neg (by decide), if_pos rfl]
            unfold jd_317_b58 jd_317_b94
            rw [Option.bind_some, jms_e, if_neg (by decide)]
            rfl
      · refine SimI_th (E := 2) (b := 0) R ?_ ?_ (by decide)
        · unfold jd_160
          rw [y_ck L 0 11 rfl rfl, Option.bind_some, ea, b_jtb, ((c_187 F C hp).1 c.2).1, b_jtb, F_gi F, Option.bind_some, e0, nc, if_pos cc, (c_189 F C hq).2 c3 h6, b_jtx]
        · rw [pM, if_neg (show ¬ (0 ≤ q ∧ q ≤ m 84 f / 8 * (m 85 f / 8) - 1) by omega), if_pos rfl]
          unfold jd_317_b58 jd_317_b94
          rw [Option.bind_some, jms_e, if_neg (by decide)]
          rfl
    · refine SimI_th (E := 2) (b := 0) R ?_ ?_ (by decide)
      · unfold jd_160
        rw [y_ck L 0 11 rfl rfl, Option.bind_some, ea, b_jtb, ((c_187 F C hp).1 c.2).1, b_jtb, F_gi F, Option.bind_some, e0, nc, if_neg cc, x_6 h6, Option.bind_some]
      · unfold jd_317
        rw [hb, Option.bind_some, if_neg (show ¬ jw 1 = 0 by decide), y_ma 83 8 rfl rfl c.1.1 (by omega), Option.bind_some, nc, if_neg cc, b36]
        rfl
  · refine SimI_th (E := 2) (b := 0) R ?_ ?_ (by decide)
    · unfold jd_160
      rw [y_ck L 0 11 rfl rfl, Option.bind_some]
      by_cases c1 : 0 ≤ f ∧ f < m 76 12
      · obtain ⟨a, ea, ha, F, C⟩ := c_195 R hf c1.1 c1.2
        rw [ea, b_jtb, ((c_187 F C hp).2 (fun e => c ⟨c1, e⟩) h6).1, b_jtx]
      · rw [c_195n R h6 hf c1, b_jtx]
    · unfold jd_317
      rw [hb, Option.bind_some, if_pos (show jw 0 = 0 by decide), b36]
      rfl
/-- the buffer, picture by picture -/
def bufN (size flow : Int) (g : Int → Int) : Nat → Int
  | 0 => size / 2
  | n + 1 => (if bufN size flow g n + flow < size then bufN size flow g n + flow else size) - 8 * g n
theorem bufN_b {g : Int → Int} (hs : 100 ≤ x ∧ x ≤ 20000) (hv : 50 ≤ y ∧ y ≤ 10000) : ∀ n : Nat, n ≤ 12 → (∀ k : Nat, k < n → 0 ≤ g k ∧ g k ≤ 2000) → -(16000 * (n : Int)) ≤ bufN x y g n ∧ bufN x y g n ≤ 20000
  | 0, _, _ => by
    unfold bufN
    omega
  | n + 1, h, hg => by
    have ih := bufN_b hs hv n (by omega) (fun k hk => hg k (by omega))
    have := hg n (by omega)
    unfold bufN
    split <;> omega
theorem si_buffer (R : RelH s Q hm I m) (h6 : s.1 < 1000000) (hf : okI f) (hp : okI p) (hx : okI x) (hy : okI y) : SimI (jd_164 0 f p x y (hh s Q I)) (jd_324 f p x y m) (fun E => if E = 2 then 1 else if E = 0 then 2 else 0) s Q I := by
  have L := R.1
  have n8 := R.2.2.2.2.2.1.2.2.1
  have hx' : -2147483648 ≤ x ∧ x < 2147483648 := hx
  have hy' : -2147483648 ≤ y ∧ y < 2147483648 := hy
  have i1 := x_in (x := x) (lo := 100) (hi := 20000) (by omega) (by omega) (by decide) (by decide) (by decide) (by decide)
  have i2 := x_in (x := y) (lo := 50) (hi := 10000) (by omega) (by omega) (by decide) (by decide) (by decide) (by decide)
  have s5 : jst 1 5 = some 100 := by decide
  have t5 : jst 2 5 = some 20000 := by decide
  have s6 : jst 1 6 = some 50 := by decide
  have t6 : jst 2 6 = some 10000 := by decide
  obtain ⟨b, hb, hbv⟩ := k_314 R hf hp
  rcases hbv with ⟨c, rfl⟩ | ⟨c, rfl⟩
  · obtain ⟨a, ea, ha, F, C⟩ := c_195 R hf c.1.1 c.1.2
    have n12 := C.2.2.2.1.2.1
    have c1 := c.1
    have c2 := c.2
    have pC : jd_164 0 f p x y (hh s Q I) = jd_164_b36 0 p x y (some a) (if 100 ≤ x ∧ x ≤ 20000 then 1 else 0) (hh s Q I) := by
      unfold jd_164
      rw [y_ck L 0 11 rfl rfl, Option.bind_some, ea, b_jtb, ((c_187 F C hp).1 c.2).1, b_jtb, s5, Option.bind_some, n_jw hx.1 hx.2, show jw 100 = 100 by decide, t5, Option.bind_some, show jw 20000 = 20000 by decide]
      by_cases d1 : x < 100
      · rw [if_pos d1, if_neg (show ¬ (100 ≤ x ∧ x ≤ 20000) by omega)]
      · rw [if_neg d1]
        by_cases d2 : 20000 < x
        · rw [if_pos d2, if_neg (show ¬ (100 ≤ x ∧ x ≤ 20000) by omega)]
        · rw [if_neg d2, if_pos (show (100 ≤ x ∧ x ≤ 20000) by omega)]
    by_cases c3 : (100 ≤ x ∧ x ≤ 20000) ∧ 50 ≤ y ∧ y ≤ 10000
    · have gb : ∀ k : Nat, (k : Int) ≤ p → 0 ≤ m 93 (12 * f + k) ∧ m 93 (12 * f + k) ≤ 2000 := fun k hk => (C.2.2.2.1.2.2.2.2.2.2.2 k (by omega) (by omega)).2.2.2.2.1
      refine SimI_id (v := bufN x y (fun k => m 93 (12 * f + k)) (p.toNat + 1)) (b := bufN x y (fun k => m 93 (12 * f + k)) (p.toNat + 1)) R ?_ ?_ rfl
      · rw [pC, if_pos c3.1]
        unfold jd_164_b36
        rw [if_neg (show ¬ jw 1 = 0 by decide), s6, Option.bind_some, n_jw hy.1 hy.2, show jw 50 = 50 by decide, if_neg (by omega), t6, Option.bind_some, show jw 10000 = 10000 by decide, if_pos (by omega), n_div (by omega) (by omega) (by decide) (by decide)]
        have key : jd_164_l84 0 p x y (some a) (x / 2) 0 (hh s Q I) = some (bufN x y (fun k => m 93 (12 * f + k)) (p.toNat + 1)) := by
          unfold jd_164_l84
          refine w_for (f := fun u : (Int × Int) => jd_164_s84 0 p x y (some a) u.1 u.2 (hh s Q I)) (fun k => (bufN x y (fun k => m 93 (12 * f + k)) k, (k : Int))) (p.toNat + 1) (x := bufN x y (fun k => m 93 (12 * f + k)) (p.toNat + 1)) (fun k hk => ?_) ?_ (n_fu (n := p.toNat + 1) (by omega))
          · dsimp only
            unfold jd_164_s84
            have bb := bufN_b (g := fun k => m 93 (12 * f + k)) c3.1 c3.2 k (by omega) (fun j hj => gb j (by omega))
            have e4 : I (a + 4) (k : Int) = m 93 (12 * f + k) := (C.2.2.2.2 k (by omega) (by omega)).1.2.2.2.1
            rw [n_jw hp.1 hp.2, n_jw (z := (k : Int)) (by omega) (by omega), if_neg (by omega), Option.bind_some, F_gr F, Option.bind_some, F_q F 3 10 rfl rfl, Option.bind_some, F_ai F (by omega) 4 12 rfl rfl rfl (by omega) (by omega), Option.bind_some, e4, n_jw (by omega) (by omega), n_jw hx.1 hx.2, Option.bind_some]
            rfl
          · dsimp only
            unfold jd_164_s84
            rw [n_jw hp.1 hp.2, n_jw (by omega) (by omega), if_pos (by omega)]
        rw [key, Option.bind_some]
      · unfold jd_324 jd_324_b48
        rw [hb, Option.bind_some, if_neg (show ¬ jw 1 = 0 by decide), n_jw hx.1 hx.2, n_jw hy.1 hy.2, i1, i2, if_pos c3.1, if_pos c3.2, if_neg (by decide), if_neg (by decide), Option.bind_some, jms_e, if_pos (by decide), n_div (by omega) (by omega) (by decide) (by decide)]
        have key : jd_324_l68 f p x y (x / 2) 0 (jms m 76 0 0) = some (bufN x y (fun k => m 93 (12 * f + k)) (p.toNat + 1)) := by
          unfold jd_324_l68
          refine w_for (f := fun u : (Int × Int) => jd_324_s68 f p x y u.1 u.2 (jms m 76 0 0)) (fun k => (bufN x y (fun k => m 93 (12 * f + k)) k, (k : Int))) (p.toNat + 1) (x := bufN x y (fun k => m 93 (12 * f + k)) (p.toNat + 1)) (fun k hk => ?_) ?_ (n_fu (n := p.toNat + 1) (by omega))
          · dsimp only
            unfold jd_324_s68
            have bb := bufN_b (g := fun k => m 93 (12 * f + k)) c3.1 c3.2 k (by omega) (fun j hj => gb j (by omega))
            have ez : (if x ≤ bufN x y (fun k => m 93 (12 * f + k)) k + y then x else bufN x y (fun k => m 93 (12 * f + k)) k + y) = (if bufN x y (fun k => m 93 (12 * f + k)) k + y < x then bufN x y (fun k => m 93 (12 * f + k)) k + y else x) := by split <;> split <;> omega
            rw [n_jw hp.1 hp.2, n_jw (z := (k : Int)) (by omega) (by omega), if_neg (by omega), n_jw hx.1 hx.2, n_jw (by omega) (by omega), ez, Option.bind_some, y_ma 93 96 rfl rfl (by omega) (by omega), Option.bind_some]
            rfl
          · dsimp only
            unfold jd_324_s68
            rw [n_jw hp.1 hp.2, n_jw (by omega) (by omega), if_pos (by omega)]
        rw [key, Option.bind_some]
    · refine SimI_th (E := 0) (b := 0) R ?_ ?_ (by decide)
      · rw [pC]
        unfold jd_164_b36 jd_164_b65
        rw [x_6 h6, Option.bind_some, s6, Option.bind_some, n_jw hy.1 hy.2, show jw 50 = 50 by decide, t6, Option.bind_some, show jw 10000 = 10000 by decide]
        by_cases d1 : 100 ≤ x ∧ x ≤ 20000
        · rw [if_pos d1, if_neg (show ¬ jw 1 = 0 by decide)]
          by_cases d2 : y < 50
          · rw [if_pos d2]
          · rw [if_neg d2, if_neg (by omega)]
        · rw [if_neg d1, if_pos (show jw 0 = 0 by decide)]
      · unfold jd_324 jd_324_b48
        rw [hb, Option.bind_some, if_neg (show ¬ jw 1 = 0 by decide), n_jw hx.1 hx.2, n_jw hy.1 hy.2, i1, i2]
        have ez : (if (if 100 ≤ x ∧ x ≤ 20000 then (1 : Int) else 0) = 0 then (2 : Int) else if (if 50 ≤ y ∧ y ≤ 10000 then (1 : Int) else 0) = 0 then 2 else 0) = 2 := by
          by_cases d1 : 100 ≤ x ∧ x ≤ 20000
          · rw [if_pos d1, if_neg (by decide), if_neg (show ¬ (50 ≤ y ∧ y ≤ 10000) from fun e => c3 ⟨d1, e⟩), if_pos rfl]
          · rw [if_neg d1, if_pos rfl]
        rw [ez, Option.bind_some, jms_e, if_neg (by decide)]
        rfl
  · refine SimI_th (E := 2) (b := 0) R ?_ ?_ (by decide)
    · unfold jd_164
      rw [y_ck L 0 11 rfl rfl, Option.bind_some]
      by_cases c1 : 0 ≤ f ∧ f < m 76 12
      · obtain ⟨a, ea, ha, F, C⟩ := c_195 R hf c1.1 c1.2
        rw [ea, b_jtb, ((c_187 F C hp).2 (fun e => c ⟨c1, e⟩) h6).1, b_jtx]
      · rw [c_195n R h6 hf c1, b_jtx]
    · unfold jd_324 jd_324_b48
      rw [hb, Option.bind_some, if_pos (show jw 0 = 0 by decide), Option.bind_some, jms_e, if_neg (by decide)]
      rfl
theorem si_row (R : RelH s Q hm I m) (h6 : s.1 < 1000000) (hf : okI f) (hp : okI p) (hq : okI q) : SimI (jd_165 0 f p q (hh s Q I)) (jd_325 f p q m) (fun E => if E = 2 then 1 else if E = 0 then 2 else if E = 1 then 3 else 0) s Q I := by
  have R0 := R
  have L := R.1
  have n8 := R.2.2.2.2.2.1.2.2.1
  obtain ⟨u1, u2, u3, u4⟩ := id R.2.2.2.2.2.2.1
  obtain ⟨b, hb, hbv⟩ := k_314 R hf hp
  obtain ⟨b', hb', hbv'⟩ := k_314 R hf hq
  have b19 : jd_325_b19 f p q m = some (0, jms m 76 0 1) := by
    unfold jd_325_b19
    rw [Option.bind_some, jms_e, if_neg (by decide)]
  by_cases cA : cOk m f p ∧ cOk m f q
  · obtain ⟨c, c'⟩ := cA
    have eb : b = 1 := by rcases hbv with h | h; exact h.2; exact absurd c h.1
    have eb' : b' = 1 := by rcases hbv' with h | h; exact h.2; exact absurd c' h.1
    subst eb eb'
    obtain ⟨a, ea, ha, F, C⟩ := c_195 R hf c.1.1 c.1.2
    have n12 := C.2.2.2.1.2.1
    have c1 := c.1
    have c2 := c.2
    have c2' := c'.2
    have cr := C.2.2.2.1.2.2.1
    have cr2 := C.2.2.2.1.2.2.2.1
    have e0 : I a ((0 : Nat) : Int) = m 83 f := C.1.1
    have nc := n_jw (z := m 83 f) (by omega) (by omega)
    have nr := n_jw (z := m 76 86) (by omega) (by omega)
    have pM : jd_325 f p q m = jd_325_b55 f p q (if m 83 f = 0 then (if p ≤ q then (if m 76 86 = 8 then 3 else 0) else 2) else 2) m := by
      unfold jd_325
      rw [hb, Option.bind_some, if_neg (show ¬ jw 1 = 0 by decide), hb', Option.bind_some, if_neg (show ¬ jw 1 = 0 by decide), y_ma 83 8 rfl rfl c.1.1 (by omega), Option.bind_some, nc, n_jw hp.1 hp.2, n_jw hq.1 hq.2, nr]
    have e9 : Q 0 ((9 : Nat) : Int) = some 6 := Lq L rfl
    have e10 : I 0 ((10 : Nat) : Int) = m 76 86 := u1
    by_cases cc : m 83 f = 0 ∧ p ≤ q
    · by_cases c8 : m 76 86 < 8
      · have eC : jd_165 0 f p q (hh s Q I) = some (.inl (m 76 86 + 1), hh s Q (jms (jms (jms (jms I 6 (3 * m 76 86) f) 6 (3 * m 76 86 + 1) p) 6 (3 * m 76 86 + 2) q) 0 10 (m 76 86 + 1))) := by
          unfold jd_165
          have g1 : jms I 6 (3 * m 76 86) f 0 ((10 : Nat) : Int) = m 76 86 := u1
          have g2 : jms (jms I 6 (3 * m 76 86) f) 6 (3 * m 76 86 + 1) p 0 ((10 : Nat) : Int) = m 76 86 := u1
          have g3 : jms (jms (jms I 6 (3 * m 76 86) f) 6 (3 * m 76 86 + 1) p) 6 (3 * m 76 86 + 2) q 0 ((10 : Nat) : Int) = m 76 86 := u1
          rw [y_ck L 0 11 rfl rfl, Option.bind_some, ea, b_jtb, ((c_187 F C hp).1 c.2).2, b_jtb, ((c_187 F C hq).1 c'.2).2, b_jtb, F_gi F, Option.bind_some, e0, nc, if_pos cc.1, n_jw hp.1 hp.2, n_jw hq.1 hq.2, if_pos cc.2, y_gi L 0 11 rfl rfl, Option.bind_some, e10, nr, if_pos c8, y_gr L 0 11 rfl rfl, Option.bind_some, Option.bind_some, e9, Option.bind_some, y_ta L 6 0 24 rfl rfl rfl (by omega) (by omega), Option.bind_some, y_gr L 0 11 rfl rfl, Option.bind_some, y_gi L 0 11 rfl rfl, Option.bind_some, g1, e9, Option.bind_some, y_ta L 6 0 24 rfl rfl rfl (by omega) (by omega), Option.bind_some, y_gr L 0 11 rfl rfl, Option.bind_some, y_gi L 0 11 rfl rfl, Option.bind_some, g2, e9, Option.bind_some, y_ta L 6 0 24 rfl rfl rfl (by omega) (by omega), Option.bind_some, y_gi L 0 11 rfl rfl, Option.bind_some, g3, y_pi L 0 11 rfl rfl, Option.bind_some, y_gi L 0 11 rfl rfl, Option.bind_some, jms_e]
          rfl
        have eM : jd_325 f p q m = some (m 76 86 + 1, jms (jms (jms (jms (jms m 76 0 0) 131 (m 76 86) f) 132 (m 76 86) p) 133 (m 76 86) q) 76 86 (m 76 86 + 1)) := by
          rw [pM, if_pos cc.1, if_pos cc.2, if_neg (by omega)]
          unfold jd_325_b55
          have g0 : jms m 76 0 0 76 86 = m 76 86 := rfl
          have g1 : jms (jms m 76 0 0) 131 (m 76 86) f 76 86 = m 76 86 := rfl
          have g2 : jms (jms (jms m 76 0 0) 131 (m 76 86) f) 132 (m 76 86) p 76 86 = m 76 86 := rfl
          have g3 : jms (jms (jms (jms m 76 0 0) 131 (m 76 86) f) 132 (m 76 86) p) 133 (m 76 86) q 76 86 = m 76 86 := rfl
          rw [Option.bind_some, jms_e, if_pos (by decide), g0, y_mw 131 8 rfl rfl u2 (by omega), Option.bind_some, g1, y_mw 132 8 rfl rfl u2 (by omega), Option.bind_some, g2, y_mw 133 8 rfl rfl u2 (by omega), Option.bind_some, Option.bind_some, g3, jms_e]
        generalize hJ : jms (jms (jms (jms I 6 (3 * m 76 86) f) 6 (3 * m 76 86 + 1) p) 6 (3 * m 76 86 + 2) q) 0 10 (m 76 86 + 1) = J at eC
        generalize hN : jms (jms (jms (jms (jms m 76 0 0) 131 (m 76 86) f) 132 (m 76 86) p) 133 (m 76 86) q) 76 86 (m 76 86 + 1) = N at eM
        have jo : ∀ c, c ≠ 0 → c ≠ 6 → J c = I c := fun c h1 h2 => by rw [← hJ, jms_o h1, jms_o h2, jms_o h2, jms_o h2]
        have j0 : ∀ k : Int, k ≠ 10 → J 0 k = I 0 k := fun k hk => by rw [← hJ, jms_i hk]; rfl
        have j10 : J 0 10 = m 76 86 + 1 := by rw [← hJ]; exact jms_e
        have jr : ∀ k : Int, k ≠ 3 * m 76 86 → k ≠ 3 * m 76 86 + 1 → k ≠ 3 * m 76 86 + 2 → J 6 k = I 6 k := fun k h1 h2 h3 => by rw [← hJ, jms_o (by decide), jms_i h3, jms_i h2, jms_i h1]
        have ja : J 6 (3 * m 76 86) = f := by rw [← hJ, jms_o (by decide), jms_i (by omega), jms_i (by omega)]; exact jms_e
        have jb : J 6 (3 * m 76 86 + 1) = p := by rw [← hJ, jms_o (by decide), jms_i (by omega)]; exact jms_e
        have jc : J 6 (3 * m 76 86 + 2) = q := by rw [← hJ, jms_o (by decide)]; exact jms_e
        have S : Sm (fun o => o ≠ 1000 ∧ o ≠ 1006) s Q hm I s Q hm J := Sm_I (fun c _ hc => jo c (fun e => hc.1 (by rw [e]; exact Lo L rfl)) (fun e => hc.2 (by rw [e]; exact Lo L rfl)))
        have hE : ∀ x : Nat, 77 ≤ x → x ≠ 131 → x ≠ 132 → x ≠ 133 → N x = m x := fun x h1 h2 h3 h4 => by
          rw [← hN, jms_o (show x ≠ 76 by omega), jms_o h4, jms_o h3, jms_o h2, jms_o (show x ≠ 76 by omega)]
        have hF : ∀ k : Int, k ≠ 0 → k ≠ 86 → N 76 k = m 76 k := fun k h1 h2 => by
          rw [← hN, jms_i h2, jms_o (by decide), jms_o (by decide), jms_o (by decide), jms_i h1]
        have n86 : N 76 86 = m 76 86 + 1 := by rw [← hN]; exact jms_e
        have nb : ∀ k : Int, k ≠ m 76 86 → N 131 k = m 131 k ∧ N 132 k = m 132 k ∧ N 133 k = m 133 k := fun k hk => by
          rw [← hN]
          refine ⟨?_, ?_, ?_⟩
          · rw [jms_o (by decide), jms_o (by decide), jms_o (by decide), jms_i hk]; rfl
          · rw [jms_o (by decide), jms_o (by decide), jms_i hk]; rfl
          · rw [jms_o (by decide), jms_i hk]; rfl
        have na : N 131 (m 76 86) = f := by rw [← hN, jms_o (by decide), jms_o (by decide), jms_o (by decide)]; exact jms_e
        have nb' : N 132 (m 76 86) = p := by rw [← hN, jms_o (by decide), jms_o (by decide)]; exact jms_e
        have nc' : N 133 (m 76 86) = q := by rw [← hN, jms_o (by decide)]; exact jms_e
        have nz : N 76 0 = 0 := by rw [← hN]; rfl
        refine Or.inl ⟨_, _, s, Q, _, _, eC, eM, nz, rfl, Kp_of L S (fun i _ _ => by omega), Gr_refl, hm, ?_⟩
        obtain ⟨-, r1, r2, r3, r4, r5, r6, r7, r8, r9⟩ := R
        refine ⟨L, RPic_fr (m := m) L S (by omega) (fun i _ _ => by omega) (j0 _ (by decide)) (hF _ (by decide) (by decide)) (hE _ (by decide) (by decide) (by decide) (by decide)) (hE _ (by decide) (by decide) (by decide) (by decide)) (hE _ (by decide) (by decide) (by decide) (by decide)) r1, RTap_fr (I := I) (m := m) (j0 _ (by decide)) (Lay_fr L S (by decide) (by omega)).2 (hF _ (by decide) (by decide)) (hE _ (by decide) (by decide) (by decide) (by decide)) r2, RSet_fr (I := I) (m := m) (Lay_fr L S (by decide) (by omega)).2 (hE _ (by decide) (by decide) (by decide) (by decide)) r3, RRee_fr (m := m) L S (by omega) (fun i _ _ => by omega) (j0 _ (by decide)) (hF _ (by decide) (by decide)) (hF _ (by decide) (by decide)) (hF _ (by decide) (by decide)) (hE _ (by decide) (by decide) (by decide) (by decide)) r4, RFil_fr (m := m) L S (by omega) (fun i _ _ => by omega) (fun i _ _ => by omega) (fun i _ _ => by omega) (j0 _ (by decide)) (hF _ (by decide) (by decide)) (fun x _ _ => hE x (by omega) (by omega) (by omega) (by omega)) r5, ⟨by rw [j10, n86], by omega, by omega, fun r r0 r1 => ?_⟩, RFlt_fr (m := m) L S (by omega) (fun i _ _ => by omega) (j0 _ (by decide)) (hF _ (by decide) (by decide)) (hE _ (by decide) (by decide) (by decide) (by decide)) (hE _ (by decide) (by decide) (by decide) (by decide)) (hE _ (by decide) (by decide) (by decide) (by decide)) r7, RPly_fr (m := m) L S (by omega) (fun i _ _ => by omega) (fun i _ _ => by omega) (hF _ (by decide) (by decide)) (fun x _ _ => hE x (by omega) (by omega) (by omega) (by omega)) (fun x _ _ => hE x (by omega) (by omega) (by omega) (by omega)) r9 r8, RMis_fr L S (by omega) (by omega) (by omega) (fun i _ _ => by omega) (fun i _ _ => by omega) (fun i _ _ => by omega) r9⟩
        rw [hF 12 (by decide) (by decide), hE 83 (by decide) (by decide) (by decide) (by decide), hE 87 (by decide) (by decide) (by decide) (by decide)]
        by_cases hr : r = m 76 86
        · subst hr
          rw [ja, jb, jc, na, nb', nc']
          exact ⟨rfl, rfl, rfl, c.1.1, c.1.2, cc.1, c.2.1, cc.2, c'.2.2⟩
        · obtain ⟨k1, k2, k3⟩ := nb r hr
          rw [jr _ (by omega) (by omega) (by omega), jr _ (by omega) (by omega) (by omega), jr _ (by omega) (by omega) (by omega), k1, k2, k3]
          exact u4 r r0 (by omega)
      · refine SimI_th (E := 1) (b := 0) R ?_ ?_ (by decide)
        · unfold jd_165
          rw [y_ck L 0 11 rfl rfl, Option.bind_some, ea, b_jtb, ((c_187 F C hp).1 c.2).2, b_jtb, ((c_187 F C hq).1 c'.2).2, b_jtb, F_gi F, Option.bind_some, e0, nc, if_pos cc.1, n_jw hp.1 hp.2, n_jw hq.1 hq.2, if_pos cc.2, y_gi L 0 11 rfl rfl, Option.bind_some, e10, nr, if_neg c8, x_6 h6, Option.bind_some]
        · rw [pM, if_pos cc.1, if_pos cc.2, if_pos (by omega)]
          unfold jd_325_b55
          rw [Option.bind_some, jms_e, if_neg (by decide)]
          rfl
    · refine SimI_th (E := 0) (b := 0) R ?_ ?_ (by decide)
      · unfold jd_165 jd_165_b32
        rw [y_ck L 0 11 rfl rfl, Option.bind_some, ea, b_jtb, ((c_187 F C hp).1 c.2).2, b_jtb, ((c_187 F C hq).1 c'.2).2, b_jtb, F_gi F, Option.bind_some, e0, nc, n_jw hp.1 hp.2, n_jw hq.1 hq.2, x_6 h6, Option.bind_some]
        by_cases d1 : m 83 f = 0
        · rw [if_pos d1, if_neg (fun e => cc ⟨d1, e⟩)]
          rfl
        · rw [if_neg d1]
          rfl
      · rw [pM]
        have ez : (if m 83 f = 0 then (if p ≤ q then (if m 76 86 = 8 then (3 : Int) else 0) else 2) else 2) = 2 := by
          by_cases d1 : m 83 f = 0
          · rw [if_pos d1, if_neg (fun e => cc ⟨d1, e⟩)]
          · rw [if_neg d1]
        rw [ez]
        unfold jd_325_b55
        rw [Option.bind_some, jms_e, if_neg (by decide)]
        rfl
  · refine SimI_th (E := 2) (b := 0) R ?_ ?_ (by decide)
    · unfold jd_165
      rw [y_ck L 0 11 rfl rfl, Option.bind_some]
      by_cases c1 : 0 ≤ f ∧ f < m 76 12
      · obtain ⟨a, ea, ha, F, C⟩ := c_195 R hf c1.1 c1.2
        rw [ea, b_jtb]
        by_cases c2 : 0 ≤ p ∧ p < m 87 f
        · rw [((c_187 F C hp).1 c2).2, b_jtb, ((c_187 F C hq).2 (fun e => cA ⟨⟨c1, c2⟩, c1, e⟩) h6).2, b_jtx]
        · rw [((c_187 F C hp).2 c2 h6).2, b_jtx]
      · rw [c_195n R h6 hf c1, b_jtx]
    · unfold jd_325
      rw [hb, Option.bind_some]
      rcases hbv with ⟨h, rfl⟩ | ⟨h, rfl⟩
      · rw [if_neg (show ¬ jw 1 = 0 by decide), hb', Option.bind_some]
        rcases hbv' with ⟨h', rfl⟩ | ⟨h', rfl⟩
        · exact absurd ⟨h, h'⟩ cA
        · rw [if_pos (show jw 0 = 0 by decide), b19]
          rfl
      · rw [if_pos (show jw 0 = 0 by decide), b19]
        rfl
end PartBuf
