/-! coded, film, part, buffer -/
section Coded
variable {s : hS} {Q : hQ} {hm : hO} {I m : jM} {a : Nat} {f p q x y v z : Int}
theorem si_coded (R : RelH s Q hm I m) (h6 : s.1 < 1000000) (hf : okI f) (hp : okI p) (hq : okI q) : SimI (jd_159 0 f p q (hh s Q I)) (jd_315 f p q m) (fun E => if E = 2 then 1 else if E = 0 then 2 else 0) s Q I := by
  have L := R.1
  have n8 := R.2.2.2.2.2.1.2.2.1
  have hq' : -2147483648 ≤ q ∧ q < 2147483648 := hq
  have i2 := x_in (x := q) (lo := 0) (hi := 7) (by omega) (by omega) (by decide) (by decide) (by decide) (by decide)
  have o7 : okI 7 := by unfold okI; omega
  obtain ⟨b, hb, hbv⟩ := k_314 R hf hp
  rcases hbv with ⟨c, rfl⟩ | ⟨c, rfl⟩
  · obtain ⟨a, ea, ha, F, C⟩ := c_195 R hf c.1.1 c.1.2
    have n12 := C.2.2.2.1.2.1
    have c1 := c.1
    have c2 := c.2
    obtain ⟨⟨d1, d2, d3, d4, d5⟩, -, d7, -, d10, d11, -⟩ := C.2.2.2.2 p c.2.1 c.2.2
    by_cases c3 : 0 ≤ q ∧ q ≤ 7
    · have hC : jd_159 0 f p q (hh s Q I) = some (.inl (if q = 0 then m 90 (12 * f + p) else if q = 1 then m 91 (12 * f + p) else if q = 2 then m 92 (12 * f + p) else if q = 3 then m 93 (12 * f + p) else if q = 4 then m 94 (12 * f + p) else if q = 5 then (if jw (m 95 (12 * f + p) % 2) = 0 then 0 else 1) else if q = 6 then m 96 (12 * f + p) else m 97 (12 * f + p)), hh s Q I) := by
        unfold jd_159
        rw [y_ck L 0 11 rfl rfl, Option.bind_some, ea, b_jtb, ((c_187 F C hp).1 c.2).1, b_jtb, (c_185 hq o7 _).1 c3, b_jtb, n_jw hq.1 hq.2]
        have G : ∀ k : Nat, jgr (hh s Q I) a 2 k = some (Q a (k : Int)) := fun k => F_gr F
        rw [G, G, G, G, G, G, G, G, F_q F 0 7 rfl rfl, F_q F 1 8 rfl rfl, F_q F 2 9 rfl rfl, F_q F 3 10 rfl rfl, F_q F 4 11 rfl rfl, F_q F 6 13 rfl rfl, F_q F 9 16 rfl rfl, F_q F 10 17 rfl rfl]
        simp only [Option.bind_some]
        have h6' : s.1 ≤ 1000000 := by omega
        have pb' : p < ((12 : Nat) : Int) := by omega
        rw [F_ai F h6' 1 12 rfl rfl rfl c.2.1 pb', F_ai F h6' 2 12 rfl rfl rfl c.2.1 pb', F_ai F h6' 3 12 rfl rfl rfl c.2.1 pb', F_ai F h6' 4 12 rfl rfl rfl c.2.1 pb', F_ai F h6' 5 12 rfl rfl rfl c.2.1 pb', F_az F 7 12 rfl rfl rfl c.2.1 pb', F_ai F h6' 10 12 rfl rfl rfl c.2.1 pb', F_ai F h6' 11 12 rfl rfl rfl c.2.1 pb', d1, d2, d3, d4, d5, d7, d10, d11]
        have hp8 : q = 0 ∨ q = 1 ∨ q = 2 ∨ q = 3 ∨ q = 4 ∨ q = 5 ∨ q = 6 ∨ q = 7 := by omega
        rcases hp8 with rfl | rfl | rfl | rfl | rfl | rfl | rfl | rfl <;> rfl
      have hM : jd_315 f p q m = some ((if q = 0 then m 90 (12 * f + p) else if q = 1 then m 91 (12 * f + p) else if q = 2 then m 92 (12 * f + p) else if q = 3 then m 93 (12 * f + p) else if q = 4 then m 94 (12 * f + p) else if q = 5 then (if jw (m 95 (12 * f + p) % 2) = 0 then 0 else 1) else if q = 6 then m 96 (12 * f + p) else m 97 (12 * f + p)), jms m 76 0 0) := by
        unfold jd_315 jd_315_b31
        have z0 : 0 ≤ 12 * f + p := by omega
        have z1 : 12 * f + p < ((96 : Nat) : Int) := by omega
        rw [hb, Option.bind_some, if_neg (show ¬ jw 1 = 0 by decide), n_jw hq.1 hq.2, i2, if_pos c3, if_neg (by decide), Option.bind_some, jms_e, if_pos (by decide), y_ma 90 96 rfl rfl z0 z1, y_ma 91 96 rfl rfl z0 z1, y_ma 92 96 rfl rfl z0 z1, y_ma 93 96 rfl rfl z0 z1, y_ma 94 96 rfl rfl z0 z1, y_mz 95 96 rfl rfl z0 z1, y_ma 96 96 rfl rfl z0 z1, y_ma 97 96 rfl rfl z0 z1]
        have hp8 : q = 0 ∨ q = 1 ∨ q = 2 ∨ q = 3 ∨ q = 4 ∨ q = 5 ∨ q = 6 ∨ q = 7 := by omega
        rcases hp8 with rfl | rfl | rfl | rfl | rfl | rfl | rfl | rfl <;> rfl
      exact SimI_id R hC hM rfl
    · refine SimI_th (E := 0) (b := 0) R ?_ ?_ (by decide)
      · unfold jd_159
        rw [y_ck L 0 11 rfl rfl, Option.bind_some, ea, b_jtb, ((c_187 F C hp).1 c.2).1, b_jtb, (c_185 hq o7 _).2 c3 h6, b_jtx]
      · unfold jd_315 jd_315_b31
        rw [hb, Option.bind_some, if_neg (show ¬ jw 1 = 0 by decide), n_jw hq.1 hq.2, i2, if_neg c3, if_pos rfl, Option.bind_some, jms_e, if_neg (by decide)]
        rfl
  · refine SimI_th (E := 2) (b := 0) R ?_ ?_ (by decide)
    · unfold jd_159
      rw [y_ck L 0 11 rfl rfl, Option.bind_some]
      by_cases c1 : 0 ≤ f ∧ f < m 76 12
      · obtain ⟨a, ea, ha, F, C⟩ := c_195 R hf c1.1 c1.2
        rw [ea, b_jtb, ((c_187 F C hp).2 (fun e => c ⟨c1, e⟩) h6).1, b_jtx]
      · rw [c_195n R h6 hf c1, b_jtx]
    · unfold jd_315 jd_315_b31
      rw [hb, Option.bind_some, if_pos (show jw 0 = 0 by decide), Option.bind_some, jms_e, if_neg (by decide)]
      rfl
/-- sums over a film's pictures -/
def sumN (g : Int → Int) : Nat → Int
  | 0 => 0
  | n + 1 => sumN g n + g n
theorem sumN_c {g g' : Int → Int} : ∀ n : Nat, (∀ k : Nat, k < n → g k = g' k) → sumN g n = sumN g' n
  | 0, _ => rfl
  | n + 1, h => by
    unfold sumN
    rw [sumN_c n (fun k hk => h k (by omega)), h n (by omega)]
theorem c_39 (F : FilmAt s Q hm a f) (C : FilmC s Q I m a f) : jd_39 a (hh s Q I) = some (sumN (fun k => if jw (I (a + 7) k % 2) = 0 then 0 else 1) (m 87 f).toNat) := by
  have n1 := C.2.2.2.1.1
  have n12 := C.2.2.2.1.2.1
  have e4 : I a ((4 : Nat) : Int) = m 87 f := C.1.2.2.2.2.1
  unfold jd_39 jd_39_l4
  have := w_for (f := fun u : (Int × Int) => jd_39_s4 a u.1 u.2 (hh s Q I)) (fun k => (sumN (fun k => if jw (I (a + 7) k % 2) = 0 then 0 else 1) k, (k : Int))) (m 87 f).toNat (x := sumN (fun k => if jw (I (a + 7) k % 2) = 0 then 0 else 1) (m 87 f).toNat) (fun k hk => ?_) ?_ (n_fu (n := (m 87 f).toNat) (by omega))
  · have e : sumN (fun k => if jw (I (a + 7) k % 2) = 0 then 0 else 1) 0 = 0 := rfl
    rw [e] at this
    exact (congrArg (fun q => q.bind fun x14 => some x14) this)
  · dsimp only
    unfold jd_39_s4
    rw [F_gi F, Option.bind_some, e4, n_jw (z := m 87 f) (by omega) (by omega), n_jw (z := (k : Int)) (by omega) (by omega), if_neg (by omega), F_gr F, Option.bind_some, F_q F 6 13 rfl rfl, Option.bind_some, F_az F 7 12 rfl rfl rfl (by omega) (by omega), Option.bind_some, Option.bind_some]
    rfl
  · dsimp only
    unfold jd_39_s4
    rw [F_gi F, Option.bind_some, e4, n_jw (z := m 87 f) (by omega) (by omega), n_jw (by omega) (by omega), if_pos (by omega)]
theorem c_40 (F : FilmAt s Q hm a f) (C : FilmC s Q I m a f) (h6 : s.1 ≤ 1000000) : jd_40 a (hh s Q I) = some (sumN (fun k => if jw (I (a + 11) k) < 0 then 0 else 1) (m 87 f).toNat) := by
  have n1 := C.2.2.2.1.1
  have n12 := C.2.2.2.1.2.1
  have e4 : I a ((4 : Nat) : Int) = m 87 f := C.1.2.2.2.2.1
  unfold jd_40 jd_40_l4
  have := w_for (f := fun u : (Int × Int) => jd_40_s4 a u.1 u.2 (hh s Q I)) (fun k => (sumN (fun k => if jw (I (a + 11) k) < 0 then 0 else 1) k, (k : Int))) (m 87 f).toNat (x := sumN (fun k => if jw (I (a + 11) k) < 0 then 0 else 1) (m 87 f).toNat) (fun k hk => ?_) ?_ (n_fu (n := (m 87 f).toNat) (by omega))
  · have e : sumN (fun k => if jw (I (a + 11) k) < 0 then 0 else 1) 0 = 0 := rfl
    rw [e] at this
    exact (congrArg (fun q => q.bind fun x14 => some x14) this)
  · dsimp only
    unfold jd_40_s4
    rw [F_gi F, Option.bind_some, e4, n_jw (z := m 87 f) (by omega) (by omega), n_jw (z := (k : Int)) (by omega) (by omega), if_neg (by omega), F_gr F, Option.bind_some, F_q F 10 17 rfl rfl, Option.bind_some, F_ai F h6 11 12 rfl rfl rfl (by omega) (by omega), Option.bind_some, Option.bind_some]
    rfl
  · dsimp only
    unfold jd_40_s4
    rw [F_gi F, Option.bind_some, e4, n_jw (z := m 87 f) (by omega) (by omega), n_jw (by omega) (by omega), if_pos (by omega)]
theorem k_313l (hf : 0 ≤ f ∧ f < 8) (n1 : 1 ≤ m 87 f) (n12 : m 87 f ≤ 12) : jd_313_l50 f q 0 0 0 m = some (sumN (fun k => if jw (m 95 (12 * f + k) % 2) = 0 then 0 else 1) (m 87 f).toNat, sumN (fun k => if jw (m 97 (12 * f + k)) = -1 then 0 else 1) (m 87 f).toNat) := by
  unfold jd_313_l50
  have := w_for (f := fun u : (Int × Int × Int) => jd_313_s50 f q u.1 u.2.1 u.2.2 m) (fun k => (sumN (fun k => if jw (m 95 (12 * f + k) % 2) = 0 then 0 else 1) k, sumN (fun k => if jw (m 97 (12 * f + k)) = -1 then 0 else 1) k, (k : Int))) (m 87 f).toNat (x := (sumN (fun k => if jw (m 95 (12 * f + k) % 2) = 0 then 0 else 1) (m 87 f).toNat, sumN (fun k => if jw (m 97 (12 * f + k)) = -1 then 0 else 1) (m 87 f).toNat)) (fun k hk => ?_) ?_ (n_fu (n := (m 87 f).toNat) (by omega))
  · exact this
  · dsimp only
    unfold jd_313_s50
    rw [y_ma 87 8 rfl rfl hf.1 (by omega), Option.bind_some, n_jw (z := m 87 f) (by omega) (by omega), n_jw (z := (k : Int)) (by omega) (by omega), if_neg (by omega), y_mz 95 96 rfl rfl (by omega) (by omega), Option.bind_some, Option.bind_some, y_ma 97 96 rfl rfl (by omega) (by omega), Option.bind_some, Option.bind_some]
    rfl
  · dsimp only
    unfold jd_313_s50
    rw [y_ma 87 8 rfl rfl hf.1 (by omega), Option.bind_some, n_jw (z := m 87 f) (by omega) (by omega), n_jw (by omega) (by omega), if_pos (by omega)]
theorem si_film (R : RelH s Q hm I m) (h6 : s.1 < 1000000) (hf : okI f) (hq : okI q) : SimI (jd_158 0 f q (hh s Q I)) (jd_313 f q m) (fun E => if E = 2 then 1 else if E = 0 then 2 else 0) s Q I := by
  have L := R.1
  have t2 := R.2.2.2.2.2.1.2.1
  have n8 := R.2.2.2.2.2.1.2.2.1
  have hq' : -2147483648 ≤ q ∧ q < 2147483648 := hq
  have i2 := x_in (x := q) (lo := 0) (hi := 7) (by omega) (by omega) (by decide) (by decide) (by decide) (by decide)
  have o7 : okI 7 := by unfold okI; omega
  have hk := k_311 (m := m) ⟨t2, n8⟩ hf
  by_cases c : 0 ≤ f ∧ f < m 76 12
  · rw [if_pos c] at hk
    obtain ⟨a, ea, ha, F, C⟩ := c_195 R hf c.1 c.2
    have n1 := C.2.2.2.1.1
    have n12 := C.2.2.2.1.2.1
    obtain ⟨⟨d0, d1, d2, d3, d4, d6⟩, -⟩ := id C
    by_cases c3 : 0 ≤ q ∧ q ≤ 7
    · have s1 : sumN (fun k => if jw (I (a + 7) k % 2) = 0 then 0 else 1) (m 87 f).toNat = sumN (fun k => if jw (m 95 (12 * f + k) % 2) = 0 then 0 else 1) (m 87 f).toNat := sumN_c _ (fun k hk => by
        have := (C.2.2.2.2 k (by omega) (by omega)).2.2.1
        rw [this])
      have s2 : sumN (fun k => if jw (I (a + 11) k) < 0 then 0 else 1) (m 87 f).toNat = sumN (fun k => if jw (m 97 (12 * f + k)) = -1 then 0 else 1) (m 87 f).toNat := sumN_c _ (fun k hk => by
        have K := C.2.2.2.2 k (by omega) (by omega)
        have e := K.2.2.2.2.2.1
        have r := K.2.2.2.2.2.2.2.1
        rw [e, n_jw (z := m 97 (12 * f + k)) (by omega) (by omega)]
        exact if_c (by omega))
      have hC : jd_158 0 f q (hh s Q I) = some (.inl (if q = 0 then m 83 f else if q = 1 then m 84 f else if q = 2 then m 85 f else if q = 3 then m 86 f else if q = 4 then m 87 f else if q = 5 then m 88 f else if q = 6 then sumN (fun k => if jw (m 95 (12 * f + k) % 2) = 0 then 0 else 1) (m 87 f).toNat else sumN (fun k => if jw (m 97 (12 * f + k)) = -1 then 0 else 1) (m 87 f).toNat), hh s Q I) := by
        unfold jd_158
        have g := fun k : Nat => F_gi (R := Q) (I := I) (k := k) F
        have e0 : I a ((0 : Nat) : Int) = m 83 f := d0
        have e1 : I a ((1 : Nat) : Int) = m 84 f := d1
        have e2 : I a ((2 : Nat) : Int) = m 85 f := d2
        have e3 : I a ((3 : Nat) : Int) = m 86 f := d3
        have e4 : I a ((4 : Nat) : Int) = m 87 f := d4
        have e6 : I a ((6 : Nat) : Int) = m 88 f := d6
        rw [y_ck L 0 11 rfl rfl, Option.bind_some, ea, b_jtb, (c_185 hq o7 _).1 c3, b_jtb, n_jw hq.1 hq.2, g, g, g, g, g, g, F_ck F, Option.bind_some, Option.bind_some, c_39 F C, c_40 F C (by omega), s1, s2, e0, e1, e2, e3, e4, e6]
        have hp8 : q = 0 ∨ q = 1 ∨ q = 2 ∨ q = 3 ∨ q = 4 ∨ q = 5 ∨ q = 6 ∨ q = 7 := by omega
        rcases hp8 with rfl | rfl | rfl | rfl | rfl | rfl | rfl | rfl <;> rfl
      have hM : jd_313 f q m = some ((if q = 0 then m 83 f else if q = 1 then m 84 f else if q = 2 then m 85 f else if q = 3 then m 86 f else if q = 4 then m 87 f else if q = 5 then m 88 f else if q = 6 then sumN (fun k => if jw (m 95 (12 * f + k) % 2) = 0 then 0 else 1) (m 87 f).toNat else sumN (fun k => if jw (m 97 (12 * f + k)) = -1 then 0 else 1) (m 87 f).toNat), jms m 76 0 0) := by
        unfold jd_313 jd_313_b30
        have z1 : f < ((8 : Nat) : Int) := by omega
        rw [hk, if_neg (by decide), n_jw hq.1 hq.2, i2, if_pos c3, if_neg (by decide), Option.bind_some, jms_e, if_pos (by decide), k_313l (m := jms m 76 0 0) ⟨c.1, by omega⟩ n1 n12, Option.bind_some, y_ma 83 8 rfl rfl c.1 z1, y_ma 84 8 rfl rfl c.1 z1, y_ma 85 8 rfl rfl c.1 z1, y_ma 86 8 rfl rfl c.1 z1, y_ma 87 8 rfl rfl c.1 z1, y_ma 88 8 rfl rfl c.1 z1]
        have hp8 : q = 0 ∨ q = 1 ∨ q = 2 ∨ q = 3 ∨ q = 4 ∨ q = 5 ∨ q = 6 ∨ q = 7 := by omega
        rcases hp8 with rfl | rfl | rfl | rfl | rfl | rfl | rfl | rfl <;> rfl
      exact SimI_id R hC hM rfl
    · refine SimI_th (E := 0) (b := 0) R ?_ ?_ (by decide)
      · unfold jd_158
        rw [y_ck L 0 11 rfl rfl, Option.bind_some, ea, b_jtb, (c_185 hq o7 _).2 c3 h6, b_jtx]
      · unfold jd_313 jd_313_b30
        rw [hk, if_neg (by decide), n_jw hq.1 hq.2, i2, if_neg c3, if_pos rfl, Option.bind_some, jms_e, if_neg (by decide)]
        rfl
  · rw [if_neg c] at hk
    refine SimI_th (E := 2) (b := 0) R ?_ ?_ (by decide)
    · unfold jd_158
      rw [y_ck L 0 11 rfl rfl, Option.bind_some, c_195n R h6 hf c, b_jtx]
    · unfold jd_313 jd_313_b30
      rw [hk, if_pos rfl, Option.bind_some, jms_e, if_neg (by decide)]
      rfl
end Coded
