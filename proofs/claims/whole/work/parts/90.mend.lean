/-! a film's cells without owners; what is mended, in the class -/
section Mend
variable {s : hS} {Q R : hQ} {hm : hO} {I m : jM} {a c p k' : Nat} {w h k q x y z v cod sp : Int}
def FlC (s : hS) (Q : hQ) (a : Nat) : Prop := (∀ j : Nat, j < 13 → a + j < s.1 ∧ s.2.2.1 (a + j) = (fTag j).1 ∧ s.2.2.2 (a + j) = (fTag j).2) ∧ ∀ j : Nat, j < 12 → Q a ((j + 7 : Nat) : Int) = some (a + (j + 1))
theorem FlC_F {f : Int} (F : FilmAt s Q hm a f) : FlC s Q a := ⟨fun j hj => ⟨(F.2.1 j hj).1, (F.2.1 j hj).2.1, (F.2.1 j hj).2.2.1⟩, F.2.2.1⟩
theorem FlC_28 (L : Lay s Q hm) : FlC s Q 28 := by
  refine ⟨fun j hj => ?_, fun j hj => ?_⟩
  · have e : sk (28 + j) = fTag j := by
      have : ∀ j : Fin 13, sk (28 + j.val) = fTag j.val := by decide
      exact this ⟨j, hj⟩
    have l := L.2.1 (28 + j) (by omega)
    rw [e] at l
    exact ⟨l.1, l.2.1, l.2.2.1⟩
  · have e : sq 28 (j + 7) = some (28 + (j + 1)) := by
      have : ∀ j : Fin 12, sq 28 (j.val + 7) = some (28 + (j.val + 1)) := by decide
      exact this ⟨j, hj⟩
    exact L.2.2.2 28 (j + 7) _ e
theorem G_t (F : FlC s Q a) : a < s.1 ∧ s.2.2.1 a = 2 + 8 := ⟨(F.1 0 (by decide)).1, (F.1 0 (by decide)).2.1⟩
theorem G_gi (F : FlC s Q a) : jgi (hh s R I) a 2 k' = some (I a (k' : Int)) := x_gi (G_t F).1 (G_t F).2
theorem G_gr (F : FlC s Q a) : jgr (hh s R I) a 2 k' = some (R a (k' : Int)) := x_gr (G_t F).1 (G_t F).2
theorem G_ck (F : FlC s Q a) : jck (hh s R I) a 2 = some () := x_ck (G_t F).1 (G_t F).2
theorem G_pi (F : FlC s Q a) : jpi (hh s R I) a 2 k' v = some (hh s R (jms I a (k' : Int) v)) := x_pi (G_t F).1 (G_t F).2
theorem G_q (F : FlC s Q a) (j k : Nat) (hj : Nat.blt j 12 = true) (hk : k = j + 7) : Q a ((k : Nat) : Int) = some (a + (j + 1)) := by rw [hk]; exact F.2 j (Nat.le_of_ble_eq_true hj)
theorem G_ai (F : FlC s Q a) (h6 : s.1 ≤ 1000000) (j n : Nat) (hj : Nat.blt j 13 = true) (e : fTag j = (0, n)) (hn : Nat.ble n 1000000 = true) (h0 : 0 ≤ z) (h1 : z < (n : Int)) : jai (hh s R I) (a + j) z = some (I (a + j) z) := by
  have g := F.1 j (Nat.le_of_ble_eq_true hj)
  rw [e] at g
  exact x_ai g.1 h6 g.2.1 h0 (by rw [g.2.2]; exact h1) (by rw [g.2.2]; exact Nat.le_of_ble_eq_true hn)
theorem G_ta (F : FlC s Q a) (j t n : Nat) (hj : Nat.blt j 13 = true) (e : fTag j = (t, n)) (hn : Nat.ble n 1000000 = true) (h0 : 0 ≤ z) (h1 : z < (n : Int)) : jta (hh s R I) (a + j) t z v = some (hh s R (jms I (a + j) z v)) := by
  have g := F.1 j (Nat.le_of_ble_eq_true hj)
  rw [e] at g
  exact x_ta g.1 g.2.1 h0 (by rw [g.2.2]; exact h1) (by rw [g.2.2]; exact Nat.le_of_ble_eq_true hn)
theorem G_ar (F : FlC s Q a) (h0 : 0 ≤ z) (h1 : z < 12) : jar (hh s R I) (a + 9) 6 z = some (R (a + 9) z) := by
  have g := F.1 9 (by decide)
  have g2 : s.2.2.2 (a + 9) = 12 := g.2.2
  exact x_ar g.1 g.2.1 h0 (by rw [g2]; exact h1) (by rw [g2]; decide)
theorem c_43g (F : FlC s Q c) (h6 : s.1 ≤ 1000000) (P : PcC s Q p) (k0 : 0 ≤ k) (k1 : k < 12) (hp : Q (c + 9) k = some p) (e0 : I c 0 = cod) (cr : 0 ≤ cod) (cr2 : cod ≤ 2) (e17 : I (c + 11) k = sp) (s0 : -1 ≤ sp) (s1 : sp ≤ 1000) (hw : I p 0 = w) (hv : I p 1 = h) (sw : isSd w) (sh : isSd h) (q0 : 0 ≤ q) (q2 : q ≤ 2) (hx : 0 ≤ x ∧ x < pw w q) (hy : 0 ≤ y ∧ y < pw h q) : ∃ v, jd_43 c k q x y (hh s Q I) = some v ∧ ((mdAt cod sp w h q x y ∧ v = 1) ∨ (¬ mdAt cod sp w h q x y ∧ v = 0)) := by
  obtain ⟨P1, P2, P3, P4, P5, P6, P7⟩ := id P
  have hq : okI q := by unfold okI; omega
  have t14 : s.2.2.1 p = 6 + 8 := P3
  have e0' : I c ((0 : Nat) : Int) = cod := e0
  have q17 := G_q F 10 17 rfl rfl
  have q15 := G_q F 8 15 rfl rfl
  have bw := pw_sd sw q
  have bh := pw_sd sh q
  have ps := pl_sz sw sh q0 q2
  have db := dm_b (W := pw w q) (H := pw h q) hy.1 hy.2 hx.1 hx.2
  unfold jd_43 mdAt
  rw [G_gr F, Option.bind_some, q17, Option.bind_some, G_ai F h6 11 12 rfl rfl rfl k0 (by omega), Option.bind_some, e17, n_jw (z := sp) (by omega) (by omega)]
  by_cases c0 : 0 ≤ sp
  · rw [if_pos c0, G_gr F, Option.bind_some, q15, Option.bind_some, G_ar F k0 (by omega), Option.bind_some, G_gi F, Option.bind_some, e0', n_jw (z := cod) (by omega) (by omega), hp]
    by_cases c1 : cod = 0
    · have e1 : I p ((0 : Nat) : Int) = w := hw
      have s8 : sdOf q = 8 ∨ sdOf q = 4 := by unfold sdOf; split <;> simp
      have w8 : w = 8 ∨ w = 16 ∨ w = 24 := sw
      have nz : jnz (sdOf q) = some () := by
        unfold jnz
        rw [n_jw (by omega) (by omega)]
        exact if_neg (by omega)
      unfold jd_104
      rw [if_pos c1, if_pos c1, Option.bind_some, x_ck P2 t14, Option.bind_some, sd_of hq, nz, Option.bind_some, x_gi P2 t14, Option.bind_some, Option.bind_some, e1, Option.bind_some, n_div (z := y) (by omega) (by omega) (by omega) (by omega), n_div (z := w) (by omega) (by omega) (by decide) (by decide), n_div (z := x) (by omega) (by omega) (by omega) (by omega)]
      have g1 : 0 ≤ y / sdOf q * (w / 8) + x / sdOf q ∧ y / sdOf q * (w / 8) + x / sdOf q < 1000 := by
        rcases s8 with s8 | s8 <;> rcases w8 with w8 | w8 | w8 <;> rw [s8, w8] <;> omega
      rw [n_jw (by omega) (by omega)]
      by_cases c2 : y / sdOf q * (w / 8) + x / sdOf q < sp
      · rw [if_pos c2]
        exact ⟨0, rfl, Or.inr ⟨fun e => by omega, rfl⟩⟩
      · rw [if_neg c2]
        exact ⟨1, rfl, Or.inl ⟨⟨c0, by omega⟩, rfl⟩⟩
    · rw [if_neg c1, if_neg c1]
      by_cases c3 : cod = 1
      · rw [if_pos c3, if_pos c3, n_jw hq.1 hq.2]
        by_cases c2 : q < sp
        · rw [if_pos c2]
          exact ⟨0, rfl, Or.inr ⟨fun e => by omega, rfl⟩⟩
        · rw [if_neg c2]
          exact ⟨1, rfl, Or.inl ⟨⟨c0, by omega⟩, rfl⟩⟩
      · rw [if_neg c3, if_neg c3, Option.bind_some, x_ck P2 t14, Option.bind_some, c_98 P2 P3 hw hv sw sh hq, Option.bind_some, Option.bind_some, x_ck P2 t14, Option.bind_some, c_96 P2 P3 hw sw hq, Option.bind_some, n_jw (by omega) (by omega)]
        by_cases c2 : pb w h q + y * pw w q + x < sp
        · rw [if_pos c2]
          exact ⟨0, rfl, Or.inr ⟨fun e => by omega, rfl⟩⟩
        · rw [if_neg c2]
          exact ⟨1, rfl, Or.inl ⟨⟨c0, by omega⟩, rfl⟩⟩
  · rw [if_neg c0]
    exact ⟨0, rfl, Or.inr ⟨fun e => c0 e.1, rfl⟩⟩
end Mend
