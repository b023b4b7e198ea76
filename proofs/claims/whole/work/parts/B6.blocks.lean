/-! the six blocks of a part -/
/-- levels in all blocks ahead of n -/
def lcs (g : Int → Int) : Nat → Int
  | 0 => 0
  | n + 1 => lcs g n + lc (fun i => g (16 * (n : Int) + i)) 16
theorem lcs_s {g : Int → Int} {n : Nat} : lcs g (n + 1) = lcs g n + lc (fun i => g (16 * (n : Int) + i)) 16 := rfl
theorem lcs_c {g g' : Int → Int} {n : Nat} (h : ∀ j : Int, 0 ≤ j → j < 16 * (n : Int) → g j = g' j) : lcs g n = lcs g' n := by
  induction n with
  | zero => rfl
  | succ n ih => rw [lcs_s, lcs_s, ih (fun j h0 h1 => h j h0 (by omega)), lc_c (fun j h0 h1 => h _ (by omega) (by omega))]
section Blocks
variable {s : hS} {Q : hQ} {hm : hO} {I m : jM} {A : Nat} {base i en md k q x3 st : Int}
def blPost (s : hS) (Q : hQ) (I m : jM) (A : Nat) (base en st : Int) (x : (Int × jH) ⊕ jH) (y : jM) : Prop := ∃ f I', fB I I' ∧ fC m y ∧ y 76 52 = f ∧ 0 ≤ f ∧ f ≤ 7 ∧ ((1 ≤ f ∧ x = .inl (f, hh s Q I')) ∨ (f = 0 ∧ x = .inr (hh s Q I') ∧ (∃ i', BM s Q I' y 10 A base i' en) ∧ (∀ j : Int, 0 ≤ j → j < 96 → -4095 ≤ I' 15 j ∧ I' 15 j ≤ 4095) ∧ y 76 59 = m 76 59 + lcs (I' 15) 6 ∧ ∀ b r c : Int, 0 ≤ b → b < 6 → 0 ≤ r → r < 4 → 0 ≤ c → c < 4 → y 115 (cb b r c) = rsB (fun i => I' 15 (16 * b + i)) st r c))
theorem blocks (L : Lay s Q hm) (R : BM s Q I m 10 A base i en) (d1 : 1 ≤ md) (d6 : md ≤ 6) (k0 : 0 ≤ k) (k1 : k < 12) (hst : m 104 k = st) (z15 : ∀ j : Int, 0 ≤ j → j < 96 → I 15 j = 0) : ∃ x y, jd_119_l111 9 md 0 (hh s Q I) = some x ∧ jd_265_l248 k q x3 0 m = some y ∧ blPost s Q I m A base en st x y := by
  unfold jd_119_l111 jd_265_l248
  refine w_lp3 (Q := blPost s Q I m A base en st) (fun n u t => ∃ I' m' i', u = ((n : Int), hh s Q I') ∧ t = ((n : Int), m') ∧ fB I I' ∧ fC m m' ∧ BM s Q I' m' 10 A base i' en ∧ (∀ j : Int, 0 ≤ j → j < 96 → -4095 ≤ I' 15 j ∧ I' 15 j ≤ 4095) ∧ (∀ j : Int, 16 * (n : Int) ≤ j → j < 96 → I' 15 j = 0) ∧ m' 76 59 = m 76 59 + lcs (I' 15) n ∧ ∀ b r c : Int, 0 ≤ b → b < (n : Int) → 0 ≤ r → r < 4 → 0 ≤ c → c < 4 → m' 115 (cb b r c) = rsB (fun i => I' 15 (16 * b + i)) st r c) 6 (fun n u t hn hu => ?_) (n_fu (by omega)) (n_fu (by omega)) ⟨I, m, i, rfl, rfl, fB_r, fC_r, R, fun j h0 h1 => by rw [z15 j h0 h1]; decide, fun j h0 h1 => z15 j (by omega) h1, by show m 76 59 = m 76 59 + 0; omega, fun b r c h0 h1 => absurd h1 (by omega)⟩
  obtain ⟨I', m', i', rfl, rfl, f1, f2, R', lb, lz, c59, rs⟩ := hu
  by_cases cn : n = 6
  · subst cn
    right
    refine ⟨.inr (hh s Q I'), m', ?_, fun e => ?_, 0, I', f1, f2, R'.2.1.1, by decide, by decide, Or.inr ⟨rfl, rfl, ⟨i', R'⟩, lb, c59, rs⟩⟩
    · unfold jd_119_s111
      exact if_pos (by show (6 : Int) ≤ jw ((6 : Nat) : Int); decide)
    · refine jlp_1 (e := e + 1) ?_
      unfold jd_265_s248
      exact if_pos (by show (6 : Int) ≤ jw ((6 : Nat) : Int); decide)
  · have n6 : n < 6 := by omega
    obtain ⟨f, I2, m2, e1, e2, g1, g2, g3, g4, g5, g6, g7, g8⟩ := rblock (b := (n : Int)) (st := st) L (by omega) (by omega) R' (fun j h0 h1 => lz _ (by omega) (by omega))
    have C1 : jd_119_s111 9 md (n : Int) (hh s Q I') = (if jw f = 0 then some (.inl ((n : Int) + 1, hh s Q I2)) else some (.inr (.inl (f, hh s Q I2)))) := by
      unfold jd_119_s111
      rw [n_jw (z := (n : Int)) (by omega) (by omega), if_neg (by omega), n_jw (z := md) (by omega) (by omega), if_neg (by omega), y_ck L 9 8 rfl rfl, Option.bind_some, e1, Option.bind_some]
    have st' : m' 104 k = st := by rw [f2.1 104 (by decide) (by decide) (by decide) (by decide)]; exact hst
    have M1 : jd_265_s248 k q x3 (n : Int) m' = some (.inl ((n : Int) + 1, m2)) := by
      unfold jd_265_s248
      rw [n_jw (z := (n : Int)) (by omega) (by omega), if_neg (by omega), if_pos (BM_b0 R'), y_ma 104 12 rfl rfl k0 k1, Option.bind_some, st', e2, Option.bind_some]
    by_cases c0 : f = 0
    · left
      obtain ⟨⟨i2, R2⟩, h2, h3, h4⟩ := g8 c0
      rw [c0, if_pos (by decide)] at C1
      refine ⟨_, _, C1, M1, n6, I2, m2, i2, by rw [show ((n + 1 : Nat) : Int) = (n : Int) + 1 by omega], by rw [show ((n + 1 : Nat) : Int) = (n : Int) + 1 by omega], fB_t f1 g1, fC_t f2 g2, R2, fun j h0 h1 => ?_, fun j h0 h1 => ?_, ?_, fun b r c h0 h1 r0 r1 c0 c1 => ?_⟩
      · by_cases cj : j < 16 * (n : Int) ∨ 16 * (n : Int) + 16 ≤ j
        · rw [g6 j cj]; exact lb j h0 h1
        · have := h2 (j - 16 * (n : Int)) (by omega) (by omega)
          rw [show 16 * (n : Int) + (j - 16 * (n : Int)) = j by omega] at this
          exact this
      · rw [g6 j (by omega)]
        exact lz j (by omega) h1
      · rw [lcs_s, h3, c59, lcs_c (fun j h0 h1 => g6 j (by omega))]
        omega
      · by_cases cb' : b = (n : Int)
        · subst cb'
          exact h4 r c r0 r1 c0 c1
        · rw [g7 _ (fun r' c' a1 a2 a3 a4 e => cb' (cb_j h0 (by omega) r0 r1 c0 c1 (by omega) (by omega) a1 a2 a3 a4 e).1), rs b r c h0 (by omega) r0 r1 c0 c1]
          unfold rsB
          rw [hd_c (fun j j0 j1 => ?_) r c]
          unfold sqL
          obtain ⟨-, u0, u1⟩ := usc_s j0 j1
          generalize usc j = u at u0 u1 ⊢
          dsimp only
          rw [g6 (16 * b + u) (by omega)]
    · right
      rw [n_jw (by omega) (by omega), if_neg c0] at C1
      refine ⟨_, m2, C1, fun e => jlp_2 (f := fun u : (Int × jM) => jd_265_s248 k q x3 u.1 u.2) (t := ((n : Int), m')) (t' := ((n : Int) + 1, m2)) M1 ?_ e, f, I2, fB_t f1 g1, fC_t f2 g2, g3, g4, g5, Or.inl ⟨by omega, rfl⟩⟩
      dsimp only
      unfold jd_265_s248
      by_cases d : 6 ≤ jw ((n : Int) + 1)
      · rw [if_pos d]
      · rw [if_neg d, if_neg (br_0 g3 (by omega) g5)]
end Blocks
