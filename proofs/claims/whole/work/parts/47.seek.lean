/-! seek, frame, play -/
section Seek
variable {s : hS} {Q : hQ} {hm : hO} {I m : jM} {a k : Nat} {f p q x y v z : Int}
/-- where the group of a coded picture begins -/
def grp (g : Int → Int) : Nat → Nat
  | 0 => 0
  | n + 1 => if g ((n + 1 : Nat) : Int) % 2 = 0 then grp g n else n + 1
theorem grp_s {g : Int → Int} {n : Nat} : grp g (n + 1) = if g ((n + 1 : Nat) : Int) % 2 = 0 then grp g n else n + 1 := rfl
theorem grp_b {g : Int → Int} : ∀ n : Nat, grp g n ≤ n
  | 0 => Nat.le_refl 0
  | n + 1 => by
    have := grp_b (g := g) n
    rw [grp_s]
    split <;> omega
theorem c_37 (F : FilmAt s Q hm a f) (n : Nat) (hn : n < 12) : jd_37 a (n : Int) (hh s Q I) = some ((grp (I (a + 7)) n : Nat) : Int) := by
  obtain ⟨o, e1, e2⟩ : wT (jlp (fun t : Int => jd_37_s2 a t (hh s Q I)) jfu (n : Int)) (fun o => jse o (fun y => some y) (fun _ => some 0) = (some ((grp (I (a + 7)) n : Nat) : Int) : Option Int)) := by
    refine w_lp (fun k t => k ≤ n ∧ t = ((n - k : Nat) : Int) ∧ grp (I (a + 7)) n = grp (I (a + 7)) (n - k)) n (fun k t hk hI => ?_) (n_fu (by omega)) ⟨Nat.zero_le _, rfl, rfl⟩
    obtain ⟨h1, h2, h3⟩ := hI
    subst h2
    unfold jd_37_s2
    by_cases hz : n - k = 0
    · rw [hz] at h3 ⊢
      rw [if_pos (by decide)]
      refine ⟨_, rfl, ?_⟩
      rw [h3]
      rfl
    · obtain ⟨d, hd⟩ : ∃ d, n - k = d + 1 := ⟨n - k - 1, by omega⟩
      rw [hd] at h3 ⊢
      rw [n_jw (by omega) (by omega), if_neg (by omega), F_gr F, Option.bind_some, F_q F 6 13 rfl rfl, Option.bind_some, F_az F 7 12 rfl rfl rfl (by omega) (by omega), Option.bind_some, n_jw (by omega) (by omega)]
      rw [grp_s] at h3
      by_cases c : I (a + 7) ((d + 1 : Nat) : Int) % 2 = 0
      · rw [if_pos c] at h3 ⊢
        refine ⟨_, rfl, by omega, by omega, by omega, ?_⟩
        rw [h3, show n - (k + 1) = d by omega]
      · rw [if_neg c] at h3 ⊢
        refine ⟨_, rfl, ?_⟩
        rw [h3]
        rfl
  unfold jd_37 jd_37_l2
  rw [e1, Option.bind_some, e2]
theorem k_358 (hf : 0 ≤ f ∧ f < 8) (h0 : m 95 (12 * f) % 2 = 1) (n : Nat) (hn : n < 12) : jd_358 f (n : Int) m = some ((grp (fun j => m 95 (12 * f + j)) n : Nat) : Int) := by
  obtain ⟨o, e1, e2⟩ : wT (jlp (fun t : Int => jd_358_s2 f t m) jfu (n : Int)) (fun o => o = ((grp (fun j => m 95 (12 * f + j)) n : Nat) : Int)) := by
    refine w_lp (fun k t => k ≤ n ∧ t = ((n - k : Nat) : Int) ∧ grp (fun j => m 95 (12 * f + j)) n = grp (fun j => m 95 (12 * f + j)) (n - k)) n (fun k t hk hI => ?_) (n_fu (by omega)) ⟨Nat.zero_le _, rfl, rfl⟩
    obtain ⟨h1, h2, h3⟩ := hI
    subst h2
    unfold jd_358_s2
    by_cases hz : n - k = 0
    · rw [hz] at h3 ⊢
      rw [show ((0 : Nat) : Int) = 0 from rfl, Int.add_zero, y_mz 95 96 rfl rfl (by omega) (by omega), Option.bind_some, h0, if_neg (by decide)]
      refine ⟨_, rfl, ?_⟩
      show (0 : Int) = _
      rw [h3]
      rfl
    · obtain ⟨d, hd⟩ : ∃ d, n - k = d + 1 := ⟨n - k - 1, by omega⟩
      rw [hd] at h3 ⊢
      rw [y_mz 95 96 rfl rfl (by omega) (by omega), Option.bind_some, n_jw (by omega) (by omega)]
      rw [grp_s] at h3
      by_cases c : m 95 (12 * f + ((d + 1 : Nat) : Int)) % 2 = 0
      · rw [if_pos c] at h3 ⊢
        refine ⟨_, rfl, by omega, by omega, by omega, ?_⟩
        rw [h3, show n - (k + 1) = d by omega]
      · rw [if_neg c] at h3 ⊢
        refine ⟨_, rfl, ?_⟩
        show (((d + 1 : Nat) : Int)) = _
        rw [h3]
  unfold jd_358 jd_358_l2
  rw [e1, Option.bind_some, e2]
theorem grp_c {g g' : Int → Int} : ∀ n : Nat, (∀ j : Nat, j ≤ n → g j % 2 = g' j % 2) → grp g n = grp g' n
  | 0, _ => rfl
  | n + 1, h => by
    rw [grp_s, grp_s, h (n + 1) (Nat.le_refl _), grp_c n (fun j hj => h j (by omega))]
theorem film_g (C : FilmC s Q I m a f) : m 95 (12 * f) % 2 = 1 ∧ ∀ n : Nat, (n : Int) < m 87 f → grp (I (a + 7)) n = grp (fun j => m 95 (12 * f + j)) n := by
  have n1 := C.2.2.2.1.1
  have K0 := C.2.2.2.2 0 (by decide) (by omega)
  have h := K0.2.2.2.2.2.2.1
  rw [Int.add_zero] at h
  refine ⟨h.mpr ⟨?_, fun j j0 j1 => ?_⟩, fun n hn => grp_c n (fun j hj => (C.2.2.2.2 j (by omega) (by omega)).2.2.1)⟩
  · have this : m 90 (12 * f + 0) = 0 := C.2.2.2.1.2.2.2.2.2.1
    rw [Int.add_zero] at this
    exact this
  · have := (PV_first C.2.2.2.1 j.toNat (by omega)).2 (by omega)
    have t2 : m 91 (12 * f + 0) < m 91 (12 * f + ((j.toNat : Nat) : Int)) := this
    rw [Int.toNat_of_nonneg (by omega), Int.add_zero] at t2
    exact t2
theorem heads_b (C : FilmC s Q I m a f) : ∀ n : Nat, (n : Int) < m 87 f → 7 ≤ m 94 (12 * f + n) ∧ m 94 (12 * f + n) + 5 + m 93 (12 * f + n) ≤ m 88 f := by
  obtain ⟨v1, v2, v3, v4, v5, v6, v7, W⟩ := C.2.2.2.1
  have up : ∀ n : Nat, (n : Int) < m 87 f → 7 ≤ m 94 (12 * f + n) := by
    intro n
    induction n with
    | zero => intro _; exact Int.le_of_eq v5.symm
    | succ n ih =>
      intro hn
      have h1 := ih (by omega)
      have w := (W ((n + 1 : Nat) : Int) (by omega) hn).2.2.2.2.2.1 (by omega)
      have z := (W (n : Int) (by omega) (by omega)).2.2.2.2.1
      have w' : m 94 (12 * f + ((n + 1 : Nat) : Int)) = m 94 (12 * f + (((n + 1 : Nat) : Int) - 1)) + 5 + m 93 (12 * f + (((n + 1 : Nat) : Int) - 1)) := w
      have z' : 0 ≤ m 93 (12 * f + (n : Int)) := z.1
      rw [show ((n + 1 : Nat) : Int) - 1 = (n : Int) by omega] at w'
      omega
  have dn : ∀ d n : Nat, (n : Int) + d + 1 = m 87 f → m 94 (12 * f + n) + 5 + m 93 (12 * f + n) ≤ m 88 f := by
    intro d
    induction d with
    | zero =>
      intro n hn
      have v7' : m 94 (12 * f + (m 87 f - 1)) + 5 + m 93 (12 * f + (m 87 f - 1)) = m 88 f := v7
      rw [show m 87 f - 1 = (n : Int) by omega] at v7'
      omega
    | succ d ih =>
      intro n hn
      have h1 := ih (n + 1) (by omega)
      have w := (W ((n + 1 : Nat) : Int) (by omega) (by omega)).2.2.2.2.2.1 (by omega)
      have z := (W ((n + 1 : Nat) : Int) (by omega) (by omega)).2.2.2.2.1
      have w' : m 94 (12 * f + ((n + 1 : Nat) : Int)) = m 94 (12 * f + (((n + 1 : Nat) : Int) - 1)) + 5 + m 93 (12 * f + (((n + 1 : Nat) : Int) - 1)) := w
      have z' : 0 ≤ m 93 (12 * f + ((n + 1 : Nat) : Int)) := z.1
      rw [show ((n + 1 : Nat) : Int) - 1 = (n : Int) by omega] at w'
      omega
  intro n hn
  exact ⟨up n hn, dn (m 87 f - 1 - n).toNat n (by omega)⟩
end Seek
