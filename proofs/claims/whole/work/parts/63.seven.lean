/-! a film's first seven bytes -/
section Seven
variable {s : hS} {Q : hQ} {hm : hO} {I m : jM} {a b : Nat} {f p q len z : Int}
/-- the bytes of a film to be parsed, in the class and in the model -/
def BySm (s : hS) (Q : hQ) (I m : jM) (a b : Nat) (len : Int) : Prop := Q a 5 = some b ∧ (b < s.1 ∧ s.2.2.1 b = 1 ∧ s.2.2.2 b ≤ 100000) ∧ I a 6 = len ∧ 0 ≤ len ∧ len ≤ ((s.2.2.2 b : Nat) : Int) ∧ len ≤ 24100 ∧ m 76 47 = len ∧ ∀ i : Int, 0 ≤ i → i < len → I b i % 256 = m 112 i % 256
theorem c_30 (F : FilmAt s Q hm a f) (Y : BySm s Q I m a b len) (h0 : 0 ≤ p) (h1 : p < len) : jd_30 a p (hh s Q I) = some (m 112 p % 256) := by
  obtain ⟨y1, y2, y3, y4, y5, y6, y7, y8⟩ := Y
  have e5 : Q a ((5 : Nat) : Int) = some b := y1
  unfold jd_30
  rw [F_gr F, Option.bind_some, e5, Option.bind_some, x_ab y2.1 y2.2.1 h0 (by omega) (by omega), Option.bind_some, n_and255, n_jwb_m', y8 p h0 h1]
theorem k_302 (h0 : 0 ≤ p) (h1 : p < 24100) (h2 : m 76 47 = len) (h3 : 0 ≤ len) (h4 : len ≤ 24100) : jd_302 p m = some (if len ≤ p then -1 else m 112 p % 256) := by
  unfold jd_302 jd_302_b22
  rw [h2, n_jw (z := len) (by omega) (by omega), n_jw (z := p) (by omega) (by omega)]
  by_cases c : len ≤ p
  · rw [if_pos c, if_pos c]
  · rw [if_neg c, if_neg c, y_mb 112 24100 rfl rfl h0 (by omega), Option.bind_some, n_and255, n_jwb_m']
def hLo (k : Nat) : Int := (jxv 5).getD k 0
def hHi (k : Nat) : Int := (jxv 6).getD k 0
theorem hst {k : Nat} (hk : k < 7) : jst 5 (k : Int) = some (hLo k) ∧ jst 6 (k : Int) = some (hHi k) := by
  have c : k = 0 ∨ k = 1 ∨ k = 2 ∨ k = 3 ∨ k = 4 ∨ k = 5 ∨ k = 6 := by omega
  rcases c with rfl | rfl | rfl | rfl | rfl | rfl | rfl <;> exact ⟨rfl, rfl⟩
theorem hLH {k : Nat} (hk : k < 7) : 0 ≤ hLo k ∧ hLo k ≤ 77 ∧ 0 ≤ hHi k ∧ hHi k ≤ 77 := by
  have c : k = 0 ∨ k = 1 ∨ k = 2 ∨ k = 3 ∨ k = 4 ∨ k = 5 ∨ k = 6 := by omega
  rcases c with rfl | rfl | rfl | rfl | rfl | rfl | rfl <;> decide
theorem k_303s {k : Nat} {v : Int} (hk : k < 7) (e : jd_302 (k : Int) m = some v) (v0 : -1 ≤ v) (v1 : v ≤ 255) : jd_303_s2 (k : Int) m = if hLo k ≤ v ∧ v ≤ hHi k then some (.inl ((k : Int) + 1)) else some (.inr (.inl (k : Int))) := by
  have key : ∀ c : Int, jw c = (if hLo k ≤ v ∧ v ≤ hHi k then 1 else 0) → jd_303_b111 (k : Int) c m = if hLo k ≤ v ∧ v ≤ hHi k then some (.inl ((k : Int) + 1)) else some (.inr (.inl (k : Int))) := by
    intro c hc
    unfold jd_303_b111
    rw [hc]
    by_cases g : hLo k ≤ v ∧ v ≤ hHi k
    · rw [if_pos g, if_pos g, if_neg (by decide)]
    · rw [if_neg g, if_neg g, if_pos rfl]
  have xi : ∀ lo hi : Int, 0 ≤ lo → lo ≤ 100 → 0 ≤ hi → hi ≤ 100 → jw (jd_204 (jw v) lo hi) = if lo ≤ v ∧ v ≤ hi then 1 else 0 := fun lo hi h1 h2 h3 h4 => by
    rw [n_jw (z := v) (by omega) (by omega)]
    exact x_in (by omega) (by omega) (by omega) (by omega) (by omega) (by omega)
  have nv : jw v = v := n_jw (by omega) (by omega)
  unfold jd_303_s2
  rw [n_jw (z := (k : Int)) (by omega) (by omega), if_neg (by omega), e, Option.bind_some]
  have c : k = 0 ∨ k = 1 ∨ k = 2 ∨ k = 3 ∨ k = 4 ∨ k = 5 ∨ k = 6 := by omega
  rcases c with rfl | rfl | rfl | rfl | rfl | rfl | rfl
  · refine key _ ?_
    rw [if_pos (by decide), nv, show hLo 0 = 77 from rfl, show hHi 0 = 77 from rfl]
    by_cases g : v = 77
    · rw [if_pos g, if_pos (by omega)]; decide
    · rw [if_neg g, if_neg (by omega)]; decide
  · refine key _ ?_
    rw [if_neg (by decide), if_pos (by decide), nv, show hLo 1 = 70 from rfl, show hHi 1 = 70 from rfl]
    by_cases g : v = 70
    · rw [if_pos g, if_pos (by omega)]; decide
    · rw [if_neg g, if_neg (by omega)]; decide
  · refine key _ ?_
    rw [if_neg (by decide), if_neg (by decide), if_pos (by decide)]
    exact xi 0 2 (by decide) (by decide) (by decide) (by decide)
  · refine key _ ?_
    rw [if_neg (by decide), if_neg (by decide), if_neg (by decide), if_neg (by decide)]
    exact xi 1 3 (by decide) (by decide) (by decide) (by decide)
  · refine key _ ?_
    rw [if_neg (by decide), if_neg (by decide), if_neg (by decide), if_neg (by decide)]
    exact xi 1 3 (by decide) (by decide) (by decide) (by decide)
  · refine key _ ?_
    rw [if_neg (by decide), if_neg (by decide), if_neg (by decide), if_pos (by decide), if_pos (by decide)]
    exact xi 1 60 (by decide) (by decide) (by decide) (by decide)
  · refine key _ ?_
    rw [if_neg (by decide), if_neg (by decide), if_neg (by decide), if_pos (by decide), if_neg (by decide)]
    exact xi 1 12 (by decide) (by decide) (by decide) (by decide)
/-- byte k of the first seven is wrong -/
def hBad (m : jM) (len : Int) (k : Nat) : Prop := len ≤ (k : Int) ∨ ¬ (hLo k ≤ m 112 k % 256 ∧ m 112 k % 256 ≤ hHi k)
theorem seven (F : FilmAt s Q hm a f) (Y : BySm s Q I m a b len) : ((∀ k : Nat, k < 7 → ¬ hBad m len k) ∧ jd_29_l2 a 0 (hh s Q I) = some (.inr (.inr ())) ∧ jd_303 m = some (-1)) ∨ ∃ x : Nat, x < 7 ∧ jd_303 m = some (x : Int) ∧ ((len = (x : Int) ∧ jd_29_l2 a 0 (hh s Q I) = some (.inl ())) ∨ jd_29_l2 a 0 (hh s Q I) = some (.inr (.inl (x : Int)))) := by
  obtain ⟨y1, y2, y3, y4, y5, y6, y7, y8⟩ := id Y
  have e6 : I a ((6 : Nat) : Int) = len := y3
  have mv : ∀ k : Nat, k < 7 → jd_303_s2 (k : Int) m = if hLo k ≤ (if len ≤ (k : Int) then -1 else m 112 k % 256) ∧ (if len ≤ (k : Int) then -1 else m 112 k % 256) ≤ hHi k then some (.inl ((k : Int) + 1)) else some (.inr (.inl (k : Int))) := fun k hk => k_303s hk (k_302 (by omega) (by omega) y7 y4 y6) (by split <;> omega) (by split <;> omega)
  have mo : ∀ k : Nat, k < 7 → ¬ hBad m len k → jd_303_s2 (k : Int) m = some (.inl ((k : Int) + 1)) := fun k hk hb => by
    have c1 : ¬ len ≤ (k : Int) := fun h => hb (Or.inl h)
    have c2 : hLo k ≤ m 112 k % 256 ∧ m 112 k % 256 ≤ hHi k := by
      by_cases h : hLo k ≤ m 112 k % 256 ∧ m 112 k % 256 ≤ hHi k
      · exact h
      · exact absurd (Or.inr h) hb
    rw [mv k hk, if_neg c1, if_pos c2]
  have mb : ∀ k : Nat, k < 7 → hBad m len k → jd_303_s2 (k : Int) m = some (.inr (.inl (k : Int))) := fun k hk hb => by
    have b := hLH hk
    rw [mv k hk]
    refine if_neg (fun h => ?_)
    rcases hb with h1 | h1
    · rw [if_pos h1] at h
      omega
    · by_cases c : len ≤ (k : Int)
      · rw [if_pos c] at h
        omega
      · rw [if_neg c] at h
        exact h1 h
  have cv : ∀ k : Nat, k < 7 → (k : Int) < len → jd_29_s2 a (k : Int) (hh s Q I) = if hLo k ≤ m 112 k % 256 ∧ m 112 k % 256 ≤ hHi k then some (.inl ((k : Int) + 1)) else some (.inr (.inr (.inl (k : Int)))) := fun k hk hl => by
    have b := hLH hk
    have e := c_30 (p := (k : Int)) F Y (by omega) hl
    unfold jd_29_s2
    rw [n_jw (z := (k : Int)) (by omega) (by omega), if_neg (by omega), F_gi F, Option.bind_some, e6, n_jw (z := len) (by omega) (by omega), if_pos hl, F_ck F, Option.bind_some, e, Option.bind_some, (hst hk).1, Option.bind_some, n_jw (z := m 112 (k : Int) % 256) (by omega) (by omega), n_jw (z := hLo k) (by omega) (by omega)]
    by_cases c1 : m 112 (k : Int) % 256 < hLo k
    · rw [if_pos c1, if_neg (by omega)]
    · rw [if_neg c1, Option.bind_some, Option.bind_some, (hst hk).2, Option.bind_some, n_jw (z := m 112 (k : Int) % 256) (by omega) (by omega), n_jw (z := hHi k) (by omega) (by omega)]
      by_cases c2 : m 112 (k : Int) % 256 ≤ hHi k
      · rw [if_pos c2, if_pos (by omega)]
      · rw [if_neg c2, if_neg (by omega)]
  have co : ∀ k : Nat, k < 7 → ¬ hBad m len k → jd_29_s2 a (k : Int) (hh s Q I) = some (.inl ((k : Int) + 1)) := fun k hk hb => by
    have c1 : ¬ len ≤ (k : Int) := fun h => hb (Or.inl h)
    have c2 : hLo k ≤ m 112 k % 256 ∧ m 112 k % 256 ≤ hHi k := by
      by_cases h : hLo k ≤ m 112 k % 256 ∧ m 112 k % 256 ≤ hHi k
      · exact h
      · exact absurd (Or.inr h) hb
    rw [cv k hk (by omega), if_pos c2]
  rcases first_or (hBad m len) 7 with h | ⟨x, x1, x2, x3⟩
  · refine Or.inl ⟨h, ?_, ?_⟩
    · unfold jd_29_l2
      refine w_for (f := fun u : Int => jd_29_s2 a u (hh s Q I)) (fun k => (k : Int)) 7 (fun k hk => co k hk (h k hk)) ?_ (n_fu (by decide))
      unfold jd_29_s2
      rw [if_pos (by decide)]
    · have : jd_303_l2 0 m = some (.inr ()) := by
        unfold jd_303_l2
        refine w_for (f := fun u : Int => jd_303_s2 u m) (fun k => (k : Int)) 7 (fun k hk => mo k hk (h k hk)) ?_ (n_fu (by decide))
        unfold jd_303_s2
        rw [if_pos (by decide)]
      unfold jd_303
      rw [this, Option.bind_some]
      rfl
  · refine Or.inr ⟨x, x1, ?_, ?_⟩
    · have : jd_303_l2 0 m = some (.inl (x : Int)) := by
        unfold jd_303_l2
        exact w_for (f := fun u : Int => jd_303_s2 u m) (fun k => (k : Int)) x (fun k hk => mo k (by omega) (x3 k hk)) (mb x x1 x2) (n_fu (by omega))
      unfold jd_303
      rw [this, Option.bind_some]
      rfl
    · by_cases c : len ≤ (x : Int)
      · refine Or.inl ⟨?_, ?_⟩
        · by_cases c2 : len = (x : Int)
          · exact c2
          · exact absurd (Or.inl (by omega)) (x3 len.toNat (by omega))
        · unfold jd_29_l2
          refine w_for (f := fun u : Int => jd_29_s2 a u (hh s Q I)) (fun k => (k : Int)) x (fun k hk => co k (by omega) (x3 k hk)) ?_ (n_fu (by omega))
          unfold jd_29_s2
          rw [n_jw (z := (x : Int)) (by omega) (by omega), if_neg (by omega), F_gi F, Option.bind_some, e6, n_jw (z := len) (by omega) (by omega), if_neg (by omega)]
      · refine Or.inr ?_
        unfold jd_29_l2
        refine w_for (f := fun u : Int => jd_29_s2 a u (hh s Q I)) (fun k => (k : Int)) x (fun k hk => co k (by omega) (x3 k hk)) ?_ (n_fu (by omega))
        rw [cv x x1 (by omega)]
        refine if_neg (fun h => ?_)
        rcases x2 with g | g
        · exact c g
        · exact g h
end Seven
