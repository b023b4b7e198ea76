/-! making in runs: the raw way tried by the class -/
section RunRaw
variable {s : hS} {Q : hQ} {hm : hO} {I : jM} {x N kd W : Int} {v an nd wy ln : Int → Int} {A3 : Int → Int → Prop}
/-- a raw run that another one beats -/
def dom (nd : Int → Int) (x N b : Int) : Prop := ∃ b' : Int, 1 ≤ b' ∧ b' ≤ N - x ∧ cs 3 b' + nd (x + b') < cs 3 b + nd (x + b)
/-- what is known when k is next -/
def RwI (nd : Int → Int) (x N best len k : Int) : Prop := ((len = 0 ∧ best = 1000000) ∨ (1 ≤ len ∧ len < k ∧ best = cs 3 len + nd (x + len))) ∧ ∀ b : Int, 1 ≤ b → b < k → (best ≤ cs 3 b + nd (x + b) ∧ (cs 3 b + nd (x + b) = best → b ≤ len)) ∨ dom nd x N b
/-- what is known at the end -/
def RwE (nd : Int → Int) (x N c best len : Int) : Prop := ((len = 0 ∧ best = 1000000) ∨ (1 ≤ len ∧ len ≤ N - x ∧ best = cs 3 len + nd (x + len))) ∧ ∀ b : Int, 1 ≤ b → b ≤ N - x → (best ≤ cs 3 b + nd (x + b) ∧ (cs 3 b + nd (x + b) = best → b ≤ len)) ∨ c < cs 3 b + nd (x + b) ∨ dom nd x N b
theorem RwE_1 {c best len : Int} (E : RwE nd x N c best len) (nn : ∀ b : Int, 1 ≤ b → b ≤ N - x → 0 ≤ cs 3 b + nd (x + b)) : ∀ (t : Nat) (b : Int), 1 ≤ b → b ≤ N - x → cs 3 b + nd (x + b) < (t : Int) → best ≤ cs 3 b + nd (x + b) ∨ c < cs 3 b + nd (x + b)
  | 0, b, b1, b2, h => by have := nn b b1 b2; omega
  | t + 1, b, b1, b2, h => by
    rcases E.2 b b1 b2 with ⟨p, -⟩ | p | ⟨b', q1, q2, q3⟩
    · exact Or.inl p
    · exact Or.inr p
    · have := RwE_1 E nn t b' q1 q2 (by omega)
      omega
theorem RwE_s {c w0 l0 best len : Int} (x1 : x < N) (E : RwE nd x N c best len) (nn : ∀ b : Int, 1 ≤ b → b ≤ N - x → 0 ≤ cs 3 b + nd (x + b)) (c1 : c ≤ 1000000) (ha : ∀ a b : Int, A3 a b → a < 3) (S : Spc A3 (fun a b => cs a b + nd (x + b)) c w0 l0) : (1 ≤ len ∧ best < c → Spc (fun a b => A3 a b ∨ (a = 3 ∧ 1 ≤ b ∧ b ≤ N - x)) (fun a b => cs a b + nd (x + b)) best 3 len) ∧ (¬ (1 ≤ len ∧ best < c) → Spc (fun a b => A3 a b ∨ (a = 3 ∧ 1 ≤ b ∧ b ≤ N - x)) (fun a b => cs a b + nd (x + b)) c w0 l0) := by
  obtain ⟨a1, a2, a3⟩ := S
  have mn : ∀ b : Int, 1 ≤ b → b ≤ N - x → best ≤ cs 3 b + nd (x + b) ∨ c < cs 3 b + nd (x + b) := fun b b1 b2 => RwE_1 E nn (cs 3 b + nd (x + b) + 1).toNat b b1 b2 (by have := nn b b1 b2; omega)
  refine ⟨fun h => ?_, fun h => ⟨Or.inl a1, a2, fun a b hab => ?_⟩⟩
  · obtain ⟨h1, h2⟩ := h
    have hl : 1 ≤ len ∧ len ≤ N - x ∧ best = cs 3 len + nd (x + len) := by
      rcases E.1 with e | e
      · omega
      · exact e
    refine ⟨Or.inr ⟨rfl, hl.1, hl.2.1⟩, hl.2.2, fun a b hab => ?_⟩
    rcases hab with hab | ⟨rfl, b1, b2⟩
    · have := (a3 a b hab).1
      dsimp only at this ⊢
      exact ⟨by omega, fun e => by omega⟩
    · dsimp only
      rcases E.2 b b1 b2 with ⟨p, q⟩ | p | ⟨b', q1, q2, q3⟩
      · exact ⟨p, fun e => ⟨Int.le_refl _, fun _ => q e⟩⟩
      · exact ⟨by omega, fun e => by omega⟩
      · have := mn b' q1 q2
        exact ⟨by omega, fun e => by omega⟩
  · rcases hab with hab | ⟨rfl, b1, b2⟩
    · exact a3 a b hab
    · dsimp only
      have := mn b b1 b2
      have h3 := ha w0 l0 a1
      have : c ≤ cs 3 b + nd (x + b) := by
        rcases E.1 with e | e <;> omega
      exact ⟨this, fun e => ⟨by omega, fun e2 => by omega⟩⟩
theorem c_130 (Ly : Lay s Q hm) (h6 : s.1 ≤ 1000000) (x0 : 0 ≤ x) (x1 : x < N) (N1 : N ≤ 576) (hr : ∀ z : Int, x < z → z ≤ N → I 65 z = nd z) (hw : ∀ z : Int, x < z → z < N → I 66 z = wy z) (T : TB v an kd W N nd wy ln (x + 1)) (b0 : 0 ≤ I 65 x) (b1 : I 65 x ≤ 1000000) (ha : ∀ a b : Int, A3 a b → a < 3) (S : Spc A3 (fun a b => cs a b + nd (x + b)) (I 65 x) (I 66 x) (I 67 x)) : ∃ I', jd_130 64 x N (hh s Q I) = some (hh s Q I') ∧ FrX I I' x ∧ Spc (fun a b => A3 a b ∨ (a = 3 ∧ 1 ≤ b ∧ b ≤ N - x)) (fun a b => cs a b + nd (x + b)) (I' 65 x) (I' 66 x) (I' 67 x) := by
  have nb : ∀ b : Int, 1 ≤ b → b ≤ N - x → 0 ≤ nd (x + b) ∧ nd (x + b) ≤ 5760 := fun b b1 b2 => by
    have := TB_r T (y := x + b) (by omega) (by omega)
    omega
  have nn : ∀ b : Int, 1 ≤ b → b ≤ N - x → 0 ≤ cs 3 b + nd (x + b) := fun b b1 b2 => by
    have := nb b b1 b2
    have := cs_p (w := 3) (l := b) (by decide) b1
    omega
  have step : ∀ (t : Nat) (u : Int × Int × Int), t ≤ (N - x).toNat → (∃ best len : Int, u = (best, len, (t : Int) + 1) ∧ (0 ≤ best ∧ best ≤ 1000000) ∧ RwI nd x N best len ((t : Int) + 1)) → wT ((fun u : (Int × Int × Int) => jd_130_s9 64 x N u.1 u.2.1 u.2.2 (hh s Q I)) u) (fun o => jse o (fun u' => t < (N - x).toNat ∧ ∃ best len : Int, u' = (best, len, ((t + 1 : Nat) : Int) + 1) ∧ (0 ≤ best ∧ best ≤ 1000000) ∧ RwI nd x N best len (((t + 1 : Nat) : Int) + 1)) (fun y => ∃ best len : Int, (y = .inl (best, len) ∨ y = .inr (best, len)) ∧ (0 ≤ best ∧ best ≤ 1000000) ∧ RwE nd x N (I 65 x) best len)) := by
    intro t u ht J
    obtain ⟨best, len, rfl, ⟨e0, e1⟩, Ri⟩ := J
    dsimp only
    obtain ⟨k, hk⟩ : ∃ k : Int, (t : Int) + 1 = k := ⟨_, rfl⟩
    have ek : ((t + 1 : Nat) : Int) + 1 = k + 1 := by omega
    rw [ek]
    rw [hk] at Ri ⊢
    have q1 : Q 64 ((1 : Nat) : Int) = some 65 := Lq Ly rfl
    have q2 : Q 64 ((2 : Nat) : Int) = some 66 := Lq Ly rfl
    unfold jd_130_s9
    rw [n_jw (z := N - x) (by omega) (by omega), n_jw (z := k) (by omega) (by omega)]
    by_cases c : N - x < k
    · rw [if_pos c]
      refine ⟨_, rfl, best, len, Or.inr rfl, ⟨e0, e1⟩, ?_, fun b b1 b2 => ?_⟩
      · rcases Ri.1 with e | ⟨e2, e3, e4⟩
        · exact Or.inl e
        · exact Or.inr ⟨e2, by omega, e4⟩
      · rcases Ri.2 b b1 (by omega) with h | h
        · exact Or.inl h
        · exact Or.inr (Or.inr h)
    · have kN : k ≤ N - x := by omega
      have k1 : jd_11 3 = some (cln 3) := c_11 (by decide) (by decide)
      have k2 : jd_11 (k - 1) = some (cln (k - 1)) := c_11 (by omega) (by omega)
      have csk := cs_le (w := 3) (l := k) (by decide) (by decide) (by omega) (by omega)
      have csp := cs_p (w := 3) (l := k) (by decide) (by omega)
      have nk := nb k (by omega) kN
      have ar : cln 3 + cln (k - 1) + 8 * k = cs 3 k := by
        unfold cs exC
        rw [if_neg (by decide), if_pos rfl]
      have stop : ∀ b : Int, k ≤ b → b ≤ N - x → cs 3 k ≤ cs 3 b + nd (x + b) := fun b b1 b2 => by
        have h1 := cs_m (w := 3) (a := k) (b := b) (by omega) b1
        have h2 := nb b (by omega) b2
        omega
      have i65k : I 65 (x + k) = nd (x + k) := hr (x + k) (by omega) (by omega)
      have b43 : wT (jd_130_b43 64 x N best len k (x + k) (hh s Q I)) (fun o => jse o (fun u' => t < (N - x).toNat ∧ ∃ best len : Int, u' = (best, len, k + 1) ∧ (0 ≤ best ∧ best ≤ 1000000) ∧ RwI nd x N best len (k + 1)) (fun y => ∃ best len : Int, (y = .inl (best, len) ∨ y = .inr (best, len)) ∧ (0 ≤ best ∧ best ≤ 1000000) ∧ RwE nd x N (I 65 x) best len)) := by
        have fin : (best < cs 3 k ∨ I 65 x < cs 3 k) → RwE nd x N (I 65 x) best len := fun h => ⟨by
          rcases Ri.1 with e | ⟨e2, e3, e4⟩
          · exact Or.inl e
          · exact Or.inr ⟨e2, by omega, e4⟩, fun b b1 b2 => by
          by_cases d : b < k
          · rcases Ri.2 b b1 d with h | h
            · exact Or.inl h
            · exact Or.inr (Or.inr h)
          · have := stop b (by omega) b2
            rcases h with h | h
            · left
              exact ⟨by omega, fun e => by omega⟩
            · right; left
              omega⟩
        unfold jd_130_b43 jd_130_b112
        rw [k1, Option.bind_some, k2, Option.bind_some, ar, n_jw (z := best) (by omega) (by omega), n_jw (z := cs 3 k) (by omega) (by omega)]
        by_cases d1 : best < cs 3 k
        · rw [if_pos d1]
          exact ⟨_, rfl, best, len, Or.inr rfl, ⟨e0, e1⟩, fin (Or.inl d1)⟩
        · rw [if_neg d1, y_gr Ly 64 9 rfl rfl, Option.bind_some, q1, Option.bind_some, y_ai Ly h6 65 577 rfl rfl rfl x0 (by omega), Option.bind_some, n_jw (z := I 65 x) (by omega) (by omega)]
          by_cases d2 : cs 3 k ≤ I 65 x
          · rw [if_pos d2, Option.bind_some, Option.bind_some, y_ai Ly h6 65 577 rfl rfl rfl (by omega) (by omega), Option.bind_some, i65k, n_jw (z := cs 3 k + nd (x + k)) (by omega) (by omega)]
            by_cases d3 : best < cs 3 k + nd (x + k)
            · rw [if_pos d3]
              refine ⟨_, rfl, by omega, best, len, rfl, ⟨e0, e1⟩, ?_, fun b b1 b2 => ?_⟩
              · rcases Ri.1 with e | ⟨e2, e3, e4⟩
                · exact Or.inl e
                · exact Or.inr ⟨e2, by omega, e4⟩
              · by_cases d : b = k
                · rw [d]
                  exact Or.inl ⟨by omega, fun e => by omega⟩
                · exact Ri.2 b b1 (by omega)
            · rw [if_neg d3, Option.bind_some, Option.bind_some, y_ai Ly h6 65 577 rfl rfl rfl (by omega) (by omega), Option.bind_some, i65k]
              refine ⟨_, rfl, by omega, cs 3 k + nd (x + k), k, rfl, ⟨by omega, by omega⟩, Or.inr ⟨by omega, by omega, rfl⟩, fun b b1 b2 => ?_⟩
              by_cases d : b = k
              · rw [d]
                exact Or.inl ⟨Int.le_refl _, fun _ => Int.le_refl _⟩
              · rcases Ri.2 b b1 (by omega) with ⟨h1, h2⟩ | h
                · exact Or.inl ⟨by omega, fun _ => by omega⟩
                · exact Or.inr h
          · rw [if_neg d2]
            exact ⟨_, rfl, best, len, Or.inl rfl, ⟨e0, e1⟩, fin (Or.inr (by omega))⟩
      rw [if_neg c, n_jw (z := N) (by omega) (by omega), n_jw (z := x + k) (by omega) (by omega)]
      by_cases d : N ≤ x + k
      · rw [if_pos d]
        exact b43
      · obtain ⟨⟨⟨g1, g2⟩, g3, g4⟩, g5, -⟩ := T.2 (x + k) (by omega) (by omega)
        have i66 : I 66 (x + k) = wy (x + k) := hw (x + k) (by omega) (by omega)
        rw [if_neg d, y_gr Ly 64 9 rfl rfl, Option.bind_some, q2, Option.bind_some, y_ai Ly h6 66 576 rfl rfl rfl (by omega) (by omega), Option.bind_some, i66, n_jw (z := wy (x + k)) (by omega) (by omega)]
        by_cases d3 : wy (x + k) = 3
        · rw [if_pos d3]
          refine ⟨.inl (best, len, k + 1), rfl, by omega, best, len, rfl, ⟨e0, e1⟩, ?_, fun b b1 b2 => ?_⟩
          · rcases Ri.1 with e | ⟨e2, e3, e4⟩
            · exact Or.inl e
            · exact Or.inr ⟨e2, by omega, e4⟩
          · by_cases db : b = k
            · rw [db]
              right
              dsimp only at g5
              rw [d3] at g4 g5
              unfold Rn at g4
              rw [if_pos rfl] at g4
              have r2 := raw_2 (a := k) (b := ln (x + k)) (by omega) g3
              refine ⟨k + ln (x + k), by omega, by omega, ?_⟩
              rw [g5, show x + (k + ln (x + k)) = x + k + ln (x + k) by omega]
              omega
            · exact Ri.2 b b1 (by omega)
        · rw [if_neg d3]
          exact b43
  obtain ⟨y, e, best, len, hy, ⟨e0, e1⟩, E⟩ := w_lp (f := fun u : (Int × Int × Int) => jd_130_s9 64 x N u.1 u.2.1 u.2.2 (hh s Q I)) (Q := fun y => ∃ best len : Int, (y = .inl (best, len) ∨ y = .inr (best, len)) ∧ (0 ≤ best ∧ best ≤ 1000000) ∧ RwE nd x N (I 65 x) best len) (fun t u => ∃ best len : Int, u = (best, len, (t : Int) + 1) ∧ (0 ≤ best ∧ best ≤ 1000000) ∧ RwI nd x N best len ((t : Int) + 1)) (N - x).toNat step (n_fu (by omega)) (s0 := (1000000, 0, 1)) ⟨1000000, 0, rfl, ⟨by decide, by decide⟩, Or.inl ⟨rfl, rfl⟩, fun b b1 b2 => absurd b2 (by omega)⟩
  obtain ⟨s1, s2⟩ := RwE_s x1 E nn b1 ha S
  have lb : 0 ≤ len ∧ len ≤ 576 := by
    rcases E.1 with h | h <;> omega
  have tail : jd_130 64 x N (hh s Q I) = jd_130_b118 64 x best len (hh s Q I) := by
    unfold jd_130 jd_130_l9
    rw [e, Option.bind_some]
    rcases hy with rfl | rfl <;> rfl
  rw [tail]
  unfold jd_130_b118 jd_130_b132
  rw [n_jw (z := len) (by omega) (by omega)]
  by_cases d : len ≤ 0
  · rw [if_pos d]
    exact ⟨I, rfl, FrX_r, s2 (by omega)⟩
  · obtain ⟨I2, d1, d2, d3, d4⟩ := c_129 (w := 3) (L := len) (c := best) Ly h6 x0 (by omega) b0 b1 e0 e1
    rw [if_neg d, y_ck Ly 64 9 rfl rfl, Option.bind_some, d1, Option.bind_some]
    refine ⟨I2, rfl, d2, ?_⟩
    by_cases dd : best < I 65 x
    · obtain ⟨y1, y2, y3⟩ := d3 dd
      rw [y1, y2, y3]
      exact s1 ⟨by omega, dd⟩
    · rw [d4 dd]
      exact s2 (by omega)
end RunRaw
