/-! cutting: whether rows can be cut, both sides -/
section CanBe
variable {s : hS} {Q : hQ} {hm : hO} {I m : jM} {f : Int} {N : Nat}
theorem sd_b {x : Int} (h : isSd x) : 0 ≤ x ∧ x ≤ 24 := by rcases h with e | e | e <;> rw [e] <;> decide
theorem c_199 (L : Lay s Q hm) (h6 : s.1 ≤ 1000000) (f8 : f ≤ 8) (N8 : N ≤ 8) (hR : ∀ r : Int, 0 ≤ r → r < (N : Int) → RwR s Q hm I m f r) : ∃ v : Int, jd_199 0 (N : Int) (hh s Q I) = some v ∧ ((v = 1 ∧ 0 < N ∧ rSm m N ≤ 12 ∧ RwQ m (N : Int)) ∨ (v = 0 ∧ ¬ (0 < N ∧ rSm m N ≤ 12 ∧ RwQ m (N : Int)))) := by
  have sb := rSm_b (m := m) (N := N) (fun r r0 r1 => (hR r r0 r1).2.2.1) N (Nat.le_refl _)
  have q9 : Q 0 ((9 : Nat) : Int) = some 6 := Lq L rfl
  have q7 : Q 0 ((7 : Nat) : Int) = some 5 := Lq L rfl
  unfold jd_199 jd_199_b14
  rw [n_jw (z := (N : Int)) (by omega) (by omega)]
  by_cases cN : N = 0
  · refine ⟨0, ?_, Or.inr ⟨rfl, fun e => by omega⟩⟩
    rw [if_pos (by omega)]
  · rw [if_neg (by omega), y_ck L 0 11 rfl rfl, Option.bind_some, c_198 (m := m) L h6 N8 (fun r r0 r1 => ⟨(hR r r0 r1).1.2.1, (hR r r0 r1).1.2.2⟩), Option.bind_some, n_jw (z := rSm m N) (by omega) (by omega)]
    by_cases c12 : rSm m N ≤ 12
    · rw [if_pos c12]
      obtain ⟨⟨u1, -, -⟩, ⟨u2, u3⟩, -, ⟨b0, u4, Fb0, u5, u6, u7, u8⟩⟩ := hR 0 (Int.le_refl _) (by omega)
      have u1' : I 6 0 = m 131 0 := u1
      have u5' : I b0 ((1 : Nat) : Int) = m 84 (m 131 0) := u5
      have u6' : I b0 ((2 : Nat) : Int) = m 85 (m 131 0) := u6
      have d7 := sd_b u7
      have d8 := sd_b u8
      have step : ∀ (t : Nat) (u : Int), t ≤ N - 1 → (u = 1 + (t : Int) ∧ RwQ m (1 + (t : Int))) → wT ((fun u : Int => jd_199_s30 0 (N : Int) (some b0) u (hh s Q I)) u) (fun o => jse o (fun u' => t < N - 1 ∧ (u' = 1 + ((t + 1 : Nat) : Int) ∧ RwQ m (1 + ((t + 1 : Nat) : Int)))) (fun x => (x = .inr () ∧ RwQ m (N : Int)) ∨ (x = .inl () ∧ ¬ RwQ m (N : Int)))) := by
        intro t u ht Y
        obtain ⟨rfl, E⟩ := Y
        dsimp only
        unfold jd_199_s30
        rw [n_jw (z := (N : Int)) (by omega) (by omega), n_jw (z := 1 + (t : Int)) (by omega) (by omega)]
        by_cases ct : t = N - 1
        · refine ⟨.inr (.inr ()), ?_, Or.inl ⟨rfl, ?_⟩⟩
          · rw [if_pos (by omega)]
          · rw [show (N : Int) = 1 + (t : Int) by omega]
            exact E
        · obtain ⟨⟨w1, -, -⟩, ⟨w2, w3⟩, -, ⟨b, w4, Fb, w5, w6, w7, w8⟩⟩ := hR (1 + (t : Int)) (by omega) (by omega)
          have w5' : I b ((1 : Nat) : Int) = m 84 (m 131 (1 + (t : Int))) := w5
          have w6' : I b ((2 : Nat) : Int) = m 85 (m 131 (1 + (t : Int))) := w6
          have e7 := sd_b w7
          have e8 := sd_b w8
          rw [if_neg (by omega), y_gr L 0 11 rfl rfl, Option.bind_some, q7, y_gr L 0 11 rfl rfl, Option.bind_some, q9, Option.bind_some, y_ai L h6 6 24 rfl rfl rfl (by omega) (by omega), Option.bind_some, w1, Option.bind_some, y_ar L 5 4 8 rfl rfl rfl w2 (by omega), Option.bind_some, w4, Option.bind_some, F_gi Fb, Option.bind_some, w5', Option.bind_some, F_gi Fb0, Option.bind_some, u5', n_jw (z := m 84 (m 131 (1 + (t : Int)))) (by omega) (by omega), n_jw (z := m 84 (m 131 0)) (by omega) (by omega)]
          have bad : ¬ (m 84 (m 131 (1 + (t : Int))) = m 84 (m 131 0) ∧ m 85 (m 131 (1 + (t : Int))) = m 85 (m 131 0)) → ¬ RwQ m (N : Int) := fun h e => h (e (1 + (t : Int)) (by omega) (by omega))
          by_cases d1 : m 84 (m 131 (1 + (t : Int))) = m 84 (m 131 0)
          · rw [if_pos d1, Option.bind_some, F_gi Fb, Option.bind_some, w6', Option.bind_some, F_gi Fb0, Option.bind_some, u6', n_jw (z := m 85 (m 131 (1 + (t : Int)))) (by omega) (by omega), n_jw (z := m 85 (m 131 0)) (by omega) (by omega)]
            by_cases d2 : m 85 (m 131 (1 + (t : Int))) = m 85 (m 131 0)
            · rw [if_pos d2]
              refine ⟨_, rfl, by omega, by omega, fun i i0 i1 => ?_⟩
              by_cases ci : i = 1 + (t : Int)
              · rw [ci]
                exact ⟨d1, d2⟩
              · exact E i i0 (by omega)
            · rw [if_neg d2]
              exact ⟨_, rfl, Or.inr ⟨rfl, bad (fun e => d2 e.2)⟩⟩
          · rw [if_neg d1]
            exact ⟨_, rfl, Or.inr ⟨rfl, bad (fun e => d1 e.1)⟩⟩
      obtain ⟨x, ex, alt⟩ := w_lp (f := fun u : Int => jd_199_s30 0 (N : Int) (some b0) u (hh s Q I)) (Q := fun x => (x = .inr () ∧ RwQ m (N : Int)) ∨ (x = .inl () ∧ ¬ RwQ m (N : Int))) (fun t u => u = 1 + (t : Int) ∧ RwQ m (1 + (t : Int))) (N - 1) step (n_fu (by omega)) (s0 := 1) ⟨rfl, fun i i0 i1 => by
        have : i = 0 := by
          have : i < 1 + ((0 : Nat) : Int) := i1
          omega
        rw [this]
        exact ⟨rfl, rfl⟩⟩
      have lp : jd_199_l30 0 (N : Int) (some b0) 1 (hh s Q I) = some x := ex
      rw [y_gr L 0 11 rfl rfl, Option.bind_some, q7, y_gr L 0 11 rfl rfl, Option.bind_some, q9, Option.bind_some, y_ai L h6 6 24 rfl rfl rfl (by decide) (by decide), Option.bind_some, u1', Option.bind_some, y_ar L 5 4 8 rfl rfl rfl u2 (by omega), Option.bind_some, u4, lp, Option.bind_some]
      rcases alt with ⟨rfl, E⟩ | ⟨rfl, E⟩
      · exact ⟨1, rfl, Or.inl ⟨rfl, by omega, c12, E⟩⟩
      · exact ⟨0, rfl, Or.inr ⟨rfl, fun e => E e.2.2⟩⟩
    · rw [if_neg c12]
      exact ⟨0, rfl, Or.inr ⟨rfl, fun e => c12 e.2.1⟩⟩
theorem k_52 (f8 : f ≤ 8) (N8 : N ≤ 8) (hR : ∀ r : Int, 0 ≤ r → r < (N : Int) → RwR s Q hm I m f r) : ∃ v : Int, jd_330_l52 (N : Int) 0 (if jw (N : Int) ≤ 0 then 0 else 1) 0 m = some (rSm m N, v) ∧ ((v = 1 ∧ 0 < N ∧ RwQ m (N : Int)) ∨ (v = 0 ∧ ¬ (0 < N ∧ RwQ m (N : Int)))) := by
  have step : ∀ (t : Nat) (u : Int × Int × Int), t ≤ N → (∃ v : Int, u = (rSm m t, v, (t : Int)) ∧ ((v = 1 ∧ 0 < N ∧ RwQ m (t : Int)) ∨ (v = 0 ∧ ¬ (0 < N ∧ RwQ m (t : Int))))) → wT ((fun u : (Int × Int × Int) => jd_330_s52 (N : Int) u.1 u.2.1 u.2.2 m) u) (fun o => jse o (fun u' => t < N ∧ ∃ v : Int, u' = (rSm m (t + 1), v, ((t + 1 : Nat) : Int)) ∧ ((v = 1 ∧ 0 < N ∧ RwQ m ((t + 1 : Nat) : Int)) ∨ (v = 0 ∧ ¬ (0 < N ∧ RwQ m ((t + 1 : Nat) : Int))))) (fun x => ∃ v : Int, x = (rSm m N, v) ∧ ((v = 1 ∧ 0 < N ∧ RwQ m (N : Int)) ∨ (v = 0 ∧ ¬ (0 < N ∧ RwQ m (N : Int)))))) := by
    intro t u ht Y
    obtain ⟨v, rfl, alt⟩ := Y
    dsimp only
    unfold jd_330_s52
    rw [n_jw (z := (N : Int)) (by omega) (by omega), n_jw (z := (t : Int)) (by omega) (by omega)]
    by_cases ct : t = N
    · refine ⟨.inr (rSm m t, v), ?_, v, by rw [ct], by rw [← ct]; rw [← ct] at alt; exact alt⟩
      rw [if_pos (by omega)]
    · obtain ⟨-, ⟨w2, w3⟩, -, ⟨b, -, -, -, -, w7, w8⟩⟩ := hR (t : Int) (by omega) (by omega)
      obtain ⟨-, ⟨u2, u3⟩, -, ⟨b0, -, -, -, -, u7, u8⟩⟩ := hR 0 (Int.le_refl _) (by omega)
      have e7 := sd_b w7
      have e8 := sd_b w8
      have d7 := sd_b u7
      have d8 := sd_b u8
      have es : rSm m t + (m 133 (t : Int) - m 132 (t : Int) + 1) = rSm m (t + 1) := rfl
      have bad : ¬ (m 84 (m 131 (t : Int)) = m 84 (m 131 0) ∧ m 85 (m 131 (t : Int)) = m 85 (m 131 0)) → ¬ (0 < N ∧ RwQ m ((t + 1 : Nat) : Int)) := fun h e => h (e.2 (t : Int) (by omega) (by omega))
      rw [if_neg (by omega), y_ma 133 8 rfl rfl (by omega) (by omega), Option.bind_some, y_ma 132 8 rfl rfl (by omega) (by omega), Option.bind_some, es]
      rcases alt with ⟨rfl, n0, E⟩ | ⟨rfl, E⟩
      · rw [if_neg (show ¬ jw 1 = 0 by decide), y_ma 131 8 rfl rfl (by omega) (by omega), Option.bind_some, y_ma 84 8 rfl rfl w2 (by omega), Option.bind_some, y_ma 131 8 rfl rfl (by decide) (by decide), Option.bind_some, y_ma 84 8 rfl rfl u2 (by omega), Option.bind_some, n_jw (z := m 84 (m 131 (t : Int))) (by omega) (by omega), n_jw (z := m 84 (m 131 0)) (by omega) (by omega)]
        by_cases d1 : m 84 (m 131 (t : Int)) = m 84 (m 131 0)
        · rw [if_pos d1, Option.bind_some, y_ma 85 8 rfl rfl w2 (by omega), Option.bind_some, Option.bind_some, y_ma 85 8 rfl rfl u2 (by omega), Option.bind_some, n_jw (z := m 85 (m 131 (t : Int))) (by omega) (by omega), n_jw (z := m 85 (m 131 0)) (by omega) (by omega)]
          refine ⟨_, rfl, by omega, (if m 85 (m 131 (t : Int)) = m 85 (m 131 0) then 1 else 0), by rw [show ((t + 1 : Nat) : Int) = (t : Int) + 1 by omega], ?_⟩
          by_cases d2 : m 85 (m 131 (t : Int)) = m 85 (m 131 0)
          · left
            refine ⟨if_pos d2, n0, fun i i0 i1 => ?_⟩
            by_cases ci : i = (t : Int)
            · rw [ci]
              exact ⟨d1, d2⟩
            · exact E i i0 (by omega)
          · exact Or.inr ⟨if_neg d2, bad (fun e => d2 e.2)⟩
        · rw [if_neg d1]
          exact ⟨_, rfl, by omega, 0, by rw [show ((t + 1 : Nat) : Int) = (t : Int) + 1 by omega], Or.inr ⟨rfl, bad (fun e => d1 e.1)⟩⟩
      · rw [if_pos (show jw 0 = 0 by decide)]
        exact ⟨_, rfl, by omega, 0, by rw [show ((t + 1 : Nat) : Int) = (t : Int) + 1 by omega], Or.inr ⟨rfl, fun e => E ⟨e.1, fun i i0 i1 => e.2 i i0 (by omega)⟩⟩⟩
  unfold jd_330_l52
  obtain ⟨x, ex, v, hx, alt⟩ := w_lp (f := fun u : (Int × Int × Int) => jd_330_s52 (N : Int) u.1 u.2.1 u.2.2 m) (Q := fun x => ∃ v : Int, x = (rSm m N, v) ∧ ((v = 1 ∧ 0 < N ∧ RwQ m (N : Int)) ∨ (v = 0 ∧ ¬ (0 < N ∧ RwQ m (N : Int))))) (fun t u => ∃ v : Int, u = (rSm m t, v, (t : Int)) ∧ ((v = 1 ∧ 0 < N ∧ RwQ m (t : Int)) ∨ (v = 0 ∧ ¬ (0 < N ∧ RwQ m (t : Int))))) N step (n_fu (by omega)) (s0 := (0, (if jw (N : Int) ≤ 0 then 0 else 1), 0)) ⟨_, rfl, by
    rw [n_jw (z := (N : Int)) (by omega) (by omega)]
    by_cases c : N = 0
    · exact Or.inr ⟨if_pos (by omega), fun e => by omega⟩
    · exact Or.inl ⟨if_neg (by omega), by omega, fun i i0 i1 => absurd i1 (by omega)⟩⟩
  exact ⟨v, by rw [ex, hx], alt⟩
end CanBe
