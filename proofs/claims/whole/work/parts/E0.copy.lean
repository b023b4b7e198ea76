/-! the model lays a picture into a film -/
section Copy
variable {m M : jM} {f k T z : Int}
theorem k_308d (k0 : 0 ≤ k) (k1 : k < 12) (z0 : 0 ≤ z) (z1 : z < 96) : ∃ G H, jd_308_l294 f k z 0 m = some (ims (ims m 99 G) 100 H) ∧ (∀ j : Int, 0 ≤ j → j < 864 → G (864 * z + j) = m 109 (864 * k + j) ∧ H (864 * z + j) = m 110 (864 * k + j) % 2) ∧ ∀ j : Int, j < 864 * z ∨ 864 * z + 864 ≤ j → G j = m 99 j ∧ H j = m 100 j := by
  have l : wT (jd_308_l294 f k z 0 m) (fun o => ∃ G H, o = ims (ims m 99 G) 100 H ∧ (∀ j : Int, 0 ≤ j → j < 864 → G (864 * z + j) = m 109 (864 * k + j) ∧ H (864 * z + j) = m 110 (864 * k + j) % 2) ∧ ∀ j : Int, j < 864 * z ∨ 864 * z + 864 ≤ j → G j = m 99 j ∧ H j = m 100 j) := by
    unfold jd_308_l294
    refine w_lp (fun n u => ∃ G H, u = ((n : Int), ims (ims m 99 G) 100 H) ∧ (∀ j : Int, 0 ≤ j → j < (n : Int) → G (864 * z + j) = m 109 (864 * k + j) ∧ H (864 * z + j) = m 110 (864 * k + j) % 2) ∧ ∀ j : Int, j < 864 * z ∨ 864 * z + 864 ≤ j → G j = m 99 j ∧ H j = m 100 j) 864 (fun n u hn hu => ?_) (n_fu (by omega)) ⟨m 99, m 100, by rw [ims_self, ims_self]; rfl, fun j h0 h1 => absurd h1 (by omega), fun _ _ => ⟨rfl, rfl⟩⟩
    obtain ⟨G, H, rfl, hG, hO⟩ := hu
    unfold jd_308_s294
    dsimp only
    rw [n_jw (by omega) (by omega)]
    by_cases cn : (864 : Int) ≤ (n : Int)
    · rw [if_pos cn]
      exact wT_ret ⟨G, H, rfl, fun j h0 h1 => hG j h0 (by omega), hO⟩
    · have e109 : ims (ims m 99 G) 100 H 109 = m 109 := (ims_o (by decide)).trans (ims_o (by decide))
      have e110 : jms (ims (ims m 99 G) 100 H) 99 (864 * z + (n : Int)) (m 109 (864 * k + (n : Int))) 110 = m 110 := by rw [jms_o (by decide), ims_o (by decide), ims_o (by decide)]
      have e1 : jms (jms (ims (ims m 99 G) 100 H) 99 (864 * z + (n : Int)) (m 109 (864 * k + (n : Int)))) 100 (864 * z + (n : Int)) (m 110 (864 * k + (n : Int)) % 2) = ims (ims m 99 (jiu G (864 * z + (n : Int)) (m 109 (864 * k + (n : Int))))) 100 (jiu H (864 * z + (n : Int)) (m 110 (864 * k + (n : Int)) % 2)) := by
        rw [ims_sw (a := 99) (b := 100) (by decide), ims_jms, ims_sw (a := 100) (b := 99) (by decide), ims_jms]
      rw [if_neg cn, y_ma 109 10368 rfl rfl (by omega) (by omega), Option.bind_some, e109, y_mw 99 82944 rfl rfl (by omega) (by omega), Option.bind_some, y_mz 110 10368 rfl rfl (by omega) (by omega), Option.bind_some, e110, y_mw 100 82944 rfl rfl (by omega) (by omega), Option.bind_some, e1]
      refine wT_ret ⟨by omega, _, _, by rw [show ((n + 1 : Nat) : Int) = (n : Int) + 1 by omega], fun j h0 h1 => ?_, fun j hj => ?_⟩
      · by_cases cj : j = (n : Int)
        · subst cj
          rw [jiu_e, jiu_e]
          exact ⟨rfl, rfl⟩
        · rw [jiu_o (by omega), jiu_o (by omega)]
          exact hG j h0 (by omega)
      · rw [jiu_o (by omega), jiu_o (by omega)]
        exact hO j hj
  obtain ⟨o, e, G, H, rfl, h1, h2⟩ := l
  exact ⟨G, H, e, h1, h2⟩
theorem k_308p (k0 : 0 ≤ k) (k1 : k < 12) (z0 : 0 ≤ z) (z1 : z < 96) : ∃ G, jd_308_l363 f k z 0 m = some (ims m 101 G) ∧ (∀ j : Int, 0 ≤ j → j < 63 → G (63 * z + j) = m 111 (63 * k + j)) ∧ ∀ j : Int, j < 63 * z ∨ 63 * z + 63 ≤ j → G j = m 101 j := by
  have l : jd_308_l363 f k z 0 m = some (ims m 101 (wf (fun j => 63 * z + j) (fun j _ => m 111 (63 * k + j)) (m 101) 63)) := by
    have := lpM (f := fun u : (Int × jM) => jd_308_s363 f k z u.1 u.2) (ct := fun n => n) (ix := fun j => 63 * z + j) (v := fun j _ => m 111 (63 * k + j)) (m := m) (a := 101) 63 (fun n G hn => by
      dsimp only
      unfold jd_308_s363
      have e1 : ims m 101 G 111 = m 111 := ims_o (by decide)
      rw [n_jw (by omega) (by omega), if_neg (by omega), y_ma 111 756 rfl rfl (by omega) (by omega), Option.bind_some, y_mw 101 6048 rfl rfl (by omega) (by omega), Option.bind_some, ims_jms, e1]) (fun G => by
      dsimp only
      unfold jd_308_s363
      exact if_pos (by show (63 : Int) ≤ jw ((63 : Nat) : Int); decide)) (by decide) (m 101)
    rw [ims_self] at this
    exact this
  refine ⟨wf (fun j => 63 * z + j) (fun j _ => m 111 (63 * k + j)) (m 101) 63, l, fun j j0 j1 => ?_, fun j hj => wf_o (fun l hl => by omega)⟩
  have := wf_k (ix := fun j => 63 * z + j) (v := fun j _ => m 111 (63 * k + j)) (g := m 101) (n := 63) (k := j.toNat) (by omega) (fun l _ _ => by omega)
  rw [show ((j.toNat : Nat) : Int) = j by omega] at this
  exact this
theorem k_308c (hz : z = 12 * f + k) (f0 : 0 ≤ f) (f8 : f < 8) (k0 : 0 ≤ k) (hT : M 76 35 = T) (kT : k < T) (t2 : T ≤ 12) (hP : ∀ j : Int, 0 ≤ j → j < T → 0 ≤ M 103 j ∧ M 103 j < 12) (kk : 0 ≤ M 102 k ∧ M 102 k ≤ 2) (e35 : m 76 35 = T) (e : jd_278 k 0 m = some M) : ∃ m', jd_308_s103 f k m = some (.inl (k + 1, m')) ∧ (∀ x : Nat, x < 90 ∨ 101 < x → m' x = M x) ∧ m' 90 = jiu (M 90) z (M 102 k) ∧ m' 91 = jiu (M 91) z (M 103 k) ∧ m' 92 = jiu (M 92) z (M 104 k) ∧ m' 93 = jiu (M 93) z (M 105 k) ∧ m' 94 = jiu (M 94) z (M 106 k) ∧ m' 96 = jiu (M 96) z (M 107 k) ∧ m' 97 = jiu (M 97) z (M 108 k) ∧ m' 98 = jiu (M 98) z 0 ∧ (∃ v, m' 95 = jiu (M 95) z v ∧ (v = 0 ∨ v = 1) ∧ (v = 1 ↔ M 102 k = 0 ∧ ∀ j : Int, k < j → j < T → M 103 k < M 103 j)) ∧ (∀ j : Int, 0 ≤ j → j < 864 → m' 99 (864 * z + j) = M 109 (864 * k + j) ∧ m' 100 (864 * z + j) = M 110 (864 * k + j) % 2) ∧ (∀ j : Int, j < 864 * z ∨ 864 * z + 864 ≤ j → m' 99 j = M 99 j ∧ m' 100 j = M 100 j) ∧ (∀ j : Int, 0 ≤ j → j < 63 → m' 101 (63 * z + j) = M 111 (63 * k + j)) ∧ ∀ j : Int, j < 63 * z ∨ 63 * z + 63 ≤ j → m' 101 j = M 101 j := by
  have zr : 0 ≤ z ∧ z < 96 := by omega
  obtain ⟨N, hN⟩ : ∃ N, N = jms (jms (jms (jms (jms (jms (jms (jms (jms M 90 z (M 102 k)) 91 z (M 103 k)) 92 z (M 104 k)) 93 z (M 105 k)) 94 z (M 106 k)) 96 z (M 107 k)) 97 z (M 108 k)) 98 z 0) 95 z (if M 102 k = 0 then 1 else 0) := ⟨_, rfl⟩
  have No : ∀ x : Nat, x < 90 ∨ 98 < x → N x = M x := fun x hx => by
    rw [hN, jms_o (by omega), jms_o (by omega), jms_o (by omega), jms_o (by omega), jms_o (by omega), jms_o (by omega), jms_o (by omega), jms_o (by omega), jms_o (by omega)]
  have n95 : N 95 z = if M 102 k = 0 then 1 else 0 := by rw [hN]; exact jms_e
  obtain ⟨n, hn⟩ : ∃ n : Nat, (n : Int) = k := ⟨k.toNat, by omega⟩
  obtain ⟨v, v1, v2, v3⟩ := k_308k (m := N) (f := f) (z := z) (T := T) (by rw [No 76 (by omega)]; exact hT) (by omega) t2 (fun j j0 j1 => by rw [No 103 (by omega)]; exact hP j j0 j1) n (by omega) zr (by rw [n95]; split <;> simp)
  rw [hn] at v1 v3
  rw [n95, No 103 (by omega)] at v3
  obtain ⟨G, H, g1, g2, g3⟩ := k_308d (m := jms N 95 z v) (f := f) (k := k) (z := z) k0 (by omega) zr.1 zr.2
  obtain ⟨G', p1, p2, p3⟩ := k_308p (m := ims (ims (jms N 95 z v) 99 G) 100 H) (f := f) (k := k) (z := z) k0 (by omega) zr.1 zr.2
  obtain ⟨m', hm'⟩ : ∃ R, R = ims (ims (ims (jms N 95 z v) 99 G) 100 H) 101 G' := ⟨_, rfl⟩
  have mo : ∀ x : Nat, x ≠ 99 → x ≠ 100 → x ≠ 101 → m' x = jms N 95 z v x := fun x h1 h2 h3 => by rw [hm', ims_o h3, ims_o h2, ims_o h1]
  have jc : ∀ (R : jM) (x : Nat) (u : Int), jms R x z u x = jiu (R x) z u := fun R x u => by
    funext y
    unfold jms
    rw [if_pos rfl]
  have e109 : jms N 95 z v 109 = M 109 := by rw [jms_o (by decide)]; exact No 109 (by omega)
  have e110 : jms N 95 z v 110 = M 110 := by rw [jms_o (by decide)]; exact No 110 (by omega)
  have e99 : jms N 95 z v 99 = M 99 := by rw [jms_o (by decide)]; exact No 99 (by omega)
  have e100 : jms N 95 z v 100 = M 100 := by rw [jms_o (by decide)]; exact No 100 (by omega)
  have e111 : ims (ims (jms N 95 z v) 99 G) 100 H 111 = M 111 := by rw [ims_o (by decide), ims_o (by decide), jms_o (by decide)]; exact No 111 (by omega)
  have e101 : ims (ims (jms N 95 z v) 99 G) 100 H 101 = M 101 := by rw [ims_o (by decide), ims_o (by decide), jms_o (by decide)]; exact No 101 (by omega)
  rw [e109, e110] at g2
  rw [e99, e100] at g3
  rw [e111] at p2
  rw [e101] at p3
  have w99 : m' 99 = G := by rw [hm', ims_o (by decide), ims_o (by decide), ims_e]
  have w100 : m' 100 = H := by rw [hm', ims_o (by decide), ims_e]
  have w101 : m' 101 = G' := by rw [hm', ims_e]
  refine ⟨m', ?_, fun x hx => by rw [mo x (by omega) (by omega) (by omega), jms_o (by omega)]; exact No x (by omega), ?_, ?_, ?_, ?_, ?_, ?_, ?_, ?_, ⟨v, ?_, v2, ?_⟩, fun j h0 h1 => by rw [w99, w100]; exact g2 j h0 h1, fun j hj => by rw [w99, w100]; exact g3 j hj, fun j h0 h1 => by rw [w101]; exact p2 j h0 h1, fun j hj => by rw [w101]; exact p3 j hj⟩
  · unfold jd_308_s103
    rw [e35, n_jw (z := T) (by omega) (by omega), n_jw (z := k) (by omega) (by omega), if_neg (by omega), e, Option.bind_some, ← hz, y_ma 102 12 rfl rfl k0 (by omega), Option.bind_some, y_mw 90 96 rfl rfl zr.1 zr.2, Option.bind_some, y_ma 103 12 rfl rfl k0 (by omega), Option.bind_some, y_mw 91 96 rfl rfl zr.1 zr.2, Option.bind_some, y_ma 104 12 rfl rfl k0 (by omega), Option.bind_some, y_mw 92 96 rfl rfl zr.1 zr.2, Option.bind_some, y_ma 105 12 rfl rfl k0 (by omega), Option.bind_some, y_mw 93 96 rfl rfl zr.1 zr.2, Option.bind_some, y_ma 106 12 rfl rfl k0 (by omega), Option.bind_some, y_mw 94 96 rfl rfl zr.1 zr.2, Option.bind_some, y_ma 107 12 rfl rfl k0 (by omega), Option.bind_some, y_mw 96 96 rfl rfl zr.1 zr.2, Option.bind_some, y_ma 108 12 rfl rfl k0 (by omega), Option.bind_some, y_mw 97 96 rfl rfl zr.1 zr.2, Option.bind_some, y_mw 98 96 rfl rfl zr.1 zr.2, Option.bind_some, y_ma 102 12 rfl rfl k0 (by omega), Option.bind_some, y_mw 95 96 rfl rfl zr.1 zr.2, Option.bind_some]
    have q : jms (jms (jms (jms (jms (jms (jms (jms (jms M 90 z (M 102 k)) 91 z (jms M 90 z (M 102 k) 103 k)) 92 z (jms (jms M 90 z (M 102 k)) 91 z (jms M 90 z (M 102 k) 103 k) 104 k)) 93 z (jms (jms (jms M 90 z (M 102 k)) 91 z (jms M 90 z (M 102 k) 103 k)) 92 z (jms (jms M 90 z (M 102 k)) 91 z (jms M 90 z (M 102 k) 103 k) 104 k) 105 k)) 94 z (M 106 k)) 96 z (M 107 k)) 97 z (M 108 k)) 98 z 0) 95 z (if jw (M 102 k) = 0 then 1 else 0) = N := by
      rw [hN, n_jw (by omega) (by omega)]
      rfl
    refine Eq.trans ?_ (congrArg (fun o => Option.bind o fun x71 => ((jd_308_l294 f k z 0 x71).bind fun x82 => ((jd_308_l363 f k z 0 x82).bind fun x89 => (some (.inl ((k + 1), x89)) : Option ((Int × jM) ⊕ jM))))) v1 |>.trans ?_)
    · refine congrArg (fun R => (jd_308_l240 f k z (k + 1) R).bind fun x71 => ((jd_308_l294 f k z 0 x71).bind fun x82 => ((jd_308_l363 f k z 0 x82).bind fun x89 => (some (.inl ((k + 1), x89)) : Option ((Int × jM) ⊕ jM))))) ?_
      rw [← q]
      rfl
    · rw [Option.bind_some, g1, Option.bind_some, p1, Option.bind_some, hm']
  · rw [mo 90 (by decide) (by decide) (by decide), jms_o (by decide), hN, jms_o (by decide), jms_o (by decide), jms_o (by decide), jms_o (by decide), jms_o (by decide), jms_o (by decide), jms_o (by decide), jms_o (by decide), jc]
  · rw [mo 91 (by decide) (by decide) (by decide), jms_o (by decide), hN, jms_o (by decide), jms_o (by decide), jms_o (by decide), jms_o (by decide), jms_o (by decide), jms_o (by decide), jms_o (by decide), jc, jms_o (by decide)]
  · rw [mo 92 (by decide) (by decide) (by decide), jms_o (by decide), hN, jms_o (by decide), jms_o (by decide), jms_o (by decide), jms_o (by decide), jms_o (by decide), jms_o (by decide), jc, jms_o (by decide), jms_o (by decide)]
  · rw [mo 93 (by decide) (by decide) (by decide), jms_o (by decide), hN, jms_o (by decide), jms_o (by decide), jms_o (by decide), jms_o (by decide), jms_o (by decide), jc, jms_o (by decide), jms_o (by decide), jms_o (by decide)]
  · rw [mo 94 (by decide) (by decide) (by decide), jms_o (by decide), hN, jms_o (by decide), jms_o (by decide), jms_o (by decide), jms_o (by decide), jc, jms_o (by decide), jms_o (by decide), jms_o (by decide), jms_o (by decide)]
  · rw [mo 96 (by decide) (by decide) (by decide), jms_o (by decide), hN, jms_o (by decide), jms_o (by decide), jms_o (by decide), jc, jms_o (by decide), jms_o (by decide), jms_o (by decide), jms_o (by decide), jms_o (by decide)]
  · rw [mo 97 (by decide) (by decide) (by decide), jms_o (by decide), hN, jms_o (by decide), jms_o (by decide), jc, jms_o (by decide), jms_o (by decide), jms_o (by decide), jms_o (by decide), jms_o (by decide), jms_o (by decide)]
  · rw [mo 98 (by decide) (by decide) (by decide), jms_o (by decide), hN, jms_o (by decide), jc, jms_o (by decide), jms_o (by decide), jms_o (by decide), jms_o (by decide), jms_o (by decide), jms_o (by decide), jms_o (by decide)]
  · rw [mo 95 (by decide) (by decide) (by decide), jc, hN, jc, jms_o (by decide), jms_o (by decide), jms_o (by decide), jms_o (by decide), jms_o (by decide), jms_o (by decide), jms_o (by decide), jms_o (by decide)]
    funext y
    unfold jiu
    by_cases cy : y = z
    · rw [if_pos cy, if_pos cy]
    · rw [if_neg cy, if_neg cy, if_neg cy]
  · rw [v3]
    by_cases ck : M 102 k = 0
    · rw [if_pos ck]
      exact ⟨fun e' => ⟨ck, e'.2⟩, fun e' => ⟨rfl, e'.2⟩⟩
    · rw [if_neg ck]
      exact ⟨fun e' => absurd e'.1 (by decide), fun e' => absurd e'.1 ck⟩
end Copy
