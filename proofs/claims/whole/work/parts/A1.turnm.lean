/-! a square turned by the model -/
section TurnM
variable {m : jM}
theorem f4_x {r c : Int} (r0 : 0 ≤ r) (r1 : r < 4) (c0 : 0 ≤ c) (c1 : c < 4) (G : Int → Int) : f4 c (f4 r (G 0) (G 4) (G 8) (G 12)) (f4 r (G 1) (G 5) (G 9) (G 13)) (f4 r (G 2) (G 6) (G 10) (G 14)) (f4 r (G 3) (G 7) (G 11) (G 15)) = hd G r c := by
  have hr : r = 0 ∨ r = 1 ∨ r = 2 ∨ r = 3 := by omega
  have hc : c = 0 ∨ c = 1 ∨ c = 2 ∨ c = 3 := by omega
  unfold hd
  rcases hr with rfl | rfl | rfl | rfl <;> rcases hc with rfl | rfl | rfl | rfl <;> simp [f4] <;> omega
theorem sgn_s {r : Int} (r0 : 0 ≤ r) (r1 : r < 4) (a b c d : Int) : 0 + jd_255 r 0 * a + jd_255 r 1 * b + jd_255 r 2 * c + jd_255 r 3 * d = f4 r a b c d := by
  have hr : r = 0 ∨ r = 1 ∨ r = 2 ∨ r = 3 := by omega
  rcases hr with rfl | rfl | rfl | rfl
  · rw [show jd_255 0 0 = 1 from by decide, show jd_255 0 1 = 1 from by decide, show jd_255 0 2 = 1 from by decide, show jd_255 0 3 = 1 from by decide]; unfold f4; simp only [if_true]; omega
  · rw [show jd_255 1 0 = 1 from by decide, show jd_255 1 1 = 1 from by decide, show jd_255 1 2 = -1 from by decide, show jd_255 1 3 = -1 from by decide]; unfold f4; rw [if_neg (by decide), if_pos rfl]; omega
  · rw [show jd_255 2 0 = 1 from by decide, show jd_255 2 1 = -1 from by decide, show jd_255 2 2 = -1 from by decide, show jd_255 2 3 = 1 from by decide]; unfold f4; rw [if_neg (by decide), if_neg (by decide), if_pos rfl]; omega
  · rw [show jd_255 3 0 = 1 from by decide, show jd_255 3 1 = -1 from by decide, show jd_255 3 2 = 1 from by decide, show jd_255 3 3 = -1 from by decide]; unfold f4; rw [if_neg (by decide), if_neg (by decide), if_neg (by decide)]; omega
theorem sgn_t {r : Int} (r0 : 0 ≤ r) (r1 : r < 4) (a b c d : Int) : 0 + a * jd_255 0 r + b * jd_255 1 r + c * jd_255 2 r + d * jd_255 3 r = f4 r a b c d := by
  have hr : r = 0 ∨ r = 1 ∨ r = 2 ∨ r = 3 := by omega
  rcases hr with rfl | rfl | rfl | rfl
  · rw [show jd_255 0 0 = 1 from by decide, show jd_255 1 0 = 1 from by decide, show jd_255 2 0 = 1 from by decide, show jd_255 3 0 = 1 from by decide]; unfold f4; simp only [if_true]; omega
  · rw [show jd_255 0 1 = 1 from by decide, show jd_255 1 1 = 1 from by decide, show jd_255 2 1 = -1 from by decide, show jd_255 3 1 = -1 from by decide]; unfold f4; rw [if_neg (by decide), if_pos rfl]; omega
  · rw [show jd_255 0 2 = 1 from by decide, show jd_255 1 2 = -1 from by decide, show jd_255 2 2 = -1 from by decide, show jd_255 3 2 = 1 from by decide]; unfold f4; rw [if_neg (by decide), if_neg (by decide), if_pos rfl]; omega
  · rw [show jd_255 0 3 = 1 from by decide, show jd_255 1 3 = -1 from by decide, show jd_255 2 3 = 1 from by decide, show jd_255 3 3 = -1 from by decide]; unfold f4; rw [if_neg (by decide), if_neg (by decide), if_neg (by decide)]; omega
theorem k_256a {r c : Int} (r0 : 0 ≤ r) (r1 : r < 4) (c0 : 0 ≤ c) (c1 : c < 4) : jd_256_l19 r c 0 0 m = some (f4 r (m 116 c) (m 116 (4 + c)) (m 116 (8 + c)) (m 116 (12 + c))) := by
  have st : ∀ (x : Int) (i : Int), 0 ≤ i → i < 4 → jd_256_s19 r c x i m = some (.inl (x + jd_255 r i * m 116 (4 * i + c), i + 1)) := fun x i i0 i1 => by
    unfold jd_256_s19
    rw [n_jw (by omega) (by omega), if_neg (by omega), y_ma 116 16 rfl rfl (by omega) (by omega), Option.bind_some]
  unfold jd_256_l19
  rw [show jfu = 99999995 + 1 + 1 + 1 + 1 + 1 from rfl, jlp_i (f := fun u : (Int × Int) => jd_256_s19 r c u.1 u.2 m) (st 0 0 (by decide) (by decide)), jlp_i (f := fun u : (Int × Int) => jd_256_s19 r c u.1 u.2 m) (st _ (0 + 1) (by decide) (by decide)), jlp_i (f := fun u : (Int × Int) => jd_256_s19 r c u.1 u.2 m) (st _ (0 + 1 + 1) (by decide) (by decide)), jlp_i (f := fun u : (Int × Int) => jd_256_s19 r c u.1 u.2 m) (st _ (0 + 1 + 1 + 1) (by decide) (by decide))]
  have e := sgn_s r0 r1 (m 116 c) (m 116 (4 + c)) (m 116 (8 + c)) (m 116 (12 + c))
  rw [← e]
  refine jlp_r ?_
  unfold jd_256_s19
  dsimp only
  rw [if_pos (by decide), show 4 * (0 : Int) + c = c by omega]
  rfl
theorem k_256b {r c : Int} (r0 : 0 ≤ r) (r1 : r < 4) (c0 : 0 ≤ c) (c1 : c < 4) : jd_256_l94 r c 0 0 m = some (f4 c (m 117 (4 * r)) (m 117 (4 * r + 1)) (m 117 (4 * r + 2)) (m 117 (4 * r + 3))) := by
  have st : ∀ (x : Int) (i : Int), 0 ≤ i → i < 4 → jd_256_s94 r c x i m = some (.inl (x + m 117 (4 * r + i) * jd_255 i c, i + 1)) := fun x i i0 i1 => by
    unfold jd_256_s94
    rw [n_jw (by omega) (by omega), if_neg (by omega), y_ma 117 16 rfl rfl (by omega) (by omega), Option.bind_some]
  unfold jd_256_l94
  rw [show jfu = 99999995 + 1 + 1 + 1 + 1 + 1 from rfl, jlp_i (f := fun u : (Int × Int) => jd_256_s94 r c u.1 u.2 m) (st 0 0 (by decide) (by decide)), jlp_i (f := fun u : (Int × Int) => jd_256_s94 r c u.1 u.2 m) (st _ (0 + 1) (by decide) (by decide)), jlp_i (f := fun u : (Int × Int) => jd_256_s94 r c u.1 u.2 m) (st _ (0 + 1 + 1) (by decide) (by decide)), jlp_i (f := fun u : (Int × Int) => jd_256_s94 r c u.1 u.2 m) (st _ (0 + 1 + 1 + 1) (by decide) (by decide))]
  have e := sgn_t c0 c1 (m 117 (4 * r)) (m 117 (4 * r + 1)) (m 117 (4 * r + 2)) (m 117 (4 * r + 3))
  rw [← e]
  refine jlp_r ?_
  unfold jd_256_s94
  dsimp only
  rw [if_pos (by decide), Int.add_zero]
  rfl
theorem k_256 : ∃ H G, jd_256 m = some (ims (ims m 117 H) 116 G) ∧ ∀ r c : Int, 0 ≤ r → r < 4 → 0 ≤ c → c < 4 → G (4 * r + c) = hd (m 116) r c := by
  have row : ∀ (r : Int) (H : Int → Int), 0 ≤ r → r < 4 → jd_256_l9 r 0 (ims m 117 H) = some (ims m 117 (wf (fun c => 4 * r + c) (fun c _ => f4 r (m 116 c) (m 116 (4 + c)) (m 116 (8 + c)) (m 116 (12 + c))) H 4)) := fun r H r0 r1 =>
    lpM (f := fun u : (Int × jM) => jd_256_s9 r u.1 u.2) (ct := fun k => k) (ix := fun c => 4 * r + c) (v := fun c _ => f4 r (m 116 c) (m 116 (4 + c)) (m 116 (8 + c)) (m 116 (12 + c))) (m := m) (a := 117) 4 (fun k G hk => by
      dsimp only
      unfold jd_256_s9
      have e1 : ims m 117 G 116 = m 116 := ims_o (by decide)
      rw [n_jw (by omega) (by omega), if_neg (by omega), k_256a r0 r1 (by omega) (by omega), Option.bind_some, y_mw 117 16 rfl rfl (by omega) (by omega), Option.bind_some, ims_jms, e1]) (fun G => by
      dsimp only
      unfold jd_256_s9
      exact if_pos (by show (4 : Int) ≤ jw ((4 : Nat) : Int); decide)) (by decide) H
  have l1 : wT (jd_256_l2 0 m) (fun o => ∃ H, o = ims m 117 H ∧ ∀ r c : Int, 0 ≤ r → r < 4 → 0 ≤ c → c < 4 → H (4 * r + c) = f4 r (m 116 c) (m 116 (4 + c)) (m 116 (8 + c)) (m 116 (12 + c))) := by
    unfold jd_256_l2
    refine w_lp (fun n u => ∃ H, u = ((n : Int), ims m 117 H) ∧ ∀ r c : Int, 0 ≤ r → r < (n : Int) → 0 ≤ c → c < 4 → H (4 * r + c) = f4 r (m 116 c) (m 116 (4 + c)) (m 116 (8 + c)) (m 116 (12 + c))) 4 (fun n u hn hu => ?_) (n_fu (by omega)) ⟨m 117, by rw [ims_self]; rfl, fun r c h0 h1 => absurd h1 (by omega)⟩
    obtain ⟨H, rfl, hH⟩ := hu
    unfold jd_256_s2
    dsimp only
    rw [n_jw (by omega) (by omega)]
    by_cases cn : (4 : Int) ≤ (n : Int)
    · rw [if_pos cn]
      exact wT_ret ⟨H, rfl, fun r c h0 h1 => hH r c h0 (by omega)⟩
    · rw [if_neg cn, row n H (by omega) (by omega), Option.bind_some]
      refine wT_ret ⟨by omega, _, by rw [show ((n + 1 : Nat) : Int) = (n : Int) + 1 by omega], fun r c h0 h1 h2 h3 => ?_⟩
      by_cases cr : r = (n : Int)
      · subst cr
        have := wf_k (ix := fun c => 4 * (n : Int) + c) (v := fun c _ => f4 (n : Int) (m 116 c) (m 116 (4 + c)) (m 116 (8 + c)) (m 116 (12 + c))) (g := H) (n := 4) (k := c.toNat) (by omega) (fun l _ _ => by omega)
        rw [show ((c.toNat : Nat) : Int) = c by omega] at this
        exact this
      · rw [wf_o (fun l hl => by omega)]
        exact hH r c h0 (by omega) h2 h3
  obtain ⟨x1, e1, H, rfl, hH⟩ := l1
  have row2 : ∀ (r : Int) (G : Int → Int), 0 ≤ r → r < 4 → jd_256_l84 r 0 (ims (ims m 117 H) 116 G) = some (ims (ims m 117 H) 116 (wf (fun c => 4 * r + c) (fun c _ => f4 c (H (4 * r)) (H (4 * r + 1)) (H (4 * r + 2)) (H (4 * r + 3))) G 4)) := fun r G r0 r1 =>
    lpM (f := fun u : (Int × jM) => jd_256_s84 r u.1 u.2) (ct := fun k => k) (ix := fun c => 4 * r + c) (v := fun c _ => f4 c (H (4 * r)) (H (4 * r + 1)) (H (4 * r + 2)) (H (4 * r + 3))) (m := ims m 117 H) (a := 116) 4 (fun k G hk => by
      dsimp only
      unfold jd_256_s84
      have e1 : ims (ims m 117 H) 116 G 117 = H := (ims_o (by decide)).trans ims_e
      rw [n_jw (by omega) (by omega), if_neg (by omega), k_256b r0 r1 (by omega) (by omega), Option.bind_some, y_mw 116 16 rfl rfl (by omega) (by omega), Option.bind_some, ims_jms, e1]) (fun G => by
      dsimp only
      unfold jd_256_s84
      exact if_pos (by show (4 : Int) ≤ jw ((4 : Nat) : Int); decide)) (by decide) G
  have l2 : wT (jd_256_l77 0 (ims m 117 H)) (fun o => ∃ G, o = ims (ims m 117 H) 116 G ∧ ∀ r c : Int, 0 ≤ r → r < 4 → 0 ≤ c → c < 4 → G (4 * r + c) = f4 c (H (4 * r)) (H (4 * r + 1)) (H (4 * r + 2)) (H (4 * r + 3))) := by
    unfold jd_256_l77
    refine w_lp (fun n u => ∃ G, u = ((n : Int), ims (ims m 117 H) 116 G) ∧ ∀ r c : Int, 0 ≤ r → r < (n : Int) → 0 ≤ c → c < 4 → G (4 * r + c) = f4 c (H (4 * r)) (H (4 * r + 1)) (H (4 * r + 2)) (H (4 * r + 3))) 4 (fun n u hn hu => ?_) (n_fu (by omega)) ⟨ims m 117 H 116, by rw [ims_self]; rfl, fun r c h0 h1 => absurd h1 (by omega)⟩
    obtain ⟨G, rfl, hG⟩ := hu
    unfold jd_256_s77
    dsimp only
    rw [n_jw (by omega) (by omega)]
    by_cases cn : (4 : Int) ≤ (n : Int)
    · rw [if_pos cn]
      exact wT_ret ⟨G, rfl, fun r c h0 h1 => hG r c h0 (by omega)⟩
    · rw [if_neg cn, row2 n G (by omega) (by omega), Option.bind_some]
      refine wT_ret ⟨by omega, _, by rw [show ((n + 1 : Nat) : Int) = (n : Int) + 1 by omega], fun r c h0 h1 h2 h3 => ?_⟩
      by_cases cr : r = (n : Int)
      · subst cr
        have := wf_k (ix := fun c => 4 * (n : Int) + c) (v := fun c _ => f4 c (H (4 * (n : Int))) (H (4 * (n : Int) + 1)) (H (4 * (n : Int) + 2)) (H (4 * (n : Int) + 3))) (g := G) (n := 4) (k := c.toNat) (by omega) (fun l _ _ => by omega)
        rw [show ((c.toNat : Nat) : Int) = c by omega] at this
        exact this
      · rw [wf_o (fun l hl => by omega)]
        exact hG r c h0 (by omega) h2 h3
  obtain ⟨x2, e2, G, rfl, hG⟩ := l2
  refine ⟨H, G, ?_, fun r c r0 r1 c0 c1 => ?_⟩
  · unfold jd_256
    rw [e1, Option.bind_some, e2, Option.bind_some]
  · have h0 := hH r 0 r0 r1 (by decide) (by decide)
    have h1 := hH r 1 r0 r1 (by decide) (by decide)
    have h2 := hH r 2 r0 r1 (by decide) (by decide)
    have h3 := hH r 3 r0 r1 (by decide) (by decide)
    rw [Int.add_zero] at h0
    rw [hG r c r0 r1 c0 c1, h0, h1, h2, h3]
    exact f4_x r0 r1 c0 c1 (m 116)
end TurnM
