/-! the model's passes -/
section PassM
variable {m : jM} {h N : Nat} {x1 x2 x3 x4 : Int} {ixs : Int → Int → Int}
theorem k_273s (h0 : 1 ≤ h) (h1 : h ≤ 12) (hN : (if jw x4 = 0 then x2 else x3) = (N : Int)) (N1 : N ≤ 24) (hx : ∀ x k : Int, (if jw x4 = 0 then x1 * k + x else x1 * x + k) = ixs x k) {x : Nat} (hxN : x < N) (hi : ∀ i : Int, 0 ≤ i → i < 2 * (h : Int) → 0 ≤ ixs x i ∧ ixs x i < 576) : ∃ X Y, jd_273_s15 x1 x2 x3 x4 1 (2 * (h : Int)) x m = some (.inl ((x : Int) + 1, ims (ims (ims m 119 X) 120 Y) 118 (wf (ixs x) (fun k _ => lw h (fun i => m 118 (ixs x i)) k) (m 118) (2 * h)))) := by
  have l0 : jd_273_l33 x1 x2 x3 x4 1 (2 * (h : Int)) x 0 m = some (ims m 119 (wf (fun k => k) (fun k _ => m 118 (ixs x k)) (m 119) (2 * h))) := by
    have := lpM (f := fun u : (Int × jM) => jd_273_s33 x1 x2 x3 x4 1 (2 * (h : Int)) x u.1 u.2) (ct := fun k => k) (ix := fun k => k) (v := fun k _ => m 118 (ixs x k)) (m := m) (a := 119) (2 * h) (fun k G hk => by
      dsimp only
      unfold jd_273_s33
      have rg := hi k (by omega) (by omega)
      have e1 : ims m 119 G 118 = m 118 := ims_o (by decide)
      rw [n_jw (z := 2 * (h : Int)) (by omega) (by omega), n_jw (z := (k : Int)) (by omega) (by omega), if_neg (by omega), hx, y_ma 118 576 rfl rfl rg.1 rg.2, Option.bind_some, y_mw 119 24 rfl rfl (by omega) (by omega), Option.bind_some, ims_jms, e1]) (fun G => by
      dsimp only
      unfold jd_273_s33
      rw [n_jw (z := 2 * (h : Int)) (by omega) (by omega), n_jw (by omega) (by omega), if_pos (by omega)]) (by omega) (m 119)
    rw [ims_self] at this
    exact this
  obtain ⟨Y0, e0⟩ : ∃ Y0, Y0 = wf (fun k => k) (fun k _ => m 118 (ixs x k)) (m 119) (2 * h) := ⟨_, rfl⟩
  rw [← e0] at l0
  have y0 : ∀ i : Int, 0 ≤ i → i < 2 * (h : Int) → Y0 i = m 118 (ixs x i) := fun i i0 i1 => by
    have := wf_k (ix := fun k => k) (v := fun k _ => m 118 (ixs x k)) (g := m 119) (n := 2 * h) (k := i.toNat) (by omega) (fun l h1 h2 => by omega)
    rw [show ((i.toNat : Nat) : Int) = i by omega] at this
    rw [e0]; exact this
  obtain ⟨Z, e1⟩ := k_271 (m := ims m 119 Y0) h0 h1
  rw [ims_e, ims_sw (a := 119) (b := 120) (by decide), ims_ims] at e1
  obtain ⟨Y1, f1⟩ : ∃ Y1, Y1 = wf (fun k => k) (fun k _ => lw h Y0 k) Y0 (2 * h) := ⟨_, rfl⟩
  rw [← f1] at e1
  have y1 : ∀ k : Nat, k < 2 * h → Y1 k = lw h (fun i => m 118 (ixs x i)) k := fun k hk => by
    have := wf_k (ix := fun k => k) (v := fun k _ => lw h Y0 k) (g := Y0) (n := 2 * h) (k := k) hk (fun l h1 h2 => by omega)
    rw [f1, this]
    exact lw_c y0 (by omega) (by omega)
  have l2 : jd_273_l103 x1 x2 x3 x4 1 (2 * (h : Int)) x 0 (ims (ims m 120 Z) 119 Y1) = some (ims (ims (ims m 120 Z) 119 Y1) 118 (wf (ixs x) (fun k _ => lw h (fun i => m 118 (ixs x i)) k) (m 118) (2 * h))) := by
    have := lpM (f := fun u : (Int × jM) => jd_273_s103 x1 x2 x3 x4 1 (2 * (h : Int)) x u.1 u.2) (ct := fun k => k) (ix := ixs x) (v := fun k _ => lw h (fun i => m 118 (ixs x i)) k) (m := ims (ims m 120 Z) 119 Y1) (a := 118) (2 * h) (fun k G hk => by
      dsimp only
      unfold jd_273_s103
      have rg := hi k (by omega) (by omega)
      have e1 : ims (ims (ims m 120 Z) 119 Y1) 118 G 119 = Y1 := (ims_o (by decide)).trans ims_e
      rw [n_jw (z := 2 * (h : Int)) (by omega) (by omega), n_jw (z := (k : Int)) (by omega) (by omega), if_neg (by omega), y_ma 119 24 rfl rfl (by omega) (by omega), Option.bind_some, hx, y_mw 118 576 rfl rfl rg.1 rg.2, Option.bind_some, ims_jms, e1, y1 k hk]) (fun G => by
      dsimp only
      unfold jd_273_s103
      rw [n_jw (z := 2 * (h : Int)) (by omega) (by omega), n_jw (by omega) (by omega), if_pos (by omega)]) (by omega) (m 118)
    have e3 : ims (ims m 120 Z) 119 Y1 118 = m 118 := (ims_o (by decide)).trans (ims_o (by decide))
    have e4 : ims (ims (ims m 120 Z) 119 Y1) 118 (m 118) = ims (ims m 120 Z) 119 Y1 := by
      rw [← e3]; exact ims_self
    rw [e4] at this
    exact this
  refine ⟨Y1, Z, ?_⟩
  unfold jd_273_s15 jd_273_b100
  rw [hN, n_jw (z := (N : Int)) (by omega) (by omega), n_jw (z := (x : Int)) (by omega) (by omega), if_neg (by omega), l0, Option.bind_some, if_neg (by decide), e1, Option.bind_some, l2, Option.bind_some, ims_sw (I := m) (a := 120) (b := 119) (by decide)]
theorem k_273l (h0 : 1 ≤ h) (h1 : h ≤ 12) (hN : (if jw x4 = 0 then x2 else x3) = (N : Int)) (N1 : N ≤ 24) (hx : ∀ x k : Int, (if jw x4 = 0 then x1 * k + x else x1 * x + k) = ixs x k) (hi : ∀ x i : Int, 0 ≤ x → x < N → 0 ≤ i → i < 2 * (h : Int) → 0 ≤ ixs x i ∧ ixs x i < 576) : ∃ X Y, jd_273_l15 x1 x2 x3 x4 1 (2 * (h : Int)) 0 m = some (ims (ims (ims m 119 X) 120 Y) 118 (wps ixs h (m 118) N)) := by
  have l1 : wT (jd_273_l15 x1 x2 x3 x4 1 (2 * (h : Int)) 0 m) (fun x => ∃ X Y, x = ims (ims (ims m 119 X) 120 Y) 118 (wps ixs h (m 118) N)) := by
    unfold jd_273_l15
    refine w_lp (fun k u => u.1 = (k : Int) ∧ ∃ X Y, u.2 = ims (ims (ims m 119 X) 120 Y) 118 (wps ixs h (m 118) k)) N (fun k u hk hu => ?_) (n_fu (by omega)) ⟨rfl, m 119, m 120, by rw [wps_0, ims_self, ims_self, ims_self]⟩
    obtain ⟨x, M⟩ := u
    obtain ⟨e1, X, Y, e2⟩ := hu
    dsimp only at e1 e2 ⊢
    subst e1 e2
    by_cases c : k = N
    · subst c
      unfold jd_273_s15
      rw [hN, if_pos (Int.le_refl _)]
      exact wT_ret ⟨X, Y, rfl⟩
    · obtain ⟨X', Y', e3⟩ := k_273s (m := ims (ims (ims m 119 X) 120 Y) 118 (wps ixs h (m 118) k)) h0 h1 hN N1 hx (x := k) (by omega) (fun i i0 i1 => hi k i (by omega) (by omega) i0 i1)
      rw [e3]
      refine wT_ret ⟨by omega, by omega, X', Y', ?_⟩
      rw [ims_e, ims_sw (a := 118) (b := 119) (by decide), ims_sw (a := 118) (b := 120) (by decide), ims_ims, ims_sw (a := 120) (b := 119) (by decide), ims_ims, ims_ims]
      rfl
  obtain ⟨x, e, X, Y, rfl⟩ := l1
  exact ⟨X, Y, e⟩
theorem k_273c {sr : Int} {w v : Nat} (w0 : 1 ≤ w) (w1 : w ≤ 12) (v0 : 1 ≤ v) (v1 : v ≤ 12) (hc : ∀ x i : Int, 0 ≤ x → x < 2 * w → 0 ≤ i → i < 2 * v → 0 ≤ ixC sr x i ∧ ixC sr x i < 576) : ∃ X Y, jd_273 sr (2 * (w : Int)) (2 * (v : Int)) 0 1 m = some (ims (ims (ims m 119 X) 120 Y) 118 (wps (ixC sr) v (m 118) (2 * w))) := by
  obtain ⟨X, Y, e⟩ := k_273l (m := m) (h := v) (N := 2 * w) (x1 := sr) (x2 := 2 * (w : Int)) (x3 := 2 * (v : Int)) (x4 := 0) (ixs := ixC sr) v0 v1 (by rw [if_pos (by decide)]; omega) (by omega) (fun x k => by rw [if_pos (by decide)]; unfold ixC; rw [Int.mul_comm, Int.add_comm]) (fun x i h1 h2 h3 h4 => hc x i h1 (by omega) h3 h4)
  refine ⟨X, Y, ?_⟩
  unfold jd_273
  rw [Option.bind_some, if_pos (by decide), e, Option.bind_some]
theorem k_273r {sr : Int} {w v : Nat} (w0 : 1 ≤ w) (w1 : w ≤ 12) (v0 : 1 ≤ v) (v1 : v ≤ 12) (hr : ∀ x i : Int, 0 ≤ x → x < 2 * v → 0 ≤ i → i < 2 * w → 0 ≤ ixR sr x i ∧ ixR sr x i < 576) : ∃ X Y, jd_273 sr (2 * (w : Int)) (2 * (v : Int)) 1 1 m = some (ims (ims (ims m 119 X) 120 Y) 118 (wps (ixR sr) w (m 118) (2 * v))) := by
  obtain ⟨X, Y, e⟩ := k_273l (m := m) (h := w) (N := 2 * v) (x1 := sr) (x2 := 2 * (w : Int)) (x3 := 2 * (v : Int)) (x4 := 1) (ixs := ixR sr) w0 w1 (by rw [if_neg (by decide)]; omega) (by omega) (fun x k => by rw [if_neg (by decide)]; unfold ixR; rw [Int.mul_comm, Int.mul_one]) (fun x i h1 h2 h3 h4 => hr x i h1 (by omega) h3 h4)
  refine ⟨X, Y, ?_⟩
  unfold jd_273
  rw [Option.bind_some, if_neg (by decide), e, Option.bind_some]
end PassM
