/-! a line lowered by the model; passes over all lines -/
section LowerM
variable {m : jM} {h : Nat}
theorem k_271 (h0 : 1 ≤ h) (h1 : h ≤ 12) : ∃ Y, jd_271 (2 * (h : Int)) m = some (ims (ims m 120 Y) 119 (wf (fun k => k) (fun k _ => lw h (m 119) k) (m 119) (2 * h))) := by
  have d2 : jdiv (2 * (h : Int)) 2 = h := by rw [n_div (by omega) (by omega) (by decide) (by decide)]; omega
  have l1 : jd_271_l6 (2 * (h : Int)) h 0 m = some (ims m 120 (wf (fun k => 2 * k) (fun k _ => lwE h (m 119) k) (m 120) h)) := by
    have := lpM (f := fun u : (Int × jM) => jd_271_s6 (2 * (h : Int)) h u.1 u.2) (ct := fun k => k) (ix := fun k => 2 * k) (v := fun k _ => lwE h (m 119) k) (m := m) (a := 120) h (fun k G hk => by
      dsimp only
      unfold jd_271_s6
      have e1 : ims m 120 G 119 = m 119 := ims_o (by decide)
      rw [n_jw (z := (h : Int)) (by omega) (by omega), n_jw (z := (k : Int)) (by omega) (by omega), if_neg (by omega), y_ma 119 24 rfl rfl (by omega) (by omega), Option.bind_some, y_ma 119 24 rfl rfl (by split <;> omega) (by split <;> omega), Option.bind_some, y_ma 119 24 rfl rfl (by omega) (by omega), Option.bind_some, y_mw 120 24 rfl rfl (by omega) (by omega), Option.bind_some, ims_jms, e1]
      rfl) (fun G => by
      dsimp only
      unfold jd_271_s6
      rw [n_jw (z := (h : Int)) (by omega) (by omega), if_pos (by omega)]) (by omega) (m 120)
    rw [ims_self] at this
    exact this
  obtain ⟨Y1, e1⟩ : ∃ Y1, Y1 = wf (fun k => 2 * k) (fun k _ => lwE h (m 119) k) (m 120) h := ⟨_, rfl⟩
  rw [← e1] at l1
  have l2 : jd_271_l65 (2 * (h : Int)) h 0 (ims m 120 Y1) = some (ims m 120 (wf (fun k => 2 * k + 1) (fun k l => m 119 (h + k) + jshr (l (2 * k) + l (if 2 * k + 2 = 2 * (h : Int) then 2 * (h : Int) - 2 else 2 * k + 2)) 1) Y1 h)) := by
    have := lpM (f := fun u : (Int × jM) => jd_271_s65 (2 * (h : Int)) h u.1 u.2) (ct := fun k => k) (ix := fun k => 2 * k + 1) (v := fun k l => m 119 (h + k) + jshr (l (2 * k) + l (if 2 * k + 2 = 2 * (h : Int) then 2 * (h : Int) - 2 else 2 * k + 2)) 1) (m := m) (a := 120) h (fun k G hk => by
      dsimp only
      unfold jd_271_s65 jd_271_b119
      have e1 : ims m 120 G 119 = m 119 := ims_o (by decide)
      have e2 : ims m 120 G 120 = G := ims_e
      rw [n_jw (z := (h : Int)) (by omega) (by omega), n_jw (z := (k : Int)) (by omega) (by omega), if_neg (by omega), y_ma 119 24 rfl rfl (by omega) (by omega), Option.bind_some, y_ma 120 24 rfl rfl (by omega) (by omega), Option.bind_some, n_jw (z := 2 * (k : Int) + 2) (by omega) (by omega), n_jw (z := 2 * (h : Int)) (by omega) (by omega), y_ma 120 24 rfl rfl (by split <;> omega) (by split <;> omega), Option.bind_some, y_mw 120 24 rfl rfl (by omega) (by omega), Option.bind_some, ims_jms, e1, e2]) (fun G => by
      dsimp only
      unfold jd_271_s65
      rw [n_jw (z := (h : Int)) (by omega) (by omega), if_pos (by omega)]) (by omega) Y1
    exact this
  obtain ⟨Y2, e2⟩ : ∃ Y2, Y2 = wf (fun k => 2 * k + 1) (fun k l => m 119 (h + k) + jshr (l (2 * k) + l (if 2 * k + 2 = 2 * (h : Int) then 2 * (h : Int) - 2 else 2 * k + 2)) 1) Y1 h := ⟨_, rfl⟩
  rw [← e2] at l2
  have y1 : ∀ k : Int, 0 ≤ k → k < h → Y1 (2 * k) = lwE h (m 119) k := fun k k0 k1 => by
    have := wf_k (ix := fun k => 2 * k) (v := fun k _ => lwE h (m 119) k) (g := m 120) (n := h) (k := k.toNat) (by omega) (fun l h1 h2 => by omega)
    rw [show ((k.toNat : Nat) : Int) = k by omega] at this
    rw [e1, this]
  have yy : ∀ k : Nat, k < 2 * h → Y2 k = lw h (m 119) k := fun k hk => by
    by_cases c : k % 2 = 0
    · rw [e2, wf_o (fun l hl => by omega), show (k : Int) = 2 * ((k : Int) / 2) by omega, y1 ((k : Int) / 2) (by omega) (by omega)]
      unfold lw
      rw [if_pos (by omega), show 2 * ((k : Int) / 2) / 2 = (k : Int) / 2 by omega]
    · have := wf_k (ix := fun k => 2 * k + 1) (v := fun k l => m 119 (h + k) + jshr (l (2 * k) + l (if 2 * k + 2 = 2 * (h : Int) then 2 * (h : Int) - 2 else 2 * k + 2)) 1) (g := Y1) (n := h) (k := k / 2) (by omega) (fun l h1 h2 => by omega)
      rw [show ((k / 2 : Nat) : Int) = (k : Int) / 2 by omega] at this
      have kk : (k : Int) = 2 * ((k : Int) / 2) + 1 := by omega
      rw [e2]
      unfold lw
      rw [if_neg (by omega)]
      rw [← kk] at this
      rw [this]
      have o1 : ∀ j : Int, j % 2 = 0 → wf (fun k => 2 * k + 1) (fun k l => m 119 (h + k) + jshr (l (2 * k) + l (if 2 * k + 2 = 2 * (h : Int) then 2 * (h : Int) - 2 else 2 * k + 2)) 1) Y1 (k / 2) j = Y1 j := fun j hj => wf_o (fun l hl => by omega)
      rw [o1 (2 * ((k : Int) / 2)) (by omega), o1 (if 2 * ((k : Int) / 2) + 2 = 2 * (h : Int) then 2 * (h : Int) - 2 else 2 * ((k : Int) / 2) + 2) (by split <;> omega), y1 ((k : Int) / 2) (by omega) (by omega)]
      by_cases d : (k : Int) + 1 = 2 * h
      · rw [if_pos (by omega), if_pos d, show 2 * (h : Int) - 2 = 2 * ((k : Int) / 2) by omega, y1 ((k : Int) / 2) (by omega) (by omega)]
      · rw [if_neg (by omega), if_neg d, show 2 * ((k : Int) / 2) + 2 = 2 * ((k : Int) / 2 + 1) by omega, y1 _ (by omega) (by omega)]
  have l3 : jd_271_l133 (2 * (h : Int)) 0 (ims m 120 Y2) = some (ims (ims m 120 Y2) 119 (wf (fun k => k) (fun k _ => lw h (m 119) k) (m 119) (2 * h))) := by
    have := lpM (f := fun u : (Int × jM) => jd_271_s133 (2 * (h : Int)) u.1 u.2) (ct := fun k => k) (ix := fun k => k) (v := fun k _ => lw h (m 119) k) (m := ims m 120 Y2) (a := 119) (2 * h) (fun k G hk => by
      dsimp only
      unfold jd_271_s133
      have e1 : ims (ims m 120 Y2) 119 G 120 = Y2 := (ims_o (by decide)).trans ims_e
      rw [n_jw (z := 2 * (h : Int)) (by omega) (by omega), n_jw (z := (k : Int)) (by omega) (by omega), if_neg (by omega), y_ma 120 24 rfl rfl (by omega) (by omega), Option.bind_some, y_mw 119 24 rfl rfl (by omega) (by omega), Option.bind_some, ims_jms, e1, yy k hk]) (fun G => by
      dsimp only
      unfold jd_271_s133
      rw [n_jw (z := 2 * (h : Int)) (by omega) (by omega), n_jw (by omega) (by omega), if_pos (by omega)]) (by omega) (m 119)
    have e3 : ims m 120 Y2 119 = m 119 := ims_o (by decide)
    have e4 : ims (ims m 120 Y2) 119 (m 119) = ims m 120 Y2 := by
      rw [← e3]; exact ims_self
    rw [e4] at this
    exact this
  refine ⟨Y2, ?_⟩
  unfold jd_271
  rw [d2, l1, Option.bind_some, l2, Option.bind_some, l3, Option.bind_some]
/-- a pass: line after line -/
def wps (ixs : Int → Int → Int) (h : Nat) (G : Int → Int) : Nat → Int → Int
  | 0 => G
  | n + 1 => wf (ixs n) (fun k _ => lw h (fun i => wps ixs h G n (ixs n i)) k) (wps ixs h G n) (2 * h)
theorem wps_0 {ixs : Int → Int → Int} {G : Int → Int} : wps ixs h G 0 = G := rfl
theorem wps_s {ixs : Int → Int → Int} {G : Int → Int} {n : Nat} : wps ixs h G (n + 1) = wf (ixs n) (fun k _ => lw h (fun i => wps ixs h G n (ixs n i)) k) (wps ixs h G n) (2 * h) := rfl
theorem wf_cc {ix : Int → Int} {v v' : Int → (Int → Int) → Int} {g g' : Int → Int} {n : Nat} {j : Int} (h : ∀ (k : Nat) (G G' : Int → Int), k < n → v k G = v' k G') (e : g j = g' j) : wf ix v g n j = wf ix v' g' n j := by
  induction n with
  | zero => exact e
  | succ n ih =>
    rw [wf_s, wf_s]
    by_cases c : j = ix n
    · rw [c, jiu_e, jiu_e]; exact h n _ _ (Nat.lt_succ_self n)
    · rw [jiu_o c, jiu_o c]; exact ih (fun k G G' hk => h k G G' (by omega))
theorem wps_c {ixs : Int → Int → Int} {G G' : Int → Int} {N : Int} {n : Nat} (hi : ∀ x i : Int, 0 ≤ x → x < n → 0 ≤ i → i < 2 * h → 0 ≤ ixs x i ∧ ixs x i < N) (e : ∀ j : Int, 0 ≤ j → j < N → G j = G' j) (j : Int) (j0 : 0 ≤ j) (j1 : j < N) : wps ixs h G n j = wps ixs h G' n j := by
  induction n generalizing j with
  | zero => exact e j j0 j1
  | succ n ih =>
    have ih' := fun j j0 j1 => ih (fun x i h1 h2 h3 h4 => hi x i h1 (by omega) h3 h4) j j0 j1
    rw [wps_s, wps_s]
    refine wf_cc (fun k _ _ hk => lw_c (fun i i0 i1 => ?_) (by omega) (by omega)) (ih' j j0 j1)
    have r := hi n i (by omega) (by omega) i0 i1
    exact ih' _ r.1 r.2
end LowerM
