/-! making in waves: passes that lift -/
section PassU
variable {s : hS} {Q : hQ} {hm : hO} {I m : jM} {h : Nat}
def ups (ixs : Int → Int → Int) (h : Nat) (G : Int → Int) : Nat → Int → Int
  | 0 => G
  | n + 1 => wf (ixs n) (fun k _ => up h (fun i => ups ixs h G n (ixs n i)) k) (ups ixs h G n) (2 * h)
theorem ups_0 {ixs : Int → Int → Int} {G : Int → Int} : ups ixs h G 0 = G := rfl
theorem ups_s {ixs : Int → Int → Int} {G : Int → Int} {n : Nat} : ups ixs h G (n + 1) = wf (ixs n) (fun k _ => up h (fun i => ups ixs h G n (ixs n i)) k) (ups ixs h G n) (2 * h) := rfl
theorem ups_c {ixs : Int → Int → Int} {G G' : Int → Int} {N : Int} {n : Nat} (hi : ∀ x i : Int, 0 ≤ x → x < n → 0 ≤ i → i < 2 * h → 0 ≤ ixs x i ∧ ixs x i < N) (e : ∀ j : Int, 0 ≤ j → j < N → G j = G' j) (j : Int) (j0 : 0 ≤ j) (j1 : j < N) : ups ixs h G n j = ups ixs h G' n j := by
  induction n generalizing j with
  | zero => exact e j j0 j1
  | succ n ih =>
    have ih' := fun j j0 j1 => ih (fun x i h1 h2 h3 h4 => hi x i h1 (by omega) h3 h4) j j0 j1
    rw [ups_s, ups_s]
    refine wf_cc (fun k _ _ hk => up_c (fun i i0 i1 => ?_) (by omega) (by omega)) (ih' j j0 j1)
    have r := hi n i (by omega) (by omega) i0 i1
    exact ih' _ r.1 r.2
theorem up_b {g : Int → Int} {b : Int} (b0 : 0 ≤ b) (b1 : b ≤ 10000000) (e : ∀ i : Int, 0 ≤ i → i < 2 * (h : Int) → -b ≤ g i ∧ g i ≤ b) {i : Int} (i0 : 0 ≤ i) (i1 : i < 2 * (h : Int)) : -(2 * b + 1) ≤ up h g i ∧ up h g i ≤ 2 * b + 1 := by
  have e2 : ∀ k : Int, 0 ≤ k → k < h → -(2 * b) ≤ upO h g k ∧ upO h g k ≤ 2 * b := fun k k0 k1 => by
    have a1 := e (2 * k) (by omega) (by omega)
    have a2 := e (2 * k + 1) (by omega) (by omega)
    have a3 := e (if 2 * k + 2 = 2 * (h : Int) then 2 * (h : Int) - 2 else 2 * k + 2) (by split <;> omega) (by split <;> omega)
    unfold upO
    rw [shr1 (by omega) (by omega)]
    omega
  unfold up
  by_cases c : i < (h : Int)
  · rw [if_pos c]
    have a1 := e2 i i0 c
    have a2 := e2 (if i = 0 then 0 else i - 1) (by split <;> omega) (by split <;> omega)
    have a3 := e (2 * i) (by omega) (by omega)
    rw [shr2 (by omega) (by omega)]
    omega
  · rw [if_neg c]
    have := e2 (i - h) (by omega) (by omega)
    omega
theorem ups_lo {ixs : Int → Int → Int} {G : Int → Int} {n : Nat} {x i : Int} (dj : ∀ y k : Int, 0 ≤ y → y < n → 0 ≤ k → k < 2 * (h : Int) → ixs x i ≠ ixs y k) : ups ixs h G n (ixs x i) = G (ixs x i) := by
  induction n with
  | zero => rfl
  | succ n ih =>
    rw [ups_s, wf_o (fun k hk => dj n k (by omega) (by omega) (by omega) (by omega)), ih (fun y k h1 h2 h3 h4 => dj y k h1 (by omega) h3 h4)]
theorem ups_b {ixs : Int → Int → Int} {G : Int → Int} {n : Nat} {N b : Int} (b0 : 0 ≤ b) (b1 : b ≤ 10000000) (hi : ∀ x i : Int, 0 ≤ x → x < n → 0 ≤ i → i < 2 * (h : Int) → 0 ≤ ixs x i ∧ ixs x i < N) (dj : ∀ x y i k : Int, 0 ≤ x → x < n → 0 ≤ y → y < n → x ≠ y → 0 ≤ i → i < 2 * (h : Int) → 0 ≤ k → k < 2 * (h : Int) → ixs x i ≠ ixs y k) (e : ∀ j : Int, 0 ≤ j → j < N → -b ≤ G j ∧ G j ≤ b) (j : Int) (j0 : 0 ≤ j) (j1 : j < N) : -(2 * b + 1) ≤ ups ixs h G n j ∧ ups ixs h G n j ≤ 2 * b + 1 := by
  induction n generalizing j with
  | zero => have := e j j0 j1; rw [ups_0]; omega
  | succ n ih =>
    rw [ups_s]
    refine wf_P (P := fun z => -(2 * b + 1) ≤ z ∧ z ≤ 2 * b + 1) (fun k _ hk => ?_) (ih (fun x i h1 h2 h3 h4 => hi x i h1 (by omega) h3 h4) (fun x y i k h1 h2 h3 h4 => dj x y i k h1 (by omega) h3 (by omega)) j j0 j1)
    refine up_b b0 b1 (fun i i0 i1 => ?_) (by omega) (by omega)
    have r := hi n i (by omega) (by omega) i0 i1
    rw [ups_lo (fun y k h1 h2 h3 h4 => dj n y i k (by omega) (by omega) h1 (by omega) (by omega) i0 i1 h3 h4)]
    exact e _ r.1 r.2
theorem c_135 {w v : Nat} {sr : Int} (L : Lay s Q hm) (h6 : s.1 ≤ 1000000) (r0 : 0 < sr) (w0 : 1 ≤ w) (w1 : w ≤ 12) (v0 : 1 ≤ v) (v1 : v ≤ 12) (hc : ∀ x i : Int, 0 ≤ x → x < 2 * w → 0 ≤ i → i < 2 * v → 0 ≤ ixC sr x i ∧ ixC sr x i < 576) (hr : ∀ x i : Int, 0 ≤ x → x < 2 * v → 0 ≤ i → i < 2 * w → 0 ≤ ixR sr x i ∧ ixR sr x i < 576) : ∃ Y, jd_135 61 sr (2 * (w : Int)) (2 * (v : Int)) (hh s Q I) = some (hh s Q (ims (ims I 63 Y) 62 (ups (ixC sr) v (ups (ixR sr) w (I 62) (2 * v)) (2 * w)))) := by
  have l1 : wT (jd_135_l3 61 sr (2 * (w : Int)) (2 * (v : Int)) 0 (hh s Q I)) (fun x => ∃ Y, x = hh s Q (ims (ims I 63 Y) 62 (ups (ixR sr) w (I 62) (2 * v)))) := by
    unfold jd_135_l3
    refine w_lp (fun k u => u.1 = (k : Int) ∧ ∃ Y, u.2 = hh s Q (ims (ims I 63 Y) 62 (ups (ixR sr) w (I 62) k))) (2 * v) (fun k u hk hu => ?_) (n_fu (by omega)) ⟨rfl, I 63, by rw [ups_0, ims_self, ims_self]⟩
    obtain ⟨x, H⟩ := u
    obtain ⟨e1, Y, e2⟩ := hu
    dsimp only at e1 e2 ⊢
    subst e1 e2
    unfold jd_135_s3
    rw [n_jw (z := 2 * (v : Int)) (by omega) (by omega), n_jw (z := (k : Int)) (by omega) (by omega)]
    by_cases c : k = 2 * v
    · subst c
      rw [if_pos (by omega)]
      exact wT_ret ⟨Y, rfl⟩
    · obtain ⟨Z, e3⟩ := c_137 (I := ims (ims I 63 Y) 62 (ups (ixR sr) w (I 62) k)) (st := (k : Int) * sr) (sr := 1) L h6 w0 w1 (by decide) (fun i i0 i1 => hr k i (by omega) (by omega) i0 i1)
      rw [if_neg (by omega), y_ck L 61 10 rfl rfl, Option.bind_some, e3, Option.bind_some]
      refine wT_ret ⟨by omega, by omega, Z, ?_⟩
      rw [ims_e, ims_sw (a := 62) (b := 63) (by decide), ims_ims, ims_ims]
      rfl
  obtain ⟨x1, e1, Y1, rfl⟩ := l1
  have l2 : wT (jd_135_l28 61 sr (2 * (w : Int)) (2 * (v : Int)) 0 (hh s Q (ims (ims I 63 Y1) 62 (ups (ixR sr) w (I 62) (2 * v))))) (fun x => ∃ Y, x = hh s Q (ims (ims I 63 Y) 62 (ups (ixC sr) v (ups (ixR sr) w (I 62) (2 * v)) (2 * w)))) := by
    unfold jd_135_l28
    refine w_lp (fun k u => u.1 = (k : Int) ∧ ∃ Y, u.2 = hh s Q (ims (ims I 63 Y) 62 (ups (ixC sr) v (ups (ixR sr) w (I 62) (2 * v)) k))) (2 * w) (fun k u hk hu => ?_) (n_fu (by omega)) ⟨rfl, Y1, rfl⟩
    obtain ⟨x, H⟩ := u
    obtain ⟨e1, Y, e2⟩ := hu
    dsimp only at e1 e2 ⊢
    subst e1 e2
    unfold jd_135_s28
    rw [n_jw (z := 2 * (w : Int)) (by omega) (by omega), n_jw (z := (k : Int)) (by omega) (by omega)]
    by_cases c : k = 2 * w
    · subst c
      rw [if_pos (by omega)]
      exact wT_ret ⟨Y, rfl⟩
    · obtain ⟨Z, e3⟩ := c_137 (I := ims (ims I 63 Y) 62 (ups (ixC sr) v (ups (ixR sr) w (I 62) (2 * v)) k)) (st := (k : Int)) (sr := sr) L h6 v0 v1 r0 (fun i i0 i1 => hc k i (by omega) (by omega) i0 i1)
      rw [if_neg (by omega), y_ck L 61 10 rfl rfl, Option.bind_some, e3, Option.bind_some]
      refine wT_ret ⟨by omega, by omega, Z, ?_⟩
      rw [ims_e, ims_sw (a := 62) (b := 63) (by decide), ims_ims, ims_ims]
      rfl
  obtain ⟨x2, e2, Y2, rfl⟩ := l2
  refine ⟨Y2, ?_⟩
  unfold jd_135
  rw [e1, Option.bind_some, e2, Option.bind_some]
end PassU
section PassUM
variable {m : jM} {h N : Nat} {x1 x2 x3 x4 : Int} {ixs : Int → Int → Int}
theorem k_273us (h0 : 1 ≤ h) (h1 : h ≤ 12) (hN : (if jw x4 = 0 then x2 else x3) = (N : Int)) (N1 : N ≤ 24) (hx : ∀ x k : Int, (if jw x4 = 0 then x1 * k + x else x1 * x + k) = ixs x k) {x : Nat} (hxN : x < N) (hi : ∀ i : Int, 0 ≤ i → i < 2 * (h : Int) → 0 ≤ ixs x i ∧ ixs x i < 576) : ∃ X Y, jd_273_s15 x1 x2 x3 x4 0 (2 * (h : Int)) x m = some (.inl ((x : Int) + 1, ims (ims (ims m 119 X) 120 Y) 118 (wf (ixs x) (fun k _ => up h (fun i => m 118 (ixs x i)) k) (m 118) (2 * h)))) := by
  have l0 : jd_273_l33 x1 x2 x3 x4 0 (2 * (h : Int)) x 0 m = some (ims m 119 (wf (fun k => k) (fun k _ => m 118 (ixs x k)) (m 119) (2 * h))) := by
    have := lpM (f := fun u : (Int × jM) => jd_273_s33 x1 x2 x3 x4 0 (2 * (h : Int)) x u.1 u.2) (ct := fun k => k) (ix := fun k => k) (v := fun k _ => m 118 (ixs x k)) (m := m) (a := 119) (2 * h) (fun k G hk => by
      dsimp only
      unfold jd_273_s33
      have rg := hi k (by omega) (by omega)
      have e1 : ims m 119 G 118 = m 118 := ims_o (by decide)
      rw [n_jw (z := 2 * (h : Int)) (by omega) (by omega), n_jw (z := (k : Int)) (by omega) (by omega), if_neg (by omega), hx, y_ma 118 576 rfl rfl rg.1 rg.2, Option.bind_some, y_mw 119 24 rfl rfl (by omega) (by omega), Option.bind_some, ims_jms, e1]) (fun G => by
      dsimp only
      unfold jd_273_s33
      rw [n_jw (z := 2 * (h : Int)) (by omega) (by omega), n_jw (by omega) (by omega), if_pos (by omega)]) (by omega) (m 119)
    rw [ims_self] at this
    exact this
  obtain ⟨Y0, e0⟩ : ∃ Y0, Y0 = wf (fun k => k) (fun k _ => m 118 (ixs x k)) (m 119) (2 * h) := ⟨_, rfl⟩
  rw [← e0] at l0
  have y0 : ∀ i : Int, 0 ≤ i → i < 2 * (h : Int) → Y0 i = m 118 (ixs x i) := fun i i0 i1 => by
    have := wf_k (ix := fun k => k) (v := fun k _ => m 118 (ixs x k)) (g := m 119) (n := 2 * h) (k := i.toNat) (by omega) (fun l h1 h2 => by omega)
    rw [show ((i.toNat : Nat) : Int) = i by omega] at this
    rw [e0]; exact this
  obtain ⟨Z, e1⟩ := k_272 (m := ims m 119 Y0) h0 h1
  rw [ims_e, ims_sw (a := 119) (b := 120) (by decide), ims_ims] at e1
  obtain ⟨Y1, f1⟩ : ∃ Y1, Y1 = wf (fun k => k) (fun k _ => up h Y0 k) Y0 (2 * h) := ⟨_, rfl⟩
  rw [← f1] at e1
  have y1 : ∀ k : Nat, k < 2 * h → Y1 k = up h (fun i => m 118 (ixs x i)) k := fun k hk => by
    have := wf_k (ix := fun k => k) (v := fun k _ => up h Y0 k) (g := Y0) (n := 2 * h) (k := k) hk (fun l h1 h2 => by omega)
    rw [f1, this]
    exact up_c y0 (by omega) (by omega)
  have l2 : jd_273_l103 x1 x2 x3 x4 0 (2 * (h : Int)) x 0 (ims (ims m 120 Z) 119 Y1) = some (ims (ims (ims m 120 Z) 119 Y1) 118 (wf (ixs x) (fun k _ => up h (fun i => m 118 (ixs x i)) k) (m 118) (2 * h))) := by
    have := lpM (f := fun u : (Int × jM) => jd_273_s103 x1 x2 x3 x4 0 (2 * (h : Int)) x u.1 u.2) (ct := fun k => k) (ix := ixs x) (v := fun k _ => up h (fun i => m 118 (ixs x i)) k) (m := ims (ims m 120 Z) 119 Y1) (a := 118) (2 * h) (fun k G hk => by
      dsimp only
      unfold jd_273_s103
      have rg := hi k (by omega) (by omega)
      have e1 : ims (ims (ims m 120 Z) 119 Y1) 118 G 119 = Y1 := (ims_o (by decide)).trans ims_e
      rw [n_jw (z := 2 * (h : Int)) (by omega) (by omega), n_jw (z := (k : Int)) (by omega) (by omega), if_neg (by omega), y_ma 119 24 rfl rfl (by omega) (by omega), Option.bind_some, hx, y_mw 118 576 rfl rfl rg.1 rg.2, Option.bind_some, ims_jms, e1, y1 k hk]) (fun G => by
      dsimp only
      unfold jd_273_s103
      rw [n_jw (z := 2 * (h : Int)) (by omega) (by omega), n_jw (by omega) (by omega), if_pos (by omega)]) (by omega) (m 118)
    have e3 : ims (ims m 120 Z) 119 Y1 118 = m 118 := (ims_o (by decide)).trans (ims_o (by decide))
    have e4 : ims (ims (ims m 120 Z) 119 Y1) 118 (m 118) = ims (ims m 120 Z) 119 Y1 := by
      rw [← e3]; exact ims_self
    rw [e4] at this
    exact this
  refine ⟨Y1, Z, ?_⟩
  unfold jd_273_s15 jd_273_b100
  rw [hN, n_jw (z := (N : Int)) (by omega) (by omega), n_jw (z := (x : Int)) (by omega) (by omega), if_neg (by omega), l0, Option.bind_some, if_pos (show jw 0 = 0 by decide), e1, Option.bind_some, l2, Option.bind_some, ims_sw (I := m) (a := 120) (b := 119) (by decide)]
theorem k_273ul (h0 : 1 ≤ h) (h1 : h ≤ 12) (hN : (if jw x4 = 0 then x2 else x3) = (N : Int)) (N1 : N ≤ 24) (hx : ∀ x k : Int, (if jw x4 = 0 then x1 * k + x else x1 * x + k) = ixs x k) (hi : ∀ x i : Int, 0 ≤ x → x < N → 0 ≤ i → i < 2 * (h : Int) → 0 ≤ ixs x i ∧ ixs x i < 576) : ∃ X Y, jd_273_l15 x1 x2 x3 x4 0 (2 * (h : Int)) 0 m = some (ims (ims (ims m 119 X) 120 Y) 118 (ups ixs h (m 118) N)) := by
  have l1 : wT (jd_273_l15 x1 x2 x3 x4 0 (2 * (h : Int)) 0 m) (fun x => ∃ X Y, x = ims (ims (ims m 119 X) 120 Y) 118 (ups ixs h (m 118) N)) := by
    unfold jd_273_l15
    refine w_lp (fun k u => u.1 = (k : Int) ∧ ∃ X Y, u.2 = ims (ims (ims m 119 X) 120 Y) 118 (ups ixs h (m 118) k)) N (fun k u hk hu => ?_) (n_fu (by omega)) ⟨rfl, m 119, m 120, by rw [ups_0, ims_self, ims_self, ims_self]⟩
    obtain ⟨x, M⟩ := u
    obtain ⟨e1, X, Y, e2⟩ := hu
    dsimp only at e1 e2 ⊢
    subst e1 e2
    by_cases c : k = N
    · subst c
      unfold jd_273_s15
      rw [hN, if_pos (Int.le_refl _)]
      exact wT_ret ⟨X, Y, rfl⟩
    · obtain ⟨X', Y', e3⟩ := k_273us (m := ims (ims (ims m 119 X) 120 Y) 118 (ups ixs h (m 118) k)) h0 h1 hN N1 hx (x := k) (by omega) (fun i i0 i1 => hi k i (by omega) (by omega) i0 i1)
      rw [e3]
      refine wT_ret ⟨by omega, by omega, X', Y', ?_⟩
      rw [ims_e, ims_sw (a := 118) (b := 119) (by decide), ims_sw (a := 118) (b := 120) (by decide), ims_ims, ims_sw (a := 120) (b := 119) (by decide), ims_ims, ims_ims]
      rfl
  obtain ⟨x, e, X, Y, rfl⟩ := l1
  exact ⟨X, Y, e⟩
theorem k_273uc {sr : Int} {w v : Nat} (w0 : 1 ≤ w) (w1 : w ≤ 12) (v0 : 1 ≤ v) (v1 : v ≤ 12) (hc : ∀ x i : Int, 0 ≤ x → x < 2 * w → 0 ≤ i → i < 2 * v → 0 ≤ ixC sr x i ∧ ixC sr x i < 576) : ∃ X Y, jd_273 sr (2 * (w : Int)) (2 * (v : Int)) 0 0 m = some (ims (ims (ims m 119 X) 120 Y) 118 (ups (ixC sr) v (m 118) (2 * w))) := by
  obtain ⟨X, Y, e⟩ := k_273ul (m := m) (h := v) (N := 2 * w) (x1 := sr) (x2 := 2 * (w : Int)) (x3 := 2 * (v : Int)) (x4 := 0) (ixs := ixC sr) v0 v1 (by rw [if_pos (by decide)]; omega) (by omega) (fun x k => by rw [if_pos (by decide)]; unfold ixC; rw [Int.mul_comm, Int.add_comm]) (fun x i h1 h2 h3 h4 => hc x i h1 (by omega) h3 h4)
  refine ⟨X, Y, ?_⟩
  unfold jd_273
  rw [Option.bind_some, if_pos (by decide), e, Option.bind_some]
theorem k_273ur {sr : Int} {w v : Nat} (w0 : 1 ≤ w) (w1 : w ≤ 12) (v0 : 1 ≤ v) (v1 : v ≤ 12) (hr : ∀ x i : Int, 0 ≤ x → x < 2 * v → 0 ≤ i → i < 2 * w → 0 ≤ ixR sr x i ∧ ixR sr x i < 576) : ∃ X Y, jd_273 sr (2 * (w : Int)) (2 * (v : Int)) 1 0 m = some (ims (ims (ims m 119 X) 120 Y) 118 (ups (ixR sr) w (m 118) (2 * v))) := by
  obtain ⟨X, Y, e⟩ := k_273ul (m := m) (h := w) (N := 2 * v) (x1 := sr) (x2 := 2 * (w : Int)) (x3 := 2 * (v : Int)) (x4 := 1) (ixs := ixR sr) w0 w1 (by rw [if_neg (by decide)]; omega) (by omega) (fun x k => by rw [if_neg (by decide)]; unfold ixR; rw [Int.mul_comm, Int.mul_one]) (fun x i h1 h2 h3 h4 => hr x i h1 (by omega) h3 h4)
  refine ⟨X, Y, ?_⟩
  unfold jd_273
  rw [Option.bind_some, if_neg (by decide), e, Option.bind_some]
end PassUM
