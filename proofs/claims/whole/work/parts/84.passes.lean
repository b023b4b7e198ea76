/-! passes: how large the numbers grow; the class's and the model's -/
section Passes
variable {s : hS} {Q : hQ} {hm : hO} {I m : jM} {h : Nat}
theorem wf_P {P : Int → Prop} {ix : Int → Int} {v : Int → (Int → Int) → Int} {g : Int → Int} {n : Nat} {j : Int} (h : ∀ (k : Nat) (G : Int → Int), k < n → P (v k G)) (e : P (g j)) : P (wf ix v g n j) := by
  induction n with
  | zero => exact e
  | succ n ih =>
    rw [wf_s]
    by_cases c : j = ix n
    · rw [c, jiu_e]; exact h n _ (Nat.lt_succ_self n)
    · rw [jiu_o c]; exact ih (fun k G hk => h k G (by omega))
theorem lw_b {g : Int → Int} {b : Int} (b0 : 0 ≤ b) (b1 : b ≤ 10000000) (e : ∀ i : Int, 0 ≤ i → i < 2 * (h : Int) → -b ≤ g i ∧ g i ≤ b) {i : Int} (i0 : 0 ≤ i) (i1 : i < 2 * (h : Int)) : -(4 * b + 4) ≤ lw h g i ∧ lw h g i ≤ 4 * b + 4 := by
  have e2 : ∀ k : Int, 0 ≤ k → k < h → -(2 * b + 1) ≤ lwE h g k ∧ lwE h g k ≤ 2 * b + 1 := fun k k0 k1 => by
    have a1 := e k k0 (by omega)
    have a2 := e (h + k) (by omega) (by omega)
    have a3 := e (h + (if k = 0 then 0 else k - 1)) (by split <;> omega) (by split <;> omega)
    unfold lwE
    rw [shr2 (by omega) (by omega)]
    omega
  unfold lw
  by_cases c : i % 2 = 0
  · rw [if_pos c]
    have := e2 (i / 2) (by omega) (by omega)
    omega
  · rw [if_neg c]
    have a1 := e2 (i / 2) (by omega) (by omega)
    have a2 := e2 (if i + 1 = 2 * (h : Int) then i / 2 else i / 2 + 1) (by split <;> omega) (by split <;> omega)
    have a3 := e (h + i / 2) (by omega) (by omega)
    rw [shr1 (by omega) (by omega)]
    omega
theorem wps_lo {ixs : Int → Int → Int} {G : Int → Int} {n : Nat} {x i : Int} (dj : ∀ y k : Int, 0 ≤ y → y < n → 0 ≤ k → k < 2 * (h : Int) → ixs x i ≠ ixs y k) : wps ixs h G n (ixs x i) = G (ixs x i) := by
  induction n with
  | zero => rfl
  | succ n ih =>
    rw [wps_s, wf_o (fun k hk => dj n k (by omega) (by omega) (by omega) (by omega)), ih (fun y k h1 h2 h3 h4 => dj y k h1 (by omega) h3 h4)]
theorem wps_b {ixs : Int → Int → Int} {G : Int → Int} {n : Nat} {N b : Int} (b0 : 0 ≤ b) (b1 : b ≤ 10000000) (hi : ∀ x i : Int, 0 ≤ x → x < n → 0 ≤ i → i < 2 * (h : Int) → 0 ≤ ixs x i ∧ ixs x i < N) (dj : ∀ x y i k : Int, 0 ≤ x → x < n → 0 ≤ y → y < n → x ≠ y → 0 ≤ i → i < 2 * (h : Int) → 0 ≤ k → k < 2 * (h : Int) → ixs x i ≠ ixs y k) (e : ∀ j : Int, 0 ≤ j → j < N → -b ≤ G j ∧ G j ≤ b) (j : Int) (j0 : 0 ≤ j) (j1 : j < N) : -(4 * b + 4) ≤ wps ixs h G n j ∧ wps ixs h G n j ≤ 4 * b + 4 := by
  induction n generalizing j with
  | zero => have := e j j0 j1; rw [wps_0]; omega
  | succ n ih =>
    rw [wps_s]
    refine wf_P (P := fun z => -(4 * b + 4) ≤ z ∧ z ≤ 4 * b + 4) (fun k _ hk => ?_) (ih (fun x i h1 h2 h3 h4 => hi x i h1 (by omega) h3 h4) (fun x y i k h1 h2 h3 h4 => dj x y i k h1 (by omega) h3 (by omega)) j j0 j1)
    refine lw_b b0 b1 (fun i i0 i1 => ?_) (by omega) (by omega)
    have r := hi n i (by omega) (by omega) i0 i1
    rw [wps_lo (fun y k h1 h2 h3 h4 => dj n y i k (by omega) (by omega) h1 (by omega) (by omega) i0 i1 h3 h4)]
    exact e _ r.1 r.2
def ixC (sr : Int) : Int → Int → Int := fun x i => x + i * sr
def ixR (sr : Int) : Int → Int → Int := fun x i => x * sr + i * 1
theorem ims_sw {a b : Nat} {f g : Int → Int} (hab : a ≠ b) : ims (ims I a f) b g = ims (ims I b g) a f := by
  funext x
  unfold ims
  by_cases c : x = a
  · subst c; rw [if_neg hab, if_pos rfl, if_pos rfl]
  · by_cases d : x = b
    · subst d; rw [if_pos rfl, if_neg c, if_pos rfl]
    · rw [if_neg d, if_neg c, if_neg c, if_neg d]
theorem c_136 {w v : Nat} {sr : Int} (L : Lay s Q hm) (h6 : s.1 ≤ 1000000) (w0 : 1 ≤ w) (w1 : w ≤ 12) (v0 : 1 ≤ v) (v1 : v ≤ 12) (hc : ∀ x i : Int, 0 ≤ x → x < 2 * w → 0 ≤ i → i < 2 * v → 0 ≤ ixC sr x i ∧ ixC sr x i < 576) (hr : ∀ x i : Int, 0 ≤ x → x < 2 * v → 0 ≤ i → i < 2 * w → 0 ≤ ixR sr x i ∧ ixR sr x i < 576) : ∃ Y, jd_136 21 sr (2 * (w : Int)) (2 * (v : Int)) (hh s Q I) = some (hh s Q (ims (ims I 23 Y) 22 (wps (ixR sr) w (wps (ixC sr) v (I 22) (2 * w)) (2 * v)))) := by
  have l1 : wT (jd_136_l3 21 sr (2 * (w : Int)) (2 * (v : Int)) 0 (hh s Q I)) (fun x => ∃ Y, x = hh s Q (ims (ims I 23 Y) 22 (wps (ixC sr) v (I 22) (2 * w)))) := by
    unfold jd_136_l3
    refine w_lp (fun k u => u.1 = (k : Int) ∧ ∃ Y, u.2 = hh s Q (ims (ims I 23 Y) 22 (wps (ixC sr) v (I 22) k))) (2 * w) (fun k u hk hu => ?_) (n_fu (by omega)) ⟨rfl, I 23, by rw [wps_0, ims_self, ims_self]⟩
    obtain ⟨x, H⟩ := u
    obtain ⟨e1, Y, e2⟩ := hu
    dsimp only at e1 e2 ⊢
    subst e1 e2
    unfold jd_136_s3
    rw [n_jw (z := 2 * (w : Int)) (by omega) (by omega), n_jw (z := (k : Int)) (by omega) (by omega)]
    by_cases c : k = 2 * w
    · subst c
      rw [if_pos (by omega)]
      exact wT_ret ⟨Y, rfl⟩
    · obtain ⟨Z, e3⟩ := c_138 (I := ims (ims I 23 Y) 22 (wps (ixC sr) v (I 22) k)) (st := (k : Int)) (sr := sr) L h6 v0 v1 (fun i i0 i1 => hc k i (by omega) (by omega) i0 i1)
      rw [if_neg (by omega), y_ck L 21 10 rfl rfl, Option.bind_some, e3, Option.bind_some]
      refine wT_ret ⟨by omega, by omega, Z, ?_⟩
      rw [ims_e, ims_sw (a := 22) (b := 23) (by decide), ims_ims, ims_ims]
      rfl
  obtain ⟨x1, e1, Y1, rfl⟩ := l1
  have l2 : wT (jd_136_l26 21 sr (2 * (w : Int)) (2 * (v : Int)) 0 (hh s Q (ims (ims I 23 Y1) 22 (wps (ixC sr) v (I 22) (2 * w))))) (fun x => ∃ Y, x = hh s Q (ims (ims I 23 Y) 22 (wps (ixR sr) w (wps (ixC sr) v (I 22) (2 * w)) (2 * v)))) := by
    unfold jd_136_l26
    refine w_lp (fun k u => u.1 = (k : Int) ∧ ∃ Y, u.2 = hh s Q (ims (ims I 23 Y) 22 (wps (ixR sr) w (wps (ixC sr) v (I 22) (2 * w)) k))) (2 * v) (fun k u hk hu => ?_) (n_fu (by omega)) ⟨rfl, Y1, rfl⟩
    obtain ⟨x, H⟩ := u
    obtain ⟨e1, Y, e2⟩ := hu
    dsimp only at e1 e2 ⊢
    subst e1 e2
    unfold jd_136_s26
    rw [n_jw (z := 2 * (v : Int)) (by omega) (by omega), n_jw (z := (k : Int)) (by omega) (by omega)]
    by_cases c : k = 2 * v
    · subst c
      rw [if_pos (by omega)]
      exact wT_ret ⟨Y, rfl⟩
    · obtain ⟨Z, e3⟩ := c_138 (I := ims (ims I 23 Y) 22 (wps (ixR sr) w (wps (ixC sr) v (I 22) (2 * w)) k)) (st := (k : Int) * sr) (sr := 1) L h6 w0 w1 (fun i i0 i1 => hr k i (by omega) (by omega) i0 i1)
      rw [if_neg (by omega), y_ck L 21 10 rfl rfl, Option.bind_some, e3, Option.bind_some]
      refine wT_ret ⟨by omega, by omega, Z, ?_⟩
      rw [ims_e, ims_sw (a := 22) (b := 23) (by decide), ims_ims, ims_ims]
      rfl
  obtain ⟨x2, e2, Y2, rfl⟩ := l2
  refine ⟨Y2, ?_⟩
  unfold jd_136
  rw [e1, Option.bind_some, e2, Option.bind_some]
end Passes
