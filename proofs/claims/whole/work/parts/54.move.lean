/-! movement -/
theorem fld0_s {D : Int → Int} {n : Nat} : fld 0 D (n + 1) 0 = fld 0 D n 0 + az (D n) := by
  rw [fld_s]
  unfold dst
  rw [if_pos (by decide)]
theorem az_b {z : Int} (h0 : -255 ≤ z) (h1 : z ≤ 255) : 0 ≤ az z ∧ az z ≤ 255 := by
  unfold az
  rw [n_jw (by omega) (by omega)]
  split <;> omega
theorem fld0_b {D : Int → Int} {n : Nat} (h : ∀ j : Int, 0 ≤ j → j < n → -255 ≤ D j ∧ D j ≤ 255) : 0 ≤ fld 0 D n 0 ∧ fld 0 D n 0 ≤ 255 * n := by
  induction n with
  | zero => exact ⟨by rw [fld_0]; omega, by rw [fld_0]; omega⟩
  | succ n ih =>
    have i := ih (fun j h1 h2 => h j h1 (by omega))
    have b := h n (by omega) (by omega)
    have z := az_b b.1 b.2
    rw [fld0_s]
    omega
theorem fld0_m {D : Int → Int} {n k : Nat} (h : ∀ j : Int, 0 ≤ j → j < n + k → -255 ≤ D j ∧ D j ≤ 255) : fld 0 D n 0 ≤ fld 0 D (n + k) 0 := by
  induction k with
  | zero => exact Int.le_refl _
  | succ k ih =>
    have i := ih (fun j h1 h2 => h j h1 (by omega))
    have b := h ((n + k : Nat) : Int) (by omega) (by omega)
    have z := az_b b.1 b.2
    rw [← Nat.add_assoc, fld0_s]
    omega
/-- what a step of the search sums up -/
def mvD (G G' : Int → Int) (W H X Y dx dy : Int) (k : Int) : Int := G ((Y + k / 8) * W + (X + k % 8)) - G' (clz (Y + k / 8 + dy) H * W + clz (X + k % 8 + dx) W)
def mvC (G G' : Int → Int) (W H X Y dx dy : Int) : Int := fld 0 (mvD G G' W H X Y dx dy) 64 0
/-- the class's step, the model's -/
def upC (u : Int × Int × Int) (dx dy v : Int) : Int × Int × Int := ((if jw v < jw u.2.2 then dx else if jw v = jw u.2.2 then (if jw (az u.1 + az u.2.1) ≤ jw (az dx + az dy) then u.1 else dx) else u.1), (if jw v < jw u.2.2 then dy else if jw v = jw u.2.2 then (if jw (az u.1 + az u.2.1) ≤ jw (az dx + az dy) then u.2.1 else dy) else u.2.1), (if jw v < jw u.2.2 then v else if jw v = jw u.2.2 then (if jw (az u.1 + az u.2.1) ≤ jw (az dx + az dy) then u.2.2 else v) else u.2.2))
def upT (u : Int × Int × Int) (dx dy v : Int) : Int := if jw u.1 = (-1) then 1 else if jw v < jw u.1 then 1 else if jw v = jw u.1 then (if jw (az u.2.1 + az u.2.2) ≤ jw (az dx + az dy) then 0 else 1) else 0
def upM (u : Int × Int × Int) (dx dy v : Int) : Int × Int × Int := ((if jw (upT u dx dy v) = 0 then u.1 else v), (if jw (upT u dx dy v) = 0 then u.2.1 else dx), (if jw (upT u dx dy v) = 0 then u.2.2 else dy))
def csS (c : Int → Int → Int) : Nat → Int × Int × Int
  | 0 => (0, 0, c 0 0)
  | n + 1 => upC (csS c n) ((n : Int) % 9 - 4) ((n : Int) / 9 - 4) (c ((n : Int) % 9 - 4) ((n : Int) / 9 - 4))
def msS (c : Int → Int → Int) : Nat → Int × Int × Int
  | 0 => (-1, 0, 0)
  | n + 1 => upM (msS c n) ((n : Int) % 9 - 4) ((n : Int) / 9 - 4) (c ((n : Int) % 9 - 4) ((n : Int) / 9 - 4))
theorem csS_s {c : Int → Int → Int} {n : Nat} : csS c (n + 1) = upC (csS c n) ((n : Int) % 9 - 4) ((n : Int) / 9 - 4) (c ((n : Int) % 9 - 4) ((n : Int) / 9 - 4)) := rfl
theorem msS_s {c : Int → Int → Int} {n : Nat} : msS c (n + 1) = upM (msS c n) ((n : Int) % 9 - 4) ((n : Int) / 9 - 4) (c ((n : Int) % 9 - 4) ((n : Int) / 9 - 4)) := rfl
theorem csS_0 {c : Int → Int → Int} : csS c 0 = (0, 0, c 0 0) := rfl
theorem msS_0 {c : Int → Int → Int} : msS c 0 = (-1, 0, 0) := rfl
/-- who moves, in numbers -/
theorem upC_e {bx by' bv dx dy v : Int} (h1 : -4 ≤ bx ∧ bx ≤ 4) (h2 : -4 ≤ by' ∧ by' ≤ 4) (h3 : 0 ≤ bv ∧ bv ≤ 20000) (h4 : -4 ≤ dx ∧ dx ≤ 4) (h5 : -4 ≤ dy ∧ dy ≤ 4) (h6 : 0 ≤ v ∧ v ≤ 20000) : upC (bx, by', bv) dx dy v = if v < bv ∨ (v = bv ∧ az dx + az dy < az bx + az by') then (dx, dy, v) else (bx, by', bv) := by
  have a1 := az_b (z := bx) (by omega) (by omega)
  have a2 := az_b (z := by') (by omega) (by omega)
  have a3 := az_b (z := dx) (by omega) (by omega)
  have a4 := az_b (z := dy) (by omega) (by omega)
  unfold upC
  dsimp only
  rw [n_jw (z := v) (by omega) (by omega), n_jw (z := bv) (by omega) (by omega), n_jw (z := az bx + az by') (by omega) (by omega), n_jw (z := az dx + az dy) (by omega) (by omega)]
  by_cases c1 : v < bv
  · rw [if_pos c1, if_pos c1, if_pos c1, if_pos (Or.inl c1)]
  · rw [if_neg c1, if_neg c1, if_neg c1]
    by_cases c2 : v = bv
    · rw [if_pos c2, if_pos c2, if_pos c2]
      by_cases c3 : az bx + az by' ≤ az dx + az dy
      · rw [if_pos c3, if_pos c3, if_pos c3, if_neg (by omega)]
      · rw [if_neg c3, if_neg c3, if_neg c3, if_pos (by omega)]
    · rw [if_neg c2, if_neg c2, if_neg c2, if_neg (by omega)]
theorem upM_e {bx by' bv dx dy v : Int} (h1 : -4 ≤ bx ∧ bx ≤ 4) (h2 : -4 ≤ by' ∧ by' ≤ 4) (h3 : 0 ≤ bv ∧ bv ≤ 20000) (h4 : -4 ≤ dx ∧ dx ≤ 4) (h5 : -4 ≤ dy ∧ dy ≤ 4) (h6 : 0 ≤ v ∧ v ≤ 20000) : upM (bv, bx, by') dx dy v = if v < bv ∨ (v = bv ∧ az dx + az dy < az bx + az by') then (v, dx, dy) else (bv, bx, by') := by
  have a1 := az_b (z := bx) (by omega) (by omega)
  have a2 := az_b (z := by') (by omega) (by omega)
  have a3 := az_b (z := dx) (by omega) (by omega)
  have a4 := az_b (z := dy) (by omega) (by omega)
  unfold upM upT
  dsimp only
  rw [n_jw (z := v) (by omega) (by omega), n_jw (z := bv) (by omega) (by omega), n_jw (z := az bx + az by') (by omega) (by omega), n_jw (z := az dx + az dy) (by omega) (by omega), if_neg (show ¬ bv = -1 by omega)]
  by_cases c1 : v < bv
  · rw [if_pos c1, if_neg (by decide), if_neg (by decide), if_neg (by decide), if_pos (Or.inl c1)]
  · rw [if_neg c1]
    by_cases c2 : v = bv
    · rw [if_pos c2]
      by_cases c3 : az bx + az by' ≤ az dx + az dy
      · rw [if_pos c3, if_pos (by decide), if_pos (by decide), if_pos (by decide), if_neg (by omega)]
      · rw [if_neg c3, if_neg (by decide), if_neg (by decide), if_neg (by decide), if_pos (by omega)]
    · rw [if_neg c2, if_pos (by decide), if_pos (by decide), if_pos (by decide), if_neg (by omega)]
theorem upM_0 {dx dy v : Int} : upM (-1, 0, 0) dx dy v = (v, dx, dy) := by
  unfold upM upT
  dsimp only
  rw [if_pos (show jw (-1) = -1 by decide), if_neg (by decide), if_neg (by decide), if_neg (by decide)]
/-- both searches, side by side -/
theorem cm (c : Int → Int → Int) (hc : ∀ x y, 0 ≤ c x y ∧ c x y ≤ 20000) (i : Nat) (hi : i ≤ 81) : ∃ cx cy cv : Int, csS c i = (cx, cy, cv) ∧ (-4 ≤ cx ∧ cx ≤ 4) ∧ (-4 ≤ cy ∧ cy ≤ 4) ∧ (0 ≤ cv ∧ cv ≤ 20000) ∧ (msS c i = (cv, cx, cy) ∨ (i ≤ 40 ∧ cx = 0 ∧ cy = 0 ∧ cv = c 0 0 ∧ (msS c i = (-1, 0, 0) ∨ ∃ mx my mv : Int, msS c i = (mv, mx, my) ∧ (-4 ≤ mx ∧ mx ≤ 4) ∧ (-4 ≤ my ∧ my ≤ 4) ∧ (c 0 0 ≤ mv ∧ mv ≤ 20000) ∧ 0 < az mx + az my))) := by
  have c0 := hc 0 0
  induction i with
  | zero => exact ⟨0, 0, c 0 0, csS_0, by omega, by omega, c0, Or.inr ⟨by omega, rfl, rfl, rfl, Or.inl msS_0⟩⟩
  | succ i ih =>
    obtain ⟨cx, cy, cv, e1, e2, e3, e4, e5⟩ := ih (by omega)
    have d1 : -4 ≤ (i : Int) % 9 - 4 ∧ (i : Int) % 9 - 4 ≤ 4 := by omega
    have d2 : -4 ≤ (i : Int) / 9 - 4 ∧ (i : Int) / 9 - 4 ≤ 4 := by omega
    have d3 : i < 40 → (i : Int) % 9 - 4 ≠ 0 ∨ (i : Int) / 9 - 4 ≠ 0 := by omega
    have d4 : i = 40 → (i : Int) % 9 - 4 = 0 ∧ (i : Int) / 9 - 4 = 0 := by omega
    rw [csS_s, msS_s, e1]
    generalize (i : Int) % 9 - 4 = dx at *
    generalize (i : Int) / 9 - 4 = dy at *
    have hv := hc dx dy
    have z0 : az 0 = 0 := by decide
    have zp : dx ≠ 0 ∨ dy ≠ 0 → 0 < az dx + az dy := by
      intro h
      unfold az
      rw [n_jw (z := dx) (by omega) (by omega), n_jw (z := dy) (by omega) (by omega)]
      split <;> split <;> omega
    rw [upC_e e2 e3 e4 d1 d2 hv]
    rcases e5 with e5 | ⟨hi40, rfl, rfl, rfl, e5⟩
    · rw [e5, upM_e e2 e3 e4 d1 d2 hv]
      by_cases g : c dx dy < cv ∨ (c dx dy = cv ∧ az dx + az dy < az cx + az cy)
      · rw [if_pos g, if_pos g]
        exact ⟨_, _, _, rfl, d1, d2, hv, Or.inl rfl⟩
      · rw [if_neg g, if_neg g]
        exact ⟨_, _, _, rfl, e2, e3, e4, Or.inl rfl⟩
    · have a3 := az_b (z := dx) (by omega) (by omega)
      have a4 := az_b (z := dy) (by omega) (by omega)
      rw [z0]
      by_cases g : c dx dy < c 0 0
      · rw [if_pos (Or.inl g)]
        refine ⟨_, _, _, rfl, d1, d2, hv, Or.inl ?_⟩
        rcases e5 with e5 | ⟨mx, my, mv, e5, f1, f2, f3, f4⟩
        · rw [e5, upM_0]
        · rw [e5, upM_e f1 f2 (by omega) d1 d2 hv, if_pos (Or.inl (by omega))]
      · rw [if_neg (by omega)]
        refine ⟨_, _, _, rfl, e2, e3, e4, ?_⟩
        by_cases h40 : i = 40
        · obtain ⟨rfl, rfl⟩ := d4 h40
          refine Or.inl ?_
          rcases e5 with e5 | ⟨mx, my, mv, e5, f1, f2, f3, f4⟩
          · rw [e5, upM_0]
          · rw [e5, upM_e f1 f2 (by omega) d1 d2 hv, if_pos (by omega)]
        · have zp' := zp (d3 (by omega))
          refine Or.inr ⟨by omega, rfl, rfl, rfl, Or.inr ?_⟩
          rcases e5 with e5 | ⟨mx, my, mv, e5, f1, f2, f3, f4⟩
          · rw [e5, upM_0]
            exact ⟨dx, dy, c dx dy, rfl, d1, d2, by omega, zp'⟩
          · rw [e5, upM_e f1 f2 (by omega) d1 d2 hv]
            split
            · exact ⟨dx, dy, c dx dy, rfl, d1, d2, by omega, zp'⟩
            · exact ⟨mx, my, mv, rfl, f1, f2, f3, f4⟩
theorem mv_b {w h p : Int} (sw : isSd w) (sh : isSd h) (p0 : 0 ≤ p) (p1 : p < w / 8 * (h / 8)) : jdiv w 8 = w / 8 ∧ jrem p (w / 8) = p % (w / 8) ∧ jdiv p (w / 8) = p / (w / 8) ∧ 0 ≤ 8 * (p % (w / 8)) ∧ 8 * (p % (w / 8)) + 8 ≤ w ∧ 0 ≤ 8 * (p / (w / 8)) ∧ 8 * (p / (w / 8)) + 8 ≤ h ∧ 0 < w / 8 ∧ w / 8 ≤ 3 := by
  have b : p < 9 ∧ 0 < w / 8 ∧ w / 8 < 2147483648 ∧ 0 ≤ w ∧ w < 2147483648 := by rcases sw with rfl | rfl | rfl <;> rcases sh with rfl | rfl | rfl <;> omega
  rw [n_div (by omega) (by omega) (by decide) (by decide), n_rem p0 (by omega) (by omega) (by omega), n_div p0 (by omega) (by omega) (by omega)]
  refine ⟨rfl, rfl, rfl, ?_⟩
  rcases sw with rfl | rfl | rfl <;> rcases sh with rfl | rfl | rfl <;> omega
