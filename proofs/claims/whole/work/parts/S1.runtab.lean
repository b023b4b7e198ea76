/-! making in runs: run lengths and tables -/
section RunTab
variable {v an nd wy ln : Int → Int} {kd W N x y w l : Int}
def okA (v an : Int → Int) (W x w l : Int) : Prop := if w = 0 then v (x + l - 1) = v x else if w = 1 then v (x + l - 1) = an (x + l - 1) else if w = 2 then v (x + l - 1) = v (x + l - 1 - W) else True
/-- how far a way goes, k samples ahead of the end -/
def rr (v an : Int → Int) (kd W N w : Int) : Nat → Int
  | 0 => 0
  | k + 1 => if w = 0 then (if k = 0 then 1 else if v (N - ((k : Int) + 1) + 1) = v (N - ((k : Int) + 1)) then rr v an kd W N w k + 1 else 1) else if w = 1 then (if kd = 0 then 0 else if an (N - ((k : Int) + 1)) = v (N - ((k : Int) + 1)) then rr v an kd W N w k + 1 else 0) else (if N - ((k : Int) + 1) < W then 0 else if v (N - ((k : Int) + 1) - W) = v (N - ((k : Int) + 1)) then rr v an kd W N w k + 1 else 0)
def Rn (v an : Int → Int) (kd W N w x : Int) : Int := if w = 3 then N - x else rr v an kd W N w (N - x).toNat
theorem rr_s {k : Nat} (hx : x = N - ((k : Int) + 1)) : rr v an kd W N w (k + 1) = if w = 0 then (if k = 0 then 1 else if v (x + 1) = v x then rr v an kd W N w k + 1 else 1) else if w = 1 then (if kd = 0 then 0 else if an x = v x then rr v an kd W N w k + 1 else 0) else (if x < W then 0 else if v (x - W) = v x then rr v an kd W N w k + 1 else 0) := by
  rw [hx]
  rfl
theorem Rn_N (w3 : w ≠ 3) : Rn v an kd W N w N = 0 := by
  unfold Rn
  rw [if_neg w3, show (N - N).toNat = 0 by omega]
  rfl
theorem Rn_s (w3 : w ≠ 3) (x0 : x < N) : Rn v an kd W N w x = if w = 0 then (if x + 1 = N then 1 else if v (x + 1) = v x then Rn v an kd W N w (x + 1) + 1 else 1) else if w = 1 then (if kd = 0 then 0 else if an x = v x then Rn v an kd W N w (x + 1) + 1 else 0) else (if x < W then 0 else if v (x - W) = v x then Rn v an kd W N w (x + 1) + 1 else 0) := by
  unfold Rn
  rw [if_neg w3, if_neg w3, show (N - x).toNat = (N - (x + 1)).toNat + 1 by omega, rr_s (x := x) (by omega)]
  by_cases c : x + 1 = N
  · rw [if_pos c, if_pos (show (N - (x + 1)).toNat = 0 by omega)]
  · rw [if_neg c, if_neg (show ¬ (N - (x + 1)).toNat = 0 by omega)]
theorem Rn_b : ∀ (k : Nat) (x : Int), x = N - (k : Int) → 0 ≤ Rn v an kd W N w x ∧ x + Rn v an kd W N w x ≤ N
  | 0, x, e => by
    by_cases c : w = 3
    · unfold Rn; rw [if_pos c]; omega
    · rw [show x = N by omega, Rn_N c]; omega
  | k + 1, x, e => by
    by_cases c : w = 3
    · unfold Rn; rw [if_pos c]; omega
    · have ih := Rn_b k (x + 1) (by omega)
      rw [Rn_s c (by omega)]
      split
      · split
        · omega
        · split <;> omega
      · split
        · split
          · omega
          · split <;> omega
        · split
          · omega
          · split <;> omega
theorem Rn_r (x1 : x ≤ N) : 0 ≤ Rn v an kd W N w x ∧ x + Rn v an kd W N w x ≤ N := Rn_b (N - x).toNat x (by omega)
theorem Rn_0 (x1 : x < N) : 1 ≤ Rn v an kd W N 0 x := by
  have := Rn_r (v := v) (an := an) (kd := kd) (W := W) (N := N) (w := 0) (x := x + 1) (by omega)
  rw [Rn_s (by decide) x1, if_pos rfl]
  split
  · omega
  · split <;> omega
/-- a run less its first sample -/
theorem Rn_sh (x1 : x < N) (hl : l ≤ Rn v an kd W N w x) (l2 : 2 ≤ l) : l - 1 ≤ Rn v an kd W N w (x + 1) := by
  by_cases c : w = 3
  · unfold Rn at *
    rw [if_pos c] at *
    omega
  · rw [Rn_s c x1] at hl
    have ih := Rn_r (v := v) (an := an) (kd := kd) (W := W) (N := N) (w := w) (x := x + 1) (by omega)
    split at hl
    · split at hl
      · omega
      · split at hl <;> omega
    · split at hl
      · split at hl
        · omega
        · split at hl <;> omega
      · split at hl
        · omega
        · split at hl <;> omega
/-- runs that can be -/
def vld (v an : Int → Int) (kd W N x w l : Int) : Prop := (0 ≤ w ∧ w ≤ 3) ∧ 1 ≤ l ∧ l ≤ Rn v an kd W N w x
/-- the table of what is needed, right from x on -/
def TB (v an : Int → Int) (kd W N : Int) (nd wy ln : Int → Int) (x : Int) : Prop := nd N = 0 ∧ ∀ y : Int, x ≤ y → y < N → Spc (vld v an kd W N y) (fun w l => cs w l + nd (y + l)) (nd y) (wy y) (ln y)
theorem cs_m {a b : Int} (a1 : 1 ≤ a) (ab : a ≤ b) : cs w a ≤ cs w b := by
  unfold cs exC
  have := cln_m (i := a - 1) (j := b - 1) (by omega) (by omega)
  split
  · omega
  · split <;> omega
theorem cs_p (w0 : 0 ≤ w) (l1 : 1 ≤ l) : 2 ≤ cs w l := by
  unfold cs exC
  have h1 := cln_p w0
  have h2 := cln_p (i := l - 1) (by omega)
  split
  · omega
  · split <;> omega
theorem TB_b (T : TB v an kd W N nd wy ln x) : ∀ (k : Nat) (y : Int), y = N - (k : Int) → x ≤ y → 0 ≤ nd y ∧ nd y ≤ 10 * (N - y) ∧ ∀ z : Int, y ≤ z → z ≤ N → nd z ≤ nd y
  | 0, y, e, hy => by
    have : y = N := by omega
    rw [this, T.1]
    refine ⟨by omega, by omega, fun z z0 z1 => ?_⟩
    rw [show z = N by omega, T.1]
    omega
  | k + 1, y, e, hy => by
    obtain ⟨i1, i2, i3⟩ := TB_b T k (y + 1) (by omega) (by omega)
    obtain ⟨⟨⟨w0, w3⟩, l1, l2⟩, b2, b3⟩ := T.2 y hy (by omega)
    have rb := Rn_r (v := v) (an := an) (kd := kd) (W := W) (N := N) (w := wy y) (x := y) (by omega)
    dsimp only at b2 b3
    obtain ⟨p1, -⟩ := b3 0 1 ⟨by decide, by decide, Rn_0 (by omega)⟩
    have c01 : cs 0 1 = 10 := by
      unfold cs exC
      rw [if_pos rfl, show (1 : Int) - 1 = 0 from rfl, cln_0]
      rfl
    rw [c01] at p1
    have cp := cs_p w0 l1
    have mono : nd (y + 1) ≤ nd y := by
      by_cases c : ln y = 1
      · rw [c] at b2
        have := cs_p (l := 1) w0 (by decide)
        omega
      · have y1 : y + 1 < N := by omega
        obtain ⟨-, -, q3⟩ := T.2 (y + 1) (by omega) y1
        obtain ⟨q4, -⟩ := q3 (wy y) (ln y - 1) ⟨⟨w0, w3⟩, by omega, Rn_sh (by omega) l2 (by omega)⟩
        dsimp only at q4
        rw [show y + 1 + (ln y - 1) = y + ln y by omega] at q4
        have := cs_m (w := wy y) (a := ln y - 1) (b := ln y) (by omega) (by omega)
        omega
    refine ⟨by omega, by omega, fun z z0 z1 => ?_⟩
    by_cases c : z = y
    · rw [c]
      exact Int.le_refl _
    · have := i3 z (by omega) z1
      omega
theorem TB_r (T : TB v an kd W N nd wy ln x) (hy : x ≤ y) (y1 : y ≤ N) : 0 ≤ nd y ∧ nd y ≤ 10 * (N - y) ∧ ∀ z : Int, y ≤ z → z ≤ N → nd z ≤ nd y := TB_b T (N - y).toNat y (by omega) hy
end RunTab
