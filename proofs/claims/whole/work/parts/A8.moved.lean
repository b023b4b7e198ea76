/-! a sample of another picture, moved: the model; the mean around a part -/
section Moved
variable {m : jM} {w h a k pl x y vx vy : Int}
theorem nr_k {v n : Int} (h0 : -1000000 ≤ v) (h1 : v ≤ 1000000) (h2 : 1 ≤ n) (h3 : n ≤ 1000000) : jd_205 (jw v) 0 (n - 1) = nr v n := by
  rw [n_jw (by omega) (by omega), k_205 (by omega) (by omega) (by unfold okI; omega) (by unfold okI; omega)]
  unfold nr
  by_cases c : v < 0
  · rw [if_pos c, if_pos c]
  · rw [if_neg c, if_neg c]
    by_cases d : n ≤ v
    · rw [if_pos (by omega), if_pos d]
    · rw [if_neg (by omega), if_neg d]
theorem k_250 (sw : isSd w) (sh : isSd h) (mw : m 76 33 = w) (mh : m 76 34 = h) (a0 : 0 ≤ a) (a1 : a < 12) (p0 : 0 ≤ pl) (p2 : pl ≤ 2) (x0 : -1000 ≤ x) (x1 : x ≤ 1000) (y0 : -1000 ≤ y) (y1 : y ≤ 1000) : jd_250 a pl x y m = some (m 109 (864 * a + (pf pl + (nr y (pw h pl) * pw w pl + nr x (pw w pl))))) := by
  have ok : okI pl := by unfold okI; omega
  have bw := pw_sd sw pl
  have bh := pw_sd sh pl
  have ps := pl_sz sw sh p0 p2
  have n1 := nr_b (v := y) (n := pw h pl) (by omega)
  have n2 := nr_b (v := x) (n := pw w pl) (by omega)
  have db := dm_b (W := pw w pl) (H := pw h pl) n1.1 n1.2 n2.1 n2.2
  unfold jd_250
  rw [mw, mh, k_206 ok sw, k_206 ok sh, nr_k (by omega) (by omega) (by omega) (by omega), nr_k (by omega) (by omega) (by omega) (by omega), k_237 ok sw mw, show 864 * a + pf pl + nr y (pw h pl) * pw w pl + nr x (pw w pl) = 864 * a + (pf pl + (nr y (pw h pl) * pw w pl + nr x (pw w pl))) by omega, y_ma 109 10368 rfl rfl (by omega) (by omega), Option.bind_some]
theorem k_251 (sw : isSd w) (sh : isSd h) (mw : m 76 33 = w) (mh : m 76 34 = h) (a0 : 0 ≤ a) (a1 : a < 12) (p0 : 0 ≤ pl) (p2 : pl ≤ 2) (x0 : 0 ≤ x) (x1 : x ≤ 100) (y0 : 0 ≤ y) (y1 : y ≤ 100) (vx0 : -16 ≤ vx) (vx1 : vx ≤ 16) (vy0 : -16 ≤ vy) (vy1 : vy ≤ 16) (smp : ∀ j : Int, 0 ≤ j → j < pw w pl * pw h pl → 0 ≤ m 109 (864 * a + (pf pl + j)) ∧ m 109 (864 * a + (pf pl + j)) ≤ 255) : jd_251 a pl x y vx vy m = some (ft (fun j => m 109 (864 * a + (pf pl + j))) (pw w pl) (pw h pl) x y (hvf pl vx) (hvf pl vy)) := by
  have ok : okI pl := by unfold okI; omega
  have bw := pw_sd sw pl
  have bh := pw_sd sh pl
  have hx := hvf_b (p := pl) vx0 vx1
  have hy := hvf_b (p := pl) vy0 vy1
  have ex : (if jw pl = 0 then vx else jdiv vx 2) = hvf pl vx := by rw [n_jw ok.1 ok.2]; rfl
  have ey : (if jw pl = 0 then vy else jdiv vy 2) = hvf pl vy := by rw [n_jw ok.1 ok.2]; rfl
  obtain ⟨HX, eHX⟩ : ∃ z, hvf pl vx = z := ⟨_, rfl⟩
  obtain ⟨HY, eHY⟩ : ∃ z, hvf pl vy = z := ⟨_, rfl⟩
  rw [eHX] at hx ex
  rw [eHY] at hy ey
  rw [eHX, eHY]
  obtain ⟨W, eW⟩ : ∃ z, pw w pl = z := ⟨_, rfl⟩
  obtain ⟨H, eH⟩ : ∃ z, pw h pl = z := ⟨_, rfl⟩
  have k : ∀ u v : Int, -1000 ≤ u → u ≤ 1000 → -1000 ≤ v → v ≤ 1000 → jd_250 a pl u v m = some (m 109 (864 * a + (pf pl + (nr v H * W + nr u W)))) ∧ 0 ≤ m 109 (864 * a + (pf pl + (nr v H * W + nr u W))) ∧ m 109 (864 * a + (pf pl + (nr v H * W + nr u W))) ≤ 255 := fun u v u0 u1 v0 v1 => by
    have q := k_250 (m := m) sw sh mw mh a0 a1 p0 p2 u0 u1 v0 v1
    rw [eW, eH] at q
    have n1 := nr_b (v := v) (n := H) (by omega)
    have n2 := nr_b (v := u) (n := W) (by omega)
    have db := dm_b (W := W) (H := H) n1.1 n1.2 n2.1 n2.2
    rw [eW, eH] at smp
    exact ⟨q, smp _ db.1 db.2⟩
  rw [eW, eH]
  have k00 := k (x + HX / 2) (y + HY / 2) (by omega) (by omega) (by omega) (by omega)
  have k10 := k (x + HX / 2 + 1) (y + HY / 2) (by omega) (by omega) (by omega) (by omega)
  have k01 := k (x + HX / 2) (y + HY / 2 + 1) (by omega) (by omega) (by omega) (by omega)
  have k11 := k (x + HX / 2 + 1) (y + HY / 2 + 1) (by omega) (by omega) (by omega) (by omega)
  unfold jd_251 jd_251_b108 jd_251_b166 jd_251_b200 jd_209
  rw [ex, ey, Option.bind_some, Option.bind_some, n_and1, n_and1, shr1 (by omega) (by omega), shr1 (by omega) (by omega), show (2 * x + HX) / 2 = x + HX / 2 by omega, show (2 * y + HY) / 2 = y + HY / 2 by omega, show (2 * x + HX) % 2 = HX % 2 by omega, show (2 * y + HY) % 2 = HY % 2 by omega, Option.bind_some, Option.bind_some, k00.1, Option.bind_some, n_jw (z := HX % 2) (by omega) (by omega), n_jw (z := HY % 2) (by omega) (by omega)]
  unfold ft
  dsimp only
  have j0 : jw 0 = 0 := by decide
  have j1 : ¬ jw 1 = 0 := by decide
  by_cases x2 : HX % 2 = 0
  · rw [if_pos x2, if_neg (show ¬ HX % 2 = 1 by omega)]
    by_cases y2 : HY % 2 = 0
    · rw [if_pos y2, if_neg (show ¬ HY % 2 = 1 by omega)]
      simp only [if_pos j0]
    · rw [if_neg y2, if_pos (show HY % 2 = 1 by omega)]
      simp only [if_pos j0, if_neg j1, k01.1, Option.bind_some]
      rw [n_div (by omega) (by omega) (by decide) (by decide)]
  · rw [if_neg x2, if_pos (show HX % 2 = 1 by omega)]
    by_cases y2 : HY % 2 = 0
    · rw [if_pos y2, if_neg (show ¬ HY % 2 = 1 by omega)]
      simp only [if_pos j0, if_neg j1, k10.1, Option.bind_some]
      rw [n_div (by omega) (by omega) (by decide) (by decide)]
    · rw [if_neg y2, if_pos (show HY % 2 = 1 by omega)]
      simp only [if_neg j1, k10.1, k01.1, k11.1, Option.bind_some]
      rw [n_div (by omega) (by omega) (by decide) (by decide)]
/-- the sum of what lies above and on the left, and how many that is -/
def mnS (g : Int → Int) (W x0 y0 : Int) : Nat → Int
  | 0 => 0
  | n + 1 => mnS g W x0 y0 n + (if 0 < y0 then g ((y0 - 1) * W + (x0 + n)) else 0) + (if 0 < x0 then g ((y0 + n) * W + (x0 - 1)) else 0)
def mnC (x0 y0 n : Int) : Int := (if 0 < y0 then n else 0) + (if 0 < x0 then n else 0)
def mnV (g : Int → Int) (W x0 y0 sd : Int) : Int := if mnC x0 y0 sd = 0 then 128 else (mnS g W x0 y0 sd.toNat + mnC x0 y0 sd / 2) / mnC x0 y0 sd
theorem mnS_s {g : Int → Int} {W x0 y0 : Int} {n : Nat} : mnS g W x0 y0 (n + 1) = mnS g W x0 y0 n + (if 0 < y0 then g ((y0 - 1) * W + (x0 + n)) else 0) + (if 0 < x0 then g ((y0 + n) * W + (x0 - 1)) else 0) := rfl
theorem mnS_c {g g' : Int → Int} {W x0 y0 : Int} {n : Nat} (e1 : ∀ i : Int, 0 ≤ i → i < n → 0 < y0 → g ((y0 - 1) * W + (x0 + i)) = g' ((y0 - 1) * W + (x0 + i))) (e2 : ∀ i : Int, 0 ≤ i → i < n → 0 < x0 → g ((y0 + i) * W + (x0 - 1)) = g' ((y0 + i) * W + (x0 - 1))) : mnS g W x0 y0 n = mnS g' W x0 y0 n := by
  induction n with
  | zero => rfl
  | succ n ih =>
    rw [mnS_s, mnS_s, ih (fun i h0 h1 => e1 i h0 (by omega)) (fun i h0 h1 => e2 i h0 (by omega))]
    by_cases c : 0 < y0
    · rw [if_pos c, if_pos c, e1 n (by omega) (by omega) c]
      by_cases d : 0 < x0
      · rw [if_pos d, if_pos d, e2 n (by omega) (by omega) d]
      · rw [if_neg d, if_neg d]
    · rw [if_neg c, if_neg c]
      by_cases d : 0 < x0
      · rw [if_pos d, if_pos d, e2 n (by omega) (by omega) d]
      · rw [if_neg d, if_neg d]
theorem mnS_b {g : Int → Int} {W x0 y0 : Int} {n : Nat} (e1 : ∀ i : Int, 0 ≤ i → i < n → 0 < y0 → 0 ≤ g ((y0 - 1) * W + (x0 + i)) ∧ g ((y0 - 1) * W + (x0 + i)) ≤ 255) (e2 : ∀ i : Int, 0 ≤ i → i < n → 0 < x0 → 0 ≤ g ((y0 + i) * W + (x0 - 1)) ∧ g ((y0 + i) * W + (x0 - 1)) ≤ 255) : 0 ≤ mnS g W x0 y0 n ∧ mnS g W x0 y0 n ≤ 255 * mnC x0 y0 n := by
  induction n with
  | zero => unfold mnC; exact ⟨Int.le_refl _, by show (0 : Int) ≤ _; split <;> split <;> decide⟩
  | succ n ih =>
    have := ih (fun i h0 h1 => e1 i h0 (by omega)) (fun i h0 h1 => e2 i h0 (by omega))
    unfold mnC at this ⊢
    rw [mnS_s]
    by_cases c : 0 < y0
    · have a1 := e1 n (by omega) (by omega) c
      rw [if_pos c] at this ⊢
      rw [if_pos c]
      by_cases d : 0 < x0
      · have a2 := e2 n (by omega) (by omega) d
        rw [if_pos d] at this ⊢
        rw [if_pos d]
        omega
      · rw [if_neg d] at this ⊢
        rw [if_neg d]
        omega
    · rw [if_neg c] at this ⊢
      rw [if_neg c]
      by_cases d : 0 < x0
      · have a2 := e2 n (by omega) (by omega) d
        rw [if_pos d] at this ⊢
        rw [if_pos d]
        omega
      · rw [if_neg d] at this ⊢
        rw [if_neg d]
        omega
end Moved
