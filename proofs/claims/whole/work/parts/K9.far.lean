/-! making: how far a part is from where it may come, class -/
section Far
variable {s : hS} {Q : hQ} {hm : hO} {I J m : jM} {T a b c : Nat} {w h X Y wh vx vy lim : Int} {G8 G9 : Int → Int}
/-- one row of eight, fetched -/
theorem c_85r {n : Nat} {G : Int → Int} (F : PtC s Q T) (h6 : s.1 ≤ 1000000) (B : PcC s Q b) (sw : isSd w) (sh : isSd h) (vx0 : -16 ≤ vx) (vx1 : vx ≤ 16) (vy0 : -16 ≤ vy) (vy1 : vy ≤ 16) (X0 : 0 ≤ X) (X1 : X < w / 8) (Y0 : 0 ≤ Y) (Y1 : Y < h / 8) (smp : ∀ j : Int, 0 ≤ j → j < w * h → 0 ≤ J (b + 1) j ∧ J (b + 1) j ≤ 255) (J8 : J (T + 8) = G8) (J9 : J (T + 9) = G9) (v8 : ∀ i : Int, 0 ≤ i → i < 8 → G8 i = 0 + 1 * nr (X * 8 + i + vx / 2) w ∧ G8 (8 + i) = 0 + 1 * nr (X * 8 + i + vx / 2 + vx % 2) w) (v9 : ∀ i : Int, 0 ≤ i → i < 8 → G9 i = 0 + w * nr (Y * 8 + i + vy / 2) h ∧ G9 (8 + i) = 0 + w * nr (Y * 8 + i + vy / 2 + vy % 2) h) (n8 : n < 8) : ∃ G', jd_85 T (some (b + 1)) (vx % 2 + vy % 2) (n : Int) 8 (some (T + 2)) (8 * (n : Int)) (hh s Q (ims J (T + 2) G)) = some (hh s Q (ims J (T + 2) G')) ∧ (∀ i : Int, 0 ≤ i → i < 8 → G' (8 * (n : Int) + i) = ft (J (b + 1)) w h (X * 8 + i) (Y * 8 + (n : Int)) vx vy) ∧ ∀ j : Int, j < 8 * (n : Int) ∨ 8 * (n : Int) + 8 ≤ j → G' j = G j := by
  obtain ⟨B1, B2, B3, B4, B5, B6, B7⟩ := id B
  have F76 := F.2.2.2.2
  have w1 : 8 ≤ w ∧ w ≤ 24 := by rcases sw with rfl | rfl | rfl <;> decide
  have h1 : 8 ≤ h ∧ h ≤ 24 := by rcases sh with rfl | rfl | rfl <;> decide
  have wh : w * h ≤ 576 := by rcases sw with rfl | rfl | rfl <;> rcases sh with rfl | rfl | rfl <;> decide
  have V9 := v9 (n : Int) (by omega) (by omega)
  obtain ⟨U, eU⟩ : ∃ z, z = nr (Y * 8 + (n : Int) + vy / 2) h := ⟨_, rfl⟩
  obtain ⟨Lw, eL⟩ : ∃ z, z = nr (Y * 8 + (n : Int) + vy / 2 + vy % 2) h := ⟨_, rfl⟩
  rw [← eU, ← eL, Int.zero_add, Int.zero_add] at V9
  have bU : 0 ≤ U ∧ U < h := by rw [eU]; exact nr_b (by omega)
  have bL : 0 ≤ Lw ∧ Lw < h := by rw [eL]; exact nr_b (by omega)
  have rg : ∀ u v : Int, 0 ≤ u ∧ u < h → 0 ≤ v ∧ v < w → 0 ≤ w * u + v ∧ w * u + v < 864 := fun u v hu hv => by
    have := dm_b (W := w) (H := h) hu.1 hu.2 hv.1 hv.2
    rw [Int.mul_comm w u]
    omega
  have jc9 : ims J (T + 2) G (T + 9) = G9 := (ims_o (by omega)).trans J9
  have jc8 : ims J (T + 2) G (T + 8) = G8 := (ims_o (by omega)).trans J8
  have jcb : ims J (T + 2) G (b + 1) = J (b + 1) := ims_o (by omega)
  have e85 := c_85 (Q := Q) (I := ims J (T + 2) G) (C0 := fun i => nr (X * 8 + i + vx / 2) w) (C8 := fun i => nr (X * 8 + i + vx / 2 + vx % 2) w) (U := w * U) (Lw := w * Lw) (hv := vx % 2 + vy % 2) (side := 8) (r := (n : Int)) (at' := 8 * (n : Int)) (c := T + 2) F h6 (Or.inr rfl) B (by omega) (by omega) (by omega) (by omega) (by omega) (by omega) (by omega) (by omega) (by rw [jc9]; exact V9.1) (by rw [jc9]; exact V9.2) (fun i i0 i1 => by
    have V8 := v8 i i0 i1
    have n1 := nr_b (v := X * 8 + i + vx / 2) (n := w) (by omega)
    have n2 := nr_b (v := X * 8 + i + vx / 2 + vx % 2) (n := w) (by omega)
    rw [jc8, V8.1, V8.2, Int.one_mul, Int.one_mul, Int.zero_add, Int.zero_add]
    have r1 := rg U _ bU n1
    have r2 := rg U _ bU n2
    have r3 := rg Lw _ bL n1
    have r4 := rg Lw _ bL n2
    exact ⟨rfl, rfl, r1.1, r1.2, r2.1, r2.2, r3.1, r3.2, r4.1, r4.2⟩)
  rw [ims_e, ims_ims, jcb] at e85
  refine ⟨_, e85, fun i h2 h3 => ?_, fun j hj => wf_o (fun l hl => by omega)⟩
  obtain ⟨VV, hVV⟩ : ∃ V : Int → Int, V = fun i => if vx % 2 + vy % 2 = 1 then jdiv (J (b + 1) (w * U + nr (X * 8 + i + vx / 2) w) + J (b + 1) (w * Lw + nr (X * 8 + i + vx / 2 + vx % 2) w) + 1) 2 else if vx % 2 + vy % 2 = 2 then jdiv (J (b + 1) (w * U + nr (X * 8 + i + vx / 2) w) + (J (b + 1) (w * U + nr (X * 8 + i + vx / 2 + vx % 2) w) + J (b + 1) (w * Lw + nr (X * 8 + i + vx / 2) w)) + J (b + 1) (w * Lw + nr (X * 8 + i + vx / 2 + vx % 2) w) + 2) 4 else J (b + 1) (w * U + nr (X * 8 + i + vx / 2) w) := ⟨_, rfl⟩
  have k1 := wf_k (ix := fun i => 8 * (n : Int) + i) (v := fun i _ => VV i) (g := G) (n := (8 : Int).toNat) (k := i.toNat) (by show i.toNat < 8; omega) (fun l _ _ => by omega)
  rw [show ((i.toNat : Nat) : Int) = i by omega] at k1
  rw [hVV] at k1
  refine k1.trans ?_
  have n1 := nr_b (v := X * 8 + i + vx / 2) (n := w) (by omega)
  have n2 := nr_b (v := X * 8 + i + vx / 2 + vx % 2) (n := w) (by omega)
  have sm : ∀ u v : Int, 0 ≤ u ∧ u < h → 0 ≤ v ∧ v < w → J (b + 1) (w * u + v) = J (b + 1) (u * w + v) ∧ 0 ≤ J (b + 1) (u * w + v) ∧ J (b + 1) (u * w + v) ≤ 255 := fun u v hu hv => by
    have d := dm_b (W := w) (H := h) hu.1 hu.2 hv.1 hv.2
    rw [Int.mul_comm w u]
    exact ⟨rfl, smp _ d.1 d.2⟩
  have a1 := sm U _ bU n1
  have a2 := sm U _ bU n2
  have a3 := sm Lw _ bL n1
  have a4 := sm Lw _ bL n2
  dsimp only
  rw [a1.1, a2.1, a3.1, a4.1]
  unfold ft
  by_cases x2 : vx % 2 = 0
  · rw [if_pos x2]
    by_cases y2 : vy % 2 = 0
    · rw [if_pos y2, if_neg (by omega), if_neg (by omega), eU]
    · rw [if_neg y2, if_pos (by omega), n_div (by omega) (by omega) (by decide) (by decide), eU, eL, show vy % 2 = 1 by omega, show X * 8 + i + vx / 2 + vx % 2 = X * 8 + i + vx / 2 by omega]
  · rw [if_neg x2]
    by_cases y2 : vy % 2 = 0
    · rw [if_pos y2, if_pos (by omega), n_div (by omega) (by omega) (by decide) (by decide), show Lw = U by rw [eU, eL, y2, Int.add_zero], eU, show vx % 2 = 1 by omega]
    · rw [if_neg y2, if_neg (by omega), if_pos (by omega), n_div (by omega) (by omega) (by decide) (by decide), eU, eL, show vx % 2 = 1 by omega, show vy % 2 = 1 by omega, ← Int.add_assoc]
/-- sums of absolute differences -/
def ab (d : Int) : Int := if 0 ≤ d then d else -d
def dS (D : Int → Int) : Nat → Int
  | 0 => 0
  | n + 1 => dS D n + ab (D n)
theorem dS_s {D : Int → Int} {n : Nat} : dS D (n + 1) = dS D n + ab (D n) := rfl
theorem dS_c {D D' : Int → Int} : ∀ n : Nat, (∀ j : Int, 0 ≤ j → j < n → ab (D j) = ab (D' j)) → dS D n = dS D' n
  | 0, _ => rfl
  | n + 1, h => by rw [dS_s, dS_s, dS_c n (fun j j0 j1 => h j j0 (by omega)), h n (by omega) (by omega)]
theorem dS_m {D : Int → Int} (n : Nat) : ∀ k : Nat, dS D n ≤ dS D (n + k)
  | 0 => Int.le_refl _
  | k + 1 => by
    have := dS_m (D := D) n k
    have a : 0 ≤ ab (D ((n + k : Nat) : Int)) := by
      unfold ab
      split <;> omega
    rw [← Nat.add_assoc, dS_s]
    omega
theorem dS_b {D : Int → Int} : ∀ n : Nat, (∀ j : Int, 0 ≤ j → j < n → -255 ≤ D j ∧ D j ≤ 255) → 0 ≤ dS D n ∧ dS D n ≤ 255 * n
  | 0, _ => ⟨Int.le_refl _, Int.le_refl _⟩
  | n + 1, h => by
    have ih := dS_b n (fun j j0 j1 => h j j0 (by omega))
    have d := h n (by omega) (by omega)
    rw [dS_s]
    unfold ab
    split <;> omega
end Far
