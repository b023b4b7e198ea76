/-! making in runs: the class's table, whole -/
section RunTbC
variable {s : hS} {Q : hQ} {hm : hO} {I : jM} {src : Nat} {N kd W pl w h o B : Int} {v an : Int → Int} {x3 : Option Nat}
/-- the picture ahead, if one is told -/
def AnC (s : hS) (Q : hQ) (I : jM) (x3 : Option Nat) (kd B N : Int) (an : Int → Int) : Prop := (kd = 0 ∧ x3 = none) ∨ (kd ≠ 0 ∧ ∃ pa, x3 = some pa ∧ PcC s Q pa ∧ ∀ j : Int, 0 ≤ j → j < N → I (pa + 1) (B + j) = an j ∧ 0 ≤ an j ∧ an j ≤ 255)
theorem AnC_f {I' : jM} (e : ∀ y : Nat, 153 ≤ y → I' y = I y) (X : AnC s Q I x3 kd B N an) : AnC s Q I' x3 kd B N an := by
  rcases X with h | ⟨h1, pa, h2, h3, h4⟩
  · exact Or.inl h
  · have := h3.1
    exact Or.inr ⟨h1, pa, h2, h3, fun j j0 j1 => by rw [e (pa + 1) (by omega)]; exact h4 j j0 j1⟩
theorem c_127s (Ly : Lay s Q hm) (h6 : s.1 ≤ 1000000) (P : PcC s Q src) (N1 : N ≤ 576) (B0 : 0 ≤ B) (BN : B + N ≤ 864) (W0 : 0 ≤ W) (W1 : W ≤ 24) {x : Int} (x0 : 0 ≤ x) (x1 : x < N) (hv : ∀ j : Int, 0 ≤ j → j < N → I (src + 1) (B + j) = v j ∧ 0 ≤ v j ∧ v j ≤ 255) (hA : AnC s Q I x3 kd B N an) (T : TB v an kd W N (I 65) (I 66) (I 67) (x + 1)) : ∃ I', jd_127_s53 64 x3 W N B (some (src + 1)) (Rn v an kd W N 0 (x + 1)) (Rn v an kd W N 1 (x + 1)) (Rn v an kd W N 2 (x + 1)) x (hh s Q I) = some (.inl (Rn v an kd W N 0 x, Rn v an kd W N 1 x, Rn v an kd W N 2 x, x + -1, hh s Q I')) ∧ FrX I I' x ∧ TB v an kd W N (I' 65) (I' 66) (I' 67) x := by
  obtain ⟨I1, I2, I3, I4, e1, e2, e3, e4, F4, T4⟩ := c_127x Ly h6 x0 x1 N1 T
  have q1 : Q 64 ((1 : Nat) : Int) = some 65 := Lq Ly rfl
  have ai : ∀ j : Int, 0 ≤ j → j < N → jai (hh s Q I) (src + 1) (B + j) = some (v j) := fun j j0 j1 => by
    rw [x_ai P.2.2.2.1 h6 P.2.2.2.2.1 (by omega) (by rw [P.2.2.2.2.2.1]; omega) (by rw [P.2.2.2.2.2.1]; decide), (hv j j0 j1).1]
  have jv : ∀ j : Int, 0 ≤ j → j < N → jw (v j) = v j := fun j j0 j1 => by
    have := hv j j0 j1
    exact n_jw (by omega) (by omega)
  have b162 : jd_127_b162 64 x3 W N B (some (src + 1)) (Rn v an kd W N 0 x) (Rn v an kd W N 1 x) x (Rn v an kd W N 2 x) (hh s Q I) = some (.inl (Rn v an kd W N 0 x, Rn v an kd W N 1 x, Rn v an kd W N 2 x, x + -1, hh s Q I4)) := by
    unfold jd_127_b162
    rw [y_gr Ly 64 9 rfl rfl, Option.bind_some, q1, Option.bind_some, y_ta Ly 65 0 577 rfl rfl rfl x0 (by omega), Option.bind_some, y_ck Ly 64 9 rfl rfl, Option.bind_some, e1, Option.bind_some, y_ck Ly 64 9 rfl rfl, Option.bind_some, e2, Option.bind_some, y_ck Ly 64 9 rfl rfl, Option.bind_some, e3, Option.bind_some, y_ck Ly 64 9 rfl rfl, Option.bind_some, e4, Option.bind_some]
  have b129 : jd_127_b129 64 x3 W N B (some (src + 1)) (Rn v an kd W N 0 x) (Rn v an kd W N 2 (x + 1)) x (v x) (Rn v an kd W N 1 x) (hh s Q I) = some (.inl (Rn v an kd W N 0 x, Rn v an kd W N 1 x, Rn v an kd W N 2 x, x + -1, hh s Q I4)) := by
    have rs := Rn_s (v := v) (an := an) (kd := kd) (W := W) (N := N) (w := 2) (x := x) (by decide) x1
    rw [if_neg (by decide), if_neg (by decide)] at rs
    unfold jd_127_b129
    rw [n_jw (z := x) (by omega) (by omega), n_jw (z := W) (by omega) (by omega)]
    by_cases c : x < W
    · rw [if_pos c] at rs ⊢
      rw [← b162, rs]
    · rw [if_neg c] at rs ⊢
      rw [Option.bind_some, show B + x - W = B + (x - W) by omega, ai (x - W) (by omega) (by omega), Option.bind_some, jv (x - W) (by omega) (by omega), jv x x0 x1, ← b162, rs]
  have b100 : jd_127_b100 64 x3 W N B (some (src + 1)) (Rn v an kd W N 1 (x + 1)) (Rn v an kd W N 2 (x + 1)) x (v x) (Rn v an kd W N 0 x) (hh s Q I) = some (.inl (Rn v an kd W N 0 x, Rn v an kd W N 1 x, Rn v an kd W N 2 x, x + -1, hh s Q I4)) := by
    have rs := Rn_s (v := v) (an := an) (kd := kd) (W := W) (N := N) (w := 1) (x := x) (by decide) x1
    rw [if_neg (by decide), if_pos rfl] at rs
    unfold jd_127_b100
    rcases hA with ⟨k0, n0⟩ | ⟨k1, pa, n1, Pa, ha⟩
    · rw [if_pos k0] at rs
      rw [if_pos n0, ← b129, rs]
    · obtain ⟨h1, h2, h3⟩ := ha x x0 x1
      have t2 : Q pa ((2 : Nat) : Int) = some (pa + 1) := Pa.2.2.2.2.2.2
      rw [if_neg k1] at rs
      rw [if_neg (by rw [n1]; exact fun e => by cases e), ← b129, n1, Option.bind_some, x_gr Pa.2.1 (c := 6) Pa.2.2.1, Option.bind_some, t2, Option.bind_some, x_ai Pa.2.2.2.1 h6 Pa.2.2.2.2.1 (by omega) (by rw [Pa.2.2.2.2.2.1]; omega) (by rw [Pa.2.2.2.2.2.1]; decide), Option.bind_some, h1, n_jw (z := an x) (by omega) (by omega), jv x x0 x1, rs]
  refine ⟨I4, ?_, F4, T4⟩
  have rs := Rn_s (v := v) (an := an) (kd := kd) (W := W) (N := N) (w := 0) (x := x) (by decide) x1
  rw [if_pos rfl] at rs
  unfold jd_127_s53
  rw [n_jw (z := x) (by omega) (by omega), if_neg (by omega), Option.bind_some, ai x x0 x1, Option.bind_some, n_jw (z := N) (by omega) (by omega), n_jw (z := x + 1) (by omega) (by omega)]
  by_cases c : N ≤ x + 1
  · rw [if_pos (show x + 1 = N by omega)] at rs
    rw [if_pos c, ← b100, rs]
  · rw [if_neg (show ¬ x + 1 = N by omega)] at rs
    rw [if_neg c, Option.bind_some, show B + x + 1 = B + (x + 1) by omega, ai (x + 1) (by omega) (by omega), Option.bind_some, jv (x + 1) (by omega) (by omega), jv x x0 x1, ← b100, rs]
theorem c_127 (Ly : Lay s Q hm) (h6 : s.1 ≤ 1000000) (P : PcC s Q src) (i0 : I src 0 = w) (i1 : I src 1 = h) (sw : isSd w) (sh : isSd h) (p0 : 0 ≤ pl) (p2 : pl ≤ 2) (hv : ∀ j : Int, 0 ≤ j → j < pw w pl * pw h pl → I (src + 1) (pb w h pl + j) = v j ∧ 0 ≤ v j ∧ v j ≤ 255) (hA : AnC s Q I x3 kd (pb w h pl) (pw w pl * pw h pl) an) : ∃ I', jd_127 64 (some src) pl x3 (hh s Q I) = some (hh s Q I') ∧ (∀ y : Nat, y ≠ 65 → y ≠ 66 → y ≠ 67 → I' y = I y) ∧ TB v an kd (pw w pl) (pw w pl * pw h pl) (I' 65) (I' 66) (I' 67) 0 := by
  have ok : okI pl := ⟨by omega, by omega⟩
  obtain ⟨N, hN⟩ : ∃ N, pw w pl * pw h pl = N := ⟨_, rfl⟩
  obtain ⟨W, hW⟩ : ∃ W, pw w pl = W := ⟨_, rfl⟩
  obtain ⟨B, hB⟩ : ∃ B, pb w h pl = B := ⟨_, rfl⟩
  have pc : pl = 0 ∨ pl = 1 ∨ pl = 2 := by omega
  have nb : 1 ≤ N ∧ N ≤ 576 ∧ 0 ≤ B ∧ B + N ≤ 864 ∧ 0 ≤ W ∧ W ≤ 24 := by
    rw [← hN, ← hW, ← hB]
    rcases pc with rfl | rfl | rfl <;> rcases sw with rfl | rfl | rfl <;> rcases sh with rfl | rfl | rfl <;> decide
  rw [hN] at hv hA ⊢
  rw [hB] at hv hA
  rw [hW]
  obtain ⟨nb1, nb2, nb3, nb4, nb5, nb6⟩ := nb
  have q1 : Q 64 ((1 : Nat) : Int) = some 65 := Lq Ly rfl
  have t2 : Q src ((2 : Nat) : Int) = some (src + 1) := P.2.2.2.2.2.2
  obtain ⟨I0, hI0⟩ : ∃ z, z = jms I 65 N 0 := ⟨_, rfl⟩
  have T0 : TB v an kd W N (I0 65) (I0 66) (I0 67) N := ⟨by rw [hI0, jms_e], fun y y0 y1 => absurd y1 (by omega)⟩
  have step : ∀ (t : Nat) (u : Int × Int × Int × Int × jH), t ≤ N.toNat → (∃ It : jM, u = (Rn v an kd W N 0 (N - (t : Int)), Rn v an kd W N 1 (N - (t : Int)), Rn v an kd W N 2 (N - (t : Int)), N - (t : Int) - 1, hh s Q It) ∧ (∀ y : Nat, y ≠ 65 → y ≠ 66 → y ≠ 67 → It y = I y) ∧ TB v an kd W N (It 65) (It 66) (It 67) (N - (t : Int))) → wT ((fun u : (Int × Int × Int × Int × jH) => jd_127_s53 64 x3 W N B (some (src + 1)) u.1 u.2.1 u.2.2.1 u.2.2.2.1 u.2.2.2.2) u) (fun o => jse o (fun u' => t < N.toNat ∧ ∃ It : jM, u' = (Rn v an kd W N 0 (N - ((t + 1 : Nat) : Int)), Rn v an kd W N 1 (N - ((t + 1 : Nat) : Int)), Rn v an kd W N 2 (N - ((t + 1 : Nat) : Int)), N - ((t + 1 : Nat) : Int) - 1, hh s Q It) ∧ (∀ y : Nat, y ≠ 65 → y ≠ 66 → y ≠ 67 → It y = I y) ∧ TB v an kd W N (It 65) (It 66) (It 67) (N - ((t + 1 : Nat) : Int))) (fun y => ∃ I' : jM, y = hh s Q I' ∧ (∀ y : Nat, y ≠ 65 → y ≠ 66 → y ≠ 67 → I' y = I y) ∧ TB v an kd W N (I' 65) (I' 66) (I' 67) 0)) := by
    intro t u ht J
    obtain ⟨It, rfl, fr, T⟩ := J
    dsimp only
    by_cases c : t = N.toNat
    · have et : N - (t : Int) = 0 := by omega
      rw [et] at T ⊢
      refine ⟨.inr (hh s Q It), ?_, It, rfl, fr, T⟩
      unfold jd_127_s53
      rw [if_pos (by decide)]
    · obtain ⟨x, hx⟩ : ∃ x, N - (t : Int) - 1 = x := ⟨_, rfl⟩
      have e1 : N - (t : Int) = x + 1 := by omega
      have e2 : N - ((t + 1 : Nat) : Int) = x := by omega
      rw [e1] at T ⊢
      rw [e2, show x + 1 - 1 = x by omega]
      have s153 := P.1
      obtain ⟨I', d1, d2, d3⟩ := c_127s (I := It) (x3 := x3) (kd := kd) (an := an) (v := v) Ly h6 P nb2 nb3 nb4 nb5 nb6 (x := x) (by omega) (by omega) (fun j j0 j1 => by rw [fr (src + 1) (by omega) (by omega) (by omega)]; exact hv j j0 j1) (AnC_f (fun y hy => fr y (by omega) (by omega) (by omega)) hA) T
      rw [d1]
      exact ⟨_, rfl, by omega, I', by rw [show x + -1 = x - 1 by omega], fun y y1 y2 y3 => (d2.1 y y1 y2 y3).trans (fr y y1 y2 y3), d3⟩
  obtain ⟨y, e, I', hy, fr, T⟩ := w_lp (f := fun u : (Int × Int × Int × Int × jH) => jd_127_s53 64 x3 W N B (some (src + 1)) u.1 u.2.1 u.2.2.1 u.2.2.2.1 u.2.2.2.2) (Q := fun y => ∃ I' : jM, y = hh s Q I' ∧ (∀ y : Nat, y ≠ 65 → y ≠ 66 → y ≠ 67 → I' y = I y) ∧ TB v an kd W N (I' 65) (I' 66) (I' 67) 0) (fun t u => ∃ It : jM, u = (Rn v an kd W N 0 (N - (t : Int)), Rn v an kd W N 1 (N - (t : Int)), Rn v an kd W N 2 (N - (t : Int)), N - (t : Int) - 1, hh s Q It) ∧ (∀ y : Nat, y ≠ 65 → y ≠ 66 → y ≠ 67 → It y = I y) ∧ TB v an kd W N (It 65) (It 66) (It 67) (N - (t : Int))) N.toNat step (n_fu (by omega)) (s0 := (0, 0, 0, N - 1, hh s Q I0)) ⟨I0, by rw [show N - ((0 : Nat) : Int) = N by omega, Rn_N (by decide), Rn_N (by decide), Rn_N (by decide)], fun y y1 _ _ => by rw [hI0, jms_o y1], by rw [show N - ((0 : Nat) : Int) = N by omega]; exact T0⟩
  refine ⟨I', ?_, fr, T⟩
  unfold jd_127 jd_127_l53
  rw [Option.bind_some, x_ck P.2.1 (c := 6) P.2.2.1, Option.bind_some, c_96 P.2.1 P.2.2.1 i0 sw ok, Option.bind_some, Option.bind_some, x_ck P.2.1 (c := 6) P.2.2.1, Option.bind_some, c_97 P.2.1 P.2.2.1 i1 sh ok, Option.bind_some, Option.bind_some, x_ck P.2.1 (c := 6) P.2.2.1, Option.bind_some, c_98 P.2.1 P.2.2.1 i0 i1 sw sh ok, Option.bind_some, Option.bind_some, x_gr P.2.1 (c := 6) P.2.2.1, Option.bind_some, t2, y_gr Ly 64 9 rfl rfl, Option.bind_some, q1, Option.bind_some, hN, hW, hB, y_ta Ly 65 0 577 rfl rfl rfl (by omega) (by omega), Option.bind_some, ← hI0, e, Option.bind_some, hy]
end RunTbC
