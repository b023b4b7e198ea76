/-! making: farAt, class -/
section Far2
variable {s : hS} {Q : hQ} {hm : hO} {I J m : jM} {T a b c : Nat} {w h X Y wh vx vy lim : Int} {Wd : Int → Int}
def DF (Wd S : Int → Int) (w h X Y vx vy : Int) : Int → Int := fun z => Wd z - ft S w h (X * 8 + z % 8) (Y * 8 + z / 8) vx vy
theorem c_83l {n : Nat} {D : Int → Int} {x4 x5 x6 : Int} {x1 : Option Nat} (F : PtC s Q T) (h6 : s.1 ≤ 1000000) (hc : c < s.1 ∧ s.2.2.1 c = 0 ∧ s.2.2.2 c = 96) (n8 : n < 8) (hD : ∀ z : Int, 8 * (n : Int) ≤ z → z < 8 * (n : Int) + 8 → I c z - I (T + 2) z = D z ∧ -255 ≤ D z ∧ D z ≤ 255) : jd_83_l132 T x1 (some c) x4 x5 x6 (n : Int) (dS D (8 * n)) (8 * (n : Int)) (hh s Q I) = some (dS D (8 * (n + 1))) := by
  have q8 := T_q F 2 8 rfl rfl rfl
  unfold jd_83_l132
  have := w_for (f := fun u : (Int × Int) => jd_83_s132 T x1 (some c) x4 x5 x6 (n : Int) u.1 u.2 (hh s Q I)) (fun k => (dS D (8 * n + k), 8 * (n : Int) + (k : Int))) 8 (x := dS D (8 * (n + 1))) (fun k hk => ?_) ?_ (n_fu (by decide))
  · rw [show 8 * (n : Int) + ((0 : Nat) : Int) = 8 * (n : Int) by omega] at this
    exact this
  · dsimp only
    obtain ⟨d1, d2, d3⟩ := hD (8 * (n : Int) + (k : Int)) (by omega) (by omega)
    unfold jd_83_s132
    rw [n_jw (z := 8 * (n : Int) + 8) (by omega) (by omega), n_jw (z := 8 * (n : Int) + (k : Int)) (by omega) (by omega), if_neg (by omega), Option.bind_some, x_ai hc.1 h6 hc.2.1 (by omega) (by rw [hc.2.2]; omega) (by rw [hc.2.2]; decide), Option.bind_some, T_gr F, Option.bind_some, q8, Option.bind_some, T_ai F h6 2 96 rfl rfl rfl rfl (by omega) (by omega), Option.bind_some, d1, n_jw (z := D (8 * (n : Int) + (k : Int))) (by omega) (by omega), Option.bind_some, show 8 * n + (k + 1) = 8 * n + k + 1 from rfl, dS_s, show ((8 * n + k : Nat) : Int) = 8 * (n : Int) + (k : Int) by omega, show 8 * (n : Int) + ((k + 1 : Nat) : Int) = 8 * (n : Int) + (k : Int) + 1 by omega]
    rfl
  · dsimp only
    unfold jd_83_s132
    rw [if_pos (by show jw (8 * (n : Int) + 8) ≤ jw (8 * (n : Int) + ((8 : Nat) : Int)); exact Int.le_refl _)]
    rfl
theorem c_83 (F : PtC s Q T) (h6 : s.1 ≤ 1000000) (hc : c < s.1 ∧ s.2.2.1 c = 0 ∧ s.2.2.2 c = 96) (cT : T + 10 ≤ c) (c76 : c < 76) (B : PcC s Q b) (hw : I b 0 = w) (hv : I b 1 = h) (sw : isSd w) (sh : isSd h) (w0 : 0 ≤ wh) (w2 : wh ≤ 2) (ex : I (T + 5) wh = vx) (ey : I (T + 5) (wh + 1) = vy) (vx0 : -16 ≤ vx) (vx1 : vx ≤ 16) (vy0 : -16 ≤ vy) (vy1 : vy ≤ 16) (eX : I T 5 = X) (eY : I T 6 = Y) (X0 : 0 ≤ X) (X1 : X < w / 8) (Y0 : 0 ≤ Y) (Y1 : Y < h / 8) (smp : ∀ j : Int, 0 ≤ j → j < w * h → 0 ≤ I (b + 1) j ∧ I (b + 1) j ≤ 255) (hWd : ∀ z : Int, 0 ≤ z → z < 64 → I c z = Wd z ∧ 0 ≤ Wd z ∧ Wd z ≤ 255) (l0 : -2147483648 ≤ lim) (l1 : lim < 2147483648) : ∃ sum J, jd_83 T (some b) wh (some c) lim (hh s Q I) = some (sum, hh s Q J) ∧ (∀ x : Nat, x ≠ T + 2 → x ≠ T + 8 → x ≠ T + 9 → J x = I x) ∧ 0 ≤ sum ∧ sum ≤ dS (DF Wd (I (b + 1)) w h X Y vx vy) 64 ∧ (sum = dS (DF Wd (I (b + 1)) w h X Y vx vy) 64 ∨ lim ≤ sum) := by
  obtain ⟨B1, B2, B3, B4, B5, B6, B7⟩ := id B
  have F76 := F.2.2.2.2
  have t14 : s.2.2.1 b = 6 + 8 := B3
  have q2 : Q b ((2 : Nat) : Int) = some (b + 1) := B7
  have q8 := T_q F 2 8 rfl rfl rfl
  have q11 := T_q F 5 11 rfl rfl rfl
  have q14 := T_q F 8 14 rfl rfl rfl
  have q15 := T_q F 9 15 rfl rfl rfl
  have g8 := F.2.2.1 8 (by decide) (by decide)
  have g9 := F.2.2.1 9 (by decide) (by decide)
  have w1 : 8 ≤ w ∧ w ≤ 24 := by rcases sw with rfl | rfl | rfl <;> decide
  have h1 : 8 ≤ h ∧ h ≤ 24 := by rcases sh with rfl | rfl | rfl <;> decide
  obtain ⟨G8, k8, v8⟩ := c_84 (Q := Q) (I := I) (start := X * 8) (side := 8) (hv := vx) (size := w) (stride := 1) (bs := 0) g8.1 g8.2.1 g8.2.2 (by omega) (by omega) (by omega) (by omega) (by omega) (by omega) (by omega) (by omega)
  obtain ⟨G9, k9, v9⟩ := c_84 (Q := Q) (I := ims I (T + 8) G8) (start := Y * 8) (side := 8) (hv := vy) (size := h) (stride := w) (bs := 0) g9.1 g9.2.1 g9.2.2 (by omega) (by omega) (by omega) (by omega) (by omega) (by omega) (by omega) (by omega)
  obtain ⟨J, hJ⟩ : ∃ J, J = ims (ims I (T + 8) G8) (T + 9) G9 := ⟨_, rfl⟩
  rw [← hJ] at k9
  have J8 : J (T + 8) = G8 := by rw [hJ, ims_o (by omega), ims_e]
  have J9 : J (T + 9) = G9 := by rw [hJ, ims_e]
  have Jo : ∀ x : Nat, x ≠ T + 8 → x ≠ T + 9 → J x = I x := fun x h1 h2 => by rw [hJ, ims_o h2, ims_o h1]
  have Jb : J (b + 1) = I (b + 1) := Jo _ (by omega) (by omega)
  obtain ⟨D, hD⟩ : ∃ D, D = DF Wd (I (b + 1)) w h X Y vx vy := ⟨_, rfl⟩
  have Db : ∀ z : Int, 0 ≤ z → z < 64 → -255 ≤ D z ∧ D z ≤ 255 := fun z z0 z1 => by
    have f := ft_b (S := I (b + 1)) (W := w) (H := h) (x := X * 8 + z % 8) (y := Y * 8 + z / 8) (hx := vx) (hy := vy) (by omega) (by omega) (fun j j0 j1 => smp j j0 j1)
    obtain ⟨-, a1, a2⟩ := hWd z z0 z1
    rw [hD]
    show -255 ≤ Wd z - ft (I (b + 1)) w h (X * 8 + z % 8) (Y * 8 + z / 8) vx vy ∧ Wd z - ft (I (b + 1)) w h (X * 8 + z % 8) (Y * 8 + z / 8) vx vy ≤ 255
    omega
  rw [← hD]
  have lp : wT (jd_83_l81 T (some b) (some c) lim vx vy 0 0 (hh s Q J)) (fun o => ∃ (n : Nat) (G : Int → Int), n ≤ 8 ∧ o = (dS D (8 * n), hh s Q (ims J (T + 2) G)) ∧ (n = 8 ∨ lim ≤ dS D (8 * n))) := by
    unfold jd_83_l81
    refine w_lp (fun n (u : Int × Int × jH) => n ≤ 8 ∧ ∃ G, u = (dS D (8 * n), (n : Int), hh s Q (ims J (T + 2) G))) 8 (fun n u hn hu => ?_) (n_fu (by decide)) ⟨by decide, J (T + 2), by rw [ims_self]; rfl⟩
    obtain ⟨n8, G, rfl⟩ := hu
    have sb := dS_b (D := D) (8 * n) (fun j j0 j1 => Db j j0 (by omega))
    show wT (jd_83_s81 T (some b) (some c) lim vx vy (dS D (8 * n)) (n : Int) (hh s Q (ims J (T + 2) G))) _
    unfold jd_83_s81
    rw [n_jw (z := (n : Int)) (by omega) (by omega), n_jw (z := lim) l0 l1, n_jw (z := dS D (8 * n)) (by omega) (by omega)]
    by_cases c8 : 8 ≤ (n : Int)
    · rw [if_pos c8]
      refine ⟨_, rfl, ?_⟩
      show jse _ _ _
      rw [jse_r]
      exact ⟨n, G, n8, rfl, Or.inl (by omega)⟩
    · rw [if_neg c8]
      by_cases cl : lim ≤ dS D (8 * n)
      · rw [if_pos cl]
        refine ⟨_, rfl, ?_⟩
        show jse _ _ _
        rw [jse_r]
        exact ⟨n, G, n8, rfl, Or.inr cl⟩
      · obtain ⟨G', e1, e2, e3⟩ := c_85r (J := J) (n := n) (G := G) F h6 B sw sh vx0 vx1 vy0 vy1 X0 X1 Y0 Y1 (by rw [Jb]; exact smp) J8 J9 v8 v9 (by omega)
        rw [if_neg cl, Option.bind_some, x_gr B2 t14, Option.bind_some, q2, T_gr F, Option.bind_some, q8, T_ck F, Option.bind_some, n_and1, n_and1, e1, Option.bind_some, c_83l (D := D) F h6 hc (by omega) (fun z z0 z1 => ?_), Option.bind_some]
        · refine ⟨_, rfl, ?_⟩
          show jse _ _ _
          rw [jse_l]
          exact ⟨by omega, by omega, G', by rw [show ((n + 1 : Nat) : Int) = (n : Int) + 1 by omega]⟩
        · have cI : ims J (T + 2) G' c = I c := by rw [ims_o (by omega), Jo c (by omega) (by omega)]
          have e := e2 (z - 8 * (n : Int)) (by omega) (by omega)
          rw [show 8 * (n : Int) + (z - 8 * (n : Int)) = z by omega, Jb] at e
          refine ⟨?_, Db z (by omega) (by omega)⟩
          rw [cI, ims_e, e, (hWd z (by omega) (by omega)).1, hD]
          show _ = Wd z - ft (I (b + 1)) w h (X * 8 + z % 8) (Y * 8 + z / 8) vx vy
          rw [show z % 8 = z - 8 * (n : Int) by omega, show z / 8 = (n : Int) by omega]
  obtain ⟨o, eo, n, G, n8, rfl, hn⟩ := lp
  have sb := dS_b (D := D) (8 * n) (fun j j0 j1 => Db j j0 (by omega))
  have sm := dS_m (D := D) (8 * n) (64 - 8 * n)
  rw [show 8 * n + (64 - 8 * n) = 64 by omega] at sm
  refine ⟨dS D (8 * n), ims J (T + 2) G, ?_, fun x x1 x2 x3 => by rw [ims_o x1]; exact Jo x x2 x3, sb.1, sm, ?_⟩
  · have e5 : I T ((5 : Nat) : Int) = X := eX
    have e6 : ims I (T + 8) G8 T ((6 : Nat) : Int) = Y := by rw [ims_o (by omega)]; exact eY
    have b0 : I b ((0 : Nat) : Int) = w := hw
    have b1 : ims I (T + 8) G8 b ((1 : Nat) : Int) = h := by rw [ims_o (by omega)]; exact hv
    have b2 : ims I (T + 8) G8 b ((0 : Nat) : Int) = w := by rw [ims_o (by omega)]; exact hw
    unfold jd_83
    rw [if_neg (by simp), T_gr F, Option.bind_some, q11, Option.bind_some, T_ai F h6 5 4 rfl rfl rfl rfl (by omega) (by omega), Option.bind_some, ex, Option.bind_some, Option.bind_some, T_ai F h6 5 4 rfl rfl rfl rfl (by omega) (by omega), Option.bind_some, ey, T_gr F, Option.bind_some, q14, T_gi F, Option.bind_some, e5, Option.bind_some, x_gi B2 t14, Option.bind_some, b0, k8, Option.bind_some, T_gr F, Option.bind_some, q15, T_gi F, Option.bind_some, e6, Option.bind_some, x_gi B2 t14, Option.bind_some, b1, Option.bind_some, x_gi B2 t14, Option.bind_some, b2, k9, Option.bind_some, eo, Option.bind_some]
  · rcases hn with e | e
    · exact Or.inl (by rw [e])
    · exact Or.inr e
end Far2
