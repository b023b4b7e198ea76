/-! planning: all places, both sides -/
section PlanA
variable {s s' : hS} {Q Q' : hQ} {hm hm' : hO} {I I' m m' : jM} {a : Nat} {f w h T q n d : Int} {X : Int → Int}
theorem MkP_j {cod : Int} (C : MkP s Q hm I m a f w h T cod) (S : Sm (PJo f) s Q hm I s' Q' hm' I') (L' : Lay s' Q' hm') (F' : FilmAt s' Q' hm' a f) (hb' : ∀ b, Q' 43 0 = some b → 153 ≤ b ∧ Ce s' hm' b 1 4000 560) (M : MI m m') : MkP s' Q' hm' I' m' a f w h T cod := by
  obtain ⟨⟨L, F, f0, f8⟩, -, ⟨m32, m33, m34, sw, sh⟩, ⟨T1, T2, i5, q6⟩, c5, c6⟩ := C
  have q42 := Lay_fr (a := 42) L S (by decide) (by unfold PJo PH; omega)
  have q3 := Lay_fr (a := 3) L S (by decide) (by unfold PJo PH; omega)
  have q68 := Lay_fr (a := 68) L S (by decide) (by unfold PJo PH; omega)
  have e82 : m' 82 = m 82 := M.1 82 (by decide) (by decide) (by decide) (by decide) (by decide)
  have e121 : m' 121 = m 121 := M.1 121 (by decide) (by decide) (by decide) (by decide) (by decide)
  refine ⟨⟨L', F', f0, f8⟩, hb', ⟨by rw [M.2 32 (by decide)]; exact m32, by rw [M.2 33 (by decide)]; exact m33, by rw [M.2 34 (by decide)]; exact m34, sw, sh⟩, ⟨T1, T2, by rw [q42.2]; exact i5, by rw [q42.1]; exact q6⟩, fun k k0 k1 => by rw [q3.2, e82]; exact c5 k k0 k1, fun i i0 i1 => ?_⟩
  obtain ⟨src, h1, h2, h3⟩ := c6 i i0 i1
  obtain ⟨P', j1, j2⟩ := PicAt_fr S h2 (by unfold PJo PH; omega)
  exact ⟨src, by rw [q68.1]; exact h1, P', by rw [e121]; exact Pix_fr h3 j1 j2⟩
theorem c_62m (L : Lay s Q hm) {x1 : Option Nat} : jd_62_l12 42 x1 0 (hh s Q I) = some (hh s Q (ims I 71 (fun x => if 0 ≤ x ∧ x < 4 then -1 else I 71 x))) := by
  have t9 : Q 42 ((9 : Nat) : Int) = some 71 := Lq L rfl
  unfold jd_62_l12
  have := w_for (f := fun u : (Int × jH) => jd_62_s12 42 x1 u.1 u.2) (fun k => ((k : Int), hh s Q (ims I 71 (fun x => if 0 ≤ x ∧ x < (k : Int) then -1 else I 71 x)))) 4 (x := hh s Q (ims I 71 (fun x => if 0 ≤ x ∧ x < 4 then -1 else I 71 x))) (fun k hk => ?_) ?_ (n_fu (by decide))
  · have e : ims I 71 (fun x => if 0 ≤ x ∧ x < ((0 : Nat) : Int) then -1 else I 71 x) = I := by
      have : (fun x : Int => if 0 ≤ x ∧ x < ((0 : Nat) : Int) then -1 else I 71 x) = I 71 := by
        funext x
        exact if_neg (by omega)
      rw [this]
      exact ims_self
    rw [e] at this
    exact this
  · dsimp only
    unfold jd_62_s12
    have e : jiu (fun x : Int => if 0 ≤ x ∧ x < (k : Int) then -1 else I 71 x) (k : Int) (-1) = fun x : Int => if 0 ≤ x ∧ x < ((k + 1 : Nat) : Int) then -1 else I 71 x := by
      funext x
      unfold jiu
      by_cases c : x = k
      · rw [if_pos c, if_pos (by omega)]
      · rw [if_neg c]
        exact if_c (by omega)
    rw [n_jw (by omega) (by omega), if_neg (by omega), y_gr L 42 4 rfl rfl, Option.bind_some, t9, Option.bind_some, y_ta L 71 0 4 rfl rfl rfl (by omega) (by omega), Option.bind_some, ims_jms, e, show ((k + 1 : Nat) : Int) = (k : Int) + 1 by omega]
  · dsimp only
    unfold jd_62_s12
    rw [if_pos (by decide)]
    rfl
theorem plan_all (C : MkP s Q hm I m a f w h T 0) (h6 : s.1 + 60 ≤ 1000000) (h7 : m 76 7 = T) : ∃ (S : hS) (R : hQ) (H : hO) (J m' : jM), jd_62 42 (some a) (hh s Q I) = some (hh S R J) ∧ jd_299 m = some m' ∧ MkP S R H J m' a f w h T 0 ∧ (∀ p : Int, 0 ≤ p → p < T → J 69 p = m' 130 p) ∧ GSz (m' 130) T ∧ Sm (PJo f) s Q hm I S R H J ∧ MI m m' ∧ (S.1 ≤ s.1 + 25 ∧ S.2.1 ≤ s.2.1 + 14404) := by
  obtain ⟨⟨L, F, f0, f8⟩, hb, c3, ⟨T1, T2, i5, q6⟩, c5, c6⟩ := id C
  have a153 := F.1
  obtain ⟨I1, hI1⟩ : ∃ z, z = ims (jms I 70 T 0) 71 (fun x => if 0 ≤ x ∧ x < 4 then -1 else jms I 70 T 0 71 x) := ⟨_, rfl⟩
  have o1 : ∀ x : Nat, x ≠ 70 → x ≠ 71 → I1 x = I x := fun x x1 x2 => by rw [hI1, ims_o x2, jms_o x1]
  have i70 : I1 70 T = 0 := by rw [hI1, ims_o (by decide), jms_e]
  have i71 : ∀ j : Int, 0 ≤ j → j < 4 → I1 71 j = -1 := fun j j0 j1 => by rw [hI1, ims_e, if_pos ⟨j0, j1⟩]
  obtain ⟨m1, hm1⟩ : ∃ z, z = jms m 129 T 0 := ⟨_, rfl⟩
  have om : ∀ c : Nat, c ≠ 129 → m1 c = m c := fun c hc => by rw [hm1, jms_o hc]
  have S1 : Sm (PJo f) s Q hm I s Q hm I1 := Sm_I (fun x _ hx => o1 x (fun e => by
    rw [e, Lo L rfl] at hx
    exact hx.2.2 rfl) (fun e => by
    rw [e, Lo L rfl] at hx
    exact hx.1.2.1 rfl))
  have mi1 : MI m m1 := ⟨fun c _ _ _ c4 _ => om c c4, fun z _ => by rw [om 76 (by decide)]⟩
  have C1 := MkP_j C S1 L F hb mi1
  obtain ⟨-, -, -, ⟨-, -, j5, -⟩, -, d6⟩ := id C1
  obtain ⟨src, r68, P0, ⟨w0, h0, -, -, -⟩⟩ := d6 0 (by decide) (by omega)
  obtain ⟨s2, Q2, hm2, I2, e28, L2, F2, S2, kp, -, rdy, g2, g2'⟩ := c_28 (w := w) (h := h) (c := 0) (T := T) (I := I1) f0 f8 (Int.le_refl _) (by omega) T2 L F (by omega)
  have S2' : Sm (PJo f) s Q hm I1 s2 Q2 hm2 I2 := Sm_mono S2 (fun o ho => by unfold PJo PH at ho; omega)
  have q43 : Q2 43 = Q 43 := (Lay_fr (a := 43) L S2 (by decide) (by omega)).1
  have hb2 : ∀ b, Q2 43 0 = some b → 153 ≤ b ∧ Ce s2 hm2 b 1 4000 560 := fun y hy => by
    rw [q43] at hy
    obtain ⟨y1, y2⟩ := hb y hy
    exact ⟨y1, (Ce_fr S2 y2 (by omega)).1⟩
  have C2 := MkP_j C1 S2' L2 F2 hb2 (⟨fun _ _ _ _ _ _ => rfl, fun _ _ => rfl⟩ : MI m1 m1)
  have e71 : I2 71 = I1 71 := (Lay_fr (a := 71) L S2 (by decide) (by omega)).2
  have e70 : I2 70 = I1 70 := (Lay_fr (a := 70) L S2 (by decide) (by omega)).2
  obtain ⟨d, hd⟩ : ∃ d, m1 82 2 = d := ⟨_, rfl⟩
  have R0 : PlR s2 Q2 hm2 I2 m1 a f w h T T d (m1 121) := by
    refine ⟨⟨C2, rdy, rfl⟩, fun j j0 j1 => Or.inl (by rw [e71]; exact i71 j j0 j1), fun p p0 p1 => ?_, fun p p0 p1 => absurd p1 (by omega), ⟨hd, by rw [om 76 (by decide)]; exact h7⟩, fun j j0 j1 => by rw [e71]; exact i71 j (by omega) j1⟩
    rw [show p = T by omega, e70, i70, hm1, jms_e]
    omega
  have step : ∀ (t : Nat) (u : Int × jH) (v : Int × jM), t ≤ T.toNat → (∃ (S : hS) (R : hQ) (H : hO) (J m' : jM), u = (T - 1 - (t : Int), hh S R J) ∧ v = (T - 1 - (t : Int), m') ∧ PlE s2 Q2 hm2 I2 m1 a f S R H J m' ∧ PlR S R H J m' a f w h T (T - (t : Int)) d (m1 121)) → (∃ u' v', (fun u : (Int × jH) => jd_62_s64 42 (some a) u.1 u.2) u = some (.inl u') ∧ (fun u : (Int × jM) => jd_299_s17 u.1 u.2) v = some (.inl v') ∧ t < T.toNat ∧ (∃ (S : hS) (R : hQ) (H : hO) (J m' : jM), u' = (T - 1 - ((t + 1 : Nat) : Int), hh S R J) ∧ v' = (T - 1 - ((t + 1 : Nat) : Int), m') ∧ PlE s2 Q2 hm2 I2 m1 a f S R H J m' ∧ PlR S R H J m' a f w h T (T - ((t + 1 : Nat) : Int)) d (m1 121))) ∨ (∃ x y, (fun u : (Int × jH) => jd_62_s64 42 (some a) u.1 u.2) u = some (.inr x) ∧ (fun u : (Int × jM) => jd_299_s17 u.1 u.2) v = some (.inr y) ∧ ∃ (S : hS) (R : hQ) (H : hO) (J : jM), x = hh S R J ∧ PlE s2 Q2 hm2 I2 m1 a f S R H J y ∧ PlR S R H J y a f w h T 0 d (m1 121)) := by
    intro t u v ht Y
    obtain ⟨S, R, H, J, m', rfl, rfl, E, P⟩ := Y
    dsimp only
    by_cases c : t = T.toNat
    · have et : T - 1 - (t : Int) = -1 := by omega
      rw [et]
      rw [show T - (t : Int) = 0 by omega] at P
      refine Or.inr ⟨hh S R J, m', ?_, ?_, S, R, H, J, rfl, E, P⟩
      · unfold jd_62_s64
        rw [if_pos (by decide)]
      · unfold jd_299_s17
        rw [if_pos (by decide)]
    · have g6 : S.1 + 14 < 1000000 := by
        have := E.2.2.2.2.1
        have := nW_le (Q := R)
        omega
      rw [show T - (t : Int) = T - 1 - (t : Int) + 1 by omega] at P
      obtain ⟨S3, R3, H3, J3, m3, d1, d2, E3, P3⟩ := pl_p P (by omega) (by omega) g6
      rw [show T - 1 - (t : Int) + -1 = T - 1 - ((t + 1 : Nat) : Int) by omega] at d1 d2
      exact Or.inl ⟨_, _, d1, d2, by omega, S3, R3, H3, J3, m3, rfl, rfl, PlE_t E E3, by rw [show T - ((t + 1 : Nat) : Int) = T - 1 - (t : Int) by omega]; exact P3⟩
  obtain ⟨x, y, l1, l2, S, R, H, J, hx, E, ⟨⟨D, -, -⟩, -, -, r3, -, -⟩⟩ := w_lp2 (f := fun u : (Int × jH) => jd_62_s64 42 (some a) u.1 u.2) (g := fun u : (Int × jM) => jd_299_s17 u.1 u.2) (Q := fun x y => ∃ (S : hS) (R : hQ) (H : hO) (J : jM), x = hh S R J ∧ PlE s2 Q2 hm2 I2 m1 a f S R H J y ∧ PlR S R H J y a f w h T 0 d (m1 121)) (fun t u v => ∃ (S : hS) (R : hQ) (H : hO) (J m' : jM), u = (T - 1 - (t : Int), hh S R J) ∧ v = (T - 1 - (t : Int), m') ∧ PlE s2 Q2 hm2 I2 m1 a f S R H J m' ∧ PlR S R H J m' a f w h T (T - (t : Int)) d (m1 121)) T.toNat step (n_fu (by omega)) (n_fu (by omega)) (s0 := (T - 1, hh s2 Q2 I2)) (t0 := (T - 1, m1)) ⟨s2, Q2, hm2, I2, m1, by rw [show T - 1 - ((0 : Nat) : Int) = T - 1 by omega], by rw [show T - 1 - ((0 : Nat) : Int) = T - 1 by omega], PlE_0 L2 F2, by rw [show T - ((0 : Nat) : Int) = T by omega]; exact R0⟩
  rw [hx] at l1
  have gw := E.2.2.2
  refine ⟨S, R, H, J, y, ?_, ?_, D, fun p p0 p1 => (r3 p p0 p1).1, fun p p0 p1 => (r3 p p0 p1).2, Sm_trans S1 (Sm_trans S2' E.2.1), ⟨fun c c1 c2 c3 c4 c5 => (E.2.2.1.1 c c1 c2 c3 c4 c5).trans (om c c4), fun z hz => by rw [E.2.2.1.2 z hz, om 76 (by decide)]⟩, ?_⟩
  · have t8 : Q 42 ((8 : Nat) : Int) = some 70 := Lq L rfl
    have t4 : Q 42 ((4 : Nat) : Int) = some 68 := Lq L rfl
    have i5' : I 42 ((5 : Nat) : Int) = T := i5
    have j5' : I1 42 ((5 : Nat) : Int) = T := j5
    have n5' : I2 42 ((5 : Nat) : Int) = T := C2.2.2.2.1.2.2.1
    have w0' : I1 src ((0 : Nat) : Int) = w := w0
    have h0' : I1 src ((1 : Nat) : Int) = h := h0
    have em := c_62m (I := jms I 70 T 0) (x1 := some a) L
    rw [← hI1] at em
    unfold jd_62 jd_62_l64
    rw [y_gr L 42 4 rfl rfl, Option.bind_some, y_gi L 42 4 rfl rfl, Option.bind_some, i5', t8, Option.bind_some, y_ta L 70 0 13 rfl rfl rfl (by omega) (by omega), Option.bind_some, em, Option.bind_some, y_gr L 42 4 rfl rfl, Option.bind_some, t4, Option.bind_some, y_ar L 68 6 12 rfl rfl rfl (by decide) (by decide), Option.bind_some, r68, Option.bind_some, x_gi P0.2.1.1 P0.2.1.2.1, Option.bind_some, w0', Option.bind_some, Option.bind_some, y_ar L 68 6 12 rfl rfl rfl (by decide) (by decide), Option.bind_some, r68, Option.bind_some, x_gi P0.2.1.1 P0.2.1.2.1, Option.bind_some, h0', y_gi L 42 4 rfl rfl, Option.bind_some, j5', Option.bind_some, F_ck F, Option.bind_some, e28, Option.bind_some, y_gi L2 42 4 rfl rfl, Option.bind_some, n5', l1, Option.bind_some]
  · have n7 : m1 76 7 = T := by rw [om 76 (by decide)]; exact h7
    unfold jd_299 jd_299_l17
    rw [h7, y_mw 129 13 rfl rfl (by omega) (by omega), Option.bind_some, ← hm1, n7, l2, Option.bind_some]
  · have hw := nW_le (Q := R)
    have q1 := gw.2.1
    have q2 := gw.2.2
    constructor
    · omega
    · omega
end PlanA
