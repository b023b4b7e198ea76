/-! twin -/
theorem first_or (T : Nat → Prop) (n : Nat) : (∀ j, j < n → ¬ T j) ∨ ∃ j, j < n ∧ T j ∧ ∀ i, i < j → ¬ T i := by
  induction n with
  | zero => exact Or.inl (fun j h => absurd h (by omega))
  | succ n ih =>
    rcases ih with h | ⟨j, h1, h2, h3⟩
    · by_cases hn : T n
      · exact Or.inr ⟨n, by omega, hn, h⟩
      · refine Or.inl (fun j hj => ?_)
        by_cases e : j = n
        · subst e
          exact hn
        · exact h j (by omega)
    · exact Or.inr ⟨j, by omega, h2, h3⟩
theorem fld2 {d : Int → Int} {n : Nat} (h : ∀ j : Int, 0 ≤ j → j < n → -255 ≤ d j ∧ d j ≤ 255) : 0 ≤ fld 2 d n 0 ∧ fld 2 d n 0 ≤ n ∧ (fld 2 d n 0 = 0 ↔ ∀ j : Int, 0 ≤ j → j < n → d j = 0) := by
  induction n with
  | zero => exact ⟨by rw [fld_0]; omega, by rw [fld_0]; omega, fun _ j h1 h2 => absurd h2 (by omega), fun _ => rfl⟩
  | succ n ih =>
    obtain ⟨i1, i2, i3⟩ := ih (fun j h1 h2 => h j h1 (by omega))
    have b := h n (by omega) (by omega)
    rw [fld_s]
    unfold dst az
    rw [if_neg (by decide), if_neg (by decide), if_pos (by decide), n_jw (z := d n) (by omega) (by omega)]
    have key : ∀ z : Int, -255 ≤ z → z ≤ 255 → (z = 0 ↔ d n = 0) → 0 ≤ (if jw z = 0 then fld 2 d n 0 + 0 else fld 2 d n 0 + 1) ∧ (if jw z = 0 then fld 2 d n 0 + 0 else fld 2 d n 0 + 1) ≤ ((n + 1 : Nat) : Int) ∧ ((if jw z = 0 then fld 2 d n 0 + 0 else fld 2 d n 0 + 1) = 0 ↔ ∀ j : Int, 0 ≤ j → j < ((n + 1 : Nat) : Int) → d j = 0) := by
      intro z z0 z1 ze
      rw [n_jw (z := z) (by omega) (by omega)]
      by_cases c : z = 0
      · rw [if_pos c]
        refine ⟨by omega, by omega, fun e j h1 h2 => ?_, fun e => ?_⟩
        · by_cases ej : j = n
          · rw [ej]
            exact ze.mp c
          · exact i3.mp (by omega) j h1 (by omega)
        · have := i3.mpr (fun j h1 h2 => e j h1 (by omega))
          omega
      · rw [if_neg c]
        refine ⟨by omega, by omega, fun e => by omega, fun e => ?_⟩
        exact absurd (ze.mpr (e n (by omega) (by omega))) c
    by_cases c : 0 ≤ d n
    · rw [if_pos c]
      exact key _ (by omega) (by omega) (by omega)
    · rw [if_neg c]
      exact key _ (by omega) (by omega) (by omega)
section Twin
variable {s : hS} {Q : hQ} {hm : hO} {I m : jM} {a b : Nat} {f p q t x y w h o o' N : Int} {G G' : Int → Int}
/-- two pictures alike in every sample -/
def PEq (w h : Int) (G G' : Int → Int) : Prop := ∀ p k : Int, 0 ≤ p → p ≤ 2 → 0 ≤ k → k < pw w p * pw h p → G (pf p + k) = G' (pf p + k)
theorem pl_find (sw : isSd w) (sh : isSd h) {i : Int} (i0 : 0 ≤ i) (i1 : i < w * h * 3 / 2) : ∃ p k : Int, 0 ≤ p ∧ p ≤ 2 ∧ 0 ≤ k ∧ k < pw w p * pw h p ∧ i = pb w h p + k := by
  obtain ⟨c0, c1, c2, c3, -⟩ := pl_cat sw sh
  by_cases h1 : i < pb w h 1
  · exact ⟨0, i, by decide, by decide, i0, by omega, by omega⟩
  · by_cases h2 : i < pb w h 2
    · exact ⟨1, i - pb w h 1, by decide, by decide, by omega, by omega, by omega⟩
    · exact ⟨2, i - pb w h 2, by decide, by decide, by omega, by omega, by omega⟩
theorem c_far2 (A : PicAt s Q hm a o) (B : PicAt s Q hm b o') (h6 : s.1 ≤ 1000000) (X : Pix I a w h G) (Y : Pix I b w h G') : ∃ v, jd_105 a (some b) 2 (hh s Q I) = some v ∧ 0 ≤ v ∧ v ≤ 864 ∧ (v = 0 ↔ PEq w h G G') := by
  have tt := pl_tot X.2.2.1 X.2.2.2.1 (show (0 : Int) ≤ 0 by decide) (show (0 : Int) ≤ 2 by decide)
  have f2 := fld2 (d := fun i => I (a + 1) i - I (b + 1) i) (n := (w * h * 3 / 2).toNat) (fun j j0 j1 => by
    obtain ⟨p, k, p0, p2, k0, k1, rfl⟩ := pl_find X.2.2.1 X.2.2.2.1 j0 (by omega)
    have e1 := X.2.2.2.2 p k p0 p2 k0 k1
    have e2 := Y.2.2.2.2 p k p0 p2 k0 k1
    omega)
  refine ⟨fld 2 (fun i => I (a + 1) i - I (b + 1) i) (w * h * 3 / 2).toNat 0, ?_, f2.1, by omega, ?_⟩
  · unfold jd_105 jd_105_b21
    rw [if_neg (by decide), x_ck A.2.1.1 A.2.1.2.1, Option.bind_some, c_99 A.2.1.1 A.2.1.2.1 X.1 X.2.1 X.2.2.1 X.2.2.2.1, Option.bind_some, c_105l A B h6 tt.2.2 tt.2.1, Option.bind_some]
  · rw [f2.2.2]
    constructor
    · intro e p k p0 p2 k0 k1
      have e1 := (X.2.2.2.2 p k p0 p2 k0 k1).1
      have e2 := (Y.2.2.2.2 p k p0 p2 k0 k1).1
      have ps := pl_sz X.2.2.1 X.2.2.2.1 p0 p2
      have pt := pl_tot X.2.2.1 X.2.2.2.1 p0 p2
      have := e (pb w h p + k) (by omega) (by omega)
      omega
    · intro e j j0 j1
      obtain ⟨p, k, p0, p2, k0, k1, rfl⟩ := pl_find X.2.2.1 X.2.2.2.1 j0 (by omega)
      have e1 := (X.2.2.2.2 p k p0 p2 k0 k1).1
      have e2 := (Y.2.2.2.2 p k p0 p2 k0 k1).1
      have := e p k p0 p2 k0 k1
      omega
theorem k_351i {k k' e : Int} (hk : jd_318 f p m = some k) (hk' : jd_318 f q m = some k') (k0 : 0 ≤ k ∧ k < 96) (k1 : 0 ≤ k' ∧ k' < 96) (x0 : 0 ≤ x) (x2 : x ≤ 2) (n0 : 0 ≤ N) (n1 : N ≤ 576) (n2 : pf x + N ≤ 864) (f0 : 0 ≤ pf x) (he : e = 0 ∨ e = 1) (gb : ∀ j : Int, 0 ≤ j → j < N → okI (m 99 (864 * k + (pf x + j))) ∧ okI (m 99 (864 * k' + (pf x + j)))) : ∃ e', jd_351_l40 f p q x N e 0 m = some e' ∧ (e' = 0 ∨ e' = 1) ∧ (e' = 1 ↔ e = 1 ∧ ∀ j : Int, 0 ≤ j → j < N → m 99 (864 * k + (pf x + j)) = m 99 (864 * k' + (pf x + j))) := by
  have hx : okI x := by unfold okI; omega
  unfold jd_351_l40
  refine w_lp (f := fun u : (Int × Int) => jd_351_s40 f p q x N u.1 u.2 m) (Q := fun e' => (e' = 0 ∨ e' = 1) ∧ (e' = 1 ↔ e = 1 ∧ ∀ j : Int, 0 ≤ j → j < N → m 99 (864 * k + (pf x + j)) = m 99 (864 * k' + (pf x + j)))) (fun i u => u.2 = (i : Int) ∧ (u.1 = 0 ∨ u.1 = 1) ∧ (u.1 = 1 ↔ e = 1 ∧ ∀ j : Int, 0 ≤ j → j < i → m 99 (864 * k + (pf x + j)) = m 99 (864 * k' + (pf x + j)))) N.toNat (fun i u hi hI => ?_) (n_fu (n := N.toNat) (by omega)) ⟨rfl, he, fun h => ⟨h, fun j h1 h2 => absurd h2 (by omega)⟩, fun h => h.1⟩
  obtain ⟨u1, u2⟩ := u
  obtain ⟨e2, e1, e3⟩ := hI
  dsimp only at e1 e2 e3 ⊢
  subst e2
  unfold jd_351_s40
  rw [n_jw (z := N) (by omega) (by omega), n_jw (z := (i : Int)) (by omega) (by omega), n_jw (z := u1) (by omega) (by omega)]
  by_cases c : N ≤ (i : Int)
  · rw [if_pos c]
    refine ⟨_, rfl, e1, ?_⟩
    rw [show (i : Int) = N by omega] at e3
    exact e3
  · rw [if_neg c]
    by_cases c2 : u1 = 0
    · rw [if_pos c2]
      refine ⟨_, rfl, e1, ?_⟩
      refine ⟨fun h => by omega, fun h => ?_⟩
      exact e3.mpr ⟨h.1, fun j h1 h2 => h.2 j h1 (by omega)⟩
    · have g := gb i (by omega) (by omega)
      rw [if_neg c2, hk, Option.bind_some, k_207 hx, Int.add_assoc, y_ma 99 82944 rfl rfl (by omega) (by omega), Option.bind_some, hk', Option.bind_some, Int.add_assoc, y_ma 99 82944 rfl rfl (by omega) (by omega), Option.bind_some, n_jw g.1.1 g.1.2, n_jw g.2.1 g.2.2, Option.bind_some]
      refine ⟨_, rfl, by omega, by omega, ?_, ?_⟩
      · dsimp only
        split <;> omega
      · have e3' := e3.mp (by omega)
        dsimp only
        constructor
        · intro hh
          refine ⟨e3'.1, fun j h1 h2 => ?_⟩
          by_cases ej : j = i
          · subst ej
            by_cases cc : m 99 (864 * k + (pf x + (i : Int))) = m 99 (864 * k' + (pf x + (i : Int)))
            · exact cc
            · rw [if_neg cc] at hh
              omega
          · exact e3'.2 j h1 (by omega)
        · intro hh
          rw [if_pos (hh.2 i (by omega) (by omega))]
theorem k_351 {k k' : Int} (hf : 0 ≤ f ∧ f < 8) (hk : jd_318 f p m = some k) (hk' : jd_318 f q m = some k') (k0 : 0 ≤ k ∧ k < 96) (k1 : 0 ≤ k' ∧ k' < 96) (sw : isSd (m 84 f)) (sh : isSd (m 85 f)) (X : Pix I a (m 84 f) (m 85 f) (fun j => m 99 (864 * k + j))) (Y : Pix I b (m 84 f) (m 85 f) (fun j => m 99 (864 * k' + j))) : ∃ e, jd_351 f p q m = some e ∧ (e = 0 ∨ e = 1) ∧ (e = 1 ↔ PEq (m 84 f) (m 85 f) (fun j => m 99 (864 * k + j)) (fun j => m 99 (864 * k' + j))) := by
  have key : ∃ e, jd_351_l6 f p q 1 0 m = some e ∧ (e = 0 ∨ e = 1) ∧ (e = 1 ↔ ∀ x j : Int, 0 ≤ x → x < 3 → 0 ≤ j → j < pw (m 84 f) x * pw (m 85 f) x → m 99 (864 * k + (pf x + j)) = m 99 (864 * k' + (pf x + j))) := by
    unfold jd_351_l6
    refine w_lp (f := fun u : (Int × Int) => jd_351_s6 f p q u.1 u.2 m) (Q := fun e => (e = 0 ∨ e = 1) ∧ (e = 1 ↔ ∀ x j : Int, 0 ≤ x → x < 3 → 0 ≤ j → j < pw (m 84 f) x * pw (m 85 f) x → m 99 (864 * k + (pf x + j)) = m 99 (864 * k' + (pf x + j)))) (fun i u => u.2 = (i : Int) ∧ (u.1 = 0 ∨ u.1 = 1) ∧ (u.1 = 1 ↔ ∀ x j : Int, 0 ≤ x → x < i → 0 ≤ j → j < pw (m 84 f) x * pw (m 85 f) x → m 99 (864 * k + (pf x + j)) = m 99 (864 * k' + (pf x + j)))) 3 (fun i u hi hI => ?_) (n_fu (by decide)) ⟨rfl, Or.inr rfl, fun _ x j h1 h2 => absurd h2 (by omega), fun _ => rfl⟩
    obtain ⟨u1, u2⟩ := u
    obtain ⟨e2, e1, e3⟩ := hI
    dsimp only at e1 e2 e3 ⊢
    subst e2
    unfold jd_351_s6
    rw [n_jw (z := (i : Int)) (by omega) (by omega)]
    by_cases c : 3 ≤ (i : Int)
    · rw [if_pos c]
      refine ⟨_, rfl, e1, ?_⟩
      rw [show (i : Int) = 3 by omega] at e3
      exact e3
    · have hx : okI (i : Int) := by unfold okI; omega
      have ps := pl_sz sw sh (show 0 ≤ (i : Int) by omega) (show (i : Int) ≤ 2 by omega)
      rw [if_neg c, y_ma 84 8 rfl rfl hf.1 (by omega), Option.bind_some, y_ma 85 8 rfl rfl hf.1 (by omega), Option.bind_some, k_206 hx sw, k_206 hx sh, Option.bind_some]
      obtain ⟨e', h1, h2, h3⟩ := k_351i (m := m) (x := (i : Int)) (N := pw (m 84 f) i * pw (m 85 f) i) (e := u1) hk hk' k0 k1 (by omega) (by omega) (by omega) (by omega) (by omega) (by omega) e1 (fun j j0 j1 => by
        have q1 := (X.2.2.2.2 i j (by omega) (by omega) j0 j1).2
        have q2 := (Y.2.2.2.2 i j (by omega) (by omega) j0 j1).2
        dsimp only at q1 q2
        unfold okI
        omega)
      rw [h1, Option.bind_some]
      refine ⟨_, rfl, by omega, by dsimp only; omega, h2, ?_⟩
      dsimp only
      rw [h3, e3]
      constructor
      · rintro ⟨g1, g2⟩ x j x0 x1 j0 j1
        by_cases ex : x = i
        · subst ex
          exact g2 j j0 j1
        · exact g1 x j x0 (by omega) j0 j1
      · intro g
        exact ⟨fun x j x0 x1 j0 j1 => g x j x0 (by omega) j0 j1, fun j j0 j1 => g i j (by omega) (by omega) j0 j1⟩
  obtain ⟨e, h1, h2, h3⟩ := key
  refine ⟨e, ?_, h2, ?_⟩
  · unfold jd_351
    rw [h1, Option.bind_some]
    rcases h2 with rfl | rfl
    · rfl
    · rfl
  · rw [h3]
    constructor
    · intro g p j p0 p2 j0 j1
      exact g p j p0 (by omega) j0 j1
    · intro g x j x0 x1 j0 j1
      exact g x j x0 (by omega) j0 j1
theorem si_twin (R : RelH s Q hm I m) (h6 : s.1 < 1000000) (hf : okI f) (hp : okI p) : SimI (jd_173 0 f p (hh s Q I)) (jd_352 f p m) (fun E => if E = 2 then 1 else 0) s Q I := by
  have L := R.1
  have n8 := R.2.2.2.2.2.1.2.2.1
  obtain ⟨b, hb, hbv⟩ := k_314 R hf hp
  rcases hbv with ⟨c, rfl⟩ | ⟨c, rfl⟩
  · obtain ⟨a, ea, ha, F, C⟩ := c_195 R hf c.1.1 c.1.2
    obtain ⟨k, d, ed, k0, k1, kp, ko, hd, D, X⟩ := c_192 F C (by omega) hp c.2.1 c.2.2
    have n12 := C.2.2.2.1.2.1
    have c1 := c.1
    have c2 := c.2
    have ck := k_318f R C c.1 c.2.1 c.2.2 k0 k1 kp (m' := jms m 76 0 0) rfl
    obtain ⟨T, hT⟩ : ∃ T : Nat → Prop, ∀ j : Nat, (j : Int) < p → ∃ (d' : Nat) (v e : Int), jd_192 (some a) (j : Int) (hh s Q I) = some (.inl d', hh s Q I) ∧ jd_105 d (some d') 2 (hh s Q I) = some v ∧ (0 ≤ v ∧ v ≤ 864) ∧ (v = 0 ↔ T j) ∧ jd_351 f p (j : Int) (jms m 76 0 0) = some e ∧ (e = 0 ∨ e = 1) ∧ (e = 1 ↔ T j) := by
      refine ⟨fun j => ∀ d' v, jd_192 (some a) (j : Int) (hh s Q I) = some (.inl d', hh s Q I) → jd_105 d (some d') 2 (hh s Q I) = some v → v = 0, fun j hj => ?_⟩
      obtain ⟨k', d', ed', k0', k1', kp', ko', hd', D', X'⟩ := c_192 F C (by omega) (p := (j : Int)) (by unfold okI; omega) (by omega) (by omega)
      obtain ⟨v, v1, v2, v3, v4⟩ := c_far2 D D' (by omega) X X'
      have ck' := k_318f R C c.1 (p := (j : Int)) (by omega) (by omega) k0' k1' kp' (m' := jms m 76 0 0) rfl
      obtain ⟨e, e1, e2, e3⟩ := k_351 (m := jms m 76 0 0) (I := I) (a := d) (b := d') ⟨c1.1, by omega⟩ ck ck' (by omega) (by omega) C.2.1.1 C.2.1.2.1 X X'
      have hv : (v = 0 ↔ ∀ d' v, jd_192 (some a) (j : Int) (hh s Q I) = some (.inl d', hh s Q I) → jd_105 d (some d') 2 (hh s Q I) = some v → v = 0) := by
        constructor
        · intro hv d2 v2' g1 g2
          rw [ed'] at g1
          cases g1
          rw [v1] at g2
          cases g2
          exact hv
        · intro g
          exact g d' v ed' v1
      refine ⟨d', v, e, ed', v1, ⟨v2, v3⟩, hv, e1, e2, ?_⟩
      exact e3.trans (v4.symm.trans hv)
    have preC : jd_173 0 f p (hh s Q I) = ((jd_173_l16 0 p (some a) (some d) 0 (hh s Q I)).bind fun x26 => jse x26 (fun y28 => some (.inl y28.1, y28.2)) (fun y29 => some (.inl (-1), y29))) := by
      unfold jd_173
      rw [y_ck L 0 11 rfl rfl, Option.bind_some, ea, b_jtb, ed, b_jtb]
    have preM : jd_352 f p m = ((jd_352_l29 f p 0 (jms m 76 0 0)).bind fun x10 => jse x10 (fun y12 => some (y12, jms m 76 0 0)) (fun y13 => some ((-1), jms m 76 0 0))) := by
      unfold jd_352
      rw [hb, Option.bind_some, if_neg (show ¬ jw 1 = 0 by decide), Option.bind_some, jms_e, if_pos (by decide)]
    have hp' : -2147483648 ≤ p ∧ p < 2147483648 := hp
    have sC : ∀ j : Nat, (j : Int) < p → ¬ T j → jd_173_s16 0 p (some a) (some d) (j : Int) (hh s Q I) = some (.inl ((j : Int) + 1, hh s Q I)) := by
      intro j hj hn
      obtain ⟨d', v, e, g1, g2, g3, g4, -⟩ := hT j hj
      unfold jd_173_s16
      have gj : ∀ (g : Nat → jH → Option ((Int × jH) ⊕ ((Int × jH) ⊕ jH))), jtn (some (Sum.inl d', hh s Q I)) g = g d' (hh s Q I) := fun _ => rfl
      rw [n_jw hp.1 hp.2, n_jw (by omega) (by omega), if_neg (by omega), g1, gj, Option.bind_some, x_ck D.2.1.1 D.2.1.2.1, Option.bind_some, g2, Option.bind_some, n_jw (by omega) (by omega), if_neg (fun e => hn (g4.mp e))]
    have sM : ∀ j : Nat, (j : Int) < p → ¬ T j → jd_352_s29 f p (j : Int) (jms m 76 0 0) = some (.inl ((j : Int) + 1)) := by
      intro j hj hn
      obtain ⟨d', v, e, g1, g2, g3, g4, g5, g6, g7⟩ := hT j hj
      unfold jd_352_s29
      rw [n_jw hp.1 hp.2, n_jw (by omega) (by omega), if_neg (by omega), g5, Option.bind_some, n_jw (by omega) (by omega), if_pos]
      rcases g6 with h | h
      · exact h
      · exact absurd (g7.mp h) hn
    rcases first_or T p.toNat with hno | ⟨j, hj, tj, hno⟩
    · refine SimI_id (v := -1) (b := -1) R ?_ ?_ rfl
      · have : jd_173_l16 0 p (some a) (some d) 0 (hh s Q I) = some (.inr (hh s Q I)) := by
          unfold jd_173_l16
          refine w_for (f := fun u : (Int × jH) => jd_173_s16 0 p (some a) (some d) u.1 u.2) (fun k => ((k : Int), hh s Q I)) p.toNat (fun k hk => ?_) ?_ (n_fu (n := p.toNat) (by omega))
          · exact sC k (by omega) (hno k hk)
          · dsimp only
            unfold jd_173_s16
            rw [n_jw hp.1 hp.2, n_jw (by omega) (by omega), if_pos (by omega)]
        rw [preC, this, Option.bind_some]
        rfl
      · have : jd_352_l29 f p 0 (jms m 76 0 0) = some (.inr ()) := by
          unfold jd_352_l29
          refine w_for (f := fun u : Int => jd_352_s29 f p u (jms m 76 0 0)) (fun k => (k : Int)) p.toNat (fun k hk => ?_) ?_ (n_fu (n := p.toNat) (by omega))
          · exact sM k (by omega) (hno k hk)
          · unfold jd_352_s29
            rw [n_jw hp.1 hp.2, n_jw (by omega) (by omega), if_pos (by omega)]
        rw [preM, this, Option.bind_some]
        rfl
    · obtain ⟨d', v, e, g1, g2, g3, g4, g5, g6, g7⟩ := hT j (by omega)
      refine SimI_id (v := j) (b := j) R ?_ ?_ rfl
      · have : jd_173_l16 0 p (some a) (some d) 0 (hh s Q I) = some (.inl ((j : Int), hh s Q I)) := by
          unfold jd_173_l16
          refine w_for (f := fun u : (Int × jH) => jd_173_s16 0 p (some a) (some d) u.1 u.2) (fun k => ((k : Int), hh s Q I)) j (fun k hk => ?_) ?_ (n_fu (n := j) (by omega))
          · exact sC k (by omega) (hno k hk)
          · dsimp only
            unfold jd_173_s16
            have gj : ∀ (g : Nat → jH → Option ((Int × jH) ⊕ ((Int × jH) ⊕ jH))), jtn (some (Sum.inl d', hh s Q I)) g = g d' (hh s Q I) := fun _ => rfl
            rw [n_jw hp.1 hp.2, n_jw (by omega) (by omega), if_neg (by omega), g1, gj, Option.bind_some, x_ck D.2.1.1 D.2.1.2.1, Option.bind_some, g2, Option.bind_some, n_jw (by omega) (by omega), if_pos (g4.mpr tj)]
        rw [preC, this, Option.bind_some]
        rfl
      · have : jd_352_l29 f p 0 (jms m 76 0 0) = some (.inl (j : Int)) := by
          unfold jd_352_l29
          refine w_for (f := fun u : Int => jd_352_s29 f p u (jms m 76 0 0)) (fun k => (k : Int)) j (fun k hk => ?_) ?_ (n_fu (n := j) (by omega))
          · exact sM k (by omega) (hno k hk)
          · unfold jd_352_s29
            have e1 := g7.mpr tj
            rw [n_jw hp.1 hp.2, n_jw (by omega) (by omega), if_neg (by omega), g5, Option.bind_some, n_jw (by omega) (by omega), if_neg (by omega)]
        rw [preM, this, Option.bind_some]
        rfl
  · refine SimI_th (E := 2) (b := 0) R ?_ ?_ (by decide)
    · unfold jd_173
      rw [y_ck L 0 11 rfl rfl, Option.bind_some]
      by_cases c1 : 0 ≤ f ∧ f < m 76 12
      · obtain ⟨a, ea, ha, F, C⟩ := c_195 R hf c1.1 c1.2
        rw [ea, b_jtb, c_192n F C h6 hp (fun e => c ⟨c1, e⟩), b_jtx]
      · rw [c_195n R h6 hf c1, b_jtx]
    · unfold jd_352
      rw [hb, Option.bind_some, if_pos (show jw 0 = 0 by decide), Option.bind_some, jms_e, if_neg (by decide)]
      rfl
end Twin
