/-! planning: a group tried, both sides -/
section PlanG
variable {s : hS} {Q : hQ} {hm : hO} {I m : jM} {a : Nat} {f w h T q n d : Int} {X : Int → Int}
/-- between groups that are tried at one place -/
def PlN (s : hS) (Q : hQ) (hm : hO) (I m : jM) (a : Nat) (f w h T q n d : Int) (X : Int → Int) : Prop := (MkP s Q hm I m a f w h T 0 ∧ Rdy Q I a w h T ∧ m 121 = X) ∧ (∀ j : Int, 0 ≤ j → j < n - 1 → Kpt Q I a w h (m 82 3) (m 82 4) q (n - 1) d X j) ∧ ∀ j : Int, n - 1 ≤ j → j < 4 → Stl (I 71 j) q d j
theorem PlK_0 (Z : PlN s Q hm I m a f w h T q n d X) (q0 : 0 ≤ q) (n1 : 1 ≤ n) (n4 : n ≤ 4) (qn : q + n ≤ T) (h6 : s.1 ≤ 1000000) (hd : m 82 2 = d) : ∃ (J M m' : jM), jd_64 (some a) 0 q n d (hh s Q I) = some (hh s Q J) ∧ jd_293 n m = some M ∧ jd_294_l13 q (-1) (m 82 4) 0 0 (jms M 76 83 0) = some m' ∧ PlF s Q hm I m a f s Q hm J m' ∧ PlK s Q hm J m' a f w h T q n d 0 0 1 X ∧ J 71 = I 71 := by
  obtain ⟨⟨C, c8, c121⟩, kp, st⟩ := Z
  obtain ⟨⟨L, F, f0, f8⟩, hb, ⟨m32, m33, m34, sw, sh⟩, ⟨T1, T2, i5, q6⟩, c5, c6⟩ := id C
  have so2 : 0 ≤ m 82 2 ∧ m 82 2 ≤ 2 := by
    rcases (c5 2 (by decide) (by decide)).2 with ⟨e, -⟩ | e
    · exact absurd e (by decide)
    · exact e
  have a153 := F.1
  obtain ⟨J, e1, G, r, fr, -⟩ := lay_c (I := I) (p := 0) (g := q) (n := n) (d := d) F (Int.le_refl _) (by omega) n1 (by omega) (by omega)
  obtain ⟨M, m', e2, e3, ⟨m35, m36, m83⟩, -, hj, r1, r2⟩ := lay_m (m := m) (g := q) (n := n) (d := d) (x3 := -1) (x4 := m 82 4) (x5 := 0) F h6 n1 (by omega) (by omega) (by omega) (Or.inl ⟨by rw [m32]; decide, hd⟩)
  have mg : MG m m' := ⟨fun c c1 c2 c3 => r1 c c1 (by omega) (by omega), fun z hz => r2 z (by omega) (by omega) (by omega)⟩
  have e82 : m' 82 = m 82 := r1 82 (by decide) (by decide) (by decide)
  have S : Sm (PH f) s Q hm I s Q hm J := Sm_I (fun x _ hx => fr x (fun e => by
    rw [e, (F.2.1 1 (by decide)).2.2.2] at hx
    exact hx.2.2.2.1 rfl) (fun e => by
    rw [e, (F.2.1 2 (by decide)).2.2.2] at hx
    exact hx.2.2.2.1 rfl))
  have sl : ∀ (j : Int) (y : Nat), 0 ≤ j → j < 12 → Q (a + 9) j = some y → J y = I y ∧ J (y + 1) = I (y + 1) := fun j y j0 j1 hy => by
    have A := F.2.2.2.2 j j0 j1 y hy
    have w1 : ∀ i : Nat, i < 13 → y ≠ a + i := fun i hi e => by
      have := A.2.1.2.2.2
      rw [e, (F.2.1 i hi).2.2.2] at this
      omega
    have w2 : ∀ i : Nat, i < 13 → y + 1 ≠ a + i := fun i hi e => by
      have := A.2.2.1.2.2.2
      rw [e, (F.2.1 i hi).2.2.2] at this
      omega
    exact ⟨fr y (w1 1 (by decide)) (w1 2 (by decide)), fr (y + 1) (w2 1 (by decide)) (w2 2 (by decide))⟩
  have vj : ∀ j : Int, 0 ≤ j → j < T → Vp Q J a j = Vp Q I a j := fun j j0 j1 => by
    obtain ⟨y, y1, -⟩ := c8 j j0 j1
    rw [Vp_e y1, Vp_e y1]
    exact (sl j y j0 (by omega) y1).2
  have j71 : J 71 = I 71 := fr 71 (by omega) (by omega)
  have j4 : J (a + 4) = I (a + 4) := fr (a + 4) (by omega) (by omega)
  refine ⟨J, M, m', e1, e2, e3, ⟨⟨L, F⟩, S, mg, Gw_refl⟩, ⟨⟨MkP_h C S L F hb mg, fun j j0 j1 => ?_, by rw [r1 121 (by decide) (by decide) (by decide)]; exact c121⟩, ⟨q0, n1, n4, qn⟩, G, ⟨m35, m36, m83, Int.le_refl _, by omega⟩, fun j j0 j1 => ?_, fun j j0 j1 => absurd j1 (by omega), Or.inr ⟨rfl, fun j j0 j1 => ?_, fun j j0 j1 => absurd j1 (by omega), by omega, by rw [j71]; exact st (n - 1) (Int.le_refl _) (by omega)⟩, fun j j0 j1 => by rw [j71]; exact st j (by omega) j1⟩, j71⟩
  · obtain ⟨y, y1, y2, y3⟩ := c8 j j0 j1
    have := (sl j y j0 (by omega) y1).1
    exact ⟨y, y1, by rw [this]; exact y2, by rw [this]; exact y3⟩
  · obtain ⟨t1, t2⟩ := hj j j0 j1
    obtain ⟨t3, t4⟩ := r j j0 j1
    rw [Int.zero_add] at t3 t4
    exact ⟨t1, t2, t3, t4⟩
  · obtain ⟨-, -, G', -⟩ := lay_c (I := I) (p := 0) (g := q) (n := n - 1) (d := d) F (Int.le_refl _) (by omega) (by omega) (by omega) (by omega)
    obtain ⟨z1, z2, z3, z4⟩ := LG_k G' j0 j1
    obtain ⟨x1, x2, x3⟩ := kp j j0 j1
    refine ⟨⟨by rw [j71]; exact x1, by rw [j4]; exact x2, ?_⟩, z1, z2, z3, by omega⟩
    rw [e82, j4]
    exact Rgt_c j0 (fun _ _ _ => rfl) rfl (fun i i0 i1 => vj i i0 (by omega)) x3
theorem pl_n (Z : PlN s Q hm I m a f w h T q n d X) (q0 : 0 ≤ q) (n1 : 1 ≤ n) (n4 : n ≤ 4) (qn : q + n ≤ T) (h6 : s.1 + 12 < 1000000) (hd : m 82 2 = d) : ∃ (S : hS) (R : hQ) (H : hO) (J m' : jM) (sum : Int), jd_63 42 (some a) q n (hh s Q I) = some (sum, hh S R J) ∧ jd_294 q n (-1) (m 82 4) 0 m = some (1, m') ∧ (m' 76 83 = sum ∧ 0 ≤ sum ∧ sum ≤ 3831 * n) ∧ PlF s Q hm I m a f S R H J m' ∧ PlN S R H J m' a f w h T q (n + 1) d X ∧ ∀ j : Int, n ≤ j → J 71 j = I 71 j := by
  obtain ⟨J0, M, m0, e1, e2, e3, F0, K0, s71⟩ := PlK_0 Z q0 n1 n4 qn (by omega) hd
  have e82 : m0 82 = m 82 := F0.2.2.1.1 82 (by decide) (by decide) (by decide)
  obtain ⟨⟨L, F, -, -⟩, -, -, ⟨-, -, -, q6⟩, c5, -⟩ := id Z.1.1
  have step : ∀ (t : Nat) (u : Int × Int × Int × jH) (v : Int × jM), t ≤ n.toNat → (∃ (S : hS) (R : hQ) (H : hO) (J m' : jM) (sum kn : Int), u = (kn, sum, (t : Int), hh S R J) ∧ v = ((t : Int), m') ∧ PlF s Q hm J0 m0 a f S R H J m' ∧ (∀ j : Int, n ≤ j → J 71 j = J0 71 j) ∧ PlK S R H J m' a f w h T q n d (t : Int) sum kn X) → (∃ u' v', (fun u : (Int × Int × Int × jH) => jd_63_s22 42 (some a) n u.1 u.2.1 u.2.2.1 u.2.2.2) u = some (.inl u') ∧ (fun u : (Int × jM) => jd_294_s42 q (-1) (m 82 4) 0 u.1 u.2) v = some (.inl v') ∧ t < n.toNat ∧ (∃ (S : hS) (R : hQ) (H : hO) (J m' : jM) (sum kn : Int), u' = (kn, sum, ((t + 1 : Nat) : Int), hh S R J) ∧ v' = (((t + 1 : Nat) : Int), m') ∧ PlF s Q hm J0 m0 a f S R H J m' ∧ (∀ j : Int, n ≤ j → J 71 j = J0 71 j) ∧ PlK S R H J m' a f w h T q n d ((t + 1 : Nat) : Int) sum kn X)) ∨ (∃ x y, (fun u : (Int × Int × Int × jH) => jd_63_s22 42 (some a) n u.1 u.2.1 u.2.2.1 u.2.2.2) u = some (.inr x) ∧ (fun u : (Int × jM) => jd_294_s42 q (-1) (m 82 4) 0 u.1 u.2) v = some (.inr y) ∧ ∃ (S : hS) (R : hQ) (H : hO) (J m' : jM) (sum kn : Int), x = (sum, hh S R J) ∧ y = .inr (.inr m') ∧ PlF s Q hm J0 m0 a f S R H J m' ∧ (∀ j : Int, n ≤ j → J 71 j = J0 71 j) ∧ PlK S R H J m' a f w h T q n d n sum kn X) := by
    intro t u v ht Y
    obtain ⟨S, R, H, J, m', sum, kn, rfl, rfl, FF, F71, K⟩ := Y
    dsimp only
    have m82 : m' 82 = m 82 := (FF.2.2.1.1 82 (by decide) (by decide) (by decide)).trans e82
    by_cases c : t = n.toNat
    · have et : (t : Int) = n := by omega
      rw [et] at K ⊢
      refine Or.inr ⟨(sum, hh S R J), .inr (.inr m'), ?_, ?_, S, R, H, J, m', sum, kn, rfl, rfl, FF, F71, K⟩
      · unfold jd_63_s22
        rw [if_pos (Int.le_refl _)]
      · unfold jd_294_s42
        rw [K.2.2.2.1.1, if_pos (Int.le_refl _)]
    · have g6 : S.1 + 8 < 1000000 := by
        have := FF.2.2.2.2.1
        have := nW_le (Q := R)
        omega
      obtain ⟨S2, R2, H2, J2, m2, sum2, kn2, FF2, d1, d2, K2, E2⟩ := pl_s K (by omega) (by omega) g6
      rw [m82] at d2
      refine Or.inl ⟨_, _, d1, d2, by omega, S2, R2, H2, J2, m2, sum2, kn2, by rw [show ((t + 1 : Nat) : Int) = (t : Int) + 1 by omega], by rw [show ((t + 1 : Nat) : Int) = (t : Int) + 1 by omega], PlF_t FF FF2, fun j hj => (E2 j hj).trans (F71 j hj), by rw [show ((t + 1 : Nat) : Int) = (t : Int) + 1 by omega]; exact K2⟩
  obtain ⟨x, y, l1, l2, S, R, H, J, m', sum, kn, hx, hy, FF, F71, K⟩ := w_lp2 (f := fun u : (Int × Int × Int × jH) => jd_63_s22 42 (some a) n u.1 u.2.1 u.2.2.1 u.2.2.2) (g := fun u : (Int × jM) => jd_294_s42 q (-1) (m 82 4) 0 u.1 u.2) (Q := fun x y => ∃ (S : hS) (R : hQ) (H : hO) (J m' : jM) (sum kn : Int), x = (sum, hh S R J) ∧ y = .inr (.inr m') ∧ PlF s Q hm J0 m0 a f S R H J m' ∧ (∀ j : Int, n ≤ j → J 71 j = J0 71 j) ∧ PlK S R H J m' a f w h T q n d n sum kn X) (fun t u v => ∃ (S : hS) (R : hQ) (H : hO) (J m' : jM) (sum kn : Int), u = (kn, sum, (t : Int), hh S R J) ∧ v = ((t : Int), m') ∧ PlF s Q hm J0 m0 a f S R H J m' ∧ (∀ j : Int, n ≤ j → J 71 j = J0 71 j) ∧ PlK S R H J m' a f w h T q n d (t : Int) sum kn X) n.toNat step (n_fu (by omega)) (n_fu (by omega)) (s0 := (1, 0, 0, hh s Q J0)) (t0 := (0, m0)) ⟨s, Q, hm, J0, m0, 0, 1, rfl, rfl, ⟨F0.1, Sm_refl, MG_refl, Gw_refl⟩, fun _ _ => rfl, K0⟩
  rw [hx] at l1
  rw [hy] at l2
  obtain ⟨K1, -, -, ⟨k35, k36, k83, ku0, ku1⟩, -, kk, -, kst⟩ := K
  refine ⟨S, R, H, J, m', sum, ?_, ?_, ⟨k83, ku0, ku1⟩, PlF_t F0 FF, ⟨K1, fun j j0 j1 => ?_, fun j j0 j1 => kst j (by omega) j1⟩, fun j hj => by rw [F71 j hj, s71]⟩
  · have t6 : Q 42 ((6 : Nat) : Int) = some 3 := q6
    have i2 : I 3 2 = d := (c5 2 (by decide) (by decide)).1.trans hd
    unfold jd_63 jd_63_l22
    rw [y_gr L 42 4 rfl rfl, Option.bind_some, t6, Option.bind_some, y_ai L (by omega) 3 8 rfl rfl rfl (by decide) (by decide), Option.bind_some, i2, e1, Option.bind_some, l1, Option.bind_some]
  · unfold jd_294 jd_294_l42
    rw [e2, Option.bind_some, Option.bind_some, e3, Option.bind_some, l2, Option.bind_some]
    rfl
  · rw [show n + 1 - 1 = n by omega] at j1 ⊢
    exact (kk j j0 j1).2
end PlanG
