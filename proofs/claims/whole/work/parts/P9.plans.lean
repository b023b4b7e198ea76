/-! planning: one picture of a tried group, both sides -/
section PlanS
variable {s s' : hS} {Q Q' : hQ} {hm hm' : hO} {I I' m m' m1 : jM} {a p src : Nat} {f w h T q n d k sum kn z st : Int} {X : Int → Int}
def PlF (s : hS) (Q : hQ) (hm : hO) (I m : jM) (a : Nat) (f : Int) (S : hS) (R : hQ) (H : hO) (J m' : jM) : Prop := (Lay S R H ∧ FilmAt S R H a f) ∧ Sm (PH f) s Q hm I S R H J ∧ MG m m' ∧ Gw s Q S R
theorem PlF_t {s2 : hS} {Q2 : hQ} {hm2 : hO} {I2 m2 : jM} (A : PlF s Q hm I m a f s' Q' hm' I' m') (B : PlF s' Q' hm' I' m' a f s2 Q2 hm2 I2 m2) : PlF s Q hm I m a f s2 Q2 hm2 I2 m2 := ⟨B.1, Sm_trans A.2.1 B.2.1, MG_t A.2.2.1 B.2.2.1, Gw_t A.2.2.2 B.2.2.2⟩
theorem k_294p (m35 : m 76 35 = n) (n4 : n ≤ 4) (k0 : 0 ≤ k) (k1 : k < n) (z0 : 0 ≤ z) (z1 : z ≤ 4000) (e : jd_291 k st m = some (z, m1)) : jd_294_s42 q (-1) st 0 k m = some (.inl (k + 1, jms m1 76 83 (m1 76 83 + (5 + z)))) := by
  unfold jd_294_s42
  rw [m35, n_jw (z := n) (by omega) (by omega), n_jw (z := k) (by omega) (by omega), if_neg (by omega), e, Option.bind_some, if_pos (show jw 0 = 0 by decide)]
  unfold jd_294_b179 jd_294_b207 jd_294_b352
  rw [Option.bind_some, if_pos (show jw (-1) = -1 by decide), if_pos (show jw (-1) = -1 by decide)]
  by_cases c : jw z ≤ 2000
  · rw [if_pos c]
  · rw [if_neg c]
theorem pl_k (Z : PlK s Q hm I m a f w h T q n d k sum kn X) (k0 : 0 ≤ k) (k1 : k < n) (z0 : 0 ≤ z) (z1 : z ≤ 3826) (M : MFp m m1 k (m 82 4)) (Sk : Smp w h (Vp Q' I' a k) m1 k) (P' : MkP s' Q' hm' I' (jms m1 76 83 (sum + (5 + z))) a f w h T 0) (Ry : Rdy Q' I' a w h T) (r1 : I' (a + 1) = I (a + 1)) (r2 : I' (a + 2) = I (a + 2)) (vj : ∀ j : Int, 0 ≤ j → j < k → Vp Q' I' a j = Vp Q I a j) (kp : ∀ j : Int, 0 ≤ j → j ≤ k → Kpt Q' I' a w h (m 82 3) (m 82 4) q n d X j) (kn' : Int) (hkn : kn' = 0 ∨ (kn' = 1 ∧ (∀ j : Int, k + 1 ≤ j → j < n - 1 → Kpt Q' I' a w h (m 82 3) (m 82 4) q (n - 1) d X j ∧ (0 ≤ kkG (n - 1) d j ∧ kkG (n - 1) d j ≤ 2 ∧ 0 ≤ ssG (n - 1) d j ∧ ssG (n - 1) d j ≤ 12)) ∧ (∀ j : Int, 0 ≤ j → j < k + 1 → kkG (n - 1) d j = kkG n d j ∧ ssG (n - 1) d j = ssG n d j) ∧ k + 1 ≤ n - 1 ∧ Stl (I' 71 (n - 1)) q d (n - 1))) (s4 : ∀ j : Int, n ≤ j → j < 4 → I' 71 j = I 71 j) : PlK s' Q' hm' I' (jms m1 76 83 (sum + (5 + z))) a f w h T q n d (k + 1) (sum + (5 + z)) kn' X := by
  obtain ⟨⟨⟨-, -, ⟨-, -, -, sw, sh⟩, -⟩, -, c121⟩, hq, G, ⟨m35, m36, m83, u0, u1⟩, hj, hk, -, hst⟩ := Z
  obtain ⟨a1, a2, a3, a4, a5, -, -⟩ := M
  obtain ⟨m2, hm2⟩ : ∃ y, y = jms m1 76 83 (sum + (5 + z)) := ⟨_, rfl⟩
  rw [← hm2] at P' ⊢
  have o2 : ∀ c : Nat, c ≠ 76 → m2 c = m1 c := fun c hc => by rw [hm2, jms_o hc]
  have z2 : ∀ y : Int, y ≠ 83 → m2 76 y = m1 76 y := fun y hy => by rw [hm2, jms_i hy]
  have e82 : m2 82 = m 82 := by rw [o2 82 (by decide), a1 82 (by decide) (by decide) (by decide) (by decide) (by decide)]
  have e102 : m2 102 = m 102 := by rw [o2 102 (by decide), a1 102 (by decide) (by decide) (by decide) (by decide) (by decide)]
  have e103 : m2 103 = m 103 := by rw [o2 103 (by decide), a1 103 (by decide) (by decide) (by decide) (by decide) (by decide)]
  have e121 : m2 121 = m 121 := by rw [o2 121 (by decide), a1 121 (by decide) (by decide) (by decide) (by decide) (by decide)]
  have e109 : m2 109 = m1 109 := o2 109 (by decide)
  refine ⟨⟨P', Ry, by rw [e121]; exact c121⟩, hq, G, ⟨by rw [z2 35 (by decide), a2 35 (by decide) (by decide) (by decide)]; exact m35, by rw [z2 36 (by decide), a2 36 (by decide) (by decide) (by decide)]; exact m36, by rw [hm2, jms_e], by omega, by omega⟩, fun j j0 j1 => by rw [e102, e103, r1, r2]; exact hj j j0 j1, fun j j0 j1 => ?_, by rw [e82]; exact hkn, fun j j0 j1 => by rw [s4 j j0 j1]; exact hst j j0 j1⟩
  rw [e82]
  refine ⟨?_, kp j j0 (by omega)⟩
  by_cases c : j = k
  · rw [c]
    exact Smp_m sw sh (fun i _ _ => by rw [e109]) Sk
  · rw [vj j j0 (by omega)]
    exact Smp_m sw sh (fun i i0 i1 => by rw [e109, a5 i (Or.inl (by omega))]) (hk j j0 (by omega)).1
theorem pl_s (Z : PlK s Q hm I m a f w h T q n d k sum kn X) (k0 : 0 ≤ k) (k1 : k < n) (h6 : s.1 + 8 < 1000000) : ∃ (S : hS) (R : hQ) (H : hO) (J m' : jM) (sum' kn' : Int), PlF s Q hm I m a f S R H J m' ∧ jd_63_s22 42 (some a) n kn sum k (hh s Q I) = some (.inl (kn', sum', k + 1, hh S R J)) ∧ jd_294_s42 q (-1) (m 82 4) 0 k m = some (.inl (k + 1, m')) ∧ PlK S R H J m' a f w h T q n d (k + 1) sum' kn' X ∧ ∀ j : Int, n ≤ j → J 71 j = I 71 j := by
  obtain ⟨⟨⟨⟨L, F, f0, f8⟩, hb, ⟨m32, m33, m34, sw, sh⟩, ⟨T1, T2, i5, q6⟩, c5, c6⟩, c8, c121⟩, ⟨q0, n1, n4, qn⟩, G, ⟨m35, m36, m83, u0, u1⟩, hj, hk, hkn, hst⟩ := id Z
  obtain ⟨b1, b2, b3, b4⟩ := hj k k0 k1
  obtain ⟨g1, g2, g3, g4⟩ := LG_k G k0 k1
  have h6' : s.1 ≤ 1000000 := by omega
  have so4 : 1 ≤ m 82 4 ∧ m 82 4 ≤ 31 := by
    rcases (c5 4 (by decide) (by decide)).2 with ⟨e, -⟩ | e
    · exact absurd e (by decide)
    · exact e
  have q7 := F_q F 0 7 rfl rfl
  have q8 := F_q F 1 8 rfl rfl
  have q10 := F_q F 3 10 rfl rfl
  have t9 : Q 42 ((9 : Nat) : Int) = some 71 := Lq L rfl
  have v1 : I (a + (0 + 1)) k = kkG n d k := b3
  have v2 : I (a + (1 + 1)) k = q + ssG n d k := b4
  have mkk : 3 * (q + ssG n d k) + kkG n d k = mkG q n d k := rfl
  have mb : 0 ≤ mkG q n d k ∧ mkG q n d k ≤ 100 := by unfold mkG; omega
  -- is it known?
  obtain ⟨y0, hy0, ey⟩ : ∃ y0 : Int, (y0 = if kn = 1 ∧ I 71 k = mkG q n d k then 1 else 0) ∧ jd_63_s22 42 (some a) n kn sum k (hh s Q I) = jd_63_b69 42 (some a) n sum k (mkG q n d k) y0 (hh s Q I) := by
    refine ⟨_, rfl, ?_⟩
    unfold jd_63_s22
    rw [n_jw (z := n) (by omega) (by omega), n_jw (z := k) (by omega) (by omega), if_neg (by omega), Option.bind_some, F_gr F, Option.bind_some, q8, Option.bind_some, F_ai F h6' (1 + 1) 12 rfl rfl rfl k0 (by omega), Option.bind_some, v2, Option.bind_some, F_gr F, Option.bind_some, q7, Option.bind_some, F_ai F h6' (0 + 1) 12 rfl rfl rfl k0 (by omega), Option.bind_some, v1, mkk]
    rcases id hkn with e | ⟨e, -⟩
    · rw [e, if_pos (show jw 0 = 0 by decide), if_neg (fun h => absurd h.1 (by decide))]
    · have ok71 : I 71 k = -1 ∨ (0 ≤ I 71 k ∧ I 71 k ≤ 1000) := by
        rcases hkn with e' | ⟨-, d1, d2, d3, d4⟩
        · omega
        · by_cases c : k = n - 1
          · rw [← c] at d4
            rcases d4 with d4 | ⟨n', x1, x2, x3, x4⟩
            · exact Or.inl d4
            · obtain ⟨y1, y2, y3, y4⟩ := LG_k x4 k0 x1
              right
              rw [x3]
              unfold mkG
              omega
          · obtain ⟨⟨x1, -, x3⟩, x2⟩ := d1 k (Int.le_refl _) (by omega)
            right
            rw [x1]
            unfold mkG
            omega
      rw [e, if_neg (show ¬ jw 1 = 0 by decide), y_gr L 42 4 rfl rfl, Option.bind_some, t9, Option.bind_some, y_ai L h6' 71 4 rfl rfl rfl k0 (by omega), Option.bind_some, n_jw (z := I 71 k) (by omega) (by omega), n_jw (z := mkG q n d k) (by omega) (by omega)]
      by_cases c : I 71 k = mkG q n d k
      · rw [if_pos c, if_pos ⟨rfl, c⟩]
      · rw [if_neg c, if_neg (fun h => c h.2)]
  rw [ey]
  by_cases c : kn = 1 ∧ I 71 k = mkG q n d k
  · -- known
    rw [if_pos c] at hy0
    obtain ⟨d1, d2, d3, d4⟩ : (∀ j : Int, k ≤ j → j < n - 1 → Kpt Q I a w h (m 82 3) (m 82 4) q (n - 1) d X j ∧ (0 ≤ kkG (n - 1) d j ∧ kkG (n - 1) d j ≤ 2 ∧ 0 ≤ ssG (n - 1) d j ∧ ssG (n - 1) d j ≤ 12)) ∧ (∀ j : Int, 0 ≤ j → j < k → kkG (n - 1) d j = kkG n d j ∧ ssG (n - 1) d j = ssG n d j) ∧ k ≤ n - 1 ∧ Stl (I 71 (n - 1)) q d (n - 1) := by
      rcases hkn with e | ⟨-, e⟩
      · omega
      · exact e
    have kn1 : k < n - 1 := by
      by_cases e : k = n - 1
      · rw [← e] at d4
        have := Stl_n (v := I 71 k) G q0 n1 (by omega) (by rw [← e]; exact d4)
        rw [← e] at this
        exact absurd c.2 this
      · omega
    obtain ⟨⟨x1, x2, x3⟩, x4, x5, x6, x7⟩ := d1 k (Int.le_refl _) kn1
    have ee : kkG (n - 1) d k = kkG n d k ∧ ssG (n - 1) d k = ssG n d k := by
      have := x1.symm.trans c.2
      unfold mkG at this
      omega
    have d2' : ∀ j : Int, 0 ≤ j → j < k + 1 → kkG (n - 1) d j = kkG n d j ∧ ssG (n - 1) d j = ssG n d j := fun j j0 j1 => by
      by_cases e : j = k
      · rw [e]; exact ee
      · exact d2 j j0 (by omega)
    have R : Rgt w h (m 82 3) (m 82 4) (kkG n d) (fun i => q + ssG n d i) X (Vp Q I a) k (I (a + 4) k) := Rgt_c k0 (fun j j0 j1 => (d2' j j0 (by omega)).1.symm) (by rw [ee.2]) (fun _ _ _ => rfl) x3
    obtain ⟨m1, e291, Sk, M⟩ := R m ⟨⟨m32, m33, m34, m36⟩, fun j j0 j1 => (hj j j0 (by omega)).1, b2, rfl, c121⟩ (fun j j0 j1 => (hk j j0 j1).1)
    obtain ⟨z, hz⟩ : ∃ z, I (a + 4) k = z := ⟨_, rfl⟩
    rw [hz] at x2 e291 R
    have mg1 : MG m m1 := MFq_G (MFq_p M)
    have mg : MG m (jms m1 76 83 (sum + (5 + z))) := MG_t mg1 ⟨fun y y1 _ _ => jms_o y1, fun y hy => jms_i (by omega)⟩
    have m183 : m1 76 83 = sum := by rw [M.2.1 83 (by decide) (by decide) (by decide)]; exact m83
    have em := k_294p (q := q) m35 n4 k0 k1 x2.1 (by omega) e291
    rw [m183] at em
    refine ⟨s, Q, hm, I, _, sum + (5 + z), 1, ⟨⟨L, F⟩, Sm_refl, mg, Gw_refl⟩, ?_, em, pl_k Z k0 k1 x2.1 x2.2 M Sk (MkP_h Z.1.1 Sm_refl L F hb mg) c8 rfl rfl (fun _ _ _ => rfl) (fun j j0 j1 => ?_) 1 (Or.inr ⟨rfl, fun j j0 j1 => d1 j (by omega) j1, d2', by omega, d4⟩) (fun _ _ _ => rfl), fun _ _ => rfl⟩
    · have zz : I (a + (3 + 1)) k = z := hz
      rw [hy0]
      unfold jd_63_b69 jd_63_b138
      rw [if_neg (show ¬ jw 1 = 0 by decide), Option.bind_some, F_gr F, Option.bind_some, q10, Option.bind_some, F_ai F h6' (3 + 1) 12 rfl rfl rfl k0 (by omega), Option.bind_some, zz]
    · by_cases e : j = k
      · rw [e]
        exact ⟨c.2, by rw [hz]; exact x2, by rw [hz]; exact R⟩
      · exact (hk j j0 (by omega)).2
  · -- coded anew
    rw [if_neg c] at hy0
    obtain ⟨p, src, qp, q68, pl, X0⟩ := PKm_p Z k0 k1
    obtain ⟨S, R, H, J1, m1, b, nb, e1, e2, L1, X1, D1, S1, ip, M1, G1, RG⟩ := pic_r (st := m 82 4) L (by omega) hb X0 so4.1 so4.2
    obtain ⟨z, hz⟩ : ∃ z, (nb + 7) / 8 = z := ⟨_, rfl⟩
    rw [hz] at e1 e2 RG
    have zb : 0 ≤ z ∧ z ≤ 3826 := by have := D1.2.1; omega
    have F1 := X1.1
    have a153 := F.1
    obtain ⟨J, hJ⟩ : ∃ y, y = jms (jms J1 (a + 4) k z) 71 k (mkG q n d k) := ⟨_, rfl⟩
    have jo : ∀ x : Nat, x ≠ a + 4 → x ≠ 71 → J x = J1 x := fun x x1 x2 => by rw [hJ, jms_o x2, jms_o x1]
    have pf5 : PFp (200 + 12 * f + k) (500 + f) := ⟨by omega, by omega, by omega⟩
    have cj : ∀ j : Nat, j < 13 → R (a + j) = Q (a + j) ∧ J1 (a + j) = I (a + j) := fun j hj => (Ce_fr S1 (F.2.1 j hj) pf5).2
    have t71 := Lay_fr (a := 71) L S1 (by decide) (show PFp (200 + 12 * f + k) (1000 + ((71 : Nat) : Int)) from ⟨by omega, by omega, by omega⟩)
    have S2 : Sm (PH f) s Q hm I S R H J := by
      rw [hJ]
      exact Sm_trans (Sm_mono S1 (fun o ho => by unfold PH at ho; exact ⟨by omega, by omega, by omega⟩)) (Sm_trans (Sm_jms (by rw [(F1.2.1 4 (by decide)).2.2.2]; unfold PH; omega)) (Sm_jms (by rw [Lo L1 rfl]; unfold PH; omega)))
    have mg1 : MG m m1 := MFq_G (MFq_p M1)
    have mg : MG m (jms m1 76 83 (sum + (5 + z))) := MG_t mg1 ⟨fun y y1 _ _ => jms_o y1, fun y hy => jms_i (by omega)⟩
    have m183 : m1 76 83 = sum := by rw [M1.2.1 83 (by decide) (by decide) (by decide)]; exact m83
    have em := k_294p (q := q) m35 n4 k0 k1 zb.1 (by omega) e2
    rw [m183] at em
    -- a slot's cells
    have sl : ∀ (j : Int) (y : Nat), 0 ≤ j → j < 12 → Q (a + 9) j = some y → J y = I y ∧ J (y + 1) = J1 (y + 1) ∧ (j ≠ k → J (y + 1) = I (y + 1)) := fun j y j0 j1 hy => by
      have A := F.2.2.2.2 j j0 j1 y hy
      have A1 := F1.2.2.2.2 j j0 j1 y (by rw [(cj 9 (by decide)).1]; exact hy)
      have w1 : y ≠ a + 4 := fun e => by
        have := A.2.1.2.2.2
        rw [e, (F.2.1 4 (by decide)).2.2.2] at this
        omega
      have w2 : y + 1 ≠ a + 4 := fun e => by
        have := A.2.2.1.2.2.2
        rw [e, (F.2.1 4 (by decide)).2.2.2] at this
        omega
      have y153 := A.1
      rw [jo y w1 (by omega), jo (y + 1) w2 (by omega)]
      by_cases e : j = k
      · have : y = p := by
          rw [e, qp] at hy
          cases hy
          rfl
        rw [this]
        exact ⟨ip, rfl, fun h => absurd e h⟩
      · obtain ⟨-, t1, t2⟩ := PicAt_fr S1 A (show PFp (200 + 12 * f + k) (200 + 12 * f + j) from ⟨by omega, by omega, by omega⟩)
        exact ⟨t1, rfl, fun _ => t2⟩
    have ve : ∀ j : Int, 0 ≤ j → j ≤ k → Vp R J a j = Vp R J1 a j := fun j j0 j1 => by
      obtain ⟨y, y1, -⟩ := c8 j j0 (by omega)
      rw [Vp_e (b := y) (by rw [(cj 9 (by decide)).1]; exact y1), Vp_e (b := y) (by rw [(cj 9 (by decide)).1]; exact y1)]
      exact (sl j y j0 (by omega) y1).2.1
    have vj : ∀ j : Int, 0 ≤ j → j < k → Vp R J a j = Vp Q I a j := fun j j0 j1 => by
      obtain ⟨y, y1, -⟩ := c8 j j0 (by omega)
      rw [Vp_e (b := y) (by rw [(cj 9 (by decide)).1]; exact y1), Vp_e (b := y) y1]
      exact (sl j y j0 (by omega) y1).2.2 (by omega)
    have j4 : ∀ j : Int, j ≠ k → J (a + 4) j = I (a + 4) j := fun j hj => by rw [hJ, jms_o (by omega), jms_i hj, (cj 4 (by decide)).2]
    have j4k : J (a + 4) k = z := by rw [hJ, jms_o (by omega), jms_e]
    have j71 : ∀ j : Int, j ≠ k → J 71 j = I 71 j := fun j hj => by rw [hJ, jms_i hj, jms_o (by omega), t71.2]
    have Sk : Smp w h (Vp R J a k) m1 k := by
      rw [Vp_e (b := p) (by rw [(cj 9 (by decide)).1]; exact qp), (sl k p k0 (by omega) qp).2.1]
      exact D1.2.2.1.2.2.2.2.2
    refine ⟨S, R, H, J, _, sum + (5 + z), 0, ⟨⟨L1, F1⟩, S2, mg, G1⟩, ?_, em, pl_k Z k0 k1 zb.1 zb.2 M1 Sk (MkP_h Z.1.1 S2 L1 F1 (MdP_hb D1) mg) (fun j j0 j1 => ?_) (by rw [jo (a + 1) (by omega) (by omega)]; exact (cj 1 (by decide)).2) (by rw [jo (a + 2) (by omega) (by omega)]; exact (cj 2 (by decide)).2) vj (fun j j0 j1 => ?_) 0 (Or.inl rfl) (fun j j0 j1 => j71 j (by omega)), fun j j0 => j71 j (by omega)⟩
    · have t4 : Q 42 ((4 : Nat) : Int) = some 68 := Lq L rfl
      have t1 : Q 42 ((1 : Nat) : Int) = some 44 := Lq L rfl
      have t0 : Q 42 ((0 : Nat) : Int) = some 43 := Lq L rfl
      have t6 : Q 42 ((6 : Nat) : Int) = some 3 := q6
      have t9' : R 42 ((9 : Nat) : Int) = some 71 := Lq L1 rfl
      have r10 := F_q F1 3 10 rfl rfl
      have zz : jms (jms J1 (a + (3 + 1)) k z) 71 k (mkG q n d k) (a + (3 + 1)) k = z := by rw [jms_o (by omega), jms_e]
      have g6 : S.1 ≤ 1000000 := by
        have := G1.2.1
        have := nW_le (Q := R)
        omega
      have i34 : I 3 4 = m 82 4 := (c5 4 (by decide) (by decide)).1
      have i33 : I 3 3 = m 82 3 := (c5 3 (by decide) (by decide)).1
      rw [hy0, hJ]
      unfold jd_63_b69 jd_63_b138
      rw [if_pos (show jw 0 = 0 by decide), y_gr L 42 4 rfl rfl, Option.bind_some, t4, Option.bind_some, F_gr F, Option.bind_some, q8, Option.bind_some, F_ai F h6' (1 + 1) 12 rfl rfl rfl k0 (by omega), Option.bind_some, v2, ← b2, Option.bind_some, y_ar L 68 6 12 rfl rfl rfl (by omega) (by omega), Option.bind_some, q68, y_gr L 42 4 rfl rfl, Option.bind_some, t1, y_gr L 42 4 rfl rfl, Option.bind_some, t0, y_gr L 42 4 rfl rfl, Option.bind_some, t6, Option.bind_some, y_ai L h6' 3 8 rfl rfl rfl (by decide) (by decide), Option.bind_some, i34, Option.bind_some, Option.bind_some, y_ai L h6' 3 8 rfl rfl rfl (by decide) (by decide), Option.bind_some, i33, Option.bind_some, y_ck L 44 1 rfl rfl, Option.bind_some, e1, Option.bind_some, Option.bind_some, F_gr F1, Option.bind_some, r10, Option.bind_some, F_ta F1 (3 + 1) 0 12 rfl rfl rfl k0 (by omega), Option.bind_some, y_gr L1 42 4 rfl rfl, Option.bind_some, t9', Option.bind_some, y_ta L1 71 0 4 rfl rfl rfl k0 (by omega), Option.bind_some, Option.bind_some, F_gr F1, Option.bind_some, r10, Option.bind_some, F_ai F1 g6 (3 + 1) 12 rfl rfl rfl k0 (by omega), Option.bind_some, zz]
    · obtain ⟨y, y1, y2, y3⟩ := c8 j j0 j1
      have := (sl j y j0 (by omega) y1).1
      exact ⟨y, by rw [(cj 9 (by decide)).1]; exact y1, by rw [this]; exact y2, by rw [this]; exact y3⟩
    · by_cases e : j = k
      · rw [e]
        refine ⟨by rw [hJ, jms_e], by rw [j4k]; exact zb, ?_⟩
        rw [j4k]
        rw [c121] at RG
        exact Rgt_c k0 (fun i i0 i1 => (hj i i0 (by omega)).1.symm) b2.symm ve RG
      · obtain ⟨x1, x2, x3⟩ := (hk j j0 (by omega)).2
        refine ⟨by rw [j71 j e]; exact x1, by rw [j4 j e]; exact x2, ?_⟩
        rw [j4 j e]
        exact Rgt_c j0 (fun _ _ _ => rfl) rfl (fun i i0 i1 => vj i i0 (by omega)) x3
end PlanS
