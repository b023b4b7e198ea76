/-! a parsed film is read by both sides -/
section Laid
variable {s s' : hS} {Q Q' Q2 : hQ} {hm hm' : hO} {I J I' I2 m M m' : jM} {f w h cod T len rt : Int} {W : Int → Int} {pj : Int → Nat} {a b A : Nat}
theorem LpI_sm (L : Lay s Q hm) (F : FilmAt s Q hm a f) (B : LpB s Q hm I m a A w h cod f T len pj) (J : LpI s Q hm I m a w h cod f T pj T Q' I' m') : Sm (PF f) s Q hm I s Q' hm I' := by
  obtain ⟨⟨f0, f8⟩, -, -, ⟨BB, V⟩, -, -, -, pcs, -⟩ := B
  obtain ⟨j1, j2, j3, -⟩ := J
  have t12 : T ≤ 12 := V.2.1
  refine ⟨Nat.le_refl _, fun x _ hx => ?_⟩
  have lo : x < 76 → hm x = 1000 + (x : Int) := fun h => (L.2.1 x h).2.2.2
  unfold PF at hx
  have fa : ∀ j : Nat, j < 13 → x ≠ a + j := fun j hj e => by
    have := (F.2.1 j hj).2.2.2
    rw [← e] at this
    omega
  refine ⟨rfl, rfl, j1 x (fun e => ?_) (fun e => ?_), j3 x ?_ (fa 10 (by decide)) (fa 11 (by decide)) (fa 12 (by decide)) (fun j j0 j1 e => ?_), rfl⟩
  · have := lo (by omega)
    omega
  · have := lo (by omega)
    omega
  · by_cases h7 : x < 76
    · have := lo h7
      omega
    · omega
  · have A := F.2.2.2.2 j j0 (by omega) (pj j) (pcs j j0 j1).1
    have := A.2.2.1.2.2.2
    rw [← e] at this
    omega
theorem Sm_prs (F : FilmAt s Q hm a f) (fr : ∀ c, (c < a ∨ a + 6 < c) → J c = I c) : Sm (PF f) s Q hm I s Q hm (ims J (a + 7) W) := by
  refine Sm_I (fun x _ hx => ?_)
  have nf : ∀ j : Nat, j < 13 → x ≠ a + j := fun j hj e => by
    have := (F.2.1 j hj).2.2.2
    rw [← e] at this
    exact hx.2.2.2.1 this
  rw [ims_o (nf 7 (by decide))]
  have n0 := nf 0 (by decide)
  have n1 := nf 1 (by decide)
  have n2 := nf 2 (by decide)
  have n3 := nf 3 (by decide)
  have n4 := nf 4 (by decide)
  have n5 := nf 5 (by decide)
  have n6 := nf 6 (by decide)
  exact fr x (by omega)
/-- both sides, from the parsed heads on -/
theorem rd_ok (f0 : 0 ≤ f) (f8 : f < 8) (L : Lay s Q hm) (F : FilmAt s Q hm a f) (h6 : s.1 + 24 ≤ 1000000) (Y : BySm s Q I m a b len) (l1 : len ≤ 24067) (kz : ∀ x : Int, 0 ≤ x → x < 12 → I (a + 8) x = 0) (hf : M 76 12 = f) (i8 : I 0 8 = f) (p1 : jd_29 a (hh s Q I) = some (-1, hh s Q J)) (H : Prs I J m M a len) (fr : ∀ c, (c < a ∨ a + 6 < c) → J c = I c) (fr5 : ∀ k : Int, 5 ≤ k → J a k = I a k) (f112 : M 112 = m 112) (f47 : M 76 47 = len) : ∃ (s' : hS) (Q' : hQ) (hm' : hO) (I' m' : jM), jd_197 0 (some a) (hh s Q I) = some (f, hh s' Q' I') ∧ jd_308 M = some (f, m') ∧ Lay s' Q' hm' ∧ FilmAt s' Q' hm' a f ∧ Sm (PF f) s Q hm I s' Q' hm' I' ∧ (∀ y : Int, y ≠ 8 → I' 0 y = I 0 y) ∧ (I' 0 8 = f + 1 ∧ m' 76 12 = f + 1 ∧ FilmC s' Q' I' m' a f) ∧ (∀ j : Int, j ≠ 12 → j < 49 ∨ 69 < j → m' 76 j = M 76 j) ∧ (∀ x : Nat, x < 83 ∨ 120 < x → x ≠ 76 → m' x = M x) ∧ (∀ g : Int, 0 ≤ g → g < f → MF M m' g) ∧ s'.1 ≤ s.1 + 24 ∧ s'.2.1 ≤ s.2.1 + 10404 := by
  have V := Prs_PV H
  have E := Prs_eq H
  obtain ⟨T, cod, w, h, rt, I1, m1, -, -, ⟨g0, g1, g2, g3, g4⟩, ⟨u1, u2, u3, u4, u5⟩, ⟨sw, sh⟩, ⟨rt1, rt2, rt3⟩, t1, t12, c0, c2⟩ := id H
  rw [u1, u4] at V
  rw [u4] at E
  have a153 := F.1
  have vk := V.2.2.2.2.2.2.2
  obtain ⟨W, k1, k2⟩ := c_36 (I := J) F (by omega) g4 t1 t12 (fun j j0 j1 => by rw [(E j j0 j1).2.1]; have := (vk j j0 j1).2.1; omega) (fun j j0 j1 => by rw [(E j j0 j1).1]; exact (vk j j0 j1).1)
  obtain ⟨s1, Q1, hm1, J1, o, O⟩ := c_28 (I := ims J (a + 7) W) (w := w) (h := h) f0 f8 (Int.le_refl 0) (show (0 : Int) ≤ T by omega) t12 L F h6
  have B := LpB_of f0 f8 F Y l1 H fr f112 u1 u2 u3 u4 O
  obtain ⟨o1, o2, o3, o4, o5, o6, o7, o8⟩ := O
  obtain ⟨Q2, J2, M2, r1, r2, X⟩ := read_l o1 (by omega) o2 B
  have X1 := LpI_sm o1 o2 B X
  -- the film's cells
  have fc : ∀ j : Nat, j < 13 → J1 (a + j) = ims J (a + 7) W (a + j) := fun j hj => (o4 (a + j) (F.2.1 j hj).1 (F.2.1 j hj).2.2.2).1
  have fj : ∀ j : Nat, j < 13 → j ≠ 7 → J1 (a + j) = J (a + j) := fun j hj h7 => by rw [fc j hj, ims_o (by omega)]
  have f7 : J1 (a + 7) = W := by rw [fc 7 (by decide), ims_e]
  have ja : J1 a = J a := fj 0 (by decide) (by decide)
  obtain ⟨y1, -, y5, y6, -⟩ := id Y
  obtain ⟨z1, z2, z3, z4, z5, z6⟩ := mHd_v (m := M) (f := f) (n := len)
  have FC := FilmC_of (rt := rt) o2 B X ⟨z1.trans u1, z2.trans u2, z3.trans u3, z4.trans (by rw [f112]; unfold jwb; omega), z5.trans u4, z6⟩ ⟨by rw [ja]; exact g1, by rw [ja]; exact g2, by rw [ja]; exact g3, by rw [ja, fr5 6 (by decide)]; exact y5⟩ ⟨rt1, rt2⟩ (fun j j0 j1 => by
      rw [fj 2 (by decide) (by decide), fj 6 (by decide) (by decide), mHd_o (c := 103) (by omega)]
      exact ⟨(E j j0 j1).2.1, (E j j0 j1).2.2.2.2.2⟩) (fun k k0 k1 => by
      rw [f7, mHd_o (c := 102) (by omega), mHd_o (c := 103) (by omega)]
      obtain ⟨q1, q2⟩ := k2 k k0 k1
      refine ⟨q1, q2.trans ?_⟩
      rw [(E k k0 k1).1, (E k k0 k1).2.1]
      refine ⟨fun h => ⟨h.1, fun j y0 y1 => ?_⟩, fun h => ⟨h.1, fun j y0 y1 => ?_⟩⟩
      · rw [← (E j (by omega) y1).2.1]
        exact h.2 j y0 y1
      · rw [(E j (by omega) y1).2.1]
        exact h.2 j y0 y1) (fun x x0 x1 => by rw [fj 8 (by decide) (by decide), fr (a + 8) (by omega)]; exact kz x x0 x1) (fun i i0 i1 => by rw [mHd_89 i i0 i1, mHd_o (c := 112) (by omega)]) (by
      rw [mHd_o (c := 102) (by omega), mHd_o (c := 103) (by omega), mHd_o (c := 104) (by omega), mHd_o (c := 105) (by omega), mHd_o (c := 106) (by omega), mHd_o (c := 112) (by omega), f112]
      exact V)
  obtain ⟨x1, x2, x3, x4, x5, x6, x7, x8, x9⟩ := id X
  have F2 : FilmAt s1 Q2 hm1 a f := FilmAt_q (fun x hx => x1 x (by omega) (by omega)) o2
  have i0 : J2 0 = I 0 := by
    have c0 := L.2.1 0 (by decide)
    have e := (Ce_fr o3 c0 ⟨by omega, by omega⟩).2.2
    have e1 : J2 0 = J1 0 := x3 0 (by omega) (by omega) (by omega) (by omega) (fun j j0 j1 e => by omega)
    rw [e1, e, ims_o (by omega), fr 0 (by omega)]
  have e8 : J2 0 ((8 : Nat) : Int) = f := by rw [i0]; exact i8
  have n12 : M2 76 12 = f := by rw [x5 12 (by omega), mHd_o (by omega)]; exact hf
  have Sall : Sm (PF f) s Q hm I s1 Q2 hm1 J2 := Sm_trans (Sm_prs F fr) (Sm_trans (Sm_mono o3 (fun o ho => ⟨ho.2.2.2.1, fun e => ho.2.2.2.2.2 (by omega)⟩)) X1)
  have Z : Sm (PF f) s1 Q2 hm1 J2 s1 Q2 hm1 (jms J2 0 8 (f + 1)) := Sm_jms (by rw [Lo x2 rfl]; unfold PF; omega)
  refine ⟨s1, Q2, hm1, jms J2 0 8 (f + 1), jms M2 76 12 (f + 1), ?_, ?_, x2, F2, Sm_trans Sall Z, fun y hy => by rw [jms_i hy, i0], ⟨jms_e, jms_e, ?_⟩, fun j j0 j1 => by rw [jms_i j0, x5 j j1, mHd_o (by omega)], fun x xa xb => by rw [jms_o xb, x4 x xb (by omega), mHd_o (by omega)], fun g g0 gf => ?_, by omega, by omega⟩
  · have w1 : ims J (a + 7) W a ((1 : Nat) : Int) = w := by rw [ims_o (by omega)]; exact g1
    have w2 : ims J (a + 7) W a ((2 : Nat) : Int) = h := by rw [ims_o (by omega)]; exact g2
    have w4 : ims J (a + 7) W a ((4 : Nat) : Int) = T := by rw [ims_o (by omega)]; exact g4
    unfold jd_197
    rw [Option.bind_some, F_ck F, Option.bind_some, p1, Option.bind_some, if_pos (show jw ((-1 : Int), hh s Q J).1 < 0 from (by decide : jw (-1 : Int) < 0)), Option.bind_some, F_ck F, Option.bind_some, k1, Option.bind_some, Option.bind_some, F_gi F, Option.bind_some, w1, Option.bind_some, F_gi F, Option.bind_some, w2, Option.bind_some, F_gi F, Option.bind_some, w4, Option.bind_some, F_ck F, Option.bind_some, o, Option.bind_some, r1, Option.bind_some, y_gi x2 0 11 rfl rfl, Option.bind_some, e8, y_pi x2 0 11 rfl rfl, Option.bind_some]
    rfl
  · rw [k_308h f0 f8 hf f47 y6 (by omega), r2, Option.bind_some, n12]
  · exact FilmC_fr F2 (fun j hj => ⟨rfl, jms_o (by omega)⟩) (fun b hb => ⟨rfl, jms_o (by have := (F2.2.2.2.1 b hb).1; omega)⟩) (fun k k0 k1 p hp => by
      have := (F2.2.2.2.2 k k0 k1 p hp).1
      exact ⟨jms_o (by omega), jms_o (by omega)⟩) (fun x xa xb => jms_o (by omega)) FC
  · have M3 : ∀ x : Nat, x ≠ 76 → jms M2 76 12 (f + 1) x = M2 x := fun x hx => jms_o hx
    refine ⟨fun x xa xb => ?_, fun i i0 i1 => ?_, fun x xa xb k k0 k1 => ?_, fun k j k0 k1 j0 j1 => ?_, fun k j k0 k1 j0 j1 => ?_⟩
    · rw [M3 x (by omega), x4 x (by omega) (by omega), mHd_f (by omega) x xa xb]
    · rw [M3 89 (by decide), x4 89 (by decide) (by omega), mHd_89f (by omega) gf i0 i1]
    · rw [M3 x (by omega), x6 x xa xb _ (by omega), mHd_o (by omega)]
    · rw [M3 99 (by decide), M3 100 (by decide), (x7 _ (by omega)).1, (x7 _ (by omega)).2, mHd_o (c := 99) (by omega), mHd_o (c := 100) (by omega)]
      exact ⟨rfl, rfl⟩
    · rw [M3 101 (by decide), x8 _ (by omega), mHd_o (c := 101) (by omega)]
end Laid
