/-! making: a picture made, and made again with a coarser step -/
section AgainM
variable {s s' s2 : hS} {Q Q' Q2 : hQ} {hm hm' hm2 : hO} {I I' I2 m m' m2 : jM} {a p b src : Nat} {f w h g k kd st st' rc os n : Int}
theorem MFp_t (A : MFp m m' k st) (B : MFp m' m2 k st') : MFp m m2 k st' := by
  obtain ⟨a1, a2, a3, a4, a5, a6, a7⟩ := A
  obtain ⟨b1, b2, b3, b4, b5, b6, b7⟩ := B
  exact ⟨fun c c1 c2 c3 c4 c5 => (b1 c c1 c2 c3 c4 c5).trans (a1 c c1 c2 c3 c4 c5), fun z z1 z2 z3 => (b2 z z1 z2 z3).trans (a2 z z1 z2 z3), b3, fun z hz => (b4 z hz).trans (a4 z hz), fun j hj => (b5 j hj).trans (a5 j hj), fun j hj => (b6 j hj).trans (a6 j hj), fun j hj => (b7 j hj).trans (a7 j hj)⟩
theorem PKm_fr (X : PKm s Q hm I m a p src f w h g k kd rc os) (F' : FilmAt s' Q' hm' a f) (S : Sm (PFp (200 + 12 * f + (g + k))) s Q hm I s' Q' hm' I') (ip : I' p = I p) (M : MFp m m' k st) : PKm s' Q' hm' I' m' a p src f w h g k kd rc os := by
  obtain ⟨F, ⟨f0, f7⟩, ⟨m32, mw, mh, m36, sw, sh⟩, ⟨g0, k0, gk, hk⟩, x5, x6, ⟨x7, x7'⟩, x8, ⟨qp, pw0, ph0⟩, ⟨P, ⟨o0, o1⟩, sw0, sh0, p0, p1, px⟩, ⟨r1, r2, r3⟩⟩ := X
  obtain ⟨a1, a2, a3, a4, a5, a6, a7⟩ := M
  have e102 : m' 102 = m 102 := a1 102 (by decide) (by decide) (by decide) (by decide) (by decide)
  have e103 : m' 103 = m 103 := a1 103 (by decide) (by decide) (by decide) (by decide) (by decide)
  have e121 : m' 121 = m 121 := a1 121 (by decide) (by decide) (by decide) (by decide) (by decide)
  have e82 : m' 82 = m 82 := a1 82 (by decide) (by decide) (by decide) (by decide) (by decide)
  have c1 := (Ce_fr S (F.2.1 1 (by decide)) (show PFp (200 + 12 * f + (g + k)) (500 + f) from ⟨by omega, by omega, by omega⟩)).2.2
  have c9 := (Ce_fr S (F.2.1 9 (by decide)) (show PFp (200 + 12 * f + (g + k)) (500 + f) from ⟨by omega, by omega, by omega⟩)).2.1
  obtain ⟨P', i1, i2⟩ := PicAt_fr S P (show PFp (200 + 12 * f + (g + k)) os from ⟨by omega, by omega, by omega⟩)
  refine ⟨F', ⟨f0, f7⟩, ⟨by rw [a2 32 (by decide) (by decide) (by decide)]; exact m32, by rw [a2 33 (by decide) (by decide) (by decide)]; exact mw, by rw [a2 34 (by decide) (by decide) (by decide)]; exact mh, by rw [a2 36 (by decide) (by decide) (by decide)]; exact m36, sw, sh⟩, ⟨g0, k0, gk, by rw [e102]; exact hk⟩, fun j j0 j1 => by rw [c1, e102]; exact x5 j j0 j1, fun j j0 j1 => by rw [c1]; exact x6 j j0 j1, ⟨by rw [e102]; exact x7, by rw [e102]; exact x7'⟩, fun j j0 j1 => ?_, ⟨by rw [c9]; exact qp, by rw [ip]; exact pw0, by rw [ip]; exact ph0⟩, ⟨P', ⟨o0, o1⟩, by rw [i1]; exact sw0, by rw [i1]; exact sh0, by rw [e103]; exact p0, by rw [e103]; exact p1, by rw [e103, e121, i2]; exact px⟩, ⟨by rw [e82]; exact r1, r2, r3⟩⟩
  obtain ⟨b, hb, Rb⟩ := x8 j j0 j1
  obtain ⟨B', j1', j2'⟩ := PicAt_fr S (F.2.2.2.2 (g + j) (by omega) (by omega) b hb) (show PFp (200 + 12 * f + (g + k)) (200 + 12 * f + (g + j)) from ⟨by omega, by omega, by omega⟩)
  exact ⟨b, by rw [c9]; exact hb, RfE_tr Rb (PcC_at B') j1' j2' (fun i i0 i1 => a5 i (Or.inl (by omega))) sw sh⟩
/-- what a made picture is: bits in the writer, samples in the film -/
def MdP (s : hS) (Q : hQ) (hm : hO) (I m : jM) (p b : Nat) (w h k st n : Int) : Prop := (WrT s Q 43 b ∧ 153 ≤ b ∧ Ce s hm b 1 4000 560 ∧ By I b (m 113) n ∧ m 76 53 = n) ∧ (0 ≤ n ∧ n ≤ 30600) ∧ RfE s Q I m p w h k ∧ m 104 k = st
/-- how much is taken: the writer's row -/
def nW (Q : hQ) : Nat := match Q 43 0 with
  | none => 0
  | some _ => 1
theorem nW_0 (h : Q 43 0 = none) : nW Q = 0 := by unfold nW; rw [h]
theorem nW_1 (h : Q 43 0 = some b) : nW Q = 1 := by unfold nW; rw [h]
theorem nW_le : nW Q ≤ 1 := by
  cases h : Q 43 0 with
  | none => rw [nW_0 h]; omega
  | some b => rw [nW_1 h]; omega
def Gw (s : hS) (Q : hQ) (s' : hS) (Q' : hQ) : Prop := s.1 ≤ s'.1 ∧ s'.1 + nW Q ≤ s.1 + nW Q' ∧ s'.2.1 + 4000 * nW Q ≤ s.2.1 + 4000 * nW Q'
theorem Gw_refl : Gw s Q s Q := ⟨Nat.le_refl _, Nat.le_refl _, Nat.le_refl _⟩
theorem Gw_t (A : Gw s Q s' Q') (B : Gw s' Q' s2 Q2) : Gw s Q s2 Q2 := by
  unfold Gw at *
  omega
theorem pic_2 (L : Lay s Q hm) (h6 : s.1 < 1000000) (hb : ∀ b, Q 43 0 = some b → 153 ≤ b ∧ Ce s hm b 1 4000 560) (X : PKm s Q hm I m a p src f w h g k kd rc os) (s0 : 1 ≤ st) (s1 : st ≤ 31) : ∃ (S : hS) (Q1 : hQ) (H : hO) (I1 m1 : jM) (b : Nat) (n : Int), jd_16 44 (some 43) (some a) (g + k) (some src) st rc (hh s Q I) = some ((n + 7) / 8, hh S Q1 I1) ∧ jd_291 k st m = some ((n + 7) / 8, m1) ∧ Lay S Q1 H ∧ PKm S Q1 H I1 m1 a p src f w h g k kd rc os ∧ MdP S Q1 H I1 m1 p b w h k st n ∧ Sm (PFp (200 + 12 * f + (g + k))) s Q hm I S Q1 H I1 ∧ I1 p = I p ∧ MFp m m1 k st ∧ Gw s Q S Q1 := by
  obtain ⟨S, Q1, H, I1, m1, b, n, e1, e2, nn, L1, F1, W1, R1, S1, ip, M1, g1, g2, g3, g4⟩ := pic_m L h6 hb X s0 s1
  refine ⟨S, Q1, H, I1, m1, b, n, e1, e2, L1, PKm_fr X F1 S1 ip M1, ⟨W1, nn, R1, M1.2.2.1⟩, S1, ip, M1, g1, ?_⟩
  rw [nW_1 W1.1.2.2.2]
  cases hq : Q 43 0 with
  | none =>
    rw [nW_0 hq]
    omega
  | some y =>
    rw [nW_1 hq, g4 (by rw [hq]; exact fun e => by cases e)]
    exact ⟨Nat.le_refl _, Nat.le_refl _⟩
theorem MdP_hb (D : MdP s Q hm I m p b w h k st n) : ∀ b, Q 43 0 = some b → 153 ≤ b ∧ Ce s hm b 1 4000 560 := fun c hc => by
  have := D.1.1.2.2.2
  rw [hc] at this
  cases this
  exact ⟨D.1.2.1, D.1.2.2.1⟩
end AgainM
