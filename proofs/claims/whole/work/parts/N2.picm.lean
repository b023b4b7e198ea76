/-! making: a whole picture made, both sides -/
section PicW
variable {s s' : hS} {Q Q' : hQ} {hm hm' : hO} {I I' m m' : jM} {a p b src : Nat} {f w h g k kd st rc os : Int}
/-- owners that a picture being made leaves alone -/
def PFp (o1 : Int) : Int → Prop := fun o => ¬ (1043 ≤ o ∧ o ≤ 1060) ∧ o ≠ 560 ∧ o ≠ o1
/-- what it leaves in the model -/
def MFp (m m' : jM) (k st : Int) : Prop := (∀ c : Nat, c ≠ 76 → c ≠ 104 → ¬ (109 ≤ c ∧ c ≤ 111) → ¬ (113 ≤ c ∧ c ≤ 117) → ¬ (122 ≤ c ∧ c ≤ 125) → m' c = m c) ∧ (∀ z : Int, z ≠ 53 → ¬ (59 ≤ z ∧ z ≤ 65) → ¬ (74 ≤ z ∧ z ≤ 77) → m' 76 z = m 76 z) ∧ m' 104 k = st ∧ (∀ z : Int, z ≠ k → m' 104 z = m 104 z) ∧ (∀ j : Int, j < 864 * k ∨ 864 * k + 864 ≤ j → m' 109 j = m 109 j) ∧ (∀ j : Int, j < 864 * k ∨ 864 * k + 864 ≤ j → m' 110 j = m 110 j) ∧ ∀ j : Int, j < 63 * k ∨ 63 * k + 63 ≤ j → m' 111 j = m 111 j
theorem pic_m (L : Lay s Q hm) (h6 : s.1 < 1000000) (hb : ∀ b, Q 43 0 = some b → 153 ≤ b ∧ Ce s hm b 1 4000 560) (X : PKm s Q hm I m a p src f w h g k kd rc os) (s0 : 1 ≤ st) (s1 : st ≤ 31) : ∃ (S : hS) (Q1 : hQ) (H : hO) (I1 m1 : jM) (b : Nat) (n : Int), jd_16 44 (some 43) (some a) (g + k) (some src) st rc (hh s Q I) = some ((n + 7) / 8, hh S Q1 I1) ∧ jd_291 k st m = some ((n + 7) / 8, m1) ∧ (0 ≤ n ∧ n ≤ 30600) ∧ Lay S Q1 H ∧ FilmAt S Q1 H a f ∧ (WrT S Q1 43 b ∧ 153 ≤ b ∧ Ce S H b 1 4000 560 ∧ By I1 b (m1 113) n ∧ m1 76 53 = n) ∧ RfE S Q1 I1 m1 p w h k ∧ Sm (PFp (200 + 12 * f + (g + k))) s Q hm I S Q1 H I1 ∧ I1 p = I p ∧ MFp m m1 k st ∧ s.1 ≤ S.1 ∧ S.1 ≤ s.1 + 1 ∧ S.2.1 ≤ s.2.1 + 4000 ∧ (Q 43 0 ≠ none → S = s) := by
  obtain ⟨S, Q3, H, I3, b, b1, b2, a1, a2, e16, M0, L3, Sm3, F3, W3, b153, Cb, n1, n2, n3, n4⟩ := pic_o (st := st) L h6 hb X s0 s1
  obtain ⟨F, ⟨f0, f7⟩, ⟨m32, mw, mh, m36, sw, sh⟩, ⟨g0, k0, gk, hk⟩, -, -, -, -, ⟨qp, pw0, ph0⟩, -, -⟩ := X
  have e291 := k_291o (m := m) (k := k) (st := st) k0 (by omega) m32
  obtain ⟨I1, m1, n, c1, c2, S1, ⟨f1, f2, f3, f4, f5, f6, f7'⟩⟩ := parts_m L3 (by omega) M0 rfl
  obtain ⟨⟨P1, -⟩, ⟨w1, w2, -, -⟩, -, -, ⟨-, -, -, -, -⟩, PE, -, -, -, -, ⟨⟨i43, nn, WB⟩, m53, nb, -⟩, -⟩ := S1
  obtain ⟨mf, mz, m53', m104, m104', m110⟩ := m0P_f (m := m) (k := k) (st := st)
  have L1 : Lay S (rms Q3 55 0 none) H := Lay_rms (k := 0) L3 rfl
  have o1 : ∀ x : Nat, x ≠ 55 → rms Q3 55 0 none x = Q3 x := fun x hx => rms_o hx
  have F1 : FilmAt S (rms Q3 55 0 none) H a f := FilmAt_q (fun x hx => o1 x (by omega)) F3
  have A := F.2.2.2.2 (g + k) (by omega) (by omega) p qp
  obtain ⟨A1, ip, -⟩ := PicAt_fr Sm3 A ⟨by omega, by omega⟩
  have W1 : WrT S (rms Q3 55 0 none) 43 b := ⟨W3.1, W3.2.1, W3.2.2.1, by rw [o1 43 (by decide)]; exact W3.2.2.2⟩
  have q43 : Q3 43 0 = some b := W3.2.2.2
  have c43 : 43 < S.1 ∧ S.2.2.1 43 = 8 := W3.1
  have xb : 0 ≤ w / 8 * (h / 8) ∧ w / 8 * (h / 8) ≤ 9 := by rcases sw with rfl | rfl | rfl <;> rcases sh with rfl | rfl | rfl <;> decide
  have nB : n ≤ 30600 := by omega
  refine ⟨S, rms Q3 55 0 none, H, I1, m1, b, n, ?_, ?_, ⟨nn, nB⟩, L1, F1, ⟨W1, b153, Cb, ?_, m53⟩, ⟨P1, w1, w2, k0, by omega, fun pl j p0 p2 j0 j1 => prt_all sw sh PE p0 p2 j0 j1⟩, ⟨n1, fun x hx hp => ?_⟩, ?_, ⟨fun c c1 c2 c3 c4 c5 => ?_, fun z z1 z2 z3 => ?_, ?_, fun z hz => ?_, fun j hj => ?_, fun j hj => ?_, fun j hj => ?_⟩, n1, n2, n3, n4⟩
  · rw [e16, c1, Option.bind_some, x_ck c43.1 c43.2, Option.bind_some, c_10 c43.1 c43.2 i43 nn (by omega), Option.bind_some]
  · rw [e291, c2, Option.bind_some]
    unfold jd_291_b145
    rw [m53, n_div (z := n + 7) (by omega) (by omega) (by decide) (by decide)]
  · rcases WB with ⟨-, -, y⟩ | ⟨b', y1, y2⟩
    · rw [W1.2.2.2] at y
      cases y
    · have : some b = some b' := by rw [← W1.2.2.2, ← y1.2.2.2]
      cases this
      exact y2
  · obtain ⟨hp1, hp2, hp3⟩ := hp
    obtain ⟨y1, y2, y3, y4, y5⟩ := Sm3.2 x hx ⟨by omega, by omega⟩
    have xr : ¬ (43 ≤ x ∧ x ≤ 60) := fun e => by
      have := (L3.2.1 x (by omega)).2.2.2
      rw [y5] at this
      omega
    have xp : x ≠ p + 1 := fun e => by
      have := A1.2.2.1.2.2.2
      rw [← e, y5] at this
      exact hp3 this
    have xb : Q3 43 0 ≠ some x := fun e => by
      rw [q43] at e
      cases e
      rw [← y5, Cb.2.2.2] at hp2
      exact hp2 rfl
    exact ⟨y1, y2, by rw [o1 x (by omega)]; exact y3, by rw [f1 x xr xp xb]; exact y4, y5⟩
  · have p153 := A.1
    rw [f1 p (by omega) (by omega) (fun e => by
      rw [q43] at e
      cases e
      have := A1.2.1.2.2.2
      rw [Cb.2.2.2] at this
      omega)]
    exact ip
  · rw [f4 c c1 (by omega) (by omega) c4 c5]
    exact mf c c1 (by omega) c2
  · rw [f5 z z1 z2 z3]
    exact mz z z1
  · rw [f4 104 (by decide) (by decide) (by decide) (by decide) (by decide)]
    exact m104
  · rw [f4 104 (by decide) (by decide) (by decide) (by decide) (by decide)]
    exact m104' z hz
  · rw [f6 j hj, mf 109 (by decide) (by decide) (by decide)]
  · rw [f4 110 (by decide) (by decide) (by decide) (by decide) (by decide)]
    exact m110 j (by omega)
  · rw [f7' j hj, mf 111 (by decide) (by decide) (by decide)]
end PicW
