/-! cutting: what holds while a film is cut -/
section CuCtx
variable {s s' s2 S : hS} {Q Q' Q2 R : hQ} {hm hm' hm2 H : hO} {I I' I2 J m m' m2 : jM} {a b : Nat} {f fo w h T cod cnt len : Int} {K K' P P' B B' : Int → Int}
def PD (f o : Int) : Prop := ¬ (1042 ≤ o ∧ o ≤ 1067) ∧ o ≠ 560 ∧ o ≠ 500 + f ∧ o ≠ 540 + f ∧ ¬ (200 + 12 * f ≤ o ∧ o < 200 + 12 * f + 12)
def MC (m m' : jM) : Prop := (∀ c : Nat, c ≠ 76 → ¬ (102 ≤ c ∧ c ≤ 117) → ¬ (121 ≤ c ∧ c ≤ 125) → c ≠ 134 → m' c = m c) ∧ ∀ z : Int, z < 35 ∨ 84 ≤ z → z ≠ 91 → m' 76 z = m 76 z
theorem MC_refl : MC m m := ⟨fun _ _ _ _ _ => rfl, fun _ _ _ => rfl⟩
theorem MC_t (A : MC m m') (B : MC m' m2) : MC m m2 := ⟨fun c c1 c2 c3 c4 => (B.1 c c1 c2 c3 c4).trans (A.1 c c1 c2 c3 c4), fun z h1 h2 => (B.2 z h1 h2).trans (A.2 z h1 h2)⟩
theorem MC_G (A : MG m m') : MC m m' := ⟨fun c c1 c2 c3 _ => A.1 c c1 c2 (by omega), fun z h1 _ => A.2 z h1⟩
/-- what stays while a film is cut -/
def CuF (s : hS) (Q : hQ) (hm : hO) (I m : jM) (a : Nat) (f : Int) (S : hS) (R : hQ) (H : hO) (J m' : jM) : Prop := Sm (PD f) s Q hm I S R H J ∧ MC m m' ∧ Gm a s Q S R ∧ ∀ i : Int, i < 7 → m' 112 i = m 112 i
theorem CuF_0 : CuF s Q hm I m a f s Q hm I m := ⟨Sm_refl, MC_refl, Gm_refl, fun _ _ => rfl⟩
theorem CuF_t (A : CuF s Q hm I m a f s' Q' hm' I' m') (B : CuF s' Q' hm' I' m' a f s2 Q2 hm2 I2 m2) : CuF s Q hm I m a f s2 Q2 hm2 I2 m2 := ⟨Sm_trans A.1 B.1, MC_t A.2.1 B.2.1, Gm_t A.2.2.1 B.2.2.1, fun i hi => (B.2.2.2 i hi).trans (A.2.2.2 i hi)⟩
theorem CuF_k (A : MkF s Q hm I m a f S R H J m') : CuF s Q hm I m a f S R H J m' := ⟨Sm_mono A.2.2.1 (fun o ho => by unfold PD at ho; unfold PG; omega), MC_G A.2.2.2.1, A.2.2.2.2.1, A.2.2.2.2.2.2.2.2⟩
/-- only the class's ints change, in cells of the film or in the maker -/
theorem CuF_I (e : ∀ x : Nat, x < s.1 → PD f (hm x) → I' x = I x) : CuF s Q hm I m a f s Q hm I' m := ⟨Sm_I e, MC_refl, Gm_refl, fun _ _ => rfl⟩
/-- only the model changes -/
theorem CuF_m (M : MC m m') (h7 : ∀ i : Int, i < 7 → m' 112 i = m 112 i) : CuF s Q hm I m a f s Q hm I m' := ⟨Sm_refl, M, Gm_refl, h7⟩
def CuB (s : hS) (Q : hQ) (hm : hO) (I m : jM) (a : Nat) (f w h T : Int) : Prop := (Lay s Q hm ∧ FilmAt s Q hm a f ∧ 0 ≤ f ∧ f < 8) ∧ (∀ b, Q 43 0 = some b → 153 ≤ b ∧ Ce s hm b 1 4000 560) ∧ (m 76 32 = 0 ∧ m 76 33 = w ∧ m 76 34 = h ∧ isSd w ∧ isSd h) ∧ (1 ≤ T ∧ T ≤ 12 ∧ Q 42 6 = some 3) ∧ (∀ k : Int, 0 ≤ k → k < 8 → I 3 k = m 82 k ∧ stOk k (m 82 k)) ∧ ∀ j : Int, 0 ≤ j → j < T → ∃ p, Q (a + 9) j = some p ∧ I p 0 = w ∧ I p 1 = h
theorem CuB_fr (C : CuB s Q hm I m a f w h T) (X : CuF s Q hm I m a f S R H J m') (L' : Lay S R H) (F' : FilmAt S R H a f) (hb' : ∀ b, R 43 0 = some b → 153 ≤ b ∧ Ce S H b 1 4000 560) (q6 : R 42 6 = some 3) (c8 : ∀ j : Int, 0 ≤ j → j < T → ∃ p, R (a + 9) j = some p ∧ J p 0 = w ∧ J p 1 = h) : CuB S R H J m' a f w h T := by
  obtain ⟨⟨L, F, f0, f8⟩, -, ⟨m32, m33, m34, sw, sh⟩, ⟨T1, T2, -⟩, c5, -⟩ := C
  obtain ⟨S1, M, -, -⟩ := X
  have q3 := Lay_fr (a := 3) L S1 (by decide) (by unfold PD; omega)
  have e82 : m' 82 = m 82 := M.1 82 (by decide) (by decide) (by decide) (by decide)
  exact ⟨⟨L', F', f0, f8⟩, hb', ⟨by rw [M.2 32 (by decide) (by decide)]; exact m32, by rw [M.2 33 (by decide) (by decide)]; exact m33, by rw [M.2 34 (by decide) (by decide)]; exact m34, sw, sh⟩, ⟨T1, T2, q6⟩, fun k k0 k1 => by rw [q3.2, e82]; exact c5 k k0 k1, c8⟩
/-- a film ahead of the new one stays -/
theorem old_now (fo0 : 0 ≤ fo) (fof : fo < f) (f8 : f < 8) (Fo : FilmAt s Q hm b fo) (Co : FilmC s Q I m b fo) (X : CuF s Q hm I m a f S R H J m') : FilmAt S R H b fo ∧ FilmC S R J m' b fo := by
  obtain ⟨S1, M, -, -⟩ := X
  obtain ⟨F', k0, k1, k2⟩ := FilmAt_fr1 S1 (fun k _ _ => by unfold PD; omega) (by unfold PD; omega) (by unfold PD; omega) Fo
  exact ⟨F', FilmC_fr Fo k0 k1 k2 (fun x h1 h2 => M.1 x (by omega) (by omega) (by omega) (by omega)) Co⟩
theorem HBy_kp (W : HBy B K P cod cnt len) (eB : ∀ i : Int, i < len → B' i = B i) (e : ∀ q : Int, 0 ≤ q → q < cnt → K' q = K q ∧ P' q = P q) : HBy B' K' P' cod cnt len := by
  obtain ⟨Hd, Z, St, h0, h1, hq⟩ := HBy_c W eB
  refine ⟨Hd, Z, St, h0, h1, fun q q0 q1 => ?_⟩
  rw [(e q q0 q1).1, (e q q0 q1).2]
  exact hq q q0 q1
/-- between two groups of a cut film -/
def CuI (s : hS) (Q : hQ) (hm : hO) (I m : jM) (a : Nat) (f w h T cnt len : Int) : Prop := CuB s Q hm I m a f w h T ∧ FBm s Q hm I m a f len ∧ (7 ≤ len ∧ len ≤ 7 + 2005 * cnt) ∧ HBy (m 112) (I (a + 1)) (I (a + 2)) 0 cnt len ∧ (0 ≤ cnt ∧ cnt ≤ T ∧ I 42 5 = cnt ∧ m 76 91 = cnt) ∧ OrdC (I (a + 1)) (I (a + 2)) cnt ∧ (∀ k : Int, 0 ≤ k → k < cnt → I (a + 8) (I (a + 2) k) % 2 = m 134 (I (a + 2) k) % 2) ∧ ∀ x : Int, cnt ≤ x → x < 12 → I (a + 8) x = 0
end CuCtx
