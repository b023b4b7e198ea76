/-! pictures read anew into the spare film -/
section Anew
variable {s : hS} {Q Q' : hQ} {hm : hO} {I m I' m' : jM} {a A : Nat} {w h cod f fr T e len n lo : Int} {pj : Int → Nat}
def TpB (s : hS) (Q : hQ) (I m : jM) (a A : Nat) (w h cod fr e T len : Int) (pj : Int → Nat) : Prop := (0 ≤ fr ∧ fr ≤ e ∧ e < T) ∧ (I a 0 = cod ∧ I 28 0 = cod ∧ m 76 32 = cod ∧ m 76 33 = w ∧ m 76 34 = h ∧ m 76 36 = fr) ∧ (isSd w ∧ isSd h) ∧ (∃ B, PV cod T (m 102) (m 103) (m 104) (m 105) (m 106) len B) ∧ len ≤ 24067 ∧ (m 102 fr = 0 ∧ ∀ j : Int, fr < j → j < T → m 103 fr < m 103 j) ∧ (∀ j : Int, 0 ≤ j → j < T → I (a + 1) j = m 102 j ∧ I (a + 3) j = m 104 j ∧ I (a + 4) j = m 105 j ∧ I (a + 5) j = m 106 j) ∧ (Q a 5 = some A ∧ (A < s.1 ∧ s.2.2.1 A = 1 ∧ s.2.2.2 A ≤ 1000000) ∧ len ≤ ((s.2.2.2 A : Nat) : Int) ∧ ∀ j : Int, 0 ≤ j → j < len → jwb (I A j) = jwb (m 112 j)) ∧ (∀ j : Int, fr ≤ j → j ≤ e → Q 37 j = some (pj j) ∧ PcC s Q (pj j) ∧ I (pj j) 0 = w ∧ I (pj j) 1 = h) ∧ (∀ i j : Int, fr ≤ i → i ≤ e → fr ≤ j → j ≤ e → i ≠ j → pj i ≠ pj j)
def TpI (s : hS) (Q : hQ) (hm : hO) (I m : jM) (w h fr : Int) (pj : Int → Nat) (n : Int) (Q' : hQ) (I' m' : jM) : Prop := (∀ x : Nat, x ≠ 10 → x ≠ 11 → Q' x = Q x) ∧ Lay s Q' hm ∧ (∀ x : Nat, x < 9 ∨ (24 < x ∧ x ≠ 41) → x ≠ 38 → x ≠ 39 → x ≠ 40 → (∀ j : Int, fr ≤ j → j < n → x ≠ pj j + 1) → I' x = I x) ∧ (∀ x : Nat, x ≠ 76 → (x < 107 ∨ (111 < x ∧ x < 114) ∨ 120 < x) → m' x = m x) ∧ (∀ j : Int, j < 49 ∨ 69 < j → m' 76 j = m 76 j) ∧ ∀ j : Int, fr ≤ j → j < n → ∀ pl i : Int, 0 ≤ pl → pl ≤ 2 → 0 ≤ i → i < pw w pl * pw h pl → I' (pj j + 1) (pb w h pl + i) = m' 109 (864 * j + (pf pl + i)) ∧ 0 ≤ m' 109 (864 * j + (pf pl + i)) ∧ m' 109 (864 * j + (pf pl + i)) ≤ 255
theorem TpI_in (F : FilmAt s Q hm a f) (B : TpB s Q I m a A w h cod fr e T len pj) (J : TpI s Q hm I m w h fr pj n Q' I' m') (n0 : fr ≤ n) (nT : n ≤ e) : PicIn s Q' I' m' a 28 A w h n fr cod pj := by
  obtain ⟨⟨f0, fe, eT⟩, ⟨b1, b2, b3, b4, b5, b7⟩, ⟨sw, sh⟩, ⟨BB, V⟩, l1, ⟨kf, kp⟩, eqs, ⟨qA, ⟨A1, A2, A3⟩, Al, Ab⟩, pcs, dst⟩ := B
  obtain ⟨j1, j2, j3, j4, j5, j9⟩ := J
  have a153 := F.1
  have t12 : T ≤ 12 := V.2.1
  have vk := V.2.2.2.2.2.2.2
  have fa : ∀ j : Nat, j < 10 → I' (a + j) = I (a + j) := fun j hj => j3 (a + j) (by omega) (by omega) (by omega) (by omega) (fun i i0 i1 e => by
    have g3 := (F.2.1 j (by omega)).2.2.1
    have P6 := (pcs i i0 (by omega)).2.1.2.2.2.2.2.1
    rw [e, P6] at g3
    have : ∀ j : Fin 13, 864 ≠ (fTag j.val).2 := by decide
    exact this ⟨j, by omega⟩ g3)
  have fA : I' A = I A := by
    have cA := F.2.2.2.1 A qA
    refine j3 A (by omega) (by omega) (by omega) (by omega) (fun i i0 i1 e => ?_)
    have := (pcs i i0 (by omega)).2.1.2.2.2.2.1; rw [← e, A2] at this; exact absurd this (by decide)
  have fp : ∀ i : Int, fr ≤ i → i ≤ e → I' (pj i) = I (pj i) := fun i i0 i1 => by
    have P := (pcs i i0 i1).2.1
    refine j3 (pj i) (by have := P.1; omega) (by have := P.1; omega) (by have := P.1; omega) (by have := P.1; omega) (fun i' i0' i1' e => ?_)
    have := (pcs i' i0' (by omega)).2.1.2.2.2.2.1; rw [← e, P.2.2.1] at this; exact absurd this (by decide)
  have f28 : I' 28 = I 28 := j3 28 (by omega) (by omega) (by omega) (by omega) (fun i i0 i1 e => by have := (pcs i i0 (by omega)).2.1.1; omega)
  have m102 : m' 102 = m 102 := j4 102 (by decide) (by decide)
  have m104 : m' 104 = m 104 := j4 104 (by decide) (by decide)
  have m105 : m' 105 = m 105 := j4 105 (by decide) (by decide)
  have m106 : m' 106 = m 106 := j4 106 (by decide) (by decide)
  have m112 : m' 112 = m 112 := j4 112 (by decide) (by decide)
  have hd := PV_hd V (k := n) (by omega) (by omega)
  have vn := vk n (by omega) (by omega)
  have en := eqs n (by omega) (by omega)
  have pc2 : ∀ {b : Nat}, PcC s Q b → PcC s Q' b := fun {b} P => PcC_q (fun x hx => j1 x (by omega) (by omega)) P
  have fa0 : I' a = I a := fa 0 (by decide)
  have ka := key_anc V f0 kf kp n0 (show n < T by omega)
  have s255 : 0 ≤ m 104 n ∧ m 104 n ≤ 255 := by
    by_cases c : cod = 0
    · have := vn.2.2.1 c; omega
    · have := vn.2.2.2.1 c; omega
  refine ⟨⟨by omega, by omega, f0, n0⟩, ⟨by rw [fa0]; exact b1, by rw [j5 32 (by decide)]; exact b3, V.2.2.1, V.2.2.2.1, by rw [f28]; exact b2⟩, ⟨sw, sh, by rw [j5 33 (by decide)]; exact b4, by rw [j5 34 (by decide)]; exact b5, by rw [j5 36 (by decide)]; exact b7⟩, fun j j0 j1' => ?_, ⟨?_, ?_, ?_⟩, ⟨?_, ?_, ?_, ?_, ?_⟩, ⟨?_, ⟨A1, A2, A3⟩, ?_, fun j j0 j1' => ?_⟩, fun j j0 j1' => ?_, fun i j i0 i1 j0 j1' ne => dst i j i0 (by omega) j0 (by omega) ne, fun j j0 j1' => ?_, fun e => ?_, fun e => ?_, fun e => ?_, fun e => ?_⟩
  · rw [fa 1 (by decide), m102]
    exact ⟨(eqs j j0 (by omega)).1, (vk j j0 (by omega)).1⟩
  · rw [fa 3 (by decide), m104]; exact en.2.1
  · rw [m104]; exact s255.1
  · rw [m104]; exact s255.2
  · rw [fa 4 (by decide), m105]; exact en.2.2.1
  · rw [fa 5 (by decide), m106]; exact en.2.2.2
  · rw [m105]; exact vn.2.2.2.2.1.1
  · rw [m106]; omega
  · rw [m106, m105]; omega
  · rw [j1 a (by omega) (by omega)]; exact qA
  · rw [m106, m105]; omega
  · rw [fA, m112]
    rw [m106, m105] at j1'
    exact Ab j j0 (by omega)
  · have := pcs j j0 (by omega)
    exact ⟨by rw [j1 37 (by omega) (by omega)]; exact this.1, pc2 this.2.1, by rw [fp j j0 (by omega)]; exact this.2.2.1, by rw [fp j j0 (by omega)]; exact this.2.2.2⟩
  · have P := pcs j j0 (by omega)
    exact ⟨pc2 P.2.1, by rw [fp j j0 (by omega)]; exact P.2.2.1, by rw [fp j j0 (by omega)]; exact P.2.2.2, by omega, by omega, fun pl i p0 p2 i0 i1 => j9 j j0 j1' pl i p0 p2 i0 i1⟩
  · rw [m102] at e ⊢
    exact ka.1 e
  · rw [m102] at e ⊢
    exact ka.2 e
  · rw [m102]
    exact vn.2.2.2.2.2.2.2.1 e
  · rw [m102]
    exact vn.2.2.2.2.2.2.1 e
theorem TpI_s (h6 : s.1 ≤ 1000000) (F : FilmAt s Q hm a f) (hlo : lo = 0 ∨ lo = 1) (B : TpB s Q I m a A w h cod fr e T len pj) (J : TpI s Q hm I m w h fr pj n Q' I' m') (n0 : fr ≤ n) (nT : n ≤ e) : ∃ Q2 I2 m2, jd_115 9 (some a) (some 28) n fr lo (hh s Q' I') = some (hh s Q2 I2) ∧ jd_278 n lo m' = some m2 ∧ TpI s Q hm I m w h fr pj (n + 1) Q2 I2 m2 := by
  have PI := TpI_in F B J n0 nT
  obtain ⟨⟨f0, fe, eT⟩, -, ⟨sw, sh⟩, -, -, -, -, -, pcs, dst⟩ := B
  obtain ⟨j1, j2, j3, j4, j5, j9⟩ := J
  have F' : FilmAt s Q' hm a f := FilmAt_q (fun x hx => j1 x (by omega) (by omega)) F
  obtain ⟨Q2, I2, M, e1, e2, q1, q2, ⟨r, sp, -, -, -, -, -, u5, -⟩, u7, u8, u9, u10⟩ := rpic (lo := lo) j2 h6 F' (FlC_28 j2) (Or.inl rfl) hlo PI
  refine ⟨Q2, I2, M, e1, e2, fun x h1 h2 => (q1 x h1 h2).trans (j1 x h1 h2), q2, fun x h1 h2 h3 h4 h5 => ?_, fun x h1 h2 => ?_, fun j hj => ?_, fun j j0 jn pl i p0 p2 i0 i1 => ?_⟩
  · rw [u8 x h1 (h5 n n0 (by omega)) h2 h3 h4]
    exact j3 x h1 h2 h3 h4 (fun j j0 jn => h5 j j0 (by omega))
  · rw [u9 x h1 (by omega) (by omega) (by omega) (by omega) (by omega) (by omega)]
    exact j4 x h1 h2
  · rw [u10 j hj]
    exact j5 j hj
  · by_cases ej : j = n
    · subst ej
      have bw := pw_sd sw pl
      have r := dm_r (W := pw w pl) (H := pw h pl) (by omega) i0 i1
      have de := dm_e (pw w pl) i
      have := u5 pl (i % pw w pl) (i / pw w pl) p0 p2 r.2.2.1 r.2.2.2 r.1 r.2.1
      rw [← de] at this
      exact ⟨this.1, this.2.1, this.2.2.1⟩
    · have z := pl_sz sw sh p0 p2
      have P := (pcs j j0 (by omega)).2.1.1
      have ne := dst j n j0 (by omega) n0 nT ej
      rw [u8 (pj j + 1) (by omega) (by omega) (by omega) (by omega) (by omega), (u7 (864 * j + (pf pl + i)) (by omega)).1]
      exact j9 j j0 (by omega) pl i p0 p2 i0 i1
end Anew
