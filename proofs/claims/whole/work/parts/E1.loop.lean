/-! the pictures of a film, one after another -/
section Loop
variable {s : hS} {Q Q' : hQ} {hm : hO} {I m I' m' : jM} {a A : Nat} {w h cod f T len n : Int} {pj : Int → Nat}
theorem anc_ge {K : Int → Int} (h0 : K 0 ≠ 2) {n : Nat} (hn : 1 ≤ n) : 0 ≤ anc K 0 n := by
  induction n with
  | zero => omega
  | succ n ih =>
    rw [anc_s, if_neg (by omega)]
    by_cases c : K n ≠ 2
    · rw [if_pos c]; omega
    · rw [if_neg c]
      by_cases d : n = 0
      · subst d; exact absurd h0 c
      · exact ih (by omega)
theorem PV_hd {K P S Z Hd : Int → Int} {B : Int → Int} (V : PV cod T K P S Z Hd len B) {k : Int} (k0 : 0 ≤ k) (kT : k < T) : 7 ≤ Hd k ∧ Hd k + 5 + Z k ≤ len := by
  obtain ⟨t1, t2, -, -, h0, -, hl, hk⟩ := V
  constructor
  · obtain ⟨n, rfl⟩ : ∃ n : Nat, k = (n : Int) := ⟨k.toNat, by omega⟩
    induction n with
    | zero => rw [show ((0 : Nat) : Int) = 0 from rfl, h0]; omega
    | succ n ih =>
      have e := (hk ((n + 1 : Nat) : Int) k0 kT).2.2.2.2.2.1 (by omega)
      have z := (hk (n : Int) (by omega) (by omega)).2.2.2.2.1
      rw [show ((n + 1 : Nat) : Int) - 1 = (n : Int) by omega] at e
      have := ih (by omega) (by omega)
      omega
  · obtain ⟨d, hd⟩ : ∃ d : Nat, (d : Int) = T - 1 - k := ⟨(T - 1 - k).toNat, by omega⟩
    induction d generalizing k with
    | zero => rw [show k = T - 1 by omega]; omega
    | succ d ih =>
      have e := (hk (k + 1) (by omega) (by omega)).2.2.2.2.2.1 (by omega)
      rw [show k + 1 - 1 = k by omega] at e
      have z := (hk (k + 1) (by omega) (by omega)).2.2.2.2.1
      have := ih (k := k + 1) (by omega) (by omega) (by omega)
      omega
/-- what is known of picture j once it is read and laid -/
def PK (a : Nat) (w h cod f T : Int) (pj : Int → Nat) (m I' m' : jM) (j : Int) : Prop := (m' 90 (12 * f + j) = m 102 j ∧ m' 91 (12 * f + j) = m 103 j ∧ m' 92 (12 * f + j) = m 104 j ∧ m' 93 (12 * f + j) = m 105 j ∧ m' 94 (12 * f + j) = m 106 j ∧ m' 98 (12 * f + j) = 0 ∧ (m' 95 (12 * f + j) = 0 ∨ m' 95 (12 * f + j) = 1) ∧ (m' 95 (12 * f + j) = 1 ↔ m 102 j = 0 ∧ ∀ i : Int, j < i → i < T → m 103 j < m 103 i)) ∧ (0 ≤ m' 96 (12 * f + j) ∧ m' 96 (12 * f + j) ≤ 7 ∧ -1 ≤ m' 97 (12 * f + j) ∧ m' 97 (12 * f + j) ≤ 1000 ∧ I' (a + 10) j = m' 96 (12 * f + j) ∧ I' (a + 11) j = m' 97 (12 * f + j)) ∧ (∀ pl x y : Int, 0 ≤ pl → pl ≤ 2 → 0 ≤ x → x < pw w pl → 0 ≤ y → y < pw h pl → I' (pj j + 1) (pb w h pl + (y * pw w pl + x)) = m' 109 (864 * j + (pf pl + (y * pw w pl + x))) ∧ m' 99 (864 * (12 * f + j) + (pf pl + (y * pw w pl + x))) = m' 109 (864 * j + (pf pl + (y * pw w pl + x))) ∧ 0 ≤ m' 109 (864 * j + (pf pl + (y * pw w pl + x))) ∧ m' 109 (864 * j + (pf pl + (y * pw w pl + x))) ≤ 255 ∧ (m' 100 (864 * (12 * f + j) + (pf pl + (y * pw w pl + x))) % 2 = 1 ↔ mdAt cod (m' 97 (12 * f + j)) w h pl x y)) ∧ (cod = 0 → ∀ q y : Int, 0 ≤ q → q < w / 8 * (h / 8) → 0 ≤ y → y < 7 → m' 101 (63 * (12 * f + j) + 7 * q + y) = if 0 ≤ m' 97 (12 * f + j) ∧ m' 97 (12 * f + j) ≤ q then -1 else I' (a + 12) ((j * 9 + q) * 7 + y))
/-- what stands when the pictures begin to be read -/
def LpB (s : hS) (Q : hQ) (hm : hO) (I m : jM) (a A : Nat) (w h cod f T len : Int) (pj : Int → Nat) : Prop := (0 ≤ f ∧ f < 8) ∧ (I a 0 = cod ∧ I a 4 = T ∧ m 76 32 = cod ∧ m 76 33 = w ∧ m 76 34 = h ∧ m 76 35 = T ∧ m 76 36 = 0) ∧ (isSd w ∧ isSd h) ∧ (∃ B, PV cod T (m 102) (m 103) (m 104) (m 105) (m 106) len B) ∧ len ≤ 24067 ∧ (∀ j : Int, 0 ≤ j → j < T → I (a + 1) j = m 102 j ∧ I (a + 3) j = m 104 j ∧ I (a + 4) j = m 105 j ∧ I (a + 5) j = m 106 j) ∧ (Q a 5 = some A ∧ (A < s.1 ∧ s.2.2.1 A = 1 ∧ s.2.2.2 A ≤ 1000000) ∧ len ≤ ((s.2.2.2 A : Nat) : Int) ∧ ∀ j : Int, 0 ≤ j → j < len → jwb (I A j) = jwb (m 112 j)) ∧ (∀ j : Int, 0 ≤ j → j < T → Q (a + 9) j = some (pj j) ∧ PcC s Q (pj j) ∧ I (pj j) 0 = w ∧ I (pj j) 1 = h) ∧ (∀ i j : Int, 0 ≤ i → i < T → 0 ≤ j → j < T → i ≠ j → pj i ≠ pj j)
/-- what stands when n pictures are read -/
def LpI (s : hS) (Q : hQ) (hm : hO) (I m : jM) (a : Nat) (w h cod f T : Int) (pj : Int → Nat) (n : Int) (Q' : hQ) (I' m' : jM) : Prop := (∀ x : Nat, x ≠ 10 → x ≠ 11 → Q' x = Q x) ∧ Lay s Q' hm ∧ (∀ x : Nat, x < 9 ∨ (24 < x ∧ x ≠ 41) → x ≠ a + 10 → x ≠ a + 11 → x ≠ a + 12 → (∀ j : Int, 0 ≤ j → j < n → x ≠ pj j + 1) → I' x = I x) ∧ (∀ x : Nat, x ≠ 76 → (x < 90 ∨ (101 < x ∧ x < 107) ∨ x = 112 ∨ x = 113 ∨ 120 < x) → m' x = m x) ∧ (∀ j : Int, j < 49 ∨ 69 < j → m' 76 j = m 76 j) ∧ (∀ x : Nat, 90 ≤ x → x ≤ 98 → ∀ z : Int, z < 12 * f ∨ 12 * f + 12 ≤ z → m' x z = m x z) ∧ (∀ z : Int, z < 864 * (12 * f) ∨ 864 * (12 * f + 12) ≤ z → m' 99 z = m 99 z ∧ m' 100 z = m 100 z) ∧ (∀ z : Int, z < 63 * (12 * f) ∨ 63 * (12 * f + 12) ≤ z → m' 101 z = m 101 z) ∧ ∀ j : Int, 0 ≤ j → j < n → PK a w h cod f T pj m I' m' j
theorem LpI_in (F : FilmAt s Q hm a f) (B : LpB s Q hm I m a A w h cod f T len pj) (J : LpI s Q hm I m a w h cod f T pj n Q' I' m') (n0 : 0 ≤ n) (nT : n < T) : PicIn s Q' I' m' a a A w h n 0 cod pj := by
  obtain ⟨⟨f0, f8⟩, ⟨b1, b2, b3, b4, b5, b6, b7⟩, ⟨sw, sh⟩, ⟨BB, V⟩, l1, eqs, ⟨qA, ⟨A1, A2, A3⟩, Al, Ab⟩, pcs, dst⟩ := B
  obtain ⟨j1, j2, j3, j4, j5, -, -, -, j9⟩ := J
  have a153 := F.1
  have t12 : T ≤ 12 := V.2.1
  have vk := V.2.2.2.2.2.2.2
  -- film cells are no samples of pictures
  have ta : ∀ j : Nat, j < 13 → ∀ i : Int, 0 ≤ i → i < T → a + j ≠ pj i + 1 := fun j hj i i0 i1 e => by
    have g := (F.2.1 j hj)
    have P6 := (pcs i i0 i1).2.1.2.2.2.2.2.1
    have g3 := g.2.2.1
    rw [e, P6] at g3
    have : ∀ j : Fin 13, 864 ≠ (fTag j.val).2 := by decide
    exact this ⟨j, hj⟩ g3
  have fa : ∀ j : Nat, j < 10 → I' (a + j) = I (a + j) := fun j hj => j3 (a + j) (by omega) (by omega) (by omega) (by omega) (fun i i0 i1 => ta j (by omega) i i0 (by omega))
  have fA : I' A = I A := by
    have cA := F.2.2.2.1 A qA
    refine j3 A (by omega) (fun e => ?_) (fun e => ?_) (fun e => ?_) (fun i i0 i1 e => ?_)
    · have := (F.2.1 10 (by decide)).2.1; rw [← e, A2] at this; exact absurd this (by decide)
    · have := (F.2.1 11 (by decide)).2.1; rw [← e, A2] at this; exact absurd this (by decide)
    · have := (F.2.1 12 (by decide)).2.1; rw [← e, A2] at this; exact absurd this (by decide)
    · have := (pcs i i0 (by omega)).2.1.2.2.2.2.1; rw [← e, A2] at this; exact absurd this (by decide)
  have fp : ∀ i : Int, 0 ≤ i → i < T → I' (pj i) = I (pj i) := fun i i0 i1 => by
    have P := (pcs i i0 i1).2.1
    have t3 := P.2.2.1
    refine j3 (pj i) (by have := P.1; omega) (fun e => ?_) (fun e => ?_) (fun e => ?_) (fun i' i0' i1' e => ?_)
    · have := (F.2.1 10 (by decide)).2.1; rw [← e, t3] at this; exact absurd this (by decide)
    · have := (F.2.1 11 (by decide)).2.1; rw [← e, t3] at this; exact absurd this (by decide)
    · have := (F.2.1 12 (by decide)).2.1; rw [← e, t3] at this; exact absurd this (by decide)
    · have := (pcs i' i0' (by omega)).2.1.2.2.2.2.1; rw [← e, t3] at this; exact absurd this (by decide)
  have m102 : m' 102 = m 102 := j4 102 (by decide) (by decide)
  have m104 : m' 104 = m 104 := j4 104 (by decide) (by decide)
  have m105 : m' 105 = m 105 := j4 105 (by decide) (by decide)
  have m106 : m' 106 = m 106 := j4 106 (by decide) (by decide)
  have m112 : m' 112 = m 112 := j4 112 (by decide) (by decide)
  have hd := PV_hd V n0 nT
  have vn := vk n n0 nT
  have pc2 : ∀ {b : Nat}, PcC s Q b → PcC s Q' b := fun {b} P => PcC_q (fun x hx => j1 x (by omega) (by omega)) P
  have fa0 : I' a = I a := fa 0 (by decide)
  refine ⟨⟨n0, by omega, by decide, n0⟩, ⟨by rw [fa0]; exact b1, by rw [j5 32 (by decide)]; exact b3, V.2.2.1, V.2.2.2.1, by rw [fa0]; exact b1⟩, ⟨sw, sh, by rw [j5 33 (by decide)]; exact b4, by rw [j5 34 (by decide)]; exact b5, by rw [j5 36 (by decide)]; exact b7⟩, fun j j0 j1' => ?_, ⟨?_, ?_, ?_⟩, ⟨?_, ?_, ?_, ?_, ?_⟩, ⟨?_, ⟨A1, A2, A3⟩, ?_, fun j j0 j1' => ?_⟩, fun j j0 j1' => ?_, fun i j i0 i1 j0 j1' ne => dst i j i0 (by omega) j0 (by omega) ne, fun j j0 j1' => ?_, fun e => ?_, fun e => ?_, fun e => ?_, fun e => ?_⟩
  · rw [fa 1 (by decide), m102]
    exact ⟨(eqs j j0 (by omega)).1, (vk j j0 (by omega)).1⟩
  · rw [fa 3 (by decide), m104]
    exact (eqs n n0 nT).2.1
  · rw [m104]
    by_cases c : cod = 0
    · have := vn.2.2.1 c; omega
    · have := vn.2.2.2.1 c; omega
  · rw [m104]
    by_cases c : cod = 0
    · have := vn.2.2.1 c; omega
    · have := vn.2.2.2.1 c; omega
  · rw [fa 4 (by decide), m105]
    exact (eqs n n0 nT).2.2.1
  · rw [fa 5 (by decide), m106]
    exact (eqs n n0 nT).2.2.2
  · rw [m105]; exact vn.2.2.2.2.1.1
  · rw [m106]; omega
  · rw [m106, m105]; omega
  · rw [j1 a (by omega) (by omega)]; exact qA
  · rw [m106, m105]; omega
  · rw [fA, m112]
    rw [m106, m105] at j1'
    exact Ab j j0 (by omega)
  · have := pcs j j0 (by omega)
    exact ⟨by rw [j1 (a + 9) (by omega) (by omega)]; exact this.1, pc2 this.2.1, by rw [fp j j0 (by omega)]; exact this.2.2.1, by rw [fp j j0 (by omega)]; exact this.2.2.2⟩
  · have P := pcs j j0 (by omega)
    have K := (j9 j j0 j1').2.2.1
    refine ⟨pc2 P.2.1, by rw [fp j j0 (by omega)]; exact P.2.2.1, by rw [fp j j0 (by omega)]; exact P.2.2.2, j0, by omega, fun pl i p0 p2 i0 i1 => ?_⟩
    have bw := pw_sd sw pl
    have r := dm_r (W := pw w pl) (H := pw h pl) (by omega) i0 i1
    have de := dm_e (pw w pl) i
    have := K pl (i % pw w pl) (i / pw w pl) p0 p2 r.2.2.1 r.2.2.2 r.1 r.2.1
    rw [← de] at this
    exact ⟨this.1, this.2.2.1, this.2.2.2.1⟩
  · rw [m102] at e ⊢
    have k0 := V.2.2.2.2.2.1
    refine anc_ge (by omega) ?_
    rcases (show n = 0 ∨ 1 ≤ n by omega) with z | z
    · rw [z, k0] at e; exact absurd rfl e
    · omega
  · rw [m102] at e ⊢
    exact (vn.2.2.2.2.2.2.2.2.2.2.1 e).1
  · rw [m102]
    exact vn.2.2.2.2.2.2.2.1 e
  · rw [m102]
    exact vn.2.2.2.2.2.2.1 e
end Loop
