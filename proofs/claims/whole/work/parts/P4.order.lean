/-! making: an order that was laid can be read -/
section OrderP
variable {s : hS} {Q : hQ} {hm : hO} {I m : jM} {a : Nat} {f n d T cod : Int} {G M S K P : Int → Int} {N : Nat}
theorem anc_2 {K : Int → Int} {y : Int} (y0 : 0 ≤ y) : ∀ n : Nat, anc K 0 n < y → y < (n : Int) → K y = 2
  | 0, _, h => absurd h (by omega)
  | n + 1, h1, h2 => by
    have e : anc K 0 (n + 1) = if (n : Int) < 0 then -1 else if K (n : Int) ≠ 2 then (n : Int) else anc K 0 n := rfl
    rw [if_neg (by omega)] at e
    by_cases c : K (n : Int) ≠ 2
    · rw [if_pos c] at e
      omega
    · rw [if_neg c] at e
      by_cases cy : y = (n : Int)
      · rw [cy]
        exact Classical.not_not.mp c
      · exact anc_2 y0 n (by rw [← e]; exact h1) (by omega)
theorem LG_o (L : LG M S n n) {j : Int} (j0 : 0 ≤ j) (j1 : j < n) : (∀ i : Int, 0 ≤ i → i < j → S i ≠ S j) ∧ (M j = 2 → 0 ≤ anc M 0 (anc M 0 j.toNat).toNat ∧ 1 ≤ anc M 0 j.toNat ∧ S (anc M 0 (anc M 0 j.toNat).toNat) < S j ∧ S j < S (anc M 0 j.toNat)) ∧ (M j ≠ 2 → 1 ≤ j → 0 ≤ anc M 0 j.toNat ∧ S (anc M 0 j.toNat) < S j) := by
  obtain ⟨g1, g2, g3⟩ := L
  by_cases c : j = 0
  · refine ⟨fun i i0 i1 => absurd i1 (by omega), fun e => ?_, fun _ h => absurd h (by omega)⟩
    rw [c, g1] at e
    exact absurd e (by decide)
  · have j2 : 1 ≤ j := by omega
    obtain ⟨⟨s0, s1⟩, h2⟩ := g3 j j2 j1
    have ar := anc_r (K := M) (fr := 0) j.toNat
    have ag := anc_ge (K := M) (by rw [g1]; decide) (n := j.toNat) (by omega)
    rcases h2 with ⟨e1, e2, e3⟩ | ⟨e1, e2, e3, e4⟩
    · refine ⟨fun i i0 i1 => ?_, fun e => ?_, fun _ _ => ⟨ag, ?_⟩⟩
      · have := e3 i i0 i1
        omega
      · rw [e1] at e
        exact absurd e (by decide)
      · have := e3 _ ag (by omega)
        omega
    · -- the anchor behind which j lies
      have k1 := (anc_k (K := M) (fr := 0) j.toNat ag).1
      obtain ⟨c, hc⟩ : ∃ c, anc M 0 j.toNat = c := ⟨_, rfl⟩
      rw [hc] at ar ag k1 e3 e4 ⊢
      have m1 : M c = 1 ∧ c ≤ S c ∧ ∀ i : Int, 0 ≤ i → i < c → S i < c := by
        rcases (g3 c e3 (by omega)).2 with h | h
        · exact h
        · exact absurd h.1 k1
      have ag2 := anc_ge (K := M) (by rw [g1]; decide) (n := c.toNat) (by omega)
      have ar2 := anc_r (K := M) (fr := 0) c.toNat
      refine ⟨fun i i0 i1 => ?_, fun _ => ⟨ag2, e3, ?_, by omega⟩, fun h => absurd e1 h⟩
      · by_cases d1 : i < c
        · have := m1.2.2 i i0 d1
          omega
        · by_cases d2 : i = c
          · rw [d2]
            omega
          · have k2 := anc_2 (K := M) (y := i) i0 j.toNat (by rw [hc]; omega) (by omega)
            rcases (g3 i (by omega) (by omega)).2 with h | h
            · rw [k2] at h
              exact absurd h.1 (by decide)
            · omega
      · have := m1.2.2 _ ag2 (by omega)
        omega
/-- the heads of groups, one behind another -/
def GrO (K P G : Int → Int) (d T : Int) (N : Nat) : Prop := ∀ i : Nat, i < N → LG (kkG (G (gSt G i)) d) (ssG (G (gSt G i)) d) (G (gSt G i)) (G (gSt G i)) ∧ ∀ j : Int, 0 ≤ j → j < G (gSt G i) → K (gSt G i + j) = kkG (G (gSt G i)) d j ∧ P (gSt G i + j) = gSt G i + ssG (G (gSt G i)) d j
theorem GrO_of (F : FilmAt s Q hm a f) (T0 : 0 ≤ T) (T2 : T ≤ 12) (hG : GSz G T) (W : Wk G T N) (d0 : 0 ≤ d) (d1 : d ≤ 1000) (LA : Laid I a G d N) : GrO (I (a + 1)) (I (a + 2)) G d T N := fun i iN => by
  have gb := gSt_b T0 hG i (fun y hy => W.1 y (by omega))
  obtain ⟨n1, n2⟩ := hG (gSt G i) (by omega) (W.1 i iN)
  obtain ⟨-, -, LGk, -⟩ := lay_c (I := I) (p := gSt G i) (g := 0) (n := G (gSt G i)) (d := d) F (by omega) (by omega) n1 d0 d1
  exact ⟨LGk, LA i iN⟩
theorem GrO_b (hG : GSz G T) (W : Wk G T N) (T0 : 0 ≤ T) (O : GrO K P G d T N) {i : Nat} (iN : i ≤ N) {y : Int} (y0 : 0 ≤ y) (y1 : y < gSt G i) : 0 ≤ P y ∧ P y < gSt G i := by
  obtain ⟨j, ji, h1, h2⟩ := gSt_in y0 i y1
  have gb := gSt_b T0 hG j (fun z hz => W.1 z (by omega))
  obtain ⟨L, hj⟩ := O j (by omega)
  obtain ⟨-, p1⟩ := hj (y - gSt G j) (by omega) (by omega)
  obtain ⟨-, -, s0, s1⟩ := LG_k L (j := y - gSt G j) (by omega) (by omega)
  have := gSt_mono hG T0 W (i := j) i ji iN
  rw [show gSt G j + (y - gSt G j) = y by omega] at p1
  omega
theorem order_ok (hG : GSz G T) (W : Wk G T N) (T0 : 0 ≤ T) (O : GrO K P G d T N) (h1 : cod = 1 → ∀ j : Int, 0 ≤ j → j < T → K j = 0) (h2 : cod = 2 → ∀ j : Int, 0 ≤ j → j < T → K j ≠ 2) (n : Nat) (hn : (n : Int) < T) : kdOk K P T cod n (K (n : Int)) ∧ plOk K P T n (K (n : Int)) (P (n : Int)) := by
  obtain ⟨i, iN, b1, b2⟩ := gSt_in (G := G) (j := (n : Int)) (by omega) N (by rw [W.2]; exact hn)
  have gb := gSt_b T0 hG i (fun z hz => W.1 z (by omega))
  obtain ⟨L, hj⟩ := O i iN
  obtain ⟨n1, n2⟩ := hG (gSt G i) (by omega) (W.1 i iN)
  have bb := fun {y : Int} => GrO_b (y := y) hG W T0 O (i := i) (by omega)
  obtain ⟨g, hg⟩ : ∃ g : Nat, (g : Int) = gSt G i := ⟨(gSt G i).toNat, by omega⟩
  obtain ⟨c, hc⟩ : ∃ c, G (gSt G i) = c := ⟨_, rfl⟩
  rw [hc] at L hj n1 n2 b2
  rw [← hg] at hj b1 b2 gb n2 bb
  obtain ⟨t, ht⟩ : ∃ t : Nat, n = g + t := ⟨n - g, by omega⟩
  subst ht
  have et : ((g + t : Nat) : Int) = (g : Int) + (t : Int) := by omega
  rw [et]
  obtain ⟨kt, pt⟩ := hj (t : Int) (by omega) (by omega)
  obtain ⟨q1, q2, q3, q4⟩ := LG_k L (j := (t : Int)) (by omega) (by omega)
  obtain ⟨o1, o2, o3⟩ := LG_o L (j := (t : Int)) (by omega) (by omega)
  rw [show ((t : Int)).toNat = t by omega] at o2 o3
  have kg : K (g : Int) ≠ 2 := by
    have := (hj 0 (by omega) (by omega)).1
    rw [Int.add_zero, L.1] at this
    omega
  have sh : ∀ y : Nat, 0 < y → y ≤ t → anc K 0 (g + y) = (g : Int) + anc (kkG c d) 0 y := fun y y0 y1 => by
    rw [anc_sh kg y y0]
    have : anc (fun j => K ((g : Int) + j)) 0 y = anc (kkG c d) 0 y := anc_c (fun j j0 j1 => (hj j j0 (by omega)).1)
    rw [this]
  have pl : plOk K P T (g + t) (K ((g : Int) + (t : Int))) (P ((g : Int) + (t : Int))) := by
    refine ⟨by rw [pt]; omega, ?_, fun e => ?_, fun e => ?_⟩
    · rintro ⟨y, y0, y1, y2⟩
      rw [pt] at y2
      by_cases cy : y < (g : Int)
      · have := bb y0 cy
        omega
      · have p2 := (hj (y - g) (by omega) (by omega)).2
        rw [show (g : Int) + (y - g) = y by omega] at p2
        have := o1 (y - g) (by omega) (by omega)
        omega
    · rw [kt] at e
      obtain ⟨z1, z2, z3, z4⟩ := o2 e
      have ar := anc_r (K := kkG c d) (fr := 0) t
      obtain ⟨x, hx⟩ : ∃ x, anc (kkG c d) 0 t = x := ⟨_, rfl⟩
      rw [hx] at z1 z2 z3 z4 ar
      have ar2 := anc_r (K := kkG c d) (fr := 0) x.toNat
      rw [sh t (by omega) (Nat.le_refl _), hx, show ((g : Int) + x).toNat = g + x.toNat by omega, sh x.toNat (by omega) (by omega), pt, (hj _ z1 (by omega)).2, (hj x (by omega) (by omega)).2]
      omega
    · rw [kt] at e
      by_cases ct : t = 0
      · subst ct
        by_cases cg : g = 0
        · left
          rw [cg]
          rfl
        · right
          have ar := anc_r (K := K) (fr := 0) (g + 0)
          have ag : 0 ≤ anc K 0 (g + 0) := by
            have k0 : K 0 ≠ 2 := by
              obtain ⟨L0, hj0⟩ := O 0 (by omega)
              have g0 : gSt G 0 = 0 := rfl
              obtain ⟨u1, u2⟩ := hG (gSt G 0) (by rw [g0]; omega) (W.1 0 (by omega))
              have := (hj0 0 (by omega) (by omega)).1
              rw [g0, Int.add_zero] at this
              rw [this]
              rw [g0] at L0
              rw [L0.1]
              decide
            exact anc_ge k0 (by omega)
          have := bb ag (by omega)
          rw [pt]
          omega
      · right
        obtain ⟨z1, z2⟩ := o3 e (by omega)
        have ar := anc_r (K := kkG c d) (fr := 0) t
        rw [sh t (by omega) (Nat.le_refl _), pt, (hj _ z1 (by omega)).2]
        omega
  refine ⟨⟨by rw [kt]; exact q1, by rw [kt]; exact q2, fun e => ?_, fun e => h1 e _ (by omega) (by omega), fun e => h2 e _ (by omega) (by omega), fun e => ?_, ⟨_, pl⟩⟩, pl⟩
  · have e1 : g = 0 := by omega
    have e2 : t = 0 := by omega
    rw [kt, e2]
    exact L.1
  · rw [kt] at e
    obtain ⟨z1, z2, -, -⟩ := o2 e
    have ar := anc_r (K := kkG c d) (fr := 0) t
    obtain ⟨x, hx⟩ : ∃ x, anc (kkG c d) 0 t = x := ⟨_, rfl⟩
    rw [hx] at z1 z2 ar
    rw [sh t (by omega) (Nat.le_refl _), hx, show ((g : Int) + x).toNat = g + x.toNat by omega, sh x.toNat (by omega) (by omega)]
    omega
end OrderP
