/-! heads in the class: places that fit; one head more -/
theorem anc_c {K K' : Int → Int} {fr : Int} {n : Nat} (h : ∀ j : Int, 0 ≤ j → j < n → K j = K' j) : anc K fr n = anc K' fr n := by
  induction n with
  | zero => rfl
  | succ n ih => rw [anc_s, anc_s, ih (fun j h1 h2 => h j h1 (by omega)), h n (by omega) (by omega)]
theorem tkn_c {P P' : Int → Int} {n x : Int} (h : ∀ j : Int, 0 ≤ j → j < n → P j = P' j) : tkn P n x ↔ tkn P' n x :=
  ⟨fun ⟨j, j0, j1, j2⟩ => ⟨j, j0, j1, by rw [← h j j0 j1]; exact j2⟩, fun ⟨j, j0, j1, j2⟩ => ⟨j, j0, j1, by rw [h j j0 j1]; exact j2⟩⟩
section HeadP
variable {s : hS} {Q : hQ} {hm : hO} {I I' m : jM} {a n : Nat} {f kd x T cod : Int}
theorem HdC_c (H : HdC I a n T cod) (e0 : I' a 0 = I a 0) (e4 : I' a 4 = I a 4) (e1 : ∀ j : Int, 0 ≤ j → j < n → I' (a + 1) j = I (a + 1) j) (e2 : ∀ j : Int, 0 ≤ j → j < n → I' (a + 2) j = I (a + 2) j) (e6 : I' (a + 6) = I (a + 6)) : HdC I' a n T cod := by
  obtain ⟨c0, c4, cc, tt, kk, vv, mx⟩ := H
  have ea : anc (I' (a + 1)) 0 n = anc (I (a + 1)) 0 n := anc_c e1
  refine ⟨e0.trans c0, e4.trans c4, cc, tt, fun j j0 j1 => by rw [e1 j j0 j1, e2 j j0 j1]; exact kk j j0 j1, fun y y0 y1 => ?_, fun hn => ?_⟩
  · rw [e6]
    exact ⟨(vv y y0 y1).1, (vv y y0 y1).2.trans (tkn_c (fun j j0 j1 => (e2 j j0 j1).symm))⟩
  · rw [ea]
    have r1 := anc_r (K := I (a + 1)) (fr := 0) n
    obtain ⟨m1, m2⟩ := mx hn
    refine ⟨m1, fun j j0 j1 => ?_⟩
    rw [e2 j j0 j1, e2 _ m1 (by omega)]
    exact m2 j j0 j1
theorem HdC_s (H : HdC I a n T cod) (hn : (n : Int) < T) (k0 : 0 ≤ kd ∧ kd ≤ 2) (hz : n = 0 → kd = 0) (po : plOk (I (a + 1)) (I (a + 2)) T n kd x) (e0 : I' a 0 = I a 0) (e4 : I' a 4 = I a 4) (e1 : I' (a + 1) = jiu (I (a + 1)) n kd) (e2 : I' (a + 2) = jiu (I (a + 2)) n x) (e6 : I' (a + 6) = jiu (I (a + 6)) x n) : HdC I' a (n + 1) T cod := by
  obtain ⟨c0, c4, cc, tt, kk, vv, mx⟩ := H
  obtain ⟨p1, p2, p3, p4⟩ := po
  have r1 := anc_r (K := I (a + 1)) (fr := 0) n
  have lK : ∀ j : Int, 0 ≤ j → j < n → I' (a + 1) j = I (a + 1) j := fun j j0 j1 => by rw [e1]; exact if_neg (by omega)
  have lP : ∀ j : Int, 0 ≤ j → j < n → I' (a + 2) j = I (a + 2) j := fun j j0 j1 => by rw [e2]; exact if_neg (by omega)
  have nK : I' (a + 1) n = kd := by rw [e1]; exact if_pos rfl
  have nP : I' (a + 2) n = x := by rw [e2]; exact if_pos rfl
  have ea : anc (I' (a + 1)) 0 n = anc (I (a + 1)) 0 n := anc_c lK
  refine ⟨e0.trans c0, e4.trans c4, cc, ⟨by omega, tt.2.1, tt.2.2⟩, fun j j0 j1 => ?_, fun y y0 y1 => ?_, fun _ => ?_⟩
  · by_cases ej : j = n
    · rw [ej, nK, nP]
      exact ⟨k0, p1⟩
    · rw [lK j j0 (by omega), lP j j0 (by omega)]
      exact kk j j0 (by omega)
  · rw [e6]
    unfold jiu
    by_cases ey : y = x
    · rw [if_pos ey]
      refine ⟨by unfold okI; omega, fun _ => ⟨n, by omega, by omega, by rw [ey]; exact nP⟩, fun _ => by omega⟩
    · rw [if_neg ey]
      refine ⟨(vv y y0 y1).1, (vv y y0 y1).2.trans ⟨fun ⟨j, j0, j1, j2⟩ => ⟨j, j0, by omega, by rw [lP j j0 j1]; exact j2⟩, fun ⟨j, j0, j1, j2⟩ => ?_⟩⟩
      by_cases ej : j = n
      · rw [ej, nP] at j2
        exact absurd j2.symm ey
      · exact ⟨j, j0, by omega, by rw [← lP j j0 (by omega)]; exact j2⟩
  · rw [anc_s, if_neg (by omega), nK, ea]
    by_cases ck : kd = 2
    · have n0 : 0 < n := by
        by_cases h : n = 0
        · have := hz h
          omega
        · omega
      obtain ⟨m1, m2⟩ := mx n0
      rw [if_neg (fun h => h ck)]
      refine ⟨m1, fun j j0 j1 => ?_⟩
      rw [lP _ m1 (by omega)]
      by_cases ej : j = n
      · rw [ej, nP]
        have := p3 ck
        omega
      · rw [lP j j0 (by omega)]
        exact m2 j j0 (by omega)
    · rw [if_pos ck]
      refine ⟨by omega, fun j j0 j1 => ?_⟩
      rw [nP]
      by_cases ej : j = n
      · rw [ej, nP]
        omega
      · rw [lP j j0 (by omega)]
        have q := p4 ck
        have n0 : 0 < n := by omega
        obtain ⟨m1, m2⟩ := mx n0
        have := m2 j j0 (by omega)
        omega
theorem c_34 (F : FilmAt s Q hm a f) (h6 : s.1 ≤ 1000000) (H : HdC I a n T cod) (hn : n < 12) (hk : I (a + 1) n = kd) (hk' : 0 ≤ kd ∧ kd ≤ 2) (hz : n = 0 → kd = 0) (hx : I (a + 2) n = x) (hx' : 0 ≤ x ∧ x ≤ 255) : ∃ e, jd_34 a (n : Int) (hh s Q I) = some e ∧ (e = 0 ∨ e = 1) ∧ ((kd = 2 → anc (I (a + 1)) 0 (anc (I (a + 1)) 0 n).toNat ≠ -1) → (e = 1 ↔ plOk (I (a + 1)) (I (a + 2)) T n kd x)) := by
  obtain ⟨c0, c4, cc, tt, kk, vv, mx⟩ := H
  have e7 := F_q F 0 7 rfl rfl
  have e8 := F_q F 1 8 rfl rfl
  have e12 := F_q F 5 12 rfl rfl
  have i4 : I a ((4 : Nat) : Int) = T := c4
  have hKo : ∀ j : Int, 0 ≤ j → j < (n : Int) → okI (I (a + 1) j) := fun j j0 j1 => by
    have := (kk j j0 j1).1
    unfold okI
    omega
  have a1 := c_35 (I := I) (Q := Q) (hm := hm) F h6 (fr := 0) (N := (n : Int)) (by omega) hKo (by decide) (by decide) n (by omega)
  have r1 := anc_r (K := I (a + 1)) (fr := 0) n
  have r2 := anc_r (K := I (a + 1)) (fr := 0) (anc (I (a + 1)) 0 n).toNat
  generalize hK : I (a + 1) = K at *
  generalize hP : I (a + 2) = P at *
  generalize hV : I (a + 6) = V at *
  have a2 : 0 ≤ anc K 0 n → jd_35 a (anc K 0 n) 0 (hh s Q I) = some (anc K 0 (anc K 0 n).toNat) := fun h => by
    have := c_35 (I := I) (Q := Q) (hm := hm) F h6 (fr := 0) (N := (n : Int)) (by omega) (by rw [hK]; exact hKo) (by decide) (by decide) (anc K 0 n).toNat (by omega)
    rw [show (((anc K 0 n).toNat : Nat) : Int) = anc K 0 n by omega, hK] at this
    exact this
  have aiK : ∀ j : Int, 0 ≤ j → j < 12 → jai (hh s Q I) (a + (0 + 1)) j = some (K j) := fun j j0 j1 => by
    rw [← hK]
    exact F_ai F h6 1 12 rfl rfl rfl j0 (by omega)
  have aiP : ∀ j : Int, 0 ≤ j → j < 12 → jai (hh s Q I) (a + (1 + 1)) j = some (P j) := fun j j0 j1 => by
    rw [← hP]
    exact F_ai F h6 2 12 rfl rfl rfl j0 (by omega)
  have aiV : ∀ j : Int, 0 ≤ j → j < 12 → jai (hh s Q I) (a + (5 + 1)) j = some (V j) := fun j j0 j1 => by
    rw [← hV]
    exact F_ai F h6 6 12 rfl rfl rfl j0 (by omega)
  unfold jd_34 jd_34_b24 jd_34_b101 jd_34_b102 jd_34_b62
  rw [F_gr F, Option.bind_some, e8, Option.bind_some, aiP (n : Int) (by omega) (by omega), Option.bind_some, hx, F_gi F, Option.bind_some, i4, n_jw (z := T) (by omega) (by omega), n_jw (z := x) (by omega) (by omega)]
  by_cases c1 : T ≤ x
  · rw [if_pos c1]
    exact ⟨0, rfl, Or.inl rfl, fun _ => ⟨fun h => by omega, fun h => by have := h.1; omega⟩⟩
  · have vx := vv x (by omega) (by omega)
    rw [if_neg c1, F_gr F, Option.bind_some, e12, Option.bind_some, aiV x (by omega) (by omega), Option.bind_some, n_jw vx.1.1 vx.1.2]
    by_cases c2 : V x < 0
    · have nt : ¬ tkn P (n : Int) x := fun h => by have := vx.2.mpr h; omega
      rw [if_pos c2, F_ck F, Option.bind_some, a1, Option.bind_some, F_gr F, Option.bind_some, e7, Option.bind_some, aiK (n : Int) (by omega) (by omega), Option.bind_some, hk, n_jw (z := kd) (by omega) (by omega)]
      by_cases ck : kd = 2
      · have n0 : 0 < n := by
          by_cases h : n = 0
          · have := hz h
            omega
          · omega
        have A0 := (mx n0).1
        have pA := kk (anc K 0 n) A0 (by omega)
        rw [if_pos ck, Option.bind_some, a2 A0, Option.bind_some, n_jw (z := anc K 0 (anc K 0 n).toNat) (by omega) (by omega)]
        by_cases cb : anc K 0 (anc K 0 n).toNat < 0
        · rw [if_pos cb]
          exact ⟨0, rfl, Or.inl rfl, fun h => absurd (by omega) (h ck)⟩
        · have pB := kk (anc K 0 (anc K 0 n).toNat) (by omega) (by omega)
          rw [if_neg cb, Option.bind_some, Option.bind_some, aiP _ (by omega) (by omega), Option.bind_some, n_jw (z := P (anc K 0 (anc K 0 n).toNat)) (by omega) (by omega)]
          by_cases c5 : x ≤ P (anc K 0 (anc K 0 n).toNat)
          · rw [if_pos c5]
            exact ⟨0, rfl, Or.inl rfl, fun _ => ⟨fun h => by omega, fun h => by have := h.2.2.1 ck; omega⟩⟩
          · rw [if_neg c5, Option.bind_some, Option.bind_some, aiP _ A0 (by omega), Option.bind_some, n_jw (z := P (anc K 0 n)) (by omega) (by omega)]
            by_cases c6 : P (anc K 0 n) ≤ x
            · rw [if_pos c6]
              exact ⟨0, rfl, Or.inl rfl, fun _ => ⟨fun h => by omega, fun h => by have := h.2.2.1 ck; omega⟩⟩
            · rw [if_neg c6]
              exact ⟨1, rfl, Or.inr rfl, fun _ => ⟨fun _ => ⟨⟨by omega, by omega⟩, nt, fun _ => ⟨by omega, by omega⟩, fun h => absurd ck h⟩, fun _ => rfl⟩⟩
      · rw [if_neg ck, n_jw (z := anc K 0 n) (by omega) (by omega)]
        by_cases ca : anc K 0 n < 0
        · rw [if_pos ca]
          exact ⟨1, rfl, Or.inr rfl, fun _ => ⟨fun _ => ⟨⟨by omega, by omega⟩, nt, fun h => absurd h ck, fun _ => Or.inl (by omega)⟩, fun _ => rfl⟩⟩
        · have pA := kk (anc K 0 n) (by omega) (by omega)
          rw [if_neg ca, Option.bind_some, Option.bind_some, aiP _ (by omega) (by omega), Option.bind_some, n_jw (z := P (anc K 0 n)) (by omega) (by omega)]
          by_cases c5 : x ≤ P (anc K 0 n)
          · rw [if_pos c5]
            exact ⟨0, rfl, Or.inl rfl, fun _ => ⟨fun h => by omega, fun h => by have := h.2.2.2 ck; omega⟩⟩
          · rw [if_neg c5]
            exact ⟨1, rfl, Or.inr rfl, fun _ => ⟨fun _ => ⟨⟨by omega, by omega⟩, nt, fun h => absurd h ck, fun _ => Or.inr (by omega)⟩, fun _ => rfl⟩⟩
    · rw [if_neg c2]
      exact ⟨0, rfl, Or.inl rfl, fun _ => ⟨fun h => by omega, fun h => absurd (vx.2.mp (by omega)) h.2.1⟩⟩
end HeadP
