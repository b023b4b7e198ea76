/-! a parsed film's heads are a film's -/
theorem Prs_PV {I I' m m' : jM} {a : Nat} {len : Int} (H : Prs I I' m m' a len) : PV (m' 76 32) (m' 76 35) (m' 102) (m' 103) (m' 104) (m' 105) (m' 106) len (fun i => m 112 i % 256) := by
  obtain ⟨T, cod, w, h, rt, I1, m1, hs, e112, hi, hm, hsd, hrt, t1, t2, c0, c2⟩ := H
  obtain ⟨-, -, -, -, -, pv, z0, hp, -, -⟩ := hs
  have eT : ((T.toNat : Nat) : Int) = T := by omega
  have zz := z0 (by omega)
  have pp := hp.2 (by omega)
  rw [eT] at pp pv
  rw [hm.1, hm.2.2.2.1]
  refine ⟨t1, t2, c0, c2, zz.2, zz.1, pp.symm, fun k k0 k1 => ?_⟩
  have := pv k k0 k1
  rw [e112] at this
  exact this
/-- what class and model keep of a parsed film, head by head -/
theorem Prs_eq {I I' m m' : jM} {a : Nat} {len : Int} (H : Prs I I' m m' a len) : ∀ j : Int, 0 ≤ j → j < m' 76 35 → I' (a + 1) j = m' 102 j ∧ I' (a + 2) j = m' 103 j ∧ I' (a + 3) j = m' 104 j ∧ I' (a + 4) j = m' 105 j ∧ I' (a + 5) j = m' 106 j ∧ I' (a + 6) (m' 103 j) = j := by
  obtain ⟨T, cod, w, h, rt, I1, m1, hs, e112, hi, hm, hsd, hrt, t1, t2, c0, c2⟩ := H
  obtain ⟨-, -, -, -, eq, -⟩ := hs
  intro j j0 j1
  rw [hm.2.2.2.1] at j1
  exact eq j j0 (by omega)
