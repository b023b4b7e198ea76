/-! making: the order of a group, whole, both sides -/
section LayA
variable {s : hS} {Q : hQ} {hm : hO} {I I0 m m0 : jM} {a : Nat} {f g p n c d : Int}
theorem k_294a {M : jM} {x3 x4 x5 : Int} (n0 : 0 ≤ n) (n1 : n ≤ 12) (h35 : M 76 35 = n) : jd_294_l13 g x3 x4 x5 0 M = some (ims M 103 (fun z => if 0 ≤ z ∧ z < n then M 103 z + g else M 103 z)) := by
  unfold jd_294_l13
  have := w_for (f := fun u : (Int × jM) => jd_294_s13 g x3 x4 x5 u.1 u.2) (fun k => ((k : Int), ims M 103 (fun z => if 0 ≤ z ∧ z < (k : Int) then M 103 z + g else M 103 z))) n.toNat (x := ims M 103 (fun z => if 0 ≤ z ∧ z < n then M 103 z + g else M 103 z)) (fun k hk => ?_) ?_ (n_fu (by omega))
  · have e : ims M 103 (fun z => if 0 ≤ z ∧ z < ((0 : Nat) : Int) then M 103 z + g else M 103 z) = M := by
      have : (fun z : Int => if 0 ≤ z ∧ z < ((0 : Nat) : Int) then M 103 z + g else M 103 z) = M 103 := by
        funext z
        exact if_neg (by omega)
      rw [this]
      exact ims_self
    rw [e] at this
    exact this
  · dsimp only
    obtain ⟨N, hN⟩ : ∃ N, N = ims M 103 (fun z => if 0 ≤ z ∧ z < (k : Int) then M 103 z + g else M 103 z) := ⟨_, rfl⟩
    have N35 : N 76 35 = n := by rw [hN, ims_o (by decide)]; exact h35
    have Nk : N 103 (k : Int) = M 103 (k : Int) := by
      rw [hN, ims_e]
      exact if_neg (by omega)
    have eN : jms N 103 (k : Int) (M 103 (k : Int) + g) = ims M 103 (fun z => if 0 ≤ z ∧ z < ((k + 1 : Nat) : Int) then M 103 z + g else M 103 z) := by
      rw [hN, ims_jms]
      congr 1
      funext z
      unfold jiu
      by_cases e : z = (k : Int)
      · rw [if_pos e, if_pos (by omega), e]
      · rw [if_neg e]
        dsimp only
        by_cases e2 : 0 ≤ z ∧ z < (k : Int)
        · rw [if_pos e2, if_pos (by omega)]
        · rw [if_neg e2, if_neg (by omega)]
    rw [← hN, ← eN]
    unfold jd_294_s13
    rw [N35, n_jw (z := n) (by omega) (by omega), n_jw (z := (k : Int)) (by omega) (by omega), if_neg (by omega), y_ma 103 12 rfl rfl (by omega) (by omega), Option.bind_some, Nk, y_mw 103 12 rfl rfl (by omega) (by omega), Option.bind_some]
    rfl
  · dsimp only
    obtain ⟨N, hN⟩ : ∃ N, N = ims M 103 (fun z => if 0 ≤ z ∧ z < ((n.toNat : Nat) : Int) then M 103 z + g else M 103 z) := ⟨_, rfl⟩
    have N35 : N 76 35 = n := by rw [hN, ims_o (by decide)]; exact h35
    have hN' : N = ims M 103 (fun z => if 0 ≤ z ∧ z < n then M 103 z + g else M 103 z) := by
      rw [hN, show ((n.toNat : Nat) : Int) = n by omega]
    rw [← hN, ← hN']
    unfold jd_294_s13
    rw [N35, n_jw (z := n) (by omega) (by omega), n_jw (z := ((n.toNat : Nat) : Int)) (by omega) (by omega), if_pos (by omega)]
/-- what a laid group leaves as it was -/
def LF (I I' m m' : jM) (a : Nat) (p n : Int) : Prop := (∀ x : Nat, x ≠ a + 1 → x ≠ a + 2 → I' x = I x) ∧ (∀ z : Int, z < p ∨ p + n ≤ z → I' (a + 1) z = I (a + 1) z ∧ I' (a + 2) z = I (a + 2) z) ∧ (∀ x : Nat, x ≠ 76 → x ≠ 102 → x ≠ 103 → m' x = m x) ∧ (∀ z : Int, z ≠ 35 → z ≠ 36 → z ≠ 83 → m' 76 z = m 76 z)
theorem lay_g (F : FilmAt s Q hm a f) (p0 : 0 ≤ p) (pn : p + n ≤ 12) (n0 : 1 ≤ n) (d0 : 0 ≤ d) (d1 : d ≤ 1000) (hd : (jw (m 76 32) = 0 ∧ m 82 2 = d) ∨ (¬ jw (m 76 32) = 0 ∧ d = 0)) {x3 x4 x5 : Int} : ∃ (I' M m' : jM), jd_64 (some a) p g n d (hh s Q I) = some (hh s Q I') ∧ jd_293 n m = some M ∧ jd_294_l13 g x3 x4 x5 0 (jms M 76 83 0) = some m' ∧ (m' 76 35 = n ∧ m' 76 36 = 0 ∧ m' 76 83 = 0) ∧ LG (M 102) (M 103) n n ∧ m' 102 = M 102 ∧ (∀ j : Int, 0 ≤ j → j < n → I' (a + 1) (p + j) = m' 102 j ∧ I' (a + 2) (p + j) = m' 103 j ∧ m' 103 j = g + M 103 j) ∧ LF I I' m m' a p n := by
  have q7 := F_q F 0 7 rfl rfl
  have q8 := F_q F 1 8 rfl rfl
  obtain ⟨I1, hI1⟩ : ∃ z, z = jms (jms I (a + 1) p 0) (a + 2) p g := ⟨_, rfl⟩
  obtain ⟨m0, hm0⟩ : ∃ z, z = jms (jms m 76 35 0) 76 36 0 := ⟨_, rfl⟩
  obtain ⟨m1, hm1⟩ : ∃ z, z = jms (jms (jms m0 102 0 0) 103 0 0) 76 35 (0 + 1) := ⟨_, rfl⟩
  have f0 : ∀ x : Nat, x ≠ 76 → m0 x = m x := fun x hx => by rw [hm0, jms_o hx, jms_o hx]
  have f1 : ∀ z : Int, z ≠ 35 → z ≠ 36 → m0 76 z = m 76 z := fun z z1 z2 => by rw [hm0, jms_i z2, jms_i z1]
  have m035 : m0 76 35 = 0 := by rw [hm0, jms_i (by decide), jms_e]
  have m036 : m0 76 36 = 0 := by rw [hm0, jms_e]
  have hd0 : (jw (m0 76 32) = 0 ∧ m0 82 2 = d) ∨ (¬ jw (m0 76 32) = 0 ∧ d = 0) := by
    rw [f1 32 (by decide) (by decide), f0 82 (by decide)]
    exact hd
  have R1 : LR I m0 I1 m1 a p g n 1 := by
    refine ⟨by rw [hm1, jms_e]; rfl, fun j j0 j1 => ?_, ⟨by rw [hm1, jms_o (by decide), jms_o (by decide), jms_e], by rw [hm1, jms_o (by decide), jms_e], fun j j0 j1 => absurd j1 (by omega)⟩, fun x x1 x2 => by rw [hI1, jms_o x2, jms_o x1], fun z hz => ?_, fun x x1 x2 x3 => by rw [hm1, jms_o x1, jms_o x3, jms_o x2], fun z hz => by rw [hm1, jms_i hz, jms_o (by decide), jms_o (by decide)], fun z hz => ?_⟩
    · have : j = 0 := by omega
      rw [this, Int.add_zero]
      refine ⟨?_, ?_⟩
      · rw [hI1, hm1, jms_o (by omega), jms_e, jms_o (by decide), jms_o (by decide), jms_e]
      · rw [hI1, hm1, jms_e, jms_o (by decide), jms_e, Int.add_zero]
    · rw [hI1, jms_o (show a + 1 ≠ a + 2 by omega), jms_i (show z ≠ p by omega), jms_i (show z ≠ p by omega), jms_o (show a + 2 ≠ a + 1 by omega)]
      exact ⟨rfl, rfl⟩
    · rw [hm1, jms_o (show (102 : Nat) ≠ 76 by decide), jms_o (show (102 : Nat) ≠ 103 by decide), jms_i (show z ≠ 0 by omega), jms_o (show (103 : Nat) ≠ 76 by decide), jms_i (show z ≠ 0 by omega), jms_o (show (103 : Nat) ≠ 102 by decide)]
      exact ⟨rfl, rfl⟩
  obtain ⟨I', M, e1, e2, R2⟩ := lay_out (fu := 99999999) F p0 pn n0 d0 d1 hd0 R1 (by decide)
  obtain ⟨r1, r2, r3, r4, r5, r6, r7, r8⟩ := R2
  have s293 : jd_293_s14 n 0 0 m0 = some (.inl (0, 0 + 1, m1)) := by
    rw [k_293s (m := m0) (m0 := m0) rfl rfl (by omega) n0 d0 d1 hd0 (by omega) (by omega), if_neg (by omega), if_pos (Or.inl (Int.zero_emod _))]
    have v1 : jms m0 102 0 0 76 35 = 0 := by rw [jms_o (by decide)]; exact m035
    have v2 : jms (jms m0 102 0 0) 103 0 0 76 35 = 0 := by rw [jms_o (by decide)]; exact v1
    have l0 : jd_293_l104 n 0 (0 + 1) m1 = some m1 := by
      unfold jd_293_l104
      exact jlp_r (n := 99999999) (by
        show jd_293_s104 n 0 (0 + 1) m1 = _
        unfold jd_293_s104
        rw [if_pos (by decide)])
    unfold jd_293_b51
    rw [if_neg (show ¬ jw 1 = 0 by decide), if_pos (show jw 0 = 0 by decide), m035, y_mw 102 12 rfl rfl (by decide) (by decide), Option.bind_some, v1, y_mw 103 12 rfl rfl (by decide) (by decide), Option.bind_some, v2, Option.bind_some, ← hm1, l0, Option.bind_some]
    rfl
  have e293 : jd_293 n m = some M := by
    unfold jd_293 jd_293_l14
    rw [Option.bind_some, Option.bind_some, ← hm0]
    have : jlp (fun u : (Int × Int × jM) => jd_293_s14 n u.1 u.2.1 u.2.2) jfu (0, 0, m0) = some M := by
      show jlp (fun u : (Int × Int × jM) => jd_293_s14 n u.1 u.2.1 u.2.2) (99999999 + 1) (0, 0, m0) = some M
      rw [jlp_i (v := (0, 0 + 1, m1)) s293]
      exact e2
    rw [this, Option.bind_some]
  have M83 : jms M 76 83 0 76 35 = n := by rw [jms_i (by decide)]; exact r1
  have o103 : jms M 76 83 0 103 = M 103 := jms_o (by decide)
  refine ⟨I', M, _, ?_, e293, k_294a (by omega) (by omega) M83, ⟨by rw [ims_o (by decide)]; exact M83, by rw [ims_o (by decide), jms_i (by decide), r7 36 (by decide)]; exact m036, by rw [ims_o (by decide), jms_e]⟩, r3, by rw [ims_o (by decide), jms_o (by decide)], fun j j0 j1 => ?_, r4, r5, fun x x1 x2 x3 => by rw [ims_o x3, jms_o x1, r6 x x1 x2 x3, f0 x x1], fun z z1 z2 z3 => by rw [ims_o (by decide), jms_i z3, r7 z z1, f1 z z1 z2]⟩
  · unfold jd_64
    rw [Option.bind_some, F_gr F, Option.bind_some, q7, Option.bind_some, F_ta F 1 0 12 rfl rfl rfl p0 (by omega), Option.bind_some, Option.bind_some, F_gr F, Option.bind_some, q8, Option.bind_some, F_ta F 2 0 12 rfl rfl rfl p0 (by omega), Option.bind_some, show jms (jms I (a + (0 + 1)) p 0) (a + (1 + 1)) p g = I1 from hI1.symm, e1, Option.bind_some]
  · obtain ⟨h1, h2⟩ := r2 j j0 j1
    have e : ims (jms M 76 83 0) 103 (fun z => if 0 ≤ z ∧ z < n then jms M 76 83 0 103 z + g else jms M 76 83 0 103 z) 103 j = g + M 103 j := by
      rw [ims_e, if_pos ⟨j0, j1⟩, o103]
      omega
    rw [e, ims_o (by decide), jms_o (by decide)]
    exact ⟨h1, h2, rfl⟩
end LayA
