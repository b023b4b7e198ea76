/-! filter: a new filter's cells; the relation; the call -/
section FilterC
variable {s : hS} {Q Q' : hQ} {hm : hO} {I I' m m' : jM} {a b : Nat} {q z n : Int}
theorem sq_7 (k b : Nat) : sq 7 k ≠ some b := by
  intro h
  unfold sq at h
  split at h <;> simp_all
theorem cn_3 : mm_cn 3 = 6 := rfl
def fSh (s : hS) : hS := s_mk (s_mk (s_mk s 6 11 0) 200 0 200) 200 0 200
def fOw3 (hm : hO) (b : Nat) (o : Int) : hO := fun x => if x = b ∨ x = b + 1 ∨ x = b + 2 then o else hm x
theorem c_new3 (h6 : s.1 + 3 ≤ 1000000) : ∃ (n : Nat × jH) (Q' : hQ) (I' : jM), jnw (hh s Q I) 3 = some n ∧ n.1 = s.1 ∧ jd_44 n.1 n.2 = some (hh (fSh s) Q' I') ∧ (∀ x : Nat, x < s.1 → Q' x = Q x ∧ I' x = I x) ∧ Q' s.1 0 = some (s.1 + 1) ∧ Q' s.1 2 = some (s.1 + 2) := by
  have t1 : (s_mk s 6 11 0).2.2.1 s.1 = 3 + 8 := if_pos rfl
  have t2 : (s_mk (s_mk s 6 11 0) 200 0 200).2.2.1 s.1 = 3 + 8 := by
    show (if s.1 = s.1 + 1 then 0 else if s.1 = s.1 then 11 else s.2.2.1 s.1) = 3 + 8
    rw [if_neg (by omega), if_pos rfl]
  have t3 : (fSh s).2.2.1 s.1 = 3 + 8 := by
    show (if s.1 = s.1 + 1 + 1 then 0 else if s.1 = s.1 + 1 then 0 else if s.1 = s.1 then 11 else s.2.2.1 s.1) = 3 + 8
    rw [if_neg (by omega), if_neg (by omega), if_pos rfl]
  have l2 : s.1 < (s_mk (s_mk s 6 11 0) 200 0 200).1 := by unfold s_mk; dsimp only; omega
  have l3 : s.1 < (fSh s).1 := by unfold fSh s_mk; dsimp only; omega
  obtain ⟨Q1, hQ1⟩ : ∃ Q1, Q1 = rms (r_mk (r_mk Q s.1) (s.1 + 1)) s.1 0 (some (s.1 + 1)) := ⟨_, rfl⟩
  obtain ⟨I1, hI1⟩ : ∃ I1, I1 = jms (i_mk (i_mk I s.1) (s.1 + 1)) s.1 1 0 := ⟨_, rfl⟩
  refine ⟨_, rms (rms (r_mk Q1 (s.1 + 2)) s.1 2 (some (s.1 + 2))) s.1 3 none, jms (jms (i_mk I1 (s.1 + 2)) s.1 4 0) s.1 5 0, by rw [x_nw (by omega), cn_3], rfl, ?_, fun x hx => ⟨?_, ?_⟩, ?_, ?_⟩
  · show jd_44 s.1 (hh (s_mk s 6 11 0) (r_mk Q s.1) (i_mk I s.1)) = _
    have e1 : jna (hh (s_mk s 6 11 0) (r_mk Q s.1) (i_mk I s.1)) 0 200 = some (s.1 + 1, hh (s_mk (s_mk s 6 11 0) 200 0 200) (r_mk (r_mk Q s.1) (s.1 + 1)) (i_mk (i_mk I s.1) (s.1 + 1))) := x_na (show s.1 + 1 < 1000000 by omega) (by decide) (by decide)
    have e2 : jpr (hh (s_mk (s_mk s 6 11 0) 200 0 200) (r_mk (r_mk Q s.1) (s.1 + 1)) (i_mk (i_mk I s.1) (s.1 + 1))) s.1 3 0 (some (s.1 + 1)) = some (hh (s_mk (s_mk s 6 11 0) 200 0 200) Q1 (i_mk (i_mk I s.1) (s.1 + 1))) := by rw [hQ1]; exact x_pr l2 t2
    have e3 : jpi (hh (s_mk (s_mk s 6 11 0) 200 0 200) Q1 (i_mk (i_mk I s.1) (s.1 + 1))) s.1 3 1 0 = some (hh (s_mk (s_mk s 6 11 0) 200 0 200) Q1 I1) := by rw [hI1]; exact x_pi l2 t2
    have e4 : jna (hh (s_mk (s_mk s 6 11 0) 200 0 200) Q1 I1) 0 200 = some (s.1 + 2, hh (fSh s) (r_mk Q1 (s.1 + 2)) (i_mk I1 (s.1 + 2))) := x_na (show s.1 + 1 + 1 < 1000000 by omega) (by decide) (by decide)
    unfold jd_44
    rw [e1, Option.bind_some]
    dsimp only
    rw [e2, Option.bind_some, e3, Option.bind_some, e4, Option.bind_some]
    dsimp only
    rw [x_pr l3 t3, Option.bind_some, x_pr l3 t3, Option.bind_some, x_pi l3 t3, Option.bind_some, x_pi l3 t3, Option.bind_some]
    rfl
  · rw [rms_o (by omega), rms_o (by omega)]
    unfold r_mk
    rw [if_neg (by omega), hQ1, rms_o (by omega)]
    unfold r_mk
    rw [if_neg (by omega), if_neg (by omega)]
  · rw [jms_o (by omega), jms_o (by omega)]
    unfold i_mk
    rw [if_neg (by omega), hI1, jms_o (by omega)]
    unfold i_mk
    rw [if_neg (by omega), if_neg (by omega)]
  · have e : rms (rms (r_mk Q1 (s.1 + 2)) s.1 2 (some (s.1 + 2))) s.1 3 none s.1 0 = Q1 s.1 0 := by
      rw [rms_i (by decide), rms_i (by decide)]
      unfold r_mk
      rw [if_neg (by omega)]
    rw [e, hQ1, rms_e]
  · rw [rms_i (by decide), rms_e]
theorem f_sh : (fSh s).1 = s.1 + 3 ∧ (fSh s).2.1 = s.2.1 + 406 ∧ (∀ x : Nat, x < s.1 → (fSh s).2.2.1 x = s.2.2.1 x ∧ (fSh s).2.2.2 x = s.2.2.2 x) ∧ ((fSh s).2.2.1 s.1 = 11 ∧ (fSh s).2.2.2 s.1 = 0) ∧ ((fSh s).2.2.1 (s.1 + 1) = 0 ∧ (fSh s).2.2.2 (s.1 + 1) = 200) ∧ ((fSh s).2.2.1 (s.1 + 2) = 0 ∧ (fSh s).2.2.2 (s.1 + 2) = 200) := by
  have T : ∀ x, (fSh s).2.2.1 x = if x = s.1 + 1 + 1 then 0 else if x = s.1 + 1 then 0 else if x = s.1 then 11 else s.2.2.1 x := fun _ => rfl
  have N : ∀ x, (fSh s).2.2.2 x = if x = s.1 + 1 + 1 then 200 else if x = s.1 + 1 then 200 else if x = s.1 then 0 else s.2.2.2 x := fun _ => rfl
  refine ⟨rfl, rfl, fun x hx => ?_, ⟨?_, ?_⟩, ⟨?_, ?_⟩, ⟨?_, ?_⟩⟩
  · rw [T, N, if_neg (by omega), if_neg (by omega), if_neg (by omega), if_neg (by omega), if_neg (by omega), if_neg (by omega)]
    exact ⟨rfl, rfl⟩
  · rw [T, if_neg (by omega), if_neg (by omega), if_pos rfl]
  · rw [N, if_neg (by omega), if_neg (by omega), if_pos rfl]
  · rw [T, if_neg (by omega), if_pos rfl]
  · rw [N, if_neg (by omega), if_pos rfl]
  · rw [T, if_pos rfl]
  · rw [N, if_pos rfl]
theorem RelH_slot7 (R : RelH s Q hm I m) (hz : m 76 92 ≤ z ∧ z < 8) (A : FltAt s Q hm b z) : RelH s (rms Q 7 z (some b)) hm I m := by
  have S : Sm (fun o => o ≠ 1007) s Q hm I s (rms Q 7 z (some b)) hm I := Sm_rms (by rw [Lo R.1 rfl]; decide)
  obtain ⟨L, r1, r2, r3, r4, r5, r6, r7, r8, r9⟩ := R
  obtain ⟨t1, t2, t3, t4, t5⟩ := r7
  refine ⟨Lay_rmsN L sq_7, RPic_fr L S (by omega) (fun i _ _ => by omega) rfl rfl rfl rfl rfl r1, r2, r3, RRee_fr L S (by omega) (fun i _ _ => by omega) rfl rfl rfl rfl rfl r4, RFil_fr L S (by omega) (fun i _ _ => by omega) (fun i _ _ => by omega) (fun i _ _ => by omega) rfl rfl (fun _ _ _ => rfl) r5, r6, ⟨t1, t2, t3, fun i h1 h2 a ha => ?_, fun i h1 h2 => ?_⟩, RPly_fr L S (by omega) (fun i _ _ => by omega) (fun i _ _ => by omega) rfl (fun _ _ _ => rfl) (fun _ _ _ => rfl) r9 r8, RMis_fr L S (by omega) (by omega) (by omega) (fun i _ _ => by omega) (fun i _ _ => by omega) (fun i _ _ => by omega) r9⟩
  · by_cases hi : i = z
    · subst hi
      rw [rms_e] at ha
      cases ha
      exact (FltAt_fr S (by omega) A).1
    · rw [rms_i hi] at ha
      exact (FltAt_fr S (by omega) (t4 i h1 h2 a ha)).1
  · obtain ⟨a, ha, X⟩ := t5 i h1 h2
    exact ⟨a, by rw [rms_i (by omega)]; exact ha, X⟩
/-- the relation when the filter beyond the count was worked on, and the tape emptied -/
theorem RelH_flt {q' : Int} (R : RelH s Q hm I m) (hq : m 76 92 = q) (q8 : q < 8) (ha : Q 7 q = some a) (hQ : Q' = rms Q a 3 (some 2)) (io : ∀ x : Nat, x ≠ 0 → x ≠ a → x ≠ a + 1 → I' x = I x) (i0 : ∀ z : Int, z ≠ 3 → z ≠ 12 → I' 0 z = I 0 z) (i3 : I' 0 3 = 0) (i12 : I' 0 12 = q') (mo : ∀ x : Nat, x ≠ 76 → (x < 135 ∨ 139 < x) → m' x = m x) (m76 : ∀ z : Int, z ≠ 5 → z ≠ 92 → z ≠ 0 → z < 96 → m' 76 z = m 76 z) (m5 : m' 76 5 = 0) (m92 : m' 76 92 = q') (m135 : ∀ z : Int, z ≠ q → m' 135 z = m 135 z) (m136 : ∀ z : Int, z < 400 * q ∨ 400 * q + 400 ≤ z → m' 136 z = m 136 z ∧ m' 137 z = m 137 z) (hc : q' = q ∨ (q' = q + 1 ∧ FltC I' m' a q)) : RelH s Q' hm I' m' := by
  obtain ⟨L, r1, r2, r3, r4, r5, r6, r7, r8, r9⟩ := R
  obtain ⟨t1, t2, t3, t4, t5⟩ := r7
  have q0 : 0 ≤ q := by omega
  have A := t4 q q0 q8 a ha
  obtain ⟨A1, A2, A3, A4, A5, A6⟩ := id A
  have S : Sm (fun o => o ≠ 520 + q ∧ o ≠ 1000) s Q hm I s Q' hm I' := ⟨Nat.le_refl _, fun x hx hp => by
    have x0 : x ≠ 0 := fun e => hp.2 (by rw [e, Lo L rfl]; rfl)
    have xa : x ≠ a := fun e => hp.1 (by rw [e]; exact A2.2.2.2)
    have xb : x ≠ a + 1 := fun e => hp.1 (by rw [e]; exact A3.2.2.2)
    exact ⟨rfl, rfl, by rw [hQ, rms_o xa], io x x0 xa xb, rfl⟩⟩
  have L' : Lay s Q' hm := by rw [hQ]; exact Lay_rmsD L (by omega)
  have j2 : I' 2 = I 2 := io 2 (by decide) (by omega) (by omega)
  have j3 : I' 3 = I 3 := io 3 (by decide) (by omega) (by omega)
  have j6 : I' 6 = I 6 := io 6 (by decide) (by omega) (by omega)
  have e7 : Q' 7 = Q 7 := by rw [hQ, rms_o (by omega)]
  have A' : FltAt s Q' hm a q := ⟨A1, A2, A3, A4, by rw [hQ, rms_i (by decide)]; exact A5, by rw [hQ, rms_i (by decide)]; exact A6⟩
  have old : ∀ i : Int, 0 ≤ i → i < q → ∃ x, Q' 7 i = some x ∧ FltC I' m' x i := fun i h1 h2 => by
    obtain ⟨x, hx, c1, c2, c3, c4, c5⟩ := t5 i h1 (by omega)
    obtain ⟨-, s1, s2⟩ := FltAt_fr (q := i) S (by omega) (t4 i h1 (by omega) x hx)
    have g : ∀ k : Int, 0 ≤ k → k < m 135 i → m' 136 (400 * i + k) = m 136 (400 * i + k) ∧ m' 137 (400 * i + k) = m 137 (400 * i + k) := fun k k0 k1 => m136 _ (by omega)
    refine ⟨x, by rw [e7]; exact hx, ?_⟩
    unfold FltC
    rw [s1, s2, m135 i (by omega)]
    refine ⟨c1, c2, c3, fun k k0 k1 => ?_, ?_⟩
    · rw [(g k k0 k1).1, (g k k0 k1).2]
      exact c4 k k0 k1
    · obtain ⟨D, d1, d2, d3⟩ := c5
      refine ⟨D, d1, d2, fun k k0 k1 => ?_⟩
      rw [(g k k0 k1).1]
      exact d3 k k0 k1
  refine ⟨L', ?_, ?_, ?_, ?_, ?_, ?_, ?_, ?_, ?_⟩
  · exact RPic_fr L S (by omega) (fun i _ _ => by omega) (i0 1 (by decide) (by decide)) (m76 1 (by decide) (by decide) (by decide) (by decide)) (mo 77 (by decide) (by omega)) (mo 78 (by decide) (by omega)) (mo 79 (by decide) (by omega)) r1
  · exact ⟨by rw [i3, m5], by omega, by omega, fun i h1 h2 => absurd h2 (by omega)⟩
  · exact RSet_fr j3 (mo 82 (by decide) (by omega)) r3
  · exact RRee_fr L S (by omega) (fun i _ _ => by omega) (i0 6 (by decide) (by decide)) (m76 7 (by decide) (by decide) (by decide) (by decide)) (m76 8 (by decide) (by decide) (by decide) (by decide)) (m76 9 (by decide) (by decide) (by decide) (by decide)) (mo 81 (by decide) (by omega)) r4
  · exact RFil_fr L S (by omega) (fun i _ _ => by omega) (fun i _ _ => by omega) (fun i _ _ => by omega) (i0 8 (by decide) (by decide)) (m76 12 (by decide) (by decide) (by decide) (by decide)) (fun x h1 h2 => mo x (by omega) (by omega)) r5
  · exact RRow_fr (i0 10 (by decide) (by decide)) j6 (m76 86 (by decide) (by decide) (by decide) (by decide)) (m76 12 (by decide) (by decide) (by decide) (by decide)) (mo 131 (by decide) (by omega)) (mo 132 (by decide) (by omega)) (mo 133 (by decide) (by omega)) (mo 83 (by decide) (by omega)) (mo 87 (by decide) (by omega)) r6
  · refine ⟨by rw [i12, m92], by omega, by omega, fun i h1 h2 x hx => ?_, fun i h1 h2 => ?_⟩
    · rw [e7] at hx
      by_cases hi : i = q
      · subst hi
        rw [ha] at hx
        cases hx
        exact A'
      · exact (FltAt_fr (q := i) S (by omega) (t4 i h1 h2 x hx)).1
    · rw [m92] at h2
      rcases hc with e | ⟨e, C⟩
      · exact old i h1 (by omega)
      · by_cases hi : i = q
        · subst hi
          exact ⟨a, by rw [e7]; exact ha, C⟩
        · exact old i h1 (by omega)
  · exact RPly_fr L S (by omega) (fun i _ _ => by omega) (fun i _ _ => by omega) (m76 12 (by decide) (by decide) (by decide) (by decide)) (fun x h1 h2 => mo x (by omega) (by omega)) (fun x h1 h2 => mo x (by omega) (by omega)) r9 r8
  · exact RMis_fr L S (by omega) (by omega) (by omega) (fun i _ _ => by omega) (fun i _ _ => by omega) (fun i _ _ => by omega) r9
theorem ar_st {op wo st : Int} (h : OpO op wo st) : arS st = ari op := by
  obtain ⟨h0, h1, h2, rfl⟩ := h
  unfold stp
  by_cases e : op = 0
  · have := h2 e
    rw [if_pos e, e]
    unfold arS
    rw [if_pos (by omega)]
    rfl
  · rw [if_neg e]
    have : op = 1 ∨ op = 2 ∨ op = 3 ∨ op = 4 ∨ op = 5 ∨ op = 6 ∨ op = 7 ∨ op = 8 ∨ op = 9 ∨ op = 10 ∨ op = 11 ∨ op = 12 ∨ op = 13 ∨ op = 14 ∨ op = 15 ∨ op = 16 ∨ op = 17 := by omega
    rcases this with rfl | rfl | rfl | rfl | rfl | rfl | rfl | rfl | rfl | rfl | rfl | rfl | rfl | rfl | rfl | rfl | rfl <;> decide
end FilterC
