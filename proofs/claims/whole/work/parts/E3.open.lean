/-! a film's pictures are made ready -/
section Open28
variable {P : Int → Prop} {s s' : hS} {Q Q' : hQ} {hm hm' : hO} {I I' m : jM} {o z f k w h T : Int} {a b p : Nat} {q : Option Nat}
theorem n6 (h6 : s.1 + 2 ≤ 1000000) : ∃ (n : Nat × jH) (h' : jH), jnw (hh s Q I) 6 = some n ∧ jd_94 n.1 n.2 = some h' ∧ n.1 = s.1 ∧ h' = hh (nSh s) (nRf Q s.1) (nIn I s.1) := by
  have hnew := c_new6 (s := s) (Q := Q) (I := I) h6
  obtain ⟨n, h1, h2⟩ : ∃ n, jnw (hh s Q I) 6 = some n ∧ ((jd_94 n.1 n.2).bind fun h => some (n.1, h)) = some (s.1, hh (nSh s) (nRf Q s.1) (nIn I s.1)) := by
    cases hx : jnw (hh s Q I) 6 with
    | none => rw [hx] at hnew; cases hnew
    | some n => rw [hx] at hnew; exact ⟨n, rfl, hnew⟩
  obtain ⟨h', h3, h4⟩ : ∃ h', jd_94 n.1 n.2 = some h' ∧ (n.1, h') = (s.1, hh (nSh s) (nRf Q s.1) (nIn I s.1)) := by
    cases hx : jd_94 n.1 n.2 with
    | none => rw [hx] at h2; cases h2
    | some h' => rw [hx] at h2; exact ⟨h', rfl, Option.some.inj h2⟩
  exact ⟨n, h', h1, h3, congrArg Prod.fst h4, congrArg Prod.snd h4⟩
theorem PicAt_rmsf (A : PicAt s Q hm p o) (h : p ≠ b) : PicAt s (rms Q b z q) hm p o := ⟨A.1, A.2.1, A.2.2.1, by rw [rms_o h]; exact A.2.2.2⟩
theorem Film_slot (L : Lay s Q hm) (F : FilmAt s Q hm a f) (A : PicAt s Q hm p (200 + 12 * f + k)) : Lay s (rms Q (a + 9) k (some p)) hm ∧ FilmAt s (rms Q (a + 9) k (some p)) hm a f := by
  obtain ⟨c1, c2, c3, c4, c5⟩ := F
  have ne : ∀ {p : Nat} {o : Int}, PicAt s Q hm p o → p ≠ a + 9 := fun {p} {o} A e => by
    have h1 : s.2.2.1 (a + 9) = 6 := (c2 9 (by decide)).2.1
    have h2 := A.2.1.2.1
    rw [e, h1] at h2
    exact absurd h2 (by decide)
  refine ⟨⟨L.1, L.2.1, L.2.2.1, fun x j b e => ?_⟩, c1, c2, fun j hj => ?_, fun b hb => ?_, fun i i0 i1 => ?_⟩
  · rw [rms_o (by have := sq_lt e; omega)]
    exact L.2.2.2 x j b e
  · rw [rms_o (by omega)]
    exact c3 j hj
  · rw [rms_o (by omega)] at hb
    exact c4 b hb
  · by_cases h : i = k
    · subst h
      rw [rms_e]
      intro x hx
      cases hx
      exact PicAt_rmsf A (ne A)
    · rw [rms_i h]
      intro x hx
      have := c5 i i0 i1 x hx
      exact PicAt_rmsf this (ne this)
theorem c_28b (F : FilmAt s Q hm a f) (k0 : 0 ≤ k) (k1 : k < 12) (hp : Q (a + 9) k = some p) : jd_28_b41 a w h T k (hh s Q I) = some (.inl (k + 1, hh s Q (jms (jms I p 0 w) p 1 h))) := by
  have A := F.2.2.2.2 k k0 k1 p hp
  have c0 : Ce s hm a 10 0 (500 + f) := F.2.1 0 (by decide)
  have c9 : Ce s hm (a + 9) 6 12 (500 + f) := F.2.1 9 (by decide)
  have q9 : Q a ((15 : Nat) : Int) = some (a + 9) := F.2.2.1 8 (by decide)
  unfold jd_28_b41
  rw [x_gr c0.1 (c0.2.1.trans rfl), Option.bind_some, q9, Option.bind_some, x_ar c9.1 c9.2.1 k0 (by rw [c9.2.2.1]; exact k1) (by rw [c9.2.2.1]; decide), Option.bind_some, hp, Option.bind_some, x_ck A.2.1.1 (A.2.1.2.1.trans rfl), Option.bind_some, c_95 A, Option.bind_some]
/-- what a turn leaves -/
def St28 (a : Nat) (f k w h : Int) (s : hS) (Q : hQ) (hm : hO) (I : jM) (s' : hS) (Q' : hQ) (hm' : hO) (I' : jM) : Prop := Lay s' Q' hm' ∧ FilmAt s' Q' hm' a f ∧ Sm (fun o => o ≠ 500 + f ∧ o ≠ 200 + 12 * f + k) s Q hm I s' Q' hm' I' ∧ (∀ x : Nat, x < s.1 → hm x = 500 + f → I' x = I x ∧ hm' x = hm x ∧ s'.2.2.1 x = s.2.2.1 x ∧ s'.2.2.2 x = s.2.2.2 x ∧ (x ≠ a + 9 → Q' x = Q x)) ∧ (∀ i : Int, i ≠ k → Q' (a + 9) i = Q (a + 9) i) ∧ (∃ p, Q' (a + 9) k = some p ∧ I' p 0 = w ∧ I' p 1 = h) ∧ s'.1 ≤ s.1 + 2 ∧ s'.2.1 ≤ s.2.1 + 867
theorem St28_t (f0 : 0 ≤ f) (k0 : 0 ≤ k) (f8 : f < 8) (k1 : k < 12) (L : Lay s' Q' hm') (F : FilmAt s' Q' hm' a f) (hp : Q' (a + 9) k = some p) (S : Sm (fun o => o ≠ 500 + f ∧ o ≠ 200 + 12 * f + k) s Q hm I s' Q' hm' I') (K : ∀ x : Nat, x < s.1 → hm x = 500 + f → I' x = I x ∧ hm' x = hm x ∧ s'.2.2.1 x = s.2.2.1 x ∧ s'.2.2.2 x = s.2.2.2 x ∧ (x ≠ a + 9 → Q' x = Q x)) (O : ∀ i : Int, i ≠ k → Q' (a + 9) i = Q (a + 9) i) (g1 : s'.1 ≤ s.1 + 2) (g2 : s'.2.1 ≤ s.2.1 + 867) : St28 a f k w h s Q hm I s' Q' hm' (jms (jms I' p 0 w) p 1 h) := by
  have A := F.2.2.2.2 k k0 k1 p hp
  have hpo : hm' p = 200 + 12 * f + k := A.2.1.2.2.2
  have nP : ¬ (hm' p ≠ 500 + f ∧ hm' p ≠ 200 + 12 * f + k) := fun e => e.2 hpo
  refine ⟨L, F, Sm_trans S (Sm_trans (Sm_jms (P := fun o => o ≠ 500 + f ∧ o ≠ 200 + 12 * f + k) nP) (Sm_jms (P := fun o => o ≠ 500 + f ∧ o ≠ 200 + 12 * f + k) nP)), fun x x1 x2 => ?_, O, ⟨p, hp, ?_, jms_e⟩, g1, g2⟩
  · obtain ⟨k1, k2, k3⟩ := K x x1 x2
    have nx : x ≠ p := fun e => by
      rw [e] at k2 x2
      rw [k2, x2] at hpo
      omega
    exact ⟨by rw [jms_o nx, jms_o nx, k1], k2, k3⟩
  · unfold jms jiu
    simp
theorem c_28s (f0 : 0 ≤ f) (k0 : 0 ≤ k) (f8 : f < 8) (k1 : k < 12) (kT : k < T) (t12 : T ≤ 12) (L : Lay s Q hm) (F : FilmAt s Q hm a f) (h6 : s.1 + 2 ≤ 1000000) : ∃ (s' : hS) (Q' : hQ) (hm' : hO) (I' : jM), jd_28_s3 a w h T k (hh s Q I) = some (.inl (k + 1, hh s' Q' I')) ∧ St28 a f k w h s Q hm I s' Q' hm' I' := by
  have c0 : Ce s hm a 10 0 (500 + f) := F.2.1 0 (by decide)
  have c9 : Ce s hm (a + 9) 6 12 (500 + f) := F.2.1 9 (by decide)
  have q9 : Q a ((15 : Nat) : Int) = some (a + 9) := F.2.2.1 8 (by decide)
  have hd : ∀ {r : Option Nat}, Q (a + 9) k = r → jd_28_s3 a w h T k (hh s Q I) = (if r = none then ((jgr (hh s Q I) a 2 15).bind fun r10 => ((jnw (hh s Q I) 6).bind fun n12 => ((jd_94 n12.1 n12.2).bind fun h14 => ((r10).bind fun a16 => ((jtr h14 a16 6 k n12.1).bind fun h18 => jd_28_b41 a w h T k h18))))) else jd_28_b41 a w h T k (hh s Q I)) := fun {r} hr => by
    unfold jd_28_s3
    rw [n_jw (z := T) (by omega) (by omega), n_jw (z := k) (by omega) (by omega), if_neg (show ¬ T ≤ k by omega), if_neg (show ¬ 12 ≤ k by omega), x_gr c0.1 (c0.2.1.trans rfl), Option.bind_some, q9, Option.bind_some, x_ar c9.1 c9.2.1 k0 (by rw [c9.2.2.1]; exact k1) (by rw [c9.2.2.1]; decide), Option.bind_some, hr]
  cases hq : Q (a + 9) k with
  | some p =>
    refine ⟨s, Q, hm, jms (jms I p 0 w) p 1 h, ?_, St28_t f0 k0 f8 k1 L F hq Sm_refl (fun x _ _ => ⟨rfl, rfl, rfl, rfl, fun _ => rfl⟩) (fun _ _ => rfl) (by omega) (by omega)⟩
    rw [hd hq, if_neg (by simp), c_28b F k0 k1 hq]
  | none =>
    have L1 := n_lay (o := 200 + 12 * f + k) L
    have F1 : FilmAt (nSh s) (nRf Q s.1) (nOw hm s.1 (200 + 12 * f + k)) a f := (FilmAt_fr (P := fun _ => True) (I := I) (I' := nIn I s.1) n_sm ⟨f0, f8⟩ (fun _ _ _ => trivial) (fun _ _ _ => trivial) (fun _ _ _ => trivial) F).1
    have A1 : PicAt (nSh s) (nRf Q s.1) (nOw hm s.1 (200 + 12 * f + k)) s.1 (200 + 12 * f + k) := n_pic L.1
    obtain ⟨L2, F2⟩ := Film_slot L1 F1 A1
    have d9 : Ce (nSh s) (nOw hm s.1 (200 + 12 * f + k)) (a + 9) 6 12 (500 + f) := F1.2.1 9 (by decide)
    have l9 : a + 9 < s.1 := c9.1
    obtain ⟨n, h', e1, e2, e3, e4⟩ := n6 (s := s) (Q := Q) (I := I) h6
    have hp : rms (nRf Q s.1) (a + 9) k (some s.1) (a + 9) k = some s.1 := rms_e
    refine ⟨nSh s, rms (nRf Q s.1) (a + 9) k (some s.1), nOw hm s.1 (200 + 12 * f + k), jms (jms (nIn I s.1) s.1 0 w) s.1 1 h, ?_, St28_t f0 k0 f8 k1 L2 F2 hp (Sm_trans n_sm (Sm_rms (fun e => e.1 d9.2.2.2))) (fun x x1 x2 => ?_) (fun i hi => ?_) (by unfold nSh s_mk; dsimp only; omega) (by unfold nSh s_mk; dsimp only; omega)⟩
    · rw [hd hq, if_pos rfl, x_gr c0.1 (c0.2.1.trans rfl), Option.bind_some, e1, Option.bind_some, e2, Option.bind_some, q9, Option.bind_some, e3, e4, x_tr d9.1 d9.2.1 k0 (by rw [d9.2.2.1]; exact k1) (by rw [d9.2.2.1]; decide) A1.2.1.1 (A1.2.1.2.1.trans rfl), Option.bind_some, c_28b F2 k0 k1 hp]
    · obtain ⟨g1, g2, g3, g4, g5⟩ := n_lt (s := s) (Q := Q) (hm := hm) (I := I) (o := 200 + 12 * f + k) x1
      exact ⟨g4, g5, g1, g2, fun hx => by rw [rms_o hx, g3]⟩
    · rw [rms_i hi, (n_lt (s := s) (Q := Q) (hm := hm) (I := I) (o := 200 + 12 * f + k) l9).2.2.1]
end Open28
