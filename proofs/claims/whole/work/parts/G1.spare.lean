/-! all of the spare film's pictures from c to T made ready -/
section SpareAll
variable {yy : Nat} {s s' s2 : hS} {Q Q' Q2 : hQ} {hm hm' hm2 : hO} {I I' I2 m : jM} {k w h T c : Int} {a b p : Nat}
def Ox (yy : Nat) (c k w h : Int) (s : hS) (Q : hQ) (hm : hO) (I : jM) (s' : hS) (Q' : hQ) (hm' : hO) (I' m : jM) : Prop := RelY yy s' Q' hm' I' m ∧ Sm (fun o => o ≠ 1037 ∧ ¬ (400 ≤ o ∧ o < 412)) s Q hm I s' Q' hm' I' ∧ (∀ i : Int, c ≤ i → i < k → ∃ p, Q' 37 i = some p ∧ I' p 0 = w ∧ I' p 1 = h) ∧ I' 37 = I 37 ∧ (s'.1 : Int) ≤ s.1 + 2 * (k - c) ∧ (s'.2.1 : Int) ≤ s.2.1 + 867 * (k - c)
theorem Ox_s (c0 : 0 ≤ c) (ck : c ≤ k) (k1 : k < 12) (J : Ox yy c k w h s Q hm I s' Q' hm' I' m) (X : Sx yy k w h s' Q' hm' I' s2 Q2 hm2 I2 m) : Ox yy c (k + 1) w h s Q hm I s2 Q2 hm2 I2 m := by
  obtain ⟨j1, j3, j6, j5, j7, j8⟩ := J
  obtain ⟨x1, x3, x5, x6, x4, x7, x8⟩ := X
  refine ⟨x1, Sm_trans j3 (Sm_mono x3 (fun o ho => ⟨ho.1, fun e => ho.2 (by omega)⟩)), fun i i0 i1 => ?_, x4.trans j5, by omega, by omega⟩
  by_cases e : i = k
  · subst e
    exact x6
  · obtain ⟨p, p1, p2, p3⟩ := j6 i i0 (by omega)
    have A := j1.2.2.2.2.2.2.2.2.2.2.1 i (by omega) (by omega) p p1
    have G := (PicAt_fr x3 A ⟨by omega, by omega⟩).2.1
    exact ⟨p, (x5 i e).trans p1, by rw [G]; exact p2, by rw [G]; exact p3⟩
theorem c_28x (c0 : 0 ≤ c) (cT : c ≤ T) (t12 : T ≤ 12) (R : RelY yy s Q hm I m) (h6 : s.1 + 24 ≤ 1000000) : ∃ (s' : hS) (Q' : hQ) (hm' : hO) (I' : jM), jd_28 28 w h c T (hh s Q I) = some (hh s' Q' I') ∧ Ox yy c T w h s Q hm I s' Q' hm' I' m := by
  obtain ⟨x, e, s', Q', hm', I', hx, J⟩ : wT (jd_28_l3 28 w h T c (hh s Q I)) (fun x => ∃ (s' : hS) (Q' : hQ) (hm' : hO) (I' : jM), x = hh s' Q' I' ∧ Ox yy c T w h s Q hm I s' Q' hm' I' m) := by
    unfold jd_28_l3
    refine w_lp (fun n (st : Int × jH) => ∃ (s' : hS) (Q' : hQ) (hm' : hO) (I' : jM), st = (c + (n : Int), hh s' Q' I') ∧ Ox yy c (c + (n : Int)) w h s Q hm I s' Q' hm' I' m) (T - c).toNat (fun n st hn J => ?_) (n_fu (by omega)) ?_
    · obtain ⟨s', Q', hm', I', rfl, J⟩ := J
      by_cases hk : c + (n : Int) < T
      · obtain ⟨s2, Q2, hm2, I2, e, X⟩ := c_28xs (I := I') (w := w) (h := h) (show 0 ≤ c + (n : Int) by omega) (show c + (n : Int) < 12 by omega) hk t12 J.1 (by have := J.2.2.2.2.1; omega)
        refine ⟨_, e, ?_⟩
        show jse _ _ _
        rw [jse_l]
        refine ⟨by omega, s2, Q2, hm2, I2, ?_, ?_⟩
        · rw [show c + ((n + 1 : Nat) : Int) = c + (n : Int) + 1 by omega]
        · rw [show c + ((n + 1 : Nat) : Int) = c + (n : Int) + 1 by omega]
          exact Ox_s c0 (by omega) (by omega) J X
      · have en : c + (n : Int) = T := by omega
        rw [en] at J ⊢
        refine ⟨.inr (hh s' Q' I'), ?_, ?_⟩
        · show jd_28_s3 28 w h T T (hh s' Q' I') = _
          unfold jd_28_s3
          rw [if_pos (show jw T ≤ jw T from Int.le_refl _)]
        · show jse _ _ _
          rw [jse_r]
          exact ⟨s', Q', hm', I', rfl, J⟩
    · exact ⟨s, Q, hm, I, by simp, by rw [show c + ((0 : Nat) : Int) = c by omega]; exact ⟨R, Sm_refl, fun i h1 h2 => absurd h1 (by omega), rfl, by omega, by omega⟩⟩
  refine ⟨s', Q', hm', I', ?_, J⟩
  unfold jd_28
  rw [e, Option.bind_some, hx]
end SpareAll
