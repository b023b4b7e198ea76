/-! all of a film's pictures made ready -/
section OpenAll
variable {s s' s2 : hS} {Q Q' Q2 : hQ} {hm hm' hm2 : hO} {I I' I2 m : jM} {f k w h T c : Int} {a : Nat}
/-- what stands when the pictures from c to k are ready -/
def O28 (a : Nat) (f c k w h : Int) (s : hS) (Q : hQ) (hm : hO) (I : jM) (s' : hS) (Q' : hQ) (hm' : hO) (I' : jM) : Prop := Lay s' Q' hm' ∧ FilmAt s' Q' hm' a f ∧ Sm (fun o => o ≠ 500 + f ∧ ¬ (200 + 12 * f + c ≤ o ∧ o < 200 + 12 * f + 12)) s Q hm I s' Q' hm' I' ∧ (∀ x : Nat, x < s.1 → hm x = 500 + f → I' x = I x ∧ hm' x = hm x ∧ s'.2.2.1 x = s.2.2.1 x ∧ s'.2.2.2 x = s.2.2.2 x ∧ (x ≠ a + 9 → Q' x = Q x)) ∧ (∀ i : Int, i < c ∨ k ≤ i → Q' (a + 9) i = Q (a + 9) i) ∧ (∀ i : Int, c ≤ i → i < k → ∃ p, Q' (a + 9) i = some p ∧ I' p 0 = w ∧ I' p 1 = h) ∧ (s'.1 : Int) ≤ s.1 + 2 * (k - c) ∧ (s'.2.1 : Int) ≤ s.2.1 + 867 * (k - c)
theorem Sm_mono {P R : Int → Prop} (S : Sm P s Q hm I s' Q' hm' I') (h : ∀ o, R o → P o) : Sm R s Q hm I s' Q' hm' I' := ⟨S.1, fun x x1 x2 => S.2 x x1 (h _ x2)⟩
theorem O28_0 (L : Lay s Q hm) (F : FilmAt s Q hm a f) : O28 a f c c w h s Q hm I s Q hm I := ⟨L, F, Sm_refl, fun _ _ _ => ⟨rfl, rfl, rfl, rfl, fun _ => rfl⟩, fun _ _ => rfl, fun i h1 h2 => absurd h1 (by omega), by omega, by omega⟩
theorem O28_s (f0 : 0 ≤ f) (f8 : f < 8) (c0 : 0 ≤ c) (ck : c ≤ k) (k1 : k < 12) (J : O28 a f c k w h s Q hm I s' Q' hm' I') (X : St28 a f k w h s' Q' hm' I' s2 Q2 hm2 I2) (l9 : FilmAt s Q hm a f) : O28 a f c (k + 1) w h s Q hm I s2 Q2 hm2 I2 := by
  obtain ⟨j1, j2, j3, j4, j5, j6, j7, j8⟩ := J
  obtain ⟨x1, x2, x3, x4, x5, x6, x7, x8⟩ := X
  refine ⟨x1, x2, Sm_trans j3 (Sm_mono x3 (fun o ho => ⟨ho.1, fun e => ho.2 (by omega)⟩)), fun x hx ho => ?_, fun i hi => ?_, fun i i0 i1 => ?_, by omega, by omega⟩
  · obtain ⟨a1, a2, a3, a4, a5⟩ := j4 x hx ho
    obtain ⟨b1, b2, b3, b4, b5⟩ := x4 x (Nat.lt_of_lt_of_le hx j3.1) (a2.trans ho)
    exact ⟨b1.trans a1, b2.trans a2, b3.trans a3, b4.trans a4, fun e => (b5 e).trans (a5 e)⟩
  · rw [x5 i (by omega), j5 i (by omega)]
  · by_cases e : i = k
    · subst e
      exact x6
    · obtain ⟨p, p1, p2, p3⟩ := j6 i i0 (by omega)
      have A := j2.2.2.2.2 i (by omega) (by omega) p p1
      have G := (PicAt_fr x3 A ⟨by omega, by omega⟩).2.1
      exact ⟨p, (x5 i e).trans p1, by rw [G]; exact p2, by rw [G]; exact p3⟩
theorem c_28 (f0 : 0 ≤ f) (f8 : f < 8) (c0 : 0 ≤ c) (cT : c ≤ T) (t12 : T ≤ 12) (L : Lay s Q hm) (F : FilmAt s Q hm a f) (h6 : s.1 + 24 ≤ 1000000) : ∃ (s' : hS) (Q' : hQ) (hm' : hO) (I' : jM), jd_28 a w h c T (hh s Q I) = some (hh s' Q' I') ∧ O28 a f c T w h s Q hm I s' Q' hm' I' := by
  obtain ⟨x, e, s', Q', hm', I', hx, J⟩ : wT (jd_28_l3 a w h T c (hh s Q I)) (fun x => ∃ (s' : hS) (Q' : hQ) (hm' : hO) (I' : jM), x = hh s' Q' I' ∧ O28 a f c T w h s Q hm I s' Q' hm' I') := by
    unfold jd_28_l3
    refine w_lp (fun n (st : Int × jH) => ∃ (s' : hS) (Q' : hQ) (hm' : hO) (I' : jM), st = (c + (n : Int), hh s' Q' I') ∧ O28 a f c (c + (n : Int)) w h s Q hm I s' Q' hm' I') (T - c).toNat (fun n st hn J => ?_) (n_fu (by omega)) ?_
    · obtain ⟨s', Q', hm', I', rfl, J⟩ := J
      by_cases hk : c + (n : Int) < T
      · obtain ⟨s2, Q2, hm2, I2, e, X⟩ := c_28s (I := I') (w := w) (h := h) f0 (show 0 ≤ c + (n : Int) by omega) f8 (show c + (n : Int) < 12 by omega) hk t12 J.1 J.2.1 (by have := J.2.2.2.2.2.2.1; omega)
        refine ⟨_, e, ?_⟩
        show jse _ _ _
        rw [jse_l]
        refine ⟨by omega, s2, Q2, hm2, I2, ?_, ?_⟩
        · rw [show c + ((n + 1 : Nat) : Int) = c + (n : Int) + 1 by omega]
        · rw [show c + ((n + 1 : Nat) : Int) = c + (n : Int) + 1 by omega]
          exact O28_s f0 f8 c0 (by omega) (by omega) J X F
      · have en : c + (n : Int) = T := by omega
        rw [en] at J ⊢
        refine ⟨.inr (hh s' Q' I'), ?_, ?_⟩
        · show jd_28_s3 a w h T T (hh s' Q' I') = _
          unfold jd_28_s3
          rw [if_pos (show jw T ≤ jw T from Int.le_refl _)]
        · show jse _ _ _
          rw [jse_r]
          exact ⟨s', Q', hm', I', rfl, J⟩
    · exact ⟨s, Q, hm, I, by simp, by rw [show c + ((0 : Nat) : Int) = c by omega]; exact O28_0 L F⟩
  refine ⟨s', Q', hm', I', ?_, J⟩
  unfold jd_28
  rw [e, Option.bind_some, hx]
end OpenAll
