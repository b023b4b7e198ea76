/-! the spare film's pictures made ready -/
section Spare
variable {yy : Nat} {s s' s2 : hS} {Q Q' Q2 : hQ} {hm hm' hm2 : hO} {I I' I2 m : jM} {z k w h T c : Int} {a b p : Nat}
theorem RelY_slot37 (R : RelY yy s Q hm I m) (hz : 0 ≤ z ∧ z < 12) (A : PicAt s Q hm b (400 + z)) : RelY yy s (rms Q 37 z (some b)) hm I m := by
  have S : Sm (fun o => o ≠ 1037) s Q hm I s (rms Q 37 z (some b)) hm I := Sm_rms (by rw [Lo R.1 rfl]; decide)
  have PA : ∀ {a : Nat} {o : Int}, PicAt s Q hm a o → o ≠ 1037 → PicAt s (rms Q 37 z (some b)) hm a o := fun h p => (PicAt_fr S h p).1
  obtain ⟨L, r1, r2, r3, r4, r5, r6, r7, r8, r9⟩ := R
  refine ⟨Lay_rmsN L sq_37, RPic_fr L S (by omega) (fun i _ _ => by omega) rfl rfl rfl rfl rfl r1, r2, r3, RRee_fr L S (by omega) (fun i _ _ => by omega) rfl rfl rfl rfl rfl r4, RFil_fr L S (by omega) (fun i _ _ => by omega) (fun i _ _ => by omega) (fun i _ _ => by omega) rfl rfl (fun _ _ _ => rfl) r5, r6, RFlt_fr L S (by omega) (fun i _ _ => by omega) rfl rfl rfl rfl rfl r7, RPlyY_fr L S (by omega) (fun i _ _ => by omega) (fun i _ _ => by omega) rfl (fun _ _ _ => rfl) (fun _ _ _ => rfl) r9 r8, ?_⟩
  obtain ⟨c1, c2, c3⟩ := r9
  refine ⟨fun b hb => ?_, fun i h1 h2 => ?_, fun y hy => ?_⟩
  · rw [rms_o (by decide)] at hb
    exact c1 b hb
  · by_cases hi : i = z
    · subst hi
      rw [rms_e]
      intro a ha
      cases ha
      exact PA A (by omega)
    · rw [rms_i hi]
      intro a ha
      exact PA (c2 i h1 h2 a ha) (by omega)
  · rw [rms_o (by omega)]
    intro a ha
    exact PA (c3 y hy a ha) (by omega)
theorem RelY_I400 (R : RelY yy s Q hm I m) (S : Sm (fun o => ¬ (400 ≤ o ∧ o < 412)) s Q hm I s Q hm I') : RelY yy s Q hm I' m := by
  obtain ⟨L, r1, r2, r3, r4, r5, r6, r7, r8, r9⟩ := R
  have g : ∀ a : Nat, a < 76 → I' a = I a := fun a ha => (Lay_fr (a := a) L S ha (by omega)).2
  have g0 := g 0 (by decide)
  exact ⟨L, RPic_fr L S (by omega) (fun i _ _ => by omega) (by rw [g0]) rfl rfl rfl rfl r1, RTap_fr (by rw [g0]) (g 2 (by decide)) rfl rfl r2, RSet_fr (g 3 (by decide)) rfl r3, RRee_fr L S (by omega) (fun i _ _ => by omega) (by rw [g0]) rfl rfl rfl rfl r4, RFil_fr L S (by omega) (fun i _ _ => by omega) (fun i _ _ => by omega) (fun i _ _ => by omega) (by rw [g0]) rfl (fun _ _ _ => rfl) r5, RRow_fr (by rw [g0]) (g 6 (by decide)) rfl rfl rfl rfl rfl rfl rfl r6, RFlt_fr L S (by omega) (fun i _ _ => by omega) (by rw [g0]) rfl rfl rfl rfl r7, RPlyY_fr L S (by omega) (fun i _ _ => by omega) (fun i _ _ => by omega) rfl (fun _ _ _ => rfl) (fun _ _ _ => rfl) r9 r8, r9⟩
theorem c_28xb (R : RelY yy s Q hm I m) (k0 : 0 ≤ k) (k1 : k < 12) (hp : Q 37 k = some p) : jd_28_b41 28 w h T k (hh s Q I) = some (.inl (k + 1, hh s Q (jms (jms I p 0 w) p 1 h))) := by
  have A := R.2.2.2.2.2.2.2.2.2.2.1 k k0 k1 p hp
  have q9 : Q 28 ((15 : Nat) : Int) = some 37 := Lq R.1 rfl
  unfold jd_28_b41
  rw [y_gr R.1 28 2 rfl rfl, Option.bind_some, q9, Option.bind_some, y_ar R.1 37 6 12 rfl rfl rfl k0 k1, Option.bind_some, hp, Option.bind_some, x_ck A.2.1.1 (A.2.1.2.1.trans rfl), Option.bind_some, c_95 A, Option.bind_some]
def Sx (yy : Nat) (k w h : Int) (s : hS) (Q : hQ) (hm : hO) (I : jM) (s' : hS) (Q' : hQ) (hm' : hO) (I' m : jM) : Prop := RelY yy s' Q' hm' I' m ∧ Sm (fun o => o ≠ 1037 ∧ o ≠ 400 + k) s Q hm I s' Q' hm' I' ∧ (∀ i : Int, i ≠ k → Q' 37 i = Q 37 i) ∧ (∃ p, Q' 37 k = some p ∧ I' p 0 = w ∧ I' p 1 = h) ∧ I' 37 = I 37 ∧ s'.1 ≤ s.1 + 2 ∧ s'.2.1 ≤ s.2.1 + 867
theorem Sx_t (k0 : 0 ≤ k) (k1 : k < 12) (R : RelY yy s' Q' hm' I' m) (hp : Q' 37 k = some p) (S : Sm (fun o => o ≠ 1037 ∧ o ≠ 400 + k) s Q hm I s' Q' hm' I') (O : ∀ i : Int, i ≠ k → Q' 37 i = Q 37 i) (i37 : I' 37 = I 37) (g1 : s'.1 ≤ s.1 + 2) (g2 : s'.2.1 ≤ s.2.1 + 867) : Sx yy k w h s Q hm I s' Q' hm' (jms (jms I' p 0 w) p 1 h) m := by
  have A := R.2.2.2.2.2.2.2.2.2.2.1 k k0 k1 p hp
  have hpo : hm' p = 400 + k := A.2.1.2.2.2
  have p153 := A.1
  refine ⟨RelY_I400 R (Sm_trans (Sm_jms (by omega)) (Sm_jms (by omega))), Sm_trans S (Sm_trans (Sm_jms (by omega)) (Sm_jms (by omega))), O, ⟨p, hp, by rw [jms_i (by decide), jms_e], jms_e⟩, by rw [jms_o (by omega), jms_o (by omega), i37], g1, g2⟩
theorem c_28xs (k0 : 0 ≤ k) (k1 : k < 12) (kT : k < T) (t12 : T ≤ 12) (R : RelY yy s Q hm I m) (h6 : s.1 + 2 ≤ 1000000) : ∃ (s' : hS) (Q' : hQ) (hm' : hO) (I' : jM), jd_28_s3 28 w h T k (hh s Q I) = some (.inl (k + 1, hh s' Q' I')) ∧ Sx yy k w h s Q hm I s' Q' hm' I' m := by
  have L := R.1
  have q9 : Q 28 ((15 : Nat) : Int) = some 37 := Lq L rfl
  have hd : ∀ {r : Option Nat}, Q 37 k = r → jd_28_s3 28 w h T k (hh s Q I) = (if r = none then ((jgr (hh s Q I) 28 2 15).bind fun r10 => ((jnw (hh s Q I) 6).bind fun n12 => ((jd_94 n12.1 n12.2).bind fun h14 => ((r10).bind fun a16 => ((jtr h14 a16 6 k n12.1).bind fun h18 => jd_28_b41 28 w h T k h18))))) else jd_28_b41 28 w h T k (hh s Q I)) := fun {r} hr => by
    unfold jd_28_s3
    rw [n_jw (z := T) (by omega) (by omega), n_jw (z := k) (by omega) (by omega), if_neg (show ¬ T ≤ k by omega), if_neg (show ¬ 12 ≤ k by omega), y_gr L 28 2 rfl rfl, Option.bind_some, q9, Option.bind_some, y_ar L 37 6 12 rfl rfl rfl k0 k1, Option.bind_some, hr]
  cases hq : Q 37 k with
  | some p =>
    refine ⟨s, Q, hm, jms (jms I p 0 w) p 1 h, ?_, Sx_t k0 k1 R hq Sm_refl (fun _ _ => rfl) rfl (by omega) (by omega)⟩
    rw [hd hq, if_neg (by simp), c_28xb R k0 k1 hq]
  | none =>
    have R1 := n_relY (o := 400 + k) R
    have A1 : PicAt (nSh s) (nRf Q s.1) (nOw hm s.1 (400 + k)) s.1 (400 + k) := n_pic L.1
    have R2 := RelY_slot37 R1 ⟨k0, k1⟩ A1
    have l37 : 37 < s.1 := by have := L.1; omega
    obtain ⟨n, h', e1, e2, e3, e4⟩ := n6 (s := s) (Q := Q) (I := I) h6
    have hp : rms (nRf Q s.1) 37 k (some s.1) 37 k = some s.1 := rms_e
    refine ⟨nSh s, rms (nRf Q s.1) 37 k (some s.1), nOw hm s.1 (400 + k), jms (jms (nIn I s.1) s.1 0 w) s.1 1 h, ?_, Sx_t k0 k1 R2 hp (Sm_trans n_sm (Sm_rms (by rw [Lo R1.1 rfl]; omega))) (fun i hi => ?_) (n_lt (s := s) (Q := Q) (hm := hm) (I := I) (o := 400 + k) l37).2.2.2.1 (by unfold nSh s_mk; dsimp only; omega) (by unfold nSh s_mk; dsimp only; omega)⟩
    · rw [hd hq, if_pos rfl, y_gr L 28 2 rfl rfl, Option.bind_some, e1, Option.bind_some, e2, Option.bind_some, q9, Option.bind_some, e3, e4, y_tr R1.1 37 6 12 rfl rfl rfl k0 k1 A1.2.1.1 (A1.2.1.2.1.trans rfl), Option.bind_some, c_28xb R2 k0 k1 hp]
    · rw [rms_i hi, (n_lt (s := s) (Q := Q) (hm := hm) (I := I) (o := 400 + k) l37).2.2.1]
end Spare
