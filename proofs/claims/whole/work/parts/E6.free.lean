/-! a free film -/
section FreeFilm
variable {P : Int → Prop} {s s' : hS} {Q Q' : hQ} {hm : hO} {I I' m : jM} {f z : Int} {a b n : Nat}
theorem sq_5 (k b : Nat) : sq 5 k ≠ some b := by
  intro h
  unfold sq at h
  split at h <;> simp_all
theorem RelH_slot5 (R : RelH s Q hm I m) (hz : m 76 12 ≤ z ∧ z < 8) (A : FilmAt s Q hm b z) : RelH s (rms Q 5 z (some b)) hm I m := by
  have S : Sm (fun o => o ≠ 1005) s Q hm I s (rms Q 5 z (some b)) hm I := Sm_rms (by rw [Lo R.1 rfl]; decide)
  obtain ⟨L, r1, r2, r3, r4, r5, r6, r7, r8, r9⟩ := R
  obtain ⟨t1, t2, t3, t4, t5⟩ := r5
  have FA : ∀ {a : Nat} {f : Int}, 0 ≤ f ∧ f < 8 → FilmAt s Q hm a f → _ := fun {a} {f} hf h => FilmAt_fr (a := a) (f := f) S hf (fun i _ _ => by omega) (fun i _ _ => by omega) (fun i _ _ => by omega) h
  refine ⟨Lay_rmsN L sq_5, RPic_fr L S (by omega) (fun i _ _ => by omega) rfl rfl rfl rfl rfl r1, r2, r3, RRee_fr L S (by omega) (fun i _ _ => by omega) rfl rfl rfl rfl rfl r4, ⟨t1, t2, t3, fun i h1 h2 => ?_, fun i h1 h2 => ?_⟩, r6, RFlt_fr L S (by omega) (fun i _ _ => by omega) rfl rfl rfl rfl rfl r7, fun y hy => ?_, RMis_fr L S (by omega) (by omega) (by omega) (fun i _ _ => by omega) (fun i _ _ => by omega) (fun i _ _ => by omega) r9⟩
  · by_cases hi : i = z
    · subst hi
      rw [rms_e]
      intro a ha
      cases ha
      exact (FA ⟨h1, h2⟩ A).1
    · rw [rms_i hi]
      intro a ha
      exact (FA ⟨h1, h2⟩ (t4 i h1 h2 a ha)).1
  · obtain ⟨a, ha, X⟩ := t5 i h1 h2
    have F := t4 i h1 (by omega) a ha
    obtain ⟨-, g1, g2, g3⟩ := FA ⟨h1, by omega⟩ F
    exact ⟨a, by rw [rms_i (by omega)]; exact ha, FilmC_fr F g1 g2 g3 (fun _ _ _ => rfl) X⟩
  · rcases r8 y hy with ⟨h1, h2⟩ | ⟨h1, h2, h3, h4⟩
    · exact Or.inl ⟨h1, by rw [rms_o (by omega)]; exact h2⟩
    · exact Or.inr ⟨h1, h2, by rw [rms_o (by omega), rms_i (by omega)]; exact h3, by rw [rms_o (by omega)]; exact h4⟩
/-- freeFilm -/
theorem c_196 (R : RelH s Q hm I m) (h6 : s.1 ≤ 900000) (hn : m 76 12 < 8) : ∃ (a : Nat) (s' : hS) (Q' : hQ) (hm' : hO) (I' : jM), jd_196 0 (hh s Q I) = some (.inl a, hh s' Q' I') ∧ Q' 5 (m 76 12) = some a ∧ FilmAt s' Q' hm' a (m 76 12) ∧ Sm (fun o => o ≠ 1005) s Q hm I s' Q' hm' I' ∧ RelH s' Q' hm' I' m ∧ s'.1 ≤ s.1 + 13 ∧ s'.2.1 ≤ s.2.1 + 10000 := by
  have L := R.1
  obtain ⟨t1, t2, t3, t4, t5⟩ := id R.2.2.2.2.2.1
  have e1 : I 0 ((8 : Nat) : Int) = m 76 12 := t1
  have e2 : Q 0 ((7 : Nat) : Int) = some 5 := Lq L rfl
  have nw := n_jw (z := m 76 12) (by omega) (by omega)
  have rd : ∀ {s : hS} {Q : hQ} {hm : hO} {I : jM}, RelH s Q hm I m → jar (hh s Q I) 5 4 (m 76 12) = some (Q 5 (m 76 12)) := fun R => y_ar R.1 5 4 8 rfl rfl rfl t2 (by omega)
  have fin : ∀ {s : hS} {Q : hQ} {hm : hO} {I : jM} {a : Nat}, RelH s Q hm I m → Q 5 (m 76 12) = some a → jd_196_b48 0 (hh s Q I) = some (.inl a, hh s Q I) := by
    intro s Q hm I a R ha
    have e1 : I 0 ((8 : Nat) : Int) = m 76 12 := R.2.2.2.2.2.1.1
    have e2 : Q 0 ((7 : Nat) : Int) = some 5 := Lq R.1 rfl
    unfold jd_196_b48
    rw [y_gr R.1 0 11 rfl rfl, Option.bind_some, y_gi R.1 0 11 rfl rfl, Option.bind_some, e1, e2, Option.bind_some, rd R, Option.bind_some, ha, Option.bind_some]
  cases hq : Q 5 (m 76 12) with
  | some a =>
    refine ⟨a, s, Q, hm, I, ?_, hq, t4 _ t2 hn a hq, Sm_refl, R, by omega, by omega⟩
    unfold jd_196
    rw [y_gi L 0 11 rfl rfl, Option.bind_some, e1, nw, if_pos hn, y_gr L 0 11 rfl rfl, Option.bind_some, Option.bind_some, e2, Option.bind_some, rd R, Option.bind_some, hq, if_neg (by simp), fin R hq]
  | none =>
    obtain ⟨q, s1, Q1, I1, g1, g2, g3, X⟩ := n21 (s := s) (Q := Q) (I := I) (by omega)
    obtain ⟨L1, F1, S1⟩ := NwF_at (P := fun _ => True) (f := m 76 12) X L
    have R1 : RelH s1 Q1 (fOw hm s.1 (m 76 12)) I1 m := RelH_fr (P := fun _ => True) S1 (fun _ _ => trivial) L1 Mm_refl R
    have R2 := RelH_slot5 R1 ⟨Int.le_refl _, hn⟩ F1
    have c0 : Ce s1 (fOw hm s.1 (m 76 12)) s.1 10 0 (500 + m 76 12) := F1.2.1 0 (by decide)
    have S : Sm (fun o => o ≠ 1005) s Q hm I s1 (rms Q1 5 (m 76 12) (some s.1)) (fOw hm s.1 (m 76 12)) I1 := Sm_trans (Sm_mono S1 (fun _ _ => trivial)) (Sm_rms (by rw [Lo R1.1 rfl]; decide))
    obtain ⟨x1, x2, -⟩ := X
    refine ⟨s.1, s1, rms Q1 5 (m 76 12) (some s.1), fOw hm s.1 (m 76 12), I1, ?_, rms_e, R2.2.2.2.2.2.1.2.2.2.1 _ t2 hn _ rms_e, S, R2, by omega, by omega⟩
    unfold jd_196
    rw [y_gi L 0 11 rfl rfl, Option.bind_some, e1, nw, if_pos hn, y_gr L 0 11 rfl rfl, Option.bind_some, Option.bind_some, e2, Option.bind_some, rd R, Option.bind_some, hq, if_pos rfl, Option.bind_some, Option.bind_some, g1, Option.bind_some, g3, Option.bind_some, Option.bind_some, g2, y_tr R1.1 5 4 8 rfl rfl rfl t2 (by omega) c0.1 (c0.2.1.trans rfl), Option.bind_some, fin R2 rms_e]
theorem c_196n (R : RelH s Q hm I m) (h6 : s.1 < 1000000) (hn : ¬ m 76 12 < 8) : jd_196 0 (hh s Q I) = some (.inr 1, jth (hh s Q I) 1) := by
  have L := R.1
  obtain ⟨t1, t2, t3, t4, t5⟩ := id R.2.2.2.2.2.1
  have e1 : I 0 ((8 : Nat) : Int) = m 76 12 := t1
  unfold jd_196
  rw [y_gi L 0 11 rfl rfl, Option.bind_some, e1, n_jw (z := m 76 12) (by omega) (by omega), if_neg hn, x_6 h6, Option.bind_some]
end FreeFilm
