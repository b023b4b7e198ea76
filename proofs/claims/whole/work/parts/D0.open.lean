/-! a picture opened by the class -/
section Open
variable {s : hS} {Q Q' : hQ} {hm : hO} {I m : jM} {a c p : Nat} {f k fr kd : Int}
theorem c_35m (F : FilmAt s Q hm a f) (h0 : 0 ≤ fr) (h1 : fr ≤ 12) : jd_35 a (-1) fr (hh s Q I) = some (-1) := by
  have l : jd_35_l4 a fr (-1 - 1) (hh s Q I) = some (.inr ()) := by
    unfold jd_35_l4
    refine jlp_1 (f := fun u : Int => jd_35_s4 a fr u (hh s Q I)) (t := -1 - 1) ?_ _
    unfold jd_35_s4
    rw [if_pos (show jw (-1 - 1) < jw fr by rw [n_jw (z := fr) (by omega) (by omega), n_jw (by decide) (by decide)]; omega)]
  unfold jd_35
  rw [l, Option.bind_some, jse_r]
theorem PcC_q (h : ∀ x : Nat, 153 ≤ x → Q' x = Q x) (P : PcC s Q p) : PcC s Q' p := ⟨P.1, P.2.1, P.2.2.1, P.2.2.2.1, P.2.2.2.2.1, P.2.2.2.2.2.1, by rw [h p P.1]; exact P.2.2.2.2.2.2⟩
theorem FilmAt_q (h : ∀ x : Nat, 153 ≤ x → Q' x = Q x) (F : FilmAt s Q hm a f) : FilmAt s Q' hm a f := by
  obtain ⟨f1, f2, f3, f4, f5⟩ := F
  refine ⟨f1, f2, by rw [h a f1]; exact f3, by rw [h a f1]; exact f4, fun k k0 k1 => ?_⟩
  rw [h (a + 9) (by omega)]
  intro p hp
  obtain ⟨g1, g2, g3, g4⟩ := f5 k k0 k1 p hp
  exact ⟨g1, g2, g3, by rw [h p g1]; exact g4⟩
theorem FlC_q (hc : c = 28 ∨ 153 ≤ c) (h28 : Q' 28 = Q 28) (h : ∀ x : Nat, 153 ≤ x → Q' x = Q x) (F : FlC s Q c) : FlC s Q' c := by
  have e : Q' c = Q c := by
    rcases hc with rfl | hc
    · exact h28
    · exact h c hc
  exact ⟨F.1, by rw [e]; exact F.2⟩
/-- the reference behind, the one ahead -/
def rfB (K : Int → Int) (fr k kd : Int) : Int := if kd = 2 then anc K fr (anc K fr k.toNat).toNat else anc K fr k.toNat
theorem c_73 (L : Lay s Q hm) (h6 : s.1 ≤ 1000000) (F : FilmAt s Q hm a f) (Fc : FlC s Q c) (hc : c = 28 ∨ 153 ≤ c) (k0 : 0 ≤ k) (k1 : k < 12) (hK : ∀ j : Int, 0 ≤ j → j ≤ k → okI (I (a + 1) j)) (eK : I (a + 1) k = kd) (kd0 : 0 ≤ kd) (kd2 : kd ≤ 2) (f0 : 0 ≤ fr) (f1 : fr ≤ 12) : jd_73 11 (some a) (some c) k fr (hh s Q I) = some (hh s (rms (rms (rms Q 11 2 (Q (c + 9) k)) 11 3 (if 0 ≤ rfB (I (a + 1)) fr k kd then Q (c + 9) (rfB (I (a + 1)) fr k kd) else none)) 11 4 (if kd = 2 ∧ 0 ≤ anc (I (a + 1)) fr k.toNat then Q (c + 9) (anc (I (a + 1)) fr k.toNat) else none)) (jms I 11 0 kd)) := by
  have T := PtC_11 L
  have a153 := F.1
  obtain ⟨n, hn⟩ : ∃ n : Nat, (n : Int) = k := ⟨k.toNat, by omega⟩
  have hnk : k.toNat = n := by omega
  obtain ⟨Q1, hQ1⟩ : ∃ z, z = rms Q 11 2 (Q (c + 9) k) := ⟨_, rfl⟩
  have o1 : ∀ x : Nat, x ≠ 11 → Q1 x = Q x := fun x hx => by rw [hQ1]; exact if_neg hx
  have F1 : FilmAt s Q1 hm a f := FilmAt_q (fun x hx => o1 x (by omega)) F
  have Fc1 : FlC s Q1 c := FlC_q hc (o1 28 (by decide)) (fun x hx => o1 x (by omega)) Fc
  have q7 := F_q F 0 7 rfl rfl
  have q15 := G_q Fc 8 15 rfl rfl
  have q15' := G_q Fc1 8 15 rfl rfl
  obtain ⟨J, hJ⟩ : ∃ J, J = jms I 11 0 kd := ⟨_, rfl⟩
  have Ja : J (a + 1) = I (a + 1) := by rw [hJ]; exact jms_o (by omega)
  have J0 : J 11 ((0 : Nat) : Int) = kd := by rw [hJ]; exact jms_e
  have c9 : Q1 (c + 9) = Q (c + 9) := o1 _ (by omega)
  have e1 := c_35 (I := J) F1 h6 (N := k + 1) (by omega) (fun j j0 j1 => by rw [Ja]; exact hK j j0 (by omega)) f0 f1 n (by omega)
  rw [hn, Ja] at e1
  have ar := anc_r (K := I (a + 1)) (fr := fr) n
  obtain ⟨l, hl⟩ : ∃ z, z = anc (I (a + 1)) fr n := ⟨_, rfl⟩
  rw [← hl] at e1 ar
  have e2 : jd_35 a l fr (hh s Q1 J) = some (anc (I (a + 1)) fr l.toNat) := by
    by_cases cl : l < 0
    · have : l = -1 := by omega
      rw [this]
      exact c_35m F1 f0 f1
    · have := c_35 (I := J) F1 h6 (N := k + 1) (by omega) (fun j j0 j1 => by rw [Ja]; exact hK j j0 (by omega)) f0 f1 l.toNat (by omega)
      rw [show ((l.toNat : Nat) : Int) = l by omega, Ja] at this
      exact this
  have ar2 := anc_r (K := I (a + 1)) (fr := fr) l.toNat
  have rfe : rfB (I (a + 1)) fr k kd = if kd = 2 then anc (I (a + 1)) fr l.toNat else l := by
    unfold rfB
    rw [hnk, ← hl]
  obtain ⟨rf, hrf⟩ : ∃ z, z = rfB (I (a + 1)) fr k kd := ⟨_, rfl⟩
  have rfr : -1 ≤ rf ∧ rf < 12 := by
    rw [hrf, rfe]
    split <;> omega
  have b73 : ∀ r : Option Nat, jd_73_b73 11 (some c) l r (hh s Q1 J) = some (hh s (rms (rms Q1 11 3 r) 11 4 (if kd = 2 ∧ 0 ≤ l then Q (c + 9) l else none)) J) := fun r => by
    have o2 : ∀ x : Nat, x ≠ 11 → rms Q1 11 3 r x = Q1 x := fun x hx => if_neg hx
    have Fc2 : FlC s (rms Q1 11 3 r) c := FlC_q hc (o2 28 (by decide)) (fun x hx => o2 x (by omega)) Fc1
    have q15'' := G_q Fc2 8 15 rfl rfl
    unfold jd_73_b73 jd_73_b100 jd_73_b101
    rw [x_pr T.1 T.2.1, Option.bind_some, T_gi T, Option.bind_some, J0, n_jw (z := kd) (by omega) (by omega), n_jw (z := l) (by omega) (by omega)]
    by_cases ck : kd = 2
    · rw [if_pos ck]
      by_cases cl : l < 0
      · rw [if_pos cl, if_neg (by omega), x_pr T.1 T.2.1, Option.bind_some]
        rfl
      · rw [if_neg cl, if_pos ⟨ck, by omega⟩, Option.bind_some, G_gr Fc2]
        rw [show ((3 : Nat) : Int) = 3 from rfl, Option.bind_some, q15'', Option.bind_some, show c + (8 + 1) = c + 9 from rfl, G_ar Fc2 (by omega) (by omega), Option.bind_some, x_pr T.1 T.2.1, Option.bind_some, o2 (c + 9) (by omega), c9]
        rfl
    · rw [if_neg ck, if_neg (fun e => ck e.1), x_pr T.1 T.2.1, Option.bind_some]
      rfl
  unfold jd_73
  rw [Option.bind_some, F_gr F, Option.bind_some, q7, Option.bind_some, F_ai F h6 1 12 rfl rfl rfl k0 (by omega), Option.bind_some, eK, T_pi T, Option.bind_some, Option.bind_some, G_gr Fc, Option.bind_some, q15, Option.bind_some, show c + (8 + 1) = c + 9 from rfl, G_ar Fc k0 k1, Option.bind_some, x_pr T.1 T.2.1, Option.bind_some, Option.bind_some]
  rw [show rms Q 11 ((2 : Nat) : Int) (Q (c + 9) k) = Q1 from hQ1.symm, show jms I 11 ((0 : Nat) : Int) kd = J from hJ.symm, F_ck F1, Option.bind_some, e1, Option.bind_some, Option.bind_some, e2, Option.bind_some, T_gi T, Option.bind_some, J0, n_jw (z := kd) (by omega) (by omega), Option.bind_some, ← rfe, ← hrf, n_jw (z := rf) (by omega) (by omega), hnk, ← hl, ← hQ1, ← hJ]
  by_cases cr : 0 ≤ rf
  · rw [if_pos cr, if_pos cr, Option.bind_some, G_gr Fc1, Option.bind_some, q15', Option.bind_some, show c + (8 + 1) = c + 9 from rfl, G_ar Fc1 (by omega) (by omega), Option.bind_some, c9, b73, F_ck F1, Option.bind_some]
  · rw [if_neg cr, if_neg cr, b73, F_ck F1, Option.bind_some]
end Open
