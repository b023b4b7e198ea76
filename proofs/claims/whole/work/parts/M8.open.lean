/-! making: a picture opened, and its bits begun, class -/
section OpenM
variable {s : hS} {Q Q' : hQ} {hm : hO} {I m : jM} {a c p : Nat} {f k fr kd : Int}
theorem c_73m (L : Lay s Q hm) (h6 : s.1 ≤ 1000000) (F : FilmAt s Q hm a f) (Fc : FlC s Q c) (hc : c = 28 ∨ 153 ≤ c) (k0 : 0 ≤ k) (k1 : k < 12) (hK : ∀ j : Int, 0 ≤ j → j ≤ k → okI (I (a + 1) j)) (eK : I (a + 1) k = kd) (kd0 : 0 ≤ kd) (kd2 : kd ≤ 2) (f0 : 0 ≤ fr) (f1 : fr ≤ 12) : jd_73 45 (some a) (some c) k fr (hh s Q I) = some (hh s (rms (rms (rms Q 45 2 (Q (c + 9) k)) 45 3 (if 0 ≤ rfB (I (a + 1)) fr k kd then Q (c + 9) (rfB (I (a + 1)) fr k kd) else none)) 45 4 (if kd = 2 ∧ 0 ≤ anc (I (a + 1)) fr k.toNat then Q (c + 9) (anc (I (a + 1)) fr k.toNat) else none)) (jms I 45 0 kd)) := by
  have T := PtC_45 L
  have a153 := F.1
  obtain ⟨n, hn⟩ : ∃ n : Nat, (n : Int) = k := ⟨k.toNat, by omega⟩
  have hnk : k.toNat = n := by omega
  obtain ⟨Q1, hQ1⟩ : ∃ z, z = rms Q 45 2 (Q (c + 9) k) := ⟨_, rfl⟩
  have o1 : ∀ x : Nat, x ≠ 45 → Q1 x = Q x := fun x hx => by rw [hQ1]; exact if_neg hx
  have F1 : FilmAt s Q1 hm a f := FilmAt_q (fun x hx => o1 x (by omega)) F
  have Fc1 : FlC s Q1 c := FlC_q hc (o1 28 (by decide)) (fun x hx => o1 x (by omega)) Fc
  have q7 := F_q F 0 7 rfl rfl
  have q15 := G_q Fc 8 15 rfl rfl
  have q15' := G_q Fc1 8 15 rfl rfl
  obtain ⟨J, hJ⟩ : ∃ J, J = jms I 45 0 kd := ⟨_, rfl⟩
  have Ja : J (a + 1) = I (a + 1) := by rw [hJ]; exact jms_o (by omega)
  have J0 : J 45 ((0 : Nat) : Int) = kd := by rw [hJ]; exact jms_e
  have c9 : Q1 (c + 9) = Q (c + 9) := o1 _ (by omega)
  have e1 := c_35 (I := J) F1 h6 (N := k + 1) (by omega) (fun j j0 j1 => by rw [Ja]; exact hK j j0 (by omega)) f0 f1 n (by omega)
  rw [hn, Ja] at e1
  have ar := anc_r (K := I (a + 1)) (fr := fr) n
  obtain ⟨l, hl⟩ : ∃ z, z = anc (I (a + 1)) fr n := ⟨_, rfl⟩
  rw [← hl] at e1 ar
  have e2 : jd_35 a l fr (hh s Q1 J) = some (anc (I (a + 1)) fr l.toNat) := by
    by_cases cl : l < 0
    · have : l = -1 := by omega
      rw [this]
      exact c_35m F1 f0 f1
    · have := c_35 (I := J) F1 h6 (N := k + 1) (by omega) (fun j j0 j1 => by rw [Ja]; exact hK j j0 (by omega)) f0 f1 l.toNat (by omega)
      rw [show ((l.toNat : Nat) : Int) = l by omega, Ja] at this
      exact this
  have ar2 := anc_r (K := I (a + 1)) (fr := fr) l.toNat
  have rfe : rfB (I (a + 1)) fr k kd = if kd = 2 then anc (I (a + 1)) fr l.toNat else l := by
    unfold rfB
    rw [hnk, ← hl]
  obtain ⟨rf, hrf⟩ : ∃ z, z = rfB (I (a + 1)) fr k kd := ⟨_, rfl⟩
  have rfr : -1 ≤ rf ∧ rf < 12 := by
    rw [hrf, rfe]
    split <;> omega
  have b73 : ∀ r : Option Nat, jd_73_b73 45 (some c) l r (hh s Q1 J) = some (hh s (rms (rms Q1 45 3 r) 45 4 (if kd = 2 ∧ 0 ≤ l then Q (c + 9) l else none)) J) := fun r => by
    have o2 : ∀ x : Nat, x ≠ 45 → rms Q1 45 3 r x = Q1 x := fun x hx => if_neg hx
    have Fc2 : FlC s (rms Q1 45 3 r) c := FlC_q hc (o2 28 (by decide)) (fun x hx => o2 x (by omega)) Fc1
    have q15'' := G_q Fc2 8 15 rfl rfl
    unfold jd_73_b73 jd_73_b100 jd_73_b101
    rw [x_pr T.1 T.2.1, Option.bind_some, T_gi T, Option.bind_some, J0, n_jw (z := kd) (by omega) (by omega), n_jw (z := l) (by omega) (by omega)]
    by_cases ck : kd = 2
    · rw [if_pos ck]
      by_cases cl : l < 0
      · rw [if_pos cl, if_neg (by omega), x_pr T.1 T.2.1, Option.bind_some]
        rfl
      · rw [if_neg cl, if_pos ⟨ck, by omega⟩, Option.bind_some, G_gr Fc2]
        rw [show ((3 : Nat) : Int) = 3 from rfl, Option.bind_some, q15'', Option.bind_some, show c + (8 + 1) = c + 9 from rfl, G_ar Fc2 (by omega) (by omega), Option.bind_some, x_pr T.1 T.2.1, Option.bind_some, o2 (c + 9) (by omega), c9]
        rfl
    · rw [if_neg ck, if_neg (fun e => ck e.1), x_pr T.1 T.2.1, Option.bind_some]
      rfl
  unfold jd_73
  rw [Option.bind_some, F_gr F, Option.bind_some, q7, Option.bind_some, F_ai F h6 1 12 rfl rfl rfl k0 (by omega), Option.bind_some, eK, T_pi T, Option.bind_some, Option.bind_some, G_gr Fc, Option.bind_some, q15, Option.bind_some, show c + (8 + 1) = c + 9 from rfl, G_ar Fc k0 k1, Option.bind_some, x_pr T.1 T.2.1, Option.bind_some, Option.bind_some]
  rw [show rms Q 45 ((2 : Nat) : Int) (Q (c + 9) k) = Q1 from hQ1.symm, show jms I 45 ((0 : Nat) : Int) kd = J from hJ.symm, F_ck F1, Option.bind_some, e1, Option.bind_some, Option.bind_some, e2, Option.bind_some, T_gi T, Option.bind_some, J0, n_jw (z := kd) (by omega) (by omega), Option.bind_some, ← rfe, ← hrf, n_jw (z := rf) (by omega) (by omega), hnk, ← hl, ← hQ1, ← hJ]
  by_cases cr : 0 ≤ rf
  · rw [if_pos cr, if_pos cr, Option.bind_some, G_gr Fc1, Option.bind_some, q15', Option.bind_some, show c + (8 + 1) = c + 9 from rfl, G_ar Fc1 (by omega) (by omega), Option.bind_some, c9, b73, F_ck F1, Option.bind_some]
  · rw [if_neg cr, if_neg cr, b73, F_ck F1, Option.bind_some]
/-- startWriting -/
theorem c_6 (L : Lay s Q hm) (h6 : s.1 < 1000000) (hb : ∀ b, Q 43 0 = some b → 153 ≤ b ∧ Ce s hm b 1 4000 560) : ∃ (s' : hS) (Q' : hQ) (hm' : hO) (I' : jM) (b : Nat), jd_6 43 (hh s Q I) = some (hh s' Q' I') ∧ Lay s' Q' hm' ∧ Sm (fun o => o ≠ 1043) s Q hm I s' Q' hm' I' ∧ WrT s' Q' 43 b ∧ 153 ≤ b ∧ Ce s' hm' b 1 4000 560 ∧ I' 43 1 = 0 ∧ (∀ z : Int, z ≠ 1 → I' 43 z = I 43 z) ∧ (∀ z : Int, z ≠ 0 → Q' 43 z = Q 43 z) ∧ s.1 ≤ s'.1 ∧ s'.1 ≤ s.1 + 1 ∧ s'.2.1 ≤ s.2.1 + 4000 ∧ (Q 43 0 ≠ none → s' = s) := by
  have h43 : 43 < s.1 := Lt L rfl
  have t43 : s.2.2.1 43 = 0 + 8 := Lg L rfl rfl
  have o43 : hm 43 = 1043 := by rw [Lo L rfl]; rfl
  cases hq : Q 43 0 with
  | some b =>
    obtain ⟨b1, b2⟩ := hb b hq
    have q0 : Q 43 ((0 : Nat) : Int) = some b := hq
    refine ⟨s, Q, hm, jms I 43 1 0, b, ?_, L, Sm_jms (by rw [o43]; decide), ⟨⟨h43, t43⟩, ⟨b2.1, b2.2.1, b2.2.2.1⟩, by omega, hq⟩, b1, b2, jms_e, fun z hz => jms_i hz, fun _ _ => rfl, by omega, by omega, by omega, fun _ => rfl⟩
    unfold jd_6 jd_6_b16
    rw [y_gr L 43 0 rfl rfl, Option.bind_some, q0, if_neg (by simp), y_pi L 43 0 rfl rfl, Option.bind_some]
    rfl
  | none =>
    have q0 : Q 43 ((0 : Nat) : Int) = none := hq
    have l153 := L.1
    obtain ⟨s1, hs1⟩ : ∃ s1, s1 = s_mk s 4000 1 4000 := ⟨_, rfl⟩
    have e1 : jna (hh s Q I) 1 4000 = some (s.1, hh s1 (r_mk Q s.1) (i_mk I s.1)) := by rw [hs1]; exact x_na h6 (by decide) (by decide)
    have L0 : Lay s1 (r_mk Q s.1) (fun x => if x = s.1 then 560 else hm x) := by
      obtain ⟨l1, l2, l3, l4⟩ := Lay_mk (s := s) (Q := Q) (hm := hm) (sl := 4000) (t := 1) (n := 4000) L
      rw [← hs1] at l1 l2
      refine ⟨l1, fun x hx => ?_, fun x y1 y2 => ?_, l4⟩
      · obtain ⟨c1, c2, c3, c4⟩ := l2 x hx
        exact ⟨c1, c2, c3, (if_neg (show ¬ x = s.1 by omega)).trans c4⟩
      · exact (if_neg (show ¬ x = s.1 by omega)).trans (l3 x y1 y2)
    have L1 : Lay s1 (rms (r_mk Q s.1) 43 0 (some s.1)) (fun x => if x = s.1 then 560 else hm x) := Lay_rms (k := 0) L0 rfl
    have n1 : s1.1 = s.1 + 1 := by rw [hs1]; rfl
    have n2 : s1.2.1 = s.2.1 + 4000 := by rw [hs1]; rfl
    have g1 : s1.2.2.1 s.1 = 1 ∧ s1.2.2.2 s.1 = 4000 := by rw [hs1]; exact ⟨if_pos rfl, if_pos rfl⟩
    have g2 : ∀ x : Nat, x < s.1 → s1.2.2.1 x = s.2.2.1 x ∧ s1.2.2.2 x = s.2.2.2 x := fun x hx => by
      rw [hs1]
      exact ⟨if_neg (by omega), if_neg (by omega)⟩
    have ri : ∀ x : Nat, x < s.1 → r_mk Q s.1 x = Q x ∧ i_mk I s.1 x = I x := fun x hx => ⟨if_neg (by omega), if_neg (by omega)⟩
    refine ⟨s1, rms (r_mk Q s.1) 43 0 (some s.1), fun x => if x = s.1 then 560 else hm x, jms (i_mk I s.1) 43 1 0, s.1, ?_, L1, ⟨by omega, fun x hx hp => ?_⟩, ⟨⟨by omega, by rw [(g2 43 h43).1]; exact t43⟩, ⟨by omega, g1.1, g1.2⟩, by omega, rms_e⟩, l153, ⟨by omega, g1.1, g1.2, if_pos rfl⟩, jms_e, fun z hz => by rw [jms_i hz, (ri 43 h43).2], fun z hz => by rw [rms_i hz, (ri 43 h43).1], by omega, by omega, by omega, fun e => absurd rfl e⟩
    · unfold jd_6 jd_6_b16
      rw [y_gr L 43 0 rfl rfl, Option.bind_some, q0, if_pos rfl, e1, Option.bind_some, y_pr L0 43 0 rfl rfl, Option.bind_some, y_pi L1 43 0 rfl rfl, Option.bind_some]
      rfl
    · have x43 : x ≠ 43 := fun e => hp (by rw [e]; exact o43)
      exact ⟨(g2 x hx).1, (g2 x hx).2, by rw [rms_o x43, (ri x hx).1], by rw [jms_o x43, (ri x hx).2], if_neg (by omega)⟩
/-- anchors within a group -/
theorem anc_sh {K : Int → Int} {g : Nat} (hg : K g ≠ 2) : ∀ n : Nat, 0 < n → anc K 0 (g + n) = (g : Int) + anc (fun j => K ((g : Int) + j)) 0 n
  | 0, h => absurd h (by omega)
  | n + 1, _ => by
    have e1 : anc K 0 (g + (n + 1)) = if ((g + n : Nat) : Int) < 0 then -1 else if K ((g + n : Nat) : Int) ≠ 2 then ((g + n : Nat) : Int) else anc K 0 (g + n) := rfl
    have e2 : anc (fun j => K ((g : Int) + j)) 0 (n + 1) = if (n : Int) < 0 then -1 else if K ((g : Int) + (n : Int)) ≠ 2 then (n : Int) else anc (fun j => K ((g : Int) + j)) 0 n := rfl
    rw [e1, e2, if_neg (show ¬ ((g + n : Nat) : Int) < 0 by omega), if_neg (show ¬ (n : Int) < 0 by omega), show ((g + n : Nat) : Int) = (g : Int) + (n : Int) by omega]
    by_cases c : K ((g : Int) + (n : Int)) ≠ 2
    · rw [if_pos c, if_pos c]
    · rw [if_neg c, if_neg c]
      by_cases hn : n = 0
      · subst hn
        rw [show (g : Int) + ((0 : Nat) : Int) = (g : Int) by omega] at c
        exact absurd hg c
      · exact anc_sh hg n (by omega)
end OpenM
