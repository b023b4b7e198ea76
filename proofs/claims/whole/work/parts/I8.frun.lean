/-! filter: the text read, both sides -/
section FltRun
variable {s : hS} {Q : hQ} {hm : hO} {I m m' : jM} {a : Nat} {q n en A x : Int}
theorem s59_w (h : m 76 97 = A) (a0 : 0 ≤ A) (a1 : A ≤ 1000) : jd_344_s59 x m = some (.inr m) := by
  unfold jd_344_s59
  rw [h, n_jw (z := A) (by omega) (by omega), if_neg (show ¬ A = -1 by omega)]
  exact ite_self _
theorem s59_d (h : m 76 103 = 1) : jd_344_s59 x m = some (.inr m) := by
  unfold jd_344_s59
  rw [h, if_neg (show ¬ jw (1 % 2) = 0 by decide)]
theorem l59 {k : Nat} {y : Int} (hr : Rch k (1, m) (y, m')) (hk : k < 99999999) (e : jd_344_s59 y m' = some (.inr m')) : jd_344_l59 1 m = some m' := by
  unfold jd_344_l59
  obtain ⟨j, hj⟩ : ∃ j, jfu = k + (j + 1) := ⟨99999999 - k, by unfold jfu; omega⟩
  rw [hj, Rch_lp hr]
  simp only [jlp, e]
def stM (m : jM) : jM := jms (jms (jms (jms (jms (jms m 76 96 0) 76 97 (-1)) 76 98 0) 76 101 0) 76 102 0) 76 103 0
theorem stM_s : MS q m 0 0 0 0 (stM m) := by
  unfold stM
  refine ⟨?_, ?_, ?_, ?_, ?_, jms_e, ?_⟩
  · rw [jms_i (by decide), jms_i (by decide), jms_i (by decide), jms_i (by decide), jms_i (by decide), jms_e]
  · rw [jms_i (by decide), jms_i (by decide), jms_i (by decide), jms_i (by decide), jms_e]
  · rw [jms_i (by decide), jms_i (by decide), jms_i (by decide), jms_e]
  · rw [jms_i (by decide), jms_i (by decide), jms_e]
  · rw [jms_i (by decide), jms_e]
  · have F : MFr q m m := ⟨fun _ _ _ => rfl, fun _ _ => rfl, fun _ _ => ⟨rfl, rfl⟩⟩
    exact MFr_76 (MFr_76 (MFr_76 (MFr_76 (MFr_76 (MFr_76 F (by omega)) (by omega)) (by omega)) (by omega)) (by omega)) (by omega)
theorem flt_run (X : Fx s (rms Q a 3 (some 2)) hm a q n en I m) : ∃ (v : Int) (I' mm : jM), jd_45 a (some 2) n (hh s Q I) = some (v, hh s (rms Q a 3 (some 2)) I') ∧ jd_344_l59 1 (stM m) = some mm ∧ MFr q m mm ∧ (∀ x : Nat, x ≠ a → x ≠ a + 1 → I' x = I x) ∧ ((v = -1 ∧ mm 76 97 = -1 ∧ ∃ c : Int, mm 76 102 = c ∧ I' a 1 = c ∧ 1 ≤ c ∧ c ≤ 200 ∧ Em q a I' mm c ∧ Dp I' a c 1) ∨ (0 ≤ v ∧ v ≤ 200 ∧ mm 76 97 = v)) := by
  have ee := Fx_e X
  have n4 := X.2.2.2.2.2.2.2.1
  have en' := X.2.2.2.2.2.2.2.2.1
  obtain ⟨J, hJ⟩ : ∃ J, J = jms (jms (jms I a 4 en) a 5 0) a 1 0 := ⟨_, rfl⟩
  have C : CS I a en 0 0 J := by
    rw [hJ]
    exact ⟨by rw [jms_i (by decide), jms_e], jms_e, by rw [jms_i (by decide), jms_i (by decide), jms_e], fun x h1 _ => by rw [jms_o h1, jms_o h1, jms_o h1], by decide, by decide, by decide, ee.2.2.1⟩
  have T : At q a I m en 0 0 0 0 0 J (stM m) := ⟨C, stM_s, fun k k0 k1 => by omega, ⟨fun _ => 0, rfl, rfl, fun k k0 k1 => by omega⟩, by decide, by decide, by decide, by decide⟩
  obtain ⟨-, hs⟩ := flt_all X 12 0 (by decide) (by decide)
  have tg : s.2.2.1 a = 3 + 8 := X.2.1.2.1.2.1
  have la : a < s.1 := X.2.1.2.1.1
  have e200 : (if jw 200 < jw n then (200 : Int) else n) = en := by
    rw [n_jw (z := n) (by omega) (by omega), en']
    rfl
  have hd : ∀ {b : Int} {I1 : jM} {p c : Int}, jrec 60 49 a 0 0 (hh s (rms Q a 3 (some 2)) J) = some (b, hh s (rms Q a 3 (some 2)) I1) → CS I a en p c I1 → jd_45 a (some 2) n (hh s Q I) = some ((if jw b = 0 then p else if n ≤ p then -1 else p), hh s (rms Q a 3 (some 2)) I1) := fun {b} {I1} {p} {c} e C1 => by
    have e5 : I1 a ((5 : Nat) : Int) = p := C1.1
    have p0 := C1.2.2.2.2.2.2
    have hJ' : jms (jms (jms I a ((4 : Nat) : Int) en) a ((5 : Nat) : Int) 0) a ((1 : Nat) : Int) 0 = J := hJ.symm
    have hQ' : rms Q a ((3 : Nat) : Int) (some 2) = rms Q a 3 (some 2) := rfl
    unfold jd_45 jd_45_b55
    rw [x_pr la tg, Option.bind_some, e200, hQ', C_pi X, Option.bind_some, C_pi X, Option.bind_some, C_pi X, Option.bind_some, hJ', C_ck X, Option.bind_some, e, Option.bind_some]
    dsimp only
    rw [C_gi X, Option.bind_some, Option.bind_some, e5, n_jw (z := n) (by omega) (by omega), n_jw (z := p) (by omega) (by omega)]
    by_cases h1 : jw b = 0
    · rw [if_pos h1, if_pos h1]
    · rw [if_neg h1, if_neg h1]
      by_cases h2 : n ≤ p
      · rw [if_pos h2, if_pos h2]
      · rw [if_neg h2, if_neg h2]
  obtain ⟨I1, ⟨o1, p', c', fl, B, pn, k, m1, y1, y2, y3, y4, y5, y6, y7, y8, y9, y10, y11, y12⟩ | ⟨o1, p', c', y, k, m1, y1, y2, y3, y4, y5⟩⟩ := hs 60 (by decide) T (Or.inl rfl)
  · have e1 := hd o1 y1
    rw [if_neg (show ¬ jw 1 = 0 by decide)] at e1
    have y1' := y1.2.2.2.2
    obtain ⟨z1, z2⟩ := k_end X y5 (by decide) y6 (by omega) y7 y8 y12.1 y12.2
    by_cases hn : n ≤ p'
    · obtain ⟨m2, w1, w2, w3, w4, w5, w6⟩ := z1 hn
      rw [if_pos hn] at e1
      refine ⟨-1, I1, m2, e1, l59 (Rch_t y2 (Rch_1 (k_si y5.1 w1))) (by omega) (s59_d w3), w5, y1.2.2.2.1, Or.inl ⟨rfl, w2, c', w4, y1.2.1, ?_, by omega, w6, y10⟩⟩
      obtain ⟨D, d1, d2, -⟩ := y10
      by_cases hc : c' = 0
      · rw [hc, d1] at d2
        exact absurd d2 (by decide)
      · omega
    · obtain ⟨m2, w1, w2, w3⟩ := z2 (by omega)
      rw [if_neg hn] at e1
      exact ⟨p', I1, m2, e1, l59 (Rch_t y2 (Rch_1 (k_si y5.1 w1))) (by omega) (s59_w w2 (by omega) (by omega)), w3, y1.2.2.2.1, Or.inr ⟨by omega, by omega, w2⟩⟩
  · have e1 := hd o1 y1
    have y1' := y1.2.2.2.2
    rw [if_pos (show jw 0 = 0 by decide)] at e1
    exact ⟨p', I1, m1, e1, l59 y2 (by omega) (s59_w y4 (by omega) (by omega)), y5, y1.2.2.2.1, Or.inr ⟨by omega, by omega, y4⟩⟩
end FltRun
