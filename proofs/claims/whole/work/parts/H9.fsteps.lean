/-! filter: the model's atoms and signs -/
section FltS
variable {s : hS} {Q : hQ} {hm : hO} {I0 m0 I m : jM} {a : Nat} {q n en p w d fl c A A2 B lv op r : Int} {pn nd : Nat}
def lt (v : Int) : Int := if v = 77 then 16 else if v = 97 then 14 else if v = 104 then 4 else if v = 105 then 17 else if v = 109 then 15 else if v = 110 then 5 else if v = 115 then 7 else if v = 116 then 6 else if v = 119 then 3 else if v = 120 then 1 else if v = 121 then 2 else -1
theorem k_340 {v : Int} (h0 : -1 ≤ v) (h1 : v < 256) : jd_340 v = lt v := by
  have key : ∀ k : Nat, k < 257 → jd_340 ((k : Int) - 1) = lt ((k : Int) - 1) := by decide +kernel
  have := key (v + 1).toNat (by omega)
  rw [show (((v + 1).toNat : Nat) : Int) - 1 = v by omega] at this
  exact this
theorem lt_r (v : Int) : -1 ≤ lt v ∧ lt v ≤ 17 := by
  unfold lt
  repeat' split
  all_goals omega
theorem MF_x (X : Fx s Q hm a q n en I0 m0) (F : MFr q m0 m) : m 76 5 = n ∧ m 80 = m0 80 ∧ m 76 92 = q := ⟨(F.2.1 5 (by omega)).trans X.2.2.2.2.2.2.1, F.1 80 (by decide) (by omega), (F.2.1 92 (by omega)).trans X.2.2.2.2.2.1⟩
/-- here, from a state -/
theorem k_here (X : Fx s Q hm a q n en I0 m0) (M : MS q m0 B w d fl m) (b0 : 0 ≤ B) (hb : Bl I0 en B A) (hr : Rs I0 en A) : jd_333 m = some (chM I0 en A, jms m 76 96 A) := by
  obtain ⟨x1, x2, -⟩ := MF_x X M.2.2.2.2.2.2
  exact k_333 X M.1 x1 x2 b0 hb hr
/-- a number -/
theorem k_num (X : Fx s Q hm a q n en I0 m0) (M : MS q m0 p w d c m) (p0 : 0 ≤ p) (c0 : 0 ≤ c ∧ c < 400) (hb : Bl I0 en p A) (hr : Rs I0 en A) (hd : 48 ≤ chM I0 en A ∧ chM I0 en A ≤ 57) (D : Nd I0 en A nd) : (dg I0 en (A + (nd : Int)) → ∃ m', jd_342 m = some (1, m') ∧ m' 76 97 = A + (nd : Int) ∧ MFr q m0 m') ∧ (¬ dg I0 en (A + (nd : Int)) → jd_342 m = some (1, emM (jms (jms m 76 96 A) 76 96 (A + (nd : Int))) q c 0 (vl I0 A nd)) ∧ MS q m0 (A + (nd : Int)) w d (c + 1) (emM (jms (jms m 76 96 A) 76 96 (A + (nd : Int))) q c 0 (vl I0 A nd))) := by
  have M1 := MS_p (z := A) M
  have M2 := MS_p (z := A + (nd : Int)) M1
  obtain ⟨x1, x2, x3⟩ := MF_x X M1.2.2.2.2.2.2
  obtain ⟨-, -, x4⟩ := MF_x X M2.2.2.2.2.2.2
  have A0 : 0 ≤ A := by have := hb.1; omega
  obtain ⟨l1, l2⟩ := k_342l (m := jms m 76 96 A) X M1.1 x1 x2 A0 hb.2.1 D
  have h9 : ¬ jw (jd_339 (chM I0 en A)) = 0 := by
    have := chM_r (I0 := I0) (en := en) (A := A)
    rw [k_339 this.1 this.2, if_pos hd]
    decide
  refine ⟨fun h => ?_, fun h => ?_⟩
  · obtain ⟨w1, w2⟩ := k_334 M2
    refine ⟨jms (jms (jms m 76 96 A) 76 96 (A + (nd : Int))) 76 97 (A + (nd : Int)), ?_, jms_e, w2⟩
    unfold jd_342
    rw [k_here X M p0 hb hr, Option.bind_some, if_neg h9, l1 h, Option.bind_some]
    show ((jd_334 (jms (jms m 76 96 A) 76 96 (A + (nd : Int)))).bind fun m51 => some ((1 : Int), m51)) = _
    rw [w1, Option.bind_some]
  · obtain ⟨w1, w2⟩ := k_335 (op := 0) (wo := vl I0 A nd) M2 x4 X.2.2.2.2.1 c0
    refine ⟨?_, w2⟩
    unfold jd_342
    rw [k_here X M p0 hb hr, Option.bind_some, if_neg h9, l2 h, Option.bind_some]
    show ((jd_335 0 (vl I0 A nd) (jms (jms m 76 96 A) 76 96 (A + (nd : Int)))).bind fun m51 => some ((1 : Int), m51)) = _
    rw [w1, Option.bind_some]
/-- no digit -/
theorem k_342h (X : Fx s Q hm a q n en I0 m0) (M : MS q m0 p w d c m) (p0 : 0 ≤ p) (hb : Bl I0 en p A) (hr : Rs I0 en A) (hd : ¬ (48 ≤ chM I0 en A ∧ chM I0 en A ≤ 57)) : jw (jd_339 (chM I0 en A)) = 0 ∧ jw (chM I0 en A) = chM I0 en A ∧ jd_340 (chM I0 en A) = lt (chM I0 en A) ∧ jw (lt (chM I0 en A)) = lt (chM I0 en A) := by
  have r := chM_r (I0 := I0) (en := en) (A := A)
  have l := lt_r (chM I0 en A)
  exact ⟨by rw [k_339 r.1 r.2, if_neg hd], n_jw (by omega) (by omega), k_340 r.1 r.2, n_jw (by omega) (by omega)⟩
/-- a minus or a bracket -/
theorem k_open (X : Fx s Q hm a q n en I0 m0) (M : MS q m0 p w d c m) (p0 : 0 ≤ p) (w0 : 0 ≤ w ∧ w < 400) (d0 : 0 ≤ d ∧ d ≤ 12) (hb : Bl I0 en p A) (hr : Rs I0 en A) (hc : chM I0 en A = 45 ∨ chM I0 en A = 40) : (d = 12 → ∃ m', jd_342 m = some (1, m') ∧ m' 76 97 = A ∧ MFr q m0 m') ∧ (d < 12 → ∃ m', jd_342 m = some (0, m') ∧ MS q m0 (A + 1) (w + 1) (d + 1) c m' ∧ m' 138 w = (if chM I0 en A = 45 then 8 else 18) ∧ m' 139 w = 1 ∧ (∀ i : Int, i ≠ w → m' 138 i = m 138 i ∧ m' 139 i = m 139 i) ∧ m' 136 = m 136 ∧ m' 137 = m 137) := by
  obtain ⟨h1, h2, h3, h4⟩ := k_342h X M p0 hb hr (by omega)
  have M1 := MS_p (z := A) M
  obtain ⟨n1, n2⟩ := k_341 M1 d0
  have hd : jd_342 m = jd_342_b117 (chM I0 en A) (jms m 76 96 A) := by
    unfold jd_342
    rw [k_here X M p0 hb hr, Option.bind_some, if_pos h1]
    show (if jw (chM I0 en A) = 45 then _ else if jw (chM I0 en A) = 40 then _ else _) = _
    rw [h2]
    rcases hc with e | e
    · rw [if_pos e]
    · rw [if_neg (show ¬ chM I0 en A = 45 by omega), if_pos e]
  rw [hd]
  unfold jd_342_b117
  refine ⟨fun e => ?_, fun e => ?_⟩
  · obtain ⟨m', y1, y2, y3⟩ := n2 e
    have A0 : 0 ≤ A ∧ A ≤ 200 := by have := hb.1; have := hb.2.1; have := Fx_e X; omega
    refine ⟨m', ?_, y2, y3⟩
    rw [y1, Option.bind_some, y2, n_jw (z := A) (by omega) (by omega), if_neg (by omega)]
  · have M2 := MS_d (z := d + 1) M1
    have M3 := MS_p (z := A + 1) M2
    obtain ⟨k1, k2⟩ := k_338 (op := if jw (chM I0 en A) = 45 then 8 else 18) (pt := 1) M3 w0
    obtain ⟨v1, v2, v3, v4, v5⟩ := awM_v (m := jms (jms (jms m 76 96 A) 76 101 (d + 1)) 76 96 (A + 1)) (w := w) (op := if jw (chM I0 en A) = 45 then 8 else 18) (pt := 1)
    refine ⟨_, ?_, k2, by rw [v1, h2], v2, v3, v4, v5⟩
    rw [n1 e, Option.bind_some, M2.2.1, if_pos (show jw (-1) = -1 by decide), M2.1, Option.bind_some, k1, Option.bind_some]
/-- what can't be there -/
theorem k_not (X : Fx s Q hm a q n en I0 m0) (M : MS q m0 p w d c m) (p0 : 0 ≤ p) (hb : Bl I0 en p A) (hr : Rs I0 en A) (hd : ¬ (48 ≤ chM I0 en A ∧ chM I0 en A ≤ 57)) (h45 : chM I0 en A ≠ 45) (h40 : chM I0 en A ≠ 40) (hl : lt (chM I0 en A) = -1) : ∃ m', jd_342 m = some (1, m') ∧ m' 76 97 = A ∧ MFr q m0 m' := by
  obtain ⟨h1, h2, h3, h4⟩ := k_342h X M p0 hb hr hd
  obtain ⟨w1, w2⟩ := k_334 (MS_p (z := A) M)
  refine ⟨_, ?_, jms_e, w2⟩
  unfold jd_342
  rw [k_here X M p0 hb hr, Option.bind_some, if_pos h1]
  show (if jw (chM I0 en A) = 45 then _ else if jw (chM I0 en A) = 40 then _ else if jw (jd_340 (chM I0 en A)) = -1 then ((jd_334 (jms m 76 96 A)).bind fun m16 => some ((1 : Int), m16)) else _) = _
  rw [h2, h3, h4, if_neg h45, if_neg h40, if_pos hl, w1, Option.bind_some]
/-- a letter -/
theorem k_let (X : Fx s Q hm a q n en I0 m0) (M : MS q m0 p w d c m) (p0 : 0 ≤ p) (c0 : 0 ≤ c ∧ c < 400) (hb : Bl I0 en p A) (hr : Rs I0 en A) (hd : ¬ (48 ≤ chM I0 en A ∧ chM I0 en A ≤ 57)) (h45 : chM I0 en A ≠ 45) (h40 : chM I0 en A ≠ 40) (hl : 1 ≤ lt (chM I0 en A) ∧ lt (chM I0 en A) ≤ 7) : jd_342 m = some (1, emM (jms (jms m 76 96 A) 76 96 (A + 1)) q c (lt (chM I0 en A)) 0) ∧ MS q m0 (A + 1) w d (c + 1) (emM (jms (jms m 76 96 A) 76 96 (A + 1)) q c (lt (chM I0 en A)) 0) := by
  obtain ⟨h1, h2, h3, h4⟩ := k_342h X M p0 hb hr hd
  have M1 := MS_p (z := A) M
  have M2 := MS_p (z := A + 1) M1
  obtain ⟨-, -, x4⟩ := MF_x X M2.2.2.2.2.2.2
  obtain ⟨w1, w2⟩ := k_335 (op := lt (chM I0 en A)) (wo := 0) M2 x4 X.2.2.2.2.1 c0
  refine ⟨?_, w2⟩
  unfold jd_342
  rw [k_here X M p0 hb hr, Option.bind_some, if_pos h1]
  show (if jw (chM I0 en A) = 45 then _ else if jw (chM I0 en A) = 40 then _ else if jw (jd_340 (chM I0 en A)) = -1 then _ else ((some (jms (jms m 76 96 A) 76 96 (jms m 76 96 A 76 96 + 1))).bind fun m18 => if 7 < jw (jd_340 (chM I0 en A)) then _ else ((jd_335 (jd_340 (chM I0 en A)) 0 m18).bind fun m35 => some ((1 : Int), m35)))) = _
  rw [h2, h3, h4, if_neg h45, if_neg h40, if_neg (by omega), M1.1, Option.bind_some, if_neg (by omega), w1, Option.bind_some]
/-- a function -/
theorem k_fun (X : Fx s Q hm a q n en I0 m0) (M : MS q m0 p w d c m) (p0 : 0 ≤ p) (w0 : 0 ≤ w ∧ w < 400) (d0 : 0 ≤ d ∧ d ≤ 12) (hb : Bl I0 en p A) (hr : Rs I0 en A) (hd : ¬ (48 ≤ chM I0 en A ∧ chM I0 en A ≤ 57)) (h45 : chM I0 en A ≠ 45) (h40 : chM I0 en A ≠ 40) (hl : 7 < lt (chM I0 en A)) (hb2 : Bl I0 en (A + 1) A2) (hr2 : Rs I0 en A2) : (chM I0 en A2 ≠ 40 ∨ d = 12 → ∃ m', jd_342 m = some (1, m') ∧ m' 76 97 = A2 ∧ MFr q m0 m') ∧ (chM I0 en A2 = 40 → d < 12 → ∃ m', jd_342 m = some (0, m') ∧ MS q m0 (A2 + 1) (w + 1) (d + 1) c m' ∧ m' 138 w = lt (chM I0 en A) ∧ m' 139 w = (if lt (chM I0 en A) = 17 then 3 else 2) ∧ (∀ i : Int, i ≠ w → m' 138 i = m 138 i ∧ m' 139 i = m 139 i) ∧ m' 136 = m 136 ∧ m' 137 = m 137) := by
  obtain ⟨h1, h2, h3, h4⟩ := k_342h X M p0 hb hr hd
  have l := lt_r (chM I0 en A)
  have b1 := hb.1
  have b2 := hb2.1
  have M1 := MS_p (z := A) M
  have M2 := MS_p (z := A + 1) M1
  have M3 := MS_p (z := A2) M2
  obtain ⟨n1, n2⟩ := k_341 M3 d0
  have r2 := chM_r (I0 := I0) (en := en) (A := A2)
  obtain ⟨R, hR⟩ : ∃ R, R = (if chM I0 en A2 = 40 then ((jd_341 (jms (jms (jms m 76 96 A) 76 96 (A + 1)) 76 96 A2)).bind fun m24 => (if (jw (m24 76 97)) = (-1) then ((some (jms m24 76 96 ((m24 76 96) + 1))).bind fun m27 => ((jd_338 (lt (chM I0 en A)) (if lt (chM I0 en A) = 17 then 3 else 2) m27).bind fun m29 => some ((0 : Int), m29))) else some (1, m24))) else ((jd_334 (jms (jms (jms m 76 96 A) 76 96 (A + 1)) 76 96 A2)).bind fun m33 => some (1, m33))) := ⟨_, rfl⟩
  have hd' : jd_342 m = R := by
    unfold jd_342
    rw [k_here X M p0 hb hr, Option.bind_some, if_pos h1]
    show (if jw (chM I0 en A) = 45 then _ else if jw (chM I0 en A) = 40 then _ else if jw (jd_340 (chM I0 en A)) = -1 then _ else ((some (jms (jms m 76 96 A) 76 96 (jms m 76 96 A 76 96 + 1))).bind fun m18 => if 7 < jw (jd_340 (chM I0 en A)) then ((jd_333 m18).bind fun q21 => (if (jw q21.1) = 40 then ((jd_341 q21.2).bind fun m24 => (if (jw (m24 76 97)) = (-1) then ((some (jms m24 76 96 ((m24 76 96) + 1))).bind fun m27 => ((jd_338 (jd_340 (chM I0 en A)) (if (jw (jd_340 (chM I0 en A))) = 17 then 3 else 2) m27).bind fun m29 => some (0, m29))) else some (1, m24))) else ((jd_334 q21.2).bind fun m33 => some (1, m33)))) else _)) = _
    rw [h2, h3, h4, if_neg h45, if_neg h40, if_neg (by omega), M1.1, Option.bind_some, if_pos hl, k_here X M2 (by omega) hb2 hr2, Option.bind_some, hR]
    show (if jw (chM I0 en A2) = 40 then _ else _) = _
    rw [n_jw (z := chM I0 en A2) (by omega) (by omega)]
  have A0 : 0 ≤ A2 ∧ A2 ≤ 200 := by have := hb2.2.1; have := Fx_e X; omega
  rw [hd', hR]
  refine ⟨fun e => ?_, fun e1 e2 => ?_⟩
  · by_cases h : chM I0 en A2 = 40
    · obtain ⟨m', y1, y2, y3⟩ := n2 (e.resolve_left (fun x => x h))
      refine ⟨m', ?_, y2, y3⟩
      rw [if_pos h, y1, Option.bind_some, y2, n_jw (z := A2) (by omega) (by omega), if_neg (by omega)]
    · obtain ⟨w1, w2⟩ := k_334 M3
      refine ⟨_, ?_, jms_e, w2⟩
      rw [if_neg h, w1, Option.bind_some]
  · have M4 := MS_d (z := d + 1) M3
    have M5 := MS_p (z := A2 + 1) M4
    obtain ⟨k1, k2⟩ := k_338 (op := lt (chM I0 en A)) (pt := if lt (chM I0 en A) = 17 then 3 else 2) M5 w0
    obtain ⟨v1, v2, v3, v4, v5⟩ := awM_v (m := jms (jms (jms (jms (jms m 76 96 A) 76 96 (A + 1)) 76 96 A2) 76 101 (d + 1)) 76 96 (A2 + 1)) (w := w) (op := lt (chM I0 en A)) (pt := if lt (chM I0 en A) = 17 then 3 else 2)
    refine ⟨_, ?_, k2, v1, v2, v3, v4, v5⟩
    rw [if_pos e1, n1 e2, Option.bind_some, M4.2.1, if_pos (show jw (-1) = -1 by decide), M4.1, Option.bind_some, k1, Option.bind_some]
end FltS
