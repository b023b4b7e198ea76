/-! filter: the model's signs -/
section FltSg
variable {s : hS} {Q : hQ} {hm : hO} {I0 m0 I I' m : jM} {a : Nat} {q n en p w d fl c A B lv op r v pt dl : Int} {pn : Nat}
theorem SG_p (G : SG q a m0 I m B w d c fl lv pn) : SG q a m0 I (jms m 76 96 A) A w d c fl lv pn := by
  obtain ⟨g1, g2, g3, g4⟩ := G
  exact ⟨MS_p g1, g2, Em_m g3 rfl rfl, g4⟩
theorem SG_lv {lv' : Int} (G : SG q a m0 I m B w d c fl lv pn) (h : lv' ≤ lv) : SG q a m0 I m B w d c fl lv' pn := by
  obtain ⟨g1, g2, g3, g4⟩ := G
  refine ⟨g1, g2, g3, fun i hi => ?_⟩
  obtain ⟨h1, h2⟩ := g4 i hi
  exact ⟨by omega, h2⟩
/-- nothing waits -/
theorem SG_0 (M : MS q m0 B w d c m) (E : Em q a I m c) : SG q a m0 I m B w d c c lv 0 := by
  refine ⟨?_, by omega, E, fun i hi => absurd hi (by omega)⟩
  rw [show w + ((0 : Nat) : Int) = w by omega, show nE (m 138) w 0 = 0 from rfl, Int.add_zero]
  exact M
/-- one more waits, which the class has told -/
theorem SG_up {lv' : Int} (G : SG q a m0 I m B (w + 1) (d + dl) c fl lv' pn) (hl : lv ≤ lv') (h1 : m 138 w = op) (o1 : 8 ≤ op) (o2 : op ≤ 13) (ho : lv ≤ sr op) (hd : dl = if op = 8 then 1 else 0) (hI : I' (a + 1) = jiu (I (a + 1)) c (opc op.toNat)) (f0 : 0 ≤ fl) : SG q a m0 I' m B w d (c + 1) fl lv (pn + 1) := by
  obtain ⟨g1, g2, g3, g4⟩ := G
  have ji : ∀ k : Int, k ≠ c → I' (a + 1) k = I (a + 1) k := fun k hk => by
    rw [hI]
    exact if_neg hk
  have jc : I' (a + 1) c = opc op.toNat := by
    rw [hI]
    exact if_pos rfl
  refine ⟨?_, by omega, fun k k0 k1 => ?_, fun i hi => ?_⟩
  · rw [nE_f, h1, ← hd, show w + ((pn + 1 : Nat) : Int) = w + 1 + (pn : Int) by omega, show d + (dl + nE (m 138) (w + 1) pn) = d + dl + nE (m 138) (w + 1) pn by omega]
    exact g1
  · rw [ji k (by omega)]
    exact g3 k k0 k1
  · cases i with
    | zero =>
      rw [show w + ((0 : Nat) : Int) = w by omega, h1, show fl + ((pn + 1 : Nat) : Int) - 1 - ((0 : Nat) : Int) = c by omega, jc]
      exact ⟨ho, o1, o2, rfl⟩
    | succ j =>
      obtain ⟨t1, t2, t3, t4⟩ := g4 j (by omega)
      rw [show w + ((j + 1 : Nat) : Int) = w + 1 + (j : Int) by omega, show fl + ((pn + 1 : Nat) : Int) - 1 - ((j + 1 : Nat) : Int) = fl + (pn : Int) - 1 - (j : Int) by omega, ji _ (by omega)]
      exact ⟨by omega, t2, t3, t4⟩
/-- a sign that joins -/
def sgO (v : Int) : Int := if v = 43 then 9 else if v = 45 then 10 else if v = 42 then 11 else if v = 47 then 12 else 13
def sgL (v : Int) : Int := if v = 43 ∨ v = 45 then 1 else 2
theorem k_join (X : Fx s Q hm a q n en I0 m0) (G : SG q a m0 I m B w d c fl lv pn) (hlv : sgL (chM I0 en A) ≤ lv) (f0 : 0 ≤ fl) (w0 : 0 ≤ w) (cw : c + w ≤ 200) (d0 : 0 ≤ d ∧ d ≤ 12) (b0 : 0 ≤ B) (hb : Bl I0 en B A) (hr : Rs I0 en A) (hv : chM I0 en A = 43 ∨ chM I0 en A = 45 ∨ chM I0 en A = 42 ∨ chM I0 en A = 47 ∨ chM I0 en A = 37) (tp : w = 0 ∨ (sr (m 138 (w - 1)) < sgL (chM I0 en A) ∧ 8 ≤ m 138 (w - 1) ∧ m 138 (w - 1) ≤ 18)) : ∃ m', jd_343 m = some (1, m') ∧ MS q m0 (A + 1) (w + 1) d c m' ∧ Em q a I m' c ∧ m' 138 w = sgO (chM I0 en A) ∧ (∀ i : Int, i ≠ w → m' 138 i = m 138 i ∧ m' 139 i = m 139 i) := by
  have G1 := SG_p (A := A) G
  have c0 := G.2.1
  have y := k_here X G.1 b0 hb hr
  obtain ⟨u, hu⟩ : ∃ u, chM I0 en A = u := ⟨_, rfl⟩
  rw [hu] at hv hlv tp y ⊢
  have hq := (MF_x X G1.1.2.2.2.2.2.2).2.2
  have l1 : 1 ≤ sgL u ∧ sgL u ≤ 3 := by
    unfold sgL
    split <;> omega
  obtain ⟨m4, e4, M4, E4, s8, s9⟩ := k_337 (lv := sgL u) (SG_lv G1 hlv) hq X.2.2.2.2.1 f0 w0 cw l1 d0 tp
  obtain ⟨k1, k2⟩ := k_338 (op := sgO u) (pt := 0) M4 (by omega)
  obtain ⟨v1, v2, v3, v4, v5⟩ := awM_v (m := m4) (w := w) (op := sgO u) (pt := 0)
  have x96 : awM m4 w (sgO u) 0 76 96 = A := k2.1
  have nj : jw u = u := n_jw (by omega) (by omega)
  refine ⟨jms (awM m4 w (sgO u) 0) 76 96 (A + 1), ?_, MS_p k2, Em_m (Em_m E4 v4 v5) rfl rfl, v1, fun i hi => ?_⟩
  · have hd : jd_343 m = (if u = 43 then jd_343_b17 u (jms m 76 96 A) else (if u = 45 then jd_343_b17 u (jms m 76 96 A) else (if u = 42 then jd_343_b70 u (jms m 76 96 A) else (if u = 47 then jd_343_b70 u (jms m 76 96 A) else jd_343_b70 u (jms m 76 96 A))))) := by
      unfold jd_343
      rw [y, Option.bind_some]
      show (if jw u = 43 then jd_343_b17 u (jms m 76 96 A) else (if jw u = 45 then jd_343_b17 u (jms m 76 96 A) else (if jw u = 42 then jd_343_b70 u (jms m 76 96 A) else (if jw u = 47 then jd_343_b70 u (jms m 76 96 A) else (if jw u = 37 then jd_343_b70 u (jms m 76 96 A) else _))))) = _
      rw [nj]
      by_cases h : u = 37
      · rw [if_pos h]
      · rcases hv with e | e | e | e | e
        · rw [if_pos e, if_pos e]
        · rw [if_neg (by omega), if_pos e, if_neg (by omega), if_pos e]
        · rw [if_neg (by omega), if_neg (by omega), if_pos e, if_neg (by omega), if_neg (by omega), if_pos e]
        · rw [if_neg (by omega), if_neg (by omega), if_neg (by omega), if_pos e, if_neg (by omega), if_neg (by omega), if_neg (by omega), if_pos e]
        · exact absurd e h
    rw [hd]
    have b17 : u = 43 ∨ u = 45 → jd_343_b17 u (jms m 76 96 A) = some (1, jms (awM m4 w (sgO u) 0) 76 96 (A + 1)) := fun e => by
      have eo : (if jw u = 43 then 9 else 10) = sgO u := by
        rw [nj]
        unfold sgO
        rcases e with e | e <;> subst e <;> rfl
      have el : sgL u = 1 := if_pos e
      rw [el] at e4
      unfold jd_343_b17
      rw [e4, Option.bind_some, eo, k1, Option.bind_some, x96, Option.bind_some]
    have b70 : u = 42 ∨ u = 47 ∨ u = 37 → jd_343_b70 u (jms m 76 96 A) = some (1, jms (awM m4 w (sgO u) 0) 76 96 (A + 1)) := fun e => by
      have eo : (if jw u = 42 then 11 else (if jw u = 47 then 12 else 13)) = sgO u := by
        rw [nj]
        unfold sgO
        rcases e with e | e | e <;> subst e <;> rfl
      have el : sgL u = 2 := if_neg (by omega)
      rw [el] at e4
      unfold jd_343_b70 jd_343_b100
      rw [e4, Option.bind_some, eo, k1, Option.bind_some, x96, Option.bind_some]
    rcases hv with e | e | e | e | e
    · rw [if_pos e, b17 (Or.inl e)]
    · rw [if_neg (by omega), if_pos e, b17 (Or.inr e)]
    · rw [if_neg (by omega), if_neg (by omega), if_pos e, b70 (Or.inl e)]
    · rw [if_neg (by omega), if_neg (by omega), if_neg (by omega), if_pos e, b70 (Or.inr (Or.inl e))]
    · rw [if_neg (by omega), if_neg (by omega), if_neg (by omega), if_neg (by omega), b70 (Or.inr (Or.inr e))]
  · have h1 : jms (awM m4 w (sgO u) 0) 76 96 (A + 1) 138 i = awM m4 w (sgO u) 0 138 i := rfl
    have h2 : jms (awM m4 w (sgO u) 0) 76 96 (A + 1) 139 i = awM m4 w (sgO u) 0 139 i := rfl
    rw [h1, h2, (v3 i hi).1, (v3 i hi).2, s8, s9]
    exact ⟨rfl, rfl⟩
/-- no sign that joins: all that waits is settled -/
def nJ (v : Int) : Prop := v ≠ 43 ∧ v ≠ 45 ∧ v ≠ 42 ∧ v ≠ 47 ∧ v ≠ 37
theorem k_rest (X : Fx s Q hm a q n en I0 m0) (G : SG q a m0 I m B w d c fl lv pn) (l0 : 1 ≤ lv) (f0 : 0 ≤ fl) (w0 : 0 ≤ w) (cw : c + w ≤ 200) (d0 : 0 ≤ d ∧ d ≤ 12) (b0 : 0 ≤ B) (hb : Bl I0 en B A) (hr : Rs I0 en A) (hv : nJ (chM I0 en A)) (tp : w = 0 ∨ (sr (m 138 (w - 1)) < 1 ∧ 8 ≤ m 138 (w - 1) ∧ m 138 (w - 1) ≤ 18)) : ∃ m', MS q m0 A w d c m' ∧ Em q a I m' c ∧ m' 138 = m 138 ∧ m' 139 = m 139 ∧ jd_343 m = ((some (if (jw (m' 76 98)) ≤ 0 then (-1) else ((m' 76 98) - 1))).bind fun z27 => (if (jw z27) = (-1) then (if (jw (m' 76 5)) ≤ (jw (m' 76 96)) then jd_343_b159  m' else ((jd_334 m').bind fun m33 => jd_343_b159  m33)) else ((jma m' 139 z27).bind fun v35 => ((some (if (jw v35) ≤ 1 then 41 else 44)).bind fun z37 => (if (jw (chM I0 en A)) = (jw z37) then ((some (jms m' 76 96 ((m' 76 96) + 1))).bind fun m40 => (if (jw z37) = 44 then ((jma m40 139 z27).bind fun v43 => ((jmw m40 139 z27 (v43 - 1)).bind fun m45 => some (1, m45))) else ((some (jms m40 76 98 ((m40 76 98) - 1))).bind fun m47 => ((some (jms m47 76 101 ((m47 76 101) - 1))).bind fun m49 => ((jma m49 138 z27).bind fun v51 => (if (jw v51) = 18 then jd_343_b265  m49 else ((jma m49 138 z27).bind fun v54 => ((jd_335 v54 0 m49).bind fun m56 => jd_343_b265  m56)))))))) else ((jd_334 m').bind fun m58 => some (0, m58))))))) := by
  have G1 := SG_p (A := A) G
  have y := k_here X G.1 b0 hb hr
  have hq := (MF_x X G1.1.2.2.2.2.2.2).2.2
  obtain ⟨m4, e4, M4, E4, s8, s9⟩ := k_337 (lv := 1) (SG_lv G1 l0) hq X.2.2.2.2.1 f0 w0 cw (by omega) d0 tp
  refine ⟨m4, M4, E4, s8, s9, ?_⟩
  have r := chM_r (I0 := I0) (en := en) (A := A)
  have nj : jw (chM I0 en A) = chM I0 en A := n_jw (by omega) (by omega)
  obtain ⟨v1, v2, v3, v4, v5⟩ := hv
  unfold jd_343
  rw [y, Option.bind_some]
  show (if jw (chM I0 en A) = 43 then _ else (if jw (chM I0 en A) = 45 then _ else (if jw (chM I0 en A) = 42 then _ else (if jw (chM I0 en A) = 47 then _ else (if jw (chM I0 en A) = 37 then _ else ((jd_337 1 (jms m 76 96 A)).bind _)))))) = _
  rw [if_neg (by rw [nj]; exact v1), if_neg (by rw [nj]; exact v2), if_neg (by rw [nj]; exact v3), if_neg (by rw [nj]; exact v4), if_neg (by rw [nj]; exact v5), e4, Option.bind_some]
/-- at the end -/
theorem k_end (X : Fx s Q hm a q n en I0 m0) (G : SG q a m0 I m B 0 0 c fl lv pn) (l0 : 1 ≤ lv) (f0 : 0 ≤ fl) (cw : c ≤ 200) (b0 : 0 ≤ B) (hb : Bl I0 en B A) (hr : Rs I0 en A) (hv : nJ (chM I0 en A)) : (n ≤ A → ∃ m', jd_343 m = some (0, m') ∧ m' 76 97 = -1 ∧ m' 76 103 = 1 ∧ m' 76 102 = c ∧ MFr q m0 m' ∧ Em q a I m' c) ∧ (A < n → ∃ m', jd_343 m = some (0, m') ∧ m' 76 97 = A ∧ MFr q m0 m') := by
  obtain ⟨m', M, E, -, -, e⟩ := k_rest X G l0 f0 (by omega) (by omega) (by omega) b0 hb hr hv (Or.inl rfl)
  have x5 := (MF_x X M.2.2.2.2.2.2).1
  have A0 : 0 ≤ A ∧ A ≤ 200 := by have := hb.1; have := hb.2.1; have := Fx_e X; omega
  have n4 := X.2.2.2.2.2.2.2.1
  rw [M.2.2.1, if_pos (show jw 0 ≤ 0 by decide), Option.bind_some, if_pos (show jw (-1) = -1 by decide), x5, M.1, n_jw (z := n) (by omega) (by omega), n_jw (z := A) (by omega) (by omega)] at e
  unfold jd_343_b159 at e
  refine ⟨fun h => ?_, fun h => ?_⟩
  · rw [if_pos h, Option.bind_some] at e
    exact ⟨_, e, by rw [jms_i (by decide)]; exact M.2.1, jms_e, by rw [jms_i (by decide)]; exact M.2.2.2.2.1, MFr_76 M.2.2.2.2.2.2 (by omega), Em_m E rfl rfl⟩
  · obtain ⟨w1, w2⟩ := k_334 M
    rw [if_neg (by omega), w1, Option.bind_some, Option.bind_some] at e
    exact ⟨_, e, by rw [jms_i (by decide), jms_e], MFr_76 w2 (by omega)⟩
/-- within brackets -/
theorem k_brk (X : Fx s Q hm a q n en I0 m0) (G : SG q a m0 I m B (w + 1) (d + 1) c fl lv pn) (l0 : 1 ≤ lv) (f0 : 0 ≤ fl) (w0 : 0 ≤ w) (cw : c + (w + 1) ≤ 200) (d0 : 0 ≤ d ∧ d + 1 ≤ 12) (b0 : 0 ≤ B) (hb : Bl I0 en B A) (hr : Rs I0 en A) (hv : nJ (chM I0 en A)) (ho : m 138 w = op) (o1 : 14 ≤ op) (o2 : op ≤ 18) (hp : m 139 w = pt) (p1 : 1 ≤ pt ∧ pt ≤ 3) : (chM I0 en A ≠ (if pt ≤ 1 then 41 else 44) → ∃ m', jd_343 m = some (0, m') ∧ m' 76 97 = A ∧ MFr q m0 m') ∧ (chM I0 en A = 44 → 2 ≤ pt → ∃ m', jd_343 m = some (1, m') ∧ MS q m0 (A + 1) (w + 1) (d + 1) c m' ∧ Em q a I m' c ∧ m' 138 = m 138 ∧ m' 139 w = pt - 1 ∧ (∀ i : Int, i ≠ w → m' 139 i = m 139 i)) ∧ (chM I0 en A = 41 → pt = 1 → op = 18 → ∃ m', jd_343 m = some (0, m') ∧ MS q m0 (A + 1) w d c m' ∧ Em q a I m' c ∧ m' 138 = m 138 ∧ m' 139 = m 139) ∧ (chM I0 en A = 41 → pt = 1 → op ≠ 18 → ∃ m1 : jM, jd_343 m = some (0, emM m1 q c op 0) ∧ MS q m0 (A + 1) w d (c + 1) (emM m1 q c op 0) ∧ Em q a I m1 c ∧ m1 138 = m 138 ∧ m1 139 = m 139) := by
  have so : sr op < 1 := by
    unfold sr
    rw [if_neg (by omega), if_neg (by omega), if_neg (by omega)]
    decide
  obtain ⟨m', M, E, s8, s9, e⟩ := k_rest X G l0 f0 (by omega) cw (by omega) b0 hb hr hv (Or.inr (by rw [show w + 1 - 1 = w by omega, ho]; omega))
  have A0 : 0 ≤ A ∧ A ≤ 200 := by have := hb.1; have := hb.2.1; have := Fx_e X; omega
  have r := chM_r (I0 := I0) (en := en) (A := A)
  have c0 := G.2.1
  have t9 : m' 139 w = pt := by rw [s9]; exact hp
  have t8 : m' 138 w = op := by rw [s8]; exact ho
  rw [M.2.2.1, n_jw (z := w + 1) (by omega) (by omega), if_neg (by omega), Option.bind_some, show w + 1 - 1 = w by omega, n_jw (z := w) (by omega) (by omega), if_neg (by omega), y_ma 139 400 rfl rfl (by omega) (by omega), Option.bind_some, t9, n_jw (z := pt) (by omega) (by omega), Option.bind_some, n_jw (z := chM I0 en A) (by omega) (by omega), show jw (if pt ≤ 1 then 41 else 44) = (if pt ≤ 1 then 41 else 44) by split <;> rfl, M.1] at e
  refine ⟨fun h => ?_, fun h1 h2 => ?_, fun h1 h2 h3 => ?_, fun h1 h2 h3 => ?_⟩
  · obtain ⟨w1, w2⟩ := k_334 M
    rw [if_neg h, w1, Option.bind_some] at e
    exact ⟨_, e, jms_e, w2⟩
  · have M1 := MS_p (z := A + 1) M
    have u9 : jms m' 76 96 (A + 1) 139 w = pt := t9
    rw [if_neg (show ¬ pt ≤ 1 by omega), if_pos h1, Option.bind_some, if_pos rfl, y_ma 139 400 rfl rfl (by omega) (by omega), Option.bind_some, u9, y_mw 139 400 rfl rfl (by omega) (by omega), Option.bind_some] at e
    exact ⟨_, e, MS_st M1 (Or.inr rfl), Em_m E rfl rfl, by rw [← s8]; rfl, jms_e, fun i hi => by rw [jms_i hi, ← s9]; rfl⟩
  · have M1 := MS_d (z := d) (MS_w (z := w) (MS_p (z := A + 1) M))
    have u98 : jms m' 76 96 (A + 1) 76 98 = w + 1 := by rw [jms_i (by decide)]; exact M.2.2.1
    have u101 : jms (jms m' 76 96 (A + 1)) 76 98 w 76 101 = d + 1 := by rw [jms_i (by decide), jms_i (by decide)]; exact M.2.2.2.1
    have u8 : jms (jms (jms m' 76 96 (A + 1)) 76 98 w) 76 101 d 138 w = 18 := by rw [← h3]; exact t8
    unfold jd_343_b265 at e
    rw [if_pos (show pt ≤ 1 by omega), if_pos h1, Option.bind_some, if_neg (show ¬ (41 : Int) = 44 by decide), u98, Option.bind_some, show w + 1 - 1 = w by omega, u101, Option.bind_some, show d + 1 - 1 = d by omega, y_ma 138 400 rfl rfl (by omega) (by omega), Option.bind_some, u8, if_pos (by decide)] at e
    exact ⟨_, e, M1, Em_m E rfl rfl, by rw [← s8]; rfl, by rw [← s9]; rfl⟩
  · have M1 := MS_d (z := d) (MS_w (z := w) (MS_p (z := A + 1) M))
    have u98 : jms m' 76 96 (A + 1) 76 98 = w + 1 := by rw [jms_i (by decide)]; exact M.2.2.1
    have u101 : jms (jms m' 76 96 (A + 1)) 76 98 w 76 101 = d + 1 := by rw [jms_i (by decide), jms_i (by decide)]; exact M.2.2.2.1
    have u8 : jms (jms (jms m' 76 96 (A + 1)) 76 98 w) 76 101 d 138 w = op := t8
    obtain ⟨k1, k2⟩ := k_335 (op := op) (wo := 0) M1 (MF_x X M1.2.2.2.2.2.2).2.2 X.2.2.2.2.1 (by omega)
    unfold jd_343_b265 at e
    rw [if_pos (show pt ≤ 1 by omega), if_pos h1, Option.bind_some, if_neg (show ¬ (41 : Int) = 44 by decide), u98, Option.bind_some, show w + 1 - 1 = w by omega, u101, Option.bind_some, show d + 1 - 1 = d by omega, y_ma 138 400 rfl rfl (by omega) (by omega), Option.bind_some, u8, n_jw (z := op) (by omega) (by omega), if_neg h3, Option.bind_some, k1, Option.bind_some] at e
    exact ⟨_, e, k2, Em_m E rfl rfl, by rw [← s8]; rfl, by rw [← s9]; rfl⟩
end FltSg
