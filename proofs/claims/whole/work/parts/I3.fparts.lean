/-! filter: a minus; brackets and what is within -/
section FltP
variable {s : hS} {Q : hQ} {hm : hO} {I0 m0 I I' m m' : jM} {a : Nat} {q n en p w d fl c A B lv op r v x u many : Int} {pn nd k N : Nat} {F : jFR}
/-- a result, after a turn that was ahead -/
theorem FB_pre (H : FBad q a I0 m0 en A m' I') (hr : Rch k (1, m) (1, m')) (hk : (k : Int) ≤ A - p) : FBad q a I0 m0 en p m I' := by
  obtain ⟨p', c', x, l, m2, C, h1, h2, h3, h4⟩ := H
  exact ⟨p', c', x, k + l, m2, C, Rch_t hr h1, by omega, h3, h4⟩
theorem fac_min (X : Fx s Q hm a q n en I0 m0) (T : At q a I0 m0 en p w d r c I m) (hb : Bl I0 en p A) (hr : Rs I0 en A) (hu : chC I0 en A = 45) (HF : d < 12 → ∀ {p w r c : Int} {I m : jM}, At q a I0 m0 en p w (d + 1) r c I m → Res s Q q a I0 m0 en (fun _ => True) 3 w (d + 1) r p m (jrec N 51 a (d + 1) 0 (hh s Q I))) : Res s Q q a I0 m0 en (fun _ => True) 3 w d r p m (jd_51 (jrec (N + 1)) a d (hh s Q I)) := by
  obtain ⟨C, M, E, D, cw, w0, d0, r0⟩ := T
  have ee := Fx_e X
  have pA := hb.1
  have p0 := C.2.2.2.2.2.2.1
  have c0 := C.2.2.2.2.1
  have cm : chM I0 en A = 45 := (ch_i (by omega) (by omega)).mp hu
  have Al : A < en := ch_lt hu (by decide)
  have C1 := CS_p (A := A) C (by omega) (by omega)
  obtain ⟨k1, k2⟩ := k_open X M p0 (by omega) d0 hb hr (Or.inl cm)
  have e5 : jms I a 5 A a ((5 : Nat) : Int) = A := jms_e
  have J3 : jms (jms I a 5 A) a ((5 : Nat) : Int) (A + 1) = jms I a 5 (A + 1) := jms_jms
  have hd : jd_51 (jrec (N + 1)) a d (hh s Q I) = ((jd_54 (jrec N) a d (hh s Q (jms I a 5 A))).bind fun q16 => ((jbc q16.1).bind fun u18 => some (q16.1, q16.2))) := by
    rw [c_51h X C hb hr, hu, if_pos (by decide)]
    unfold jd_51_b22
    rw [if_neg (show ¬ jw 45 = 40 by decide), if_pos (show jw 45 = 45 by decide), C_ck X, Option.bind_some]
    rfl
  rw [hd]
  by_cases h12 : d = 12
  · refine ⟨jms I a 5 A, Or.inr ⟨?_, FB_1 M (k1 h12) pA C1⟩⟩
    unfold jd_54
    rw [n_jw (z := d) (by omega) (by omega), if_neg (by omega)]
    rfl
  · obtain ⟨m2, j1, j2, j3, j4, j5, j6, j7⟩ := k2 (by omega)
    rw [cm, if_pos rfl] at j3
    have C2 := c_inc C1 Al
    rw [jms_jms] at C2
    have T2 : At q a I0 m0 en (A + 1) (w + 1) (d + 1) r c (jms I a 5 (A + 1)) m2 := ⟨C2, j2, Em_m (fun k k0 k1 => by rw [jms_o (by omega)]; exact E k k0 k1) j6 j7, Dp_i D (by rw [jms_o (by omega)]), by omega, by omega, by omega, r0⟩
    have R1 : Rch 1 (1, m) (1, m2) := Rch_1 (k_at M j1)
    have h54 : ∀ {b : Int} {I1 : jM}, jrec N 51 a (d + 1) 0 (hh s Q (jms I a 5 (A + 1))) = some (b, hh s Q I1) → (b = 0 ∨ b = 1) → jd_54 (jrec N) a d (hh s Q (jms I a 5 A)) = ((jd_46 a 126 (hh s Q I1)).bind fun h12 => some (b, h12)) := fun {b} {I1} e hb => by
      unfold jd_54
      rw [n_jw (z := d) (by omega) (by omega), if_pos (by omega), C_gi X, Option.bind_some, e5, C_pi X, Option.bind_some, J3, C_ck X, Option.bind_some, e, Option.bind_some]
      show ((jck (hh s Q I1) a 3).bind fun u10 => ((jd_46 a 126 (hh s Q I1)).bind fun h12 => ((jbc b).bind fun u14 => some (b, h12)))) = _
      rw [C_ck X, Option.bind_some, show jbc b = some () from if_pos hb]
      rfl
    obtain ⟨I1, ⟨o1, p', c', fl, B, pn, k, m3, y1, y2, y3, y4, y5, y6, y7, y8, y9, y10, y11, -⟩ | ⟨o1, H⟩⟩ := HF (by omega) T2
    · obtain ⟨I2, e1, e2, e3⟩ := c_46 (v := 126) X y1
      have y8' := y8.2.1
      have c200 : c' < 200 := by omega
      rw [if_pos c200] at e2
      refine ⟨I2, Or.inl ⟨?_, p', c' + 1, fl, B, pn + 1, 1 + k, m3, e2, Rch_t R1 y2, by omega, by omega, ?_, y6, y7, y8, fun i hi => ?_, ?_, by omega, trivial⟩⟩
      · rw [h54 o1 (Or.inr rfl), e1]
        rfl
      · exact SG_up (dl := 1) (op := 8) y5 (Int.le_refl _) ((y9 w (by omega)).1.trans j3) (by decide) (by decide) (by decide) rfl (e3 c200) y6
      · obtain ⟨z1, z2⟩ := y9 i (by omega)
        obtain ⟨z3, z4⟩ := j5 i (by omega)
        exact ⟨z1.trans z3, z2.trans z4⟩
      · have := Dp_s y10 y1.2.2.2.2.1 (e3 c200) (by show (1 : Int) ≤ _; omega)
        rw [show r + 1 - arS 126 + 1 = r + 1 by show r + 1 - 1 + 1 = r + 1; omega] at this
        exact this
    · obtain ⟨I2, e1, H2⟩ := FB_46 (v := 126) X H
      refine ⟨I2, Or.inr ⟨?_, FB_pre H2 R1 (by omega)⟩⟩
      rw [h54 o1 (Or.inl rfl), e1]
      rfl
/-- what a text in brackets gives -/
def POk (q : Int) (a : Nat) (I0 m0 : jM) (en w d r p op many : Int) (m I' : jM) : Prop := ∃ (p' c' : Int) (k : Nat) (m' : jM), CS I0 a en p' c' I' ∧ Rch k (1, m) (0, m') ∧ (k : Int) ≤ p' - p ∧ p < p' ∧ (∀ i : Int, i < w → m' 138 i = m 138 i ∧ m' 139 i = m 139 i) ∧ Dp I' a c' (r + many) ∧ c' + w + 2 ≤ p' ∧ (op = 18 → MS q m0 p' w d c' m' ∧ Em q a I' m' c') ∧ (op ≠ 18 → ∃ m1 : jM, m' = emM m1 q c' op 0 ∧ MS q m0 p' w d (c' + 1) m' ∧ Em q a I' m1 c')
def St1 (I0 : jM) (en p : Int) : Prop := Rs I0 en p ∧ nJ (chM I0 en p)
/-- the invariant of the parts -/
def PI (s : hS) (Q : hQ) (q : Int) (a : Nat) (I0 m0 : jM) (en w d r p op many : Int) (m I : jM) (k : Nat) (st : Int × jH) : Prop := (k = 0 ∧ st = (0, hh s Q I)) ∨ (0 < k ∧ (k : Int) ≤ many ∧ ∃ (I' : jM) (p' c' fl B : Int) (pn kk : Nat) (m' : jM), st = ((k : Int), hh s Q I') ∧ CS I0 a en p' c' I' ∧ Rch kk (1, m) (0, m') ∧ (kk : Int) ≤ p' - p ∧ p < p' ∧ SG q a m0 I' m' B (w + 1) (d + 1) c' fl 1 pn ∧ 0 ≤ fl ∧ 0 ≤ B ∧ Bl I0 en B p' ∧ (∀ i : Int, i < w → m' 138 i = m 138 i ∧ m' 139 i = m 139 i) ∧ m' 138 w = op ∧ m' 139 w = many - ((k : Int) - 1) ∧ Dp I' a c' (r + k) ∧ c' + (w + 1) ≤ p' ∧ St1 I0 en p')
theorem prt_l (X : Fx s Q hm a q n en I0 m0) (T : At q a I0 m0 en p (w + 1) (d + 1) r c I m) (w0 : 0 ≤ w) (d0 : 0 ≤ d) (o1 : 14 ≤ op) (o2 : op ≤ 18) (ho : m 138 w = op) (hp : m 139 w = many) (mb : 1 ≤ many ∧ many ≤ 3) (HS : ∀ {p w r c : Int} {I m : jM}, At q a I0 m0 en p w (d + 1) r c I m → (w = 0 ∨ (sr (m 138 (w - 1)) < 1 ∧ 8 ≤ m 138 (w - 1) ∧ m 138 (w - 1) ≤ 18)) → Res s Q q a I0 m0 en (St1 I0 en) 1 w (d + 1) r p m (jrec N 49 a (d + 1) 0 (hh s Q I))) : wT (jd_55_l29 (jrec N) a d many 0 (hh s Q I)) (fun x => (∃ I', (x = .inl (hh s Q I') ∨ x = .inr (.inl (hh s Q I'))) ∧ FBad q a I0 m0 en p m I') ∨ (∃ I', x = .inr (.inr (hh s Q I')) ∧ ∃ kk : Nat, (kk : Int) = many ∧ PI s Q q a I0 m0 en w d r p op many m I kk ((kk : Int), hh s Q I') ∧ 0 < kk)) := by
  have so : sr op < 1 := by
    unfold sr
    rw [if_neg (by omega), if_neg (by omega), if_neg (by omega)]
    decide
  have dd := T.2.2.2.2.2.2.1
  have ee := Fx_e X
  unfold jd_55_l29
  refine w_lp (fun k st => PI s Q q a I0 m0 en w d r p op many m I k st) many.toNat (fun k st hk J => ?_) (n_fu (by omega)) (Or.inl ⟨rfl, rfl⟩)
  -- one part more, from an atom state
  have part : ∀ {p1 c1 : Int} {I1 m1 : jM} {k1 : Nat}, (k : Int) < many → At q a I0 m0 en p1 (w + 1) (d + 1) (r + k) c1 I1 m1 → Rch k1 (1, m) (1, m1) → (k1 : Int) ≤ p1 - p → p ≤ p1 → (∀ i : Int, i < w → m1 138 i = m 138 i ∧ m1 139 i = m 139 i) → m1 138 w = op → m1 139 w = many - k → wT (jd_55_b49 (jrec N) a d many (k : Int) (hh s Q I1)) (fun o => jse o (fun s' => k < many.toNat ∧ PI s Q q a I0 m0 en w d r p op many m I (k + 1) s') (fun x => (∃ I', (x = .inl (hh s Q I') ∨ x = .inr (.inl (hh s Q I'))) ∧ FBad q a I0 m0 en p m I') ∨ (∃ I', x = .inr (.inr (hh s Q I')) ∧ ∃ kk : Nat, (kk : Int) = many ∧ PI s Q q a I0 m0 en w d r p op many m I kk ((kk : Int), hh s Q I') ∧ 0 < kk))) := by
    intro p1 c1 I1 m1 k1 hkm T1 R1 kb pp sm h8 h9
    obtain ⟨I2, ⟨z1, p', c', fl, B, pn, l, m3, y1, y2, y3, y4, y5, y6, y7, y8, y9, y10, y11, y12⟩ | ⟨z1, H⟩⟩ := HS T1 (Or.inr (by rw [show w + 1 - 1 = w by omega, h8]; omega))
    · refine ⟨.inl ((k : Int) + 1, hh s Q I2), ?_, ?_⟩
      · unfold jd_55_b49
        rw [C_ck X, Option.bind_some, z1, Option.bind_some]
        exact if_neg (show ¬ jw 1 = 0 by decide)
      · show jse _ _ _
        rw [jse_l]
        refine ⟨by omega, Or.inr ⟨by omega, by omega, I2, p', c', fl, B, pn, k1 + l, m3, ?_, y1, Rch_t R1 y2, by omega, by omega, y5, y6, y7, y8, fun i hi => ?_, ?_, ?_, ?_, y11, y12⟩⟩
        · rw [show ((k + 1 : Nat) : Int) = (k : Int) + 1 by omega]
        · obtain ⟨x1, x2⟩ := y9 i (by omega)
          obtain ⟨x3, x4⟩ := sm i hi
          exact ⟨x1.trans x3, x2.trans x4⟩
        · exact (y9 w (by omega)).1.trans h8
        · rw [(y9 w (by omega)).2, h9]
          omega
        · rw [show r + ((k + 1 : Nat) : Int) = r + (k : Int) + 1 by omega]
          exact y10
    · refine ⟨.inr (.inr (.inl (hh s Q I2))), ?_, ?_⟩
      · unfold jd_55_b49
        rw [C_ck X, Option.bind_some, z1, Option.bind_some]
        exact if_pos (show jw 0 = 0 by decide)
      · show jse _ _ _
        rw [jse_r]
        exact Or.inl ⟨I2, Or.inr rfl, FB_pre H R1 kb⟩
  rcases J with ⟨rfl, rfl⟩ | ⟨k0, k1, I1, p1, c1, fl, B, pn, kk, m1, rfl, j1, j2, j3, j4, j5, j6, j7, j8, j9, j10, j11, j12, j13, j14, j15⟩
  · have h := part (p1 := p) (c1 := c) (I1 := I) (m1 := m) (k1 := 0) (by omega) (by rw [show r + ((0 : Nat) : Int) = r by omega]; exact T) rfl (by omega) (Int.le_refl _) (fun _ _ => ⟨rfl, rfl⟩) ho (by omega)
    show wT (jd_55_s29 (jrec N) a d many 0 (hh s Q I)) _
    unfold jd_55_s29
    rw [n_jw (z := many) (by omega) (by omega), if_neg (show ¬ many ≤ jw 0 by show ¬ many ≤ 0; omega), if_pos (show jw 0 ≤ 0 by decide)]
    exact h
  · show wT (jd_55_s29 (jrec N) a d many (k : Int) (hh s Q I1)) _
    by_cases hkm : (k : Int) < many
    · have hh1 : jd_55_s29 (jrec N) a d many (k : Int) (hh s Q I1) = ((jd_48 a 44 (hh s Q I1)).bind fun q20 => (if (jw q20.1) = 0 then some (.inr (.inl q20.2)) else jd_55_b49 (jrec N) a d many (k : Int) q20.2)) := by
        unfold jd_55_s29
        rw [n_jw (z := many) (by omega) (by omega), n_jw (z := (k : Int)) (by omega) (by omega), if_neg (by omega), if_neg (by omega), C_ck X, Option.bind_some]
      have bp := bl_refl (I0 := I0) (en := en) (p := p1) j1.2.2.2.2.2.2.2
      obtain ⟨b1, b2, b3⟩ := k_brk (A := p1) X j5 (by decide) j6 w0 (by have := j1.2.2.2.2.2.2; omega) (by omega) j7 j8 j14 j15 j10 o1 o2 j11 (by omega)
      rw [hh1, c_48 X j1 bp j14 (by omega), Option.bind_some]
      have c44 : chC I0 en p1 = 44 ↔ chM I0 en p1 = 44 := ch_i (by decide) (by decide)
      by_cases h44 : chC I0 en p1 = 44
      · rw [if_pos h44]
        show wT (if jw 1 = 0 then _ else jd_55_b49 (jrec N) a d many (k : Int) (hh s Q (jms I1 a 5 (p1 + 1)))) _
        rw [if_neg (show ¬ jw 1 = 0 by decide)]
        obtain ⟨m2, x1, x2, x3, x4, x5, x6⟩ := b2 (c44.mp h44) (by omega)
        have lt1 := ch_lt h44 (by decide)
        have C2 := c_inc j1 lt1
        refine part (p1 := p1 + 1) (c1 := c1) (m1 := m2) (k1 := kk + 1) hkm ⟨C2, x2, fun i i0 i1 => by rw [jms_o (show a + 1 ≠ a by omega)]; exact x3 i i0 i1, Dp_i j12 (by rw [jms_o (by omega)]), by omega, by omega, dd, by have := T.2.2.2.2.2.2.2; omega⟩ (Rch_t j2 (Rch_1 (k_si j5.1 x1))) (by omega) (by omega) (fun i hi => ?_) ?_ ?_
        · obtain ⟨x7, x8⟩ := j9 i hi
          exact ⟨by rw [x4]; exact x7, (x6 i (by omega)).trans x8⟩
        · rw [x4]
          exact j10
        · rw [x5]
          omega
      · rw [if_neg h44]
        show wT (if jw 0 = 0 then some (Sum.inr (Sum.inl (hh s Q (jms I1 a 5 p1)))) else jd_55_b49 (jrec N) a d many (k : Int) (hh s Q (jms I1 a 5 p1))) _
        rw [if_pos (show jw 0 = 0 by decide)]
        refine ⟨_, rfl, ?_⟩
        show jse _ _ _
        rw [jse_r]
        obtain ⟨m2, x1, x2, x3⟩ := b1 (by rw [if_neg (by omega)]; exact fun e => h44 (c44.mpr e))
        exact Or.inl ⟨_, Or.inl rfl, p1, c1, 0, kk + 1, m2, CS_p j1 j1.2.2.2.2.2.2.1 j1.2.2.2.2.2.2.2, Rch_t j2 (Rch_1 (k_si j5.1 x1)), by omega, x2, x3⟩
    · refine ⟨.inr (.inr (.inr (hh s Q I1))), ?_, ?_⟩
      · unfold jd_55_s29
        rw [n_jw (z := many) (by omega) (by omega), n_jw (z := (k : Int)) (by omega) (by omega), if_pos (by omega)]
      · show jse _ _ _
        rw [jse_r]
        exact Or.inr ⟨I1, rfl, k, by omega, Or.inr ⟨k0, k1, I1, p1, c1, fl, B, pn, kk, m1, rfl, j1, j2, j3, j4, j5, j6, j7, j8, j9, j10, j11, j12, j13, j14, j15⟩, k0⟩
end FltP
