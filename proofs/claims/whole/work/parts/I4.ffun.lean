/-! filter: brackets and functions -/
section FltQ
variable {s : hS} {Q : hQ} {hm : hO} {I0 m0 I I' m m' m2 : jM} {a : Nat} {q n en p w d fl c A A2 B lv op r v x u many : Int} {pn nd k N : Nat}
theorem prt (X : Fx s Q hm a q n en I0 m0) (C : CS I0 a en p c I) (hb : Bl I0 en p A) (hr : Rs I0 en A) (h40 : chC I0 en A = 40) (d12 : d < 12) (T : At q a I0 m0 en (A + 1) (w + 1) (d + 1) r c (jms I a 5 (A + 1)) m2) (w0 : 0 ≤ w) (d0 : 0 ≤ d) (o1 : 14 ≤ op) (o2 : op ≤ 18) (ho : m2 138 w = op) (hp : m2 139 w = many) (mb : 1 ≤ many ∧ many ≤ 3) (HS : ∀ {p w r c : Int} {I m : jM}, At q a I0 m0 en p w (d + 1) r c I m → (w = 0 ∨ (sr (m 138 (w - 1)) < 1 ∧ 8 ≤ m 138 (w - 1) ∧ m 138 (w - 1) ≤ 18)) → Res s Q q a I0 m0 en (St1 I0 en) 1 w (d + 1) r p m (jrec N 49 a (d + 1) 0 (hh s Q I))) : ∃ I', (jd_55 (jrec N) a d many (hh s Q I) = some (1, hh s Q I') ∧ POk q a I0 m0 en w d r (A + 1) op many m2 I') ∨ (jd_55 (jrec N) a d many (hh s Q I) = some (0, hh s Q I') ∧ FBad q a I0 m0 en (A + 1) m2 I') := by
  have e5 : jms I a 5 A a ((5 : Nat) : Int) = A := jms_e
  have J3 : jms (jms I a 5 A) a ((5 : Nat) : Int) (A + 1) = jms I a 5 (A + 1) := jms_jms
  obtain ⟨xx, ex, hx⟩ := prt_l X T w0 d0 o1 o2 ho hp mb HS
  have hd : jd_55 (jrec N) a d many (hh s Q I) = jse xx (fun y25 => some (0, y25)) (fun y26 => jse y26 (fun y27 => some (0, y27)) (fun y28 => ((jck y28 a 3).bind fun u29 => ((jd_48 a 41 y28).bind fun q31 => ((jbc q31.1).bind fun u33 => some (q31.1, q31.2)))))) := by
    unfold jd_55
    rw [C_ck X, Option.bind_some, c_47 X C hb hr, Option.bind_some]
    dsimp only
    rw [h40, if_pos (show jw 40 = 40 by decide), n_jw (z := d) (by omega) (by omega), if_pos d12, C_gi X, Option.bind_some, e5, C_pi X, Option.bind_some, J3, ex, Option.bind_some]
  rw [hd]
  rcases hx with ⟨I1, hx, H⟩ | ⟨I1, rfl, kk, hkk, J, k0⟩
  · refine ⟨I1, Or.inr ⟨?_, H⟩⟩
    rcases hx with rfl | rfl
    · rfl
    · rfl
  · rcases J with ⟨j0, -⟩ | ⟨-, -, I2, p1, c1, fl, B, pn, l, m1, ji, j1, j2, j3, j4, j5, j6, j7, j8, j9, j10, j11, j12, j13, j14, j15⟩
    · omega
    · have hI : hh s Q I1 = hh s Q I2 := congrArg Prod.snd ji
      rw [jse_r, jse_r, hI, C_ck X, Option.bind_some]
      have j1' := j1.2.2.2.2.2.2
      have ee := Fx_e X
      have bp := bl_refl (I0 := I0) (en := en) (p := p1) j1'.2
      obtain ⟨b1, b2, b3, b4⟩ := k_brk (A := p1) X j5 (by decide) j6 w0 (by omega) (by omega) j7 j8 j14 j15 j10 o1 o2 j11 (by omega)
      have c41 : chC I0 en p1 = 41 ↔ chM I0 en p1 = 41 := ch_i (by decide) (by decide)
      rw [c_48 X j1 bp j14 (by omega), Option.bind_some]
      by_cases h41 : chC I0 en p1 = 41
      · have lt1 := ch_lt h41 (by decide)
        have C2 := c_inc j1 lt1
        rw [if_pos h41]
        refine ⟨jms I2 a 5 (p1 + 1), Or.inl ⟨rfl, ?_⟩⟩
        have em : ∀ {mm : jM} {cc : Int}, Em q a I2 mm cc → Em q a (jms I2 a 5 (p1 + 1)) mm cc := fun h i i0 i1 => by rw [jms_o (show a + 1 ≠ a by omega)]; exact h i i0 i1
        have dp : Dp (jms I2 a 5 (p1 + 1)) a c1 (r + many) := by rw [← hkk]; exact Dp_i j12 (by rw [jms_o (by omega)])
        by_cases h18 : op = 18
        · obtain ⟨m3, x1, x2, x3, x4, x5⟩ := b3 (c41.mp h41) (by omega) h18
          exact ⟨p1 + 1, c1, l + 1, m3, C2, Rch_t j2 (Rch_1 (k_si j5.1 x1)), by omega, by omega, fun i hi => by rw [x4, x5]; exact j9 i hi, dp, by omega, fun _ => ⟨x2, em x3⟩, fun h => absurd h18 h⟩
        · obtain ⟨m3, x1, x2, x3, x4, x5⟩ := b4 (c41.mp h41) (by omega) h18
          exact ⟨p1 + 1, c1, l + 1, _, C2, Rch_t j2 (Rch_1 (k_si j5.1 x1)), by omega, by omega, fun i hi => by rw [emM_s (Or.inl rfl), emM_s (Or.inr rfl), x4, x5]; exact j9 i hi, dp, by omega, fun h => absurd h h18, fun _ => ⟨m3, rfl, x2, em x3⟩⟩
      · rw [if_neg h41]
        obtain ⟨m3, x1, x2, x3⟩ := b1 (by rw [if_pos (by omega)]; exact fun e => h41 (c41.mpr e))
        exact ⟨jms I2 a 5 p1, Or.inr ⟨rfl, p1, c1, 0, l + 1, m3, CS_p j1 j1'.1 j1'.2, Rch_t j2 (Rch_1 (k_si j5.1 x1)), by omega, x2, x3⟩⟩
theorem fac_par (X : Fx s Q hm a q n en I0 m0) (T : At q a I0 m0 en p w d r c I m) (hb : Bl I0 en p A) (hr : Rs I0 en A) (hu : chC I0 en A = 40) (HS : d < 12 → ∀ {p w r c : Int} {I m : jM}, At q a I0 m0 en p w (d + 1) r c I m → (w = 0 ∨ (sr (m 138 (w - 1)) < 1 ∧ 8 ≤ m 138 (w - 1) ∧ m 138 (w - 1) ≤ 18)) → Res s Q q a I0 m0 en (St1 I0 en) 1 w (d + 1) r p m (jrec N 49 a (d + 1) 0 (hh s Q I))) : Res s Q q a I0 m0 en (fun _ => True) 3 w d r p m (jd_51 (jrec (N + 1)) a d (hh s Q I)) := by
  obtain ⟨C, M, E, D, cw, w0, d0, r0⟩ := T
  have ee := Fx_e X
  have pA := hb.1
  have p0 := C.2.2.2.2.2.2.1
  have c0 := C.2.2.2.2.1
  have cm : chM I0 en A = 40 := (ch_i (by omega) (by omega)).mp hu
  have Al : A < en := ch_lt hu (by decide)
  have C1 := CS_p (A := A) C (by omega) (by omega)
  have bA := bl_refl (I0 := I0) (en := en) (p := A) (by omega)
  obtain ⟨k1, k2⟩ := k_open X M p0 (by omega) d0 hb hr (Or.inr cm)
  have hd : jd_51 (jrec (N + 1)) a d (hh s Q I) = ((jd_55 (jrec N) a d 1 (hh s Q (jms I a 5 A))).bind fun q16 => ((jbc q16.1).bind fun u18 => some (q16.1, q16.2))) := by
    rw [c_51h X C hb hr, hu, if_pos (by decide)]
    unfold jd_51_b22
    rw [if_pos (show jw 40 = 40 by decide), C_ck X, Option.bind_some]
    rfl
  rw [hd]
  by_cases h12 : d = 12
  · have J : jms (jms I a 5 A) a 5 A = jms I a 5 A := jms_jms
    refine ⟨jms I a 5 A, Or.inr ⟨?_, FB_1 M (k1 h12) pA C1⟩⟩
    unfold jd_55 jd_55_b15
    rw [C_ck X, Option.bind_some, c_47 X C1 bA hr, Option.bind_some]
    dsimp only
    rw [hu, if_pos (show jw 40 = 40 by decide), n_jw (z := d) (by omega) (by omega), if_neg (by omega), J]
    rfl
  · obtain ⟨m2, j1, j2, j3, j4, j5, j6, j7⟩ := k2 (by omega)
    rw [cm, if_neg (by decide)] at j3
    have C2 := c_inc C1 Al
    have T2 : At q a I0 m0 en (A + 1) (w + 1) (d + 1) r c (jms (jms I a 5 A) a 5 (A + 1)) m2 := ⟨C2, j2, Em_m (fun k k0 k1 => by rw [jms_o (show a + 1 ≠ a by omega), jms_o (show a + 1 ≠ a by omega)]; exact E k k0 k1) j6 j7, Dp_i D (by rw [jms_o (by omega), jms_o (by omega)]), by omega, by omega, by omega, r0⟩
    have R1 : Rch 1 (1, m) (1, m2) := Rch_1 (k_at M j1)
    obtain ⟨I1, ⟨o1, p', c', k, m3, y1, y2, y3, y4, y5, y6, y7, y8, -⟩ | ⟨o1, H⟩⟩ := prt X C1 bA hr hu (by omega) T2 w0 d0.1 (by decide) (by decide) j3 j4 (by decide) (HS (by omega))
    · obtain ⟨y9, y10⟩ := y8 rfl
      refine ⟨I1, Or.inl ⟨by rw [o1]; rfl, p', c', c', p', 0, 1 + k, m3, y1, Rch_t R1 y2, by omega, by omega, SG_0 y9 y10, y1.2.2.2.2.1, y1.2.2.2.2.2.2.1, bl_refl y1.2.2.2.2.2.2.2, fun i hi => ?_, y6, by omega, trivial⟩⟩
      obtain ⟨z1, z2⟩ := y5 i hi
      obtain ⟨z3, z4⟩ := j5 i (by omega)
      exact ⟨z1.trans z3, z2.trans z4⟩
    · exact ⟨I1, Or.inr ⟨by rw [o1]; rfl, FB_pre H R1 (by omega)⟩⟩
theorem fac_fun (X : Fx s Q hm a q n en I0 m0) (T : At q a I0 m0 en p w d r c I m) (hb : Bl I0 en p A) (hr : Rs I0 en A) (hu : chC I0 en A = u) (h1 : 1 ≤ lt u) (h7 : 7 < lt u) (HS : d < 12 → ∀ {p w r c : Int} {I m : jM}, At q a I0 m0 en p w (d + 1) r c I m → (w = 0 ∨ (sr (m 138 (w - 1)) < 1 ∧ 8 ≤ m 138 (w - 1) ∧ m 138 (w - 1) ≤ 18)) → Res s Q q a I0 m0 en (St1 I0 en) 1 w (d + 1) r p m (jrec N 49 a (d + 1) 0 (hh s Q I))) : Res s Q q a I0 m0 en (fun _ => True) 3 w d r p m (jd_51 (jrec (N + 1)) a d (hh s Q I)) := by
  obtain ⟨C, M, E, D, cw, w0, d0, r0⟩ := T
  have ee := Fx_e X
  have pA := hb.1
  have p0 := C.2.2.2.2.2.2.1
  have c0 := C.2.2.2.2.1
  obtain ⟨l1, l2, l3, -, l4⟩ := lt_o h1
  obtain ⟨l5, l6, l7⟩ := l4 h7
  have lr := lt_r u
  have cm : chM I0 en A = u := (ch_i (by omega) (by omega)).mp hu
  have Al : A < en := ch_lt hu (by omega)
  have C1 := CS_p (A := A) C (by omega) (by omega)
  have C2 := c_inc C1 Al
  rw [jms_jms] at C2
  obtain ⟨A2, hb2, hr2⟩ := bl_ex (I0 := I0) (en := en) (p := A + 1) (by omega) (by omega)
  have pA2 := hb2.1
  obtain ⟨k1, k2⟩ := k_fun X M p0 (by omega) d0 hb hr (by omega) (by omega) (by omega) (by rw [cm]; exact h7) hb2 hr2
  obtain ⟨mny, hm⟩ : ∃ z, (if u = 105 then (3 : Int) else 2) = z := ⟨_, rfl⟩
  have hm' : (if lt u = 17 then (3 : Int) else 2) = mny := by rw [← hm]; exact if_c l7
  have mb : 1 ≤ mny ∧ mny ≤ 3 := by rw [← hm]; split <;> omega
  have am : arS u = mny := by
    rw [← hm]
    rcases l6 with e | e | e | e <;> subst e <;> decide
  rw [cm, hm'] at k2
  have e5 : jms I a 5 A a ((5 : Nat) : Int) = A := jms_e
  have J3 : jms (jms I a 5 A) a ((5 : Nat) : Int) (A + 1) = jms I a 5 (A + 1) := jms_jms
  have nj : jw u = u := n_jw (by omega) (by omega)
  have hd : ∀ {b : Int} {I1 : jM}, jd_55 (jrec N) a d mny (hh s Q (jms I a 5 (A + 1))) = some (b, hh s Q I1) → (b = 0 ∨ b = 1) → jd_51 (jrec (N + 1)) a d (hh s Q I) = ((jd_46 a u (hh s Q I1)).bind fun h31 => some (b, h31)) := fun {b} {I1} e hb' => by
    have b166 : jd_51_b166 (jrec (N + 1)) a d u (hh s Q (jms I a 5 A)) = ((jd_46 a u (hh s Q I1)).bind fun h31 => some (b, h31)) := by
      unfold jd_51_b166
      rw [C_gi X, Option.bind_some, e5, C_pi X, Option.bind_some, J3, C_ck X, Option.bind_some, nj, hm]
      show ((jd_55 (jrec N) a d mny (hh s Q (jms I a 5 (A + 1)))).bind fun q27 => ((jck q27.2 a 3).bind fun u29 => ((jd_46 a u q27.2).bind fun h31 => ((jbc q27.1).bind fun u33 => some (q27.1, h31))))) = _
      rw [e, Option.bind_some]
      show ((jck (hh s Q I1) a 3).bind fun u29 => ((jd_46 a u (hh s Q I1)).bind fun h31 => ((jbc b).bind fun u33 => some (b, h31)))) = _
      rw [C_ck X, Option.bind_some, show jbc b = some () from if_pos hb']
      rfl
    have b22 : jd_51_b22 (jrec (N + 1)) a d u (hh s Q (jms I a 5 A)) = ((jd_46 a u (hh s Q I1)).bind fun h31 => some (b, h31)) := by
      unfold jd_51_b22
      rw [nj, b166]
      rcases l6 with e | e | e | e <;> subst e <;> rfl
    rw [c_51h X C hb hr, hu, b22]
    by_cases x1 : u < 48
    · rw [if_pos x1]
    · rw [if_neg x1, if_pos (by omega)]
  have ci : chC I0 en A2 = 40 ↔ chM I0 en A2 = 40 := ch_i (by decide) (by decide)
  by_cases h40 : chC I0 en A2 = 40 ∧ d < 12
  · obtain ⟨m2, j1, j2, j3, j4, j5, j6, j7⟩ := k2 (ci.mp h40.1) h40.2
    have Al2 : A2 < en := ch_lt h40.1 (by decide)
    have C3 := c_inc (CS_p (A := A2) C2 (by omega) (by omega)) Al2
    rw [jms_jms] at C3
    have T2 : At q a I0 m0 en (A2 + 1) (w + 1) (d + 1) r c (jms (jms I a 5 (A + 1)) a 5 (A2 + 1)) m2 := ⟨C3, j2, Em_m (fun k k0 k1 => by rw [jms_o (show a + 1 ≠ a by omega), jms_o (show a + 1 ≠ a by omega)]; exact E k k0 k1) j6 j7, Dp_i D (by rw [jms_o (by omega), jms_o (by omega)]), by omega, by omega, by omega, r0⟩
    have R1 : Rch 1 (1, m) (1, m2) := Rch_1 (k_at M j1)
    obtain ⟨I1, ⟨o1, p', c', k, m3, y1, y2, y3, y4, y5, y6, y7, -, y8⟩ | ⟨o1, H⟩⟩ := prt X C2 hb2 hr2 h40.1 h40.2 T2 w0 d0.1 l5 (by omega) j3 j4 mb (HS h40.2)
    · obtain ⟨m1, rfl, y9, y10⟩ := y8 (by omega)
      obtain ⟨I2, e1, e2, e3⟩ := c_46 (v := u) X y1
      have y1' := y1.2.2.2.2.2.2
      have c0' := y1.2.2.2.2.1
      have c200 : c' < 200 := by omega
      rw [if_pos c200] at e2
      have e3' := e3 c200
      have E2 : Em q a I2 (emM m1 q c' (lt u) 0) (c' + 1) := by
        refine Em_s (fun i i0 i1 => ?_) ⟨by omega, by omega, fun e => by omega, ?_⟩
        · rw [e3', show jiu (I1 (a + 1)) c' u i = I1 (a + 1) i from if_neg (by omega)]
          exact y10 i i0 i1
        · rw [e3', show jiu (I1 (a + 1)) c' u c' = u from if_pos rfl]
          unfold stp
          rw [if_neg (by omega), l1]
      have D2 := Dp_s y6 y1.2.2.2.2.1 e3' (by omega)
      rw [am, show r + mny - mny + 1 = r + 1 by omega] at D2
      refine ⟨I2, Or.inl ⟨by rw [hd o1 (Or.inr rfl), e1]; rfl, p', c' + 1, c' + 1, p', 0, 1 + k, _, e2, Rch_t R1 y2, by omega, by omega, SG_0 y9 E2, by omega, by omega, bl_refl y1'.2, fun i hi => ?_, D2, by omega, trivial⟩⟩
      obtain ⟨z1, z2⟩ := y5 i hi
      obtain ⟨z3, z4⟩ := j5 i (by omega)
      exact ⟨z1.trans z3, z2.trans z4⟩
    · obtain ⟨I2, e1, H2⟩ := FB_46 (v := u) X H
      exact ⟨I2, Or.inr ⟨by rw [hd o1 (Or.inl rfl), e1]; rfl, FB_pre H2 R1 (by omega)⟩⟩
  · have o1 : jd_55 (jrec N) a d mny (hh s Q (jms I a 5 (A + 1))) = some (0, hh s Q (jms I a 5 A2)) := by
      have J : jms (jms I a 5 (A + 1)) a 5 A2 = jms I a 5 A2 := jms_jms
      have cr := chC_r (I0 := I0) (en := en) (A := A2)
      unfold jd_55 jd_55_b15
      rw [C_ck X, Option.bind_some, c_47 X C2 hb2 hr2, Option.bind_some]
      dsimp only
      rw [J, n_jw (z := chC I0 en A2) (by omega) (by omega), n_jw (z := d) (by omega) (by omega)]
      by_cases x1 : chC I0 en A2 = 40
      · rw [if_pos x1, if_neg (by omega)]
      · rw [if_neg x1]
    have CA2 := CS_p (A := A2) C (by omega) hb2.2.1
    obtain ⟨I2, e1, H2⟩ := FB_46 (v := u) X (FB_1 M (k1 (by omega)) (by omega) CA2)
    exact ⟨I2, Or.inr ⟨by rw [hd o1 (Or.inl rfl), e1]; rfl, H2⟩⟩
end FltQ
