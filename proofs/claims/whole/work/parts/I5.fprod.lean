/-! filter: products -/
section FltPr
variable {s : hS} {Q : hQ} {hm : hO} {I0 m0 I I' m m' m2 : jM} {a : Nat} {q n en p w d fl c A A2 B lv op r v x u many : Int} {pn nd k N : Nat}
def St2 (I0 : jM) (en p : Int) : Prop := Rs I0 en p ∧ chM I0 en p ≠ 42 ∧ chM I0 en p ≠ 47 ∧ chM I0 en p ≠ 37
def LP2 (s : hS) (Q : hQ) (q : Int) (a : Nat) (I0 m0 : jM) (en lv w d r p : Int) (m : jM) (k : Nat) (st : Int × Int × jH) : Prop := ∃ I' : jM, (st = (1, (k : Int), hh s Q I') ∧ FOk q a I0 m0 en (fun p' => (k : Int) < p') lv w d r p m I') ∨ (st = (0, (k : Int), hh s Q I') ∧ FBad q a I0 m0 en p m I')
theorem FO_st {St St' : Int → Prop} (H : FOk q a I0 m0 en St lv w d r p m I') (h : ∀ p', p < p' → St p' → St' p') : FOk q a I0 m0 en St' lv w d r p m I' := by
  obtain ⟨p', c', fl, B, pn, k, m', y1, y2, y3, y4, y5, y6, y7, y8, y9, y10, y11, y12⟩ := H
  exact ⟨p', c', fl, B, pn, k, m', y1, y2, y3, y4, y5, y6, y7, y8, y9, y10, y11, h p' y4 y12⟩
theorem FO_lv {St : Int → Prop} {lv' : Int} (H : FOk q a I0 m0 en St lv w d r p m I') (h : lv' ≤ lv) : FOk q a I0 m0 en St lv' w d r p m I' := by
  obtain ⟨p', c', fl, B, pn, k, m', y1, y2, y3, y4, y5, y6⟩ := H
  exact ⟨p', c', fl, B, pn, k, m', y1, y2, y3, y4, SG_lv y5 h, y6⟩
/-- a sign and what follows it -/
theorem join_s {St : Int → Prop} {sg : Int} {o : Option (Int × jH)} (X : Fx s Q hm a q n en I0 m0) (p0 : 0 ≤ p) (w0 : 0 ≤ w) (d0 : 0 ≤ d ∧ d ≤ 12) (r0 : 0 ≤ r) (lb : lv = sgL sg) (tp : w = 0 ∨ (sr (m 138 (w - 1)) < lv ∧ 8 ≤ m 138 (w - 1) ∧ m 138 (w - 1) ≤ 18)) (H : FOk q a I0 m0 en (fun p' => p' = v) lv w d r p m I) (hb : Bl I0 en v A) (hr : Rs I0 en A) (hu : chC I0 en A = sg) (hv : sg = 43 ∨ sg = 45 ∨ sg = 42 ∨ sg = 47 ∨ sg = 37) (HF : ∀ {c1 : Int} {m1 : jM}, At q a I0 m0 en (A + 1) (w + 1) d (r + 1) c1 (jms I a 5 (A + 1)) m1 → m1 138 w = sgO sg → Res s Q q a I0 m0 en St (lv + 1) (w + 1) d (r + 1) (A + 1) m1 o) : ∃ I', (∃ I1, o = some (1, hh s Q I1) ∧ jd_46 a sg (hh s Q I1) = some (hh s Q I') ∧ FOk q a I0 m0 en (fun p' => v + 1 < p' ∧ St p') lv w d r p m I') ∨ (∃ I1, o = some (0, hh s Q I1) ∧ jd_46 a sg (hh s Q I1) = some (hh s Q I') ∧ FBad q a I0 m0 en p m I') := by
  obtain ⟨p1, c1, fl, B, pn, k, m1, y1, y2, y3, y4, y5, y6, y7, y8, y9, y10, y11, rfl⟩ := H
  have ee := Fx_e X
  have y1' := y1.2.2.2.2.2.2
  have c0 := y1.2.2.2.2.1
  have pA := hb.1
  have cm : chM I0 en A = sg := (ch_i (by omega) (by omega)).mp hu
  have Al : A < en := ch_lt hu (by omega)
  have sb : 8 ≤ sgO sg ∧ sgO sg ≤ 13 ∧ sr (sgO sg) = sgL sg ∧ opc (sgO sg).toNat = sg ∧ arS sg = 2 ∧ sgO sg ≠ 8 := by
    rcases hv with e | e | e | e | e <;> subst e <;> decide
  obtain ⟨s1, s2, s3, s4, s5, s6⟩ := sb
  have hw : w ≠ 0 → m1 138 (w - 1) = m 138 (w - 1) := fun _ => (y9 (w - 1) (by omega)).1
  have tp1 : w = 0 ∨ (sr (m1 138 (w - 1)) < sgL sg ∧ 8 ≤ m1 138 (w - 1) ∧ m1 138 (w - 1) ≤ 18) := by
    rcases tp with e | e
    · exact Or.inl e
    · by_cases hw0 : w = 0
      · exact Or.inl hw0
      · rw [hw hw0, ← lb]
        exact Or.inr e
  obtain ⟨m2, x1, x2, x3, x4, x5⟩ := k_join (A := A) X y5 (by rw [cm, lb]; omega) y6 w0 (by omega) d0 y7 (bl_trans y8 hb) hr (by rw [cm]; exact hv) (by rw [cm]; exact tp1)
  rw [cm] at x4
  have C2 := c_inc (CS_p (A := A) y1 (by omega) (by omega)) Al
  rw [jms_jms] at C2
  have T2 : At q a I0 m0 en (A + 1) (w + 1) d (r + 1) c1 (jms I a 5 (A + 1)) m2 := ⟨C2, x2, fun i i0 i1 => by rw [jms_o (show a + 1 ≠ a by omega)]; exact x3 i i0 i1, Dp_i y10 (by rw [jms_o (by omega)]), by omega, by omega, d0, by omega⟩
  have R1 : Rch (k + 1) (1, m) (1, m2) := Rch_t y2 (Rch_1 (k_si y5.1 x1))
  obtain ⟨I1, ⟨o1, p', c', fl', B', pn', k', m3, z1, z2, z3, z4, z5, z6, z7, z8, z9, z10, z11, z12⟩ | ⟨o1, H⟩⟩ := HF T2 x4
  · obtain ⟨I2, e1, e2, e3⟩ := c_46 (v := sg) X z1
    have z1' := z1.2.2.2.2.2.2
    have c0' := z1.2.2.2.2.1
    have c200 : c' < 200 := by omega
    rw [if_pos c200] at e2
    have e3' := e3 c200
    have D2 := Dp_s z10 c0' e3' (by omega)
    rw [s5, show r + 1 + 1 - 2 + 1 = r + 1 by omega] at D2
    refine ⟨I2, Or.inl ⟨I1, o1, e1, p', c' + 1, fl', B', pn' + 1, k + 1 + k', m3, e2, Rch_t R1 z2, by omega, by omega, ?_, z6, z7, z8, fun i hi => ?_, D2, by omega, by omega, z12⟩⟩
    · exact SG_up (dl := 0) (op := sgO sg) (by rw [Int.add_zero]; exact z5) (by omega) ((z9 w (by omega)).1.trans x4) s1 s2 (by omega) (by rw [if_neg s6]) (by rw [s4]; exact e3') z6
    · obtain ⟨t1, t2⟩ := z9 i (by omega)
      obtain ⟨t3, t4⟩ := x5 i (by omega)
      obtain ⟨t5, t6⟩ := y9 i hi
      exact ⟨(t1.trans t3).trans t5, (t2.trans t4).trans t6⟩
  · obtain ⟨I2, e1, H2⟩ := FB_46 (v := sg) X H
    exact ⟨I2, Or.inr ⟨I1, o1, e1, FB_pre H2 R1 (by omega)⟩⟩
/-- no sign: the piece ends here -/
theorem join_n {St : Int → Prop} (X : Fx s Q hm a q n en I0 m0) (H : FOk q a I0 m0 en (fun p' => p' = v) lv w d r p m I) (hb : Bl I0 en v A) (st : St A) : FOk q a I0 m0 en St lv w d r p m (jms I a 5 A) := by
  obtain ⟨p1, c1, fl, B, pn, k, m1, y1, y2, y3, y4, ⟨g1, g2, g3, g4⟩, y6, y7, y8, y9, y10, y11, rfl⟩ := H
  have pA := hb.1
  have y1' := y1.2.2.2.2.2.2
  have e1 : jms I a 5 A (a + 1) = I (a + 1) := jms_o (by omega)
  exact ⟨A, c1, fl, B, pn, k, m1, CS_p y1 (by omega) hb.2.1, y2, by omega, by omega, ⟨g1, g2, fun i i0 i1 => by rw [e1]; exact g3 i i0 i1, by rw [e1]; exact g4⟩, y6, y7, bl_trans y8 hb, y9, Dp_i y10 e1, by omega, st⟩
theorem FO_p {St : Int → Prop} (H : FOk q a I0 m0 en St lv w d r p m I) : ∃ v, FOk q a I0 m0 en (fun p' => p' = v) lv w d r p m I ∧ St v ∧ p < v ∧ v ≤ en ∧ ∃ c, CS I0 a en v c I := by
  obtain ⟨p1, c1, fl, B, pn, k, m1, y1, y2, y3, y4, y5, y6, y7, y8, y9, y10, y11, y12⟩ := H
  exact ⟨p1, ⟨p1, c1, fl, B, pn, k, m1, y1, y2, y3, y4, y5, y6, y7, y8, y9, y10, y11, rfl⟩, y12, y4, y1.2.2.2.2.2.2.2, c1, y1⟩
theorem prod_l (X : Fx s Q hm a q n en I0 m0) (T : At q a I0 m0 en p w d r c I m) (tp : w = 0 ∨ (sr (m 138 (w - 1)) < 2 ∧ 8 ≤ m 138 (w - 1) ∧ m 138 (w - 1) ≤ 18)) (HF : ∀ {p w r c : Int} {I m : jM}, At q a I0 m0 en p w d r c I m → Res s Q q a I0 m0 en (fun _ => True) 3 w d r p m (jrec N 51 a d 0 (hh s Q I))) : Res s Q q a I0 m0 en (St2 I0 en) 2 w d r p m (jd_50 (jrec N) a d (hh s Q I)) := by
  have T' := T
  obtain ⟨C, M, E, D, cw, w0, d0, r0⟩ := T
  have ee := Fx_e X
  have p0 := C.2.2.2.2.2.2.1
  have step : ∀ (k : Nat) (st : Int × Int × jH), k ≤ 200 → LP2 s Q q a I0 m0 en 2 w d r p m k st → wT (jd_50_s8 (jrec N) a d st.1 st.2.1 st.2.2) (fun o => jse o (fun s' => k < 200 ∧ LP2 s Q q a I0 m0 en 2 w d r p m (k + 1) s') (fun xx => ∃ I', (xx = .inl (hh s Q I') ∧ FOk q a I0 m0 en (St2 I0 en) 2 w d r p m I') ∨ (xx = .inr (0, hh s Q I') ∧ FBad q a I0 m0 en p m I'))) := by
    intro k st hk J
    obtain ⟨I1, ⟨rfl, H⟩ | ⟨rfl, H⟩⟩ := J
    · obtain ⟨v, H1, kv, pv, ve, c1, C1⟩ := FO_p H
      have kv' : (k : Int) < v := kv
      obtain ⟨A, hb, hr⟩ := bl_ex (I0 := I0) (en := en) (p := v) (by omega) ve
      have cr := chC_r (I0 := I0) (en := en) (A := A)
      have pA := hb.1
      have hh1 : jd_50_s8 (jrec N) a d 1 (k : Int) (hh s Q I1) = (if chC I0 en A = 42 then jd_50_b48 (jrec N) a d (k : Int) (chC I0 en A) (hh s Q (jms I1 a 5 A)) else (if chC I0 en A = 47 then jd_50_b48 (jrec N) a d (k : Int) (chC I0 en A) (hh s Q (jms I1 a 5 A)) else (if chC I0 en A = 37 then jd_50_b48 (jrec N) a d (k : Int) (chC I0 en A) (hh s Q (jms I1 a 5 A)) else some (.inr (.inl (hh s Q (jms I1 a 5 A))))))) := by
        unfold jd_50_s8
        rw [n_jw (z := (k : Int)) (by omega) (by omega), if_neg (by omega), if_neg (show ¬ jw 1 = 0 by decide), C_ck X, Option.bind_some, c_47 X C1 hb hr, Option.bind_some]
        dsimp only
        rw [n_jw (z := chC I0 en A) (by omega) (by omega)]
      show wT (jd_50_s8 (jrec N) a d 1 (k : Int) (hh s Q I1)) _
      rw [hh1]
      by_cases hs : chC I0 en A = 42 ∨ chC I0 en A = 47 ∨ chC I0 en A = 37
      · obtain ⟨sg, hsg⟩ : ∃ sg, chC I0 en A = sg := ⟨_, rfl⟩
        rw [hsg] at hs ⊢
        have e5 : jms I1 a 5 A a ((5 : Nat) : Int) = A := jms_e
        have J3 : jms (jms I1 a 5 A) a ((5 : Nat) : Int) (A + 1) = jms I1 a 5 (A + 1) := jms_jms
        have hb48 : ∀ {b : Int} {I2 I3 : jM}, jrec N 51 a d 0 (hh s Q (jms I1 a 5 (A + 1))) = some (b, hh s Q I2) → jd_46 a sg (hh s Q I2) = some (hh s Q I3) → jd_50_b48 (jrec N) a d (k : Int) sg (hh s Q (jms I1 a 5 A)) = some (.inl (b, (k : Int) + 1, hh s Q I3)) := fun {b} {I2} {I3} e e' => by
          unfold jd_50_b48
          rw [C_gi X, Option.bind_some, e5, C_pi X, Option.bind_some, J3, C_ck X, Option.bind_some, e, Option.bind_some]
          dsimp only
          rw [C_ck X, Option.bind_some, e', Option.bind_some]
        have hif : ∀ {Y : Option ((Int × Int × jH) ⊕ (jH ⊕ (Int × jH)))} {Z : Option ((Int × Int × jH) ⊕ (jH ⊕ (Int × jH)))}, (if sg = 42 then Y else (if sg = 47 then Y else (if sg = 37 then Y else Z))) = Y := fun {Y} {Z} => by
          rcases hs with e | e | e
          · rw [if_pos e]
          · rw [if_neg (by omega), if_pos e]
          · rw [if_neg (by omega), if_neg (by omega), if_pos e]
        rw [hif]
        have l2 : (2 : Int) = sgL sg := by
          unfold sgL
          rw [if_neg (by omega)]
        obtain ⟨I3, ⟨I2, o1, o2, H2⟩ | ⟨I2, o1, o2, H2⟩⟩ := join_s (o := jrec N 51 a d 0 (hh s Q (jms I1 a 5 (A + 1)))) X p0 w0 d0 r0 l2 tp H1 hb hr hsg (by omega) (fun T2 _ => HF T2)
        · refine ⟨_, hb48 o1 o2, ?_⟩
          show jse _ _ _
          rw [jse_l]
          refine ⟨by omega, I3, Or.inl ⟨by rw [show ((k + 1 : Nat) : Int) = (k : Int) + 1 by omega], FO_st H2 (fun p' _ (h : v + 1 < p' ∧ True) => ?_)⟩⟩
          show ((k + 1 : Nat) : Int) < p'
          omega
        · refine ⟨_, hb48 o1 o2, ?_⟩
          show jse _ _ _
          rw [jse_l]
          exact ⟨by omega, I3, Or.inr ⟨by rw [show ((k + 1 : Nat) : Int) = (k : Int) + 1 by omega], H2⟩⟩
      · refine ⟨_, by rw [if_neg (by omega), if_neg (by omega), if_neg (by omega)], ?_⟩
        show jse _ _ _
        rw [jse_r]
        have ci : ∀ K : Int, 1 ≤ K → K < 128 → (chC I0 en A = K ↔ chM I0 en A = K) := fun K k0 k1 => ch_i k0 k1
        exact ⟨_, Or.inl ⟨rfl, join_n X H1 hb ⟨hr, fun e => hs (Or.inl ((ci 42 (by decide) (by decide)).mpr e)), fun e => hs (Or.inr (Or.inl ((ci 47 (by decide) (by decide)).mpr e))), fun e => hs (Or.inr (Or.inr ((ci 37 (by decide) (by decide)).mpr e)))⟩⟩⟩
    · refine ⟨.inr (.inr (0, hh s Q I1)), ?_, ?_⟩
      · show jd_50_s8 (jrec N) a d 0 (k : Int) (hh s Q I1) = _
        unfold jd_50_s8
        rw [if_pos (show jw 0 = 0 by decide)]
        exact ite_self _
      · show jse _ _ _
        rw [jse_r]
        exact ⟨I1, Or.inr ⟨rfl, H⟩⟩
  obtain ⟨I1, hF⟩ := HF T'
  have st0 : ∃ b : Int, jrec N 51 a d 0 (hh s Q I) = some (b, hh s Q I1) ∧ LP2 s Q q a I0 m0 en 2 w d r p m 0 (b, 0, hh s Q I1) := by
    rcases hF with ⟨o1, H⟩ | ⟨o1, H⟩
    · exact ⟨1, o1, I1, Or.inl ⟨rfl, FO_st (FO_lv H (by decide)) (fun p' h _ => by show ((0 : Nat) : Int) < p'; omega)⟩⟩
    · exact ⟨0, o1, I1, Or.inr ⟨rfl, H⟩⟩
  obtain ⟨b, o1, J0⟩ := st0
  obtain ⟨xx, e, I2, hx⟩ : wT (jd_50_l8 (jrec N) a d b 0 (hh s Q I1)) (fun xx => ∃ I', (xx = .inl (hh s Q I') ∧ FOk q a I0 m0 en (St2 I0 en) 2 w d r p m I') ∨ (xx = .inr (0, hh s Q I') ∧ FBad q a I0 m0 en p m I')) := by
    unfold jd_50_l8
    exact w_lp (fun k st => LP2 s Q q a I0 m0 en 2 w d r p m k st) 200 step (n_fu (by decide)) J0
  have hd : jd_50 (jrec N) a d (hh s Q I) = jse xx (fun y28 => some (1, y28)) (fun y29 => ((jbc y29.1).bind fun u30 => some (y29.1, y29.2))) := by
    unfold jd_50
    rw [C_ck X, Option.bind_some, o1, Option.bind_some]
    dsimp only
    rw [e, Option.bind_some]
  rw [hd]
  rcases hx with ⟨rfl, H⟩ | ⟨rfl, H⟩
  · exact ⟨I2, Or.inl ⟨rfl, H⟩⟩
  · exact ⟨I2, Or.inr ⟨rfl, H⟩⟩
end FltPr
