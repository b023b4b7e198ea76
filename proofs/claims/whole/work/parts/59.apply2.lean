/-! apply: both, and the relation -/
/-- the same ints to the machine: rows of ints may differ by what an int does not hold -/
def Eqv (s : hS) (I I' : jM) : Prop := ∀ a : Nat, (a < 153 → I' a = I a) ∧ (s.2.2.1 a ≠ 0 → I' a = I a) ∧ ∀ k : Int, jw (I' a k) = jw (I a k)
def SimJ (C : Option ((Int ⊕ Nat) × jH)) (M : Option (Int × jM)) (tb : Nat → Int) (s : hS) (Q : hQ) (I : jM) : Prop :=
  (∃ (v b : Int) (s' : hS) (Q' : hQ) (I' I2 m' : jM), C = some (.inl v, hh s' Q' I') ∧ M = some (b, m') ∧ m' 76 0 = 0 ∧ jw b = jw v ∧ Eqv s' I' I2 ∧ Kp s Q I s' Q' I' ∧ Gr s s' ∧ Rel s' Q' I2 m') ∨
  (∃ (E : Nat) (b : Int) (s' : hS) (Q' : hQ) (I' m' : jM), C = some (.inr E, hh s' Q' I') ∧ M = some (b, m') ∧ m' 76 0 = tb E ∧ 1 ≤ tb E ∧ Kp s Q I s' Q' I' ∧ Gr s s' ∧ Rel s' Q' I' m')
section Apply2
variable {s s' : hS} {Q Q' : hQ} {hm hm' : hO} {I I' m m' : jM} {a b d : Nat} {f o o2 p q x y t w h n k r : Int}
theorem SimJ_th {C : Option ((Int ⊕ Nat) × jH)} {M : Option (Int × jM)} {tb : Nat → Int} {E : Nat} {b : Int} (R : RelH s Q hm I m) (hC : C = some (.inr E, jth (hh s Q I) E)) (hM : M = some (b, jms m 76 0 (tb E))) (ht : 1 ≤ tb E) : SimJ C M tb s Q I :=
  Or.inr ⟨E, b, _, _, _, _, by rw [hC, x_th], hM, jms_e, ht, Kp_of R.1 (P := fun _ => True) Sm_mk (fun _ _ _ => trivial), Gr_th, hm, RelH_th R⟩
theorem RelH_stk {S : Int → Int} (R : RelH s Q hm I m) (hf : 0 ≤ f ∧ f < 8) (hQ7 : Q 7 f = some a) (M : Mm m m') : RelH s Q hm (ims I (a + 2) S) m' := by
  have F := R.2.2.2.2.2.2.2.1.2.2.2.1 f hf.1 hf.2 a hQ7
  have hF := F.2.2.2.1.2.2.2
  have S : Sm (fun o => o ≠ 520 + f) s Q hm I s Q hm (ims I (a + 2) S) := Sm_ims (by rw [hF]; omega)
  obtain ⟨L, r1, r2, r3, r4, r5, r6, r7, r8, r9⟩ := R
  obtain ⟨⟨m1, m5, m7, m8, m9, m12, m86, m92⟩, em⟩ := M
  have i0 : ims I (a + 2) _ 0 = I 0 := (Lay_fr (a := 0) L S (by decide) (by omega)).2
  have i2 : ims I (a + 2) _ 2 = I 2 := (Lay_fr (a := 2) L S (by decide) (by omega)).2
  have i3 : ims I (a + 2) _ 3 = I 3 := (Lay_fr (a := 3) L S (by decide) (by omega)).2
  have i6 : ims I (a + 2) _ 6 = I 6 := (Lay_fr (a := 6) L S (by decide) (by omega)).2
  refine ⟨L, ?_, ?_, ?_, ?_, ?_, ?_, ?_, ?_, ?_⟩
  · exact RPic_fr L S (by omega) (fun i _ _ => by omega) (by rw [i0]) m1 (em 77 (by omega)) (em 78 (by omega)) (em 79 (by omega)) r1
  · exact RTap_fr (by rw [i0]) i2 m5 (em 80 (by omega)) r2
  · exact RSet_fr i3 (em 82 (by omega)) r3
  · exact RRee_fr L S (by omega) (fun i _ _ => by omega) (by rw [i0]) m7 m8 m9 (em 81 (by omega)) r4
  · exact RFil_fr L S (by omega) (fun i _ _ => by omega) (fun i _ _ => by omega) (fun i _ _ => by omega) (by rw [i0]) m12 (fun x _ _ => em x (by omega)) r5
  · exact RRow_fr (by rw [i0]) i6 m86 m12 (em 131 (by omega)) (em 132 (by omega)) (em 133 (by omega)) (em 83 (by omega)) (em 87 (by omega)) r6
  · obtain ⟨c1, c2, c3, c4, c5⟩ := r7
    unfold RFlt
    rw [i0, m92]
    refine ⟨c1, c2, c3, c4, fun q h1 h2 => ?_⟩
    obtain ⟨a', ha', hx⟩ := c5 q h1 h2
    have F' := c4 q h1 (by omega) a' ha'
    refine ⟨a', ha', ?_⟩
    have e1 : a' ≠ a + 2 := fun e => by
      have h1 := F'.2.1.2.1
      have h2 := F.2.2.2.1.2.1
      rw [e] at h1
      rw [h1] at h2
      exact absurd h2 (by decide)
    have e2 : a' + 1 ≠ a + 2 := fun e => by
      have g1 := F'.2.2.1.2.2.2
      rw [e, hF] at g1
      have : q = f := by omega
      subst this
      rw [hQ7] at ha'
      cases ha'
      omega
    unfold FltC at hx ⊢
    rw [ims_o e1, ims_o e2, em 135 (by omega), em 136 (by omega), em 137 (by omega)]
    exact hx
  · exact RPly_fr L S (by omega) (fun i _ _ => by omega) (fun i _ _ => by omega) m12 (fun x _ _ => em x (by omega)) (fun x _ _ => em x (by omega)) r9 r8
  · exact RMis_fr L S (by omega) (by omega) (by omega) (fun i _ _ => by omega) (fun i _ _ => by omega) (fun i _ _ => by omega) r9
theorem si_apply (R : RelH s Q hm I m) (h6 : s.1 ≤ 900000) (hf : okI f) (hp : okI p) : SimJ (jd_170 0 f p t (hh s Q I)) (jd_347 f p t m) (fun E => if E = 2 then 1 else if E = 1 then 2 else 0) s Q I := by
  have L := R.1
  obtain ⟨t1, t2, t3, t4, t5⟩ := id R.2.1
  obtain ⟨l1, l2, l3, l4, l5⟩ := id R.2.2.2.2.2.2.2.1
  have hf' : -2147483648 ≤ f ∧ f < 2147483648 := hf
  have e12 : I 0 ((12 : Nat) : Int) = m 76 92 := l1
  have kf := x_in (x := f) (lo := 0) (hi := m 76 92 - 1) (by omega) (by omega) (by decide) (by decide) (by omega) (by omega)
  have hk := k_210 (m := m) ⟨t2, t3⟩ hp
  have b43 : ∀ c : Int, c = 1 ∨ c = 2 → jd_347_b43 f p t c m = some (0, jms m 76 0 c) := by
    intro c hc
    unfold jd_347_b43
    rcases hc with rfl | rfl
    · rw [Option.bind_some, jms_e, if_neg (by decide)]
    · rw [Option.bind_some, jms_e, if_neg (by decide)]
  by_cases c0 : 0 ≤ f ∧ f < m 76 92
  · rw [if_pos (by omega)] at kf
    have preM : jd_347 f p t m = jd_347_b43 f p t (if 0 ≤ p ∧ p < m 76 1 then (if m 76 1 = 60 then 2 else 0) else 1) m := by
      unfold jd_347
      rw [n_jw hf.1 hf.2, n_jw (z := m 76 92 - 1) (by omega) (by omega), kf, if_neg (by decide), hk, n_jw (z := m 76 1) (by omega) (by omega)]
      by_cases c1 : 0 ≤ p ∧ p < m 76 1
      · rw [if_pos c1, if_neg (by decide), if_pos c1]
      · rw [if_neg c1, if_pos rfl, if_neg c1]
    by_cases c1 : 0 ≤ p ∧ p < m 76 1
    · rw [if_pos c1] at preM
      obtain ⟨b, ea, hA, A, X⟩ := c_193 R hp c1.1 c1.2
      by_cases cn : m 76 1 < 60
      · rw [if_neg (show ¬ m 76 1 = 60 by omega)] at preM
        obtain ⟨d, s', Q', hm', I', e1, e2, B, S1, R', g1, g2⟩ := c_194 R h6 cn
        have L' := R'.1
        obtain ⟨A', iA, iA1⟩ := PicAt_fr S1 A (by omega)
        have X' : Pix I' b (m 77 p) (m 78 p) (fun j => m 79 (864 * p + j)) := Pix_fr X iA iA1
        obtain ⟨x1, x2, sw, sh, x5⟩ := id X'
        obtain ⟨a, hQ7, FC⟩ := R'.2.2.2.2.2.2.2.1.2.2.2.2 f c0.1 c0.2
        have F := R'.2.2.2.2.2.2.2.1.2.2.2.1 f c0.1 (by omega) a hQ7
        generalize hw : m 77 p = w at *
        generalize hh' : m 78 p = h at *
        have hD := B.2.1.2.2.2
        have hD1 := B.2.2.1.2.2.2
        have n1 : b ≠ d := fun e => absurd (A'.2.1.2.2.2.symm.trans ((congrArg hm' e).trans hD)) (by omega)
        have n2 : b ≠ d + 1 := fun e => absurd (A'.2.1.2.2.2.symm.trans ((congrArg hm' e).trans hD1)) (by omega)
        have n3 : b + 1 ≠ d := fun e => absurd (A'.2.2.1.2.2.2.symm.trans ((congrArg hm' e).trans hD)) (by omega)
        have n5 : a ≠ d := fun e => absurd (F.2.1.2.2.2.symm.trans ((congrArg hm' e).trans hD)) (by omega)
        have n6 : a + 1 ≠ d := fun e => absurd (F.2.2.1.2.2.2.symm.trans ((congrArg hm' e).trans hD)) (by omega)
        have n7 : a + 2 ≠ d := fun e => absurd (F.2.2.2.1.2.2.2.symm.trans ((congrArg hm' e).trans hD)) (by omega)
        have n8 : a + 2 ≠ d + 1 := fun e => absurd (F.2.2.2.1.2.2.2.symm.trans ((congrArg hm' e).trans hD1)) (by omega)
        have B1 := B.1
        have F1 := F.1
        generalize hJ : jms (jms I' d 0 w) d 1 h = J
        have jb0 : J d 0 = w := by rw [← hJ]; exact (jms_i (by decide)).trans jms_e
        have jb1 : J d 1 = h := by rw [← hJ]; exact jms_e
        have jo : ∀ c, c ≠ d → J c = I' c := fun c hc => by rw [← hJ, jms_o hc, jms_o hc]
        generalize hK : jms (jms (jms m 76 0 0) 77 (m 76 1) w) 78 (m 76 1) h = K
        have kp : ∀ i, i ≠ m 76 1 → K 77 i = m 77 i ∧ K 78 i = m 78 i := fun i hi => by
          rw [← hK]
          exact ⟨(congrFun (jms_o (by decide)) _).trans (jms_i hi), jms_i hi⟩
        have km : K 76 1 = m 76 1 := by rw [← hK]; rfl
        have k77 : K 77 (m 76 1) = w := by rw [← hK]; exact (congrFun (jms_o (by decide)) _).trans jms_e
        have k78 : K 78 (m 76 1) = h := by rw [← hK]; exact jms_e
        have ko : ∀ x : Nat, 79 ≤ x → K x = m x := fun x hx => by rw [← hK, jms_o (by omega), jms_o (by omega), jms_o (by omega)]
        have E : FEn s' Q' hm' J K a b f p p w h := by
          refine ⟨F, by omega, A', by omega, by rw [jo b n1]; exact x1, by rw [jo b n1]; exact x2, sw, sh, ?_, ⟨c0.1, by omega⟩, ⟨c1.1, by omega⟩, by rw [(kp p (by omega)).1]; exact hw, by rw [(kp p (by omega)).2]; exact hh', fun q k q0 q2 k0 k1 => ?_⟩
          · unfold FltC
            rw [jo a n5, jo (a + 1) n6, ko 135 (by decide), ko 136 (by decide), ko 137 (by decide)]
            exact FC
          · rw [jo (b + 1) n3, ko 79 (by decide)]
            exact (x5 q k q0 q2 k0 k1).1
        obtain ⟨J', z1, z2⟩ := c_ap54 (t := t) L' E B hQ7 (by omega) (by omega) jb0 jb1
        obtain ⟨m', y1, y2⟩ := k_ap88 (t := t) (n := m 76 1) E ⟨t2, cn⟩ (by omega) km
        have j01 : J' 0 ((1 : Nat) : Int) = m 76 1 := by
          rw [z2.1 0 (by omega) (by omega), jo 0 (by omega)]
          exact R'.2.1.1
        have eC : jd_170 0 f p t (hh s Q I) = some (.inl (m 76 1), hh s' Q' (jms J' 0 1 (m 76 1 + 1))) := by
          have w0 : I' b ((0 : Nat) : Int) = w := x1
          have w1 : I' b ((1 : Nat) : Int) = h := x2
          unfold jd_170
          rw [n_jw hf.1 hf.2, if_neg (by omega), y_gi L 0 11 rfl rfl, Option.bind_some, e12, n_jw (z := m 76 92) (by omega) (by omega), if_pos c0.2, y_ck L 0 11 rfl rfl, Option.bind_some, ea, b_jtb, y_ck L 0 11 rfl rfl, Option.bind_some, e1, b_jtb, x_gi A'.2.1.1 A'.2.1.2.1, Option.bind_some, x_gi A'.2.1.1 A'.2.1.2.1, Option.bind_some, w0, w1, x_ck B.2.1.1 B.2.1.2.1, Option.bind_some, c_95 B, Option.bind_some, hJ, z1, Option.bind_some, y_gi L' 0 11 rfl rfl, Option.bind_some, j01, y_pi L' 0 11 rfl rfl, Option.bind_some]
          rfl
        have m1' : m' 76 1 = m 76 1 := by rw [y2.1 76 (by decide) (by decide)]; exact km
        have eM : jd_347 f p t m = some (m 76 1 + 1 - 1, jms m' 76 1 (m 76 1 + 1)) := by
          rw [preM]
          unfold jd_347_b43
          have q1 : jms m 76 0 0 76 1 = m 76 1 := rfl
          have q2 : jms (jms m 76 0 0) 77 (m 76 1) w 76 1 = m 76 1 := rfl
          have q3 : jms m 76 0 0 77 p = w := hw
          have q4 : jms (jms m 76 0 0) 77 (m 76 1) w 78 p = h := hh'
          rw [Option.bind_some, jms_e, if_pos (by decide), y_ma 77 60 rfl rfl c1.1 (by omega), Option.bind_some, q3, q1, y_mw 77 60 rfl rfl t2 (by omega), Option.bind_some, y_ma 78 60 rfl rfl c1.1 (by omega), Option.bind_some, q4, q2, y_mw 78 60 rfl rfl t2 (by omega), Option.bind_some, hK, y1, Option.bind_some, Option.bind_some, m1', jms_e]
        have m2 : Mm m (ims m 140 (m' 140)) := ⟨⟨rfl, rfl, rfl, rfl, rfl, rfl, rfl, rfl⟩, fun x hx => ims_o (by omega)⟩
        have R2 := RelH_stk (S := J' (a + 2)) R' ⟨c0.1, by omega⟩ hQ7 m2
        generalize hI2 : ims (jms J' 0 1 (m 76 1 + 1)) (d + 1) (fun j => jw (J' (d + 1) j)) = I2
        have i2o : ∀ c, c ≠ d + 1 → c ≠ 0 → I2 c = J' c := fun c h1 h2 => by rw [← hI2, ims_o h1, jms_o h2]
        have i20 : I2 0 = jms J' 0 1 (m 76 1 + 1) 0 := by rw [← hI2, ims_o (by omega)]
        have i2d : I2 (d + 1) = fun j => jw (J' (d + 1) j) := by rw [← hI2, ims_e]
        have Ev : Eqv s' (jms J' 0 1 (m 76 1 + 1)) I2 := by
          intro c
          rw [← hI2]
          by_cases e : c = d + 1
          · subst e
            refine ⟨fun h => by omega, fun h => absurd B.2.2.1.2.1 h, fun k => ?_⟩
            rw [ims_e, jms_o (by omega)]
            exact jw_jw _
          · exact ⟨fun _ => ims_o e, fun _ => ims_o e, fun k => by rw [ims_o e]⟩
        have Kp1 : Kp s Q I s' Q' (jms J' 0 1 (m 76 1 + 1)) := by
          intro c h1 h2
          obtain ⟨f1, f2, f3, f4⟩ := Kp_of L S1 (fun i _ _ => by omega) c h1 h2
          refine ⟨f1, f2, f3, ?_⟩
          rw [jms_o (by omega), z2.1 c (by omega) (by omega), jo c (by omega)]
          exact f4
        refine Or.inl ⟨_, _, s', Q', _, I2, _, eC, eM, ?_, by congr 1; omega, Ev, Kp1, ⟨S1.1, by omega, by omega⟩, hm', ?_⟩
        · rw [jms_i (by decide), y2.1 76 (by decide) (by decide), ← hK]
          rfl
        · have S2 : Sm (fun o => o ≠ m 76 1 ∧ o ≠ 1000) s' Q' hm' (ims I' (a + 2) (J' (a + 2))) s' Q' hm' I2 := Sm_I (fun c _ hc => by
            have h1 : c ≠ d := fun e => hc.1 (by rw [e]; exact hD)
            have h2 : c ≠ d + 1 := fun e => hc.1 (by rw [e]; exact hD1)
            have h3 : c ≠ 0 := fun e => hc.2 (by rw [e]; exact Lo L' rfl)
            rw [i2o c h2 h3]
            by_cases e : c = a + 2
            · rw [e, ims_e]
            · rw [ims_o e, z2.1 c e h2, jo c h1])
          refine RelH_new (m := ims m 140 (m' 140)) (w := w) (h := h) (a := d) R2 cn e2 S2 ?_ (fun k hk => ?_) ⟨⟨jms_e, ?_, ?_, ?_, ?_, ?_, ?_, ?_⟩, fun i hi => ?_, ?_, ?_, fun j hj => ?_, fun x hx => ?_⟩ ⟨?_, ?_, sw, sh, fun q k q0 q2 k0 k1 => ?_⟩
          · rw [i20]
            exact jms_e
          · rw [i20, jms_i hk, z2.1 0 (by omega) (by omega), jo 0 (by omega), ims_o (by omega)]
          · rw [jms_i (by decide), y2.1 76 (by decide) (by decide), ← hK]; rfl
          · rw [jms_i (by decide), y2.1 76 (by decide) (by decide), ← hK]; rfl
          · rw [jms_i (by decide), y2.1 76 (by decide) (by decide), ← hK]; rfl
          · rw [jms_i (by decide), y2.1 76 (by decide) (by decide), ← hK]; rfl
          · rw [jms_i (by decide), y2.1 76 (by decide) (by decide), ← hK]; rfl
          · rw [jms_i (by decide), y2.1 76 (by decide) (by decide), ← hK]; rfl
          · rw [jms_i (by decide), y2.1 76 (by decide) (by decide), ← hK]; rfl
          · rw [jms_o (by decide), jms_o (by decide), y2.1 77 (by decide) (by decide), y2.1 78 (by decide) (by decide), ims_o (by decide), ims_o (by decide)]
            exact kp i hi
          · rw [jms_o (by decide), y2.1 77 (by decide) (by decide)]
            exact k77
          · rw [jms_o (by decide), y2.1 78 (by decide) (by decide)]
            exact k78
          · rw [jms_o (by decide), y2.2.1 j hj, ko 79 (by decide), ims_o (by decide)]
          · rw [jms_o (by omega)]
            by_cases e : x = 140
            · rw [e, ims_e]
            · rw [y2.1 x (by omega) e, ko x (by omega), ims_o e]
          · rw [i2o d (by omega) (by omega), z2.1 d (fun e => n7 e.symm) (by omega)]
            exact jb0
          · rw [i2o d (by omega) (by omega), z2.1 d (fun e => n7 e.symm) (by omega)]
            exact jb1
          · have f1 := z2.2 q k q0 q2 k0 k1 (Or.inl (by omega))
            have f2 := y2.2.2 q k q0 q2 k0 k1 (Or.inl (by omega))
            have f3 : jms m' 76 1 (m 76 1 + 1) 79 (864 * m 76 1 + (pf q + k)) = apV K f p w t q k := by
              rw [jms_o (by decide)]
              exact f2
            show I2 (d + 1) (pb w h q + k) = jms m' 76 1 (m 76 1 + 1) 79 (864 * m 76 1 + (pf q + k)) ∧ 0 ≤ jms m' 76 1 (m 76 1 + 1) 79 (864 * m 76 1 + (pf q + k)) ∧ jms m' 76 1 (m 76 1 + 1) 79 (864 * m 76 1 + (pf q + k)) ≤ 255
            rw [f3, i2d]
            exact ⟨f1, cl_b _⟩
      · rw [if_pos (show m 76 1 = 60 by omega)] at preM
        refine SimJ_th (E := 1) (b := 0) R ?_ (preM.trans (b43 2 (Or.inr rfl))) (by decide)
        unfold jd_170
        rw [n_jw hf.1 hf.2, if_neg (by omega), y_gi L 0 11 rfl rfl, Option.bind_some, e12, n_jw (z := m 76 92) (by omega) (by omega), if_pos c0.2, y_ck L 0 11 rfl rfl, Option.bind_some, ea, b_jtb, y_ck L 0 11 rfl rfl, Option.bind_some, c_194n R (by omega) cn, b_jtx]
    · rw [if_neg c1] at preM
      refine SimJ_th (E := 2) (b := 0) R ?_ (preM.trans (b43 1 (Or.inl rfl))) (by decide)
      unfold jd_170
      rw [n_jw hf.1 hf.2, if_neg (by omega), y_gi L 0 11 rfl rfl, Option.bind_some, e12, n_jw (z := m 76 92) (by omega) (by omega), if_pos c0.2, y_ck L 0 11 rfl rfl, Option.bind_some, c_193n R (by omega) hp c1, b_jtx]
  · rw [if_neg (by omega)] at kf
    refine SimJ_th (E := 2) (b := 0) R ?_ ?_ (by decide)
    · unfold jd_170 jd_170_b12
      rw [n_jw hf.1 hf.2, x_6 (by omega), Option.bind_some]
      by_cases h0 : f < 0
      · rw [if_pos h0]
      · rw [if_neg h0, y_gi L 0 11 rfl rfl, Option.bind_some, e12, n_jw (z := m 76 92) (by omega) (by omega), if_neg (by omega)]
    · unfold jd_347
      rw [n_jw hf.1 hf.2, n_jw (z := m 76 92 - 1) (by omega) (by omega), kf, if_pos rfl, b43 1 (Or.inl rfl)]
      rfl
end Apply2
