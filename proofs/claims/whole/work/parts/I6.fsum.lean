/-! filter: sums -/
section FltSu
variable {s : hS} {Q : hQ} {hm : hO} {I0 m0 I I' m m' m2 : jM} {a : Nat} {q n en p w d fl c A A2 B lv op r v x u many : Int} {pn nd k N : Nat}
def LP1 (s : hS) (Q : hQ) (q : Int) (a : Nat) (I0 m0 : jM) (en lv w d r p : Int) (m : jM) (k : Nat) (st : Int × Int × jH) : Prop := ∃ I' : jM, (st = (1, (k : Int), hh s Q I') ∧ FOk q a I0 m0 en (fun p' => (k : Int) < p' ∧ St2 I0 en p') lv w d r p m I') ∨ (st = (0, (k : Int), hh s Q I') ∧ FBad q a I0 m0 en p m I')
theorem sum_l (X : Fx s Q hm a q n en I0 m0) (T : At q a I0 m0 en p w d r c I m) (tp : w = 0 ∨ (sr (m 138 (w - 1)) < 1 ∧ 8 ≤ m 138 (w - 1) ∧ m 138 (w - 1) ≤ 18)) (HF : ∀ {p w r c : Int} {I m : jM}, At q a I0 m0 en p w d r c I m → (w = 0 ∨ (sr (m 138 (w - 1)) < 2 ∧ 8 ≤ m 138 (w - 1) ∧ m 138 (w - 1) ≤ 18)) → Res s Q q a I0 m0 en (St2 I0 en) 2 w d r p m (jrec N 50 a d 0 (hh s Q I))) : Res s Q q a I0 m0 en (St1 I0 en) 1 w d r p m (jd_49 (jrec N) a d (hh s Q I)) := by
  have T' := T
  obtain ⟨C, M, E, D, cw, w0, d0, r0⟩ := T
  have ee := Fx_e X
  have p0 := C.2.2.2.2.2.2.1
  have step : ∀ (k : Nat) (st : Int × Int × jH), k ≤ 200 → LP1 s Q q a I0 m0 en 1 w d r p m k st → wT (jd_49_s8 (jrec N) a d st.1 st.2.1 st.2.2) (fun o => jse o (fun s' => k < 200 ∧ LP1 s Q q a I0 m0 en 1 w d r p m (k + 1) s') (fun xx => ∃ I', (xx = .inl (hh s Q I') ∧ FOk q a I0 m0 en (St1 I0 en) 1 w d r p m I') ∨ (xx = .inr (0, hh s Q I') ∧ FBad q a I0 m0 en p m I'))) := by
    intro k st hk J
    obtain ⟨I1, ⟨rfl, H⟩ | ⟨rfl, H⟩⟩ := J
    · obtain ⟨v, H1, kv, pv, ve, c1, C1⟩ := FO_p H
      have kv' : (k : Int) < v := kv.1
      have s2 : St2 I0 en v := kv.2
      obtain ⟨A, hb, hr⟩ := bl_ex (I0 := I0) (en := en) (p := v) (by omega) ve
      have cr := chC_r (I0 := I0) (en := en) (A := A)
      have pA := hb.1
      have Av : A = v := bl_rs hb s2.1
      have hh1 : jd_49_s8 (jrec N) a d 1 (k : Int) (hh s Q I1) = (if chC I0 en A = 43 then jd_49_b41 (jrec N) a d (k : Int) (chC I0 en A) (hh s Q (jms I1 a 5 A)) else (if chC I0 en A = 45 then jd_49_b41 (jrec N) a d (k : Int) (chC I0 en A) (hh s Q (jms I1 a 5 A)) else some (.inr (.inl (hh s Q (jms I1 a 5 A)))))) := by
        unfold jd_49_s8
        rw [n_jw (z := (k : Int)) (by omega) (by omega), if_neg (by omega), if_neg (show ¬ jw 1 = 0 by decide), C_ck X, Option.bind_some, c_47 X C1 hb hr, Option.bind_some]
        dsimp only
        rw [n_jw (z := chC I0 en A) (by omega) (by omega)]
      show wT (jd_49_s8 (jrec N) a d 1 (k : Int) (hh s Q I1)) _
      rw [hh1]
      by_cases hs : chC I0 en A = 43 ∨ chC I0 en A = 45
      · obtain ⟨sg, hsg⟩ : ∃ sg, chC I0 en A = sg := ⟨_, rfl⟩
        rw [hsg] at hs ⊢
        have e5 : jms I1 a 5 A a ((5 : Nat) : Int) = A := jms_e
        have J3 : jms (jms I1 a 5 A) a ((5 : Nat) : Int) (A + 1) = jms I1 a 5 (A + 1) := jms_jms
        have hb48 : ∀ {b : Int} {I2 I3 : jM}, jrec N 50 a d 0 (hh s Q (jms I1 a 5 (A + 1))) = some (b, hh s Q I2) → jd_46 a sg (hh s Q I2) = some (hh s Q I3) → jd_49_b41 (jrec N) a d (k : Int) sg (hh s Q (jms I1 a 5 A)) = some (.inl (b, (k : Int) + 1, hh s Q I3)) := fun {b} {I2} {I3} e e' => by
          unfold jd_49_b41
          rw [C_gi X, Option.bind_some, e5, C_pi X, Option.bind_some, J3, C_ck X, Option.bind_some, e, Option.bind_some]
          dsimp only
          rw [C_ck X, Option.bind_some, e', Option.bind_some]
        have hif : ∀ {Y : Option ((Int × Int × jH) ⊕ (jH ⊕ (Int × jH)))} {Z : Option ((Int × Int × jH) ⊕ (jH ⊕ (Int × jH)))}, (if sg = 43 then Y else (if sg = 45 then Y else Z)) = Y := fun {Y} {Z} => by
          rcases hs with e | e
          · rw [if_pos e]
          · rw [if_neg (by omega), if_pos e]
        rw [hif]
        have l2 : (1 : Int) = sgL sg := by
          unfold sgL
          rw [if_pos (by omega)]
        have s9 : sr (sgO sg) < 2 ∧ 8 ≤ sgO sg ∧ sgO sg ≤ 18 := by
          rcases hs with e | e <;> subst e <;> decide
        obtain ⟨I3, ⟨I2, o1, o2, H2⟩ | ⟨I2, o1, o2, H2⟩⟩ := join_s (o := jrec N 50 a d 0 (hh s Q (jms I1 a 5 (A + 1)))) X p0 w0 d0 r0 l2 tp H1 hb hr hsg (by omega) (fun T2 h8 => HF T2 (Or.inr (by rw [show w + 1 - 1 = w by omega, h8]; exact s9)))
        · refine ⟨_, hb48 o1 o2, ?_⟩
          show jse _ _ _
          rw [jse_l]
          refine ⟨by omega, I3, Or.inl ⟨by rw [show ((k + 1 : Nat) : Int) = (k : Int) + 1 by omega], FO_st H2 (fun p' _ (h : v + 1 < p' ∧ St2 I0 en p') => ⟨?_, h.2⟩)⟩⟩
          show ((k + 1 : Nat) : Int) < p'
          omega
        · refine ⟨_, hb48 o1 o2, ?_⟩
          show jse _ _ _
          rw [jse_l]
          exact ⟨by omega, I3, Or.inr ⟨by rw [show ((k + 1 : Nat) : Int) = (k : Int) + 1 by omega], H2⟩⟩
      · refine ⟨_, by rw [if_neg (by omega), if_neg (by omega)], ?_⟩
        show jse _ _ _
        rw [jse_r]
        have ci : ∀ K : Int, 1 ≤ K → K < 128 → (chC I0 en A = K ↔ chM I0 en A = K) := fun K k0 k1 => ch_i k0 k1
        exact ⟨_, Or.inl ⟨rfl, join_n X H1 hb ⟨hr, fun e => hs (Or.inl ((ci 43 (by decide) (by decide)).mpr e)), fun e => hs (Or.inr ((ci 45 (by decide) (by decide)).mpr e)), by rw [Av]; exact s2.2⟩⟩⟩
    · refine ⟨.inr (.inr (0, hh s Q I1)), ?_, ?_⟩
      · show jd_49_s8 (jrec N) a d 0 (k : Int) (hh s Q I1) = _
        unfold jd_49_s8
        rw [if_pos (show jw 0 = 0 by decide)]
        exact ite_self _
      · show jse _ _ _
        rw [jse_r]
        exact ⟨I1, Or.inr ⟨rfl, H⟩⟩
  obtain ⟨I1, hF⟩ := HF T' (by rcases tp with e | e; exact Or.inl e; exact Or.inr ⟨by omega, e.2⟩)
  have st0 : ∃ b : Int, jrec N 50 a d 0 (hh s Q I) = some (b, hh s Q I1) ∧ LP1 s Q q a I0 m0 en 1 w d r p m 0 (b, 0, hh s Q I1) := by
    rcases hF with ⟨o1, H⟩ | ⟨o1, H⟩
    · exact ⟨1, o1, I1, Or.inl ⟨rfl, FO_st (FO_lv H (by decide)) (fun p' h h2 => ⟨by show ((0 : Nat) : Int) < p'; omega, h2⟩)⟩⟩
    · exact ⟨0, o1, I1, Or.inr ⟨rfl, H⟩⟩
  obtain ⟨b, o1, J0⟩ := st0
  obtain ⟨xx, e, I2, hx⟩ : wT (jd_49_l8 (jrec N) a d b 0 (hh s Q I1)) (fun xx => ∃ I', (xx = .inl (hh s Q I') ∧ FOk q a I0 m0 en (St1 I0 en) 1 w d r p m I') ∨ (xx = .inr (0, hh s Q I') ∧ FBad q a I0 m0 en p m I')) := by
    unfold jd_49_l8
    exact w_lp (fun k st => LP1 s Q q a I0 m0 en 1 w d r p m k st) 200 step (n_fu (by decide)) J0
  have hd : jd_49 (jrec N) a d (hh s Q I) = jse xx (fun y28 => some (1, y28)) (fun y29 => ((jbc y29.1).bind fun u30 => some (y29.1, y29.2))) := by
    unfold jd_49
    rw [C_ck X, Option.bind_some, o1, Option.bind_some]
    dsimp only
    rw [e, Option.bind_some]
  rw [hd]
  rcases hx with ⟨rfl, H⟩ | ⟨rfl, H⟩
  · exact ⟨I2, Or.inl ⟨rfl, H⟩⟩
  · exact ⟨I2, Or.inr ⟨rfl, H⟩⟩
end FltSu
