/-! filter: factors without others within -/
section FltG
variable {s : hS} {Q : hQ} {hm : hO} {I0 m0 I I' m m' : jM} {a : Nat} {q n en p w d fl c A B lv op r v x u : Int} {pn nd k : Nat} {F : jFR}
theorem lt_o (h : 1 ≤ lt u) : opc (lt u).toNat = u ∧ 77 ≤ u ∧ u ≤ 121 ∧ (lt u ≤ 7 → arS u = 0 ∧ (u = 104 ∨ u = 110 ∨ u = 115 ∨ u = 116 ∨ u = 119 ∨ u = 120 ∨ u = 121)) ∧ (7 < lt u → 14 ≤ lt u ∧ (u = 77 ∨ u = 97 ∨ u = 105 ∨ u = 109) ∧ (lt u = 17 ↔ u = 105)) := by
  have : u = 77 ∨ u = 97 ∨ u = 104 ∨ u = 105 ∨ u = 109 ∨ u = 110 ∨ u = 115 ∨ u = 116 ∨ u = 119 ∨ u = 120 ∨ u = 121 := by
    unfold lt at h
    repeat' split at h
    all_goals omega
  rcases this with rfl | rfl | rfl | rfl | rfl | rfl | rfl | rfl | rfl | rfl | rfl <;> decide
theorem lt_n (h : lt u < 1) : lt u = -1 ∧ u ≠ 77 ∧ u ≠ 97 ∧ u ≠ 104 ∧ u ≠ 105 ∧ u ≠ 109 ∧ u ≠ 110 ∧ u ≠ 115 ∧ u ≠ 116 ∧ u ≠ 119 ∧ u ≠ 120 ∧ u ≠ 121 := by
  unfold lt at h ⊢
  repeat' split at h
  all_goals first | omega | (refine ⟨?_, by omega, by omega, by omega, by omega, by omega, by omega, by omega, by omega, by omega, by omega, by omega⟩; repeat' split) <;> omega
/-- readFactor after next -/
theorem c_51h (X : Fx s Q hm a q n en I0 m0) (C : CS I0 a en p c I) (hb : Bl I0 en p A) (hr : Rs I0 en A) : jd_51 F a d (hh s Q I) = if chC I0 en A < 48 then jd_51_b22 F a d (chC I0 en A) (hh s Q (jms I a 5 A)) else (if 57 < chC I0 en A then jd_51_b22 F a d (chC I0 en A) (hh s Q (jms I a 5 A)) else ((jd_52 a (hh s Q (jms I a 5 A))).bind fun q58 => ((jbc q58.1).bind fun u60 => some (q58.1, q58.2)))) := by
  have r := chC_r (I0 := I0) (en := en) (A := A)
  unfold jd_51
  rw [C_ck X, Option.bind_some, c_47 X C hb hr, Option.bind_some]
  show (if jw (chC I0 en A) < 48 then _ else if 57 < jw (chC I0 en A) then _ else ((jck (hh s Q (jms I a 5 A)) a 3).bind fun u56 => ((jd_52 a (hh s Q (jms I a 5 A))).bind _))) = _
  rw [n_jw (z := chC I0 en A) (by omega) (by omega), C_ck X, Option.bind_some]
/-- a number -/
theorem fac_num (X : Fx s Q hm a q n en I0 m0) (T : At q a I0 m0 en p w d r c I m) (hb : Bl I0 en p A) (hr : Rs I0 en A) (h : 48 ≤ chC I0 en A ∧ chC I0 en A ≤ 57) : Res s Q q a I0 m0 en (fun _ => True) 3 w d r p m (jd_51 F a d (hh s Q I)) := by
  have T' := T
  obtain ⟨C, M, E, D, cw, w0, d0, r0⟩ := T
  have ee := Fx_e X
  have pA := hb.1
  have p0 := C.2.2.2.2.2.2.1
  have cm : chM I0 en A = chC I0 en A := (ch_i (by omega) (by omega)).mp rfl
  have Al : A < en := ch_lt (K := chC I0 en A) rfl (by omega)
  have tA : chC I0 en A = tC I0 A := if_pos Al
  have C1 := CS_p (A := A) C (by omega) (by omega)
  obtain ⟨nd, Dn⟩ := nd_ex (I0 := I0) (en := en) (A := A)
  have n1 : 1 ≤ nd := by
    by_cases h0 : nd = 0
    · subst h0
      have := Dn.2.2 (by omega)
      rw [show A + ((0 : Nat) : Int) = A by omega] at this
      exact absurd ⟨Al, by omega, by omega⟩ this
    · omega
  have le : A + (nd : Int) ≤ en := by
    have := (Dn.2.1 (nd - 1) (by omega)).1
    omega
  obtain ⟨I', c1, c2, c3, c4⟩ := c_52 X C1 Dn
  have c200 : c < 200 := by omega
  rw [if_pos c200] at c1
  have c2' := c2 c200
  rw [jms_o (show a + 1 ≠ a by omega)] at c2'
  obtain ⟨k1, k2⟩ := k_num X M p0 (by have := C.2.2.2.2.1; omega) hb hr (by omega) Dn
  refine ⟨I', ?_⟩
  rw [c_51h X C hb hr, if_neg (by omega), if_neg (by omega)]
  by_cases dd : dg I0 en (A + (nd : Int))
  · refine Or.inr ⟨?_, FB_1 M (k1 dd) (by omega) c1⟩
    rw [c3 dd, Option.bind_some]
    rfl
  · obtain ⟨j1, j2⟩ := k2 dd
    have vb := vl_b (I0 := I0) (en := en) (A := A) Dn.2.1 Dn.1
    refine Or.inl ⟨?_, FO_em T' j1 j2 rfl rfl rfl rfl c1 c2' ⟨by decide, by decide, fun _ => vb, rfl⟩ ?_ (by omega) trivial⟩
    · rw [c4 dd, Option.bind_some]
      rfl
    · unfold arS
      rw [if_pos (by omega)]
/-- a letter -/
theorem fac_let (X : Fx s Q hm a q n en I0 m0) (T : At q a I0 m0 en p w d r c I m) (hb : Bl I0 en p A) (hr : Rs I0 en A) (hu : chC I0 en A = u) (h1 : 1 ≤ lt u) (h7 : lt u ≤ 7) : Res s Q q a I0 m0 en (fun _ => True) 3 w d r p m (jd_51 F a d (hh s Q I)) := by
  have T' := T
  obtain ⟨C, M, E, D, cw, w0, d0, r0⟩ := T
  have ee := Fx_e X
  have pA := hb.1
  have p0 := C.2.2.2.2.2.2.1
  have c0 := C.2.2.2.2.1
  obtain ⟨l1, l2, l3, l4, -⟩ := lt_o h1
  obtain ⟨l5, l6⟩ := l4 h7
  have cm : chM I0 en A = u := (ch_i (by omega) (by omega)).mp hu
  have Al : A < en := ch_lt hu (by omega)
  have C1 := CS_p (A := A) C (by omega) (by omega)
  have C2 := c_inc C1 Al
  rw [jms_jms] at C2
  obtain ⟨I', e1, e2, e3⟩ := c_46 (v := u) X C2
  have c200 : c < 200 := by omega
  rw [if_pos c200] at e2
  have e3' := e3 c200
  rw [jms_o (show a + 1 ≠ a by omega)] at e3'
  obtain ⟨j1, j2⟩ := k_let X M p0 (by omega) hb hr (by omega) (by omega) (by omega) (by rw [cm]; exact ⟨h1, h7⟩)
  rw [cm] at j1 j2
  have e5 : jms I a 5 A a ((5 : Nat) : Int) = A := jms_e
  have J3 : jms (jms I a 5 A) a ((5 : Nat) : Int) (A + 1) = jms I a 5 (A + 1) := jms_jms
  have nj : jw u = u := n_jw (by omega) (by omega)
  refine ⟨I', Or.inl ⟨?_, FO_em T' j1 j2 rfl rfl rfl rfl e2 e3' ⟨by omega, by omega, fun e => by omega, ?_⟩ l5 (by omega) trivial⟩⟩
  · have b136 : jd_51_b136 F a u (hh s Q (jms I a 5 A)) = some (1, hh s Q I') := by
      unfold jd_51_b136
      rw [C_gi X, Option.bind_some, e5, C_pi X, Option.bind_some, J3, C_ck X, Option.bind_some, e1, Option.bind_some]
    have b22 : jd_51_b22 F a d u (hh s Q (jms I a 5 A)) = some (1, hh s Q I') := by
      unfold jd_51_b22
      rw [nj, b136]
      rcases l6 with e | e | e | e | e | e | e <;> subst e <;> rfl
    rw [c_51h X C hb hr, hu, b22]
    by_cases x1 : u < 48
    · rw [if_pos x1]
    · rw [if_neg x1, if_pos (by omega)]
  · unfold stp
    rw [if_neg (by omega), l1]
/-- what can't be there -/
theorem fac_not (X : Fx s Q hm a q n en I0 m0) (T : At q a I0 m0 en p w d r c I m) (hb : Bl I0 en p A) (hr : Rs I0 en A) (hu : chC I0 en A = u) (hd : ¬ (48 ≤ u ∧ u ≤ 57)) (h40 : u ≠ 40) (h45 : u ≠ 45) (hl : lt u < 1) : Res s Q q a I0 m0 en (fun _ => True) 3 w d r p m (jd_51 F a d (hh s Q I)) := by
  obtain ⟨C, M, E, D, cw, w0, d0, r0⟩ := T
  have pA := hb.1
  have p0 := C.2.2.2.2.2.2.1
  have cr := chC_r (I0 := I0) (en := en) (A := A)
  rw [hu] at cr
  have nj : jw u = u := n_jw (by omega) (by omega)
  have mr := chM_r (I0 := I0) (en := en) (A := A)
  have C1 := CS_p (A := A) C (by omega) (by have := hb.2.1; omega)
  have ci : ∀ K : Int, 1 ≤ K → K < 128 → (u = K ↔ chM I0 en A = K) := fun K k0 k1 => by rw [← hu]; exact ch_i k0 k1
  obtain ⟨-, n1, n2, n3, n4, n5, n6, n7, n8, n9, n10, n11⟩ := lt_n hl
  have lm : lt (chM I0 en A) = -1 := by
    by_cases h : 1 ≤ lt (chM I0 en A)
    · obtain ⟨-, l2, l3, -⟩ := lt_o h
      have := (ci (chM I0 en A) (by omega) (by omega)).mpr rfl
      rw [← this] at h
      omega
    · exact (lt_n (by omega)).1
  have dm : ¬ (48 ≤ chM I0 en A ∧ chM I0 en A ≤ 57) := fun h => by
    have := (ci (chM I0 en A) (by omega) (by omega)).mpr rfl
    omega
  refine ⟨jms I a 5 A, Or.inr ⟨?_, FB_1 M (k_not X M p0 hb hr dm (fun e => h45 ((ci 45 (by decide) (by decide)).mpr e)) (fun e => h40 ((ci 40 (by decide) (by decide)).mpr e)) lm) pA C1⟩⟩
  have b22 : jd_51_b22 F a d u (hh s Q (jms I a 5 A)) = some (0, hh s Q (jms I a 5 A)) := by
    unfold jd_51_b22
    rw [nj, if_neg h40, if_neg h45, if_neg n1, if_neg n2, if_neg n3, if_neg n4, if_neg n5, if_neg n6, if_neg n7, if_neg n8, if_neg n9, if_neg n10, if_neg n11]
  rw [c_51h X C hb hr, hu, b22]
  by_cases x1 : u < 48
  · rw [if_pos x1]
  · rw [if_neg x1, if_pos (by omega)]
end FltG
