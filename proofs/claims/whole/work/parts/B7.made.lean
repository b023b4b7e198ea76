/-! the part made by the class -/
section Made
variable {s : hS} {Q : hQ} {hm : hO} {I m : jM} {T : Nat} {st : Int}
theorem c_90 (F : PtC s Q T) (h6 : s.1 ≤ 1000000) : ∃ M, jd_90 T (hh s Q I) = some (hh s Q (ims I (T + 3) M)) ∧ ∀ j : Int, 0 ≤ j → j < 96 → M j = I (T + 1) j := by
  have q7 := T_q F 1 7 rfl rfl rfl
  have q9 := T_q F 3 9 rfl rfl rfl
  have l : jd_90_l2 T 0 (hh s Q I) = some (hh s Q (ims I (T + 3) (wf (fun j => j) (fun j _ => I (T + 1) j) (I (T + 3)) 96))) := by
    have := lpC (f := fun u : (Int × jH) => jd_90_s2 T u.1 u.2) (ct := fun k => k) (ix := fun j => j) (v := fun j _ => I (T + 1) j) (J := I) (a := T + 3) (s := s) (Q := Q) 96 (fun k G hk => by
      dsimp only
      unfold jd_90_s2
      have e1 : ims I (T + 3) G (T + 1) = I (T + 1) := ims_o (by omega)
      rw [n_jw (by omega) (by omega), if_neg (by omega)]
      simp only [T_gr F, q7, q9, Option.bind_some]
      rw [T_ai F h6 1 96 rfl rfl rfl rfl (by omega) (by omega), Option.bind_some, T_ta F 3 96 rfl rfl rfl rfl (by omega) (by omega), Option.bind_some, ims_jms, e1]) (fun G => by
      dsimp only
      unfold jd_90_s2
      exact if_pos (by show (96 : Int) ≤ jw ((96 : Nat) : Int); decide)) (by decide) (I (T + 3))
    rw [ims_self] at this
    exact this
  refine ⟨wf (fun j => j) (fun j _ => I (T + 1) j) (I (T + 3)) 96, ?_, fun j j0 j1 => ?_⟩
  · unfold jd_90
    rw [l, Option.bind_some]
  · have := wf_k (ix := fun j => j) (v := fun j _ => I (T + 1) j) (g := I (T + 3)) (n := 96) (k := j.toNat) (by omega) (fun l _ _ => by omega)
    rw [show ((j.toNat : Nat) : Int) = j by omega] at this
    exact this
theorem held_i {v : Int} (h0 : 0 ≤ v) (h1 : v ≤ 255) : jd_183 v = v := by
  unfold jd_183
  rw [n_jw (by omega) (by omega), if_pos h0, if_pos h1]
theorem c_made (L : Lay s Q hm) (h6 : s.1 ≤ 1000000) (hst : I 11 1 = st) (lb : ∀ j : Int, 0 ≤ j → j < 96 → -4095 ≤ I 15 j ∧ I 15 j ≤ 4095) (fb : ∀ j : Int, 0 ≤ j → j < 96 → 0 ≤ I 12 j ∧ I 12 j ≤ 255) : ∃ J0 J, jd_90 11 (hh s Q I) = some (hh s Q J0) ∧ jd_119_l168 9 0 (hh s Q J0) = some (hh s Q J) ∧ (∀ a : Nat, a ≠ 14 → a ≠ 18 → J a = I a) ∧ ∀ b r c : Int, 0 ≤ b → b < 6 → 0 ≤ r → r < 4 → 0 ≤ c → c < 4 → J 14 (cb b r c) = jd_183 (I 12 (cb b r c) + rsB (fun i => I 15 (16 * b + i)) st r c) := by
  have F := PtC_11 L
  have q1 : Q 9 ((1 : Nat) : Int) = some 11 := Lq L rfl
  obtain ⟨M, e0, hM⟩ := c_90 (I := I) F h6
  refine ⟨ims I (11 + 3) M, ?_⟩
  have l : wT (jd_119_l168 9 0 (hh s Q (ims I (11 + 3) M))) (fun o => ∃ J, o = hh s Q J ∧ (∀ a : Nat, a ≠ 14 → a ≠ 18 → J a = I a) ∧ ∀ b r c : Int, 0 ≤ b → b < 6 → 0 ≤ r → r < 4 → 0 ≤ c → c < 4 → J 14 (cb b r c) = jd_183 (I 12 (cb b r c) + rsB (fun i => I 15 (16 * b + i)) st r c)) := by
    unfold jd_119_l168
    refine w_lp (fun n u => ∃ J, u = ((n : Int), hh s Q J) ∧ (∀ a : Nat, a ≠ 14 → a ≠ 18 → J a = I a) ∧ (∀ b r c : Int, 0 ≤ b → b < (n : Int) → 0 ≤ r → r < 4 → 0 ≤ c → c < 4 → J 14 (cb b r c) = jd_183 (I 12 (cb b r c) + rsB (fun i => I 15 (16 * b + i)) st r c)) ∧ (∀ b r c : Int, (n : Int) ≤ b → b < 6 → 0 ≤ r → r < 4 → 0 ≤ c → c < 4 → J 14 (cb b r c) = I 12 (cb b r c))) 6 (fun n u hn hu => ?_) (n_fu (by omega)) ⟨_, rfl, fun a h1 _ => ims_o h1, fun b r c h0 h1 => absurd h1 (by omega), fun b r c h0 h1 r0 r1 c0 c1 => by
      have := cb_r (by omega) h1 r0 r1 c0 c1
      show ims I 14 M 14 _ = _
      rw [ims_e]
      exact hM _ this.1 this.2⟩
    obtain ⟨J, rfl, fr, dn, td⟩ := hu
    unfold jd_119_s168 jd_119_b193
    dsimp only
    rw [n_jw (by omega) (by omega)]
    by_cases cn : (6 : Int) ≤ (n : Int)
    · rw [if_pos cn]
      exact wT_ret ⟨J, rfl, fr, fun b r c h0 h1 => dn b r c h0 (by omega)⟩
    · have J15 : J (11 + 4) = I 15 := fr 15 (by decide) (by decide)
      have J12 : J (11 + 1) = I 12 := fr 12 (by decide) (by decide)
      have J11 : J 11 1 = st := by rw [fr 11 (by decide) (by decide)]; exact hst
      have e89 := c_89 (I := J) (b := (n : Int)) F h6 (by omega) (by omega) (by rw [J15]; exact lb)
      rw [J15] at e89
      obtain ⟨lv, hlv⟩ : ∃ z, z = lc (fun i => I 15 (16 * (n : Int) + i)) 16 := ⟨_, rfl⟩
      have lvb := lc_b (g := fun i => I 15 (16 * (n : Int) + i)) (n := 16)
      rw [← hlv] at e89 lvb
      rw [if_neg cn, y_gr L 9 8 rfl rfl, Option.bind_some, q1, Option.bind_some, y_ck L 11 5 rfl rfl, Option.bind_some, e89, Option.bind_some, n_jw (z := lv) (by omega) (by omega)]
      by_cases cl : lv ≤ 0
      · rw [if_pos cl]
        refine wT_ret ⟨by omega, J, by rw [show ((n + 1 : Nat) : Int) = (n : Int) + 1 by omega], fr, fun b r c h0 h1 r0 r1 c0 c1 => ?_, fun b r c h0 h1 => td b r c (by omega) h1⟩
        by_cases cb' : b = (n : Int)
        · subst cb'
          have z := lc_0 (g := fun i => I 15 (16 * (n : Int) + i)) (n := 16) (by omega)
          have rg := cb_r (b := (n : Int)) (by omega) (by omega) r0 r1 c0 c1
          have fv := fb _ rg.1 rg.2
          rw [td (n : Int) r c (by omega) (by omega) r0 r1 c0 c1, rsB_0 (fun j h0 h1 => z j h0 (by omega)), Int.add_zero, held_i fv.1 fv.2]
        · exact dn b r c h0 (by omega) r0 r1 c0 c1
      · obtain ⟨S, M', e91, h1, h2⟩ := c_91 (I := J) (b := (n : Int)) (st := st) F h6 (by omega) (by omega) J11
        rw [J12, J15] at h1
        rw [if_neg cl, Option.bind_some, Option.bind_some, y_ck L 11 5 rfl rfl, Option.bind_some, e91, Option.bind_some]
        refine wT_ret ⟨by omega, _, by rw [show ((n + 1 : Nat) : Int) = (n : Int) + 1 by omega], fun a a1 a2 => ?_, fun b r c h0 hb r0 r1 c0 c1 => ?_, fun b r c h0 hb r0 r1 c0 c1 => ?_⟩
        · rw [ims_o a1, ims_o a2]
          exact fr a a1 a2
        · show ims (ims J 18 S) 14 M' 14 _ = _
          rw [ims_e]
          by_cases cb' : b = (n : Int)
          · subst cb'
            exact h1 r c r0 r1 c0 c1
          · rw [h2 _ (fun r' c' a1 a2 a3 a4 e => cb' (cb_j h0 (by omega) r0 r1 c0 c1 (by omega) (by omega) a1 a2 a3 a4 e).1)]
            exact dn b r c h0 (by omega) r0 r1 c0 c1
        · show ims (ims J 18 S) 14 M' 14 _ = _
          rw [ims_e, h2 _ (fun r' c' a1 a2 a3 a4 e => absurd (cb_j (by omega) hb r0 r1 c0 c1 (by omega) (by omega) a1 a2 a3 a4 e).1 (by omega))]
          exact td b r c (by omega) hb r0 r1 c0 c1
  obtain ⟨o, eo, J, rfl, h1, h2⟩ := l
  exact ⟨J, e0, eo, h1, h2⟩
end Made
