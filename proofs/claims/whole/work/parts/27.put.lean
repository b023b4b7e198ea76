/-! a picture's samples set: put -/
section Put
variable {s s' : hS} {Q Q' : hQ} {hm hm' : hO} {I I' m m' : jM} {p q x y v : Int}
/-- the model's cells that the relation names, but for the pictures' samples -/
def Mp (m m' : jM) : Prop := (m' 76 1 = m 76 1 ∧ m' 76 5 = m 76 5 ∧ m' 76 7 = m 76 7 ∧ m' 76 8 = m 76 8 ∧ m' 76 9 = m 76 9 ∧ m' 76 12 = m 76 12 ∧ m' 76 86 = m 76 86 ∧ m' 76 92 = m 76 92) ∧ ∀ x : Nat, x ≠ 79 → (77 ≤ x ∧ x ≤ 101) ∨ (131 ≤ x ∧ x ≤ 133) ∨ (135 ≤ x ∧ x ≤ 137) ∨ (141 ≤ x ∧ x ≤ 151) → m' x = m x
theorem RelH_pic (hp : 0 ≤ p ∧ p < 60) (S : Sm (fun o => o ≠ p) s Q hm I s' Q' hm' I') (L' : Lay s' Q' hm') (M : Mp m m') (r1' : RPic s' Q' hm' I' m') (R : RelH s Q hm I m) : RelH s' Q' hm' I' m' := by
  obtain ⟨L, r1, r2, r3, r4, r5, r6, r7, r8, r9⟩ := R
  obtain ⟨⟨m1, m5, m7, m8, m9, m12, m86, m92⟩, em⟩ := M
  have i0 : I' 0 = I 0 := (Lay_fr (a := 0) L S (by decide) (by omega)).2
  have i2 : I' 2 = I 2 := (Lay_fr (a := 2) L S (by decide) (by omega)).2
  have i3 : I' 3 = I 3 := (Lay_fr (a := 3) L S (by decide) (by omega)).2
  have i6 : I' 6 = I 6 := (Lay_fr (a := 6) L S (by decide) (by omega)).2
  refine ⟨L', r1', ?_, ?_, ?_, ?_, ?_, ?_, ?_, ?_⟩
  · exact RTap_fr (by rw [i0]) i2 m5 (em 80 (by decide) (by omega)) r2
  · exact RSet_fr i3 (em 82 (by decide) (by omega)) r3
  · exact RRee_fr L S (by omega) (fun i _ _ => by omega) (by rw [i0]) m7 m8 m9 (em 81 (by decide) (by omega)) r4
  · exact RFil_fr L S (by omega) (fun i _ _ => by omega) (fun i _ _ => by omega) (fun i _ _ => by omega) (by rw [i0]) m12 (fun x _ _ => em x (by omega) (by omega)) r5
  · exact RRow_fr (by rw [i0]) i6 m86 m12 (em 131 (by decide) (by omega)) (em 132 (by decide) (by omega)) (em 133 (by decide) (by omega)) (em 83 (by decide) (by omega)) (em 87 (by decide) (by omega)) r6
  · exact RFlt_fr L S (by omega) (fun i _ _ => by omega) (by rw [i0]) m92 (em 135 (by decide) (by omega)) (em 136 (by decide) (by omega)) (em 137 (by decide) (by omega)) r7
  · exact RPly_fr L S (by omega) (fun i _ _ => by omega) (fun i _ _ => by omega) m12 (fun x _ _ => em x (by omega) (by omega)) (fun x _ _ => em x (by omega) (by omega)) r9 r8
  · exact RMis_fr L S (by omega) (by omega) (by omega) (fun i _ _ => by omega) (fun i _ _ => by omega) (fun i _ _ => by omega) r9
theorem RPic_set (L : Lay s Q hm) (R : RPic s Q hm I m) (hp : 0 ≤ p ∧ p < m 76 1) (S : Sm (fun o => o ≠ p) s Q hm I s Q hm I') (M : Mp m m') (e79 : ∀ j : Int, ¬ (864 * p ≤ j ∧ j < 864 * p + 864) → m' 79 j = m 79 j) (X : ∀ a, Q 1 p = some a → Pix I' a (m 77 p) (m 78 p) (fun j => m' 79 (864 * p + j))) : RPic s Q hm I' m' := by
  obtain ⟨t1, t2, t3, t4, t5⟩ := R
  have i0 : I' 0 = I 0 := (Lay_fr (a := 0) L S (by decide) (by omega)).2
  unfold RPic
  rw [M.1.1, i0, M.2 77 (by decide) (by omega), M.2 78 (by decide) (by omega)]
  refine ⟨t1, t2, t3, t4, fun i h1 h2 => ?_⟩
  obtain ⟨a, ha, hx⟩ := t5 i h1 h2
  refine ⟨a, ha, ?_⟩
  by_cases hi : i = p
  · subst hi
    exact X a ha
  · obtain ⟨-, f1, f2⟩ := PicAt_fr S (t4 i h1 (by omega) a ha) hi
    refine Pix_g (Pix_fr hx f1 f2) (fun q k q0 q2 k0 k1 => ?_)
    have b := pl_sz hx.2.2.1 hx.2.2.2.1 q0 q2
    exact e79 _ (by omega)
theorem si_put (R : RelH s Q hm I m) (h6 : s.1 < 1000000) (hp : okI p) (hq : okI q) (hx : okI x) (hy : okI y) (hv : okI v) : SimI (jd_144 0 p q x y v (hh s Q I)) (jd_219 p q x y v m) (fun E => if E = 2 then 1 else if E = 0 then 2 else 0) s Q I := by
  have L := R.1
  obtain ⟨b, hb, hbv⟩ := k_218 R.2.1 hp hq hx hy
  have hv' : -2147483648 ≤ v ∧ v < 2147483648 := hv
  have i2 := x_in (x := v) (lo := 0) (hi := 255) (by omega) (by omega) (by decide) (by decide) (by decide) (by decide)
  rcases hbv with ⟨c, rfl⟩ | ⟨c, rfl⟩
  · obtain ⟨a, ha, A, X, z0, z1, d0, d1, f0, f1⟩ := sOk_at R.2.1 c
    obtain ⟨a', ea, ha', -, -⟩ := c_193 R hp c.1.1 c.1.2
    rw [ha] at ha'
    cases ha'
    have hs := R.2.1.2.2.1
    have hp' := c.1
    have e2 : Q a ((2 : Nat) : Int) = some (a + 1) := A.2.2.2
    by_cases cv : 0 ≤ v ∧ v ≤ 255
    · generalize hz : y * pw (m 77 p) q + x = z at z0 z1
      have hat := (X.2.2.2.2 q z c.2.1.1 c.2.1.2 z0 z1).1
      have eC : jd_144 0 p q x y v (hh s Q I) = some (.inl (m 79 (864 * p + (pf q + z))), hh s Q (jms I (a + 1) (pb (m 77 p) (m 78 p) q + z) v)) := by
        unfold jd_144
        rw [y_ck L 0 11 rfl rfl, Option.bind_some, ea, b_jtb, c_191 A X hq hx hy c.2.1 c.2.2.1 c.2.2.2, b_jtb, (c_184 hv _).1 cv, b_jtb, x_gr A.2.1.1 A.2.1.2.1, Option.bind_some, e2, Option.bind_some, show pb (m 77 p) (m 78 p) q + y * pw (m 77 p) q + x = pb (m 77 p) (m 78 p) q + z by omega, x_ai A.2.2.1.1 (by omega) A.2.2.1.2.1 (by omega) (by rw [A.2.2.1.2.2.1]; omega) (by rw [A.2.2.1.2.2.1]; decide), Option.bind_some, Option.bind_some, Option.bind_some, x_ta A.2.2.1.1 A.2.2.1.2.1 (by omega) (by rw [A.2.2.1.2.2.1]; omega) (by rw [A.2.2.1.2.2.1]; decide), Option.bind_some, hat]
      have eM : jd_219 p q x y v m = some (m 79 (864 * p + (pf q + z)), jms (jms m 76 0 0) 79 (864 * p + (pf q + z)) v) := by
        unfold jd_219 jd_219_b35
        have e7 : (jms m 76 0 0) 77 p = m 77 p := rfl
        rw [hb, Option.bind_some, if_neg (show ¬ jw 1 = 0 by decide), n_jw hv.1 hv.2, i2, if_pos cv, if_neg (by decide), Option.bind_some, jms_e, if_pos (by decide), k_212 ⟨hp'.1, by omega⟩ hq e7 X.2.2.1, Option.bind_some, show 864 * p + pf q + y * pw (m 77 p) q + x = 864 * p + (pf q + z) by omega, y_ma 79 51840 rfl rfl (by omega) (show _ < ((51840 : Nat) : Int) by omega), Option.bind_some, Option.bind_some, y_mw 79 51840 rfl rfl (by omega) (show _ < ((51840 : Nat) : Int) by omega), Option.bind_some]
        rfl
      have S : Sm (fun o => o ≠ p) s Q hm I s Q hm (jms I (a + 1) (pb (m 77 p) (m 78 p) q + z) v) := Sm_jms (by rw [A.2.2.1.2.2.2]; omega)
      have M : Mp m (jms (jms m 76 0 0) 79 (864 * p + (pf q + z)) v) := ⟨⟨rfl, rfl, rfl, rfl, rfl, rfl, rfl, rfl⟩, fun x h1 h2 => (jms_o h1).trans (jms_o (by omega))⟩
      refine Or.inl ⟨_, _, s, Q, _, _, eC, eM, rfl, rfl, Kp_of L S (fun i _ _ => by omega), Gr_refl, hm, ?_⟩
      refine RelH_pic ⟨hp'.1, by omega⟩ S L M ?_ R
      refine RPic_set L R.2.1 hp' S M (fun j hj => ?_) (fun a' ha' => ?_)
      · rw [jms_i (by omega)]
        rfl
      · rw [ha] at ha'
        cases ha'
        refine Pix_upd (q := q) X (jms_o (by omega)) (fun k k0 k1 => ?_) (fun p' k h1 h2 h3 k0 k1 => ?_)
        · by_cases hk : k = z
          · subst hk
            rw [jms_e, jms_e]
            exact ⟨rfl, cv⟩
          · rw [jms_i (by omega), jms_i (by omega)]
            exact X.2.2.2.2 q k c.2.1.1 c.2.1.2 k0 k1
        · have := pl_ne X.2.2.1 X.2.2.2.1 h1 h2 c.2.1.1 c.2.1.2 h3 k0 k1 z0 z1
          rw [jms_i this.1, jms_i (by omega)]
          exact ⟨rfl, rfl⟩
    · refine SimI_th (E := 0) (b := 0) R ?_ ?_ (by decide)
      · unfold jd_144
        rw [y_ck L 0 11 rfl rfl, Option.bind_some, ea, b_jtb, c_191 A X hq hx hy c.2.1 c.2.2.1 c.2.2.2, b_jtb, (c_184 hv _).2 cv h6, b_jtx]
      · unfold jd_219 jd_219_b35
        rw [hb, Option.bind_some, if_neg (show ¬ jw 1 = 0 by decide), n_jw hv.1 hv.2, i2, if_neg cv, if_pos rfl, Option.bind_some, jms_e, if_neg (by decide)]
        rfl
  · refine SimI_th (E := 2) (b := 0) R ?_ ?_ (by decide)
    · unfold jd_144
      rw [y_ck L 0 11 rfl rfl, Option.bind_some]
      by_cases c1 : 0 ≤ p ∧ p < m 76 1
      · obtain ⟨a, ea, ha, A, X⟩ := c_193 R hp c1.1 c1.2
        rw [ea, b_jtb, c_191n A X h6 hq hx hy (fun h => c ⟨c1, h⟩), b_jtx]
      · rw [c_193n R h6 hp c1, b_jtx]
    · unfold jd_219 jd_219_b35
      rw [hb, Option.bind_some, if_pos (show jw 0 = 0 by decide), Option.bind_some, jms_e, if_neg (by decide)]
      rfl
end Put
