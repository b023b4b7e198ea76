/-! frame, play -/
section Frame
variable {s : hS} {Q : hQ} {hm : hO} {I m : jM} {a k : Nat} {f p q x y v z : Int}
theorem si_frame (R : RelH s Q hm I m) (h6 : s.1 < 1000000) (hp : okI p) (hq : okI q) (hx : okI x) (hy : okI y) : SimI (jd_180 0 p q x y (hh s Q I)) (jd_363 p q x y m) (fun E => if E = 2 then 1 else if E = 1 then 2 else 0) s Q I := by
  have L := R.1
  have n8 := R.2.2.2.2.2.1.2.2.1
  have hx' : -2147483648 ≤ x ∧ x < 2147483648 := hx
  have hy' : -2147483648 ≤ y ∧ y < 2147483648 := hy
  have k5 := k_355 hp
  have b0 : ∀ c : Int, c = 1 ∨ c = 2 → jd_363_b20 p q x y c m = some (0, jms m 76 0 c) := by
    intro c hc
    unfold jd_363_b20
    rcases hc with rfl | rfl
    · rw [Option.bind_some, jms_e, if_neg (by decide)]
    · rw [Option.bind_some, jms_e, if_neg (by decide)]
  by_cases c : 0 ≤ p ∧ p < 4
  · rw [if_pos c] at k5
    obtain ⟨k, rfl⟩ : ∃ k : Nat, p = k := ⟨p.toNat, by omega⟩
    have hk : k < 4 := by omega
    obtain ⟨g1, g2, -⟩ := skp hk
    have z0 : (0 : Int) ≤ (k : Int) := by omega
    have z1 : (k : Int) < ((4 : Nat) : Int) := by omega
    by_cases c2 : 0 ≤ q ∧ q ≤ 2
    · have pM : jd_363 (k : Int) q x y m = jd_363_b20 (k : Int) q x y 0 m := by
        unfold jd_363
        rw [k5, if_neg (by decide), k_211 hq, if_pos c2, if_neg (by decide)]
      have e31 : ∀ (w c d : Int), c = 1 ∨ c = 2 → jd_363_b131 (k : Int) q x y w c (jms m 76 0 d) = some (0, jms m 76 0 c) := by
        intro w c d hc
        unfold jd_363_b131 jd_363_b177
        rw [Option.bind_some, jms_e, jms_jms]
        rcases hc with rfl | rfl
        · rw [if_neg (by decide)]
        · rw [if_neg (by decide)]
      rcases R.2.2.2.2.2.2.2.2.1 k hk with ⟨h1, h2⟩ | ⟨p1, p2, p3, p4, p5, p6, p7, p8, p9, p10, p11, p12, p13, p14, d, hd, hX⟩
      · refine SimI_th (E := 1) (b := 0) R ?_ ?_ (by decide)
        · unfold jd_180
          rw [y_ck L 0 11 rfl rfl, Option.bind_some, c_200 L hk, b_jtb, (c_186 hq _).1 c2, b_jtb, (c_190 L h6 hk).2 h2, b_jtx]
        · rw [pM]
          unfold jd_363_b20 jd_363_b98
          have q1 : jms m 76 0 0 141 (k : Int) = -1 := h1
          rw [Option.bind_some, jms_e, if_pos (by decide), y_ma 141 4 rfl rfl z0 z1, Option.bind_some, q1, if_pos (show jw (-1) = -1 by decide), if_neg (show ¬ jw 1 = 0 by decide), if_pos (show jw (-1) = -1 by decide), e31 _ _ _ (Or.inr rfl)]
          rfl
      · obtain ⟨a, ha, F, C⟩ := film_c R ⟨p1, p2⟩
        have n1 := C.2.2.2.1.1
        obtain ⟨d0, hd0, X0⟩ := (C.2.2.2.2 0 (by decide) (by omega)).2.2.2.2.2.2.2.2.1
        have D0 := F.2.2.2.2 0 (by decide) (by decide) d0 hd0
        have D := R.2.2.2.2.2.2.2.2.2.2.2 k hk d hd
        have h30 : Q (72 + k) ((0 : Nat) : Int) = some a := p3.trans ha
        have e9 : I (72 + k) ((6 : Nat) : Int) = m 149 k := p9
        have bw := pw_sd C.2.1.1 q
        have bh := pw_sd C.2.1.2.1 q
        have nk := n_jw (z := m 141 k) (by omega) (by omega)
        have l149 := p14.2.2.2.2.2.2.2.2.2.2.1
        have l149' := p14.2.2.2.2.2.2.2.2.2.2.2
        have n12 := C.2.2.2.1.2.1
        have nl := n_jw (z := m 149 k) (by omega) (by omega)
        have preC : jd_180 0 (k : Int) q x y (hh s Q I) = jtb (jd_191 (some d0) q x y (hh s Q I)) fun v30 h32 => ((jgi h32 (72 + k) 7 6).bind fun v33 => (if 0 ≤ (jw v33) then ((jgr h32 (72 + k) 7 8).bind fun r36 => ((r36).bind fun a38 => ((jgr h32 a38 6 2).bind fun r40 => ((r40).bind fun a42 => ((jai h32 a42 v30).bind fun v44 => some (.inl v44, h32)))))) else ((j6 h32).bind fun u46 => some (.inr 1, jth h32 1)))) := by
          unfold jd_180
          rw [y_ck L 0 11 rfl rfl, Option.bind_some, c_200 L hk, b_jtb, (c_186 hq _).1 c2, b_jtb, (c_190 L h6 hk).1 (by rw [p3, ha]; simp), b_jtb, y_gr L (72 + k) 7 g1 g2, Option.bind_some, h30, Option.bind_some, F_gr F, Option.bind_some, F_q F 8 15 rfl rfl, Option.bind_some, F_ar F (by decide) (by decide), Option.bind_some, hd0]
        have i84 : jms m 76 0 0 84 (m 141 k) = m 84 (m 141 k) := rfl
        have i85 : jms m 76 0 0 85 (m 141 k) = m 85 (m 141 k) := rfl
        have preM : jd_363 (k : Int) q x y m = jd_363_b98 (k : Int) q x y (m 141 k) (if (0 ≤ x ∧ x < pw (m 84 (m 141 k)) q) ∧ 0 ≤ y ∧ y < pw (m 85 (m 141 k)) q then 1 else 0) (jms m 76 0 0) := by
          rw [pM]
          unfold jd_363_b20
          have q1 : jms m 76 0 0 141 (k : Int) = m 141 k := rfl
          rw [Option.bind_some, jms_e, if_pos (by decide), y_ma 141 4 rfl rfl z0 z1, Option.bind_some, q1, nk, if_neg (by omega), y_ma 84 8 rfl rfl p1 (by omega), Option.bind_some, i84, k_206 hq C.2.1.1, n_jw hx.1 hx.2, n_jw (z := pw (m 84 (m 141 k)) q - 1) (by omega) (by omega), x_in (by omega) (by omega) (by decide) (by decide) (by omega) (by omega)]
          by_cases d1 : 0 ≤ x ∧ x < pw (m 84 (m 141 k)) q
          · rw [if_pos (show 0 ≤ x ∧ x ≤ pw (m 84 (m 141 k)) q - 1 by omega), if_neg (by decide), y_ma 85 8 rfl rfl p1 (by omega), Option.bind_some, i85, k_206 hq C.2.1.2.1, n_jw hy.1 hy.2, n_jw (z := pw (m 85 (m 141 k)) q - 1) (by omega) (by omega), x_in (by omega) (by omega) (by decide) (by decide) (by omega) (by omega)]
            by_cases d2 : 0 ≤ y ∧ y < pw (m 85 (m 141 k)) q
            · rw [if_pos (show 0 ≤ y ∧ y ≤ pw (m 85 (m 141 k)) q - 1 by omega), if_neg (by decide), if_pos ⟨d1, d2⟩]
            · rw [if_neg (show ¬ (0 ≤ y ∧ y ≤ pw (m 85 (m 141 k)) q - 1) by omega), if_pos rfl, if_neg (fun e => d2 e.2)]
          · rw [if_neg (show ¬ (0 ≤ x ∧ x ≤ pw (m 84 (m 141 k)) q - 1) by omega), if_pos rfl, if_neg (fun e => d1 e.1)]
        by_cases c3 : (0 ≤ x ∧ x < pw (m 84 (m 141 k)) q) ∧ 0 ≤ y ∧ y < pw (m 85 (m 141 k)) q
        · rw [if_pos c3] at preM
          have ps := pl_sz C.2.1.1 C.2.1.2.1 c2.1 c2.2
          have db := dm_b c3.2.1 c3.2.2 c3.1.1 c3.1.2
          have q149 : jms m 76 0 0 149 (k : Int) = m 149 k := rfl
          by_cases c4 : 0 ≤ m 149 k
          · have X := hX c4
            refine SimI_id (v := m 151 (864 * (k : Int) + (pf q + (y * pw (m 84 (m 141 k)) q + x)))) (b := m 151 (864 * (k : Int) + (pf q + (y * pw (m 84 (m 141 k)) q + x)))) R ?_ ?_ rfl
            · have h8 : Q (72 + k) ((8 : Nat) : Int) = some d := hd
              have e2 : Q d ((2 : Nat) : Int) = some (d + 1) := D.2.2.2
              rw [preC, c_191 D0 X0 hq hx hy c2 c3.1 c3.2, b_jtb, y_gi L (72 + k) 7 g1 g2, Option.bind_some, e9, nl, if_pos c4, y_gr L (72 + k) 7 g1 g2, Option.bind_some, h8, Option.bind_some, x_gr D.2.1.1 D.2.1.2.1, Option.bind_some, e2, Option.bind_some, x_ai D.2.2.1.1 (by omega) D.2.2.1.2.1 (by omega) (by rw [D.2.2.1.2.2.1]; omega) (by rw [D.2.2.1.2.2.1]; decide), Option.bind_some]
              have := (X.2.2.2.2 q (y * pw (m 84 (m 141 k)) q + x) c2.1 c2.2 db.1 db.2).1
              rw [show pb (m 84 (m 141 k)) (m 85 (m 141 k)) q + y * pw (m 84 (m 141 k)) q + x = pb (m 84 (m 141 k)) (m 85 (m 141 k)) q + (y * pw (m 84 (m 141 k)) q + x) by omega, this]
            · rw [preM]
              unfold jd_363_b98
              rw [if_neg (show ¬ jw 1 = 0 by decide), nk, if_neg (by omega), y_ma 149 4 rfl rfl z0 z1, Option.bind_some, q149, nl, if_neg (by omega)]
              unfold jd_363_b131 jd_363_b177
              have i84' : ∀ c : Int, jms (jms m 76 0 0) 76 0 c 84 (m 141 k) = m 84 (m 141 k) := fun _ => rfl
              rw [Option.bind_some, jms_e, if_pos (by decide), y_ma 84 8 rfl rfl p1 (by omega), Option.bind_some, i84', k_206 hq C.2.1.1, k_207 hq, y_ma 151 3456 rfl rfl (by omega) (by omega), Option.bind_some, jms_jms, show 864 * (k : Int) + pf q + y * pw (m 84 (m 141 k)) q + x = 864 * (k : Int) + (pf q + (y * pw (m 84 (m 141 k)) q + x)) by omega]
              rfl
          · refine SimI_th (E := 1) (b := 0) R ?_ ?_ (by decide)
            · rw [preC, c_191 D0 X0 hq hx hy c2 c3.1 c3.2, b_jtb, y_gi L (72 + k) 7 g1 g2, Option.bind_some, e9, nl, if_neg c4, x_6 h6, Option.bind_some]
            · rw [preM]
              unfold jd_363_b98
              rw [if_neg (show ¬ jw 1 = 0 by decide), nk, if_neg (by omega), y_ma 149 4 rfl rfl z0 z1, Option.bind_some, q149, nl, if_pos (by omega), e31 _ _ _ (Or.inr rfl)]
              rfl
        · rw [if_neg c3] at preM
          refine SimI_th (E := 2) (b := 0) R ?_ ?_ (by decide)
          · rw [preC, c_191n D0 X0 h6 hq hx hy (fun e => c3 e.2), b_jtx]
          · rw [preM]
            unfold jd_363_b98
            rw [if_pos (show jw 0 = 0 by decide), e31 _ _ _ (Or.inl rfl)]
            rfl
    · refine SimI_th (E := 2) (b := 0) R ?_ ?_ (by decide)
      · unfold jd_180
        rw [y_ck L 0 11 rfl rfl, Option.bind_some, c_200 L hk, b_jtb, (c_186 hq _).2 c2 h6, b_jtx]
      · unfold jd_363
        rw [k5, if_neg (by decide), k_211 hq, if_neg c2, if_pos rfl, b0 1 (Or.inl rfl)]
        rfl
  · rw [if_neg c] at k5
    refine SimI_th (E := 2) (b := 0) R ?_ ?_ (by decide)
    · unfold jd_180
      rw [y_ck L 0 11 rfl rfl, Option.bind_some, c_200n h6 hp c, b_jtx]
    · unfold jd_363
      rw [k5, if_pos rfl, b0 1 (Or.inl rfl)]
      rfl
end Frame
