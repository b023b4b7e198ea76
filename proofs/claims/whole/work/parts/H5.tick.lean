/-! tick -/
section Tick
variable {s : hS} {Q : hQ} {hm : hO} {I m : jM} {p : Int} {k : Nat}
theorem c_176s {f ps e v : Int} {a d p' : Nat} {I2 I1 I' : jM} {s' : hS} {Q' : hQ} (L : Lay s Q hm) (F : FilmAt s Q hm a f) (hk : k < 4) (h6 : s.1 ≤ 900000) (h3 : Q (72 + k) 0 = some a) (hd : Q (72 + k) 8 = some d) (eC : jd_112 (72 + k) (hh s Q I) = some (ps, hh s Q I2)) (b8 : 0 ≤ ps) (b9 : ps < 12) (ie' : I2 (a + 6) ps = e) (i7 : I2 (72 + k) 7 = v) (t1 : jd_114 9 (some a) e v (hh s Q I2) = some (p', hh s' Q' I1)) (t2 : jck (hh s' Q' I1) d 6 = some ()) (t3 : jd_102 d (some p') (hh s' Q' I1) = some (hh s' Q' I')) : jd_176 0 (k : Int) (hh s Q I) = some (.inl ps, hh s' Q' I') := by
  obtain ⟨g1, g2, -⟩ := skp hk
  have q0' : Q (72 + k) ((0 : Nat) : Int) = some a := h3
  have q8' : Q (72 + k) ((8 : Nat) : Int) = some d := hd
  have q12 : Q a ((12 : Nat) : Int) = some (a + 6) := F_q F 5 12 rfl rfl
  have q14 : Q 0 ((14 : Nat) : Int) = some 9 := Lq L rfl
  have i7' : I2 (72 + k) ((7 : Nat) : Int) = v := i7
  unfold jd_176 jd_176_b50
  rw [y_ck L 0 11 rfl rfl, Option.bind_some, (c_201 L (by omega) hk).1 (by rw [h3]; simp), b_jtb, y_ck L (72 + k) 7 g1 g2, Option.bind_some, eC, Option.bind_some]
  dsimp only
  rw [n_jw (z := ps) (by omega) (by omega), if_neg (by omega), y_gr L (72 + k) 7 g1 g2, Option.bind_some, q0', Option.bind_some, F_gr F, Option.bind_some, q12, Option.bind_some, F_ai F (by omega) 6 12 rfl rfl rfl b8 (by omega), Option.bind_some, ie', y_gr L (72 + k) 7 g1 g2, Option.bind_some, q8', y_gr L 0 11 rfl rfl, Option.bind_some, q14, Option.bind_some, y_gi L (72 + k) 7 g1 g2, Option.bind_some, i7', Option.bind_some, y_ck L 9 8 rfl rfl, Option.bind_some, t1, Option.bind_some]
  dsimp only
  rw [Option.bind_some, t2, Option.bind_some, t3, Option.bind_some]
theorem si_tick (R : RelH s Q hm I m) (h6 : s.1 ≤ 900000) (hp : okI p) : SimI (jd_176 0 p (hh s Q I)) (jd_359 p m) (fun E => if E = 2 then 1 else if E = 1 then 2 else 0) s Q I := by
  have L := R.1
  have k5 := k_355 hp
  by_cases c : 0 ≤ p ∧ p < 4
  · obtain ⟨k, rfl⟩ : ∃ k : Nat, p = k := ⟨p.toNat, by omega⟩
    have hk : k < 4 := by omega
    obtain ⟨g1, g2, -⟩ := skp hk
    rcases ply_or R hk with ⟨h1, h2⟩ | ⟨a, h1, h2, h3, h4, F, C⟩
    · refine SimI_th (E := 1) (b := 0) R ?_ ?_ (by decide)
      · unfold jd_176
        rw [y_ck L 0 11 rfl rfl, Option.bind_some, (c_201 L (by omega) hk).2 h2, b_jtx]
      · unfold jd_359
        rw [(k_357 R hp).1 k hk rfl h1, Option.bind_some, if_neg (show ¬ jw 1 = 0 by decide)]
        rfl
    · rcases R.2.2.2.2.2.2.2.2.1 k hk with H | ⟨p1, p2, p3, p4, p5, p6, p7, p8, p9, p10, p11, p12, p13, p14, d, hd, hx⟩
      · exact absurd H.1 (by omega)
      obtain ⟨f, hf⟩ : ∃ f, m 141 k = f := ⟨_, rfl⟩
      obtain ⟨rt, hrt⟩ : ∃ x, m 142 k = x := ⟨_, rfl⟩
      obtain ⟨dl, hdl⟩ : ∃ x, m 143 k = x := ⟨_, rfl⟩
      obtain ⟨pr, hpr⟩ : ∃ x, m 144 k = x := ⟨_, rfl⟩
      obtain ⟨st, hst⟩ : ∃ x, m 145 k = x := ⟨_, rfl⟩
      obtain ⟨ps, hps⟩ : ∃ x, m 146 k = x := ⟨_, rfl⟩
      obtain ⟨n, hn⟩ : ∃ x, m 88 f = x := ⟨_, rfl⟩
      obtain ⟨T, hT⟩ : ∃ x, m 87 f = x := ⟨_, rfl⟩
      obtain ⟨W, hW⟩ : ∃ W, W = if pr + rt < n then pr + rt else n := ⟨_, rfl⟩
      have n8 := R.2.2.2.2.2.1.2.2.1
      have a153 := F.1
      rw [hf] at h1 h2 h4 F C p4 p14
      rw [hrt, hdl, hpr, hst, hps, hn, hT] at p14
      obtain ⟨b1, b2, b3, b4, b5, b6, b7, b8, b9, b10, b11, b12⟩ := p14
      have nb : 7 ≤ n ∧ n ≤ 24067 := by rw [← hn]; exact C.2.1.2.2.2.2
      have Tb : 1 ≤ T ∧ T ≤ 12 := by rw [← hT]; exact ⟨C.2.2.2.1.1, C.2.2.2.1.2.1⟩
      have Wb : st ≤ W ∧ W ≤ n := by
        rw [hW]
        split <;> omega
      have hm1 := (k_357 R hp).2.1 k hk rfl (by omega) (by omega)
      have eM := k_359h (M := jms m 76 0 0) (W := W) (f := f) (rt := rt) (dl := dl) (pr := pr) (st := st) (n := n) hk hm1 h1 (by omega) (by rw [jms_o (by decide)]; exact hf) (by rw [jms_o (by decide)]; exact hrt) (by rw [jms_o (by decide)]; exact hdl) (by rw [jms_o (by decide)]; exact hpr) (by rw [jms_o (by decide)]; exact hst) (by rw [jms_o (by decide)]; exact hn) (by omega) (by omega) (by omega) (by omega) (by omega) hW
      have eC := c_112h (W := W) L F hk h3 (C.1.2.2.2.2.2.trans hn) (C.1.2.2.2.2.1.trans hT) (p5.trans hpr) (p11.trans hrt) (p6.trans hps) (p12.trans hdl) (p13.trans hst) (by omega) (by omega) (by omega) (by omega) (by omega) (by omega) (by omega) hW
      obtain ⟨N, hN⟩ : ∃ N, N = gM (jms m 76 0 0) k W dl st n := ⟨_, rfl⟩
      rw [← hN] at eM
      have No : ∀ x : Nat, x ≠ 76 → x ≠ 144 → x ≠ 147 → N x = m x := fun x x1 x2 x3 => by rw [hN, gM_o x2 x3, jms_o x1]
      have N76 : ∀ z : Int, z ≠ 0 → N 76 z = m 76 z := fun z hz => by rw [hN, gM_o (by decide) (by decide), jms_i hz]
      have N0 : N 76 0 = 0 := by rw [hN, gM_o (by decide) (by decide), jms_e]
      have Ni : ∀ (x : Nat) (z : Int), x ≠ 76 → z ≠ k → N x z = m x z := fun x z x1 hz => by rw [hN, gM_i hz, jms_o x1]
      have N4 : N 144 k = W := by rw [hN, gM_4]
      have N7 : N 147 k % 2 = if I (72 + k) 4 % 2 = 1 ∨ dl ≤ W - st ∨ W = n then 1 else 0 := by
        rw [hN, gM_7, jms_o (by decide)]
        by_cases x1 : dl ≤ W - st ∨ W = n
        · rw [if_pos x1, if_pos (Or.inr x1)]
          rfl
        · rw [if_neg x1]
          by_cases x2 : I (72 + k) 4 % 2 = 1
          · rw [if_pos (Or.inl x2), ← p7, x2]
          · rw [if_neg (by omega), ← p7]
            omega
      have hd1 : ∀ {v : Int} {h' : jH}, jd_112 (72 + k) (hh s Q I) = some (v, h') → jw v < 0 → jd_176 0 (k : Int) (hh s Q I) = some (.inl v, h') := fun {v} {h'} e hv => by
        unfold jd_176 jd_176_b50
        rw [y_ck L 0 11 rfl rfl, Option.bind_some, (c_201 L (by omega) hk).1 (by rw [h3]; simp), b_jtb, y_ck L (72 + k) 7 g1 g2, Option.bind_some, e, Option.bind_some]
        exact if_pos hv
      have kp : ∀ {I' : jM}, (∀ b : Nat, b ≠ 72 + k → I' b = I b) → Kp s Q I s Q I' := fun {I'} h a' x1 x2 => ⟨rfl, rfl, rfl, h a' (by omega)⟩
      by_cases cT : ps < T
      · rw [if_pos cT, ← N7] at eC
        by_cases cB : N 147 k % 2 = 0
        · rw [cB, c_112z L hk] at eC
          have io : ∀ b : Nat, b ≠ 72 + k → jms (jms I (72 + k) 2 W) (72 + k) 4 0 b = I b := fun b hb => by rw [jms_o hb, jms_o hb]
          refine Or.inl ⟨-2, -2, s, Q, _, N, hd1 eC (by decide), eM.trans (k_359z hk h1 (by omega) (by rw [No 146 (by decide) (by decide) (by decide)]; exact hps) (by rw [No 87 (by decide) (by decide) (by decide)]; exact hT) ⟨b8, cT⟩ Tb.2 cB), N0, rfl, kp io, Gr_refl, hm, ?_⟩
          refine tk_rel R hk (by omega) io (fun z z1 z2 _ => by rw [jms_i z2, jms_i z1]) ?_ ?_ ?_ (fun x x1 x2 x3 _ => No x x1 x2 x3) N76 Ni ?_ (fun e => ?_)
          · rw [jms_i (by decide), jms_e, N4]
          · rw [jms_e, cB]
            rfl
          · rw [jms_i (by decide), jms_i (by decide), No 148 (by decide) (by decide) (by decide)]
            exact p8
          · rw [hst, N4, hf, hn]
            exact Wb
          · rw [hps, hf, hT] at e
            omega
        · have cB1 : N 147 k % 2 = 1 := by omega
          obtain ⟨e, e0, e1, he, ie, -⟩ := film_k C b8 (by omega)
          have K := C.2.2.2.2 e e0 (by omega)
          have hb := heads_b C e.toNat (by omega)
          rw [Int.toNat_of_nonneg e0, hn] at hb
          have i5 : I (a + 5) e = m 94 (12 * f + e) := K.1.2.2.2.2
          have i4 : I (a + 4) e = m 93 (12 * f + e) := K.1.2.2.2.1
          have zb : 0 ≤ m 93 (12 * f + e) := (C.2.2.2.1.2.2.2.2.2.2.2 e e0 (by omega)).2.2.2.2.1.1
          obtain ⟨J, hJ⟩ : ∃ J, J = jms I (72 + k) 2 W := ⟨_, rfl⟩
          have ja : ∀ b : Nat, 153 ≤ b → J b = I b := fun b hb => by rw [hJ, jms_o (by omega)]
          have j2 : J (72 + k) 2 = W := by rw [hJ, jms_e]
          have jo : ∀ z : Int, z ≠ 2 → J (72 + k) z = I (72 + k) z := fun z hz => by rw [hJ, jms_i hz]
          rw [cB1, ← hJ, c_112o (I := J) (W := W) (ps := ps) (e := e) L (by omega) F hk h3 (by rw [jo 3 (by decide)]; exact p6.trans hps) j2 (by omega) (by rw [ja _ (by omega)]; exact ie) (by omega) (by omega) (by rw [ja _ (by omega), ja _ (by omega), i4, i5]; omega), ja _ (by omega), ja _ (by omega), i4, i5] at eC
          have h318 : jd_318 f ps N = some (12 * f + e) := k_318f R C ⟨h1, h2⟩ b8 (by omega) e0 (by omega) he (No 91 (by decide) (by decide) (by decide))
          have n94 : N 94 = m 94 := No 94 (by decide) (by decide) (by decide)
          have n93 : N 93 = m 93 := No 93 (by decide) (by decide) (by decide)
          have n146 : N 146 k = ps := by rw [No 146 (by decide) (by decide) (by decide)]; exact hps
          have n87 : N 87 f = T := by rw [No 87 (by decide) (by decide) (by decide)]; exact hT
          by_cases cE : m 94 (12 * f + e) + 5 + m 93 (12 * f + e) ≤ W
          · rw [if_pos cE] at eC
            obtain ⟨I2, hI2⟩ : ∃ I2, I2 = jms (jms (jms J (72 + k) 4 1) (72 + k) 6 ps) (72 + k) 3 (ps + 1) := ⟨_, rfl⟩
            rw [← hI2] at eC
            have io : ∀ b : Nat, b ≠ 72 + k → I2 b = I b := fun b hb => by rw [hI2, jms_o hb, jms_o hb, jms_o hb, hJ, jms_o hb]
            have ik : ∀ z : Int, z ≠ 2 → z ≠ 3 → z ≠ 4 → z ≠ 6 → I2 (72 + k) z = I (72 + k) z := fun z z2 z3 z4 z6 => by rw [hI2, jms_i z3, jms_i z6, jms_i z4, jo z z2]
            have x2 : I2 (72 + k) 2 = W := by rw [hI2, jms_i (by decide), jms_i (by decide), jms_i (by decide)]; exact j2
            have x3 : I2 (72 + k) 3 = ps + 1 := by rw [hI2, jms_e]
            have x4 : I2 (72 + k) 4 = 1 := by rw [hI2, jms_i (by decide), jms_i (by decide), jms_e]
            have x6 : I2 (72 + k) 6 = ps := by rw [hI2, jms_i (by decide), jms_e]
            have S : Sm (fun o => o ≠ 1072 + (k : Int) ∧ o ≠ 450 + (k : Int)) s Q hm I s Q hm I2 := Sm_I (fun b _ hb => io b (fun e => hb.1 (by rw [e, Lo L g1]; omega)))
            have RY : RelY k s Q hm I2 N := RelY_ply (RelY_H R) hk S L ⟨⟨N76 _ (by decide), N76 _ (by decide), N76 _ (by decide), N76 _ (by decide), N76 _ (by decide), N76 _ (by decide), N76 _ (by decide), N76 _ (by decide)⟩, fun x hx => No x (by omega) (by omega) (by omega), fun x h1 h2 z hz => Ni x z (by omega) hz, fun z hz => by rw [No 151 (by decide) (by decide) (by decide)]⟩ (R.2.2.2.2.2.2.2.2.2.2.2 k hk)
            have no : ∀ x : Nat, x ≠ 76 → x ≠ 144 → x ≠ 147 → N x k = m x k := fun x h1 h2 h3 => by rw [No x h1 h2 h3]
            have n142 := no 142 (by decide) (by decide) (by decide)
            have n143 := no 143 (by decide) (by decide) (by decide)
            have n145 := no 145 (by decide) (by decide) (by decide)
            have n88 : N 88 f = n := by rw [No 88 (by decide) (by decide) (by decide)]; exact hn
            obtain ⟨p', s', Q', I1, I', M, m', fr, t1, t2, t3, t4, t5, t6, t7, t8, t9, t10, t11⟩ := tk_show (e := e) (ps := ps) (d := d) (v := N 150 k) RY h6 hk h1 (by rw [N76 12 (by decide)]; exact h2) h4 h3 hd e0 (by omega) rfl (by rw [ik 1 (by decide) (by decide) (by decide) (by decide)]; exact p4) (x2.trans N4.symm) x3 (by rw [x4, cB1]; rfl) (by rw [ik 5 (by decide) (by decide) (by decide) (by decide), no 148 (by decide) (by decide) (by decide)]; exact p8) x6 (by rw [ik 7 (by decide) (by decide) (by decide) (by decide), no 150 (by decide) (by decide) (by decide)]; exact p10) (by rw [ik 9 (by decide) (by decide) (by decide) (by decide), n142]; exact p11) (by rw [ik 10 (by decide) (by decide) (by decide) (by decide), n143]; exact p12) (by rw [ik 11 (by decide) (by decide) (by decide) (by decide), n145]; exact p13) (by rw [no 141 (by decide) (by decide) (by decide)]; exact hf) (by rw [n142, n143, n145, hrt, hdl, hst, N4, n88]; omega) (by omega) cB1
            have eC2 : jd_176 0 (k : Int) (hh s Q I) = some (.inl ps, hh s' Q' I') := c_176s L F hk h6 h3 hd eC b8 (by omega) (by rw [io _ (by omega)]; exact ie) (by rw [no 150 (by decide) (by decide) (by decide), ← p10]; exact ik 7 (by decide) (by decide) (by decide) (by decide)) t1 t2 t3
            refine Or.inl ⟨ps, ps, s', Q', I', tkM m' k e ps, eC2, eM.trans (k_359y (W := W) (T := T) hk h1 (by omega) n146 n87 ⟨b8, cT⟩ Tb.2 cB1 h318 (by omega) N4 (by omega) (by rw [n94, n93]; omega) (by rw [n94, n93]; exact cE) t4 t5 t6 (t7.trans n146)), t9.trans N0, rfl, fun a' y1 y2 => ?_, t11, t8⟩
            obtain ⟨w1, w2, w3, w4⟩ := t10 a' y1 y2
            exact ⟨w1, w2, w3, w4.trans (io a' (by omega))⟩
          · rw [if_neg cE] at eC
            have io : ∀ b : Nat, b ≠ 72 + k → jms (jms J (72 + k) 4 1) (72 + k) 5 (J (72 + k) 5 + 1) b = I b := fun b hb => by rw [jms_o hb, jms_o hb, hJ, jms_o hb]
            refine Or.inl ⟨-1, -1, s, Q, _, _, hd1 eC (by decide), eM.trans (k_359n (W := W) (T := T) hk h1 (by omega) n146 n87 ⟨b8, cT⟩ Tb.2 cB1 h318 (by omega) N4 (by omega) (by rw [n94, n93]; omega) (by rw [n94, n93]; exact cE)), (by rw [jms_o (by decide)]; exact N0), rfl, kp io, Gr_refl, hm, ?_⟩
            refine tk_rel R hk (by omega) io (fun z z1 z2 z5 => by rw [jms_i z5, jms_i z2, jo z z1]) ?_ ?_ ?_ (fun x x1 x2 x3 x4 => by rw [jms_o x4]; exact No x x1 x2 x3) (fun z hz => by rw [jms_o (by decide)]; exact N76 z hz) (fun x z x1 hz => ?_) ?_ (fun e => ?_)
            · rw [jms_i (by decide), jms_i (by decide), jms_o (by decide), j2, N4]
            · rw [jms_i (by decide), jms_e, jms_o (by decide), cB1]
              rfl
            · rw [jms_e, jms_e, jo 5 (by decide), No 148 (by decide) (by decide) (by decide), p8]
            · by_cases xx : x = 148
              · rw [xx, jms_i hz]
                exact Ni 148 z (by decide) hz
              · rw [jms_o xx]
                exact Ni x z x1 hz
            · rw [hst, jms_o (by decide), N4, hf, hn]
              exact Wb
            · rw [jms_o (by decide)]
              exact cB1
      · rw [if_neg cT] at eC
        have io : ∀ b : Nat, b ≠ 72 + k → jms I (72 + k) 2 W b = I b := fun b hb => by rw [jms_o hb]
        have pT : ps = T := by omega
        refine Or.inl ⟨-3, -3, s, Q, _, N, hd1 eC (by decide), eM.trans (k_359t (ps := ps) hk h1 (by omega) (by rw [No 146 (by decide) (by decide) (by decide)]; exact hps) (by rw [No 87 (by decide) (by decide) (by decide), hT, pT])), N0, rfl, kp io, Gr_refl, hm, ?_⟩
        have q7 : I (72 + k) 4 % 2 = 1 := by rw [p7]; exact b10 pT
        have n7 : N 147 k % 2 = 1 := by rw [N7, if_pos (Or.inl q7)]
        refine tk_rel R hk (by omega) io (fun z z1 z2 _ => by rw [jms_i z1]) ?_ ?_ ?_ (fun x x1 x2 x3 _ => No x x1 x2 x3) N76 Ni ?_ (fun e => n7)
        · rw [jms_e, N4]
        · rw [jms_i (by decide), n7, q7]
        · rw [jms_i (by decide), No 148 (by decide) (by decide) (by decide)]
          exact p8
        · rw [hst, N4, hf, hn]
          exact Wb
  · refine SimI_th (E := 2) (b := 0) R ?_ ?_ (by decide)
    · unfold jd_176 jd_201
      rw [y_ck L 0 11 rfl rfl, Option.bind_some, Option.bind_some, c_200n (by omega) hp c, b_jtx, b_jtx]
    · unfold jd_359
      rw [(k_357 R hp).2.2 c, Option.bind_some, if_neg (show ¬ jw 1 = 0 by decide)]
      rfl
end Tick
