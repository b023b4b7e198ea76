/-! a plane of runs -/
section RunP
variable {s : hS} {Q : hQ} {hm : hO} {I m : jM} {A p : Nat} {base en w h k pl ak : Int} {an : Option Nat}
theorem b142_br {m : jM} {f th way len W N b : Int} (hb : m 76 52 = f) (f0 : 1 ≤ f) (f1 : f ≤ 7) (l0 : 0 ≤ len) (l1 : len < 100000) : jd_276_b142 k pl W N b th way len m = some (.inl (th, m)) := by
  have ML : jd_276_l169 k pl W N b way len 0 th 0 m = some (.inr (th, m)) := by
    unfold jd_276_l169
    refine jlp_1 (f := fun u : (Int × Int × jM) => jd_276_s169 k pl W N b way len 0 u.1 u.2.1 u.2.2) (t := (th, 0, m)) ?_ _
    dsimp only
    unfold jd_276_s169
    rw [n_jw (z := len) (by omega) (by omega), n_jw (z := 0) (by decide) (by decide)]
    by_cases c : len ≤ 0
    · rw [if_pos c]
    · rw [if_neg c, if_neg (br_0 hb f0 f1)]
  unfold jd_276_b142 jd_276_b163 jd_276_b164
  rw [if_neg (br_0 hb f0 f1), ML, Option.bind_some, jse_r]
theorem b106_br {m : jM} {f th way y0 W N b : Int} (hb : m 76 52 = f) (f0 : 1 ≤ f) (f1 : f ≤ 7) (l0 : 0 ≤ y0) (l1 : y0 < 100000) : jd_276_b106 k pl W N b th way y0 m = some (.inl (th, m)) := by
  unfold jd_276_b106
  rw [if_neg (br_0 hb f0 f1)]
  exact b142_br hb f0 f1 l0 l1
theorem b89_br {m : jM} {f th way W N b : Int} (hb : m 76 52 = f) (f0 : 1 ≤ f) (f1 : f ≤ 7) : jd_276_b89 k pl W N b th way m = some (.inl (th, m)) := by
  unfold jd_276_b89
  rw [if_neg (br_0 hb f0 f1)]
  exact b106_br hb f0 f1 (by decide) (by decide)
theorem b84_br {m : jM} {th way W N b : Int} (hb : m 76 52 = 0) : jd_276_b84 k pl W N b th way m = some (.inl (th, jms m 76 52 2)) := by
  unfold jd_276_b84 jd_231 jd_231_b12
  rw [if_pos (show jw (m 76 52) = 0 by rw [hb]; rfl), Option.bind_some, Option.bind_some]
  exact b89_br jms_e (by decide) (by decide)
theorem b137_br {m : jM} {th way len W N b : Int} (hb : m 76 52 = 0) (l0 : 0 ≤ len) (l1 : len < 100000) : jd_276_b137 k pl W N b th way len m = some (.inl (th, jms m 76 52 4)) := by
  unfold jd_276_b137 jd_231 jd_231_b12
  rw [if_pos (show jw (m 76 52) = 0 by rw [hb]; rfl), Option.bind_some, Option.bind_some]
  exact b142_br jms_e (by decide) (by decide) l0 l1
theorem s36_br {m : jM} {f z W N b : Int} (hb : m 76 52 = f) (f0 : 1 ≤ f) (f1 : f ≤ 7) : jd_276_s36 k pl W N b z m = some (.inr (.inr m)) := by
  unfold jd_276_s36
  by_cases c : jw N ≤ jw z
  · rw [if_pos c]
  · rw [if_neg c, if_neg (br_0 hb f0 f1)]
/-- what the class's plane gives back -/
def rdX (x : jH ⊕ (jH ⊕ (jH ⊕ (jH ⊕ ((Int × jH) ⊕ jH))))) : Option (Int × jH) := jse x (fun y51 => (((some 10 : Option Nat)).bind fun a53 => ((jgi y51 a53 0 3).bind fun v55 => some (v55, y51)))) (fun y52 => jse y52 (fun y57 => some (2, y57)) (fun y58 => jse y58 (fun y59 => (((some 10 : Option Nat)).bind fun a61 => ((jgi y59 a61 0 3).bind fun v63 => some (v63, y59)))) (fun y60 => jse y60 (fun y65 => some (4, y65)) (fun y66 => jse y66 (fun y67 => some (y67.1, y67.2)) (fun y68 => some (0, y68))))))
def pPost (s : hS) (Q : hQ) (I m : jM) (A p : Nat) (base en w h k pl : Int) (x : jH ⊕ (jH ⊕ (jH ⊕ (jH ⊕ ((Int × jH) ⊕ jH))))) (y : jM ⊕ jM) : Prop := ∃ f I' m' th, RS p w h k pl th I m I' m' ∧ 0 ≤ th ∧ th ≤ pw w pl * pw h pl ∧ (y = .inl m' ∨ y = .inr m') ∧ m' 76 52 = f ∧ 0 ≤ f ∧ f ≤ 7 ∧ (f = 0 → th = pw w pl * pw h pl ∧ ∃ i', BM s Q I' m' 10 A base i' en) ∧ rdX x = some (f, hh s Q I')
theorem runp_l (L : Lay s Q hm) (h6 : s.1 ≤ 1000000) (P : PcC s Q p) (hw : I p 0 = w) (hv : I p 1 = h) (sw : isSd w) (sh : isSd h) (p0 : 0 ≤ pl) (p2 : pl ≤ 2) (k0 : 0 ≤ k) (k1 : k < 12) (N : An s Q I m p w h k an ak) {I1 m1 : jM} {i : Int} (S : RS p w h k pl 0 I m I1 m1) (R : BM s Q I1 m1 10 A base i en) : ∃ x y, jd_124_l25 24 (some 10) (some p) pl an (pw w pl) (pw w pl * pw h pl) 0 (hh s Q I1) = some x ∧ jd_276_l36 k pl (pw w pl) (pw w pl * pw h pl) (864 * k + pf pl) 0 m1 = some y ∧ pPost s Q I m A p base en w h k pl x y := by
  have ps := pl_sz sw sh p0 p2
  have bw := pw_sd sw pl
  have g3 : ∀ (J : jM) z, J 10 3 = z → jgi (hh s Q J) 10 0 3 = some z := fun J z hz => by rw [y_gi L 10 0 rfl rfl]; exact congrArg some hz
  unfold jd_124_l25 jd_276_l36
  refine w_lp3 (Q := pPost s Q I m A p base en w h k pl) (fun n u t => ∃ th I' m' i', u = ((n : Int), hh s Q I') ∧ t = (th, m') ∧ RS p w h k pl th I m I' m' ∧ BM s Q I' m' 10 A base i' en ∧ (n : Int) ≤ th ∧ th ≤ pw w pl * pw h pl) (pw w pl * pw h pl).toNat (fun n u t hn hu => ?_) (n_fu (by omega)) (n_fu (by omega)) ⟨0, I1, m1, i, rfl, rfl, S, R, by omega, by omega⟩
  obtain ⟨th, I', m', i', rfl, rfl, S', R', nt, tN⟩ := hu
  have i24 : I' 24 ((0 : Nat) : Int) = th := S'.2.2.1
  dsimp only
  by_cases c : pw w pl * pw h pl ≤ th
  · right
    refine ⟨.inr (.inr (.inr (.inr (.inr (hh s Q I'))))), .inr m', ?_, fun e => ?_, 0, I', m', th, S', by omega, tN, Or.inr rfl, R'.2.1.1, by decide, by decide, fun _ => ⟨by omega, i', R'⟩, ?_⟩
    · unfold jd_124_s25
      rw [n_jw (z := pw w pl * pw h pl) (by omega) (by omega), n_jw (z := (n : Int)) (by omega) (by omega)]
      by_cases d : pw w pl * pw h pl ≤ (n : Int)
      · rw [if_pos d]
      · rw [if_neg d, y_gi L 24 9 rfl rfl, Option.bind_some, i24, n_jw (z := th) (by omega) (by omega), if_pos c]
    · refine jlp_1 (e := e + 1) ?_
      unfold jd_276_s36
      exact if_pos (by rw [n_jw (by omega) (by omega), n_jw (by omega) (by omega)]; exact c)
    · unfold rdX
      rw [jse_r, jse_r, jse_r, jse_r, jse_r]
  · obtain ⟨C, hC⟩ : ∃ C, jd_124_s25 24 (some 10) (some p) pl an (pw w pl) (pw w pl * pw h pl) (n : Int) (hh s Q I') = C := ⟨_, rfl⟩
    obtain ⟨M, hM⟩ : ∃ M, jd_276_s36 k pl (pw w pl) (pw w pl * pw h pl) (864 * k + pf pl) th m' = M := ⟨_, rfl⟩
    -- both sides failed: the model goes round once more
    have bad : ∀ (f : Int) (J mm : jM) (x : jH ⊕ (jH ⊕ (jH ⊕ (jH ⊕ ((Int × jH) ⊕ jH))))) (th' : Int), C = some (.inr x) → ((∃ z, M = some (.inl (z, mm))) ∨ M = some (.inr (.inl mm))) → RS p w h k pl th' I m J mm → 0 ≤ th' → th' ≤ pw w pl * pw h pl → mm 76 52 = f → 1 ≤ f → f ≤ 7 → rdX x = some (f, hh s Q J) → ((∃ s' t', C = some (Sum.inl s') ∧ jd_276_s36 k pl (pw w pl) (pw w pl * pw h pl) (864 * k + pf pl) th m' = some (Sum.inl t') ∧ n < (pw w pl * pw h pl).toNat ∧ ∃ th I' m' i', s' = (((n + 1 : Nat) : Int), hh s Q I') ∧ t' = (th, m') ∧ RS p w h k pl th I m I' m' ∧ BM s Q I' m' 10 A base i' en ∧ ((n + 1 : Nat) : Int) ≤ th ∧ th ≤ pw w pl * pw h pl) ∨ (∃ x y, C = some (Sum.inr x) ∧ (∀ e, jlp (fun u : (Int × jM) => jd_276_s36 k pl (pw w pl) (pw w pl * pw h pl) (864 * k + pf pl) u.1 u.2) (e + 2) (th, m') = some y) ∧ pPost s Q I m A p base en w h k pl x y)) := by
      intro f J mm x th' hc hm' S2 t0 t1 hb f0 f1 hr
      right
      rcases hm' with ⟨z, hm'⟩ | hm'
      · exact ⟨x, .inr mm, hc, fun e => jlp_2 (f := fun u : (Int × jM) => jd_276_s36 k pl (pw w pl) (pw w pl * pw h pl) (864 * k + pf pl) u.1 u.2) (t := (th, m')) (t' := (z, mm)) (hM.trans hm') (s36_br hb f0 f1) e, f, J, mm, th', S2, t0, t1, Or.inr rfl, hb, by omega, f1, fun hf => absurd hf (by omega), hr⟩
      · exact ⟨x, .inl mm, hc, fun e => jlp_1 (f := fun u : (Int × jM) => jd_276_s36 k pl (pw w pl) (pw w pl * pw h pl) (864 * k + pf pl) u.1 u.2) (t := (th, m')) (hM.trans hm') (e + 1), f, J, mm, th', S2, t0, t1, Or.inl rfl, hb, by omega, f1, fun hf => absurd hf (by omega), hr⟩
    rw [hC]
    have hC0 := hC
    have hM0 := hM
    unfold jd_124_s25 at hC0
    unfold jd_276_s36 at hM0
    rw [n_jw (z := pw w pl * pw h pl) (by omega) (by omega), n_jw (z := (n : Int)) (by omega) (by omega), if_neg (by omega), y_gi L 24 9 rfl rfl, Option.bind_some, i24, n_jw (z := th) (by omega) (by omega), if_neg c, Option.bind_some, y_ck L 10 0 rfl rfl, Option.bind_some] at hC0
    rw [n_jw (z := pw w pl * pw h pl) (by omega) (by omega), n_jw (z := th) (by omega) (by omega), if_neg c, if_pos (BM_b0 R')] at hM0
    rcases code2 R' with ⟨v, j, e1, e2, v0, v1, j0, j1, R2⟩ | ⟨f, v, j, j', hf, v0, v1, e1, e2⟩
    · have S2 := RS_b (x := 8 * base + j) (y := j) P S'
      rw [e1, Option.bind_some] at hC0
      rw [e2, Option.bind_some] at hM0
      dsimp only at hC0 hM0
      rw [n_jw (z := v) (by omega) (by omega), if_pos v0] at hC0
      rw [n_jw (z := v) (by omega) (by omega), if_pos (BM_b0 R2)] at hM0
      have k102 : jms m' 76 51 j 102 = m 102 := (jms_o (by decide)).trans (S'.2.1.1 102 (by decide) (by decide))
      by_cases c3 : 3 < v
      · rw [if_pos c3] at hC0
        rw [if_pos c3, b84_br R2.2.1.1] at hM0
        exact bad 2 _ _ _ th hC0.symm (Or.inl ⟨th, hM0.symm⟩) (RS_g S2) (by omega) tN jms_e (by decide) (by decide) (by unfold rdX; rw [jse_r, jse_l])
      · rw [if_neg c3] at hC0 hM0
        have key : ¬ (v = 1 ∧ an = none) → C = jd_124_b76 24 (some 10) (some p) pl an (pw w pl) (pw w pl * pw h pl) (n : Int) v (hh s Q (jms I' 10 1 (8 * base + j))) ∧ M = jd_276_b89 k pl (pw w pl) (pw w pl * pw h pl) (864 * k + pf pl) th v (jms m' 76 51 j) := fun hn1 => by
          by_cases d1 : v = 1
          · have na : ¬ an = none := fun e => hn1 ⟨d1, e⟩
            rcases N with ⟨en', -⟩ | ⟨b, eb, kk, -⟩
            · exact absurd en' na
            · rw [if_pos d1, if_neg na] at hC0
              rw [if_pos d1, y_ma 102 12 rfl rfl k0 k1, Option.bind_some, k102, kk, if_neg (by decide)] at hM0
              exact ⟨hC0.symm, hM0.symm⟩
          · rw [if_neg d1] at hC0 hM0
            exact ⟨hC0.symm, hM0.symm⟩
        by_cases d1 : v = 1 ∧ an = none
        · rcases N with ⟨-, kk⟩ | ⟨b, eb, -⟩
          · rw [if_pos d1.1, if_pos d1.2] at hC0
            rw [if_pos d1.1, y_ma 102 12 rfl rfl k0 k1, Option.bind_some, k102, kk, if_pos (by decide), b84_br R2.2.1.1] at hM0
            exact bad 2 _ _ _ th hC0.symm (Or.inl ⟨th, hM0.symm⟩) (RS_g S2) (by omega) tN jms_e (by decide) (by decide) (by unfold rdX; rw [jse_r, jse_l])
          · rw [d1.2] at eb
            exact absurd eb.symm (Option.some_ne_none b)
        · obtain ⟨hC1, hM1⟩ := key d1
          unfold jd_124_b76 at hC1
          unfold jd_276_b89 at hM1
          rw [Option.bind_some, y_ck L 10 0 rfl rfl, Option.bind_some] at hC1
          rw [if_pos (BM_b0 R2)] at hM1
          have i24' : jms I' 10 1 (8 * base + j) 24 ((0 : Nat) : Int) = th := by rw [jms_o (by decide)]; exact i24
          rcases code2 R2 with ⟨v2, j2, e3, e4, v02, v12, j02, j12, R3⟩ | ⟨f, v2, j2, j', hf, v02, v12, e3, e4⟩
          · have S3 := RS_b (x := 8 * base + j2) (y := j2) P S2
            have i24'' : jms (jms I' 10 1 (8 * base + j)) 10 1 (8 * base + j2) 24 ((0 : Nat) : Int) = th := by rw [jms_o (by decide)]; exact i24'
            rw [e3, Option.bind_some] at hC1
            rw [e4, Option.bind_some] at hM1
            dsimp only at hC1 hM1
            unfold jd_276_b106 at hM1
            rw [n_jw (z := v2) (by omega) (by omega), if_pos v02, y_gi L 24 9 rfl rfl, Option.bind_some, i24'', n_jw (z := pw w pl * pw h pl - th) (by omega) (by omega), n_jw (z := v) (by omega) (by omega), n_jw (z := pw w pl) (by omega) (by omega)] at hC1
            rw [if_pos (BM_b0 R3), n_jw (z := pw w pl * pw h pl) (by omega) (by omega), n_jw (z := th + (v2 + 1)) (by omega) (by omega), n_jw (z := v) (by omega) (by omega), n_jw (z := pw w pl) (by omega) (by omega), n_jw (z := th) (by omega) (by omega)] at hM1
            by_cases d2 : pw w pl * pw h pl - th ≤ v2
            · rw [if_pos d2] at hC1
              rw [if_pos (by omega), b137_br R3.2.1.1 (by omega) (by omega)] at hM1
              exact bad 4 _ _ _ th hC1 (Or.inl ⟨th, hM1⟩) (RS_g S3) (by omega) tN jms_e (by decide) (by decide) (by unfold rdX; rw [jse_r, jse_r, jse_r, jse_l])
            · rw [if_neg d2] at hC1
              rw [if_neg (by omega)] at hM1
              have key2 : ¬ (v = 2 ∧ th < pw w pl) → C = jd_124_b121 24 (some 10) (some p) pl an (pw w pl) (pw w pl * pw h pl) (n : Int) v v2 (hh s Q (jms (jms I' 10 1 (8 * base + j)) 10 1 (8 * base + j2))) ∧ M = jd_276_b142 k pl (pw w pl) (pw w pl * pw h pl) (864 * k + pf pl) th v (v2 + 1) (jms (jms m' 76 51 j) 76 51 j2) := fun hn2 => by
                by_cases d3 : v = 2
                · rw [if_pos d3, Option.bind_some, n_jw (z := th) (by omega) (by omega), if_pos (by omega)] at hC1
                  rw [if_pos d3, if_pos (by omega)] at hM1
                  exact ⟨hC1, hM1⟩
                · rw [if_neg d3] at hC1 hM1
                  exact ⟨hC1, hM1⟩
              by_cases d3 : v = 2 ∧ th < pw w pl
              · rw [if_pos d3.1, Option.bind_some, n_jw (z := th) (by omega) (by omega), if_neg (by omega)] at hC1
                rw [if_pos d3.1, if_neg (by omega), b137_br R3.2.1.1 (by omega) (by omega)] at hM1
                exact bad 4 _ _ _ th hC1 (Or.inl ⟨th, hM1⟩) (RS_g S3) (by omega) tN jms_e (by decide) (by decide) (by unfold rdX; rw [jse_r, jse_r, jse_r, jse_l])
              · obtain ⟨hC2, hM2⟩ := key2 d3
                obtain ⟨f, I5, m5, th5, S5, t50, t51, e5, b5, hc5⟩ := run2 L h6 P hw hv sw sh p0 p2 k0 k1 N S3 R3 (th := th) (way := v) (len := v2 + 1) (by omega) (by omega) (by omega) v0 (by omega) (fun e en' => d1 ⟨e, en'⟩) (fun e => by omega)
                unfold jd_124_b121 at hC2
                rw [y_ck L 24 9 rfl rfl, Option.bind_some, e5, Option.bind_some] at hC2
                dsimp only at hC2
                rcases hc5 with ⟨rfl, h5, eM, i6, R6⟩ | ⟨rfl, eM⟩
                · left
                  rw [if_pos (by decide)] at hC2
                  exact ⟨_, _, hC2, hM.trans (hM2.trans eM), by omega, th + (v2 + 1), I5, m5, i6, by rw [show ((n + 1 : Nat) : Int) = (n : Int) + 1 by omega], rfl, by rw [← h5]; exact S5, R6, by omega, by omega⟩
                · rw [if_neg (by decide)] at hC2
                  refine bad 1 I5 m5 _ th5 hC2 ?_ S5 (by omega) (by omega) b5 (by decide) (by decide) (by unfold rdX; rw [jse_r, jse_r, jse_r, jse_r, jse_l])
                  rcases eM with ⟨z, eM⟩ | eM
                  · exact Or.inl ⟨z, hM2.trans eM⟩
                  · exact Or.inr (hM2.trans eM)
          · have S3 := RS_f (x := f) (f := f) P (RS_b (x := j2) (y := j') P S2)
            rw [e3, Option.bind_some] at hC1
            rw [e4, Option.bind_some] at hM1
            dsimp only at hC1 hM1
            rw [n_jw (z := v2) (by omega) (by omega), if_neg (by omega)] at hC1
            rw [b106_br (f := f) jms_e (by omega) (by omega) (by decide) (by decide)] at hM1
            refine bad f _ _ _ th hC1 (Or.inl ⟨th, hM1⟩) S3 (by omega) tN jms_e (by omega) (by omega) ?_
            unfold rdX
            rw [jse_r, jse_r, jse_l, Option.bind_some, g3 _ f jms_e, Option.bind_some]
    · have S2 := RS_f (x := f) (f := f) P (RS_b (x := j) (y := j') P S')
      rw [e1, Option.bind_some] at hC0
      rw [e2, Option.bind_some] at hM0
      dsimp only at hC0 hM0
      rw [n_jw (z := v) (by omega) (by omega), if_neg (by omega)] at hC0
      rw [if_neg (br_0 (m := jms (jms m' 76 51 j') 76 52 f) (f := f) jms_e (by omega) (by omega)), b89_br (f := f) jms_e (by omega) (by omega)] at hM0
      refine bad f _ _ _ th hC0.symm (Or.inl ⟨th, hM0.symm⟩) S2 (by omega) tN jms_e (by omega) (by omega) ?_
      unfold rdX
      rw [jse_l, Option.bind_some, g3 _ f jms_e, Option.bind_some]
end RunP
