/-! a run -/
section Run2
variable {s : hS} {Q : hQ} {hm : hO} {I m : jM} {A p : Nat} {base en w h k pl ak : Int} {an : Option Nat}
def rPost (s : hS) (Q : hQ) (I m : jM) (A p : Nat) (base en w h k pl th len : Int) (x : jH ⊕ jH) (y : jM ⊕ (Int × jM)) : Prop := ∃ I' m' th', RS p w h k pl th' I m I' m' ∧ th ≤ th' ∧ th' ≤ th + len ∧ ((x = .inr (hh s Q I') ∧ y = .inr (th + len, m') ∧ th' = th + len ∧ ∃ i', BM s Q I' m' 10 A base i' en) ∨ (x = .inl (hh s Q I') ∧ y = .inl m' ∧ I' 10 3 = 1 ∧ m' 76 52 = 1))
theorem run_l (L : Lay s Q hm) (h6 : s.1 ≤ 1000000) (P : PcC s Q p) (sw : isSd w) (sh : isSd h) (p0 : 0 ≤ pl) (p2 : pl ≤ 2) (k0 : 0 ≤ k) (k1 : k < 12) (N : An s Q I m p w h k an ak) {I1 J m' : jM} {th way len i' x9 : Int} (S : RS p w h k pl th I m J m') (R : BM s Q J m' 10 A base i' en) (t0 : 0 ≤ th) (l1 : 1 ≤ len) (tl : th + len ≤ pw w pl * pw h pl) (w0 : 0 ≤ way) (w3 : way ≤ 3) (hw1 : way = 1 → an ≠ none) (hw2 : way = 2 → pw w pl ≤ th) (x0 : 0 ≤ x9) (x1 : x9 ≤ 255) (hJ : (way = 0 ∧ jd_3 10 (hh s Q I1) = some (x9, hh s Q J)) ∨ (way ≠ 0 ∧ I1 = J ∧ x9 = 0)) : ∃ x y, jd_125_l20 24 (some 10) (some p) an way len (pw w pl) (pb w h pl) 0 0 (hh s Q I1) = some x ∧ jd_276_l169 k pl (pw w pl) (pw w pl * pw h pl) (864 * k + pf pl) way len x9 th 0 m' = some y ∧ rPost s Q I m A p base en w h k pl th len x y := by
  have ps := pl_sz sw sh p0 p2
  unfold jd_125_l20 jd_276_l169
  refine w_lp2 (Q := rPost s Q I m A p base en w h k pl th len) (fun n u t => ∃ told I' J' m2 i2, u = (told, (n : Int), hh s Q I') ∧ t = (th + (n : Int), (n : Int), m2) ∧ RS p w h k pl (th + (n : Int)) I m J' m2 ∧ BM s Q J' m2 10 A base i2 en ∧ ((way = 0 ∧ n = 0 ∧ jd_3 10 (hh s Q I') = some (x9, hh s Q J')) ∨ ((way ≠ 0 ∨ n ≠ 0) ∧ I' = J' ∧ (told = x9 ∨ way = 3)))) len.toNat (fun n u t hn hu => ?_) (n_fu (by omega)) (n_fu (by omega)) ⟨0, I1, J, m', i', rfl, by rw [show th + ((0 : Nat) : Int) = th by omega]; rfl, by rw [show th + ((0 : Nat) : Int) = th by omega]; exact S, R, ?_⟩
  · obtain ⟨told, I', J', m2, i2, rfl, rfl, S', R', hc⟩ := hu
    dsimp only
    by_cases cn : len ≤ (n : Int)
    · right
      have hn2 : (n : Int) = len := by omega
      rcases hc with ⟨-, n0, -⟩ | ⟨-, rfl, -⟩
      · omega
      · refine ⟨.inr (hh s Q I'), .inr (th + (n : Int), m2), ?_, ?_, I', m2, th + (n : Int), S', by omega, by omega, Or.inl ⟨rfl, by rw [hn2], by omega, i2, R'⟩⟩
        · unfold jd_125_s20
          exact if_pos (by rw [n_jw (by omega) (by omega), n_jw (by omega) (by omega)]; exact cn)
        · unfold jd_276_s169
          exact if_pos (by rw [n_jw (by omega) (by omega), n_jw (by omega) (by omega)]; exact cn)
    · have c1 : ¬ jw len ≤ jw (n : Int) := by rw [n_jw (by omega) (by omega), n_jw (by omega) (by omega)]; exact cn
      have go : ∀ (J2 m3 : jM) (v i3 : Int), RS p w h k pl (th + (n : Int)) I m J2 m3 → BM s Q J2 m3 10 A base i3 en → 0 ≤ v → v ≤ 255 → (v = x9 ∨ way = 3) → ∃ s' t', jd_125_b59 24 (some 10) (some p) an way len (pw w pl) (pb w h pl) v (n : Int) (hh s Q J2) = some (.inl s') ∧ jd_276_b200 k pl (pw w pl) (pw w pl * pw h pl) (864 * k + pf pl) (th + (n : Int)) way len x9 (n : Int) v m3 = some (.inl t') ∧ n < len.toNat ∧ ∃ told I' J' m2 i2, s' = (told, ((n + 1 : Nat) : Int), hh s Q I') ∧ t' = (th + ((n + 1 : Nat) : Int), ((n + 1 : Nat) : Int), m2) ∧ RS p w h k pl (th + ((n + 1 : Nat) : Int)) I m J' m2 ∧ BM s Q J' m2 10 A base i2 en ∧ ((way = 0 ∧ n + 1 = 0 ∧ jd_3 10 (hh s Q I') = some (x9, hh s Q J')) ∨ ((way ≠ 0 ∨ n + 1 ≠ 0) ∧ I' = J' ∧ (told = x9 ∨ way = 3))) := by
        intro J2 m3 v i3 S2 R2 v0 v1 hv
        obtain ⟨z, z0, z1, e1, e2⟩ := run1 (len := len) (n := (n : Int)) (x9 := x9) L h6 P sw sh p0 p2 k0 k1 N S2 R2 (by omega) (by omega) v0 v1 w0 w3 hw1 (fun e => by have := hw2 e; omega)
        refine ⟨_, _, e1, e2, by omega, v, _, _, _, i3, by rw [show ((n + 1 : Nat) : Int) = (n : Int) + 1 by omega], by rw [show ((n + 1 : Nat) : Int) = (n : Int) + 1 by omega, Int.add_assoc th], ?_, ?_, Or.inr ⟨Or.inr (by omega), rfl, hv⟩⟩
        · have := RS_w P sw sh p0 p2 (by omega) (by omega) z0 z1 S2
          rw [show th + ((n + 1 : Nat) : Int) = th + (n : Int) + 1 by omega]
          exact this
        · have P1 := P.1
          exact BM_fr R2 (by rw [jms_o (BM_A L R2 rfl (by decide)), jms_o (BM_Ap R2 P)]) (by rw [jms_o (by decide), jms_o (by omega)]) (by rw [jms_o (by decide), jms_o (by omega)]) (by rw [jms_i (by decide), jms_o (by decide)]) (by rw [jms_i (by decide), jms_o (by decide)]) (by rw [jms_i (by decide), jms_o (by decide)]) (by rw [jms_i (by decide), jms_o (by decide)]) (by rw [jms_o (by decide), jms_o (by decide)])
      unfold jd_125_s20 jd_276_s169
      rw [if_neg c1, if_neg c1, if_pos (BM_b0 R'), n_jw (z := way) (by omega) (by omega)]
      by_cases c3 : way = 3
      · rw [if_pos c3, if_pos c3]
        unfold jd_125_b43
        rw [Option.bind_some, y_ck L 10 0 rfl rfl, Option.bind_some]
        rcases hc with ⟨h0, -⟩ | ⟨-, rfl, -⟩
        · omega
        · rcases eight2 R' with ⟨v, v0, v1, -, e1, e2, R2⟩ | ⟨v, e1, e2⟩
          · rw [e1, e2, Option.bind_some, Option.bind_some]
            dsimp only
            rw [n_jw (z := v) (by omega) (by omega), if_pos v0]
            left
            exact go _ _ v _ (RS_b P S') R2 v0 v1 (Or.inr c3)
          · rw [e1, e2, Option.bind_some, Option.bind_some]
            dsimp only
            rw [if_neg (by decide)]
            unfold jd_276_b200
            rw [if_neg (br_1 (m := jms (jms m2 76 51 en) 76 52 1) (f := 1) jms_e (by decide) (by decide))]
            right
            have S2 : RS p w h k pl (th + (n : Int)) I m (jms I' 10 3 1) (jms (jms m2 76 51 en) 76 52 1) := by
              have := RS_f (f := 1) (x := 1) P (RS_b (x := I' 10 1) (y := en) P S')
              rw [jms_self] at this
              exact this
            exact ⟨_, _, rfl, rfl, _, _, _, S2, by omega, by omega, Or.inr ⟨rfl, rfl, jms_e, jms_e⟩⟩
      · rw [if_neg c3, if_neg c3]
        left
        by_cases c0 : way = 0
        · rw [if_pos c0, n_jw (z := (n : Int)) (by omega) (by omega)]
          rcases hc with ⟨-, n0, e3⟩ | ⟨hn0, rfl, ht⟩
          · rw [if_pos (by omega)]
            unfold jd_125_b43
            rw [Option.bind_some, y_ck L 10 0 rfl rfl, Option.bind_some, e3, Option.bind_some]
            dsimp only
            rw [n_jw (z := x9) (by omega) (by omega), if_pos x0]
            exact go J' m2 x9 i2 S' R' x0 x1 (Or.inl rfl)
          · rw [if_neg (by omega)]
            have ht' : told = x9 := ht.resolve_right c3
            subst ht'
            exact go I' m2 told i2 S' R' x0 x1 (Or.inl rfl)
        · rw [if_neg c0]
          rcases hc with ⟨h0, -⟩ | ⟨hn0, rfl, ht⟩
          · exact absurd h0 c0
          · have ht' : told = x9 := ht.resolve_right c3
            subst ht'
            exact go I' m2 told i2 S' R' x0 x1 (Or.inl rfl)
  · rcases hJ with ⟨h0, e⟩ | ⟨h0, e, ex⟩
    · exact Or.inl ⟨h0, rfl, e⟩
    · exact Or.inr ⟨Or.inl h0, e, Or.inl ex.symm⟩
/-- a run's samples on both sides -/
theorem run2 (L : Lay s Q hm) (h6 : s.1 ≤ 1000000) (P : PcC s Q p) (hw : I p 0 = w) (hv : I p 1 = h) (sw : isSd w) (sh : isSd h) (p0 : 0 ≤ pl) (p2 : pl ≤ 2) (k0 : 0 ≤ k) (k1 : k < 12) (N : An s Q I m p w h k an ak) {I1 m1 : jM} {th way len i' : Int} (S : RS p w h k pl th I m I1 m1) (R : BM s Q I1 m1 10 A base i' en) (t0 : 0 ≤ th) (l1 : 1 ≤ len) (tl : th + len ≤ pw w pl * pw h pl) (w0 : 0 ≤ way) (w3 : way ≤ 3) (hw1 : way = 1 → an ≠ none) (hw2 : way = 2 → pw w pl ≤ th) : ∃ f I' m' th', RS p w h k pl th' I m I' m' ∧ th ≤ th' ∧ th' ≤ th + len ∧ jd_125 24 (some 10) (some p) pl an way len (hh s Q I1) = some (f, hh s Q I') ∧ m' 76 52 = f ∧ ((f = 0 ∧ th' = th + len ∧ jd_276_b142 k pl (pw w pl) (pw w pl * pw h pl) (864 * k + pf pl) th way len m1 = some (.inl (th + len, m')) ∧ ∃ i', BM s Q I' m' 10 A base i' en) ∨ (f = 1 ∧ ((∃ z, jd_276_b142 k pl (pw w pl) (pw w pl * pw h pl) (864 * k + pf pl) th way len m1 = some (.inl (z, m'))) ∨ jd_276_b142 k pl (pw w pl) (pw w pl * pw h pl) (864 * k + pf pl) th way len m1 = some (.inr (.inl m'))))) := by
  have P1 := P.1
  have P2 := P.2.1
  have P3 := P.2.2.1
  have t14 : s.2.2.1 p = 6 + 8 := P3
  have ok : okI pl := by unfold okI; omega
  have gp : I1 p = I p := S.1 p (by omega) (by omega) (by omega) (by omega)
  have ps := pl_sz sw sh p0 p2
  have C0 : ∀ {x : jH ⊕ jH}, jd_125_l20 24 (some 10) (some p) an way len (pw w pl) (pb w h pl) 0 0 (hh s Q I1) = some x → jd_125 24 (some 10) (some p) pl an way len (hh s Q I1) = jse x (fun y63 => (((some 10 : Option Nat)).bind fun a65 => ((jgi y63 a65 0 3).bind fun v67 => some (v67, y63)))) (fun y64 => some (0, y64)) := fun {x} hx => by
    unfold jd_125
    rw [Option.bind_some, x_ck P2 t14, Option.bind_some, c_96 P2 P3 (by rw [gp]; exact hw) sw ok, Option.bind_some, Option.bind_some, x_ck P2 t14, Option.bind_some, c_98 P2 P3 (by rw [gp]; exact hw) (by rw [gp]; exact hv) sw sh ok, Option.bind_some, hx, Option.bind_some]
  have i3 : ∀ I' : jM, I' 10 3 = 1 → jgi (hh s Q I') 10 0 3 = some 1 := fun I' hz => by rw [y_gi L 10 0 rfl rfl]; exact congrArg some hz
  have fin : ∀ (J m2 : jM) (i2 x9 : Int), RS p w h k pl th I m J m2 → BM s Q J m2 10 A base i2 en → 0 ≤ x9 → x9 ≤ 255 → ((way = 0 ∧ jd_3 10 (hh s Q I1) = some (x9, hh s Q J)) ∨ (way ≠ 0 ∧ I1 = J ∧ x9 = 0)) → jd_276_b142 k pl (pw w pl) (pw w pl * pw h pl) (864 * k + pf pl) th way len m1 = jd_276_b164 k pl (pw w pl) (pw w pl * pw h pl) (864 * k + pf pl) th way len x9 m2 → ∃ f I' m' th', RS p w h k pl th' I m I' m' ∧ th ≤ th' ∧ th' ≤ th + len ∧ jd_125 24 (some 10) (some p) pl an way len (hh s Q I1) = some (f, hh s Q I') ∧ m' 76 52 = f ∧ ((f = 0 ∧ th' = th + len ∧ jd_276_b142 k pl (pw w pl) (pw w pl * pw h pl) (864 * k + pf pl) th way len m1 = some (.inl (th + len, m')) ∧ ∃ i', BM s Q I' m' 10 A base i' en) ∨ (f = 1 ∧ ((∃ z, jd_276_b142 k pl (pw w pl) (pw w pl * pw h pl) (864 * k + pf pl) th way len m1 = some (.inl (z, m'))) ∨ jd_276_b142 k pl (pw w pl) (pw w pl * pw h pl) (864 * k + pf pl) th way len m1 = some (.inr (.inl m'))))) := by
    intro J m2 i2 x9 S2 R2 x0 x1 hJ e142
    obtain ⟨x, y, e1, e2, I', m', th', S3, h1, h2, hc⟩ := run_l L h6 P sw sh p0 p2 k0 k1 N S2 R2 t0 l1 tl w0 w3 hw1 hw2 x0 x1 hJ
    unfold jd_276_b164 at e142
    rw [e2, Option.bind_some] at e142
    rcases hc with ⟨rfl, rfl, h3, i5, R5⟩ | ⟨rfl, rfl, h3, h4⟩
    · refine ⟨0, I', m', th', S3, h1, h2, ?_, R5.2.1.1, Or.inl ⟨rfl, h3, ?_, i5, R5⟩⟩
      · rw [C0 e1, jse_r]
      · rw [e142, jse_r]
    · refine ⟨1, I', m', th', S3, h1, h2, ?_, h4, Or.inr ⟨rfl, Or.inr ?_⟩⟩
      · rw [C0 e1, jse_l, Option.bind_some, i3 I' h3, Option.bind_some]
      · rw [e142, jse_l]
  by_cases c0 : way = 0
  · rcases eight2 R with ⟨v, v0, v1, -, e1, e2, R2⟩ | ⟨v, e1, e2⟩
    · refine fin _ _ _ v (RS_b P S) R2 v0 v1 (Or.inl ⟨c0, e1⟩) ?_
      unfold jd_276_b142
      rw [if_pos (BM_b0 R), c0, if_pos (by decide), e2, Option.bind_some]
    · have S2 : RS p w h k pl th I m (jms I1 10 3 1) (jms (jms m1 76 51 en) 76 52 1) := by
        have := RS_f (f := 1) (x := 1) P (RS_b (x := I1 10 1) (y := en) P S)
        rw [jms_self] at this
        exact this
      have CL : jd_125_l20 24 (some 10) (some p) an way len (pw w pl) (pb w h pl) 0 0 (hh s Q I1) = some (.inl (hh s Q (jms I1 10 3 1))) := by
        unfold jd_125_l20
        refine jlp_1 (f := fun u : (Int × Int × jH) => jd_125_s20 24 (some 10) (some p) an way len (pw w pl) (pb w h pl) u.1 u.2.1 u.2.2) (t := (0, 0, hh s Q I1)) ?_ _
        dsimp only
        unfold jd_125_s20 jd_125_b43
        rw [if_neg (show ¬ jw len ≤ jw 0 by rw [n_jw (by omega) (by omega), n_jw (by decide) (by decide)]; omega), c0, if_neg (by decide), if_pos (by decide), if_pos (by decide), Option.bind_some, y_ck L 10 0 rfl rfl, Option.bind_some, e1, Option.bind_some]
        exact if_neg (show ¬ (0 : Int) ≤ jw (-1) by decide)
      refine ⟨1, _, _, th, S2, by omega, by omega, ?_, jms_e, Or.inr ⟨rfl, Or.inl ⟨th, ?_⟩⟩⟩
      · rw [C0 CL, jse_l, Option.bind_some, i3 _ jms_e, Option.bind_some]
      · unfold jd_276_b142 jd_276_b164
        rw [if_pos (BM_b0 R), c0, if_pos (by decide), e2, Option.bind_some]
        dsimp only
        have ML : jd_276_l169 k pl (pw w pl) (pw w pl * pw h pl) (864 * k + pf pl) 0 len v th 0 (jms (jms m1 76 51 en) 76 52 1) = some (.inr (th, jms (jms m1 76 51 en) 76 52 1)) := by
          unfold jd_276_l169
          refine jlp_1 (f := fun u : (Int × Int × jM) => jd_276_s169 k pl (pw w pl) (pw w pl * pw h pl) (864 * k + pf pl) 0 len v u.1 u.2.1 u.2.2) (t := (th, 0, jms (jms m1 76 51 en) 76 52 1)) ?_ _
          dsimp only
          unfold jd_276_s169
          rw [if_neg (show ¬ jw len ≤ jw 0 by rw [n_jw (by omega) (by omega), n_jw (by decide) (by decide)]; omega), if_neg (br_0 (m := jms (jms m1 76 51 en) 76 52 1) (f := 1) jms_e (by decide) (by decide))]
        rw [ML, Option.bind_some, jse_r]
  · refine fin _ _ _ 0 S R (by decide) (by decide) (Or.inr ⟨c0, rfl, rfl⟩) ?_
    unfold jd_276_b142 jd_276_b163
    rw [if_pos (BM_b0 R), n_jw (by omega) (by omega), if_neg c0]
end Run2
