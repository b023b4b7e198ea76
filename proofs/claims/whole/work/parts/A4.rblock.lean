/-! a block's levels, read by both sides -/
section RBlock
variable {s : hS} {Q : hQ} {hm : hO} {I m : jM} {A : Nat} {base i en b st : Int}
def fB (I I' : jM) : Prop := ∀ a : Nat, a ≠ 10 → a ≠ 15 → I' a = I a
def fC (m m' : jM) : Prop := (∀ a : Nat, a ≠ 76 → a ≠ 115 → a ≠ 116 → a ≠ 117 → m' a = m a) ∧ (∀ k : Int, k < 51 ∨ (52 < k ∧ k ≠ 59) → m' 76 k = m 76 k)
theorem fB_t {I1 I2 I3 : jM} (a : fB I1 I2) (b : fB I2 I3) : fB I1 I3 := fun x h1 h2 => (b x h1 h2).trans (a x h1 h2)
theorem fC_t {I1 I2 I3 : jM} (a : fC I1 I2) (b : fC I2 I3) : fC I1 I3 := ⟨fun x h1 h2 h3 h4 => (b.1 x h1 h2 h3 h4).trans (a.1 x h1 h2 h3 h4), fun k hk => (b.2 k hk).trans (a.2 k hk)⟩
theorem fB_r {I : jM} : fB I I := fun _ _ _ => rfl
theorem fC_r {I : jM} : fC I I := ⟨fun _ _ _ _ _ => rfl, fun _ _ => rfl⟩
theorem fB_10 {I : jM} {k v : Int} : fB I (jms I 10 k v) := fun _ h1 _ => jms_o h1
theorem fB_15 {I : jM} {k v : Int} : fB I (jms I 15 k v) := fun _ _ h1 => jms_o h1
theorem fC_76 {m : jM} {k v : Int} (hk : k = 51 ∨ k = 52 ∨ k = 59) : fC m (jms m 76 k v) := ⟨fun _ h1 _ _ _ => jms_o h1, fun j hj => jms_i (by omega)⟩
theorem fC_116 {m : jM} {k v : Int} : fC m (jms m 116 k v) := ⟨fun _ _ _ h3 _ => jms_o h3, fun j _ => by rw [jms_o (by decide)]⟩
/-- levels of block b alike: in the class's row, in the model's square -/
def LvE (b : Int) (I m : jM) : Prop := ∀ i : Int, 0 ≤ i → i < 16 → m 116 (jd_254 i) = I 15 (16 * b + i) ∧ -4095 ≤ I 15 (16 * b + i) ∧ I 15 (16 * b + i) ≤ 4095
def lvO (b : Int) (I I' : jM) : Prop := ∀ j : Int, j < 16 * b ∨ 16 * b + 16 ≤ j → I' 15 j = I 15 j
def rdB (x : jH ⊕ (jH ⊕ (jH ⊕ (jH ⊕ jH)))) : Option (Int × jH) := jse x (fun y46 => ((jgr y46 9 8 0).bind fun r48 => ((r48).bind fun a50 => ((jgi y46 a50 0 3).bind fun v52 => some (v52, y46))))) (fun y47 => jse y47 (fun y54 => some (4, y54)) (fun y55 => jse y55 (fun y56 => ((jgr y56 9 8 0).bind fun r58 => ((r58).bind fun a60 => ((jgi y56 a60 0 3).bind fun v62 => some (v62, y56))))) (fun y57 => jse y57 (fun y64 => some (5, y64)) (fun y65 => some (0, y65)))))
def bkPost (s : hS) (Q : hQ) (I m : jM) (A : Nat) (base en b : Int) (x : jH ⊕ (jH ⊕ (jH ⊕ (jH ⊕ jH)))) (y : jM ⊕ jM) : Prop := ∃ f I' m', fB I I' ∧ fC m m' ∧ m' 115 = m 115 ∧ m' 76 52 = f ∧ lvO b I I' ∧ rdB x = some (f, hh s Q I') ∧ ((f = 0 ∧ y = .inr m' ∧ (∃ i', BM s Q I' m' 10 A base i' en) ∧ LvE b I' m' ∧ m' 76 59 = m 76 59 + lc (fun i => I' 15 (16 * b + i)) 16) ∨ (1 ≤ f ∧ f ≤ 7 ∧ y = .inl m'))
theorem b143_br {m : jM} {f x1 x2 x3 x4 x5 x6 x7 : Int} (hb : m 76 52 = f) (f0 : 1 ≤ f) (f1 : f ≤ 7) : jd_258_b143 x1 x2 x3 x4 x5 x6 x7 m = some (.inr (.inl m)) := by
  unfold jd_258_b143
  exact if_neg (br_1 hb f0 f1)
theorem b93_br {m : jM} {f x1 x2 x3 x4 x5 x6 : Int} (hb : m 76 52 = f) (f0 : 1 ≤ f) (f1 : f ≤ 7) : jd_258_b93 x1 x2 x3 x4 x5 x6 m = some (.inr (.inl m)) := by
  unfold jd_258_b93 jd_258_b108
  rw [if_neg (br_0 hb f0 f1), if_neg (br_0 hb f0 f1)]
  exact b143_br hb f0 f1
theorem b138_br {m : jM} {x1 x2 x3 x4 x5 x6 x7 : Int} (hb : m 76 52 = 0) : jd_258_b138 x1 x2 x3 x4 x5 x6 x7 m = some (.inr (.inl (jms m 76 52 5))) := by
  unfold jd_258_b138 jd_231 jd_231_b12
  rw [if_pos (show jw (m 76 52) = 0 by rw [hb]; rfl), Option.bind_some, Option.bind_some]
  exact b143_br jms_e (by decide) (by decide)
theorem bk_f {I' m' I2 m2 : jM} {f : Int} {x : jH ⊕ (jH ⊕ (jH ⊕ (jH ⊕ jH)))} (f1 : fB I I') (f2 : fC m m') (e115 : m' 115 = m 115) (lo : lvO b I I') (h10 : ∀ a : Nat, a ≠ 10 → I2 a = I' a) (h76 : ∀ a : Nat, a ≠ 76 → m2 a = m' a) (h77 : ∀ k : Int, k < 51 ∨ 52 < k → m2 76 k = m' 76 k) (hf : m2 76 52 = f) (g0 : 1 ≤ f) (g1 : f ≤ 7) (hr : rdB x = some (f, hh s Q I2)) : bkPost s Q I m A base en b x (.inl m2) :=
  ⟨f, I2, m2, fB_t f1 (fun a h1 _ => h10 a h1), fC_t f2 ⟨fun a h1 _ _ _ => h76 a h1, fun k hk => h77 k (by omega)⟩, (h76 115 (by decide)).trans e115, hf, fun j hj => by rw [h10 15 (by decide)]; exact lo j hj, hr, Or.inr ⟨g0, g1, rfl⟩⟩
theorem rblock_l (L : Lay s Q hm) (b0 : 0 ≤ b) (b1 : b < 6) (R : BM s Q I m 10 A base i en) (z15 : ∀ j : Int, 0 ≤ j → j < 16 → I 15 (16 * b + j) = 0) (z116 : ∀ j : Int, 0 ≤ j → j < 16 → m 116 j = 0) {mn : Int} (m0 : 0 ≤ mn) (m1 : mn ≤ 16) : ∃ x y, jd_120_l33 9 b mn 0 0 (hh s Q I) = some x ∧ jd_258_l50 b st mn (-1) 0 m = some y ∧ bkPost s Q I m A base en b x y := by
  have q0 : Q 9 ((0 : Nat) : Int) = some 10 := Lq L rfl
  have q1 : Q 9 ((1 : Nat) : Int) = some 11 := Lq L rfl
  have q10 : Q 11 ((10 : Nat) : Int) = some 15 := Lq L rfl
  have A15 : A ≠ 15 := BM_A L R rfl (by decide)
  have g3 : ∀ (J : jM) z, J 10 3 = z → ((jgr (hh s Q J) 9 8 0).bind fun r48 => ((r48).bind fun a50 => ((jgi (hh s Q J) a50 0 3).bind fun v52 => some (v52, hh s Q J)))) = some (z, hh s Q J) := fun J z hz => by
    have hz' : J 10 ((3 : Nat) : Int) = z := hz
    rw [y_gr L 9 8 rfl rfl, Option.bind_some, q0, Option.bind_some, y_gi L 10 0 rfl rfl, Option.bind_some, hz']
  unfold jd_120_l33 jd_258_l50
  refine w_lp2 (Q := bkPost s Q I m A base en b) (fun n u t => ∃ (at' : Nat) (I' m' : jM) (i' : Int), u = ((at' : Int), (n : Int), hh s Q I') ∧ t = ((at' : Int) - 1, (n : Int), m') ∧ n ≤ at' ∧ at' ≤ 16 ∧ fB I I' ∧ fC m m' ∧ m' 115 = m 115 ∧ BM s Q I' m' 10 A base i' en ∧ lvO b I I' ∧ LvE b I' m' ∧ (∀ j : Int, (at' : Int) ≤ j → j < 16 → I' 15 (16 * b + j) = 0) ∧ m' 76 59 = m 76 59 + (n : Int) ∧ lc (fun i => I' 15 (16 * b + i)) at' = (n : Int)) mn.toNat (fun n u t hn hu => ?_) (n_fu (by omega)) (n_fu (by omega)) ⟨0, I, m, i, rfl, rfl, by omega, by omega, fB_r, fC_r, rfl, R, fun _ _ => rfl, fun j h0 h1 => by
    have := scan_u h0 h1
    rw [z15 j h0 h1, z116 _ this.2.1 this.2.2]
    exact ⟨rfl, by decide, by decide⟩, fun j h0 h1 => z15 j (by omega) h1, by omega, rfl⟩
  obtain ⟨at', I', m', i', rfl, rfl, na, a16, f1, f2, e115, R', lo, le, lz, c59, lcn⟩ := hu
  unfold jd_120_s33 jd_258_s50
  dsimp only
  rw [n_jw (z := mn) (by omega) (by omega), n_jw (z := (n : Int)) (by omega) (by omega)]
  by_cases cn : mn ≤ (n : Int)
  · right
    rw [if_pos cn, if_pos cn]
    refine ⟨_, _, rfl, rfl, 0, I', m', f1, f2, e115, R'.2.1.1, lo, ?_, Or.inl ⟨rfl, rfl, ⟨i', R'⟩, le, ?_⟩⟩
    · unfold rdB
      rw [jse_r, jse_r, jse_r, jse_r]
    · have := lc_z (g := fun i => I' 15 (16 * b + i)) (a := at') (d := 16 - at') (fun j h0 h1 => lz j h0 (by omega))
      rw [show at' + (16 - at') = 16 by omega] at this
      rw [this, lcn, c59]
  · rw [if_neg cn, if_neg cn, if_pos (BM_b0 R'), y_gr L 9 8 rfl rfl, Option.bind_some, q0, Option.bind_some, y_ck L 10 0 rfl rfl, Option.bind_some]
    rcases code2 R' with ⟨v, j, e1, e2, v0, v1, j0, j1, R2⟩ | ⟨f, v, j, j', hf, v0, v1, e1, e2⟩
    · rw [e1, e2, Option.bind_some, Option.bind_some]
      dsimp only
      rw [n_jw (z := v) (by omega) (by omega), if_pos v0, if_pos (BM_b0 R2), n_jw (z := (at' : Int) + v) (by omega) (by omega), n_jw (z := (at' : Int) - 1 + 1 + v) (by omega) (by omega)]
      by_cases c15 : (at' : Int) + v ≤ 15
      · rw [if_pos c15, if_pos (by omega)]
        unfold jd_258_b93
        rw [if_pos (BM_b0 R2), y_gr L 9 8 rfl rfl, Option.bind_some, q0, Option.bind_some, y_ck L 10 0 rfl rfl, Option.bind_some, k_230]
        rcases code2 R2 with ⟨v2, j2, e3, e4, v02, v12, j02, j12, R3⟩ | ⟨f, v2, j2, j', hf, v02, v12, e3, e4⟩
        · rw [e3, e4, Option.bind_some, Option.bind_some, Option.bind_some]
          dsimp only
          unfold jd_258_b108
          have bb := n_14b v02 v12
          rw [n_jw (z := v2) (by omega) (by omega), n_jw (z := jd_14 v2) (by omega) (by omega), if_pos v02, if_pos (BM_b0 R3)]
          have fin : ∀ (M : Option ((Int × Int × jM) ⊕ (jM ⊕ jM))), M = some (.inr (.inl (jms (jms (jms m' 76 51 j) 76 51 j2) 76 52 5))) → bkPost s Q I m A base en b (.inr (.inr (.inr (.inl (hh s Q (jms (jms I' 10 1 (8 * base + j)) 10 1 (8 * base + j2))))))) (.inl (jms (jms (jms m' 76 51 j) 76 51 j2) 76 52 5)) := fun M _ => by
            refine bk_f (f := 5) (I2 := jms (jms I' 10 1 (8 * base + j)) 10 1 (8 * base + j2)) f1 f2 e115 lo (fun a ha => by rw [jms_o ha, jms_o ha]) (fun a ha => by rw [jms_o ha, jms_o ha, jms_o ha]) (fun k hk => by rw [jms_i (by omega), jms_i (by omega), jms_i (by omega)]) jms_e (by decide) (by decide) ?_
            unfold rdB
            rw [jse_r, jse_r, jse_r, jse_l]
          by_cases d1 : jd_14 v2 = 0
          · right
            rw [if_pos d1, if_pos d1]
            exact ⟨_, _, rfl, b138_br R3.2.1.1, fin _ rfl⟩
          · rw [if_neg d1, if_neg d1]
            by_cases d2 : jd_14 v2 < -4095
            · right
              rw [if_pos d2, if_pos d2]
              exact ⟨_, _, rfl, b138_br R3.2.1.1, fin _ rfl⟩
            · rw [if_neg d2, if_neg d2]
              by_cases d3 : jd_14 v2 ≤ 4095
              · left
                rw [if_pos d3, if_pos d3]
                unfold jd_258_b143
                rw [if_pos (BM_b1 R3), y_gr L 9 8 rfl rfl, Option.bind_some, q1, Option.bind_some, y_gr L 11 5 rfl rfl, Option.bind_some, q10, Option.bind_some, y_ta L 15 0 96 rfl rfl rfl (by omega) (by omega), Option.bind_some, show (at' : Int) - 1 + (1 + v) = (at' : Int) + v by omega, y_mw 116 16 rfl rfl (scan_u (by omega) (by omega)).2.1 (scan_u (by omega) (by omega)).2.2, Option.bind_some, Option.bind_some]
                obtain ⟨z, hz⟩ : ∃ z, z = jd_14 v2 := ⟨_, rfl⟩
                rw [← hz] at bb d1 d2 d3 ⊢
                obtain ⟨at2, ha2⟩ : ∃ n : Nat, (n : Int) = (at' : Int) + v := ⟨at' + v.toNat, by omega⟩
                rw [← ha2, jms_o (show (76 : Nat) ≠ 116 by decide)]
                obtain ⟨J, hJ⟩ : ∃ J, J = jms (jms I' 10 1 (8 * base + j)) 10 1 (8 * base + j2) := ⟨_, rfl⟩
                obtain ⟨M, hM⟩ : ∃ M, M = jms (jms m' 76 51 j) 76 51 j2 := ⟨_, rfl⟩
                rw [← hJ, ← hM] at R3 ⊢
                have J15 : J 15 = I' 15 := by rw [hJ, jms_o (by decide), jms_o (by decide)]
                have M116 : M 116 = m' 116 := by rw [hM, jms_o (by decide), jms_o (by decide)]
                have M59 : M 76 59 = m' 76 59 := by rw [hM, jms_i (by decide), jms_i (by decide)]
                have hfB : fB I J := by rw [hJ]; exact fB_t f1 (fB_t fB_10 fB_10)
                have hfC : fC m M := by rw [hM]; exact fC_t f2 (fC_t (fC_76 (Or.inl rfl)) (fC_76 (Or.inl rfl)))
                have M115 : M 115 = m 115 := by rw [hM, jms_o (by decide), jms_o (by decide)]; exact e115
                refine ⟨_, _, rfl, rfl, by omega, at2 + 1, jms J 15 (16 * b + (at2 : Int)) z, jms (jms M 116 (jd_254 (at2 : Int)) z) 76 59 (M 76 59 + 1), j2, by rw [show ((at2 + 1 : Nat) : Int) = (at2 : Int) + 1 by omega, show ((n + 1 : Nat) : Int) = (n : Int) + 1 by omega], by rw [show ((at2 + 1 : Nat) : Int) - 1 = (at2 : Int) by omega, show ((n + 1 : Nat) : Int) = (n : Int) + 1 by omega], by omega, by omega, fB_t hfB fB_15, fC_t hfC (fC_t fC_116 (fC_76 (Or.inr (Or.inr rfl)))), by rw [jms_o (by decide), jms_o (by decide)]; exact M115, ?_, fun x hx => ?_, fun x x0 x1 => ?_, fun x x0 x1 => ?_, ?_, ?_⟩
                · exact BM_fr R3 (jms_o A15) (by rw [jms_o (by decide)]) (by rw [jms_o (by decide)]) (by rw [jms_i (by decide), jms_o (by decide)]) (by rw [jms_i (by decide), jms_o (by decide)]) (by rw [jms_i (by decide), jms_o (by decide)]) (by rw [jms_i (by decide), jms_o (by decide)]) (by rw [jms_o (by decide), jms_o (by decide)])
                · rw [jms_i (by omega), J15]
                  exact lo x hx
                · rw [jms_o (show (116 : Nat) ≠ 76 by decide)]
                  by_cases cx : x = (at2 : Int)
                  · subst cx
                    rw [jms_e, jms_e]
                    exact ⟨rfl, by omega, by omega⟩
                  · rw [jms_i (fun e => cx (scan_j x0 x1 (by omega) (by omega) e)), jms_i (by omega), J15, M116]
                    exact le x x0 x1
                · rw [jms_i (by omega), J15]
                  exact lz x (by omega) x1
                · rw [jms_e, M59, c59]; omega
                · rw [lc_s, if_neg (by rw [jms_e]; exact d1)]
                  have e1 : lc (fun i => jms J 15 (16 * b + (at2 : Int)) z 15 (16 * b + i)) at2 = lc (fun i => I' 15 (16 * b + i)) at2 := lc_c (fun x x0 x1 => by rw [jms_i (by omega), J15])
                  have e2 := lc_z (g := fun i => I' 15 (16 * b + i)) (a := at') (d := v.toNat) (fun j h0 h1 => lz j h0 (by omega))
                  rw [show at' + v.toNat = at2 by omega] at e2
                  rw [e1, e2, lcn]
                  omega
              · right
                rw [if_neg d3, if_neg d3]
                exact ⟨_, _, rfl, b138_br R3.2.1.1, fin _ rfl⟩
        · right
          rw [e3, e4, Option.bind_some, Option.bind_some, Option.bind_some]
          dsimp only
          generalize jd_14 0 = z9
          unfold jd_258_b108
          rw [if_neg (show ¬ 0 ≤ jw v2 by rw [n_jw (by omega) (by omega)]; omega), if_neg (br_0 (m := jms (jms (jms m' 76 51 j) 76 51 j') 76 52 f) (f := f) jms_e (by omega) (by omega)), b143_br (f := f) jms_e (by omega) (by omega)]
          refine ⟨_, _, rfl, rfl, bk_f (f := f) (I2 := jms (jms (jms I' 10 1 (8 * base + j)) 10 1 j2) 10 3 f) f1 f2 e115 lo (fun a ha => by rw [jms_o ha, jms_o ha, jms_o ha]) (fun a ha => by rw [jms_o ha, jms_o ha, jms_o ha]) (fun k hk => by rw [jms_i (by omega), jms_i (by omega), jms_i (by omega)]) jms_e (by omega) (by omega) ?_⟩
          unfold rdB
          rw [jse_r, jse_r, jse_l]
          exact g3 _ f jms_e
      · right
        unfold jd_231 jd_231_b12
        rw [if_neg c15, if_neg (by omega), if_pos (BM_b0 R2), Option.bind_some, Option.bind_some, b93_br (f := 4) jms_e (by decide) (by decide)]
        refine ⟨_, _, rfl, rfl, bk_f (f := 4) (I2 := jms I' 10 1 (8 * base + j)) f1 f2 e115 lo (fun a ha => jms_o ha) (fun a ha => by rw [jms_o ha, jms_o ha]) (fun k hk => by rw [jms_i (by omega), jms_i (by omega)]) jms_e (by decide) (by decide) ?_⟩
        unfold rdB
        rw [jse_r, jse_l]
    · right
      rw [e1, e2, Option.bind_some, Option.bind_some]
      dsimp only
      rw [n_jw (z := v) (by omega) (by omega), if_neg (by omega), if_neg (br_0 (m := jms (jms m' 76 51 j') 76 52 f) (f := f) jms_e (by omega) (by omega)), b93_br (f := f) jms_e (by omega) (by omega)]
      refine ⟨_, _, rfl, rfl, bk_f (f := f) (I2 := jms (jms I' 10 1 j) 10 3 f) f1 f2 e115 lo (fun a ha => by rw [jms_o ha, jms_o ha]) (fun a ha => by rw [jms_o ha, jms_o ha]) (fun k hk => by rw [jms_i (by omega), jms_i (by omega)]) jms_e (by omega) (by omega) ?_⟩
      unfold rdB
      rw [jse_l]
      exact g3 _ f jms_e
end RBlock
