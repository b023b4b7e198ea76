/-! play -/
section Play
variable {s : hS} {Q : hQ} {hm : hO} {I m : jM} {a k : Nat} {f p q x y v z : Int}
def plI (I : jM) (b : Nat) (f x y : Int) : jM := jms (jms (jms (jms (jms (jms (jms (jms (jms (jms I b 1 f) b 9 x) b 10 y) b 2 0) b 11 0) b 3 0) b 4 0) b 5 0) b 6 (-1)) b 7 0
theorem plI_o {b c : Nat} (h : c ≠ b) : plI I b f x y c = I c := by
  unfold plI
  rw [jms_o h, jms_o h, jms_o h, jms_o h, jms_o h, jms_o h, jms_o h, jms_o h, jms_o h, jms_o h]
theorem plI_v {b : Nat} : plI I b f x y b 1 = f ∧ plI I b f x y b 9 = x ∧ plI I b f x y b 10 = y ∧ plI I b f x y b 2 = 0 ∧ plI I b f x y b 11 = 0 ∧ plI I b f x y b 3 = 0 ∧ plI I b f x y b 4 = 0 ∧ plI I b f x y b 5 = 0 ∧ plI I b f x y b 6 = -1 ∧ plI I b f x y b 7 = 0 := by
  unfold plI
  refine ⟨?_, ?_, ?_, ?_, ?_, ?_, ?_, ?_, ?_, jms_e⟩
  · rw [jms_i (by decide), jms_i (by decide), jms_i (by decide), jms_i (by decide), jms_i (by decide), jms_i (by decide), jms_i (by decide), jms_i (by decide), jms_i (by decide), jms_e]
  · rw [jms_i (by decide), jms_i (by decide), jms_i (by decide), jms_i (by decide), jms_i (by decide), jms_i (by decide), jms_i (by decide), jms_i (by decide), jms_e]
  · rw [jms_i (by decide), jms_i (by decide), jms_i (by decide), jms_i (by decide), jms_i (by decide), jms_i (by decide), jms_i (by decide), jms_e]
  · rw [jms_i (by decide), jms_i (by decide), jms_i (by decide), jms_i (by decide), jms_i (by decide), jms_i (by decide), jms_e]
  · rw [jms_i (by decide), jms_i (by decide), jms_i (by decide), jms_i (by decide), jms_i (by decide), jms_e]
  · rw [jms_i (by decide), jms_i (by decide), jms_i (by decide), jms_i (by decide), jms_e]
  · rw [jms_i (by decide), jms_i (by decide), jms_i (by decide), jms_e]
  · rw [jms_i (by decide), jms_i (by decide), jms_e]
  · rw [jms_i (by decide), jms_e]
def plM (m : jM) (k f x y : Int) : jM := jms (jms (jms (jms (jms (jms (jms (jms (jms (jms (jms m 76 0 0) 141 k f) 142 k x) 143 k y) 144 k 0) 145 k 0) 146 k 0) 147 k 0) 148 k 0) 149 k (-1)) 150 k 0
theorem plM_o {c : Nat} {k : Int} (h1 : c ≠ 76) (h : c < 141 ∨ 150 < c ∨ z ≠ k) : plM m k f x y c z = m c z := by
  have st : ∀ (g : jM) (d : Nat) (v : Int), (c ≠ d ∨ z ≠ k) → jms g d k v c z = g c z := fun g d v h => by
    rcases h with h | h
    · rw [jms_o h]
    · rw [jms_i h]
  unfold plM
  rw [st _ 150 _ (by omega), st _ 149 _ (by omega), st _ 148 _ (by omega), st _ 147 _ (by omega), st _ 146 _ (by omega), st _ 145 _ (by omega), st _ 144 _ (by omega), st _ 143 _ (by omega), st _ 142 _ (by omega), st _ 141 _ (by omega), jms_o h1]
theorem plM_76 {k : Int} (h : z ≠ 0) : plM m k f x y 76 z = m 76 z := by
  unfold plM
  rw [jms_o (by decide), jms_o (by decide), jms_o (by decide), jms_o (by decide), jms_o (by decide), jms_o (by decide), jms_o (by decide), jms_o (by decide), jms_o (by decide), jms_o (by decide), jms_i h]
theorem plM_v {k : Int} : plM m k f x y 141 k = f ∧ plM m k f x y 142 k = x ∧ plM m k f x y 143 k = y ∧ plM m k f x y 144 k = 0 ∧ plM m k f x y 145 k = 0 ∧ plM m k f x y 146 k = 0 ∧ plM m k f x y 147 k = 0 ∧ plM m k f x y 148 k = 0 ∧ plM m k f x y 149 k = -1 ∧ plM m k f x y 150 k = 0 ∧ plM m k f x y 76 0 = 0 := by
  unfold plM
  refine ⟨?_, ?_, ?_, ?_, ?_, ?_, ?_, ?_, ?_, jms_e, ?_⟩
  · rw [jms_o (by decide), jms_o (by decide), jms_o (by decide), jms_o (by decide), jms_o (by decide), jms_o (by decide), jms_o (by decide), jms_o (by decide), jms_o (by decide), jms_e]
  · rw [jms_o (by decide), jms_o (by decide), jms_o (by decide), jms_o (by decide), jms_o (by decide), jms_o (by decide), jms_o (by decide), jms_o (by decide), jms_e]
  · rw [jms_o (by decide), jms_o (by decide), jms_o (by decide), jms_o (by decide), jms_o (by decide), jms_o (by decide), jms_o (by decide), jms_e]
  · rw [jms_o (by decide), jms_o (by decide), jms_o (by decide), jms_o (by decide), jms_o (by decide), jms_o (by decide), jms_e]
  · rw [jms_o (by decide), jms_o (by decide), jms_o (by decide), jms_o (by decide), jms_o (by decide), jms_e]
  · rw [jms_o (by decide), jms_o (by decide), jms_o (by decide), jms_o (by decide), jms_e]
  · rw [jms_o (by decide), jms_o (by decide), jms_o (by decide), jms_e]
  · rw [jms_o (by decide), jms_o (by decide), jms_e]
  · rw [jms_o (by decide), jms_e]
  · rw [jms_o (by decide), jms_o (by decide), jms_o (by decide), jms_o (by decide), jms_o (by decide), jms_o (by decide), jms_o (by decide), jms_o (by decide), jms_o (by decide), jms_o (by decide), jms_e]
theorem ply_new {s' : hS} {Q' : hQ} {hm' : hO} {I' : jM} {d : Nat} (R : RelH s Q hm I m) (hk : k < 4) (hf : 0 ≤ f ∧ f < m 76 12) (ha : Q 5 f = some a) (hx : 1 ≤ x ∧ x ≤ 4000) (hy : 0 ≤ y ∧ y ≤ 4000) (C : FilmC s Q I m a f) (S : Sm (fun o => o ≠ 1072 + (k : Int) ∧ o ≠ 450 + (k : Int)) s Q hm I s' Q' hm' I') (L' : Lay s' Q' hm') (i1 : I' (72 + k) = plI I (72 + k) f x y (72 + k)) (q0 : Q' (72 + k) 0 = some a) (q8 : Q' (72 + k) 8 = some d) (D : PicAt s' Q' hm' d (450 + (k : Int))) : RelH s' Q' hm' I' (plM m k f x y) := by
  obtain ⟨v1, v2, v3, v4, v5, v6, v7, v8, v9, v10, -⟩ := plM_v (m := m) (f := f) (x := x) (y := y) (k := (k : Int))
  obtain ⟨w1, w2, w3, w4, w5, w6, w7, w8, w9, w10⟩ := plI_v (I := I) (b := 72 + k) (f := f) (x := x) (y := y)
  have o : ∀ c : Nat, c ≠ 76 → (c < 141 ∨ 150 < c) → plM m k f x y c = m c := fun c h1 h2 => funext fun z => plM_o h1 (by omega)
  have q5 : Q' 5 = Q 5 := (Lay_fr (a := 5) R.1 S (by decide) (by omega)).1
  refine RelH_ply R hk S L' ⟨⟨plM_76 (by decide), plM_76 (by decide), plM_76 (by decide), plM_76 (by decide), plM_76 (by decide), plM_76 (by decide), plM_76 (by decide), plM_76 (by decide)⟩, fun x hx => o x (by omega) (by omega), fun x h1 h2 z hz => plM_o (by omega) (by omega), fun z hz => plM_o (by decide) (by omega)⟩ ?_ (fun e he => by rw [q8] at he; cases he; exact D)
  have n1 := C.2.2.2.1.1
  have n7 := C.2.1.2.2.2.2.1
  unfold PlyC
  rw [v1, v2, v3, v4, v5, v6, v7, v8, v9, v10, i1, w1, w2, w3, w4, w5, w6, w7, w8, w9, w10, q5, q0, plM_76 (by decide), o 84 (by decide) (by decide), o 85 (by decide) (by decide), o 87 (by decide) (by decide), o 88 (by decide) (by decide)]
  exact Or.inr ⟨hf.1, hf.2, ha.symm, rfl, rfl, rfl, rfl, rfl, rfl, rfl, rfl, rfl, rfl, ⟨hx.1, hx.2, hy.1, hy.2, Int.le_refl _, Int.le_refl _, by omega, Int.le_refl _, by omega, fun e => by omega, Int.le_refl _, by omega⟩, d, q8, fun e => absurd e (by decide)⟩
theorem si_play (R : RelH s Q hm I m) (h6 : s.1 ≤ 900000) (hp : okI p) (hf : okI f) (hx : okI x) (hy : okI y) : SimV (jd_175 0 p f x y (hh s Q I)) (jd_356 p f x y m) (fun E => if E = 2 then 1 else if E = 0 then 2 else 0) s Q I := by
  have L := R.1
  have t2 := R.2.2.2.2.2.1.2.1
  have n8 := R.2.2.2.2.2.1.2.2.1
  have hx' : -2147483648 ≤ x ∧ x < 2147483648 := hx
  have hy' : -2147483648 ≤ y ∧ y < 2147483648 := hy
  have i1 := x_in (x := x) (lo := 1) (hi := 4000) (by omega) (by omega) (by decide) (by decide) (by decide) (by decide)
  have i2 := x_in (x := y) (lo := 0) (hi := 4000) (by omega) (by omega) (by decide) (by decide) (by decide) (by decide)
  have k5 := k_355 hp
  have k11 := k_311 (m := m) ⟨t2, n8⟩ hf
  have b0 : ∀ c : Int, c = 1 ∨ c = 2 → jd_356_b50 p f x y c m = some (jms m 76 0 c) := by
    intro c hc
    unfold jd_356_b50
    rcases hc with rfl | rfl
    · rw [Option.bind_some, jms_e, if_neg (by decide)]
    · rw [Option.bind_some, jms_e, if_neg (by decide)]
  by_cases c : 0 ≤ p ∧ p < 4
  · rw [if_pos c] at k5
    obtain ⟨k, rfl⟩ : ∃ k : Nat, p = k := ⟨p.toNat, by omega⟩
    have hk : k < 4 := by omega
    obtain ⟨g1, g2, g3, g4, g5⟩ := skp hk
    have z0 : (0 : Int) ≤ (k : Int) := by omega
    have z1 : (k : Int) < ((4 : Nat) : Int) := by omega
    by_cases c2 : 0 ≤ f ∧ f < m 76 12
    · rw [if_pos c2] at k11
      obtain ⟨a, ea, ha, F, C⟩ := c_195 R hf c2.1 c2.2
      by_cases c3 : (1 ≤ x ∧ x ≤ 4000) ∧ 0 ≤ y ∧ y ≤ 4000
      · have eM : jd_356 (k : Int) f x y m = some (plM m k f x y) := by
          unfold jd_356 jd_356_b50
          rw [k5, if_neg (by decide), k11, if_neg (by decide), n_jw hx.1 hx.2, i1, if_pos c3.1, if_neg (by decide), n_jw hy.1 hy.2, i2, if_pos c3.2, if_neg (by decide), Option.bind_some, jms_e, if_pos (by decide), y_mw 141 4 rfl rfl z0 z1, Option.bind_some, y_mw 142 4 rfl rfl z0 z1, Option.bind_some, y_mw 143 4 rfl rfl z0 z1, Option.bind_some, y_mw 144 4 rfl rfl z0 z1, Option.bind_some, y_mw 145 4 rfl rfl z0 z1, Option.bind_some, y_mw 146 4 rfl rfl z0 z1, Option.bind_some, y_mw 147 4 rfl rfl z0 z1, Option.bind_some, y_mw 148 4 rfl rfl z0 z1, Option.bind_some, y_mw 149 4 rfl rfl z0 z1, Option.bind_some, y_mw 150 4 rfl rfl z0 z1, Option.bind_some]
          rfl
        have L1 : Lay s (rms Q (72 + k) 0 (some a)) hm := Lay_rms (k := 0) L g4
        have hne : 72 + k < s.1 := Lt L g1
        have pre : ∀ (B : Type) (G : jH → Option B), ((jpr (hh s Q I) (72 + k) 7 0 (some a)).bind fun h1 => ((jpi h1 (72 + k) 7 1 f).bind fun h3 => ((jpi h3 (72 + k) 7 9 x).bind fun h5 => ((jpi h5 (72 + k) 7 10 y).bind fun h7 => ((jpi h7 (72 + k) 7 2 0).bind fun h9 => ((jpi h9 (72 + k) 7 11 0).bind fun h11 => ((jpi h11 (72 + k) 7 3 0).bind fun h13 => ((jpi h13 (72 + k) 7 4 0).bind fun h15 => ((jpi h15 (72 + k) 7 5 0).bind fun h17 => ((jpi h17 (72 + k) 7 6 (-1)).bind fun h19 => ((jpi h19 (72 + k) 7 7 0).bind G))))))))))) = G (hh s (rms Q (72 + k) 0 (some a)) (plI I (72 + k) f x y)) := by
          intro B G
          rw [y_pr L (72 + k) 7 g1 g2, Option.bind_some, y_pi L (72 + k) 7 g1 g2, Option.bind_some, y_pi L (72 + k) 7 g1 g2, Option.bind_some, y_pi L (72 + k) 7 g1 g2, Option.bind_some, y_pi L (72 + k) 7 g1 g2, Option.bind_some, y_pi L (72 + k) 7 g1 g2, Option.bind_some, y_pi L (72 + k) 7 g1 g2, Option.bind_some, y_pi L (72 + k) 7 g1 g2, Option.bind_some, y_pi L (72 + k) 7 g1 g2, Option.bind_some, y_pi L (72 + k) 7 g1 g2, Option.bind_some, y_pi L (72 + k) 7 g1 g2, Option.bind_some]
          rfl
        have preC : ∀ h', jd_110 (72 + k) (some a) f x y (hh s Q I) = some h' → jd_175 0 (k : Int) f x y (hh s Q I) = some (.inl (), h') := by
          intro h' e
          unfold jd_175
          rw [y_ck L 0 11 rfl rfl, Option.bind_some, c_200 L hk, b_jtb, y_ck L 0 11 rfl rfl, Option.bind_some, ea, b_jtb, n_jw hx.1 hx.2, n_jw hy.1 hy.2, if_neg (by omega), if_neg (by omega), if_neg (by omega), if_pos (by omega), y_ck L (72 + k) 7 g1 g2, Option.bind_some, e, Option.bind_some]
        have q8 : ∀ Q1 : hQ, (rms Q (72 + k) 0 (some a)) (72 + k) ((8 : Nat) : Int) = Q (72 + k) 8 := fun _ => rms_i (by decide)
        have S1 : Sm (fun o => o ≠ 1072 + (k : Int) ∧ o ≠ 450 + (k : Int)) s Q hm I s (rms Q (72 + k) 0 (some a)) hm (plI I (72 + k) f x y) := ⟨Nat.le_refl _, fun b hb hp => by
          have hb' : b ≠ 72 + k := fun e => hp.1 (by rw [e, Lo L g1]; omega)
          exact ⟨rfl, rfl, rms_o hb', plI_o hb', rfl⟩⟩
        cases hq : Q (72 + k) 8 with
        | some d =>
          have D := R.2.2.2.2.2.2.2.2.2.2.2 k hk d hq
          have e10 : jd_110 (72 + k) (some a) f x y (hh s Q I) = some (hh s (rms Q (72 + k) 0 (some a)) (plI I (72 + k) f x y)) := by
            unfold jd_110 jd_110_b74
            rw [pre, y_gr L1 (72 + k) 7 g1 g2, Option.bind_some, q8 Q, hq, if_neg (by simp)]
          have D' : PicAt s (rms Q (72 + k) 0 (some a)) hm d (450 + (k : Int)) := (PicAt_fr (P := fun o => o ≠ 1072 + (k : Int)) (I := I) (I' := I) (Sm_rms (by rw [Lo L g1]; omega)) D (by omega)).1
          refine Or.inl ⟨s, _, _, _, preC _ e10, eM, plM_v.2.2.2.2.2.2.2.2.2.2, Kp_of L S1 (fun i _ _ => by omega), Gr_refl, hm, ?_⟩
          exact ply_new R hk c2 ha c3.1 c3.2 C S1 L1 rfl rms_e ((q8 Q).trans hq) D'
        | none =>
          have e10 : jd_110 (72 + k) (some a) f x y (hh s Q I) = some (hh (nSh s) (rms (nRf (rms Q (72 + k) 0 (some a)) s.1) (72 + k) 8 (some s.1)) (nIn (plI I (72 + k) f x y) s.1)) := by
            have hnew := c_new6 (s := s) (Q := rms Q (72 + k) 0 (some a)) (I := plI I (72 + k) f x y) (by omega)
            obtain ⟨n, h1, h2⟩ : ∃ n, jnw (hh s (rms Q (72 + k) 0 (some a)) (plI I (72 + k) f x y)) 6 = some n ∧ ((jd_94 n.1 n.2).bind fun h => some (n.1, h)) = some (s.1, hh (nSh s) (nRf (rms Q (72 + k) 0 (some a)) s.1) (nIn (plI I (72 + k) f x y) s.1)) := by
              cases hx : jnw (hh s (rms Q (72 + k) 0 (some a)) (plI I (72 + k) f x y)) 6 with
              | none => rw [hx] at hnew; cases hnew
              | some n => rw [hx] at hnew; exact ⟨n, rfl, hnew⟩
            obtain ⟨h', h3, h4⟩ : ∃ h', jd_94 n.1 n.2 = some h' ∧ (n.1, h') = (s.1, hh (nSh s) (nRf (rms Q (72 + k) 0 (some a)) s.1) (nIn (plI I (72 + k) f x y) s.1)) := by
              cases hx : jd_94 n.1 n.2 with
              | none => rw [hx] at h2; cases h2
              | some h' => rw [hx] at h2; exact ⟨h', rfl, Option.some.inj h2⟩
            have h5 : n.1 = s.1 := congrArg Prod.fst h4
            have h7 : h' = hh (nSh s) (nRf (rms Q (72 + k) 0 (some a)) s.1) (nIn (plI I (72 + k) f x y) s.1) := congrArg Prod.snd h4
            have L2 : Lay (nSh s) (nRf (rms Q (72 + k) 0 (some a)) s.1) (nOw hm s.1 (450 + (k : Int))) := n_lay L1
            unfold jd_110 jd_110_b74
            rw [pre, y_gr L1 (72 + k) 7 g1 g2, Option.bind_some, q8 Q, hq, if_pos rfl, h1, Option.bind_some, h3, Option.bind_some, h5, h7, y_pr L2 (72 + k) 7 g1 g2, Option.bind_some]
            rfl
          have L2 : Lay (nSh s) (nRf (rms Q (72 + k) 0 (some a)) s.1) (nOw hm s.1 (450 + (k : Int))) := n_lay L1
          have L3 : Lay (nSh s) (rms (nRf (rms Q (72 + k) 0 (some a)) s.1) (72 + k) 8 (some s.1)) (nOw hm s.1 (450 + (k : Int))) := Lay_rms (k := 8) L2 g5
          have D0 : PicAt (nSh s) (nRf (rms Q (72 + k) 0 (some a)) s.1) (nOw hm s.1 (450 + (k : Int))) s.1 (450 + (k : Int)) := n_pic L.1
          have D' : PicAt (nSh s) (rms (nRf (rms Q (72 + k) 0 (some a)) s.1) (72 + k) 8 (some s.1)) (nOw hm s.1 (450 + (k : Int))) s.1 (450 + (k : Int)) := (PicAt_fr (P := fun o => o ≠ 1072 + (k : Int)) (I := I) (I' := I) (Sm_rms (by rw [Lo L2 g1]; omega)) D0 (by omega)).1
          have S2 : Sm (fun o => o ≠ 1072 + (k : Int) ∧ o ≠ 450 + (k : Int)) s Q hm I (nSh s) (rms (nRf (rms Q (72 + k) 0 (some a)) s.1) (72 + k) 8 (some s.1)) (nOw hm s.1 (450 + (k : Int))) (nIn (plI I (72 + k) f x y) s.1) := Sm_trans S1 (Sm_trans n_sm (Sm_rms (by rw [Lo L2 g1]; omega)))
          have e3 := n_lt (s := s) (Q := rms Q (72 + k) 0 (some a)) (hm := hm) (o := 450 + (k : Int)) (I := plI I (72 + k) f x y) hne
          refine Or.inl ⟨_, _, _, _, preC _ e10, eM, plM_v.2.2.2.2.2.2.2.2.2.2, Kp_of L S2 (fun i _ _ => by omega), ⟨S2.1, by unfold nSh s_mk; dsimp only; omega, by unfold nSh s_mk; dsimp only; omega⟩, nOw hm s.1 (450 + (k : Int)), ?_⟩
          refine ply_new R hk c2 ha c3.1 c3.2 C S2 L3 e3.2.2.2.1 ?_ rms_e D'
          rw [rms_i (by decide), e3.2.2.1]
          exact rms_e
      · refine SimV_th (E := 0) R ?_ ?_ (by decide)
        · unfold jd_175 jd_175_b39
          rw [y_ck L 0 11 rfl rfl, Option.bind_some, c_200 L hk, b_jtb, y_ck L 0 11 rfl rfl, Option.bind_some, ea, b_jtb, n_jw hx.1 hx.2, n_jw hy.1 hy.2, x_6 (show s.1 < 1000000 by omega), Option.bind_some]
          by_cases d1 : x < 1
          · rw [if_pos d1]
          · rw [if_neg d1]
            by_cases d2 : 4000 < x
            · rw [if_pos d2]
            · rw [if_neg d2]
              by_cases d3 : y < 0
              · rw [if_pos d3]
              · rw [if_neg d3, if_neg (by omega)]
        · unfold jd_356
          rw [k5, if_neg (by decide), k11, if_neg (by decide), n_jw hx.1 hx.2, i1, n_jw hy.1 hy.2, i2]
          have ez : (if (if 1 ≤ x ∧ x ≤ 4000 then (1 : Int) else 0) = 0 then (2 : Int) else if (if 0 ≤ y ∧ y ≤ 4000 then (1 : Int) else 0) = 0 then 2 else 0) = 2 := by
            by_cases d1 : 1 ≤ x ∧ x ≤ 4000
            · rw [if_pos d1, if_neg (by decide), if_neg (show ¬ (0 ≤ y ∧ y ≤ 4000) from fun e => c3 ⟨d1, e⟩), if_pos rfl]
            · rw [if_neg d1, if_pos rfl]
          rw [ez, b0 2 (Or.inr rfl)]
          rfl
    · rw [if_neg c2] at k11
      refine SimV_th (E := 2) R ?_ ?_ (by decide)
      · unfold jd_175
        rw [y_ck L 0 11 rfl rfl, Option.bind_some, c_200 L hk, b_jtb, y_ck L 0 11 rfl rfl, Option.bind_some, c_195n R (by omega) hf c2, b_jtx]
      · unfold jd_356
        rw [k5, if_neg (by decide), k11, if_pos rfl, b0 1 (Or.inl rfl)]
        rfl
  · rw [if_neg c] at k5
    refine SimV_th (E := 2) R ?_ ?_ (by decide)
    · unfold jd_175
      rw [y_ck L 0 11 rfl rfl, Option.bind_some, c_200n (by omega) hp c, b_jtx]
    · unfold jd_356
      rw [k5, if_pos rfl, b0 1 (Or.inl rfl)]
      rfl
end Play
