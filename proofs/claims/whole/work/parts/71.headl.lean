/-! all heads: the loops -/
section Heads71
variable {s : hS} {Q : hQ} {hm : hO} {I0 m0 : jM} {a b : Nat} {f T cod len : Int}
/-- n heads are parsed, the next one begins at p -/
def HS (I0 m0 : jM) (a : Nat) (T cod len : Int) (n : Nat) (p : Int) (I m : jM) : Prop := (∀ c, (c < a + 1 ∨ a + 6 < c) → I c = I0 c) ∧ ((∀ c, c ≠ 76 → c ≠ 102 → c ≠ 103 → c ≠ 104 → c ≠ 105 → c ≠ 106 → m c = m0 c) ∧ ∀ k : Int, k ≠ 35 → m 76 k = m0 76 k) ∧ HdC I a n T cod ∧ HdM m n T ∧ (∀ j : Int, 0 ≤ j → j < n → I (a + 1) j = m 102 j ∧ I (a + 2) j = m 103 j ∧ I (a + 3) j = m 104 j ∧ I (a + 4) j = m 105 j ∧ I (a + 5) j = m 106 j ∧ I (a + 6) (m 103 j) = j) ∧ (∀ k : Int, 0 ≤ k → k < n → PVb cod T (m 102) (m 103) (m 104) (m 105) (m 106) (fun i => m0 112 i % 256) k) ∧ (0 < n → m 102 0 = 0 ∧ m 106 0 = 7) ∧ ((n = 0 → p = 7) ∧ (0 < n → p = m 106 ((n : Int) - 1) + 5 + m 105 ((n : Int) - 1))) ∧ 7 ≤ p ∧ p ≤ len
theorem heads_loop (F : FilmAt s Q hm a f) (h6 : s.1 ≤ 1000000) (Y : BySm s Q I0 m0 a b len) (l1 : len ≤ 24090) (hb : ∀ j : Nat, j < 13 → b ≠ a + j) (hc : m0 76 32 = cod) (d : Nat) : ∀ (n : Nat) (p : Int) (I m : jM), ((n + d : Nat) : Int) = T → HS I0 m0 a T cod len n p I m → ∀ fu fu' : Nat, d < fu → d < fu' → ∃ (r : Int) (I' m' : jM), (∀ c, (c < a + 1 ∨ a + 6 < c) → I' c = I0 c) ∧ ((∀ c, c ≠ 76 → c ≠ 102 → c ≠ 103 → c ≠ 104 → c ≠ 105 → c ≠ 106 → m' c = m0 c) ∧ ∀ k : Int, k ≠ 35 → m' 76 k = m0 76 k) ∧ (((0 ≤ r ∧ r ≤ len) ∧ jlp (fun u : (Int × Int × jH) => jd_29_s133 a u.1 u.2.1 u.2.2) fu (p, (n : Int), hh s Q I) = some (.inl (r, hh s Q I')) ∧ jlp (fun u : (Int × jM) => jd_301_s69 T u.1 u.2) fu' (p, m) = some (.inl (r, m'))) ∨ (jlp (fun u : (Int × Int × jH) => jd_29_s133 a u.1 u.2.1 u.2.2) fu (p, (n : Int), hh s Q I) = some (.inr (r, hh s Q I')) ∧ jlp (fun u : (Int × jM) => jd_301_s69 T u.1 u.2) fu' (p, m) = some (.inr (r, m')) ∧ HS I0 m0 a T cod len T.toNat r I' m')) := by
  induction d with
  | zero =>
    intro n p I m hT H fu fu' h1 h2
    obtain ⟨fu, rfl⟩ : ∃ j, fu = j + 1 := ⟨fu - 1, by omega⟩
    obtain ⟨fu', rfl⟩ : ∃ j, fu' = j + 1 := ⟨fu' - 1, by omega⟩
    obtain ⟨fI, fm, HC, HM, -⟩ := id H
    have i4 : I a ((4 : Nat) : Int) = T := HC.2.1
    have tt := HC.2.2.2.1
    refine ⟨p, I, m, fI, fm, Or.inr ⟨jlp_r ?_, jlp_r ?_, ?_⟩⟩
    · dsimp only
      unfold jd_29_s133
      rw [F_gi F, Option.bind_some, i4, n_jw (z := T) (by omega) (by omega), n_jw (z := (n : Int)) (by omega) (by omega), if_pos (by omega)]
    · dsimp only
      unfold jd_301_s69
      rw [HM.1, n_jw (z := T) (by omega) (by omega), n_jw (z := (n : Int)) (by omega) (by omega), if_pos (by omega)]
    · rw [show T.toNat = n by omega]
      exact H
  | succ d ih =>
    intro n p I m hT H fu fu' h1 h2
    obtain ⟨fu, rfl⟩ : ∃ j, fu = j + 1 := ⟨fu - 1, by omega⟩
    obtain ⟨fu', rfl⟩ : ∃ j, fu' = j + 1 := ⟨fu' - 1, by omega⟩
    obtain ⟨fI, fm, HC, HM, eq5, pv, z0, hp, p7, pl⟩ := id H
    have i4 : I a ((4 : Nat) : Int) = T := HC.2.1
    have tt := HC.2.2.2.1
    obtain ⟨y1, y2, y3, y4, y5, y6, y7, y8⟩ := id Y
    have m112 : m 112 = m0 112 := fm.1 112 (by decide) (by decide) (by decide) (by decide) (by decide) (by decide)
    have bo : b < a + 1 ∨ a + 6 < b := by
      have q1 := hb 1 (by decide)
      have q2 := hb 2 (by decide)
      have q3 := hb 3 (by decide)
      have q4 := hb 4 (by decide)
      have q5 := hb 5 (by decide)
      have q6 := hb 6 (by decide)
      omega
    have Y' : BySm s Q I m a b len := ⟨y1, y2, by rw [fI a (by omega)]; exact y3, y4, y5, y6, by rw [fm.2 47 (by decide)]; exact y7, by rw [fI b bo, m112]; exact y8⟩
    obtain ⟨r, I', m', e1, e2, g1, g2, g3⟩ := head1 (p := p) F h6 Y' l1 hb HC HM (by rw [fm.2 32 (by decide)]; exact hc) (by omega) (fun j j0 j1 => (eq5 j j0 j1).1) (fun j j0 j1 => (eq5 j j0 j1).2.1) (by omega) pl
    have gI : ∀ c, (c < a + 1 ∨ a + 6 < c) → I' c = I0 c := fun c hc => (g1 c hc).trans (fI c hc)
    have m76 : m' 76 = m 76 := g2 76 (by decide) (by decide) (by decide) (by decide)
    have gm : (∀ c, c ≠ 76 → c ≠ 102 → c ≠ 103 → c ≠ 104 → c ≠ 105 → c ≠ 106 → m' c = m0 c) ∧ ∀ k : Int, k ≠ 35 → m' 76 k = m0 76 k := ⟨fun c q1 q2 q3 q4 q5 q6 => (g2 c q2 q3 q4 q5).trans (fm.1 c q1 q2 q3 q4 q5 q6), fun k hk => by rw [m76]; exact fm.2 k hk⟩
    have sC : jd_29_s133 a p (n : Int) (hh s Q I) = if jw r < 0 then ((jgr (hh s Q I') a 2 10).bind fun r74 => ((r74).bind fun a76 => ((jai (hh s Q I') a76 n).bind fun v78 => some (.inl ((p + (5 + v78)), ((n : Int) + 1), hh s Q I'))))) else some (.inr (.inl (r, hh s Q I'))) := by
      unfold jd_29_s133
      rw [F_gi F, Option.bind_some, i4, n_jw (z := T) (by omega) (by omega), n_jw (z := (n : Int)) (by omega) (by omega), if_neg (by omega), F_ck F, Option.bind_some, e1, Option.bind_some]
    have sM : jd_301_s69 T p m = if jw r = (-1) then ((jmw m' 106 (m' 76 35) p).bind fun m26 => ((jma m26 105 (m26 76 35)).bind fun v28 => ((some (jms m26 76 35 ((m26 76 35) + 1))).bind fun m30 => some (.inl ((p + (5 + v28)), m30))))) else some (.inr (.inl (r, m'))) := by
      unfold jd_301_s69
      rw [HM.1, n_jw (z := T) (by omega) (by omega), n_jw (z := (n : Int)) (by omega) (by omega), if_neg (by omega), e2, Option.bind_some]
    by_cases cr : r = -1
    · subst cr
      rcases g3 with g3 | ⟨-, KD, PL, TL, ⟨t1, t2, t3, t4, t5, t6⟩, u2, u3, u4, u5⟩
      · omega
      · rw [m112] at KD PL t1 t2 t3 t4 t6 u2 u3 u4 u5
        unfold hTail at TL
        rw [m112] at TL
        obtain ⟨⟨b2, s0, s1⟩, b3, b4, zz, fit⟩ := TL
        generalize hkd : m0 112 p % 256 = kd at *
        generalize hx : m0 112 (p + 1) % 256 = x at *
        generalize hS : m0 112 (p + 2) % 256 = S at *
        generalize hZ : 256 * (m0 112 (p + 3) % 256) + m0 112 (p + 4) % 256 = Z at *
        have e10 : Q a ((10 : Nat) : Int) = some (a + 4) := F_q F 3 10 rfl rfl
        have zn : I' (a + 4) (n : Int) = Z := by rw [t4]; exact if_pos rfl
        have mn : m' 76 35 = n := by rw [m76]; exact HM.1
        generalize hm2 : jms (jms m' 106 (n : Int) p) 76 35 ((n : Int) + 1) = m2
        have sC2 : jd_29_s133 a p (n : Int) (hh s Q I) = some (.inl (p + (5 + Z), ((n + 1 : Nat) : Int), hh s Q I')) := by
          rw [sC, if_pos (by decide), F_gr F, Option.bind_some, e10, Option.bind_some, F_ai F h6 4 12 rfl rfl rfl (by omega) (by omega), Option.bind_some, zn, show ((n + 1 : Nat) : Int) = (n : Int) + 1 by omega]
        have sM2 : jd_301_s69 T p m = some (.inl (p + (5 + Z), m2)) := by
          have w1 : jms m' 106 (n : Int) p 76 35 = n := mn
          have w2 : jms m' 106 (n : Int) p 105 (n : Int) = Z := by rw [jms_o (by decide), u5]; exact if_pos rfl
          rw [sM, if_pos (by decide), mn, y_mw 106 12 rfl rfl (by omega) (by omega), Option.bind_some, w1, y_ma 105 12 rfl rfl (by omega) (by omega), Option.bind_some, w2, Option.bind_some, hm2]
        have v6 : m2 106 = jiu (m 106) n p := by rw [← hm2, jms_o (by decide), jms_at, g2 106 (by decide) (by decide) (by decide) (by decide)]
        have vo : ∀ c, c ≠ 76 → c ≠ 106 → m2 c = m' c := fun c q1 q2 => by rw [← hm2, jms_o q1, jms_o q2]
        have v2 : m2 102 = jiu (m 102) n kd := (vo 102 (by decide) (by decide)).trans u2
        have v3 : m2 103 = jiu (m 103) n x := (vo 103 (by decide) (by decide)).trans u3
        have v4 : m2 104 = jiu (m 104) n S := (vo 104 (by decide) (by decide)).trans u4
        have v5 : m2 105 = jiu (m 105) n Z := (vo 105 (by decide) (by decide)).trans u5
        have lo : ∀ (g : Int → Int) (v j : Int), j < (n : Int) → jiu g n v j = g j := fun g v j h => if_neg (by omega)
        have at' : ∀ (g : Int → Int) (v : Int), jiu g n v n = v := fun g v => if_pos rfl
        have PLI : plOk (I (a + 1)) (I (a + 2)) T n kd x := (plOk_c (fun j j0 j1 => (eq5 j j0 j1).1.symm) (fun j j0 j1 => (eq5 j j0 j1).2.1.symm) KD.2.2.2.2.2.1).mp PL
        have H2 : HS I0 m0 a T cod len (n + 1) (p + (5 + Z)) I' m2 := by
          refine ⟨gI, ⟨fun c q1 q2 q3 q4 q5 q6 => (vo c q1 q6).trans (gm.1 c q1 q2 q3 q4 q5 q6), fun k hk => ?_⟩, ?_, ⟨?_, ?_, ⟨by omega, tt.2.2⟩, fun j j0 j1 => ?_⟩, fun j j0 j1 => ?_, fun k k0 k1 => ?_, fun _ => ?_, ⟨fun h => absurd h (by omega), fun _ => ?_⟩, by omega, by omega⟩
          · rw [← hm2, jms_i hk, jms_o (by decide)]
            exact gm.2 k hk
          · exact HdC_s HC (by omega) ⟨KD.1, KD.2.1⟩ KD.2.2.1 PLI (by rw [g1 a (by omega)]) (by rw [g1 a (by omega)]) t1 t2 t6
          · rw [← hm2, jms_e]
            omega
          · rw [← hm2, jms_i (by decide), jms_o (by decide), m76]
            exact HM.2.1
          · rw [v2, v3]
            by_cases ej : j = n
            · rw [ej, at', at']
              exact ⟨⟨KD.1, KD.2.1⟩, PL.1⟩
            · rw [lo _ _ j (by omega), lo _ _ j (by omega)]
              exact HM.2.2.2 j j0 (by omega)
          · rw [v2, v3, v4, v5, v6, t1, t2, t3, t4, t5, t6]
            by_cases ej : j = n
            · rw [ej, at', at', at', at', at', at', at', at', at', at']
              exact ⟨rfl, rfl, rfl, rfl, rfl, if_pos rfl⟩
            · have q := eq5 j j0 (by omega)
              rw [lo _ _ j (by omega), lo _ _ j (by omega), lo _ _ j (by omega), lo _ _ j (by omega), lo _ _ j (by omega), lo _ _ j (by omega), lo _ _ j (by omega), lo _ _ j (by omega), lo _ _ j (by omega), lo _ _ j (by omega)]
              refine ⟨q.1, q.2.1, q.2.2.1, q.2.2.2.1, q.2.2.2.2.1, ?_⟩
              exact (if_neg (fun e => PL.2.1 ⟨j, j0, by omega, e⟩)).trans q.2.2.2.2.2
          · rw [v2, v3, v4, v5, v6]
            by_cases ek : k = n
            · rw [ek]
              exact PVb_n (len := len) KD PL hp s0 s1 ⟨by omega, zz⟩ ⟨hkd, hx, hS, hZ⟩
            · exact PVb_c k0 (fun j j0 j1 => lo _ _ j (by omega)) (fun j j0 j1 => lo _ _ j (by omega)) (fun j j0 j1 => lo _ _ j (by omega)) (fun j j0 j1 => lo _ _ j (by omega)) (fun j j0 j1 => lo _ _ j (by omega)) (pv k k0 (by omega))
          · rw [v2, v6]
            by_cases en : n = 0
            · have q1 := KD.2.2.1 en
              have q2 := hp.1 en
              subst en
              exact ⟨(if_pos rfl).trans q1, (if_pos rfl).trans q2⟩
            · rw [lo _ _ 0 (by omega), lo _ _ 0 (by omega)]
              exact z0 (by omega)
          · rw [v6, v5, show ((n + 1 : Nat) : Int) - 1 = (n : Int) by omega, at', at']
            omega
        obtain ⟨r2, I2, m3, k1, k2, k3⟩ := ih (n + 1) (p + (5 + Z)) I' m2 (by omega) H2 fu fu' (by omega) (by omega)
        refine ⟨r2, I2, m3, k1, k2, ?_⟩
        rcases k3 with ⟨q0, q1, q2⟩ | ⟨q1, q2, q3⟩
        · exact Or.inl ⟨q0, (jlp_i sC2).trans q1, (jlp_i sM2).trans q2⟩
        · exact Or.inr ⟨(jlp_i sC2).trans q1, (jlp_i sM2).trans q2, q3⟩
    · have r00 : 0 ≤ r ∧ r ≤ len := by
        rcases g3 with g | g
        · exact g
        · exact absurd g.1 cr
      have r0 := r00.1
      have hr : r < 2147483648 := by omega
      refine ⟨r, I', m', gI, gm, Or.inl ⟨r00, jlp_r ?_, jlp_r ?_⟩⟩
      · dsimp only
        rw [sC, n_jw (by omega) hr, if_neg (by omega)]
      · dsimp only
        rw [sM, n_jw (by omega) hr, if_neg (by omega)]
end Heads71
