/-! MAKE -/
section MakeAll
variable {s s1 sB : hS} {Q Q1 QB : hQ} {hm hm1 hmB : hO} {I I1 IB m mB : jM} {a : Nat} {f w h T p0 x2 : Int}
/-- the model ahead of making, against the model when the call began -/
def FM (m mB : jM) : Prop := (∀ x : Nat, x ≠ 76 → ¬ (102 ≤ x ∧ x ≤ 130) → mB x = m x) ∧ (∀ j : Int, j ≠ 0 → j < 32 ∨ 84 ≤ j → mB 76 j = m 76 j) ∧ mB 76 0 = 0
theorem mk_fin (R1 : RelH s1 Q1 hm1 I1 m) (hf : m 76 12 = f) (f0 : 0 ≤ f) (f8 : f < 8) (ha : Q1 5 f = some a) (pb' : 0 ≤ p0 ∧ p0 ≤ 2) (LB : Lay sB QB hmB) (SB : Sm (PL f) s1 Q1 hm1 I1 sB QB hmB IB) (i0 : IB 0 = I1 0) (FMB : FM m mB) (h6 : sB.1 + 60 ≤ 1000000) (Z : MkR sB QB hmB IB mB a f p0 x2) : ∃ (v : Int) (s' : hS) (Q' : hQ) (hm' : hO) (I' m' : jM), jd_155_b84 0 p0 (some a) (hh sB QB IB) = some (.inl v, hh s' Q' I') ∧ jd_300_b135 x2 mB = some (v, m') ∧ m' 76 0 = 0 ∧ RelH s' Q' hm' I' m' ∧ Sm (PL f) s1 Q1 hm1 I1 s' Q' hm' I' ∧ s'.1 ≤ sB.1 + 51 ∧ s'.2.1 ≤ sB.2.1 + 72942 := by
  obtain ⟨S, R, H, J, m', ⟨L2, F2⟩, hb2, S2, mo, ⟨gr0, gr1, gr2⟩, alt⟩ := Z
  obtain ⟨fm1, fm2, fm3⟩ := FMB
  have SL : Sm (PL f) s1 Q1 hm1 I1 S R H J := Sm_trans SB (Sm_mono S2 (fun o ho => by unfold PL at ho; unfold PG; omega))
  have j0 : J 0 = I1 0 := (Lay_fr (a := 0) LB S2 (by decide) (by unfold PG; omega)).2.trans i0
  have i8 : I1 0 8 = f := R1.2.2.2.2.2.1.1.trans hf
  have qx : ∀ x : Nat, x ≠ 76 → ¬ (102 ≤ x ∧ x ≤ 130) → m' x = m x := fun x x1 x2 => (mo.1 x x1 (by omega) (by omega)).trans (fm1 x x1 x2)
  have qj : ∀ j : Int, j ≠ 0 → j < 32 ∨ 84 ≤ j → m' 76 j = m 76 j := fun j j1 j2 => (mo.2 j (by omega)).trans (fm2 j j1 j2)
  have q0 : m' 76 0 = 0 := (mo.2 0 (by decide)).trans fm3
  have t15 : QB 0 ((15 : Nat) : Int) = some 42 := Lq LB rfl
  rcases alt with ⟨a1, a2⟩ | ⟨len, a1, a2, B, ⟨l7, l1⟩, kz, ok⟩
  · refine ⟨-1, S, R, H, J, m', ?_, a2, q0, ?_, SL, by omega, by omega⟩
    · unfold jd_155_b84
      rw [y_gr LB 0 11 rfl rfl, Option.bind_some, t15, Option.bind_some, y_ck LB 42 4 rfl rfl, Option.bind_some, a1, Option.bind_some, if_pos (show jw 0 = 0 by decide)]
      rfl
    · exact RelH_mk R1 hf f8 SL L2 ha F2 hb2 (fun y _ => by rw [j0]) ⟨qj 1 (by decide) (by decide), qj 5 (by decide) (by decide), qj 7 (by decide) (by decide), qj 8 (by decide) (by decide), qj 9 (by decide) (by decide), qj 86 (by decide) (by decide), qj 92 (by decide) (by decide)⟩ (fun x hx => qx x (by omega) (by omega)) (fun g g0 gf => ⟨fun x xa xb => by rw [qx x (by omega) (by omega)], fun i _ _ => by rw [qx 89 (by decide) (by decide)], fun x xa xb k _ _ => by rw [qx x (by omega) (by omega)], fun k j _ _ _ _ => by rw [qx 99 (by decide) (by decide), qx 100 (by decide) (by decide)]; exact ⟨rfl, rfl⟩, fun k j _ _ _ _ => by rw [qx 101 (by decide) (by decide)]⟩) (Or.inl ⟨by rw [j0]; exact i8, by rw [qj 12 (by decide) (by decide)]; exact hf⟩)
  · obtain ⟨s', Q', hm', I', m3, d1, d2, d3, d4, d5, d6, d7⟩ := mk_land R1 hf f0 f8 ha SL L2 B hb2 l7 l1 kz j0 q0 qj qx ok (by omega)
    refine ⟨f, s', Q', hm', I', m3, ?_, a2.trans d2, d3, d4, Sm_trans SL (Sm_mono d5 (fun o ho => by unfold PL at ho; unfold PF; omega)), by omega, by omega⟩
    unfold jd_155_b84
    rw [y_gr LB 0 11 rfl rfl, Option.bind_some, t15, Option.bind_some, y_ck LB 42 4 rfl rfl, Option.bind_some, a1, Option.bind_some, if_neg (show ¬ jw 1 = 0 by decide), y_ck L2 0 11 rfl rfl, Option.bind_some, d1, Option.bind_some]
    rfl
theorem si_make (R : RelH s Q hm I m) (h6 : s.1 ≤ 900000) (hp : okI p0) (hr : ∀ (a : Nat) (f w h T : Int), AllQ a f w h T 2) : SimI (jd_155 0 p0 (hh s Q I)) (jd_300 p0 m) (fun E => if E = 0 then 1 else if E = 1 then 2 else 0) s Q I := by
  have L := R.1
  obtain ⟨p1, p2⟩ := hp
  obtain ⟨t1, t2, t3, t4, t5⟩ := id R.2.2.2.2.2.1
  obtain ⟨v1, v2, v3, v4, v5⟩ := id R.2.2.2.2.1
  obtain ⟨T, hT⟩ : ∃ T, m 76 7 = T := ⟨_, rfl⟩
  rw [hT] at v1 v2 v3 v5
  have jp : jw p0 = p0 := n_jw (by omega) (by omega)
  have i6' : I 0 ((6 : Nat) : Int) = T := v1
  have in02 : jw (jd_204 (jw p0) 0 2) = if 0 ≤ p0 ∧ p0 ≤ 2 then 1 else 0 := by
    rw [jp]
    exact x_in (by omega) (by omega) (by decide) (by decide) (by decide) (by decide)
  have th0 : (¬ (0 ≤ p0 ∧ p0 ≤ 2) ∨ T = 0) → SimI (jd_155 0 p0 (hh s Q I)) (jd_300 p0 m) (fun E => if E = 0 then 1 else if E = 1 then 2 else 0) s Q I := fun hh' => by
    refine SimI_th (E := 0) (b := 0) R ?_ ?_ (by decide)
    · have b16 : jd_155_b16 0 (hh s Q I) = some (.inr 0, jth (hh s Q I) 0) := by
        unfold jd_155_b16
        rw [x_6 (by omega), Option.bind_some]
      unfold jd_155
      rw [jp]
      by_cases c1 : p0 < 0
      · rw [if_pos c1, b16]
      · rw [if_neg c1]
        by_cases c2 : 2 < p0
        · rw [if_pos c2, b16]
        · have cT : T = 0 := by omega
          rw [if_neg c2, y_gi L 0 11 rfl rfl, Option.bind_some, i6', cT, if_pos (show jw 0 = 0 by decide), b16]
    · unfold jd_300 jd_300_b38
      have y1 : (if jw (jd_204 (jw p0) 0 2) = 0 then (1 : Int) else (if jw (m 76 7) = 0 then 1 else (if jw (m 76 12) = 8 then 2 else 0))) = 1 := by
        rw [in02, hT]
        by_cases c : 0 ≤ p0 ∧ p0 ≤ 2
        · rw [if_pos c, if_neg (by decide), if_pos (show jw T = 0 by rw [show T = 0 by omega]; decide)]
        · rw [if_neg c, if_pos rfl]
      rw [y1, Option.bind_some, if_neg (show ¬ jw (jms m 76 0 1 76 0) ≤ 0 by rw [jms_e]; decide)]
      rfl
  by_cases nok : ¬ (0 ≤ p0 ∧ p0 ≤ 2)
  · exact th0 (Or.inl nok)
  have ok : 0 ≤ p0 ∧ p0 ≤ 2 := Classical.not_not.mp nok
  by_cases cT : T = 0
  · exact th0 (Or.inr cT)
  have T1 : 1 ≤ T := by omega
  by_cases nn : ¬ m 76 12 < 8
  · have hn := nn
    refine SimI_th (E := 1) (b := 0) R ?_ ?_ (by decide)
    · unfold jd_155
      rw [jp, if_neg (by omega), if_neg (by omega), y_gi L 0 11 rfl rfl, Option.bind_some, i6', n_jw (z := T) (by omega) (by omega), if_neg cT, y_ck L 0 11 rfl rfl, Option.bind_some, c_196n R (by omega) hn, b_jtx]
    · have y0 : jw (m 76 12) = m 76 12 := n_jw (by omega) (by omega)
      unfold jd_300 jd_300_b38
      have y1 : (if jw (jd_204 (jw p0) 0 2) = 0 then (1 : Int) else (if jw (m 76 7) = 0 then 1 else (if jw (m 76 12) = 8 then 2 else 0))) = 2 := by
        rw [in02, hT, if_pos ok, if_neg (by decide), n_jw (z := T) (by omega) (by omega), if_neg cT, y0, if_pos (by omega)]
      rw [y1, Option.bind_some, if_neg (show ¬ jw (jms m 76 0 2 76 0) ≤ 0 by rw [jms_e]; decide)]
      rfl
  have hn : m 76 12 < 8 := Classical.not_not.mp nn
  obtain ⟨a, s1, Q1, hm1, I1, e1, ha, F1, S1, R1, g1, g2⟩ := c_196 R h6 hn
  obtain ⟨f, hf⟩ : ∃ f, m 76 12 = f := ⟨_, rfl⟩
  rw [hf] at ha F1 hn t2
  have L1 := R1.1
  have a153 := F1.1
  obtain ⟨w1, -, -, w4, w5⟩ := id R1.2.2.2.2.1
  rw [hT] at w1 w5
  obtain ⟨w, hw⟩ : ∃ w, m 76 8 = w := ⟨_, rfl⟩
  obtain ⟨h, hh'⟩ : ∃ h, m 76 9 = h := ⟨_, rfl⟩
  rw [hw, hh'] at w5
  have hs : ∀ i : Int, 0 ≤ i → i < T → ∃ b, Q1 4 i = some b ∧ PicAt s1 Q1 hm1 b (100 + i) := fun i i0 i1 => by
    obtain ⟨b, hb, -⟩ := w5 i i0 i1
    exact ⟨b, hb, w4 i i0 (by omega) b hb⟩
  have e60 := c_60 (I := I1) L1 (by omega) v3 hs
  obtain ⟨Q2, hQ2⟩ : ∃ z, z = qTk Q1 T := ⟨_, rfl⟩
  obtain ⟨I2, hI2⟩ : ∃ z, z = jms I1 42 5 T := ⟨_, rfl⟩
  have L2 : Lay s1 Q2 hm1 := by rw [hQ2]; exact Lay_Tk L1
  have q2o : ∀ x : Nat, x ≠ 68 → x ≠ 42 → Q2 x = Q1 x := fun x x1 x2 => by rw [hQ2]; exact qTk_o x1 x2
  have i2o : ∀ x : Nat, x ≠ 42 → I2 x = I1 x := fun x hx => by rw [hI2, jms_o hx]
  have F2 : FilmAt s1 Q2 hm1 a f := FilmAt_q (fun x hx => q2o x (by omega) (by omega)) F1
  rw [← hQ2, ← hI2] at e60
  -- the model
  obtain ⟨m8, hm8⟩ : ∃ z, z = jms (jms (jms (jms m 76 0 0) 76 32 p0) 76 33 w) 76 34 h := ⟨_, rfl⟩
  have m8o : ∀ c : Nat, c ≠ 76 → m8 c = m c := fun c hc => by rw [hm8, jms_o hc, jms_o hc, jms_o hc, jms_o hc]
  have m8z : ∀ z : Int, z ≠ 0 → z ≠ 32 → z ≠ 33 → z ≠ 34 → m8 76 z = m 76 z := fun z z1 z2 z3 z4 => by rw [hm8, jms_i z4, jms_i z3, jms_i z2, jms_i z1]
  have m87 : m8 76 7 = T := by rw [m8z 7 (by decide) (by decide) (by decide) (by decide)]; exact hT
  have k73 := k_300c (m := m8) m87 (by omega) v3
  obtain ⟨mA, hmA⟩ : ∃ z, z = ims m8 121 (fun x => if 0 ≤ x ∧ x < 864 * T then m8 81 x else m8 121 x) := ⟨_, rfl⟩
  rw [← hmA] at k73
  have mAo : ∀ c : Nat, c ≠ 76 → c ≠ 121 → mA c = m c := fun c c1 c2 => by rw [hmA, ims_o c2, m8o c c1]
  have mA76 : mA 76 = m8 76 := by rw [hmA, ims_o (by decide)]
  have mA121 : ∀ x : Int, 0 ≤ x → x < 864 * T → mA 121 x = m 81 x := fun x x0 x1 => by rw [hmA, ims_e, if_pos ⟨x0, x1⟩, m8o 81 (by decide)]
  have A0 : mA 76 0 = 0 := by rw [mA76, hm8, jms_i (by decide), jms_i (by decide), jms_i (by decide), jms_e]
  have A32 : mA 76 32 = p0 := by rw [mA76, hm8, jms_i (by decide), jms_i (by decide), jms_e]
  have A33 : mA 76 33 = w := by rw [mA76, hm8, jms_i (by decide), jms_e]
  have A34 : mA 76 34 = h := by rw [mA76, hm8, jms_e]
  have A7 : mA 76 7 = T := by rw [mA76]; exact m87
  have FA : FM m mA := ⟨fun x x1 x2 => mAo x x1 (by omega), fun j j1 j2 => by rw [mA76, m8z j j1 (by omega) (by omega) (by omega)], A0⟩
  obtain ⟨b0, -, ⟨-, -, sw, sh, -⟩⟩ := w5 0 (Int.le_refl _) (by omega)
  have C : MkP s1 Q2 hm1 I2 mA a f w h T p0 := by
    refine ⟨⟨L2, F2, t2, hn⟩, fun b hb => ?_, ⟨A32, A33, A34, sw, sh⟩, ⟨T1, v3, by rw [hI2, jms_e], ?_⟩, fun k k0 k1 => ?_, fun i i0 i1 => ?_⟩
    · rw [q2o 43 (by decide) (by decide)] at hb
      exact R1.2.2.2.2.2.2.2.2.2.1 b hb
    · rw [hQ2]
      rfl
    · rw [i2o 3 (by decide), mAo 82 (by decide) (by decide)]
      exact R1.2.2.2.1 k k0 k1
    · obtain ⟨b, hb, X⟩ := w5 i i0 i1
      have P := w4 i i0 (by omega) b hb
      have b153 := P.1
      refine ⟨b, ?_, ⟨P.1, P.2.1, P.2.2.1, by rw [q2o b (by omega) (by omega)]; exact P.2.2.2⟩, ?_⟩
      · rw [hQ2]
        show (if 0 ≤ i ∧ i < T then Q1 4 i else Q1 68 i) = some b
        rw [if_pos ⟨i0, i1⟩]
        exact hb
      · refine Pix_c (fun j j0 j1 => ?_) (Pix_fr X (i2o b (by omega)) (i2o (b + 1) (by omega)))
        rw [mA121 _ (by omega) (by omega)]
  have S2 : Sm (PL f) s1 Q1 hm1 I1 s1 Q2 hm1 I2 := ⟨Nat.le_refl _, fun x xs hx => by
    have n42 : x ≠ 42 := fun e => by
      rw [e, Lo L1 rfl] at hx
      unfold PL at hx
      omega
    have n68 : x ≠ 68 := fun e => by
      rw [e, Lo L1 rfl] at hx
      unfold PL at hx
      omega
    exact ⟨rfl, rfl, q2o x n68 n42, i2o x n42, rfl⟩⟩
  have i20 : I2 0 = I1 0 := i2o 0 (by decide)
  have so : ∀ {i : Int}, 0 ≤ i → i < 8 → i ≠ 5 → (jxv 1).getD i.toNat 0 ≤ m 82 i ∧ m 82 i ≤ (jxv 2).getD i.toNat 0 := fun {i} i0 i1 i2 => by
    rcases (R1.2.2.2.1 i i0 i1).2 with ⟨e, -⟩ | e
    · exact absurd e i2
    · exact e
  have so1 : 1 ≤ m 82 1 ∧ m 82 1 ≤ 12 := so (by decide) (by decide) (by decide)
  have so7 : 0 ≤ m 82 7 ∧ m 82 7 ≤ 1 := so (by decide) (by decide) (by decide)
  have fin : ∀ {v : Int} {s' : hS} {Q' : hQ} {hm' : hO} {I' m' : jM}, jd_155 0 p0 (hh s Q I) = some (.inl v, hh s' Q' I') → jd_300 p0 m = some (v, m') → m' 76 0 = 0 → RelH s' Q' hm' I' m' → Sm (PL f) s1 Q1 hm1 I1 s' Q' hm' I' → s'.1 ≤ s1.1 + 76 → s'.2.1 ≤ s1.2.1 + 87346 → SimI (jd_155 0 p0 (hh s Q I)) (jd_300 p0 m) (fun E => if E = 0 then 1 else if E = 1 then 2 else 0) s Q I := fun {v s' Q' hm' I' m'} x1 x2 x3 x4 x5 x6 x7 => by
    have y1 := S1.1
    have y2 := x5.1
    exact Or.inl ⟨v, v, s', Q', I', m', x1, x2, x3, rfl, Kp_of L (P := fun o => 1076 ≤ o) (Sm_trans (Sm_mono S1 (fun o ho => by omega)) (Sm_mono x5 (fun o ho => by unfold PL; omega))) (fun x xa xb => by omega), ⟨by omega, by omega, by omega⟩, hm', x4⟩
  -- both calls as far as the groups
  have em : jd_300 p0 m = if p0 = 0 ∧ m 82 7 = 1 then ((jd_299 mA).bind fun m57 => jd_300_b135 1 m57) else jd_300_b135 0 mA := by
    have y0 : jw (m 76 12) = m 76 12 := n_jw (by omega) (by omega)
    have y1 : (if jw (jd_204 (jw p0) 0 2) = 0 then (1 : Int) else (if jw (m 76 7) = 0 then 1 else (if jw (m 76 12) = 8 then 2 else 0))) = 0 := by
      rw [in02, hT, if_pos ok, if_neg (by decide), n_jw (z := T) (by omega) (by omega), if_neg cT, y0, if_neg (by omega)]
    have z8 : jms (jms m 76 0 0) 76 32 p0 76 8 = w := by rw [jms_i (by decide), jms_i (by decide)]; exact hw
    have z9 : jms (jms (jms m 76 0 0) 76 32 p0) 76 33 w 76 9 = h := by rw [jms_i (by decide), jms_i (by decide), jms_i (by decide)]; exact hh'
    have a827 : mA 82 7 = m 82 7 := by rw [mAo 82 (by decide) (by decide)]
    unfold jd_300 jd_300_b38
    rw [y1, Option.bind_some, if_pos (show jw (jms m 76 0 0 76 0) ≤ 0 by rw [jms_e]; decide), Option.bind_some, z8, Option.bind_some, z9, Option.bind_some, ← hm8, k73, Option.bind_some, A32, jp]
    unfold jd_300_b126
    by_cases c0 : p0 = 0
    · rw [if_pos c0, y_ma 82 8 rfl rfl (by decide) (by decide), Option.bind_some, a827, n_jw (z := m 82 7) (by omega) (by omega)]
      by_cases c7 : m 82 7 = 1
      · rw [if_pos c7, if_neg (show ¬ jw 1 = 0 by decide), if_pos ⟨c0, c7⟩]
      · rw [if_neg c7, if_pos (show jw 0 = 0 by decide), if_neg (fun e => c7 e.2)]
    · rw [if_neg c0, if_pos (show jw 0 = 0 by decide), if_neg (fun e => c0 e.1)]
  have ec : jd_155 0 p0 (hh s Q I) = if p0 = 0 ∧ m 82 7 = 1 then ((jd_62 42 (some a) (hh s1 Q2 I2)).bind fun h43 => jd_155_b84 0 p0 (some a) h43) else jd_155_b76 0 p0 (some a) (hh s1 Q2 I2) := by
    have u15 : Q1 0 ((15 : Nat) : Int) = some 42 := Lq L1 rfl
    have u5 : Q1 0 ((5 : Nat) : Int) = some 4 := Lq L1 rfl
    have u4 : Q1 0 ((4 : Nat) : Int) = some 3 := Lq L1 rfl
    have u15' : Q2 0 ((15 : Nat) : Int) = some 42 := Lq L2 rfl
    have u4' : Q2 0 ((4 : Nat) : Int) = some 3 := Lq L2 rfl
    have w1' : I1 0 ((6 : Nat) : Int) = T := w1
    have i37 : I2 3 7 = m 82 7 := by rw [i2o 3 (by decide)]; exact (R1.2.2.2.1 7 (by decide) (by decide)).1
    unfold jd_155
    rw [jp, if_neg (by omega), if_neg (by omega), y_gi L 0 11 rfl rfl, Option.bind_some, i6', n_jw (z := T) (by omega) (by omega), if_neg cT, y_ck L 0 11 rfl rfl, Option.bind_some, e1, b_jtb, y_gr L1 0 11 rfl rfl, Option.bind_some, u15, y_gr L1 0 11 rfl rfl, Option.bind_some, u5, y_gi L1 0 11 rfl rfl, Option.bind_some, w1', y_gr L1 0 11 rfl rfl, Option.bind_some, u4, Option.bind_some, y_ck L1 42 4 rfl rfl, Option.bind_some, e60, Option.bind_some]
    by_cases c0 : p0 = 0
    · rw [if_pos c0, y_gr L2 0 11 rfl rfl, Option.bind_some, u4', Option.bind_some, y_ai L2 (by omega) 3 8 rfl rfl rfl (by decide) (by decide), Option.bind_some, i37, n_jw (z := m 82 7) (by omega) (by omega)]
      by_cases c7 : m 82 7 = 1
      · rw [if_pos c7, y_gr L2 0 11 rfl rfl, Option.bind_some, u15', Option.bind_some, y_ck L2 42 4 rfl rfl, Option.bind_some, if_pos ⟨c0, c7⟩]
      · rw [if_neg c7, if_neg (fun e => c7 e.2)]
    · rw [if_neg c0, if_neg (fun e => c0 e.1)]
  by_cases pc : p0 = 0 ∧ m 82 7 = 1
  · -- planned
    rw [if_pos pc] at em ec
    have C0 : MkP s1 Q2 hm1 I2 mA a f w h T 0 := by rw [pc.1] at C; exact C
    obtain ⟨SB, QB, hmB, IB, mB, d1, d2, CB, d4, d5, d6, d7, d8, d9⟩ := plan_all C0 (by omega) A7
    have FB : FM m mB := ⟨fun x x1 x2 => (d7.1 x x1 (by omega) (by omega) (by omega) (by omega)).trans (FA.1 x x1 x2), fun j j1 j2 => (d7.2 j (by omega)).trans (FA.2.1 j j1 j2), (d7.2 0 (by decide)).trans A0⟩
    have B7 : mB 76 7 = T := (d7.2 7 (by decide)).trans A7
    have LB := CB.1.1
    have iB0 : IB 0 = I1 0 := (Lay_fr (a := 0) L2 d6 (by decide) (by unfold PJo PH; omega)).2.trans i20
    have SBL : Sm (PL f) s1 Q1 hm1 I1 SB QB hmB IB := Sm_trans S2 (Sm_mono d6 (fun o ho => by unfold PL at ho; unfold PJo PH; omega))
    have MR := mk_all (x2 := 1) CB (by omega) d4 d5 (Or.inl rfl) (fun e => absurd e (by decide)) (fun e => absurd e (by decide)) B7 (fun _ x3 mm mg g g0 gT => k_300p (by rw [mg.2 7 (by decide)]; exact B7) v3 (fun p p0 p1 => by rw [mg.1 130 (by decide) (by decide) (by decide)]) d5 g0 gT) (fun e => absurd rfl e)
    rw [← pc.1] at MR
    obtain ⟨v, s', Q', hm', I', m', x1, x3, x4, x5, x6, x7, x8⟩ := mk_fin R1 hf t2 hn ha ok LB SBL iB0 FB (by omega) MR
    refine fin (v := v) (s' := s') (Q' := Q') (hm' := hm') (I' := I') (m' := m') ?_ ?_ x4 x5 x6 (by omega) (by omega)
    · rw [ec, d1, Option.bind_some, x1]
    · rw [em, d2, Option.bind_some, x3]
  · -- even
    rw [if_neg pc] at em ec
    obtain ⟨L0, hL0⟩ : ∃ L0, L0 = if p0 = 1 then 1 else m 82 1 := ⟨_, rfl⟩
    have Lb : 1 ≤ L0 ∧ L0 ≤ 1000 := by
      rw [hL0]
      by_cases c : p0 = 1
      · rw [if_pos c]; omega
      · rw [if_neg c]; omega
    have i31 : I2 3 1 = m 82 1 := by rw [i2o 3 (by decide)]; exact (R1.2.2.2.1 1 (by decide) (by decide)).1
    have e61 := c_61 (I := I2) (T := T) (cod := p0) (L0 := L0) L2 (by omega) ok C.2.2.2.1.2.2.2 C.2.2.2.1.2.2.1 (by omega) v3 (by rw [i31]; exact hL0) Lb.1 Lb.2
    obtain ⟨I3, hI3⟩ : ∃ z, z = ims I2 69 (fun x => if 0 ≤ x ∧ x < T then evG L0 T x else I2 69 x) := ⟨_, rfl⟩
    rw [← hI3] at e61
    have S3 : Sm (PJo f) s1 Q2 hm1 I2 s1 Q2 hm1 I3 := by
      rw [hI3]
      exact Sm_ims (by rw [Lo L2 rfl]; unfold PJo; omega)
    have CB : MkP s1 Q2 hm1 I3 mA a f w h T p0 := MkP_j C S3 L2 F2 C.2.1 ⟨fun _ _ _ _ _ _ => rfl, fun _ _ => rfl⟩
    have iB0 : I3 0 = I1 0 := by rw [hI3, ims_o (by decide)]; exact i20
    have SBL : Sm (PL f) s1 Q1 hm1 I1 s1 Q2 hm1 I3 := Sm_trans S2 (Sm_mono S3 (fun o ho => by unfold PL at ho; unfold PJo PH; omega))
    have MR := mk_all (x2 := 0) (G := evG L0 T) CB (by omega) (fun p p0 p1 => by rw [hI3, ims_e, if_pos ⟨p0, p1⟩]) (evG_s Lb.1) (by omega) (fun e p q0 q1 => by
      have : L0 = 1 := by rw [hL0, if_pos e]
      unfold evG
      rw [this]
      by_cases c : T - p < 1
      · omega
      · rw [if_neg c]) (fun _ => hr a f w h T) A7 (fun _ x3 mm mg g g0 gT => k_300e (by rw [mg.2 7 (by decide)]; exact A7) (by rw [mg.2 32 (by decide)]; exact A32) ok v3 (by rw [mg.1 82 (by decide) (by decide) (by decide), mAo 82 (by decide) (by decide)]; exact hL0) Lb.1 Lb.2 g0 gT) (fun _ mm mo g g0 gT => k_300e (by rw [mo.2 7 (by decide)]; exact A7) (by rw [mo.2 32 (by decide)]; exact A32) ok v3 (by rw [mo.1 82 (by decide) (by decide) (by decide), mAo 82 (by decide) (by decide)]; exact hL0) Lb.1 Lb.2 g0 gT)
    obtain ⟨v, s', Q', hm', I', m', x1, x3, x4, x5, x6, x7, x8⟩ := mk_fin R1 hf t2 hn ha ok L2 SBL iB0 FA (by omega) MR
    refine fin (v := v) (s' := s') (Q' := Q') (hm' := hm') (I' := I') (m' := m') ?_ ?_ x4 x5 x6 (by omega) (by omega)
    · have u15' : Q2 0 ((15 : Nat) : Int) = some 42 := Lq L2 rfl
      rw [ec]
      unfold jd_155_b76
      rw [y_gr L2 0 11 rfl rfl, Option.bind_some, u15', Option.bind_some, y_ck L2 42 4 rfl rfl, Option.bind_some, e61, Option.bind_some, x1]
    · rw [em, x3]
end MakeAll
