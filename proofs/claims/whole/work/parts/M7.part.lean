/-! making: a part, both sides -/
section PartAll
variable {s : hS} {Q Q' : hQ} {hm : hO} {I J m m' M : jM} {p b b1 b2 src T : Nat} {w h X Y k kd st q a1 a2 n rc : Int} {W G g g' : Int → Int} {x7 : Int}
theorem By_c {n : Int} (B : By I b g n) (h : ∀ i : Int, 0 ≤ i → i < n → g' i = g i) : By I b g' n := by
  refine ⟨fun j j0 j1 => ?_, fun i i0 i1 => by rw [h i i0 i1]; exact B.2 i i0 i1⟩
  have e : ∀ k : Nat, eb g' n j k = eb g n j k := fun k => by
    unfold eb
    by_cases c : 8 * j + (k : Int) < n
    · rw [if_pos c, if_pos c, h _ (by omega) c]
    · rw [if_neg c, if_neg c]
  rw [B.1 j j0 j1]
  unfold pk
  rw [e 0, e 1, e 2, e 3, e 4, e 5, e 6, e 7]
theorem WX_c {n : Int} (X : WX s Q T I n g) (h : ∀ i : Int, 0 ≤ i → i < n → g' i = g i) : WX s Q T I n g' := by
  obtain ⟨x1, x2, x3⟩ := X
  refine ⟨x1, x2, ?_⟩
  rcases x3 with x3 | ⟨b, x3, x4⟩
  · exact Or.inl x3
  · exact Or.inr ⟨b, x3, By_c x4 h⟩
theorem WX_I {n : Int} (X : WX s Q T I n g) (hQ : Q' T = Q T) (hT : J T = I T) (hb : ∀ b : Nat, Q T 0 = some b → J b = I b) : WX s Q' T J n g := by
  obtain ⟨x1, x2, x3⟩ := X
  refine ⟨by rw [hT]; exact x1, x2, ?_⟩
  rcases x3 with ⟨y1, y2, y3⟩ | ⟨b, ⟨y1, y2, y3, y4⟩, z1, z2⟩
  · exact Or.inl ⟨y1, y2, by rw [hQ]; exact y3⟩
  · exact Or.inr ⟨b, ⟨y1, y2, y3, by rw [hQ]; exact y4⟩, fun j j0 j1 => by rw [hb b y4]; exact z1 j j0 j1, z2⟩
/-- the writer's bytes are no picture's -/
theorem WX_p {n : Int} (X : WX s Q T I n g) (P : PcC s Q p) {b : Nat} (hb : Q T 0 = some b) : b ≠ p ∧ b ≠ p + 1 := by
  rcases X.2.2 with ⟨-, -, y3⟩ | ⟨b', ⟨-, y2, -, y4⟩, -⟩
  · rw [y3] at hb
    cases hb
  · rw [y4] at hb
    cases hb
    refine ⟨fun e => ?_, fun e => ?_⟩
    · have := y2.2.1
      rw [e, P.2.2.1] at this
      exact absurd this (by decide)
    · have := y2.2.1
      rw [e, P.2.2.2.2.1] at this
      exact absurd this (by decide)
/-- what a made part leaves as it was -/
def QF (Q : hQ) (p : Nat) (I I' m m' : jM) (k : Int) : Prop := (∀ x : Nat, ¬ (43 ≤ x ∧ x ≤ 60) → x ≠ p + 1 → Q 43 0 ≠ some x → I' x = I x) ∧ (∀ z : Int, z ≠ 1 → I' 43 z = I 43 z) ∧ (∀ z : Int, z ≠ 5 → z ≠ 6 → I' 45 z = I 45 z) ∧ (∀ c : Nat, c ≠ 76 → c ≠ 109 → c ≠ 111 → ¬ (113 ≤ c ∧ c ≤ 117) → ¬ (122 ≤ c ∧ c ≤ 125) → m' c = m c) ∧ (∀ z : Int, z ≠ 53 → ¬ (59 ≤ z ∧ z ≤ 65) → ¬ (74 ≤ z ∧ z ≤ 77) → m' 76 z = m 76 z) ∧ (∀ j : Int, j < 864 * k ∨ 864 * k + 864 ≤ j → m' 109 j = m 109 j) ∧ ∀ j : Int, j < 63 * k ∨ 63 * k + 63 ≤ j → m' 111 j = m 111 j
theorem part1 (L : Lay s Q hm) (h6 : s.1 ≤ 1000000) (S : MP s Q I m p b1 b2 src w h k kd st q a1 a2 n rc) (q0 : 0 ≤ q) (q1 : q < w / 8 * (h / 8)) (hx7 : x7 = w / 8 * (h / 8)) : ∃ (I' m' : jM) (n' : Int), jd_16_s46 44 (some 43) (some src) rc x7 q (hh s Q I) = some (.inl (q + 1, hh s (rms Q 55 0 none) I')) ∧ jd_285 k q st m = some m' ∧ MP s (rms Q 55 0 none) I' m' p b1 b2 src w h k kd st (q + 1) a1 a2 n' rc ∧ QF Q p I I' m m' k := by
  obtain ⟨X, hX⟩ : ∃ X, q % (w / 8) = X := ⟨_, rfl⟩
  obtain ⟨Y, hY⟩ : ∃ Y, q / (w / 8) = Y := ⟨_, rfl⟩
  obtain ⟨I3, m3, G, fd, PSS, c1, e1, ⟨U1, U2, U3, U4⟩, h75⟩ := prep (x1 := some 43) L h6 S hX hY q0 q1 hx7
  have S' := S
  obtain ⟨⟨P, q2⟩, ⟨hw, hh', sw, sh⟩, ⟨eK, eS⟩, ⟨k0, k2, s0, s1⟩, ⟨mw, mh, mk, kk0, kk1⟩, PE, R1, R2, ⟨PS, ws, hs, sp, cc0, cc1, srcE⟩, vec, ⟨wx, m53, nb, wt⟩, hrc, rc0, rc8⟩ := S
  have mr := mm_r sw sh q0 q1
  rw [hX, hY] at mr
  have q9 := mr.2.2.2.2
  have n0 := wx.2.1
  have p153 := P.1
  have hq := qxy hX hY
  obtain ⟨I4, m4, e2, e3, TF4, TM4, wy, md, wy0, wy1, hmd, BCc, BMm⟩ := ways (x1 := some 43) (x4 := some src) (x6 := rc) (x7 := x7) (x8 := q) (n := n) L h6 PSS n0 (by omega) h75
  have L1 : Lay s (rms Q 55 0 none) hm := Lay_rms (k := 0) L rfl
  have T1 := PtC_45 L1
  have wb := (wC_b PSS wy0 wy1 hmd).1
  have wmb := fun z (z0 : 0 ≤ z) (z1 : z < 96) => (wM_b PSS wy0 wy1 hmd (z := z) z0 z1).2
  have l01 : ∀ x ∈ wB m3 w h X Y k kd st a1 a2 wy md (wS m k w X Y) G fd, x = 0 ∨ x = 1 := fun x hx => pB_01 x hx
  have vwb := fun i (i0 : 0 ≤ i) (i1 : i < 4) => Vw_b (md := md) PSS i0 i1
  have gsb := PSS.2.2.2.2.2.2.2.2.2.2.2.1
  have u1 : 0 ≤ md := by rw [← hmd]; exact (mdW_t k0 k2 wy0 wy1).1
  have u2 : md ≤ 6 := by rw [← hmd]; exact (mdW_t k0 k2 wy0 wy1).2.1
  have w7 := (tl_k k0 k2 wy0 wy1).2.2.2.2
  obtain ⟨V, hV⟩ : ∃ V, V = Vw md kd fd G := ⟨_, rfl⟩
  obtain ⟨lv, hlv⟩ : ∃ lv, lv = wL m3 w h X Y k kd st a1 a2 md (wS m k w X Y) G fd := ⟨_, rfl⟩
  obtain ⟨Md, hMd⟩ : ∃ Md, Md = wM m3 w h X Y k kd st a1 a2 md (wS m k w X Y) G fd := ⟨_, rfl⟩
  have hl : ∀ b j : Int, -4095 ≤ lv b j ∧ lv b j ≤ 4095 := fun b j => by rw [hlv]; exact lvP_b s0
  have eB : wB m3 w h X Y k kd st a1 a2 wy md (wS m k w X Y) G fd = pB wy md V G lv := by rw [hV, hlv]; rfl
  obtain ⟨l, hpl⟩ : ∃ l, pB wy md V G lv = l := ⟨_, rfl⟩
  rw [eB, hpl] at wb l01
  rw [eB, hpl, ← hMd, ← hV] at BMm
  rw [← hMd, ← hV, ← hlv] at BCc
  rw [← hMd] at wmb
  rw [← hV] at vwb
  obtain ⟨B1, B2, B3, B4, B5⟩ := BCc
  -- the model's end
  obtain ⟨m', f1, f2, f3, f4, f5, f6, f7, f8, f9, f10⟩ := k_138 (m4 := m4) (w := w) (h := h) (X := X) (Y := Y) (st := st) (Md := Md) (V := V) (l := l) sw sh (by rw [TM4.2.1 33 (by decide) (by decide) (by decide) (by decide), U4 33 (by decide) (by decide) (by decide)]; exact mw) kk0 kk1 q0 q1 hX hY n0 (by omega) e3 BMm wb l01 wmb
  -- the class's end
  obtain ⟨I5, g1, g2, g3, g4⟩ := c_19 (I := I4) L1
  have e45 : I5 45 = I3 45 := by rw [g4 45 (by decide) (by decide) (by decide)]; exact TF4.2.1
  have hi5 : ∀ x : Nat, 61 ≤ x → I5 x = I x := fun x hx => by
    rw [g4 x (by omega) (by omega) (by omega), TF4.1 x (by omega) (by omega) (by omega)]
    exact U1 x (by omega) (by omega) (by omega) (by omega) (by omega) (by omega) (by omega) (by omega)
  have P1 : PcC s (rms Q 55 0 none) p := PcC_q (fun x hx => rms_o (by omega)) P
  have q21 : rms Q 55 0 none 45 2 = some p := by rw [rms_o (by decide)]; exact q2
  have psm45 := PSS.2.2.1
  obtain ⟨Gp, e5, hGp⟩ := c_93 (I := I5) (T := 45) (p := p) (X := X) (Y := Y) T1 P1 (by rw [hi5 p (by omega)]; exact hw) (by rw [hi5 p (by omega)]; exact hh') sw sh (by rw [e45]; exact psm45.2.2.1) (by rw [e45]; exact psm45.2.2.2) mr.1 mr.2.1 mr.2.2.1 mr.2.2.2.1
  obtain ⟨I6, hI6⟩ : ∃ I6, I6 = ims I5 (p + 1) Gp := ⟨_, rfl⟩
  rw [← hI6] at e5
  have o6 : ∀ x : Nat, x ≠ p + 1 → I6 x = I5 x := fun x hx => by rw [hI6, ims_o hx]
  have i43 : I5 43 = I 43 := by
    rw [g4 43 (by decide) (by decide) (by decide), TF4.1 43 (by decide) (by decide) (by decide)]
    exact U1 43 (by decide) (by decide) (by decide) (by decide) (by decide) (by decide) (by decide) (by decide)
  have wx6 : WX s (rms Q 55 0 none) 43 I6 n (m 113) := WX_I wx (rms_o (by decide)) (by rw [o6 43 (by omega), i43]) (fun b hb => by
    have := WX_p wx P hb
    have b153 := wt.2 b hb
    rw [o6 b this.2, hi5 b (by omega)])
  have wt6 : WT (rms Q 55 0 none) 43 := ⟨wt.1, fun c hc => wt.2 c (by rw [rms_o (by decide)] at hc; exact hc)⟩
  have lv6 : md ≠ 0 → ∀ b i : Int, 0 ≤ b → b < 6 → 0 ≤ i → i < 16 → I6 49 (16 * b + i) = lv b i := fun hm b i b0 b1 i0 i1 => by
    rw [o6 49 (by omega), (g2 (16 * b + i) (by omega) (by omega)).2]
    exact B4 hm b i b0 b1 i0 i1
  have i6_50 : ∀ i : Int, 0 ≤ i → i < 4 → I6 50 i = V i := fun i i0 i1 => by
    rw [o6 50 (by omega), g3 i i0 i1]
    exact B5 i i0 i1
  have i6_51 : ∀ i : Int, 0 ≤ i → i < 4 → I6 51 i = G i := fun i i0 i1 => by
    rw [o6 51 (by omega), g4 51 (by decide) (by decide) (by decide), TF4.1 51 (by decide) (by decide) (by decide)]
    exact (gsb i i0 i1).1
  have e456 : I6 45 = I3 45 := by rw [o6 45 (by omega), e45]
  obtain ⟨I7, e6, X7, N7⟩ := c_20 (I := I6) (T := 43) (n := n) (g := m 113) (way := wy) (md := md) (kd := kd) (V := V) (G := G) (lv := lv) L1 h6 wt6 wx6 (by rw [e456]; exact psm45.1) k0 k2 wy0 (by omega) hmd u1 u2 (fun i i0 i1 => by
    have a := vwb i i0 i1
    have b := (gsb i i0 i1).2
    exact ⟨i6_50 i i0 i1, i6_51 i i0 i1, by omega, by omega⟩) hl lv6 (by omega)
  rw [hpl] at X7
  have q43 : rms Q 55 0 none 43 = Q 43 := rms_o (by decide)
  have o7 : ∀ x : Nat, x ≠ 43 → Q 43 0 ≠ some x → I7 x = I6 x := fun x x1 x2 => N7.1 x x1 (by rw [q43]; exact x2)
  have lo7 : ∀ x : Nat, 44 ≤ x → x < 76 → I7 x = I6 x := fun x x1 x2 => o7 x (by omega) (fun e => by have := wt.2 x e; omega)
  have pb7 : ∀ {c : Nat}, PcC s Q c → I7 c = I6 c ∧ I7 (c + 1) = I6 (c + 1) := fun {c} hc => by
    have c153 := hc.1
    exact ⟨o7 c (by omega) (fun e => (WX_p wx hc e).1 rfl), o7 (c + 1) (by omega) (fun e => (WX_p wx hc e).2 rfl)⟩
  have pc7 : ∀ {c : Nat}, PcC s Q c → c ≠ p → I7 c = I c ∧ I7 (c + 1) = I (c + 1) := fun {c} hc ne => by
    have c153 := hc.1
    have t1 : c ≠ p + 1 := fun e => by
      have := hc.2.2.1
      rw [e, P.2.2.2.2.1] at this
      exact absurd this (by decide)
    have t2 : c + 1 ≠ p + 1 := by omega
    obtain ⟨y1, y2⟩ := pb7 hc
    exact ⟨by rw [y1, o6 c t1, hi5 c (by omega)], by rw [y2, o6 (c + 1) t2, hi5 (c + 1) (by omega)]⟩
  have p7 : I7 p = I p := by rw [(pb7 P).1, o6 p (by omega), hi5 p (by omega)]
  have p71 : I7 (p + 1) = Gp := by rw [(pb7 P).2, hI6, ims_e]
  have hp1 : I5 (p + 1) = I (p + 1) := hi5 (p + 1) (by omega)
  have mM : ∀ c : Nat, c ≠ 76 → c ≠ 109 → c ≠ 111 → ¬ (113 ≤ c ∧ c ≤ 117) → ¬ (122 ≤ c ∧ c ≤ 125) → m' c = m c := fun c x1 x2 x3 x4 x5 => by
    rw [f2 c x1 x2 x3 (by omega) (by omega) (by omega), TM4.1 c x1 x3 (by omega) (by omega) (by omega) (by omega) (by omega) (by omega) (by omega) (by omega)]
    exact U3 c x1 (by omega)
  have mZ : ∀ z : Int, z ≠ 53 → ¬ (59 ≤ z ∧ z ≤ 65) → ¬ (74 ≤ z ∧ z ≤ 77) → m' 76 z = m 76 z := fun z x1 x2 x3 => by
    rw [f3 z x1, TM4.2.1 z x1 x2 (by omega) (by omega)]
    exact U4 z (by omega) (by omega) (by omega)
  have m4_109 : m4 109 = m 109 := by
    rw [TM4.1 109 (by decide) (by decide) (by decide) (by decide) (by decide) (by decide) (by decide) (by decide) (by decide) (by decide)]
    exact U3 109 (by decide) (by decide)
  have m4_111 : ∀ j : Int, j < 63 * k + 7 * q ∨ 63 * k + 7 * q + 7 ≤ j → m4 111 j = m 111 j := fun j hj => by
    rw [TM4.2.2.1 j hj, U3 111 (by decide) (by decide)]
  have m3_113 : m3 113 = m 113 := U3 113 (by decide) (by decide)
  have RE : ∀ {c : Nat} {a : Int}, RfE s Q I m c w h a → c ≠ p → a ≠ k → RfE s (rms Q 55 0 none) I7 m' c w h a := fun {c} {a} R nc na => by
    obtain ⟨r1, r2, r3, r4, r5, r6⟩ := R
    obtain ⟨y1, y2⟩ := pc7 r1 nc
    refine ⟨PcC_q (fun x hx => rms_o (by omega)) r1, by rw [y1]; exact r2, by rw [y1]; exact r3, r4, r5, fun pl j x0 x1 x2 x3 => ?_⟩
    have ps := pl_sz sw sh x0 x1
    rw [y2, f9 _ (by omega), m4_109]
    exact r6 pl j x0 x1 x2 x3
  refine ⟨I7, m', n + (l.length : Int), ?_, e1.trans f1, ⟨⟨P1, q21⟩, ⟨by rw [p7]; exact hw, by rw [p7]; exact hh', sw, sh⟩, ⟨?_, ?_⟩, ⟨k0, k2, s0, s1⟩, ⟨by rw [mZ 33 (by decide) (by decide) (by decide)]; exact mw, by rw [mZ 34 (by decide) (by decide) (by decide)]; exact mh, by rw [mM 102 (by decide) (by decide) (by decide) (by decide) (by decide)]; exact mk, kk0, kk1⟩, ?_, fun ck => ?_, fun ck => ?_, ?_, fun _ i i0 i1 => ?_, ⟨?_, f4, by omega, wt6⟩, by rw [mM 82 (by decide) (by decide) (by decide) (by decide) (by decide)]; exact hrc, rc0, rc8⟩, ⟨fun x x1 x2 x3 => ?_, fun z hz => ?_, fun z z1 z2 => ?_, mM, mZ, fun j hj => by rw [f9 j hj, m4_109], fun j hj => by rw [f7 j (by omega), m4_111 j (by omega)]⟩⟩
  · have q44_0 : rms Q 55 0 none 44 ((0 : Nat) : Int) = some 45 := Lq L1 rfl
    have q45_2 : rms Q 55 0 none 45 ((2 : Nat) : Int) = some p := q21
    have q45_9 : rms Q 55 0 none 45 ((9 : Nat) : Int) = some 48 := T_q T1 3 9 rfl rfl rfl
    have i447 : I6 44 ((7 : Nat) : Int) = wy := by
      rw [o6 44 (by omega), g4 44 (by decide) (by decide) (by decide)]
      exact B1
    have e5' : jd_93 45 (some p) (some 48) 1 (hh s (rms Q 55 0 none) I5) = some (hh s (rms Q 55 0 none) I6) := e5
    rw [c1]
    unfold jd_16_b125
    rw [e2, Option.bind_some, y_ck L1 44 1 rfl rfl, Option.bind_some, g1, Option.bind_some, y_gr L1 44 1 rfl rfl, Option.bind_some, q44_0, Option.bind_some, Option.bind_some, T_gr T1, Option.bind_some, q45_2, Option.bind_some, Option.bind_some, T_gr T1, Option.bind_some, q45_9, Option.bind_some, T_ck T1, Option.bind_some, e5', Option.bind_some, y_gi L1 44 1 rfl rfl, Option.bind_some, i447, y_ck L1 44 1 rfl rfl, Option.bind_some, e6, Option.bind_some]
  · rw [lo7 45 (by decide) (by decide), e456]
    exact psm45.1
  · rw [lo7 45 (by decide) (by decide), e456]
    exact psm45.2.1
  · intro pl x y x0 x1 x2 x3 x4 x5 hlt
    obtain ⟨y1, y2⟩ := hGp pl x y x0 x1 x2 x3 x4 x5
    obtain ⟨z1, z2⟩ := f10 pl x y x0 x1 x2 x3 x4 x5
    have iff := prt_q (q := q) sw x0 x1 x2 x3 x4 mr.1 mr.2.1 hq
    rw [p71]
    by_cases hin : inP pl X Y x y
    · obtain ⟨i1, i2, i3, i4⟩ := id hin
      have v := plz_v (pl := pl) (r := y - Y * sdOf pl) (c := x - X * sdOf pl) x0 x1 (by omega) (by omega) (by omega) (by omega)
      rw [y1 hin, z1 hin, show I5 (45 + 3) = I5 48 from rfl, (g2 _ v.2.2.2.1 v.2.2.2.2).1, B3 _ v.2.2.2.1 v.2.2.2.2]
      exact ⟨rfl, wmb _ v.2.2.2.1 v.2.2.2.2⟩
    · rw [y2 hin, z2 hin, hp1, m4_109]
      refine PE pl x y x0 x1 x2 x3 x4 x5 ?_
      have : ¬ y / sdOf pl * (w / 8) + x / sdOf pl = q := fun e => hin (iff.mp e)
      omega
  · obtain ⟨⟨y1, y2, y3⟩, y4, y5⟩ := R1 ck
    exact ⟨⟨by rw [rms_o (by decide)]; exact y1, RE y2 y4 y5, fun m'' z1 z2 => y3 m'' (by rw [z1, mZ 36 (by decide) (by decide) (by decide)]) (by rw [z2, mM 102 (by decide) (by decide) (by decide) (by decide) (by decide)])⟩, y4, y5⟩
  · obtain ⟨⟨y1, y2, y3⟩, y4, y5⟩ := R2 ck
    exact ⟨⟨by rw [rms_o (by decide)]; exact y1, RE y2 y4 y5, fun m'' z1 z2 => y3 m'' (by rw [z1, mZ 36 (by decide) (by decide) (by decide)]) (by rw [z2, mM 102 (by decide) (by decide) (by decide) (by decide) (by decide)])⟩, y4, y5⟩
  · obtain ⟨y1, y2⟩ := pc7 PS sp
    have e103 := mM 103 (by decide) (by decide) (by decide) (by decide) (by decide)
    have e121 := mM 121 (by decide) (by decide) (by decide) (by decide) (by decide)
    refine ⟨PcC_q (fun x hx => rms_o (by omega)) PS, by rw [y1]; exact ws, by rw [y1]; exact hs, sp, by rw [e103]; exact cc0, by rw [e103]; exact cc1, fun pl j x0 x1 x2 x3 => ?_⟩
    rw [y2, e103, e121]
    exact srcE pl j x0 x1 x2 x3
  · rw [lo7 50 (by decide) (by decide), i6_50 i i0 i1, show q + 1 - 1 = q by omega, f8 i i0 i1]
    exact ⟨rfl, vwb i i0 i1⟩
  · refine WX_c X7 (fun i i0 i1 => ?_)
    by_cases c : i < n
    · rw [f5 i c, gW_lo c, TM4.2.2.2 i c, m3_113]
    · have a := f6 (i - n) (by omega) (by omega)
      rw [show n + (i - n) = i by omega] at a
      have b := gW_in (n := n) (g := m 113) (l := l) (i := i - n) (by omega) (by omega)
      rw [show n + (i - n) = i by omega] at b
      rw [a, b]
  · rw [o7 x (by omega) x3, o6 x x2, g4 x (by omega) (by omega) (by omega), TF4.1 x (by omega) (by omega) (by omega)]
    exact U1 x (by omega) (by omega) (by omega) (by omega) (by omega) (by omega) (by omega) (by omega)
  · rw [N7.2 z hz, o6 43 (by omega), i43]
  · rw [lo7 45 (by decide) (by decide), e456]
    exact U2 z z1 z2
end PartAll
