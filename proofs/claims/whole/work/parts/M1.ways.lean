/-! making: one way tried, model; what stays -/
section WaysM
variable {s : hS} {Q Q' : hQ} {I J m m' M : jM} {p b1 b2 : Nat} {w h X Y k kd st q a1 a2 way md n : Int} {W G fd V : Int → Int}
/-- what a tried way leaves as it was, in the model -/
def TM (m m' : jM) (k q n : Int) : Prop := (∀ c : Nat, c ≠ 76 → c ≠ 111 → c ≠ 113 → c ≠ 114 → c ≠ 115 → c ≠ 116 → c ≠ 117 → c ≠ 122 → c ≠ 123 → c ≠ 124 → m' c = m c) ∧ (∀ z : Int, z ≠ 53 → ¬ (59 ≤ z ∧ z ≤ 65) → z ≠ 74 → z ≠ 75 → m' 76 z = m 76 z) ∧ (∀ j : Int, j < 63 * k + 7 * q ∨ 63 * k + 7 * q + 7 ≤ j → m' 111 j = m 111 j) ∧ ∀ i : Int, i < n → m' 113 i = m 113 i
theorem TM_refl : TM m m k q n := ⟨fun _ _ _ _ _ _ _ _ _ _ _ => rfl, fun _ _ _ _ _ => rfl, fun _ _ => rfl, fun _ _ => rfl⟩
theorem TM_t {m2 : jM} (A : TM m m' k q n) (B : TM m' m2 k q n) : TM m m2 k q n := ⟨fun c a1 a2 a3 a4 a5 a6 a7 a8 a9 a10 => (B.1 c a1 a2 a3 a4 a5 a6 a7 a8 a9 a10).trans (A.1 c a1 a2 a3 a4 a5 a6 a7 a8 a9 a10), fun z a1 a2 a3 a4 => (B.2.1 z a1 a2 a3 a4).trans (A.2.1 z a1 a2 a3 a4), fun j hj => (B.2.2.1 j hj).trans (A.2.2.1 j hj), fun i hi => (B.2.2.2 i hi).trans (A.2.2.2 i hi)⟩
theorem gW_lo {g : Int → Int} {l : List Int} {i : Int} (h : i < n) : gW g n l i = g i := by
  unfold gW
  rw [if_neg (by omega)]
theorem gW_in {g : Int → Int} {l : List Int} {i : Int} (h0 : 0 ≤ i) (h1 : i < (l.length : Int)) : gW g n l (n + i) = l.getD i.toNat 0 := by
  unfold gW
  rw [if_pos (by omega), show (n + i - n).toNat = i.toNat by omega]
theorem k_284 (S : PSm s Q I m p b1 b2 w h X Y k kd st q a1 a2 W G fd) (w0 : 0 ≤ way) (w1 : way < jd_262 kd) (hmd : mdW kd way = md) (n0 : 0 ≤ n) (n1 : n ≤ 40000) (h75 : -1 ≤ m 76 75 ∧ m 76 75 ≤ 10000000) : ∃ m', jd_284 k q way st n m = some m' ∧ TM m m' k q n ∧ (m 76 75 < 0 ∨ wC m w h X Y k kd st a1 a2 way md W G fd < m 76 75 → BMd m' (wC m w h X Y k kd st a1 a2 way md W G fd) (wM m w h X Y k kd st a1 a2 md W G fd) (Vw md kd fd G) (wB m w h X Y k kd st a1 a2 way md W G fd)) ∧ (¬ (m 76 75 < 0 ∨ wC m w h X Y k kd st a1 a2 way md W G fd < m 76 75) → m' 122 = m 122 ∧ m' 123 = m 123 ∧ m' 124 = m 124 ∧ m' 76 74 = m 76 74 ∧ m' 76 75 = m 76 75) := by
  obtain ⟨M, P, e1⟩ := k_pre S w0 w1 hmd n0 n1
  obtain ⟨N, A, e2⟩ := k_288 S w0 w1 hmd n0 n1 P
  rw [e1, e2]
  have cb := (wC_b S w0 w1 hmd).2.2
  have ll := (wC_b S w0 w1 hmd).1
  obtain ⟨C, hC⟩ : ∃ C, wC m w h X Y k kd st a1 a2 way md W G fd = C := ⟨_, rfl⟩
  rw [hC] at cb
  rw [hC]
  have l01 : ∀ x ∈ wB m w h X Y k kd st a1 a2 way md W G fd, x = 0 ∨ x = 1 := fun x hx => pB_01 x hx
  obtain ⟨l, hl⟩ : ∃ l, wB m w h X Y k kd st a1 a2 way md W G fd = l := ⟨_, rfl⟩
  obtain ⟨A1, A2, A3, A4, A5, A6, A7⟩ := A
  rw [hl] at A1 A2 l01 ll
  rw [hl]
  obtain ⟨-, ⟨-, -, sw, sh⟩, -, -, ⟨-, -, q0, q1⟩, ⟨-, -, -, kk0, kk1⟩, -⟩ := S
  have mr := mm_r sw sh q0 q1
  have n75 : N 76 75 = m 76 75 := A6 75 (by decide) (by decide) (by decide) (by decide) (by decide) (by decide) (by decide) (by decide)
  have TN : TM m N k q n := ⟨fun c c1 c2 c3 c4 c5 c6 c7 c8 c9 c10 => A7 c c1 c3 c4 c5 c6 c7, fun z z1 z2 z3 z4 => A6 z z1 (by omega) (by omega) (by omega) (by omega) (by omega) (by omega) (by omega), fun j _ => by rw [A7 111 (by decide) (by decide) (by decide) (by decide) (by decide) (by decide)], fun i hi => by rw [A2, gW_lo hi]⟩
  obtain ⟨m2, e3, B, o3, z3, j3⟩ := k_480 (N := N) (k := k) (q := q) (n := n) (C := C) (V := Vw md kd fd G) (Md := wM m w h X Y k kd st a1 a2 md W G fd) (l := l) kk0 kk1 q0 mr.2.2.2.2 n0 n1 A1 ll l01 (fun i i0 i1 => by rw [A2, gW_in i0 i1]) A3 A5
  have T2 : TM m m2 k q n := ⟨fun c c1 c2 c3 c4 c5 c6 c7 c8 c9 c10 => (o3 c c1 c2 c8 c9 c10).trans (TN.1 c c1 c2 c3 c4 c5 c6 c7 c8 c9 c10), fun z z1 z2 z7 z8 => (z3 z z7 z8).trans (TN.2.1 z z1 z2 z7 z8), fun j hj => (j3 j hj).trans (TN.2.2.1 j hj), fun i hi => by rw [o3 113 (by decide) (by decide) (by decide) (by decide) (by decide)]; exact TN.2.2.2 i hi⟩
  rw [n75, n_jwl (z := m 76 75) (by omega) (by omega), n_jwl (z := C) (by omega) (by omega)]
  by_cases c : m 76 75 < 0 ∨ C < m 76 75
  · refine ⟨m2, ?_, T2, fun _ => B, fun h => absurd c h⟩
    by_cases c1 : m 76 75 < 0
    · rw [if_pos c1]
      exact e3
    · rw [if_neg c1, if_pos (by omega)]
      exact e3
  · refine ⟨N, by rw [if_neg (by omega), if_neg (by omega)], TN, fun h => absurd h c, fun _ => ⟨A7 122 (by decide) (by decide) (by decide) (by decide) (by decide) (by decide), A7 123 (by decide) (by decide) (by decide) (by decide) (by decide) (by decide), A7 124 (by decide) (by decide) (by decide) (by decide) (by decide) (by decide), A6 74 (by decide) (by decide) (by decide) (by decide) (by decide) (by decide) (by decide) (by decide), n75⟩⟩
theorem GsP_fr (sw : isSd w) (mw : m 76 33 = w) (mw' : m' 76 33 = w) (kk0 : 0 ≤ k) (kk1 : k < 12) (q0 : 0 ≤ q) (q9 : q < 9) (g : GsP m k q G) (h : ∀ j : Int, j < 63 * k + 7 * q → m' 111 j = m 111 j) : GsP m' k q G := fun m2 z1 z2 i i0 i1 => by
  have e := g (ims m2 111 (m 111)) (by rw [ims_o (by decide), z1, mw', mw]) ims_e i i0 i1
  have t1 := (k_245 (m := m2) (mm := q) sw (z1.trans mw') q0 (by omega)).1
  have t2 := (k_245 (m := ims m2 111 (m 111)) (mm := q) sw (by rw [ims_o (by decide)]; exact z1.trans mw') q0 (by omega)).1
  rw [← e]
  have w1 : w / 8 = 1 ∨ w / 8 = 2 ∨ w / 8 = 3 := by rcases sw with rfl | rfl | rfl <;> decide
  unfold jd_260 jd_260_b21
  rw [t1, t2, Option.bind_some, Option.bind_some]
  by_cases c : jw (q % (w / 8)) = 0
  · rw [if_pos c, if_pos c]
  · rw [if_neg c, if_neg c]
    have q1 : 1 ≤ q := by
      by_cases hq : q = 0
      · rw [hq, Int.zero_emod] at c
        exact absurd (by decide) c
      · omega
    unfold jd_259
    rw [y_ma 111 756 rfl rfl (by omega) (by omega), y_ma 111 756 rfl rfl (by omega) (by omega), ims_e, z2, h _ (by omega)]
theorem PSm_t (S : PSm s Q I m p b1 b2 w h X Y k kd st q a1 a2 W G fd) (hQ : Q' = Q ∨ Q' = rms Q 55 0 none) (F : TF I J) (T : TM m m' k q n) : PSm s Q' J m' p b1 b2 w h X Y k kd st q a1 a2 W G fd := by
  have S' := S
  obtain ⟨⟨P, q2⟩, ⟨hw, hh', sw, sh⟩, ⟨eK, eS, eX, eY⟩, kb, ⟨hX, hY, q0, q1⟩, ⟨mw, mh, mk, kk0, kk1⟩, PE, R1, R2, wt, sp, gs, gp, fb, f1, f2⟩ := S
  have mr := mm_r sw sh q0 q1
  have Qo : ∀ x : Nat, x ≠ 55 → Q' x = Q x := fun x hx => by
    rcases hQ with e | e
    · rw [e]
    · rw [e, rms_o hx]
  have Fo : ∀ x : Nat, 60 ≤ x → J x = I x := fun x hx => F.1 x (by omega) (by omega) (by omega)
  have p153 := P.1
  have P153 : ∀ {b : Nat}, PcC s Q b → PcC s Q' b := fun {b} hb => PcC_q (fun x hx => Qo x (by omega)) hb
  have m109 : m' 109 = m 109 := T.1 109 (by decide) (by decide) (by decide) (by decide) (by decide) (by decide) (by decide) (by decide) (by decide) (by decide)
  have m102 : m' 102 = m 102 := T.1 102 (by decide) (by decide) (by decide) (by decide) (by decide) (by decide) (by decide) (by decide) (by decide) (by decide)
  have m103 : m' 103 = m 103 := T.1 103 (by decide) (by decide) (by decide) (by decide) (by decide) (by decide) (by decide) (by decide) (by decide) (by decide)
  have m121 : m' 121 = m 121 := T.1 121 (by decide) (by decide) (by decide) (by decide) (by decide) (by decide) (by decide) (by decide) (by decide) (by decide)
  have m125 : m' 125 = m 125 := T.1 125 (by decide) (by decide) (by decide) (by decide) (by decide) (by decide) (by decide) (by decide) (by decide) (by decide)
  have z76 : ∀ z : Int, z < 53 → m' 76 z = m 76 z := fun z hz => T.2.1 z (by omega) (by omega) (by omega) (by omega)
  have RE : ∀ {b : Nat} {a : Int}, RfE s Q I m b w h a → RfE s Q' J m' b w h a := fun {b} {a} R => by
    have b153 := R.1.1
    obtain ⟨r1, r2, r3, r4, r5, r6⟩ := R
    refine ⟨P153 r1, by rw [Fo b (by omega)]; exact r2, by rw [Fo b (by omega)]; exact r3, r4, r5, fun pl j x0 x1 x2 x3 => ?_⟩
    rw [Fo (b + 1) (by omega), m109]
    exact r6 pl j x0 x1 x2 x3
  refine ⟨⟨P153 P, by rw [Qo 45 (by decide)]; exact q2⟩, ⟨by rw [Fo p (by omega)]; exact hw, by rw [Fo p (by omega)]; exact hh', sw, sh⟩, ⟨by rw [F.2.1]; exact eK, by rw [F.2.1]; exact eS, by rw [F.2.1]; exact eX, by rw [F.2.1]; exact eY⟩, kb, ⟨hX, hY, q0, q1⟩, ⟨by rw [z76 33 (by decide)]; exact mw, by rw [z76 34 (by decide)]; exact mh, by rw [m102]; exact mk, kk0, kk1⟩, ?_, fun hk => ?_, fun hk => ?_, fun z z0 z1 => by rw [F.1 56 (by decide) (by decide) (by decide)]; exact wt z z0 z1, ⟨fun m2 x1 x2 x3 => sp.1 m2 (by rw [x1, z76 33 (by decide)]) (by rw [x2, m103]) (by rw [x3, m121]), sp.2⟩, fun i i0 i1 => by rw [F.1 51 (by decide) (by decide) (by decide)]; exact gs i i0 i1, ?_, fb, fun hk => by rw [Fo 60 (by decide), m125]; exact f1 hk, fun hk => by rw [Fo 60 (by decide), m125]; exact f2 hk⟩
  · intro pl x y x0 x1 x2 x3 x4 x5 x6
    rw [Fo (p + 1) (by omega), m109]
    exact PE pl x y x0 x1 x2 x3 x4 x5 x6
  · obtain ⟨x1, x2, x3⟩ := R1 hk
    exact ⟨by rw [Qo 45 (by decide)]; exact x1, RE x2, fun m2 y1 y2 => x3 m2 (by rw [y1, z76 36 (by decide)]) (by rw [y2, m102])⟩
  · obtain ⟨x1, x2, x3⟩ := R2 hk
    exact ⟨by rw [Qo 45 (by decide)]; exact x1, RE x2, fun m2 y1 y2 => x3 m2 (by rw [y1, z76 36 (by decide)]) (by rw [y2, m102])⟩
  · exact GsP_fr sw mw (by rw [z76 33 (by decide)]; exact mw) kk0 kk1 q0 mr.2.2.2.2 gp (fun j hj => T.2.2.1 j (Or.inl hj))
end WaysM
