/-! planning: all groups tried at one place, both sides -/
section PlanN
variable {s s' : hS} {Q Q' : hQ} {hm hm' : hO} {I I' m m' : jM} {a : Nat} {f w h T q n d : Int} {X : Int → Int}
def PJo (f o : Int) : Prop := PH f o ∧ o ≠ 1069 ∧ o ≠ 1070
def MI (m m' : jM) : Prop := (∀ c : Nat, c ≠ 76 → ¬ (102 ≤ c ∧ c ≤ 117) → ¬ (122 ≤ c ∧ c ≤ 125) → c ≠ 129 → c ≠ 130 → m' c = m c) ∧ ∀ z : Int, z < 35 ∨ 84 ≤ z → m' 76 z = m 76 z
def PlE (s : hS) (Q : hQ) (hm : hO) (I m : jM) (a : Nat) (f : Int) (S : hS) (R : hQ) (H : hO) (J m' : jM) : Prop := (Lay S R H ∧ FilmAt S R H a f) ∧ Sm (PJo f) s Q hm I S R H J ∧ MI m m' ∧ Gw s Q S R
theorem PlE_t {s2 : hS} {Q2 : hQ} {hm2 : hO} {I2 m2 : jM} (A : PlE s Q hm I m a f s' Q' hm' I' m') (B : PlE s' Q' hm' I' m' a f s2 Q2 hm2 I2 m2) : PlE s Q hm I m a f s2 Q2 hm2 I2 m2 := ⟨B.1, Sm_trans A.2.1 B.2.1, ⟨fun c c1 c2 c3 c4 c5 => (B.2.2.1.1 c c1 c2 c3 c4 c5).trans (A.2.2.1.1 c c1 c2 c3 c4 c5), fun z hz => (B.2.2.1.2 z hz).trans (A.2.2.1.2 z hz)⟩, Gw_t A.2.2.2 B.2.2.2⟩
theorem PlE_F (A : PlF s Q hm I m a f s' Q' hm' I' m') : PlE s Q hm I m a f s' Q' hm' I' m' := ⟨A.1, Sm_mono A.2.1 (fun o ho => ho.1), ⟨fun c c1 c2 c3 _ _ => A.2.2.1.1 c c1 c2 c3, A.2.2.1.2⟩, A.2.2.2⟩
theorem PlE_w (L : Lay s Q hm) (F : FilmAt s Q hm a f) (eI : ∀ x : Nat, x ≠ 69 → x ≠ 70 → I' x = I x) (em : ∀ c : Nat, c ≠ 129 → c ≠ 130 → m' c = m c) : PlE s Q hm I m a f s Q hm I' m' := ⟨⟨L, F⟩, Sm_I (fun x _ hx => eI x (fun e => by
    rw [e, Lo L rfl] at hx
    exact hx.2.1 rfl) (fun e => by
    rw [e, Lo L rfl] at hx
    exact hx.2.2 rfl)), ⟨fun c _ _ _ c4 c5 => em c c4 c5, fun z _ => by rw [em 76 (by decide) (by decide)]⟩, Gw_refl⟩
theorem PlN_w (Z : PlN s Q hm I m a f w h T q n d X) (nT : n - 1 ≤ T) (eI : ∀ x : Nat, x ≠ 69 → x ≠ 70 → I' x = I x) (em : ∀ c : Nat, c ≠ 129 → c ≠ 130 → m' c = m c) : PlN s Q hm I' m' a f w h T q n d X := by
  obtain ⟨⟨C, c8, c121⟩, kp, st⟩ := Z
  obtain ⟨⟨L, F, f0, f8⟩, hb, c3, ⟨T1, T2, i5, q6⟩, c5, c6⟩ := C
  have e82 : m' 82 = m 82 := em 82 (by decide) (by decide)
  have e121 : m' 121 = m 121 := em 121 (by decide) (by decide)
  have a153 := F.1
  have e71 : I' 71 = I 71 := eI 71 (by decide) (by decide)
  have e4 : I' (a + 4) = I (a + 4) := eI (a + 4) (by omega) (by omega)
  refine ⟨⟨⟨⟨L, F, f0, f8⟩, hb, by rw [em 76 (by decide) (by decide)]; exact c3, ⟨T1, T2, by rw [eI 42 (by decide) (by decide)]; exact i5, q6⟩, by rw [eI 3 (by decide) (by decide), e82]; exact c5, fun i i0 i1 => ?_⟩, fun j j0 j1 => ?_, by rw [e121]; exact c121⟩, fun j j0 j1 => ?_, by rw [e71]; exact st⟩
  · obtain ⟨src, h1, h2, h3⟩ := c6 i i0 i1
    have := h2.1
    exact ⟨src, h1, h2, by rw [e121]; exact Pix_fr h3 (eI src (by omega) (by omega)) (eI (src + 1) (by omega) (by omega))⟩
  · obtain ⟨y, y1, y2, y3⟩ := c8 j j0 j1
    have := (F.2.2.2.2 j j0 (by omega) y y1).1
    exact ⟨y, y1, by rw [eI y (by omega) (by omega)]; exact y2, by rw [eI y (by omega) (by omega)]; exact y3⟩
  · obtain ⟨x1, x2, x3⟩ := kp j j0 j1
    unfold Kpt
    rw [e71, e4, e82]
    refine ⟨x1, x2, Rgt_c j0 (fun _ _ _ => rfl) rfl (fun i i0 i1 => ?_) x3⟩
    obtain ⟨y, y1, -⟩ := c8 i i0 (by omega)
    have := (F.2.2.2.2 i i0 (by omega) y y1).1
    rw [Vp_e y1, Vp_e y1]
    exact eI (y + 1) (by omega) (by omega)
/-- what is needed from each place on, and the best group there -/
def NdR (I m : jM) (q T n : Int) : Prop := (∀ p : Int, q < p → p ≤ T → I 70 p = m 129 p ∧ 0 ≤ m 129 p ∧ m 129 p ≤ 3831 * (T - p)) ∧ ((n = 1 ∧ I 70 q = 2147483647 ∧ m 129 q = -1) ∨ (1 < n ∧ I 70 q = m 129 q ∧ (0 ≤ m 129 q ∧ m 129 q ≤ 3831 * (T - q)) ∧ I 69 q = m 130 q ∧ 1 ≤ m 130 q ∧ q + m 130 q ≤ T)) ∧ ∀ p : Int, q < p → p < T → I 69 p = m 130 p ∧ 1 ≤ m 130 p ∧ p + m 130 p ≤ T
def PlQ (s : hS) (Q : hQ) (hm : hO) (I m : jM) (a : Nat) (f w h T q n d : Int) (X : Int → Int) : Prop := PlN s Q hm I m a f w h T q n d X ∧ NdR I m q T n ∧ m 82 2 = d ∧ m 76 7 = T ∧ ∀ j : Int, T - q ≤ j → j < 4 → I 71 j = -1
theorem pl_t (Z : PlQ s Q hm I m a f w h T q n d X) (q0 : 0 ≤ q) (n1 : 1 ≤ n) (n4 : n ≤ 4) (qn : q + n ≤ T) (h6 : s.1 + 12 < 1000000) : ∃ (S : hS) (R : hQ) (H : hO) (J m' : jM), jd_62_s78 42 (some a) q n (hh s Q I) = some (.inl (n + 1, hh S R J)) ∧ jd_299_s30 q n m = some (.inl (n + 1, m')) ∧ PlE s Q hm I m a f S R H J m' ∧ PlQ S R H J m' a f w h T q (n + 1) d X := by
  obtain ⟨ZN, ⟨r1, r2, r3⟩, hd, h7, r71⟩ := Z
  obtain ⟨⟨L, F, f0, f8⟩, -, -, ⟨T1, T2, i5, q6⟩, c5, -⟩ := id ZN.1.1
  obtain ⟨S, R, H, J, m', sum, e1, e2, ⟨u1, u2, u3⟩, FF, ZN', E71⟩ := pl_n ZN q0 n1 n4 qn h6 hd
  obtain ⟨⟨L', F'⟩, S', mg, G'⟩ := id FF
  have j70 : J 70 = I 70 := (Lay_fr (a := 70) L S' (by decide) (by unfold PH; omega)).2
  have j69 : J 69 = I 69 := (Lay_fr (a := 69) L S' (by decide) (by unfold PH; omega)).2
  have m129 : m' 129 = m 129 := mg.1 129 (by decide) (by decide) (by decide)
  have m130 : m' 130 = m 130 := mg.1 130 (by decide) (by decide) (by decide)
  have e82 : m' 82 = m 82 := mg.1 82 (by decide) (by decide) (by decide)
  have e7 : m' 76 7 = m 76 7 := mg.2 7 (by decide)
  obtain ⟨b1, b2, b3⟩ := r1 (q + n) (by omega) qn
  have g6 : S.1 ≤ 1000000 := by
    have := G'.2.1
    have := nW_le (Q := R)
    omega
  obtain ⟨al, hal⟩ : ∃ al, al = sum + m 129 (q + n) := ⟨_, rfl⟩
  have alb : 0 ≤ al ∧ al ≤ 3831 * (T - q) := by omega
  have t8 : R 42 ((8 : Nat) : Int) = some 70 := Lq L' rfl
  have t7 : R 42 ((7 : Nat) : Int) = some 69 := Lq L' rfl
  have i5' : I 42 ((5 : Nat) : Int) = T := i5
  have ec : jd_62_s78 42 (some a) q n (hh s Q I) = if jw (I 70 q) ≤ jw al then some (.inl (n + 1, hh S R J)) else some (.inl (n + 1, hh S R (jms (jms J 70 q al) 69 q n))) := by
    unfold jd_62_s78
    rw [n_jw (z := n) (by omega) (by omega), if_neg (by omega), y_gi L 42 4 rfl rfl, Option.bind_some, i5', n_jw (z := T) (by omega) (by omega), n_jw (z := q + n) (by omega) (by omega), if_neg (by omega), y_ck L 42 4 rfl rfl, Option.bind_some, e1, Option.bind_some]
    show ((jgr (hh S R J) 42 4 8).bind fun r63 => ((r63).bind fun a65 => ((jai (hh S R J) a65 (q + n)).bind fun v67 => ((jgr (hh S R J) 42 4 8).bind fun r69 => ((r69).bind fun a71 => ((jai (hh S R J) a71 q).bind fun v73 => (if (jw v73) ≤ (jw (sum + v67)) then jd_62_b137 42 (some a) q n (hh S R J) else ((jgr (hh S R J) 42 4 8).bind fun r76 => ((r76).bind fun a78 => ((jta (hh S R J) a78 0 q (sum + v67)).bind fun h80 => ((jgr h80 42 4 7).bind fun r82 => ((r82).bind fun a84 => ((jta h80 a84 0 q n).bind fun h86 => jd_62_b137 42 (some a) q n h86))))))))))))) = _
    rw [y_gr L' 42 4 rfl rfl, Option.bind_some, t8, Option.bind_some, y_ai L' g6 70 13 rfl rfl rfl (by omega) (by omega), Option.bind_some, j70, b1, ← hal, Option.bind_some, Option.bind_some, y_ai L' g6 70 13 rfl rfl rfl q0 (by omega), Option.bind_some, j70]
    by_cases c : jw (I 70 q) ≤ jw al
    · rw [if_pos c, if_pos c]
      rfl
    · rw [if_neg c, if_neg c, Option.bind_some, Option.bind_some, y_ta L' 70 0 13 rfl rfl rfl q0 (by omega), Option.bind_some, y_gr L' 42 4 rfl rfl, Option.bind_some, t7, Option.bind_some, y_ta L' 69 0 12 rfl rfl rfl q0 (by omega), Option.bind_some]
      rfl
  have em : jd_299_s30 q n m = if jw (m 129 q) = -1 ∨ jw al < jw (m 129 q) then some (.inl (n + 1, jms (jms m' 129 q al) 130 q n)) else some (.inl (n + 1, m')) := by
    unfold jd_299_s30
    rw [n_jw (z := n) (by omega) (by omega), if_neg (by omega), h7, n_jw (z := T) (by omega) (by omega), n_jw (z := q + n) (by omega) (by omega), if_neg (by omega), y_ma 82 8 rfl rfl (by decide) (by decide), Option.bind_some, e2, Option.bind_some]
    show ((jma m' 129 (q + n)).bind fun v12 => ((jma m' 129 q).bind fun v14 => (if (jw v14) = (-1) then jd_299_b99 q n ((m' 76 83) + v12) m' else ((jma m' 129 q).bind fun v21 => (if (jw ((m' 76 83) + v12)) < (jw v21) then jd_299_b99 q n ((m' 76 83) + v12) m' else jd_299_b114 q n m'))))) = _
    have w99 : jd_299_b99 q n al m' = some (.inl (n + 1, jms (jms m' 129 q al) 130 q n)) := by
      unfold jd_299_b99 jd_299_b114
      rw [y_mw 129 13 rfl rfl q0 (by omega), Option.bind_some, y_mw 130 12 rfl rfl q0 (by omega), Option.bind_some]
    rw [y_ma 129 13 rfl rfl (by omega) (by omega), Option.bind_some, m129, u1, ← hal, y_ma 129 13 rfl rfl q0 (by omega), Option.bind_some, m129, w99]
    by_cases c1 : jw (m 129 q) = -1
    · rw [if_pos c1, if_pos (Or.inl c1)]
    · rw [if_neg c1, Option.bind_some]
      by_cases c2 : jw al < jw (m 129 q)
      · rw [if_pos c2, if_pos (Or.inr c2)]
      · rw [if_neg c2, if_neg (by omega)]
        rfl
  have wr : jd_62_s78 42 (some a) q n (hh s Q I) = some (.inl (n + 1, hh S R (jms (jms J 70 q al) 69 q n))) → jd_299_s30 q n m = some (.inl (n + 1, jms (jms m' 129 q al) 130 q n)) → ∃ (S : hS) (R : hQ) (H : hO) (J m' : jM), jd_62_s78 42 (some a) q n (hh s Q I) = some (.inl (n + 1, hh S R J)) ∧ jd_299_s30 q n m = some (.inl (n + 1, m')) ∧ PlE s Q hm I m a f S R H J m' ∧ PlQ S R H J m' a f w h T q (n + 1) d X := by
    intro w1 w2
    have eI : ∀ x : Nat, x ≠ 69 → x ≠ 70 → jms (jms J 70 q al) 69 q n x = J x := fun x x1 x2 => by rw [jms_o x1, jms_o x2]
    have eM : ∀ c : Nat, c ≠ 129 → c ≠ 130 → jms (jms m' 129 q al) 130 q n c = m' c := fun c c1 c2 => by rw [jms_o c2, jms_o c1]
    refine ⟨S, R, H, _, _, w1, w2, PlE_t (PlE_F FF) (PlE_w L' F' eI eM), PlN_w ZN' (by omega) eI eM, ⟨fun p p0 p1 => ?_, Or.inr ⟨by omega, ?_, ?_, ?_, ?_⟩, fun p p0 p1 => ?_⟩, by rw [eM 82 (by decide) (by decide), e82]; exact hd, by rw [eM 76 (by decide) (by decide), e7]; exact h7, fun j j0 j1 => by rw [eI 71 (by decide) (by decide), E71 j (by omega)]; exact r71 j j0 j1⟩
    · rw [jms_o (by decide), jms_i (by omega), jms_o (by decide), jms_i (by omega), j70, m129]
      exact r1 p p0 p1
    · rw [jms_o (by decide), jms_e, jms_o (by decide), jms_e]
    · rw [jms_o (by decide), jms_e]
      exact alb
    · rw [jms_e, jms_e]
    · rw [jms_e]
      exact ⟨n1, qn⟩
    · have f1 : jms (jms J 70 q al) 69 q n 69 p = I 69 p := by rw [jms_i (by omega), jms_o (by decide), j69]
      have f2 : jms (jms m' 129 q al) 130 q n 130 p = m 130 p := by rw [jms_i (by omega), jms_o (by decide), m130]
      rw [f1, f2]
      exact r3 p p0 p1
  rcases r2 with ⟨c1, c2, c3⟩ | ⟨c1, c2, c3, c4, c5'⟩
  · refine wr ?_ ?_
    · rw [ec, if_neg]
      rw [c2, n_jw (z := al) (by omega) (by omega)]
      have : jw 2147483647 = 2147483647 := by decide
      omega
    · rw [em, if_pos]
      rw [c3]
      left
      decide
  · have k1 : jw al = al := n_jw (by omega) (by omega)
    have k2 : jw (m 129 q) = m 129 q := n_jw (by omega) (by omega)
    by_cases c : m 129 q ≤ al
    · refine ⟨S, R, H, J, m', ?_, ?_, PlE_F FF, ZN', ⟨by rw [j70, m129]; exact r1, Or.inr ⟨by omega, by rw [j70, m129]; exact c2, by rw [m129]; exact c3, by rw [j69, m130]; exact c4, by rw [m130]; exact c5'⟩, by rw [j69, m130]; exact r3⟩, by rw [e82]; exact hd, by rw [e7]; exact h7, fun j j0 j1 => by rw [E71 j (by omega)]; exact r71 j j0 j1⟩
      · rw [ec, if_pos]
        rw [c2, k1, k2]
        exact c
      · rw [em, if_neg]
        rw [k1, k2]
        omega
    · refine wr ?_ ?_
      · rw [ec, if_neg]
        rw [c2, k1, k2]
        exact c
      · rw [em, if_pos]
        rw [k1, k2]
        right
        omega
end PlanN
