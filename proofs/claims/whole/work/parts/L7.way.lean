/-! making: tryWay, class, whole -/
section WayC3
variable {s : hS} {Q : hQ} {hm : hO} {I J m M : jM} {p b1 b2 : Nat} {w h X Y k kd st q a1 a2 way md : Int} {W G fd V F : Int → Int} {lv : Int → Int → Int}
/-- what a tried way leaves as it was -/
def TF (I J : jM) : Prop := (∀ x : Nat, ¬ (44 ≤ x ∧ x ≤ 50) → ¬ (52 ≤ x ∧ x ≤ 55) → ¬ (57 ≤ x ∧ x ≤ 59) → J x = I x) ∧ J 45 = I 45 ∧ ∀ z : Int, z ≠ 7 → z ≠ 8 → J 44 z = I 44 z
theorem c_18 (L : Lay s Q hm) (h6 : s.1 ≤ 1000000) (S : PSm s Q I m p b1 b2 w h X Y k kd st q a1 a2 W G fd) (w0 : 0 ≤ way) (w1 : way < jd_262 kd) (hmd : mdW kd way = md) (hbc : way ≠ 0 → 0 ≤ I 44 8 ∧ I 44 8 ≤ 10000000) : ∃ J, jd_18 44 way (hh s Q I) = some (hh s (rms Q 55 0 none) J) ∧ TF I J ∧ (way = 0 ∨ wC m w h X Y k kd st a1 a2 way md W G fd < I 44 8 → BC J way (wC m w h X Y k kd st a1 a2 way md W G fd) md (wM m w h X Y k kd st a1 a2 md W G fd) (Vw md kd fd G) (wL m w h X Y k kd st a1 a2 md W G fd)) ∧ (¬ (way = 0 ∨ wC m w h X Y k kd st a1 a2 way md W G fd < I 44 8) → J 44 = I 44 ∧ J 57 = I 57 ∧ J 58 = I 58 ∧ J 59 = I 59) := by
  have S' := S
  obtain ⟨⟨P, q2⟩, ⟨hw, hh', sw, sh⟩, ⟨eK, eS, eX, eY⟩, ⟨k0, k2, s0, s1⟩, -, -, -, -, -, wt, -, gs, -⟩ := S
  have T := PtC_45 L
  have t7 := (tl_k k0 k2 w0 w1).2.2.2.2
  have u1 : 0 ≤ md := by rw [← hmd]; exact (mdW_t k0 k2 w0 w1).1
  have u2 : md ≤ 6 := by rw [← hmd]; exact (mdW_t k0 k2 w0 w1).2.1
  have q0 : Q 44 ((0 : Nat) : Int) = some 45 := Lq L rfl
  have q1 : Q 44 ((1 : Nat) : Int) = some 55 := Lq L rfl
  have q6 : Q 44 ((6 : Nat) : Int) = some 60 := Lq L rfl
  obtain ⟨F, hF⟩ : ∃ F, F = wF m w h X Y k kd a1 a2 md G fd := ⟨_, rfl⟩
  obtain ⟨I1, J1, e1, e2, v50, f46, o1⟩ := c_fore L h6 S' w0 w1 hmd
  have f46' : ∀ z : Int, 0 ≤ z → z < 96 → J1 46 z = F z := fun z z0 z1 => by rw [hF]; exact f46 z z0 z1
  have fb : ∀ z : Int, 0 ≤ z → z < 96 → 0 ≤ F z ∧ F z ≤ 255 := fun z z0 z1 => by rw [hF]; exact wF_b S' w0 w1 hmd z0 z1
  obtain ⟨Mm, e3, h48⟩ := c_90 (I := J1) T h6
  obtain ⟨K, hK⟩ : ∃ K, K = ims J1 48 Mm := ⟨_, rfl⟩
  have e3' : jd_90 45 (hh s Q J1) = some (hh s Q K) := by rw [hK]; exact e3
  have oK : ∀ x : Nat, x ≠ 48 → K x = J1 x := fun x hx => by rw [hK, ims_o hx]
  have k48 : ∀ z : Int, 0 ≤ z → z < 96 → K 48 z = F z := fun z z0 z1 => by
    rw [hK, ims_e, h48 z z0 z1]
    exact f46' z z0 z1
  -- the blocks
  obtain ⟨K2, e4, l49, m48, o2⟩ : ∃ K2, jd_18_l38 44 way md 0 (hh s Q K) = some (hh s Q K2) ∧ (md ≠ 0 → ∀ b i : Int, 0 ≤ b → b < 6 → 0 ≤ i → i < 16 → K2 49 (16 * b + i) = lvP W F st b i) ∧ (∀ z : Int, 0 ≤ z → z < 96 → K2 48 z = MdW md F (lvP W F st) st z) ∧ ∀ x : Nat, x ≠ 48 → x ≠ 49 → x ≠ 52 → K2 x = K x := by
    by_cases c : md = 0
    · refine ⟨K, ?_, fun h => absurd c h, fun z z0 z1 => ?_, fun _ _ _ _ => rfl⟩
      · unfold jd_18_l38
        refine w_for (f := fun u : (Int × jH) => jd_18_s38 44 way md u.1 u.2) (fun _ => (0, hh s Q K)) 0 (fun n hn => absurd hn (by omega)) ?_ (n_fu (by decide))
        show jd_18_s38 44 way md 0 (hh s Q K) = _
        unfold jd_18_s38
        rw [if_neg (by decide), c, if_pos (by decide)]
      · have f := fb z z0 z1
        unfold MdW
        rw [k48 z z0 z1, if_pos c, Int.add_zero, held_i f.1 f.2]
    · obtain ⟨K2, x1, x2, x3, x4⟩ := c_18b (I := K) (W := W) (F := F) (st := st) (way := way) L h6 (by omega) u2 (by rw [oK 45 (by decide), o1 45 (by decide) (by decide) (by decide) (by decide) (by decide)]; exact eS) s0 s1 (fun z z0 z1 => by rw [oK 56 (by decide), o1 56 (by decide) (by decide) (by decide) (by decide) (by decide)]; exact wt z z0 z1) (fun z z0 z1 => ⟨by rw [oK 46 (by decide)]; exact f46' z z0 z1, fb z z0 z1⟩) k48
      exact ⟨K2, x1, fun _ => x2, x3, x4⟩
  -- the tally
  have L1 : Lay s (rms Q 55 0 none) hm := Lay_rms (k := 0) L rfl
  obtain ⟨K3, hK3⟩ : ∃ K3, K3 = jms K2 55 1 0 := ⟨_, rfl⟩
  have e5 : jd_7 55 (hh s Q K2) = some (hh s (rms Q 55 0 none) K3) := by
    unfold jd_7
    rw [y_pr L 55 0 rfl rfl, Option.bind_some, y_pi L1 55 0 rfl rfl, Option.bind_some, hK3]
    rfl
  have o3 : ∀ x : Nat, x ≠ 55 → K3 x = K2 x := fun x hx => by rw [hK3, jms_o hx]
  have all : ∀ x : Nat, x ≠ 46 → x ≠ 47 → x ≠ 48 → x ≠ 49 → x ≠ 50 → x ≠ 52 → x ≠ 53 → x ≠ 54 → x ≠ 55 → K3 x = I x := fun x x1 x2 x3 x4 x5 x6 x7 x8 x9 => by
    rw [o3 x x9, o2 x x3 x4 x6, oK x x3, o1 x x1 x2 x5 x7 x8]
  have X0 : WX s (rms Q 55 0 none) 55 K3 0 (fun _ => 0) := ⟨by rw [hK3, jms_e], Int.le_refl _, Or.inl ⟨Lt L rfl, Lg L rfl rfl, rms_e⟩⟩
  have WT55 : WT (rms Q 55 0 none) 55 := ⟨Or.inr rfl, fun c hc => by rw [rms_e] at hc; cases hc⟩
  have v3 : ∀ i : Int, 0 ≤ i → i < 4 → K3 50 i = Vw md kd fd G i := fun i i0 i1 => by
    rw [o3 50 (by decide), o2 50 (by decide) (by decide) (by decide), oK 50 (by decide)]
    exact v50 i i0 i1
  obtain ⟨K4, e6, X1, N1⟩ := c_20 (I := K3) (T := 55) (way := way) (md := md) (kd := kd) (V := Vw md kd fd G) (G := G) (lv := lvP W F st) L1 h6 WT55 X0 (by rw [all 45 (by decide) (by decide) (by decide) (by decide) (by decide) (by decide) (by decide) (by decide) (by decide)]; exact eK) k0 k2 w0 (by omega) hmd u1 u2 (fun i i0 i1 => by
    have a := Vw_b (md := md) S' i0 i1
    have b := (gs i i0 i1).2
    refine ⟨v3 i i0 i1, ?_, by omega, by omega⟩
    rw [all 51 (by decide) (by decide) (by decide) (by decide) (by decide) (by decide) (by decide) (by decide) (by decide)]
    exact (gs i i0 i1).1) (fun b j => lvP_b s0) (fun hm b i b0 b1 i0 i1 => by rw [o3 49 (by decide)]; exact l49 hm b i b0 b1 i0 i1) (by decide)
  have o4 : ∀ x : Nat, x ≠ 55 → K4 x = K3 x := fun x hx => N1.1 x hx (by rw [rms_e]; simp)
  have eB : pB way md (Vw md kd fd G) G (lvP W F st) = wB m w h X Y k kd st a1 a2 way md W G fd := by rw [hF]; rfl
  rw [eB] at X1
  have e55 : K4 55 ((1 : Nat) : Int) = ((wB m w h X Y k kd st a1 a2 way md W G fd).length : Int) := by
    have := X1.1
    rw [Int.zero_add] at this
    exact this
  have m48' : ∀ z : Int, 0 ≤ z → z < 96 → K4 48 z = wM m w h X Y k kd st a1 a2 md W G fd z := fun z z0 z1 => by
    rw [o4 48 (by decide), o3 48 (by decide), m48 z z0 z1, hF]
    rfl
  have cb := wC_b S' w0 w1 hmd
  obtain ⟨C, hC⟩ : ∃ C, wC m w h X Y k kd st a1 a2 way md W G fd = C := ⟨_, rfl⟩
  have cost := c_18s (I := K4) (way := way) (W := W) (Md := wM m w h X Y k kd st a1 a2 md W G fd) (c0 := st * st * ((wB m w h X Y k kd st a1 a2 way md W G fd).length : Int)) L1 h6 ⟨cb.2.1.1, Int.le_trans cb.2.1.2 (by decide)⟩ (fun z z0 z1 => by
    rw [o4 56 (by decide), all 56 (by decide) (by decide) (by decide) (by decide) (by decide) (by decide) (by decide) (by decide) (by decide)]
    exact wt z z0 z1) (fun z z0 z1 => ⟨m48' z z0 z1, (wM_b S' w0 w1 hmd z0 z1).2⟩)
  have cost' : jd_18_l128 44 way (st * st * ((wB m w h X Y k kd st a1 a2 way md W G fd).length : Int)) 0 (hh s (rms Q 55 0 none) K4) = some C := by rw [← hC]; exact cost
  have e45 : K4 45 = I 45 := by rw [o4 45 (by decide)]; exact all 45 (by decide) (by decide) (by decide) (by decide) (by decide) (by decide) (by decide) (by decide) (by decide)
  have e451 : K4 45 ((1 : Nat) : Int) = st := by rw [e45]; exact eS
  have e44 : K4 44 = I 44 := by rw [o4 44 (by decide)]; exact all 44 (by decide) (by decide) (by decide) (by decide) (by decide) (by decide) (by decide) (by decide) (by decide)
  have Cb : 0 ≤ C ∧ C ≤ 10000000 := by rw [← hC]; exact cb.2.2
  have q01 : rms Q 55 0 none 44 ((0 : Nat) : Int) = some 45 := Lq L1 rfl
  have q11 : rms Q 55 0 none 44 ((1 : Nat) : Int) = some 55 := Lq L1 rfl
  have T1 := PtC_45 L1
  rw [hC]
  clear cb cost hC
  have hd : jd_18 44 way (hh s Q I) = (if way = 0 then jd_18_b181 44 way C (hh s (rms Q 55 0 none) K4) else (if K4 44 8 ≤ C then some (hh s (rms Q 55 0 none) K4) else jd_18_b181 44 way C (hh s (rms Q 55 0 none) K4))) := by
    have hx : ∀ h, jd_18_b244 44 h = some h := fun _ => rfl
    unfold jd_18
    rw [y_gr L 44 1 rfl rfl, Option.bind_some, q0, Option.bind_some, T_ck T, Option.bind_some, k_76 L eK k0 k2 w0 (by omega), Option.bind_some, hmd, Option.bind_some, y_gr L 44 1 rfl rfl, Option.bind_some, q6, Option.bind_some, T_ck T, Option.bind_some, e1, Option.bind_some, y_gr L 44 1 rfl rfl, Option.bind_some, q0, Option.bind_some, T_ck T, Option.bind_some, e2, Option.bind_some, y_gr L 44 1 rfl rfl, Option.bind_some, q0, Option.bind_some, T_ck T, Option.bind_some, e3', Option.bind_some, e4, Option.bind_some, y_gr L 44 1 rfl rfl, Option.bind_some, q1, Option.bind_some, y_ck L 55 0 rfl rfl, Option.bind_some, e5, Option.bind_some, y_gr L1 44 1 rfl rfl, Option.bind_some, q11, y_ck L1 44 1 rfl rfl, Option.bind_some, e6, Option.bind_some, y_gr L1 44 1 rfl rfl, Option.bind_some, q01, Option.bind_some, T_gi T1, Option.bind_some, Option.bind_some, Option.bind_some, T_gi T1, Option.bind_some, y_gr L1 44 1 rfl rfl, Option.bind_some, q11, Option.bind_some, y_gi L1 55 0 rfl rfl, Option.bind_some, e55, e451, cost', Option.bind_some, n_jw (z := way) (by omega) (by omega), n_jw (z := C) (by omega) (by omega), y_gi L1 44 1 rfl rfl, Option.bind_some, hx]
    by_cases c : way = 0
    · rw [if_pos c, if_pos c]
    · have hb := hbc c
      have z8 : K4 44 ((8 : Nat) : Int) = I 44 8 := by rw [e44]; rfl
      have z8' : K4 44 8 = I 44 8 := by rw [e44]
      rw [if_neg c, if_neg c, z8, z8', n_jw (z := I 44 8) (by omega) (by omega)]
  have KK : ∀ x : Nat, x ≠ 46 → x ≠ 47 → x ≠ 48 → x ≠ 49 → x ≠ 50 → x ≠ 52 → x ≠ 53 → x ≠ 54 → x ≠ 55 → K4 x = I x := fun x x1 x2 x3 x4 x5 x6 x7 x8 x9 => by
    rw [o4 x x9]; exact all x x1 x2 x3 x4 x5 x6 x7 x8 x9
  obtain ⟨J, e7, B7, o7, z7⟩ := c_18k (I := K4) (way := way) (cost := C) (md := md) (Md := wM m w h X Y k kd st a1 a2 md W G fd) (V := Vw md kd fd G) (lv := wL m w h X Y k kd st a1 a2 md W G fd) L1 m48' (fun hm b i b0 b1 i0 i1 => by
    rw [o4 49 (by decide), o3 49 (by decide), l49 hm b i b0 b1 i0 i1, hF]
    rfl) (fun i i0 i1 => by rw [o4 50 (by decide)]; exact v3 i i0 i1)
  have z8' : K4 44 8 = I 44 8 := by rw [e44]
  by_cases cc : way = 0 ∨ C < I 44 8
  · refine ⟨J, ?_, ⟨fun x x1 x2 x3 => ?_, ?_, fun z z1 z2 => by rw [z7 z z1 z2, e44]⟩, fun _ => B7, fun h => absurd cc h⟩
    · rw [hd, e7]
      by_cases c : way = 0
      · rw [if_pos c]
      · rw [if_neg c, if_neg (by omega)]
    · rw [o7 x (by omega) (by omega) (by omega) (by omega)]
      exact KK x (by omega) (by omega) (by omega) (by omega) (by omega) (by omega) (by omega) (by omega) (by omega)
    · rw [o7 45 (by decide) (by decide) (by decide) (by decide), e45]
  · refine ⟨K4, ?_, ⟨fun x x1 x2 x3 => KK x (by omega) (by omega) (by omega) (by omega) (by omega) (by omega) (by omega) (by omega) (by omega), e45, fun z _ _ => by rw [e44]⟩, fun h => absurd h cc, fun _ => ⟨e44, KK 57 (by decide) (by decide) (by decide) (by decide) (by decide) (by decide) (by decide) (by decide) (by decide), KK 58 (by decide) (by decide) (by decide) (by decide) (by decide) (by decide) (by decide) (by decide) (by decide), KK 59 (by decide) (by decide) (by decide) (by decide) (by decide) (by decide) (by decide) (by decide) (by decide)⟩⟩
    rw [hd, if_neg (by omega), if_pos (by omega)]
end WayC3
