/-! making: all ways tried, both sides -/
section WaysAll
variable {s : hS} {Q Q' : hQ} {hm : hO} {I J m m' M : jM} {p b1 b2 : Nat} {w h X Y k kd st q a1 a2 way md n : Int} {W G fd V : Int → Int}
theorem rms_rms {a : Nat} {z : Int} {v : Option Nat} : rms (rms Q a z v) a z v = rms Q a z v := by
  funext x y
  by_cases h : x = a
  · subst h
    by_cases hy : y = z
    · rw [hy, rms_e, rms_e]
    · rw [rms_i hy]
  · rw [rms_o h]
theorem w_c {h_1 : Int} (h : m' 109 = m 109) : wF m' w h_1 X Y k kd a1 a2 md G fd = wF m w h_1 X Y k kd a1 a2 md G fd ∧ wL m' w h_1 X Y k kd st a1 a2 md W G fd = wL m w h_1 X Y k kd st a1 a2 md W G fd ∧ wM m' w h_1 X Y k kd st a1 a2 md W G fd = wM m w h_1 X Y k kd st a1 a2 md W G fd ∧ wB m' w h_1 X Y k kd st a1 a2 way md W G fd = wB m w h_1 X Y k kd st a1 a2 way md W G fd ∧ wC m' w h_1 X Y k kd st a1 a2 way md W G fd = wC m w h_1 X Y k kd st a1 a2 way md W G fd := by
  have e : ∀ a, mG m' a = mG m a := fun a => by
    funext pl j
    unfold mG
    rw [h]
  have e1 : wF m' w h_1 X Y k kd a1 a2 md G fd = wF m w h_1 X Y k kd a1 a2 md G fd := by
    unfold wF
    rw [e, e, e]
  have e2 : wL m' w h_1 X Y k kd st a1 a2 md W G fd = wL m w h_1 X Y k kd st a1 a2 md W G fd := by
    unfold wL
    rw [e1]
  have e3 : wM m' w h_1 X Y k kd st a1 a2 md W G fd = wM m w h_1 X Y k kd st a1 a2 md W G fd := by
    unfold wM
    rw [e1, e2]
  have e4 : wB m' w h_1 X Y k kd st a1 a2 way md W G fd = wB m w h_1 X Y k kd st a1 a2 way md W G fd := by
    unfold wB
    rw [e2]
  refine ⟨e1, e2, e3, e4, ?_⟩
  unfold wC
  rw [e3, e4]
theorem k_75 (L : Lay s Q hm) (eK : I 45 0 = kd) (k0 : 0 ≤ kd) (k2 : kd ≤ 2) : jd_75 45 (hh s Q I) = some (jd_262 kd) := by
  have F := PtC_45 L
  have eK' : I 45 ((0 : Nat) : Int) = kd := eK
  unfold jd_75 jd_75_b25 jd_262
  rw [T_gi F, Option.bind_some, eK', n_jw (z := kd) (by omega) (by omega)]
  by_cases c : kd = 0
  · rw [if_pos c, if_pos c]
  · rw [if_neg c, if_neg c, Option.bind_some, n_jw (z := kd) (by omega) (by omega)]
theorem b_262 (k0 : 0 ≤ kd) (k2 : kd ≤ 2) : 3 ≤ jd_262 kd ∧ jd_262 kd ≤ 7 := by
  have : ∀ a : Fin 3, 3 ≤ jd_262 (a.val : Int) ∧ jd_262 (a.val : Int) ≤ 7 := by decide
  have := this ⟨kd.toNat, by omega⟩
  dsimp only at this
  rw [show ((kd.toNat : Nat) : Int) = kd by omega] at this
  exact this
theorem TF_t {I2 : jM} (A : TF I J) (B : TF J I2) : TF I I2 := ⟨fun x x1 x2 x3 => (B.1 x x1 x2 x3).trans (A.1 x x1 x2 x3), B.2.1.trans A.2.1, fun z z1 z2 => (B.2.2 z z1 z2).trans (A.2.2 z z1 z2)⟩
/-- the best of the ways up to t -/
def BW (I' m' m : jM) (w h X Y k kd st a1 a2 t : Int) (W G fd : Int → Int) : Prop := ∃ wy md : Int, 0 ≤ wy ∧ wy < t ∧ mdW kd wy = md ∧ BC I' wy (wC m w h X Y k kd st a1 a2 wy md W G fd) md (wM m w h X Y k kd st a1 a2 md W G fd) (Vw md kd fd G) (wL m w h X Y k kd st a1 a2 md W G fd) ∧ BMd m' (wC m w h X Y k kd st a1 a2 wy md W G fd) (wM m w h X Y k kd st a1 a2 md W G fd) (Vw md kd fd G) (wB m w h X Y k kd st a1 a2 wy md W G fd)
theorem ways {x1 x4 : Option Nat} {x6 x7 x8 : Int} (L : Lay s Q hm) (h6 : s.1 ≤ 1000000) (S : PSm s Q I m p b1 b2 w h X Y k kd st q a1 a2 W G fd) (n0 : 0 ≤ n) (n1 : n ≤ 40000) (h75 : m 76 75 = -1) : ∃ I' m', jd_16_l128 44 x1 x4 x6 x7 x8 0 (hh s Q I) = some (hh s (rms Q 55 0 none) I') ∧ jd_285_l141 k q st n 0 m = some m' ∧ TF I I' ∧ TM m m' k q n ∧ BW I' m' m w h X Y k kd st a1 a2 (jd_262 kd) W G fd := by
  have S' := S
  obtain ⟨-, -, ⟨eK, -⟩, ⟨k0, k2, s0, s1⟩, -, ⟨-, -, mk, kk0, kk1⟩, -⟩ := S
  obtain ⟨nw, hnw⟩ : ∃ nw, jd_262 kd = nw := ⟨_, rfl⟩
  have nb : 3 ≤ nw ∧ nw ≤ 7 := by rw [← hnw]; exact b_262 k0 k2
  have hI : ∀ (t : Nat) (u : Int × jH) (v : Int × jM), t ≤ nw.toNat → (∃ (Qt : hQ) (It mt : jM), u = ((t : Int), hh s Qt It) ∧ v = ((t : Int), mt) ∧ (Qt = Q ∨ Qt = rms Q 55 0 none) ∧ (0 < t → Qt = rms Q 55 0 none) ∧ TF I It ∧ TM m mt k q n ∧ (t = 0 → mt 76 75 = -1) ∧ (0 < t → BW It mt m w h X Y k kd st a1 a2 (t : Int) W G fd)) → (∃ u' v', (fun u : (Int × jH) => jd_16_s128 44 x1 x4 x6 x7 x8 u.1 u.2) u = some (.inl u') ∧ (fun u : (Int × jM) => jd_285_s141 k q st n u.1 u.2) v = some (.inl v') ∧ t < nw.toNat ∧ (∃ (Qt : hQ) (It mt : jM), u' = (((t + 1 : Nat) : Int), hh s Qt It) ∧ v' = (((t + 1 : Nat) : Int), mt) ∧ (Qt = Q ∨ Qt = rms Q 55 0 none) ∧ (0 < t + 1 → Qt = rms Q 55 0 none) ∧ TF I It ∧ TM m mt k q n ∧ (t + 1 = 0 → mt 76 75 = -1) ∧ (0 < t + 1 → BW It mt m w h X Y k kd st a1 a2 ((t + 1 : Nat) : Int) W G fd))) ∨ (∃ x y, (fun u : (Int × jH) => jd_16_s128 44 x1 x4 x6 x7 x8 u.1 u.2) u = some (.inr x) ∧ (fun u : (Int × jM) => jd_285_s141 k q st n u.1 u.2) v = some (.inr y) ∧ ∃ I' : jM, x = hh s (rms Q 55 0 none) I' ∧ TF I I' ∧ TM m y k q n ∧ BW I' y m w h X Y k kd st a1 a2 nw W G fd) := by
    intro t u v ht J
    obtain ⟨Qt, It, mt, rfl, rfl, hQ, hQ1, FT, TT, b0, bb⟩ := J
    have St : PSm s Qt It mt p b1 b2 w h X Y k kd st q a1 a2 W G fd := PSm_t S' hQ FT TT
    have Lt : Lay s Qt hm := by
      rcases hQ with e | e
      · rw [e]; exact L
      · rw [e]; exact Lay_rms (k := 0) L rfl
    have T := PtC_45 Lt
    have q0 : Qt 44 ((0 : Nat) : Int) = some 45 := Lq Lt rfl
    have m109 : mt 109 = m 109 := TT.1 109 (by decide) (by decide) (by decide) (by decide) (by decide) (by decide) (by decide) (by decide) (by decide) (by decide)
    have m102 : mt 102 k = kd := by
      rw [TT.1 102 (by decide) (by decide) (by decide) (by decide) (by decide) (by decide) (by decide) (by decide) (by decide) (by decide)]
      exact mk
    have e75 := k_75 (I := It) Lt (by rw [FT.2.1]; exact eK) k0 k2
    rw [hnw] at e75
    have rq : rms Qt 55 0 none = rms Q 55 0 none := by
      rcases hQ with e | e
      · rw [e]
      · rw [e, rms_rms]
    show (∃ u' v', jd_16_s128 44 x1 x4 x6 x7 x8 (t : Int) (hh s Qt It) = some (.inl u') ∧ jd_285_s141 k q st n (t : Int) mt = some (.inl v') ∧ t < nw.toNat ∧ _) ∨ (∃ x y, jd_16_s128 44 x1 x4 x6 x7 x8 (t : Int) (hh s Qt It) = some (.inr x) ∧ jd_285_s141 k q st n (t : Int) mt = some (.inr y) ∧ _)
    have hc : jd_16_s128 44 x1 x4 x6 x7 x8 (t : Int) (hh s Qt It) = if nw ≤ (t : Int) then some (.inr (hh s Qt It)) else ((jd_18 44 (t : Int) (hh s Qt It)).bind fun h83 => some (.inl ((t : Int) + 1, h83))) := by
      unfold jd_16_s128
      rw [y_gr Lt 44 1 rfl rfl, Option.bind_some, q0, Option.bind_some, T_ck T, Option.bind_some, e75, Option.bind_some, n_jw (z := nw) (by omega) (by omega), n_jw (z := (t : Int)) (by omega) (by omega), y_ck Lt 44 1 rfl rfl, Option.bind_some]
    have hmm : jd_285_s141 k q st n (t : Int) mt = if nw ≤ (t : Int) then some (.inr mt) else ((jd_284 k q (t : Int) st n mt).bind fun m24 => some (.inl ((t : Int) + 1, m24))) := by
      unfold jd_285_s141
      rw [y_ma 102 12 rfl rfl kk0 (by omega), Option.bind_some, m102, hnw, n_jw (z := nw) (by omega) (by omega), n_jw (z := (t : Int)) (by omega) (by omega)]
    by_cases ct : nw ≤ (t : Int)
    · refine Or.inr ⟨hh s Qt It, mt, by rw [hc, if_pos ct], by rw [hmm, if_pos ct], It, by rw [hQ1 (by omega)], FT, TT, ?_⟩
      obtain ⟨wy, md, z0, z1, z2⟩ := bb (by omega)
      exact ⟨wy, md, z0, by omega, z2⟩
    · have w1 : (t : Int) < jd_262 kd := by rw [hnw]; omega
      obtain ⟨md, hmd⟩ : ∃ md, mdW kd (t : Int) = md := ⟨_, rfl⟩
      obtain ⟨-, cL, cM, cB, cC⟩ := w_c (w := w) (h_1 := h) (X := X) (Y := Y) (k := k) (kd := kd) (st := st) (a1 := a1) (a2 := a2) (way := (t : Int)) (md := md) (W := W) (G := G) (fd := fd) m109
      obtain ⟨C, hC⟩ : ∃ C, wC m w h X Y k kd st a1 a2 (t : Int) md W G fd = C := ⟨_, rfl⟩
      have Cb := (wC_b St (by omega) w1 hmd).2.2
      rw [cC, hC] at Cb
      have both : (t ≠ 0 → 0 ≤ It 44 8 ∧ It 44 8 ≤ 10000000 ∧ mt 76 75 = It 44 8) := fun h0 => by
        obtain ⟨wy, md', z0, z1, z2, z3, z4⟩ := bb (by omega)
        have zb := (wC_b S' z0 (by rw [hnw]; omega) z2).2.2
        obtain ⟨C', hC'⟩ : ∃ C', wC m w h X Y k kd st a1 a2 wy md' W G fd = C' := ⟨_, rfl⟩
        rw [hC'] at zb
        have y1 := z3.2.1
        have y2 := z4.1
        rw [hC'] at y1 y2
        rw [y1, y2]
        exact ⟨zb.1, zb.2, rfl⟩
      have h75' : -1 ≤ mt 76 75 ∧ mt 76 75 ≤ 10000000 := by
        by_cases h0 : t = 0
        · rw [b0 h0]
          decide
        · obtain ⟨y1, y2, y3⟩ := both h0
          omega
      obtain ⟨J2, f1, f2, f3, f4⟩ := c_18 (way := (t : Int)) Lt h6 St (by omega) w1 hmd (fun h0 => ⟨(both (by omega)).1, (both (by omega)).2.1⟩)
      obtain ⟨m2, g1, g2, g3, g4⟩ := k_284 (way := (t : Int)) (n := n) St (by omega) w1 hmd n0 n1 h75'
      rw [cL, cM, cC, hC] at f3
      rw [cC, hC] at f4
      rw [cM, cB, cC, hC] at g3
      rw [cC, hC] at g4
      rw [rq] at f1
      refine Or.inl ⟨((t : Int) + 1, hh s (rms Q 55 0 none) J2), ((t : Int) + 1, m2), by rw [hc, if_neg ct, f1, Option.bind_some], by rw [hmm, if_neg ct, g1, Option.bind_some], by omega, rms Q 55 0 none, J2, m2, by rw [show ((t + 1 : Nat) : Int) = (t : Int) + 1 by omega], by rw [show ((t + 1 : Nat) : Int) = (t : Int) + 1 by omega], Or.inr rfl, fun _ => rfl, TF_t FT f2, TM_t TT g2, fun h => absurd h (by omega), fun _ => ?_⟩
      by_cases better : (t : Int) = 0 ∨ C < It 44 8
      · have better' : mt 76 75 < 0 ∨ C < mt 76 75 := by
          by_cases h0 : t = 0
          · rw [b0 h0]
            exact Or.inl (by decide)
          · obtain ⟨y1, y2, y3⟩ := both h0
            omega
        refine ⟨(t : Int), md, by omega, by omega, hmd, ?_, ?_⟩
        · rw [hC]
          exact f3 better
        · rw [hC]
          exact g3 better'
      · have h0 : t ≠ 0 := by omega
        obtain ⟨y1, y2, y3⟩ := both h0
        obtain ⟨x5, x6, x7, x8⟩ := f4 better
        obtain ⟨u5, u6, u7, u8, u9⟩ := g4 (by omega)
        obtain ⟨wy, md', z0, z1, z2, ⟨p1, p2, p3, p4, p5⟩, ⟨r1, r2, r3, r4, r5⟩⟩ := bb (by omega)
        exact ⟨wy, md', z0, by omega, z2, ⟨by rw [x5]; exact p1, by rw [x5]; exact p2, by rw [x6]; exact p3, by rw [x7]; exact p4, by rw [x8]; exact p5⟩, ⟨by rw [u9]; exact r1, by rw [u5]; exact r2, by rw [u6]; exact r3, by rw [u8]; exact r4, by rw [u7]; exact r5⟩⟩
  unfold jd_16_l128 jd_285_l141
  obtain ⟨x, y, e1, e2, I', hx, F', T', B'⟩ := w_lp2 (f := fun u : (Int × jH) => jd_16_s128 44 x1 x4 x6 x7 x8 u.1 u.2) (g := fun u : (Int × jM) => jd_285_s141 k q st n u.1 u.2) (Q := fun x y => ∃ I' : jM, x = hh s (rms Q 55 0 none) I' ∧ TF I I' ∧ TM m y k q n ∧ BW I' y m w h X Y k kd st a1 a2 nw W G fd) (fun t u v => ∃ (Qt : hQ) (It mt : jM), u = ((t : Int), hh s Qt It) ∧ v = ((t : Int), mt) ∧ (Qt = Q ∨ Qt = rms Q 55 0 none) ∧ (0 < t → Qt = rms Q 55 0 none) ∧ TF I It ∧ TM m mt k q n ∧ (t = 0 → mt 76 75 = -1) ∧ (0 < t → BW It mt m w h X Y k kd st a1 a2 (t : Int) W G fd)) nw.toNat hI (n_fu (by omega)) (n_fu (by omega)) (s0 := (0, hh s Q I)) (t0 := (0, m)) ⟨Q, I, m, rfl, rfl, Or.inl rfl, fun h => absurd h (by omega), ⟨fun _ _ _ _ => rfl, rfl, fun _ _ _ => rfl⟩, TM_refl, fun _ => h75, fun h => absurd h (by omega)⟩
  rw [hnw]
  exact ⟨I', y, by rw [e1, hx], e2, F', T', B'⟩
end WaysAll
