/-! making: a way's blocks and cost, model -/
section WayM2
variable {s : hS} {Q : hQ} {I m M : jM} {p b1 b2 : Nat} {w h X Y k kd st q a1 a2 way md n : Int} {W G fd V : Int → Int}
/-- the state when a way is told and made -/
def AftM (m N : jM) (w h X Y k kd st a1 a2 way md n : Int) (W G fd : Int → Int) : Prop := N 76 53 = n + ((wB m w h X Y k kd st a1 a2 way md W G fd).length : Int) ∧ N 113 = gW (m 113) n (wB m w h X Y k kd st a1 a2 way md W G fd) ∧ (∀ z : Int, 0 ≤ z → z < 96 → jd_205 (jw (N 114 z + N 115 z)) 0 255 = wM m w h X Y k kd st a1 a2 md W G fd z) ∧ N 76 60 = way ∧ (N 76 62 = Vw md kd fd G 0 ∧ N 76 63 = Vw md kd fd G 1 ∧ N 76 64 = Vw md kd fd G 2 ∧ N 76 65 = Vw md kd fd G 3) ∧ (∀ z : Int, z ≠ 53 → z ≠ 59 → z ≠ 60 → z ≠ 61 → z ≠ 62 → z ≠ 63 → z ≠ 64 → z ≠ 65 → N 76 z = m 76 z) ∧ ∀ c : Nat, c ≠ 76 → c ≠ 113 → c ≠ 114 → c ≠ 115 → c ≠ 116 → c ≠ 117 → N c = m c
theorem k_317 {lv : Int → Int → Int} {F : Int → Int} {l : List Int} (SW : SrcP M k q W) (s0 : 1 ≤ st) (s1 : st ≤ 31) (hF : ∀ z : Int, 0 ≤ z → z < 96 → M 114 z = F z ∧ 0 ≤ F z ∧ F z ≤ 255) (hlv : lv = lvP W F st) (h53 : M 76 53 = n + (l.length : Int)) (h113 : M 113 = gW (m 113) n l) (n0 : 0 ≤ n) (hn : n + (l.length : Int) ≤ 45000) (x4 : Int) : ∃ N, jd_284_l317 k q st x4 0 0 M = some N ∧ N 76 53 = n + ((l ++ bkL lv 6).length : Int) ∧ N 113 = gW (m 113) n (l ++ bkL lv 6) ∧ (∀ z : Int, 0 ≤ z → z < 96 → N 115 z = RZ lv st z) ∧ (∀ z : Int, z ≠ 53 → z ≠ 59 → N 76 z = M 76 z) ∧ ∀ c : Nat, c ≠ 76 → c ≠ 113 → c ≠ 115 → c ≠ 116 → c ≠ 117 → N c = M c := by
  have hl : ∀ b j : Int, -4095 ≤ lv b j ∧ lv b j ≤ 4095 := fun b j => by rw [hlv]; exact lvP_b s0
  obtain ⟨N, e, h1, h2, h3, h4, h5⟩ : wT (jd_284_l317 k q st x4 0 0 M) (fun N => N 76 53 = n + ((l ++ bkL lv 6).length : Int) ∧ N 113 = gW (m 113) n (l ++ bkL lv 6) ∧ (∀ b r c : Int, 0 ≤ b → b < 6 → 0 ≤ r → r < 4 → 0 ≤ c → c < 4 → N 115 (cb b r c) = rsB (lv b) st r c) ∧ (∀ z : Int, z ≠ 53 → z ≠ 59 → N 76 z = M 76 z) ∧ ∀ c : Nat, c ≠ 76 → c ≠ 113 → c ≠ 115 → c ≠ 116 → c ≠ 117 → N c = M c) := by
    unfold jd_284_l317
    refine w_lp (fun j (u : Int × jM) => j ≤ 6 ∧ ∃ N, u = ((j : Int), N) ∧ N 76 53 = n + ((l ++ bkL lv j).length : Int) ∧ N 113 = gW (m 113) n (l ++ bkL lv j) ∧ (∀ b r c : Int, 0 ≤ b → b < (j : Int) → 0 ≤ r → r < 4 → 0 ≤ c → c < 4 → N 115 (cb b r c) = rsB (lv b) st r c) ∧ (∀ z : Int, z ≠ 53 → z ≠ 59 → N 76 z = M 76 z) ∧ ∀ c : Nat, c ≠ 76 → c ≠ 113 → c ≠ 115 → c ≠ 116 → c ≠ 117 → N c = M c) 6 (fun j u hj hu => ?_) (n_fu (by decide)) ⟨by decide, M, rfl, by rw [bkL_0, List.append_nil]; exact h53, by rw [bkL_0, List.append_nil]; exact h113, fun b r c b0 b1 => absurd b1 (by omega), fun _ _ _ => rfl, fun _ _ _ _ _ _ => rfl⟩
    obtain ⟨j6, N, rfl, j1, j2, j3, j4, j5⟩ := hu
    by_cases c6 : (j : Int) < 6
    · have e114 : N 114 = M 114 := j5 114 (by decide) (by decide) (by decide) (by decide) (by decide)
      have nb : n + ((l ++ bkL lv j).length : Int) ≤ 50000 := by
        have := bkL_len hl j
        rw [List.length_append]
        omega
      have nb0 : 0 ≤ n + ((l ++ bkL lv j).length : Int) := by omega
      obtain ⟨N2, x1, x2, x3, x4', x5, x6, x7⟩ := k_282 (m := N) (k := k) (q := q) (b := (j : Int)) (st := st) (W := W) (n := n + ((l ++ bkL lv j).length : Int)) (by omega) c6 s0 (by omega) ⟨fun m' a1 a2 a3 => SW.1 m' (by rw [a1, j4 33 (by decide) (by decide)]) (by rw [a2, j5 103 (by decide) (by decide) (by decide) (by decide) (by decide)]) (by rw [a3, j5 121 (by decide) (by decide) (by decide) (by decide) (by decide)]), SW.2⟩ (fun z z0 z1 => by rw [e114, (hF z z0 z1).1]; exact (hF z z0 z1).2) j1 nb0 nb
      have elv : ∀ i : Int, lvP W (N 114) st (j : Int) i = lv (j : Int) i := fun i => by
        rw [hlv, e114]
        exact lvP_c (by omega) c6 (fun _ _ _ => rfl) (fun z z0 z1 => (hF z z0 z1).1)
      have ebl : blkB (lvP W (N 114) st (j : Int)) = blkB (lv (j : Int)) := by
        have : lvP W (N 114) st (j : Int) = lv (j : Int) := funext elv
        rw [this]
      rw [ebl] at x2 x3
      refine ⟨.inl ((j : Int) + 1, N2), ?_, ?_⟩
      · show jd_284_s317 k q st x4 0 (j : Int) N = _
        unfold jd_284_s317
        rw [n_jw (z := (j : Int)) (by omega) (by omega), if_neg (by omega), if_pos (show jw 0 = 0 by decide), x1, Option.bind_some]
      · show jse _ _ _
        rw [jse_l]
        have es : l ++ bkL lv (j + 1) = (l ++ bkL lv j) ++ blkB (lv (j : Int)) := by
          show l ++ (bkL lv j ++ blkB (lv (j : Int))) = _
          rw [List.append_assoc]
        refine ⟨by omega, by omega, N2, by rw [show ((j + 1 : Nat) : Int) = (j : Int) + 1 by omega], ?_, ?_, fun b r c b0 b1 r0 r1 c0 c1 => ?_, fun z z1 z2 => (x4' z z1 z2).trans (j4 z z1 z2), fun c c1 c2 c3 c4 c5 => (x5 c c1 c2 c3 c4 c5).trans (j5 c c1 c2 c3 c4 c5)⟩
        · rw [x3, es, List.length_append (as := l ++ bkL lv j)]
          omega
        · rw [x2, j2, es, gW_app]
        · by_cases eb : b = (j : Int)
          · subst eb
            rw [x6 r c r0 r1 c0 c1]
            unfold rsB
            rw [hd_c (fun i i0 i1 => ?_)]
            show lvP W (N 114) st (j : Int) (usc i) * st = lv (j : Int) (usc i) * st
            rw [elv]
          · rw [x7 _ (fun r' c' r0' r1' c0' c1' ee => eb (cb_j b0 (by omega) r0 r1 c0 c1 (by omega) c6 r0' r1' c0' c1' ee).1)]
            exact j3 b r c b0 (by omega) r0 r1 c0 c1
    · have en : j = 6 := by omega
      subst en
      refine ⟨.inr N, ?_, ?_⟩
      · show jd_284_s317 k q st x4 0 ((6 : Nat) : Int) N = _
        unfold jd_284_s317
        rw [if_pos (by decide)]
      · show jse _ _ _
        rw [jse_r]
        exact ⟨j1, j2, fun b r c b0 b1 => j3 b r c b0 b1, j4, j5⟩
  refine ⟨N, e, h1, h2, fun z z0 z1 => ?_, h4, h5⟩
  obtain ⟨b, r, c, b0, b1, r0, r1, c0, c1, rfl⟩ := cb_all z0 z1
  rw [RZ_v b0 b1 r0 r1 c0 c1]
  exact h3 b r c b0 b1 r0 r1 c0 c1
theorem k_288 (S : PSm s Q I m p b1 b2 w h X Y k kd st q a1 a2 W G fd) (w0 : 0 ≤ way) (w1 : way < jd_262 kd) (hmd : mdW kd way = md) (n0 : 0 ≤ n) (n1 : n ≤ 40000) (P : PreM m M n way md kd fd G) : ∃ N, AftM m N w h X Y k kd st a1 a2 way md n W G fd ∧ jd_284_b288 k q st n (if md = 0 then 1 else 0) M = (if jwl (N 76 75) < 0 then jd_284_b480 k q n (wC m w h X Y k kd st a1 a2 way md W G fd) N else (if jwl (wC m w h X Y k kd st a1 a2 way md W G fd) < jwl (N 76 75) then jd_284_b480 k q n (wC m w h X Y k kd st a1 a2 way md W G fd) N else some N)) := by
  have S' := S
  obtain ⟨-, ⟨-, -, sw, sh⟩, -, ⟨k0, k2, s0, s1⟩, ⟨hX, hY, q0, q1⟩, ⟨mw, mh, mk, kk0, kk1⟩, PE, R1, R2, wt, sp, gs, gp, fb, f1, f2⟩ := S
  obtain ⟨p1, p2, p3, p4, ⟨v0, v1, v2, v3⟩, p6, p7, p8⟩ := P
  obtain ⟨u1, u2, u3, u4, u5, u6⟩ := mdW_t k0 k2 w0 w1
  have w7 := (tl_k k0 k2 w0 w1).2.2.2.2
  rw [hmd] at u1 u2 u5 u6
  clear u3 u4
  have mr := mm_r sw sh q0 q1
  have hb : 0 ≤ hwm md kd ∧ hwm md kd ≤ 5 := by
    unfold hwm
    constructor
    · repeat' split
      all_goals omega
    · repeat' split
      all_goals omega
  have M109 : M 109 = m 109 := p8 109 (by decide) (by decide) (by decide)
  have M102 : M 102 = m 102 := p8 102 (by decide) (by decide) (by decide)
  have M36 : M 76 36 = m 76 36 := p7 36 (by decide) (by decide) (by decide) (by decide) (by decide) (by decide) (by decide) (by decide)
  have vb : ∀ i : Int, 0 ≤ i → i < 4 → -16 ≤ Vw md kd fd G i ∧ Vw md kd fd G i ≤ 16 := fun i i0 i1 => by
    have := Vw_b (md := md) S' i0 i1
    omega
  have RM : RfM M w h k kd (hwm md kd) a1 a2 := by
    refine ⟨by rw [M102]; exact mk, k0, k2, fun h3 m' z1 z2 => ?_, fun h3 => ?_, fun h3 => ?_⟩
    · exact (R1 (u5 h3)).2.2 m' (z1.trans M36) (z2.trans M102)
    · have R := (R1 (u5 (by omega))).2.1
      refine ⟨R.2.2.2.1, R.2.2.2.2.1, fun pl j x0 x1 x2 x3 => ?_⟩
      rw [M109]
      exact (R.2.2.2.2.2 pl j x0 x1 x2 x3).2
    · have R := R2 (u6 h3)
      refine ⟨fun m' z1 z2 => R.2.2 m' (z1.trans M36) (z2.trans M102), R.2.1.2.2.2.1, R.2.1.2.2.2.2.1, fun pl j x0 x1 x2 x3 => ?_⟩
      rw [M109]
      exact (R.2.1.2.2.2.2.2 pl j x0 x1 x2 x3).2
  obtain ⟨Gf, e247, hG⟩ := k_247 (m := M) (mm := q) (k := k) (kd := kd) (how := hwm md kd) (a1 := a1) (a2 := a2) (fx := Vw md kd fd G 0) (fy := Vw md kd fd G 1) (bx := Vw md kd fd G 2) (by' := Vw md kd fd G 3) sw sh (by rw [p7 33 (by decide) (by decide) (by decide) (by decide) (by decide) (by decide) (by decide) (by decide)]; exact mw) (by rw [p7 34 (by decide) (by decide) (by decide) (by decide) (by decide) (by decide) (by decide) (by decide)]; exact mh) kk0 kk1 q0 q1 hb.1 hb.2 RM (vb 0 (by decide) (by decide)) (vb 1 (by decide) (by decide)) (vb 2 (by decide) (by decide)) (vb 3 (by decide) (by decide)) (fun _ pl x0 x1 => by
    rw [M109]
    exact (prt_nb sw sh mr.1 mr.2.1 mr.2.2.1 mr.2.2.2.1 (qxy rfl rfl) PE x0 x1).2)
  obtain ⟨F, hF⟩ : ∃ F, F = wF m w h X Y k kd a1 a2 md G fd := ⟨_, rfl⟩
  have gF : ∀ z : Int, 0 ≤ z → z < 96 → Gf z = F z := fun z z0 z1 => by
    obtain ⟨pl, r, c, x0, x1, r0, r1, c0, c1, rfl⟩ := pl_cell z0 z1
    rw [hG pl r c x0 x1 r0 r1 c0 c1, hF, M109, hX, hY]
    unfold wF
    rw [FP_v x0 x1 r0 r1 c0 c1]
    rfl
  have fbd : ∀ z : Int, 0 ≤ z → z < 96 → 0 ≤ F z ∧ F z ≤ 255 := fun z z0 z1 => by rw [hF]; exact wF_b S' w0 w1 hmd z0 z1
  obtain ⟨M1, hM1⟩ : ∃ M1, M1 = ims M 114 Gf := ⟨_, rfl⟩
  rw [← hM1] at e247
  have o1 : ∀ c : Nat, c ≠ 114 → M1 c = M c := fun c hc => by rw [hM1, ims_o hc]
  have m114 : M1 114 = Gf := by rw [hM1, ims_e]
  have SP1 : SrcP M1 k q W := ⟨fun m' a1 a2 a3 => sp.1 m' (by rw [a1, o1 76 (by decide), p7 33 (by decide) (by decide) (by decide) (by decide) (by decide) (by decide) (by decide) (by decide)]) (by rw [a2, o1 103 (by decide), p8 103 (by decide) (by decide) (by decide)]) (by rw [a3, o1 121 (by decide), p8 121 (by decide) (by decide) (by decide)]), sp.2⟩
  obtain ⟨l, hl⟩ : ∃ l, cd way ++ vcL md (Vw md kd fd G) G 4 = l := ⟨_, rfl⟩
  rw [hl] at p1 p2
  have ll : (l.length : Int) ≤ 100 := by
    obtain ⟨A, hA⟩ : ∃ A, (cd way).length = A := ⟨_, rfl⟩
    have l3 := lw_a (k := 3) w0 (by show way + 1 < 8; omega) hA
    have l2 := vcL_len (md := md) (V := Vw md kd fd G) (G := G) (fun i i0 i1 => by
      have a := Vw_b (md := md) S' i0 i1
      have b := (gs i i0 i1).2
      omega) 4 (by decide)
    rw [← hl, List.length_append, hA]
    omega
  -- the blocks
  obtain ⟨N, eN, y1, y2, y3, y4, y5⟩ : ∃ N, jd_284_l317 k q st n (if md = 0 then 1 else 0) 0 M1 = some N ∧ N 76 53 = n + ((wB m w h X Y k kd st a1 a2 way md W G fd).length : Int) ∧ N 113 = gW (m 113) n (wB m w h X Y k kd st a1 a2 way md W G fd) ∧ (∀ z : Int, 0 ≤ z → z < 96 → N 115 z = if md = 0 then 0 else RZ (wL m w h X Y k kd st a1 a2 md W G fd) st z) ∧ (∀ z : Int, z ≠ 53 → z ≠ 59 → N 76 z = M1 76 z) ∧ ∀ c : Nat, c ≠ 76 → c ≠ 113 → c ≠ 115 → c ≠ 116 → c ≠ 117 → N c = M1 c := by
    by_cases c : md = 0
    · have eb : wB m w h X Y k kd st a1 a2 way md W G fd = l := by
        unfold wB pB
        rw [if_pos c, List.append_nil, hl]
      rw [eb]
      refine ⟨M1, ?_, by rw [o1 76 (by decide)]; exact p1, by rw [o1 113 (by decide)]; exact p2, fun z z0 z1 => by rw [o1 115 (by decide), if_pos c]; exact p6 z z0 z1, fun _ _ _ => rfl, fun _ _ _ _ _ _ => rfl⟩
      unfold jd_284_l317
      refine w_for (f := fun u : (Int × jM) => jd_284_s317 k q st n (if md = 0 then 1 else 0) u.1 u.2) (fun _ => (0, M1)) 0 (fun n hn => absurd hn (by omega)) ?_ (n_fu (by decide))
      show jd_284_s317 k q st n (if md = 0 then 1 else 0) 0 M1 = _
      unfold jd_284_s317
      rw [if_pos c, if_neg (show ¬ 6 ≤ jw 0 by decide), if_neg (show ¬ jw 1 = 0 by decide)]
    · obtain ⟨N, z1, z2, z3, z4, z5, z6⟩ := k_317 (m := m) (M := M1) (k := k) (q := q) (st := st) (W := W) (F := F) (lv := wL m w h X Y k kd st a1 a2 md W G fd) (l := l) (n := n) SP1 s0 s1 (fun z z0 z1 => by rw [m114, gF z z0 z1]; exact ⟨rfl, fbd z z0 z1⟩) (by rw [hF]; rfl) (by rw [o1 76 (by decide)]; exact p1) (by rw [o1 113 (by decide)]; exact p2) n0 (by omega) n
      have eb : wB m w h X Y k kd st a1 a2 way md W G fd = l ++ bkL (wL m w h X Y k kd st a1 a2 md W G fd) 6 := by
        unfold wB pB
        rw [if_neg c, ← List.append_assoc, hl]
      rw [if_neg c, eb]
      exact ⟨N, z1, z2, z3, fun z z0 z1 => by rw [z4 z z0 z1]; exact (if_neg c).symm, z5, z6⟩
  have n114 : N 114 = Gf := by rw [y5 114 (by decide) (by decide) (by decide) (by decide) (by decide)]; exact m114
  have md' : ∀ z : Int, 0 ≤ z → z < 96 → jd_205 (jw (N 114 z + N 115 z)) 0 255 = wM m w h X Y k kd st a1 a2 md W G fd z := fun z z0 z1 => by
    rw [n114, gF z z0 z1, y3 z z0 z1, hF]
    exact (wM_b S' w0 w1 hmd z0 z1).1.symm
  have ec := k_284c (m := N) (k := k) (q := q) (x5 := n) (W := W) (Md := wM m w h X Y k kd st a1 a2 md W G fd) (c0 := st * st * ((wB m w h X Y k kd st a1 a2 way md W G fd).length : Int)) ⟨fun m' a1 a2 a3 => SP1.1 m' (by rw [a1, y4 33 (by decide) (by decide)]) (by rw [a2, y5 103 (by decide) (by decide) (by decide) (by decide) (by decide)]) (by rw [a3, y5 121 (by decide) (by decide) (by decide) (by decide) (by decide)]), SP1.2⟩ (fun z z0 z1 => ⟨md' z z0 z1, (wM_b S' w0 w1 hmd z0 z1).2⟩)
  have len := (wC_b S' w0 w1 hmd).1
  have hst : jw st = st := n_jw (by omega) (by omega)
  have hlen : jw (N 76 53 - n) = ((wB m w h X Y k kd st a1 a2 way md W G fd).length : Int) := by
    rw [y1, show n + ((wB m w h X Y k kd st a1 a2 way md W G fd).length : Int) - n = ((wB m w h X Y k kd st a1 a2 way md W G fd).length : Int) by omega]
    exact n_jw (by omega) (by omega)
  refine ⟨N, ⟨y1, y2, md', ?_, ⟨?_, ?_, ?_, ?_⟩, fun z a1 a2 a3 a4 a5 a6 a7 a8 => ?_, fun c c1 c2 c3 c4 c5 c6 => ?_⟩, ?_⟩
  · rw [y4 60 (by decide) (by decide), o1 76 (by decide)]
    exact p3
  · rw [y4 62 (by decide) (by decide), o1 76 (by decide)]
    exact v0
  · rw [y4 63 (by decide) (by decide), o1 76 (by decide)]
    exact v1
  · rw [y4 64 (by decide) (by decide), o1 76 (by decide)]
    exact v2
  · rw [y4 65 (by decide) (by decide), o1 76 (by decide)]
    exact v3
  · rw [y4 z a1 a2, o1 76 (by decide)]
    exact p7 z a1 a2 a3 a4 a5 a6 a7 a8
  · rw [y5 c c1 c2 c4 c5 c6, o1 c c3]
    exact p8 c c1 c2 c4
  · have ec' : jd_284_l366 k q n (jw st * jw st * jw (N 76 53 - n)) 0 N = some (wC m w h X Y k kd st a1 a2 way md W G fd) := by
      rw [hst, hlen]
      exact ec
    unfold jd_284_b288
    rw [p4, v0, v1, v2, v3, e247, Option.bind_some, eN, Option.bind_some, ec', Option.bind_some]
end WayM2
