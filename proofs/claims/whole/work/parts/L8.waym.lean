/-! making: a way's head and vectors, model -/
section WayM
variable {s : hS} {Q : hQ} {I m M : jM} {p b1 b2 : Nat} {w h X Y k kd st q a1 a2 way md n : Int} {W G fd V : Int → Int}
theorem vcL_z {V G : Int → Int} : ∀ n : Nat, vcL 0 V G n = []
  | 0 => rfl
  | n + 1 => by
    have : tl 0 (n : Int) = 0 := by
      unfold tl
      rw [if_neg (by decide)]
      split <;> rfl
    rw [vcL_s, vcL_z n, if_pos this]
    rfl
/-- the state when a way's part is foretold -/
def PreM (m M : jM) (n way md kd : Int) (fd G : Int → Int) : Prop := M 76 53 = n + ((cd way ++ vcL md (Vw md kd fd G) G 4).length : Int) ∧ M 113 = gW (m 113) n (cd way ++ vcL md (Vw md kd fd G) G 4) ∧ M 76 60 = way ∧ M 76 61 = hwm md kd ∧ (M 76 62 = Vw md kd fd G 0 ∧ M 76 63 = Vw md kd fd G 1 ∧ M 76 64 = Vw md kd fd G 2 ∧ M 76 65 = Vw md kd fd G 3) ∧ (∀ z : Int, 0 ≤ z → z < 96 → M 115 z = 0) ∧ (∀ z : Int, z ≠ 53 → z ≠ 59 → z ≠ 60 → z ≠ 61 → z ≠ 62 → z ≠ 63 → z ≠ 64 → z ≠ 65 → M 76 z = m 76 z) ∧ ∀ c : Nat, c ≠ 76 → c ≠ 113 → c ≠ 115 → M c = m c
theorem hw_n {kd way : Int} (k0 : 0 ≤ kd) (k2 : kd ≤ 2) (w0 : 0 ≤ way) (w1 : way < jd_262 kd) : (mdW kd way = 0 → jd_261 kd way = -1 ∧ hwm (mdW kd way) kd = (if kd = 1 then 3 else 5)) ∧ (mdW kd way ≠ 0 → jd_261 kd way = hwm (mdW kd way) kd ∧ 0 ≤ hwm (mdW kd way) kd ∧ hwm (mdW kd way) kd ≤ 5 ∧ (if hwm (mdW kd way) kd = 3 then (1 : Int) else if hwm (mdW kd way) kd = 5 then 1 else 0) = tl (mdW kd way) 0 ∧ (if hwm (mdW kd way) kd = 4 then (1 : Int) else if hwm (mdW kd way) kd = 5 then 1 else 0) = tl (mdW kd way) 2) := by
  have key : ∀ (a : Fin 3) (b : Fin 7), (b.val : Int) < jd_262 (a.val : Int) → (mdW (a.val : Int) (b.val : Int) = 0 → jd_261 (a.val : Int) (b.val : Int) = -1 ∧ hwm (mdW (a.val : Int) (b.val : Int)) (a.val : Int) = (if (a.val : Int) = 1 then 3 else 5)) ∧ (mdW (a.val : Int) (b.val : Int) ≠ 0 → jd_261 (a.val : Int) (b.val : Int) = hwm (mdW (a.val : Int) (b.val : Int)) (a.val : Int) ∧ 0 ≤ hwm (mdW (a.val : Int) (b.val : Int)) (a.val : Int) ∧ hwm (mdW (a.val : Int) (b.val : Int)) (a.val : Int) ≤ 5 ∧ (if hwm (mdW (a.val : Int) (b.val : Int)) (a.val : Int) = 3 then (1 : Int) else if hwm (mdW (a.val : Int) (b.val : Int)) (a.val : Int) = 5 then 1 else 0) = tl (mdW (a.val : Int) (b.val : Int)) 0 ∧ (if hwm (mdW (a.val : Int) (b.val : Int)) (a.val : Int) = 4 then (1 : Int) else if hwm (mdW (a.val : Int) (b.val : Int)) (a.val : Int) = 5 then 1 else 0) = tl (mdW (a.val : Int) (b.val : Int)) 2) := by decide
  have w7 := (tl_k k0 k2 w0 w1).2.2.2.2
  have hk := key ⟨kd.toNat, by omega⟩ ⟨way.toNat, by omega⟩
  dsimp only at hk
  rw [show ((kd.toNat : Nat) : Int) = kd by omega, show ((way.toNat : Nat) : Int) = way by omega] at hk
  exact hk w1
/-- the head: what is set ahead, and the way's code -/
theorem k_284h (mk : m 102 k = kd) (kk0 : 0 ≤ k) (kk1 : k < 12) (w0 : 0 ≤ way) (w6 : way ≤ 6) (n0 : 0 ≤ n) (n1 : n ≤ 40000) (hj : jw (jd_261 kd way) = jd_261 kd way) : ∃ Z M, (∀ j : Int, 0 ≤ j → j < 96 → Z j = 0) ∧ M = wrM (ims (jms (jms (jms (jms m 76 53 n) 76 60 way) 76 61 (jd_261 kd way)) 76 59 0) 115 Z) n (cd way) ∧ jd_284 k q way st n m = (if jd_261 kd way = -1 then ((jd_264 k q M).bind fun m111 => jd_284_b85 k q st n 1 m111) else jd_284_b85 k q st n 0 M) := by
  obtain ⟨Z, e1, hZ⟩ := k_284z (m := jms (jms (jms (jms m 76 53 n) 76 60 way) 76 61 (jd_261 kd way)) 76 59 0) (k := k) (q := q) (b := way) (st := st) (x5 := n)
  obtain ⟨x14, hx⟩ : ∃ x, x = ims (jms (jms (jms (jms m 76 53 n) 76 60 way) 76 61 (jd_261 kd way)) 76 59 0) 115 Z := ⟨_, rfl⟩
  rw [← hx] at e1
  have x53 : x14 76 53 = n := by rw [hx, ims_o (by decide), jms_i (by decide), jms_i (by decide), jms_i (by decide), jms_e]
  have x61 : x14 76 61 = jd_261 kd way := by rw [hx, ims_o (by decide), jms_i (by decide), jms_e]
  obtain ⟨A, hA⟩ : ∃ A, (cd way).length = A := ⟨_, rfl⟩
  have l3 := lw_a (k := 3) w0 (by show way + 1 < 8; omega) hA
  have e2 := k_234 (m := x14) (v := way) x53 n0 w0 (by omega) (by rw [hA]; omega)
  have y61 : wrM x14 n (cd way) 76 61 = jd_261 kd way := by rw [wrM_76 (by decide)]; exact x61
  have m3k : jma (jms (jms m 76 53 n) 76 60 way) 102 k = some kd := by
    rw [y_ma 102 12 rfl rfl kk0 (by omega), jms_o (by decide), jms_o (by decide), mk]
  refine ⟨Z, wrM x14 n (cd way), hZ, by rw [hx], ?_⟩
  unfold jd_284
  rw [Option.bind_some, Option.bind_some, m3k, Option.bind_some, Option.bind_some, Option.bind_some, e1, Option.bind_some, e2, Option.bind_some, y61, hj, Option.bind_some]
  by_cases c : jd_261 kd way = -1
  · rw [if_pos c, if_pos c, if_neg (show ¬ jw 1 = 0 by decide)]
  · rw [if_neg c, if_neg c, if_pos (show jw 0 = 0 by decide)]
theorem k_pre (S : PSm s Q I m p b1 b2 w h X Y k kd st q a1 a2 W G fd) (w0 : 0 ≤ way) (w1 : way < jd_262 kd) (hmd : mdW kd way = md) (n0 : 0 ≤ n) (n1 : n ≤ 40000) : ∃ M, PreM m M n way md kd fd G ∧ jd_284 k q way st n m = jd_284_b288 k q st n (if md = 0 then 1 else 0) M := by
  have S' := S
  obtain ⟨-, -, -, ⟨k0, k2, s0, s1⟩, -, ⟨mw, mh, mk, kk0, kk1⟩, -, -, -, -, -, gs, gp, fb, f1, f2⟩ := S
  have w7 := (tl_k k0 k2 w0 w1).2.2.2.2
  obtain ⟨h0, h1⟩ := hw_n k0 k2 w0 w1
  rw [hmd] at h0 h1
  obtain ⟨how0, hh0⟩ : ∃ z, jd_261 kd way = z := ⟨_, rfl⟩
  rw [hh0] at h0 h1
  have hb : -1 ≤ how0 ∧ how0 ≤ 5 := by
    by_cases c : md = 0
    · have := (h0 c).1
      omega
    · obtain ⟨x1, x2, x3, -⟩ := h1 c
      rw [x1]
      omega
  obtain ⟨Z, M, hZ, hM, e⟩ := k_284h (m := m) (k := k) (q := q) (st := st) (way := way) (n := n) mk kk0 kk1 w0 (by omega) n0 n1 (by rw [hh0]; exact n_jw (by omega) (by omega))
  rw [hh0] at hM e
  have M60 : M 76 60 = way := by rw [hM, wrM_76 (by decide), ims_o (by decide), jms_i (by decide), jms_i (by decide), jms_e]
  have M61 : M 76 61 = how0 := by rw [hM, wrM_76 (by decide), ims_o (by decide), jms_i (by decide), jms_e]
  have Mo : ∀ z : Int, z ≠ 53 → z ≠ 59 → z ≠ 60 → z ≠ 61 → M 76 z = m 76 z := fun z a b c d => by rw [hM, wrM_76 a, ims_o (by decide), jms_i b, jms_i d, jms_i c, jms_i a]
  have Mc : ∀ c : Nat, c ≠ 76 → c ≠ 113 → c ≠ 115 → M c = m c := fun c x1 x2 x3 => by rw [hM, wrM_o x1 x2, ims_o x3, jms_o x1, jms_o x1, jms_o x1, jms_o x1]
  have M115 : M 115 = Z := by rw [hM, wrM_o (by decide) (by decide), ims_e]
  have M113 : M 113 = gW (m 113) n (cd way) := by rw [hM, wrM_113]; rfl
  have M53 : M 76 53 = n + ((cd way).length : Int) := by rw [hM, wrM_53]
  by_cases c : md = 0
  · subst c
    obtain ⟨x1, x2⟩ := h0 rfl
    rw [if_pos x1] at e
    -- skipped
    have kd1 : kd = 1 ∨ kd = 2 := by
      have := (mdW_t k0 k2 w0 w1).2.2.1
      rw [hmd] at this
      have := this rfl
      omega
    have v0 : Vw 0 kd fd G 0 = if kd = 1 then G 0 else 0 := by
      unfold Vw
      rw [if_neg (by show ¬ ¬ tl 0 0 = 0; decide)]
      exact if_c (by omega)
    have v1 : Vw 0 kd fd G 1 = if kd = 1 then G 1 else 0 := by
      unfold Vw
      rw [if_neg (by show ¬ ¬ tl 0 1 = 0; decide)]
      exact if_c (by omega)
    have v2 : Vw 0 kd fd G 2 = 0 := by
      unfold Vw
      rw [if_neg (by show ¬ ¬ tl 0 2 = 0; decide), if_neg (by omega)]
    have v3 : Vw 0 kd fd G 3 = 0 := by
      unfold Vw
      rw [if_neg (by show ¬ ¬ tl 0 3 = 0; decide), if_neg (by omega)]
    obtain ⟨M2, hM2⟩ : ∃ M2, M2 = jms (jms (jms (jms (jms M 76 61 (hwm 0 kd)) 76 62 (Vw 0 kd fd G 0)) 76 63 (Vw 0 kd fd G 1)) 76 64 0) 76 65 0 := ⟨_, rfl⟩
    have e264 : jd_264 k q M = some M2 := by
      have ma : ∀ N : jM, N 102 = m 102 → jma N 102 k = some kd := fun N hN => by rw [y_ma 102 12 rfl rfl kk0 (by omega), hN, mk]
      have jk : jw kd = kd := n_jw (by omega) (by omega)
      have g0 := gp (jms M 76 61 (hwm 0 kd)) (by rw [jms_i (by decide), Mo 33 (by decide) (by decide) (by decide) (by decide)]) (by rw [jms_o (by decide), Mc 111 (by decide) (by decide) (by decide)]) 0 (by decide) (by decide)
      have g1 := gp (jms (jms M 76 61 (hwm 0 kd)) 76 62 (Vw 0 kd fd G 0)) (by rw [jms_i (by decide), jms_i (by decide), Mo 33 (by decide) (by decide) (by decide) (by decide)]) (by rw [jms_o (by decide), jms_o (by decide), Mc 111 (by decide) (by decide) (by decide)]) 1 (by decide) (by decide)
      rw [x2] at hM2 g0 g1
      rw [v0, v1] at hM2
      rw [v0] at g1
      unfold jd_264 jd_264_b41 jd_264_b66
      rw [ma M (Mc 102 (by decide) (by decide) (by decide)), Option.bind_some, jk, Option.bind_some, ma _ (by rw [jms_o (by decide)]; exact Mc 102 (by decide) (by decide) (by decide)), Option.bind_some, jk]
      rcases kd1 with e1 | e1
      · rw [if_pos e1] at hM2 g0 g1 ⊢
        rw [if_pos e1] at hM2 g1
        rw [if_pos e1] at hM2
        have g0' : jd_260 k q 1 (jms M 76 61 3) = some (G 0) := g0
        have g1' : jd_260 k q 2 (jms (jms M 76 61 3) 76 62 (G 0)) = some (G 1) := g1
        rw [if_pos e1, g0', Option.bind_some, Option.bind_some, ma _ (by rw [jms_o (by decide), jms_o (by decide)]; exact Mc 102 (by decide) (by decide) (by decide)), Option.bind_some, jk, if_pos e1, g1', Option.bind_some, Option.bind_some, Option.bind_some, Option.bind_some, hM2]
      · rw [if_neg (show ¬ kd = 1 by omega)] at hM2 ⊢
        rw [if_neg (show ¬ kd = 1 by omega)] at hM2 ⊢
        rw [if_neg (show ¬ kd = 1 by omega)] at hM2
        rw [Option.bind_some, ma _ (by rw [jms_o (by decide), jms_o (by decide)]; exact Mc 102 (by decide) (by decide) (by decide)), Option.bind_some, jk, if_neg (show ¬ kd = 1 by omega), Option.bind_some, Option.bind_some, Option.bind_some, hM2]
    refine ⟨M2, ⟨?_, ?_, ?_, ?_, ⟨?_, ?_, ?_, ?_⟩, fun z z0 z1 => ?_, fun z a1 a2 a3 a4 a5 a6 a7 a8 => ?_, fun c c1 c2 c3 => ?_⟩, ?_⟩
    · rw [hM2, jms_i (by decide), jms_i (by decide), jms_i (by decide), jms_i (by decide), jms_i (by decide), M53, vcL_z, List.append_nil]
    · rw [hM2, jms_o (by decide), jms_o (by decide), jms_o (by decide), jms_o (by decide), jms_o (by decide), M113, vcL_z, List.append_nil]
    · rw [hM2, jms_i (by decide), jms_i (by decide), jms_i (by decide), jms_i (by decide), jms_i (by decide)]
      exact M60
    · rw [hM2, jms_i (by decide), jms_i (by decide), jms_i (by decide), jms_i (by decide), jms_e]
    · rw [hM2, jms_i (by decide), jms_i (by decide), jms_i (by decide), jms_e]
    · rw [hM2, jms_i (by decide), jms_i (by decide), jms_e]
    · rw [hM2, jms_i (by decide), jms_e, v2]
    · rw [hM2, jms_e, v3]
    · rw [hM2, jms_o (by decide), jms_o (by decide), jms_o (by decide), jms_o (by decide), jms_o (by decide), M115]
      exact hZ z z0 z1
    · rw [hM2, jms_i a8, jms_i a7, jms_i a6, jms_i a5, jms_i a4]
      exact Mo z a1 a2 a3 a4
    · rw [hM2, jms_o c1, jms_o c1, jms_o c1, jms_o c1, jms_o c1]
      exact Mc c c1 c2 c3
    · rw [e, e264, Option.bind_some, if_pos rfl]
      unfold jd_284_b85 jd_284_b106 jd_284_b129
      rw [if_neg (show ¬ jw 1 = 0 by decide)]
  · obtain ⟨x1, x2, x3, x4, x5⟩ := h1 c
    rw [if_neg (by omega)] at e
    obtain ⟨t1, t2, t3, t4, -⟩ := tl_k k0 k2 w0 w1
    rw [hmd] at t1 t2 t3 t4
    obtain ⟨fw, hfw⟩ : ∃ z, tl md 0 = z := ⟨_, rfl⟩
    obtain ⟨bw, hbw⟩ : ∃ z, tl md 2 = z := ⟨_, rfl⟩
    have fw01 : fw = 0 ∨ fw = 1 := by rw [← hfw]; exact (t3 0 (by decide) (by decide)).2
    have bw01 : bw = 0 ∨ bw = 1 := by rw [← hbw]; exact (t4 2 (by decide) (by decide)).2
    have tf : ∀ i : Int, 0 ≤ i → i < 2 → tl md i = fw := fun i i0 i1 => by
      obtain ⟨y1, y2⟩ := t3 i i0 i1
      rw [hfw] at y1
      rcases y2 with z | z <;> rcases fw01 with z' | z' <;> omega
    have tb : ∀ i : Int, 2 ≤ i → i < 4 → tl md i = bw := fun i i0 i1 => by
      obtain ⟨y1, y2⟩ := t4 i i0 i1
      rw [hbw] at y1
      rcases y2 with z | z <;> rcases bw01 with z' | z' <;> omega
    have vv : ∀ {i fb : Int}, tl md i = fb → (fb = 0 ∨ fb = 1) → ∀ u : Int, (fb = 1 → u = fd i) → fb * u = Vw md kd fd G i := fun {i} {fb} ht hf u hu => by
      unfold Vw
      rw [ht]
      rcases hf with z | z
      · rw [if_neg (by omega), if_neg (fun e => c e.1), z, Int.zero_mul]
      · rw [if_pos (by omega), z, Int.one_mul]
        exact hu z
    have d125 : ∀ {N : jM}, N 125 = m 125 → ∀ i : Int, 0 ≤ i → i < 4 → jma N 125 i = some (m 125 i) := fun {N} hN i i0 i1 => by rw [y_ma 125 4 rfl rfl i0 (by omega), hN]
    have k0' : fw * m 125 0 = Vw md kd fd G 0 := vv (tf 0 (by decide) (by decide)) fw01 _ (fun z => (f1 (t1 0 (by decide) (by decide) (by rw [tf 0 (by decide) (by decide)]; omega))).2.2.1)
    have k1' : fw * m 125 1 = Vw md kd fd G 1 := vv (tf 1 (by decide) (by decide)) fw01 _ (fun z => (f1 (t1 1 (by decide) (by decide) (by rw [tf 1 (by decide) (by decide)]; omega))).2.2.2)
    have k2' : bw * m 125 2 = Vw md kd fd G 2 := vv (tb 2 (by decide) (by decide)) bw01 _ (fun z => (f2 (t2 2 (by decide) (by decide) (by rw [tb 2 (by decide) (by decide)]; omega))).2.2.1)
    have k3' : bw * m 125 3 = Vw md kd fd G 3 := vv (tb 3 (by decide) (by decide)) bw01 _ (fun z => (f2 (t2 3 (by decide) (by decide) (by rw [tb 3 (by decide) (by decide)]; omega))).2.2.2)
    obtain ⟨N, hN⟩ : ∃ N, N = jms (jms (jms (jms (ims (jms (jms (jms (jms m 76 53 n) 76 60 way) 76 61 how0) 76 59 0) 115 Z) 76 62 (Vw md kd fd G 0)) 76 63 (Vw md kd fd G 1)) 76 64 (Vw md kd fd G 2)) 76 65 (Vw md kd fd G 3) := ⟨_, rfl⟩
    have jw76 : ∀ (N1 : jM) (z v : Int), z ≠ 53 → jms (wrM N1 n (cd way)) 76 z v = wrM (jms N1 76 z v) n (cd way) := fun N1 z v hz => by
      refine wK_ext ?_ (fun y hy => ?_) ?_ (fun c h1 h2 => ?_)
      · rw [jms_i (by omega), wrM_53, wrM_53]
      · rw [wrM_76 hy]
        by_cases ez : y = z
        · rw [ez, jms_e, jms_e]
        · rw [jms_i ez, jms_i ez, wrM_76 hy]
      · rw [jms_o (by decide), wrM_113, wrM_113, jms_o (by decide)]
      · rw [jms_o h1, wrM_o h1 h2, wrM_o h1 h2, jms_o h1]
    have hMN : jms (jms (jms (jms M 76 62 (Vw md kd fd G 0)) 76 63 (Vw md kd fd G 1)) 76 64 (Vw md kd fd G 2)) 76 65 (Vw md kd fd G 3) = wrM N n (cd way) := by
      rw [hM, jw76 _ _ _ (by decide), jw76 _ _ _ (by decide), jw76 _ _ _ (by decide), jw76 _ _ _ (by decide), hN]
    have N53 : N 76 53 = n := by rw [hN, jms_i (by decide), jms_i (by decide), jms_i (by decide), jms_i (by decide), ims_o (by decide), jms_i (by decide), jms_i (by decide), jms_i (by decide), jms_e]
    have No : ∀ z : Int, z ≠ 53 → z ≠ 59 → z ≠ 60 → z ≠ 61 → z ≠ 62 → z ≠ 63 → z ≠ 64 → z ≠ 65 → N 76 z = m 76 z := fun z a1 a2 a3 a4 a5 a6 a7 a8 => by rw [hN, jms_i a8, jms_i a7, jms_i a6, jms_i a5, ims_o (by decide), jms_i a2, jms_i a4, jms_i a3, jms_i a1]
    have Nc : ∀ c : Nat, c ≠ 76 → c ≠ 115 → N c = m c := fun c c1 c2 => by rw [hN, jms_o c1, jms_o c1, jms_o c1, jms_o c1, ims_o c2, jms_o c1, jms_o c1, jms_o c1, jms_o c1]
    have N62 : N 76 62 = Vw md kd fd G 0 := by rw [hN, jms_i (by decide), jms_i (by decide), jms_i (by decide), jms_e]
    have N63 : N 76 63 = Vw md kd fd G 1 := by rw [hN, jms_i (by decide), jms_i (by decide), jms_e]
    have N64 : N 76 64 = Vw md kd fd G 2 := by rw [hN, jms_i (by decide), jms_e]
    have N65 : N 76 65 = Vw md kd fd G 3 := by rw [hN, jms_e]
    have N60 : N 76 60 = way := by rw [hN, jms_i (by decide), jms_i (by decide), jms_i (by decide), jms_i (by decide), ims_o (by decide), jms_i (by decide), jms_i (by decide), jms_e]
    have N61 : N 76 61 = how0 := by rw [hN, jms_i (by decide), jms_i (by decide), jms_i (by decide), jms_i (by decide), ims_o (by decide), jms_i (by decide), jms_e]
    have lcd : n + ((cd way).length : Int) ≤ 59000 := by
      obtain ⟨A, hA⟩ : ∃ A, (cd way).length = A := ⟨_, rfl⟩
      have l3 := lw_a (k := 3) w0 (by show way + 1 < 8; omega) hA
      rw [hA]
      omega
    have ev := k_284v (m := N) (n := n) (l := cd way) (md := md) (fw := fw) (bw := bw) (k := k) (q := q) (x4 := st) (x5 := n) (x6 := 0) (V := Vw md kd fd G) (G := G) N53 n0 lcd (fun i i0 i1 => by rw [tf i i0 i1]; exact ⟨Iff.rfl, fw01⟩) (fun i i0 i1 => by rw [tb i i0 i1]; exact ⟨Iff.rfl, bw01⟩) fw01 bw01 ⟨N62.symm, N63.symm, N64.symm, N65.symm⟩ (fun m' z1 z2 => gp m' (by rw [z1, No 33 (by decide) (by decide) (by decide) (by decide) (by decide) (by decide) (by decide) (by decide)]) (by rw [z2, Nc 111 (by decide) (by decide)])) (fun i i0 i1 => by
      have a := Vw_b (md := md) S' i0 i1
      have b := (gs i i0 i1).2
      omega)
    obtain ⟨l, hl⟩ : ∃ l, cd way ++ vcL md (Vw md kd fd G) G 4 = l := ⟨_, rfl⟩
    rw [hl] at ev
    refine ⟨wrM N n l, ⟨by rw [hl, wrM_53], by rw [hl, wrM_113, Nc 113 (by decide) (by decide)], by rw [wrM_76 (by decide)]; exact N60, by rw [wrM_76 (by decide), N61, x1], ⟨by rw [wrM_76 (by decide)]; exact N62, by rw [wrM_76 (by decide)]; exact N63, by rw [wrM_76 (by decide)]; exact N64, by rw [wrM_76 (by decide)]; exact N65⟩, fun z z0 z1 => ?_, fun z a1 a2 a3 a4 a5 a6 a7 a8 => by rw [wrM_76 a1]; exact No z a1 a2 a3 a4 a5 a6 a7 a8, fun c c1 c2 c3 => by rw [wrM_o c1 c2]; exact Nc c c1 c3⟩, ?_⟩
    · rw [wrM_o (by decide) (by decide), hN, jms_o (by decide), jms_o (by decide), jms_o (by decide), jms_o (by decide), ims_e]
      exact hZ z z0 z1
    · rw [e, if_neg c]
      unfold jd_284_b85 jd_284_b106 jd_284_b129
      have M125 : M 125 = m 125 := Mc 125 (by decide) (by decide) (by decide)
      rw [M61, n_jw (z := how0) (by omega) (by omega), x1, x4, x5, hfw, hbw, if_pos (show jw 0 = 0 by decide), d125 M125 0 (by decide) (by decide), Option.bind_some, k0', Option.bind_some, d125 (by rw [jms_o (by decide)]; exact M125) 1 (by decide) (by decide), Option.bind_some, k1', Option.bind_some, d125 (by rw [jms_o (by decide), jms_o (by decide)]; exact M125) 2 (by decide) (by decide), Option.bind_some, k2', Option.bind_some, d125 (by rw [jms_o (by decide), jms_o (by decide), jms_o (by decide)]; exact M125) 3 (by decide) (by decide), Option.bind_some, k3', Option.bind_some, hMN, ev, Option.bind_some]
end WayM
