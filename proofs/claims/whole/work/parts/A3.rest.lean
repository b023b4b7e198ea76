/-! what the levels add: the model, the class -/
section Rest
variable {s : hS} {Q : hQ} {hm : hO} {I m : jM} {T : Nat} {b st : Int}
theorem wf_cb {V : Int → Int} {g : Int → Int} (b0 : 0 ≤ b) (b1 : b < 6) : (∀ r c : Int, 0 ≤ r → r < 4 → 0 ≤ c → c < 4 → wf (fun i => cb b (i / 4) (i % 4)) (fun i _ => V i) g 16 (cb b r c) = V (4 * r + c)) ∧ ∀ j, (∀ r c : Int, 0 ≤ r → r < 4 → 0 ≤ c → c < 4 → j ≠ cb b r c) → wf (fun i => cb b (i / 4) (i % 4)) (fun i _ => V i) g 16 j = g j := by
  refine ⟨fun r c r0 r1 c0 c1 => ?_, fun j hj => wf_o (fun l hl => hj _ _ (by omega) (by omega) (by omega) (by omega))⟩
  have := wf_k (ix := fun i => cb b (i / 4) (i % 4)) (v := fun i _ => V i) (g := g) (n := 16) (k := (4 * r + c).toNat) (by omega) (fun l h1 h2 e => by
    have := cb_j b0 b1 (by omega) (by omega) (by omega) (by omega) b0 b1 (by omega) (by omega) (by omega) (by omega) e
    omega)
  rw [show (((4 * r + c).toNat : Nat) : Int) = 4 * r + c by omega, show (4 * r + c) / 4 = r by omega, show (4 * r + c) % 4 = c by omega] at this
  exact this
theorem scan_j {i l : Int} (h0 : 0 ≤ i) (h1 : i < 16) (h2 : 0 ≤ l) (h3 : l < 16) (e : jd_254 i = jd_254 l) : i = l := by
  have a1 := (scan_u h0 h1).1
  rw [e, (scan_u h2 h3).1] at a1
  exact a1.symm
theorem wf_sc {V g : Int → Int} {j : Int} (j0 : 0 ≤ j) (j1 : j < 16) : wf (fun i => jd_254 i) (fun i _ => V i) g 16 j = V (usc j) := by
  obtain ⟨e1, e2, e3⟩ := usc_s j0 j1
  generalize usc j = u at e1 e2 e3 ⊢
  obtain ⟨n, rfl⟩ : ∃ n : Nat, u = (n : Int) := ⟨u.toNat, by omega⟩
  have := wf_k (ix := fun i => jd_254 i) (v := fun i _ => V i) (g := g) (n := 16) (k := n) (by omega) (fun l h1 h2 e => by
    have := scan_j (i := (n : Int)) (l := (l : Int)) e2 e3 (by omega) (by omega) e
    omega)
  rw [e1] at this
  exact this
theorem k_257 (b0 : 0 ≤ b) (b1 : b < 6) : ∃ H G F, jd_257 b st m = some (ims (ims (ims m 117 H) 116 G) 115 F) ∧ (∀ r c : Int, 0 ≤ r → r < 4 → 0 ≤ c → c < 4 → F (cb b r c) = jshr (hd (fun j => m 116 j * st) r c + 8) 4) ∧ ∀ j, (∀ r c : Int, 0 ≤ r → r < 4 → 0 ≤ c → c < 4 → j ≠ cb b r c) → F j = m 115 j := by
  have l1 : jd_257_l2 b st 0 m = some (ims m 116 (wf (fun i => i) (fun i G => G i * st) (m 116) 16)) := by
    have := lpM (f := fun u : (Int × jM) => jd_257_s2 b st u.1 u.2) (ct := fun k => k) (ix := fun i => i) (v := fun i G => G i * st) (m := m) (a := 116) 16 (fun k G hk => by
      dsimp only
      unfold jd_257_s2
      rw [n_jw (by omega) (by omega), if_neg (by omega), y_ma 116 16 rfl rfl (by omega) (by omega), Option.bind_some, y_mw 116 16 rfl rfl (by omega) (by omega), Option.bind_some, ims_jms, ims_e]) (fun G => by
      dsimp only
      unfold jd_257_s2
      exact if_pos (by show (16 : Int) ≤ jw ((16 : Nat) : Int); decide)) (by decide) (m 116)
    rw [ims_self] at this
    exact this
  obtain ⟨G0, hG0⟩ : ∃ G, G = wf (fun i => i) (fun i G => G i * st) (m 116) 16 := ⟨_, rfl⟩
  rw [← hG0] at l1
  have v0 : ∀ j : Int, 0 ≤ j → j < 16 → G0 j = m 116 j * st := fun j j0 j1 => by
    have := wf_k (ix := fun i => i) (v := fun i G => G i * st) (g := m 116) (n := 16) (k := j.toNat) (by omega) (fun l _ _ => by omega)
    have o := wf_o (ix := fun i => i) (v := fun i G => G i * st) (g := m 116) (n := j.toNat) (j := j) (fun l hl => by omega)
    rw [show ((j.toNat : Nat) : Int) = j by omega, o] at this
    rw [hG0]; exact this
  obtain ⟨H, G, e2, hG⟩ := k_256 (m := ims m 116 G0)
  rw [ims_e] at hG
  rw [ims_sw (a := 116) (b := 117) (by decide), ims_ims] at e2
  have l3 : jd_257_l30 b 0 (ims (ims m 117 H) 116 G) = some (ims (ims (ims m 117 H) 116 G) 115 (wf (fun i => cb b (i / 4) (i % 4)) (fun i _ => jshr (G i + 8) 4) (m 115) 16)) := by
    have := lpM (f := fun u : (Int × jM) => jd_257_s30 b u.1 u.2) (ct := fun k => k) (ix := fun i => cb b (i / 4) (i % 4)) (v := fun i _ => jshr (G i + 8) 4) (m := ims (ims m 117 H) 116 G) (a := 115) 16 (fun k F hk => by
      dsimp only
      unfold jd_257_s30
      have e1 : ims (ims (ims m 117 H) 116 G) 115 F 116 = G := (ims_o (by decide)).trans ims_e
      have r := cb_r (b := b) (r := (k : Int) / 4) (c := (k : Int) % 4) b0 b1 (by omega) (by omega) (by omega) (by omega)
      rw [n_jw (by omega) (by omega), if_neg (by omega), y_ma 116 16 rfl rfl (by omega) (by omega), Option.bind_some, n_rem (by omega) (by omega) (by decide) (by decide), n_div (by omega) (by omega) (by decide) (by decide), k_253 b0 b1 (by omega) (by omega) (by omega) (by omega), y_mw 115 96 rfl rfl r.1 r.2, Option.bind_some, ims_jms, e1]) (fun F => by
      dsimp only
      unfold jd_257_s30
      exact if_pos (by show (16 : Int) ≤ jw ((16 : Nat) : Int); decide)) (by decide) (m 115)
    have e3 : ims (ims m 117 H) 116 G 115 = m 115 := (ims_o (by decide)).trans (ims_o (by decide))
    have e4 : ims (ims (ims m 117 H) 116 G) 115 (m 115) = ims (ims m 117 H) 116 G := by rw [← e3]; exact ims_self
    rw [e4] at this
    exact this
  have wc := wf_cb (b := b) (V := fun i => jshr (G i + 8) 4) (g := m 115) b0 b1
  refine ⟨H, G, _, ?_, fun r c r0 r1 c0 c1 => ?_, wc.2⟩
  · unfold jd_257
    rw [l1, Option.bind_some, e2, Option.bind_some, l3, Option.bind_some]
  · rw [wc.1 r c r0 r1 c0 c1]
    show jshr (G (4 * r + c) + 8) 4 = _
    rw [hG r c r0 r1 c0 c1, hd_c v0]
theorem c_89 (F : PtC s Q T) (h6 : s.1 ≤ 1000000) (b0 : 0 ≤ b) (b1 : b < 6) (hl : ∀ j : Int, 0 ≤ j → j < 96 → -4095 ≤ I (T + 4) j ∧ I (T + 4) j ≤ 4095) : jd_89 T b (hh s Q I) = some (lc (fun i => I (T + 4) (16 * b + i)) 16) := by
  have q10 := T_q F 4 10 rfl rfl rfl
  have l : jd_89_l7 T b 0 (16 * b) (hh s Q I) = some (lc (fun i => I (T + 4) (16 * b + i)) 16) := by
    unfold jd_89_l7
    have := w_for (f := fun u : (Int × Int) => jd_89_s7 T b u.1 u.2 (hh s Q I)) (fun k => (lc (fun i => I (T + 4) (16 * b + i)) k, 16 * b + (k : Int))) 16 (x := lc (fun i => I (T + 4) (16 * b + i)) 16) (fun k hk => by
      unfold jd_89_s7
      dsimp only
      have hb := hl (16 * b + (k : Int)) (by omega) (by omega)
      rw [n_jw (z := 16 * b + 16) (by omega) (by omega), n_jw (z := 16 * b + (k : Int)) (by omega) (by omega), if_neg (by omega), T_gr F, Option.bind_some, q10, Option.bind_some, T_ai F h6 4 96 rfl rfl rfl rfl (by omega) (by omega), Option.bind_some, n_jw (by omega) (by omega), Option.bind_some, lc_s, show 16 * b + ((k + 1 : Nat) : Int) = 16 * b + (k : Int) + 1 by omega]) (by
      unfold jd_89_s7
      dsimp only
      rw [n_jw (z := 16 * b + 16) (by omega) (by omega), n_jw (z := 16 * b + ((16 : Nat) : Int)) (by omega) (by omega), if_pos (by omega)]) (n_fu (by decide))
    rw [show 16 * b + ((0 : Nat) : Int) = 16 * b by omega] at this
    exact this
  unfold jd_89
  rw [l, Option.bind_some]
theorem c_91 (F : PtC s Q T) (h6 : s.1 ≤ 1000000) (b0 : 0 ≤ b) (b1 : b < 6) (hst : I T 1 = st) : ∃ S M, jd_91 T b (hh s Q I) = some (hh s Q (ims (ims I (T + 7) S) (T + 3) M)) ∧ (∀ r c : Int, 0 ≤ r → r < 4 → 0 ≤ c → c < 4 → M (cb b r c) = jd_183 (I (T + 1) (cb b r c) + rsB (fun i => I (T + 4) (16 * b + i)) st r c)) ∧ ∀ j, (∀ r c : Int, 0 ≤ r → r < 4 → 0 ≤ c → c < 4 → j ≠ cb b r c) → M j = I (T + 3) j := by
  have q7 := T_q F 1 7 rfl rfl rfl
  have q9 := T_q F 3 9 rfl rfl rfl
  have q10 := T_q F 4 10 rfl rfl rfl
  have q13 := T_q F 7 13 rfl rfl rfl
  have g7 := F.2.2.1 7 (by decide) (by decide)
  have hst' : I T ((1 : Nat) : Int) = st := hst
  have l1 : jd_91_l2 T b 0 (hh s Q I) = some (hh s Q (ims I (T + 7) (wf (fun i => jd_254 i) (fun i _ => I (T + 4) (16 * b + i) * st) (I (T + 7)) 16))) := by
    have := lpC (f := fun u : (Int × jH) => jd_91_s2 T b u.1 u.2) (ct := fun k => k) (ix := fun i => jd_254 i) (v := fun i _ => I (T + 4) (16 * b + i) * st) (J := I) (a := T + 7) (s := s) (Q := Q) 16 (fun k G hk => by
      dsimp only
      unfold jd_91_s2
      have e1 : ims I (T + 7) G (T + 4) = I (T + 4) := ims_o (by omega)
      have e2 : ims I (T + 7) G T ((1 : Nat) : Int) = st := by rw [ims_o (by omega)]; exact hst'
      rw [n_jw (by omega) (by omega), if_neg (by omega), T_gr F, Option.bind_some, jst_4 (by omega) (by omega), Option.bind_some, T_gr F, Option.bind_some, q10, Option.bind_some, T_ai F h6 4 96 rfl rfl rfl rfl (by omega) (by omega), Option.bind_some, T_gi F, Option.bind_some, q13, Option.bind_some, T_ta F 7 16 rfl rfl rfl rfl (scan_u (by omega) (by omega)).2.1 (scan_u (by omega) (by omega)).2.2, Option.bind_some, ims_jms, e1, e2]) (fun G => by
      dsimp only
      unfold jd_91_s2
      exact if_pos (by show (16 : Int) ≤ jw ((16 : Nat) : Int); decide)) (by decide) (I (T + 7))
    rw [ims_self] at this
    exact this
  obtain ⟨G0, hG0⟩ : ∃ G, G = wf (fun i => jd_254 i) (fun i _ => I (T + 4) (16 * b + i) * st) (I (T + 7)) 16 := ⟨_, rfl⟩
  rw [← hG0] at l1
  have v0 : ∀ j : Int, 0 ≤ j → j < 16 → G0 j = sqL (fun i => I (T + 4) (16 * b + i)) st j := fun j j0 j1 => by
    rw [hG0, wf_sc j0 j1]
    rfl
  have l2 := c_87 (Q := Q) (I := I) (G := G0) h6 g7.1 g7.2.1 g7.2.2
  obtain ⟨S, hS⟩ : ∃ S, S = hdC (hdR G0) := ⟨_, rfl⟩
  rw [← hS] at l2
  have sv : ∀ r c : Int, 0 ≤ r → r < 4 → 0 ≤ c → c < 4 → S (4 * r + c) = hd (sqL (fun i => I (T + 4) (16 * b + i)) st) r c := fun r c r0 r1 c0 c1 => by
    rw [hS, hd_v G0 r0 r1 c0 c1]
    exact hd_c v0 r c
  have l3 : jd_91_l49 T b 0 (hh s Q (ims I (T + 7) S)) = some (hh s Q (ims (ims I (T + 7) S) (T + 3) (wf (fun i => cb b (i / 4) (i % 4)) (fun i _ => jd_183 (I (T + 1) (cb b (i / 4) (i % 4)) + jshr (S i + 8) 4)) (I (T + 3)) 16))) := by
    have := lpC (f := fun u : (Int × jH) => jd_91_s49 T b u.1 u.2) (ct := fun k => k) (ix := fun i => cb b (i / 4) (i % 4)) (v := fun i _ => jd_183 (I (T + 1) (cb b (i / 4) (i % 4)) + jshr (S i + 8) 4)) (J := ims I (T + 7) S) (a := T + 3) (s := s) (Q := Q) 16 (fun k G hk => by
      dsimp only
      unfold jd_91_s49
      have e1 : ims (ims I (T + 7) S) (T + 3) G (T + 1) = I (T + 1) := (ims_o (by omega)).trans (ims_o (by omega))
      have e2 : ims (ims I (T + 7) S) (T + 3) G (T + 7) = S := (ims_o (by omega)).trans ims_e
      have r := cb_r (b := b) (r := (k : Int) / 4) (c := (k : Int) % 4) b0 b1 (by omega) (by omega) (by omega) (by omega)
      rw [n_jw (by omega) (by omega), if_neg (by omega), T_gr F, Option.bind_some, T_gr F, Option.bind_some, q7, Option.bind_some, c_86 b0 b1 (by omega) (by omega), T_ai F h6 1 96 rfl rfl rfl rfl r.1 r.2, Option.bind_some, T_gr F, Option.bind_some, q13, Option.bind_some, T_ai F h6 7 16 rfl rfl rfl rfl (by omega) (by omega), Option.bind_some, q9, Option.bind_some, T_ta F 3 96 rfl rfl rfl rfl r.1 r.2, Option.bind_some, ims_jms, e1, e2]) (fun G => by
      dsimp only
      unfold jd_91_s49
      exact if_pos (by show (16 : Int) ≤ jw ((16 : Nat) : Int); decide)) (by decide) (I (T + 3))
    have e3 : ims I (T + 7) S (T + 3) = I (T + 3) := ims_o (by omega)
    have e4 : ims (ims I (T + 7) S) (T + 3) (I (T + 3)) = ims I (T + 7) S := by rw [← e3]; exact ims_self
    rw [e4] at this
    exact this
  have wc := wf_cb (b := b) (V := fun i => jd_183 (I (T + 1) (cb b (i / 4) (i % 4)) + jshr (S i + 8) 4)) (g := I (T + 3)) b0 b1
  refine ⟨S, _, ?_, fun r c r0 r1 c0 c1 => ?_, wc.2⟩
  · unfold jd_91
    rw [l1, Option.bind_some, T_gr F, Option.bind_some, q13, l2, Option.bind_some, l3, Option.bind_some]
  · rw [wc.1 r c r0 r1 c0 c1]
    show jd_183 (I (T + 1) (cb b ((4 * r + c) / 4) ((4 * r + c) % 4)) + jshr (S (4 * r + c) + 8) 4) = _
    rw [sv r c r0 r1 c0 c1, show (4 * r + c) / 4 = r by omega, show (4 * r + c) % 4 = c by omega]
    rfl
end Rest
