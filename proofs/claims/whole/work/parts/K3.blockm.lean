/-! making: a block told, the model -/
section BlockM
variable {m : jM} {b st k q n : Int} {W : Int → Int}
/-- the part's samples that are wanted -/
def SrcP (m : jM) (k q : Int) (W : Int → Int) : Prop := (∀ m' : jM, m' 76 33 = m 76 33 → m' 103 = m 103 → m' 121 = m 121 → ∀ pl i : Int, 0 ≤ pl → pl ≤ 2 → 0 ≤ i → i < sdOf pl * sdOf pl → jd_280 k q pl i m' = some (W (ppb pl + i))) ∧ ∀ z : Int, 0 ≤ z → z < 96 → 0 ≤ W z ∧ W z ≤ 255
theorem cb_pl (b0 : 0 ≤ b) (b1 : b < 6) {r c : Int} (r0 : 0 ≤ r) (r1 : r < 4) (c0 : 0 ≤ c) (c1 : c < 4) : ∃ pl i : Int, jd_252 b = pl ∧ 0 ≤ pl ∧ pl ≤ 2 ∧ jd_244 pl = ppb pl ∧ 0 ≤ i ∧ i < sdOf pl * sdOf pl ∧ cb b r c = ppb pl + i := by
  have e : jd_252 b = if 4 ≤ b then b - 3 else 0 := by
    unfold jd_252
    rw [n_jw (z := b) (by omega) (by omega)]
  unfold cb
  by_cases h : b < 4
  · rw [if_neg (by omega)] at e
    refine ⟨0, 8 * (4 * (b / 2) + r) + 4 * (b % 2) + c, e, by decide, by decide, k_244 (by decide) (by decide), by omega, ?_, ?_⟩
    · show 8 * (4 * (b / 2) + r) + 4 * (b % 2) + c < 64
      omega
    · rw [if_pos h]
      show _ = 0 + _
      omega
  · rw [if_pos (by omega)] at e
    refine ⟨b - 3, 4 * r + c, e, by omega, by omega, k_244 (by omega) (by omega), by omega, ?_, ?_⟩
    · have : sdOf (b - 3) = 4 := if_neg (by omega)
      rw [this]
      omega
    · rw [if_neg h]
      have : ppb (b - 3) = 16 * b := by
        unfold ppb
        by_cases h4 : b = 4
        · subst h4; rfl
        · have : b = 5 := by omega
          subst this; rfl
      omega
theorem k_281 (b0 : 0 ≤ b) (b1 : b < 6) (s0 : 1 ≤ st) (s1 : st ≤ 255) (S : SrcP m k q W) (fb : ∀ z : Int, 0 ≤ z → z < 96 → 0 ≤ m 114 z ∧ m 114 z ≤ 255) : ∃ H G, jd_281 k q b st m = some (lc (lvP W (m 114) st b) 16, ims (ims m 117 H) 116 G) ∧ ∀ j : Int, 0 ≤ j → j < 16 → G j = lvP W (m 114) st b (usc j) := by
  obtain ⟨D, hD⟩ : ∃ D : Int → Int, D = fun j => W (cb b (j / 4) (j % 4)) - m 114 (cb b (j / 4) (j % 4)) := ⟨_, rfl⟩
  have l1 : jd_281_l16 k q b st (jd_252 b) 0 m = some (ims m 116 (wf (fun i => i) (fun i _ => D i) (m 116) 16)) := by
    have := lpM (f := fun u : (Int × jM) => jd_281_s16 k q b st (jd_252 b) u.1 u.2) (ct := fun k => k) (ix := fun i => i) (v := fun i _ => D i) (m := m) (a := 116) 16 (fun x G hx => by
      dsimp only
      unfold jd_281_s16
      obtain ⟨pl, i, p1, p2, p3, p4, p5, p6, p7⟩ := cb_pl (b := b) (r := (x : Int) / 4) (c := (x : Int) % 4) b0 b1 (by omega) (by omega) (by omega) (by omega)
      have r := cb_r (b := b) (r := (x : Int) / 4) (c := (x : Int) % 4) b0 b1 (by omega) (by omega) (by omega) (by omega)
      have e1 : ims m 116 G 114 = m 114 := ims_o (by decide)
      have sv := S.1 (ims m 116 G) rfl rfl rfl pl i p2 p3 p5 p6
      rw [n_jw (z := (x : Int)) (by omega) (by omega), if_neg (by omega), n_rem (z := (x : Int)) (by omega) (by omega) (by decide) (by decide), n_div (z := (x : Int)) (by omega) (by omega) (by decide) (by decide), k_253 b0 b1 (by omega) (by omega) (by omega) (by omega), Option.bind_some, p1, p4, show cb b ((x : Int) / 4) ((x : Int) % 4) - ppb pl = i by omega, sv, Option.bind_some, y_ma 114 96 rfl rfl r.1 r.2, Option.bind_some, y_mw 116 16 rfl rfl (by omega) (by omega), Option.bind_some, ims_jms, e1, ← p7, hD]) (fun G => by
      dsimp only
      unfold jd_281_s16
      exact if_pos (by show (16 : Int) ≤ jw ((16 : Nat) : Int); decide)) (by decide) (m 116)
    rw [ims_self] at this
    exact this
  obtain ⟨G0, hG0⟩ : ∃ G, G = wf (fun i => i) (fun i _ => D i) (m 116) 16 := ⟨_, rfl⟩
  rw [← hG0] at l1
  have v0 : ∀ j : Int, 0 ≤ j → j < 16 → G0 j = D j := fun j j0 j1 => by
    have := wf_k (ix := fun i => i) (v := fun i _ => D i) (g := m 116) (n := 16) (k := j.toNat) (by omega) (fun l _ _ => by omega)
    rw [show ((j.toNat : Nat) : Int) = j by omega] at this
    rw [hG0]
    exact this
  obtain ⟨H, G1, e2, hG1⟩ := k_256 (m := ims m 116 G0)
  have g1 : ∀ j : Int, 0 ≤ j → j < 16 → G1 j = hd D (j / 4) (j % 4) := fun j j0 j1 => by
    have := hG1 (j / 4) (j % 4) (by omega) (by omega) (by omega) (by omega)
    rw [show 4 * (j / 4) + j % 4 = j by omega, ims_e] at this
    rw [this]
    exact hd_c v0 _ _
  have g1b : ∀ j : Int, 0 ≤ j → j < 16 → -4080 ≤ G1 j ∧ G1 j ≤ 4080 := fun j j0 j1 => by
    rw [g1 j j0 j1]
    have := hd_b (G := D) (u := 255) (fun j j0 j1 => by
      have r := cb_r (b := b) (r := j / 4) (c := j % 4) b0 b1 (by omega) (by omega) (by omega) (by omega)
      have w := S.2 _ r.1 r.2
      have f := fb _ r.1 r.2
      rw [hD]
      show -255 ≤ W (cb b (j / 4) (j % 4)) - m 114 (cb b (j / 4) (j % 4)) ∧ W (cb b (j / 4) (j % 4)) - m 114 (cb b (j / 4) (j % 4)) ≤ 255
      omega) (j / 4) (j % 4)
    omega
  have em : ims (ims (ims m 116 G0) 117 H) 116 G1 = ims (ims m 117 H) 116 G1 := by
    funext c
    by_cases c1 : c = 116
    · rw [c1, ims_e, ims_e]
    · rw [ims_o c1, ims_o c1]
      by_cases c2 : c = 117
      · rw [c2, ims_e, ims_e]
      · rw [ims_o c2, ims_o c2, ims_o c1]
  rw [em] at e2
  have l3 : jd_281_l88 st 0 0 (ims (ims m 117 H) 116 G1) = some (lc (fun j => qz (G1 j) st) 16, ims (ims m 117 H) 116 (wf (fun i => i) (fun i _ => qz (G1 i) st) G1 16)) := by
    unfold jd_281_l88
    have := w_for (f := fun u : (Int × Int × jM) => jd_281_s88 st u.1 u.2.1 u.2.2) (fun x => (lc (fun j => qz (G1 j) st) x, (x : Int), ims (ims m 117 H) 116 (wf (fun i => i) (fun i _ => qz (G1 i) st) G1 x))) 16 (x := (lc (fun j => qz (G1 j) st) 16, ims (ims m 117 H) 116 (wf (fun i => i) (fun i _ => qz (G1 i) st) G1 16))) (fun x hx => ?_) ?_ (n_fu (by decide))
    · exact this
    · dsimp only
      have e6 : ims (ims m 117 H) 116 (wf (fun i => i) (fun i _ => qz (G1 i) st) G1 x) 116 (x : Int) = G1 (x : Int) := by
        rw [ims_e]
        exact wf_o (fun l hl => by omega)
      have bb := g1b (x : Int) (by omega) (by omega)
      obtain ⟨t, ht⟩ : ∃ t, G1 (x : Int) = t := ⟨_, rfl⟩
      rw [ht] at e6 bb
      have nz : jnz st = some () := by unfold jnz; rw [n_jw (z := st) (by omega) (by omega), if_neg (by omega)]
      have e22 : jdiv st 2 = st / 2 := n_div (by omega) (by omega) (by decide) (by decide)
      obtain ⟨u, hu⟩ : ∃ u, st / 2 = u := ⟨_, rfl⟩
      have u0 : 0 ≤ u ∧ u ≤ 127 := by omega
      have fin : ∀ y : Int, y = (if 0 ≤ t then t else -t) → jd_281_b123 st (lc (fun j => qz (G1 j) st) x) (x : Int) y (ims (ims m 117 H) 116 (wf (fun i => i) (fun i _ => qz (G1 i) st) G1 x)) = some (.inl (lc (fun j => qz (G1 j) st) (x + 1), ((x + 1 : Nat) : Int), ims (ims m 117 H) 116 (wf (fun i => i) (fun i _ => qz (G1 i) st) G1 (x + 1)))) := fun y hy => by
        have y0 : 0 ≤ y ∧ y ≤ 4080 := by rw [hy]; split <;> omega
        have d0 := Int.ediv_nonneg (show 0 ≤ y + u by omega) (show 0 ≤ st by omega)
        have d1 := Int.ediv_le_self st (show 0 ≤ y + u by omega)
        have ed : jdiv (y + u) st = (y + u) / st := n_div (by omega) (by omega) (by omega) (by omega)
        obtain ⟨e, he⟩ : ∃ e, (y + u) / st = e := ⟨_, rfl⟩
        rw [he] at d0 d1 ed
        obtain ⟨z, hz⟩ : ∃ z, (if e ≤ 4095 then e else 4095) = z := ⟨_, rfl⟩
        have z0 : 0 ≤ z ∧ z ≤ 4095 := by rw [← hz]; split <;> omega
        have hq : (if 0 ≤ t then z else -z) = qz (G1 (x : Int)) st := by
          rw [ht]
          unfold qz
          rw [hu]
          by_cases h : 0 ≤ t
          · rw [if_pos h] at hy
            rw [if_pos h, if_pos h, ← hy, he, ← hz]
            by_cases h2 : e < 4095
            · rw [if_pos h2, if_pos (by omega)]
            · rw [if_neg h2]
              split <;> omega
          · rw [if_neg h] at hy
            rw [if_neg h, if_neg h, ← hy, he, ← hz]
            by_cases h2 : e < 4095
            · rw [if_pos h2, if_pos (by omega)]
            · rw [if_neg h2]
              split <;> omega
        have hc : (if z = 0 then (0 : Int) else 1) = if qz (G1 (x : Int)) st = 0 then 0 else 1 := by
          rw [← hq]
          split <;> split <;> omega
        unfold jd_281_b123 jd_281_b149
        rw [nz, Option.bind_some, e22, hu, ed, n_jw (z := e) (by omega) (by omega), hz, y_ma 116 16 rfl rfl (by omega) (by omega), Option.bind_some, e6, n_jw (z := t) (by omega) (by omega), hq, y_mw 116 16 rfl rfl (by omega) (by omega), Option.bind_some, ims_jms, n_jw (z := z) (by omega) (by omega), hc, Option.bind_some, lc_s, wf_s, show ((x + 1 : Nat) : Int) = (x : Int) + 1 by omega]
      unfold jd_281_s88
      rw [n_jw (z := (x : Int)) (by omega) (by omega), if_neg (by omega), y_ma 116 16 rfl rfl (by omega) (by omega), Option.bind_some, Option.bind_some, Option.bind_some, e6, n_jw (z := t) (by omega) (by omega)]
      by_cases h : 0 ≤ t
      · rw [if_pos h]
        exact fin t (by rw [if_pos h])
      · rw [if_neg h]
        exact fin (-t) (by rw [if_neg h])
    · dsimp only
      unfold jd_281_s88
      rw [if_pos (by show (16 : Int) ≤ jw ((16 : Nat) : Int); decide)]
  have lcs : lc (lvP W (m 114) st b) 16 = lc (fun j => qz (G1 j) st) 16 := by
    have e : lvP W (m 114) st b = fun i => (fun j => qz (hd D (j / 4) (j % 4)) st) (jd_254 i) := by
      funext i
      rw [hD]
      rfl
    rw [e]
    refine (lc_p (fun j => qz (hd D (j / 4) (j % 4)) st)).trans ?_
    exact lc_c (fun j j0 j1 => by
      show qz (hd D (j / 4) (j % 4)) st = qz (G1 j) st
      rw [g1 j j0 j1])
  refine ⟨H, wf (fun i => i) (fun i _ => qz (G1 i) st) G1 16, ?_, fun j j0 j1 => ?_⟩
  · unfold jd_281
    rw [l1, Option.bind_some, e2, Option.bind_some, l3, Option.bind_some, lcs]
  · have := wf_k (ix := fun i => i) (v := fun i _ => qz (G1 i) st) (g := G1) (n := 16) (k := j.toNat) (by omega) (fun l _ _ => by omega)
    rw [show ((j.toNat : Nat) : Int) = j by omega] at this
    refine this.trans ?_
    show qz (G1 j) st = _
    unfold lvP
    rw [(usc_s j0 j1).1, g1 j j0 j1, hD]
end BlockM
