/-! making: levels of a block, the class -/
section Level
variable {s : hS} {Q : hQ} {hm : hO} {I m : jM} {T c : Nat} {b st k q : Int}
theorem c_92 (F : PtC s Q T) (h6 : s.1 ≤ 1000000) (hc : c < s.1 ∧ s.2.2.1 c = 0 ∧ s.2.2.2 c = 96) (cT : T + 10 ≤ c) (b0 : 0 ≤ b) (b1 : b < 6) (hst : I T 1 = st) (s0 : 1 ≤ st) (s1 : st ≤ 255) (wb : ∀ z : Int, 0 ≤ z → z < 96 → 0 ≤ I c z ∧ I c z ≤ 255) (fb : ∀ z : Int, 0 ≤ z → z < 96 → 0 ≤ I (T + 1) z ∧ I (T + 1) z ≤ 255) : ∃ S M, jd_92 T b (some c) (hh s Q I) = some (hh s Q (ims (ims I (T + 7) S) (T + 4) M)) ∧ (∀ i : Int, 0 ≤ i → i < 16 → M (16 * b + i) = lvP (I c) (I (T + 1)) st b i) ∧ ∀ j : Int, j < 16 * b ∨ 16 * b + 16 ≤ j → M j = I (T + 4) j := by
  have q7 := T_q F 1 7 rfl rfl rfl
  have q10 := T_q F 4 10 rfl rfl rfl
  have q13 := T_q F 7 13 rfl rfl rfl
  have g7 := F.2.2.1 7 (by decide) (by decide)
  have hst' : I T ((1 : Nat) : Int) = st := hst
  have l1 : jd_92_l2 T b (some c) 0 (hh s Q I) = some (hh s Q (ims I (T + 7) (wf (fun i => i) (fun i _ => I c (cb b (i / 4) (i % 4)) - I (T + 1) (cb b (i / 4) (i % 4))) (I (T + 7)) 16))) := by
    have := lpC (f := fun u : (Int × jH) => jd_92_s2 T b (some c) u.1 u.2) (ct := fun k => k) (ix := fun i => i) (v := fun i _ => I c (cb b (i / 4) (i % 4)) - I (T + 1) (cb b (i / 4) (i % 4))) (J := I) (a := T + 7) (s := s) (Q := Q) 16 (fun k G hk => by
      dsimp only
      unfold jd_92_s2
      have e1 : ims I (T + 7) G (T + 1) = I (T + 1) := ims_o (by omega)
      have e2 : ims I (T + 7) G c = I c := ims_o (by omega)
      have r := cb_r (b := b) (r := (k : Int) / 4) (c := (k : Int) % 4) b0 b1 (by omega) (by omega) (by omega) (by omega)
      rw [n_jw (by omega) (by omega), if_neg (by omega), T_gr F, Option.bind_some, Option.bind_some, c_86 b0 b1 (by omega) (by omega), x_ai hc.1 h6 hc.2.1 r.1 (by rw [hc.2.2]; exact r.2) (by rw [hc.2.2]; decide), Option.bind_some, T_gr F, Option.bind_some, q7, Option.bind_some, T_ai F h6 1 96 rfl rfl rfl rfl r.1 r.2, Option.bind_some, q13, Option.bind_some, T_ta F 7 16 rfl rfl rfl rfl (by omega) (by omega), Option.bind_some, ims_jms, e1, e2]) (fun G => by
      dsimp only
      unfold jd_92_s2
      exact if_pos (by show (16 : Int) ≤ jw ((16 : Nat) : Int); decide)) (by decide) (I (T + 7))
    rw [ims_self] at this
    exact this
  obtain ⟨G0, hG0⟩ : ∃ G, G = wf (fun i => i) (fun i _ => I c (cb b (i / 4) (i % 4)) - I (T + 1) (cb b (i / 4) (i % 4))) (I (T + 7)) 16 := ⟨_, rfl⟩
  rw [← hG0] at l1
  have v0 : ∀ j : Int, 0 ≤ j → j < 16 → G0 j = I c (cb b (j / 4) (j % 4)) - I (T + 1) (cb b (j / 4) (j % 4)) := fun j j0 j1 => by
    have := wf_k (ix := fun i => i) (v := fun i _ => I c (cb b (i / 4) (i % 4)) - I (T + 1) (cb b (i / 4) (i % 4))) (g := I (T + 7)) (n := 16) (k := j.toNat) (by omega) (fun l _ _ => by omega)
    rw [show ((j.toNat : Nat) : Int) = j by omega] at this
    rw [hG0]
    exact this
  have l2 := c_87 (Q := Q) (I := I) (G := G0) h6 g7.1 g7.2.1 g7.2.2
  obtain ⟨S, hS⟩ : ∃ S, S = hdC (hdR G0) := ⟨_, rfl⟩
  rw [← hS] at l2
  have sv : ∀ j : Int, 0 ≤ j → j < 16 → S j = hd (fun j => I c (cb b (j / 4) (j % 4)) - I (T + 1) (cb b (j / 4) (j % 4))) (j / 4) (j % 4) := fun j j0 j1 => by
    have := hd_v G0 (r := j / 4) (c := j % 4) (by omega) (by omega) (by omega) (by omega)
    rw [show 4 * (j / 4) + j % 4 = j by omega] at this
    rw [hS, this]
    exact hd_c v0 _ _
  have sb : ∀ j : Int, 0 ≤ j → j < 16 → -4080 ≤ S j ∧ S j ≤ 4080 := fun j j0 j1 => by
    rw [sv j j0 j1]
    have := hd_b (G := fun j => I c (cb b (j / 4) (j % 4)) - I (T + 1) (cb b (j / 4) (j % 4))) (u := 255) (fun j j0 j1 => by
      have r := cb_r (b := b) (r := j / 4) (c := j % 4) b0 b1 (by omega) (by omega) (by omega) (by omega)
      have w := wb _ r.1 r.2
      have f := fb _ r.1 r.2
      show -255 ≤ I c (cb b (j / 4) (j % 4)) - I (T + 1) (cb b (j / 4) (j % 4)) ∧ I c (cb b (j / 4) (j % 4)) - I (T + 1) (cb b (j / 4) (j % 4)) ≤ 255
      omega) (j / 4) (j % 4)
    omega
  have l3 : jd_92_l58 T b st 0 (hh s Q (ims I (T + 7) S)) = some (hh s Q (ims (ims I (T + 7) S) (T + 4) (wf (fun i => 16 * b + i) (fun i _ => qz (S (jd_254 i)) st) (I (T + 4)) 16))) := by
    have := lpC (f := fun u : (Int × jH) => jd_92_s58 T b st u.1 u.2) (ct := fun k => k) (ix := fun i => 16 * b + i) (v := fun i _ => qz (S (jd_254 i)) st) (J := ims I (T + 7) S) (a := T + 4) (s := s) (Q := Q) 16 (fun k G hk => by
      dsimp only
      unfold jd_92_s58
      have e2 : ims (ims I (T + 7) S) (T + 4) G (T + 7) = S := (ims_o (by omega)).trans ims_e
      have e1 : ims (ims I (T + 7) S) (T + 4) G T ((1 : Nat) : Int) = st := by rw [ims_o (by omega), ims_o (by omega)]; exact hst'
      have nz : jnz st = some () := by unfold jnz; rw [n_jw (z := st) (by omega) (by omega), if_neg (by omega)]
      rw [n_jw (z := (k : Int)) (by omega) (by omega), if_neg (by omega), T_gr F, Option.bind_some, jst_4 (by omega) (by omega), Option.bind_some, q13, Option.bind_some, T_ai F h6 7 16 rfl rfl rfl rfl (scan_u (by omega) (by omega)).2.1 (scan_u (by omega) (by omega)).2.2, Option.bind_some, T_gi F, Option.bind_some, e1, nz, Option.bind_some, Option.bind_some, T_gr F, Option.bind_some, q10, Option.bind_some, T_ta F 4 96 rfl rfl rfl rfl (by omega) (by omega), Option.bind_some, ims_jms, e2]
      have b' := sb (jd_254 (k : Int)) (scan_u (by omega) (by omega)).2.1 (scan_u (by omega) (by omega)).2.2
      have key := qz_j s0 s1 b'.1 b'.2
      revert key
      generalize qz (S (jd_254 (k : Int))) st = zz
      intro key
      subst key
      rfl) (fun G => by
      dsimp only
      unfold jd_92_s58
      exact if_pos (by show (16 : Int) ≤ jw ((16 : Nat) : Int); decide)) (by decide) (I (T + 4))
    have e4 : ims I (T + 7) S (T + 4) = I (T + 4) := ims_o (by omega)
    rw [← e4, ims_self] at this
    rw [← e4]
    exact this
  refine ⟨S, wf (fun i => 16 * b + i) (fun i _ => qz (S (jd_254 i)) st) (I (T + 4)) 16, ?_, fun i i0 i1 => ?_, fun j hj => wf_o (fun l hl => by omega)⟩
  · have e1 : ims I (T + 7) S T ((1 : Nat) : Int) = st := by rw [ims_o (by omega)]; exact hst'
    have mx : (if jw st < jw 1 then 1 else st) = st := by rw [n_jw (z := st) (by omega) (by omega), if_neg (by show ¬ st < 1; omega)]
    unfold jd_92
    rw [l1, Option.bind_some, T_gr F, Option.bind_some, q13, l2, Option.bind_some, T_gi F, Option.bind_some, e1, mx, Option.bind_some, l3, Option.bind_some]
  · have := wf_k (ix := fun i => 16 * b + i) (v := fun i _ => qz (S (jd_254 i)) st) (g := I (T + 4)) (n := 16) (k := i.toNat) (by omega) (fun l _ _ => by omega)
    rw [show ((i.toNat : Nat) : Int) = i by omega] at this
    have sc := scan_u (i := i) i0 i1
    refine this.trans ?_
    show qz (S (jd_254 i)) st = _
    rw [sv _ sc.2.1 sc.2.2]
    rfl
end Level
