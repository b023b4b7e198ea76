/-! making in waves: a line lifted by the class -/
section LiftC
variable {s : hS} {Q : hQ} {hm : hO} {I m : jM} {st sr : Int} {h : Nat}
theorem wf_in {ix : Int → Int} {V : Int → Int} {g : Int → Int} {n : Nat} {i : Int} (hj : ∀ k l : Int, 0 ≤ k → k < n → 0 ≤ l → l < n → ix k = ix l → k = l) (i0 : 0 ≤ i) (i1 : i < n) : wf ix (fun k _ => V k) g n (ix i) = V i := by
  have := wf_k (ix := ix) (v := fun k _ => V k) (g := g) (n := n) (k := i.toNat) (by omega) (fun l h1 h2 e => by
    have := hj _ _ (by omega) (by omega) (by omega) (by omega) e
    omega)
  rw [show ((i.toNat : Nat) : Int) = i by omega] at this
  exact this
theorem lfr_r {k : Int} (k0 : 0 ≤ k) (k1 : k < 2 * (h : Int)) : 0 ≤ lfr h k ∧ lfr h k < 2 * (h : Int) := by
  unfold lfr
  split <;> omega
theorem lfr_inj {k l : Int} (k0 : 0 ≤ k) (k1 : k < 2 * (h : Int)) (l0 : 0 ≤ l) (l1 : l < 2 * (h : Int)) (e : lfr h k = lfr h l) : k = l := by
  unfold lfr at e
  split at e <;> split at e <;> omega
theorem mul_inj {k l : Int} (r0 : 0 < sr) (e : st + k * sr = st + l * sr) : k = l := by
  have : k * sr = l * sr := by omega
  exact Int.eq_of_mul_eq_mul_right (by omega) this
/-- laid by halves, or in order: the same row -/
theorem wf_half (r0 : 0 < sr) {V : Int → Int} {g : Int → Int} : wf (fun k => st + lfr h k * sr) (fun k _ => V (lfr h k)) g (2 * h) = wf (fun k => st + k * sr) (fun k _ => V k) g (2 * h) := by
  funext j
  by_cases c : ∃ i : Int, 0 ≤ i ∧ i < 2 * (h : Int) ∧ j = st + i * sr
  · obtain ⟨i, i0, i1, rfl⟩ := c
    obtain ⟨k, k0, k1, rfl⟩ : ∃ k : Int, 0 ≤ k ∧ k < 2 * (h : Int) ∧ lfr h k = i := by
      by_cases d : i < h
      · exact ⟨2 * i, by omega, by omega, by unfold lfr; rw [if_pos (by omega)]; omega⟩
      · exact ⟨2 * (i - h) + 1, by omega, by omega, by unfold lfr; rw [if_neg (by omega)]; omega⟩
    rw [wf_in (ix := fun k => st + k * sr) (fun k l k0 k1 l0 l1 e => mul_inj r0 e) i0 (by omega), wf_in (ix := fun k => st + lfr h k * sr) (V := fun k => V (lfr h k)) (i := k) (fun k l k0 k1 l0 l1 e => lfr_inj k0 (by omega) l0 (by omega) (mul_inj r0 e)) k0 (by omega)]
  · rw [wf_o (fun k hk e => c ⟨lfr h k, (lfr_r (by omega) (by omega)).1, (lfr_r (by omega) (by omega)).2, e⟩), wf_o (fun k hk e => c ⟨k, by omega, by omega, e⟩)]
theorem up_line (g Y : Int → Int) (Y0 Y1 Y2 : Int → Int) (e0 : Y0 = wf (fun k => k) (fun k _ => g k) Y (2 * h)) (e1 : Y1 = wf (fun k => 2 * k + 1) (fun k l => l (2 * k + 1) - jshr (l (2 * k) + (if 2 * (h : Int) ≤ 2 * k + 2 then l (2 * k) else l (2 * k + 2))) 1) Y0 h) (e2 : Y2 = wf (fun k => 2 * k) (fun k l => l (2 * k) + jshr (((if k = 0 then l (2 * k + 1) else l (2 * k - 1)) + l (2 * k + 1)) + 2) 2) Y1 h) {k : Int} (k0 : 0 ≤ k) (k1 : k < 2 * (h : Int)) : Y2 k = up h g (lfr h k) := by
  have y0 : ∀ i : Int, 0 ≤ i → i < 2 * (h : Int) → Y0 i = g i := fun i i0 i1 => by
    rw [e0]
    exact wf_in (ix := fun k => k) (fun _ _ _ _ _ _ e => e) i0 (by omega)
  have y1 : ∀ k : Int, 0 ≤ k → k < h → Y1 (2 * k + 1) = upO h g k := fun k k0 k1 => by
    have := wf_k (ix := fun k => 2 * k + 1) (v := fun k l => l (2 * k + 1) - jshr (l (2 * k) + (if 2 * (h : Int) ≤ 2 * k + 2 then l (2 * k) else l (2 * k + 2))) 1) (g := Y0) (n := h) (k := k.toNat) (by omega) (fun l h1 h2 => by omega)
    rw [show ((k.toNat : Nat) : Int) = k by omega] at this
    rw [e1, this]
    have o1 : ∀ j : Int, j % 2 = 0 ∨ j = 2 * k + 1 → wf (fun k => 2 * k + 1) (fun k l => l (2 * k + 1) - jshr (l (2 * k) + (if 2 * (h : Int) ≤ 2 * k + 2 then l (2 * k) else l (2 * k + 2))) 1) Y0 k.toNat j = Y0 j := fun j hj => wf_o (fun l hl => by omega)
    rw [o1 (2 * k + 1) (Or.inr rfl), o1 (2 * k) (Or.inl (by omega)), o1 (2 * k + 2) (Or.inl (by omega)), y0 (2 * k + 1) (by omega) (by omega), y0 (2 * k) (by omega) (by omega)]
    unfold upO
    by_cases c : 2 * k + 2 = 2 * (h : Int)
    · rw [if_pos (by omega), if_pos c, show 2 * (h : Int) - 2 = 2 * k by omega]
    · rw [if_neg (by omega), if_neg c, y0 (2 * k + 2) (by omega) (by omega)]
  have y1e : ∀ k : Int, 0 ≤ k → k < h → Y1 (2 * k) = g (2 * k) := fun k k0 k1 => by
    rw [e1, wf_o (fun l hl => by omega), y0 (2 * k) (by omega) (by omega)]
  by_cases c : k % 2 = 0
  · have := wf_k (ix := fun k => 2 * k) (v := fun k l => l (2 * k) + jshr (((if k = 0 then l (2 * k + 1) else l (2 * k - 1)) + l (2 * k + 1)) + 2) 2) (g := Y1) (n := h) (k := (k / 2).toNat) (by omega) (fun l h1 h2 => by omega)
    rw [show (((k / 2).toNat : Nat) : Int) = k / 2 by omega] at this
    have kk : k = 2 * (k / 2) := by omega
    have o1 : ∀ j : Int, j % 2 = 1 ∨ j = 2 * (k / 2) → wf (fun k => 2 * k) (fun k l => l (2 * k) + jshr (((if k = 0 then l (2 * k + 1) else l (2 * k - 1)) + l (2 * k + 1)) + 2) 2) Y1 (k / 2).toNat j = Y1 j := fun j hj => wf_o (fun l hl => by omega)
    have lf : lfr h k = k / 2 := if_pos c
    rw [lf]
    obtain ⟨i, hi⟩ : ∃ i, k / 2 = i := ⟨_, rfl⟩
    rw [hi] at this o1 kk ⊢
    rw [kk, e2, this, o1 (2 * i) (Or.inr rfl), o1 (2 * i + 1) (Or.inl (by omega)), o1 (2 * i - 1) (Or.inl (by omega)), y1e i (by omega) (by omega), y1 i (by omega) (by omega)]
    unfold up
    rw [if_pos (show i < (h : Int) by omega)]
    by_cases d : i = 0
    · rw [if_pos d, if_pos d, d]
    · rw [if_neg d, if_neg d, show 2 * i - 1 = 2 * (i - 1) + 1 by omega, y1 (i - 1) (by omega) (by omega)]
  · have lf : lfr h k = h + k / 2 := if_neg c
    have kk : k = 2 * (k / 2) + 1 := by omega
    rw [lf]
    obtain ⟨i, hi⟩ : ∃ i, k / 2 = i := ⟨_, rfl⟩
    rw [hi] at kk ⊢
    rw [kk, e2, wf_o (fun l hl => by omega), y1 i (by omega) (by omega)]
    unfold up
    rw [if_neg (by omega), show (h : Int) + i - h = i by omega]
theorem c_137 (L : Lay s Q hm) (h6 : s.1 ≤ 1000000) (h0 : 1 ≤ h) (h1 : h ≤ 12) (r0 : 0 < sr) (hi : ∀ i : Int, 0 ≤ i → i < 2 * h → 0 ≤ st + i * sr ∧ st + i * sr < 576) : ∃ Y, jd_137 61 st sr (2 * (h : Int)) (hh s Q I) = some (hh s Q (ims (ims I 63 Y) 62 (wf (fun k => st + k * sr) (fun k _ => up h (fun i => I 62 (st + i * sr)) k) (I 62) (2 * h)))) := by
  have q0 : Q 61 ((0 : Nat) : Int) = some 62 := Lq L rfl
  have q1 : Q 61 ((1 : Nat) : Int) = some 63 := Lq L rfl
  have d2 : jdiv (2 * (h : Int)) 2 = h := by rw [n_div (by omega) (by omega) (by decide) (by decide)]; omega
  have l0 : jd_137_l3 61 st sr (2 * (h : Int)) 0 (hh s Q I) = some (hh s Q (ims I 63 (wf (fun k => k) (fun k _ => (fun i => I 62 (st + i * sr)) k) (I 63) (2 * h)))) := by
    have := lpC (f := fun u : (Int × jH) => jd_137_s3 61 st sr (2 * (h : Int)) u.1 u.2) (ct := fun k => k) (ix := fun k => k) (v := fun k _ => (fun i => I 62 (st + i * sr)) k) (J := I) (a := 63) (s := s) (Q := Q) (2 * h) (fun k G hk => by
      dsimp only
      unfold jd_137_s3
      have rg := hi k (by omega) (by omega)
      have e1 : ims I 63 G 62 = I 62 := ims_o (by decide)
      rw [n_jw (z := 2 * (h : Int)) (by omega) (by omega), n_jw (z := (k : Int)) (by omega) (by omega), if_neg (by omega), y_gr L 61 10 rfl rfl, Option.bind_some, y_gr L 61 10 rfl rfl, Option.bind_some, q0, Option.bind_some, y_ai L h6 62 576 rfl rfl rfl rg.1 rg.2, Option.bind_some, q1, Option.bind_some, y_ta L 63 0 24 rfl rfl rfl (by omega) (by omega), Option.bind_some, ims_jms, e1]) (fun G => by
      dsimp only
      unfold jd_137_s3
      rw [n_jw (z := 2 * (h : Int)) (by omega) (by omega), n_jw (by omega) (by omega), if_pos (by omega)]) (by omega) (I 63)
    rw [ims_self] at this
    exact this
  obtain ⟨Y0, e0⟩ : ∃ Y0, Y0 = wf (fun k => k) (fun k _ => (fun i => I 62 (st + i * sr)) k) (I 63) (2 * h) := ⟨_, rfl⟩
  rw [← e0] at l0
  have l1 : jd_137_l36 61 st sr (2 * (h : Int)) 1 (hh s Q (ims I 63 Y0)) = some (hh s Q (ims I 63 (wf (fun k => 2 * k + 1) (fun k l => l (2 * k + 1) - jshr (l (2 * k) + (if 2 * (h : Int) ≤ 2 * k + 2 then l (2 * k) else l (2 * k + 2))) 1) Y0 h))) := by
    have := lpC (f := fun u : (Int × jH) => jd_137_s36 61 st sr (2 * (h : Int)) u.1 u.2) (ct := fun k => 2 * k + 1) (ix := fun k => 2 * k + 1) (v := fun k l => l (2 * k + 1) - jshr (l (2 * k) + (if 2 * (h : Int) ≤ 2 * k + 2 then l (2 * k) else l (2 * k + 2))) 1) (J := I) (a := 63) (s := s) (Q := Q) h (fun k G hk => by
      dsimp only
      unfold jd_137_s36 jd_137_b71
      have e1 : ims I 63 G 63 = G := ims_e
      rw [n_jw (z := 2 * (h : Int)) (by omega) (by omega), n_jw (z := 2 * (k : Int) + 1) (by omega) (by omega), n_jw (z := 2 * (k : Int) + 1 + 1) (by omega) (by omega), if_neg (by omega)]
      by_cases c : 2 * (h : Int) ≤ 2 * (k : Int) + 2
      · rw [if_pos (by omega), if_pos c]
        simp only [y_gr L 61 10 rfl rfl, q1, Option.bind_some]
        rw [y_ai L h6 63 24 rfl rfl rfl (by omega) (by omega)]
        simp only [Option.bind_some]
        rw [y_ai L h6 63 24 rfl rfl rfl (by omega) (by omega)]
        simp only [Option.bind_some]
        rw [y_ta L 63 0 24 rfl rfl rfl (by omega) (by omega), Option.bind_some, ims_jms, e1, show 2 * (k : Int) + 1 - 1 = 2 * (k : Int) by omega, show 2 * (k : Int) + 1 + 2 = 2 * ((k : Int) + 1) + 1 by omega]
      · rw [if_neg (by omega), if_neg c]
        simp only [y_gr L 61 10 rfl rfl, q1, Option.bind_some]
        rw [y_ai L h6 63 24 rfl rfl rfl (by omega) (by omega)]
        simp only [Option.bind_some]
        rw [y_ai L h6 63 24 rfl rfl rfl (by omega) (by omega)]
        simp only [Option.bind_some]
        rw [y_ai L h6 63 24 rfl rfl rfl (by omega) (by omega)]
        simp only [Option.bind_some]
        rw [y_ta L 63 0 24 rfl rfl rfl (by omega) (by omega), Option.bind_some, ims_jms, e1, show 2 * (k : Int) + 1 - 1 = 2 * (k : Int) by omega, show 2 * (k : Int) + 1 + 1 = 2 * (k : Int) + 2 by omega, show 2 * (k : Int) + 1 + 2 = 2 * ((k : Int) + 1) + 1 by omega]) (fun G => by
      dsimp only
      unfold jd_137_s36
      rw [n_jw (z := 2 * (h : Int)) (by omega) (by omega), n_jw (by omega) (by omega), if_pos (by omega)]) (by omega) Y0
    exact this
  obtain ⟨Y1, e1⟩ : ∃ Y1, Y1 = wf (fun k => 2 * k + 1) (fun k l => l (2 * k + 1) - jshr (l (2 * k) + (if 2 * (h : Int) ≤ 2 * k + 2 then l (2 * k) else l (2 * k + 2))) 1) Y0 h := ⟨_, rfl⟩
  rw [← e1] at l1
  have l2 : jd_137_l106 61 st sr (2 * (h : Int)) 0 (hh s Q (ims I 63 Y1)) = some (hh s Q (ims I 63 (wf (fun k => 2 * k) (fun k l => l (2 * k) + jshr (((if k = 0 then l (2 * k + 1) else l (2 * k - 1)) + l (2 * k + 1)) + 2) 2) Y1 h))) := by
    have := lpC (f := fun u : (Int × jH) => jd_137_s106 61 st sr (2 * (h : Int)) u.1 u.2) (ct := fun k => 2 * k) (ix := fun k => 2 * k) (v := fun k l => l (2 * k) + jshr (((if k = 0 then l (2 * k + 1) else l (2 * k - 1)) + l (2 * k + 1)) + 2) 2) (J := I) (a := 63) (s := s) (Q := Q) h (fun k G hk => by
      dsimp only
      unfold jd_137_s106 jd_137_b138
      have e1 : ims I 63 G 63 = G := ims_e
      rw [n_jw (z := 2 * (h : Int)) (by omega) (by omega), n_jw (z := 2 * (k : Int)) (by omega) (by omega), if_neg (by omega)]
      by_cases c : (k : Int) = 0
      · rw [if_pos (by omega), if_pos c]
        simp only [y_gr L 61 10 rfl rfl, q1, Option.bind_some]
        rw [y_ai L h6 63 24 rfl rfl rfl (by omega) (by omega)]
        simp only [Option.bind_some]
        rw [y_ai L h6 63 24 rfl rfl rfl (by omega) (by omega)]
        simp only [Option.bind_some]
        rw [y_ta L 63 0 24 rfl rfl rfl (by omega) (by omega), Option.bind_some, ims_jms, e1, show 2 * (k : Int) + 2 = 2 * ((k : Int) + 1) by omega]
      · rw [if_neg (by omega), if_neg c]
        simp only [y_gr L 61 10 rfl rfl, q1, Option.bind_some]
        rw [y_ai L h6 63 24 rfl rfl rfl (by omega) (by omega)]
        simp only [Option.bind_some]
        rw [y_ai L h6 63 24 rfl rfl rfl (by omega) (by omega)]
        simp only [Option.bind_some]
        rw [y_ai L h6 63 24 rfl rfl rfl (by omega) (by omega)]
        simp only [Option.bind_some]
        rw [y_ta L 63 0 24 rfl rfl rfl (by omega) (by omega), Option.bind_some, ims_jms, e1, show 2 * (k : Int) + 2 = 2 * ((k : Int) + 1) by omega]) (fun G => by
      dsimp only
      unfold jd_137_s106
      rw [n_jw (z := 2 * (h : Int)) (by omega) (by omega), if_pos (by omega)]) (by omega) Y1
    exact this
  obtain ⟨Y2, e2⟩ : ∃ Y2, Y2 = wf (fun k => 2 * k) (fun k l => l (2 * k) + jshr (((if k = 0 then l (2 * k + 1) else l (2 * k - 1)) + l (2 * k + 1)) + 2) 2) Y1 h := ⟨_, rfl⟩
  rw [← e2] at l2
  have l3 : jd_137_l175 61 st sr (2 * (h : Int)) 0 (hh s Q (ims I 63 Y2)) = some (hh s Q (ims (ims I 63 Y2) 62 (wf (fun k => st + lfr h k * sr) (fun k _ => up h (fun i => I 62 (st + i * sr)) (lfr h k)) (I 62) (2 * h)))) := by
    have := lpC (f := fun u : (Int × jH) => jd_137_s175 61 st sr (2 * (h : Int)) u.1 u.2) (ct := fun k => k) (ix := fun k => st + lfr h k * sr) (v := fun k _ => up h (fun i => I 62 (st + i * sr)) (lfr h k)) (J := ims I 63 Y2) (a := 62) (s := s) (Q := Q) (2 * h) (fun k G hk => by
      dsimp only
      unfold jd_137_s175 jd_137_b203
      have fr : (if jw (jand (k : Int) 1) = 0 then jdiv (k : Int) 2 else jdiv (2 * (h : Int)) 2 + jdiv (k : Int) 2) = lfr h k := by
        rw [d2, n_and1, n_jw (by omega) (by omega), n_div (z := (k : Int)) (by omega) (by omega) (by decide) (by decide)]
        rfl
      have lr := lfr_r (h := h) (k := (k : Int)) (by omega) (by omega)
      have rg := hi (lfr h k) lr.1 lr.2
      have e1' : ims (ims I 63 Y2) 62 G 63 = Y2 := (ims_o (by decide)).trans ims_e
      rw [n_jw (z := 2 * (h : Int)) (by omega) (by omega), n_jw (z := (k : Int)) (by omega) (by omega), if_neg (by omega), fr, y_gr L 61 10 rfl rfl, Option.bind_some, y_gr L 61 10 rfl rfl, Option.bind_some, q1, Option.bind_some, y_ai L h6 63 24 rfl rfl rfl (by omega) (by omega), Option.bind_some, q0, Option.bind_some, y_ta L 62 0 576 rfl rfl rfl rg.1 rg.2, Option.bind_some, ims_jms, e1', up_line (fun i => I 62 (st + i * sr)) (I 63) Y0 Y1 Y2 e0 e1 e2 (k := (k : Int)) (by omega) (by omega)]) (fun G => by
      dsimp only
      unfold jd_137_s175
      rw [n_jw (z := 2 * (h : Int)) (by omega) (by omega), n_jw (by omega) (by omega), if_pos (by omega)]) (by omega) (I 62)
    have e3 : ims I 63 Y2 62 = I 62 := ims_o (by decide)
    have e4 : ims (ims I 63 Y2) 62 (I 62) = ims I 63 Y2 := by
      rw [← e3]; exact ims_self
    rw [e4] at this
    exact this
  refine ⟨Y2, ?_⟩
  unfold jd_137
  rw [l0, Option.bind_some, l1, Option.bind_some, l2, Option.bind_some, l3, Option.bind_some, wf_half (V := up h (fun i => I 62 (st + i * sr))) r0]
end LiftC
