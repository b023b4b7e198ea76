/-! a line lowered by the class, and by the model -/
section LowerC
variable {s : hS} {Q : hQ} {hm : hO} {I m : jM} {st sr : Int} {h : Nat}
theorem c_138 (L : Lay s Q hm) (h6 : s.1 ≤ 1000000) (h0 : 1 ≤ h) (h1 : h ≤ 12) (hi : ∀ i : Int, 0 ≤ i → i < 2 * h → 0 ≤ st + i * sr ∧ st + i * sr < 576) : ∃ Y, jd_138 21 st sr (2 * (h : Int)) (hh s Q I) = some (hh s Q (ims (ims I 23 Y) 22 (wf (fun k => st + k * sr) (fun k _ => lw h (fun i => I 22 (st + i * sr)) k) (I 22) (2 * h)))) := by
  have q0 : Q 21 ((0 : Nat) : Int) = some 22 := Lq L rfl
  have q1 : Q 21 ((1 : Nat) : Int) = some 23 := Lq L rfl
  have d2 : jdiv (2 * (h : Int)) 2 = h := by rw [n_div (by omega) (by omega) (by decide) (by decide)]; omega
  have l0 : jd_138_l3 21 st sr (2 * (h : Int)) 0 (hh s Q I) = some (hh s Q (ims I 23 (wf (fun k => k) (fun k _ => (fun i => I 22 (st + i * sr)) (lfr h k)) (I 23) (2 * h)))) := by
    have := lpC (f := fun u : (Int × jH) => jd_138_s3 21 st sr (2 * (h : Int)) u.1 u.2) (ct := fun k => k) (ix := fun k => k) (v := fun k _ => (fun i => I 22 (st + i * sr)) (lfr h k)) (J := I) (a := 23) (s := s) (Q := Q) (2 * h) (fun k G hk => by
      dsimp only
      unfold jd_138_s3 jd_138_b31
      have fr : (if jw (jand (k : Int) 1) = 0 then jdiv (k : Int) 2 else jdiv (2 * (h : Int)) 2 + jdiv (k : Int) 2) = lfr h k := by
        rw [d2, n_and1, n_jw (by omega) (by omega), n_div (z := (k : Int)) (by omega) (by omega) (by decide) (by decide)]
        rfl
      have rg := hi (lfr h k) (by unfold lfr; split <;> omega) (by unfold lfr; split <;> omega)
      have e1 : ims I 23 G 22 = I 22 := ims_o (by decide)
      rw [n_jw (z := 2 * (h : Int)) (by omega) (by omega), n_jw (z := (k : Int)) (by omega) (by omega), if_neg (by omega), fr, y_gr L 21 10 rfl rfl, Option.bind_some, y_gr L 21 10 rfl rfl, Option.bind_some, q0, Option.bind_some, y_ai L h6 22 576 rfl rfl rfl rg.1 rg.2, Option.bind_some, q1, Option.bind_some, y_ta L 23 0 24 rfl rfl rfl (by omega) (by omega), Option.bind_some, ims_jms, e1]) (fun G => by
      dsimp only
      unfold jd_138_s3
      rw [n_jw (z := 2 * (h : Int)) (by omega) (by omega), n_jw (by omega) (by omega), if_pos (by omega)]) (by omega) (I 23)
    rw [ims_self] at this
    exact this
  obtain ⟨Y0, e0⟩ : ∃ Y0, Y0 = wf (fun k => k) (fun k _ => (fun i => I 22 (st + i * sr)) (lfr h k)) (I 23) (2 * h) := ⟨_, rfl⟩
  rw [← e0] at l0
  have l1 : jd_138_l60 21 st sr (2 * (h : Int)) 0 (hh s Q (ims I 23 Y0)) = some (hh s Q (ims I 23 (wf (fun k => 2 * k) (fun k l => l (2 * k) - jshr (((if k = 0 then l (2 * k + 1) else l (2 * k - 1)) + l (2 * k + 1)) + 2) 2) Y0 h))) := by
    have := lpC (f := fun u : (Int × jH) => jd_138_s60 21 st sr (2 * (h : Int)) u.1 u.2) (ct := fun k => 2 * k) (ix := fun k => 2 * k) (v := fun k l => l (2 * k) - jshr (((if k = 0 then l (2 * k + 1) else l (2 * k - 1)) + l (2 * k + 1)) + 2) 2) (J := I) (a := 23) (s := s) (Q := Q) h (fun k G hk => by
      dsimp only
      unfold jd_138_s60 jd_138_b92
      have e1 : ims I 23 G 23 = G := ims_e
      rw [n_jw (z := 2 * (h : Int)) (by omega) (by omega), n_jw (z := 2 * (k : Int)) (by omega) (by omega), if_neg (by omega)]
      by_cases c : (k : Int) = 0
      · rw [if_pos (by omega), if_pos c]
        simp only [y_gr L 21 10 rfl rfl, q1, Option.bind_some]
        rw [y_ai L h6 23 24 rfl rfl rfl (by omega) (by omega)]
        simp only [Option.bind_some]
        rw [y_ai L h6 23 24 rfl rfl rfl (by omega) (by omega)]
        simp only [Option.bind_some]
        rw [y_ta L 23 0 24 rfl rfl rfl (by omega) (by omega), Option.bind_some, ims_jms, e1, show 2 * (k : Int) + 2 = 2 * ((k : Int) + 1) by omega]
      · rw [if_neg (by omega), if_neg c]
        simp only [y_gr L 21 10 rfl rfl, q1, Option.bind_some]
        rw [y_ai L h6 23 24 rfl rfl rfl (by omega) (by omega)]
        simp only [Option.bind_some]
        rw [y_ai L h6 23 24 rfl rfl rfl (by omega) (by omega)]
        simp only [Option.bind_some]
        rw [y_ai L h6 23 24 rfl rfl rfl (by omega) (by omega)]
        simp only [Option.bind_some]
        rw [y_ta L 23 0 24 rfl rfl rfl (by omega) (by omega), Option.bind_some, ims_jms, e1, show 2 * (k : Int) + 2 = 2 * ((k : Int) + 1) by omega]) (fun G => by
      dsimp only
      unfold jd_138_s60
      rw [n_jw (z := 2 * (h : Int)) (by omega) (by omega), if_pos (by omega)]) (by omega) Y0
    exact this
  obtain ⟨Y1, e1⟩ : ∃ Y1, Y1 = wf (fun k => 2 * k) (fun k l => l (2 * k) - jshr (((if k = 0 then l (2 * k + 1) else l (2 * k - 1)) + l (2 * k + 1)) + 2) 2) Y0 h := ⟨_, rfl⟩
  rw [← e1] at l1
  have l2 : jd_138_l129 21 st sr (2 * (h : Int)) 1 (hh s Q (ims I 23 Y1)) = some (hh s Q (ims I 23 (wf (fun k => 2 * k + 1) (fun k l => l (2 * k + 1) + jshr (l (2 * k) + (if 2 * (h : Int) ≤ 2 * k + 2 then l (2 * k) else l (2 * k + 2))) 1) Y1 h))) := by
    have := lpC (f := fun u : (Int × jH) => jd_138_s129 21 st sr (2 * (h : Int)) u.1 u.2) (ct := fun k => 2 * k + 1) (ix := fun k => 2 * k + 1) (v := fun k l => l (2 * k + 1) + jshr (l (2 * k) + (if 2 * (h : Int) ≤ 2 * k + 2 then l (2 * k) else l (2 * k + 2))) 1) (J := I) (a := 23) (s := s) (Q := Q) h (fun k G hk => by
      dsimp only
      unfold jd_138_s129 jd_138_b164
      have e1 : ims I 23 G 23 = G := ims_e
      rw [n_jw (z := 2 * (h : Int)) (by omega) (by omega), n_jw (z := 2 * (k : Int) + 1) (by omega) (by omega), n_jw (z := 2 * (k : Int) + 1 + 1) (by omega) (by omega), if_neg (by omega)]
      by_cases c : 2 * (h : Int) ≤ 2 * (k : Int) + 2
      · rw [if_pos (by omega), if_pos c]
        simp only [y_gr L 21 10 rfl rfl, q1, Option.bind_some]
        rw [y_ai L h6 23 24 rfl rfl rfl (by omega) (by omega)]
        simp only [Option.bind_some]
        rw [y_ai L h6 23 24 rfl rfl rfl (by omega) (by omega)]
        simp only [Option.bind_some]
        rw [y_ta L 23 0 24 rfl rfl rfl (by omega) (by omega), Option.bind_some, ims_jms, e1, show 2 * (k : Int) + 1 - 1 = 2 * (k : Int) by omega, show 2 * (k : Int) + 1 + 2 = 2 * ((k : Int) + 1) + 1 by omega]
      · rw [if_neg (by omega), if_neg c]
        simp only [y_gr L 21 10 rfl rfl, q1, Option.bind_some]
        rw [y_ai L h6 23 24 rfl rfl rfl (by omega) (by omega)]
        simp only [Option.bind_some]
        rw [y_ai L h6 23 24 rfl rfl rfl (by omega) (by omega)]
        simp only [Option.bind_some]
        rw [y_ai L h6 23 24 rfl rfl rfl (by omega) (by omega)]
        simp only [Option.bind_some]
        rw [y_ta L 23 0 24 rfl rfl rfl (by omega) (by omega), Option.bind_some, ims_jms, e1, show 2 * (k : Int) + 1 - 1 = 2 * (k : Int) by omega, show 2 * (k : Int) + 1 + 1 = 2 * (k : Int) + 2 by omega, show 2 * (k : Int) + 1 + 2 = 2 * ((k : Int) + 1) + 1 by omega]) (fun G => by
      dsimp only
      unfold jd_138_s129
      rw [n_jw (z := 2 * (h : Int)) (by omega) (by omega), n_jw (by omega) (by omega), if_pos (by omega)]) (by omega) Y1
    exact this
  obtain ⟨Y2, e2⟩ : ∃ Y2, Y2 = wf (fun k => 2 * k + 1) (fun k l => l (2 * k + 1) + jshr (l (2 * k) + (if 2 * (h : Int) ≤ 2 * k + 2 then l (2 * k) else l (2 * k + 2))) 1) Y1 h := ⟨_, rfl⟩
  rw [← e2] at l2
  have yy := fun k hk => lw_line (fun i => I 22 (st + i * sr)) (I 23) (2 * h) rfl Y0 Y1 Y2 e0 e1 e2 k hk
  have l3 : jd_138_l199 21 st sr (2 * (h : Int)) 0 (hh s Q (ims I 23 Y2)) = some (hh s Q (ims (ims I 23 Y2) 22 (wf (fun k => st + k * sr) (fun k _ => lw h (fun i => I 22 (st + i * sr)) k) (I 22) (2 * h)))) := by
    have := lpC (f := fun u : (Int × jH) => jd_138_s199 21 st sr (2 * (h : Int)) u.1 u.2) (ct := fun k => k) (ix := fun k => st + k * sr) (v := fun k _ => lw h (fun i => I 22 (st + i * sr)) k) (J := ims I 23 Y2) (a := 22) (s := s) (Q := Q) (2 * h) (fun k G hk => by
      dsimp only
      unfold jd_138_s199
      have rg := hi k (by omega) (by omega)
      have e1 : ims (ims I 23 Y2) 22 G 23 = Y2 := (ims_o (by decide)).trans ims_e
      rw [n_jw (z := 2 * (h : Int)) (by omega) (by omega), n_jw (z := (k : Int)) (by omega) (by omega), if_neg (by omega), y_gr L 21 10 rfl rfl, Option.bind_some, y_gr L 21 10 rfl rfl, Option.bind_some, q1, Option.bind_some, y_ai L h6 23 24 rfl rfl rfl (by omega) (by omega), Option.bind_some, q0, Option.bind_some, y_ta L 22 0 576 rfl rfl rfl rg.1 rg.2, Option.bind_some, ims_jms, e1, yy k hk]) (fun G => by
      dsimp only
      unfold jd_138_s199
      rw [n_jw (z := 2 * (h : Int)) (by omega) (by omega), n_jw (by omega) (by omega), if_pos (by omega)]) (by omega) (I 22)
    have e3 : ims I 23 Y2 22 = I 22 := ims_o (by decide)
    have e4 : ims (ims I 23 Y2) 22 (I 22) = ims I 23 Y2 := by
      rw [← e3]; exact ims_self
    rw [e4] at this
    exact this
  refine ⟨Y2, ?_⟩
  unfold jd_138
  rw [l0, Option.bind_some, l1, Option.bind_some, l2, Option.bind_some, l3, Option.bind_some]
end LowerC
