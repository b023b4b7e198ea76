/-! making in waves: a line lifted, class and model -/
def upO (h : Int) (g : Int → Int) (k : Int) : Int := g (2 * k + 1) - jshr (g (2 * k) + g (if 2 * k + 2 = 2 * h then 2 * h - 2 else 2 * k + 2)) 1
def up (h : Int) (g : Int → Int) (i : Int) : Int := if i < h then g (2 * i) + jshr ((upO h g (if i = 0 then 0 else i - 1) + upO h g i) + 2) 2 else upO h g (i - h)
section Lift
variable {s : hS} {Q : hQ} {hm : hO} {I m : jM} {st sr : Int} {h : Nat}
theorem up_c {h : Int} {g g' : Int → Int} (e : ∀ i : Int, 0 ≤ i → i < 2 * h → g i = g' i) {i : Int} (i0 : 0 ≤ i) (i1 : i < 2 * h) : up h g i = up h g' i := by
  have e2 : ∀ k : Int, 0 ≤ k → k < h → upO h g k = upO h g' k := fun k k0 k1 => by
    unfold upO
    rw [e (2 * k + 1) (by omega) (by omega), e (2 * k) (by omega) (by omega), e (if 2 * k + 2 = 2 * h then 2 * h - 2 else 2 * k + 2) (by split <;> omega) (by split <;> omega)]
  unfold up
  by_cases c : i < h
  · rw [if_pos c, if_pos c, e _ (by omega) (by omega), e2 i i0 c, e2 (if i = 0 then 0 else i - 1) (by split <;> omega) (by split <;> omega)]
  · rw [if_neg c, if_neg c, e2 _ (by omega) (by omega)]
theorem k_272 (h0 : 1 ≤ h) (h1 : h ≤ 12) : ∃ Y, jd_272 (2 * (h : Int)) m = some (ims (ims m 120 Y) 119 (wf (fun k => k) (fun k _ => up h (m 119) k) (m 119) (2 * h))) := by
  have d2 : jdiv (2 * (h : Int)) 2 = h := by rw [n_div (by omega) (by omega) (by decide) (by decide)]; omega
  have l1 : jd_272_l6 (2 * (h : Int)) h 0 m = some (ims m 120 (wf (fun k => h + k) (fun k _ => upO h (m 119) k) (m 120) h)) := by
    have := lpM (f := fun u : (Int × jM) => jd_272_s6 (2 * (h : Int)) h u.1 u.2) (ct := fun k => k) (ix := fun k => h + k) (v := fun k _ => upO h (m 119) k) (m := m) (a := 120) h (fun k G hk => by
      dsimp only
      unfold jd_272_s6 jd_272_b60
      have e1 : ims m 120 G 119 = m 119 := ims_o (by decide)
      rw [n_jw (z := (h : Int)) (by omega) (by omega), n_jw (z := (k : Int)) (by omega) (by omega), if_neg (by omega), y_ma 119 24 rfl rfl (by omega) (by omega), Option.bind_some, y_ma 119 24 rfl rfl (by omega) (by omega), Option.bind_some, n_jw (z := 2 * (k : Int) + 2) (by omega) (by omega), n_jw (z := 2 * (h : Int)) (by omega) (by omega), y_ma 119 24 rfl rfl (by split <;> omega) (by split <;> omega), Option.bind_some, y_mw 120 24 rfl rfl (by omega) (by omega), Option.bind_some, ims_jms, e1]
      rfl) (fun G => by
      dsimp only
      unfold jd_272_s6
      rw [n_jw (z := (h : Int)) (by omega) (by omega), if_pos (by omega)]) (by omega) (m 120)
    rw [ims_self] at this
    exact this
  obtain ⟨Y1, e1⟩ : ∃ Y1, Y1 = wf (fun k => h + k) (fun k _ => upO h (m 119) k) (m 120) h := ⟨_, rfl⟩
  rw [← e1] at l1
  have y1 : ∀ k : Int, 0 ≤ k → k < h → Y1 (h + k) = upO h (m 119) k := fun k k0 k1 => by
    have := wf_k (ix := fun k => h + k) (v := fun k _ => upO h (m 119) k) (g := m 120) (n := h) (k := k.toNat) (by omega) (fun l h1 h2 => by omega)
    rw [show ((k.toNat : Nat) : Int) = k by omega] at this
    rw [e1, this]
  have l2 : jd_272_l74 (2 * (h : Int)) h 0 (ims m 120 Y1) = some (ims m 120 (wf (fun k => k) (fun k l => m 119 (2 * k) + jshr ((l (h + (if k = 0 then 0 else k - 1)) + l (h + k)) + 2) 2) Y1 h)) := by
    have := lpM (f := fun u : (Int × jM) => jd_272_s74 (2 * (h : Int)) h u.1 u.2) (ct := fun k => k) (ix := fun k => k) (v := fun k l => m 119 (2 * k) + jshr ((l (h + (if k = 0 then 0 else k - 1)) + l (h + k)) + 2) 2) (m := m) (a := 120) h (fun k G hk => by
      dsimp only
      unfold jd_272_s74
      have e1 : ims m 120 G 119 = m 119 := ims_o (by decide)
      have e2 : ims m 120 G 120 = G := ims_e
      rw [n_jw (z := (h : Int)) (by omega) (by omega), n_jw (z := (k : Int)) (by omega) (by omega), if_neg (by omega), y_ma 119 24 rfl rfl (by omega) (by omega), Option.bind_some, y_ma 120 24 rfl rfl (by split <;> omega) (by split <;> omega), Option.bind_some, y_ma 120 24 rfl rfl (by omega) (by omega), Option.bind_some, y_mw 120 24 rfl rfl (by omega) (by omega), Option.bind_some, ims_jms, e1, e2]) (fun G => by
      dsimp only
      unfold jd_272_s74
      rw [n_jw (z := (h : Int)) (by omega) (by omega), if_pos (by omega)]) (by omega) Y1
    exact this
  obtain ⟨Y2, e2⟩ : ∃ Y2, Y2 = wf (fun k => k) (fun k l => m 119 (2 * k) + jshr ((l (h + (if k = 0 then 0 else k - 1)) + l (h + k)) + 2) 2) Y1 h := ⟨_, rfl⟩
  rw [← e2] at l2
  have yy : ∀ k : Nat, k < 2 * h → Y2 k = up h (m 119) k := fun k hk => by
    unfold up
    by_cases c : (k : Int) < h
    · have := wf_k (ix := fun k => k) (v := fun k l => m 119 (2 * k) + jshr ((l (h + (if k = 0 then 0 else k - 1)) + l (h + k)) + 2) 2) (g := Y1) (n := h) (k := k) (by omega) (fun l h1 h2 => by omega)
      rw [e2, this, if_pos c]
      have o1 : ∀ j : Int, (h : Int) ≤ j → wf (fun k => k) (fun k l => m 119 (2 * k) + jshr ((l (h + (if k = 0 then 0 else k - 1)) + l (h + k)) + 2) 2) Y1 k j = Y1 j := fun j hj => wf_o (fun l hl => by omega)
      rw [o1 (h + (if (k : Int) = 0 then 0 else (k : Int) - 1)) (by split <;> omega), o1 (h + (k : Int)) (by omega), y1 _ (by split <;> omega) (by split <;> omega), y1 _ (by omega) c]
    · rw [if_neg c, e2, wf_o (fun l hl => by omega), ← y1 ((k : Int) - h) (by omega) (by omega), show (h : Int) + ((k : Int) - h) = k by omega]
  have l3 : jd_272_l133 (2 * (h : Int)) 0 (ims m 120 Y2) = some (ims (ims m 120 Y2) 119 (wf (fun k => k) (fun k _ => up h (m 119) k) (m 119) (2 * h))) := by
    have := lpM (f := fun u : (Int × jM) => jd_272_s133 (2 * (h : Int)) u.1 u.2) (ct := fun k => k) (ix := fun k => k) (v := fun k _ => up h (m 119) k) (m := ims m 120 Y2) (a := 119) (2 * h) (fun k G hk => by
      dsimp only
      unfold jd_272_s133
      have e1 : ims (ims m 120 Y2) 119 G 120 = Y2 := (ims_o (by decide)).trans ims_e
      rw [n_jw (z := 2 * (h : Int)) (by omega) (by omega), n_jw (z := (k : Int)) (by omega) (by omega), if_neg (by omega), y_ma 120 24 rfl rfl (by omega) (by omega), Option.bind_some, y_mw 119 24 rfl rfl (by omega) (by omega), Option.bind_some, ims_jms, e1, yy k hk]) (fun G => by
      dsimp only
      unfold jd_272_s133
      rw [n_jw (z := 2 * (h : Int)) (by omega) (by omega), n_jw (by omega) (by omega), if_pos (by omega)]) (by omega) (m 119)
    have e3 : ims m 120 Y2 119 = m 119 := ims_o (by decide)
    have e4 : ims (ims m 120 Y2) 119 (m 119) = ims m 120 Y2 := by
      rw [← e3]; exact ims_self
    rw [e4] at this
    exact this
  refine ⟨Y2, ?_⟩
  unfold jd_272
  rw [d2, l1, Option.bind_some, l2, Option.bind_some, l3, Option.bind_some]
end Lift
