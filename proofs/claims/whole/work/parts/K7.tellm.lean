/-! making: the vectors told, and what a way costs, the model -/
section TellM
variable {m : jM} {b st k q n md fw bw x4 x5 x6 : Int} {V G : Int → Int} {l : List Int}
/-- the vector that is looked for first -/
def GsP (m : jM) (k q : Int) (G : Int → Int) : Prop := ∀ m' : jM, m' 76 33 = m 76 33 → m' 111 = m 111 → ∀ i : Int, 0 ≤ i → i < 4 → jd_260 k q (i + 1) m' = some (G i)
theorem vcL_s {n : Nat} : vcL md V G (n + 1) = vcL md V G n ++ (if tl md n = 0 then [] else cd (us (V n - G n))) := rfl
theorem vcL_0 : vcL md V G 0 = [] := rfl
theorem lw_v {j : Nat} (hv : ∀ i : Int, 0 ≤ i → i < 4 → -32 ≤ V i - G i ∧ V i - G i ≤ 32) (j4 : j < 4) (hn : n + (l.length : Int) ≤ 59000) : n + ((l ++ vcL md V G j).length : Int) + ((cd (us (V j - G j))).length : Int) ≤ 60000 := by
  have a := vcL_len (md := md) hv j (by omega)
  obtain ⟨v1, v2⟩ := hv j (by omega) (by omega)
  have u := us_b v1 v2
  obtain ⟨w, hw⟩ : ∃ w, us (V j - G j) = w := ⟨_, rfl⟩
  obtain ⟨U, hU⟩ : ∃ U, (cd w).length = U := ⟨_, rfl⟩
  rw [hw] at u ⊢
  have a3 := lw_a (k := 7) u.1 (by show w + 1 < 128; omega) hU
  rw [hU, List.length_append]
  obtain ⟨D, hD⟩ : ∃ D, (vcL md V G j).length = D := ⟨_, rfl⟩
  rw [hD] at a ⊢
  omega
theorem vsel {a0 a1 a2 a3 : Int} {j : Nat} (hj : j < 4) (h0 : a0 = V 0) (h1 : a1 = V 1) (h2 : a2 = V 2) (h3 : a3 = V 3) : (if jw (j : Int) = 0 then a0 else (if jw (j : Int) = 1 then a1 else (if jw (j : Int) = 2 then a2 else a3))) = V (j : Int) := by
  have : j = 0 ∨ j = 1 ∨ j = 2 ∨ j = 3 := by omega
  rcases this with rfl | rfl | rfl | rfl
  · rw [if_pos (by decide)]; exact h0
  · rw [if_neg (by decide), if_pos (by decide)]; exact h1
  · rw [if_neg (by decide), if_neg (by decide), if_pos (by decide)]; exact h2
  · rw [if_neg (by decide), if_neg (by decide), if_neg (by decide)]; exact h3
theorem k_284v (h : m 76 53 = n) (n0 : 0 ≤ n) (hn : n + (l.length : Int) ≤ 59000) (hfw : ∀ i : Int, 0 ≤ i → i < 2 → (tl md i = 1 ↔ fw = 1) ∧ (tl md i = 0 ∨ tl md i = 1)) (hbw : ∀ i : Int, 2 ≤ i → i < 4 → (tl md i = 1 ↔ bw = 1) ∧ (tl md i = 0 ∨ tl md i = 1)) (f01 : fw = 0 ∨ fw = 1) (b01 : bw = 0 ∨ bw = 1) (hV : V 0 = m 76 62 ∧ V 1 = m 76 63 ∧ V 2 = m 76 64 ∧ V 3 = m 76 65) (hG : GsP m k q G) (hv : ∀ i : Int, 0 ≤ i → i < 4 → -32 ≤ V i - G i ∧ V i - G i ≤ 32) : jd_284_l191 k q x4 x5 x6 fw bw 0 (wrM m n l) = some (wrM m n (l ++ vcL md V G 4)) := by
  unfold jd_284_l191
  have := w_for (f := fun u : (Int × jM) => jd_284_s191 k q x4 x5 x6 fw bw u.1 u.2) (fun j => ((j : Int), wrM m n (l ++ vcL md V G j))) 4 (x := wrM m n (l ++ vcL md V G 4)) (fun j hj => ?_) ?_ (n_fu (by decide))
  · rw [vcL_0, List.append_nil] at this
    exact this
  · dsimp only
    obtain ⟨M, hM⟩ : ∃ M, wrM m n (l ++ vcL md V G j) = M := ⟨_, rfl⟩
    have g := hG M (by rw [← hM]; exact wrM_76 (by decide)) (by rw [← hM]; exact wrM_o (by decide) (by decide)) (j : Int) (by omega) (by omega)
    obtain ⟨v1, v2⟩ := hv (j : Int) (by omega) (by omega)
    have hs : tl md (j : Int) = 0 ∨ tl md (j : Int) = 1 := by
      by_cases c : j < 2
      · exact (hfw (j : Int) (by omega) (by omega)).2
      · exact (hbw (j : Int) (by omega) (by omega)).2
    have hd : jd_284_s191 k q x4 x5 x6 fw bw (j : Int) M = if tl md (j : Int) = 1 then ((jd_260 k q ((j : Int) + 1) M).bind fun v41 => ((jd_234 (jd_236 (V (j : Int) - v41)) M).bind fun m43 => some (.inl ((j : Int) + 1, m43)))) else some (.inl ((j : Int) + 1, M)) := by
      unfold jd_284_s191 jd_284_b239 jd_284_b262 jd_284_b282
      rw [vsel hj (by rw [← hM, wrM_76 (by decide)]; exact hV.1.symm) (by rw [← hM, wrM_76 (by decide)]; exact hV.2.1.symm) (by rw [← hM, wrM_76 (by decide)]; exact hV.2.2.1.symm) (by rw [← hM, wrM_76 (by decide)]; exact hV.2.2.2.symm), n_jw (z := (j : Int)) (by omega) (by omega), if_neg (by omega)]
      by_cases c : 2 ≤ (j : Int)
      · have := (hbw (j : Int) c (by omega)).1
        rw [if_pos c, n_jw (z := bw) (by omega) (by omega)]
        exact if_c this.symm
      · have := (hfw (j : Int) (by omega) (by omega)).1
        rw [if_neg c, n_jw (z := fw) (by omega) (by omega)]
        exact if_c this.symm
    rw [hM, hd, vcL_s]
    rcases hs with c | c
    · rw [if_neg (by omega), if_pos c, List.append_nil, hM, show ((j + 1 : Nat) : Int) = (j : Int) + 1 by omega]
    · rw [if_pos c, if_neg (by omega), g, Option.bind_some, (k_us (v := V (j : Int) - G (j : Int)) (by omega) (by omega)).1, ← hM, k_234a h n0 (us_b v1 v2).1 (Int.lt_of_le_of_lt (Int.add_le_add_right (us_b v1 v2).2 1) (by decide)) (lw_v hv hj hn), Option.bind_some, List.append_assoc, show ((j + 1 : Nat) : Int) = (j : Int) + 1 by omega]
  · dsimp only
    unfold jd_284_s191
    rw [if_pos (by show (4 : Int) ≤ jw ((4 : Nat) : Int); decide)]
/-- no rest -/
theorem k_284z : ∃ Z, jd_284_l33 k q b st x5 0 m = some (ims m 115 Z) ∧ ∀ j : Int, 0 ≤ j → j < 96 → Z j = 0 := by
  have := lpM (f := fun u : (Int × jM) => jd_284_s33 k q b st x5 u.1 u.2) (ct := fun k => k) (ix := fun i => i) (v := fun _ _ => 0) (m := m) (a := 115) 96 (fun x G hx => by
    dsimp only
    unfold jd_284_s33
    rw [n_jw (z := (x : Int)) (by omega) (by omega), if_neg (by omega), y_mw 115 96 rfl rfl (by omega) (by omega), Option.bind_some, ims_jms]) (fun G => by
    dsimp only
    unfold jd_284_s33
    exact if_pos (by show (96 : Int) ≤ jw ((96 : Nat) : Int); decide)) (by decide) (m 115)
  rw [ims_self] at this
  refine ⟨_, this, fun j j0 j1 => ?_⟩
  have w := wf_k (ix := fun i => i) (v := fun _ _ => (0 : Int)) (g := m 115) (n := 96) (k := j.toNat) (by omega) (fun l _ _ => by omega)
  rw [show ((j.toNat : Nat) : Int) = j by omega] at w
  exact w
/-- squares of differences -/
def sqS (D : Int → Int) : Nat → Int
  | 0 => 0
  | n + 1 => sqS D n + D n * D n
theorem sqS_s {D : Int → Int} {n : Nat} : sqS D (n + 1) = sqS D n + D n * D n := rfl
theorem sqS_c {D D' : Int → Int} : ∀ n : Nat, (∀ j : Int, 0 ≤ j → j < n → D j * D j = D' j * D' j) → sqS D n = sqS D' n
  | 0, _ => rfl
  | n + 1, h => by rw [sqS_s, sqS_s, sqS_c n (fun j j0 j1 => h j j0 (by omega)), h n (by omega) (by omega)]
theorem sq_b {d : Int} (h0 : -255 ≤ d) (h1 : d ≤ 255) : 0 ≤ d * d ∧ d * d ≤ 65025 := by
  have pos : ∀ e : Int, 0 ≤ e → e ≤ 255 → 0 ≤ e * e ∧ e * e ≤ 65025 := fun e e0 e1 => by
    have a := Int.mul_le_mul_of_nonneg_left e1 e0
    have b := Int.mul_nonneg e0 e0
    omega
  rcases Int.le_total 0 d with h | h
  · exact pos d h h1
  · have := pos (-d) (by omega) (by omega)
    rw [Int.neg_mul_neg] at this
    exact this
theorem sqS_b {D : Int → Int} : ∀ n : Nat, (∀ j : Int, 0 ≤ j → j < n → -255 ≤ D j ∧ D j ≤ 255) → 0 ≤ sqS D n ∧ sqS D n ≤ 65025 * n
  | 0, _ => ⟨Int.le_refl _, Int.le_refl _⟩
  | n + 1, h => by
    have ih := sqS_b n (fun j j0 j1 => h j j0 (by omega))
    obtain ⟨d0, d1⟩ := h n (by omega) (by omega)
    have := sq_b d0 d1
    rw [sqS_s]
    omega
end TellM
