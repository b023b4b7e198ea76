/-! making: the best way kept, model -/
section BestM
variable {m N : jM} {k q n C len : Int} {V Md : Int → Int} {l : List Int} {lv : Int → Int} {lw : Int → Int → Int}
theorem rl_01 : ∀ n : Nat, ∀ x ∈ (rl lv n).2, x = 0 ∨ x = 1
  | 0, x, h => by
    rw [rl_0] at h
    cases h
  | n + 1, x, h => by
    by_cases c : lv n = 0
    · rw [rl_z c] at h
      exact rl_01 n x h
    · rw [rl_n c] at h
      rcases List.mem_append.mp h with h | h
      · exact rl_01 n x h
      · rcases List.mem_append.mp h with h | h
        · exact cd_01 h
        · exact cd_01 h
theorem bkL_01 : ∀ n : Nat, ∀ x ∈ bkL lw n, x = 0 ∨ x = 1
  | 0, x, h => by
    rw [bkL_0] at h
    cases h
  | n + 1, x, h => by
    rw [bkL_s] at h
    rcases List.mem_append.mp h with h | h
    · exact bkL_01 n x h
    · rcases List.mem_append.mp h with h | h
      · exact cd_01 h
      · exact rl_01 16 x h
theorem vcL_01 {md : Int} {G : Int → Int} : ∀ n : Nat, ∀ x ∈ vcL md V G n, x = 0 ∨ x = 1
  | 0, x, h => by
    rw [vcL_0] at h
    cases h
  | n + 1, x, h => by
    rw [vcL_s] at h
    rcases List.mem_append.mp h with h | h
    · exact vcL_01 n x h
    · by_cases c : tl md n = 0
      · rw [if_pos c] at h
        cases h
      · rw [if_neg c] at h
        exact cd_01 h
theorem pB_01 {way md : Int} {G : Int → Int} : ∀ x ∈ pB way md V G lw, x = 0 ∨ x = 1 := fun x h => by
  unfold pB at h
  rcases List.mem_append.mp h with h | h
  · exact cd_01 h
  · rcases List.mem_append.mp h with h | h
    · exact vcL_01 4 x h
    · by_cases c : md = 0
      · rw [if_pos c] at h
        cases h
      · rw [if_neg c] at h
        exact bkL_01 6 x h
theorem getD_01 (h : ∀ x ∈ l, x = 0 ∨ x = 1) (i : Nat) : l.getD i 0 = 0 ∨ l.getD i 0 = 1 := by
  by_cases c : i < l.length
  · rw [List.getD_eq_getElem?_getD, List.getElem?_eq_getElem c]
    exact h _ (List.getElem_mem c)
  · rw [List.getD_eq_getElem?_getD, List.getElem?_eq_none (by omega)]
    exact Or.inl rfl
/-- the best way in the model -/
def BMd (m : jM) (C : Int) (Md V : Int → Int) (l : List Int) : Prop := m 76 75 = C ∧ (∀ z : Int, 0 ≤ z → z < 96 → m 122 z = Md z) ∧ (∀ i : Int, 0 ≤ i → i < 4 → m 123 (1 + i) = V i) ∧ m 76 74 = (l.length : Int) ∧ ∀ i : Int, 0 ≤ i → i < (l.length : Int) → m 124 i = l.getD i.toNat 0
theorem k_480 (kk0 : 0 ≤ k) (kk1 : k < 12) (q0 : 0 ≤ q) (q9 : q < 9) (n0 : 0 ≤ n) (n1 : n ≤ 40000) (h53 : N 76 53 = n + (l.length : Int)) (ll : (l.length : Int) ≤ 3400) (l01 : ∀ x ∈ l, x = 0 ∨ x = 1) (h113 : ∀ i : Int, 0 ≤ i → i < (l.length : Int) → N 113 (n + i) = l.getD i.toNat 0) (hMd : ∀ z : Int, 0 ≤ z → z < 96 → jd_205 (jw (N 114 z + N 115 z)) 0 255 = Md z) (hV : N 76 62 = V 0 ∧ N 76 63 = V 1 ∧ N 76 64 = V 2 ∧ N 76 65 = V 3) : ∃ m', jd_284_b480 k q n C N = some m' ∧ BMd m' C Md V l ∧ (∀ c : Nat, c ≠ 76 → c ≠ 111 → c ≠ 122 → c ≠ 123 → c ≠ 124 → m' c = N c) ∧ (∀ z : Int, z ≠ 74 → z ≠ 75 → m' 76 z = N 76 z) ∧ ∀ j : Int, j < 63 * k + 7 * q ∨ 63 * k + 7 * q + 7 ≤ j → m' 111 j = N 111 j := by
  obtain ⟨N1, hN1⟩ : ∃ N1, N1 = jms N 76 75 C := ⟨_, rfl⟩
  have e1 : jd_284_l489 k q n 0 N1 = some (ims N1 122 (wf (fun i => i) (fun i _ => jd_205 (jw (N1 114 i + N1 115 i)) 0 255) (N1 122) 96)) := by
    have := lpM (f := fun u : (Int × jM) => jd_284_s489 k q n u.1 u.2) (ct := fun k => k) (ix := fun i => i) (v := fun i _ => jd_205 (jw (N1 114 i + N1 115 i)) 0 255) (m := N1) (a := 122) 96 (fun x G hx => by
      dsimp only
      unfold jd_284_s489
      have a1 : ims N1 122 G 114 = N1 114 := ims_o (by decide)
      have a2 : ims N1 122 G 115 = N1 115 := ims_o (by decide)
      rw [n_jw (z := (x : Int)) (by omega) (by omega), if_neg (by omega), y_ma 114 96 rfl rfl (by omega) (by omega), Option.bind_some, y_ma 115 96 rfl rfl (by omega) (by omega), Option.bind_some, y_mw 122 96 rfl rfl (by omega) (by omega), Option.bind_some, ims_jms, a1, a2]) (fun G => by
      dsimp only
      unfold jd_284_s489
      exact if_pos (by show (96 : Int) ≤ jw ((96 : Nat) : Int); decide)) (by decide) (N1 122)
    rw [ims_self] at this
    exact this
  obtain ⟨N2, hN2⟩ : ∃ N2, N2 = ims N1 122 (wf (fun i => i) (fun i _ => jd_205 (jw (N1 114 i + N1 115 i)) 0 255) (N1 122) 96) := ⟨_, rfl⟩
  rw [← hN2] at e1
  have o2 : ∀ c : Nat, c ≠ 76 → c ≠ 122 → N2 c = N c := fun c c1 c2 => by rw [hN2, ims_o c2, hN1, jms_o c1]
  have z2 : ∀ z : Int, z ≠ 75 → N2 76 z = N 76 z := fun z hz => by rw [hN2, ims_o (by decide), hN1, jms_i hz]
  have m122 : ∀ z : Int, 0 ≤ z → z < 96 → N2 122 z = Md z := fun z x0 x1 => by
    have w := wf_k (ix := fun i => i) (v := fun i _ => jd_205 (jw (N1 114 i + N1 115 i)) 0 255) (g := N1 122) (n := 96) (k := z.toNat) (by omega) (fun l _ _ => by omega)
    rw [show ((z.toNat : Nat) : Int) = z by omega] at w
    rw [hN2, ims_e]
    refine w.trans ?_
    show jd_205 (jw (N1 114 z + N1 115 z)) 0 255 = _
    rw [hN1, jms_o (by decide), jms_o (by decide)]
    exact hMd z x0 x1
  obtain ⟨N3, e2, o3, j3, a0, a1, a2, a3, a4, a5, a6⟩ := k_266 (m := N2) (k := k) (q := q) (v5 := 0) (v6 := N2 76 53 - n) kk0 kk1 q0 q9
  have e3 : jd_284_l548 k q n 0 N3 = some (ims N3 123 (wf (fun i => i) (fun i _ => N3 111 (63 * k + 7 * q + i)) (N3 123) 7)) := by
    have := lpM (f := fun u : (Int × jM) => jd_284_s548 k q n u.1 u.2) (ct := fun k => k) (ix := fun i => i) (v := fun i _ => N3 111 (63 * k + 7 * q + i)) (m := N3) (a := 123) 7 (fun x G hx => by
      dsimp only
      unfold jd_284_s548 jd_259
      have b1 : ims N3 123 G 111 = N3 111 := ims_o (by decide)
      rw [n_jw (z := (x : Int)) (by omega) (by omega), if_neg (by omega), y_ma 111 756 rfl rfl (by omega) (by omega), Option.bind_some, Option.bind_some, y_mw 123 7 rfl rfl (by omega) (by omega), Option.bind_some, ims_jms, b1]) (fun G => by
      dsimp only
      unfold jd_284_s548
      exact if_pos (by show (7 : Int) ≤ jw ((7 : Nat) : Int); decide)) (by decide) (N3 123)
    rw [ims_self] at this
    exact this
  obtain ⟨N4, hN4⟩ : ∃ N4, N4 = ims N3 123 (wf (fun i => i) (fun i _ => N3 111 (63 * k + 7 * q + i)) (N3 123) 7) := ⟨_, rfl⟩
  rw [← hN4] at e3
  have m123 : ∀ i : Int, 0 ≤ i → i < 7 → N4 123 i = N3 111 (63 * k + 7 * q + i) := fun i x0 x1 => by
    have w := wf_k (ix := fun i => i) (v := fun i _ => N3 111 (63 * k + 7 * q + i)) (g := N3 123) (n := 7) (k := i.toNat) (by omega) (fun l _ _ => by omega)
    rw [show ((i.toNat : Nat) : Int) = i by omega] at w
    rw [hN4, ims_e]
    exact w
  have N453 : N4 76 53 = n + (l.length : Int) := by rw [hN4, ims_o (by decide), o3 76 (by decide), z2 53 (by decide)]; exact h53
  obtain ⟨N5, hN5⟩ : ∃ N5, N5 = jms N4 76 74 (N4 76 53 - n) := ⟨_, rfl⟩
  have n74 : N5 76 74 = (l.length : Int) := by rw [hN5, jms_e, N453]; omega
  have n113 : N5 113 = N 113 := by rw [hN5, jms_o (by decide), hN4, ims_o (by decide), o3 113 (by decide), o2 113 (by decide) (by decide)]
  have e4 : jd_284_l590 n 0 N5 = some (ims N5 124 (wf (fun i => i) (fun i _ => jwb (N5 113 (n + i))) (N5 124) l.length)) := by
    have := lpM (f := fun u : (Int × jM) => jd_284_s590 n u.1 u.2) (ct := fun k => k) (ix := fun i => i) (v := fun i _ => jwb (N5 113 (n + i))) (m := N5) (a := 124) l.length (fun x G hx => by
      dsimp only
      unfold jd_284_s590
      have b1 : ims N5 124 G 113 = N5 113 := ims_o (by decide)
      have b2 : ims N5 124 G 76 74 = (l.length : Int) := by rw [ims_o (by decide)]; exact n74
      rw [b2, n_jw (z := (l.length : Int)) (by omega) (by omega), n_jw (z := (x : Int)) (by omega) (by omega), if_neg (by omega), y_mb 113 60000 rfl rfl (by omega) (by omega), Option.bind_some, y_mw 124 4000 rfl rfl (by omega) (by omega), Option.bind_some, ims_jms, b1]) (fun G => by
      dsimp only
      unfold jd_284_s590
      have b2 : ims N5 124 G 76 74 = (l.length : Int) := by rw [ims_o (by decide)]; exact n74
      rw [b2, if_pos (Int.le_refl _)]) (by omega) (N5 124)
    rw [ims_self] at this
    exact this
  refine ⟨ims N5 124 (wf (fun i => i) (fun i _ => jwb (N5 113 (n + i))) (N5 124) l.length), ?_, ⟨?_, fun z x0 x1 => ?_, fun i x0 x1 => ?_, ?_, fun i x0 x1 => ?_⟩, fun c c1 c2 c3 c4 c5 => ?_, fun z z7 z8 => ?_, fun j hj => ?_⟩
  · unfold jd_284_b480
    rw [Option.bind_some, ← hN1, e1, Option.bind_some, e2, Option.bind_some, e3, Option.bind_some, Option.bind_some, ← hN5, e4, Option.bind_some]
  · rw [ims_o (by decide), hN5, jms_i (by decide), hN4, ims_o (by decide), o3 76 (by decide), hN2, ims_o (by decide), hN1, jms_e]
  · rw [ims_o (by decide), hN5, jms_o (by decide), hN4, ims_o (by decide), o3 122 (by decide)]
    exact m122 z x0 x1
  · rw [ims_o (by decide), hN5, jms_o (by decide), m123 (1 + i) (by omega) (by omega)]
    have : i = 0 ∨ i = 1 ∨ i = 2 ∨ i = 3 := by omega
    rcases this with rfl | rfl | rfl | rfl
    · rw [show 63 * k + 7 * q + (1 + 0) = 63 * k + 7 * q + 1 from rfl, a1, z2 62 (by decide)]
      exact hV.1
    · rw [show 63 * k + 7 * q + (1 + 1) = 63 * k + 7 * q + 2 from rfl, a2, z2 63 (by decide)]
      exact hV.2.1
    · rw [show 63 * k + 7 * q + (1 + 2) = 63 * k + 7 * q + 3 from rfl, a3, z2 64 (by decide)]
      exact hV.2.2.1
    · rw [show 63 * k + 7 * q + (1 + 3) = 63 * k + 7 * q + 4 from rfl, a4, z2 65 (by decide)]
      exact hV.2.2.2
  · rw [ims_o (by decide)]
    exact n74
  · have w := wf_k (ix := fun i => i) (v := fun i _ => jwb (N5 113 (n + i))) (g := N5 124) (n := l.length) (k := i.toNat) (by omega) (fun l _ _ => by omega)
    rw [show ((i.toNat : Nat) : Int) = i by omega] at w
    rw [ims_e]
    refine w.trans ?_
    show jwb (N5 113 (n + i)) = _
    rw [n113, h113 i x0 x1]
    have b := getD_01 l01 i.toNat
    exact n_jwb (by omega) (by omega)
  · rw [ims_o c5, hN5, jms_o c1, hN4, ims_o c4, o3 c c2, o2 c c1 c3]
  · rw [ims_o (by decide), hN5, jms_i z7, hN4, ims_o (by decide), o3 76 (by decide), z2 z z8]
  · rw [ims_o (by decide), hN5, jms_o (by decide), hN4, ims_o (by decide), j3 j hj, o2 111 (by decide) (by decide)]
end BestM
