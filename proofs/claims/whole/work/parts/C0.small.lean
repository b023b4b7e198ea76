/-! goTo, vectors taken, facts noted, levels emptied: the class -/
section Small
variable {s : hS} {Q : hQ} {hm : hO} {I m : jM} {T p c a : Nat} {w h k q md kd : Int}
theorem c_74 (F : PtC s Q T) (h6 : s.1 ≤ 1000000) (P : PcC s Q p) (q2T : Q T 2 = some p) (hw : I p 0 = w) (sw : isSd w) (q0 : 0 ≤ q) (q1 : q < 1000) : ∃ G, jd_74 T q (hh s Q I) = some (hh s Q (ims (jms (jms I T 5 (q % (w / 8))) T 6 (q / (w / 8))) (T + 6) G)) ∧ ∀ i : Int, 0 ≤ i → i < 4 → G i = if q % (w / 8) = 0 then 0 else I (T + 5) i := by
  obtain ⟨P1, P2, P3, P4, P5, P6, P7⟩ := id P
  have F76 := F.2.2.2.2
  have t14 : s.2.2.1 p = 6 + 8 := P3
  have q2T' : Q T ((2 : Nat) : Int) = some p := q2T
  have hw' : I p ((0 : Nat) : Int) = w := hw
  have q11 := T_q F 5 11 rfl rfl rfl
  have q12 := T_q F 6 12 rfl rfl rfl
  have w8 : 1 ≤ w / 8 ∧ w / 8 ≤ 3 ∧ 0 ≤ w ∧ w ≤ 24 := by rcases sw with rfl | rfl | rfl <;> decide
  obtain ⟨X, hX⟩ : ∃ z, q % (w / 8) = z := ⟨_, rfl⟩
  have xr : 0 ≤ X ∧ X < 3 := by rw [← hX]; exact ⟨Int.emod_nonneg _ (by omega), by have := Int.emod_lt_of_pos q (show 0 < w / 8 by omega); omega⟩
  obtain ⟨J, hJ⟩ : ∃ J, J = jms (jms I T 5 (q % (w / 8))) T 6 (q / (w / 8)) := ⟨_, rfl⟩
  have J5 : J T ((5 : Nat) : Int) = X := by rw [hJ, ← hX]; exact (jms_i (by decide)).trans jms_e
  have Jv : J (T + 5) = I (T + 5) := by rw [hJ, jms_o (by omega), jms_o (by omega)]
  have l : jd_74_l27 T 0 (hh s Q J) = some (hh s Q (ims J (T + 6) (wf (fun i => i) (fun i _ => if X = 0 then 0 else I (T + 5) i) (J (T + 6)) 4))) := by
    have := lpC (f := fun u : (Int × jH) => jd_74_s27 T u.1 u.2) (ct := fun k => k) (ix := fun i => i) (v := fun i _ => if X = 0 then 0 else I (T + 5) i) (J := J) (a := T + 6) (s := s) (Q := Q) 4 (fun k G hk => by
      dsimp only
      unfold jd_74_s27 jd_74_b54
      have e1 : ims J (T + 6) G (T + 5) = I (T + 5) := (ims_o (by omega)).trans Jv
      have e2 : ims J (T + 6) G T ((5 : Nat) : Int) = X := by rw [ims_o (by omega)]; exact J5
      rw [n_jw (by omega) (by omega), if_neg (by omega), T_gr F, Option.bind_some, T_gi F, Option.bind_some, e2, n_jw (z := X) (by omega) (by omega)]
      by_cases c : X = 0
      · rw [if_pos c, if_pos c, q12, Option.bind_some, T_ta F 6 4 rfl rfl rfl rfl (by omega) (by omega), Option.bind_some, ims_jms]
      · rw [if_neg c, if_neg c, T_gr F, Option.bind_some, q11, Option.bind_some, T_ai F h6 5 4 rfl rfl rfl rfl (by omega) (by omega), Option.bind_some, q12, Option.bind_some, T_ta F 6 4 rfl rfl rfl rfl (by omega) (by omega), Option.bind_some, ims_jms, e1]) (fun G => by
      dsimp only
      unfold jd_74_s27
      exact if_pos (by show (4 : Int) ≤ jw ((4 : Nat) : Int); decide)) (by decide) (J (T + 6))
    rw [ims_self] at this
    exact this
  refine ⟨wf (fun i => i) (fun i _ => if X = 0 then 0 else I (T + 5) i) (J (T + 6)) 4, ?_, fun i i0 i1 => ?_⟩
  · unfold jd_74
    rw [T_gr F, Option.bind_some, q2T', Option.bind_some, x_gi P2 t14, Option.bind_some, hw', n_div (z := w) (by omega) (by omega) (by decide) (by decide), jnz_1 (by omega) (by omega), Option.bind_some, T_pi F, Option.bind_some, Option.bind_some, T_pi F, Option.bind_some, n_rem (by omega) (by omega) (by omega) (by omega), n_div (by omega) (by omega) (by omega) (by omega)]
    rw [show jms (jms I T ((5 : Nat) : Int) (q % (w / 8))) T ((6 : Nat) : Int) (q / (w / 8)) = J from hJ.symm, l, Option.bind_some, ← hJ]
  · have := wf_k (ix := fun i => i) (v := fun i _ => if X = 0 then 0 else I (T + 5) i) (g := J (T + 6)) (n := 4) (k := i.toNat) (by omega) (fun l _ _ => by omega)
    rw [show ((i.toNat : Nat) : Int) = i by omega] at this
    rw [hX]
    exact this
theorem c_78 (L : Lay s Q hm) (F : PtC s Q T) (h6 : s.1 ≤ 1000000) (eK : I T 0 = kd) (k0 : 0 ≤ kd) (k2 : kd ≤ 2) (m0 : 0 ≤ md) (m6 : md ≤ 6) (hc : sk c = (0, 4)) (hc7 : Nat.blt c 76 = true) (cT : c ≠ T + 5) : ∃ G, jd_78 T md (some c) (hh s Q I) = some (hh s Q (ims I (T + 5) G)) ∧ ∀ i : Int, 0 ≤ i → i < 4 → G i = if ¬ jw (jd_77 md i) = 0 then I c i else if md = 0 ∧ kd = 1 ∧ i < 2 then I (T + 6) i else 0 := by
  have F76 := F.2.2.2.2
  have q11 := T_q F 5 11 rfl rfl rfl
  have q12 := T_q F 6 12 rfl rfl rfl
  have eK' : I T ((0 : Nat) : Int) = kd := eK
  have l : jd_78_l2 T md (some c) 0 (hh s Q I) = some (hh s Q (ims I (T + 5) (wf (fun i => i) (fun i _ => if ¬ jw (jd_77 md i) = 0 then I c i else if md = 0 ∧ kd = 1 ∧ i < 2 then I (T + 6) i else 0) (I (T + 5)) 4))) := by
    have := lpC (f := fun u : (Int × jH) => jd_78_s2 T md (some c) u.1 u.2) (ct := fun k => k) (ix := fun i => i) (v := fun i _ => if ¬ jw (jd_77 md i) = 0 then I c i else if md = 0 ∧ kd = 1 ∧ i < 2 then I (T + 6) i else 0) (J := I) (a := T + 5) (s := s) (Q := Q) 4 (fun k G hk => by
      dsimp only
      have e1 : ims I (T + 5) G c = I c := ims_o cT
      have e2 : ims I (T + 5) G (T + 6) = I (T + 6) := ims_o (by omega)
      have e3 : ims I (T + 5) G T ((0 : Nat) : Int) = kd := by rw [ims_o (by omega)]; exact eK'
      have b29 : ∀ gu : Int, (gu = 1 ∧ (md = 0 ∧ kd = 1 ∧ (k : Int) < 2)) ∨ (gu = 0 ∧ ¬ (md = 0 ∧ kd = 1 ∧ (k : Int) < 2)) → jd_78_b29 T md (some c) (k : Int) gu (hh s Q (ims I (T + 5) G)) = some (.inl ((k : Int) + 1, hh s Q (ims I (T + 5) (jiu G (k : Int) (if ¬ jw (jd_77 md (k : Int)) = 0 then I c (k : Int) else if md = 0 ∧ kd = 1 ∧ (k : Int) < 2 then I (T + 6) (k : Int) else 0))))) := fun gu hgu => by
        unfold jd_78_b29 jd_78_b65
        rw [T_gr F, Option.bind_some]
        by_cases ct : jw (jd_77 md (k : Int)) = 0
        · rw [if_pos ct, if_neg (show ¬ ¬ jw (jd_77 md (k : Int)) = 0 from fun e => e ct)]
          rcases hgu with ⟨g1, g2⟩ | ⟨g1, g2⟩
          · rw [g1, if_neg (by decide), if_pos g2, T_gr F, Option.bind_some, q12, Option.bind_some, T_ai F h6 6 4 rfl rfl rfl rfl (by omega) (by omega), Option.bind_some, q11, Option.bind_some, T_ta F 5 4 rfl rfl rfl rfl (by omega) (by omega), Option.bind_some, ims_jms, e2]
          · rw [g1, if_pos (by decide), if_neg g2, q11, Option.bind_some, T_ta F 5 4 rfl rfl rfl rfl (by omega) (by omega), Option.bind_some, ims_jms]
        · rw [if_neg ct, if_pos ct, Option.bind_some, y_ai L h6 c 4 hc7 hc rfl (by omega) (by omega), Option.bind_some, q11, Option.bind_some, T_ta F 5 4 rfl rfl rfl rfl (by omega) (by omega), Option.bind_some, ims_jms, e1]
      unfold jd_78_s2
      rw [n_jw (z := (k : Int)) (by omega) (by omega), if_neg (by omega), n_jw (z := md) (by omega) (by omega)]
      by_cases c0 : md = 0
      · rw [if_pos c0, T_gi F, Option.bind_some, e3, n_jw (z := kd) (by omega) (by omega)]
        refine b29 _ ?_
        by_cases c1 : kd = 1
        · rw [if_pos c1]
          by_cases c2 : 2 ≤ (k : Int)
          · rw [if_pos c2]; exact Or.inr ⟨rfl, by omega⟩
          · rw [if_neg c2]; exact Or.inl ⟨rfl, by omega⟩
        · rw [if_neg c1]; exact Or.inr ⟨rfl, by omega⟩
      · rw [if_neg c0]
        exact b29 0 (Or.inr ⟨rfl, by omega⟩)) (fun G => by
      dsimp only
      unfold jd_78_s2
      exact if_pos (by show (4 : Int) ≤ jw ((4 : Nat) : Int); decide)) (by decide) (I (T + 5))
    rw [ims_self] at this
    exact this
  refine ⟨wf (fun i => i) (fun i _ => if ¬ jw (jd_77 md i) = 0 then I c i else if md = 0 ∧ kd = 1 ∧ i < 2 then I (T + 6) i else 0) (I (T + 5)) 4, ?_, fun i i0 i1 => ?_⟩
  · unfold jd_78
    rw [l, Option.bind_some]
  · have := wf_k (ix := fun i => i) (v := fun i _ => if ¬ jw (jd_77 md i) = 0 then I c i else if md = 0 ∧ kd = 1 ∧ i < 2 then I (T + 6) i else 0) (g := I (T + 5)) (n := 4) (k := i.toNat) (by omega) (fun l _ _ => by omega)
    rw [show ((i.toNat : Nat) : Int) = i by omega] at this
    exact this
theorem c_119z (L : Lay s Q hm) : ∃ G, jd_119_l87 9 md 0 (hh s Q I) = some (hh s Q (ims I 15 G)) ∧ ∀ j : Int, 0 ≤ j → j < 96 → G j = 0 := by
  have q1 : Q 9 ((1 : Nat) : Int) = some 11 := Lq L rfl
  have q10 : Q 11 ((10 : Nat) : Int) = some 15 := Lq L rfl
  have l : jd_119_l87 9 md 0 (hh s Q I) = some (hh s Q (ims I 15 (wf (fun i => i) (fun _ _ => 0) (I 15) 96))) := by
    have := lpC (f := fun u : (Int × jH) => jd_119_s87 9 md u.1 u.2) (ct := fun k => k) (ix := fun i => i) (v := fun _ _ => 0) (J := I) (a := 15) (s := s) (Q := Q) 96 (fun k G hk => by
      dsimp only
      unfold jd_119_s87
      rw [n_jw (by omega) (by omega), if_neg (by omega), y_gr L 9 8 rfl rfl, Option.bind_some, q1, Option.bind_some, y_gr L 11 5 rfl rfl, Option.bind_some, q10, Option.bind_some, y_ta L 15 0 96 rfl rfl rfl (by omega) (by omega), Option.bind_some, ims_jms]) (fun G => by
      dsimp only
      unfold jd_119_s87
      exact if_pos (by show (96 : Int) ≤ jw ((96 : Nat) : Int); decide)) (by decide) (I 15)
    rw [ims_self] at this
    exact this
  refine ⟨wf (fun i => i) (fun _ _ => 0) (I 15) 96, l, fun j j0 j1 => ?_⟩
  have := wf_k (ix := fun i => i) (v := fun _ _ => 0) (g := I 15) (n := 96) (k := j.toNat) (by omega) (fun l _ _ => by omega)
  rw [show ((j.toNat : Nat) : Int) = j by omega] at this
  exact this
theorem c_118 (L : Lay s Q hm) (h6 : s.1 ≤ 1000000) (lb : ∀ j : Int, 0 ≤ j → j < 96 → -4095 ≤ I 15 j ∧ I 15 j ≤ 4095) (ha : a < s.1) (ht : s.2.2.1 a = 0) (hl : s.2.2.2 a = 756) (na : a ≠ 16) {z way bc : Int} (z0 : 0 ≤ z) (z1 : z + 7 ≤ 756) : ∃ G, jd_118 9 (some a) z way bc (hh s Q I) = some (hh s Q (ims I a G)) ∧ G z = way ∧ (∀ i : Int, 0 ≤ i → i < 4 → G (z + 1 + i) = I 16 i) ∧ G (z + 5) = lcs (I 15) 6 ∧ G (z + 6) = bc ∧ ∀ j : Int, j < z ∨ z + 7 ≤ j → G j = I a j := by
  have F := PtC_11 L
  have q1 : Q 9 ((1 : Nat) : Int) = some 11 := Lq L rfl
  have q11 : Q 11 ((11 : Nat) : Int) = some 16 := Lq L rfl
  have hl' : s.2.2.2 a ≤ 1000000 := by rw [hl]; decide
  have wr : ∀ (J : jM) (y x : Int), 0 ≤ y → y < 756 → jta (hh s Q J) a 0 y x = some (hh s Q (jms J a y x)) := fun J y x y0 y1 => x_ta ha ht y0 (by rw [hl]; exact y1) hl'
  have lv : jd_118_l6 9 (some a) z way bc 0 0 (hh s Q I) = some (lcs (I 15) 6) := by
    unfold jd_118_l6
    exact w_for (f := fun u : (Int × Int) => jd_118_s6 9 (some a) z way bc u.1 u.2 (hh s Q I)) (fun k => (lcs (I 15) k, (k : Int))) 6 (x := lcs (I 15) 6) (fun k hk => by
      unfold jd_118_s6
      dsimp only
      have e := c_89 (I := I) (b := (k : Int)) F h6 (by omega) (by omega) lb
      rw [n_jw (by omega) (by omega), if_neg (by omega), y_gr L 9 8 rfl rfl, Option.bind_some, q1, Option.bind_some, y_ck L 11 5 rfl rfl, Option.bind_some, e, Option.bind_some, lcs_s, show ((k + 1 : Nat) : Int) = (k : Int) + 1 by omega]) (by
      unfold jd_118_s6
      exact if_pos (by show (6 : Int) ≤ jw ((6 : Nat) : Int); decide)) (n_fu (by decide))
  have l2 : jd_118_l40 9 (some a) z bc (lcs (I 15) 6) 0 (hh s Q (jms I a z way)) = some (hh s Q (ims I a (wf (fun i => z + 1 + i) (fun i _ => I 16 i) (jiu (I a) z way) 4))) := by
    have := lpC (f := fun u : (Int × jH) => jd_118_s40 9 (some a) z bc (lcs (I 15) 6) u.1 u.2) (ct := fun k => k) (ix := fun i => z + 1 + i) (v := fun i _ => I 16 i) (J := I) (a := a) (s := s) (Q := Q) 4 (fun k G hk => by
      dsimp only
      unfold jd_118_s40
      have e1 : ims I a G 16 = I 16 := ims_o (fun e => na e.symm)
      rw [n_jw (by omega) (by omega), if_neg (by omega), y_gr L 9 8 rfl rfl, Option.bind_some, q1, Option.bind_some, y_gr L 11 5 rfl rfl, Option.bind_some, q11, Option.bind_some, y_ai L h6 16 4 rfl rfl rfl (by omega) (by omega), Option.bind_some, Option.bind_some, wr _ _ _ (by omega) (by omega), Option.bind_some, ims_jms, e1]) (fun G => by
      dsimp only
      unfold jd_118_s40
      exact if_pos (by show (4 : Int) ≤ jw ((4 : Nat) : Int); decide)) (by decide) (jiu (I a) z way)
    have e : ims I a (jiu (I a) z way) = jms I a z way := by
      funext x
      unfold ims jms
      rfl
    rw [e] at this
    exact this
  obtain ⟨G4, hG4⟩ : ∃ G, G = wf (fun i => z + 1 + i) (fun i _ => I 16 i) (jiu (I a) z way) 4 := ⟨_, rfl⟩
  rw [← hG4] at l2
  refine ⟨jiu (jiu G4 (z + 5) (lcs (I 15) 6)) (z + 6) bc, ?_, ?_, fun i i0 i1 => ?_, ?_, jiu_e, fun j hj => ?_⟩
  · unfold jd_118
    rw [lv, Option.bind_some, Option.bind_some, wr _ _ _ (by omega) (by omega), Option.bind_some, l2, Option.bind_some, Option.bind_some, wr _ _ _ (by omega) (by omega), Option.bind_some, Option.bind_some, wr _ _ _ (by omega) (by omega), Option.bind_some, ims_jms, ims_jms]
  · rw [jiu_o (by omega), jiu_o (by omega), hG4, wf_o (fun l hl => by omega), jiu_e]
  · have := wf_k (ix := fun i => z + 1 + i) (v := fun i _ => I 16 i) (g := jiu (I a) z way) (n := 4) (k := i.toNat) (by omega) (fun l _ _ => by omega)
    rw [show ((i.toNat : Nat) : Int) = i by omega] at this
    rw [jiu_o (by omega), jiu_o (by omega), hG4]
    exact this
  · rw [jiu_o (by omega), jiu_e]
  · rw [jiu_o (by omega), jiu_o (by omega), hG4, wf_o (fun l hl => by omega), jiu_o (by omega)]
end Small
