/-! making: the order of a group, both sides -/
section LayG
variable {s : hS} {Q : hQ} {hm : hO} {I I0 m m0 : jM} {a : Nat} {f g p n c d : Int} {M S M' S' : Int → Int}
def LG (M S : Int → Int) (n c : Int) : Prop := M 0 = 0 ∧ S 0 = 0 ∧ ∀ j : Int, 1 ≤ j → j < c → (0 ≤ S j ∧ S j < n) ∧ ((M j = 1 ∧ j ≤ S j ∧ ∀ i : Int, 0 ≤ i → i < j → S i < j) ∨ (M j = 2 ∧ S j = j - 1 ∧ 1 ≤ anc M 0 j.toNat ∧ j ≤ S (anc M 0 j.toNat)))
theorem LG_w (G : LG M S n c) (c1 : 1 ≤ c) {v u : Int} (u0 : 0 ≤ u ∧ u < n) (hv : (v = 1 ∧ c ≤ u ∧ ∀ i : Int, 0 ≤ i → i < c → S i < c) ∨ (v = 2 ∧ u = c - 1 ∧ 1 ≤ anc M 0 c.toNat ∧ c ≤ S (anc M 0 c.toNat))) (m1 : ∀ j : Int, j ≠ c → M' j = M j) (m2 : M' c = v) (s1 : ∀ j : Int, j ≠ c → S' j = S j) (s2 : S' c = u) : LG M' S' n (c + 1) := by
  obtain ⟨g1, g2, g3⟩ := G
  refine ⟨by rw [m1 0 (by omega)]; exact g1, by rw [s1 0 (by omega)]; exact g2, fun j j0 j1 => ?_⟩
  have an : anc M' 0 j.toNat = anc M 0 j.toNat := anc_c (fun i i0 i1 => m1 i (by omega))
  have ar := anc_r (K := M) (fr := 0) j.toNat
  rw [an, s1 (anc M 0 j.toNat) (by omega)]
  by_cases e : j = c
  · subst e
    rw [m2, s2]
    refine ⟨u0, ?_⟩
    rcases hv with ⟨e1, e2, e3⟩ | e
    · exact Or.inl ⟨e1, e2, fun i i0 i1 => by rw [s1 i (by omega)]; exact e3 i i0 i1⟩
    · exact Or.inr e
  · rw [m1 j e, s1 j e]
    obtain ⟨h1, h2⟩ := g3 j j0 (by omega)
    refine ⟨h1, ?_⟩
    rcases h2 with ⟨e1, e2, e3⟩ | h2
    · exact Or.inl ⟨e1, e2, fun i i0 i1 => by rw [s1 i (by omega)]; exact e3 i i0 i1⟩
    · exact Or.inr h2
/-- a group laid as far as c, on both sides -/
def LR (I0 m0 I m : jM) (a : Nat) (p g n c : Int) : Prop := m 76 35 = c ∧ (∀ j : Int, 0 ≤ j → j < c → I (a + 1) (p + j) = m 102 j ∧ I (a + 2) (p + j) = g + m 103 j) ∧ LG (m 102) (m 103) n c ∧ (∀ x : Nat, x ≠ a + 1 → x ≠ a + 2 → I x = I0 x) ∧ (∀ z : Int, z < p ∨ p + n ≤ z → I (a + 1) z = I0 (a + 1) z ∧ I (a + 2) z = I0 (a + 2) z) ∧ (∀ x : Nat, x ≠ 76 → x ≠ 102 → x ≠ 103 → m x = m0 x) ∧ (∀ z : Int, z ≠ 35 → m 76 z = m0 76 z) ∧ ∀ z : Int, z < 0 ∨ n ≤ z → m 102 z = m0 102 z ∧ m 103 z = m0 103 z
theorem LR_w (R : LR I0 m0 I m a p g n c) (c1 : 1 ≤ c) (cn : c < n) {v u : Int} (u0 : 0 ≤ u ∧ u < n) (hv : (v = 1 ∧ c ≤ u ∧ ∀ i : Int, 0 ≤ i → i < c → m 103 i < c) ∨ (v = 2 ∧ u = c - 1 ∧ 1 ≤ anc (m 102) 0 c.toNat ∧ c ≤ m 103 (anc (m 102) 0 c.toNat))) : LR I0 m0 (jms (jms I (a + 1) (p + c) v) (a + 2) (p + c) (g + u)) (jms (jms (jms m 102 c v) 103 c u) 76 35 (c + 1)) a p g n (c + 1) := by
  obtain ⟨r1, r2, r3, r4, r5, r6, r7, r8⟩ := R
  have e102 : ∀ z : Int, jms (jms (jms m 102 c v) 103 c u) 76 35 (c + 1) 102 z = jms m 102 c v 102 z := fun z => by rw [jms_o (by decide), jms_o (by decide)]
  have e103 : ∀ z : Int, jms (jms (jms m 102 c v) 103 c u) 76 35 (c + 1) 103 z = jms m 103 c u 103 z := fun z => by
    rw [jms_o (by decide)]
    by_cases e : z = c
    · rw [e, jms_e, jms_e]
    · rw [jms_i e, jms_i e, jms_i e]
  have i1 : ∀ z : Int, jms (jms I (a + 1) (p + c) v) (a + 2) (p + c) (g + u) (a + 1) z = jms I (a + 1) (p + c) v (a + 1) z := fun z => by rw [jms_o (by omega)]
  have i2 : ∀ z : Int, z ≠ p + c → jms (jms I (a + 1) (p + c) v) (a + 2) (p + c) (g + u) (a + 2) z = I (a + 2) z := fun z hz => by rw [jms_i hz, jms_o (by omega)]
  refine ⟨jms_e, fun j j0 j1 => ?_, LG_w r3 c1 u0 hv (fun j hj => by rw [e102, jms_i hj]) (by rw [e102, jms_e]) (fun j hj => by rw [e103, jms_i hj]) (by rw [e103, jms_e]), fun x x1 x2 => by rw [jms_o x2, jms_o x1]; exact r4 x x1 x2, fun z hz => ?_, fun x x1 x2 x3 => by rw [jms_o x1, jms_o x3, jms_o x2]; exact r6 x x1 x2 x3, fun z hz => by rw [jms_i hz, jms_o (by decide), jms_o (by decide)]; exact r7 z hz, fun z hz => ?_⟩
  · rw [i1, e102, e103]
    by_cases e : j = c
    · rw [e, jms_e, jms_e, jms_e, jms_e]
      exact ⟨rfl, rfl⟩
    · rw [jms_i (by omega), jms_i e, jms_i e, i2 _ (by omega)]
      exact r2 j j0 (by omega)
  · rw [i1, jms_i (by omega), i2 z (by omega)]
    exact r5 z hz
  · rw [e102, e103, jms_i (by omega), jms_i (by omega)]
    exact r8 z hz
theorem lay_in (F : FilmAt s Q hm a f) (p0 : 0 ≤ p) (pn : p + n ≤ 12) {x3 x4 x6 x7 : Int} (h6 : 0 ≤ x6) (h67 : x6 < x7) (h7n : x7 < n) (R : LR I0 m0 I m a p g n (x6 + 2)) (hA : anc (m 102) 0 (x6 + 2).toNat = x6 + 1) (hS : m 103 (x6 + 1) = x7) (hle : ∀ i : Int, 0 ≤ i → i < x6 + 2 → m 103 i ≤ x7) {x1 : Int} : ∃ I' m' : jM, jd_64_l77 (some a) g x3 x4 x7 (p + x6 + 1) (x6 + 1) (hh s Q I) = some (p + x7, hh s Q I') ∧ jd_293_l104 x1 x7 (x6 + 1) m = some m' ∧ LR I0 m0 I' m' a p g n (x7 + 1) ∧ ∀ i : Int, 0 ≤ i → i < x7 + 1 → m' 103 i < x7 + 1 := by
  have q7 := F_q F 0 7 rfl rfl
  have q8 := F_q F 1 8 rfl rfl
  have step : ∀ (t : Nat) (u : Int × Int × jH) (v : Int × jM), t ≤ (x7 - x6 - 1).toNat → (∃ (It mt : jM), u = (p + (x6 + 1 + (t : Int)), x6 + 1 + (t : Int), hh s Q It) ∧ v = (x6 + 1 + (t : Int), mt) ∧ LR I0 m0 It mt a p g n (x6 + 2 + (t : Int)) ∧ anc (mt 102) 0 (x6 + 2 + (t : Int)).toNat = x6 + 1 ∧ mt 103 (x6 + 1) = x7 ∧ ∀ i : Int, 0 ≤ i → i < x6 + 2 + (t : Int) → mt 103 i ≤ x7) → (∃ u' v', (fun u : (Int × Int × jH) => jd_64_s77 (some a) g x3 x4 x7 u.1 u.2.1 u.2.2) u = some (.inl u') ∧ (fun u : (Int × jM) => jd_293_s104 x1 x7 u.1 u.2) v = some (.inl v') ∧ t < (x7 - x6 - 1).toNat ∧ (∃ (It mt : jM), u' = (p + (x6 + 1 + ((t + 1 : Nat) : Int)), x6 + 1 + ((t + 1 : Nat) : Int), hh s Q It) ∧ v' = (x6 + 1 + ((t + 1 : Nat) : Int), mt) ∧ LR I0 m0 It mt a p g n (x6 + 2 + ((t + 1 : Nat) : Int)) ∧ anc (mt 102) 0 (x6 + 2 + ((t + 1 : Nat) : Int)).toNat = x6 + 1 ∧ mt 103 (x6 + 1) = x7 ∧ ∀ i : Int, 0 ≤ i → i < x6 + 2 + ((t + 1 : Nat) : Int) → mt 103 i ≤ x7)) ∨ (∃ x y, (fun u : (Int × Int × jH) => jd_64_s77 (some a) g x3 x4 x7 u.1 u.2.1 u.2.2) u = some (.inr x) ∧ (fun u : (Int × jM) => jd_293_s104 x1 x7 u.1 u.2) v = some (.inr y) ∧ ∃ I' : jM, x = (p + x7, hh s Q I') ∧ LR I0 m0 I' y a p g n (x7 + 1) ∧ ∀ i : Int, 0 ≤ i → i < x7 + 1 → y 103 i < x7 + 1) := by
    intro t u v ht J
    obtain ⟨It, mt, rfl, rfl, Rt, At, St, Lt'⟩ := J
    show (∃ u' v', jd_64_s77 (some a) g x3 x4 x7 (p + (x6 + 1 + (t : Int))) (x6 + 1 + (t : Int)) (hh s Q It) = some (.inl u') ∧ jd_293_s104 x1 x7 (x6 + 1 + (t : Int)) mt = some (.inl v') ∧ t < (x7 - x6 - 1).toNat ∧ _) ∨ (∃ x y, jd_64_s77 (some a) g x3 x4 x7 (p + (x6 + 1 + (t : Int))) (x6 + 1 + (t : Int)) (hh s Q It) = some (.inr x) ∧ jd_293_s104 x1 x7 (x6 + 1 + (t : Int)) mt = some (.inr y) ∧ _)
    obtain ⟨c, hc⟩ : ∃ c : Int, c = x6 + 2 + (t : Int) := ⟨_, rfl⟩
    have e8 : x6 + 1 + (t : Int) = c - 1 := by omega
    have e9 : x6 + 2 + ((t + 1 : Nat) : Int) = c + 1 := by omega
    have e10 : x6 + 1 + ((t + 1 : Nat) : Int) = c := by omega
    rw [e8, e9, e10]
    rw [← hc] at Rt At Lt'
    have m35 := Rt.1
    by_cases cc : c - 1 < x7
    · obtain ⟨It', hIt⟩ : ∃ z, z = jms (jms It (a + 1) (p + c) 2) (a + 2) (p + c) (g + (c - 1)) := ⟨_, rfl⟩
      obtain ⟨mt', hmt⟩ : ∃ z, z = jms (jms (jms mt 102 c 2) 103 c (c - 1)) 76 35 (c + 1) := ⟨_, rfl⟩
      have R' : LR I0 m0 It' mt' a p g n (c + 1) := by
        rw [hIt, hmt]
        exact LR_w Rt (by omega) (by omega) ⟨by omega, by omega⟩ (Or.inr ⟨rfl, rfl, by rw [At]; omega, by rw [At, St]; omega⟩)
      have z102 : ∀ z : Int, z ≠ c → mt' 102 z = mt 102 z := fun z hz => by rw [hmt, jms_o (by decide), jms_o (by decide), jms_i hz]
      have z103 : ∀ z : Int, z ≠ c → mt' 103 z = mt 103 z := fun z hz => by rw [hmt, jms_o (by decide), jms_i hz, jms_o (by decide)]
      have a102 : mt' 102 c = 2 := by rw [hmt, jms_o (by decide), jms_o (by decide), jms_e]
      have a103 : mt' 103 c = c - 1 := by rw [hmt, jms_o (by decide), jms_e]
      refine Or.inl ⟨(p + c, c, hh s Q It'), (c, mt'), ?_, ?_, by omega, It', mt', rfl, rfl, R', ?_, by rw [z103 _ (by omega)]; exact St, fun i i0 i1 => ?_⟩
      · unfold jd_64_s77
        rw [n_jw (z := x7) (by omega) (by omega), n_jw (z := c - 1) (by omega) (by omega), if_neg (by omega), Option.bind_some, F_gr F, Option.bind_some, q7, Option.bind_some, show p + (c - 1) + 1 = p + c by omega, F_ta F 1 0 12 rfl rfl rfl (by omega) (by omega), Option.bind_some, Option.bind_some, F_gr F, Option.bind_some, q8, Option.bind_some, F_ta F 2 0 12 rfl rfl rfl (by omega) (by omega), Option.bind_some, show c - 1 + 1 = c by omega, hIt]
      · unfold jd_293_s104
        have v1 : jms mt 102 c 2 76 35 = c := by rw [jms_o (by decide)]; exact m35
        have v2 : jms (jms mt 102 c 2) 103 c (c - 1) 76 35 = c := by rw [jms_o (by decide)]; exact v1
        rw [n_jw (z := x7) (by omega) (by omega), n_jw (z := c - 1) (by omega) (by omega), if_neg (by omega), m35, y_mw 102 12 rfl rfl (by omega) (by omega), Option.bind_some, v1, y_mw 103 12 rfl rfl (by omega) (by omega), Option.bind_some, v2, Option.bind_some, show c - 1 + 1 = c by omega, hmt]
      · have : anc (mt' 102) 0 (c + 1).toNat = anc (mt 102) 0 c.toNat := by
          rw [show (c + 1).toNat = c.toNat + 1 by omega, anc_s, if_neg (by omega), show ((c.toNat : Nat) : Int) = c by omega, if_neg (by rw [a102]; decide)]
          exact anc_c (fun i i0 i1 => z102 i (by omega))
        rw [this]
        exact At
      · by_cases e : i = c
        · rw [e, a103]
          omega
        · rw [z103 i e]
          exact Lt' i i0 (by omega)
    · have ec : c = x7 + 1 := by omega
      refine Or.inr ⟨(p + (c - 1), hh s Q It), mt, ?_, ?_, It, by rw [ec, show x7 + 1 - 1 = x7 by omega], by rw [← ec]; exact Rt, fun i i0 i1 => by have := Lt' i i0 (by omega); omega⟩
      · unfold jd_64_s77
        rw [n_jw (z := x7) (by omega) (by omega), n_jw (z := c - 1) (by omega) (by omega), if_pos (by omega)]
      · unfold jd_293_s104
        rw [n_jw (z := x7) (by omega) (by omega), n_jw (z := c - 1) (by omega) (by omega), if_pos (by omega)]
  unfold jd_64_l77 jd_293_l104
  obtain ⟨x, y, e1, e2, I', hx, R', L'⟩ := w_lp2 (f := fun u : (Int × Int × jH) => jd_64_s77 (some a) g x3 x4 x7 u.1 u.2.1 u.2.2) (g := fun u : (Int × jM) => jd_293_s104 x1 x7 u.1 u.2) (Q := fun x y => ∃ I' : jM, x = (p + x7, hh s Q I') ∧ LR I0 m0 I' y a p g n (x7 + 1) ∧ ∀ i : Int, 0 ≤ i → i < x7 + 1 → y 103 i < x7 + 1) (fun t u v => ∃ (It mt : jM), u = (p + (x6 + 1 + (t : Int)), x6 + 1 + (t : Int), hh s Q It) ∧ v = (x6 + 1 + (t : Int), mt) ∧ LR I0 m0 It mt a p g n (x6 + 2 + (t : Int)) ∧ anc (mt 102) 0 (x6 + 2 + (t : Int)).toNat = x6 + 1 ∧ mt 103 (x6 + 1) = x7 ∧ ∀ i : Int, 0 ≤ i → i < x6 + 2 + (t : Int) → mt 103 i ≤ x7) (x7 - x6 - 1).toNat step (n_fu (by omega)) (n_fu (by omega)) (s0 := (p + x6 + 1, x6 + 1, hh s Q I)) (t0 := (x6 + 1, m)) ⟨I, m, by rw [show p + (x6 + 1 + ((0 : Nat) : Int)) = p + x6 + 1 by omega, show x6 + 1 + ((0 : Nat) : Int) = x6 + 1 by omega], by rw [show x6 + 1 + ((0 : Nat) : Int) = x6 + 1 by omega], by rw [show x6 + 2 + ((0 : Nat) : Int) = x6 + 2 by omega]; exact R, by rw [show x6 + 2 + ((0 : Nat) : Int) = x6 + 2 by omega]; exact hA, hS, fun i i0 i1 => hle i i0 (by omega)⟩
  exact ⟨I', y, by rw [e1, hx], e2, R', L'⟩
end LayG
