/-! making: the order of a group, the outer loop, both sides -/
section LayO
variable {s : hS} {Q : hQ} {hm : hO} {I I0 m m0 : jM} {a : Nat} {f g p n c d : Int}
theorem k_293s (e32 : m 76 32 = m0 76 32) (e82 : m 82 = m0 82) (n1 : n ≤ 12) (n0 : 1 ≤ n) (d0 : 0 ≤ d) (d1 : d ≤ 1000) (hd : (jw (m0 76 32) = 0 ∧ m0 82 2 = d) ∨ (¬ jw (m0 76 32) = 0 ∧ d = 0)) {x2 x3 : Int} (x0 : 0 ≤ x3) (x1 : x3 ≤ n) : jd_293_s14 n x2 x3 m = if n ≤ x3 then some (.inr m) else if x3 % (d + 1) = 0 ∨ x3 = n - 1 then jd_293_b51 n x2 x3 1 m else some (.inl (x2, x3 + 1, m)) := by
  unfold jd_293_s14
  rw [n_jw (z := n) (by omega) (by omega), n_jw (z := x3) (by omega) (by omega)]
  by_cases c1 : n ≤ x3
  · rw [if_pos c1, if_pos c1]
  · rw [if_neg c1, if_neg c1, e32]
    rcases hd with ⟨h1, h2⟩ | ⟨h1, h2⟩
    · have nz : jnz (d + 1) = some () := by
        unfold jnz
        rw [n_jw (z := d + 1) (by omega) (by omega), if_neg (by omega)]
      have rm := n_rem (z := x3) (c := d + 1) x0 (by omega) (by omega) (by omega)
      have rb : 0 ≤ x3 % (d + 1) ∧ x3 % (d + 1) ≤ x3 := ⟨Int.emod_nonneg _ (by omega), by
        have e1 := Int.mul_ediv_add_emod x3 (d + 1)
        have e2 : 0 ≤ (d + 1) * (x3 / (d + 1)) := Int.mul_nonneg (by omega) (Int.ediv_nonneg x0 (by omega))
        omega⟩
      obtain ⟨r, hr⟩ : ∃ r, x3 % (d + 1) = r := ⟨_, rfl⟩
      rw [hr] at rm rb ⊢
      rw [if_pos h1, y_ma 82 8 rfl rfl (by decide) (by decide), Option.bind_some, e82, h2, nz, Option.bind_some, rm, n_jw (z := r) (by omega) (by omega), n_jw (z := n - 1) (by omega) (by omega)]
      by_cases c2 : r = 0
      · rw [if_pos c2, if_pos (Or.inl c2)]
      · rw [if_neg c2]
        by_cases c3 : x3 = n - 1
        · rw [if_pos c3, if_pos (Or.inr c3)]
        · rw [if_neg c3, if_neg (by omega)]
          unfold jd_293_b51
          rw [if_pos (by decide)]
          rfl
    · rw [if_neg h1, if_pos (Or.inl (by rw [h2]; omega))]
      unfold jd_293_b51
      rw [if_neg (show ¬ jw 1 = 0 by decide), n_jw (z := x3) (by omega) (by omega)]
theorem lay_out (F : FilmAt s Q hm a f) (p0 : 0 ≤ p) (pn : p + n ≤ 12) (n0 : 1 ≤ n) (d0 : 0 ≤ d) (d1 : d ≤ 1000) (hd : (jw (m0 76 32) = 0 ∧ m0 82 2 = d) ∨ (¬ jw (m0 76 32) = 0 ∧ d = 0)) (R : LR I0 m0 I m a p g n 1) {fu : Nat} (hfu : 20 < fu) : ∃ I' m' : jM, jd_64_l25 (some a) g n d p 0 1 (hh s Q I) = some (hh s Q I') ∧ jlp (fun u : (Int × Int × jM) => jd_293_s14 n u.1 u.2.1 u.2.2) fu (0, 1, m) = some m' ∧ LR I0 m0 I' m' a p g n n := by
  have q7 := F_q F 0 7 rfl rfl
  have q8 := F_q F 1 8 rfl rfl
  have step : ∀ (t : Nat) (u : Int × Int × Int × jH) (v : Int × Int × jM), t ≤ (n - 1).toNat → (∃ (It mt : jM) (x6 x7 : Int), u = (p + x6, x6, x7, hh s Q It) ∧ v = (x6, x7, mt) ∧ x7 = (t : Int) + 1 ∧ 0 ≤ x6 ∧ x6 < x7 ∧ (x7 = n → x6 = n - 1) ∧ LR I0 m0 It mt a p g n (x6 + 1) ∧ ∀ i : Int, 0 ≤ i → i < x6 + 1 → mt 103 i < x6 + 1) → (∃ u' v', (fun u : (Int × Int × Int × jH) => jd_64_s25 (some a) g n d u.1 u.2.1 u.2.2.1 u.2.2.2) u = some (.inl u') ∧ (fun u : (Int × Int × jM) => jd_293_s14 n u.1 u.2.1 u.2.2) v = some (.inl v') ∧ t < (n - 1).toNat ∧ (∃ (It mt : jM) (x6 x7 : Int), u' = (p + x6, x6, x7, hh s Q It) ∧ v' = (x6, x7, mt) ∧ x7 = ((t + 1 : Nat) : Int) + 1 ∧ 0 ≤ x6 ∧ x6 < x7 ∧ (x7 = n → x6 = n - 1) ∧ LR I0 m0 It mt a p g n (x6 + 1) ∧ ∀ i : Int, 0 ≤ i → i < x6 + 1 → mt 103 i < x6 + 1)) ∨ (∃ x y, (fun u : (Int × Int × Int × jH) => jd_64_s25 (some a) g n d u.1 u.2.1 u.2.2.1 u.2.2.2) u = some (.inr x) ∧ (fun u : (Int × Int × jM) => jd_293_s14 n u.1 u.2.1 u.2.2) v = some (.inr y) ∧ ∃ I' : jM, x = hh s Q I' ∧ LR I0 m0 I' y a p g n n) := by
    intro t u v ht J
    obtain ⟨It, mt, x6, x7, rfl, rfl, h7, h60, h67, h7n, Rt, St⟩ := J
    show (∃ u' v', jd_64_s25 (some a) g n d (p + x6) x6 x7 (hh s Q It) = some (.inl u') ∧ jd_293_s14 n x6 x7 mt = some (.inl v') ∧ t < (n - 1).toNat ∧ _) ∨ (∃ x y, jd_64_s25 (some a) g n d (p + x6) x6 x7 (hh s Q It) = some (.inr x) ∧ jd_293_s14 n x6 x7 mt = some (.inr y) ∧ _)
    have ms := k_293s (x2 := x6) (x3 := x7) (m := mt) (m0 := m0) (Rt.2.2.2.2.2.2.1 32 (by decide)) (Rt.2.2.2.2.2.1 82 (by decide) (by decide) (by decide)) (by omega) n0 d0 d1 hd (by omega) (by omega)
    rw [ms]
    have nz : jnz (d + 1) = some () := by
      unfold jnz
      rw [n_jw (z := d + 1) (by omega) (by omega), if_neg (by omega)]
    have rm := n_rem (z := x7) (c := d + 1) (by omega) (by omega) (by omega) (by omega)
    have rb : 0 ≤ x7 % (d + 1) ∧ x7 % (d + 1) ≤ x7 := ⟨Int.emod_nonneg _ (by omega), by
      have e1 := Int.mul_ediv_add_emod x7 (d + 1)
      have e2 : 0 ≤ (d + 1) * (x7 / (d + 1)) := Int.mul_nonneg (by omega) (Int.ediv_nonneg (by omega) (by omega))
      omega⟩
    obtain ⟨r, hr⟩ : ∃ r, x7 % (d + 1) = r := ⟨_, rfl⟩
    rw [hr] at rm rb ⊢
    clear ms
    by_cases c1 : n ≤ x7
    · have e7 : x7 = n := by omega
      refine Or.inr ⟨hh s Q It, mt, ?_, by rw [if_pos c1], It, rfl, ?_⟩
      · unfold jd_64_s25
        rw [n_jw (z := n) (by omega) (by omega), n_jw (z := x7) (by omega) (by omega), if_pos c1]
      · rw [show x6 + 1 = n by have := h7n e7; omega] at Rt
        exact Rt
    · rw [if_neg c1]
      have cs : jd_64_s25 (some a) g n d (p + x6) x6 x7 (hh s Q It) = if r = 0 ∨ x7 = n - 1 then jd_64_b49 (some a) g n d (p + x6) x6 x7 (hh s Q It) else some (.inl (p + x6, x6, x7 + 1, hh s Q It)) := by
        unfold jd_64_s25
        rw [n_jw (z := n) (by omega) (by omega), n_jw (z := x7) (by omega) (by omega), if_neg c1, nz, Option.bind_some, rm, n_jw (z := r) (by omega) (by omega), n_jw (z := n - 1) (by omega) (by omega)]
        by_cases c2 : r = 0
        · rw [if_pos c2, if_pos (Or.inl c2)]
        · rw [if_neg c2]
          by_cases c3 : x7 = n - 1
          · rw [if_pos c3, if_pos (Or.inr c3)]
          · rw [if_neg c3, if_neg (by omega)]
            rfl
      rw [cs]
      by_cases cd : r = 0 ∨ x7 = n - 1
      · rw [if_pos cd, if_pos cd]
        obtain ⟨I1, hI1⟩ : ∃ z, z = jms (jms It (a + 1) (p + (x6 + 1)) 1) (a + 2) (p + (x6 + 1)) (g + x7) := ⟨_, rfl⟩
        obtain ⟨m1, hm1⟩ : ∃ z, z = jms (jms (jms mt 102 (x6 + 1) 1) 103 (x6 + 1) x7) 76 35 (x6 + 1 + 1) := ⟨_, rfl⟩
        have R1 : LR I0 m0 I1 m1 a p g n (x6 + 2) := by
          rw [hI1, hm1, show x6 + 2 = x6 + 1 + 1 by omega]
          exact LR_w Rt (by omega) (by omega) ⟨by omega, by omega⟩ (Or.inl ⟨rfl, by omega, St⟩)
        have z103 : ∀ z : Int, z ≠ x6 + 1 → m1 103 z = mt 103 z := fun z hz => by rw [hm1, jms_o (by decide), jms_i hz, jms_o (by decide)]
        have a102 : m1 102 (x6 + 1) = 1 := by rw [hm1, jms_o (by decide), jms_o (by decide), jms_e]
        have a103 : m1 103 (x6 + 1) = x7 := by rw [hm1, jms_o (by decide), jms_e]
        have m35 : mt 76 35 = x6 + 1 := Rt.1
        obtain ⟨I', m', l1, l2, R', S'⟩ := lay_in (x1 := n) (x3 := n) (x4 := d) F p0 pn h60 h67 (by omega) R1 (by
          rw [show (x6 + 2).toNat = (x6 + 1).toNat + 1 by omega, anc_s, if_neg (by omega), show (((x6 + 1).toNat : Nat) : Int) = x6 + 1 by omega, if_pos (by rw [a102]; decide)]) a103 (fun i i0 i1 => by
          by_cases e : i = x6 + 1
          · rw [e, a103]
            omega
          · rw [z103 i e]
            have := St i i0 (by omega)
            omega)
        refine Or.inl ⟨(p + x7, x7, x7 + 1, hh s Q I'), (x7, x7 + 1, m'), ?_, ?_, by omega, I', m', x7, x7 + 1, rfl, rfl, by omega, by omega, by omega, by omega, R', S'⟩
        · unfold jd_64_b49
          rw [Option.bind_some, F_gr F, Option.bind_some, q7, Option.bind_some, show p + x6 + 1 = p + (x6 + 1) by omega, F_ta F 1 0 12 rfl rfl rfl (by omega) (by omega), Option.bind_some, Option.bind_some, F_gr F, Option.bind_some, q8, Option.bind_some, F_ta F 2 0 12 rfl rfl rfl (by omega) (by omega), Option.bind_some, show jms (jms It (a + (0 + 1)) (p + (x6 + 1)) 1) (a + (1 + 1)) (p + (x6 + 1)) (g + x7) = I1 from hI1.symm, show p + (x6 + 1) = p + x6 + 1 by omega, l1, Option.bind_some]
          rfl
        · unfold jd_293_b51
          have v1 : jms mt 102 (x6 + 1) 1 76 35 = x6 + 1 := by rw [jms_o (by decide)]; exact m35
          have v2 : jms (jms mt 102 (x6 + 1) 1) 103 (x6 + 1) x7 76 35 = x6 + 1 := by rw [jms_o (by decide)]; exact v1
          rw [if_neg (by decide), n_jw (z := x7) (by omega) (by omega), if_neg (show ¬ x7 = 0 by omega), m35, y_mw 102 12 rfl rfl (by omega) (by omega), Option.bind_some, v1, y_mw 103 12 rfl rfl (by omega) (by omega), Option.bind_some, v2, Option.bind_some, ← hm1, l2, Option.bind_some]
          rfl
      · rw [if_neg cd, if_neg cd]
        refine Or.inl ⟨(p + x6, x6, x7 + 1, hh s Q It), (x6, x7 + 1, mt), rfl, rfl, by omega, It, mt, x6, x7 + 1, rfl, rfl, by omega, h60, by omega, by omega, Rt, St⟩
  unfold jd_64_l25
  obtain ⟨x, y, e1, e2, I', hx, R'⟩ := w_lp2 (f := fun u : (Int × Int × Int × jH) => jd_64_s25 (some a) g n d u.1 u.2.1 u.2.2.1 u.2.2.2) (g := fun u : (Int × Int × jM) => jd_293_s14 n u.1 u.2.1 u.2.2) (Q := fun x y => ∃ I' : jM, x = hh s Q I' ∧ LR I0 m0 I' y a p g n n) (fun t u v => ∃ (It mt : jM) (x6 x7 : Int), u = (p + x6, x6, x7, hh s Q It) ∧ v = (x6, x7, mt) ∧ x7 = (t : Int) + 1 ∧ 0 ≤ x6 ∧ x6 < x7 ∧ (x7 = n → x6 = n - 1) ∧ LR I0 m0 It mt a p g n (x6 + 1) ∧ ∀ i : Int, 0 ≤ i → i < x6 + 1 → mt 103 i < x6 + 1) (n - 1).toNat step (n_fu (by omega)) (fv := fu) (by omega) (s0 := (p, 0, 1, hh s Q I)) (t0 := (0, 1, m)) ⟨I, m, 0, 1, by rw [Int.add_zero], rfl, by omega, by decide, by decide, by omega, R, fun i i0 i1 => by
    rw [show i = 0 by omega, R.2.2.1.2.1]
    decide⟩
  exact ⟨I', y, by rw [e1, hx], e2, R'⟩
end LayO
