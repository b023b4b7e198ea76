/-! making in runs: the samples of a run, both sides -/
section RunSm
variable {s : hS} {Q : hQ} {hm : hO} {I m : jM} {src : Nat} {n k pl N kd at' len B t8 : Int} {v an : Int → Int}
theorem smp_1 (h6 : s.1 ≤ 1000000) (P : PcC s Q src) (B0 : 0 ≤ B) (BN : B + N ≤ 864) (W : WM s Q I m n) (hv : ∀ j : Int, 0 ≤ j → j < N → I (src + 1) (B + j) = v j ∧ 0 ≤ v j ∧ v j ≤ 255) {j cnt : Int} (j0 : 0 ≤ j) (a0 : 0 ≤ at') (jc : j < cnt) (ac : at' + cnt ≤ N) (N1 : N ≤ 576) (hl : n + 8 ≤ 32000) : ∃ I' m', jd_126_s106 64 (some 43) (some src) B N at' t8 len cnt j (hh s Q I) = some (.inl (j + 1, hh s Q I')) ∧ jd_232 (v (at' + j)) 8 m = some m' ∧ WM s Q I' m' (n + 8) ∧ NW Q 43 I I' ∧ MW m m' := by
  obtain ⟨h1, h2, h3⟩ := hv (at' + j) (by omega) (by omega)
  obtain ⟨I', m', e1, e2, e3, e4, e5⟩ := wdig W h2 h3 hl
  have t2 : Q src ((2 : Nat) : Int) = some (src + 1) := P.2.2.2.2.2.2
  refine ⟨I', m', ?_, e2, e3, e4, e5⟩
  unfold jd_126_s106
  rw [n_jw (z := cnt) (by omega) (by omega), n_jw (z := j) (by omega) (by omega), if_neg (by omega), Option.bind_some, x_gr P.2.1 (c := 6) P.2.2.1, Option.bind_some, t2, Option.bind_some, x_ai P.2.2.2.1 h6 P.2.2.2.2.1 (by omega) (by rw [P.2.2.2.2.2.1]; omega) (by rw [P.2.2.2.2.2.1]; decide), Option.bind_some, show B + at' + j = B + (at' + j) by omega, h1, Option.bind_some, WM_ck W, Option.bind_some, e1, Option.bind_some]
theorem smp_e {j cnt : Int} (h : cnt = j) : jd_126_s106 64 (some 43) (some src) B N at' t8 len cnt j (hh s Q I) = some (.inr (hh s Q I)) := by
  unfold jd_126_s106
  rw [h, if_pos (Int.le_refl _)]
/-- all samples of a raw run -/
theorem smp_3 (h6 : s.1 ≤ 1000000) (hq : ∀ c, Q 43 0 = some c → 153 ≤ c ∧ c ≠ src + 1) (P : PcC s Q src) (B0 : 0 ≤ B) (BN : B + N ≤ 864) (W : WM s Q I m n) (hv : ∀ j : Int, 0 ≤ j → j < N → I (src + 1) (B + j) = v j ∧ 0 ≤ v j ∧ v j ≤ 255) (R : ∀ M' : jM, MW m M' → ∀ j : Int, 0 ≤ j → j < N → jd_287 k pl j M' = some (v j)) (a0 : 0 ≤ at') (l1 : 1 ≤ len) (al : at' + len ≤ N) (N1 : N ≤ 576) (h127 : m 127 at' = 3) (h128 : m 128 at' = len) (hl : n + 8 * len ≤ 32000) {x4 : Int} : ∃ I' m', jd_126_l106 64 (some 43) (some src) B N at' t8 len len 0 (hh s Q I) = some (hh s Q I') ∧ jd_289_l336 k pl x4 at' 0 m = some m' ∧ WM s Q I' m' (n + 8 * len) ∧ NW Q 43 I I' ∧ MW m m' := by
  have s153 := P.1
  have step : ∀ (t : Nat) (u : Int × jH) (w : Int × jM), t ≤ len.toNat → (∃ It mt : jM, u = ((t : Int), hh s Q It) ∧ w = ((t : Int), mt) ∧ WM s Q It mt (n + 8 * (t : Int)) ∧ NW Q 43 I It ∧ MW m mt) → (∃ u' w', (fun u : (Int × jH) => jd_126_s106 64 (some 43) (some src) B N at' t8 len len u.1 u.2) u = some (.inl u') ∧ (fun u : (Int × jM) => jd_289_s336 k pl x4 at' u.1 u.2) w = some (.inl w') ∧ t < len.toNat ∧ (∃ It mt : jM, u' = (((t + 1 : Nat) : Int), hh s Q It) ∧ w' = (((t + 1 : Nat) : Int), mt) ∧ WM s Q It mt (n + 8 * ((t + 1 : Nat) : Int)) ∧ NW Q 43 I It ∧ MW m mt)) ∨ (∃ x y, (fun u : (Int × jH) => jd_126_s106 64 (some 43) (some src) B N at' t8 len len u.1 u.2) u = some (.inr x) ∧ (fun u : (Int × jM) => jd_289_s336 k pl x4 at' u.1 u.2) w = some (.inr y) ∧ ∃ I' : jM, x = hh s Q I' ∧ WM s Q I' y (n + 8 * len) ∧ NW Q 43 I I' ∧ MW m y) := by
    intro t u w ht Y
    obtain ⟨It, mt, rfl, rfl, Wt, Nt, Mt⟩ := Y
    dsimp only
    have e128 : mt 128 at' = len := by rw [Mt.1 128 (by decide) (by decide)]; exact h128
    have e127 : mt 127 at' = 3 := by rw [Mt.1 127 (by decide) (by decide)]; exact h127
    by_cases c : t = len.toNat
    · have et : (t : Int) = len := by omega
      rw [et] at Wt ⊢
      refine Or.inr ⟨hh s Q It, mt, smp_e rfl, ?_, It, rfl, Wt, Nt, Mt⟩
      unfold jd_289_s336
      rw [y_ma 128 576 rfl rfl a0 (by omega), Option.bind_some, e128, if_pos (Int.le_refl _)]
    · have js : It (src + 1) = I (src + 1) := Nt.1 (src + 1) (by omega) (fun e => (hq _ e).2 rfl)
      obtain ⟨I', m', d1, d2, d3, d4, d5⟩ := smp_1 (t8 := t8) (len := len) (j := (t : Int)) (cnt := len) (at' := at') (N := N) (B := B) h6 P B0 BN Wt (fun j j0 j1 => by rw [js]; exact hv j j0 j1) (by omega) a0 (by omega) al N1 (by omega)
      have et : ((t + 1 : Nat) : Int) = (t : Int) + 1 := by omega
      rw [et]
      refine Or.inl ⟨_, ((t : Int) + 1, m'), d1, ?_, by omega, I', m', rfl, rfl, ?_, NW_t Nt d4, MW_t Mt d5⟩
      · unfold jd_289_s336
        rw [y_ma 128 576 rfl rfl a0 (by omega), Option.bind_some, e128, n_jw (z := len) (by omega) (by omega), n_jw (z := (t : Int)) (by omega) (by omega), if_neg (by omega), y_ma 127 576 rfl rfl a0 (by omega), Option.bind_some, e127, if_pos (show jw 3 = 3 by decide), R mt Mt (at' + (t : Int)) (by omega) (by omega), Option.bind_some, d2, Option.bind_some]
      · rw [show n + 8 * ((t : Int) + 1) = n + 8 * (t : Int) + 8 by omega]
        exact d3
  unfold jd_126_l106 jd_289_l336
  obtain ⟨x, y, e1, e2, I', hx, Wx, Nx, Mx⟩ := w_lp2 (f := fun u : (Int × jH) => jd_126_s106 64 (some 43) (some src) B N at' t8 len len u.1 u.2) (g := fun u : (Int × jM) => jd_289_s336 k pl x4 at' u.1 u.2) (Q := fun x y => ∃ I' : jM, x = hh s Q I' ∧ WM s Q I' y (n + 8 * len) ∧ NW Q 43 I I' ∧ MW m y) (fun t u w => ∃ It mt : jM, u = ((t : Int), hh s Q It) ∧ w = ((t : Int), mt) ∧ WM s Q It mt (n + 8 * (t : Int)) ∧ NW Q 43 I It ∧ MW m mt) len.toNat step (n_fu (by omega)) (n_fu (by omega)) (s0 := (0, hh s Q I)) (t0 := (0, m)) ⟨I, m, rfl, rfl, by rw [show n + 8 * ((0 : Nat) : Int) = n by omega]; exact W, NW_r, MW_r⟩
  exact ⟨I', y, by rw [e1, hx], e2, Wx, Nx, Mx⟩
end RunSm
