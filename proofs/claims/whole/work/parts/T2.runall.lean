/-! making in runs: all runs of a plane written, both sides -/
section RunAll
variable {s : hS} {Q : hQ} {hm : hO} {I m : jM} {src : Nat} {n k pl N kd W B : Int} {v an nd wy ln : Int → Int}
theorem runw (Ly : Lay s Q hm) (h6 : s.1 ≤ 1000000) (hq : ∀ c, Q 43 0 = some c → 153 ≤ c ∧ c ≠ src + 1) (P : PcC s Q src) (B0 : 0 ≤ B) (BN : B + N ≤ 864) (N0 : 0 ≤ N) (N1 : N ≤ 576) (X : WM s Q I m n) (hv : ∀ j : Int, 0 ≤ j → j < N → I (src + 1) (B + j) = v j ∧ 0 ≤ v j ∧ v j ≤ 255) (R : ∀ M' : jM, MW m M' → ∀ j : Int, 0 ≤ j → j < N → jd_287 k pl j M' = some (v j)) (T : TB v an kd W N nd wy ln 0) (hc : ∀ y : Int, 0 ≤ y → y < N → I 66 y = wy y ∧ I 67 y = ln y) (hm' : ∀ y : Int, 0 ≤ y → y < N → m 127 y = wy y ∧ m 128 y = ln y) (hn : n + 10 * N ≤ 32000) : ∃ (I' m' : jM) (n' : Int), jd_126_l34 64 (some 43) (some src) B N 0 0 (hh s Q I) = some (hh s Q I') ∧ jd_289_l278 k pl N 0 m = some m' ∧ WM s Q I' m' n' ∧ n' ≤ n + 10 * N ∧ NW Q 43 I I' ∧ MW m m' := by
  have n0 : 0 ≤ n := X.1.2.1
  have s153 := P.1
  have t00 := TB_r T (y := 0) (Int.le_refl _) N0
  have step : ∀ (t : Nat) (u : Int × Int × jH) (w : Int × jM), t ≤ N.toNat → (∃ (It mt : jM) (at' nt : Int), u = (at', (t : Int), hh s Q It) ∧ w = (at', mt) ∧ ((t : Int) ≤ at' ∧ at' ≤ N) ∧ WM s Q It mt nt ∧ nt + nd at' ≤ n + nd 0 ∧ NW Q 43 I It ∧ MW m mt) → (∃ u' w', (fun u : (Int × Int × jH) => jd_126_s34 64 (some 43) (some src) B N u.1 u.2.1 u.2.2) u = some (.inl u') ∧ (fun u : (Int × jM) => jd_289_s278 k pl N u.1 u.2) w = some (.inl w') ∧ t < N.toNat ∧ (∃ (It mt : jM) (at' nt : Int), u' = (at', ((t + 1 : Nat) : Int), hh s Q It) ∧ w' = (at', mt) ∧ (((t + 1 : Nat) : Int) ≤ at' ∧ at' ≤ N) ∧ WM s Q It mt nt ∧ nt + nd at' ≤ n + nd 0 ∧ NW Q 43 I It ∧ MW m mt)) ∨ (∃ x y, (fun u : (Int × Int × jH) => jd_126_s34 64 (some 43) (some src) B N u.1 u.2.1 u.2.2) u = some (.inr x) ∧ (fun u : (Int × jM) => jd_289_s278 k pl N u.1 u.2) w = some (.inr y) ∧ ∃ (I' : jM) (n' : Int), x = hh s Q I' ∧ WM s Q I' y n' ∧ n' ≤ n + 10 * N ∧ NW Q 43 I I' ∧ MW m y) := by
    intro t u w ht Y
    obtain ⟨It, mt, at', nt, rfl, rfl, ⟨ta, aN⟩, Wt, bt, Nt, Mt⟩ := Y
    dsimp only
    by_cases c : N ≤ at'
    · have et : at' = N := by omega
      refine Or.inr ⟨hh s Q It, mt, ?_, ?_, It, nt, rfl, Wt, ?_, Nt, Mt⟩
      · unfold jd_126_s34
        rw [n_jw (z := N) (by omega) (by omega), n_jw (z := (t : Int)) (by omega) (by omega), n_jw (z := at') (by omega) (by omega)]
        by_cases d : N ≤ (t : Int)
        · rw [if_pos d]
        · rw [if_neg d, if_pos c]
      · unfold jd_289_s278
        rw [n_jw (z := N) (by omega) (by omega), n_jw (z := at') (by omega) (by omega), if_pos c]
      · rw [et, T.1] at bt
        omega
    · have aN' : at' < N := by omega
      obtain ⟨⟨⟨w0, w3⟩, l1, l2⟩, b2, -⟩ := T.2 at' (by omega) aN'
      have rb := Rn_r (v := v) (an := an) (kd := kd) (W := W) (N := N) (w := wy at') (x := at') (by omega)
      obtain ⟨o, ho⟩ : ∃ o, wy at' = o := ⟨_, rfl⟩
      obtain ⟨l, hl⟩ : ∃ l, ln at' = l := ⟨_, rfl⟩
      rw [ho] at w0 w3 l2 b2 rb
      rw [hl] at l1 l2 b2
      dsimp only at b2
      have nn := (TB_r T (y := at' + l) (by omega) (by omega)).1
      have b2' : nd at' = cln o + cln (l - 1) + exC o l + nd (at' + l) := b2
      have ex0 : 0 ≤ exC o l := by
        unfold exC
        split
        · omega
        · split <;> omega
      have i66 : It 66 at' = o := by rw [Nt.1 66 (by decide) (fun e => by have := (hq 66 e).1; omega), (hc at' (by omega) aN').1, ho]
      have i67 : It 67 at' = l := by rw [Nt.1 67 (by decide) (fun e => by have := (hq 67 e).1; omega), (hc at' (by omega) aN').2, hl]
      have p1 := cln_p (i := o) w0
      have p2 := cln_p (i := l - 1) (by omega)
      obtain ⟨I1, c1, k1, W1, N1'⟩ := wcode (v := o) Wt w0 (by omega) (by show nt + cln o ≤ 32000; omega)
      obtain ⟨I2, c2, k2, W2, N2'⟩ := wcode (v := l - 1) W1 (by omega) (by omega) (by show nt + cln o + cln (l - 1) ≤ 32000; omega)
      have M2 : MW m (wrM (wrM mt nt (cd o)) (nt + ((cd o).length : Int)) (cd (l - 1))) := MW_t Mt (MW_t MW_w MW_w)
      obtain ⟨m2, hm2⟩ : ∃ z, z = wrM (wrM mt nt (cd o)) (nt + ((cd o).length : Int)) (cd (l - 1)) := ⟨_, rfl⟩
      obtain ⟨m1, hm1⟩ : ∃ z, z = wrM mt nt (cd o) := ⟨_, rfl⟩
      have M1 : MW m m1 := by rw [hm1]; exact MW_t Mt MW_w
      rw [← hm2] at k2 W2 M2
      rw [← hm1] at k1 k2
      have W2' : WM s Q I2 m2 (nt + cln o + cln (l - 1)) := W2
      obtain ⟨n2, hn2⟩ : ∃ z, z = nt + cln o + cln (l - 1) := ⟨_, rfl⟩
      rw [← hn2] at W2'
      have f127 : ∀ {M' : jM}, MW m M' → M' 127 at' = o := fun {M'} h => by rw [h.1 127 (by decide) (by decide), (hm' at' (by omega) aN').1, ho]
      have f128 : ∀ {M' : jM}, MW m M' → M' 128 at' = l := fun {M'} h => by rw [h.1 128 (by decide) (by decide), (hm' at' (by omega) aN').2, hl]
      have N2 : NW Q 43 I I2 := NW_t Nt (NW_t N1' N2')
      have js : I2 (src + 1) = I (src + 1) := N2.1 (src + 1) (by omega) (fun e => (hq _ e).2 rfl)
      have hv2 : ∀ j : Int, 0 ≤ j → j < N → I2 (src + 1) (B + j) = v j ∧ 0 ≤ v j ∧ v j ≤ 255 := fun j j0 j1 => by rw [js]; exact hv j j0 j1
      -- the samples
      have fin : ∃ (I3 m3 : jM), jd_126_l106 64 (some 43) (some src) B N at' (t : Int) l (if (jw o) = 0 then 1 else (if (jw o) = 3 then l else 0)) 0 (hh s Q I2) = some (hh s Q I3) ∧ (if (jw o) = 0 then ((jd_287 k pl at' m2).bind fun v66 => ((jd_232 v66 8 m2).bind fun m68 => jd_289_b333 k pl N at' m68)) else jd_289_b333 k pl N at' m2) = some (.inl (at' + l, m3)) ∧ WM s Q I3 m3 (n2 + exC o l) ∧ NW Q 43 I2 I3 ∧ MW m2 m3 := by
        have no3 : ∀ {M' : jM}, MW m M' → o ≠ 3 → jd_289_b333 k pl N at' M' = some (.inl (at' + l, M')) := fun {M'} h o3 => by
          have l336 : jd_289_l336 k pl N at' 0 M' = some M' := by
            unfold jd_289_l336
            exact jlp_r (n := 99999999) (by
              show jd_289_s336 k pl N at' 0 M' = _
              unfold jd_289_s336
              rw [y_ma 128 576 rfl rfl (by omega) (by omega), Option.bind_some, f128 h, n_jw (z := l) (by omega) (by omega), if_neg (show ¬ l ≤ jw 0 by rw [show jw 0 = 0 by decide]; omega), y_ma 127 576 rfl rfl (by omega) (by omega), Option.bind_some, f127 h, n_jw (z := o) (by omega) (by omega), if_neg o3])
          unfold jd_289_b333
          rw [l336, Option.bind_some, y_ma 128 576 rfl rfl (by omega) (by omega), Option.bind_some, f128 h]
        rw [n_jw (z := o) (by omega) (by omega)]
        by_cases o0 : o = 0
        · rw [if_pos o0, if_pos o0]
          obtain ⟨I3, m3, d1, d2, d3, d4, d5⟩ := smp_1 (t8 := (t : Int)) (len := l) (j := 0) (cnt := 1) (at' := at') (N := N) (B := B) (v := v) h6 P B0 BN W2' hv2 (by omega) (by omega) (by omega) (by omega) N1 (by
            unfold exC at b2' ex0
            rw [if_pos o0] at b2'
            omega)
          rw [Int.add_zero] at d2
          refine ⟨I3, m3, ?_, ?_, ?_, d4, d5⟩
          · unfold jd_126_l106
            show jlp (fun u : (Int × jH) => jd_126_s106 64 (some 43) (some src) B N at' (t : Int) l 1 u.1 u.2) (99999998 + 1 + 1) (0, hh s Q I2) = _
            rw [jlp_i (v := (0 + 1, hh s Q I3)) d1]
            exact jlp_r (smp_e rfl)
          · rw [R m2 M2 at' (by omega) aN', Option.bind_some, d2, Option.bind_some]
            exact no3 (MW_t M2 d5) (by omega)
          · have : exC o l = 8 := by unfold exC; rw [if_pos o0]
            rw [this]
            exact d3
        · rw [if_neg o0, if_neg o0]
          by_cases o3 : o = 3
          · rw [if_pos o3]
            have e8 : exC o l = 8 * l := by unfold exC; rw [if_neg o0, if_pos o3]
            obtain ⟨I3, m3, d1, d2, d3, d4, d5⟩ := smp_3 (t8 := (t : Int)) (x4 := N) (k := k) (pl := pl) (at' := at') (len := l) (N := N) (B := B) (v := v) h6 hq P B0 BN W2' hv2 (fun M' h => R M' (MW_t M2 h)) (by omega) l1 (by omega) N1 (by rw [f127 M2, o3]) (f128 M2) (by omega)
            refine ⟨I3, m3, d1, ?_, by rw [e8]; exact d3, d4, d5⟩
            unfold jd_289_b333
            rw [d2, Option.bind_some, y_ma 128 576 rfl rfl (by omega) (by omega), Option.bind_some, f128 (MW_t M2 d5)]
          · rw [if_neg o3]
            have e0 : exC o l = 0 := by unfold exC; rw [if_neg o0, if_neg o3]
            refine ⟨I2, m2, ?_, no3 M2 o3, by rw [e0, Int.add_zero]; exact W2', NW_r, MW_r⟩
            unfold jd_126_l106
            exact jlp_r (n := 99999999) (smp_e rfl)
      obtain ⟨I3, m3, d1, d2, d3, d4, d5⟩ := fin
      have et : ((t + 1 : Nat) : Int) = (t : Int) + 1 := by omega
      rw [et]
      refine Or.inl ⟨(at' + l, (t : Int) + 1, hh s Q I3), (at' + l, m3), ?_, ?_, by omega, I3, m3, at' + l, n2 + exC o l, rfl, rfl, ⟨by omega, by omega⟩, d3, by omega, NW_t N2 d4, MW_t M2 d5⟩
      · have q2 : Q 64 ((2 : Nat) : Int) = some 66 := Lq Ly rfl
        have q3 : Q 64 ((3 : Nat) : Int) = some 67 := Lq Ly rfl
        unfold jd_126_s34
        rw [n_jw (z := N) (by omega) (by omega), n_jw (z := (t : Int)) (by omega) (by omega), if_neg (by omega), n_jw (z := at') (by omega) (by omega), if_neg c, y_gr Ly 64 9 rfl rfl, Option.bind_some, q2, Option.bind_some, y_ai Ly h6 66 576 rfl rfl rfl (by omega) (by omega), Option.bind_some, i66, y_gr Ly 64 9 rfl rfl, Option.bind_some, q3, Option.bind_some, y_ai Ly h6 67 576 rfl rfl rfl (by omega) (by omega), Option.bind_some, i67, Option.bind_some, WM_ck Wt, Option.bind_some, c1, Option.bind_some, Option.bind_some, WM_ck W1, Option.bind_some, c2, Option.bind_some]
        unfold jd_126_b101
        rw [d1, Option.bind_some]
      · unfold jd_289_s278
        rw [n_jw (z := N) (by omega) (by omega), n_jw (z := at') (by omega) (by omega), if_neg c, y_ma 127 576 rfl rfl (by omega) (by omega), Option.bind_some, f127 Mt, k1, Option.bind_some, y_ma 128 576 rfl rfl (by omega) (by omega), Option.bind_some, f128 M1, k2, Option.bind_some, y_ma 127 576 rfl rfl (by omega) (by omega), Option.bind_some, f127 M2]
        exact d2
  unfold jd_126_l34 jd_289_l278
  obtain ⟨x, y, e1, e2, I', n', hx, Wx, bx, Nx, Mx⟩ := w_lp2 (f := fun u : (Int × Int × jH) => jd_126_s34 64 (some 43) (some src) B N u.1 u.2.1 u.2.2) (g := fun u : (Int × jM) => jd_289_s278 k pl N u.1 u.2) (Q := fun x y => ∃ (I' : jM) (n' : Int), x = hh s Q I' ∧ WM s Q I' y n' ∧ n' ≤ n + 10 * N ∧ NW Q 43 I I' ∧ MW m y) (fun t u w => ∃ (It mt : jM) (at' nt : Int), u = (at', (t : Int), hh s Q It) ∧ w = (at', mt) ∧ ((t : Int) ≤ at' ∧ at' ≤ N) ∧ WM s Q It mt nt ∧ nt + nd at' ≤ n + nd 0 ∧ NW Q 43 I It ∧ MW m mt) N.toNat step (n_fu (by omega)) (n_fu (by omega)) (s0 := (0, 0, hh s Q I)) (t0 := (0, m)) ⟨I, m, 0, n, rfl, rfl, ⟨Int.le_refl _, N0⟩, X, Int.le_refl _, NW_r, MW_r⟩
  exact ⟨I', y, n', by rw [e1, hx], e2, Wx, bx, Nx, Mx⟩
end RunAll
