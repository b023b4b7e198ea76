/-! making in waves: numbers written, both sides -/
section WNums
variable {s : hS} {Q : hQ} {hm : hO} {I m : jM} {n N x1 x2 x3 x4 : Int}
/-- the model but for bits -/
def MW (m m' : jM) : Prop := (∀ c : Nat, c ≠ 76 → c ≠ 113 → m' c = m c) ∧ ∀ z : Int, z ≠ 53 → m' 76 z = m 76 z
theorem MW_t {m' m2 : jM} (A : MW m m') (B : MW m' m2) : MW m m2 := ⟨fun c c1 c2 => (B.1 c c1 c2).trans (A.1 c c1 c2), fun z hz => (B.2 z hz).trans (A.2 z hz)⟩
theorem MW_w {l : List Int} : MW m (wrM m n l) := ⟨fun _ c1 c2 => wrM_o c1 c2, fun _ hz => wrM_76 hz⟩
theorem NW_r {T : Nat} : NW Q T I I := ⟨fun _ _ _ => rfl, fun _ _ => rfl⟩
theorem WM_ck (W : WM s Q I m n) : jck (hh s Q I) 43 0 = some () := WX_ck W.1
theorem wnums (L : Lay s Q hm) (h6 : s.1 ≤ 1000000) (hq : ∀ c, Q 43 0 = some c → 153 ≤ c) (W : WM s Q I m n) (hN : x3 * x4 = N) (N0 : 0 ≤ N) (N1 : N ≤ 576) (hv : ∀ j : Int, 0 ≤ j → j < N → I 62 j = m 118 j ∧ -4095 ≤ m 118 j ∧ m 118 j ≤ 4095) (hn : n + 26 * N ≤ 32000) : ∃ (I' m' : jM) (z n' : Int), jd_134_l91 61 (some 43) N 0 0 (hh s Q I) = some (z, hh s Q I') ∧ jd_286_l128 x1 x2 x3 x4 0 0 m = some (z, m') ∧ WM s Q I' m' n' ∧ (0 ≤ z ∧ z ≤ N) ∧ n' ≤ n + 26 * (N - z) ∧ NW Q 43 I I' ∧ MW m m' := by
  have n0 : 0 ≤ n := W.1.2.1
  have step : ∀ (t : Nat) (u : Int × Int × jH) (v : Int × Int × jM), t ≤ N.toNat → (∃ (It mt : jM) (z nt : Int), u = (z, (t : Int), hh s Q It) ∧ v = (z, (t : Int), mt) ∧ WM s Q It mt nt ∧ (0 ≤ z ∧ z ≤ (t : Int)) ∧ nt ≤ n + 26 * ((t : Int) - z) ∧ NW Q 43 I It ∧ MW m mt) → (∃ u' v', (fun u : (Int × Int × jH) => jd_134_s91 61 (some 43) N u.1 u.2.1 u.2.2) u = some (.inl u') ∧ (fun u : (Int × Int × jM) => jd_286_s128 x1 x2 x3 x4 u.1 u.2.1 u.2.2) v = some (.inl v') ∧ t < N.toNat ∧ (∃ (It mt : jM) (z nt : Int), u' = (z, ((t + 1 : Nat) : Int), hh s Q It) ∧ v' = (z, ((t + 1 : Nat) : Int), mt) ∧ WM s Q It mt nt ∧ (0 ≤ z ∧ z ≤ ((t + 1 : Nat) : Int)) ∧ nt ≤ n + 26 * (((t + 1 : Nat) : Int) - z) ∧ NW Q 43 I It ∧ MW m mt)) ∨ (∃ x y, (fun u : (Int × Int × jH) => jd_134_s91 61 (some 43) N u.1 u.2.1 u.2.2) u = some (.inr x) ∧ (fun u : (Int × Int × jM) => jd_286_s128 x1 x2 x3 x4 u.1 u.2.1 u.2.2) v = some (.inr y) ∧ ∃ (I' m' : jM) (z n' : Int), x = (z, hh s Q I') ∧ y = (z, m') ∧ WM s Q I' m' n' ∧ (0 ≤ z ∧ z ≤ N) ∧ n' ≤ n + 26 * (N - z) ∧ NW Q 43 I I' ∧ MW m m') := by
    intro t u v ht Y
    obtain ⟨It, mt, z, nt, rfl, rfl, Wt, ⟨z0, z1⟩, bt, Nt, Mt⟩ := Y
    dsimp only
    have q0 : Q 61 ((0 : Nat) : Int) = some 62 := Lq L rfl
    have i62 : It 62 = I 62 := Nt.1 62 (by decide) (fun e => by have := hq 62 e; omega)
    have m118 : mt 118 = m 118 := Mt.1 118 (by decide) (by decide)
    by_cases c : t = N.toNat
    · have et : (t : Int) = N := by omega
      rw [et] at z1 bt ⊢
      refine Or.inr ⟨(z, hh s Q It), (z, mt), ?_, ?_, It, mt, z, nt, rfl, rfl, Wt, ⟨z0, z1⟩, bt, Nt, Mt⟩
      · unfold jd_134_s91
        rw [if_pos (Int.le_refl _)]
      · unfold jd_286_s128
        rw [hN, if_pos (Int.le_refl _)]
    · have tN : (t : Int) < N := by omega
      obtain ⟨e1, e2, e3⟩ := hv (t : Int) (by omega) tN
      obtain ⟨y, hy⟩ : ∃ y, m 118 (t : Int) = y := ⟨_, rfl⟩
      rw [hy] at e1 e2 e3
      have et : ((t + 1 : Nat) : Int) = (t : Int) + 1 := by omega
      rw [et]
      by_cases cy : y = 0
      · refine Or.inl ⟨(z + 1, (t : Int) + 1, hh s Q It), (z + 1, (t : Int) + 1, mt), ?_, ?_, by omega, It, mt, z + 1, nt, rfl, rfl, Wt, ⟨by omega, by omega⟩, by omega, Nt, Mt⟩
        · unfold jd_134_s91
          rw [n_jw (z := N) (by omega) (by omega), n_jw (z := (t : Int)) (by omega) (by omega), if_neg (by omega), y_gr L 61 10 rfl rfl, Option.bind_some, q0, Option.bind_some, y_ai L h6 62 576 rfl rfl rfl (by omega) (by omega), Option.bind_some, i62, e1, cy, if_pos (show jw 0 = 0 by decide)]
          rfl
        · unfold jd_286_s128
          rw [hN, n_jw (z := N) (by omega) (by omega), n_jw (z := (t : Int)) (by omega) (by omega), if_neg (by omega), y_ma 118 576 rfl rfl (by omega) (by omega), Option.bind_some, m118, hy, cy, if_pos (show jw 0 = 0 by decide)]
          rfl
      · have l1 := cd_l2 z0
        obtain ⟨I1, c1, k1, W1, N1'⟩ := wcode Wt z0 (by omega) (by omega)
        have us0 : 0 ≤ us y ∧ us y < 8191 := by
          unfold us
          by_cases cc : y ≤ 0
          · rw [if_pos cc]; omega
          · rw [if_neg cc]; omega
        have l2 := cd_l1 us0.1 us0.2
        obtain ⟨I2, c2, k2, W2, N2'⟩ := wcode W1 us0.1 (by omega) (by omega)
        obtain ⟨k236, k12⟩ := k_us (v := y) (by omega) (by omega)
        have j62 : I1 62 = I 62 := (N1'.1 62 (by decide) (fun e => by have := hq 62 e; omega)).trans i62
        have w118 : wrM mt nt (cd z) 118 = m 118 := (wrM_o (by decide) (by decide)).trans m118
        refine Or.inl ⟨(0, (t : Int) + 1, hh s Q I2), (0, (t : Int) + 1, wrM (wrM mt nt (cd z)) (nt + ((cd z).length : Int)) (cd (us y))), ?_, ?_, by omega, I2, _, 0, _, rfl, rfl, W2, ⟨Int.le_refl _, by omega⟩, by omega, NW_t Nt (NW_t N1' N2'), MW_t Mt (MW_t MW_w MW_w)⟩
        · unfold jd_134_s91
          rw [n_jw (z := N) (by omega) (by omega), n_jw (z := (t : Int)) (by omega) (by omega), if_neg (by omega), y_gr L 61 10 rfl rfl, Option.bind_some, q0, Option.bind_some, y_ai L h6 62 576 rfl rfl rfl (by omega) (by omega), Option.bind_some, i62, e1, n_jw (z := y) (by omega) (by omega), if_neg cy, Option.bind_some, WM_ck Wt, Option.bind_some, c1, Option.bind_some, y_gr L 61 10 rfl rfl, Option.bind_some, q0, Option.bind_some, y_ai L h6 62 576 rfl rfl rfl (by omega) (by omega), Option.bind_some, j62, e1, Option.bind_some, WM_ck W1, Option.bind_some, k12, c2, Option.bind_some]
          rfl
        · unfold jd_286_s128
          rw [hN, n_jw (z := N) (by omega) (by omega), n_jw (z := (t : Int)) (by omega) (by omega), if_neg (by omega), y_ma 118 576 rfl rfl (by omega) (by omega), Option.bind_some, m118, hy, n_jw (z := y) (by omega) (by omega), if_neg cy, k1, Option.bind_some, y_ma 118 576 rfl rfl (by omega) (by omega), Option.bind_some, w118, hy, k236, k2, Option.bind_some]
          rfl
  unfold jd_134_l91 jd_286_l128
  obtain ⟨x, y, e1, e2, I', m', z, n', hx, hy, R⟩ := w_lp2 (f := fun u : (Int × Int × jH) => jd_134_s91 61 (some 43) N u.1 u.2.1 u.2.2) (g := fun u : (Int × Int × jM) => jd_286_s128 x1 x2 x3 x4 u.1 u.2.1 u.2.2) (Q := fun x y => ∃ (I' m' : jM) (z n' : Int), x = (z, hh s Q I') ∧ y = (z, m') ∧ WM s Q I' m' n' ∧ (0 ≤ z ∧ z ≤ N) ∧ n' ≤ n + 26 * (N - z) ∧ NW Q 43 I I' ∧ MW m m') (fun t u v => ∃ (It mt : jM) (z nt : Int), u = (z, (t : Int), hh s Q It) ∧ v = (z, (t : Int), mt) ∧ WM s Q It mt nt ∧ (0 ≤ z ∧ z ≤ (t : Int)) ∧ nt ≤ n + 26 * ((t : Int) - z) ∧ NW Q 43 I It ∧ MW m mt) N.toNat step (n_fu (by omega)) (n_fu (by omega)) (s0 := (0, 0, hh s Q I)) (t0 := (0, 0, m)) ⟨I, m, 0, n, rfl, rfl, W, ⟨Int.le_refl _, Int.le_refl _⟩, by omega, NW_r, ⟨fun _ _ _ => rfl, fun _ _ => rfl⟩⟩
  exact ⟨I', m', z, n', by rw [e1, hx], by rw [e2, hy], R⟩
end WNums
