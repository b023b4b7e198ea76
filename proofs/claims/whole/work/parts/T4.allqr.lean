/-! making in runs: a picture's planes, both sides; MAKE is done -/
section AllQR
variable {a : Nat} {f w h T : Int}
theorem allq_r : AllQ a f w h T 2 := fun m g n k k0 k1 _ R9 S R H J x4 C Gr h6 hw W hx4 => by
  obtain ⟨⟨m35, m36⟩, LGk, ⟨g0, -, gn⟩, hj⟩ := Gr
  obtain ⟨⟨L, F, f0, f8⟩, hb, ⟨m32, m33, m34, sw, sh⟩, ⟨T1, T2, i5, q6⟩, c5, c6, c8, c9⟩ := C
  have kv : ∀ j : Int, 0 ≤ j → j < n → m 102 j = (if j = 0 then 0 else 1) ∧ m 103 j = g + j := fun j j0 j1 => by
    obtain ⟨z1, z2⟩ := kk0 (n := n) (by omega) (by omega) j0 j1
    obtain ⟨u1, u2, -, -⟩ := hj j j0 j1
    rw [z1] at u1
    rw [z2] at u2
    exact ⟨u1, u2⟩
  obtain ⟨src, r68, P, ⟨p0, p1, -, -, px⟩⟩ := c6 (g + k) (by omega) (by omega)
  obtain ⟨w1, w2, w3, w4, w5⟩ := m0W_f (m := m) (k := k) (pos := g + k)
  obtain ⟨M0, hM0⟩ : ∃ z, z = m0W m k (g + k) := ⟨_, rfl⟩
  rw [← hM0] at w1 w2 w3 w4 w5 W ⊢
  have s153 := P.1
  have sn : ∀ c, R 43 0 = some c → 153 ≤ c ∧ c ≠ src + 1 := fun c hc => ⟨(hw c hc).1, fun e => by
    have h1 := (hw c hc).2
    have h3 := P.2.2.1.2.2.2
    rw [e] at h1
    omega⟩
  have sn0 : ∀ y : Nat, y < S.1 → H y ≠ 560 → R 43 0 ≠ some y := fun y _ hy e => hy (hw y e).2
  obtain ⟨kd, hkd⟩ : ∃ kd : Int, kd = if k = 0 then 0 else 1 := ⟨_, rfl⟩
  have kb : 0 ≤ kd ∧ kd ≤ 1 := by
    rw [hkd]
    split <;> omega
  have k102 : M0 102 k = kd := by rw [w1 102 (by decide) (by decide) (by decide) (by decide), (kv k k0 k1).1, hkd]
  -- what the model reads
  have rd : ∀ (pl : Int), 0 ≤ pl → pl ≤ 2 → ∀ M' : jM, M' 102 = M0 102 → M' 103 = M0 103 → M' 109 = M0 109 → M' 121 = M0 121 → M' 76 36 = M0 76 36 → (∀ j : Int, 0 ≤ j → j < pw w pl * pw h pl → jd_287 k pl j M' = some (m 121 (864 * (g + k) + (pf pl + j))) ∧ 0 ≤ m 121 (864 * (g + k) + (pf pl + j)) ∧ m 121 (864 * (g + k) + (pf pl + j)) ≤ 255) ∧ (kd ≠ 0 → ∀ j : Int, 0 ≤ j → j < pw w pl * pw h pl → jd_288 k pl j M' = some (m 121 (864 * (g + k - 1) + (pf pl + j))) ∧ 0 ≤ m 121 (864 * (g + k - 1) + (pf pl + j)) ∧ m 121 (864 * (g + k - 1) + (pf pl + j)) ≤ 255) ∧ jma M' 102 k = some kd ∧ (0 ≤ kd ∧ kd ≤ 2) := fun pl q0 q2 M' e102 e103 e109 e121 e36 => by
    have ok : okI pl := ⟨by omega, by omega⟩
    have lb : ∀ j : Int, 0 ≤ j → j < pw w pl * pw h pl → 0 ≤ pf pl + j ∧ pf pl + j < 864 := fun j j0 j1 => by
      have pc : pl = 0 ∨ pl = 1 ∨ pl = 2 := by omega
      rcases pc with rfl | rfl | rfl <;> rcases sw with rfl | rfl | rfl <;> rcases sh with rfl | rfl | rfl <;> unfold pf <;> simp only [pw] at j1 <;> simp at j1 ⊢ <;> omega
    have f121 : M' 121 = m 121 := e121.trans (w1 121 (by decide) (by decide) (by decide) (by decide))
    have f103 : M' 103 = m 103 := e103.trans (w1 103 (by decide) (by decide) (by decide) (by decide))
    have f102 : M' 102 = m 102 := e102.trans (w1 102 (by decide) (by decide) (by decide) (by decide))
    have f36 : M' 76 36 = 0 := by rw [e36, w2 36 (by decide)]; exact m36
    refine ⟨fun j j0 j1 => ?_, fun kz j j0 j1 => ?_, by rw [y_ma 102 12 rfl rfl k0 (by omega), e102, k102], by omega⟩
    · obtain ⟨l0, l1⟩ := lb j j0 j1
      refine ⟨?_, (px pl j q0 q2 j0 j1).2⟩
      unfold jd_287
      rw [y_ma 103 12 rfl rfl k0 (by omega), Option.bind_some, f103, (kv k k0 k1).2, k_207 ok, y_ma 121 10368 rfl rfl (by omega) (by omega), Option.bind_some, f121, show 864 * (g + k) + pf pl + j = 864 * (g + k) + (pf pl + j) by omega]
    · have kp : 1 ≤ k := by
        by_cases d : k = 0
        · rw [hkd, if_pos d] at kz
          exact absurd rfl kz
        · omega
      obtain ⟨l0, l1⟩ := lb j j0 j1
      obtain ⟨pa, r68', Pa, ⟨-, -, -, -, pxa⟩⟩ := c6 (g + k - 1) (by omega) (by omega)
      refine ⟨?_, (pxa pl j q0 q2 j0 j1).2⟩
      have e239 := (k_239 (m := M') (fr := 0) f36 (by decide) (by decide) (N := k) (by omega) (fun i i0 i1 => by
        rw [f102, (kv i i0 (by omega)).1]
        unfold okI
        split <;> omega) k.toNat (by omega)).1
      have ea : anc (M' 102) 0 k.toNat = k - 1 := by
        rw [show k.toNat = (k - 1).toNat + 1 by omega, anc_s, if_neg (by omega), show (((k - 1).toNat : Nat) : Int) = k - 1 by omega, if_pos]
        rw [f102, (kv (k - 1) (by omega) (by omega)).1]
        split <;> decide
      rw [show ((k.toNat : Nat) : Int) = k by omega, ea] at e239
      have e109' : M' 109 (864 * (k - 1) + (pf pl + j)) = m 121 (864 * (g + k - 1) + (pf pl + j)) := by
        rw [e109, w5]
        dsimp only
        rw [if_neg (by omega), R9 (k - 1) (by omega) (by omega) (pf pl + j) l0 l1, (kv (k - 1) (by omega) (by omega)).2, show g + (k - 1) = g + k - 1 by omega]
      unfold jd_288
      rw [e239, Option.bind_some, k_207 ok, y_ma 109 10368 rfl rfl (by omega) (by omega), Option.bind_some, show 864 * (k - 1) + pf pl + j = 864 * (k - 1) + (pf pl + j) by omega, e109']
  have t3 : R 42 ((3 : Nat) : Int) = some 64 := Lq L rfl
  have t0 : R 42 ((0 : Nat) : Int) = some 43 := Lq L rfl
  have t4 : R 42 ((4 : Nat) : Int) = some 68 := Lq L rfl
  have pN : ∀ pl : Int, pl = 0 ∨ pl = 1 ∨ pl = 2 → 0 ≤ pw w pl * pw h pl ∧ pw w pl * pw h pl ≤ 576 := fun pl pc => by
    rcases pc with rfl | rfl | rfl <;> rcases sw with rfl | rfl | rfl <;> rcases sh with rfl | rfl | rfl <;> decide
  have one : ∀ (pl : Int) (J1 M : jM) (nn : Int), (pl = 0 ∨ pl = 1 ∨ pl = 2) → NV R J J1 → MV M0 M → WM S R J1 M nn → nn ≤ 5760 * pl → ∃ (J' M' : jM) (n' : Int), jd_67_s48 42 (some a) 2 (g + k) x4 pl (hh S R J1) = some (.inl (pl + 1, hh S R J')) ∧ jd_291_s120 k pl M = some (.inl (pl + 1, M')) ∧ WM S R J' M' n' ∧ n' ≤ 5760 * (pl + 1) ∧ NV R J J' ∧ MV M0 M' := fun pl J1 M nn pc A B D E => by
    have q0 : 0 ≤ pl := by omega
    have q2 : pl ≤ 2 := by omega
    have js : J1 src = J src := A.1 src (by omega) (by omega) (sn0 src P.2.1.1 (by rw [P.2.1.2.2.2]; omega))
    have js1 : J1 (src + 1) = J (src + 1) := A.1 (src + 1) (by omega) (by omega) (sn0 (src + 1) P.2.2.1.1 (by rw [P.2.2.1.2.2.2]; omega))
    have pn := pN pl pc
    have hA : AnC S R J1 x4 kd (pb w h pl) (pw w pl * pw h pl) (fun j => m 121 (864 * (g + k - 1) + (pf pl + j))) := by
      by_cases d : k = 0
      · left
        rw [hkd, hx4, if_pos d, if_pos d]
        exact ⟨rfl, rfl⟩
      · right
        obtain ⟨pa, r68', Pa, ⟨-, -, -, -, pxa⟩⟩ := c6 (g + k - 1) (by omega) (by omega)
        have pa153 := Pa.1
        have ja : J1 (pa + 1) = J (pa + 1) := A.1 (pa + 1) (by omega) (by omega) (sn0 (pa + 1) Pa.2.2.1.1 (by rw [Pa.2.2.1.2.2.2]; omega))
        refine ⟨by rw [hkd, if_neg d]; decide, pa, by rw [hx4, if_neg d]; exact r68', PcC_at Pa, fun j j0 j1 => ?_⟩
        rw [ja]
        exact pxa pl j q0 q2 j0 j1
    obtain ⟨J', M', n', d1, d2, d3, d4, d5, d6⟩ := rplm (k := k) (kd := kd) (v := fun j => m 121 (864 * (g + k) + (pf pl + j))) (an := fun j => m 121 (864 * (g + k - 1) + (pf pl + j))) (x4 := x4) L h6 sn D (PcC_at P) (by rw [js]; exact p0) (by rw [js]; exact p1) sw sh (by rw [B.2 33 (by decide), w2 33 (by decide)]; exact m33) (by rw [B.2 34 (by decide), w2 34 (by decide)]; exact m34) q0 q2 (fun j j0 j1 => by rw [js1]; exact px pl j q0 q2 j0 j1) hA (fun M1 h1 h2 M2 h3 => rd pl q0 q2 M2 (by rw [h3 102 (by decide) (by decide) (by decide), h1 102 (by decide) (by decide) (by decide), B.1 102 (by decide) (by decide) (by decide) (by decide)]) (by rw [h3 103 (by decide) (by decide) (by decide), h1 103 (by decide) (by decide) (by decide), B.1 103 (by decide) (by decide) (by decide) (by decide)]) (by rw [h3 109 (by decide) (by decide) (by decide), h1 109 (by decide) (by decide) (by decide), B.1 109 (by decide) (by decide) (by decide) (by decide)]) (by rw [h3 121 (by decide) (by decide) (by decide), h1 121 (by decide) (by decide) (by decide), B.1 121 (by decide) (by decide) (by decide) (by decide)]) (by rw [h3 76 (by decide) (by decide) (by decide), h2 36 (by decide), B.2 36 (by decide)])) (by omega)
    refine ⟨J', M', n', ?_, ?_, d3, by omega, NV_t A d5, MV_t B d6⟩
    · unfold jd_67_s48
      rw [n_jw (z := pl) (by omega) (by omega), if_neg (by omega), if_neg (show ¬ jw 2 = 1 by decide), y_gr L 42 4 rfl rfl, Option.bind_some, t3, y_gr L 42 4 rfl rfl, Option.bind_some, t0, y_gr L 42 4 rfl rfl, Option.bind_some, t4, Option.bind_some, y_ar L 68 6 12 rfl rfl rfl (by omega) (by omega), Option.bind_some, r68, Option.bind_some, y_ck L 64 9 rfl rfl, Option.bind_some, d1, Option.bind_some]
      rfl
    · have e32 : M 76 32 = 2 := by rw [B.2 32 (by decide), w2 32 (by decide)]; exact m32
      unfold jd_291_s120
      rw [n_jw (z := pl) (by omega) (by omega), if_neg (by omega), e32, if_pos (show jw 2 = 2 by decide), d2, Option.bind_some]
  obtain ⟨J1, M1, n1, a1, b1, c1, d1, e1, f1⟩ := one 0 J M0 0 (Or.inl rfl) ⟨fun _ _ _ _ => rfl, fun _ _ => rfl⟩ ⟨fun _ _ _ _ _ => rfl, fun _ _ => rfl⟩ W (by decide)
  obtain ⟨J2, M2, n2, a2, b2, c2, d2, e2, f2⟩ := one 1 J1 M1 n1 (Or.inr (Or.inl rfl)) e1 f1 c1 (by omega)
  obtain ⟨J3, M3, n3, a3, b3, c3, d3, e3, f3⟩ := one 2 J2 M2 n2 (Or.inr (Or.inr rfl)) e2 f2 c2 (by omega)
  have n30 := c3.1.2.1
  refine ⟨J3, M3, n3, ?_, ?_, c3, by omega, e3, f3⟩
  · unfold jd_67_l48
    show jlp (fun u : (Int × jH) => jd_67_s48 42 (some a) 2 (g + k) x4 u.1 u.2) (99999996 + 1 + 1 + 1 + 1) (0, hh S R J) = _
    rw [jlp_i (v := (1, hh S R J1)) a1, jlp_i (v := (2, hh S R J2)) a2, jlp_i (v := (3, hh S R J3)) a3]
    exact jlp_r (by
      show jd_67_s48 42 (some a) 2 (g + k) x4 3 (hh S R J3) = _
      unfold jd_67_s48
      rw [if_pos (by decide)])
  · have l120 : jlp (fun u : (Int × jM) => jd_291_s120 k u.1 u.2) (99999996 + 1 + 1 + 1 + 1) (0, M0) = some M3 := by
      rw [jlp_i (v := (1, M1)) b1, jlp_i (v := (2, M2)) b2, jlp_i (v := (3, M3)) b3]
      exact jlp_r (by
        show jd_291_s120 k 3 M3 = _
        unfold jd_291_s120
        rw [if_pos (by decide)])
    rw [if_neg (by decide)]
    unfold jd_291_b118 jd_291_l120 jd_291_b145
    rw [show jlp (fun u : (Int × jM) => jd_291_s120 k u.1 u.2) jfu (0, M0) = some M3 from l120, Option.bind_some, c3.2, n_div (z := n3 + 7) (by omega) (by omega) (by decide) (by decide)]
/-- MAKE, without a premise -/
theorem si_mk {s : hS} {Q : hQ} {hm : hO} {I m : jM} {p0 : Int} (R : RelH s Q hm I m) (h6 : s.1 ≤ 900000) (hp : okI p0) : SimI (jd_155 0 p0 (hh s Q I)) (jd_300 p0 m) (fun E => if E = 0 then 1 else if E = 1 then 2 else 0) s Q I := si_make R h6 hp (fun _ _ _ _ _ => allq_r)
end AllQR
