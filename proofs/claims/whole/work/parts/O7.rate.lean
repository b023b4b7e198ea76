/-! making: the step made coarser until the picture fits, both sides -/
section RateM
variable {s : hS} {Q : hQ} {hm : hO} {I m : jM} {a p b src : Nat} {f w h g k kd st rc os n sz hv x1 x3 x4 x5 : Int}
theorem MFp_0 (h : m 104 k = st) : MFp m m k st := ⟨fun _ _ _ _ _ _ => rfl, fun _ _ _ _ => rfl, h, fun _ _ => rfl, fun _ _ => rfl, fun _ _ => rfl, fun _ _ => rfl⟩
def RtI (s : hS) (Q : hQ) (hm : hO) (I m : jM) (a p src : Nat) (f w h g k kd rc os st n : Int) (S : hS) (R : hQ) (J m' : jM) : Prop := ∃ (H : hO) (b : Nat), Lay S R H ∧ PKm S R H J m' a p src f w h g k kd rc os ∧ MdP S R H J m' p b w h k st n ∧ Sm (PFp (200 + 12 * f + (g + k))) s Q hm I S R H J ∧ J p = I p ∧ MFp m m' k st ∧ Gw s Q S R
theorem rate_m (L : Lay s Q hm) (h6 : s.1 + 1 < 1000000) (X : PKm s Q hm I m a p src f w h g k kd rc os) (D : MdP s Q hm I m p b w h k st n) (s0 : 1 ≤ st) (s1 : st ≤ 31) (z0 : 0 < sz) (z1 : sz ≤ 20000) (v0 : 0 ≤ hv) (v1 : hv ≤ 20000) (m82 : m 76 82 = hv) (q6 : Q 42 6 = some 3) (i3 : I 3 3 = rc) : ∃ (S : hS) (R : hQ) (J m' : jM) (n' st' : Int), jd_66_l85 42 (some a) sz hv (g + k) (some src) st ((n + 7) / 8) (hh s Q I) = some (st', (n' + 7) / 8, hh S R J) ∧ jd_294_l116 x1 x3 x4 x5 k st ((n + 7) / 8) m = some ((n' + 7) / 8, m') ∧ (1 ≤ st' ∧ st' ≤ 31) ∧ RtI s Q hm I m a p src f w h g k kd rc os st' n' S R J m' := by
  have step : ∀ (t : Nat) (u : Int × Int × jH) (v : Int × Int × jM), t ≤ (31 - st).toNat → (∃ (S : hS) (R : hQ) (J m' : jM) (n' : Int), u = (st + (t : Int), (n' + 7) / 8, hh S R J) ∧ v = (st + (t : Int), (n' + 7) / 8, m') ∧ RtI s Q hm I m a p src f w h g k kd rc os (st + (t : Int)) n' S R J m') → (∃ u' v', (fun u : (Int × Int × jH) => jd_66_s85 42 (some a) sz hv (g + k) (some src) u.1 u.2.1 u.2.2) u = some (.inl u') ∧ (fun u : (Int × Int × jM) => jd_294_s116 x1 x3 x4 x5 k u.1 u.2.1 u.2.2) v = some (.inl v') ∧ t < (31 - st).toNat ∧ (∃ (S : hS) (R : hQ) (J m' : jM) (n' : Int), u' = (st + ((t + 1 : Nat) : Int), (n' + 7) / 8, hh S R J) ∧ v' = (st + ((t + 1 : Nat) : Int), (n' + 7) / 8, m') ∧ RtI s Q hm I m a p src f w h g k kd rc os (st + ((t + 1 : Nat) : Int)) n' S R J m')) ∨ (∃ x y, (fun u : (Int × Int × jH) => jd_66_s85 42 (some a) sz hv (g + k) (some src) u.1 u.2.1 u.2.2) u = some (.inr x) ∧ (fun u : (Int × Int × jM) => jd_294_s116 x1 x3 x4 x5 k u.1 u.2.1 u.2.2) v = some (.inr y) ∧ ∃ (S : hS) (R : hQ) (J m' : jM) (n' st' : Int), x = (st', (n' + 7) / 8, hh S R J) ∧ y = ((n' + 7) / 8, m') ∧ (1 ≤ st' ∧ st' ≤ 31) ∧ RtI s Q hm I m a p src f w h g k kd rc os st' n' S R J m') := by
    intro t u v ht Z
    obtain ⟨S, R, J, m', n', rfl, rfl, H, b', L', X', D', S', ip, M', G'⟩ := Z
    dsimp only
    have nb := D'.2.1
    have N82 : m' 76 82 = hv := by rw [M'.2.1 82 (by decide) (by decide) (by decide)]; exact m82
    obtain ⟨y, hy⟩ : ∃ y, (n' + 7) / 8 = y := ⟨_, rfl⟩
    have yb : 0 ≤ y ∧ y ≤ 3826 := by omega
    rw [hy]
    obtain ⟨tt, htt⟩ : ∃ tt : Int, tt = st + (t : Int) := ⟨_, rfl⟩
    rw [← htt] at D' M' ⊢
    have tb : 1 ≤ tt ∧ tt ≤ 31 := by omega
    by_cases c : 8 * y ≤ hv ∨ 31 ≤ tt
    · refine Or.inr ⟨(tt, y, hh S R J), (y, m'), ?_, ?_, S, R, J, m', n', tt, by rw [hy], by rw [hy], tb, H, b', L', X', D', S', ip, M', G'⟩
      · unfold jd_66_s85
        rw [n_jw (z := sz) (by omega) (by omega), if_neg (by omega), n_jw (z := 8 * y) (by omega) (by omega), n_jw (z := hv) (by omega) (by omega)]
        by_cases c1 : 8 * y ≤ hv
        · rw [if_pos c1]
        · rw [if_neg c1, n_jw (z := tt) (by omega) (by omega), if_pos (by omega)]
      · unfold jd_294_s116
        rw [N82, n_jw (z := 8 * y) (by omega) (by omega), n_jw (z := hv) (by omega) (by omega)]
        by_cases c1 : 8 * y ≤ hv
        · rw [if_pos c1]
        · rw [if_neg c1, n_jw (z := tt) (by omega) (by omega), if_pos (by omega)]
    · have g6 : S.1 < 1000000 := by
        have := G'.2.1
        have := nW_le (Q := R)
        omega
      obtain ⟨S2, R2, H2, J2, m2, b2, n2, e1, e2, L2, X2, D2, Sm2, ip2, M2, G2⟩ := pic_2 (st := tt + 1) L' g6 (MdP_hb D') X' (by omega) (by omega)
      have q42 := Lay_fr (a := 42) L S' (by decide) (show PFp (200 + 12 * f + (g + k)) (1000 + ((42 : Nat) : Int)) by
        have := X.2.1
        have := X.2.2.2.1
        exact ⟨by omega, by omega, by omega⟩)
      have q3 := Lay_fr (a := 3) L S' (by decide) (show PFp (200 + 12 * f + (g + k)) (1000 + ((3 : Nat) : Int)) by
        have := X.2.1
        have := X.2.2.2.1
        exact ⟨by omega, by omega, by omega⟩)
      refine Or.inl ⟨(tt + 1, (n2 + 7) / 8, hh S2 R2 J2), (tt + 1, (n2 + 7) / 8, m2), ?_, ?_, by omega, S2, R2, J2, m2, n2, by rw [show st + ((t + 1 : Nat) : Int) = tt + 1 by omega], by rw [show st + ((t + 1 : Nat) : Int) = tt + 1 by omega], ?_⟩
      · have r6 : R 42 ((6 : Nat) : Int) = some 3 := by rw [q42.1]; exact q6
        have r1 : R 42 ((1 : Nat) : Int) = some 44 := Lq L' rfl
        have r0 : R 42 ((0 : Nat) : Int) = some 43 := Lq L' rfl
        have j3 : J 3 3 = rc := by rw [q3.2]; exact i3
        unfold jd_66_s85
        rw [n_jw (z := sz) (by omega) (by omega), if_neg (by omega), n_jw (z := 8 * y) (by omega) (by omega), n_jw (z := hv) (by omega) (by omega), if_neg (by omega), n_jw (z := tt) (by omega) (by omega), if_neg (by omega), y_gr L' 42 4 rfl rfl, Option.bind_some, y_gr L' 42 4 rfl rfl, Option.bind_some, y_gr L' 42 4 rfl rfl, Option.bind_some, r6, Option.bind_some, y_ai L' (by omega) 3 8 rfl rfl rfl (by decide) (by decide), Option.bind_some, j3, r1, Option.bind_some, r0, y_ck L' 44 1 rfl rfl, Option.bind_some, e1, Option.bind_some]
      · unfold jd_294_s116
        rw [N82, n_jw (z := 8 * y) (by omega) (by omega), n_jw (z := hv) (by omega) (by omega), if_neg (by omega), n_jw (z := tt) (by omega) (by omega), if_neg (by omega), e2, Option.bind_some]
      · rw [show st + ((t + 1 : Nat) : Int) = tt + 1 by omega]
        exact ⟨H2, b2, L2, X2, D2, Sm_trans S' Sm2, ip2.trans ip, MFp_t M' M2, Gw_t G' G2⟩
  unfold jd_66_l85 jd_294_l116
  obtain ⟨x, y, e1, e2, S, R, J, m', n', st', hx, hy, sb, Z⟩ := w_lp2 (f := fun u : (Int × Int × jH) => jd_66_s85 42 (some a) sz hv (g + k) (some src) u.1 u.2.1 u.2.2) (g := fun u : (Int × Int × jM) => jd_294_s116 x1 x3 x4 x5 k u.1 u.2.1 u.2.2) (Q := fun x y => ∃ (S : hS) (R : hQ) (J m' : jM) (n' st' : Int), x = (st', (n' + 7) / 8, hh S R J) ∧ y = ((n' + 7) / 8, m') ∧ (1 ≤ st' ∧ st' ≤ 31) ∧ RtI s Q hm I m a p src f w h g k kd rc os st' n' S R J m') (fun t u v => ∃ (S : hS) (R : hQ) (J m' : jM) (n' : Int), u = (st + (t : Int), (n' + 7) / 8, hh S R J) ∧ v = (st + (t : Int), (n' + 7) / 8, m') ∧ RtI s Q hm I m a p src f w h g k kd rc os (st + (t : Int)) n' S R J m') (31 - st).toNat step (n_fu (by omega)) (n_fu (by omega)) (s0 := (st, (n + 7) / 8, hh s Q I)) (t0 := (st, (n + 7) / 8, m)) ⟨s, Q, I, m, n, by rw [show st + ((0 : Nat) : Int) = st by omega], by rw [show st + ((0 : Nat) : Int) = st by omega], by
    rw [show st + ((0 : Nat) : Int) = st by omega]
    exact ⟨hm, b, L, X, D, Sm_refl, rfl, MFp_0 D.2.2.2, Gw_refl⟩⟩
  exact ⟨S, R, J, m', n', st', by rw [e1, hx], by rw [e2, hy], sb, Z⟩
end RateM
