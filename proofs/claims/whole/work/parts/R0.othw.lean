/-! making in waves: a picture's three planes, both sides -/
section OthW
variable {s : hS} {Q : hQ} {hm : hO} {I m : jM} {a src b : Nat} {n w h k pos cod q o st : Int} {x4 : Option Nat}
/-- the model as the planes begin: waves and runs -/
def m0W (m : jM) (k pos : Int) : jM := ims (m0P m k 0) 109 (fun x => if 864 * k ≤ x ∧ x < 864 * k + 864 then m 121 (864 * pos + (x - 864 * k)) else m 109 x)
theorem m0W_f : (∀ c : Nat, c ≠ 76 → c ≠ 110 → c ≠ 104 → c ≠ 109 → m0W m k pos c = m c) ∧ (∀ z : Int, z ≠ 53 → m0W m k pos 76 z = m 76 z) ∧ m0W m k pos 76 53 = 0 ∧ m0W m k pos 104 k = 0 ∧ m0W m k pos 109 = fun x => if 864 * k ≤ x ∧ x < 864 * k + 864 then m 121 (864 * pos + (x - 864 * k)) else m 109 x := by
  obtain ⟨f1, f2, f3, f4, -, -⟩ := m0P_f (m := m) (k := k) (st := 0)
  unfold m0W
  exact ⟨fun c c1 c2 c3 c4 => by rw [ims_o c4, f1 c c1 c2 c3], fun z hz => by rw [ims_o (by decide), f2 z hz], by rw [ims_o (by decide), f3], by rw [ims_o (by decide), f4], ims_e⟩
theorem k_291w (k0 : 0 ≤ k) (k1 : k < 12) (hc : cod = 1 ∨ cod = 2) (h32 : m 76 32 = cod) (hp : m 103 k = pos) (q0 : 0 ≤ pos) (q1 : pos < 12) : jd_291 k st m = if cod = 1 then ((jd_286 k (m0W m k pos)).bind fun m23 => jd_291_b118 k m23) else jd_291_b118 k (m0W m k pos) := by
  obtain ⟨M, hM⟩ : ∃ M, M = ims (jms m 76 53 0) 110 (fun x => if 864 * k ≤ x ∧ x < 864 * k + 864 then 0 else m 110 x) := ⟨_, rfl⟩
  have e1 : jd_242 k (jms m 76 53 0) = some M := by
    rw [hM]
    have := k_242 (m := jms m 76 53 0) k0 k1
    rw [jms_o (by decide : (110 : Nat) ≠ 76)] at this
    exact this
  have cb : 1 ≤ cod ∧ cod ≤ 2 := by omega
  have M32 : M 76 32 = cod := by rw [hM, ims_o (by decide), jms_i (by decide)]; exact h32
  obtain ⟨m5, hm5⟩ : ∃ z, z = jms M 104 k 0 := ⟨_, rfl⟩
  have eN : m5 = m0P m k 0 := by rw [hm5, hM]; rfl
  have N32 : m5 76 32 = cod := by rw [hm5, jms_o (by decide)]; exact M32
  have n103 : m5 103 k = pos := by rw [hm5, jms_o (by decide), hM, ims_o (by decide), jms_o (by decide)]; exact hp
  have n121 : m5 121 = m 121 := by rw [hm5, jms_o (by decide), hM, ims_o (by decide), jms_o (by decide)]
  have n109 : m5 109 = m 109 := by rw [hm5, jms_o (by decide), hM, ims_o (by decide), jms_o (by decide)]
  have l63 : jd_291_l63 k 0 m5 = some (m0W m k pos) := by
    have := lpM (f := fun u : (Int × jM) => jd_291_s63 k u.1 u.2) (ct := fun k => k) (ix := fun j => 864 * k + j) (v := fun j _ => m 121 (864 * pos + j)) (m := m5) (a := 109) 864 (fun t G ht => by
      dsimp only
      unfold jd_291_s63
      have f1 : ims m5 109 G 103 k = pos := by rw [ims_o (by decide)]; exact n103
      have f2 : ims m5 109 G 121 = m 121 := by rw [ims_o (by decide)]; exact n121
      rw [n_jw (z := (t : Int)) (by omega) (by omega), if_neg (by omega), y_ma 103 12 rfl rfl k0 (by omega), Option.bind_some, f1, y_ma 121 10368 rfl rfl (by omega) (by omega), Option.bind_some, f2, y_mw 109 10368 rfl rfl (by omega) (by omega), Option.bind_some, ims_jms]) (fun G => by
      dsimp only
      unfold jd_291_s63
      rw [if_pos (by decide)]) (by decide) (m5 109)
    rw [ims_self] at this
    unfold jd_291_l63
    rw [this]
    congr 1
    unfold m0W
    rw [← eN]
    congr 1
    funext x
    rw [n109]
    by_cases c : 864 * k ≤ x ∧ x < 864 * k + 864
    · rw [if_pos c]
      have := wf_in (ix := fun j => 864 * k + j) (V := fun j => m 121 (864 * pos + j)) (g := m 109) (n := 864) (i := x - 864 * k) (fun _ _ _ _ _ _ e => by omega) (by omega) (by omega)
      rw [show 864 * k + (x - 864 * k) = x by omega] at this
      exact this
    · rw [if_neg c]
      exact wf_o (fun t ht => by omega)
  have W32 : m0W m k pos 76 32 = cod := by rw [m0W_f.2.1 32 (by decide)]; exact h32
  unfold jd_291
  rw [Option.bind_some, e1, Option.bind_some, M32, n_jw (z := cod) (by omega) (by omega), if_neg (show ¬ cod = 0 by omega), y_mw 104 12 rfl rfl k0 (by omega), Option.bind_some, ← hm5, N32, n_jw (z := cod) (by omega) (by omega), if_neg (show ¬ cod = 0 by omega), l63, Option.bind_some, W32, n_jw (z := cod) (by omega) (by omega)]
theorem oth_w (L : Lay s Q hm) (h6 : s.1 ≤ 1000000) (W : WM s Q I m 0) (hw : ∀ c, Q 43 0 = some c → 153 ≤ c ∧ hm c = 560) (P : PicAt s Q hm src o) (oo : 100 ≤ o ∧ o < 112) (i0 : I src 0 = w) (i1 : I src 1 = h) (sw : isSd w) (sh : isSd h) (m33 : m 76 33 = w) (m34 : m 76 34 = h) (k0 : 0 ≤ k) (k1 : k < 12) (hp : m 103 k = pos) (q0 : 0 ≤ pos) (q1 : pos < 12) (hx : ∀ pl j : Int, 0 ≤ pl → pl ≤ 2 → 0 ≤ j → j < pw w pl * pw h pl → I (src + 1) (pb w h pl + j) = m 121 (864 * pos + (pf pl + j)) ∧ 0 ≤ m 121 (864 * pos + (pf pl + j)) ∧ m 121 (864 * pos + (pf pl + j)) ≤ 255) (r68 : Q 68 q = some src) (r0 : 0 ≤ q) (r1 : q < 12) : ∃ (I' m' : jM) (n' : Int), jd_67_l48 42 (some a) 1 q x4 0 (hh s Q I) = some (hh s Q I') ∧ jd_286 k m = some m' ∧ WM s Q I' m' n' ∧ n' ≤ 22464 ∧ NV Q I I' ∧ MV m m' := by
  have hq : ∀ c, Q 43 0 = some c → 153 ≤ c := fun c hc => (hw c hc).1
  have sn : ∀ y : Nat, y = src ∨ y = src + 1 → Q 43 0 ≠ some y := fun y hy e => by
    have h1 := (hw y e).2
    have h2 := P.2.1.2.2.2
    have h3 := P.2.2.1.2.2.2
    rcases hy with rfl | rfl
    · omega
    · omega
  have s153 := P.1
  have t2 : Q 42 ((2 : Nat) : Int) = some 61 := Lq L rfl
  have t0 : Q 42 ((0 : Nat) : Int) = some 43 := Lq L rfl
  have t4 : Q 42 ((4 : Nat) : Int) = some 68 := Lq L rfl
  have pN : ∀ pl : Int, pl = 0 ∨ pl = 1 ∨ pl = 2 → 0 ≤ pw w pl * pw h pl ∧ pw w pl * pw h pl ≤ (if pl = 0 then 576 else 144) := fun pl pc => by
    rcases pc with rfl | rfl | rfl <;> rcases sw with rfl | rfl | rfl <;> rcases sh with rfl | rfl | rfl <;> decide
  have one : ∀ (pl : Int) (J M : jM) (nn : Int), (pl = 0 ∨ pl = 1 ∨ pl = 2) → NV Q I J → MV m M → WM s Q J M nn → nn ≤ 26 * (if pl = 0 then 0 else if pl = 1 then 576 else 720) → ∃ (J' M' : jM) (n' : Int), jd_67_s48 42 (some a) 1 q x4 pl (hh s Q J) = some (.inl (pl + 1, hh s Q J')) ∧ jd_286_s2 k pl M = some (.inl (pl + 1, M')) ∧ WM s Q J' M' n' ∧ n' ≤ 26 * (if pl = 0 then 576 else if pl = 1 then 720 else 864) ∧ NV Q I J' ∧ MV m M' := fun pl J M nn pc A B C D => by
    have js : J src = I src := A.1 src (by omega) (by omega) (sn src (Or.inl rfl))
    have js1 : J (src + 1) = I (src + 1) := A.1 (src + 1) (by omega) (by omega) (sn (src + 1) (Or.inr rfl))
    have e121 : M 121 = m 121 := B.1 121 (by decide) (by decide) (by decide) (by decide)
    have e103 : M 103 = m 103 := B.1 103 (by decide) (by decide) (by decide) (by decide)
    have pn := pN pl pc
    have pb' : 0 ≤ pl ∧ pl ≤ 2 := by omega
    obtain ⟨J', M', n', d1, d2, d3, d4, d5, d6⟩ := wplm (pl := pl) (k := k) (pos := pos) L h6 hq C P (by rw [js]; exact i0) (by rw [js]; exact i1) sw sh (by rw [B.2 33 (by decide)]; exact m33) (by rw [B.2 34 (by decide)]; exact m34) pb'.1 pb'.2 k0 k1 (by rw [e103]; exact hp) q0 q1 (fun j j0 j1 => by rw [js1, e121]; exact hx pl j pb'.1 pb'.2 j0 j1) (by rcases pc with rfl | rfl | rfl <;> simp at D pn ⊢ <;> omega)
    refine ⟨J', M', n', ?_, d2, d3, by rcases pc with rfl | rfl | rfl <;> simp at D pn ⊢ <;> omega, NV_t A d5, MV_t B d6⟩
    unfold jd_67_s48
    rw [n_jw (z := pl) (by omega) (by omega), if_neg (by omega), if_pos (show jw 1 = 1 by decide), y_gr L 42 4 rfl rfl, Option.bind_some, t2, y_gr L 42 4 rfl rfl, Option.bind_some, t0, y_gr L 42 4 rfl rfl, Option.bind_some, t4, Option.bind_some, y_ar L 68 6 12 rfl rfl rfl r0 r1, Option.bind_some, r68, Option.bind_some, y_ck L 61 10 rfl rfl, Option.bind_some, d1, Option.bind_some]
    rfl
  obtain ⟨J1, M1, n1, a1, b1, c1, d1, e1, f1⟩ := one 0 I m 0 (Or.inl rfl) ⟨fun _ _ _ _ => rfl, fun _ _ => rfl⟩ ⟨fun _ _ _ _ _ => rfl, fun _ _ => rfl⟩ W (by decide)
  obtain ⟨J2, M2, n2, a2, b2, c2, d2, e2, f2⟩ := one 1 J1 M1 n1 (Or.inr (Or.inl rfl)) e1 f1 c1 (by simp at d1 ⊢; exact d1)
  obtain ⟨J3, M3, n3, a3, b3, c3, d3, e3, f3⟩ := one 2 J2 M2 n2 (Or.inr (Or.inr rfl)) e2 f2 c2 (by simp at d2 ⊢; exact d2)
  refine ⟨J3, M3, n3, ?_, ?_, c3, by simp at d3; omega, e3, f3⟩
  · unfold jd_67_l48
    show jlp (fun u : (Int × jH) => jd_67_s48 42 (some a) 1 q x4 u.1 u.2) (99999996 + 1 + 1 + 1 + 1) (0, hh s Q I) = _
    rw [jlp_i (v := (1, hh s Q J1)) a1, jlp_i (v := (2, hh s Q J2)) a2, jlp_i (v := (3, hh s Q J3)) a3]
    exact jlp_r (by
      show jd_67_s48 42 (some a) 1 q x4 3 (hh s Q J3) = _
      unfold jd_67_s48
      rw [if_pos (by decide)])
  · unfold jd_286 jd_286_l2
    have : jlp (fun u : (Int × jM) => jd_286_s2 k u.1 u.2) (99999996 + 1 + 1 + 1 + 1) (0, m) = some M3 := by
      rw [jlp_i (v := (1, M1)) b1, jlp_i (v := (2, M2)) b2, jlp_i (v := (3, M3)) b3]
      exact jlp_r (by
        show jd_286_s2 k 3 M3 = _
        unfold jd_286_s2
        rw [if_pos (by decide)])
    rw [show jlp (fun u : (Int × jM) => jd_286_s2 k u.1 u.2) jfu (0, m) = some M3 from this, Option.bind_some]
end OthW
