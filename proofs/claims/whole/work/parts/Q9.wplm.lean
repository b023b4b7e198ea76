/-! making in waves: a plane, both sides -/
section WPlM
variable {s : hS} {Q : hQ} {hm : hO} {I m : jM} {src : Nat} {n w h pl k pos o : Int}
/-- class: what a plane written leaves -/
def NV (Q : hQ) (I I' : jM) : Prop := (∀ c : Nat, c ≠ 43 → ¬ (61 ≤ c ∧ c ≤ 67) → Q 43 0 ≠ some c → I' c = I c) ∧ ∀ z : Int, z ≠ 1 → I' 43 z = I 43 z
/-- model: what a plane written leaves -/
def MV (m m' : jM) : Prop := (∀ c : Nat, c ≠ 76 → c ≠ 113 → ¬ (118 ≤ c ∧ c ≤ 120) → ¬ (126 ≤ c ∧ c ≤ 128) → m' c = m c) ∧ ∀ z : Int, z ≠ 53 → m' 76 z = m 76 z
theorem NV_t {I1 I2 : jM} (A : NV Q I I1) (B : NV Q I1 I2) : NV Q I I2 := ⟨fun c c1 c2 c3 => (B.1 c c1 c2 c3).trans (A.1 c c1 c2 c3), fun z hz => (B.2 z hz).trans (A.2 z hz)⟩
theorem MV_t {m1 m2 : jM} (A : MV m m1) (B : MV m1 m2) : MV m m2 := ⟨fun c c1 c2 c3 c4 => (B.1 c c1 c2 c3 c4).trans (A.1 c c1 c2 c3 c4), fun z hz => (B.2 z hz).trans (A.2 z hz)⟩
theorem NV_w {I' : jM} (A : NW Q 43 I I') : NV Q I I' := ⟨fun c c1 _ c3 => A.1 c c1 c3, A.2⟩
theorem MV_w {m' : jM} (A : MW m m') : MV m m' := ⟨fun c c1 c2 _ _ => A.1 c c1 c2, A.2⟩
theorem wplm (L : Lay s Q hm) (h6 : s.1 ≤ 1000000) (hq : ∀ c, Q 43 0 = some c → 153 ≤ c) (W : WM s Q I m n) (P : PicAt s Q hm src o) (i0 : I src 0 = w) (i1 : I src 1 = h) (sw : isSd w) (sh : isSd h) (m33 : m 76 33 = w) (m34 : m 76 34 = h) (p0 : 0 ≤ pl) (p2 : pl ≤ 2) (k0 : 0 ≤ k) (k1 : k < 12) (hp : m 103 k = pos) (q0 : 0 ≤ pos) (q1 : pos < 12) (hx : ∀ j : Int, 0 ≤ j → j < pw w pl * pw h pl → I (src + 1) (pb w h pl + j) = m 121 (864 * pos + (pf pl + j)) ∧ 0 ≤ m 121 (864 * pos + (pf pl + j)) ∧ m 121 (864 * pos + (pf pl + j)) ≤ 255) (hn : n + 26 * (pw w pl * pw h pl) ≤ 32000) : ∃ (I' m' : jM) (n' : Int), jd_134 61 (some 43) (some src) pl (hh s Q I) = some (hh s Q I') ∧ jd_286_s2 k pl m = some (.inl (pl + 1, m')) ∧ WM s Q I' m' n' ∧ n' ≤ n + 26 * (pw w pl * pw h pl) ∧ NV Q I I' ∧ MV m m' := by
  obtain ⟨a, ea, a0, a1⟩ := pw4 sw pl
  obtain ⟨b, eb, b0, b1⟩ := pw4 sh pl
  have ok : okI pl := ⟨by omega, by omega⟩
  obtain ⟨N, hN⟩ : ∃ N, pw w pl * pw h pl = N := ⟨_, rfl⟩
  have hN4 : 4 * (a : Int) * (4 * (b : Int)) = N := by rw [← hN, ea, eb]
  have pc : pl = 0 ∨ pl = 1 ∨ pl = 2 := by omega
  have nb : 0 ≤ N ∧ N ≤ 576 ∧ 0 ≤ pb w h pl ∧ pb w h pl + N ≤ 864 ∧ 0 ≤ pf pl ∧ pf pl + N ≤ 864 := by
    rw [← hN]
    rcases pc with rfl | rfl | rfl <;> rcases sw with rfl | rfl | rfl <;> rcases sh with rfl | rfl | rfl <;> decide
  obtain ⟨nb0, nb1, nb2, nb3, nb4, nb5⟩ := nb
  rw [hN] at hx hn ⊢
  have s153 := P.1
  have t14 : s.2.2.1 src = 6 + 8 := P.2.1.2.1
  -- samples taken
  have lC : jd_134_l31 61 (some 43) (some src) (4 * (a : Int)) (4 * (b : Int)) N (pb w h pl) 0 (hh s Q I) = some (hh s Q (ims I 62 (wf (fun k => k) (fun j _ => I (src + 1) (pb w h pl + j)) (I 62) N.toNat))) := by
    have t0 : Q 61 ((0 : Nat) : Int) = some 62 := Lq L rfl
    have t2 : Q src ((2 : Nat) : Int) = some (src + 1) := P.2.2.2
    have := lpC (f := fun u : (Int × jH) => jd_134_s31 61 (some 43) (some src) (4 * (a : Int)) (4 * (b : Int)) N (pb w h pl) u.1 u.2) (ct := fun k => k) (ix := fun k => k) (v := fun j _ => I (src + 1) (pb w h pl + j)) (J := I) (a := 62) (s := s) (Q := Q) N.toNat (fun t G ht => by
      dsimp only
      unfold jd_134_s31
      have e1 : ims I 62 G (src + 1) = I (src + 1) := ims_o (by omega)
      rw [n_jw (z := N) (by omega) (by omega), n_jw (z := (t : Int)) (by omega) (by omega), if_neg (by omega), y_gr L 61 10 rfl rfl, Option.bind_some, Option.bind_some, x_gr P.2.1.1 t14, Option.bind_some, t2, Option.bind_some, x_ai P.2.2.1.1 h6 P.2.2.1.2.1 (by omega) (by rw [P.2.2.1.2.2.1]; omega) (by rw [P.2.2.1.2.2.1]; decide), Option.bind_some, t0, Option.bind_some, y_ta L 62 0 576 rfl rfl rfl (by omega) (by omega), Option.bind_some, ims_jms, e1]) (fun G => by
      dsimp only
      unfold jd_134_s31
      rw [n_jw (z := N) (by omega) (by omega), n_jw (by omega) (by omega), if_pos (by omega)]) (by omega) (I 62)
    rw [ims_self] at this
    exact this
  have lM : jd_286_l29 k pl (4 * (a : Int)) (4 * (b : Int)) 0 m = some (ims m 118 (wf (fun k => k) (fun j _ => m 121 (864 * pos + (pf pl + j))) (m 118) N.toNat)) := by
    have := lpM (f := fun u : (Int × jM) => jd_286_s29 k pl (4 * (a : Int)) (4 * (b : Int)) u.1 u.2) (ct := fun k => k) (ix := fun k => k) (v := fun j _ => m 121 (864 * pos + (pf pl + j))) (m := m) (a := 118) N.toNat (fun t G ht => by
      dsimp only
      unfold jd_286_s29
      have e1 : ims m 118 G 121 = m 121 := ims_o (by decide)
      have e2 : ims m 118 G 103 k = pos := by rw [ims_o (by decide)]; exact hp
      rw [hN4, n_jw (z := N) (by omega) (by omega), n_jw (z := (t : Int)) (by omega) (by omega), if_neg (by omega), y_ma 103 12 rfl rfl k0 k1, Option.bind_some, e2, k_207 ok, y_ma 121 10368 rfl rfl (by omega) (by omega), Option.bind_some, y_mw 118 576 rfl rfl (by omega) (by omega), Option.bind_some, ims_jms, e1, show 864 * pos + pf pl + (t : Int) = 864 * pos + (pf pl + (t : Int)) by omega]) (fun G => by
      dsimp only
      unfold jd_286_s29
      rw [hN4, n_jw (z := N) (by omega) (by omega), n_jw (by omega) (by omega), if_pos (by omega)]) (by omega) (m 118)
    rw [ims_self] at this
    exact this
  obtain ⟨I1, hI1⟩ : ∃ z, z = ims I 62 (wf (fun k => k) (fun j _ => I (src + 1) (pb w h pl + j)) (I 62) N.toNat) := ⟨_, rfl⟩
  obtain ⟨m1, hm1⟩ : ∃ z, z = ims m 118 (wf (fun k => k) (fun j _ => m 121 (864 * pos + (pf pl + j))) (m 118) N.toNat) := ⟨_, rfl⟩
  rw [← hI1] at lC
  rw [← hm1] at lM
  have v1 : ∀ j : Int, 0 ≤ j → j < N → I1 62 j = I (src + 1) (pb w h pl + j) := fun j j0 j1 => by
    rw [hI1, ims_e]
    exact wf_in (ix := fun k => k) (V := fun j => I (src + 1) (pb w h pl + j)) (fun _ _ _ _ _ _ e => e) j0 (by omega)
  have v2 : ∀ j : Int, 0 ≤ j → j < N → m1 118 j = m 121 (864 * pos + (pf pl + j)) := fun j j0 j1 => by
    rw [hm1, ims_e]
    exact wf_in (ix := fun k => k) (V := fun j => m 121 (864 * pos + (pf pl + j))) (fun _ _ _ _ _ _ e => e) j0 (by omega)
  -- lifted
  obtain ⟨Y, Y', G, l1, l2⟩ := c_135t (I := I1) (a := a) (b := b) L h6 a0 a1 b0 b1 (by omega)
  obtain ⟨M1, M2, M3, Xm, Ym, r1, r2, r3, r4⟩ := k_273ut (m := m1) (a := a) (b := b) a0 a1 b0 b1 (by omega)
  obtain ⟨I3, hI3⟩ : ∃ z, z = ims (ims I1 63 Y') 62 (upP a b (I1 62)) := ⟨_, rfl⟩
  obtain ⟨m3, hm3⟩ : ∃ z, z = ims (ims (ims m1 119 Xm) 120 Ym) 118 (upP a b (m1 118)) := ⟨_, rfl⟩
  rw [← hI3] at l2
  rw [← hm3] at r4
  have o3 : ∀ c : Nat, c ≠ 62 → c ≠ 63 → I3 c = I c := fun c c1 c2 => by rw [hI3, ims_o c1, ims_o c2, hI1, ims_o c1]
  have p3 : ∀ c : Nat, c ≠ 118 → c ≠ 119 → c ≠ 120 → m3 c = m c := fun c c1 c2 c3 => by rw [hm3, ims_o c1, ims_o c3, ims_o c2, hm1, ims_o c1]
  have W3 : WM s Q I3 m3 n := by
    obtain ⟨⟨x1, x2, x3⟩, x4⟩ := W
    refine ⟨⟨by rw [o3 43 (by decide) (by decide)]; exact x1, x2, ?_⟩, by rw [p3 76 (by decide) (by decide) (by decide)]; exact x4⟩
    rcases x3 with x3 | ⟨c, y1, y2⟩
    · exact Or.inl x3
    · have := hq c y1.2.2.2
      refine Or.inr ⟨c, y1, ?_⟩
      unfold By at *
      rw [p3 113 (by decide) (by decide) (by decide), o3 c (by omega) (by omega)]
      exact y2
  obtain ⟨I4, m4, z, n4, e1, e2, W4, ⟨z0, z1⟩, bn, N4, M4⟩ := wnums (N := N) (x1 := k) (x2 := pl) (x3 := 4 * (a : Int)) (x4 := 4 * (b : Int)) L h6 hq W3 hN4 nb0 nb1 (fun j j0 j1 => by
    have E1 : I3 62 j = upP a b (I1 62) j := by rw [hI3, ims_e]
    have E2 : m3 118 j = upP a b (m1 118) j := by rw [hm3, ims_e]
    rw [E1, E2]
    refine ⟨upP_c (fun i i0 i1 => by rw [v1 i i0 (by omega), v2 i i0 (by omega)]; exact (hx i i0 (by omega)).1) j j0 (by omega), upP_b (fun i i0 i1 => ?_) j j0 (by omega)⟩
    rw [v2 i i0 (by omega)]
    have := (hx i i0 (by omega)).2
    omega) hn
  have NV3 : NV Q I I3 := ⟨fun c _ c2 _ => o3 c (by omega) (by omega), fun y _ => by rw [o3 43 (by decide) (by decide)]⟩
  have MV3 : MV m m3 := ⟨fun c _ _ c3 _ => p3 c (by omega) (by omega) (by omega), fun y _ => by rw [p3 76 (by decide) (by decide) (by decide)]⟩
  have d2a : jdiv (4 * (a : Int)) 2 = 2 * (a : Int) := by rw [n_div (by omega) (by omega) (by decide) (by decide)]; omega
  have d2b : jdiv (4 * (b : Int)) 2 = 2 * (b : Int) := by rw [n_div (by omega) (by omega) (by decide) (by decide)]; omega
  have ec : jd_134 61 (some 43) (some src) pl (hh s Q I) = (if (jw z) ≤ 0 then jd_134_b154 61 (hh s Q I4) else (((some 43 : Option Nat)).bind fun a73 => ((jck (hh s Q I4) a73 0).bind fun u75 => ((jd_9 a73 z (hh s Q I4)).bind fun h77 => jd_134_b154 61 h77)))) := by
    unfold jd_134
    rw [Option.bind_some, x_ck P.2.1.1 t14, Option.bind_some, c_96 P.2.1.1 P.2.1.2.1 i0 sw ok, Option.bind_some, Option.bind_some, x_ck P.2.1.1 t14, Option.bind_some, c_97 P.2.1.1 P.2.1.2.1 i1 sh ok, Option.bind_some, Option.bind_some, x_ck P.2.1.1 t14, Option.bind_some, c_98 P.2.1.1 P.2.1.2.1 i0 i1 sw sh ok, Option.bind_some, ea, eb, hN4, lC, Option.bind_some, y_ck L 61 10 rfl rfl, Option.bind_some, l1, Option.bind_some, y_ck L 61 10 rfl rfl, Option.bind_some, d2a, d2b, l2, Option.bind_some, e1, Option.bind_some]
  have em : jd_286_s2 k pl m = (if (jw z) ≤ 0 then jd_286_b193 k pl m4 else ((jd_234 z m4).bind fun m32 => jd_286_b193 k pl m32)) := by
    unfold jd_286_s2
    rw [n_jw (z := pl) (by omega) (by omega), if_neg (by omega), m33, m34, k_206 ok sw, k_206 ok sh, ea, eb, lM, Option.bind_some, r1, Option.bind_some, r2, Option.bind_some, d2a, d2b, r3, Option.bind_some, r4, Option.bind_some, e2, Option.bind_some]
  rw [ec, em, n_jw (z := z) (by omega) (by omega)]
  by_cases cz : z ≤ 0
  · rw [if_pos cz, if_pos cz]
    exact ⟨I4, m4, n4, rfl, rfl, W4, by omega, NV_t NV3 (NV_w N4), MV_t MV3 (MV_w M4)⟩
  · rw [if_neg cz, if_neg cz]
    have l1 := cd_l2 z0
    obtain ⟨I5, c1, c2, W5, N5⟩ := wcode W4 z0 (by omega) (by omega)
    refine ⟨I5, _, _, ?_, ?_, W5, by omega, NV_t NV3 (NV_t (NV_w N4) (NV_w N5)), MV_t MV3 (MV_t (MV_w M4) (MV_w MW_w))⟩
    · rw [Option.bind_some, WM_ck W4, Option.bind_some, c1, Option.bind_some]
      rfl
    · rw [c2, Option.bind_some]
      rfl
end WPlM
