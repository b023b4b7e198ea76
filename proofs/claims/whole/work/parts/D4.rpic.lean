/-! a picture read by both sides -/
section RPic2
variable {s : hS} {Q : hQ} {hm : hO} {I m : jM} {a c A : Nat} {w h k fr cod fl lo : Int} {pj : Int → Nat}
theorem rpic (L : Lay s Q hm) (h6 : s.1 ≤ 1000000) (F : FilmAt s Q hm a fl) (Fc : FlC s Q c) (hc : c = 28 ∨ 153 ≤ c) (hlo : lo = 0 ∨ lo = 1) (H : PicIn s Q I m a c A w h k fr cod pj) : ∃ Q' I' m', jd_115 9 (some a) (some c) k fr lo (hh s Q I) = some (hh s Q' I') ∧ jd_278 k lo m = some m' ∧ (∀ x : Nat, x ≠ 10 → x ≠ 11 → Q' x = Q x) ∧ Lay s Q' hm ∧ (∃ f sp, (0 ≤ f ∧ f ≤ 7 ∧ -1 ≤ sp ∧ sp ≤ 1000 ∧ (f = 0 ↔ sp = -1)) ∧ I' (c + 10) = jiu (I (c + 10)) k f ∧ I' (c + 11) = jiu (I (c + 11)) k sp ∧ m' 107 = jiu (m 107) k f ∧ m' 108 = jiu (m 108) k sp ∧ (∀ pl x y : Int, 0 ≤ pl → pl ≤ 2 → 0 ≤ x → x < pw w pl → 0 ≤ y → y < pw h pl → I' (pj k + 1) (pb w h pl + (y * pw w pl + x)) = m' 109 (864 * k + (pf pl + (y * pw w pl + x))) ∧ 0 ≤ m' 109 (864 * k + (pf pl + (y * pw w pl + x))) ∧ m' 109 (864 * k + (pf pl + (y * pw w pl + x))) ≤ 255 ∧ (m' 110 (864 * k + (pf pl + (y * pw w pl + x))) % 2 = 1 ↔ mdAt cod sp w h pl x y)) ∧ (cod = 0 → (∀ q z : Int, 0 ≤ q → q < w / 8 * (h / 8) → 0 ≤ z → z < 7 → m' 111 (63 * k + 7 * q + z) = if 0 ≤ sp ∧ sp ≤ q then -1 else I' (c + 12) ((k * 9 + q) * 7 + z)) ∧ ∀ j : Int, j < 63 * k ∨ 63 * k + 63 ≤ j → m' 111 j = m 111 j ∧ I' (c + 12) j = I (c + 12) j)) ∧ (∀ j : Int, j < 864 * k ∨ 864 * k + 864 ≤ j → m' 109 j = m 109 j ∧ m' 110 j = m 110 j) ∧ (∀ x : Nat, x < 9 ∨ (24 < x ∧ x ≠ 41) → x ≠ pj k + 1 → x ≠ c + 10 → x ≠ c + 11 → x ≠ c + 12 → I' x = I x) ∧ (∀ x : Nat, x ≠ 76 → x ≠ 107 → x ≠ 108 → x ≠ 109 → x ≠ 110 → x ≠ 111 → (x < 114 ∨ 120 < x) → m' x = m x) ∧ (∀ j : Int, j < 49 ∨ 69 < j → m' 76 j = m 76 j) := by
  obtain ⟨Q2, I3, M3, rf, l, bs, en, C0, D0, q2o, L2, ⟨Q112, Q113, Q114⟩, i3o, ⟨I3k, I3s⟩, m3o, m37, m3108, m3110, R, hrf, hl, rfr, lf, lk, k239⟩ := ropen L h6 F Fc hc hlo H
  obtain ⟨⟨k0, k1, fr0, frk⟩, ⟨ea, em, c0, c2, ec⟩, ⟨sw, sh, mw, mh, m36⟩, hk, ⟨h3, st0, st1⟩, -, -, pcs, dst, prv, an1, an2, cd2, cd1⟩ := H
  have a153 := F.1
  obtain ⟨kd, hkd⟩ : ∃ z, m 102 k = z := ⟨_, rfl⟩
  have kk := hk k k0 (by omega)
  rw [← hl] at an1 an2
  rw [hkd] at kk an1 an2 cd2 cd1 hrf I3k Q114
  have pk := pcs k frk (by omega)
  obtain ⟨r3, hr3⟩ : ∃ z, z = if 0 ≤ rf then Q (c + 9) rf else none := ⟨_, rfl⟩
  rw [← hr3] at Q113
  have F2 : FilmAt s Q2 hm a fl := FilmAt_q (fun x hx => q2o x (by omega) (by omega)) F
  have Fc2 : FlC s Q2 c := FlC_q hc (q2o 28 (by decide) (by decide)) (fun x hx => q2o x (by omega) (by omega)) Fc
  have pc2 : ∀ {b : Nat}, PcC s Q b → PcC s Q2 b := fun {b} B => PcC_q (fun x hx => q2o x (by omega) (by omega)) B
  have hp2 : Q2 (c + 9) k = some (pj k) := by rw [q2o (c + 9) (by omega) (by omega)]; exact pk.1
  -- references
  have rfT : ∀ {b : Nat} {x : Int}, RfE s Q I m b w h x → RfE s Q2 I3 M3 b w h x := fun {b x} B => by
    have b153 := B.1.1
    exact ⟨pc2 B.1, by rw [i3o b (by omega) (by omega)]; exact B.2.1, by rw [i3o b (by omega) (by omega)]; exact B.2.2.1, B.2.2.2.1, B.2.2.2.2.1, by rw [i3o (b + 1) (by omega) (by omega), m3o 109 (by decide) (by decide) (by decide)]; exact B.2.2.2.2.2⟩
  have ha : ∀ m' : jM, m' 76 36 = M3 76 36 → m' 102 = M3 102 → jd_239 k (if kd = 2 then 2 else 1) m' = some rf := fun m' g1 g2 => by
    have := k239 m' g1 g2
    rw [hrf]
    by_cases c : kd = 2
    · rw [if_pos c, if_pos c]; exact this.2
    · rw [if_neg c, if_neg c]; exact this.1
  have mk3 : M3 102 k = kd := by rw [m3o 102 (by decide) (by decide) (by decide)]; exact hkd
  have Pk : PcC s Q2 (pj k) := pc2 pk.2.1
  have p153 := Pk.1
  have hw3 : I3 (pj k) 0 = w := by rw [i3o (pj k) (by omega) (by omega)]; exact pk.2.2.1
  have hv3 : I3 (pj k) 1 = h := by rw [i3o (pj k) (by omega) (by omega)]; exact pk.2.2.2
  have z110 : ∀ j : Int, 864 * k ≤ j → j < 864 * k + 864 → M3 110 j = 0 := fun j j0 j1 => by rw [m3110]; exact if_pos ⟨j0, j1⟩
  have z108 : M3 108 k = -1 := by rw [m3108]; exact jiu_e
  have ea3 : I3 a 0 = cod := by rw [i3o a (by omega) (by omega)]; exact ea
  have ec3 : I3 c 0 = cod := by rw [i3o c (by omega) (by omega)]; exact ec
  have fin := fun f sp I4 m4 U => rfin (m := m) (fl := fl) (a := a) (fr := fr) (lo := lo) (I := I) (Q := Q) (kd := kd) h6 hc L2 F2 Fc2 Pk sw sh hp2 k0 k1 c0 c2 ea3 ec3 hw3 hv3 I3k ⟨kk.2.1, kk.2.2⟩ z110 z108 q2o i3o m3o m37 m3108 m3110 f sp I4 m4 U
  have rfb : 0 ≤ rf → r3 = some (pj rf) ∧ RfE s Q I m (pj rf) w h rf ∧ pj rf ≠ pj k := fun e => by
    have e1 : fr ≤ rf := rfr.1.resolve_left (by omega)
    exact ⟨by rw [hr3, if_pos e]; exact (pcs rf e1 (by omega)).1, prv rf e1 (by omega), dst rf k e1 (by omega) frk (by omega) (by omega)⟩
  by_cases d0 : cod = 0
  · -- blocks
    subst d0
    have RK : RfK s Q2 I3 M3 (pj rf) (pj l) (pj k) w h k kd rf l := by
      refine ⟨fun e => ?_, fun e => ?_⟩
      · have r0 : 0 ≤ rf := by
          rw [hrf]
          by_cases c : kd = 2
          · rw [if_pos c]; exact an2 c
          · rw [if_neg c]; exact an1 e
        obtain ⟨b1, b2, b3⟩ := rfb r0
        exact ⟨ha, by rw [Q113]; exact b1, rfT b2, b3, by omega⟩
      · have l0 : 0 ≤ l := an1 (by omega)
        have e1 : fr ≤ l := lf.resolve_left (by omega)
        exact ⟨fun m' g1 g2 => (k239 m' g1 g2).1, by rw [Q114, if_pos ⟨e, l0⟩]; exact (pcs l e1 (by omega)).1, rfT (prv l e1 (by omega)), dst l k e1 (by omega) frk (by omega) (by omega), by omega⟩
    obtain ⟨f, sp, I4, m4, x1, x2, x3, x4⟩ := core_b (I := I3) (m := M3) (c := c) (st := m 104 k) (am := rf) (x1 := some a) (x2 := some c) L2 h6 Fc2 hc Pk Q112 hw3 hv3 sw sh (by rw [m37 33 (by decide)]; exact mw) (by rw [m37 34 (by decide)]; exact mh) k0 k1 I3k mk3 kk.2.1 kk.2.2 I3s (by rw [m3o 104 (by decide) (by decide) (by decide)]) st0 st1 RK ha (by omega) (by omega) (by omega) R
    refine fin f sp I4 m4 _ (by rw [C0, if_pos rfl]; exact x1) (by rw [D0, if_pos rfl, x2, Option.bind_some]) x3 (fun _ => x4) (fun _ => ⟨r3, by rw [if_pos (Or.inl rfl)]; exact Q113, ?_⟩)
    by_cases r0 : 0 ≤ rf
    · obtain ⟨b1, b2, b3⟩ := rfb r0
      refine Or.inr ⟨pj rf, b1, pc2 b2.1, b3, fun pl j p0 p2 j0 j1 => ?_⟩
      have := (rfT b2).2.2.2.2.2 pl j p0 p2 j0 j1
      rw [if_neg (by omega)]
      exact this
    · refine Or.inl ⟨by rw [hr3, if_neg r0], fun j => ?_⟩
      exact if_pos (by omega)
  · by_cases d1 : cod = 1
    · -- waves
      subst d1
      obtain ⟨f, sp, I4, m4, x1, x2, x3⟩ := core_w (I := I3) (m := M3) (c := c) (x1 := some a) (x2 := some c) L2 h6 Pk hw3 hv3 sw sh (by rw [m37 33 (by decide)]; exact mw) (by rw [m37 34 (by decide)]; exact mh) k0 k1 R
      exact fin f sp I4 m4 _ (by rw [C0, if_neg (by decide), if_pos rfl]; exact x1) (by rw [D0, if_neg (by decide), if_pos rfl, x2, Option.bind_some]) x3 (fun e => absurd e (by decide)) (fun _ => ⟨none, by rw [if_neg (by omega)], Or.inl ⟨rfl, fun _ => rfl⟩⟩)
    · -- runs
      have d2 : cod = 2 := by omega
      subst d2
      have k2 := cd2 rfl
      have kr : kd = 0 ∨ kd = 1 := by omega
      obtain ⟨an, han⟩ : ∃ z, z = if M3 102 k = 1 then Q2 11 3 else none := ⟨_, rfl⟩
      rw [mk3] at han
      have rl : rf = l := by rw [hrf, if_neg k2]
      have AN : An s Q2 I3 M3 (pj k) w h k an rf := by
        rcases kr with e | e
        · exact Or.inl ⟨by rw [han, if_neg (by omega)], by rw [mk3]; exact e⟩
        · have r0 : 0 ≤ rf := by rw [rl]; exact an1 (by omega)
          obtain ⟨b1, b2, b3⟩ := rfb r0
          exact Or.inr ⟨pj rf, by rw [han, if_pos e, Q113]; exact b1, by rw [mk3]; exact e, pc2 b2.1, b3, r0, by omega, by omega, fun m' g1 g2 => by rw [rl]; exact (k239 m' g1 g2).1, (rfT b2).2.2.2.2.2⟩
      obtain ⟨f, sp, I4, m4, x1, x2, x3⟩ := core_r (I := I3) (m := M3) (c := c) (an := an) (ak := rf) (x1 := some a) (x2 := some c) L2 h6 Pk hw3 hv3 sw sh (by rw [m37 33 (by decide)]; exact mw) (by rw [m37 34 (by decide)]; exact mh) k0 k1 (by rw [mk3]; exact I3k) (by rw [mk3]; exact han) AN R
      refine fin f sp I4 m4 _ (by rw [C0, if_neg (by decide), if_neg (by decide)]; exact x1) (by rw [D0, if_neg (by decide), if_neg (by decide), x2, Option.bind_some]) x3 (fun e => absurd e (by decide)) (fun _ => ⟨if kd = 1 then r3 else none, ?_, ?_⟩)
      · by_cases e : kd = 1
        · rw [if_pos (Or.inr ⟨rfl, e⟩), if_pos e]; exact Q113
        · rw [if_neg (by omega), if_neg e]
      · rcases kr with e | e
        · refine Or.inl ⟨if_neg (by omega), fun j => ?_⟩
          exact if_pos (by rw [mk3]; exact e)
        · have r0 : 0 ≤ rf := by rw [rl]; exact an1 (by omega)
          obtain ⟨b1, b2, b3⟩ := rfb r0
          refine Or.inr ⟨pj rf, by rw [if_pos e]; exact b1, pc2 b2.1, b3, fun pl j p0 p2 j0 j1 => ?_⟩
          have := (rfT b2).2.2.2.2.2 pl j p0 p2 j0 j1
          rw [if_neg (by rw [mk3]; omega)]
          exact this
end RPic2
