/-! a part foretold by the class -/
def hwm (md kd : Int) : Int := if 4 ≤ md then md - 4 else if md = 1 then 3 else if md = 2 then 4 else if md = 3 then 5 else if kd = 2 then 5 else 3
def pvV (how : Int) (g S1 S2 : Int → Int) (W H x0 y0 sd fx fy bx by' r c : Int) : Int := if how < 3 then sprd how g W x0 y0 sd r c else if how = 3 then ft S1 W H (x0 + c) (y0 + r) fx fy else if how = 4 then ft S2 W H (x0 + c) (y0 + r) bx by' else (ft S1 W H (x0 + c) (y0 + r) fx fy + ft S2 W H (x0 + c) (y0 + r) bx by' + 1) / 2
/-- a picture of this size, its samples within bounds -/
def PcS (s : hS) (Q : hQ) (I : jM) (b : Nat) (w h : Int) : Prop := PcC s Q b ∧ I b 0 = w ∧ I b 1 = h ∧ ∀ pl j : Int, 0 ≤ pl → pl ≤ 2 → 0 ≤ j → j < pw w pl * pw h pl → 0 ≤ I (b + 1) (pb w h pl + j) ∧ I (b + 1) (pb w h pl + j) ≤ 255
section Foretell
variable {s : hS} {Q : hQ} {hm : hO} {I m : jM} {T p b1 b2 : Nat} {w h k X Y md kd v0 v1 v2 v3 : Int}
/-- rows that foretelling writes -/
def FoT (T : Nat) (I J : jM) : Prop := ∀ x : Nat, x ≠ T + 1 → x ≠ T + 2 → x ≠ T + 8 → x ≠ T + 9 → J x = I x
/-- plane pl written with V, the rest as before -/
def plW (pl : Int) (V : Int → Int → Int) (g G : Int → Int) : Prop := (∀ r i : Int, 0 ≤ r → r < sdOf pl → 0 ≤ i → i < sdOf pl → G (ppb pl + (r * sdOf pl + i)) = V r i) ∧ ∀ j : Int, j < ppb pl ∨ ppb pl + sdOf pl * sdOf pl ≤ j → G j = g j
theorem ppb_d {p q : Int} (p0 : 0 ≤ p) (p2 : p ≤ 2) (q0 : 0 ≤ q) (q2 : q ≤ 2) (ne : p ≠ q) : ppb p + sdOf p * sdOf p ≤ ppb q ∨ ppb q + sdOf q * sdOf q ≤ ppb p := by
  have h1 : p = 0 ∨ p = 1 ∨ p = 2 := by omega
  have h2 : q = 0 ∨ q = 1 ∨ q = 2 := by omega
  rcases h1 with rfl | rfl | rfl <;> rcases h2 with rfl | rfl | rfl <;> first | exact absurd rfl ne | decide
theorem sd_rc {sd r c : Int} (r0 : 0 ≤ r) (r1 : r < sd) (c0 : 0 ≤ c) (c1 : c < sd) : 0 ≤ r * sd + c ∧ r * sd + c < sd * sd := by
  have := dm_b (W := sd) (H := sd) r0 r1 c0 c1
  exact this
theorem fe80 {pl : Int} {J : jM} (F : PtC s Q T) (h6 : s.1 ≤ 1000000) (P : PcC s Q p) (q2T : Q T 2 = some p) (hw : I p 0 = w) (hv : I p 1 = h) (sw : isSd w) (sh : isSd h) (p0 : 0 ≤ pl) (p2 : pl ≤ 2) (eX : I T 5 = X) (eY : I T 6 = Y) (X0 : 0 ≤ X) (X1 : X < w / 8) (Y0 : 0 ≤ Y) (Y1 : Y < h / 8) (m4 : 4 ≤ md) (m6 : md ≤ 6) (nb : nbB (fun j => I (p + 1) (pb w h pl + j)) (pw w pl) (X * sdOf pl) (Y * sdOf pl) (sdOf pl)) (O : FoT T I J) : ∃ J', jd_80 T md pl (hh s Q J) = some (hh s Q J') ∧ FoT T I J' ∧ plW pl (fun r c => sprd (md - 4) (fun j => I (p + 1) (pb w h pl + j)) (pw w pl) (X * sdOf pl) (Y * sdOf pl) (sdOf pl) r c) (J (T + 1)) (J' (T + 1)) := by
  have P1 := P.1
  have F76 := F.2.2.2.2
  have jp : J p = I p := O p (by omega) (by omega) (by omega) (by omega)
  have jp1 : J (p + 1) = I (p + 1) := O _ (by omega) (by omega) (by omega) (by omega)
  have jT : J T = I T := O T (by omega) (by omega) (by omega) (by omega)
  obtain ⟨G, e, h1, h2⟩ := c_80 (I := J) (md := md) F h6 P q2T (by rw [jp]; exact hw) (by rw [jp]; exact hv) sw sh p0 p2 (by rw [jT]; exact eX) (by rw [jT]; exact eY) X0 X1 Y0 Y1 m4 m6 (by rw [jp1]; exact nb)
  rw [jp1] at h1
  refine ⟨_, e, fun x a1 a2 a3 a4 => ?_, ?_⟩
  · rw [ims_o a1]
    exact O x a1 a2 a3 a4
  · rw [ims_e]
    exact ⟨h1, h2⟩
theorem fe82 {pl wh va vb : Int} {b c : Nat} {J : jM} (F : PtC s Q T) (h6 : s.1 ≤ 1000000) (hc : c = T + 1 ∨ c = T + 2) (B : PcS s Q I b w h) (sw : isSd w) (sh : isSd h) (p0 : 0 ≤ pl) (p2 : pl ≤ 2) (w0 : 0 ≤ wh) (w2 : wh ≤ 2) (ex : I (T + 5) wh = va) (ey : I (T + 5) (wh + 1) = vb) (a0 : -16 ≤ va) (a1 : va ≤ 16) (b0 : -16 ≤ vb) (b1 : vb ≤ 16) (eX : I T 5 = X) (eY : I T 6 = Y) (X0 : 0 ≤ X) (X1 : X < w / 8) (Y0 : 0 ≤ Y) (Y1 : Y < h / 8) (O : FoT T I J) : ∃ J', jd_82 T (some b) pl wh (some c) (hh s Q J) = some (hh s Q J') ∧ FoT T I J' ∧ plW pl (fun r i => ft (fun j => I (b + 1) (pb w h pl + j)) (pw w pl) (pw h pl) (X * sdOf pl + i) (Y * sdOf pl + r) (hvf pl va) (hvf pl vb)) (J c) (J' c) ∧ ∀ x : Nat, x ≠ c → x ≠ T + 8 → x ≠ T + 9 → J' x = J x := by
  obtain ⟨BC, hw, hv, smp⟩ := B
  have P1 := BC.1
  have F76 := F.2.2.2.2
  have jb : J b = I b := O b (by omega) (by omega) (by omega) (by omega)
  have jb1 : J (b + 1) = I (b + 1) := O _ (by omega) (by omega) (by omega) (by omega)
  have jT : J T = I T := O T (by omega) (by omega) (by omega) (by omega)
  have jT5 : J (T + 5) = I (T + 5) := O _ (by omega) (by omega) (by omega) (by omega)
  obtain ⟨G8, G9, G, e, h1, h2⟩ := c_82 (I := J) F h6 hc BC (by rw [jb]; exact hw) (by rw [jb]; exact hv) sw sh p0 p2 w0 w2 (by rw [jT5]; exact ex) (by rw [jT5]; exact ey) a0 a1 b0 b1 (by rw [jT]; exact eX) (by rw [jT]; exact eY) X0 X1 Y0 Y1 (by rw [jb1]; exact fun j j0 j1 => smp pl j p0 p2 j0 j1)
  rw [jb1] at h1
  refine ⟨_, e, fun x a1 a2 a3 a4 => ?_, ?_, fun x a1 a2 a3 => ?_⟩
  · rw [ims_o (by rcases hc with rfl | rfl <;> assumption), ims_o a4, ims_o a3]
    exact O x a1 a2 a3 a4
  · rw [ims_e]
    exact ⟨h1, h2⟩
  · rw [ims_o a1, ims_o a3, ims_o a2]
/-- the part as foretold, plane by plane, before the two are brought together -/
theorem c_79l (F : PtC s Q T) (h6 : s.1 ≤ 1000000) (P : PcC s Q p) (q2T : Q T 2 = some p) (hw : I p 0 = w) (hv : I p 1 = h) (sw : isSd w) (sh : isSd h) (eX : I T 5 = X) (eY : I T 6 = Y) (X0 : 0 ≤ X) (X1 : X < w / 8) (Y0 : 0 ≤ Y) (Y1 : Y < h / 8) (m0 : 0 ≤ md) (m6 : md ≤ 6) (nb : 4 ≤ md → ∀ pl : Int, 0 ≤ pl → pl ≤ 2 → nbB (fun j => I (p + 1) (pb w h pl + j)) (pw w pl) (X * sdOf pl) (Y * sdOf pl) (sdOf pl)) (ev0 : I (T + 5) 0 = v0) (ev1 : I (T + 5) 1 = v1) (ev2 : I (T + 5) 2 = v2) (ev3 : I (T + 5) 3 = v3) (r0 : -16 ≤ v0 ∧ v0 ≤ 16) (r1 : -16 ≤ v1 ∧ v1 ≤ 16) (r2 : -16 ≤ v2 ∧ v2 ≤ 16) (r3 : -16 ≤ v3 ∧ v3 ≤ 16) {fb fa : Int} (hfb : fb = 0 ∨ fb = 1) (hfa : fa = 0 ∨ fa = 1) (h1 : fb = 1 → Q T 3 = some b1 ∧ PcS s Q I b1 w h) (h2 : fa = 1 → Q T 4 = some b2 ∧ PcS s Q I b2 w h) (hx : 4 ≤ md → fb = 0 ∧ fa = 0) (hy : md < 4 → fb = 1 ∨ fa = 1) : ∃ J, jd_79_l51 T md fb fa 0 (hh s Q I) = some (hh s Q J) ∧ FoT T I J ∧ ∀ pl r i : Int, 0 ≤ pl → pl ≤ 2 → 0 ≤ r → r < sdOf pl → 0 ≤ i → i < sdOf pl → J (T + 1) (ppb pl + (r * sdOf pl + i)) = (if 4 ≤ md then sprd (md - 4) (fun j => I (p + 1) (pb w h pl + j)) (pw w pl) (X * sdOf pl) (Y * sdOf pl) (sdOf pl) r i else if fb = 1 then ft (fun j => I (b1 + 1) (pb w h pl + j)) (pw w pl) (pw h pl) (X * sdOf pl + i) (Y * sdOf pl + r) (hvf pl v0) (hvf pl v1) else ft (fun j => I (b2 + 1) (pb w h pl + j)) (pw w pl) (pw h pl) (X * sdOf pl + i) (Y * sdOf pl + r) (hvf pl v2) (hvf pl v3)) ∧ (fb = 1 → fa = 1 → J (T + 2) (ppb pl + (r * sdOf pl + i)) = ft (fun j => I (b2 + 1) (pb w h pl + j)) (pw w pl) (pw h pl) (X * sdOf pl + i) (Y * sdOf pl + r) (hvf pl v2) (hvf pl v3)) := by
  have F76 := F.2.2.2.2
  have q7 := T_q F 1 7 rfl rfl rfl
  have q8 := T_q F 2 8 rfl rfl rfl
  obtain ⟨Va, hVa⟩ : ∃ V : Int → Int → Int → Int, V = fun pl r i => (if 4 ≤ md then sprd (md - 4) (fun j => I (p + 1) (pb w h pl + j)) (pw w pl) (X * sdOf pl) (Y * sdOf pl) (sdOf pl) r i else if fb = 1 then ft (fun j => I (b1 + 1) (pb w h pl + j)) (pw w pl) (pw h pl) (X * sdOf pl + i) (Y * sdOf pl + r) (hvf pl v0) (hvf pl v1) else ft (fun j => I (b2 + 1) (pb w h pl + j)) (pw w pl) (pw h pl) (X * sdOf pl + i) (Y * sdOf pl + r) (hvf pl v2) (hvf pl v3)) := ⟨_, rfl⟩
  obtain ⟨Vb, hVb⟩ : ∃ V : Int → Int → Int → Int, V = fun pl r i => ft (fun j => I (b2 + 1) (pb w h pl + j)) (pw w pl) (pw h pl) (X * sdOf pl + i) (Y * sdOf pl + r) (hvf pl v2) (hvf pl v3) := ⟨_, rfl⟩
  have l : wT (jd_79_l51 T md fb fa 0 (hh s Q I)) (fun o => ∃ J, o = hh s Q J ∧ FoT T I J ∧ ∀ pl r i : Int, 0 ≤ pl → pl ≤ 2 → 0 ≤ r → r < sdOf pl → 0 ≤ i → i < sdOf pl → J (T + 1) (ppb pl + (r * sdOf pl + i)) = Va pl r i ∧ (fb = 1 → fa = 1 → J (T + 2) (ppb pl + (r * sdOf pl + i)) = Vb pl r i)) := by
    unfold jd_79_l51
    refine w_lp (fun n u => ∃ J, u = ((n : Int), hh s Q J) ∧ FoT T I J ∧ ∀ pl r i : Int, 0 ≤ pl → pl < (n : Int) → 0 ≤ r → r < sdOf pl → 0 ≤ i → i < sdOf pl → J (T + 1) (ppb pl + (r * sdOf pl + i)) = Va pl r i ∧ (fb = 1 → fa = 1 → J (T + 2) (ppb pl + (r * sdOf pl + i)) = Vb pl r i)) 3 (fun n u hn hu => ?_) (n_fu (by omega)) ⟨I, rfl, fun _ _ _ _ _ => rfl, fun pl r i h0 h1 => absurd h1 (by omega)⟩
    obtain ⟨J, rfl, O, hJ⟩ := hu
    unfold jd_79_s51
    dsimp only
    rw [n_jw (z := (n : Int)) (by omega) (by omega)]
    by_cases cn : (3 : Int) ≤ (n : Int)
    · rw [if_pos cn]
      exact wT_ret ⟨J, rfl, O, fun pl r i h0 h1 => hJ pl r i h0 (by omega)⟩
    · have n0 : (0 : Int) ≤ (n : Int) := by omega
      have n2 : (n : Int) ≤ 2 := by omega
      rw [if_neg cn, n_jw (z := md) (by omega) (by omega)]
      -- going on: planes before stay
      have go : ∀ J', FoT T I J' → plW (n : Int) (Va (n : Int)) (J (T + 1)) (J' (T + 1)) → ((fb = 1 → fa = 1 → plW (n : Int) (Vb (n : Int)) (J (T + 2)) (J' (T + 2)))) → wT (some (Sum.inl ((n : Int) + 1, hh s Q J')) : Option ((Int × jH) ⊕ jH)) (fun o => jse o (fun s' => n < 3 ∧ ∃ J, s' = (((n + 1 : Nat) : Int), hh s Q J) ∧ FoT T I J ∧ ∀ pl r i : Int, 0 ≤ pl → pl < ((n + 1 : Nat) : Int) → 0 ≤ r → r < sdOf pl → 0 ≤ i → i < sdOf pl → J (T + 1) (ppb pl + (r * sdOf pl + i)) = Va pl r i ∧ (fb = 1 → fa = 1 → J (T + 2) (ppb pl + (r * sdOf pl + i)) = Vb pl r i)) (fun o => ∃ J, o = hh s Q J ∧ FoT T I J ∧ ∀ pl r i : Int, 0 ≤ pl → pl ≤ 2 → 0 ≤ r → r < sdOf pl → 0 ≤ i → i < sdOf pl → J (T + 1) (ppb pl + (r * sdOf pl + i)) = Va pl r i ∧ (fb = 1 → fa = 1 → J (T + 2) (ppb pl + (r * sdOf pl + i)) = Vb pl r i))) := by
        intro J' O' W1 W2
        refine wT_ret ⟨by omega, J', by rw [show ((n + 1 : Nat) : Int) = (n : Int) + 1 by omega], O', fun pl r i h0 h1 h2 h3 h4 h5 => ?_⟩
        by_cases cp : pl = (n : Int)
        · subst cp
          exact ⟨W1.1 r i h2 h3 h4 h5, fun a b => (W2 a b).1 r i h2 h3 h4 h5⟩
        · have rc := sd_rc h2 h3 h4 h5
          have d := ppb_d (p := pl) (q := (n : Int)) h0 (by omega) n0 n2 cp
          rw [W1.2 _ (by omega)]
          have old := hJ pl r i h0 (by omega) h2 h3 h4 h5
          exact ⟨old.1, fun a b => by rw [(W2 a b).2 _ (by omega)]; exact old.2 a b⟩
      by_cases c4 : 4 ≤ md
      · obtain ⟨f0, a0⟩ := hx c4
        obtain ⟨J', e', O', W'⟩ := fe80 (md := md) F h6 P q2T hw hv sw sh n0 n2 eX eY X0 X1 Y0 Y1 c4 m6 (nb c4 n n0 n2) O
        unfold jd_79_b69 jd_79_b88 jd_79_b118
        rw [if_neg (by omega), T_ck F, Option.bind_some, e', Option.bind_some, if_pos (show jw fb = 0 by rw [f0]; rfl), if_pos (show jw fa = 0 by rw [a0]; rfl)]
        refine go J' O' ?_ (fun a => absurd a (by omega))
        rw [hVa]
        dsimp only
        have : (fun r i => if 4 ≤ md then sprd (md - 4) (fun j => I (p + 1) (pb w h (n : Int) + j)) (pw w (n : Int)) (X * sdOf (n : Int)) (Y * sdOf (n : Int)) (sdOf (n : Int)) r i else if fb = 1 then ft (fun j => I (b1 + 1) (pb w h (n : Int) + j)) (pw w (n : Int)) (pw h (n : Int)) (X * sdOf (n : Int) + i) (Y * sdOf (n : Int) + r) (hvf (n : Int) v0) (hvf (n : Int) v1) else ft (fun j => I (b2 + 1) (pb w h (n : Int) + j)) (pw w (n : Int)) (pw h (n : Int)) (X * sdOf (n : Int) + i) (Y * sdOf (n : Int) + r) (hvf (n : Int) v2) (hvf (n : Int) v3)) = fun r i => sprd (md - 4) (fun j => I (p + 1) (pb w h (n : Int) + j)) (pw w (n : Int)) (X * sdOf (n : Int)) (Y * sdOf (n : Int)) (sdOf (n : Int)) r i := by
          funext r i
          rw [if_pos c4]
        rw [this]
        exact W'
      · rw [if_pos (by omega)]
        unfold jd_79_b69
        rcases hfb with f0 | f1
        · -- ahead alone
          have a1 : fa = 1 := (hy (by omega)).resolve_left (by omega)
          obtain ⟨q4, B2⟩ := h2 a1
          have q4' : Q T ((4 : Nat) : Int) = some b2 := q4
          obtain ⟨J', e', O', W', N'⟩ := fe82 (c := T + 1) (wh := 2) F h6 (Or.inl rfl) B2 sw sh n0 n2 (by decide) (by decide) ev2 ev3 r2.1 r2.2 r3.1 r3.2 eX eY X0 X1 Y0 Y1 O
          unfold jd_79_b88 jd_79_b115 jd_79_b118
          rw [if_pos (show jw fb = 0 by rw [f0]; rfl), if_neg (show ¬ jw fa = 0 by rw [a1]; decide), T_gr F, Option.bind_some, if_pos (show jw fb = 0 by rw [f0]; rfl), T_gr F, Option.bind_some, T_ck F, Option.bind_some, q4', q7, e', Option.bind_some]
          refine go J' O' ?_ (fun a => absurd a (by omega))
          rw [hVa]
          dsimp only
          have : (fun r i => if 4 ≤ md then sprd (md - 4) (fun j => I (p + 1) (pb w h (n : Int) + j)) (pw w (n : Int)) (X * sdOf (n : Int)) (Y * sdOf (n : Int)) (sdOf (n : Int)) r i else if fb = 1 then ft (fun j => I (b1 + 1) (pb w h (n : Int) + j)) (pw w (n : Int)) (pw h (n : Int)) (X * sdOf (n : Int) + i) (Y * sdOf (n : Int) + r) (hvf (n : Int) v0) (hvf (n : Int) v1) else ft (fun j => I (b2 + 1) (pb w h (n : Int) + j)) (pw w (n : Int)) (pw h (n : Int)) (X * sdOf (n : Int) + i) (Y * sdOf (n : Int) + r) (hvf (n : Int) v2) (hvf (n : Int) v3)) = fun r i => ft (fun j => I (b2 + 1) (pb w h (n : Int) + j)) (pw w (n : Int)) (pw h (n : Int)) (X * sdOf (n : Int) + i) (Y * sdOf (n : Int) + r) (hvf (n : Int) v2) (hvf (n : Int) v3) := by
            funext r i
            rw [if_neg c4, if_neg (by omega)]
          rw [this]
          exact W'
        · obtain ⟨q3, B1⟩ := h1 f1
          have q3' : Q T ((3 : Nat) : Int) = some b1 := q3
          obtain ⟨J', e', O', W', N'⟩ := fe82 (c := T + 1) (wh := 0) F h6 (Or.inl rfl) B1 sw sh n0 n2 (by decide) (by decide) ev0 ev1 r0.1 r0.2 r1.1 r1.2 eX eY X0 X1 Y0 Y1 O
          have thisV : Va (n : Int) = fun r i => ft (fun j => I (b1 + 1) (pb w h (n : Int) + j)) (pw w (n : Int)) (pw h (n : Int)) (X * sdOf (n : Int) + i) (Y * sdOf (n : Int) + r) (hvf (n : Int) v0) (hvf (n : Int) v1) := by
            rw [hVa]
            funext r i
            dsimp only
            rw [if_neg c4, if_pos f1]
          rw [if_neg (show ¬ jw fb = 0 by rw [f1]; decide), T_gr F, Option.bind_some, T_gr F, Option.bind_some, T_ck F, Option.bind_some, q3', q7, e', Option.bind_some]
          unfold jd_79_b88 jd_79_b115 jd_79_b118
          rcases hfa with a0 | a1
          · rw [if_pos (show jw fa = 0 by rw [a0]; rfl)]
            refine go J' O' ?_ (fun _ b => absurd b (by omega))
            rw [thisV]
            exact W'
          · obtain ⟨q4, B2⟩ := h2 a1
            have q4' : Q T ((4 : Nat) : Int) = some b2 := q4
            obtain ⟨J2, e2, O2, W2, N2⟩ := fe82 (c := T + 2) (wh := 2) F h6 (Or.inr rfl) B2 sw sh n0 n2 (by decide) (by decide) ev2 ev3 r2.1 r2.2 r3.1 r3.2 eX eY X0 X1 Y0 Y1 O'
            rw [if_neg (show ¬ jw fa = 0 by rw [a1]; decide), T_gr F, Option.bind_some, if_neg (show ¬ jw fb = 0 by rw [f1]; decide), T_gr F, Option.bind_some, T_ck F, Option.bind_some, q4', q8, e2, Option.bind_some]
            refine go J2 O2 ?_ (fun _ _ => ?_)
            · rw [thisV, N2 (T + 1) (by omega) (by omega) (by omega)]
              exact W'
            · rw [hVb]
              rw [N' (T + 2) (by omega) (by omega) (by omega)] at W2
              exact W2
  obtain ⟨o, eo, J, rfl, O, hJ⟩ := l
  rw [hVa, hVb] at hJ
  exact ⟨J, eo, O, hJ⟩
end Foretell
