/-! a part fetched: a plane of it -/
def ppb (p : Int) : Int := if p = 0 then 0 else if p = 1 then 64 else 80
def hvf (p v : Int) : Int := if p = 0 then v else jdiv v 2
theorem hvf_b {p v : Int} (h0 : -16 ≤ v) (h1 : v ≤ 16) : -16 ≤ hvf p v ∧ hvf p v ≤ 16 := by
  unfold hvf
  split
  · exact ⟨h0, h1⟩
  · have : ∀ i : Fin 33, -16 ≤ jdiv ((i.val : Int) - 16) 2 ∧ jdiv ((i.val : Int) - 16) 2 ≤ 16 := by decide
    have := this ⟨(v + 16).toNat, by omega⟩
    dsimp only at this
    rw [show (((v + 16).toNat : Nat) : Int) - 16 = v by omega] at this
    exact this
theorem jst_3 {p : Int} (h0 : 0 ≤ p) (h1 : p ≤ 2) : jst 3 p = some (ppb p) := by
  have : ∀ i : Fin 3, jst 3 (i.val : Int) = some (ppb (i.val : Int)) := by decide
  have := this ⟨p.toNat, by omega⟩
  dsimp only at this
  rw [show ((p.toNat : Nat) : Int) = p by omega] at this
  exact this
theorem ppb_b {p : Int} (h0 : 0 ≤ p) (h1 : p ≤ 2) : 0 ≤ ppb p ∧ ppb p + sdOf p * sdOf p ≤ 96 ∧ (sdOf p = 8 ∨ sdOf p = 4) := by
  have : p = 0 ∨ p = 1 ∨ p = 2 := by omega
  rcases this with rfl | rfl | rfl <;> decide
theorem k_243 {p : Int} (hp : okI p) : jd_243 p = sdOf p := sd_of hp
theorem k_244 {p : Int} (h0 : 0 ≤ p) (h1 : p ≤ 2) : jd_244 p = ppb p := by
  unfold jd_244 ppb
  rw [n_jw (by omega) (by omega)]
/-- a part's corner: how far it is from the plane's sides -/
theorem pt_r {w p X : Int} (sw : isSd w) (p0 : 0 ≤ p) (p2 : p ≤ 2) (x0 : 0 ≤ X) (x1 : X < w / 8) : 0 ≤ X * sdOf p ∧ X * sdOf p + sdOf p ≤ pw w p := by
  have hp : p = 0 ∨ p = 1 ∨ p = 2 := by omega
  unfold pw sdOf
  rcases sw with rfl | rfl | rfl <;> rcases hp with rfl | rfl | rfl <;> simp <;> omega
section Fetch2
variable {s : hS} {Q : hQ} {hm : hO} {I m : jM} {T a b c : Nat} {w h pl X Y wh vx vy : Int}
theorem c_82 (F : PtC s Q T) (h6 : s.1 ≤ 1000000) (hc : c = T + 1 ∨ c = T + 2) (B : PcC s Q b) (hw : I b 0 = w) (hv : I b 1 = h) (sw : isSd w) (sh : isSd h) (p0 : 0 ≤ pl) (p2 : pl ≤ 2) (w0 : 0 ≤ wh) (w2 : wh ≤ 2) (ex : I (T + 5) wh = vx) (ey : I (T + 5) (wh + 1) = vy) (vx0 : -16 ≤ vx) (vx1 : vx ≤ 16) (vy0 : -16 ≤ vy) (vy1 : vy ≤ 16) (eX : I T 5 = X) (eY : I T 6 = Y) (X0 : 0 ≤ X) (X1 : X < w / 8) (Y0 : 0 ≤ Y) (Y1 : Y < h / 8) (smp : ∀ j : Int, 0 ≤ j → j < pw w pl * pw h pl → 0 ≤ I (b + 1) (pb w h pl + j) ∧ I (b + 1) (pb w h pl + j) ≤ 255) : ∃ G8 G9 G, jd_82 T (some b) pl wh (some c) (hh s Q I) = some (hh s Q (ims (ims (ims I (T + 8) G8) (T + 9) G9) c G)) ∧ (∀ r i : Int, 0 ≤ r → r < sdOf pl → 0 ≤ i → i < sdOf pl → G (ppb pl + (r * sdOf pl + i)) = ft (fun j => I (b + 1) (pb w h pl + j)) (pw w pl) (pw h pl) (X * sdOf pl + i) (Y * sdOf pl + r) (hvf pl vx) (hvf pl vy)) ∧ (∀ j : Int, j < ppb pl ∨ ppb pl + sdOf pl * sdOf pl ≤ j → G j = I c j) := by
  obtain ⟨B1, B2, B3, B4, B5, B6, B7⟩ := id B
  have F76 := F.2.2.2.2
  have t14 : s.2.2.1 b = 6 + 8 := B3
  have ok : okI pl := by unfold okI; omega
  have q2 : Q b ((2 : Nat) : Int) = some (b + 1) := B7
  have q11 := T_q F 5 11 rfl rfl rfl
  have q14 := T_q F 8 14 rfl rfl rfl
  have q15 := T_q F 9 15 rfl rfl rfl
  have g8 := F.2.2.1 8 (by decide) (by decide)
  have g9 := F.2.2.1 9 (by decide) (by decide)
  have bw := pw_sd sw pl
  have bh := pw_sd sh pl
  have ps := pl_sz sw sh p0 p2
  have pp := ppb_b p0 p2
  have rx := pt_r sw p0 p2 X0 X1
  have ry := pt_r sh p0 p2 Y0 Y1
  have hx := hvf_b (p := pl) vx0 vx1
  have hy := hvf_b (p := pl) vy0 vy1
  obtain ⟨sd, esd⟩ : ∃ z, sdOf pl = z := ⟨_, rfl⟩
  obtain ⟨HX, eHX⟩ : ∃ z, hvf pl vx = z := ⟨_, rfl⟩
  obtain ⟨HY, eHY⟩ : ∃ z, hvf pl vy = z := ⟨_, rfl⟩
  obtain ⟨W, eW⟩ : ∃ z, pw w pl = z := ⟨_, rfl⟩
  obtain ⟨H, eH⟩ : ∃ z, pw h pl = z := ⟨_, rfl⟩
  obtain ⟨pB, epB⟩ : ∃ z, pb w h pl = z := ⟨_, rfl⟩
  obtain ⟨pQ, epQ⟩ : ∃ z, ppb pl = z := ⟨_, rfl⟩
  rw [esd] at pp rx ry
  rw [epQ] at pp
  rw [eHX] at hx
  rw [eHY] at hy
  rw [eW] at bw ps rx smp
  rw [eH] at bh ps ry smp
  rw [epB] at ps smp
  rw [esd, eHX, eHY, eW, eH, epB, epQ]
  obtain ⟨G8, k8, v8⟩ := c_84 (Q := Q) (I := I) (start := X * sd) (side := sd) (hv := HX) (size := W) (stride := 1) (bs := 0) g8.1 g8.2.1 g8.2.2 (by omega) (by omega) rx.1 (by omega) (by omega) (by omega) (by omega) (by omega)
  obtain ⟨G9, k9, v9⟩ := c_84 (Q := Q) (I := ims I (T + 8) G8) (start := Y * sd) (side := sd) (hv := HY) (size := H) (stride := W) (bs := pB) g9.1 g9.2.1 g9.2.2 (by omega) (by omega) ry.1 (by omega) (by omega) (by omega) (by omega) (by omega)
  obtain ⟨J, hJ⟩ : ∃ J, J = ims (ims I (T + 8) G8) (T + 9) G9 := ⟨_, rfl⟩
  rw [← hJ] at k9
  have J8 : J (T + 8) = G8 := by rw [hJ, ims_o (by omega), ims_e]
  have J9 : J (T + 9) = G9 := by rw [hJ, ims_e]
  have Jo : ∀ x : Nat, x ≠ T + 8 → x ≠ T + 9 → J x = I x := fun x h1 h2 => by rw [hJ, ims_o h2, ims_o h1]
  have Jb : J (b + 1) = I (b + 1) := Jo _ (by omega) (by omega)
  -- the rows
  have l : wT (jd_82_l129 T (some b) pl (some c) sd HX HY 0 (hh s Q J)) (fun o => ∃ G, o = hh s Q (ims J c G) ∧ (∀ r i : Int, 0 ≤ r → r < sd → 0 ≤ i → i < sd → G (pQ + (r * sd + i)) = ft (fun j => I (b + 1) (pB + j)) W H (X * sd + i) (Y * sd + r) HX HY) ∧ (∀ j : Int, j < pQ ∨ pQ + sd * sd ≤ j → G j = I c j)) := by
    unfold jd_82_l129
    refine w_lp (fun n u => ∃ G, u = ((n : Int), hh s Q (ims J c G)) ∧ (∀ r i : Int, 0 ≤ r → r < (n : Int) → 0 ≤ i → i < sd → G (pQ + (r * sd + i)) = ft (fun j => I (b + 1) (pB + j)) W H (X * sd + i) (Y * sd + r) HX HY) ∧ (∀ j : Int, j < pQ ∨ pQ + sd * sd ≤ j → G j = I c j)) sd.toNat (fun n u hn hu => ?_) (n_fu (by omega)) ⟨J c, by rw [ims_self]; rfl, fun r i h0 h1 => absurd h1 (by omega), fun j _ => by rw [Jo c (by omega) (by omega)]⟩
    obtain ⟨G, rfl, hG, hO⟩ := hu
    unfold jd_82_s129
    dsimp only
    rw [n_jw (z := sd) (by omega) (by omega), n_jw (z := (n : Int)) (by omega) (by omega)]
    by_cases cn : sd ≤ (n : Int)
    · rw [if_pos cn]
      exact wT_ret ⟨G, rfl, fun r i h0 h1 => hG r i h0 (by omega), hO⟩
    · have V9 := v9 (n : Int) (by omega) (by omega)
      obtain ⟨U, eU⟩ : ∃ z, z = nr (Y * sd + (n : Int) + HY / 2) H := ⟨_, rfl⟩
      obtain ⟨Lw, eL⟩ : ∃ z, z = nr (Y * sd + (n : Int) + HY / 2 + HY % 2) H := ⟨_, rfl⟩
      rw [← eU, ← eL] at V9
      have bU : 0 ≤ U ∧ U < H := by rw [eU]; exact nr_b (by omega)
      have bL : 0 ≤ Lw ∧ Lw < H := by rw [eL]; exact nr_b (by omega)
      have rg : ∀ u v : Int, 0 ≤ u ∧ u < H → 0 ≤ v ∧ v < W → 0 ≤ pB + W * u + v ∧ pB + W * u + v < 864 := fun u v hu hv => by
        have := dm_b (W := W) (H := H) hu.1 hu.2 hv.1 hv.2
        rw [Int.mul_comm W u]
        omega
      have nsd : (n : Int) * sd + sd ≤ sd * sd := by
        have := Int.mul_le_mul_of_nonneg_right (a := (n : Int) + 1) (b := sd) (c := sd) (by omega) (by omega)
        rw [Int.add_mul, Int.one_mul] at this
        exact this
      have n0 : 0 ≤ (n : Int) * sd := Int.mul_nonneg (by omega) (by omega)
      have jc9 : ims J c G (T + 9) = G9 := (ims_o (by omega)).trans J9
      have jc8 : ims J c G (T + 8) = G8 := (ims_o (by omega)).trans J8
      have jcb : ims J c G (b + 1) = I (b + 1) := (ims_o (by omega)).trans Jb
      have e85 := c_85 (Q := Q) (I := ims J c G) (C0 := fun i => nr (X * sd + i + HX / 2) W) (C8 := fun i => nr (X * sd + i + HX / 2 + HX % 2) W) (U := pB + W * U) (Lw := pB + W * Lw) (hv := HX % 2 + HY % 2) (side := sd) (r := (n : Int)) (at' := pQ + (n : Int) * sd) F h6 hc B (by omega) (by omega) (by omega) (by omega) (by omega) (by omega) (by omega) (by omega) (by rw [jc9]; exact V9.1) (by rw [jc9]; exact V9.2) (fun i i0 i1 => by
        have V8 := v8 i i0 i1
        have n1 := nr_b (v := X * sd + i + HX / 2) (n := W) (by omega)
        have n2 := nr_b (v := X * sd + i + HX / 2 + HX % 2) (n := W) (by omega)
        rw [jc8, V8.1, V8.2, Int.one_mul, Int.one_mul, Int.zero_add, Int.zero_add]
        have r1 := rg U _ bU n1
        have r2 := rg U _ bU n2
        have r3 := rg Lw _ bL n1
        have r4 := rg Lw _ bL n2
        exact ⟨rfl, rfl, r1.1, r1.2, r2.1, r2.2, r3.1, r3.2, r4.1, r4.2⟩)
      rw [if_neg cn, Option.bind_some, x_gr B2 t14, Option.bind_some, jst_3 p0 p2, Option.bind_some, T_ck F, Option.bind_some, q2, n_and1, n_and1, epQ, e85, Option.bind_some, ims_e, ims_ims, jcb]
      refine wT_ret ⟨by omega, _, by rw [show ((n + 1 : Nat) : Int) = (n : Int) + 1 by omega], fun r i h0 h1 h2 h3 => ?_, fun j hj => ?_⟩
      · by_cases cr : r = (n : Int)
        · subst cr
          obtain ⟨VV, hVV⟩ : ∃ V : Int → Int, V = fun i => if HX % 2 + HY % 2 = 1 then jdiv (I (b + 1) (pB + W * U + nr (X * sd + i + HX / 2) W) + I (b + 1) (pB + W * Lw + nr (X * sd + i + HX / 2 + HX % 2) W) + 1) 2 else if HX % 2 + HY % 2 = 2 then jdiv (I (b + 1) (pB + W * U + nr (X * sd + i + HX / 2) W) + (I (b + 1) (pB + W * U + nr (X * sd + i + HX / 2 + HX % 2) W) + I (b + 1) (pB + W * Lw + nr (X * sd + i + HX / 2) W)) + I (b + 1) (pB + W * Lw + nr (X * sd + i + HX / 2 + HX % 2) W) + 2) 4 else I (b + 1) (pB + W * U + nr (X * sd + i + HX / 2) W) := ⟨_, rfl⟩
          have k1 := wf_k (ix := fun i => pQ + (n : Int) * sd + i) (v := fun i _ => VV i) (g := G) (n := sd.toNat) (k := i.toNat) (by omega) (fun l _ _ => by omega)
          rw [show ((i.toNat : Nat) : Int) = i by omega] at k1
          rw [hVV] at k1
          rw [← Int.add_assoc]
          refine k1.trans ?_
          have n1 := nr_b (v := X * sd + i + HX / 2) (n := W) (by omega)
          have n2 := nr_b (v := X * sd + i + HX / 2 + HX % 2) (n := W) (by omega)
          have sm : ∀ u v : Int, 0 ≤ u ∧ u < H → 0 ≤ v ∧ v < W → I (b + 1) (pB + W * u + v) = I (b + 1) (pB + (u * W + v)) ∧ 0 ≤ I (b + 1) (pB + (u * W + v)) ∧ I (b + 1) (pB + (u * W + v)) ≤ 255 := fun u v hu hv => by
            have d := dm_b (W := W) (H := H) hu.1 hu.2 hv.1 hv.2
            rw [Int.mul_comm W u, Int.add_assoc]
            exact ⟨rfl, smp _ d.1 d.2⟩
          have a1 := sm U _ bU n1
          have a2 := sm U _ bU n2
          have a3 := sm Lw _ bL n1
          have a4 := sm Lw _ bL n2
          dsimp only
          rw [a1.1, a2.1, a3.1, a4.1]
          unfold ft
          dsimp only
          by_cases x2 : HX % 2 = 0
          · rw [if_pos x2]
            by_cases y2 : HY % 2 = 0
            · rw [if_pos y2, if_neg (by omega), if_neg (by omega), eU]
            · rw [if_neg y2, if_pos (by omega), n_div (by omega) (by omega) (by decide) (by decide), eU, eL, show HY % 2 = 1 by omega, show X * sd + i + HX / 2 + HX % 2 = X * sd + i + HX / 2 by omega]
          · rw [if_neg x2]
            by_cases y2 : HY % 2 = 0
            · rw [if_pos y2, if_pos (by omega), n_div (by omega) (by omega) (by decide) (by decide), show Lw = U by rw [eU, eL, y2, Int.add_zero], eU, show HX % 2 = 1 by omega]
            · rw [if_neg y2, if_neg (by omega), if_pos (by omega), n_div (by omega) (by omega) (by decide) (by decide), eU, eL, show HX % 2 = 1 by omega, show HY % 2 = 1 by omega, ← Int.add_assoc]
        · rw [wf_o (fun l hl => ?_)]
          · exact hG r i h0 (by omega) h2 h3
          · have : r * sd + sd ≤ (n : Int) * sd := by
              have := Int.mul_le_mul_of_nonneg_right (a := r + 1) (b := (n : Int)) (c := sd) (by omega) (by omega)
              rw [Int.add_mul, Int.one_mul] at this
              exact this
            omega
      · rw [wf_o (fun l hl => by omega)]
        exact hO j hj
  obtain ⟨o, eo, G, rfl, hG, hO⟩ := l
  refine ⟨G8, G9, G, ?_, hG, hO⟩
  rw [← hJ]
  have ex' : I (T + 5) wh = vx := ex
  have e5 : I T ((5 : Nat) : Int) = X := eX
  have e6 : ims I (T + 8) G8 T ((6 : Nat) : Int) = Y := by rw [ims_o (by omega)]; exact eY
  have jb : ims I (T + 8) G8 b = I b := ims_o (by omega)
  have b65 : jd_82_b65 T (some b) pl (some c) sd HX HY (hh s Q I) = some (hh s Q (ims J c G)) := by
    unfold jd_82_b65
    rw [Option.bind_some, x_ck B2 t14, Option.bind_some, c_96 B2 B3 hw sw ok, Option.bind_some, eW, T_gr F, Option.bind_some, q14, T_gi F, Option.bind_some, e5, k8, Option.bind_some, T_gr F, Option.bind_some, q15, T_gi F, Option.bind_some, e6, Option.bind_some, x_ck B2 t14, Option.bind_some, c_97 B2 B3 (by rw [jb]; exact hv) sh ok, Option.bind_some, Option.bind_some, x_ck B2 t14, Option.bind_some, c_98 B2 B3 (by rw [jb]; exact hw) (by rw [jb]; exact hv) sw sh ok, Option.bind_some, eH, epB, k9, Option.bind_some, eo, Option.bind_some]
  unfold jd_82 jd_82_b38
  rw [if_neg (Option.some_ne_none b), sd_of ok, esd, n_jw ok.1 ok.2]
  by_cases cp : pl = 0
  · have h1 : HX = vx := by rw [← eHX]; exact if_pos cp
    have h2 : HY = vy := by rw [← eHY]; exact if_pos cp
    rw [if_pos cp, T_gr F, Option.bind_some, q11, Option.bind_some, T_ai F h6 5 4 rfl rfl rfl rfl (by omega) (by omega), Option.bind_some, if_pos cp, Option.bind_some, Option.bind_some, T_ai F h6 5 4 rfl rfl rfl rfl (by omega) (by omega), Option.bind_some, ex, ey, ← h1, ← h2, b65]
  · have h1 : HX = jdiv vx 2 := by rw [← eHX]; exact if_neg cp
    have h2 : HY = jdiv vy 2 := by rw [← eHY]; exact if_neg cp
    rw [if_neg cp, T_gr F, Option.bind_some, q11, Option.bind_some, T_ai F h6 5 4 rfl rfl rfl rfl (by omega) (by omega), Option.bind_some, if_neg cp, Option.bind_some, Option.bind_some, T_ai F h6 5 4 rfl rfl rfl rfl (by omega) (by omega), Option.bind_some, ex, ey, ← h1, ← h2, b65]
end Fetch2
