/-! a part laid into its picture: the class, the model -/
section Lay2
variable {s : hS} {Q : hQ} {hm : hO} {I m : jM} {T p : Nat} {w h k mm X Y : Int}
/-- sample x, y of plane pl stands in the part at X, Y -/
def inP (pl X Y x y : Int) : Prop := X * sdOf pl ≤ x ∧ x < X * sdOf pl + sdOf pl ∧ Y * sdOf pl ≤ y ∧ y < Y * sdOf pl + sdOf pl
theorem c_93 (F : PtC s Q T) (P : PcC s Q p) (hw : I p 0 = w) (hv : I p 1 = h) (sw : isSd w) (sh : isSd h) (eX : I T 5 = X) (eY : I T 6 = Y) (X0 : 0 ≤ X) (X1 : X < w / 8) (Y0 : 0 ≤ Y) (Y1 : Y < h / 8) : ∃ G, jd_93 T (some p) (some (T + 3)) 1 (hh s Q I) = some (hh s Q (ims I (p + 1) G)) ∧ ∀ pl x y : Int, 0 ≤ pl → pl ≤ 2 → 0 ≤ x → x < pw w pl → 0 ≤ y → y < pw h pl → (inP pl X Y x y → G (pb w h pl + (y * pw w pl + x)) = I (T + 3) (ppb pl + ((y - Y * sdOf pl) * sdOf pl + (x - X * sdOf pl)))) ∧ (¬ inP pl X Y x y → G (pb w h pl + (y * pw w pl + x)) = I (p + 1) (pb w h pl + (y * pw w pl + x))) := by
  obtain ⟨P1, P2, P3, P4, P5, P6, P7⟩ := id P
  have F76 := F.2.2.2.2
  have t14 : s.2.2.1 p = 6 + 8 := P3
  have q2 : Q p ((2 : Nat) : Int) = some (p + 1) := P7
  have e5 : I T ((5 : Nat) : Int) = X := eX
  have e6 : I T ((6 : Nat) : Int) = Y := eY
  have g3 := F.2.2.1 3 (by decide) (by decide)
  have g3' : s.2.2.2 (T + 3) = 96 := g3.2.2
  -- rows of one plane
  have rows : ∀ (pl : Int) (G : Int → Int), 0 ≤ pl → pl ≤ 2 → ∃ G', jd_93_l68 T (some p) (some (T + 3)) 1 pl (sdOf pl) (pw w pl) (pb w h pl + Y * sdOf pl * pw w pl + X * sdOf pl) (ppb pl) 0 (hh s Q (ims I (p + 1) G)) = some (hh s Q (ims I (p + 1) G')) ∧ ∀ j : Int, (∀ r c : Int, 0 ≤ r → r < sdOf pl → 0 ≤ c → c < sdOf pl → j = pb w h pl + ((Y * sdOf pl + r) * pw w pl + (X * sdOf pl + c)) → G' j = I (T + 3) (ppb pl + (r * sdOf pl + c))) ∧ ((∀ r c : Int, 0 ≤ r → r < sdOf pl → 0 ≤ c → c < sdOf pl → j ≠ pb w h pl + ((Y * sdOf pl + r) * pw w pl + (X * sdOf pl + c))) → G' j = G j) := by
    intro pl G p0 p2
    have ps := pl_sz sw sh p0 p2
    have pp := ppb_b p0 p2
    have rx := pt_r sw p0 p2 X0 X1
    have ry := pt_r sh p0 p2 Y0 Y1
    have bw := pw_sd sw pl
    have bh := pw_sd sh pl
    obtain ⟨sd, esd⟩ : ∃ z, sdOf pl = z := ⟨_, rfl⟩
    obtain ⟨W, eW⟩ : ∃ z, pw w pl = z := ⟨_, rfl⟩
    obtain ⟨H, eH⟩ : ∃ z, pw h pl = z := ⟨_, rfl⟩
    obtain ⟨pB, epB⟩ : ∃ z, pb w h pl = z := ⟨_, rfl⟩
    obtain ⟨pQ, epQ⟩ : ∃ z, ppb pl = z := ⟨_, rfl⟩
    obtain ⟨x0, ex0⟩ : ∃ z, X * sdOf pl = z := ⟨_, rfl⟩
    obtain ⟨y0, ey0⟩ : ∃ z, Y * sdOf pl = z := ⟨_, rfl⟩
    rw [ex0] at rx
    rw [ey0] at ry
    rw [esd] at rx ry pp
    rw [eW] at rx ps bw
    rw [eH] at ry ps bh
    rw [epB] at ps
    rw [epQ] at pp
    rw [ex0, ey0, esd, eW, epB, epQ]
    have rws : ∀ r : Int, 0 ≤ r → r < sd → 0 ≤ r * sd ∧ r * sd + sd ≤ sd * sd := fun r rr0 rr1 => by
      have := Int.mul_le_mul_of_nonneg_right (a := r + 1) (b := sd) (c := sd) (by omega) (by omega)
      rw [Int.add_mul, Int.one_mul] at this
      exact ⟨Int.mul_nonneg rr0 (by omega), this⟩
    have l : wT (jd_93_l68 T (some p) (some (T + 3)) 1 pl sd W (pB + y0 * W + x0) pQ 0 (hh s Q (ims I (p + 1) G))) (fun o => ∃ G', o = hh s Q (ims I (p + 1) G') ∧ ∀ j : Int, (∀ r c : Int, 0 ≤ r → r < sd → 0 ≤ c → c < sd → j = pB + ((y0 + r) * W + (x0 + c)) → G' j = I (T + 3) (pQ + (r * sd + c))) ∧ ((∀ r c : Int, 0 ≤ r → r < sd → 0 ≤ c → c < sd → j ≠ pB + ((y0 + r) * W + (x0 + c))) → G' j = G j)) := by
      unfold jd_93_l68
      refine w_lp (fun n u => ∃ G', u = (pQ + (n : Int) * sd, (n : Int), hh s Q (ims I (p + 1) G')) ∧ ∀ j : Int, (∀ r c : Int, 0 ≤ r → r < (n : Int) → 0 ≤ c → c < sd → j = pB + ((y0 + r) * W + (x0 + c)) → G' j = I (T + 3) (pQ + (r * sd + c))) ∧ ((∀ r c : Int, 0 ≤ r → r < (n : Int) → 0 ≤ c → c < sd → j ≠ pB + ((y0 + r) * W + (x0 + c))) → G' j = G j)) sd.toNat (fun n u hn hu => ?_) (n_fu (by omega)) ⟨G, by rw [show ((0 : Nat) : Int) * sd = 0 by simp, Int.add_zero]; rfl, fun j => ⟨fun r c h0 h1 => absurd h1 (by omega), fun _ => rfl⟩⟩
      obtain ⟨G', rfl, hG⟩ := hu
      unfold jd_93_s68 jd_93_b122
      dsimp only
      rw [n_jw (z := sd) (by omega) (by omega), n_jw (z := (n : Int)) (by omega) (by omega)]
      by_cases cn : sd ≤ (n : Int)
      · rw [if_pos cn]
        have en : (n : Int) = sd := by omega
        rw [en] at hG
        exact wT_ret ⟨G', rfl, hG⟩
      · have rn := rws n (by omega) (by omega)
        have db := dm_b (W := W) (H := H) (r := y0 + (n : Int)) (c := x0) (by omega) (by omega) (by omega) (by omega)
        have db2 := dm_b (W := W) (H := H) (r := y0 + (n : Int)) (c := x0 + sd - 1) (by omega) (by omega) (by omega) (by omega)
        have em : (y0 + (n : Int)) * W = y0 * W + (n : Int) * W := Int.add_mul _ _ _
        have j3 : ims I (p + 1) G' (T + 3) = I (T + 3) := ims_o (by omega)
        have cp := x_cp (s := s) (R := Q) (I := ims I (p + 1) G') (t := 0) (a0 := T + 3) (a1 := p + 1) (sp := pQ + (n : Int) * sd) (dp := pB + y0 * W + x0 + (n : Int) * W) (n := sd) g3.1 P4 g3.2.1 P5 (Or.inl rfl) (by omega) (by omega) (by omega) (by rw [g3']; omega) (by rw [P6]; omega) (by rw [g3']; decide) (by rw [P6]; decide)
        rw [if_neg cn, if_neg (by decide), Option.bind_some, x_gr P2 t14, Option.bind_some, q2, Option.bind_some, Option.bind_some, cp, Option.bind_some, ims_ims, ims_e, j3]
        refine wT_ret ⟨by omega, _, by rw [show ((n + 1 : Nat) : Int) = (n : Int) + 1 by omega, Int.add_mul, Int.one_mul, Int.add_assoc], fun j => ⟨fun r c h0 h1 h2 h3 e => ?_, fun hno => ?_⟩⟩
        · by_cases cr : r = (n : Int)
          · subst cr
            rw [if_pos (by omega), show pQ + (n : Int) * sd + (j - (pB + y0 * W + x0 + (n : Int) * W)) = pQ + ((n : Int) * sd + c) by omega]
          · have nh : ¬ (pB + y0 * W + x0 + (n : Int) * W ≤ j ∧ j < pB + y0 * W + x0 + (n : Int) * W + sd) := fun hh' => by
              have a1 := (dm (W := W) (k := (y0 + r) * W + (x0 + c)) (r := y0 + r) (c := x0 + c) (by omega) (by omega) (by omega)).1 rfl
              have a2 := (dm (W := W) (k := (y0 + (n : Int)) * W + (x0 + (j - (pB + y0 * W + x0 + (n : Int) * W)))) (r := y0 + (n : Int)) (c := x0 + (j - (pB + y0 * W + x0 + (n : Int) * W))) (by omega) (by omega) (by omega)).1 rfl
              rw [show (y0 + (n : Int)) * W + (x0 + (j - (pB + y0 * W + x0 + (n : Int) * W))) = (y0 + r) * W + (x0 + c) by omega] at a2
              omega
            rw [if_neg nh]
            exact (hG j).1 r c h0 (by omega) h2 h3 e
        · have nh : ¬ (pB + y0 * W + x0 + (n : Int) * W ≤ j ∧ j < pB + y0 * W + x0 + (n : Int) * W + sd) := fun hh' => by
            exact hno n (j - (pB + y0 * W + x0 + (n : Int) * W)) (by omega) (by omega) (by omega) (by omega) (by omega)
          rw [if_neg nh]
          exact (hG j).2 (fun r c h0 h1 => hno r c h0 (by omega))
    obtain ⟨o, eo, G', rfl, hG⟩ := l
    exact ⟨G', eo, hG⟩
  -- a hit in terms of x and y
  have hit : ∀ (pl' x y pl r c : Int), 0 ≤ pl' → pl' ≤ 2 → 0 ≤ x → x < pw w pl' → 0 ≤ y → y < pw h pl' → 0 ≤ pl → pl ≤ 2 → 0 ≤ r → r < sdOf pl → 0 ≤ c → c < sdOf pl → pb w h pl' + (y * pw w pl' + x) = pb w h pl + ((Y * sdOf pl + r) * pw w pl + (X * sdOf pl + c)) → pl' = pl ∧ x = X * sdOf pl + c ∧ y = Y * sdOf pl + r := by
    intro pl' x y pl r c a1 a2 a3 a4 a5 a6 b1 b2 b3 b4 b5 b6 e
    have rx := pt_r sw b1 b2 X0 X1
    have ry := pt_r sh b1 b2 Y0 Y1
    exact pl_inj sw sh a1 a2 a3 a4 a5 a6 b1 b2 (by omega) (by omega) (by omega) (by omega) e
  have all : wT (jd_93_l3 T (some p) (some (T + 3)) 1 0 (hh s Q I)) (fun o => ∃ G, o = hh s Q (ims I (p + 1) G) ∧ ∀ pl x y : Int, 0 ≤ pl → pl ≤ 2 → 0 ≤ x → x < pw w pl → 0 ≤ y → y < pw h pl → (inP pl X Y x y → G (pb w h pl + (y * pw w pl + x)) = I (T + 3) (ppb pl + ((y - Y * sdOf pl) * sdOf pl + (x - X * sdOf pl)))) ∧ (¬ inP pl X Y x y → G (pb w h pl + (y * pw w pl + x)) = I (p + 1) (pb w h pl + (y * pw w pl + x)))) := by
    unfold jd_93_l3
    refine w_lp (fun n u => ∃ G, u = ((n : Int), hh s Q (ims I (p + 1) G)) ∧ ∀ pl x y : Int, 0 ≤ pl → pl ≤ 2 → 0 ≤ x → x < pw w pl → 0 ≤ y → y < pw h pl → (inP pl X Y x y → pl < (n : Int) → G (pb w h pl + (y * pw w pl + x)) = I (T + 3) (ppb pl + ((y - Y * sdOf pl) * sdOf pl + (x - X * sdOf pl)))) ∧ (¬ inP pl X Y x y ∨ (n : Int) ≤ pl → G (pb w h pl + (y * pw w pl + x)) = I (p + 1) (pb w h pl + (y * pw w pl + x)))) 3 (fun n u hn hu => ?_) (n_fu (by omega)) ⟨I (p + 1), by rw [ims_self]; rfl, fun pl x y h0 h1 h2 h3 h4 h5 => ⟨fun _ e => absurd e (by omega), fun _ => rfl⟩⟩
    obtain ⟨G, rfl, hG⟩ := hu
    unfold jd_93_s3
    dsimp only
    rw [n_jw (z := (n : Int)) (by omega) (by omega)]
    by_cases cn : (3 : Int) ≤ (n : Int)
    · rw [if_pos cn]
      exact wT_ret ⟨G, rfl, fun pl x y h0 h1 h2 h3 h4 h5 => ⟨fun a => (hG pl x y h0 h1 h2 h3 h4 h5).1 a (by omega), fun a => (hG pl x y h0 h1 h2 h3 h4 h5).2 (Or.inl a)⟩⟩
    · have n0 : (0 : Int) ≤ (n : Int) := by omega
      have n2 : (n : Int) ≤ 2 := by omega
      have ok : okI (n : Int) := by unfold okI; omega
      obtain ⟨G', e', hG'⟩ := rows n G n0 n2
      have jp : ims I (p + 1) G p = I p := ims_o (by omega)
      have jT : ims I (p + 1) G T = I T := ims_o (by omega)
      have so : (if (n : Int) = 0 then (8 : Int) else 4) = sdOf (n : Int) := rfl
      have c96 := c_96 (s := s) (Q := Q) (I := ims I (p + 1) G) P2 P3 (w := w) (p := (n : Int)) (by rw [jp]; exact hw) sw ok
      have c98 := c_98 (s := s) (Q := Q) (I := ims I (p + 1) G) P2 P3 (w := w) (h := h) (p := (n : Int)) (by rw [jp]; exact hw) (by rw [jp]; exact hv) sw sh ok
      have e5' : ims I (p + 1) G T ((5 : Nat) : Int) = X := by rw [jT]; exact e5
      have e6' : ims I (p + 1) G T ((6 : Nat) : Int) = Y := by rw [jT]; exact e6
      rw [if_neg cn, so]
      simp only [Option.bind_some, x_ck P2 t14, c96, c98, T_gi F, e5', e6', jst_3 n0 n2]
      rw [e', Option.bind_some]
      refine wT_ret ⟨by omega, G', by rw [show ((n + 1 : Nat) : Int) = (n : Int) + 1 by omega], fun pl x y h0 h1 h2 h3 h4 h5 => ⟨fun hin hl => ?_, fun ho => ?_⟩⟩
      · by_cases cp : pl = (n : Int)
        · subst cp
          obtain ⟨i1, i2, i3, i4⟩ := hin
          have := (hG' (pb w h (n : Int) + (y * pw w (n : Int) + x))).1 (y - Y * sdOf (n : Int)) (x - X * sdOf (n : Int)) (by omega) (by omega) (by omega) (by omega) (by rw [show Y * sdOf (n : Int) + (y - Y * sdOf (n : Int)) = y by omega, show X * sdOf (n : Int) + (x - X * sdOf (n : Int)) = x by omega])
          exact this
        · rw [(hG' _).2 (fun r c a1 a2 a3 a4 e => cp (hit pl x y n r c h0 h1 h2 h3 h4 h5 n0 n2 a1 a2 a3 a4 e).1)]
          exact (hG pl x y h0 h1 h2 h3 h4 h5).1 hin (by omega)
      · rw [(hG' _).2 (fun r c a1 a2 a3 a4 e => by
          obtain ⟨k1, k2, k3⟩ := hit pl x y n r c h0 h1 h2 h3 h4 h5 n0 n2 a1 a2 a3 a4 e
          subst k1
          rcases ho with ho | ho
          · exact ho ⟨by omega, by omega, by omega, by omega⟩
          · omega)]
        exact (hG pl x y h0 h1 h2 h3 h4 h5).2 (ho.imp id (fun e => by omega))
  obtain ⟨o, eo, G, rfl, hG⟩ := all
  refine ⟨G, ?_, hG⟩
  unfold jd_93
  rw [eo, Option.bind_some]
end Lay2
