/-! foretold: the model -/
section ForetellM
variable {m : jM} {w h k kd mm X Y how fx fy bx by' a1 a2 : Int}
/-- references of picture k, for how -/
def RfM (m : jM) (w h k kd how a1 a2 : Int) : Prop := m 102 k = kd ∧ 0 ≤ kd ∧ kd ≤ 2 ∧ (3 ≤ how → ∀ m' : jM, m' 76 36 = m 76 36 → m' 102 = m 102 → jd_239 k (if kd = 2 then 2 else 1) m' = some a1) ∧ (how = 3 ∨ how = 5 → 0 ≤ a1 ∧ a1 < 12 ∧ ∀ pl j : Int, 0 ≤ pl → pl ≤ 2 → 0 ≤ j → j < pw w pl * pw h pl → 0 ≤ m 109 (864 * a1 + (pf pl + j)) ∧ m 109 (864 * a1 + (pf pl + j)) ≤ 255) ∧ (how = 4 ∨ how = 5 → (∀ m' : jM, m' 76 36 = m 76 36 → m' 102 = m 102 → jd_239 k 1 m' = some a2) ∧ 0 ≤ a2 ∧ a2 < 12 ∧ ∀ pl j : Int, 0 ≤ pl → pl ≤ 2 → 0 ≤ j → j < pw w pl * pw h pl → 0 ≤ m 109 (864 * a2 + (pf pl + j)) ∧ m 109 (864 * a2 + (pf pl + j)) ≤ 255)
theorem k_249 {M : jM} {pl x y : Int} (sw : isSd w) (sh : isSd h) (mw : m 76 33 = w) (mh : m 76 34 = h) (k0 : 0 ≤ k) (k1 : k < 12) (R : RfM m w h k kd how a1 a2) (e76 : M 76 = m 76) (e102 : M 102 = m 102) (e109 : M 109 = m 109) (h3 : 3 ≤ how) (h5 : how ≤ 5) (p0 : 0 ≤ pl) (p2 : pl ≤ 2) (x0 : 0 ≤ x) (x1 : x ≤ 100) (y0 : 0 ≤ y) (y1 : y ≤ 100) (r0 : -16 ≤ fx ∧ fx ≤ 16) (r1 : -16 ≤ fy ∧ fy ≤ 16) (r2 : -16 ≤ bx ∧ bx ≤ 16) (r3 : -16 ≤ by' ∧ by' ≤ 16) : jd_249 k pl x y how fx fy bx by' M = some (if how = 3 then ft (fun j => m 109 (864 * a1 + (pf pl + j))) (pw w pl) (pw h pl) x y (hvf pl fx) (hvf pl fy) else if how = 4 then ft (fun j => m 109 (864 * a2 + (pf pl + j))) (pw w pl) (pw h pl) x y (hvf pl bx) (hvf pl by') else (ft (fun j => m 109 (864 * a1 + (pf pl + j))) (pw w pl) (pw h pl) x y (hvf pl fx) (hvf pl fy) + ft (fun j => m 109 (864 * a2 + (pf pl + j))) (pw w pl) (pw h pl) x y (hvf pl bx) (hvf pl by') + 1) / 2) := by
  obtain ⟨ek, kd0, kd2, g1, g2, g3⟩ := R
  have mw' : M 76 33 = w := by rw [e76]; exact mw
  have mh' : M 76 34 = h := by rw [e76]; exact mh
  have a := g1 h3 M (by rw [e76]) e102
  have bw := pw_sd sw pl
  have bh := pw_sd sh pl
  have f1 : how = 3 ∨ how = 5 → jd_251 a1 pl x y fx fy M = some (ft (fun j => m 109 (864 * a1 + (pf pl + j))) (pw w pl) (pw h pl) x y (hvf pl fx) (hvf pl fy)) ∧ 0 ≤ ft (fun j => m 109 (864 * a1 + (pf pl + j))) (pw w pl) (pw h pl) x y (hvf pl fx) (hvf pl fy) ∧ ft (fun j => m 109 (864 * a1 + (pf pl + j))) (pw w pl) (pw h pl) x y (hvf pl fx) (hvf pl fy) ≤ 255 := fun hh' => by
    obtain ⟨q0, q1, q2⟩ := g2 hh'
    have := k_251 (m := M) (a := a1) (vx := fx) (vy := fy) sw sh mw' mh' q0 q1 p0 p2 x0 x1 y0 y1 r0.1 r0.2 r1.1 r1.2 (by rw [e109]; exact fun j j0 j1 => q2 pl j p0 p2 j0 j1)
    rw [e109] at this
    exact ⟨this, ft_b (by omega) (by omega) (fun j j0 j1 => q2 pl j p0 p2 j0 j1)⟩
  have f2 : how = 4 ∨ how = 5 → jd_239 k 1 M = some a2 ∧ jd_251 a2 pl x y bx by' M = some (ft (fun j => m 109 (864 * a2 + (pf pl + j))) (pw w pl) (pw h pl) x y (hvf pl bx) (hvf pl by')) ∧ 0 ≤ ft (fun j => m 109 (864 * a2 + (pf pl + j))) (pw w pl) (pw h pl) x y (hvf pl bx) (hvf pl by') ∧ ft (fun j => m 109 (864 * a2 + (pf pl + j))) (pw w pl) (pw h pl) x y (hvf pl bx) (hvf pl by') ≤ 255 := fun hh' => by
    obtain ⟨qa, q0, q1, q2⟩ := g3 hh'
    have := k_251 (m := M) (a := a2) (vx := bx) (vy := by') sw sh mw' mh' q0 q1 p0 p2 x0 x1 y0 y1 r2.1 r2.2 r3.1 r3.2 (by rw [e109]; exact fun j j0 j1 => q2 pl j p0 p2 j0 j1)
    rw [e109] at this
    exact ⟨qa M (by rw [e76]) e102, this, ft_b (by omega) (by omega) (fun j j0 j1 => q2 pl j p0 p2 j0 j1)⟩
  unfold jd_249 jd_249_b46
  rw [y_ma 102 12 rfl rfl k0 k1, Option.bind_some, e102, ek, n_jw (z := kd) (by omega) (by omega), a, Option.bind_some, n_jw (z := how) (by omega) (by omega)]
  by_cases c3 : how = 3
  · have g := f1 (Or.inl c3)
    rw [if_neg (by omega), g.1, Option.bind_some, if_pos c3, if_pos c3]
  · rw [if_neg c3, if_neg c3]
    by_cases c4 : how = 4
    · have g := f2 (Or.inl c4)
      rw [if_pos c4, g.1, Option.bind_some, g.2.1, Option.bind_some, if_pos c4, if_pos c4]
    · have g := f1 (Or.inr (by omega))
      have g' := f2 (Or.inr (by omega))
      rw [if_neg c4, g.1, Option.bind_some, if_neg c3, g'.1, Option.bind_some, g'.2.1, Option.bind_some, if_neg c4, if_neg c4, n_div (by omega) (by omega) (by decide) (by decide)]
theorem k_245 (sw : isSd w) (mw : m 76 33 = w) (m0 : 0 ≤ mm) (m1 : mm < 1000) : jd_245 mm m = some (mm % (w / 8)) ∧ jd_246 mm m = some (mm / (w / 8)) := by
  have w8 : 1 ≤ w / 8 ∧ w / 8 ≤ 3 ∧ 0 ≤ w ∧ w ≤ 24 := by rcases sw with rfl | rfl | rfl <;> decide
  unfold jd_245 jd_246
  rw [mw, n_div (z := w) (by omega) (by omega) (by decide) (by decide), jnz_1 (by omega) (by omega), Option.bind_some, Option.bind_some, n_rem (by omega) (by omega) (by omega) (by omega), n_div (by omega) (by omega) (by omega) (by omega)]
  exact ⟨rfl, rfl⟩
theorem mm_r (sw : isSd w) (sh : isSd h) (m0 : 0 ≤ mm) (m1 : mm < w / 8 * (h / 8)) : 0 ≤ mm % (w / 8) ∧ mm % (w / 8) < w / 8 ∧ 0 ≤ mm / (w / 8) ∧ mm / (w / 8) < h / 8 ∧ mm < 9 := by
  have w8 : 1 ≤ w / 8 ∧ w / 8 ≤ 3 := by rcases sw with rfl | rfl | rfl <;> decide
  have h8 : 1 ≤ h / 8 ∧ h / 8 ≤ 3 := by rcases sh with rfl | rfl | rfl <;> decide
  have r := dm_r (W := w / 8) (H := h / 8) (by omega) m0 m1
  have : w / 8 * (h / 8) ≤ 9 := by
    rcases sw with rfl | rfl | rfl <;> rcases sh with rfl | rfl | rfl <;> decide
  exact ⟨r.2.2.1, r.2.2.2, r.1, r.2.1, by omega⟩
theorem k_247 (sw : isSd w) (sh : isSd h) (mw : m 76 33 = w) (mh : m 76 34 = h) (k0 : 0 ≤ k) (k1 : k < 12) (m0 : 0 ≤ mm) (m1 : mm < w / 8 * (h / 8)) (h0 : 0 ≤ how) (h5 : how ≤ 5) (R : RfM m w h k kd how a1 a2) (r0 : -16 ≤ fx ∧ fx ≤ 16) (r1 : -16 ≤ fy ∧ fy ≤ 16) (r2 : -16 ≤ bx ∧ bx ≤ 16) (r3 : -16 ≤ by' ∧ by' ≤ 16) (nb : how < 3 → ∀ pl : Int, 0 ≤ pl → pl ≤ 2 → nbB (fun j => m 109 (864 * k + (pf pl + j))) (pw w pl) (mm % (w / 8) * sdOf pl) (mm / (w / 8) * sdOf pl) (sdOf pl)) : ∃ G, jd_247 k mm how fx fy bx by' m = some (ims m 114 G) ∧ ∀ pl r i : Int, 0 ≤ pl → pl ≤ 2 → 0 ≤ r → r < sdOf pl → 0 ≤ i → i < sdOf pl → G (ppb pl + (r * sdOf pl + i)) = pvV how (fun j => m 109 (864 * k + (pf pl + j))) (fun j => m 109 (864 * a1 + (pf pl + j))) (fun j => m 109 (864 * a2 + (pf pl + j))) (pw w pl) (pw h pl) (mm % (w / 8) * sdOf pl) (mm / (w / 8) * sdOf pl) (sdOf pl) (hvf pl fx) (hvf pl fy) (hvf pl bx) (hvf pl by') r i := by
  have mr := mm_r sw sh m0 m1
  obtain ⟨X, eX⟩ : ∃ z, mm % (w / 8) = z := ⟨_, rfl⟩
  obtain ⟨Y, eY⟩ : ∃ z, mm / (w / 8) = z := ⟨_, rfl⟩
  rw [eX] at mr nb
  rw [eY] at mr nb
  rw [eX, eY]
  obtain ⟨VV, hVV⟩ : ∃ V : Int → Int → Int → Int, V = fun pl r i => pvV how (fun j => m 109 (864 * k + (pf pl + j))) (fun j => m 109 (864 * a1 + (pf pl + j))) (fun j => m 109 (864 * a2 + (pf pl + j))) (pw w pl) (pw h pl) (X * sdOf pl) (Y * sdOf pl) (sdOf pl) (hvf pl fx) (hvf pl fy) (hvf pl bx) (hvf pl by') r i := ⟨_, rfl⟩
  have o76 : ∀ G, ims m 114 G 76 = m 76 := fun G => ims_o (by decide)
  have o109 : ∀ G, ims m 114 G 109 = m 109 := fun G => ims_o (by decide)
  have o102 : ∀ G, ims m 114 G 102 = m 102 := fun G => ims_o (by decide)
  -- a plane
  have plane : ∀ (pl : Int) (G : Int → Int), 0 ≤ pl → pl ≤ 2 → ∃ G', jd_247_s3 k mm how fx fy bx by' pl (ims m 114 G) = some (.inl (pl + 1, ims m 114 G')) ∧ plW pl (VV pl) G G' := by
    intro pl G p0 p2
    have ok : okI pl := by unfold okI; omega
    have ps := pl_sz sw sh p0 p2
    have pp := ppb_b p0 p2
    have bw := pw_sd sw pl
    have bh := pw_sd sh pl
    have rx := pt_r sw p0 p2 mr.1 mr.2.1
    have ry := pt_r sh p0 p2 mr.2.2.1 mr.2.2.2.1
    have k45 := k_245 (m := ims m 114 G) (mm := mm) sw (by rw [o76]; exact mw) m0 (by omega)
    rw [eX, eY] at k45
    obtain ⟨mn, hmn⟩ : ∃ z, z = if how = 0 then mnV (fun j => m 109 (864 * k + (pf pl + j))) (pw w pl) (X * sdOf pl) (Y * sdOf pl) (sdOf pl) else 0 := ⟨_, rfl⟩
    have S3 : jd_247_s3 k mm how fx fy bx by' pl (ims m 114 G) = jd_247_b57 k mm how fx fy bx by' pl (sdOf pl) (X * sdOf pl) (Y * sdOf pl) mn (ims m 114 G) := by
      unfold jd_247_s3
      rw [n_jw (z := pl) (by omega) (by omega), if_neg (by omega), k45.1, Option.bind_some, k45.2, Option.bind_some, k_243 ok, Int.mul_comm (sdOf pl) X, Int.mul_comm (sdOf pl) Y, n_jw (z := how) (by omega) (by omega)]
      by_cases c0 : how = 0
      · have := k_248 (m := ims m 114 G) (k := k) (X := X) (Y := Y) sw sh (by rw [o76]; exact mw) k0 k1 p0 p2 mr.1 mr.2.1 mr.2.2.1 mr.2.2.2.1 (by rw [o109]; exact nb (by omega) pl p0 p2)
        rw [o109] at this
        rw [if_pos c0, this, Option.bind_some, hmn, if_pos c0]
      · rw [if_neg c0, hmn, if_neg c0]
    have val : ∀ r i : Int, VV pl r i = pvV how (fun j => m 109 (864 * k + (pf pl + j))) (fun j => m 109 (864 * a1 + (pf pl + j))) (fun j => m 109 (864 * a2 + (pf pl + j))) (pw w pl) (pw h pl) (X * sdOf pl) (Y * sdOf pl) (sdOf pl) (hvf pl fx) (hvf pl fy) (hvf pl bx) (hvf pl by') r i := fun r i => by rw [hVV]
    obtain ⟨sd, esd⟩ : ∃ z, sdOf pl = z := ⟨_, rfl⟩
    obtain ⟨W, eW⟩ : ∃ z, pw w pl = z := ⟨_, rfl⟩
    obtain ⟨H, eH⟩ : ∃ z, pw h pl = z := ⟨_, rfl⟩
    obtain ⟨pQ, epQ⟩ : ∃ z, ppb pl = z := ⟨_, rfl⟩
    obtain ⟨x0, ex0⟩ : ∃ z, X * sdOf pl = z := ⟨_, rfl⟩
    obtain ⟨y0, ey0⟩ : ∃ z, Y * sdOf pl = z := ⟨_, rfl⟩
    rw [ex0] at rx hmn S3 val
    rw [ey0] at ry hmn S3 val
    rw [esd] at rx ry pp hmn S3 val
    rw [eW] at rx ps bw hmn val
    rw [eH] at ry ps bh val
    rw [epQ] at pp
    unfold plW
    rw [esd, epQ]
    have rws : ∀ r : Int, 0 ≤ r → r < sd → 0 ≤ r * sd ∧ r * sd + sd ≤ sd * sd := fun r rr0 rr1 => by
      have := Int.mul_le_mul_of_nonneg_right (a := r + 1) (b := sd) (c := sd) (by omega) (by omega)
      rw [Int.add_mul, Int.one_mul] at this
      exact ⟨Int.mul_nonneg rr0 (by omega), this⟩
    have row : ∀ (r : Int) (G : Int → Int), 0 ≤ r → r < sd → jd_247_l72 k mm how fx fy bx by' pl sd x0 y0 mn r 0 (ims m 114 G) = some (ims m 114 (wf (fun i => pQ + sd * r + i) (fun i _ => VV pl r i) G sd.toNat)) := by
      intro r G rr0 rr1
      have rw0 := rws r rr0 rr1
      rw [Int.mul_comm] at rw0
      exact lpM (f := fun u : (Int × jM) => jd_247_s72 k mm how fx fy bx by' pl sd x0 y0 mn r u.1 u.2) (ct := fun n => n) (ix := fun i => pQ + sd * r + i) (v := fun i _ => VV pl r i) (m := m) (a := 114) sd.toNat (fun n G hn => by
        dsimp only
        have fin : ∀ v, v = VV pl r (n : Int) → jd_247_b194 k mm how fx fy bx by' pl sd x0 y0 mn r (n : Int) v (ims m 114 G) = some (.inl ((n : Int) + 1, ims m 114 (jiu G (pQ + sd * r + (n : Int)) (VV pl r (n : Int))))) := fun v hv' => by
          unfold jd_247_b194
          rw [k_244 p0 p2, epQ, y_mw 114 96 rfl rfl (by omega) (by omega), Option.bind_some, ims_jms, hv']
        unfold jd_247_s72
        rw [n_jw (z := sd) (by omega) (by omega), n_jw (z := (n : Int)) (by omega) (by omega), if_neg (by omega), n_jw (z := how) (by omega) (by omega)]
        have mw' : ims m 114 G 76 33 = w := by rw [o76]; exact mw
        by_cases c1 : how = 1
        · rw [if_pos c1, n_jw (z := x0) (by omega) (by omega)]
          unfold jd_247_b120 jd_247_b122 jd_247_b161
          rw [n_jw (z := how) (by omega) (by omega)]
          have sp : VV pl r (n : Int) = if 0 < x0 then m 109 (864 * k + (pf pl + ((y0 + r) * W + (x0 - 1)))) else 128 := by
            rw [val]
            unfold pvV sprd
            rw [if_pos (by omega), if_neg (by omega), if_pos c1]
          by_cases cx : x0 = 0
          · rw [if_pos cx, if_neg (show ¬ how = 2 by omega), if_pos (by omega)]
            exact fin _ (by rw [sp, if_neg (by omega)])
          · have db := dm_b (W := W) (H := H) (r := y0 + r) (c := x0 - 1) (by omega) (by omega) (by omega) (by omega)
            rw [if_neg cx, k_237 ok sw mw', eW, show 864 * k + pf pl + (y0 + r) * W + (x0 - 1) = 864 * k + (pf pl + ((y0 + r) * W + (x0 - 1))) by omega, y_ma 109 10368 rfl rfl (by omega) (by omega), Option.bind_some, if_neg (show ¬ how = 2 by omega), if_pos (by omega), o109]
            exact fin _ (by rw [sp, if_pos (by omega)])
        · rw [if_neg c1]
          unfold jd_247_b122
          rw [n_jw (z := how) (by omega) (by omega)]
          by_cases c2 : how = 2
          · rw [if_pos c2, n_jw (z := y0) (by omega) (by omega)]
            unfold jd_247_b159 jd_247_b161
            rw [n_jw (z := how) (by omega) (by omega)]
            have sp : VV pl r (n : Int) = if 0 < y0 then m 109 (864 * k + (pf pl + ((y0 - 1) * W + (x0 + (n : Int))))) else 128 := by
              rw [val]
              unfold pvV sprd
              rw [if_pos (by omega), if_neg (by omega), if_neg c1]
            by_cases cy : y0 = 0
            · rw [if_pos cy, if_pos (by omega)]
              exact fin _ (by rw [sp, if_neg (by omega)])
            · have db := dm_b (W := W) (H := H) (r := y0 - 1) (c := x0 + (n : Int)) (by omega) (by omega) (by omega) (by omega)
              rw [if_neg cy, k_237 ok sw mw', eW, show 864 * k + pf pl + (y0 - 1) * W + (x0 + (n : Int)) = 864 * k + (pf pl + ((y0 - 1) * W + (x0 + (n : Int)))) by omega, y_ma 109 10368 rfl rfl (by omega) (by omega), Option.bind_some, if_pos (by omega), o109]
              exact fin _ (by rw [sp, if_pos (by omega)])
          · rw [if_neg c2]
            unfold jd_247_b161
            rw [n_jw (z := how) (by omega) (by omega)]
            by_cases c3 : how < 3
            · rw [if_pos c3]
              refine fin _ ?_
              rw [val, hmn]
              unfold pvV sprd
              rw [if_pos c3, if_pos (by omega), if_pos (by omega)]
            · have g := k_249 (M := ims m 114 G) (pl := pl) (x := x0 + (n : Int)) (y := y0 + r) sw sh mw mh k0 k1 R (o76 G) (o102 G) (o109 G) (by omega) h5 p0 p2 (by omega) (by omega) (by omega) (by omega) r0 r1 r2 r3
              rw [eW, eH] at g
              rw [if_neg c3, g, Option.bind_some]
              refine fin _ ?_
              rw [val]
              unfold pvV
              rw [if_neg c3]) (fun G => by
        dsimp only
        unfold jd_247_s72
        rw [n_jw (z := sd) (by omega) (by omega), n_jw (by omega) (by omega), if_pos (by omega)]) (by omega) G
    have l : wT (jd_247_l62 k mm how fx fy bx by' pl sd x0 y0 mn 0 (ims m 114 G)) (fun o => ∃ G', o = ims m 114 G' ∧ (∀ r i : Int, 0 ≤ r → r < sd → 0 ≤ i → i < sd → G' (pQ + (r * sd + i)) = VV pl r i) ∧ ∀ j : Int, j < pQ ∨ pQ + sd * sd ≤ j → G' j = G j) := by
      unfold jd_247_l62
      refine w_lp (fun n u => ∃ G', u = ((n : Int), ims m 114 G') ∧ (∀ r i : Int, 0 ≤ r → r < (n : Int) → 0 ≤ i → i < sd → G' (pQ + (r * sd + i)) = VV pl r i) ∧ ∀ j : Int, j < pQ ∨ pQ + sd * sd ≤ j → G' j = G j) sd.toNat (fun n u hn hu => ?_) (n_fu (by omega)) ⟨G, rfl, fun r i a b => absurd b (by omega), fun _ _ => rfl⟩
      obtain ⟨G', rfl, hG, hO⟩ := hu
      unfold jd_247_s62
      dsimp only
      rw [n_jw (z := sd) (by omega) (by omega), n_jw (z := (n : Int)) (by omega) (by omega)]
      by_cases cn : sd ≤ (n : Int)
      · rw [if_pos cn]
        exact wT_ret ⟨G', rfl, fun r i a b => hG r i a (by omega), hO⟩
      · rw [if_neg cn, row n G' (by omega) (by omega), Option.bind_some]
        have rn := rws n (by omega) (by omega)
        have cm := Int.mul_comm sd (n : Int)
        refine wT_ret ⟨by omega, _, by rw [show ((n + 1 : Nat) : Int) = (n : Int) + 1 by omega], fun r i a b c d => ?_, fun j hj => ?_⟩
        · by_cases cr : r = (n : Int)
          · subst cr
            have kk := wf_k (ix := fun i => pQ + sd * (n : Int) + i) (v := fun i _ => VV pl (n : Int) i) (g := G') (n := sd.toNat) (k := i.toNat) (by omega) (fun l _ _ => by omega)
            rw [show ((i.toNat : Nat) : Int) = i by omega] at kk
            rw [show pQ + ((n : Int) * sd + i) = pQ + sd * (n : Int) + i by omega]
            exact kk
          · have : r * sd + sd ≤ (n : Int) * sd := by
              have := Int.mul_le_mul_of_nonneg_right (a := r + 1) (b := (n : Int)) (c := sd) (by omega) (by omega)
              rw [Int.add_mul, Int.one_mul] at this
              exact this
            rw [wf_o (fun l hl => by omega)]
            exact hG r i a (by omega) c d
        · rw [wf_o (fun l hl => by omega)]
          exact hO j hj
    obtain ⟨o, eo, G', rfl, hG, hO⟩ := l
    refine ⟨G', ?_, hG, hO⟩
    rw [S3]
    unfold jd_247_b57
    rw [eo, Option.bind_some]
  have l : wT (jd_247_l3 k mm how fx fy bx by' 0 m) (fun o => ∃ G, o = ims m 114 G ∧ ∀ pl r i : Int, 0 ≤ pl → pl ≤ 2 → 0 ≤ r → r < sdOf pl → 0 ≤ i → i < sdOf pl → G (ppb pl + (r * sdOf pl + i)) = VV pl r i) := by
    unfold jd_247_l3
    refine w_lp (fun n u => ∃ G, u = ((n : Int), ims m 114 G) ∧ ∀ pl r i : Int, 0 ≤ pl → pl < (n : Int) → 0 ≤ r → r < sdOf pl → 0 ≤ i → i < sdOf pl → G (ppb pl + (r * sdOf pl + i)) = VV pl r i) 3 (fun n u hn hu => ?_) (n_fu (by omega)) ⟨m 114, by rw [ims_self]; rfl, fun pl r i a b => absurd b (by omega)⟩
    obtain ⟨G, rfl, hG⟩ := hu
    dsimp only
    by_cases cn : (3 : Int) ≤ (n : Int)
    · unfold jd_247_s3
      rw [n_jw (z := (n : Int)) (by omega) (by omega), if_pos cn]
      exact wT_ret ⟨G, rfl, fun pl r i a b => hG pl r i a (by omega)⟩
    · obtain ⟨G', e', W'⟩ := plane n G (by omega) (by omega)
      rw [e']
      refine wT_ret ⟨by omega, G', by rw [show ((n + 1 : Nat) : Int) = (n : Int) + 1 by omega], fun pl r i a b c d e f => ?_⟩
      by_cases cp : pl = (n : Int)
      · subst cp
        exact W'.1 r i c d e f
      · have rc := sd_rc c d e f
        have dd := ppb_d (p := pl) (q := (n : Int)) a (by omega) (by omega) (by omega) cp
        rw [W'.2 _ (by omega)]
        exact hG pl r i a (by omega) c d e f
  obtain ⟨o, eo, G, rfl, hG⟩ := l
  refine ⟨G, ?_, fun pl r i a b c d e f => ?_⟩
  · unfold jd_247
    rw [eo, Option.bind_some]
  · rw [hG pl r i a b c d e f, hVV]
end ForetellM
