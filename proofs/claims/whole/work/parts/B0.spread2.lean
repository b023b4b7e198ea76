/-! spread: the class -/
section Spread2
variable {s : hS} {Q : hQ} {hm : hO} {I m : jM} {T p : Nat} {w h k pl X Y md : Int}
theorem c_80 (F : PtC s Q T) (h6 : s.1 ≤ 1000000) (P : PcC s Q p) (q2T : Q T 2 = some p) (hw : I p 0 = w) (hv : I p 1 = h) (sw : isSd w) (sh : isSd h) (p0 : 0 ≤ pl) (p2 : pl ≤ 2) (eX : I T 5 = X) (eY : I T 6 = Y) (X0 : 0 ≤ X) (X1 : X < w / 8) (Y0 : 0 ≤ Y) (Y1 : Y < h / 8) (m4 : 4 ≤ md) (m6 : md ≤ 6) (nb : nbB (fun j => I (p + 1) (pb w h pl + j)) (pw w pl) (X * sdOf pl) (Y * sdOf pl) (sdOf pl)) : ∃ G, jd_80 T md pl (hh s Q I) = some (hh s Q (ims I (T + 1) G)) ∧ (∀ r c : Int, 0 ≤ r → r < sdOf pl → 0 ≤ c → c < sdOf pl → G (ppb pl + (r * sdOf pl + c)) = sprd (md - 4) (fun j => I (p + 1) (pb w h pl + j)) (pw w pl) (X * sdOf pl) (Y * sdOf pl) (sdOf pl) r c) ∧ (∀ j : Int, j < ppb pl ∨ ppb pl + sdOf pl * sdOf pl ≤ j → G j = I (T + 1) j) := by
  obtain ⟨P1, P2, P3, P4, P5, P6, P7⟩ := id P
  have F76 := F.2.2.2.2
  have t14 : s.2.2.1 p = 6 + 8 := P3
  have ok : okI pl := by unfold okI; omega
  have q2 : Q p ((2 : Nat) : Int) = some (p + 1) := P7
  have q2T' : Q T ((2 : Nat) : Int) = some p := q2T
  have q7 := T_q F 1 7 rfl rfl rfl
  have e5 : I T ((5 : Nat) : Int) = X := eX
  have e6 : I T ((6 : Nat) : Int) = Y := eY
  have c81 := c_81 F h6 P q2T sw sh p0 p2 eX eY X0 X1 Y0 Y1 nb
  have ps := pl_sz sw sh p0 p2
  have pp := ppb_b p0 p2
  have rx := pt_r sw p0 p2 X0 X1
  have ry := pt_r sh p0 p2 Y0 Y1
  have bw := pw_sd sw pl
  have bh := pw_sd sh pl
  have w8 : w / 8 ≤ 3 := by rcases sw with rfl | rfl | rfl <;> decide
  have h8 : h / 8 ≤ 3 := by rcases sh with rfl | rfl | rfl <;> decide
  have xx : 0 < X * sdOf pl ↔ 0 < X := by
    constructor
    · intro e
      by_cases c : X = 0
      · rw [c, Int.zero_mul] at e; omega
      · omega
    · intro e; exact Int.mul_pos e (by omega)
  have yy : 0 < Y * sdOf pl ↔ 0 < Y := by
    constructor
    · intro e
      by_cases c : Y = 0
      · rw [c, Int.zero_mul] at e; omega
      · omega
    · intro e; exact Int.mul_pos e (by omega)
  obtain ⟨sd, esd⟩ : ∃ z, sdOf pl = z := ⟨_, rfl⟩
  obtain ⟨W, eW⟩ : ∃ z, pw w pl = z := ⟨_, rfl⟩
  obtain ⟨H, eH⟩ : ∃ z, pw h pl = z := ⟨_, rfl⟩
  obtain ⟨pB, epB⟩ : ∃ z, pb w h pl = z := ⟨_, rfl⟩
  obtain ⟨pQ, epQ⟩ : ∃ z, ppb pl = z := ⟨_, rfl⟩
  obtain ⟨x0, ex0⟩ : ∃ z, X * sdOf pl = z := ⟨_, rfl⟩
  obtain ⟨y0, ey0⟩ : ∃ z, Y * sdOf pl = z := ⟨_, rfl⟩
  have c96 := c_96 (Q := Q) (I := I) P2 P3 hw sw ok
  have c98 := c_98 (Q := Q) (I := I) P2 P3 hw hv sw sh ok
  have js3 := jst_3 p0 p2
  rw [ex0] at rx nb xx c81
  rw [ey0] at ry nb yy c81
  rw [esd] at rx ry pp nb c81
  rw [eW] at rx ps bw nb c81 c96
  rw [eH] at ry ps bh
  rw [epB] at ps nb c81 c98
  rw [epQ] at pp js3
  rw [ex0, ey0, esd, eW, epB, epQ]
  have hP : s.2.2.2 (p + 1) ≤ 1000000 := by rw [P6]; decide
  obtain ⟨g, hg⟩ : ∃ g : Int → Int, g = fun j => I (p + 1) (pB + j) := ⟨_, rfl⟩
  rw [← hg] at c81 nb ⊢
  obtain ⟨mn, hmn⟩ : ∃ z, z = if md = 4 then mnV g W x0 y0 sd else 128 := ⟨_, rfl⟩
  have rb : ∀ (J : jM) (z : Int), 0 ≤ z → z < 864 → jai (hh s Q J) (p + 1) z = some (J (p + 1) z) := fun J z z0 z1 => x_ai P4 h6 P5 z0 (by rw [P6]; exact z1) hP
  have rd1 : ∀ (J : jM) (c : Int), J (p + 1) = I (p + 1) → 0 < y0 → 0 ≤ c → c < sd → jai (hh s Q J) (p + 1) (pB + y0 * W + x0 - W + c) = some (g ((y0 - 1) * W + (x0 + c))) := fun J c hJ hy c0 c1 => by
    have db := dm_b (W := W) (H := H) (r := y0 - 1) (c := x0 + c) (by omega) (by omega) (by omega) (by omega)
    have e : (y0 - 1) * W = y0 * W - W := by rw [Int.sub_mul, Int.one_mul]
    rw [show pB + y0 * W + x0 - W + c = pB + ((y0 - 1) * W + (x0 + c)) by omega, rb _ _ (by omega) (by omega), hJ, hg]
  have rd2 : ∀ (J : jM) (r : Int), J (p + 1) = I (p + 1) → 0 < x0 → 0 ≤ r → r < sd → jai (hh s Q J) (p + 1) (pB + y0 * W + x0 + r * W - 1) = some (g ((y0 + r) * W + (x0 - 1))) := fun J r hJ hx r0 r1 => by
    have db := dm_b (W := W) (H := H) (r := y0 + r) (c := x0 - 1) (by omega) (by omega) (by omega) (by omega)
    have e : (y0 + r) * W = y0 * W + r * W := Int.add_mul _ _ _
    rw [show pB + y0 * W + x0 + r * W - 1 = pB + ((y0 + r) * W + (x0 - 1)) by omega, rb _ _ (by omega) (by omega), hJ, hg]
  have rws : ∀ r : Int, 0 ≤ r → r < sd → 0 ≤ r * sd ∧ r * sd + sd ≤ sd * sd := fun r r0 r1 => by
    have := Int.mul_le_mul_of_nonneg_right (a := r + 1) (b := sd) (c := sd) (by omega) (by omega)
    rw [Int.add_mul, Int.one_mul] at this
    exact ⟨Int.mul_nonneg r0 (by omega), this⟩
  have row : ∀ (r : Int) (G : Int → Int), 0 ≤ r → r < sd → jd_80_l89 T md sd W (pB + y0 * W + x0) mn r (pQ + r * sd) 0 (hh s Q (ims I (T + 1) G)) = some (pQ + (r + 1) * sd, hh s Q (ims I (T + 1) (wf (fun c => pQ + r * sd + c) (fun c _ => sprd (md - 4) g W x0 y0 sd r c) G sd.toNat))) := by
    intro r G r0 r1
    have rw0 := rws r r0 r1
    unfold jd_80_l89
    have := w_for (f := fun u : (Int × Int × jH) => jd_80_s89 T md sd W (pB + y0 * W + x0) mn r u.1 u.2.1 u.2.2) (fun n => (pQ + r * sd + (n : Int), (n : Int), hh s Q (ims I (T + 1) (wf (fun c => pQ + r * sd + c) (fun c _ => sprd (md - 4) g W x0 y0 sd r c) G n)))) sd.toNat (x := (pQ + (r + 1) * sd, hh s Q (ims I (T + 1) (wf (fun c => pQ + r * sd + c) (fun c _ => sprd (md - 4) g W x0 y0 sd r c) G sd.toNat)))) (fun n hn => by
      unfold jd_80_s89
      dsimp only
      generalize hGn : wf (fun c => pQ + r * sd + c) (fun c _ => sprd (md - 4) g W x0 y0 sd r c) G n = Gn
      have jo : ∀ x : Nat, x ≠ T + 1 → ims I (T + 1) Gn x = I x := fun x hx => ims_o hx
      have fin : ∀ v, v = sprd (md - 4) g W x0 y0 sd r (n : Int) → jd_80_b161 T md sd W (pB + y0 * W + x0) mn (pQ + r * sd + (n : Int)) r (n : Int) v (hh s Q (ims I (T + 1) Gn)) = some (.inl (pQ + r * sd + ((n + 1 : Nat) : Int), ((n + 1 : Nat) : Int), hh s Q (ims I (T + 1) (wf (fun c => pQ + r * sd + c) (fun c _ => sprd (md - 4) g W x0 y0 sd r c) G (n + 1))))) := fun v hv' => by
        unfold jd_80_b161
        rw [T_gr F, Option.bind_some, q7, Option.bind_some, T_ta F 1 96 rfl rfl rfl rfl (by omega) (by omega), Option.bind_some, ims_jms, wf_s, hGn, hv', show ((n + 1 : Nat) : Int) = (n : Int) + 1 by omega, ← Int.add_assoc]
      rw [n_jw (z := sd) (by omega) (by omega), n_jw (z := (n : Int)) (by omega) (by omega), if_neg (by omega), n_jw (z := md) (by omega) (by omega)]
      have e5' : ims I (T + 1) Gn T ((5 : Nat) : Int) = X := by rw [jo T (by omega)]; exact e5
      have e6' : ims I (T + 1) Gn T ((6 : Nat) : Int) = Y := by rw [jo T (by omega)]; exact e6
      have jp : ims I (T + 1) Gn (p + 1) = I (p + 1) := jo _ (by omega)
      by_cases c5 : md = 5
      · rw [if_pos c5, T_gi F, Option.bind_some, e5', n_jw (z := X) (by omega) (by omega)]
        have sp : sprd (md - 4) g W x0 y0 sd r (n : Int) = if 0 < x0 then g ((y0 + r) * W + (x0 - 1)) else 128 := by
          unfold sprd
          rw [if_neg (by omega), if_pos (by omega)]
        by_cases hx : 0 < x0
        · rw [if_neg (by omega)]
          simp only [T_gr F, q2T', x_gr P2 t14, q2, Option.bind_some]
          rw [rd2 _ r jp hx r0 r1, Option.bind_some]
          unfold jd_80_b131
          rw [n_jw (z := md) (by omega) (by omega), if_pos (by omega)]
          exact fin _ (by rw [sp, if_pos hx])
        · rw [if_pos (by omega)]
          unfold jd_80_b131
          rw [n_jw (z := md) (by omega) (by omega), if_pos (by omega)]
          exact fin _ (by rw [sp, if_neg hx, hmn, if_neg (by omega)])
      · rw [if_neg c5]
        unfold jd_80_b131
        rw [n_jw (z := md) (by omega) (by omega)]
        by_cases c4 : md = 4
        · rw [if_pos (by omega)]
          refine fin _ ?_
          unfold sprd
          rw [if_pos (by omega), hmn, if_pos c4]
        · rw [if_neg (by omega), T_gi F, Option.bind_some, e6', n_jw (z := Y) (by omega) (by omega)]
          have sp : sprd (md - 4) g W x0 y0 sd r (n : Int) = if 0 < y0 then g ((y0 - 1) * W + (x0 + (n : Int))) else 128 := by
            unfold sprd
            rw [if_neg (by omega), if_neg (by omega)]
          by_cases hy : 0 < y0
          · rw [if_neg (by omega)]
            simp only [T_gr F, q2T', x_gr P2 t14, q2, Option.bind_some]
            rw [rd1 _ (n : Int) jp hy (by omega) (by omega), Option.bind_some]
            exact fin _ (by rw [sp, if_pos hy])
          · rw [if_pos (by omega)]
            exact fin _ (by rw [sp, if_neg hy, hmn, if_neg c4])) (by
      unfold jd_80_s89
      dsimp only
      rw [n_jw (z := sd) (by omega) (by omega), n_jw (by omega) (by omega), if_pos (by omega), show ((sd.toNat : Nat) : Int) = sd by omega, Int.add_mul, Int.one_mul, Int.add_assoc]) (n_fu (by omega))
    rw [show pQ + r * sd + ((0 : Nat) : Int) = pQ + r * sd by omega] at this
    exact this
  have l : wT (jd_80_l80 T md sd W (pB + y0 * W + x0) mn pQ 0 (hh s Q I)) (fun o => ∃ G, o = hh s Q (ims I (T + 1) G) ∧ (∀ r c : Int, 0 ≤ r → r < sd → 0 ≤ c → c < sd → G (pQ + (r * sd + c)) = sprd (md - 4) g W x0 y0 sd r c) ∧ (∀ j : Int, j < pQ ∨ pQ + sd * sd ≤ j → G j = I (T + 1) j)) := by
    unfold jd_80_l80
    refine w_lp (fun n u => ∃ G, u = (pQ + (n : Int) * sd, (n : Int), hh s Q (ims I (T + 1) G)) ∧ (∀ r c : Int, 0 ≤ r → r < (n : Int) → 0 ≤ c → c < sd → G (pQ + (r * sd + c)) = sprd (md - 4) g W x0 y0 sd r c) ∧ (∀ j : Int, j < pQ ∨ pQ + sd * sd ≤ j → G j = I (T + 1) j)) sd.toNat (fun n u hn hu => ?_) (n_fu (by omega)) ⟨I (T + 1), by rw [ims_self, show ((0 : Nat) : Int) * sd = 0 by simp, Int.add_zero]; rfl, fun r c h0 h1 => absurd h1 (by omega), fun _ _ => rfl⟩
    obtain ⟨G, rfl, hG, hO⟩ := hu
    unfold jd_80_s80
    dsimp only
    rw [n_jw (z := sd) (by omega) (by omega), n_jw (z := (n : Int)) (by omega) (by omega)]
    by_cases cn : sd ≤ (n : Int)
    · rw [if_pos cn]
      exact wT_ret ⟨G, rfl, fun r c h0 h1 => hG r c h0 (by omega), hO⟩
    · rw [if_neg cn, row n G (by omega) (by omega), Option.bind_some]
      have rn := rws n (by omega) (by omega)
      refine wT_ret ⟨by omega, _, by rw [show ((n + 1 : Nat) : Int) = (n : Int) + 1 by omega], fun r c h0 h1 h2 h3 => ?_, fun j hj => ?_⟩
      · by_cases cr : r = (n : Int)
        · subst cr
          have k1 := wf_k (ix := fun c => pQ + (n : Int) * sd + c) (v := fun c _ => sprd (md - 4) g W x0 y0 sd (n : Int) c) (g := G) (n := sd.toNat) (k := c.toNat) (by omega) (fun l _ _ => by omega)
          rw [show ((c.toNat : Nat) : Int) = c by omega] at k1
          rw [← Int.add_assoc]
          exact k1
        · have : r * sd + sd ≤ (n : Int) * sd := by
            have := Int.mul_le_mul_of_nonneg_right (a := r + 1) (b := (n : Int)) (c := sd) (by omega) (by omega)
            rw [Int.add_mul, Int.one_mul] at this
            exact this
          rw [wf_o (fun l hl => by omega)]
          exact hG r c h0 (by omega) h2 h3
      · rw [wf_o (fun l hl => by omega)]
        exact hO j hj
  obtain ⟨o, eo, G, rfl, hG, hO⟩ := l
  refine ⟨G, ?_, hG, hO⟩
  unfold jd_80 jd_80_b68
  have so := sd_of ok
  rw [esd] at so
  simp only [T_gr F, q2T', Option.bind_some, x_ck P2 t14, c96, c98, T_gi F, e5, e6, so, T_ck F, js3]
  rw [show Y * sd = y0 by rw [← ey0, esd], show X * sd = x0 by rw [← ex0, esd], n_jw (z := md) (by omega) (by omega), c81]
  simp only [Option.bind_some]
  by_cases c4 : md = 4
  · have : mn = mnV g W x0 y0 sd := by rw [hmn, if_pos c4]
    rw [if_pos c4, ← this, eo, Option.bind_some]
  · have : mn = 128 := by rw [hmn, if_neg c4]
    rw [if_neg c4, ← this, eo, Option.bind_some]
end Spread2
