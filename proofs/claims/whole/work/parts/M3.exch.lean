/-! making: the wanted samples of a part, class -/
section ExchR
variable {s : hS} {Q : hQ} {hm : hO} {I m : jM} {T p d : Nat} {w h X Y : Int}
theorem c_93r (F : PtC s Q T) (hd : d < s.1 ∧ s.2.2.1 d = 0 ∧ s.2.2.2 d = 96) (d1 : T + 10 ≤ d) (d2 : d < 76) (P : PcC s Q p) (hw : I p 0 = w) (hv : I p 1 = h) (sw : isSd w) (sh : isSd h) (eX : I T 5 = X) (eY : I T 6 = Y) (X0 : 0 ≤ X) (X1 : X < w / 8) (Y0 : 0 ≤ Y) (Y1 : Y < h / 8) : ∃ G, jd_93 T (some p) (some d) 0 (hh s Q I) = some (hh s Q (ims I d G)) ∧ ∀ pl r c : Int, 0 ≤ pl → pl ≤ 2 → 0 ≤ r → r < sdOf pl → 0 ≤ c → c < sdOf pl → G (ppb pl + (r * sdOf pl + c)) = I (p + 1) (pb w h pl + ((Y * sdOf pl + r) * pw w pl + (X * sdOf pl + c))) := by
  obtain ⟨P1, P2, P3, P4, P5, P6, P7⟩ := id P
  have t14 : s.2.2.1 p = 6 + 8 := P3
  have q2 : Q p ((2 : Nat) : Int) = some (p + 1) := P7
  have e5 : I T ((5 : Nat) : Int) = X := eX
  have e6 : I T ((6 : Nat) : Int) = Y := eY
  have rows : ∀ (pl : Int) (G : Int → Int), 0 ≤ pl → pl ≤ 2 → ∃ G', jd_93_l68 T (some p) (some d) 0 pl (sdOf pl) (pw w pl) (pb w h pl + Y * sdOf pl * pw w pl + X * sdOf pl) (ppb pl) 0 (hh s Q (ims I d G)) = some (hh s Q (ims I d G')) ∧ (∀ r c : Int, 0 ≤ r → r < sdOf pl → 0 ≤ c → c < sdOf pl → G' (ppb pl + (r * sdOf pl + c)) = I (p + 1) (pb w h pl + ((Y * sdOf pl + r) * pw w pl + (X * sdOf pl + c)))) ∧ ∀ j : Int, j < ppb pl ∨ ppb pl + sdOf pl * sdOf pl ≤ j → G' j = G j := by
    intro pl G p0 p2
    have ps := pl_sz sw sh p0 p2
    have pp := ppb_b p0 p2
    have rx := pt_r sw p0 p2 X0 X1
    have ry := pt_r sh p0 p2 Y0 Y1
    have bw := pw_sd sw pl
    have bh := pw_sd sh pl
    obtain ⟨sd, esd⟩ : ∃ z, sdOf pl = z := ⟨_, rfl⟩
    obtain ⟨W, eW⟩ : ∃ z, pw w pl = z := ⟨_, rfl⟩
    obtain ⟨H, eH⟩ : ∃ z, pw h pl = z := ⟨_, rfl⟩
    obtain ⟨pB, epB⟩ : ∃ z, pb w h pl = z := ⟨_, rfl⟩
    obtain ⟨pQ, epQ⟩ : ∃ z, ppb pl = z := ⟨_, rfl⟩
    obtain ⟨x0, ex0⟩ : ∃ z, X * sdOf pl = z := ⟨_, rfl⟩
    obtain ⟨y0, ey0⟩ : ∃ z, Y * sdOf pl = z := ⟨_, rfl⟩
    rw [ex0] at rx
    rw [ey0] at ry
    rw [esd] at rx ry pp
    rw [eW] at rx ps bw
    rw [eH] at ry ps bh
    rw [epB] at ps
    rw [epQ] at pp
    rw [ex0, ey0, esd, eW, epB, epQ]
    have rws : ∀ r : Int, 0 ≤ r → r < sd → 0 ≤ r * sd ∧ r * sd + sd ≤ sd * sd := fun r rr0 rr1 => by
      have := Int.mul_le_mul_of_nonneg_right (a := r + 1) (b := sd) (c := sd) (by omega) (by omega)
      rw [Int.add_mul, Int.one_mul] at this
      exact ⟨Int.mul_nonneg rr0 (by omega), this⟩
    have l : wT (jd_93_l68 T (some p) (some d) 0 pl sd W (pB + y0 * W + x0) pQ 0 (hh s Q (ims I d G))) (fun o => ∃ G', o = hh s Q (ims I d G') ∧ (∀ r c : Int, 0 ≤ r → r < sd → 0 ≤ c → c < sd → G' (pQ + (r * sd + c)) = I (p + 1) (pB + ((y0 + r) * W + (x0 + c)))) ∧ ∀ j : Int, j < pQ ∨ pQ + sd * sd ≤ j → G' j = G j) := by
      unfold jd_93_l68
      refine w_lp (fun n u => ∃ G', u = (pQ + (n : Int) * sd, (n : Int), hh s Q (ims I d G')) ∧ (∀ r c : Int, 0 ≤ r → r < (n : Int) → 0 ≤ c → c < sd → G' (pQ + (r * sd + c)) = I (p + 1) (pB + ((y0 + r) * W + (x0 + c)))) ∧ ∀ j : Int, j < pQ ∨ pQ + sd * sd ≤ j → G' j = G j) sd.toNat (fun n u hn hu => ?_) (n_fu (by omega)) ⟨G, by rw [show ((0 : Nat) : Int) * sd = 0 by simp, Int.add_zero]; rfl, fun r c h0 h1 => absurd h1 (by omega), fun _ _ => rfl⟩
      obtain ⟨G', rfl, hG, hO⟩ := hu
      unfold jd_93_s68 jd_93_b122
      dsimp only
      rw [n_jw (z := sd) (by omega) (by omega), n_jw (z := (n : Int)) (by omega) (by omega)]
      by_cases cn : sd ≤ (n : Int)
      · rw [if_pos cn]
        exact wT_ret ⟨G', rfl, fun r c h0 h1 => hG r c h0 (by omega), hO⟩
      · have rn := rws n (by omega) (by omega)
        have db := dm_b (W := W) (H := H) (r := y0 + (n : Int)) (c := x0) (by omega) (by omega) (by omega) (by omega)
        have db2 := dm_b (W := W) (H := H) (r := y0 + (n : Int)) (c := x0 + sd - 1) (by omega) (by omega) (by omega) (by omega)
        have em : (y0 + (n : Int)) * W = y0 * W + (n : Int) * W := Int.add_mul _ _ _
        have j3 : ims I d G' (p + 1) = I (p + 1) := ims_o (by omega)
        have cp := x_cp (s := s) (R := Q) (I := ims I d G') (t := 0) (a0 := p + 1) (a1 := d) (sp := pB + y0 * W + x0 + (n : Int) * W) (dp := pQ + (n : Int) * sd) (n := sd) P4 hd.1 P5 hd.2.1 (Or.inl rfl) (by omega) (by omega) (by omega) (by rw [P6]; omega) (by rw [hd.2.2]; omega) (by rw [P6]; decide) (by rw [hd.2.2]; decide)
        rw [if_neg cn, if_pos (show jw 0 = 0 by decide), Option.bind_some, x_gr P2 t14, Option.bind_some, q2, Option.bind_some, Option.bind_some, cp, Option.bind_some, ims_ims, ims_e, j3]
        refine wT_ret ⟨by omega, _, by rw [show ((n + 1 : Nat) : Int) = (n : Int) + 1 by omega, Int.add_mul, Int.one_mul, Int.add_assoc], fun r c h0 h1 h2 h3 => ?_, fun j hj => ?_⟩
        · by_cases cr : r = (n : Int)
          · subst cr
            rw [if_pos (by omega), show pB + y0 * W + x0 + (n : Int) * W + (pQ + ((n : Int) * sd + c) - (pQ + (n : Int) * sd)) = pB + ((y0 + (n : Int)) * W + (x0 + c)) by omega]
          · have lt : r * sd + sd ≤ (n : Int) * sd := by
              have := Int.mul_le_mul_of_nonneg_right (a := r + 1) (b := (n : Int)) (c := sd) (by omega) (by omega)
              rw [Int.add_mul, Int.one_mul] at this
              exact this
            rw [if_neg (by omega)]
            exact hG r c h0 (by omega) h2 h3
        · rw [if_neg (by omega)]
          exact hO j hj
    obtain ⟨o, eo, G', rfl, hG⟩ := l
    exact ⟨G', eo, hG⟩
  have all : wT (jd_93_l3 T (some p) (some d) 0 0 (hh s Q I)) (fun o => ∃ G, o = hh s Q (ims I d G) ∧ ∀ pl r c : Int, 0 ≤ pl → pl ≤ 2 → 0 ≤ r → r < sdOf pl → 0 ≤ c → c < sdOf pl → G (ppb pl + (r * sdOf pl + c)) = I (p + 1) (pb w h pl + ((Y * sdOf pl + r) * pw w pl + (X * sdOf pl + c)))) := by
    unfold jd_93_l3
    refine w_lp (fun n u => ∃ G, u = ((n : Int), hh s Q (ims I d G)) ∧ ∀ pl r c : Int, 0 ≤ pl → pl ≤ 2 → pl < (n : Int) → 0 ≤ r → r < sdOf pl → 0 ≤ c → c < sdOf pl → G (ppb pl + (r * sdOf pl + c)) = I (p + 1) (pb w h pl + ((Y * sdOf pl + r) * pw w pl + (X * sdOf pl + c)))) 3 (fun n u hn hu => ?_) (n_fu (by omega)) ⟨I d, by rw [ims_self]; rfl, fun pl r c h0 h1 h2 => absurd h2 (by omega)⟩
    obtain ⟨G, rfl, hG⟩ := hu
    unfold jd_93_s3
    dsimp only
    rw [n_jw (z := (n : Int)) (by omega) (by omega)]
    by_cases cn : (3 : Int) ≤ (n : Int)
    · rw [if_pos cn]
      exact wT_ret ⟨G, rfl, fun pl r c h0 h1 => hG pl r c h0 h1 (by omega)⟩
    · have n0 : (0 : Int) ≤ (n : Int) := by omega
      have n2 : (n : Int) ≤ 2 := by omega
      have ok : okI (n : Int) := by unfold okI; omega
      obtain ⟨G', e', hG', hO'⟩ := rows n G n0 n2
      have jp : ims I d G p = I p := ims_o (by omega)
      have jT : ims I d G T = I T := ims_o (by omega)
      have so : (if (n : Int) = 0 then (8 : Int) else 4) = sdOf (n : Int) := rfl
      have c96 := c_96 (s := s) (Q := Q) (I := ims I d G) P2 P3 (w := w) (p := (n : Int)) (by rw [jp]; exact hw) sw ok
      have c98 := c_98 (s := s) (Q := Q) (I := ims I d G) P2 P3 (w := w) (h := h) (p := (n : Int)) (by rw [jp]; exact hw) (by rw [jp]; exact hv) sw sh ok
      have e5' : ims I d G T ((5 : Nat) : Int) = X := by rw [jT]; exact e5
      have e6' : ims I d G T ((6 : Nat) : Int) = Y := by rw [jT]; exact e6
      rw [if_neg cn, so]
      simp only [Option.bind_some, x_ck P2 t14, c96, c98, T_gi F, e5', e6', jst_3 n0 n2]
      rw [e', Option.bind_some]
      refine wT_ret ⟨by omega, G', by rw [show ((n + 1 : Nat) : Int) = (n : Int) + 1 by omega], fun pl r c h0 h1 h2 r0 r1 c0 c1 => ?_⟩
      by_cases cp : pl = (n : Int)
      · subst cp
        exact hG' r c r0 r1 c0 c1
      · have dj := ppb_d h0 h1 n0 n2 cp
        have rc := sd_rc r0 r1 c0 c1
        rw [hO' _ (by omega)]
        exact hG pl r c h0 h1 (by omega) r0 r1 c0 c1
  obtain ⟨o, eo, G, rfl, hG⟩ := all
  refine ⟨G, ?_, hG⟩
  unfold jd_93
  rw [eo, Option.bind_some]
/-- takeBest -/
theorem c_19 (L : Lay s Q hm) : ∃ J, jd_19 44 (hh s Q I) = some (hh s Q J) ∧ (∀ z : Int, 0 ≤ z → z < 96 → J 48 z = I 57 z ∧ J 49 z = I 58 z) ∧ (∀ i : Int, 0 ≤ i → i < 4 → J 50 i = I 59 i) ∧ ∀ x : Nat, x ≠ 48 → x ≠ 49 → x ≠ 50 → J x = I x := by
  have T := PtC_45 L
  have q0 : Q 44 ((0 : Nat) : Int) = some 45 := Lq L rfl
  have q3 : Q 44 ((3 : Nat) : Int) = some 57 := Lq L rfl
  have q4 : Q 44 ((4 : Nat) : Int) = some 58 := Lq L rfl
  have q5 : Q 44 ((5 : Nat) : Int) = some 59 := Lq L rfl
  have q9 : Q 45 ((9 : Nat) : Int) = some 48 := T_q T 3 9 rfl rfl rfl
  have q10 : Q 45 ((10 : Nat) : Int) = some 49 := T_q T 4 10 rfl rfl rfl
  have q11 : Q 45 ((11 : Nat) : Int) = some 50 := T_q T 5 11 rfl rfl rfl
  have tg : ∀ a : Nat, a < 76 → a < s.1 ∧ s.2.2.1 a = (sk a).1 ∧ s.2.2.2 a = (sk a).2 := fun a ha => ⟨(L.2.1 a ha).1, (L.2.1 a ha).2.1, (L.2.1 a ha).2.2.1⟩
  have cp : ∀ (J : jM) (a b n : Nat), a < 76 → b < 76 → sk a = (0, n) → sk b = (0, n) → n ≤ 96 → jcp (hh s Q J) a 0 b 0 (n : Int) = some (hh s Q (ims J b (fun j => if 0 ≤ j ∧ j < 0 + (n : Int) then J a (0 + (j - 0)) else J b j))) := fun J a b n ha hb ea eb hn => by
    have ta := tg a ha
    have tb := tg b hb
    rw [ea] at ta
    rw [eb] at tb
    exact x_cp ta.1 tb.1 ta.2.1 tb.2.1 (Or.inl rfl) (by decide) (by decide) (by omega) (by rw [ta.2.2]; omega) (by rw [tb.2.2]; omega) (by rw [ta.2.2]; show n ≤ 1000000; omega) (by rw [tb.2.2]; show n ≤ 1000000; omega)
  have c1 := cp I 57 48 96 (by decide) (by decide) rfl rfl (by decide)
  obtain ⟨J1, hJ1⟩ : ∃ J1, J1 = ims I 48 (fun j => if 0 ≤ j ∧ j < 0 + ((96 : Nat) : Int) then I 57 (0 + (j - 0)) else I 48 j) := ⟨_, rfl⟩
  rw [← hJ1] at c1
  have c2 := cp J1 58 49 96 (by decide) (by decide) rfl rfl (by decide)
  obtain ⟨J2, hJ2⟩ : ∃ J2, J2 = ims J1 49 (fun j => if 0 ≤ j ∧ j < 0 + ((96 : Nat) : Int) then J1 58 (0 + (j - 0)) else J1 49 j) := ⟨_, rfl⟩
  rw [← hJ2] at c2
  have c3 := cp J2 59 50 4 (by decide) (by decide) rfl rfl (by decide)
  obtain ⟨J3, hJ3⟩ : ∃ J3, J3 = ims J2 50 (fun j => if 0 ≤ j ∧ j < 0 + ((4 : Nat) : Int) then J2 59 (0 + (j - 0)) else J2 50 j) := ⟨_, rfl⟩
  rw [← hJ3] at c3
  have c1' : jcp (hh s Q I) 57 0 48 0 96 = some (hh s Q J1) := c1
  have c2' : jcp (hh s Q J1) 58 0 49 0 96 = some (hh s Q J2) := c2
  have c3' : jcp (hh s Q J2) 59 0 50 0 4 = some (hh s Q J3) := c3
  have o1 : ∀ x : Nat, x ≠ 48 → J1 x = I x := fun x hx => by rw [hJ1, ims_o hx]
  have o2 : ∀ x : Nat, x ≠ 49 → J2 x = J1 x := fun x hx => by rw [hJ2, ims_o hx]
  have o3 : ∀ x : Nat, x ≠ 50 → J3 x = J2 x := fun x hx => by rw [hJ3, ims_o hx]
  refine ⟨J3, ?_, fun z z0 z1 => ⟨?_, ?_⟩, fun i i0 i1 => ?_, fun x x1 x2 x3 => by rw [o3 x x3, o2 x x2, o1 x x1]⟩
  · unfold jd_19
    rw [y_gr L 44 1 rfl rfl, Option.bind_some, q3, y_gr L 44 1 rfl rfl, Option.bind_some, q0, Option.bind_some, T_gr T, Option.bind_some, q9, Option.bind_some, Option.bind_some, c1', Option.bind_some, y_gr L 44 1 rfl rfl, Option.bind_some, q4, y_gr L 44 1 rfl rfl, Option.bind_some, q0, Option.bind_some, T_gr T, Option.bind_some, q10, Option.bind_some, Option.bind_some, c2', Option.bind_some, y_gr L 44 1 rfl rfl, Option.bind_some, q5, y_gr L 44 1 rfl rfl, Option.bind_some, q0, Option.bind_some, T_gr T, Option.bind_some, q11, Option.bind_some, Option.bind_some, c3', Option.bind_some]
  · rw [o3 48 (by decide), o2 48 (by decide), hJ1, ims_e, if_pos (by omega), show 0 + (z - 0) = z by omega]
  · rw [o3 49 (by decide), hJ2, ims_e, if_pos (by omega), show 0 + (z - 0) = z by omega, o1 58 (by decide)]
  · rw [hJ3, ims_e, if_pos (by omega), show 0 + (i - 0) = i by omega, o2 59 (by decide), o1 59 (by decide)]
end ExchR
