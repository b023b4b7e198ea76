/-! fill, the model's side and both -/
section Fill2
variable {s : hS} {Q : hQ} {hm : hO} {I m : jM} {a : Nat} {p q x y w h v : Int}
theorem k_fi {c0 c1 x' y' n0 r : Int} (hp : 0 ≤ p ∧ p < 60) (sw : isSd (m 77 p)) (sh : isSd (m 78 p)) (q0 : 0 ≤ q) (q2 : q ≤ 2) (hx : okI x) (hy : okI y) (hw : okI w) (hh' : okI h) (ex : x' = x + w) (ey : y' = y + h) (hc0 : (x ≤ 0 ∧ c0 = 0) ∨ (0 < x ∧ c0 = x)) (hc1 : (x' ≤ pw (m 77 p) q ∧ c1 = x') ∨ (pw (m 77 p) q < x' ∧ c1 = pw (m 77 p) q)) (r0 : 0 ≤ r) (r1 : r < pw (m 78 p) q) {f : Int → Int} (e : m 79 = rcf f (864 * p + pf q) (pw (m 77 p) q) v x x' y y' r 0) : jd_215_l84 p q x y w h v r n0 0 m = some (n0 + (if y ≤ r ∧ r < y' then cnt c0 c1 (pw (m 77 p) q) else 0), ims m 79 (rcf f (864 * p + pf q) (pw (m 77 p) q) v x x' y y' (r + 1) 0)) := by
  have hx' : -2147483648 ≤ x ∧ x < 2147483648 := hx
  have hy' : -2147483648 ≤ y ∧ y < 2147483648 := hy
  have hw' : -2147483648 ≤ w ∧ w < 2147483648 := hw
  have hh'' : -2147483648 ≤ h ∧ h < 2147483648 := hh'
  have hq : okI q := by unfold okI; omega
  have b := pl_sz sw sh q0 q2
  have bw := pw_sd sw q
  have bh := pw_sd sh q
  generalize hWW : pw (m 77 p) q = W at *
  unfold jd_215_l84
  have := w_for (f := fun u : (Int × Int × jM) => jd_215_s84 p q x y w h v r u.1 u.2.1 u.2.2) (fun k => (n0 + (if y ≤ r ∧ r < y' then cnt c0 c1 (k : Int) else 0), (k : Int), ims m 79 (rcf f (864 * p + pf q) W v x x' y y' r (k : Int)))) W.toNat (x := (n0 + (if y ≤ r ∧ r < y' then cnt c0 c1 W else 0), ims m 79 (rcf f (864 * p + pf q) W v x x' y y' (r + 1) 0))) (fun k hk => ?_) ?_ (n_fu (n := W.toNat) (by omega))
  · have e0 : (if y ≤ r ∧ r < y' then cnt c0 c1 ((0 : Nat) : Int) else 0) = 0 := by
      unfold cnt
      split
      · split
        · rfl
        · rw [if_pos (by omega)]
      · rfl
    rw [e0, Int.add_zero, show ((0 : Nat) : Int) = 0 from rfl, ← e, ims_self] at this
    exact this
  · dsimp only
    unfold jd_215_s84 jd_215_b162
    have e2 : ∀ g : Int → Int, ims m 79 g 77 p = m 77 p := fun _ => rfl
    have hb := dm_b (W := W) (H := pw (m 78 p) q) (r := r) (c := k) r0 r1 (by omega) (by omega)
    rw [y_ma 77 60 rfl rfl hp.1 (by omega), Option.bind_some, e2, k_206 hq sw, hWW, n_jw (by omega) (by omega), n_jw (z := (k : Int)) (by omega) (by omega), if_neg (by omega), n_jw hx.1 hx.2, n_jw hy.1 hy.2, n_jw hw.1 hw.2, n_jw hh'.1 hh'.2, n_jw (z := r) (by omega) (by omega), n_jwl (by omega) (by omega), n_jwl (by omega) (by omega), ← ex, ← ey]
    have skip : ¬ (y ≤ r ∧ r < y' ∧ x ≤ (k : Int) ∧ (k : Int) < x') → some (Sum.inl (n0 + (if y ≤ r ∧ r < y' then cnt c0 c1 (k : Int) else 0), (k : Int) + 1, ims m 79 (rcf f (864 * p + pf q) W v x x' y y' r (k : Int)))) = (some (Sum.inl (n0 + (if y ≤ r ∧ r < y' then cnt c0 c1 ((k + 1 : Nat) : Int) else 0), ((k + 1 : Nat) : Int), ims m 79 (rcf f (864 * p + pf q) W v x x' y y' r ((k + 1 : Nat) : Int)))) : Option ((Int × Int × jM) ⊕ (Int × jM))) := by
      intro hn
      have ec : (if y ≤ r ∧ r < y' then cnt c0 c1 (k : Int) else 0) = (if y ≤ r ∧ r < y' then cnt c0 c1 ((k : Int) + 1) else 0) := by
        by_cases hr : y ≤ r ∧ r < y'
        · rw [if_pos hr, if_pos hr]
          unfold cnt
          repeat' split
          all_goals omega
        · rw [if_neg hr, if_neg hr]
      rw [ec, rcf_skip (c := (k : Int)) hn, show ((k + 1 : Nat) : Int) = (k : Int) + 1 from by omega]
    by_cases c1' : (k : Int) < x
    · rw [if_pos c1']
      exact skip (by omega)
    · rw [if_neg c1']
      by_cases c2' : x' ≤ (k : Int)
      · rw [if_pos c2']
        exact skip (by omega)
      · rw [if_neg c2']
        by_cases c3' : r < y
        · rw [if_pos c3']
          exact skip (by omega)
        · rw [if_neg c3']
          by_cases c4' : r < y'
          · rw [if_pos c4', k_212 hp hq (e2 _) sw, Option.bind_some, hWW, y_mw 79 51840 rfl rfl (by omega) (by omega), Option.bind_some, ims_jms, show 864 * p + pf q + r * W + (k : Int) = 864 * p + pf q + r * W + k from rfl, rcf_step (by omega) (by omega) (by omega) r0 (by omega)]
            have ec : n0 + (if y ≤ r ∧ r < y' then cnt c0 c1 (k : Int) else 0) + 1 = n0 + (if y ≤ r ∧ r < y' then cnt c0 c1 ((k : Int) + 1) else 0) := by
              rw [if_pos (by omega), if_pos (by omega)]
              unfold cnt
              repeat' split
              all_goals omega
            rw [ec, show ((k + 1 : Nat) : Int) = (k : Int) + 1 from by omega]
          · rw [if_neg c4']
            exact skip (by omega)
  · dsimp only
    unfold jd_215_s84
    have e2 : ∀ g : Int → Int, ims m 79 g 77 p = m 77 p := fun _ => rfl
    rw [y_ma 77 60 rfl rfl hp.1 (by omega), Option.bind_some, e2, k_206 hq sw, hWW, n_jw (by omega) (by omega), n_jw (by omega) (by omega), if_pos (by omega), show ((W.toNat : Nat) : Int) = W by omega, rcf_hi (c := W) (by omega) (by omega)]
theorem k_fo {c0 c1 x' y' r0 r1 : Int} (hp : 0 ≤ p ∧ p < 60) (sw : isSd (m 77 p)) (sh : isSd (m 78 p)) (q0 : 0 ≤ q) (q2 : q ≤ 2) (hx : okI x) (hy : okI y) (hw : okI w) (hh' : okI h) (ex : x' = x + w) (ey : y' = y + h) (hc0 : (x ≤ 0 ∧ c0 = 0) ∨ (0 < x ∧ c0 = x)) (hc1 : (x' ≤ pw (m 77 p) q ∧ c1 = x') ∨ (pw (m 77 p) q < x' ∧ c1 = pw (m 77 p) q)) (hr0 : (y ≤ 0 ∧ r0 = 0) ∨ (0 < y ∧ r0 = y)) (hr1 : (y' ≤ pw (m 78 p) q ∧ r1 = y') ∨ (pw (m 78 p) q < y' ∧ r1 = pw (m 78 p) q)) : jd_215_l66 p q x y w h v 0 0 m = some (cnt r0 r1 (pw (m 78 p) q) * cnt c0 c1 (pw (m 77 p) q), ims m 79 (rcf (m 79) (864 * p + pf q) (pw (m 77 p) q) v x x' y y' (pw (m 78 p) q) 0)) := by
  have hq : okI q := by unfold okI; omega
  have bw := pw_sd sw q
  have bh := pw_sd sh q
  unfold jd_215_l66
  generalize hH : pw (m 78 p) q = H at *
  have := w_for (f := fun u : (Int × Int × jM) => jd_215_s66 p q x y w h v u.1 u.2.1 u.2.2) (fun k => (cnt r0 r1 (k : Int) * cnt c0 c1 (pw (m 77 p) q), (k : Int), ims m 79 (rcf (m 79) (864 * p + pf q) (pw (m 77 p) q) v x x' y y' (k : Int) 0))) H.toNat (x := (cnt r0 r1 H * cnt c0 c1 (pw (m 77 p) q), ims m 79 (rcf (m 79) (864 * p + pf q) (pw (m 77 p) q) v x x' y y' H 0))) (fun k hk => ?_) ?_ (n_fu (n := H.toNat) (by omega))
  · have e0 : cnt r0 r1 ((0 : Nat) : Int) = 0 := by
      unfold cnt
      split
      · rfl
      · rw [if_pos (by omega)]
    rw [e0, Int.zero_mul, show ((0 : Nat) : Int) = 0 from rfl, rcf_0 (by omega) (by omega), ims_self] at this
    exact this
  · dsimp only
    unfold jd_215_s66
    have e2 : ∀ g : Int → Int, ims m 79 g 78 p = m 78 p := fun _ => rfl
    have key := k_fi (m := ims m 79 (rcf (m 79) (864 * p + pf q) (pw (m 77 p) q) v x x' y y' (k : Int) 0)) (n0 := cnt r0 r1 (k : Int) * cnt c0 c1 (pw (m 77 p) q)) (r := (k : Int)) (f := m 79) (v := v) (c0 := c0) (c1 := c1) hp sw sh q0 q2 hx hy hw hh' ex ey hc0 hc1 (by omega) (by show (k : Int) < pw (m 78 p) q; omega) rfl
    rw [y_ma 78 60 rfl rfl hp.1 (by omega), Option.bind_some, e2, k_206 hq sh, hH, n_jw (by omega) (by omega), n_jw (by omega) (by omega), if_neg (by omega), key, Option.bind_some, ims_ims]
    dsimp only
    have e3 : ims m 79 (rcf (m 79) (864 * p + pf q) (pw (m 77 p) q) v x x' y y' (k : Int) 0) 77 p = m 77 p := rfl
    rw [e3]
    have ec : cnt r0 r1 (k : Int) * cnt c0 c1 (pw (m 77 p) q) + (if y ≤ (k : Int) ∧ (k : Int) < y' then cnt c0 c1 (pw (m 77 p) q) else 0) = cnt r0 r1 ((k : Int) + 1) * cnt c0 c1 (pw (m 77 p) q) := by
      by_cases hr : y ≤ (k : Int) ∧ (k : Int) < y'
      · have : cnt r0 r1 ((k : Int) + 1) = cnt r0 r1 (k : Int) + 1 := by
          unfold cnt
          repeat' split
          all_goals omega
        rw [if_pos hr, this, Int.add_mul, Int.one_mul]
      · have : cnt r0 r1 ((k : Int) + 1) = cnt r0 r1 (k : Int) := by
          unfold cnt
          repeat' split
          all_goals omega
        rw [if_neg hr, this, Int.add_zero]
    rw [ec, show ((k + 1 : Nat) : Int) = (k : Int) + 1 from by omega]
  · dsimp only
    unfold jd_215_s66
    have e2 : ∀ g : Int → Int, ims m 79 g 78 p = m 78 p := fun _ => rfl
    rw [y_ma 78 60 rfl rfl hp.1 (by omega), Option.bind_some, e2, k_206 hq sh, hH, n_jw (by omega) (by omega), n_jw (by omega) (by omega), if_pos (by omega), show ((H.toNat : Nat) : Int) = H by omega]
theorem si_fill (R : RelH s Q hm I m) (h6 : s.1 < 1000000) (hp : okI p) (hq : okI q) (hx : okI x) (hy : okI y) (hw : okI w) (hh' : okI h) (hv : okI v) : SimI (jd_141 0 p q x y w h v (hh s Q I)) (jd_215 p q x y w h v m) (fun E => if E = 2 then 1 else if E = 0 then 2 else 0) s Q I := by
  have L := R.1
  obtain ⟨t1, t2, t3, t4, t5⟩ := id R.2.1
  have hx' : -2147483648 ≤ x ∧ x < 2147483648 := hx
  have hy' : -2147483648 ≤ y ∧ y < 2147483648 := hy
  have hw' : -2147483648 ≤ w ∧ w < 2147483648 := hw
  have hh'' : -2147483648 ≤ h ∧ h < 2147483648 := hh'
  have hv' : -2147483648 ≤ v ∧ v < 2147483648 := hv
  have i2 := x_in (x := v) (lo := 0) (hi := 255) (by omega) (by omega) (by decide) (by decide) (by decide) (by decide)
  have hk := k_210 (m := m) ⟨t2, t3⟩ hp
  by_cases c1 : 0 ≤ p ∧ p < m 76 1
  · rw [if_pos c1] at hk
    obtain ⟨a, ea, hA, A, X⟩ := c_193 R hp c1.1 c1.2
    by_cases c2 : 0 ≤ q ∧ q ≤ 2
    · by_cases c3 : (0 ≤ v ∧ v ≤ 255) ∧ 0 ≤ w ∧ 0 ≤ h
      · have hne : a ≠ a + 1 := by omega
        have b := pl_sz X.2.2.1 X.2.2.2.1 c2.1 c2.2
        have bw := pw_sd X.2.2.1 q
        have bh := pw_sd X.2.2.2.1 q
        obtain ⟨c0, hc0⟩ : ∃ c0, (x ≤ 0 ∧ c0 = 0) ∨ (0 < x ∧ c0 = x) := by
          by_cases g : x ≤ 0
          · exact ⟨0, Or.inl ⟨g, rfl⟩⟩
          · exact ⟨x, Or.inr ⟨by omega, rfl⟩⟩
        obtain ⟨r0, hr0⟩ : ∃ r0, (y ≤ 0 ∧ r0 = 0) ∨ (0 < y ∧ r0 = y) := by
          by_cases g : y ≤ 0
          · exact ⟨0, Or.inl ⟨g, rfl⟩⟩
          · exact ⟨y, Or.inr ⟨by omega, rfl⟩⟩
        obtain ⟨e1, he1⟩ : ∃ e1, (x + w ≤ pw (m 77 p) q ∧ e1 = x + w) ∨ (pw (m 77 p) q < x + w ∧ e1 = pw (m 77 p) q) := by
          by_cases g : x + w ≤ pw (m 77 p) q
          · exact ⟨_, Or.inl ⟨g, rfl⟩⟩
          · exact ⟨_, Or.inr ⟨by omega, rfl⟩⟩
        obtain ⟨r1, hr1⟩ : ∃ r1, (y + h ≤ pw (m 78 p) q ∧ r1 = y + h) ∨ (pw (m 78 p) q < y + h ∧ r1 = pw (m 78 p) q) := by
          by_cases g : y + h ≤ pw (m 78 p) q
          · exact ⟨_, Or.inl ⟨g, rfl⟩⟩
          · exact ⟨_, Or.inr ⟨by omega, rfl⟩⟩
        have eC : jd_141 0 p q x y w h v (hh s Q I) = some (.inl ((((r1 - r0).toNat : Nat) : Int) * cnt c0 e1 e1), hh s Q (ims I (a + 1) (rcf (I (a + 1)) (pb (m 77 p) (m 78 p) q) (pw (m 77 p) q) v x (x + w) y (y + h) (r0 + (((r1 - r0).toNat : Nat) : Int)) 0))) := by
          unfold jd_141
          have ez : (if jw y < jw 0 then (0 : Int) else y) = r0 := by
            rw [n_jw hy.1 hy.2, show jw 0 = 0 by decide]
            split <;> omega
          have ew : (if jwl (jw (pw (m 77 p) q)) < jwl (jw x + jw w) then jw (pw (m 77 p) q) else jw x + jw w) = e1 := by
            rw [n_jw hx.1 hx.2, n_jw hw.1 hw.2, n_jw (z := pw (m 77 p) q) (by omega) (by omega), n_jwl (by omega) (by omega), n_jwl (by omega) (by omega)]
            split <;> omega
          have eh : (if jwl (jw (pw (m 78 p) q)) < jwl (jw y + jw h) then jw (pw (m 78 p) q) else jw y + jw h) = r1 := by
            rw [n_jw hy.1 hy.2, n_jw hh'.1 hh'.2, n_jw (z := pw (m 78 p) q) (by omega) (by omega), n_jwl (by omega) (by omega), n_jwl (by omega) (by omega)]
            split <;> omega
          rw [y_ck L 0 11 rfl rfl, Option.bind_some, ea, b_jtb, (c_186 hq _).1 c2, b_jtb, (c_184 hv _).1 c3.1, b_jtb, if_neg (show ¬ jw w < 0 by rw [n_jw hw.1 hw.2]; omega), if_pos (show 0 ≤ jw h by rw [n_jw hh'.1 hh'.2]; omega), x_ck A.2.1.1 A.2.1.2.1, Option.bind_some, c_96 A.2.1.1 A.2.1.2.1 X.1 X.2.2.1 hq, Option.bind_some, Option.bind_some, c_97 A.2.1.1 A.2.1.2.1 X.2.1 X.2.2.2.1 hq, Option.bind_some, Option.bind_some, c_98 A.2.1.1 A.2.1.2.1 X.1 X.2.1 X.2.2.1 X.2.2.2.1 hq, Option.bind_some, Option.bind_some, ez, ew, eh, c_fo (y' := y + h) (x' := x + w) (c0 := c0) A (by omega) X c2.1 c2.2 hx hc0 he1 hr0 hr1 (by omega) (by omega) hy, Option.bind_some]
        have eM : jd_215 p q x y w h v m = some (cnt r0 r1 (pw (m 78 p) q) * cnt c0 e1 (pw (m 77 p) q), ims (jms m 76 0 0) 79 (rcf (m 79) (864 * p + pf q) (pw (m 77 p) q) v x (x + w) y (y + h) (pw (m 78 p) q) 0)) := by
          unfold jd_215 jd_215_b48
          rw [hk, if_neg (by decide), k_211 hq, if_pos c2, if_neg (by decide), n_jw hv.1 hv.2, i2, if_pos c3.1, if_neg (show ¬ (1 : Int) = 0 by decide), n_jw hw.1 hw.2, if_neg (by omega), n_jw hh'.1 hh'.2, if_pos (by omega), Option.bind_some, jms_e, if_pos (by decide), k_fo (m := jms m 76 0 0) ⟨c1.1, by omega⟩ X.2.2.1 X.2.2.2.1 c2.1 c2.2 hx hy hw hh' rfl rfl hc0 he1 hr0 hr1, Option.bind_some]
          rfl
        have en : cnt r0 r1 (pw (m 78 p) q) * cnt c0 e1 (pw (m 77 p) q) = (((r1 - r0).toNat : Nat) : Int) * cnt c0 e1 e1 := by
          have g1 : cnt r0 r1 (pw (m 78 p) q) = (((r1 - r0).toNat : Nat) : Int) := by
            unfold cnt
            repeat' split
            all_goals omega
          have g2 : cnt c0 e1 (pw (m 77 p) q) = cnt c0 e1 e1 := by
            unfold cnt
            repeat' split
            all_goals omega
          rw [g1, g2]
        generalize hF : rcf (I (a + 1)) (pb (m 77 p) (m 78 p) q) (pw (m 77 p) q) v x (x + w) y (y + h) (r0 + (((r1 - r0).toNat : Nat) : Int)) 0 = F at eC
        generalize hG : rcf (m 79) (864 * p + pf q) (pw (m 77 p) q) v x (x + w) y (y + h) (pw (m 78 p) q) 0 = G at eM
        have S : Sm (fun o => o ≠ p) s Q hm I s Q hm (ims I (a + 1) F) := Sm_ims (by rw [A.2.2.1.2.2.2]; omega)
        have M : Mp m (ims (jms m 76 0 0) 79 G) := ⟨⟨rfl, rfl, rfl, rfl, rfl, rfl, rfl, rfl⟩, fun x h1 h2 => (ims_o h1).trans (jms_o (by omega))⟩
        refine Or.inl ⟨_, _, s, Q, _, _, eC, eM, rfl, by rw [en], Kp_of L S (fun i _ _ => by omega), Gr_refl, hm, ?_⟩
        refine RelH_pic ⟨c1.1, by omega⟩ S L M ?_ R
        refine RPic_set L R.2.1 c1 S M (fun j hj => ?_) (fun a' ha' => ?_)
        · rw [ims_e, ← hG, rcf_out (H := pw (m 78 p) q) (by omega) (by omega) (fun q _ g => g) (by omega)]
        · rw [hA] at ha'
          cases ha'
          refine Pix_upd (q := q) X (ims_o hne) (fun k k0 k1 => ?_) (fun p' k g1 g2 g3 k0 k1 => ?_)
          · obtain ⟨x1, x2⟩ := X.2.2.2.2 q k c2.1 c2.2 k0 k1
            have e3 := rcf_val (f := I (a + 1)) (b := pb (m 77 p) (m 78 p) q) (v := v) (x := x) (x' := x + w) (y := y) (y' := y + h) (r := r0 + (((r1 - r0).toNat : Nat) : Int)) (W := pw (m 77 p) q) (H := pw (m 78 p) q) (k := k) (by omega) k0 k1 (fun z z1 z2 z3 => by omega)
            have e4 := rcf_val (f := m 79) (b := 864 * p + pf q) (v := v) (x := x) (x' := x + w) (y := y) (y' := y + h) (r := pw (m 78 p) q) (W := pw (m 77 p) q) (H := pw (m 78 p) q) (k := k) (by omega) k0 k1 (fun z z1 z2 z3 => z3)
            rw [show 864 * p + pf q + k = 864 * p + (pf q + k) by omega] at e4
            rw [ims_e, ims_e, ← hF, ← hG, e3, e4, x1]
            refine ⟨rfl, ?_⟩
            split
            · exact c3.1
            · exact x2
          · have b' := pl_sz X.2.2.1 X.2.2.2.1 g1 g2
            have hn : (pb (m 77 p) (m 78 p) p' + k < pb (m 77 p) (m 78 p) q ∨ pb (m 77 p) (m 78 p) q + pw (m 77 p) q * pw (m 78 p) q ≤ pb (m 77 p) (m 78 p) p' + k) ∧ (864 * p + (pf p' + k) < 864 * p + pf q ∨ 864 * p + pf q + pw (m 77 p) q * pw (m 78 p) q ≤ 864 * p + (pf p' + k)) := by
              by_cases hl : p' < q
              · have := pl_dj X.2.2.1 X.2.2.2.1 g1 g2 c2.1 c2.2 hl
                omega
              · have := pl_dj X.2.2.1 X.2.2.2.1 c2.1 c2.2 g1 g2 (by omega)
                omega
            rw [ims_e, ims_e, ← hF, ← hG, rcf_out (H := pw (m 78 p) q) (by omega) (by omega) (fun z z1 z2 => by omega) hn.1, rcf_out (H := pw (m 78 p) q) (by omega) (by omega) (fun z z1 z2 => z2) hn.2]
            exact ⟨rfl, rfl⟩
      · refine SimI_th (E := 0) (b := 0) R ?_ ?_ (by decide)
        · unfold jd_141 jd_141_b26
          rw [y_ck L 0 11 rfl rfl, Option.bind_some, ea, b_jtb, (c_186 hq _).1 c2, b_jtb]
          by_cases c4 : 0 ≤ v ∧ v ≤ 255
          · rw [(c_184 hv _).1 c4, b_jtb, n_jw hw.1 hw.2, n_jw hh'.1 hh'.2, x_6 h6, Option.bind_some]
            by_cases c5 : w < 0
            · rw [if_pos c5]
            · rw [if_neg c5, if_neg (by omega)]
          · rw [(c_184 hv _).2 c4 h6, b_jtx]
        · unfold jd_215 jd_215_b48
          rw [hk, if_neg (by decide), k_211 hq, if_pos c2, if_neg (by decide), n_jw hv.1 hv.2, i2, n_jw hw.1 hw.2, n_jw hh'.1 hh'.2]
          have ez : (if (if 0 ≤ v ∧ v ≤ 255 then (1 : Int) else 0) = 0 then (2 : Int) else if w < 0 then 2 else if 0 ≤ h then 0 else 2) = 2 := by
            by_cases c4 : 0 ≤ v ∧ v ≤ 255
            · rw [if_pos c4, if_neg (by decide)]
              by_cases c5 : w < 0
              · rw [if_pos c5]
              · rw [if_neg c5, if_neg (by omega)]
            · rw [if_neg c4, if_pos rfl]
          rw [ez, Option.bind_some, jms_e, if_neg (by decide)]
          rfl
    · refine SimI_th (E := 2) (b := 0) R ?_ ?_ (by decide)
      · unfold jd_141
        rw [y_ck L 0 11 rfl rfl, Option.bind_some, ea, b_jtb, (c_186 hq _).2 c2 h6, b_jtx]
      · unfold jd_215 jd_215_b48
        rw [hk, if_neg (by decide), k_211 hq, if_neg c2, if_pos rfl, Option.bind_some, jms_e, if_neg (by decide)]
        rfl
  · rw [if_neg c1] at hk
    refine SimI_th (E := 2) (b := 0) R ?_ ?_ (by decide)
    · unfold jd_141
      rw [y_ck L 0 11 rfl rfl, Option.bind_some, c_193n R h6 hp c1, b_jtx]
    · unfold jd_215 jd_215_b48
      rw [hk, if_pos rfl, Option.bind_some, jms_e, if_neg (by decide)]
      rfl
end Fill2
