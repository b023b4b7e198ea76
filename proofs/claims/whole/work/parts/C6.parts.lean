/-! all parts of a picture; parts mended by the model -/
section Parts2
variable {s : hS} {Q : hQ} {hm : hO} {I m m1 m2 : jM} {A p b1 b2 c : Nat} {base i en w h k q kd st a1 a2 am sp : Int} {D : Int → Prop} {U : Int → Int}
def pcPost (s : hS) (Q : hQ) (I m : jM) (A p c : Nat) (base en w h k N : Int) (x : (Int × jH) ⊕ jH) (y : Int × jM) : Prop := ∃ f sp I' m', y = (sp, m') ∧ ((x = .inl (f, hh s Q I') ∧ 1 ≤ f ∧ sp < N ∧ I' 9 6 = sp) ∨ (x = .inr (hh s Q I') ∧ f = 0 ∧ sp = N)) ∧ m' 76 52 = f ∧ f ≤ 7 ∧ 0 ≤ sp ∧ PS p c w h k sp I m I' m' ∧ (f = 0 → ∃ i', BM s Q I' m' 10 A base i' en)
theorem N_9 (sw : isSd w) (sh : isSd h) : 1 ≤ w / 8 * (h / 8) ∧ w / 8 * (h / 8) ≤ 9 := by
  rcases sw with rfl | rfl | rfl <;> rcases sh with rfl | rfl | rfl <;> decide
theorem k_238 (sw : isSd w) (sh : isSd h) (mw : m 76 33 = w) (mh : m 76 34 = h) : jd_238 m = w / 8 * (h / 8) := by
  have w8 : 0 ≤ w ∧ w ≤ 24 := by rcases sw with rfl | rfl | rfl <;> decide
  have h8 : 0 ≤ h ∧ h ≤ 24 := by rcases sh with rfl | rfl | rfl <;> decide
  unfold jd_238
  rw [mw, mh, n_div (by omega) (by omega) (by decide) (by decide), n_div (by omega) (by omega) (by decide) (by decide)]
theorem parts_l (L : Lay s Q hm) (h6 : s.1 ≤ 1000000) (F : FlC s Q c) (hc : c = 28 ∨ 153 ≤ c) (P : PcC s Q p) (q2T : Q 11 2 = some p) (hw : I p 0 = w) (hv : I p 1 = h) (sw : isSd w) (sh : isSd h) (mw : m 76 33 = w) (mh : m 76 34 = h) (k0 : 0 ≤ k) (k1 : k < 12) (eK : I 11 0 = kd) (mk : m 102 k = kd) (kd0 : 0 ≤ kd) (kd2 : kd ≤ 2) (est : I 11 1 = st) (mst : m 104 k = st) (st0 : 0 ≤ st) (st1 : st ≤ 255) (RK : RfK s Q I m b1 b2 p w h k kd a1 a2) (R : BM s Q I m 10 A base i en) : ∃ x y, jd_117_l28 9 (some c) k (some p) (w / 8 * (h / 8)) 0 (hh s Q I) = some x ∧ jd_270_l2 k 0 m = some y ∧ pcPost s Q I m A p c base en w h k (w / 8 * (h / 8)) x y := by
  have n9 := N_9 sw sh
  unfold jd_117_l28 jd_270_l2
  refine w_lp3 (Q := pcPost s Q I m A p c base en w h k (w / 8 * (h / 8))) (fun n u t => ∃ I' m' i', u = ((n : Int), hh s Q I') ∧ t = ((n : Int), m') ∧ PS p c w h k (n : Int) I m I' m' ∧ VC k (n : Int) I' m' ∧ BM s Q I' m' 10 A base i' en) (w / 8 * (h / 8)).toNat (fun n u t hn hu => ?_) (n_fu (by omega)) (n_fu (by omega)) ⟨I, m, i, rfl, rfl, ⟨fun _ _ _ _ => rfl, ⟨rfl, rfl⟩, fun _ _ _ _ _ => rfl, fun _ _ => rfl, fun pl x y p0 p2 x0 x1 y0 y1 hl => by
    have pp := ppb_b p0 p2
    have h1 : 0 ≤ x / sdOf pl := Int.ediv_nonneg x0 (by omega)
    have h2 : 0 ≤ y / sdOf pl := Int.ediv_nonneg y0 (by omega)
    have h3 : 0 ≤ y / sdOf pl * (w / 8) := Int.mul_nonneg h2 (by rcases sw with rfl | rfl | rfl <;> decide)
    exact absurd hl (by show ¬ _ < ((0 : Nat) : Int); omega), fun _ _ => rfl, fun r z g1 g2 => absurd g2 (by omega), fun _ _ => ⟨rfl, rfl⟩⟩, fun e => absurd e (by decide), R⟩
  obtain ⟨I', m', i', rfl, rfl, S, VV, R'⟩ := hu
  have n238 : jd_238 m' = w / 8 * (h / 8) := k_238 sw sh ((S.2.2.2.1 33 (by decide)).trans mw) ((S.2.2.2.1 34 (by decide)).trans mh)
  dsimp only
  by_cases cn : w / 8 * (h / 8) ≤ (n : Int)
  · right
    have en : (n : Int) = w / 8 * (h / 8) := by omega
    refine ⟨.inr (hh s Q I'), ((n : Int), m'), ?_, fun e => ?_, 0, (n : Int), I', m', rfl, Or.inr ⟨rfl, rfl, en⟩, R'.2.1.1, by decide, by omega, S, fun _ => ⟨i', R'⟩⟩
    · unfold jd_117_s28
      exact if_pos (by rw [n_jw (by omega) (by omega), n_jw (by omega) (by omega)]; exact cn)
    · refine jlp_1 (e := e + 1) ?_
      unfold jd_270_s2
      exact if_pos (by rw [n238, n_jw (by omega) (by omega), n_jw (by omega) (by omega)]; exact cn)
  · obtain ⟨f, I2, m2, e1, e2, f0, f7, e3, e4, e5, e6⟩ := pstep (q := (n : Int)) L h6 F hc P q2T hw hv sw sh mw mh k0 k1 eK mk kd0 kd2 est mst st0 st1 RK rfl (by omega) (by omega) S VV R'
    have M1 : jd_270_s2 k (n : Int) m' = some (.inl ((if jw (m2 76 52) = 0 then (n : Int) + 1 else (n : Int)), m2)) := by
      unfold jd_270_s2
      rw [n238, n_jw (z := w / 8 * (h / 8)) (by omega) (by omega), n_jw (z := (n : Int)) (by omega) (by omega), if_neg cn, if_pos (BM_b0 R'), e1, Option.bind_some]
    by_cases cf : f = 0
    · left
      obtain ⟨S2, V2, i2, R2⟩ := e5 cf
      rw [if_pos cf] at e3
      rw [if_pos (show jw (m2 76 52) = 0 by rw [e2, cf]; rfl)] at M1
      exact ⟨_, _, e3, M1, by omega, I2, m2, i2, by rw [show ((n + 1 : Nat) : Int) = (n : Int) + 1 by omega], by rw [show ((n + 1 : Nat) : Int) = (n : Int) + 1 by omega], by rw [show ((n + 1 : Nat) : Int) = (n : Int) + 1 by omega]; exact S2, by rw [show ((n + 1 : Nat) : Int) = (n : Int) + 1 by omega]; exact V2, R2⟩
    · right
      have S2 := e6 cf
      rw [if_neg cf] at e3
      rw [if_neg (br_0 e2 (by omega) f7)] at M1
      refine ⟨_, ((n : Int), m2), e3, fun e => jlp_2 (f := fun u : (Int × jM) => jd_270_s2 k u.1 u.2) (t := ((n : Int), m')) (t' := ((n : Int), m2)) M1 ?_ e, f, (n : Int), I2, m2, rfl, Or.inl ⟨rfl, by omega, by omega, e4⟩, e2, f7, by omega, S2, fun hf => absurd hf cf⟩
      dsimp only
      unfold jd_270_s2
      have n238' : jd_238 m2 = w / 8 * (h / 8) := k_238 sw sh ((S2.2.2.2.1 33 (by decide)).trans mw) ((S2.2.2.2.1 34 (by decide)).trans mh)
      rw [n238', n_jw (z := w / 8 * (h / 8)) (by omega) (by omega), n_jw (z := (n : Int)) (by omega) (by omega), if_neg cn, if_neg (br_0 e2 (by omega) f7)]
/-- written and marked; the parts' numbers are looked at elsewhere -/
def WrB (D : Int → Prop) (U : Int → Int) (m1 m' : jM) : Prop := (∀ j, D j → m' 109 j = U j ∧ m' 110 j = 1) ∧ (∀ j, ¬ D j → m' 109 j = m1 109 j ∧ m' 110 j = m1 110 j) ∧ ∀ a : Nat, a ≠ 109 → a ≠ 110 → a ≠ 111 → m' a = m1 a
theorem WrB_c {D' : Int → Prop} (h : ∀ j, D j ↔ D' j) (W : WrB D U m1 m2) : WrB D' U m1 m2 := ⟨fun j hj => W.1 j ((h j).2 hj), fun j hj => W.2.1 j (fun e => hj ((h j).1 e)), W.2.2⟩
theorem WrB_s {z : Int} (W : WrB D U m1 m2) : WrB (fun j => D j ∨ j = z) U m1 (jms (jms m2 109 z (U z)) 110 z 1) := by
  refine ⟨fun j hj => ?_, fun j hj => ?_, fun a h1 h2 h3 => by rw [jms_o h2, jms_o h1]; exact W.2.2 a h1 h2 h3⟩
  · by_cases c : j = z
    · subst c
      rw [jms_o (by decide), jms_e, jms_e]
      exact ⟨rfl, rfl⟩
    · rw [jms_i c, jms_i c, jms_i c, jms_i c]
      exact W.1 j (hj.resolve_right c)
  · have c : j ≠ z := fun e => hj (Or.inr e)
    rw [jms_i c, jms_i c, jms_i c, jms_i c]
    exact W.2.1 j (fun e => hj (Or.inl e))
/-- cells of the part at X, Y: planes ahead of pl, and n of plane pl -/
def ptD (w k X Y pl n : Int) : Int → Prop := fun j => (∃ pl' i, 0 ≤ pl' ∧ pl' < pl ∧ 0 ≤ i ∧ i < sdOf pl' * sdOf pl' ∧ j = ixP w k pl' X Y i) ∨ (∃ i, 0 ≤ i ∧ i < n ∧ j = ixP w k pl X Y i)
def bkU (m : jM) (k am : Int) : Int → Int := fun j => if am = -1 then 128 else m 109 (864 * am + (j - 864 * k))
theorem k_268 {X Y : Int} (sw : isSd w) (sh : isSd h) (mw : m1 76 33 = w) (k0 : 0 ≤ k) (k1 : k < 12) (q0 : 0 ≤ q) (q1 : q < w / 8 * (h / 8)) (hX : q % (w / 8) = X) (hY : q / (w / 8) = Y) (mk : m1 102 k = kd) (kd0 : 0 ≤ kd) (kd2 : kd ≤ 2) (ha : ∀ m' : jM, m' 76 36 = m1 76 36 → m' 102 = m1 102 → jd_239 k (if kd = 2 then 2 else 1) m' = some am) (am0 : -1 ≤ am) (am1 : am < 12) (amk : am ≠ k) (hD : ∀ j, D j → 864 * k ≤ j ∧ j < 864 * k + 864) (W : WrB D (bkU m1 k am) m1 m2) : ∃ m3, jd_268 k q m2 = some m3 ∧ WrB (fun j => D j ∨ ptD w k X Y 3 0 j) (bkU m1 k am) m1 m3 ∧ (∀ z : Int, 0 ≤ z → z < 7 → m3 111 (63 * k + 7 * q + z) = -1) ∧ ∀ j : Int, j < 63 * k + 7 * q ∨ 63 * k + 7 * q + 7 ≤ j → m3 111 j = m2 111 j := by
  have mr := mm_r sw sh q0 q1
  rw [hX, hY] at mr
  -- the numbers
  have l2 : jd_268_l2 k q 0 m2 = some (ims m2 111 (wf (fun z => 63 * k + 7 * q + z) (fun _ _ => -1) (m2 111) 7)) := by
    have := lpM (f := fun u : (Int × jM) => jd_268_s2 k q u.1 u.2) (ct := fun n => n) (ix := fun z => 63 * k + 7 * q + z) (v := fun _ _ => -1) (m := m2) (a := 111) 7 (fun n G hn => by
      dsimp only
      unfold jd_268_s2
      rw [n_jw (by omega) (by omega), if_neg (by omega), y_mw 111 756 rfl rfl (by omega) (by omega), Option.bind_some, ims_jms]) (fun G => by
      dsimp only
      unfold jd_268_s2
      exact if_pos (by show (7 : Int) ≤ jw ((7 : Nat) : Int); decide)) (by decide) (m2 111)
    rw [ims_self] at this
    exact this
  obtain ⟨G1, hG1⟩ : ∃ G, G = wf (fun z => 63 * k + 7 * q + z) (fun _ _ => -1) (m2 111) 7 := ⟨_, rfl⟩
  rw [← hG1] at l2
  have W0 : WrB D (bkU m1 k am) m1 (ims m2 111 G1) := ⟨fun j hj => by rw [ims_o (by decide), ims_o (by decide)]; exact W.1 j hj, fun j hj => by rw [ims_o (by decide), ims_o (by decide)]; exact W.2.1 j hj, fun a h1 h2 h3 => by rw [ims_o h3]; exact W.2.2 a h1 h2 h3⟩
  have plane : ∀ (pl : Int) (m3 : jM), 0 ≤ pl → pl ≤ 2 → m3 111 = G1 → WrB (fun j => D j ∨ ptD w k X Y pl 0 j) (bkU m1 k am) m1 m3 → wT (jd_268_l47 k q pl (sdOf pl) 0 m3) (fun o => o 111 = G1 ∧ WrB (fun j => D j ∨ ptD w k X Y pl (sdOf pl * sdOf pl) j) (bkU m1 k am) m1 o) := by
    intro pl m3 p0 p2 e111 W3
    have ok : okI pl := by unfold okI; omega
    have pp := ppb_b p0 p2
    have sds : 0 ≤ sdOf pl * sdOf pl ∧ sdOf pl * sdOf pl ≤ 64 := by rcases pp.2.2 with e | e <;> rw [e] <;> decide
    unfold jd_268_l47
    refine w_lp (fun n u => u.1 = (n : Int) ∧ u.2 111 = G1 ∧ WrB (fun j => D j ∨ ptD w k X Y pl (n : Int) j) (bkU m1 k am) m1 u.2) (sdOf pl * sdOf pl).toNat (fun n u hn hu => ?_) (n_fu (by omega)) ⟨rfl, e111, W3⟩
    obtain ⟨z, m'⟩ := u
    obtain ⟨e1, e2, W'⟩ := hu
    dsimp only at e1 e2 W' ⊢
    subst e1
    have mw' : m' 76 33 = w := by rw [W'.2.2 76 (by decide) (by decide) (by decide)]; exact mw
    have k45 := k_245 (m := m') (mm := q) sw mw' q0 (by omega)
    rw [hX, hY] at k45
    unfold jd_268_s47
    rw [n_jw (z := sdOf pl * sdOf pl) (by omega) (by omega), n_jw (z := (n : Int)) (by omega) (by omega)]
    by_cases cn : sdOf pl * sdOf pl ≤ (n : Int)
    · rw [if_pos cn]
      have en : (n : Int) = sdOf pl * sdOf pl := by omega
      rw [en] at W'
      exact wT_ret ⟨e2, W'⟩
    · have r := ixP_r (k := k) (i := (n : Int)) sw sh p0 p2 mr.1 mr.2.1 mr.2.2.1 mr.2.2.2.1 (by omega) (by omega)
      have ps := pl_sz sw sh p0 p2
      have ez : 864 * k + pf pl + (sdOf pl * Y + (n : Int) / sdOf pl) * pw w pl + (sdOf pl * X + (n : Int) % sdOf pl) = ixP w k pl X Y (n : Int) := rfl
      have mk' : m' 102 k = kd := by rw [W'.2.2 102 (by decide) (by decide) (by decide)]; exact mk
      have ea := ha m' (by rw [W'.2.2 76 (by decide) (by decide) (by decide)]) (W'.2.2 102 (by decide) (by decide) (by decide))
      have e240 : jd_240 k m' = some am := by
        unfold jd_240
        rw [y_ma 102 12 rfl rfl k0 k1, Option.bind_some, mk', n_jw (z := kd) (by omega) (by omega), ea, Option.bind_some]
      have k4 := k_241 (m := m') (by' := am) (z := ixP w k pl X Y (n : Int)) ok sw mw' ez (by omega) (by omega)
      have st : jd_241 k pl (sdOf pl * X + (n : Int) % sdOf pl) (sdOf pl * Y + (n : Int) / sdOf pl) am m' = some (jms (jms m' 109 (ixP w k pl X Y (n : Int)) (bkU m1 k am (ixP w k pl X Y (n : Int)))) 110 (ixP w k pl X Y (n : Int)) 1) := by
        unfold bkU
        by_cases ca : am = -1
        · rw [if_pos ca, k4.1 ca]
        · rw [if_neg ca]
          have db := dm_b (W := pw w pl) (H := pw h pl) (r := sdOf pl * Y + (n : Int) / sdOf pl) (c := sdOf pl * X + (n : Int) % sdOf pl) (by omega) (by omega) (by omega) (by omega)
          rw [k4.2 (by omega) am1 (by omega) (by omega)]
          have nd : ¬ (D (864 * am + pf pl + (sdOf pl * Y + (n : Int) / sdOf pl) * pw w pl + (sdOf pl * X + (n : Int) % sdOf pl)) ∨ ptD w k X Y pl (n : Int) (864 * am + pf pl + (sdOf pl * Y + (n : Int) / sdOf pl) * pw w pl + (sdOf pl * X + (n : Int) % sdOf pl))) := fun e => by
            rcases e with e | ⟨pl', i, c1, c2, c3, c4, c5⟩ | ⟨i, c3, c4, c5⟩
            · have := hD _ e; omega
            · have r' := ixP_r (k := k) (i := i) (pl := pl') sw sh c1 (by omega) mr.1 mr.2.1 mr.2.2.1 mr.2.2.2.1 c3 c4
              omega
            · have r' := ixP_r (k := k) (i := i) (pl := pl) sw sh p0 p2 mr.1 mr.2.1 mr.2.2.1 mr.2.2.2.1 c3 (by omega)
              omega
          rw [(W'.2.1 _ nd).1, show 864 * am + pf pl + (sdOf pl * Y + (n : Int) / sdOf pl) * pw w pl + (sdOf pl * X + (n : Int) % sdOf pl) = 864 * am + (ixP w k pl X Y (n : Int) - 864 * k) by rw [← ez]; omega]
      rw [if_neg cn, k45.1, Option.bind_some, jnz_1 (by omega) (by omega), Option.bind_some, k45.2, Option.bind_some, Option.bind_some, e240, Option.bind_some, n_rem (by omega) (by omega) (by omega) (by omega), n_div (by omega) (by omega) (by omega) (by omega), st, Option.bind_some]
      refine wT_ret ⟨by omega, by show (n : Int) + 1 = ((n + 1 : Nat) : Int); omega, by dsimp only; rw [jms_o (by decide), jms_o (by decide)]; exact e2, WrB_c (fun j => ⟨fun e => ?_, fun e => ?_⟩) (WrB_s (z := ixP w k pl X Y (n : Int)) W')⟩
      · rcases e with (e | e | ⟨i, c1, c2, c3⟩) | e
        · exact Or.inl e
        · exact Or.inr (Or.inl e)
        · exact Or.inr (Or.inr ⟨i, c1, by omega, c3⟩)
        · exact Or.inr (Or.inr ⟨n, by omega, by omega, e⟩)
      · rcases e with e | e | ⟨i, c1, c2, c3⟩
        · exact Or.inl (Or.inl e)
        · exact Or.inl (Or.inr (Or.inl e))
        · by_cases ci : i = (n : Int)
          · rw [ci] at c3; exact Or.inr c3
          · exact Or.inl (Or.inr (Or.inr ⟨i, c1, by omega, c3⟩))
  have all : wT (jd_268_l33 k q 0 (ims m2 111 G1)) (fun o => o 111 = G1 ∧ WrB (fun j => D j ∨ ptD w k X Y 3 0 j) (bkU m1 k am) m1 o) := by
    unfold jd_268_l33
    refine w_lp (fun n u => u.1 = (n : Int) ∧ u.2 111 = G1 ∧ WrB (fun j => D j ∨ ptD w k X Y (n : Int) 0 j) (bkU m1 k am) m1 u.2) 3 (fun n u hn hu => ?_) (n_fu (by omega)) ⟨rfl, by dsimp only; exact ims_e, WrB_c (fun j => ⟨Or.inl, fun e => by
      rcases e with e | ⟨pl', i, c1, c2, -⟩ | ⟨i, c1, c2, -⟩
      · exact e
      · omega
      · omega⟩) W0⟩
    obtain ⟨z, m'⟩ := u
    obtain ⟨e1, e2, W'⟩ := hu
    dsimp only at e1 e2 W' ⊢
    subst e1
    unfold jd_268_s33
    rw [n_jw (z := (n : Int)) (by omega) (by omega)]
    by_cases cn : (3 : Int) ≤ (n : Int)
    · rw [if_pos cn]
      rw [show (n : Int) = 3 by omega] at W'
      exact wT_ret ⟨e2, W'⟩
    · obtain ⟨o, eo, o1, o2⟩ := plane n m' (by omega) (by omega) e2 W'
      rw [if_neg cn, k_243 (by unfold okI; omega), eo, Option.bind_some]
      refine wT_ret ⟨by omega, by show (n : Int) + 1 = ((n + 1 : Nat) : Int); omega, o1, WrB_c (fun j => ⟨fun e => ?_, fun e => ?_⟩) o2⟩
      · rcases e with e | ⟨pl', i, c1, c2, c3⟩ | ⟨i, c1, c2, c3⟩
        · exact Or.inl e
        · exact Or.inr (Or.inl ⟨pl', i, c1, by omega, c3⟩)
        · exact Or.inr (Or.inl ⟨n, i, by omega, by omega, c1, c2, c3⟩)
      · rcases e with e | ⟨pl', i, c1, c2, c3⟩ | ⟨i, c1, c2, -⟩
        · exact Or.inl e
        · by_cases cp : pl' = (n : Int)
          · subst cp; exact Or.inr (Or.inr ⟨i, c3.1, c3.2.1, c3.2.2⟩)
          · exact Or.inr (Or.inl ⟨pl', i, c1, by omega, c3⟩)
        · omega
  obtain ⟨m3, e3, g1, W3⟩ := all
  refine ⟨m3, ?_, W3, fun z z0 z1 => ?_, fun j hj => ?_⟩
  · unfold jd_268
    rw [l2, Option.bind_some, e3, Option.bind_some]
  · have := wf_k (ix := fun z => 63 * k + 7 * q + z) (v := fun _ _ => -1) (g := m2 111) (n := 7) (k := z.toNat) (by omega) (fun l _ _ => by omega)
    rw [show ((z.toNat : Nat) : Int) = z by omega] at this
    rw [g1, hG1]
    exact this
  · rw [g1, hG1, wf_o (fun l hl => by omega)]
end Parts2
