/-! blank -/
section Blank2
variable {s : hS} {Q : hQ} {hm : hO} {I m : jM} {a : Nat} {w h v0 v1 v2 : Int}
/-- three planes filled, in the class's row and in the model's -/
def fl3 (f : Int → Int) (B : Int → Int) (w h v0 v1 v2 : Int) : Int → Int := seqf (seqf (seqf f (B 0) (fun _ _ => v0) (pw w 0 * pw h 0)) (B 1) (fun _ _ => v1) (pw w 1 * pw h 1)) (B 2) (fun _ _ => v2) (pw w 2 * pw h 2)
theorem fl3_at {f B : Int → Int} {q k : Int} (sw : isSd w) (sh : isSd h) (hB : B 0 + pw w 0 * pw h 0 ≤ B 1 ∧ B 1 + pw w 1 * pw h 1 ≤ B 2) (q0 : 0 ≤ q) (q2 : q ≤ 2) (k0 : 0 ≤ k) (k1 : k < pw w q * pw h q) : fl3 f B w h v0 v1 v2 (B q + k) = if q = 0 then v0 else if q = 1 then v1 else v2 := by
  have b0 := pl_sz sw sh (p := 0) (by decide) (by decide)
  have b1 := pl_sz sw sh (p := 1) (by decide) (by decide)
  have hq : q = 0 ∨ q = 1 ∨ q = 2 := by omega
  unfold fl3
  rcases hq with rfl | rfl | rfl
  · rw [if_pos rfl, seqf_lo (by omega), seqf_lo (by omega), seqf_k k0 k1]
  · rw [if_neg (by decide), if_pos rfl, seqf_lo (by omega), seqf_k k0 k1]
  · rw [if_neg (by decide), if_neg (by decide), seqf_k k0 k1]
theorem fl3_out {f B : Int → Int} {lo hi j : Int} (sw : isSd w) (sh : isSd h) (hB : lo ≤ B 0 ∧ B 0 + pw w 0 * pw h 0 ≤ B 1 ∧ B 1 + pw w 1 * pw h 1 ≤ B 2 ∧ B 2 + pw w 2 * pw h 2 ≤ hi) (hj : ¬ (lo ≤ j ∧ j < hi)) : fl3 f B w h v0 v1 v2 j = f j := by
  have b0 := pl_sz sw sh (p := 0) (by decide) (by decide)
  have b1 := pl_sz sw sh (p := 1) (by decide) (by decide)
  have b2 := pl_sz sw sh (p := 2) (by decide) (by decide)
  unfold fl3
  by_cases hl : j < lo
  · rw [seqf_lo (by omega), seqf_lo (by omega), seqf_lo (by omega)]
  · rw [seqf_at (by omega), seqf_at (by omega), seqf_at (by omega)]
theorem pl_all (sw : isSd w) (sh : isSd h) : 0 ≤ pb w h 0 ∧ pb w h 0 + pw w 0 * pw h 0 ≤ pb w h 1 ∧ pb w h 1 + pw w 1 * pw h 1 ≤ pb w h 2 ∧ pb w h 2 + pw w 2 * pw h 2 ≤ 864 ∧ 0 ≤ pf 0 ∧ pf 0 + pw w 0 * pw h 0 ≤ pf 1 ∧ pf 1 + pw w 1 * pw h 1 ≤ pf 2 ∧ pf 2 + pw w 2 * pw h 2 ≤ 864 := by
  rcases sw with rfl | rfl | rfl <;> rcases sh with rfl | rfl | rfl <;> decide
theorem c_flood3 {o : Int} (A : PicAt s Q hm a o) (h6 : s.1 ≤ 1000000) (hw : I a 0 = w) (hv : I a 1 = h) (sw : isSd w) (sh : isSd h) {B : Type} (f : jH → Option B) : ((jd_101 a 0 v0 (hh s Q I)).bind fun h33 => ((jck h33 a 6).bind fun _ => ((jd_101 a 1 v1 h33).bind fun h37 => ((jck h37 a 6).bind fun _ => ((jd_101 a 2 v2 h37).bind f))))) = f (hh s Q (ims I (a + 1) (fl3 (I (a + 1)) (pb w h) w h v0 v1 v2))) := by
  have hne : a ≠ a + 1 := by omega
  have e0 : ∀ f, ims I (a + 1) f a = I a := fun f => ims_o hne
  rw [c_101 A h6 hw hv sw sh (by decide) (by decide), Option.bind_some, x_ck A.2.1.1 A.2.1.2.1, Option.bind_some, c_101 A h6 (by rw [e0]; exact hw) (by rw [e0]; exact hv) sw sh (by decide) (by decide), Option.bind_some, x_ck A.2.1.1 A.2.1.2.1, Option.bind_some, ims_e, ims_ims, c_101 A h6 (by rw [e0]; exact hw) (by rw [e0]; exact hv) sw sh (by decide) (by decide), Option.bind_some, ims_e, ims_ims]
  rfl
theorem k_flood3 {n : Int} (hn : m 76 1 = n) (h0 : 0 ≤ n) (h6 : n < 60) (hw : m 77 n = w) (hv : m 78 n = h) (sw : isSd w) (sh : isSd h) : jd_214_l118 v0 v1 v2 0 m = some (ims m 79 (fl3 (m 79) (fun q => 864 * n + pf q) w h v0 v1 v2)) := by
  subst hw hv
  have step : ∀ (m' : jM) (q v : Int), m' 76 1 = n → m' 77 = m 77 → m' 78 = m 78 → 0 ≤ q → q ≤ 2 → v = (if q = 0 then v0 else if q = 1 then v1 else v2) → jd_214_s118 v0 v1 v2 q m' = some (.inl (q + 1, ims m' 79 (seqf (m' 79) (864 * n + pf q) (fun _ _ => v) (pw (m 77 n) q * pw (m 78 n) q)))) := by
    intro m' q v e1 e2 e3 q0 q2 hv
    unfold jd_214_s118 jd_214_b146
    rw [n_jw (by omega) (by omega), if_neg (by omega), ← hv, k_214p e1 h0 h6 (by rw [e2]; exact sw) (by rw [e3]; exact sh) q0 q2, Option.bind_some, e2, e3]
  unfold jd_214_l118
  have e := w_for (f := fun t : (Int × jM) => jd_214_s118 v0 v1 v2 t.1 t.2) (fun k => match k with
    | 0 => (0, m)
    | 1 => (1, ims m 79 (seqf (m 79) (864 * n + pf 0) (fun _ _ => v0) (pw (m 77 n) 0 * pw (m 78 n) 0)))
    | 2 => (2, ims m 79 (seqf (seqf (m 79) (864 * n + pf 0) (fun _ _ => v0) (pw (m 77 n) 0 * pw (m 78 n) 0)) (864 * n + pf 1) (fun _ _ => v1) (pw (m 77 n) 1 * pw (m 78 n) 1)))
    | _ => (3, ims m 79 (fl3 (m 79) (fun q => 864 * n + pf q) (m 77 n) (m 78 n) v0 v1 v2))) 3 (x := ims m 79 (fl3 (m 79) (fun q => 864 * n + pf q) (m 77 n) (m 78 n) v0 v1 v2)) (fun k hk => ?_) ?_ (n_fu (by decide))
  · exact e
  · match k, hk with
    | 0, _ =>
      exact step m 0 v0 hn rfl rfl (by decide) (by decide) rfl
    | 1, _ =>
      refine (step (ims m 79 _) 1 v1 hn rfl rfl (by decide) (by decide) rfl).trans ?_
      rw [ims_e, ims_ims]
      rfl
    | 2, _ =>
      refine (step (ims m 79 _) 2 v2 hn rfl rfl (by decide) (by decide) rfl).trans ?_
      rw [ims_e, ims_ims]
      rfl
  · show jd_214_s118 v0 v1 v2 3 _ = _
    unfold jd_214_s118
    rw [if_pos (by decide)]
    rfl
def bOk (w h v0 v1 v2 : Int) : Prop := isSd w ∧ isSd h ∧ (0 ≤ v0 ∧ v0 ≤ 255) ∧ (0 ≤ v1 ∧ v1 ≤ 255) ∧ (0 ≤ v2 ∧ v2 ≤ 255)
theorem k_214 (hw : okI w) (hh' : okI h) (h0 : okI v0) (h1 : okI v1) (h2 : okI v2) (hn : 0 ≤ m 76 1 ∧ m 76 1 ≤ 60) : (bOk w h v0 v1 v2 → m 76 1 < 60 → jd_214 w h v0 v1 v2 m = jd_214_b83 w h v0 v1 v2 0 m) ∧ (bOk w h v0 v1 v2 → ¬ m 76 1 < 60 → jd_214 w h v0 v1 v2 m = some (0, jms m 76 0 2)) ∧ (¬ bOk w h v0 v1 v2 → jd_214 w h v0 v1 v2 m = some (0, jms m 76 0 1)) := by
  have g0 : -2147483648 ≤ v0 ∧ v0 < 2147483648 := h0
  have g1 : -2147483648 ≤ v1 ∧ v1 < 2147483648 := h1
  have g2 : -2147483648 ≤ v2 ∧ v2 < 2147483648 := h2
  have i0 := x_in (x := v0) (lo := 0) (hi := 255) (by omega) (by omega) (by decide) (by decide) (by decide) (by decide)
  have i1 := x_in (x := v1) (lo := 0) (hi := 255) (by omega) (by omega) (by decide) (by decide) (by decide) (by decide)
  have i2 := x_in (x := v2) (lo := 0) (hi := 255) (by omega) (by omega) (by decide) (by decide) (by decide) (by decide)
  have key : ∃ b : Int, (if (jw (jd_208 w)) = 0 then (0 : Int) else (if (jw (jd_208 h)) = 0 then 0 else (if (jw (jd_204 (jw v0) 0 255)) = 0 then 0 else (if (jw (jd_204 (jw v1) 0 255)) = 0 then 0 else (if (jw (jd_204 (jw v2) 0 255)) = 0 then 0 else 1))))) = b ∧ ((bOk w h v0 v1 v2 ∧ b = 1) ∨ (¬ bOk w h v0 v1 v2 ∧ b = 0)) := by
    rw [n_jw h0.1 h0.2, n_jw h1.1 h1.2, n_jw h2.1 h2.2, i0, i1, i2]
    by_cases c1 : isSd w
    · rw [if_neg (fun e => (k_182 hw).2.mp e c1)]
      by_cases c2 : isSd h
      · rw [if_neg (fun e => (k_182 hh').2.mp e c2)]
        by_cases c3 : 0 ≤ v0 ∧ v0 ≤ 255
        · rw [if_pos c3, if_neg (by decide)]
          by_cases c4 : 0 ≤ v1 ∧ v1 ≤ 255
          · rw [if_pos c4, if_neg (by decide)]
            by_cases c5 : 0 ≤ v2 ∧ v2 ≤ 255
            · rw [if_pos c5, if_neg (by decide)]
              exact ⟨1, rfl, Or.inl ⟨⟨c1, c2, c3, c4, c5⟩, rfl⟩⟩
            · rw [if_neg c5, if_pos rfl]
              exact ⟨0, rfl, Or.inr ⟨fun e => c5 e.2.2.2.2, rfl⟩⟩
          · rw [if_neg c4, if_pos rfl]
            exact ⟨0, rfl, Or.inr ⟨fun e => c4 e.2.2.2.1, rfl⟩⟩
        · rw [if_neg c3, if_pos rfl]
          exact ⟨0, rfl, Or.inr ⟨fun e => c3 e.2.2.1, rfl⟩⟩
      · rw [if_pos ((k_182 hh').2.mpr c2)]
        exact ⟨0, rfl, Or.inr ⟨fun e => c2 e.2.1, rfl⟩⟩
    · rw [if_pos ((k_182 hw).2.mpr c1)]
      exact ⟨0, rfl, Or.inr ⟨fun e => c1 e.1, rfl⟩⟩
  obtain ⟨b, eb, hb⟩ := key
  unfold jd_214 jd_214_b57
  rw [eb, n_jw (z := m 76 1) (by omega) (by omega)]
  rcases hb with ⟨hb, rfl⟩ | ⟨hb, rfl⟩
  · rw [if_neg (show ¬ jw 1 = 0 by decide)]
    refine ⟨fun _ h => by rw [if_neg (by omega)], fun _ h => ?_, fun e => absurd hb e⟩
    rw [if_pos (by omega)]
    unfold jd_214_b83
    rw [Option.bind_some, jms_e, if_neg (by decide)]
  · refine ⟨fun e => absurd e hb, fun e => absurd e hb, fun _ => ?_⟩
    rw [if_pos (show jw 0 = 0 by decide)]
    unfold jd_214_b83
    rw [Option.bind_some, jms_e, if_neg (by decide)]
theorem si_blank (R : RelH s Q hm I m) (h6 : s.1 ≤ 900000) (hw : okI w) (hh' : okI h) (h0 : okI v0) (h1 : okI v1) (h2 : okI v2) : SimI (jd_140 0 w h v0 v1 v2 (hh s Q I)) (jd_214 w h v0 v1 v2 m) (fun E => if E = 0 then 1 else if E = 1 then 2 else 0) s Q I := by
  have L := R.1
  obtain ⟨t1, t2, t3, -, -⟩ := id R.2.1
  obtain ⟨k1, k2, k3⟩ := k_214 (m := m) hw hh' h0 h1 h2 ⟨t2, t3⟩
  by_cases c : bOk w h v0 v1 v2
  · obtain ⟨sw, sh, b0, b1, b2⟩ := id c
    have pre : jd_140 0 w h v0 v1 v2 (hh s Q I) = ((jck (hh s Q I) 0 11).bind fun _ => jtb (jd_194 0 (hh s Q I)) fun v24 h26 => ((jck h26 v24 6).bind fun u27 => ((jd_95 v24 w h h26).bind fun h29 => ((jck h29 v24 6).bind fun u31 => ((jd_101 v24 0 v0 h29).bind fun h33 => ((jck h33 v24 6).bind fun u35 => ((jd_101 v24 1 v1 h33).bind fun h37 => ((jck h37 v24 6).bind fun u39 => ((jd_101 v24 2 v2 h37).bind fun h41 => ((jgi h41 0 11 1).bind fun v43 => ((jpi h41 0 11 1 (v43 + 1)).bind fun h45 => some (.inl v43, h45)))))))))))) := by
      unfold jd_140
      rw [if_neg (fun e => (k_182 hw).1.mp e sw), if_neg (fun e => (k_182 hh').1.mp e sh), (c_184 h0 _).1 b0, b_jtb, (c_184 h1 _).1 b1, b_jtb, (c_184 h2 _).1 b2, b_jtb]
    by_cases cn : m 76 1 < 60
    · obtain ⟨a, s', Q', hm', I', e1, e2, A, S1, R', g1, g2⟩ := c_194 R h6 cn
      have L' := R'.1
      generalize hJ : jms (jms I' a 0 w) a 1 h = J
      have ja0 : J a 0 = w := by rw [← hJ]; exact (jms_i (by decide)).trans jms_e
      have ja1 : J a 1 = h := by rw [← hJ]; exact jms_e
      have j0 : J 0 = I' 0 := by
        have : (0 : Nat) ≠ a := by have := A.1; omega
        rw [← hJ, jms_o this, jms_o this]
      have eC : jd_140 0 w h v0 v1 v2 (hh s Q I) = some (.inl (m 76 1), hh s' Q' (jms (ims J (a + 1) (fl3 (J (a + 1)) (pb w h) w h v0 v1 v2)) 0 1 (m 76 1 + 1))) := by
        have i1 : ims J (a + 1) (fl3 (J (a + 1)) (pb w h) w h v0 v1 v2) 0 ((1 : Nat) : Int) = m 76 1 := by
          rw [ims_o (by omega), j0]
          exact R'.2.1.1
        rw [pre, y_ck L 0 11 rfl rfl, Option.bind_some, e1, b_jtb, x_ck A.2.1.1 A.2.1.2.1, Option.bind_some, c_95 A, Option.bind_some, x_ck A.2.1.1 A.2.1.2.1, Option.bind_some, hJ, c_flood3 A (by omega) ja0 ja1 sw sh, y_gi L' 0 11 rfl rfl, Option.bind_some, i1, y_pi L' 0 11 rfl rfl, Option.bind_some]
        rfl
      generalize hK : jms (jms (jms m 76 0 0) 77 (m 76 1) w) 78 (m 76 1) h = K
      have km : K 76 1 = m 76 1 := by rw [← hK]; rfl
      have k77 : K 77 (m 76 1) = w := by rw [← hK]; exact (congrFun (jms_o (by decide)) _).trans jms_e
      have k78 : K 78 (m 76 1) = h := by rw [← hK]; exact jms_e
      have eM : jd_214 w h v0 v1 v2 m = some (m 76 1 + 1 - 1, jms (ims K 79 (fl3 (K 79) (fun q => 864 * m 76 1 + pf q) w h v0 v1 v2)) 76 1 (m 76 1 + 1)) := by
        rw [k1 c cn]
        unfold jd_214_b83
        have n1 : jms m 76 0 0 76 1 = m 76 1 := rfl
        have n2 : jms (jms m 76 0 0) 77 (m 76 1) w 76 1 = m 76 1 := rfl
        have n3 : ims K 79 (fl3 (K 79) (fun q => 864 * m 76 1 + pf q) w h v0 v1 v2) 76 1 = m 76 1 := km
        rw [Option.bind_some, jms_e, if_pos (by decide), n1, y_mw 77 60 rfl rfl t2 (by omega), Option.bind_some, n2, y_mw 78 60 rfl rfl t2 (by omega), Option.bind_some, hK, k_flood3 km t2 cn k77 k78 sw sh, Option.bind_some, Option.bind_some, n3, jms_e]
      have pa := pl_all sw sh
      have hIJ : ∀ b, b ≠ a → b ≠ a + 1 → b ≠ 0 → jms (ims J (a + 1) (fl3 (J (a + 1)) (pb w h) w h v0 v1 v2)) 0 1 (m 76 1 + 1) b = I' b := by
        intro b h1 h2 h3
        rw [jms_o h3, ims_o h2, ← hJ, jms_o h1, jms_o h1]
      have S2 : Sm (fun o => o ≠ m 76 1 ∧ o ≠ 1000) s' Q' hm' I' s' Q' hm' (jms (ims J (a + 1) (fl3 (J (a + 1)) (pb w h) w h v0 v1 v2)) 0 1 (m 76 1 + 1)) := Sm_I (fun b _ hb => hIJ b (fun e => hb.1 (by rw [e]; exact A.2.1.2.2.2)) (fun e => hb.1 (by rw [e]; exact A.2.2.1.2.2.2)) (fun e => hb.2 (by rw [e]; exact Lo L' rfl)))
      have Kp1 : Kp s Q I s' Q' (jms (ims J (a + 1) (fl3 (J (a + 1)) (pb w h) w h v0 v1 v2)) 0 1 (m 76 1 + 1)) := by
        intro b h1 h2
        obtain ⟨f1, f2, f3, f4⟩ := Kp_of L S1 (fun i _ _ => by omega) b h1 h2
        have := A.1
        exact ⟨f1, f2, f3, (hIJ b (by omega) (by omega) (by omega)).trans f4⟩
      refine Or.inl ⟨_, _, s', Q', _, _, eC, eM, ?_, by congr 1; omega, Kp1, ⟨S1.1, by omega, by omega⟩, hm', ?_⟩
      · rw [jms_i (by decide), ims_o (by decide), ← hK]
        rfl
      · refine RelH_new (w := w) (h := h) (a := a) R' cn e2 S2 jms_e (fun k hk => ?_) ⟨⟨jms_e, ?_, ?_, ?_, ?_, ?_, ?_, ?_⟩, fun i hi => ⟨?_, ?_⟩, k77, k78, fun j hj => ?_, fun x hx => ?_⟩ ⟨?_, ?_, sw, sh, fun q k q0 q2 k0 k1 => ?_⟩
        · rw [jms_i hk, ims_o (by omega), j0]
        · rw [← hK]; rfl
        · rw [← hK]; rfl
        · rw [← hK]; rfl
        · rw [← hK]; rfl
        · rw [← hK]; rfl
        · rw [← hK]; rfl
        · rw [← hK]; rfl
        · rw [jms_o (by decide), ims_o (by decide), ← hK, jms_o (by decide), jms_i hi]
          rfl
        · rw [jms_o (by decide), ims_o (by decide), ← hK, jms_i hi]
          rfl
        · rw [jms_o (by decide), ims_e, fl3_out (lo := 864 * m 76 1) (hi := 864 * m 76 1 + 864) sw sh ⟨by omega, by omega, by omega, by omega⟩ hj, ← hK]
          rfl
        · rw [jms_o (by omega), ims_o (by omega), ← hK, jms_o (by omega), jms_o (by omega), jms_o (by omega)]
        · rw [jms_o (by have := A.1; omega), ims_o (by omega)]
          exact ja0
        · rw [jms_o (by have := A.1; omega), ims_o (by omega)]
          exact ja1
        · have f1 := fl3_at (f := J (a + 1)) (B := pb w h) (v0 := v0) (v1 := v1) (v2 := v2) sw sh ⟨pa.2.1, pa.2.2.1⟩ q0 q2 k0 k1
          have f2 := fl3_at (f := K 79) (B := fun q => 864 * m 76 1 + pf q) (v0 := v0) (v1 := v1) (v2 := v2) sw sh ⟨by omega, by omega⟩ q0 q2 k0 k1
          have e3 : jms (ims J (a + 1) (fl3 (J (a + 1)) (pb w h) w h v0 v1 v2)) 0 1 (m 76 1 + 1) (a + 1) = fl3 (J (a + 1)) (pb w h) w h v0 v1 v2 := (jms_o (by omega)).trans ims_e
          have e4 : jms (ims K 79 (fl3 (K 79) (fun q => 864 * m 76 1 + pf q) w h v0 v1 v2)) 76 1 (m 76 1 + 1) 79 (864 * m 76 1 + (pf q + k)) = if q = 0 then v0 else if q = 1 then v1 else v2 := by
            rw [jms_o (by decide), ims_e, ← f2]
            congr 1
            omega
          dsimp only
          rw [e3, e4, f1]
          refine ⟨rfl, ?_⟩
          split
          · exact b0
          · split
            · exact b1
            · exact b2
    · refine SimI_th (E := 1) (b := 0) R ?_ (k2 c cn) (by decide)
      rw [pre, y_ck L 0 11 rfl rfl, Option.bind_some, c_194n R (by omega) cn, b_jtx]
  · refine SimI_th (E := 0) (b := 0) R ?_ (k3 c) (by decide)
    unfold jd_140 jd_140_b14
    rw [x_6 (show s.1 < 1000000 by omega), Option.bind_some]
    by_cases c1 : isSd w
    · rw [if_neg (fun e => (k_182 hw).1.mp e c1)]
      by_cases c2 : isSd h
      · rw [if_neg (fun e => (k_182 hh').1.mp e c2)]
        by_cases c3 : 0 ≤ v0 ∧ v0 ≤ 255
        · rw [(c_184 h0 _).1 c3, b_jtb]
          by_cases c4 : 0 ≤ v1 ∧ v1 ≤ 255
          · rw [(c_184 h1 _).1 c4, b_jtb, (c_184 h2 _).2 (fun e => c ⟨c1, c2, c3, c4, e⟩) (show s.1 < 1000000 by omega), b_jtx]
          · rw [(c_184 h1 _).2 c4 (show s.1 < 1000000 by omega), b_jtx]
        · rw [(c_184 h0 _).2 c3 (show s.1 < 1000000 by omega), b_jtx]
      · rw [if_pos ((k_182 hh').1.mpr c2)]
    · rw [if_pos ((k_182 hw).1.mpr c1)]
end Blank2
