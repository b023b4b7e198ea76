/-! shift: planes, the model's side, both -/
section Shift2
variable {s : hS} {Q : hQ} {hm : hO} {I J m : jM} {a b : Nat} {p q x y w h dx dy o o' : Int}
theorem c_sh3 (A : PicAt s Q hm a o) (B : PicAt s Q hm b o') (h6 : s.1 ≤ 1000000) (hab : a ≠ b + 1) (hab' : a + 1 ≠ b + 1) (aw : I a 0 = w) (ah : I a 1 = h) (bw' : I b 0 = w) (bh' : I b 1 = h) (sw : isSd w) (sh : isSd h) (x0 : -1000 ≤ dx ∧ dx ≤ 1000) (y0 : -1000 ≤ dy ∧ dy ≤ 1000) : jd_143_l69 0 dx dy (some a) (some b) 0 (hh s Q I) = some (hh s Q (ims I (b + 1) (pl3 (I (b + 1)) (pb w h) w h (fun q k => I (a + 1) (pb w h q + shF w h (shO dx) (shO dy) q k))))) := by
  have hbb : b ≠ b + 1 := by omega
  have step : ∀ (K : jM) (q : Int), (∀ c, c ≠ b + 1 → K c = I c) → 0 ≤ q → q ≤ 2 → jd_143_s69 0 dx dy (some a) (some b) q (hh s Q K) = some (.inl (q + 1, hh s Q (ims K (b + 1) (seqf (K (b + 1)) (pb w h q) (fun k _ => I (a + 1) (pb w h q + shF w h (shO dx) (shO dy) q k)) (pw w q * pw h q))))) := by
    intro K q hK q0 q2
    have hq : okI q := by unfold okI; omega
    have e1 : (if jw q = 0 then dx else jdiv dx 2) = shO dx q := by unfold shO; rw [n_jw hq.1 hq.2]
    have e2 : (if jw q = 0 then dy else jdiv dy 2) = shO dy q := by unfold shO; rw [n_jw hq.1 hq.2]
    unfold jd_143_s69
    rw [e1, e2, n_jw hq.1 hq.2, if_neg (by omega), Option.bind_some, Option.bind_some, Option.bind_some, x_ck B.2.1.1 B.2.1.2.1, Option.bind_some, c_98 B.2.1.1 B.2.1.2.1 (by rw [hK b hbb]; exact bw') (by rw [hK b hbb]; exact bh') sw sh hq, Option.bind_some, c_shp (F := fun k => I (a + 1) (pb w h q + shF w h (shO dx) (shO dy) q k)) A B h6 hab hab' (by rw [hK a hab]; exact aw) (by rw [hK a hab]; exact ah) (by rw [hK b hbb]; exact bw') (by rw [hK b hbb]; exact bh') sw sh q0 q2 (shO_b x0.1 x0.2 q) (shO_b y0.1 y0.2 q) (fun k => by rw [hK _ hab']), Option.bind_some]
  unfold jd_143_l69
  have e := w_for (f := fun t : (Int × jH) => jd_143_s69 0 dx dy (some a) (some b) t.1 t.2) (fun k => match k with
    | 0 => (0, hh s Q I)
    | 1 => (1, hh s Q (ims I (b + 1) (seqf (I (b + 1)) (pb w h 0) (fun k _ => I (a + 1) (pb w h 0 + shF w h (shO dx) (shO dy) 0 k)) (pw w 0 * pw h 0))))
    | 2 => (2, hh s Q (ims I (b + 1) (seqf (seqf (I (b + 1)) (pb w h 0) (fun k _ => I (a + 1) (pb w h 0 + shF w h (shO dx) (shO dy) 0 k)) (pw w 0 * pw h 0)) (pb w h 1) (fun k _ => I (a + 1) (pb w h 1 + shF w h (shO dx) (shO dy) 1 k)) (pw w 1 * pw h 1))))
    | _ => (3, hh s Q (ims I (b + 1) (pl3 (I (b + 1)) (pb w h) w h (fun q k => I (a + 1) (pb w h q + shF w h (shO dx) (shO dy) q k)))))) 3 (x := hh s Q (ims I (b + 1) (pl3 (I (b + 1)) (pb w h) w h (fun q k => I (a + 1) (pb w h q + shF w h (shO dx) (shO dy) q k))))) (fun k hk => ?_) ?_ (n_fu (by decide))
  · exact e
  · match k, hk with
    | 0, _ => exact step I 0 (fun _ _ => rfl) (by decide) (by decide)
    | 1, _ =>
      refine (step _ 1 (fun c hc => ims_o hc) (by decide) (by decide)).trans ?_
      rw [ims_e, ims_ims]
      rfl
    | 2, _ =>
      refine (step _ 2 (fun c hc => ims_o hc) (by decide) (by decide)).trans ?_
      rw [ims_e, ims_ims]
      rfl
  · show jd_143_s69 0 dx dy (some a) (some b) 3 _ = _
    unfold jd_143_s69
    rw [if_pos (by decide)]
    rfl
/-- a row of the model's -/
theorem k_shr {n r : Int} {f F : Int → Int} (hn : m 76 1 = n) (hp : 0 ≤ p ∧ p < n) (h6 : n < 60) (pw' : m 77 p = w) (nw' : m 77 n = w) (sw : isSd w) (sh : isSd h) (q0 : 0 ≤ q) (q2 : q ≤ 2) (d0 : -1000 ≤ shO dx q ∧ shO dx q ≤ 1000) (d1 : -1000 ≤ shO dy q ∧ shO dy q ≤ 1000) (r0 : 0 ≤ r) (r1 : r < pw h q) (hF : ∀ k, F k = f (864 * p + (pf q + shF w h (shO dx) (shO dy) q k))) (e : m 79 = seqf f (864 * n + pf q) (fun k _ => F k) (r * pw w q)) : jd_217_l177 p dx dy q (pw w q) (pw h q) (shO dx q) (shO dy q) r 0 m = some (ims m 79 (seqf f (864 * n + pf q) (fun k _ => F k) ((r + 1) * pw w q))) := by
  have hq : okI q := by unfold okI; omega
  have bs := pl_sz sw sh q0 q2
  have bw := pw_sd sw q
  have bh := pw_sd sh q
  have rw0 : 0 ≤ r * pw w q := Int.mul_nonneg r0 (by omega)
  unfold jd_217_l177
  have := w_for (f := fun u : (Int × jM) => jd_217_s177 p dx dy q (pw w q) (pw h q) (shO dx q) (shO dy q) r u.1 u.2) (fun k => ((k : Int), ims m 79 (seqf f (864 * n + pf q) (fun k _ => F k) (r * pw w q + (k : Int))))) (pw w q).toNat (x := ims m 79 (seqf f (864 * n + pf q) (fun k _ => F k) ((r + 1) * pw w q))) (fun k hk => ?_) ?_ (n_fu (n := (pw w q).toNat) (by omega))
  · rw [show ((0 : Nat) : Int) = 0 from rfl, Int.add_zero, ← e, ims_self] at this
    exact this
  · dsimp only
    unfold jd_217_s177
    have hb := dm_b (W := pw w q) (H := pw h q) (r := r) (c := (k : Int)) r0 r1 (by omega) (by omega)
    have hd := (dm (W := pw w q) (k := r * pw w q + (k : Int)) (r := r) (c := (k : Int)) (by omega) (by omega) (by omega)).mp rfl
    have e1 : ims m 79 (seqf f (864 * n + pf q) (fun k _ => F k) (r * pw w q + (k : Int))) 76 1 = n := hn
    have e2 : ims m 79 (seqf f (864 * n + pf q) (fun k _ => F k) (r * pw w q + (k : Int))) 77 = m 77 := rfl
    have z1 : jd_205 (jw ((k : Int) - shO dx q)) 0 (pw w q - 1) = clz ((k : Int) - shO dx q) (pw w q) := by
      rw [n_jw (by omega) (by omega), k_205 (by omega) (by omega) (by unfold okI; omega) (by unfold okI; omega)]
      unfold clz
      repeat' split
      all_goals omega
    have z2 : jd_205 (jw (r - shO dy q)) 0 (pw h q - 1) = clz (r - shO dy q) (pw h q) := by
      rw [n_jw (by omega) (by omega), k_205 (by omega) (by omega) (by unfold okI; omega) (by unfold okI; omega)]
      unfold clz
      repeat' split
      all_goals omega
    have k1 := clz_b (z := (k : Int) - shO dx q) (n := pw w q) (by omega)
    have k2 := clz_b (z := r - shO dy q) (n := pw h q) (by omega)
    have hb2 := dm_b (W := pw w q) (H := pw h q) k2.1 k2.2 k1.1 k1.2
    rw [n_jw (z := pw w q) (by omega) (by omega), n_jw (z := (k : Int)) (by omega) (by omega), if_neg (by omega), e1, z1, z2, k_212 (w := w) ⟨by omega, h6⟩ hq (by rw [e2]; exact nw') sw, Option.bind_some, k_212 (w := w) ⟨hp.1, by omega⟩ hq (by rw [e2]; exact pw') sw, Option.bind_some, y_ma 79 51840 rfl rfl (by omega) (by omega), Option.bind_some, y_mw 79 51840 rfl rfl (by omega) (by omega), Option.bind_some, ims_jms, ims_e, seqf_lo (by omega)]
    have st := seqf_s (f := f) (b := 864 * n + pf q) (F := fun k _ => F k) (k := r * pw w q + (k : Int)) (by omega)
    have eF : F (r * pw w q + (k : Int)) = f (864 * p + pf q + clz (r - shO dy q) (pw h q) * pw w q + clz ((k : Int) - shO dx q) (pw w q)) := by
      rw [hF]
      unfold shF
      rw [hd.1, hd.2]
      congr 1
      omega
    rw [← eF, show ((k + 1 : Nat) : Int) = (k : Int) + 1 from by omega, show r * pw w q + ((k : Int) + 1) = r * pw w q + (k : Int) + 1 by omega, ← st, show 864 * n + pf q + r * pw w q + (k : Int) = 864 * n + pf q + (r * pw w q + (k : Int)) by omega]
  · dsimp only
    unfold jd_217_s177
    rw [n_jw (z := pw w q) (by omega) (by omega), n_jw (by omega) (by omega), if_pos (by omega), show (((pw w q).toNat : Nat) : Int) = pw w q by omega, Int.add_mul, Int.one_mul]
theorem k_shp {n : Int} {F : Int → Int} (hn : m 76 1 = n) (hp : 0 ≤ p ∧ p < n) (h6 : n < 60) (pw' : m 77 p = w) (nw' : m 77 n = w) (sw : isSd w) (sh : isSd h) (q0 : 0 ≤ q) (q2 : q ≤ 2) (d0 : -1000 ≤ shO dx q ∧ shO dx q ≤ 1000) (d1 : -1000 ≤ shO dy q ∧ shO dy q ≤ 1000) (hF : ∀ k, F k = m 79 (864 * p + (pf q + shF w h (shO dx) (shO dy) q k))) : jd_217_l167 p dx dy q (pw w q) (pw h q) (shO dx q) (shO dy q) 0 m = some (ims m 79 (seqf (m 79) (864 * n + pf q) (fun k _ => F k) (pw w q * pw h q))) := by
  have bh := pw_sd sh q
  unfold jd_217_l167
  have := w_for (f := fun u : (Int × jM) => jd_217_s167 p dx dy q (pw w q) (pw h q) (shO dx q) (shO dy q) u.1 u.2) (fun k => ((k : Int), ims m 79 (seqf (m 79) (864 * n + pf q) (fun k _ => F k) ((k : Int) * pw w q)))) (pw h q).toNat (x := ims m 79 (seqf (m 79) (864 * n + pf q) (fun k _ => F k) (pw w q * pw h q))) (fun k hk => ?_) ?_ (n_fu (n := (pw h q).toNat) (by omega))
  · rw [show ((0 : Nat) : Int) = 0 from rfl, Int.zero_mul, seqf_0, ims_self] at this
    exact this
  · dsimp only
    unfold jd_217_s167
    rw [n_jw (z := pw h q) (by omega) (by omega), n_jw (z := (k : Int)) (by omega) (by omega), if_neg (by omega), k_shr (m := ims m 79 (seqf (m 79) (864 * n + pf q) (fun k _ => F k) ((k : Int) * pw w q))) (f := m 79) (F := F) hn hp h6 pw' nw' sw sh q0 q2 d0 d1 (by omega) (by omega) hF ims_e, Option.bind_some, ims_ims]
    rfl
  · dsimp only
    unfold jd_217_s167
    rw [n_jw (z := pw h q) (by omega) (by omega), n_jw (by omega) (by omega), if_pos (by omega), show (((pw h q).toNat : Nat) : Int) = pw h q by omega, Int.mul_comm (pw h q)]
theorem k_sh3 {n : Int} (hn : m 76 1 = n) (hp : 0 ≤ p ∧ p < n) (h6 : n < 60) (pw' : m 77 p = w) (ph' : m 78 p = h) (nw' : m 77 n = w) (sw : isSd w) (sh : isSd h) (x0 : -1000 ≤ dx ∧ dx ≤ 1000) (y0 : -1000 ≤ dy ∧ dy ≤ 1000) : jd_217_l104 p dx dy 0 m = some (ims m 79 (pl3 (m 79) (fun q => 864 * n + pf q) w h (fun q k => m 79 (864 * p + (pf q + shF w h (shO dx) (shO dy) q k))))) := by
  have hF : ∀ (g : Int → Int) (q k : Int), (∀ j, j < 864 * n → g j = m 79 j) → 0 ≤ q → q ≤ 2 → g (864 * p + (pf q + shF w h (shO dx) (shO dy) q k)) = m 79 (864 * p + (pf q + shF w h (shO dx) (shO dy) q k)) := by
    intro g q k hg q0 q2
    have bs := pl_sz sw sh q0 q2
    have bw := pw_sd sw q
    have bh := pw_sd sh q
    have k1 := clz_b (z := k % pw w q - shO dx q) (n := pw w q) (by omega)
    have k2 := clz_b (z := k / pw w q - shO dy q) (n := pw h q) (by omega)
    have hb2 := dm_b (W := pw w q) (H := pw h q) k2.1 k2.2 k1.1 k1.2
    refine hg _ ?_
    unfold shF
    omega
  have step : ∀ (K : jM) (q : Int), (∀ c, c ≠ 79 → K c = m c) → (∀ j, j < 864 * n → K 79 j = m 79 j) → 0 ≤ q → q ≤ 2 → jd_217_s104 p dx dy q K = some (.inl (q + 1, ims K 79 (seqf (K 79) (864 * n + pf q) (fun k _ => m 79 (864 * p + (pf q + shF w h (shO dx) (shO dy) q k))) (pw w q * pw h q)))) := by
    intro K q hK hK9 q0 q2
    have hq : okI q := by unfold okI; omega
    have e1 : (if jw q = 0 then dx else jdiv dx 2) = shO dx q := by unfold shO; rw [n_jw hq.1 hq.2]
    have e2 : (if jw q = 0 then dy else jdiv dy 2) = shO dy q := by unfold shO; rw [n_jw hq.1 hq.2]
    unfold jd_217_s104
    rw [e1, e2, n_jw hq.1 hq.2, if_neg (by omega), y_ma 77 60 rfl rfl hp.1 (by omega), Option.bind_some, y_ma 78 60 rfl rfl hp.1 (by omega), Option.bind_some, Option.bind_some, Option.bind_some, hK 77 (by decide), hK 78 (by decide), pw', ph', k_206 hq sw, k_206 hq sh, k_shp (m := K) (w := w) (h := h) (F := fun k => m 79 (864 * p + (pf q + shF w h (shO dx) (shO dy) q k))) (by rw [hK 76 (by decide)]; exact hn) hp h6 (by rw [hK 77 (by decide)]; exact pw') (by rw [hK 77 (by decide)]; exact nw') sw sh q0 q2 (shO_b x0.1 x0.2 q) (shO_b y0.1 y0.2 q) (fun k => (hF (K 79) q k hK9 q0 q2).symm), Option.bind_some]
  unfold jd_217_l104
  have b0 := pl_sz sw sh (p := 0) (by decide) (by decide)
  have b1 := pl_sz sw sh (p := 1) (by decide) (by decide)
  have e := w_for (f := fun t : (Int × jM) => jd_217_s104 p dx dy t.1 t.2) (fun k => match k with
    | 0 => (0, m)
    | 1 => (1, ims m 79 (seqf (m 79) (864 * n + pf 0) (fun k _ => m 79 (864 * p + (pf 0 + shF w h (shO dx) (shO dy) 0 k))) (pw w 0 * pw h 0)))
    | 2 => (2, ims m 79 (seqf (seqf (m 79) (864 * n + pf 0) (fun k _ => m 79 (864 * p + (pf 0 + shF w h (shO dx) (shO dy) 0 k))) (pw w 0 * pw h 0)) (864 * n + pf 1) (fun k _ => m 79 (864 * p + (pf 1 + shF w h (shO dx) (shO dy) 1 k))) (pw w 1 * pw h 1)))
    | _ => (3, ims m 79 (pl3 (m 79) (fun q => 864 * n + pf q) w h (fun q k => m 79 (864 * p + (pf q + shF w h (shO dx) (shO dy) q k)))))) 3 (x := ims m 79 (pl3 (m 79) (fun q => 864 * n + pf q) w h (fun q k => m 79 (864 * p + (pf q + shF w h (shO dx) (shO dy) q k))))) (fun k hk => ?_) ?_ (n_fu (by decide))
  · exact e
  · match k, hk with
    | 0, _ => exact step m 0 (fun _ _ => rfl) (fun _ _ => rfl) (by decide) (by decide)
    | 1, _ =>
      refine (step _ 1 (fun c hc => ims_o hc) (fun j hj => by rw [ims_e, seqf_lo (by omega)]) (by decide) (by decide)).trans ?_
      rw [ims_e, ims_ims]
      rfl
    | 2, _ =>
      refine (step _ 2 (fun c hc => ims_o hc) (fun j hj => by rw [ims_e, seqf_lo (by omega), seqf_lo (by omega)]) (by decide) (by decide)).trans ?_
      rw [ims_e, ims_ims]
      rfl
  · show jd_217_s104 p dx dy 3 _ = _
    unfold jd_217_s104
    rw [if_pos (by decide)]
    rfl
theorem shF_b (sw : isSd w) (sh : isSd h) (ox oy : Int → Int) (k : Int) : 0 ≤ shF w h ox oy q k ∧ shF w h ox oy q k < pw w q * pw h q := by
  have bw := pw_sd sw q
  have bh := pw_sd sh q
  have k1 := clz_b (z := k % pw w q - ox q) (n := pw w q) (by omega)
  have k2 := clz_b (z := k / pw w q - oy q) (n := pw h q) (by omega)
  exact dm_b (W := pw w q) (H := pw h q) k2.1 k2.2 k1.1 k1.2
theorem si_shift (R : RelH s Q hm I m) (h6 : s.1 ≤ 900000) (hp : okI p) (hx : okI dx) (hy : okI dy) : SimI (jd_143 0 p dx dy (hh s Q I)) (jd_217 p dx dy m) (fun E => if E = 2 then 1 else if E = 0 then 2 else if E = 1 then 3 else 0) s Q I := by
  have L := R.1
  obtain ⟨t1, t2, t3, t4, t5⟩ := id R.2.1
  have hx' : -2147483648 ≤ dx ∧ dx < 2147483648 := hx
  have hy' : -2147483648 ≤ dy ∧ dy < 2147483648 := hy
  have ix := x_in (x := dx) (lo := -1000) (hi := 1000) (by omega) (by omega) (by decide) (by decide) (by decide) (by decide)
  have iy := x_in (x := dy) (lo := -1000) (hi := 1000) (by omega) (by omega) (by decide) (by decide) (by decide) (by decide)
  have hk := k_210 (m := m) ⟨t2, t3⟩ hp
  have bad : ∀ c : Int, jw c ≤ 0 → False ∨ True := fun _ _ => Or.inr trivial
  by_cases c1 : 0 ≤ p ∧ p < m 76 1
  · rw [if_pos c1] at hk
    obtain ⟨a, ea, hA, A, X⟩ := c_193 R hp c1.1 c1.2
    by_cases c2 : (-1000 ≤ dx ∧ dx ≤ 1000) ∧ -1000 ≤ dy ∧ dy ≤ 1000
    · by_cases cn : m 76 1 < 60
      · obtain ⟨b, s', Q', hm', I', e1, e2, B, S1, R', g1, g2⟩ := c_194 R h6 cn
        have L' := R'.1
        obtain ⟨-, A', iA, iA1⟩ : True ∧ PicAt s' Q' hm' a p ∧ I' a = I a ∧ I' (a + 1) = I (a + 1) := ⟨trivial, PicAt_fr S1 A (by omega)⟩
        have X' : Pix I' a (m 77 p) (m 78 p) (fun j => m 79 (864 * p + j)) := Pix_fr X iA iA1
        obtain ⟨x1, x2, sw, sh, x5⟩ := id X'
        generalize hw : m 77 p = w at *
        generalize hh' : m 78 p = h at *
        have n1 : a ≠ b := fun e => absurd (A'.2.1.2.2.2.symm.trans ((congrArg hm' e).trans B.2.1.2.2.2)) (by omega)
        have n2 : a ≠ b + 1 := fun e => absurd (A'.2.1.2.2.2.symm.trans ((congrArg hm' e).trans B.2.2.1.2.2.2)) (by omega)
        have n3 : a + 1 ≠ b := fun e => absurd (A'.2.2.1.2.2.2.symm.trans ((congrArg hm' e).trans B.2.1.2.2.2)) (by omega)
        have n4 : a + 1 ≠ b + 1 := by omega
        generalize hJ : jms (jms I' b 0 w) b 1 h = J
        have jb0 : J b 0 = w := by rw [← hJ]; exact (jms_i (by decide)).trans jms_e
        have jb1 : J b 1 = h := by rw [← hJ]; exact jms_e
        have jo : ∀ c, c ≠ b → J c = I' c := fun c hc => by rw [← hJ, jms_o hc, jms_o hc]
        have w0 : I' a ((0 : Nat) : Int) = w := x1
        have w1 : I' a ((1 : Nat) : Int) = h := x2
        generalize hF : pl3 (J (b + 1)) (pb w h) w h (fun q k => J (a + 1) (pb w h q + shF w h (shO dx) (shO dy) q k)) = F
        have eC : jd_143 0 p dx dy (hh s Q I) = some (.inl (m 76 1), hh s' Q' (jms (ims J (b + 1) F) 0 1 (m 76 1 + 1))) := by
          have i1 : ims J (b + 1) F 0 ((1 : Nat) : Int) = m 76 1 := by
            rw [ims_o (by omega), jo 0 (by have := B.1; omega)]
            exact R'.2.1.1
          unfold jd_143
          rw [y_ck L 0 11 rfl rfl, Option.bind_some, ea, b_jtb, n_jw hx.1 hx.2, n_jw hy.1 hy.2, if_neg (by omega), if_neg (by omega), if_neg (by omega), if_pos (by omega), y_ck L 0 11 rfl rfl, Option.bind_some, e1, b_jtb, x_gi A'.2.1.1 A'.2.1.2.1, Option.bind_some, x_gi A'.2.1.1 A'.2.1.2.1, Option.bind_some, w0, w1, x_ck B.2.1.1 B.2.1.2.1, Option.bind_some, c_95 B, Option.bind_some, hJ, c_sh3 (w := w) (h := h) A' B (by omega) n2 n4 (by rw [jo a n1]; exact x1) (by rw [jo a n1]; exact x2) jb0 jb1 sw sh c2.1 c2.2, Option.bind_some, hF, y_gi L' 0 11 rfl rfl, Option.bind_some, i1, y_pi L' 0 11 rfl rfl, Option.bind_some]
          rfl
        generalize hK : jms (jms (jms m 76 0 0) 77 (m 76 1) w) 78 (m 76 1) h = K
        have kp : ∀ i, i ≠ m 76 1 → K 77 i = m 77 i ∧ K 78 i = m 78 i := fun i hi => by
          rw [← hK]
          exact ⟨(congrFun (jms_o (by decide)) _).trans (jms_i hi), jms_i hi⟩
        have km : K 76 1 = m 76 1 := by rw [← hK]; rfl
        have k77 : K 77 (m 76 1) = w := by rw [← hK]; exact (congrFun (jms_o (by decide)) _).trans jms_e
        have k78 : K 78 (m 76 1) = h := by rw [← hK]; exact jms_e
        have k79 : K 79 = m 79 := by rw [← hK]; rfl
        generalize hG : pl3 (m 79) (fun q => 864 * m 76 1 + pf q) w h (fun q k => m 79 (864 * p + (pf q + shF w h (shO dx) (shO dy) q k))) = G
        have eM : jd_217 p dx dy m = some (m 76 1 + 1 - 1, jms (ims K 79 G) 76 1 (m 76 1 + 1)) := by
          unfold jd_217 jd_217_b59
          have q1 : jms m 76 0 0 76 1 = m 76 1 := rfl
          have q2 : jms (jms m 76 0 0) 77 (m 76 1) w 76 1 = m 76 1 := rfl
          have q3 : jms m 76 0 0 77 p = w := hw
          have q4 : jms (jms m 76 0 0) 77 (m 76 1) w 78 p = h := hh'
          have q5 : ims K 79 G 76 1 = m 76 1 := km
          have ks := k_sh3 (m := K) (w := w) (h := h) km c1 cn (by rw [(kp p (by omega)).1]; exact hw) (by rw [(kp p (by omega)).2]; exact hh') k77 sw sh c2.1 c2.2
          rw [k79, hG] at ks
          rw [hk, if_neg (by decide), n_jw hx.1 hx.2, n_jw hy.1 hy.2, ix, if_pos c2.1, if_neg (by decide), iy, if_pos c2.2, if_neg (by decide), n_jw (z := m 76 1) (by omega) (by omega), if_neg (by omega), Option.bind_some, jms_e, if_pos (by decide), y_ma 77 60 rfl rfl c1.1 (by omega), Option.bind_some, q3, q1, y_mw 77 60 rfl rfl t2 (by omega), Option.bind_some, y_ma 78 60 rfl rfl c1.1 (by omega), Option.bind_some, q4, q2, y_mw 78 60 rfl rfl t2 (by omega), Option.bind_some, hK, ks, Option.bind_some, Option.bind_some, q5, jms_e]
        have pa := pl_all sw sh
        have hIJ : ∀ c, c ≠ b → c ≠ b + 1 → c ≠ 0 → jms (ims J (b + 1) F) 0 1 (m 76 1 + 1) c = I' c := by
          intro c h1 h2 h3
          rw [jms_o h3, ims_o h2, jo c h1]
        have S2 : Sm (fun o => o ≠ m 76 1 ∧ o ≠ 1000) s' Q' hm' I' s' Q' hm' (jms (ims J (b + 1) F) 0 1 (m 76 1 + 1)) := Sm_I (fun c _ hc => hIJ c (fun e => hc.1 (by rw [e]; exact B.2.1.2.2.2)) (fun e => hc.1 (by rw [e]; exact B.2.2.1.2.2.2)) (fun e => hc.2 (by rw [e]; exact Lo L' rfl)))
        have Kp1 : Kp s Q I s' Q' (jms (ims J (b + 1) F) 0 1 (m 76 1 + 1)) := by
          intro c h1 h2
          obtain ⟨f1, f2, f3, f4⟩ := Kp_of L S1 (fun i _ _ => by omega) c h1 h2
          have := B.1
          exact ⟨f1, f2, f3, (hIJ c (by omega) (by omega) (by omega)).trans f4⟩
        refine Or.inl ⟨_, _, s', Q', _, _, eC, eM, ?_, by congr 1; omega, Kp1, ⟨S1.1, by omega, by omega⟩, hm', ?_⟩
        · rw [jms_i (by decide), ims_o (by decide), ← hK]
          rfl
        · refine RelH_new (w := w) (h := h) (a := b) R' cn e2 S2 jms_e (fun k hk => ?_) ⟨⟨jms_e, ?_, ?_, ?_, ?_, ?_, ?_, ?_⟩, fun i hi => kp i hi, k77, k78, fun j hj => ?_, fun x hx => ?_⟩ ⟨?_, ?_, sw, sh, fun q k q0 q2 k0 k1 => ?_⟩
          · rw [jms_i hk, ims_o (by omega), jo 0 (by have := B.1; omega)]
          · rw [← hK]; rfl
          · rw [← hK]; rfl
          · rw [← hK]; rfl
          · rw [← hK]; rfl
          · rw [← hK]; rfl
          · rw [← hK]; rfl
          · rw [← hK]; rfl
          · rw [jms_o (by decide), ims_e, ← hG, pl3_out (lo := 864 * m 76 1) (hi := 864 * m 76 1 + 864) sw sh ⟨by omega, by omega, by omega, by omega⟩ hj]
          · rw [jms_o (by omega), ims_o (by omega), ← hK, jms_o (by omega), jms_o (by omega), jms_o (by omega)]
          · rw [jms_o (by have := B.1; omega), ims_o (by omega)]
            exact jb0
          · rw [jms_o (by have := B.1; omega), ims_o (by omega)]
            exact jb1
          · have f1 := pl3_at (f := J (b + 1)) (B := pb w h) (F := fun q k => J (a + 1) (pb w h q + shF w h (shO dx) (shO dy) q k)) sw sh ⟨pa.2.1, pa.2.2.1⟩ q0 q2 k0 k1
            have f2 := pl3_at (f := m 79) (B := fun q => 864 * m 76 1 + pf q) (F := fun q k => m 79 (864 * p + (pf q + shF w h (shO dx) (shO dy) q k))) sw sh ⟨by omega, by omega⟩ q0 q2 k0 k1
            have sb := shF_b (q := q) sw sh (shO dx) (shO dy) k
            have sx := x5 q (shF w h (shO dx) (shO dy) q k) q0 q2 sb.1 sb.2
            have e3 : jms (ims J (b + 1) F) 0 1 (m 76 1 + 1) (b + 1) = F := (jms_o (by omega)).trans ims_e
            have e4 : jms (ims K 79 G) 76 1 (m 76 1 + 1) 79 (864 * m 76 1 + (pf q + k)) = m 79 (864 * p + (pf q + shF w h (shO dx) (shO dy) q k)) := by
              rw [jms_o (by decide), ims_e, ← hG, ← f2]
              congr 1
              omega
            dsimp only
            rw [e3, e4, ← hF, f1, jo _ n3]
            exact sx
      · refine SimI_th (E := 1) (b := 0) R ?_ ?_ (by decide)
        · unfold jd_143
          rw [y_ck L 0 11 rfl rfl, Option.bind_some, ea, b_jtb, n_jw hx.1 hx.2, n_jw hy.1 hy.2, if_neg (by omega), if_neg (by omega), if_neg (by omega), if_pos (by omega), y_ck L 0 11 rfl rfl, Option.bind_some, c_194n R (by omega) cn, b_jtx]
        · unfold jd_217 jd_217_b59
          rw [hk, if_neg (by decide), n_jw hx.1 hx.2, n_jw hy.1 hy.2, ix, if_pos c2.1, if_neg (by decide), iy, if_pos c2.2, if_neg (by decide), n_jw (z := m 76 1) (by omega) (by omega), if_pos (by omega), Option.bind_some, jms_e, if_neg (by decide)]
          rfl
    · refine SimI_th (E := 0) (b := 0) R ?_ ?_ (by decide)
      · unfold jd_143 jd_143_b35
        rw [y_ck L 0 11 rfl rfl, Option.bind_some, ea, b_jtb, n_jw hx.1 hx.2, n_jw hy.1 hy.2, x_6 (show s.1 < 1000000 by omega), Option.bind_some]
        by_cases d1 : dx < -1000
        · rw [if_pos d1]
        · rw [if_neg d1]
          by_cases d2 : 1000 < dx
          · rw [if_pos d2]
          · rw [if_neg d2]
            by_cases d3 : dy < -1000
            · rw [if_pos d3]
            · rw [if_neg d3, if_neg (by omega)]
      · unfold jd_217 jd_217_b59
        rw [hk, if_neg (by decide), n_jw hx.1 hx.2, n_jw hy.1 hy.2, ix, iy]
        have ez : (if (if -1000 ≤ dx ∧ dx ≤ 1000 then (1 : Int) else 0) = 0 then (2 : Int) else if (if -1000 ≤ dy ∧ dy ≤ 1000 then (1 : Int) else 0) = 0 then 2 else if jw (m 76 1) = 60 then 3 else 0) = 2 := by
          by_cases d1 : -1000 ≤ dx ∧ dx ≤ 1000
          · rw [if_pos d1, if_neg (by decide), if_neg (show ¬ (-1000 ≤ dy ∧ dy ≤ 1000) from fun e => c2 ⟨d1, e⟩), if_pos rfl]
          · rw [if_neg d1, if_pos rfl]
        rw [ez, Option.bind_some, jms_e, if_neg (by decide)]
        rfl
  · rw [if_neg c1] at hk
    refine SimI_th (E := 2) (b := 0) R ?_ ?_ (by decide)
    · unfold jd_143
      rw [y_ck L 0 11 rfl rfl, Option.bind_some, c_193n R (by omega) hp c1, b_jtx]
    · unfold jd_217 jd_217_b59
      rw [hk, if_pos rfl, Option.bind_some, jms_e, if_neg (by decide)]
      rfl
end Shift2
