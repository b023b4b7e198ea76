/-! making: a part foretold for a way, both sides -/
def plz (z : Int) : Int := if z < 64 then 0 else if z < 80 then 1 else 2
/-- what is foretold for the sample z of a part -/
def FP (how w h X Y : Int) (V : Int → Int) (g S1 S2 : Int → Int → Int) (z : Int) : Int := pvV how (g (plz z)) (S1 (plz z)) (S2 (plz z)) (pw w (plz z)) (pw h (plz z)) (X * sdOf (plz z)) (Y * sdOf (plz z)) (sdOf (plz z)) (hvf (plz z) (V 0)) (hvf (plz z) (V 1)) (hvf (plz z) (V 2)) (hvf (plz z) (V 3)) ((z - ppb (plz z)) / sdOf (plz z)) ((z - ppb (plz z)) % sdOf (plz z))
theorem plz_v {pl r c : Int} (p0 : 0 ≤ pl) (p2 : pl ≤ 2) (r0 : 0 ≤ r) (r1 : r < sdOf pl) (c0 : 0 ≤ c) (c1 : c < sdOf pl) : plz (ppb pl + (r * sdOf pl + c)) = pl ∧ (ppb pl + (r * sdOf pl + c) - ppb pl) / sdOf pl = r ∧ (ppb pl + (r * sdOf pl + c) - ppb pl) % sdOf pl = c ∧ 0 ≤ ppb pl + (r * sdOf pl + c) ∧ ppb pl + (r * sdOf pl + c) < 96 := by
  have h : pl = 0 ∨ pl = 1 ∨ pl = 2 := by omega
  rcases h with rfl | rfl | rfl
  · have e : sdOf 0 = 8 := rfl
    have e2 : ppb 0 = 0 := rfl
    rw [e] at r1 c1 ⊢
    rw [e2]
    refine ⟨if_pos (by omega), by omega, by omega, by omega, by omega⟩
  · have e : sdOf 1 = 4 := rfl
    have e2 : ppb 1 = 64 := rfl
    rw [e] at r1 c1 ⊢
    rw [e2]
    refine ⟨(if_neg (by omega)).trans (if_pos (by omega)), by omega, by omega, by omega, by omega⟩
  · have e : sdOf 2 = 4 := rfl
    have e2 : ppb 2 = 80 := rfl
    rw [e] at r1 c1 ⊢
    rw [e2]
    refine ⟨(if_neg (by omega)).trans (if_neg (by omega)), by omega, by omega, by omega, by omega⟩
theorem FP_v {how w h X Y : Int} {V : Int → Int} {g S1 S2 : Int → Int → Int} {pl r c : Int} (p0 : 0 ≤ pl) (p2 : pl ≤ 2) (r0 : 0 ≤ r) (r1 : r < sdOf pl) (c0 : 0 ≤ c) (c1 : c < sdOf pl) : FP how w h X Y V g S1 S2 (ppb pl + (r * sdOf pl + c)) = pvV how (g pl) (S1 pl) (S2 pl) (pw w pl) (pw h pl) (X * sdOf pl) (Y * sdOf pl) (sdOf pl) (hvf pl (V 0)) (hvf pl (V 1)) (hvf pl (V 2)) (hvf pl (V 3)) r c := by
  obtain ⟨e1, e2, e3, -⟩ := plz_v p0 p2 r0 r1 c0 c1
  unfold FP
  rw [e1, e2, e3]
/-- the samples of picture k in the model, plane by plane -/
def mG (m : jM) (k pl j : Int) : Int := m 109 (864 * k + (pf pl + j))
/-- a way's vectors -/
def Vw (md kd : Int) (fd G : Int → Int) (i : Int) : Int := if ¬ tl md i = 0 then fd i else if md = 0 ∧ kd = 1 ∧ i < 2 then G i else 0
theorem tl_k {kd way : Int} (k0 : 0 ≤ kd) (k2 : kd ≤ 2) (w0 : 0 ≤ way) (w1 : way < jd_262 kd) : (∀ i : Int, 0 ≤ i → i < 2 → tl (mdW kd way) i ≠ 0 → kd ≠ 0) ∧ (∀ i : Int, 2 ≤ i → i < 4 → tl (mdW kd way) i ≠ 0 → kd = 2) ∧ (∀ i : Int, 0 ≤ i → i < 2 → (tl (mdW kd way) i = 1 ↔ tl (mdW kd way) 0 = 1) ∧ (tl (mdW kd way) i = 0 ∨ tl (mdW kd way) i = 1)) ∧ (∀ i : Int, 2 ≤ i → i < 4 → (tl (mdW kd way) i = 1 ↔ tl (mdW kd way) 2 = 1) ∧ (tl (mdW kd way) i = 0 ∨ tl (mdW kd way) i = 1)) ∧ way < 7 := by
  have key : ∀ (a : Fin 3) (b : Fin 7), (b.val : Int) < jd_262 (a.val : Int) → (tl (mdW (a.val : Int) (b.val : Int)) 0 ≠ 0 → (a.val : Int) ≠ 0) ∧ (tl (mdW (a.val : Int) (b.val : Int)) 1 ≠ 0 → (a.val : Int) ≠ 0) ∧ (tl (mdW (a.val : Int) (b.val : Int)) 2 ≠ 0 → (a.val : Int) = 2) ∧ (tl (mdW (a.val : Int) (b.val : Int)) 3 ≠ 0 → (a.val : Int) = 2) ∧ (tl (mdW (a.val : Int) (b.val : Int)) 1 = tl (mdW (a.val : Int) (b.val : Int)) 0) ∧ (tl (mdW (a.val : Int) (b.val : Int)) 3 = tl (mdW (a.val : Int) (b.val : Int)) 2) ∧ (tl (mdW (a.val : Int) (b.val : Int)) 0 = 0 ∨ tl (mdW (a.val : Int) (b.val : Int)) 0 = 1) ∧ (tl (mdW (a.val : Int) (b.val : Int)) 2 = 0 ∨ tl (mdW (a.val : Int) (b.val : Int)) 2 = 1) := by decide
  have l7 : jd_262 kd ≤ 7 := by
    have : ∀ a : Fin 3, jd_262 (a.val : Int) ≤ 7 := by decide
    have := this ⟨kd.toNat, by omega⟩
    dsimp only at this
    rw [show ((kd.toNat : Nat) : Int) = kd by omega] at this
    exact this
  have w7 : way < 7 := Int.lt_of_lt_of_le w1 l7
  clear l7
  have hk := key ⟨kd.toNat, by omega⟩ ⟨way.toNat, by omega⟩
  dsimp only at hk
  rw [show ((kd.toNat : Nat) : Int) = kd by omega, show ((way.toNat : Nat) : Int) = way by omega] at hk
  obtain ⟨x1, x2, x3, x4, x5, x6, x7, x8⟩ := hk w1
  refine ⟨fun i i0 i1 => ?_, fun i i0 i1 => ?_, fun i i0 i1 => ?_, fun i i0 i1 => ?_, w7⟩
  · have : i = 0 ∨ i = 1 := by omega
    rcases this with rfl | rfl
    · exact x1
    · exact x2
  · have : i = 2 ∨ i = 3 := by omega
    rcases this with rfl | rfl
    · exact x3
    · exact x4
  · have : i = 0 ∨ i = 1 := by omega
    rcases this with rfl | rfl
    · exact ⟨Iff.rfl, x7⟩
    · rw [x5]
      exact ⟨Iff.rfl, x7⟩
  · have : i = 2 ∨ i = 3 := by omega
    rcases this with rfl | rfl
    · exact ⟨Iff.rfl, x8⟩
    · rw [x6]
      exact ⟨Iff.rfl, x8⟩
theorem qxy {q d X Y : Int} (hX : q % d = X) (hY : q / d = Y) : q = Y * d + X := by
  rw [← hX, ← hY, Int.mul_comm]
  exact (Int.mul_ediv_add_emod q d).symm
section Fore
variable {s : hS} {Q : hQ} {hm : hO} {I J m M : jM} {p b1 b2 : Nat} {w h X Y k kd st q a1 a2 way md : Int} {W G fd : Int → Int}
/-- what stands when a part is made -/
def PSm (s : hS) (Q : hQ) (I m : jM) (p b1 b2 : Nat) (w h X Y k kd st q a1 a2 : Int) (W G fd : Int → Int) : Prop := (PcC s Q p ∧ Q 45 2 = some p) ∧ (I p 0 = w ∧ I p 1 = h ∧ isSd w ∧ isSd h) ∧ (I 45 0 = kd ∧ I 45 1 = st ∧ I 45 5 = X ∧ I 45 6 = Y) ∧ (0 ≤ kd ∧ kd ≤ 2 ∧ 1 ≤ st ∧ st ≤ 31) ∧ (q % (w / 8) = X ∧ q / (w / 8) = Y ∧ 0 ≤ q ∧ q < w / 8 * (h / 8)) ∧ (m 76 33 = w ∧ m 76 34 = h ∧ m 102 k = kd ∧ 0 ≤ k ∧ k < 12) ∧ PrtE p w h k q I m ∧ (kd ≠ 0 → Q 45 3 = some b1 ∧ RfE s Q I m b1 w h a1 ∧ ∀ m' : jM, m' 76 36 = m 76 36 → m' 102 = m 102 → jd_239 k (if kd = 2 then 2 else 1) m' = some a1) ∧ (kd = 2 → Q 45 4 = some b2 ∧ RfE s Q I m b2 w h a2 ∧ ∀ m' : jM, m' 76 36 = m 76 36 → m' 102 = m 102 → jd_239 k 1 m' = some a2) ∧ (∀ z : Int, 0 ≤ z → z < 96 → I 56 z = W z ∧ 0 ≤ W z ∧ W z ≤ 255) ∧ SrcP m k q W ∧ (∀ i : Int, 0 ≤ i → i < 4 → I 51 i = G i ∧ -8 ≤ G i ∧ G i ≤ 8) ∧ GsP m k q G ∧ (∀ i : Int, -8 ≤ fd i ∧ fd i ≤ 8) ∧ (kd ≠ 0 → I 60 0 = fd 0 ∧ I 60 1 = fd 1 ∧ m 125 0 = fd 0 ∧ m 125 1 = fd 1) ∧ (kd = 2 → I 60 2 = fd 2 ∧ I 60 3 = fd 3 ∧ m 125 2 = fd 2 ∧ m 125 3 = fd 3)
theorem Vw_b (S : PSm s Q I m p b1 b2 w h X Y k kd st q a1 a2 W G fd) {i : Int} (i0 : 0 ≤ i) (i1 : i < 4) : -8 ≤ Vw md kd fd G i ∧ Vw md kd fd G i ≤ 8 := by
  obtain ⟨-, -, -, -, -, -, -, -, -, -, -, g, -, f, -⟩ := S
  have a := (g i i0 i1).2
  have b := f i
  unfold Vw
  split
  · exact b
  · split
    · exact a
    · omega
/-- what is foretold lies between 0 and 255 -/
theorem FP_b (S : PSm s Q I m p b1 b2 w h X Y k kd st q a1 a2 W G fd) {how : Int} {V : Int → Int} (h5 : how ≤ 5) (c1 : 3 ≤ how → kd ≠ 0) (c2 : how = 4 ∨ how = 5 → kd = 2) {z : Int} (z0 : 0 ≤ z) (z1 : z < 96) : 0 ≤ FP how w h X Y V (mG m k) (mG m a1) (mG m a2) z ∧ FP how w h X Y V (mG m k) (mG m a1) (mG m a2) z ≤ 255 := by
  obtain ⟨-, ⟨-, -, sw, sh⟩, -, -, ⟨hX, hY, q0, q1⟩, -, PE, R1, R2, -⟩ := S
  obtain ⟨pl, r, c, p0, p2, r0, r1, c0, c1', rfl⟩ := pl_cell z0 z1
  have mr := mm_r sw sh q0 q1
  rw [hX, hY] at mr
  have nb := prt_nb (X := X) (Y := Y) sw sh mr.1 mr.2.1 mr.2.2.1 mr.2.2.2.1 (qxy hX hY) PE p0 p2
  have bw := pw_sd sw pl
  have bh := pw_sd sh pl
  rw [FP_v p0 p2 r0 r1 c0 c1']
  refine pvV_b (by omega) (by omega) (by omega) r0 r1 c0 c1' (fun _ => nb.2) (fun e j j0 j1 => ?_) (fun e j j0 j1 => ?_) h5
  · exact ((R1 (c1 (by omega))).2.1.2.2.2.2.2 pl j p0 p2 j0 j1).2
  · exact ((R2 (c2 e)).2.1.2.2.2.2.2 pl j p0 p2 j0 j1).2
/-- takeVectors and foretell -/
theorem c_fore (L : Lay s Q hm) (h6 : s.1 ≤ 1000000) (S : PSm s Q I m p b1 b2 w h X Y k kd st q a1 a2 W G fd) (w0 : 0 ≤ way) (w1 : way < jd_262 kd) (hmd : mdW kd way = md) : ∃ I1 J, jd_78 45 md (some 60) (hh s Q I) = some (hh s Q I1) ∧ jd_79 45 md (hh s Q I1) = some (hh s Q J) ∧ (∀ i : Int, 0 ≤ i → i < 4 → J 50 i = Vw md kd fd G i) ∧ (∀ z : Int, 0 ≤ z → z < 96 → J 46 z = FP (hwm md kd) w h X Y (Vw md kd fd G) (mG m k) (mG m a1) (mG m a2) z) ∧ ∀ x : Nat, x ≠ 46 → x ≠ 47 → x ≠ 50 → x ≠ 53 → x ≠ 54 → J x = I x := by
  have S' := S
  obtain ⟨⟨P, q2⟩, ⟨hw, hh', sw, sh⟩, ⟨eK, eS, eX, eY⟩, ⟨k0, k2, s0, s1⟩, ⟨hX, hY, q0, q1⟩, ⟨mw, mh, mk, kk0, kk1⟩, PE, R1, R2, wt, sp, gs, gp, fb, f1, f2⟩ := S
  have T := PtC_45 L
  have p153 := P.1
  obtain ⟨t1, t2, t3, t4, t5⟩ := tl_k k0 k2 w0 w1
  obtain ⟨u1, u2, u3, u4, u5, u6⟩ := mdW_t k0 k2 w0 w1
  rw [hmd] at t1 t2 t3 t4 u1 u2 u3 u4 u5 u6
  obtain ⟨Vc, e1, hV⟩ := c_78 (I := I) (c := 60) (md := md) L T h6 eK k0 k2 u1 u2 rfl rfl (by decide)
  have mr := mm_r sw sh q0 q1
  rw [hX, hY] at mr
  have hq : q = Y * (w / 8) + X := qxy hX hY
  have V' : ∀ i : Int, 0 ≤ i → i < 4 → Vc i = Vw md kd fd G i := fun i i0 i1 => by
    rw [hV i i0 i1, k_77 u1 u2 i0 i1, show I (45 + 6) i = G i from (gs i i0 i1).1]
    unfold Vw
    by_cases c : ¬ tl md i = 0
    · rw [if_pos c, if_pos c]
      have : i = 0 ∨ i = 1 ∨ i = 2 ∨ i = 3 := by omega
      rcases this with rfl | rfl | rfl | rfl
      · exact (f1 (t1 0 (by decide) (by decide) c)).1
      · exact (f1 (t1 1 (by decide) (by decide) c)).2.1
      · exact (f2 (t2 2 (by decide) (by decide) c)).1
      · exact (f2 (t2 3 (by decide) (by decide) c)).2.1
    · rw [if_neg c, if_neg c]
  obtain ⟨I1, hI1⟩ : ∃ I1, I1 = ims I 50 Vc := ⟨_, rfl⟩
  have e1' : jd_78 45 md (some 60) (hh s Q I) = some (hh s Q I1) := by rw [hI1]; exact e1
  have o1 : ∀ x : Nat, x ≠ 50 → I1 x = I x := fun x hx => by rw [hI1, ims_o hx]
  have v50 : ∀ i : Int, 0 ≤ i → i < 4 → I1 50 i = Vw md kd fd G i := fun i i0 i1 => by rw [hI1, ims_e]; exact V' i i0 i1
  have vb := fun i (i0 : 0 ≤ i) (i1 : i < 4) => Vw_b (md := md) S' i0 i1
  have vb' : ∀ i : Int, 0 ≤ i → i < 4 → -16 ≤ Vw md kd fd G i ∧ Vw md kd fd G i ≤ 16 := fun i i0 i1 => by
    have := vb i i0 i1
    omega
  have RS : ∀ {b : Nat} {a : Int}, RfE s Q I m b w h a → PcS s Q I1 b w h := fun {b} {a} R => by
    have b153 := R.1.1
    obtain ⟨r1, r2, r3, r4, r5, r6⟩ := R
    refine ⟨r1, by rw [o1 b (by omega)]; exact r2, by rw [o1 b (by omega)]; exact r3, fun pl j h0 h1 h2 h3 => ?_⟩
    rw [o1 (b + 1) (by omega), (r6 pl j h0 h1 h2 h3).1]
    exact (r6 pl j h0 h1 h2 h3).2
  have p1' : I1 (p + 1) = I (p + 1) := o1 _ (by omega)
  obtain ⟨J, e2, FT, hJ⟩ := c_79 (I := I1) (T := 45) (p := p) (b1 := b1) (b2 := b2) (X := X) (Y := Y) (md := md) (kd := kd) (v0 := Vw md kd fd G 0) (v1 := Vw md kd fd G 1) (v2 := Vw md kd fd G 2) (v3 := Vw md kd fd G 3) T h6 P q2 (by rw [o1 p (by omega)]; exact hw) (by rw [o1 p (by omega)]; exact hh') sw sh (by rw [o1 45 (by decide)]; exact eK) k0 k2 (by rw [o1 45 (by decide)]; exact eX) (by rw [o1 45 (by decide)]; exact eY) mr.1 mr.2.1 mr.2.2.1 mr.2.2.2.1 u1 u2 (fun _ pl p0 p2 => by
    have nb := prt_nb (X := X) (Y := Y) sw sh mr.1 mr.2.1 mr.2.2.1 mr.2.2.2.1 hq PE p0 p2
    rw [p1']
    exact nbB_E nb.1 nb.2) (v50 0 (by decide) (by decide)) (v50 1 (by decide) (by decide)) (v50 2 (by decide) (by decide)) (v50 3 (by decide) (by decide)) (vb' 0 (by decide) (by decide)) (vb' 1 (by decide) (by decide)) (vb' 2 (by decide) (by decide)) (vb' 3 (by decide) (by decide)) (fun e => ⟨(R1 (u5 (by omega))).1, RS (R1 (u5 (by omega))).2.1⟩) (fun e => ⟨(R2 (u6 e)).1, RS (R2 (u6 e)).2.1⟩)
  refine ⟨I1, J, e1', e2, fun i i0 i1 => ?_, fun z z0 z1 => ?_, fun x x1 x2 x3 x4 x5 => ?_⟩
  · rw [FT 50 (by decide) (by decide) (by decide) (by decide)]
    exact v50 i i0 i1
  · obtain ⟨pl, r, c, p0, p2, r0, r1, c0, c1, rfl⟩ := pl_cell z0 z1
    have nb := prt_nb (X := X) (Y := Y) sw sh mr.1 mr.2.1 mr.2.2.1 mr.2.2.2.1 hq PE p0 p2
    have bw := pw_sd sw pl
    have bh := pw_sd sh pl
    rw [FP_v p0 p2 r0 r1 c0 c1]
    have hj := hJ pl r c p0 p2 r0 r1 c0 c1
    rw [p1'] at hj
    refine hj.trans ?_
    have h5 : hwm md kd ≤ 5 := by
      unfold hwm
      repeat' split
      all_goals omega
    refine pvV_c (by omega) (by omega) (by omega) r0 r1 c0 c1 (fun _ => nb.1) (fun e j j0 j1 => ?_) (fun e j j0 j1 => ?_) h5
    · have R := (R1 (u5 (by omega))).2.1
      have b153 := R.1.1
      show I1 (b1 + 1) (pb w h pl + j) = _
      rw [o1 (b1 + 1) (by omega)]
      exact (R.2.2.2.2.2 pl j p0 p2 j0 j1).1
    · have R := (R2 (u6 e)).2.1
      have b153 := R.1.1
      show I1 (b2 + 1) (pb w h pl + j) = _
      rw [o1 (b2 + 1) (by omega)]
      exact (R.2.2.2.2.2 pl j p0 p2 j0 j1).1
  · rw [FT x x1 x2 x4 x5]
    exact o1 x x3
end Fore
