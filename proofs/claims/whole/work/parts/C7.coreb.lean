/-! a picture of blocks read to its end -/
section CoreB
variable {s : hS} {Q : hQ} {hm : hO} {I m m1 : jM} {A p b1 b2 c : Nat} {base i en w h k q kd st a1 a2 am sp : Int}
def bkD (w h k sp hi : Int) : Int → Prop := fun j => ∃ q pl i, sp ≤ q ∧ q < hi ∧ 0 ≤ pl ∧ pl ≤ 2 ∧ 0 ≤ i ∧ i < sdOf pl * sdOf pl ∧ j = ixP w k pl (q % (w / 8)) (q / (w / 8)) i
theorem k_270m (sw : isSd w) (sh : isSd h) (mw : m1 76 33 = w) (mh : m1 76 34 = h) (k0 : 0 ≤ k) (k1 : k < 12) (s0 : 0 ≤ sp) (s1 : sp ≤ w / 8 * (h / 8)) (mk : m1 102 k = kd) (kd0 : 0 ≤ kd) (kd2 : kd ≤ 2) (ha : ∀ m' : jM, m' 76 36 = m1 76 36 → m' 102 = m1 102 → jd_239 k (if kd = 2 then 2 else 1) m' = some am) (am0 : -1 ≤ am) (am1 : am < 12) (amk : am ≠ k) : ∃ m3, jd_270_l52 k sp m1 = some m3 ∧ WrB (bkD w h k sp (w / 8 * (h / 8))) (bkU m1 k am) m1 m3 ∧ (∀ q z : Int, sp ≤ q → q < w / 8 * (h / 8) → 0 ≤ z → z < 7 → m3 111 (63 * k + 7 * q + z) = -1) ∧ ∀ j : Int, j < 63 * k + 7 * sp ∨ 63 * k + 63 ≤ j → m3 111 j = m1 111 j := by
  have n9 := N_9 sw sh
  have l : wT (jd_270_l52 k sp m1) (fun o => WrB (bkD w h k sp (w / 8 * (h / 8))) (bkU m1 k am) m1 o ∧ (∀ q z : Int, sp ≤ q → q < w / 8 * (h / 8) → 0 ≤ z → z < 7 → o 111 (63 * k + 7 * q + z) = -1) ∧ ∀ j : Int, j < 63 * k + 7 * sp ∨ 63 * k + 63 ≤ j → o 111 j = m1 111 j) := by
    unfold jd_270_l52
    refine w_lp (fun n u => u.1 = sp + (n : Int) ∧ WrB (bkD w h k sp (sp + (n : Int))) (bkU m1 k am) m1 u.2 ∧ (∀ q z : Int, sp ≤ q → q < sp + (n : Int) → 0 ≤ z → z < 7 → u.2 111 (63 * k + 7 * q + z) = -1) ∧ ∀ j : Int, j < 63 * k + 7 * sp ∨ 63 * k + 63 ≤ j → u.2 111 j = m1 111 j) (w / 8 * (h / 8) - sp).toNat (fun n u hn hu => ?_) (n_fu (by omega)) ⟨by show sp = sp + ((0 : Nat) : Int); omega, ⟨fun j hj => by obtain ⟨q, pl, i, c1, c2, -⟩ := hj; omega, fun _ _ => ⟨rfl, rfl⟩, fun _ _ _ _ => rfl⟩, fun q z c1 c2 => absurd c2 (by omega), fun _ _ => rfl⟩
    obtain ⟨z, m'⟩ := u
    obtain ⟨e1, W', f1, f2⟩ := hu
    dsimp only at e1 W' f1 f2 ⊢
    subst e1
    have n238 : jd_238 m' = w / 8 * (h / 8) := k_238 sw sh (by rw [W'.2.2 76 (by decide) (by decide) (by decide)]; exact mw) (by rw [W'.2.2 76 (by decide) (by decide) (by decide)]; exact mh)
    unfold jd_270_s52
    rw [n238, n_jw (z := w / 8 * (h / 8)) (by omega) (by omega), n_jw (z := sp + (n : Int)) (by omega) (by omega)]
    by_cases cn : w / 8 * (h / 8) ≤ sp + (n : Int)
    · rw [if_pos cn]
      have en : sp + (n : Int) = w / 8 * (h / 8) := by omega
      rw [en] at W' f1
      exact wT_ret ⟨W', f1, f2⟩
    · have mr := mm_r (mm := sp + (n : Int)) sw sh (by omega) (by omega)
      obtain ⟨m3, e3, W3, g1, g2⟩ := k_268 (q := sp + (n : Int)) sw sh mw k0 k1 (by omega) (by omega) rfl rfl mk kd0 kd2 ha am0 am1 amk (fun j hj => by
        obtain ⟨q, pl, i, c1, c2, c3, c4, c5, c6, c7⟩ := hj
        have mr' := mm_r (mm := q) sw sh (by omega) (by omega)
        have r := ixP_r (k := k) (i := i) sw sh c3 c4 mr'.1 mr'.2.1 mr'.2.2.1 mr'.2.2.2.1 c5 c6
        omega) W'
      rw [if_neg cn, e3, Option.bind_some]
      refine wT_ret ⟨by omega, by show sp + (n : Int) + 1 = sp + ((n + 1 : Nat) : Int); omega, WrB_c (fun j => ⟨fun e => ?_, fun e => ?_⟩) W3, fun q z c1 c2 c3 c4 => ?_, fun j hj => ?_⟩
      · rcases e with ⟨q, pl, i, c1, c2, c3⟩ | ⟨pl, i, c1, c2, c3, c4, c5⟩ | ⟨i, c1, c2, -⟩
        · exact ⟨q, pl, i, c1, by omega, c3⟩
        · exact ⟨sp + (n : Int), pl, i, by omega, by omega, c1, by omega, c3, c4, c5⟩
        · omega
      · obtain ⟨q, pl, i, c1, c2, c3, c4, c5, c6, c7⟩ := e
        by_cases cq : q = sp + (n : Int)
        · rw [cq] at c7
          exact Or.inr (Or.inl ⟨pl, i, c3, by omega, c5, c6, c7⟩)
        · exact Or.inl ⟨q, pl, i, c1, by omega, c3, c4, c5, c6, c7⟩
      · dsimp only
        by_cases cq : q = sp + (n : Int)
        · rw [cq]; exact g1 z c3 c4
        · rw [g2 _ (by omega)]
          exact f1 q z c1 (by omega) c3 c4
      · dsimp only
        rw [g2 j (by omega)]
        exact f2 j hj
  obtain ⟨m3, e, r1, r2, r3⟩ := l
  exact ⟨m3, e, r1, r2, r3⟩
theorem bkD_md (sw : isSd w) (sh : isSd h) (s0 : 0 ≤ sp) {pl x y : Int} (p0 : 0 ≤ pl) (p2 : pl ≤ 2) (x0 : 0 ≤ x) (x1 : x < pw w pl) (y0 : 0 ≤ y) (y1 : y < pw h pl) : bkD w h k sp (w / 8 * (h / 8)) (864 * k + (pf pl + (y * pw w pl + x))) ↔ mdAt 0 sp w h pl x y := by
  have pp := ppb_b p0 p2
  have hx : 0 ≤ x / sdOf pl ∧ x / sdOf pl < w / 8 := by
    have hp : pl = 0 ∨ pl = 1 ∨ pl = 2 := by omega
    unfold pw at x1
    unfold sdOf
    rcases sw with rfl | rfl | rfl <;> rcases hp with rfl | rfl | rfl <;> simp at x1 ⊢ <;> omega
  have hy : 0 ≤ y / sdOf pl ∧ y / sdOf pl < h / 8 := by
    have hp : pl = 0 ∨ pl = 1 ∨ pl = 2 := by omega
    unfold pw at y1
    unfold sdOf
    rcases sh with rfl | rfl | rfl <;> rcases hp with rfl | rfl | rfl <;> simp at y1 ⊢ <;> omega
  have db := dm_b (W := w / 8) (H := h / 8) hy.1 hy.2 hx.1 hx.2
  unfold mdAt
  rw [if_pos rfl]
  constructor
  · intro e
    obtain ⟨q, pl', i, c1, c2, c3, c4, c5, c6, c7⟩ := e
    have mr := mm_r (mm := q) sw sh (by omega) c2
    obtain ⟨e1, e2, -⟩ := (ixP_h (k := k) sw sh c3 c4 mr.1 mr.2.1 mr.2.2.1 mr.2.2.2.1 c5 c6 p0 p2 x0 x1 y0 y1).1 c7
    subst e1
    have := (prt_q sw p0 p2 x0 x1 y0 mr.1 mr.2.1 (dm_e (w / 8) q)).2 e2
    exact ⟨s0, by omega⟩
  · intro e
    have mr := mm_r (mm := y / sdOf pl * (w / 8) + x / sdOf pl) sw sh db.1 db.2
    have hin := (prt_q (q := y / sdOf pl * (w / 8) + x / sdOf pl) sw p0 p2 x0 x1 y0 mr.1 mr.2.1 (dm_e (w / 8) _)).1 rfl
    obtain ⟨i1, i2, i3, i4⟩ := id hin
    have rc := sd_rc (sd := sdOf pl) (r := y - (y / sdOf pl * (w / 8) + x / sdOf pl) / (w / 8) * sdOf pl) (c := x - (y / sdOf pl * (w / 8) + x / sdOf pl) % (w / 8) * sdOf pl) (by omega) (by omega) (by omega) (by omega)
    exact ⟨_, pl, _, e.2, db.2, p0, p2, rc.1, rc.2, (ixP_h (k := k) sw sh p0 p2 mr.1 mr.2.1 mr.2.2.1 mr.2.2.2.1 rc.1 rc.2 p0 p2 x0 x1 y0 y1).2 ⟨rfl, hin, rfl⟩⟩
/-- the numbers of the parts of picture k -/
def Fct (c : Nat) (w h k f sp : Int) (I m I1 m' : jM) : Prop := (∀ q z : Int, 0 ≤ q → q < w / 8 * (h / 8) → 0 ≤ z → z < 7 → m' 111 (63 * k + 7 * q + z) = if f ≠ 0 ∧ sp ≤ q then -1 else I1 (c + 12) ((k * 9 + q) * 7 + z)) ∧ ∀ j : Int, j < 63 * k ∨ 63 * k + 63 ≤ j → m' 111 j = m 111 j ∧ I1 (c + 12) j = I (c + 12) j
theorem core_b (L : Lay s Q hm) (h6 : s.1 ≤ 1000000) (F : FlC s Q c) (hc : c = 28 ∨ 153 ≤ c) (P : PcC s Q p) (q2T : Q 11 2 = some p) (hw : I p 0 = w) (hv : I p 1 = h) (sw : isSd w) (sh : isSd h) (mw : m 76 33 = w) (mh : m 76 34 = h) (k0 : 0 ≤ k) (k1 : k < 12) (eK : I 11 0 = kd) (mk : m 102 k = kd) (kd0 : 0 ≤ kd) (kd2 : kd ≤ 2) (est : I 11 1 = st) (mst : m 104 k = st) (st0 : 0 ≤ st) (st1 : st ≤ 255) (RK : RfK s Q I m b1 b2 p w h k kd a1 a2) (ha : ∀ m' : jM, m' 76 36 = m 76 36 → m' 102 = m 102 → jd_239 k (if kd = 2 then 2 else 1) m' = some am) (am0 : -1 ≤ am) (am1 : am < 12) (amk : am ≠ k) (R : BM s Q I m 10 A base i en) {x1 x2 : Option Nat} : ∃ f sp I1 m', ((jd_117 9 (some c) k (hh s Q I)).bind fun q => jd_115_b126 9 x1 x2 k q.1 q.2) = jd_115_b145 9 x1 x2 k f (hh s Q I1) ∧ jd_270 k m = some m' ∧ Core 0 w h k p c (fun j => if am = -1 then 128 else m 109 (864 * am + j)) I m I1 m' f sp ∧ Fct c w h k f sp I m I1 m' := by
  have P1 := P.1
  have P2 := P.2.1
  have P3 := P.2.2.1
  have t14 : s.2.2.1 p = 6 + 8 := P3
  have n9 := N_9 sw sh
  have qq1 : Q 9 ((1 : Nat) : Int) = some 11 := Lq L rfl
  have q2T' : Q 11 ((2 : Nat) : Int) = some p := q2T
  have hw' : I p ((0 : Nat) : Int) = w := hw
  have hv' : I p ((1 : Nat) : Int) = h := hv
  have w8 : 0 ≤ w ∧ w ≤ 24 := by rcases sw with rfl | rfl | rfl <;> decide
  have h8 : 0 ≤ h ∧ h ≤ 24 := by rcases sh with rfl | rfl | rfl <;> decide
  obtain ⟨x, y, ex, ey, f, sp, I', m', rfl, hx, b2', f7, s0, S, ok⟩ := parts_l (b1 := b1) (b2 := b2) (a1 := a1) (a2 := a2) L h6 F hc P q2T hw hv sw sh mw mh k0 k1 eK mk kd0 kd2 est mst st0 st1 RK R
  have C0 : jd_117 9 (some c) k (hh s Q I) = jse x (fun y101 => some (y101.1, y101.2)) (fun y102 => ((jpi y102 9 8 6 (w / 8 * (h / 8))).bind fun h103 => some (0, h103))) := by
    unfold jd_117
    rw [y_gr L 9 8 rfl rfl, Option.bind_some, qq1, Option.bind_some, y_gr L 11 5 rfl rfl, Option.bind_some, q2T', Option.bind_some, x_gi P2 t14, Option.bind_some, hw', Option.bind_some, x_gi P2 t14, Option.bind_some, hv', n_div (z := w) (by omega) (by omega) (by decide) (by decide), n_div (z := h) (by omega) (by omega) (by decide) (by decide), ex, Option.bind_some]
  obtain ⟨S1, S2, S3, S4, S5, S6, S7, S8⟩ := id S
  have fr : ∀ a : Nat, a < 9 ∨ (24 < a ∧ a ≠ 41) → a ≠ p + 1 → a ≠ c + 12 → I' a = I a := fun a ha h1 h2 => S1 a (by omega) h1 h2
  have md0 : ∀ {pl x y : Int}, ¬ mdAt 0 sp w h pl x y → y / sdOf pl * (w / 8) + x / sdOf pl < sp := fun {pl x y} hn => by
    unfold mdAt at hn
    rw [if_pos rfl] at hn
    omega
  rcases hx with ⟨rfl, f1, sN, i96⟩ | ⟨rfl, rfl, rfl⟩
  · obtain ⟨m3, e3, W, g1, g2⟩ := k_270m (m1 := jms m' 108 k sp) (w := w) (h := h) (k := k) (sp := sp) (kd := kd) (am := am) sw sh (by rw [jms_o (by decide)]; exact (S4 33 (by decide)).trans mw) (by rw [jms_o (by decide)]; exact (S4 34 (by decide)).trans mh) k0 k1 s0 (by omega) (by rw [jms_o (by decide), S3 102 (by decide) (by decide) (by decide) (by decide)]; exact mk) kd0 kd2 (fun N h1 h2 => ha N (h1.trans ((by rw [jms_o (by decide)] : jms m' 108 k sp 76 36 = m' 76 36).trans (S4 36 (by decide)))) (h2.trans ((jms_o (by decide)).trans (S3 102 (by decide) (by decide) (by decide) (by decide))))) am0 am1 amk
    have m76 : m3 76 = m' 76 := by rw [W.2.2 76 (by decide) (by decide) (by decide), jms_o (by decide)]
    refine ⟨f, sp, I', m3, ?_, ?_, ⟨⟨by omega, f7, by rw [m76]; exact b2'⟩, fun _ => ⟨i96, s0, by omega, ?_⟩, fun hf => absurd hf (by omega), fun pl x y p0 p2 x0 x1 y0 y1 => ?_, fun j hj => ?_, fr, fun a h1 h2 h3 h4 h5 h6 => ?_, fun j hj => ?_, S2.1⟩, fun q z c1 c2 c3 c4 => ?_, fun j hj => ?_⟩
    · rw [C0, jse_l, Option.bind_some]
      exact b126_ne f1 f7
    · unfold jd_270
      rw [ey, Option.bind_some, if_neg (br_1 (m := m') b2' f1 f7), y_mw 108 12 rfl rfl k0 k1, Option.bind_some, e3, Option.bind_some]
    · rw [W.2.2 108 (by decide) (by decide) (by decide)]
      funext z
      unfold jms
      rw [if_pos rfl, S3 108 (by decide) (by decide) (by decide) (by decide)]
    · have mp := bkD_md (k := k) sw sh s0 p0 p2 x0 x1 y0 y1
      refine ⟨fun hcc => ?_, fun _ hd => ?_⟩
      · have nd : ¬ mdAt 0 sp w h pl x y := hcc.resolve_left (by omega)
        have := W.2.1 _ (fun e => nd (mp.1 e))
        rw [this.1, this.2, jms_o (by decide), jms_o (by decide), S3 110 (by decide) (by decide) (by decide) (by decide)]
        have := S5 pl x y p0 p2 x0 x1 y0 y1 (md0 nd)
        exact ⟨this.1, this.2.1, this.2.2, rfl⟩
      · have := W.1 _ (mp.2 hd)
        refine ⟨this.1.trans ?_, this.2⟩
        have ps := pl_sz sw sh p0 p2
        have db := dm_b (W := pw w pl) (H := pw h pl) y0 y1 x0 x1
        unfold bkU
        dsimp only
        by_cases ca : am = -1
        · rw [if_pos ca, if_pos ca]
        · rw [if_neg ca, if_neg ca, jms_o (by decide), show 864 * k + (pf pl + (y * pw w pl + x)) - 864 * k = pf pl + (y * pw w pl + x) by omega]
          exact S6 _ (by omega)
    · have nd : ¬ bkD w h k sp (w / 8 * (h / 8)) j := fun e => by
        obtain ⟨q, pl, i, c1, c2, c3, c4, c5, c6, c7⟩ := e
        have mr' := mm_r (mm := q) sw sh (by omega) (by omega)
        have r := ixP_r (k := k) (i := i) sw sh c3 c4 mr'.1 mr'.2.1 mr'.2.2.1 mr'.2.2.2.1 c5 c6
        omega
      have := W.2.1 j nd
      rw [this.1, this.2, jms_o (by decide), jms_o (by decide), S3 110 (by decide) (by decide) (by decide) (by decide)]
      exact ⟨S6 j hj, rfl⟩
    · rw [W.2.2 a h3 h4 h5, jms_o h2]
      exact S3 a h1 h3 h5 (by omega)
    · rw [m76]
      exact S4 j (by omega)
    · by_cases cq : sp ≤ q
      · rw [if_pos ⟨by omega, cq⟩]
        exact g1 q z cq c2 c3 c4
      · rw [if_neg (fun e => cq e.2), g2 _ (by omega), jms_o (by decide)]
        exact S7 q z c1 (by omega) c3 c4
    · rw [g2 j (by omega), jms_o (by decide)]
      exact S8 j hj
  · obtain ⟨i', R'⟩ := ok rfl
    obtain ⟨N, hN⟩ : ∃ z, z = w / 8 * (h / 8) := ⟨_, rfl⟩
    rw [← hN] at n9
    have R9 : BM s Q (jms I' 9 6 (w / 8 * (h / 8))) m' 10 A base i' en := BM_fr R' (jms_o (BM_A L R rfl (by decide))) (by rw [jms_o (by decide)]) (by rw [jms_o (by decide)]) rfl rfl rfl rfl rfl
    obtain ⟨e, I2, m2, g1, g2, g3, g4, g5, g6⟩ := ends2 R9
    have C1 : ((jd_117 9 (some c) k (hh s Q I)).bind fun q => jd_115_b126 9 x1 x2 k q.1 q.2) = jd_115_b145 9 x1 x2 k (if jw e = 0 then 6 else 0) (hh s Q I2) := by
      rw [C0, jse_r, y_pi L 9 8 rfl rfl, Option.bind_some, Option.bind_some]
      exact b126_0 L g1
    have lt : ∀ pl x y : Int, 0 ≤ pl → pl ≤ 2 → 0 ≤ x → x < pw w pl → 0 ≤ y → y < pw h pl → y / sdOf pl * (w / 8) + x / sdOf pl < w / 8 * (h / 8) := fun pl x y p0 p2 x0 x1 y0 y1 => by
      have hp : pl = 0 ∨ pl = 1 ∨ pl = 2 := by omega
      have hx : 0 ≤ x / sdOf pl ∧ x / sdOf pl < w / 8 := by
        unfold pw at x1
        unfold sdOf
        rcases sw with rfl | rfl | rfl <;> rcases hp with rfl | rfl | rfl <;> simp at x1 ⊢ <;> omega
      have hy : 0 ≤ y / sdOf pl ∧ y / sdOf pl < h / 8 := by
        unfold pw at y1
        unfold sdOf
        rcases sh with rfl | rfl | rfl <;> rcases hp with rfl | rfl | rfl <;> simp at y1 ⊢ <;> omega
      exact (dm_b (W := w / 8) (H := h / 8) hy.1 hy.2 hx.1 hx.2).2
    have nm : ∀ pl x y : Int, 0 ≤ pl → pl ≤ 2 → 0 ≤ x → x < pw w pl → 0 ≤ y → y < pw h pl → ¬ mdAt 0 (w / 8 * (h / 8)) w h pl x y := fun pl x y p0 p2 x0 x1 y0 y1 hd => by
      have := lt pl x y p0 p2 x0 x1 y0 y1
      unfold mdAt at hd
      rw [if_pos rfl] at hd
      omega
    have smp : ∀ (mm : jM), (mm 109 = m' 109) → (mm 110 = m' 110) → ∀ q x y : Int, 0 ≤ q → q ≤ 2 → 0 ≤ x → x < pw w q → 0 ≤ y → y < pw h q → I2 (p + 1) (pb w h q + (y * pw w q + x)) = mm 109 (864 * k + (pf q + (y * pw w q + x))) ∧ 0 ≤ mm 109 (864 * k + (pf q + (y * pw w q + x))) ∧ mm 109 (864 * k + (pf q + (y * pw w q + x))) ≤ 255 ∧ mm 110 (864 * k + (pf q + (y * pw w q + x))) = m 110 (864 * k + (pf q + (y * pw w q + x))) := fun mm h1 h2 q x y q0 q2 x0 x1 y0 y1 => by
      rw [g3 (p + 1) (by omega), jms_o (by omega), h1, h2, S3 110 (by decide) (by decide) (by decide) (by decide)]
      have := S5 q x y q0 q2 x0 x1 y0 y1 (lt q x y q0 q2 x0 x1 y0 y1)
      exact ⟨this.1, this.2.1, this.2.2, rfl⟩
    have i12 : I2 (c + 12) = I' (c + 12) := by rw [g3 (c + 12) (by omega), jms_o (by omega)]
    have fr2 : ∀ a : Nat, a < 9 ∨ (24 < a ∧ a ≠ 41) → a ≠ p + 1 → a ≠ c + 12 → I2 a = I a := fun a ha h1 h2 => by
      rw [g3 a (by omega), jms_o (by omega)]
      exact fr a ha h1 h2
    rcases g6 with ⟨rfl, b0⟩ | ⟨rfl, b6⟩
    · rw [if_neg (by decide)] at C1
      refine ⟨0, w / 8 * (h / 8), I2, m2, C1, ?_, ⟨⟨by decide, by decide, b0⟩, fun hf => absurd rfl hf, fun _ => ?_, fun q x y q0 q2 x0 x1 y0 y1 => ⟨fun _ => smp m2 (g4 109 (by decide)) (g4 110 (by decide)) q x y q0 q2 x0 x1 y0 y1, fun hf => absurd rfl hf⟩, fun j hj => ?_, fr2, fun a h1 h2 h3 h4 h5 h6 => ?_, fun j hj => ?_, (congrFun ((g3 11 (by decide)).trans (jms_o (by decide))) 0).trans S2.1⟩, fun q z c1 c2 c3 c4 => ?_, fun j hj => ?_⟩
      · unfold jd_270
        rw [ey, Option.bind_some, if_pos (BM_b1 R'), g2, Option.bind_some, if_pos (show jw (m2 76 52) ≤ 0 by rw [b0]; decide)]
        rfl
      · rw [g4 108 (by decide)]
        exact S3 108 (by decide) (by decide) (by decide) (by decide)
      · rw [g4 109 (by decide), g4 110 (by decide), S3 110 (by decide) (by decide) (by decide) (by decide)]
        exact ⟨S6 j hj, rfl⟩
      · rw [g4 a h1]
        exact S3 a h1 h3 h5 (by omega)
      · rw [g5 j (by omega)]
        exact S4 j (by omega)
      · rw [if_neg (fun e => e.1 rfl), g4 111 (by decide), i12]
        exact S7 q z c1 c2 c3 c4
      · rw [g4 111 (by decide), i12]
        exact S8 j hj
    · rw [if_pos (by decide)] at C1
      refine ⟨6, w / 8 * (h / 8), I2, jms m2 108 k (w / 8 * (h / 8)), C1, ?_, ⟨⟨by decide, by decide, by rw [jms_o (by decide)]; exact b6⟩, fun _ => ⟨?_, s0, by omega, ?_⟩, fun hf => absurd hf (by decide), fun q x y q0 q2 x0 x1 y0 y1 => ⟨fun _ => smp (jms m2 108 k (w / 8 * (h / 8))) ((jms_o (by decide)).trans (g4 109 (by decide))) ((jms_o (by decide)).trans (g4 110 (by decide))) q x y q0 q2 x0 x1 y0 y1, fun _ hd => absurd hd (nm q x y q0 q2 x0 x1 y0 y1)⟩, fun j hj => ?_, fr2, fun a h1 h2 h3 h4 h5 h6 => ?_, fun j hj => ?_, (congrFun ((g3 11 (by decide)).trans (jms_o (by decide))) 0).trans S2.1⟩, fun q z c1 c2 c3 c4 => ?_, fun j hj => ?_⟩
      · have n238 : jd_238 m2 = w / 8 * (h / 8) := k_238 sw sh ((g5 33 (by decide)).trans ((S4 33 (by decide)).trans mw)) ((g5 34 (by decide)).trans ((S4 34 (by decide)).trans mh))
        unfold jd_270
        rw [ey, Option.bind_some, if_pos (BM_b1 R'), g2, Option.bind_some, if_neg (br_1 (m := m2) b6 (by decide) (by decide)), n238, y_mw 108 12 rfl rfl k0 k1, Option.bind_some]
        rfl
      · rw [g3 9 (by decide)]
        exact jms_e
      · funext z
        unfold jms
        rw [if_pos rfl, g4 108 (by decide), S3 108 (by decide) (by decide) (by decide) (by decide)]
      · rw [jms_o (by decide), jms_o (by decide), g4 109 (by decide), g4 110 (by decide), S3 110 (by decide) (by decide) (by decide) (by decide)]
        exact ⟨S6 j hj, rfl⟩
      · rw [jms_o h2, g4 a h1]
        exact S3 a h1 h3 h5 (by omega)
      · rw [jms_o (by decide), g5 j (by omega)]
        exact S4 j (by omega)
      · rw [if_neg (fun e => absurd e.2 (by omega)), jms_o (by decide), g4 111 (by decide), i12]
        exact S7 q z c1 c2 c3 c4
      · rw [jms_o (by decide), g4 111 (by decide), i12]
        exact S8 j hj
end CoreB
