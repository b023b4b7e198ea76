/-! filter: the model's machine -/
section FltM
variable {I0 m0 I m m' : jM} {a : Nat} {q p w d fl c B lv op wo pt z : Int} {pn : Nat}
def MFr (q : Int) (m0 m : jM) : Prop := (∀ x : Nat, x ≠ 76 → (x < 136 ∨ 139 < x) → m x = m0 x) ∧ (∀ z : Int, z < 96 ∨ 103 < z → m 76 z = m0 76 z) ∧ ∀ z : Int, z < 400 * q ∨ 400 * q + 400 ≤ z → m 136 z = m0 136 z ∧ m 137 z = m0 137 z
/-- the model's state: place, waits, nested, filled -/
def MS (q : Int) (m0 : jM) (p w d fl : Int) (m : jM) : Prop := m 76 96 = p ∧ m 76 97 = -1 ∧ m 76 98 = w ∧ m 76 101 = d ∧ m 76 102 = fl ∧ m 76 103 = 0 ∧ MFr q m0 m
theorem MFr_76 (F : MFr q m0 m) (h : 96 ≤ z ∧ z ≤ 103) {v : Int} : MFr q m0 (jms m 76 z v) := ⟨fun x h1 h2 => by rw [jms_o h1]; exact F.1 x h1 h2, fun y hy => by rw [jms_i (by omega)]; exact F.2.1 y hy, fun y hy => by rw [jms_o (by decide), jms_o (by decide)]; exact F.2.2 y hy⟩
theorem MFr_st (F : MFr q m0 m) {x : Nat} (h : x = 138 ∨ x = 139) {v : Int} : MFr q m0 (jms m x z v) := by
  refine ⟨fun y h1 h2 => by rw [jms_o (by omega)]; exact F.1 y h1 h2, fun y hy => by rw [jms_o (by omega)]; exact F.2.1 y hy, fun y hy => ?_⟩
  rw [jms_o (by omega), jms_o (by omega)]
  exact F.2.2 y hy
theorem MFr_op (F : MFr q m0 m) {x : Nat} (h : x = 136 ∨ x = 137) (hz : 400 * q ≤ z ∧ z < 400 * q + 400) {v : Int} : MFr q m0 (jms m x z v) := by
  refine ⟨fun y h1 h2 => by rw [jms_o (by omega)]; exact F.1 y h1 h2, fun y hy => by rw [jms_o (by omega)]; exact F.2.1 y hy, fun y hy => ?_⟩
  have t : ∀ u : Nat, jms m x z v u y = m u y := fun u => by
    by_cases e : u = x
    · rw [e, jms_i (by omega)]
    · rw [jms_o e]
  rw [t, t]
  exact F.2.2 y hy
theorem MS_p (M : MS q m0 p w d fl m) : MS q m0 z w d fl (jms m 76 96 z) := by
  obtain ⟨a1, a2, a3, a4, a5, a6, F⟩ := M
  exact ⟨jms_e, by rw [jms_i (by decide)]; exact a2, by rw [jms_i (by decide)]; exact a3, by rw [jms_i (by decide)]; exact a4, by rw [jms_i (by decide)]; exact a5, by rw [jms_i (by decide)]; exact a6, MFr_76 F (by omega)⟩
theorem MS_d (M : MS q m0 p w d fl m) : MS q m0 p w z fl (jms m 76 101 z) := by
  obtain ⟨a1, a2, a3, a4, a5, a6, F⟩ := M
  exact ⟨by rw [jms_i (by decide)]; exact a1, by rw [jms_i (by decide)]; exact a2, by rw [jms_i (by decide)]; exact a3, jms_e, by rw [jms_i (by decide)]; exact a5, by rw [jms_i (by decide)]; exact a6, MFr_76 F (by omega)⟩
theorem MS_w (M : MS q m0 p w d fl m) : MS q m0 p z d fl (jms m 76 98 z) := by
  obtain ⟨a1, a2, a3, a4, a5, a6, F⟩ := M
  exact ⟨by rw [jms_i (by decide)]; exact a1, by rw [jms_i (by decide)]; exact a2, jms_e, by rw [jms_i (by decide)]; exact a4, by rw [jms_i (by decide)]; exact a5, by rw [jms_i (by decide)]; exact a6, MFr_76 F (by omega)⟩
theorem MS_st (M : MS q m0 p w d fl m) {x : Nat} (h : x = 138 ∨ x = 139) {v : Int} : MS q m0 p w d fl (jms m x z v) := by
  obtain ⟨a1, a2, a3, a4, a5, a6, F⟩ := M
  have t : ∀ y : Int, jms m x z v 76 y = m 76 y := fun y => by rw [jms_o (by omega)]
  exact ⟨by rw [t]; exact a1, by rw [t]; exact a2, by rw [t]; exact a3, by rw [t]; exact a4, by rw [t]; exact a5, by rw [t]; exact a6, MFr_st F h⟩
/-- emit -/
def emM (m : jM) (q fl op wo : Int) : jM := jms (jms (jms m 136 (400 * q + fl) op) 137 (400 * q + fl) wo) 76 102 (fl + 1)
theorem k_335 (M : MS q m0 p w d fl m) (hq : m 76 92 = q) (q0 : 0 ≤ q ∧ q < 8) (f0 : 0 ≤ fl ∧ fl < 400) : jd_335 op wo m = some (emM m q fl op wo) ∧ MS q m0 p w d (fl + 1) (emM m q fl op wo) := by
  obtain ⟨a1, a2, a3, a4, a5, a6, F⟩ := M
  have t1 : jms m 136 (400 * q + fl) op 76 92 = q := hq
  have t2 : jms m 136 (400 * q + fl) op 76 102 = fl := a5
  have t3 : jms (jms m 136 (400 * q + fl) op) 137 (400 * q + fl) wo 76 102 = fl := a5
  refine ⟨?_, ?_⟩
  · unfold jd_335 emM
    rw [hq, a5, y_mw 136 3200 rfl rfl (by omega) (by omega), Option.bind_some, t1, t2, y_mw 137 3200 rfl rfl (by omega) (by omega), Option.bind_some, t3, Option.bind_some]
  · have F' : MFr q m0 (emM m q fl op wo) := MFr_76 (MFr_op (MFr_op F (Or.inl rfl) (by omega)) (Or.inr rfl) (by omega)) (by omega)
    have t : ∀ y : Int, y ≠ 102 → emM m q fl op wo 76 y = m 76 y := fun y hy => by
      unfold emM
      rw [jms_i hy]
      rfl
    exact ⟨by rw [t _ (by decide)]; exact a1, by rw [t _ (by decide)]; exact a2, by rw [t _ (by decide)]; exact a3, by rw [t _ (by decide)]; exact a4, jms_e, by rw [t _ (by decide)]; exact a6, F'⟩
theorem emM_s {x : Nat} (h : x = 138 ∨ x = 139) : emM m q fl op wo x = m x := by
  unfold emM
  rw [jms_o (by omega), jms_o (by omega), jms_o (by omega)]
theorem emM_v : emM m q fl op wo 136 (400 * q + fl) = op ∧ emM m q fl op wo 137 (400 * q + fl) = wo ∧ ∀ k : Int, k ≠ fl → emM m q fl op wo 136 (400 * q + k) = m 136 (400 * q + k) ∧ emM m q fl op wo 137 (400 * q + k) = m 137 (400 * q + k) := by
  unfold emM
  refine ⟨by rw [jms_o (by decide), jms_o (by decide), jms_e], by rw [jms_o (by decide), jms_e], fun k hk => ⟨?_, ?_⟩⟩
  · rw [jms_o (by decide), jms_o (by decide), jms_i (by omega)]
  · rw [jms_o (by decide), jms_i (by omega), jms_o (by decide)]
/-- an emitted step and the class's -/
def OpO (op wo st : Int) : Prop := 0 ≤ op ∧ op ≤ 17 ∧ (op = 0 → 0 ≤ wo ∧ wo ≤ 99999) ∧ st = stp op wo
def Em (q : Int) (a : Nat) (I m : jM) (fl : Int) : Prop := ∀ k : Int, 0 ≤ k → k < fl → OpO (m 136 (400 * q + k)) (m 137 (400 * q + k)) (I (a + 1) k)
theorem Em_s (E : Em q a I m fl) (h : OpO op wo (I (a + 1) fl)) : Em q a I (emM m q fl op wo) (fl + 1) := by
  intro k k0 k1
  obtain ⟨v1, v2, v3⟩ := emM_v (m := m) (q := q) (fl := fl) (op := op) (wo := wo)
  by_cases e : k = fl
  · subst e
    rw [v1, v2]
    exact h
  · rw [(v3 k e).1, (v3 k e).2]
    exact E k k0 (by omega)
theorem Em_m (E : Em q a I m fl) (h1 : m' 136 = m 136) (h2 : m' 137 = m 137) : Em q a I m' fl := fun k k0 k1 => by
  rw [h1, h2]
  exact E k k0 k1
/-- await -/
def awM (m : jM) (w op pt : Int) : jM := jms (jms (jms m 138 w op) 139 w pt) 76 98 (w + 1)
theorem k_338 (M : MS q m0 p w d fl m) (w0 : 0 ≤ w ∧ w < 400) : jd_338 op pt m = some (awM m w op pt) ∧ MS q m0 p (w + 1) d fl (awM m w op pt) := by
  have a3 := M.2.2.1
  have t1 : jms m 138 w op 76 98 = w := a3
  have t2 : jms (jms m 138 w op) 139 w pt 76 98 = w := a3
  refine ⟨?_, MS_w (MS_st (MS_st M (Or.inl rfl)) (Or.inr rfl))⟩
  unfold jd_338 awM
  rw [a3, y_mw 138 400 rfl rfl (by omega) (by omega), Option.bind_some, t1, y_mw 139 400 rfl rfl (by omega) (by omega), Option.bind_some, t2, Option.bind_some]
theorem awM_v : awM m w op pt 138 w = op ∧ awM m w op pt 139 w = pt ∧ (∀ k : Int, k ≠ w → awM m w op pt 138 k = m 138 k ∧ awM m w op pt 139 k = m 139 k) ∧ awM m w op pt 136 = m 136 ∧ awM m w op pt 137 = m 137 := by
  unfold awM
  refine ⟨by rw [jms_o (by decide), jms_o (by decide), jms_e], by rw [jms_o (by decide), jms_e], fun k hk => ⟨?_, ?_⟩, rfl, rfl⟩
  · rw [jms_o (by decide), jms_o (by decide), jms_i hk]
  · rw [jms_o (by decide), jms_i hk, jms_o (by decide)]
/-- strength -/
def sr (v : Int) : Int := if v = 8 then 3 else if 11 ≤ v ∧ v ≤ 13 then 2 else if v = 9 ∨ v = 10 then 1 else 0
theorem k_336 {v : Int} (h0 : 8 ≤ v) (h1 : v ≤ 18) : jw (jd_336 v) = sr v := by
  have : v = 8 ∨ v = 9 ∨ v = 10 ∨ v = 11 ∨ v = 12 ∨ v = 13 ∨ v = 14 ∨ v = 15 ∨ v = 16 ∨ v = 17 ∨ v = 18 := by omega
  rcases this with rfl | rfl | rfl | rfl | rfl | rfl | rfl | rfl | rfl | rfl | rfl <;> decide
/-- how many minuses wait -/
def nE (g : Int → Int) (w : Int) : Nat → Int
  | 0 => 0
  | k + 1 => nE g w k + (if g (w + (k : Int)) = 8 then 1 else 0)
theorem nE_s {g : Int → Int} {k : Nat} : nE g w (k + 1) = nE g w k + (if g (w + (k : Int)) = 8 then 1 else 0) := rfl
theorem nE_f {g : Int → Int} : ∀ k : Nat, nE g w (k + 1) = (if g w = 8 then 1 else 0) + nE g (w + 1) k
  | 0 => by
    rw [nE_s, show w + ((0 : Nat) : Int) = w by omega]
    show 0 + _ = _ + 0
    omega
  | k + 1 => by
    rw [nE_s, nE_f k, nE_s, show w + ((k + 1 : Nat) : Int) = w + 1 + (k : Int) by omega]
    omega
/-- between signs: what waits above w is lv strong, and told by the class already -/
def SG (q : Int) (a : Nat) (m0 I m : jM) (B w d c fl lv : Int) (pn : Nat) : Prop := MS q m0 B (w + (pn : Int)) (d + nE (m 138) w pn) fl m ∧ c = fl + (pn : Int) ∧ Em q a I m fl ∧ ∀ i : Nat, i < pn → lv ≤ sr (m 138 (w + (i : Int))) ∧ 8 ≤ m 138 (w + (i : Int)) ∧ m 138 (w + (i : Int)) ≤ 13 ∧ I (a + 1) (fl + (pn : Int) - 1 - (i : Int)) = opc (m 138 (w + (i : Int))).toNat
theorem nE_b {g : Int → Int} : ∀ k : Nat, 0 ≤ nE g w k ∧ nE g w k ≤ k
  | 0 => by unfold nE; omega
  | k + 1 => by
    have := nE_b (g := g) k
    rw [nE_s]
    split <;> omega
theorem k_337s (G : SG q a m0 I m B w d c fl lv (pn + 1)) (hq : m 76 92 = q) (q0 : 0 ≤ q ∧ q < 8) (f0 : 0 ≤ fl) (w0 : 0 ≤ w) (cw : c + w ≤ 200) (l0 : 1 ≤ lv ∧ lv ≤ 3) (d0 : 0 ≤ d ∧ d ≤ 12) : ∃ m', jd_337_s0 lv m = some (.inl m') ∧ SG q a m0 I m' B w d c (fl + 1) lv pn ∧ m' 138 = m 138 ∧ m' 139 = m 139 ∧ m' 76 92 = q := by
  obtain ⟨M, hc, E, P⟩ := G
  obtain ⟨p1, p2, p3, p4⟩ := P pn (by omega)
  have a3 := M.2.2.1
  have a4 := M.2.2.2.1
  rw [show fl + ((pn + 1 : Nat) : Int) - 1 - (pn : Int) = fl by omega] at p4
  obtain ⟨g, hg⟩ : ∃ g, m 138 (w + (pn : Int)) = g := ⟨_, rfl⟩
  rw [hg] at p1 p2 p3 p4
  have e98 : w + ((pn + 1 : Nat) : Int) - 1 = w + (pn : Int) := by omega
  have M1 := MS_w (z := w + (pn : Int)) M
  have x101 : jms m 76 98 (w + (pn : Int)) 76 101 = d + nE (m 138) w (pn + 1) := by rw [jms_i (by decide)]; exact a4
  have nb := nE_b (w := w) (g := m 138) pn
  have dv : d + nE (m 138) w (pn + 1) - (if jw g = 8 then 1 else 0) = d + nE (m 138) w pn := by
    rw [nE_s, hg, n_jw (z := g) (by omega) (by omega)]
    omega
  have M2 := MS_d (z := d + nE (m 138) w pn) M1
  have x138 : ∀ y, jms m 76 98 y 138 = m 138 := fun _ => rfl
  have y138 : ∀ y z, jms (jms m 76 98 y) 76 101 z 138 = m 138 := fun _ _ => rfl
  have x98 : ∀ y, jms m 76 98 y 76 98 = y := fun _ => jms_e
  have y98 : ∀ y z, jms (jms m 76 98 y) 76 101 z 76 98 = y := fun _ _ => by rw [jms_i (by decide), jms_e]
  have y92 : jms (jms m 76 98 (w + (pn : Int))) 76 101 (d + nE (m 138) w pn) 76 92 = q := by rw [jms_i (by decide), jms_i (by decide)]; exact hq
  obtain ⟨k1, k2⟩ := k_335 (op := g) (wo := 0) M2 y92 q0 (by omega)
  refine ⟨emM (jms (jms m 76 98 (w + (pn : Int))) 76 101 (d + nE (m 138) w pn)) q fl g 0, ?_, ⟨?_, by omega, Em_s (Em_m E rfl rfl) ⟨by omega, by omega, fun h => by omega, ?_⟩, fun i hi => ?_⟩, emM_s (Or.inl rfl), emM_s (Or.inr rfl), ?_⟩
  · unfold jd_337_s0
    rw [a3, n_jw (z := w + ((pn + 1 : Nat) : Int)) (by omega) (by omega), if_neg (by omega), e98, y_ma 138 400 rfl rfl (by omega) (by omega), Option.bind_some, hg, k_336 (by omega) (by omega), n_jw (z := lv) (by omega) (by omega), if_neg (by omega), Option.bind_some, x98, y_ma 138 400 rfl rfl (by omega) (by omega), Option.bind_some, x138, hg, x101, dv, Option.bind_some, y98, y_ma 138 400 rfl rfl (by omega) (by omega), Option.bind_some, y138, hg, k1, Option.bind_some]
  · rw [emM_s (Or.inl rfl)]
    exact k2
  · rw [p4]
    unfold stp
    rw [if_neg (by omega)]
  · rw [emM_s (Or.inl rfl), y138, show fl + 1 + (pn : Int) - 1 - (i : Int) = fl + ((pn + 1 : Nat) : Int) - 1 - (i : Int) by omega]
    exact P i (by omega)
  · unfold emM
    rw [jms_i (by decide)]
    exact y92
/-- settle -/
theorem k_337 (G : SG q a m0 I m B w d c fl lv pn) (hq : m 76 92 = q) (q0 : 0 ≤ q ∧ q < 8) (f0 : 0 ≤ fl) (w0 : 0 ≤ w) (cw : c + w ≤ 200) (l0 : 1 ≤ lv ∧ lv ≤ 3) (d0 : 0 ≤ d ∧ d ≤ 12) (tp : w = 0 ∨ (sr (m 138 (w - 1)) < lv ∧ 8 ≤ m 138 (w - 1) ∧ m 138 (w - 1) ≤ 18)) : ∃ m', jd_337 lv m = some m' ∧ MS q m0 B w d c m' ∧ Em q a I m' c ∧ m' 138 = m 138 ∧ m' 139 = m 139 := by
  have hc := G.2.1
  obtain ⟨m', e, h⟩ : wT (jd_337_l0 lv m) (fun m' => MS q m0 B w d c m' ∧ Em q a I m' c ∧ m' 138 = m 138 ∧ m' 139 = m 139) := by
    unfold jd_337_l0
    refine w_lp (fun k m' => k ≤ pn ∧ SG q a m0 I m' B w d c (fl + (k : Int)) lv (pn - k) ∧ m' 138 = m 138 ∧ m' 139 = m 139 ∧ m' 76 92 = q) pn (fun k m' hk J => ?_) (n_fu (by omega)) ⟨Nat.zero_le _, by rw [show fl + ((0 : Nat) : Int) = fl by omega]; exact G, rfl, rfl, hq⟩
    obtain ⟨j1, j2, j3, j4, j5⟩ := J
    by_cases c0 : pn - k = 0
    · rw [c0] at j2
      have M := j2.1
      have hc' := j2.2.1
      have ek : fl + (k : Int) = c := by omega
      have M' : MS q m0 B w d c m' := by
        have := M
        rw [show w + ((0 : Nat) : Int) = w by omega, show nE (m' 138) w 0 = 0 from rfl, Int.add_zero, ek] at this
        exact this
      refine ⟨.inr m', ?_, ?_⟩
      · show jd_337_s0 lv m' = _
        unfold jd_337_s0
        rw [M'.2.2.1, n_jw (z := w) (by omega) (by omega)]
        by_cases hw : w ≤ 0
        · rw [if_pos hw]
        · obtain ⟨t1, t2, t3⟩ := tp.resolve_left (by omega)
          rw [if_neg hw, y_ma 138 400 rfl rfl (by omega) (by omega), Option.bind_some, j3, k_336 t2 t3, n_jw (z := lv) (by omega) (by omega), if_pos t1]
      · show jse _ _ _
        rw [jse_r]
        have E := j2.2.2.1
        rw [ek] at E
        exact ⟨M', E, j3, j4⟩
    · obtain ⟨r, hr⟩ : ∃ r, pn - k = r + 1 := ⟨pn - k - 1, by omega⟩
      rw [hr] at j2
      obtain ⟨m2, e1, e2, e3, e4, e5⟩ := k_337s j2 j5 q0 (by omega) w0 cw l0 d0
      refine ⟨.inl m2, e1, ?_⟩
      show jse _ _ _
      rw [jse_l]
      refine ⟨by omega, by omega, ?_, e3.trans j3, e4.trans j4, e5⟩
      rw [show pn - (k + 1) = r by omega, show fl + ((k + 1 : Nat) : Int) = fl + (k : Int) + 1 by omega]
      exact e2
  exact ⟨m', by unfold jd_337; rw [e, Option.bind_some], h⟩
/-- the loop's turns -/
def Rch : Nat → Int × jM → Int × jM → Prop
  | 0, x, y => x = y
  | k + 1, x, y => ∃ z, jd_344_s59 x.1 x.2 = some (.inl z) ∧ Rch k z y
theorem Rch_t : ∀ {k l : Nat} {x y z : Int × jM}, Rch k x y → Rch l y z → Rch (k + l) x z
  | 0, l, x, y, z, h, h' => by
    cases h
    rw [Nat.zero_add]
    exact h'
  | k + 1, l, x, y, z, ⟨u, h1, h2⟩, h' => by
    rw [Nat.succ_add]
    exact ⟨u, h1, Rch_t h2 h'⟩
theorem Rch_1 {x y : Int × jM} (h : jd_344_s59 x.1 x.2 = some (.inl y)) : Rch 1 x y := ⟨y, h, rfl⟩
theorem Rch_lp : ∀ {k fu : Nat} {x y : Int × jM}, Rch k x y → jlp (fun s : (Int × jM) => jd_344_s59 s.1 s.2) (k + fu) x = jlp (fun s : (Int × jM) => jd_344_s59 s.1 s.2) fu y
  | 0, fu, x, y, h => by
    cases h
    rw [Nat.zero_add]
  | k + 1, fu, x, y, ⟨u, h1, h2⟩ => by
    rw [Nat.succ_add]
    simp only [jlp, h1]
    exact Rch_lp h2
theorem k_at {r : Int} (M : MS q m0 p w d fl m) (h : jd_342 m = some (r, m')) : jd_344_s59 1 m = some (.inl ((if jw r = 0 then 1 else 0), m')) := by
  unfold jd_344_s59
  rw [M.2.2.2.2.2.1, M.2.1, if_pos (show jw (0 % 2) = 0 by decide), if_pos (show jw (-1) = -1 by decide), if_neg (show ¬ jw 1 = 0 by decide), h, Option.bind_some, Option.bind_some]
theorem k_si {r : Int} (M : MS q m0 p w d fl m) (h : jd_343 m = some (r, m')) : jd_344_s59 0 m = some (.inl (r, m')) := by
  unfold jd_344_s59
  rw [M.2.2.2.2.2.1, M.2.1, if_pos (show jw (0 % 2) = 0 by decide), if_pos (show jw (-1) = -1 by decide), if_pos (show jw 0 = 0 by decide), h, Option.bind_some]
/-- wrong -/
theorem k_334 (M : MS q m0 p w d fl m) : jd_334 m = some (jms m 76 97 p) ∧ MFr q m0 (jms m 76 97 p) := by
  refine ⟨?_, MFr_76 M.2.2.2.2.2.2 (by omega)⟩
  unfold jd_334 jd_334_b16
  rw [M.2.1, if_pos (show jw (-1) = -1 by decide), M.1, Option.bind_some]
/-- nest -/
theorem k_341 (M : MS q m0 p w d fl m) (d0 : 0 ≤ d ∧ d ≤ 12) : (d < 12 → jd_341 m = some (jms m 76 101 (d + 1))) ∧ (d = 12 → ∃ m', jd_341 m = some m' ∧ m' 76 97 = p ∧ MFr q m0 m') := by
  have a4 := M.2.2.2.1
  unfold jd_341 jd_341_b13
  rw [a4, n_jw (z := d) (by omega) (by omega)]
  refine ⟨fun h => ?_, fun h => ?_⟩
  · rw [if_neg (by omega), Option.bind_some]
  · rw [if_pos h, (k_334 M).1, Option.bind_some, Option.bind_some]
    exact ⟨_, rfl, by rw [jms_i (by decide), jms_e], MFr_76 (k_334 M).2 (by omega)⟩
end FltM
