/-! making: the search for a vector, both sides -/
section Srch
variable {s : hS} {Q : hQ} {hm : hO} {I J m M : jM} {b : Nat} {w h X Y wh vx vy g0 g1 a k q rc : Int} {W : Int → Int}
theorem c_13 {v : Int} (h0 : -100 ≤ v) (h1 : v ≤ 100) : jd_13 v = some ((cd (us v)).length : Int) ∧ jd_235 (jd_236 v) = some ((cd (us v)).length : Int) ∧ 0 ≤ ((cd (us v)).length : Int) ∧ ((cd (us v)).length : Int) ≤ 15 := by
  have u := us_b (v := v) (u := 100) h0 h1
  obtain ⟨x, hx⟩ : ∃ x, us v = x := ⟨_, rfl⟩
  have k := k_us (v := v) (by omega) (by omega)
  rw [hx] at u k ⊢
  refine ⟨?_, ?_, by omega, cd_le (k := 8) u.1 (by show x + 1 < 256; omega)⟩
  · unfold jd_13
    rw [k.2, c_11 u.1 (by omega), Option.bind_some]
  · rw [k.1]
    exact k_235 u.1 (by omega)
/-- the wanted samples of plane 0 -/
def SrcQ (m : jM) (k X Y : Int) (W : Int → Int) : Prop := ∀ m' : jM, m' 76 33 = m 76 33 → m' 103 = m 103 → m' 121 = m 121 → ∀ z : Int, 0 ≤ z → z < 64 → jd_279 k 0 (8 * X + z % 8) (8 * Y + z / 8) m' = some (W z)
theorem k_283c {c0 x3 x4 x5 x6 x8 : Int} (sw : isSd w) (sh : isSd h) (mw : m 76 33 = w) (mh : m 76 34 = h) (a0 : 0 ≤ a) (a1 : a < 12) (q0 : 0 ≤ q) (q1 : q < w / 8 * (h / 8)) (hX : q % (w / 8) = X) (hY : q / (w / 8) = Y) (vx0 : -16 ≤ vx) (vx1 : vx ≤ 16) (vy0 : -16 ≤ vy) (vy1 : vy ≤ 16) (S : SrcQ m k X Y W) (wb : ∀ z : Int, 0 ≤ z → z < 64 → 0 ≤ W z ∧ W z ≤ 255) (smp : ∀ j : Int, 0 ≤ j → j < w * h → 0 ≤ m 109 (864 * a + (0 + j)) ∧ m 109 (864 * a + (0 + j)) ≤ 255) (hx3 : x3 = a) : jd_283_l66 k q x3 x4 x5 x6 x8 vy vx c0 0 m = some (c0 + dS (DF W (fun j => m 109 (864 * a + (0 + j))) w h X Y vx vy) 64) := by
  have w1 : 8 ≤ w ∧ w ≤ 24 := by rcases sw with rfl | rfl | rfl <;> decide
  have h1 : 8 ≤ h ∧ h ≤ 24 := by rcases sh with rfl | rfl | rfl <;> decide
  have mr := mm_r sw sh q0 q1
  rw [hX, hY] at mr
  have e245 := k_245 (m := m) sw mw q0 (by omega)
  rw [hX, hY] at e245
  obtain ⟨D, hD⟩ : ∃ D, D = DF W (fun j => m 109 (864 * a + (0 + j))) w h X Y vx vy := ⟨_, rfl⟩
  rw [← hD]
  unfold jd_283_l66
  have := w_for (f := fun u : (Int × Int) => jd_283_s66 k q x3 x4 x5 x6 x8 vy vx u.1 u.2 m) (fun j => (c0 + dS D j, (j : Int))) 64 (x := c0 + dS D 64) (fun j hj => ?_) ?_ (n_fu (by decide))
  · have z : c0 + dS D 0 = c0 := Int.add_zero _
    rw [z] at this
    exact this
  · dsimp only
    have e51 := k_251 (m := m) (a := a) (pl := 0) (x := 8 * X + (j : Int) % 8) (y := 8 * Y + (j : Int) / 8) (vx := vx) (vy := vy) sw sh mw mh a0 a1 (by decide) (by decide) (by omega) (by omega) (by omega) (by omega) vx0 vx1 vy0 vy1 smp
    have f := ft_b (S := fun j => m 109 (864 * a + (0 + j))) (W := w) (H := h) (x := 8 * X + (j : Int) % 8) (y := 8 * Y + (j : Int) / 8) (hx := vx) (hy := vy) (by omega) (by omega) smp
    have e51' : jd_251 a 0 (8 * X + (j : Int) % 8) (8 * Y + (j : Int) / 8) vx vy m = some (ft (fun j => m 109 (864 * a + (0 + j))) w h (8 * X + (j : Int) % 8) (8 * Y + (j : Int) / 8) vx vy) := e51
    have sv := S m rfl rfl rfl (j : Int) (by omega) (by omega)
    have wv := wb (j : Int) (by omega) (by omega)
    obtain ⟨t, ht⟩ : ∃ t, ft (fun j => m 109 (864 * a + (0 + j))) w h (8 * X + (j : Int) % 8) (8 * Y + (j : Int) / 8) vx vy = t := ⟨_, rfl⟩
    have eD : D (j : Int) = W (j : Int) - t := by
      rw [hD, ← ht]
      show W (j : Int) - ft (fun j => m 109 (864 * a + (0 + j))) w h (X * 8 + (j : Int) % 8) (Y * 8 + (j : Int) / 8) vx vy = _
      rw [Int.mul_comm X 8, Int.mul_comm Y 8]
    rw [ht] at f e51'
    clear e51 ht
    unfold jd_283_s66 jd_283_b149
    rw [n_jw (z := (j : Int)) (by omega) (by omega), if_neg (by omega), e245.1, Option.bind_some, e245.2, Option.bind_some, n_rem (z := (j : Int)) (by omega) (by omega) (by decide) (by decide), n_div (z := (j : Int)) (by omega) (by omega) (by decide) (by decide), hx3, e51', Option.bind_some, sv, Option.bind_some, n_jw (z := t - W (j : Int)) (by omega) (by omega), n_jw (z := -(t - W (j : Int))) (by omega) (by omega), dS_s, eD, show ((j + 1 : Nat) : Int) = (j : Int) + 1 by omega]
    have ea : (if 0 ≤ t - W (j : Int) then t - W (j : Int) else -(t - W (j : Int))) = ab (W (j : Int) - t) := by
      unfold ab
      split <;> split <;> omega
    rw [ea, Int.add_assoc]
  · dsimp only
    unfold jd_283_s66
    exact if_pos (by show (64 : Int) ≤ jw ((64 : Nat) : Int); decide)
/-- the best so far, on both sides -/
def BR (I m : jM) (wh ls bs rc : Int) : Prop := (bs = -1 ∧ ls = 2147483647) ∨ (0 ≤ bs ∧ bs = ls ∧ ls ≤ 100000 ∧ I 60 wh = m 76 76 ∧ I 60 (wh + 1) = m 76 77 ∧ (-rc ≤ m 76 76 ∧ m 76 76 ≤ rc) ∧ -rc ≤ m 76 77 ∧ m 76 77 ≤ rc)
/-- what stays -/
def SF (wh : Int) (I m J M : jM) : Prop := (∀ x : Nat, x ≠ 47 → x ≠ 50 → x ≠ 53 → x ≠ 54 → x ≠ 60 → J x = I x) ∧ (∀ z : Int, z ≠ wh → z ≠ wh + 1 → J 60 z = I 60 z) ∧ (∀ c : Nat, c ≠ 76 → M c = m c) ∧ ∀ z : Int, z ≠ 76 → z ≠ 77 → M 76 z = m 76 z
/-- what the search starts from -/
def SI (s : hS) (Q : hQ) (I m : jM) (b : Nat) (w h X Y wh g0 g1 a k q rc : Int) (W : Int → Int) : Prop := PcC s Q b ∧ (I b 0 = w ∧ I b 1 = h ∧ isSd w ∧ isSd h) ∧ (0 ≤ wh ∧ wh ≤ 2) ∧ (I 45 5 = X ∧ I 45 6 = Y ∧ q % (w / 8) = X ∧ q / (w / 8) = Y ∧ 0 ≤ q ∧ q < w / 8 * (h / 8)) ∧ (m 76 33 = w ∧ m 76 34 = h ∧ 0 ≤ a ∧ a < 12) ∧ (∀ j : Int, 0 ≤ j → j < w * h → I (b + 1) j = m 109 (864 * a + (0 + j)) ∧ 0 ≤ m 109 (864 * a + (0 + j)) ∧ m 109 (864 * a + (0 + j)) ≤ 255) ∧ (I 51 wh = g0 ∧ I 51 (wh + 1) = g1 ∧ (-16 ≤ g0 ∧ g0 ≤ 16) ∧ -16 ≤ g1 ∧ g1 ≤ 16) ∧ (∀ z : Int, 0 ≤ z → z < 64 → I 56 z = W z ∧ 0 ≤ W z ∧ W z ≤ 255) ∧ SrcQ m k X Y W ∧ 0 ≤ rc ∧ rc ≤ 8
theorem srch_1 {x y ls bs : Int} (L : Lay s Q hm) (h6 : s.1 ≤ 1000000) (S : SI s Q I m b w h X Y wh g0 g1 a k q rc W) (F : SF wh I m J M) (B : BR J M wh ls bs rc) (x0 : -rc ≤ x) (x1 : x ≤ rc) (y0 : -rc ≤ y) (y1 : y ≤ rc) : ∃ (ls' bs' : Int) (J' M' : jM), jd_17_s18 44 (some b) wh rc y ls x (hh s Q J) = some (.inl (ls', x + 1, hh s Q J')) ∧ jd_283_s30 k q a g0 g1 rc y bs x M = some (.inl (bs', x + 1, M')) ∧ SF wh I m J' M' ∧ BR J' M' wh ls' bs' rc ∧ 0 ≤ bs' := by
  obtain ⟨P, ⟨hw, hh', sw, sh⟩, ⟨wh0, wh2⟩, ⟨eX, eY, hX, hY, q0, q1⟩, ⟨mw, mh, a0, a1⟩, smp, ⟨eg0, eg1, gb0, gb1⟩, hW, hS, rc0, rc8⟩ := S
  obtain ⟨F1, F2, F3, F4⟩ := F
  have T := PtC_45 L
  have p153 := P.1
  have mr := mm_r sw sh q0 q1
  rw [hX, hY] at mr
  have q044 : Q 44 ((0 : Nat) : Int) = some 45 := Lq L rfl
  have q244 : Q 44 ((2 : Nat) : Int) = some 56 := Lq L rfl
  have q644 : Q 44 ((6 : Nat) : Int) = some 60 := Lq L rfl
  have q11 := T_q T 5 11 rfl rfl rfl
  have q12 := T_q T 6 12 rfl rfl rfl
  obtain ⟨K, hK⟩ : ∃ K, K = jms (jms J 50 wh x) 50 (wh + 1) y := ⟨_, rfl⟩
  have Ko : ∀ c : Nat, c ≠ 50 → K c = J c := fun c hc => by rw [hK, jms_o hc, jms_o hc]
  have k0 : K 50 wh = x := by rw [hK, jms_i (by omega), jms_e]
  have k1 : K 50 (wh + 1) = y := by rw [hK, jms_e]
  have k51 : K 51 = I 51 := by rw [Ko 51 (by decide), F1 51 (by decide) (by decide) (by decide) (by decide) (by decide)]
  have kb : ∀ c : Nat, 153 ≤ c → K c = I c := fun c hc => by rw [Ko c (by omega), F1 c (by omega) (by omega) (by omega) (by omega) (by omega)]
  have k45 : K 45 = I 45 := by rw [Ko 45 (by decide), F1 45 (by decide) (by decide) (by decide) (by decide) (by decide)]
  have k56 : K 56 = I 56 := by rw [Ko 56 (by decide), F1 56 (by decide) (by decide) (by decide) (by decide) (by decide)]
  obtain ⟨u1, u2, u3, u4⟩ := c_13 (v := x - g0) (by omega) (by omega)
  obtain ⟨w1, w2, w3, w4⟩ := c_13 (v := y - g1) (by omega) (by omega)
  obtain ⟨A, hA⟩ : ∃ A, ((cd (us (x - g0))).length : Int) = A := ⟨_, rfl⟩
  obtain ⟨Bb, hBb⟩ : ∃ B, ((cd (us (y - g1))).length : Int) = B := ⟨_, rfl⟩
  rw [hA] at u1 u2 u3 u4
  rw [hBb] at w1 w2 w3 w4
  clear hA hBb
  have lb : 0 ≤ ls ∧ ls ≤ 2147483647 := by
    rcases B with ⟨-, e⟩ | ⟨e1, e2, e3, -⟩ <;> omega
  have c56 : 56 < s.1 ∧ s.2.2.1 56 = 0 ∧ s.2.2.2 56 = 96 := by
    have := L.2.1 56 (by decide)
    exact ⟨this.1, this.2.1, this.2.2.1⟩
  obtain ⟨sum, J', e83, o83, s0, s1, s2⟩ := c_83 (I := K) (c := 56) (b := b) (wh := wh) (vx := x) (vy := y) (lim := ls - (A + Bb)) (Wd := W) T h6 c56 (by decide) (by decide) P (by rw [kb b p153]; exact hw) (by rw [kb b p153]; exact hh') sw sh wh0 wh2 k0 k1 (by omega) (by omega) (by omega) (by omega) (by rw [k45]; exact eX) (by rw [k45]; exact eY) mr.1 mr.2.1 mr.2.2.1 mr.2.2.2.1 (fun j j0 j1 => by rw [kb (b + 1) (by omega), (smp j j0 j1).1]; exact (smp j j0 j1).2) (fun z z0 z1 => by rw [k56]; exact hW z z0 z1) (by omega) (by omega)
  have cm := k_283c (m := M) (c0 := A + Bb) (x3 := a) (x4 := g0) (x5 := g1) (x6 := bs) (x8 := rc) (k := k) (vx := x) (vy := y) (W := W) sw sh (by rw [F4 33 (by decide) (by decide)]; exact mw) (by rw [F4 34 (by decide) (by decide)]; exact mh) a0 a1 q0 q1 hX hY (by omega) (by omega) (by omega) (by omega) (fun m' h1 h2 h3 => hS m' (by rw [h1, F4 33 (by decide) (by decide)]) (by rw [h2, F3 103 (by decide)]) (by rw [h3, F3 121 (by decide)])) (fun z z0 z1 => (hW z z0 z1).2) (fun j j0 j1 => by rw [F3 109 (by decide)]; exact (smp j j0 j1).2) rfl
  obtain ⟨full, hfull⟩ : ∃ f, dS (DF W (K (b + 1)) w h X Y x y) 64 = f := ⟨_, rfl⟩
  have eD : dS (DF W (fun j => M 109 (864 * a + (0 + j))) w h X Y x y) 64 = full := by
    rw [← hfull]
    refine dS_c 64 (fun z z0 z1 => ?_)
    have w1 : 8 ≤ w ∧ w ≤ 24 := by rcases sw with rfl | rfl | rfl <;> decide
    have h1 : 8 ≤ h ∧ h ≤ 24 := by rcases sh with rfl | rfl | rfl <;> decide
    show ab (W z - ft _ w h _ _ x y) = ab (W z - ft _ w h _ _ x y)
    rw [ft_c (S := fun j => M 109 (864 * a + (0 + j))) (S' := K (b + 1)) (by omega) (by omega) (fun j j0 j1 => by rw [kb (b + 1) (by omega), (smp j j0 j1).1, F3 109 (by decide)])]
  rw [eD] at cm
  rw [hfull] at s1 s2
  have fb : full ≤ 255 * 64 := by
    rw [← hfull]
    refine (dS_b 64 (fun z z0 z1 => ?_)).2
    have w1 : 8 ≤ w ∧ w ≤ 24 := by rcases sw with rfl | rfl | rfl <;> decide
    have h1 : 8 ≤ h ∧ h ≤ 24 := by rcases sh with rfl | rfl | rfl <;> decide
    have f := ft_b (S := K (b + 1)) (W := w) (H := h) (x := X * 8 + z % 8) (y := Y * 8 + z / 8) (hx := x) (hy := y) (by omega) (by omega) (fun j j0 j1 => by rw [kb (b + 1) (by omega), (smp j j0 j1).1]; exact (smp j j0 j1).2)
    have wz := (hW z z0 (by omega)).2
    show -255 ≤ W z - ft (K (b + 1)) w h (X * 8 + z % 8) (Y * 8 + z / 8) x y ∧ W z - ft (K (b + 1)) w h (X * 8 + z % 8) (Y * 8 + z / 8) x y ≤ 255
    omega
  clear hfull eD
  -- the class
  have n50 : jai (hh s Q K) 51 wh = some g0 := by
    have := T_ai (R := Q) (I := K) (z := wh) T h6 6 4 rfl rfl rfl rfl wh0 (by show wh < 4; omega)
    rw [show 45 + 6 = 51 from rfl, k51, eg0] at this
    exact this
  have n51 : jai (hh s Q K) 51 (wh + 1) = some g1 := by
    have := T_ai (R := Q) (I := K) (z := wh + 1) T h6 6 4 rfl rfl rfl rfl (by omega) (by show wh + 1 < 4; omega)
    rw [show 45 + 6 = 51 from rfl, k51, eg1] at this
    exact this
  have ta : jta (hh s Q J) 50 0 wh x = some (hh s Q (jms J 50 wh x)) := T_ta (R := Q) (I := J) (z := wh) (v := x) T 5 4 rfl rfl rfl rfl wh0 (by show wh < 4; omega)
  have tb : jta (hh s Q (jms J 50 wh x)) 50 0 (wh + 1) y = some (hh s Q K) := by
    rw [hK]
    exact T_ta (R := Q) (I := jms J 50 wh x) (z := wh + 1) (v := y) T 5 4 rfl rfl rfl rfl (by omega) (by show wh + 1 < 4; omega)
  have q11' : Q 45 ((11 : Nat) : Int) = some 50 := q11
  have q12' : Q 45 ((12 : Nat) : Int) = some 51 := q12
  have hCl : jd_17_s18 44 (some b) wh rc y ls x (hh s Q J) = (if ls ≤ A + Bb + sum then some (.inl (ls, x + 1, hh s Q J')) else some (.inl (A + Bb + sum, x + 1, hh s Q (jms (jms J' 60 wh x) 60 (wh + 1) y)))) := by
    unfold jd_17_s18 jd_17_b135
    rw [n_jw (z := rc) (by omega) (by omega), n_jw (z := x) (by omega) (by omega), if_neg (by omega), y_gr L 44 1 rfl rfl, Option.bind_some, q044, Option.bind_some, T_gr T, Option.bind_some, q11', Option.bind_some, ta, Option.bind_some, y_gr L 44 1 rfl rfl, Option.bind_some, q044, Option.bind_some, T_gr T, Option.bind_some, q11', Option.bind_some, tb, Option.bind_some, y_gr L 44 1 rfl rfl, Option.bind_some, q044, Option.bind_some, T_gr T, Option.bind_some, q12', Option.bind_some, n50, Option.bind_some, u1, Option.bind_some, Option.bind_some, Option.bind_some, T_gr T, Option.bind_some, q12', Option.bind_some, n51, Option.bind_some, w1, Option.bind_some, Option.bind_some, y_gr L 44 1 rfl rfl, Option.bind_some, q244, Option.bind_some, T_ck T, Option.bind_some, e83, Option.bind_some]
    dsimp only
    rw [n_jw (z := ls) (by omega) (by omega), n_jw (z := A + Bb + sum) (by omega) (by omega), y_gr L 44 1 rfl rfl, Option.bind_some, q644, Option.bind_some, y_ta L 60 0 4 rfl rfl rfl wh0 (by omega), Option.bind_some, y_gr L 44 1 rfl rfl, Option.bind_some, q644, Option.bind_some, y_ta L 60 0 4 rfl rfl rfl (by omega) (by omega), Option.bind_some]
  have hMo : jd_283_s30 k q a g0 g1 rc y bs x M = (if bs < 0 ∨ A + Bb + full < bs then some (.inl (A + Bb + full, x + 1, jms (jms M 76 76 x) 76 77 y)) else some (.inl (bs, x + 1, M))) := by
    have bb : -1 ≤ bs ∧ bs ≤ 2147483647 := by
      rcases B with ⟨e, -⟩ | ⟨e1, e2, e3, -⟩ <;> omega
    unfold jd_283_s30 jd_283_b176 jd_283_b192
    rw [n_jw (z := rc) (by omega) (by omega), n_jw (z := x) (by omega) (by omega), if_neg (by omega), u2, Option.bind_some, w2, Option.bind_some, n_jw (z := A + Bb) (by omega) (by omega), cm, Option.bind_some, n_jwl (z := bs) (by omega) (by omega), n_jwl (z := A + Bb + full) (by omega) (by omega), Option.bind_some, Option.bind_some]
    by_cases c1 : bs < 0
    · rw [if_pos c1, if_pos (Or.inl c1)]
    · rw [if_neg c1]
      by_cases c2 : A + Bb + full < bs
      · rw [if_pos c2, if_pos (Or.inr c2)]
      · rw [if_neg c2, if_neg (by omega)]
  have Jo : ∀ c : Nat, c ≠ 47 → c ≠ 50 → c ≠ 53 → c ≠ 54 → J' c = J c := fun c c1 c2 c3 c4 => by rw [o83 c c1 c3 c4, Ko c c2]
  have F1' : ∀ c : Nat, c ≠ 47 → c ≠ 50 → c ≠ 53 → c ≠ 54 → c ≠ 60 → J' c = I c := fun c c1 c2 c3 c4 c5 => (Jo c c1 c2 c3 c4).trans (F1 c c1 c2 c3 c4 c5)
  have J60 : J' 60 = J 60 := Jo 60 (by decide) (by decide) (by decide) (by decide)
  rw [hCl, hMo]
  by_cases c1 : bs < 0 ∨ A + Bb + full < bs
  · have sf : sum = full ∧ ¬ ls ≤ A + Bb + sum := by
      rcases B with ⟨e1, e2⟩ | ⟨e1, e2, e3, -⟩
      · rcases s2 with e | e <;> omega
      · rcases s2 with e | e <;> omega
    rw [if_pos c1, if_neg sf.2]
    refine ⟨_, _, _, _, rfl, rfl, ⟨fun c x1 x2 x3 x4 x5 => by rw [jms_o x5, jms_o x5]; exact F1' c x1 x2 x3 x4 x5, fun z z1 z2 => by rw [jms_i z2, jms_i z1, J60]; exact F2 z z1 z2, fun c hc => by rw [jms_o hc, jms_o hc]; exact F3 c hc, fun z z1 z2 => by rw [jms_i z2, jms_i z1]; exact F4 z z1 z2⟩, Or.inr ⟨by omega, by omega, by omega, ?_, ?_, ?_, ?_, ?_⟩, by omega⟩
    · rw [jms_i (by omega), jms_e, jms_i (by decide), jms_e]
    · rw [jms_e, jms_e]
    · rw [jms_i (by decide), jms_e]
      omega
    · rw [jms_e]
      omega
    · rw [jms_e]
      omega
  · have sf : ls ≤ A + Bb + sum := by
      rcases B with ⟨e1, e2⟩ | ⟨e1, e2, e3, -⟩
      · omega
      · rcases s2 with e | e <;> omega
    rw [if_neg c1, if_pos sf]
    refine ⟨_, _, _, _, rfl, rfl, ⟨F1', fun z z1 z2 => by rw [J60]; exact F2 z z1 z2, F3, F4⟩, ?_, by omega⟩
    rcases B with ⟨e1, e2⟩ | ⟨e1, e2, e3, e4, e5, e6⟩
    · omega
    · exact Or.inr ⟨e1, e2, e3, by rw [J60]; exact e4, by rw [J60]; exact e5, e6⟩
end Srch
