/-! movement: the two programs -/
section Move
variable {s : hS} {Q : hQ} {hm : hO} {I m : jM} {a b : Nat} {f p q t x y w h o o' N X Y dx dy : Int} {G G' : Int → Int}
theorem mvD_b (A : ∀ k : Int, 0 ≤ k → k < w * h → 0 ≤ G k ∧ G k ≤ 255) (B : ∀ k : Int, 0 ≤ k → k < w * h → 0 ≤ G' k ∧ G' k ≤ 255) (x0 : 0 ≤ X) (x1 : X + 8 ≤ w) (y0 : 0 ≤ Y) (y1 : Y + 8 ≤ h) (k : Int) (k0 : 0 ≤ k) (k1 : k < 64) : -255 ≤ mvD G G' w h X Y dx dy k ∧ mvD G G' w h X Y dx dy k ≤ 255 := by
  unfold mvD
  have d1 := dm_b (W := w) (H := h) (r := Y + k / 8) (c := X + k % 8) (by omega) (by omega) (by omega) (by omega)
  have z1 := clz_b (z := Y + k / 8 + dy) (n := h) (by omega)
  have z2 := clz_b (z := X + k % 8 + dx) (n := w) (by omega)
  have d2 := dm_b (W := w) (H := h) z1.1 z1.2 z2.1 z2.2
  have a1 := A _ d1.1 d1.2
  have a2 := B _ d2.1 d2.2
  omega
theorem Pix0 (X : Pix I a w h G) : ∀ k : Int, 0 ≤ k → k < w * h → I (a + 1) k = G k ∧ 0 ≤ G k ∧ G k ≤ 255 := fun k k0 k1 => by
  obtain ⟨ct0, -, -, -, ct4⟩ := pl_cat X.2.2.1 X.2.2.2.1
  have := X.2.2.2.2 0 k (by decide) (by decide) k0 (by omega)
  rw [ct0, show pf 0 = 0 from rfl, Int.zero_add] at this
  exact this
theorem c_108 {thr : Int} (A : PicAt s Q hm a o) (B : PicAt s Q hm b o') (h6 : s.1 ≤ 1000000) (PA : Pix I a w h G) (PB : Pix I b w h G') (p0 : 0 ≤ p) (p1 : p < w / 8 * (h / 8)) (hx : -4 ≤ dx ∧ dx ≤ 4) (hy : -4 ≤ dy ∧ dy ≤ 4) (ht : okI thr) : ∃ v, jd_108 a (some b) p dx dy thr (hh s Q I) = some v ∧ 0 ≤ v ∧ v ≤ mvC G G' w h (8 * (p % (w / 8))) (8 * (p / (w / 8))) dx dy ∧ (v = mvC G G' w h (8 * (p % (w / 8))) (8 * (p / (w / 8))) dx dy ∨ thr < v) := by
  obtain ⟨l1, l2, l3⟩ := Pic_ar A
  have e2 : Q a ((2 : Nat) : Int) = some (a + 1) := A.2.2.2
  have j0 : I a ((0 : Nat) : Int) = w := PA.1
  have hA := Pix0 PA
  have hB := Pix0 PB
  obtain ⟨ct0, -, -, -, ct4⟩ := pl_cat PA.2.2.1 PA.2.2.2.1
  have ps := pl_sz PA.2.2.1 PA.2.2.2.1 (show (0 : Int) ≤ 0 by decide) (show (0 : Int) ≤ 2 by decide)
  obtain ⟨m1, m2, m3, m4, m5, m6, m7, m8, m9⟩ := mv_b PA.2.2.1 PA.2.2.2.1 p0 p1
  have w24 : w ≤ 24 ∧ h ≤ 24 := by
    have := PA.2.2.1
    have := PA.2.2.2.1
    unfold isSd at *
    omega
  have e0 : pw w 0 = w ∧ pw h 0 = h := ⟨rfl, rfl⟩
  generalize hX : 8 * (p % (w / 8)) = X at *
  generalize hY : 8 * (p / (w / 8)) = Y at *
  have Db := fun k k0 k1 => mvD_b (G := G) (G' := G') (w := w) (h := h) (X := X) (Y := Y) (dx := dx) (dy := dy) (fun k k0 k1 => (hA k k0 k1).2) (fun k k0 k1 => (hB k k0 k1).2) m4 m5 m6 m7 k k0 k1
  have row : ∀ r : Nat, r < 8 → jd_108_l55 a (some b) dx dy thr X Y (Y + r) (fld 0 (mvD G G' w h X Y dx dy) (8 * r) 0) X (hh s Q I) = some (fld 0 (mvD G G' w h X Y dx dy) (8 * (r + 1)) 0) := by
    intro r hr
    unfold jd_108_l55
    have := w_for (f := fun u : (Int × Int) => jd_108_s55 a (some b) dx dy thr X Y (Y + r) u.1 u.2 (hh s Q I)) (fun c => (fld 0 (mvD G G' w h X Y dx dy) (8 * r + c) 0, X + (c : Int))) 8 (x := fld 0 (mvD G G' w h X Y dx dy) (8 * (r + 1)) 0) (fun c hc => ?_) ?_ (n_fu (by decide))
    · rw [show ((0 : Nat) : Int) = 0 from rfl, Int.add_zero, Nat.add_zero] at this
      exact this
    · dsimp only
      unfold jd_108_s55
      have d1 := dm_b (W := w) (H := h) (r := Y + r) (c := X + c) (by omega) (by omega) (by omega) (by omega)
      have z1 := clz_b (z := Y + (r : Int) + dy) (n := h) (by omega)
      have z2 := clz_b (z := X + (c : Int) + dx) (n := w) (by omega)
      have d2 := dm_b (W := w) (H := h) z1.1 z1.2 z2.1 z2.2
      have ab := PB.2.2.1
      rw [n_jw (z := X + 8) (by omega) (by omega), n_jw (z := X + (c : Int)) (by omega) (by omega), if_neg (by omega), x_gr A.2.1.1 A.2.1.2.1, Option.bind_some, x_gi A.2.1.1 A.2.1.2.1, Option.bind_some, e2, Option.bind_some, j0, x_ai l1 h6 l2 d1.1 (by rw [l3]; omega) (by rw [l3]; decide), Option.bind_some, Option.bind_some, x_ck B.2.1.1 B.2.1.2.1, Option.bind_some, n_jw (z := X + (c : Int) + dx) (by omega) (by omega), n_jw (z := Y + (r : Int) + dy) (by omega) (by omega), c_103 B h6 PB.1 PB.2.1 PB.2.2.1 PB.2.2.2.1 (by decide) (by decide) (by omega) (by omega) (by omega) (by omega), Option.bind_some, Option.bind_some, ct0, Int.zero_add, e0.1, e0.2, (hA _ d1.1 d1.2).1, (hB _ d2.1 d2.2).1, ← Nat.add_assoc, fld0_s]
      have ed : mvD G G' w h X Y dx dy ((8 * r + c : Nat) : Int) = G ((Y + r) * w + (X + c)) - G' (clz (Y + r + dy) h * w + clz (X + c + dx) w) := by
        unfold mvD
        rw [show ((8 * r + c : Nat) : Int) / 8 = (r : Int) by omega, show ((8 * r + c : Nat) : Int) % 8 = (c : Int) by omega]
      rw [ed, show X + ((c + 1 : Nat) : Int) = X + (c : Int) + 1 by omega]
      rfl
    · dsimp only
      unfold jd_108_s55
      rw [n_jw (z := X + 8) (by omega) (by omega), n_jw (by omega) (by omega), if_pos (by omega)]
      rfl
  have lp : wT (jd_108_l34 a (some b) dx dy thr X Y 0 Y (hh s Q I)) (fun v => 0 ≤ v ∧ v ≤ mvC G G' w h X Y dx dy ∧ (v = mvC G G' w h X Y dx dy ∨ thr < v)) := by
    unfold jd_108_l34
    refine w_lp (f := fun u : (Int × Int) => jd_108_s34 a (some b) dx dy thr X Y u.1 u.2 (hh s Q I)) (fun r u => r ≤ 8 ∧ u.2 = Y + (r : Int) ∧ u.1 = fld 0 (mvD G G' w h X Y dx dy) (8 * r) 0) 8 (fun r u hr hI => ?_) (n_fu (by decide)) ⟨by omega, by dsimp only; omega, rfl⟩
    obtain ⟨u1, u2⟩ := u
    obtain ⟨g1, g2, g3⟩ := hI
    dsimp only at g2 g3 ⊢
    subst g2 g3
    have fb := fld0_b (D := mvD G G' w h X Y dx dy) (n := 8 * r) (fun j j0 j1 => Db j j0 (by omega))
    have fm := fld0_m (D := mvD G G' w h X Y dx dy) (n := 8 * r) (k := 64 - 8 * r) (fun j j0 j1 => Db j j0 (by omega))
    rw [show 8 * r + (64 - 8 * r) = 64 by omega] at fm
    unfold jd_108_s34
    rw [n_jw (z := Y + 8) (by omega) (by omega), n_jw (z := Y + (r : Int)) (by omega) (by omega)]
    by_cases c : Y + 8 ≤ Y + (r : Int)
    · rw [if_pos c]
      have : r = 8 := by omega
      subst this
      exact ⟨_, rfl, fb.1, fm, Or.inl rfl⟩
    · rw [if_neg c, n_jw ht.1 ht.2, n_jw (by omega) (by omega)]
      by_cases c2 : thr < fld 0 (mvD G G' w h X Y dx dy) (8 * r) 0
      · rw [if_pos c2]
        exact ⟨_, rfl, fb.1, fm, Or.inr c2⟩
      · rw [if_neg c2, row r (by omega), Option.bind_some]
        exact ⟨_, rfl, by omega, by omega, by dsimp only; omega, rfl⟩
  obtain ⟨v, v1, v2⟩ := lp
  refine ⟨v, ?_, v2⟩
  unfold jd_108
  have nz : jnz (w / 8) = some () := by
    rcases PA.2.2.1 with rfl | rfl | rfl <;> decide
  rw [x_gi A.2.1.1 A.2.1.2.1, Option.bind_some, j0, m1, nz, Option.bind_some, Option.bind_some, m2, m3, Int.mul_comm (p % (w / 8)), Int.mul_comm (p / (w / 8)), hX, hY, v1, Option.bind_some]
theorem c_107 (A : PicAt s Q hm a o) (B : PicAt s Q hm b o') (h6 : s.1 ≤ 1000000) (PA : Pix I a w h G) (PB : Pix I b w h G') (p0 : 0 ≤ p) (p1 : p < w / 8 * (h / 8)) {c : Int → Int → Int} (ec : c = fun x y => mvC G G' w h (8 * (p % (w / 8))) (8 * (p / (w / 8))) x y) (hc : ∀ x y, 0 ≤ c x y ∧ c x y ≤ 20000) : jd_107 a (some b) p q (hh s Q I) = some (if jw q = 0 then (csS c 81).1 else if jw q = 1 then (csS c 81).2.1 else (csS c 81).2.2) := by
  have e08 : ∀ dx dy thr, (-4 ≤ dx ∧ dx ≤ 4) → (-4 ≤ dy ∧ dy ≤ 4) → okI thr → ∃ v, jd_108 a (some b) p dx dy thr (hh s Q I) = some v ∧ 0 ≤ v ∧ v ≤ c dx dy ∧ (v = c dx dy ∨ thr < v) := by
    intro dx dy thr hx hy ht
    rw [ec]
    exact c_108 A B h6 PA PB p0 p1 hx hy ht
  have inner : ∀ r : Nat, r < 9 → jd_107_l32 a (some b) p q ((r : Int) - 4) (csS c (9 * r)).1 (csS c (9 * r)).2.1 (csS c (9 * r)).2.2 (-4) (hh s Q I) = some (csS c (9 * (r + 1))) := by
    intro r hr
    unfold jd_107_l32
    have := w_for (f := fun u : (Int × Int × Int × Int) => jd_107_s32 a (some b) p q ((r : Int) - 4) u.1 u.2.1 u.2.2.1 u.2.2.2 (hh s Q I)) (fun k => ((csS c (9 * r + k)).1, (csS c (9 * r + k)).2.1, (csS c (9 * r + k)).2.2, (k : Int) - 4)) 9 (x := csS c (9 * (r + 1))) (fun k hk => ?_) ?_ (n_fu (by decide))
    · exact this
    · dsimp only
      obtain ⟨cx, cy, cv, g1, g2, g3, g4, -⟩ := cm c hc (9 * r + k) (by omega)
      obtain ⟨v, v1, v2, v3, v4⟩ := e08 ((k : Int) - 4) ((r : Int) - 4) cv (by omega) (by omega) (by unfold okI; omega)
      have cb := hc ((k : Int) - 4) ((r : Int) - 4)
      rw [← Nat.add_assoc, csS_s, g1, show ((9 * r + k : Nat) : Int) % 9 - 4 = (k : Int) - 4 by omega, show ((9 * r + k : Nat) : Int) / 9 - 4 = (r : Int) - 4 by omega]
      have ev : upC (cx, cy, cv) ((k : Int) - 4) ((r : Int) - 4) (c ((k : Int) - 4) ((r : Int) - 4)) = upC (cx, cy, cv) ((k : Int) - 4) ((r : Int) - 4) v := by
        rcases v4 with v4 | v4
        · rw [v4]
        · rw [upC_e g2 g3 g4 (by omega) (by omega) cb, upC_e g2 g3 g4 (by omega) (by omega) (by omega), if_neg (by omega), if_neg (by omega)]
      rw [ev]
      have hs : jd_107_s32 a (some b) p q ((r : Int) - 4) cx cy cv ((k : Int) - 4) (hh s Q I) = some (Sum.inl ((upC (cx, cy, cv) ((k : Int) - 4) ((r : Int) - 4) v).1, (upC (cx, cy, cv) ((k : Int) - 4) ((r : Int) - 4) v).2.1, (upC (cx, cy, cv) ((k : Int) - 4) ((r : Int) - 4) v).2.2, (k : Int) - 4 + 1)) := by
        unfold jd_107_s32 jd_107_b111
        rw [if_neg (show ¬ 4 < jw ((k : Int) - 4) by rw [n_jw (by omega) (by omega)]; omega), x_ck A.2.1.1 A.2.1.2.1, Option.bind_some, v1, Option.bind_some, Option.bind_some, Option.bind_some]
        rfl
      rw [show ((k + 1 : Nat) : Int) - 4 = (k : Int) - 4 + 1 by omega]
      exact hs
    · dsimp only
      unfold jd_107_s32
      rw [if_pos (by decide), show 9 * (r + 1) = 9 * r + 9 by omega]
  have outer : jd_107_l22 a (some b) p q (csS c 0).1 (csS c 0).2.1 (csS c 0).2.2 (-4) (hh s Q I) = some (csS c 81) := by
    unfold jd_107_l22
    refine w_for (f := fun u : (Int × Int × Int × Int) => jd_107_s22 a (some b) p q u.1 u.2.1 u.2.2.1 u.2.2.2 (hh s Q I)) (fun r => ((csS c (9 * r)).1, (csS c (9 * r)).2.1, (csS c (9 * r)).2.2, (r : Int) - 4)) 9 (x := csS c 81) (fun r hr => ?_) ?_ (n_fu (by decide))
    · dsimp only
      unfold jd_107_s22
      rw [n_jw (by omega) (by omega), if_neg (by omega), inner r hr, Option.bind_some, show ((r + 1 : Nat) : Int) - 4 = (r : Int) - 4 + 1 by omega]
    · dsimp only
      unfold jd_107_s22
      rw [if_pos (by decide)]
  obtain ⟨v, v1, v2, v3, v4⟩ := e08 0 0 2147483647 (by omega) (by omega) (by unfold okI; omega)
  have cb := hc 0 0
  have v5 : v = c 0 0 := by omega
  subst v5
  unfold jd_107 jd_107_b144
  rw [x_ck A.2.1.1 A.2.1.2.1, Option.bind_some, v1, Option.bind_some]
  have o2 : jd_107_l22 a (some b) p q 0 0 (c 0 0) (-4) (hh s Q I) = some (csS c 81) := outer
  rw [o2, Option.bind_some]
theorem k_354l {K K' : Int} (k0 : 0 ≤ K ∧ K < 96) (k1 : 0 ≤ K' ∧ K' < 96) (sw : isSd w) (sh : isSd h) (x0 : 0 ≤ X) (x1 : X + 8 ≤ w) (y0 : 0 ≤ Y) (y1 : Y + 8 ≤ h) {c : Int → Int → Int} (ec : c = fun x y => mvC (fun j => m 99 (864 * K + j)) (fun j => m 99 (864 * K' + j)) w h X Y x y) : jd_354_l144 q w h X Y (864 * K) (864 * K') (-1) 0 0 (-4) m = some (msS c 81) := by
  have ps := pl_sz sw sh (show (0 : Int) ≤ 0 by decide) (show (0 : Int) ≤ 2 by decide)
  obtain ⟨-, -, -, -, ct4⟩ := pl_cat sw sh
  have w24 : w ≤ 24 ∧ h ≤ 24 := by
    unfold isSd at *
    omega
  have cst : ∀ dx dy b1 b2 b3, (-4 ≤ dx ∧ dx ≤ 4) → (-4 ≤ dy ∧ dy ≤ 4) → jd_354_l166 q w h X Y (864 * K) (864 * K') b1 b2 b3 dy dx 0 0 m = some (c dx dy) := by
    intro dx dy b1 b2 b3 hx hy
    rw [ec]
    unfold jd_354_l166 mvC
    refine w_for (f := fun u : (Int × Int) => jd_354_s166 q w h X Y (864 * K) (864 * K') b1 b2 b3 dy dx u.1 u.2 m) (fun k => (fld 0 (mvD (fun j => m 99 (864 * K + j)) (fun j => m 99 (864 * K' + j)) w h X Y dx dy) k 0, (k : Int))) 64 (fun k hk => ?_) ?_ (n_fu (by decide))
    · dsimp only
      unfold jd_354_s166
      have d1 := dm_b (W := w) (H := h) (r := Y + (k : Int) / 8) (c := X + (k : Int) % 8) (by omega) (by omega) (by omega) (by omega)
      have z1 := clz_b (z := Y + (k : Int) / 8 + dy) (n := h) (by omega)
      have z2 := clz_b (z := X + (k : Int) % 8 + dx) (n := w) (by omega)
      have d2 := dm_b (W := w) (H := h) z1.1 z1.2 z2.1 z2.2
      have q1 : jd_205 (jw (Y + (k : Int) / 8 + dy)) 0 (h - 1) = clz (Y + (k : Int) / 8 + dy) h := by
        rw [n_jw (by omega) (by omega), k_205 (by omega) (by omega) (by unfold okI; omega) (by unfold okI; omega)]
        unfold clz
        repeat' split
        all_goals omega
      have q2 : jd_205 (jw (X + (k : Int) % 8 + dx)) 0 (w - 1) = clz (X + (k : Int) % 8 + dx) w := by
        rw [n_jw (by omega) (by omega), k_205 (by omega) (by omega) (by unfold okI; omega) (by unfold okI; omega)]
        unfold clz
        repeat' split
        all_goals omega
      rw [n_jw (z := (k : Int)) (by omega) (by omega), if_neg (by omega), n_div (by omega) (by omega) (by decide) (by decide), n_rem (by omega) (by omega) (by decide) (by decide), q1, q2, Int.add_assoc, Int.add_assoc, Int.mul_comm w, Int.mul_comm w, y_ma 99 82944 rfl rfl (by omega) (by omega), Option.bind_some, y_ma 99 82944 rfl rfl (by omega) (by omega), Option.bind_some, fld0_s]
      rfl
    · dsimp only
      unfold jd_354_s166
      rw [if_pos (by decide)]
  have inner : ∀ r : Nat, r < 9 → jd_354_l154 q w h X Y (864 * K) (864 * K') ((r : Int) - 4) (msS c (9 * r)).1 (msS c (9 * r)).2.1 (msS c (9 * r)).2.2 (-4) m = some (msS c (9 * (r + 1))) := by
    intro r hr
    unfold jd_354_l154
    have := w_for (f := fun u : (Int × Int × Int × Int) => jd_354_s154 q w h X Y (864 * K) (864 * K') ((r : Int) - 4) u.1 u.2.1 u.2.2.1 u.2.2.2 m) (fun k => ((msS c (9 * r + k)).1, (msS c (9 * r + k)).2.1, (msS c (9 * r + k)).2.2, (k : Int) - 4)) 9 (x := msS c (9 * (r + 1))) (fun k hk => ?_) ?_ (n_fu (by decide))
    · exact this
    · dsimp only
      rw [← Nat.add_assoc, msS_s, show ((9 * r + k : Nat) : Int) % 9 - 4 = (k : Int) - 4 by omega, show ((9 * r + k : Nat) : Int) / 9 - 4 = (r : Int) - 4 by omega]
      unfold jd_354_s154 jd_354_b314
      rw [n_jw (z := (k : Int) - 4) (by omega) (by omega), if_neg (by omega), cst _ _ _ _ _ (by omega) (by omega), Option.bind_some, show ((k + 1 : Nat) : Int) - 4 = (k : Int) - 4 + 1 by omega]
      rfl
    · dsimp only
      unfold jd_354_s154
      rw [if_pos (by decide)]
      rfl
  have outer : jd_354_l144 q w h X Y (864 * K) (864 * K') (msS c 0).1 (msS c 0).2.1 (msS c 0).2.2 (-4) m = some (msS c 81) := by
    unfold jd_354_l144
    refine w_for (f := fun u : (Int × Int × Int × Int) => jd_354_s144 q w h X Y (864 * K) (864 * K') u.1 u.2.1 u.2.2.1 u.2.2.2 m) (fun r => ((msS c (9 * r)).1, (msS c (9 * r)).2.1, (msS c (9 * r)).2.2, (r : Int) - 4)) 9 (x := msS c 81) (fun r hr => ?_) ?_ (n_fu (by decide))
    · dsimp only
      unfold jd_354_s144
      rw [n_jw (by omega) (by omega), if_neg (by omega), inner r hr, Option.bind_some, show ((r + 1 : Nat) : Int) - 4 = (r : Int) - 4 + 1 by omega]
    · dsimp only
      unfold jd_354_s144
      rw [if_pos (by decide)]
  exact outer
theorem si_movement (R : RelH s Q hm I m) (h6 : s.1 < 1000000) (hf : okI f) (hp : okI p) (hx : okI x) (hq : okI q) : SimI (jd_174 0 f p x q (hh s Q I)) (jd_354 f p x q m) (fun E => if E = 2 then 1 else if E = 0 then 2 else 0) s Q I := by
  have L := R.1
  have n8 := R.2.2.2.2.2.1.2.2.1
  have hp' : -2147483648 ≤ p ∧ p < 2147483648 := hp
  have hx' : -2147483648 ≤ x ∧ x < 2147483648 := hx
  have hq' : -2147483648 ≤ q ∧ q < 2147483648 := hq
  obtain ⟨b, hb, hbv⟩ := k_314 R hf hp
  have b31 : jd_354_b31 f p x q m = some (0, jms m 76 0 1) := by
    unfold jd_354_b31
    rw [Option.bind_some, jms_e, if_neg (by decide)]
  have b53 : ∀ c : Int, c = 1 ∨ c = 2 → jd_354_b53 f p x q c m = some (0, jms m 76 0 c) := by
    intro c hc
    unfold jd_354_b53
    rcases hc with rfl | rfl
    · rw [Option.bind_some, jms_e, if_neg (by decide)]
    · rw [Option.bind_some, jms_e, if_neg (by decide)]
  rcases hbv with ⟨c, rfl⟩ | ⟨c, rfl⟩
  · obtain ⟨a, ea, ha, F, C⟩ := c_195 R hf c.1.1 c.1.2
    obtain ⟨k, d, ed, k0, k1, kp, ko, hd, D, PX⟩ := c_192 F C (by omega) hp c.2.1 c.2.2
    have n12 := C.2.2.2.1.2.1
    have c1 := c.1
    have c2 := c.2
    by_cases cz : p = 0
    · refine SimI_th (E := 2) (b := 0) R ?_ ?_ (by decide)
      · unfold jd_174
        rw [y_ck L 0 11 rfl rfl, Option.bind_some, ea, b_jtb, ed, b_jtb, n_jw hp.1 hp.2, if_pos cz, x_6 h6, Option.bind_some]
      · unfold jd_354
        rw [hb, Option.bind_some, if_neg (by decide), n_jw hp.1 hp.2, if_pos cz, b31]
        rfl
    · have k16 := k_316 C ⟨c1.1, by omega⟩
      have np := n_pts C.2.1.1 C.2.1.2.1
      have preM : jd_354 f p x q m = jd_354_b53 f p x q (if 0 ≤ x ∧ x < m 84 f / 8 * (m 85 f / 8) then (if 0 ≤ q ∧ q ≤ 2 then 0 else 2) else 1) m := by
        unfold jd_354
        rw [hb, Option.bind_some, if_neg (by decide), n_jw hp.1 hp.2, if_neg cz, k16, Option.bind_some, n_jw hx.1 hx.2, n_jw hq.1 hq.2, n_jw (z := m 84 f / 8 * (m 85 f / 8) - 1) (by omega) (by omega), x_in (by omega) (by omega) (by decide) (by decide) (by omega) (by omega), x_in (by omega) (by omega) (by decide) (by decide) (by decide) (by decide)]
        by_cases g1 : 0 ≤ x ∧ x < m 84 f / 8 * (m 85 f / 8)
        · rw [if_pos (show 0 ≤ x ∧ x ≤ m 84 f / 8 * (m 85 f / 8) - 1 by omega), if_neg (by decide), if_pos g1]
          by_cases g2 : 0 ≤ q ∧ q ≤ 2
          · rw [if_pos g2, if_neg (by decide), if_pos g2]
          · rw [if_neg g2, if_pos rfl, if_neg g2]
        · rw [if_neg (show ¬ (0 ≤ x ∧ x ≤ m 84 f / 8 * (m 85 f / 8) - 1) by omega), if_pos rfl, if_neg g1]
      by_cases g1 : 0 ≤ x ∧ x < m 84 f / 8 * (m 85 f / 8)
      · rw [if_pos g1] at preM
        by_cases g2 : 0 ≤ q ∧ q ≤ 2
        · rw [if_pos g2] at preM
          obtain ⟨k', d', ed', k0', k1', kp', ko', hd', D', PX'⟩ := c_192 F C (by omega) (p := p - 1) (by unfold okI; omega) (by omega) (by omega)
          have ck := k_318f R C c.1 c.2.1 c.2.2 k0 k1 kp (m' := jms m 76 0 0) rfl
          have ck' := k_318f R C c.1 (p := p - 1) (by omega) (by omega) k0' k1' kp' (m' := jms m 76 0 0) rfl
          obtain ⟨m1, m2, m3, m4, m5, m6, m7, m8, m9⟩ := mv_b C.2.1.1 C.2.1.2.1 g1.1 g1.2
          obtain ⟨cc, ec⟩ : ∃ cc : Int → Int → Int, cc = fun u v => mvC (fun j => m 99 (864 * (12 * f + k) + j)) (fun j => m 99 (864 * (12 * f + k') + j)) (m 84 f) (m 85 f) (8 * (x % (m 84 f / 8))) (8 * (x / (m 84 f / 8))) u v := ⟨_, rfl⟩
          have hc : ∀ u v, 0 ≤ cc u v ∧ cc u v ≤ 20000 := by
            intro u v
            have := fld0_b (n := 64) (D := mvD (fun j => m 99 (864 * (12 * f + k) + j)) (fun j => m 99 (864 * (12 * f + k') + j)) (m 84 f) (m 85 f) (8 * (x % (m 84 f / 8))) (8 * (x / (m 84 f / 8))) u v) (fun j j0 j1 => mvD_b (fun k k0 k1 => (Pix0 PX k k0 k1).2) (fun k k0 k1 => (Pix0 PX' k k0 k1).2) m4 m5 m6 m7 j j0 (by omega))
            have e : cc u v = fld 0 (mvD (fun j => m 99 (864 * (12 * f + k) + j)) (fun j => m 99 (864 * (12 * f + k') + j)) (m 84 f) (m 85 f) (8 * (x % (m 84 f / 8))) (8 * (x / (m 84 f / 8))) u v) 64 0 := by rw [ec]; rfl
            rw [e]
            omega
          have e107 := c_107 (q := q) D D' (by omega) PX PX' g1.1 g1.2 ec hc
          have l54 := k_354l (m := jms m 76 0 0) (q := q) (K := 12 * f + k) (K' := 12 * f + k') (by omega) (by omega) C.2.1.1 C.2.1.2.1 m4 m5 m6 m7 (c := cc) ec
          obtain ⟨cx, cy, cv, y1, y2, y3, y4, y5⟩ := cm cc hc 81 (by omega)
          have y6 : msS cc 81 = (cv, cx, cy) := by
            rcases y5 with h | ⟨h, -⟩
            · exact h
            · omega
          refine SimI_id (v := if q = 0 then cx else if q = 1 then cy else cv) (b := if q = 0 then cx else if q = 1 then cy else cv) R ?_ ?_ rfl
          · unfold jd_174
            rw [y_ck L 0 11 rfl rfl, Option.bind_some, ea, b_jtb, ed, b_jtb, n_jw hp.1 hp.2, if_neg cz, (c_189 F C hx).1 g1, b_jtb, (c_185 hq (q := 2) (by unfold okI; omega) _).1 g2, b_jtb, ed', b_jtb, x_ck D.2.1.1 D.2.1.2.1, Option.bind_some, e107, Option.bind_some, y1, n_jw hq.1 hq.2]
          · rw [preM]
            unfold jd_354_b53 jd_354_b371
            have q4 : jms m 76 0 0 84 f = m 84 f := rfl
            have q5 : jms m 76 0 0 85 f = m 85 f := rfl
            have nz : jnz (m 84 f / 8) = some () := by
              rcases C.2.1.1 with e | e | e <;> rw [e] <;> decide
            rw [Option.bind_some, jms_e, if_pos (by decide), y_ma 84 8 rfl rfl c1.1 (by omega), Option.bind_some, y_ma 85 8 rfl rfl c1.1 (by omega), Option.bind_some, q4, q5, m1, nz, Option.bind_some, Option.bind_some, ck, Option.bind_some, ck', Option.bind_some, m2, m3, l54, Option.bind_some, y6, n_jw hq.1 hq.2]
        · rw [if_neg g2] at preM
          refine SimI_th (E := 0) (b := 0) R ?_ (preM.trans (b53 2 (Or.inr rfl))) (by decide)
          unfold jd_174
          rw [y_ck L 0 11 rfl rfl, Option.bind_some, ea, b_jtb, ed, b_jtb, n_jw hp.1 hp.2, if_neg cz, (c_189 F C hx).1 g1, b_jtb, (c_185 hq (q := 2) (by unfold okI; omega) _).2 g2 h6, b_jtx]
      · rw [if_neg g1] at preM
        refine SimI_th (E := 2) (b := 0) R ?_ (preM.trans (b53 1 (Or.inl rfl))) (by decide)
        unfold jd_174
        rw [y_ck L 0 11 rfl rfl, Option.bind_some, ea, b_jtb, ed, b_jtb, n_jw hp.1 hp.2, if_neg cz, (c_189 F C hx).2 g1 h6, b_jtx]
  · refine SimI_th (E := 2) (b := 0) R ?_ ?_ (by decide)
    · unfold jd_174
      rw [y_ck L 0 11 rfl rfl, Option.bind_some]
      by_cases c1 : 0 ≤ f ∧ f < m 76 12
      · obtain ⟨a, ea, ha, F, C⟩ := c_195 R hf c1.1 c1.2
        rw [ea, b_jtb, c_192n F C h6 hp (fun e => c ⟨c1, e⟩), b_jtx]
      · rw [c_195n R h6 hf c1, b_jtx]
    · unfold jd_354
      rw [hb, Option.bind_some, if_pos (show jw 0 = 0 by decide), b31]
      rfl
end Move
