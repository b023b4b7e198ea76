/-! fill -/
def rcf (f : Int → Int) (b W v x x' y y' : Int) (r c : Int) : Int → Int := fun j => if b ≤ j ∧ (y ≤ (j - b) / W ∧ (j - b) / W < y' ∧ x ≤ (j - b) % W ∧ (j - b) % W < x') ∧ ((j - b) / W < r ∨ ((j - b) / W = r ∧ (j - b) % W < c)) then v else f j
section Rcf
variable {f : Int → Int} {b W H v x x' y y' r c j : Int}
theorem if_c {A : Type} {p q : Prop} {Dp : Decidable p} {Dq : Decidable q} {u v : A} (h : p ↔ q) : @ite A p Dp u v = @ite A q Dq u v := by
  by_cases hp : p
  · rw [if_pos hp, if_pos (h.mp hp)]
  · rw [if_neg hp, if_neg (fun e => hp (h.mpr e))]
theorem rcf_step (hW : 0 < W) (c0 : 0 ≤ c) (c1 : c < W) (r0 : 0 ≤ r) (hin : y ≤ r ∧ r < y' ∧ x ≤ c ∧ c < x') : jiu (rcf f b W v x x' y y' r c) (b + r * W + c) v = rcf f b W v x x' y y' r (c + 1) := by
  funext j
  unfold jiu rcf
  have d := dm (W := W) (k := j - b) (r := r) (c := c) hW c0 c1
  have hn : 0 ≤ r * W := Int.mul_nonneg r0 (by omega)
  by_cases h : j = b + r * W + c
  · have := d.mp (by omega)
    rw [if_pos h, if_pos ⟨by omega, by omega, by omega⟩]
  · have h2 : ¬ ((j - b) / W = r ∧ (j - b) % W = c) := fun e => h (by have := d.mpr e; omega)
    rw [if_neg h]
    generalize (j - b) / W = q at *
    generalize (j - b) % W = t at *
    exact if_c (by omega)
theorem rcf_skip (hin : ¬ (y ≤ r ∧ r < y' ∧ x ≤ c ∧ c < x')) : rcf f b W v x x' y y' r c = rcf f b W v x x' y y' r (c + 1) := by
  funext j
  unfold rcf
  generalize (j - b) / W = q at *
  generalize (j - b) % W = t at *
  exact if_c (by omega)
theorem rcf_lo (hc : c ≤ 0 ∨ c ≤ x) (hW : 0 < W) : rcf f b W v x x' y y' r c = rcf f b W v x x' y y' r 0 := by
  funext j
  unfold rcf
  have := Int.emod_nonneg (j - b) (show W ≠ 0 by omega)
  generalize (j - b) / W = q at *
  generalize (j - b) % W = t at *
  exact if_c (by omega)
theorem rcf_hi (hc : W ≤ c ∨ x' ≤ c) (hW : 0 < W) : rcf f b W v x x' y y' r c = rcf f b W v x x' y y' (r + 1) 0 := by
  funext j
  unfold rcf
  have h1 := Int.emod_nonneg (j - b) (show W ≠ 0 by omega)
  have h2 := Int.emod_lt_of_pos (j - b) hW
  generalize (j - b) / W = q at *
  generalize (j - b) % W = t at *
  exact if_c (by omega)
theorem rcf_0 (hr : r ≤ 0 ∨ r ≤ y) (hW : 0 < W) : rcf f b W v x x' y y' r 0 = f := by
  funext j
  unfold rcf
  have h1 := Int.emod_nonneg (j - b) (show W ≠ 0 by omega)
  by_cases h : b ≤ j
  · have h3 : 0 ≤ (j - b) / W := Int.ediv_nonneg (by omega) (by omega)
    exact if_neg (by omega)
  · exact if_neg (fun e => h e.1)
theorem rcf_val {k : Int} (hW : 0 < W) (k0 : 0 ≤ k) (k1 : k < W * H) (hr : ∀ q : Int, y ≤ q → q < y' → q < H → q < r) : rcf f b W v x x' y y' r 0 (b + k) = if y ≤ k / W ∧ k / W < y' ∧ x ≤ k % W ∧ k % W < x' then v else f (b + k) := by
  unfold rcf
  obtain ⟨d1, d2, d3, d4⟩ := dm_r hW k0 k1
  rw [show b + k - b = k by omega]
  have := hr (k / W)
  generalize k / W = q at *
  generalize k % W = t at *
  exact if_c (by omega)
theorem rcf_out (hW : 0 < W) (hH : 0 ≤ H) (hr : ∀ q : Int, y ≤ q → q < r → q < H) (hj : j < b ∨ b + W * H ≤ j) : rcf f b W v x x' y y' r 0 j = f j := by
  unfold rcf
  refine if_neg (fun e => ?_)
  obtain ⟨e1, e2, e3⟩ := e
  have h1 := Int.emod_nonneg (j - b) (show W ≠ 0 by omega)
  have hq := hr ((j - b) / W) e2.1 (by omega)
  rcases hj with hj | hj
  · omega
  · have h2 : H ≤ (j - b) / W := by
      rw [Int.le_ediv_iff_mul_le hW, Int.mul_comm]
      omega
    omega
end Rcf
section Fill
variable {s : hS} {Q : hQ} {hm : hO} {I m : jM} {a : Nat} {p q x y w h v W H B : Int}
/-- how many of 0 .. k-1 are in [lo, hi) -/
def cnt (lo hi k : Int) : Int := if hi ≤ lo then 0 else if k ≤ lo then 0 else if k ≤ hi then k - lo else hi - lo
theorem c_fi0 {o c0 x' c1 y' n0 r : Int} {J : jM} (A : PicAt s Q hm a o) (h6 : s.1 ≤ 1000000) (jw0 : J a 0 = w) (sw : isSd w) (sh : isSd h) (q0 : 0 ≤ q) (q2 : q ≤ 2) (hc0 : 0 ≤ c0) (hc0' : x ≤ c0) (hc1 : c1 ≤ pw w q) (hc1' : c1 ≤ x') (hb1 : -9000000000000000000 ≤ c1) (hb2 : c0 < 2147483648) (r0 : 0 ≤ r) (r1 : r < pw h q) (ry : y ≤ r ∧ r < y') {x3 x11 : Int} {f : Int → Int} (e : J (a + 1) = rcf f (pb w h q) (pw w q) v x x' y y' r c0) : jd_141_l108 0 q x3 v (some a) c1 x11 (pb w h q) r n0 c0 (hh s Q J) = some (n0 + cnt c0 c1 c1, hh s Q (ims J (a + 1) (rcf f (pb w h q) (pw w q) v x x' y y' r (if c1 ≤ c0 then c0 else c1)))) := by
  have hq : okI q := by unfold okI; omega
  have b := pl_sz sw sh q0 q2
  have bw := pw_sd sw q
  obtain ⟨l1, l2, l3⟩ := Pic_ar A
  have e2 : Q a ((2 : Nat) : Int) = some (a + 1) := A.2.2.2
  have hne : a ≠ a + 1 := by omega
  unfold jd_141_l108
  have ex : (c1 - c0).toNat = (if c1 ≤ c0 then 0 else (c1 - c0).toNat) := by split <;> omega
  have := w_for (f := fun u : (Int × Int × jH) => jd_141_s108 0 q x3 v (some a) c1 x11 (pb w h q) r u.1 u.2.1 u.2.2) (fun k => (n0 + (k : Int), c0 + (k : Int), hh s Q (ims J (a + 1) (rcf f (pb w h q) (pw w q) v x x' y y' r (c0 + (k : Int)))))) (c1 - c0).toNat (x := (n0 + cnt c0 c1 c1, hh s Q (ims J (a + 1) (rcf f (pb w h q) (pw w q) v x x' y y' r (if c1 ≤ c0 then c0 else c1))))) (fun k hk => ?_) ?_ (n_fu (n := (c1 - c0).toNat) (by omega))
  · rw [show ((0 : Nat) : Int) = 0 from rfl, Int.add_zero, Int.add_zero, ← e, ims_self] at this
    exact this
  · dsimp only
    unfold jd_141_s108
    have hj0 : ims J (a + 1) (rcf f (pb w h q) (pw w q) v x x' y y' r (c0 + (k : Int))) a 0 = w := by rw [ims_o hne]; exact jw0
    have hb := dm_b (W := pw w q) (H := pw h q) (r := r) (c := c0 + k) r0 r1 (by omega) (by omega)
    rw [n_jwl (by omega) (by omega), n_jw (by omega) (by omega), if_neg (by omega), Option.bind_some, x_gr A.2.1.1 A.2.1.2.1, Option.bind_some, Option.bind_some, x_ck A.2.1.1 A.2.1.2.1, Option.bind_some, c_96 A.2.1.1 A.2.1.2.1 hj0 sw hq, Option.bind_some, e2, Option.bind_some, x_ta l1 l2 (by omega) (by rw [l3]; omega) (by rw [l3]; decide), Option.bind_some, ims_jms, rcf_step (by omega) (by omega) (by omega) r0 ⟨ry.1, ry.2, by omega, by omega⟩]
    rw [show ((k + 1 : Nat) : Int) = (k : Int) + 1 from by omega, show c0 + ((k : Int) + 1) = c0 + (k : Int) + 1 by omega, show n0 + ((k : Int) + 1) = n0 + (k : Int) + 1 by omega]
  · dsimp only
    unfold jd_141_s108
    rw [n_jwl (by omega) (by omega), n_jw (by omega) (by omega), if_pos (by omega)]
    have e5 : n0 + (((c1 - c0).toNat : Nat) : Int) = n0 + cnt c0 c1 c1 := by unfold cnt; split <;> (try split) <;> omega
    have e6 : c0 + (((c1 - c0).toNat : Nat) : Int) = (if c1 ≤ c0 then c0 else c1) := by split <;> omega
    rw [e5, e6]
theorem c_fo {o c0 x' c1 y' r0 r1 : Int} {G : Int → Int} (A : PicAt s Q hm a o) (h6 : s.1 ≤ 1000000) (X : Pix I a w h G) (q0 : 0 ≤ q) (q2 : q ≤ 2) (hx : okI x) (hc0 : (x ≤ 0 ∧ c0 = 0) ∨ (0 < x ∧ c0 = x)) (hc1 : (x' ≤ pw w q ∧ c1 = x') ∨ (pw w q < x' ∧ c1 = pw w q)) (hr0 : (y ≤ 0 ∧ r0 = 0) ∨ (0 < y ∧ r0 = y)) (hr1 : (y' ≤ pw h q ∧ r1 = y') ∨ (pw h q < y' ∧ r1 = pw h q)) (hb1 : -9000000000000000000 ≤ x') (hb2 : -9000000000000000000 ≤ y') (hy : okI y) : jd_141_l92 0 q x v (some a) c1 r1 (pb w h q) 0 r0 (hh s Q I) = some ((((r1 - r0).toNat : Nat) : Int) * cnt c0 c1 c1, hh s Q (ims I (a + 1) (rcf (I (a + 1)) (pb w h q) (pw w q) v x x' y y' (r0 + (((r1 - r0).toNat : Nat) : Int)) 0))) := by
  have hx' : -2147483648 ≤ x ∧ x < 2147483648 := hx
  have hy' : -2147483648 ≤ y ∧ y < 2147483648 := hy
  have b := pl_sz X.2.2.1 X.2.2.2.1 q0 q2
  have bw := pw_sd X.2.2.1 q
  have bh := pw_sd X.2.2.2.1 q
  have hne : a ≠ a + 1 := by omega
  unfold jd_141_l92
  have := w_for (f := fun u : (Int × Int × jH) => jd_141_s92 0 q x v (some a) c1 r1 (pb w h q) u.1 u.2.1 u.2.2) (fun k => ((k : Int) * cnt c0 c1 c1, r0 + (k : Int), hh s Q (ims I (a + 1) (rcf (I (a + 1)) (pb w h q) (pw w q) v x x' y y' (r0 + (k : Int)) 0)))) (r1 - r0).toNat (x := ((((r1 - r0).toNat : Nat) : Int) * cnt c0 c1 c1, hh s Q (ims I (a + 1) (rcf (I (a + 1)) (pb w h q) (pw w q) v x x' y y' (r0 + (((r1 - r0).toNat : Nat) : Int)) 0)))) (fun k hk => ?_) ?_ (n_fu (n := (r1 - r0).toNat) (by omega))
  · rw [show ((0 : Nat) : Int) = 0 from rfl, Int.add_zero, Int.zero_mul, rcf_0 (by omega) (by omega), ims_self] at this
    exact this
  · dsimp only
    unfold jd_141_s92
    have ez : (if jw x < jw 0 then (0 : Int) else x) = c0 := by
      rw [n_jw hx.1 hx.2, show jw 0 = 0 by decide]
      split <;> omega
    have hw : ims I (a + 1) (rcf (I (a + 1)) (pb w h q) (pw w q) v x x' y y' (r0 + (k : Int)) 0) a = I a := ims_o hne
    rw [n_jwl (by omega) (by omega), n_jw (by omega) (by omega), if_neg (by omega), Option.bind_some, ez]
    have key2 : ∀ (J : jM), J a = I a → J (a + 1) = rcf (I (a + 1)) (pb w h q) (pw w q) v x x' y y' (r0 + k) c0 → jd_141_l108 0 q x v (some a) c1 r1 (pb w h q) (r0 + k) ((k : Int) * cnt c0 c1 c1) c0 (hh s Q J) = some ((k : Int) * cnt c0 c1 c1 + cnt c0 c1 c1, hh s Q (ims J (a + 1) (rcf (I (a + 1)) (pb w h q) (pw w q) v x x' y y' (r0 + k) (if c1 ≤ c0 then c0 else c1)))) := by
      intro J j1 j2
      exact c_fi0 A h6 (by rw [j1]; exact X.1) X.2.2.1 X.2.2.2.1 q0 q2 (by omega) (by omega) (by omega) (by omega) (by omega) (by omega) (by omega) (by omega) (by omega) j2
    rw [key2 _ hw (by rw [ims_e, rcf_lo (c := c0) (by omega) (by omega)]), Option.bind_some, ims_ims, rcf_hi (c := if c1 ≤ c0 then c0 else c1) (by split <;> omega) (by omega)]
    dsimp only
    rw [show ((k + 1 : Nat) : Int) = (k : Int) + 1 from by omega, show r0 + ((k : Int) + 1) = r0 + (k : Int) + 1 by omega, Int.add_mul, Int.one_mul]
  · dsimp only
    unfold jd_141_s92
    rw [n_jwl (by omega) (by omega), n_jw (by omega) (by omega), if_pos (by omega)]
end Fill
