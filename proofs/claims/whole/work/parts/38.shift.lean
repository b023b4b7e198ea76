/-! shift -/
def clz (z n : Int) : Int := if z < 0 then 0 else if n ≤ z then n - 1 else z
theorem clz_b {z n : Int} (hn : 1 ≤ n) : 0 ≤ clz z n ∧ clz z n < n := by unfold clz; repeat' split
                                                                         all_goals omega
theorem n_div2 {z : Int} (h0 : -2147483648 ≤ z) (h1 : z < 2147483648) : (0 ≤ z → jdiv z 2 = z / 2) ∧ (z < 0 → jdiv z 2 = -(-z / 2)) := by
  unfold jdiv
  rw [n_jw h0 h1, show jw 2 = 2 by decide]
  refine ⟨fun h => Int.tdiv_eq_ediv_of_nonneg h, fun h => ?_⟩
  have e : z.tdiv 2 = -((-z).tdiv 2) := by rw [Int.neg_tdiv, Int.neg_neg]
  rw [e, Int.tdiv_eq_ediv_of_nonneg (by omega)]
theorem n_div2b {z : Int} (h0 : -1000 ≤ z) (h1 : z ≤ 1000) : -1000 ≤ jdiv z 2 ∧ jdiv z 2 ≤ 1000 := by
  obtain ⟨a, b⟩ := n_div2 (z := z) (by omega) (by omega)
  by_cases h : 0 ≤ z
  · rw [a h]; omega
  · rw [b (by omega)]; omega
/-- three planes, each sample by a rule -/
def pl3 (f B : Int → Int) (w h : Int) (F : Int → Int → Int) : Int → Int := seqf (seqf (seqf f (B 0) (fun k _ => F 0 k) (pw w 0 * pw h 0)) (B 1) (fun k _ => F 1 k) (pw w 1 * pw h 1)) (B 2) (fun k _ => F 2 k) (pw w 2 * pw h 2)
section Pl3
variable {f B : Int → Int} {w h q k lo hi j : Int} {F : Int → Int → Int}
theorem pl3_at (sw : isSd w) (sh : isSd h) (hB : B 0 + pw w 0 * pw h 0 ≤ B 1 ∧ B 1 + pw w 1 * pw h 1 ≤ B 2) (q0 : 0 ≤ q) (q2 : q ≤ 2) (k0 : 0 ≤ k) (k1 : k < pw w q * pw h q) : pl3 f B w h F (B q + k) = F q k := by
  have b0 := pl_sz sw sh (p := 0) (by decide) (by decide)
  have b1 := pl_sz sw sh (p := 1) (by decide) (by decide)
  have hq : q = 0 ∨ q = 1 ∨ q = 2 := by omega
  unfold pl3
  rcases hq with rfl | rfl | rfl
  · rw [seqf_lo (by omega), seqf_lo (by omega), seqf_k k0 k1]
  · rw [seqf_lo (by omega), seqf_k k0 k1]
  · rw [seqf_k k0 k1]
theorem pl3_out (sw : isSd w) (sh : isSd h) (hB : lo ≤ B 0 ∧ B 0 + pw w 0 * pw h 0 ≤ B 1 ∧ B 1 + pw w 1 * pw h 1 ≤ B 2 ∧ B 2 + pw w 2 * pw h 2 ≤ hi) (hj : ¬ (lo ≤ j ∧ j < hi)) : pl3 f B w h F j = f j := by
  have b0 := pl_sz sw sh (p := 0) (by decide) (by decide)
  have b1 := pl_sz sw sh (p := 1) (by decide) (by decide)
  have b2 := pl_sz sw sh (p := 2) (by decide) (by decide)
  unfold pl3
  by_cases hl : j < lo
  · rw [seqf_lo (by omega), seqf_lo (by omega), seqf_lo (by omega)]
  · rw [seqf_at (by omega), seqf_at (by omega), seqf_at (by omega)]
end Pl3
section Shift
variable {s : hS} {Q : hQ} {hm : hO} {I J m : jM} {a b : Nat} {p q x y w h dx dy o o' : Int}
/-- nearest -/
theorem c_103 {u v : Int} (A : PicAt s Q hm a o) (h6 : s.1 ≤ 1000000) (hw : I a 0 = w) (hv : I a 1 = h) (sw : isSd w) (sh : isSd h) (q0 : 0 ≤ q) (q2 : q ≤ 2) (u0 : -9000000000000000000 ≤ u) (u1 : u < 9000000000000000000) (v0 : -9000000000000000000 ≤ v) (v1 : v < 9000000000000000000) : jd_103 a q u v (hh s Q I) = some (I (a + 1) (pb w h q + (clz v (pw h q) * pw w q + clz u (pw w q)))) := by
  have hq : okI q := by unfold okI; omega
  have b := pl_sz sw sh q0 q2
  have bw := pw_sd sw q
  have bh := pw_sd sh q
  obtain ⟨l1, l2, l3⟩ := Pic_ar A
  have e2 : Q a ((2 : Nat) : Int) = some (a + 1) := A.2.2.2
  have k1 := clz_b (z := u) (n := pw w q) (by omega)
  have k2 := clz_b (z := v) (n := pw h q) (by omega)
  have hb := dm_b (W := pw w q) (H := pw h q) k2.1 k2.2 k1.1 k1.2
  have eu : (if 0 ≤ u then (if u < pw w q then u else pw w q - 1) else 0) = clz u (pw w q) := by
    unfold clz
    repeat' split
    all_goals omega
  have ev : (if 0 ≤ v then (if v < pw h q then v else pw h q - 1) else 0) = clz v (pw h q) := by
    unfold clz
    repeat' split
    all_goals omega
  unfold jd_103 jd_103_b41 jd_103_b73
  rw [x_ck A.2.1.1 A.2.1.2.1, Option.bind_some, c_96 A.2.1.1 A.2.1.2.1 hw sw hq, Option.bind_some, Option.bind_some, c_97 A.2.1.1 A.2.1.2.1 hv sh hq, Option.bind_some, x_gr A.2.1.1 A.2.1.2.1, Option.bind_some, Option.bind_some, c_98 A.2.1.1 A.2.1.2.1 hw hv sw sh hq, Option.bind_some, e2, Option.bind_some, n_jwl (z := u) (by omega) (by omega), n_jwl (z := v) (by omega) (by omega), n_jw (z := pw w q) (by omega) (by omega), n_jw (z := pw h q) (by omega) (by omega), eu, ev, show pb w h q + clz v (pw h q) * pw w q + clz u (pw w q) = pb w h q + (clz v (pw h q) * pw w q + clz u (pw w q)) by omega, x_ai l1 h6 l2 (by omega) (by rw [l3]; omega) (by rw [l3]; decide), Option.bind_some]
/-- where a shifted sample comes from -/
def shF (w h : Int) (ox oy : Int → Int) (q k : Int) : Int := clz (k / pw w q - oy q) (pw h q) * pw w q + clz (k % pw w q - ox q) (pw w q)
def shO (d q : Int) : Int := if q = 0 then d else jdiv d 2
theorem shO_b (h0 : -1000 ≤ dx) (h1 : dx ≤ 1000) (q : Int) : -1000 ≤ shO dx q ∧ shO dx q ≤ 1000 := by
  unfold shO
  split
  · exact ⟨h0, h1⟩
  · exact n_div2b h0 h1
/-- a row of the class's new picture -/
theorem c_shr {r : Int} {f : Int → Int} {F : Int → Int} (A : PicAt s Q hm a o) (B : PicAt s Q hm b o') (h6 : s.1 ≤ 1000000) (hab : a ≠ b + 1) (hab' : a + 1 ≠ b + 1) (aw : I a 0 = w) (ah : I a 1 = h) (bw' : I b 0 = w) (sw : isSd w) (sh : isSd h) (q0 : 0 ≤ q) (q2 : q ≤ 2) (d0 : -1000 ≤ shO dx q ∧ shO dx q ≤ 1000) (d1 : -1000 ≤ shO dy q ∧ shO dy q ≤ 1000) (r0 : 0 ≤ r) (r1 : r < pw h q) (hF : ∀ k, F k = I (a + 1) (pb w h q + shF w h (shO dx) (shO dy) q k)) (e : I (b + 1) = seqf f (pb w h q) (fun k _ => F k) (r * pw w q)) : jd_143_l130 0 dx dy (some a) (some b) q (shO dx q) (shO dy q) r (pb w h q + r * pw w q) 0 (hh s Q I) = some (pb w h q + (r + 1) * pw w q, hh s Q (ims I (b + 1) (seqf f (pb w h q) (fun k _ => F k) ((r + 1) * pw w q)))) := by
  have hq : okI q := by unfold okI; omega
  have bs := pl_sz sw sh q0 q2
  have bw := pw_sd sw q
  have bh := pw_sd sh q
  obtain ⟨l1, l2, l3⟩ := Pic_ar B
  have e2 : Q b ((2 : Nat) : Int) = some (b + 1) := B.2.2.2
  have hbb : b ≠ b + 1 := by omega
  have rw0 : 0 ≤ r * pw w q := Int.mul_nonneg r0 (by omega)
  unfold jd_143_l130
  have := w_for (f := fun u : (Int × Int × jH) => jd_143_s130 0 dx dy (some a) (some b) q (shO dx q) (shO dy q) r u.1 u.2.1 u.2.2) (fun k => (pb w h q + (r * pw w q + (k : Int)), (k : Int), hh s Q (ims I (b + 1) (seqf f (pb w h q) (fun k _ => F k) (r * pw w q + (k : Int)))))) (pw w q).toNat (x := (pb w h q + (r + 1) * pw w q, hh s Q (ims I (b + 1) (seqf f (pb w h q) (fun k _ => F k) ((r + 1) * pw w q))))) (fun k hk => ?_) ?_ (n_fu (n := (pw w q).toNat) (by omega))
  · rw [show ((0 : Nat) : Int) = 0 from rfl, Int.add_zero, ← e, ims_self] at this
    exact this
  · dsimp only
    unfold jd_143_s130
    have hb := dm_b (W := pw w q) (H := pw h q) (r := r) (c := (k : Int)) r0 r1 (by omega) (by omega)
    have hd := (dm (W := pw w q) (k := r * pw w q + (k : Int)) (r := r) (c := (k : Int)) (by omega) (by omega) (by omega)).mp rfl
    have g : ∀ c, c ≠ b + 1 → ims I (b + 1) (seqf f (pb w h q) (fun k _ => F k) (r * pw w q + (k : Int))) c = I c := fun c hc => ims_o hc
    have key := c_103 (I := ims I (b + 1) (seqf f (pb w h q) (fun k _ => F k) (r * pw w q + (k : Int)))) (u := (k : Int) - shO dx q) (v := r - shO dy q) A h6 (by rw [g a hab]; exact aw) (by rw [g a hab]; exact ah) sw sh q0 q2 (by omega) (by omega) (by omega) (by omega)
    rw [Option.bind_some, x_ck B.2.1.1 B.2.1.2.1, Option.bind_some, c_96 B.2.1.1 B.2.1.2.1 (by rw [g b hbb]; exact bw') sw hq, Option.bind_some, n_jw (z := pw w q) (by omega) (by omega), n_jw (z := (k : Int)) (by omega) (by omega), if_neg (by omega), Option.bind_some, x_gr B.2.1.1 B.2.1.2.1, Option.bind_some, Option.bind_some, x_ck A.2.1.1 A.2.1.2.1, Option.bind_some, n_jw (z := (k : Int) - shO dx q) (by omega) (by omega), n_jw (z := r - shO dy q) (by omega) (by omega), key, Option.bind_some, e2, Option.bind_some, x_ta l1 l2 (by omega) (by rw [l3]; omega) (by rw [l3]; decide), Option.bind_some, ims_jms, g _ hab']
    have st := seqf_s (f := f) (b := pb w h q) (F := fun k _ => F k) (k := r * pw w q + (k : Int)) (by omega)
    have eF : F (r * pw w q + (k : Int)) = I (a + 1) (pb w h q + (clz (r - shO dy q) (pw h q) * pw w q + clz ((k : Int) - shO dx q) (pw w q))) := by
      rw [hF]
      unfold shF
      rw [hd.1, hd.2]
    rw [show ((k + 1 : Nat) : Int) = (k : Int) + 1 from by omega, show r * pw w q + ((k : Int) + 1) = r * pw w q + (k : Int) + 1 by omega, ← st, ← eF, show pb w h q + (r * pw w q + (k : Int) + 1) = pb w h q + (r * pw w q + (k : Int)) + 1 by omega]
  · dsimp only
    unfold jd_143_s130
    have g : ims I (b + 1) (seqf f (pb w h q) (fun k _ => F k) (r * pw w q + (((pw w q).toNat : Nat) : Int))) b = I b := ims_o hbb
    rw [Option.bind_some, x_ck B.2.1.1 B.2.1.2.1, Option.bind_some, c_96 B.2.1.1 B.2.1.2.1 (by rw [g]; exact bw') sw hq, Option.bind_some, n_jw (z := pw w q) (by omega) (by omega), n_jw (by omega) (by omega), if_pos (by omega), show (((pw w q).toNat : Nat) : Int) = pw w q by omega, Int.add_mul, Int.one_mul]
/-- a plane of the class's new picture -/
theorem c_shp {F : Int → Int} (A : PicAt s Q hm a o) (B : PicAt s Q hm b o') (h6 : s.1 ≤ 1000000) (hab : a ≠ b + 1) (hab' : a + 1 ≠ b + 1) (aw : I a 0 = w) (ah : I a 1 = h) (bw' : I b 0 = w) (bh' : I b 1 = h) (sw : isSd w) (sh : isSd h) (q0 : 0 ≤ q) (q2 : q ≤ 2) (d0 : -1000 ≤ shO dx q ∧ shO dx q ≤ 1000) (d1 : -1000 ≤ shO dy q ∧ shO dy q ≤ 1000) (hF : ∀ k, F k = I (a + 1) (pb w h q + shF w h (shO dx) (shO dy) q k)) : jd_143_l115 0 dx dy (some a) (some b) q (shO dx q) (shO dy q) (pb w h q) 0 (hh s Q I) = some (hh s Q (ims I (b + 1) (seqf (I (b + 1)) (pb w h q) (fun k _ => F k) (pw w q * pw h q)))) := by
  have hq : okI q := by unfold okI; omega
  have bh := pw_sd sh q
  have hbb : b ≠ b + 1 := by omega
  unfold jd_143_l115
  have := w_for (f := fun u : (Int × Int × jH) => jd_143_s115 0 dx dy (some a) (some b) q (shO dx q) (shO dy q) u.1 u.2.1 u.2.2) (fun k => (pb w h q + (k : Int) * pw w q, (k : Int), hh s Q (ims I (b + 1) (seqf (I (b + 1)) (pb w h q) (fun k _ => F k) ((k : Int) * pw w q))))) (pw h q).toNat (x := hh s Q (ims I (b + 1) (seqf (I (b + 1)) (pb w h q) (fun k _ => F k) (pw w q * pw h q)))) (fun k hk => ?_) ?_ (n_fu (n := (pw h q).toNat) (by omega))
  · rw [show ((0 : Nat) : Int) = 0 from rfl, Int.zero_mul, Int.add_zero, seqf_0, ims_self] at this
    exact this
  · dsimp only
    unfold jd_143_s115
    have g : ∀ c, c ≠ b + 1 → ims I (b + 1) (seqf (I (b + 1)) (pb w h q) (fun k _ => F k) ((k : Int) * pw w q)) c = I c := fun c hc => ims_o hc
    rw [Option.bind_some, x_ck B.2.1.1 B.2.1.2.1, Option.bind_some, c_97 B.2.1.1 B.2.1.2.1 (by rw [g b hbb]; exact bh') sh hq, Option.bind_some, n_jw (z := pw h q) (by omega) (by omega), n_jw (z := (k : Int)) (by omega) (by omega), if_neg (by omega), c_shr (f := I (b + 1)) (F := F) A B h6 hab hab' (by rw [g a hab]; exact aw) (by rw [g a hab]; exact ah) (by rw [g b hbb]; exact bw') sw sh q0 q2 d0 d1 (by omega) (by omega) (fun k => by rw [g _ hab']; exact hF k) ims_e, Option.bind_some, ims_ims]
    rfl
  · dsimp only
    unfold jd_143_s115
    have g : ims I (b + 1) (seqf (I (b + 1)) (pb w h q) (fun k _ => F k) ((((pw h q).toNat : Nat) : Int) * pw w q)) b = I b := ims_o hbb
    rw [Option.bind_some, x_ck B.2.1.1 B.2.1.2.1, Option.bind_some, c_97 B.2.1.1 B.2.1.2.1 (by rw [g]; exact bh') sh hq, Option.bind_some, n_jw (z := pw h q) (by omega) (by omega), n_jw (by omega) (by omega), if_pos (by omega), show (((pw h q).toNat : Nat) : Int) = pw h q by omega, Int.mul_comm]
end Shift
