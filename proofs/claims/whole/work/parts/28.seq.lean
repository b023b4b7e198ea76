/-! samples one behind the other -/
def seqf (f : Int → Int) (b : Int) (F : Int → Int → Int) (k : Int) : Int → Int := fun j => if b ≤ j ∧ j < b + k then F (j - b) (f j) else f j
section Seq
variable {f : Int → Int} {b k j : Int} {F G : Int → Int → Int} {I m : jM} {a : Nat}
theorem seqf_0 : seqf f b F 0 = f := funext fun j => if_neg (by omega)
theorem seqf_s (hk : 0 ≤ k) : jiu (seqf f b F k) (b + k) (F k (f (b + k))) = seqf f b F (k + 1) := by
  funext j
  unfold jiu seqf
  by_cases h : j = b + k
  · subst h
    rw [if_pos rfl, if_pos (by omega), show b + k - b = k by omega]
  · rw [if_neg h]
    by_cases h2 : b ≤ j ∧ j < b + k
    · rw [if_pos h2, if_pos (by omega)]
    · rw [if_neg h2, if_neg (by omega)]
theorem seqf_at (h : b + k ≤ j) : seqf f b F k j = f j := if_neg (by omega)
theorem seqf_lo (h : j < b) : seqf f b F k j = f j := if_neg (by omega)
theorem seqf_in (h0 : b ≤ j) (h1 : j < b + k) : seqf f b F k j = F (j - b) (f j) := if_pos ⟨h0, h1⟩
theorem seqf_k (h0 : 0 ≤ j) (h1 : j < k) : seqf f b F k (b + j) = F j (f (b + j)) := by
  rw [seqf_in (by omega) (by omega), show b + j - b = j by omega]
theorem ims_jms {z v : Int} : jms (ims I a f) a z v = ims I a (jiu f z v) := by
  funext c
  unfold jms ims
  by_cases h : c = a
  · rw [if_pos h, if_pos h, if_pos rfl]
  · rw [if_neg h, if_neg h, if_neg h]
theorem ims_self : ims I a (I a) = I := by
  funext c
  unfold ims
  by_cases h : c = a
  · rw [if_pos h, h]
  · rw [if_neg h]
theorem ims_ims {g : Int → Int} : ims (ims I a f) a g = ims I a g := by
  funext c
  unfold ims
  by_cases h : c = a
  · rw [if_pos h, if_pos h]
  · rw [if_neg h, if_neg h, if_neg h]
end Seq
section Flood
variable {s : hS} {Q : hQ} {hm : hO} {I m : jM} {a : Nat} {p w h v o : Int}
/-- what is known of a picture's cells whatever stands in them -/
theorem Pic_ar (A : PicAt s Q hm a o) : a + 1 < s.1 ∧ s.2.2.1 (a + 1) = 0 ∧ s.2.2.2 (a + 1) = 864 := ⟨A.2.2.1.1, A.2.2.1.2.1, A.2.2.1.2.2.1⟩
theorem c_101 (A : PicAt s Q hm a o) (h6 : s.1 ≤ 1000000) (hw : I a 0 = w) (hv : I a 1 = h) (sw : isSd w) (sh : isSd h) (p0 : 0 ≤ p) (p2 : p ≤ 2) : jd_101 a p v (hh s Q I) = some (hh s Q (ims I (a + 1) (seqf (I (a + 1)) (pb w h p) (fun _ _ => v) (pw w p * pw h p)))) := by
  have hp : okI p := by unfold okI; omega
  have b := pl_sz sw sh p0 p2
  obtain ⟨a1, a2, a3⟩ := Pic_ar A
  have e2 : ∀ J : jM, Q a ((2 : Nat) : Int) = some (a + 1) := fun _ => A.2.2.2
  unfold jd_101
  rw [x_ck A.2.1.1 A.2.1.2.1, Option.bind_some, c_98 A.2.1.1 A.2.1.2.1 hw hv sw sh hp, Option.bind_some, Option.bind_some, c_96 A.2.1.1 A.2.1.2.1 hw sw hp, Option.bind_some, Option.bind_some, c_97 A.2.1.1 A.2.1.2.1 hv sh hp, Option.bind_some]
  have key : jd_101_l24 a v (pb w h p + pw w p * pw h p) (pb w h p) (hh s Q I) = some (hh s Q (ims I (a + 1) (seqf (I (a + 1)) (pb w h p) (fun _ _ => v) (pw w p * pw h p)))) := by
    unfold jd_101_l24
    have := w_for (f := fun q : (Int × jH) => jd_101_s24 a v (pb w h p + pw w p * pw h p) q.1 q.2) (fun k => (pb w h p + (k : Int), hh s Q (ims I (a + 1) (seqf (I (a + 1)) (pb w h p) (fun _ _ => v) k)))) (pw w p * pw h p).toNat (x := hh s Q (ims I (a + 1) (seqf (I (a + 1)) (pb w h p) (fun _ _ => v) (pw w p * pw h p)))) (fun k hk => ?_) ?_ (n_fu (n := (pw w p * pw h p).toNat) (by omega))
    · rw [show ((0 : Nat) : Int) = 0 from rfl, seqf_0, ims_self, Int.add_zero] at this
      exact this
    · dsimp only
      unfold jd_101_s24
      rw [n_jw (by omega) (by omega), n_jw (by omega) (by omega), if_neg (by omega), x_gr A.2.1.1 A.2.1.2.1, Option.bind_some, e2 I, Option.bind_some, x_ta a1 a2 (by omega) (by rw [a3]; omega) (by rw [a3]; decide), Option.bind_some, ims_jms]
      have := seqf_s (f := I (a + 1)) (b := pb w h p) (F := fun _ _ => v) (k := (k : Int)) (by omega)
      rw [this]
      rw [show ((k + 1 : Nat) : Int) = (k : Int) + 1 from by omega, show pb w h p + (k : Int) + 1 = pb w h p + ((k : Int) + 1) by omega]
    · dsimp only
      unfold jd_101_s24
      rw [n_jw (by omega) (by omega), n_jw (by omega) (by omega), if_pos (by omega), show (((pw w p * pw h p).toNat : Nat) : Int) = pw w p * pw h p by omega]
  rw [key, Option.bind_some]
end Flood
