/-! noise -/
theorem n_l64 (z : Int) : (Int64.ofInt z).toInt = jwl z := by
  rw [Int64.toInt_ofInt]
  unfold Int.bmod jwl
  simp only [Int64.size]
  split <;> omega
theorem n_ush (z : Int) : 0 ≤ jlushr z 33 ∧ jlushr z 33 < 2147483648 := by
  unfold jlushr
  have e : (Int32.ofInt 33).toInt64.toUInt64 &&& Int64.toUInt64 63 = 33 := by decide
  rw [e]
  generalize (Int64.ofInt z).toUInt64 = u
  have h1 : (u >>> 33).toNat < 2147483648 := by
    rw [UInt64.toNat_shiftRight]
    have := u.toNat_lt
    rw [Nat.shiftRight_eq_div_pow]
    have e2 : (33 : UInt64).toNat % 64 = 33 := by decide
    rw [e2]
    omega
  have h2 : (u >>> 33).toInt64.toInt = ((u >>> 33).toNat : Int) := by
    show (u >>> 33).toBitVec.toInt = ((u >>> 33).toBitVec.toNat : Int)
    have h3 : (u >>> 33).toBitVec.toNat < 2147483648 := h1
    rw [BitVec.toInt_eq_toNat_of_lt (by omega)]
  rw [h2]
  omega
theorem n_lrem {x y : Int} (h0 : 0 ≤ x) (h1 : x < 2147483648) (y0 : 0 < y) (y1 : y < 2147483648) : jlrem x y = x % y := by
  have e1 : Int64.ofInt x / Int64.ofInt y = Int64.ofInt (x / y) := by
    rw [← Int64.toInt_inj, Int64.toInt_div, n_l64, n_l64, n_l64, n_jwl (by omega) (by omega), n_jwl (by omega) (by omega), Int.tdiv_eq_ediv_of_nonneg h0]
    have a1 : 0 ≤ x / y := Int.ediv_nonneg h0 (by omega)
    have a2 : x / y ≤ x := Int.ediv_le_self _ h0
    rw [n_jwl (by omega) (by omega)]
    unfold Int.bmod
    dsimp only
    split <;> omega
  unfold jlrem
  rw [e1, ← Int64.ofInt_mul, ← Int64.ofInt_sub, n_l64]
  have := Int.emod_add_mul_ediv x y
  have a1 := Int.emod_nonneg x (show y ≠ 0 by omega)
  have a2 := Int.emod_lt_of_pos x y0
  have e2 : x - x / y * y = x % y := by rw [Int.mul_comm]; omega
  rw [e2, n_jwl (by omega) (by omega)]
section Noise
variable {s : hS} {Q : hQ} {hm : hO} {I m : jM} {a : Nat} {p q w h am t : Int}
/-- the states of the noise -/
def nzt (t : Int) : Nat → Int
  | 0 => t
  | n + 1 => nzt t n * 6364136223846793005 + 1442695040888963407
def nzr (t am : Int) (k : Int) : Int := jlrem (jlushr (nzt t (k.toNat + 1)) 33) (jw (2 * am + 1))
theorem nzr_b (h0 : 0 ≤ am) (h1 : am ≤ 255) (k : Int) : 0 ≤ nzr t am k ∧ nzr t am k ≤ 2 * am := by
  unfold nzr
  have u := n_ush (nzt t (k.toNat + 1))
  rw [n_jw (z := 2 * am + 1) (by omega) (by omega), n_lrem u.1 u.2 (by omega) (by omega)]
  have a1 := Int.emod_nonneg (jlushr (nzt t (k.toNat + 1)) 33) (show 2 * am + 1 ≠ 0 by omega)
  have a2 := Int.emod_lt_of_pos (jlushr (nzt t (k.toNat + 1)) 33) (show 0 < 2 * am + 1 by omega)
  omega
def clp (v : Int) : Int := if v < 0 then 0 else if 255 < v then 255 else v
theorem clp_b (v : Int) : 0 ≤ clp v ∧ clp v ≤ 255 := by unfold clp; split <;> (try split) <;> omega
theorem k_183 {v : Int} (h0 : -2147483648 ≤ v) (h1 : v < 2147483648) : jd_183 v = clp v := by
  unfold jd_183 clp
  rw [n_jw h0 h1]
  by_cases c1 : v < 0
  · rw [if_neg (by omega), if_pos c1]
  · rw [if_pos (by omega), if_neg c1]
    by_cases c2 : 255 < v
    · rw [if_neg (by omega), if_pos c2]
    · rw [if_pos (by omega), if_neg c2]
theorem k_205 {v lo hi : Int} (h0 : -9000000000000000000 ≤ v) (h1 : v < 9000000000000000000) (hl : okI lo) (hh' : okI hi) : jd_205 v lo hi = if v < lo then lo else if hi < v then hi else v := by
  unfold jd_205
  rw [n_jwl (by omega) (by omega), n_jw hl.1 hl.2, n_jw hh'.1 hh'.2]
  by_cases c1 : v < lo
  · rw [if_neg (by omega), if_pos c1]
  · rw [if_pos (by omega), if_neg c1]
    by_cases c2 : hi < v
    · rw [if_neg (by omega), if_pos c2]
    · rw [if_pos (by omega), if_neg c2]
def nzF (t am : Int) (k v : Int) : Int := clp (v + (nzr t am k - am))
theorem c_nz {o : Int} {G : Int → Int} (A : PicAt s Q hm a o) (h6 : s.1 ≤ 1000000) (X : Pix I a w h G) (q0 : 0 ≤ q) (q2 : q ≤ 2) (a0 : 0 ≤ am) (a1 : am ≤ 255) : jd_142_l67 0 am (some a) (pb w h q + pw w q * pw h q) t (pb w h q) (hh s Q I) = some (hh s Q (ims I (a + 1) (seqf (I (a + 1)) (pb w h q) (nzF t am) (pw w q * pw h q)))) := by
  have b := pl_sz X.2.2.1 X.2.2.2.1 q0 q2
  obtain ⟨l1, l2, l3⟩ := Pic_ar A
  have e2 : Q a ((2 : Nat) : Int) = some (a + 1) := A.2.2.2
  generalize hN : pw w q * pw h q = N at b
  have nz : jnzl (jw (2 * am + 1)) = some () := by
    unfold jnzl
    rw [n_jw (z := 2 * am + 1) (by omega) (by omega), n_jwl (by omega) (by omega)]
    exact if_neg (by omega)
  unfold jd_142_l67
  have := w_for (f := fun u : (Int × Int × jH) => jd_142_s67 0 am (some a) (pb w h q + N) u.1 u.2.1 u.2.2) (fun k => (nzt t k, pb w h q + (k : Int), hh s Q (ims I (a + 1) (seqf (I (a + 1)) (pb w h q) (nzF t am) k)))) N.toNat (x := hh s Q (ims I (a + 1) (seqf (I (a + 1)) (pb w h q) (nzF t am) N))) (fun k hk => ?_) ?_ (n_fu (n := N.toNat) (by omega))
  · rw [show ((0 : Nat) : Int) = 0 from rfl, seqf_0, ims_self, Int.add_zero] at this
    exact this
  · dsimp only
    unfold jd_142_s67
    have rb := nzr_b (t := t) a0 a1 (k : Int)
    have sm := (X.2.2.2.2 q (k : Int) q0 q2 (by omega) (by rw [hN]; omega))
    have er : jlrem (jlushr (nzt t k * 6364136223846793005 + 1442695040888963407) 33) (jw (2 * am + 1)) = nzr t am k := by
      unfold nzr
      rw [show ((k : Int)).toNat = k from Int.toNat_natCast k]
      rfl
    have ev : (ims I (a + 1) (seqf (I (a + 1)) (pb w h q) (nzF t am) k)) (a + 1) (pb w h q + (k : Int)) = I (a + 1) (pb w h q + (k : Int)) := by
      rw [ims_e, seqf_at (by omega)]
    rw [n_jw (by omega) (by omega), n_jw (by omega) (by omega), if_neg (by omega), nz, Option.bind_some, Option.bind_some, Option.bind_some, x_gr A.2.1.1 A.2.1.2.1, Option.bind_some, Option.bind_some, x_gr A.2.1.1 A.2.1.2.1, Option.bind_some, e2, Option.bind_some, x_ai l1 h6 l2 (by omega) (by rw [l3]; omega) (by rw [l3]; decide), Option.bind_some, Option.bind_some, x_ta l1 l2 (by omega) (by rw [l3]; omega) (by rw [l3]; decide), Option.bind_some, ev, er, k_183 (by omega) (by omega), ims_jms]
    have := seqf_s (f := I (a + 1)) (b := pb w h q) (F := nzF t am) (k := (k : Int)) (by omega)
    rw [show ((k + 1 : Nat) : Int) = (k : Int) + 1 from by omega, show pb w h q + (k : Int) + 1 = pb w h q + ((k : Int) + 1) by omega, ← this]
    rfl
  · dsimp only
    unfold jd_142_s67
    rw [n_jw (by omega) (by omega), n_jw (by omega) (by omega), if_pos (by omega), show ((N.toNat : Nat) : Int) = N by omega]
theorem k_nz (hp : 0 ≤ p ∧ p < 60) (sw : isSd (m 77 p)) (sh : isSd (m 78 p)) (q0 : 0 ≤ q) (q2 : q ≤ 2) (a0 : 0 ≤ am) (a1 : am ≤ 255) (hs : ∀ k : Int, 0 ≤ k → k < pw (m 77 p) q * pw (m 78 p) q → 0 ≤ m 79 (864 * p + (pf q + k)) ∧ m 79 (864 * p + (pf q + k)) ≤ 255) : jd_216_l55 p q am t 0 m = some (ims m 79 (seqf (m 79) (864 * p + pf q) (nzF t am) (pw (m 77 p) q * pw (m 78 p) q))) := by
  have hq : okI q := by unfold okI; omega
  have b := pl_sz sw sh q0 q2
  generalize hN : pw (m 77 p) q * pw (m 78 p) q = N at b hs
  have nz : jnzl (jw (2 * am + 1)) = some () := by
    unfold jnzl
    rw [n_jw (z := 2 * am + 1) (by omega) (by omega), n_jwl (by omega) (by omega)]
    exact if_neg (by omega)
  have e13 : ∀ f : Int → Int, jd_213 p q (ims m 79 f) = some N := by
    intro f
    unfold jd_213
    have e2 : ims m 79 f 77 p = m 77 p := rfl
    have e3 : ims m 79 f 78 p = m 78 p := rfl
    rw [y_ma 77 60 rfl rfl hp.1 (by omega), Option.bind_some, y_ma 78 60 rfl rfl hp.1 (by omega), Option.bind_some, e2, e3, k_206 hq sw, k_206 hq sh, hN]
  unfold jd_216_l55
  have := w_for (f := fun u : (Int × Int × jM) => jd_216_s55 p q am u.1 u.2.1 u.2.2) (fun k => (nzt t k, (k : Int), ims m 79 (seqf (m 79) (864 * p + pf q) (nzF t am) k))) N.toNat (x := ims m 79 (seqf (m 79) (864 * p + pf q) (nzF t am) N)) (fun k hk => ?_) ?_ (n_fu (n := N.toNat) (by omega))
  · rw [show ((0 : Nat) : Int) = 0 from rfl, seqf_0, ims_self] at this
    exact this
  · dsimp only
    unfold jd_216_s55
    have rb := nzr_b (t := t) a0 a1 (k : Int)
    have sm := hs (k : Int) (by omega) (by omega)
    have er : jlrem (jlushr (nzt t k * 6364136223846793005 + 1442695040888963407) 33) (jw (2 * am + 1)) = nzr t am k := by
      unfold nzr
      rw [show ((k : Int)).toNat = k from Int.toNat_natCast k]
      rfl
    have ev : (ims m 79 (seqf (m 79) (864 * p + pf q) (nzF t am) k)) 79 (864 * p + pf q + (k : Int)) = m 79 (864 * p + (pf q + (k : Int))) := by
      rw [ims_e, seqf_at (by omega), show 864 * p + pf q + (k : Int) = 864 * p + (pf q + (k : Int)) by omega]
    rw [e13, Option.bind_some, n_jw (by omega) (by omega), n_jw (by omega) (by omega), if_neg (by omega), Option.bind_some, k_207 hq, y_ma 79 51840 rfl rfl (by omega) (by omega), Option.bind_some, nz, Option.bind_some, y_mw 79 51840 rfl rfl (by omega) (by omega), Option.bind_some, ev, er, n_jw (by omega) (by omega), n_jw (by omega) (by omega), k_205 (by omega) (by omega) (by unfold okI; omega) (by unfold okI; omega), ims_jms]
    have := seqf_s (f := m 79) (b := 864 * p + pf q) (F := nzF t am) (k := (k : Int)) (by omega)
    have e5 : nzF t am k (m 79 (864 * p + pf q + (k : Int))) = (if m 79 (864 * p + (pf q + (k : Int))) + nzr t am k - am < 0 then 0 else if 255 < m 79 (864 * p + (pf q + (k : Int))) + nzr t am k - am then 255 else m 79 (864 * p + (pf q + (k : Int))) + nzr t am k - am) := by
      unfold nzF clp
      rw [show 864 * p + pf q + (k : Int) = 864 * p + (pf q + (k : Int)) by omega, show m 79 (864 * p + (pf q + (k : Int))) + (nzr t am k - am) = m 79 (864 * p + (pf q + (k : Int))) + nzr t am k - am by omega]
    rw [← e5, this]
    rfl
  · dsimp only
    unfold jd_216_s55
    rw [e13, Option.bind_some, n_jw (by omega) (by omega), n_jw (by omega) (by omega), if_pos (by omega), show ((N.toNat : Nat) : Int) = N by omega]
theorem si_noise (R : RelH s Q hm I m) (h6 : s.1 < 1000000) (hp : okI p) (hq : okI q) (ha : okI am) : SimV (jd_142 0 p q t am (hh s Q I)) (jd_216 p q t am m) (fun E => if E = 2 then 1 else if E = 0 then 2 else 0) s Q I := by
  have L := R.1
  obtain ⟨t1, t2, t3, t4, t5⟩ := id R.2.1
  have ha' : -2147483648 ≤ am ∧ am < 2147483648 := ha
  have i2 := x_in (x := am) (lo := 0) (hi := 255) (by omega) (by omega) (by decide) (by decide) (by decide) (by decide)
  by_cases c1 : 0 ≤ p ∧ p < m 76 1
  · obtain ⟨a, ea, hA, A, X⟩ := c_193 R hp c1.1 c1.2
    have hk := (k_210 (m := m) ⟨t2, t3⟩ hp)
    rw [if_pos c1] at hk
    by_cases c2 : 0 ≤ q ∧ q ≤ 2
    · by_cases c3 : 0 ≤ am ∧ am ≤ 255
      · have hne : a ≠ a + 1 := by omega
        have b := pl_sz X.2.2.1 X.2.2.2.1 c2.1 c2.2
        have eC : jd_142 0 p q t am (hh s Q I) = some (.inl (), hh s Q (ims I (a + 1) (seqf (I (a + 1)) (pb (m 77 p) (m 78 p) q) (nzF t am) (pw (m 77 p) q * pw (m 78 p) q)))) := by
          unfold jd_142
          rw [y_ck L 0 11 rfl rfl, Option.bind_some, ea, b_jtb, (c_186 hq _).1 c2, b_jtb, n_jw ha.1 ha.2, if_neg (by omega), if_pos c3.2, x_ck A.2.1.1 A.2.1.2.1, Option.bind_some, c_98 A.2.1.1 A.2.1.2.1 X.1 X.2.1 X.2.2.1 X.2.2.2.1 hq, Option.bind_some, Option.bind_some, c_96 A.2.1.1 A.2.1.2.1 X.1 X.2.2.1 hq, Option.bind_some, Option.bind_some, c_97 A.2.1.1 A.2.1.2.1 X.2.1 X.2.2.2.1 hq, Option.bind_some, c_nz A (by omega) X c2.1 c2.2 c3.1 c3.2, Option.bind_some]
        have eM : jd_216 p q t am m = some (ims (jms m 76 0 0) 79 (seqf (m 79) (864 * p + pf q) (nzF t am) (pw (m 77 p) q * pw (m 78 p) q))) := by
          unfold jd_216 jd_216_b38
          rw [hk, if_neg (by decide), k_211 hq, if_pos c2, if_neg (by decide), n_jw ha.1 ha.2, i2, if_pos c3, if_neg (by decide), Option.bind_some, jms_e, if_pos (by decide), k_nz (m := jms m 76 0 0) ⟨c1.1, by omega⟩ X.2.2.1 X.2.2.2.1 c2.1 c2.2 c3.1 c3.2 (fun k k0 k1 => (X.2.2.2.2 q k c2.1 c2.2 k0 k1).2), Option.bind_some]
          rfl
        have S : Sm (fun o => o ≠ p) s Q hm I s Q hm (ims I (a + 1) (seqf (I (a + 1)) (pb (m 77 p) (m 78 p) q) (nzF t am) (pw (m 77 p) q * pw (m 78 p) q))) := Sm_ims (by rw [A.2.2.1.2.2.2]; omega)
        have M : Mp m (ims (jms m 76 0 0) 79 (seqf (m 79) (864 * p + pf q) (nzF t am) (pw (m 77 p) q * pw (m 78 p) q))) := ⟨⟨rfl, rfl, rfl, rfl, rfl, rfl, rfl, rfl⟩, fun x h1 h2 => (ims_o h1).trans (jms_o (by omega))⟩
        refine Or.inl ⟨s, Q, _, _, eC, eM, rfl, Kp_of L S (fun i _ _ => by omega), Gr_refl, hm, ?_⟩
        refine RelH_pic ⟨c1.1, by omega⟩ S L M ?_ R
        refine RPic_set L R.2.1 c1 S M (fun j hj => ?_) (fun a' ha' => ?_)
        · rw [ims_e]
          by_cases hl : j < 864 * p
          · rw [seqf_lo (by omega)]
          · rw [seqf_at (by omega)]
        · rw [hA] at ha'
          cases ha'
          refine Pix_upd (q := q) X (ims_o hne) (fun k k0 k1 => ?_) (fun p' k g1 g2 g3 k0 k1 => ?_)
          · obtain ⟨x1, x2⟩ := X.2.2.2.2 q k c2.1 c2.2 k0 k1
            have e3 := seqf_k (f := m 79) (b := 864 * p + pf q) (F := nzF t am) k0 k1
            rw [show 864 * p + pf q + k = 864 * p + (pf q + k) by omega] at e3
            rw [ims_e, ims_e, seqf_k k0 k1, e3, x1]
            exact ⟨rfl, clp_b _⟩
          · have b' := pl_sz X.2.2.1 X.2.2.2.1 g1 g2
            rw [ims_e, ims_e]
            by_cases hl : p' < q
            · have := pl_dj X.2.2.1 X.2.2.2.1 g1 g2 c2.1 c2.2 hl
              rw [seqf_lo (by omega), seqf_lo (by omega)]
              exact ⟨rfl, rfl⟩
            · have := pl_dj X.2.2.1 X.2.2.2.1 c2.1 c2.2 g1 g2 (by omega)
              rw [seqf_at (by omega), seqf_at (by omega)]
              exact ⟨rfl, rfl⟩
      · refine SimV_th (E := 0) R ?_ ?_ (by decide)
        · unfold jd_142 jd_142_b24
          rw [y_ck L 0 11 rfl rfl, Option.bind_some, ea, b_jtb, (c_186 hq _).1 c2, b_jtb, n_jw ha.1 ha.2, x_6 h6, Option.bind_some]
          by_cases h0 : am < 0
          · rw [if_pos h0]
          · rw [if_neg h0, if_neg (by omega)]
        · unfold jd_216 jd_216_b38
          rw [hk, if_neg (by decide), k_211 hq, if_pos c2, if_neg (by decide), n_jw ha.1 ha.2, i2, if_neg c3, if_pos rfl, Option.bind_some, jms_e, if_neg (by decide)]
          rfl
    · refine SimV_th (E := 2) R ?_ ?_ (by decide)
      · unfold jd_142
        rw [y_ck L 0 11 rfl rfl, Option.bind_some, ea, b_jtb, (c_186 hq _).2 c2 h6, b_jtx]
      · unfold jd_216 jd_216_b38
        rw [hk, if_neg (by decide), k_211 hq, if_neg c2, if_pos rfl, Option.bind_some, jms_e, if_neg (by decide)]
        rfl
  · refine SimV_th (E := 2) R ?_ ?_ (by decide)
    · unfold jd_142
      rw [y_ck L 0 11 rfl rfl, Option.bind_some, c_193n R h6 hp c1, b_jtx]
    · unfold jd_216 jd_216_b38
      rw [k_210 ⟨t2, t3⟩ hp, if_neg c1, if_pos rfl, Option.bind_some, jms_e, if_neg (by decide)]
      rfl
end Noise
