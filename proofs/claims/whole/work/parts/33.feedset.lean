/-! feed and set -/
theorem n_land (x : Int) (k : Nat) (hk : k < 63) : jland x ((2 ^ k - 1 : Nat) : Int) = x % ((2 ^ k : Nat) : Int) := by
  have h2 : (2 : Nat) ^ k ≤ 2 ^ 62 := Nat.pow_le_pow_right (by decide) (by omega)
  have hp : 0 < (2 : Nat) ^ k := Nat.pow_pos (by decide)
  have hd : (2 : Nat) ^ k ∣ 2 ^ 64 := Nat.pow_dvd_pow 2 (by omega)
  have hn : ((Int64.ofInt x &&& Int64.ofInt ((2 ^ k - 1 : Nat) : Int)).toBitVec).toNat = (x % ((2 ^ k : Nat) : Int)).toNat := by
    show (BitVec.ofInt 64 x &&& BitVec.ofInt 64 ((2 ^ k - 1 : Nat) : Int)).toNat = _
    rw [BitVec.toNat_and, BitVec.toNat_ofInt, BitVec.toNat_ofInt]
    have e1 : (((2 ^ k - 1 : Nat) : Int) % ((2 ^ 64 : Nat) : Int)).toNat = 2 ^ k - 1 := by omega
    rw [e1, Nat.and_two_pow_sub_one_eq_mod]
    have e2 : ((x % ((2 ^ 64 : Nat) : Int)).toNat % 2 ^ k : Nat) = (x % ((2 ^ k : Nat) : Int)).toNat := by
      apply Int.ofNat.inj
      show (((x % ((2 ^ 64 : Nat) : Int)).toNat % 2 ^ k : Nat) : Int) = ((x % ((2 ^ k : Nat) : Int)).toNat : Int)
      rw [Int.natCast_emod, Int.toNat_of_nonneg (Int.emod_nonneg _ (by omega)), Int.toNat_of_nonneg (Int.emod_nonneg _ (by omega)), Int.emod_emod_of_dvd]
      exact Int.natCast_dvd_natCast.mpr hd
    exact e2
  unfold jland
  show ((Int64.ofInt x &&& Int64.ofInt ((2 ^ k - 1 : Nat) : Int)).toBitVec).toInt = _
  have hlt := Int.emod_lt_of_pos x (show (0 : Int) < ((2 ^ k : Nat) : Int) by omega)
  have hge := Int.emod_nonneg x (show ((2 ^ k : Nat) : Int) ≠ 0 by omega)
  rw [BitVec.toInt_eq_toNat_of_lt (by rw [hn]; omega), hn]
  omega
theorem n_land255 (x : Int) : jland x 255 = x % 256 := n_land x 8 (by decide)
section Feed
variable {s : hS} {Q : hQ} {hm : hO} {I m : jM} {a b : Nat} {p q z v y : Int} {f : Int → Int}
theorem ims_jms_c (h : a ≠ b) : jms (ims I a f) b z v = ims (jms I b z v) a f := by
  funext c
  unfold jms ims
  by_cases h1 : c = b
  · subst h1
    rw [if_pos rfl, if_neg (fun e => h e.symm), if_neg (fun e => h e.symm)]
    exact (if_pos rfl).symm
  · rw [if_neg h1]
    split
    · rfl
    · exact (if_neg h1).symm
theorem jms_jms : jms (jms I a z v) a z y = jms I a z y := by
  funext c
  unfold jms
  by_cases h1 : c = a
  · subst h1
    rw [if_pos rfl, if_pos rfl, if_pos rfl]
    funext j
    unfold jiu
    by_cases h2 : j = z
    · rw [if_pos h2, if_pos h2]
    · rw [if_neg h2, if_neg h2, if_neg h2]
  · rw [if_neg h1, if_neg h1, if_neg h1]
theorem jms_self : jms I a z (I a z) = I := by
  funext c
  unfold jms
  by_cases h1 : c = a
  · subst h1
    rw [if_pos rfl]
    funext j
    unfold jiu
    by_cases h2 : j = z
    · rw [if_pos h2, h2]
    · rw [if_neg h2]
  · rw [if_neg h1]
def fdF (p : Int) (i _ : Int) : Int := jwb (jlushr p (8 * i))
def fdG (p : Int) (i _ : Int) : Int := jlushr p (8 * i) % 256
theorem c_feed {T : Int} (L : Lay s Q hm) (hT : I 0 3 = T) (T0 : 0 ≤ T) (q1 : 1 ≤ q) (q8 : q ≤ 8) (h4 : T + q ≤ 4000) : jd_148_l46 0 p q 0 (hh s Q I) = some (hh s Q (ims (jms I 0 3 (T + q)) 2 (seqf (I 2) T (fdF p) q))) := by
  unfold jd_148_l46
  have e2 : Q 0 ((2 : Nat) : Int) = some 2 := Lq L rfl
  have := w_for (f := fun u : (Int × jH) => jd_148_s46 0 p q u.1 u.2) (fun k => ((k : Int), hh s Q (ims (jms I 0 3 (T + (k : Int))) 2 (seqf (I 2) T (fdF p) k)))) q.toNat (x := hh s Q (ims (jms I 0 3 (T + q)) 2 (seqf (I 2) T (fdF p) q))) (fun k hk => ?_) ?_ (n_fu (n := q.toNat) (by omega))
  · have e : ims (jms I 0 3 (T + ((0 : Nat) : Int))) 2 (seqf (I 2) T (fdF p) ((0 : Nat) : Int)) = I := by
      rw [show ((0 : Nat) : Int) = 0 from rfl, seqf_0, Int.add_zero, ← hT, jms_self, ims_self]
    rw [e] at this
    exact this
  · dsimp only
    unfold jd_148_s46
    have e3 : ims (jms I 0 3 (T + (k : Int))) 2 (seqf (I 2) T (fdF p) k) 0 ((3 : Nat) : Int) = T + (k : Int) := (congrFun (ims_o (by decide)) _).trans jms_e
    rw [n_jw (by omega) (by omega), n_jw (by omega) (by omega), if_neg (by omega), y_gr L 0 11 rfl rfl, Option.bind_some, y_gi L 0 11 rfl rfl, Option.bind_some, e3, y_pi L 0 11 rfl rfl, Option.bind_some, e2, Option.bind_some, y_ta L 2 1 4000 rfl rfl rfl (by omega) (by omega), Option.bind_some, ims_jms_c (by decide), ims_jms]
    have := seqf_s (f := I 2) (b := T) (F := fdF p) (k := (k : Int)) (by omega)
    rw [show ((k + 1 : Nat) : Int) = (k : Int) + 1 from by omega, ← this, show T + ((k : Int) + 1) = T + (k : Int) + 1 by omega]
    have e4 : jms (jms I 0 3 (T + (k : Int))) 0 ((3 : Nat) : Int) (T + (k : Int) + 1) = jms I 0 3 (T + (k : Int) + 1) := jms_jms
    rw [e4]
    rfl
  · dsimp only
    unfold jd_148_s46
    rw [n_jw (by omega) (by omega), n_jw (by omega) (by omega), if_pos (by omega), show ((q.toNat : Nat) : Int) = q by omega]
theorem k_feed (T0 : 0 ≤ m 76 5) (q1 : 1 ≤ q) (q8 : q ≤ 8) (h4 : m 76 5 + q ≤ 4000) : jd_223_l49 p q 0 m = some (ims m 80 (seqf (m 80) (m 76 5) (fdG p) q)) := by
  unfold jd_223_l49
  have := w_for (f := fun u : (Int × jM) => jd_223_s49 p q u.1 u.2) (fun k => ((k : Int), ims m 80 (seqf (m 80) (m 76 5) (fdG p) k))) q.toNat (x := ims m 80 (seqf (m 80) (m 76 5) (fdG p) q)) (fun k hk => ?_) ?_ (n_fu (n := q.toNat) (by omega))
  · rw [show ((0 : Nat) : Int) = 0 from rfl, seqf_0, ims_self] at this
    exact this
  · dsimp only
    unfold jd_223_s49
    have e3 : ims m 80 (seqf (m 80) (m 76 5) (fdG p) k) 76 5 = m 76 5 := rfl
    rw [n_jw (by omega) (by omega), n_jw (by omega) (by omega), if_neg (by omega), e3, y_mw 80 4000 rfl rfl (by omega) (by omega), Option.bind_some, ims_jms, n_land255]
    have := seqf_s (f := m 80) (b := m 76 5) (F := fdG p) (k := (k : Int)) (by omega)
    rw [show ((k + 1 : Nat) : Int) = (k : Int) + 1 from by omega, ← this]
    rfl
  · dsimp only
    unfold jd_223_s49
    rw [n_jw (by omega) (by omega), n_jw (by omega) (by omega), if_pos (by omega), show ((q.toNat : Nat) : Int) = q by omega]
theorem si_feed (R : RelH s Q hm I m) (h6 : s.1 < 1000000) (hq : okI q) : SimI (jd_148 0 p q (hh s Q I)) (jd_223 p q m) (fun E => if E = 0 then 1 else if E = 1 then 2 else 0) s Q I := by
  have R0 := R
  obtain ⟨L, r1, r2, r3, r4, r5, r6, r7, r8, r9⟩ := R
  obtain ⟨t1, t2, t3, t4⟩ := id r2
  have e1 : I 0 ((3 : Nat) : Int) = m 76 5 := t1
  have hq' : -2147483648 ≤ q ∧ q < 2147483648 := hq
  have i2 := x_in (x := q) (lo := 1) (hi := 8) (by omega) (by omega) (by decide) (by decide) (by decide) (by decide)
  by_cases c1 : 1 ≤ q ∧ q ≤ 8
  · by_cases c2 : m 76 5 + q ≤ 4000
    · have eC : jd_148 0 p q (hh s Q I) = some (.inl (m 76 5 + q), hh s Q (ims (jms I 0 3 (m 76 5 + q)) 2 (seqf (I 2) (m 76 5) (fdF p) q))) := by
        unfold jd_148
        rw [n_jw hq.1 hq.2, if_neg (by omega), if_pos c1.2, y_gi L 0 11 rfl rfl, Option.bind_some, e1, n_jw (by omega) (by omega), if_pos c2, c_feed L t1 t2 c1.1 c1.2 c2, Option.bind_some, y_gi L 0 11 rfl rfl, Option.bind_some]
        have : ims (jms I 0 3 (m 76 5 + q)) 2 (seqf (I 2) (m 76 5) (fdF p) q) 0 ((3 : Nat) : Int) = m 76 5 + q := (congrFun (ims_o (by decide)) _).trans jms_e
        rw [this]
      have eM : jd_223 p q m = some (m 76 5 + q, jms (ims (jms m 76 0 0) 80 (seqf (m 80) (m 76 5) (fdG p) q)) 76 5 (m 76 5 + q)) := by
        unfold jd_223 jd_223_b34
        rw [n_jw hq.1 hq.2, i2, if_pos c1, if_neg (by decide), n_jw (by omega) (by omega), if_pos c2, Option.bind_some, jms_e, if_pos (by decide), k_feed (m := jms m 76 0 0) t2 c1.1 c1.2 c2, Option.bind_some, Option.bind_some, jms_e]
        rfl
      have S : Sm (fun o => o ≠ 1000 ∧ o ≠ 1002) s Q hm I s Q hm (ims (jms I 0 3 (m 76 5 + q)) 2 (seqf (I 2) (m 76 5) (fdF p) q)) := Sm_I (fun b _ hb => (ims_o (show b ≠ 2 from fun e => hb.2 (by rw [e]; exact Lo L rfl))).trans (jms_o (fun e => hb.1 (by rw [e]; exact Lo L rfl))))
      have hE : ∀ x : Nat, 81 ≤ x → jms (ims (jms m 76 0 0) 80 (seqf (m 80) (m 76 5) (fdG p) q)) 76 5 (m 76 5 + q) x = m x := fun x hx => (jms_o (show x ≠ 76 by omega)).trans ((ims_o (show x ≠ 80 by omega)).trans (jms_o (show x ≠ 76 by omega)))
      refine Or.inl ⟨_, _, s, Q, _, _, eC, eM, rfl, rfl, Kp_of L S (fun i _ _ => by omega), Gr_refl, hm, ?_⟩
      refine ⟨L, RPic_fr (m := m) L S (by omega) (fun i _ _ => by omega) (rfl) (rfl) (rfl) (rfl) (rfl) r1, ⟨rfl, by show 0 ≤ m 76 5 + q; omega, c2, fun i h1 h2 => ?_⟩, RSet_fr (I := I) (m := m) (Lay_fr L S (by decide) (by omega)).2 (rfl) r3, RRee_fr (m := m) L S (by omega) (fun i _ _ => by omega) (rfl) (rfl) (rfl) (rfl) (rfl) r4, RFil_fr (m := m) L S (by omega) (fun i _ _ => by omega) (fun i _ _ => by omega) (fun i _ _ => by omega) (rfl) (rfl) (fun x _ _ => hE x (by omega)) r5, RRow_fr (I := I) (m := m) (rfl) (Lay_fr L S (by decide) (by omega)).2 (rfl) (rfl) (rfl) (rfl) (rfl) (rfl) (rfl) r6, RFlt_fr (m := m) L S (by omega) (fun i _ _ => by omega) (rfl) (rfl) (rfl) (rfl) (rfl) r7, RPly_fr (m := m) L S (by omega) (fun i _ _ => by omega) (fun i _ _ => by omega) (rfl) (fun x _ _ => hE x (by omega)) (fun x _ _ => hE x (by omega)) r9 r8, RMis_fr L S (by omega) (by omega) (by omega) (fun i _ _ => by omega) (fun i _ _ => by omega) (fun i _ _ => by omega) r9⟩
      by_cases hi : i < m 76 5
      · rw [show jms (ims (jms m 76 0 0) 80 (seqf (m 80) (m 76 5) (fdG p) q)) 76 5 (m 76 5 + q) 80 = seqf (m 80) (m 76 5) (fdG p) q from rfl, show ims (jms I 0 3 (m 76 5 + q)) 2 (seqf (I 2) (m 76 5) (fdF p) q) 2 = seqf (I 2) (m 76 5) (fdF p) q from rfl, seqf_lo hi, seqf_lo hi]
        exact t4 i h1 hi
      · have h2' : i < m 76 5 + q := h2
        rw [show jms (ims (jms m 76 0 0) 80 (seqf (m 80) (m 76 5) (fdG p) q)) 76 5 (m 76 5 + q) 80 = seqf (m 80) (m 76 5) (fdG p) q from rfl, show ims (jms I 0 3 (m 76 5 + q)) 2 (seqf (I 2) (m 76 5) (fdF p) q) 2 = seqf (I 2) (m 76 5) (fdF p) q from rfl, seqf_in (by omega) h2', seqf_in (by omega) h2']
        unfold fdF fdG
        rw [n_jwb_m']
    · refine SimI_th (E := 1) (b := 0) R0 ?_ ?_ (by decide)
      · unfold jd_148
        rw [n_jw hq.1 hq.2, if_neg (by omega), if_pos c1.2, y_gi L 0 11 rfl rfl, Option.bind_some, e1, n_jw (by omega) (by omega), if_neg c2, x_6 h6, Option.bind_some]
      · unfold jd_223 jd_223_b34
        rw [n_jw hq.1 hq.2, i2, if_pos c1, if_neg (by decide), n_jw (by omega) (by omega), if_neg c2, Option.bind_some, jms_e, if_neg (by decide)]
        rfl
  · refine SimI_th (E := 0) (b := 0) R0 ?_ ?_ (by decide)
    · unfold jd_148 jd_148_b11
      rw [n_jw hq.1 hq.2, x_6 h6, Option.bind_some]
      by_cases h0 : q < 1
      · rw [if_pos h0]
      · rw [if_neg h0, if_neg (by omega)]
    · unfold jd_223 jd_223_b34
      rw [n_jw hq.1 hq.2, i2, if_neg c1, if_pos rfl, Option.bind_some, jms_e, if_neg (by decide)]
      rfl
/-- set: what is allowed -/
def stG (p v : Int) : Prop := 0 ≤ p ∧ p ≤ 7 ∧ stOk p v
theorem st_b : ∀ k : Nat, k < 8 → (0 ≤ (jxv 1).getD k 0 ∧ (jxv 1).getD k 0 ≤ 100) ∧ (1 ≤ (jxv 2).getD k 0 ∧ (jxv 2).getD k 0 ≤ 20000) := by decide
theorem k_st {j : Nat} (hj : j = 1 ∨ j = 2) (p0 : 0 ≤ p) (p7 : p ≤ 7) : jst j p = some ((jxv j).getD p.toNat 0) := by
  have hl : ((jxv j).length : Int) = 8 := by rcases hj with rfl | rfl <;> rfl
  unfold jst
  rw [n_jw (by omega) (by omega), hl]
  exact if_pos ⟨p0, by omega⟩
theorem k_296b (hv : okI v) (p0 : 0 ≤ p) (p7 : p ≤ 7) : (jw (if p = 0 then (jd_204 v 1 60) else (if p = 1 then (jd_204 v 1 12) else (if p = 2 then (jd_204 v 0 2) else (if p = 3 then (jd_204 v 0 8) else (if p = 4 then (jd_204 v 1 31) else (if p = 5 then (if v = 0 then 1 else (if (jw (jd_204 v 100 20000)) = 0 then 0 else 1)) else (if p = 6 then (jd_204 v 50 10000) else (if p = 7 then (jd_204 v 0 1) else 0)))))))) = 0) ↔ ¬ stOk p v := by
  have hv' : -2147483648 ≤ v ∧ v < 2147483648 := hv
  have X : ∀ lo hi : Int, -9000000000000000000 ≤ lo → lo < 9000000000000000000 → -9000000000000000000 ≤ hi → hi < 9000000000000000000 → (jw (jd_204 v lo hi) = 0 ↔ ¬ (lo ≤ v ∧ v ≤ hi)) := by
    intro lo hi h1 h2 h3 h4
    rw [x_in (by omega) (by omega) h1 h2 h3 h4]
    by_cases c : lo ≤ v ∧ v ≤ hi
    · rw [if_pos c]
      exact ⟨fun e => absurd e (by decide), fun e => absurd c e⟩
    · rw [if_neg c]
      exact ⟨fun _ => c, fun _ => rfl⟩
  have hp : p = 0 ∨ p = 1 ∨ p = 2 ∨ p = 3 ∨ p = 4 ∨ p = 5 ∨ p = 6 ∨ p = 7 := by omega
  rcases hp with rfl | rfl | rfl | rfl | rfl | rfl | rfl | rfl
  · show jw (jd_204 v 1 60) = 0 ↔ ¬ ((0 = 5 ∧ v = 0) ∨ ((1 : Int) ≤ v ∧ v ≤ 60))
    rw [X _ _ (by decide) (by decide) (by decide) (by decide)]
    omega
  · show jw (jd_204 v 1 12) = 0 ↔ ¬ ((1 = 5 ∧ v = 0) ∨ ((1 : Int) ≤ v ∧ v ≤ 12))
    rw [X _ _ (by decide) (by decide) (by decide) (by decide)]
    omega
  · show jw (jd_204 v 0 2) = 0 ↔ ¬ ((2 = 5 ∧ v = 0) ∨ ((0 : Int) ≤ v ∧ v ≤ 2))
    rw [X _ _ (by decide) (by decide) (by decide) (by decide)]
    omega
  · show jw (jd_204 v 0 8) = 0 ↔ ¬ ((3 = 5 ∧ v = 0) ∨ ((0 : Int) ≤ v ∧ v ≤ 8))
    rw [X _ _ (by decide) (by decide) (by decide) (by decide)]
    omega
  · show jw (jd_204 v 1 31) = 0 ↔ ¬ ((4 = 5 ∧ v = 0) ∨ ((1 : Int) ≤ v ∧ v ≤ 31))
    rw [X _ _ (by decide) (by decide) (by decide) (by decide)]
    omega
  · show jw (if v = 0 then 1 else (if (jw (jd_204 v 100 20000)) = 0 then 0 else 1)) = 0 ↔ ¬ (((5 : Int) = 5 ∧ v = 0) ∨ ((100 : Int) ≤ v ∧ v ≤ 20000))
    by_cases c : v = 0
    · rw [if_pos c]
      exact ⟨fun e => absurd e (by decide), fun e => absurd (Or.inl ⟨rfl, c⟩) e⟩
    · rw [if_neg c]
      by_cases c2 : (100 : Int) ≤ v ∧ v ≤ 20000
      · rw [if_neg (fun e => (X _ _ (by decide) (by decide) (by decide) (by decide)).mp e c2)]
        exact ⟨fun e => absurd e (by decide), fun e => absurd (Or.inr c2) e⟩
      · rw [if_pos ((X _ _ (by decide) (by decide) (by decide) (by decide)).mpr c2)]
        exact ⟨fun _ e => by omega, fun _ => by decide⟩
  · show jw (jd_204 v 50 10000) = 0 ↔ ¬ ((6 = 5 ∧ v = 0) ∨ ((50 : Int) ≤ v ∧ v ≤ 10000))
    rw [X _ _ (by decide) (by decide) (by decide) (by decide)]
    omega
  · show jw (jd_204 v 0 1) = 0 ↔ ¬ ((7 = 5 ∧ v = 0) ∨ ((0 : Int) ≤ v ∧ v ≤ 1))
    rw [X _ _ (by decide) (by decide) (by decide) (by decide)]
    omega
theorem si_set (R : RelH s Q hm I m) (h6 : s.1 < 1000000) (hp : okI p) (hv : okI v) : SimI (jd_152 0 p v (hh s Q I)) (jd_296 p v m) (fun E => if E = 0 then 1 else 0) s Q I := by
  have R0 := R
  obtain ⟨L, r1, r2, r3, r4, r5, r6, r7, r8, r9⟩ := R
  have hp' : -2147483648 ≤ p ∧ p < 2147483648 := hp
  have hv' : -2147483648 ≤ v ∧ v < 2147483648 := hv
  have e4 : Q 0 ((4 : Nat) : Int) = some 3 := Lq L rfl
  have o7 : okI 7 := by unfold okI; omega
  by_cases c1 : 0 ≤ p ∧ p ≤ 7
  · have hb := st_b p.toNat (by omega)
    have a1 := k_st (j := 1) (Or.inl rfl) c1.1 c1.2
    have a2 := k_st (j := 2) (Or.inr rfl) c1.1 c1.2
    have kb := k_296b hv c1.1 c1.2
    have w53 : jd_152_b53 0 p v (hh s Q I) = some (.inl (I 3 p), hh s Q (jms I 3 p v)) := by
      unfold jd_152_b53
      rw [y_gr L 0 11 rfl rfl, Option.bind_some, e4, Option.bind_some, y_ai L (by omega) 3 8 rfl rfl rfl c1.1 (by omega), Option.bind_some, Option.bind_some, Option.bind_some, y_ta L 3 0 8 rfl rfl rfl c1.1 (by omega), Option.bind_some]
    by_cases c2 : stOk p v
    · have eC : jd_152 0 p v (hh s Q I) = some (.inl (I 3 p), hh s Q (jms I 3 p v)) := by
        unfold jd_152
        rw [(c_185 hp o7 _).1 c1, b_jtb, Option.bind_some, n_jw hp.1 hp.2, n_jw hv.1 hv.2, w53]
        by_cases c3 : p = 5 ∧ v = 0
        · rw [if_pos c3.1, if_pos c3.2, if_neg (show ¬ jw 1 = 0 by decide)]
        · have ez : (if p = 5 then (if v = 0 then (1 : Int) else 0) else 0) = 0 := by
            split
            · rw [if_neg (by omega)]
            · rfl
          rw [ez, if_pos (show jw 0 = 0 by decide), a1, Option.bind_some, a2, Option.bind_some, n_jw (by omega) (by omega), n_jw (by omega) (by omega)]
          rcases c2 with c2 | c2
          · exact absurd c2 c3
          · rw [if_neg (by omega), if_pos c2.2]
      have eM : jd_296 p v m = some (m 82 p, jms (jms m 76 0 0) 82 p v) := by
        unfold jd_296 jd_296_b166
        rw [n_jw hp.1 hp.2, n_jw hv.1 hv.2, if_neg (fun e => kb.mp e c2), Option.bind_some, jms_e, if_pos (by decide), y_ma 82 8 rfl rfl c1.1 (by omega), Option.bind_some, y_mw 82 8 rfl rfl c1.1 (by omega), Option.bind_some]
        rfl
      have S : Sm (fun o => o ≠ 1003) s Q hm I s Q hm (jms I 3 p v) := Sm_jms (by rw [Lo L rfl]; decide)
      have hE : ∀ x : Nat, 83 ≤ x → jms (jms m 76 0 0) 82 p v x = m x := fun x hx => (jms_o (show x ≠ 82 by omega)).trans (jms_o (show x ≠ 76 by omega))
      refine Or.inl ⟨_, _, s, Q, _, _, eC, eM, rfl, by rw [(r3 p c1.1 (by omega)).1], Kp_of L S (fun i _ _ => by omega), Gr_refl, hm, ?_⟩
      refine ⟨L, RPic_fr (m := m) L S (by omega) (fun i _ _ => by omega) (rfl) (rfl) (rfl) (rfl) (rfl) r1, RTap_fr (I := I) (m := m) (rfl) (Lay_fr L S (by decide) (by omega)).2 (rfl) (rfl) r2, fun k k0 k8 => ?_, RRee_fr (m := m) L S (by omega) (fun i _ _ => by omega) (rfl) (rfl) (rfl) (rfl) (rfl) r4, RFil_fr (m := m) L S (by omega) (fun i _ _ => by omega) (fun i _ _ => by omega) (fun i _ _ => by omega) (rfl) (rfl) (fun x _ _ => hE x (by omega)) r5, RRow_fr (I := I) (m := m) (rfl) (Lay_fr L S (by decide) (by omega)).2 (rfl) (rfl) (rfl) (rfl) (rfl) (rfl) (rfl) r6, RFlt_fr (m := m) L S (by omega) (fun i _ _ => by omega) (rfl) (rfl) (rfl) (rfl) (rfl) r7, RPly_fr (m := m) L S (by omega) (fun i _ _ => by omega) (fun i _ _ => by omega) (rfl) (fun x _ _ => hE x (by omega)) (fun x _ _ => hE x (by omega)) r9 r8, RMis_fr L S (by omega) (by omega) (by omega) (fun i _ _ => by omega) (fun i _ _ => by omega) (fun i _ _ => by omega) r9⟩
      by_cases hk : k = p
      · subst hk
        rw [jms_e, jms_e]
        exact ⟨rfl, c2⟩
      · rw [jms_i hk, jms_i hk]
        exact r3 k k0 k8
    · refine SimI_th (E := 0) (b := 0) R0 ?_ ?_ (by decide)
      · unfold jd_152 jd_152_b43
        have ez : (if p = 5 then (if v = 0 then (1 : Int) else 0) else 0) = 0 := by
          split
          · rw [if_neg (fun e => c2 (Or.inl ⟨by assumption, e⟩))]
          · rfl
        rw [(c_185 hp o7 _).1 c1, b_jtb, Option.bind_some, n_jw hp.1 hp.2, n_jw hv.1 hv.2, ez, if_pos (show jw 0 = 0 by decide), a1, Option.bind_some, a2, Option.bind_some, n_jw (by omega) (by omega), n_jw (by omega) (by omega), x_6 h6, Option.bind_some]
        by_cases c3 : v < (jxv 1).getD p.toNat 0
        · rw [if_pos c3]
        · rw [if_neg c3, if_neg (fun e => c2 (Or.inr ⟨by omega, e⟩))]
      · unfold jd_296 jd_296_b166
        rw [n_jw hp.1 hp.2, n_jw hv.1 hv.2, if_pos (kb.mpr c2), Option.bind_some, jms_e, if_neg (by decide)]
        rfl
  · refine SimI_th (E := 0) (b := 0) R0 ?_ ?_ (by decide)
    · unfold jd_152
      rw [(c_185 hp o7 _).2 c1 h6, b_jtx]
    · unfold jd_296 jd_296_b166
      rw [n_jw hp.1 hp.2, if_neg (show ¬ p = 0 by omega), if_neg (show ¬ p = 1 by omega), if_neg (show ¬ p = 2 by omega), if_neg (show ¬ p = 3 by omega), if_neg (show ¬ p = 4 by omega), if_neg (show ¬ p = 5 by omega), if_neg (show ¬ p = 6 by omega), if_neg (show ¬ p = 7 by omega), if_pos (show jw 0 = 0 by decide), Option.bind_some, jms_e, if_neg (by decide)]
      rfl
end Feed
