/-! bits written: codes as lists; the model -/
section BitsW
variable {m : jM} {n x v z : Int} {L k len : Nat} {β β' : Nat → Int}
/-- k bits written from n on -/
def wK (m : jM) (n : Int) (β : Nat → Int) (k : Nat) : jM := jms (ims m 113 (fun x => if n ≤ x ∧ x < n + (k : Int) then β (x - n).toNat else m 113 x)) 76 53 (n + (k : Int))
def wrM (m : jM) (n : Int) (l : List Int) : jM := wK m n (fun i => l.getD i 0) l.length
theorem wK_0 (h : m 76 53 = n) : wK m n β 0 = m := by
  unfold wK
  have e : (fun x => if n ≤ x ∧ x < n + ((0 : Nat) : Int) then β (x - n).toNat else m 113 x) = m 113 := funext fun x => if_neg (by omega)
  rw [e, ims_self, show n + ((0 : Nat) : Int) = m 76 53 by omega]
  exact jms_self
theorem wK_53 : wK m n β k 76 53 = n + (k : Int) := jms_e
theorem wK_113 : wK m n β k 113 = fun x => if n ≤ x ∧ x < n + (k : Int) then β (x - n).toNat else m 113 x := by
  unfold wK
  rw [jms_o (by decide), ims_e]
theorem wK_76 (h : z ≠ 53) : wK m n β k 76 z = m 76 z := by
  unfold wK
  rw [jms_i h, ims_o (by decide)]
theorem wK_o {c : Nat} (h : c ≠ 76) (h' : c ≠ 113) : wK m n β k c = m c := by
  unfold wK
  rw [jms_o h, ims_o h']
theorem wK_ext {m1 m2 : jM} (h1 : m1 76 53 = m2 76 53) (h2 : ∀ z, z ≠ 53 → m1 76 z = m2 76 z) (h3 : m1 113 = m2 113) (h4 : ∀ c : Nat, c ≠ 76 → c ≠ 113 → m1 c = m2 c) : m1 = m2 := by
  funext c
  by_cases e : c = 76
  · subst e
    funext z
    by_cases ez : z = 53
    · rw [ez, h1]
    · exact h2 z ez
  · by_cases e2 : c = 113
    · rw [e2, h3]
    · exact h4 c e e2
theorem wK_wK {k2 : Nat} : wK (wK m n β k) (n + (k : Int)) β' k2 = wK m n (fun i => if i < k then β i else β' (i - k)) (k + k2) := by
  refine wK_ext ?_ (fun z hz => ?_) ?_ (fun c h1 h2 => ?_)
  · rw [wK_53, wK_53]
    omega
  · rw [wK_76 hz, wK_76 hz, wK_76 hz]
  · rw [wK_113, wK_113, wK_113]
    funext x
    by_cases c1 : n + (k : Int) ≤ x ∧ x < n + (k : Int) + (k2 : Int)
    · rw [if_pos c1, if_pos (by omega)]
      show β' (x - (n + (k : Int))).toNat = if (x - n).toNat < k then β (x - n).toNat else β' ((x - n).toNat - k)
      rw [if_neg (by omega), show (x - n).toNat - k = (x - (n + (k : Int))).toNat by omega]
    · rw [if_neg c1]
      show (if n ≤ x ∧ x < n + (k : Int) then β (x - n).toNat else m 113 x) = _
      by_cases c2 : n ≤ x ∧ x < n + (k : Int)
      · rw [if_pos c2, if_pos (by omega)]
        show _ = if (x - n).toNat < k then β (x - n).toNat else β' ((x - n).toNat - k)
        rw [if_pos (by omega)]
      · rw [if_neg c2, if_neg (by omega)]
  · rw [wK_o h1 h2, wK_o h1 h2, wK_o h1 h2]
theorem wK_c (h : ∀ i : Nat, i < k → β i = β' i) : wK m n β k = wK m n β' k := by
  refine wK_ext (by rw [wK_53, wK_53]) (fun z hz => by rw [wK_76 hz, wK_76 hz]) ?_ (fun c h1 h2 => by rw [wK_o h1 h2, wK_o h1 h2])
  rw [wK_113, wK_113]
  funext x
  by_cases c : n ≤ x ∧ x < n + (k : Int)
  · rw [if_pos c, if_pos c, h _ (by omega)]
  · rw [if_neg c, if_neg c]
theorem wrM_app {l l' : List Int} : wrM (wrM m n l) (n + (l.length : Int)) l' = wrM m n (l ++ l') := by
  unfold wrM
  rw [wK_wK, List.length_append]
  refine wK_c (fun i hi => ?_)
  show (if i < l.length then l.getD i 0 else l'.getD (i - l.length) 0) = (l ++ l').getD i 0
  by_cases c : i < l.length
  · rw [if_pos c, List.getD_eq_getElem?_getD, List.getD_eq_getElem?_getD, List.getElem?_append_left c]
  · rw [if_neg c, List.getD_eq_getElem?_getD, List.getD_eq_getElem?_getD, List.getElem?_append_right (by omega)]
/-- a code's bits -/
def cdL (v : Int) : Nat := Nat.log2 (v + 1).toNat
def cdf (v : Int) (k : Nat) : Int := (v + 1) / ((2 ^ (2 * cdL v - k) : Nat) : Int) % 2
def cd (v : Int) : List Int := (List.range (2 * cdL v + 1)).map (cdf v)
theorem cd_len : (cd v).length = 2 * cdL v + 1 := by
  unfold cd
  rw [List.length_map, List.length_range]
theorem cd_get (h : k < 2 * cdL v + 1) : (cd v).getD k 0 = cdf v k := by
  unfold cd
  rw [List.getD_eq_getElem?_getD, List.getElem?_map, List.getElem?_range h]
  rfl
theorem cdL_b (h0 : 0 ≤ v) : ((2 ^ cdL v : Nat) : Int) ≤ v + 1 ∧ v + 1 < ((2 ^ (cdL v + 1) : Nat) : Int) := by
  unfold cdL
  have a := Nat.log2_self_le (n := (v + 1).toNat) (by omega)
  have b := Nat.lt_log2_self (n := (v + 1).toNat)
  omega
theorem cdL_lt (h0 : 0 ≤ v) (h : v + 1 < ((2 ^ k : Nat) : Int)) : cdL v < k := by
  unfold cdL
  exact (Nat.log2_lt (by omega)).mpr (by omega)
theorem cd_01 {b : Int} (h : b ∈ cd v) : b = 0 ∨ b = 1 := by
  unfold cd at h
  obtain ⟨k, -, rfl⟩ := List.mem_map.mp h
  unfold cdf
  omega
theorem k_232l (h : m 76 53 = n) (n0 : 0 ≤ n) (hl : n + (len : Int) ≤ 60000) (l32 : len ≤ 32) (x0 : 0 ≤ x) (x1 : x < 2147483648) : jd_232_l4 x ((len : Int) - 1) m = some (wK m n (fun k => x / ((2 ^ (len - 1 - k) : Nat) : Int) % 2) len) := by
  unfold jd_232_l4
  have := w_for (f := fun u : (Int × jM) => jd_232_s4 x u.1 u.2) (fun k => ((len : Int) - 1 - (k : Int), wK m n (fun k => x / ((2 ^ (len - 1 - k) : Nat) : Int) % 2) k)) len (x := wK m n (fun k => x / ((2 ^ (len - 1 - k) : Nat) : Int) % 2) len) (fun k hk => ?_) ?_ (n_fu (by omega))
  · rw [wK_0 h, show (len : Int) - 1 - ((0 : Nat) : Int) = (len : Int) - 1 by omega] at this
    exact this
  · dsimp only
    unfold jd_232_s4
    have hb : jwb (jand (jshr x ((len : Int) - 1 - (k : Int))) 1) = x / ((2 ^ (len - 1 - k) : Nat) : Int) % 2 := by
      rw [show (len : Int) - 1 - (k : Int) = ((len - 1 - k : Nat) : Int) by omega, n_shr (by omega) (by omega) (by omega), n_and1]
      exact n_jwb (by omega) (by omega)
    rw [n_jw (z := (len : Int) - 1 - (k : Int)) (by omega) (by omega), if_neg (by omega), wK_53, y_mw 113 60000 rfl rfl (by omega) (by omega), Option.bind_some, jms_o (show (76 : Nat) ≠ 113 by decide), wK_53, Option.bind_some, hb]
    have e : jms (jms (wK m n (fun k => x / ((2 ^ (len - 1 - k) : Nat) : Int) % 2) k) 113 (n + (k : Int)) (x / ((2 ^ (len - 1 - k) : Nat) : Int) % 2)) 76 53 (n + (k : Int) + 1) = wK m n (fun k => x / ((2 ^ (len - 1 - k) : Nat) : Int) % 2) (k + 1) := by
      refine wK_ext (by rw [jms_e, wK_53]; omega) (fun z hz => by rw [jms_i hz, jms_o (by decide), wK_76 hz, wK_76 hz]) ?_ (fun c h1 h2 => by rw [jms_o h1, jms_o h2, wK_o h1 h2, wK_o h1 h2])
      rw [jms_o (by decide), wK_113]
      funext y
      by_cases ey : y = n + (k : Int)
      · rw [ey, jms_e, if_pos (by omega), show (n + (k : Int) - n).toNat = k by omega]
      · rw [jms_i ey, wK_113]
        exact if_c (by omega)
    rw [e, show (len : Int) - 1 - ((k + 1 : Nat) : Int) = (len : Int) - 1 - (k : Int) + -1 by omega]
  · dsimp only
    unfold jd_232_s4
    rw [n_jw (z := (len : Int) - 1 - (len : Int)) (by omega) (by omega), if_pos (by omega)]
theorem k_232 (h : m 76 53 = n) (n0 : 0 ≤ n) (hl : n + (len : Int) ≤ 60000) (l32 : len ≤ 32) (x0 : 0 ≤ x) (x1 : x < 2147483648) : jd_232 x (len : Int) m = some (wK m n (fun k => x / ((2 ^ (len - 1 - k) : Nat) : Int) % 2) len) := by
  unfold jd_232
  rw [k_232l h n0 hl l32 x0 x1, Option.bind_some]
theorem k_233 (h0 : 0 ≤ v) (h1 : v + 1 < 1073741824) : jd_233 (v + 1) = some ((cdL v : Nat) : Int) := by
  obtain ⟨b1, b2⟩ := cdL_b h0
  have c30 : cdL v < 30 := cdL_lt h0 (by omega)
  have lp : jd_233_l2 (v + 1) 0 = some ((cdL v : Nat) : Int) := by
    unfold jd_233_l2
    refine w_for (f := fun u : Int => jd_233_s2 (v + 1) u) (fun k => ((k : Nat) : Int)) (cdL v) (fun k hk => ?_) ?_ (n_fu (by omega))
    · have p2 : ((2 ^ (k + 1) : Nat) : Int) ≤ ((2 ^ cdL v : Nat) : Int) := Int.ofNat_le.mpr (Nat.pow_le_pow_right (by decide) (by omega))
      have pp : (0 : Int) < ((2 ^ k : Nat) : Int) := Int.ofNat_lt.mpr (Nat.pow_pos (by decide))
      have q : 2 ≤ (v + 1) / ((2 ^ k : Nat) : Int) := by
        refine (Int.le_ediv_iff_mul_le pp).mpr ?_
        rw [Nat.pow_succ] at p2
        omega
      have q2 : (v + 1) / ((2 ^ k : Nat) : Int) ≤ v + 1 := Int.ediv_le_self _ (by omega)
      show jd_233_s2 (v + 1) (k : Int) = _
      unfold jd_233_s2
      rw [n_shr (by omega) (by omega) (by omega), n_jw (z := (v + 1) / ((2 ^ k : Nat) : Int)) (by omega) (by omega), if_neg (by omega), show ((k + 1 : Nat) : Int) = (k : Int) + 1 by omega]
    · have pp : (0 : Int) < ((2 ^ cdL v : Nat) : Int) := Int.ofNat_lt.mpr (Nat.pow_pos (by decide))
      have q : (v + 1) / ((2 ^ cdL v : Nat) : Int) < 2 := by
        refine (Int.ediv_lt_iff_lt_mul pp).mpr ?_
        rw [Nat.pow_succ] at b2
        omega
      have q0 : 0 ≤ (v + 1) / ((2 ^ cdL v : Nat) : Int) := Int.ediv_nonneg (by omega) (by omega)
      show jd_233_s2 (v + 1) ((cdL v : Nat) : Int) = _
      unfold jd_233_s2
      rw [n_shr (by omega) (by omega) (by omega), n_jw (z := (v + 1) / ((2 ^ cdL v : Nat) : Int)) (by omega) (by omega), if_pos (by omega)]
  unfold jd_233
  rw [lp, Option.bind_some]
theorem k_235 (h0 : 0 ≤ v) (h1 : v + 1 < 1073741824) : jd_235 v = some ((cd v).length : Int) := by
  unfold jd_235
  rw [k_233 h0 h1, Option.bind_some, cd_len]
  show some (2 * ((cdL v : Nat) : Int) + 1) = _
  congr 1
theorem k_234 (h : m 76 53 = n) (n0 : 0 ≤ n) (h0 : 0 ≤ v) (h1 : v + 1 < 1073741824) (hl : n + ((cd v).length : Int) ≤ 60000) : jd_234 v m = some (wrM m n (cd v)) := by
  rw [cd_len] at hl
  have c30 : cdL v < 30 := cdL_lt h0 (by omega)
  obtain ⟨b1, b2⟩ := cdL_b h0
  unfold jd_234 wrM
  rw [k_233 h0 h1, Option.bind_some, k_232 h n0 (by omega) (by omega) (Int.le_refl 0) (by decide), Option.bind_some]
  have e := k_232 (m := wK m n (fun k => 0 / ((2 ^ (cdL v - 1 - k) : Nat) : Int) % 2) (cdL v)) (n := n + ((cdL v : Nat) : Int)) (len := cdL v + 1) (x := v + 1) wK_53 (by omega) (by omega) (by omega) (by omega) (by omega)
  rw [show (((cdL v) + 1 : Nat) : Int) = ((cdL v : Nat) : Int) + 1 by omega] at e
  rw [e, Option.bind_some, wK_wK, cd_len, show cdL v + (cdL v + 1) = 2 * cdL v + 1 by omega]
  congr 1
  refine wK_c (fun i hi => ?_)
  rw [cd_get hi]
  unfold cdf
  by_cases c : i < cdL v
  · rw [if_pos c, Int.zero_ediv]
    have : (v + 1) / ((2 ^ (2 * cdL v - i) : Nat) : Int) = 0 := Int.ediv_eq_zero_of_lt (by omega) (Int.lt_of_lt_of_le b2 (Int.ofNat_le.mpr (Nat.pow_le_pow_right (by decide) (by omega))))
    rw [this]
  · rw [if_neg c, show cdL v + 1 - 1 - (i - cdL v) = 2 * cdL v - i by omega]
/-- the class's length of a code -/
theorem c_11 (h0 : 0 ≤ v) (h1 : v + 1 < 268435456) : jd_11 v = some ((cd v).length : Int) := by
  obtain ⟨b1, b2⟩ := cdL_b h0
  have c30 : cdL v < 28 := cdL_lt h0 (by omega)
  have lp : jd_11_l2 v 1 = some (((cdL v : Nat) : Int) + 1) := by
    unfold jd_11_l2
    refine w_for (f := fun u : Int => jd_11_s2 v u) (fun k => ((k : Nat) : Int) + 1) (cdL v) (fun k hk => ?_) ?_ (n_fu (by omega))
    · have p2 : ((2 ^ (k + 1) : Nat) : Int) ≤ ((2 ^ cdL v : Nat) : Int) := Int.ofNat_le.mpr (Nat.pow_le_pow_right (by decide) (by omega))
      have pp : (0 : Int) < ((2 ^ (k + 1) : Nat) : Int) := Int.ofNat_lt.mpr (Nat.pow_pos (by decide))
      have q : 1 ≤ (v + 1) / ((2 ^ (k + 1) : Nat) : Int) := (Int.le_ediv_iff_mul_le pp).mpr (by omega)
      have q2 : (v + 1) / ((2 ^ (k + 1) : Nat) : Int) ≤ v + 1 := Int.ediv_le_self _ (by omega)
      show jd_11_s2 v ((k : Int) + 1) = _
      unfold jd_11_s2
      rw [n_jw (z := (k : Int) + 1) (by omega) (by omega), if_neg (by omega), show (k : Int) + 1 = ((k + 1 : Nat) : Int) by omega, n_shr (by omega) (by omega) (by omega), n_jw (z := (v + 1) / ((2 ^ (k + 1) : Nat) : Int)) (by omega) (by omega), if_neg (by omega)]
    · have q : (v + 1) / ((2 ^ (cdL v + 1) : Nat) : Int) = 0 := Int.ediv_eq_zero_of_lt (by omega) b2
      show jd_11_s2 v (((cdL v : Nat) : Int) + 1) = _
      unfold jd_11_s2
      rw [n_jw (z := ((cdL v : Nat) : Int) + 1) (by omega) (by omega), if_neg (by omega), show ((cdL v : Nat) : Int) + 1 = ((cdL v + 1 : Nat) : Int) by omega, n_shr (by omega) (by omega) (by omega), q, if_pos (by decide)]
  unfold jd_11
  rw [lp, Option.bind_some, cd_len]
  congr 1
  omega
end BitsW
