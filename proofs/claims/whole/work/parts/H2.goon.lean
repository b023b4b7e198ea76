/-! tick: a player goes on, model -/
section GoOnM
variable {m M N : jM} {f W n T ps st dl pr rt e fr : Int} {k : Nat}
def gM (M : jM) (k W dl st n : Int) : jM := if dl ≤ W - st ∨ W = n then jms (jms M 144 k W) 147 k 1 else jms M 144 k W
theorem k_359h (hk : k < 4) (h357 : jd_357 (k : Int) m = some (0, M)) (f0 : 0 ≤ f) (f8 : f < 8) (v1 : M 141 k = f) (v2 : M 142 k = rt) (v3 : M 143 k = dl) (v4 : M 144 k = pr) (v5 : M 145 k = st) (v88 : M 88 f = n) (bn : 0 ≤ n ∧ n ≤ 100000) (bp : 0 ≤ pr ∧ pr ≤ n) (br : 1 ≤ rt ∧ rt ≤ 4000) (bd : 0 ≤ dl ∧ dl ≤ 4000) (bt : 0 ≤ st ∧ st ≤ pr) (hW : W = if pr + rt < n then pr + rt else n) : jd_359 (k : Int) m = jd_359_b111 (k : Int) f (gM M k W dl st n) := by
  have z0 : (0 : Int) ≤ (k : Int) := by omega
  have z1 : (k : Int) < ((4 : Nat) : Int) := by omega
  have Wb : 0 ≤ W ∧ W ≤ n := by
    rw [hW]
    split <;> omega
  have b66 : jd_359_b66 (k : Int) f W (k : Int) M = jd_359_b111 (k : Int) f (gM M k W dl st n) := by
    have w4 : jms M 144 k W 144 k = W := jms_e
    have w5 : jms M 144 k W 145 k = st := by rw [jms_o (by decide)]; exact v5
    have w3 : jms M 144 k W 143 k = dl := by rw [jms_o (by decide)]; exact v3
    have w8 : jms M 144 k W 88 f = n := by rw [jms_o (by decide)]; exact v88
    unfold jd_359_b66 jd_359_b104 gM
    rw [y_mw 144 4 rfl rfl z0 z1, Option.bind_some, y_ma 144 4 rfl rfl z0 z1, Option.bind_some, y_ma 145 4 rfl rfl z0 z1, Option.bind_some, y_ma 143 4 rfl rfl z0 z1, Option.bind_some, w4, w5, w3, n_jw (z := dl) (by omega) (by omega), n_jw (z := W - st) (by omega) (by omega), y_mw 147 4 rfl rfl z0 z1, Option.bind_some, Option.bind_some, y_ma 88 8 rfl rfl f0 f8, Option.bind_some, w8, n_jw (z := W) (by omega) (by omega), n_jw (z := n) (by omega) (by omega)]
    by_cases c1 : dl ≤ W - st
    · rw [if_pos c1, if_pos (show dl ≤ W - st ∨ W = n from Or.inl c1)]
    · rw [if_neg c1]
      by_cases c2 : W = n
      · rw [if_pos c2, if_pos (show dl ≤ W - st ∨ W = n from Or.inr c2)]
      · rw [if_neg c2, if_neg (show ¬ (dl ≤ W - st ∨ W = n) by omega)]
  unfold jd_359
  rw [h357, Option.bind_some]
  show (if jw 0 = 0 then _ else _) = _
  rw [if_pos (show jw 0 = 0 by decide)]
  show ((jma M 141 k).bind fun v4 => ((jma M 144 k).bind fun v6 => ((jma M 142 k).bind fun v8 => ((jma M 88 v4).bind fun v10 => (if (jw v10) ≤ (jw (v6 + v8)) then ((jma M 88 v4).bind fun v13 => jd_359_b66 k v4 v13 k M) else ((jma M 144 k).bind fun v86 => ((jma M 142 k).bind fun v88 => jd_359_b66 k v4 (v86 + v88) k M))))))) = _
  rw [y_ma 141 4 rfl rfl z0 z1, Option.bind_some, v1, y_ma 144 4 rfl rfl z0 z1, Option.bind_some, v4, y_ma 142 4 rfl rfl z0 z1, Option.bind_some, v2, y_ma 88 8 rfl rfl f0 f8, Option.bind_some, v88, Option.bind_some, Option.bind_some, Option.bind_some, n_jw (z := n) (by omega) (by omega), n_jw (z := pr + rt) (by omega) (by omega), ← b66, hW]
  by_cases c : n ≤ pr + rt
  · rw [if_pos c, if_neg (show ¬ pr + rt < n by omega)]
  · rw [if_neg c, if_pos (show pr + rt < n by omega)]
theorem k_359t (hk : k < 4) (f0 : 0 ≤ f) (f8 : f < 8) (v6 : N 146 k = ps) (v7 : N 87 f = ps) : jd_359_b111 (k : Int) f N = some (-3, N) := by
  have z0 : (0 : Int) ≤ (k : Int) := by omega
  have z1 : (k : Int) < ((4 : Nat) : Int) := by omega
  unfold jd_359_b111
  rw [y_ma 146 4 rfl rfl z0 z1, Option.bind_some, y_ma 87 8 rfl rfl f0 f8, Option.bind_some, v6, v7, if_pos rfl]
theorem k_359z (hk : k < 4) (f0 : 0 ≤ f) (f8 : f < 8) (v6 : N 146 k = ps) (v7 : N 87 f = T) (bs : 0 ≤ ps ∧ ps < T) (bT : T ≤ 12) (v9 : N 147 k % 2 = 0) : jd_359_b111 (k : Int) f N = some (-2, N) := by
  have z0 : (0 : Int) ≤ (k : Int) := by omega
  have z1 : (k : Int) < ((4 : Nat) : Int) := by omega
  unfold jd_359_b111
  rw [y_ma 146 4 rfl rfl z0 z1, Option.bind_some, y_ma 87 8 rfl rfl f0 f8, Option.bind_some, v6, v7, n_jw (z := ps) (by omega) (by omega), n_jw (z := T) (by omega) (by omega), if_neg (by omega), y_mz 147 4 rfl rfl z0 z1, Option.bind_some, v9, if_pos (show jw 0 = 0 by decide)]
theorem k_359n (hk : k < 4) (f0 : 0 ≤ f) (f8 : f < 8) (v6 : N 146 k = ps) (v7 : N 87 f = T) (bs : 0 ≤ ps ∧ ps < T) (bT : T ≤ 12) (v9 : N 147 k % 2 = 1) (h318 : jd_318 f ps N = some (12 * f + e)) (be : 0 ≤ e ∧ e < 12) (v4 : N 144 k = W) (bW : 0 ≤ W ∧ W ≤ 100000) (bE : 0 ≤ N 94 (12 * f + e) + 5 + N 93 (12 * f + e) ∧ N 94 (12 * f + e) + 5 + N 93 (12 * f + e) ≤ 100000) (hE : ¬ N 94 (12 * f + e) + 5 + N 93 (12 * f + e) ≤ W) : jd_359_b111 (k : Int) f N = some (-1, jms N 148 k (N 148 k + 1)) := by
  have z0 : (0 : Int) ≤ (k : Int) := by omega
  have z1 : (k : Int) < ((4 : Nat) : Int) := by omega
  unfold jd_359_b111
  rw [y_ma 146 4 rfl rfl z0 z1, Option.bind_some, y_ma 87 8 rfl rfl f0 f8, Option.bind_some, v6, v7, n_jw (z := ps) (by omega) (by omega), n_jw (z := T) (by omega) (by omega), if_neg (by omega), y_mz 147 4 rfl rfl z0 z1, Option.bind_some, v9, if_neg (show ¬ jw 1 = 0 by decide), Option.bind_some, h318, Option.bind_some, y_ma 94 96 rfl rfl (by omega) (by omega), Option.bind_some, y_ma 93 96 rfl rfl (by omega) (by omega), Option.bind_some, y_ma 144 4 rfl rfl z0 z1, Option.bind_some, v4, n_jw (z := W) (by omega) (by omega), n_jw (z := N 94 (12 * f + e) + 5 + N 93 (12 * f + e)) (by omega) (by omega), if_neg hE, y_ma 148 4 rfl rfl z0 z1, Option.bind_some, y_mw 148 4 rfl rfl z0 z1, Option.bind_some]
def tkM (m' : jM) (k e ps : Int) : jM := jms (jms (ims m' 151 (fun x => if 864 * k ≤ x ∧ x < 864 * k + 864 then m' 109 (864 * e + (x - 864 * k)) else m' 151 x)) 149 k ps) 146 k (ps + 1)
theorem k_359y {m' : jM} (hk : k < 4) (f0 : 0 ≤ f) (f8 : f < 8) (v6 : N 146 k = ps) (v7 : N 87 f = T) (bs : 0 ≤ ps ∧ ps < T) (bT : T ≤ 12) (v9 : N 147 k % 2 = 1) (h318 : jd_318 f ps N = some (12 * f + e)) (be : 0 ≤ e ∧ e < 12) (v4 : N 144 k = W) (bW : 0 ≤ W ∧ W ≤ 100000) (bE : 0 ≤ N 94 (12 * f + e) + 5 + N 93 (12 * f + e) ∧ N 94 (12 * f + e) + 5 + N 93 (12 * f + e) ≤ 100000) (hE : N 94 (12 * f + e) + 5 + N 93 (12 * f + e) ≤ W) (h309 : jd_309 f N = some M) (h358 : jd_358 f e M = some fr) (h219 : jd_359_l219 k e fr (jms M 76 36 fr) = some m') (w6 : m' 146 k = ps) : jd_359_b111 (k : Int) f N = some (ps, tkM m' k e ps) := by
  have z0 : (0 : Int) ≤ (k : Int) := by omega
  have z1 : (k : Int) < ((4 : Nat) : Int) := by omega
  obtain ⟨g, hg⟩ : ∃ g : Int → Int, (fun x => if 864 * (k : Int) ≤ x ∧ x < 864 * (k : Int) + 864 then m' 109 (864 * e + (x - 864 * (k : Int))) else m' 151 x) = g := ⟨_, rfl⟩
  have kc := k_359c (m := m') (y := (k : Int)) (k := e) (by omega) (by omega) be.1 be.2
  rw [hg] at kc
  have u1 : ims m' 151 g 146 k = ps := by rw [ims_o (by decide)]; exact w6
  have u2 : jms (ims m' 151 g) 149 k ps 146 k = ps := by rw [jms_o (by decide)]; exact u1
  have u3 : jms (jms (ims m' 151 g) 149 k ps) 146 k (ps + 1) 149 k = ps := by rw [jms_o (by decide), jms_e]
  have u4 : jms M 76 36 fr 76 36 = fr := jms_e
  unfold jd_359_b111 tkM
  rw [hg, y_ma 146 4 rfl rfl z0 z1, Option.bind_some, y_ma 87 8 rfl rfl f0 f8, Option.bind_some, v6, v7, n_jw (z := ps) (by omega) (by omega), n_jw (z := T) (by omega) (by omega), if_neg (by omega), y_mz 147 4 rfl rfl z0 z1, Option.bind_some, v9, if_neg (show ¬ jw 1 = 0 by decide), Option.bind_some, h318, Option.bind_some, y_ma 94 96 rfl rfl (by omega) (by omega), Option.bind_some, y_ma 93 96 rfl rfl (by omega) (by omega), Option.bind_some, y_ma 144 4 rfl rfl z0 z1, Option.bind_some, v4, n_jw (z := W) (by omega) (by omega), n_jw (z := N 94 (12 * f + e) + 5 + N 93 (12 * f + e)) (by omega) (by omega), if_pos hE, h309, Option.bind_some, show 12 * f + e - 12 * f = e by omega, h358, Option.bind_some, Option.bind_some, u4, h219, Option.bind_some, kc, Option.bind_some, y_ma 146 4 rfl rfl z0 z1, Option.bind_some, u1, y_mw 149 4 rfl rfl z0 z1, Option.bind_some, y_ma 146 4 rfl rfl z0 z1, Option.bind_some, u2, y_mw 146 4 rfl rfl z0 z1, Option.bind_some, y_ma 149 4 rfl rfl z0 z1, Option.bind_some, u3]
end GoOnM
