/-! cutting: the pictures shown are taken by the model -/
section CpyM
variable {s : hS} {Q : hQ} {hm : hO} {I m : jM} {b : Nat} {fo lo hi p k x2 bs sr t : Int}
def cpM (m : jM) (bs sr t : Int) : jM := ims m 121 (fun x => if bs ≤ x ∧ x < bs + t then m 99 (sr + (x - bs)) else m 121 x)
theorem cpM_o {y : Nat} (hy : y ≠ 121) : cpM m bs sr t y = m y := ims_o hy
theorem cpM_0 : cpM m bs sr 0 = m := by
  funext y i
  by_cases e : y = 121
  · rw [e]
    unfold cpM
    rw [ims_e, if_neg (by omega)]
  · rw [cpM_o e]
theorem cpM_s (t0 : 0 ≤ t) : jms (cpM m bs sr t) 121 (bs + t) (m 99 (sr + t)) = cpM m bs sr (t + 1) := by
  funext y i
  by_cases e : y = 121
  · rw [e]
    by_cases d : i = bs + t
    · rw [d, jms_e]
      unfold cpM
      rw [ims_e, if_pos (by omega), show bs + t - bs = t by omega]
    · rw [jms_i d]
      unfold cpM
      rw [ims_e, ims_e]
      by_cases d2 : bs ≤ i ∧ i < bs + t
      · rw [if_pos d2, if_pos (by omega)]
      · rw [if_neg d2, if_neg (by omega)]
  · rw [jms_o e, cpM_o e, cpM_o e]
theorem k_318c (C : FilmC s Q I m b fo) (f0 : 0 ≤ fo) (f8 : fo < 8) (p0 : 0 ≤ p) (p1 : p < m 87 fo) {m' : jM} (e91 : m' 91 = m 91) : jd_318 fo p m' = some (12 * fo + I (b + 6) p) ∧ 0 ≤ I (b + 6) p ∧ I (b + 6) p < m 87 fo := by
  obtain ⟨k, k0, k1, kp, ko, -⟩ := film_k C p0 p1
  have n := C.2.2.2.1
  have n12 := n.2.1
  rw [ko]
  refine ⟨k_318 ⟨f0, f8⟩ ⟨k0, by omega⟩ (by unfold okI; omega) (by rw [e91]; exact kp) (fun j j0 jk => ?_), k0, k1⟩
  have w := n.2.2.2.2.2.2.2 j j0 (by omega)
  have wk := n.2.2.2.2.2.2.2 k k0 k1
  have d := wk.2.2.2.2.2.2.2.2.1 j j0 jk
  have wb : 0 ≤ m 91 (12 * fo + j) ∧ m 91 (12 * fo + j) < m 87 fo := w.2.1
  have d' : m 91 (12 * fo + j) ≠ m 91 (12 * fo + k) := d
  rw [e91]
  exact ⟨by unfold okI; omega, by rw [← kp]; exact d'⟩
theorem k_13 (h318 : ∀ m' : jM, m' 91 = m 91 → jd_318 fo p m' = some (12 * fo + k)) (f0 : 0 ≤ fo) (f8 : fo < 8) (k0 : 0 ≤ k) (k1 : k < 12) (p0 : lo ≤ p) (p1 : p - lo < 12) : jd_329_l13 fo x2 lo hi p 0 m = some (cpM m (864 * (p - lo)) (864 * (12 * fo + k)) 864) := by
  unfold jd_329_l13
  have := w_for (f := fun u : (Int × jM) => jd_329_s13 fo x2 lo hi p u.1 u.2) (fun t => ((t : Int), cpM m (864 * (p - lo)) (864 * (12 * fo + k)) (t : Int))) 864 (x := cpM m (864 * (p - lo)) (864 * (12 * fo + k)) 864) (fun t ht => by
    dsimp only
    unfold jd_329_s13
    rw [n_jw (z := (t : Int)) (by omega) (by omega), if_neg (by omega), h318 _ (cpM_o (by decide)), Option.bind_some, y_ma 99 82944 rfl rfl (by omega) (by omega), Option.bind_some, cpM_o (show (99 : Nat) ≠ 121 by decide), y_mw 121 10368 rfl rfl (by omega) (by omega), Option.bind_some, cpM_s (by omega), show ((t + 1 : Nat) : Int) = (t : Int) + 1 by omega]) (by
    dsimp only
    unfold jd_329_s13
    rw [if_pos (by decide)]
    rfl) (n_fu (by omega))
  rw [show ((0 : Nat) : Int) = 0 from rfl, cpM_0] at this
  exact this
theorem k_329c (C : FilmC s Q I m b fo) (f0 : 0 ≤ fo) (f8 : fo < 8) (l0 : 0 ≤ lo) (lh : lo ≤ hi) (h1 : hi < m 87 fo) : ∃ m' : jM, jd_329_l3 fo x2 lo hi lo m = some m' ∧ (∀ c : Nat, c ≠ 121 → m' c = m c) ∧ ∀ i x : Int, 0 ≤ i → i ≤ hi - lo → 0 ≤ x → x < 864 → m' 121 (864 * i + x) = m 99 (864 * (12 * fo + I (b + 6) (lo + i)) + x) := by
  have n12 : m 87 fo ≤ 12 := C.2.2.2.1.2.1
  have step : ∀ (t : Nat) (u : Int × jM), t ≤ (hi - lo + 1).toNat → (∃ mt : jM, u = (lo + (t : Int), mt) ∧ (∀ c : Nat, c ≠ 121 → mt c = m c) ∧ ∀ i x : Int, 0 ≤ i → i < (t : Int) → 0 ≤ x → x < 864 → mt 121 (864 * i + x) = m 99 (864 * (12 * fo + I (b + 6) (lo + i)) + x)) → wT ((fun u : (Int × jM) => jd_329_s3 fo x2 lo hi u.1 u.2) u) (fun o => jse o (fun u' => t < (hi - lo + 1).toNat ∧ ∃ mt : jM, u' = (lo + ((t + 1 : Nat) : Int), mt) ∧ (∀ c : Nat, c ≠ 121 → mt c = m c) ∧ ∀ i x : Int, 0 ≤ i → i < ((t + 1 : Nat) : Int) → 0 ≤ x → x < 864 → mt 121 (864 * i + x) = m 99 (864 * (12 * fo + I (b + 6) (lo + i)) + x)) (fun m' => (∀ c : Nat, c ≠ 121 → m' c = m c) ∧ ∀ i x : Int, 0 ≤ i → i ≤ hi - lo → 0 ≤ x → x < 864 → m' 121 (864 * i + x) = m 99 (864 * (12 * fo + I (b + 6) (lo + i)) + x))) := by
    intro t u ht Y
    obtain ⟨mt, rfl, y1, y2⟩ := Y
    dsimp only
    unfold jd_329_s3
    by_cases ct : t = (hi - lo + 1).toNat
    · refine ⟨.inr mt, ?_, y1, fun i x i0 i1 x0 x1 => y2 i x i0 (by omega) x0 x1⟩
      rw [n_jw (z := hi) (by omega) (by omega), n_jw (z := lo + (t : Int)) (by omega) (by omega), if_pos (by omega)]
    · obtain ⟨q1, q2, q3⟩ := k_318c (p := lo + (t : Int)) C f0 f8 (by omega) (by omega) (m' := m) rfl
      have l13 := k_13 (m := mt) (x2 := x2) (lo := lo) (hi := hi) (p := lo + (t : Int)) (k := I (b + 6) (lo + (t : Int))) (fun m' e => (k_318c C f0 f8 (by omega) (by omega) (e.trans (y1 91 (by decide)))).1) f0 f8 q2 (by omega) (by omega) (by omega)
      refine ⟨.inl (lo + (t : Int) + 1, cpM mt (864 * (lo + (t : Int) - lo)) (864 * (12 * fo + I (b + 6) (lo + (t : Int)))) 864), ?_, by omega, cpM mt (864 * (lo + (t : Int) - lo)) (864 * (12 * fo + I (b + 6) (lo + (t : Int)))) 864, by rw [show lo + ((t + 1 : Nat) : Int) = lo + (t : Int) + 1 by omega], fun c hc => by rw [cpM_o hc, y1 c hc], fun i x i0 i1 x0 x1 => ?_⟩
      · rw [n_jw (z := hi) (by omega) (by omega), n_jw (z := lo + (t : Int)) (by omega) (by omega), if_neg (by omega), l13, Option.bind_some]
      · unfold cpM
        rw [ims_e]
        by_cases ci : i = (t : Int)
        · rw [if_pos (by omega), y1 99 (by decide), ci, show 864 * (t : Int) + x - 864 * (lo + (t : Int) - lo) = x by omega]
        · rw [if_neg (by omega)]
          exact y2 i x i0 (by omega) x0 x1
  unfold jd_329_l3
  obtain ⟨m', e, r⟩ := w_lp (f := fun u : (Int × jM) => jd_329_s3 fo x2 lo hi u.1 u.2) (Q := fun m' => (∀ c : Nat, c ≠ 121 → m' c = m c) ∧ ∀ i x : Int, 0 ≤ i → i ≤ hi - lo → 0 ≤ x → x < 864 → m' 121 (864 * i + x) = m 99 (864 * (12 * fo + I (b + 6) (lo + i)) + x)) (fun t u => ∃ mt : jM, u = (lo + (t : Int), mt) ∧ (∀ c : Nat, c ≠ 121 → mt c = m c) ∧ ∀ i x : Int, 0 ≤ i → i < (t : Int) → 0 ≤ x → x < 864 → mt 121 (864 * i + x) = m 99 (864 * (12 * fo + I (b + 6) (lo + i)) + x)) (hi - lo + 1).toNat step (n_fu (by omega)) (s0 := (lo, m)) ⟨m, by rw [show lo + ((0 : Nat) : Int) = lo by omega], fun _ _ => rfl, fun i x i0 i1 => absurd i1 (by omega)⟩
  exact ⟨m', e, r⟩
end CpyM
