/-! cutting: a kept picture's bytes, the model's loop -/
section KeepL
variable {m : jM} {len z x1 x2 x3 x4 x5 x6 hd np : Int}
/-- the bytes of a kept picture -/
def kpB (m : jM) (b np : Int) : Int → Int := fun i => if i = 1 then np else m 89 (b + i) % 256
theorem k_328b (f0 : 0 ≤ x1) (f1 : x1 < 8) (h6 : 0 ≤ x6) (h6' : x6 < 96) (h93 : m 93 x6 = z) (h94 : m 94 x6 = hd) (z0 : 0 ≤ z) (z1 : z ≤ 2000) (d0 : 0 ≤ hd) (d1 : hd + 5 + z ≤ 24067) (hp : m 91 x6 - x4 + m 76 91 = np) (h47 : m 76 47 = len) (l0 : 0 ≤ len) (l1 : len + 5 + z ≤ 24067) : jd_328_l21 x1 x2 x3 x4 x5 x6 0 m = some (mCp m (kpB m (24100 * x1 + hd) np) len (5 + z)) := by
  unfold jd_328_l21
  have := w_for (f := fun u : (Int × jM) => jd_328_s21 x1 x2 x3 x4 x5 x6 u.1 u.2) (fun k => ((k : Int), mCp m (kpB m (24100 * x1 + hd) np) len (k : Int))) (5 + z).toNat (x := mCp m (kpB m (24100 * x1 + hd) np) len (5 + z)) (fun k hk => ?_) ?_ (n_fu (by omega))
  · rw [show ((0 : Nat) : Int) = 0 from rfl, mCp_0 h47] at this
    exact this
  · dsimp only
    obtain ⟨g1, g2, g3, -, -⟩ := mCp_f (m := m) (g := kpB m (24100 * x1 + hd) np) (len := len) (t := (k : Int))
    obtain ⟨M, hM⟩ : ∃ M, M = mCp m (kpB m (24100 * x1 + hd) np) len (k : Int) := ⟨_, rfl⟩
    have ks : ∀ u : Int, u % 256 = kpB m (24100 * x1 + hd) np (k : Int) % 256 → jd_292 u M = some (mCp m (kpB m (24100 * x1 + hd) np) len ((k : Int) + 1)) := fun u hu => by
      rw [k_292 (len := len + (k : Int)) (by rw [hM]; exact g3) (by omega) (by omega), hM, ← mCp_s (by omega), show jwb u = jwb (kpB m (24100 * x1 + hd) np (k : Int)) by unfold jwb; omega]
    rw [← hM] at g1 g2 g3 ⊢
    have e93 : M 93 x6 = z := by rw [g1 93 (by decide) (by decide)]; exact h93
    have e94 : M 94 x6 = hd := by rw [g1 94 (by decide) (by decide)]; exact h94
    have e89 : M 89 = m 89 := g1 89 (by decide) (by decide)
    unfold jd_328_s21 jd_328_b89
    rw [y_ma 93 96 rfl rfl h6 (by omega), Option.bind_some, e93, n_jw (z := 5 + z) (by omega) (by omega), n_jw (z := (k : Int)) (by omega) (by omega), if_neg (by omega), y_ma 94 96 rfl rfl h6 (by omega), Option.bind_some, e94, y_mb 89 192800 rfl rfl (by omega) (by omega), Option.bind_some, e89, show ((k + 1 : Nat) : Int) = (k : Int) + 1 by omega]
    by_cases c : (k : Int) = 1
    · rw [if_pos c, y_ma 91 96 rfl rfl h6 (by omega), Option.bind_some, g1 91 (by decide) (by decide), g2 91 (by decide), hp, ks np (by unfold kpB; rw [if_pos c]), Option.bind_some]
    · rw [if_neg c, n_and255, n_jwb_m', ks _ (by unfold kpB; rw [if_neg c]), Option.bind_some]
  · dsimp only
    obtain ⟨g1, -, -, -, -⟩ := mCp_f (m := m) (g := kpB m (24100 * x1 + hd) np) (len := len) (t := 5 + z)
    rw [show (((5 + z).toNat : Nat) : Int) = 5 + z by omega]
    unfold jd_328_s21
    rw [y_ma 93 96 rfl rfl h6 (by omega), Option.bind_some, g1 93 (by decide) (by decide), h93, if_pos (Int.le_refl _)]
end KeepL
