/-! the model mends; waves of the model to the end -/
section MendM
variable {m m1 m2 : jM} {w h k q x y by' : Int} {D D' : Int → Prop} {U : Int → Int}
/-- written: the indices of D, with U, and marked -/
def Wr (D : Int → Prop) (U : Int → Int) (m1 m' : jM) : Prop := (∀ j, D j → m' 109 j = U j ∧ m' 110 j = 1) ∧ (∀ j, ¬ D j → m' 109 j = m1 109 j ∧ m' 110 j = m1 110 j) ∧ ∀ a : Nat, a ≠ 109 → a ≠ 110 → m' a = m1 a
theorem Wr_0 (h : ∀ j, ¬ D j) : Wr D U m m := ⟨fun j hj => absurd hj (h j), fun _ _ => ⟨rfl, rfl⟩, fun _ _ _ => rfl⟩
theorem Wr_c (h : ∀ j, D j ↔ D' j) (W : Wr D U m1 m2) : Wr D' U m1 m2 := ⟨fun j hj => W.1 j ((h j).2 hj), fun j hj => W.2.1 j (fun e => hj ((h j).1 e)), W.2.2⟩
theorem Wr_s {z : Int} (W : Wr D U m1 m2) : Wr (fun j => D j ∨ j = z) U m1 (jms (jms m2 109 z (U z)) 110 z 1) := by
  refine ⟨fun j hj => ?_, fun j hj => ?_, fun a h1 h2 => by rw [jms_o h2, jms_o h1]; exact W.2.2 a h1 h2⟩
  · by_cases c : j = z
    · subst c
      rw [jms_o (by decide), jms_e, jms_e]
      exact ⟨rfl, rfl⟩
    · rw [jms_i c, jms_i c, jms_i c, jms_i c]
      exact W.1 j (hj.resolve_right c)
  · have c : j ≠ z := fun e => hj (Or.inr e)
    rw [jms_i c, jms_i c, jms_i c, jms_i c]
    exact W.2.1 j (fun e => hj (Or.inl e))
theorem k_237 (hq : okI q) (sw : isSd w) (mw : m 76 33 = w) : jd_237 k q x y m = 864 * k + pf q + y * pw w q + x := by
  unfold jd_237
  rw [mw, k_206 hq sw, k_207 hq]
theorem k_241 {z : Int} (hq : okI q) (sw : isSd w) (mw : m 76 33 = w) (ez : 864 * k + pf q + y * pw w q + x = z) (z0 : 0 ≤ z) (z1 : z < 10368) : (by' = -1 → jd_241 k q x y by' m = some (jms (jms m 109 z 128) 110 z 1)) ∧ (0 ≤ by' → by' < 12 → 0 ≤ pf q + y * pw w q + x → pf q + y * pw w q + x < 864 → jd_241 k q x y by' m = some (jms (jms m 109 z (m 109 (864 * by' + pf q + y * pw w q + x))) 110 z 1)) := by
  unfold jd_241 jd_241_b44
  rw [k_237 hq sw mw, ez]
  refine ⟨fun hb => ?_, fun b0 b1 p0 p1 => ?_⟩
  · rw [hb, if_pos (by decide), y_mw 109 10368 rfl rfl z0 z1, Option.bind_some, y_mw 110 10368 rfl rfl z0 z1, Option.bind_some]
  · rw [n_jw (by omega) (by omega), if_neg (by omega), k_237 hq sw mw, y_ma 109 10368 rfl rfl (by omega) (by omega), Option.bind_some, y_mw 109 10368 rfl rfl z0 z1, Option.bind_some, y_mw 110 10368 rfl rfl z0 z1, Option.bind_some]
theorem jnz_1 {z : Int} (h0 : 1 ≤ z) (h1 : z < 2147483648) : jnz z = some () := by
  unfold jnz
  rw [n_jw (by omega) (by omega)]
  exact if_neg (by omega)
theorem k_275i (sw : isSd w) (sh : isSd h) (mw : m1 76 33 = w) (mh : m1 76 34 = h) (k0 : 0 ≤ k) (k1 : k < 12) (q0 : 0 ≤ q) (q2 : q ≤ 2) (hU : ∀ j, U j = 128) (W : Wr D U m1 m2) : ∃ m3, jd_275_l57 k q 0 m2 = some m3 ∧ Wr (fun j => D j ∨ (864 * k + pf q ≤ j ∧ j < 864 * k + pf q + pw w q * pw h q)) U m1 m3 := by
  have hq : okI q := by unfold okI; omega
  have bw := pw_sd sw q
  have ps := pl_sz sw sh q0 q2
  have l : wT (jd_275_l57 k q 0 m2) (fun o => Wr (fun j => D j ∨ (864 * k + pf q ≤ j ∧ j < 864 * k + pf q + pw w q * pw h q)) U m1 o) := by
    unfold jd_275_l57
    refine w_lp (fun n u => u.1 = (n : Int) ∧ Wr (fun j => D j ∨ (864 * k + pf q ≤ j ∧ j < 864 * k + pf q + (n : Int))) U m1 u.2) (pw w q * pw h q).toNat (fun n u hn hu => ?_) (n_fu (by omega)) ⟨rfl, Wr_c (fun j => ⟨Or.inl, fun e => e.resolve_right (by omega)⟩) W⟩
    obtain ⟨i, m'⟩ := u
    obtain ⟨e1, W'⟩ := hu
    dsimp only at e1 W' ⊢
    subst e1
    have mw' : m' 76 33 = w := by rw [W'.2.2 76 (by decide) (by decide)]; exact mw
    have mh' : m' 76 34 = h := by rw [W'.2.2 76 (by decide) (by decide)]; exact mh
    unfold jd_275_s57
    rw [mw', mh', k_206 hq sw, k_206 hq sh, n_jw (z := pw w q * pw h q) (by omega) (by omega), n_jw (z := (n : Int)) (by omega) (by omega)]
    by_cases cn : pw w q * pw h q ≤ (n : Int)
    · rw [if_pos cn]
      exact wT_ret (Wr_c (fun j => ⟨fun e => e.imp id (fun e => ⟨e.1, by omega⟩), fun e => e.imp id (fun e => ⟨e.1, by omega⟩)⟩) W')
    · have r := dm_r (W := pw w q) (H := pw h q) (k := (n : Int)) (by omega) (by omega) (by omega)
      have de := dm_e (pw w q) (n : Int)
      have ez : 864 * k + pf q + (n : Int) / pw w q * pw w q + (n : Int) % pw w q = 864 * k + pf q + (n : Int) := by omega
      have st := (k_241 (m := m') (by' := -1) hq sw mw' ez (by omega) (by omega)).1 rfl
      rw [if_neg cn, jnz_1 (by omega) (by omega), Option.bind_some, Option.bind_some, n_rem (by omega) (by omega) (by omega) (by omega), n_div (by omega) (by omega) (by omega) (by omega), st, Option.bind_some]
      refine wT_ret ⟨by omega, by omega, ?_⟩
      have := Wr_s (z := 864 * k + pf q + (n : Int)) W'
      rw [hU] at this
      exact Wr_c (fun j => ⟨fun e => by
        rcases e with (e | e) | e
        · exact Or.inl e
        · exact Or.inr ⟨e.1, by omega⟩
        · exact Or.inr ⟨by omega, by omega⟩, fun e => by
        rcases e with e | e
        · exact Or.inl (Or.inl e)
        · by_cases c : j = 864 * k + pf q + (n : Int)
          · exact Or.inr c
          · exact Or.inl (Or.inr ⟨e.1, by omega⟩)⟩) this
  obtain ⟨m3, e, W3⟩ := l
  exact ⟨m3, e, W3⟩
/-- planes from sp on -/
def plD (w h k sp hi : Int) : Int → Prop := fun j => ∃ q, sp ≤ q ∧ q < hi ∧ 864 * k + pf q ≤ j ∧ j < 864 * k + pf q + pw w q * pw h q
theorem k_275o {sp : Int} (sw : isSd w) (sh : isSd h) (mw : m1 76 33 = w) (mh : m1 76 34 = h) (k0 : 0 ≤ k) (k1 : k < 12) (s0 : 0 ≤ sp) (s2 : sp ≤ 3) : ∃ m3, jd_275_l49 k sp m1 = some m3 ∧ Wr (plD w h k sp 3) (fun _ => 128) m1 m3 := by
  have l : wT (jd_275_l49 k sp m1) (fun o => Wr (plD w h k sp 3) (fun _ => 128) m1 o) := by
    unfold jd_275_l49
    refine w_lp (fun n u => u.1 = sp + (n : Int) ∧ Wr (plD w h k sp (sp + (n : Int))) (fun _ => 128) m1 u.2) (3 - sp).toNat (fun n u hn hu => ?_) (n_fu (by omega)) ⟨by omega, Wr_0 (fun j hj => by obtain ⟨q, h1, h2, -⟩ := hj; omega)⟩
    obtain ⟨i, m'⟩ := u
    obtain ⟨e1, W'⟩ := hu
    dsimp only at e1 W' ⊢
    subst e1
    unfold jd_275_s49
    rw [n_jw (z := sp + (n : Int)) (by omega) (by omega)]
    by_cases cn : 3 ≤ sp + (n : Int)
    · rw [if_pos cn]
      rw [show sp + (n : Int) = 3 by omega] at W'
      exact wT_ret W'
    · obtain ⟨m3, e3, W3⟩ := k_275i (q := sp + (n : Int)) sw sh mw mh k0 k1 (by omega) (by omega) (fun _ => rfl) W'
      rw [if_neg cn, e3, Option.bind_some]
      refine wT_ret ⟨by omega, by omega, Wr_c (fun j => ⟨fun e => ?_, fun e => ?_⟩) W3⟩
      · rcases e with ⟨q, a1, a2, a3⟩ | e
        · exact ⟨q, a1, by omega, a3⟩
        · exact ⟨sp + (n : Int), by omega, by omega, e⟩
      · obtain ⟨q, a1, a2, a3⟩ := e
        by_cases c : q = sp + (n : Int)
        · subst c; exact Or.inr a3
        · exact Or.inl ⟨q, a1, by omega, a3⟩
  obtain ⟨m3, e, W3⟩ := l
  exact ⟨m3, e, W3⟩
theorem plD_md {sp : Int} (sw : isSd w) (sh : isSd h) (s0 : 0 ≤ sp) (q0 : 0 ≤ q) (q2 : q ≤ 2) (x0 : 0 ≤ x) (x1 : x < pw w q) (y0 : 0 ≤ y) (y1 : y < pw h q) : plD w h k sp 3 (864 * k + (pf q + (y * pw w q + x))) ↔ mdAt 1 sp w h q x y := by
  have db := dm_b (W := pw w q) (H := pw h q) y0 y1 x0 x1
  unfold mdAt
  rw [if_neg (by decide), if_pos rfl]
  refine ⟨fun e => ?_, fun e => ⟨q, e.2, by omega, by omega, by omega⟩⟩
  obtain ⟨q', a1, a2, a3, a4⟩ := e
  by_cases c : q = q'
  · subst c; exact ⟨s0, a1⟩
  · have := (pl_ne (p := q) (q := q') (k := y * pw w q + x) (j := 864 * k + (pf q + (y * pw w q + x)) - (864 * k + pf q')) sw sh q0 q2 (by omega) (by omega) c db.1 db.2 (by omega) (by omega)).2
    exact absurd (by omega) this
end MendM
