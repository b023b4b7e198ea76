/-! the model hands a film's bytes and heads over -/
section Hand
variable {m : jM} {f n T : Int}
theorem k_309b (f0 : 0 ≤ f) (f8 : f < 8) (hn : m 76 47 = n) (n0 : 0 ≤ n) (n1 : n ≤ 24090) : jd_309_l57 f 0 m = some (ims m 112 (fun x => if 0 ≤ x ∧ x < n then jwb (m 89 (24100 * f + x)) else m 112 x)) := by
  unfold jd_309_l57
  have := w_for (f := fun u : (Int × jM) => jd_309_s57 f u.1 u.2) (fun k => ((k : Int), ims m 112 (fun x => if 0 ≤ x ∧ x < (k : Int) then jwb (m 89 (24100 * f + x)) else m 112 x))) n.toNat (x := ims m 112 (fun x => if 0 ≤ x ∧ x < n then jwb (m 89 (24100 * f + x)) else m 112 x)) (fun k hk => ?_) ?_ (n_fu (n := n.toNat) (by omega))
  · have e : ims m 112 (fun x => if 0 ≤ x ∧ x < ((0 : Nat) : Int) then jwb (m 89 (24100 * f + x)) else m 112 x) = m := by
      have : (fun x : Int => if 0 ≤ x ∧ x < ((0 : Nat) : Int) then jwb (m 89 (24100 * f + x)) else m 112 x) = m 112 := by
        funext x
        exact if_neg (by omega)
      rw [this]
      exact ims_self
    rw [e] at this
    exact this
  · dsimp only
    unfold jd_309_s57
    have q1 : ∀ g : Int → Int, ims m 112 g 76 47 = n := fun _ => hn
    have q2 : ∀ g : Int → Int, ims m 112 g 89 = m 89 := fun _ => rfl
    have e : jiu (fun x : Int => if 0 ≤ x ∧ x < (k : Int) then jwb (m 89 (24100 * f + x)) else m 112 x) (k : Int) (jwb (m 89 (24100 * f + (k : Int)))) = fun x : Int => if 0 ≤ x ∧ x < ((k + 1 : Nat) : Int) then jwb (m 89 (24100 * f + x)) else m 112 x := by
      funext x
      unfold jiu
      by_cases c : x = k
      · rw [if_pos c, if_pos (by omega), c]
      · rw [if_neg c]
        exact if_c (by omega)
    rw [q1, n_jw (z := n) (by omega) (by omega), n_jw (z := (k : Int)) (by omega) (by omega), if_neg (by omega), y_mb 89 192800 rfl rfl (by omega) (by omega), Option.bind_some, q2, y_mw 112 24100 rfl rfl (by omega) (by omega), Option.bind_some, ims_jms, e, show ((k + 1 : Nat) : Int) = (k : Int) + 1 by omega]
  · dsimp only
    unfold jd_309_s57
    have q1 : ∀ g : Int → Int, ims m 112 g 76 47 = n := fun _ => hn
    rw [q1, n_jw (z := n) (by omega) (by omega), n_jw (by omega) (by omega), if_pos (by omega), show ((n.toNat : Nat) : Int) = n by omega]
/-- heads handed over: k of them -/
def hdO (m : jM) (f k : Int) : jM := fun c x => if (102 ≤ c ∧ c ≤ 106) ∧ 0 ≤ x ∧ x < k then m (c - 12) (12 * f + x) else m c x
theorem hdO_o {k : Int} {c : Nat} (h : c < 102 ∨ 106 < c) : hdO m f k c = m c := by
  funext x
  exact if_neg (by omega)
theorem hdO_v {k x : Int} {c : Nat} (h : 102 ≤ c ∧ c ≤ 106) (x0 : 0 ≤ x) (x1 : x < k) : hdO m f k c x = m (c - 12) (12 * f + x) := if_pos ⟨h, x0, x1⟩
theorem hdO_s (k : Nat) : jms (jms (jms (jms (jms (hdO m f k) 102 (k : Int) (m 90 (12 * f + k))) 103 (k : Int) (m 91 (12 * f + k))) 104 (k : Int) (m 92 (12 * f + k))) 105 (k : Int) (m 93 (12 * f + k))) 106 (k : Int) (m 94 (12 * f + k)) = hdO m f ((k + 1 : Nat) : Int) := by
  funext c x
  by_cases hx : x = k
  · by_cases hc : 102 ≤ c ∧ c ≤ 106
    · rw [hdO_v hc (by omega) (by omega), hx]
      have : c = 102 ∨ c = 103 ∨ c = 104 ∨ c = 105 ∨ c = 106 := by omega
      rcases this with e | e | e | e | e <;> subst e
      · rw [jms_o (by decide), jms_o (by decide), jms_o (by decide), jms_o (by decide), jms_e]
      · rw [jms_o (by decide), jms_o (by decide), jms_o (by decide), jms_e]
      · rw [jms_o (by decide), jms_o (by decide), jms_e]
      · rw [jms_o (by decide), jms_e]
      · rw [jms_e]
    · rw [hdO_o (by omega), jms_o (by omega), jms_o (by omega), jms_o (by omega), jms_o (by omega), jms_o (by omega), hdO_o (by omega)]
  · rw [jms_i hx, jms_i hx, jms_i hx, jms_i hx, jms_i hx]
    unfold hdO
    exact if_c (by omega)
theorem k_309h (f0 : 0 ≤ f) (f8 : f < 8) (hT : m 76 35 = T) (t0 : 0 ≤ T) (t12 : T ≤ 12) : jd_309_l91 f 0 m = some (hdO m f T) := by
  unfold jd_309_l91
  have := w_for (f := fun u : (Int × jM) => jd_309_s91 f u.1 u.2) (fun k => ((k : Int), hdO m f (k : Int))) T.toNat (x := hdO m f T) (fun k hk => ?_) ?_ (n_fu (n := T.toNat) (by omega))
  · have e : hdO m f ((0 : Nat) : Int) = m := by
      funext c x
      exact if_neg (by omega)
    rw [e] at this
    exact this
  · dsimp only
    unfold jd_309_s91
    have q1 : hdO m f (k : Int) 76 35 = T := by rw [hdO_o (by omega)]; exact hT
    have q : ∀ c : Nat, c < 102 → hdO m f (k : Int) c = m c := fun c hc => hdO_o (by omega)
    rw [q1, n_jw (z := T) (by omega) (by omega), n_jw (z := (k : Int)) (by omega) (by omega), if_neg (by omega), y_ma 90 96 rfl rfl (by omega) (by omega), Option.bind_some, q 90 (by decide), y_mw 102 12 rfl rfl (by omega) (by omega), Option.bind_some, y_ma 91 96 rfl rfl (by omega) (by omega), Option.bind_some, jms_o (by decide), q 91 (by decide), y_mw 103 12 rfl rfl (by omega) (by omega), Option.bind_some, y_ma 92 96 rfl rfl (by omega) (by omega), Option.bind_some, jms_o (by decide), jms_o (by decide), q 92 (by decide), y_mw 104 12 rfl rfl (by omega) (by omega), Option.bind_some, y_ma 93 96 rfl rfl (by omega) (by omega), Option.bind_some, jms_o (by decide), jms_o (by decide), jms_o (by decide), q 93 (by decide), y_mw 105 12 rfl rfl (by omega) (by omega), Option.bind_some, y_ma 94 96 rfl rfl (by omega) (by omega), Option.bind_some, jms_o (by decide), jms_o (by decide), jms_o (by decide), jms_o (by decide), q 94 (by decide), y_mw 106 12 rfl rfl (by omega) (by omega), Option.bind_some, hdO_s k, show ((k + 1 : Nat) : Int) = (k : Int) + 1 by omega]
  · dsimp only
    unfold jd_309_s91
    have q1 : hdO m f ((T.toNat : Nat) : Int) 76 35 = T := by rw [hdO_o (by omega)]; exact hT
    rw [q1, n_jw (z := T) (by omega) (by omega), n_jw (by omega) (by omega), if_pos (by omega), show ((T.toNat : Nat) : Int) = T by omega]
/-- the model when film f is handed over -/
def mHn (m : jM) (f n T : Int) : jM := hdO (ims (jms (jms (jms (jms (jms (jms m 76 32 (m 83 f)) 76 33 (m 84 f)) 76 34 (m 85 f)) 76 35 T) 76 36 0) 76 47 n) 112 (fun x => if 0 ≤ x ∧ x < n then jwb (m 89 (24100 * f + x)) else m 112 x)) f T
theorem k_309 (f0 : 0 ≤ f) (f8 : f < 8) (hT : m 87 f = T) (t0 : 0 ≤ T) (t12 : T ≤ 12) (hn : m 88 f = n) (n0 : 0 ≤ n) (n1 : n ≤ 24090) : jd_309 f m = some (mHn m f n T) := by
  have l1 := k_309b (m := jms (jms (jms (jms (jms (jms m 76 32 (m 83 f)) 76 33 (m 84 f)) 76 34 (m 85 f)) 76 35 T) 76 36 0) 76 47 n) (n := n) f0 f8 jms_e n0 n1
  have l2 := k_309h (m := ims (jms (jms (jms (jms (jms (jms m 76 32 (m 83 f)) 76 33 (m 84 f)) 76 34 (m 85 f)) 76 35 T) 76 36 0) 76 47 n) 112 (fun x => if 0 ≤ x ∧ x < n then jwb (m 89 (24100 * f + x)) else m 112 x)) (T := T) f0 f8 (by rw [ims_o (by decide), jms_i (by decide), jms_i (by decide), jms_e]) t0 t12
  have e84 : ∀ v, jms m 76 32 v 84 f = m 84 f := fun _ => rfl
  have e85 : ∀ v u, jms (jms m 76 32 v) 76 33 u 85 f = m 85 f := fun _ _ => rfl
  have e87 : ∀ v u x, jms (jms (jms m 76 32 v) 76 33 u) 76 34 x 87 f = T := fun _ _ _ => hT
  have e88 : ∀ v u x y z, jms (jms (jms (jms (jms m 76 32 v) 76 33 u) 76 34 x) 76 35 y) 76 36 z 88 f = n := fun _ _ _ _ _ => hn
  unfold jd_309
  rw [y_ma 83 8 rfl rfl f0 f8, Option.bind_some, Option.bind_some, y_ma 84 8 rfl rfl f0 f8, Option.bind_some, Option.bind_some, e84, y_ma 85 8 rfl rfl f0 f8, Option.bind_some, Option.bind_some, e85, y_ma 87 8 rfl rfl f0 f8, Option.bind_some, Option.bind_some, e87, Option.bind_some, y_ma 88 8 rfl rfl f0 f8, Option.bind_some, Option.bind_some, e88]
  refine (congrArg (fun o : Option jM => o.bind fun x28 => ((jd_309_l91 f 0 x28).bind fun x51 => some x51)) l1).trans ?_
  rw [Option.bind_some]
  exact congrArg (fun o : Option jM => o.bind fun x51 => some x51) l2
end Hand
