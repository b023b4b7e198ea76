/-! the model lays a film's head and bytes -/
section HeadM
variable {m : jM} {f n : Int}
theorem k_308b (f0 : 0 ≤ f) (f8 : f < 8) (hn : m 76 47 = n) (n0 : 0 ≤ n) (n1 : n ≤ 24090) : jd_308_l69 f 0 m = some (ims m 89 (fun x => if 24100 * f ≤ x ∧ x < 24100 * f + n then jwb (m 112 (x - 24100 * f)) else m 89 x)) := by
  unfold jd_308_l69
  have := w_for (f := fun u : (Int × jM) => jd_308_s69 f u.1 u.2) (fun k => ((k : Int), ims m 89 (fun x => if 24100 * f ≤ x ∧ x < 24100 * f + (k : Int) then jwb (m 112 (x - 24100 * f)) else m 89 x))) n.toNat (x := ims m 89 (fun x => if 24100 * f ≤ x ∧ x < 24100 * f + n then jwb (m 112 (x - 24100 * f)) else m 89 x)) (fun k hk => ?_) ?_ (n_fu (n := n.toNat) (by omega))
  · have e : ims m 89 (fun x => if 24100 * f ≤ x ∧ x < 24100 * f + ((0 : Nat) : Int) then jwb (m 112 (x - 24100 * f)) else m 89 x) = m := by
      have : (fun x : Int => if 24100 * f ≤ x ∧ x < 24100 * f + ((0 : Nat) : Int) then jwb (m 112 (x - 24100 * f)) else m 89 x) = m 89 := by
        funext x
        exact if_neg (by omega)
      rw [this]
      exact ims_self
    rw [e] at this
    exact this
  · dsimp only
    unfold jd_308_s69
    have q1 : ∀ g : Int → Int, ims m 89 g 76 47 = n := fun _ => hn
    have q2 : ∀ g : Int → Int, ims m 89 g 112 = m 112 := fun _ => rfl
    have e : jiu (fun x : Int => if 24100 * f ≤ x ∧ x < 24100 * f + (k : Int) then jwb (m 112 (x - 24100 * f)) else m 89 x) (24100 * f + (k : Int)) (jwb (m 112 k)) = fun x : Int => if 24100 * f ≤ x ∧ x < 24100 * f + ((k + 1 : Nat) : Int) then jwb (m 112 (x - 24100 * f)) else m 89 x := by
      funext x
      unfold jiu
      by_cases c : x = 24100 * f + (k : Int)
      · rw [if_pos c, if_pos (by omega), c, show 24100 * f + (k : Int) - 24100 * f = (k : Int) by omega]
      · rw [if_neg c]
        exact if_c (by omega)
    rw [q1, n_jw (z := n) (by omega) (by omega), n_jw (z := (k : Int)) (by omega) (by omega), if_neg (by omega), y_mb 112 24100 rfl rfl (by omega) (by omega), Option.bind_some, q2, y_mw 89 192800 rfl rfl (by omega) (by omega), Option.bind_some, ims_jms, e, show ((k + 1 : Nat) : Int) = (k : Int) + 1 by omega]
  · dsimp only
    unfold jd_308_s69
    have q1 : ∀ g : Int → Int, ims m 89 g 76 47 = n := fun _ => hn
    rw [q1, n_jw (z := n) (by omega) (by omega), n_jw (by omega) (by omega), if_pos (by omega), show ((n.toNat : Nat) : Int) = n by omega]
/-- the model when the head and the bytes are laid -/
def mHd (m : jM) (f n : Int) : jM := ims (jms (jms (jms (jms (jms (jms m 83 f (m 76 32)) 84 f (m 76 33)) 85 f (m 76 34)) 86 f (jwb (m 112 5))) 87 f (m 76 35)) 88 f n) 89 (fun x => if 24100 * f ≤ x ∧ x < 24100 * f + n then jwb (m 112 (x - 24100 * f)) else m 89 x)
theorem k_308h (f0 : 0 ≤ f) (f8 : f < 8) (hf : m 76 12 = f) (hn : m 76 47 = n) (n0 : 0 ≤ n) (n1 : n ≤ 24090) : jd_308 m = (jd_308_l103 f 0 (mHd m f n)).bind fun x => some (f, jms x 76 12 (x 76 12 + 1)) := by
  have l := k_308b (m := jms (jms (jms (jms (jms (jms m 83 f (m 76 32)) 84 f (m 76 33)) 85 f (m 76 34)) 86 f (jwb (m 112 5))) 87 f (m 76 35)) 88 f n) f0 f8 hn n0 n1
  unfold jd_308
  rw [hf, y_mw 83 8 rfl rfl f0 f8, Option.bind_some, y_mw 84 8 rfl rfl f0 f8, Option.bind_some, y_mw 85 8 rfl rfl f0 f8, Option.bind_some, y_mb 112 24100 rfl rfl (by decide) (by decide), Option.bind_some, y_mw 86 8 rfl rfl f0 f8, Option.bind_some, y_mw 87 8 rfl rfl f0 f8, Option.bind_some, y_mw 88 8 rfl rfl f0 f8, Option.bind_some]
  have e47 : jms (jms (jms (jms (jms m 83 f (m 76 32)) 84 f (m 76 33)) 85 f (m 76 34)) 86 f (jwb (m 112 5))) 87 f (m 76 35) = jms (jms (jms (jms (jms m 83 f (m 76 32)) 84 f (m 76 33)) 85 f (m 76 34)) 86 f (jwb (m 112 5))) 87 f (m 76 35) := rfl
  have step : jd_308_l69 f 0 (jms (jms (jms (jms (jms (jms m 83 f (m 76 32)) 84 f (m 76 33)) 85 f (m 76 34)) 86 f (jwb (m 112 5))) 87 f (m 76 35)) 88 f (m 76 47)) = some (mHd m f n) := by
    rw [hn]
    exact l
  exact congrArg (fun o : Option jM => o.bind fun x20 => ((jd_308_l103 f 0 x20).bind fun x93 => ((some (jms x93 76 12 ((x93 76 12) + 1))).bind fun m95 => some (f, m95)))) step
theorem mHd_o {c : Nat} (h : c < 83 ∨ 89 < c) : mHd m f n c = m c := by
  unfold mHd
  rw [ims_o (by omega), jms_o (by omega), jms_o (by omega), jms_o (by omega), jms_o (by omega), jms_o (by omega), jms_o (by omega)]
theorem mHd_v : mHd m f n 83 f = m 76 32 ∧ mHd m f n 84 f = m 76 33 ∧ mHd m f n 85 f = m 76 34 ∧ mHd m f n 86 f = jwb (m 112 5) ∧ mHd m f n 87 f = m 76 35 ∧ mHd m f n 88 f = n := by
  unfold mHd
  refine ⟨?_, ?_, ?_, ?_, ?_, ?_⟩
  · rw [ims_o (by decide), jms_o (by decide), jms_o (by decide), jms_o (by decide), jms_o (by decide), jms_o (by decide), jms_e]
  · rw [ims_o (by decide), jms_o (by decide), jms_o (by decide), jms_o (by decide), jms_o (by decide), jms_e]
  · rw [ims_o (by decide), jms_o (by decide), jms_o (by decide), jms_o (by decide), jms_e]
  · rw [ims_o (by decide), jms_o (by decide), jms_o (by decide), jms_e]
  · rw [ims_o (by decide), jms_o (by decide), jms_e]
  · rw [ims_o (by decide), jms_e]
theorem mHd_89 (i : Int) (i0 : 0 ≤ i) (i1 : i < n) : mHd m f n 89 (24100 * f + i) = jwb (m 112 i) := by
  unfold mHd
  rw [ims_e, if_pos (by omega), show 24100 * f + i - 24100 * f = i by omega]
theorem mHd_f {g : Int} (h : g ≠ f) (x : Nat) (x0 : 83 ≤ x) (x1 : x ≤ 88) : mHd m f n x g = m x g := by
  unfold mHd
  rw [ims_o (by omega), jms_i h, jms_i h, jms_i h, jms_i h, jms_i h, jms_i h]
theorem mHd_89f (n1 : n ≤ 24100) {g i : Int} (h : g < f) (i0 : 0 ≤ i) (i1 : i < 24100) : mHd m f n 89 (24100 * g + i) = m 89 (24100 * g + i) := by
  unfold mHd
  rw [ims_e, if_neg (by omega)]
end HeadM
