/-! MAKE: the reel taken, both sides -/
section TakeM
variable {s : hS} {Q : hQ} {hm : hO} {I m : jM} {a : Nat} {f w h T cod : Int}
theorem Pix_c {g g' : Int → Int} (e : ∀ j : Int, 0 ≤ j → j < 864 → g' j = g j) (X : Pix I a w h g) : Pix I a w h g' := by
  obtain ⟨x1, x2, sw, sh, x5⟩ := X
  refine ⟨x1, x2, sw, sh, fun p k p0 p2 k0 k1 => ?_⟩
  have lb : 0 ≤ pf p + k ∧ pf p + k < 864 := by
    have pc : p = 0 ∨ p = 1 ∨ p = 2 := by omega
    rcases pc with rfl | rfl | rfl <;> rcases sw with rfl | rfl | rfl <;> rcases sh with rfl | rfl | rfl <;> unfold pf <;> simp only [pw] at k1 <;> simp at k1 ⊢ <;> omega
  rw [e _ lb.1 lb.2]
  exact x5 p k p0 p2 k0 k1
/-- the rows of references after the reel is taken -/
def qTk (Q : hQ) (k : Int) : hQ := fun x => if x = 68 then (fun i => if 0 ≤ i ∧ i < k then Q 4 i else Q 68 i) else if x = 42 then (fun i => if i = 6 then some 3 else Q 42 i) else Q x
theorem qTk_o {k : Int} {x : Nat} (h1 : x ≠ 68) (h2 : x ≠ 42) : qTk Q k x = Q x := by
  unfold qTk
  rw [if_neg h1, if_neg h2]
theorem qTk_s {k : Int} {b : Nat} (k0 : 0 ≤ k) (hb : Q 4 k = some b) : rms (qTk Q k) 68 k (some b) = qTk Q (k + 1) := by
  funext x i
  unfold rms
  by_cases c : x = 68
  · rw [if_pos c]
    unfold jru
    by_cases d : i = k
    · rw [if_pos d, c, d]
      unfold qTk
      rw [if_pos rfl]
      show some b = if 0 ≤ k ∧ k < k + 1 then Q 4 k else Q 68 k
      rw [if_pos ⟨k0, by omega⟩, hb]
    · rw [if_neg d, c]
      unfold qTk
      rw [if_pos rfl]
      show (if 0 ≤ i ∧ i < k then Q 4 i else Q 68 i) = if 0 ≤ i ∧ i < k + 1 then Q 4 i else Q 68 i
      by_cases d2 : 0 ≤ i ∧ i < k
      · rw [if_pos d2, if_pos (by omega)]
      · rw [if_neg d2, if_neg (by omega)]
  · rw [if_neg c]
    unfold qTk
    rw [if_neg c, if_neg c]
theorem Lay_Tk (L : Lay s Q hm) {k : Int} : Lay s (qTk Q k) hm := by
  obtain ⟨l1, l2, l3, l4⟩ := L
  refine ⟨l1, l2, l3, fun x y b e => ?_⟩
  unfold qTk
  by_cases c : x = 68
  · subst c
    unfold sq at e
    cases e
  · rw [if_neg c]
    by_cases d : x = 42
    · subst d
      rw [if_pos rfl]
      have : ((y : Nat) : Int) ≠ 6 := fun e' => by
        have : y = 6 := by omega
        subst this
        unfold sq at e
        cases e
      show (if ((y : Nat) : Int) = 6 then some 3 else Q 42 (y : Int)) = some b
      rw [if_neg this]
      exact l4 42 y b e
    · rw [if_neg d]
      exact l4 x y b e
theorem c_60 (L : Lay s Q hm) (T0 : 0 ≤ T) (T1 : T ≤ 12) (hs : ∀ i : Int, 0 ≤ i → i < T → ∃ b, Q 4 i = some b ∧ PicAt s Q hm b (100 + i)) : jd_60 42 (some 4) T (some 3) (hh s Q I) = some (hh s (qTk Q T) (jms I 42 5 T)) := by
  have q0 : qTk Q 0 = rms Q 42 6 (some 3) := by
    funext x i
    unfold qTk rms
    by_cases c : x = 68
    · subst c
      rw [if_pos rfl, if_neg (show ¬ (68 : Nat) = 42 by decide)]
      show (if 0 ≤ i ∧ i < 0 then Q 4 i else Q 68 i) = Q 68 i
      rw [if_neg (by omega)]
    · rw [if_neg c]
      by_cases d : x = 42
      · rw [if_pos d, if_pos d]
        rfl
      · rw [if_neg d, if_neg d]
  have i5 : jms I 42 5 T 42 ((5 : Nat) : Int) = T := jms_e
  have l : jd_60_l13 42 (some 4) 0 (hh s (qTk Q 0) (jms I 42 5 T)) = some (hh s (qTk Q T) (jms I 42 5 T)) := by
    unfold jd_60_l13
    have := w_for (f := fun u : (Int × jH) => jd_60_s13 42 (some 4) u.1 u.2) (fun k => ((k : Int), hh s (qTk Q (k : Int)) (jms I 42 5 T))) T.toNat (x := hh s (qTk Q T) (jms I 42 5 T)) (fun k hk => ?_) ?_ (n_fu (by omega))
    · exact this
    · dsimp only
      have Lk : Lay s (qTk Q (k : Int)) hm := Lay_Tk L
      obtain ⟨b, hb, P⟩ := hs (k : Int) (by omega) (by omega)
      have t4 : qTk Q (k : Int) 42 ((4 : Nat) : Int) = some 68 := Lq Lk rfl
      have hb' : qTk Q (k : Int) 4 (k : Int) = some b := by rw [qTk_o (by decide) (by decide)]; exact hb
      unfold jd_60_s13
      rw [y_gi Lk 42 4 rfl rfl, Option.bind_some, i5, n_jw (z := T) (by omega) (by omega), n_jw (z := (k : Int)) (by omega) (by omega), if_neg (by omega), y_gr Lk 42 4 rfl rfl, Option.bind_some, Option.bind_some, y_ar Lk 4 6 12 rfl rfl rfl (by omega) (by omega), Option.bind_some, hb', Option.bind_some, t4, Option.bind_some, y_tr Lk 68 6 12 rfl rfl rfl (by omega) (by omega) P.2.1.1 (by rw [P.2.1.2.1]; rfl), Option.bind_some, qTk_s (by omega) hb, show ((k + 1 : Nat) : Int) = (k : Int) + 1 by omega]
    · dsimp only
      have Lk : Lay s (qTk Q ((T.toNat : Nat) : Int)) hm := Lay_Tk L
      unfold jd_60_s13
      rw [y_gi Lk 42 4 rfl rfl, Option.bind_some, i5, n_jw (z := T) (by omega) (by omega), n_jw (by omega) (by omega), if_pos (by omega), show ((T.toNat : Nat) : Int) = T by omega]
  unfold jd_60
  rw [y_pi L 42 4 rfl rfl, Option.bind_some, y_pr L 42 4 rfl rfl, Option.bind_some]
  rw [q0] at l
  exact (congrArg (fun o : Option jH => o.bind fun x20 => some x20) l).trans rfl
theorem k_300c (h7 : m 76 7 = T) (T0 : 0 ≤ T) (T1 : T ≤ 12) : jd_300_l73 0 m = some (ims m 121 (fun x => if 0 ≤ x ∧ x < 864 * T then m 81 x else m 121 x)) := by
  unfold jd_300_l73
  have := w_for (f := fun u : (Int × jM) => jd_300_s73 u.1 u.2) (fun k => ((k : Int), ims m 121 (fun x => if 0 ≤ x ∧ x < (k : Int) then m 81 x else m 121 x))) (864 * T).toNat (x := ims m 121 (fun x => if 0 ≤ x ∧ x < 864 * T then m 81 x else m 121 x)) (fun k hk => ?_) ?_ (n_fu (by omega))
  · have e : ims m 121 (fun x => if 0 ≤ x ∧ x < ((0 : Nat) : Int) then m 81 x else m 121 x) = m := by
      have : (fun x : Int => if 0 ≤ x ∧ x < ((0 : Nat) : Int) then m 81 x else m 121 x) = m 121 := by
        funext x
        exact if_neg (by omega)
      rw [this]
      exact ims_self
    rw [e] at this
    exact this
  · dsimp only
    unfold jd_300_s73
    have e7 : ∀ g : Int → Int, ims m 121 g 76 7 = T := fun g => by rw [ims_o (by decide)]; exact h7
    have e81 : ∀ g : Int → Int, ims m 121 g 81 = m 81 := fun g => ims_o (by decide)
    have e : jiu (fun x : Int => if 0 ≤ x ∧ x < (k : Int) then m 81 x else m 121 x) (k : Int) (m 81 (k : Int)) = fun x : Int => if 0 ≤ x ∧ x < ((k + 1 : Nat) : Int) then m 81 x else m 121 x := by
      funext x
      unfold jiu
      by_cases c : x = k
      · rw [if_pos c, if_pos (by omega), c]
      · rw [if_neg c]
        exact if_c (by omega)
    rw [e7, n_jw (z := 864 * T) (by omega) (by omega), n_jw (z := (k : Int)) (by omega) (by omega), if_neg (by omega), y_ma 81 10368 rfl rfl (by omega) (by omega), Option.bind_some, e81, y_mw 121 10368 rfl rfl (by omega) (by omega), Option.bind_some, ims_jms, e, show ((k + 1 : Nat) : Int) = (k : Int) + 1 by omega]
  · dsimp only
    unfold jd_300_s73
    have e7 : ∀ g : Int → Int, ims m 121 g 76 7 = T := fun g => by rw [ims_o (by decide)]; exact h7
    rw [e7, n_jw (z := 864 * T) (by omega) (by omega), n_jw (by omega) (by omega), if_pos (by omega), show (((864 * T).toNat : Nat) : Int) = 864 * T by omega]
end TakeM
