/-! cutting: where a group ends, both sides -/
section GEnd
variable {s : hS} {Q : hQ} {hm : hO} {I m : jM} {b : Nat} {fo T st e : Int} {K P : Int → Int}
theorem ge_x (A : Int → Prop) : ∀ (r : Nat) (p : Int), p + (r : Int) = T → ∃ e : Int, p ≤ e ∧ e ≤ T ∧ (∀ j : Int, p ≤ j → j < e → ¬ A j) ∧ (e = T ∨ A e)
  | 0, p, h => ⟨T, by omega, Int.le_refl _, fun j j0 j1 => absurd j1 (by omega), Or.inl rfl⟩
  | r + 1, p, h => by
    by_cases c : A p
    · exact ⟨p, Int.le_refl _, by omega, fun j j0 j1 => absurd j1 (by omega), Or.inr c⟩
    · obtain ⟨e, e1, e2, e3, e4⟩ := ge_x A r (p + 1) (by omega)
      refine ⟨e, by omega, e2, fun j j0 j1 => ?_, e4⟩
      by_cases cj : j = p
      · rw [cj]; exact c
      · exact e3 j (by omega) j1
theorem c_38 (F : FilmAt s Q hm b fo) (i4 : I b 4 = T) (T2 : T ≤ 12) (s0 : 0 ≤ st) (se : st < e) (eT : e ≤ T) (h1 : ∀ j : Int, st < j → j < e → ¬ I (b + 7) j % 2 = 1) (h2 : e = T ∨ I (b + 7) e % 2 = 1) : jd_38 b st (hh s Q I) = some e := by
  have q13 := F_q F 6 13 rfl rfl
  have i4' : I b ((4 : Nat) : Int) = T := i4
  have sp : ∀ k : Int, 0 ≤ k → k < T → jd_38_s4 b k (hh s Q I) = if I (b + 7) k % 2 = 1 then some (.inr (.inl k)) else some (.inl (k + 1)) := fun k k0 k1 => by
    unfold jd_38_s4
    rw [F_gi F, Option.bind_some, i4', n_jw (z := T) (by omega) (by omega), n_jw (z := k) (by omega) (by omega), if_neg (by omega), F_gr F, Option.bind_some, q13, Option.bind_some, F_az F (6 + 1) 12 rfl rfl rfl k0 (by omega), Option.bind_some, show I (b + (6 + 1)) k = I (b + 7) k from rfl]
    have b1 := Int.emod_nonneg (I (b + 7) k) (show (2 : Int) ≠ 0 by decide)
    have b2 := Int.emod_lt_of_pos (I (b + 7) k) (show (0 : Int) < 2 by decide)
    generalize I (b + 7) k % 2 = z at *
    rw [n_jw (z := z) (by omega) (by omega)]
    by_cases c : z = 1
    · rw [if_pos c, if_neg (by omega)]
    · rw [if_neg c, if_pos (by omega)]
  have lp : ∃ y, jd_38_l4 b (st + 1) (hh s Q I) = some y ∧ ((y = .inl e) ∨ (y = .inr () ∧ e = T)) := by
    have g0 : ∀ k : Nat, k < (e - (st + 1)).toNat → jd_38_s4 b (st + 1 + (k : Int)) (hh s Q I) = some (.inl (st + 1 + ((k + 1 : Nat) : Int))) := fun k hk => by
      rw [sp _ (by omega) (by omega), if_neg (h1 _ (by omega) (by omega))]
      rw [show st + 1 + (k : Int) + 1 = st + 1 + ((k + 1 : Nat) : Int) by omega]
    by_cases c : e = T
    · refine ⟨.inr (), ?_, Or.inr ⟨rfl, c⟩⟩
      unfold jd_38_l4
      have := w_for (f := fun u : Int => jd_38_s4 b u (hh s Q I)) (fun k => st + 1 + (k : Int)) (e - (st + 1)).toNat (x := Sum.inr ()) g0 (by
        rw [show st + 1 + (((e - (st + 1)).toNat : Nat) : Int) = T by omega]
        unfold jd_38_s4
        rw [F_gi F, Option.bind_some, i4', if_pos (Int.le_refl _)]) (n_fu (by omega))
      rw [show st + 1 + ((0 : Nat) : Int) = st + 1 by omega] at this
      exact this
    · refine ⟨.inl e, ?_, Or.inl rfl⟩
      unfold jd_38_l4
      have := w_for (f := fun u : Int => jd_38_s4 b u (hh s Q I)) (fun k => st + 1 + (k : Int)) (e - (st + 1)).toNat (x := Sum.inl e) g0 (by
        rw [show st + 1 + (((e - (st + 1)).toNat : Nat) : Int) = e by omega, sp e (by omega) (by omega)]
        rcases h2 with h | h
        · exact absurd h c
        · rw [if_pos h]) (n_fu (by omega))
      rw [show st + 1 + ((0 : Nat) : Int) = st + 1 by omega] at this
      exact this
  obtain ⟨y, hy, alt⟩ := lp
  unfold jd_38
  rw [hy, Option.bind_some]
  rcases alt with rfl | ⟨rfl, eT'⟩
  · rfl
  · show ((jgi (hh s Q I) b 2 4).bind fun v15 => some v15) = some e
    rw [F_gi F, Option.bind_some, i4', eT']
theorem k_326 (f0 : 0 ≤ fo) (f8 : fo < 8) (m87 : m 87 fo = T) (T2 : T ≤ 12) (s0 : 0 ≤ st) (se : st < e) (eT : e ≤ T) (h1 : ∀ j : Int, st < j → j < e → ¬ m 95 (12 * fo + j) % 2 = 1) (h2 : e = T ∨ m 95 (12 * fo + e) % 2 = 1) : jd_326 fo st m = some e := by
  have sp : ∀ k : Int, 0 ≤ k → k < T → jd_326_s4 fo k m = if m 95 (12 * fo + k) % 2 = 1 then some (.inr k) else some (.inl (k + 1)) := fun k k0 k1 => by
    unfold jd_326_s4
    rw [y_ma 87 8 rfl rfl f0 (by omega), Option.bind_some, m87, n_jw (z := T) (by omega) (by omega), n_jw (z := k) (by omega) (by omega), if_neg (by omega), y_mz 95 96 rfl rfl (by omega) (by omega), Option.bind_some]
    have b1 := Int.emod_nonneg (m 95 (12 * fo + k)) (show (2 : Int) ≠ 0 by decide)
    have b2 := Int.emod_lt_of_pos (m 95 (12 * fo + k)) (show (0 : Int) < 2 by decide)
    generalize m 95 (12 * fo + k) % 2 = z at *
    rw [n_jw (z := z) (by omega) (by omega)]
    by_cases c : z = 1
    · rw [if_pos c, if_neg (by omega)]
    · rw [if_neg c, if_pos (by omega)]
  unfold jd_326 jd_326_l4
  have := w_for (f := fun u : Int => jd_326_s4 fo u m) (fun k => st + 1 + (k : Int)) (e - (st + 1)).toNat (x := e) (fun k hk => by
    rw [sp _ (by omega) (by omega), if_neg (h1 _ (by omega) (by omega)), show st + 1 + (k : Int) + 1 = st + 1 + ((k + 1 : Nat) : Int) by omega]) (by
    rw [show st + 1 + (((e - (st + 1)).toNat : Nat) : Int) = e by omega]
    by_cases c : e = T
    · unfold jd_326_s4
      rw [y_ma 87 8 rfl rfl f0 (by omega), Option.bind_some, m87, c, if_pos (Int.le_refl _)]
    · rw [sp e (by omega) (by omega)]
      rcases h2 with h | h
      · exact absurd h c
      · rw [if_pos h]) (n_fu (by omega))
  rw [show st + 1 + ((0 : Nat) : Int) = st + 1 by omega] at this
  exact (congrArg (fun o : Option Int => o.bind fun x7 => some x7) this).trans rfl
end GEnd
