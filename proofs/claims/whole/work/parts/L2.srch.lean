/-! making: the whole search, both sides -/
section Srch2
variable {s : hS} {Q : hQ} {hm : hO} {I J m M : jM} {b : Nat} {w h X Y wh vx vy g0 g1 a k q rc : Int} {W : Int → Int}
theorem srch_i {y ls bs : Int} (L : Lay s Q hm) (h6 : s.1 ≤ 1000000) (S : SI s Q I m b w h X Y wh g0 g1 a k q rc W) (F : SF wh I m J M) (B : BR J M wh ls bs rc) (y0 : -rc ≤ y) (y1 : y ≤ rc) : ∃ (ls' bs' : Int) (J' M' : jM), jd_17_l18 44 (some b) wh rc y ls (-rc) (hh s Q J) = some (ls', hh s Q J') ∧ jd_283_l30 k q a g0 g1 rc y bs (-rc) M = some (bs', M') ∧ SF wh I m J' M' ∧ BR J' M' wh ls' bs' rc ∧ 0 ≤ bs' := by
  have rc0 : 0 ≤ rc ∧ rc ≤ 8 := S.2.2.2.2.2.2.2.2.2
  unfold jd_17_l18 jd_283_l30
  refine (fun hw => ?_) (w_lp2 (f := fun u : (Int × Int × jH) => jd_17_s18 44 (some b) wh rc y u.1 u.2.1 u.2.2) (g := fun u : (Int × Int × jM) => jd_283_s30 k q a g0 g1 rc y u.1 u.2.1 u.2.2) (Q := fun x z => ∃ (ls' bs' : Int) (J' M' : jM), x = (ls', hh s Q J') ∧ z = (bs', M') ∧ SF wh I m J' M' ∧ BR J' M' wh ls' bs' rc ∧ 0 ≤ bs') (fun n u v => ∃ (ls' bs' : Int) (J' M' : jM), u = (ls', -rc + (n : Int), hh s Q J') ∧ v = (bs', -rc + (n : Int), M') ∧ SF wh I m J' M' ∧ BR J' M' wh ls' bs' rc ∧ (0 < n → 0 ≤ bs')) (2 * rc + 1).toNat (fun n u v hn J => ?_) (n_fu (by omega)) (n_fu (by omega)) (s0 := (ls, -rc, hh s Q J)) (t0 := (bs, -rc, M)) ⟨ls, bs, J, M, by rw [show -rc + ((0 : Nat) : Int) = -rc by omega], by rw [show -rc + ((0 : Nat) : Int) = -rc by omega], F, B, fun h => absurd h (by omega)⟩)
  · obtain ⟨x, z, e1, e2, ls', bs', J', M', rfl, rfl, h1, h2, h3⟩ := hw
    exact ⟨ls', bs', J', M', e1, e2, h1, h2, h3⟩
  · obtain ⟨ls', bs', J', M', rfl, rfl, F', B', z0⟩ := J
    by_cases c : -rc + (n : Int) ≤ rc
    · obtain ⟨l2, b2, J2, M2, e1, e2, F2, B2, p2⟩ := srch_1 (x := -rc + (n : Int)) (y := y) L h6 S F' B' (by omega) c y0 y1
      exact Or.inl ⟨_, _, e1, e2, by omega, l2, b2, J2, M2, by rw [show -rc + ((n + 1 : Nat) : Int) = -rc + (n : Int) + 1 by omega], by rw [show -rc + ((n + 1 : Nat) : Int) = -rc + (n : Int) + 1 by omega], F2, B2, fun _ => p2⟩
    · refine Or.inr ⟨(ls', hh s Q J'), (bs', M'), ?_, ?_, ls', bs', J', M', rfl, rfl, F', B', z0 (by omega)⟩
      · show jd_17_s18 44 (some b) wh rc y ls' (-rc + (n : Int)) (hh s Q J') = _
        unfold jd_17_s18
        rw [n_jw (z := rc) (by omega) (by omega), n_jw (z := -rc + (n : Int)) (by omega) (by omega), if_pos (by omega)]
      · show jd_283_s30 k q a g0 g1 rc y bs' (-rc + (n : Int)) M' = _
        unfold jd_283_s30
        rw [n_jw (z := rc) (by omega) (by omega), n_jw (z := -rc + (n : Int)) (by omega) (by omega), if_pos (by omega)]
/-- findVector and seekVector -/
theorem srch (L : Lay s Q hm) (h6 : s.1 ≤ 1000000) (S : SI s Q I m b w h X Y wh g0 g1 a k q rc W) (hrc : m 82 3 = rc) : ∃ (fx fy : Int) (J' M' : jM), jd_17 44 (some b) wh rc (hh s Q I) = some (hh s Q J') ∧ jd_283 k q a g0 g1 m = some M' ∧ SF wh I m J' M' ∧ J' 60 wh = fx ∧ J' 60 (wh + 1) = fy ∧ M' 76 76 = fx ∧ M' 76 77 = fy ∧ (-8 ≤ fx ∧ fx ≤ 8) ∧ -8 ≤ fy ∧ fy ≤ 8 := by
  have rc0 : 0 ≤ rc ∧ rc ≤ 8 := S.2.2.2.2.2.2.2.2.2
  have F0 : SF wh I m I m := ⟨fun _ _ _ _ _ _ => rfl, fun _ _ _ => rfl, fun _ _ => rfl, fun _ _ _ => rfl⟩
  have key : ∃ (J' M' : jM) (ls bs : Int), jd_17_l8 44 (some b) wh rc 2147483647 (-rc) (hh s Q I) = some (hh s Q J') ∧ jd_283_l18 k q a g0 g1 rc (-1) (-rc) m = some M' ∧ SF wh I m J' M' ∧ BR J' M' wh ls bs rc ∧ 0 ≤ bs := by
    unfold jd_17_l8 jd_283_l18
    refine (fun hw => ?_) (w_lp2 (f := fun u : (Int × Int × jH) => jd_17_s8 44 (some b) wh rc u.1 u.2.1 u.2.2) (g := fun u : (Int × Int × jM) => jd_283_s18 k q a g0 g1 rc u.1 u.2.1 u.2.2) (Q := fun x z => ∃ (ls' bs' : Int) (J' M' : jM), x = hh s Q J' ∧ z = M' ∧ SF wh I m J' M' ∧ BR J' M' wh ls' bs' rc ∧ 0 ≤ bs') (fun n u v => ∃ (ls' bs' : Int) (J' M' : jM), u = (ls', -rc + (n : Int), hh s Q J') ∧ v = (bs', -rc + (n : Int), M') ∧ SF wh I m J' M' ∧ BR J' M' wh ls' bs' rc ∧ (0 < n → 0 ≤ bs')) (2 * rc + 1).toNat (fun n u v hn J => ?_) (n_fu (by omega)) (n_fu (by omega)) (s0 := (2147483647, -rc, hh s Q I)) (t0 := (-1, -rc, m)) ⟨2147483647, -1, I, m, by rw [show -rc + ((0 : Nat) : Int) = -rc by omega], by rw [show -rc + ((0 : Nat) : Int) = -rc by omega], F0, Or.inl ⟨rfl, rfl⟩, fun h => absurd h (by omega)⟩)
    · obtain ⟨x, z, e1, e2, ls', bs', J', M', rfl, rfl, h1, h2, h3⟩ := hw
      exact ⟨J', z, ls', bs', e1, e2, h1, h2, h3⟩
    · obtain ⟨ls', bs', J', M', rfl, rfl, F', B', z0⟩ := J
      by_cases c : -rc + (n : Int) ≤ rc
      · obtain ⟨l2, b2, J2, M2, e1, e2, F2, B2, p2⟩ := srch_i (y := -rc + (n : Int)) L h6 S F' B' (by omega) c
        refine Or.inl ⟨(l2, -rc + (n : Int) + 1, hh s Q J2), (b2, -rc + (n : Int) + 1, M2), ?_, ?_, by omega, l2, b2, J2, M2, by rw [show -rc + ((n + 1 : Nat) : Int) = -rc + (n : Int) + 1 by omega], by rw [show -rc + ((n + 1 : Nat) : Int) = -rc + (n : Int) + 1 by omega], F2, B2, fun _ => p2⟩
        · show jd_17_s8 44 (some b) wh rc ls' (-rc + (n : Int)) (hh s Q J') = _
          unfold jd_17_s8
          rw [n_jw (z := rc) (by omega) (by omega), n_jw (z := -rc + (n : Int)) (by omega) (by omega), if_neg (by omega), e1, Option.bind_some]
        · show jd_283_s18 k q a g0 g1 rc bs' (-rc + (n : Int)) M' = _
          unfold jd_283_s18
          rw [n_jw (z := rc) (by omega) (by omega), n_jw (z := -rc + (n : Int)) (by omega) (by omega), if_neg (by omega), e2, Option.bind_some]
      · refine Or.inr ⟨hh s Q J', M', ?_, ?_, ls', bs', J', M', rfl, rfl, F', B', z0 (by omega)⟩
        · show jd_17_s8 44 (some b) wh rc ls' (-rc + (n : Int)) (hh s Q J') = _
          unfold jd_17_s8
          rw [n_jw (z := rc) (by omega) (by omega), n_jw (z := -rc + (n : Int)) (by omega) (by omega), if_pos (by omega)]
        · show jd_283_s18 k q a g0 g1 rc bs' (-rc + (n : Int)) M' = _
          unfold jd_283_s18
          rw [n_jw (z := rc) (by omega) (by omega), n_jw (z := -rc + (n : Int)) (by omega) (by omega), if_pos (by omega)]
  obtain ⟨J', M', ls, bs, e1, e2, F', B', b0⟩ := key
  rcases B' with ⟨x1, -⟩ | ⟨-, -, -, x4, x5, x6, x7⟩
  · exact absurd x1 (by omega)
  · refine ⟨M' 76 76, M' 76 77, J', M', ?_, ?_, F', x4, x5, rfl, rfl, by omega, by omega⟩
    · unfold jd_17
      rw [e1, Option.bind_some]
    · unfold jd_283
      rw [y_ma 82 8 rfl rfl (by decide) (by decide), Option.bind_some, hrc, e2, Option.bind_some]
end Srch2
