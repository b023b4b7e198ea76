/-! making in runs: the model's table, whole; both tables are one -/
section RunMt
variable {M : jM} {k pl x N kd W y : Int} {v an nd wy ln nd' wy' ln' : Int → Int}
theorem k_289t (R : RdM M k pl N kd v an) (N0 : 1 ≤ N) (N1 : N ≤ 576) (W0 : 0 ≤ W) (W1 : W ≤ 24) (c0 : M 126 N = 0) : ∃ M', jd_289_l35 k pl W N (N - 1) M = some M' ∧ (∀ y : Nat, y ≠ 126 → y ≠ 127 → y ≠ 128 → M' y = M y) ∧ TB v an kd W N (M' 126) (M' 127) (M' 128) 0 := by
  have step : ∀ (t : Nat) (u : Int × jM), t ≤ N.toNat → (∃ Mt : jM, u = (N - (t : Int) - 1, Mt) ∧ (∀ y : Nat, y ≠ 126 → y ≠ 127 → y ≠ 128 → Mt y = M y) ∧ TB v an kd W N (Mt 126) (Mt 127) (Mt 128) (N - (t : Int))) → wT ((fun u : (Int × jM) => jd_289_s35 k pl W N u.1 u.2) u) (fun o => jse o (fun u' => t < N.toNat ∧ ∃ Mt : jM, u' = (N - ((t + 1 : Nat) : Int) - 1, Mt) ∧ (∀ y : Nat, y ≠ 126 → y ≠ 127 → y ≠ 128 → Mt y = M y) ∧ TB v an kd W N (Mt 126) (Mt 127) (Mt 128) (N - ((t + 1 : Nat) : Int))) (fun z => (∀ y : Nat, y ≠ 126 → y ≠ 127 → y ≠ 128 → z y = M y) ∧ TB v an kd W N (z 126) (z 127) (z 128) 0)) := by
    intro t u ht J
    obtain ⟨Mt, rfl, fr, T⟩ := J
    dsimp only
    by_cases c : t = N.toNat
    · have et : N - (t : Int) = 0 := by omega
      rw [et] at T ⊢
      refine ⟨.inr Mt, ?_, fr, T⟩
      unfold jd_289_s35
      rw [if_pos (by decide)]
    · obtain ⟨x, hx⟩ : ∃ x, N - (t : Int) - 1 = x := ⟨_, rfl⟩
      have e1 : N - (t : Int) = x + 1 := by omega
      have e2 : N - ((t + 1 : Nat) : Int) = x := by omega
      rw [e1] at T ⊢
      rw [e2, show x + 1 - 1 = x by omega]
      have hnd : ∀ z : Int, x < z → z ≤ N → Mt 126 z = Mt 126 z ∧ 0 ≤ Mt 126 z ∧ Mt 126 z ≤ 5760 := fun z z0 z1 => by
        have := TB_r T (y := z) (by omega) z1
        exact ⟨rfl, by omega, by omega⟩
      have F0 : FrY Mt (jms Mt 126 x (-1)) x := ⟨fun y y1 _ _ => jms_o y1, fun z hz => ⟨jms_i hz, by rw [jms_o (by decide)], by rw [jms_o (by decide)]⟩⟩
      obtain ⟨M', d1, d2, d3⟩ := k_289w (RdM_f R fr) (x := x) (by omega) (by omega) N1 W0 W1 hnd F0 jms_e
      refine ⟨.inl (x + -1, M'), ?_, by omega, M', by rw [show x + -1 = x - 1 by omega], fun y y1 y2 y3 => (d2.1 y y1 y2 y3).trans (fr y y1 y2 y3), ?_⟩
      · unfold jd_289_s35
        rw [n_jw (z := x) (by omega) (by omega), if_neg (by omega), y_mw 126 577 rfl rfl (by omega) (by omega), Option.bind_some, d1, Option.bind_some]
      · have T' : TB v an kd W N (M' 126) (M' 127) (M' 128) (x + 1) := TB_c (fun z z0 _ => (d2.2 z (by omega)).1) (fun z z0 _ => (d2.2 z (by omega)).2) (by omega) T
        refine ⟨T'.1, fun y y0 y1 => ?_⟩
        by_cases d : y = x
        · rw [d]
          refine Spc_k (fun a b hab => ?_) d3
          have := Rn_r (v := v) (an := an) (kd := kd) (W := W) (N := N) (w := a) (x := x) (by omega)
          have := hab.2
          rw [(d2.2 (x + b) (by omega)).1]
        · exact T'.2 y (by omega) y1
  unfold jd_289_l35
  obtain ⟨z, e, Z⟩ := w_lp (f := fun u : (Int × jM) => jd_289_s35 k pl W N u.1 u.2) (Q := fun z => (∀ y : Nat, y ≠ 126 → y ≠ 127 → y ≠ 128 → z y = M y) ∧ TB v an kd W N (z 126) (z 127) (z 128) 0) (fun t u => ∃ Mt : jM, u = (N - (t : Int) - 1, Mt) ∧ (∀ y : Nat, y ≠ 126 → y ≠ 127 → y ≠ 128 → Mt y = M y) ∧ TB v an kd W N (Mt 126) (Mt 127) (Mt 128) (N - (t : Int))) N.toNat step (n_fu (by omega)) (s0 := (N - 1, M)) ⟨M, by rw [show N - ((0 : Nat) : Int) = N by omega], fun _ _ _ _ => rfl, by
    rw [show N - ((0 : Nat) : Int) = N by omega]
    exact ⟨c0, fun y y0 y1 => absurd y1 (by omega)⟩⟩
  exact ⟨z, e, Z⟩
theorem TB_u (A : TB v an kd W N nd wy ln 0) (B : TB v an kd W N nd' wy' ln' 0) : ∀ (t : Nat) (y : Int), N - (t : Int) ≤ y → 0 ≤ y → y ≤ N → nd y = nd' y ∧ (y < N → wy y = wy' y ∧ ln y = ln' y)
  | 0, y, h, y0, y1 => by
    rw [show y = N by omega, A.1, B.1]
    exact ⟨rfl, fun h => absurd h (by omega)⟩
  | t + 1, y, h, y0, y1 => by
    have ih := fun z (hz : N - (t : Int) ≤ z) (z0 : 0 ≤ z) (z1 : z ≤ N) => TB_u A B t z hz z0 z1
    by_cases c : N - (t : Int) ≤ y
    · exact ih y c y0 y1
    · have yN : y < N := by omega
      have a := A.2 y y0 yN
      have b := B.2 y y0 yN
      have b' := Spc_k (C' := fun w l => cs w l + nd (y + l)) (fun p q hpq => by
        have := Rn_r (v := v) (an := an) (kd := kd) (W := W) (N := N) (w := p) (x := y) (by omega)
        have := hpq.2
        rw [(ih (y + q) (by omega) (by omega) (by omega)).1]) b
      obtain ⟨e1, e2, e3⟩ := Spc_u a b'
      exact ⟨e1, fun _ => ⟨e2, e3⟩⟩
end RunMt
