/-! making in runs: all runs tried by the model at one place -/
section RunMl
variable {M : jM} {k pl x w l N kd W : Int} {v an nd : Int → Int} {A B : Int → Int → Prop}
theorem Spm_c {C : Int → Int → Int} {c wy ln : Int} (h : ∀ a b : Int, A a b ↔ B a b) (X : Spm A C c wy ln) : Spm B C c wy ln := by
  rcases X with ⟨h1, h2⟩ | X
  · exact Or.inl ⟨fun a b hb => h1 a b ((h a b).2 hb), h2⟩
  · exact Or.inr (Spc_c h X)
/-- the table at x while it is made -/
def TbX (M M' : jM) (x : Int) (A : Int → Int → Prop) (nd : Int → Int) : Prop := FrY M M' x ∧ (-1 ≤ M' 126 x ∧ M' 126 x ≤ 1000000) ∧ (M' 126 x ≠ -1 → 0 ≤ M' 127 x ∧ M' 127 x ≤ 3) ∧ Spm A (fun a b => cs a b + nd (x + b)) (M' 126 x) (M' 127 x) (M' 128 x)
theorem k_289l (R : RdM M k pl N kd v an) (x0 : 0 ≤ x) (x1 : x < N) (N1 : N ≤ 576) (w0 : 0 ≤ w) (w3 : w ≤ 3) (W0 : 0 ≤ W) (W1 : W ≤ 24) (en : enb kd W x w) (hnd : ∀ z : Int, x < z → z ≤ N → M 126 z = nd z ∧ 0 ≤ nd z ∧ nd z ≤ 5760) {M0 : jM} (T : TbX M M0 x (fun a b => vld v an kd W N x a b ∧ a < w) nd) : ∃ M', jd_289_l90 k pl W N x w 1 M0 = some M' ∧ TbX M M' x (fun a b => vld v an kd W N x a b ∧ a < w + 1) nd := by
  obtain ⟨ok1, ok2⟩ := Rn_ok (v := v) (an := an) (kd := kd) (W := W) (N := N) (w := w) (N - x).toNat x (by omega) (by omega) w0 w3 en
  have rb := Rn_r (v := v) (an := an) (kd := kd) (W := W) (N := N) (w := w) (x := x) (by omega)
  obtain ⟨r, hr⟩ : ∃ r, Rn v an kd W N w x = r := ⟨_, rfl⟩
  rw [hr] at ok1 ok2 rb
  have hp : ∀ a b : Int, vld v an kd W N x a b → 0 ≤ cs a b + nd (x + b) := fun a b h => by
    have h1 := cs_p (w := a) (l := b) h.1.1 h.2.1
    have h2 := Rn_r (v := v) (an := an) (kd := kd) (W := W) (N := N) (w := a) (x := x) (by omega)
    have h3 := h.2
    have := hnd (x + b) (by omega) (by omega)
    omega
  have step : ∀ (t : Nat) (u : Int × jM), t ≤ r.toNat → (∃ Mt : jM, u = ((t : Int) + 1, Mt) ∧ TbX M Mt x (fun a b => vld v an kd W N x a b ∧ (a < w ∨ (a = w ∧ b < (t : Int) + 1))) nd) → wT ((fun u : (Int × jM) => jd_289_s90 k pl W N x w u.1 u.2) u) (fun o => jse o (fun u' => t < r.toNat ∧ ∃ Mt : jM, u' = (((t + 1 : Nat) : Int) + 1, Mt) ∧ TbX M Mt x (fun a b => vld v an kd W N x a b ∧ (a < w ∨ (a = w ∧ b < ((t + 1 : Nat) : Int) + 1))) nd) (fun y => TbX M y x (fun a b => vld v an kd W N x a b ∧ a < w + 1) nd)) := by
    intro t u ht J
    obtain ⟨Mt, rfl, F, cb, wb, S⟩ := J
    dsimp only
    obtain ⟨l, hl⟩ : ∃ l : Int, (t : Int) + 1 = l := ⟨_, rfl⟩
    rw [show ((t + 1 : Nat) : Int) + 1 = l + 1 by omega]
    rw [hl] at S ⊢
    have done : (t : Int) = r → TbX M Mt x (fun a b => vld v an kd W N x a b ∧ a < w + 1) nd := fun e => ⟨F, cb, wb, Spm_c (fun a b => ⟨fun h => ⟨h.1, by omega⟩, fun h => ⟨h.1, by
      by_cases d : a = w
      · right
        refine ⟨d, ?_⟩
        have := h.1.2.2
        rw [d, hr] at this
        omega
      · left
        omega⟩⟩) S⟩
    unfold jd_289_s90
    rw [n_jw (z := N) (by omega) (by omega), n_jw (z := x + l) (by omega) (by omega)]
    by_cases c : N < x + l
    · rw [if_pos c]
      exact ⟨_, rfl, done (by omega)⟩
    · obtain ⟨e, e1, e2, e3⟩ := k_290 (M := Mt) (l := l) (RdM_f R F.1) x0 (by omega) (by omega) w0 w3 W1 W0 en
      rw [if_neg c, e1, Option.bind_some, n_jw (z := e) (by omega) (by omega)]
      by_cases ce : e = 0
      · rw [if_pos ce]
        refine ⟨_, rfl, done ?_⟩
        by_cases d : l ≤ r
        · have := e3.2 (ok1 l (by omega) d)
          omega
        · omega
      · have tr : l ≤ r := by
          by_cases d : l ≤ r
          · exact d
          · exfalso
            have el : l = r + 1 := by omega
            refine ok2 (by omega) ?_
            rw [← el]
            exact e3.1 (by omega)
        have k1 : jd_235 w = some (cln w) := k_235 w0 (by omega)
        have k2 : jd_235 (l - 1) = some (cln (l - 1)) := k_235 (by omega) (by omega)
        obtain ⟨h1, h2, h3⟩ := hnd (x + l) (by omega) (by omega)
        obtain ⟨M', d1, d2, d3, d4, d5⟩ := k_289s (M := Mt) (k := k) (pl := pl) (W := W) (nd := nd) x0 x1 N1 w0 w3 (l := l) (by omega) (by omega) (by rw [(F.2 (x + l) (by omega)).1]; exact h1) h2 h3 cb wb (fun a b h => by
          rcases h.2 with h | h
          · exact Or.inl h
          · exact Or.inr h) (fun a b h => hp a b h.1) S
        rw [if_neg ce, k1, Option.bind_some, k2, Option.bind_some, d1]
        refine ⟨_, rfl, by omega, M', rfl, FrY_t F d2, ⟨by omega, by omega⟩, fun _ => d4, Or.inr (Spc_c (fun a b => ⟨fun h => ?_, fun h => ?_⟩) d5)⟩
        · rcases h with h | ⟨h4, h5⟩
          · exact ⟨h.1, by omega⟩
          · rw [h4, h5]
            exact ⟨⟨⟨w0, w3⟩, by omega, by rw [hr]; exact tr⟩, Or.inr ⟨rfl, by omega⟩⟩
        · by_cases d : a = w ∧ b = l
          · exact Or.inr d
          · exact Or.inl ⟨h.1, by omega⟩
  obtain ⟨FT, cb, wb, S⟩ := T
  obtain ⟨y, e, Z⟩ := w_lp (f := fun u : (Int × jM) => jd_289_s90 k pl W N x w u.1 u.2) (Q := fun y => TbX M y x (fun a b => vld v an kd W N x a b ∧ a < w + 1) nd) (fun t u => ∃ Mt : jM, u = ((t : Int) + 1, Mt) ∧ TbX M Mt x (fun a b => vld v an kd W N x a b ∧ (a < w ∨ (a = w ∧ b < (t : Int) + 1))) nd) r.toNat step (n_fu (by omega)) (s0 := (1, M0)) ⟨M0, rfl, FT, cb, wb, Spm_c (fun a b => ⟨fun h => ⟨h.1, Or.inl h.2⟩, fun h => ⟨h.1, by
    rcases h.2 with h' | ⟨h1, h2⟩
    · exact h'
    · have := h.1.2.1
      omega⟩⟩) S⟩
  exact ⟨y, e, Z⟩
theorem k_289w (R : RdM M k pl N kd v an) (x0 : 0 ≤ x) (x1 : x < N) (N1 : N ≤ 576) (W0 : 0 ≤ W) (W1 : W ≤ 24) (hnd : ∀ z : Int, x < z → z ≤ N → M 126 z = nd z ∧ 0 ≤ nd z ∧ nd z ≤ 5760) {M0 : jM} (F : FrY M M0 x) (c0 : M0 126 x = -1) : ∃ M', jd_289_l51 k pl W N x 0 M0 = some M' ∧ FrY M M' x ∧ Spc (vld v an kd W N x) (fun a b => cs a b + nd (x + b)) (M' 126 x) (M' 127 x) (M' 128 x) := by
  have step : ∀ (t : Nat) (u : Int × jM), t ≤ 4 → (∃ Mt : jM, u = ((t : Int), Mt) ∧ TbX M Mt x (fun a b => vld v an kd W N x a b ∧ a < (t : Int)) nd) → wT ((fun u : (Int × jM) => jd_289_s51 k pl W N x u.1 u.2) u) (fun o => jse o (fun u' => t < 4 ∧ ∃ Mt : jM, u' = (((t + 1 : Nat) : Int), Mt) ∧ TbX M Mt x (fun a b => vld v an kd W N x a b ∧ a < ((t + 1 : Nat) : Int)) nd) (fun y => TbX M y x (fun a b => vld v an kd W N x a b ∧ a < 4) nd)) := by
    intro t u ht J
    obtain ⟨Mt, rfl, T⟩ := J
    dsimp only
    have et : ((t + 1 : Nat) : Int) = (t : Int) + 1 := by omega
    rw [et]
    unfold jd_289_s51
    rw [n_jw (z := (t : Int)) (by omega) (by omega)]
    by_cases c : 4 ≤ (t : Int)
    · rw [if_pos c]
      refine ⟨_, rfl, ?_⟩
      rw [show (t : Int) = 4 by omega] at T
      exact T
    · have t3 : (t : Int) ≤ 3 := by omega
      have skip : ¬ enb kd W x (t : Int) → wT (jd_289_b263 k pl W N x (t : Int) Mt) (fun o => jse o (fun u' => t < 4 ∧ ∃ Mt : jM, u' = ((t : Int) + 1, Mt) ∧ TbX M Mt x (fun a b => vld v an kd W N x a b ∧ a < (t : Int) + 1) nd) (fun y => TbX M y x (fun a b => vld v an kd W N x a b ∧ a < 4) nd)) := fun ne => by
        have r0 := Rn_d (v := v) (an := an) (N := N) ne (by omega) t3 x1
        obtain ⟨f1, f2, f3, f4⟩ := T
        refine ⟨_, rfl, by omega, Mt, rfl, f1, f2, f3, Spm_c (fun a b => ⟨fun h => ⟨h.1, by omega⟩, fun h => ⟨h.1, ?_⟩⟩) f4⟩
        by_cases d : a = (t : Int)
        · have := h.1.2
          rw [d, r0] at this
          omega
        · omega
      have go : enb kd W x (t : Int) → wT (jd_289_b87 k pl W N x (t : Int) Mt) (fun o => jse o (fun u' => t < 4 ∧ ∃ Mt : jM, u' = ((t : Int) + 1, Mt) ∧ TbX M Mt x (fun a b => vld v an kd W N x a b ∧ a < (t : Int) + 1) nd) (fun y => TbX M y x (fun a b => vld v an kd W N x a b ∧ a < 4) nd)) := fun en => by
        obtain ⟨M', d1, d2⟩ := k_289l R x0 x1 N1 (by omega) t3 W0 W1 en hnd T
        unfold jd_289_b87
        rw [d1, Option.bind_some]
        exact ⟨_, rfl, by omega, M', rfl, d2⟩
      obtain ⟨-, -, r102, kb⟩ := R Mt T.1.1
      rw [if_neg c]
      by_cases c1 : (t : Int) = 1
      · rw [if_pos c1, r102, Option.bind_some, n_jw (z := kd) (by omega) (by omega)]
        by_cases ck : kd = 0
        · rw [if_pos ck]
          exact skip (fun en => en.1 c1 ck)
        · rw [if_neg ck]
          unfold jd_289_b72
          rw [n_jw (z := (t : Int)) (by omega) (by omega), if_neg (by omega)]
          exact go ⟨fun _ => ck, fun e => by omega⟩
      · rw [if_neg c1]
        unfold jd_289_b72
        rw [n_jw (z := (t : Int)) (by omega) (by omega)]
        by_cases c2 : (t : Int) = 2
        · rw [if_pos c2, n_jw (z := W) (by omega) (by omega), n_jw (z := x) (by omega) (by omega)]
          by_cases cw : W ≤ x
          · rw [if_pos cw]
            exact go ⟨fun e => absurd e c1, fun _ => cw⟩
          · rw [if_neg cw]
            exact skip (fun en => cw (en.2 c2))
        · rw [if_neg c2]
          exact go ⟨fun e => absurd e c1, fun e => absurd e c2⟩
  unfold jd_289_l51
  obtain ⟨y, e, ⟨f1, f2, f3, f4⟩⟩ := w_lp (f := fun u : (Int × jM) => jd_289_s51 k pl W N x u.1 u.2) (Q := fun y => TbX M y x (fun a b => vld v an kd W N x a b ∧ a < 4) nd) (fun t u => ∃ Mt : jM, u = ((t : Int), Mt) ∧ TbX M Mt x (fun a b => vld v an kd W N x a b ∧ a < (t : Int)) nd) 4 step (n_fu (by decide)) (s0 := (0, M0)) ⟨M0, rfl, F, by rw [c0]; decide, fun h => absurd c0 h, Or.inl ⟨fun a b h => by
    have h1 := h.2
    have h2 := h.1.1.1
    omega, c0⟩⟩
  refine ⟨y, e, f1, ?_⟩
  rcases f4 with ⟨h, -⟩ | h
  · exact absurd ⟨⟨by decide, by decide, Rn_0 x1⟩, by decide⟩ (h 0 1)
  · exact Spc_c (fun a b => ⟨fun h => h.1, fun h => ⟨h, by have := h.1; omega⟩⟩) h
end RunMl
