/-! making in runs: one run tried by the model -/
section RunM
variable {M : jM} {k pl x w l N kd W c : Int} {v an nd : Int → Int} {A : Int → Int → Prop}
/-- but for the table at x -/
def FrY (M M' : jM) (x : Int) : Prop := (∀ y : Nat, y ≠ 126 → y ≠ 127 → y ≠ 128 → M' y = M y) ∧ ∀ z : Int, z ≠ x → M' 126 z = M 126 z ∧ M' 127 z = M 127 z ∧ M' 128 z = M 128 z
theorem FrY_t {M1 M2 : jM} (A : FrY M M1 x) (B : FrY M1 M2 x) : FrY M M2 x := ⟨fun y y1 y2 y3 => (B.1 y y1 y2 y3).trans (A.1 y y1 y2 y3), fun z hz => ⟨(B.2 z hz).1.trans (A.2 z hz).1, (B.2 z hz).2.1.trans (A.2 z hz).2.1, (B.2 z hz).2.2.trans (A.2 z hz).2.2⟩⟩
theorem FrY_r : FrY M M x := ⟨fun _ _ _ _ => rfl, fun _ _ => ⟨rfl, rfl, rfl⟩⟩
/-- samples as the model reads them, whatever stands in the table -/
def RdM (M : jM) (k pl N kd : Int) (v an : Int → Int) : Prop := ∀ M' : jM, (∀ y : Nat, y ≠ 126 → y ≠ 127 → y ≠ 128 → M' y = M y) → (∀ j : Int, 0 ≤ j → j < N → jd_287 k pl j M' = some (v j) ∧ 0 ≤ v j ∧ v j ≤ 255) ∧ (kd ≠ 0 → ∀ j : Int, 0 ≤ j → j < N → jd_288 k pl j M' = some (an j) ∧ 0 ≤ an j ∧ an j ≤ 255) ∧ jma M' 102 k = some kd ∧ (0 ≤ kd ∧ kd ≤ 2)
theorem RdM_f {M' : jM} (R : RdM M k pl N kd v an) (F : ∀ y : Nat, y ≠ 126 → y ≠ 127 → y ≠ 128 → M' y = M y) : RdM M' k pl N kd v an := fun M2 h => R M2 (fun y y1 y2 y3 => (h y y1 y2 y3).trans (F y y1 y2 y3))
theorem k_290 (R : RdM M k pl N kd v an) (x0 : 0 ≤ x) (l1 : 1 ≤ l) (xl : x + l ≤ N) (w0 : 0 ≤ w) (w3 : w ≤ 3) (W1 : W ≤ 24) (W0 : 0 ≤ W) (en : enb kd W x w) : ∃ e, jd_290 k pl x w l W M = some e ∧ (e = 0 ∨ e = 1) ∧ (e = 1 ↔ okA v an W x w l) := by
  obtain ⟨r1, r2, -, -⟩ := R M (fun _ _ _ _ => rfl)
  obtain ⟨a1, a2, a3⟩ := r1 (x + l - 1) (by omega) (by omega)
  have j1 : jw (v (x + l - 1)) = v (x + l - 1) := n_jw (by omega) (by omega)
  have bc : ∀ e : Int, e = 0 ∨ e = 1 → jd_290_b93 e M = some e := fun e he => by
    unfold jd_290_b93 jbc
    rcases he with rfl | rfl <;> rfl
  unfold jd_290
  rw [a1, Option.bind_some, n_jw (z := w) (by omega) (by omega), j1]
  have wc : w = 0 ∨ w = 1 ∨ w = 2 ∨ w = 3 := by omega
  rcases wc with rfl | rfl | rfl | rfl
  · obtain ⟨b1, b2, b3⟩ := r1 x x0 (by omega)
    rw [if_pos rfl, b1, Option.bind_some, n_jw (z := v x) (by omega) (by omega), show okA v an W x 0 l ↔ v (x + l - 1) = v x by unfold okA; rw [if_pos rfl]]
    by_cases c : v (x + l - 1) = v x
    · rw [if_pos c]; exact ⟨1, rfl, Or.inr rfl, fun _ => c, fun _ => rfl⟩
    · rw [if_neg c]; exact ⟨0, rfl, Or.inl rfl, fun h => absurd h (by decide), fun h => absurd h c⟩
  · obtain ⟨b1, b2, b3⟩ := r2 (en.1 rfl) (x + l - 1) (by omega) (by omega)
    rw [if_neg (by decide), if_pos rfl, b1, Option.bind_some, n_jw (z := an (x + l - 1)) (by omega) (by omega), show okA v an W x 1 l ↔ v (x + l - 1) = an (x + l - 1) by unfold okA; rw [if_neg (by decide), if_pos rfl]]
    by_cases c : v (x + l - 1) = an (x + l - 1)
    · rw [if_pos c]; exact ⟨1, rfl, Or.inr rfl, fun _ => c, fun _ => rfl⟩
    · rw [if_neg c]; exact ⟨0, rfl, Or.inl rfl, fun h => absurd h (by decide), fun h => absurd h c⟩
  · have := en.2 rfl
    obtain ⟨b1, b2, b3⟩ := r1 (x + l - 1 - W) (by omega) (by omega)
    rw [if_neg (by decide), if_neg (by decide), if_neg (by decide), b1, Option.bind_some, n_jw (z := v (x + l - 1 - W)) (by omega) (by omega), show okA v an W x 2 l ↔ v (x + l - 1) = v (x + l - 1 - W) by unfold okA; rw [if_neg (by decide), if_neg (by decide), if_pos rfl]]
    by_cases c : v (x + l - 1) = v (x + l - 1 - W)
    · rw [if_pos c, bc 1 (Or.inr rfl)]; exact ⟨1, rfl, Or.inr rfl, fun _ => c, fun _ => rfl⟩
    · rw [if_neg c, bc 0 (Or.inl rfl)]; exact ⟨0, rfl, Or.inl rfl, fun h => absurd h (by decide), fun h => absurd h c⟩
  · rw [if_neg (by decide), if_neg (by decide), if_pos rfl, bc 1 (Or.inr rfl), show okA v an W x 3 l ↔ True by unfold okA; rw [if_neg (by decide), if_neg (by decide), if_neg (by decide)]]
    exact ⟨1, rfl, Or.inr rfl, fun _ => trivial, fun _ => rfl⟩
/-- nothing tried yet, or what was tried -/
def Spm (A : Int → Int → Prop) (C : Int → Int → Int) (c wy ln : Int) : Prop := ((∀ a b : Int, ¬ A a b) ∧ c = -1) ∨ Spc A C c wy ln
theorem k_289s (x0 : 0 ≤ x) (x1 : x < N) (N1 : N ≤ 576) (w0 : 0 ≤ w) (w3 : w ≤ 3) (l1 : 1 ≤ l) (xl : x + l ≤ N) (hn : M 126 (x + l) = nd (x + l)) (n0 : 0 ≤ nd (x + l)) (n1 : nd (x + l) ≤ 5760) (cb : -1 ≤ M 126 x ∧ M 126 x ≤ 1000000) (wb : M 126 x ≠ -1 → 0 ≤ M 127 x ∧ M 127 x ≤ 3) (ha : ∀ a b : Int, A a b → a < w ∨ (a = w ∧ b < l)) (hp : ∀ a b : Int, A a b → 0 ≤ cs a b + nd (x + b)) (S : Spm A (fun a b => cs a b + nd (x + b)) (M 126 x) (M 127 x) (M 128 x)) : ∃ M', jd_289_b154 k pl W N x w l (if (jw w) = 0 then 8 else (if (jw w) = 3 then (8 * l) else 0)) (cln w + cln (l - 1)) M = some (.inl (l + 1, M')) ∧ FrY M M' x ∧ (0 ≤ M' 126 x ∧ M' 126 x ≤ 1000000) ∧ (0 ≤ M' 127 x ∧ M' 127 x ≤ 3) ∧ Spc (fun a b => A a b ∨ (a = w ∧ b = l)) (fun a b => cs a b + nd (x + b)) (M' 126 x) (M' 127 x) (M' 128 x) := by
  have csl := cs_le (w := w) (l := l) w0 w3 l1 (by omega)
  have csp := cs_p (w := w) (l := l) w0 l1
  have ar : cln w + cln (l - 1) + (if (jw w) = 0 then 8 else (if (jw w) = 3 then (8 * l) else 0)) = cs w l := by
    rw [n_jw (z := w) (by omega) (by omega)]
    rfl
  obtain ⟨cost, hc⟩ : ∃ cost, cs w l + nd (x + l) = cost := ⟨_, rfl⟩
  have cpos : 0 ≤ cost ∧ cost ≤ 20000 := by omega
  have wrt : jd_289_b220 k pl W N x w l cost 1 M = some (.inl (l + 1, jms (jms (jms M 126 x cost) 127 x w) 128 x l)) := by
    unfold jd_289_b220 jd_289_b257
    rw [if_neg (show ¬ jw 1 = 0 by decide), y_mw 126 577 rfl rfl x0 (by omega), Option.bind_some, y_mw 127 576 rfl rfl x0 (by omega), Option.bind_some, y_mw 128 576 rfl rfl x0 (by omega), Option.bind_some]
  have kee : jd_289_b220 k pl W N x w l cost 0 M = some (.inl (l + 1, M)) := by
    unfold jd_289_b220 jd_289_b257
    rw [if_pos (show jw 0 = 0 by decide)]
  have yes : ∀ (_ : Spc (fun a b => A a b ∨ (a = w ∧ b = l)) (fun a b => cs a b + nd (x + b)) cost w l), ∃ M', some (.inl (l + 1, jms (jms (jms M 126 x cost) 127 x w) 128 x l)) = (some (.inl (l + 1, M')) : Option ((Int × jM) ⊕ jM)) ∧ FrY M M' x ∧ (0 ≤ M' 126 x ∧ M' 126 x ≤ 1000000) ∧ (0 ≤ M' 127 x ∧ M' 127 x ≤ 3) ∧ Spc (fun a b => A a b ∨ (a = w ∧ b = l)) (fun a b => cs a b + nd (x + b)) (M' 126 x) (M' 127 x) (M' 128 x) := fun h => by
    have f1 : jms (jms (jms M 126 x cost) 127 x w) 128 x l 126 x = cost := by rw [jms_o (by decide), jms_o (by decide), jms_e]
    have f2 : jms (jms (jms M 126 x cost) 127 x w) 128 x l 127 x = w := by rw [jms_o (by decide), jms_e]
    have f3 : jms (jms (jms M 126 x cost) 127 x w) 128 x l 128 x = l := jms_e
    refine ⟨_, rfl, ⟨fun y y1 y2 y3 => by rw [jms_o y3, jms_o y2, jms_o y1], fun z hz => ⟨by rw [jms_o (by decide), jms_o (by decide), jms_i hz], by rw [jms_o (by decide), jms_i hz, jms_o (by decide)], by rw [jms_i hz, jms_o (by decide), jms_o (by decide)]⟩⟩, by rw [f1]; omega, by rw [f2]; omega, ?_⟩
    rw [f1, f2, f3]
    exact h
  unfold jd_289_b154 jd_289_b215
  rw [y_ma 126 577 rfl rfl (by omega) (by omega), Option.bind_some, hn, ar, hc, y_ma 126 577 rfl rfl x0 (by omega), Option.bind_some, n_jw (z := M 126 x) (by omega) (by omega), n_jw (z := cost) (by omega) (by omega)]
  rcases S with ⟨s1, s2⟩ | S
  · rw [if_pos s2, wrt]
    have := Spc_1 (A := A) (C := fun a b => cs a b + nd (x + b)) (w := w) (l := l) s1
    rw [hc] at this
    exact yes this
  · obtain ⟨g1, g2⟩ := Spc_a (w := w) (l := l) S ha
    rw [hc] at g1 g2
    have cne : M 126 x ≠ -1 := by
      have h1 := S.2.1
      have h2 := hp _ _ S.1
      dsimp only at h1
      omega
    have wb' := wb cne
    have jc : jw (M 126 x) = M 126 x := n_jw (by omega) (by omega)
    rw [if_neg cne, Option.bind_some, jc]
    by_cases d1 : cost < M 126 x
    · rw [if_pos d1, wrt]
      exact yes (g1 (Or.inl d1))
    · rw [if_neg d1, Option.bind_some, jc]
      by_cases d2 : cost = M 126 x
      · rw [if_pos d2, y_ma 127 576 rfl rfl x0 (by omega), Option.bind_some, n_jw (z := M 127 x) (by omega) (by omega), n_jw (z := w) (by omega) (by omega)]
        by_cases d3 : M 127 x = w
        · rw [if_pos d3, wrt]
          exact yes (g1 (Or.inr ⟨d2, d3⟩))
        · rw [if_neg d3, kee]
          exact ⟨M, rfl, FrY_r, by omega, wb', g2 (fun e => by
            rcases e with e | e
            · exact d1 e
            · exact d3 e.2)⟩
      · rw [if_neg d2, kee]
        exact ⟨M, rfl, FrY_r, by omega, wb', g2 (fun e => by
          rcases e with e | e
          · exact d1 e
          · exact d2 e.1)⟩
end RunM
