/-! the runs as a relation: more fuel, more depth change nothing -/
section MmUp
variable {xt : Nat → Nat × (Nat → Int32)}
theorem mm_iv_up {cl cl' : mm_C} (hcl : ∀ mi as h r, cl mi as h = some r → cl' mi as h = some r) {own len : Nat} {ins : Instr} {st : List Value} {h : mm_H} {q : mm_R × List Value} (hh : mm_iv cl own ins len st h = some q) : mm_iv cl' own ins len st h = some q := by
  cases ins <;> simp only [mm_iv] at hh ⊢
  case invokevirtual idx =>
    split at hh
    · next f hf =>
      split at hh
      · next as b r htk =>
        split at hh
        · next o ho =>
          replace hh := mm_cond hh
          obtain ⟨h1, hh⟩ := hh
          rw [h1]
          split at hh
          · next x hx =>
            show (match cl' f.2.1 (.ref b :: as) h with | some x => some (x, r) | none => none) = some q
            rw [hcl _ _ _ _ hx]
            exact hh
          · cases hh
        · cases hh
      · cases hh
    · cases hh
  case invokestatic idx =>
    split at hh
    · next f hf =>
      split at hh
      · next as r htk =>
        cases hc : (Nat.beq len 3 && (Nat.beq f.1 1 && mm_small r)) with
        | true =>
          rw [hc] at hh
          replace hh : (match cl f.2.1 as h with | some x => some (x, r) | none => none) = some q := hh
          split at hh
          · next x hx =>
            show (match cl' f.2.1 as h with | some x => some (x, r) | none => none) = some q
            rw [hcl _ _ _ _ hx]
            exact hh
          · cases hh
        | false =>
          rw [hc] at hh
          replace hh := mm_cond hh
          obtain ⟨h1, hh⟩ := hh
          rw [h1]
          split at hh
          · next x hx =>
            show (match cl' f.2.1 as h with | some (.inl x) => some (.inl x, r) | _ => none) = some q
            rw [hcl _ _ _ _ hx]
            exact hh
          · cases hh
      · cases hh
    · cases hh
  case invokespecial idx =>
    split at hh
    · next f hf =>
      split at hh
      · next as b r htk =>
        cases hc : (Nat.beq len 3 && (Nat.beq f.1 2 && mm_small r)) with
        | true =>
          rw [hc] at hh
          replace hh : (match cl f.2.1 (.ref b :: as) h with | some (.inl x) => some (Sum.inl x, r) | _ => none) = some q := hh
          split at hh
          · next x hx =>
            show (match cl' f.2.1 (.ref b :: as) h with | some (.inl x) => some (Sum.inl x, r) | _ => none) = some q
            rw [hcl _ _ _ _ hx]
            exact hh
          · cases hh
        | false =>
          rw [hc] at hh
          replace hh := mm_cond hh
          obtain ⟨h1, hh⟩ := hh
          rw [h1]
          split at hh
          · next x hx =>
            show (match cl' f.2.1 (.ref b :: as) h with | some (.inl x) => some (Sum.inl x, r) | _ => none) = some q
            rw [hcl _ _ _ _ hx]
            exact hh
          · cases hh
      · cases hh
    · cases hh
  all_goals (cases hh)
theorem mm_iv_no {cl : mm_C} {own len : Nat} {ins : Instr} {st : List Value} {h : mm_H} (hh : mm_iv cl own ins len st h = none) : True := trivial
theorem mm_ex_up {cl cl' : mm_C} (hcl : ∀ mi as h r, cl mi as h = some r → cl' mi as h = some r) {mi : Nat} : ∀ (n n' pc : Nat) (lv : mm_L) (st : List Value) (h : mm_H) (r : mm_R), n ≤ n' → mm_ex xt cl mi n pc lv st h = some r → mm_ex xt cl' mi n' pc lv st h = some r := by
  intro n
  induction n with
  | zero => intro n' pc lv st h r _ hh; cases hh
  | succ n ih =>
    intro n' pc lv st h r hn hh
    obtain ⟨k, rfl⟩ : ∃ k, n' = k + 1 := ⟨n' - 1, by omega⟩
    have hk : n ≤ k := by omega
    simp only [mm_ex] at hh ⊢
    split at hh
    · cases hh
    · split at hh
      · exact ih _ _ _ _ _ _ hk hh
      · split at hh
        · exact ih _ _ _ _ _ _ hk hh
        · split at hh
          · exact ih _ _ _ _ _ _ hk hh
          · split at hh
            · exact hh
            · split at hh
              · exact hh
              · split at hh
                · next v h' rr hq =>
                  rw [mm_iv_up hcl hq]
                  exact ih _ _ _ _ _ _ hk hh
                · next E h' rr hq =>
                  rw [mm_iv_up hcl hq]
                  dsimp only
                  split at hh
                  · exact hh
                  · split at hh
                    · cases hh
                    · split at hh
                      · cases hh
                      · replace hh := mm_cond hh
                        obtain ⟨h1, hh⟩ := hh
                        rw [h1]
                        exact ih _ _ _ _ _ _ hk hh
                · cases hh
theorem mm_run_up : ∀ (d d' n n' mi : Nat) (as : List Value) (h : mm_H) (r : mm_R), d ≤ d' → n ≤ n' → mm_run xt n d mi as h = some r → mm_run xt n' d' mi as h = some r := by
  intro d
  induction d with
  | zero => intro d' n n' mi as h r _ _ hh; cases hh
  | succ d ih =>
    intro d' n n' mi as h r hd hn hh
    obtain ⟨k, rfl⟩ : ∃ k, d' = k + 1 := ⟨d' - 1, by omega⟩
    replace hh := mm_cond hh
    obtain ⟨h1, hh⟩ := hh
    show (bif Nat.ble (lg_sl as).length (mm_MT mi).2.1 then mm_ex xt (mm_run xt n' k) mi n' 0 (lv_args 0 as) [] h else none) = some r
    rw [h1]
    exact mm_ex_up (fun mi as h r hr => ih k n n' mi as h r (by omega) hn hr) _ _ _ _ _ _ _ hn hh
/-- method mi, called with as on the heap h at depth d, ends so -/
def mm_Runs (xt : Nat → Nat × (Nat → Int32)) (d mi : Nat) (as : List Value) (h : mm_H) (r : mm_R) : Prop := ∃ n, mm_run xt n d mi as h = some r
/-- from pc on, in method mi, its callees at depth d, it ends so -/
def mm_Ex (xt : Nat → Nat × (Nat → Int32)) (d mi pc : Nat) (lv : mm_L) (st : List Value) (h : mm_H) (r : mm_R) : Prop := ∃ n, mm_ex xt (mm_run xt n d) mi n pc lv st h = some r
variable {d mi pc : Nat} {lv : mm_L} {st : List Value} {h : mm_H} {r : mm_R}
/-- so many steps by computation -/
theorem mm_Ex.go (j : Nat) {pc' : Nat} {lv' : mm_L} {st' : List Value} {h' : mm_H} (hs : ∀ (cl : mm_C) (k : Nat), mm_ex xt cl mi (k + j) pc lv st h = mm_ex xt cl mi k pc' lv' st' h') (k : mm_Ex xt d mi pc' lv' st' h' r) : mm_Ex xt d mi pc lv st h r := by
  obtain ⟨n, hn⟩ := k
  refine ⟨n + j, ?_⟩
  rw [hs]
  exact mm_ex_up (fun mi as h r hr => mm_run_up d d n (n + j) mi as h r (Nat.le_refl _) (Nat.le_add_right _ _) hr) n n _ _ _ _ _ (Nat.le_refl _) hn
theorem mm_Ex.fin (j : Nat) (hs : ∀ (cl : mm_C) (k : Nat), mm_ex xt cl mi (k + j) pc lv st h = some r) : mm_Ex xt d mi pc lv st h r := ⟨0 + j, hs _ 0⟩
theorem mm_Runs.of {as : List Value} (hl : Nat.ble (lg_sl as).length (mm_MT mi).2.1 = true) (k : mm_Ex xt d mi 0 (lv_args 0 as) [] h r) : mm_Runs xt (d + 1) mi as h r := by
  obtain ⟨n, hn⟩ := k
  refine ⟨n, ?_⟩
  show (bif Nat.ble (lg_sl as).length (mm_MT mi).2.1 then mm_ex xt (mm_run xt n d) mi n 0 (lv_args 0 as) [] h else none) = some r
  rw [hl]
  exact hn
theorem mm_Runs.up {d' : Nat} {as : List Value} (hd : d ≤ d') (k : mm_Runs xt d mi as h r) : mm_Runs xt d' mi as h r := by
  obtain ⟨n, hn⟩ := k
  exact ⟨n, mm_run_up d d' n n mi as h r hd (Nat.le_refl _) hn⟩
/-- a call that returns: the step is a computation but for the callee's end -/
theorem mm_Ex.call {mj : Nat} {as : List Value} {v : Option Value} {h1 : mm_H} {pc' : Nat} {st' : List Value} (hc : mm_Runs xt d mj as h (.inl (v, h1))) (hs : ∀ (cl : mm_C) (k : Nat), cl mj as h = some (.inl (v, h1)) → mm_ex xt cl mi (k + 1) pc lv st h = mm_ex xt cl mi k pc' lv st' h1) (k : mm_Ex xt d mi pc' lv st' h1 r) : mm_Ex xt d mi pc lv st h r := by
  obtain ⟨n1, hn1⟩ := hc
  obtain ⟨n, hn⟩ := k
  refine ⟨max n n1 + 1, ?_⟩
  rw [hs (mm_run xt (max n n1 + 1) d) (max n n1) (mm_run_up d d n1 _ mj as h _ (Nat.le_refl _) (by omega) hn1)]
  exact mm_ex_up (fun mi as h r hr => mm_run_up d d n _ mi as h r (Nat.le_refl _) (by omega) hr) n _ _ _ _ _ _ (by omega) hn
/-- a call that throws, or whatever else a callee's end brings -/
theorem mm_Ex.callX {mj : Nat} {as : List Value} {x : mm_R} {pc' : Nat} {lv' : mm_L} {st' : List Value} {h1 : mm_H} (hc : mm_Runs xt d mj as h x) (hs : ∀ (cl : mm_C) (k : Nat), cl mj as h = some x → mm_ex xt cl mi (k + 1) pc lv st h = mm_ex xt cl mi k pc' lv' st' h1) (k : mm_Ex xt d mi pc' lv' st' h1 r) : mm_Ex xt d mi pc lv st h r := by
  obtain ⟨n1, hn1⟩ := hc
  obtain ⟨n, hn⟩ := k
  refine ⟨max n n1 + 1, ?_⟩
  rw [hs (mm_run xt (max n n1 + 1) d) (max n n1) (mm_run_up d d n1 _ mj as h _ (Nat.le_refl _) (by omega) hn1)]
  exact mm_ex_up (fun mi as h r hr => mm_run_up d d n _ mi as h r (Nat.le_refl _) (by omega) hr) n _ _ _ _ _ _ (by omega) hn
/-- a callee's throw that goes on -/
theorem mm_Ex.thrown {mj : Nat} {as : List Value} {x : mm_R} (hc : mm_Runs xt d mj as h x) (hs : ∀ (cl : mm_C) (k : Nat), cl mj as h = some x → mm_ex xt cl mi (k + 1) pc lv st h = some r) : mm_Ex xt d mi pc lv st h r := by
  obtain ⟨n1, hn1⟩ := hc
  exact ⟨n1 + 1, hs _ _ (mm_run_up d d n1 _ mj as h _ (Nat.le_refl _) (Nat.le_succ _) hn1)⟩
end MmUp
