/-! the heap only grows -/
def mm_rh : mm_R → mm_H
  | .inl q => q.2
  | .inr q => q.2
def mm_le (h h' : mm_H) : Prop := h.1 ≤ h'.1 ∧ h.2.1 ≤ h'.2.1
theorem mm_le_rf (h : mm_H) : mm_le h h := ⟨Nat.le_refl _, Nat.le_refl _⟩
theorem mm_le_tr {a b c : mm_H} (h1 : mm_le a b) (h2 : mm_le b c) : mm_le a c := ⟨Nat.le_trans h1.1 h2.1, Nat.le_trans h1.2 h2.2⟩
section MmMono
variable {xt : Nat → Nat × (Nat → Int32)} {own len pc : Nat} {st : List Value} {h : mm_H} {q : mm_Q}
theorem mm_he_m {ini : Bool} {ins : Instr} (hh : mm_he own ini xt ins len pc st h = some q) : mm_le h q.2.2 := by
  cases ins <;> simp only [mm_he, mm_getf, mm_putf, mm_ald, mm_bld8, mm_lald, mm_aald, mm_iast, mm_bast, mm_last, mm_aast, mm_alen, mm_new, mm_na, mm_an, mm_gs, mm_ldi, mm_ldl, Bool.cond_eq_ite] at hh <;>
    first
    | (cases hh; done)
    | ((repeat' split at hh) <;> first | (cases hh; done) | (cases hh; exact ⟨Nat.le_refl _, Nat.le_refl _⟩) | (cases hh; exact ⟨Nat.le_succ _, Nat.le_add_right _ _⟩))
theorem mm_bu_m {ins : Instr} {q : List Value × mm_H} (hh : mm_bu own ins len st h = some q) : mm_le h q.2 := by
  cases ins <;> simp only [mm_bu, Bool.cond_eq_ite] at hh <;>
    first
    | (cases hh; done)
    | ((repeat' split at hh) <;> first | (cases hh; done) | (cases hh; exact ⟨Nat.le_refl _, Nat.le_refl _⟩))
theorem mm_iv_m {cl : mm_C} (hcl : ∀ mi as h r, cl mi as h = some r → mm_le h (mm_rh r)) {ins : Instr} {q : mm_R × List Value} (hh : mm_iv cl own ins len st h = some q) : mm_le h (mm_rh q.1) := by
  cases ins <;> simp only [mm_iv, Bool.cond_eq_ite] at hh <;>
    first
    | (cases hh; done)
    | ((repeat' split at hh) <;> first | (cases hh; done) | (cases hh; exact hcl _ _ _ _ (by assumption)))
theorem mm_ex_m {cl : mm_C} (hcl : ∀ mi as h r, cl mi as h = some r → mm_le h (mm_rh r)) {mi : Nat} : ∀ (n pc : Nat) (lv : mm_L) (st : List Value) (h : mm_H) (r : mm_R), mm_ex xt cl mi n pc lv st h = some r → mm_le h (mm_rh r) := by
  intro n
  induction n with
  | zero => intro pc lv st h r hh; cases hh
  | succ n ih =>
    intro pc lv st h r hh
    simp only [mm_ex] at hh
    split at hh
    · cases hh
    · split at hh
      · exact ih _ _ _ _ _ hh
      · split at hh
        · next q hq => exact mm_le_tr (mm_he_m hq) (ih _ _ _ _ _ hh)
        · split at hh
          · next q hq => exact mm_le_tr (mm_bu_m hq) (ih _ _ _ _ _ hh)
          · split at hh
            · cases hh; exact mm_le_rf _
            · split at hh
              · obtain ⟨-, hh⟩ := mm_cond hh
                cases hh
                exact ⟨Nat.le_succ _, Nat.le_add_right _ _⟩
              · split at hh
                · next v h' r' hq => exact mm_le_tr (mm_iv_m hcl hq) (ih _ _ _ _ _ hh)
                · next E h' r' hq =>
                  split at hh
                  · split at hh
                    · cases hh; exact mm_iv_m hcl hq
                    · cases hh
                  · split at hh
                    · cases hh
                    · split at hh
                      · cases hh
                      · obtain ⟨-, hh⟩ := mm_cond hh
                        exact mm_le_tr (mm_iv_m hcl hq) (ih _ _ _ _ _ hh)
                · cases hh
theorem mm_run_m {n : Nat} : ∀ (d mi : Nat) (as : List Value) (h : mm_H) (r : mm_R), mm_run xt n d mi as h = some r → mm_le h (mm_rh r) := by
  intro d
  induction d with
  | zero => intro mi as h r hh; cases hh
  | succ d ih =>
    intro mi as h r hh
    obtain ⟨-, hh⟩ := mm_cond hh
    exact mm_ex_m ih _ _ _ _ _ _ hh
end MmMono
