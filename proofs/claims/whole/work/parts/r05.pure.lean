/-! pure instructions: what the mini machine does, the machine does -/
theorem mm_cat (ad : Nat → Nat) (v : Value) : (mm_cV ad v).category = v.category := by cases v <;> rfl
theorem mm_get_mem {lv : mm_L} {i : Nat} {v : Value} (h : mm_get lv i = some v) : (i, v) ∈ lv := by
  induction lv with
  | nil => cases h
  | cons q r ih =>
    simp only [mm_get] at h
    cases hq : Nat.beq q.1 i with
    | true =>
      rw [hq] at h
      have e1 := Nat.eq_of_beq_eq_true hq
      cases h
      exact List.mem_cons.mpr (Or.inl (by rw [← e1]))
    | false =>
      rw [hq] at h
      exact List.mem_cons_of_mem _ (ih h)
theorem mm_has_get {ad : Nat → Nat} {ls : Array Slot} {nL : Nat} {lv : mm_L} (hl : lv_has ls nL (mm_cL ad lv)) {i : Nat} {v : Value} (h : mm_get lv i = some v) : ls[i]? = some (.val (mm_cV ad v)) :=
  hl.2.2 (i, mm_cV ad v) (List.mem_map.mpr ⟨(i, v), mm_get_mem h, rfl⟩)
theorem mm_fil {ad : Nat → Nat} (f g : Nat × Value → Bool) (h : ∀ q : Nat × Value, f (q.1, mm_cV ad q.2) = g q) (lv : mm_L) : (mm_cL ad lv).filter f = mm_cL ad (lv.filter g) := by
  induction lv with
  | nil => rfl
  | cons q r ih =>
    show List.filter f ((q.1, mm_cV ad q.2) :: mm_cL ad r) = _
    rw [List.filter_cons, List.filter_cons, h q]
    cases g q with
    | true => simp only [if_true]; rw [ih]; rfl
    | false => simpa using ih
theorem mm_cset1 (ad : Nat → Nat) (lv : mm_L) (i : Nat) (v : Value) : (i, mm_cV ad v) :: (mm_cL ad lv).filter (fun q => !(q.1 == i) && !(q.1 + 1 == i && q.2.category == 2)) = mm_cL ad (mm_set1 lv i v) := by
  exact congrArg (List.cons _) (mm_fil _ (fun q => !(q.1 == i) && !(q.1 + 1 == i && q.2.category == 2)) (fun q => by simp only [mm_cat]) lv)
theorem mm_cset2 (ad : Nat → Nat) (lv : mm_L) (i : Nat) (v : Value) : (i, mm_cV ad v) :: (mm_cL ad lv).filter (fun q => !(q.1 == i) && (!(q.1 == i + 1) && !(q.1 + 1 == i && q.2.category == 2))) = mm_cL ad (mm_set2 lv i v) := by
  exact congrArg (List.cons _) (mm_fil _ (fun q => !(q.1 == i) && (!(q.1 == i + 1) && !(q.1 + 1 == i && q.2.category == 2))) (fun q => by simp only [mm_cat]) lv)
theorem mm_cond {α : Type} {b : Bool} {x : Option α} {q : α} (h : (bif b then x else none) = some q) : b = true ∧ x = some q := by
  cases b with
  | true => exact ⟨rfl, h⟩
  | false => cases h
theorem mm_beq {a b : Nat} (h : Nat.beq a b = true) : a = b := Nat.eq_of_beq_eq_true h
theorem mm_and {a b : Bool} (h : (a && b) = true) : a = true ∧ b = true := by cases a <;> cases b <;> first | exact ⟨rfl, rfl⟩ | cases h
theorem mm_blt {a b : Nat} (h : Nat.blt a b = true) : a < b := Nat.le_of_ble_eq_true h
theorem mm_to_eq {pc t : Nat} {off : Int} (h : mm_to pc off = some t) : (pc : Int) + off = (t : Int) := by
  unfold mm_to at h
  split at h
  · next t' e1 => cases h; exact e1
  · cases h
theorem mm_jump_eq {pc : Nat} {off : Int} {lv : mm_L} {st : List Value} {q : mm_P} (h : mm_jump pc off lv st = some q) : ∃ t : Nat, (pc : Int) + off = (t : Int) ∧ q = (t, lv, st) := by
  unfold mm_jump at h
  split at h
  · next t e1 => cases h; exact ⟨t, mm_to_eq e1, rfl⟩
  · cases h

section MmInv
variable {len want pc i nL : Nat} {off : Int} {lv : mm_L} {st : List Value} {q : mm_P} {v : Value}
theorem mm_pushi_i (h : mm_pushi len want pc lv st v = some q) : len = want ∧ q = (pc + want, lv, v :: st) := by
  obtain ⟨h1, h2⟩ := mm_cond h
  exact ⟨mm_beq h1, (Option.some.inj h2).symm⟩
theorem mm_load_i {ok : Value → Bool} (h : mm_load len want pc lv st i ok = some q) : len = want ∧ ∃ v, mm_get lv i = some v ∧ ok v = true ∧ q = (pc + want, lv, v :: st) := by
  obtain ⟨h1, h2⟩ := mm_cond h
  refine ⟨mm_beq h1, ?_⟩
  split at h2
  · next v e1 =>
    obtain ⟨h3, h4⟩ := mm_cond h2
    exact ⟨v, e1, h3, (Option.some.inj h4).symm⟩
  · cases h2
theorem mm_store1_i {ok : Value → Bool} (h : mm_store1 nL len want pc lv st i ok = some q) : len = want ∧ i < nL ∧ ∃ v r, st = v :: r ∧ ok v = true ∧ q = (pc + want, mm_set1 lv i v, r) := by
  obtain ⟨h1, h2⟩ := mm_cond h
  obtain ⟨h1, h5⟩ := mm_and h1
  refine ⟨mm_beq h1, mm_blt h5, ?_⟩
  split at h2
  · next v r =>
    obtain ⟨h3, h4⟩ := mm_cond h2
    exact ⟨v, r, rfl, h3, (Option.some.inj h4).symm⟩
  · cases h2
theorem mm_store2_i (h : mm_store2 nL len want pc lv st i = some q) : len = want ∧ i + 1 < nL ∧ ∃ x r, st = .long x :: r ∧ q = (pc + want, mm_set2 lv i (.long x), r) := by
  obtain ⟨h1, h2⟩ := mm_cond h
  obtain ⟨h1, h5⟩ := mm_and h1
  refine ⟨mm_beq h1, mm_blt h5, ?_⟩
  split at h2
  · next x r => exact ⟨x, r, rfl, (Option.some.inj h2).symm⟩
  · cases h2
theorem mm_iinc_i {n : Int} (h : mm_iinc nL len pc lv st i n = some q) : len = 3 ∧ i < nL ∧ ∃ x, mm_get lv i = some (.int x) ∧ q = (pc + 3, mm_set1 lv i (.int (x + Int32.ofInt n)), st) := by
  obtain ⟨h1, h2⟩ := mm_cond h
  obtain ⟨h1, h5⟩ := mm_and h1
  refine ⟨mm_beq h1, mm_blt h5, ?_⟩
  split at h2
  · next x e1 => exact ⟨x, e1, (Option.some.inj h2).symm⟩
  · cases h2
theorem mm_bi_i {f : Int32 → Int32 → Int32} (h : mm_bi len pc lv st f = some q) : len = 1 ∧ ∃ x y r, st = .int y :: .int x :: r ∧ q = (pc + 1, lv, .int (f x y) :: r) := by
  unfold mm_bi at h
  split at h
  · next y x r =>
    obtain ⟨h1, h2⟩ := mm_cond h
    exact ⟨mm_beq h1, x, y, r, rfl, (Option.some.inj h2).symm⟩
  · cases h
theorem mm_bd_i {f : Int32 → Int32 → Int32} (h : mm_bd len pc lv st f = some q) : len = 1 ∧ ∃ x y r, st = .int y :: .int x :: r ∧ ¬ y = 0 ∧ q = (pc + 1, lv, .int (f x y) :: r) := by
  unfold mm_bd at h
  split at h
  · next y x r =>
    obtain ⟨h1, h2⟩ := mm_cond h
    split at h2
    · cases h2
    · next h3 => exact ⟨mm_beq h1, x, y, r, rfl, h3, (Option.some.inj h2).symm⟩
  · cases h
theorem mm_bl_i {f : Int64 → Int64 → Int64} (h : mm_bl len pc lv st f = some q) : len = 1 ∧ ∃ x y r, st = .long y :: .long x :: r ∧ q = (pc + 1, lv, .long (f x y) :: r) := by
  unfold mm_bl at h
  split at h
  · next y x r =>
    obtain ⟨h1, h2⟩ := mm_cond h
    exact ⟨mm_beq h1, x, y, r, rfl, (Option.some.inj h2).symm⟩
  · cases h
theorem mm_bld_i {f : Int64 → Int64 → Int64} (h : mm_bld len pc lv st f = some q) : len = 1 ∧ ∃ x y r, st = .long y :: .long x :: r ∧ ¬ y = 0 ∧ q = (pc + 1, lv, .long (f x y) :: r) := by
  unfold mm_bld at h
  split at h
  · next y x r =>
    obtain ⟨h1, h2⟩ := mm_cond h
    split at h2
    · cases h2
    · next h3 => exact ⟨mm_beq h1, x, y, r, rfl, h3, (Option.some.inj h2).symm⟩
  · cases h
theorem mm_sl_i {f : Int64 → Int32 → Int64} (h : mm_sl len pc lv st f = some q) : len = 1 ∧ ∃ x y r, st = .int y :: .long x :: r ∧ q = (pc + 1, lv, .long (f x y) :: r) := by
  unfold mm_sl at h
  split at h
  · next y x r =>
    obtain ⟨h1, h2⟩ := mm_cond h
    exact ⟨mm_beq h1, x, y, r, rfl, (Option.some.inj h2).symm⟩
  · cases h
theorem mm_lc_i (h : mm_lc len pc lv st = some q) : len = 1 ∧ ∃ x y r, st = .long y :: .long x :: r ∧ q = (pc + 1, lv, .int (lg_cmp x y) :: r) := by
  unfold mm_lc at h
  split at h
  · next y x r =>
    obtain ⟨h1, h2⟩ := mm_cond h
    exact ⟨mm_beq h1, x, y, r, rfl, (Option.some.inj h2).symm⟩
  · cases h
theorem mm_ui_i {f : Int32 → Int32} (h : mm_ui len pc lv st f = some q) : len = 1 ∧ ∃ x r, st = .int x :: r ∧ q = (pc + 1, lv, .int (f x) :: r) := by
  unfold mm_ui at h
  split at h
  · next x r =>
    obtain ⟨h1, h2⟩ := mm_cond h
    exact ⟨mm_beq h1, x, r, rfl, (Option.some.inj h2).symm⟩
  · cases h
theorem mm_il_i (h : mm_il len pc lv st = some q) : len = 1 ∧ ∃ x r, st = .int x :: r ∧ q = (pc + 1, lv, .long x.toInt64 :: r) := by
  unfold mm_il at h
  split at h
  · next x r =>
    obtain ⟨h1, h2⟩ := mm_cond h
    exact ⟨mm_beq h1, x, r, rfl, (Option.some.inj h2).symm⟩
  · cases h
theorem mm_li_i (h : mm_li len pc lv st = some q) : len = 1 ∧ ∃ x r, st = .long x :: r ∧ q = (pc + 1, lv, .int x.toInt32 :: r) := by
  unfold mm_li at h
  split at h
  · next x r =>
    obtain ⟨h1, h2⟩ := mm_cond h
    exact ⟨mm_beq h1, x, r, rfl, (Option.some.inj h2).symm⟩
  · cases h
theorem mm_dup_i (h : mm_dup len pc lv st = some q) : len = 1 ∧ ∃ v r, st = v :: r ∧ v.category = 1 ∧ q = (pc + 1, lv, v :: v :: r) := by
  unfold mm_dup at h
  split at h
  · next v r =>
    obtain ⟨h1, h2⟩ := mm_cond h
    obtain ⟨h1, h3⟩ := mm_and h1
    exact ⟨mm_beq h1, v, r, rfl, mm_beq h3, (Option.some.inj h2).symm⟩
  · cases h
theorem mm_pop_i (h : mm_pop len pc lv st = some q) : len = 1 ∧ ∃ v r, st = v :: r ∧ v.category = 1 ∧ q = (pc + 1, lv, r) := by
  unfold mm_pop at h
  split at h
  · next v r =>
    obtain ⟨h1, h2⟩ := mm_cond h
    obtain ⟨h1, h3⟩ := mm_and h1
    exact ⟨mm_beq h1, v, r, rfl, mm_beq h3, (Option.some.inj h2).symm⟩
  · cases h
theorem mm_dupx1_i (h : mm_dupx1 len pc lv st = some q) : len = 1 ∧ ∃ v w r, st = v :: w :: r ∧ v.category = 1 ∧ w.category = 1 ∧ q = (pc + 1, lv, v :: w :: v :: r) := by
  unfold mm_dupx1 at h
  split at h
  · next v w r =>
    obtain ⟨h1, h2⟩ := mm_cond h
    obtain ⟨h1, h3⟩ := mm_and h1
    obtain ⟨h3, h4⟩ := mm_and h3
    exact ⟨mm_beq h1, v, w, r, rfl, mm_beq h3, mm_beq h4, (Option.some.inj h2).symm⟩
  · cases h
theorem mm_dup2_i (h : mm_dup2 len pc lv st = some q) : len = 1 ∧ ∃ v w r, st = v :: w :: r ∧ v.category = 1 ∧ w.category = 1 ∧ q = (pc + 1, lv, v :: w :: v :: w :: r) := by
  unfold mm_dup2 at h
  split at h
  · next v w r =>
    obtain ⟨h1, h2⟩ := mm_cond h
    obtain ⟨h1, h3⟩ := mm_and h1
    obtain ⟨h3, h4⟩ := mm_and h3
    exact ⟨mm_beq h1, v, w, r, rfl, mm_beq h3, mm_beq h4, (Option.some.inj h2).symm⟩
  · cases h
theorem mm_br_i {b : Bool} {r : List Value} (h : mm_br len pc off lv r b = some q) : len = 3 ∧ ∃ t : Nat, (pc : Int) + off = (t : Int) ∧ ((b = true ∧ q = (t, lv, r)) ∨ (b = false ∧ q = (pc + 3, lv, r))) := by
  obtain ⟨h1, h2⟩ := mm_cond h
  refine ⟨mm_beq h1, ?_⟩
  split at h2
  · next t ht =>
    refine ⟨t, mm_to_eq ht, ?_⟩
    cases b with
    | true => exact Or.inl ⟨rfl, (Option.some.inj h2).symm⟩
    | false => exact Or.inr ⟨rfl, (Option.some.inj h2).symm⟩
  · cases h2
theorem mm_if1_i {f : Int32 → Bool} (h : mm_if1 len pc off lv st f = some q) : ∃ x r, st = .int x :: r ∧ mm_br len pc off lv r (f x) = some q := by
  unfold mm_if1 at h
  split at h
  · next x r => exact ⟨x, r, rfl, h⟩
  · cases h
theorem mm_if2_i {f : Int32 → Int32 → Bool} (h : mm_if2 len pc off lv st f = some q) : ∃ x y r, st = .int y :: .int x :: r ∧ mm_br len pc off lv r (f x y) = some q := by
  unfold mm_if2 at h
  split at h
  · next y x r => exact ⟨x, y, r, rfl, h⟩
  · cases h
theorem mm_ifn_i {b : Bool} (h : mm_ifn len pc off lv st b = some q) : (∃ r, st = .null :: r ∧ mm_br len pc off lv r b = some q) ∨ (∃ a r, st = .ref a :: r ∧ mm_br len pc off lv r (!b) = some q) := by
  unfold mm_ifn at h
  split at h
  · next r => exact Or.inl ⟨r, rfl, h⟩
  · next a r => exact Or.inr ⟨a, r, rfl, h⟩
  · cases h
end MmInv
