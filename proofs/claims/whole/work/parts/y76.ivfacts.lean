def mm_hs0 (mi : Nat) : Bool := match (mm_MT mi).2.2.2.2.2 with
  | [] => true
  | _ :: _ => false
def mm_ivC (own : Nat) (q : Nat × Nat × Nat × Nat) : Bool := match q.2.1 with
  | 0 => decide (lw_tbl[q.2.2.2]? = some (Jvm.Cond.methodLink (mm_ow own) q.1 (mm_y q.2.2.1))) && (Nat.blt q.2.2.1 403 && (Nat.beq (mm_MT q.2.2.1).2.2.2.2.1 0 && mm_hs0 q.2.2.1))
  | 1 => decide (lw_tbl[q.2.2.2]? = some (Jvm.Cond.methodLink (mm_ow own) q.1 (mm_y q.2.2.1))) && (Nat.blt q.2.2.1 403 && Nat.beq (mm_MT q.2.2.1).2.2.2.2.1 1)
  | 2 => decide (lw_tbl[q.2.2.2]? = some (Jvm.Cond.methodLink (mm_ow own) q.1 (mm_y q.2.2.1))) && (Nat.blt q.2.2.1 403 && (Nat.beq (mm_MT q.2.2.1).2.2.2.2.1 2 && mm_hs0 q.2.2.1))
  | 3 => decide ((mm_ow own, q.1, mm_y q.2.2.1) ∈ mm_ns) && (Nat.blt q.2.2.1 403 && (Nat.beq (mm_MT q.2.2.1).2.2.2.2.1 1 && mm_hs0 q.2.2.1))
  | 4 => decide ((mm_ow own, q.1, mm_y q.2.2.1) ∈ mm_ns) && (Nat.blt q.2.2.1 403 && (Nat.beq (mm_MT q.2.2.1).2.2.2.2.1 2 && mm_hs0 q.2.2.1))
  | 6 => decide (lw_tbl[q.2.2.2]? = some (Jvm.Cond.methodLink (mm_ow own) q.1 Lib.objectInit))
  | 7 => decide (lw_tbl[q.2.2.2]? = some (Jvm.Cond.methodLink (mm_ow own) q.1 Lib.Math.min.name))
  | 8 => decide (lw_tbl[q.2.2.2]? = some (Jvm.Cond.methodLink (mm_ow own) q.1 Lib.Math.max.name))
  | 9 => decide (lw_tbl[q.2.2.2]? = some (Jvm.Cond.methodLink (mm_ow own) q.1 Lib.Math.abs.name))
  | 10 => decide (lw_tbl[q.2.2.2]? = some (Jvm.Cond.methodLink (mm_ow own) q.1 Lib.MathLoose.min_long.x))
  | 11 => decide (lw_tbl[q.2.2.2]? = some (Jvm.Cond.methodLink (mm_ow own) q.1 arraycopyName))
  | _ => false
set_option maxRecDepth 100000 in
theorem mm_ivK0 : (mm_ivT 0).all (mm_ivC 0) = true := by decide +kernel
set_option maxRecDepth 100000 in
theorem mm_ivK1 : (mm_ivT 1).all (mm_ivC 1) = true := by decide +kernel
set_option maxRecDepth 100000 in
theorem mm_ivK2 : (mm_ivT 2).all (mm_ivC 2) = true := by decide +kernel
set_option maxRecDepth 100000 in
theorem mm_ivK3 : (mm_ivT 3).all (mm_ivC 3) = true := by decide +kernel
set_option maxRecDepth 100000 in
theorem mm_ivK4 : (mm_ivT 4).all (mm_ivC 4) = true := by decide +kernel
set_option maxRecDepth 100000 in
theorem mm_ivK5 : (mm_ivT 5).all (mm_ivC 5) = true := by decide +kernel
set_option maxRecDepth 100000 in
theorem mm_ivK6 : (mm_ivT 6).all (mm_ivC 6) = true := by decide +kernel
set_option maxRecDepth 100000 in
theorem mm_ivK7 : (mm_ivT 7).all (mm_ivC 7) = true := by decide +kernel
set_option maxRecDepth 100000 in
theorem mm_ivK8 : (mm_ivT 8).all (mm_ivC 8) = true := by decide +kernel
set_option maxRecDepth 100000 in
theorem mm_ivK9 : (mm_ivT 9).all (mm_ivC 9) = true := by decide +kernel
set_option maxRecDepth 100000 in
theorem mm_ivK10 : (mm_ivT 10).all (mm_ivC 10) = true := by decide +kernel
set_option maxRecDepth 100000 in
theorem mm_ivK11 : (mm_ivT 11).all (mm_ivC 11) = true := by decide +kernel
set_option maxRecDepth 100000 in
theorem mm_ivK12 : (mm_ivT 12).all (mm_ivC 12) = true := by decide +kernel
set_option maxRecDepth 100000 in
theorem mm_ivK13 : (mm_ivT 13).all (mm_ivC 13) = true := by decide +kernel
theorem mm_ivK_all (own : Nat) : (mm_ivT own).all (mm_ivC own) = true := by
  match own with
  | 0 => exact mm_ivK0
  | 1 => exact mm_ivK1
  | 2 => exact mm_ivK2
  | 3 => exact mm_ivK3
  | 4 => exact mm_ivK4
  | 5 => exact mm_ivK5
  | 6 => exact mm_ivK6
  | 7 => exact mm_ivK7
  | 8 => exact mm_ivK8
  | 9 => exact mm_ivK9
  | 10 => exact mm_ivK10
  | 11 => exact mm_ivK11
  | 12 => exact mm_ivK12
  | 13 => exact mm_ivK13
  | n + 14 => rfl
theorem mm_hs0_s {mi : Nat} (h : mm_hs0 mi = true) : (mm_MT mi).2.2.2.2.2 = [] := by
  unfold mm_hs0 at h
  split at h
  · assumption
  · cases h
/-- an own method by its number: the link, the method, its kind -/
theorem mm_ivF {own idx : Nat} {f : Nat × Nat × Nat} (h : mm_lk (mm_ivT own) idx = some f) : mm_ivC own (idx, f) = true := mm_all (mm_ivK_all own) (mm_lk_mem h)
theorem mm_iv0 {own idx : Nat} {f : Nat × Nat × Nat} (h : mm_lk (mm_ivT own) idx = some f) (hk : f.1 = 0) : Jvm.Cond.methodLink (mm_ow own) idx (mm_y f.2.1) ∈ mm_TW ∧ f.2.1 < 403 ∧ (mm_MT f.2.1).2.2.2.2.1 = 0 ∧ (mm_MT f.2.1).2.2.2.2.2 = [] := by
  have h1 := mm_ivF h
  unfold mm_ivC at h1
  simp only [hk] at h1
  obtain ⟨h1, h2⟩ := mm_and h1
  obtain ⟨h2, h3⟩ := mm_and h2
  obtain ⟨h3, h4⟩ := mm_and h3
  exact ⟨mm_TW_of (of_decide_eq_true h1) rfl, mm_blt h2, mm_beq h3, mm_hs0_s h4⟩
theorem mm_iv1 {own idx : Nat} {f : Nat × Nat × Nat} (h : mm_lk (mm_ivT own) idx = some f) (hk : f.1 = 1) : Jvm.Cond.methodLink (mm_ow own) idx (mm_y f.2.1) ∈ mm_TW ∧ f.2.1 < 403 ∧ (mm_MT f.2.1).2.2.2.2.1 = 1 := by
  have h1 := mm_ivF h
  unfold mm_ivC at h1
  simp only [hk] at h1
  obtain ⟨h1, h2⟩ := mm_and h1
  obtain ⟨h2, h3⟩ := mm_and h2
  exact ⟨mm_TW_of (of_decide_eq_true h1) rfl, mm_blt h2, mm_beq h3⟩
theorem mm_iv2 {own idx : Nat} {f : Nat × Nat × Nat} (h : mm_lk (mm_ivT own) idx = some f) (hk : f.1 = 2) : Jvm.Cond.methodLink (mm_ow own) idx (mm_y f.2.1) ∈ mm_TW ∧ f.2.1 < 403 ∧ (mm_MT f.2.1).2.2.2.2.1 = 2 ∧ (mm_MT f.2.1).2.2.2.2.2 = [] := by
  have h1 := mm_ivF h
  unfold mm_ivC at h1
  simp only [hk] at h1
  obtain ⟨h1, h2⟩ := mm_and h1
  obtain ⟨h2, h3⟩ := mm_and h2
  obtain ⟨h3, h4⟩ := mm_and h3
  exact ⟨mm_TW_of (of_decide_eq_true h1) rfl, mm_blt h2, mm_beq h3, mm_hs0_s h4⟩
theorem mm_iv3 {own idx : Nat} {f : Nat × Nat × Nat} (h : mm_lk (mm_ivT own) idx = some f) (hk : f.1 = 3) : (mm_ow own, idx, mm_y f.2.1) ∈ mm_ns ∧ f.2.1 < 403 ∧ (mm_MT f.2.1).2.2.2.2.1 = 1 ∧ (mm_MT f.2.1).2.2.2.2.2 = [] := by
  have h1 := mm_ivF h
  unfold mm_ivC at h1
  simp only [hk] at h1
  obtain ⟨h1, h2⟩ := mm_and h1
  obtain ⟨h2, h3⟩ := mm_and h2
  obtain ⟨h3, h4⟩ := mm_and h3
  exact ⟨of_decide_eq_true h1, mm_blt h2, mm_beq h3, mm_hs0_s h4⟩
theorem mm_iv4 {own idx : Nat} {f : Nat × Nat × Nat} (h : mm_lk (mm_ivT own) idx = some f) (hk : f.1 = 4) : (mm_ow own, idx, mm_y f.2.1) ∈ mm_ns ∧ f.2.1 < 403 ∧ (mm_MT f.2.1).2.2.2.2.1 = 2 ∧ (mm_MT f.2.1).2.2.2.2.2 = [] := by
  have h1 := mm_ivF h
  unfold mm_ivC at h1
  simp only [hk] at h1
  obtain ⟨h1, h2⟩ := mm_and h1
  obtain ⟨h2, h3⟩ := mm_and h2
  obtain ⟨h3, h4⟩ := mm_and h3
  exact ⟨of_decide_eq_true h1, mm_blt h2, mm_beq h3, mm_hs0_s h4⟩
theorem mm_ivB6 {own idx : Nat} {f : Nat × Nat × Nat} (h : mm_lk (mm_ivT own) idx = some f) (hk : f.1 = 6) : Jvm.Cond.methodLink (mm_ow own) idx Lib.objectInit ∈ mm_TW := by
  have h1 := mm_ivF h
  unfold mm_ivC at h1
  simp only [hk] at h1
  exact mm_TW_of (of_decide_eq_true h1) rfl
theorem mm_ivB7 {own idx : Nat} {f : Nat × Nat × Nat} (h : mm_lk (mm_ivT own) idx = some f) (hk : f.1 = 7) : Jvm.Cond.methodLink (mm_ow own) idx Lib.Math.min.name ∈ mm_TW := by
  have h1 := mm_ivF h
  unfold mm_ivC at h1
  simp only [hk] at h1
  exact mm_TW_of (of_decide_eq_true h1) rfl
theorem mm_ivB8 {own idx : Nat} {f : Nat × Nat × Nat} (h : mm_lk (mm_ivT own) idx = some f) (hk : f.1 = 8) : Jvm.Cond.methodLink (mm_ow own) idx Lib.Math.max.name ∈ mm_TW := by
  have h1 := mm_ivF h
  unfold mm_ivC at h1
  simp only [hk] at h1
  exact mm_TW_of (of_decide_eq_true h1) rfl
theorem mm_ivB9 {own idx : Nat} {f : Nat × Nat × Nat} (h : mm_lk (mm_ivT own) idx = some f) (hk : f.1 = 9) : Jvm.Cond.methodLink (mm_ow own) idx Lib.Math.abs.name ∈ mm_TW := by
  have h1 := mm_ivF h
  unfold mm_ivC at h1
  simp only [hk] at h1
  exact mm_TW_of (of_decide_eq_true h1) rfl
theorem mm_ivB10 {own idx : Nat} {f : Nat × Nat × Nat} (h : mm_lk (mm_ivT own) idx = some f) (hk : f.1 = 10) : Jvm.Cond.methodLink (mm_ow own) idx Lib.MathLoose.min_long.x ∈ mm_TW := by
  have h1 := mm_ivF h
  unfold mm_ivC at h1
  simp only [hk] at h1
  exact mm_TW_of (of_decide_eq_true h1) rfl
theorem mm_ivB11 {own idx : Nat} {f : Nat × Nat × Nat} (h : mm_lk (mm_ivT own) idx = some f) (hk : f.1 = 11) : Jvm.Cond.methodLink (mm_ow own) idx arraycopyName ∈ mm_TW := by
  have h1 := mm_ivF h
  unfold mm_ivC at h1
  simp only [hk] at h1
  exact mm_TW_of (of_decide_eq_true h1) rfl
