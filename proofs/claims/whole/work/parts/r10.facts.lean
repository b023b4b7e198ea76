def mm_stC (own : Nat) (q : Nat × Nat × Nat) : Bool := decide (lw_tbl[q.2.2]? = some (Jvm.Cond.fieldLink (mm_ow own) q.1 (mm_sc q.2.1).1 (mm_sc q.2.1).2 "[I"))
def mm_ciC (own : Nat) (q : Nat × Int32 × Nat) : Bool := decide (lw_tbl[q.2.2]? = some (Jvm.Cond.constant (mm_ow own) q.1 q.2.1))
def mm_clC (own : Nat) (q : Nat × Int64 × Nat) : Bool := decide (lw_tbl[q.2.2]? = some (Jvm.Cond.constantLong (mm_ow own) q.1 q.2.1))
def mm_nwC (own : Nat) (q : Nat × Nat × Nat) : Bool := decide (lw_tbl[q.2.2]? = some (Jvm.Cond.classLink (mm_ow own) q.1 (mm_ow q.2.1)))
def mm_anC (own : Nat) (q : Nat × Nat × Nat) : Bool := decide (lw_tbl[q.2.2]? = some (Jvm.Cond.classLink (mm_ow own) q.1 (mm_ow (mm_ac q.2.1))))
theorem mm_flK_all (own : Nat) : (mm_flT own).all (mm_flC own) = true := by
  match own with
  | 0 => exact mm_flK0
  | 1 => exact mm_flK1
  | 2 => exact mm_flK2
  | 3 => exact mm_flK3
  | 4 => exact mm_flK4
  | 5 => exact mm_flK5
  | 6 => exact mm_flK6
  | 7 => exact mm_flK7
  | 8 => exact mm_flK8
  | 9 => exact mm_flK9
  | 10 => exact mm_flK10
  | 11 => exact mm_flK11
  | 12 => exact mm_flK12
  | 13 => exact rfl
  | n + 14 => rfl
set_option maxRecDepth 100000 in
theorem mm_stK2 : (mm_stT 2).all (mm_stC 2) = true := by decide +kernel
set_option maxRecDepth 100000 in
theorem mm_stK5 : (mm_stT 5).all (mm_stC 5) = true := by decide +kernel
set_option maxRecDepth 100000 in
theorem mm_stK11 : (mm_stT 11).all (mm_stC 11) = true := by decide +kernel
theorem mm_stK_all (own : Nat) : (mm_stT own).all (mm_stC own) = true := by
  match own with
  | 0 => exact rfl
  | 1 => exact rfl
  | 2 => exact mm_stK2
  | 3 => exact rfl
  | 4 => exact rfl
  | 5 => exact mm_stK5
  | 6 => exact rfl
  | 7 => exact rfl
  | 8 => exact rfl
  | 9 => exact rfl
  | 10 => exact rfl
  | 11 => exact mm_stK11
  | 12 => exact rfl
  | 13 => exact rfl
  | n + 14 => rfl
set_option maxRecDepth 100000 in
theorem mm_ciK1 : (mm_ciT 1).all (mm_ciC 1) = true := by decide +kernel
set_option maxRecDepth 100000 in
theorem mm_ciK4 : (mm_ciT 4).all (mm_ciC 4) = true := by decide +kernel
set_option maxRecDepth 100000 in
theorem mm_ciK6 : (mm_ciT 6).all (mm_ciC 6) = true := by decide +kernel
set_option maxRecDepth 100000 in
theorem mm_ciK9 : (mm_ciT 9).all (mm_ciC 9) = true := by decide +kernel
set_option maxRecDepth 100000 in
theorem mm_ciK12 : (mm_ciT 12).all (mm_ciC 12) = true := by decide +kernel
theorem mm_ciK_all (own : Nat) : (mm_ciT own).all (mm_ciC own) = true := by
  match own with
  | 0 => exact rfl
  | 1 => exact mm_ciK1
  | 2 => exact rfl
  | 3 => exact rfl
  | 4 => exact mm_ciK4
  | 5 => exact rfl
  | 6 => exact mm_ciK6
  | 7 => exact rfl
  | 8 => exact rfl
  | 9 => exact mm_ciK9
  | 10 => exact rfl
  | 11 => exact rfl
  | 12 => exact mm_ciK12
  | 13 => exact rfl
  | n + 14 => rfl
set_option maxRecDepth 100000 in
theorem mm_clK11 : (mm_clT 11).all (mm_clC 11) = true := by decide +kernel
set_option maxRecDepth 100000 in
theorem mm_clK12 : (mm_clT 12).all (mm_clC 12) = true := by decide +kernel
set_option maxRecDepth 100000 in
theorem mm_clK13 : (mm_clT 13).all (mm_clC 13) = true := by decide +kernel
theorem mm_clK_all (own : Nat) : (mm_clT own).all (mm_clC own) = true := by
  match own with
  | 0 => exact rfl
  | 1 => exact rfl
  | 2 => exact rfl
  | 3 => exact rfl
  | 4 => exact rfl
  | 5 => exact rfl
  | 6 => exact rfl
  | 7 => exact rfl
  | 8 => exact rfl
  | 9 => exact rfl
  | 10 => exact rfl
  | 11 => exact mm_clK11
  | 12 => exact mm_clK12
  | 13 => exact mm_clK13
  | n + 14 => rfl
set_option maxRecDepth 100000 in
theorem mm_nwK1 : (mm_nwT 1).all (mm_nwC 1) = true := by decide +kernel
set_option maxRecDepth 100000 in
theorem mm_nwK2 : (mm_nwT 2).all (mm_nwC 2) = true := by decide +kernel
set_option maxRecDepth 100000 in
theorem mm_nwK4 : (mm_nwT 4).all (mm_nwC 4) = true := by decide +kernel
set_option maxRecDepth 100000 in
theorem mm_nwK7 : (mm_nwT 7).all (mm_nwC 7) = true := by decide +kernel
set_option maxRecDepth 100000 in
theorem mm_nwK8 : (mm_nwT 8).all (mm_nwC 8) = true := by decide +kernel
set_option maxRecDepth 100000 in
theorem mm_nwK11 : (mm_nwT 11).all (mm_nwC 11) = true := by decide +kernel
set_option maxRecDepth 100000 in
theorem mm_nwK13 : (mm_nwT 13).all (mm_nwC 13) = true := by decide +kernel
theorem mm_nwK_all (own : Nat) : (mm_nwT own).all (mm_nwC own) = true := by
  match own with
  | 0 => exact rfl
  | 1 => exact mm_nwK1
  | 2 => exact mm_nwK2
  | 3 => exact rfl
  | 4 => exact mm_nwK4
  | 5 => exact rfl
  | 6 => exact rfl
  | 7 => exact mm_nwK7
  | 8 => exact mm_nwK8
  | 9 => exact rfl
  | 10 => exact rfl
  | 11 => exact mm_nwK11
  | 12 => exact rfl
  | 13 => exact mm_nwK13
  | n + 14 => rfl
set_option maxRecDepth 100000 in
theorem mm_anK2 : (mm_anT 2).all (mm_anC 2) = true := by decide +kernel
set_option maxRecDepth 100000 in
theorem mm_anK4 : (mm_anT 4).all (mm_anC 4) = true := by decide +kernel
set_option maxRecDepth 100000 in
theorem mm_anK7 : (mm_anT 7).all (mm_anC 7) = true := by decide +kernel
set_option maxRecDepth 100000 in
theorem mm_anK8 : (mm_anT 8).all (mm_anC 8) = true := by decide +kernel
set_option maxRecDepth 100000 in
theorem mm_anK11 : (mm_anT 11).all (mm_anC 11) = true := by decide +kernel
theorem mm_anK_all (own : Nat) : (mm_anT own).all (mm_anC own) = true := by
  match own with
  | 0 => exact rfl
  | 1 => exact rfl
  | 2 => exact mm_anK2
  | 3 => exact rfl
  | 4 => exact mm_anK4
  | 5 => exact rfl
  | 6 => exact rfl
  | 7 => exact mm_anK7
  | 8 => exact mm_anK8
  | 9 => exact rfl
  | 10 => exact rfl
  | 11 => exact mm_anK11
  | 12 => exact rfl
  | 13 => exact rfl
  | n + 14 => rfl
theorem mm_all {α : Type} {l : List α} {f : α → Bool} (h : l.all f = true) {a : α} (ha : a ∈ l) : f a = true := List.all_eq_true.mp h a ha
theorem mm_flF {own idx : Nat} {f : Nat × Nat × Nat} (h : mm_lk (mm_flT own) idx = some f) : ∃ r, mm_cls[f.1]? = some r ∧ f.2.1 < r.2.2 ∧ Jvm.Cond.fieldLink (mm_ow own) idx (r.2.1 f.2.1).1 (r.2.1 f.2.1).2.1 (r.2.1 f.2.1).2.2.1 ∈ mm_TW := by
  have h1 := mm_all (mm_flK_all own) (mm_lk_mem h)
  unfold mm_flC at h1
  split at h1
  · next r hr =>
    obtain ⟨h2, h3⟩ := mm_and h1
    exact ⟨r, hr, of_decide_eq_true h2, mm_TW_of (of_decide_eq_true h3) rfl⟩
  · cases h1
theorem mm_stF {own idx : Nat} {f : Nat × Nat} (h : mm_lk (mm_stT own) idx = some f) : Jvm.Cond.fieldLink (mm_ow own) idx (mm_sc f.1).1 (mm_sc f.1).2 "[I" ∈ mm_TW := mm_TW_of (of_decide_eq_true (mm_all (mm_stK_all own) (mm_lk_mem h))) rfl
theorem mm_ciF {own idx : Nat} {f : Int32 × Nat} (h : mm_lk (mm_ciT own) idx = some f) : Jvm.Cond.constant (mm_ow own) idx f.1 ∈ mm_TW := mm_TW_of (of_decide_eq_true (mm_all (mm_ciK_all own) (mm_lk_mem h))) rfl
theorem mm_clF {own idx : Nat} {f : Int64 × Nat} (h : mm_lk (mm_clT own) idx = some f) : Jvm.Cond.constantLong (mm_ow own) idx f.1 ∈ mm_TW := mm_TW_of (of_decide_eq_true (mm_all (mm_clK_all own) (mm_lk_mem h))) rfl
theorem mm_nwF {own idx : Nat} {f : Nat × Nat} (h : mm_lk (mm_nwT own) idx = some f) : Jvm.Cond.classLink (mm_ow own) idx (mm_ow f.1) ∈ mm_TW := mm_TW_of (of_decide_eq_true (mm_all (mm_nwK_all own) (mm_lk_mem h))) rfl
theorem mm_anF {own idx : Nat} {f : Nat × Nat} (h : mm_lk (mm_anT own) idx = some f) : Jvm.Cond.classLink (mm_ow own) idx (mm_ow (mm_ac f.1)) ∈ mm_TW := mm_TW_of (of_decide_eq_true (mm_all (mm_anK_all own) (mm_lk_mem h))) rfl
/-- what a class of the claim's own brings: its descriptors, its names, its words -/
def mm_clsG (c : Nat) : Prop := ∀ r, mm_cls[c]? = some r → r.1 = mm_ow c ∧ (∀ k, k < r.2.2 → parseFieldDescriptor (r.2.1 k).2.2.1 = some (mm_ty c k)) ∧ (∀ a, a < r.2.2 → ∀ b, b < r.2.2 → a ≠ b → (r.2.1 a).2.1 ≠ (r.2.1 b).2.1) ∧ (∀ w ∈ u_ws r.1 r.2.1 r.2.2, w ∈ mm_TW) ∧ Jvm.Cond.instantiable r.1 r.2.2 ∈ mm_TW ∧ Jvm.Cond.initialized r.1 ∈ mm_TW
theorem mm_layG (C : String) (T : u_T) (k : Nat) : goodWord (u_lay C T k) = true := by
  unfold u_lay
  split <;> rfl
theorem mm_wsG {c : Nat} {r : vw_C} (hr : mm_cls[c]? = some r) (h : (List.range r.2.2).all (mm_lyC c) = true) : ∀ w ∈ u_ws r.1 r.2.1 r.2.2, w ∈ mm_TW := by
  intro w hw
  obtain ⟨k, hk, rfl⟩ := List.mem_map.mp hw
  have h1 := mm_all h hk
  unfold mm_lyC at h1
  rw [hr] at h1
  split at h1
  · next r' i e1 e2 =>
    cases e1
    exact mm_TW_of (of_decide_eq_true h1) (mm_layG _ _ _)
  · cases h1
set_option maxRecDepth 100000 in
theorem mm_clsG0 : mm_clsG 0 := by
  intro r hr
  have hr' := hr
  have e1 : (some (RX0, TX0, 4) : Option vw_C) = some r := hr
  cases e1
  refine ⟨rfl, tyX0_ok, nmX0, mm_wsG hr' mm_lyK0, mm_TW_of (i := (mm_inT 0).1) (by decide +kernel) rfl, mm_TW_of (i := (mm_inT 0).2) (by decide +kernel) rfl⟩
set_option maxRecDepth 100000 in
theorem mm_clsG1 : mm_clsG 1 := by
  intro r hr
  have hr' := hr
  have e1 : (some (RX1, TX1, 9) : Option vw_C) = some r := hr
  cases e1
  refine ⟨rfl, tyX1_ok, nmX1, mm_wsG hr' mm_lyK1, mm_TW_of (i := (mm_inT 1).1) (by decide +kernel) rfl, mm_TW_of (i := (mm_inT 1).2) (by decide +kernel) rfl⟩
set_option maxRecDepth 100000 in
theorem mm_clsG2 : mm_clsG 2 := by
  intro r hr
  have hr' := hr
  have e1 : (some (RX2, TX2, 19) : Option vw_C) = some r := hr
  cases e1
  refine ⟨rfl, tyX2_ok, nmX2, mm_wsG hr' mm_lyK2, mm_TW_of (i := (mm_inT 2).1) (by decide +kernel) rfl, mm_TW_of (i := (mm_inT 2).2) (by decide +kernel) rfl⟩
set_option maxRecDepth 100000 in
theorem mm_clsG3 : mm_clsG 3 := by
  intro r hr
  have hr' := hr
  have e1 : (some (RX3, TX3, 6) : Option vw_C) = some r := hr
  cases e1
  refine ⟨rfl, tyX3_ok, nmX3, mm_wsG hr' mm_lyK3, mm_TW_of (i := (mm_inT 3).1) (by decide +kernel) rfl, mm_TW_of (i := (mm_inT 3).2) (by decide +kernel) rfl⟩
set_option maxRecDepth 100000 in
theorem mm_clsG4 : mm_clsG 4 := by
  intro r hr
  have hr' := hr
  have e1 : (some (RX4, TX4, 10) : Option vw_C) = some r := hr
  cases e1
  refine ⟨rfl, tyX4_ok, nmX4, mm_wsG hr' mm_lyK4, mm_TW_of (i := (mm_inT 4).1) (by decide +kernel) rfl, mm_TW_of (i := (mm_inT 4).2) (by decide +kernel) rfl⟩
set_option maxRecDepth 100000 in
theorem mm_clsG5 : mm_clsG 5 := by
  intro r hr
  have hr' := hr
  have e1 : (some (RX5, TX5, 16) : Option vw_C) = some r := hr
  cases e1
  refine ⟨rfl, tyX5_ok, nmX5, mm_wsG hr' mm_lyK5, mm_TW_of (i := (mm_inT 5).1) (by decide +kernel) rfl, mm_TW_of (i := (mm_inT 5).2) (by decide +kernel) rfl⟩
set_option maxRecDepth 100000 in
theorem mm_clsG6 : mm_clsG 6 := by
  intro r hr
  have hr' := hr
  have e1 : (some (RX6, TX6, 3) : Option vw_C) = some r := hr
  cases e1
  refine ⟨rfl, tyX6_ok, nmX6, mm_wsG hr' mm_lyK6, mm_TW_of (i := (mm_inT 6).1) (by decide +kernel) rfl, mm_TW_of (i := (mm_inT 6).2) (by decide +kernel) rfl⟩
set_option maxRecDepth 100000 in
theorem mm_clsG7 : mm_clsG 7 := by
  intro r hr
  have hr' := hr
  have e1 : (some (RX7, TX7, 12) : Option vw_C) = some r := hr
  cases e1
  refine ⟨rfl, tyX7_ok, nmX7, mm_wsG hr' mm_lyK7, mm_TW_of (i := (mm_inT 7).1) (by decide +kernel) rfl, mm_TW_of (i := (mm_inT 7).2) (by decide +kernel) rfl⟩
set_option maxRecDepth 100000 in
theorem mm_clsG8 : mm_clsG 8 := by
  intro r hr
  have hr' := hr
  have e1 : (some (RX8, TX8, 7) : Option vw_C) = some r := hr
  cases e1
  refine ⟨rfl, tyX8_ok, nmX8, mm_wsG hr' mm_lyK8, mm_TW_of (i := (mm_inT 8).1) (by decide +kernel) rfl, mm_TW_of (i := (mm_inT 8).2) (by decide +kernel) rfl⟩
set_option maxRecDepth 100000 in
theorem mm_clsG9 : mm_clsG 9 := by
  intro r hr
  have hr' := hr
  have e1 : (some (RX9, TX9, 4) : Option vw_C) = some r := hr
  cases e1
  refine ⟨rfl, tyX9_ok, nmX9, mm_wsG hr' mm_lyK9, mm_TW_of (i := (mm_inT 9).1) (by decide +kernel) rfl, mm_TW_of (i := (mm_inT 9).2) (by decide +kernel) rfl⟩
set_option maxRecDepth 100000 in
theorem mm_clsG10 : mm_clsG 10 := by
  intro r hr
  have hr' := hr
  have e1 : (some (RX10, TX10, 2) : Option vw_C) = some r := hr
  cases e1
  refine ⟨rfl, tyX10_ok, nmX10, mm_wsG hr' mm_lyK10, mm_TW_of (i := (mm_inT 10).1) (by decide +kernel) rfl, mm_TW_of (i := (mm_inT 10).2) (by decide +kernel) rfl⟩
set_option maxRecDepth 100000 in
theorem mm_clsG11 : mm_clsG 11 := by
  intro r hr
  have hr' := hr
  have e1 : (some (RX11, TX11, 16) : Option vw_C) = some r := hr
  cases e1
  refine ⟨rfl, tyX11_ok, nmX11, mm_wsG hr' mm_lyK11, mm_TW_of (i := (mm_inT 11).1) (by decide +kernel) rfl, mm_TW_of (i := (mm_inT 11).2) (by decide +kernel) rfl⟩
set_option maxRecDepth 100000 in
theorem mm_clsG12 : mm_clsG 12 := by
  intro r hr
  have hr' := hr
  have e1 : (some (RX12, TX12, 116) : Option vw_C) = some r := hr
  cases e1
  refine ⟨rfl, tyX12_ok, nmX12, mm_wsG hr' mm_lyK12, mm_TW_of (i := (mm_inT 12).1) (by decide +kernel) rfl, mm_TW_of (i := (mm_inT 12).2) (by decide +kernel) rfl⟩
theorem mm_clsF {c : Nat} (h : c < 13) : mm_clsG c := by
  match c, h with
  | 0, _ => exact mm_clsG0
  | 1, _ => exact mm_clsG1
  | 2, _ => exact mm_clsG2
  | 3, _ => exact mm_clsG3
  | 4, _ => exact mm_clsG4
  | 5, _ => exact mm_clsG5
  | 6, _ => exact mm_clsG6
  | 7, _ => exact mm_clsG7
  | 8, _ => exact mm_clsG8
  | 9, _ => exact mm_clsG9
  | 10, _ => exact mm_clsG10
  | 11, _ => exact mm_clsG11
  | 12, _ => exact mm_clsG12
  | n + 13, h => exact absurd h (by omega)
theorem mm_declG0 : ∀ k, k < 4 → (TX0 k).1 = RX0 := by decide +kernel
theorem mm_declG1 : ∀ k, k < 9 → (TX1 k).1 = RX1 := by decide +kernel
theorem mm_declG2 : ∀ k, k < 19 → (TX2 k).1 = RX2 := by decide +kernel
theorem mm_declG3 : ∀ k, k < 6 → (TX3 k).1 = RX3 := by decide +kernel
theorem mm_declG4 : ∀ k, k < 10 → (TX4 k).1 = RX4 := by decide +kernel
theorem mm_declG5 : ∀ k, k < 16 → (TX5 k).1 = RX5 := by decide +kernel
theorem mm_declG6 : ∀ k, k < 3 → (TX6 k).1 = RX6 := by decide +kernel
theorem mm_declG7 : ∀ k, k < 12 → (TX7 k).1 = RX7 := by decide +kernel
theorem mm_declG8 : ∀ k, k < 7 → (TX8 k).1 = RX8 := by decide +kernel
theorem mm_declG9 : ∀ k, k < 4 → (TX9 k).1 = RX9 := by decide +kernel
theorem mm_declG10 : ∀ k, k < 2 → (TX10 k).1 = RX10 := by decide +kernel
theorem mm_declG11 : ∀ k, k < 16 → (TX11 k).1 = RX11 := by decide +kernel
theorem mm_declG12 : ∀ k, k < 116 → (TX12 k).1 = RX12 := by decide +kernel
theorem mm_declF {c : Nat} {r : vw_C} (h : c < 13) (hr : mm_cls[c]? = some r) {k : Nat} (hk : k < r.2.2) : (r.2.1 k).1 = mm_ow c := by
  match c, h with
  | 0, _ => (have e1 : (some (RX0, TX0, 4) : Option vw_C) = some r := hr); cases e1; exact mm_declG0 k hk
  | 1, _ => (have e1 : (some (RX1, TX1, 9) : Option vw_C) = some r := hr); cases e1; exact mm_declG1 k hk
  | 2, _ => (have e1 : (some (RX2, TX2, 19) : Option vw_C) = some r := hr); cases e1; exact mm_declG2 k hk
  | 3, _ => (have e1 : (some (RX3, TX3, 6) : Option vw_C) = some r := hr); cases e1; exact mm_declG3 k hk
  | 4, _ => (have e1 : (some (RX4, TX4, 10) : Option vw_C) = some r := hr); cases e1; exact mm_declG4 k hk
  | 5, _ => (have e1 : (some (RX5, TX5, 16) : Option vw_C) = some r := hr); cases e1; exact mm_declG5 k hk
  | 6, _ => (have e1 : (some (RX6, TX6, 3) : Option vw_C) = some r := hr); cases e1; exact mm_declG6 k hk
  | 7, _ => (have e1 : (some (RX7, TX7, 12) : Option vw_C) = some r := hr); cases e1; exact mm_declG7 k hk
  | 8, _ => (have e1 : (some (RX8, TX8, 7) : Option vw_C) = some r := hr); cases e1; exact mm_declG8 k hk
  | 9, _ => (have e1 : (some (RX9, TX9, 4) : Option vw_C) = some r := hr); cases e1; exact mm_declG9 k hk
  | 10, _ => (have e1 : (some (RX10, TX10, 2) : Option vw_C) = some r := hr); cases e1; exact mm_declG10 k hk
  | 11, _ => (have e1 : (some (RX11, TX11, 16) : Option vw_C) = some r := hr); cases e1; exact mm_declG11 k hk
  | 12, _ => (have e1 : (some (RX12, TX12, 116) : Option vw_C) = some r := hr); cases e1; exact mm_declG12 k hk
  | n + 13, h => exact absurd h (by omega)
