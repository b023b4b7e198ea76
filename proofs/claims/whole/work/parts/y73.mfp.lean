/-- a method's own word: its code, or its code with a table -/
def mm_hw (mi : Nat) : Jvm.Cond := match (mm_MT mi).2.2.2.2.2 with
  | [] => .code (mm_y mi) (mm_b mi) (mm_MT mi).2.1 (mm_MT mi).2.2.1
  | x :: r => .codeWith (mm_y mi) (mm_b mi) (mm_MT mi).2.1 (mm_MT mi).2.2.1 (x :: r)
def mm_MFP (mi : Nat) : Prop := mm_hw mi ∈ mm_TW ∧ Jvm.Cond.initialized (mm_y mi).cls ∈ mm_TW ∧ ((mm_MT mi).2.2.2.2.1 = 1 → Jvm.Cond.static (mm_y mi) ∈ mm_TW) ∧ ((mm_MT mi).2.2.2.2.1 ≠ 1 → Jvm.Cond.instanceMethod (mm_y mi) ∈ mm_TW) ∧
  ((mm_MT mi).2.2.2.2.1 = 0 → Jvm.Cond.selects (mm_y mi).cls (mm_y mi) (mm_y mi) ∈ mm_TW) ∧ plainName (mm_y mi).cls = true ∧ ((mm_y mi).cls ≠ "java/lang/invoke/MethodHandle" ∧ (mm_y mi).cls ≠ "java/lang/invoke/VarHandle") ∧
  (parseMethodDescriptor (mm_y mi).desc).map (fun d => d.parameters.length) = some (mm_MT mi).2.2.2.1 ∧ (mm_y mi).cls = mm_ow (mm_MT mi).1 ∧ ((mm_MT mi).2.2.2.2.1 = 2 → (mm_y mi).name = "<init>") ∧ (∀ (pc : Nat) (x : Instr × Nat), mm_cd mi pc = some x → decode (mm_b mi) pc = .ok x)
theorem mm_cdF_of {mi : Nat} {l : List (Nat × Instr × Nat)} (e : mm_cdL[mi]? = some l) (h : l.all (fun q => decide (decode (mm_b mi) q.1 = .ok q.2)) = true) (pc : Nat) (x : Instr × Nat) (hx : mm_cd mi pc = some x) : decode (mm_b mi) pc = .ok x := by
  unfold mm_cd at hx
  rw [e] at hx
  replace hx : mm_lk l pc = some x := hx
  have h0 := mm_lk_mem hx
  clear hx e
  have h1 := List.all_eq_true.mp h (pc, x) h0
  clear h h0
  generalize mm_b mi = bb at h1 ⊢
  exact of_decide_eq_true h1
