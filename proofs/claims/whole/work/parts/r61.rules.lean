/-! steps of a run, one at a time -/
section MmRules
variable {xt : Nat → Nat × (Nat → Int32)} {d mi pc : Nat} {lv : mm_L} {st : List Value} {h : mm_H} {r : mm_R} {i : Instr × Nat}
theorem mm_Ex.pu {q : mm_P} (hcd : mm_cd mi pc = some i) (hpu : mm_pu (mm_MT mi).2.1 i.1 i.2 pc lv st = some q) (k : mm_Ex xt d mi q.1 q.2.1 q.2.2 h r) : mm_Ex xt d mi pc lv st h r := by
  refine mm_Ex.go 1 (fun cl n => ?_) k
  simp only [mm_ex, hcd, hpu]
theorem mm_pu_he {nL : Nat} {ins : Instr} {len own : Nat} {ini : Bool} {q : mm_Q} (hhe : mm_he own ini xt ins len pc st h = some q) : mm_pu nL ins len pc lv st = none := by
  cases ins <;> first | rfl | (exact absurd hhe (by simp [mm_he]))
theorem mm_Ex.he {q : mm_Q} (hcd : mm_cd mi pc = some i) (hhe : mm_he (mm_MT mi).1 (Nat.beq (mm_MT mi).2.2.2.2.1 2) xt i.1 i.2 pc st h = some q) (k : mm_Ex xt d mi q.1 lv q.2.1 q.2.2 r) : mm_Ex xt d mi pc lv st h r := by
  refine mm_Ex.go 1 (fun cl n => ?_) k
  simp only [mm_ex, hcd, hhe, mm_pu_he hhe]
theorem mm_Ex.if1 {cd : ClassFile.Cond} {off : Int} {x : Int32} {s : List Value} {t : Nat} (hcd : mm_cd mi pc = some (.ifCond cd off, 3)) (ht : mm_to pc off = some t) (kt : mm_ifc cd x = true → mm_Ex xt d mi t lv s h r) (kf : mm_ifc cd x = false → mm_Ex xt d mi (pc + 3) lv s h r) : mm_Ex xt d mi pc lv (.int x :: s) h r := by
  cases hc : mm_ifc cd x with
  | true => exact mm_Ex.pu hcd (by simp only [mm_pu, mm_if1, mm_br, ht, hc]; rfl) (kt hc)
  | false => exact mm_Ex.pu hcd (by simp only [mm_pu, mm_if1, mm_br, ht, hc]; rfl) (kf hc)
theorem mm_Ex.if2 {cd : ClassFile.Cond} {off : Int} {x y : Int32} {s : List Value} {t : Nat} (hcd : mm_cd mi pc = some (.if_icmp cd off, 3)) (ht : mm_to pc off = some t) (kt : mm_icc cd x y = true → mm_Ex xt d mi t lv s h r) (kf : mm_icc cd x y = false → mm_Ex xt d mi (pc + 3) lv s h r) : mm_Ex xt d mi pc lv (.int y :: .int x :: s) h r := by
  cases hc : mm_icc cd x y with
  | true => exact mm_Ex.pu hcd (by simp only [mm_pu, mm_if2, mm_br, ht, hc]; rfl) (kt hc)
  | false => exact mm_Ex.pu hcd (by simp only [mm_pu, mm_if2, mm_br, ht, hc]; rfl) (kf hc)
theorem mm_en_pre {nL own len : Nat} {ini : Bool} {ins : Instr} {ret : Option FieldType} {v : Option Value} (hen : mm_en ret ins len st = some v) : mm_pu nL ins len pc lv st = none ∧ mm_he own ini xt ins len pc st h = none ∧ mm_bu own ins len st h = none := by
  cases ins <;> first | (exact ⟨rfl, rfl, rfl⟩) | (exact absurd hen (by simp [mm_en]))
theorem mm_Ex.ret {v : Option Value} (hcd : mm_cd mi pc = some i) (hen : mm_en (mm_MT mi).2.2.1 i.1 i.2 st = some v) : mm_Ex xt d mi pc lv st h (.inl (v, h)) := by
  refine mm_Ex.fin 1 (fun cl n => ?_)
  obtain ⟨h1, h2, h3⟩ := mm_en_pre (xt := xt) (pc := pc) (lv := lv) (h := h) (nL := (mm_MT mi).2.1) (own := (mm_MT mi).1) (ini := Nat.beq (mm_MT mi).2.2.2.2.1 2) hen
  simp only [mm_ex, hcd, h1, h2, h3, hen]
end MmRules
