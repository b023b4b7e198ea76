/-! the heap as both constructors leave it -/
def jb0 : jH := (0, 0, fun _ => (8, 0, fun _ => 0, fun _ => none))
def jstart : Option jH := (jnw jb0 11).bind fun n1 => (jd_139 n1.1 n1.2).bind fun h3 => (jnw h3 12).bind fun n5 => (jd_202 n5.1 n5.2).bind fun h7 => (jna h7 3 1).bind fun n9 => some n9.2
theorem jstart_s : jstart.isSome = true := by decide +kernel
def jhS : jH := jstart.getD jb0
theorem jhS_e : jstart = some jhS := by
  unfold jhS
  cases h : jstart with
  | none => exact absurd jstart_s (by rw [h]; decide)
  | some x => rfl
