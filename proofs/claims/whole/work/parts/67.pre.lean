/-! decompiled: the model's methods -/
def jnz (y : Int) : Option Unit := if jw y = 0 then none else some ()
theorem jnz_s {y : Int} {u : Unit} (h : jnz y = some u) : jw y ≠ 0 := by
  unfold jnz at h
  split at h
  · cases h
  · assumption
def jnzl (y : Int) : Option Unit := if jwl y = 0 then none else some ()
theorem jnzl_s {y : Int} {u : Unit} (h : jnzl y = some u) : jwl y ≠ 0 := by
  unfold jnzl at h
  split at h
  · cases h
  · assumption
def jbc (z : Int) : Option Unit := if z = 0 ∨ z = 1 then some () else none
theorem jbc_s {z : Int} {u : Unit} (h : jbc z = some u) : z = 0 ∨ z = 1 := by
  unfold jbc at h
  split at h
  · assumption
  · cases h
def j6 (h : jH) : Option Unit := if h.1 < 1000000 then some () else none
theorem j6_s {h : jH} {u : Unit} (e : j6 h = some u) : h.1 < 1000000 := by
  unfold j6 at e
  split at e
  · assumption
  · cases e
def jck (h : jH) (a c : Nat) : Option Unit := if a < h.1 ∧ (h.2.2 a).1 = c + 8 then some () else none
theorem jck_s {h : jH} {a c : Nat} {u : Unit} (e : jck h a c = some u) : a < h.1 ∧ (h.2.2 a).1 = c + 8 := by
  unfold jck at e
  split at e
  · assumption
  · cases e
theorem ey_rs {xt : Nat → Nat × (Nat → Int32)} {d mi pc : Nat} {lv : jL} {s0 s1 : List jV} {h : jH} {r : mm_R} (e : s0 = s1) (k : ey xt d mi pc lv s1 h r) : ey xt d mi pc lv s0 h r := e ▸ k
def jsm {S X : Type} (P : S → Prop) (Q : X → Prop) (o : S ⊕ X) : Prop := match o with
  | .inl s => P s
  | .inr x => Q x
theorem jlp_ok2 {S X : Type} {f : S → Option (S ⊕ X)} {P : S → Prop} {Q : X → Prop} (hs : ∀ s q, f s = some q → jsm P Q q → P s) (n : Nat) (s : S) (x : X) (h : jlp f n s = some x) (hx : Q x) : P s :=
  jlp_ok (P := P) (Q := Q) (fun s q h1 h2 => hs s q h1 (by cases q <;> exact h2)) n s x h hx
