/-! filter: what a piece of text gives on both sides -/
section FltF
variable {s : hS} {Q : hQ} {hm : hO} {I0 m0 I I' m m' : jM} {a : Nat} {q n en p w d fl c A B lv op r v x : Int} {pn nd k : Nat} {St St' : Int → Prop}
def arS (v : Int) : Int := if 1000 ≤ v then 0 else if v = 126 then 1 else if v = 105 then 3 else if v = 43 ∨ v = 45 ∨ v = 42 ∨ v = 47 ∨ v = 37 ∨ v = 97 ∨ v = 109 ∨ v = 77 then 2 else 0
theorem arS_b : 0 ≤ arS v ∧ arS v ≤ 3 := by
  unfold arS
  repeat' split
  all_goals omega
/-- c steps leave r worths on the pile -/
def Dp (I : jM) (a : Nat) (c r : Int) : Prop := ∃ D : Int → Int, D 0 = 0 ∧ D c = r ∧ ∀ k : Int, 0 ≤ k → k < c → arS (I (a + 1) k) ≤ D k ∧ D (k + 1) = D k - arS (I (a + 1) k) + 1
theorem Dp_s (H : Dp I a c r) (c0 : 0 ≤ c) (hI : I' (a + 1) = jiu (I (a + 1)) c v) (h : arS v ≤ r) : Dp I' a (c + 1) (r - arS v + 1) := by
  obtain ⟨D, d1, d2, d3⟩ := H
  refine ⟨fun k => if k = c + 1 then r - arS v + 1 else D k, ?_, if_pos rfl, fun k k0 k1 => ?_⟩
  · show (if (0 : Int) = c + 1 then r - arS v + 1 else D 0) = 0
    rw [if_neg (by omega)]
    exact d1
  · show arS (I' (a + 1) k) ≤ (if k = c + 1 then r - arS v + 1 else D k) ∧ (if k + 1 = c + 1 then r - arS v + 1 else D (k + 1)) = (if k = c + 1 then r - arS v + 1 else D k) - arS (I' (a + 1) k) + 1
    rw [if_neg (show ¬ k = c + 1 by omega), hI]
    by_cases e : k = c
    · subst e
      rw [if_pos rfl, show jiu (I (a + 1)) k v k = v from if_pos rfl, d2]
      exact ⟨h, rfl⟩
    · rw [if_neg (by omega), show jiu (I (a + 1)) c v k = I (a + 1) k from if_neg e]
      exact d3 k k0 (by omega)
theorem Dp_i (H : Dp I a c r) (hI : I' (a + 1) = I (a + 1)) : Dp I' a c r := by
  obtain ⟨D, d1, d2, d3⟩ := H
  exact ⟨D, d1, d2, by rw [hI]; exact d3⟩
/-- an atom is awaited on both sides -/
def At (q : Int) (a : Nat) (I0 m0 : jM) (en p w d r c : Int) (I m : jM) : Prop := CS I0 a en p c I ∧ MS q m0 p w d c m ∧ Em q a I m c ∧ Dp I a c r ∧ c + w ≤ p ∧ 0 ≤ w ∧ (0 ≤ d ∧ d ≤ 12) ∧ 0 ≤ r
/-- a piece was there -/
def FOk (q : Int) (a : Nat) (I0 m0 : jM) (en : Int) (St : Int → Prop) (lv w d r p : Int) (m I' : jM) : Prop := ∃ (p' c' fl B : Int) (pn k : Nat) (m' : jM), CS I0 a en p' c' I' ∧ Rch k (1, m) (0, m') ∧ (k : Int) ≤ p' - p ∧ p < p' ∧ SG q a m0 I' m' B w d c' fl lv pn ∧ 0 ≤ fl ∧ 0 ≤ B ∧ Bl I0 en B p' ∧ (∀ i : Int, i < w → m' 138 i = m 138 i ∧ m' 139 i = m 139 i) ∧ Dp I' a c' (r + 1) ∧ c' + w ≤ p' ∧ St p'
/-- it was not -/
def FBad (q : Int) (a : Nat) (I0 m0 : jM) (en p : Int) (m I' : jM) : Prop := ∃ (p' c' x : Int) (k : Nat) (m' : jM), CS I0 a en p' c' I' ∧ Rch k (1, m) (x, m') ∧ (k : Int) ≤ p' - p + 1 ∧ m' 76 97 = p' ∧ MFr q m0 m'
def Res (s : hS) (Q : hQ) (q : Int) (a : Nat) (I0 m0 : jM) (en : Int) (St : Int → Prop) (lv w d r p : Int) (m : jM) (o : Option (Int × jH)) : Prop := ∃ I' : jM, (o = some (1, hh s Q I') ∧ FOk q a I0 m0 en St lv w d r p m I') ∨ (o = some (0, hh s Q I') ∧ FBad q a I0 m0 en p m I')
/-- the model's one turn to what is wrong -/
theorem FB_1 (M : MS q m0 p w d c m) (h : ∃ m', jd_342 m = some (1, m') ∧ m' 76 97 = A ∧ MFr q m0 m') (pA : p ≤ A) (C : CS I0 a en A x I') : FBad q a I0 m0 en p m I' := by
  obtain ⟨m', h1, h2, h3⟩ := h
  exact ⟨A, x, 0, 1, m', C, Rch_1 (k_at M h1), by omega, h2, h3⟩
/-- the class told one step more, after what is wrong -/
theorem FB_46 (X : Fx s Q hm a q n en I0 m0) (H : FBad q a I0 m0 en p m I) : ∃ I', jd_46 a v (hh s Q I) = some (hh s Q I') ∧ FBad q a I0 m0 en p m I' := by
  obtain ⟨p', c', x, k, m', C, h⟩ := H
  obtain ⟨I', e1, e2, -⟩ := c_46 (v := v) X C
  exact ⟨I', e1, p', _, x, k, m', e2, h⟩
/-- a step emitted at once -/
theorem FO_em {wo : Int} {m1 : jM} (A0 : At q a I0 m0 en p w d r c I m) (hr : jd_342 m = some (1, emM m1 q c op wo)) (M' : MS q m0 A w d (c + 1) (emM m1 q c op wo)) (h6 : m1 136 = m 136) (h7 : m1 137 = m 137) (h8 : m1 138 = m 138) (h9 : m1 139 = m 139) (C' : CS I0 a en A (c + 1) I') (hI : I' (a + 1) = jiu (I (a + 1)) c v) (O : OpO op wo v) (ar : arS v = 0) (pA : p < A) (st : St A) : FOk q a I0 m0 en St 3 w d r p m I' := by
  obtain ⟨C, M, E, D, cw, w0, d0, r0⟩ := A0
  have c0 : 0 ≤ c := C.2.2.2.2.1
  have Ei : Em q a I' m1 c := fun k k0 k1 => by
    rw [h6, h7, hI, show jiu (I (a + 1)) c v k = I (a + 1) k from if_neg (by omega)]
    exact E k k0 k1
  have Ef : Em q a I' (emM m1 q c op wo) (c + 1) := Em_s Ei (by rw [hI, show jiu (I (a + 1)) c v c = v from if_pos rfl]; exact O)
  have Df := Dp_s D c0 hI (by omega)
  rw [ar, show r - 0 + 1 = r + 1 by omega] at Df
  have C8 := C'.2.2.2.2.2.2
  refine ⟨A, c + 1, c + 1, A, 0, 1, _, C', Rch_1 (k_at M hr), by omega, pA, SG_0 M' Ef, by omega, by omega, bl_refl C8.2, fun i hi => ?_, Df, by omega, st⟩
  rw [emM_s (Or.inl rfl), emM_s (Or.inr rfl), h8, h9]
  exact ⟨rfl, rfl⟩
end FltF
