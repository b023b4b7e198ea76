/-! making in runs: the cheapest way, as a specification -/
section RunPure
variable {A B : Int → Int → Prop} {C : Int → Int → Int} {c wy ln c' wy' ln' w l L L' : Int}
/-- c is the least cost over A, wy the first way that has it, ln the longest run -/
def Spc (A : Int → Int → Prop) (C : Int → Int → Int) (c wy ln : Int) : Prop := A wy ln ∧ c = C wy ln ∧ ∀ w l : Int, A w l → c ≤ C w l ∧ (C w l = c → wy ≤ w ∧ (w = wy → l ≤ ln))
theorem Spc_u (X : Spc A C c wy ln) (Y : Spc A C c' wy' ln') : c = c' ∧ wy = wy' ∧ ln = ln' := by
  obtain ⟨a1, a2, a3⟩ := X
  obtain ⟨b1, b2, b3⟩ := Y
  obtain ⟨p1, p2⟩ := a3 wy' ln' b1
  obtain ⟨q1, q2⟩ := b3 wy ln a1
  have e : c = c' := by omega
  obtain ⟨p3, p4⟩ := p2 (by omega)
  obtain ⟨q3, q4⟩ := q2 (by omega)
  have e2 : wy = wy' := by omega
  exact ⟨e, e2, by have := p4 e2.symm; have := q4 e2; omega⟩
theorem Spc_c (h : ∀ w l : Int, A w l ↔ B w l) (X : Spc A C c wy ln) : Spc B C c wy ln := ⟨(h _ _).1 X.1, X.2.1, fun w l hw => X.2.2 w l ((h w l).2 hw)⟩
/-- the model: one more run, behind all that were tried -/
theorem Spc_a (h : Spc A C c wy ln) (ha : ∀ w' l' : Int, A w' l' → w' < w ∨ (w' = w ∧ l' < l)) : (C w l < c ∨ (C w l = c ∧ wy = w) → Spc (fun x y => A x y ∨ (x = w ∧ y = l)) C (C w l) w l) ∧ (¬ (C w l < c ∨ (C w l = c ∧ wy = w)) → Spc (fun x y => A x y ∨ (x = w ∧ y = l)) C c wy ln) := by
  obtain ⟨a1, a2, a3⟩ := h
  refine ⟨fun e => ⟨Or.inr ⟨rfl, rfl⟩, rfl, fun x y hx => ?_⟩, fun e => ⟨Or.inl a1, a2, fun x y hx => ?_⟩⟩
  · rcases hx with hx | ⟨rfl, rfl⟩
    · obtain ⟨p1, p2⟩ := a3 x y hx
      have := ha x y hx
      refine ⟨by omega, fun e2 => ?_⟩
      rcases e with e | ⟨e3, e4⟩
      · omega
      · obtain ⟨q1, q2⟩ := p2 (by omega)
        omega
    · exact ⟨Int.le_refl _, fun _ => ⟨Int.le_refl _, fun _ => Int.le_refl _⟩⟩
  · rcases hx with hx | ⟨rfl, rfl⟩
    · exact a3 x y hx
    · have := ha wy ln a1
      refine ⟨by omega, fun e2 => ⟨by omega, fun e3 => ?_⟩⟩
      exact absurd (Or.inr ⟨e2, e3.symm⟩) e
theorem Spc_1 (h : ∀ w' l' : Int, ¬ A w' l') : Spc (fun x y => A x y ∨ (x = w ∧ y = l)) C (C w l) w l := ⟨Or.inr ⟨rfl, rfl⟩, rfl, fun x y hx => by
  rcases hx with hx | ⟨rfl, rfl⟩
  · exact absurd hx (h x y)
  · exact ⟨Int.le_refl _, fun _ => ⟨Int.le_refl _, fun _ => Int.le_refl _⟩⟩⟩
/-- the class: nothing tried yet, or what was tried -/
def Spd (A : Int → Int → Prop) (C : Int → Int → Int) (c wy ln : Int) : Prop := ((∀ w l : Int, ¬ A w l) ∧ c = 1000000) ∨ Spc A C c wy ln
/-- the class: the longest run of one length of code -/
theorem Spd_g (h : Spd A C c wy ln) (hc : C w L < 1000000) (l1 : L' < L) (hg : ∀ l : Int, L' < l → l ≤ L → C w L ≤ C w l) (ha : ∀ w' l' : Int, A w' l' → w' < w ∨ (w' = w ∧ L < l')) : (C w L < c → Spd (fun x y => A x y ∨ (x = w ∧ L' < y ∧ y ≤ L)) C (C w L) w L) ∧ (¬ C w L < c → Spd (fun x y => A x y ∨ (x = w ∧ L' < y ∧ y ≤ L)) C c wy ln) := by
  rcases h with ⟨h1, h2⟩ | ⟨a1, a2, a3⟩
  · refine ⟨fun _ => Or.inr ⟨Or.inr ⟨rfl, l1, Int.le_refl _⟩, rfl, fun x y hx => ?_⟩, fun e => absurd hc (by omega)⟩
    rcases hx with hx | ⟨rfl, y1, y2⟩
    · exact absurd hx (h1 x y)
    · exact ⟨hg y y1 y2, fun _ => ⟨Int.le_refl _, fun _ => y2⟩⟩
  · refine ⟨fun e => Or.inr ⟨Or.inr ⟨rfl, l1, Int.le_refl _⟩, rfl, fun x y hx => ?_⟩, fun e => Or.inr ⟨Or.inl a1, a2, fun x y hx => ?_⟩⟩
    · rcases hx with hx | ⟨rfl, y1, y2⟩
      · obtain ⟨p1, p2⟩ := a3 x y hx
        exact ⟨by omega, fun e2 => by omega⟩
      · exact ⟨hg y y1 y2, fun _ => ⟨Int.le_refl _, fun _ => y2⟩⟩
    · rcases hx with hx | ⟨rfl, y1, y2⟩
      · exact a3 x y hx
      · have := hg y y1 y2
        have := ha wy ln a1
        refine ⟨by omega, fun e2 => ⟨by omega, fun e3 => by omega⟩⟩
/-- lengths of codes -/
def cln (i : Int) : Int := ((cd i).length : Int)
def exC (w l : Int) : Int := if w = 0 then 8 else if w = 3 then 8 * l else 0
def cs (w l : Int) : Int := cln w + cln (l - 1) + exC w l
theorem cln_e {i : Int} : cln i = 2 * ((cdL i : Nat) : Int) + 1 := by
  unfold cln
  rw [cd_len]
  omega
theorem cln_m {i j : Int} (i0 : 0 ≤ i) (ij : i ≤ j) : cln i ≤ cln j := by
  rw [cln_e, cln_e]
  have h1 := (cdL_b i0).1
  have h2 := (cdL_b (v := j) (by omega)).2
  have : cdL i < cdL j + 1 := by
    by_cases c : cdL i < cdL j + 1
    · exact c
    · exfalso
      have := Nat.pow_le_pow_right (n := 2) (by decide) (Nat.le_of_not_lt c)
      omega
  omega
theorem cln_p {i : Int} (i0 : 0 ≤ i) : 1 ≤ cln i := by rw [cln_e]; omega
/-- a run ends where its code grows: lengths from 2 ^ e on, below the next power -/
theorem cln_g {L l : Int} (L1 : 1 ≤ L) (h1 : ((2 ^ cdL (L - 1) : Nat) : Int) - 1 < l) (h2 : l ≤ L) : cln (l - 1) = cln (L - 1) := by
  have p0 : (1 : Int) ≤ ((2 ^ cdL (L - 1) : Nat) : Int) := by
    have := Nat.one_le_two_pow (n := cdL (L - 1))
    omega
  have a := cln_m (i := l - 1) (j := L - 1) (by omega) (by omega)
  have b := cln_m (i := ((2 ^ cdL (L - 1) : Nat) : Int) - 1) (j := l - 1) (by omega) (by omega)
  have e : cln (((2 ^ cdL (L - 1) : Nat) : Int) - 1) = cln (L - 1) := by
    have : cdL (((2 ^ cdL (L - 1) : Nat) : Int) - 1) = cdL (L - 1) := by
      generalize cdL (L - 1) = k
      have h2 : ∀ p : Nat, (((p : Nat) : Int) - 1 + 1).toNat = p := fun p => by omega
      unfold cdL
      rw [h2, Nat.log2_two_pow]
    rw [cln_e, cln_e, this]
  omega
theorem cln_0 : cln 0 = 1 := by rw [cln_e]; rfl
theorem cln_3 : cln 3 = 5 := by rw [cln_e]; rfl
/-- two raw runs cost more than one -/
theorem raw_2 {a b : Int} (a1 : 1 ≤ a) (b1 : 1 ≤ b) : cs 3 (a + b) < cs 3 a + cs 3 b := by
  unfold cs exC
  rw [if_neg (by decide), if_pos rfl, if_neg (by decide), if_pos rfl, if_neg (by decide), if_pos rfl, cln_3]
  rw [cln_e, cln_e, cln_e]
  have h0 := (cdL_b (v := a + b - 1) (by omega)).1
  have h1 := (cdL_b (v := a - 1) (by omega)).2
  have h2 := (cdL_b (v := b - 1) (by omega)).2
  have : cdL (a + b - 1) < (cdL (a - 1) + cdL (b - 1)) + 2 := by
    by_cases c : cdL (a + b - 1) < (cdL (a - 1) + cdL (b - 1)) + 2
    · exact c
    · exfalso
      have p1 := Nat.pow_le_pow_right (n := 2) (by decide) (Nat.le_of_not_lt c)
      have p2 := Nat.pow_le_pow_right (n := 2) (by decide) (show cdL (a - 1) + 1 ≤ cdL (a - 1) + cdL (b - 1) + 1 by omega)
      have p3 := Nat.pow_le_pow_right (n := 2) (by decide) (show cdL (b - 1) + 1 ≤ cdL (a - 1) + cdL (b - 1) + 1 by omega)
      have p4 : 2 ^ (cdL (a - 1) + cdL (b - 1) + 2) = 2 ^ (cdL (a - 1) + cdL (b - 1) + 1) * 2 := Nat.pow_succ ..
      omega
  omega
end RunPure
