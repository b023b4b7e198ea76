/-! tools: layouts, new cells, the relation as a whole -/
section RelTools
variable {P : Int → Prop} {s s' : hS} {Q Q' : hQ} {hm hm' : hO} {I I' m m' : jM} {a b t n k sl : Nat} {z v : Int}
theorem Lt (L : Lay s Q hm) (ha : Nat.blt a 76 = true) : a < s.1 := Nat.lt_of_lt_of_le (Nat.lt_trans (Nat.le_of_ble_eq_true ha) (by decide)) L.1
theorem Lg (L : Lay s Q hm) (ha : Nat.blt a 76 = true) (e : (sk a).1 = t) : s.2.2.1 a = t := (L.2.1 a (Nat.le_of_ble_eq_true ha)).2.1.trans e
theorem Ll (L : Lay s Q hm) (ha : Nat.blt a 76 = true) (e : (sk a).2 = t) : s.2.2.2 a = t := (L.2.1 a (Nat.le_of_ble_eq_true ha)).2.2.1.trans e
theorem Lq (L : Lay s Q hm) (e : sq a k = some b) : Q a (k : Int) = some b := L.2.2.2 a k b e
theorem Lo (L : Lay s Q hm) (ha : Nat.blt a 76 = true) : hm a = 1000 + (a : Int) := (L.2.1 a (Nat.le_of_ble_eq_true ha)).2.2.2
theorem Sm_I (e : ∀ a, a < s.1 → P (hm a) → I' a = I a) : Sm P s Q hm I s Q hm I' := ⟨Nat.le_refl _, fun a h1 h2 => ⟨rfl, rfl, rfl, e a h1 h2, rfl⟩⟩
theorem Sm_jms (hp : ¬ P (hm a)) : Sm P s Q hm I s Q hm (jms I a z v) := Sm_I (fun b _ h2 => jms_o (fun e => hp (e ▸ h2)))
theorem Sm_ims {f : Int → Int} (hp : ¬ P (hm a)) : Sm P s Q hm I s Q hm (ims I a f) := Sm_I (fun b _ h2 => ims_o (fun e => hp (e ▸ h2)))
theorem Sm_refl : Sm P s Q hm I s Q hm I := Sm_I (fun _ _ _ => rfl)
theorem Sm_trans {s2 : hS} {Q2 : hQ} {hm2 : hO} {I2 : jM} (A : Sm P s Q hm I s' Q' hm' I') (B : Sm P s' Q' hm' I' s2 Q2 hm2 I2) : Sm P s Q hm I s2 Q2 hm2 I2 := ⟨Nat.le_trans A.1 B.1, fun a h1 h2 => by
  obtain ⟨a1, a2, a3, a4, a5⟩ := A.2 a h1 h2
  obtain ⟨b1, b2, b3, b4, b5⟩ := B.2 a (Nat.lt_of_lt_of_le h1 A.1) (by rw [a5]; exact h2)
  exact ⟨b1.trans a1, b2.trans a2, b3.trans a3, b4.trans a4, b5.trans a5⟩⟩
theorem Sm_mk : Sm P s Q hm I (s_mk s sl t n) (r_mk Q s.1) hm (i_mk I s.1) := ⟨Nat.le_succ _, fun a h1 _ => by
  have e : a ≠ s.1 := Nat.ne_of_lt h1
  exact ⟨if_neg e, if_neg e, if_neg e, if_neg e, rfl⟩⟩
theorem Sm_rms {q : Option Nat} (hp : ¬ P (hm a)) : Sm P s Q hm I s (rms Q a z q) hm I := ⟨Nat.le_refl _, fun b _ h2 => ⟨rfl, rfl, if_neg (show ¬ b = a from fun e => hp (e ▸ h2)), rfl, rfl⟩⟩
theorem Sm_hm {x : Int} (hb : s.1 ≤ b) : Sm P s Q hm I s Q (fun a => if a = b then x else hm a) I := ⟨Nat.le_refl _, fun a h1 _ => ⟨rfl, rfl, rfl, rfl, if_neg (by omega)⟩⟩
theorem Lay_mk (L : Lay s Q hm) : Lay (s_mk s sl t n) (r_mk Q s.1) hm := by
  obtain ⟨l1, l2, l3, l4⟩ := L
  refine ⟨Nat.le_succ_of_le l1, fun a ha => ?_, l3, fun a k b e => ?_⟩
  · exact (Ce_fr (Q := Q) (I := fun _ _ => 0) (P := fun _ => True) Sm_mk (l2 a ha) trivial).1
  · have ha : a < 76 := by
      have : ∀ a k b : Nat, sq a k = some b → a < 76 := by
        intro a k b h
        unfold sq at h
        split at h <;> first | (cases h; done) | decide
      exact this a k b e
    have : a ≠ s.1 := by omega
    unfold r_mk
    rw [if_neg this]
    exact l4 a k b e
theorem sq_lt {a k b : Nat} (h : sq a k = some b) : a < 76 := by
  unfold sq at h
  split at h <;> first | (cases h; done) | decide
theorem Lay_rms {q : Option Nat} (L : Lay s Q hm) (hk : sq a k = none) : Lay s (rms Q a (k : Int) q) hm := by
  obtain ⟨l1, l2, l3, l4⟩ := L
  refine ⟨l1, l2, l3, fun a' k' b e => ?_⟩
  unfold rms
  by_cases h : a' = a
  · subst h
    rw [if_pos rfl]
    unfold jru
    have : ((k' : Nat) : Int) ≠ (k : Int) := fun e' => by
      have : k' = k := by omega
      subst this
      rw [e] at hk
      cases hk
    rw [if_neg this]
    exact l4 a' k' b e
  · rw [if_neg h]
    exact l4 a' k' b e
theorem Lay_rmsD {q : Option Nat} (L : Lay s Q hm) (ha : 76 ≤ a) : Lay s (rms Q a z q) hm := by
  obtain ⟨l1, l2, l3, l4⟩ := L
  refine ⟨l1, l2, l3, fun a' k' b e => ?_⟩
  unfold rms
  rw [if_neg (by have := sq_lt e; omega)]
  exact l4 a' k' b e
/-- the model's cells that the relation names -/
def Mm (m m' : jM) : Prop := (m' 76 1 = m 76 1 ∧ m' 76 5 = m 76 5 ∧ m' 76 7 = m 76 7 ∧ m' 76 8 = m 76 8 ∧ m' 76 9 = m 76 9 ∧ m' 76 12 = m 76 12 ∧ m' 76 86 = m 76 86 ∧ m' 76 92 = m 76 92) ∧ ∀ x : Nat, (77 ≤ x ∧ x ≤ 101) ∨ (131 ≤ x ∧ x ≤ 133) ∨ (135 ≤ x ∧ x ≤ 137) ∨ (141 ≤ x ∧ x ≤ 151) → m' x = m x
theorem RelH_fr (S : Sm P s Q hm I s' Q' hm' I') (p : ∀ i : Int, i < 1076 → P i) (L' : Lay s' Q' hm') (M : Mm m m') (R : RelH s Q hm I m) : RelH s' Q' hm' I' m' := by
  obtain ⟨L, r1, r2, r3, r4, r5, r6, r7, r8, r9⟩ := R
  obtain ⟨⟨m1, m5, m7, m8, m9, m12, m86, m92⟩, em⟩ := M
  have i0 : I' 0 = I 0 := (Lay_fr (a := 0) L S (by decide) (p _ (by decide))).2
  have i2 : I' 2 = I 2 := (Lay_fr (a := 2) L S (by decide) (p _ (by decide))).2
  have i3 : I' 3 = I 3 := (Lay_fr (a := 3) L S (by decide) (p _ (by decide))).2
  have i6 : I' 6 = I 6 := (Lay_fr (a := 6) L S (by decide) (p _ (by decide))).2
  refine ⟨L', ?_, ?_, ?_, ?_, ?_, ?_, ?_, ?_, ?_⟩
  · exact RPic_fr L S (p _ (by omega)) (fun i _ _ => p i (by omega)) (by rw [i0]) m1 (em 77 (by omega)) (em 78 (by omega)) (em 79 (by omega)) r1
  · exact RTap_fr (by rw [i0]) i2 m5 (em 80 (by omega)) r2
  · exact RSet_fr i3 (em 82 (by omega)) r3
  · exact RRee_fr L S (p _ (by omega)) (fun i _ _ => p i (by omega)) (by rw [i0]) m7 m8 m9 (em 81 (by omega)) r4
  · exact RFil_fr L S (p _ (by omega)) (fun i _ _ => p i (by omega)) (fun i _ _ => p i (by omega)) (fun i _ _ => p i (by omega)) (by rw [i0]) m12 (fun x _ _ => em x (by omega)) r5
  · exact RRow_fr (by rw [i0]) i6 m86 m12 (em 131 (by omega)) (em 132 (by omega)) (em 133 (by omega)) (em 83 (by omega)) (em 87 (by omega)) r6
  · exact RFlt_fr L S (p _ (by omega)) (fun i _ _ => p i (by omega)) (by rw [i0]) m92 (em 135 (by omega)) (em 136 (by omega)) (em 137 (by omega)) r7
  · exact RPly_fr L S (p _ (by omega)) (fun i _ _ => p i (by omega)) (fun i _ _ => p i (by omega)) m12 (fun x _ _ => em x (by omega)) (fun x _ _ => em x (by omega)) r9 r8
  · exact RMis_fr L S (p _ (by omega)) (p _ (by omega)) (p _ (by omega)) (fun i _ _ => p i (by omega)) (fun i _ _ => p i (by omega)) (fun i _ _ => p i (by omega)) r9
theorem Mm_c : Mm m (jms m 76 0 v) := ⟨⟨rfl, rfl, rfl, rfl, rfl, rfl, rfl, rfl⟩, fun x hx => jms_o (by omega)⟩
theorem Mm_refl : Mm m m := ⟨⟨rfl, rfl, rfl, rfl, rfl, rfl, rfl, rfl⟩, fun x hx => rfl⟩
/-- a throw: one more cell, and the model's code -/
theorem RelH_th (R : RelH s Q hm I m) : RelH (s_mk s sl t n) (r_mk Q s.1) hm (i_mk I s.1) (jms m 76 0 v) := RelH_fr (P := fun _ => True) Sm_mk (fun _ _ => trivial) (Lay_mk R.1) Mm_c R
def Gr (s s' : hS) : Prop := s.1 ≤ s'.1 ∧ s'.1 ≤ s.1 + 1000 ∧ s'.2.1 ≤ s.2.1 + 100000
/-- the model's cells and the law's own stay -/
def Kp (s : hS) (Q : hQ) (I : jM) (s' : hS) (Q' : hQ) (I' : jM) : Prop := ∀ a : Nat, 76 ≤ a → a < 153 → s'.2.2.1 a = s.2.2.1 a ∧ s'.2.2.2 a = s.2.2.2 a ∧ Q' a = Q a ∧ I' a = I a
theorem Kp_of (L : Lay s Q hm) (S : Sm P s Q hm I s' Q' hm' I') (p : ∀ i : Int, 1076 ≤ i → i < 1153 → P i) : Kp s Q I s' Q' I' := fun a h1 h2 => by
  obtain ⟨e1, e2, e3, e4, -⟩ := S.2 a (by have := L.1; omega) (p _ (by rw [L.2.2.1 a h1 h2]; omega) (by rw [L.2.2.1 a h1 h2]; omega))
  exact ⟨e1, e2, e3, e4⟩
theorem Gr_refl : Gr s s := ⟨Nat.le_refl _, by omega, by omega⟩
theorem Gr_th : Gr s (s_mk s 6 t n) := ⟨by unfold s_mk; omega, by unfold s_mk; omega, by unfold s_mk; dsimp only; omega⟩
/-- both end, and alike -/
def SimI (C : Option ((Int ⊕ Nat) × jH)) (M : Option (Int × jM)) (tb : Nat → Int) (s : hS) (Q : hQ) (I : jM) : Prop :=
  (∃ (v b : Int) (s' : hS) (Q' : hQ) (I' m' : jM), C = some (.inl v, hh s' Q' I') ∧ M = some (b, m') ∧ m' 76 0 = 0 ∧ jw b = jw v ∧ Kp s Q I s' Q' I' ∧ Gr s s' ∧ Rel s' Q' I' m') ∨
  (∃ (E : Nat) (b : Int) (s' : hS) (Q' : hQ) (I' m' : jM), C = some (.inr E, hh s' Q' I') ∧ M = some (b, m') ∧ m' 76 0 = tb E ∧ 1 ≤ tb E ∧ Kp s Q I s' Q' I' ∧ Gr s s' ∧ Rel s' Q' I' m')
def SimV (C : Option ((Unit ⊕ Nat) × jH)) (M : Option jM) (tb : Nat → Int) (s : hS) (Q : hQ) (I : jM) : Prop :=
  (∃ (s' : hS) (Q' : hQ) (I' m' : jM), C = some (.inl (), hh s' Q' I') ∧ M = some m' ∧ m' 76 0 = 0 ∧ Kp s Q I s' Q' I' ∧ Gr s s' ∧ Rel s' Q' I' m') ∨
  (∃ (E : Nat) (s' : hS) (Q' : hQ) (I' m' : jM), C = some (.inr E, hh s' Q' I') ∧ M = some m' ∧ m' 76 0 = tb E ∧ 1 ≤ tb E ∧ Kp s Q I s' Q' I' ∧ Gr s s' ∧ Rel s' Q' I' m')
def SimN (C : Option (Int × jH)) (M : Option (Int × jM)) (s : hS) (Q : hQ) (I : jM) : Prop :=
  ∃ (v b : Int) (s' : hS) (Q' : hQ) (I' m' : jM), C = some (v, hh s' Q' I') ∧ M = some (b, m') ∧ jw b = jw v ∧ Kp s Q I s' Q' I' ∧ Gr s s' ∧ Rel s' Q' I' m'
/-- a call that throws E at once, and the model's code c -/
theorem SimI_th {C : Option ((Int ⊕ Nat) × jH)} {M : Option (Int × jM)} {tb : Nat → Int} {E : Nat} {b : Int} (R : RelH s Q hm I m) (hC : C = some (.inr E, jth (hh s Q I) E)) (hM : M = some (b, jms m 76 0 (tb E))) (ht : 1 ≤ tb E) : SimI C M tb s Q I :=
  Or.inr ⟨E, b, _, _, _, _, by rw [hC, x_th], hM, jms_e, ht, Kp_of R.1 (P := fun _ => True) Sm_mk (fun _ _ _ => trivial), Gr_th, hm, RelH_th R⟩
theorem SimV_th {C : Option ((Unit ⊕ Nat) × jH)} {M : Option jM} {tb : Nat → Int} {E : Nat} (R : RelH s Q hm I m) (hC : C = some (.inr E, jth (hh s Q I) E)) (hM : M = some (jms m 76 0 (tb E))) (ht : 1 ≤ tb E) : SimV C M tb s Q I :=
  Or.inr ⟨E, _, _, _, _, by rw [hC, x_th], hM, jms_e, ht, Kp_of R.1 (P := fun _ => True) Sm_mk (fun _ _ _ => trivial), Gr_th, hm, RelH_th R⟩
/-- a call that changes nothing but the model's code -/
theorem SimI_id {C : Option ((Int ⊕ Nat) × jH)} {M : Option (Int × jM)} {tb : Nat → Int} {v b : Int} (R : RelH s Q hm I m) (hC : C = some (.inl v, hh s Q I)) (hM : M = some (b, jms m 76 0 0)) (hv : jw b = jw v) : SimI C M tb s Q I :=
  Or.inl ⟨v, b, s, Q, I, _, hC, hM, jms_e, hv, fun a _ _ => ⟨rfl, rfl, rfl, rfl⟩, Gr_refl, hm, RelH_fr (P := fun _ => True) Sm_refl (fun _ _ => trivial) R.1 Mm_c R⟩
theorem x_in {x lo hi : Int} (h1 : -9000000000000000000 ≤ x) (h2 : x < 9000000000000000000) (h3 : -9000000000000000000 ≤ lo) (h4 : lo < 9000000000000000000) (h5 : -9000000000000000000 ≤ hi) (h6 : hi < 9000000000000000000) : jw (jd_204 x lo hi) = if lo ≤ x ∧ x ≤ hi then 1 else 0 := by
  unfold jd_204
  rw [n_jwl (z := x) (by omega) (by omega), n_jwl (z := lo) (by omega) (by omega), n_jwl (z := hi) (by omega) (by omega)]
  by_cases c1 : x < lo
  · rw [if_pos c1, if_neg (by omega)]; decide
  · rw [if_neg c1]
    by_cases c2 : hi < x
    · rw [if_pos c2, if_neg (by omega)]; decide
    · rw [if_neg c2, if_pos (by omega)]; decide
end RelTools
