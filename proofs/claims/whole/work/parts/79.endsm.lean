/-! does it end as told, in the model -/
theorem nb_z {bt : Int → Int} (h : ∀ j : Int, bt j = 0 ∨ bt j = 1) {i : Int} {n : Nat} : nb bt i n = 0 ↔ ∀ j : Int, 0 ≤ j → j < n → bt (i + j) = 0 := by
  induction n with
  | zero => exact ⟨fun _ j h1 h2 => absurd h2 (by omega), fun _ => rfl⟩
  | succ n ih =>
    have b := nb_b h (i := i) (n := n)
    have t := h (i + n)
    rw [nb_s]
    constructor
    · intro e j j0 j1
      by_cases ej : j = n
      · rw [ej]
        omega
      · exact ih.mp (by omega) j j0 (by omega)
    · intro e
      have e1 := ih.mpr (fun j j0 j1 => e j j0 (by omega))
      have e2 := e n (by omega) (by omega)
      omega
section EndsM
variable {m : jM} {i en base : Int}
theorem k_269 (R : MtR m base i en) : ∃ i', (en - i < 8 ∧ nb (btC (fun j => m 112 (base + j))) i (en - i).toNat = 0 → jd_269 m = some (jms m 76 51 i')) ∧ (¬ (en - i < 8 ∧ nb (btC (fun j => m 112 (base + j))) i (en - i).toNat = 0) → jd_269 m = some (jms (jms m 76 51 i') 76 52 6)) := by
  obtain ⟨r1, r2, r3, r4, r5, r6, r7, r8⟩ := id R
  have hz := nb_z (bt := btC (fun j => m 112 (base + j))) (btC_b _) (i := i) (n := (en - i).toNat)
  have self : jms m 76 51 i = m := by rw [← r4]; exact jms_self
  have f31 : ∀ k : Int, jd_231 6 (jms m 76 51 k) = some (jms (jms m 76 51 k) 76 52 6) := fun k => by
    have q : jms m 76 51 k 76 52 = 0 := (jms_i (by decide)).trans r1
    unfold jd_231 jd_231_b12
    rw [if_pos (show jw (jms m 76 51 k 76 52) = 0 by rw [q]; decide), Option.bind_some]
  unfold jd_269 jd_269_b69
  rw [r1, if_pos (by decide), r3, r4, n_jw (z := en - i) (by omega) (by omega), Option.bind_some]
  by_cases c : 8 ≤ en - i
  · have lp : jd_269_l28 0 m = some (0, m) := by
      unfold jd_269_l28
      refine jlp_r (n := 99999999) ?_
      dsimp only
      unfold jd_269_s28
      rw [if_pos (by decide)]
    refine ⟨i, fun h => by omega, fun _ => ?_⟩
    have g := f31 i
    rw [self] at g
    rw [if_pos c, lp, Option.bind_some]
    dsimp only
    rw [if_pos (by decide), g, Option.bind_some, self]
  · have lp : wT (jd_269_l28 1 m) (fun u => (u.1 = 0 ∨ u.1 = 1) ∧ (∃ k : Int, u.2 = jms m 76 51 k) ∧ (u.1 = 1 ↔ ∀ j : Int, 0 ≤ j → j < en - i → btC (fun j => m 112 (base + j)) (i + j) = 0)) := by
      unfold jd_269_l28
      refine w_lp (f := fun u : (Int × jM) => jd_269_s28 u.1 u.2) (fun k u => i + (k : Int) ≤ en ∧ u.2 = jms m 76 51 (i + (k : Int)) ∧ (u.1 = 0 ∨ u.1 = 1) ∧ (u.1 = 1 ↔ ∀ j : Int, 0 ≤ j → j < (k : Int) → btC (fun j => m 112 (base + j)) (i + j) = 0)) 8 (fun k u hk hI => ?_) (n_fu (by decide)) ⟨by omega, by rw [show i + ((0 : Nat) : Int) = i by omega]; exact self.symm, Or.inr rfl, fun _ j j0 j1 => absurd j1 (by omega), fun _ => rfl⟩
      obtain ⟨u1, u2⟩ := u
      obtain ⟨q1, q2, q3, q4⟩ := hI
      dsimp only at q2 q3 q4 ⊢
      subst q2
      have e50 : jms m 76 51 (i + (k : Int)) 76 50 = en := (jms_i (by decide)).trans r3
      have e51 : jms m 76 51 (i + (k : Int)) 76 51 = i + k := jms_e
      unfold jd_269_s28
      rw [n_jw (z := u1) (by omega) (by omega)]
      by_cases c2 : u1 = 0
      · rw [if_pos c2]
        refine ⟨_, rfl, q3, ⟨_, rfl⟩, fun h => ?_, fun h => q4.mpr (fun j j0 j1 => h j j0 (by omega))⟩
        dsimp only at h
        omega
      · rw [if_neg c2, e50, e51, n_jw (z := en) (by omega) (by omega), n_jw (z := i + (k : Int)) (by omega) (by omega)]
        by_cases c3 : en ≤ i + (k : Int)
        · rw [if_pos c3]
          rw [show (k : Int) = en - i by omega] at q4
          exact ⟨_, rfl, q3, ⟨_, rfl⟩, q4⟩
        · have k1 := (k_227 (MtR_go R (n := i + (k : Int)) (by omega) (by omega))).2 (by omega)
          have k2 : btC (fun j => jms m 76 51 (i + (k : Int)) 112 (base + j)) (i + (k : Int)) = btC (fun j => m 112 (base + j)) (i + (k : Int)) := rfl
          rw [k2, jms_jms] at k1
          have bb := btC_b (fun j => m 112 (base + j)) (i + (k : Int))
          rw [if_neg c3, k1, Option.bind_some, Option.bind_some]
          dsimp only
          rw [n_jw (z := btC (fun j => m 112 (base + j)) (i + (k : Int))) (by omega) (by omega)]
          refine ⟨_, rfl, by omega, by omega, ?_, by dsimp only; split <;> omega, ?_⟩
          · dsimp only
            rw [show i + ((k + 1 : Nat) : Int) = i + (k : Int) + 1 by omega]
          · dsimp only
            have w := q4.mp (by omega)
            constructor
            · intro h j j0 j1
              by_cases ej : j = k
              · rw [ej]
                by_cases cc : btC (fun j => m 112 (base + j)) (i + (k : Int)) = 0
                · exact cc
                · rw [if_neg cc] at h
                  omega
              · exact w j j0 (by omega)
            · intro h
              rw [if_pos (h k (by omega) (by omega))]
    obtain ⟨⟨u1, u2⟩, k1, k2, ⟨k, k3⟩, k4⟩ := lp
    dsimp only at k2 k3 k4
    subst k3
    rw [show (((en - i).toNat : Nat) : Int) = en - i by omega] at hz
    refine ⟨k, fun h => ?_, fun h => ?_⟩
    · have e1 := k4.mpr (hz.mp h.2)
      subst e1
      rw [if_neg c, k1, Option.bind_some]
      dsimp only
      rw [if_neg (by decide)]
    · have e1 : u1 = 0 := by
        by_cases g : u1 = 1
        · exact absurd ⟨by omega, hz.mpr (k4.mp g)⟩ h
        · omega
      subst e1
      rw [if_neg c, k1, Option.bind_some]
      dsimp only
      rw [if_pos (by decide), f31, Option.bind_some]
end EndsM
