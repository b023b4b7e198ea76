/-! reading anew from a key -/
section Group
variable {K P S Z Hd B : Int → Int} {cod T len fr k : Int}
theorem anc_key (f0 : 0 ≤ fr) (hK : K fr ≠ 2) : ∀ n : Nat, fr < n → fr ≤ anc K fr n ∧ anc K 0 n = anc K fr n := by
  intro n
  induction n with
  | zero => intro h; omega
  | succ n ih =>
    intro h
    rw [anc_s, anc_s, if_neg (show ¬ (n : Int) < fr by omega), if_neg (show ¬ (n : Int) < 0 by omega)]
    by_cases c : K n ≠ 2
    · rw [if_pos c, if_pos c]
      exact ⟨by omega, rfl⟩
    · rw [if_neg c, if_neg c]
      refine ih ?_
      by_cases e : (n : Int) = fr
      · rw [e] at c
        exact absurd hK c
      · omega
theorem key_anc (V : PV cod T K P S Z Hd len B) (f0 : 0 ≤ fr) (hK : K fr = 0) (hP : ∀ j : Int, fr < j → j < T → P fr < P j) (fk : fr ≤ k) (kT : k < T) : (K k ≠ 0 → 0 ≤ anc K fr k.toNat) ∧ (K k = 2 → 0 ≤ anc K fr (anc K fr k.toNat).toNat) := by
  by_cases e : k = fr
  · subst e
    exact ⟨fun h => absurd hK h, fun h => by omega⟩
  · have nK : K fr ≠ 2 := by omega
    obtain ⟨a1, a2⟩ := anc_key f0 nK k.toNat (by omega)
    refine ⟨fun _ => by omega, fun h2 => ?_⟩
    obtain ⟨u1, u2, u3⟩ := (V.2.2.2.2.2.2.2 k (by omega) kT).2.2.2.2.2.2.2.2.2.2.1 h2
    rw [a2] at u1 u2 u3
    have r := anc_r (K := K) (fr := fr) k.toNat
    have hk := hP k (by omega) kT
    by_cases e2 : anc K fr k.toNat = fr
    · rw [e2] at u3
      omega
    · obtain ⟨b1, b2⟩ := anc_key f0 nK (anc K fr k.toNat).toNat (by omega)
      omega
end Group
