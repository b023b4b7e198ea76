/-! planes -/
theorem pwN {w p : Int} (hw : isSd w) : pw w p = w ∧ p = 0 ∨ pw w p = w / 2 ∧ p ≠ 0 := by
  unfold pw
  by_cases h : p = 0
  · exact Or.inl ⟨if_pos h, h⟩
  · exact Or.inr ⟨if_neg h, h⟩
theorem pw_sd {w : Int} (hw : isSd w) (p : Int) : 4 ≤ pw w p ∧ pw w p ≤ 24 ∧ pw w p % 4 = 0 ∧ pw w p ≤ w := by
  unfold pw
  rcases hw with rfl | rfl | rfl <;> split <;> decide
theorem pl_sz {w h p : Int} (hw : isSd w) (hh : isSd h) (p0 : 0 ≤ p) (p2 : p ≤ 2) : 0 ≤ pb w h p ∧ pb w h p + pw w p * pw h p ≤ 864 ∧ 16 ≤ pw w p * pw h p ∧ pw w p * pw h p ≤ 576 ∧ 0 ≤ pf p ∧ pf p + pw w p * pw h p ≤ 864 := by
  have hp : p = 0 ∨ p = 1 ∨ p = 2 := by omega
  rcases hp with rfl | rfl | rfl <;> rcases hw with rfl | rfl | rfl <;> rcases hh with rfl | rfl | rfl <;> decide
theorem pl_dj {w h p q : Int} (hw : isSd w) (hh : isSd h) (p0 : 0 ≤ p) (p2 : p ≤ 2) (q0 : 0 ≤ q) (q2 : q ≤ 2) (hpq : p < q) : pb w h p + pw w p * pw h p ≤ pb w h q ∧ pf p + pw w p * pw h p ≤ pf q := by
  have hp : p = 0 ∨ p = 1 ∨ p = 2 := by omega
  have hq : q = 0 ∨ q = 1 ∨ q = 2 := by omega
  rcases hp with rfl | rfl | rfl <;> rcases hq with rfl | rfl | rfl <;> first | (exact absurd hpq (by decide)) | (rcases hw with rfl | rfl | rfl <;> rcases hh with rfl | rfl | rfl <;> decide)
theorem pl_ne {w h p q k j : Int} (hw : isSd w) (hh : isSd h) (p0 : 0 ≤ p) (p2 : p ≤ 2) (q0 : 0 ≤ q) (q2 : q ≤ 2) (hpq : p ≠ q) (k0 : 0 ≤ k) (k1 : k < pw w p * pw h p) (j0 : 0 ≤ j) (j1 : j < pw w q * pw h q) : pb w h p + k ≠ pb w h q + j ∧ pf p + k ≠ pf q + j := by
  by_cases hl : p < q
  · have := pl_dj hw hh p0 p2 q0 q2 hl
    omega
  · have := pl_dj hw hh q0 q2 p0 p2 (by omega)
    omega
/-- k is at row r, column c -/
theorem dm {W k r c : Int} (hW : 0 < W) (c0 : 0 ≤ c) (c1 : c < W) : k = r * W + c ↔ k / W = r ∧ k % W = c := by
  constructor
  · intro e
    subst e
    have h1 : (r * W + c) / W = r := by
      rw [Int.add_comm, Int.add_mul_ediv_right _ _ (by omega), Int.ediv_eq_zero_of_lt c0 c1]
      omega
    have h2 : (r * W + c) % W = c := by
      rw [Int.add_comm, Int.add_mul_emod_self_right, Int.emod_eq_of_lt c0 c1]
    exact ⟨h1, h2⟩
  · rintro ⟨h1, h2⟩
    have := Int.emod_add_mul_ediv k W
    rw [h1, h2, Int.mul_comm] at this
    omega
theorem dm_e (W k : Int) : k = k / W * W + k % W := by
  have := Int.emod_add_mul_ediv k W
  rw [Int.mul_comm] at this
  omega
/-- rows and columns of what lies in a plane -/
theorem dm_r {W H k : Int} (hW : 0 < W) (k0 : 0 ≤ k) (k1 : k < W * H) : 0 ≤ k / W ∧ k / W < H ∧ 0 ≤ k % W ∧ k % W < W := by
  refine ⟨Int.ediv_nonneg k0 (by omega), ?_, Int.emod_nonneg _ (by omega), Int.emod_lt_of_pos _ hW⟩
  exact Int.ediv_lt_of_lt_mul hW (by rw [Int.mul_comm]; exact k1)
theorem dm_b {W H r c : Int} (r0 : 0 ≤ r) (r1 : r < H) (c0 : 0 ≤ c) (c1 : c < W) : 0 ≤ r * W + c ∧ r * W + c < W * H := by
  have h1 : 0 ≤ r * W := Int.mul_nonneg r0 (by omega)
  have h2 : r * W ≤ (H - 1) * W := Int.mul_le_mul_of_nonneg_right (by omega) (by omega)
  have h3 : (H - 1) * W = W * H - W := by rw [Int.sub_mul, Int.one_mul, Int.mul_comm]
  omega
section PixUpd
variable {I I' : jM} {a : Nat} {w h : Int} {g g' : Int → Int}
theorem Pix_upd {q : Int} (c : Pix I a w h g) (e : I' a = I a) (e1 : ∀ k : Int, 0 ≤ k → k < pw w q * pw h q → I' (a + 1) (pb w h q + k) = g' (pf q + k) ∧ 0 ≤ g' (pf q + k) ∧ g' (pf q + k) ≤ 255) (e2 : ∀ p k : Int, 0 ≤ p → p ≤ 2 → p ≠ q → 0 ≤ k → k < pw w p * pw h p → I' (a + 1) (pb w h p + k) = I (a + 1) (pb w h p + k) ∧ g' (pf p + k) = g (pf p + k)) : Pix I' a w h g' := by
  obtain ⟨c1, c2, c3, c4, c5⟩ := c
  refine ⟨by rw [e]; exact c1, by rw [e]; exact c2, c3, c4, fun p k h1 h2 h3 h4 => ?_⟩
  by_cases hp : p = q
  · subst hp
    exact e1 k h3 h4
  · obtain ⟨d1, d2⟩ := e2 p k h1 h2 hp h3 h4
    rw [d1, d2]
    exact c5 p k h1 h2 h3 h4
end PixUpd
