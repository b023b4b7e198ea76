/-! making: bits packed into bytes, model -/
section PackM
variable {m : jM} {n len j x1 x3 x4 x5 x6 x8 : Int} {g : Int → Int}
def pkp (g : Int → Int) (n j : Int) : Nat → Int
  | 0 => 0
  | k + 1 => 2 * pkp g n j k + eb g n j k
theorem pkp_8 : pkp g n j 8 = pk g n j := by
  have e : pkp g n j 8 = 2 * (2 * (2 * (2 * (2 * (2 * (2 * (2 * 0 + eb g n j 0) + eb g n j 1) + eb g n j 2) + eb g n j 3) + eb g n j 4) + eb g n j 5) + eb g n j 6) + eb g n j 7 := rfl
  rw [e]
  unfold pk
  generalize eb g n j 0 = y0
  generalize eb g n j 1 = y1
  generalize eb g n j 2 = y2
  generalize eb g n j 3 = y3
  generalize eb g n j 4 = y4
  generalize eb g n j 5 = y5
  generalize eb g n j 6 = y6
  generalize eb g n j 7 = y7
  omega
theorem k_294b (h53 : m 76 53 = n) (n0 : 0 ≤ n) (n1 : n ≤ 30600) (hb : ∀ i : Int, 0 ≤ i → i < n → m 113 i = 0 ∨ m 113 i = 1) (j0 : 0 ≤ j) (j1 : j ≤ 4000) : jd_294_l288 x1 x3 x4 x5 x6 x8 j 0 0 m = some (pk (m 113) n j) := by
  unfold jd_294_l288
  rw [← pkp_8]
  refine w_for (f := fun u : (Int × Int) => jd_294_s288 x1 x3 x4 x5 x6 x8 j u.1 u.2 m) (fun k => (pkp (m 113) n j k, (k : Int))) 8 (fun k hk => ?_) ?_ (n_fu (by decide))
  · show jd_294_s288 x1 x3 x4 x5 x6 x8 j (pkp (m 113) n j k) (k : Int) m = some (.inl (2 * pkp (m 113) n j k + eb (m 113) n j k, ((k + 1 : Nat) : Int)))
    obtain ⟨P, hP⟩ : ∃ P, pkp (m 113) n j k = P := ⟨_, rfl⟩
    rw [hP]
    unfold jd_294_s288 jd_294_b331 eb
    rw [n_jw (z := (k : Int)) (by omega) (by omega), if_neg (by omega), h53, n_jw (z := n) (by omega) (by omega), n_jw (z := 8 * j + (k : Int)) (by omega) (by omega)]
    by_cases c : n ≤ 8 * j + (k : Int)
    · rw [if_pos c, if_neg (by omega)]
      rfl
    · have w : jwb (m 113 (8 * j + (k : Int))) = m 113 (8 * j + (k : Int)) := by
        rcases hb (8 * j + (k : Int)) (by omega) (by omega) with e | e <;> rw [e] <;> decide
      rw [if_neg c, if_pos (by omega), y_mb 113 60000 rfl rfl (by omega) (by omega), Option.bind_some, w]
      rfl
  · show jd_294_s288 x1 x3 x4 x5 x6 x8 j (pkp (m 113) n j 8) ((8 : Nat) : Int) m = some (.inr (pkp (m 113) n j 8))
    unfold jd_294_s288
    rw [if_pos (by decide)]
end PackM
