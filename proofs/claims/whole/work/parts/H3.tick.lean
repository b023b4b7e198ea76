/-! tick: the relation when a player went on -/
section TickR
variable {s : hS} {Q : hQ} {hm : hO} {I I' m M N : jM} {W dl st n : Int} {k : Nat}
theorem gM_o {x : Nat} (h1 : x ≠ 144) (h2 : x ≠ 147) : gM M (k : Int) W dl st n x = M x := by
  unfold gM
  split
  · rw [jms_o h2, jms_o h1]
  · rw [jms_o h1]
theorem gM_i {x : Nat} {z : Int} (h : z ≠ k) : gM M (k : Int) W dl st n x z = M x z := by
  unfold gM
  have t : ∀ (g : jM) (d : Nat) (v : Int), jms g d (k : Int) v x z = g x z := fun g d v => by
    by_cases e : x = d
    · rw [e, jms_i h]
    · rw [jms_o e]
  split
  · rw [t, t]
  · rw [t]
theorem gM_4 : gM M (k : Int) W dl st n 144 k = W := by
  unfold gM
  split
  · rw [jms_o (by decide), jms_e]
  · rw [jms_e]
theorem gM_7 : gM M (k : Int) W dl st n 147 k = if dl ≤ W - st ∨ W = n then 1 else M 147 k := by
  unfold gM
  split
  · rw [jms_e]
  · rw [jms_o (by decide)]
/-- goOn without a picture -/
theorem tk_rel (R : RelH s Q hm I m) (hk : k < 4) (h141 : 0 ≤ m 141 k) (io : ∀ b : Nat, b ≠ 72 + k → I' b = I b) (ik : ∀ z : Int, z ≠ 2 → z ≠ 4 → z ≠ 5 → I' (72 + k) z = I (72 + k) z) (i2 : I' (72 + k) 2 = N 144 k) (i4 : I' (72 + k) 4 % 2 = N 147 k % 2) (i5 : I' (72 + k) 5 = N 148 k) (mo : ∀ x : Nat, x ≠ 76 → x ≠ 144 → x ≠ 147 → x ≠ 148 → N x = m x) (m76 : ∀ z : Int, z ≠ 0 → N 76 z = m 76 z) (mi : ∀ (x : Nat) (z : Int), x ≠ 76 → z ≠ k → N x z = m x z) (b4 : m 145 k ≤ N 144 k ∧ N 144 k ≤ m 88 (m 141 k)) (b7 : m 146 k = m 87 (m 141 k) → N 147 k % 2 = 1) : RelH s Q hm I' N := by
  have L := R.1
  obtain ⟨g1, g2, -⟩ := skp hk
  have S : Sm (fun o => o ≠ 1072 + (k : Int) ∧ o ≠ 450 + (k : Int)) s Q hm I s Q hm I' := Sm_I (fun b _ hb => io b (fun e => hb.1 (by rw [e, Lo L g1]; omega)))
  refine RelH_ply R hk S L ⟨⟨m76 _ (by decide), m76 _ (by decide), m76 _ (by decide), m76 _ (by decide), m76 _ (by decide), m76 _ (by decide), m76 _ (by decide), m76 _ (by decide)⟩, fun x hx => mo x (by omega) (by omega) (by omega) (by omega), fun x h1 h2 z hz => mi x z (by omega) hz, fun z hz => by rw [mo 151 (by decide) (by decide) (by decide) (by decide)]⟩ ?_ (R.2.2.2.2.2.2.2.2.2.2.2 k hk)
  rcases R.2.2.2.2.2.2.2.2.1 k hk with H | ⟨p1, p2, p3, p4, p5, p6, p7, p8, p9, p10, p11, p12, p13, p14, d, hd, hx⟩
  · exact absurd H.1 (by omega)
  · have b9 := (R.2.2.2.2.2.2.2.2.2.2.2 k hk d hd).1
    have o : ∀ x : Nat, x ≠ 76 → x ≠ 144 → x ≠ 147 → x ≠ 148 → N x = m x := mo
    unfold PlyC
    rw [o 141 (by decide) (by decide) (by decide) (by decide), o 142 (by decide) (by decide) (by decide) (by decide), o 143 (by decide) (by decide) (by decide) (by decide), o 145 (by decide) (by decide) (by decide) (by decide), o 146 (by decide) (by decide) (by decide) (by decide), o 149 (by decide) (by decide) (by decide) (by decide), o 150 (by decide) (by decide) (by decide) (by decide), o 151 (by decide) (by decide) (by decide) (by decide), o 84 (by decide) (by decide) (by decide) (by decide), o 85 (by decide) (by decide) (by decide) (by decide), o 87 (by decide) (by decide) (by decide) (by decide), o 88 (by decide) (by decide) (by decide) (by decide), m76 12 (by decide), ik 1 (by decide) (by decide) (by decide), ik 3 (by decide) (by decide) (by decide), ik 6 (by decide) (by decide) (by decide), ik 7 (by decide) (by decide) (by decide), ik 9 (by decide) (by decide) (by decide), ik 10 (by decide) (by decide) (by decide), ik 11 (by decide) (by decide) (by decide)]
    obtain ⟨q1, q2, q3, q4, q5, q6, q7, q8, q9, q10, q11, q12⟩ := p14
    exact Or.inr ⟨p1, p2, p3, p4, i2, p6, i4, i5, p9, p10, p11, p12, p13, ⟨q1, q2, q3, q4, q5, b4.1, b4.2, q8, q9, b7, q11, q12⟩, d, hd, fun e => Pix_fr (hx e) (io _ (by omega)) (io _ (by omega))⟩
end TickR
