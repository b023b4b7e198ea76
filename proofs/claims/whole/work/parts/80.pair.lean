/-! two loops side by side; a code read by both sides -/
theorem w_lp2 {S X T Y : Type} {f : S → Option (S ⊕ X)} {g : T → Option (T ⊕ Y)} {Q : X → Y → Prop} (Inv : Nat → S → T → Prop) (n : Nat) (st : ∀ k s t, k ≤ n → Inv k s t → (∃ s' t', f s = some (.inl s') ∧ g t = some (.inl t') ∧ k < n ∧ Inv (k + 1) s' t') ∨ (∃ x y, f s = some (.inr x) ∧ g t = some (.inr y) ∧ Q x y)) {fu fv : Nat} (hn : n < fu) (hv : n < fv) {s0 : S} {t0 : T} (h0 : Inv 0 s0 t0) : ∃ x y, jlp f fu s0 = some x ∧ jlp g fv t0 = some y ∧ Q x y := by
  have key : ∀ d k fu fv s t, k + d = n → d < fu → d < fv → Inv k s t → ∃ x y, jlp f fu s = some x ∧ jlp g fv t = some y ∧ Q x y := by
    intro d
    induction d with
    | zero =>
      intro k fu fv s t hk hf hg hi
      obtain ⟨fu, rfl⟩ : ∃ e, fu = e + 1 := ⟨fu - 1, by omega⟩
      obtain ⟨fv, rfl⟩ : ∃ e, fv = e + 1 := ⟨fv - 1, by omega⟩
      rcases st k s t (by omega) hi with ⟨s', t', _, _, hlt, _⟩ | ⟨x, y, e1, e2, hq⟩
      · omega
      · exact ⟨x, y, by simp only [jlp, e1], by simp only [jlp, e2], hq⟩
    | succ d ih =>
      intro k fu fv s t hk hf hg hi
      obtain ⟨fu, rfl⟩ : ∃ e, fu = e + 1 := ⟨fu - 1, by omega⟩
      obtain ⟨fv, rfl⟩ : ∃ e, fv = e + 1 := ⟨fv - 1, by omega⟩
      rcases st k s t (by omega) hi with ⟨s', t', e1, e2, hlt, hi'⟩ | ⟨x, y, e1, e2, hq⟩
      · obtain ⟨x, y, r1, r2, hq⟩ := ih (k + 1) fu fv s' t' (by omega) (by omega) (by omega) hi'
        exact ⟨x, y, by simp only [jlp, e1, r1], by simp only [jlp, e2, r2], hq⟩
      · exact ⟨x, y, by simp only [jlp, e1], by simp only [jlp, e2], hq⟩
  exact key n 0 fu fv s0 t0 (by omega) hn hv h0
section Pair
variable {s : hS} {Q : hQ} {I I' m m' : jM} {B A : Nat} {base i en n : Int}
/-- both readers over the same bits: the class's begins at 8 * base -/
def BM (s : hS) (Q : hQ) (I m : jM) (B A : Nat) (base i en : Int) : Prop := BtR s Q I B A (8 * base + i) (8 * base + en) ∧ MtR m base i en ∧ ∀ j : Int, 0 ≤ j → j < en → btC (I A) (8 * base + j) = btC (fun j => m 112 (base + j)) j
theorem BM_fr (R : BM s Q I m B A base i en) (eA : I' A = I A) (e1 : I' B 1 = I B 1) (e2 : I' B 2 = I B 2) (m1 : m' 76 49 = m 76 49) (m2 : m' 76 50 = m 76 50) (m3 : m' 76 51 = m 76 51) (m4 : m' 76 52 = m 76 52) (m5 : m' 112 = m 112) : BM s Q I' m' B A base i en := by
  obtain ⟨⟨b, a, ab, qA, i1, i2, p0, p1, p2⟩, ⟨r1, r2, r3, r4, r5, r6, r7, r8⟩, h⟩ := R
  exact ⟨⟨b, a, ab, qA, e1.trans i1, e2.trans i2, p0, p1, p2⟩, ⟨m4.trans r1, m1.trans r2, m2.trans r3, m3.trans r4, r5, r6, r7, r8⟩, fun j h0 h1 => by rw [eA, m5]; exact h j h0 h1⟩
theorem BM_go (R : BM s Q I m B A base i en) (h0 : 0 ≤ n) (h1 : n ≤ en) : BM s Q (jms I B 1 (8 * base + n)) (jms m 76 51 n) B A base n en := by
  obtain ⟨R1, R2, h⟩ := R
  have b0 : 0 ≤ base := R2.2.2.2.2.2.2.1
  refine ⟨BtR_go R1 (by omega) (by omega), MtR_go R2 h0 h1, fun j j0 j1 => ?_⟩
  have e1 : jms I B 1 (8 * base + n) A = I A := jms_o R1.2.2.1
  have e2 : jms m 76 51 n 112 = m 112 := jms_o (by decide)
  rw [e1, e2]
  exact h j j0 j1
theorem code2 (R : BM s Q I m B A base i en) : (∃ v j, jd_2 B (hh s Q I) = some (v, hh s Q (jms I B 1 (8 * base + j))) ∧ jd_229 m = some (v, jms m 76 51 j) ∧ 0 ≤ v ∧ v < 32768 ∧ i < j ∧ j ≤ en ∧ BM s Q (jms I B 1 (8 * base + j)) (jms m 76 51 j) B A base j en) ∨ (∃ f v j j', (f = 1 ∨ f = 7) ∧ v < 0 ∧ -2 ≤ v ∧ jd_2 B (hh s Q I) = some (v, hh s Q (jms (jms I B 1 j) B 3 f)) ∧ jd_229 m = some (0, jms (jms m 76 51 j') 76 52 f)) := by
  obtain ⟨R1, R2, h⟩ := id R
  have b0 : 0 ≤ base := R2.2.2.2.2.2.2.1
  have i0 : 0 ≤ i := R2.2.2.2.2.1
  have i1 : i ≤ en := R2.2.2.2.2.2.1
  obtain ⟨z, hz⟩ := Zr_ex (btC (fun j => m 112 (base + j))) i1
  have hz' : Zr (btC (I A)) (8 * base + i) (8 * base + en) z := by
    obtain ⟨z0, z1, z2, z3, z4⟩ := hz
    refine ⟨z0, z1, by omega, fun j j0 j1 => ?_, ?_⟩
    · rw [Int.add_assoc, h (i + j) (by omega) (by omega)]
      exact z3 j j0 j1
    · rcases z4 with z4 | z4 | z4
      · exact Or.inl z4
      · exact Or.inr (Or.inl (by omega))
      · by_cases c : i + z = en
        · exact Or.inr (Or.inl (by omega))
        · refine Or.inr (Or.inr ?_)
          rw [Int.add_assoc, h (i + z) (by omega) (by omega)]
          exact z4
  have k1 := c_2 R1 hz'
  have k2 := k_229 R2 hz
  obtain ⟨z0, z1, z2, -, -⟩ := hz
  by_cases c : z = 15
  · exact Or.inr ⟨7, -1, _, _, Or.inr rfl, by decide, by decide, k1.1 c, k2.1 c⟩
  · by_cases c2 : z + 1 ≤ en - (i + z)
    · have e : nb (btC (I A)) (8 * base + i + z) (z + 1).toNat = nb (btC (fun j => m 112 (base + j))) (i + z) (z + 1).toNat := by
        have sh : ∀ k : Nat, i + z + (k : Int) ≤ en → nb (btC (I A)) (8 * base + i + z) k = nb (btC (fun j => m 112 (base + j))) (i + z) k := by
          intro k
          induction k with
          | zero => intro _; rfl
          | succ k ih =>
            intro hk
            rw [nb_s, nb_s, ih (by omega), ← h (i + z + (k : Int)) (by omega) (by omega), show 8 * base + i + z + (k : Int) = 8 * base + (i + z + (k : Int)) by omega]
        exact sh _ (by omega)
      have bd := nb_b (fun j => btC_b (fun j => m 112 (base + j)) j) (i := i + z) (n := (z + 1).toNat)
      have first : btC (fun j => m 112 (base + j)) (i + z) ≠ 0 := by
        rcases hz' with ⟨-, -, -, -, z4⟩
        rcases z4 with z4 | z4 | z4
        · exact absurd z4 c
        · omega
        · rw [Int.add_assoc, h (i + z) (by omega) (by omega)] at z4
          exact z4
      have pos : 1 ≤ nb (btC (fun j => m 112 (base + j))) (i + z) (z + 1).toNat := by
        have nn := (nb_z (fun j => btC_b (fun j => m 112 (base + j)) j) (i := i + z) (n := (z + 1).toNat))
        by_cases c3 : nb (btC (fun j => m 112 (base + j))) (i + z) (z + 1).toNat = 0
        · have := nn.1 c3 0 (by omega) (by omega)
          rw [Int.add_zero] at this
          exact absurd this first
        · omega
      have up : ((2 ^ (z + 1).toNat : Nat) : Int) ≤ 32768 := by
        have : (2 ^ (z + 1).toNat : Nat) ≤ 2 ^ 15 := Nat.pow_le_pow_right (by decide) (by omega)
        omega
      have q1 := k1.2.1 (by omega) (by omega)
      have q2 := k2.2.1 (by omega) (by omega)
      rw [e, show 8 * base + i + z + (z + 1) = 8 * base + (i + z + (z + 1)) by omega] at q1
      exact Or.inl ⟨_, i + z + (z + 1), q1, q2, by omega, by omega, by omega, by omega, BM_go R (by omega) (by omega)⟩
    · obtain ⟨i', q2⟩ := k2.2.2 (by omega) (by omega)
      exact Or.inr ⟨1, -1 - 1, _, i', Or.inl rfl, by decide, by decide, k1.2.2 (by omega) (by omega), q2⟩
theorem eight2 (R : BM s Q I m B A base i en) : (∃ v, 0 ≤ v ∧ v ≤ 255 ∧ i + 8 ≤ en ∧ jd_3 B (hh s Q I) = some (v, hh s Q (jms I B 1 (8 * base + (i + 8)))) ∧ jd_228 8 m = some (v, jms m 76 51 (i + 8)) ∧ BM s Q (jms I B 1 (8 * base + (i + 8))) (jms m 76 51 (i + 8)) B A base (i + 8) en) ∨ (∃ v, jd_3 B (hh s Q I) = some (-1, hh s Q (jms I B 3 1)) ∧ jd_228 8 m = some (v, jms (jms m 76 51 en) 76 52 1)) := by
  obtain ⟨R1, R2, h⟩ := id R
  have b0 : 0 ≤ base := R2.2.2.2.2.2.2.1
  have i0 : 0 ≤ i := R2.2.2.2.2.1
  have i1 : i ≤ en := R2.2.2.2.2.2.1
  by_cases c : 8 ≤ en - i
  · have q1 := (c_3 R1).1 (by omega)
    have q2 := (k_228 R2 (n := 8) (by decide) (by decide)).1 c
    have e : nb (btC (I A)) (8 * base + i) 8 = nb (btC (fun j => m 112 (base + j))) i (8 : Int).toNat := by
      have sh : ∀ k : Nat, i + (k : Int) ≤ en → nb (btC (I A)) (8 * base + i) k = nb (btC (fun j => m 112 (base + j))) i k := by
        intro k
        induction k with
        | zero => intro _; rfl
        | succ k ih =>
          intro hk
          rw [nb_s, nb_s, ih (by omega), ← h (i + (k : Int)) (by omega) (by omega), show 8 * base + i + (k : Int) = 8 * base + (i + (k : Int)) by omega]
      exact sh 8 (by omega)
    rw [e, show 8 * base + i + 8 = 8 * base + (i + 8) by omega] at q1
    have bd := nb_b (fun j => btC_b (fun j => m 112 (base + j)) j) (i := i) (n := (8 : Int).toNat)
    have b2 : ((2 ^ (8 : Int).toNat : Nat) : Int) = 256 := rfl
    exact Or.inl ⟨_, bd.1, by omega, by omega, q1, q2, BM_go R (by omega) (by omega)⟩
  · obtain ⟨v, q2⟩ := (k_228 R2 (n := 8) (by decide) (by decide)).2 c
    exact Or.inr ⟨v, (c_3 R1).2 (by omega), q2⟩
end Pair
