/-! bits read: the class's reader, the model's -/
/-- bit i of what a byte v holds, bit i of a row of bytes, n bits from i on -/
def bitv (v i : Int) : Int := v / ((2 ^ (7 - i % 8).toNat : Nat) : Int) % 2
def btC (g : Int → Int) (i : Int) : Int := bitv (jwb (g (i / 8))) i
def nb (bt : Int → Int) (i : Int) : Nat → Int
  | 0 => 0
  | n + 1 => 2 * nb bt i n + bt (i + n)
theorem nb_0 {bt : Int → Int} {i : Int} : nb bt i 0 = 0 := rfl
theorem nb_s {bt : Int → Int} {i : Int} {n : Nat} : nb bt i (n + 1) = 2 * nb bt i n + bt (i + n) := rfl
theorem btC_b (g : Int → Int) (i : Int) : btC g i = 0 ∨ btC g i = 1 := by
  unfold btC bitv
  omega
theorem btC_c {g g' : Int → Int} {i : Int} (h : jwb (g (i / 8)) = jwb (g' (i / 8))) : btC g i = btC g' i := by
  unfold btC
  rw [h]
theorem nb_c {bt bt' : Int → Int} {i : Int} {n : Nat} (h : ∀ j : Int, i ≤ j → j < i + n → bt j = bt' j) : nb bt i n = nb bt' i n := by
  induction n with
  | zero => rfl
  | succ n ih => rw [nb_s, nb_s, ih (fun j h1 h2 => h j h1 (by omega)), h (i + n) (by omega) (by omega)]
theorem nb_b {bt : Int → Int} (h : ∀ j : Int, bt j = 0 ∨ bt j = 1) {i : Int} {n : Nat} : 0 ≤ nb bt i n ∧ nb bt i n < ((2 ^ n : Nat) : Int) := by
  induction n with
  | zero => exact ⟨by rw [nb_0]; omega, by rw [nb_0]; decide⟩
  | succ n ih =>
    have b := h (i + n)
    rw [nb_s, Nat.pow_succ]
    omega
theorem bit_e {v i : Int} (h0 : 0 ≤ i) (h1 : i < 2147483648) : jand (jshr (jwb v) (7 - jand i 7)) 1 = bitv (jwb v) i := by
  have b := n_jwbr v
  unfold bitv
  rw [n_and7, n_and1, show 7 - i % 8 = (((7 - i % 8).toNat : Nat) : Int) by omega, n_shr (by omega) (by omega) (by omega)]
  rw [show ((7 - i % 8).toNat : Int).toNat = (7 - i % 8).toNat by omega]
theorem shr3 {i : Int} (h0 : 0 ≤ i) (h1 : i < 2147483648) : jshr i 3 = i / 8 := n_shr (k := 3) (by omega) h1 (by decide)
/-- z zeros from at on -/
def Zr (bt : Int → Int) (i en z : Int) : Prop := 0 ≤ z ∧ z ≤ 15 ∧ i + z ≤ en ∧ (∀ j : Int, 0 ≤ j → j < z → bt (i + j) = 0) ∧ (z = 15 ∨ i + z = en ∨ bt (i + z) ≠ 0)
theorem Zr_ex (bt : Int → Int) {i en : Int} (h : i ≤ en) : ∃ z, Zr bt i en z := by
  rcases first_or (fun j => j = 15 ∨ i + (j : Int) = en ∨ bt (i + (j : Int)) ≠ 0) 16 with h1 | ⟨j, h1, h2, h3⟩
  · exact absurd (Or.inl rfl) (h1 15 (by decide))
  · have key : i + (j : Int) ≤ en := by
      by_cases c : i + (j : Int) ≤ en
      · exact c
      · have := h3 (en - i).toNat (by omega)
        exact absurd (Or.inr (Or.inl (by omega))) this
    refine ⟨j, by omega, by omega, key, fun k k0 k1 => ?_, ?_⟩
    · have := h3 k.toNat (by omega)
      rw [show ((k.toNat : Nat) : Int) = k by omega] at this
      by_cases c : bt (i + k) = 0
      · exact c
      · exact absurd (Or.inr (Or.inr c)) this
    · rcases h2 with h2 | h2 | h2
      · exact Or.inl (by omega)
      · exact Or.inr (Or.inl h2)
      · exact Or.inr (Or.inr h2)
section BitsC
variable {s : hS} {Q : hQ} {I m : jM} {A B : Nat} {at' en n z base : Int}
/-- a reader B over the bytes of A, at a place, with an end -/
def BtR (s : hS) (Q : hQ) (I : jM) (B A : Nat) (i en : Int) : Prop := (B < s.1 ∧ s.2.2.1 B = 8) ∧ (A < s.1 ∧ s.2.2.1 A = 1 ∧ s.2.2.2 A ≤ 1000000) ∧ A ≠ B ∧ Q B 0 = some A ∧ I B 1 = i ∧ I B 2 = en ∧ 0 ≤ i ∧ i ≤ en ∧ en ≤ 8 * ((s.2.2.2 A : Nat) : Int)
theorem c_4 (R : BtR s Q I B A at' en) (n0 : 0 ≤ n) (n1 : n ≤ 31) : (n ≤ en - at' → jd_4 B n (hh s Q I) = some (nb (btC (I A)) at' n.toNat, hh s Q (jms I B 1 (at' + n)))) ∧ (¬ n ≤ en - at' → jd_4 B n (hh s Q I) = some (-1, hh s Q (jms I B 3 1))) := by
  obtain ⟨⟨b1, b2⟩, ⟨a1, a2, a3⟩, ab, qA, i1, i2, p0, p1, p2⟩ := R
  have i1' : I B ((1 : Nat) : Int) = at' := i1
  have i2' : I B ((2 : Nat) : Int) = en := i2
  have q0 : Q B ((0 : Nat) : Int) = some A := qA
  unfold jd_4
  rw [x_gi b1 b2, Option.bind_some, x_gi b1 b2, Option.bind_some, i1', i2', n_jw (z := n) (by omega) (by omega), n_jw (z := en - at') (by omega) (by omega)]
  refine ⟨fun c => ?_, fun c => ?_⟩
  · rw [if_pos c]
    have lp : jd_4_l24 B n 0 0 (hh s Q I) = some (nb (btC (I A)) at' n.toNat, hh s Q (jms I B 1 (at' + n))) := by
      unfold jd_4_l24
      have := w_for (f := fun u : (Int × Int × jH) => jd_4_s24 B n u.1 u.2.1 u.2.2) (fun k => (nb (btC (I A)) at' k, (k : Int), hh s Q (jms I B 1 (at' + (k : Int))))) n.toNat (x := (nb (btC (I A)) at' n.toNat, hh s Q (jms I B 1 (at' + n)))) (fun k hk => ?_) ?_ (n_fu (n := n.toNat) (by omega))
      · have e : jms I B 1 (at' + ((0 : Nat) : Int)) = I := by
          rw [show at' + ((0 : Nat) : Int) = I B 1 by omega]
          exact jms_self
        rw [e] at this
        exact this
      · dsimp only
        unfold jd_4_s24
        have e1 : jms I B 1 (at' + (k : Int)) B ((1 : Nat) : Int) = at' + k := jms_e
        have e2 : jms I B 1 (at' + (k : Int)) A = I A := jms_o ab
        rw [n_jw (z := n) (by omega) (by omega), n_jw (z := (k : Int)) (by omega) (by omega), if_neg (by omega), x_gr b1 b2, Option.bind_some, x_gi b1 b2, Option.bind_some, q0, Option.bind_some, e1, shr3 (by omega) (by omega), x_ab a1 a2 (by omega) (by omega) a3, Option.bind_some, Option.bind_some, bit_e (by omega) (by omega), Option.bind_some, Option.bind_some, x_pi b1 b2, Option.bind_some, e2, nb_s]
        have e3 : jms (jms I B 1 (at' + (k : Int))) B ((1 : Nat) : Int) (at' + (k : Int) + 1) = jms I B 1 (at' + ((k + 1 : Nat) : Int)) := by
          rw [show at' + ((k + 1 : Nat) : Int) = at' + (k : Int) + 1 by omega]
          exact jms_jms
        rw [e3, show ((k + 1 : Nat) : Int) = (k : Int) + 1 by omega]
        rfl
      · dsimp only
        unfold jd_4_s24
        rw [n_jw (z := n) (by omega) (by omega), n_jw (by omega) (by omega), if_pos (by omega), show ((n.toNat : Nat) : Int) = n by omega]
    rw [lp, Option.bind_some]
  · rw [if_neg c, x_pi b1 b2, Option.bind_some]
    rfl
theorem BtR_go (R : BtR s Q I B A at' en) (h0 : 0 ≤ n) (h1 : n ≤ en) : BtR s Q (jms I B 1 n) B A n en := by
  obtain ⟨b, a, ab, qA, i1, i2, p0, p1, p2⟩ := R
  exact ⟨b, a, ab, qA, jms_e, (jms_i (by decide)).trans i2, h0, h1, p2⟩
theorem c_2 (R : BtR s Q I B A at' en) (hz : Zr (btC (I A)) at' en z) : (z = 15 → jd_2 B (hh s Q I) = some (-1, hh s Q (jms (jms I B 1 (at' + 15)) B 3 7))) ∧ (z < 15 → z + 1 ≤ en - (at' + z) → jd_2 B (hh s Q I) = some (nb (btC (I A)) (at' + z) (z + 1).toNat - 1, hh s Q (jms I B 1 (at' + z + (z + 1))))) ∧ (z < 15 → ¬ z + 1 ≤ en - (at' + z) → jd_2 B (hh s Q I) = some (-1 - 1, hh s Q (jms (jms I B 1 (at' + z)) B 3 1))) := by
  obtain ⟨⟨b1, b2⟩, ⟨a1, a2, a3⟩, ab, qA, i1, i2, p0, p1, p2⟩ := id R
  obtain ⟨z0, z1, z2, z3, z4⟩ := hz
  have q0 : Q B ((0 : Nat) : Int) = some A := qA
  have lp : jd_2_l2 B 0 (hh s Q I) = some (z, hh s Q (jms I B 1 (at' + z))) := by
    unfold jd_2_l2
    have e2 : ∀ k : Int, jms I B 1 (at' + k) A = I A := fun k => jms_o ab
    have e3 : ∀ k : Int, jms I B 1 (at' + k) B ((2 : Nat) : Int) = en := fun k => (jms_i (by decide)).trans i2
    have e1 : ∀ k : Int, jms I B 1 (at' + k) B ((1 : Nat) : Int) = at' + k := fun k => jms_e
    have := w_for (f := fun u : (Int × jH) => jd_2_s2 B u.1 u.2) (fun k => ((k : Int), hh s Q (jms I B 1 (at' + (k : Int))))) z.toNat (x := (z, hh s Q (jms I B 1 (at' + z)))) (fun k hk => ?_) ?_ (n_fu (n := z.toNat) (by omega))
    · have e : jms I B 1 (at' + ((0 : Nat) : Int)) = I := by
        rw [show at' + ((0 : Nat) : Int) = I B 1 by omega]
        exact jms_self
      rw [e] at this
      exact this
    · dsimp only
      unfold jd_2_s2
      have zk := z3 k (by omega) (by omega)
      have e5 : jms (jms I B 1 (at' + (k : Int))) B ((1 : Nat) : Int) (at' + (k : Int) + 1) = jms I B 1 (at' + ((k + 1 : Nat) : Int)) := by
        rw [show at' + ((k + 1 : Nat) : Int) = at' + (k : Int) + 1 by omega]
        exact jms_jms
      have e6 : bitv (jwb (I A ((at' + (k : Int)) / 8))) (at' + (k : Int)) = 0 := zk
      rw [x_gi b1 b2, Option.bind_some, x_gi b1 b2, Option.bind_some, e1, e3, n_jw (z := en) (by omega) (by omega), n_jw (z := at' + (k : Int)) (by omega) (by omega), if_neg (by omega), n_jw (z := (k : Int)) (by omega) (by omega), if_neg (by omega), x_gr b1 b2, Option.bind_some, Option.bind_some, q0, Option.bind_some, shr3 (by omega) (by omega), x_ab a1 a2 (by omega) (by omega) a3, Option.bind_some, Option.bind_some, bit_e (by omega) (by omega), e2, e6, if_pos (by decide), Option.bind_some, x_pi b1 b2, Option.bind_some, e5, show ((k + 1 : Nat) : Int) = (k : Int) + 1 by omega]
    · dsimp only
      unfold jd_2_s2
      rw [show ((z.toNat : Nat) : Int) = z by omega, x_gi b1 b2, Option.bind_some, x_gi b1 b2, Option.bind_some, e1, e3, n_jw (z := en) (by omega) (by omega), n_jw (z := at' + z) (by omega) (by omega)]
      by_cases c1 : en ≤ at' + z
      · rw [if_pos c1]
      · rw [if_neg c1, n_jw (z := z) (by omega) (by omega)]
        by_cases c2 : 15 ≤ z
        · rw [if_pos c2]
        · have c3 : btC (I A) (at' + z) ≠ 0 := by omega
          have c4 : bitv (jwb (I A ((at' + z) / 8))) (at' + z) = 1 := by
            rcases btC_b (I A) (at' + z) with h | h
            · exact absurd h c3
            · exact h
          rw [if_neg c2, x_gr b1 b2, Option.bind_some, Option.bind_some, q0, Option.bind_some, shr3 (by omega) (by omega), x_ab a1 a2 (by omega) (by omega) a3, Option.bind_some, Option.bind_some, bit_e (by omega) (by omega), e2, c4, if_neg (by decide)]
  have R2 := BtR_go R (n := at' + z) (by omega) z2
  have e2 : jms I B 1 (at' + z) A = I A := jms_o ab
  unfold jd_2
  rw [lp, Option.bind_some]
  dsimp only
  rw [n_jw (z := z) (by omega) (by omega)]
  refine ⟨fun h => ?_, fun h1 h2 => ?_, fun h1 h2 => ?_⟩
  · subst h
    rw [if_pos rfl, x_pi b1 b2, Option.bind_some]
    rfl
  · have h3 := (c_4 R2 (n := z + 1) (by omega) (by omega)).1 h2
    rw [e2] at h3
    have e5 : jms (jms I B 1 (at' + z)) B 1 (at' + z + (z + 1)) = jms I B 1 (at' + z + (z + 1)) := jms_jms
    rw [if_neg (by omega), x_ck b1 b2, Option.bind_some, h3, Option.bind_some, e5]
  · rw [if_neg (by omega), x_ck b1 b2, Option.bind_some, (c_4 R2 (n := z + 1) (by omega) (by omega)).2 h2, Option.bind_some]
end BitsC
