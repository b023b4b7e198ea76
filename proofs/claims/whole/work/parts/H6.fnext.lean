/-! filter: places and letters, both sides -/
section FltNext
variable {s : hS} {Q : hQ} {hm : hO} {I0 m0 I m : jM} {a : Nat} {q n en p c A B K v : Int}
def tC (I0 : jM) (i : Int) : Int := jwb (I0 2 i)
def chC (I0 : jM) (en A : Int) : Int := if A < en then tC I0 A else 0
def chM (I0 : jM) (en A : Int) : Int := if A < en then tC I0 A % 256 else -1
def Bl (I0 : jM) (en p A : Int) : Prop := p ≤ A ∧ A ≤ en ∧ ∀ i : Int, p ≤ i → i < A → tC I0 i = 32
def Rs (I0 : jM) (en A : Int) : Prop := A < en → tC I0 A ≠ 32
/-- what stands throughout -/
def Fx (s : hS) (Q : hQ) (hm : hO) (a : Nat) (q n en : Int) (I0 m0 : jM) : Prop := Lay s Q hm ∧ FltAt s Q hm a q ∧ s.1 ≤ 1000000 ∧ Q a 3 = some 2 ∧ (0 ≤ q ∧ q < 8) ∧ m0 76 92 = q ∧ m0 76 5 = n ∧ (0 ≤ n ∧ n ≤ 4000) ∧ en = (if 200 < n then 200 else n) ∧ ∀ i : Int, 0 ≤ i → i < n → m0 80 i = tC I0 i % 256
/-- the class's filter: place, steps -/
def CS (I0 : jM) (a : Nat) (en p c : Int) (I : jM) : Prop := I a 5 = p ∧ I a 1 = c ∧ I a 4 = en ∧ (∀ x : Nat, x ≠ a → x ≠ a + 1 → I x = I0 x) ∧ 0 ≤ c ∧ c ≤ 200 ∧ 0 ≤ p ∧ p ≤ en
theorem Fx_e (X : Fx s Q hm a q n en I0 m0) : en ≤ n ∧ en ≤ 200 ∧ 0 ≤ en ∧ (en < n → en = 200) := by
  obtain ⟨-, -, -, -, -, -, -, x8, x9, -⟩ := X
  rw [x9]
  split <;> omega
theorem bl_ex (p0 : 0 ≤ p) (p1 : p ≤ en) : ∃ A, Bl I0 en p A ∧ Rs I0 en A := by
  obtain ⟨d, hd⟩ : ∃ d : Nat, (d : Int) = en - p := ⟨(en - p).toNat, by omega⟩
  induction d generalizing p with
  | zero => exact ⟨p, ⟨Int.le_refl _, p1, fun i h1 h2 => by omega⟩, fun h => by omega⟩
  | succ d ih =>
    by_cases c : tC I0 p = 32
    · obtain ⟨A, ⟨h1, h2, h3⟩, h4⟩ := ih (p := p + 1) (by omega) (by omega) (by omega)
      refine ⟨A, ⟨by omega, h2, fun i i0 i1 => ?_⟩, h4⟩
      by_cases e : i = p
      · rw [e]; exact c
      · exact h3 i (by omega) i1
    · exact ⟨p, ⟨Int.le_refl _, p1, fun i h1 h2 => by omega⟩, fun _ => c⟩
theorem bl_rs (h : Bl I0 en p A) (r : Rs I0 en p) : A = p := by
  by_cases e : p < A
  · exact absurd (h.2.2 p (Int.le_refl _) e) (r (by have := h.2.1; omega))
  · have := h.1
    omega
theorem bl_trans (h : Bl I0 en B p) (h' : Bl I0 en p A) : Bl I0 en B A := ⟨by have := h.1; have := h'.1; omega, h'.2.1, fun i i0 i1 => by
  by_cases e : i < p
  · exact h.2.2 i i0 e
  · exact h'.2.2 i (by omega) i1⟩
theorem bl_refl (h : p ≤ en) : Bl I0 en p p := ⟨Int.le_refl _, h, fun i h1 h2 => by omega⟩
theorem tC_r (i : Int) : -128 ≤ tC I0 i ∧ tC I0 i < 128 := n_jwbr _
theorem chC_r : -128 ≤ chC I0 en A ∧ chC I0 en A < 128 := by
  have := tC_r (I0 := I0) A
  unfold chC
  split <;> omega
theorem chM_r : -1 ≤ chM I0 en A ∧ chM I0 en A < 256 := by
  unfold chM
  split <;> omega
theorem ch_i (k0 : 1 ≤ K) (k1 : K < 128) : chC I0 en A = K ↔ chM I0 en A = K := by
  have := tC_r (I0 := I0) A
  unfold chC chM
  split <;> omega
theorem C_gi {k : Nat} (X : Fx s Q hm a q n en I0 m0) : jgi (hh s Q I) a 3 k = some (I a (k : Int)) := x_gi X.2.1.2.1.1 X.2.1.2.1.2.1
theorem C_gr {k : Nat} (X : Fx s Q hm a q n en I0 m0) : jgr (hh s Q I) a 3 k = some (Q a (k : Int)) := x_gr X.2.1.2.1.1 X.2.1.2.1.2.1
theorem C_ck (X : Fx s Q hm a q n en I0 m0) : jck (hh s Q I) a 3 = some () := x_ck X.2.1.2.1.1 X.2.1.2.1.2.1
theorem C_pi {k : Nat} (X : Fx s Q hm a q n en I0 m0) : jpi (hh s Q I) a 3 k v = some (hh s Q (jms I a (k : Int) v)) := x_pi X.2.1.2.1.1 X.2.1.2.1.2.1
theorem C_ab (X : Fx s Q hm a q n en I0 m0) (h2 : I 2 = I0 2) (p0 : 0 ≤ p) (p1 : p < en) : jab (hh s Q I) 2 p = some (tC I0 p) := by
  have e := Fx_e X
  have := X.2.2.2.2.2.2.2.1
  rw [y_ab X.1 2 4000 rfl rfl rfl p0 (by omega), h2]
  rfl
theorem CS_2 (X : Fx s Q hm a q n en I0 m0) (C : CS I0 a en p c I) : I 2 = I0 2 := C.2.2.2.1 2 (by have := X.2.1.1; omega) (by have := X.2.1.1; omega)
theorem CS_p (C : CS I0 a en p c I) (a0 : 0 ≤ A) (a1 : A ≤ en) : CS I0 a en A c (jms I a 5 A) := by
  obtain ⟨c1, c2, c3, c4, c5, c6, c7, c8⟩ := C
  exact ⟨jms_e, by rw [jms_i (by decide)]; exact c2, by rw [jms_i (by decide)]; exact c3, fun x h1 h2 => by rw [jms_o h1]; exact c4 x h1 h2, c5, c6, a0, a1⟩
/-- next -/
theorem c_47 (X : Fx s Q hm a q n en I0 m0) (C : CS I0 a en p c I) (hb : Bl I0 en p A) (hr : Rs I0 en A) : jd_47 a (hh s Q I) = some (chC I0 en A, hh s Q (jms I a 5 A)) := by
  have e := Fx_e X
  have q3 : Q a ((3 : Nat) : Int) = some 2 := X.2.2.2.1
  have C' := C
  obtain ⟨c1, c2, c3, c4, c5, c6, c7, c8⟩ := C
  obtain ⟨b1, b2, b3⟩ := hb
  have J4 : ∀ z, jms I a 5 z a ((4 : Nat) : Int) = en := fun z => by rw [jms_i (by decide)]; exact c3
  have J5 : ∀ z, jms I a 5 z a ((5 : Nat) : Int) = z := fun z => jms_e
  have J2 : ∀ z, jms I a 5 z 2 = I0 2 := fun z => by rw [jms_o (by have := X.2.1.1; omega)]; exact CS_2 X C'
  have lp : jd_47_l0 a (hh s Q I) = some (hh s Q (jms I a 5 A)) := by
    unfold jd_47_l0
    have := w_for (f := fun u : jH => jd_47_s0 a u) (fun k => hh s Q (jms I a 5 (p + (k : Int)))) (A - p).toNat (x := hh s Q (jms I a 5 A)) (fun k hk => ?_) ?_ (n_fu (by omega))
    · have e0 : jms I a 5 (p + ((0 : Nat) : Int)) = I := by
        rw [show p + ((0 : Nat) : Int) = I a 5 by omega]
        exact jms_self
      try dsimp only at this
      rw [e0] at this
      exact this
    · try dsimp only
      unfold jd_47_s0
      have J3 : jms (jms I a 5 (p + (k : Int))) a ((5 : Nat) : Int) (p + (k : Int) + 1) = jms I a 5 (p + ((k + 1 : Nat) : Int)) := by
        rw [show p + ((k + 1 : Nat) : Int) = p + (k : Int) + 1 by omega]
        exact jms_jms
      rw [C_gi X, Option.bind_some, C_gi X, Option.bind_some, J4, J5, n_jw (z := en) (by omega) (by omega), n_jw (z := p + (k : Int)) (by omega) (by omega), if_neg (by omega), C_gr X, Option.bind_some, q3, Option.bind_some, Option.bind_some, C_ab X (J2 _) (by omega) (by omega), Option.bind_some, b3 (p + (k : Int)) (by omega) (by omega), if_pos (by decide), Option.bind_some, C_pi X, Option.bind_some, J3]
    · try dsimp only
      unfold jd_47_s0
      rw [show p + (((A - p).toNat : Nat) : Int) = A by omega, C_gi X, Option.bind_some, C_gi X, Option.bind_some, J4, J5, n_jw (z := en) (by omega) (by omega), n_jw (z := A) (by omega) (by omega)]
      by_cases h : en ≤ A
      · rw [if_pos h]
      · have tr := tC_r (I0 := I0) A
        rw [if_neg h, C_gr X, Option.bind_some, q3, Option.bind_some, Option.bind_some, C_ab X (J2 _) (by omega) (by omega), Option.bind_some, n_jw (z := tC I0 A) (by omega) (by omega), if_neg (hr (by omega))]
  unfold jd_47 jd_47_b62 chC
  rw [lp, Option.bind_some, C_gi X, Option.bind_some, C_gi X, Option.bind_some, J4, J5, n_jw (z := en) (by omega) (by omega), n_jw (z := A) (by omega) (by omega)]
  by_cases h : en ≤ A
  · rw [if_pos h, if_neg (by omega)]
  · rw [if_neg h, if_pos (by omega), C_gr X, Option.bind_some, q3, Option.bind_some, Option.bind_some, C_ab X (J2 _) (by omega) (by omega), Option.bind_some]
/-- here -/
theorem k_333 (X : Fx s Q hm a q n en I0 m0) (h96 : m 76 96 = B) (h5 : m 76 5 = n) (h80 : m 80 = m0 80) (b0 : 0 ≤ B) (hb : Bl I0 en B A) (hr : Rs I0 en A) : jd_333 m = some (chM I0 en A, jms m 76 96 A) := by
  have e := Fx_e X
  have n4 := X.2.2.2.2.2.2.2.1
  have tx := X.2.2.2.2.2.2.2.2.2
  obtain ⟨b1, b2, b3⟩ := hb
  have J5 : ∀ z, jms m 76 96 z 76 5 = n := fun z => by rw [jms_i (by decide)]; exact h5
  have J96 : ∀ z, jms m 76 96 z 76 96 = z := fun z => jms_e
  have J80 : ∀ z i : Int, 0 ≤ i → i < en → jms m 76 96 z 80 i = tC I0 i % 256 := fun z i i0 i1 => by rw [jms_o (by decide), h80]; exact tx i i0 (by omega)
  have lp : jd_333_l0 m = some (jms m 76 96 A) := by
    unfold jd_333_l0
    have := w_for (f := fun u : jM => jd_333_s0 u) (fun k => jms m 76 96 (B + (k : Int))) (A - B).toNat (x := jms m 76 96 A) (fun k hk => ?_) ?_ (n_fu (by omega))
    · have e0 : jms m 76 96 (B + ((0 : Nat) : Int)) = m := by
        rw [show B + ((0 : Nat) : Int) = m 76 96 by omega]
        exact jms_self
      try dsimp only at this
      rw [e0] at this
      exact this
    · try dsimp only
      unfold jd_333_s0
      have J3 : jms (jms m 76 96 (B + (k : Int))) 76 96 (B + (k : Int) + 1) = jms m 76 96 (B + ((k + 1 : Nat) : Int)) := by
        rw [show B + ((k + 1 : Nat) : Int) = B + (k : Int) + 1 by omega]
        exact jms_jms
      rw [J5, J96, n_jw (z := n) (by omega) (by omega), n_jw (z := B + (k : Int)) (by omega) (by omega), if_neg (by omega), if_neg (by omega), y_ma 80 4000 rfl rfl (by omega) (by omega), Option.bind_some, J80 _ _ (by omega) (by omega), b3 (B + (k : Int)) (by omega) (by omega), if_pos (by decide), Option.bind_some, J3]
    · try dsimp only
      unfold jd_333_s0
      rw [show B + (((A - B).toNat : Nat) : Int) = A by omega, J5, J96, n_jw (z := n) (by omega) (by omega), n_jw (z := A) (by omega) (by omega)]
      by_cases h : n ≤ A
      · rw [if_pos h]
      · rw [if_neg h]
        by_cases h2 : 200 ≤ A
        · rw [if_pos h2]
        · have tr := tC_r (I0 := I0) A
          have hr' := hr (by omega)
          rw [if_neg h2, y_ma 80 4000 rfl rfl (by omega) (by omega), Option.bind_some, J80 _ _ (by omega) (by omega), n_jw (z := tC I0 A % 256) (by omega) (by omega), if_neg (by omega)]
  unfold jd_333 jd_333_b81 jd_333_b82 chM
  rw [lp, Option.bind_some, J5, J96, n_jw (z := n) (by omega) (by omega), n_jw (z := A) (by omega) (by omega)]
  by_cases h : n ≤ A
  · rw [if_pos h, if_neg (by omega)]
  · rw [if_neg h]
    by_cases h2 : 200 ≤ A
    · rw [if_pos h2, if_neg (by omega)]
    · rw [if_neg h2, if_pos (by omega), y_ma 80 4000 rfl rfl (by omega) (by omega), Option.bind_some, J80 _ _ (by omega) (by omega)]
/-- addStep -/
theorem c_46 (X : Fx s Q hm a q n en I0 m0) (C : CS I0 a en p c I) : ∃ I', jd_46 a v (hh s Q I) = some (hh s Q I') ∧ CS I0 a en p (if c < 200 then c + 1 else c) I' ∧ (c < 200 → I' (a + 1) = jiu (I (a + 1)) c v) := by
  have C' := C
  obtain ⟨c1, c2, c3, c4, c5, c6, c7, c8⟩ := C
  have e1 : I a ((1 : Nat) : Int) = c := c2
  have q0 : Q a ((0 : Nat) : Int) = some (a + 1) := X.2.1.2.2.2.2.1
  have W := X.2.1.2.2.1
  by_cases h : c < 200
  · refine ⟨jms (jms I a 1 (c + 1)) (a + 1) c v, ?_, ?_, fun _ => ?_⟩
    · unfold jd_46 jd_46_b27
      rw [C_gi X, Option.bind_some, e1, n_jw (z := c) (by omega) (by omega), if_neg (by omega), C_gr X, Option.bind_some, q0, Option.bind_some, C_pi X, Option.bind_some, Option.bind_some, x_ta W.1 W.2.1 c5 (by rw [W.2.2.1]; omega) (by rw [W.2.2.1]; omega), Option.bind_some]
      rfl
    · rw [if_pos h]
      refine ⟨?_, ?_, ?_, fun x h1 h2 => ?_, by omega, by omega, c7, c8⟩
      · rw [jms_o (by omega), jms_i (by decide)]; exact c1
      · rw [jms_o (by omega), jms_e]
      · rw [jms_o (by omega), jms_i (by decide)]; exact c3
      · rw [jms_o h2, jms_o h1]; exact c4 x h1 h2
    · have : jms (jms I a 1 (c + 1)) (a + 1) c v (a + 1) = jiu (jms I a 1 (c + 1) (a + 1)) c v := if_pos rfl
      rw [this, jms_o (by omega)]
  · refine ⟨I, ?_, ?_, fun h' => absurd h' h⟩
    · unfold jd_46 jd_46_b27
      rw [C_gi X, Option.bind_some, e1, n_jw (z := c) (by omega) (by omega), if_pos (by omega)]
    · rw [if_neg h]
      exact C'
/-- at++ -/
theorem c_inc (C : CS I0 a en p c I) (h : p < en) : CS I0 a en (p + 1) c (jms I a 5 (p + 1)) := CS_p C (by have := C.2.2.2.2.2.2.1; omega) (by omega)
/-- pass -/
theorem c_48 (X : Fx s Q hm a q n en I0 m0) (C : CS I0 a en p c I) (hb : Bl I0 en p A) (hr : Rs I0 en A) (hK : 1 ≤ K ∧ K < 128) : jd_48 a K (hh s Q I) = some (if chC I0 en A = K then (1, hh s Q (jms I a 5 (A + 1))) else (0, hh s Q (jms I a 5 A))) := by
  have r := chC_r (I0 := I0) (en := en) (A := A)
  have e5 : jms I a 5 A a ((5 : Nat) : Int) = A := jms_e
  unfold jd_48
  rw [C_ck X, Option.bind_some, c_47 X C hb hr, Option.bind_some, n_jw (z := chC I0 en A) (by omega) (by omega), n_jw (z := K) (by omega) (by omega)]
  by_cases h : chC I0 en A = K
  · rw [if_pos h, if_pos h, C_gi X, Option.bind_some, e5, C_pi X, Option.bind_some]
    show some ((1 : Int), hh s Q (jms (jms I a 5 A) a 5 (A + 1))) = _
    rw [jms_jms]
  · rw [if_neg h, if_neg h]
theorem ch_lt (h : chC I0 en A = K) (k : K ≠ 0) : A < en := by
  by_cases c : A < en
  · exact c
  · unfold chC at h
    rw [if_neg c] at h
    exact absurd h.symm k
end FltNext
