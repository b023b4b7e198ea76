/-! making: one way tried, class -/
section WayC
variable {s : hS} {Q : hQ} {hm : hO} {I J m M : jM} {p b1 b2 : Nat} {w h X Y k kd st q a1 a2 way md : Int} {W G fd V F : Int → Int} {lv : Int → Int → Int}
theorem pB_len (hl : ∀ b j : Int, -4095 ≤ lv b j ∧ lv b j ≤ 4095) (hv : ∀ i : Int, 0 ≤ i → i < 4 → -32 ≤ V i - G i ∧ V i - G i ≤ 32) (w0 : 0 ≤ way) (w6 : way ≤ 6) : ((pB way md V G lv).length : Int) ≤ 3400 := by
  have l1 := bkL_len hl 6
  have l2 := vcL_len (md := md) hv 4 (by decide)
  obtain ⟨A, hA⟩ : ∃ A, (cd way).length = A := ⟨_, rfl⟩
  have l3 := lw_a (k := 3) w0 (by show way + 1 < 8; omega) hA
  obtain ⟨B, hB⟩ : ∃ B, (bkL lv 6).length = B := ⟨_, rfl⟩
  obtain ⟨C, hC⟩ : ∃ C, (vcL md V G 4).length = C := ⟨_, rfl⟩
  rw [hB] at l1
  rw [hC] at l2
  unfold pB
  rw [List.length_append, List.length_append, hA, hC]
  by_cases c : md = 0
  · rw [if_pos c]
    show ((A + (C + 0) : Nat) : Int) ≤ 3400
    omega
  · rw [if_neg c, hB]
    omega
theorem c_18s (L : Lay s Q hm) (h6 : s.1 ≤ 1000000) {c0 : Int} {Md : Int → Int} (c0b : 0 ≤ c0 ∧ c0 ≤ 10000000) (wt : ∀ z : Int, 0 ≤ z → z < 96 → I 56 z = W z ∧ 0 ≤ W z ∧ W z ≤ 255) (hM : ∀ z : Int, 0 ≤ z → z < 96 → I 48 z = Md z ∧ 0 ≤ Md z ∧ Md z ≤ 255) : jd_18_l128 44 way c0 0 (hh s Q I) = some (c0 + sqS (fun z => Md z - W z) 96) := by
  have T := PtC_45 L
  have q0 : Q 44 ((0 : Nat) : Int) = some 45 := Lq L rfl
  have q2 : Q 44 ((2 : Nat) : Int) = some 56 := Lq L rfl
  have q9 := T_q T 3 9 rfl rfl rfl
  have e : sqS (fun z => Md z - W z) 96 = sqS (fun z => I 56 z - I 48 z) 96 := sqS_c 96 (fun z z0 z1 => by
    show (Md z - W z) * (Md z - W z) = (I 56 z - I 48 z) * (I 56 z - I 48 z)
    rw [(wt z z0 z1).1, (hM z z0 z1).1, ← Int.neg_mul_neg, Int.neg_sub])
  rw [e]
  obtain ⟨D, hD⟩ : ∃ D : Int → Int, D = fun z => I 56 z - I 48 z := ⟨_, rfl⟩
  rw [← hD]
  unfold jd_18_l128
  have := w_for (f := fun u : (Int × Int) => jd_18_s128 44 way u.1 u.2 (hh s Q I)) (fun n => (c0 + sqS D n, (n : Int))) 96 (x := c0 + sqS D 96) (fun n hn => ?_) ?_ (n_fu (by decide))
  · have z : c0 + sqS D 0 = c0 := Int.add_zero _
    rw [z] at this
    exact this
  · dsimp only
    have a48 : jai (hh s Q I) 48 (n : Int) = some (I 48 (n : Int)) := T_ai (R := Q) (I := I) (z := (n : Int)) T h6 3 96 rfl rfl rfl rfl (by omega) (by omega)
    have q9' : Q 45 ((9 : Nat) : Int) = some 48 := q9
    have eD : D (n : Int) = I 56 (n : Int) - I 48 (n : Int) := by rw [hD]
    unfold jd_18_s128
    rw [n_jw (z := (n : Int)) (by omega) (by omega), if_neg (by omega), y_gr L 44 1 rfl rfl, Option.bind_some, q2, Option.bind_some, y_ai L h6 56 96 rfl rfl rfl (by omega) (by omega), Option.bind_some, y_gr L 44 1 rfl rfl, Option.bind_some, q0, Option.bind_some, T_gr T, Option.bind_some, q9', Option.bind_some, a48, Option.bind_some, Option.bind_some, sqS_s, eD, Int.add_assoc, show ((n + 1 : Nat) : Int) = (n : Int) + 1 by omega]
  · dsimp only
    unfold jd_18_s128
    exact if_pos (by show (96 : Int) ≤ jw ((96 : Nat) : Int); decide)
/-- the best way's copies -/
def BC (I : jM) (way cost md : Int) (Md V : Int → Int) (lv : Int → Int → Int) : Prop := I 44 7 = way ∧ I 44 8 = cost ∧ (∀ z : Int, 0 ≤ z → z < 96 → I 57 z = Md z) ∧ (md ≠ 0 → ∀ b i : Int, 0 ≤ b → b < 6 → 0 ≤ i → i < 16 → I 58 (16 * b + i) = lv b i) ∧ ∀ i : Int, 0 ≤ i → i < 4 → I 59 i = V i
theorem c_18k {cost : Int} {Md : Int → Int} (L : Lay s Q hm) (hM : ∀ z : Int, 0 ≤ z → z < 96 → I 48 z = Md z) (hl : md ≠ 0 → ∀ b i : Int, 0 ≤ b → b < 6 → 0 ≤ i → i < 16 → I 49 (16 * b + i) = lv b i) (hv : ∀ i : Int, 0 ≤ i → i < 4 → I 50 i = V i) : ∃ J, jd_18_b181 44 way cost (hh s Q I) = some (hh s Q J) ∧ BC J way cost md Md V lv ∧ (∀ x : Nat, x ≠ 44 → x ≠ 57 → x ≠ 58 → x ≠ 59 → J x = I x) ∧ ∀ z : Int, z ≠ 7 → z ≠ 8 → J 44 z = I 44 z := by
  have T := PtC_45 L
  have q0 : Q 44 ((0 : Nat) : Int) = some 45 := Lq L rfl
  have q3 : Q 44 ((3 : Nat) : Int) = some 57 := Lq L rfl
  have q4 : Q 44 ((4 : Nat) : Int) = some 58 := Lq L rfl
  have q5 : Q 44 ((5 : Nat) : Int) = some 59 := Lq L rfl
  have q9 : Q 45 ((9 : Nat) : Int) = some 48 := T_q T 3 9 rfl rfl rfl
  have q10 : Q 45 ((10 : Nat) : Int) = some 49 := T_q T 4 10 rfl rfl rfl
  have q11 : Q 45 ((11 : Nat) : Int) = some 50 := T_q T 5 11 rfl rfl rfl
  have tg : ∀ a : Nat, a < 76 → a < s.1 ∧ s.2.2.1 a = (sk a).1 ∧ s.2.2.2 a = (sk a).2 := fun a ha => ⟨(L.2.1 a ha).1, (L.2.1 a ha).2.1, (L.2.1 a ha).2.2.1⟩
  have cp : ∀ (J : jM) (a b n : Nat), a < 76 → b < 76 → sk a = (0, n) → sk b = (0, n) → n ≤ 96 → jcp (hh s Q J) a 0 b 0 (n : Int) = some (hh s Q (ims J b (fun j => if 0 ≤ j ∧ j < 0 + (n : Int) then J a (0 + (j - 0)) else J b j))) := fun J a b n ha hb ea eb hn => by
    have ta := tg a ha
    have tb := tg b hb
    rw [ea] at ta
    rw [eb] at tb
    exact x_cp ta.1 tb.1 ta.2.1 tb.2.1 (Or.inl rfl) (by decide) (by decide) (by omega) (by rw [ta.2.2]; omega) (by rw [tb.2.2]; omega) (by rw [ta.2.2]; show n ≤ 1000000; omega) (by rw [tb.2.2]; show n ≤ 1000000; omega)
  obtain ⟨J0, hJ0⟩ : ∃ J0, J0 = jms (jms I 44 8 cost) 44 7 way := ⟨_, rfl⟩
  have hJ0' : jms (jms I 44 ((8 : Nat) : Int) cost) 44 ((7 : Nat) : Int) way = J0 := hJ0.symm
  have o0 : ∀ x : Nat, x ≠ 44 → J0 x = I x := fun x hx => by rw [hJ0, jms_o hx, jms_o hx]
  have c1 := cp J0 48 57 96 (by decide) (by decide) rfl rfl (by decide)
  obtain ⟨J1, hJ1⟩ : ∃ J1, J1 = ims J0 57 (fun j => if 0 ≤ j ∧ j < 0 + ((96 : Nat) : Int) then J0 48 (0 + (j - 0)) else J0 57 j) := ⟨_, rfl⟩
  rw [← hJ1] at c1
  have c2 := cp J1 49 58 96 (by decide) (by decide) rfl rfl (by decide)
  obtain ⟨J2, hJ2⟩ : ∃ J2, J2 = ims J1 58 (fun j => if 0 ≤ j ∧ j < 0 + ((96 : Nat) : Int) then J1 49 (0 + (j - 0)) else J1 58 j) := ⟨_, rfl⟩
  rw [← hJ2] at c2
  have c3 := cp J2 50 59 4 (by decide) (by decide) rfl rfl (by decide)
  obtain ⟨J3, hJ3⟩ : ∃ J3, J3 = ims J2 59 (fun j => if 0 ≤ j ∧ j < 0 + ((4 : Nat) : Int) then J2 50 (0 + (j - 0)) else J2 59 j) := ⟨_, rfl⟩
  rw [← hJ3] at c3
  have o1 : ∀ x : Nat, x ≠ 57 → J1 x = J0 x := fun x hx => by rw [hJ1, ims_o hx]
  have o2 : ∀ x : Nat, x ≠ 58 → J2 x = J1 x := fun x hx => by rw [hJ2, ims_o hx]
  have o3 : ∀ x : Nat, x ≠ 59 → J3 x = J2 x := fun x hx => by rw [hJ3, ims_o hx]
  have j44 : J3 44 = J0 44 := by rw [o3 44 (by decide), o2 44 (by decide), o1 44 (by decide)]
  refine ⟨J3, ?_, ⟨?_, ?_, fun z z0 z1 => ?_, fun hm b i b0 b1 i0 i1 => ?_, fun i i0 i1 => ?_⟩, fun x x1 x2 x3 x4 => ?_, fun z z1 z2 => ?_⟩
  · have c1' : jcp (hh s Q J0) 48 0 57 0 96 = some (hh s Q J1) := c1
    have c2' : jcp (hh s Q J1) 49 0 58 0 96 = some (hh s Q J2) := c2
    have c3' : jcp (hh s Q J2) 50 0 59 0 4 = some (hh s Q J3) := c3
    unfold jd_18_b181 jd_18_b244
    rw [y_pi L 44 1 rfl rfl, Option.bind_some, y_pi L 44 1 rfl rfl, Option.bind_some, hJ0', y_gr L 44 1 rfl rfl, Option.bind_some, q0, Option.bind_some, T_gr T, Option.bind_some, q9, y_gr L 44 1 rfl rfl, Option.bind_some, q3, Option.bind_some, Option.bind_some, c1', Option.bind_some, y_gr L 44 1 rfl rfl, Option.bind_some, q0, Option.bind_some, T_gr T, Option.bind_some, q10, y_gr L 44 1 rfl rfl, Option.bind_some, q4, Option.bind_some, Option.bind_some, c2', Option.bind_some, y_gr L 44 1 rfl rfl, Option.bind_some, q0, Option.bind_some, T_gr T, Option.bind_some, q11, y_gr L 44 1 rfl rfl, Option.bind_some, q5, Option.bind_some, Option.bind_some, c3', Option.bind_some]
  · rw [j44, hJ0, jms_e]
  · rw [j44, hJ0, jms_i (by decide), jms_e]
  · rw [o3 57 (by decide), o2 57 (by decide), hJ1, ims_e, if_pos (by omega), show 0 + (z - 0) = z by omega, o0 48 (by decide)]
    exact hM z z0 z1
  · rw [o3 58 (by decide), hJ2, ims_e, if_pos (by omega), show 0 + (16 * b + i - 0) = 16 * b + i by omega, o1 49 (by decide), o0 49 (by decide)]
    exact hl hm b i b0 b1 i0 i1
  · rw [hJ3, ims_e, if_pos (by omega), show 0 + (i - 0) = i by omega, o2 50 (by decide), o1 50 (by decide), o0 50 (by decide)]
    exact hv i i0 i1
  · rw [o3 x x4, o2 x x3, o1 x x2, o0 x x1]
  · rw [j44, hJ0, jms_i z1, jms_i z2]
end WayC
