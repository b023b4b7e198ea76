/-! one part after another -/
section PStep
variable {s : hS} {Q : hQ} {hm : hO} {I m : jM} {A p b1 b2 c : Nat} {base i en w h k q kd st a1 a2 : Int}
/-- the mode of a way, and what the model calls it -/
def mdW (kd way : Int) : Int := if kd = 2 then way else if kd = 0 then way + 4 else if 2 ≤ way then way + 2 else way
theorem mdW_t {way : Int} (k0 : 0 ≤ kd) (k2 : kd ≤ 2) (w0 : 0 ≤ way) (w1 : way < jd_262 kd) : 0 ≤ mdW kd way ∧ mdW kd way ≤ 6 ∧ (mdW kd way = 0 → kd ≠ 0) ∧ (jd_261 kd way = if mdW kd way = 0 then -1 else hwn (mdW kd way)) ∧ (3 ≤ hwm (mdW kd way) kd → kd ≠ 0) ∧ (hwm (mdW kd way) kd = 4 ∨ hwm (mdW kd way) kd = 5 → kd = 2) := by
  have : ∀ (a : Fin 3) (b : Fin 7), (b.val : Int) < jd_262 (a.val : Int) → 0 ≤ mdW (a.val : Int) (b.val : Int) ∧ mdW (a.val : Int) (b.val : Int) ≤ 6 ∧ (mdW (a.val : Int) (b.val : Int) = 0 → (a.val : Int) ≠ 0) ∧ (jd_261 (a.val : Int) (b.val : Int) = if mdW (a.val : Int) (b.val : Int) = 0 then -1 else hwn (mdW (a.val : Int) (b.val : Int))) ∧ (3 ≤ hwm (mdW (a.val : Int) (b.val : Int)) (a.val : Int) → (a.val : Int) ≠ 0) ∧ (hwm (mdW (a.val : Int) (b.val : Int)) (a.val : Int) = 4 ∨ hwm (mdW (a.val : Int) (b.val : Int)) (a.val : Int) = 5 → (a.val : Int) = 2) := by decide
  have l7 : jd_262 kd ≤ 7 := by
    have : ∀ a : Fin 3, jd_262 (a.val : Int) ≤ 7 := by decide
    have := this ⟨kd.toNat, by omega⟩
    dsimp only at this
    rw [show ((kd.toNat : Nat) : Int) = kd by omega] at this
    exact this
  have := this ⟨kd.toNat, by omega⟩ ⟨way.toNat, by omega⟩
  dsimp only at this
  rw [show ((kd.toNat : Nat) : Int) = kd by omega, show ((way.toNat : Nat) : Int) = way by omega] at this
  exact this w1
theorem c_75 (F : PtC s Q 11) (eK : I 11 0 = kd) (k0 : 0 ≤ kd) (k2 : kd ≤ 2) : jd_75 11 (hh s Q I) = some (jd_262 kd) := by
  have eK' : I 11 ((0 : Nat) : Int) = kd := eK
  unfold jd_75 jd_75_b25 jd_262
  rw [T_gi F, Option.bind_some, eK', n_jw (z := kd) (by omega) (by omega)]
  by_cases c : kd = 0
  · rw [if_pos c, if_pos c]
  · rw [if_neg c, if_neg c, Option.bind_some, n_jw (z := kd) (by omega) (by omega)]
theorem c_76 {way : Int} (F : PtC s Q 11) (eK : I 11 0 = kd) (k0 : 0 ≤ kd) (k2 : kd ≤ 2) (w0 : 0 ≤ way) (w1 : way < 100000) : jd_76 11 way (hh s Q I) = some (mdW kd way) := by
  have eK' : I 11 ((0 : Nat) : Int) = kd := eK
  unfold jd_76 jd_76_b35 mdW
  rw [T_gi F, Option.bind_some, eK', n_jw (z := kd) (by omega) (by omega), n_jw (z := way) (by omega) (by omega)]
  by_cases c : kd = 2
  · rw [if_pos c, if_pos c]
  · rw [if_neg c, if_neg c, Option.bind_some, n_jw (z := kd) (by omega) (by omega)]
theorem onl (sw : isSd w) (sh : isSd h) (mw : m 76 33 = w) (k0 : 0 ≤ k) (k1 : k < 12) (q0 : 0 ≤ q) (q1 : q < w / 8 * (h / 8)) : OnL m k q (if q % (w / 8) = 0 then 0 else m 111 (63 * k + 7 * (q - 1) + 1)) (if q % (w / 8) = 0 then 0 else m 111 (63 * k + 7 * (q - 1) + 2)) (if q % (w / 8) = 0 then 0 else m 111 (63 * k + 7 * (q - 1) + 3)) (if q % (w / 8) = 0 then 0 else m 111 (63 * k + 7 * (q - 1) + 4)) := by
  have mr := mm_r sw sh q0 q1
  intro m' h111 h33
  have k45 := (k_245 (m := m') (mm := q) sw (h33.trans mw) q0 (by omega)).1
  have w8 : 1 ≤ w / 8 ∧ w / 8 ≤ 3 := by rcases sw with rfl | rfl | rfl <;> decide
  have go : ∀ z : Int, 1 ≤ z → z ≤ 4 → jd_260 k q z m' = some (if q % (w / 8) = 0 then 0 else m 111 (63 * k + 7 * (q - 1) + z)) := fun z z1 z4 => by
    unfold jd_260 jd_260_b21 jd_259
    rw [k45, Option.bind_some, n_jw (by omega) (by omega)]
    by_cases c : q % (w / 8) = 0
    · rw [if_pos c, if_pos c]
    · have q1' : 1 ≤ q := by
        rcases (show q = 0 ∨ 1 ≤ q by omega) with e | e
        · rw [e] at c; exact absurd (Int.zero_emod _) c
        · exact e
      rw [if_neg c, if_neg c, y_ma 111 756 rfl rfl (by omega) (by omega), Option.bind_some, Option.bind_some, h111]
  exact ⟨go 1 (by decide) (by decide), go 2 (by decide) (by decide), go 3 (by decide) (by decide), go 4 (by decide) (by decide)⟩
/-- references of picture k whatever the way -/
def RfK (s : hS) (Q : hQ) (I m : jM) (b1 b2 p : Nat) (w h k kd a1 a2 : Int) : Prop := (kd ≠ 0 → (∀ m' : jM, m' 76 36 = m 76 36 → m' 102 = m 102 → jd_239 k (if kd = 2 then 2 else 1) m' = some a1) ∧ Q 11 3 = some b1 ∧ RfE s Q I m b1 w h a1 ∧ b1 ≠ p ∧ a1 ≠ k) ∧ (kd = 2 → (∀ m' : jM, m' 76 36 = m 76 36 → m' 102 = m 102 → jd_239 k 1 m' = some a2) ∧ Q 11 4 = some b2 ∧ RfE s Q I m b2 w h a2 ∧ b2 ≠ p ∧ a2 ≠ k)
theorem RfK_s {how : Int} (R : RfK s Q I m b1 b2 p w h k kd a1 a2) (t1 : 3 ≤ how → kd ≠ 0) (t2 : how = 4 ∨ how = 5 → kd = 2) : Rfs s Q I m b1 b2 w h k kd how a1 a2 := ⟨fun e => (R.1 (t1 e)).1, fun e => ⟨(R.1 (t1 (by omega))).2.1, (R.1 (t1 (by omega))).2.2.1⟩, fun e => ⟨(R.2 (t2 e)).2.1, (R.2 (t2 e)).2.2.1, (R.2 (t2 e)).1⟩⟩
theorem RfK_fr {J N : jM} (k0 : 0 ≤ k) (R : RfK s Q I m b1 b2 p w h k kd a1 a2) (sw : isSd w) (sh : isSd h) (P : PcC s Q p) (F : FlC s Q c) (hJ : ∀ a : Nat, 153 ≤ a → a ≠ p + 1 → a ≠ c + 12 → J a = I a) (h109 : ∀ j : Int, j < 864 * k ∨ 864 * k + 864 ≤ j → N 109 j = m 109 j) (h102 : N 102 = m 102) (h36 : N 76 36 = m 76 36) : RfK s Q J N b1 b2 p w h k kd a1 a2 := by
  have tr : ∀ {b : Nat} {a : Int}, RfE s Q I m b w h a → b ≠ p → a ≠ k → RfE s Q J N b w h a := fun {b a} B bp ak => by
    obtain ⟨B1, B2, B3, B4, B5, B6, B7⟩ := id B.1
    have P5 := P.2.2.2.2.1
    have P3 := P.2.2.1
    have c12 := (F.1 12 (by decide)).2
    have n1 : b ≠ p + 1 := fun e => by rw [e, P5] at B3; exact absurd B3 (by decide)
    have n2 : b ≠ c + 12 := fun e => by rw [e, c12.1] at B3; exact absurd B3 (by decide)
    have n3 : b + 1 ≠ c + 12 := fun e => by rw [e, c12.2] at B6; exact absurd B6 (by decide)
    refine ⟨B.1, by rw [hJ b B1 n1 n2]; exact B.2.1, by rw [hJ b B1 n1 n2]; exact B.2.2.1, B.2.2.2.1, B.2.2.2.2.1, fun pl j p0 p2 j0 j1 => ?_⟩
    have ps := pl_sz sw sh p0 p2
    have a0 := B.2.2.2.1
    rw [hJ (b + 1) (by omega) (by omega) n3, h109 (864 * a + (pf pl + j)) (by omega)]
    exact B.2.2.2.2.2 pl j p0 p2 j0 j1
  exact ⟨fun e => ⟨fun m' c1 c2 => (R.1 e).1 m' (c1.trans h36) (c2.trans h102), (R.1 e).2.1, tr (R.1 e).2.2.1 (R.1 e).2.2.2.1 (R.1 e).2.2.2.2, (R.1 e).2.2.2⟩, fun e => ⟨fun m' c1 c2 => (R.2 e).1 m' (c1.trans h36) (c2.trans h102), (R.2 e).2.1, tr (R.2 e).2.2.1 (R.2 e).2.2.2.1 (R.2 e).2.2.2.2, (R.2 e).2.2.2⟩⟩
end PStep
