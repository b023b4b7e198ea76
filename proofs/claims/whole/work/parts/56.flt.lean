/-! apply: one step of a filter's work, in the class and in the model -/
theorem jw_iff (a b : Int) : jw a = jw b ↔ (4294967296 : Int) ∣ a - b := by
  unfold jw
  constructor
  · intro h
    omega
  · intro h
    omega
theorem jw_add {a b c d : Int} (h : jw a = jw b) (k : jw c = jw d) : jw (a + c) = jw (b + d) := by unfold jw at *; omega
theorem jw_sub {a b c d : Int} (h : jw a = jw b) (k : jw c = jw d) : jw (a - c) = jw (b - d) := by unfold jw at *; omega
theorem jw_neg {a b : Int} (h : jw a = jw b) : jw (-a) = jw (-b) := by unfold jw at *; omega
theorem jw_jw (a : Int) : jw (jw a) = jw a := by unfold jw; omega
theorem jw_mul {a b c d : Int} (h : jw a = jw b) (k : jw c = jw d) : jw (a * c) = jw (b * d) := by
  rw [jw_iff] at *
  have e : a * c - b * d = (a - b) * c + b * (c - d) := by rw [Int.sub_mul, Int.mul_sub]; omega
  rw [e]
  exact Int.dvd_add (Int.dvd_mul_of_dvd_left h) (Int.dvd_mul_of_dvd_right k)
theorem jw_div {a b c d : Int} (h : jw a = jw b) (k : jw c = jw d) : jdiv a c = jdiv b d := by
  unfold jdiv
  rw [h, k]
theorem jw_rem {a b c d : Int} (h : jw a = jw b) (k : jw c = jw d) : jrem a c = jrem b d := by
  unfold jrem
  rw [h, k]
/-- the two sides' sums on two operands -/
theorem op_div {a b c d : Int} (h : jw a = jw b) (k : jw c = jw d) : ∃ V V', jd_58 47 a c = some V ∧ jd_346 12 b d = some V' ∧ jw V = jw V' := by
  have e1 : jd_58 47 a c = (if jw c = 0 then some 0 else (jnz c).bind fun _ => some (jdiv a c)) := rfl
  have e2 : jd_346 12 b d = (if jw d = 0 then some 0 else if jw d = -1 then some (-b) else (jnz d).bind fun _ => some (jdiv b d)) := rfl
  rw [e1, e2, k]
  by_cases z : jw d = 0
  · rw [if_pos z, if_pos z]
    exact ⟨0, 0, rfl, rfl, rfl⟩
  · have n1 : jnz c = some () := by unfold jnz; rw [k]; exact if_neg z
    have n2 : jnz d = some () := by unfold jnz; exact if_neg z
    rw [if_neg z, if_neg z, n1, Option.bind_some]
    by_cases z2 : jw d = -1
    · rw [if_pos z2]
      refine ⟨_, _, rfl, rfl, ?_⟩
      unfold jdiv
      rw [k, z2, h, Int.tdiv_neg, Int.tdiv_one]
      exact jw_neg (jw_jw b)
    · rw [if_neg z2, n2, Option.bind_some]
      exact ⟨_, _, rfl, rfl, congrArg jw (jw_div h k)⟩
theorem op_rem {a b c d : Int} (h : jw a = jw b) (k : jw c = jw d) : ∃ V V', jd_58 37 a c = some V ∧ jd_346 13 b d = some V' ∧ jw V = jw V' := by
  have e1 : jd_58 37 a c = (if jw c = 0 then some 0 else (jnz c).bind fun _ => some (jrem a c)) := rfl
  have e2 : jd_346 13 b d = (if jw d = 0 then some 0 else if jw d = -1 then some 0 else (jnz d).bind fun _ => some (jrem b d)) := rfl
  rw [e1, e2, k]
  by_cases z : jw d = 0
  · rw [if_pos z, if_pos z]
    exact ⟨0, 0, rfl, rfl, rfl⟩
  · have n1 : jnz c = some () := by unfold jnz; rw [k]; exact if_neg z
    have n2 : jnz d = some () := by unfold jnz; exact if_neg z
    rw [if_neg z, if_neg z, n1, Option.bind_some]
    by_cases z2 : jw d = -1
    · rw [if_pos z2]
      refine ⟨_, _, rfl, rfl, ?_⟩
      unfold jrem
      rw [k, z2, h, Int.tdiv_neg, Int.tdiv_one]
      congr 1
      omega
    · rw [if_neg z2, n2, Option.bind_some]
      exact ⟨_, _, rfl, rfl, congrArg jw (jw_rem h k)⟩
theorem op_add {a b c d : Int} (h : jw a = jw b) (k : jw c = jw d) : ∃ V V', jd_58 43 a c = some V ∧ jd_346 9 b d = some V' ∧ jw V = jw V' := ⟨a + c, b + d, rfl, rfl, jw_add h k⟩
theorem op_sub {a b c d : Int} (h : jw a = jw b) (k : jw c = jw d) : ∃ V V', jd_58 45 a c = some V ∧ jd_346 10 b d = some V' ∧ jw V = jw V' := ⟨a - c, b - d, rfl, rfl, jw_sub h k⟩
theorem op_mul {a b c d : Int} (h : jw a = jw b) (k : jw c = jw d) : ∃ V V', jd_58 42 a c = some V ∧ jd_346 11 b d = some V' ∧ jw V = jw V' := ⟨a * c, b * d, rfl, rfl, jw_mul h k⟩
theorem op_min {a b c d : Int} (h : jw a = jw b) (k : jw c = jw d) : ∃ V V', jd_58 109 a c = some V ∧ jd_346 15 b d = some V' ∧ jw V = jw V' := by
  refine ⟨if jw c < jw a then c else a, if jw d ≤ jw b then d else b, rfl, rfl, ?_⟩
  rw [h, k]
  by_cases z : jw d < jw b
  · rw [if_pos z, if_pos (by omega)]
    exact k
  · rw [if_neg z]
    by_cases z2 : jw d ≤ jw b
    · rw [if_pos z2]
      omega
    · rw [if_neg z2]
      exact h
theorem op_max {a b c d : Int} (h : jw a = jw b) (k : jw c = jw d) : ∃ V V', jd_58 77 a c = some V ∧ jd_346 16 b d = some V' ∧ jw V = jw V' := by
  refine ⟨if jw a < jw c then c else a, if jw b ≤ jw d then d else b, rfl, rfl, ?_⟩
  rw [h, k]
  by_cases z : jw b < jw d
  · rw [if_pos z, if_pos (by omega)]
    exact k
  · rw [if_neg z]
    by_cases z2 : jw b ≤ jw d
    · rw [if_pos z2]
      omega
    · rw [if_neg z2]
      exact h
section FltStep
variable {s : hS} {Q : hQ} {hm : hO} {J m : jM} {a b : Nat} {f o p q x y t d i w h N wo : Int}
theorem c_b381 {D V : Int} (F : FltAt s Q hm a f) (d0 : 0 ≤ D) (d1 : D < 200) : jd_56_b381 a (some b) q x y t D i V (hh s Q J) = some (.inl (D + 1, i + 1, hh s Q (jms J (a + 2) D V))) := by
  have e2 : Q a ((2 : Nat) : Int) = some (a + 2) := F.2.2.2.2.2
  unfold jd_56_b381
  rw [x_gr F.2.1.1 F.2.1.2.1, Option.bind_some, e2, Option.bind_some, x_ta F.2.2.2.1.1 F.2.2.2.1.2.1 d0 (by rw [F.2.2.2.1.2.2.1]; omega) (by rw [F.2.2.2.1.2.2.1]; decide), Option.bind_some]
/-- what stands ready for a step -/
def Fst (s : hS) (Q : hQ) (hm : hO) (J m : jM) (a b : Nat) (f o p q x y d i w h N op wo : Int) : Prop := (FltAt s Q hm a f) ∧ (s.1 ≤ 1000000) ∧ (PicAt s Q hm b o) ∧ (J b 0 = w) ∧ (J b 1 = h) ∧ (isSd w) ∧ (isSd h) ∧ (0 ≤ q ∧ q ≤ 2) ∧ (0 ≤ x ∧ x < pw w q) ∧ (0 ≤ y ∧ y < pw h q) ∧ (J a 1 = N) ∧ (0 ≤ i ∧ i < N ∧ N ≤ 200) ∧ (J (a + 1) i = stp op wo) ∧ (0 ≤ f ∧ f < 8) ∧ (m 135 f = N) ∧ (m 136 (400 * f + i) = op) ∧ (m 137 (400 * f + i) = wo) ∧ (0 ≤ p ∧ p < 60) ∧ (m 77 p = w) ∧ (m 78 p = h) ∧ (ari op ≤ d ∧ d < 200) ∧ (∀ k : Int, 0 ≤ k → k < pw w q * pw h q → J (b + 1) (pb w h q + k) = m 79 (864 * p + (pf q + k))) ∧ (∀ k : Int, 0 ≤ k → k < d → jw (J (a + 2) k) = jw (m 140 k))
theorem Fst.F {op : Int} (P : Fst s Q hm J m a b f o p q x y d i w h N op wo) : FltAt s Q hm a f := P.1
theorem Fst.h6 {op : Int} (P : Fst s Q hm J m a b f o p q x y d i w h N op wo) : s.1 ≤ 1000000 := P.2.1
theorem Fst.A {op : Int} (P : Fst s Q hm J m a b f o p q x y d i w h N op wo) : PicAt s Q hm b o := P.2.2.1
theorem Fst.j0 {op : Int} (P : Fst s Q hm J m a b f o p q x y d i w h N op wo) : J b 0 = w := P.2.2.2.1
theorem Fst.j1 {op : Int} (P : Fst s Q hm J m a b f o p q x y d i w h N op wo) : J b 1 = h := P.2.2.2.2.1
theorem Fst.sw {op : Int} (P : Fst s Q hm J m a b f o p q x y d i w h N op wo) : isSd w := P.2.2.2.2.2.1
theorem Fst.sh {op : Int} (P : Fst s Q hm J m a b f o p q x y d i w h N op wo) : isSd h := P.2.2.2.2.2.2.1
theorem Fst.q0 {op : Int} (P : Fst s Q hm J m a b f o p q x y d i w h N op wo) : 0 ≤ q ∧ q ≤ 2 := P.2.2.2.2.2.2.2.1
theorem Fst.x0 {op : Int} (P : Fst s Q hm J m a b f o p q x y d i w h N op wo) : 0 ≤ x ∧ x < pw w q := P.2.2.2.2.2.2.2.2.1
theorem Fst.y0 {op : Int} (P : Fst s Q hm J m a b f o p q x y d i w h N op wo) : 0 ≤ y ∧ y < pw h q := P.2.2.2.2.2.2.2.2.2.1
theorem Fst.jN {op : Int} (P : Fst s Q hm J m a b f o p q x y d i w h N op wo) : J a 1 = N := P.2.2.2.2.2.2.2.2.2.2.1
theorem Fst.i0 {op : Int} (P : Fst s Q hm J m a b f o p q x y d i w h N op wo) : 0 ≤ i ∧ i < N ∧ N ≤ 200 := P.2.2.2.2.2.2.2.2.2.2.2.1
theorem Fst.jC {op : Int} (P : Fst s Q hm J m a b f o p q x y d i w h N op wo) : J (a + 1) i = stp op wo := P.2.2.2.2.2.2.2.2.2.2.2.2.1
theorem Fst.f0 {op : Int} (P : Fst s Q hm J m a b f o p q x y d i w h N op wo) : 0 ≤ f ∧ f < 8 := P.2.2.2.2.2.2.2.2.2.2.2.2.2.1
theorem Fst.mN {op : Int} (P : Fst s Q hm J m a b f o p q x y d i w h N op wo) : m 135 f = N := P.2.2.2.2.2.2.2.2.2.2.2.2.2.2.1
theorem Fst.mO {op : Int} (P : Fst s Q hm J m a b f o p q x y d i w h N op wo) : m 136 (400 * f + i) = op := P.2.2.2.2.2.2.2.2.2.2.2.2.2.2.2.1
theorem Fst.mW {op : Int} (P : Fst s Q hm J m a b f o p q x y d i w h N op wo) : m 137 (400 * f + i) = wo := P.2.2.2.2.2.2.2.2.2.2.2.2.2.2.2.2.1
theorem Fst.p0 {op : Int} (P : Fst s Q hm J m a b f o p q x y d i w h N op wo) : 0 ≤ p ∧ p < 60 := P.2.2.2.2.2.2.2.2.2.2.2.2.2.2.2.2.2.1
theorem Fst.m7 {op : Int} (P : Fst s Q hm J m a b f o p q x y d i w h N op wo) : m 77 p = w := P.2.2.2.2.2.2.2.2.2.2.2.2.2.2.2.2.2.2.1
theorem Fst.m8 {op : Int} (P : Fst s Q hm J m a b f o p q x y d i w h N op wo) : m 78 p = h := P.2.2.2.2.2.2.2.2.2.2.2.2.2.2.2.2.2.2.2.1
theorem Fst.dd {op : Int} (P : Fst s Q hm J m a b f o p q x y d i w h N op wo) : ari op ≤ d ∧ d < 200 := P.2.2.2.2.2.2.2.2.2.2.2.2.2.2.2.2.2.2.2.2.1
theorem Fst.X {op : Int} (P : Fst s Q hm J m a b f o p q x y d i w h N op wo) : ∀ k : Int, 0 ≤ k → k < pw w q * pw h q → J (b + 1) (pb w h q + k) = m 79 (864 * p + (pf q + k)) := P.2.2.2.2.2.2.2.2.2.2.2.2.2.2.2.2.2.2.2.2.2.1
theorem Fst.S {op : Int} (P : Fst s Q hm J m a b f o p q x y d i w h N op wo) : ∀ k : Int, 0 ≤ k → k < d → jw (J (a + 2) k) = jw (m 140 k) := P.2.2.2.2.2.2.2.2.2.2.2.2.2.2.2.2.2.2.2.2.2.2
def FstR (s : hS) (Q : hQ) (J m : jM) (a b : Nat) (f p q x y t d i w h op : Int) : Prop := ∃ V V' : Int, jw V = jw V' ∧ jd_56_s6 a (some b) q x y t d i (hh s Q J) = some (.inl (d - ari op + 1, i + 1, hh s Q (jms J (a + 2) (d - ari op) V))) ∧ jd_345_s34 f p q x y t (pw w q) (pw h q) d (400 * f + i) m = some (.inl (d - ari op + 1, 400 * f + i + 1, jms m 140 (d - ari op) V'))
theorem st_1 (P : Fst s Q hm J m a b f o p q x y d i w h N 1 wo) : FstR s Q J m a b f p q x y t d i w h 1 := by
  have F := P.F
  have h6 := P.h6
  have A := P.A
  have i0 := P.i0
  have f0 := P.f0
  have dd := P.dd
  have p0 := P.p0
  have hq : okI q := by have := P.q0; unfold okI; omega
  have bw := pw_sd P.sw q
  have bh := pw_sd P.sh q
  have x0 := P.x0
  have y0 := P.y0
  have ps := pl_sz P.sw P.sh P.q0.1 P.q0.2
  have eN : J a ((1 : Nat) : Int) = N := P.jN
  have e0 : Q a ((0 : Nat) : Int) = some (a + 1) := F.2.2.2.2.1
  have e2 : Q a ((2 : Nat) : Int) = some (a + 2) := F.2.2.2.2.2
  have ea : ari 1 = 0 := rfl
  rw [ea] at dd
  refine ⟨x, x, rfl, ?_, ?_⟩
  · rw [ea]
    unfold jd_56_s6
    have ej : J (a + 1) i = 120 := P.jC
    rw [x_gi F.2.1.1 F.2.1.2.1, Option.bind_some, eN, n_jw (z := N) (by omega) (by omega), n_jw (z := i) (by omega) (by omega), if_neg (by omega), x_gr F.2.1.1 F.2.1.2.1, Option.bind_some, e0, Option.bind_some, x_ai F.2.2.1.1 h6 F.2.2.1.2.1 (by omega) (by rw [F.2.2.1.2.2.1]; omega) (by rw [F.2.2.1.2.2.1]; decide), Option.bind_some, ej, show jd_57 120 = 0 by decide, n_jw (z := d) (by omega) (by omega), show jw 0 = 0 by decide, if_neg (by omega), n_jw (z := d - 0) (by omega) (by omega), if_pos (by omega)]
    repeat rw [if_neg (by decide)]
    rw [if_pos (by decide), c_b381 F (by omega) (by omega)]
  · rw [ea]
    unfold jd_345_s34
    have em : m 136 (400 * f + i) = 1 := P.mO
    rw [y_ma 135 8 rfl rfl P.f0.1 (by omega), Option.bind_some, P.mN, n_jw (z := 400 * f + N) (by omega) (by omega), n_jw (z := 400 * f + i) (by omega) (by omega), if_neg (by omega), y_ma 136 3200 rfl rfl (by omega) (by omega), Option.bind_some, em]
    rw [if_neg (by decide)]
    repeat rw [if_neg (by decide)]
    rw [if_pos (by decide)]
    unfold jd_345_b169 jd_345_b350
    rw [y_mw 140 420 rfl rfl (by omega) (by omega), Option.bind_some, Int.sub_zero]
theorem st_2 (P : Fst s Q hm J m a b f o p q x y d i w h N 2 wo) : FstR s Q J m a b f p q x y t d i w h 2 := by
  have F := P.F
  have h6 := P.h6
  have A := P.A
  have i0 := P.i0
  have f0 := P.f0
  have dd := P.dd
  have p0 := P.p0
  have hq : okI q := by have := P.q0; unfold okI; omega
  have bw := pw_sd P.sw q
  have bh := pw_sd P.sh q
  have x0 := P.x0
  have y0 := P.y0
  have ps := pl_sz P.sw P.sh P.q0.1 P.q0.2
  have eN : J a ((1 : Nat) : Int) = N := P.jN
  have e0 : Q a ((0 : Nat) : Int) = some (a + 1) := F.2.2.2.2.1
  have e2 : Q a ((2 : Nat) : Int) = some (a + 2) := F.2.2.2.2.2
  have ea : ari 2 = 0 := rfl
  rw [ea] at dd
  refine ⟨y, y, rfl, ?_, ?_⟩
  · rw [ea]
    unfold jd_56_s6
    have ej : J (a + 1) i = 121 := P.jC
    rw [x_gi F.2.1.1 F.2.1.2.1, Option.bind_some, eN, n_jw (z := N) (by omega) (by omega), n_jw (z := i) (by omega) (by omega), if_neg (by omega), x_gr F.2.1.1 F.2.1.2.1, Option.bind_some, e0, Option.bind_some, x_ai F.2.2.1.1 h6 F.2.2.1.2.1 (by omega) (by rw [F.2.2.1.2.2.1]; omega) (by rw [F.2.2.1.2.2.1]; decide), Option.bind_some, ej, show jd_57 121 = 0 by decide, n_jw (z := d) (by omega) (by omega), show jw 0 = 0 by decide, if_neg (by omega), n_jw (z := d - 0) (by omega) (by omega), if_pos (by omega)]
    repeat rw [if_neg (by decide)]
    rw [if_pos (by decide), c_b381 F (by omega) (by omega)]
  · rw [ea]
    unfold jd_345_s34
    have em : m 136 (400 * f + i) = 2 := P.mO
    rw [y_ma 135 8 rfl rfl P.f0.1 (by omega), Option.bind_some, P.mN, n_jw (z := 400 * f + N) (by omega) (by omega), n_jw (z := 400 * f + i) (by omega) (by omega), if_neg (by omega), y_ma 136 3200 rfl rfl (by omega) (by omega), Option.bind_some, em]
    rw [if_neg (by decide)]
    repeat rw [if_neg (by decide)]
    rw [if_pos (by decide)]
    unfold jd_345_b169 jd_345_b350
    rw [y_mw 140 420 rfl rfl (by omega) (by omega), Option.bind_some, Int.sub_zero]
theorem st_3 (P : Fst s Q hm J m a b f o p q x y d i w h N 3 wo) : FstR s Q J m a b f p q x y t d i w h 3 := by
  have F := P.F
  have h6 := P.h6
  have A := P.A
  have i0 := P.i0
  have f0 := P.f0
  have dd := P.dd
  have p0 := P.p0
  have hq : okI q := by have := P.q0; unfold okI; omega
  have bw := pw_sd P.sw q
  have bh := pw_sd P.sh q
  have x0 := P.x0
  have y0 := P.y0
  have ps := pl_sz P.sw P.sh P.q0.1 P.q0.2
  have eN : J a ((1 : Nat) : Int) = N := P.jN
  have e0 : Q a ((0 : Nat) : Int) = some (a + 1) := F.2.2.2.2.1
  have e2 : Q a ((2 : Nat) : Int) = some (a + 2) := F.2.2.2.2.2
  have ea : ari 3 = 0 := rfl
  rw [ea] at dd
  refine ⟨pw w q, pw w q, rfl, ?_, ?_⟩
  · rw [ea]
    unfold jd_56_s6
    have ej : J (a + 1) i = 119 := P.jC
    rw [x_gi F.2.1.1 F.2.1.2.1, Option.bind_some, eN, n_jw (z := N) (by omega) (by omega), n_jw (z := i) (by omega) (by omega), if_neg (by omega), x_gr F.2.1.1 F.2.1.2.1, Option.bind_some, e0, Option.bind_some, x_ai F.2.2.1.1 h6 F.2.2.1.2.1 (by omega) (by rw [F.2.2.1.2.2.1]; omega) (by rw [F.2.2.1.2.2.1]; decide), Option.bind_some, ej, show jd_57 119 = 0 by decide, n_jw (z := d) (by omega) (by omega), show jw 0 = 0 by decide, if_neg (by omega), n_jw (z := d - 0) (by omega) (by omega), if_pos (by omega)]
    repeat rw [if_neg (by decide)]
    rw [if_pos (by decide), Option.bind_some, x_ck A.2.1.1 A.2.1.2.1, Option.bind_some, c_96 A.2.1.1 A.2.1.2.1 P.j0 P.sw hq, Option.bind_some, c_b381 F (by omega) (by omega)]
  · rw [ea]
    unfold jd_345_s34
    have em : m 136 (400 * f + i) = 3 := P.mO
    rw [y_ma 135 8 rfl rfl P.f0.1 (by omega), Option.bind_some, P.mN, n_jw (z := 400 * f + N) (by omega) (by omega), n_jw (z := 400 * f + i) (by omega) (by omega), if_neg (by omega), y_ma 136 3200 rfl rfl (by omega) (by omega), Option.bind_some, em]
    rw [if_neg (by decide)]
    repeat rw [if_neg (by decide)]
    rw [if_pos (by decide)]
    unfold jd_345_b169 jd_345_b350
    rw [y_mw 140 420 rfl rfl (by omega) (by omega), Option.bind_some, Int.sub_zero]
theorem st_4 (P : Fst s Q hm J m a b f o p q x y d i w h N 4 wo) : FstR s Q J m a b f p q x y t d i w h 4 := by
  have F := P.F
  have h6 := P.h6
  have A := P.A
  have i0 := P.i0
  have f0 := P.f0
  have dd := P.dd
  have p0 := P.p0
  have hq : okI q := by have := P.q0; unfold okI; omega
  have bw := pw_sd P.sw q
  have bh := pw_sd P.sh q
  have x0 := P.x0
  have y0 := P.y0
  have ps := pl_sz P.sw P.sh P.q0.1 P.q0.2
  have eN : J a ((1 : Nat) : Int) = N := P.jN
  have e0 : Q a ((0 : Nat) : Int) = some (a + 1) := F.2.2.2.2.1
  have e2 : Q a ((2 : Nat) : Int) = some (a + 2) := F.2.2.2.2.2
  have ea : ari 4 = 0 := rfl
  rw [ea] at dd
  refine ⟨pw h q, pw h q, rfl, ?_, ?_⟩
  · rw [ea]
    unfold jd_56_s6
    have ej : J (a + 1) i = 104 := P.jC
    rw [x_gi F.2.1.1 F.2.1.2.1, Option.bind_some, eN, n_jw (z := N) (by omega) (by omega), n_jw (z := i) (by omega) (by omega), if_neg (by omega), x_gr F.2.1.1 F.2.1.2.1, Option.bind_some, e0, Option.bind_some, x_ai F.2.2.1.1 h6 F.2.2.1.2.1 (by omega) (by rw [F.2.2.1.2.2.1]; omega) (by rw [F.2.2.1.2.2.1]; decide), Option.bind_some, ej, show jd_57 104 = 0 by decide, n_jw (z := d) (by omega) (by omega), show jw 0 = 0 by decide, if_neg (by omega), n_jw (z := d - 0) (by omega) (by omega), if_pos (by omega)]
    repeat rw [if_neg (by decide)]
    rw [if_pos (by decide), Option.bind_some, x_ck A.2.1.1 A.2.1.2.1, Option.bind_some, c_97 A.2.1.1 A.2.1.2.1 P.j1 P.sh hq, Option.bind_some, c_b381 F (by omega) (by omega)]
  · rw [ea]
    unfold jd_345_s34
    have em : m 136 (400 * f + i) = 4 := P.mO
    rw [y_ma 135 8 rfl rfl P.f0.1 (by omega), Option.bind_some, P.mN, n_jw (z := 400 * f + N) (by omega) (by omega), n_jw (z := 400 * f + i) (by omega) (by omega), if_neg (by omega), y_ma 136 3200 rfl rfl (by omega) (by omega), Option.bind_some, em]
    rw [if_neg (by decide)]
    repeat rw [if_neg (by decide)]
    rw [if_pos (by decide)]
    unfold jd_345_b169 jd_345_b350
    rw [y_mw 140 420 rfl rfl (by omega) (by omega), Option.bind_some, Int.sub_zero]
theorem st_5 (P : Fst s Q hm J m a b f o p q x y d i w h N 5 wo) : FstR s Q J m a b f p q x y t d i w h 5 := by
  have F := P.F
  have h6 := P.h6
  have A := P.A
  have i0 := P.i0
  have f0 := P.f0
  have dd := P.dd
  have p0 := P.p0
  have hq : okI q := by have := P.q0; unfold okI; omega
  have bw := pw_sd P.sw q
  have bh := pw_sd P.sh q
  have x0 := P.x0
  have y0 := P.y0
  have ps := pl_sz P.sw P.sh P.q0.1 P.q0.2
  have eN : J a ((1 : Nat) : Int) = N := P.jN
  have e0 : Q a ((0 : Nat) : Int) = some (a + 1) := F.2.2.2.2.1
  have e2 : Q a ((2 : Nat) : Int) = some (a + 2) := F.2.2.2.2.2
  have ea : ari 5 = 0 := rfl
  rw [ea] at dd
  refine ⟨q, q, rfl, ?_, ?_⟩
  · rw [ea]
    unfold jd_56_s6
    have ej : J (a + 1) i = 110 := P.jC
    rw [x_gi F.2.1.1 F.2.1.2.1, Option.bind_some, eN, n_jw (z := N) (by omega) (by omega), n_jw (z := i) (by omega) (by omega), if_neg (by omega), x_gr F.2.1.1 F.2.1.2.1, Option.bind_some, e0, Option.bind_some, x_ai F.2.2.1.1 h6 F.2.2.1.2.1 (by omega) (by rw [F.2.2.1.2.2.1]; omega) (by rw [F.2.2.1.2.2.1]; decide), Option.bind_some, ej, show jd_57 110 = 0 by decide, n_jw (z := d) (by omega) (by omega), show jw 0 = 0 by decide, if_neg (by omega), n_jw (z := d - 0) (by omega) (by omega), if_pos (by omega)]
    repeat rw [if_neg (by decide)]
    rw [if_pos (by decide), c_b381 F (by omega) (by omega)]
  · rw [ea]
    unfold jd_345_s34
    have em : m 136 (400 * f + i) = 5 := P.mO
    rw [y_ma 135 8 rfl rfl P.f0.1 (by omega), Option.bind_some, P.mN, n_jw (z := 400 * f + N) (by omega) (by omega), n_jw (z := 400 * f + i) (by omega) (by omega), if_neg (by omega), y_ma 136 3200 rfl rfl (by omega) (by omega), Option.bind_some, em]
    rw [if_neg (by decide)]
    repeat rw [if_neg (by decide)]
    rw [if_pos (by decide)]
    unfold jd_345_b169 jd_345_b350
    rw [y_mw 140 420 rfl rfl (by omega) (by omega), Option.bind_some, Int.sub_zero]
theorem st_6 (P : Fst s Q hm J m a b f o p q x y d i w h N 6 wo) : FstR s Q J m a b f p q x y t d i w h 6 := by
  have F := P.F
  have h6 := P.h6
  have A := P.A
  have i0 := P.i0
  have f0 := P.f0
  have dd := P.dd
  have p0 := P.p0
  have hq : okI q := by have := P.q0; unfold okI; omega
  have bw := pw_sd P.sw q
  have bh := pw_sd P.sh q
  have x0 := P.x0
  have y0 := P.y0
  have ps := pl_sz P.sw P.sh P.q0.1 P.q0.2
  have eN : J a ((1 : Nat) : Int) = N := P.jN
  have e0 : Q a ((0 : Nat) : Int) = some (a + 1) := F.2.2.2.2.1
  have e2 : Q a ((2 : Nat) : Int) = some (a + 2) := F.2.2.2.2.2
  have ea : ari 6 = 0 := rfl
  rw [ea] at dd
  refine ⟨t, t, rfl, ?_, ?_⟩
  · rw [ea]
    unfold jd_56_s6
    have ej : J (a + 1) i = 116 := P.jC
    rw [x_gi F.2.1.1 F.2.1.2.1, Option.bind_some, eN, n_jw (z := N) (by omega) (by omega), n_jw (z := i) (by omega) (by omega), if_neg (by omega), x_gr F.2.1.1 F.2.1.2.1, Option.bind_some, e0, Option.bind_some, x_ai F.2.2.1.1 h6 F.2.2.1.2.1 (by omega) (by rw [F.2.2.1.2.2.1]; omega) (by rw [F.2.2.1.2.2.1]; decide), Option.bind_some, ej, show jd_57 116 = 0 by decide, n_jw (z := d) (by omega) (by omega), show jw 0 = 0 by decide, if_neg (by omega), n_jw (z := d - 0) (by omega) (by omega), if_pos (by omega)]
    repeat rw [if_neg (by decide)]
    rw [if_pos (by decide), c_b381 F (by omega) (by omega)]
  · rw [ea]
    unfold jd_345_s34
    have em : m 136 (400 * f + i) = 6 := P.mO
    rw [y_ma 135 8 rfl rfl P.f0.1 (by omega), Option.bind_some, P.mN, n_jw (z := 400 * f + N) (by omega) (by omega), n_jw (z := 400 * f + i) (by omega) (by omega), if_neg (by omega), y_ma 136 3200 rfl rfl (by omega) (by omega), Option.bind_some, em]
    rw [if_neg (by decide)]
    repeat rw [if_neg (by decide)]
    rw [if_pos (by decide)]
    unfold jd_345_b169 jd_345_b350
    rw [y_mw 140 420 rfl rfl (by omega) (by omega), Option.bind_some, Int.sub_zero]
theorem st_7 (P : Fst s Q hm J m a b f o p q x y d i w h N 7 wo) : FstR s Q J m a b f p q x y t d i w h 7 := by
  have F := P.F
  have h6 := P.h6
  have A := P.A
  have i0 := P.i0
  have f0 := P.f0
  have dd := P.dd
  have p0 := P.p0
  have hq : okI q := by have := P.q0; unfold okI; omega
  have bw := pw_sd P.sw q
  have bh := pw_sd P.sh q
  have x0 := P.x0
  have y0 := P.y0
  have ps := pl_sz P.sw P.sh P.q0.1 P.q0.2
  have eN : J a ((1 : Nat) : Int) = N := P.jN
  have e0 : Q a ((0 : Nat) : Int) = some (a + 1) := F.2.2.2.2.1
  have e2 : Q a ((2 : Nat) : Int) = some (a + 2) := F.2.2.2.2.2
  have ea : ari 7 = 0 := rfl
  rw [ea] at dd
  refine ⟨J (b + 1) (pb w h q + (y * pw w q + x)), m 79 (864 * p + (pf q + (y * pw w q + x))), ?_, ?_, ?_⟩
  · have dz := dm_b y0.1 y0.2 x0.1 x0.2
    rw [P.X _ dz.1 dz.2]
  · rw [ea]
    unfold jd_56_s6
    have ej : J (a + 1) i = 115 := P.jC
    rw [x_gi F.2.1.1 F.2.1.2.1, Option.bind_some, eN, n_jw (z := N) (by omega) (by omega), n_jw (z := i) (by omega) (by omega), if_neg (by omega), x_gr F.2.1.1 F.2.1.2.1, Option.bind_some, e0, Option.bind_some, x_ai F.2.2.1.1 h6 F.2.2.1.2.1 (by omega) (by rw [F.2.2.1.2.2.1]; omega) (by rw [F.2.2.1.2.2.1]; decide), Option.bind_some, ej, show jd_57 115 = 0 by decide, n_jw (z := d) (by omega) (by omega), show jw 0 = 0 by decide, if_neg (by omega), n_jw (z := d - 0) (by omega) (by omega), if_pos (by omega)]
    repeat rw [if_neg (by decide)]
    rw [if_pos (by decide), Option.bind_some, x_ck A.2.1.1 A.2.1.2.1, Option.bind_some, n_jw (z := x) (by omega) (by omega), n_jw (z := y) (by omega) (by omega), c_103 A h6 P.j0 P.j1 P.sw P.sh P.q0.1 P.q0.2 (by omega) (by omega) (by omega) (by omega), Option.bind_some, show clz y (pw h q) = y by unfold clz; rw [if_neg (by omega), if_neg (by omega)], show clz x (pw w q) = x by unfold clz; rw [if_neg (by omega), if_neg (by omega)], c_b381 F (by omega) (by omega)]
  · rw [ea]
    unfold jd_345_s34
    have em : m 136 (400 * f + i) = 7 := P.mO
    rw [y_ma 135 8 rfl rfl P.f0.1 (by omega), Option.bind_some, P.mN, n_jw (z := 400 * f + N) (by omega) (by omega), n_jw (z := 400 * f + i) (by omega) (by omega), if_neg (by omega), y_ma 136 3200 rfl rfl (by omega) (by omega), Option.bind_some, em]
    rw [if_neg (by decide)]
    repeat rw [if_neg (by decide)]
    unfold jd_345_b169 jd_345_b350
    rw [k_212 p0 hq P.m7 P.sw, Option.bind_some, show 864 * p + pf q + y * pw w q + x = 864 * p + (pf q + (y * pw w q + x)) by omega, y_ma 79 51840 rfl rfl (by have := dm_b y0.1 y0.2 x0.1 x0.2; omega) (by have := dm_b y0.1 y0.2 x0.1 x0.2; omega), Option.bind_some, y_mw 140 420 rfl rfl (by omega) (by omega), Option.bind_some, Int.sub_zero]
theorem j57_0 (h0 : 0 ≤ wo) (h1 : wo ≤ 99999) : jd_57 (1000 + wo) = 0 := by
  unfold jd_57
  rw [n_jw (z := 1000 + wo) (by omega) (by omega)]
  repeat rw [if_neg (by omega)]
theorem st_0 (P : Fst s Q hm J m a b f o p q x y d i w h N 0 wo) (h0 : 0 ≤ wo) (h1 : wo ≤ 99999) : FstR s Q J m a b f p q x y t d i w h 0 := by
  have F := P.F
  have h6 := P.h6
  have A := P.A
  have i0 := P.i0
  have f0 := P.f0
  have dd := P.dd
  have p0 := P.p0
  have hq : okI q := by have := P.q0; unfold okI; omega
  have bw := pw_sd P.sw q
  have bh := pw_sd P.sh q
  have x0 := P.x0
  have y0 := P.y0
  have ps := pl_sz P.sw P.sh P.q0.1 P.q0.2
  have eN : J a ((1 : Nat) : Int) = N := P.jN
  have e0 : Q a ((0 : Nat) : Int) = some (a + 1) := F.2.2.2.2.1
  have e2 : Q a ((2 : Nat) : Int) = some (a + 2) := F.2.2.2.2.2
  have ea : ari 0 = 0 := rfl
  rw [ea] at dd
  refine ⟨1000 + wo - 1000, wo, by congr 1; omega, ?_, ?_⟩
  · rw [ea]
    unfold jd_56_s6
    have ej : J (a + 1) i = 1000 + wo := P.jC
    rw [x_gi F.2.1.1 F.2.1.2.1, Option.bind_some, eN, n_jw (z := N) (by omega) (by omega), n_jw (z := i) (by omega) (by omega), if_neg (by omega), x_gr F.2.1.1 F.2.1.2.1, Option.bind_some, e0, Option.bind_some, x_ai F.2.2.1.1 h6 F.2.2.1.2.1 (by omega) (by rw [F.2.2.1.2.2.1]; omega) (by rw [F.2.2.1.2.2.1]; decide), Option.bind_some, ej, j57_0 h0 h1, n_jw (z := d) (by omega) (by omega), show jw 0 = 0 by decide, if_neg (by omega), n_jw (z := d - 0) (by omega) (by omega), if_pos (by omega), n_jw (z := 1000 + wo) (by omega) (by omega)]
    repeat rw [if_neg (by omega)]
    unfold jd_56_b341 jd_56_b379
    rw [n_jw (z := 1000 + wo) (by omega) (by omega), if_neg (by omega), c_b381 F (by omega) (by omega)]
  · rw [ea]
    unfold jd_345_s34
    have em : m 136 (400 * f + i) = 0 := P.mO
    rw [y_ma 135 8 rfl rfl P.f0.1 (by omega), Option.bind_some, P.mN, n_jw (z := 400 * f + N) (by omega) (by omega), n_jw (z := 400 * f + i) (by omega) (by omega), if_neg (by omega), y_ma 136 3200 rfl rfl (by omega) (by omega), Option.bind_some, em]
    rw [if_neg (by decide), if_pos (by decide), y_ma 137 3200 rfl rfl (by omega) (by omega), Option.bind_some, P.mW]
    unfold jd_345_b169 jd_345_b350
    rw [y_mw 140 420 rfl rfl (by omega) (by omega), Option.bind_some, Int.sub_zero]
theorem st_8 (P : Fst s Q hm J m a b f o p q x y d i w h N 8 wo) : FstR s Q J m a b f p q x y t d i w h 8 := by
  have F := P.F
  have h6 := P.h6
  have A := P.A
  have i0 := P.i0
  have f0 := P.f0
  have dd := P.dd
  have p0 := P.p0
  have hq : okI q := by have := P.q0; unfold okI; omega
  have bw := pw_sd P.sw q
  have bh := pw_sd P.sh q
  have x0 := P.x0
  have y0 := P.y0
  have ps := pl_sz P.sw P.sh P.q0.1 P.q0.2
  have eN : J a ((1 : Nat) : Int) = N := P.jN
  have e0 : Q a ((0 : Nat) : Int) = some (a + 1) := F.2.2.2.2.1
  have e2 : Q a ((2 : Nat) : Int) = some (a + 2) := F.2.2.2.2.2
  have ea : ari 8 = 1 := rfl
  rw [ea] at dd
  refine ⟨-J (a + 2) (d - 1), -m 140 (d - 1), jw_neg (P.S _ (by omega) (by omega)), ?_, ?_⟩
  · rw [ea]
    unfold jd_56_s6
    have ej : J (a + 1) i = 126 := P.jC
    rw [x_gi F.2.1.1 F.2.1.2.1, Option.bind_some, eN, n_jw (z := N) (by omega) (by omega), n_jw (z := i) (by omega) (by omega), if_neg (by omega), x_gr F.2.1.1 F.2.1.2.1, Option.bind_some, e0, Option.bind_some, x_ai F.2.2.1.1 h6 F.2.2.1.2.1 (by omega) (by rw [F.2.2.1.2.2.1]; omega) (by rw [F.2.2.1.2.2.1]; decide), Option.bind_some, ej, show jd_57 126 = 1 by decide, n_jw (z := d) (by omega) (by omega), show jw 1 = 1 by decide, if_neg (by omega), n_jw (z := d - 1) (by omega) (by omega), if_pos (by omega)]
    repeat rw [if_neg (by decide)]
    rw [if_pos (by decide), x_gr F.2.1.1 F.2.1.2.1, Option.bind_some, e2, Option.bind_some, x_ai F.2.2.2.1.1 h6 F.2.2.2.1.2.1 (by omega) (by rw [F.2.2.2.1.2.2.1]; omega) (by rw [F.2.2.2.1.2.2.1]; decide), Option.bind_some, c_b381 F (by omega) (by omega)]
  · rw [ea]
    unfold jd_345_s34
    have em : m 136 (400 * f + i) = 8 := P.mO
    rw [y_ma 135 8 rfl rfl P.f0.1 (by omega), Option.bind_some, P.mN, n_jw (z := 400 * f + N) (by omega) (by omega), n_jw (z := 400 * f + i) (by omega) (by omega), if_neg (by omega), y_ma 136 3200 rfl rfl (by omega) (by omega), Option.bind_some, em]
    rw [if_pos (by decide), if_pos (by decide), y_ma 140 420 rfl rfl (by omega) (by omega), Option.bind_some, y_mw 140 420 rfl rfl (by omega) (by omega), Option.bind_some]
    unfold jd_345_b350
    rw [show d - 1 + 1 = d by omega]
theorem st_17 (P : Fst s Q hm J m a b f o p q x y d i w h N 17 wo) : FstR s Q J m a b f p q x y t d i w h 17 := by
  have F := P.F
  have h6 := P.h6
  have A := P.A
  have i0 := P.i0
  have f0 := P.f0
  have dd := P.dd
  have p0 := P.p0
  have hq : okI q := by have := P.q0; unfold okI; omega
  have bw := pw_sd P.sw q
  have bh := pw_sd P.sh q
  have x0 := P.x0
  have y0 := P.y0
  have ps := pl_sz P.sw P.sh P.q0.1 P.q0.2
  have eN : J a ((1 : Nat) : Int) = N := P.jN
  have e0 : Q a ((0 : Nat) : Int) = some (a + 1) := F.2.2.2.2.1
  have e2 : Q a ((2 : Nat) : Int) = some (a + 2) := F.2.2.2.2.2
  have ea : ari 17 = 3 := rfl
  rw [ea] at dd
  have s0 := P.S (d - 3) (by omega) (by omega)
  have s1 := P.S (d - 3 + 1) (by omega) (by omega)
  have s2 := P.S (d - 3 + 2) (by omega) (by omega)
  refine ⟨if jw (J (a + 2) (d - 3)) = 0 then J (a + 2) (d - 3 + 2) else J (a + 2) (d - 3 + 1), if jw (m 140 (d - 3)) = 0 then m 140 (d - 3 + 2) else m 140 (d - 3 + 1), ?_, ?_, ?_⟩
  · rw [s0]
    split
    · exact s2
    · exact s1
  · rw [ea]
    unfold jd_56_s6
    have ej : J (a + 1) i = 105 := P.jC
    rw [x_gi F.2.1.1 F.2.1.2.1, Option.bind_some, eN, n_jw (z := N) (by omega) (by omega), n_jw (z := i) (by omega) (by omega), if_neg (by omega), x_gr F.2.1.1 F.2.1.2.1, Option.bind_some, e0, Option.bind_some, x_ai F.2.2.1.1 h6 F.2.2.1.2.1 (by omega) (by rw [F.2.2.1.2.2.1]; omega) (by rw [F.2.2.1.2.2.1]; decide), Option.bind_some, ej, show jd_57 105 = 3 by decide, n_jw (z := d) (by omega) (by omega), show jw 3 = 3 by decide, if_neg (by omega), n_jw (z := d - 3) (by omega) (by omega), if_pos (by omega)]
    repeat rw [if_neg (by decide)]
    rw [if_pos (by decide), x_gr F.2.1.1 F.2.1.2.1, Option.bind_some, e2, Option.bind_some, x_ai F.2.2.2.1.1 h6 F.2.2.2.1.2.1 (by omega) (by rw [F.2.2.2.1.2.2.1]; omega) (by rw [F.2.2.2.1.2.2.1]; decide), Option.bind_some]
    by_cases z : jw (J (a + 2) (d - 3)) = 0
    · rw [if_pos z, if_pos z, Option.bind_some, Option.bind_some, x_ai F.2.2.2.1.1 h6 F.2.2.2.1.2.1 (by omega) (by rw [F.2.2.2.1.2.2.1]; omega) (by rw [F.2.2.2.1.2.2.1]; decide), Option.bind_some]
      unfold jd_56_b323
      rw [c_b381 F (by omega) (by omega)]
    · rw [if_neg z, if_neg z, Option.bind_some, Option.bind_some, x_ai F.2.2.2.1.1 h6 F.2.2.2.1.2.1 (by omega) (by rw [F.2.2.2.1.2.2.1]; omega) (by rw [F.2.2.2.1.2.2.1]; decide), Option.bind_some]
      unfold jd_56_b323
      rw [c_b381 F (by omega) (by omega)]
  · rw [ea]
    unfold jd_345_s34
    have em : m 136 (400 * f + i) = 17 := P.mO
    rw [y_ma 135 8 rfl rfl P.f0.1 (by omega), Option.bind_some, P.mN, n_jw (z := 400 * f + N) (by omega) (by omega), n_jw (z := 400 * f + i) (by omega) (by omega), if_neg (by omega), y_ma 136 3200 rfl rfl (by omega) (by omega), Option.bind_some, em]
    rw [if_pos (by decide), if_neg (by decide), if_pos (by decide), show d + (-2) - 1 = d - 3 by omega, y_ma 140 420 rfl rfl (by omega) (by omega), Option.bind_some]
    by_cases z : jw (m 140 (d - 3)) = 0
    · rw [if_pos z, if_pos z, show d + (-2) + 1 = d - 3 + 2 by omega, y_ma 140 420 rfl rfl (by omega) (by omega), Option.bind_some]
      unfold jd_345_b254 jd_345_b350
      rw [y_mw 140 420 rfl rfl (by omega) (by omega), Option.bind_some, show d + (-2) = d - 3 + 1 by omega]
    · rw [if_neg z, if_neg z, show d + (-2) = d - 3 + 1 by omega, y_ma 140 420 rfl rfl (by omega) (by omega), Option.bind_some]
      unfold jd_345_b254 jd_345_b350
      rw [y_mw 140 420 rfl rfl (by omega) (by omega), Option.bind_some]
theorem st_14 (P : Fst s Q hm J m a b f o p q x y d i w h N 14 wo) : FstR s Q J m a b f p q x y t d i w h 14 := by
  have F := P.F
  have h6 := P.h6
  have A := P.A
  have i0 := P.i0
  have f0 := P.f0
  have dd := P.dd
  have p0 := P.p0
  have hq : okI q := by have := P.q0; unfold okI; omega
  have bw := pw_sd P.sw q
  have bh := pw_sd P.sh q
  have x0 := P.x0
  have y0 := P.y0
  have ps := pl_sz P.sw P.sh P.q0.1 P.q0.2
  have eN : J a ((1 : Nat) : Int) = N := P.jN
  have e0 : Q a ((0 : Nat) : Int) = some (a + 1) := F.2.2.2.2.1
  have e2 : Q a ((2 : Nat) : Int) = some (a + 2) := F.2.2.2.2.2
  have ea : ari 14 = 2 := rfl
  rw [ea] at dd
  have s0 := P.S (d - 2) (by omega) (by omega)
  have s1 := P.S (d - 2 + 1) (by omega) (by omega)
  have g0 := n_jwr (m 140 (d - 2))
  have g1 := n_jwr (m 140 (d - 2 + 1))
  have z2 := clz_b (z := x + jw (m 140 (d - 2))) (n := pw w q) (by omega)
  have z1 := clz_b (z := y + jw (m 140 (d - 2 + 1))) (n := pw h q) (by omega)
  have dz := dm_b z1.1 z1.2 z2.1 z2.2
  refine ⟨J (b + 1) (pb w h q + (clz (y + jw (m 140 (d - 2 + 1))) (pw h q) * pw w q + clz (x + jw (m 140 (d - 2))) (pw w q))), m 79 (864 * p + (pf q + (clz (y + jw (m 140 (d - 2 + 1))) (pw h q) * pw w q + clz (x + jw (m 140 (d - 2))) (pw w q)))), ?_, ?_, ?_⟩
  · rw [P.X _ dz.1 dz.2]
  · rw [ea]
    unfold jd_56_s6
    have ej : J (a + 1) i = 97 := P.jC
    rw [x_gi F.2.1.1 F.2.1.2.1, Option.bind_some, eN, n_jw (z := N) (by omega) (by omega), n_jw (z := i) (by omega) (by omega), if_neg (by omega), x_gr F.2.1.1 F.2.1.2.1, Option.bind_some, e0, Option.bind_some, x_ai F.2.2.1.1 h6 F.2.2.1.2.1 (by omega) (by rw [F.2.2.1.2.2.1]; omega) (by rw [F.2.2.1.2.2.1]; decide), Option.bind_some, ej, show jd_57 97 = 2 by decide, n_jw (z := d) (by omega) (by omega), show jw 2 = 2 by decide, if_neg (by omega), n_jw (z := d - 2) (by omega) (by omega), if_pos (by omega)]
    repeat rw [if_neg (by decide)]
    rw [if_pos (by decide), x_gr F.2.1.1 F.2.1.2.1, Option.bind_some, e2, Option.bind_some, x_ai F.2.2.2.1.1 h6 F.2.2.2.1.2.1 (by omega) (by rw [F.2.2.2.1.2.2.1]; omega) (by rw [F.2.2.2.1.2.2.1]; decide), Option.bind_some, Option.bind_some, Option.bind_some, x_ai F.2.2.2.1.1 h6 F.2.2.2.1.2.1 (by omega) (by rw [F.2.2.2.1.2.2.1]; omega) (by rw [F.2.2.2.1.2.2.1]; decide), Option.bind_some, Option.bind_some, x_ck A.2.1.1 A.2.1.2.1, Option.bind_some, s0, s1, n_jw (z := x) (by omega) (by omega), n_jw (z := y) (by omega) (by omega), c_103 A h6 P.j0 P.j1 P.sw P.sh P.q0.1 P.q0.2 (by omega) (by omega) (by omega) (by omega), Option.bind_some, c_b381 F (by omega) (by omega)]
  · rw [ea]
    have q1 : ∀ z n : Int, -9000000000 ≤ z → z ≤ 9000000000 → 4 ≤ n → n ≤ 24 → jd_205 z 0 (n - 1) = clz z n := by
      intro z n h1 h2 h3 h4
      rw [k_205 (by omega) (by omega) (by unfold okI; omega) (by unfold okI; omega)]
      unfold clz
      repeat' split
      all_goals omega
    unfold jd_345_s34
    have em : m 136 (400 * f + i) = 14 := P.mO
    rw [y_ma 135 8 rfl rfl P.f0.1 (by omega), Option.bind_some, P.mN, n_jw (z := 400 * f + N) (by omega) (by omega), n_jw (z := 400 * f + i) (by omega) (by omega), if_neg (by omega), y_ma 136 3200 rfl rfl (by omega) (by omega), Option.bind_some, em]
    rw [if_pos (by decide), if_neg (by decide), if_neg (by decide), show d + (-1) - 1 = d - 2 by omega, y_ma 140 420 rfl rfl (by omega) (by omega), Option.bind_some, show d + (-1) = d - 2 + 1 by omega, y_ma 140 420 rfl rfl (by omega) (by omega), Option.bind_some, if_pos (by decide), n_jw (z := x) (by omega) (by omega), n_jw (z := y) (by omega) (by omega), q1 _ (pw w q) (by omega) (by omega) (by omega) (by omega), q1 _ (pw h q) (by omega) (by omega) (by omega) (by omega), k_212 p0 hq P.m7 P.sw, Option.bind_some, Int.add_assoc, Int.add_assoc, y_ma 79 51840 rfl rfl (by omega) (by omega), Option.bind_some]
    unfold jd_345_b349 jd_345_b350
    rw [y_mw 140 420 rfl rfl (by omega) (by omega), Option.bind_some]
theorem st_9 (P : Fst s Q hm J m a b f o p q x y d i w h N 9 wo) : FstR s Q J m a b f p q x y t d i w h 9 := by
  have F := P.F
  have h6 := P.h6
  have A := P.A
  have i0 := P.i0
  have f0 := P.f0
  have dd := P.dd
  have p0 := P.p0
  have hq : okI q := by have := P.q0; unfold okI; omega
  have bw := pw_sd P.sw q
  have bh := pw_sd P.sh q
  have x0 := P.x0
  have y0 := P.y0
  have ps := pl_sz P.sw P.sh P.q0.1 P.q0.2
  have eN : J a ((1 : Nat) : Int) = N := P.jN
  have e0 : Q a ((0 : Nat) : Int) = some (a + 1) := F.2.2.2.2.1
  have e2 : Q a ((2 : Nat) : Int) = some (a + 2) := F.2.2.2.2.2
  have ea : ari 9 = 2 := rfl
  rw [ea] at dd
  obtain ⟨V, V', v1, v2, v3⟩ := op_add (P.S (d - 2) (by omega) (by omega)) (P.S (d - 2 + 1) (by omega) (by omega))
  refine ⟨V, V', v3, ?_, ?_⟩
  · rw [ea]
    unfold jd_56_s6
    have ej : J (a + 1) i = 43 := P.jC
    rw [x_gi F.2.1.1 F.2.1.2.1, Option.bind_some, eN, n_jw (z := N) (by omega) (by omega), n_jw (z := i) (by omega) (by omega), if_neg (by omega), x_gr F.2.1.1 F.2.1.2.1, Option.bind_some, e0, Option.bind_some, x_ai F.2.2.1.1 h6 F.2.2.1.2.1 (by omega) (by rw [F.2.2.1.2.2.1]; omega) (by rw [F.2.2.1.2.2.1]; decide), Option.bind_some, ej, show jd_57 43 = 2 by decide, n_jw (z := d) (by omega) (by omega), show jw 2 = 2 by decide, if_neg (by omega), n_jw (z := d - 2) (by omega) (by omega), if_pos (by omega)]
    repeat rw [if_neg (by decide)]
    unfold jd_56_b341 jd_56_b379
    rw [if_pos (by decide), x_gr F.2.1.1 F.2.1.2.1, Option.bind_some, e2, Option.bind_some, x_ai F.2.2.2.1.1 h6 F.2.2.2.1.2.1 (by omega) (by rw [F.2.2.2.1.2.2.1]; omega) (by rw [F.2.2.2.1.2.2.1]; decide), Option.bind_some, Option.bind_some, Option.bind_some, x_ai F.2.2.2.1.1 h6 F.2.2.2.1.2.1 (by omega) (by rw [F.2.2.2.1.2.2.1]; omega) (by rw [F.2.2.2.1.2.2.1]; decide), Option.bind_some, v1, Option.bind_some, c_b381 F (by omega) (by omega)]
  · rw [ea]
    unfold jd_345_s34
    have em : m 136 (400 * f + i) = 9 := P.mO
    rw [y_ma 135 8 rfl rfl P.f0.1 (by omega), Option.bind_some, P.mN, n_jw (z := 400 * f + N) (by omega) (by omega), n_jw (z := 400 * f + i) (by omega) (by omega), if_neg (by omega), y_ma 136 3200 rfl rfl (by omega) (by omega), Option.bind_some, em]
    rw [if_pos (by decide), if_neg (by decide), if_neg (by decide), show d + (-1) - 1 = d - 2 by omega, y_ma 140 420 rfl rfl (by omega) (by omega), Option.bind_some, show d + (-1) = d - 2 + 1 by omega, y_ma 140 420 rfl rfl (by omega) (by omega), Option.bind_some, if_neg (by decide), v2, Option.bind_some]
    unfold jd_345_b349 jd_345_b350
    rw [y_mw 140 420 rfl rfl (by omega) (by omega), Option.bind_some]
theorem st_10 (P : Fst s Q hm J m a b f o p q x y d i w h N 10 wo) : FstR s Q J m a b f p q x y t d i w h 10 := by
  have F := P.F
  have h6 := P.h6
  have A := P.A
  have i0 := P.i0
  have f0 := P.f0
  have dd := P.dd
  have p0 := P.p0
  have hq : okI q := by have := P.q0; unfold okI; omega
  have bw := pw_sd P.sw q
  have bh := pw_sd P.sh q
  have x0 := P.x0
  have y0 := P.y0
  have ps := pl_sz P.sw P.sh P.q0.1 P.q0.2
  have eN : J a ((1 : Nat) : Int) = N := P.jN
  have e0 : Q a ((0 : Nat) : Int) = some (a + 1) := F.2.2.2.2.1
  have e2 : Q a ((2 : Nat) : Int) = some (a + 2) := F.2.2.2.2.2
  have ea : ari 10 = 2 := rfl
  rw [ea] at dd
  obtain ⟨V, V', v1, v2, v3⟩ := op_sub (P.S (d - 2) (by omega) (by omega)) (P.S (d - 2 + 1) (by omega) (by omega))
  refine ⟨V, V', v3, ?_, ?_⟩
  · rw [ea]
    unfold jd_56_s6
    have ej : J (a + 1) i = 45 := P.jC
    rw [x_gi F.2.1.1 F.2.1.2.1, Option.bind_some, eN, n_jw (z := N) (by omega) (by omega), n_jw (z := i) (by omega) (by omega), if_neg (by omega), x_gr F.2.1.1 F.2.1.2.1, Option.bind_some, e0, Option.bind_some, x_ai F.2.2.1.1 h6 F.2.2.1.2.1 (by omega) (by rw [F.2.2.1.2.2.1]; omega) (by rw [F.2.2.1.2.2.1]; decide), Option.bind_some, ej, show jd_57 45 = 2 by decide, n_jw (z := d) (by omega) (by omega), show jw 2 = 2 by decide, if_neg (by omega), n_jw (z := d - 2) (by omega) (by omega), if_pos (by omega)]
    repeat rw [if_neg (by decide)]
    unfold jd_56_b341 jd_56_b379
    rw [if_pos (by decide), x_gr F.2.1.1 F.2.1.2.1, Option.bind_some, e2, Option.bind_some, x_ai F.2.2.2.1.1 h6 F.2.2.2.1.2.1 (by omega) (by rw [F.2.2.2.1.2.2.1]; omega) (by rw [F.2.2.2.1.2.2.1]; decide), Option.bind_some, Option.bind_some, Option.bind_some, x_ai F.2.2.2.1.1 h6 F.2.2.2.1.2.1 (by omega) (by rw [F.2.2.2.1.2.2.1]; omega) (by rw [F.2.2.2.1.2.2.1]; decide), Option.bind_some, v1, Option.bind_some, c_b381 F (by omega) (by omega)]
  · rw [ea]
    unfold jd_345_s34
    have em : m 136 (400 * f + i) = 10 := P.mO
    rw [y_ma 135 8 rfl rfl P.f0.1 (by omega), Option.bind_some, P.mN, n_jw (z := 400 * f + N) (by omega) (by omega), n_jw (z := 400 * f + i) (by omega) (by omega), if_neg (by omega), y_ma 136 3200 rfl rfl (by omega) (by omega), Option.bind_some, em]
    rw [if_pos (by decide), if_neg (by decide), if_neg (by decide), show d + (-1) - 1 = d - 2 by omega, y_ma 140 420 rfl rfl (by omega) (by omega), Option.bind_some, show d + (-1) = d - 2 + 1 by omega, y_ma 140 420 rfl rfl (by omega) (by omega), Option.bind_some, if_neg (by decide), v2, Option.bind_some]
    unfold jd_345_b349 jd_345_b350
    rw [y_mw 140 420 rfl rfl (by omega) (by omega), Option.bind_some]
theorem st_11 (P : Fst s Q hm J m a b f o p q x y d i w h N 11 wo) : FstR s Q J m a b f p q x y t d i w h 11 := by
  have F := P.F
  have h6 := P.h6
  have A := P.A
  have i0 := P.i0
  have f0 := P.f0
  have dd := P.dd
  have p0 := P.p0
  have hq : okI q := by have := P.q0; unfold okI; omega
  have bw := pw_sd P.sw q
  have bh := pw_sd P.sh q
  have x0 := P.x0
  have y0 := P.y0
  have ps := pl_sz P.sw P.sh P.q0.1 P.q0.2
  have eN : J a ((1 : Nat) : Int) = N := P.jN
  have e0 : Q a ((0 : Nat) : Int) = some (a + 1) := F.2.2.2.2.1
  have e2 : Q a ((2 : Nat) : Int) = some (a + 2) := F.2.2.2.2.2
  have ea : ari 11 = 2 := rfl
  rw [ea] at dd
  obtain ⟨V, V', v1, v2, v3⟩ := op_mul (P.S (d - 2) (by omega) (by omega)) (P.S (d - 2 + 1) (by omega) (by omega))
  refine ⟨V, V', v3, ?_, ?_⟩
  · rw [ea]
    unfold jd_56_s6
    have ej : J (a + 1) i = 42 := P.jC
    rw [x_gi F.2.1.1 F.2.1.2.1, Option.bind_some, eN, n_jw (z := N) (by omega) (by omega), n_jw (z := i) (by omega) (by omega), if_neg (by omega), x_gr F.2.1.1 F.2.1.2.1, Option.bind_some, e0, Option.bind_some, x_ai F.2.2.1.1 h6 F.2.2.1.2.1 (by omega) (by rw [F.2.2.1.2.2.1]; omega) (by rw [F.2.2.1.2.2.1]; decide), Option.bind_some, ej, show jd_57 42 = 2 by decide, n_jw (z := d) (by omega) (by omega), show jw 2 = 2 by decide, if_neg (by omega), n_jw (z := d - 2) (by omega) (by omega), if_pos (by omega)]
    repeat rw [if_neg (by decide)]
    unfold jd_56_b341 jd_56_b379
    rw [if_pos (by decide), x_gr F.2.1.1 F.2.1.2.1, Option.bind_some, e2, Option.bind_some, x_ai F.2.2.2.1.1 h6 F.2.2.2.1.2.1 (by omega) (by rw [F.2.2.2.1.2.2.1]; omega) (by rw [F.2.2.2.1.2.2.1]; decide), Option.bind_some, Option.bind_some, Option.bind_some, x_ai F.2.2.2.1.1 h6 F.2.2.2.1.2.1 (by omega) (by rw [F.2.2.2.1.2.2.1]; omega) (by rw [F.2.2.2.1.2.2.1]; decide), Option.bind_some, v1, Option.bind_some, c_b381 F (by omega) (by omega)]
  · rw [ea]
    unfold jd_345_s34
    have em : m 136 (400 * f + i) = 11 := P.mO
    rw [y_ma 135 8 rfl rfl P.f0.1 (by omega), Option.bind_some, P.mN, n_jw (z := 400 * f + N) (by omega) (by omega), n_jw (z := 400 * f + i) (by omega) (by omega), if_neg (by omega), y_ma 136 3200 rfl rfl (by omega) (by omega), Option.bind_some, em]
    rw [if_pos (by decide), if_neg (by decide), if_neg (by decide), show d + (-1) - 1 = d - 2 by omega, y_ma 140 420 rfl rfl (by omega) (by omega), Option.bind_some, show d + (-1) = d - 2 + 1 by omega, y_ma 140 420 rfl rfl (by omega) (by omega), Option.bind_some, if_neg (by decide), v2, Option.bind_some]
    unfold jd_345_b349 jd_345_b350
    rw [y_mw 140 420 rfl rfl (by omega) (by omega), Option.bind_some]
theorem st_12 (P : Fst s Q hm J m a b f o p q x y d i w h N 12 wo) : FstR s Q J m a b f p q x y t d i w h 12 := by
  have F := P.F
  have h6 := P.h6
  have A := P.A
  have i0 := P.i0
  have f0 := P.f0
  have dd := P.dd
  have p0 := P.p0
  have hq : okI q := by have := P.q0; unfold okI; omega
  have bw := pw_sd P.sw q
  have bh := pw_sd P.sh q
  have x0 := P.x0
  have y0 := P.y0
  have ps := pl_sz P.sw P.sh P.q0.1 P.q0.2
  have eN : J a ((1 : Nat) : Int) = N := P.jN
  have e0 : Q a ((0 : Nat) : Int) = some (a + 1) := F.2.2.2.2.1
  have e2 : Q a ((2 : Nat) : Int) = some (a + 2) := F.2.2.2.2.2
  have ea : ari 12 = 2 := rfl
  rw [ea] at dd
  obtain ⟨V, V', v1, v2, v3⟩ := op_div (P.S (d - 2) (by omega) (by omega)) (P.S (d - 2 + 1) (by omega) (by omega))
  refine ⟨V, V', v3, ?_, ?_⟩
  · rw [ea]
    unfold jd_56_s6
    have ej : J (a + 1) i = 47 := P.jC
    rw [x_gi F.2.1.1 F.2.1.2.1, Option.bind_some, eN, n_jw (z := N) (by omega) (by omega), n_jw (z := i) (by omega) (by omega), if_neg (by omega), x_gr F.2.1.1 F.2.1.2.1, Option.bind_some, e0, Option.bind_some, x_ai F.2.2.1.1 h6 F.2.2.1.2.1 (by omega) (by rw [F.2.2.1.2.2.1]; omega) (by rw [F.2.2.1.2.2.1]; decide), Option.bind_some, ej, show jd_57 47 = 2 by decide, n_jw (z := d) (by omega) (by omega), show jw 2 = 2 by decide, if_neg (by omega), n_jw (z := d - 2) (by omega) (by omega), if_pos (by omega)]
    repeat rw [if_neg (by decide)]
    unfold jd_56_b341 jd_56_b379
    rw [if_pos (by decide), x_gr F.2.1.1 F.2.1.2.1, Option.bind_some, e2, Option.bind_some, x_ai F.2.2.2.1.1 h6 F.2.2.2.1.2.1 (by omega) (by rw [F.2.2.2.1.2.2.1]; omega) (by rw [F.2.2.2.1.2.2.1]; decide), Option.bind_some, Option.bind_some, Option.bind_some, x_ai F.2.2.2.1.1 h6 F.2.2.2.1.2.1 (by omega) (by rw [F.2.2.2.1.2.2.1]; omega) (by rw [F.2.2.2.1.2.2.1]; decide), Option.bind_some, v1, Option.bind_some, c_b381 F (by omega) (by omega)]
  · rw [ea]
    unfold jd_345_s34
    have em : m 136 (400 * f + i) = 12 := P.mO
    rw [y_ma 135 8 rfl rfl P.f0.1 (by omega), Option.bind_some, P.mN, n_jw (z := 400 * f + N) (by omega) (by omega), n_jw (z := 400 * f + i) (by omega) (by omega), if_neg (by omega), y_ma 136 3200 rfl rfl (by omega) (by omega), Option.bind_some, em]
    rw [if_pos (by decide), if_neg (by decide), if_neg (by decide), show d + (-1) - 1 = d - 2 by omega, y_ma 140 420 rfl rfl (by omega) (by omega), Option.bind_some, show d + (-1) = d - 2 + 1 by omega, y_ma 140 420 rfl rfl (by omega) (by omega), Option.bind_some, if_neg (by decide), v2, Option.bind_some]
    unfold jd_345_b349 jd_345_b350
    rw [y_mw 140 420 rfl rfl (by omega) (by omega), Option.bind_some]
theorem st_13 (P : Fst s Q hm J m a b f o p q x y d i w h N 13 wo) : FstR s Q J m a b f p q x y t d i w h 13 := by
  have F := P.F
  have h6 := P.h6
  have A := P.A
  have i0 := P.i0
  have f0 := P.f0
  have dd := P.dd
  have p0 := P.p0
  have hq : okI q := by have := P.q0; unfold okI; omega
  have bw := pw_sd P.sw q
  have bh := pw_sd P.sh q
  have x0 := P.x0
  have y0 := P.y0
  have ps := pl_sz P.sw P.sh P.q0.1 P.q0.2
  have eN : J a ((1 : Nat) : Int) = N := P.jN
  have e0 : Q a ((0 : Nat) : Int) = some (a + 1) := F.2.2.2.2.1
  have e2 : Q a ((2 : Nat) : Int) = some (a + 2) := F.2.2.2.2.2
  have ea : ari 13 = 2 := rfl
  rw [ea] at dd
  obtain ⟨V, V', v1, v2, v3⟩ := op_rem (P.S (d - 2) (by omega) (by omega)) (P.S (d - 2 + 1) (by omega) (by omega))
  refine ⟨V, V', v3, ?_, ?_⟩
  · rw [ea]
    unfold jd_56_s6
    have ej : J (a + 1) i = 37 := P.jC
    rw [x_gi F.2.1.1 F.2.1.2.1, Option.bind_some, eN, n_jw (z := N) (by omega) (by omega), n_jw (z := i) (by omega) (by omega), if_neg (by omega), x_gr F.2.1.1 F.2.1.2.1, Option.bind_some, e0, Option.bind_some, x_ai F.2.2.1.1 h6 F.2.2.1.2.1 (by omega) (by rw [F.2.2.1.2.2.1]; omega) (by rw [F.2.2.1.2.2.1]; decide), Option.bind_some, ej, show jd_57 37 = 2 by decide, n_jw (z := d) (by omega) (by omega), show jw 2 = 2 by decide, if_neg (by omega), n_jw (z := d - 2) (by omega) (by omega), if_pos (by omega)]
    repeat rw [if_neg (by decide)]
    unfold jd_56_b341 jd_56_b379
    rw [if_pos (by decide), x_gr F.2.1.1 F.2.1.2.1, Option.bind_some, e2, Option.bind_some, x_ai F.2.2.2.1.1 h6 F.2.2.2.1.2.1 (by omega) (by rw [F.2.2.2.1.2.2.1]; omega) (by rw [F.2.2.2.1.2.2.1]; decide), Option.bind_some, Option.bind_some, Option.bind_some, x_ai F.2.2.2.1.1 h6 F.2.2.2.1.2.1 (by omega) (by rw [F.2.2.2.1.2.2.1]; omega) (by rw [F.2.2.2.1.2.2.1]; decide), Option.bind_some, v1, Option.bind_some, c_b381 F (by omega) (by omega)]
  · rw [ea]
    unfold jd_345_s34
    have em : m 136 (400 * f + i) = 13 := P.mO
    rw [y_ma 135 8 rfl rfl P.f0.1 (by omega), Option.bind_some, P.mN, n_jw (z := 400 * f + N) (by omega) (by omega), n_jw (z := 400 * f + i) (by omega) (by omega), if_neg (by omega), y_ma 136 3200 rfl rfl (by omega) (by omega), Option.bind_some, em]
    rw [if_pos (by decide), if_neg (by decide), if_neg (by decide), show d + (-1) - 1 = d - 2 by omega, y_ma 140 420 rfl rfl (by omega) (by omega), Option.bind_some, show d + (-1) = d - 2 + 1 by omega, y_ma 140 420 rfl rfl (by omega) (by omega), Option.bind_some, if_neg (by decide), v2, Option.bind_some]
    unfold jd_345_b349 jd_345_b350
    rw [y_mw 140 420 rfl rfl (by omega) (by omega), Option.bind_some]
theorem st_15 (P : Fst s Q hm J m a b f o p q x y d i w h N 15 wo) : FstR s Q J m a b f p q x y t d i w h 15 := by
  have F := P.F
  have h6 := P.h6
  have A := P.A
  have i0 := P.i0
  have f0 := P.f0
  have dd := P.dd
  have p0 := P.p0
  have hq : okI q := by have := P.q0; unfold okI; omega
  have bw := pw_sd P.sw q
  have bh := pw_sd P.sh q
  have x0 := P.x0
  have y0 := P.y0
  have ps := pl_sz P.sw P.sh P.q0.1 P.q0.2
  have eN : J a ((1 : Nat) : Int) = N := P.jN
  have e0 : Q a ((0 : Nat) : Int) = some (a + 1) := F.2.2.2.2.1
  have e2 : Q a ((2 : Nat) : Int) = some (a + 2) := F.2.2.2.2.2
  have ea : ari 15 = 2 := rfl
  rw [ea] at dd
  obtain ⟨V, V', v1, v2, v3⟩ := op_min (P.S (d - 2) (by omega) (by omega)) (P.S (d - 2 + 1) (by omega) (by omega))
  refine ⟨V, V', v3, ?_, ?_⟩
  · rw [ea]
    unfold jd_56_s6
    have ej : J (a + 1) i = 109 := P.jC
    rw [x_gi F.2.1.1 F.2.1.2.1, Option.bind_some, eN, n_jw (z := N) (by omega) (by omega), n_jw (z := i) (by omega) (by omega), if_neg (by omega), x_gr F.2.1.1 F.2.1.2.1, Option.bind_some, e0, Option.bind_some, x_ai F.2.2.1.1 h6 F.2.2.1.2.1 (by omega) (by rw [F.2.2.1.2.2.1]; omega) (by rw [F.2.2.1.2.2.1]; decide), Option.bind_some, ej, show jd_57 109 = 2 by decide, n_jw (z := d) (by omega) (by omega), show jw 2 = 2 by decide, if_neg (by omega), n_jw (z := d - 2) (by omega) (by omega), if_pos (by omega)]
    repeat rw [if_neg (by decide)]
    rw [if_pos (by decide)]
    unfold jd_56_b341 jd_56_b379
    rw [if_pos (by decide), x_gr F.2.1.1 F.2.1.2.1, Option.bind_some, e2, Option.bind_some, x_ai F.2.2.2.1.1 h6 F.2.2.2.1.2.1 (by omega) (by rw [F.2.2.2.1.2.2.1]; omega) (by rw [F.2.2.2.1.2.2.1]; decide), Option.bind_some, Option.bind_some, Option.bind_some, x_ai F.2.2.2.1.1 h6 F.2.2.2.1.2.1 (by omega) (by rw [F.2.2.2.1.2.2.1]; omega) (by rw [F.2.2.2.1.2.2.1]; decide), Option.bind_some, v1, Option.bind_some, c_b381 F (by omega) (by omega)]
  · rw [ea]
    unfold jd_345_s34
    have em : m 136 (400 * f + i) = 15 := P.mO
    rw [y_ma 135 8 rfl rfl P.f0.1 (by omega), Option.bind_some, P.mN, n_jw (z := 400 * f + N) (by omega) (by omega), n_jw (z := 400 * f + i) (by omega) (by omega), if_neg (by omega), y_ma 136 3200 rfl rfl (by omega) (by omega), Option.bind_some, em]
    rw [if_pos (by decide), if_neg (by decide), if_neg (by decide), show d + (-1) - 1 = d - 2 by omega, y_ma 140 420 rfl rfl (by omega) (by omega), Option.bind_some, show d + (-1) = d - 2 + 1 by omega, y_ma 140 420 rfl rfl (by omega) (by omega), Option.bind_some, if_neg (by decide), v2, Option.bind_some]
    unfold jd_345_b349 jd_345_b350
    rw [y_mw 140 420 rfl rfl (by omega) (by omega), Option.bind_some]
theorem st_16 (P : Fst s Q hm J m a b f o p q x y d i w h N 16 wo) : FstR s Q J m a b f p q x y t d i w h 16 := by
  have F := P.F
  have h6 := P.h6
  have A := P.A
  have i0 := P.i0
  have f0 := P.f0
  have dd := P.dd
  have p0 := P.p0
  have hq : okI q := by have := P.q0; unfold okI; omega
  have bw := pw_sd P.sw q
  have bh := pw_sd P.sh q
  have x0 := P.x0
  have y0 := P.y0
  have ps := pl_sz P.sw P.sh P.q0.1 P.q0.2
  have eN : J a ((1 : Nat) : Int) = N := P.jN
  have e0 : Q a ((0 : Nat) : Int) = some (a + 1) := F.2.2.2.2.1
  have e2 : Q a ((2 : Nat) : Int) = some (a + 2) := F.2.2.2.2.2
  have ea : ari 16 = 2 := rfl
  rw [ea] at dd
  obtain ⟨V, V', v1, v2, v3⟩ := op_max (P.S (d - 2) (by omega) (by omega)) (P.S (d - 2 + 1) (by omega) (by omega))
  refine ⟨V, V', v3, ?_, ?_⟩
  · rw [ea]
    unfold jd_56_s6
    have ej : J (a + 1) i = 77 := P.jC
    rw [x_gi F.2.1.1 F.2.1.2.1, Option.bind_some, eN, n_jw (z := N) (by omega) (by omega), n_jw (z := i) (by omega) (by omega), if_neg (by omega), x_gr F.2.1.1 F.2.1.2.1, Option.bind_some, e0, Option.bind_some, x_ai F.2.2.1.1 h6 F.2.2.1.2.1 (by omega) (by rw [F.2.2.1.2.2.1]; omega) (by rw [F.2.2.1.2.2.1]; decide), Option.bind_some, ej, show jd_57 77 = 2 by decide, n_jw (z := d) (by omega) (by omega), show jw 2 = 2 by decide, if_neg (by omega), n_jw (z := d - 2) (by omega) (by omega), if_pos (by omega)]
    repeat rw [if_neg (by decide)]
    unfold jd_56_b341 jd_56_b379
    rw [if_pos (by decide), x_gr F.2.1.1 F.2.1.2.1, Option.bind_some, e2, Option.bind_some, x_ai F.2.2.2.1.1 h6 F.2.2.2.1.2.1 (by omega) (by rw [F.2.2.2.1.2.2.1]; omega) (by rw [F.2.2.2.1.2.2.1]; decide), Option.bind_some, Option.bind_some, Option.bind_some, x_ai F.2.2.2.1.1 h6 F.2.2.2.1.2.1 (by omega) (by rw [F.2.2.2.1.2.2.1]; omega) (by rw [F.2.2.2.1.2.2.1]; decide), Option.bind_some, v1, Option.bind_some, c_b381 F (by omega) (by omega)]
  · rw [ea]
    unfold jd_345_s34
    have em : m 136 (400 * f + i) = 16 := P.mO
    rw [y_ma 135 8 rfl rfl P.f0.1 (by omega), Option.bind_some, P.mN, n_jw (z := 400 * f + N) (by omega) (by omega), n_jw (z := 400 * f + i) (by omega) (by omega), if_neg (by omega), y_ma 136 3200 rfl rfl (by omega) (by omega), Option.bind_some, em]
    rw [if_pos (by decide), if_neg (by decide), if_neg (by decide), show d + (-1) - 1 = d - 2 by omega, y_ma 140 420 rfl rfl (by omega) (by omega), Option.bind_some, show d + (-1) = d - 2 + 1 by omega, y_ma 140 420 rfl rfl (by omega) (by omega), Option.bind_some, if_neg (by decide), v2, Option.bind_some]
    unfold jd_345_b349 jd_345_b350
    rw [y_mw 140 420 rfl rfl (by omega) (by omega), Option.bind_some]
theorem st_all {op : Int} (P : Fst s Q hm J m a b f o p q x y d i w h N op wo) (o0 : 0 ≤ op) (o1 : op ≤ 17) (hw : op = 0 → 0 ≤ wo ∧ wo ≤ 99999) : FstR s Q J m a b f p q x y t d i w h op := by
  have c : op = 0 ∨ op = 1 ∨ op = 2 ∨ op = 3 ∨ op = 4 ∨ op = 5 ∨ op = 6 ∨ op = 7 ∨ op = 8 ∨ op = 9 ∨ op = 10 ∨ op = 11 ∨ op = 12 ∨ op = 13 ∨ op = 14 ∨ op = 15 ∨ op = 16 ∨ op = 17 := by omega
  rcases c with rfl | rfl | rfl | rfl | rfl | rfl | rfl | rfl | rfl | rfl | rfl | rfl | rfl | rfl | rfl | rfl | rfl | rfl
  · exact st_0 P (hw rfl).1 (hw rfl).2
  · exact st_1 P
  · exact st_2 P
  · exact st_3 P
  · exact st_4 P
  · exact st_5 P
  · exact st_6 P
  · exact st_7 P
  · exact st_8 P
  · exact st_9 P
  · exact st_10 P
  · exact st_11 P
  · exact st_12 P
  · exact st_13 P
  · exact st_14 P
  · exact st_15 P
  · exact st_16 P
  · exact st_17 P
end FltStep
