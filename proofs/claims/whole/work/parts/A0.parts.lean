/-! the parts' cells; the turn of a square -/
section Parts
variable {s : hS} {Q R : hQ} {hm : hO} {I m : jM} {T a k' : Nat} {z v : Int}
def pTag : Nat → Nat := fun j => match j with
  | 5 => 4
  | 6 => 4
  | 7 => 16
  | 8 => 16
  | 9 => 16
  | _ => 96
/-- a Parts object at T, its rows behind it -/
def PtC (s : hS) (Q : hQ) (T : Nat) : Prop := T < s.1 ∧ s.2.2.1 T = 13 ∧ (∀ j : Nat, 1 ≤ j → j < 10 → T + j < s.1 ∧ s.2.2.1 (T + j) = 0 ∧ s.2.2.2 (T + j) = pTag j) ∧ (∀ j : Nat, 1 ≤ j → j < 10 → Q T ((j + 6 : Nat) : Int) = some (T + j)) ∧ T + 10 ≤ 76
theorem PtC_11 (L : Lay s Q hm) : PtC s Q 11 := by
  refine ⟨Lt L rfl, Lg L rfl rfl, fun j h1 h2 => ?_, fun j h1 h2 => ?_, by decide⟩
  · have e : sk (11 + j) = (0, pTag j) := by
      have : ∀ j : Fin 10, 1 ≤ j.val → sk (11 + j.val) = (0, pTag j.val) := by decide
      exact this ⟨j, h2⟩ h1
    have l := L.2.1 (11 + j) (by omega)
    rw [e] at l
    exact ⟨l.1, l.2.1, l.2.2.1⟩
  · have e : sq 11 (j + 6) = some (11 + j) := by
      have : ∀ j : Fin 10, 1 ≤ j.val → sq 11 (j.val + 6) = some (11 + j.val) := by decide
      exact this ⟨j, h2⟩ h1
    exact L.2.2.2 11 (j + 6) _ e
theorem PtC_45 (L : Lay s Q hm) : PtC s Q 45 := by
  refine ⟨Lt L rfl, Lg L rfl rfl, fun j h1 h2 => ?_, fun j h1 h2 => ?_, by decide⟩
  · have e : sk (45 + j) = (0, pTag j) := by
      have : ∀ j : Fin 10, 1 ≤ j.val → sk (45 + j.val) = (0, pTag j.val) := by decide
      exact this ⟨j, h2⟩ h1
    have l := L.2.1 (45 + j) (by omega)
    rw [e] at l
    exact ⟨l.1, l.2.1, l.2.2.1⟩
  · have e : sq 45 (j + 6) = some (45 + j) := by
      have : ∀ j : Fin 10, 1 ≤ j.val → sq 45 (j.val + 6) = some (45 + j.val) := by decide
      exact this ⟨j, h2⟩ h1
    exact L.2.2.2 45 (j + 6) _ e
theorem T_gi (F : PtC s Q T) : jgi (hh s R I) T 5 k' = some (I T (k' : Int)) := x_gi F.1 F.2.1
theorem T_gr (F : PtC s Q T) : jgr (hh s R I) T 5 k' = some (R T (k' : Int)) := x_gr F.1 F.2.1
theorem T_ck (F : PtC s Q T) : jck (hh s R I) T 5 = some () := x_ck F.1 F.2.1
theorem T_pi (F : PtC s Q T) : jpi (hh s R I) T 5 k' v = some (hh s R (jms I T (k' : Int) v)) := x_pi F.1 F.2.1
theorem T_q (F : PtC s Q T) (j k : Nat) (h1 : Nat.ble 1 j = true) (h2 : Nat.blt j 10 = true) (hk : k = j + 6) : Q T ((k : Nat) : Int) = some (T + j) := by rw [hk]; exact F.2.2.2.1 j (Nat.le_of_ble_eq_true h1) (Nat.le_of_ble_eq_true h2)
theorem T_ai (F : PtC s Q T) (h6 : s.1 ≤ 1000000) (j n : Nat) (h1 : Nat.ble 1 j = true) (h2 : Nat.blt j 10 = true) (e : pTag j = n) (hn : Nat.ble n 1000000 = true) (z0 : 0 ≤ z) (z1 : z < (n : Int)) : jai (hh s R I) (T + j) z = some (I (T + j) z) := by
  have g := F.2.2.1 j (Nat.le_of_ble_eq_true h1) (Nat.le_of_ble_eq_true h2)
  rw [e] at g
  exact x_ai g.1 h6 g.2.1 z0 (by rw [g.2.2]; exact z1) (by rw [g.2.2]; exact Nat.le_of_ble_eq_true hn)
theorem T_ta (F : PtC s Q T) (j n : Nat) (h1 : Nat.ble 1 j = true) (h2 : Nat.blt j 10 = true) (e : pTag j = n) (hn : Nat.ble n 1000000 = true) (z0 : 0 ≤ z) (z1 : z < (n : Int)) : jta (hh s R I) (T + j) 0 z v = some (hh s R (jms I (T + j) z v)) := by
  have g := F.2.2.1 j (Nat.le_of_ble_eq_true h1) (Nat.le_of_ble_eq_true h2)
  rw [e] at g
  exact x_ta g.1 g.2.1 z0 (by rw [g.2.2]; exact z1) (by rw [g.2.2]; exact Nat.le_of_ble_eq_true hn)
/-- four turned -/
def f4 (r a b c d : Int) : Int := if r = 0 then a + b + c + d else if r = 1 then a + b - c - d else if r = 2 then a - b - c + d else a - b + c - d
def r4 (b t : Int) (G : Int → Int) : Int → Int := jiu (jiu (jiu (jiu G b (f4 0 (G b) (G (b + t)) (G (b + 2 * t)) (G (b + 3 * t)))) (b + t) (f4 1 (G b) (G (b + t)) (G (b + 2 * t)) (G (b + 3 * t)))) (b + 2 * t) (f4 2 (G b) (G (b + t)) (G (b + 2 * t)) (G (b + 3 * t)))) (b + 3 * t) (f4 3 (G b) (G (b + t)) (G (b + 2 * t)) (G (b + 3 * t)))
/-- rows, then columns -/
def hdR (G : Int → Int) : Int → Int := r4 12 1 (r4 8 1 (r4 4 1 (r4 0 1 G)))
def hdC (G : Int → Int) : Int → Int := r4 3 4 (r4 2 4 (r4 1 4 (r4 0 4 G)))
/-- the turned square, at row r, column c -/
def hd (G : Int → Int) (r c : Int) : Int := f4 r (f4 c (G 0) (G 1) (G 2) (G 3)) (f4 c (G 4) (G 5) (G 6) (G 7)) (f4 c (G 8) (G 9) (G 10) (G 11)) (f4 c (G 12) (G 13) (G 14) (G 15))
theorem hdR_v (G : Int → Int) {r c : Int} (r0 : 0 ≤ r) (r1 : r < 4) (c0 : 0 ≤ c) (c1 : c < 4) : hdR G (4 * r + c) = f4 c (G (4 * r)) (G (4 * r + 1)) (G (4 * r + 2)) (G (4 * r + 3)) := by
  have hr : r = 0 ∨ r = 1 ∨ r = 2 ∨ r = 3 := by omega
  have hc : c = 0 ∨ c = 1 ∨ c = 2 ∨ c = 3 := by omega
  rcases hr with rfl | rfl | rfl | rfl <;> rcases hc with rfl | rfl | rfl | rfl <;> simp [hdR, r4, jiu]
theorem hdC_v (G : Int → Int) {r c : Int} (r0 : 0 ≤ r) (r1 : r < 4) (c0 : 0 ≤ c) (c1 : c < 4) : hdC G (4 * r + c) = f4 r (G c) (G (4 + c)) (G (8 + c)) (G (12 + c)) := by
  have hr : r = 0 ∨ r = 1 ∨ r = 2 ∨ r = 3 := by omega
  have hc : c = 0 ∨ c = 1 ∨ c = 2 ∨ c = 3 := by omega
  rcases hr with rfl | rfl | rfl | rfl <;> rcases hc with rfl | rfl | rfl | rfl <;> simp [hdC, r4, jiu]
theorem hd_v (G : Int → Int) {r c : Int} (r0 : 0 ≤ r) (r1 : r < 4) (c0 : 0 ≤ c) (c1 : c < 4) : hdC (hdR G) (4 * r + c) = hd G r c := by
  have e := fun r' (a : 0 ≤ r') (b : r' < 4) => hdR_v G (r := r') (c := c) a b c0 c1
  rw [hdC_v _ r0 r1 c0 c1]
  unfold hd
  have e0 := e 0 (by decide) (by decide)
  have e1 := e 1 (by decide) (by decide)
  have e2 := e 2 (by decide) (by decide)
  have e3 := e 3 (by decide) (by decide)
  rw [show 4 * (0 : Int) + c = c by omega] at e0
  rw [show 4 * (1 : Int) + c = 4 + c by omega] at e1
  rw [show 4 * (2 : Int) + c = 8 + c by omega] at e2
  rw [show 4 * (3 : Int) + c = 12 + c by omega] at e3
  rw [e0, e1, e2, e3]
  rfl
theorem c_88 (h6 : s.1 ≤ 1000000) (ha : a < s.1) (ht : s.2.2.1 a = 0) (hl : s.2.2.2 a = 16) {b t : Int} (b0 : 0 ≤ b) (t0 : 0 ≤ t) (hb : b + 3 * t < 16) {G : Int → Int} : jd_88 (some a) b t (hh s Q (ims I a G)) = some (hh s Q (ims I a (r4 b t G))) := by
  have hl' : s.2.2.2 a ≤ 1000000 := by rw [hl]; decide
  have rd : ∀ (J : jM) (z : Int), 0 ≤ z → z < 16 → jai (hh s Q J) a z = some (J a z) := fun J z z0 z1 => x_ai ha h6 ht z0 (by rw [hl]; exact z1) hl'
  have wr : ∀ (J : jM) (z x : Int), 0 ≤ z → z < 16 → jta (hh s Q J) a 0 z x = some (hh s Q (jms J a z x)) := fun J z x z0 z1 => x_ta ha ht z0 (by rw [hl]; exact z1) hl'
  unfold jd_88
  rw [Option.bind_some, rd _ _ (by omega) (by omega), Option.bind_some, Option.bind_some, rd _ _ (by omega) (by omega), Option.bind_some, Option.bind_some, rd _ _ (by omega) (by omega), Option.bind_some, Option.bind_some, rd _ _ (by omega) (by omega), Option.bind_some, Option.bind_some, wr _ _ _ (by omega) (by omega), Option.bind_some, Option.bind_some, wr _ _ _ (by omega) (by omega), Option.bind_some, Option.bind_some, wr _ _ _ (by omega) (by omega), Option.bind_some, Option.bind_some, wr _ _ _ (by omega) (by omega), Option.bind_some, ims_e, ims_jms, ims_jms, ims_jms, ims_jms]
  rfl
theorem c_87 (h6 : s.1 ≤ 1000000) (ha : a < s.1) (ht : s.2.2.1 a = 0) (hl : s.2.2.2 a = 16) {G : Int → Int} : jd_87 (some a) (hh s Q (ims I a G)) = some (hh s Q (ims I a (hdC (hdR G)))) := by
  have st := fun (b t : Int) (G : Int → Int) b0 t0 hb => c_88 (Q := Q) (I := I) h6 ha ht hl (b := b) (t := t) b0 t0 hb (G := G)
  have l1 : jd_87_l2 (some a) 0 (hh s Q (ims I a G)) = some (hh s Q (ims I a (hdR G))) := by
    unfold jd_87_l2
    rw [show jfu = 99999995 + 1 + 1 + 1 + 1 + 1 from rfl]
    rw [jlp_i (f := fun u : (Int × jH) => jd_87_s2 (some a) u.1 u.2) (v := (4, hh s Q (ims I a (r4 0 1 G)))) (by
      unfold jd_87_s2
      dsimp only
      rw [if_neg (by decide), st _ _ _ (by decide) (by decide) (by decide), Option.bind_some]
      rfl), jlp_i (f := fun u : (Int × jH) => jd_87_s2 (some a) u.1 u.2) (v := (8, hh s Q (ims I a (r4 4 1 (r4 0 1 G))))) (by
      unfold jd_87_s2
      dsimp only
      rw [if_neg (by decide), st _ _ _ (by decide) (by decide) (by decide), Option.bind_some]
      rfl), jlp_i (f := fun u : (Int × jH) => jd_87_s2 (some a) u.1 u.2) (v := (12, hh s Q (ims I a (r4 8 1 (r4 4 1 (r4 0 1 G)))))) (by
      unfold jd_87_s2
      dsimp only
      rw [if_neg (by decide), st _ _ _ (by decide) (by decide) (by decide), Option.bind_some]
      rfl), jlp_i (f := fun u : (Int × jH) => jd_87_s2 (some a) u.1 u.2) (v := (16, hh s Q (ims I a (hdR G)))) (by
      unfold jd_87_s2
      dsimp only
      rw [if_neg (by decide), st _ _ _ (by decide) (by decide) (by decide), Option.bind_some]
      rfl)]
    refine jlp_r ?_
    unfold jd_87_s2
    dsimp only
    rw [if_pos (by decide)]
  have l2 : jd_87_l22 (some a) 0 (hh s Q (ims I a (hdR G))) = some (hh s Q (ims I a (hdC (hdR G)))) := by
    generalize hdR G = G
    unfold jd_87_l22
    rw [show jfu = 99999995 + 1 + 1 + 1 + 1 + 1 from rfl]
    rw [jlp_i (f := fun u : (Int × jH) => jd_87_s22 (some a) u.1 u.2) (v := (1, hh s Q (ims I a (r4 0 4 G)))) (by
      unfold jd_87_s22
      dsimp only
      rw [if_neg (by decide), st _ _ _ (by decide) (by decide) (by decide), Option.bind_some]
      rfl), jlp_i (f := fun u : (Int × jH) => jd_87_s22 (some a) u.1 u.2) (v := (2, hh s Q (ims I a (r4 1 4 (r4 0 4 G))))) (by
      unfold jd_87_s22
      dsimp only
      rw [if_neg (by decide), st _ _ _ (by decide) (by decide) (by decide), Option.bind_some]
      rfl), jlp_i (f := fun u : (Int × jH) => jd_87_s22 (some a) u.1 u.2) (v := (3, hh s Q (ims I a (r4 2 4 (r4 1 4 (r4 0 4 G)))))) (by
      unfold jd_87_s22
      dsimp only
      rw [if_neg (by decide), st _ _ _ (by decide) (by decide) (by decide), Option.bind_some]
      rfl), jlp_i (f := fun u : (Int × jH) => jd_87_s22 (some a) u.1 u.2) (v := (4, hh s Q (ims I a (hdC G)))) (by
      unfold jd_87_s22
      dsimp only
      rw [if_neg (by decide), st _ _ _ (by decide) (by decide) (by decide), Option.bind_some]
      rfl)]
    refine jlp_r ?_
    unfold jd_87_s22
    dsimp only
    rw [if_pos (by decide)]
  unfold jd_87
  rw [l1, Option.bind_some, l2, Option.bind_some]
end Parts
