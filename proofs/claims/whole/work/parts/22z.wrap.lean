/-! the operations at cells that are always there -/
section Wrap
variable {s : hS} {Q R : hQ} {hm : hO} {I m : jM} {k : Nat} {z v : Int}
theorem y_gi (L : Lay s Q hm) (a c : Nat) (ha : Nat.blt a 76 = true) (e : (sk a).1 = c + 8) : jgi (hh s R I) a c k = some (I a (k : Int)) := x_gi (Lt L ha) (Lg L ha e)
theorem y_gb (L : Lay s Q hm) (a c : Nat) (ha : Nat.blt a 76 = true) (e : (sk a).1 = c + 8) : jgb (hh s R I) a c k = some (I a (k : Int) % 2) := x_gb (Lt L ha) (Lg L ha e)
theorem y_gr (L : Lay s Q hm) (a c : Nat) (ha : Nat.blt a 76 = true) (e : (sk a).1 = c + 8) : jgr (hh s R I) a c k = some (R a (k : Int)) := x_gr (Lt L ha) (Lg L ha e)
theorem y_ck (L : Lay s Q hm) (a c : Nat) (ha : Nat.blt a 76 = true) (e : (sk a).1 = c + 8) : jck (hh s R I) a c = some () := x_ck (Lt L ha) (Lg L ha e)
theorem y_pi (L : Lay s Q hm) (a c : Nat) (ha : Nat.blt a 76 = true) (e : (sk a).1 = c + 8) : jpi (hh s R I) a c k v = some (hh s R (jms I a (k : Int) v)) := x_pi (Lt L ha) (Lg L ha e)
theorem y_pr {q : Option Nat} (L : Lay s Q hm) (a c : Nat) (ha : Nat.blt a 76 = true) (e : (sk a).1 = c + 8) : jpr (hh s R I) a c k q = some (hh s (rms R a (k : Int) q) I) := x_pr (Lt L ha) (Lg L ha e)
theorem y_ai (L : Lay s Q hm) (h6 : s.1 ≤ 1000000) (a n : Nat) (ha : Nat.blt a 76 = true) (e : sk a = (0, n)) (hn : Nat.ble n 1000000 = true) (h0 : 0 ≤ z) (h1 : z < (n : Int)) : jai (hh s R I) a z = some (I a z) := by
  have l := Ll L ha (t := n) (congrArg Prod.snd e)
  exact x_ai (Lt L ha) h6 (Lg L ha (congrArg Prod.fst e)) h0 (by rw [l]; exact h1) (by rw [l]; exact Nat.le_of_ble_eq_true hn)
theorem y_ab (L : Lay s Q hm) (a n : Nat) (ha : Nat.blt a 76 = true) (e : sk a = (1, n)) (hn : Nat.ble n 1000000 = true) (h0 : 0 ≤ z) (h1 : z < (n : Int)) : jab (hh s R I) a z = some (jwb (I a z)) := by
  have l := Ll L ha (t := n) (congrArg Prod.snd e)
  exact x_ab (Lt L ha) (Lg L ha (congrArg Prod.fst e)) h0 (by rw [l]; exact h1) (by rw [l]; exact Nat.le_of_ble_eq_true hn)
theorem y_az (L : Lay s Q hm) (a n : Nat) (ha : Nat.blt a 76 = true) (e : sk a = (2, n)) (hn : Nat.ble n 1000000 = true) (h0 : 0 ≤ z) (h1 : z < (n : Int)) : jaz (hh s R I) a z = some (I a z % 2) := by
  have l := Ll L ha (t := n) (congrArg Prod.snd e)
  exact x_az (Lt L ha) (Lg L ha (congrArg Prod.fst e)) h0 (by rw [l]; exact h1) (by rw [l]; exact Nat.le_of_ble_eq_true hn)
theorem y_ar (L : Lay s Q hm) (a t n : Nat) (ha : Nat.blt a 76 = true) (e : sk a = (t, n)) (hn : Nat.ble n 1000000 = true) (h0 : 0 ≤ z) (h1 : z < (n : Int)) : jar (hh s R I) a t z = some (R a z) := by
  have l := Ll L ha (t := n) (congrArg Prod.snd e)
  exact x_ar (Lt L ha) (Lg L ha (congrArg Prod.fst e)) h0 (by rw [l]; exact h1) (by rw [l]; exact Nat.le_of_ble_eq_true hn)
theorem y_ta (L : Lay s Q hm) (a t n : Nat) (ha : Nat.blt a 76 = true) (e : sk a = (t, n)) (hn : Nat.ble n 1000000 = true) (h0 : 0 ≤ z) (h1 : z < (n : Int)) : jta (hh s R I) a t z v = some (hh s R (jms I a z v)) := by
  have l := Ll L ha (t := n) (congrArg Prod.snd e)
  exact x_ta (Lt L ha) (Lg L ha (congrArg Prod.fst e)) h0 (by rw [l]; exact h1) (by rw [l]; exact Nat.le_of_ble_eq_true hn)
theorem y_tr {b : Nat} (L : Lay s Q hm) (a t n : Nat) (ha : Nat.blt a 76 = true) (e : sk a = (t, n)) (hn : Nat.ble n 1000000 = true) (h0 : 0 ≤ z) (h1 : z < (n : Int)) (hb : b < s.1) (hbt : s.2.2.1 b = mm_ac t + 8) : jtr (hh s R I) a t z b = some (hh s (rms R a z (some b)) I) := by
  have l := Ll L ha (t := n) (congrArg Prod.snd e)
  exact x_tr (Lt L ha) (Lg L ha (congrArg Prod.fst e)) h0 (by rw [l]; exact h1) (by rw [l]; exact Nat.le_of_ble_eq_true hn) hb hbt
theorem y_ma (a n : Nat) (e : (jmt a).2 = n) (hn : Nat.ble n 1000000 = true) (h0 : 0 ≤ z) (h1 : z < (n : Int)) : jma m a z = some (m a z) := x_ma h0 (by rw [e]; exact h1) (by rw [e]; exact Nat.le_of_ble_eq_true hn)
theorem y_mb (a n : Nat) (e : (jmt a).2 = n) (hn : Nat.ble n 1000000 = true) (h0 : 0 ≤ z) (h1 : z < (n : Int)) : jmb m a z = some (jwb (m a z)) := x_mb h0 (by rw [e]; exact h1) (by rw [e]; exact Nat.le_of_ble_eq_true hn)
theorem y_mz (a n : Nat) (e : (jmt a).2 = n) (hn : Nat.ble n 1000000 = true) (h0 : 0 ≤ z) (h1 : z < (n : Int)) : jmz m a z = some (m a z % 2) := x_mz h0 (by rw [e]; exact h1) (by rw [e]; exact Nat.le_of_ble_eq_true hn)
theorem y_mw (a n : Nat) (e : (jmt a).2 = n) (hn : Nat.ble n 1000000 = true) (h0 : 0 ≤ z) (h1 : z < (n : Int)) : jmw m a z v = some (jms m a z v) := x_mw h0 (by rw [e]; exact h1) (by rw [e]; exact Nat.le_of_ble_eq_true hn)
end Wrap
