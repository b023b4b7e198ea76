/-! THE PURE SIDE: heaps as shape, references, ints; runs that come to an end; loops -/
abbrev hS : Type := Nat × Nat × (Nat → Nat) × (Nat → Nat)
abbrev hQ : Type := Nat → Int → Option Nat
def hh (s : hS) (R : hQ) (I : jM) : jH := (s.1, s.2.1, fun a => (s.2.2.1 a, s.2.2.2 a, I a, R a))
def h_s (h : jH) : hS := (h.1, h.2.1, fun a => (h.2.2 a).1, fun a => (h.2.2 a).2.1)
def h_r (h : jH) : hQ := fun a => (h.2.2 a).2.2.2
def h_i (h : jH) : jM := fun a => (h.2.2 a).2.2.1
theorem hh_eta (h : jH) : hh (h_s h) (h_r h) (h_i h) = h := rfl
/-- references set -/
def rms (R : hQ) (a : Nat) (k : Int) (v : Option Nat) : hQ := fun a' => if a' = a then jru (R a) k v else R a'
/-- ints of one cell set anew -/
def ims (I : jM) (a : Nat) (f : Int → Int) : jM := fun a' => if a' = a then f else I a'
/-- a new cell -/
def s_mk (s : hS) (sl t n : Nat) : hS := (s.1 + 1, s.2.1 + sl, fun a => if a = s.1 then t else s.2.2.1 a, fun a => if a = s.1 then n else s.2.2.2 a)
def i_mk (I : jM) (b : Nat) : jM := fun a => if a = b then fun _ => 0 else I a
def r_mk (R : hQ) (b : Nat) : hQ := fun a => if a = b then fun _ => none else R a
theorem n_jw {z : Int} (h1 : -2147483648 ≤ z) (h2 : z < 2147483648) : jw z = z := by unfold jw; omega
theorem n_jwl {z : Int} (h1 : -9223372036854775808 ≤ z) (h2 : z < 9223372036854775808) : jwl z = z := by unfold jwl; omega
theorem n_jwb {z : Int} (h1 : -128 ≤ z) (h2 : z < 128) : jwb z = z := by unfold jwb; omega
theorem n_jwr (z : Int) : -2147483648 ≤ jw z ∧ jw z < 2147483648 := by unfold jw; omega
theorem n_jwbr (z : Int) : -128 ≤ jwb z ∧ jwb z < 128 := by unfold jwb; omega
theorem n_jwb_jwb (z : Int) : jwb (jwb z) = jwb z := by unfold jwb; omega
theorem n_jwb_m (z : Int) : jwb (z % 256) = jwb z := by unfold jwb; omega
theorem n_jwb_m' (z : Int) : jwb z % 256 = z % 256 := by unfold jwb; omega
theorem n_div {z c : Int} (h0 : 0 ≤ z) (h1 : z < 2147483648) (hc : 0 < c) (hc1 : c < 2147483648) : jdiv z c = z / c := by
  unfold jdiv
  rw [n_jw (by omega) h1, n_jw (by omega) hc1]
  exact Int.tdiv_eq_ediv_of_nonneg h0
theorem n_rem {z c : Int} (h0 : 0 ≤ z) (h1 : z < 2147483648) (hc : 0 < c) (hc1 : c < 2147483648) : jrem z c = z % c := by
  unfold jrem
  rw [n_jw (by omega) h1, n_jw (by omega) hc1, Int.tdiv_eq_ediv_of_nonneg h0, Int.emod_def, Int.mul_comm]
theorem n_and (x : Int) (k : Nat) (hk : k < 31) : jand x ((2 ^ k - 1 : Nat) : Int) = x % ((2 ^ k : Nat) : Int) := by
  have h2 : (2 : Nat) ^ k ≤ 2 ^ 30 := Nat.pow_le_pow_right (by decide) (by omega)
  have hp : 0 < (2 : Nat) ^ k := Nat.pow_pos (by decide)
  have hd : (2 : Nat) ^ k ∣ 2 ^ 32 := Nat.pow_dvd_pow 2 (by omega)
  have hn : ((Int32.ofInt x &&& Int32.ofInt ((2 ^ k - 1 : Nat) : Int)).toBitVec).toNat = (x % ((2 ^ k : Nat) : Int)).toNat := by
    show (BitVec.ofInt 32 x &&& BitVec.ofInt 32 ((2 ^ k - 1 : Nat) : Int)).toNat = _
    rw [BitVec.toNat_and, BitVec.toNat_ofInt, BitVec.toNat_ofInt]
    have e1 : (((2 ^ k - 1 : Nat) : Int) % ((2 ^ 32 : Nat) : Int)).toNat = 2 ^ k - 1 := by omega
    rw [e1, Nat.and_two_pow_sub_one_eq_mod]
    have e2 : ((x % ((2 ^ 32 : Nat) : Int)).toNat % 2 ^ k : Nat) = (x % ((2 ^ k : Nat) : Int)).toNat := by
      apply Int.ofNat.inj
      show (((x % ((2 ^ 32 : Nat) : Int)).toNat % 2 ^ k : Nat) : Int) = ((x % ((2 ^ k : Nat) : Int)).toNat : Int)
      rw [Int.natCast_emod, Int.toNat_of_nonneg (Int.emod_nonneg _ (by omega)), Int.toNat_of_nonneg (Int.emod_nonneg _ (by omega)), Int.emod_emod_of_dvd]
      exact Int.natCast_dvd_natCast.mpr hd
    exact e2
  unfold jand
  show ((Int32.ofInt x &&& Int32.ofInt ((2 ^ k - 1 : Nat) : Int)).toBitVec).toInt = _
  have hlt := Int.emod_lt_of_pos x (show (0 : Int) < ((2 ^ k : Nat) : Int) by omega)
  have hge := Int.emod_nonneg x (show ((2 ^ k : Nat) : Int) ≠ 0 by omega)
  rw [BitVec.toInt_eq_toNat_of_lt (by rw [hn]; omega), hn]
  omega
theorem n_and1 (x : Int) : jand x 1 = x % 2 := n_and x 1 (by decide)
theorem n_and7 (x : Int) : jand x 7 = x % 8 := n_and x 3 (by decide)
theorem n_and15 (x : Int) : jand x 15 = x % 16 := n_and x 4 (by decide)
theorem n_and3 (x : Int) : jand x 3 = x % 4 := n_and x 2 (by decide)
theorem n_and63 (x : Int) : jand x 63 = x % 64 := n_and x 6 (by decide)
theorem n_and255 (x : Int) : jand x 255 = x % 256 := n_and x 8 (by decide)
/-- runs that come to an end -/
def wT {A : Type} (o : Option A) (Q : A → Prop) : Prop := ∃ x, o = some x ∧ Q x
theorem wT_ret {A : Type} {x : A} {Q : A → Prop} (h : Q x) : wT (some x) Q := ⟨x, rfl, h⟩
theorem wT_bind {A B : Type} {o : Option A} {f : A → Option B} {Q : B → Prop} (h : wT o (fun a => wT (f a) Q)) : wT (o.bind f) Q := by
  obtain ⟨a, rfl, b, e, hq⟩ := h
  exact ⟨b, e, hq⟩
theorem wT_b {A B : Type} {o : Option A} {P : A → Prop} {f : A → Option B} {Q : B → Prop} (h : wT o P) (k : ∀ a, P a → wT (f a) Q) : wT (o.bind f) Q := by
  obtain ⟨a, rfl, hp⟩ := h
  exact k a hp
theorem wT_e {A B : Type} {o : Option A} {x : A} {f : A → Option B} {Q : B → Prop} (h : o = some x) (k : wT (f x) Q) : wT (o.bind f) Q := by
  subst h
  exact k
theorem wT_mono {A : Type} {o : Option A} {P Q : A → Prop} (h : wT o P) (k : ∀ a, P a → Q a) : wT o Q := by
  obtain ⟨a, e, hp⟩ := h
  exact ⟨a, e, k a hp⟩
theorem wT_if {A : Type} {c : Prop} {D : Decidable c} {a b : Option A} {Q : A → Prop} (h1 : c → wT a Q) (h2 : ¬ c → wT b Q) : wT (@ite _ c D a b) Q := by
  by_cases h : c
  · rw [if_pos h]; exact h1 h
  · rw [if_neg h]; exact h2 h
theorem w_lp {S X : Type} {f : S → Option (S ⊕ X)} {Q : X → Prop} (Inv : Nat → S → Prop) (n : Nat) (st : ∀ k s, k ≤ n → Inv k s → wT (f s) (fun o => jse o (fun s' => k < n ∧ Inv (k + 1) s') Q)) {fu : Nat} (hn : n < fu) {s0 : S} (h0 : Inv 0 s0) : wT (jlp f fu s0) Q := by
  have key : ∀ d k fu s, k + d = n → d < fu → Inv k s → wT (jlp f fu s) Q := by
    intro d
    induction d with
    | zero =>
      intro k fu s hk hfu hi
      obtain ⟨fu, rfl⟩ : ∃ j, fu = j + 1 := ⟨fu - 1, by omega⟩
      obtain ⟨o, e, hq⟩ := st k s (by omega) hi
      cases o with
      | inl s' => exact absurd hq.1 (by omega)
      | inr x => exact ⟨x, by simp only [jlp, e], hq⟩
    | succ d ih =>
      intro k fu s hk hfu hi
      obtain ⟨fu, rfl⟩ : ∃ j, fu = j + 1 := ⟨fu - 1, by omega⟩
      obtain ⟨o, e, hq⟩ := st k s (by omega) hi
      cases o with
      | inl s' =>
        obtain ⟨x, ex, hx⟩ := ih (k + 1) fu s' (by omega) (by omega) hq.2
        exact ⟨x, by simp only [jlp, e, ex], hx⟩
      | inr x => exact ⟨x, by simp only [jlp, e], hq⟩
  exact key n 0 fu s0 (by omega) hn h0
/-- a loop that is a mere count: it goes through I 0, .., I n -/
theorem w_for {S X : Type} {f : S → Option (S ⊕ X)} (I : Nat → S) (n : Nat) {x : X} (hI : ∀ k, k < n → f (I k) = some (.inl (I (k + 1)))) (hx : f (I n) = some (.inr x)) {fu : Nat} (hn : n < fu) : jlp f fu (I 0) = some x := by
  obtain ⟨y, e, hy⟩ := w_lp (f := f) (Q := fun y => y = x) (fun k s => s = I k) n (fun k s hk hs => by
    subst hs
    by_cases hkn : k < n
    · exact ⟨_, hI k hkn, hkn, rfl⟩
    · have : k = n := by omega
      subst this
      exact ⟨_, hx, rfl⟩) hn rfl
  rw [e, hy]
theorem n_fu {n : Nat} (h : n < 100000000) : n < jfu := h
section HhOps
variable {s : hS} {R : hQ} {I : jM} {a c k t : Nat} {z v : Int}
theorem x_gi (ha : a < s.1) (ht : s.2.2.1 a = c + 8) : jgi (hh s R I) a c k = some (I a (k : Int)) := if_pos ⟨ha, ht⟩
theorem x_gb (ha : a < s.1) (ht : s.2.2.1 a = c + 8) : jgb (hh s R I) a c k = some (I a (k : Int) % 2) := if_pos ⟨ha, ht⟩
theorem x_gr (ha : a < s.1) (ht : s.2.2.1 a = c + 8) : jgr (hh s R I) a c k = some (R a (k : Int)) := if_pos ⟨ha, ht⟩
theorem x_ck (ha : a < s.1) (ht : s.2.2.1 a = c + 8) : jck (hh s R I) a c = some () := if_pos ⟨ha, ht⟩
theorem hh_si : jsi (hh s R I) a z v = hh s R (jms I a z v) := by
  unfold jsi hh
  refine congrArg (fun q => (s.1, s.2.1, q)) (funext fun b => ?_)
  unfold jce jms
  by_cases h : b = a
  · subst h
    simp only [if_pos]
  · simp only [if_neg h]
theorem hh_sr {q : Option Nat} : jsr (hh s R I) a z q = hh s (rms R a z q) I := by
  unfold jsr hh
  refine congrArg (fun q => (s.1, s.2.1, q)) (funext fun b => ?_)
  unfold jce rms
  by_cases h : b = a
  · subst h
    simp only [if_pos]
  · simp only [if_neg h]
theorem x_pi (ha : a < s.1) (ht : s.2.2.1 a = c + 8) : jpi (hh s R I) a c k v = some (hh s R (jms I a (k : Int) v)) := by
  unfold jpi
  rw [hh_si]
  exact if_pos ⟨ha, ht⟩
theorem x_pr {q : Option Nat} (ha : a < s.1) (ht : s.2.2.1 a = c + 8) : jpr (hh s R I) a c k q = some (hh s (rms R a (k : Int) q) I) := by
  unfold jpr
  rw [hh_sr]
  exact if_pos ⟨ha, ht⟩
theorem x_ai (ha : a < s.1) (h6 : s.1 ≤ 1000000) (ht : s.2.2.1 a = 0) (h0 : 0 ≤ z) (h1 : z < s.2.2.2 a) (hl : s.2.2.2 a ≤ 1000000) : jai (hh s R I) a z = some (I a z) := by
  have e : jw z = z := n_jw (by omega) (by omega)
  unfold jai
  rw [e]
  exact if_pos ⟨⟨⟨ha, h6⟩, ht⟩, h0, h1⟩
theorem x_ab (ha : a < s.1) (ht : s.2.2.1 a = 1) (h0 : 0 ≤ z) (h1 : z < s.2.2.2 a) (hl : s.2.2.2 a ≤ 1000000) : jab (hh s R I) a z = some (jwb (I a z)) := by
  have e : jw z = z := n_jw (by omega) (by omega)
  unfold jab
  rw [e]
  exact if_pos ⟨⟨ha, ht⟩, h0, h1⟩
theorem x_az (ha : a < s.1) (ht : s.2.2.1 a = 2) (h0 : 0 ≤ z) (h1 : z < s.2.2.2 a) (hl : s.2.2.2 a ≤ 1000000) : jaz (hh s R I) a z = some (I a z % 2) := by
  have e : jw z = z := n_jw (by omega) (by omega)
  unfold jaz
  rw [e]
  exact if_pos ⟨⟨ha, ht⟩, h0, h1⟩
theorem x_ar (ha : a < s.1) (ht : s.2.2.1 a = t) (h0 : 0 ≤ z) (h1 : z < s.2.2.2 a) (hl : s.2.2.2 a ≤ 1000000) : jar (hh s R I) a t z = some (R a z) := by
  have e : jw z = z := n_jw (by omega) (by omega)
  unfold jar
  rw [e]
  exact if_pos ⟨⟨ha, ht⟩, h0, h1⟩
theorem x_ta (ha : a < s.1) (ht : s.2.2.1 a = t) (h0 : 0 ≤ z) (h1 : z < s.2.2.2 a) (hl : s.2.2.2 a ≤ 1000000) : jta (hh s R I) a t z v = some (hh s R (jms I a z v)) := by
  have e : jw z = z := n_jw (by omega) (by omega)
  unfold jta
  rw [e, hh_si]
  exact if_pos ⟨⟨ha, ht⟩, h0, h1⟩
theorem x_tr {b : Nat} (ha : a < s.1) (ht : s.2.2.1 a = t) (h0 : 0 ≤ z) (h1 : z < s.2.2.2 a) (hl : s.2.2.2 a ≤ 1000000) (hb : b < s.1) (hbt : s.2.2.1 b = mm_ac t + 8) : jtr (hh s R I) a t z b = some (hh s (rms R a z (some b)) I) := by
  have e : jw z = z := n_jw (by omega) (by omega)
  unfold jtr
  rw [e, hh_sr]
  exact if_pos ⟨⟨⟨ha, ht⟩, h0, h1⟩, hb, hbt⟩
theorem x_ln (ha : a < s.1) (h6 : s.1 ≤ 1000000) (ht : s.2.2.1 a < 8) : jln (hh s R I) a = some (s.2.2.2 a : Int) := if_pos ⟨⟨ha, h6⟩, ht⟩
theorem x_6 (h6 : s.1 < 1000000) : j6 (hh s R I) = some () := if_pos h6
theorem hh_mk {sl n : Nat} : jmk (hh s R I) sl (t, n, fun _ => 0, fun _ => none) = hh (s_mk s sl t n) (r_mk R s.1) (i_mk I s.1) := by
  unfold jmk hh s_mk r_mk i_mk
  refine congrArg (fun q => (s.1 + 1, s.2.1 + sl, q)) (funext fun b => ?_)
  unfold jce
  by_cases h : b = s.1
  · subst h
    simp only [if_pos]
  · simp only [if_neg h]
theorem x_nw (h6 : s.1 < 1000000) : jnw (hh s R I) c = some (s.1, hh (s_mk s (mm_cn c) (c + 8) 0) (r_mk R s.1) (i_mk I s.1)) := by
  unfold jnw
  rw [hh_mk]
  exact if_pos h6
theorem x_na (h6 : s.1 < 1000000) (h0 : 0 ≤ z) (h1 : z ≤ 1000000) : jna (hh s R I) t z = some (s.1, hh (s_mk s z.toNat t z.toNat) (r_mk R s.1) (i_mk I s.1)) := by
  have e : jw z = z := n_jw (by omega) (by omega)
  unfold jna
  rw [e, hh_mk]
  exact if_pos ⟨h6, h0, h1⟩
theorem x_th {E : Nat} : jth (hh s R I) E = hh (s_mk s 6 (13 + E + 8) 0) (r_mk R s.1) (i_mk I s.1) := hh_mk
theorem x_cp {a0 a1 : Nat} {sp dp n : Int} (h0 : a0 < s.1) (h1 : a1 < s.1) (ht0 : s.2.2.1 a0 = t) (ht1 : s.2.2.1 a1 = t) (ht : t = 0 ∨ t = 1) (p1 : 0 ≤ sp) (p2 : 0 ≤ dp) (p3 : 0 ≤ n) (q1 : sp + n ≤ s.2.2.2 a0) (q2 : dp + n ≤ s.2.2.2 a1) (l0 : s.2.2.2 a0 ≤ 1000000) (l1 : s.2.2.2 a1 ≤ 1000000) : jcp (hh s R I) a0 sp a1 dp n = some (hh s R (ims I a1 (fun j => if dp ≤ j ∧ j < dp + n then I a0 (sp + (j - dp)) else I a1 j))) := by
  have e1 : jw sp = sp := n_jw (by omega) (by omega)
  have e2 : jw dp = dp := n_jw (by omega) (by omega)
  have e3 : jw n = n := n_jw (by omega) (by omega)
  unfold jcp
  rw [e1, e2, e3]
  have hc : (((a0 < s.1 ∧ a1 < s.1) ∧ s.2.2.1 a0 = s.2.2.1 a1 ∧ (s.2.2.1 a0 = 0 ∨ s.2.2.1 a0 = 1)) ∧ (0 ≤ sp ∧ 0 ≤ dp ∧ 0 ≤ n) ∧ sp + n ≤ s.2.2.2 a0 ∧ dp + n ≤ s.2.2.2 a1) := ⟨⟨⟨h0, h1⟩, by rw [ht0, ht1], by rw [ht0]; exact ht⟩, ⟨p1, p2, p3⟩, q1, q2⟩
  refine (if_pos hc).trans (congrArg some ?_)
  refine congrArg (fun q => (s.1, s.2.1, q)) (funext fun b => ?_)
  unfold jce ims
  by_cases h : b = a1
  · subst h
    simp only [hh, if_pos]
  · simp only [hh, if_neg h]
end HhOps
section MmOps
variable {m : jM} {a b : Nat} {z y v : Int} {f : Int → Int}
theorem jms_e : jms m a z v a z = v := by unfold jms jiu; rw [if_pos rfl, if_pos rfl]
theorem jms_o (h : b ≠ a) : jms m a z v b = m b := if_neg h
theorem jms_i (h : y ≠ z) : jms m a z v b y = m b y := by
  unfold jms jiu
  by_cases hb : b = a
  · subst hb
    rw [if_pos rfl, if_neg h]
  · rw [if_neg hb]
theorem ims_e : ims m a f a = f := if_pos rfl
theorem ims_o (h : b ≠ a) : ims m a f b = m b := if_neg h
theorem x_ma (h0 : 0 ≤ z) (h1 : z < ((jmt a).2 : Int)) (hl : (jmt a).2 ≤ 1000000) : jma m a z = some (m a z) := by
  have e : jw z = z := n_jw (by omega) (by omega)
  unfold jma
  rw [e]
  exact if_pos ⟨h0, h1⟩
theorem x_mb (h0 : 0 ≤ z) (h1 : z < ((jmt a).2 : Int)) (hl : (jmt a).2 ≤ 1000000) : jmb m a z = some (jwb (m a z)) := by
  have e : jw z = z := n_jw (by omega) (by omega)
  unfold jmb
  rw [e]
  exact if_pos ⟨h0, h1⟩
theorem x_mz (h0 : 0 ≤ z) (h1 : z < ((jmt a).2 : Int)) (hl : (jmt a).2 ≤ 1000000) : jmz m a z = some (m a z % 2) := by
  have e : jw z = z := n_jw (by omega) (by omega)
  unfold jmz
  rw [e]
  exact if_pos ⟨h0, h1⟩
theorem x_mw (h0 : 0 ≤ z) (h1 : z < ((jmt a).2 : Int)) (hl : (jmt a).2 ≤ 1000000) : jmw m a z v = some (jms m a z v) := by
  have e : jw z = z := n_jw (by omega) (by omega)
  unfold jmw
  rw [e]
  exact if_pos ⟨h0, h1⟩
end MmOps
