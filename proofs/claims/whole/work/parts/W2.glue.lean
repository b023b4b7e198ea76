/-! the law's heap and the relation -/
section Glue
variable {s s' : hS} {Q Q' : hQ} {hm hm' : hO} {I I' I2 m m' : jM} {h h1 : jH} {w : Int}
/-- the law's heap: class and model side by side -/
def RelL (h : jH) : Prop := jLay h ∧ ∃ (s : hS) (Q : hQ) (hm : hO) (I : jM), h = hh s Q I ∧ RelH s Q hm I I
def GrL (h h' : jH) : Prop := h'.1 ≤ h.1 + 1000 ∧ h'.2.1 ≤ h.2.1 + 100000
theorem RelL_t (R : RelL h) : 0 < h.1 ∧ jt h 0 = 19 := by
  obtain ⟨ly, s, Q, hm, I, rfl, R⟩ := R
  exact ⟨by have := ly.1; omega, (R.1.2.1 0 (by decide)).2.1⟩
theorem jLay_kp (ly : jLay (hh s Q I)) (K : Kp s Q I s' Q' I') (g1 : s.1 ≤ s'.1) (g2 : s'.1 ≤ 1000000) : jLay (hh s' Q' I') := by
  obtain ⟨h1, h2, h3, h4, h5, h6⟩ := ly
  refine ⟨Nat.lt_of_lt_of_le h1 g1, g2, fun a a1 a2 => ?_, fun k hk => ?_, ?_, ?_⟩
  · obtain ⟨e1, e2, -, -⟩ := K a a2 (by omega)
    obtain ⟨t1, t2⟩ := h3 a a1 a2
    exact ⟨e1.trans t1, e2.trans t2⟩
  · obtain ⟨-, -, e3, -⟩ := K 76 (by decide) (by decide)
    show Q' 76 (k : Int) = jmr k
    rw [e3]
    exact h4 k hk
  · exact (K 152 (by decide) (by decide)).1.trans h5
  · exact (K 152 (by decide) (by decide)).2.1.trans h6
theorem RelL_hm (ly : jLay (hh s Q I2)) (R : RelH s Q hm I m) (e : ∀ a : Nat, a < 76 ∨ 153 ≤ a → I2 a = I a) : RelL (jhm (hh s Q I2) m) := by
  refine ⟨jLay_hm ly, s, (fun a => if 76 ≤ a ∧ a < 152 then jmo a else Q a), hm, (fun a => if 76 ≤ a ∧ a < 152 then m a else I2 a), ?_, ?_⟩
  · refine congrArg (fun q => (s.1, s.2.1, q)) (funext fun a => ?_)
    show (if 76 ≤ a ∧ a < 152 then ((jmt a).1, (jmt a).2, m a, jmo a) else (s.2.2.1 a, s.2.2.2 a, I2 a, Q a)) = (s.2.2.1 a, s.2.2.2 a, (if 76 ≤ a ∧ a < 152 then m a else I2 a), (if 76 ≤ a ∧ a < 152 then jmo a else Q a))
    by_cases c : 76 ≤ a ∧ a < 152
    · rw [if_pos c, if_pos c, if_pos c]
      obtain ⟨t1, t2⟩ := ly.2.2.1 a c.2 c.1
      rw [← t1, ← t2]
      rfl
    · rw [if_neg c, if_neg c, if_neg c]
  · have L := R.1
    refine RelH_fr (P := fun o => ¬ (1076 ≤ o ∧ o < 1153)) ⟨Nat.le_refl _, fun a _ ha => ?_⟩ (fun i hi => by omega) ?_ ?_ R
    · have ca : ¬ (76 ≤ a ∧ a < 153) := fun c => by
        rw [L.2.2.1 a c.1 c.2] at ha
        omega
      refine ⟨rfl, rfl, if_neg (by omega), ?_, rfl⟩
      show (if 76 ≤ a ∧ a < 152 then m a else I2 a) = I a
      rw [if_neg (by omega)]
      exact e a (by omega)
    · obtain ⟨l1, l2, l3, l4⟩ := L
      refine ⟨l1, l2, l3, fun a k b e => ?_⟩
      have := sq_lt e
      show (if 76 ≤ a ∧ a < 152 then jmo a else Q a) (k : Int) = some b
      rw [if_neg (by omega)]
      exact l4 a k b e
    · have r : ∀ a : Nat, 76 ≤ a → a < 152 → (fun a => if 76 ≤ a ∧ a < 152 then m a else I2 a) a = m a := fun a a1 a2 => if_pos ⟨a1, a2⟩
      have r76 := r 76 (by decide) (by decide)
      exact ⟨⟨by rw [r76], by rw [r76], by rw [r76], by rw [r76], by rw [r76], by rw [r76], by rw [r76], by rw [r76]⟩, fun x hx => r x (by omega) (by omega)⟩
theorem jof_hh : jof (hh s Q I) w = hh s Q (ims I 152 (jiu (I 152) 0 w)) := by
  refine congrArg (fun q => (s.1, s.2.1, q)) (funext fun a => ?_)
  show jce (hh s Q I).2.2 152 (s.2.2.1 152, s.2.2.2 152, jiu (I 152) 0 w, Q 152) a = (s.2.2.1 a, s.2.2.2 a, ims I 152 (jiu (I 152) 0 w) a, Q a)
  unfold jce
  by_cases c : a = 152
  · rw [if_pos c, c, ims_e]
  · rw [if_neg c, ims_o c]
    rfl
theorem RelH_rows (R : RelH s Q hm I m) (e : ∀ a : Nat, 76 ≤ a → a < 152 → m' a = m a) : RelH s Q hm I m' := RelH_fr (P := fun _ => True) Sm_refl (fun _ _ => trivial) R.1 ⟨⟨by rw [e 76 (by decide) (by decide)], by rw [e 76 (by decide) (by decide)], by rw [e 76 (by decide) (by decide)], by rw [e 76 (by decide) (by decide)], by rw [e 76 (by decide) (by decide)], by rw [e 76 (by decide) (by decide)], by rw [e 76 (by decide) (by decide)], by rw [e 76 (by decide) (by decide)]⟩, fun x hx => e x (by omega) (by omega)⟩ R
theorem gl_I {C : jH → Option ((Int ⊕ Nat) × jH)} {M : jM → Option (Int × jM)} {tb : Nat → Int} (hS : ∀ {s : hS} {Q : hQ} {hm : hO} {I m : jM}, RelH s Q hm I m → s.1 ≤ 900000 → SimI (C (hh s Q I)) (M m) tb s Q I) (R : RelL h) (h6 : h.1 ≤ 900000) (fW : Int → Int) : (∃ (v b : Int) (h1 : jH) (m' : jM), C h = some (.inl v, h1) ∧ jLay h1 ∧ M (jmf (jof h1 (fW v))) = some (b, m') ∧ m' 76 0 = 0 ∧ jw b = jw v ∧ RelL (jhm (jof h1 (fW v)) m') ∧ GrL h (jhm (jof h1 (fW v)) m')) ∨ (∃ (E : Nat) (b : Int) (h1 : jH) (m' : jM), C h = some (.inr E, h1) ∧ jLay h1 ∧ M (jmf h1) = some (b, m') ∧ m' 76 0 = tb E ∧ 1 ≤ tb E ∧ RelL (jhm h1 m') ∧ GrL h (jhm h1 m')) := by
  obtain ⟨ly, s, Q, hm, I, rfl, R⟩ := R
  have h6' : s.1 ≤ 900000 := h6
  rcases hS R h6' with ⟨v, b, s1, Q1, I1, m1, c1, -, -, -, K1, G1, -⟩ | ⟨E, b, s1, Q1, I1, m1, c1, -, -, -, K1, G1, -⟩
  · left
    have R2 : RelH s Q hm I (jmf (jof (hh s1 Q1 I1) (fW v))) := RelH_rows R (fun a a1 a2 => by
      rw [jof_hh]
      show ims I1 152 (jiu (I1 152) 0 (fW v)) a = I a
      rw [ims_o (by omega)]
      exact (K1 a a1 (by omega)).2.2.2)
    rcases hS R2 h6' with ⟨v2, b2, s2, Q2, I2, m2, d1, d2, d3, d4, K2, G2, hm2, RR⟩ | ⟨E2, b2, s2, Q2, I2, m2, d1, -⟩
    · rw [c1] at d1
      obtain ⟨rfl, eh⟩ : v = v2 ∧ hh s1 Q1 I1 = hh s2 Q2 I2 := by
        have e := Option.some.inj d1
        exact ⟨Sum.inl.inj (congrArg Prod.fst e), congrArg Prod.snd e⟩
      rw [eh] at c1 d2
      have ly2 : jLay (hh s2 Q2 I2) := jLay_kp ly K2 G2.1 (by have := G2.2.1; omega)
      refine ⟨v, b2, hh s2 Q2 I2, m2, c1, ly2, d2, d3, d4, ?_, ?_⟩
      · rw [jof_hh]
        refine RelL_hm ?_ RR (fun a ha => ims_o (by omega))
        rw [← jof_hh]
        exact jLay_sf ly2
      · exact ⟨G2.2.1, G2.2.2⟩
    · rw [c1] at d1
      exact absurd (congrArg Prod.fst (Option.some.inj d1)) (fun e => by cases e)
  · right
    have R2 : RelH s Q hm I (jmf (hh s1 Q1 I1)) := RelH_rows R (fun a a1 a2 => (K1 a a1 (by omega)).2.2.2)
    rcases hS R2 h6' with ⟨v2, b2, s2, Q2, I2, m2, d1, -⟩ | ⟨E2, b2, s2, Q2, I2, m2, d1, d2, d3, d4, K2, G2, hm2, RR⟩
    · rw [c1] at d1
      exact absurd (congrArg Prod.fst (Option.some.inj d1)) (fun e => by cases e)
    · rw [c1] at d1
      obtain ⟨rfl, eh⟩ : E = E2 ∧ hh s1 Q1 I1 = hh s2 Q2 I2 := by
        have e := Option.some.inj d1
        exact ⟨Sum.inr.inj (congrArg Prod.fst e), congrArg Prod.snd e⟩
      rw [eh] at c1 d2
      have ly2 : jLay (hh s2 Q2 I2) := jLay_kp ly K2 G2.1 (by have := G2.2.1; omega)
      exact ⟨E, b2, hh s2 Q2 I2, m2, c1, ly2, d2, d3, d4, RelL_hm ly2 RR (fun a _ => rfl), ⟨G2.2.1, G2.2.2⟩⟩
theorem gl_V {C : jH → Option ((Unit ⊕ Nat) × jH)} {M : jM → Option jM} {tb : Nat → Int} (hS : ∀ {s : hS} {Q : hQ} {hm : hO} {I m : jM}, RelH s Q hm I m → s.1 ≤ 900000 → SimV (C (hh s Q I)) (M m) tb s Q I) (R : RelL h) (h6 : h.1 ≤ 900000) : (∃ (h1 : jH) (m' : jM), C h = some (.inl (), h1) ∧ jLay h1 ∧ M (jmf h1) = some m' ∧ m' 76 0 = 0 ∧ RelL (jhm h1 m') ∧ GrL h (jhm h1 m')) ∨ (∃ (E : Nat) (h1 : jH) (m' : jM), C h = some (.inr E, h1) ∧ jLay h1 ∧ M (jmf h1) = some m' ∧ m' 76 0 = tb E ∧ 1 ≤ tb E ∧ RelL (jhm h1 m') ∧ GrL h (jhm h1 m')) := by
  obtain ⟨ly, s, Q, hm, I, rfl, R⟩ := R
  have h6' : s.1 ≤ 900000 := h6
  rcases hS R h6' with ⟨s1, Q1, I1, m1, c1, -, -, K1, G1, -⟩ | ⟨E, s1, Q1, I1, m1, c1, -, -, -, K1, G1, -⟩
  · left
    have R2 : RelH s Q hm I (jmf (hh s1 Q1 I1)) := RelH_rows R (fun a a1 a2 => (K1 a a1 (by omega)).2.2.2)
    rcases hS R2 h6' with ⟨s2, Q2, I2, m2, d1, d2, d3, K2, G2, hm2, RR⟩ | ⟨E2, s2, Q2, I2, m2, d1, -⟩
    · rw [c1] at d1
      have eh : hh s1 Q1 I1 = hh s2 Q2 I2 := congrArg Prod.snd (Option.some.inj d1)
      rw [eh] at c1 d2
      have ly2 : jLay (hh s2 Q2 I2) := jLay_kp ly K2 G2.1 (by have := G2.2.1; omega)
      exact ⟨hh s2 Q2 I2, m2, c1, ly2, d2, d3, RelL_hm ly2 RR (fun a _ => rfl), ⟨G2.2.1, G2.2.2⟩⟩
    · rw [c1] at d1
      exact absurd (congrArg Prod.fst (Option.some.inj d1)) (fun e => by cases e)
  · right
    have R2 : RelH s Q hm I (jmf (hh s1 Q1 I1)) := RelH_rows R (fun a a1 a2 => (K1 a a1 (by omega)).2.2.2)
    rcases hS R2 h6' with ⟨s2, Q2, I2, m2, d1, -⟩ | ⟨E2, s2, Q2, I2, m2, d1, d2, d3, d4, K2, G2, hm2, RR⟩
    · rw [c1] at d1
      exact absurd (congrArg Prod.fst (Option.some.inj d1)) (fun e => by cases e)
    · rw [c1] at d1
      obtain ⟨rfl, eh⟩ : E = E2 ∧ hh s1 Q1 I1 = hh s2 Q2 I2 := by
        have e := Option.some.inj d1
        exact ⟨Sum.inr.inj (congrArg Prod.fst e), congrArg Prod.snd e⟩
      rw [eh] at c1 d2
      have ly2 : jLay (hh s2 Q2 I2) := jLay_kp ly K2 G2.1 (by have := G2.2.1; omega)
      exact ⟨E, hh s2 Q2 I2, m2, c1, ly2, d2, d3, d4, RelL_hm ly2 RR (fun a _ => rfl), ⟨G2.2.1, G2.2.2⟩⟩
theorem gl_N {C : jH → Option (Int × jH)} {M : jM → Option (Int × jM)} (hS : ∀ {s : hS} {Q : hQ} {hm : hO} {I m : jM}, RelH s Q hm I m → SimN (C (hh s Q I)) (M m) s Q I) (R : RelL h) (h6 : h.1 ≤ 900000) : ∃ (v b : Int) (h1 : jH) (m' : jM), C h = some (v, h1) ∧ jLay h1 ∧ M (jmf h1) = some (b, m') ∧ jw b = jw v ∧ RelL (jhm h1 m') ∧ GrL h (jhm h1 m') := by
  obtain ⟨ly, s, Q, hm, I, rfl, R⟩ := R
  have h6' : s.1 ≤ 900000 := h6
  obtain ⟨v, b, s1, Q1, I1, m1, c1, -, -, K1, G1, -⟩ := hS R
  have R2 : RelH s Q hm I (jmf (hh s1 Q1 I1)) := RelH_rows R (fun a a1 a2 => (K1 a a1 (by omega)).2.2.2)
  obtain ⟨v2, b2, s2, Q2, I2, m2, d1, d2, d3, K2, G2, hm2, RR⟩ := hS R2
  rw [c1] at d1
  obtain ⟨rfl, eh⟩ : v = v2 ∧ hh s1 Q1 I1 = hh s2 Q2 I2 := by
    have e := Option.some.inj d1
    exact ⟨congrArg Prod.fst e, congrArg Prod.snd e⟩
  rw [eh] at c1 d2
  have ly2 : jLay (hh s2 Q2 I2) := jLay_kp ly K2 G2.1 (by have := G2.2.1; omega)
  exact ⟨v, b2, hh s2 Q2 I2, m2, c1, ly2, d2, d3, RelL_hm ly2 RR (fun a _ => rfl), ⟨G2.2.1, G2.2.2⟩⟩
/-- the machine sees no more of an int than an int holds -/
theorem oI_w {a b : Int} (e : jw a = jw b) : Int32.ofInt a = Int32.ofInt b := by
  have f : ∀ z : Int, (Int32.ofInt z).toInt = jw z := fun z => by
    rw [Int32.toInt_ofInt, Int.bmod_def]
    unfold jw
    show (if z % 4294967296 < (4294967296 + 1) / 2 then z % 4294967296 else z % 4294967296 - 4294967296) = (z + 2147483648) % 4294967296 - 2147483648
    split <;> omega
  rw [← Int32.toInt_inj, f, f]
  exact e
theorem jaH_eqv (E : Eqv s I' I2) : jaH (jhm (hh s Q I2) m) = jaH (jhm (hh s Q I') m) := by
  refine congrArg (fun q => (s.1, s.2.1, q)) (funext fun a => ?_)
  by_cases c : 76 ≤ a ∧ a < 152
  · rw [jhm_at c, jhm_at c]
  · rw [jhm_n c, jhm_n c]
    obtain ⟨e1, e2, e3⟩ := E a
    show jaC (s.2.2.1 a, s.2.2.2 a, I2 a, Q a) = jaC (s.2.2.1 a, s.2.2.2 a, I' a, Q a)
    by_cases t : s.2.2.1 a = 0
    · rw [t]
      have e : (fun i : Nat => Int32.ofInt (I2 a (i : Int))) = fun i : Nat => Int32.ofInt (I' a (i : Int)) := funext fun i => oI_w (e3 (i : Int))
      exact congrArg (fun q => (Sum.inl (0, s.2.2.2 a, Sum.inl q) : va_E)) e
    · rw [e2 t]
theorem gl_J {C : jH → Option ((Int ⊕ Nat) × jH)} {M : jM → Option (Int × jM)} {tb : Nat → Int} (hS : ∀ {s : hS} {Q : hQ} {hm : hO} {I m : jM}, RelH s Q hm I m → s.1 ≤ 900000 → SimJ (C (hh s Q I)) (M m) tb s Q I) (R : RelL h) (h6 : h.1 ≤ 900000) : (∃ (v b : Int) (h1 h2 : jH) (m' : jM), C h = some (.inl v, h1) ∧ jLay h1 ∧ M (jmf (jof h1 (jw v))) = some (b, m') ∧ m' 76 0 = 0 ∧ jw b = jw v ∧ jaH h2 = jaH (jhm (jof h1 (jw v)) m') ∧ RelL h2 ∧ GrL h h2) ∨ (∃ (E : Nat) (b : Int) (h1 : jH) (m' : jM), C h = some (.inr E, h1) ∧ jLay h1 ∧ M (jmf h1) = some (b, m') ∧ m' 76 0 = tb E ∧ 1 ≤ tb E ∧ RelL (jhm h1 m') ∧ GrL h (jhm h1 m')) := by
  obtain ⟨ly, s, Q, hm, I, rfl, R⟩ := R
  have h6' : s.1 ≤ 900000 := h6
  rcases hS R h6' with ⟨v, b, s1, Q1, I1, J1, m1, c1, -, -, -, -, K1, G1, -⟩ | ⟨E, b, s1, Q1, I1, m1, c1, -, -, -, K1, G1, -⟩
  · left
    have R2 : RelH s Q hm I (jmf (jof (hh s1 Q1 I1) (jw v))) := RelH_rows R (fun a a1 a2 => by
      rw [jof_hh]
      show ims I1 152 (jiu (I1 152) 0 (jw v)) a = I a
      rw [ims_o (by omega)]
      exact (K1 a a1 (by omega)).2.2.2)
    rcases hS R2 h6' with ⟨v2, b2, s2, Q2, I2, J2, m2, d1, d2, d3, d4, dE, K2, G2, hm2, RR⟩ | ⟨E2, b2, s2, Q2, I2, m2, d1, -⟩
    · rw [c1] at d1
      obtain ⟨rfl, eh⟩ : v = v2 ∧ hh s1 Q1 I1 = hh s2 Q2 I2 := by
        have e := Option.some.inj d1
        exact ⟨Sum.inl.inj (congrArg Prod.fst e), congrArg Prod.snd e⟩
      rw [eh] at c1 d2
      have ly2 : jLay (hh s2 Q2 I2) := jLay_kp ly K2 G2.1 (by have := G2.2.1; omega)
      have j152 : J2 152 = I2 152 := (dE 152).1 (by decide)
      have E3 : Eqv s2 (ims I2 152 (jiu (I2 152) 0 (jw v))) (ims J2 152 (jiu (I2 152) 0 (jw v))) := fun a => by
        by_cases c : a = 152
        · rw [c, ims_e, ims_e]
          exact ⟨fun _ => rfl, fun _ => rfl, fun _ => rfl⟩
        · rw [ims_o c, ims_o c]
          exact dE a
      refine ⟨v, b2, hh s2 Q2 I2, jhm (hh s2 Q2 (ims J2 152 (jiu (I2 152) 0 (jw v)))) m2, m2, c1, ly2, d2, d3, d4, ?_, ?_, ?_⟩
      · rw [jof_hh]
        exact jaH_eqv E3
      · refine RelL_hm ?_ RR (fun a ha => ims_o (by omega))
        obtain ⟨y1, y2, y3, y4, y5, y6⟩ := ly2
        exact ⟨y1, y2, y3, y4, y5, y6⟩
      · exact ⟨G2.2.1, G2.2.2⟩
    · rw [c1] at d1
      exact absurd (congrArg Prod.fst (Option.some.inj d1)) (fun e => by cases e)
  · right
    have R2 : RelH s Q hm I (jmf (hh s1 Q1 I1)) := RelH_rows R (fun a a1 a2 => (K1 a a1 (by omega)).2.2.2)
    rcases hS R2 h6' with ⟨v2, b2, s2, Q2, I2, J2, m2, d1, -⟩ | ⟨E2, b2, s2, Q2, I2, m2, d1, d2, d3, d4, K2, G2, hm2, RR⟩
    · rw [c1] at d1
      exact absurd (congrArg Prod.fst (Option.some.inj d1)) (fun e => by cases e)
    · rw [c1] at d1
      obtain ⟨rfl, eh⟩ : E = E2 ∧ hh s1 Q1 I1 = hh s2 Q2 I2 := by
        have e := Option.some.inj d1
        exact ⟨Sum.inr.inj (congrArg Prod.fst e), congrArg Prod.snd e⟩
      rw [eh] at c1 d2
      have ly2 : jLay (hh s2 Q2 I2) := jLay_kp ly K2 G2.1 (by have := G2.2.1; omega)
      exact ⟨E, b2, hh s2 Q2 I2, m2, c1, ly2, d2, d3, d4, RelL_hm ly2 RR (fun a _ => rfl), ⟨G2.2.1, G2.2.2⟩⟩
/-- one turn of the law -/
def StL (o : Option ((Int × jH) ⊕ jH)) (i : Int) (h : jH) : Prop := ∃ g h' : jH, o = some (.inl (i + 8, g)) ∧ jaH h' = jaH g ∧ RelL h' ∧ GrL h h'
theorem okX (xs : Nat → Int32) (i j : Int) : okI (jX xs i j) := ⟨jX_lo xs i j, jX_hi xs i j⟩
end Glue
