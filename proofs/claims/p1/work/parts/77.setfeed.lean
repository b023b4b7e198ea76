/-! set and feed -/
theorem jH_ext {h g : jH} (e1 : h.1 = g.1) (e2 : h.2.1 = g.2.1) (e3 : ∀ a, jt h a = jt g a) (e4 : ∀ a, jl h a = jl g a) (e5 : ∀ a, ji h a = ji g a) (e6 : ∀ a, jr h a = jr g a) : h = g := by
  obtain ⟨n, s, f⟩ := h
  obtain ⟨n', s', f'⟩ := g
  have e : f = f' := by
    funext a
    have h3 := e3 a
    have h4 := e4 a
    have h5 := e5 a
    have h6 := e6 a
    unfold jt at h3
    unfold jl at h4
    unfold ji at h5
    unfold jr at h6
    exact Prod.ext h3 (Prod.ext h4 (Prod.ext h5 h6))
  dsimp only at e1 e2
  rw [e1, e2, e]
theorem c_185n {p q : Int} {h : jH} (h6 : h.1 < 1000000) (hp : jw p < 0 ∨ jw q < jw p) : jd_185 p q h = some (.inr 0, jth h 0) := by
  unfold jd_185 jd_185_b9
  by_cases h0 : jw p < 0
  · rw [if_pos h0, j6_e h6, Option.bind_some]
  · rw [if_neg h0, if_neg (by omega), j6_e h6, Option.bind_some]
def jlo (c : Nat) : Int := (jxv 1).getD c 0
def jhi (c : Nat) : Int := (jxv 2).getD c 0
def jgood (p0 p1 : Int) : Prop := 0 ≤ p0 ∧ p0 ≤ 7 ∧ ((p0 = 5 ∧ p1 = 0) ∨ (jlo p0.toNat ≤ p1 ∧ p1 ≤ jhi p0.toNat))
theorem jst_e {j c : Nat} {z : Int} (hz : jw z = c) (hc : c < (jxv j).length) : jst j z = some ((jxv j).getD c 0) := by
  unfold jst
  rw [hz, if_pos ⟨by omega, by omega⟩, Int.toNat_natCast]
theorem jlo_w : ∀ c : Nat, c < 8 → jw (jlo c) = jlo c ∧ jw (jhi c) = jhi c := by decide
theorem c_152n {p0 p1 : Int} {h : jH} (w0 : jw p0 = p0) (w1 : jw p1 = p1) (h6 : h.1 < 1000000) (hg : ¬ jgood p0 p1) : jd_152 0 p0 p1 h = some (.inr 0, jth h 0) := by
  unfold jd_152 jd_152_b43
  by_cases hw : 0 ≤ p0 ∧ p0 ≤ 7
  · rw [f_185 (by omega) (by rw [jw_7]; omega), jtb_l, Option.bind_some, w0, w1]
    have hc : ((p0.toNat : Nat) : Int) = p0 := Int.toNat_of_nonneg hw.1
    have e1 := jst_e (j := 1) (z := p0) (c := p0.toNat) (by omega) (show p0.toNat < 8 by omega)
    have e2 := jst_e (j := 2) (z := p0) (c := p0.toNat) (by omega) (show p0.toNat < 8 by omega)
    have e3 := jlo_w p0.toNat (by omega)
    have hno : ¬ (p0 = 5 ∧ p1 = 0) := fun e => hg ⟨hw.1, hw.2, Or.inl e⟩
    have ez : (if p0 = 5 then (if p1 = 0 then (1 : Int) else 0) else 0) = 0 := by
      split
      · rw [if_neg (by omega)]
      · rfl
    rw [ez, if_pos jw_0, e1, Option.bind_some, e2, Option.bind_some]
    show (if p1 < jw (jlo p0.toNat) then _ else (if p1 ≤ jw (jhi p0.toNat) then _ else _)) = _
    rw [e3.1, e3.2]
    by_cases hl : p1 < jlo p0.toNat
    · rw [if_pos hl, j6_e h6, Option.bind_some]
    · rw [if_neg hl, if_neg (fun e => hg ⟨hw.1, hw.2, Or.inr ⟨by omega, e⟩⟩), j6_e h6, Option.bind_some]
  · rw [c_185n h6 (by rw [jw_7]; omega), jtb_r]
theorem c_152 {p0 p1 : Int} {h : jH} (w0 : jw p0 = p0) (w1 : jw p1 = p1) (hx : 0 < h.1) (h6 : h.1 < 1000000) (ht : jt h 0 = 19) (hr : jr h 0 4 = some 3) (h3 : 3 < h.1) (t3 : jt h 3 = 0) (l3 : jl h 3 = 8) (hg : jgood p0 p1) : jd_152 0 p0 p1 h = some (.inl (ji h 3 p0), jsf h 3 (jiu (ji h 3) p0 p1)) := by
  obtain ⟨g0, g7, hg⟩ := hg
  have hc : ((p0.toNat : Nat) : Int) = p0 := Int.toNat_of_nonneg g0
  have e1 := jst_e (j := 1) (z := p0) (c := p0.toNat) (by omega) (show p0.toNat < 8 by omega)
  have e2 := jst_e (j := 2) (z := p0) (c := p0.toNat) (by omega) (show p0.toNat < 8 by omega)
  have e3 := jlo_w p0.toNat (by omega)
  have eb : jd_152_b53 0 p0 p1 h = some (.inl (ji h 3 p0), jsf h 3 (jiu (ji h 3) p0 p1)) := by
    unfold jd_152_b53
    have er : jgr h 0 11 4 = some (some 3) := by rw [jgr_e hx ht]; exact congrArg some hr
    rw [er, Option.bind_some, Option.bind_some, jai_e h3 (by omega) t3 g0 (by omega) (by omega), Option.bind_some, Option.bind_some, Option.bind_some, jta_e h3 t3 g0 (by omega) (by omega), Option.bind_some]
  unfold jd_152
  rw [f_185 (by omega) (by rw [jw_7]; omega), jtb_l, Option.bind_some, w0, w1, eb]
  by_cases hno : p0 = 5 ∧ p1 = 0
  · rw [if_pos hno.1, if_pos hno.2, if_neg (by decide)]
  · have ez : (if p0 = 5 then (if p1 = 0 then (1 : Int) else 0) else 0) = 0 := by
      split
      · rw [if_neg (by omega)]
      · rfl
    rw [ez, if_pos jw_0, e1, Option.bind_some, e2, Option.bind_some]
    show (if p1 < jw (jlo p0.toNat) then _ else (if p1 ≤ jw (jhi p0.toNat) then _ else _)) = _
    rw [e3.1, e3.2]
    rcases hg with hg | hg
    · exact absurd hg hno
    · rw [if_neg (by omega), if_pos hg.2]
/-- the model's own table of bounds -/
theorem m_296 {p0 p1 : Int} {m : jM} (w0 : jw p0 = p0) (w1 : jw p1 = p1) : jd_296 p0 p1 m = jd_296_b166 p0 p1 (if p0 = 0 then jd_204 p1 1 60 else (if p0 = 1 then jd_204 p1 1 12 else (if p0 = 2 then jd_204 p1 0 2 else (if p0 = 3 then jd_204 p1 0 8 else (if p0 = 4 then jd_204 p1 1 31 else (if p0 = 5 then (if p1 = 0 then 1 else (if jw (jd_204 p1 100 20000) = 0 then 0 else 1)) else (if p0 = 6 then jd_204 p1 50 10000 else (if p0 = 7 then jd_204 p1 0 1 else 0)))))))) m := by
  unfold jd_296
  rw [w0, w1]
theorem jin' {x lo hi : Int} (wx : jw x = x) (h1 : jwl lo = lo) (h2 : jwl hi = hi) : jw (jd_204 x lo hi) = 0 ↔ (x < lo ∨ hi < x) := by
  have := jin (x := x) h1 h2
  rw [wx] at this
  exact this
theorem m_296x {p0 p1 : Int} (w1 : jw p1 = p1) : jw (if p0 = 0 then jd_204 p1 1 60 else (if p0 = 1 then jd_204 p1 1 12 else (if p0 = 2 then jd_204 p1 0 2 else (if p0 = 3 then jd_204 p1 0 8 else (if p0 = 4 then jd_204 p1 1 31 else (if p0 = 5 then (if p1 = 0 then 1 else (if jw (jd_204 p1 100 20000) = 0 then 0 else 1)) else (if p0 = 6 then jd_204 p1 50 10000 else (if p0 = 7 then jd_204 p1 0 1 else 0)))))))) = 0 ↔ ¬ jgood p0 p1 := by
  unfold jgood
  by_cases h0 : p0 = 0
  · subst h0
    rw [show jlo (0 : Int).toNat = 1 from rfl, show jhi (0 : Int).toNat = 60 from rfl]
    rw [if_pos rfl, jin' w1 (by decide) (by decide)]
    omega
  by_cases h1 : p0 = 1
  · subst h1
    rw [show jlo (1 : Int).toNat = 1 from rfl, show jhi (1 : Int).toNat = 12 from rfl]
    rw [if_neg (show ¬ (1 : Int) = 0 by decide), if_pos rfl, jin' w1 (by decide) (by decide)]
    omega
  by_cases h2 : p0 = 2
  · subst h2
    rw [show jlo (2 : Int).toNat = 0 from rfl, show jhi (2 : Int).toNat = 2 from rfl]
    rw [if_neg (show ¬ (2 : Int) = 0 by decide), if_neg (show ¬ (2 : Int) = 1 by decide), if_pos rfl, jin' w1 (by decide) (by decide)]
    omega
  by_cases h3 : p0 = 3
  · subst h3
    rw [show jlo (3 : Int).toNat = 0 from rfl, show jhi (3 : Int).toNat = 8 from rfl]
    rw [if_neg (show ¬ (3 : Int) = 0 by decide), if_neg (show ¬ (3 : Int) = 1 by decide), if_neg (show ¬ (3 : Int) = 2 by decide), if_pos rfl, jin' w1 (by decide) (by decide)]
    omega
  by_cases h4 : p0 = 4
  · subst h4
    rw [show jlo (4 : Int).toNat = 1 from rfl, show jhi (4 : Int).toNat = 31 from rfl]
    rw [if_neg (show ¬ (4 : Int) = 0 by decide), if_neg (show ¬ (4 : Int) = 1 by decide), if_neg (show ¬ (4 : Int) = 2 by decide), if_neg (show ¬ (4 : Int) = 3 by decide), if_pos rfl, jin' w1 (by decide) (by decide)]
    omega
  by_cases h5 : p0 = 5
  · subst h5
    rw [show jlo (5 : Int).toNat = 100 from rfl, show jhi (5 : Int).toNat = 20000 from rfl]
    rw [if_neg (show ¬ (5 : Int) = 0 by decide), if_neg (show ¬ (5 : Int) = 1 by decide), if_neg (show ¬ (5 : Int) = 2 by decide), if_neg (show ¬ (5 : Int) = 3 by decide), if_neg (show ¬ (5 : Int) = 4 by decide), if_pos rfl]
    by_cases z : p1 = 0
    · rw [if_pos z, jw_1]
      omega
    · rw [if_neg z]
      by_cases y : jw (jd_204 p1 100 20000) = 0
      · rw [if_pos y, jw_0]
        have := (jin' w1 (by decide) (by decide)).mp y
        omega
      · rw [if_neg y, jw_1]
        have : ¬ (p1 < 100 ∨ 20000 < p1) := fun e => y ((jin' w1 (by decide) (by decide)).mpr e)
        omega
  by_cases h6 : p0 = 6
  · subst h6
    rw [show jlo (6 : Int).toNat = 50 from rfl, show jhi (6 : Int).toNat = 10000 from rfl]
    rw [if_neg (show ¬ (6 : Int) = 0 by decide), if_neg (show ¬ (6 : Int) = 1 by decide), if_neg (show ¬ (6 : Int) = 2 by decide), if_neg (show ¬ (6 : Int) = 3 by decide), if_neg (show ¬ (6 : Int) = 4 by decide), if_neg (show ¬ (6 : Int) = 5 by decide), if_pos rfl, jin' w1 (by decide) (by decide)]
    omega
  by_cases h7 : p0 = 7
  · subst h7
    rw [show jlo (7 : Int).toNat = 0 from rfl, show jhi (7 : Int).toNat = 1 from rfl]
    rw [if_neg (show ¬ (7 : Int) = 0 by decide), if_neg (show ¬ (7 : Int) = 1 by decide), if_neg (show ¬ (7 : Int) = 2 by decide), if_neg (show ¬ (7 : Int) = 3 by decide), if_neg (show ¬ (7 : Int) = 4 by decide), if_neg (show ¬ (7 : Int) = 5 by decide), if_neg (show ¬ (7 : Int) = 6 by decide), if_pos rfl, jin' w1 (by decide) (by decide)]
    omega
  rw [if_neg h0, if_neg h1, if_neg h2, if_neg h3, if_neg h4, if_neg h5, if_neg h6, if_neg h7, jw_0]
  omega
theorem m_296n {p0 p1 : Int} {m : jM} (w0 : jw p0 = p0) (w1 : jw p1 = p1) (hg : ¬ jgood p0 p1) : jd_296 p0 p1 m = some (0, jms m 76 0 1) := by
  rw [m_296 w0 w1]
  unfold jd_296_b166
  rw [if_pos ((m_296x w1).mpr hg), Option.bind_some, if_neg (g_c1 g_1)]
theorem m_296g {p0 p1 : Int} {m : jM} (w0 : jw p0 = p0) (w1 : jw p1 = p1) (hg : jgood p0 p1) : jd_296 p0 p1 m = some (m 82 p0, jms (jms m 76 0 0) 82 p0 p1) := by
  rw [m_296 w0 w1]
  unfold jd_296_b166
  rw [if_neg (fun e => (m_296x w1).mp e hg), Option.bind_some, if_pos (by rw [jms_s]; decide)]
  have e : 0 ≤ jw p0 ∧ jw p0 < ((jmt 82).2 : Int) := by
    rw [w0]
    exact ⟨hg.1, Int.lt_of_le_of_lt hg.2.1 (by decide)⟩
  unfold jma jmw
  rw [if_pos e, if_pos e, Option.bind_some, Option.bind_some, w0, jms_a (by decide)]
/-- feed -/
def jfd (h : jH) (p0 t k : Int) : jH := jsf (jsf h 0 (jiu (ji h 0) 3 (t + k))) 2 (fun i => if t ≤ i ∧ i < t + k then jwb (jlushr p0 (8 * (i - t))) else ji h 2 i)
theorem jfd_1 {h : jH} {p0 t k : Int} : (jfd h p0 t k).1 = h.1 := rfl
theorem jfd_t {h : jH} {p0 t k : Int} {a : Nat} : jt (jfd h p0 t k) a = jt h a := by unfold jfd; rw [jsf_t, jsf_t]
theorem jfd_l {h : jH} {p0 t k : Int} {a : Nat} : jl (jfd h p0 t k) a = jl h a := by unfold jfd; rw [jsf_l, jsf_l]
theorem jfd_r {h : jH} {p0 t k : Int} {a : Nat} : jr (jfd h p0 t k) a = jr h a := by unfold jfd; rw [jsf_r, jsf_r]
theorem jfd_i0 {h : jH} {p0 t k : Int} : ji (jfd h p0 t k) 0 = jiu (ji h 0) 3 (t + k) := by unfold jfd; rw [jsf_in (by decide), jsf_is]
theorem jfd_i2 {h : jH} {p0 t k : Int} : ji (jfd h p0 t k) 2 = fun i => if t ≤ i ∧ i < t + k then jwb (jlushr p0 (8 * (i - t))) else ji h 2 i := by unfold jfd; rw [jsf_is]
theorem jfd_in {h : jH} {p0 t k : Int} {a : Nat} (h0 : a ≠ 0) (h2 : a ≠ 2) : ji (jfd h p0 t k) a = ji h a := by unfold jfd; rw [jsf_in h2, jsf_in h0]
theorem jiu_u {f : Int → Int} {k v u : Int} : jiu (jiu f k v) k u = jiu f k u := by
  funext j
  unfold jiu
  split <;> rfl
theorem c_148s {h : jH} {p0 p1 t k : Int} (hx : 0 < h.1) (ht : jt h 0 = 19) (hr : jr h 0 2 = some 2) (h2 : 2 < h.1) (t2 : jt h 2 = 1) (l2 : jl h 2 = 4000) (w1 : jw p1 = p1) (k0 : 0 ≤ k) (k1 : k < p1) (k8 : p1 ≤ 8) (t0 : 0 ≤ t) (t1 : t + p1 ≤ 4000) : jd_148_s46 0 p0 p1 k (jfd h p0 t k) = some (.inl (k + 1, jfd h p0 t (k + 1))) := by
  unfold jd_148_s46
  have wk : jw k = k := jw_s (by omega) (by omega)
  rw [w1, wk, if_neg (by omega)]
  rw [jgr_e (by rw [jfd_1]; exact hx) (by rw [jfd_t]; exact ht), Option.bind_some, jgi_e (by rw [jfd_1]; exact hx) (by rw [jfd_t]; exact ht), Option.bind_some, jpi_e (by rw [jfd_1]; exact hx) (by rw [jfd_t]; exact ht), Option.bind_some]
  rw [show jr (jfd h p0 t k) 0 ((2 : Nat) : Int) = some 2 by rw [jfd_r]; exact hr, Option.bind_some]
  have e3 : ji (jfd h p0 t k) 0 ((3 : Nat) : Int) = t + k := by rw [jfd_i0]; exact jiu_s
  rw [e3]
  rw [jta_e (by rw [jsf_1, jfd_1]; exact h2) (by rw [jsf_t, jfd_t]; exact t2) (by omega) (by rw [jsf_l, jfd_l, l2]; omega) (by rw [jsf_l, jfd_l, l2]; decide), Option.bind_some]
  refine congrArg (fun q => some (Sum.inl (k + 1, q))) ?_
  refine jH_ext rfl rfl (fun a => ?_) (fun a => ?_) (fun a => ?_) (fun a => ?_)
  · rw [jsf_t, jsf_t, jfd_t, jfd_t]
  · rw [jsf_l, jsf_l, jfd_l, jfd_l]
  · by_cases a2 : a = 2
    · subst a2
      rw [jsf_is, jfd_i2, jsf_in (by decide), jfd_i2]
      funext i
      unfold jiu
      by_cases hi : i = t + k
      · subst hi
        rw [if_pos rfl, if_pos (by omega), show t + k - t = k by omega]
      · rw [if_neg hi]
        dsimp only
        by_cases hj : t ≤ i ∧ i < t + k
        · rw [if_pos hj, if_pos (by omega)]
        · rw [if_neg hj, if_neg (by omega)]
    · rw [jsf_in a2]
      by_cases a0 : a = 0
      · subst a0
        rw [jsf_is, jfd_i0, jfd_i0]
        refine (jiu_u).trans ?_
        rw [show t + k + 1 = t + (k + 1) by omega]
      · rw [jsf_in a0, jfd_in a0 a2, jfd_in a0 a2]
  · rw [jsf_r, jsf_r, jfd_r, jfd_r]
theorem jfd_0 {h : jH} {p0 : Int} : jfd h p0 (ji h 0 3) 0 = h := by
  refine jH_ext rfl rfl (fun a => jfd_t) (fun a => jfd_l) (fun a => ?_) (fun a => jfd_r)
  by_cases a2 : a = 2
  · subst a2
    rw [jfd_i2]
    funext i
    rw [if_neg (by omega)]
  · by_cases a0 : a = 0
    · subst a0
      rw [jfd_i0]
      funext i
      unfold jiu
      split
      · next e => rw [e]; omega
      · rfl
    · exact jfd_in a0 a2
theorem jloop {S X : Type} {f : S → Option (S ⊕ X)} (I : Int → S) {n : Int} {x : X} (h0 : 0 ≤ n) (hn : n < 100000000) (hI : ∀ k : Int, 0 ≤ k → k < n → f (I k) = some (.inl (I (k + 1)))) (hx : f (I n) = some (.inr x)) : jlp f jfu (I 0) = some x := by
  have e := jlp_all (f := f) (fun k : Nat => I (k : Int)) n.toNat (x := x) (fun k hk => ?_) ?_ (fu := jfu) (by unfold jfu; omega)
  · exact e
  · have := hI (k : Int) (by omega) (by omega)
    rw [this]
    rfl
  · rw [Int.toNat_of_nonneg h0]
    exact hx
theorem c_148 {h : jH} {p0 p1 : Int} (hx : 0 < h.1) (ht : jt h 0 = 19) (hr : jr h 0 2 = some 2) (h2 : 2 < h.1) (t2 : jt h 2 = 1) (l2 : jl h 2 = 4000) (w1 : jw p1 = p1) (p1a : 1 ≤ p1) (p1b : p1 ≤ 8) (t0 : 0 ≤ ji h 0 3) (t1 : ji h 0 3 + p1 ≤ 4000) : jd_148 0 p0 p1 h = some (.inl (ji h 0 3 + p1), jfd h p0 (ji h 0 3) p1) := by
  unfold jd_148
  have e0 : jgi h 0 11 3 = some (ji h 0 3) := jgi_e hx ht
  rw [w1, if_neg (by omega), if_pos p1b, e0, Option.bind_some, jw_s (by omega) (by omega), if_pos t1]
  have el : jd_148_l46 0 p0 p1 0 h = some (jfd h p0 (ji h 0 3) p1) := by
    unfold jd_148_l46
    have := jloop (f := fun s : Int × jH => jd_148_s46 0 p0 p1 s.1 s.2) (fun k => (k, jfd h p0 (ji h 0 3) k)) (n := p1) (x := jfd h p0 (ji h 0 3) p1) (by omega) (by omega) (fun k k0 k1 => c_148s hx ht hr h2 t2 l2 w1 k0 k1 p1b t0 t1) (by
      show jd_148_s46 0 p0 p1 p1 _ = _
      unfold jd_148_s46
      rw [w1, if_pos (by omega)])
    rw [jfd_0] at this
    exact this
  rw [el, Option.bind_some, jgi_e (by rw [jfd_1]; exact hx) (by rw [jfd_t]; exact ht), Option.bind_some, jfd_i0]
  refine congrArg (fun q => some (Sum.inl q, _)) ?_
  exact jiu_s
theorem c_148n {h : jH} {p0 p1 : Int} (w1 : jw p1 = p1) (h6 : h.1 < 1000000) (hp : p1 < 1 ∨ 8 < p1) : jd_148 0 p0 p1 h = some (.inr 0, jth h 0) := by
  unfold jd_148 jd_148_b11
  rw [w1]
  by_cases hq : p1 < 1
  · rw [if_pos hq, j6_e h6, Option.bind_some]
  · rw [if_neg hq, if_neg (by omega), j6_e h6, Option.bind_some]
/-- the model's cells, one replaced -/
def jmu (m : jM) (a : Nat) (f : Int → Int) : jM := fun b => if b = a then f else m b
theorem jmu_s {m : jM} {a : Nat} {f : Int → Int} : jmu m a f a = f := if_pos rfl
theorem jmu_n {m : jM} {a b : Nat} {f : Int → Int} (h : b ≠ a) : jmu m a f b = m b := if_neg h
theorem jms_u {m : jM} {a : Nat} {k v : Int} : jms m a k v = jmu m a (jiu (m a) k v) := rfl
theorem jmu_u {m : jM} {a : Nat} {f g : Int → Int} : jmu (jmu m a f) a g = jmu m a g := by
  funext b
  unfold jmu
  split <;> rfl
theorem jmu_id {m : jM} {a : Nat} {f : Int → Int} (h : f = m a) : jmu m a f = m := by
  funext b
  unfold jmu
  split
  · next e => rw [e, h]
  · rfl
theorem jmw_e {m : jM} {a : Nat} {z v : Int} (w : jw z = z) (h0 : 0 ≤ z) (h1 : z < ((jmt a).2 : Int)) : jmw m a z v = some (jmu m a (jiu (m a) z v)) := by
  unfold jmw
  rw [w, if_pos ⟨h0, h1⟩]
  rfl
theorem jma_e {m : jM} {a : Nat} {z : Int} (w : jw z = z) (h0 : 0 ≤ z) (h1 : z < ((jmt a).2 : Int)) : jma m a z = some (m a z) := by
  unfold jma
  rw [w, if_pos ⟨h0, h1⟩]
def jfe (m : jM) (p0 t k : Int) : jM := jmu m 80 (fun i => if t ≤ i ∧ i < t + k then jland (jlushr p0 (8 * (i - t))) 255 else m 80 i)
theorem m_223l {m : jM} {p0 p1 : Int} (w1 : jw p1 = p1) (p1a : 1 ≤ p1) (p1b : p1 ≤ 8) (t0 : 0 ≤ m 76 5) (t1 : m 76 5 + p1 ≤ 4000) : jd_223_l49 p0 p1 0 m = some (jfe m p0 (m 76 5) p1) := by
  unfold jd_223_l49
  have key := jloop (f := fun s : Int × jM => jd_223_s49 p0 p1 s.1 s.2) (fun k => (k, jfe m p0 (m 76 5) k)) (n := p1) (x := jfe m p0 (m 76 5) p1) (by omega) (by omega) (fun k k0 k1 => by
    show jd_223_s49 p0 p1 k (jfe m p0 (m 76 5) k) = some (.inl (k + 1, jfe m p0 (m 76 5) (k + 1)))
    unfold jd_223_s49
    have e5 : jfe m p0 (m 76 5) k 76 5 = m 76 5 := by unfold jfe; rw [jmu_n (by decide)]
    have wk : jw k = k := jw_s (by omega) (by omega)
    rw [w1, wk, if_neg (by omega), e5, jmw_e (jw_s (by omega) (by omega)) (by omega) (show m 76 5 + k < 4000 by omega), Option.bind_some]
    refine congrArg (fun q => some (Sum.inl (k + 1, q))) ?_
    unfold jfe
    rw [jmu_u, jmu_s]
    refine congrArg (jmu m 80) ?_
    funext i
    unfold jiu
    by_cases hi : i = m 76 5 + k
    · subst hi
      rw [if_pos rfl, if_pos (by omega), show m 76 5 + k - m 76 5 = k by omega]
    · rw [if_neg hi]
      dsimp only
      by_cases hj : m 76 5 ≤ i ∧ i < m 76 5 + k
      · rw [if_pos hj, if_pos (by omega)]
      · rw [if_neg hj, if_neg (by omega)]) (by
    show jd_223_s49 p0 p1 p1 _ = _
    unfold jd_223_s49
    rw [w1, if_pos (by omega)])
  have e0 : jfe m p0 (m 76 5) 0 = m := by
    unfold jfe
    refine jmu_id ?_
    funext i
    rw [if_neg (by omega)]
  rw [e0] at key
  exact key
theorem m_223 {m : jM} {p0 p1 : Int} (w1 : jw p1 = p1) (p1a : 1 ≤ p1) (p1b : p1 ≤ 8) (t0 : 0 ≤ m 76 5) (t1 : m 76 5 + p1 ≤ 4000) : jd_223 p0 p1 m = some (m 76 5 + p1, jms (jfe (jms m 76 0 0) p0 (m 76 5) p1) 76 5 (m 76 5 + p1)) := by
  unfold jd_223 jd_223_b34
  have h5 : jms m 76 0 0 76 5 = m 76 5 := jms_k (by decide)
  rw [if_neg (jin1 (by decide) (by decide) (by omega)), jw_s (z := m 76 5 + p1) (by omega) (by omega), if_pos t1, Option.bind_some, if_pos (by rw [jms_s]; decide), m_223l w1 p1a p1b (by rw [h5]; exact t0) (by rw [h5]; exact t1), Option.bind_some, Option.bind_some, h5]
  have e5 : jfe (jms m 76 0 0) p0 (m 76 5) p1 76 5 = m 76 5 := by
    unfold jfe
    rw [jmu_n (by decide)]
    exact h5
  rw [e5, jms_s]
theorem m_223n {m : jM} {p0 p1 : Int} (w1 : jw p1 = p1) (hp : p1 < 1 ∨ 8 < p1) : jd_223 p0 p1 m = some (0, jms m 76 0 1) := by
  unfold jd_223 jd_223_b34
  rw [if_pos (jin0 (by decide) (by decide) (by omega)), Option.bind_some, if_neg (g_c1 g_1)]
