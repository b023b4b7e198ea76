/-! the law's step out of what class and model answer -/
def jX (xs : Nat → Int32) (i j : Int) : Int := (xs (i + j).toNat).toInt
theorem jsc_e {L : Nat} {xs : Nat → Int32} {i j : Int} (h0 : 0 ≤ i + j) (h1 : i + j < L) (hL : L ≤ 1000000) : jsc L xs (i + j) = some (jX xs i j) := by
  have e : jw (i + j) = i + j := jw_n h0 h1 (by omega)
  unfold jsc
  rw [e]
  exact if_pos ⟨h0, h1⟩
theorem jX_lo (xs : Nat → Int32) (i j : Int) : -2147483648 ≤ jX xs i j := Int32.le_toInt _
theorem jX_hi (xs : Nat → Int32) (i j : Int) : jX xs i j < 2147483648 := Int32.toInt_lt _
theorem jX_w (xs : Nat → Int32) (i j : Int) : jw (jX xs i j) = jX xs i j := jw_s (jX_lo xs i j) (jX_hi xs i j)
def jLay (h : jH) : Prop := 152 < h.1 ∧ h.1 ≤ 1000000 ∧ (∀ a : Nat, a < 152 → 76 ≤ a → jt h a = (jmt a).1 ∧ jl h a = (jmt a).2) ∧ (∀ k : Nat, k < 116 → jr h 76 (k : Int) = jmr k) ∧ jt h 152 = 3 ∧ jl h 152 = 1
theorem jmt3 : ∀ a : Nat, a < 152 → 76 < a → (jmt a).1 < 3 := by decide
theorem jaC_3 {t n : Nat} {f : Int → Int} {g g' : Int → Option Nat} (h : t < 3) : jaC (t, n, f, g) = jaC (t, n, f, g') := by
  match t, h with
  | 0, _ => rfl
  | 1, _ => rfl
  | 2, _ => rfl
theorem jLay_aH {h : jH} (ly : jLay h) : jaH (jhm h (jmf h)) = jaH h := by
  obtain ⟨h1, h2, hla, hlr, _, _⟩ := ly
  have key : (fun a => jaC ((jhm h (jmf h)).2.2 a)) = fun a => jaC (h.2.2 a) := by
    funext a
    by_cases ha : 76 ≤ a ∧ a < 152
    · rw [jhm_at ha]
      obtain ⟨ht, hl⟩ := hla a ha.2 ha.1
      rw [← ht, ← hl]
      by_cases h7 : a = 76
      · subst h7
        have e20 : jt h 76 = 12 + 8 := ht.trans rfl
        rw [jaC_obj (c := 12) (x := (jt h 76, jl h 76, jmf h 76, jmo 76)) e20, jaC_obj (c := 12) (x := h.2.2 76) e20]
        refine congrArg (fun l => Sum.inr (12, l)) (List.map_congr_left (fun j hj => ?_))
        have hj' : j < 116 := List.mem_range.mp hj
        have e1 : jmo 76 (j : Int) = jr h 76 (j : Int) := by
          rw [hlr j hj']
          show jmr (j : Int).toNat = jmr j
          rw [Int.toNat_natCast]
        show jfV 12 j (jmf h 76 j) (jmo 76 (j : Int)) = jfV 12 j (jmf h 76 j) (jr h 76 (j : Int))
        rw [e1]
      · have h3 : jt h a < 3 := by rw [ht]; exact jmt3 a ha.2 (by omega)
        exact jaC_3 h3
    · have e : (jhm h (jmf h)).2.2 a = h.2.2 a := if_neg ha
      rw [e]
  exact congrArg (fun q => (h.1, h.2.1, q)) key
theorem jlk_e {h : jH} (ly : jLay h) : jlk h 76 = some () := by
  have e := jLay_aH ly
  obtain ⟨h1, h2, hla, _, _, _⟩ := ly
  unfold jlk
  exact if_pos ⟨rfl, by omega, h2, (hla 76 (by decide) (by decide)).1, e⟩
theorem jhm_i {h : jH} {m : jM} {a : Nat} (ha : 76 ≤ a ∧ a < 152) : ji (jhm h m) a = m a := by
  unfold ji
  rw [jhm_at ha]
theorem jhm_n {h : jH} {m : jM} {a : Nat} (ha : ¬ (76 ≤ a ∧ a < 152)) : (jhm h m).2.2 a = h.2.2 a := if_neg ha
theorem jmf_hm {h : jH} {m : jM} {a : Nat} (ha : 76 ≤ a ∧ a < 152) : jmf (jhm h m) a = m a := jhm_i ha
theorem jLay_hm {h : jH} {m : jM} (ly : jLay h) : jLay (jhm h m) := by
  obtain ⟨h1, h2, hla, hlr, h5, h6⟩ := ly
  refine ⟨h1, h2, fun a h3 h4 => ?_, fun k hk => ?_, ?_, ?_⟩
  · unfold jt jl
    rw [jhm_at ⟨h4, h3⟩]
    exact ⟨rfl, rfl⟩
  · unfold jr
    rw [jhm_at (by decide)]
    show jmr (k : Int).toNat = jmr k
    rw [Int.toNat_natCast]
  · unfold jt
    rw [jhm_n (by decide)]
    exact h5
  · unfold jl
    rw [jhm_n (by decide)]
    exact h6
theorem jLay_sf {h : jH} {s : Nat} {f : Int → Int} (ly : jLay h) : jLay (jsf h s f) := by
  obtain ⟨h1, h2, hla, hlr, h5, h6⟩ := ly
  exact ⟨h1, h2, fun a h3 h4 => by rw [jsf_t, jsf_l]; exact hla a h3 h4, fun k hk => by rw [jsf_r]; exact hlr k hk, by rw [jsf_t]; exact h5, by rw [jsf_l]; exact h6⟩
theorem jLay_rf {h : jH} {s : Nat} {F : Int → Option Nat} (hs : s ≠ 76) (ly : jLay h) : jLay (jrf h s F) := by
  obtain ⟨h1, h2, hla, hlr, h5, h6⟩ := ly
  exact ⟨h1, h2, fun a h3 h4 => by rw [jrf_t, jrf_l]; exact hla a h3 h4, fun k hk => by rw [jrf_rn (fun e => hs e.symm)]; exact hlr k hk, by rw [jrf_t]; exact h5, by rw [jrf_l]; exact h6⟩
theorem jLay_mk {h : jH} {n : Nat} {x : jC} (h6 : h.1 < 1000000) (ly : jLay h) : jLay (jmk h n x) := by
  obtain ⟨h1, h2, hla, hlr, h5, h7⟩ := ly
  refine ⟨?_, ?_, fun a h3 h4 => ?_, fun k hk => ?_, ?_, ?_⟩
  · rw [jmk_1]; omega
  · rw [jmk_1]; omega
  · rw [jmk_t, jmk_l, if_neg (by omega), if_neg (by omega)]
    exact hla a h3 h4
  · rw [jmk_r, if_neg (by omega)]
    exact hlr k hk
  · rw [jmk_t, if_neg (by omega)]
    exact h5
  · rw [jmk_l, if_neg (by omega)]
    exact h7
def jof (h : jH) (w : Int) : jH := jsf h 152 (jiu (ji h 152) 0 w)
theorem jof_e {h : jH} {w : Int} (ly : jLay h) : jta h 152 3 0 w = some (jof h w) := jta_e ly.1 ly.2.2.2.2.1 (by decide) (by rw [ly.2.2.2.2.2]; decide) (by rw [ly.2.2.2.2.2]; decide)
theorem jof_al {h : jH} {w : Int} {m : jM} (ly : jLay h) : jal (jhm (jof h w) m) 152 0 = some w := by
  have l2 : jLay (jhm (jof h w) m) := jLay_hm (jLay_sf ly)
  rw [jal_e l2.1 l2.2.2.2.2.1 (by decide) (by rw [l2.2.2.2.2.2]; decide) (by rw [l2.2.2.2.2.2]; decide)]
  have e : ji (jhm (jof h w) m) 152 = ji (jof h w) 152 := by
    unfold ji
    rw [jhm_n (by decide)]
  rw [e]
  unfold jof
  rw [jsf_is, jiu_s]
theorem jtc_l {A C : Type} {v : A} {h : jH} {f : A → jH → Option C} {g : Nat → jH → Option C} : jtc (some (.inl v, h)) f g = f v h := rfl
theorem jtc_r {A C : Type} {E : Nat} {h : jH} {f : A → jH → Option C} {g : Nat → jH → Option C} : jtc (some (.inr E, h)) f g = g E h := rfl
theorem jtb_l {A B : Type} {v : A} {h : jH} {f : A → jH → Option ((B ⊕ Nat) × jH)} : jtb (some (.inl v, h)) f = f v h := rfl
theorem jtb_r {A B : Type} {E : Nat} {h : jH} {f : A → jH → Option ((B ⊕ Nat) × jH)} : jtb (some (.inr E, h)) f = some (.inr E, h) := rfl
theorem jw_0 : jw 0 = 0 := by decide
theorem jw_1 : jw 1 = 1 := by decide
theorem jw_2 : jw 2 = 2 := by decide
theorem jw_3 : jw 3 = 3 := by decide
theorem jthr {h : jH} {m : jM} : jd_203 (jmf (jhm h m)) = m 76 0 := congrFun (jmf_hm (by decide)) 0

theorem lwr_0 {L : Nat} {xs : Nat → Int32} {i b : Int} {h h1 : jH} {m' : jM} (hi : 0 ≤ i) (hL : i + 8 ≤ L) (hLL : L ≤ 1000) (hx : 0 < h.1) (ht : jt h 0 = 19) {v : Int} (hc : jd_140 0 (jX xs i 1) (jX xs i 2) (jX xs i 3) (jX xs i 4) (jX xs i 5) h = some (.inl v, h1)) (ly : jLay h1) (hm : jd_214 (jX xs i 1) (jX xs i 2) (jX xs i 3) (jX xs i 4) (jX xs i 5) (jmf (jof h1 (jw v))) = some (b, m')) (hk : m' 76 0 = 0) (hb : jw b = jw v) : jd_403_b224 L xs (some 0) (some 76) (some 152) i h = some (.inl (i + 8, jhm (jof h1 (jw v)) m')) := by
  have e1 : jsc L xs (i + 1) = some (jX xs i 1) := jsc_e (by omega) (by omega) (by omega)
  have e2 : jsc L xs (i + 2) = some (jX xs i 2) := jsc_e (by omega) (by omega) (by omega)
  have e3 : jsc L xs (i + 3) = some (jX xs i 3) := jsc_e (by omega) (by omega) (by omega)
  have e4 : jsc L xs (i + 4) = some (jX xs i 4) := jsc_e (by omega) (by omega) (by omega)
  have e5 : jsc L xs (i + 5) = some (jX xs i 5) := jsc_e (by omega) (by omega) (by omega)
  have l1 : jlk (jof h1 (jw v)) 76 = some () := jlk_e (jLay_sf ly)
  have l2 : jlk (jhm (jof h1 (jw v)) m') 76 = some () := jlk_e (jLay_hm (jLay_sf ly))
  have o1 : jta h1 152 3 0 (jw v) = some (jof h1 (jw v)) := jof_e ly
  have o2 : jal (jhm (jof h1 (jw v)) m') 152 0 = some (jw v) := jof_al ly
  unfold jd_403_b224 jd_365
  simp only [e1, e2, e3, e4, e5, Option.bind_some, jck_e hx ht, hc, l1, hm, l2, jthr, hk, if_true, eq_self, jtc_l, o1, o2, jw_0, jwl_jw, hb]
  rfl
theorem lwt_0_0 {L : Nat} {xs : Nat → Int32} {i b : Int} {h h1 : jH} {m' : jM} (hi : 0 ≤ i) (hL : i + 8 ≤ L) (hLL : L ≤ 1000) (hx : 0 < h.1) (ht : jt h 0 = 19) (hc : jd_140 0 (jX xs i 1) (jX xs i 2) (jX xs i 3) (jX xs i 4) (jX xs i 5) h = some (.inr 0, h1)) (ly : jLay h1) (hm : jd_214 (jX xs i 1) (jX xs i 2) (jX xs i 3) (jX xs i 4) (jX xs i 5) (jmf h1) = some (b, m')) (hk : m' 76 0 = 1) : jd_403_b224 L xs (some 0) (some 76) (some 152) i h = some (.inl (i + 8, jhm h1 m')) := by
  have e1 : jsc L xs (i + 1) = some (jX xs i 1) := jsc_e (by omega) (by omega) (by omega)
  have e2 : jsc L xs (i + 2) = some (jX xs i 2) := jsc_e (by omega) (by omega) (by omega)
  have e3 : jsc L xs (i + 3) = some (jX xs i 3) := jsc_e (by omega) (by omega) (by omega)
  have e4 : jsc L xs (i + 4) = some (jX xs i 4) := jsc_e (by omega) (by omega) (by omega)
  have e5 : jsc L xs (i + 5) = some (jX xs i 5) := jsc_e (by omega) (by omega) (by omega)
  have l1 : jlk h1 76 = some () := jlk_e ly
  have l2 : jlk (jhm h1 m') 76 = some () := jlk_e (jLay_hm ly)
  unfold jd_403_b224 jd_365
  simp only [e1, e2, e3, e4, e5, Option.bind_some, jck_e hx ht, hc, l1, hm, l2, jthr, hk, if_true, eq_self, jtc_r, jw_1, if_neg (show ¬ (1 : Int) = 0 by decide)]
  rfl
theorem lwt_0_1 {L : Nat} {xs : Nat → Int32} {i b : Int} {h h1 : jH} {m' : jM} (hi : 0 ≤ i) (hL : i + 8 ≤ L) (hLL : L ≤ 1000) (hx : 0 < h.1) (ht : jt h 0 = 19) (hc : jd_140 0 (jX xs i 1) (jX xs i 2) (jX xs i 3) (jX xs i 4) (jX xs i 5) h = some (.inr 1, h1)) (ly : jLay h1) (hm : jd_214 (jX xs i 1) (jX xs i 2) (jX xs i 3) (jX xs i 4) (jX xs i 5) (jmf h1) = some (b, m')) (hk : m' 76 0 = 2) : jd_403_b224 L xs (some 0) (some 76) (some 152) i h = some (.inl (i + 8, jhm h1 m')) := by
  have e1 : jsc L xs (i + 1) = some (jX xs i 1) := jsc_e (by omega) (by omega) (by omega)
  have e2 : jsc L xs (i + 2) = some (jX xs i 2) := jsc_e (by omega) (by omega) (by omega)
  have e3 : jsc L xs (i + 3) = some (jX xs i 3) := jsc_e (by omega) (by omega) (by omega)
  have e4 : jsc L xs (i + 4) = some (jX xs i 4) := jsc_e (by omega) (by omega) (by omega)
  have e5 : jsc L xs (i + 5) = some (jX xs i 5) := jsc_e (by omega) (by omega) (by omega)
  have l1 : jlk h1 76 = some () := jlk_e ly
  have l2 : jlk (jhm h1 m') 76 = some () := jlk_e (jLay_hm ly)
  unfold jd_403_b224 jd_365
  simp only [e1, e2, e3, e4, e5, Option.bind_some, jck_e hx ht, hc, l1, hm, l2, jthr, hk, if_true, eq_self, jtc_r, if_neg (show ¬ (1 : Nat) = 0 by decide), jw_2, if_neg (show ¬ (2 : Int) = 0 by decide)]
  rfl
theorem lwr_1 {L : Nat} {xs : Nat → Int32} {i b : Int} {h h1 : jH} {m' : jM} (hi : 0 ≤ i) (hL : i + 8 ≤ L) (hLL : L ≤ 1000) (hx : 0 < h.1) (ht : jt h 0 = 19) {v : Int} (hc : jd_141 0 (jX xs i 1) (jX xs i 2) (jX xs i 3) (jX xs i 4) (jX xs i 5) (jX xs i 6) (jX xs i 7) h = some (.inl v, h1)) (ly : jLay h1) (hm : jd_215 (jX xs i 1) (jX xs i 2) (jX xs i 3) (jX xs i 4) (jX xs i 5) (jX xs i 6) (jX xs i 7) (jmf (jof h1 (jw v))) = some (b, m')) (hk : m' 76 0 = 0) (hb : jw b = jw v) : jd_403_b328 L xs (some 0) (some 76) (some 152) i h = some (.inl (i + 8, jhm (jof h1 (jw v)) m')) := by
  have e1 : jsc L xs (i + 1) = some (jX xs i 1) := jsc_e (by omega) (by omega) (by omega)
  have e2 : jsc L xs (i + 2) = some (jX xs i 2) := jsc_e (by omega) (by omega) (by omega)
  have e3 : jsc L xs (i + 3) = some (jX xs i 3) := jsc_e (by omega) (by omega) (by omega)
  have e4 : jsc L xs (i + 4) = some (jX xs i 4) := jsc_e (by omega) (by omega) (by omega)
  have e5 : jsc L xs (i + 5) = some (jX xs i 5) := jsc_e (by omega) (by omega) (by omega)
  have e6 : jsc L xs (i + 6) = some (jX xs i 6) := jsc_e (by omega) (by omega) (by omega)
  have e7 : jsc L xs (i + 7) = some (jX xs i 7) := jsc_e (by omega) (by omega) (by omega)
  have l1 : jlk (jof h1 (jw v)) 76 = some () := jlk_e (jLay_sf ly)
  have l2 : jlk (jhm (jof h1 (jw v)) m') 76 = some () := jlk_e (jLay_hm (jLay_sf ly))
  have o1 : jta h1 152 3 0 (jw v) = some (jof h1 (jw v)) := jof_e ly
  have o2 : jal (jhm (jof h1 (jw v)) m') 152 0 = some (jw v) := jof_al ly
  unfold jd_403_b328 jd_366
  simp only [e1, e2, e3, e4, e5, e6, e7, Option.bind_some, jck_e hx ht, hc, l1, hm, l2, jthr, hk, if_true, eq_self, jtc_l, o1, o2, jw_0, jwl_jw, hb]
  rfl
theorem lwt_1_0 {L : Nat} {xs : Nat → Int32} {i b : Int} {h h1 : jH} {m' : jM} (hi : 0 ≤ i) (hL : i + 8 ≤ L) (hLL : L ≤ 1000) (hx : 0 < h.1) (ht : jt h 0 = 19) (hc : jd_141 0 (jX xs i 1) (jX xs i 2) (jX xs i 3) (jX xs i 4) (jX xs i 5) (jX xs i 6) (jX xs i 7) h = some (.inr 0, h1)) (ly : jLay h1) (hm : jd_215 (jX xs i 1) (jX xs i 2) (jX xs i 3) (jX xs i 4) (jX xs i 5) (jX xs i 6) (jX xs i 7) (jmf h1) = some (b, m')) (hk : m' 76 0 = 2) : jd_403_b328 L xs (some 0) (some 76) (some 152) i h = some (.inl (i + 8, jhm h1 m')) := by
  have e1 : jsc L xs (i + 1) = some (jX xs i 1) := jsc_e (by omega) (by omega) (by omega)
  have e2 : jsc L xs (i + 2) = some (jX xs i 2) := jsc_e (by omega) (by omega) (by omega)
  have e3 : jsc L xs (i + 3) = some (jX xs i 3) := jsc_e (by omega) (by omega) (by omega)
  have e4 : jsc L xs (i + 4) = some (jX xs i 4) := jsc_e (by omega) (by omega) (by omega)
  have e5 : jsc L xs (i + 5) = some (jX xs i 5) := jsc_e (by omega) (by omega) (by omega)
  have e6 : jsc L xs (i + 6) = some (jX xs i 6) := jsc_e (by omega) (by omega) (by omega)
  have e7 : jsc L xs (i + 7) = some (jX xs i 7) := jsc_e (by omega) (by omega) (by omega)
  have l1 : jlk h1 76 = some () := jlk_e ly
  have l2 : jlk (jhm h1 m') 76 = some () := jlk_e (jLay_hm ly)
  unfold jd_403_b328 jd_366
  simp only [e1, e2, e3, e4, e5, e6, e7, Option.bind_some, jck_e hx ht, hc, l1, hm, l2, jthr, hk, if_true, eq_self, jtc_r, jw_2, if_neg (show ¬ (2 : Int) = 0 by decide)]
  rfl
theorem lwt_1_2 {L : Nat} {xs : Nat → Int32} {i b : Int} {h h1 : jH} {m' : jM} (hi : 0 ≤ i) (hL : i + 8 ≤ L) (hLL : L ≤ 1000) (hx : 0 < h.1) (ht : jt h 0 = 19) (hc : jd_141 0 (jX xs i 1) (jX xs i 2) (jX xs i 3) (jX xs i 4) (jX xs i 5) (jX xs i 6) (jX xs i 7) h = some (.inr 2, h1)) (ly : jLay h1) (hm : jd_215 (jX xs i 1) (jX xs i 2) (jX xs i 3) (jX xs i 4) (jX xs i 5) (jX xs i 6) (jX xs i 7) (jmf h1) = some (b, m')) (hk : m' 76 0 = 1) : jd_403_b328 L xs (some 0) (some 76) (some 152) i h = some (.inl (i + 8, jhm h1 m')) := by
  have e1 : jsc L xs (i + 1) = some (jX xs i 1) := jsc_e (by omega) (by omega) (by omega)
  have e2 : jsc L xs (i + 2) = some (jX xs i 2) := jsc_e (by omega) (by omega) (by omega)
  have e3 : jsc L xs (i + 3) = some (jX xs i 3) := jsc_e (by omega) (by omega) (by omega)
  have e4 : jsc L xs (i + 4) = some (jX xs i 4) := jsc_e (by omega) (by omega) (by omega)
  have e5 : jsc L xs (i + 5) = some (jX xs i 5) := jsc_e (by omega) (by omega) (by omega)
  have e6 : jsc L xs (i + 6) = some (jX xs i 6) := jsc_e (by omega) (by omega) (by omega)
  have e7 : jsc L xs (i + 7) = some (jX xs i 7) := jsc_e (by omega) (by omega) (by omega)
  have l1 : jlk h1 76 = some () := jlk_e ly
  have l2 : jlk (jhm h1 m') 76 = some () := jlk_e (jLay_hm ly)
  unfold jd_403_b328 jd_366
  simp only [e1, e2, e3, e4, e5, e6, e7, Option.bind_some, jck_e hx ht, hc, l1, hm, l2, jthr, hk, if_true, eq_self, jtc_r, if_neg (show ¬ (2 : Nat) = 0 by decide), jw_1, if_neg (show ¬ (1 : Int) = 0 by decide)]
  rfl
theorem lwr_2 {L : Nat} {xs : Nat → Int32} {i b : Int} {h h1 : jH} {m' : jM} (hi : 0 ≤ i) (hL : i + 8 ≤ L) (hLL : L ≤ 1000) (hx : 0 < h.1) (ht : jt h 0 = 19) (hc : jd_142 0 (jX xs i 1) (jX xs i 2) (jlor (jlshl (jw (jX xs i 3)) 32) (jland (jw (jX xs i 4)) 4294967295)) (jX xs i 5) h = some (.inl (), h1)) (ly : jLay h1) (hm : jd_216 (jX xs i 1) (jX xs i 2) (jlor (jlshl (jw (jX xs i 3)) 32) (jland (jw (jX xs i 4)) 4294967295)) (jX xs i 5) (jmf h1) = some m') (hk : m' 76 0 = 0) : jd_403_b460 L xs (some 0) (some 76) (some 152) i h = some (.inl (i + 8, jhm h1 m')) := by
  have e1 : jsc L xs (i + 1) = some (jX xs i 1) := jsc_e (by omega) (by omega) (by omega)
  have e2 : jsc L xs (i + 2) = some (jX xs i 2) := jsc_e (by omega) (by omega) (by omega)
  have e3 : jsc L xs (i + 3) = some (jX xs i 3) := jsc_e (by omega) (by omega) (by omega)
  have e4 : jsc L xs (i + 4) = some (jX xs i 4) := jsc_e (by omega) (by omega) (by omega)
  have e5 : jsc L xs (i + 5) = some (jX xs i 5) := jsc_e (by omega) (by omega) (by omega)
  have l1 : jlk h1 76 = some () := jlk_e ly
  have l2 : jlk (jhm h1 m') 76 = some () := jlk_e (jLay_hm ly)
  unfold jd_403_b460 jd_367
  simp only [e1, e2, e3, e4, e5, Option.bind_some, jck_e hx ht, hc, l1, hm, l2, jthr, hk, if_true, eq_self, jtc_l]
  rfl
theorem lwt_2_0 {L : Nat} {xs : Nat → Int32} {i b : Int} {h h1 : jH} {m' : jM} (hi : 0 ≤ i) (hL : i + 8 ≤ L) (hLL : L ≤ 1000) (hx : 0 < h.1) (ht : jt h 0 = 19) (hc : jd_142 0 (jX xs i 1) (jX xs i 2) (jlor (jlshl (jw (jX xs i 3)) 32) (jland (jw (jX xs i 4)) 4294967295)) (jX xs i 5) h = some (.inr 0, h1)) (ly : jLay h1) (hm : jd_216 (jX xs i 1) (jX xs i 2) (jlor (jlshl (jw (jX xs i 3)) 32) (jland (jw (jX xs i 4)) 4294967295)) (jX xs i 5) (jmf h1) = some m') (hk : m' 76 0 = 2) : jd_403_b460 L xs (some 0) (some 76) (some 152) i h = some (.inl (i + 8, jhm h1 m')) := by
  have e1 : jsc L xs (i + 1) = some (jX xs i 1) := jsc_e (by omega) (by omega) (by omega)
  have e2 : jsc L xs (i + 2) = some (jX xs i 2) := jsc_e (by omega) (by omega) (by omega)
  have e3 : jsc L xs (i + 3) = some (jX xs i 3) := jsc_e (by omega) (by omega) (by omega)
  have e4 : jsc L xs (i + 4) = some (jX xs i 4) := jsc_e (by omega) (by omega) (by omega)
  have e5 : jsc L xs (i + 5) = some (jX xs i 5) := jsc_e (by omega) (by omega) (by omega)
  have l1 : jlk h1 76 = some () := jlk_e ly
  have l2 : jlk (jhm h1 m') 76 = some () := jlk_e (jLay_hm ly)
  unfold jd_403_b460 jd_367
  simp only [e1, e2, e3, e4, e5, Option.bind_some, jck_e hx ht, hc, l1, hm, l2, jthr, hk, if_true, eq_self, jtc_r]
  rfl
theorem lwt_2_2 {L : Nat} {xs : Nat → Int32} {i b : Int} {h h1 : jH} {m' : jM} (hi : 0 ≤ i) (hL : i + 8 ≤ L) (hLL : L ≤ 1000) (hx : 0 < h.1) (ht : jt h 0 = 19) (hc : jd_142 0 (jX xs i 1) (jX xs i 2) (jlor (jlshl (jw (jX xs i 3)) 32) (jland (jw (jX xs i 4)) 4294967295)) (jX xs i 5) h = some (.inr 2, h1)) (ly : jLay h1) (hm : jd_216 (jX xs i 1) (jX xs i 2) (jlor (jlshl (jw (jX xs i 3)) 32) (jland (jw (jX xs i 4)) 4294967295)) (jX xs i 5) (jmf h1) = some m') (hk : m' 76 0 = 1) : jd_403_b460 L xs (some 0) (some 76) (some 152) i h = some (.inl (i + 8, jhm h1 m')) := by
  have e1 : jsc L xs (i + 1) = some (jX xs i 1) := jsc_e (by omega) (by omega) (by omega)
  have e2 : jsc L xs (i + 2) = some (jX xs i 2) := jsc_e (by omega) (by omega) (by omega)
  have e3 : jsc L xs (i + 3) = some (jX xs i 3) := jsc_e (by omega) (by omega) (by omega)
  have e4 : jsc L xs (i + 4) = some (jX xs i 4) := jsc_e (by omega) (by omega) (by omega)
  have e5 : jsc L xs (i + 5) = some (jX xs i 5) := jsc_e (by omega) (by omega) (by omega)
  have l1 : jlk h1 76 = some () := jlk_e ly
  have l2 : jlk (jhm h1 m') 76 = some () := jlk_e (jLay_hm ly)
  unfold jd_403_b460 jd_367
  simp only [e1, e2, e3, e4, e5, Option.bind_some, jck_e hx ht, hc, l1, hm, l2, jthr, hk, if_true, eq_self, jtc_r, if_neg (show ¬ (2 : Nat) = 0 by decide)]
  rfl
theorem lwr_3 {L : Nat} {xs : Nat → Int32} {i b : Int} {h h1 : jH} {m' : jM} (hi : 0 ≤ i) (hL : i + 8 ≤ L) (hLL : L ≤ 1000) (hx : 0 < h.1) (ht : jt h 0 = 19) {v : Int} (hc : jd_143 0 (jX xs i 1) (jX xs i 2) (jX xs i 3) h = some (.inl v, h1)) (ly : jLay h1) (hm : jd_217 (jX xs i 1) (jX xs i 2) (jX xs i 3) (jmf (jof h1 (jw v))) = some (b, m')) (hk : m' 76 0 = 0) (hb : jw b = jw v) : jd_403_b564 L xs (some 0) (some 76) (some 152) i h = some (.inl (i + 8, jhm (jof h1 (jw v)) m')) := by
  have e1 : jsc L xs (i + 1) = some (jX xs i 1) := jsc_e (by omega) (by omega) (by omega)
  have e2 : jsc L xs (i + 2) = some (jX xs i 2) := jsc_e (by omega) (by omega) (by omega)
  have e3 : jsc L xs (i + 3) = some (jX xs i 3) := jsc_e (by omega) (by omega) (by omega)
  have l1 : jlk (jof h1 (jw v)) 76 = some () := jlk_e (jLay_sf ly)
  have l2 : jlk (jhm (jof h1 (jw v)) m') 76 = some () := jlk_e (jLay_hm (jLay_sf ly))
  have o1 : jta h1 152 3 0 (jw v) = some (jof h1 (jw v)) := jof_e ly
  have o2 : jal (jhm (jof h1 (jw v)) m') 152 0 = some (jw v) := jof_al ly
  unfold jd_403_b564 jd_368
  simp only [e1, e2, e3, Option.bind_some, jck_e hx ht, hc, l1, hm, l2, jthr, hk, if_true, eq_self, jtc_l, o1, o2, jw_0, jwl_jw, hb]
  rfl
theorem lwt_3_0 {L : Nat} {xs : Nat → Int32} {i b : Int} {h h1 : jH} {m' : jM} (hi : 0 ≤ i) (hL : i + 8 ≤ L) (hLL : L ≤ 1000) (hx : 0 < h.1) (ht : jt h 0 = 19) (hc : jd_143 0 (jX xs i 1) (jX xs i 2) (jX xs i 3) h = some (.inr 0, h1)) (ly : jLay h1) (hm : jd_217 (jX xs i 1) (jX xs i 2) (jX xs i 3) (jmf h1) = some (b, m')) (hk : m' 76 0 = 2) : jd_403_b564 L xs (some 0) (some 76) (some 152) i h = some (.inl (i + 8, jhm h1 m')) := by
  have e1 : jsc L xs (i + 1) = some (jX xs i 1) := jsc_e (by omega) (by omega) (by omega)
  have e2 : jsc L xs (i + 2) = some (jX xs i 2) := jsc_e (by omega) (by omega) (by omega)
  have e3 : jsc L xs (i + 3) = some (jX xs i 3) := jsc_e (by omega) (by omega) (by omega)
  have l1 : jlk h1 76 = some () := jlk_e ly
  have l2 : jlk (jhm h1 m') 76 = some () := jlk_e (jLay_hm ly)
  unfold jd_403_b564 jd_368
  simp only [e1, e2, e3, Option.bind_some, jck_e hx ht, hc, l1, hm, l2, jthr, hk, if_true, eq_self, jtc_r, jw_2, if_neg (show ¬ (2 : Int) = 0 by decide)]
  rfl
theorem lwt_3_1 {L : Nat} {xs : Nat → Int32} {i b : Int} {h h1 : jH} {m' : jM} (hi : 0 ≤ i) (hL : i + 8 ≤ L) (hLL : L ≤ 1000) (hx : 0 < h.1) (ht : jt h 0 = 19) (hc : jd_143 0 (jX xs i 1) (jX xs i 2) (jX xs i 3) h = some (.inr 1, h1)) (ly : jLay h1) (hm : jd_217 (jX xs i 1) (jX xs i 2) (jX xs i 3) (jmf h1) = some (b, m')) (hk : m' 76 0 = 3) : jd_403_b564 L xs (some 0) (some 76) (some 152) i h = some (.inl (i + 8, jhm h1 m')) := by
  have e1 : jsc L xs (i + 1) = some (jX xs i 1) := jsc_e (by omega) (by omega) (by omega)
  have e2 : jsc L xs (i + 2) = some (jX xs i 2) := jsc_e (by omega) (by omega) (by omega)
  have e3 : jsc L xs (i + 3) = some (jX xs i 3) := jsc_e (by omega) (by omega) (by omega)
  have l1 : jlk h1 76 = some () := jlk_e ly
  have l2 : jlk (jhm h1 m') 76 = some () := jlk_e (jLay_hm ly)
  unfold jd_403_b564 jd_368
  simp only [e1, e2, e3, Option.bind_some, jck_e hx ht, hc, l1, hm, l2, jthr, hk, if_true, eq_self, jtc_r, if_neg (show ¬ (1 : Nat) = 0 by decide), jw_3, if_neg (show ¬ (3 : Int) = 0 by decide)]
  rfl
theorem lwt_3_2 {L : Nat} {xs : Nat → Int32} {i b : Int} {h h1 : jH} {m' : jM} (hi : 0 ≤ i) (hL : i + 8 ≤ L) (hLL : L ≤ 1000) (hx : 0 < h.1) (ht : jt h 0 = 19) (hc : jd_143 0 (jX xs i 1) (jX xs i 2) (jX xs i 3) h = some (.inr 2, h1)) (ly : jLay h1) (hm : jd_217 (jX xs i 1) (jX xs i 2) (jX xs i 3) (jmf h1) = some (b, m')) (hk : m' 76 0 = 1) : jd_403_b564 L xs (some 0) (some 76) (some 152) i h = some (.inl (i + 8, jhm h1 m')) := by
  have e1 : jsc L xs (i + 1) = some (jX xs i 1) := jsc_e (by omega) (by omega) (by omega)
  have e2 : jsc L xs (i + 2) = some (jX xs i 2) := jsc_e (by omega) (by omega) (by omega)
  have e3 : jsc L xs (i + 3) = some (jX xs i 3) := jsc_e (by omega) (by omega) (by omega)
  have l1 : jlk h1 76 = some () := jlk_e ly
  have l2 : jlk (jhm h1 m') 76 = some () := jlk_e (jLay_hm ly)
  unfold jd_403_b564 jd_368
  simp only [e1, e2, e3, Option.bind_some, jck_e hx ht, hc, l1, hm, l2, jthr, hk, if_true, eq_self, jtc_r, if_neg (show ¬ (2 : Nat) = 0 by decide), if_neg (show ¬ (2 : Nat) = 1 by decide), jw_1, if_neg (show ¬ (1 : Int) = 0 by decide)]
  rfl
theorem lwr_4 {L : Nat} {xs : Nat → Int32} {i b : Int} {h h1 : jH} {m' : jM} (hi : 0 ≤ i) (hL : i + 8 ≤ L) (hLL : L ≤ 1000) (hx : 0 < h.1) (ht : jt h 0 = 19) {v : Int} (hc : jd_144 0 (jX xs i 1) (jX xs i 2) (jX xs i 3) (jX xs i 4) (jX xs i 5) h = some (.inl v, h1)) (ly : jLay h1) (hm : jd_219 (jX xs i 1) (jX xs i 2) (jX xs i 3) (jX xs i 4) (jX xs i 5) (jmf (jof h1 (jw v))) = some (b, m')) (hk : m' 76 0 = 0) (hb : jw b = jw v) : jd_403_b644 L xs (some 0) (some 76) (some 152) i h = some (.inl (i + 8, jhm (jof h1 (jw v)) m')) := by
  have e1 : jsc L xs (i + 1) = some (jX xs i 1) := jsc_e (by omega) (by omega) (by omega)
  have e2 : jsc L xs (i + 2) = some (jX xs i 2) := jsc_e (by omega) (by omega) (by omega)
  have e3 : jsc L xs (i + 3) = some (jX xs i 3) := jsc_e (by omega) (by omega) (by omega)
  have e4 : jsc L xs (i + 4) = some (jX xs i 4) := jsc_e (by omega) (by omega) (by omega)
  have e5 : jsc L xs (i + 5) = some (jX xs i 5) := jsc_e (by omega) (by omega) (by omega)
  have l1 : jlk (jof h1 (jw v)) 76 = some () := jlk_e (jLay_sf ly)
  have l2 : jlk (jhm (jof h1 (jw v)) m') 76 = some () := jlk_e (jLay_hm (jLay_sf ly))
  have o1 : jta h1 152 3 0 (jw v) = some (jof h1 (jw v)) := jof_e ly
  have o2 : jal (jhm (jof h1 (jw v)) m') 152 0 = some (jw v) := jof_al ly
  unfold jd_403_b644 jd_369
  simp only [e1, e2, e3, e4, e5, Option.bind_some, jck_e hx ht, hc, l1, hm, l2, jthr, hk, if_true, eq_self, jtc_l, o1, o2, jw_0, jwl_jw, hb]
  rfl
theorem lwt_4_0 {L : Nat} {xs : Nat → Int32} {i b : Int} {h h1 : jH} {m' : jM} (hi : 0 ≤ i) (hL : i + 8 ≤ L) (hLL : L ≤ 1000) (hx : 0 < h.1) (ht : jt h 0 = 19) (hc : jd_144 0 (jX xs i 1) (jX xs i 2) (jX xs i 3) (jX xs i 4) (jX xs i 5) h = some (.inr 0, h1)) (ly : jLay h1) (hm : jd_219 (jX xs i 1) (jX xs i 2) (jX xs i 3) (jX xs i 4) (jX xs i 5) (jmf h1) = some (b, m')) (hk : m' 76 0 = 2) : jd_403_b644 L xs (some 0) (some 76) (some 152) i h = some (.inl (i + 8, jhm h1 m')) := by
  have e1 : jsc L xs (i + 1) = some (jX xs i 1) := jsc_e (by omega) (by omega) (by omega)
  have e2 : jsc L xs (i + 2) = some (jX xs i 2) := jsc_e (by omega) (by omega) (by omega)
  have e3 : jsc L xs (i + 3) = some (jX xs i 3) := jsc_e (by omega) (by omega) (by omega)
  have e4 : jsc L xs (i + 4) = some (jX xs i 4) := jsc_e (by omega) (by omega) (by omega)
  have e5 : jsc L xs (i + 5) = some (jX xs i 5) := jsc_e (by omega) (by omega) (by omega)
  have l1 : jlk h1 76 = some () := jlk_e ly
  have l2 : jlk (jhm h1 m') 76 = some () := jlk_e (jLay_hm ly)
  unfold jd_403_b644 jd_369
  simp only [e1, e2, e3, e4, e5, Option.bind_some, jck_e hx ht, hc, l1, hm, l2, jthr, hk, if_true, eq_self, jtc_r, jw_2, if_neg (show ¬ (2 : Int) = 0 by decide)]
  rfl
theorem lwt_4_2 {L : Nat} {xs : Nat → Int32} {i b : Int} {h h1 : jH} {m' : jM} (hi : 0 ≤ i) (hL : i + 8 ≤ L) (hLL : L ≤ 1000) (hx : 0 < h.1) (ht : jt h 0 = 19) (hc : jd_144 0 (jX xs i 1) (jX xs i 2) (jX xs i 3) (jX xs i 4) (jX xs i 5) h = some (.inr 2, h1)) (ly : jLay h1) (hm : jd_219 (jX xs i 1) (jX xs i 2) (jX xs i 3) (jX xs i 4) (jX xs i 5) (jmf h1) = some (b, m')) (hk : m' 76 0 = 1) : jd_403_b644 L xs (some 0) (some 76) (some 152) i h = some (.inl (i + 8, jhm h1 m')) := by
  have e1 : jsc L xs (i + 1) = some (jX xs i 1) := jsc_e (by omega) (by omega) (by omega)
  have e2 : jsc L xs (i + 2) = some (jX xs i 2) := jsc_e (by omega) (by omega) (by omega)
  have e3 : jsc L xs (i + 3) = some (jX xs i 3) := jsc_e (by omega) (by omega) (by omega)
  have e4 : jsc L xs (i + 4) = some (jX xs i 4) := jsc_e (by omega) (by omega) (by omega)
  have e5 : jsc L xs (i + 5) = some (jX xs i 5) := jsc_e (by omega) (by omega) (by omega)
  have l1 : jlk h1 76 = some () := jlk_e ly
  have l2 : jlk (jhm h1 m') 76 = some () := jlk_e (jLay_hm ly)
  unfold jd_403_b644 jd_369
  simp only [e1, e2, e3, e4, e5, Option.bind_some, jck_e hx ht, hc, l1, hm, l2, jthr, hk, if_true, eq_self, jtc_r, if_neg (show ¬ (2 : Nat) = 0 by decide), jw_1, if_neg (show ¬ (1 : Int) = 0 by decide)]
  rfl
theorem lwr_5 {L : Nat} {xs : Nat → Int32} {i b : Int} {h h1 : jH} {m' : jM} (hi : 0 ≤ i) (hL : i + 8 ≤ L) (hLL : L ≤ 1000) (hx : 0 < h.1) (ht : jt h 0 = 19) {v : Int} (hc : jd_145 0 (jX xs i 1) (jX xs i 2) (jX xs i 3) (jX xs i 4) h = some (.inl v, h1)) (ly : jLay h1) (hm : jd_220 (jX xs i 1) (jX xs i 2) (jX xs i 3) (jX xs i 4) (jmf (jof h1 (jw v))) = some (b, m')) (hk : m' 76 0 = 0) (hb : jw b = jw v) : jd_403_b748 L xs (some 0) (some 76) (some 152) i h = some (.inl (i + 8, jhm (jof h1 (jw v)) m')) := by
  have e1 : jsc L xs (i + 1) = some (jX xs i 1) := jsc_e (by omega) (by omega) (by omega)
  have e2 : jsc L xs (i + 2) = some (jX xs i 2) := jsc_e (by omega) (by omega) (by omega)
  have e3 : jsc L xs (i + 3) = some (jX xs i 3) := jsc_e (by omega) (by omega) (by omega)
  have e4 : jsc L xs (i + 4) = some (jX xs i 4) := jsc_e (by omega) (by omega) (by omega)
  have l1 : jlk (jof h1 (jw v)) 76 = some () := jlk_e (jLay_sf ly)
  have l2 : jlk (jhm (jof h1 (jw v)) m') 76 = some () := jlk_e (jLay_hm (jLay_sf ly))
  have o1 : jta h1 152 3 0 (jw v) = some (jof h1 (jw v)) := jof_e ly
  have o2 : jal (jhm (jof h1 (jw v)) m') 152 0 = some (jw v) := jof_al ly
  unfold jd_403_b748 jd_370
  simp only [e1, e2, e3, e4, Option.bind_some, jck_e hx ht, hc, l1, hm, l2, jthr, hk, if_true, eq_self, jtc_l, o1, o2, jw_0, jwl_jw, hb]
  rfl
theorem lwt_5_2 {L : Nat} {xs : Nat → Int32} {i b : Int} {h h1 : jH} {m' : jM} (hi : 0 ≤ i) (hL : i + 8 ≤ L) (hLL : L ≤ 1000) (hx : 0 < h.1) (ht : jt h 0 = 19) (hc : jd_145 0 (jX xs i 1) (jX xs i 2) (jX xs i 3) (jX xs i 4) h = some (.inr 2, h1)) (ly : jLay h1) (hm : jd_220 (jX xs i 1) (jX xs i 2) (jX xs i 3) (jX xs i 4) (jmf h1) = some (b, m')) (hk : m' 76 0 = 1) : jd_403_b748 L xs (some 0) (some 76) (some 152) i h = some (.inl (i + 8, jhm h1 m')) := by
  have e1 : jsc L xs (i + 1) = some (jX xs i 1) := jsc_e (by omega) (by omega) (by omega)
  have e2 : jsc L xs (i + 2) = some (jX xs i 2) := jsc_e (by omega) (by omega) (by omega)
  have e3 : jsc L xs (i + 3) = some (jX xs i 3) := jsc_e (by omega) (by omega) (by omega)
  have e4 : jsc L xs (i + 4) = some (jX xs i 4) := jsc_e (by omega) (by omega) (by omega)
  have l1 : jlk h1 76 = some () := jlk_e ly
  have l2 : jlk (jhm h1 m') 76 = some () := jlk_e (jLay_hm ly)
  unfold jd_403_b748 jd_370
  simp only [e1, e2, e3, e4, Option.bind_some, jck_e hx ht, hc, l1, hm, l2, jthr, hk, if_true, eq_self, jtc_r, jw_1, if_neg (show ¬ (1 : Int) = 0 by decide)]
  rfl
theorem lwr_6 {L : Nat} {xs : Nat → Int32} {i b : Int} {h h1 : jH} {m' : jM} (hi : 0 ≤ i) (hL : i + 8 ≤ L) (hLL : L ≤ 1000) (hx : 0 < h.1) (ht : jt h 0 = 19) {v : Int} (hc : jd_146 0 (jX xs i 1) (jX xs i 2) h = some (.inl v, h1)) (ly : jLay h1) (hm : jd_221 (jX xs i 1) (jX xs i 2) (jmf (jof h1 (jw v))) = some (b, m')) (hk : m' 76 0 = 0) (hb : jw b = jw v) : jd_403_b840 L xs (some 0) (some 76) (some 152) i h = some (.inl (i + 8, jhm (jof h1 (jw v)) m')) := by
  have e1 : jsc L xs (i + 1) = some (jX xs i 1) := jsc_e (by omega) (by omega) (by omega)
  have e2 : jsc L xs (i + 2) = some (jX xs i 2) := jsc_e (by omega) (by omega) (by omega)
  have l1 : jlk (jof h1 (jw v)) 76 = some () := jlk_e (jLay_sf ly)
  have l2 : jlk (jhm (jof h1 (jw v)) m') 76 = some () := jlk_e (jLay_hm (jLay_sf ly))
  have o1 : jta h1 152 3 0 (jw v) = some (jof h1 (jw v)) := jof_e ly
  have o2 : jal (jhm (jof h1 (jw v)) m') 152 0 = some (jw v) := jof_al ly
  unfold jd_403_b840 jd_371
  simp only [e1, e2, Option.bind_some, jck_e hx ht, hc, l1, hm, l2, jthr, hk, if_true, eq_self, jtc_l, o1, o2, jw_0, jwl_jw, hb]
  rfl
theorem lwt_6_0 {L : Nat} {xs : Nat → Int32} {i b : Int} {h h1 : jH} {m' : jM} (hi : 0 ≤ i) (hL : i + 8 ≤ L) (hLL : L ≤ 1000) (hx : 0 < h.1) (ht : jt h 0 = 19) (hc : jd_146 0 (jX xs i 1) (jX xs i 2) h = some (.inr 0, h1)) (ly : jLay h1) (hm : jd_221 (jX xs i 1) (jX xs i 2) (jmf h1) = some (b, m')) (hk : m' 76 0 = 2) : jd_403_b840 L xs (some 0) (some 76) (some 152) i h = some (.inl (i + 8, jhm h1 m')) := by
  have e1 : jsc L xs (i + 1) = some (jX xs i 1) := jsc_e (by omega) (by omega) (by omega)
  have e2 : jsc L xs (i + 2) = some (jX xs i 2) := jsc_e (by omega) (by omega) (by omega)
  have l1 : jlk h1 76 = some () := jlk_e ly
  have l2 : jlk (jhm h1 m') 76 = some () := jlk_e (jLay_hm ly)
  unfold jd_403_b840 jd_371
  simp only [e1, e2, Option.bind_some, jck_e hx ht, hc, l1, hm, l2, jthr, hk, if_true, eq_self, jtc_r, jw_2, if_neg (show ¬ (2 : Int) = 0 by decide)]
  rfl
theorem lwt_6_2 {L : Nat} {xs : Nat → Int32} {i b : Int} {h h1 : jH} {m' : jM} (hi : 0 ≤ i) (hL : i + 8 ≤ L) (hLL : L ≤ 1000) (hx : 0 < h.1) (ht : jt h 0 = 19) (hc : jd_146 0 (jX xs i 1) (jX xs i 2) h = some (.inr 2, h1)) (ly : jLay h1) (hm : jd_221 (jX xs i 1) (jX xs i 2) (jmf h1) = some (b, m')) (hk : m' 76 0 = 1) : jd_403_b840 L xs (some 0) (some 76) (some 152) i h = some (.inl (i + 8, jhm h1 m')) := by
  have e1 : jsc L xs (i + 1) = some (jX xs i 1) := jsc_e (by omega) (by omega) (by omega)
  have e2 : jsc L xs (i + 2) = some (jX xs i 2) := jsc_e (by omega) (by omega) (by omega)
  have l1 : jlk h1 76 = some () := jlk_e ly
  have l2 : jlk (jhm h1 m') 76 = some () := jlk_e (jLay_hm ly)
  unfold jd_403_b840 jd_371
  simp only [e1, e2, Option.bind_some, jck_e hx ht, hc, l1, hm, l2, jthr, hk, if_true, eq_self, jtc_r, if_neg (show ¬ (2 : Nat) = 0 by decide), jw_1, if_neg (show ¬ (1 : Int) = 0 by decide)]
  rfl
theorem lwr_7 {L : Nat} {xs : Nat → Int32} {i b : Int} {h h1 : jH} {m' : jM} (hi : 0 ≤ i) (hL : i + 8 ≤ L) (hLL : L ≤ 1000) (hx : 0 < h.1) (ht : jt h 0 = 19) {v : Int} (hc : jd_147 0 (jX xs i 1) h = some (.inl v, h1)) (ly : jLay h1) (hm : jd_222 (jX xs i 1) (jmf (jof h1 (jw v))) = some (b, m')) (hk : m' 76 0 = 0) (hb : jw b = jw v) : jd_403_b908 L xs (some 0) (some 76) (some 152) i h = some (.inl (i + 8, jhm (jof h1 (jw v)) m')) := by
  have e1 : jsc L xs (i + 1) = some (jX xs i 1) := jsc_e (by omega) (by omega) (by omega)
  have l1 : jlk (jof h1 (jw v)) 76 = some () := jlk_e (jLay_sf ly)
  have l2 : jlk (jhm (jof h1 (jw v)) m') 76 = some () := jlk_e (jLay_hm (jLay_sf ly))
  have o1 : jta h1 152 3 0 (jw v) = some (jof h1 (jw v)) := jof_e ly
  have o2 : jal (jhm (jof h1 (jw v)) m') 152 0 = some (jw v) := jof_al ly
  unfold jd_403_b908 jd_372
  simp only [e1, Option.bind_some, jck_e hx ht, hc, l1, hm, l2, jthr, hk, if_true, eq_self, jtc_l, o1, o2, jw_0, jwl_jw, hb]
  rfl
theorem lwt_7_0 {L : Nat} {xs : Nat → Int32} {i b : Int} {h h1 : jH} {m' : jM} (hi : 0 ≤ i) (hL : i + 8 ≤ L) (hLL : L ≤ 1000) (hx : 0 < h.1) (ht : jt h 0 = 19) (hc : jd_147 0 (jX xs i 1) h = some (.inr 0, h1)) (ly : jLay h1) (hm : jd_222 (jX xs i 1) (jmf h1) = some (b, m')) (hk : m' 76 0 = 1) : jd_403_b908 L xs (some 0) (some 76) (some 152) i h = some (.inl (i + 8, jhm h1 m')) := by
  have e1 : jsc L xs (i + 1) = some (jX xs i 1) := jsc_e (by omega) (by omega) (by omega)
  have l1 : jlk h1 76 = some () := jlk_e ly
  have l2 : jlk (jhm h1 m') 76 = some () := jlk_e (jLay_hm ly)
  unfold jd_403_b908 jd_372
  simp only [e1, Option.bind_some, jck_e hx ht, hc, l1, hm, l2, jthr, hk, if_true, eq_self, jtc_r, jw_1, if_neg (show ¬ (1 : Int) = 0 by decide)]
  rfl
theorem lwr_8 {L : Nat} {xs : Nat → Int32} {i b : Int} {h h1 : jH} {m' : jM} (hi : 0 ≤ i) (hL : i + 8 ≤ L) (hLL : L ≤ 1000) (hx : 0 < h.1) (ht : jt h 0 = 19) {v : Int} (hc : jd_148 0 (jlor (jlshl (jw (jX xs i 1)) 32) (jland (jw (jX xs i 2)) 4294967295)) (jX xs i 3) h = some (.inl v, h1)) (ly : jLay h1) (hm : jd_223 (jlor (jlshl (jw (jX xs i 1)) 32) (jland (jw (jX xs i 2)) 4294967295)) (jX xs i 3) (jmf (jof h1 (jw v))) = some (b, m')) (hk : m' 76 0 = 0) (hb : jw b = jw v) : jd_403_b964 L xs (some 0) (some 76) (some 152) i h = some (.inl (i + 8, jhm (jof h1 (jw v)) m')) := by
  have e1 : jsc L xs (i + 1) = some (jX xs i 1) := jsc_e (by omega) (by omega) (by omega)
  have e2 : jsc L xs (i + 2) = some (jX xs i 2) := jsc_e (by omega) (by omega) (by omega)
  have e3 : jsc L xs (i + 3) = some (jX xs i 3) := jsc_e (by omega) (by omega) (by omega)
  have l1 : jlk (jof h1 (jw v)) 76 = some () := jlk_e (jLay_sf ly)
  have l2 : jlk (jhm (jof h1 (jw v)) m') 76 = some () := jlk_e (jLay_hm (jLay_sf ly))
  have o1 : jta h1 152 3 0 (jw v) = some (jof h1 (jw v)) := jof_e ly
  have o2 : jal (jhm (jof h1 (jw v)) m') 152 0 = some (jw v) := jof_al ly
  unfold jd_403_b964 jd_373
  simp only [e1, e2, e3, Option.bind_some, jck_e hx ht, hc, l1, hm, l2, jthr, hk, if_true, eq_self, jtc_l, o1, o2, jw_0, jwl_jw, hb]
  rfl
theorem lwt_8_0 {L : Nat} {xs : Nat → Int32} {i b : Int} {h h1 : jH} {m' : jM} (hi : 0 ≤ i) (hL : i + 8 ≤ L) (hLL : L ≤ 1000) (hx : 0 < h.1) (ht : jt h 0 = 19) (hc : jd_148 0 (jlor (jlshl (jw (jX xs i 1)) 32) (jland (jw (jX xs i 2)) 4294967295)) (jX xs i 3) h = some (.inr 0, h1)) (ly : jLay h1) (hm : jd_223 (jlor (jlshl (jw (jX xs i 1)) 32) (jland (jw (jX xs i 2)) 4294967295)) (jX xs i 3) (jmf h1) = some (b, m')) (hk : m' 76 0 = 1) : jd_403_b964 L xs (some 0) (some 76) (some 152) i h = some (.inl (i + 8, jhm h1 m')) := by
  have e1 : jsc L xs (i + 1) = some (jX xs i 1) := jsc_e (by omega) (by omega) (by omega)
  have e2 : jsc L xs (i + 2) = some (jX xs i 2) := jsc_e (by omega) (by omega) (by omega)
  have e3 : jsc L xs (i + 3) = some (jX xs i 3) := jsc_e (by omega) (by omega) (by omega)
  have l1 : jlk h1 76 = some () := jlk_e ly
  have l2 : jlk (jhm h1 m') 76 = some () := jlk_e (jLay_hm ly)
  unfold jd_403_b964 jd_373
  simp only [e1, e2, e3, Option.bind_some, jck_e hx ht, hc, l1, hm, l2, jthr, hk, if_true, eq_self, jtc_r, jw_1, if_neg (show ¬ (1 : Int) = 0 by decide)]
  rfl
theorem lwt_8_1 {L : Nat} {xs : Nat → Int32} {i b : Int} {h h1 : jH} {m' : jM} (hi : 0 ≤ i) (hL : i + 8 ≤ L) (hLL : L ≤ 1000) (hx : 0 < h.1) (ht : jt h 0 = 19) (hc : jd_148 0 (jlor (jlshl (jw (jX xs i 1)) 32) (jland (jw (jX xs i 2)) 4294967295)) (jX xs i 3) h = some (.inr 1, h1)) (ly : jLay h1) (hm : jd_223 (jlor (jlshl (jw (jX xs i 1)) 32) (jland (jw (jX xs i 2)) 4294967295)) (jX xs i 3) (jmf h1) = some (b, m')) (hk : m' 76 0 = 2) : jd_403_b964 L xs (some 0) (some 76) (some 152) i h = some (.inl (i + 8, jhm h1 m')) := by
  have e1 : jsc L xs (i + 1) = some (jX xs i 1) := jsc_e (by omega) (by omega) (by omega)
  have e2 : jsc L xs (i + 2) = some (jX xs i 2) := jsc_e (by omega) (by omega) (by omega)
  have e3 : jsc L xs (i + 3) = some (jX xs i 3) := jsc_e (by omega) (by omega) (by omega)
  have l1 : jlk h1 76 = some () := jlk_e ly
  have l2 : jlk (jhm h1 m') 76 = some () := jlk_e (jLay_hm ly)
  unfold jd_403_b964 jd_373
  simp only [e1, e2, e3, Option.bind_some, jck_e hx ht, hc, l1, hm, l2, jthr, hk, if_true, eq_self, jtc_r, if_neg (show ¬ (1 : Nat) = 0 by decide), jw_2, if_neg (show ¬ (2 : Int) = 0 by decide)]
  rfl
theorem lwr_9 {L : Nat} {xs : Nat → Int32} {i b : Int} {h h1 : jH} {m' : jM} (hi : 0 ≤ i) (hL : i + 8 ≤ L) (hLL : L ≤ 1000) (hx : 0 < h.1) (ht : jt h 0 = 19) {v : Int} (hc : jd_149 0 (jX xs i 1) (jX xs i 2) h = some (.inl v, h1)) (ly : jLay h1) (hm : jd_224 (jX xs i 1) (jX xs i 2) (jmf (jof h1 (jw v))) = some (b, m')) (hk : m' 76 0 = 0) (hb : jw b = jw v) : jd_403_b1064 L xs (some 0) (some 76) (some 152) i h = some (.inl (i + 8, jhm (jof h1 (jw v)) m')) := by
  have e1 : jsc L xs (i + 1) = some (jX xs i 1) := jsc_e (by omega) (by omega) (by omega)
  have e2 : jsc L xs (i + 2) = some (jX xs i 2) := jsc_e (by omega) (by omega) (by omega)
  have l1 : jlk (jof h1 (jw v)) 76 = some () := jlk_e (jLay_sf ly)
  have l2 : jlk (jhm (jof h1 (jw v)) m') 76 = some () := jlk_e (jLay_hm (jLay_sf ly))
  have o1 : jta h1 152 3 0 (jw v) = some (jof h1 (jw v)) := jof_e ly
  have o2 : jal (jhm (jof h1 (jw v)) m') 152 0 = some (jw v) := jof_al ly
  unfold jd_403_b1064 jd_374
  simp only [e1, e2, Option.bind_some, jck_e hx ht, hc, l1, hm, l2, jthr, hk, if_true, eq_self, jtc_l, o1, o2, jw_0, jwl_jw, hb]
  rfl
theorem lwt_9_2 {L : Nat} {xs : Nat → Int32} {i b : Int} {h h1 : jH} {m' : jM} (hi : 0 ≤ i) (hL : i + 8 ≤ L) (hLL : L ≤ 1000) (hx : 0 < h.1) (ht : jt h 0 = 19) (hc : jd_149 0 (jX xs i 1) (jX xs i 2) h = some (.inr 2, h1)) (ly : jLay h1) (hm : jd_224 (jX xs i 1) (jX xs i 2) (jmf h1) = some (b, m')) (hk : m' 76 0 = 1) : jd_403_b1064 L xs (some 0) (some 76) (some 152) i h = some (.inl (i + 8, jhm h1 m')) := by
  have e1 : jsc L xs (i + 1) = some (jX xs i 1) := jsc_e (by omega) (by omega) (by omega)
  have e2 : jsc L xs (i + 2) = some (jX xs i 2) := jsc_e (by omega) (by omega) (by omega)
  have l1 : jlk h1 76 = some () := jlk_e ly
  have l2 : jlk (jhm h1 m') 76 = some () := jlk_e (jLay_hm ly)
  unfold jd_403_b1064 jd_374
  simp only [e1, e2, Option.bind_some, jck_e hx ht, hc, l1, hm, l2, jthr, hk, if_true, eq_self, jtc_r, jw_1, if_neg (show ¬ (1 : Int) = 0 by decide)]
  rfl
theorem lwr_10 {L : Nat} {xs : Nat → Int32} {i b : Int} {h h1 : jH} {m' : jM} (hi : 0 ≤ i) (hL : i + 8 ≤ L) (hLL : L ≤ 1000) (hx : 0 < h.1) (ht : jt h 0 = 19) {v : Int} (hc : jd_150 0 (jX xs i 1) h = some v) (ly : jLay h) (hm : jd_225 (jX xs i 1) (jmf h) = some (b, m')) (hb : jw b = jw v) : jd_403_b1132 L xs (some 0) (some 76) (some 152) i h = some (.inl (i + 8, jhm h m')) := by
  have e1 : jsc L xs (i + 1) = some (jX xs i 1) := jsc_e (by omega) (by omega) (by omega)
  have l1 : jlk h 76 = some () := jlk_e ly
  unfold jd_403_b1132
  simp only [e1, Option.bind_some, jck_e hx ht, hc, l1, hm, hb, if_true, eq_self]
  rfl
theorem lwr_11 {L : Nat} {xs : Nat → Int32} {i b : Int} {h h1 : jH} {m' : jM} (hi : 0 ≤ i) (hL : i + 8 ≤ L) (hLL : L ≤ 1000) (hx : 0 < h.1) (ht : jt h 0 = 19) {v : Int} (hc : jd_151 0  h = some (v, h1)) (ly : jLay h1) (hm : jd_226  (jmf h1) = some (b, m')) (hb : jw b = jw v) : jd_403_b1157 L xs (some 0) (some 76) (some 152) i h = some (.inl (i + 8, jhm h1 m')) := by
  have l1 : jlk h1 76 = some () := jlk_e ly
  unfold jd_403_b1157
  simp only [Option.bind_some, jck_e hx ht, hc, l1, hm, hb, if_true, eq_self]
  rfl
theorem lwr_12 {L : Nat} {xs : Nat → Int32} {i b : Int} {h h1 : jH} {m' : jM} (hi : 0 ≤ i) (hL : i + 8 ≤ L) (hLL : L ≤ 1000) (hx : 0 < h.1) (ht : jt h 0 = 19) {v : Int} (hc : jd_152 0 (jX xs i 1) (jX xs i 2) h = some (.inl v, h1)) (ly : jLay h1) (hm : jd_296 (jX xs i 1) (jX xs i 2) (jmf (jof h1 (jw v))) = some (b, m')) (hk : m' 76 0 = 0) (hb : jw b = jw v) : jd_403_b1170 L xs (some 0) (some 76) (some 152) i h = some (.inl (i + 8, jhm (jof h1 (jw v)) m')) := by
  have e1 : jsc L xs (i + 1) = some (jX xs i 1) := jsc_e (by omega) (by omega) (by omega)
  have e2 : jsc L xs (i + 2) = some (jX xs i 2) := jsc_e (by omega) (by omega) (by omega)
  have l1 : jlk (jof h1 (jw v)) 76 = some () := jlk_e (jLay_sf ly)
  have l2 : jlk (jhm (jof h1 (jw v)) m') 76 = some () := jlk_e (jLay_hm (jLay_sf ly))
  have o1 : jta h1 152 3 0 (jw v) = some (jof h1 (jw v)) := jof_e ly
  have o2 : jal (jhm (jof h1 (jw v)) m') 152 0 = some (jw v) := jof_al ly
  unfold jd_403_b1170 jd_375
  simp only [e1, e2, Option.bind_some, jck_e hx ht, hc, l1, hm, l2, jthr, hk, if_true, eq_self, jtc_l, o1, o2, jw_0, jwl_jw, hb]
  rfl
theorem lwt_12_0 {L : Nat} {xs : Nat → Int32} {i b : Int} {h h1 : jH} {m' : jM} (hi : 0 ≤ i) (hL : i + 8 ≤ L) (hLL : L ≤ 1000) (hx : 0 < h.1) (ht : jt h 0 = 19) (hc : jd_152 0 (jX xs i 1) (jX xs i 2) h = some (.inr 0, h1)) (ly : jLay h1) (hm : jd_296 (jX xs i 1) (jX xs i 2) (jmf h1) = some (b, m')) (hk : m' 76 0 = 1) : jd_403_b1170 L xs (some 0) (some 76) (some 152) i h = some (.inl (i + 8, jhm h1 m')) := by
  have e1 : jsc L xs (i + 1) = some (jX xs i 1) := jsc_e (by omega) (by omega) (by omega)
  have e2 : jsc L xs (i + 2) = some (jX xs i 2) := jsc_e (by omega) (by omega) (by omega)
  have l1 : jlk h1 76 = some () := jlk_e ly
  have l2 : jlk (jhm h1 m') 76 = some () := jlk_e (jLay_hm ly)
  unfold jd_403_b1170 jd_375
  simp only [e1, e2, Option.bind_some, jck_e hx ht, hc, l1, hm, l2, jthr, hk, if_true, eq_self, jtc_r, jw_1, if_neg (show ¬ (1 : Int) = 0 by decide)]
  rfl
theorem lwr_13 {L : Nat} {xs : Nat → Int32} {i b : Int} {h h1 : jH} {m' : jM} (hi : 0 ≤ i) (hL : i + 8 ≤ L) (hLL : L ≤ 1000) (hx : 0 < h.1) (ht : jt h 0 = 19) {v : Int} (hc : jd_153 0 (jX xs i 1) h = some (.inl v, h1)) (ly : jLay h1) (hm : jd_297 (jX xs i 1) (jmf (jof h1 (jw v))) = some (b, m')) (hk : m' 76 0 = 0) (hb : jw b = jw v) : jd_403_b1238 L xs (some 0) (some 76) (some 152) i h = some (.inl (i + 8, jhm (jof h1 (jw v)) m')) := by
  have e1 : jsc L xs (i + 1) = some (jX xs i 1) := jsc_e (by omega) (by omega) (by omega)
  have l1 : jlk (jof h1 (jw v)) 76 = some () := jlk_e (jLay_sf ly)
  have l2 : jlk (jhm (jof h1 (jw v)) m') 76 = some () := jlk_e (jLay_hm (jLay_sf ly))
  have o1 : jta h1 152 3 0 (jw v) = some (jof h1 (jw v)) := jof_e ly
  have o2 : jal (jhm (jof h1 (jw v)) m') 152 0 = some (jw v) := jof_al ly
  unfold jd_403_b1238 jd_376
  simp only [e1, Option.bind_some, jck_e hx ht, hc, l1, hm, l2, jthr, hk, if_true, eq_self, jtc_l, o1, o2, jw_0, jwl_jw, hb]
  rfl
theorem lwt_13_0 {L : Nat} {xs : Nat → Int32} {i b : Int} {h h1 : jH} {m' : jM} (hi : 0 ≤ i) (hL : i + 8 ≤ L) (hLL : L ≤ 1000) (hx : 0 < h.1) (ht : jt h 0 = 19) (hc : jd_153 0 (jX xs i 1) h = some (.inr 0, h1)) (ly : jLay h1) (hm : jd_297 (jX xs i 1) (jmf h1) = some (b, m')) (hk : m' 76 0 = 2) : jd_403_b1238 L xs (some 0) (some 76) (some 152) i h = some (.inl (i + 8, jhm h1 m')) := by
  have e1 : jsc L xs (i + 1) = some (jX xs i 1) := jsc_e (by omega) (by omega) (by omega)
  have l1 : jlk h1 76 = some () := jlk_e ly
  have l2 : jlk (jhm h1 m') 76 = some () := jlk_e (jLay_hm ly)
  unfold jd_403_b1238 jd_376
  simp only [e1, Option.bind_some, jck_e hx ht, hc, l1, hm, l2, jthr, hk, if_true, eq_self, jtc_r, jw_2, if_neg (show ¬ (2 : Int) = 0 by decide)]
  rfl
theorem lwt_13_1 {L : Nat} {xs : Nat → Int32} {i b : Int} {h h1 : jH} {m' : jM} (hi : 0 ≤ i) (hL : i + 8 ≤ L) (hLL : L ≤ 1000) (hx : 0 < h.1) (ht : jt h 0 = 19) (hc : jd_153 0 (jX xs i 1) h = some (.inr 1, h1)) (ly : jLay h1) (hm : jd_297 (jX xs i 1) (jmf h1) = some (b, m')) (hk : m' 76 0 = 3) : jd_403_b1238 L xs (some 0) (some 76) (some 152) i h = some (.inl (i + 8, jhm h1 m')) := by
  have e1 : jsc L xs (i + 1) = some (jX xs i 1) := jsc_e (by omega) (by omega) (by omega)
  have l1 : jlk h1 76 = some () := jlk_e ly
  have l2 : jlk (jhm h1 m') 76 = some () := jlk_e (jLay_hm ly)
  unfold jd_403_b1238 jd_376
  simp only [e1, Option.bind_some, jck_e hx ht, hc, l1, hm, l2, jthr, hk, if_true, eq_self, jtc_r, if_neg (show ¬ (1 : Nat) = 0 by decide), jw_3, if_neg (show ¬ (3 : Int) = 0 by decide)]
  rfl
theorem lwt_13_2 {L : Nat} {xs : Nat → Int32} {i b : Int} {h h1 : jH} {m' : jM} (hi : 0 ≤ i) (hL : i + 8 ≤ L) (hLL : L ≤ 1000) (hx : 0 < h.1) (ht : jt h 0 = 19) (hc : jd_153 0 (jX xs i 1) h = some (.inr 2, h1)) (ly : jLay h1) (hm : jd_297 (jX xs i 1) (jmf h1) = some (b, m')) (hk : m' 76 0 = 1) : jd_403_b1238 L xs (some 0) (some 76) (some 152) i h = some (.inl (i + 8, jhm h1 m')) := by
  have e1 : jsc L xs (i + 1) = some (jX xs i 1) := jsc_e (by omega) (by omega) (by omega)
  have l1 : jlk h1 76 = some () := jlk_e ly
  have l2 : jlk (jhm h1 m') 76 = some () := jlk_e (jLay_hm ly)
  unfold jd_403_b1238 jd_376
  simp only [e1, Option.bind_some, jck_e hx ht, hc, l1, hm, l2, jthr, hk, if_true, eq_self, jtc_r, if_neg (show ¬ (2 : Nat) = 0 by decide), if_neg (show ¬ (2 : Nat) = 1 by decide), jw_1, if_neg (show ¬ (1 : Int) = 0 by decide)]
  rfl
theorem lwr_14 {L : Nat} {xs : Nat → Int32} {i b : Int} {h h1 : jH} {m' : jM} (hi : 0 ≤ i) (hL : i + 8 ≤ L) (hLL : L ≤ 1000) (hx : 0 < h.1) (ht : jt h 0 = 19) {v : Int} (hc : jd_154 0  h = some (v, h1)) (ly : jLay h1) (hm : jd_298  (jmf h1) = some (b, m')) (hb : jw b = jw v) : jd_403_b1294 L xs (some 0) (some 76) (some 152) i h = some (.inl (i + 8, jhm h1 m')) := by
  have l1 : jlk h1 76 = some () := jlk_e ly
  unfold jd_403_b1294
  simp only [Option.bind_some, jck_e hx ht, hc, l1, hm, hb, if_true, eq_self]
  rfl
theorem lwr_15 {L : Nat} {xs : Nat → Int32} {i b : Int} {h h1 : jH} {m' : jM} (hi : 0 ≤ i) (hL : i + 8 ≤ L) (hLL : L ≤ 1000) (hx : 0 < h.1) (ht : jt h 0 = 19) {v : Int} (hc : jd_155 0 (jX xs i 1) h = some (.inl v, h1)) (ly : jLay h1) (hm : jd_300 (jX xs i 1) (jmf (jof h1 (jw v))) = some (b, m')) (hk : m' 76 0 = 0) (hb : jw b = jw v) : jd_403_b1307 L xs (some 0) (some 76) (some 152) i h = some (.inl (i + 8, jhm (jof h1 (jw v)) m')) := by
  have e1 : jsc L xs (i + 1) = some (jX xs i 1) := jsc_e (by omega) (by omega) (by omega)
  have l1 : jlk (jof h1 (jw v)) 76 = some () := jlk_e (jLay_sf ly)
  have l2 : jlk (jhm (jof h1 (jw v)) m') 76 = some () := jlk_e (jLay_hm (jLay_sf ly))
  have o1 : jta h1 152 3 0 (jw v) = some (jof h1 (jw v)) := jof_e ly
  have o2 : jal (jhm (jof h1 (jw v)) m') 152 0 = some (jw v) := jof_al ly
  unfold jd_403_b1307 jd_377
  simp only [e1, Option.bind_some, jck_e hx ht, hc, l1, hm, l2, jthr, hk, if_true, eq_self, jtc_l, o1, o2, jw_0, jwl_jw, hb]
  rfl
theorem lwt_15_0 {L : Nat} {xs : Nat → Int32} {i b : Int} {h h1 : jH} {m' : jM} (hi : 0 ≤ i) (hL : i + 8 ≤ L) (hLL : L ≤ 1000) (hx : 0 < h.1) (ht : jt h 0 = 19) (hc : jd_155 0 (jX xs i 1) h = some (.inr 0, h1)) (ly : jLay h1) (hm : jd_300 (jX xs i 1) (jmf h1) = some (b, m')) (hk : m' 76 0 = 1) : jd_403_b1307 L xs (some 0) (some 76) (some 152) i h = some (.inl (i + 8, jhm h1 m')) := by
  have e1 : jsc L xs (i + 1) = some (jX xs i 1) := jsc_e (by omega) (by omega) (by omega)
  have l1 : jlk h1 76 = some () := jlk_e ly
  have l2 : jlk (jhm h1 m') 76 = some () := jlk_e (jLay_hm ly)
  unfold jd_403_b1307 jd_377
  simp only [e1, Option.bind_some, jck_e hx ht, hc, l1, hm, l2, jthr, hk, if_true, eq_self, jtc_r, jw_1, if_neg (show ¬ (1 : Int) = 0 by decide)]
  rfl
theorem lwt_15_1 {L : Nat} {xs : Nat → Int32} {i b : Int} {h h1 : jH} {m' : jM} (hi : 0 ≤ i) (hL : i + 8 ≤ L) (hLL : L ≤ 1000) (hx : 0 < h.1) (ht : jt h 0 = 19) (hc : jd_155 0 (jX xs i 1) h = some (.inr 1, h1)) (ly : jLay h1) (hm : jd_300 (jX xs i 1) (jmf h1) = some (b, m')) (hk : m' 76 0 = 2) : jd_403_b1307 L xs (some 0) (some 76) (some 152) i h = some (.inl (i + 8, jhm h1 m')) := by
  have e1 : jsc L xs (i + 1) = some (jX xs i 1) := jsc_e (by omega) (by omega) (by omega)
  have l1 : jlk h1 76 = some () := jlk_e ly
  have l2 : jlk (jhm h1 m') 76 = some () := jlk_e (jLay_hm ly)
  unfold jd_403_b1307 jd_377
  simp only [e1, Option.bind_some, jck_e hx ht, hc, l1, hm, l2, jthr, hk, if_true, eq_self, jtc_r, if_neg (show ¬ (1 : Nat) = 0 by decide), jw_2, if_neg (show ¬ (2 : Int) = 0 by decide)]
  rfl
theorem lwr_16 {L : Nat} {xs : Nat → Int32} {i b : Int} {h h1 : jH} {m' : jM} (hi : 0 ≤ i) (hL : i + 8 ≤ L) (hLL : L ≤ 1000) (hx : 0 < h.1) (ht : jt h 0 = 19) {v : Int} (hc : jd_156 0  h = some (.inl v, h1)) (ly : jLay h1) (hm : jd_310  (jmf (jof h1 (jw v))) = some (b, m')) (hk : m' 76 0 = 0) (hb : jw b = jw v) : jd_403_b1363 L xs (some 0) (some 76) (some 152) i h = some (.inl (i + 8, jhm (jof h1 (jw v)) m')) := by
  have l1 : jlk (jof h1 (jw v)) 76 = some () := jlk_e (jLay_sf ly)
  have l2 : jlk (jhm (jof h1 (jw v)) m') 76 = some () := jlk_e (jLay_hm (jLay_sf ly))
  have o1 : jta h1 152 3 0 (jw v) = some (jof h1 (jw v)) := jof_e ly
  have o2 : jal (jhm (jof h1 (jw v)) m') 152 0 = some (jw v) := jof_al ly
  unfold jd_403_b1363 jd_378
  simp only [Option.bind_some, jck_e hx ht, hc, l1, hm, l2, jthr, hk, if_true, eq_self, jtc_l, o1, o2, jw_0, jwl_jw, hb]
  rfl
theorem lwt_16_1 {L : Nat} {xs : Nat → Int32} {i b : Int} {h h1 : jH} {m' : jM} (hi : 0 ≤ i) (hL : i + 8 ≤ L) (hLL : L ≤ 1000) (hx : 0 < h.1) (ht : jt h 0 = 19) (hc : jd_156 0  h = some (.inr 1, h1)) (ly : jLay h1) (hm : jd_310  (jmf h1) = some (b, m')) (hk : m' 76 0 = 1) : jd_403_b1363 L xs (some 0) (some 76) (some 152) i h = some (.inl (i + 8, jhm h1 m')) := by
  have l1 : jlk h1 76 = some () := jlk_e ly
  have l2 : jlk (jhm h1 m') 76 = some () := jlk_e (jLay_hm ly)
  unfold jd_403_b1363 jd_378
  simp only [Option.bind_some, jck_e hx ht, hc, l1, hm, l2, jthr, hk, if_true, eq_self, jtc_r, jw_1, if_neg (show ¬ (1 : Int) = 0 by decide)]
  rfl
theorem lwr_17 {L : Nat} {xs : Nat → Int32} {i b : Int} {h h1 : jH} {m' : jM} (hi : 0 ≤ i) (hL : i + 8 ≤ L) (hLL : L ≤ 1000) (hx : 0 < h.1) (ht : jt h 0 = 19) {v : Int} (hc : jd_157 0 (jX xs i 1) h = some (.inl v, h1)) (ly : jLay h1) (hm : jd_312 (jX xs i 1) (jmf (jof h1 (jw v))) = some (b, m')) (hk : m' 76 0 = 0) (hb : jw b = jw v) : jd_403_b1407 L xs (some 0) (some 76) (some 152) i h = some (.inl (i + 8, jhm (jof h1 (jw v)) m')) := by
  have e1 : jsc L xs (i + 1) = some (jX xs i 1) := jsc_e (by omega) (by omega) (by omega)
  have l1 : jlk (jof h1 (jw v)) 76 = some () := jlk_e (jLay_sf ly)
  have l2 : jlk (jhm (jof h1 (jw v)) m') 76 = some () := jlk_e (jLay_hm (jLay_sf ly))
  have o1 : jta h1 152 3 0 (jw v) = some (jof h1 (jw v)) := jof_e ly
  have o2 : jal (jhm (jof h1 (jw v)) m') 152 0 = some (jw v) := jof_al ly
  unfold jd_403_b1407 jd_379
  simp only [e1, Option.bind_some, jck_e hx ht, hc, l1, hm, l2, jthr, hk, if_true, eq_self, jtc_l, o1, o2, jw_0, jwl_jw, hb]
  rfl
theorem lwt_17_2 {L : Nat} {xs : Nat → Int32} {i b : Int} {h h1 : jH} {m' : jM} (hi : 0 ≤ i) (hL : i + 8 ≤ L) (hLL : L ≤ 1000) (hx : 0 < h.1) (ht : jt h 0 = 19) (hc : jd_157 0 (jX xs i 1) h = some (.inr 2, h1)) (ly : jLay h1) (hm : jd_312 (jX xs i 1) (jmf h1) = some (b, m')) (hk : m' 76 0 = 1) : jd_403_b1407 L xs (some 0) (some 76) (some 152) i h = some (.inl (i + 8, jhm h1 m')) := by
  have e1 : jsc L xs (i + 1) = some (jX xs i 1) := jsc_e (by omega) (by omega) (by omega)
  have l1 : jlk h1 76 = some () := jlk_e ly
  have l2 : jlk (jhm h1 m') 76 = some () := jlk_e (jLay_hm ly)
  unfold jd_403_b1407 jd_379
  simp only [e1, Option.bind_some, jck_e hx ht, hc, l1, hm, l2, jthr, hk, if_true, eq_self, jtc_r, jw_1, if_neg (show ¬ (1 : Int) = 0 by decide)]
  rfl
theorem lwr_18 {L : Nat} {xs : Nat → Int32} {i b : Int} {h h1 : jH} {m' : jM} (hi : 0 ≤ i) (hL : i + 8 ≤ L) (hLL : L ≤ 1000) (hx : 0 < h.1) (ht : jt h 0 = 19) {v : Int} (hc : jd_158 0 (jX xs i 1) (jX xs i 2) h = some (.inl v, h1)) (ly : jLay h1) (hm : jd_313 (jX xs i 1) (jX xs i 2) (jmf (jof h1 (jw v))) = some (b, m')) (hk : m' 76 0 = 0) (hb : jw b = jw v) : jd_403_b1463 L xs (some 0) (some 76) (some 152) i h = some (.inl (i + 8, jhm (jof h1 (jw v)) m')) := by
  have e1 : jsc L xs (i + 1) = some (jX xs i 1) := jsc_e (by omega) (by omega) (by omega)
  have e2 : jsc L xs (i + 2) = some (jX xs i 2) := jsc_e (by omega) (by omega) (by omega)
  have l1 : jlk (jof h1 (jw v)) 76 = some () := jlk_e (jLay_sf ly)
  have l2 : jlk (jhm (jof h1 (jw v)) m') 76 = some () := jlk_e (jLay_hm (jLay_sf ly))
  have o1 : jta h1 152 3 0 (jw v) = some (jof h1 (jw v)) := jof_e ly
  have o2 : jal (jhm (jof h1 (jw v)) m') 152 0 = some (jw v) := jof_al ly
  unfold jd_403_b1463 jd_380
  simp only [e1, e2, Option.bind_some, jck_e hx ht, hc, l1, hm, l2, jthr, hk, if_true, eq_self, jtc_l, o1, o2, jw_0, jwl_jw, hb]
  rfl
theorem lwt_18_0 {L : Nat} {xs : Nat → Int32} {i b : Int} {h h1 : jH} {m' : jM} (hi : 0 ≤ i) (hL : i + 8 ≤ L) (hLL : L ≤ 1000) (hx : 0 < h.1) (ht : jt h 0 = 19) (hc : jd_158 0 (jX xs i 1) (jX xs i 2) h = some (.inr 0, h1)) (ly : jLay h1) (hm : jd_313 (jX xs i 1) (jX xs i 2) (jmf h1) = some (b, m')) (hk : m' 76 0 = 2) : jd_403_b1463 L xs (some 0) (some 76) (some 152) i h = some (.inl (i + 8, jhm h1 m')) := by
  have e1 : jsc L xs (i + 1) = some (jX xs i 1) := jsc_e (by omega) (by omega) (by omega)
  have e2 : jsc L xs (i + 2) = some (jX xs i 2) := jsc_e (by omega) (by omega) (by omega)
  have l1 : jlk h1 76 = some () := jlk_e ly
  have l2 : jlk (jhm h1 m') 76 = some () := jlk_e (jLay_hm ly)
  unfold jd_403_b1463 jd_380
  simp only [e1, e2, Option.bind_some, jck_e hx ht, hc, l1, hm, l2, jthr, hk, if_true, eq_self, jtc_r, jw_2, if_neg (show ¬ (2 : Int) = 0 by decide)]
  rfl
theorem lwt_18_2 {L : Nat} {xs : Nat → Int32} {i b : Int} {h h1 : jH} {m' : jM} (hi : 0 ≤ i) (hL : i + 8 ≤ L) (hLL : L ≤ 1000) (hx : 0 < h.1) (ht : jt h 0 = 19) (hc : jd_158 0 (jX xs i 1) (jX xs i 2) h = some (.inr 2, h1)) (ly : jLay h1) (hm : jd_313 (jX xs i 1) (jX xs i 2) (jmf h1) = some (b, m')) (hk : m' 76 0 = 1) : jd_403_b1463 L xs (some 0) (some 76) (some 152) i h = some (.inl (i + 8, jhm h1 m')) := by
  have e1 : jsc L xs (i + 1) = some (jX xs i 1) := jsc_e (by omega) (by omega) (by omega)
  have e2 : jsc L xs (i + 2) = some (jX xs i 2) := jsc_e (by omega) (by omega) (by omega)
  have l1 : jlk h1 76 = some () := jlk_e ly
  have l2 : jlk (jhm h1 m') 76 = some () := jlk_e (jLay_hm ly)
  unfold jd_403_b1463 jd_380
  simp only [e1, e2, Option.bind_some, jck_e hx ht, hc, l1, hm, l2, jthr, hk, if_true, eq_self, jtc_r, if_neg (show ¬ (2 : Nat) = 0 by decide), jw_1, if_neg (show ¬ (1 : Int) = 0 by decide)]
  rfl
theorem lwr_19 {L : Nat} {xs : Nat → Int32} {i b : Int} {h h1 : jH} {m' : jM} (hi : 0 ≤ i) (hL : i + 8 ≤ L) (hLL : L ≤ 1000) (hx : 0 < h.1) (ht : jt h 0 = 19) {v : Int} (hc : jd_159 0 (jX xs i 1) (jX xs i 2) (jX xs i 3) h = some (.inl v, h1)) (ly : jLay h1) (hm : jd_315 (jX xs i 1) (jX xs i 2) (jX xs i 3) (jmf (jof h1 (jw v))) = some (b, m')) (hk : m' 76 0 = 0) (hb : jw b = jw v) : jd_403_b1531 L xs (some 0) (some 76) (some 152) i h = some (.inl (i + 8, jhm (jof h1 (jw v)) m')) := by
  have e1 : jsc L xs (i + 1) = some (jX xs i 1) := jsc_e (by omega) (by omega) (by omega)
  have e2 : jsc L xs (i + 2) = some (jX xs i 2) := jsc_e (by omega) (by omega) (by omega)
  have e3 : jsc L xs (i + 3) = some (jX xs i 3) := jsc_e (by omega) (by omega) (by omega)
  have l1 : jlk (jof h1 (jw v)) 76 = some () := jlk_e (jLay_sf ly)
  have l2 : jlk (jhm (jof h1 (jw v)) m') 76 = some () := jlk_e (jLay_hm (jLay_sf ly))
  have o1 : jta h1 152 3 0 (jw v) = some (jof h1 (jw v)) := jof_e ly
  have o2 : jal (jhm (jof h1 (jw v)) m') 152 0 = some (jw v) := jof_al ly
  unfold jd_403_b1531 jd_381
  simp only [e1, e2, e3, Option.bind_some, jck_e hx ht, hc, l1, hm, l2, jthr, hk, if_true, eq_self, jtc_l, o1, o2, jw_0, jwl_jw, hb]
  rfl
theorem lwt_19_0 {L : Nat} {xs : Nat → Int32} {i b : Int} {h h1 : jH} {m' : jM} (hi : 0 ≤ i) (hL : i + 8 ≤ L) (hLL : L ≤ 1000) (hx : 0 < h.1) (ht : jt h 0 = 19) (hc : jd_159 0 (jX xs i 1) (jX xs i 2) (jX xs i 3) h = some (.inr 0, h1)) (ly : jLay h1) (hm : jd_315 (jX xs i 1) (jX xs i 2) (jX xs i 3) (jmf h1) = some (b, m')) (hk : m' 76 0 = 2) : jd_403_b1531 L xs (some 0) (some 76) (some 152) i h = some (.inl (i + 8, jhm h1 m')) := by
  have e1 : jsc L xs (i + 1) = some (jX xs i 1) := jsc_e (by omega) (by omega) (by omega)
  have e2 : jsc L xs (i + 2) = some (jX xs i 2) := jsc_e (by omega) (by omega) (by omega)
  have e3 : jsc L xs (i + 3) = some (jX xs i 3) := jsc_e (by omega) (by omega) (by omega)
  have l1 : jlk h1 76 = some () := jlk_e ly
  have l2 : jlk (jhm h1 m') 76 = some () := jlk_e (jLay_hm ly)
  unfold jd_403_b1531 jd_381
  simp only [e1, e2, e3, Option.bind_some, jck_e hx ht, hc, l1, hm, l2, jthr, hk, if_true, eq_self, jtc_r, jw_2, if_neg (show ¬ (2 : Int) = 0 by decide)]
  rfl
theorem lwt_19_2 {L : Nat} {xs : Nat → Int32} {i b : Int} {h h1 : jH} {m' : jM} (hi : 0 ≤ i) (hL : i + 8 ≤ L) (hLL : L ≤ 1000) (hx : 0 < h.1) (ht : jt h 0 = 19) (hc : jd_159 0 (jX xs i 1) (jX xs i 2) (jX xs i 3) h = some (.inr 2, h1)) (ly : jLay h1) (hm : jd_315 (jX xs i 1) (jX xs i 2) (jX xs i 3) (jmf h1) = some (b, m')) (hk : m' 76 0 = 1) : jd_403_b1531 L xs (some 0) (some 76) (some 152) i h = some (.inl (i + 8, jhm h1 m')) := by
  have e1 : jsc L xs (i + 1) = some (jX xs i 1) := jsc_e (by omega) (by omega) (by omega)
  have e2 : jsc L xs (i + 2) = some (jX xs i 2) := jsc_e (by omega) (by omega) (by omega)
  have e3 : jsc L xs (i + 3) = some (jX xs i 3) := jsc_e (by omega) (by omega) (by omega)
  have l1 : jlk h1 76 = some () := jlk_e ly
  have l2 : jlk (jhm h1 m') 76 = some () := jlk_e (jLay_hm ly)
  unfold jd_403_b1531 jd_381
  simp only [e1, e2, e3, Option.bind_some, jck_e hx ht, hc, l1, hm, l2, jthr, hk, if_true, eq_self, jtc_r, if_neg (show ¬ (2 : Nat) = 0 by decide), jw_1, if_neg (show ¬ (1 : Int) = 0 by decide)]
  rfl
theorem lwr_20 {L : Nat} {xs : Nat → Int32} {i b : Int} {h h1 : jH} {m' : jM} (hi : 0 ≤ i) (hL : i + 8 ≤ L) (hLL : L ≤ 1000) (hx : 0 < h.1) (ht : jt h 0 = 19) {v : Int} (hc : jd_160 0 (jX xs i 1) (jX xs i 2) (jX xs i 3) (jX xs i 4) h = some (.inl v, h1)) (ly : jLay h1) (hm : jd_317 (jX xs i 1) (jX xs i 2) (jX xs i 3) (jX xs i 4) (jmf (jof h1 (jw v))) = some (b, m')) (hk : m' 76 0 = 0) (hb : jw b = jw v) : jd_403_b1611 L xs (some 0) (some 76) (some 152) i h = some (.inl (i + 8, jhm (jof h1 (jw v)) m')) := by
  have e1 : jsc L xs (i + 1) = some (jX xs i 1) := jsc_e (by omega) (by omega) (by omega)
  have e2 : jsc L xs (i + 2) = some (jX xs i 2) := jsc_e (by omega) (by omega) (by omega)
  have e3 : jsc L xs (i + 3) = some (jX xs i 3) := jsc_e (by omega) (by omega) (by omega)
  have e4 : jsc L xs (i + 4) = some (jX xs i 4) := jsc_e (by omega) (by omega) (by omega)
  have l1 : jlk (jof h1 (jw v)) 76 = some () := jlk_e (jLay_sf ly)
  have l2 : jlk (jhm (jof h1 (jw v)) m') 76 = some () := jlk_e (jLay_hm (jLay_sf ly))
  have o1 : jta h1 152 3 0 (jw v) = some (jof h1 (jw v)) := jof_e ly
  have o2 : jal (jhm (jof h1 (jw v)) m') 152 0 = some (jw v) := jof_al ly
  unfold jd_403_b1611 jd_382
  simp only [e1, e2, e3, e4, Option.bind_some, jck_e hx ht, hc, l1, hm, l2, jthr, hk, if_true, eq_self, jtc_l, o1, o2, jw_0, jwl_jw, hb]
  rfl
theorem lwt_20_0 {L : Nat} {xs : Nat → Int32} {i b : Int} {h h1 : jH} {m' : jM} (hi : 0 ≤ i) (hL : i + 8 ≤ L) (hLL : L ≤ 1000) (hx : 0 < h.1) (ht : jt h 0 = 19) (hc : jd_160 0 (jX xs i 1) (jX xs i 2) (jX xs i 3) (jX xs i 4) h = some (.inr 0, h1)) (ly : jLay h1) (hm : jd_317 (jX xs i 1) (jX xs i 2) (jX xs i 3) (jX xs i 4) (jmf h1) = some (b, m')) (hk : m' 76 0 = 2) : jd_403_b1611 L xs (some 0) (some 76) (some 152) i h = some (.inl (i + 8, jhm h1 m')) := by
  have e1 : jsc L xs (i + 1) = some (jX xs i 1) := jsc_e (by omega) (by omega) (by omega)
  have e2 : jsc L xs (i + 2) = some (jX xs i 2) := jsc_e (by omega) (by omega) (by omega)
  have e3 : jsc L xs (i + 3) = some (jX xs i 3) := jsc_e (by omega) (by omega) (by omega)
  have e4 : jsc L xs (i + 4) = some (jX xs i 4) := jsc_e (by omega) (by omega) (by omega)
  have l1 : jlk h1 76 = some () := jlk_e ly
  have l2 : jlk (jhm h1 m') 76 = some () := jlk_e (jLay_hm ly)
  unfold jd_403_b1611 jd_382
  simp only [e1, e2, e3, e4, Option.bind_some, jck_e hx ht, hc, l1, hm, l2, jthr, hk, if_true, eq_self, jtc_r, jw_2, if_neg (show ¬ (2 : Int) = 0 by decide)]
  rfl
theorem lwt_20_2 {L : Nat} {xs : Nat → Int32} {i b : Int} {h h1 : jH} {m' : jM} (hi : 0 ≤ i) (hL : i + 8 ≤ L) (hLL : L ≤ 1000) (hx : 0 < h.1) (ht : jt h 0 = 19) (hc : jd_160 0 (jX xs i 1) (jX xs i 2) (jX xs i 3) (jX xs i 4) h = some (.inr 2, h1)) (ly : jLay h1) (hm : jd_317 (jX xs i 1) (jX xs i 2) (jX xs i 3) (jX xs i 4) (jmf h1) = some (b, m')) (hk : m' 76 0 = 1) : jd_403_b1611 L xs (some 0) (some 76) (some 152) i h = some (.inl (i + 8, jhm h1 m')) := by
  have e1 : jsc L xs (i + 1) = some (jX xs i 1) := jsc_e (by omega) (by omega) (by omega)
  have e2 : jsc L xs (i + 2) = some (jX xs i 2) := jsc_e (by omega) (by omega) (by omega)
  have e3 : jsc L xs (i + 3) = some (jX xs i 3) := jsc_e (by omega) (by omega) (by omega)
  have e4 : jsc L xs (i + 4) = some (jX xs i 4) := jsc_e (by omega) (by omega) (by omega)
  have l1 : jlk h1 76 = some () := jlk_e ly
  have l2 : jlk (jhm h1 m') 76 = some () := jlk_e (jLay_hm ly)
  unfold jd_403_b1611 jd_382
  simp only [e1, e2, e3, e4, Option.bind_some, jck_e hx ht, hc, l1, hm, l2, jthr, hk, if_true, eq_self, jtc_r, if_neg (show ¬ (2 : Nat) = 0 by decide), jw_1, if_neg (show ¬ (1 : Int) = 0 by decide)]
  rfl
theorem lwr_21 {L : Nat} {xs : Nat → Int32} {i b : Int} {h h1 : jH} {m' : jM} (hi : 0 ≤ i) (hL : i + 8 ≤ L) (hLL : L ≤ 1000) (hx : 0 < h.1) (ht : jt h 0 = 19) {v : Int} (hc : jd_161 0 (jX xs i 1) (jX xs i 2) (jX xs i 3) (jX xs i 4) (jX xs i 5) h = some (.inl v, h1)) (ly : jLay h1) (hm : jd_321 (jX xs i 1) (jX xs i 2) (jX xs i 3) (jX xs i 4) (jX xs i 5) (jmf (jof h1 (jw v))) = some (b, m')) (hk : m' 76 0 = 0) (hb : jw b = jw v) : jd_403_b1703 L xs (some 0) (some 76) (some 152) i h = some (.inl (i + 8, jhm (jof h1 (jw v)) m')) := by
  have e1 : jsc L xs (i + 1) = some (jX xs i 1) := jsc_e (by omega) (by omega) (by omega)
  have e2 : jsc L xs (i + 2) = some (jX xs i 2) := jsc_e (by omega) (by omega) (by omega)
  have e3 : jsc L xs (i + 3) = some (jX xs i 3) := jsc_e (by omega) (by omega) (by omega)
  have e4 : jsc L xs (i + 4) = some (jX xs i 4) := jsc_e (by omega) (by omega) (by omega)
  have e5 : jsc L xs (i + 5) = some (jX xs i 5) := jsc_e (by omega) (by omega) (by omega)
  have l1 : jlk (jof h1 (jw v)) 76 = some () := jlk_e (jLay_sf ly)
  have l2 : jlk (jhm (jof h1 (jw v)) m') 76 = some () := jlk_e (jLay_hm (jLay_sf ly))
  have o1 : jta h1 152 3 0 (jw v) = some (jof h1 (jw v)) := jof_e ly
  have o2 : jal (jhm (jof h1 (jw v)) m') 152 0 = some (jw v) := jof_al ly
  unfold jd_403_b1703 jd_383
  simp only [e1, e2, e3, e4, e5, Option.bind_some, jck_e hx ht, hc, l1, hm, l2, jthr, hk, if_true, eq_self, jtc_l, o1, o2, jw_0, jwl_jw, hb]
  rfl
theorem lwt_21_2 {L : Nat} {xs : Nat → Int32} {i b : Int} {h h1 : jH} {m' : jM} (hi : 0 ≤ i) (hL : i + 8 ≤ L) (hLL : L ≤ 1000) (hx : 0 < h.1) (ht : jt h 0 = 19) (hc : jd_161 0 (jX xs i 1) (jX xs i 2) (jX xs i 3) (jX xs i 4) (jX xs i 5) h = some (.inr 2, h1)) (ly : jLay h1) (hm : jd_321 (jX xs i 1) (jX xs i 2) (jX xs i 3) (jX xs i 4) (jX xs i 5) (jmf h1) = some (b, m')) (hk : m' 76 0 = 1) : jd_403_b1703 L xs (some 0) (some 76) (some 152) i h = some (.inl (i + 8, jhm h1 m')) := by
  have e1 : jsc L xs (i + 1) = some (jX xs i 1) := jsc_e (by omega) (by omega) (by omega)
  have e2 : jsc L xs (i + 2) = some (jX xs i 2) := jsc_e (by omega) (by omega) (by omega)
  have e3 : jsc L xs (i + 3) = some (jX xs i 3) := jsc_e (by omega) (by omega) (by omega)
  have e4 : jsc L xs (i + 4) = some (jX xs i 4) := jsc_e (by omega) (by omega) (by omega)
  have e5 : jsc L xs (i + 5) = some (jX xs i 5) := jsc_e (by omega) (by omega) (by omega)
  have l1 : jlk h1 76 = some () := jlk_e ly
  have l2 : jlk (jhm h1 m') 76 = some () := jlk_e (jLay_hm ly)
  unfold jd_403_b1703 jd_383
  simp only [e1, e2, e3, e4, e5, Option.bind_some, jck_e hx ht, hc, l1, hm, l2, jthr, hk, if_true, eq_self, jtc_r, jw_1, if_neg (show ¬ (1 : Int) = 0 by decide)]
  rfl
theorem lwr_22 {L : Nat} {xs : Nat → Int32} {i b : Int} {h h1 : jH} {m' : jM} (hi : 0 ≤ i) (hL : i + 8 ≤ L) (hLL : L ≤ 1000) (hx : 0 < h.1) (ht : jt h 0 = 19) {v : Int} (hc : jd_162 0 (jX xs i 1) (jX xs i 2) (jX xs i 3) (jX xs i 4) (jX xs i 5) h = some (.inl v, h1)) (ly : jLay h1) (hm : jd_322 (jX xs i 1) (jX xs i 2) (jX xs i 3) (jX xs i 4) (jX xs i 5) (jmf (jof h1 (if jw v = 0 then 0 else 1))) = some (b, m')) (hk : m' 76 0 = 0) (hb : (if jw b = 0 then (0 : Int) else 1) = (if jw v = 0 then 0 else 1)) : jd_403_b1807 L xs (some 0) (some 76) (some 152) i h = some (.inl (i + 8, jhm (jof h1 (if jw v = 0 then 0 else 1)) m')) := by
  have e1 : jsc L xs (i + 1) = some (jX xs i 1) := jsc_e (by omega) (by omega) (by omega)
  have e2 : jsc L xs (i + 2) = some (jX xs i 2) := jsc_e (by omega) (by omega) (by omega)
  have e3 : jsc L xs (i + 3) = some (jX xs i 3) := jsc_e (by omega) (by omega) (by omega)
  have e4 : jsc L xs (i + 4) = some (jX xs i 4) := jsc_e (by omega) (by omega) (by omega)
  have e5 : jsc L xs (i + 5) = some (jX xs i 5) := jsc_e (by omega) (by omega) (by omega)
  have l1 : jlk (jof h1 (if jw v = 0 then 0 else 1)) 76 = some () := jlk_e (jLay_sf ly)
  have l2 : jlk (jhm (jof h1 (if jw v = 0 then 0 else 1)) m') 76 = some () := jlk_e (jLay_hm (jLay_sf ly))
  have o1 : jta h1 152 3 0 (if jw v = 0 then 0 else 1) = some (jof h1 (if jw v = 0 then 0 else 1)) := jof_e ly
  have o2 : jal (jhm (jof h1 (if jw v = 0 then 0 else 1)) m') 152 0 = some (if jw v = 0 then 0 else 1) := jof_al ly
  unfold jd_403_b1807 jd_384
  simp only [e1, e2, e3, e4, e5, Option.bind_some, jck_e hx ht, hc, l1, hm, l2, jthr, hk, if_true, eq_self, jtc_l, o1, o2, jw_0, hb]
  rfl
theorem lwt_22_2 {L : Nat} {xs : Nat → Int32} {i b : Int} {h h1 : jH} {m' : jM} (hi : 0 ≤ i) (hL : i + 8 ≤ L) (hLL : L ≤ 1000) (hx : 0 < h.1) (ht : jt h 0 = 19) (hc : jd_162 0 (jX xs i 1) (jX xs i 2) (jX xs i 3) (jX xs i 4) (jX xs i 5) h = some (.inr 2, h1)) (ly : jLay h1) (hm : jd_322 (jX xs i 1) (jX xs i 2) (jX xs i 3) (jX xs i 4) (jX xs i 5) (jmf h1) = some (b, m')) (hk : m' 76 0 = 1) : jd_403_b1807 L xs (some 0) (some 76) (some 152) i h = some (.inl (i + 8, jhm h1 m')) := by
  have e1 : jsc L xs (i + 1) = some (jX xs i 1) := jsc_e (by omega) (by omega) (by omega)
  have e2 : jsc L xs (i + 2) = some (jX xs i 2) := jsc_e (by omega) (by omega) (by omega)
  have e3 : jsc L xs (i + 3) = some (jX xs i 3) := jsc_e (by omega) (by omega) (by omega)
  have e4 : jsc L xs (i + 4) = some (jX xs i 4) := jsc_e (by omega) (by omega) (by omega)
  have e5 : jsc L xs (i + 5) = some (jX xs i 5) := jsc_e (by omega) (by omega) (by omega)
  have l1 : jlk h1 76 = some () := jlk_e ly
  have l2 : jlk (jhm h1 m') 76 = some () := jlk_e (jLay_hm ly)
  unfold jd_403_b1807 jd_384
  simp only [e1, e2, e3, e4, e5, Option.bind_some, jck_e hx ht, hc, l1, hm, l2, jthr, hk, if_true, eq_self, jtc_r, jw_1, if_neg (show ¬ (1 : Int) = 0 by decide)]
  rfl
theorem lwr_23 {L : Nat} {xs : Nat → Int32} {i b : Int} {h h1 : jH} {m' : jM} (hi : 0 ≤ i) (hL : i + 8 ≤ L) (hLL : L ≤ 1000) (hx : 0 < h.1) (ht : jt h 0 = 19) {v : Int} (hc : jd_163 0 (jX xs i 1) (jX xs i 2) h = some (.inl v, h1)) (ly : jLay h1) (hm : jd_323 (jX xs i 1) (jX xs i 2) (jmf (jof h1 (jw v))) = some (b, m')) (hk : m' 76 0 = 0) (hb : jw b = jw v) : jd_403_b1918 L xs (some 0) (some 76) (some 152) i h = some (.inl (i + 8, jhm (jof h1 (jw v)) m')) := by
  have e1 : jsc L xs (i + 1) = some (jX xs i 1) := jsc_e (by omega) (by omega) (by omega)
  have e2 : jsc L xs (i + 2) = some (jX xs i 2) := jsc_e (by omega) (by omega) (by omega)
  have l1 : jlk (jof h1 (jw v)) 76 = some () := jlk_e (jLay_sf ly)
  have l2 : jlk (jhm (jof h1 (jw v)) m') 76 = some () := jlk_e (jLay_hm (jLay_sf ly))
  have o1 : jta h1 152 3 0 (jw v) = some (jof h1 (jw v)) := jof_e ly
  have o2 : jal (jhm (jof h1 (jw v)) m') 152 0 = some (jw v) := jof_al ly
  unfold jd_403_b1918 jd_385
  simp only [e1, e2, Option.bind_some, jck_e hx ht, hc, l1, hm, l2, jthr, hk, if_true, eq_self, jtc_l, o1, o2, jw_0, jwl_jw, hb]
  rfl
theorem lwt_23_1 {L : Nat} {xs : Nat → Int32} {i b : Int} {h h1 : jH} {m' : jM} (hi : 0 ≤ i) (hL : i + 8 ≤ L) (hLL : L ≤ 1000) (hx : 0 < h.1) (ht : jt h 0 = 19) (hc : jd_163 0 (jX xs i 1) (jX xs i 2) h = some (.inr 1, h1)) (ly : jLay h1) (hm : jd_323 (jX xs i 1) (jX xs i 2) (jmf h1) = some (b, m')) (hk : m' 76 0 = 2) : jd_403_b1918 L xs (some 0) (some 76) (some 152) i h = some (.inl (i + 8, jhm h1 m')) := by
  have e1 : jsc L xs (i + 1) = some (jX xs i 1) := jsc_e (by omega) (by omega) (by omega)
  have e2 : jsc L xs (i + 2) = some (jX xs i 2) := jsc_e (by omega) (by omega) (by omega)
  have l1 : jlk h1 76 = some () := jlk_e ly
  have l2 : jlk (jhm h1 m') 76 = some () := jlk_e (jLay_hm ly)
  unfold jd_403_b1918 jd_385
  simp only [e1, e2, Option.bind_some, jck_e hx ht, hc, l1, hm, l2, jthr, hk, if_true, eq_self, jtc_r, jw_2, if_neg (show ¬ (2 : Int) = 0 by decide)]
  rfl
theorem lwt_23_2 {L : Nat} {xs : Nat → Int32} {i b : Int} {h h1 : jH} {m' : jM} (hi : 0 ≤ i) (hL : i + 8 ≤ L) (hLL : L ≤ 1000) (hx : 0 < h.1) (ht : jt h 0 = 19) (hc : jd_163 0 (jX xs i 1) (jX xs i 2) h = some (.inr 2, h1)) (ly : jLay h1) (hm : jd_323 (jX xs i 1) (jX xs i 2) (jmf h1) = some (b, m')) (hk : m' 76 0 = 1) : jd_403_b1918 L xs (some 0) (some 76) (some 152) i h = some (.inl (i + 8, jhm h1 m')) := by
  have e1 : jsc L xs (i + 1) = some (jX xs i 1) := jsc_e (by omega) (by omega) (by omega)
  have e2 : jsc L xs (i + 2) = some (jX xs i 2) := jsc_e (by omega) (by omega) (by omega)
  have l1 : jlk h1 76 = some () := jlk_e ly
  have l2 : jlk (jhm h1 m') 76 = some () := jlk_e (jLay_hm ly)
  unfold jd_403_b1918 jd_385
  simp only [e1, e2, Option.bind_some, jck_e hx ht, hc, l1, hm, l2, jthr, hk, if_true, eq_self, jtc_r, if_neg (show ¬ (2 : Nat) = 1 by decide), jw_1, if_neg (show ¬ (1 : Int) = 0 by decide)]
  rfl
theorem lwr_24 {L : Nat} {xs : Nat → Int32} {i b : Int} {h h1 : jH} {m' : jM} (hi : 0 ≤ i) (hL : i + 8 ≤ L) (hLL : L ≤ 1000) (hx : 0 < h.1) (ht : jt h 0 = 19) {v : Int} (hc : jd_164 0 (jX xs i 1) (jX xs i 2) (jX xs i 3) (jX xs i 4) h = some (.inl v, h1)) (ly : jLay h1) (hm : jd_324 (jX xs i 1) (jX xs i 2) (jX xs i 3) (jX xs i 4) (jmf (jof h1 (jw v))) = some (b, m')) (hk : m' 76 0 = 0) (hb : jw b = jw v) : jd_403_b1986 L xs (some 0) (some 76) (some 152) i h = some (.inl (i + 8, jhm (jof h1 (jw v)) m')) := by
  have e1 : jsc L xs (i + 1) = some (jX xs i 1) := jsc_e (by omega) (by omega) (by omega)
  have e2 : jsc L xs (i + 2) = some (jX xs i 2) := jsc_e (by omega) (by omega) (by omega)
  have e3 : jsc L xs (i + 3) = some (jX xs i 3) := jsc_e (by omega) (by omega) (by omega)
  have e4 : jsc L xs (i + 4) = some (jX xs i 4) := jsc_e (by omega) (by omega) (by omega)
  have l1 : jlk (jof h1 (jw v)) 76 = some () := jlk_e (jLay_sf ly)
  have l2 : jlk (jhm (jof h1 (jw v)) m') 76 = some () := jlk_e (jLay_hm (jLay_sf ly))
  have o1 : jta h1 152 3 0 (jw v) = some (jof h1 (jw v)) := jof_e ly
  have o2 : jal (jhm (jof h1 (jw v)) m') 152 0 = some (jw v) := jof_al ly
  unfold jd_403_b1986 jd_386
  simp only [e1, e2, e3, e4, Option.bind_some, jck_e hx ht, hc, l1, hm, l2, jthr, hk, if_true, eq_self, jtc_l, o1, o2, jw_0, jwl_jw, hb]
  rfl
theorem lwt_24_0 {L : Nat} {xs : Nat → Int32} {i b : Int} {h h1 : jH} {m' : jM} (hi : 0 ≤ i) (hL : i + 8 ≤ L) (hLL : L ≤ 1000) (hx : 0 < h.1) (ht : jt h 0 = 19) (hc : jd_164 0 (jX xs i 1) (jX xs i 2) (jX xs i 3) (jX xs i 4) h = some (.inr 0, h1)) (ly : jLay h1) (hm : jd_324 (jX xs i 1) (jX xs i 2) (jX xs i 3) (jX xs i 4) (jmf h1) = some (b, m')) (hk : m' 76 0 = 2) : jd_403_b1986 L xs (some 0) (some 76) (some 152) i h = some (.inl (i + 8, jhm h1 m')) := by
  have e1 : jsc L xs (i + 1) = some (jX xs i 1) := jsc_e (by omega) (by omega) (by omega)
  have e2 : jsc L xs (i + 2) = some (jX xs i 2) := jsc_e (by omega) (by omega) (by omega)
  have e3 : jsc L xs (i + 3) = some (jX xs i 3) := jsc_e (by omega) (by omega) (by omega)
  have e4 : jsc L xs (i + 4) = some (jX xs i 4) := jsc_e (by omega) (by omega) (by omega)
  have l1 : jlk h1 76 = some () := jlk_e ly
  have l2 : jlk (jhm h1 m') 76 = some () := jlk_e (jLay_hm ly)
  unfold jd_403_b1986 jd_386
  simp only [e1, e2, e3, e4, Option.bind_some, jck_e hx ht, hc, l1, hm, l2, jthr, hk, if_true, eq_self, jtc_r, jw_2, if_neg (show ¬ (2 : Int) = 0 by decide)]
  rfl
theorem lwt_24_2 {L : Nat} {xs : Nat → Int32} {i b : Int} {h h1 : jH} {m' : jM} (hi : 0 ≤ i) (hL : i + 8 ≤ L) (hLL : L ≤ 1000) (hx : 0 < h.1) (ht : jt h 0 = 19) (hc : jd_164 0 (jX xs i 1) (jX xs i 2) (jX xs i 3) (jX xs i 4) h = some (.inr 2, h1)) (ly : jLay h1) (hm : jd_324 (jX xs i 1) (jX xs i 2) (jX xs i 3) (jX xs i 4) (jmf h1) = some (b, m')) (hk : m' 76 0 = 1) : jd_403_b1986 L xs (some 0) (some 76) (some 152) i h = some (.inl (i + 8, jhm h1 m')) := by
  have e1 : jsc L xs (i + 1) = some (jX xs i 1) := jsc_e (by omega) (by omega) (by omega)
  have e2 : jsc L xs (i + 2) = some (jX xs i 2) := jsc_e (by omega) (by omega) (by omega)
  have e3 : jsc L xs (i + 3) = some (jX xs i 3) := jsc_e (by omega) (by omega) (by omega)
  have e4 : jsc L xs (i + 4) = some (jX xs i 4) := jsc_e (by omega) (by omega) (by omega)
  have l1 : jlk h1 76 = some () := jlk_e ly
  have l2 : jlk (jhm h1 m') 76 = some () := jlk_e (jLay_hm ly)
  unfold jd_403_b1986 jd_386
  simp only [e1, e2, e3, e4, Option.bind_some, jck_e hx ht, hc, l1, hm, l2, jthr, hk, if_true, eq_self, jtc_r, if_neg (show ¬ (2 : Nat) = 0 by decide), jw_1, if_neg (show ¬ (1 : Int) = 0 by decide)]
  rfl
theorem lwr_25 {L : Nat} {xs : Nat → Int32} {i b : Int} {h h1 : jH} {m' : jM} (hi : 0 ≤ i) (hL : i + 8 ≤ L) (hLL : L ≤ 1000) (hx : 0 < h.1) (ht : jt h 0 = 19) {v : Int} (hc : jd_165 0 (jX xs i 1) (jX xs i 2) (jX xs i 3) h = some (.inl v, h1)) (ly : jLay h1) (hm : jd_325 (jX xs i 1) (jX xs i 2) (jX xs i 3) (jmf (jof h1 (jw v))) = some (b, m')) (hk : m' 76 0 = 0) (hb : jw b = jw v) : jd_403_b2078 L xs (some 0) (some 76) (some 152) i h = some (.inl (i + 8, jhm (jof h1 (jw v)) m')) := by
  have e1 : jsc L xs (i + 1) = some (jX xs i 1) := jsc_e (by omega) (by omega) (by omega)
  have e2 : jsc L xs (i + 2) = some (jX xs i 2) := jsc_e (by omega) (by omega) (by omega)
  have e3 : jsc L xs (i + 3) = some (jX xs i 3) := jsc_e (by omega) (by omega) (by omega)
  have l1 : jlk (jof h1 (jw v)) 76 = some () := jlk_e (jLay_sf ly)
  have l2 : jlk (jhm (jof h1 (jw v)) m') 76 = some () := jlk_e (jLay_hm (jLay_sf ly))
  have o1 : jta h1 152 3 0 (jw v) = some (jof h1 (jw v)) := jof_e ly
  have o2 : jal (jhm (jof h1 (jw v)) m') 152 0 = some (jw v) := jof_al ly
  unfold jd_403_b2078 jd_387
  simp only [e1, e2, e3, Option.bind_some, jck_e hx ht, hc, l1, hm, l2, jthr, hk, if_true, eq_self, jtc_l, o1, o2, jw_0, jwl_jw, hb]
  rfl
theorem lwt_25_0 {L : Nat} {xs : Nat → Int32} {i b : Int} {h h1 : jH} {m' : jM} (hi : 0 ≤ i) (hL : i + 8 ≤ L) (hLL : L ≤ 1000) (hx : 0 < h.1) (ht : jt h 0 = 19) (hc : jd_165 0 (jX xs i 1) (jX xs i 2) (jX xs i 3) h = some (.inr 0, h1)) (ly : jLay h1) (hm : jd_325 (jX xs i 1) (jX xs i 2) (jX xs i 3) (jmf h1) = some (b, m')) (hk : m' 76 0 = 2) : jd_403_b2078 L xs (some 0) (some 76) (some 152) i h = some (.inl (i + 8, jhm h1 m')) := by
  have e1 : jsc L xs (i + 1) = some (jX xs i 1) := jsc_e (by omega) (by omega) (by omega)
  have e2 : jsc L xs (i + 2) = some (jX xs i 2) := jsc_e (by omega) (by omega) (by omega)
  have e3 : jsc L xs (i + 3) = some (jX xs i 3) := jsc_e (by omega) (by omega) (by omega)
  have l1 : jlk h1 76 = some () := jlk_e ly
  have l2 : jlk (jhm h1 m') 76 = some () := jlk_e (jLay_hm ly)
  unfold jd_403_b2078 jd_387
  simp only [e1, e2, e3, Option.bind_some, jck_e hx ht, hc, l1, hm, l2, jthr, hk, if_true, eq_self, jtc_r, jw_2, if_neg (show ¬ (2 : Int) = 0 by decide)]
  rfl
theorem lwt_25_1 {L : Nat} {xs : Nat → Int32} {i b : Int} {h h1 : jH} {m' : jM} (hi : 0 ≤ i) (hL : i + 8 ≤ L) (hLL : L ≤ 1000) (hx : 0 < h.1) (ht : jt h 0 = 19) (hc : jd_165 0 (jX xs i 1) (jX xs i 2) (jX xs i 3) h = some (.inr 1, h1)) (ly : jLay h1) (hm : jd_325 (jX xs i 1) (jX xs i 2) (jX xs i 3) (jmf h1) = some (b, m')) (hk : m' 76 0 = 3) : jd_403_b2078 L xs (some 0) (some 76) (some 152) i h = some (.inl (i + 8, jhm h1 m')) := by
  have e1 : jsc L xs (i + 1) = some (jX xs i 1) := jsc_e (by omega) (by omega) (by omega)
  have e2 : jsc L xs (i + 2) = some (jX xs i 2) := jsc_e (by omega) (by omega) (by omega)
  have e3 : jsc L xs (i + 3) = some (jX xs i 3) := jsc_e (by omega) (by omega) (by omega)
  have l1 : jlk h1 76 = some () := jlk_e ly
  have l2 : jlk (jhm h1 m') 76 = some () := jlk_e (jLay_hm ly)
  unfold jd_403_b2078 jd_387
  simp only [e1, e2, e3, Option.bind_some, jck_e hx ht, hc, l1, hm, l2, jthr, hk, if_true, eq_self, jtc_r, if_neg (show ¬ (1 : Nat) = 0 by decide), jw_3, if_neg (show ¬ (3 : Int) = 0 by decide)]
  rfl
theorem lwt_25_2 {L : Nat} {xs : Nat → Int32} {i b : Int} {h h1 : jH} {m' : jM} (hi : 0 ≤ i) (hL : i + 8 ≤ L) (hLL : L ≤ 1000) (hx : 0 < h.1) (ht : jt h 0 = 19) (hc : jd_165 0 (jX xs i 1) (jX xs i 2) (jX xs i 3) h = some (.inr 2, h1)) (ly : jLay h1) (hm : jd_325 (jX xs i 1) (jX xs i 2) (jX xs i 3) (jmf h1) = some (b, m')) (hk : m' 76 0 = 1) : jd_403_b2078 L xs (some 0) (some 76) (some 152) i h = some (.inl (i + 8, jhm h1 m')) := by
  have e1 : jsc L xs (i + 1) = some (jX xs i 1) := jsc_e (by omega) (by omega) (by omega)
  have e2 : jsc L xs (i + 2) = some (jX xs i 2) := jsc_e (by omega) (by omega) (by omega)
  have e3 : jsc L xs (i + 3) = some (jX xs i 3) := jsc_e (by omega) (by omega) (by omega)
  have l1 : jlk h1 76 = some () := jlk_e ly
  have l2 : jlk (jhm h1 m') 76 = some () := jlk_e (jLay_hm ly)
  unfold jd_403_b2078 jd_387
  simp only [e1, e2, e3, Option.bind_some, jck_e hx ht, hc, l1, hm, l2, jthr, hk, if_true, eq_self, jtc_r, if_neg (show ¬ (2 : Nat) = 0 by decide), if_neg (show ¬ (2 : Nat) = 1 by decide), jw_1, if_neg (show ¬ (1 : Int) = 0 by decide)]
  rfl
theorem lwr_26 {L : Nat} {xs : Nat → Int32} {i b : Int} {h h1 : jH} {m' : jM} (hi : 0 ≤ i) (hL : i + 8 ≤ L) (hLL : L ≤ 1000) (hx : 0 < h.1) (ht : jt h 0 = 19) {v : Int} (hc : jd_166 0  h = some (.inl v, h1)) (ly : jLay h1) (hm : jd_330  (jmf (jof h1 (jw v))) = some (b, m')) (hk : m' 76 0 = 0) (hb : jw b = jw v) : jd_403_b2158 L xs (some 0) (some 76) (some 152) i h = some (.inl (i + 8, jhm (jof h1 (jw v)) m')) := by
  have l1 : jlk (jof h1 (jw v)) 76 = some () := jlk_e (jLay_sf ly)
  have l2 : jlk (jhm (jof h1 (jw v)) m') 76 = some () := jlk_e (jLay_hm (jLay_sf ly))
  have o1 : jta h1 152 3 0 (jw v) = some (jof h1 (jw v)) := jof_e ly
  have o2 : jal (jhm (jof h1 (jw v)) m') 152 0 = some (jw v) := jof_al ly
  unfold jd_403_b2158 jd_388
  simp only [Option.bind_some, jck_e hx ht, hc, l1, hm, l2, jthr, hk, if_true, eq_self, jtc_l, o1, o2, jw_0, jwl_jw, hb]
  rfl
theorem lwt_26_1 {L : Nat} {xs : Nat → Int32} {i b : Int} {h h1 : jH} {m' : jM} (hi : 0 ≤ i) (hL : i + 8 ≤ L) (hLL : L ≤ 1000) (hx : 0 < h.1) (ht : jt h 0 = 19) (hc : jd_166 0  h = some (.inr 1, h1)) (ly : jLay h1) (hm : jd_330  (jmf h1) = some (b, m')) (hk : m' 76 0 = 1) : jd_403_b2158 L xs (some 0) (some 76) (some 152) i h = some (.inl (i + 8, jhm h1 m')) := by
  have l1 : jlk h1 76 = some () := jlk_e ly
  have l2 : jlk (jhm h1 m') 76 = some () := jlk_e (jLay_hm ly)
  unfold jd_403_b2158 jd_388
  simp only [Option.bind_some, jck_e hx ht, hc, l1, hm, l2, jthr, hk, if_true, eq_self, jtc_r, jw_1, if_neg (show ¬ (1 : Int) = 0 by decide)]
  rfl
theorem lwr_27 {L : Nat} {xs : Nat → Int32} {i b : Int} {h h1 : jH} {m' : jM} (hi : 0 ≤ i) (hL : i + 8 ≤ L) (hLL : L ≤ 1000) (hx : 0 < h.1) (ht : jt h 0 = 19) {v : Int} (hc : jd_167 0 (jX xs i 1) (jX xs i 2) h = some (.inl v, h1)) (ly : jLay h1) (hm : jd_331 (jX xs i 1) (jX xs i 2) (jmf (jof h1 (if jw v = 0 then 0 else 1))) = some (b, m')) (hk : m' 76 0 = 0) (hb : (if jw b = 0 then (0 : Int) else 1) = (if jw v = 0 then 0 else 1)) : jd_403_b2202 L xs (some 0) (some 76) (some 152) i h = some (.inl (i + 8, jhm (jof h1 (if jw v = 0 then 0 else 1)) m')) := by
  have e1 : jsc L xs (i + 1) = some (jX xs i 1) := jsc_e (by omega) (by omega) (by omega)
  have e2 : jsc L xs (i + 2) = some (jX xs i 2) := jsc_e (by omega) (by omega) (by omega)
  have l1 : jlk (jof h1 (if jw v = 0 then 0 else 1)) 76 = some () := jlk_e (jLay_sf ly)
  have l2 : jlk (jhm (jof h1 (if jw v = 0 then 0 else 1)) m') 76 = some () := jlk_e (jLay_hm (jLay_sf ly))
  have o1 : jta h1 152 3 0 (if jw v = 0 then 0 else 1) = some (jof h1 (if jw v = 0 then 0 else 1)) := jof_e ly
  have o2 : jal (jhm (jof h1 (if jw v = 0 then 0 else 1)) m') 152 0 = some (if jw v = 0 then 0 else 1) := jof_al ly
  unfold jd_403_b2202 jd_389
  simp only [e1, e2, Option.bind_some, jck_e hx ht, hc, l1, hm, l2, jthr, hk, if_true, eq_self, jtc_l, o1, o2, jw_0, hb]
  rfl
theorem lwt_27_2 {L : Nat} {xs : Nat → Int32} {i b : Int} {h h1 : jH} {m' : jM} (hi : 0 ≤ i) (hL : i + 8 ≤ L) (hLL : L ≤ 1000) (hx : 0 < h.1) (ht : jt h 0 = 19) (hc : jd_167 0 (jX xs i 1) (jX xs i 2) h = some (.inr 2, h1)) (ly : jLay h1) (hm : jd_331 (jX xs i 1) (jX xs i 2) (jmf h1) = some (b, m')) (hk : m' 76 0 = 1) : jd_403_b2202 L xs (some 0) (some 76) (some 152) i h = some (.inl (i + 8, jhm h1 m')) := by
  have e1 : jsc L xs (i + 1) = some (jX xs i 1) := jsc_e (by omega) (by omega) (by omega)
  have e2 : jsc L xs (i + 2) = some (jX xs i 2) := jsc_e (by omega) (by omega) (by omega)
  have l1 : jlk h1 76 = some () := jlk_e ly
  have l2 : jlk (jhm h1 m') 76 = some () := jlk_e (jLay_hm ly)
  unfold jd_403_b2202 jd_389
  simp only [e1, e2, Option.bind_some, jck_e hx ht, hc, l1, hm, l2, jthr, hk, if_true, eq_self, jtc_r, jw_1, if_neg (show ¬ (1 : Int) = 0 by decide)]
  rfl
theorem lwr_28 {L : Nat} {xs : Nat → Int32} {i b : Int} {h h1 : jH} {m' : jM} (hi : 0 ≤ i) (hL : i + 8 ≤ L) (hLL : L ≤ 1000) (hx : 0 < h.1) (ht : jt h 0 = 19) {v : Int} (hc : jd_168 0  h = some (v, h1)) (ly : jLay h1) (hm : jd_332  (jmf h1) = some (b, m')) (hb : jw b = jw v) : jd_403_b2277 L xs (some 0) (some 76) (some 152) i h = some (.inl (i + 8, jhm h1 m')) := by
  have l1 : jlk h1 76 = some () := jlk_e ly
  unfold jd_403_b2277
  simp only [Option.bind_some, jck_e hx ht, hc, l1, hm, hb, if_true, eq_self]
  rfl
theorem lwr_29 {L : Nat} {xs : Nat → Int32} {i b : Int} {h h1 : jH} {m' : jM} (hi : 0 ≤ i) (hL : i + 8 ≤ L) (hLL : L ≤ 1000) (hx : 0 < h.1) (ht : jt h 0 = 19) {v : Int} (hc : jd_169 0  h = some (.inl v, h1)) (ly : jLay h1) (hm : jd_344  (jmf (jof h1 (jw v))) = some (b, m')) (hk : m' 76 0 = 0) (hb : jw b = jw v) : jd_403_b2290 L xs (some 0) (some 76) (some 152) i h = some (.inl (i + 8, jhm (jof h1 (jw v)) m')) := by
  have l1 : jlk (jof h1 (jw v)) 76 = some () := jlk_e (jLay_sf ly)
  have l2 : jlk (jhm (jof h1 (jw v)) m') 76 = some () := jlk_e (jLay_hm (jLay_sf ly))
  have o1 : jta h1 152 3 0 (jw v) = some (jof h1 (jw v)) := jof_e ly
  have o2 : jal (jhm (jof h1 (jw v)) m') 152 0 = some (jw v) := jof_al ly
  unfold jd_403_b2290 jd_390
  simp only [Option.bind_some, jck_e hx ht, hc, l1, hm, l2, jthr, hk, if_true, eq_self, jtc_l, o1, o2, jw_0, jwl_jw, hb]
  rfl
theorem lwt_29_1 {L : Nat} {xs : Nat → Int32} {i b : Int} {h h1 : jH} {m' : jM} (hi : 0 ≤ i) (hL : i + 8 ≤ L) (hLL : L ≤ 1000) (hx : 0 < h.1) (ht : jt h 0 = 19) (hc : jd_169 0  h = some (.inr 1, h1)) (ly : jLay h1) (hm : jd_344  (jmf h1) = some (b, m')) (hk : m' 76 0 = 1) : jd_403_b2290 L xs (some 0) (some 76) (some 152) i h = some (.inl (i + 8, jhm h1 m')) := by
  have l1 : jlk h1 76 = some () := jlk_e ly
  have l2 : jlk (jhm h1 m') 76 = some () := jlk_e (jLay_hm ly)
  unfold jd_403_b2290 jd_390
  simp only [Option.bind_some, jck_e hx ht, hc, l1, hm, l2, jthr, hk, if_true, eq_self, jtc_r, jw_1, if_neg (show ¬ (1 : Int) = 0 by decide)]
  rfl
theorem lwr_30 {L : Nat} {xs : Nat → Int32} {i b : Int} {h h1 : jH} {m' : jM} (hi : 0 ≤ i) (hL : i + 8 ≤ L) (hLL : L ≤ 1000) (hx : 0 < h.1) (ht : jt h 0 = 19) {v : Int} (hc : jd_170 0 (jX xs i 1) (jX xs i 2) (jX xs i 3) h = some (.inl v, h1)) (ly : jLay h1) (hm : jd_347 (jX xs i 1) (jX xs i 2) (jX xs i 3) (jmf (jof h1 (jw v))) = some (b, m')) (hk : m' 76 0 = 0) (hb : jw b = jw v) : jd_403_b2334 L xs (some 0) (some 76) (some 152) i h = some (.inl (i + 8, jhm (jof h1 (jw v)) m')) := by
  have e1 : jsc L xs (i + 1) = some (jX xs i 1) := jsc_e (by omega) (by omega) (by omega)
  have e2 : jsc L xs (i + 2) = some (jX xs i 2) := jsc_e (by omega) (by omega) (by omega)
  have e3 : jsc L xs (i + 3) = some (jX xs i 3) := jsc_e (by omega) (by omega) (by omega)
  have l1 : jlk (jof h1 (jw v)) 76 = some () := jlk_e (jLay_sf ly)
  have l2 : jlk (jhm (jof h1 (jw v)) m') 76 = some () := jlk_e (jLay_hm (jLay_sf ly))
  have o1 : jta h1 152 3 0 (jw v) = some (jof h1 (jw v)) := jof_e ly
  have o2 : jal (jhm (jof h1 (jw v)) m') 152 0 = some (jw v) := jof_al ly
  unfold jd_403_b2334 jd_391
  simp only [e1, e2, e3, Option.bind_some, jck_e hx ht, hc, l1, hm, l2, jthr, hk, if_true, eq_self, jtc_l, o1, o2, jw_0, jwl_jw, hb]
  rfl
theorem lwt_30_1 {L : Nat} {xs : Nat → Int32} {i b : Int} {h h1 : jH} {m' : jM} (hi : 0 ≤ i) (hL : i + 8 ≤ L) (hLL : L ≤ 1000) (hx : 0 < h.1) (ht : jt h 0 = 19) (hc : jd_170 0 (jX xs i 1) (jX xs i 2) (jX xs i 3) h = some (.inr 1, h1)) (ly : jLay h1) (hm : jd_347 (jX xs i 1) (jX xs i 2) (jX xs i 3) (jmf h1) = some (b, m')) (hk : m' 76 0 = 2) : jd_403_b2334 L xs (some 0) (some 76) (some 152) i h = some (.inl (i + 8, jhm h1 m')) := by
  have e1 : jsc L xs (i + 1) = some (jX xs i 1) := jsc_e (by omega) (by omega) (by omega)
  have e2 : jsc L xs (i + 2) = some (jX xs i 2) := jsc_e (by omega) (by omega) (by omega)
  have e3 : jsc L xs (i + 3) = some (jX xs i 3) := jsc_e (by omega) (by omega) (by omega)
  have l1 : jlk h1 76 = some () := jlk_e ly
  have l2 : jlk (jhm h1 m') 76 = some () := jlk_e (jLay_hm ly)
  unfold jd_403_b2334 jd_391
  simp only [e1, e2, e3, Option.bind_some, jck_e hx ht, hc, l1, hm, l2, jthr, hk, if_true, eq_self, jtc_r, jw_2, if_neg (show ¬ (2 : Int) = 0 by decide)]
  rfl
theorem lwt_30_2 {L : Nat} {xs : Nat → Int32} {i b : Int} {h h1 : jH} {m' : jM} (hi : 0 ≤ i) (hL : i + 8 ≤ L) (hLL : L ≤ 1000) (hx : 0 < h.1) (ht : jt h 0 = 19) (hc : jd_170 0 (jX xs i 1) (jX xs i 2) (jX xs i 3) h = some (.inr 2, h1)) (ly : jLay h1) (hm : jd_347 (jX xs i 1) (jX xs i 2) (jX xs i 3) (jmf h1) = some (b, m')) (hk : m' 76 0 = 1) : jd_403_b2334 L xs (some 0) (some 76) (some 152) i h = some (.inl (i + 8, jhm h1 m')) := by
  have e1 : jsc L xs (i + 1) = some (jX xs i 1) := jsc_e (by omega) (by omega) (by omega)
  have e2 : jsc L xs (i + 2) = some (jX xs i 2) := jsc_e (by omega) (by omega) (by omega)
  have e3 : jsc L xs (i + 3) = some (jX xs i 3) := jsc_e (by omega) (by omega) (by omega)
  have l1 : jlk h1 76 = some () := jlk_e ly
  have l2 : jlk (jhm h1 m') 76 = some () := jlk_e (jLay_hm ly)
  unfold jd_403_b2334 jd_391
  simp only [e1, e2, e3, Option.bind_some, jck_e hx ht, hc, l1, hm, l2, jthr, hk, if_true, eq_self, jtc_r, if_neg (show ¬ (2 : Nat) = 1 by decide), jw_1, if_neg (show ¬ (1 : Int) = 0 by decide)]
  rfl
theorem lwr_31 {L : Nat} {xs : Nat → Int32} {i b : Int} {h h1 : jH} {m' : jM} (hi : 0 ≤ i) (hL : i + 8 ≤ L) (hLL : L ≤ 1000) (hx : 0 < h.1) (ht : jt h 0 = 19) {v : Int} (hc : jd_171 0 (jX xs i 1) (jX xs i 2) (jX xs i 3) h = some (.inl v, h1)) (ly : jLay h1) (hm : jd_348 (jX xs i 1) (jX xs i 2) (jX xs i 3) (jmf (jof h1 (jw v))) = some (b, m')) (hk : m' 76 0 = 0) (hb : jw b = jw v) : jd_403_b2414 L xs (some 0) (some 76) (some 152) i h = some (.inl (i + 8, jhm (jof h1 (jw v)) m')) := by
  have e1 : jsc L xs (i + 1) = some (jX xs i 1) := jsc_e (by omega) (by omega) (by omega)
  have e2 : jsc L xs (i + 2) = some (jX xs i 2) := jsc_e (by omega) (by omega) (by omega)
  have e3 : jsc L xs (i + 3) = some (jX xs i 3) := jsc_e (by omega) (by omega) (by omega)
  have l1 : jlk (jof h1 (jw v)) 76 = some () := jlk_e (jLay_sf ly)
  have l2 : jlk (jhm (jof h1 (jw v)) m') 76 = some () := jlk_e (jLay_hm (jLay_sf ly))
  have o1 : jta h1 152 3 0 (jw v) = some (jof h1 (jw v)) := jof_e ly
  have o2 : jal (jhm (jof h1 (jw v)) m') 152 0 = some (jw v) := jof_al ly
  unfold jd_403_b2414 jd_392
  simp only [e1, e2, e3, Option.bind_some, jck_e hx ht, hc, l1, hm, l2, jthr, hk, if_true, eq_self, jtc_l, o1, o2, jw_0, jwl_jw, hb]
  rfl
theorem lwt_31_0 {L : Nat} {xs : Nat → Int32} {i b : Int} {h h1 : jH} {m' : jM} (hi : 0 ≤ i) (hL : i + 8 ≤ L) (hLL : L ≤ 1000) (hx : 0 < h.1) (ht : jt h 0 = 19) (hc : jd_171 0 (jX xs i 1) (jX xs i 2) (jX xs i 3) h = some (.inr 0, h1)) (ly : jLay h1) (hm : jd_348 (jX xs i 1) (jX xs i 2) (jX xs i 3) (jmf h1) = some (b, m')) (hk : m' 76 0 = 2) : jd_403_b2414 L xs (some 0) (some 76) (some 152) i h = some (.inl (i + 8, jhm h1 m')) := by
  have e1 : jsc L xs (i + 1) = some (jX xs i 1) := jsc_e (by omega) (by omega) (by omega)
  have e2 : jsc L xs (i + 2) = some (jX xs i 2) := jsc_e (by omega) (by omega) (by omega)
  have e3 : jsc L xs (i + 3) = some (jX xs i 3) := jsc_e (by omega) (by omega) (by omega)
  have l1 : jlk h1 76 = some () := jlk_e ly
  have l2 : jlk (jhm h1 m') 76 = some () := jlk_e (jLay_hm ly)
  unfold jd_403_b2414 jd_392
  simp only [e1, e2, e3, Option.bind_some, jck_e hx ht, hc, l1, hm, l2, jthr, hk, if_true, eq_self, jtc_r, jw_2, if_neg (show ¬ (2 : Int) = 0 by decide)]
  rfl
theorem lwt_31_2 {L : Nat} {xs : Nat → Int32} {i b : Int} {h h1 : jH} {m' : jM} (hi : 0 ≤ i) (hL : i + 8 ≤ L) (hLL : L ≤ 1000) (hx : 0 < h.1) (ht : jt h 0 = 19) (hc : jd_171 0 (jX xs i 1) (jX xs i 2) (jX xs i 3) h = some (.inr 2, h1)) (ly : jLay h1) (hm : jd_348 (jX xs i 1) (jX xs i 2) (jX xs i 3) (jmf h1) = some (b, m')) (hk : m' 76 0 = 1) : jd_403_b2414 L xs (some 0) (some 76) (some 152) i h = some (.inl (i + 8, jhm h1 m')) := by
  have e1 : jsc L xs (i + 1) = some (jX xs i 1) := jsc_e (by omega) (by omega) (by omega)
  have e2 : jsc L xs (i + 2) = some (jX xs i 2) := jsc_e (by omega) (by omega) (by omega)
  have e3 : jsc L xs (i + 3) = some (jX xs i 3) := jsc_e (by omega) (by omega) (by omega)
  have l1 : jlk h1 76 = some () := jlk_e ly
  have l2 : jlk (jhm h1 m') 76 = some () := jlk_e (jLay_hm ly)
  unfold jd_403_b2414 jd_392
  simp only [e1, e2, e3, Option.bind_some, jck_e hx ht, hc, l1, hm, l2, jthr, hk, if_true, eq_self, jtc_r, if_neg (show ¬ (2 : Nat) = 0 by decide), jw_1, if_neg (show ¬ (1 : Int) = 0 by decide)]
  rfl
theorem lwr_32 {L : Nat} {xs : Nat → Int32} {i b : Int} {h h1 : jH} {m' : jM} (hi : 0 ≤ i) (hL : i + 8 ≤ L) (hLL : L ≤ 1000) (hx : 0 < h.1) (ht : jt h 0 = 19) {v : Int} (hc : jd_172 0 (jX xs i 1) (jX xs i 2) h = some (.inl v, h1)) (ly : jLay h1) (hm : jd_350 (jX xs i 1) (jX xs i 2) (jmf (jof h1 (if jw v = 0 then 0 else 1))) = some (b, m')) (hk : m' 76 0 = 0) (hb : (if jw b = 0 then (0 : Int) else 1) = (if jw v = 0 then 0 else 1)) : jd_403_b2494 L xs (some 0) (some 76) (some 152) i h = some (.inl (i + 8, jhm (jof h1 (if jw v = 0 then 0 else 1)) m')) := by
  have e1 : jsc L xs (i + 1) = some (jX xs i 1) := jsc_e (by omega) (by omega) (by omega)
  have e2 : jsc L xs (i + 2) = some (jX xs i 2) := jsc_e (by omega) (by omega) (by omega)
  have l1 : jlk (jof h1 (if jw v = 0 then 0 else 1)) 76 = some () := jlk_e (jLay_sf ly)
  have l2 : jlk (jhm (jof h1 (if jw v = 0 then 0 else 1)) m') 76 = some () := jlk_e (jLay_hm (jLay_sf ly))
  have o1 : jta h1 152 3 0 (if jw v = 0 then 0 else 1) = some (jof h1 (if jw v = 0 then 0 else 1)) := jof_e ly
  have o2 : jal (jhm (jof h1 (if jw v = 0 then 0 else 1)) m') 152 0 = some (if jw v = 0 then 0 else 1) := jof_al ly
  unfold jd_403_b2494 jd_393
  simp only [e1, e2, Option.bind_some, jck_e hx ht, hc, l1, hm, l2, jthr, hk, if_true, eq_self, jtc_l, o1, o2, jw_0, hb]
  rfl
theorem lwt_32_2 {L : Nat} {xs : Nat → Int32} {i b : Int} {h h1 : jH} {m' : jM} (hi : 0 ≤ i) (hL : i + 8 ≤ L) (hLL : L ≤ 1000) (hx : 0 < h.1) (ht : jt h 0 = 19) (hc : jd_172 0 (jX xs i 1) (jX xs i 2) h = some (.inr 2, h1)) (ly : jLay h1) (hm : jd_350 (jX xs i 1) (jX xs i 2) (jmf h1) = some (b, m')) (hk : m' 76 0 = 1) : jd_403_b2494 L xs (some 0) (some 76) (some 152) i h = some (.inl (i + 8, jhm h1 m')) := by
  have e1 : jsc L xs (i + 1) = some (jX xs i 1) := jsc_e (by omega) (by omega) (by omega)
  have e2 : jsc L xs (i + 2) = some (jX xs i 2) := jsc_e (by omega) (by omega) (by omega)
  have l1 : jlk h1 76 = some () := jlk_e ly
  have l2 : jlk (jhm h1 m') 76 = some () := jlk_e (jLay_hm ly)
  unfold jd_403_b2494 jd_393
  simp only [e1, e2, Option.bind_some, jck_e hx ht, hc, l1, hm, l2, jthr, hk, if_true, eq_self, jtc_r, jw_1, if_neg (show ¬ (1 : Int) = 0 by decide)]
  rfl
theorem lwr_33 {L : Nat} {xs : Nat → Int32} {i b : Int} {h h1 : jH} {m' : jM} (hi : 0 ≤ i) (hL : i + 8 ≤ L) (hLL : L ≤ 1000) (hx : 0 < h.1) (ht : jt h 0 = 19) {v : Int} (hc : jd_173 0 (jX xs i 1) (jX xs i 2) h = some (.inl v, h1)) (ly : jLay h1) (hm : jd_352 (jX xs i 1) (jX xs i 2) (jmf (jof h1 (jw v))) = some (b, m')) (hk : m' 76 0 = 0) (hb : jw b = jw v) : jd_403_b2569 L xs (some 0) (some 76) (some 152) i h = some (.inl (i + 8, jhm (jof h1 (jw v)) m')) := by
  have e1 : jsc L xs (i + 1) = some (jX xs i 1) := jsc_e (by omega) (by omega) (by omega)
  have e2 : jsc L xs (i + 2) = some (jX xs i 2) := jsc_e (by omega) (by omega) (by omega)
  have l1 : jlk (jof h1 (jw v)) 76 = some () := jlk_e (jLay_sf ly)
  have l2 : jlk (jhm (jof h1 (jw v)) m') 76 = some () := jlk_e (jLay_hm (jLay_sf ly))
  have o1 : jta h1 152 3 0 (jw v) = some (jof h1 (jw v)) := jof_e ly
  have o2 : jal (jhm (jof h1 (jw v)) m') 152 0 = some (jw v) := jof_al ly
  unfold jd_403_b2569 jd_394
  simp only [e1, e2, Option.bind_some, jck_e hx ht, hc, l1, hm, l2, jthr, hk, if_true, eq_self, jtc_l, o1, o2, jw_0, jwl_jw, hb]
  rfl
theorem lwt_33_2 {L : Nat} {xs : Nat → Int32} {i b : Int} {h h1 : jH} {m' : jM} (hi : 0 ≤ i) (hL : i + 8 ≤ L) (hLL : L ≤ 1000) (hx : 0 < h.1) (ht : jt h 0 = 19) (hc : jd_173 0 (jX xs i 1) (jX xs i 2) h = some (.inr 2, h1)) (ly : jLay h1) (hm : jd_352 (jX xs i 1) (jX xs i 2) (jmf h1) = some (b, m')) (hk : m' 76 0 = 1) : jd_403_b2569 L xs (some 0) (some 76) (some 152) i h = some (.inl (i + 8, jhm h1 m')) := by
  have e1 : jsc L xs (i + 1) = some (jX xs i 1) := jsc_e (by omega) (by omega) (by omega)
  have e2 : jsc L xs (i + 2) = some (jX xs i 2) := jsc_e (by omega) (by omega) (by omega)
  have l1 : jlk h1 76 = some () := jlk_e ly
  have l2 : jlk (jhm h1 m') 76 = some () := jlk_e (jLay_hm ly)
  unfold jd_403_b2569 jd_394
  simp only [e1, e2, Option.bind_some, jck_e hx ht, hc, l1, hm, l2, jthr, hk, if_true, eq_self, jtc_r, jw_1, if_neg (show ¬ (1 : Int) = 0 by decide)]
  rfl
theorem lwr_34 {L : Nat} {xs : Nat → Int32} {i b : Int} {h h1 : jH} {m' : jM} (hi : 0 ≤ i) (hL : i + 8 ≤ L) (hLL : L ≤ 1000) (hx : 0 < h.1) (ht : jt h 0 = 19) {v : Int} (hc : jd_174 0 (jX xs i 1) (jX xs i 2) (jX xs i 3) (jX xs i 4) h = some (.inl v, h1)) (ly : jLay h1) (hm : jd_354 (jX xs i 1) (jX xs i 2) (jX xs i 3) (jX xs i 4) (jmf (jof h1 (jw v))) = some (b, m')) (hk : m' 76 0 = 0) (hb : jw b = jw v) : jd_403_b2637 L xs (some 0) (some 76) (some 152) i h = some (.inl (i + 8, jhm (jof h1 (jw v)) m')) := by
  have e1 : jsc L xs (i + 1) = some (jX xs i 1) := jsc_e (by omega) (by omega) (by omega)
  have e2 : jsc L xs (i + 2) = some (jX xs i 2) := jsc_e (by omega) (by omega) (by omega)
  have e3 : jsc L xs (i + 3) = some (jX xs i 3) := jsc_e (by omega) (by omega) (by omega)
  have e4 : jsc L xs (i + 4) = some (jX xs i 4) := jsc_e (by omega) (by omega) (by omega)
  have l1 : jlk (jof h1 (jw v)) 76 = some () := jlk_e (jLay_sf ly)
  have l2 : jlk (jhm (jof h1 (jw v)) m') 76 = some () := jlk_e (jLay_hm (jLay_sf ly))
  have o1 : jta h1 152 3 0 (jw v) = some (jof h1 (jw v)) := jof_e ly
  have o2 : jal (jhm (jof h1 (jw v)) m') 152 0 = some (jw v) := jof_al ly
  unfold jd_403_b2637 jd_395
  simp only [e1, e2, e3, e4, Option.bind_some, jck_e hx ht, hc, l1, hm, l2, jthr, hk, if_true, eq_self, jtc_l, o1, o2, jw_0, jwl_jw, hb]
  rfl
theorem lwt_34_0 {L : Nat} {xs : Nat → Int32} {i b : Int} {h h1 : jH} {m' : jM} (hi : 0 ≤ i) (hL : i + 8 ≤ L) (hLL : L ≤ 1000) (hx : 0 < h.1) (ht : jt h 0 = 19) (hc : jd_174 0 (jX xs i 1) (jX xs i 2) (jX xs i 3) (jX xs i 4) h = some (.inr 0, h1)) (ly : jLay h1) (hm : jd_354 (jX xs i 1) (jX xs i 2) (jX xs i 3) (jX xs i 4) (jmf h1) = some (b, m')) (hk : m' 76 0 = 2) : jd_403_b2637 L xs (some 0) (some 76) (some 152) i h = some (.inl (i + 8, jhm h1 m')) := by
  have e1 : jsc L xs (i + 1) = some (jX xs i 1) := jsc_e (by omega) (by omega) (by omega)
  have e2 : jsc L xs (i + 2) = some (jX xs i 2) := jsc_e (by omega) (by omega) (by omega)
  have e3 : jsc L xs (i + 3) = some (jX xs i 3) := jsc_e (by omega) (by omega) (by omega)
  have e4 : jsc L xs (i + 4) = some (jX xs i 4) := jsc_e (by omega) (by omega) (by omega)
  have l1 : jlk h1 76 = some () := jlk_e ly
  have l2 : jlk (jhm h1 m') 76 = some () := jlk_e (jLay_hm ly)
  unfold jd_403_b2637 jd_395
  simp only [e1, e2, e3, e4, Option.bind_some, jck_e hx ht, hc, l1, hm, l2, jthr, hk, if_true, eq_self, jtc_r, jw_2, if_neg (show ¬ (2 : Int) = 0 by decide)]
  rfl
theorem lwt_34_2 {L : Nat} {xs : Nat → Int32} {i b : Int} {h h1 : jH} {m' : jM} (hi : 0 ≤ i) (hL : i + 8 ≤ L) (hLL : L ≤ 1000) (hx : 0 < h.1) (ht : jt h 0 = 19) (hc : jd_174 0 (jX xs i 1) (jX xs i 2) (jX xs i 3) (jX xs i 4) h = some (.inr 2, h1)) (ly : jLay h1) (hm : jd_354 (jX xs i 1) (jX xs i 2) (jX xs i 3) (jX xs i 4) (jmf h1) = some (b, m')) (hk : m' 76 0 = 1) : jd_403_b2637 L xs (some 0) (some 76) (some 152) i h = some (.inl (i + 8, jhm h1 m')) := by
  have e1 : jsc L xs (i + 1) = some (jX xs i 1) := jsc_e (by omega) (by omega) (by omega)
  have e2 : jsc L xs (i + 2) = some (jX xs i 2) := jsc_e (by omega) (by omega) (by omega)
  have e3 : jsc L xs (i + 3) = some (jX xs i 3) := jsc_e (by omega) (by omega) (by omega)
  have e4 : jsc L xs (i + 4) = some (jX xs i 4) := jsc_e (by omega) (by omega) (by omega)
  have l1 : jlk h1 76 = some () := jlk_e ly
  have l2 : jlk (jhm h1 m') 76 = some () := jlk_e (jLay_hm ly)
  unfold jd_403_b2637 jd_395
  simp only [e1, e2, e3, e4, Option.bind_some, jck_e hx ht, hc, l1, hm, l2, jthr, hk, if_true, eq_self, jtc_r, if_neg (show ¬ (2 : Nat) = 0 by decide), jw_1, if_neg (show ¬ (1 : Int) = 0 by decide)]
  rfl
theorem lwr_35 {L : Nat} {xs : Nat → Int32} {i b : Int} {h h1 : jH} {m' : jM} (hi : 0 ≤ i) (hL : i + 8 ≤ L) (hLL : L ≤ 1000) (hx : 0 < h.1) (ht : jt h 0 = 19) (hc : jd_175 0 (jX xs i 1) (jX xs i 2) (jX xs i 3) (jX xs i 4) h = some (.inl (), h1)) (ly : jLay h1) (hm : jd_356 (jX xs i 1) (jX xs i 2) (jX xs i 3) (jX xs i 4) (jmf h1) = some m') (hk : m' 76 0 = 0) : jd_403_b2729 L xs (some 0) (some 76) (some 152) i h = some (.inl (i + 8, jhm h1 m')) := by
  have e1 : jsc L xs (i + 1) = some (jX xs i 1) := jsc_e (by omega) (by omega) (by omega)
  have e2 : jsc L xs (i + 2) = some (jX xs i 2) := jsc_e (by omega) (by omega) (by omega)
  have e3 : jsc L xs (i + 3) = some (jX xs i 3) := jsc_e (by omega) (by omega) (by omega)
  have e4 : jsc L xs (i + 4) = some (jX xs i 4) := jsc_e (by omega) (by omega) (by omega)
  have l1 : jlk h1 76 = some () := jlk_e ly
  have l2 : jlk (jhm h1 m') 76 = some () := jlk_e (jLay_hm ly)
  unfold jd_403_b2729 jd_396
  simp only [e1, e2, e3, e4, Option.bind_some, jck_e hx ht, hc, l1, hm, l2, jthr, hk, if_true, eq_self, jtc_l]
  rfl
theorem lwt_35_0 {L : Nat} {xs : Nat → Int32} {i b : Int} {h h1 : jH} {m' : jM} (hi : 0 ≤ i) (hL : i + 8 ≤ L) (hLL : L ≤ 1000) (hx : 0 < h.1) (ht : jt h 0 = 19) (hc : jd_175 0 (jX xs i 1) (jX xs i 2) (jX xs i 3) (jX xs i 4) h = some (.inr 0, h1)) (ly : jLay h1) (hm : jd_356 (jX xs i 1) (jX xs i 2) (jX xs i 3) (jX xs i 4) (jmf h1) = some m') (hk : m' 76 0 = 2) : jd_403_b2729 L xs (some 0) (some 76) (some 152) i h = some (.inl (i + 8, jhm h1 m')) := by
  have e1 : jsc L xs (i + 1) = some (jX xs i 1) := jsc_e (by omega) (by omega) (by omega)
  have e2 : jsc L xs (i + 2) = some (jX xs i 2) := jsc_e (by omega) (by omega) (by omega)
  have e3 : jsc L xs (i + 3) = some (jX xs i 3) := jsc_e (by omega) (by omega) (by omega)
  have e4 : jsc L xs (i + 4) = some (jX xs i 4) := jsc_e (by omega) (by omega) (by omega)
  have l1 : jlk h1 76 = some () := jlk_e ly
  have l2 : jlk (jhm h1 m') 76 = some () := jlk_e (jLay_hm ly)
  unfold jd_403_b2729 jd_396
  simp only [e1, e2, e3, e4, Option.bind_some, jck_e hx ht, hc, l1, hm, l2, jthr, hk, if_true, eq_self, jtc_r]
  rfl
theorem lwt_35_2 {L : Nat} {xs : Nat → Int32} {i b : Int} {h h1 : jH} {m' : jM} (hi : 0 ≤ i) (hL : i + 8 ≤ L) (hLL : L ≤ 1000) (hx : 0 < h.1) (ht : jt h 0 = 19) (hc : jd_175 0 (jX xs i 1) (jX xs i 2) (jX xs i 3) (jX xs i 4) h = some (.inr 2, h1)) (ly : jLay h1) (hm : jd_356 (jX xs i 1) (jX xs i 2) (jX xs i 3) (jX xs i 4) (jmf h1) = some m') (hk : m' 76 0 = 1) : jd_403_b2729 L xs (some 0) (some 76) (some 152) i h = some (.inl (i + 8, jhm h1 m')) := by
  have e1 : jsc L xs (i + 1) = some (jX xs i 1) := jsc_e (by omega) (by omega) (by omega)
  have e2 : jsc L xs (i + 2) = some (jX xs i 2) := jsc_e (by omega) (by omega) (by omega)
  have e3 : jsc L xs (i + 3) = some (jX xs i 3) := jsc_e (by omega) (by omega) (by omega)
  have e4 : jsc L xs (i + 4) = some (jX xs i 4) := jsc_e (by omega) (by omega) (by omega)
  have l1 : jlk h1 76 = some () := jlk_e ly
  have l2 : jlk (jhm h1 m') 76 = some () := jlk_e (jLay_hm ly)
  unfold jd_403_b2729 jd_396
  simp only [e1, e2, e3, e4, Option.bind_some, jck_e hx ht, hc, l1, hm, l2, jthr, hk, if_true, eq_self, jtc_r, if_neg (show ¬ (2 : Nat) = 0 by decide)]
  rfl
theorem lwr_36 {L : Nat} {xs : Nat → Int32} {i b : Int} {h h1 : jH} {m' : jM} (hi : 0 ≤ i) (hL : i + 8 ≤ L) (hLL : L ≤ 1000) (hx : 0 < h.1) (ht : jt h 0 = 19) {v : Int} (hc : jd_176 0 (jX xs i 1) h = some (.inl v, h1)) (ly : jLay h1) (hm : jd_359 (jX xs i 1) (jmf (jof h1 (jw v))) = some (b, m')) (hk : m' 76 0 = 0) (hb : jw b = jw v) : jd_403_b2801 L xs (some 0) (some 76) (some 152) i h = some (.inl (i + 8, jhm (jof h1 (jw v)) m')) := by
  have e1 : jsc L xs (i + 1) = some (jX xs i 1) := jsc_e (by omega) (by omega) (by omega)
  have l1 : jlk (jof h1 (jw v)) 76 = some () := jlk_e (jLay_sf ly)
  have l2 : jlk (jhm (jof h1 (jw v)) m') 76 = some () := jlk_e (jLay_hm (jLay_sf ly))
  have o1 : jta h1 152 3 0 (jw v) = some (jof h1 (jw v)) := jof_e ly
  have o2 : jal (jhm (jof h1 (jw v)) m') 152 0 = some (jw v) := jof_al ly
  unfold jd_403_b2801 jd_397
  simp only [e1, Option.bind_some, jck_e hx ht, hc, l1, hm, l2, jthr, hk, if_true, eq_self, jtc_l, o1, o2, jw_0, jwl_jw, hb]
  rfl
theorem lwt_36_1 {L : Nat} {xs : Nat → Int32} {i b : Int} {h h1 : jH} {m' : jM} (hi : 0 ≤ i) (hL : i + 8 ≤ L) (hLL : L ≤ 1000) (hx : 0 < h.1) (ht : jt h 0 = 19) (hc : jd_176 0 (jX xs i 1) h = some (.inr 1, h1)) (ly : jLay h1) (hm : jd_359 (jX xs i 1) (jmf h1) = some (b, m')) (hk : m' 76 0 = 2) : jd_403_b2801 L xs (some 0) (some 76) (some 152) i h = some (.inl (i + 8, jhm h1 m')) := by
  have e1 : jsc L xs (i + 1) = some (jX xs i 1) := jsc_e (by omega) (by omega) (by omega)
  have l1 : jlk h1 76 = some () := jlk_e ly
  have l2 : jlk (jhm h1 m') 76 = some () := jlk_e (jLay_hm ly)
  unfold jd_403_b2801 jd_397
  simp only [e1, Option.bind_some, jck_e hx ht, hc, l1, hm, l2, jthr, hk, if_true, eq_self, jtc_r, jw_2, if_neg (show ¬ (2 : Int) = 0 by decide)]
  rfl
theorem lwt_36_2 {L : Nat} {xs : Nat → Int32} {i b : Int} {h h1 : jH} {m' : jM} (hi : 0 ≤ i) (hL : i + 8 ≤ L) (hLL : L ≤ 1000) (hx : 0 < h.1) (ht : jt h 0 = 19) (hc : jd_176 0 (jX xs i 1) h = some (.inr 2, h1)) (ly : jLay h1) (hm : jd_359 (jX xs i 1) (jmf h1) = some (b, m')) (hk : m' 76 0 = 1) : jd_403_b2801 L xs (some 0) (some 76) (some 152) i h = some (.inl (i + 8, jhm h1 m')) := by
  have e1 : jsc L xs (i + 1) = some (jX xs i 1) := jsc_e (by omega) (by omega) (by omega)
  have l1 : jlk h1 76 = some () := jlk_e ly
  have l2 : jlk (jhm h1 m') 76 = some () := jlk_e (jLay_hm ly)
  unfold jd_403_b2801 jd_397
  simp only [e1, Option.bind_some, jck_e hx ht, hc, l1, hm, l2, jthr, hk, if_true, eq_self, jtc_r, if_neg (show ¬ (2 : Nat) = 1 by decide), jw_1, if_neg (show ¬ (1 : Int) = 0 by decide)]
  rfl
theorem lwr_37 {L : Nat} {xs : Nat → Int32} {i b : Int} {h h1 : jH} {m' : jM} (hi : 0 ≤ i) (hL : i + 8 ≤ L) (hLL : L ≤ 1000) (hx : 0 < h.1) (ht : jt h 0 = 19) (hc : jd_177 0 (jX xs i 1) (jX xs i 2) h = some (.inl (), h1)) (ly : jLay h1) (hm : jd_360 (jX xs i 1) (jX xs i 2) (jmf h1) = some m') (hk : m' 76 0 = 0) : jd_403_b2857 L xs (some 0) (some 76) (some 152) i h = some (.inl (i + 8, jhm h1 m')) := by
  have e1 : jsc L xs (i + 1) = some (jX xs i 1) := jsc_e (by omega) (by omega) (by omega)
  have e2 : jsc L xs (i + 2) = some (jX xs i 2) := jsc_e (by omega) (by omega) (by omega)
  have l1 : jlk h1 76 = some () := jlk_e ly
  have l2 : jlk (jhm h1 m') 76 = some () := jlk_e (jLay_hm ly)
  unfold jd_403_b2857 jd_398
  simp only [e1, e2, Option.bind_some, jck_e hx ht, hc, l1, hm, l2, jthr, hk, if_true, eq_self, jtc_l]
  rfl
theorem lwt_37_1 {L : Nat} {xs : Nat → Int32} {i b : Int} {h h1 : jH} {m' : jM} (hi : 0 ≤ i) (hL : i + 8 ≤ L) (hLL : L ≤ 1000) (hx : 0 < h.1) (ht : jt h 0 = 19) (hc : jd_177 0 (jX xs i 1) (jX xs i 2) h = some (.inr 1, h1)) (ly : jLay h1) (hm : jd_360 (jX xs i 1) (jX xs i 2) (jmf h1) = some m') (hk : m' 76 0 = 2) : jd_403_b2857 L xs (some 0) (some 76) (some 152) i h = some (.inl (i + 8, jhm h1 m')) := by
  have e1 : jsc L xs (i + 1) = some (jX xs i 1) := jsc_e (by omega) (by omega) (by omega)
  have e2 : jsc L xs (i + 2) = some (jX xs i 2) := jsc_e (by omega) (by omega) (by omega)
  have l1 : jlk h1 76 = some () := jlk_e ly
  have l2 : jlk (jhm h1 m') 76 = some () := jlk_e (jLay_hm ly)
  unfold jd_403_b2857 jd_398
  simp only [e1, e2, Option.bind_some, jck_e hx ht, hc, l1, hm, l2, jthr, hk, if_true, eq_self, jtc_r]
  rfl
theorem lwt_37_2 {L : Nat} {xs : Nat → Int32} {i b : Int} {h h1 : jH} {m' : jM} (hi : 0 ≤ i) (hL : i + 8 ≤ L) (hLL : L ≤ 1000) (hx : 0 < h.1) (ht : jt h 0 = 19) (hc : jd_177 0 (jX xs i 1) (jX xs i 2) h = some (.inr 2, h1)) (ly : jLay h1) (hm : jd_360 (jX xs i 1) (jX xs i 2) (jmf h1) = some m') (hk : m' 76 0 = 1) : jd_403_b2857 L xs (some 0) (some 76) (some 152) i h = some (.inl (i + 8, jhm h1 m')) := by
  have e1 : jsc L xs (i + 1) = some (jX xs i 1) := jsc_e (by omega) (by omega) (by omega)
  have e2 : jsc L xs (i + 2) = some (jX xs i 2) := jsc_e (by omega) (by omega) (by omega)
  have l1 : jlk h1 76 = some () := jlk_e ly
  have l2 : jlk (jhm h1 m') 76 = some () := jlk_e (jLay_hm ly)
  unfold jd_403_b2857 jd_398
  simp only [e1, e2, Option.bind_some, jck_e hx ht, hc, l1, hm, l2, jthr, hk, if_true, eq_self, jtc_r, if_neg (show ¬ (2 : Nat) = 1 by decide)]
  rfl
theorem lwr_38 {L : Nat} {xs : Nat → Int32} {i b : Int} {h h1 : jH} {m' : jM} (hi : 0 ≤ i) (hL : i + 8 ≤ L) (hLL : L ≤ 1000) (hx : 0 < h.1) (ht : jt h 0 = 19) (hc : jd_178 0 (jX xs i 1) (jX xs i 2) h = some (.inl (), h1)) (ly : jLay h1) (hm : jd_361 (jX xs i 1) (jX xs i 2) (jmf h1) = some m') (hk : m' 76 0 = 0) : jd_403_b2905 L xs (some 0) (some 76) (some 152) i h = some (.inl (i + 8, jhm h1 m')) := by
  have e1 : jsc L xs (i + 1) = some (jX xs i 1) := jsc_e (by omega) (by omega) (by omega)
  have e2 : jsc L xs (i + 2) = some (jX xs i 2) := jsc_e (by omega) (by omega) (by omega)
  have l1 : jlk h1 76 = some () := jlk_e ly
  have l2 : jlk (jhm h1 m') 76 = some () := jlk_e (jLay_hm ly)
  unfold jd_403_b2905 jd_399
  simp only [e1, e2, Option.bind_some, jck_e hx ht, hc, l1, hm, l2, jthr, hk, if_true, eq_self, jtc_l]
  rfl
theorem lwt_38_1 {L : Nat} {xs : Nat → Int32} {i b : Int} {h h1 : jH} {m' : jM} (hi : 0 ≤ i) (hL : i + 8 ≤ L) (hLL : L ≤ 1000) (hx : 0 < h.1) (ht : jt h 0 = 19) (hc : jd_178 0 (jX xs i 1) (jX xs i 2) h = some (.inr 1, h1)) (ly : jLay h1) (hm : jd_361 (jX xs i 1) (jX xs i 2) (jmf h1) = some m') (hk : m' 76 0 = 2) : jd_403_b2905 L xs (some 0) (some 76) (some 152) i h = some (.inl (i + 8, jhm h1 m')) := by
  have e1 : jsc L xs (i + 1) = some (jX xs i 1) := jsc_e (by omega) (by omega) (by omega)
  have e2 : jsc L xs (i + 2) = some (jX xs i 2) := jsc_e (by omega) (by omega) (by omega)
  have l1 : jlk h1 76 = some () := jlk_e ly
  have l2 : jlk (jhm h1 m') 76 = some () := jlk_e (jLay_hm ly)
  unfold jd_403_b2905 jd_399
  simp only [e1, e2, Option.bind_some, jck_e hx ht, hc, l1, hm, l2, jthr, hk, if_true, eq_self, jtc_r]
  rfl
theorem lwt_38_2 {L : Nat} {xs : Nat → Int32} {i b : Int} {h h1 : jH} {m' : jM} (hi : 0 ≤ i) (hL : i + 8 ≤ L) (hLL : L ≤ 1000) (hx : 0 < h.1) (ht : jt h 0 = 19) (hc : jd_178 0 (jX xs i 1) (jX xs i 2) h = some (.inr 2, h1)) (ly : jLay h1) (hm : jd_361 (jX xs i 1) (jX xs i 2) (jmf h1) = some m') (hk : m' 76 0 = 1) : jd_403_b2905 L xs (some 0) (some 76) (some 152) i h = some (.inl (i + 8, jhm h1 m')) := by
  have e1 : jsc L xs (i + 1) = some (jX xs i 1) := jsc_e (by omega) (by omega) (by omega)
  have e2 : jsc L xs (i + 2) = some (jX xs i 2) := jsc_e (by omega) (by omega) (by omega)
  have l1 : jlk h1 76 = some () := jlk_e ly
  have l2 : jlk (jhm h1 m') 76 = some () := jlk_e (jLay_hm ly)
  unfold jd_403_b2905 jd_399
  simp only [e1, e2, Option.bind_some, jck_e hx ht, hc, l1, hm, l2, jthr, hk, if_true, eq_self, jtc_r, if_neg (show ¬ (2 : Nat) = 1 by decide)]
  rfl
theorem lwr_39 {L : Nat} {xs : Nat → Int32} {i b : Int} {h h1 : jH} {m' : jM} (hi : 0 ≤ i) (hL : i + 8 ≤ L) (hLL : L ≤ 1000) (hx : 0 < h.1) (ht : jt h 0 = 19) {v : Int} (hc : jd_179 0 (jX xs i 1) (jX xs i 2) h = some (.inl v, h1)) (ly : jLay h1) (hm : jd_362 (jX xs i 1) (jX xs i 2) (jmf (jof h1 (jw v))) = some (b, m')) (hk : m' 76 0 = 0) (hb : jw b = jw v) : jd_403_b2953 L xs (some 0) (some 76) (some 152) i h = some (.inl (i + 8, jhm (jof h1 (jw v)) m')) := by
  have e1 : jsc L xs (i + 1) = some (jX xs i 1) := jsc_e (by omega) (by omega) (by omega)
  have e2 : jsc L xs (i + 2) = some (jX xs i 2) := jsc_e (by omega) (by omega) (by omega)
  have l1 : jlk (jof h1 (jw v)) 76 = some () := jlk_e (jLay_sf ly)
  have l2 : jlk (jhm (jof h1 (jw v)) m') 76 = some () := jlk_e (jLay_hm (jLay_sf ly))
  have o1 : jta h1 152 3 0 (jw v) = some (jof h1 (jw v)) := jof_e ly
  have o2 : jal (jhm (jof h1 (jw v)) m') 152 0 = some (jw v) := jof_al ly
  unfold jd_403_b2953 jd_400
  simp only [e1, e2, Option.bind_some, jck_e hx ht, hc, l1, hm, l2, jthr, hk, if_true, eq_self, jtc_l, o1, o2, jw_0, jwl_jw, hb]
  rfl
theorem lwt_39_0 {L : Nat} {xs : Nat → Int32} {i b : Int} {h h1 : jH} {m' : jM} (hi : 0 ≤ i) (hL : i + 8 ≤ L) (hLL : L ≤ 1000) (hx : 0 < h.1) (ht : jt h 0 = 19) (hc : jd_179 0 (jX xs i 1) (jX xs i 2) h = some (.inr 0, h1)) (ly : jLay h1) (hm : jd_362 (jX xs i 1) (jX xs i 2) (jmf h1) = some (b, m')) (hk : m' 76 0 = 2) : jd_403_b2953 L xs (some 0) (some 76) (some 152) i h = some (.inl (i + 8, jhm h1 m')) := by
  have e1 : jsc L xs (i + 1) = some (jX xs i 1) := jsc_e (by omega) (by omega) (by omega)
  have e2 : jsc L xs (i + 2) = some (jX xs i 2) := jsc_e (by omega) (by omega) (by omega)
  have l1 : jlk h1 76 = some () := jlk_e ly
  have l2 : jlk (jhm h1 m') 76 = some () := jlk_e (jLay_hm ly)
  unfold jd_403_b2953 jd_400
  simp only [e1, e2, Option.bind_some, jck_e hx ht, hc, l1, hm, l2, jthr, hk, if_true, eq_self, jtc_r, jw_2, if_neg (show ¬ (2 : Int) = 0 by decide)]
  rfl
theorem lwt_39_1 {L : Nat} {xs : Nat → Int32} {i b : Int} {h h1 : jH} {m' : jM} (hi : 0 ≤ i) (hL : i + 8 ≤ L) (hLL : L ≤ 1000) (hx : 0 < h.1) (ht : jt h 0 = 19) (hc : jd_179 0 (jX xs i 1) (jX xs i 2) h = some (.inr 1, h1)) (ly : jLay h1) (hm : jd_362 (jX xs i 1) (jX xs i 2) (jmf h1) = some (b, m')) (hk : m' 76 0 = 3) : jd_403_b2953 L xs (some 0) (some 76) (some 152) i h = some (.inl (i + 8, jhm h1 m')) := by
  have e1 : jsc L xs (i + 1) = some (jX xs i 1) := jsc_e (by omega) (by omega) (by omega)
  have e2 : jsc L xs (i + 2) = some (jX xs i 2) := jsc_e (by omega) (by omega) (by omega)
  have l1 : jlk h1 76 = some () := jlk_e ly
  have l2 : jlk (jhm h1 m') 76 = some () := jlk_e (jLay_hm ly)
  unfold jd_403_b2953 jd_400
  simp only [e1, e2, Option.bind_some, jck_e hx ht, hc, l1, hm, l2, jthr, hk, if_true, eq_self, jtc_r, if_neg (show ¬ (1 : Nat) = 0 by decide), jw_3, if_neg (show ¬ (3 : Int) = 0 by decide)]
  rfl
theorem lwt_39_2 {L : Nat} {xs : Nat → Int32} {i b : Int} {h h1 : jH} {m' : jM} (hi : 0 ≤ i) (hL : i + 8 ≤ L) (hLL : L ≤ 1000) (hx : 0 < h.1) (ht : jt h 0 = 19) (hc : jd_179 0 (jX xs i 1) (jX xs i 2) h = some (.inr 2, h1)) (ly : jLay h1) (hm : jd_362 (jX xs i 1) (jX xs i 2) (jmf h1) = some (b, m')) (hk : m' 76 0 = 1) : jd_403_b2953 L xs (some 0) (some 76) (some 152) i h = some (.inl (i + 8, jhm h1 m')) := by
  have e1 : jsc L xs (i + 1) = some (jX xs i 1) := jsc_e (by omega) (by omega) (by omega)
  have e2 : jsc L xs (i + 2) = some (jX xs i 2) := jsc_e (by omega) (by omega) (by omega)
  have l1 : jlk h1 76 = some () := jlk_e ly
  have l2 : jlk (jhm h1 m') 76 = some () := jlk_e (jLay_hm ly)
  unfold jd_403_b2953 jd_400
  simp only [e1, e2, Option.bind_some, jck_e hx ht, hc, l1, hm, l2, jthr, hk, if_true, eq_self, jtc_r, if_neg (show ¬ (2 : Nat) = 0 by decide), if_neg (show ¬ (2 : Nat) = 1 by decide), jw_1, if_neg (show ¬ (1 : Int) = 0 by decide)]
  rfl
theorem lwr_40 {L : Nat} {xs : Nat → Int32} {i b : Int} {h h1 : jH} {m' : jM} (hi : 0 ≤ i) (hL : i + 8 ≤ L) (hLL : L ≤ 1000) (hx : 0 < h.1) (ht : jt h 0 = 19) {v : Int} (hc : jd_180 0 (jX xs i 1) (jX xs i 2) (jX xs i 3) (jX xs i 4) h = some (.inl v, h1)) (ly : jLay h1) (hm : jd_363 (jX xs i 1) (jX xs i 2) (jX xs i 3) (jX xs i 4) (jmf (jof h1 (jw v))) = some (b, m')) (hk : m' 76 0 = 0) (hb : jw b = jw v) : jd_403_b3021 L xs (some 0) (some 76) (some 152) i h = some (.inl (i + 8, jhm (jof h1 (jw v)) m')) := by
  have e1 : jsc L xs (i + 1) = some (jX xs i 1) := jsc_e (by omega) (by omega) (by omega)
  have e2 : jsc L xs (i + 2) = some (jX xs i 2) := jsc_e (by omega) (by omega) (by omega)
  have e3 : jsc L xs (i + 3) = some (jX xs i 3) := jsc_e (by omega) (by omega) (by omega)
  have e4 : jsc L xs (i + 4) = some (jX xs i 4) := jsc_e (by omega) (by omega) (by omega)
  have l1 : jlk (jof h1 (jw v)) 76 = some () := jlk_e (jLay_sf ly)
  have l2 : jlk (jhm (jof h1 (jw v)) m') 76 = some () := jlk_e (jLay_hm (jLay_sf ly))
  have o1 : jta h1 152 3 0 (jw v) = some (jof h1 (jw v)) := jof_e ly
  have o2 : jal (jhm (jof h1 (jw v)) m') 152 0 = some (jw v) := jof_al ly
  unfold jd_403_b3021 jd_401
  simp only [e1, e2, e3, e4, Option.bind_some, jck_e hx ht, hc, l1, hm, l2, jthr, hk, if_true, eq_self, jtc_l, o1, o2, jw_0, jwl_jw, hb]
  rfl
theorem lwt_40_1 {L : Nat} {xs : Nat → Int32} {i b : Int} {h h1 : jH} {m' : jM} (hi : 0 ≤ i) (hL : i + 8 ≤ L) (hLL : L ≤ 1000) (hx : 0 < h.1) (ht : jt h 0 = 19) (hc : jd_180 0 (jX xs i 1) (jX xs i 2) (jX xs i 3) (jX xs i 4) h = some (.inr 1, h1)) (ly : jLay h1) (hm : jd_363 (jX xs i 1) (jX xs i 2) (jX xs i 3) (jX xs i 4) (jmf h1) = some (b, m')) (hk : m' 76 0 = 2) : jd_403_b3021 L xs (some 0) (some 76) (some 152) i h = some (.inl (i + 8, jhm h1 m')) := by
  have e1 : jsc L xs (i + 1) = some (jX xs i 1) := jsc_e (by omega) (by omega) (by omega)
  have e2 : jsc L xs (i + 2) = some (jX xs i 2) := jsc_e (by omega) (by omega) (by omega)
  have e3 : jsc L xs (i + 3) = some (jX xs i 3) := jsc_e (by omega) (by omega) (by omega)
  have e4 : jsc L xs (i + 4) = some (jX xs i 4) := jsc_e (by omega) (by omega) (by omega)
  have l1 : jlk h1 76 = some () := jlk_e ly
  have l2 : jlk (jhm h1 m') 76 = some () := jlk_e (jLay_hm ly)
  unfold jd_403_b3021 jd_401
  simp only [e1, e2, e3, e4, Option.bind_some, jck_e hx ht, hc, l1, hm, l2, jthr, hk, if_true, eq_self, jtc_r, jw_2, if_neg (show ¬ (2 : Int) = 0 by decide)]
  rfl
theorem lwt_40_2 {L : Nat} {xs : Nat → Int32} {i b : Int} {h h1 : jH} {m' : jM} (hi : 0 ≤ i) (hL : i + 8 ≤ L) (hLL : L ≤ 1000) (hx : 0 < h.1) (ht : jt h 0 = 19) (hc : jd_180 0 (jX xs i 1) (jX xs i 2) (jX xs i 3) (jX xs i 4) h = some (.inr 2, h1)) (ly : jLay h1) (hm : jd_363 (jX xs i 1) (jX xs i 2) (jX xs i 3) (jX xs i 4) (jmf h1) = some (b, m')) (hk : m' 76 0 = 1) : jd_403_b3021 L xs (some 0) (some 76) (some 152) i h = some (.inl (i + 8, jhm h1 m')) := by
  have e1 : jsc L xs (i + 1) = some (jX xs i 1) := jsc_e (by omega) (by omega) (by omega)
  have e2 : jsc L xs (i + 2) = some (jX xs i 2) := jsc_e (by omega) (by omega) (by omega)
  have e3 : jsc L xs (i + 3) = some (jX xs i 3) := jsc_e (by omega) (by omega) (by omega)
  have e4 : jsc L xs (i + 4) = some (jX xs i 4) := jsc_e (by omega) (by omega) (by omega)
  have l1 : jlk h1 76 = some () := jlk_e ly
  have l2 : jlk (jhm h1 m') 76 = some () := jlk_e (jLay_hm ly)
  unfold jd_403_b3021 jd_401
  simp only [e1, e2, e3, e4, Option.bind_some, jck_e hx ht, hc, l1, hm, l2, jthr, hk, if_true, eq_self, jtc_r, if_neg (show ¬ (2 : Nat) = 1 by decide), jw_1, if_neg (show ¬ (1 : Int) = 0 by decide)]
  rfl
theorem lwr_41 {L : Nat} {xs : Nat → Int32} {i b : Int} {h h1 : jH} {m' : jM} (hi : 0 ≤ i) (hL : i + 8 ≤ L) (hLL : L ≤ 1000) (hx : 0 < h.1) (ht : jt h 0 = 19) {v : Int} (hc : jd_181 0 (jX xs i 1) h = some (.inl v, h1)) (ly : jLay h1) (hm : jd_364 (jX xs i 1) (jmf (jof h1 (jw v))) = some (b, m')) (hk : m' 76 0 = 0) (hb : jw b = jw v) : jd_403_b3113 L xs (some 0) (some 76) (some 152) i h = some (.inl (i + 8, jhm (jof h1 (jw v)) m')) := by
  have e1 : jsc L xs (i + 1) = some (jX xs i 1) := jsc_e (by omega) (by omega) (by omega)
  have l1 : jlk (jof h1 (jw v)) 76 = some () := jlk_e (jLay_sf ly)
  have l2 : jlk (jhm (jof h1 (jw v)) m') 76 = some () := jlk_e (jLay_hm (jLay_sf ly))
  have o1 : jta h1 152 3 0 (jw v) = some (jof h1 (jw v)) := jof_e ly
  have o2 : jal (jhm (jof h1 (jw v)) m') 152 0 = some (jw v) := jof_al ly
  unfold jd_403_b3113 jd_402
  simp only [e1, Option.bind_some, jck_e hx ht, hc, l1, hm, l2, jthr, hk, if_true, eq_self, jtc_l, o1, o2, jw_0, jwl_jw, hb]
  rfl
theorem lwt_41_0 {L : Nat} {xs : Nat → Int32} {i b : Int} {h h1 : jH} {m' : jM} (hi : 0 ≤ i) (hL : i + 8 ≤ L) (hLL : L ≤ 1000) (hx : 0 < h.1) (ht : jt h 0 = 19) (hc : jd_181 0 (jX xs i 1) h = some (.inr 0, h1)) (ly : jLay h1) (hm : jd_364 (jX xs i 1) (jmf h1) = some (b, m')) (hk : m' 76 0 = 1) : jd_403_b3113 L xs (some 0) (some 76) (some 152) i h = some (.inl (i + 8, jhm h1 m')) := by
  have e1 : jsc L xs (i + 1) = some (jX xs i 1) := jsc_e (by omega) (by omega) (by omega)
  have l1 : jlk h1 76 = some () := jlk_e ly
  have l2 : jlk (jhm h1 m') 76 = some () := jlk_e (jLay_hm ly)
  unfold jd_403_b3113 jd_402
  simp only [e1, Option.bind_some, jck_e hx ht, hc, l1, hm, l2, jthr, hk, if_true, eq_self, jtc_r, jw_1, if_neg (show ¬ (1 : Int) = 0 by decide)]
  rfl
