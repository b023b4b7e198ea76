/-! one call on the fresh heap: those that are computed, and set -/
def jLb (h : jH) : Bool := decide (152 < h.1) && (decide (h.1 ≤ 1000) && (decide (h.2.1 ≤ 700000) && ((List.range 152).all (fun a => decide (a < 76) || (decide (jt h a = (jmt a).1) && decide (jl h a = (jmt a).2))) && ((List.range 116).all (fun k => decide (jr h 76 (k : Int) = jmr k)) && (decide (jt h 152 = 3) && (decide (jl h 152 = 1) && ((List.range 116).all (fun k => decide (ji h 76 (k : Int) = 0)) && ((List.range 8).all (fun k => decide (ji h 82 (k : Int) = [25, 4, 0, 2, 4, 0, 1000, 0].getD k 0)) && (List.range 4).all (fun k => decide (ji h 141 (k : Int) = -1))))))))))
theorem jLb_s {h : jH} (e : jLb h = true) : jLay h ∧ jFm (jmf h) ∧ h.1 ≤ 1000 ∧ h.2.1 ≤ 700000 := by
  unfold jLb at e
  simp only [Bool.and_eq_true, decide_eq_true_eq, List.all_eq_true, List.mem_range, Bool.or_eq_true] at e
  obtain ⟨h1, h2, h3, h4, h5, h6, h7, h8, h9, h10⟩ := e
  refine ⟨⟨h1, by omega, fun a ha hb => ?_, h5, h6, h7⟩, ⟨h8, h9, h10⟩, h2, h3⟩
  rcases h4 a ha with h | h
  · omega
  · exact h
theorem jFm_sf {h : jH} {s : Nat} {f : Int → Int} (h1 : s ≠ 76) (h2 : s ≠ 82) (h3 : s ≠ 141) (H : jFm (jmf h)) : jFm (jmf (jsf h s f)) := by
  have e : ∀ a : Nat, a ≠ s → jmf (jsf h s f) a = jmf h a := fun a ha => jsf_in ha
  unfold jFm
  rw [e 76 h1.symm, e 82 h2.symm, e 141 h3.symm]
  exact H
theorem jFm_of {h : jH} {w : Int} (H : jFm (jmf h)) : jFm (jmf (jof h w)) := jFm_sf (by decide) (by decide) (by decide) H
theorem jS_L : jLb jhS = true := by decide +kernel
theorem jS_L0 : jLb (jth jhS 0) = true := by decide +kernel
theorem jS_L1 : jLb (jth jhS 1) = true := by decide +kernel
theorem jS_L2 : jLb (jth jhS 2) = true := by decide +kernel
/-- a class's answer, as far as it can be told by computation -/
def jCb (q : Option ((Int ⊕ Nat) × jH)) (v : Int) : Bool := match q with
  | some (.inl x, h) => decide (x = v) && jLb h
  | _ => false
theorem jCb_s {q : Option ((Int ⊕ Nat) × jH)} {v : Int} (e : jCb q v = true) : ∃ h, q = some (.inl v, h) ∧ jLb h = true := by
  unfold jCb at e
  split at e
  · next x h =>
    rw [Bool.and_eq_true, decide_eq_true_eq] at e
    exact ⟨h, by rw [e.1], e.2⟩
  · cases e
def jDb (q : Option (Int × jH)) (v : Int) : Bool := match q with
  | some (x, h) => decide (x = v) && jLb h
  | _ => false
theorem jDb_s {q : Option (Int × jH)} {v : Int} (e : jDb q v = true) : ∃ h, q = some (v, h) ∧ jLb h = true := by
  unfold jDb at e
  split at e
  · next x h =>
    rw [Bool.and_eq_true, decide_eq_true_eq] at e
    exact ⟨h, by rw [e.1], e.2⟩
  · cases e
theorem f_156 : jCb (jd_156 0 jhS) (-1) = true := by decide +kernel
theorem f_166 : jCb (jd_166 0 jhS) (-1) = true := by decide +kernel
theorem f_169 : jCb (jd_169 0 jhS) (-1) = true := by decide +kernel
theorem f_168 : jDb (jd_168 0 jhS) 0 = true := by decide +kernel
