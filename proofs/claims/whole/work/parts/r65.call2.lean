/-! the JDK's methods, ends, throws, calls -/
section MmBu
variable {xt : Nat → Nat × (Nat → Int32)} {d mi pc : Nat} {lv : mm_L} {st : List Value} {h : mm_H} {r : mm_R} {i : Instr × Nat}
theorem mm_bu_pre {nL own len : Nat} {ini : Bool} {ins : Instr} {q : List Value × mm_H} (hbu : mm_bu own ins len st h = some q) : mm_pu nL ins len pc lv st = none ∧ mm_he own ini xt ins len pc st h = none := by
  cases ins <;> first | (exact ⟨rfl, rfl⟩) | (exact absurd hbu (by simp [mm_bu]))
theorem mm_Ex.bu {q : List Value × mm_H} (hcd : mm_cd mi pc = some i) (hbu : mm_bu (mm_MT mi).1 i.1 i.2 st h = some q) (k : mm_Ex xt d mi (pc + 3) lv q.1 q.2 r) : mm_Ex xt d mi pc lv st h r := by
  refine mm_Ex.go 1 (fun cl n => ?_) k
  obtain ⟨h1, h2⟩ := mm_bu_pre (xt := xt) (pc := pc) (lv := lv) (nL := (mm_MT mi).2.1) (ini := Nat.beq (mm_MT mi).2.2.2.2.1 2) hbu
  simp only [mm_ex, hcd, h1, h2, hbu]
end MmBu
section JyCall
variable {xt : Nat → Nat × (Nat → Int32)} {d mi pc : Nat} {lv : jL} {st : List jV} {h : jH} {r : mm_R} {t : Nat × Nat × Option FieldType × Nat × Nat × List (Nat × Nat × Nat × Nat)}
theorem ey_bu {i : Instr × Nat} {st' : List jV} {h' : jH} (hc : mm_cd mi pc = some i) (hm : mm_MT mi = t) (hs : mm_bu t.1 i.1 i.2 (st.map jcv) (jaH h) = some (st'.map jcv, jaH h')) (k : ey xt d mi (pc + 3) lv st' h' r) : ey xt d mi pc lv st h r :=
  fun L hL => mm_Ex.bu (q := (st'.map jcv, jaH h')) hc (by rw [hm]; exact hs) (k L hL)
theorem ey_oini {idx a x2 x3 : Nat} (hc : mm_cd mi pc = some (.invokespecial idx, 3)) (hm : mm_MT mi = t) (hf : mm_lk (mm_ivT t.1) idx = some (6, x2, x3)) (hs : mm_small (st.map jcv) = true) (kk : ey xt d mi (pc + 3) lv st h r) : ey xt d mi pc lv (jR (some a) :: st) h r :=
  ey_bu (st := jR (some a) :: st) (st' := st) hc hm (by simp only [mm_bu, hf, List.map_cons, jcv, va_rf, hs]; rfl) kk
theorem ey_min {idx x2 x3 : Nat} {x y : Int} (hc : mm_cd mi pc = some (.invokestatic idx, 3)) (hm : mm_MT mi = t) (hf : mm_lk (mm_ivT t.1) idx = some (7, x2, x3)) (hs : mm_small (st.map jcv) = true) (kk : ey xt d mi (pc + 3) lv (jI (if jw y < jw x then y else x) :: st) h r) : ey xt d mi pc lv (jI y :: jI x :: st) h r :=
  ey_bu (st := jI y :: jI x :: st) (st' := jI (if jw y < jw x then y else x) :: st) hc hm (by
    simp only [mm_bu, hf, List.map_cons, jcv, hs, jq_lt]
    by_cases q : jw y < jw x <;> simp [q]) kk
theorem ey_max {idx x2 x3 : Nat} {x y : Int} (hc : mm_cd mi pc = some (.invokestatic idx, 3)) (hm : mm_MT mi = t) (hf : mm_lk (mm_ivT t.1) idx = some (8, x2, x3)) (hs : mm_small (st.map jcv) = true) (kk : ey xt d mi (pc + 3) lv (jI (if jw x < jw y then y else x) :: st) h r) : ey xt d mi pc lv (jI y :: jI x :: st) h r :=
  ey_bu (st := jI y :: jI x :: st) (st' := jI (if jw x < jw y then y else x) :: st) hc hm (by
    simp only [mm_bu, hf, List.map_cons, jcv, hs, jq_lt]
    by_cases q : jw x < jw y <;> simp [q]) kk
theorem ey_abs {idx x2 x3 : Nat} {x : Int} (hc : mm_cd mi pc = some (.invokestatic idx, 3)) (hm : mm_MT mi = t) (hf : mm_lk (mm_ivT t.1) idx = some (9, x2, x3)) (hs : mm_small (st.map jcv) = true) (kk : ey xt d mi (pc + 3) lv (jI (if 0 ≤ jw x then x else -x) :: st) h r) : ey xt d mi pc lv (jI x :: st) h r :=
  ey_bu (st := jI x :: st) (st' := jI (if 0 ≤ jw x then x else -x) :: st) hc hm (by
    have h0 : (0 ≤ Int32.ofInt x) ↔ (0 ≤ jw x) := by
      have := jq_le (x := 0) (y := x)
      have hz : jw 0 = 0 := by decide
      rw [hz] at this
      exact this
    simp only [mm_bu, hf, List.map_cons, jcv, hs, h0]
    by_cases q : 0 ≤ jw x
    · simp [q]
    · simp only [if_neg q, Int32.ofInt_neg, Int32.zero_sub]
      rfl) kk
theorem ey_minl {idx x2 x3 : Nat} {x y : Int} (hc : mm_cd mi pc = some (.invokestatic idx, 3)) (hm : mm_MT mi = t) (hf : mm_lk (mm_ivT t.1) idx = some (10, x2, x3)) (hs : mm_small (st.map jcv) = true) (kk : ey xt d mi (pc + 3) lv (jJ (if jwl y < jwl x then y else x) :: st) h r) : ey xt d mi pc lv (jJ y :: jJ x :: st) h r :=
  ey_bu (st := jJ y :: jJ x :: st) (st' := jJ (if jwl y < jwl x then y else x) :: st) hc hm (by
    simp only [mm_bu, hf, List.map_cons, jcv, hs, jl_lt]
    by_cases q : jwl y < jwl x <;> simp [q]) kk
theorem jfits_b (z : Int) : fits .byte (.int (Int32.ofInt (jwb z))) = true := by
  have h1 : -128 ≤ jwb z := by unfold jwb; omega
  have h2 : jwb z < 128 := by unfold jwb; omega
  have e1 : (Int32.ofInt (-128) ≤ Int32.ofInt (jwb z)) := jq_le.mpr (by rw [jw_id (z := jwb z) (by omega) (by omega)]; exact h1)
  have e2 : (Int32.ofInt (jwb z) ≤ Int32.ofInt 127) := jq_le.mpr (by rw [jw_id (z := jwb z) (by omega) (by omega)]; exact Int.le_of_lt_add_one h2)
  show (decide (Int32.ofInt (-128) ≤ Int32.ofInt (jwb z)) && decide (Int32.ofInt (jwb z) ≤ Int32.ofInt 127)) = true
  rw [decide_eq_true e1, decide_eq_true e2]
  rfl
theorem jcpy_s {f g : Int → Int} {sp dp n : Int} (G : Int → Int32) (h1 : 0 ≤ sp) (h2 : 0 ≤ dp) (h3 : 0 ≤ n) : va_cpy (fun i : Nat => G (f i)) (fun i : Nat => G (g i)) sp.toNat dp.toNat n.toNat = fun i : Nat => G (if dp ≤ (i : Int) ∧ (i : Int) < dp + n then f (sp + ((i : Int) - dp)) else g i) := by
  funext i
  unfold va_cpy
  by_cases hq : dp.toNat ≤ i ∧ i < dp.toNat + n.toNat
  · rw [if_pos hq, if_pos (by omega)]
    have e : ((sp.toNat + (i - dp.toNat) : Nat) : Int) = sp + ((i : Int) - dp) := by omega
    show G (f ((sp.toNat + (i - dp.toNat) : Nat) : Int)) = _
    rw [e]
  · rw [if_neg hq, if_neg (by omega)]
theorem ey_cpy {idx a0 a1 x2 x3 : Nat} {sp dp n : Int} {h' : jH} (hc : mm_cd mi pc = some (.invokestatic idx, 3)) (hm : mm_MT mi = t) (hf : mm_lk (mm_ivT t.1) idx = some (11, x2, x3)) (hs : mm_small (st.map jcv) = true) (hv : jcp h a0 sp a1 dp n = some h') (kk : ey xt d mi (pc + 3) lv st h' r) : ey xt d mi pc lv (jI n :: jI dp :: jR (some a1) :: jI sp :: jR (some a0) :: st) h r := by
  unfold jcp at hv
  split at hv
  · next ha =>
    cases hv
    obtain ⟨⟨⟨hl0, hl1⟩, htt, ht0⟩, ⟨p1, p2, p3⟩, q1, q2⟩ := ha
    have n0 : ∀ z : Int, 0 ≤ jw z → (decide (Int32.ofInt z < 0)) = false ∧ (Int32.ofInt z).toNatClampNeg = (jw z).toNat := by
      intro z hz
      refine ⟨decide_eq_false (fun q => ?_), ?_⟩
      · have := (jq_lt (y := 0)).mp q
        have h0 : jw 0 = 0 := by decide
        omega
      · show (Int32.ofInt z).toInt.toNat = _
        rw [jw_of]
    obtain ⟨s1, s2⟩ := n0 sp p1
    obtain ⟨d1, d2⟩ := n0 dp p2
    obtain ⟨m1, m2⟩ := n0 n p3
    have b0 : Nat.blt a0 (jaH h).1 = true := Nat.ble_eq_true_of_le hl0
    have b1 : Nat.blt a1 (jaH h).1 = true := Nat.ble_eq_true_of_le hl1
    have e1 : Nat.ble ((jw sp).toNat + (jw n).toNat) (h.2.2 a0).2.1 = true := Nat.ble_eq_true_of_le (by omega)
    have e2 : Nat.ble ((jw dp).toNat + (jw n).toNat) (h.2.2 a1).2.1 = true := Nat.ble_eq_true_of_le (by omega)
    have hup : ∀ c, jaH (h.1, h.2.1, jce h.2.2 a1 c) = (h.1, h.2.1, va_up (jaH h).2.2 a1 (jaC c)) := by
      intro c
      show (h.1, h.2.1, fun b => jaC (jce h.2.2 a1 _ b)) = _
      rw [jaC_u]
      rfl
    refine ey_bu (st := jI n :: jI dp :: jR (some a1) :: jI sp :: jR (some a0) :: st) (st' := st) hc hm ?_ kk
    rcases ht0 with ht0 | ht0
    · have c0 : (jaH h).2.2 a0 = _ := jaC_i ht0
      have c1 : (jaH h).2.2 a1 = _ := jaC_i (htt.symm.trans ht0)
      rw [hup, jaC_i (x := ((h.2.2 a1).1, (h.2.2 a1).2.1, (fun j => if jw dp ≤ j ∧ j < jw dp + jw n then (h.2.2 a0).2.2.1 (jw sp + (j - jw dp)) else (h.2.2 a1).2.2.1 j), (h.2.2 a1).2.2.2)) (htt.symm.trans ht0)]
      simp only [mm_bu, hf, List.map_cons, jcv, va_rf, c0, c1, hs, s1, s2, d1, d2, m1, m2, b0, b1, e1, e2, jcpy_s (fun x => Int32.ofInt x) p1 p2 p3]
      rfl
    · have c0 : (jaH h).2.2 a0 = _ := jaC_b ht0
      have c1 : (jaH h).2.2 a1 = _ := jaC_b (htt.symm.trans ht0)
      rw [hup, jaC_b (x := ((h.2.2 a1).1, (h.2.2 a1).2.1, (fun j => if jw dp ≤ j ∧ j < jw dp + jw n then (h.2.2 a0).2.2.1 (jw sp + (j - jw dp)) else (h.2.2 a1).2.2.1 j), (h.2.2 a1).2.2.2)) (htt.symm.trans ht0)]
      simp only [mm_bu, hf, List.map_cons, jcv, va_rf, c0, c1, hs, s1, s2, d1, d2, m1, m2, b0, b1, e1, e2, jfits_b, jcpy_s (fun x => Int32.ofInt (jwb x)) p1 p2 p3]
      rw [show ((List.range (jw n).toNat).all fun _ => true) = true from by simp]
      rfl
  · cases hv
theorem ey_reti {z : Int} (hc : mm_cd mi pc = some (.ireturn, 1)) (hm : mm_MT mi = t) (ht : t.2.2.1 = some .int) : ey xt d mi pc lv [jI z] h (.inl (some (jcv (jI z)), jaH h)) :=
  fun L _ => mm_Ex.ret hc (by rw [hm, ht]; rfl)
theorem ey_retz {z : Int} (hc : mm_cd mi pc = some (.ireturn, 1)) (hm : mm_MT mi = t) (ht : t.2.2.1 = some .boolean) (hz : z = 0 ∨ z = 1) : ey xt d mi pc lv [jI z] h (.inl (some (jcv (jI z)), jaH h)) :=
  fun L _ => mm_Ex.ret hc (by rw [hm, ht]; rcases hz with rfl | rfl <;> rfl)
theorem ey_retv (hc : mm_cd mi pc = some (.return_, 1)) (hm : mm_MT mi = t) (ht : t.2.2.1 = none) : ey xt d mi pc lv [] h (.inl (none, jaH h)) :=
  fun L _ => mm_Ex.ret hc (by rw [hm, ht]; rfl)
theorem ey_reta {a : Nat} {s : String} (hc : mm_cd mi pc = some (.areturn, 1)) (hm : mm_MT mi = t) (ht : t.2.2.1 = some (.object s)) : ey xt d mi pc lv [jR (some a)] h (.inl (some (jcv (jR (some a))), jaH h)) :=
  fun L _ => mm_Ex.ret hc (by rw [hm, ht]; rfl)
theorem ey_throw {idx : Nat} {f : Nat × Nat × Nat × Nat × Nat} (hc : mm_cd mi pc = some (.new idx, 3)) (hm : mm_MT mi = t) (hn : mm_lk (mm_nwT t.1) idx = none) (hf : mm_lk (mm_tsT mi) pc = some f) (hE : mm_cn (13 + f.1) = 0) (h6 : h.1 < 1000000) (hs : mm_small (st.map jcv) = true) : ey xt d mi pc lv st h (.inr (f.1, jaH (jth h f.1))) := by
  intro L _
  refine mm_Ex.fin 1 (fun cl n => ?_)
  have h4 : Nat.blt (jaH h).1 1000000 = true := Nat.ble_eq_true_of_le h6
  have h5 : jaH (jth h f.1) = (h.1 + 1, h.2.1 + 6, va_up (jaH h).2.2 h.1 (.inr (13 + f.1, []))) := by
    show (h.1 + 1, h.2.1 + 6, fun b => jaC (jce h.2.2 h.1 _ b)) = _
    rw [jaC_u, jaC_obj (x := (13 + f.1 + 8, 0, fun _ => 0, fun _ => none)) rfl]
    rw [hE]
    rfl
  have hm' : (mm_MT mi).1 = t.1 := by rw [hm]
  simp only [mm_ex, hc, mm_pu, mm_he, mm_new, hm', hn, mm_bu, mm_en, hf, h4, hs, h5]
  rfl
theorem ey_call {i : Instr × Nat} {mj : Nat} {as : List Value} {v : Option Value} {st' : List jV} {h' : jH} (hc : mm_cd mi pc = some i) (hm : mm_MT mi = t) (hpre : ∀ nL L, mm_pu nL i.1 i.2 pc L (st.map jcv) = none ∧ mm_he t.1 (Nat.beq t.2.2.2.2.1 2) xt i.1 i.2 pc (st.map jcv) (jaH h) = none ∧ mm_bu t.1 i.1 i.2 (st.map jcv) (jaH h) = none ∧ mm_en t.2.2.1 i.1 i.2 (st.map jcv) = none ∧ mm_lk (mm_tsT mi) pc = none)
    {rs : List Value} (hiv : ∀ cl : mm_C, cl mj as (jaH h) = some (.inl (v, jaH h')) → mm_iv cl t.1 i.1 i.2 (st.map jcv) (jaH h) = some (.inl (v, jaH h'), rs)) (hv : v.toList ++ rs = st'.map jcv) (hr : mm_Runs xt d mj as (jaH h) (.inl (v, jaH h'))) (k : ey xt d mi (pc + 3) lv st' h' r) : ey xt d mi pc lv st h r := by
  intro L hL
  refine mm_Ex.call (st' := st'.map jcv) (pc' := pc + 3) hr (fun cl n hcl => ?_) (k L hL)
  obtain ⟨h1, h2, h3, h4, h5⟩ := hpre (mm_MT mi).2.1 L
  rw [← hm] at h2 h3 h4 hiv
  simp only [mm_ex, hc, h1, h2, h3, h4, h5, hiv cl hcl, hv]
theorem ey_callX {i : Instr × Nat} {mj : Nat} {as : List Value} {E : Nat} {H' : mm_H} (hc : mm_cd mi pc = some i) (hm : mm_MT mi = t) (hpre : ∀ nL L, mm_pu nL i.1 i.2 pc L (st.map jcv) = none ∧ mm_he t.1 (Nat.beq t.2.2.2.2.1 2) xt i.1 i.2 pc (st.map jcv) (jaH h) = none ∧ mm_bu t.1 i.1 i.2 (st.map jcv) (jaH h) = none ∧ mm_en t.2.2.1 i.1 i.2 (st.map jcv) = none ∧ mm_lk (mm_tsT mi) pc = none)
    {rs : List Value} (hh : t.2.2.2.2.2 = []) (hiv : ∀ cl : mm_C, cl mj as (jaH h) = some (.inr (E, H')) → mm_iv cl t.1 i.1 i.2 (st.map jcv) (jaH h) = some (.inr (E, H'), rs)) (hr : mm_Runs xt d mj as (jaH h) (.inr (E, H'))) : ey xt d mi pc lv st h (.inr (E, H')) := by
  intro L hL
  refine mm_Ex.thrown hr (fun cl n hcl => ?_)
  obtain ⟨h1, h2, h3, h4, h5⟩ := hpre (mm_MT mi).2.1 L
  rw [← hm] at h2 h3 h4 hiv hh
  simp only [mm_ex, hc, h1, h2, h3, h4, h5, hiv cl hcl, hh, mm_hd]
/-- instance methods -/
theorem ey_cv {idx mj b x3 : Nat} {tj : Nat × Nat × Option FieldType × Nat × Nat × List (Nat × Nat × Nat × Nat)} {s0 s1 st' : List jV} {as : List Value} {v : Option Value} {h' : jH} (hc : mm_cd mi pc = some (.invokevirtual idx, 3)) (hm : mm_MT mi = t) (hj : mm_MT mj = tj) (hf : mm_lk (mm_ivT t.1) idx = some (0, mj, x3)) (hts : mm_lk (mm_tsT mi) pc = none) (htk : mm_take tj.2.2.2.1 (s0.map jcv) [] = some (as, .ref b :: s1.map jcv)) (hb : b < h.1 ∧ (h.2.2 b).1 = tj.1 + 8) (h13 : Nat.blt tj.1 13 = true) (hs : mm_small (s1.map jcv) = true) (hv : v.toList ++ s1.map jcv = st'.map jcv) (hr : mm_Runs xt d mj (.ref b :: as) (jaH h) (.inl (v, jaH h'))) (k : ey xt d mi (pc + 3) lv st' h' r) : ey xt d mi pc lv s0 h r := by
  refine ey_call hc hm (fun nL L => ⟨rfl, rfl, rfl, rfl, hts⟩) (fun cl hcl => ?_) hv hr k
  have h1 : (jaH h).2.2 b = _ := jaC_obj hb.2
  have h2 : Nat.blt b (jaH h).1 = true := Nat.ble_eq_true_of_le hb.1
  simp only [mm_iv, hf, hj, htk, h1, h2, h13, hs, hcl, Nat.beq_refl]
  rfl
theorem ey_cvX {idx mj b x3 : Nat} {tj : Nat × Nat × Option FieldType × Nat × Nat × List (Nat × Nat × Nat × Nat)} {s0 s1 : List jV} {as : List Value} {E : Nat} {H' : mm_H} (hc : mm_cd mi pc = some (.invokevirtual idx, 3)) (hm : mm_MT mi = t) (hh : t.2.2.2.2.2 = []) (hj : mm_MT mj = tj) (hf : mm_lk (mm_ivT t.1) idx = some (0, mj, x3)) (hts : mm_lk (mm_tsT mi) pc = none) (htk : mm_take tj.2.2.2.1 (s0.map jcv) [] = some (as, .ref b :: s1.map jcv)) (hb : b < h.1 ∧ (h.2.2 b).1 = tj.1 + 8) (h13 : Nat.blt tj.1 13 = true) (hs : mm_small (s1.map jcv) = true) (hr : mm_Runs xt d mj (.ref b :: as) (jaH h) (.inr (E, H'))) : ey xt d mi pc lv s0 h (.inr (E, H')) := by
  refine ey_callX hc hm (fun nL L => ⟨rfl, rfl, rfl, rfl, hts⟩) (rs := s1.map jcv) hh (fun cl hcl => ?_) hr
  have h1 : (jaH h).2.2 b = _ := jaC_obj hb.2
  have h2 : Nat.blt b (jaH h).1 = true := Nat.ble_eq_true_of_le hb.1
  simp only [mm_iv, hf, hj, htk, h1, h2, h13, hs, hcl, Nat.beq_refl]
  rfl
/-- static methods: 1 of the same class, 3 of another -/
theorem ey_cs {idx mj x3 kd : Nat} {tj : Nat × Nat × Option FieldType × Nat × Nat × List (Nat × Nat × Nat × Nat)} {s0 s1 st' : List jV} {as : List Value} {v : Option Value} {h' : jH} (hc : mm_cd mi pc = some (.invokestatic idx, 3)) (hm : mm_MT mi = t) (hj : mm_MT mj = tj) (hf : mm_lk (mm_ivT t.1) idx = some (kd, mj, x3)) (hk : kd = 1 ∨ kd = 3) (hts : mm_lk (mm_tsT mi) pc = none) (htk : mm_take tj.2.2.2.1 (s0.map jcv) [] = some (as, s1.map jcv)) (hs : mm_small (s1.map jcv) = true) (hv : v.toList ++ s1.map jcv = st'.map jcv) (hr : mm_Runs xt d mj as (jaH h) (.inl (v, jaH h'))) (k : ey xt d mi (pc + 3) lv st' h' r) : ey xt d mi pc lv s0 h r := by
  refine ey_call hc hm (fun nL L => ⟨rfl, rfl, ?_, rfl, hts⟩) (fun cl hcl => ?_) hv hr k
  · rcases hk with rfl | rfl <;> simp only [mm_bu, hf]
  · rcases hk with rfl | rfl
    · simp only [mm_iv, hf, hj, htk, hs, hcl, Nat.beq_refl]
      rfl
    · simp only [mm_iv, hf, hj, htk, hs, hcl, Nat.beq_refl]
      rfl
theorem ey_csX {idx mj x3 : Nat} {tj : Nat × Nat × Option FieldType × Nat × Nat × List (Nat × Nat × Nat × Nat)} {s0 s1 : List jV} {as : List Value} {E : Nat} {H' : mm_H} (hc : mm_cd mi pc = some (.invokestatic idx, 3)) (hm : mm_MT mi = t) (hh : t.2.2.2.2.2 = []) (hj : mm_MT mj = tj) (hf : mm_lk (mm_ivT t.1) idx = some (1, mj, x3)) (hts : mm_lk (mm_tsT mi) pc = none) (htk : mm_take tj.2.2.2.1 (s0.map jcv) [] = some (as, s1.map jcv)) (hs : mm_small (s1.map jcv) = true) (hr : mm_Runs xt d mj as (jaH h) (.inr (E, H'))) : ey xt d mi pc lv s0 h (.inr (E, H')) := by
  refine ey_callX hc hm (fun nL L => ⟨rfl, rfl, ?_, rfl, hts⟩) (rs := s1.map jcv) hh (fun cl hcl => ?_) hr
  · simp only [mm_bu, hf]
  · simp only [mm_iv, hf, hj, htk, hs, hcl, Nat.beq_refl]
    rfl
/-- constructors: 4 -/
theorem ey_ci {idx mj b x3 kd : Nat} {tj : Nat × Nat × Option FieldType × Nat × Nat × List (Nat × Nat × Nat × Nat)} {s0 s1 st' : List jV} {as : List Value} {v : Option Value} {h' : jH} (hc : mm_cd mi pc = some (.invokespecial idx, 3)) (hm : mm_MT mi = t) (hj : mm_MT mj = tj) (hf : mm_lk (mm_ivT t.1) idx = some (kd, mj, x3)) (hk : kd = 2 ∨ kd = 4) (hts : mm_lk (mm_tsT mi) pc = none) (htk : mm_take tj.2.2.2.1 (s0.map jcv) [] = some (as, .ref b :: s1.map jcv)) (hs : mm_small (s1.map jcv) = true) (hv : v.toList ++ s1.map jcv = st'.map jcv) (hr : mm_Runs xt d mj (.ref b :: as) (jaH h) (.inl (v, jaH h'))) (k : ey xt d mi (pc + 3) lv st' h' r) : ey xt d mi pc lv s0 h r := by
  refine ey_call hc hm (fun nL L => ⟨rfl, rfl, ?_, rfl, hts⟩) (fun cl hcl => ?_) hv hr k
  · rcases hk with rfl | rfl <;> (simp only [mm_bu, hf]; split <;> rfl)
  · rcases hk with rfl | rfl
    · simp only [mm_iv, hf, hj, htk, hs, hcl, Nat.beq_refl]
      rfl
    · simp only [mm_iv, hf, hj, htk, hs, hcl, Nat.beq_refl]
      rfl
/-- a method's run out of its first step -/
theorem ey_run {as : List Value} {lv0 : jL} (hm : mm_MT mi = t) (hl : Nat.ble (lg_sl as).length t.2.1 = true) (hs : jsim lv0 (lv_args 0 as)) (k : ey xt d mi 0 lv0 [] h r) : mm_Runs xt (d + 1) mi as (jaH h) r :=
  mm_Runs.of (by rw [hm]; exact hl) (k _ hs)
end JyCall
