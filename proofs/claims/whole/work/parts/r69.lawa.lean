/-! the law's own methods: calls that may throw and are caught, calls of the model, the script -/
theorem jtc_c {A C : Type} {q : Option ((A ⊕ Nat) × jH)} {f : A → jH → Option C} {g : Nat → jH → Option C} {o : C} (e : jtc q f g = some o) : (∃ v h, q = some (.inl v, h) ∧ f v h = some o) ∨ (∃ E h, q = some (.inr E, h) ∧ g E h = some o) := by
  unfold jtc at e
  obtain ⟨⟨x, h⟩, e1, e2⟩ := jbind e
  cases x with
  | inl v => exact Or.inl ⟨v, h, e1, e2⟩
  | inr E => exact Or.inr ⟨E, h, e1, e2⟩
section JyLaw
variable {xt : Nat → Nat × (Nat → Int32)} {d mi pc : Nat} {lv : jL} {st : List jV} {h : jH} {r : mm_R} {t : Nat × Nat × Option FieldType × Nat × Nat × List (Nat × Nat × Nat × Nat)}
theorem ey_callH {i i2 : Instr × Nat} {mj hp : Nat} {k : Nat × Nat} {as : List Value} {E : Nat} {H' : jH} (hc : mm_cd mi pc = some i) (hm : mm_MT mi = t) (hpre : ∀ nL L, mm_pu nL i.1 i.2 pc L (st.map jcv) = none ∧ mm_he t.1 (Nat.beq t.2.2.2.2.1 2) xt i.1 i.2 pc (st.map jcv) (jaH h) = none ∧ mm_bu t.1 i.1 i.2 (st.map jcv) (jaH h) = none ∧ mm_en t.2.2.1 i.1 i.2 (st.map jcv) = none ∧ mm_lk (mm_tsT mi) pc = none)
    {rs : List Value} (hh : mm_hd E pc t.2.2.2.2.2 = some hp) (hi2 : mm_cd mi hp = some i2) (hk : mm_hk i2 = some k) (hlt : Nat.blt k.1 t.2.1 = true) (hiv : ∀ cl : mm_C, cl mj as (jaH h) = some (.inr (E, jaH H')) → mm_iv cl t.1 i.1 i.2 (st.map jcv) (jaH h) = some (.inr (E, jaH H'), rs)) (hr : mm_Runs xt d mj as (jaH h) (.inr (E, jaH H'))) (kk : ey xt d mi (hp + k.2) (fun _ => none) [] H' r) : ey xt d mi pc lv st h r := by
  intro L hL
  refine mm_Ex.callX hr (fun cl n hcl => ?_) (kk (mm_forget L k.1) (fun i v hv => nomatch hv))
  obtain ⟨h1, h2, h3, h4, h5⟩ := hpre (mm_MT mi).2.1 L
  rw [← hm] at h2 h3 h4 hiv hh hlt
  simp only [mm_ex, hc, h1, h2, h3, h4, h5, hiv cl hcl, hh, hi2, hk, hlt, cond_true, List.map_nil]
theorem ey_cvH {idx mj b x3 hp : Nat} {i2 : Instr × Nat} {k : Nat × Nat} {tj : Nat × Nat × Option FieldType × Nat × Nat × List (Nat × Nat × Nat × Nat)} {s0 s1 : List jV} {as : List Value} {E : Nat} {H' : jH} (hc : mm_cd mi pc = some (.invokevirtual idx, 3)) (hm : mm_MT mi = t) (hh : mm_hd E pc t.2.2.2.2.2 = some hp) (hi2 : mm_cd mi hp = some i2) (hk : mm_hk i2 = some k) (hlt : Nat.blt k.1 t.2.1 = true) (hj : mm_MT mj = tj) (hf : mm_lk (mm_ivT t.1) idx = some (0, mj, x3)) (hts : mm_lk (mm_tsT mi) pc = none) (htk : mm_take tj.2.2.2.1 (s0.map jcv) [] = some (as, .ref b :: s1.map jcv)) (hb : b < h.1 ∧ (h.2.2 b).1 = tj.1 + 8) (h13 : Nat.blt tj.1 13 = true) (hs : mm_small (s1.map jcv) = true) (hr : mm_Runs xt d mj (.ref b :: as) (jaH h) (.inr (E, jaH H'))) (kk : ey xt d mi (hp + k.2) (fun _ => none) [] H' r) : ey xt d mi pc lv s0 h r := by
  refine ey_callH hc hm (fun nL L => ⟨rfl, rfl, rfl, rfl, hts⟩) (rs := s1.map jcv) hh hi2 hk hlt (fun cl hcl => ?_) hr kk
  have h1 : (jaH h).2.2 b = _ := jaC_obj hb.2
  have h2 : Nat.blt b (jaH h).1 = true := Nat.ble_eq_true_of_le hb.1
  simp only [mm_iv, hf, hj, htk, h1, h2, h13, hs, hcl, Nat.beq_refl]
  rfl
theorem ey_iasc {L : Nat} {xs : Nat → Int32} {z v : Int} (hc : mm_cd mi pc = some (.iaload, 1)) (hv : jsc L xs z = some v) (kk : ey (mm_xt L xs) d mi (pc + 1) lv (jI v :: st) h r) : ey (mm_xt L xs) d mi pc lv (jI z :: jR (some 1000000) :: st) h r := by
  unfold jsc at hv
  split at hv
  · next ha =>
    cases hv
    obtain ⟨h1, h2⟩ := jib (z := z) (n := (mm_xt L xs 0).1) ha
    refine ey_he (st := jI z :: jR (some 1000000) :: st) (st' := _ :: st) hc rfl ?_ kk
    have h3 : Nat.blt 1000000 1000000 = false := rfl
    have h5 : Nat.blt (1000000 - 1000000) 7 = true := rfl
    have h6 : (mm_xt L xs 0).2 (jw z).toNat = Int32.ofInt ((xs (jw z).toNat).toInt) := by
      rw [Int32.ofInt_toInt]
      rfl
    simp only [mm_he, mm_ald, List.map_cons, jcv, va_rf, h3, h5, Nat.sub_self, h1, h2, h6]
    simp
  · cases hv
theorem ey_lenc {L : Nat} {xs : Nat → Int32} (hc : mm_cd mi pc = some (.arraylength, 1)) (kk : ey (mm_xt L xs) d mi (pc + 1) lv (jI (L : Int) :: st) h r) : ey (mm_xt L xs) d mi pc lv (jR (some 1000000) :: st) h r := by
  refine ey_he (st := jR (some 1000000) :: st) (st' := _ :: st) hc rfl ?_ kk
  have h3 : Nat.blt 1000000 1000000 = false := rfl
  have h5 : Nat.blt (1000000 - 1000000) 7 = true := rfl
  simp only [mm_he, mm_alen, List.map_cons, jcv, va_rf, h3, h5, Nat.sub_self, Int32.ofInt_eq_ofNat]
  simp
  rfl
end JyLaw
theorem jlk_s {h : jH} {a : Nat} {u : Unit} (e : jlk h a = some u) : a = 76 ∧ 152 ≤ h.1 ∧ h.1 ≤ 1000000 ∧ (h.2.2 76).1 = 20 ∧ jaH (jhm h (jmf h)) = jaH h := by
  unfold jlk at e
  split at e
  · assumption
  · cases e
theorem ey_hs {xt : Nat → Nat × (Nat → Int32)} {d mi pc : Nat} {lv : jL} {st : List jV} {h0 h1 : jH} {r : mm_R} (e : h0 = h1) (k : ey xt d mi pc lv st h1 r) : ey xt d mi pc lv st h0 r := e ▸ k
