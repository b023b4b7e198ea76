/-! the law runs to its end, for every script of at most 512 ints -/
section LawRun
theorem ey_aH {xt : Nat → Nat × (Nat → Int32)} {d mi pc : Nat} {lv : jL} {st : List jV} {g h' : jH} {r : mm_R} (e : jaH h' = jaH g) (K : ey xt d mi pc lv st h' r) : ey xt d mi pc lv st g r := fun L hl => by
  rw [← e]
  exact K L hl
theorem gr_k1 {x y k : Nat} (h : x ≤ y + 1000) (b : y ≤ 153 + 1000 * k) : x ≤ 153 + 1000 * (k + 1) := Nat.le_trans h (Nat.le_trans (Nat.add_le_add_right b 1000) (Nat.le_of_eq (by rw [Nat.mul_succ, Nat.add_assoc])))
theorem gr_k2 {x y k : Nat} (h : x ≤ y + 100000) (b : y ≤ 577070 + 100000 * k) : x ≤ 577070 + 100000 * (k + 1) := Nat.le_trans h (Nat.le_trans (Nat.add_le_add_right b 100000) (Nat.le_of_eq (by rw [Nat.mul_succ, Nat.add_assoc])))
theorem law_l {L : Nat} {xs : Nat → Int32} (hL : L ≤ 512) : ∀ (n k : Nat) (h : jH), RelL h → k + n = L / 8 → h.1 ≤ 153 + 1000 * k → h.2.1 ≤ 577070 + 100000 * k → ∃ hf : jH, hf.1 ≤ 153 + 1000 * (L / 8) ∧ hf.2.1 ≤ 577070 + 100000 * (L / 8) ∧ ∀ r : mm_R, (∀ lv : jL, ey (mm_xt L xs) 72 403 3175 lv [] hf r) → ∀ lv : jL, lv 0 = some (jR (some 1000000)) → lv 1 = some (jR (some 0)) → lv 2 = some (jR (some 76)) → lv 3 = some (jR (some 152)) → lv 4 = some (jI (8 * (k : Int))) → ey (mm_xt L xs) 72 403 23 lv [] h r
  | 0, k, h, R, e, b1, b2 => by
    have ek : k = L / 8 := by omega
    refine ⟨h, by omega, by omega, fun r K => ?_⟩
    exact jk_403_s23 (x4 := 8 * (k : Int)) (o := .inr h) (stl_end (by omega) (by omega) (by omega) (by omega)) K
  | n + 1, k, h, R, e, b1, b2 => by
    obtain ⟨g, h', e1, ea, R', G⟩ := stl_all (L := L) (xs := xs) (i := 8 * (k : Int)) (by omega) (by omega) (by omega) R (by omega)
    obtain ⟨g1, g2⟩ := G
    obtain ⟨hf, f1, f2, f3⟩ := law_l (xs := xs) hL n (k + 1) h' R' (by omega) (gr_k1 g1 b1) (gr_k2 g2 b2)
    refine ⟨hf, f1, f2, fun r K => ?_⟩
    refine jk_403_s23 (x4 := 8 * (k : Int)) (o := .inl (8 * (k : Int) + 8, g)) e1 ?_
    intro lv a0 a1 a2 a3 a4
    refine ey_aH ea (f3 r K lv a0 a1 a2 a3 ?_)
    rw [show 8 * ((k + 1 : Nat) : Int) = 8 * (k : Int) + 8 by omega]
    exact a4
def jst4 : Option (Nat × Nat × Nat × jH) := (jnw jb0 11).bind fun n1 => (jd_139 n1.1 n1.2).bind fun h3 => (jnw h3 12).bind fun n5 => (jd_202 n5.1 n5.2).bind fun h7 => (jna h7 3 1).bind fun n9 => some (n1.1, n5.1, n9.1, n9.2)
theorem jst4_a : (jst4.map fun q => (q.1, q.2.1, q.2.2.1)) = some (0, 76, 152) := by decide +kernel
theorem jst4_b : (jst4.map fun q => q.2.2.2) = jstart := by
  unfold jst4 jstart
  simp only [Option.map_bind, Function.comp_def, Option.map_some]
theorem jst4_e : jst4 = some (0, 76, 152, jhS) := by
  have a := jst4_a
  have b := jst4_b
  rw [jhS_e] at b
  generalize jhS = J at b ⊢
  cases h : jst4 with
  | none => rw [h] at a; cases a
  | some q =>
    obtain ⟨q1, q2, q3, q4⟩ := q
    rw [h] at a b
    cases a
    cases b
    rfl
set_option maxRecDepth 100000 in
theorem law_run (L : Nat) (xs : Nat → Int32) (hL : L ≤ 512) : ∃ hf : jH, hf.1 ≤ 64153 ∧ hf.2.1 ≤ 6977070 ∧ mm_Runs (mm_xt L xs) 73 403 ([jR (some 1000000)].map jcv) (jaH jb0) (.inl (some (jcv (jI 1)), jaH hf)) := by
  obtain ⟨hf, f1, f2, f3⟩ := law_l (xs := xs) hL (L / 8) 0 jhS RelL_start (by omega) (by rw [jS_n]; omega) (by rw [jS_s]; omega)
  refine ⟨hf, by omega, by omega, ?_⟩
  have e := jst4_e
  unfold jst4 at e
  refine ey_run0 _ mt_403 (jsl_s rfl) ?_
  obtain ⟨n1, e2, e⟩ := jbind e
  refine ey_new (cd_403 rfl) mt_403 rfl rfl jdf_11 e2 ?_
  refine ey_dup (cd_403 rfl) rfl ?_
  obtain ⟨h3, e4, e⟩ := jbind e
  refine ey_ci (s0 := [jR (some n1.1), jR (some n1.1)]) (s1 := [jR (some n1.1)]) (st' := [jR (some n1.1)]) (cd_403 rfl) mt_403 mt_139 rfl (by decide) rfl rfl (jsml_s rfl) rfl (mm_Runs.up (d := 4) (by decide) (ok_139 e4)) ?_
  refine ey_astore_n (cd_403 rfl) mt_403 rfl ?_
  obtain ⟨n5, e6, e⟩ := jbind e
  refine ey_new (cd_403 rfl) mt_403 rfl rfl jdf_12 e6 ?_
  refine ey_dup (cd_403 rfl) rfl ?_
  obtain ⟨h7, e8, e⟩ := jbind e
  refine ey_ci (s0 := [jR (some n5.1), jR (some n5.1)]) (s1 := [jR (some n5.1)]) (st' := [jR (some n5.1)]) (cd_403 rfl) mt_403 mt_202 rfl (by decide) rfl rfl (jsml_s rfl) rfl (mm_Runs.up (d := 1) (by decide) (ok_202 e8)) ?_
  refine ey_astore_n (cd_403 rfl) mt_403 rfl ?_
  refine ey_iconst (cd_403 rfl) ?_
  obtain ⟨n9, e10, e⟩ := jbind e
  refine ey_newarr (cd_403 rfl) (by decide) e10 ?_
  refine ey_astore_n (cd_403 rfl) mt_403 rfl ?_
  refine ey_iconst (cd_403 rfl) ?_
  refine ey_istore (cd_403 rfl) mt_403 rfl ?_
  have e' := Option.some.inj e
  have q1 : n1.1 = 0 := congrArg (fun q => q.1) e'
  have q2 : n5.1 = 76 := congrArg (fun q => q.2.1) e'
  have q3 : n9.1 = 152 := congrArg (fun q => q.2.2.1) e'
  have q4 : n9.2 = jhS := congrArg (fun q => q.2.2.2) e'
  have f3' : ∀ r : mm_R, (∀ lv : jL, ey (mm_xt L xs) 72 403 3175 lv [] hf r) → ∀ lv : jL, lv 0 = some (jR (some 1000000)) → lv 1 = some (jR (some n1.1)) → lv 2 = some (jR (some n5.1)) → lv 3 = some (jR (some n9.1)) → lv 4 = some (jI 0) → ey (mm_xt L xs) 72 403 23 lv [] n9.2 r := by
    rw [q1, q2, q3, q4]
    intro r K lv a0 a1 a2 a3 a4
    exact f3 r K lv a0 a1 a2 a3 a4
  refine f3' _ ?_ (jup (jup (jup (jup (jlf (jla 0 [jR (some 1000000)])) 1 (jR (some n1.1))) 2 (jR (some n5.1))) 3 (jR (some n9.1))) 4 (jI 0)) (jup_o rfl (jup_o rfl (jup_o rfl (jup_pr (lv := (jlf (jla 0 [jR (some 1000000)]))) (j := 0) (v := jR (some n1.1)) (z := (some 1000000)) rfl)))) (jup_o rfl (jup_o rfl (jup_pr (lv := (jup (jlf (jla 0 [jR (some 1000000)])) 1 (jR (some n1.1)))) (j := 1) (v := jR (some n5.1)) (z := (some n1.1)) rfl))) (jup_o rfl (jup_pr (lv := (jup (jup (jlf (jla 0 [jR (some 1000000)])) 1 (jR (some n1.1))) 2 (jR (some n5.1)))) (j := 2) (v := jR (some n9.1)) (z := (some n5.1)) rfl)) (jup_pr (lv := (jup (jup (jup (jlf (jla 0 [jR (some 1000000)])) 1 (jR (some n1.1))) 2 (jR (some n5.1))) 3 (jR (some n9.1)))) (j := 3) (v := jI 0) (z := (some n9.1)) rfl) rfl
  intro lv
  refine ey_iconst (cd_403 rfl) ?_
  exact ey_retz (cd_403 rfl) mt_403 rfl (Or.inr rfl)
theorem mm_pure (L : Nat) (xs : Nat → Int32) (hL : L ≤ 512) : ∃ (n d : Nat) (h' : mm_H), d ≤ 1000 ∧ mm_ex (mm_xt L xs) (mm_run (mm_xt L xs) n d) 403 n 0 [(0, .ref 1000000)] [] (jaH jb0) = some (.inl (some (.int 1), h')) ∧ h'.1 ≤ 600128 ∧ h'.2.1 ≤ 7301097 := by
  obtain ⟨hf, b1, b2, n, hn⟩ := law_run L xs hL
  refine ⟨n, 72, jaH hf, by decide, ?_, ?_, ?_⟩
  · replace hn : (bif Nat.ble (lg_sl [Value.ref 1000000]).length (mm_MT 403).2.1 then mm_ex (mm_xt L xs) (mm_run (mm_xt L xs) n 72) 403 n 0 (lv_args 0 [Value.ref 1000000]) [] (jaH jb0) else none) = some (.inl (some (jcv (jI 1)), jaH hf)) := hn
    exact hn
  · exact Nat.le_trans b1 (by decide)
  · exact Nat.le_trans b2 (by decide)
end LawRun
