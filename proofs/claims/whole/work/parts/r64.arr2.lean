/-! arrays, new cells, the JDK's, ends, calls -/
section JyArr
variable {xt : Nat → Nat × (Nat → Int32)} {d mi pc : Nat} {lv : jL} {st : List jV} {h : jH} {r : mm_R} {t : Nat × Nat × Option FieldType × Nat × Nat × List (Nat × Nat × Nat × Nat)}
theorem jlt6 {a : Nat} (ha : a < h.1) (h6 : h.1 ≤ 1000000) : Nat.blt a 1000000 = true := Nat.ble_eq_true_of_le (Nat.lt_of_lt_of_le ha h6)
theorem ey_iald {a : Nat} {z v : Int} (hc : mm_cd mi pc = some (.iaload, 1)) (hv : jai h a z = some v) (kk : ey xt d mi (pc + 1) lv (jI v :: st) h r) : ey xt d mi pc lv (jI z :: jR (some a) :: st) h r := by
  unfold jai at hv
  split at hv
  · next ha =>
    cases hv
    obtain ⟨h1, h2⟩ := jib ha.2
    have h3 : (jaH h).2.2 a = _ := jaC_i ha.1.2
    have h4 : Nat.blt a (jaH h).1 = true := Nat.ble_eq_true_of_le ha.1.1.1
    refine ey_he (st := jI z :: jR (some a) :: st) (st' := _ :: st) hc rfl ?_ kk
    simp only [mm_he, mm_ald, List.map_cons, jcv, va_rf, h3, h4, h1, h2, jlt6 ha.1.1.1 ha.1.1.2]
    simp [Int.toNat_of_nonneg ha.2.1]
  · cases hv
theorem ey_bald {a : Nat} {z v : Int} (hc : mm_cd mi pc = some (.baload, 1)) (hv : jab h a z = some v) (kk : ey xt d mi (pc + 1) lv (jI v :: st) h r) : ey xt d mi pc lv (jI z :: jR (some a) :: st) h r := by
  unfold jab at hv
  split at hv
  · next ha =>
    cases hv
    obtain ⟨h1, h2⟩ := jib ha.2
    have h3 : (jaH h).2.2 a = _ := jaC_b ha.1.2
    have h4 : Nat.blt a (jaH h).1 = true := Nat.ble_eq_true_of_le ha.1.1
    refine ey_he (st := jI z :: jR (some a) :: st) (st' := _ :: st) hc rfl ?_ kk
    simp only [mm_he, mm_bld8, List.map_cons, jcv, va_rf, h3, h4, h1, h2]
    simp [Int.toNat_of_nonneg ha.2.1]
  · cases hv
theorem ey_zald {a : Nat} {z v : Int} (hc : mm_cd mi pc = some (.baload, 1)) (hv : jaz h a z = some v) (kk : ey xt d mi (pc + 1) lv (jI v :: st) h r) : ey xt d mi pc lv (jI z :: jR (some a) :: st) h r := by
  unfold jaz at hv
  split at hv
  · next ha =>
    cases hv
    obtain ⟨h1, h2⟩ := jib ha.2
    have h3 : (jaH h).2.2 a = _ := jaC_z ha.1.2
    have h4 : Nat.blt a (jaH h).1 = true := Nat.ble_eq_true_of_le ha.1.1
    refine ey_he (st := jI z :: jR (some a) :: st) (st' := _ :: st) hc rfl ?_ kk
    simp only [mm_he, mm_bld8, List.map_cons, jcv, va_rf, h3, h4, h1, h2]
    simp [Int.toNat_of_nonneg ha.2.1]
  · cases hv
theorem ey_lald {a : Nat} {z v : Int} (hc : mm_cd mi pc = some (.laload, 1)) (hv : jal h a z = some v) (kk : ey xt d mi (pc + 1) lv (jJ v :: st) h r) : ey xt d mi pc lv (jI z :: jR (some a) :: st) h r := by
  unfold jal at hv
  split at hv
  · next ha =>
    cases hv
    obtain ⟨h1, h2⟩ := jib ha.2
    have h3 : (jaH h).2.2 a = _ := jaC_l ha.1.2
    have h4 : Nat.blt a (jaH h).1 = true := Nat.ble_eq_true_of_le ha.1.1
    refine ey_he (st := jI z :: jR (some a) :: st) (st' := _ :: st) hc rfl ?_ kk
    simp only [mm_he, mm_lald, List.map_cons, jcv, va_rf, h3, h4, h1, h2]
    simp [Int.toNat_of_nonneg ha.2.1]
  · cases hv
theorem ey_aald {a q : Nat} {z : Int} {v : Option Nat} (hc : mm_cd mi pc = some (.aaload, 1)) (hq : 3 < q ∧ q < 8) (hv : jar h a q z = some v) (kk : ey xt d mi (pc + 1) lv (jR v :: st) h r) : ey xt d mi pc lv (jI z :: jR (some a) :: st) h r := by
  unfold jar at hv
  split at hv
  · next ha =>
    cases hv
    obtain ⟨h1, h2⟩ := jib ha.2
    have h3 : (jaH h).2.2 a = _ := jaC_r ha.1.2 hq.1 hq.2
    have h4 : Nat.blt a (jaH h).1 = true := Nat.ble_eq_true_of_le ha.1.1
    have h5 : Nat.blt 3 q = true := Nat.ble_eq_true_of_le hq.1
    have h7 : Nat.blt q 8 = true := Nat.ble_eq_true_of_le hq.2
    refine ey_he (st := jI z :: jR (some a) :: st) (st' := _ :: st) hc rfl ?_ kk
    simp only [mm_he, mm_aald, List.map_cons, jcv, va_rf, h3, h4, h1, h2, h5, h7]
    simp [Int.toNat_of_nonneg ha.2.1, va_rf]
  · cases hv
theorem jsi_a {a : Nat} {k v : Int} (g : jC) (hg : jaC ((h.2.2 a).1, (h.2.2 a).2.1, jiu (h.2.2 a).2.2.1 k v, (h.2.2 a).2.2.2) = jaC g) : jaH (jsi h a k v) = (h.1, h.2.1, va_up (jaH h).2.2 a (jaC g)) := by
  show (h.1, h.2.1, fun b => jaC (jce h.2.2 a _ b)) = _
  rw [jaC_u, hg]
  rfl
theorem ey_iast {a : Nat} {z v : Int} {h' : jH} (hc : mm_cd mi pc = some (.iastore, 1)) (hv : jta h a 0 z v = some h') (kk : ey xt d mi (pc + 1) lv st h' r) : ey xt d mi pc lv (jI v :: jI z :: jR (some a) :: st) h r := by
  unfold jta at hv
  split at hv
  · next ha =>
    cases hv
    obtain ⟨h1, h2⟩ := jib ha.2
    have h3 : (jaH h).2.2 a = _ := jaC_i ha.1.2
    have h4 : Nat.blt a (jaH h).1 = true := Nat.ble_eq_true_of_le ha.1.1
    have h5 : jaH (jsi h a (jw z) v) = _ := jsi_a _ rfl
    refine ey_he (st := jI v :: jI z :: jR (some a) :: st) (st' := st) hc rfl ?_ kk
    simp only [mm_he, mm_iast, List.map_cons, jcv, va_rf, h3, h4, h1, h2, h5, jupd (fun x => Int32.ofInt x) ha.2.1]
    rw [jaC_i (x := ((h.2.2 a).1, (h.2.2 a).2.1, jiu (h.2.2 a).2.2.1 (jw z) v, (h.2.2 a).2.2.2)) ha.1.2]
    rfl
  · cases hv
theorem ey_bast {a : Nat} {z v : Int} {h' : jH} (hc : mm_cd mi pc = some (.bastore, 1)) (hv : jta h a 1 z v = some h') (kk : ey xt d mi (pc + 1) lv st h' r) : ey xt d mi pc lv (jI v :: jI z :: jR (some a) :: st) h r := by
  unfold jta at hv
  split at hv
  · next ha =>
    cases hv
    obtain ⟨h1, h2⟩ := jib ha.2
    have h3 : (jaH h).2.2 a = _ := jaC_b ha.1.2
    have h4 : Nat.blt a (jaH h).1 = true := Nat.ble_eq_true_of_le ha.1.1
    have h5 : jaH (jsi h a (jw z) v) = _ := jsi_a _ rfl
    refine ey_he (st := jI v :: jI z :: jR (some a) :: st) (st' := st) hc rfl ?_ kk
    simp only [mm_he, mm_bast, List.map_cons, jcv, va_rf, h3, h4, h1, h2, h5, jnar_b, jupd (fun x => Int32.ofInt (jwb x)) ha.2.1]
    rw [jaC_b (x := ((h.2.2 a).1, (h.2.2 a).2.1, jiu (h.2.2 a).2.2.1 (jw z) v, (h.2.2 a).2.2.2)) ha.1.2]
    rfl
  · cases hv
theorem ey_zast {a : Nat} {z v : Int} {h' : jH} (hc : mm_cd mi pc = some (.bastore, 1)) (hv : jta h a 2 z v = some h') (kk : ey xt d mi (pc + 1) lv st h' r) : ey xt d mi pc lv (jI v :: jI z :: jR (some a) :: st) h r := by
  unfold jta at hv
  split at hv
  · next ha =>
    cases hv
    obtain ⟨h1, h2⟩ := jib ha.2
    have h3 : (jaH h).2.2 a = _ := jaC_z ha.1.2
    have h4 : Nat.blt a (jaH h).1 = true := Nat.ble_eq_true_of_le ha.1.1
    have h5 : jaH (jsi h a (jw z) v) = _ := jsi_a _ rfl
    refine ey_he (st := jI v :: jI z :: jR (some a) :: st) (st' := st) hc rfl ?_ kk
    simp only [mm_he, mm_bast, List.map_cons, jcv, va_rf, h3, h4, h1, h2, h5, jnar_z, jupd (fun x => Int32.ofInt (x % 2)) ha.2.1]
    rw [jaC_z (x := ((h.2.2 a).1, (h.2.2 a).2.1, jiu (h.2.2 a).2.2.1 (jw z) v, (h.2.2 a).2.2.2)) ha.1.2]
    rfl
  · cases hv
theorem ey_last {a : Nat} {z v : Int} {h' : jH} (hc : mm_cd mi pc = some (.lastore, 1)) (hv : jta h a 3 z v = some h') (kk : ey xt d mi (pc + 1) lv st h' r) : ey xt d mi pc lv (jJ v :: jI z :: jR (some a) :: st) h r := by
  unfold jta at hv
  split at hv
  · next ha =>
    cases hv
    obtain ⟨h1, h2⟩ := jib ha.2
    have h3 : (jaH h).2.2 a = _ := jaC_l ha.1.2
    have h4 : Nat.blt a (jaH h).1 = true := Nat.ble_eq_true_of_le ha.1.1
    have h5 : jaH (jsi h a (jw z) v) = _ := jsi_a _ rfl
    refine ey_he (st := jJ v :: jI z :: jR (some a) :: st) (st' := st) hc rfl ?_ kk
    simp only [mm_he, mm_last, List.map_cons, jcv, va_rf, h3, h4, h1, h2, h5, jupdL (fun x => Int64.ofInt x) ha.2.1]
    rw [jaC_l (x := ((h.2.2 a).1, (h.2.2 a).2.1, jiu (h.2.2 a).2.2.1 (jw z) v, (h.2.2 a).2.2.2)) ha.1.2]
    rfl
  · cases hv
theorem ey_aast {a q v : Nat} {z : Int} {h' : jH} (hc : mm_cd mi pc = some (.aastore, 1)) (hq : 3 < q ∧ q < 8) (hv : jtr h a q z v = some h') (kk : ey xt d mi (pc + 1) lv st h' r) : ey xt d mi pc lv (jR (some v) :: jI z :: jR (some a) :: st) h r := by
  unfold jtr at hv
  split at hv
  · next ha =>
    cases hv
    obtain ⟨ha, hv1, hv2⟩ := ha
    obtain ⟨h1, h2⟩ := jib ha.2
    have h3 : (jaH h).2.2 a = _ := jaC_r ha.1.2 hq.1 hq.2
    have h3' : (jaH h).2.2 v = _ := jaC_obj hv2
    have h4 : Nat.blt a (jaH h).1 = true := Nat.ble_eq_true_of_le ha.1.1
    have h4' : Nat.blt v (jaH h).1 = true := Nat.ble_eq_true_of_le hv1
    have h5 : Nat.blt 3 q = true := Nat.ble_eq_true_of_le hq.1
    have h7 : Nat.blt q 8 = true := Nat.ble_eq_true_of_le hq.2
    have h8 : jaH (jsr h a (jw z) (some v)) = (h.1, h.2.1, va_up (jaH h).2.2 a (jaC ((h.2.2 a).1, (h.2.2 a).2.1, (h.2.2 a).2.2.1, jru (h.2.2 a).2.2.2 (jw z) (some v)))) := by
      show (h.1, h.2.1, fun b => jaC (jce h.2.2 a _ b)) = _
      rw [jaC_u]
      rfl
    refine ey_he (st := jR (some v) :: jI z :: jR (some a) :: st) (st' := st) hc rfl ?_ kk
    simp only [mm_he, mm_aast, List.map_cons, jcv, va_rf, h3, h3', h4, h4', h1, h2, h5, h7, h8, jupr ha.2.1, Nat.beq_refl]
    rw [jaC_r (t := q) (x := ((h.2.2 a).1, (h.2.2 a).2.1, (h.2.2 a).2.2.1, jru (h.2.2 a).2.2.2 (jw z) (some v))) ha.1.2 hq.1 hq.2]
    rfl
  · cases hv
theorem ey_alen {a : Nat} {v : Int} (hc : mm_cd mi pc = some (.arraylength, 1)) (hv : jln h a = some v) (kk : ey xt d mi (pc + 1) lv (jI v :: st) h r) : ey xt d mi pc lv (jR (some a) :: st) h r := by
  unfold jln at hv
  split at hv
  · next ha =>
    cases hv
    have h4 : Nat.blt a (jaH h).1 = true := Nat.ble_eq_true_of_le ha.1.1
    refine ey_he (st := jR (some a) :: st) (st' := _ :: st) hc rfl ?_ kk
    have key : ∃ k m, (jaH h).2.2 a = .inl (k, (h.2.2 a).2.1, m) ∧ Nat.blt k 8 = true := by
      show ∃ k m, jaC (h.2.2 a) = .inl (k, (h.2.2 a).2.1, m) ∧ Nat.blt k 8 = true
      generalize h.2.2 a = x at ha
      obtain ⟨q, n, f, g⟩ := x
      match q, ha.2 with
      | 0, _ => exact ⟨_, _, rfl, rfl⟩
      | 1, _ => exact ⟨_, _, rfl, rfl⟩
      | 2, _ => exact ⟨_, _, rfl, rfl⟩
      | 3, _ => exact ⟨_, _, rfl, rfl⟩
      | 4, _ => exact ⟨_, _, rfl, rfl⟩
      | 5, _ => exact ⟨_, _, rfl, rfl⟩
      | 6, _ => exact ⟨_, _, rfl, rfl⟩
      | 7, _ => exact ⟨_, _, rfl, rfl⟩
      | n + 8, hq => exact absurd hq (by simp)
    obtain ⟨k, m, hk, hk8⟩ := key
    simp only [mm_he, mm_alen, List.map_cons, jcv, va_rf, hk, h4, hk8, jlt6 ha.1.1 ha.1.2, Int32.ofInt_eq_ofNat]
    rfl
  · cases hv
theorem ey_new {idx c x2 : Nat} {q : Nat × jH} (hc : mm_cd mi pc = some (.new idx, 3)) (hm : mm_MT mi = t) (hf : mm_lk (mm_nwT t.1) idx = some (c, x2)) (hc3 : Nat.blt c 13 = true) (hd : mm_df c = (List.range (mm_cn c)).map (fun j => jfV c j 0 none)) (hv : jnw h c = some q) (kk : ey xt d mi (pc + 3) lv (jR (some q.1) :: st) q.2 r) : ey xt d mi pc lv st h r := by
  unfold jnw at hv
  split at hv
  · next ha =>
    cases hv
    have h4 : Nat.blt (jaH h).1 1000000 = true := Nat.ble_eq_true_of_le ha
    refine ey_he (st' := _ :: st) hc hm ?_ kk
    have h5 : jaH (jmk h (mm_cn c) (c + 8, 0, fun _ => 0, fun _ => none)) = (h.1 + 1, h.2.1 + mm_cn c, va_up (jaH h).2.2 h.1 (.inr (c, mm_df c))) := by
      show (h.1 + 1, h.2.1 + mm_cn c, fun b => jaC (jce h.2.2 h.1 _ b)) = _
      rw [jaC_u, jaC_obj (x := (c + 8, 0, fun _ => 0, fun _ => none)) rfl, hd]
      rfl
    simp only [mm_he, mm_new, hf, h4, hc3, h5]
    rfl
  · cases hv
def jat : ArrayType → Nat
  | .int => 0
  | .byte => 1
  | .boolean => 2
  | .long => 3
  | _ => 9
theorem ey_newarr {z : Int} {ty : ArrayType} {q : Nat × jH} (hc : mm_cd mi pc = some (.newarray ty, 2)) (hq : jat ty < 4) (hv : jna h (jat ty) z = some q) (kk : ey xt d mi (pc + 2) lv (jR (some q.1) :: st) q.2 r) : ey xt d mi pc lv (jI z :: st) h r := by
  unfold jna at hv
  split at hv
  · next ha =>
    cases hv
    have h4 : Nat.blt (jaH h).1 1000000 = true := Nat.ble_eq_true_of_le ha.1
    have h1 : ¬ (Int32.ofInt z < 0) := fun q => by
      have := (jq_lt (y := 0)).mp q
      have h0 : jw 0 = 0 := by decide
      omega
    have hn : (Int32.ofInt z).toNatClampNeg = (jw z).toNat := by
      show (Int32.ofInt z).toInt.toNat = _
      rw [jw_of]
    have h7 : Nat.ble (jw z).toNat 1000000 = true := Nat.ble_eq_true_of_le (by omega)
    refine ey_he (st := jI z :: st) (st' := _ :: st) hc rfl ?_ kk
    have h5 : ∀ c, jaH (jmk h (jw z).toNat c) = (h.1 + 1, h.2.1 + (jw z).toNat, va_up (jaH h).2.2 h.1 (jaC c)) := by
      intro c
      show (h.1 + 1, h.2.1 + (jw z).toNat, fun b => jaC (jce h.2.2 h.1 _ b)) = _
      rw [jaC_u]
      rfl
    cases ty <;> first
      | (simp only [mm_he, mm_na, List.map_cons, jcv, h4, hn, h7, h1, h5]; rfl)
      | exact absurd hq (by decide)
  · cases hv
theorem ey_anew {idx c x2 : Nat} {z : Int} {q : Nat × jH} (hc : mm_cd mi pc = some (.anewarray idx, 3)) (hm : mm_MT mi = t) (hf : mm_lk (mm_anT t.1) idx = some (c, x2)) (hq : 3 < c ∧ c < 8) (hv : jna h c z = some q) (kk : ey xt d mi (pc + 3) lv (jR (some q.1) :: st) q.2 r) : ey xt d mi pc lv (jI z :: st) h r := by
  unfold jna at hv
  split at hv
  · next ha =>
    cases hv
    have h4 : Nat.blt (jaH h).1 1000000 = true := Nat.ble_eq_true_of_le ha.1
    have h1 : ¬ (Int32.ofInt z < 0) := fun q => by
      have := (jq_lt (y := 0)).mp q
      have h0 : jw 0 = 0 := by decide
      omega
    have hn : (Int32.ofInt z).toNatClampNeg = (jw z).toNat := by
      show (Int32.ofInt z).toInt.toNat = _
      rw [jw_of]
    have h7 : Nat.ble (jw z).toNat 1000000 = true := Nat.ble_eq_true_of_le (by omega)
    have h9 : Nat.blt 3 c = true := Nat.ble_eq_true_of_le hq.1
    have h10 : Nat.blt c 8 = true := Nat.ble_eq_true_of_le hq.2
    refine ey_he (st := jI z :: st) (st' := _ :: st) hc hm ?_ kk
    have h5 : jaH (jmk h (jw z).toNat (c, (jw z).toNat, fun _ => 0, fun _ => none)) = (h.1 + 1, h.2.1 + (jw z).toNat, va_up (jaH h).2.2 h.1 (.inl (c, (jw z).toNat, .inr (.inr (.inr (.inr (fun _ => none))))))) := by
      show (h.1 + 1, h.2.1 + (jw z).toNat, fun b => jaC (jce h.2.2 h.1 _ b)) = _
      rw [jaC_u, jaC_r (x := (c, (jw z).toNat, fun _ => 0, fun _ => none)) rfl hq.1 hq.2]
      rfl
    simp only [mm_he, mm_an, List.map_cons, jcv, hf, h4, hn, h7, h1, h5, h9, h10]
    rfl
  · cases hv
theorem ey_ldc {idx x2 : Nat} {z : Int} {x : Int32} (hc : mm_cd mi pc = some (.ldc idx, 2)) (hm : mm_MT mi = t) (hf : mm_lk (mm_ciT t.1) idx = some (x, x2)) (hx : x = Int32.ofInt z) (kk : ey xt d mi (pc + 2) lv (jI z :: st) h r) : ey xt d mi pc lv st h r :=
  ey_he (st' := _ :: st) hc hm (by simp only [mm_he, mm_ldi, hf, hx]; rfl) kk
theorem ey_ldc_w {idx x2 : Nat} {z : Int} {x : Int32} (hc : mm_cd mi pc = some (.ldc_w idx, 3)) (hm : mm_MT mi = t) (hf : mm_lk (mm_ciT t.1) idx = some (x, x2)) (hx : x = Int32.ofInt z) (kk : ey xt d mi (pc + 3) lv (jI z :: st) h r) : ey xt d mi pc lv st h r :=
  ey_he (st' := _ :: st) hc hm (by simp only [mm_he, mm_ldi, hf, hx]; rfl) kk
theorem ey_ldc2 {idx x2 : Nat} {z : Int} {x : Int64} (hc : mm_cd mi pc = some (.ldc2_w idx, 3)) (hm : mm_MT mi = t) (hf : mm_lk (mm_clT t.1) idx = some (x, x2)) (hx : x = Int64.ofInt z) (kk : ey xt d mi (pc + 3) lv (jJ z :: st) h r) : ey xt d mi pc lv st h r :=
  ey_he (st' := _ :: st) hc hm (by simp only [mm_he, mm_ldl, hf, hx]; rfl) kk
theorem ey_gs {idx j x2 : Nat} (hc : mm_cd mi pc = some (.getstatic idx, 3)) (hm : mm_MT mi = t) (hf : mm_lk (mm_stT t.1) idx = some (j, x2)) (hj : (Nat.blt 0 j && Nat.blt j 7) = true) (kk : ey xt d mi (pc + 3) lv (jR (some (1000000 + j)) :: st) h r) : ey xt d mi pc lv st h r :=
  ey_he (st' := _ :: st) hc hm (by simp only [mm_he, mm_gs, hf, hj]; rfl) kk
theorem jxv_s : ∀ j, j < 7 → 1 ≤ j → mm_xv j = (jxv j).map Int32.ofInt
  | 1, _, _ => rfl
  | 2, _, _ => rfl
  | 3, _, _ => rfl
  | 4, _, _ => rfl
  | 5, _, _ => rfl
  | 6, _, _ => rfl
theorem ey_iast_x {L : Nat} {xs : Nat → Int32} {j : Nat} {z v : Int} (hc : mm_cd mi pc = some (.iaload, 1)) (hj : 1 ≤ j ∧ j < 7) (hv : jst j z = some v) (kk : ey (mm_xt L xs) d mi (pc + 1) lv (jI v :: st) h r) : ey (mm_xt L xs) d mi pc lv (jI z :: jR (some (1000000 + j)) :: st) h r := by
  unfold jst at hv
  split at hv
  · next ha =>
    cases hv
    have hl : (mm_xt L xs j).1 = (jxv j).length := by
      obtain ⟨k, rfl⟩ : ∃ k, j = k + 1 := ⟨j - 1, by omega⟩
      show (mm_xv (k + 1)).length = _
      rw [jxv_s _ hj.2 hj.1, List.length_map]
    have hg : (mm_xt L xs j).2 (jw z).toNat = Int32.ofInt ((jxv j).getD (jw z).toNat 0) := by
      obtain ⟨k, rfl⟩ : ∃ k, j = k + 1 := ⟨j - 1, by omega⟩
      show (mm_xv (k + 1)).getD (jw z).toNat 0 = _
      rw [jxv_s _ hj.2 hj.1]
      have hlt : (jw z).toNat < (jxv (k + 1)).length := by omega
      simp [List.getD, hlt]
    obtain ⟨h1, h2⟩ := jib (z := z) (n := (mm_xt L xs j).1) (by rw [hl]; exact ha)
    have h3 : Nat.blt (1000000 + j) 1000000 = false := by
      cases hq : Nat.blt (1000000 + j) 1000000 with
      | false => rfl
      | true => exact absurd (Nat.le_of_ble_eq_true hq) (by omega)
    have h5 : Nat.blt (1000000 + j - 1000000) 7 = true := Nat.ble_eq_true_of_le (by omega)
    refine ey_he (st := jI z :: jR (some (1000000 + j)) :: st) (st' := _ :: st) hc rfl ?_ kk
    simp only [mm_he, mm_ald, List.map_cons, jcv, va_rf, h3, h5, Nat.add_sub_cancel_left, h1, h2, hg]
    have h6 : Nat.blt j 7 = true := Nat.ble_eq_true_of_le (by omega)
    simp [h6]
  · cases hv
end JyArr
