/-! the second machine's heap -/
def mm_xv : Nat → List Int32 := fun j => match j with
  | 1 => [1, 1, 0, 0, 1, 100, 50, 0]
  | 2 => [60, 12, 2, 8, 31, 20000, 10000, 1]
  | 3 => [0, 64, 80]
  | 4 => [0, 1, 4, 8, 5, 2, 3, 6, 9, 12, 13, 10, 7, 11, 14, 15]
  | 5 => [77, 70, 0, 1, 1, 1, 1]
  | 6 => [77, 70, 2, 3, 3, 60, 12]
  | _ => []
def mm_xt (L : Nat) (xs : Nat → Int32) : Nat → Nat × (Nat → Int32) := fun j => match j with
  | 0 => (L, xs)
  | j + 1 => ((mm_xv (j + 1)).length, fun i => (mm_xv (j + 1)).getD i 0)
theorem jaC_i {x : jC} (h : x.1 = 0) : jaC x = .inl (0, x.2.1, .inl (fun i => Int32.ofInt (x.2.2.1 i))) := by
  obtain ⟨t, n, f, g⟩ := x
  subst h
  rfl
theorem jaC_b {x : jC} (h : x.1 = 1) : jaC x = .inl (1, x.2.1, .inl (fun i => Int32.ofInt (jwb (x.2.2.1 i)))) := by
  obtain ⟨t, n, f, g⟩ := x
  subst h
  rfl
theorem jaC_z {x : jC} (h : x.1 = 2) : jaC x = .inl (2, x.2.1, .inl (fun i => Int32.ofInt (x.2.2.1 i % 2))) := by
  obtain ⟨t, n, f, g⟩ := x
  subst h
  rfl
theorem jaC_l {x : jC} (h : x.1 = 3) : jaC x = .inl (3, x.2.1, .inr (.inl (fun i => Int64.ofInt (x.2.2.1 i)))) := by
  obtain ⟨t, n, f, g⟩ := x
  subst h
  rfl
theorem jaC_r {x : jC} {t : Nat} (h : x.1 = t) (h4 : 3 < t) (h8 : t < 8) : jaC x = .inl (t, x.2.1, .inr (.inr (.inr (.inr (fun i => x.2.2.2 i))))) := by
  obtain ⟨t', n, f, g⟩ := x
  subst h
  match t', h4, h8 with
  | 4, _, _ => rfl
  | 5, _, _ => rfl
  | 6, _, _ => rfl
  | 7, _, _ => rfl
theorem jaC_u {H : Nat → jC} {a : Nat} {c : jC} : (fun b => jaC (jce H a c b)) = va_up (fun b => jaC (H b)) a (jaC c) := by
  funext b
  unfold jce va_up
  split <;> rfl
theorem jlset {α : Type} {n k : Nat} {f : Nat → α} {v : α} (hk : k < n) : ((List.range n).map f).set k v = (List.range n).map (fun j => if j = k then v else f j) := by
  apply List.ext_getElem?
  intro i
  by_cases hi : i < n
  · by_cases hik : i = k
    · subst hik
      rw [List.getElem?_set_self (by simpa using hi)]
      simp [hi]
    · rw [List.getElem?_set_ne (fun q => hik q.symm)]
      simp [hi, hik]
  · rw [List.getElem?_eq_none (by simpa using hi), List.getElem?_eq_none (by simpa using hi)]
theorem jib {z : Int} {n : Nat} (h : 0 ≤ jw z ∧ jw z < n) : mm_ib (Int32.ofInt z) n = true ∧ (Int32.ofInt z).toNatClampNeg = (jw z).toNat := by
  have hn : (Int32.ofInt z).toNatClampNeg = (jw z).toNat := by
    show (Int32.ofInt z).toInt.toNat = _
    rw [jw_of]
  refine ⟨?_, hn⟩
  unfold mm_ib
  rw [hn]
  have h1 : ¬ (Int32.ofInt z < 0) := fun q => by
    have := (jq_lt (y := 0)).mp q
    have h0 : jw 0 = 0 := by decide
    omega
  have h2 : Nat.blt (jw z).toNat n = true := Nat.ble_eq_true_of_le (by omega)
  simp [h1, h2]
theorem jupd {f : Int → Int} {z v : Int} (g : Int → Int32) (hz : 0 ≤ z) : upd (fun i : Nat => g (f i)) z.toNat (g v) = fun i : Nat => g (jiu f z v i) := by
  funext i
  unfold upd jiu
  by_cases hi : i = z.toNat
  · rw [if_pos hi, if_pos (by omega)]
  · rw [if_neg hi, if_neg (by omega)]
theorem jupdL {f : Int → Int} {z v : Int} (g : Int → Int64) (hz : 0 ≤ z) : vp_updL (fun i : Nat => g (f i)) z.toNat (g v) = fun i : Nat => g (jiu f z v i) := by
  funext i
  unfold vp_updL jiu
  by_cases hi : i = z.toNat
  · rw [if_pos hi, if_pos (by omega)]
  · rw [if_neg hi, if_neg (by omega)]
theorem jupr {f : Int → Option Nat} {z : Int} {v : Option Nat} (hz : 0 ≤ z) : va_up (fun i : Nat => f i) z.toNat v = fun i : Nat => jru f z v i := by
  funext i
  unfold va_up jru
  by_cases hi : i = z.toNat
  · rw [if_pos hi, if_pos (by omega)]
  · rw [if_neg hi, if_neg (by omega)]
theorem jnar_b (z : Int) : vp_nar .byte (Int32.ofInt z) = Int32.ofInt (jwb z) := by
  show (Int32.ofInt z).toInt8.toInt32 = _
  exact ji2b_s z
/-- and with a mask of k ones -/
theorem jand_m (x : Int) (k : Nat) (hk : k < 31) : jand x ((2 ^ k - 1 : Nat) : Int) = x % ((2 ^ k : Nat) : Int) := by
  have h2 : (2 : Nat) ^ k ≤ 2 ^ 30 := Nat.pow_le_pow_right (by decide) (by omega)
  have hp : 0 < (2 : Nat) ^ k := Nat.pow_pos (by decide)
  have hd : (2 : Nat) ^ k ∣ 2 ^ 32 := Nat.pow_dvd_pow 2 (by omega)
  have hn : ((Int32.ofInt x &&& Int32.ofInt ((2 ^ k - 1 : Nat) : Int)).toBitVec).toNat = (x % ((2 ^ k : Nat) : Int)).toNat := by
    show (BitVec.ofInt 32 x &&& BitVec.ofInt 32 ((2 ^ k - 1 : Nat) : Int)).toNat = _
    rw [BitVec.toNat_and, BitVec.toNat_ofInt, BitVec.toNat_ofInt]
    have e1 : (((2 ^ k - 1 : Nat) : Int) % ((2 ^ 32 : Nat) : Int)).toNat = 2 ^ k - 1 := by omega
    rw [e1, Nat.and_two_pow_sub_one_eq_mod]
    have e2 : ((x % ((2 ^ 32 : Nat) : Int)).toNat % 2 ^ k : Nat) = (x % ((2 ^ k : Nat) : Int)).toNat := by
      apply Int.ofNat.inj
      show (((x % ((2 ^ 32 : Nat) : Int)).toNat % 2 ^ k : Nat) : Int) = ((x % ((2 ^ k : Nat) : Int)).toNat : Int)
      rw [Int.natCast_emod, Int.toNat_of_nonneg (Int.emod_nonneg _ (by omega)), Int.toNat_of_nonneg (Int.emod_nonneg _ (by omega)), Int.emod_emod_of_dvd]
      exact Int.natCast_dvd_natCast.mpr hd
    exact e2
  unfold jand
  show ((Int32.ofInt x &&& Int32.ofInt ((2 ^ k - 1 : Nat) : Int)).toBitVec).toInt = _
  have hlt := Int.emod_lt_of_pos x (show (0 : Int) < ((2 ^ k : Nat) : Int) by omega)
  have hge := Int.emod_nonneg x (show ((2 ^ k : Nat) : Int) ≠ 0 by omega)
  rw [BitVec.toInt_eq_toNat_of_lt (by rw [hn]; omega), hn]
  omega
theorem jnar_z (z : Int) : vp_nar .boolean (Int32.ofInt z) = Int32.ofInt (z % 2) := by
  have h := jand_m z 1 (by decide)
  show (Int32.ofInt z &&& 1) = _
  rw [← Int32.toInt_inj, jw_of, jw_id (by omega) (by omega)]
  exact h
section JyHeap
variable {xt : Nat → Nat × (Nat → Int32)} {d mi pc : Nat} {lv : jL} {st : List jV} {h : jH} {r : mm_R} {t : Nat × Nat × Option FieldType × Nat × Nat × List (Nat × Nat × Nat × Nat)}
theorem ey_he {i : Instr × Nat} {pc' : Nat} {st' : List jV} {h' : jH} (hc : mm_cd mi pc = some i) (hm : mm_MT mi = t) (hs : mm_he t.1 (Nat.beq t.2.2.2.2.1 2) xt i.1 i.2 pc (st.map jcv) (jaH h) = some (pc', st'.map jcv, jaH h')) (k : ey xt d mi pc' lv st' h' r) : ey xt d mi pc lv st h r :=
  fun L hL => mm_Ex.he (q := (pc', st'.map jcv, jaH h')) hc (by rw [hm]; exact hs) (k L hL)
theorem jhe_getf {own idx a c k x2 : Nat} {v : Value} {s : List Value} (hf : mm_lk (mm_flT own) idx = some (c, k, x2)) (hk : Nat.blt k (mm_cn c) = true) (ha : a < h.1 ∧ (h.2.2 a).1 = c + 8) (hv : jfV c k ((h.2.2 a).2.2.1 k) ((h.2.2 a).2.2.2 k) = v) : mm_getf own 3 pc (.ref a :: s) (jaH h) idx = some (pc + 3, v :: s, jaH h) := by
  have hk' : k < mm_cn c := Nat.le_of_ble_eq_true hk
  have h1 : (jaH h).2.2 a = .inr (c, (List.range (mm_cn c)).map (fun j => jfV c j ((h.2.2 a).2.2.1 j) ((h.2.2 a).2.2.2 j))) := jaC_obj ha.2
  have h2 : Nat.blt a (jaH h).1 = true := Nat.ble_eq_true_of_le ha.1
  have h3 : Nat.beq c c = true := Nat.beq_refl c
  simp only [mm_getf, hf, h1, h2, h3]
  simp [hk', hv]
theorem ey_getf_i {idx a c k x2 : Nat} {z : Int} (hc : mm_cd mi pc = some (.getfield idx, 3)) (hm : mm_MT mi = t) (hf : mm_lk (mm_flT t.1) idx = some (c, k, x2)) (hk : Nat.blt k (mm_cn c) = true) (ht : mm_ty c k = .int) (hv : jgi h a c k = some z) (kk : ey xt d mi (pc + 3) lv (jI z :: st) h r) : ey xt d mi pc lv (jR (some a) :: st) h r := by
  unfold jgi at hv
  split at hv
  · next ha =>
    cases hv
    exact ey_he (st := jR (some a) :: st) (st' := _ :: st) hc hm (jhe_getf hf hk ha (by unfold jfV; rw [ht]; rfl)) kk
  · cases hv
theorem ey_getf_z {idx a c k x2 : Nat} {z : Int} (hc : mm_cd mi pc = some (.getfield idx, 3)) (hm : mm_MT mi = t) (hf : mm_lk (mm_flT t.1) idx = some (c, k, x2)) (hk : Nat.blt k (mm_cn c) = true) (ht : mm_ty c k = .boolean) (hv : jgb h a c k = some z) (kk : ey xt d mi (pc + 3) lv (jI z :: st) h r) : ey xt d mi pc lv (jR (some a) :: st) h r := by
  unfold jgb at hv
  split at hv
  · next ha =>
    cases hv
    exact ey_he (st := jR (some a) :: st) (st' := _ :: st) hc hm (jhe_getf hf hk ha (by unfold jfV; rw [ht]; rfl)) kk
  · cases hv
theorem ey_getf_l {idx a c k x2 : Nat} {z : Int} (hc : mm_cd mi pc = some (.getfield idx, 3)) (hm : mm_MT mi = t) (hf : mm_lk (mm_flT t.1) idx = some (c, k, x2)) (hk : Nat.blt k (mm_cn c) = true) (ht : mm_ty c k = .long) (hv : jgi h a c k = some z) (kk : ey xt d mi (pc + 3) lv (jJ z :: st) h r) : ey xt d mi pc lv (jR (some a) :: st) h r := by
  unfold jgi at hv
  split at hv
  · next ha =>
    cases hv
    exact ey_he (st := jR (some a) :: st) (st' := _ :: st) hc hm (jhe_getf hf hk ha (by unfold jfV; rw [ht]; rfl)) kk
  · cases hv
/-- a type of references -/
def jtr_ (q : FieldType) : Bool := match q with
  | .object _ => true
  | .array _ => true
  | _ => false
theorem jfV_r {c k : Nat} {z : Int} {q : Option Nat} (ht : jtr_ (mm_ty c k) = true) : jfV c k z q = va_rf q := by
  unfold jfV
  cases hq : mm_ty c k <;> rw [hq] at ht <;> first | rfl | (cases ht; done)
theorem ey_getf_r {idx a c k x2 : Nat} {z : Option Nat} (hc : mm_cd mi pc = some (.getfield idx, 3)) (hm : mm_MT mi = t) (hf : mm_lk (mm_flT t.1) idx = some (c, k, x2)) (hk : Nat.blt k (mm_cn c) = true) (ht : jtr_ (mm_ty c k) = true) (hv : jgr h a c k = some z) (kk : ey xt d mi (pc + 3) lv (jR z :: st) h r) : ey xt d mi pc lv (jR (some a) :: st) h r := by
  unfold jgr at hv
  split at hv
  · next ha =>
    cases hv
    exact ey_he (st := jR (some a) :: st) (st' := jR _ :: st) hc hm (jhe_getf hf hk ha (jfV_r ht)) kk
  · cases hv
theorem jhe_putf {own idx a c k x2 : Nat} {ini : Bool} {v : Value} {s : List Value} {h' : jH} (hf : mm_lk (mm_flT own) idx = some (c, k, x2)) (hk : (Nat.blt k (mm_cn c) && (Nat.blt c 13 && (!(mm_fin c k) || (ini && Nat.beq c own)))) = true) (ha : a < h.1 ∧ (h.2.2 a).1 = c + 8) (hfit : mm_fit (mm_ty c k) v = true)
    (hh : jaH h' = (h.1, h.2.1, va_up (jaH h).2.2 a (.inr (c, ((List.range (mm_cn c)).map (fun j => jfV c j ((h.2.2 a).2.2.1 j) ((h.2.2 a).2.2.2 j))).set k v)))) : mm_putf own 3 pc ini (v :: .ref a :: s) (jaH h) idx = some (pc + 3, s, jaH h') := by
  have h1 : (jaH h).2.2 a = .inr (c, (List.range (mm_cn c)).map (fun j => jfV c j ((h.2.2 a).2.2.1 j) ((h.2.2 a).2.2.2 j))) := jaC_obj ha.2
  have h2 : Nat.blt a (jaH h).1 = true := Nat.ble_eq_true_of_le ha.1
  have h3 : Nat.beq c c = true := Nat.beq_refl c
  have hl : ((List.range (mm_cn c)).map (fun j => jfV c j ((h.2.2 a).2.2.1 j) ((h.2.2 a).2.2.2 j))).length = mm_cn c := by simp
  simp only [mm_putf, hf, h1, h2, h3, hfit, hl, hk, hh]
  rfl
theorem jaH_si {a c k : Nat} {z : Int} {v : Value} (hk : k < mm_cn c) (ha : (h.2.2 a).1 = c + 8) (hv : jfV c k z ((h.2.2 a).2.2.2 k) = v) : jaH (jsi h a k z) = (h.1, h.2.1, va_up (jaH h).2.2 a (.inr (c, ((List.range (mm_cn c)).map (fun j => jfV c j ((h.2.2 a).2.2.1 j) ((h.2.2 a).2.2.2 j))).set k v))) := by
  show (h.1, h.2.1, fun b => jaC (jce h.2.2 a _ b)) = _
  rw [jaC_u, jaC_obj (c := c) (x := ((h.2.2 a).1, (h.2.2 a).2.1, jiu (h.2.2 a).2.2.1 k z, (h.2.2 a).2.2.2)) ha, jlset hk]
  refine congrArg (fun q => (h.1, h.2.1, va_up (jaH h).2.2 a (Sum.inr (c, q)))) (List.map_congr_left (fun j _ => ?_))
  by_cases hj : j = k
  · subst hj
    simp only [jiu, if_pos, hv]
  · simp only [jiu, if_neg hj, if_neg (show ¬ ((j : Int) = (k : Int)) by omega)]
theorem jaH_sr {a c k : Nat} {z : Option Nat} {v : Value} (hk : k < mm_cn c) (ha : (h.2.2 a).1 = c + 8) (hv : jfV c k ((h.2.2 a).2.2.1 k) z = v) : jaH (jsr h a k z) = (h.1, h.2.1, va_up (jaH h).2.2 a (.inr (c, ((List.range (mm_cn c)).map (fun j => jfV c j ((h.2.2 a).2.2.1 j) ((h.2.2 a).2.2.2 j))).set k v))) := by
  show (h.1, h.2.1, fun b => jaC (jce h.2.2 a _ b)) = _
  rw [jaC_u, jaC_obj (c := c) (x := ((h.2.2 a).1, (h.2.2 a).2.1, (h.2.2 a).2.2.1, jru (h.2.2 a).2.2.2 k z)) ha, jlset hk]
  refine congrArg (fun q => (h.1, h.2.1, va_up (jaH h).2.2 a (Sum.inr (c, q)))) (List.map_congr_left (fun j _ => ?_))
  by_cases hj : j = k
  · subst hj
    simp only [jru, if_pos, hv]
  · simp only [jru, if_neg hj, if_neg (show ¬ ((j : Int) = (k : Int)) by omega)]
theorem jbl {a b c : Bool} (h : (a && b) = true) : a = true := by cases a <;> simp_all
theorem ey_putf_i {idx a c k x2 : Nat} {z : Int} {h' : jH} (hc : mm_cd mi pc = some (.putfield idx, 3)) (hm : mm_MT mi = t) (hf : mm_lk (mm_flT t.1) idx = some (c, k, x2)) (hk : (Nat.blt k (mm_cn c) && (Nat.blt c 13 && (!(mm_fin c k) || (Nat.beq t.2.2.2.2.1 2 && Nat.beq c t.1)))) = true) (ht : mm_ty c k = .int) (hv : jpi h a c k z = some h') (kk : ey xt d mi (pc + 3) lv st h' r) : ey xt d mi pc lv (jI z :: jR (some a) :: st) h r := by
  unfold jpi at hv
  split at hv
  · next ha =>
    cases hv
    exact ey_he (st := jI z :: jR (some a) :: st) (st' := st) hc hm (jhe_putf hf hk ha (by rw [ht]; rfl) (jaH_si (Nat.le_of_ble_eq_true (jbl (c := true) hk)) ha.2 (by unfold jfV; rw [ht]; rfl))) kk
  · cases hv
theorem ey_putf_l {idx a c k x2 : Nat} {z : Int} {h' : jH} (hc : mm_cd mi pc = some (.putfield idx, 3)) (hm : mm_MT mi = t) (hf : mm_lk (mm_flT t.1) idx = some (c, k, x2)) (hk : (Nat.blt k (mm_cn c) && (Nat.blt c 13 && (!(mm_fin c k) || (Nat.beq t.2.2.2.2.1 2 && Nat.beq c t.1)))) = true) (ht : mm_ty c k = .long) (hv : jpi h a c k z = some h') (kk : ey xt d mi (pc + 3) lv st h' r) : ey xt d mi pc lv (jJ z :: jR (some a) :: st) h r := by
  unfold jpi at hv
  split at hv
  · next ha =>
    cases hv
    exact ey_he (st := jJ z :: jR (some a) :: st) (st' := st) hc hm (jhe_putf hf hk ha (by rw [ht]; rfl) (jaH_si (Nat.le_of_ble_eq_true (jbl (c := true) hk)) ha.2 (by unfold jfV; rw [ht]; rfl))) kk
  · cases hv
theorem ey_putf_z {idx a c k x2 : Nat} {z : Int} {h' : jH} (hc : mm_cd mi pc = some (.putfield idx, 3)) (hm : mm_MT mi = t) (hf : mm_lk (mm_flT t.1) idx = some (c, k, x2)) (hk : (Nat.blt k (mm_cn c) && (Nat.blt c 13 && (!(mm_fin c k) || (Nat.beq t.2.2.2.2.1 2 && Nat.beq c t.1)))) = true) (ht : mm_ty c k = .boolean) (hb : z = 0 ∨ z = 1) (hv : jpi h a c k z = some h') (kk : ey xt d mi (pc + 3) lv st h' r) : ey xt d mi pc lv (jI z :: jR (some a) :: st) h r := by
  unfold jpi at hv
  split at hv
  · next ha =>
    cases hv
    exact ey_he (st := jI z :: jR (some a) :: st) (st' := st) hc hm (jhe_putf hf hk ha (by rw [ht]; rcases hb with rfl | rfl <;> rfl) (jaH_si (Nat.le_of_ble_eq_true (jbl (c := true) hk)) ha.2 (by unfold jfV; rw [ht]; rcases hb with rfl | rfl <;> rfl))) kk
  · cases hv
theorem jfit_r {q : FieldType} (h : jtr_ q = true) (z : Option Nat) : mm_fit q (va_rf z) = true := by
  cases q <;> first | (cases h; done) | (cases z <;> rfl)
theorem ey_putf_r {idx a c k x2 : Nat} {z : Option Nat} {h' : jH} (hc : mm_cd mi pc = some (.putfield idx, 3)) (hm : mm_MT mi = t) (hf : mm_lk (mm_flT t.1) idx = some (c, k, x2)) (hk : (Nat.blt k (mm_cn c) && (Nat.blt c 13 && (!(mm_fin c k) || (Nat.beq t.2.2.2.2.1 2 && Nat.beq c t.1)))) = true) (ht : jtr_ (mm_ty c k) = true) (hv : jpr h a c k z = some h') (kk : ey xt d mi (pc + 3) lv st h' r) : ey xt d mi pc lv (jR z :: jR (some a) :: st) h r := by
  unfold jpr at hv
  split at hv
  · next ha =>
    cases hv
    exact ey_he (st := jR z :: jR (some a) :: st) (st' := st) hc hm (jhe_putf hf hk ha (jfit_r ht z) (jaH_sr (Nat.le_of_ble_eq_true (jbl (c := true) hk)) ha.2 (jfV_r ht))) kk
  · cases hv
end JyHeap
