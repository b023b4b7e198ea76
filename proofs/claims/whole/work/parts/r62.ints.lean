/-! THE SECOND MACHINE: ints as integers, locals as a function, cells as blocks of ints and references. What holds of it holds of the mini machine. -/
theorem jw_of (z : Int) : (Int32.ofInt z).toInt = jw z := by
  rw [Int32.toInt_ofInt]
  unfold Int.bmod jw
  simp only [Int32.size]
  split <;> omega
theorem jwl_of (z : Int) : (Int64.ofInt z).toInt = jwl z := by
  rw [Int64.toInt_ofInt]
  unfold Int.bmod jwl
  simp only [Int64.size]
  split <;> omega
theorem jwb_of (z : Int) : (Int8.ofInt z).toInt = jwb z := by
  rw [Int8.toInt_ofInt]
  unfold Int.bmod jwb
  simp only [Int8.size]
  split <;> omega
theorem jw_id {z : Int} (h1 : -2147483648 ≤ z) (h2 : z < 2147483648) : jw z = z := by unfold jw; omega
theorem jwl_id {z : Int} (h1 : -9223372036854775808 ≤ z) (h2 : z < 9223372036854775808) : jwl z = z := by unfold jwl; omega
theorem jwb_id {z : Int} (h1 : -128 ≤ z) (h2 : z < 128) : jwb z = z := by unfold jwb; omega
theorem jw_ge (z : Int) : -2147483648 ≤ jw z := by unfold jw; omega
theorem jw_lt (z : Int) : jw z < 2147483648 := by unfold jw; omega
theorem jw_toInt (x : Int32) : jw x.toInt = x.toInt := by rw [← jw_of, Int32.ofInt_toInt]
theorem jwl_toInt (x : Int64) : jwl x.toInt = x.toInt := by rw [← jwl_of, Int64.ofInt_toInt]
theorem jq_eq {x y : Int} : Int32.ofInt x = Int32.ofInt y ↔ jw x = jw y := by rw [← Int32.toInt_inj, jw_of, jw_of]
theorem jq_lt {x y : Int} : Int32.ofInt x < Int32.ofInt y ↔ jw x < jw y := by rw [Int32.lt_iff_toInt_lt, jw_of, jw_of]
theorem jq_le {x y : Int} : Int32.ofInt x ≤ Int32.ofInt y ↔ jw x ≤ jw y := by rw [Int32.le_iff_toInt_le, jw_of, jw_of]
theorem jl_eq {x y : Int} : Int64.ofInt x = Int64.ofInt y ↔ jwl x = jwl y := by rw [← Int64.toInt_inj, jwl_of, jwl_of]
theorem jl_lt {x y : Int} : Int64.ofInt x < Int64.ofInt y ↔ jwl x < jwl y := by rw [Int64.lt_iff_toInt_lt, jwl_of, jwl_of]
theorem jq_jw (z : Int) : Int32.ofInt (jw z) = Int32.ofInt z := jq_eq.mpr (jw_jw z)
def jlcmp (x y : Int) : Int := if jwl y < jwl x then 1 else if jwl x = jwl y then 0 else -1
theorem jdiv_s (x y : Int) : Int32.ofInt x / Int32.ofInt y = Int32.ofInt (jdiv x y) := by
  rw [← Int32.toInt_inj, Int32.toInt_div, jw_of, jw_of, Int32.toInt_ofInt]
  rfl
theorem jrem_s (x y : Int) : Int32.ofInt x - Int32.ofInt x / Int32.ofInt y * Int32.ofInt y = Int32.ofInt (jrem x y) := by
  rw [jdiv_s]
  unfold jrem
  rw [Int32.ofInt_sub, Int32.ofInt_mul, jq_jw, jq_jw]
  rfl
theorem jlcmp_s (x y : Int) : lg_cmp (Int64.ofInt x) (Int64.ofInt y) = Int32.ofInt (jlcmp x y) := by
  unfold lg_cmp jlcmp
  by_cases h1 : jwl y < jwl x
  · rw [if_pos h1, if_pos (jl_lt.mpr h1)]
    rfl
  · rw [if_neg h1, if_neg (fun q => h1 (jl_lt.mp q))]
    by_cases h2 : jwl x = jwl y
    · rw [if_pos h2, if_pos (jl_eq.mpr h2)]
      rfl
    · rw [if_neg h2, if_neg (fun q => h2 (jl_eq.mp q))]
      rfl
theorem ji2l_s (x : Int) : (Int32.ofInt x).toInt64 = Int64.ofInt (jw x) := by
  rw [← Int64.toInt_inj, Int32.toInt_toInt64, jw_of, jwl_of, jwl_id] <;> (unfold jw; omega)
theorem jl2i_s (x : Int) : (Int64.ofInt x).toInt32 = Int32.ofInt x := Int64.toInt32_ofInt
theorem ji2b_s (x : Int) : (Int32.ofInt x).toInt8.toInt32 = Int32.ofInt (jwb x) := by
  rw [Int32.toInt8_ofInt, ← Int32.ofInt_int8ToInt, jwb_of]
theorem jbip_s {n : Int} (h : -128 ≤ n ∧ n < 128) : (Int8.ofInt n).toInt32 = Int32.ofInt n := by
  rw [← Int32.ofInt_int8ToInt, jwb_of, jwb_id h.1 h.2]
theorem jsip_s {n : Int} (h : -32768 ≤ n ∧ n < 32768) : (Int16.ofInt n).toInt32 = Int32.ofInt n := by
  rw [← Int32.ofInt_int16ToInt, Int16.toInt_ofInt_of_le h.1 h.2]
abbrev jI (z : Int) : jV := Sum.inl (Sum.inl z)
abbrev jJ (z : Int) : jV := Sum.inl (Sum.inr z)
abbrev jR (q : Option Nat) : jV := Sum.inr q
abbrev jL : Type := Nat → Option jV
def jsim (lv : jL) (L : mm_L) : Prop := ∀ i v, lv i = some v → mm_get L i = some (jcv v)
/-- from pc on, in method mi, its callees at depth d, it ends so -/
def ey (xt : Nat → Nat × (Nat → Int32)) (d mi pc : Nat) (lv : jL) (st : List jV) (h : jH) (r : mm_R) : Prop := ∀ L, jsim lv L → mm_Ex xt d mi pc L (st.map jcv) (jaH h) r
def jnl (q : Option jV) : Option jV := match q with
  | some (.inl (.inr _)) => none
  | x => x
def jup (lv : jL) (i : Nat) (v : jV) : jL := fun j => if j = i then some v else if j + 1 = i then jnl (lv j) else lv j
def jup2 (lv : jL) (i : Nat) (v : jV) : jL := fun j => if j = i then some v else if j = i + 1 then none else if j + 1 = i then jnl (lv j) else lv j
theorem mm_get_filter {p : Nat × Value → Bool} : ∀ (L : mm_L) (j : Nat) (v : Value), mm_get L j = some v → (∀ w, mm_get L j = some w → p (j, w) = true) → mm_get (L.filter p) j = some v
  | [], _, _, h, _ => nomatch h
  | (k, w) :: r, j, v, h, hp => by
    simp only [mm_get] at h hp ⊢
    cases hk : Nat.beq k j with
    | true =>
      rw [hk] at h hp
      have hkj : k = j := Nat.eq_of_beq_eq_true hk
      subst hkj
      have := hp w rfl
      rw [List.filter_cons_of_pos this]
      simp only [mm_get, hk]
      exact h
    | false =>
      rw [hk] at h hp
      by_cases hw : p (k, w) = true
      · rw [List.filter_cons_of_pos hw]
        simp only [mm_get, hk]
        exact mm_get_filter r j v h hp
      · rw [List.filter_cons_of_neg hw]
        exact mm_get_filter r j v h hp
theorem jsim_up {lv : jL} {L : mm_L} (h : jsim lv L) (i : Nat) (v : jV) : jsim (jup lv i v) (mm_set1 L i (jcv v)) := by
  intro j w hw
  unfold jup at hw
  unfold mm_set1
  by_cases hj : j = i
  · subst hj
    rw [if_pos rfl] at hw
    cases hw
    simp only [mm_get, Nat.beq_refl]
    rfl
  · rw [if_neg hj] at hw
    have hb : Nat.beq i j = false := by
      cases hq : Nat.beq i j with
      | false => rfl
      | true => exact absurd (Nat.eq_of_beq_eq_true hq).symm hj
    simp only [mm_get, hb]
    by_cases hp : j + 1 = i
    · rw [if_pos hp] at hw
      have hl : lv j = some w := by
        revert hw
        unfold jnl
        split
        · exact fun q => nomatch q
        · exact fun q => q
      refine mm_get_filter L j _ (h j w hl) (fun w' hw' => ?_)
      rw [h j w hl] at hw'
      cases hw'
      have hc : (jcv w).category ≠ 2 := by
        rw [hl] at hw
        match w, hw with
        | .inl (.inl z), _ => exact (by decide : (1 : Nat) ≠ 2)
        | .inr none, _ => exact (by decide : (1 : Nat) ≠ 2)
        | .inr (some a), _ => exact (by decide : (1 : Nat) ≠ 2)
      simp [hj, hc]
    · rw [if_neg hp] at hw
      refine mm_get_filter L j _ (h j w hw) (fun w' _ => ?_)
      simp [hj, hp]
theorem jsim_up2 {lv : jL} {L : mm_L} (h : jsim lv L) (i : Nat) (v : jV) : jsim (jup2 lv i v) (mm_set2 L i (jcv v)) := by
  intro j w hw
  unfold jup2 at hw
  unfold mm_set2
  by_cases hj : j = i
  · subst hj
    rw [if_pos rfl] at hw
    cases hw
    simp only [mm_get, Nat.beq_refl]
    rfl
  · rw [if_neg hj] at hw
    have hb : Nat.beq i j = false := by
      cases hq : Nat.beq i j with
      | false => rfl
      | true => exact absurd (Nat.eq_of_beq_eq_true hq).symm hj
    simp only [mm_get, hb]
    by_cases hn : j = i + 1
    · rw [if_pos hn] at hw
      cases hw
    · rw [if_neg hn] at hw
      by_cases hp : j + 1 = i
      · rw [if_pos hp] at hw
        have hl : lv j = some w := by
          revert hw
          unfold jnl
          split
          · exact fun q => nomatch q
          · exact fun q => q
        refine mm_get_filter L j _ (h j w hl) (fun w' hw' => ?_)
        rw [h j w hl] at hw'
        cases hw'
        have hc : (jcv w).category ≠ 2 := by
          rw [hl] at hw
          match w, hw with
          | .inl (.inl z), _ => exact (by decide : (1 : Nat) ≠ 2)
          | .inr none, _ => exact (by decide : (1 : Nat) ≠ 2)
          | .inr (some a), _ => exact (by decide : (1 : Nat) ≠ 2)
        simp [hj, hc, hn]
      · rw [if_neg hp] at hw
        refine mm_get_filter L j _ (h j w hw) (fun w' _ => ?_)
        simp [hj, hp, hn]
/-- the local ahead of one that was set stays, if it is no long -/
theorem jup_pi {lv : jL} {j : Nat} {v : jV} {z : Int} (h : lv j = some (jI z)) : jup lv (j + 1) v j = some (jI z) := by
  unfold jup
  rw [if_neg (by omega), if_pos rfl, h]
  rfl
theorem jup_pr {lv : jL} {j : Nat} {v : jV} {z : Option Nat} (h : lv j = some (jR z)) : jup lv (j + 1) v j = some (jR z) := by
  unfold jup
  rw [if_neg (by omega), if_pos rfl, h]
  rfl
theorem jup2_pi {lv : jL} {j : Nat} {v : jV} {z : Int} (h : lv j = some (jI z)) : jup2 lv (j + 1) v j = some (jI z) := by
  unfold jup2
  rw [if_neg (by omega), if_neg (by omega), if_pos rfl, h]
  rfl
theorem jup2_pr {lv : jL} {j : Nat} {v : jV} {z : Option Nat} (h : lv j = some (jR z)) : jup2 lv (j + 1) v j = some (jR z) := by
  unfold jup2
  rw [if_neg (by omega), if_neg (by omega), if_pos rfl, h]
  rfl
section JyRules
variable {xt : Nat → Nat × (Nat → Int32)} {d mi pc : Nat} {lv : jL} {st : List jV} {h : jH} {r : mm_R} {t : Nat × Nat × Option FieldType × Nat × Nat × List (Nat × Nat × Nat × Nat)}
/-- a pure instruction that leaves the locals -/
theorem ey_pu {i : Instr × Nat} {pc' : Nat} {st' : List jV} (hc : mm_cd mi pc = some i) (hs : ∀ nL L, mm_pu nL i.1 i.2 pc L (st.map jcv) = some (pc', L, st'.map jcv)) (k : ey xt d mi pc' lv st' h r) : ey xt d mi pc lv st h r :=
  fun L hL => mm_Ex.pu hc (hs _ L) (k L hL)
theorem ey_iconst {n : Int} (hc : mm_cd mi pc = some (.iconst n, 1)) (k : ey xt d mi (pc + 1) lv (jI n :: st) h r) : ey xt d mi pc lv (st) h r :=
  ey_pu (st := st) (st' := jI n :: st) hc (fun nL L => rfl) k
theorem ey_bipush {n : Int} (hc : mm_cd mi pc = some (.bipush n, 2)) (hn : -128 ≤ n ∧ n < 128) (k : ey xt d mi (pc + 2) lv (jI n :: st) h r) : ey xt d mi pc lv (st) h r :=
  ey_pu (st := st) (st' := jI n :: st) hc (fun nL L => by show some (pc + 2, L, Value.int (Int8.ofInt n).toInt32 :: st.map jcv) = _; rw [jbip_s hn]; rfl) k
theorem ey_sipush {n : Int} (hc : mm_cd mi pc = some (.sipush n, 3)) (hn : -32768 ≤ n ∧ n < 32768) (k : ey xt d mi (pc + 3) lv (jI n :: st) h r) : ey xt d mi pc lv (st) h r :=
  ey_pu (st := st) (st' := jI n :: st) hc (fun nL L => by show some (pc + 3, L, Value.int (Int16.ofInt n).toInt32 :: st.map jcv) = _; rw [jsip_s hn]; rfl) k
theorem ey_lconst0  (hc : mm_cd mi pc = some (.lconst 0, 1)) (k : ey xt d mi (pc + 1) lv (jJ 0 :: st) h r) : ey xt d mi pc lv (st) h r :=
  ey_pu (st := st) (st' := jJ 0 :: st) hc (fun nL L => rfl) k
theorem ey_lconst1  (hc : mm_cd mi pc = some (.lconst 1, 1)) (k : ey xt d mi (pc + 1) lv (jJ 1 :: st) h r) : ey xt d mi pc lv (st) h r :=
  ey_pu (st := st) (st' := jJ 1 :: st) hc (fun nL L => rfl) k
theorem ey_null  (hc : mm_cd mi pc = some (.aconst_null, 1)) (k : ey xt d mi (pc + 1) lv (jR none :: st) h r) : ey xt d mi pc lv (st) h r :=
  ey_pu (st := st) (st' := jR none :: st) hc (fun nL L => rfl) k
theorem ey_iadd {x y : Int} (hc : mm_cd mi pc = some (.iadd, 1)) (k : ey xt d mi (pc + 1) lv (jI (x + y) :: st) h r) : ey xt d mi pc lv (jI y :: jI x :: st) h r :=
  ey_pu (st := jI y :: jI x :: st) (st' := jI (x + y) :: st) hc (fun nL L => by show some (pc + 1, L, Value.int (Int32.ofInt x + Int32.ofInt y) :: st.map jcv) = _; rw [← Int32.ofInt_add]; rfl) k
theorem ey_isub {x y : Int} (hc : mm_cd mi pc = some (.isub, 1)) (k : ey xt d mi (pc + 1) lv (jI (x - y) :: st) h r) : ey xt d mi pc lv (jI y :: jI x :: st) h r :=
  ey_pu (st := jI y :: jI x :: st) (st' := jI (x - y) :: st) hc (fun nL L => by show some (pc + 1, L, Value.int (Int32.ofInt x - Int32.ofInt y) :: st.map jcv) = _; rw [← Int32.ofInt_sub]; rfl) k
theorem ey_imul {x y : Int} (hc : mm_cd mi pc = some (.imul, 1)) (k : ey xt d mi (pc + 1) lv (jI (x * y) :: st) h r) : ey xt d mi pc lv (jI y :: jI x :: st) h r :=
  ey_pu (st := jI y :: jI x :: st) (st' := jI (x * y) :: st) hc (fun nL L => by show some (pc + 1, L, Value.int (Int32.ofInt x * Int32.ofInt y) :: st.map jcv) = _; rw [← Int32.ofInt_mul]; rfl) k
theorem ey_iand {x y : Int} (hc : mm_cd mi pc = some (.iand, 1)) (k : ey xt d mi (pc + 1) lv (jI (jand x y) :: st) h r) : ey xt d mi pc lv (jI y :: jI x :: st) h r :=
  ey_pu (st := jI y :: jI x :: st) (st' := jI (jand x y) :: st) hc (fun nL L => by show some (pc + 1, L, Value.int (Int32.ofInt x &&& Int32.ofInt y) :: st.map jcv) = some (pc + 1, L, Value.int (Int32.ofInt (jand x y)) :: st.map jcv); unfold jand; rw [Int32.ofInt_toInt]) k
theorem ey_ior {x y : Int} (hc : mm_cd mi pc = some (.ior, 1)) (k : ey xt d mi (pc + 1) lv (jI (jor x y) :: st) h r) : ey xt d mi pc lv (jI y :: jI x :: st) h r :=
  ey_pu (st := jI y :: jI x :: st) (st' := jI (jor x y) :: st) hc (fun nL L => by show some (pc + 1, L, Value.int (Int32.ofInt x ||| Int32.ofInt y) :: st.map jcv) = some (pc + 1, L, Value.int (Int32.ofInt (jor x y)) :: st.map jcv); unfold jor; rw [Int32.ofInt_toInt]) k
theorem ey_ishl {x y : Int} (hc : mm_cd mi pc = some (.ishl, 1)) (k : ey xt d mi (pc + 1) lv (jI (jshl x y) :: st) h r) : ey xt d mi pc lv (jI y :: jI x :: st) h r :=
  ey_pu (st := jI y :: jI x :: st) (st' := jI (jshl x y) :: st) hc (fun nL L => by show some (pc + 1, L, Value.int (Int32.ofInt x <<< (Int32.ofInt y &&& 31)) :: st.map jcv) = some (pc + 1, L, Value.int (Int32.ofInt (jshl x y)) :: st.map jcv); unfold jshl; rw [Int32.ofInt_toInt]) k
theorem ey_ishr {x y : Int} (hc : mm_cd mi pc = some (.ishr, 1)) (k : ey xt d mi (pc + 1) lv (jI (jshr x y) :: st) h r) : ey xt d mi pc lv (jI y :: jI x :: st) h r :=
  ey_pu (st := jI y :: jI x :: st) (st' := jI (jshr x y) :: st) hc (fun nL L => by show some (pc + 1, L, Value.int (Int32.ofInt x >>> (Int32.ofInt y &&& 31)) :: st.map jcv) = some (pc + 1, L, Value.int (Int32.ofInt (jshr x y)) :: st.map jcv); unfold jshr; rw [Int32.ofInt_toInt]) k
theorem ey_idiv {x y : Int} (hc : mm_cd mi pc = some (.idiv, 1)) (hy : jw y ≠ 0) (k : ey xt d mi (pc + 1) lv (jI (jdiv x y) :: st) h r) : ey xt d mi pc lv (jI y :: jI x :: st) h r :=
  ey_pu (st := jI y :: jI x :: st) (st' := jI (jdiv x y) :: st) hc (fun nL L => by show (if Int32.ofInt y = 0 then none else some (pc + 1, L, Value.int (Int32.ofInt x / Int32.ofInt y) :: st.map jcv)) = some (pc + 1, L, Value.int (Int32.ofInt (jdiv x y)) :: st.map jcv); rw [if_neg (fun q : Int32.ofInt y = 0 => hy ((jq_eq (y := 0)).mp q |>.trans (by decide))), jdiv_s]) k
theorem ey_irem {x y : Int} (hc : mm_cd mi pc = some (.irem, 1)) (hy : jw y ≠ 0) (k : ey xt d mi (pc + 1) lv (jI (jrem x y) :: st) h r) : ey xt d mi pc lv (jI y :: jI x :: st) h r :=
  ey_pu (st := jI y :: jI x :: st) (st' := jI (jrem x y) :: st) hc (fun nL L => by show (if Int32.ofInt y = 0 then none else some (pc + 1, L, Value.int (Int32.ofInt x - Int32.ofInt x / Int32.ofInt y * Int32.ofInt y) :: st.map jcv)) = some (pc + 1, L, Value.int (Int32.ofInt (jrem x y)) :: st.map jcv); rw [if_neg (fun q : Int32.ofInt y = 0 => hy ((jq_eq (y := 0)).mp q |>.trans (by decide))), jrem_s]) k
theorem ey_ineg {x : Int} (hc : mm_cd mi pc = some (.ineg, 1)) (k : ey xt d mi (pc + 1) lv (jI (-x) :: st) h r) : ey xt d mi pc lv (jI x :: st) h r :=
  ey_pu (st := jI x :: st) (st' := jI (-x) :: st) hc (fun nL L => by show some (pc + 1, L, Value.int (-Int32.ofInt x) :: st.map jcv) = _; rw [← Int32.ofInt_neg]; rfl) k
theorem ey_i2b {x : Int} (hc : mm_cd mi pc = some (.i2b, 1)) (k : ey xt d mi (pc + 1) lv (jI (jwb x) :: st) h r) : ey xt d mi pc lv (jI x :: st) h r :=
  ey_pu (st := jI x :: st) (st' := jI (jwb x) :: st) hc (fun nL L => by show some (pc + 1, L, Value.int (Int32.ofInt x).toInt8.toInt32 :: st.map jcv) = _; rw [ji2b_s]; rfl) k
theorem ey_i2l {x : Int} (hc : mm_cd mi pc = some (.i2l, 1)) (k : ey xt d mi (pc + 1) lv (jJ (jw x) :: st) h r) : ey xt d mi pc lv (jI x :: st) h r :=
  ey_pu (st := jI x :: st) (st' := jJ (jw x) :: st) hc (fun nL L => by show some (pc + 1, L, Value.long (Int32.ofInt x).toInt64 :: st.map jcv) = _; rw [ji2l_s]; rfl) k
theorem ey_l2i {x : Int} (hc : mm_cd mi pc = some (.l2i, 1)) (k : ey xt d mi (pc + 1) lv (jI x :: st) h r) : ey xt d mi pc lv (jJ x :: st) h r :=
  ey_pu (st := jJ x :: st) (st' := jI x :: st) hc (fun nL L => by show some (pc + 1, L, Value.int (Int64.ofInt x).toInt32 :: st.map jcv) = _; rw [jl2i_s]; rfl) k
theorem ey_ladd {x y : Int} (hc : mm_cd mi pc = some (.ladd, 1)) (k : ey xt d mi (pc + 1) lv (jJ (x + y) :: st) h r) : ey xt d mi pc lv (jJ y :: jJ x :: st) h r :=
  ey_pu (st := jJ y :: jJ x :: st) (st' := jJ (x + y) :: st) hc (fun nL L => by show some (pc + 1, L, Value.long (Int64.ofInt x + Int64.ofInt y) :: st.map jcv) = _; rw [← Int64.ofInt_add]; rfl) k
theorem ey_lsub {x y : Int} (hc : mm_cd mi pc = some (.lsub, 1)) (k : ey xt d mi (pc + 1) lv (jJ (x - y) :: st) h r) : ey xt d mi pc lv (jJ y :: jJ x :: st) h r :=
  ey_pu (st := jJ y :: jJ x :: st) (st' := jJ (x - y) :: st) hc (fun nL L => by show some (pc + 1, L, Value.long (Int64.ofInt x - Int64.ofInt y) :: st.map jcv) = _; rw [← Int64.ofInt_sub]; rfl) k
theorem ey_lmul {x y : Int} (hc : mm_cd mi pc = some (.lmul, 1)) (k : ey xt d mi (pc + 1) lv (jJ (x * y) :: st) h r) : ey xt d mi pc lv (jJ y :: jJ x :: st) h r :=
  ey_pu (st := jJ y :: jJ x :: st) (st' := jJ (x * y) :: st) hc (fun nL L => by show some (pc + 1, L, Value.long (Int64.ofInt x * Int64.ofInt y) :: st.map jcv) = _; rw [← Int64.ofInt_mul]; rfl) k
theorem ey_land {x y : Int} (hc : mm_cd mi pc = some (.land, 1)) (k : ey xt d mi (pc + 1) lv (jJ (jland x y) :: st) h r) : ey xt d mi pc lv (jJ y :: jJ x :: st) h r :=
  ey_pu (st := jJ y :: jJ x :: st) (st' := jJ (jland x y) :: st) hc (fun nL L => by show some (pc + 1, L, Value.long (Int64.ofInt x &&& Int64.ofInt y) :: st.map jcv) = some (pc + 1, L, Value.long (Int64.ofInt (jland x y)) :: st.map jcv); unfold jland; rw [Int64.ofInt_toInt]) k
theorem ey_lor {x y : Int} (hc : mm_cd mi pc = some (.lor, 1)) (k : ey xt d mi (pc + 1) lv (jJ (jlor x y) :: st) h r) : ey xt d mi pc lv (jJ y :: jJ x :: st) h r :=
  ey_pu (st := jJ y :: jJ x :: st) (st' := jJ (jlor x y) :: st) hc (fun nL L => by show some (pc + 1, L, Value.long (Int64.ofInt x ||| Int64.ofInt y) :: st.map jcv) = some (pc + 1, L, Value.long (Int64.ofInt (jlor x y)) :: st.map jcv); unfold jlor; rw [Int64.ofInt_toInt]) k
theorem ey_lshl {x y : Int} (hc : mm_cd mi pc = some (.lshl, 1)) (k : ey xt d mi (pc + 1) lv (jJ (jlshl x y) :: st) h r) : ey xt d mi pc lv (jI y :: jJ x :: st) h r :=
  ey_pu (st := jI y :: jJ x :: st) (st' := jJ (jlshl x y) :: st) hc (fun nL L => by show some (pc + 1, L, Value.long (Int64.ofInt x <<< ((Int32.ofInt y).toInt64 &&& 63)) :: st.map jcv) = some (pc + 1, L, Value.long (Int64.ofInt (jlshl x y)) :: st.map jcv); unfold jlshl; rw [Int64.ofInt_toInt]) k
theorem ey_lushr {x y : Int} (hc : mm_cd mi pc = some (.lushr, 1)) (k : ey xt d mi (pc + 1) lv (jJ (jlushr x y) :: st) h r) : ey xt d mi pc lv (jI y :: jJ x :: st) h r :=
  ey_pu (st := jI y :: jJ x :: st) (st' := jJ (jlushr x y) :: st) hc (fun nL L => by show some (pc + 1, L, Value.long (((Int64.ofInt x).toUInt64 >>> ((Int32.ofInt y).toInt64.toUInt64 &&& Int64.toUInt64 63)).toInt64) :: st.map jcv) = some (pc + 1, L, Value.long (Int64.ofInt (jlushr x y)) :: st.map jcv); unfold jlushr; rw [Int64.ofInt_toInt]) k
theorem ey_lrem {x y : Int} (hc : mm_cd mi pc = some (.lrem, 1)) (hy : jwl y ≠ 0) (k : ey xt d mi (pc + 1) lv (jJ (jlrem x y) :: st) h r) : ey xt d mi pc lv (jJ y :: jJ x :: st) h r :=
  ey_pu (st := jJ y :: jJ x :: st) (st' := jJ (jlrem x y) :: st) hc (fun nL L => by show (if Int64.ofInt y = 0 then none else some (pc + 1, L, Value.long (Int64.ofInt x - Int64.ofInt x / Int64.ofInt y * Int64.ofInt y) :: st.map jcv)) = some (pc + 1, L, Value.long (Int64.ofInt (jlrem x y)) :: st.map jcv); rw [if_neg (fun q : Int64.ofInt y = 0 => hy ((jl_eq (y := 0)).mp q |>.trans (by decide)))]; unfold jlrem; rw [Int64.ofInt_toInt]) k
theorem ey_lcmp {x y : Int} (hc : mm_cd mi pc = some (.lcmp, 1)) (k : ey xt d mi (pc + 1) lv (jI (jlcmp x y) :: st) h r) : ey xt d mi pc lv (jJ y :: jJ x :: st) h r :=
  ey_pu (st := jJ y :: jJ x :: st) (st' := jI (jlcmp x y) :: st) hc (fun nL L => by show some (pc + 1, L, Value.int (lg_cmp (Int64.ofInt x) (Int64.ofInt y)) :: st.map jcv) = _; rw [jlcmp_s]; rfl) k
def jc1 : jV → Bool
  | .inl (.inr _) => false
  | _ => true
theorem jc1_s {v : jV} (h : jc1 v = true) : (jcv v).category = 1 := by
  match v, h with
  | .inl (.inl z), _ => rfl
  | .inr none, _ => rfl
  | .inr (some a), _ => rfl
theorem ey_dup {v : jV} (hc : mm_cd mi pc = some (.dup, 1)) (hv : jc1 v = true) (k : ey xt d mi (pc + 1) lv (v :: v :: st) h r) : ey xt d mi pc lv (v :: st) h r :=
  ey_pu (st := v :: st) (st' := v :: v :: st) hc (fun nL L => by show (bif Nat.beq 1 1 && Nat.beq (jcv v).category 1 then some (pc + 1, L, jcv v :: jcv v :: st.map jcv) else none) = _; rw [jc1_s hv]; rfl) k
theorem ey_pop {v : jV} (hc : mm_cd mi pc = some (.pop, 1)) (hv : jc1 v = true) (k : ey xt d mi (pc + 1) lv (st) h r) : ey xt d mi pc lv (v :: st) h r :=
  ey_pu (st := v :: st) (st' := st) hc (fun nL L => by show (bif Nat.beq 1 1 && Nat.beq (jcv v).category 1 then some (pc + 1, L, st.map jcv) else none) = _; rw [jc1_s hv]; rfl) k
theorem ey_dupx1 {v w : jV} (hc : mm_cd mi pc = some (.dup_x1, 1)) (hv : jc1 v = true) (hw : jc1 w = true) (k : ey xt d mi (pc + 1) lv (v :: w :: v :: st) h r) : ey xt d mi pc lv (v :: w :: st) h r :=
  ey_pu (st := v :: w :: st) (st' := v :: w :: v :: st) hc (fun nL L => by show (bif Nat.beq 1 1 && (Nat.beq (jcv v).category 1 && Nat.beq (jcv w).category 1) then some (pc + 1, L, jcv v :: jcv w :: jcv v :: st.map jcv) else none) = _; rw [jc1_s hv, jc1_s hw]; rfl) k
theorem ey_dup2 {v w : jV} (hc : mm_cd mi pc = some (.dup2, 1)) (hv : jc1 v = true) (hw : jc1 w = true) (k : ey xt d mi (pc + 1) lv (v :: w :: v :: w :: st) h r) : ey xt d mi pc lv (v :: w :: st) h r :=
  ey_pu (st := v :: w :: st) (st' := v :: w :: v :: w :: st) hc (fun nL L => by show (bif Nat.beq 1 1 && (Nat.beq (jcv v).category 1 && Nat.beq (jcv w).category 1) then some (pc + 1, L, jcv v :: jcv w :: jcv v :: jcv w :: st.map jcv) else none) = _; rw [jc1_s hv, jc1_s hw]; rfl) k
theorem ey_iload {i : Nat} {z : Int} (hc : mm_cd mi pc = some (.iload i, 2)) (hv : lv i = some (jI z)) (k : ey xt d mi (pc + 2) lv (jI z :: st) h r) : ey xt d mi pc lv st h r :=
  fun L hL => mm_Ex.pu (q := (pc + 2, L, jcv (jI z) :: st.map jcv)) hc (by simp only [mm_pu, mm_load, hL i _ hv]; rfl) (k L hL)
theorem ey_iload_n {i : Fin 4} {z : Int} (hc : mm_cd mi pc = some (.iload_n i, 1)) (hv : lv i = some (jI z)) (k : ey xt d mi (pc + 1) lv (jI z :: st) h r) : ey xt d mi pc lv st h r :=
  fun L hL => mm_Ex.pu (q := (pc + 1, L, jcv (jI z) :: st.map jcv)) hc (by simp only [mm_pu, mm_load, hL i _ hv]; rfl) (k L hL)
theorem ey_lload {i : Nat} {z : Int} (hc : mm_cd mi pc = some (.lload i, 2)) (hv : lv i = some (jJ z)) (k : ey xt d mi (pc + 2) lv (jJ z :: st) h r) : ey xt d mi pc lv st h r :=
  fun L hL => mm_Ex.pu (q := (pc + 2, L, jcv (jJ z) :: st.map jcv)) hc (by simp only [mm_pu, mm_load, hL i _ hv]; rfl) (k L hL)
theorem ey_lload_n {i : Fin 4} {z : Int} (hc : mm_cd mi pc = some (.lload_n i, 1)) (hv : lv i = some (jJ z)) (k : ey xt d mi (pc + 1) lv (jJ z :: st) h r) : ey xt d mi pc lv st h r :=
  fun L hL => mm_Ex.pu (q := (pc + 1, L, jcv (jJ z) :: st.map jcv)) hc (by simp only [mm_pu, mm_load, hL i _ hv]; rfl) (k L hL)
theorem ey_aload {i : Nat} {z : Option Nat} (hc : mm_cd mi pc = some (.aload i, 2)) (hv : lv i = some (jR z)) (k : ey xt d mi (pc + 2) lv (jR z :: st) h r) : ey xt d mi pc lv st h r :=
  fun L hL => mm_Ex.pu (q := (pc + 2, L, jcv (jR z) :: st.map jcv)) hc (by simp only [mm_pu, mm_load, hL i _ hv]; cases z <;> rfl) (k L hL)
theorem ey_aload_n {i : Fin 4} {z : Option Nat} (hc : mm_cd mi pc = some (.aload_n i, 1)) (hv : lv i = some (jR z)) (k : ey xt d mi (pc + 1) lv (jR z :: st) h r) : ey xt d mi pc lv st h r :=
  fun L hL => mm_Ex.pu (q := (pc + 1, L, jcv (jR z) :: st.map jcv)) hc (by simp only [mm_pu, mm_load, hL i _ hv]; cases z <;> rfl) (k L hL)
theorem ey_istore {i : Nat} {z : Int} (hc : mm_cd mi pc = some (.istore i, 2)) (hm : mm_MT mi = t) (hi : Nat.blt i t.2.1 = true) (k : ey xt d mi (pc + 2) (jup lv i (jI z)) st h r) : ey xt d mi pc lv (jI z :: st) h r :=
  fun L hL => mm_Ex.pu (q := (pc + 2, mm_set1 L i (jcv (jI z)), st.map jcv)) hc (by rw [hm]; show (bif Nat.beq 2 2 && Nat.blt i t.2.1 then some (pc + 2, mm_set1 L i (jcv (jI z)), st.map jcv) else none) = _; rw [hi]; rfl) (k _ (jsim_up hL i _))
theorem ey_istore_n {i : Fin 4} {z : Int} (hc : mm_cd mi pc = some (.istore_n i, 1)) (hm : mm_MT mi = t) (hi : Nat.blt i t.2.1 = true) (k : ey xt d mi (pc + 1) (jup lv i (jI z)) st h r) : ey xt d mi pc lv (jI z :: st) h r :=
  fun L hL => mm_Ex.pu (q := (pc + 1, mm_set1 L i (jcv (jI z)), st.map jcv)) hc (by rw [hm]; show (bif Nat.beq 1 1 && Nat.blt i t.2.1 then some (pc + 1, mm_set1 L i (jcv (jI z)), st.map jcv) else none) = _; rw [hi]; rfl) (k _ (jsim_up hL i _))
theorem ey_astore {i : Nat} {z : Option Nat} (hc : mm_cd mi pc = some (.astore i, 2)) (hm : mm_MT mi = t) (hi : Nat.blt i t.2.1 = true) (k : ey xt d mi (pc + 2) (jup lv i (jR z)) st h r) : ey xt d mi pc lv (jR z :: st) h r :=
  fun L hL => mm_Ex.pu (q := (pc + 2, mm_set1 L i (jcv (jR z)), st.map jcv)) hc (by rw [hm]; cases z <;> (simp only [mm_pu, mm_store1, List.map_cons, hi]; rfl)) (k _ (jsim_up hL i _))
theorem ey_astore_n {i : Fin 4} {z : Option Nat} (hc : mm_cd mi pc = some (.astore_n i, 1)) (hm : mm_MT mi = t) (hi : Nat.blt i t.2.1 = true) (k : ey xt d mi (pc + 1) (jup lv i (jR z)) st h r) : ey xt d mi pc lv (jR z :: st) h r :=
  fun L hL => mm_Ex.pu (q := (pc + 1, mm_set1 L i (jcv (jR z)), st.map jcv)) hc (by rw [hm]; cases z <;> (simp only [mm_pu, mm_store1, List.map_cons, hi]; rfl)) (k _ (jsim_up hL i _))
theorem ey_lstore {i : Nat} {z : Int} (hc : mm_cd mi pc = some (.lstore i, 2)) (hm : mm_MT mi = t) (hi : Nat.blt (i + 1) t.2.1 = true) (k : ey xt d mi (pc + 2) (jup2 lv i (jJ z)) st h r) : ey xt d mi pc lv (jJ z :: st) h r :=
  fun L hL => mm_Ex.pu (q := (pc + 2, mm_set2 L i (jcv (jJ z)), st.map jcv)) hc (by rw [hm]; show (bif Nat.beq 2 2 && Nat.blt (i + 1) t.2.1 then some (pc + 2, mm_set2 L i (jcv (jJ z)), st.map jcv) else none) = _; rw [hi]; rfl) (k _ (jsim_up2 hL i _))
theorem ey_lstore_n {i : Fin 4} {z : Int} (hc : mm_cd mi pc = some (.lstore_n i, 1)) (hm : mm_MT mi = t) (hi : Nat.blt (i + 1) t.2.1 = true) (k : ey xt d mi (pc + 1) (jup2 lv i (jJ z)) st h r) : ey xt d mi pc lv (jJ z :: st) h r :=
  fun L hL => mm_Ex.pu (q := (pc + 1, mm_set2 L i (jcv (jJ z)), st.map jcv)) hc (by rw [hm]; show (bif Nat.beq 1 1 && Nat.blt (i + 1) t.2.1 then some (pc + 1, mm_set2 L i (jcv (jJ z)), st.map jcv) else none) = _; rw [hi]; rfl) (k _ (jsim_up2 hL i _))
theorem ey_iinc {i : Nat} {n z : Int} (hc : mm_cd mi pc = some (.iinc i n, 3)) (hm : mm_MT mi = t) (hi : Nat.blt i t.2.1 = true) (hv : lv i = some (jI z)) (k : ey xt d mi (pc + 3) (jup lv i (jI (z + n))) st h r) : ey xt d mi pc lv st h r :=
  fun L hL => mm_Ex.pu (q := (pc + 3, mm_set1 L i (jcv (jI (z + n))), st.map jcv)) hc (by rw [hm]; simp only [mm_pu, mm_iinc, hi, hL i _ hv, jcv, Int32.ofInt_add]; rfl) (k _ (jsim_up hL i _))
theorem ey_goto {off : Int} {p : Nat} (hc : mm_cd mi pc = some (.goto off, 3)) (ht : mm_to pc off = some p) (k : ey xt d mi p lv st h r) : ey xt d mi pc lv st h r :=
  ey_pu (st' := st) hc (fun nL L => by show (match mm_to pc off with | some t => some (t, L, st.map jcv) | none => none) = _; rw [ht]) k
theorem jq_ceq {x y : Int} : mm_icc .eq (Int32.ofInt x) (Int32.ofInt y) = decide (jw x = jw y) := by
  simp only [mm_icc, jq_eq, jq_lt, jq_le, decide_not]
theorem ey_ceq {off : Int} {p : Nat} {x y x1 y1 : Int} (hc : mm_cd mi pc = some (.if_icmp .eq off, 3)) (ht : mm_to pc off = some p) (hx : jw x = x1) (hy : jw y = y1) (q : x1 = y1) (k : ey xt d mi p lv st h r) : ey xt d mi pc lv (jI y :: jI x :: st) h r := by
  subst hx hy
  exact ey_pu (st := jI y :: jI x :: st) (st' := st) hc (fun nL L => by show mm_br 3 pc off L (st.map jcv) (mm_icc .eq (Int32.ofInt x) (Int32.ofInt y)) = _; rw [jq_ceq, decide_eq_true q]; simp only [mm_br, ht]; rfl) k
theorem ey_neq {off : Int} {p : Nat} {x y x1 y1 : Int} (hc : mm_cd mi pc = some (.if_icmp .eq off, 3)) (ht : mm_to pc off = some p) (hx : jw x = x1) (hy : jw y = y1) (q : ¬ (x1 = y1)) (k : ey xt d mi (pc + 3) lv st h r) : ey xt d mi pc lv (jI y :: jI x :: st) h r := by
  subst hx hy
  exact ey_pu (st := jI y :: jI x :: st) (st' := st) hc (fun nL L => by show mm_br 3 pc off L (st.map jcv) (mm_icc .eq (Int32.ofInt x) (Int32.ofInt y)) = _; rw [jq_ceq, decide_eq_false q]; simp only [mm_br, ht]; rfl) k
theorem jq_zeq {x : Int} : mm_ifc .eq (Int32.ofInt x) = decide (jw x = 0) := by
  have h0 : jw 0 = 0 := by decide
  have := jq_ceq (x := x) (y := 0)
  rw [h0] at this
  exact this
theorem ey_zeq {off : Int} {p : Nat} {x x1 : Int} (hc : mm_cd mi pc = some (.ifCond .eq off, 3)) (ht : mm_to pc off = some p) (hx : jw x = x1) (q : x1 = 0) (k : ey xt d mi p lv st h r) : ey xt d mi pc lv (jI x :: st) h r := by
  subst hx
  exact ey_pu (st := jI x :: st) (st' := st) hc (fun nL L => by show mm_br 3 pc off L (st.map jcv) (mm_ifc .eq (Int32.ofInt x)) = _; rw [jq_zeq, decide_eq_true q]; simp only [mm_br, ht]; rfl) k
theorem ey_yeq {off : Int} {p : Nat} {x x1 : Int} (hc : mm_cd mi pc = some (.ifCond .eq off, 3)) (ht : mm_to pc off = some p) (hx : jw x = x1) (q : ¬ (x1 = 0)) (k : ey xt d mi (pc + 3) lv st h r) : ey xt d mi pc lv (jI x :: st) h r := by
  subst hx
  exact ey_pu (st := jI x :: st) (st' := st) hc (fun nL L => by show mm_br 3 pc off L (st.map jcv) (mm_ifc .eq (Int32.ofInt x)) = _; rw [jq_zeq, decide_eq_false q]; simp only [mm_br, ht]; rfl) k
theorem jq_cne {x y : Int} : mm_icc .ne (Int32.ofInt x) (Int32.ofInt y) = decide (¬ jw x = jw y) := by
  simp only [mm_icc, jq_eq, jq_lt, jq_le, decide_not]
theorem ey_cne {off : Int} {p : Nat} {x y x1 y1 : Int} (hc : mm_cd mi pc = some (.if_icmp .ne off, 3)) (ht : mm_to pc off = some p) (hx : jw x = x1) (hy : jw y = y1) (q : ¬ x1 = y1) (k : ey xt d mi p lv st h r) : ey xt d mi pc lv (jI y :: jI x :: st) h r := by
  subst hx hy
  exact ey_pu (st := jI y :: jI x :: st) (st' := st) hc (fun nL L => by show mm_br 3 pc off L (st.map jcv) (mm_icc .ne (Int32.ofInt x) (Int32.ofInt y)) = _; rw [jq_cne, decide_eq_true q]; simp only [mm_br, ht]; rfl) k
theorem ey_nne {off : Int} {p : Nat} {x y x1 y1 : Int} (hc : mm_cd mi pc = some (.if_icmp .ne off, 3)) (ht : mm_to pc off = some p) (hx : jw x = x1) (hy : jw y = y1) (q : ¬ (¬ x1 = y1)) (k : ey xt d mi (pc + 3) lv st h r) : ey xt d mi pc lv (jI y :: jI x :: st) h r := by
  subst hx hy
  exact ey_pu (st := jI y :: jI x :: st) (st' := st) hc (fun nL L => by show mm_br 3 pc off L (st.map jcv) (mm_icc .ne (Int32.ofInt x) (Int32.ofInt y)) = _; rw [jq_cne, decide_eq_false q]; simp only [mm_br, ht]; rfl) k
theorem jq_zne {x : Int} : mm_ifc .ne (Int32.ofInt x) = decide (¬ jw x = 0) := by
  have h0 : jw 0 = 0 := by decide
  have := jq_cne (x := x) (y := 0)
  rw [h0] at this
  exact this
theorem ey_zne {off : Int} {p : Nat} {x x1 : Int} (hc : mm_cd mi pc = some (.ifCond .ne off, 3)) (ht : mm_to pc off = some p) (hx : jw x = x1) (q : ¬ x1 = 0) (k : ey xt d mi p lv st h r) : ey xt d mi pc lv (jI x :: st) h r := by
  subst hx
  exact ey_pu (st := jI x :: st) (st' := st) hc (fun nL L => by show mm_br 3 pc off L (st.map jcv) (mm_ifc .ne (Int32.ofInt x)) = _; rw [jq_zne, decide_eq_true q]; simp only [mm_br, ht]; rfl) k
theorem ey_yne {off : Int} {p : Nat} {x x1 : Int} (hc : mm_cd mi pc = some (.ifCond .ne off, 3)) (ht : mm_to pc off = some p) (hx : jw x = x1) (q : ¬ (¬ x1 = 0)) (k : ey xt d mi (pc + 3) lv st h r) : ey xt d mi pc lv (jI x :: st) h r := by
  subst hx
  exact ey_pu (st := jI x :: st) (st' := st) hc (fun nL L => by show mm_br 3 pc off L (st.map jcv) (mm_ifc .ne (Int32.ofInt x)) = _; rw [jq_zne, decide_eq_false q]; simp only [mm_br, ht]; rfl) k
theorem jq_clt {x y : Int} : mm_icc .lt (Int32.ofInt x) (Int32.ofInt y) = decide (jw x < jw y) := by
  simp only [mm_icc, jq_eq, jq_lt, jq_le, decide_not]
theorem ey_clt {off : Int} {p : Nat} {x y x1 y1 : Int} (hc : mm_cd mi pc = some (.if_icmp .lt off, 3)) (ht : mm_to pc off = some p) (hx : jw x = x1) (hy : jw y = y1) (q : x1 < y1) (k : ey xt d mi p lv st h r) : ey xt d mi pc lv (jI y :: jI x :: st) h r := by
  subst hx hy
  exact ey_pu (st := jI y :: jI x :: st) (st' := st) hc (fun nL L => by show mm_br 3 pc off L (st.map jcv) (mm_icc .lt (Int32.ofInt x) (Int32.ofInt y)) = _; rw [jq_clt, decide_eq_true q]; simp only [mm_br, ht]; rfl) k
theorem ey_nlt {off : Int} {p : Nat} {x y x1 y1 : Int} (hc : mm_cd mi pc = some (.if_icmp .lt off, 3)) (ht : mm_to pc off = some p) (hx : jw x = x1) (hy : jw y = y1) (q : ¬ (x1 < y1)) (k : ey xt d mi (pc + 3) lv st h r) : ey xt d mi pc lv (jI y :: jI x :: st) h r := by
  subst hx hy
  exact ey_pu (st := jI y :: jI x :: st) (st' := st) hc (fun nL L => by show mm_br 3 pc off L (st.map jcv) (mm_icc .lt (Int32.ofInt x) (Int32.ofInt y)) = _; rw [jq_clt, decide_eq_false q]; simp only [mm_br, ht]; rfl) k
theorem jq_zlt {x : Int} : mm_ifc .lt (Int32.ofInt x) = decide (jw x < 0) := by
  have h0 : jw 0 = 0 := by decide
  have := jq_clt (x := x) (y := 0)
  rw [h0] at this
  exact this
theorem ey_zlt {off : Int} {p : Nat} {x x1 : Int} (hc : mm_cd mi pc = some (.ifCond .lt off, 3)) (ht : mm_to pc off = some p) (hx : jw x = x1) (q : x1 < 0) (k : ey xt d mi p lv st h r) : ey xt d mi pc lv (jI x :: st) h r := by
  subst hx
  exact ey_pu (st := jI x :: st) (st' := st) hc (fun nL L => by show mm_br 3 pc off L (st.map jcv) (mm_ifc .lt (Int32.ofInt x)) = _; rw [jq_zlt, decide_eq_true q]; simp only [mm_br, ht]; rfl) k
theorem ey_ylt {off : Int} {p : Nat} {x x1 : Int} (hc : mm_cd mi pc = some (.ifCond .lt off, 3)) (ht : mm_to pc off = some p) (hx : jw x = x1) (q : ¬ (x1 < 0)) (k : ey xt d mi (pc + 3) lv st h r) : ey xt d mi pc lv (jI x :: st) h r := by
  subst hx
  exact ey_pu (st := jI x :: st) (st' := st) hc (fun nL L => by show mm_br 3 pc off L (st.map jcv) (mm_ifc .lt (Int32.ofInt x)) = _; rw [jq_zlt, decide_eq_false q]; simp only [mm_br, ht]; rfl) k
theorem jq_cge {x y : Int} : mm_icc .ge (Int32.ofInt x) (Int32.ofInt y) = decide (jw y ≤ jw x) := by
  simp only [mm_icc, jq_eq, jq_lt, jq_le, decide_not]
theorem ey_cge {off : Int} {p : Nat} {x y x1 y1 : Int} (hc : mm_cd mi pc = some (.if_icmp .ge off, 3)) (ht : mm_to pc off = some p) (hx : jw x = x1) (hy : jw y = y1) (q : y1 ≤ x1) (k : ey xt d mi p lv st h r) : ey xt d mi pc lv (jI y :: jI x :: st) h r := by
  subst hx hy
  exact ey_pu (st := jI y :: jI x :: st) (st' := st) hc (fun nL L => by show mm_br 3 pc off L (st.map jcv) (mm_icc .ge (Int32.ofInt x) (Int32.ofInt y)) = _; rw [jq_cge, decide_eq_true q]; simp only [mm_br, ht]; rfl) k
theorem ey_nge {off : Int} {p : Nat} {x y x1 y1 : Int} (hc : mm_cd mi pc = some (.if_icmp .ge off, 3)) (ht : mm_to pc off = some p) (hx : jw x = x1) (hy : jw y = y1) (q : ¬ (y1 ≤ x1)) (k : ey xt d mi (pc + 3) lv st h r) : ey xt d mi pc lv (jI y :: jI x :: st) h r := by
  subst hx hy
  exact ey_pu (st := jI y :: jI x :: st) (st' := st) hc (fun nL L => by show mm_br 3 pc off L (st.map jcv) (mm_icc .ge (Int32.ofInt x) (Int32.ofInt y)) = _; rw [jq_cge, decide_eq_false q]; simp only [mm_br, ht]; rfl) k
theorem jq_zge {x : Int} : mm_ifc .ge (Int32.ofInt x) = decide (0 ≤ jw x) := by
  have h0 : jw 0 = 0 := by decide
  have := jq_cge (x := x) (y := 0)
  rw [h0] at this
  exact this
theorem ey_zge {off : Int} {p : Nat} {x x1 : Int} (hc : mm_cd mi pc = some (.ifCond .ge off, 3)) (ht : mm_to pc off = some p) (hx : jw x = x1) (q : 0 ≤ x1) (k : ey xt d mi p lv st h r) : ey xt d mi pc lv (jI x :: st) h r := by
  subst hx
  exact ey_pu (st := jI x :: st) (st' := st) hc (fun nL L => by show mm_br 3 pc off L (st.map jcv) (mm_ifc .ge (Int32.ofInt x)) = _; rw [jq_zge, decide_eq_true q]; simp only [mm_br, ht]; rfl) k
theorem ey_yge {off : Int} {p : Nat} {x x1 : Int} (hc : mm_cd mi pc = some (.ifCond .ge off, 3)) (ht : mm_to pc off = some p) (hx : jw x = x1) (q : ¬ (0 ≤ x1)) (k : ey xt d mi (pc + 3) lv st h r) : ey xt d mi pc lv (jI x :: st) h r := by
  subst hx
  exact ey_pu (st := jI x :: st) (st' := st) hc (fun nL L => by show mm_br 3 pc off L (st.map jcv) (mm_ifc .ge (Int32.ofInt x)) = _; rw [jq_zge, decide_eq_false q]; simp only [mm_br, ht]; rfl) k
theorem jq_cgt {x y : Int} : mm_icc .gt (Int32.ofInt x) (Int32.ofInt y) = decide (jw y < jw x) := by
  simp only [mm_icc, jq_eq, jq_lt, jq_le, decide_not]
theorem ey_cgt {off : Int} {p : Nat} {x y x1 y1 : Int} (hc : mm_cd mi pc = some (.if_icmp .gt off, 3)) (ht : mm_to pc off = some p) (hx : jw x = x1) (hy : jw y = y1) (q : y1 < x1) (k : ey xt d mi p lv st h r) : ey xt d mi pc lv (jI y :: jI x :: st) h r := by
  subst hx hy
  exact ey_pu (st := jI y :: jI x :: st) (st' := st) hc (fun nL L => by show mm_br 3 pc off L (st.map jcv) (mm_icc .gt (Int32.ofInt x) (Int32.ofInt y)) = _; rw [jq_cgt, decide_eq_true q]; simp only [mm_br, ht]; rfl) k
theorem ey_ngt {off : Int} {p : Nat} {x y x1 y1 : Int} (hc : mm_cd mi pc = some (.if_icmp .gt off, 3)) (ht : mm_to pc off = some p) (hx : jw x = x1) (hy : jw y = y1) (q : ¬ (y1 < x1)) (k : ey xt d mi (pc + 3) lv st h r) : ey xt d mi pc lv (jI y :: jI x :: st) h r := by
  subst hx hy
  exact ey_pu (st := jI y :: jI x :: st) (st' := st) hc (fun nL L => by show mm_br 3 pc off L (st.map jcv) (mm_icc .gt (Int32.ofInt x) (Int32.ofInt y)) = _; rw [jq_cgt, decide_eq_false q]; simp only [mm_br, ht]; rfl) k
theorem jq_zgt {x : Int} : mm_ifc .gt (Int32.ofInt x) = decide (0 < jw x) := by
  have h0 : jw 0 = 0 := by decide
  have := jq_cgt (x := x) (y := 0)
  rw [h0] at this
  exact this
theorem ey_zgt {off : Int} {p : Nat} {x x1 : Int} (hc : mm_cd mi pc = some (.ifCond .gt off, 3)) (ht : mm_to pc off = some p) (hx : jw x = x1) (q : 0 < x1) (k : ey xt d mi p lv st h r) : ey xt d mi pc lv (jI x :: st) h r := by
  subst hx
  exact ey_pu (st := jI x :: st) (st' := st) hc (fun nL L => by show mm_br 3 pc off L (st.map jcv) (mm_ifc .gt (Int32.ofInt x)) = _; rw [jq_zgt, decide_eq_true q]; simp only [mm_br, ht]; rfl) k
theorem ey_ygt {off : Int} {p : Nat} {x x1 : Int} (hc : mm_cd mi pc = some (.ifCond .gt off, 3)) (ht : mm_to pc off = some p) (hx : jw x = x1) (q : ¬ (0 < x1)) (k : ey xt d mi (pc + 3) lv st h r) : ey xt d mi pc lv (jI x :: st) h r := by
  subst hx
  exact ey_pu (st := jI x :: st) (st' := st) hc (fun nL L => by show mm_br 3 pc off L (st.map jcv) (mm_ifc .gt (Int32.ofInt x)) = _; rw [jq_zgt, decide_eq_false q]; simp only [mm_br, ht]; rfl) k
theorem jq_cle {x y : Int} : mm_icc .le (Int32.ofInt x) (Int32.ofInt y) = decide (jw x ≤ jw y) := by
  simp only [mm_icc, jq_eq, jq_lt, jq_le, decide_not]
theorem ey_cle {off : Int} {p : Nat} {x y x1 y1 : Int} (hc : mm_cd mi pc = some (.if_icmp .le off, 3)) (ht : mm_to pc off = some p) (hx : jw x = x1) (hy : jw y = y1) (q : x1 ≤ y1) (k : ey xt d mi p lv st h r) : ey xt d mi pc lv (jI y :: jI x :: st) h r := by
  subst hx hy
  exact ey_pu (st := jI y :: jI x :: st) (st' := st) hc (fun nL L => by show mm_br 3 pc off L (st.map jcv) (mm_icc .le (Int32.ofInt x) (Int32.ofInt y)) = _; rw [jq_cle, decide_eq_true q]; simp only [mm_br, ht]; rfl) k
theorem ey_nle {off : Int} {p : Nat} {x y x1 y1 : Int} (hc : mm_cd mi pc = some (.if_icmp .le off, 3)) (ht : mm_to pc off = some p) (hx : jw x = x1) (hy : jw y = y1) (q : ¬ (x1 ≤ y1)) (k : ey xt d mi (pc + 3) lv st h r) : ey xt d mi pc lv (jI y :: jI x :: st) h r := by
  subst hx hy
  exact ey_pu (st := jI y :: jI x :: st) (st' := st) hc (fun nL L => by show mm_br 3 pc off L (st.map jcv) (mm_icc .le (Int32.ofInt x) (Int32.ofInt y)) = _; rw [jq_cle, decide_eq_false q]; simp only [mm_br, ht]; rfl) k
theorem jq_zle {x : Int} : mm_ifc .le (Int32.ofInt x) = decide (jw x ≤ 0) := by
  have h0 : jw 0 = 0 := by decide
  have := jq_cle (x := x) (y := 0)
  rw [h0] at this
  exact this
theorem ey_zle {off : Int} {p : Nat} {x x1 : Int} (hc : mm_cd mi pc = some (.ifCond .le off, 3)) (ht : mm_to pc off = some p) (hx : jw x = x1) (q : x1 ≤ 0) (k : ey xt d mi p lv st h r) : ey xt d mi pc lv (jI x :: st) h r := by
  subst hx
  exact ey_pu (st := jI x :: st) (st' := st) hc (fun nL L => by show mm_br 3 pc off L (st.map jcv) (mm_ifc .le (Int32.ofInt x)) = _; rw [jq_zle, decide_eq_true q]; simp only [mm_br, ht]; rfl) k
theorem ey_yle {off : Int} {p : Nat} {x x1 : Int} (hc : mm_cd mi pc = some (.ifCond .le off, 3)) (ht : mm_to pc off = some p) (hx : jw x = x1) (q : ¬ (x1 ≤ 0)) (k : ey xt d mi (pc + 3) lv st h r) : ey xt d mi pc lv (jI x :: st) h r := by
  subst hx
  exact ey_pu (st := jI x :: st) (st' := st) hc (fun nL L => by show mm_br 3 pc off L (st.map jcv) (mm_ifc .le (Int32.ofInt x)) = _; rw [jq_zle, decide_eq_false q]; simp only [mm_br, ht]; rfl) k
theorem ey_ifnull_n {off : Int} {p : Nat} (hc : mm_cd mi pc = some (.ifnull off, 3)) (ht : mm_to pc off = some p) (k : ey xt d mi p lv st h r) : ey xt d mi pc lv (jR (none) :: st) h r :=
  ey_pu (st := jR (none) :: st) (st' := st) hc (fun nL L => by show mm_br 3 pc off L (st.map jcv) true = _; simp only [mm_br, ht]; rfl) k
theorem ey_ifnull_s {off : Int} {p : Nat} {a : Nat} (hc : mm_cd mi pc = some (.ifnull off, 3)) (ht : mm_to pc off = some p) (k : ey xt d mi (pc + 3) lv st h r) : ey xt d mi pc lv (jR (some a) :: st) h r :=
  ey_pu (st := jR (some a) :: st) (st' := st) hc (fun nL L => by show mm_br 3 pc off L (st.map jcv) false = _; simp only [mm_br, ht]; rfl) k
theorem ey_ifnonnull_n {off : Int} {p : Nat} (hc : mm_cd mi pc = some (.ifnonnull off, 3)) (ht : mm_to pc off = some p) (k : ey xt d mi (pc + 3) lv st h r) : ey xt d mi pc lv (jR (none) :: st) h r :=
  ey_pu (st := jR (none) :: st) (st' := st) hc (fun nL L => by show mm_br 3 pc off L (st.map jcv) false = _; simp only [mm_br, ht]; rfl) k
theorem ey_ifnonnull_s {off : Int} {p : Nat} {a : Nat} (hc : mm_cd mi pc = some (.ifnonnull off, 3)) (ht : mm_to pc off = some p) (k : ey xt d mi p lv st h r) : ey xt d mi pc lv (jR (some a) :: st) h r :=
  ey_pu (st := jR (some a) :: st) (st' := st) hc (fun nL L => by show mm_br 3 pc off L (st.map jcv) true = _; simp only [mm_br, ht]; rfl) k
theorem ey_tsw {dflt lo hi : Int} {offs : Array Int} {len p : Nat} {x c off : Int} (hc : mm_cd mi pc = some (.tableswitch dflt lo hi offs, len)) (hx : jw x = c) (hr : ¬ (c < lo ∨ hi < c)) (ho : offs[(c - lo).toNat]? = some off) (ht : mm_to pc off = some p) (k : ey xt d mi p lv st h r) : ey xt d mi pc lv (jI x :: st) h r :=
  ey_pu (st := jI x :: st) (st' := st) hc (fun nL L => by
    simp only [mm_pu, mm_tsw, List.map_cons, jcv, jw_of, hx, if_neg hr, ho, mm_jump, ht]) k
theorem ey_tsw_d {dflt lo hi : Int} {offs : Array Int} {len p : Nat} {x : Int} (hc : mm_cd mi pc = some (.tableswitch dflt lo hi offs, len)) (hr : jw x < lo ∨ hi < jw x) (ht : mm_to pc dflt = some p) (k : ey xt d mi p lv st h r) : ey xt d mi pc lv (jI x :: st) h r :=
  ey_pu (st := jI x :: st) (st' := st) hc (fun nL L => by
    simp only [mm_pu, mm_tsw, List.map_cons, jcv, jw_of, if_pos hr, mm_jump, ht]) k
theorem ey_lsw {dflt : Int} {ps : Array (Int × Int)} {len p : Nat} {x off : Int} (hc : mm_cd mi pc = some (.lookupswitch dflt ps, len)) (hp : (ps.toList.zip (ps.toList.drop 1)).all (fun (a, next) => a.1 < next.1) = true) (ho : Op.lookupswitch.offset ps.toList dflt (jw x) = off) (ht : mm_to pc off = some p) (k : ey xt d mi p lv st h r) : ey xt d mi pc lv (jI x :: st) h r :=
  ey_pu (st := jI x :: st) (st' := st) hc (fun nL L => by
    simp only [mm_pu, mm_lsw, List.map_cons, jcv, jw_of, hp, ho, mm_jump, ht]; rfl) k
end JyRules
