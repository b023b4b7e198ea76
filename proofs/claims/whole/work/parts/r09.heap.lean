/-! instructions that touch the heap: the mini machine's step -/
abbrev mm_Q : Type := Nat × List Value × mm_H
/-- an index within -/
def mm_ib (i : Int32) (n : Nat) : Bool := !(decide (i < 0)) && Nat.blt i.toNatClampNeg n
def mm_fit : FieldType → Value → Bool
  | .int, .int _ => true
  | .boolean, .int x => x == 0 || x == 1
  | .long, .long _ => true
  | .object _, .ref _ => true
  | .object _, .null => true
  | .array _, .ref _ => true
  | .array _, .null => true
  | _, _ => false
def mm_fin (ci k : Nat) : Bool := match mm_cls[ci]? with
  | some r => (r.2.1 k).2.2.2
  | none => true
def mm_getf (own len pc : Nat) (st : List Value) (h : mm_H) (idx : Nat) : Option mm_Q := match st with
  | .ref a :: r => (match mm_lk (mm_flT own) idx with
    | some f => (match h.2.2 a with
      | .inr o => bif Nat.beq len 3 && (Nat.blt a h.1 && Nat.beq o.1 f.1) then (match o.2[f.2.1]? with | some v => some (pc + 3, v :: r, h) | none => none) else none
      | .inl _ => none)
    | none => none)
  | _ => none
def mm_putf (own len pc : Nat) (ini : Bool) (st : List Value) (h : mm_H) (idx : Nat) : Option mm_Q := match st with
  | v :: .ref a :: r => (match mm_lk (mm_flT own) idx with
    | some f => (match h.2.2 a with
      | .inr o => bif (Nat.beq len 3 && (Nat.blt a h.1 && Nat.beq o.1 f.1)) && (mm_fit (mm_ty f.1 f.2.1) v && (Nat.blt f.2.1 o.2.length && (Nat.blt f.1 13 && (!(mm_fin f.1 f.2.1) || (ini && Nat.beq f.1 own))))) then some (pc + 3, r, (h.1, h.2.1, va_up h.2.2 a (.inr (o.1, o.2.set f.2.1 v)))) else none
      | .inl _ => none)
    | none => none)
  | _ => none
def mm_ald (xt : Nat → Nat × (Nat → Int32)) (len pc : Nat) (st : List Value) (h : mm_H) : Option mm_Q := match st with
  | .int i :: .ref a :: r => bif Nat.blt a 1000000 then (match h.2.2 a with
      | .inl (0, n, .inl f) => bif Nat.beq len 1 && (Nat.blt a h.1 && mm_ib i n) then some (pc + 1, .int (f i.toNatClampNeg) :: r, h) else none
      | _ => none)
    else bif Nat.beq len 1 && (Nat.blt (a - 1000000) 7 && mm_ib i (xt (a - 1000000)).1) then some (pc + 1, .int ((xt (a - 1000000)).2 i.toNatClampNeg) :: r, h) else none
  | _ => none
def mm_bld8 (len pc : Nat) (st : List Value) (h : mm_H) : Option mm_Q := match st with
  | .int i :: .ref a :: r => (match h.2.2 a with
      | .inl (1, n, .inl f) => bif Nat.beq len 1 && (Nat.blt a h.1 && mm_ib i n) then some (pc + 1, .int (f i.toNatClampNeg) :: r, h) else none
      | .inl (2, n, .inl f) => bif Nat.beq len 1 && (Nat.blt a h.1 && mm_ib i n) then some (pc + 1, .int (f i.toNatClampNeg) :: r, h) else none
      | _ => none)
  | _ => none
def mm_lald (len pc : Nat) (st : List Value) (h : mm_H) : Option mm_Q := match st with
  | .int i :: .ref a :: r => (match h.2.2 a with
      | .inl (3, n, .inr (.inl f)) => bif Nat.beq len 1 && (Nat.blt a h.1 && mm_ib i n) then some (pc + 1, .long (f i.toNatClampNeg) :: r, h) else none
      | _ => none)
  | _ => none
def mm_aald (len pc : Nat) (st : List Value) (h : mm_H) : Option mm_Q := match st with
  | .int i :: .ref a :: r => (match h.2.2 a with
      | .inl (c, n, .inr (.inr (.inr (.inr f)))) => bif (Nat.beq len 1 && (Nat.blt a h.1 && mm_ib i n)) && (Nat.blt 3 c && Nat.blt c 8) then some (pc + 1, va_rf (f i.toNatClampNeg) :: r, h) else none
      | _ => none)
  | _ => none
def mm_iast (len pc : Nat) (st : List Value) (h : mm_H) : Option mm_Q := match st with
  | .int x :: .int i :: .ref a :: r => (match h.2.2 a with
      | .inl (0, n, .inl f) => bif Nat.beq len 1 && (Nat.blt a h.1 && mm_ib i n) then some (pc + 1, r, (h.1, h.2.1, va_up h.2.2 a (.inl (0, n, .inl (upd f i.toNatClampNeg x))))) else none
      | _ => none)
  | _ => none
def mm_bast (len pc : Nat) (st : List Value) (h : mm_H) : Option mm_Q := match st with
  | .int x :: .int i :: .ref a :: r => (match h.2.2 a with
      | .inl (1, n, .inl f) => bif Nat.beq len 1 && (Nat.blt a h.1 && mm_ib i n) then some (pc + 1, r, (h.1, h.2.1, va_up h.2.2 a (.inl (1, n, .inl (upd f i.toNatClampNeg (vp_nar .byte x)))))) else none
      | .inl (2, n, .inl f) => bif Nat.beq len 1 && (Nat.blt a h.1 && mm_ib i n) then some (pc + 1, r, (h.1, h.2.1, va_up h.2.2 a (.inl (2, n, .inl (upd f i.toNatClampNeg (vp_nar .boolean x)))))) else none
      | _ => none)
  | _ => none
def mm_last (len pc : Nat) (st : List Value) (h : mm_H) : Option mm_Q := match st with
  | .long x :: .int i :: .ref a :: r => (match h.2.2 a with
      | .inl (3, n, .inr (.inl f)) => bif Nat.beq len 1 && (Nat.blt a h.1 && mm_ib i n) then some (pc + 1, r, (h.1, h.2.1, va_up h.2.2 a (.inl (3, n, .inr (.inl (vp_updL f i.toNatClampNeg x)))))) else none
      | _ => none)
  | _ => none
def mm_aast (len pc : Nat) (st : List Value) (h : mm_H) : Option mm_Q := match st with
  | .ref v :: .int i :: .ref a :: r => (match h.2.2 a, h.2.2 v with
      | .inl (c, n, .inr (.inr (.inr (.inr f)))), .inr o => bif (Nat.beq len 1 && ((Nat.blt a h.1 && Nat.blt v h.1) && mm_ib i n)) && ((Nat.blt 3 c && Nat.blt c 8) && Nat.beq o.1 (mm_ac c)) then some (pc + 1, r, (h.1, h.2.1, va_up h.2.2 a (.inl (c, n, .inr (.inr (.inr (.inr (va_up f i.toNatClampNeg (some v))))))))) else none
      | _, _ => none)
  | _ => none
def mm_alen (xt : Nat → Nat × (Nat → Int32)) (len pc : Nat) (st : List Value) (h : mm_H) : Option mm_Q := match st with
  | .ref a :: r => bif Nat.blt a 1000000 then (match h.2.2 a with
      | .inl x => bif Nat.beq len 1 && (Nat.blt a h.1 && Nat.blt x.1 8) then some (pc + 1, .int (Int32.ofNat x.2.1) :: r, h) else none
      | _ => none)
    else bif Nat.beq len 1 && Nat.beq a 1000000 then some (pc + 1, .int (Int32.ofNat (xt 0).1) :: r, h) else none
  | _ => none
def mm_df (ci : Nat) : List Value := (List.range (mm_cn ci)).map (fun k => defaultValue (mm_ty ci k))
def mm_new (own len pc : Nat) (st : List Value) (h : mm_H) (idx : Nat) : Option mm_Q := match mm_lk (mm_nwT own) idx with
  | some f => bif Nat.beq len 3 && (Nat.blt h.1 1000000 && Nat.blt f.1 13) then some (pc + 3, .ref h.1 :: st, (h.1 + 1, h.2.1 + mm_cn f.1, va_up h.2.2 h.1 (.inr (f.1, mm_df f.1)))) else none
  | none => none
def mm_na (len pc : Nat) (st : List Value) (h : mm_H) (t : ArrayType) : Option mm_Q := match st with
  | .int n :: r => bif (Nat.beq len 2 && Nat.blt h.1 1000000) && (!(decide (n < 0)) && Nat.ble n.toNatClampNeg 1000000) then
      (match t with
      | .int => some (pc + 2, .ref h.1 :: r, (h.1 + 1, h.2.1 + n.toNatClampNeg, va_up h.2.2 h.1 (.inl (0, n.toNatClampNeg, .inl (fun _ => 0)))))
      | .byte => some (pc + 2, .ref h.1 :: r, (h.1 + 1, h.2.1 + n.toNatClampNeg, va_up h.2.2 h.1 (.inl (1, n.toNatClampNeg, .inl (fun _ => 0)))))
      | .boolean => some (pc + 2, .ref h.1 :: r, (h.1 + 1, h.2.1 + n.toNatClampNeg, va_up h.2.2 h.1 (.inl (2, n.toNatClampNeg, .inl (fun _ => 0)))))
      | .long => some (pc + 2, .ref h.1 :: r, (h.1 + 1, h.2.1 + n.toNatClampNeg, va_up h.2.2 h.1 (.inl (3, n.toNatClampNeg, .inr (.inl (fun _ => 0))))))
      | _ => none) else none
  | _ => none
def mm_an (own len pc : Nat) (st : List Value) (h : mm_H) (idx : Nat) : Option mm_Q := match st with
  | .int n :: r => (match mm_lk (mm_anT own) idx with
    | some f => bif (Nat.beq len 3 && Nat.blt h.1 1000000) && ((!(decide (n < 0)) && Nat.ble n.toNatClampNeg 1000000) && (Nat.blt 3 f.1 && Nat.blt f.1 8)) then some (pc + 3, .ref h.1 :: r, (h.1 + 1, h.2.1 + n.toNatClampNeg, va_up h.2.2 h.1 (.inl (f.1, n.toNatClampNeg, .inr (.inr (.inr (.inr (fun _ => none)))))))) else none
    | none => none)
  | _ => none
def mm_gs (own len pc : Nat) (st : List Value) (h : mm_H) (idx : Nat) : Option mm_Q := match mm_lk (mm_stT own) idx with
  | some f => bif Nat.beq len 3 && (Nat.blt 0 f.1 && Nat.blt f.1 7) then some (pc + 3, .ref (1000000 + f.1) :: st, h) else none
  | none => none
def mm_ldi (own len want pc : Nat) (st : List Value) (h : mm_H) (idx : Nat) : Option mm_Q := match mm_lk (mm_ciT own) idx with
  | some f => bif Nat.beq len want then some (pc + want, .int f.1 :: st, h) else none
  | none => none
def mm_ldl (own len pc : Nat) (st : List Value) (h : mm_H) (idx : Nat) : Option mm_Q := match mm_lk (mm_clT own) idx with
  | some f => bif Nat.beq len 3 then some (pc + 3, .long f.1 :: st, h) else none
  | none => none
def mm_he (own : Nat) (ini : Bool) (xt : Nat → Nat × (Nat → Int32)) (ins : Instr) (len pc : Nat) (st : List Value) (h : mm_H) : Option mm_Q := match ins with
  | .getfield idx => mm_getf own len pc st h idx
  | .putfield idx => mm_putf own len pc ini st h idx
  | .iaload => mm_ald xt len pc st h
  | .baload => mm_bld8 len pc st h
  | .laload => mm_lald len pc st h
  | .aaload => mm_aald len pc st h
  | .iastore => mm_iast len pc st h
  | .bastore => mm_bast len pc st h
  | .lastore => mm_last len pc st h
  | .aastore => mm_aast len pc st h
  | .arraylength => mm_alen xt len pc st h
  | .new idx => mm_new own len pc st h idx
  | .newarray t => mm_na len pc st h t
  | .anewarray idx => mm_an own len pc st h idx
  | .getstatic idx => mm_gs own len pc st h idx
  | .ldc idx => mm_ldi own len 2 pc st h idx
  | .ldc_w idx => mm_ldi own len 3 pc st h idx
  | .ldc2_w idx => mm_ldl own len pc st h idx
  | _ => none
/-! what a state of the machine gives the mini machine -/
def mm_sc : Nat → String × String := fun j => match j with
  | 1 => (RX11, "SETTING_LEAST")
  | 2 => (RX11, "SETTING_MOST")
  | 3 => (RX5, "PLANE_BASE")
  | 4 => (RX5, "SCAN")
  | 5 => (RX2, "HEAD_LEAST")
  | _ => (RX2, "HEAD_MOST")
def mm_K (D : va_G) (cy : Nat → ClassId) (X : Nat → Nat) (B : Nat) (xt : Nat → Nat × (Nat → Int32)) (s : State) : Prop :=
  va_K D mm_cls (mm_tys cy) s ∧ B ≤ s.heap.size ∧ (va_X (X 0) (xt 0).1 (xt 0).2 s s.heap ∧ X 0 < B) ∧
  (∀ j, 1 ≤ j → j < 7 → va_Z (mm_sc j).1 (mm_sc j).2 "[I" (.ref (X j)) (mm_A B) s s.heap ∧ va_T .int (X j) (xt j).1 (fun i => .int ((xt j).2 i)) (mm_A B) s s.heap) ∧
  (∀ k, 4 ≤ k → k < 8 → va_AO (mm_ow (mm_ac k)) s)
theorem mm_ib_in {i : Int32} {n : Nat} (h : mm_ib i n = true) : vp_in i n := by
  obtain ⟨h1, h2⟩ := mm_and h
  have h3 : ¬ i < 0 := by simpa using h1
  exact fun q => q.elim h3 (fun q => absurd (mm_blt h2) (Nat.not_lt.mpr q))
theorem mm_fit_s {ad : Nat → Nat} {t : FieldType} {v : Value} (h : mm_fit t v = true) : narrow t (mm_cV ad v) = mm_cV ad v ∧ fits t (mm_cV ad v) = true := by
  cases t <;> cases v <;> first | (exact ⟨rfl, rfl⟩) | (cases h; done) | skip
  next x =>
    simp only [mm_fit, Bool.or_eq_true, beq_iff_eq] at h
    rcases h with rfl | rfl <;> exact ⟨rfl, rfl⟩
