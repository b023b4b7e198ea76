/-! THE MINI MACHINE (my own): a pure run of the claim's bytecode over a heap of numbered cells. What it answers, the machine answers (parts 05 and on). -/
abbrev mm_L : Type := List (Nat × Value)
/-- an end: returned (a value or none), or thrown (number of the exception's class) -/
abbrev mm_R : Type := (Option Value × mm_H) ⊕ (Nat × mm_H)
/-- what a pure instruction leaves: program counter, locals, stack -/
abbrev mm_P : Type := Nat × mm_L × List Value
def mm_get : mm_L → Nat → Option Value
  | [], _ => none
  | q :: r, i => bif Nat.beq q.1 i then some q.2 else mm_get r i
def mm_set1 (lv : mm_L) (i : Nat) (v : Value) : mm_L := (i, v) :: lv.filter (fun q => !(q.1 == i) && !(q.1 + 1 == i && q.2.category == 2))
def mm_set2 (lv : mm_L) (i : Nat) (v : Value) : mm_L := (i, v) :: lv.filter (fun q => !(q.1 == i) && (!(q.1 == i + 1) && !(q.1 + 1 == i && q.2.category == 2)))
def mm_pushi (len want pc : Nat) (lv : mm_L) (st : List Value) (v : Value) : Option mm_P := bif Nat.beq len want then some (pc + want, lv, v :: st) else none
def mm_load (len want pc : Nat) (lv : mm_L) (st : List Value) (i : Nat) (ok : Value → Bool) : Option mm_P := bif Nat.beq len want then (match mm_get lv i with | some v => bif ok v then some (pc + want, lv, v :: st) else none | none => none) else none
def mm_isI : Value → Bool | .int _ => true | _ => false
def mm_isL : Value → Bool | .long _ => true | _ => false
def mm_isR : Value → Bool | .ref _ => true | .null => true | _ => false
def mm_store1 (nL len want pc : Nat) (lv : mm_L) (st : List Value) (i : Nat) (ok : Value → Bool) : Option mm_P := bif Nat.beq len want && Nat.blt i nL then (match st with | v :: r => bif ok v then some (pc + want, mm_set1 lv i v, r) else none | [] => none) else none
def mm_store2 (nL len want pc : Nat) (lv : mm_L) (st : List Value) (i : Nat) : Option mm_P := bif Nat.beq len want && Nat.blt (i + 1) nL then (match st with | .long x :: r => some (pc + want, mm_set2 lv i (.long x), r) | _ => none) else none
def mm_iinc (nL len pc : Nat) (lv : mm_L) (st : List Value) (i : Nat) (n : Int) : Option mm_P := bif Nat.beq len 3 && Nat.blt i nL then (match mm_get lv i with | some (.int x) => some (pc + 3, mm_set1 lv i (.int (x + Int32.ofInt n)), st) | _ => none) else none
def mm_bi (len pc : Nat) (lv : mm_L) (st : List Value) (f : Int32 → Int32 → Int32) : Option mm_P := match st with | .int y :: .int x :: r => bif Nat.beq len 1 then some (pc + 1, lv, .int (f x y) :: r) else none | _ => none
def mm_bd (len pc : Nat) (lv : mm_L) (st : List Value) (f : Int32 → Int32 → Int32) : Option mm_P := match st with | .int y :: .int x :: r => bif Nat.beq len 1 then (if y = 0 then none else some (pc + 1, lv, .int (f x y) :: r)) else none | _ => none
def mm_bl (len pc : Nat) (lv : mm_L) (st : List Value) (f : Int64 → Int64 → Int64) : Option mm_P := match st with | .long y :: .long x :: r => bif Nat.beq len 1 then some (pc + 1, lv, .long (f x y) :: r) else none | _ => none
def mm_bld (len pc : Nat) (lv : mm_L) (st : List Value) (f : Int64 → Int64 → Int64) : Option mm_P := match st with | .long y :: .long x :: r => bif Nat.beq len 1 then (if y = 0 then none else some (pc + 1, lv, .long (f x y) :: r)) else none | _ => none
def mm_sl (len pc : Nat) (lv : mm_L) (st : List Value) (f : Int64 → Int32 → Int64) : Option mm_P := match st with | .int y :: .long x :: r => bif Nat.beq len 1 then some (pc + 1, lv, .long (f x y) :: r) else none | _ => none
def mm_lc (len pc : Nat) (lv : mm_L) (st : List Value) : Option mm_P := match st with | .long y :: .long x :: r => bif Nat.beq len 1 then some (pc + 1, lv, .int (lg_cmp x y) :: r) else none | _ => none
def mm_ui (len pc : Nat) (lv : mm_L) (st : List Value) (f : Int32 → Int32) : Option mm_P := match st with | .int x :: r => bif Nat.beq len 1 then some (pc + 1, lv, .int (f x) :: r) else none | _ => none
def mm_il (len pc : Nat) (lv : mm_L) (st : List Value) : Option mm_P := match st with | .int x :: r => bif Nat.beq len 1 then some (pc + 1, lv, .long x.toInt64 :: r) else none | _ => none
def mm_li (len pc : Nat) (lv : mm_L) (st : List Value) : Option mm_P := match st with | .long x :: r => bif Nat.beq len 1 then some (pc + 1, lv, .int x.toInt32 :: r) else none | _ => none
/-- where a jump goes: none if ahead of the code -/
def mm_to (pc : Nat) (off : Int) : Option Nat := match (pc : Int) + off with | .ofNat t => some t | .negSucc _ => none
def mm_jump (pc : Nat) (off : Int) (lv : mm_L) (st : List Value) : Option mm_P := match mm_to pc off with | some t => some (t, lv, st) | none => none
def mm_br (len pc : Nat) (off : Int) (lv : mm_L) (r : List Value) (b : Bool) : Option mm_P := bif Nat.beq len 3 then (match mm_to pc off with | some t => some (bif b then t else pc + 3, lv, r) | none => none) else none
def mm_if1 (len pc : Nat) (off : Int) (lv : mm_L) (st : List Value) (f : Int32 → Bool) : Option mm_P := match st with | .int x :: r => mm_br len pc off lv r (f x) | _ => none
def mm_if2 (len pc : Nat) (off : Int) (lv : mm_L) (st : List Value) (f : Int32 → Int32 → Bool) : Option mm_P := match st with | .int y :: .int x :: r => mm_br len pc off lv r (f x y) | _ => none
def mm_ifn (len pc : Nat) (off : Int) (lv : mm_L) (st : List Value) (onNull : Bool) : Option mm_P := match st with | .null :: r => mm_br len pc off lv r onNull | .ref _ :: r => mm_br len pc off lv r (!onNull) | _ => none
def mm_ifc (cd : ClassFile.Cond) (x : Int32) : Bool := match cd with
  | .eq => decide (x = 0) | .ne => !decide (x = 0) | .lt => decide (x < 0) | .ge => decide (0 ≤ x) | .gt => decide (0 < x) | .le => decide (x ≤ 0)
def mm_icc (cd : ClassFile.Cond) (x y : Int32) : Bool := match cd with
  | .eq => decide (x = y) | .ne => !decide (x = y) | .lt => decide (x < y) | .ge => decide (y ≤ x) | .gt => decide (y < x) | .le => decide (x ≤ y)
def mm_tsw (pc : Nat) (dflt lo hi : Int) (offs : Array Int) (lv : mm_L) (st : List Value) : Option mm_P := match st with
  | .int x :: r => if x.toInt < lo ∨ hi < x.toInt then mm_jump pc dflt lv r else (match offs[(x.toInt - lo).toNat]? with | some off => mm_jump pc off lv r | none => none)
  | _ => none
def mm_lsw (pc : Nat) (dflt : Int) (ps : Array (Int × Int)) (lv : mm_L) (st : List Value) : Option mm_P := match st with
  | .int x :: r => bif (ps.toList.zip (ps.toList.drop 1)).all (fun (a, next) => a.1 < next.1) then mm_jump pc (Op.lookupswitch.offset ps.toList dflt x.toInt) lv r else none
  | _ => none
def mm_dup (len pc : Nat) (lv : mm_L) (st : List Value) : Option mm_P := match st with | v :: r => bif Nat.beq len 1 && Nat.beq v.category 1 then some (pc + 1, lv, v :: v :: r) else none | _ => none
def mm_pop (len pc : Nat) (lv : mm_L) (st : List Value) : Option mm_P := match st with | v :: r => bif Nat.beq len 1 && Nat.beq v.category 1 then some (pc + 1, lv, r) else none | _ => none
def mm_dupx1 (len pc : Nat) (lv : mm_L) (st : List Value) : Option mm_P := match st with | v :: w :: r => bif Nat.beq len 1 && (Nat.beq v.category 1 && Nat.beq w.category 1) then some (pc + 1, lv, v :: w :: v :: r) else none | _ => none
def mm_dup2 (len pc : Nat) (lv : mm_L) (st : List Value) : Option mm_P := match st with | v :: w :: r => bif Nat.beq len 1 && (Nat.beq v.category 1 && Nat.beq w.category 1) then some (pc + 1, lv, v :: w :: v :: w :: r) else none | _ => none
/-- the instructions that touch neither heap nor other methods -/
def mm_pu (nL : Nat) (ins : Instr) (len pc : Nat) (lv : mm_L) (st : List Value) : Option mm_P :=
  match ins with
  | .iconst n => mm_pushi len 1 pc lv st (.int (Int32.ofInt n))
  | .bipush n => mm_pushi len 2 pc lv st (.int (Int8.ofInt n).toInt32)
  | .sipush n => mm_pushi len 3 pc lv st (.int (Int16.ofInt n).toInt32)
  | .lconst n => mm_pushi len 1 pc lv st (.long (Int64.ofNat n))
  | .aconst_null => mm_pushi len 1 pc lv st .null
  | .iload i => mm_load len 2 pc lv st i mm_isI
  | .iload_n k => mm_load len 1 pc lv st k mm_isI
  | .lload i => mm_load len 2 pc lv st i mm_isL
  | .lload_n k => mm_load len 1 pc lv st k mm_isL
  | .aload i => mm_load len 2 pc lv st i mm_isR
  | .aload_n k => mm_load len 1 pc lv st k mm_isR
  | .istore i => mm_store1 nL len 2 pc lv st i mm_isI
  | .istore_n k => mm_store1 nL len 1 pc lv st k mm_isI
  | .astore i => mm_store1 nL len 2 pc lv st i mm_isR
  | .astore_n k => mm_store1 nL len 1 pc lv st k mm_isR
  | .lstore i => mm_store2 nL len 2 pc lv st i
  | .lstore_n k => mm_store2 nL len 1 pc lv st k
  | .iinc i n => mm_iinc nL len pc lv st i n
  | .iadd => mm_bi len pc lv st (fun x y => x + y)
  | .isub => mm_bi len pc lv st (fun x y => x - y)
  | .imul => mm_bi len pc lv st (fun x y => x * y)
  | .iand => mm_bi len pc lv st (fun x y => x &&& y)
  | .ior => mm_bi len pc lv st (fun x y => x ||| y)
  | .ishl => mm_bi len pc lv st (fun x y => x <<< (y &&& 31))
  | .ishr => mm_bi len pc lv st (fun x y => x >>> (y &&& 31))
  | .idiv => mm_bd len pc lv st (fun x y => x / y)
  | .irem => mm_bd len pc lv st (fun x y => x - x / y * y)
  | .ineg => mm_ui len pc lv st (fun x => -x)
  | .i2b => mm_ui len pc lv st (fun x => x.toInt8.toInt32)
  | .ladd => mm_bl len pc lv st (fun x y => x + y)
  | .lsub => mm_bl len pc lv st (fun x y => x - y)
  | .lmul => mm_bl len pc lv st (fun x y => x * y)
  | .land => mm_bl len pc lv st (fun x y => x &&& y)
  | .lor => mm_bl len pc lv st (fun x y => x ||| y)
  | .lrem => mm_bld len pc lv st (fun x y => x - x / y * y)
  | .lushr => mm_sl len pc lv st (fun x y => (x.toUInt64 >>> (y.toInt64.toUInt64 &&& Int64.toUInt64 63)).toInt64)
  | .lshl => mm_sl len pc lv st (fun x y => x <<< (y.toInt64 &&& 63))
  | .lcmp => mm_lc len pc lv st
  | .i2l => mm_il len pc lv st
  | .l2i => mm_li len pc lv st
  | .dup => mm_dup len pc lv st
  | .pop => mm_pop len pc lv st
  | .dup_x1 => mm_dupx1 len pc lv st
  | .dup2 => mm_dup2 len pc lv st
  | .goto off => bif Nat.beq len 3 then mm_jump pc off lv st else none
  | .ifCond cd off => mm_if1 len pc off lv st (mm_ifc cd)
  | .if_icmp cd off => mm_if2 len pc off lv st (mm_icc cd)
  | .ifnull off => mm_ifn len pc off lv st true
  | .ifnonnull off => mm_ifn len pc off lv st false
  | .tableswitch d lo hi offs => mm_tsw pc d lo hi offs lv st
  | .lookupswitch d ps => mm_lsw pc d ps lv st
  | _ => none
/-- real values out of mini ones: the addresses by ad -/
def mm_cV (ad : Nat → Nat) : Value → Value
  | .ref a => .ref (ad a)
  | v => v
abbrev mm_cS (ad : Nat → Nat) (st : List Value) : List Value := st.map (mm_cV ad)
abbrev mm_cL (ad : Nat → Nat) (lv : mm_L) : mm_L := lv.map (fun q => (q.1, mm_cV ad q.2))
