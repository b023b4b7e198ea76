/-! THE CLAIM OUT OF ONE WALK OF THE LAW'S BODY. Your part is whole_start (and what it stands on); all else here is the same for every law, but numbers. -/
def R_law : String := "PictureHouseLaw"
def lw_P (b : Addr) (xs : List Int32) (args : Array Value) (s : State) : Prop := args = #[.ref b] ∧ s.IntsAt b xs ∧ xs.length ≤ 512 ∧ (Jvm.Cond.and given_1 narrow_1).before args s = true
def lw_Q (_ : Array Value) (s : State) (o : Outcome) (t : State) : Prop := o = .returned (some (.int 1)) ∧ Framed s o t [] 600128 7301097
def lw_Z (below : List Frame) (a : Array Value) (s : State) : State → Prop := fun t => ∃ o, t.status = .running ∧ Ended t below o ∧ lw_Q a s o t
/-- the law's own end, with 1 on the stack, nothing written that was there before, its room as the claim has it -/
theorem lw_ret {p : Program} {l : Launch} {e : Env} {s : State} {m : MethodId} {below : List Frame} {meth : Method} {c : Code} {b : Nat} (hx : p.tables.exec = Jvm.exec) (hb : c.code = code) (hr : meth.sig.returnType = ret) (hlocks : meth.locks = false) {pc : Nat} {H : Heap} {ls : Array Slot} (hdg : decode code pc = .ok (.ireturn, 1)) : W p l e room_1 s m #[Value.ref b] below meth c H [] 600128 7301097 (lw_Z below #[Value.ref b] s) (F0 m pc ls [.int 1]) := by
  intro T hT X
  obtain ⟨fs, hret, hrun, hended, hW, hframe⟩ := X.leave (v := some (.int 1)) (hlocks := hlocks) (fun h => by rw [hr] at h; cases h)
  have hmeth' : T.vm.method? m = some meth := X.method'
  refine ⟨T.setFrames fs, ?_, .returned (some (.int 1)), hrun, hended, rfl, ⟨_, rfl⟩, hW, hframe⟩
  jvm_step X.here [X.here.top, hx, hb, hdg, hmeth', hr, ret, narrow_b1]
  (try refine ⟨rfl, ?_⟩); (try refine ⟨rfl, ?_⟩)
  first | (intro acts; rw [hret _ acts rfl rfl rfl]) | rw [hret _ _ rfl rfl rfl]
  exact Steps.refl _
/-- what holds at the law's entry: the machine, the code, the tables' words (any of lw_tbl by 'hts w (by decide +kernel)'), the script of L ints xs at the cell b, what the Statement gives of the start (any of its parts by flat_of_before) -/
def lw_At (p : Program) (s : State) (m : MethodId) (meth : Method) (c : Code) (b L : Nat) (xs : Nat → Int32) : Prop :=
  p.tables.exec = Jvm.exec ∧ c.code = code ∧ meth.sig.returnType = ret ∧ c.maxLocals = 7 ∧ s.vm.findClass R_law = some m.cls ∧ (∀ w ∈ lw_tbl, w.before #[Value.ref b] s = true) ∧ va_X b L xs s s.heap ∧ b < s.heap.size ∧ meth.locks = false ∧ (Jvm.Cond.and given_1 narrow_1).before #[Value.ref b] s = true
/-! what the law's entry gives -/
set_option maxRecDepth 100000 in
set_option maxHeartbeats 4000000 in
theorem mm_st1 {s : State} {b : Nat} (hts : ∀ w ∈ lw_tbl, w.before #[Value.ref b] s = true) (hgv : (Jvm.Cond.and given_1 narrow_1).before #[Value.ref b] s = true) (hA : ∀ a : Nat, a < s.heap.size → ¬ mm_A s.heap.size a) : ∃ t : Nat, va_Z (mm_sc 1).1 (mm_sc 1).2 "[I" (.ref t) (mm_A s.heap.size) s s.heap ∧ va_T .int t 8 (fun i => .int ((mm_xv 1).getD i 0)) (mm_A s.heap.size) s s.heap := by
  have hs := flat_of_before _ hgv
  obtain ⟨t, h1, h2⟩ := va_Tof (tm := (.static (mm_sc 1).1 (mm_sc 1).2 "[I")) (ty := .int) (N := 8) (f := fun i => .int ((mm_xv 1).getD i 0)) (by decide) (hs (.arrayOf (.static (mm_sc 1).1 (mm_sc 1).2 "[I") .int) (by decide +kernel)) (va_eqt (hs (.eq (.length (.static (mm_sc 1).1 (mm_sc 1).2 "[I")) (.int 8)) (by decide +kernel))) (fun j hj => by
    match j, hj with
    | 0, _ => exact va_eqt (hs (.eq (.elem (.static (mm_sc 1).1 (mm_sc 1).2 "[I") (.int 0)) (.int 1)) (by decide +kernel))
    | 1, _ => exact va_eqt (hs (.eq (.elem (.static (mm_sc 1).1 (mm_sc 1).2 "[I") (.int 1)) (.int 1)) (by decide +kernel))
    | 2, _ => exact va_eqt (hs (.eq (.elem (.static (mm_sc 1).1 (mm_sc 1).2 "[I") (.int 2)) (.int 0)) (by decide +kernel))
    | 3, _ => exact va_eqt (hs (.eq (.elem (.static (mm_sc 1).1 (mm_sc 1).2 "[I") (.int 3)) (.int 0)) (by decide +kernel))
    | 4, _ => exact va_eqt (hs (.eq (.elem (.static (mm_sc 1).1 (mm_sc 1).2 "[I") (.int 4)) (.int 1)) (by decide +kernel))
    | 5, _ => exact va_eqt (hs (.eq (.elem (.static (mm_sc 1).1 (mm_sc 1).2 "[I") (.int 5)) (.int 100)) (by decide +kernel))
    | 6, _ => exact va_eqt (hs (.eq (.elem (.static (mm_sc 1).1 (mm_sc 1).2 "[I") (.int 6)) (.int 50)) (by decide +kernel))
    | 7, _ => exact va_eqt (hs (.eq (.elem (.static (mm_sc 1).1 (mm_sc 1).2 "[I") (.int 7)) (.int 0)) (by decide +kernel))
    | n + 8, hj => exact absurd hj (by omega)) hA
  exact ⟨t, va_Zof (hts _ (List.mem_of_getElem? (i := 951) (by decide +kernel))) (hts _ (List.mem_of_getElem? (i := 153) (by decide +kernel))) h1 hA, h2⟩
set_option maxRecDepth 100000 in
set_option maxHeartbeats 4000000 in
theorem mm_st2 {s : State} {b : Nat} (hts : ∀ w ∈ lw_tbl, w.before #[Value.ref b] s = true) (hgv : (Jvm.Cond.and given_1 narrow_1).before #[Value.ref b] s = true) (hA : ∀ a : Nat, a < s.heap.size → ¬ mm_A s.heap.size a) : ∃ t : Nat, va_Z (mm_sc 2).1 (mm_sc 2).2 "[I" (.ref t) (mm_A s.heap.size) s s.heap ∧ va_T .int t 8 (fun i => .int ((mm_xv 2).getD i 0)) (mm_A s.heap.size) s s.heap := by
  have hs := flat_of_before _ hgv
  obtain ⟨t, h1, h2⟩ := va_Tof (tm := (.static (mm_sc 2).1 (mm_sc 2).2 "[I")) (ty := .int) (N := 8) (f := fun i => .int ((mm_xv 2).getD i 0)) (by decide) (hs (.arrayOf (.static (mm_sc 2).1 (mm_sc 2).2 "[I") .int) (by decide +kernel)) (va_eqt (hs (.eq (.length (.static (mm_sc 2).1 (mm_sc 2).2 "[I")) (.int 8)) (by decide +kernel))) (fun j hj => by
    match j, hj with
    | 0, _ => exact va_eqt (hs (.eq (.elem (.static (mm_sc 2).1 (mm_sc 2).2 "[I") (.int 0)) (.int 60)) (by decide +kernel))
    | 1, _ => exact va_eqt (hs (.eq (.elem (.static (mm_sc 2).1 (mm_sc 2).2 "[I") (.int 1)) (.int 12)) (by decide +kernel))
    | 2, _ => exact va_eqt (hs (.eq (.elem (.static (mm_sc 2).1 (mm_sc 2).2 "[I") (.int 2)) (.int 2)) (by decide +kernel))
    | 3, _ => exact va_eqt (hs (.eq (.elem (.static (mm_sc 2).1 (mm_sc 2).2 "[I") (.int 3)) (.int 8)) (by decide +kernel))
    | 4, _ => exact va_eqt (hs (.eq (.elem (.static (mm_sc 2).1 (mm_sc 2).2 "[I") (.int 4)) (.int 31)) (by decide +kernel))
    | 5, _ => exact va_eqt (hs (.eq (.elem (.static (mm_sc 2).1 (mm_sc 2).2 "[I") (.int 5)) (.int 20000)) (by decide +kernel))
    | 6, _ => exact va_eqt (hs (.eq (.elem (.static (mm_sc 2).1 (mm_sc 2).2 "[I") (.int 6)) (.int 10000)) (by decide +kernel))
    | 7, _ => exact va_eqt (hs (.eq (.elem (.static (mm_sc 2).1 (mm_sc 2).2 "[I") (.int 7)) (.int 1)) (by decide +kernel))
    | n + 8, hj => exact absurd hj (by omega)) hA
  exact ⟨t, va_Zof (hts _ (List.mem_of_getElem? (i := 953) (by decide +kernel))) (hts _ (List.mem_of_getElem? (i := 153) (by decide +kernel))) h1 hA, h2⟩
set_option maxRecDepth 100000 in
set_option maxHeartbeats 4000000 in
theorem mm_st3 {s : State} {b : Nat} (hts : ∀ w ∈ lw_tbl, w.before #[Value.ref b] s = true) (hgv : (Jvm.Cond.and given_1 narrow_1).before #[Value.ref b] s = true) (hA : ∀ a : Nat, a < s.heap.size → ¬ mm_A s.heap.size a) : ∃ t : Nat, va_Z (mm_sc 3).1 (mm_sc 3).2 "[I" (.ref t) (mm_A s.heap.size) s s.heap ∧ va_T .int t 3 (fun i => .int ((mm_xv 3).getD i 0)) (mm_A s.heap.size) s s.heap := by
  have hs := flat_of_before _ hgv
  obtain ⟨t, h1, h2⟩ := va_Tof (tm := (.static (mm_sc 3).1 (mm_sc 3).2 "[I")) (ty := .int) (N := 3) (f := fun i => .int ((mm_xv 3).getD i 0)) (by decide) (hs (.arrayOf (.static (mm_sc 3).1 (mm_sc 3).2 "[I") .int) (by decide +kernel)) (va_eqt (hs (.eq (.length (.static (mm_sc 3).1 (mm_sc 3).2 "[I")) (.int 3)) (by decide +kernel))) (fun j hj => by
    match j, hj with
    | 0, _ => exact va_eqt (hs (.eq (.elem (.static (mm_sc 3).1 (mm_sc 3).2 "[I") (.int 0)) (.int 0)) (by decide +kernel))
    | 1, _ => exact va_eqt (hs (.eq (.elem (.static (mm_sc 3).1 (mm_sc 3).2 "[I") (.int 1)) (.int 64)) (by decide +kernel))
    | 2, _ => exact va_eqt (hs (.eq (.elem (.static (mm_sc 3).1 (mm_sc 3).2 "[I") (.int 2)) (.int 80)) (by decide +kernel))
    | n + 3, hj => exact absurd hj (by omega)) hA
  exact ⟨t, va_Zof (hts _ (List.mem_of_getElem? (i := 1043) (by decide +kernel))) (hts _ (List.mem_of_getElem? (i := 156) (by decide +kernel))) h1 hA, h2⟩
set_option maxRecDepth 100000 in
set_option maxHeartbeats 4000000 in
theorem mm_st4 {s : State} {b : Nat} (hts : ∀ w ∈ lw_tbl, w.before #[Value.ref b] s = true) (hgv : (Jvm.Cond.and given_1 narrow_1).before #[Value.ref b] s = true) (hA : ∀ a : Nat, a < s.heap.size → ¬ mm_A s.heap.size a) : ∃ t : Nat, va_Z (mm_sc 4).1 (mm_sc 4).2 "[I" (.ref t) (mm_A s.heap.size) s s.heap ∧ va_T .int t 16 (fun i => .int ((mm_xv 4).getD i 0)) (mm_A s.heap.size) s s.heap := by
  have hs := flat_of_before _ hgv
  obtain ⟨t, h1, h2⟩ := va_Tof (tm := (.static (mm_sc 4).1 (mm_sc 4).2 "[I")) (ty := .int) (N := 16) (f := fun i => .int ((mm_xv 4).getD i 0)) (by decide) (hs (.arrayOf (.static (mm_sc 4).1 (mm_sc 4).2 "[I") .int) (by decide +kernel)) (va_eqt (hs (.eq (.length (.static (mm_sc 4).1 (mm_sc 4).2 "[I")) (.int 16)) (by decide +kernel))) (fun j hj => by
    match j, hj with
    | 0, _ => exact va_eqt (hs (.eq (.elem (.static (mm_sc 4).1 (mm_sc 4).2 "[I") (.int 0)) (.int 0)) (by decide +kernel))
    | 1, _ => exact va_eqt (hs (.eq (.elem (.static (mm_sc 4).1 (mm_sc 4).2 "[I") (.int 1)) (.int 1)) (by decide +kernel))
    | 2, _ => exact va_eqt (hs (.eq (.elem (.static (mm_sc 4).1 (mm_sc 4).2 "[I") (.int 2)) (.int 4)) (by decide +kernel))
    | 3, _ => exact va_eqt (hs (.eq (.elem (.static (mm_sc 4).1 (mm_sc 4).2 "[I") (.int 3)) (.int 8)) (by decide +kernel))
    | 4, _ => exact va_eqt (hs (.eq (.elem (.static (mm_sc 4).1 (mm_sc 4).2 "[I") (.int 4)) (.int 5)) (by decide +kernel))
    | 5, _ => exact va_eqt (hs (.eq (.elem (.static (mm_sc 4).1 (mm_sc 4).2 "[I") (.int 5)) (.int 2)) (by decide +kernel))
    | 6, _ => exact va_eqt (hs (.eq (.elem (.static (mm_sc 4).1 (mm_sc 4).2 "[I") (.int 6)) (.int 3)) (by decide +kernel))
    | 7, _ => exact va_eqt (hs (.eq (.elem (.static (mm_sc 4).1 (mm_sc 4).2 "[I") (.int 7)) (.int 6)) (by decide +kernel))
    | 8, _ => exact va_eqt (hs (.eq (.elem (.static (mm_sc 4).1 (mm_sc 4).2 "[I") (.int 8)) (.int 9)) (by decide +kernel))
    | 9, _ => exact va_eqt (hs (.eq (.elem (.static (mm_sc 4).1 (mm_sc 4).2 "[I") (.int 9)) (.int 12)) (by decide +kernel))
    | 10, _ => exact va_eqt (hs (.eq (.elem (.static (mm_sc 4).1 (mm_sc 4).2 "[I") (.int 10)) (.int 13)) (by decide +kernel))
    | 11, _ => exact va_eqt (hs (.eq (.elem (.static (mm_sc 4).1 (mm_sc 4).2 "[I") (.int 11)) (.int 10)) (by decide +kernel))
    | 12, _ => exact va_eqt (hs (.eq (.elem (.static (mm_sc 4).1 (mm_sc 4).2 "[I") (.int 12)) (.int 7)) (by decide +kernel))
    | 13, _ => exact va_eqt (hs (.eq (.elem (.static (mm_sc 4).1 (mm_sc 4).2 "[I") (.int 13)) (.int 11)) (by decide +kernel))
    | 14, _ => exact va_eqt (hs (.eq (.elem (.static (mm_sc 4).1 (mm_sc 4).2 "[I") (.int 14)) (.int 14)) (by decide +kernel))
    | 15, _ => exact va_eqt (hs (.eq (.elem (.static (mm_sc 4).1 (mm_sc 4).2 "[I") (.int 15)) (.int 15)) (by decide +kernel))
    | n + 16, hj => exact absurd hj (by omega)) hA
  exact ⟨t, va_Zof (hts _ (List.mem_of_getElem? (i := 1128) (by decide +kernel))) (hts _ (List.mem_of_getElem? (i := 156) (by decide +kernel))) h1 hA, h2⟩
set_option maxRecDepth 100000 in
set_option maxHeartbeats 4000000 in
theorem mm_st5 {s : State} {b : Nat} (hts : ∀ w ∈ lw_tbl, w.before #[Value.ref b] s = true) (hgv : (Jvm.Cond.and given_1 narrow_1).before #[Value.ref b] s = true) (hA : ∀ a : Nat, a < s.heap.size → ¬ mm_A s.heap.size a) : ∃ t : Nat, va_Z (mm_sc 5).1 (mm_sc 5).2 "[I" (.ref t) (mm_A s.heap.size) s s.heap ∧ va_T .int t 7 (fun i => .int ((mm_xv 5).getD i 0)) (mm_A s.heap.size) s s.heap := by
  have hs := flat_of_before _ hgv
  obtain ⟨t, h1, h2⟩ := va_Tof (tm := (.static (mm_sc 5).1 (mm_sc 5).2 "[I")) (ty := .int) (N := 7) (f := fun i => .int ((mm_xv 5).getD i 0)) (by decide) (hs (.arrayOf (.static (mm_sc 5).1 (mm_sc 5).2 "[I") .int) (by decide +kernel)) (va_eqt (hs (.eq (.length (.static (mm_sc 5).1 (mm_sc 5).2 "[I")) (.int 7)) (by decide +kernel))) (fun j hj => by
    match j, hj with
    | 0, _ => exact va_eqt (hs (.eq (.elem (.static (mm_sc 5).1 (mm_sc 5).2 "[I") (.int 0)) (.int 77)) (by decide +kernel))
    | 1, _ => exact va_eqt (hs (.eq (.elem (.static (mm_sc 5).1 (mm_sc 5).2 "[I") (.int 1)) (.int 70)) (by decide +kernel))
    | 2, _ => exact va_eqt (hs (.eq (.elem (.static (mm_sc 5).1 (mm_sc 5).2 "[I") (.int 2)) (.int 0)) (by decide +kernel))
    | 3, _ => exact va_eqt (hs (.eq (.elem (.static (mm_sc 5).1 (mm_sc 5).2 "[I") (.int 3)) (.int 1)) (by decide +kernel))
    | 4, _ => exact va_eqt (hs (.eq (.elem (.static (mm_sc 5).1 (mm_sc 5).2 "[I") (.int 4)) (.int 1)) (by decide +kernel))
    | 5, _ => exact va_eqt (hs (.eq (.elem (.static (mm_sc 5).1 (mm_sc 5).2 "[I") (.int 5)) (.int 1)) (by decide +kernel))
    | 6, _ => exact va_eqt (hs (.eq (.elem (.static (mm_sc 5).1 (mm_sc 5).2 "[I") (.int 6)) (.int 1)) (by decide +kernel))
    | n + 7, hj => exact absurd hj (by omega)) hA
  exact ⟨t, va_Zof (hts _ (List.mem_of_getElem? (i := 1184) (by decide +kernel))) (hts _ (List.mem_of_getElem? (i := 159) (by decide +kernel))) h1 hA, h2⟩
set_option maxRecDepth 100000 in
set_option maxHeartbeats 4000000 in
theorem mm_st6 {s : State} {b : Nat} (hts : ∀ w ∈ lw_tbl, w.before #[Value.ref b] s = true) (hgv : (Jvm.Cond.and given_1 narrow_1).before #[Value.ref b] s = true) (hA : ∀ a : Nat, a < s.heap.size → ¬ mm_A s.heap.size a) : ∃ t : Nat, va_Z (mm_sc 6).1 (mm_sc 6).2 "[I" (.ref t) (mm_A s.heap.size) s s.heap ∧ va_T .int t 7 (fun i => .int ((mm_xv 6).getD i 0)) (mm_A s.heap.size) s s.heap := by
  have hs := flat_of_before _ hgv
  obtain ⟨t, h1, h2⟩ := va_Tof (tm := (.static (mm_sc 6).1 (mm_sc 6).2 "[I")) (ty := .int) (N := 7) (f := fun i => .int ((mm_xv 6).getD i 0)) (by decide) (hs (.arrayOf (.static (mm_sc 6).1 (mm_sc 6).2 "[I") .int) (by decide +kernel)) (va_eqt (hs (.eq (.length (.static (mm_sc 6).1 (mm_sc 6).2 "[I")) (.int 7)) (by decide +kernel))) (fun j hj => by
    match j, hj with
    | 0, _ => exact va_eqt (hs (.eq (.elem (.static (mm_sc 6).1 (mm_sc 6).2 "[I") (.int 0)) (.int 77)) (by decide +kernel))
    | 1, _ => exact va_eqt (hs (.eq (.elem (.static (mm_sc 6).1 (mm_sc 6).2 "[I") (.int 1)) (.int 70)) (by decide +kernel))
    | 2, _ => exact va_eqt (hs (.eq (.elem (.static (mm_sc 6).1 (mm_sc 6).2 "[I") (.int 2)) (.int 2)) (by decide +kernel))
    | 3, _ => exact va_eqt (hs (.eq (.elem (.static (mm_sc 6).1 (mm_sc 6).2 "[I") (.int 3)) (.int 3)) (by decide +kernel))
    | 4, _ => exact va_eqt (hs (.eq (.elem (.static (mm_sc 6).1 (mm_sc 6).2 "[I") (.int 4)) (.int 3)) (by decide +kernel))
    | 5, _ => exact va_eqt (hs (.eq (.elem (.static (mm_sc 6).1 (mm_sc 6).2 "[I") (.int 5)) (.int 60)) (by decide +kernel))
    | 6, _ => exact va_eqt (hs (.eq (.elem (.static (mm_sc 6).1 (mm_sc 6).2 "[I") (.int 6)) (.int 12)) (by decide +kernel))
    | n + 7, hj => exact absurd hj (by omega)) hA
  exact ⟨t, va_Zof (hts _ (List.mem_of_getElem? (i := 1269) (by decide +kernel))) (hts _ (List.mem_of_getElem? (i := 159) (by decide +kernel))) h1 hA, h2⟩
theorem mm_strE {args : Array Value} {s : State} {own : String} {k : Nat} {C : String} (h : (Jvm.Cond.exactly (.string own k) C).before args s = true) : ∃ a, (Term.string own k).eval args s none [] s = some (.ref a) := by
  cases hv : (Term.string own k).eval args s none [] s with
  | none => simp [Cond.before, Cond.holds, Cond.value, hv] at h
  | some w =>
    cases w with
    | ref a => exact ⟨a, rfl⟩
    | _ => cases hc : s.vm.findClass C <;> simp [Cond.before, Cond.holds, Cond.value, hv, hc] at h
set_option maxRecDepth 100000 in
set_option maxHeartbeats 4000000 in
theorem mm_srE {s : State} {b : Nat} (hts : ∀ w ∈ lw_tbl, w.before #[Value.ref b] s = true) (hgv : (Jvm.Cond.and given_1 narrow_1).before #[Value.ref b] s = true) : ∀ q ∈ mm_sr, ∃ sa, vk_R RX11 q.1 q.2 sa s := by
  have hs := flat_of_before _ hgv
  have one : ∀ (k : Nat) (tx : String), Jvm.Cond.stringRef RX11 k tx ∈ lw_tbl → Jvm.Cond.exactly (.string RX11 k) "java/lang/String" ∈ flatC (Jvm.Cond.and given_1 narrow_1) → ∃ sa, vk_R RX11 k tx sa s := fun k tx h1 h2 => by
    obtain ⟨a, ha⟩ := mm_strE (hs _ h2)
    exact ⟨a, vk_R.of (hts _ h1) ha⟩
  unfold mm_sr
  simp only [List.forall_mem_cons]
  refine ⟨one _ _ (List.mem_of_getElem? (i := 717) (by decide +kernel)) (by decide +kernel), one _ _ (List.mem_of_getElem? (i := 746) (by decide +kernel)) (by decide +kernel), one _ _ (List.mem_of_getElem? (i := 760) (by decide +kernel)) (by decide +kernel), one _ _ (List.mem_of_getElem? (i := 840) (by decide +kernel)) (by decide +kernel), one _ _ (List.mem_of_getElem? (i := 850) (by decide +kernel)) (by decide +kernel), one _ _ (List.mem_of_getElem? (i := 851) (by decide +kernel)) (by decide +kernel), one _ _ (List.mem_of_getElem? (i := 868) (by decide +kernel)) (by decide +kernel), one _ _ (List.mem_of_getElem? (i := 881) (by decide +kernel)) (by decide +kernel), one _ _ (List.mem_of_getElem? (i := 896) (by decide +kernel)) (by decide +kernel), one _ _ (List.mem_of_getElem? (i := 914) (by decide +kernel)) (by decide +kernel), one _ _ (List.mem_of_getElem? (i := 922) (by decide +kernel)) (by decide +kernel), one _ _ (List.mem_of_getElem? (i := 933) (by decide +kernel)) (by decide +kernel), one _ _ (List.mem_of_getElem? (i := 934) (by decide +kernel)) (by decide +kernel), one _ _ (List.mem_of_getElem? (i := 942) (by decide +kernel)) (by decide +kernel), one _ _ (List.mem_of_getElem? (i := 954) (by decide +kernel)) (by decide +kernel), one _ _ (List.mem_of_getElem? (i := 966) (by decide +kernel)) (by decide +kernel), one _ _ (List.mem_of_getElem? (i := 967) (by decide +kernel)) (by decide +kernel), one _ _ (List.mem_of_getElem? (i := 987) (by decide +kernel)) (by decide +kernel), one _ _ (List.mem_of_getElem? (i := 992) (by decide +kernel)) (by decide +kernel), one _ _ (List.mem_of_getElem? (i := 1418) (by decide +kernel)) (by decide +kernel), one _ _ (List.mem_of_getElem? (i := 1452) (by decide +kernel)) (by decide +kernel), one _ _ (List.mem_of_getElem? (i := 1460) (by decide +kernel)) (by decide +kernel), one _ _ (List.mem_of_getElem? (i := 1474) (by decide +kernel)) (by decide +kernel), one _ _ (List.mem_of_getElem? (i := 1497) (by decide +kernel)) (by decide +kernel), one _ _ (List.mem_of_getElem? (i := 1505) (by decide +kernel)) (by decide +kernel), one _ _ (List.mem_of_getElem? (i := 1506) (by decide +kernel)) (by decide +kernel), one _ _ (List.mem_of_getElem? (i := 1557) (by decide +kernel)) (by decide +kernel), one _ _ (List.mem_of_getElem? (i := 1634) (by decide +kernel)) (by decide +kernel), one _ _ (List.mem_of_getElem? (i := 1656) (by decide +kernel)) (by decide +kernel), one _ _ (List.mem_of_getElem? (i := 1688) (by decide +kernel)) (by decide +kernel), one _ _ (List.mem_of_getElem? (i := 1710) (by decide +kernel)) (by decide +kernel), one _ _ (List.mem_of_getElem? (i := 1711) (by decide +kernel)) (by decide +kernel), one _ _ (List.mem_of_getElem? (i := 1732) (by decide +kernel)) (by decide +kernel), one _ _ (List.mem_of_getElem? (i := 1785) (by decide +kernel)) (by decide +kernel), fun q hq => absurd hq List.not_mem_nil⟩
set_option maxRecDepth 100000 in
theorem mm_nsE {s : State} {b : Nat} (hts : ∀ w ∈ lw_tbl, w.before #[Value.ref b] s = true) : ∀ q ∈ mm_ns, va_Nw (.methodLinkNest q.1 q.2.1 q.2.2 RX11) s := by
  unfold mm_ns
  simp only [List.forall_mem_cons]
  refine ⟨va_Nw.of rfl (hts _ (List.mem_of_getElem? (i := 192) (by decide +kernel))), va_Nw.of rfl (hts _ (List.mem_of_getElem? (i := 198) (by decide +kernel))), va_Nw.of rfl (hts _ (List.mem_of_getElem? (i := 225) (by decide +kernel))), va_Nw.of rfl (hts _ (List.mem_of_getElem? (i := 297) (by decide +kernel))), va_Nw.of rfl (hts _ (List.mem_of_getElem? (i := 310) (by decide +kernel))), va_Nw.of rfl (hts _ (List.mem_of_getElem? (i := 330) (by decide +kernel))), va_Nw.of rfl (hts _ (List.mem_of_getElem? (i := 468) (by decide +kernel))), va_Nw.of rfl (hts _ (List.mem_of_getElem? (i := 473) (by decide +kernel))), va_Nw.of rfl (hts _ (List.mem_of_getElem? (i := 476) (by decide +kernel))), va_Nw.of rfl (hts _ (List.mem_of_getElem? (i := 481) (by decide +kernel))), va_Nw.of rfl (hts _ (List.mem_of_getElem? (i := 483) (by decide +kernel))), va_Nw.of rfl (hts _ (List.mem_of_getElem? (i := 513) (by decide +kernel))), va_Nw.of rfl (hts _ (List.mem_of_getElem? (i := 515) (by decide +kernel))), va_Nw.of rfl (hts _ (List.mem_of_getElem? (i := 549) (by decide +kernel))), va_Nw.of rfl (hts _ (List.mem_of_getElem? (i := 768) (by decide +kernel))), va_Nw.of rfl (hts _ (List.mem_of_getElem? (i := 993) (by decide +kernel))), va_Nw.of rfl (hts _ (List.mem_of_getElem? (i := 1006) (by decide +kernel))), va_Nw.of rfl (hts _ (List.mem_of_getElem? (i := 1138) (by decide +kernel))), va_Nw.of rfl (hts _ (List.mem_of_getElem? (i := 1360) (by decide +kernel))), va_Nw.of rfl (hts _ (List.mem_of_getElem? (i := 1559) (by decide +kernel))), va_Nw.of rfl (hts _ (List.mem_of_getElem? (i := 1717) (by decide +kernel))), fun q hq => absurd hq List.not_mem_nil⟩
set_option maxRecDepth 100000 in
theorem mm_dyE {s : State} {b : Nat} (hts : ∀ w ∈ lw_tbl, w.before #[Value.ref b] s = true) : ∀ y ∈ mm_dy, va_Nw (.declares y) s := by
  unfold mm_dy
  simp only [List.forall_mem_cons]
  refine ⟨va_Nw.of rfl (hts _ (List.mem_of_getElem? (i := 679) (by decide +kernel))), va_Nw.of rfl (hts _ (List.mem_of_getElem? (i := 680) (by decide +kernel))), va_Nw.of rfl (hts _ (List.mem_of_getElem? (i := 681) (by decide +kernel))), va_Nw.of rfl (hts _ (List.mem_of_getElem? (i := 682) (by decide +kernel))), va_Nw.of rfl (hts _ (List.mem_of_getElem? (i := 683) (by decide +kernel))), va_Nw.of rfl (hts _ (List.mem_of_getElem? (i := 684) (by decide +kernel))), fun q hq => absurd hq List.not_mem_nil⟩
set_option maxRecDepth 100000 in
theorem mm_caE {s : State} {b : Nat} (hts : ∀ w ∈ lw_tbl, w.before #[Value.ref b] s = true) : ∀ k, k < 3 → va_Nw (.castable (mm_xn k) (mm_xn k)) s := by
  intro k hk
  match k, hk with
  | 0, _ => exact va_Nw.of rfl (hts _ (List.mem_of_getElem? (i := 678) (by decide +kernel)))
  | 1, _ => exact va_Nw.of rfl (hts _ (List.mem_of_getElem? (i := 753) (by decide +kernel)))
  | 2, _ => exact va_Nw.of rfl (hts _ (List.mem_of_getElem? (i := 833) (by decide +kernel)))
  | n + 3, h => exact absurd h (by omega)
set_option maxRecDepth 100000 in
theorem mm_ncE {s : State} {b : Nat} (hts : ∀ w ∈ lw_tbl, w.before #[Value.ref b] s = true) (hgv : (Jvm.Cond.and given_1 narrow_1).before #[Value.ref b] s = true) : ∀ k j, k < 3 → j < 3 → k ≠ j → va_Nc (mm_xn k) (mm_xn j) s := by
  have hs := flat_of_before _ hgv
  intro k j hk hj hn
  match k, j, hk, hj, hn with
  | 0, 1, _, _, _ => exact va_Nc.of (hs (.not (.castable (mm_xn 0) (mm_xn 1))) (by decide +kernel))
  | 0, 2, _, _, _ => exact va_Nc.of (hs (.not (.castable (mm_xn 0) (mm_xn 2))) (by decide +kernel))
  | 1, 0, _, _, _ => exact va_Nc.of (hs (.not (.castable (mm_xn 1) (mm_xn 0))) (by decide +kernel))
  | 1, 2, _, _, _ => exact va_Nc.of (hs (.not (.castable (mm_xn 1) (mm_xn 2))) (by decide +kernel))
  | 2, 0, _, _, _ => exact va_Nc.of (hs (.not (.castable (mm_xn 2) (mm_xn 0))) (by decide +kernel))
  | 2, 1, _, _, _ => exact va_Nc.of (hs (.not (.castable (mm_xn 2) (mm_xn 1))) (by decide +kernel))
  | 0, 0, _, _, h => exact absurd rfl h
  | 1, 1, _, _, h => exact absurd rfl h
  | 2, 2, _, _, h => exact absurd rfl h
  | n + 3, _, h, _, _ => exact absurd h (by omega)
  | _, n + 3, _, h, _ => exact absurd h (by omega)
set_option maxRecDepth 100000 in
theorem mm_uE {s : State} {b : Nat} (hts : ∀ w ∈ lw_tbl, w.before #[Value.ref b] s = true) (k : Nat) : ∃ q : ClassId × (Nat → Nat), ∀ r, mm_cls[k]? = some r → u_Kn s r.1 r.2.1 r.2.2 q.1 q.2 := by
  have htw : ∀ w ∈ mm_TW, w.before #[Value.ref b] s = true := fun w hw => hts w (List.mem_filter.mp hw).1
  by_cases h13 : k < 13
  · cases hr : mm_cls[k]? with
    | none => exact ⟨(0, fun _ => 0), fun r h => by cases h⟩
    | some r =>
      obtain ⟨g1, g2, g3, g4, g5, g6⟩ := mm_clsF h13 r hr
      obtain ⟨cC, iS, h⟩ := u_known htw g4 (htw _ g5)
      exact ⟨(cC, iS), fun r' h' => by cases h'; exact h⟩
  · have key : ∀ (C : String) (n : Nat), Jvm.Cond.instantiable C n ∈ lw_tbl → ∃ q : ClassId × (Nat → Nat), u_Kn s C mm_TE 0 q.1 q.2 := fun C n h => by
      obtain ⟨cC, iS, h⟩ := u_known (ws := lw_tbl) (C := C) (T := mm_TE) (N := 0) hts (fun w hw => by cases hw) (hts _ h)
      exact ⟨(cC, iS), h⟩
    by_cases h16 : k < 16
    · have h : k = 13 ∨ k = 14 ∨ k = 15 := by omega
      rcases h with rfl | rfl | rfl
      · obtain ⟨q, hq⟩ := key (mm_xn 0) 6 (List.mem_of_getElem? (i := 677) (by decide +kernel))
        exact ⟨q, fun r h => by cases h; exact hq⟩
      · obtain ⟨q, hq⟩ := key (mm_xn 1) 6 (List.mem_of_getElem? (i := 752) (by decide +kernel))
        exact ⟨q, fun r h => by cases h; exact hq⟩
      · obtain ⟨q, hq⟩ := key (mm_xn 2) 6 (List.mem_of_getElem? (i := 832) (by decide +kernel))
        exact ⟨q, fun r h => by cases h; exact hq⟩
    · exact ⟨(0, fun _ => 0), fun r h => absurd (List.getElem?_eq_some_iff.mp h).1 (by rw [show mm_cls.length = 16 from rfl]; omega)⟩
set_option maxRecDepth 100000 in
theorem mm_cyE {s : State} {b : Nat} (hts : ∀ w ∈ lw_tbl, w.before #[Value.ref b] s = true) (k : Nat) : ∃ cA : ClassId, k < 8 → ArrOfT s cA (mm_at k) ∧ va_RA s cA (mm_at k) := by
  have prim : ∀ ty : FieldType, Jvm.Cond.arrayClass ty ∈ lw_tbl → ∃ cA, ArrOfT s cA ty ∧ s.vm.findClass ("[" ++ ty.toString) = some cA := fun ty h => by
    obtain ⟨cA, kA, comp, h1, h2, h3⟩ := Cond.arrayClass_spec (hts _ h)
    exact ⟨cA, fun n z => ⟨fun k h => (by cases h), kA, h2, comp, h3⟩, h1⟩
  have obj : ∀ C : String, Jvm.Cond.arrayOver (.object C) ∈ lw_tbl → ∃ cA, ArrOfT s cA (.object C) ∧ va_RA s cA (.object C) := fun C h => by
    obtain ⟨comp, cA, kA, f1, f2, f3, f4, f5⟩ := Cond.arrayOver_spec (hts _ h)
    exact ⟨cA, fun n z => ⟨fun k h => (by cases h), kA, f3, comp, f4⟩, kA, comp, f3, f4, f1, f5⟩
  by_cases h8 : k < 8
  · match k, h8 with
    | 0, _ => obtain ⟨cA, h1, h2⟩ := prim .int (List.mem_of_getElem? (i := 222) (by decide +kernel)); exact ⟨cA, fun _ => ⟨h1, h2⟩⟩
    | 1, _ => obtain ⟨cA, h1, h2⟩ := prim .byte (List.mem_of_getElem? (i := 221) (by decide +kernel)); exact ⟨cA, fun _ => ⟨h1, h2⟩⟩
    | 2, _ => obtain ⟨cA, h1, h2⟩ := prim .boolean (List.mem_of_getElem? (i := 443) (by decide +kernel)); exact ⟨cA, fun _ => ⟨h1, h2⟩⟩
    | 3, _ => obtain ⟨cA, h1, h2⟩ := prim .long (List.mem_of_getElem? (i := 2801) (by decide +kernel)); exact ⟨cA, fun _ => ⟨h1, h2⟩⟩
    | 4, _ => obtain ⟨cA, h⟩ := obj RX2 (List.mem_of_getElem? (i := 185) (by decide +kernel)); exact ⟨cA, fun _ => h⟩
    | 5, _ => obtain ⟨cA, h⟩ := obj RX3 (List.mem_of_getElem? (i := 187) (by decide +kernel)); exact ⟨cA, fun _ => h⟩
    | 6, _ => obtain ⟨cA, h⟩ := obj RX6 (List.mem_of_getElem? (i := 183) (by decide +kernel)); exact ⟨cA, fun _ => h⟩
    | 7, _ => obtain ⟨cA, h⟩ := obj RX7 (List.mem_of_getElem? (i := 189) (by decide +kernel)); exact ⟨cA, fun _ => h⟩
    | n + 8, h => exact absurd h (by omega)
  · exact ⟨0, fun h => absurd h h8⟩
set_option maxRecDepth 100000 in
theorem mm_aoE {s : State} {b : Nat} (hts : ∀ w ∈ lw_tbl, w.before #[Value.ref b] s = true) : ∀ k, 4 ≤ k → k < 8 → va_AO (mm_ow (mm_ac k)) s := by
  intro k h4 h8
  match k, h4, h8 with
  | 4, _, _ => exact va_AO.of (hts _ (List.mem_of_getElem? (i := 185) (by decide +kernel)))
  | 5, _, _ => exact va_AO.of (hts _ (List.mem_of_getElem? (i := 187) (by decide +kernel)))
  | 6, _, _ => exact va_AO.of (hts _ (List.mem_of_getElem? (i := 183) (by decide +kernel)))
  | 7, _, _ => exact va_AO.of (hts _ (List.mem_of_getElem? (i := 189) (by decide +kernel)))
  | n + 8, _, h => exact absurd h (by omega)
set_option maxRecDepth 100000 in
theorem mm_zqE {s : State} {b : Nat} (hts : ∀ w ∈ lw_tbl, w.before #[Value.ref b] s = true) (hgv : (Jvm.Cond.and given_1 narrow_1).before #[Value.ref b] s = true) (hA : ∀ a : Nat, a < s.heap.size → ¬ mm_A s.heap.size a) : vx_Zq Bundle.tN "UNASSIGNED_STACK" Bundle.steD (mm_A s.heap.size) s s.heap ∧ vx_Zq Bundle.tN "SUPPRESSED_SENTINEL" Bundle.listD (mm_A s.heap.size) s s.heap := by
  have hs := flat_of_before _ hgv
  exact ⟨vx_Zqof (hts _ (List.mem_of_getElem? (i := 703) (by decide +kernel))) (hts _ (List.mem_of_getElem? (i := 164) (by decide +kernel))) (hs _ (by decide +kernel)) hA, vx_Zqof (hts _ (List.mem_of_getElem? (i := 705) (by decide +kernel))) (hts _ (List.mem_of_getElem? (i := 164) (by decide +kernel))) (hs _ (by decide +kernel)) hA⟩
/-- all that the mini machine asks, at the law's entry -/
theorem mm_K2_start {s : State} {b L : Nat} {xs : Nat → Int32} (hts : ∀ w ∈ lw_tbl, w.before #[Value.ref b] s = true) (hgv : (Jvm.Cond.and given_1 narrow_1).before #[Value.ref b] s = true) (hX : va_X b L xs s s.heap) (hbl : b < s.heap.size) :
    ∃ (D : va_G) (cy : Nat → ClassId) (X : Nat → Nat), X 0 = b ∧ mm_K2 D cy X s.heap.size (mm_xt L xs) s := by
  have hA : ∀ a : Nat, a < s.heap.size → ¬ mm_A s.heap.size a := fun a h q => absurd h (Nat.not_lt.mpr q)
  obtain ⟨t1, z1⟩ := mm_st1 hts hgv hA
  obtain ⟨t2, z2⟩ := mm_st2 hts hgv hA
  obtain ⟨t3, z3⟩ := mm_st3 hts hgv hA
  obtain ⟨t4, z4⟩ := mm_st4 hts hgv hA
  obtain ⟨t5, z5⟩ := mm_st5 hts hgv hA
  obtain ⟨t6, z6⟩ := mm_st6 hts hgv hA
  refine ⟨(fun k => (Classical.choose (mm_uE hts k)).1, fun k => (Classical.choose (mm_uE hts k)).2), fun k => Classical.choose (mm_cyE hts k), fun j => match j with | 0 => b | 1 => t1 | 2 => t2 | 3 => t3 | 4 => t4 | 5 => t5 | _ => t6, rfl, ⟨⟨fun k r hr => Classical.choose_spec (mm_uE hts k) r hr, fun k q hq => ?_⟩, Nat.le_refl _, ⟨hX, hbl⟩, fun j h1 h7 => ?_, mm_aoE hts⟩, mm_zqE hts hgv hA, mm_srE hts hgv, mm_nsE hts, mm_dyE hts, mm_caE hts, mm_ncE hts hgv⟩
  · have hk : k < 8 := by
      have := (List.getElem?_eq_some_iff.mp hq).1
      simpa [mm_tys] using this
    rw [mm_tys_at _ hk] at hq
    cases hq
    exact Classical.choose_spec (mm_cyE hts k) hk
  · match j, h1, h7 with
    | 1, _, _ => exact z1
    | 2, _, _ => exact z2
    | 3, _, _ => exact z3
    | 4, _, _ => exact z4
    | 5, _, _ => exact z5
    | 6, _, _ => exact z6
    | n + 7, _, h => exact absurd h (by omega)
