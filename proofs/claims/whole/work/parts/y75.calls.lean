/-! contracts: what a run of the mini machine says of the machine -/
section MmCon
variable (D : va_G) (cy : Nat → ClassId) (X : Nat → Nat) (B : Nat) (xt : Nat → Nat × (Nat → Int32))
def mm_Qr (v : Option Value) (h' : mm_H) : Array Value → State → Outcome → State → Prop := fun _ st o t => o = .returned (v.map (mm_cV (mm_ad B X))) ∧ mm_HP D B X cy h' t.heap ∧ va_F (mm_A B) st t
def mm_Xt (E : Nat) (h' : mm_H) : String → State → State → Prop := fun n st t => n = mm_xn E ∧ mm_HP D B X cy h' t.heap ∧ va_F (mm_A B) st t
def mm_Qc (r : mm_R) : Array Value → State → Outcome → State → Prop := match r with
  | .inl q => mm_Qr D cy X B q.1 q.2
  | .inr _ => fun _ _ _ _ => False
def mm_XC (r : mm_R) : String → State → State → Prop := match r with
  | .inl _ => fun _ _ _ => False
  | .inr q => mm_Xt D cy X B q.1 q.2
def mm_Pc (as : List Value) (h : mm_H) : Array Value → State → Prop := fun v U => v = (mm_cS (mm_ad B X) as).toArray ∧ mm_HP D B X cy h U.heap ∧ mm_K2 D cy X B xt U
def mm_rm (d c k : Nat) : Room := { frames := d + 10, cells := c, slots := k, locals := 60 * d + 300 }
def mm_Con (l : Launch) (d mi : Nat) (as : List Value) (h : mm_H) (r : mm_R) : Prop :=
  vx_Met l (mm_y mi) (mm_hw mi :: mm_TW) (mm_rm d ((mm_rh r).1 - h.1) ((mm_rh r).2.1 - h.2.1)) (mm_Pc D cy X B xt as h) (mm_Qc D cy X B r) (mm_XC D cy X B r) ((mm_rh r).1 - h.1) ((mm_rh r).2.1 - h.2.1) (mm_A B)
end MmCon
theorem mm_good {w : Jvm.Cond} (h : w ∈ mm_TW) : w ∈ mm_TW ∧ ((w.onTables && w.keeps) = true ∨ ∃ ty, w = .arrayClass ty) := ⟨h, good_of_word (List.mem_filter.mp h).2⟩
theorem mm_goodL {L : List Jvm.Cond} (h : ∀ w ∈ L, w ∈ mm_TW) : GoodIn mm_TW L := fun w hw => mm_good (h w hw)
section MmCalls
variable {p : Program} {l : Launch} {e : Env} {R : Room} {s : State} {m : MethodId} {args : Array Value} {below : List Frame} {meth : Method} {c : Code} {H : Heap} {locs : List Loc} {cells slots mc ms : Nat} {Q : State → Prop}
variable {cc : ByteArray} {pc : Nat} {ls : Array Slot} {rest st : List Value} {D : va_G} {cy : Nat → ClassId} {X : Nat → Nat} {B : Nat} {xt : Nat → Nat × (Nat → Int32)} {h : mm_H}
theorem mm_blind (as : List Value) (h : mm_H) : FrameBlind (mm_Pc D cy X B xt as h) := fun a U g mk q => ⟨q.1, q.2.1, mm_K2_mv (U := U.calling g mk a) (State.WarmedH.refl U) (Nat.le_refl _) (fun _ _ _ => rfl) q.2.2⟩
/-- the frame behind a call -/
theorem mm_after {st₀ t : State} {L : List Loc} (hS : va_S (mm_A B) s.heap H locs) (h0 : st₀.heap = H) (hF : va_F (mm_A B) st₀ t) (hL : ∀ q ∈ L, mm_A B q.base) : va_S (mm_A B) s.heap t.heap (locs ++ L) := by
  obtain ⟨f1, f2⟩ := hF
  rw [h0] at f1 f2
  refine ⟨Nat.le_trans hS.1 f1, fun q h1 h2 => (f2 q (Nat.lt_of_lt_of_le h1 hS.1) h2).trans (hS.2.1 q h1 h2), fun x hx => ?_⟩
  rcases List.mem_append.mp hx with hx | hx
  · exact hS.2.2 x hx
  · exact hL x hx
/-- a call that came to its end: returned or thrown -/
theorem mm_called {r : mm_R} {a : Array Value} (hr : vx_Run p l e R s m args below meth c H locs cells slots mc ms (F0 m pc ls st) rest (mm_Qc D cy X B r a) (mm_XC D cy X B r) (mm_A B)) (hS : va_S (mm_A B) s.heap H locs)
    (kr : ∀ v h', r = .inl (v, h') → ∀ (H' : Heap) (locs' : List Loc), mm_HP D B X cy h' H' → va_S (mm_A B) s.heap H' locs' → W p l e R s m args below meth c H' locs' (cells + mc) (slots + ms) Q (F0 m (pc + 3) ls ((v.map (mm_cV (mm_ad B X))).toList ++ rest)))
    (kx : ∀ E h', r = .inr (E, h') → ∀ (H' : Heap) (locs' : List Loc) (q : Addr) (ce : Cell), mm_HP D B X cy h' H' → va_S (mm_A B) s.heap H' locs' → H'[q]? = some ce → ce.vm = .none → s.vm.findClass (mm_xn E) = some ce.cls → vx_W p l e R s m args below meth c H' locs' (cells + mc) (slots + ms) Q (F0 m pc ls rest) q) :
    W p l e R s m args below meth c H locs cells slots Q (F0 m pc ls st) := by
  intro T hT Y
  rcases hr T hT Y with ⟨v, st₀, t, T', L, h0, X', hL, e1, e2, hq, hst⟩ | ⟨q, st₀, t, T', L, E, ce, h0, X', hL, e1, e2, hq, hce, hcv, hcl, hst⟩
  · cases r with
    | inl x =>
      obtain ⟨v1, h1⟩ := x
      obtain ⟨ho, hHP, hF⟩ := hq
      cases ho
      obtain ⟨t2, a1, b1⟩ := kr v1 h1 rfl t.heap (locs ++ L) hHP (mm_after hS h0 hF hL) T' e1 X'
      exact ⟨t2, hst t2 a1, b1⟩
    | inr x => exact hq.elim
  · cases r with
    | inl x => exact hq.elim
    | inr x =>
      obtain ⟨E1, h1⟩ := x
      obtain ⟨rfl, hHP, hF⟩ := hq
      obtain ⟨t2, a1, b1⟩ := kx E1 h1 rfl t.heap (locs ++ L) q ce hHP (mm_after hS h0 hF hL) hce hcv hcl T' e1 X'
      exact ⟨t2, hst.trans a1, b1⟩
/-- a contract without throws is an ordinary one -/
theorem mm_met {y : MethodName} {ws : List Jvm.Cond} {rm : Room} {Pc : Array Value → State → Prop} {Qc : Array Value → State → Outcome → State → Prop} {free : Addr → Prop} (hM : vx_Met l y ws rm Pc Qc (fun _ _ _ => False) mc ms free) : Met l y ws rm Pc Qc mc ms free := by
  intro p e ha hc hk s m args below hf happ hP hK
  obtain ⟨k, o, h1, h2, h3, hQ⟩ := hM p e ha hc hk s m args below hf happ hP hK
  refine ⟨k, o, h1, h2, h3, ?_⟩
  rcases hQ with hQ | ⟨q, -, E, ce, L, hx, -⟩
  · exact hQ
  · exact hx.elim
/-- .. and its run one that may throw, but doesn't -/
theorem mm_runX {Qa : State → Outcome → State → Prop} {XC : String → State → State → Prop} {free : Addr → Prop} {g : JFrame} (hr : va_Run p l e R s m args below meth c H locs cells slots mc ms g rest Qa free) : vx_Run p l e R s m args below meth c H locs cells slots mc ms g rest Qa XC free := fun T hT Y => Or.inl (hr T hT Y)
theorem mm_take_s : ∀ (n : Nat) (st acc as r : List Value), mm_take n st acc = some (as, r) → ∃ xs, as = xs ++ acc ∧ st = xs.reverse ++ r ∧ xs.length = n := by
  intro n
  induction n with
  | zero => intro st acc as r h; cases h; exact ⟨[], rfl, rfl, rfl⟩
  | succ n ih =>
    intro st acc as r h
    cases st with
    | nil => cases h
    | cons v t =>
      obtain ⟨xs, h1, h2, h3⟩ := ih t (v :: acc) as r h
      refine ⟨xs ++ [v], by rw [h1, List.append_assoc]; rfl, by rw [h2]; simp, by simp [h3]⟩
theorem mm_take0 {n : Nat} {st as r : List Value} (h : mm_take n st [] = some (as, r)) : st = as.reverse ++ r ∧ as.length = n := by
  obtain ⟨xs, h1, h2, h3⟩ := mm_take_s n st [] as r h
  rw [List.append_nil] at h1
  subst h1
  exact ⟨h2, h3⟩
theorem mm_catL (ad : Nat → Nat) (r : List Value) : ((mm_cS ad r).map fun v => v.category) = r.map fun v => v.category := by
  induction r with
  | nil => rfl
  | cons v t ih =>
    show (mm_cV ad v).category :: _ = v.category :: _
    rw [mm_cat, ← ih]
theorem mm_small_s {ad : Nat → Nat} {r : List Value} (h : mm_small r = true) : ((mm_cS ad r).map fun v => v.category).sum ≤ 8 := by
  rw [mm_catL]
  exact Nat.le_of_ble_eq_true h
end MmCalls
