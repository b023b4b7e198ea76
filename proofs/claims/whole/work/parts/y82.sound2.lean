section MmSound2
variable {xt : Nat → Nat × (Nat → Int32)}
theorem mm_tsF {mi pc : Nat} {f : Nat × Nat × Nat × Nat × Nat} (h : mm_lk (mm_tsT mi) pc = some f) : mm_tsC mi (pc, f) = true := mm_all (mm_tsK_all mi) (mm_lk_mem h)
theorem mm_ts3 {mi pc : Nat} {f : Nat × Nat × Nat × Nat × Nat} (h : mm_lk (mm_tsT mi) pc = some f) : f.1 < 3 := by
  have h1 := mm_tsF h
  unfold mm_tsC at h1
  obtain ⟨h1, -⟩ := mm_and h1
  obtain ⟨-, h1⟩ := mm_and h1
  obtain ⟨-, h1⟩ := mm_and h1
  obtain ⟨h1, -⟩ := mm_and h1
  exact mm_blt h1
theorem mm_ex_E {cl : mm_C} (hE3 : ∀ mi as h E h', cl mi as h = some (.inr (E, h')) → E < 3) {mi : Nat} : ∀ (n pc : Nat) (lv : mm_L) (st : List Value) (h : mm_H) (E : Nat) (h' : mm_H), mm_ex xt cl mi n pc lv st h = some (.inr (E, h')) → E < 3 := by
  intro n
  induction n with
  | zero => intro pc lv st h E h' hh; cases hh
  | succ n ih =>
    intro pc lv st h E h' hh
    simp only [mm_ex] at hh
    split at hh
    · cases hh
    · split at hh
      · exact ih _ _ _ _ _ _ hh
      · split at hh
        · exact ih _ _ _ _ _ _ hh
        · split at hh
          · exact ih _ _ _ _ _ _ hh
          · split at hh
            · cases hh
            · split at hh
              · next f hf =>
                replace hh := mm_cond hh
                obtain ⟨-, hh⟩ := hh
                cases hh
                exact mm_ts3 hf
              · split at hh
                · exact ih _ _ _ _ _ _ hh
                · next E1 h1 rr hq =>
                  split at hh
                  · split at hh
                    · cases hh; exact mm_iv_E hE3 hq
                    · cases hh
                  · split at hh
                    · cases hh
                    · split at hh
                      · cases hh
                      · replace hh := mm_cond hh
                        obtain ⟨-, hh⟩ := hh
                        exact ih _ _ _ _ _ _ hh
                · cases hh
theorem mm_run_E {n : Nat} : ∀ (d mi : Nat) (as : List Value) (h : mm_H) (E : Nat) (h' : mm_H), mm_run xt n d mi as h = some (.inr (E, h')) → E < 3 := by
  intro d
  induction d with
  | zero => intro mi as h E h' hh; cases hh
  | succ d ih =>
    intro mi as h E h' hh
    replace hh := mm_cond hh
    obtain ⟨-, hh⟩ := hh
    exact mm_ex_E ih _ _ _ _ _ _ _ hh
theorem mm_args (ad : Nat → Nat) : ∀ (as : List Value) (i : Nat), lv_args i (mm_cS ad as) = mm_cL ad (lv_args i as) := by
  intro as
  induction as with
  | nil => intro i; rfl
  | cons v t ih =>
    intro i
    show (i, mm_cV ad v) :: lv_args (if (mm_cV ad v).category = 2 then i + 2 else i + 1) (mm_cS ad t) = (i, mm_cV ad v) :: mm_cL ad (lv_args (if v.category = 2 then i + 2 else i + 1) t)
    rw [mm_cat, ih]
theorem mm_sllen (ad : Nat → Nat) (as : List Value) : (lg_sl (mm_cS ad as)).length = (lg_sl as).length := by
  induction as with
  | nil => rfl
  | cons v t ih =>
    have e1 : ∀ (w : Value) (ws : List Value), lg_sl (w :: ws) = (if w.category = 2 then [.val w, .second] else [.val w]) ++ lg_sl ws := fun w ws => by simp [lg_sl]
    show (lg_sl (mm_cV ad v :: mm_cS ad t)).length = _
    rw [e1, e1, List.length_append, List.length_append, ih, mm_cat]
    by_cases h2 : v.category = 2 <;> simp [h2]
variable {p : Program} {l : Launch} {e : Env} {R : Room} {s : State} {m : MethodId} {args : Array Value} {below : List Frame} {meth : Method} {c : Code}
variable {c0 s0 mi : Nat} {D : va_G} {cy : Nat → ClassId} {X : Nat → Nat} {B : Nat} {h : mm_H} {H : Heap} {locs : List Loc}
/-- an end by return -/
theorem mm_en_s (hexec : p.tables.exec = Jvm.exec) (hb : c.code = mm_b mi) (hr : meth.sig.returnType = (mm_MT mi).2.2.1) (hlocks : meth.locks = false) {pc : Nat} {ls : Array Slot} {st : List Value} {v : Option Value} {i : Instr × Nat} (hd : decode (mm_b mi) pc = .ok i) (hv : mm_en (mm_MT mi).2.2.1 i.1 i.2 st = some v) (hHP : mm_HP D B X cy h H) (hS : va_S (mm_A B) s.heap H locs) :
    W p l e R s m args below meth c H locs (h.1 - c0) (h.2.1 - s0) (vx_MQ below (mm_Qc D cy X B (.inl (v, h))) (mm_XC D cy X B (.inl (v, h))) args s (h.1 - c0) (h.2.1 - s0) (mm_A B)) (F0 m pc ls (mm_cS (mm_ad B X) st)) := by
  obtain ⟨ins, len⟩ := i
  have hq : ∀ t : State, t.heap = H → s.WarmedH t.vm → mm_Qc D cy X B (.inl (v, h)) args s (.returned (v.map (mm_cV (mm_ad B X)))) t := fun t ht _ => ⟨rfl, by rw [ht]; exact hHP, hS.F ht⟩
  cases ins
  case return_ =>
    simp only [mm_en] at hv
    split at hv
    · next e1 =>
      replace hv := mm_cond hv
      obtain ⟨b1, b2⟩ := hv
      cases b2
      rw [mm_beq b1] at hd
      rw [e1] at hr
      exact vx_ret (W.vret hexec hb hr hq hS.2.2 hd hlocks)
    · cases hv
  case ireturn =>
    simp only [mm_en] at hv
    split at hv
    · next x e1 =>
      replace hv := mm_cond hv
      obtain ⟨b1, b2⟩ := hv
      cases b2
      rw [mm_beq b1] at hd
      rw [e1] at hr
      exact vx_ret (W.iret (v := x) hexec hb hr hq hS.2.2 hd hlocks)
    · next x e1 =>
      replace hv := mm_cond hv
      obtain ⟨b1, b2⟩ := hv
      cases b2
      obtain ⟨b1, b3⟩ := mm_and b1
      rw [mm_beq b1] at hd
      rw [e1] at hr
      have hn : narrow .boolean (.int x) = .int x := by
        simp only [Bool.or_eq_true, beq_iff_eq] at b3
        rcases b3 with rfl | rfl <;> rfl
      exact vx_ret (W.zret (v := x) hexec hb hr hn hq hS.2.2 hd hlocks)
    · cases hv
  case areturn =>
    simp only [mm_en] at hv
    split at hv
    · next n a e1 =>
      replace hv := mm_cond hv
      obtain ⟨b1, b2⟩ := hv
      cases b2
      rw [mm_beq b1] at hd
      rw [e1] at hr
      exact vx_ret (W.aret (v := .ref (mm_ad B X a)) hexec hb hr (Or.inl ⟨n, rfl⟩) (Or.inr ⟨_, rfl⟩) hq hS.2.2 hd hlocks)
    · cases hv
  all_goals (exact absurd hv (by simp [mm_en]))
/-- the heap behind a throw -/
theorem mm_hp_thr (hK : mm_K2 D cy X B xt s) (hHP : mm_HP D B X cy h H) {E : Nat} (hE : E < 3) {t : State} {ce : Cell} (h6 : h.1 < 1000000) (hsz : t.heap.size = H.size + 1) (ho : ∀ q : Nat, q < H.size → t.heap[q]? = H[q]?) (hce : t.heap[H.size]? = some ce) (hcv : ce.vm = .none) (hfc : s.vm.findClass (mm_xn E) = some ce.cls) :
    mm_HP D B X cy (h.1 + 1, h.2.1 + 6, va_up h.2.2 h.1 (.inr (13 + E, []))) t.heap := by
  have hc : mm_cls[13 + E]? = some (mm_xn E, mm_TE, 0) := by
    match E, hE with
    | 0, _ => rfl
    | 1, _ => rfl
    | 2, _ => rfl
    | n + 3, h => exact absurd h (by omega)
  have hk : ∀ (k : Nat) (x : Nat × va_E), (mm_ws B X cy h)[k]? = some x → t.heap[x.1]? = H[x.1]? := fun k x hx => ho x.1 ((hHP.1 k x hx).lt)
  have hcls : ce.cls = D.1 (13 + E) := Option.some.inj (hfc.symm.trans (hK.1.1.1 (13 + E) _ hc).2.1)
  refine mm_hp_of ?_ (Nat.succ_pos _) (by show t.heap.size ≤ B + (h.1 + 1); rw [hsz, hHP.2.1]; omega) (by show h.1 + 1 ≤ 1000000; omega)
  rw [← mm_ws_push (.inr (13 + E, [])) (h.2.1 + 6)]
  refine (hHP.1.kept hk).app (fun k x hx => ?_)
  have hz : k < 1 := (List.getElem?_eq_some_iff.mp hx).1
  rw [show k = 0 by omega] at hx
  cases hx
  exact ⟨_, hc, ce, by show t.heap[B + h.1]? = some ce; rw [← hHP.2.1]; exact hce, hcls, hcv, fun k hk => absurd hk (Nat.not_lt_zero _)⟩
/-- an exception made and thrown -/
theorem mm_th_s (hexec : p.tables.exec = Jvm.exec) (hb : c.code = mm_b mi) (hlt : l.stackTraces = false) (hts : ∀ w ∈ mm_TW, w.before args s = true) (hown : s.vm.findClass (mm_ow (mm_MT mi).1) = some m.cls) (hK : mm_K2 D cy X B xt s) (hdec : ∀ (pc : Nat) (x : Instr × Nat), mm_cd mi pc = some x → decode (mm_b mi) pc = .ok x) (hlocks : meth.locks = false) (hex : ∀ x ∈ c.exceptionTable.toList, False) (hRf : 11 ≤ R.frames) (hRl : 360 ≤ R.locals)
    {pc : Nat} {f : Nat × Nat × Nat × Nat × Nat} {ls : Array Slot} {st : List Value} (hf : mm_lk (mm_tsT mi) pc = some f) (h6 : h.1 < 1000000) (hst : mm_small st = true) (hls : ls.size = c.maxLocals) (hc0 : c0 ≤ h.1) (hs0 : s0 ≤ h.2.1) (hRc : h.1 + 1 - c0 ≤ R.cells) (hRs : h.2.1 + 6 - s0 ≤ R.slots) (hHP : mm_HP D B X cy h H) (hS : va_S (mm_A B) s.heap H locs) :
    W p l e R s m args below meth c H locs (h.1 - c0) (h.2.1 - s0) (vx_MQ below (mm_Qc D cy X B (.inr (f.1, (h.1 + 1, h.2.1 + 6, va_up h.2.2 h.1 (.inr (13 + f.1, [])))))) (mm_XC D cy X B (.inr (f.1, (h.1 + 1, h.2.1 + 6, va_up h.2.2 h.1 (.inr (13 + f.1, [])))))) args s (h.1 + 1 - c0) (h.2.1 + 6 - s0) (mm_A B)) (F0 m pc ls (mm_cS (mm_ad B X) st)) := by
  have hC := mm_tsF hf
  unfold mm_tsC at hC
  obtain ⟨g1, g2⟩ := mm_and hC
  obtain ⟨g3, g4⟩ := mm_and g1
  obtain ⟨g5, g6⟩ := mm_and g4
  obtain ⟨g7, g8⟩ := mm_and g6
  obtain ⟨g9, g10⟩ := mm_and g8
  obtain ⟨g11, g12⟩ := mm_and g2
  obtain ⟨g13, g14⟩ := mm_and g12
  obtain ⟨g15, g16⟩ := mm_and g14
  have hE : f.1 < 3 := mm_blt g7
  have ei : f.2.1 = mm_xi f.1 := mm_beq g9
  have ec : f.2.2.2.1 = mm_xc f.1 := mm_beq g10
  have h11 : (mm_MT mi).1 = 11 := mm_beq g3
  have hownX : s.vm.findClass RX11 = some m.cls := by rw [h11] at hown; exact hown
  obtain ⟨⟨x1, x2, x3, x4⟩, xall⟩ := mm_xF hE
  obtain ⟨z, hz, hzi⟩ := List.any_eq_true.mp g11
  obtain ⟨sa, hsa⟩ := hK.2.2.1 z hz
  have ezi : z.1 = f.2.2.1 := mm_beq hzi
  rw [ezi] at hsa
  have hw : ∀ w ∈ vx_atS RX11 (mm_xc f.1) (mm_xn f.1) mm_up2, vx_ot w = true ∧ w.before args s = true := by
    intro w hw
    have h1 := List.all_eq_true.mp xall w hw
    unfold mm_wC at h1
    obtain ⟨h1, h2⟩ := mm_and h1
    refine ⟨h1, ?_⟩
    simp only [Bool.or_eq_true] at h2
    rcases h2 with h2 | h2 | h2
    · obtain ⟨h2, h3⟩ := mm_and h2
      exact hts _ (List.mem_filter.mpr ⟨of_decide_eq_true h2, h3⟩)
    · obtain ⟨y, hy, rfl⟩ := List.mem_map.mp (of_decide_eq_true h2)
      exact va_Nw.use rfl (hK.2.2.2.2.1 y hy)
    · rw [of_decide_eq_true h2]
      exact va_Nw.use rfl (hK.2.2.2.2.2.1 _ hE)
  have hgood : ∀ w ∈ Jvm.Cond.classLink RX11 (mm_xi f.1) (mm_xn f.1) :: Jvm.Cond.initialized (mm_xn f.1) :: vx_atS RX11 (mm_xc f.1) (mm_xn f.1) mm_up2, vx_ot w = true := by
    intro w hw'
    rcases List.mem_cons.mp hw' with rfl | hw'
    · rfl
    · rcases List.mem_cons.mp hw' with rfl | hw'
      · rfl
      · exact (hw w hw').1
  have hout : ∀ pc', ∀ x ∈ c.exceptionTable.toList, covers x pc' = false := fun pc' x hx => (hex x hx).elim
  have hsum := mm_small_s (ad := mm_ad B X) hst
  have hx : ∀ (t : State) (ce : Cell), s.vm.Alike t.vm → t.heap.size = H.size + 1 → (∀ q : Nat, q < H.size → t.heap[q]? = H[q]?) → t.heap[H.size]? = some ce → ce.vm = .none → s.vm.findClass (mm_xn f.1) = some ce.cls → mm_XC D cy X B (.inr (f.1, (h.1 + 1, h.2.1 + 6, va_up h.2.2 h.1 (.inr (13 + f.1, []))))) (mm_xn f.1) s t := by
    intro t ce _ hsz ho hce hcv hfc
    refine ⟨rfl, mm_hp_thr hK hHP hE h6 hsz ho hce hcv hfc, ?_, fun q h1 h2 => ?_⟩
    · rw [hsz]; exact Nat.le_trans hS.1 (Nat.le_succ _)
    · exact (ho q (Nat.lt_of_lt_of_le h1 hS.1)).trans (hS.2.1 q h1 h2)
  have e1 : h.1 - c0 + 1 ≤ R.cells := by omega
  have e2 : h.2.1 - s0 + 6 ≤ R.slots := by omega
  have d0 : decode (mm_b mi) pc = .ok (.new (mm_xi f.1), 3) := by rw [← ei]; exact hdec _ _ (of_decide_eq_true g13)
  have d3 : decode (mm_b mi) (pc + 3) = .ok (.dup, 1) := hdec _ _ (of_decide_eq_true g15)
  cases hwd : Nat.beq f.2.2.2.2 1 with
  | true =>
    rw [show Nat.beq (pc, f).2.2.2.2.2 1 = true from hwd] at g16
    obtain ⟨g17, g18⟩ := mm_and g16
    obtain ⟨g18, g19⟩ := mm_and g18
    exact mm_throwSW (text := z.2) (names := mm_up2) (A := mm_A B) (ic := mm_xc f.1) hexec hb hlt hownX x4 mm_up2F (hts _ x1) (hts _ x2) hsa (fun w h9 => (hw w h9).2) hgood hK.2.1.1 hK.2.1.2 hS hls d0 d3 (hdec _ _ (of_decide_eq_true g17)) (by rw [← ec]; exact hdec _ _ (of_decide_eq_true g18)) (hdec _ _ (of_decide_eq_true g19)) (hout _) (show 2 + 3 < R.frames by omega) (show _ + (13 * (2 + 1) + 43) ≤ R.locals by omega) e1 e2 hlocks hx hS.2.2 (by omega) (by omega)
  | false =>
    rw [show Nat.beq (pc, f).2.2.2.2.2 1 = false from hwd] at g16
    obtain ⟨g17, g18⟩ := mm_and g16
    obtain ⟨g18, g19⟩ := mm_and g18
    exact mm_throwS (text := z.2) (names := mm_up2) (A := mm_A B) (ic := mm_xc f.1) hexec hb hlt hownX x4 mm_up2F (hts _ x1) (hts _ x2) hsa (fun w h9 => (hw w h9).2) hgood hK.2.1.1 hK.2.1.2 hS hls d0 d3 (hdec _ _ (of_decide_eq_true g17)) (by rw [← ec]; exact hdec _ _ (of_decide_eq_true g18)) (hdec _ _ (of_decide_eq_true g19)) (hout _) (show 2 + 3 < R.frames by omega) (show _ + (13 * (2 + 1) + 43) ≤ R.locals by omega) e1 e2 hlocks hx hS.2.2 (by omega) (by omega)
end MmSound2
