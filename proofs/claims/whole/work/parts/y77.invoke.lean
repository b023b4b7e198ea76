theorem mm_nLall : mm_MTL.all (fun q => Nat.ble q.2.1 41) = true := by decide +kernel
theorem mm_nL (mi : Nat) : (mm_MT mi).2.1 ≤ 41 := by
  unfold mm_MT
  rw [List.getD_eq_getElem?_getD]
  cases hq : mm_MTL[mi]? with
  | none => exact Nat.zero_le _
  | some q => exact Nat.le_of_ble_eq_true (List.all_eq_true.mp mm_nLall q (List.mem_of_getElem? hq))
theorem mm_initNall : mm_MTL.all (fun q => !(Nat.beq q.2.2.2.2.1 2) || decide (q.2.2.1 = none)) = true := by decide +kernel
theorem mm_initN {mi : Nat} (h : mi < 403) (hk : (mm_MT mi).2.2.2.2.1 = 2) : (mm_MT mi).2.2.1 = none := by
  have hl : mi < mm_MTL.length := by rw [show mm_MTL.length = 404 from by decide +kernel]; omega
  have e1 : mm_MT mi = mm_MTL[mi] := by
    unfold mm_MT
    rw [List.getD_eq_getElem?_getD, List.getElem?_eq_getElem hl]
    rfl
  have h1 := List.all_eq_true.mp mm_initNall mm_MTL[mi] (List.getElem_mem hl)
  rw [← e1, hk] at h1
  simpa using h1
theorem mm_hw0 {mi : Nat} (h : (mm_MT mi).2.2.2.2.2 = []) : mm_hw mi = .code (mm_y mi) (mm_b mi) (mm_MT mi).2.1 (mm_MT mi).2.2.1 := by
  unfold mm_hw
  rw [h]
theorem mm_hw1 {mi : Nat} {x : Nat × Nat × Nat × Nat} {r : List (Nat × Nat × Nat × Nat)} (h : (mm_MT mi).2.2.2.2.2 = x :: r) : mm_hw mi = .codeWith (mm_y mi) (mm_b mi) (mm_MT mi).2.1 (mm_MT mi).2.2.1 (x :: r) := by
  unfold mm_hw
  rw [h]
section MmIv
variable {p : Program} {l : Launch} {e : Env} {R : Room} {s : State} {m : MethodId} {args : Array Value} {below : List Frame} {meth : Method} {c : Code} {H : Heap} {locs : List Loc} {Q : State → Prop}
variable {cc : ByteArray} {pc own c0 s0 d len : Nat} {ls : Array Slot} {st : List Value} {D : va_G} {cy : Nat → ClassId} {X : Nat → Nat} {B : Nat} {xt : Nat → Nat × (Nat → Int32)} {h : mm_H} {cl : mm_C}
theorem mm_pre (hK : mm_K2 D cy X B xt s) (hHP : mm_HP D B X cy h H) (hS : va_S (mm_A B) s.heap H locs) (as : List Value) (U : State) (hU : U.heap = H) (hW : s.WarmedH U.vm) : mm_Pc D cy X B xt as h (mm_cS (mm_ad B X) as).toArray U :=
  ⟨rfl, by rw [hU]; exact hHP, mm_K2_mv hW (by rw [hU]; exact hS.1) (fun q h1 h2 => by rw [hU]; exact hS.2.1 q h1 h2) hK⟩
/-- the goals behind a call -/
abbrev mm_Kr (p : Program) (l : Launch) (e : Env) (R : Room) (s : State) (m : MethodId) (args : Array Value) (below : List Frame) (meth : Method) (c : Code) (Q : State → Prop) (D : va_G) (cy : Nat → ClassId) (X : Nat → Nat) (B c0 s0 pc : Nat) (ls : Array Slot) (r : mm_R) (rest : List Value) : Prop :=
  (∀ v h', r = .inl (v, h') → ∀ (H' : Heap) (locs' : List Loc), mm_HP D B X cy h' H' → va_S (mm_A B) s.heap H' locs' → W p l e R s m args below meth c H' locs' (h'.1 - c0) (h'.2.1 - s0) Q (F0 m (pc + 3) ls (mm_cS (mm_ad B X) (v.toList ++ rest)))) ∧
  (∀ E h', r = .inr (E, h') → ∀ (H' : Heap) (locs' : List Loc) (q : Addr) (ce : Cell), mm_HP D B X cy h' H' → va_S (mm_A B) s.heap H' locs' → H'[q]? = some ce → ce.vm = .none → s.vm.findClass (mm_xn E) = some ce.cls → vx_W p l e R s m args below meth c H' locs' (h'.1 - c0) (h'.2.1 - s0) Q (F0 m pc ls (mm_cS (mm_ad B X) rest)) q)
theorem mm_back {r : mm_R} {a : Array Value} {stk rest : List Value} (hc0 : c0 ≤ h.1) (hs0 : s0 ≤ h.2.1) (hle : mm_le h (mm_rh r)) (hr : vx_Run p l e R s m args below meth c H locs (h.1 - c0) (h.2.1 - s0) ((mm_rh r).1 - h.1) ((mm_rh r).2.1 - h.2.1) (F0 m pc ls stk) (mm_cS (mm_ad B X) rest) (mm_Qc D cy X B r a) (mm_XC D cy X B r) (mm_A B)) (hS : va_S (mm_A B) s.heap H locs)
    (k : mm_Kr p l e R s m args below meth c Q D cy X B c0 s0 pc ls r rest) : W p l e R s m args below meth c H locs (h.1 - c0) (h.2.1 - s0) Q (F0 m pc ls stk) := by
  have e1 : h.1 - c0 + ((mm_rh r).1 - h.1) = (mm_rh r).1 - c0 := by have := hle.1; omega
  have e2 : h.2.1 - s0 + ((mm_rh r).2.1 - h.2.1) = (mm_rh r).2.1 - s0 := by have := hle.2; omega
  refine mm_called hr hS (fun v h' hr1 H' locs' hHP' hS' => ?_) (fun E h' hr1 H' locs' q ce hHP' hS' hce hcv hcl => ?_)
  · rw [e1, e2]
    subst hr1
    have hk := k.1 v h' rfl H' locs' hHP' hS'
    rw [show (v.map (mm_cV (mm_ad B X))).toList ++ mm_cS (mm_ad B X) rest = mm_cS (mm_ad B X) (v.toList ++ rest) from by cases v <;> rfl]
    exact hk
  · rw [e1, e2]
    subst hr1
    exact k.2 E h' rfl H' locs' q ce hHP' hS' hce hcv hcl
theorem mm_csr (ad : Nat → Nat) (as r : List Value) : mm_cS ad (as.reverse ++ r) = (mm_cS ad as).reverse ++ mm_cS ad r := by
  show (as.reverse ++ r).map _ = _
  rw [List.map_append, List.map_reverse]
theorem mm_roomR {r : mm_R} (hc0 : c0 ≤ h.1) (hs0 : s0 ≤ h.2.1) (hle : mm_le h (mm_rh r)) (hRc : (mm_rh r).1 - c0 ≤ R.cells) (hRs : (mm_rh r).2.1 - s0 ≤ R.slots) : h.1 - c0 + ((mm_rh r).1 - h.1) ≤ R.cells ∧ h.2.1 - s0 + ((mm_rh r).2.1 - h.2.1) ≤ R.slots := by
  have h1 := hle.1
  have h2 := hle.2
  omega
set_option maxHeartbeats 4000000 in
/-- a call of an own method -/
theorem mm_iv_s (hexec : p.tables.exec = Jvm.exec) (hb : c.code = cc) (hml : c.maxLocals = ls.size) (hts : ∀ w ∈ mm_TW, w.before args s = true) (hown : s.vm.findClass (mm_ow own) = some m.cls) (hK : mm_K2 D cy X B xt s) (hHP : mm_HP D B X cy h H) (hS : va_S (mm_A B) s.heap H locs) (hc0 : c0 ≤ h.1) (hs0 : s0 ≤ h.2.1)
    (hMF : ∀ mi, mi < 403 → mm_MFP mi) (IH : ∀ mi as h r, mi < 403 → cl mi as h = some r → mm_Con D cy X B xt l d mi as h r) (hcl : ∀ mi as h r, cl mi as h = some r → mm_le h (mm_rh r)) (hRf : d + 11 ≤ R.frames) (hRl : 60 * d + 360 ≤ R.locals)
    {ins : Instr} {q : mm_R × List Value} (hd : decode cc pc = .ok (ins, len)) (hh : mm_iv cl own ins len st h = some q) (hRc : (mm_rh q.1).1 - c0 ≤ R.cells) (hRs : (mm_rh q.1).2.1 - s0 ≤ R.slots)
    (k : mm_Kr p l e R s m args below meth c Q D cy X B c0 s0 pc ls q.1 q.2) : W p l e R s m args below meth c H locs (h.1 - c0) (h.2.1 - s0) Q (F0 m pc ls (mm_cS (mm_ad B X) st)) := by
  have hroom : ∀ mi, (mm_rm d 0 0).frames + 1 ≤ R.frames ∧ 8 + ((mm_MT mi).2.1 + 11) + (mm_rm d 0 0).locals ≤ R.locals := fun mi => by
    have := mm_nL mi
    show d + 10 + 1 ≤ R.frames ∧ 8 + ((mm_MT mi).2.1 + 11) + (60 * d + 300) ≤ R.locals
    omega
  have hfix : CallFix p m c cc ls.size s args mm_TW (mm_ow own) := ⟨hexec, hb, hml, hown, hts⟩
  cases ins
  case invokevirtual idx =>
    simp only [mm_iv] at hh
    split at hh
    · next f hf =>
      split at hh
      · next as b r htk =>
        split at hh
        · next o ho =>
          replace hh := mm_cond hh
          obtain ⟨h1, hh⟩ := hh
          obtain ⟨h1, h2⟩ := mm_and h1
          obtain ⟨h1, h3⟩ := mm_and h1
          obtain ⟨h2, h4⟩ := mm_and h2
          obtain ⟨h2, h5⟩ := mm_and h2
          obtain ⟨h4, h6⟩ := mm_and h4
          cases mm_beq h1
          split at hh
          · next x hx =>
            cases hh
            obtain ⟨hlk, h403, hkd, hhs⟩ := mm_iv0 hf (mm_beq h3)
            obtain ⟨g1, g2, g3, g4, g5, g6, g7, g8, g9, g10, g11⟩ := hMF _ h403
            obtain ⟨hst, hlen⟩ := mm_take0 htk
            obtain ⟨hb1, eb⟩ := mm_in6 hHP h2
            have hM := IH _ _ _ _ h403 hx
            have hle := hcl _ _ _ _ hx
            unfold mm_Con at hM
            have hrec : ∃ cellB : Cell, H[mm_ad B X b]? = some cellB ∧ cellB.vm.isStatics = false ∧ s.vm.findClass (mm_y f.2.1).cls = some cellB.cls := by
              have he := mm_ws_get (B := B) (X := X) (cy := cy) hb1
              rw [ho] at he
              obtain ⟨rr, hr⟩ : ∃ rr, mm_cls[o.1]? = some rr := ⟨_, List.getElem?_eq_getElem (show o.1 < mm_cls.length from by rw [show mm_cls.length = 16 from rfl]; have := mm_blt h4; omega)⟩
              have h9 := va_recv hK.1.1 hHP.1 hr he
              rw [(mm_clsF (mm_blt h4) rr hr).1, mm_beq h5, ← g9] at h9
              rw [eb]
              exact h9
            have cw := cwV (R := R) (s := s) (args := args) (own := mm_ow own) (C := (mm_y f.2.1).cls) (index := idx) (y := mm_y f.2.1) (bytes := mm_b f.2.1) (maxL := (mm_MT f.2.1).2.1) (ret := (mm_MT f.2.1).2.2.1) (ws := mm_hw f.2.1 :: mm_TW) (ws' := mm_TW) (rm := mm_rm d ((mm_rh x).1 - h.1) ((mm_rh x).2.1 - h.2.1)) (mc := (mm_rh x).1 - h.1) (ms := (mm_rh x).2.1 - h.2.1) (mm_MT f.2.1).2.2.2.1 hts (mm_goodL (fun w hw => by
              rcases List.mem_append.mp hw with hw | hw
              · simp only [List.mem_cons, List.not_mem_nil, or_false] at hw
                rcases hw with rfl | rfl | rfl | rfl
                · exact hlk
                · exact g4 (by rw [hkd]; decide)
                · exact g5 hkd
                · exact g2
              · rcases List.mem_cons.mp hw with rfl | hw
                · exact g1
                · exact hw)) (by rw [mm_hw0 hhs]) rfl rfl ⟨rfl, g7.1, g7.2, g8⟩ (hroom f.2.1)
            have hrun := vx_runV (e := e) (below := below) (meth := meth) (locs := locs) (g := F0 m pc ls (mm_cS (mm_ad B X) st)) (As := mm_cS (mm_ad B X) as) (rest := mm_cS (mm_ad B X) r) (b := mm_ad B X b) hfix hM cw ⟨mm_blind _ _, hrec, fun U hU hW => mm_pre hK hHP hS (.ref b :: as) U hU hW⟩ rfl (by rw [List.length_map]; exact hlen) rfl (by rw [hst]; exact mm_csr _ _ _) (lv_room (mm_small_s h6)) hd (mm_roomR hc0 hs0 hle hRc hRs)
            exact mm_back hc0 hs0 hle hrun hS k
          · cases hh
        · cases hh
      · cases hh
    · cases hh
  case invokestatic idx =>
    simp only [mm_iv] at hh
    split at hh
    · next f hf =>
      split at hh
      · next as r htk =>
        obtain ⟨hst, hlen⟩ := mm_take0 htk
        cases hc : (Nat.beq len 3 && (Nat.beq f.1 1 && mm_small r)) with
        | true =>
          rw [hc] at hh
          obtain ⟨h1, h2⟩ := mm_and hc
          obtain ⟨h2, h6⟩ := mm_and h2
          cases mm_beq h1
          replace hh : (match cl f.2.1 as h with | some x => some (x, r) | none => none) = some q := hh
          split at hh
          · next x hx =>
            cases hh
            obtain ⟨hlk, h403, hkd⟩ := mm_iv1 hf (mm_beq h2)
            obtain ⟨g1, g2, g3, g4, g5, g6, g7, g8, g9, g10, g11⟩ := hMF _ h403
            have hM := IH _ _ _ _ h403 hx
            have hle := hcl _ _ _ _ hx
            unfold mm_Con at hM
            have hpre : PreS s H (mm_Pc D cy X B xt as h) (mm_cS (mm_ad B X) as) := ⟨mm_blind _ _, fun U hU hW => mm_pre hK hHP hS as U hU hW⟩
            have hlist : ∀ w ∈ mm_hw f.2.1 :: mm_TW, w ∈ mm_TW := fun w hw => by
              rcases List.mem_cons.mp hw with rfl | hw
              · exact g1
              · exact hw
            cases hhs : (mm_MT f.2.1).2.2.2.2.2 with
            | nil =>
              have cw := callB_of (R := R) (s := s) (args := args) (own := mm_ow own) (index := idx) (y := mm_y f.2.1) (bytes := mm_b f.2.1) (maxL := (mm_MT f.2.1).2.1) (ret := (mm_MT f.2.1).2.2.1) (ws := mm_hw f.2.1 :: mm_TW) (ws' := mm_TW) (rm := mm_rm d ((mm_rh x).1 - h.1) ((mm_rh x).2.1 - h.2.1)) (mc := (mm_rh x).1 - h.1) (ms := (mm_rh x).2.1 - h.2.1) (mm_MT f.2.1).2.2.2.1 hts (mm_goodL hlist) (by rw [mm_hw0 hhs]) rfl rfl (hts _ g2) (hts _ hlk) ⟨g7.1, g7.2, g8⟩ (hroom f.2.1)
              have hrun := vx_runS (e := e) (below := below) (meth := meth) (locs := locs) (g := F0 m pc ls (mm_cS (mm_ad B X) st)) (As := mm_cS (mm_ad B X) as) (rest := mm_cS (mm_ad B X) r) hfix hM ⟨cw, hts _ (g3 hkd)⟩ hpre rfl (by rw [List.length_map]; exact hlen) rfl (by rw [hst]; exact mm_csr _ _ _) (lv_room (mm_small_s h6)) hd (mm_roomR hc0 hs0 hle hRc hRs)
              exact mm_back hc0 hs0 hle hrun hS k
            | cons z zs =>
              have cw := vx_cwSW (R := R) (s := s) (args := args) (own := mm_ow own) (index := idx) (y := mm_y f.2.1) (bytes := mm_b f.2.1) (maxL := (mm_MT f.2.1).2.1) (ret := (mm_MT f.2.1).2.2.1) (hh := z :: zs) (ws := mm_hw f.2.1 :: mm_TW) (ws' := mm_TW) (rm := mm_rm d ((mm_rh x).1 - h.1) ((mm_rh x).2.1 - h.2.1)) (mc := (mm_rh x).1 - h.1) (ms := (mm_rh x).2.1 - h.2.1) (mm_MT f.2.1).2.2.2.1 hts (mm_goodL (fun w hw => by
                rcases List.mem_append.mp hw with hw | hw
                · simp only [List.mem_cons, List.not_mem_nil, or_false] at hw
                  rcases hw with rfl | rfl | rfl
                  · exact hlk
                  · exact g3 hkd
                  · exact g2
                · exact hlist w hw)) (by rw [mm_hw1 hhs]) rfl rfl ⟨g7.1, g7.2, g8⟩ (hroom f.2.1)
              have hrun := vx_runSX (e := e) (below := below) (meth := meth) (locs := locs) (g := F0 m pc ls (mm_cS (mm_ad B X) st)) (As := mm_cS (mm_ad B X) as) (rest := mm_cS (mm_ad B X) r) hfix hM cw hpre rfl (by rw [List.length_map]; exact hlen) rfl (by rw [hst]; exact mm_csr _ _ _) (lv_room (mm_small_s h6)) hd (mm_roomR hc0 hs0 hle hRc hRs)
              exact mm_back hc0 hs0 hle hrun hS k
          · cases hh
        | false =>
          rw [hc] at hh
          replace hh := mm_cond hh
          obtain ⟨h1, hh⟩ := hh
          obtain ⟨h1, h2⟩ := mm_and h1
          obtain ⟨h2, h6⟩ := mm_and h2
          cases mm_beq h1
          split at hh
          · next x hx =>
            cases hh
            obtain ⟨hlk, h403, hkd, hhs⟩ := mm_iv3 hf (mm_beq h2)
            obtain ⟨g1, g2, g3, g4, g5, g6, g7, g8, g9, g10, g11⟩ := hMF _ h403
            have hM := IH _ _ _ _ h403 hx
            have hle := hcl _ _ _ _ hx
            unfold mm_Con at hM
            have hlist : ∀ w ∈ mm_hw f.2.1 :: mm_TW, w ∈ mm_TW := fun w hw => by
              rcases List.mem_cons.mp hw with rfl | hw
              · exact g1
              · exact hw
            have cw := va_cnB (R := R) (s := s) (args := args) (own := mm_ow own) (host := RX11) (index := idx) (y := mm_y f.2.1) (bytes := mm_b f.2.1) (maxL := (mm_MT f.2.1).2.1) (ret := (mm_MT f.2.1).2.2.1) (ws := mm_hw f.2.1 :: mm_TW) (ws' := mm_TW) (rm := mm_rm d ((mm_rh (Sum.inl x)).1 - h.1) ((mm_rh (Sum.inl x)).2.1 - h.2.1)) (mc := (mm_rh (Sum.inl x)).1 - h.1) (ms := (mm_rh (Sum.inl x)).2.1 - h.2.1) (mm_MT f.2.1).2.2.2.1 hts (mm_goodL hlist) (by rw [mm_hw0 hhs]) rfl rfl (hK.2.2.2.1 _ hlk) (hts _ g2) ⟨g7.1, g7.2, g8⟩ (hroom f.2.1)
            have hrun := va_runSN (e := e) (below := below) (meth := meth) (locs := locs) (g := F0 m pc ls (mm_cS (mm_ad B X) st)) (As := mm_cS (mm_ad B X) as) (rest := mm_cS (mm_ad B X) r) hfix (mm_met hM) ⟨cw, hts _ (g3 hkd), trivial⟩ ⟨mm_blind _ _, fun U hU hW => mm_pre hK hHP hS as U hU hW⟩ rfl (by rw [List.length_map]; exact hlen) rfl (by rw [hst]; exact mm_csr _ _ _) (lv_room (mm_small_s h6)) hd (mm_roomR hc0 hs0 hle hRc hRs)
            exact mm_back hc0 hs0 hle (mm_runX hrun) hS k
          · cases hh
      · cases hh
    · cases hh
  case invokespecial idx =>
    simp only [mm_iv] at hh
    split at hh
    · next f hf =>
      split at hh
      · next as b r htk =>
        obtain ⟨hst, hlen⟩ := mm_take0 htk
        cases hc : (Nat.beq len 3 && (Nat.beq f.1 2 && mm_small r)) with
        | true =>
          rw [hc] at hh
          obtain ⟨h1, h2⟩ := mm_and hc
          obtain ⟨h2, h6⟩ := mm_and h2
          cases mm_beq h1
          replace hh : (match cl f.2.1 (.ref b :: as) h with | some (.inl x) => some (Sum.inl x, r) | _ => none) = some q := hh
          split at hh
          · next x hx =>
            cases hh
            obtain ⟨hlk, h403, hkd, hhs⟩ := mm_iv2 hf (mm_beq h2)
            obtain ⟨g1, g2, g3, g4, g5, g6, g7, g8, g9, g10, g11⟩ := hMF _ h403
            have hM := IH _ _ _ _ h403 hx
            have hle := hcl _ _ _ _ hx
            unfold mm_Con at hM
            have hlist : ∀ w ∈ mm_hw f.2.1 :: mm_TW, w ∈ mm_TW := fun w hw => by
              rcases List.mem_cons.mp hw with rfl | hw
              · exact g1
              · exact hw
            have hret : (mm_MT f.2.1).2.2.1 = none := mm_initN h403 hkd
            have cw := cwI (R := R) (s := s) (args := args) (own := mm_ow own) (index := idx) (y := mm_y f.2.1) (bytes := mm_b f.2.1) (maxL := (mm_MT f.2.1).2.1) (ws := mm_hw f.2.1 :: mm_TW) (ws' := mm_TW) (rm := mm_rm d ((mm_rh (Sum.inl x)).1 - h.1) ((mm_rh (Sum.inl x)).2.1 - h.2.1)) (mc := (mm_rh (Sum.inl x)).1 - h.1) (ms := (mm_rh (Sum.inl x)).2.1 - h.2.1) (mm_MT f.2.1).2.2.2.1 hts (mm_goodL hlist) (by rw [mm_hw0 hhs, hret]) rfl rfl (hts _ g2) (hts _ hlk) (hts _ (g4 (by rw [hkd]; decide))) (g10 hkd) ⟨g7.1, g7.2, g8⟩ (hroom f.2.1)
            have hrun := va_runI (e := e) (below := below) (meth := meth) (locs := locs) (g := F0 m pc ls (mm_cS (mm_ad B X) st)) (As := mm_cS (mm_ad B X) as) (rest := mm_cS (mm_ad B X) r) (b := mm_ad B X b) hfix (mm_met hM) cw ⟨mm_blind _ _, fun U hU hW => mm_pre hK hHP hS (.ref b :: as) U hU hW⟩ rfl (by rw [List.length_map]; exact hlen) rfl (by rw [hst]; exact mm_csr _ _ _) (lv_room (mm_small_s h6)) hd (mm_roomR hc0 hs0 hle hRc hRs)
            exact mm_back hc0 hs0 hle (mm_runX hrun) hS k
          · cases hh
        | false =>
          rw [hc] at hh
          replace hh := mm_cond hh
          obtain ⟨h1, hh⟩ := hh
          obtain ⟨h1, h2⟩ := mm_and h1
          obtain ⟨h2, h6⟩ := mm_and h2
          cases mm_beq h1
          split at hh
          · next x hx =>
            cases hh
            obtain ⟨hlk, h403, hkd, hhs⟩ := mm_iv4 hf (mm_beq h2)
            obtain ⟨g1, g2, g3, g4, g5, g6, g7, g8, g9, g10, g11⟩ := hMF _ h403
            have hM := IH _ _ _ _ h403 hx
            have hle := hcl _ _ _ _ hx
            unfold mm_Con at hM
            have hlist : ∀ w ∈ mm_hw f.2.1 :: mm_TW, w ∈ mm_TW := fun w hw => by
              rcases List.mem_cons.mp hw with rfl | hw
              · exact g1
              · exact hw
            have hret : (mm_MT f.2.1).2.2.1 = none := mm_initN h403 hkd
            have cw := va_cnB (R := R) (s := s) (args := args) (own := mm_ow own) (host := RX11) (index := idx) (y := mm_y f.2.1) (bytes := mm_b f.2.1) (maxL := (mm_MT f.2.1).2.1) (ret := none) (ws := mm_hw f.2.1 :: mm_TW) (ws' := mm_TW) (rm := mm_rm d ((mm_rh (Sum.inl x)).1 - h.1) ((mm_rh (Sum.inl x)).2.1 - h.2.1)) (mc := (mm_rh (Sum.inl x)).1 - h.1) (ms := (mm_rh (Sum.inl x)).2.1 - h.2.1) (mm_MT f.2.1).2.2.2.1 hts (mm_goodL hlist) (by rw [mm_hw0 hhs, hret]) rfl rfl (hK.2.2.2.1 _ hlk) (hts _ g2) ⟨g7.1, g7.2, g8⟩ (hroom f.2.1)
            have hrun := va_runIN (e := e) (below := below) (meth := meth) (locs := locs) (g := F0 m pc ls (mm_cS (mm_ad B X) st)) (As := mm_cS (mm_ad B X) as) (rest := mm_cS (mm_ad B X) r) (b := mm_ad B X b) hfix (mm_met hM) ⟨cw, g10 hkd, hts _ (g4 (by rw [hkd]; decide))⟩ ⟨mm_blind _ _, fun U hU hW => mm_pre hK hHP hS (.ref b :: as) U hU hW⟩ rfl (by rw [List.length_map]; exact hlen) rfl (by rw [hst]; exact mm_csr _ _ _) (lv_room (mm_small_s h6)) hd (mm_roomR hc0 hs0 hle hRc hRs)
            exact mm_back hc0 hs0 hle (mm_runX hrun) hS k
          · cases hh
      · cases hh
    · cases hh
  all_goals (exact absurd hh (by simp [mm_iv]))
end MmIv
