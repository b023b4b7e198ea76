section MmHs3
variable {p : Program} {l : Launch} {e : Env} {R : Room} {s : State} {m : MethodId} {args : Array Value} {below : List Frame} {meth : Method} {c : Code} {H : Heap} {locs : List Loc} {Q : State → Prop}
variable {cc : ByteArray} {pc len own c0 s0 : Nat} {ls : Array Slot} {st : List Value} {q : mm_Q} {D : va_G} {cy : Nat → ClassId} {X : Nat → Nat} {B : Nat} {xt : Nat → Nat × (Nat → Int32)} {h : mm_H}

theorem mm_alen_s (hexec : p.tables.exec = Jvm.exec) (hb : c.code = cc) (hts : ∀ w ∈ mm_TW, w.before args s = true) (hown : s.vm.findClass (mm_ow own) = some m.cls) (hK : mm_K D cy X B xt s) (hHP : mm_HP D B X cy h H) (hS : va_S (mm_A B) s.heap H locs) (hsz : s.heap.size = B + c0) (hc0 : c0 ≤ h.1)
    (hd : decode cc pc = .ok (.arraylength, len)) (hh : mm_alen xt len pc st h = some q) (k : mm_Go p l e R s m args below meth c Q D cy X B c0 s0 ls q) : W p l e R s m args below meth c H locs (h.1 - c0) (h.2.1 - s0) Q (F0 m pc ls (mm_cS (mm_ad B X) st)) := by
  unfold mm_alen at hh
  split at hh
  · next a r =>
    cases hq : Nat.blt a 1000000 with
    | true =>
      rw [hq] at hh
      replace hh : (match h.2.2 a with | .inl x => bif Nat.beq len 1 && (Nat.blt a h.1 && Nat.blt x.1 8) then some (pc + 1, Value.int (Int32.ofNat x.2.1) :: r, h) else none | _ => none) = some q := hh
      split at hh
      · next x he0 =>
        replace hh := mm_cond hh
        obtain ⟨h1, hh⟩ := hh
        obtain ⟨h1, h2⟩ := mm_and h1
        obtain ⟨h2, h3⟩ := mm_and h2
        cases mm_beq h1
        cases hh
        obtain ⟨ha, ea⟩ := mm_in6 hHP h2
        have he := mm_ws_get (B := B) (X := X) (cy := cy) ha
        rw [he0] at he
        show W p l e R s m args below meth c H locs (h.1 - c0) (h.2.1 - s0) Q (F0 m pc ls (.ref (mm_ad B X a) :: mm_cS (mm_ad B X) r))
        rw [ea]
        exact va_alen hexec hb hK.1 hHP.1 a x.1 he (mm_tys_at cy (mm_blt h3)) rfl hd (k H locs hHP hS)
      · cases hh
    | false =>
      rw [hq] at hh
      replace hh := mm_cond hh
      obtain ⟨h1, hh⟩ := hh
      obtain ⟨h1, h2⟩ := mm_and h1
      cases mm_beq h1
      cases mm_beq h2
      cases hh
      have ea : mm_ad B X 1000000 = X 0 := mm_ad_ext B X 0
      show W p l e R s m args below meth c H locs (h.1 - c0) (h.2.1 - s0) Q (F0 m pc ls (.ref (mm_ad B X 1000000) :: mm_cS (mm_ad B X) r))
      rw [ea]
      obtain ⟨hX, hXB⟩ := hK.2.2.1
      exact va_slen hexec hb hX (Nat.lt_of_lt_of_le hXB hK.2.1) (fun q => absurd hXB (Nat.not_lt.mpr q)) hS hd (k H locs hHP hS)
  · cases hh
theorem mm_cdf (ad : Nat → Nat) (t : FieldType) : mm_cV ad (defaultValue t) = defaultValue t := by cases t <;> rfl
theorem mm_df_at (ad : Nat → Nat) (ci : Nat) {j : Nat} (hj : j < mm_cn ci) : defaultValue (mm_ty ci j) = vp_V ((mm_df ci).map (mm_cV ad)) j := by
  unfold vp_V mm_df
  rw [List.getD_eq_getElem?_getD, List.getElem?_map, List.getElem?_map, List.getElem?_range hj]
  exact (mm_cdf ad _).symm
theorem mm_cn_of {ci : Nat} {r : vw_C} (hr : mm_cls[ci]? = some r) : mm_cn ci = r.2.2 := by unfold mm_cn; rw [hr]
theorem mm_new_s (hexec : p.tables.exec = Jvm.exec) (hb : c.code = cc) (hts : ∀ w ∈ mm_TW, w.before args s = true) (hown : s.vm.findClass (mm_ow own) = some m.cls) (hK : mm_K D cy X B xt s) (hHP : mm_HP D B X cy h H) (hS : va_S (mm_A B) s.heap H locs) (hsz : s.heap.size = B + c0) (hc0 : c0 ≤ h.1) (hs0 : s0 ≤ h.2.1) (hRc : q.2.2.1 - c0 ≤ R.cells) (hRs : q.2.2.2.1 - s0 ≤ R.slots) {idx : Nat}
    (hd : decode cc pc = .ok (.new idx, len)) (hh : mm_new own len pc st h idx = some q) (k : mm_Go p l e R s m args below meth c Q D cy X B c0 s0 ls q) : W p l e R s m args below meth c H locs (h.1 - c0) (h.2.1 - s0) Q (F0 m pc ls (mm_cS (mm_ad B X) st)) := by
  unfold mm_new at hh
  split at hh
  · next f hf =>
    replace hh := mm_cond hh
    obtain ⟨h1, hh⟩ := hh
    obtain ⟨h1, h2⟩ := mm_and h1
    obtain ⟨h2, h3⟩ := mm_and h2
    cases mm_beq h1
    cases hh
    have hw := mm_nwF hf
    have h13 := mm_blt h3
    obtain ⟨rr, hr⟩ : ∃ rr, mm_cls[f.1]? = some rr := ⟨_, List.getElem?_eq_getElem (show f.1 < mm_cls.length from by rw [show mm_cls.length = 16 from rfl]; omega)⟩
    obtain ⟨g1, g2, g3, g4, g5, g6⟩ := mm_clsF h13 rr hr
    have hcn := mm_cn_of hr
    have e1 : h.1 - c0 + 1 = h.1 + 1 - c0 := by omega
    have e2 : h.2.1 - s0 + rr.2.2 = h.2.1 + mm_cn f.1 - s0 := by rw [hcn]; omega
    have hRc' : h.1 + 1 - c0 ≤ R.cells := hRc
    have hRs' : h.2.1 + mm_cn f.1 - s0 ≤ R.slots := hRs
    refine va_new (D := D) (cl := mm_cls) (ci := f.1) (fs := (mm_df f.1).map (mm_cV (mm_ad B X))) (C := rr.1) (T := rr.2.1) (N := rr.2.2) hexec hb hts g4 (mm_ty f.1) g2 hown (by rw [g1]; exact hts _ hw) (hts _ g5) (hts _ g6) hK.1 hHP.1 mm_ws_D hS (fun q hq => Nat.le_trans (by rw [hsz]; exact Nat.le_add_right _ _) hq) hr (fun j hj => mm_df_at _ _ (by rw [hcn]; exact hj)) (by rw [e1]; exact hRc') (by rw [e2]; exact hRs') hd (fun a H1 hP1 hD1 hS1 => ?_)
    rw [e1, e2]
    refine mm_up (n := h.1 + 1) hsz (by omega) (fun hle => ?_)
    obtain ⟨ha, hHP1⟩ := mm_hp_new (s2 := h.2.1 + mm_cn f.1) (e0 := .inr (f.1, mm_df f.1)) hP1 hD1 hle (mm_blt h2)
    have hk := k H1 locs hHP1 hS1
    have ea : mm_ad B X h.1 = a := by rw [ha]; exact mm_ad_in (mm_blt h2)
    rw [← ea]
    exact hk
  · cases hh
theorem mm_bytes {n : Nat} (h : Nat.ble n 1000000 = true) (t : FieldType) : n * componentBytes t ≤ 536870912 := by
  have h1 := Nat.le_of_ble_eq_true h
  have h2 : componentBytes t ≤ 8 := by cases t <;> exact Nat.le_of_ble_eq_true rfl
  calc n * componentBytes t ≤ 1000000 * 8 := Nat.mul_le_mul h1 h2
    _ ≤ 536870912 := by decide

set_option maxRecDepth 100000 in
theorem mm_acF_int : Jvm.Cond.arrayClass (newarray.typeOf .int) ∈ mm_TW := mm_TW_of (i := 222) (by decide +kernel) rfl
set_option maxRecDepth 100000 in
theorem mm_acF_byte : Jvm.Cond.arrayClass (newarray.typeOf .byte) ∈ mm_TW := mm_TW_of (i := 221) (by decide +kernel) rfl
set_option maxRecDepth 100000 in
theorem mm_acF_boolean : Jvm.Cond.arrayClass (newarray.typeOf .boolean) ∈ mm_TW := mm_TW_of (i := 443) (by decide +kernel) rfl
set_option maxRecDepth 100000 in
theorem mm_acF_long : Jvm.Cond.arrayClass (newarray.typeOf .long) ∈ mm_TW := mm_TW_of (i := 2801) (by decide +kernel) rfl
theorem mm_na_int (hexec : p.tables.exec = Jvm.exec) (hb : c.code = cc) (hts : ∀ w ∈ mm_TW, w.before args s = true) (hown : s.vm.findClass (mm_ow own) = some m.cls) (hK : mm_K D cy X B xt s) (hHP : mm_HP D B X cy h H) (hS : va_S (mm_A B) s.heap H locs) (hsz : s.heap.size = B + c0) (hc0 : c0 ≤ h.1) (hs0 : s0 ≤ h.2.1) {n : Int32} {r : List Value} (hRc : h.1 + 1 - c0 ≤ R.cells) (hRs : h.2.1 + n.toNatClampNeg - s0 ≤ R.slots) (hd : decode cc pc = .ok (.newarray .int, 2)) (h6 : h.1 < 1000000) (hn : ¬ n < 0) (hb8 : Nat.ble n.toNatClampNeg 1000000 = true)
    (k : mm_Go p l e R s m args below meth c Q D cy X B c0 s0 ls (pc + 2, .ref h.1 :: r, (h.1 + 1, h.2.1 + n.toNatClampNeg, va_up h.2.2 h.1 (.inl (0, n.toNatClampNeg, .inl (fun _ => 0)))))) : W p l e R s m args below meth c H locs (h.1 - c0) (h.2.1 - s0) Q (F0 m pc ls (.int n :: mm_cS (mm_ad B X) r)) := by
  have e1 : h.1 - c0 + 1 = h.1 + 1 - c0 := by omega
  have e2 : h.2.1 - s0 + n.toNatClampNeg = h.2.1 + n.toNatClampNeg - s0 := by omega
  refine va_newa (ty := .int) (a0 := (n.toNatClampNeg, .inl (fun _ => 0))) hexec hb (hts _ mm_acF_int) rfl hK.1 hHP.1 mm_ws_D hS (fun q hq => Nat.le_trans (by rw [hsz]; exact Nat.le_add_right _ _) hq) (fun _ => rfl) hn rfl (mm_bytes hb8 _) (by rw [e1]; exact hRc) (by rw [e2]; exact hRs) hd (fun a cA H1 hK1 hP1 hD1 hS1 => ?_)
  have hcA : cA = cy 0 := by
    have g1 := (hK1.2 8 (cA, .int) rfl).2
    have g2 := (hK.1.2 0 _ (mm_tys_at cy (by decide))).2
    exact Option.some.inj (Eq.trans (Eq.symm g1) g2)
  subst hcA
  rw [e1, e2]
  refine mm_up (n := h.1 + 1) hsz (by omega) (fun hle => ?_)
  obtain ⟨ha, hHP1⟩ := mm_hp_new (s2 := h.2.1 + n.toNatClampNeg) (e0 := .inl (0, n.toNatClampNeg, .inl (fun _ => 0))) hP1 hD1 hle h6
  have hk := k H1 locs hHP1 hS1
  have ea : mm_ad B X h.1 = a := by rw [ha]; exact mm_ad_in h6
  rw [← ea]
  exact hk
theorem mm_na_byte (hexec : p.tables.exec = Jvm.exec) (hb : c.code = cc) (hts : ∀ w ∈ mm_TW, w.before args s = true) (hown : s.vm.findClass (mm_ow own) = some m.cls) (hK : mm_K D cy X B xt s) (hHP : mm_HP D B X cy h H) (hS : va_S (mm_A B) s.heap H locs) (hsz : s.heap.size = B + c0) (hc0 : c0 ≤ h.1) (hs0 : s0 ≤ h.2.1) {n : Int32} {r : List Value} (hRc : h.1 + 1 - c0 ≤ R.cells) (hRs : h.2.1 + n.toNatClampNeg - s0 ≤ R.slots) (hd : decode cc pc = .ok (.newarray .byte, 2)) (h6 : h.1 < 1000000) (hn : ¬ n < 0) (hb8 : Nat.ble n.toNatClampNeg 1000000 = true)
    (k : mm_Go p l e R s m args below meth c Q D cy X B c0 s0 ls (pc + 2, .ref h.1 :: r, (h.1 + 1, h.2.1 + n.toNatClampNeg, va_up h.2.2 h.1 (.inl (1, n.toNatClampNeg, .inl (fun _ => 0)))))) : W p l e R s m args below meth c H locs (h.1 - c0) (h.2.1 - s0) Q (F0 m pc ls (.int n :: mm_cS (mm_ad B X) r)) := by
  have e1 : h.1 - c0 + 1 = h.1 + 1 - c0 := by omega
  have e2 : h.2.1 - s0 + n.toNatClampNeg = h.2.1 + n.toNatClampNeg - s0 := by omega
  refine va_newa (ty := .byte) (a0 := (n.toNatClampNeg, .inl (fun _ => 0))) hexec hb (hts _ mm_acF_byte) rfl hK.1 hHP.1 mm_ws_D hS (fun q hq => Nat.le_trans (by rw [hsz]; exact Nat.le_add_right _ _) hq) (fun _ => rfl) hn rfl (mm_bytes hb8 _) (by rw [e1]; exact hRc) (by rw [e2]; exact hRs) hd (fun a cA H1 hK1 hP1 hD1 hS1 => ?_)
  have hcA : cA = cy 1 := by
    have g1 := (hK1.2 8 (cA, .byte) rfl).2
    have g2 := (hK.1.2 1 _ (mm_tys_at cy (by decide))).2
    exact Option.some.inj (Eq.trans (Eq.symm g1) g2)
  subst hcA
  rw [e1, e2]
  refine mm_up (n := h.1 + 1) hsz (by omega) (fun hle => ?_)
  obtain ⟨ha, hHP1⟩ := mm_hp_new (s2 := h.2.1 + n.toNatClampNeg) (e0 := .inl (1, n.toNatClampNeg, .inl (fun _ => 0))) hP1 hD1 hle h6
  have hk := k H1 locs hHP1 hS1
  have ea : mm_ad B X h.1 = a := by rw [ha]; exact mm_ad_in h6
  rw [← ea]
  exact hk
theorem mm_na_boolean (hexec : p.tables.exec = Jvm.exec) (hb : c.code = cc) (hts : ∀ w ∈ mm_TW, w.before args s = true) (hown : s.vm.findClass (mm_ow own) = some m.cls) (hK : mm_K D cy X B xt s) (hHP : mm_HP D B X cy h H) (hS : va_S (mm_A B) s.heap H locs) (hsz : s.heap.size = B + c0) (hc0 : c0 ≤ h.1) (hs0 : s0 ≤ h.2.1) {n : Int32} {r : List Value} (hRc : h.1 + 1 - c0 ≤ R.cells) (hRs : h.2.1 + n.toNatClampNeg - s0 ≤ R.slots) (hd : decode cc pc = .ok (.newarray .boolean, 2)) (h6 : h.1 < 1000000) (hn : ¬ n < 0) (hb8 : Nat.ble n.toNatClampNeg 1000000 = true)
    (k : mm_Go p l e R s m args below meth c Q D cy X B c0 s0 ls (pc + 2, .ref h.1 :: r, (h.1 + 1, h.2.1 + n.toNatClampNeg, va_up h.2.2 h.1 (.inl (2, n.toNatClampNeg, .inl (fun _ => 0)))))) : W p l e R s m args below meth c H locs (h.1 - c0) (h.2.1 - s0) Q (F0 m pc ls (.int n :: mm_cS (mm_ad B X) r)) := by
  have e1 : h.1 - c0 + 1 = h.1 + 1 - c0 := by omega
  have e2 : h.2.1 - s0 + n.toNatClampNeg = h.2.1 + n.toNatClampNeg - s0 := by omega
  refine va_newa (ty := .boolean) (a0 := (n.toNatClampNeg, .inl (fun _ => 0))) hexec hb (hts _ mm_acF_boolean) rfl hK.1 hHP.1 mm_ws_D hS (fun q hq => Nat.le_trans (by rw [hsz]; exact Nat.le_add_right _ _) hq) (fun _ => rfl) hn rfl (mm_bytes hb8 _) (by rw [e1]; exact hRc) (by rw [e2]; exact hRs) hd (fun a cA H1 hK1 hP1 hD1 hS1 => ?_)
  have hcA : cA = cy 2 := by
    have g1 := (hK1.2 8 (cA, .boolean) rfl).2
    have g2 := (hK.1.2 2 _ (mm_tys_at cy (by decide))).2
    exact Option.some.inj (Eq.trans (Eq.symm g1) g2)
  subst hcA
  rw [e1, e2]
  refine mm_up (n := h.1 + 1) hsz (by omega) (fun hle => ?_)
  obtain ⟨ha, hHP1⟩ := mm_hp_new (s2 := h.2.1 + n.toNatClampNeg) (e0 := .inl (2, n.toNatClampNeg, .inl (fun _ => 0))) hP1 hD1 hle h6
  have hk := k H1 locs hHP1 hS1
  have ea : mm_ad B X h.1 = a := by rw [ha]; exact mm_ad_in h6
  rw [← ea]
  exact hk
theorem mm_na_long (hexec : p.tables.exec = Jvm.exec) (hb : c.code = cc) (hts : ∀ w ∈ mm_TW, w.before args s = true) (hown : s.vm.findClass (mm_ow own) = some m.cls) (hK : mm_K D cy X B xt s) (hHP : mm_HP D B X cy h H) (hS : va_S (mm_A B) s.heap H locs) (hsz : s.heap.size = B + c0) (hc0 : c0 ≤ h.1) (hs0 : s0 ≤ h.2.1) {n : Int32} {r : List Value} (hRc : h.1 + 1 - c0 ≤ R.cells) (hRs : h.2.1 + n.toNatClampNeg - s0 ≤ R.slots) (hd : decode cc pc = .ok (.newarray .long, 2)) (h6 : h.1 < 1000000) (hn : ¬ n < 0) (hb8 : Nat.ble n.toNatClampNeg 1000000 = true)
    (k : mm_Go p l e R s m args below meth c Q D cy X B c0 s0 ls (pc + 2, .ref h.1 :: r, (h.1 + 1, h.2.1 + n.toNatClampNeg, va_up h.2.2 h.1 (.inl (3, n.toNatClampNeg, .inr (.inl (fun _ => 0))))))) : W p l e R s m args below meth c H locs (h.1 - c0) (h.2.1 - s0) Q (F0 m pc ls (.int n :: mm_cS (mm_ad B X) r)) := by
  have e1 : h.1 - c0 + 1 = h.1 + 1 - c0 := by omega
  have e2 : h.2.1 - s0 + n.toNatClampNeg = h.2.1 + n.toNatClampNeg - s0 := by omega
  refine va_newa (ty := .long) (a0 := (n.toNatClampNeg, .inr (.inl (fun _ => 0)))) hexec hb (hts _ mm_acF_long) rfl hK.1 hHP.1 mm_ws_D hS (fun q hq => Nat.le_trans (by rw [hsz]; exact Nat.le_add_right _ _) hq) (fun _ => rfl) hn rfl (mm_bytes hb8 _) (by rw [e1]; exact hRc) (by rw [e2]; exact hRs) hd (fun a cA H1 hK1 hP1 hD1 hS1 => ?_)
  have hcA : cA = cy 3 := by
    have g1 := (hK1.2 8 (cA, .long) rfl).2
    have g2 := (hK.1.2 3 _ (mm_tys_at cy (by decide))).2
    exact Option.some.inj (Eq.trans (Eq.symm g1) g2)
  subst hcA
  rw [e1, e2]
  refine mm_up (n := h.1 + 1) hsz (by omega) (fun hle => ?_)
  obtain ⟨ha, hHP1⟩ := mm_hp_new (s2 := h.2.1 + n.toNatClampNeg) (e0 := .inl (3, n.toNatClampNeg, .inr (.inl (fun _ => 0)))) hP1 hD1 hle h6
  have hk := k H1 locs hHP1 hS1
  have ea : mm_ad B X h.1 = a := by rw [ha]; exact mm_ad_in h6
  rw [← ea]
  exact hk
theorem mm_na_s (hexec : p.tables.exec = Jvm.exec) (hb : c.code = cc) (hts : ∀ w ∈ mm_TW, w.before args s = true) (hown : s.vm.findClass (mm_ow own) = some m.cls) (hK : mm_K D cy X B xt s) (hHP : mm_HP D B X cy h H) (hS : va_S (mm_A B) s.heap H locs) (hsz : s.heap.size = B + c0) (hc0 : c0 ≤ h.1) (hs0 : s0 ≤ h.2.1) (hRc : q.2.2.1 - c0 ≤ R.cells) (hRs : q.2.2.2.1 - s0 ≤ R.slots) {t : ArrayType}
    (hd : decode cc pc = .ok (.newarray t, len)) (hh : mm_na len pc st h t = some q) (k : mm_Go p l e R s m args below meth c Q D cy X B c0 s0 ls q) : W p l e R s m args below meth c H locs (h.1 - c0) (h.2.1 - s0) Q (F0 m pc ls (mm_cS (mm_ad B X) st)) := by
  unfold mm_na at hh
  split at hh
  · next n r =>
    replace hh := mm_cond hh
    obtain ⟨h1, hh⟩ := hh
    obtain ⟨h1, h3⟩ := mm_and h1
    obtain ⟨h1, h2⟩ := mm_and h1
    obtain ⟨h3, h4⟩ := mm_and h3
    cases mm_beq h1
    have h6 := mm_blt h2
    have hn : ¬ n < 0 := by simpa using h3
    split at hh
    · cases hh; exact mm_na_int hexec hb hts hown hK hHP hS hsz hc0 hs0 hRc hRs hd h6 hn h4 k
    · cases hh; exact mm_na_byte hexec hb hts hown hK hHP hS hsz hc0 hs0 hRc hRs hd h6 hn h4 k
    · cases hh; exact mm_na_boolean hexec hb hts hown hK hHP hS hsz hc0 hs0 hRc hRs hd h6 hn h4 k
    · cases hh; exact mm_na_long hexec hb hts hown hK hHP hS hsz hc0 hs0 hRc hRs hd h6 hn h4 k
    · cases hh
  · cases hh
theorem mm_an_s (hexec : p.tables.exec = Jvm.exec) (hb : c.code = cc) (hts : ∀ w ∈ mm_TW, w.before args s = true) (hown : s.vm.findClass (mm_ow own) = some m.cls) (hK : mm_K D cy X B xt s) (hHP : mm_HP D B X cy h H) (hS : va_S (mm_A B) s.heap H locs) (hsz : s.heap.size = B + c0) (hc0 : c0 ≤ h.1) (hs0 : s0 ≤ h.2.1) (hRc : q.2.2.1 - c0 ≤ R.cells) (hRs : q.2.2.2.1 - s0 ≤ R.slots) {idx : Nat}
    (hd : decode cc pc = .ok (.anewarray idx, len)) (hh : mm_an own len pc st h idx = some q) (k : mm_Go p l e R s m args below meth c Q D cy X B c0 s0 ls q) : W p l e R s m args below meth c H locs (h.1 - c0) (h.2.1 - s0) Q (F0 m pc ls (mm_cS (mm_ad B X) st)) := by
  unfold mm_an at hh
  split at hh
  · next n r =>
    split at hh
    · next f hf =>
      replace hh := mm_cond hh
      obtain ⟨h1, hh⟩ := hh
      obtain ⟨h1, h3⟩ := mm_and h1
      obtain ⟨h1, h2⟩ := mm_and h1
      obtain ⟨h3, h5⟩ := mm_and h3
      obtain ⟨h3, h4⟩ := mm_and h3
      obtain ⟨h5, h7⟩ := mm_and h5
      cases mm_beq h1
      cases hh
      have h6 := mm_blt h2
      have hn : ¬ n < 0 := by simpa using h3
      have hw := mm_anF hf
      have e1 : h.1 - c0 + 1 = h.1 + 1 - c0 := by omega
      have e2 : h.2.1 - s0 + n.toNatClampNeg = h.2.1 + n.toNatClampNeg - s0 := by omega
      have hRc' : h.1 + 1 - c0 ≤ R.cells := hRc
      have hRs' : h.2.1 + n.toNatClampNeg - s0 ≤ R.slots := hRs
      have hb4 : n.toNatClampNeg * 4 ≤ 536870912 := by
        have h9 := Nat.le_of_ble_eq_true h4
        omega
      refine va_newq (C := mm_ow (mm_ac f.1)) hexec hb hown (hts _ hw) (hK.2.2.2.2 f.1 (mm_blt h5) (mm_blt h7)) hK.1 hHP.1 mm_ws_D hS (fun q hq => Nat.le_trans (by rw [hsz]; exact Nat.le_add_right _ _) hq) hn rfl hb4 (by rw [e1]; exact hRc') (by rw [e2]; exact hRs') hd (fun a cA H1 hK1 hP1 hD1 hS1 => ?_)
      have hcA : cA = cy f.1 := by
        have g1 := (hK1.2 8 (cA, .object (mm_ow (mm_ac f.1))) rfl).2
        have g2 := (hK.1.2 f.1 _ (mm_tys_at cy (mm_blt h7))).2
        rw [show (cy f.1, mm_at f.1).2 = FieldType.object (mm_ow (mm_ac f.1)) from mm_atO (mm_blt h5) (mm_blt h7)] at g2
        obtain ⟨_, _, _, _, _, k1⟩ := g1
        obtain ⟨_, _, _, _, _, k2⟩ := g2
        exact Option.some.inj (Eq.trans (Eq.symm k1) k2)
      subst hcA
      rw [e1, e2]
      refine mm_up (n := h.1 + 1) hsz (by omega) (fun hle => ?_)
      obtain ⟨ha, hHP1⟩ := mm_hp_new (s2 := h.2.1 + n.toNatClampNeg) (e0 := .inl (f.1, n.toNatClampNeg, .inr (.inr (.inr (.inr (fun _ => none)))))) hP1 hD1 hle h6
      have hk := k H1 locs hHP1 hS1
      have ea : mm_ad B X h.1 = a := by rw [ha]; exact mm_ad_in h6
      rw [← ea]
      exact hk
    · cases hh
  · cases hh
theorem mm_gs_s (hexec : p.tables.exec = Jvm.exec) (hb : c.code = cc) (hts : ∀ w ∈ mm_TW, w.before args s = true) (hown : s.vm.findClass (mm_ow own) = some m.cls) (hK : mm_K D cy X B xt s) (hHP : mm_HP D B X cy h H) (hS : va_S (mm_A B) s.heap H locs) (hsz : s.heap.size = B + c0) (hc0 : c0 ≤ h.1) {idx : Nat}
    (hd : decode cc pc = .ok (.getstatic idx, len)) (hh : mm_gs own len pc st h idx = some q) (k : mm_Go p l e R s m args below meth c Q D cy X B c0 s0 ls q) : W p l e R s m args below meth c H locs (h.1 - c0) (h.2.1 - s0) Q (F0 m pc ls (mm_cS (mm_ad B X) st)) := by
  unfold mm_gs at hh
  split at hh
  · next f hf =>
    replace hh := mm_cond hh
    obtain ⟨h1, hh⟩ := hh
    obtain ⟨h1, h2⟩ := mm_and h1
    obtain ⟨h2, h3⟩ := mm_and h2
    cases mm_beq h1
    cases hh
    have hk := k H locs hHP hS
    have hk' : W p l e R s m args below meth c H locs (h.1 - c0) (h.2.1 - s0) Q (F0 m (pc + 3) ls (.ref (mm_ad B X (1000000 + f.1)) :: mm_cS (mm_ad B X) st)) := hk
    rw [mm_ad_ext] at hk'
    exact va_gets hexec hb (hK.2.2.2.1 f.1 (mm_blt h2) (mm_blt h3)).1 hS hown (hts _ (mm_stF hf)) (fun _ h9 => h9) hd hk'
  · cases hh
theorem mm_ldi_s (hexec : p.tables.exec = Jvm.exec) (hb : c.code = cc) (hts : ∀ w ∈ mm_TW, w.before args s = true) (hown : s.vm.findClass (mm_ow own) = some m.cls) (hK : mm_K D cy X B xt s) (hHP : mm_HP D B X cy h H) (hS : va_S (mm_A B) s.heap H locs) (hsz : s.heap.size = B + c0) (hc0 : c0 ≤ h.1) {idx : Nat}
    (hd : decode cc pc = .ok (.ldc idx, len)) (hh : mm_ldi own len 2 pc st h idx = some q) (k : mm_Go p l e R s m args below meth c Q D cy X B c0 s0 ls q) : W p l e R s m args below meth c H locs (h.1 - c0) (h.2.1 - s0) Q (F0 m pc ls (mm_cS (mm_ad B X) st)) := by
  unfold mm_ldi at hh
  split at hh
  · next f hf =>
    obtain ⟨h1, hh⟩ := mm_cond hh
    cases mm_beq h1
    cases hh
    exact lv_ldc hexec hb hown (hts _ (mm_ciF hf)) hd (k H locs hHP hS)
  · cases hh
theorem mm_ldw_s (hexec : p.tables.exec = Jvm.exec) (hb : c.code = cc) (hts : ∀ w ∈ mm_TW, w.before args s = true) (hown : s.vm.findClass (mm_ow own) = some m.cls) (hK : mm_K D cy X B xt s) (hHP : mm_HP D B X cy h H) (hS : va_S (mm_A B) s.heap H locs) (hsz : s.heap.size = B + c0) (hc0 : c0 ≤ h.1) {idx : Nat}
    (hd : decode cc pc = .ok (.ldc_w idx, len)) (hh : mm_ldi own len 3 pc st h idx = some q) (k : mm_Go p l e R s m args below meth c Q D cy X B c0 s0 ls q) : W p l e R s m args below meth c H locs (h.1 - c0) (h.2.1 - s0) Q (F0 m pc ls (mm_cS (mm_ad B X) st)) := by
  unfold mm_ldi at hh
  split at hh
  · next f hf =>
    obtain ⟨h1, hh⟩ := mm_cond hh
    cases mm_beq h1
    cases hh
    exact lv_ldcw hexec hb hown (hts _ (mm_ciF hf)) hd (k H locs hHP hS)
  · cases hh
theorem mm_ldl_s (hexec : p.tables.exec = Jvm.exec) (hb : c.code = cc) (hts : ∀ w ∈ mm_TW, w.before args s = true) (hown : s.vm.findClass (mm_ow own) = some m.cls) (hK : mm_K D cy X B xt s) (hHP : mm_HP D B X cy h H) (hS : va_S (mm_A B) s.heap H locs) (hsz : s.heap.size = B + c0) (hc0 : c0 ≤ h.1) {idx : Nat}
    (hd : decode cc pc = .ok (.ldc2_w idx, len)) (hh : mm_ldl own len pc st h idx = some q) (k : mm_Go p l e R s m args below meth c Q D cy X B c0 s0 ls q) : W p l e R s m args below meth c H locs (h.1 - c0) (h.2.1 - s0) Q (F0 m pc ls (mm_cS (mm_ad B X) st)) := by
  unfold mm_ldl at hh
  split at hh
  · next f hf =>
    obtain ⟨h1, hh⟩ := mm_cond hh
    cases mm_beq h1
    cases hh
    exact lv_ldc2 hexec hb hown (hts _ (mm_clF hf)) hd (k H locs hHP hS)
  · cases hh
/-- every instruction that touches the heap -/
theorem mm_he_s (hexec : p.tables.exec = Jvm.exec) (hb : c.code = cc) (hts : ∀ w ∈ mm_TW, w.before args s = true) (hown : s.vm.findClass (mm_ow own) = some m.cls) (hK : mm_K D cy X B xt s) (hHP : mm_HP D B X cy h H) (hS : va_S (mm_A B) s.heap H locs) (hsz : s.heap.size = B + c0) (hc0 : c0 ≤ h.1) (hs0 : s0 ≤ h.2.1) (hRc : q.2.2.1 - c0 ≤ R.cells) (hRs : q.2.2.2.1 - s0 ≤ R.slots) {ini : Bool} (hini : ini = true → meth.name = "<init>") {ins : Instr}
    (hd : decode cc pc = .ok (ins, len)) (hh : mm_he own ini xt ins len pc st h = some q) (k : mm_Go p l e R s m args below meth c Q D cy X B c0 s0 ls q) : W p l e R s m args below meth c H locs (h.1 - c0) (h.2.1 - s0) Q (F0 m pc ls (mm_cS (mm_ad B X) st)) := by
  cases ins
  case getfield idx => exact mm_getf_s hexec hb hts hown hK hHP hS hd hh k
  case putfield idx => exact mm_putf_s hexec hb hts hown hK hHP hS hsz hc0 hini hd hh k
  case iaload => exact mm_ald_s hexec hb hts hown hK hHP hS hsz hc0 hd hh k
  case baload => exact mm_bld8_s hexec hb hts hown hK hHP hS hsz hc0 hd hh k
  case laload => exact mm_lald_s hexec hb hts hown hK hHP hS hsz hc0 hd hh k
  case aaload => exact mm_aald_s hexec hb hts hown hK hHP hS hsz hc0 hd hh k
  case iastore => exact mm_iast_s hexec hb hts hown hK hHP hS hsz hc0 hd hh k
  case bastore => exact mm_bast_s hexec hb hts hown hK hHP hS hsz hc0 hd hh k
  case lastore => exact mm_last_s hexec hb hts hown hK hHP hS hsz hc0 hd hh k
  case aastore => exact mm_aast_s hexec hb hts hown hK hHP hS hsz hc0 hd hh k
  case arraylength => exact mm_alen_s hexec hb hts hown hK hHP hS hsz hc0 hd hh k
  case new idx => exact mm_new_s hexec hb hts hown hK hHP hS hsz hc0 hs0 hRc hRs hd hh k
  case newarray t => exact mm_na_s hexec hb hts hown hK hHP hS hsz hc0 hs0 hRc hRs hd hh k
  case anewarray idx => exact mm_an_s hexec hb hts hown hK hHP hS hsz hc0 hs0 hRc hRs hd hh k
  case getstatic idx => exact mm_gs_s hexec hb hts hown hK hHP hS hsz hc0 hd hh k
  case ldc idx => exact mm_ldi_s hexec hb hts hown hK hHP hS hsz hc0 hd hh k
  case ldc_w idx => exact mm_ldw_s hexec hb hts hown hK hHP hS hsz hc0 hd hh k
  case ldc2_w idx => exact mm_ldl_s hexec hb hts hown hK hHP hS hsz hc0 hd hh k
  all_goals (exact absurd hh (by simp [mm_he]))

end MmHs3
