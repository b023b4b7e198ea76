section MmHs2
variable {p : Program} {l : Launch} {e : Env} {R : Room} {s : State} {m : MethodId} {args : Array Value} {below : List Frame} {meth : Method} {c : Code} {H : Heap} {locs : List Loc} {Q : State → Prop}
variable {cc : ByteArray} {pc len own c0 s0 : Nat} {ls : Array Slot} {st : List Value} {q : mm_Q} {D : va_G} {cy : Nat → ClassId} {X : Nat → Nat} {B : Nat} {xt : Nat → Nat × (Nat → Int32)} {h : mm_H}

theorem mm_ald_s (hexec : p.tables.exec = Jvm.exec) (hb : c.code = cc) (hts : ∀ w ∈ mm_TW, w.before args s = true) (hown : s.vm.findClass (mm_ow own) = some m.cls) (hK : mm_K D cy X B xt s) (hHP : mm_HP D B X cy h H) (hS : va_S (mm_A B) s.heap H locs) (hsz : s.heap.size = B + c0) (hc0 : c0 ≤ h.1)
    (hd : decode cc pc = .ok (.iaload, len)) (hh : mm_ald xt len pc st h = some q) (k : mm_Go p l e R s m args below meth c Q D cy X B c0 s0 ls q) : W p l e R s m args below meth c H locs (h.1 - c0) (h.2.1 - s0) Q (F0 m pc ls (mm_cS (mm_ad B X) st)) := by
  unfold mm_ald at hh
  split at hh
  · next i a r =>
    cases hq : Nat.blt a 1000000 with
    | true =>
      rw [hq] at hh
      replace hh : (match h.2.2 a with | .inl (0, n, .inl f) => bif Nat.beq len 1 && (Nat.blt a h.1 && mm_ib i n) then some (pc + 1, Value.int (f i.toNatClampNeg) :: r, h) else none | _ => none) = some q := hh
      split at hh
      · next n f he0 =>
        replace hh := mm_cond hh
        obtain ⟨h1, hh⟩ := hh
        obtain ⟨h1, h2⟩ := mm_and h1
        obtain ⟨h2, h3⟩ := mm_and h2
        cases mm_beq h1
        cases hh
        obtain ⟨ha, ea⟩ := mm_in6 hHP h2
        have he := mm_ws_get (B := B) (X := X) (cy := cy) ha
        rw [he0] at he
        show W p l e R s m args below meth c H locs (h.1 - c0) (h.2.1 - s0) Q (F0 m pc ls (.int i :: .ref (mm_ad B X a) :: mm_cS (mm_ad B X) r))
        rw [ea]
        exact va_iald hexec hb hK.1 hHP.1 a 0 he (mm_tys_at cy (by decide)) (mm_ib_in h3) hd (k H locs hHP hS)
      · cases hh
    | false =>
      rw [hq] at hh
      replace hh := mm_cond hh
      obtain ⟨h1, hh⟩ := hh
      obtain ⟨h1, h2⟩ := mm_and h1
      obtain ⟨h2, h3⟩ := mm_and h2
      cases mm_beq h1
      cases hh
      have h7 := mm_blt h2
      have hge : 1000000 ≤ a := Nat.le_of_not_lt (fun q => by rw [show Nat.blt a 1000000 = true from Nat.ble_eq_true_of_le q] at hq; cases hq)
      have ea : mm_ad B X a = X (a - 1000000) := by
        have := mm_ad_ext B X (a - 1000000)
        rwa [Nat.add_sub_cancel' hge] at this
      show W p l e R s m args below meth c H locs (h.1 - c0) (h.2.1 - s0) Q (F0 m pc ls (.int i :: .ref (mm_ad B X a) :: mm_cS (mm_ad B X) r))
      rw [ea]
      generalize a - 1000000 = j at h7 h3 k ⊢
      by_cases hj : j = 0
      · subst hj
        obtain ⟨hX, hXB⟩ := hK.2.2.1
        exact va_sld hexec hb hX (Nat.lt_of_lt_of_le hXB hK.2.1) (fun q => absurd hXB (Nat.not_lt.mpr q)) hS (mm_ib_in h3) hd (k H locs hHP hS)
      · exact va_ti hexec hb (hK.2.2.2.1 j (Nat.pos_of_ne_zero hj) h7).2 hS (mm_ib_in h3) rfl hd (k H locs hHP hS)
  · cases hh
theorem mm_bld8_s (hexec : p.tables.exec = Jvm.exec) (hb : c.code = cc) (hts : ∀ w ∈ mm_TW, w.before args s = true) (hown : s.vm.findClass (mm_ow own) = some m.cls) (hK : mm_K D cy X B xt s) (hHP : mm_HP D B X cy h H) (hS : va_S (mm_A B) s.heap H locs) (hsz : s.heap.size = B + c0) (hc0 : c0 ≤ h.1)
    (hd : decode cc pc = .ok (.baload, len)) (hh : mm_bld8 len pc st h = some q) (k : mm_Go p l e R s m args below meth c Q D cy X B c0 s0 ls q) : W p l e R s m args below meth c H locs (h.1 - c0) (h.2.1 - s0) Q (F0 m pc ls (mm_cS (mm_ad B X) st)) := by
  unfold mm_bld8 at hh
  split at hh
  · next i a r =>
    split at hh
    · next n f he0 =>
      replace hh := mm_cond hh
      obtain ⟨h1, hh⟩ := hh
      obtain ⟨h1, h2⟩ := mm_and h1
      obtain ⟨h2, h3⟩ := mm_and h2
      cases mm_beq h1
      cases hh
      obtain ⟨ha, ea⟩ := mm_in6 hHP h2
      have he := mm_ws_get (B := B) (X := X) (cy := cy) ha
      rw [he0] at he
      show W p l e R s m args below meth c H locs (h.1 - c0) (h.2.1 - s0) Q (F0 m pc ls (.int i :: .ref (mm_ad B X a) :: mm_cS (mm_ad B X) r))
      rw [ea]
      exact va_bald hexec hb hK.1 hHP.1 a 1 he (mm_tys_at cy (by decide)) (mm_ib_in h3) hd (k H locs hHP hS)
    · next n f he0 =>
      replace hh := mm_cond hh
      obtain ⟨h1, hh⟩ := hh
      obtain ⟨h1, h2⟩ := mm_and h1
      obtain ⟨h2, h3⟩ := mm_and h2
      cases mm_beq h1
      cases hh
      obtain ⟨ha, ea⟩ := mm_in6 hHP h2
      have he := mm_ws_get (B := B) (X := X) (cy := cy) ha
      rw [he0] at he
      show W p l e R s m args below meth c H locs (h.1 - c0) (h.2.1 - s0) Q (F0 m pc ls (.int i :: .ref (mm_ad B X a) :: mm_cS (mm_ad B X) r))
      rw [ea]
      exact va_zald hexec hb hK.1 hHP.1 a 2 he (mm_tys_at cy (by decide)) (mm_ib_in h3) hd (k H locs hHP hS)
    · cases hh
  · cases hh
theorem mm_lald_s (hexec : p.tables.exec = Jvm.exec) (hb : c.code = cc) (hts : ∀ w ∈ mm_TW, w.before args s = true) (hown : s.vm.findClass (mm_ow own) = some m.cls) (hK : mm_K D cy X B xt s) (hHP : mm_HP D B X cy h H) (hS : va_S (mm_A B) s.heap H locs) (hsz : s.heap.size = B + c0) (hc0 : c0 ≤ h.1)
    (hd : decode cc pc = .ok (.laload, len)) (hh : mm_lald len pc st h = some q) (k : mm_Go p l e R s m args below meth c Q D cy X B c0 s0 ls q) : W p l e R s m args below meth c H locs (h.1 - c0) (h.2.1 - s0) Q (F0 m pc ls (mm_cS (mm_ad B X) st)) := by
  unfold mm_lald at hh
  split at hh
  · next i a r =>
    split at hh
    · next n f he0 =>
      replace hh := mm_cond hh
      obtain ⟨h1, hh⟩ := hh
      obtain ⟨h1, h2⟩ := mm_and h1
      obtain ⟨h2, h3⟩ := mm_and h2
      cases mm_beq h1
      cases hh
      obtain ⟨ha, ea⟩ := mm_in6 hHP h2
      have he := mm_ws_get (B := B) (X := X) (cy := cy) ha
      rw [he0] at he
      show W p l e R s m args below meth c H locs (h.1 - c0) (h.2.1 - s0) Q (F0 m pc ls (.int i :: .ref (mm_ad B X a) :: mm_cS (mm_ad B X) r))
      rw [ea]
      exact va_lald hexec hb hK.1 hHP.1 a 3 he (mm_tys_at cy (by decide)) (mm_ib_in h3) hd (k H locs hHP hS)
    · cases hh
  · cases hh
theorem mm_atO {k : Nat} (h1 : 3 < k) (h2 : k < 8) : mm_at k = .object (mm_ow (mm_ac k)) := by
  match k, h1, h2 with
  | 4, _, _ => rfl
  | 5, _, _ => rfl
  | 6, _, _ => rfl
  | 7, _, _ => rfl
  | n + 8, _, h2 => exact absurd h2 (by omega)
theorem mm_aald_s (hexec : p.tables.exec = Jvm.exec) (hb : c.code = cc) (hts : ∀ w ∈ mm_TW, w.before args s = true) (hown : s.vm.findClass (mm_ow own) = some m.cls) (hK : mm_K D cy X B xt s) (hHP : mm_HP D B X cy h H) (hS : va_S (mm_A B) s.heap H locs) (hsz : s.heap.size = B + c0) (hc0 : c0 ≤ h.1)
    (hd : decode cc pc = .ok (.aaload, len)) (hh : mm_aald len pc st h = some q) (k : mm_Go p l e R s m args below meth c Q D cy X B c0 s0 ls q) : W p l e R s m args below meth c H locs (h.1 - c0) (h.2.1 - s0) Q (F0 m pc ls (mm_cS (mm_ad B X) st)) := by
  unfold mm_aald at hh
  split at hh
  · next i a r =>
    split at hh
    · next cd n f he0 =>
      replace hh := mm_cond hh
      obtain ⟨h1, hh⟩ := hh
      obtain ⟨h1, h4⟩ := mm_and h1
      obtain ⟨h1, h2⟩ := mm_and h1
      obtain ⟨h2, h3⟩ := mm_and h2
      obtain ⟨h4, h5⟩ := mm_and h4
      cases mm_beq h1
      cases hh
      obtain ⟨ha, ea⟩ := mm_in6 hHP h2
      have he := mm_ws_get (B := B) (X := X) (cy := cy) ha
      rw [he0] at he
      show W p l e R s m args below meth c H locs (h.1 - c0) (h.2.1 - s0) Q (F0 m pc ls (.int i :: .ref (mm_ad B X a) :: mm_cS (mm_ad B X) r))
      rw [ea]
      refine va_aldq (C := mm_ow (mm_ac cd)) (f := fun k => (f k).map (mm_ad B X)) hexec hb hK.1 hHP.1 a cd he (by rw [mm_tys_at cy (mm_blt h5), mm_atO (mm_blt h4) (mm_blt h5)]) (mm_ib_in h3) hd ?_
      have hk := k H locs hHP hS
      rw [show va_rf ((f i.toNatClampNeg).map (mm_ad B X)) = mm_cV (mm_ad B X) (va_rf (f i.toNatClampNeg)) from by cases f i.toNatClampNeg <;> rfl]
      exact hk
    · cases hh
  · cases hh
theorem mm_iast_s (hexec : p.tables.exec = Jvm.exec) (hb : c.code = cc) (hts : ∀ w ∈ mm_TW, w.before args s = true) (hown : s.vm.findClass (mm_ow own) = some m.cls) (hK : mm_K D cy X B xt s) (hHP : mm_HP D B X cy h H) (hS : va_S (mm_A B) s.heap H locs) (hsz : s.heap.size = B + c0) (hc0 : c0 ≤ h.1)
    (hd : decode cc pc = .ok (.iastore, len)) (hh : mm_iast len pc st h = some q) (k : mm_Go p l e R s m args below meth c Q D cy X B c0 s0 ls q) : W p l e R s m args below meth c H locs (h.1 - c0) (h.2.1 - s0) Q (F0 m pc ls (mm_cS (mm_ad B X) st)) := by
  unfold mm_iast at hh
  split at hh
  · next x i a r =>
    split at hh
    · next n f he0 =>
      replace hh := mm_cond hh
      obtain ⟨h1, hh⟩ := hh
      obtain ⟨h1, h2⟩ := mm_and h1
      obtain ⟨h2, h3⟩ := mm_and h2
      cases mm_beq h1
      cases hh
      obtain ⟨ha, ea⟩ := mm_in6 hHP h2
      have he := mm_ws_get (B := B) (X := X) (cy := cy) ha
      rw [he0] at he
      show W p l e R s m args below meth c H locs (h.1 - c0) (h.2.1 - s0) Q (F0 m pc ls (.int x :: .int i :: .ref (mm_ad B X a) :: mm_cS (mm_ad B X) r))
      rw [ea]
      refine va_iast hexec hb hK.1 hHP.1 mm_ws_D hS a 0 he (mm_tys_at cy (by decide)) (mm_ib_in h3) hd (fun H1 locs1 hP1 _ hS1 => mm_up hsz hc0 (fun hle => k H1 locs1 (mm_hp_of ?_ (Nat.lt_of_le_of_lt (Nat.zero_le _) ha) hle hHP.2.2) hS1))
      rw [← mm_ws_set ha (.inl (0, n, .inl (upd f i.toNatClampNeg x))) h.2.1]
      exact hP1
    · cases hh
  · cases hh
theorem mm_bast_s (hexec : p.tables.exec = Jvm.exec) (hb : c.code = cc) (hts : ∀ w ∈ mm_TW, w.before args s = true) (hown : s.vm.findClass (mm_ow own) = some m.cls) (hK : mm_K D cy X B xt s) (hHP : mm_HP D B X cy h H) (hS : va_S (mm_A B) s.heap H locs) (hsz : s.heap.size = B + c0) (hc0 : c0 ≤ h.1)
    (hd : decode cc pc = .ok (.bastore, len)) (hh : mm_bast len pc st h = some q) (k : mm_Go p l e R s m args below meth c Q D cy X B c0 s0 ls q) : W p l e R s m args below meth c H locs (h.1 - c0) (h.2.1 - s0) Q (F0 m pc ls (mm_cS (mm_ad B X) st)) := by
  unfold mm_bast at hh
  split at hh
  · next x i a r =>
    split at hh
    · next n f he0 =>
      replace hh := mm_cond hh
      obtain ⟨h1, hh⟩ := hh
      obtain ⟨h1, h2⟩ := mm_and h1
      obtain ⟨h2, h3⟩ := mm_and h2
      cases mm_beq h1
      cases hh
      obtain ⟨ha, ea⟩ := mm_in6 hHP h2
      have he := mm_ws_get (B := B) (X := X) (cy := cy) ha
      rw [he0] at he
      show W p l e R s m args below meth c H locs (h.1 - c0) (h.2.1 - s0) Q (F0 m pc ls (.int x :: .int i :: .ref (mm_ad B X a) :: mm_cS (mm_ad B X) r))
      rw [ea]
      refine va_bast hexec hb hK.1 hHP.1 mm_ws_D hS a 1 he (mm_tys_at cy (by decide)) (mm_ib_in h3) hd (fun H1 locs1 hP1 _ hS1 => mm_up hsz hc0 (fun hle => k H1 locs1 (mm_hp_of ?_ (Nat.lt_of_le_of_lt (Nat.zero_le _) ha) hle hHP.2.2) hS1))
      rw [← mm_ws_set ha (.inl (1, n, .inl (upd f i.toNatClampNeg (vp_nar .byte x)))) h.2.1]
      exact hP1
    · next n f he0 =>
      replace hh := mm_cond hh
      obtain ⟨h1, hh⟩ := hh
      obtain ⟨h1, h2⟩ := mm_and h1
      obtain ⟨h2, h3⟩ := mm_and h2
      cases mm_beq h1
      cases hh
      obtain ⟨ha, ea⟩ := mm_in6 hHP h2
      have he := mm_ws_get (B := B) (X := X) (cy := cy) ha
      rw [he0] at he
      show W p l e R s m args below meth c H locs (h.1 - c0) (h.2.1 - s0) Q (F0 m pc ls (.int x :: .int i :: .ref (mm_ad B X a) :: mm_cS (mm_ad B X) r))
      rw [ea]
      refine va_zast hexec hb hK.1 hHP.1 mm_ws_D hS a 2 he (mm_tys_at cy (by decide)) (mm_ib_in h3) hd (fun H1 locs1 hP1 _ hS1 => mm_up hsz hc0 (fun hle => k H1 locs1 (mm_hp_of ?_ (Nat.lt_of_le_of_lt (Nat.zero_le _) ha) hle hHP.2.2) hS1))
      rw [← mm_ws_set ha (.inl (2, n, .inl (upd f i.toNatClampNeg (vp_nar .boolean x)))) h.2.1]
      exact hP1
    · cases hh
  · cases hh
theorem mm_last_s (hexec : p.tables.exec = Jvm.exec) (hb : c.code = cc) (hts : ∀ w ∈ mm_TW, w.before args s = true) (hown : s.vm.findClass (mm_ow own) = some m.cls) (hK : mm_K D cy X B xt s) (hHP : mm_HP D B X cy h H) (hS : va_S (mm_A B) s.heap H locs) (hsz : s.heap.size = B + c0) (hc0 : c0 ≤ h.1)
    (hd : decode cc pc = .ok (.lastore, len)) (hh : mm_last len pc st h = some q) (k : mm_Go p l e R s m args below meth c Q D cy X B c0 s0 ls q) : W p l e R s m args below meth c H locs (h.1 - c0) (h.2.1 - s0) Q (F0 m pc ls (mm_cS (mm_ad B X) st)) := by
  unfold mm_last at hh
  split at hh
  · next x i a r =>
    split at hh
    · next n f he0 =>
      replace hh := mm_cond hh
      obtain ⟨h1, hh⟩ := hh
      obtain ⟨h1, h2⟩ := mm_and h1
      obtain ⟨h2, h3⟩ := mm_and h2
      cases mm_beq h1
      cases hh
      obtain ⟨ha, ea⟩ := mm_in6 hHP h2
      have he := mm_ws_get (B := B) (X := X) (cy := cy) ha
      rw [he0] at he
      show W p l e R s m args below meth c H locs (h.1 - c0) (h.2.1 - s0) Q (F0 m pc ls (.long x :: .int i :: .ref (mm_ad B X a) :: mm_cS (mm_ad B X) r))
      rw [ea]
      refine va_last hexec hb hK.1 hHP.1 mm_ws_D hS a 3 he (mm_tys_at cy (by decide)) (mm_ib_in h3) hd (fun H1 locs1 hP1 _ hS1 => mm_up hsz hc0 (fun hle => k H1 locs1 (mm_hp_of ?_ (Nat.lt_of_le_of_lt (Nat.zero_le _) ha) hle hHP.2.2) hS1))
      rw [← mm_ws_set ha (.inl (3, n, .inr (.inl (vp_updL f i.toNatClampNeg x)))) h.2.1]
      exact hP1
    · cases hh
  · cases hh
theorem mm_aast_s (hexec : p.tables.exec = Jvm.exec) (hb : c.code = cc) (hts : ∀ w ∈ mm_TW, w.before args s = true) (hown : s.vm.findClass (mm_ow own) = some m.cls) (hK : mm_K D cy X B xt s) (hHP : mm_HP D B X cy h H) (hS : va_S (mm_A B) s.heap H locs) (hsz : s.heap.size = B + c0) (hc0 : c0 ≤ h.1)
    (hd : decode cc pc = .ok (.aastore, len)) (hh : mm_aast len pc st h = some q) (k : mm_Go p l e R s m args below meth c Q D cy X B c0 s0 ls q) : W p l e R s m args below meth c H locs (h.1 - c0) (h.2.1 - s0) Q (F0 m pc ls (mm_cS (mm_ad B X) st)) := by
  unfold mm_aast at hh
  split at hh
  · next v i a r =>
    split at hh
    · next cd n f o he0 he1 =>
      replace hh := mm_cond hh
      obtain ⟨h1, hh⟩ := hh
      obtain ⟨h1, h4⟩ := mm_and h1
      obtain ⟨h1, h2⟩ := mm_and h1
      obtain ⟨h2, h3⟩ := mm_and h2
      obtain ⟨h2, h6⟩ := mm_and h2
      obtain ⟨h4, h7⟩ := mm_and h4
      obtain ⟨h4, h5⟩ := mm_and h4
      cases mm_beq h1
      cases hh
      obtain ⟨ha, ea⟩ := mm_in6 hHP h2
      obtain ⟨hv, ev⟩ := mm_in6 hHP h6
      have he := mm_ws_get (B := B) (X := X) (cy := cy) ha
      rw [he0] at he
      have hev := mm_ws_get (B := B) (X := X) (cy := cy) hv
      rw [he1] at hev
      have hcl : ∃ rr, mm_cls[o.1]? = some rr ∧ rr.1 = mm_ow (mm_ac cd) := by
        rw [mm_beq h7]
        have h8 := mm_blt h4
        have h9 := mm_blt h5
        have h10 : ∀ n : Nat, 3 < n → n < 8 → n = 4 ∨ n = 5 ∨ n = 6 ∨ n = 7 := by omega
        rcases h10 cd h8 h9 with rfl | rfl | rfl | rfl <;> exact ⟨_, rfl, rfl⟩
      obtain ⟨rr, hr1, hr2⟩ := hcl
      show W p l e R s m args below meth c H locs (h.1 - c0) (h.2.1 - s0) Q (F0 m pc ls (.ref (mm_ad B X v) :: .int i :: .ref (mm_ad B X a) :: mm_cS (mm_ad B X) r))
      rw [ea]
      have hev' : (mm_ws B X cy h)[v]? = some (mm_ad B X v, .inr (o.1, o.2.map (mm_cV (mm_ad B X)))) := by rw [ev]; exact hev
      refine va_astq (r := rr) (f := fun k => (f k).map (mm_ad B X)) hexec hb hK.1 hHP.1 mm_ws_D hS a cd v o.1 he (by rw [mm_tys_at cy (mm_blt h5), mm_atO (mm_blt h4) (mm_blt h5), hr2]) hev' hr1 (mm_ib_in h3) hd (fun H1 locs1 hP1 _ hS1 => mm_up hsz hc0 (fun hle => k H1 locs1 (mm_hp_of ?_ (Nat.lt_of_le_of_lt (Nat.zero_le _) ha) hle hHP.2.2) hS1))
      rw [← mm_ws_set ha (.inl (cd, n, .inr (.inr (.inr (.inr (va_up f i.toNatClampNeg (some v))))))) h.2.1]
      rw [show mm_cE (mm_ad B X) cy (.inl (cd, n, .inr (.inr (.inr (.inr (va_up f i.toNatClampNeg (some v))))))) = .inl (cy cd, n, .inr (.inr (.inr (.inr (va_up (fun k => (f k).map (mm_ad B X)) i.toNatClampNeg (some (mm_ad B X v))))))) from by
        show Sum.inl (cy cd, n, Sum.inr (Sum.inr (Sum.inr (Sum.inr (fun k => (va_up f i.toNatClampNeg (some v) k).map (mm_ad B X)))))) = _
        congr 7
        funext k
        by_cases hk : k = i.toNatClampNeg <;> simp [va_up, hk]]
      exact hP1
    · cases hh
  · cases hh
end MmHs2
