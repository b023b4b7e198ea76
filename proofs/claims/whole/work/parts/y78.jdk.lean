set_option maxRecDepth 100000 in
theorem mm_w1 : Jvm.Cond.instanceMethod Lib.objectInit ∈ mm_TW := mm_TW_of (i := 180) (by decide +kernel) rfl
set_option maxRecDepth 100000 in
theorem mm_w2 : Jvm.Cond.code Lib.objectInit ⟨#[0xb1]⟩ 1 none ∈ mm_TW := mm_TW_of (i := 181) (by decide +kernel) rfl
set_option maxRecDepth 100000 in
theorem mm_w3 : Jvm.Cond.initialized "java/lang/Math" ∈ mm_TW := mm_TW_of (i := 171) (by decide +kernel) rfl
set_option maxRecDepth 100000 in
theorem mm_w4 : Jvm.Cond.static Lib.Math.min.name ∈ mm_TW ∧ Jvm.Cond.code Lib.Math.min.name Lib.Math.min.code 2 (some .int) ∈ mm_TW := ⟨mm_TW_of (i := 924) (by decide +kernel) rfl, mm_TW_of (i := 925) (by decide +kernel) rfl⟩
set_option maxRecDepth 100000 in
theorem mm_w5 : Jvm.Cond.static Lib.Math.max.name ∈ mm_TW ∧ Jvm.Cond.code Lib.Math.max.name Lib.Math.max.code 2 (some .int) ∈ mm_TW := ⟨mm_TW_of (i := 859) (by decide +kernel) rfl, mm_TW_of (i := 860) (by decide +kernel) rfl⟩
set_option maxRecDepth 100000 in
theorem mm_w6 : Jvm.Cond.static Lib.Math.abs.name ∈ mm_TW ∧ Jvm.Cond.code Lib.Math.abs.name Lib.Math.abs.code 1 (some .int) ∈ mm_TW := ⟨mm_TW_of (i := 1071) (by decide +kernel) rfl, mm_TW_of (i := 1072) (by decide +kernel) rfl⟩
set_option maxRecDepth 100000 in
theorem mm_w7 : Jvm.Cond.static Lib.MathLoose.min_long.x ∈ mm_TW ∧ Jvm.Cond.code Lib.MathLoose.min_long.x Lib.MathLoose.min_long.code 4 (some .long) ∈ mm_TW := ⟨mm_TW_of (i := 854) (by decide +kernel) rfl, mm_TW_of (i := 855) (by decide +kernel) rfl⟩
set_option maxRecDepth 100000 in
theorem mm_w8 : Jvm.Cond.native arraycopyName ∈ mm_TW ∧ Jvm.Cond.static arraycopyName ∈ mm_TW ∧ Jvm.Cond.initialized "java/lang/System" ∈ mm_TW := ⟨mm_TW_of (i := 979) (by decide +kernel) rfl, mm_TW_of (i := 978) (by decide +kernel) rfl, mm_TW_of (i := 172) (by decide +kernel) rfl⟩
theorem mm_w9 : nativeFrameWords "java/lang/System" "arraycopy" 5 ≤ 100 := by decide +kernel
section MmBu
variable {p : Program} {l : Launch} {e : Env} {R : Room} {s : State} {m : MethodId} {args : Array Value} {below : List Frame} {meth : Method} {c : Code} {H : Heap} {locs : List Loc} {Q : State → Prop}
variable {cc : ByteArray} {pc own c0 s0 len : Nat} {ls : Array Slot} {st : List Value} {D : va_G} {cy : Nat → ClassId} {X : Nat → Nat} {B : Nat} {xt : Nat → Nat × (Nat → Int32)} {h : mm_H}
set_option maxHeartbeats 4000000 in
/-- a method of the JDK's -/
theorem mm_bu_s (hexec : p.tables.exec = Jvm.exec) (hb : c.code = cc) (hml : c.maxLocals = ls.size) (hts : ∀ w ∈ mm_TW, w.before args s = true) (hown : s.vm.findClass (mm_ow own) = some m.cls) (hK : mm_K2 D cy X B xt s) (hHP : mm_HP D B X cy h H) (hS : va_S (mm_A B) s.heap H locs) (hsz : s.heap.size = B + c0) (hc0 : c0 ≤ h.1)
    (hRf : 11 ≤ R.frames) (hRl : 360 ≤ R.locals) (hRc : h.1 - c0 ≤ R.cells) (hRs : h.2.1 - s0 ≤ R.slots)
    {ins : Instr} {q : List Value × mm_H} (hd : decode cc pc = .ok (ins, len)) (hh : mm_bu own ins len st h = some q)
    (k : ∀ (H' : Heap) (locs' : List Loc), mm_HP D B X cy q.2 H' → va_S (mm_A B) s.heap H' locs' → W p l e R s m args below meth c H' locs' (q.2.1 - c0) (q.2.2.1 - s0) Q (F0 m (pc + 3) ls (mm_cS (mm_ad B X) q.1))) : W p l e R s m args below meth c H locs (h.1 - c0) (h.2.1 - s0) Q (F0 m pc ls (mm_cS (mm_ad B X) st)) := by
  cases ins
  case invokespecial idx =>
    simp only [mm_bu] at hh
    split at hh
    · next f hf =>
      split at hh
      · next a r =>
        replace hh := mm_cond hh
        obtain ⟨h0, hh⟩ := hh
        obtain ⟨h1, h2⟩ := mm_and h0
        clear h0
        obtain ⟨h4, h3⟩ := mm_and h2
        clear h2
        cases mm_beq h4
        cases hh
        have h8 := lv_room (m := m) (pc := pc) (ls := ls) (rest := mm_cS (mm_ad B X) (.ref a :: r)) (mm_small_s (ad := mm_ad B X) h3)
        exact W.objInit (a := mm_ad B X a) (rest := mm_cS (mm_ad B X) r) hexec hb hown (hts _ (mm_ivB6 hf (mm_beq h1))) (hts _ mm_w1) (hts _ mm_w2) rfl hml.symm rfl hd (by omega) (by omega) (k H locs hHP hS)
      · cases hh
    · cases hh
  case invokestatic idx =>
    simp only [mm_bu] at hh
    split at hh
    · next f hf =>
      split at hh
      · next hk =>
        split at hh
        · next y x r =>
          replace hh := mm_cond hh
          obtain ⟨h1, hh⟩ := hh
          obtain ⟨h1, h3⟩ := mm_and h1
          cases mm_beq h1
          cases hh
          have h8 := mm_small_s (ad := mm_ad B X) h3
          exact va_mmin (rest := mm_cS (mm_ad B X) r) hexec hb hml hown (hts _ (mm_ivB7 hf hk)) (hts _ mm_w4.1) (hts _ mm_w3) (hts _ mm_w4.2) (by omega) (by omega) hRc hRs hd (k H locs hHP hS)
        · cases hh
      · next hk =>
        split at hh
        · next y x r =>
          replace hh := mm_cond hh
          obtain ⟨h1, hh⟩ := hh
          obtain ⟨h1, h3⟩ := mm_and h1
          cases mm_beq h1
          cases hh
          have h8 := mm_small_s (ad := mm_ad B X) h3
          exact va_mmax (rest := mm_cS (mm_ad B X) r) hexec hb hml hown (hts _ (mm_ivB8 hf hk)) (hts _ mm_w5.1) (hts _ mm_w3) (hts _ mm_w5.2) (by omega) (by omega) hRc hRs hd (k H locs hHP hS)
        · cases hh
      · next hk =>
        split at hh
        · next x r =>
          replace hh := mm_cond hh
          obtain ⟨h1, hh⟩ := hh
          obtain ⟨h1, h3⟩ := mm_and h1
          cases mm_beq h1
          cases hh
          have h8 := mm_small_s (ad := mm_ad B X) h3
          exact va_mabs (rest := mm_cS (mm_ad B X) r) hexec hb hml hown (hts _ (mm_ivB9 hf hk)) (hts _ mm_w6.1) (hts _ mm_w3) (hts _ mm_w6.2) (by omega) (by omega) hRc hRs hd (k H locs hHP hS)
        · cases hh
      · next hk =>
        split at hh
        · next y x r =>
          replace hh := mm_cond hh
          obtain ⟨h1, hh⟩ := hh
          obtain ⟨h1, h3⟩ := mm_and h1
          cases mm_beq h1
          cases hh
          have h8 := mm_small_s (ad := mm_ad B X) h3
          exact va_mmin_long (rest := mm_cS (mm_ad B X) r) hexec hb hml hown (hts _ (mm_ivB10 hf hk)) (hts _ mm_w7.1) (hts _ mm_w3) (hts _ mm_w7.2) (by omega) (by omega) hRc hRs hd (k H locs hHP hS)
        · cases hh
      · next hk =>
        split at hh
        · next n dp a1 sp a0 r =>
          split at hh
          · next k0 n0 f0 k1 n1 f1 he0 he1 =>
            replace hh := mm_cond hh
            obtain ⟨h1, hh⟩ := hh
            obtain ⟨h1, h2⟩ := mm_and h1
            obtain ⟨h1, h3⟩ := mm_and h1
            obtain ⟨h1, h4⟩ := mm_and h1
            obtain ⟨h3, h5⟩ := mm_and h3
            obtain ⟨h3, h6⟩ := mm_and h3
            obtain ⟨h5, h7⟩ := mm_and h5
            obtain ⟨h2, h9⟩ := mm_and h2
            obtain ⟨h2, h10⟩ := mm_and h2
            obtain ⟨h10, h11⟩ := mm_and h10
            obtain ⟨h9, h12⟩ := mm_and h9
            cases mm_beq h1
            cases hh
            obtain ⟨ha0, ea0⟩ := mm_in6 hHP h3
            obtain ⟨ha1, ea1⟩ := mm_in6 hHP h6
            have ek : k0 = k1 := mm_beq h5
            subst ek
            have hw0 := mm_ws_get (B := B) (X := X) (cy := cy) ha0
            rw [he0] at hw0
            have hw1 := mm_ws_get (B := B) (X := X) (cy := cy) ha1
            rw [he1] at hw1
            have h8 := mm_small_s (ad := mm_ad B X) h4
            have hty : ∃ ty, mm_at k0 = ty ∧ k0 < 8 ∧ refKind ty = false ∧ ∀ i, i < n.toNatClampNeg → fits ty (.int (f0 (sp.toNatClampNeg + i))) = true := by
              rcases (Bool.or_eq_true _ _).mp h7 with h13 | h13
              · cases mm_beq h13
                exact ⟨.int, rfl, by decide, rfl, fun _ _ => rfl⟩
              · obtain ⟨h13, h14⟩ := mm_and h13
                cases mm_beq h13
                exact ⟨.byte, rfl, by decide, rfl, fun i hi => List.all_eq_true.mp h14 i (List.mem_range.mpr hi)⟩
            obtain ⟨ty, et, h15, hpr, hfit⟩ := hty
            show W p l e R s m args below meth c H locs (h.1 - c0) (h.2.1 - s0) Q (F0 m pc ls (.int n :: .int dp :: .ref (mm_ad B X a1) :: .int sp :: .ref (mm_ad B X a0) :: mm_cS (mm_ad B X) r))
            rw [ea0, ea1]
            have hwd := mm_w9
            refine va_copyi (ty := ty) hexec hb hml hown (hts _ (mm_ivB11 hf hk)) (hts _ mm_w8.1) (hts _ mm_w8.2.1) (hts _ mm_w8.2.2) hK.1.1 hHP.1 mm_ws_D hS a0 a1 k0 k0 hw0 hw1 (by rw [mm_tys_at cy h15, et]) (by rw [mm_tys_at cy h15, et]) hpr (by simpa using h2) (by simpa using h10) (by simpa using h11) (Nat.le_of_ble_eq_true h9) (Nat.le_of_ble_eq_true h12) hfit (by omega) (by omega) hd (fun H1 locs1 hP1 _ hS1 => mm_up hsz hc0 (fun hle => k H1 locs1 (mm_hp_of ?_ (Nat.lt_of_le_of_lt (Nat.zero_le _) ha1) hle hHP.2.2) hS1))
            rw [← mm_ws_set ha1 (.inl (k0, n1, .inl (va_cpy f0 f1 sp.toNatClampNeg dp.toNatClampNeg n.toNatClampNeg))) h.2.1]
            exact hP1
          · cases hh
        · cases hh
      · cases hh
    · cases hh
  all_goals (exact absurd hh (by simp [mm_bu]))
end MmBu
