section MmSound
variable {p : Program} {l : Launch} {e : Env} {R : Room} {s : State} {m : MethodId} {args : Array Value} {below : List Frame} {meth : Method} {c : Code} {Q : State → Prop}
variable {c0 s0 d mi : Nat} {D : va_G} {cy : Nat → ClassId} {X : Nat → Nat} {B : Nat} {xt : Nat → Nat × (Nat → Int32)} {r : mm_R} {cl : mm_C}
theorem mm_ct0 {j : Nat} (h : j < 3) : mm_ct j ≠ 0 := by
  match j, h with
  | 0, _ => exact (by decide)
  | 1, _ => exact (by decide)
  | 2, _ => exact (by decide)
  | n + 3, h => exact absurd h (by omega)
/-- the rows of a table as the mini machine goes through them -/
theorem mm_rows (hts : ∀ w ∈ mm_TW, w.before args s = true) (hown : s.vm.findClass RL = some m.cls) (hK : mm_K2 D cy X B xt s) {E : Nat} (hE : E < 3) {tc : ClassId} (hcl : s.vm.findClass (mm_xn E) = some tc) {pc hp : Nat} {pl : Platform} (hpl : pl.magicAccessors = ({} : Platform).magicAccessors) :
    ∀ hs : List (Nat × Nat × Nat × Nat), hs.all (fun z => Nat.beq z.2.2.2 (mm_ct 0) || (Nat.beq z.2.2.2 (mm_ct 1) || Nat.beq z.2.2.2 (mm_ct 2))) = true → mm_hd E pc hs = some hp → mm_cr pl s m.cls pc tc (tableOf hs) hp := by
  intro hs
  induction hs with
  | nil => intro _ h; cases h
  | cons x r ih =>
    intro hall hh
    simp only [List.all_cons, Bool.and_eq_true] at hall
    obtain ⟨hx, hall⟩ := hall
    simp only [mm_hd] at hh
    cases hcv : (Nat.ble x.1 pc && Nat.blt pc x.2.1) with
    | false =>
      rw [hcv] at hh
      refine Or.inl ⟨?_, ih hall hh⟩
      show (decide (x.1 ≤ pc) && decide (pc < x.2.1)) = false
      cases hq : (decide (x.1 ≤ pc) && decide (pc < x.2.1)) with
      | false => rfl
      | true =>
        simp only [Bool.and_eq_true, decide_eq_true_eq] at hq
        rw [show Nat.ble x.1 pc = true from Nat.ble_eq_true_of_le hq.1, show Nat.blt pc x.2.1 = true from Nat.ble_eq_true_of_le hq.2] at hcv
        cases hcv
    | true =>
      rw [hcv] at hh
      obtain ⟨b1, b2⟩ := mm_and hcv
      have hcov : covers (⟨x.1, x.2.1, x.2.2.1, x.2.2.2⟩ : ExceptionTableEntry) pc = true := by
        show (decide (x.1 ≤ pc) && decide (pc < x.2.1)) = true
        simp only [Bool.and_eq_true, decide_eq_true_eq]
        exact ⟨Nat.le_of_ble_eq_true b1, mm_blt b2⟩
      have hj : ∃ j, j < 3 ∧ x.2.2.2 = mm_ct j := by
        simp only [Bool.or_eq_true] at hx
        rcases hx with hx | hx | hx
        · exact ⟨0, by decide, mm_beq hx⟩
        · exact ⟨1, by decide, mm_beq hx⟩
        · exact ⟨2, by decide, mm_beq hx⟩
      obtain ⟨j, hj3, hj⟩ := hj
      have hlk := (mm_xF hj3).1.2.2.1
      obtain ⟨k', hk', hlinks⟩ := Cond.classLink_spec hown (hts _ hlk) pl hpl
      refine Or.inr ⟨hcov, by show x.2.2.2 ≠ 0; rw [hj]; exact mm_ct0 hj3, k', by show s.vm.ClassLinks pl m.cls x.2.2.2 k'; rw [hj]; exact hlinks, ?_⟩
      cases hq : Nat.beq x.2.2.2 (mm_ct E) with
      | true =>
        rw [hq] at hh
        have e1 : x.2.2.1 = hp := Option.some.inj hh
        have hjE : j = E := by
          have h9 := mm_beq hq
          rw [hj] at h9
          match j, E, hj3, hE, h9 with
          | 0, 0, _, _, _ => rfl
          | 1, 1, _, _, _ => rfl
          | 2, 2, _, _, _ => rfl
          | 0, 1, _, _, h9 => exact absurd h9 (by decide)
          | 0, 2, _, _, h9 => exact absurd h9 (by decide)
          | 1, 0, _, _, h9 => exact absurd h9 (by decide)
          | 1, 2, _, _, h9 => exact absurd h9 (by decide)
          | 2, 0, _, _, h9 => exact absurd h9 (by decide)
          | 2, 1, _, _, h9 => exact absurd h9 (by decide)
          | n + 3, _, h, _, _ => exact absurd h (by omega)
          | _, n + 3, _, h, _ => exact absurd h (by omega)
        subst hjE
        obtain ⟨c3, c4, hc3, hc4, hasg⟩ := Cond.castable_spec (va_Nw.use (A := args) rfl (hK.2.2.2.2.2.1 j hj3))
        cases Option.some.inj (hc3.symm.trans hcl)
        cases Option.some.inj (hc4.symm.trans hk')
        exact Or.inl ⟨hasg, e1.symm⟩
      | false =>
        rw [hq] at hh
        have hne : E ≠ j := fun q => by
          subst q
          rw [hj] at hq
          rw [show Nat.beq (mm_ct E) (mm_ct E) = true from Nat.beq_refl _] at hq
          cases hq
        obtain ⟨a8, b8, g1, g2, g3⟩ := hK.2.2.2.2.2.2 E j hE hj3 hne
        cases Option.some.inj (g1.symm.trans hcl)
        cases Option.some.inj (g2.symm.trans hk')
        exact Or.inr ⟨g3, ih hall hh⟩
theorem mm_iv_E {own len : Nat} {st : List Value} {h h' : mm_H} {E : Nat} {rr : List Value} (hE3 : ∀ mi as h E h', cl mi as h = some (.inr (E, h')) → E < 3) {ins : Instr} (hh : mm_iv cl own ins len st h = some (.inr (E, h'), rr)) : E < 3 := by
  cases ins <;> simp only [mm_iv, Bool.cond_eq_ite] at hh <;>
    first
    | (cases hh; done)
    | ((repeat' split at hh) <;> first | (cases hh; done) | (cases hh; exact hE3 _ _ _ _ _ (by assumption)))
set_option maxHeartbeats 4000000 in
/-- THE RUN IS SOUND, one frame: callees by their contracts -/
theorem mm_ex_s (hexec : p.tables.exec = Jvm.exec) (hb : c.code = mm_b mi) (hml : c.maxLocals = (mm_MT mi).2.1) (hts : ∀ w ∈ mm_TW, w.before args s = true) (hown : s.vm.findClass (mm_ow (mm_MT mi).1) = some m.cls) (hK : mm_K2 D cy X B xt s) (hsz : s.heap.size = B + c0)
    (hini : Nat.beq (mm_MT mi).2.2.2.2.1 2 = true → meth.name = "<init>") (hdec : ∀ (pc : Nat) (x : Instr × Nat), mm_cd mi pc = some x → decode (mm_b mi) pc = .ok x) (htab : c.exceptionTable.toList = tableOf (mm_MT mi).2.2.2.2.2)
    (hMF : ∀ mi, mi < 403 → mm_MFP mi) (IH : ∀ mi as h r, mi < 403 → cl mi as h = some r → mm_Con D cy X B xt l d mi as h r) (hE3 : ∀ mi as h E h', cl mi as h = some (.inr (E, h')) → E < 3) (hcl : ∀ mi as h r, cl mi as h = some r → mm_le h (mm_rh r)) (hRf : d + 11 ≤ R.frames) (hRl : 60 * d + 360 ≤ R.locals) (hRc : (mm_rh r).1 - c0 ≤ R.cells) (hRs : (mm_rh r).2.1 - s0 ≤ R.slots)
    (hEnd : ∀ (pc : Nat) (ls : Array Slot) (st : List Value) (h : mm_H) (H : Heap) (locs : List Loc) (v : Option Value) (i : Instr × Nat), decode (mm_b mi) pc = .ok i → mm_en (mm_MT mi).2.2.1 i.1 i.2 st = some v → r = .inl (v, h) → mm_HP D B X cy h H → va_S (mm_A B) s.heap H locs → W p l e R s m args below meth c H locs (h.1 - c0) (h.2.1 - s0) Q (F0 m pc ls (mm_cS (mm_ad B X) st)))
    (hOut : ∀ E h', r = .inr (E, h') → (mm_MT mi).2.2.2.2.2 = [] → ∀ (pc : Nat) (ls : Array Slot) (rest : List Value) (H' : Heap) (locs' : List Loc) (q : Addr) (ce : Cell), mm_HP D B X cy h' H' → va_S (mm_A B) s.heap H' locs' → H'[q]? = some ce → ce.vm = .none → s.vm.findClass (mm_xn E) = some ce.cls → vx_W p l e R s m args below meth c H' locs' (h'.1 - c0) (h'.2.1 - s0) Q (F0 m pc ls rest) q)
    (hNew : ∀ (pc : Nat) (f : Nat × Nat × Nat × Nat × Nat) (ls : Array Slot) (st : List Value) (h : mm_H) (H : Heap) (locs : List Loc), mm_lk (mm_tsT mi) pc = some f → h.1 < 1000000 → mm_small st = true → r = .inr (f.1, (h.1 + 1, h.2.1 + 6, va_up h.2.2 h.1 (.inr (13 + f.1, [])))) → ls.size = c.maxLocals → c0 ≤ h.1 → s0 ≤ h.2.1 → mm_HP D B X cy h H → va_S (mm_A B) s.heap H locs → W p l e R s m args below meth c H locs (h.1 - c0) (h.2.1 - s0) Q (F0 m pc ls (mm_cS (mm_ad B X) st))) :
    ∀ (n pc : Nat) (lv : mm_L) (st : List Value) (h : mm_H) (H : Heap) (locs : List Loc) (ls : Array Slot), mm_ex xt cl mi n pc lv st h = some r → lv_has ls (mm_MT mi).2.1 (mm_cL (mm_ad B X) lv) → mm_HP D B X cy h H → va_S (mm_A B) s.heap H locs → c0 ≤ h.1 → s0 ≤ h.2.1 →
      W p l e R s m args below meth c H locs (h.1 - c0) (h.2.1 - s0) Q (F0 m pc ls (mm_cS (mm_ad B X) st)) := by
  intro n
  induction n with
  | zero => intro pc lv st h H locs ls hh; cases hh
  | succ n ih =>
    intro pc lv st h H locs ls hh hl hHP hS hc0 hs0
    have hmono := mm_ex_m hcl _ _ _ _ _ _ hh
    have hls : c.maxLocals = ls.size := by rw [hml]; exact hl.1.symm
    simp only [mm_ex] at hh
    split at hh
    · cases hh
    · next i hi =>
      have hd : decode (mm_b mi) pc = .ok (i.1, i.2) := hdec pc i hi
      split at hh
      · next q hq => exact mm_pu_s hexec hb hd hq hl (fun ls' hl' => ih _ _ _ _ _ _ _ hh hl' hHP hS hc0 hs0)
      · split at hh
        · next q hq =>
          have h1 := mm_he_m hq
          have h2 := mm_ex_m hcl _ _ _ _ _ _ hh
          have h3 := h1.1
          have h4 := h1.2
          have h5 := h2.1
          have h6 := h2.2
          exact mm_he_s hexec hb hts hown hK.1 hHP hS hsz hc0 hs0 (by omega) (by omega) hini hd hq (fun H' locs' hHP' hS' => ih _ _ _ _ _ _ _ hh hl hHP' hS' (by omega) (by omega))
        · split at hh
          · next q hq =>
            have h1 := mm_bu_m hq
            have h2 := mm_ex_m hcl _ _ _ _ _ _ hh
            have h3 := h1.1
            have h4 := h1.2
            have h5 := h2.1
            have h6 := h2.2
            exact mm_bu_s hexec hb hls hts hown hK hHP hS hsz hc0 (by omega) (by omega) (by omega) (by omega) hd hq (fun H' locs' hHP' hS' => ih _ _ _ _ _ _ _ hh hl hHP' hS' (by omega) (by omega))
          · split at hh
            · next v hv => exact hEnd pc ls st h H locs v i (hdec pc i hi) hv (Option.some.inj hh).symm hHP hS
            · split at hh
              · next f hf =>
                replace hh := mm_cond hh
                obtain ⟨h1, hh⟩ := hh
                obtain ⟨h2, h3⟩ := mm_and h1
                exact hNew pc f ls st h H locs hf (mm_blt h2) h3 (Option.some.inj hh).symm hls.symm hc0 hs0 hHP hS
              · split at hh
                · next v h' rr hq =>
                  have h1 := mm_iv_m hcl hq
                  have h2 := mm_ex_m hcl _ _ _ _ _ _ hh
                  have h3 : h.1 ≤ h'.1 := h1.1
                  have h4 : h.2.1 ≤ h'.2.1 := h1.2
                  have h5 := h2.1
                  have h6 := h2.2
                  refine mm_iv_s hexec hb hls hts hown hK hHP hS hc0 hs0 hMF IH hcl hRf hRl hd hq (by show h'.1 - c0 ≤ R.cells; omega) (by show h'.2.1 - s0 ≤ R.slots; omega) ⟨fun v1 h1' e1 H' locs' hHP' hS' => ?_, fun E h1' e1 => ?_⟩
                  · cases e1
                    exact ih _ _ _ _ _ _ _ hh hl hHP' hS' (by omega) (by omega)
                  · cases e1
                · next E h' rr hq =>
                  have h1 := mm_iv_m hcl hq
                  have h3 : h.1 ≤ h'.1 := h1.1
                  have h4 : h.2.1 ≤ h'.2.1 := h1.2
                  have hE : E < 3 := mm_iv_E hE3 hq
                  split at hh
                  · split at hh
                    · next hn hs =>
                      cases hh
                      refine mm_iv_s hexec hb hls hts hown hK hHP hS hc0 hs0 hMF IH hcl hRf hRl hd hq hRc hRs ⟨fun v1 h1' e1 => ?_, fun E' h1' e1 H' locs' q ce hHP' hS' hce hcv hfc => ?_⟩
                      · cases e1
                      · cases e1
                        exact hOut E h' rfl hs pc ls _ H' locs' q ce hHP' hS' hce hcv hfc
                    · cases hh
                  · next hp hhd =>
                    split at hh
                    · cases hh
                    · next i2 hi2 =>
                      split at hh
                      · cases hh
                      · next k hk =>
                        replace hh := mm_cond hh
                        obtain ⟨hkn, hh⟩ := hh
                        have h2 := mm_ex_m hcl _ _ _ _ _ _ hh
                        have h5 := h2.1
                        have h6 := h2.2
                        refine mm_iv_s hexec hb hls hts hown hK hHP hS hc0 hs0 hMF IH hcl hRf hRl hd hq (by show h'.1 - c0 ≤ R.cells; omega) (by show h'.2.1 - s0 ≤ R.slots; omega) ⟨fun v1 h1' e1 => ?_, fun E' h1' e1 H' locs' q ce hHP' hS' hce hcv hfc => ?_⟩
                        · cases e1
                        · cases e1
                          have hH := mm_hF mi
                          obtain ⟨hH1, hH2⟩ := mm_and hH
                          have hown13 : s.vm.findClass RL = some m.cls := by
                            cases hhs : (mm_MT mi).2.2.2.2.2 with
                            | nil => rw [hhs] at hhd; cases hhd
                            | cons z zs =>
                              rw [hhs] at hH1
                              have h13 : (mm_MT mi).1 = 13 := mm_beq hH1
                              rw [h13] at hown
                              exact hown
                          obtain ⟨k9, h9, -⟩ := Vm.findClass_spec hfc
                          refine mm_catchW ⟨k9, h9⟩ hce hcv (fun pl hpl => by rw [htab]; exact mm_rows hts hown13 hK hE hfc hpl _ hH2 hhd) ?_
                          have hd2 : decode (mm_b mi) hp = .ok (i2.1, i2.2) := hdec hp i2 hi2
                          have hkl := mm_blt hkn
                          have drop : ∀ (ls' : Array Slot), lv_has ls' (mm_MT mi).2.1 ((k.1, Value.ref q) :: (mm_cL (mm_ad B X) lv).filter (fun q => !(q.1 == k.1) && !(q.1 + 1 == k.1 && q.2.category == 2))) → lv_has ls' (mm_MT mi).2.1 (mm_cL (mm_ad B X) (mm_forget lv k.1)) := by
                            intro ls' hl'
                            refine ⟨hl'.1, hl'.2.1, fun z hz => hl'.2.2 z (List.mem_cons_of_mem _ ?_)⟩
                            rw [mm_fil _ (fun q => !(q.1 == k.1) && !(q.1 + 1 == k.1 && q.2.category == 2)) (fun q => by simp only [mm_cat])]
                            exact hz
                          unfold mm_hk at hk
                          split at hk
                          · next ix e2 =>
                            obtain ⟨b1, b2⟩ := mm_cond hk
                            cases b2
                            rw [e2, mm_beq b1] at hd2
                            exact lv_astore hexec hb hd2 hl hkl rfl (fun ls' hl' => ih _ _ _ _ _ _ _ hh (drop ls' hl') hHP' hS' (by omega) (by omega))
                          · next ix e2 =>
                            obtain ⟨b1, b2⟩ := mm_cond hk
                            cases b2
                            rw [e2, mm_beq b1] at hd2
                            exact lv_astore_n hexec hb hd2 rfl hl hkl rfl (fun ls' hl' => ih _ _ _ _ _ _ _ hh (drop ls' hl') hHP' hS' (by omega) (by omega))
                          · cases hk
                · cases hh
end MmSound
