section MmSound3
variable {l : Launch} {D : va_G} {cy : Nat → ClassId} {X : Nat → Nat} {B : Nat} {xt : Nat → Nat × (Nat → Int32)}
/-- the body of a method, from its entry -/
theorem mm_body {p : Program} {e : Env} {R : Room} {s : State} {m : MethodId} {args : Array Value} {below : List Frame} {meth : Method} {c : Code} {mi n d : Nat} {as : List Value} {h : mm_H} {r : mm_R}
    (hlt : l.stackTraces = false) (hMF : ∀ mi, mi < 403 → mm_MFP mi) (IH : ∀ mi as h r, mi < 403 → mm_run xt n d mi as h = some r → mm_Con D cy X B xt l d mi as h r) (h403 : mi < 403) (hrun : mm_run xt n (d + 1) mi as h = some r)
    (hexec : p.tables.exec = Jvm.exec) (hb : c.code = mm_b mi) (hml : c.maxLocals = (mm_MT mi).2.1) (hr : meth.sig.returnType = (mm_MT mi).2.2.1) (hlocks : meth.locks = false) (hts : ∀ w ∈ mm_TW, w.before args s = true) (hown : s.vm.findClass (mm_y mi).cls = some m.cls) (hnm : meth.name = (mm_y mi).name) (htab : c.exceptionTable.toList = tableOf (mm_MT mi).2.2.2.2.2)
    (hR : R = mm_rm (d + 1) ((mm_rh r).1 - h.1) ((mm_rh r).2.1 - h.2.1)) (hP : mm_Pc D cy X B xt as h args s) :
    W p l e R s m args below meth c s.heap [] 0 0 (vx_MQ below (mm_Qc D cy X B r) (mm_XC D cy X B r) args s ((mm_rh r).1 - h.1) ((mm_rh r).2.1 - h.2.1) (mm_A B)) (entryFrame m args (mm_MT mi).2.1) := by
  obtain ⟨ha, hHP, hK⟩ := hP
  obtain ⟨g1, g2, g3, g4, g5, g6, g7, g8, g9, g10, g11⟩ := hMF mi h403
  have hown' : s.vm.findClass (mm_ow (mm_MT mi).1) = some m.cls := by rw [← g9]; exact hown
  replace hrun := mm_cond hrun
  obtain ⟨hsl, hrun⟩ := hrun
  have hl := lv_entry (mm_cS (mm_ad B X) as) (n := (mm_MT mi).2.1) (by rw [mm_sllen]; exact Nat.le_of_ble_eq_true hsl)
  rw [mm_args] at hl
  have hent : entryFrame m args (mm_MT mi).2.1 = F0 m 0 ((lg_sl (mm_cS (mm_ad B X) as) ++ List.replicate ((mm_MT mi).2.1 - (lg_sl (mm_cS (mm_ad B X) as)).length) Slot.unset).toArray) [] := by
    rw [ha]
    exact lg_entry_eq m _ _
  rw [hent]
  have hfr : d + 11 ≤ R.frames := by rw [hR]; show d + 11 ≤ d + 1 + 10; omega
  have hlo : 60 * d + 360 ≤ R.locals := by rw [hR]; show 60 * d + 360 ≤ 60 * (d + 1) + 300; omega
  have hce : R.cells = (mm_rh r).1 - h.1 := by rw [hR]; rfl
  have hsl2 : R.slots = (mm_rh r).2.1 - h.2.1 := by rw [hR]; rfl
  have key := mm_ex_s (Q := vx_MQ below (mm_Qc D cy X B r) (mm_XC D cy X B r) args s ((mm_rh r).1 - h.1) ((mm_rh r).2.1 - h.2.1) (mm_A B)) (p := p) (l := l) (e := e) (R := R) (below := below) (meth := meth) (c0 := h.1) (s0 := h.2.1) hexec hb hml hts hown' hK hHP.2.1 (fun hk => by rw [hnm]; exact g10 (mm_beq hk)) g11 htab hMF IH (mm_run_E d) (mm_run_m d) hfr hlo (Nat.le_of_eq hce.symm) (Nat.le_of_eq hsl2.symm)
    (fun pc ls st h' H locs v i hd hv e1 hHP' hS' => by
      subst e1
      exact mm_en_s hexec hb hr hlocks hd hv hHP' hS')
    (fun E h' e1 hs pc ls rest H' locs' q ce hHP' hS' hcell hcv hfc => by
      subst e1
      have hex : ∀ x ∈ c.exceptionTable.toList, covers x pc = false := by
        rw [htab, hs]
        intro x hx
        cases hx
      exact vx_out hex hlocks hcell hcv hfc (fun t ht _ => ⟨rfl, by rw [ht]; exact hHP', hS'.F ht⟩) hS'.2.2 (Nat.le_refl _) (Nat.le_refl _))
    (fun pc f ls st h' H locs hf h6 hst e1 hls hc0 hs0 hHP' hS' => by
      have hle := mm_ex_m (mm_run_m d) _ _ _ _ _ _ hrun
      subst e1
      have hC := mm_tsF hf
      unfold mm_tsC at hC
      obtain ⟨q1, -⟩ := mm_and hC
      obtain ⟨-, q2⟩ := mm_and q1
      obtain ⟨q3, -⟩ := mm_and q2
      have hex : ∀ x ∈ c.exceptionTable.toList, False := by
        rw [htab, mm_hs0_s q3]
        intro x hx
        cases hx
      exact mm_th_s hexec hb hlt hts hown' hK g11 hlocks hex (by omega) (by omega) hf h6 hst hls hc0 hs0 (Nat.le_of_eq hce.symm) (Nat.le_of_eq hsl2.symm) hHP' hS')
    n 0 (lv_args 0 as) [] h s.heap [] _ hrun hl hHP va_S.rf (Nat.le_refl _) (Nat.le_refl _)
  rw [Nat.sub_self, Nat.sub_self] at key
  exact key
/-- EVERY RUN OF THE MINI MACHINE IS A CONTRACT OF THE MACHINE -/
theorem mm_sound {n : Nat} (hlt : l.stackTraces = false) (hMF : ∀ mi, mi < 403 → mm_MFP mi) : ∀ (d mi : Nat) (as : List Value) (h : mm_H) (r : mm_R), mi < 403 → mm_run xt n d mi as h = some r → mm_Con D cy X B xt l d mi as h r := by
  intro d
  induction d with
  | zero => intro mi as h r _ hh; cases hh
  | succ d ih =>
    intro mi as h r h403 hrun
    obtain ⟨g1, g2, g3, g4, g5, g6, g7, g8, g9, g10, g11⟩ := hMF mi h403
    unfold mm_Con
    cases hhs : (mm_MT mi).2.2.2.2.2 with
    | nil =>
      refine vx_ofW (cc := mm_b mi) (maxL := (mm_MT mi).2.1) (ret := (mm_MT mi).2.2.1) (ws' := mm_TW) g6 (by rw [mm_hw0 hhs]) ?_
      intro p e s m args below meth c s₁ Bd hml hex hP
      refine mm_body hlt hMF ih h403 hrun Bd.exec Bd.bytes hml Bd.returns Bd.notSynchronized (fun w hw => atoms_spec (ws := mm_hw mi :: mm_TW) Bd.pre w (List.mem_cons_of_mem _ hw)) (findClass_of_methodNamed Bd.named) (name_of_methodNamed Bd.named Bd.method).1 ?_ rfl hP
      rw [hhs]
      exact List.eq_nil_iff_forall_not_mem.mpr (fun x hx => hex x hx)
    | cons z zs =>
      refine vx_ofWH (cc := mm_b mi) (maxL := (mm_MT mi).2.1) (ret := (mm_MT mi).2.2.1) (hh := z :: zs) (ws' := mm_TW) g6 (by rw [mm_hw1 hhs]) ?_
      intro p e s m args below meth c s₁ Bd hml hP
      refine mm_body hlt hMF ih h403 hrun Bd.exec Bd.bytes hml Bd.returns Bd.notSynchronized (fun w hw => atoms_spec (ws := mm_hw mi :: mm_TW) Bd.pre w (List.mem_cons_of_mem _ hw)) (findClass_of_methodNamed Bd.named) (name_of_methodNamed Bd.named Bd.method).1 ?_ rfl hP
      rw [hhs]
      exact vx_table (x := mm_y mi) Bd (by rw [← mm_hw1 hhs]; exact atoms_spec (ws := mm_hw mi :: mm_TW) Bd.pre _ List.mem_cons_self)
end MmSound3
