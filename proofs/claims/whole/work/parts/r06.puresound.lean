section MmPure
variable {p : Program} {l : Launch} {e : Env} {R : Room} {s : State} {m : MethodId} {args : Array Value} {below : List Frame} {meth : Method} {c : Code} {H : Heap} {locs : List Loc} {cells slots : Nat} {Q : State → Prop}
variable {cc : ByteArray} {pc nL len : Nat} {ls : Array Slot} {lv : mm_L} {st : List Value} {q : mm_P} {ad : Nat → Nat}
theorem mm_swT (hexec : p.tables.exec = Jvm.exec) (hb : c.code = cc) {d lo hi : Int} {offs : Array Int} (hd : decode cc pc = .ok (.tableswitch d lo hi offs, len)) (h : mm_tsw pc d lo hi offs lv st = some q) (hl : lv_has ls nL (mm_cL ad lv))
    (k : ∀ ls', lv_has ls' nL (mm_cL ad q.2.1) → W p l e R s m args below meth c H locs cells slots Q (F0 m q.1 ls' (mm_cS ad q.2.2))) : W p l e R s m args below meth c H locs cells slots Q (F0 m pc ls (mm_cS ad st)) := by
  unfold mm_tsw at h
  split at h
  · next x r =>
    split at h
    · next hc =>
      obtain ⟨t, ht, rfl⟩ := mm_jump_eq h
      exact lv_tableOut hexec hb hd hc ht (k ls hl)
    · next hc =>
      split at h
      · next off ho =>
        obtain ⟨t, ht, rfl⟩ := mm_jump_eq h
        exact lv_tableIn hexec hb hd (fun h => hc (Or.inl h)) (fun h => hc (Or.inr h)) ho ht (k ls hl)
      · cases h
  · cases h
theorem mm_swL (hexec : p.tables.exec = Jvm.exec) (hb : c.code = cc) {d : Int} {ps : Array (Int × Int)} (hd : decode cc pc = .ok (.lookupswitch d ps, len)) (h : mm_lsw pc d ps lv st = some q) (hl : lv_has ls nL (mm_cL ad lv))
    (k : ∀ ls', lv_has ls' nL (mm_cL ad q.2.1) → W p l e R s m args below meth c H locs cells slots Q (F0 m q.1 ls' (mm_cS ad q.2.2))) : W p l e R s m args below meth c H locs cells slots Q (F0 m pc ls (mm_cS ad st)) := by
  unfold mm_lsw at h
  split at h
  · next x r =>
    obtain ⟨h1, h2⟩ := mm_cond h
    obtain ⟨t, ht, rfl⟩ := mm_jump_eq h2
    exact lv_lookup hexec hb hd h1 rfl ht (k ls hl)
  · cases h
set_option maxHeartbeats 4000000 in
/-- a pure instruction -/
theorem mm_pu_s (hexec : p.tables.exec = Jvm.exec) (hb : c.code = cc) {ins : Instr} (hd : decode cc pc = .ok (ins, len)) (h : mm_pu nL ins len pc lv st = some q) (hl : lv_has ls nL (mm_cL ad lv))
    (k : ∀ ls', lv_has ls' nL (mm_cL ad q.2.1) → W p l e R s m args below meth c H locs cells slots Q (F0 m q.1 ls' (mm_cS ad q.2.2))) : W p l e R s m args below meth c H locs cells slots Q (F0 m pc ls (mm_cS ad st)) := by
  cases ins
  case iconst n => obtain ⟨rfl, rfl⟩ := mm_pushi_i h; exact lv_iconst hexec hb hd rfl (k ls hl)
  case bipush n => obtain ⟨rfl, rfl⟩ := mm_pushi_i h; exact lv_bipush hexec hb hd rfl (k ls hl)
  case sipush n => obtain ⟨rfl, rfl⟩ := mm_pushi_i h; exact lv_sipush hexec hb hd rfl (k ls hl)
  case lconst n => obtain ⟨rfl, rfl⟩ := mm_pushi_i h; exact lv_lconst hexec hb hd rfl (k ls hl)
  case aconst_null => obtain ⟨rfl, rfl⟩ := mm_pushi_i h; exact lv_null hexec hb hd (k ls hl)
  case iload i =>
    obtain ⟨rfl, v, hg, ho, rfl⟩ := mm_load_i h
    cases v <;> first | exact lv_iload hexec hb hd (mm_has_get hl hg) (k ls hl) | cases ho
  case iload_n i =>
    obtain ⟨rfl, v, hg, ho, rfl⟩ := mm_load_i h
    cases v <;> first | exact lv_iload_n hexec hb hd rfl (mm_has_get hl hg) (k ls hl) | cases ho
  case lload i =>
    obtain ⟨rfl, v, hg, ho, rfl⟩ := mm_load_i h
    cases v <;> first | exact lv_lload hexec hb hd (mm_has_get hl hg) (k ls hl) | cases ho
  case lload_n i =>
    obtain ⟨rfl, v, hg, ho, rfl⟩ := mm_load_i h
    cases v <;> first | exact lv_lload_n hexec hb hd rfl (mm_has_get hl hg) (k ls hl) | cases ho
  case aload i =>
    obtain ⟨rfl, v, hg, ho, rfl⟩ := mm_load_i h
    cases v <;> first | exact lv_aload hexec hb hd (mm_has_get hl hg) (k ls hl) | exact lv_aloadN hexec hb hd (mm_has_get hl hg) (k ls hl) | cases ho
  case aload_n i =>
    obtain ⟨rfl, v, hg, ho, rfl⟩ := mm_load_i h
    cases v <;> first | exact lv_aload_n hexec hb hd rfl (mm_has_get hl hg) (k ls hl) | exact lv_aload_nN hexec hb hd rfl (mm_has_get hl hg) (k ls hl) | cases ho
  case istore i =>
    obtain ⟨rfl, hi, v, r, rfl, ho, rfl⟩ := mm_store1_i h
    cases v with
    | int x => exact lv_istore hexec hb hd hl hi (mm_cset1 ad lv i (.int x)) k
    | _ => cases ho
  case istore_n i =>
    obtain ⟨rfl, hi, v, r, rfl, ho, rfl⟩ := mm_store1_i h
    cases v with
    | int x => exact lv_istore_n hexec hb hd rfl hl hi (mm_cset1 ad lv i (.int x)) k
    | _ => cases ho
  case astore i =>
    obtain ⟨rfl, hi, v, r, rfl, ho, rfl⟩ := mm_store1_i h
    cases v with
    | ref a => exact lv_astore hexec hb hd hl hi (mm_cset1 ad lv i (.ref a)) k
    | null => exact lv_astoreN hexec hb hd hl hi (mm_cset1 ad lv i .null) k
    | _ => cases ho
  case astore_n i =>
    obtain ⟨rfl, hi, v, r, rfl, ho, rfl⟩ := mm_store1_i h
    cases v with
    | ref a => exact lv_astore_n hexec hb hd rfl hl hi (mm_cset1 ad lv i (.ref a)) k
    | null => exact lv_astore_nN hexec hb hd rfl hl hi (mm_cset1 ad lv i .null) k
    | _ => cases ho
  case lstore i => obtain ⟨rfl, hi, x, r, rfl, rfl⟩ := mm_store2_i h; exact lv_lstore hexec hb hd hl hi (mm_cset2 ad lv i (.long x)) k
  case lstore_n i => obtain ⟨rfl, hi, x, r, rfl, rfl⟩ := mm_store2_i h; exact lv_lstore_n hexec hb hd rfl hl hi (mm_cset2 ad lv i (.long x)) k
  case iinc i n =>
    obtain ⟨rfl, hi, x, hg, rfl⟩ := mm_iinc_i h
    obtain ⟨k0, hk0⟩ := List.getElem?_of_mem (List.mem_map.mpr ⟨(i, Value.int x), mm_get_mem hg, rfl⟩ : (i, Value.int x) ∈ mm_cL ad lv)
    exact lv_iinc hexec hb hd hl hk0 rfl hi (mm_cset1 ad lv i (.int (x + Int32.ofInt n))) k
  case iadd => obtain ⟨rfl, x, y, r, rfl, rfl⟩ := mm_bi_i h; exact lv_iadd hexec hb hd (k ls hl)
  case isub => obtain ⟨rfl, x, y, r, rfl, rfl⟩ := mm_bi_i h; exact lv_isub hexec hb hd (k ls hl)
  case imul => obtain ⟨rfl, x, y, r, rfl, rfl⟩ := mm_bi_i h; exact lv_imul hexec hb hd (k ls hl)
  case iand => obtain ⟨rfl, x, y, r, rfl, rfl⟩ := mm_bi_i h; exact lv_iand hexec hb hd (k ls hl)
  case ior => obtain ⟨rfl, x, y, r, rfl, rfl⟩ := mm_bi_i h; exact lv_ior hexec hb hd (k ls hl)
  case ishl => obtain ⟨rfl, x, y, r, rfl, rfl⟩ := mm_bi_i h; exact lv_ishl hexec hb hd (k ls hl)
  case ishr => obtain ⟨rfl, x, y, r, rfl, rfl⟩ := mm_bi_i h; exact lv_ishr hexec hb hd (k ls hl)
  case idiv => obtain ⟨rfl, x, y, r, rfl, h0, rfl⟩ := mm_bd_i h; exact lv_idiv hexec hb hd h0 (k ls hl)
  case irem => obtain ⟨rfl, x, y, r, rfl, h0, rfl⟩ := mm_bd_i h; exact lv_irem hexec hb hd h0 (k ls hl)
  case ineg => obtain ⟨rfl, x, r, rfl, rfl⟩ := mm_ui_i h; exact lv_ineg hexec hb hd (k ls hl)
  case i2b => obtain ⟨rfl, x, r, rfl, rfl⟩ := mm_ui_i h; exact lv_i2b hexec hb hd rfl (k ls hl)
  case ladd => obtain ⟨rfl, x, y, r, rfl, rfl⟩ := mm_bl_i h; exact lv_ladd hexec hb hd (k ls hl)
  case lsub => obtain ⟨rfl, x, y, r, rfl, rfl⟩ := mm_bl_i h; exact lv_lsub hexec hb hd (k ls hl)
  case lmul => obtain ⟨rfl, x, y, r, rfl, rfl⟩ := mm_bl_i h; exact lv_lmul hexec hb hd (k ls hl)
  case land => obtain ⟨rfl, x, y, r, rfl, rfl⟩ := mm_bl_i h; exact lv_land hexec hb hd (k ls hl)
  case lor => obtain ⟨rfl, x, y, r, rfl, rfl⟩ := mm_bl_i h; exact lv_lor hexec hb hd (k ls hl)
  case lrem => obtain ⟨rfl, x, y, r, rfl, h0, rfl⟩ := mm_bld_i h; exact lv_lrem hexec hb hd h0 (k ls hl)
  case lushr => obtain ⟨rfl, x, y, r, rfl, rfl⟩ := mm_sl_i h; exact lv_lushr hexec hb hd rfl (k ls hl)
  case lshl => obtain ⟨rfl, x, y, r, rfl, rfl⟩ := mm_sl_i h; exact lv_lshl hexec hb hd rfl (k ls hl)
  case lcmp => obtain ⟨rfl, x, y, r, rfl, rfl⟩ := mm_lc_i h; exact W.lcmp hexec hb hd (k ls hl)
  case i2l => obtain ⟨rfl, x, r, rfl, rfl⟩ := mm_il_i h; exact lv_i2l hexec hb hd rfl (k ls hl)
  case l2i => obtain ⟨rfl, x, r, rfl, rfl⟩ := mm_li_i h; exact lv_l2i hexec hb hd rfl (k ls hl)
  case dup => obtain ⟨rfl, v, r, rfl, hv, rfl⟩ := mm_dup_i h; exact lv_dup hexec hb hd (by rw [mm_cat]; exact hv) (k ls hl)
  case pop => obtain ⟨rfl, v, r, rfl, hv, rfl⟩ := mm_pop_i h; exact lv_pop hexec hb hd (by rw [mm_cat]; exact hv) (k ls hl)
  case dup_x1 => obtain ⟨rfl, v, w, r, rfl, hv, hw, rfl⟩ := mm_dupx1_i h; exact lv_dup_x1 hexec hb hd (by rw [mm_cat]; exact hv) (by rw [mm_cat]; exact hw) (k ls hl)
  case dup2 => obtain ⟨rfl, v, w, r, rfl, hv, hw, rfl⟩ := mm_dup2_i h; exact lv_dup2_11 hexec hb hd (by rw [mm_cat]; exact hv) (by rw [mm_cat]; exact hw) (k ls hl)
  case goto off =>
    obtain ⟨h1, h2⟩ := mm_cond h
    cases mm_beq h1
    obtain ⟨t, ht, rfl⟩ := mm_jump_eq h2
    exact lv_goto hexec hb hd ht (k ls hl)
  case ifCond cd off =>
    obtain ⟨x, r, rfl, h⟩ := mm_if1_i h
    obtain ⟨rfl, t, ht, ⟨hc, rfl⟩ | ⟨hc, rfl⟩⟩ := mm_br_i h
    · cases cd
      · exact lv_if_eq hexec hb hd ht (fun _ => k ls hl) (fun h0 => absurd (by simpa [mm_ifc] using hc) h0)
      · exact lv_if_ne hexec hb hd ht (fun _ => k ls hl) (fun h0 => absurd h0 (by simpa [mm_ifc] using hc))
      · exact lv_if_lt hexec hb hd ht (fun _ => k ls hl) (fun h0 => absurd (by simpa [mm_ifc] using hc) h0)
      · exact lv_if_ge hexec hb hd ht (fun _ => k ls hl) (fun h0 => absurd (by simpa [mm_ifc] using hc) h0)
      · exact lv_if_gt hexec hb hd ht (fun _ => k ls hl) (fun h0 => absurd (by simpa [mm_ifc] using hc) h0)
      · exact lv_if_le hexec hb hd ht (fun _ => k ls hl) (fun h0 => absurd (by simpa [mm_ifc] using hc) h0)
    · cases cd
      · exact lv_if_eq hexec hb hd ht (fun h0 => absurd h0 (by simpa [mm_ifc] using hc)) (fun _ => k ls hl)
      · exact lv_if_ne hexec hb hd ht (fun h0 => absurd (by simpa [mm_ifc] using hc) h0) (fun _ => k ls hl)
      · exact lv_if_lt hexec hb hd ht (fun h0 => absurd h0 (by simpa [mm_ifc] using hc)) (fun _ => k ls hl)
      · exact lv_if_ge hexec hb hd ht (fun h0 => absurd h0 (by simpa [mm_ifc] using hc)) (fun _ => k ls hl)
      · exact lv_if_gt hexec hb hd ht (fun h0 => absurd h0 (by simpa [mm_ifc] using hc)) (fun _ => k ls hl)
      · exact lv_if_le hexec hb hd ht (fun h0 => absurd h0 (by simpa [mm_ifc] using hc)) (fun _ => k ls hl)
  case if_icmp cd off =>
    obtain ⟨x, y, r, rfl, h⟩ := mm_if2_i h
    obtain ⟨rfl, t, ht, ⟨hc, rfl⟩ | ⟨hc, rfl⟩⟩ := mm_br_i h
    · cases cd
      · exact lv_icmp_eq hexec hb hd ht (fun _ => k ls hl) (fun h0 => absurd (by simpa [mm_icc] using hc) h0)
      · exact lv_icmp_ne hexec hb hd ht (fun _ => k ls hl) (fun h0 => absurd h0 (by simpa [mm_icc] using hc))
      · exact lv_icmp_lt hexec hb hd ht (fun _ => k ls hl) (fun h0 => absurd (by simpa [mm_icc] using hc) h0)
      · exact lv_icmp_ge hexec hb hd ht (fun _ => k ls hl) (fun h0 => absurd (by simpa [mm_icc] using hc) h0)
      · exact lv_icmp_gt hexec hb hd ht (fun _ => k ls hl) (fun h0 => absurd (by simpa [mm_icc] using hc) h0)
      · exact lv_icmp_le hexec hb hd ht (fun _ => k ls hl) (fun h0 => absurd (by simpa [mm_icc] using hc) h0)
    · cases cd
      · exact lv_icmp_eq hexec hb hd ht (fun h0 => absurd h0 (by simpa [mm_icc] using hc)) (fun _ => k ls hl)
      · exact lv_icmp_ne hexec hb hd ht (fun h0 => absurd (by simpa [mm_icc] using hc) h0) (fun _ => k ls hl)
      · exact lv_icmp_lt hexec hb hd ht (fun h0 => absurd h0 (by simpa [mm_icc] using hc)) (fun _ => k ls hl)
      · exact lv_icmp_ge hexec hb hd ht (fun h0 => absurd h0 (by simpa [mm_icc] using hc)) (fun _ => k ls hl)
      · exact lv_icmp_gt hexec hb hd ht (fun h0 => absurd h0 (by simpa [mm_icc] using hc)) (fun _ => k ls hl)
      · exact lv_icmp_le hexec hb hd ht (fun h0 => absurd h0 (by simpa [mm_icc] using hc)) (fun _ => k ls hl)
  case ifnull off =>
    obtain ⟨r, rfl, h⟩ | ⟨a, r, rfl, h⟩ := mm_ifn_i h
    · obtain ⟨rfl, t, ht, ⟨hc, rfl⟩ | ⟨hc, rfl⟩⟩ := mm_br_i h
      · exact lv_ifnullN hexec hb hd ht (k ls hl)
      · cases hc
    · obtain ⟨rfl, t, ht, ⟨hc, rfl⟩ | ⟨hc, rfl⟩⟩ := mm_br_i h
      · cases hc
      · exact lv_ifnull hexec hb hd (k ls hl)
  case ifnonnull off =>
    obtain ⟨r, rfl, h⟩ | ⟨a, r, rfl, h⟩ := mm_ifn_i h
    · obtain ⟨rfl, t, ht, ⟨hc, rfl⟩ | ⟨hc, rfl⟩⟩ := mm_br_i h
      · cases hc
      · exact lv_ifnonnullN hexec hb hd (k ls hl)
    · obtain ⟨rfl, t, ht, ⟨hc, rfl⟩ | ⟨hc, rfl⟩⟩ := mm_br_i h
      · exact lv_ifnonnull hexec hb hd ht (k ls hl)
      · cases hc
  case tableswitch d lo hi offs => exact mm_swT hexec hb hd h hl k
  case lookupswitch d ps => exact mm_swL hexec hb hd h hl k
  all_goals (exact absurd h (by simp [mm_pu]))
end MmPure
