/-! the law's body out of one run of the mini machine -/
def mm_hst : mm_H := jaH jb0
section MmLaw
theorem mm_law_s {p : Program} {e : Env} {s : State} {m : MethodId} {below : List Frame} {meth : Method} {c : Code} (l : Launch) (hlt : l.stackTraces = false) (hMF : ∀ mi, mi < 403 → mm_MFP mi) {b L : Nat} {xs : Nat → Int32} (C0 : lw_At p s m meth c b L xs) (hex : c.exceptionTable.toList = [])
    (hdec : ∀ (pc : Nat) (x : Instr × Nat), mm_cd 403 pc = some x → decode (mm_b 403) pc = .ok x) {n d : Nat} (hd : d ≤ 1000) {h' : mm_H} (hrun : mm_ex (mm_xt L xs) (mm_run (mm_xt L xs) n d) 403 n 0 [(0, .ref 1000000)] [] mm_hst = some (.inl (some (.int 1), h'))) (hc : h'.1 ≤ 600128) (hs : h'.2.1 ≤ 7301097) :
    W p l e room_1 s m #[Value.ref b] below meth c s.heap [] 0 0 (lw_Z below #[Value.ref b] s) (entryFrame m ([Value.ref b] : List Value).toArray 7) := by
  obtain ⟨hx, hb, hr, hml, hown, hts, hX, hbl, hlocks, hgv⟩ := C0
  obtain ⟨D, cy, X, hX0, hK⟩ := mm_K2_start hts hgv hX hbl
  have htw : ∀ w ∈ mm_TW, w.before #[Value.ref b] s = true := fun w hw => hts w (List.mem_filter.mp hw).1
  have hHP : mm_HP D s.heap.size X cy mm_hst s.heap := ⟨(fun k q hq => nomatch hq), rfl, Nat.zero_le _⟩
  have hl := lv_entry ([Value.ref b]) (n := 7) (Nat.le_of_ble_eq_true rfl)
  have ead : mm_ad s.heap.size X 1000000 = b := (mm_ad_ext s.heap.size X 0).trans hX0
  have hl2 : lv_has ((lg_sl [Value.ref b] ++ List.replicate (7 - (lg_sl [Value.ref b]).length) Slot.unset).toArray) 7 (mm_cL (mm_ad s.heap.size X) [(0, .ref 1000000)]) := by
    show lv_has _ 7 [(0, Value.ref (mm_ad s.heap.size X 1000000))]
    rw [ead]
    exact hl
  rw [lg_entry_eq]
  have key := mm_ex_s (mi := 403) (d := d) (r := .inl (some (.int 1), h')) (Q := lw_Z below #[Value.ref b] s) (p := p) (l := l) (e := e) (R := room_1) (below := below) (meth := meth) (c0 := 0) (s0 := 0) (cl := mm_run (mm_xt L xs) n d) hx hb hml htw hown hK rfl (fun hk => absurd hk (by decide +kernel)) hdec (by rw [hex]; rfl) hMF (mm_sound hlt hMF d) (mm_run_E d) (mm_run_m d) (show d + 11 ≤ 2048 by omega) (show 60 * d + 360 ≤ 84000 by omega) (show h'.1 - 0 ≤ 600128 by omega) (show h'.2.1 - 0 ≤ 7301097 by omega)
    (fun pc ls st h1 H locs v i hdg hv e1 hHP' hS' => by
      cases e1
      obtain ⟨ins, len⟩ := i
      have hret : (mm_MT 403).2.2.1 = some .boolean := rfl
      rw [hret] at hv
      refine va_forget (fun q hq => hS'.2.2 q hq) ?_
      refine W.widen (k := 600128) (n := 7301097) (by omega) (by omega) ?_
      cases ins
      case ireturn =>
        simp only [mm_en] at hv
        split at hv
        · next hq => cases hq
        · next x hq =>
          replace hv := mm_cond hv
          obtain ⟨b1, b2⟩ := hv
          cases b2
          obtain ⟨b1, -⟩ := mm_and b1
          have hdg' : decode code pc = .ok (.ireturn, 1) := by rw [← mm_beq b1]; exact hdg
          exact lw_ret hx hb hr hlocks hdg'
        · cases hv
      all_goals (exact absurd hv (by simp [mm_en])))
    (fun E h1 e1 => by cases e1)
    (fun pc f ls st h1 H locs hf h6 hst e1 => by cases e1)
    n 0 [(0, .ref 1000000)] [] mm_hst s.heap [] _ hrun hl2 hHP va_S.rf (Nat.le_refl _) (Nat.le_refl _)
  exact key
end MmLaw
