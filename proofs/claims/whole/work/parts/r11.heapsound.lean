section MmHs
variable {p : Program} {l : Launch} {e : Env} {R : Room} {s : State} {m : MethodId} {args : Array Value} {below : List Frame} {meth : Method} {c : Code} {H : Heap} {locs : List Loc} {Q : State → Prop}
variable {cc : ByteArray} {pc len own c0 s0 : Nat} {ls : Array Slot} {st : List Value} {q : mm_Q} {D : va_G} {cy : Nat → ClassId} {X : Nat → Nat} {B : Nat} {xt : Nat → Nat × (Nat → Int32)} {h : mm_H}
/-- the goal behind a heap step -/
abbrev mm_Go (p : Program) (l : Launch) (e : Env) (R : Room) (s : State) (m : MethodId) (args : Array Value) (below : List Frame) (meth : Method) (c : Code) (Q : State → Prop) (D : va_G) (cy : Nat → ClassId) (X : Nat → Nat) (B c0 s0 : Nat) (ls : Array Slot) (q : mm_Q) : Prop :=
  ∀ (H' : Heap) (locs' : List Loc), mm_HP D B X cy q.2.2 H' → va_S (mm_A B) s.heap H' locs' → W p l e R s m args below meth c H' locs' (q.2.2.1 - c0) (q.2.2.2.1 - s0) Q (F0 m q.1 ls (mm_cS (mm_ad B X) q.2.1))
theorem mm_in6 (hHP : mm_HP D B X cy h H) {a : Nat} (ha : Nat.blt a h.1 = true) : a < h.1 ∧ mm_ad B X a = B + a := ⟨mm_blt ha, mm_ad_in (Nat.lt_of_lt_of_le (mm_blt ha) hHP.2.2)⟩
theorem mm_getf_s (hexec : p.tables.exec = Jvm.exec) (hb : c.code = cc) (hts : ∀ w ∈ mm_TW, w.before args s = true) (hown : s.vm.findClass (mm_ow own) = some m.cls) (hK : mm_K D cy X B xt s) (hHP : mm_HP D B X cy h H) (hS : va_S (mm_A B) s.heap H locs) {idx : Nat}
    (hd : decode cc pc = .ok (.getfield idx, len)) (hh : mm_getf own len pc st h idx = some q) (k : mm_Go p l e R s m args below meth c Q D cy X B c0 s0 ls q) : W p l e R s m args below meth c H locs (h.1 - c0) (h.2.1 - s0) Q (F0 m pc ls (mm_cS (mm_ad B X) st)) := by
  unfold mm_getf at hh
  split at hh
  · next a r =>
    split at hh
    · next f hf =>
      split at hh
      · next o ho =>
        replace hh := mm_cond hh
        obtain ⟨h1, hh⟩ := hh
        obtain ⟨h1, h2⟩ := mm_and h1
        obtain ⟨h2, h3⟩ := mm_and h2
        cases mm_beq h1
        obtain ⟨ha, ea⟩ := mm_in6 hHP h2
        split at hh
        · next v hv =>
          cases hh
          obtain ⟨rr, hr, hk, hw⟩ := mm_flF hf
          have hc13 : f.1 = o.1 := (mm_beq h3).symm
          have he := mm_ws_get (B := B) (X := X) (cy := cy) ha
          rw [ho] at he
          show W p l e R s m args below meth c H locs (h.1 - c0) (h.2.1 - s0) Q (F0 m pc ls (.ref (mm_ad B X a) :: mm_cS (mm_ad B X) r))
          rw [ea]
          by_cases hc : f.1 < 13
          · obtain ⟨g1, g2, g3, g4, g5, g6⟩ := mm_clsF hc rr hr
            exact va_get (D := D) (cl := mm_cls) (ci := o.1) (fs := o.2.map (mm_cV (mm_ad B X))) (C := rr.1) (T := rr.2.1) (N := rr.2.2) hexec hb hts g4 hown hK.1 hHP.1 a he (by rw [← hc13]; exact hr) f.2.1 hk (hts _ hw) (fun _ h9 => h9) (by rw [List.getElem?_map, hv]; rfl) hd (k H locs hHP hS)
          · exfalso
            have h9 : rr.2.2 = 0 := by
              have h10 : f.1 < mm_cls.length := (List.getElem?_eq_some_iff.mp hr).1
              have h11 : mm_cls.length = 16 := rfl
              rw [h11] at h10
              have h12 : f.1 = 13 ∨ f.1 = 14 ∨ f.1 = 15 := by omega
              rcases h12 with h12 | h12 | h12 <;> (rw [h12] at hr; cases hr; rfl)
            omega
        · cases hh
      · cases hh
    · cases hh
  · cases hh
/-- the machine's own count bounds the heap -/
theorem mm_up {n slots : Nat} {g : JFrame} (hsz : s.heap.size = B + c0) (hc : c0 ≤ n) (k : H.size ≤ B + n → W p l e R s m args below meth c H locs (n - c0) slots Q g) : W p l e R s m args below meth c H locs (n - c0) slots Q g := fun T hT X => k (by
  have h1 := X.heapSize
  rw [hT, hsz] at h1
  omega) T hT X
theorem mm_hp_of (hP : va_P D mm_cls (mm_ws B X cy h) H) (h0 : 0 < h.1) (hle : H.size ≤ B + h.1) (h6 : h.1 ≤ 1000000) : mm_HP D B X cy h H := by
  refine ⟨hP, ?_, h6⟩
  have h1 := (hP (h.1 - 1) _ (mm_ws_get (B := B) (X := X) (cy := cy) (h := h) (i := h.1 - 1) (by omega))).lt
  have h2 : B + (h.1 - 1) < H.size := h1
  omega
/-- a cell that came: it lies just behind the others -/
theorem mm_new_at {a : Nat} {e0 : va_E} (hP : va_P D mm_cls (mm_ws B X cy h ++ [(a, e0)]) H) (hD : va_D (mm_A B) (mm_ws B X cy h ++ [(a, e0)])) (hle : H.size ≤ B + (h.1 + 1)) : a = B + h.1 := by
  have hl : (mm_ws B X cy h ++ [(a, e0)])[h.1]? = some (a, e0) := by
    rw [List.getElem?_append_right (by rw [mm_ws_len]; exact Nat.le_refl _), mm_ws_len]
    simp
  have h1 : a < H.size := (hP h.1 _ hl).lt
  have h2 : B ≤ a := hD.2 h.1 _ hl
  apply Classical.byContradiction
  intro hne
  have hi : a - B < h.1 := by omega
  have h3 : (mm_ws B X cy h ++ [(a, e0)])[a - B]? = some (B + (a - B), mm_cE (mm_ad B X) cy (h.2.2 (a - B))) := by
    rw [List.getElem?_append_left (by rw [mm_ws_len]; exact hi)]
    exact mm_ws_get hi
  have h4 := hD.1 (a - B) h.1 _ _ h3 hl (by show B + (a - B) = a; omega)
  omega
theorem mm_hp_new {a s2 : Nat} {e0 : va_E} (hP : va_P D mm_cls (mm_ws B X cy h ++ [(a, mm_cE (mm_ad B X) cy e0)]) H) (hD : va_D (mm_A B) (mm_ws B X cy h ++ [(a, mm_cE (mm_ad B X) cy e0)])) (hle : H.size ≤ B + (h.1 + 1)) (h6 : h.1 < 1000000) : a = B + h.1 ∧ mm_HP D B X cy (h.1 + 1, s2, va_up h.2.2 h.1 e0) H := by
  have ha := mm_new_at hP hD hle
  refine ⟨ha, mm_hp_of ?_ (Nat.succ_pos _) hle (by show h.1 + 1 ≤ 1000000; omega)⟩
  rw [← mm_ws_push, ← ha]
  exact hP
theorem mm_putf_s (hexec : p.tables.exec = Jvm.exec) (hb : c.code = cc) (hts : ∀ w ∈ mm_TW, w.before args s = true) (hown : s.vm.findClass (mm_ow own) = some m.cls) (hK : mm_K D cy X B xt s) (hHP : mm_HP D B X cy h H) (hS : va_S (mm_A B) s.heap H locs) (hsz : s.heap.size = B + c0) (hc0 : c0 ≤ h.1) {ini : Bool} (hini : ini = true → meth.name = "<init>") {idx : Nat}
    (hd : decode cc pc = .ok (.putfield idx, len)) (hh : mm_putf own len pc ini st h idx = some q) (k : mm_Go p l e R s m args below meth c Q D cy X B c0 s0 ls q) : W p l e R s m args below meth c H locs (h.1 - c0) (h.2.1 - s0) Q (F0 m pc ls (mm_cS (mm_ad B X) st)) := by
  unfold mm_putf at hh
  split at hh
  · next v a r =>
    split at hh
    · next f hf =>
      split at hh
      · next o ho =>
        replace hh := mm_cond hh
        obtain ⟨h1, hh⟩ := hh
        obtain ⟨h1, h4⟩ := mm_and h1
        obtain ⟨h1, h2⟩ := mm_and h1
        obtain ⟨h2, h3⟩ := mm_and h2
        obtain ⟨h4, h5⟩ := mm_and h4
        obtain ⟨h5, h6⟩ := mm_and h5
        obtain ⟨h6, h7⟩ := mm_and h6
        cases mm_beq h1
        cases hh
        obtain ⟨ha, ea⟩ := mm_in6 hHP h2
        obtain ⟨rr, hr, hk, hw⟩ := mm_flF hf
        have hc13 : f.1 = o.1 := (mm_beq h3).symm
        have he := mm_ws_get (B := B) (X := X) (cy := cy) ha
        rw [ho] at he
        obtain ⟨g1, g2, g3, g4, g5, g6⟩ := mm_clsF (mm_blt h6) rr hr
        obtain ⟨n1, n2⟩ := mm_fit_s (ad := mm_ad B X) h4
        have hlen : f.2.1 < (o.2.map (mm_cV (mm_ad B X))).length := by rw [List.length_map]; exact mm_blt h5
        show W p l e R s m args below meth c H locs (h.1 - c0) (h.2.1 - s0) Q (F0 m pc ls (mm_cV (mm_ad B X) v :: .ref (mm_ad B X a) :: mm_cS (mm_ad B X) r))
        rw [ea]
        have fin : ∀ (H1 : Heap) (locs1 : List Loc), va_P D mm_cls ((mm_ws B X cy h).set a (B + a, .inr (o.1, (o.2.map (mm_cV (mm_ad B X))).set f.2.1 (mm_cV (mm_ad B X) v)))) H1 → va_D (mm_A B) ((mm_ws B X cy h).set a (B + a, .inr (o.1, (o.2.map (mm_cV (mm_ad B X))).set f.2.1 (mm_cV (mm_ad B X) v)))) → va_S (mm_A B) s.heap H1 locs1 →
            W p l e R s m args below meth c H1 locs1 (h.1 - c0) (h.2.1 - s0) Q (F0 m (pc + 3) ls (mm_cS (mm_ad B X) r)) := by
          intro H1 locs1 hP1 _ hS1
          refine mm_up hsz hc0 (fun hle => k H1 locs1 (mm_hp_of ?_ (Nat.lt_of_le_of_lt (Nat.zero_le _) ha) hle hHP.2.2) hS1)
          rw [← mm_ws_set ha (.inr (o.1, o.2.set f.2.1 v)) h.2.1]
          show va_P D mm_cls ((mm_ws B X cy h).set a (B + a, .inr (o.1, (o.2.set f.2.1 v).map (mm_cV (mm_ad B X))))) H1
          rw [List.map_set]
          exact hP1
        have hfin : mm_fin f.1 f.2.1 = (rr.2.1 f.2.1).2.2.2 := by unfold mm_fin; rw [hr]
        cases hff : (rr.2.1 f.2.1).2.2.2 with
        | false =>
          exact va_put (D := D) (cl := mm_cls) (ci := o.1) (fs := o.2.map (mm_cV (mm_ad B X))) (C := rr.1) (T := rr.2.1) (N := rr.2.2) (ty := mm_ty f.1 f.2.1) hexec hb hts g4 (mm_ty f.1) g2 g3 hown hK.1 hHP.1 mm_ws_D hS a he (by rw [← hc13]; exact hr) f.2.1 hk (hts _ hw) (fun _ h9 => h9) hff (g2 _ hk) n1 n2 hlen hd fin
        | true =>
          rw [hfin, hff] at h7
          obtain ⟨h8, h9⟩ := mm_and (show (ini && Nat.beq f.1 own) = true from h7)
          have hdecl : (rr.2.1 f.2.1).1 = mm_ow own := by
            rw [← mm_beq h9]
            exact mm_declF (mm_blt h6) hr hk
          exact va_putF (D := D) (cl := mm_cls) (ci := o.1) (fs := o.2.map (mm_cV (mm_ad B X))) (C := rr.1) (T := rr.2.1) (N := rr.2.2) (ty := mm_ty f.1 f.2.1) hexec hb hts g4 (mm_ty f.1) g2 g3 hown hK.1 hHP.1 mm_ws_D hS a he (by rw [← hc13]; exact hr) f.2.1 hk (hts _ hw) (fun _ h9 => h9) hff (hini h8) hdecl (g2 _ hk) n1 n2 hlen hd fin
      · cases hh
    · cases hh
  · cases hh
end MmHs
