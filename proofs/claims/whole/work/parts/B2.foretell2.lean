/-! foretold: the class; the model -/
def fbF (md : Int) : Int := if md = 1 then 1 else if md = 3 then 1 else if md = 0 then 1 else 0
def faF (md kd : Int) : Int := if md = 2 then 1 else if md = 3 then 1 else if md = 0 then (if kd = 2 then 1 else 0) else 0
theorem hw_t {md kd : Int} (m0 : 0 ≤ md) (m6 : md ≤ 6) (k0 : 0 ≤ kd) (k2 : kd ≤ 2) : (fbF md = 0 ∨ fbF md = 1) ∧ (faF md kd = 0 ∨ faF md kd = 1) ∧ (4 ≤ md → hwm md kd = md - 4 ∧ fbF md = 0 ∧ faF md kd = 0) ∧ (md < 4 → (fbF md = 1 ↔ hwm md kd = 3 ∨ hwm md kd = 5) ∧ (faF md kd = 1 ↔ hwm md kd = 4 ∨ hwm md kd = 5) ∧ (hwm md kd = 3 ∨ hwm md kd = 4 ∨ hwm md kd = 5)) := by
  have : ∀ (a : Fin 7) (b : Fin 3), (fbF (a.val : Int) = 0 ∨ fbF (a.val : Int) = 1) ∧ (faF (a.val : Int) (b.val : Int) = 0 ∨ faF (a.val : Int) (b.val : Int) = 1) ∧ (4 ≤ (a.val : Int) → hwm (a.val : Int) (b.val : Int) = (a.val : Int) - 4 ∧ fbF (a.val : Int) = 0 ∧ faF (a.val : Int) (b.val : Int) = 0) ∧ ((a.val : Int) < 4 → (fbF (a.val : Int) = 1 ↔ hwm (a.val : Int) (b.val : Int) = 3 ∨ hwm (a.val : Int) (b.val : Int) = 5) ∧ (faF (a.val : Int) (b.val : Int) = 1 ↔ hwm (a.val : Int) (b.val : Int) = 4 ∨ hwm (a.val : Int) (b.val : Int) = 5) ∧ (hwm (a.val : Int) (b.val : Int) = 3 ∨ hwm (a.val : Int) (b.val : Int) = 4 ∨ hwm (a.val : Int) (b.val : Int) = 5)) := by decide
  have := this ⟨md.toNat, by omega⟩ ⟨kd.toNat, by omega⟩
  dsimp only at this
  rw [show ((md.toNat : Nat) : Int) = md by omega, show ((kd.toNat : Nat) : Int) = kd by omega] at this
  exact this
section Foretell2
variable {s : hS} {Q : hQ} {hm : hO} {I m : jM} {T p b1 b2 : Nat} {w h k X Y md kd v0 v1 v2 v3 : Int}
theorem c_79 (F : PtC s Q T) (h6 : s.1 ≤ 1000000) (P : PcC s Q p) (q2T : Q T 2 = some p) (hw : I p 0 = w) (hv : I p 1 = h) (sw : isSd w) (sh : isSd h) (eK : I T 0 = kd) (k0 : 0 ≤ kd) (k2 : kd ≤ 2) (eX : I T 5 = X) (eY : I T 6 = Y) (X0 : 0 ≤ X) (X1 : X < w / 8) (Y0 : 0 ≤ Y) (Y1 : Y < h / 8) (m0 : 0 ≤ md) (m6 : md ≤ 6) (nb : 4 ≤ md → ∀ pl : Int, 0 ≤ pl → pl ≤ 2 → nbB (fun j => I (p + 1) (pb w h pl + j)) (pw w pl) (X * sdOf pl) (Y * sdOf pl) (sdOf pl)) (ev0 : I (T + 5) 0 = v0) (ev1 : I (T + 5) 1 = v1) (ev2 : I (T + 5) 2 = v2) (ev3 : I (T + 5) 3 = v3) (r0 : -16 ≤ v0 ∧ v0 ≤ 16) (r1 : -16 ≤ v1 ∧ v1 ≤ 16) (r2 : -16 ≤ v2 ∧ v2 ≤ 16) (r3 : -16 ≤ v3 ∧ v3 ≤ 16) (h1 : hwm md kd = 3 ∨ hwm md kd = 5 → Q T 3 = some b1 ∧ PcS s Q I b1 w h) (h2 : hwm md kd = 4 ∨ hwm md kd = 5 → Q T 4 = some b2 ∧ PcS s Q I b2 w h) : ∃ J, jd_79 T md (hh s Q I) = some (hh s Q J) ∧ FoT T I J ∧ ∀ pl r i : Int, 0 ≤ pl → pl ≤ 2 → 0 ≤ r → r < sdOf pl → 0 ≤ i → i < sdOf pl → J (T + 1) (ppb pl + (r * sdOf pl + i)) = pvV (hwm md kd) (fun j => I (p + 1) (pb w h pl + j)) (fun j => I (b1 + 1) (pb w h pl + j)) (fun j => I (b2 + 1) (pb w h pl + j)) (pw w pl) (pw h pl) (X * sdOf pl) (Y * sdOf pl) (sdOf pl) (hvf pl v0) (hvf pl v1) (hvf pl v2) (hvf pl v3) r i := by
  have q7 := T_q F 1 7 rfl rfl rfl
  have q8 := T_q F 2 8 rfl rfl rfl
  have eK' : I T ((0 : Nat) : Int) = kd := eK
  obtain ⟨tb, ta, tw⟩ := hw_t m0 m6 k0 k2
  obtain ⟨how, hhow⟩ : ∃ z, hwm md kd = z := ⟨_, rfl⟩
  obtain ⟨fb, hfb⟩ : ∃ z : Int, z = fbF md := ⟨_, rfl⟩
  obtain ⟨fa, hfa⟩ : ∃ z : Int, z = faF md kd := ⟨_, rfl⟩
  rw [← hfb] at tb tw
  rw [← hfa] at ta tw
  rw [hhow] at tw h1 h2 ⊢
  have b01 := tb
  have a01 := ta
  have hwv := tw
  have C0 : jd_79 T md (hh s Q I) = jd_79_b47 T md fb fa (hh s Q I) := by
    unfold jd_79 jd_79_b19 jd_79_b42
    unfold fbF at hfb
    unfold faF at hfa
    rw [n_jw (z := md) (by omega) (by omega), ← hfb]
    by_cases c2 : md = 2
    · rw [if_pos c2, hfa, if_pos c2]
    · rw [if_neg c2]
      by_cases c3 : md = 3
      · rw [if_pos c3, hfa, if_neg c2, if_pos c3]
      · rw [if_neg c3]
        by_cases c0 : md = 0
        · rw [if_pos c0, T_gi F, Option.bind_some, eK', n_jw (z := kd) (by omega) (by omega), hfa, if_neg c2, if_neg c3, if_pos c0]
        · rw [if_neg c0, hfa, if_neg c2, if_neg c3, if_neg c0]
  obtain ⟨J, e1, O, hJ⟩ := c_79l (b1 := b1) (b2 := b2) F h6 P q2T hw hv sw sh eX eY X0 X1 Y0 Y1 m0 m6 nb ev0 ev1 ev2 ev3 r0 r1 r2 r3 b01 a01 (fun e => h1 (by
    by_cases c : 4 ≤ md
    · have := (hwv.1 c).2.1; omega
    · exact (hwv.2 (by omega)).1.1 e)) (fun e => h2 (by
    by_cases c : 4 ≤ md
    · have := (hwv.1 c).2.2; omega
    · exact (hwv.2 (by omega)).2.1.1 e)) (fun c => (hwv.1 c).2) (fun c => by
    have := hwv.2 c
    rcases this.2.2 with e | e | e
    · exact Or.inl (this.1.2 (Or.inl e))
    · exact Or.inr (this.2.1.2 (Or.inl e))
    · exact Or.inl (this.1.2 (Or.inr e)))
  rw [C0]
  unfold jd_79_b47 jd_79_b174
  rw [e1, Option.bind_some]
  by_cases cb : fb = 1 ∧ fa = 1
  · have c4 : ¬ 4 ≤ md := fun c => by have := (hwv.1 c).2.1; omega
    have hv2 := hwv.2 (by omega)
    have h5 : how = 5 := by
      have a1 := hv2.1.1 cb.1
      have a2 := hv2.2.1.1 cb.2
      omega
    have l : jd_79_l135 T 0 (hh s Q J) = some (hh s Q (ims J (T + 1) (wf (fun j => j) (fun j G => jdiv (G j + J (T + 2) j + 1) 2) (J (T + 1)) 96))) := by
      have := lpC (f := fun u : (Int × jH) => jd_79_s135 T u.1 u.2) (ct := fun k => k) (ix := fun j => j) (v := fun j G => jdiv (G j + J (T + 2) j + 1) 2) (J := J) (a := T + 1) (s := s) (Q := Q) 96 (fun k G hk => by
        dsimp only
        unfold jd_79_s135
        have ee1 : ims J (T + 1) G (T + 2) = J (T + 2) := ims_o (by omega)
        rw [n_jw (by omega) (by omega), if_neg (by omega)]
        simp only [T_gr F, q7, q8, Option.bind_some]
        rw [T_ai F h6 1 96 rfl rfl rfl rfl (by omega) (by omega)]
        simp only [Option.bind_some]
        rw [T_ai F h6 2 96 rfl rfl rfl rfl (by omega) (by omega)]
        simp only [Option.bind_some]
        rw [T_ta F 1 96 rfl rfl rfl rfl (by omega) (by omega), Option.bind_some, ims_jms, ims_e, ee1]) (fun G => by
        dsimp only
        unfold jd_79_s135
        exact if_pos (by show (96 : Int) ≤ jw ((96 : Nat) : Int); decide)) (by decide) (J (T + 1))
      rw [ims_self] at this
      exact this
    rw [if_neg (show ¬ jw fb = 0 by rw [cb.1]; decide), if_neg (show ¬ jw fa = 0 by rw [cb.2]; decide), l, Option.bind_some]
    refine ⟨_, rfl, fun x a1 a2 a3 a4 => (ims_o a1).trans (O x a1 a2 a3 a4), fun pl r i p0 p2 rr0 rr1 i0 i1 => ?_⟩
    have rc := sd_rc rr0 rr1 i0 i1
    have pp := ppb_b p0 p2
    have V := hJ pl r i p0 p2 rr0 rr1 i0 i1
    obtain ⟨V1, V2⟩ := V
    rw [if_neg c4, if_pos cb.1] at V1
    have V2 := V2 cb.1 cb.2
    obtain ⟨z, hz⟩ : ∃ n : Nat, (n : Int) = ppb pl + (r * sdOf pl + i) := ⟨(ppb pl + (r * sdOf pl + i)).toNat, by omega⟩
    rw [← hz] at V1 V2 ⊢
    have k1 := wf_k (ix := fun j => j) (v := fun j G => jdiv (G j + J (T + 2) j + 1) 2) (g := J (T + 1)) (n := 96) (k := z) (by omega) (fun l _ _ => by omega)
    have o1 := wf_o (ix := fun j => j) (v := fun j G => jdiv (G j + J (T + 2) j + 1) 2) (g := J (T + 1)) (n := z) (j := (z : Int)) (fun l hl => by omega)
    rw [ims_e]
    refine k1.trans ?_
    rw [o1, V1, V2]
    unfold pvV
    rw [if_neg (by omega), if_neg (by omega), if_neg (by omega)]
    have bw := pw_sd sw pl
    have bh := pw_sd sh pl
    have B1 := (h1 (Or.inr h5)).2
    have B2 := (h2 (Or.inr h5)).2
    have f1 := ft_b (S := fun j => I (b1 + 1) (pb w h pl + j)) (W := pw w pl) (H := pw h pl) (x := X * sdOf pl + i) (y := Y * sdOf pl + r) (hx := hvf pl v0) (hy := hvf pl v1) (by omega) (by omega) (fun j j0 j1 => B1.2.2.2 pl j p0 p2 j0 j1)
    have f2 := ft_b (S := fun j => I (b2 + 1) (pb w h pl + j)) (W := pw w pl) (H := pw h pl) (x := X * sdOf pl + i) (y := Y * sdOf pl + r) (hx := hvf pl v2) (hy := hvf pl v3) (by omega) (by omega) (fun j j0 j1 => B2.2.2.2 pl j p0 p2 j0 j1)
    rw [n_div (by omega) (by omega) (by decide) (by decide)]
  · refine ⟨J, ?_, O, fun pl r i p0 p2 rr0 rr1 i0 i1 => ?_⟩
    · rcases b01 with e | e
      · rw [if_pos (show jw fb = 0 by rw [e]; rfl)]
      · rcases a01 with e' | e'
        · rw [if_neg (show ¬ jw fb = 0 by rw [e]; decide), if_pos (show jw fa = 0 by rw [e']; rfl)]
        · exact absurd ⟨e, e'⟩ cb
    · rw [(hJ pl r i p0 p2 rr0 rr1 i0 i1).1]
      unfold pvV
      by_cases c4 : 4 ≤ md
      · have := (hwv.1 c4).1
        rw [if_pos c4, if_pos (by omega), this]
      · have hv2 := hwv.2 (by omega)
        rw [if_neg c4, if_neg (show ¬ how < 3 by omega)]
        by_cases e : fb = 1
        · have h3 : how = 3 := by
            rcases hv2.1.1 e with e3 | e5
            · exact e3
            · exact absurd ⟨e, hv2.2.1.2 (Or.inr e5)⟩ cb
          rw [if_pos e, if_pos h3]
        · have h4 : how = 4 := by
            rcases hv2.2.2 with a | a | a
            · exact absurd (hv2.1.2 (Or.inl a)) e
            · exact a
            · exact absurd (hv2.1.2 (Or.inr a)) e
          rw [if_neg e, if_neg (by omega), if_pos h4]
end Foretell2
