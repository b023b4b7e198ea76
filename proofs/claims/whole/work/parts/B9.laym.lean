/-! a part laid, or mended, by the model -/
section LayM
variable {m m1 m2 : jM} {w h k mm X Y by' : Int} {D : Int → Prop} {U : Int → Int}
theorem pl_injf (sw : isSd w) (sh : isSd h) {q q' x x' y y' : Int} (q0 : 0 ≤ q) (q2 : q ≤ 2) (x0 : 0 ≤ x) (x1 : x < pw w q) (y0 : 0 ≤ y) (y1 : y < pw h q) (q0' : 0 ≤ q') (q2' : q' ≤ 2) (x0' : 0 ≤ x') (x1' : x' < pw w q') (y0' : 0 ≤ y') (y1' : y' < pw h q') (e : pf q + (y * pw w q + x) = pf q' + (y' * pw w q' + x')) : q = q' ∧ x = x' ∧ y = y' := by
  have b1 := dm_b (W := pw w q) (H := pw h q) y0 y1 x0 x1
  have b2 := dm_b (W := pw w q') (H := pw h q') y0' y1' x0' x1'
  by_cases cq : q = q'
  · subst cq
    have e' : y * pw w q + x = y' * pw w q + x' := by omega
    have a1 := (dm (W := pw w q) (k := y * pw w q + x) (r := y) (c := x) (by omega) x0 x1).1 rfl
    have a2 := (dm (W := pw w q) (k := y' * pw w q + x') (r := y') (c := x') (by omega) x0' x1').1 rfl
    rw [e'] at a1
    exact ⟨rfl, by omega, by omega⟩
  · exact absurd e (pl_ne sw sh q0 q2 q0' q2' cq b1.1 b1.2 b2.1 b2.2).2
/-- where sample i of a part stands -/
def ixP (w k pl X Y i : Int) : Int := 864 * k + pf pl + (sdOf pl * Y + i / sdOf pl) * pw w pl + (sdOf pl * X + i % sdOf pl)
theorem ixP_r (sw : isSd w) (sh : isSd h) {pl i : Int} (p0 : 0 ≤ pl) (p2 : pl ≤ 2) (X0 : 0 ≤ X) (X1 : X < w / 8) (Y0 : 0 ≤ Y) (Y1 : Y < h / 8) (i0 : 0 ≤ i) (i1 : i < sdOf pl * sdOf pl) : 0 ≤ sdOf pl * X + i % sdOf pl ∧ sdOf pl * X + i % sdOf pl < pw w pl ∧ 0 ≤ sdOf pl * Y + i / sdOf pl ∧ sdOf pl * Y + i / sdOf pl < pw h pl ∧ 864 * k ≤ ixP w k pl X Y i ∧ ixP w k pl X Y i < 864 * k + 864 ∧ 0 ≤ i % sdOf pl ∧ i % sdOf pl < sdOf pl ∧ 0 ≤ i / sdOf pl ∧ i / sdOf pl < sdOf pl := by
  have pp := ppb_b p0 p2
  have rx := pt_r sw p0 p2 X0 X1
  have ry := pt_r sh p0 p2 Y0 Y1
  have ps := pl_sz sw sh p0 p2
  have r := dm_r (W := sdOf pl) (H := sdOf pl) (by omega) i0 i1
  have c1 := Int.mul_comm (sdOf pl) X
  have c2 := Int.mul_comm (sdOf pl) Y
  have db := dm_b (W := pw w pl) (H := pw h pl) (r := sdOf pl * Y + i / sdOf pl) (c := sdOf pl * X + i % sdOf pl) (by omega) (by omega) (by omega) (by omega)
  unfold ixP
  omega
theorem ixP_h (sw : isSd w) (sh : isSd h) {pl i pl' x y : Int} (p0 : 0 ≤ pl) (p2 : pl ≤ 2) (X0 : 0 ≤ X) (X1 : X < w / 8) (Y0 : 0 ≤ Y) (Y1 : Y < h / 8) (i0 : 0 ≤ i) (i1 : i < sdOf pl * sdOf pl) (q0 : 0 ≤ pl') (q2 : pl' ≤ 2) (x0 : 0 ≤ x) (x1 : x < pw w pl') (y0 : 0 ≤ y) (y1 : y < pw h pl') : 864 * k + (pf pl' + (y * pw w pl' + x)) = ixP w k pl X Y i ↔ pl' = pl ∧ inP pl X Y x y ∧ i = (y - Y * sdOf pl) * sdOf pl + (x - X * sdOf pl) := by
  have pp := ppb_b p0 p2
  have r := ixP_r (k := k) sw sh p0 p2 X0 X1 Y0 Y1 i0 i1
  have c1 := Int.mul_comm (sdOf pl) X
  have c2 := Int.mul_comm (sdOf pl) Y
  have de := dm_e (sdOf pl) i
  constructor
  · intro e
    unfold ixP at e
    have := pl_injf sw sh q0 q2 x0 x1 y0 y1 p0 p2 r.1 r.2.1 r.2.2.1 r.2.2.2.1 (by omega)
    obtain ⟨e1, e2, e3⟩ := this
    refine ⟨e1, ⟨by omega, by omega, by omega, by omega⟩, ?_⟩
    rw [show y - Y * sdOf pl = i / sdOf pl by omega, show x - X * sdOf pl = i % sdOf pl by omega]
    exact de
  · intro ⟨e1, ⟨a1, a2, a3, a4⟩, e2⟩
    subst e1
    have d := (dm (W := sdOf pl') (k := i) (r := y - Y * sdOf pl') (c := x - X * sdOf pl') (by omega) (by omega) (by omega)).1 e2
    unfold ixP
    rw [d.1, d.2, show sdOf pl' * Y + (y - Y * sdOf pl') = y by omega]
    omega
theorem k_267 (sw : isSd w) (sh : isSd h) (mw : m 76 33 = w) (k0 : 0 ≤ k) (k1 : k < 12) (m0 : 0 ≤ mm) (m1 : mm < w / 8 * (h / 8)) (hX : mm % (w / 8) = X) (hY : mm / (w / 8) = Y) : ∃ G, jd_267 k mm m = some (ims m 109 G) ∧ (∀ pl x y : Int, 0 ≤ pl → pl ≤ 2 → 0 ≤ x → x < pw w pl → 0 ≤ y → y < pw h pl → (inP pl X Y x y → G (864 * k + (pf pl + (y * pw w pl + x))) = jd_205 (jw (m 114 (ppb pl + ((y - Y * sdOf pl) * sdOf pl + (x - X * sdOf pl))) + m 115 (ppb pl + ((y - Y * sdOf pl) * sdOf pl + (x - X * sdOf pl))))) 0 255) ∧ (¬ inP pl X Y x y → G (864 * k + (pf pl + (y * pw w pl + x))) = m 109 (864 * k + (pf pl + (y * pw w pl + x))))) ∧ ∀ j : Int, j < 864 * k ∨ 864 * k + 864 ≤ j → G j = m 109 j := by
  have mr := mm_r sw sh m0 m1
  rw [hX, hY] at mr
  have o76 : ∀ G, ims m 109 G 76 = m 76 := fun G => ims_o (by decide)
  have k45 : ∀ G, jd_245 mm (ims m 109 G) = some X ∧ jd_246 mm (ims m 109 G) = some Y := fun G => by
    have := k_245 (m := ims m 109 G) (mm := mm) sw (by rw [o76]; exact mw) m0 (by omega)
    rw [hX, hY] at this
    exact this
  have plane : ∀ (pl : Int) (G : Int → Int), 0 ≤ pl → pl ≤ 2 → jd_267_l16 k mm pl (sdOf pl) 0 (ims m 109 G) = some (ims m 109 (wf (ixP w k pl X Y) (fun i _ => jd_205 (jw (m 114 (ppb pl + i) + m 115 (ppb pl + i))) 0 255) G (sdOf pl * sdOf pl).toNat)) := by
    intro pl G p0 p2
    have ok : okI pl := by unfold okI; omega
    have pp := ppb_b p0 p2
    have sds : 0 ≤ sdOf pl * sdOf pl ∧ sdOf pl * sdOf pl ≤ 64 := by rcases pp.2.2 with e | e <;> rw [e] <;> decide
    exact lpM (f := fun u : (Int × jM) => jd_267_s16 k mm pl (sdOf pl) u.1 u.2) (ct := fun n => n) (ix := ixP w k pl X Y) (v := fun i _ => jd_205 (jw (m 114 (ppb pl + i) + m 115 (ppb pl + i))) 0 255) (m := m) (a := 109) (sdOf pl * sdOf pl).toNat (fun n G hn => by
      dsimp only
      unfold jd_267_s16
      have r := ixP_r (k := k) (i := (n : Int)) sw sh p0 p2 mr.1 mr.2.1 mr.2.2.1 mr.2.2.2.1 (by omega) (by omega)
      have o4 : ims m 109 G 114 = m 114 := ims_o (by decide)
      have o5 : ims m 109 G 115 = m 115 := ims_o (by decide)
      rw [n_jw (z := sdOf pl * sdOf pl) (by omega) (by omega), n_jw (z := (n : Int)) (by omega) (by omega), if_neg (by omega), (k45 G).1, Option.bind_some, jnz_1 (by omega) (by omega), Option.bind_some, (k45 G).2, Option.bind_some, Option.bind_some, k_244 p0 p2, y_ma 114 96 rfl rfl (by omega) (by omega), Option.bind_some, y_ma 115 96 rfl rfl (by omega) (by omega), Option.bind_some, o4, o5, k_237 ok sw (by rw [o76]; exact mw), n_rem (by omega) (by omega) (by omega) (by omega), n_div (by omega) (by omega) (by omega) (by omega)]
      rw [show 864 * k + pf pl + (sdOf pl * Y + (n : Int) / sdOf pl) * pw w pl + (sdOf pl * X + (n : Int) % sdOf pl) = ixP w k pl X Y (n : Int) from rfl, y_mw 109 10368 rfl rfl (by omega) (by omega), Option.bind_some, ims_jms]) (fun G => by
      dsimp only
      unfold jd_267_s16
      rw [n_jw (z := sdOf pl * sdOf pl) (by omega) (by omega), n_jw (by omega) (by omega), if_pos (by omega)]) (by omega) G
  have all : wT (jd_267_l2 k mm 0 m) (fun o => ∃ G, o = ims m 109 G ∧ (∀ pl x y : Int, 0 ≤ pl → pl ≤ 2 → 0 ≤ x → x < pw w pl → 0 ≤ y → y < pw h pl → (inP pl X Y x y → G (864 * k + (pf pl + (y * pw w pl + x))) = jd_205 (jw (m 114 (ppb pl + ((y - Y * sdOf pl) * sdOf pl + (x - X * sdOf pl))) + m 115 (ppb pl + ((y - Y * sdOf pl) * sdOf pl + (x - X * sdOf pl))))) 0 255) ∧ (¬ inP pl X Y x y → G (864 * k + (pf pl + (y * pw w pl + x))) = m 109 (864 * k + (pf pl + (y * pw w pl + x))))) ∧ ∀ j : Int, j < 864 * k ∨ 864 * k + 864 ≤ j → G j = m 109 j) := by
    unfold jd_267_l2
    refine w_lp (fun n u => ∃ G, u = ((n : Int), ims m 109 G) ∧ (∀ pl x y : Int, 0 ≤ pl → pl ≤ 2 → 0 ≤ x → x < pw w pl → 0 ≤ y → y < pw h pl → (inP pl X Y x y → pl < (n : Int) → G (864 * k + (pf pl + (y * pw w pl + x))) = jd_205 (jw (m 114 (ppb pl + ((y - Y * sdOf pl) * sdOf pl + (x - X * sdOf pl))) + m 115 (ppb pl + ((y - Y * sdOf pl) * sdOf pl + (x - X * sdOf pl))))) 0 255) ∧ (¬ inP pl X Y x y ∨ (n : Int) ≤ pl → G (864 * k + (pf pl + (y * pw w pl + x))) = m 109 (864 * k + (pf pl + (y * pw w pl + x))))) ∧ ∀ j : Int, j < 864 * k ∨ 864 * k + 864 ≤ j → G j = m 109 j) 3 (fun n u hn hu => ?_) (n_fu (by omega)) ⟨m 109, by rw [ims_self]; rfl, fun pl x y h0 h1 h2 h3 h4 h5 => ⟨fun _ e => absurd e (by omega), fun _ => rfl⟩, fun _ _ => rfl⟩
    obtain ⟨G, rfl, hG, hO⟩ := hu
    unfold jd_267_s2
    dsimp only
    rw [n_jw (z := (n : Int)) (by omega) (by omega)]
    by_cases cn : (3 : Int) ≤ (n : Int)
    · rw [if_pos cn]
      exact wT_ret ⟨G, rfl, fun pl x y h0 h1 h2 h3 h4 h5 => ⟨fun a => (hG pl x y h0 h1 h2 h3 h4 h5).1 a (by omega), fun a => (hG pl x y h0 h1 h2 h3 h4 h5).2 (Or.inl a)⟩, hO⟩
    · have n0 : (0 : Int) ≤ (n : Int) := by omega
      have n2 : (n : Int) ≤ 2 := by omega
      have pp := ppb_b n0 n2
      have sds : 0 ≤ sdOf (n : Int) * sdOf (n : Int) ∧ sdOf (n : Int) * sdOf (n : Int) ≤ 64 := by rcases pp.2.2 with e | e <;> rw [e] <;> decide
      have hh' := fun (i : Int) (i0 : 0 ≤ i) (i1 : i < sdOf (n : Int) * sdOf (n : Int)) (pl x y : Int) h0 h1 h2 h3 h4 h5 => ixP_h (k := k) (pl := (n : Int)) (i := i) (pl' := pl) (x := x) (y := y) sw sh n0 n2 mr.1 mr.2.1 mr.2.2.1 mr.2.2.2.1 i0 i1 h0 h1 h2 h3 h4 h5
      rw [if_neg cn, k_243 (by unfold okI; omega), plane n G n0 n2, Option.bind_some]
      refine wT_ret ⟨by omega, _, by rw [show ((n + 1 : Nat) : Int) = (n : Int) + 1 by omega], fun pl x y h0 h1 h2 h3 h4 h5 => ⟨fun hin hl => ?_, fun ho => ?_⟩, fun j hj => ?_⟩
      · by_cases cp : pl = (n : Int)
        · subst cp
          obtain ⟨i1, i2, i3, i4⟩ := id hin
          have rc := sd_rc (sd := sdOf (n : Int)) (r := y - Y * sdOf (n : Int)) (c := x - X * sdOf (n : Int)) (by omega) (by omega) (by omega) (by omega)
          obtain ⟨z, hz⟩ : ∃ z : Nat, (z : Int) = (y - Y * sdOf (n : Int)) * sdOf (n : Int) + (x - X * sdOf (n : Int)) := ⟨((y - Y * sdOf (n : Int)) * sdOf (n : Int) + (x - X * sdOf (n : Int))).toNat, by omega⟩
          rw [← hz]
          have e := (hh' z (by omega) (by omega) n x y h0 h1 h2 h3 h4 h5).2 ⟨rfl, hin, hz⟩
          rw [e]
          exact wf_k (ix := ixP w k (n : Int) X Y) (v := fun i _ => jd_205 (jw (m 114 (ppb (n : Int) + i) + m 115 (ppb (n : Int) + i))) 0 255) (g := G) (n := (sdOf (n : Int) * sdOf (n : Int)).toNat) (k := z) (by omega) (fun l h1' h2' e' => by
            rw [← e] at e'
            have := ((hh' l (by omega) (by omega) n x y h0 h1 h2 h3 h4 h5).1 e').2.2
            omega)
        · rw [wf_o (fun l hl e => cp ((hh' l (by omega) (by omega) pl x y h0 h1 h2 h3 h4 h5).1 e).1)]
          exact (hG pl x y h0 h1 h2 h3 h4 h5).1 hin (by omega)
      · rw [wf_o (fun l hl e => by
          obtain ⟨k1', k2, k3⟩ := (hh' l (by omega) (by omega) pl x y h0 h1 h2 h3 h4 h5).1 e
          subst k1'
          rcases ho with ho | ho
          · exact ho k2
          · omega)]
        exact (hG pl x y h0 h1 h2 h3 h4 h5).2 (ho.imp id (fun e => by omega))
      · rw [wf_o (fun l hl e => by
          have r := ixP_r (k := k) (i := (l : Int)) sw sh n0 n2 mr.1 mr.2.1 mr.2.2.1 mr.2.2.2.1 (by omega) (by omega)
          omega)]
        exact hO j hj
  obtain ⟨o, eo, G, rfl, hG, hO⟩ := all
  refine ⟨G, ?_, hG, hO⟩
  unfold jd_267
  rw [eo, Option.bind_some]
end LayM
