/-! making: a part laid, model -/
section TailM
variable {m m4 : jM} {w h X Y k q n C st : Int} {V Md : Int → Int} {l : List Int}
theorem k_138 {m3 : jM} (sw : isSd w) (sh : isSd h) (mw : m4 76 33 = w) (kk0 : 0 ≤ k) (kk1 : k < 12) (q0 : 0 ≤ q) (q1 : q < w / 8 * (h / 8)) (hX : q % (w / 8) = X) (hY : q / (w / 8) = Y) (n0 : 0 ≤ n) (n1 : n ≤ 40000) (e : jd_285_l141 k q st n 0 m3 = some m4) (B : BMd m4 C Md V l) (ll : (l.length : Int) ≤ 3400) (l01 : ∀ x ∈ l, x = 0 ∨ x = 1) (mb : ∀ z : Int, 0 ≤ z → z < 96 → 0 ≤ Md z ∧ Md z ≤ 255) : ∃ m', jd_285_b138 k q st n m3 = some m' ∧ (∀ c : Nat, c ≠ 76 → c ≠ 109 → c ≠ 111 → c ≠ 113 → c ≠ 114 → c ≠ 115 → m' c = m4 c) ∧ (∀ z : Int, z ≠ 53 → m' 76 z = m4 76 z) ∧ m' 76 53 = n + (l.length : Int) ∧ (∀ i : Int, i < n → m' 113 i = m4 113 i) ∧ (∀ i : Int, 0 ≤ i → i < (l.length : Int) → m' 113 (n + i) = l.getD i.toNat 0) ∧ (∀ j : Int, j < 63 * k + 7 * q ∨ 63 * k + 7 * q + 7 ≤ j → m' 111 j = m4 111 j) ∧ (∀ i : Int, 0 ≤ i → i < 4 → m' 111 (63 * k + 7 * q + (i + 1)) = V i) ∧ (∀ j : Int, j < 864 * k ∨ 864 * k + 864 ≤ j → m' 109 j = m4 109 j) ∧ ∀ pl x y : Int, 0 ≤ pl → pl ≤ 2 → 0 ≤ x → x < pw w pl → 0 ≤ y → y < pw h pl → (inP pl X Y x y → m' 109 (864 * k + (pf pl + (y * pw w pl + x))) = Md (ppb pl + ((y - Y * sdOf pl) * sdOf pl + (x - X * sdOf pl)))) ∧ (¬ inP pl X Y x y → m' 109 (864 * k + (pf pl + (y * pw w pl + x))) = m4 109 (864 * k + (pf pl + (y * pw w pl + x)))) := by
  obtain ⟨B1, B2, B3, B4, B5⟩ := B
  have mr := mm_r sw sh q0 q1
  have q9 := mr.2.2.2.2
  -- facts of the part
  have e1 : jd_285_l175 k q n 0 m4 = some (ims m4 111 (wf (fun i => 63 * k + 7 * q + i) (fun i _ => m4 123 i) (m4 111) 7)) := by
    have := lpM (f := fun u : (Int × jM) => jd_285_s175 k q n u.1 u.2) (ct := fun k => k) (ix := fun i => 63 * k + 7 * q + i) (v := fun i _ => m4 123 i) (m := m4) (a := 111) 7 (fun x G hx => by
      dsimp only
      unfold jd_285_s175
      have a1 : ims m4 111 G 123 = m4 123 := ims_o (by decide)
      rw [n_jw (z := (x : Int)) (by omega) (by omega), if_neg (by omega), y_ma 123 7 rfl rfl (by omega) (by omega), Option.bind_some, y_mw 111 756 rfl rfl (by omega) (by omega), Option.bind_some, ims_jms, a1]) (fun G => by
      dsimp only
      unfold jd_285_s175
      exact if_pos (by show (7 : Int) ≤ jw ((7 : Nat) : Int); decide)) (by decide) (m4 111)
    rw [ims_self] at this
    exact this
  obtain ⟨N1, hN1⟩ : ∃ N, N = ims m4 111 (wf (fun i => 63 * k + 7 * q + i) (fun i _ => m4 123 i) (m4 111) 7) := ⟨_, rfl⟩
  rw [← hN1] at e1
  have o1 : ∀ c : Nat, c ≠ 111 → N1 c = m4 c := fun c hc => by rw [hN1, ims_o hc]
  have n74 : N1 76 74 = (l.length : Int) := by rw [o1 76 (by decide)]; exact B4
  -- bits
  have e2 : jd_285_l215 k q n 0 N1 = some (ims N1 113 (wf (fun i => n + i) (fun i _ => jwb (N1 124 i)) (N1 113) l.length)) := by
    have := lpM (f := fun u : (Int × jM) => jd_285_s215 k q n u.1 u.2) (ct := fun k => k) (ix := fun i => n + i) (v := fun i _ => jwb (N1 124 i)) (m := N1) (a := 113) l.length (fun x G hx => by
      dsimp only
      unfold jd_285_s215
      have b1 : ims N1 113 G 124 = N1 124 := ims_o (by decide)
      have b2 : ims N1 113 G 76 74 = (l.length : Int) := by rw [ims_o (by decide)]; exact n74
      rw [b2, n_jw (z := (l.length : Int)) (by omega) (by omega), n_jw (z := (x : Int)) (by omega) (by omega), if_neg (by omega), y_mb 124 4000 rfl rfl (by omega) (by omega), Option.bind_some, y_mw 113 60000 rfl rfl (by omega) (by omega), Option.bind_some, ims_jms, b1]) (fun G => by
      dsimp only
      unfold jd_285_s215
      have b2 : ims N1 113 G 76 74 = (l.length : Int) := by rw [ims_o (by decide)]; exact n74
      rw [b2, if_pos (Int.le_refl _)]) (by omega) (N1 113)
    rw [ims_self] at this
    exact this
  obtain ⟨N2, hN2⟩ : ∃ N, N = ims N1 113 (wf (fun i => n + i) (fun i _ => jwb (N1 124 i)) (N1 113) l.length) := ⟨_, rfl⟩
  rw [← hN2] at e2
  have o2 : ∀ c : Nat, c ≠ 113 → N2 c = N1 c := fun c hc => by rw [hN2, ims_o hc]
  have b2 : ∀ i : Int, 0 ≤ i → i < (l.length : Int) → N2 113 (n + i) = l.getD i.toNat 0 := fun i i0 i1 => by
    have w := wf_k (ix := fun i => n + i) (v := fun i _ => jwb (N1 124 i)) (g := N1 113) (n := l.length) (k := i.toNat) (by omega) (fun l _ _ => by omega)
    rw [show ((i.toNat : Nat) : Int) = i by omega] at w
    rw [hN2, ims_e]
    refine w.trans ?_
    show jwb (N1 124 i) = _
    rw [o1 124 (by decide), B5 i i0 i1]
    have b := getD_01 l01 i.toNat
    exact n_jwb (by omega) (by omega)
  have b3 : ∀ i : Int, i < n → N2 113 i = m4 113 i := fun i hi => by
    rw [hN2, ims_e, wf_o (fun l _ => by omega), o1 113 (by decide)]
  obtain ⟨N3, hN3⟩ : ∃ N, N = jms N2 76 53 (n + N2 76 74) := ⟨_, rfl⟩
  have n53 : N3 76 53 = n + (l.length : Int) := by rw [hN3, jms_e, o2 76 (by decide), n74]
  -- the best samples
  have e3 : ∃ H K, jd_285_l261 k q 0 N3 = some (ims (ims N3 114 H) 115 K) ∧ (∀ z : Int, 0 ≤ z → z < 96 → H z = N3 122 z ∧ K z = 0) := by
    obtain ⟨x, e, H, K, rfl, hk⟩ : wT (jd_285_l261 k q 0 N3) (fun x => ∃ H K, x = ims (ims N3 114 H) 115 K ∧ ∀ z : Int, 0 ≤ z → z < 96 → H z = N3 122 z ∧ K z = 0) := by
      unfold jd_285_l261
      refine w_lp (fun j (u : Int × jM) => j ≤ 96 ∧ ∃ H K, u = ((j : Int), ims (ims N3 114 H) 115 K) ∧ ∀ z : Int, 0 ≤ z → z < (j : Int) → H z = N3 122 z ∧ K z = 0) 96 (fun j u hj hu => ?_) (n_fu (by decide)) ⟨by decide, N3 114, N3 115, ?_, fun z z0 z1 => absurd z1 (by omega)⟩
      · obtain ⟨j9, H, K, rfl, hk⟩ := hu
        by_cases c : (j : Int) < 96
        · have a1 : ims (ims N3 114 H) 115 K 122 (j : Int) = N3 122 (j : Int) := by rw [ims_o (by decide), ims_o (by decide)]
          have em : jms (jms (ims (ims N3 114 H) 115 K) 114 (j : Int) (N3 122 (j : Int))) 115 (j : Int) 0 = ims (ims N3 114 (jiu H (j : Int) (N3 122 (j : Int)))) 115 (jiu K (j : Int) 0) := by
            funext c
            by_cases c1 : c = 115
            · subst c1
              rw [ims_e]
              funext z
              by_cases hz : z = (j : Int)
              · rw [hz, jms_e]
                exact (if_pos rfl).symm
              · rw [jms_i hz, jms_o (by decide), ims_e]
                exact (if_neg hz).symm
            · rw [jms_o c1, ims_o c1]
              by_cases c2 : c = 114
              · subst c2
                rw [ims_e]
                funext z
                by_cases hz : z = (j : Int)
                · rw [hz, jms_e]
                  exact (if_pos rfl).symm
                · rw [jms_i hz, ims_o (by decide), ims_e]
                  exact (if_neg hz).symm
              · rw [jms_o c2, ims_o c1, ims_o c2, ims_o c2]
          refine ⟨.inl ((j : Int) + 1, ims (ims N3 114 (jiu H (j : Int) (N3 122 (j : Int)))) 115 (jiu K (j : Int) 0)), ?_, ?_⟩
          · show jd_285_s261 k q (j : Int) (ims (ims N3 114 H) 115 K) = _
            unfold jd_285_s261
            rw [n_jw (z := (j : Int)) (by omega) (by omega), if_neg (by omega), y_ma 122 96 rfl rfl (by omega) (by omega), Option.bind_some, a1, y_mw 114 96 rfl rfl (by omega) (by omega), Option.bind_some, y_mw 115 96 rfl rfl (by omega) (by omega), Option.bind_some, em]
          · show jse _ _ _
            rw [jse_l]
            refine ⟨by omega, by omega, _, _, by rw [show ((j + 1 : Nat) : Int) = (j : Int) + 1 by omega], fun z z0 z1 => ?_⟩
            by_cases hz : z = (j : Int)
            · rw [hz]
              exact ⟨if_pos rfl, if_pos rfl⟩
            · rw [show jiu H (j : Int) (N3 122 (j : Int)) z = H z from if_neg hz, show jiu K (j : Int) 0 z = K z from if_neg hz]
              exact hk z z0 (by omega)
        · refine ⟨.inr (ims (ims N3 114 H) 115 K), ?_, ?_⟩
          · show jd_285_s261 k q (j : Int) (ims (ims N3 114 H) 115 K) = _
            unfold jd_285_s261
            rw [n_jw (z := (j : Int)) (by omega) (by omega), if_pos (by omega)]
          · show jse _ _ _
            rw [jse_r]
            exact ⟨H, K, rfl, fun z z0 z1 => hk z z0 (by omega)⟩
      · have e1 : ims (ims N3 114 (N3 114)) 115 (N3 115) = N3 := by rw [ims_self, ims_self]
        rw [e1]
        rfl
    exact ⟨H, K, e, hk⟩
  obtain ⟨H, K, e3, hHK⟩ := e3
  obtain ⟨N4, hN4⟩ : ∃ N, N = ims (ims N3 114 H) 115 K := ⟨_, rfl⟩
  rw [← hN4] at e3
  have o4 : ∀ c : Nat, c ≠ 114 → c ≠ 115 → N4 c = N3 c := fun c c1 c2 => by rw [hN4, ims_o c2, ims_o c1]
  have n122 : N3 122 = m4 122 := by rw [hN3, jms_o (by decide), o2 122 (by decide), o1 122 (by decide)]
  have sm : ∀ z : Int, 0 ≤ z → z < 96 → jd_205 (jw (N4 114 z + N4 115 z)) 0 255 = Md z := fun z z0 z1 => by
    have a1 : N4 114 z = Md z := by rw [hN4, ims_o (by decide), ims_e, (hHK z z0 z1).1, n122, B2 z z0 z1]
    have a2 : N4 115 z = 0 := by rw [hN4, ims_e, (hHK z z0 z1).2]
    have b := mb z z0 z1
    have hb := held_b (v := Md z) (by omega) (by omega)
    rw [a1, a2, Int.add_zero, ← hb.1, held_i b.1 b.2]
  have n33 : N4 76 33 = w := by rw [o4 76 (by decide) (by decide), hN3, jms_i (by decide), o2 76 (by decide), o1 76 (by decide)]; exact mw
  obtain ⟨Gl, e5, g1, g2⟩ := k_267 (m := N4) (w := w) (h := h) (k := k) (mm := q) (X := X) (Y := Y) sw sh n33 kk0 kk1 q0 q1 hX hY
  have n109 : N4 109 = m4 109 := by rw [o4 109 (by decide) (by decide), hN3, jms_o (by decide), o2 109 (by decide), o1 109 (by decide)]
  refine ⟨ims N4 109 Gl, ?_, fun c c1 c2 c3 c4 c5 c6 => ?_, fun z hz => ?_, ?_, fun i hi => ?_, fun i i0 i1 => ?_, fun j hj => ?_, fun i i0 i1 => ?_, fun j hj => ?_, fun pl x y x0 x1 x2 x3 x4 x5 => ⟨fun hin => ?_, fun hout => ?_⟩⟩
  · unfold jd_285_b138
    rw [e, Option.bind_some, e1, Option.bind_some, e2, Option.bind_some, Option.bind_some, ← hN3, e3, Option.bind_some, e5, Option.bind_some]
  · rw [ims_o c2, o4 c c5 c6, hN3, jms_o c1, o2 c c4, o1 c c3]
  · rw [ims_o (by decide), o4 76 (by decide) (by decide), hN3, jms_i hz, o2 76 (by decide), o1 76 (by decide)]
  · rw [ims_o (by decide), o4 76 (by decide) (by decide)]
    exact n53
  · rw [ims_o (by decide), o4 113 (by decide) (by decide), hN3, jms_o (by decide)]
    exact b3 i hi
  · rw [ims_o (by decide), o4 113 (by decide) (by decide), hN3, jms_o (by decide)]
    exact b2 i i0 i1
  · rw [ims_o (by decide), o4 111 (by decide) (by decide), hN3, jms_o (by decide), o2 111 (by decide), hN1, ims_e, wf_o (fun l hl => by omega)]
  · have w := wf_k (ix := fun i => 63 * k + 7 * q + i) (v := fun i _ => m4 123 i) (g := m4 111) (n := 7) (k := (i + 1).toNat) (by omega) (fun l _ _ => by omega)
    rw [show (((i + 1).toNat : Nat) : Int) = i + 1 by omega] at w
    rw [ims_o (by decide), o4 111 (by decide) (by decide), hN3, jms_o (by decide), o2 111 (by decide), hN1, ims_e]
    refine w.trans ?_
    show m4 123 (i + 1) = _
    rw [Int.add_comm i 1]
    exact B3 i i0 i1
  · rw [ims_e, g2 j hj, n109]
  · rw [ims_e, (g1 pl x y x0 x1 x2 x3 x4 x5).1 hin]
    obtain ⟨i1, i2, i3, i4⟩ := hin
    have v := plz_v (pl := pl) (r := y - Y * sdOf pl) (c := x - X * sdOf pl) x0 x1 (by omega) (by omega) (by omega) (by omega)
    exact sm _ v.2.2.2.1 v.2.2.2.2
  · rw [ims_e, (g1 pl x y x0 x1 x2 x3 x4 x5).2 hout, n109]
end TailM
