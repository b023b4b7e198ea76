/-! the numbers of a plane of waves, read by both sides -/
section WNum
variable {s : hS} {Q : hQ} {hm : hO} {I m : jM} {A : Nat} {base i en : Int}
def fW (I I' : jM) : Prop := ∀ a : Nat, a ≠ 10 → a ≠ 22 → a ≠ 23 → I' a = I a
def fN (m m' : jM) : Prop := (∀ a : Nat, a ≠ 76 → a ≠ 118 → a ≠ 119 → a ≠ 120 → m' a = m a) ∧ (∀ k : Int, k < 51 ∨ 52 < k → m' 76 k = m 76 k)
theorem fW_t {I1 I2 I3 : jM} (a : fW I1 I2) (b : fW I2 I3) : fW I1 I3 := fun x h1 h2 h3 => (b x h1 h2 h3).trans (a x h1 h2 h3)
theorem fN_t {I1 I2 I3 : jM} (a : fN I1 I2) (b : fN I2 I3) : fN I1 I3 := ⟨fun x h1 h2 h3 h4 => (b.1 x h1 h2 h3 h4).trans (a.1 x h1 h2 h3 h4), fun k hk => (b.2 k hk).trans (a.2 k hk)⟩
theorem fW_r {I : jM} : fW I I := fun _ _ _ _ => rfl
theorem fN_r {I : jM} : fN I I := ⟨fun _ _ _ _ _ => rfl, fun _ _ => rfl⟩
theorem fW_10 {I : jM} {k v : Int} : fW I (jms I 10 k v) := fun _ h1 _ _ => jms_o h1
theorem fW_22 {I : jM} {f : Int → Int} : fW I (ims I 22 f) := fun _ _ h2 _ => ims_o h2
theorem fW_22j {I : jM} {k v : Int} : fW I (jms I 22 k v) := fun _ _ h2 _ => jms_o h2
theorem fN_76 {m : jM} {k v : Int} (hk : 51 ≤ k) (hl : k ≤ 52) : fN m (jms m 76 k v) := ⟨fun _ h1 _ _ _ => jms_o h1, fun j hj => jms_i (by omega)⟩
theorem fN_118 {m : jM} {f : Int → Int} : fN m (ims m 118 f) := ⟨fun _ _ h2 _ _ => ims_o h2, fun j _ => by rw [ims_o (by decide)]⟩
theorem fN_118j {m : jM} {k v : Int} : fN m (jms m 118 k v) := ⟨fun _ _ h2 _ _ => jms_o h2, fun j _ => by rw [jms_o (by decide)]⟩
/-- what is kept of both while the numbers come -/
theorem BM_W {I I' m m' : jM} (R : BM s Q I m 10 A base i en) (aA : A ≠ 22 ∧ A ≠ 23) (h1 : fW I I') (e1 : I' 10 = I 10) (h2 : fN m m') (e2 : m' 76 = m 76) : BM s Q I' m' 10 A base i en :=
  BM_fr R (h1 A R.1.2.2.1 aA.1 aA.2) (by rw [e1]) (by rw [e1]) (by rw [e2]) (by rw [e2]) (by rw [e2]) (by rw [e2]) (h2.1 112 (by decide) (by decide) (by decide) (by decide))
theorem c_133z (L : Lay s Q hm) {x1 : Option Nat} {x2 x4 z at' : Int} (a0 : 0 ≤ at') (z0 : 0 ≤ z) (hz : at' + z ≤ 576) : jd_133_l45 21 x1 x2 x4 z at' 0 (hh s Q I) = some (at' + z, hh s Q (ims I 22 (wf (fun k => at' + k) (fun _ _ => 0) (I 22) z.toNat))) := by
  have q0 : Q 21 ((0 : Nat) : Int) = some 22 := Lq L rfl
  unfold jd_133_l45
  have := w_for (f := fun u : (Int × Int × jH) => jd_133_s45 21 x1 x2 x4 z u.1 u.2.1 u.2.2) (fun k => (at' + (k : Int), (k : Int), hh s Q (ims I 22 (wf (fun k => at' + k) (fun _ _ => 0) (I 22) k)))) z.toNat (x := (at' + z, hh s Q (ims I 22 (wf (fun k => at' + k) (fun _ _ => 0) (I 22) z.toNat)))) (fun k hk => by
      unfold jd_133_s45
      dsimp only
      rw [n_jw (z := z) (by omega) (by omega), n_jw (z := (k : Int)) (by omega) (by omega), if_neg (by omega), y_gr L 21 10 rfl rfl, Option.bind_some, q0, Option.bind_some, y_ta L 22 0 576 rfl rfl rfl (by omega) (by omega), Option.bind_some, ims_jms, wf_s, show ((k + 1 : Nat) : Int) = (k : Int) + 1 by omega, Int.add_assoc]) (by
      unfold jd_133_s45
      dsimp only
      rw [n_jw (z := z) (by omega) (by omega), n_jw (by omega) (by omega), if_pos (by omega), show ((z.toNat : Nat) : Int) = z by omega]) (n_fu (by omega))
  have e : at' + ((0 : Nat) : Int) = at' := by omega
  rw [e, wf_0, ims_self] at this
  exact this
theorem k_274z {x1 x2 x3 x4 z at' : Int} (a0 : 0 ≤ at') (z0 : 0 ≤ z) (hz : at' + z ≤ 576) : jd_274_l79 x1 x2 x3 x4 at' z 0 m = some (ims m 118 (wf (fun k => at' + k) (fun _ _ => 0) (m 118) z.toNat)) := by
  have := lpM (f := fun u : (Int × jM) => jd_274_s79 x1 x2 x3 x4 at' z u.1 u.2) (ct := fun k => k) (ix := fun k => at' + k) (v := fun _ _ => 0) (m := m) (a := 118) z.toNat (fun k G hk => by
      unfold jd_274_s79
      dsimp only
      rw [n_jw (z := z) (by omega) (by omega), n_jw (z := (k : Int)) (by omega) (by omega), if_neg (by omega), y_mw 118 576 rfl rfl (by omega) (by omega), Option.bind_some, ims_jms]) (fun G => by
      unfold jd_274_s79
      dsimp only
      rw [n_jw (z := z) (by omega) (by omega), n_jw (by omega) (by omega), if_pos (by omega)]) (by omega) (m 118)
  rw [ims_self] at this
  exact this
theorem wfz_v {g : Int → Int} {at' z j : Int} (h0 : at' ≤ j) (h1 : j < at' + z) : wf (fun k => at' + k) (fun _ _ => 0) g z.toNat j = 0 := by
  have := wf_k (ix := fun k => at' + k) (v := fun _ _ => 0) (g := g) (n := z.toNat) (k := (j - at').toNat) (by omega) (fun l h1 h2 => by omega)
  rw [show at' + (((j - at').toNat : Nat) : Int) = j by omega] at this
  exact this
theorem wfz_o {g : Int → Int} {at' z j : Int} (h0 : j < at') : wf (fun k => at' + k) (fun _ _ => 0) g z.toNat j = g j := wf_o (fun k hk => by omega)
theorem BM_b0 (R : BM s Q I m 10 A base i en) : jw (m 76 52) = 0 := by rw [R.2.1.1]; rfl
theorem BM_b1 (R : BM s Q I m 10 A base i en) : jw (m 76 52) ≤ 0 := by rw [R.2.1.1]; decide
theorem br_0 {m : jM} {f : Int} (h : m 76 52 = f) (h0 : 1 ≤ f) (h1 : f ≤ 7) : ¬ jw (m 76 52) = 0 := by rw [h, n_jw (by omega) (by omega)]; omega
theorem br_1 {m : jM} {f : Int} (h : m 76 52 = f) (h0 : 1 ≤ f) (h1 : f ≤ 7) : ¬ jw (m 76 52) ≤ 0 := by rw [h, n_jw (by omega) (by omega)]; omega
theorem n_14b {z : Int} (h0 : 0 ≤ z) (h1 : z < 32768) : -16384 ≤ jd_14 z ∧ jd_14 z ≤ 16384 := by
  rw [n_14 h0 (by omega)]
  split <;> omega
def wOk (s : hS) (Q : hQ) (I m : jM) (A : Nat) (base en N : Int) (I' m' : jM) : Prop := (∃ i', BM s Q I' m' 10 A base i' en) ∧ ∀ j : Int, 0 ≤ j → j < N → I' 22 j = m' 118 j ∧ -4095 ≤ m' 118 j ∧ m' 118 j ≤ 4095
def wPost (s : hS) (Q : hQ) (I m : jM) (A : Nat) (base en N : Int) (x : jH ⊕ (jH ⊕ (jH ⊕ (jH ⊕ jH)))) (y : jM ⊕ (jM ⊕ jM)) : Prop := ∃ I' m', fW I I' ∧ fN m m' ∧ ((x = .inr (.inr (.inr (.inr (hh s Q I')))) ∧ y = .inr (.inr m') ∧ wOk s Q I m A base en N I' m') ∨ (∃ f, 1 ≤ f ∧ f ≤ 7 ∧ m' 76 52 = f ∧ (y = .inl m' ∨ y = .inr (.inl m')) ∧ ((x = .inl (hh s Q I') ∧ I' 10 3 = f) ∨ (x = .inr (.inl (hh s Q I')) ∧ f = 4) ∨ (x = .inr (.inr (.inl (hh s Q I'))) ∧ I' 10 3 = f) ∨ (x = .inr (.inr (.inr (.inl (hh s Q I')))) ∧ f = 5))))
theorem wnum_l (L : Lay s Q hm) (R : BM s Q I m 10 A base i en) (aA : A ≠ 22 ∧ A ≠ 23) {N x1 x2 x3 x4 : Int} (hN : x3 * x4 = N) (N0 : 0 ≤ N) (N1 : N ≤ 576) : ∃ x y, jd_133_l5 21 (some 10) N 0 0 (hh s Q I) = some x ∧ jd_274_l22 x1 x2 x3 x4 0 m = some y ∧ wPost s Q I m A base en N x y := by
  have q0 : Q 21 ((0 : Nat) : Int) = some 22 := Lq L rfl
  unfold jd_133_l5 jd_274_l22
  refine w_lp2 (Q := fun x y => wPost s Q I m A base en N x y) (fun k u t => ∃ at' I' m', u = (at', (k : Int), hh s Q I') ∧ t = (at', m') ∧ fW I I' ∧ fN m m' ∧ (k : Int) ≤ at' ∧ wOk s Q I m A base en at' I' m' ∧ at' ≤ N) N.toNat (fun k u t hk hu => ?_) (n_fu (by omega)) (n_fu (by omega)) ⟨0, I, m, rfl, rfl, fW_r, fN_r, by omega, ⟨⟨i, R⟩, fun j h0 h1 => absurd h1 (by omega)⟩, by omega⟩
  obtain ⟨at', I', m', rfl, rfl, w1, w2, ka, ⟨⟨i', R'⟩, eqs⟩, aN⟩ := hu
  unfold jd_133_s5 jd_133_b130 jd_274_s22
  dsimp only
  rw [hN, n_jw (z := N) (by omega) (by omega), n_jw (z := (k : Int)) (by omega) (by omega), n_jw (z := at') (by omega) (by omega)]
  by_cases c : N ≤ at'
  · right
    refine ⟨_, _, ?_, ?_, I', m', w1, w2, Or.inl ⟨rfl, rfl, ⟨i', R'⟩, fun j h0 h1 => eqs j h0 (by omega)⟩⟩
    · by_cases d : N ≤ (k : Int)
      · rw [if_pos d]
      · rw [if_neg d, if_pos c]
    · rw [if_pos c]
  · rw [if_neg (by omega), if_neg c, if_neg c, Option.bind_some, y_ck L 10 0 rfl rfl, Option.bind_some, if_pos (BM_b0 R')]
    rcases code2 R' with ⟨v, j, e1, e2, v0, v1, j0, j1, R2⟩ | ⟨f, v, j, j', hf, v0, v1, e1, e2⟩
    · rw [e1, e2, Option.bind_some, Option.bind_some]
      dsimp only
      rw [n_jw (z := v) (by omega) (by omega), n_jw (z := N - at') (by omega) (by omega), n_jw (z := at' + v) (by omega) (by omega), if_pos v0, if_pos (BM_b0 R2)]
      by_cases d : v ≤ N - at'
      · rw [if_pos d, if_pos (by omega)]
        unfold jd_274_b68
        rw [if_pos (BM_b1 R2), c_133z L (by omega) v0 (by omega), k_274z (by omega) v0 (by omega), Option.bind_some, Option.bind_some]
        dsimp only
        rw [hN, n_jw (z := N) (by omega) (by omega), n_jw (z := at' + v) (by omega) (by omega)]
        obtain ⟨I3, hI3⟩ : ∃ I3, I3 = ims (jms I' 10 1 (8 * base + j)) 22 (wf (fun k => at' + k) (fun _ _ => 0) (jms I' 10 1 (8 * base + j) 22) v.toNat) := ⟨_, rfl⟩
        obtain ⟨m3, hm3⟩ : ∃ m3, m3 = ims (jms m' 76 51 j) 118 (wf (fun k => at' + k) (fun _ _ => 0) (jms m' 76 51 j 118) v.toNat) := ⟨_, rfl⟩
        rw [← hI3, ← hm3]
        have z1 : fW I I3 := by rw [hI3]; exact fW_t w1 (fW_t fW_10 fW_22)
        have z2 : fN m m3 := by rw [hm3]; exact fN_t w2 (fN_t (fN_76 (by decide) (by decide)) fN_118)
        have R3 : BM s Q I3 m3 10 A base j en := by
          rw [hI3, hm3]
          exact BM_W R2 aA fW_22 (ims_o (by decide)) fN_118 (ims_o (by decide))
        have eq3 : ∀ j : Int, 0 ≤ j → j < at' + v → I3 22 j = m3 118 j ∧ -4095 ≤ m3 118 j ∧ m3 118 j ≤ 4095 := fun x x0 x1 => by
          rw [hI3, hm3, ims_e, ims_e]
          by_cases c3 : x < at'
          · rw [wfz_o c3, wfz_o c3, jms_o (by decide), jms_o (by decide)]
            exact eqs x x0 c3
          · rw [wfz_v (by omega) x1, wfz_v (by omega) x1]
            exact ⟨rfl, by decide, by decide⟩
        by_cases e : N ≤ at' + v
        · left
          rw [if_pos e, Option.bind_some, if_pos (by omega)]
          exact ⟨_, _, rfl, rfl, by omega, at' + v, I3, m3, rfl, rfl, z1, z2, by omega, ⟨⟨j, R3⟩, eq3⟩, by omega⟩
        · rw [if_neg e, Option.bind_some, if_neg (by omega), y_ck L 10 0 rfl rfl, Option.bind_some, k_230]
          rcases code2 R3 with ⟨v2, j2, e3, e4, v02, v12, j02, j12, R4⟩ | ⟨f, v2, j2, j', hf, v02, v12, e3, e4⟩
          · rw [e3, e4, Option.bind_some, Option.bind_some, Option.bind_some]
            dsimp only
            have b := n_14b v02 v12
            rw [n_jw (z := v2) (by omega) (by omega), n_jw (z := jd_14 v2) (by omega) (by omega), if_pos v02, if_pos (BM_b0 R4)]
            have bad : ∀ X : Option ((Int × jM) ⊕ (jM ⊕ (jM ⊕ jM))), X = jd_274_b156 x1 x2 x3 x4 (at' + v) (jd_14 v2) (jms m3 76 51 j2) → X = some (.inr (.inr (.inl (jms (jms m3 76 51 j2) 76 52 5)))) := fun X hX => by
              rw [hX]
              unfold jd_274_b156 jd_231 jd_231_b12 jd_274_b161
              rw [if_pos (BM_b0 R4), Option.bind_some, Option.bind_some, if_neg (br_1 (f := 5) jms_e (by decide) (by decide))]
            have fin : ∀ C M, C = some (.inr (.inr (.inr (.inr (.inl (hh s Q (jms I3 10 1 (8 * base + j2)))))))) → M = some (.inr (.inr (.inl (jms (jms m3 76 51 j2) 76 52 5)))) → (∃ s' t', C = some (Sum.inl s') ∧ M = some (Sum.inl t') ∧ k < N.toNat ∧ ∃ at' I' m', s' = (at', ((k + 1 : Nat) : Int), hh s Q I') ∧ t' = (at', m') ∧ fW I I' ∧ fN m m' ∧ ((k + 1 : Nat) : Int) ≤ at' ∧ wOk s Q I m A base en at' I' m' ∧ at' ≤ N) ∨ (∃ x y, C = some (Sum.inr x) ∧ M = some (Sum.inr y) ∧ wPost s Q I m A base en N x y) := fun C M hC hM => by
              right
              exact ⟨_, _, hC, hM, _, _, fW_t z1 fW_10, fN_t z2 (fN_t (fN_76 (by decide) (by decide)) (fN_76 (k := 52) (by decide) (by decide))), Or.inr ⟨5, by decide, by decide, jms_e, Or.inr rfl, Or.inr (Or.inr (Or.inr ⟨rfl, rfl⟩))⟩⟩
            by_cases d1 : jd_14 v2 = 0
            · rw [if_pos d1, if_pos d1]
              exact fin _ _ rfl (bad _ rfl)
            · rw [if_neg d1, if_neg d1]
              by_cases d2 : jd_14 v2 < -4095
              · rw [if_pos d2, if_pos d2]
                exact fin _ _ rfl (bad _ rfl)
              · rw [if_neg d2, if_neg d2]
                by_cases d3 : jd_14 v2 ≤ 4095
                · left
                  rw [if_pos d3, if_pos d3]
                  unfold jd_274_b161
                  rw [if_pos (BM_b1 R4), y_mw 118 576 rfl rfl (by omega) (by omega), Option.bind_some, y_gr L 21 10 rfl rfl, Option.bind_some, q0, Option.bind_some, y_ta L 22 0 576 rfl rfl rfl (by omega) (by omega), Option.bind_some]
                  refine ⟨_, _, rfl, rfl, by omega, at' + v + 1, _, _, rfl, rfl, fW_t z1 (fW_t fW_10 fW_22j), fN_t z2 (fN_t (fN_76 (by decide) (by decide)) fN_118j), by omega, ⟨⟨j2, BM_W R4 aA fW_22j (jms_o (by decide)) fN_118j (jms_o (by decide))⟩, fun x x0 x1 => ?_⟩, by omega⟩
                  by_cases c3 : x = at' + v
                  · subst c3
                    rw [jms_e, jms_e]
                    exact ⟨rfl, by omega, by omega⟩
                  · rw [jms_i c3, jms_i c3, jms_o (by decide), jms_o (by decide)]
                    exact eq3 x x0 (by omega)
                · rw [if_neg d3, if_neg d3]
                  exact fin _ _ rfl (bad _ rfl)
          · right
            rw [e3, e4, Option.bind_some, Option.bind_some, Option.bind_some]
            dsimp only
            unfold jd_274_b161
            generalize jd_14 0 = z9
            rw [if_neg (show ¬ 0 ≤ jw v2 by rw [n_jw (by omega) (by omega)]; omega), if_neg (br_0 (m := jms (jms m3 76 51 j') 76 52 f) (f := f) jms_e (by omega) (by omega)), if_neg (br_1 (m := jms (jms m3 76 51 j') 76 52 f) (f := f) jms_e (by omega) (by omega))]
            exact ⟨_, _, rfl, rfl, _, _, fW_t z1 (fW_t fW_10 fW_10), fN_t z2 (fN_t (fN_76 (by decide) (by decide)) (fN_76 (k := 52) (by decide) (by decide))), Or.inr ⟨f, by omega, by omega, jms_e, Or.inr rfl, Or.inr (Or.inr (Or.inl ⟨rfl, jms_e⟩))⟩⟩
      · right
        unfold jd_231 jd_231_b12 jd_274_b68
        rw [if_neg d, if_neg (by omega), if_pos (BM_b0 R2), Option.bind_some, Option.bind_some, if_neg (br_1 (f := 4) jms_e (by decide) (by decide))]
        exact ⟨_, _, rfl, rfl, _, _, fW_t w1 fW_10, fN_t w2 (fN_t (fN_76 (by decide) (by decide)) (fN_76 (k := 52) (by decide) (by decide))), Or.inr ⟨4, by decide, by decide, jms_e, Or.inl rfl, Or.inr (Or.inl ⟨rfl, rfl⟩)⟩⟩
    · right
      rw [e1, e2, Option.bind_some, Option.bind_some]
      dsimp only
      unfold jd_274_b68
      rw [n_jw (z := v) (by omega) (by omega), if_neg (by omega), if_neg (br_0 (f := f) jms_e (by omega) (by omega)), if_neg (br_1 (f := f) jms_e (by omega) (by omega))]
      exact ⟨_, _, rfl, rfl, _, _, fW_t w1 (fW_t fW_10 fW_10), fN_t w2 (fN_t (fN_76 (by decide) (by decide)) (fN_76 (k := 52) (by decide) (by decide))), Or.inr ⟨f, by omega, by omega, jms_e, Or.inl rfl, Or.inl ⟨rfl, jms_e⟩⟩⟩
end WNum
