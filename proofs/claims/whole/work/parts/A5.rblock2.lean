/-! a block read by both sides -/
section RBlock2
variable {s : hS} {Q : hQ} {hm : hO} {I m : jM} {A : Nat} {base i en b st : Int}
def rsO (b : Int) (m m' : jM) : Prop := ∀ j : Int, (∀ r c : Int, 0 ≤ r → r < 4 → 0 ≤ c → c < 4 → j ≠ cb b r c) → m' 115 j = m 115 j
theorem k_258z : jd_258_l2 b st 0 m = some (ims m 116 (wf (fun k => k) (fun _ _ => 0) (m 116) 16)) := by
  have := lpM (f := fun u : (Int × jM) => jd_258_s2 b st u.1 u.2) (ct := fun k => k) (ix := fun k => k) (v := fun _ _ => 0) (m := m) (a := 116) 16 (fun k G hk => by
      unfold jd_258_s2
      dsimp only
      rw [n_jw (by omega) (by omega), if_neg (by omega), y_mw 116 16 rfl rfl (by omega) (by omega), Option.bind_some, ims_jms]) (fun G => by
      unfold jd_258_s2
      exact if_pos (by show (16 : Int) ≤ jw ((16 : Nat) : Int); decide)) (by decide) (m 116)
  rw [ims_self] at this
  exact this
theorem b44_br {m : jM} {f mn : Int} (hb : m 76 52 = f) (f0 : 1 ≤ f) (f1 : f ≤ 7) (h0 : 0 ≤ mn) (h1 : mn < 100000) : jd_258_b44 b st mn m = some m := by
  have l : jd_258_l50 b st mn (-1) 0 m = some (.inr m) := by
    unfold jd_258_l50
    refine jlp_1 (f := fun u : (Int × Int × jM) => jd_258_s50 b st mn u.1 u.2.1 u.2.2) (t := (-1, 0, m)) ?_ _
    dsimp only
    unfold jd_258_s50
    rw [n_jw (z := mn) (by omega) (by omega), n_jw (z := 0) (by decide) (by decide)]
    by_cases c : mn ≤ 0
    · rw [if_pos c]
    · rw [if_neg c, if_neg (br_0 hb f0 f1)]
  unfold jd_258_b44 jd_258_b201
  rw [l, Option.bind_some, jse_r, if_neg (br_0 hb f0 f1)]
theorem rblock (L : Lay s Q hm) (b0 : 0 ≤ b) (b1 : b < 6) (R : BM s Q I m 10 A base i en) (z15 : ∀ j : Int, 0 ≤ j → j < 16 → I 15 (16 * b + j) = 0) : ∃ f I' m', jd_120 9 b (hh s Q I) = some (f, hh s Q I') ∧ jd_258 b st m = some m' ∧ fB I I' ∧ fC m m' ∧ m' 76 52 = f ∧ 0 ≤ f ∧ f ≤ 7 ∧ lvO b I I' ∧ rsO b m m' ∧ (f = 0 → (∃ i', BM s Q I' m' 10 A base i' en) ∧ (∀ j : Int, 0 ≤ j → j < 16 → -4095 ≤ I' 15 (16 * b + j) ∧ I' 15 (16 * b + j) ≤ 4095) ∧ m' 76 59 = m 76 59 + lc (fun i => I' 15 (16 * b + i)) 16 ∧ ∀ r c : Int, 0 ≤ r → r < 4 → 0 ≤ c → c < 4 → m' 115 (cb b r c) = rsB (fun i => I' 15 (16 * b + i)) st r c) := by
  have q0 : Q 9 ((0 : Nat) : Int) = some 10 := Lq L rfl
  have g3 : ∀ (J : jM) z, J 10 3 = z → ((jgr (hh s Q J) 9 8 0).bind fun r66 => ((r66).bind fun a68 => ((jgi (hh s Q J) a68 0 3).bind fun v70 => some (v70, hh s Q J)))) = some (z, hh s Q J) := fun J z hz => by
    have hz' : J 10 ((3 : Nat) : Int) = z := hz
    rw [y_gr L 9 8 rfl rfl, Option.bind_some, q0, Option.bind_some, y_gi L 10 0 rfl rfl, Option.bind_some, hz']
  obtain ⟨m0, hm0⟩ : ∃ z, z = ims m 116 (wf (fun k => k) (fun _ _ => 0) (m 116) 16) := ⟨_, rfl⟩
  have e0 : jd_258_l2 b st 0 m = some m0 := by rw [hm0]; exact k_258z
  have o0 : ∀ a : Nat, a ≠ 116 → m0 a = m a := fun a ha => by rw [hm0]; exact ims_o ha
  have c0 : fC m m0 := ⟨fun a _ _ h3 _ => o0 a h3, fun k _ => by rw [o0 76 (by decide)]⟩
  have R0 : BM s Q I m0 10 A base i en := BM_fr R rfl rfl rfl (by rw [o0 76 (by decide)]) (by rw [o0 76 (by decide)]) (by rw [o0 76 (by decide)]) (by rw [o0 76 (by decide)]) (o0 112 (by decide))
  have z116 : ∀ j : Int, 0 ≤ j → j < 16 → m0 116 j = 0 := fun j j0 j1 => by
    have := wf_k (ix := fun k => k) (v := fun _ _ => 0) (g := m 116) (n := 16) (k := j.toNat) (by omega) (fun l _ _ => by omega)
    rw [show ((j.toNat : Nat) : Int) = j by omega] at this
    rw [hm0, ims_e]; exact this
  unfold jd_120 jd_258
  rw [e0, Option.bind_some, y_gr L 9 8 rfl rfl, Option.bind_some, q0, Option.bind_some, y_ck L 10 0 rfl rfl, Option.bind_some]
  rcases code2 R0 with ⟨v, j, e1, e2, v0, v1, j0, j1, R2⟩ | ⟨f, v, j, j', hf, v0, v1, e1, e2⟩
  · rw [e1, e2, Option.bind_some, Option.bind_some]
    dsimp only
    rw [n_jw (z := v) (by omega) (by omega), if_pos v0, if_pos (BM_b0 R2)]
    by_cases d : v ≤ 16
    · rw [if_pos d, if_pos d]
      obtain ⟨x, y, ex, ey, f, I', m', p1, p2, p3, p4, p5, p6, p7⟩ := rblock_l (st := st) L b0 b1 R2 (fun x h0 h1 => by rw [jms_o (by decide)]; exact z15 x h0 h1) (fun x h0 h1 => by rw [jms_o (by decide)]; exact z116 x h0 h1) v0 d
      have frI : fB I I' := fB_t fB_10 p1
      have frM : fC m m' := fC_t c0 (fC_t (fC_76 (Or.inl rfl)) p2)
      have frL : lvO b I I' := fun x hx => (p5 x hx).trans (by rw [jms_o (by decide)])
      have r115 : m' 115 = m 115 := by rw [p3, jms_o (by decide), o0 115 (by decide)]
      unfold jd_258_b44 jd_258_b201
      rw [ex, ey, Option.bind_some, Option.bind_some]
      rcases p7 with ⟨rfl, rfl, ⟨i', R'⟩, le, c59⟩ | ⟨f0, f7, rfl⟩
      · obtain ⟨H, G, F, k1, k2, k3⟩ := k_257 (m := m') (b := b) (st := st) b0 b1
        rw [jse_r, if_pos (BM_b0 R'), k1, Option.bind_some]
        obtain ⟨m5, hm5⟩ : ∃ z, z = ims (ims (ims m' 117 H) 116 G) 115 F := ⟨_, rfl⟩
        have o5 : ∀ a : Nat, a ≠ 115 → a ≠ 116 → a ≠ 117 → m5 a = m' a := fun a h1 h2 h3 => by rw [hm5, ims_o h1, ims_o h2, ims_o h3]
        have f5 : m5 115 = F := by rw [hm5, ims_e]
        have s5 : m5 76 = m' 76 := o5 76 (by decide) (by decide) (by decide)
        refine ⟨0, I', m5, p6, by rw [hm5], frI, fC_t frM ⟨fun a _ h2 h3 h4 => o5 a h2 h3 h4, fun k _ => by rw [s5]⟩, by rw [s5]; exact R'.2.1.1, by decide, by decide, frL, fun x hx => ?_, fun _ => ⟨⟨i', ?_⟩, fun x h0 h1 => (le x h0 h1).2, ?_, fun r c r0 r1 c0 c1 => ?_⟩⟩
        · rw [f5, k3 x hx, r115]
        · exact BM_fr R' rfl rfl rfl (by rw [s5]) (by rw [s5]) (by rw [s5]) (by rw [s5]) (o5 112 (by decide) (by decide) (by decide))
        · rw [s5, c59, jms_i (by decide), o0 76 (by decide)]
        · rw [f5, k2 r c r0 r1 c0 c1]
          unfold rsB
          rw [hd_c (fun x x0 x1 => ?_) r c]
          show m' 116 x * st = I' 15 (16 * b + usc x) * st
          have u := usc_s x0 x1
          have := (le (usc x) u.2.1 u.2.2).1
          rw [u.1] at this
          rw [this]
      · rw [jse_l]
        exact ⟨f, I', m', p6, rfl, frI, frM, p4, by omega, f7, frL, fun x _ => by rw [r115], fun hf => absurd hf (by omega)⟩
    · unfold jd_231 jd_231_b12
      rw [if_neg d, if_neg d, if_pos (BM_b0 R2), Option.bind_some, Option.bind_some, b44_br (f := 4) jms_e (by decide) (by decide) v0 (by omega)]
      exact ⟨4, jms I 10 1 (8 * base + j), _, rfl, rfl, fB_10, fC_t c0 (fC_t (fC_76 (Or.inl rfl)) (fC_76 (Or.inr (Or.inl rfl)))), jms_e, by decide, by decide, fun x _ => by rw [jms_o (by decide)], fun x _ => by rw [jms_o (by decide), jms_o (by decide), o0 115 (by decide)], fun hf => absurd hf (by decide)⟩
  · rw [e1, e2, Option.bind_some, Option.bind_some]
    dsimp only
    rw [n_jw (z := v) (by omega) (by omega), if_neg (by omega), if_neg (br_0 (m := jms (jms m0 76 51 j') 76 52 f) (f := f) jms_e (by omega) (by omega)), b44_br (f := f) jms_e (by omega) (by omega) (by decide) (by decide), g3 _ f jms_e]
    exact ⟨f, jms (jms I 10 1 j) 10 3 f, _, rfl, rfl, fB_t fB_10 fB_10, fC_t c0 (fC_t (fC_76 (Or.inl rfl)) (fC_76 (Or.inr (Or.inl rfl)))), jms_e, by omega, by omega, fun x _ => by rw [jms_o (by decide), jms_o (by decide)], fun x _ => by rw [jms_o (by decide), jms_o (by decide), o0 115 (by decide)], fun hf => absurd hf (by omega)⟩
end RBlock2
