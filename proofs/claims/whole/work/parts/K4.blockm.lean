/-! making: a block's bits and its rest, the model -/
section BlockM2
variable {m : jM} {b st k q n : Int} {W lv : Int → Int} {l : List Int}
theorem wrM_53 : wrM m n l 76 53 = n + (l.length : Int) := wK_53
theorem wrM_76 {z : Int} (h : z ≠ 53) : wrM m n l 76 z = m 76 z := wK_76 h
theorem wrM_o {c : Nat} (h : c ≠ 76) (h' : c ≠ 113) : wrM m n l c = m c := wK_o h h'
theorem wrM_nil (h : m 76 53 = n) : wrM m n [] = m := wK_0 h
theorem k_234a {v : Int} (h : m 76 53 = n) (n0 : 0 ≤ n) (h0 : 0 ≤ v) (h1 : v + 1 < 1073741824) (hl : n + (l.length : Int) + ((cd v).length : Int) ≤ 60000) : jd_234 v (wrM m n l) = some (wrM m n (l ++ cd v)) := by
  rw [k_234 (n := n + (l.length : Int)) wrM_53 (by omega) h0 h1 hl, wrM_app]
theorem k_282l (h : m 76 53 = n) (n0 : 0 ≤ n) (hn : n ≤ 50100) (hl : ∀ j : Int, 0 ≤ j → j < 16 → -4095 ≤ lv j ∧ lv j ≤ 4095) (hv : ∀ i : Int, 0 ≤ i → i < 16 → m 116 (jd_254 i) = lv i) : jd_282_l34 b st 0 0 m = some (wrM m n (rl lv 16).2) := by
  unfold jd_282_l34
  have := w_for (f := fun u : (Int × Int × jM) => jd_282_s34 b st u.1 u.2.1 u.2.2) (fun x => ((rl lv x).1, (x : Int), wrM m n (rl lv x).2)) 16 (x := wrM m n (rl lv 16).2) (fun x hx => ?_) ?_ (n_fu (by decide))
  · have e : wrM m n (rl lv 0).2 = m := wrM_nil h
    rw [e] at this
    exact this
  · dsimp only
    have lb := hl (x : Int) (by omega) (by omega)
    have pb := rl_p (lv := lv) x
    have ll := rl_len hl x (by omega)
    have e1 : wrM m n (rl lv x).2 116 (jd_254 (x : Int)) = lv (x : Int) := by rw [wrM_o (by decide) (by decide)]; exact hv _ (by omega) (by omega)
    have e0 : jma (wrM m n (rl lv x).2) 116 (jd_254 (x : Int)) = some (lv (x : Int)) := by
      rw [y_ma 116 16 rfl rfl (scan_u (by omega) (by omega)).2.1 (scan_u (by omega) (by omega)).2.2, e1]
    clear e1
    obtain ⟨v, hvv⟩ : ∃ v, lv (x : Int) = v := ⟨_, rfl⟩
    rw [hvv] at e0 lb
    unfold jd_282_s34 jd_282_b82
    rw [n_jw (z := (x : Int)) (by omega) (by omega), if_neg (by omega), e0, Option.bind_some, n_jw (z := v) (by omega) (by omega)]
    by_cases c : v = 0
    · rw [if_pos c, rl_z (hvv.trans c), show ((x + 1 : Nat) : Int) = (x : Int) + 1 by omega]
    · have u := us_b lb.1 lb.2
      have l1 := cd_le (v := (rl lv x).1) (k := 5) pb.1 (by show (rl lv x).1 + 1 < 32; omega)
      have l2 := cd_le (v := us v) (k := 13) u.1 (by show us v + 1 < 8192; omega)
      rw [if_neg c, k_234a h n0 pb.1 (by omega) (by omega), Option.bind_some, (k_us (v := v) (by omega) (by omega)).1, k_234a h n0 u.1 (by omega) (by rw [List.length_append]; omega), Option.bind_some, rl_n (by rw [hvv]; exact c), hvv, List.append_assoc, show ((x + 1 : Nat) : Int) = (x : Int) + 1 by omega]
  · dsimp only
    unfold jd_282_s34
    rw [if_pos (by show (16 : Int) ≤ jw ((16 : Nat) : Int); decide)]
theorem k_282 (b0 : 0 ≤ b) (b1 : b < 6) (s0 : 1 ≤ st) (s1 : st ≤ 255) (S : SrcP m k q W) (fb : ∀ z : Int, 0 ≤ z → z < 96 → 0 ≤ m 114 z ∧ m 114 z ≤ 255) (h : m 76 53 = n) (n0 : 0 ≤ n) (hn : n ≤ 50000) : ∃ m', jd_282 k q b st m = some m' ∧ m' 113 = gW (m 113) n (blkB (lvP W (m 114) st b)) ∧ m' 76 53 = n + ((blkB (lvP W (m 114) st b)).length : Int) ∧ (∀ z : Int, z ≠ 53 → z ≠ 59 → m' 76 z = m 76 z) ∧ (∀ c : Nat, c ≠ 76 → c ≠ 113 → c ≠ 115 → c ≠ 116 → c ≠ 117 → m' c = m c) ∧ (∀ r c : Int, 0 ≤ r → r < 4 → 0 ≤ c → c < 4 → m' 115 (cb b r c) = rsB (lvP W (m 114) st b) st r c) ∧ ∀ j, (∀ r c : Int, 0 ≤ r → r < 4 → 0 ≤ c → c < 4 → j ≠ cb b r c) → m' 115 j = m 115 j := by
  obtain ⟨H, G, e1, hG⟩ := k_281 (k := k) (q := q) b0 b1 s0 s1 S fb
  obtain ⟨lv, hlv⟩ : ∃ lv, lv = lvP W (m 114) st b := ⟨_, rfl⟩
  rw [← hlv] at e1 hG ⊢
  have hl : ∀ j : Int, 0 ≤ j → j < 16 → -4095 ≤ lv j ∧ lv j ≤ 4095 := fun j _ _ => by rw [hlv]; exact lvP_b s0
  have cb' := lc_b (g := lv) (n := 16)
  obtain ⟨m1, hm1⟩ : ∃ m1, m1 = ims (ims m 117 H) 116 G := ⟨_, rfl⟩
  rw [← hm1] at e1
  have x53 : m1 76 53 = n := by rw [hm1, ims_o (by decide), ims_o (by decide)]; exact h
  have l1 := cd_le (v := lc lv 16) (k := 5) cb'.1 (by show lc lv 16 + 1 < 32; omega)
  have e2 := k_234 (m := m1) (v := lc lv 16) x53 n0 cb'.1 (by omega) (by omega)
  obtain ⟨m5, hm5⟩ : ∃ m5, m5 = jms (wrM m1 n (cd (lc lv 16))) 76 59 (wrM m1 n (cd (lc lv 16)) 76 59 + lc lv 16) := ⟨_, rfl⟩
  have y53 : m5 76 53 = n + ((cd (lc lv 16)).length : Int) := by rw [hm5, jms_i (by decide), wrM_53]
  have e3 := k_282l (m := m5) (b := b) (st := st) (lv := lv) y53 (by omega) (by omega) hl (fun i i0 i1 => by
    rw [hm5, jms_o (by decide), wrM_o (by decide) (by decide), hm1, ims_e, hG _ (scan_u i0 i1).2.1 (scan_u i0 i1).2.2, (scan_u i0 i1).1])
  obtain ⟨m6, hm6⟩ : ∃ m6, m6 = wrM m5 (n + ((cd (lc lv 16)).length : Int)) (rl lv 16).2 := ⟨_, rfl⟩
  rw [← hm6] at e3
  obtain ⟨H2, G2, F2, e4, f1, f2⟩ := k_257 (m := m6) (b := b) (st := st) b0 b1
  have o6 : ∀ c : Nat, c ≠ 76 → c ≠ 113 → c ≠ 116 → c ≠ 117 → m6 c = m c := fun c c1 c2 c3 c4 => by rw [hm6, wrM_o c1 c2, hm5, jms_o c1, wrM_o c1 c2, hm1, ims_o c3, ims_o c4]
  have g113 : m6 113 = gW (m 113) n (blkB lv) := by
    rw [hm6, wrM_113, hm5, jms_o (by decide), wrM_113, gW_app, hm1, ims_o (by decide), ims_o (by decide)]
    rfl
  refine ⟨ims (ims (ims m6 117 H2) 116 G2) 115 F2, ?_, ?_, ?_, fun z z1 z2 => ?_, fun c c1 c2 c3 c4 c5 => ?_, fun r c r0 r1 c0 c1 => ?_, fun j hj => ?_⟩
  · unfold jd_282
    rw [e1, Option.bind_some]
    dsimp only
    rw [e2, Option.bind_some, Option.bind_some, ← hm5, e3, Option.bind_some, e4, Option.bind_some]
  · rw [ims_o (by decide), ims_o (by decide), ims_o (by decide)]
    exact g113
  · rw [ims_o (by decide), ims_o (by decide), ims_o (by decide), hm6, wrM_53]
    unfold blkB
    rw [List.length_append]
    omega
  · rw [ims_o (by decide), ims_o (by decide), ims_o (by decide), hm6, wrM_76 z1, hm5, jms_i z2, wrM_76 z1, hm1, ims_o (by decide), ims_o (by decide)]
  · rw [ims_o c3, ims_o c4, ims_o c5]
    exact o6 c c1 c2 c4 c5
  · rw [ims_e, f1 r c r0 r1 c0 c1]
    unfold rsB
    rw [hd_c (fun j j0 j1 => ?_)]
    rw [hm6, wrM_o (by decide) (by decide), hm5, jms_o (by decide), wrM_o (by decide) (by decide), hm1, ims_e, hG j j0 j1]
    rfl
  · rw [ims_e, f2 j hj]
    exact congrFun (o6 115 (by decide) (by decide) (by decide) (by decide)) j
end BlockM2
