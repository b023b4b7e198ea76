/-! reel -/
section Become
variable {s : hS} {Q : hQ} {hm : hO} {I m : jM} {a b : Nat} {w h o o' : Int} {G : Int → Int}
theorem pl_tot {p : Int} (sw : isSd w) (sh : isSd h) (p0 : 0 ≤ p) (p2 : p ≤ 2) : pb w h p + pw w p * pw h p ≤ w * h * 3 / 2 ∧ w * h * 3 / 2 ≤ 864 ∧ 0 ≤ w * h * 3 / 2 := by
  have hp : p = 0 ∨ p = 1 ∨ p = 2 := by omega
  rcases hp with rfl | rfl | rfl <;> rcases sw with rfl | rfl | rfl <;> rcases sh with rfl | rfl | rfl <;> decide
/-- become -/
theorem c_102 (A : PicAt s Q hm a o) (B : PicAt s Q hm b o') (hab : o ≠ o') (X : Pix I a w h G) : ∃ I', jd_102 b (some a) (hh s Q I) = some (hh s Q I') ∧ Pix I' b w h G ∧ ∀ c, c ≠ b → c ≠ b + 1 → I' c = I c := by
  have h1 : a ≠ b := fun e => hab (by rw [← A.2.1.2.2.2, ← B.2.1.2.2.2, e])
  have h2 : a ≠ b + 1 := fun e => hab (by rw [← A.2.1.2.2.2, ← B.2.2.1.2.2.2, e])
  have h3 : a + 1 ≠ b := fun e => hab (by rw [← A.2.2.1.2.2.2, ← B.2.1.2.2.2, e])
  have h4 : a + 1 ≠ b + 1 := by omega
  obtain ⟨x1, x2, sw, sh, x5⟩ := X
  have e1 : I a ((0 : Nat) : Int) = w := x1
  have e2 : I a ((1 : Nat) : Int) = h := x2
  have e3 : Q a ((2 : Nat) : Int) = some (a + 1) := A.2.2.2
  have e4 : Q b ((2 : Nat) : Int) = some (b + 1) := B.2.2.2
  have tt := pl_tot sw sh (p := 0) (by decide) (by decide)
  generalize hJ : jms (jms I b 0 w) b 1 h = J
  have j0 : J b 0 = w := by rw [← hJ]; exact (jms_i (by decide)).trans jms_e
  have j1 : J b 1 = h := by rw [← hJ]; exact jms_e
  have jn : ∀ c, c ≠ b → J c = I c := fun c hc => by rw [← hJ, jms_o hc, jms_o hc]
  refine ⟨ims J (b + 1) (fun j => if 0 ≤ j ∧ j < 0 + w * h * 3 / 2 then J (a + 1) (0 + (j - 0)) else J (b + 1) j), ?_, ⟨?_, ?_, sw, sh, fun p k p0 p2 k0 k1 => ?_⟩, fun c c1 c2 => ?_⟩
  · unfold jd_102
    rw [Option.bind_some, x_gi A.2.1.1 A.2.1.2.1, Option.bind_some, Option.bind_some, x_gi A.2.1.1 A.2.1.2.1, Option.bind_some, e1, e2, x_ck B.2.1.1 B.2.1.2.1, Option.bind_some, c_95 B, Option.bind_some, hJ, Option.bind_some, x_gr A.2.1.1 A.2.1.2.1, Option.bind_some, x_gr B.2.1.1 B.2.1.2.1, Option.bind_some, x_ck B.2.1.1 B.2.1.2.1, Option.bind_some, c_99 B.2.1.1 B.2.1.2.1 j0 j1 sw sh, Option.bind_some, e3, e4, Option.bind_some, Option.bind_some, x_cp A.2.2.1.1 B.2.2.1.1 A.2.2.1.2.1 B.2.2.1.2.1 (Or.inl rfl) (by decide) (by decide) tt.2.2 (by rw [A.2.2.1.2.2.1]; omega) (by rw [B.2.2.1.2.2.1]; omega) (by rw [A.2.2.1.2.2.1]; decide) (by rw [B.2.2.1.2.2.1]; decide), Option.bind_some]
  · rw [ims_o (by omega)]; exact j0
  · rw [ims_o (by omega)]; exact j1
  · have t2 := pl_tot sw sh p0 p2
    have b := pl_sz sw sh p0 p2
    rw [ims_e, if_pos (by omega), jn _ h3, show 0 + (pb w h p + k - 0) = pb w h p + k by omega]
    exact x5 p k p0 p2 k0 k1
  · rw [ims_o c2, jn c c1]
/-- isAsLarge -/
theorem c_100 {w' h' : Int} {G' : Int → Int} (A : PicAt s Q hm a o) (B : PicAt s Q hm b o') (X : Pix I a w h G) (Y : Pix I b w' h' G') : jd_100 a (some b) (hh s Q I) = some (if w = w' ∧ h = h' then 1 else 0) := by
  have e1 : I a ((0 : Nat) : Int) = w := X.1
  have e2 : I a ((1 : Nat) : Int) = h := X.2.1
  have e3 : I b ((0 : Nat) : Int) = w' := Y.1
  have e4 : I b ((1 : Nat) : Int) = h' := Y.2.1
  have r : ∀ {x : Int}, isSd x → jw x = x := fun hx => n_jw (by rcases hx with rfl | rfl | rfl <;> decide) (by rcases hx with rfl | rfl | rfl <;> decide)
  unfold jd_100 jd_100_b27
  rw [x_gi A.2.1.1 A.2.1.2.1, Option.bind_some, Option.bind_some, x_gi B.2.1.1 B.2.1.2.1, Option.bind_some, e1, e3, r X.2.2.1, r Y.2.2.1]
  by_cases c1 : w = w'
  · rw [if_pos c1, x_gi A.2.1.1 A.2.1.2.1, Option.bind_some, Option.bind_some, x_gi B.2.1.1 B.2.1.2.1, Option.bind_some, e2, e4, r X.2.2.2.1, r Y.2.2.2.1]
    by_cases c2 : h = h'
    · rw [if_pos c2, if_pos ⟨c1, c2⟩]
      rfl
    · rw [if_neg c2, if_neg (fun e => c2 e.2)]
      rfl
  · rw [if_neg c1, if_neg (fun e => c1 e.1)]
    rfl
end Become
section Reel
variable {s : hS} {Q : hQ} {hm : hO} {I m : jM} {a b : Nat} {z p : Int}
theorem RelH_slot4 (R : RelH s Q hm I m) (hz : m 76 7 ≤ z ∧ z < 12) (A : PicAt s Q hm b (100 + z)) : RelH s (rms Q 4 z (some b)) hm I m := by
  have S : Sm (fun o => o ≠ 1004) s Q hm I s (rms Q 4 z (some b)) hm I := Sm_rms (by rw [Lo R.1 rfl]; decide)
  have PA : ∀ {a : Nat} {o : Int}, PicAt s Q hm a o → o ≠ 1004 → PicAt s (rms Q 4 z (some b)) hm a o := fun h p => (PicAt_fr S h p).1
  obtain ⟨L, r1, r2, r3, r4, r5, r6, r7, r8, r9⟩ := R
  obtain ⟨t1, t2, t3, t4, t5⟩ := r4
  refine ⟨Lay_rmsN L sq_4, RPic_fr L S (by omega) (fun i _ _ => by omega) rfl rfl rfl rfl rfl r1, r2, r3, ⟨t1, t2, t3, fun i h1 h2 => ?_, fun i h1 h2 => ?_⟩, RFil_fr L S (by omega) (fun i _ _ => by omega) (fun i _ _ => by omega) (fun i _ _ => by omega) rfl rfl (fun _ _ _ => rfl) r5, r6, RFlt_fr L S (by omega) (fun i _ _ => by omega) rfl rfl rfl rfl rfl r7, RPly_fr L S (by omega) (fun i _ _ => by omega) (fun i _ _ => by omega) rfl (fun _ _ _ => rfl) (fun _ _ _ => rfl) r9 r8, RMis_fr L S (by omega) (by omega) (by omega) (fun i _ _ => by omega) (fun i _ _ => by omega) (fun i _ _ => by omega) r9⟩
  · by_cases hi : i = z
    · subst hi
      rw [rms_e]
      intro a ha
      cases ha
      exact PA A (by omega)
    · rw [rms_i hi]
      intro a ha
      exact PA (t4 i h1 h2 a ha) (by omega)
  · obtain ⟨a, ha, X⟩ := t5 i h1 h2
    exact ⟨a, by rw [rms_i (by omega)]; exact ha, X⟩
/-- the model's copy of a picture into the reel -/
theorem k_297l {n : Int} (hn : m 76 7 = n) (n0 : 0 ≤ n) (n12 : n < 12) (hp : 0 ≤ p ∧ p < 60) : jd_297_l98 p 0 m = some (ims m 81 (seqf (m 81) (864 * n) (fun k _ => m 79 (864 * p + k)) 864)) := by
  unfold jd_297_l98
  have := w_for (f := fun u : (Int × jM) => jd_297_s98 p u.1 u.2) (fun k => ((k : Int), ims m 81 (seqf (m 81) (864 * n) (fun k _ => m 79 (864 * p + k)) k))) 864 (x := ims m 81 (seqf (m 81) (864 * n) (fun k _ => m 79 (864 * p + k)) 864)) (fun k hk => ?_) ?_ (n_fu (by decide))
  · rw [show ((0 : Nat) : Int) = 0 from rfl, seqf_0, ims_self] at this
    exact this
  · dsimp only
    unfold jd_297_s98
    have e1 : ∀ f : Int → Int, ims m 81 f 76 7 = n := fun _ => hn
    have e2 : ∀ f : Int → Int, ims m 81 f 79 = m 79 := fun _ => rfl
    rw [n_jw (by omega) (by omega), if_neg (by omega), y_ma 79 51840 rfl rfl (by omega) (by omega), Option.bind_some, e1, e2, y_mw 81 10368 rfl rfl (by omega) (by omega), Option.bind_some, ims_jms]
    have := seqf_s (f := m 81) (b := 864 * n) (F := fun k _ => m 79 (864 * p + k)) (k := (k : Int)) (by omega)
    rw [show ((k + 1 : Nat) : Int) = (k : Int) + 1 from by omega, ← this]
  · dsimp only
    unfold jd_297_s98
    rw [n_jw (by omega) (by omega), if_pos (by omega)]
    rfl
theorem k_297b (hp : 0 ≤ p ∧ p < 60) (n0 : 0 ≤ m 76 7) (n12 : m 76 7 < 12) : jd_297_b64 p 0 m = some (m 76 7 + 1, jms (ims (jms (jms (jms m 76 0 0) 76 8 (m 77 p)) 76 9 (m 78 p)) 81 (seqf (m 81) (864 * m 76 7) (fun k _ => m 79 (864 * p + k)) 864)) 76 7 (m 76 7 + 1)) := by
  unfold jd_297_b64
  have e2 : ∀ {m1 : jM} {f : Int → Int}, ims m1 81 f 76 7 = m1 76 7 := rfl
  have e3 : jms m 76 0 0 77 p = m 77 p := rfl
  have e4 : (jms (jms m 76 0 0) 76 8 (m 77 p)) 78 p = m 78 p := rfl
  have e5 : jms (jms (jms m 76 0 0) 76 8 (m 77 p)) 76 9 (m 78 p) 76 7 = m 76 7 := rfl
  rw [Option.bind_some, jms_e, if_pos (by decide), y_ma 77 60 rfl rfl hp.1 (by omega), Option.bind_some, Option.bind_some, e3, y_ma 78 60 rfl rfl hp.1 (by omega), Option.bind_some, Option.bind_some, e4, k_297l (m := jms (jms (jms m 76 0 0) 76 8 (m 77 p)) 76 9 (m 78 p)) e5 n0 n12 hp, Option.bind_some, Option.bind_some, jms_e, e2, e5]
  rfl
/-- the class's reel, the place for it being there -/
theorem c_153b (R : RelH s Q hm I m) (hp : 0 ≤ p ∧ p < m 76 1) (ha : Q 1 p = some a) (hb : Q 4 (m 76 7) = some b) (hn : m 76 7 < 12) : ∃ I' J, jd_153_b83 0 (some a) (hh s Q I) = some (.inl (m 76 7 + 1), hh s Q I') ∧ I' = jms J 0 6 (m 76 7 + 1) ∧ Pix J b (m 77 p) (m 78 p) (fun j => m 79 (864 * p + j)) ∧ ∀ c, c ≠ b → c ≠ b + 1 → J c = I c := by
  have L := R.1
  obtain ⟨t1, t2, t3, t4, t5⟩ := id R.2.2.2.2.1
  have A := R.2.1.2.2.2.1 p hp.1 (by have := R.2.1.2.2.1; omega) a ha
  obtain ⟨a', ha', X⟩ := R.2.1.2.2.2.2 p hp.1 hp.2
  rw [ha] at ha'
  cases ha'
  have B := t4 _ t2 hn b hb
  obtain ⟨J, eJ, Y, hJ⟩ := c_102 A B (by have := R.2.1.2.2.1; omega) X
  refine ⟨_, J, ?_, rfl, Y, hJ⟩
  have e1 : I 0 ((6 : Nat) : Int) = m 76 7 := t1
  have e5 : Q 0 ((5 : Nat) : Int) = some 4 := Lq L rfl
  have j6 : J 0 ((6 : Nat) : Int) = m 76 7 := by rw [hJ 0 (by have := B.1; omega) (by omega)]; exact t1
  unfold jd_153_b83
  rw [y_gr L 0 11 rfl rfl, Option.bind_some, y_gi L 0 11 rfl rfl, Option.bind_some, e1, e5, Option.bind_some, y_ar L 4 6 12 rfl rfl rfl t2 (by omega), Option.bind_some, hb, Option.bind_some, x_ck B.2.1.1 B.2.1.2.1, Option.bind_some, eJ, Option.bind_some, y_gi L 0 11 rfl rfl, Option.bind_some, j6, y_pi L 0 11 rfl rfl, Option.bind_some, y_gi L 0 11 rfl rfl, Option.bind_some, jms_e]
  rfl
theorem c_153 (R : RelH s Q hm I m) (h6 : s.1 ≤ 900000) (hp : 0 ≤ p ∧ p < m 76 1) (ha : Q 1 p = some a) (hn : m 76 7 < 12) : ∃ (b : Nat) (s' : hS) (Q' : hQ) (hm' : hO) (I' J I1 : jM), jd_153_b36 0 (some a) (hh s Q I) = some (.inl (m 76 7 + 1), hh s' Q' I') ∧ Sm (fun o => o ≠ 1004) s Q hm I s' Q' hm' I1 ∧ RelH s' Q' hm' I1 m ∧ Q' 4 (m 76 7) = some b ∧ I' = jms J 0 6 (m 76 7 + 1) ∧ Pix J b (m 77 p) (m 78 p) (fun j => m 79 (864 * p + j)) ∧ (∀ c, c ≠ b → c ≠ b + 1 → J c = I1 c) ∧ s'.1 ≤ s.1 + 2 ∧ s'.2.1 ≤ s.2.1 + 867 := by
  have L := R.1
  obtain ⟨t1, t2, t3, t4, t5⟩ := id R.2.2.2.2.1
  have e1 : I 0 ((6 : Nat) : Int) = m 76 7 := t1
  have e5 : Q 0 ((5 : Nat) : Int) = some 4 := Lq L rfl
  have nw := n_jw (z := m 76 7) (by omega) (by omega)
  cases hq : Q 4 (m 76 7) with
  | some b =>
    obtain ⟨I', J, f1, f2, f3, f4⟩ := c_153b R hp ha hq hn
    refine ⟨b, s, Q, hm, I', J, I, ?_, Sm_refl, R, hq, f2, f3, f4, by omega, by omega⟩
    unfold jd_153_b36
    rw [y_gi L 0 11 rfl rfl, Option.bind_some, e1, nw, if_pos hn, y_gr L 0 11 rfl rfl, Option.bind_some, Option.bind_some, e5, Option.bind_some, y_ar L 4 6 12 rfl rfl rfl t2 (by omega), Option.bind_some, hq, if_neg (by simp), f1]
  | none =>
    have R1 := n_rel (o := 100 + m 76 7) R
    have A1 : PicAt (nSh s) (nRf Q s.1) (nOw hm s.1 (100 + m 76 7)) s.1 (100 + m 76 7) := n_pic L.1
    have R2 := RelH_slot4 R1 ⟨Int.le_refl _, hn⟩ A1
    have S : Sm (fun o => o ≠ 1004) s Q hm I (nSh s) (rms (nRf Q s.1) 4 (m 76 7) (some s.1)) (nOw hm s.1 (100 + m 76 7)) (nIn I s.1) := Sm_trans n_sm (Sm_rms (by rw [Lo R1.1 rfl]; decide))
    have ha2 : rms (nRf Q s.1) 4 (m 76 7) (some s.1) 1 p = some a := by
      rw [(Lay_fr (a := 1) L S (by decide) (by omega)).1]
      exact ha
    obtain ⟨I', J, f1, f2, f3, f4⟩ := c_153b R2 hp ha2 rms_e hn
    refine ⟨s.1, nSh s, rms (nRf Q s.1) 4 (m 76 7) (some s.1), nOw hm s.1 (100 + m 76 7), I', J, nIn I s.1, ?_, S, R2, rms_e, f2, f3, f4, by unfold nSh s_mk; dsimp only; omega, by unfold nSh s_mk; dsimp only; omega⟩
    have hnew := c_new6 (s := s) (Q := Q) (I := I) (by omega)
    obtain ⟨n, h1, h2⟩ : ∃ n, jnw (hh s Q I) 6 = some n ∧ ((jd_94 n.1 n.2).bind fun h => some (n.1, h)) = some (s.1, hh (nSh s) (nRf Q s.1) (nIn I s.1)) := by
      cases hx : jnw (hh s Q I) 6 with
      | none => rw [hx] at hnew; cases hnew
      | some n => rw [hx] at hnew; exact ⟨n, rfl, hnew⟩
    obtain ⟨h', h3, h4⟩ : ∃ h', jd_94 n.1 n.2 = some h' ∧ (n.1, h') = (s.1, hh (nSh s) (nRf Q s.1) (nIn I s.1)) := by
      cases hx : jd_94 n.1 n.2 with
      | none => rw [hx] at h2; cases h2
      | some h' => rw [hx] at h2; exact ⟨h', rfl, Option.some.inj h2⟩
    have h5 : n.1 = s.1 := congrArg Prod.fst h4
    have h7 : h' = hh (nSh s) (nRf Q s.1) (nIn I s.1) := congrArg Prod.snd h4
    unfold jd_153_b36
    rw [y_gi L 0 11 rfl rfl, Option.bind_some, e1, nw, if_pos hn, y_gr L 0 11 rfl rfl, Option.bind_some, Option.bind_some, e5, Option.bind_some, y_ar L 4 6 12 rfl rfl rfl t2 (by omega), Option.bind_some, hq, if_pos rfl, Option.bind_some, Option.bind_some, h1, Option.bind_some, h3, Option.bind_some, Option.bind_some, h5, h7, y_tr R1.1 4 6 12 rfl rfl rfl t2 (by omega) A1.2.1.1 (A1.2.1.2.1.trans rfl), Option.bind_some, f1]
end Reel
