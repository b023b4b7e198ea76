/-! a new picture -/
def nSh (s : hS) : hS := s_mk (s_mk s 3 14 0) 864 0 864
def nRf (Q : hQ) (b : Nat) : hQ := rms (r_mk (r_mk Q b) (b + 1)) b 2 (some (b + 1))
def nIn (I : jM) (b : Nat) : jM := i_mk (jms (jms (i_mk I b) b 0 8) b 1 8) (b + 1)
def nOw (hm : hO) (b : Nat) (o : Int) : hO := fun x => if x = b ∨ x = b + 1 then o else hm x
section Alloc
variable {P : Int → Prop} {s : hS} {Q : hQ} {hm : hO} {I m : jM} {o z : Int} {a b : Nat}
theorem cn_6 : mm_cn 6 = 3 := rfl
theorem c_new6 (h6 : s.1 + 2 ≤ 1000000) : (jnw (hh s Q I) 6).bind (fun n => (jd_94 n.1 n.2).bind fun h => some (n.1, h)) = some (s.1, hh (nSh s) (nRf Q s.1) (nIn I s.1)) := by
  have t1 : (s_mk s 3 14 0).2.2.1 s.1 = 6 + 8 := if_pos rfl
  have l1 : s.1 < (s_mk s 3 14 0).1 := Nat.lt_succ_self _
  rw [x_nw (by omega), Option.bind_some, cn_6]
  unfold jd_94
  rw [x_pi l1 t1, Option.bind_some, x_pi l1 t1, Option.bind_some, x_na (show (s_mk s 3 (6 + 8) 0).1 < 1000000 by unfold s_mk; dsimp only; omega) (by decide) (by decide), Option.bind_some]
  have t2 : (nSh s).2.2.1 s.1 = 6 + 8 := by
    unfold nSh s_mk
    dsimp only
    rw [if_neg (by omega), if_pos rfl]
  have l2 : s.1 < (nSh s).1 := by unfold nSh s_mk; dsimp only; omega
  have := x_pr (R := r_mk (r_mk Q s.1) (s.1 + 1)) (I := nIn I s.1) (k := 2) (q := some (s.1 + 1)) l2 t2
  refine (congrArg (fun q => (q.bind fun h7 => some h7).bind fun h => some (s.1, h)) this).trans ?_
  rfl
theorem n_lt (h : a < s.1) : (nSh s).2.2.1 a = s.2.2.1 a ∧ (nSh s).2.2.2 a = s.2.2.2 a ∧ nRf Q s.1 a = Q a ∧ nIn I s.1 a = I a ∧ nOw hm s.1 o a = hm a := by
  have h1 : a ≠ s.1 := by omega
  have h2 : a ≠ s.1 + 1 := by omega
  refine ⟨?_, ?_, ?_, ?_, ?_⟩
  · unfold nSh s_mk
    dsimp only
    rw [if_neg h2, if_neg h1]
  · unfold nSh s_mk
    dsimp only
    rw [if_neg h2, if_neg h1]
  · unfold nRf rms r_mk
    rw [if_neg h1, if_neg h2, if_neg h1]
  · unfold nIn i_mk
    rw [if_neg h2, jms_o h1, jms_o h1]
    exact if_neg h1
  · unfold nOw
    exact if_neg (by omega)
theorem n_sm : Sm P s Q hm I (nSh s) (nRf Q s.1) (nOw hm s.1 o) (nIn I s.1) := ⟨by unfold nSh s_mk; dsimp only; omega, fun a h1 _ => n_lt h1⟩
theorem n_pic (hs : 153 ≤ s.1) : PicAt (nSh s) (nRf Q s.1) (nOw hm s.1 o) s.1 o := by
  have e1 : s.1 ≠ s.1 + 1 := by omega
  refine ⟨hs, ⟨by unfold nSh s_mk; dsimp only; omega, ?_, ?_, if_pos (Or.inl rfl)⟩, ⟨by unfold nSh s_mk; dsimp only; omega, ?_, ?_, if_pos (Or.inr rfl)⟩, ?_⟩
  · unfold nSh s_mk
    dsimp only
    rw [if_neg e1, if_pos rfl]
  · unfold nSh s_mk
    dsimp only
    rw [if_neg e1, if_pos rfl]
  · unfold nSh s_mk
    dsimp only
    rw [if_pos rfl]
  · unfold nSh s_mk
    dsimp only
    rw [if_pos rfl]
  · unfold nRf rms
    rw [if_pos rfl]
    exact if_pos rfl
theorem n_lay (L : Lay s Q hm) : Lay (nSh s) (nRf Q s.1) (nOw hm s.1 o) := by
  obtain ⟨l1, l2, l3, l4⟩ := L
  refine ⟨by unfold nSh s_mk; dsimp only; omega, fun a ha => ?_, fun a h1 h2 => ?_, fun a k b e => ?_⟩
  · exact (Ce_fr (Q := Q) (I := fun _ _ => 0) (P := fun _ => True) n_sm (l2 a ha) trivial).1
  · rw [(n_lt (Q := Q) (I := fun _ _ => 0) (o := o) (hm := hm) (show a < s.1 by omega)).2.2.2.2]
    exact l3 a h1 h2
  · rw [(n_lt (Q := Q) (I := fun _ _ => 0) (o := o) (hm := hm) (show a < s.1 by have := sq_lt e; omega)).2.2.1]
    exact l4 a k b e
theorem n_rel (R : RelH s Q hm I m) : RelH (nSh s) (nRf Q s.1) (nOw hm s.1 o) (nIn I s.1) m := RelH_fr (P := fun _ => True) n_sm (fun _ _ => trivial) (n_lay R.1) Mm_refl R
theorem Lay_rmsN {q : Option Nat} (L : Lay s Q hm) (hk : ∀ k b, sq a k ≠ some b) : Lay s (rms Q a z q) hm := by
  obtain ⟨l1, l2, l3, l4⟩ := L
  refine ⟨l1, l2, l3, fun a' k' b e => ?_⟩
  unfold rms
  by_cases h : a' = a
  · subst h
    exact absurd e (hk k' b)
  · rw [if_neg h]
    exact l4 a' k' b e
theorem sq_1 (k b : Nat) : sq 1 k ≠ some b := by
  intro h
  unfold sq at h
  split at h <;> simp_all
theorem sq_4 (k b : Nat) : sq 4 k ≠ some b := by
  intro h
  unfold sq at h
  split at h <;> simp_all
theorem sq_37 (k b : Nat) : sq 37 k ≠ some b := by
  intro h
  unfold sq at h
  split at h <;> simp_all
theorem rms_e {q : Option Nat} : rms Q a z q a z = q := by unfold rms jru; rw [if_pos rfl, if_pos rfl]
theorem rms_i {q : Option Nat} {y : Int} (h : y ≠ z) : rms Q a z q b y = Q b y := by
  unfold rms jru
  by_cases hb : b = a
  · subst hb
    rw [if_pos rfl, if_neg h]
  · rw [if_neg hb]
theorem rms_o {q : Option Nat} (h : b ≠ a) : rms Q a z q b = Q b := if_neg h
/-- a picture put into a free place of the pictures -/
theorem RelH_slot1 (R : RelH s Q hm I m) (hz : m 76 1 ≤ z ∧ z < 60) (A : PicAt s Q hm b z) : RelH s (rms Q 1 z (some b)) hm I m := by
  have S : Sm (fun o => o ≠ 1001) s Q hm I s (rms Q 1 z (some b)) hm I := Sm_rms (by rw [Lo R.1 rfl]; decide)
  have PA : ∀ {a : Nat} {o : Int}, PicAt s Q hm a o → o ≠ 1001 → PicAt s (rms Q 1 z (some b)) hm a o := fun h p => (PicAt_fr S h p).1
  obtain ⟨L, r1, r2, r3, r4, r5, r6, r7, r8, r9⟩ := R
  obtain ⟨t1, t2, t3, t4, t5⟩ := r1
  refine ⟨Lay_rmsN L sq_1, ⟨t1, t2, t3, fun i h1 h2 => ?_, fun i h1 h2 => ?_⟩, r2, r3, RRee_fr L S (by omega) (fun i _ _ => by omega) rfl rfl rfl rfl rfl r4, RFil_fr L S (by omega) (fun i _ _ => by omega) (fun i _ _ => by omega) (fun i _ _ => by omega) rfl rfl (fun _ _ _ => rfl) r5, r6, RFlt_fr L S (by omega) (fun i _ _ => by omega) rfl rfl rfl rfl rfl r7, RPly_fr L S (by omega) (fun i _ _ => by omega) (fun i _ _ => by omega) rfl (fun _ _ _ => rfl) (fun _ _ _ => rfl) r9 r8, RMis_fr L S (by omega) (by omega) (by omega) (fun i _ _ => by omega) (fun i _ _ => by omega) (fun i _ _ => by omega) r9⟩
  · by_cases hi : i = z
    · subst hi
      rw [rms_e]
      intro a ha
      cases ha
      exact PA A (by omega)
    · rw [rms_i hi]
      intro a ha
      exact PA (t4 i h1 h2 a ha) (by omega)
  · obtain ⟨a, ha, X⟩ := t5 i h1 h2
    exact ⟨a, by rw [rms_i (by omega)]; exact ha, X⟩
/-- freePicture -/
theorem c_194 (R : RelH s Q hm I m) (h6 : s.1 ≤ 900000) (hn : m 76 1 < 60) : ∃ (a : Nat) (s' : hS) (Q' : hQ) (hm' : hO) (I' : jM), jd_194 0 (hh s Q I) = some (.inl a, hh s' Q' I') ∧ Q' 1 (m 76 1) = some a ∧ PicAt s' Q' hm' a (m 76 1) ∧ Sm (fun o => o ≠ 1001) s Q hm I s' Q' hm' I' ∧ RelH s' Q' hm' I' m ∧ s'.1 ≤ s.1 + 2 ∧ s'.2.1 ≤ s.2.1 + 867 := by
  have L := R.1
  obtain ⟨t1, t2, t3, t4, t5⟩ := id R.2.1
  have e1 : I 0 ((1 : Nat) : Int) = m 76 1 := t1
  have e2 : Q 0 ((0 : Nat) : Int) = some 1 := Lq L rfl
  have nw := n_jw (z := m 76 1) (by omega) (by omega)
  have rd : ∀ {s : hS} {Q : hQ} {hm : hO} {I : jM}, RelH s Q hm I m → jar (hh s Q I) 1 6 (m 76 1) = some (Q 1 (m 76 1)) := fun R => y_ar R.1 1 6 60 rfl rfl rfl t2 (by omega)
  have fin : ∀ {s : hS} {Q : hQ} {hm : hO} {I : jM} {a : Nat}, RelH s Q hm I m → Q 1 (m 76 1) = some a → jd_194_b48 0 (hh s Q I) = some (.inl a, hh s Q I) := by
    intro s Q hm I a R ha
    have e1 : I 0 ((1 : Nat) : Int) = m 76 1 := R.2.1.1
    have e2 : Q 0 ((0 : Nat) : Int) = some 1 := Lq R.1 rfl
    unfold jd_194_b48
    rw [y_gr R.1 0 11 rfl rfl, Option.bind_some, y_gi R.1 0 11 rfl rfl, Option.bind_some, e1, e2, Option.bind_some, rd R, Option.bind_some, ha, Option.bind_some]
  cases hq : Q 1 (m 76 1) with
  | some a =>
    refine ⟨a, s, Q, hm, I, ?_, hq, t4 _ t2 hn a hq, Sm_refl, R, by omega, by omega⟩
    unfold jd_194
    rw [y_gi L 0 11 rfl rfl, Option.bind_some, e1, nw, if_pos hn, y_gr L 0 11 rfl rfl, Option.bind_some, Option.bind_some, e2, Option.bind_some, rd R, Option.bind_some, hq, if_neg (by simp), fin R hq]
  | none =>
    have R1 := n_rel (o := m 76 1) R
    have A1 : PicAt (nSh s) (nRf Q s.1) (nOw hm s.1 (m 76 1)) s.1 (m 76 1) := n_pic L.1
    have R2 := RelH_slot1 R1 ⟨Int.le_refl _, hn⟩ A1
    have S : Sm (fun o => o ≠ 1001) s Q hm I (nSh s) (rms (nRf Q s.1) 1 (m 76 1) (some s.1)) (nOw hm s.1 (m 76 1)) (nIn I s.1) := Sm_trans n_sm (Sm_rms (by rw [Lo R1.1 rfl]; decide))
    refine ⟨s.1, nSh s, rms (nRf Q s.1) 1 (m 76 1) (some s.1), nOw hm s.1 (m 76 1), nIn I s.1, ?_, rms_e, R2.2.1.2.2.2.1 _ t2 hn _ rms_e, S, R2, by unfold nSh s_mk; dsimp only; omega, by unfold nSh s_mk; dsimp only; omega⟩
    have hnew := c_new6 (s := s) (Q := Q) (I := I) (by omega)
    obtain ⟨n, h1, h2⟩ : ∃ n, jnw (hh s Q I) 6 = some n ∧ ((jd_94 n.1 n.2).bind fun h => some (n.1, h)) = some (s.1, hh (nSh s) (nRf Q s.1) (nIn I s.1)) := by
      cases hx : jnw (hh s Q I) 6 with
      | none => rw [hx] at hnew; cases hnew
      | some n => rw [hx] at hnew; exact ⟨n, rfl, hnew⟩
    obtain ⟨h', h3, h4⟩ : ∃ h', jd_94 n.1 n.2 = some h' ∧ (n.1, h') = (s.1, hh (nSh s) (nRf Q s.1) (nIn I s.1)) := by
      cases hx : jd_94 n.1 n.2 with
      | none => rw [hx] at h2; cases h2
      | some h' => rw [hx] at h2; exact ⟨h', rfl, Option.some.inj h2⟩
    have h5 : n.1 = s.1 := congrArg Prod.fst h4
    have h7 : h' = hh (nSh s) (nRf Q s.1) (nIn I s.1) := congrArg Prod.snd h4
    unfold jd_194
    rw [y_gi L 0 11 rfl rfl, Option.bind_some, e1, nw, if_pos hn, y_gr L 0 11 rfl rfl, Option.bind_some, Option.bind_some, e2, Option.bind_some, rd R, Option.bind_some, hq, if_pos rfl, Option.bind_some, Option.bind_some, h1, Option.bind_some, h3, Option.bind_some, Option.bind_some, h5, h7, y_tr R1.1 1 6 60 rfl rfl rfl t2 (by omega) A1.2.1.1 (A1.2.1.2.1.trans rfl), Option.bind_some, fin R2 rms_e]
theorem c_194n (R : RelH s Q hm I m) (h6 : s.1 < 1000000) (hn : ¬ m 76 1 < 60) : jd_194 0 (hh s Q I) = some (.inr 1, jth (hh s Q I) 1) := by
  have L := R.1
  obtain ⟨t1, t2, t3, t4, t5⟩ := id R.2.1
  have e1 : I 0 ((1 : Nat) : Int) = m 76 1 := t1
  unfold jd_194
  rw [y_gi L 0 11 rfl rfl, Option.bind_some, e1, n_jw (z := m 76 1) (by omega) (by omega), if_neg hn, x_6 h6, Option.bind_some]
end Alloc
