/-! the three planes of waves -/
section Waves
variable {s : hS} {Q : hQ} {hm : hO} {I m : jM} {A p : Nat} {base i en w h k : Int}
def fR (p : Nat) (I I' : jM) : Prop := ∀ a : Nat, a ≠ 9 → a ≠ 10 → a ≠ 22 → a ≠ 23 → a ≠ p + 1 → I' a = I a
theorem fR_t {I1 I2 I3 : jM} (a : fR p I1 I2) (b : fR p I2 I3) : fR p I1 I3 := fun x h0 h1 h2 h3 h4 => (b x h0 h1 h2 h3 h4).trans (a x h0 h1 h2 h3 h4)
theorem fR_P {I I' : jM} (a : fP p I I') : fR p I I' := fun x _ h1 h2 h3 h4 => a x h1 h2 h3 h4
theorem fR_9 {I : jM} {k v : Int} : fR p I (jms I 9 k v) := fun x h0 _ _ _ _ => jms_o h0
/-- planes ahead of sp alike in the class's row and in the model's -/
def PxE (p : Nat) (w h k sp : Int) (I m : jM) : Prop := ∀ q j : Int, 0 ≤ q → q < sp → 0 ≤ j → j < pw w q * pw h q → I (p + 1) (pb w h q + j) = m 109 (864 * k + (pf q + j)) ∧ 0 ≤ m 109 (864 * k + (pf q + j)) ∧ m 109 (864 * k + (pf q + j)) ≤ 255
def dO (k : Int) (m m' : jM) : Prop := ∀ j : Int, j < 864 * k ∨ 864 * k + 864 ≤ j → m' 109 j = m 109 j
def wvPost (s : hS) (Q : hQ) (I m : jM) (A p : Nat) (base en w h k : Int) (x : (Int × jH) ⊕ jH) (y : Int × jM) : Prop := ∃ f sp I' m', y = (sp, m') ∧ ((x = .inl (f, hh s Q I') ∧ 1 ≤ f ∧ sp ≤ 2 ∧ I' 9 6 = sp) ∨ (x = .inr (hh s Q I') ∧ f = 0 ∧ sp = 3)) ∧ m' 76 52 = f ∧ f ≤ 7 ∧ 0 ≤ sp ∧ fR p I I' ∧ fQ m m' ∧ (f = 0 → ∃ i', BM s Q I' m' 10 A base i' en) ∧ PxE p w h k sp I' m' ∧ dO k m m'
theorem waves_l (L : Lay s Q hm) (h6 : s.1 ≤ 1000000) (P : PcC s Q p) (hw : I p 0 = w) (hv : I p 1 = h) (sw : isSd w) (sh : isSd h) (mw : m 76 33 = w) (mh : m 76 34 = h) (k0 : 0 ≤ k) (k1 : k < 12) (R : BM s Q I m 10 A base i en) : ∃ x y, jd_121_l2 9 (some p) 0 (hh s Q I) = some x ∧ jd_275_l2 k 0 m = some y ∧ wvPost s Q I m A p base en w h k x y := by
  have P1 := P.1
  have q0 : Q 9 ((0 : Nat) : Int) = some 10 := Lq L rfl
  have q2 : Q 9 ((2 : Nat) : Int) = some 21 := Lq L rfl
  unfold jd_121_l2 jd_275_l2
  refine w_lp3 (Q := wvPost s Q I m A p base en w h k) (fun n u t => ∃ I' m' i', u = ((n : Int), hh s Q I') ∧ t = ((n : Int), m') ∧ fR p I I' ∧ fQ m m' ∧ BM s Q I' m' 10 A base i' en ∧ PxE p w h k n I' m' ∧ dO k m m') 3 (fun n u t hn hu => ?_) (n_fu (by omega)) (n_fu (by omega)) ⟨I, m, i, rfl, rfl, fun _ _ _ _ _ _ => rfl, ⟨fun _ _ _ _ _ _ => rfl, fun _ _ => rfl⟩, R, fun q j h0 h1 => absurd h1 (by omega), fun _ _ => rfl⟩
  obtain ⟨I', m', i', rfl, rfl, f1, f2, R', px, dd⟩ := hu
  have gp : I' p = I p := f1 p (by omega) (by omega) (by omega) (by omega) (by omega)
  by_cases c : n = 3
  · subst c
    right
    refine ⟨.inr (hh s Q I'), (3, m'), ?_, fun e => ?_, 0, 3, I', m', rfl, Or.inr ⟨rfl, rfl, rfl⟩, R'.2.1.1, by decide, by decide, f1, f2, fun _ => ⟨i', R'⟩, px, dd⟩
    · unfold jd_121_s2
      exact if_pos (by show (3 : Int) ≤ jw ((3 : Nat) : Int); decide)
    · refine jlp_1 (e := e + 1) ?_
      unfold jd_275_s2
      exact if_pos (by show (3 : Int) ≤ jw ((3 : Nat) : Int); decide)
  · have n3 : n < 3 := by omega
    have g9 : jms I' 9 6 (n : Int) p = I p := (jms_o (by omega)).trans gp
    have R9 : BM s Q (jms I' 9 6 (n : Int)) m' 10 A base i' en := BM_fr R' (jms_o (BM_A L R rfl (by decide))) (by rw [jms_o (by decide)]) (by rw [jms_o (by decide)]) rfl rfl rfl rfl rfl
    obtain ⟨f, I2, m2, e1, e2, a1, a2, a3, a4, a5, a6, a7⟩ := wplane (I := jms I' 9 6 (n : Int)) (m := m') (pl := (n : Int)) L h6 P (by rw [g9]; exact hw) (by rw [g9]; exact hv) sw sh ((f2.2 33 (by decide)).trans mw) ((f2.2 34 (by decide)).trans mh) (by omega) (by omega) k0 k1 R9
    have C1 : jd_121_s2 9 (some p) (n : Int) (hh s Q I') = (if jw f = 0 then some (.inl ((n : Int) + 1, hh s Q I2)) else some (.inr (.inl (f, hh s Q I2)))) := by
      unfold jd_121_s2
      rw [n_jw (z := (n : Int)) (by omega) (by omega), if_neg (by omega), y_pi L 9 8 rfl rfl, Option.bind_some, y_gr L 9 8 rfl rfl, Option.bind_some, y_gr L 9 8 rfl rfl, Option.bind_some, q2, Option.bind_some, y_ck L 21 10 rfl rfl, Option.bind_some, q0]
      refine (congrArg (fun o => Option.bind o _) e1).trans ?_
      rw [Option.bind_some]
    have M1 : jd_275_s2 k (n : Int) m' = some (.inl ((if jw (m2 76 52) = 0 then (n : Int) + 1 else (n : Int)), m2)) := by
      unfold jd_275_s2
      rw [n_jw (z := (n : Int)) (by omega) (by omega), if_neg (by omega), if_pos (BM_b0 R'), e2, Option.bind_some]
    have sz := pl_sz (p := (n : Int)) sw sh (by omega) (by omega)
    have fr2 : fR p I I2 := fR_t f1 (fR_t fR_9 (fR_P a1))
    have fq2 : fQ m m2 := fQ_t f2 a2
    by_cases c0 : f = 0
    · left
      obtain ⟨⟨i2, R2⟩, V, vb, wI, wm⟩ := a6 c0
      rw [c0, if_pos (by decide)] at C1
      rw [a3, c0, if_pos (by decide)] at M1
      refine ⟨_, _, C1, M1, by omega, I2, m2, i2, by rw [show ((n + 1 : Nat) : Int) = (n : Int) + 1 by omega], by rw [show ((n + 1 : Nat) : Int) = (n : Int) + 1 by omega], fr2, fq2, R2, fun q j h0 h1 h2 h3 => ?_, fun j hj => ?_⟩
      · rw [jms_o (by omega)] at wI
        rw [wI, wm]
        by_cases cq : q = n
        · subst cq
          have k1' := wf_k (ix := fun j => pb w h (n : Int) + j) (v := fun j _ => V j) (g := I' (p + 1)) (n := (pw w (n : Int) * pw h (n : Int)).toNat) (k := j.toNat) (by omega) (fun l _ _ => by omega)
          have k2' := wf_k (ix := fun j => 864 * k + pf (n : Int) + j) (v := fun j _ => V j) (g := m' 109) (n := (pw w (n : Int) * pw h (n : Int)).toNat) (k := j.toNat) (by omega) (fun l _ _ => by omega)
          rw [show ((j.toNat : Nat) : Int) = j by omega] at k1' k2'
          rw [← Int.add_assoc, k1', k2']
          exact ⟨rfl, vb j h2 h3⟩
        · have ne := fun l : Nat => fun hl : l < (pw w (n : Int) * pw h (n : Int)).toNat => pl_ne (p := q) (q := (n : Int)) (k := j) (j := (l : Int)) sw sh h0 (by omega) (by omega) (by omega) cq h2 h3 (by omega) (by omega)
          rw [wf_o (fun l hl => (ne l hl).1), wf_o (fun l hl => by have := (ne l hl).2; omega)]
          exact px q j h0 (by omega) h2 h3
      · rw [wm, wf_o (fun l hl => by omega)]
        exact dd j hj
    · right
      obtain ⟨wI, wm⟩ := a7 c0
      rw [n_jw (by omega) (by omega), if_neg c0] at C1
      rw [if_neg (br_0 a3 (by omega) (by omega))] at M1
      refine ⟨_, ((n : Int), m2), C1, fun e => jlp_2 (f := fun u : (Int × jM) => jd_275_s2 k u.1 u.2) (t := ((n : Int), m')) (t' := ((n : Int), m2)) M1 ?_ e, f, n, I2, m2, rfl, Or.inl ⟨rfl, by omega, by omega, ?_⟩, a3, a5, by omega, fr2, fq2, fun hf => absurd hf c0, fun q j h0 h1 h2 h3 => ?_, fun j hj => ?_⟩
      · unfold jd_275_s2
        rw [n_jw (z := (n : Int)) (by omega) (by omega), if_neg (by omega), if_neg (br_0 a3 (by omega) (by omega))]
      · rw [a1 9 (by decide) (by decide) (by decide) (by omega)]
        exact jms_e
      · rw [wI, wm, jms_o (by omega)]
        exact px q j h0 h1 h2 h3
      · rw [wm]
        exact dd j hj
end Waves
