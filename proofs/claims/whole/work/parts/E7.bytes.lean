/-! the tape's bytes put into an emptied film -/
section Bytes
variable {P : Int → Prop} {s s' : hS} {Q Q' : hQ} {hm : hO} {I I' m : jM} {f n sp v : Int} {a b : Nat} {r : Option Nat}
theorem c_23_of {h h1 : jH} (e1 : jgi h a 2 6 = some v) (e2 : jck h a 2 = some ()) (e3 : jd_25 a (v + n) h = some h1) (d1 : jgi h1 a 2 6 = some v) (d2 : jck h1 a 2 = some ()) (d3 : jd_25 a (v + n) h1 = some h1) : jd_23 a r sp n h = jd_23 a r sp n h1 := by
  unfold jd_23
  simp only [e1, e2, e3, d1, d2, d3, Option.bind_some]
def bOw (hm : hO) (b : Nat) (f : Int) : hO := fun x => if x = b then 540 + f else hm x
theorem Row_new (f0 : 0 ≤ f) (f8 : f < 8) (L : Lay s Q hm) (F : FilmAt s Q hm a f) : Lay (s_mk s 4000 1 4000) (rms (r_mk Q s.1) a 5 (some s.1)) (bOw hm s.1 f) ∧ FilmAt (s_mk s 4000 1 4000) (rms (r_mk Q s.1) a 5 (some s.1)) (bOw hm s.1 f) a f ∧ Sm (fun o => o ≠ 500 + f) s Q hm I (s_mk s 4000 1 4000) (rms (r_mk Q s.1) a 5 (some s.1)) (bOw hm s.1 f) (i_mk I s.1) := by
  have S0 : ∀ {P : Int → Prop}, Sm P s Q hm I (s_mk s 4000 1 4000) (r_mk Q s.1) (bOw hm s.1 f) (i_mk I s.1) := fun {P} => ⟨Nat.le_succ _, fun x hx _ => by
    have nx : x ≠ s.1 := Nat.ne_of_lt hx
    exact ⟨if_neg nx, if_neg nx, if_neg nx, if_neg nx, if_neg nx⟩⟩
  have F0 := (FilmAt_fr (S0 (P := fun _ => True)) ⟨f0, f8⟩ (fun _ _ _ => trivial) (fun _ _ _ => trivial) (fun _ _ _ => trivial) F).1
  have c0 : Ce (s_mk s 4000 1 4000) (bOw hm s.1 f) a 10 0 (500 + f) := F0.2.1 0 (by decide)
  have a153 := F.1
  obtain ⟨l1, l2, l3, l4⟩ := L
  refine ⟨⟨Nat.le_succ_of_le l1, fun x hx => (Ce_fr (S0 (P := fun _ => True)) (l2 x hx) trivial).1, fun x h1 h2 => ?_, fun x k b e => ?_⟩, ⟨F.1, F0.2.1, fun j hj => ?_, fun b hb => ?_, fun k k0 k1 => ?_⟩, Sm_trans S0 (Sm_rms (fun e => e c0.2.2.2))⟩
  · rw [← l3 x h1 h2]
    exact if_neg (by omega)
  · have := sq_lt e
    rw [rms_o (by omega), ← l4 x k b e]
    exact congrFun (if_neg (by omega)) _
  · rw [rms_i (by omega)]
    exact F0.2.2.1 j hj
  · rw [rms_e] at hb
    cases hb
    exact ⟨l1, 4000, Or.inl rfl, Nat.lt_succ_self _, if_pos rfl, if_pos rfl, if_pos rfl⟩
  · rw [rms_o (by omega)]
    intro x hx
    have A := F0.2.2.2.2 k k0 k1 x hx
    refine PicAt_rmsf A (fun e => ?_)
    have h2 := A.2.1.2.1
    rw [e, c0.2.1] at h2
    exact absurd h2 (by decide)
/-- what stands when the bytes are in -/
def Rd23 (a : Nat) (f n : Int) (s : hS) (Q : hQ) (hm : hO) (I : jM) (s' : hS) (Q' : hQ) (hm' : hO) (I' : jM) (b : Nat) : Prop := Lay s' Q' hm' ∧ FilmAt s' Q' hm' a f ∧ Sm (fun o => o ≠ 500 + f ∧ o ≠ 540 + f) s Q hm I s' Q' hm' I' ∧ (Q' a 5 = some b ∧ n ≤ ((s'.2.2.2 b : Nat) : Int) ∧ ∀ j : Int, 0 ≤ j → j < n → I' b j = I 2 j) ∧ (I' a 6 = n ∧ ∀ y : Int, y ≠ 6 → I' a y = I a y) ∧ (∀ x : Nat, x < s.1 → x ≠ a → hm x ≠ 540 + f → I' x = I x) ∧ (∀ x : Nat, x < s.1 → x ≠ a → Q' x = Q x) ∧ (∀ x : Nat, x < s.1 → hm' x = hm x ∧ s'.2.2.1 x = s.2.2.1 x ∧ s'.2.2.2 x = s.2.2.2 x) ∧ s'.1 ≤ s.1 + 1 ∧ s'.2.1 ≤ s.2.1 + 4000
theorem c_23b (f0 : 0 ≤ f) (f8 : f < 8) (L : Lay s Q hm) (F : FilmAt s Q hm a f) (h6 : s.1 ≤ 1000000) (hb : Q a 5 = some b) (hl : I a 6 = 0) (n0 : 0 ≤ n) (n1 : n ≤ 4000) : ∃ I', jd_23 a (some 2) 0 n (hh s Q I) = some (hh s Q I') ∧ Rd23 a f n s Q hm I s Q hm I' b := by
  obtain ⟨b153, k, hk, b1, b2, b3, b4⟩ := F.2.2.2.1 b hb
  have c0 : Ce s hm a 10 0 (500 + f) := F.2.1 0 (by decide)
  have ba : b ≠ a := fun e => by
    rw [e, c0.2.1] at b2
    exact absurd b2 (by decide)
  have g2 : Ce s hm 2 1 4000 (1000 + ((2 : Nat) : Int)) := L.2.1 2 (by decide)
  have e := c_23e (n := n) (sp := 0) (len := 0) (c := 2) F h6 hb hl (Int.le_refl _) n0 (Int.le_refl _) (by rw [b3]; omega) g2.1 g2.2.1 (by rw [g2.2.2.1]; omega) (by rw [g2.2.2.1]; decide) ba
  refine ⟨_, e, L, F, ?_, ⟨hb, by rw [b3]; omega, fun j j0 j1 => ?_⟩, ⟨?_, fun y hy => ?_⟩, fun x x1 x2 x3 => ?_, fun _ _ _ => rfl, fun _ _ => ⟨rfl, rfl, rfl⟩, Nat.le_succ _, Nat.le_add_right _ _⟩
  · exact Sm_trans (Sm_ims (fun e => e.2 b4)) (Sm_jms (fun e => e.1 c0.2.2.2))
  · rw [jms_o ba, ims_e, if_pos (by omega), show (0 : Int) + (j - 0) = j by omega]
  · rw [jms_e, Int.zero_add]
  · rw [jms_i hy, ims_o (fun e => ba e.symm)]
  · rw [jms_o x2, ims_o (fun e => x3 (by rw [e]; exact b4))]
theorem c_23r (f0 : 0 ≤ f) (f8 : f < 8) (L : Lay s Q hm) (F : FilmAt s Q hm a f) (h6 : s.1 < 1000000) (hl : I a 6 = 0) (n0 : 0 ≤ n) (n1 : n ≤ 4000) : ∃ (s' : hS) (Q' : hQ) (hm' : hO) (I' : jM) (b : Nat), jd_23 a (some 2) 0 n (hh s Q I) = some (hh s' Q' I') ∧ Rd23 a f n s Q hm I s' Q' hm' I' b := by
  cases hb : Q a 5 with
  | some b =>
    obtain ⟨I', e, X⟩ := c_23b f0 f8 L F (Nat.le_of_lt h6) hb hl n0 n1
    exact ⟨s, Q, hm, I', b, e, X⟩
  | none =>
    obtain ⟨L1, F1, S1⟩ := Row_new (I := I) f0 f8 L F
    have c0 : Ce s hm a 10 0 (500 + f) := F.2.1 0 (by decide)
    have na : a ≠ s.1 := Nat.ne_of_lt c0.1
    have b1 : rms (r_mk Q s.1) a 5 (some s.1) a 5 = some s.1 := rms_e
    have l1 : i_mk I s.1 a 6 = 0 := (congrFun (if_neg na) _).trans hl
    have h6' : (s_mk s 4000 1 4000).1 ≤ 1000000 := h6
    have ln : (s_mk s 4000 1 4000).2.2.2 s.1 = 4000 := if_pos rfl
    obtain ⟨I', e, x1, x2, x3, x4, x5, x6, x7, x8, x9, xa⟩ := c_23b f0 f8 L1 F1 h6' b1 l1 n0 n1
    have i2 : i_mk I s.1 2 = I 2 := if_neg (by have := L.1; omega)
    refine ⟨s_mk s 4000 1 4000, rms (r_mk Q s.1) a 5 (some s.1), bOw hm s.1 f, I', s.1, ?_, x1, x2, Sm_trans (Sm_mono S1 (fun o h => h.1)) x3, ⟨x4.1, x4.2.1, fun j j0 j1 => by rw [x4.2.2 j j0 j1, i2]⟩, ⟨x5.1, fun y hy => by rw [x5.2 y hy]; exact congrFun (if_neg na) _⟩, fun x g1 g2 g3 => ?_, fun x g1 g2 => ?_, fun x g1 => ?_, Nat.le_refl _, Nat.le_refl _⟩
    · rw [← e]
      refine c_23_of (v := 0) (by rw [F_gi F]; exact congrArg some hl) (F_ck F) ?_ (by rw [F_gi F1]; exact congrArg some l1) (F_ck F1) ?_
      · rw [Int.zero_add]
        exact c_25n F h6 hb n0 n1
      · rw [Int.zero_add]
        exact c_25e F1 h6' b1 ⟨by omega, by omega⟩ (by rw [ln]; exact n1)
    · have nx : x ≠ s.1 := Nat.ne_of_lt g1
      rw [x6 x (Nat.lt_succ_of_lt g1) g2 (by rw [show bOw hm s.1 f x = hm x from if_neg nx]; exact g3)]
      exact if_neg nx
    · rw [rms_o g2]
      exact if_neg (Nat.ne_of_lt g1)
    · have nx : x ≠ s.1 := Nat.ne_of_lt g1
      exact ⟨if_neg nx, if_neg nx, if_neg nx⟩
end Bytes
