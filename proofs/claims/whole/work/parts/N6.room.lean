/-! making: room for a film's bytes, class -/
section RoomM
variable {s : hS} {Q : hQ} {hm : hO} {I m : jM} {a b : Nat} {f p len : Int}
/-- how large the row of a film's bytes is: none, small, large -/
def bzR (s : hS) (Q : hQ) (a : Nat) : Nat := match Q a 5 with
  | none => 0
  | some b => if s.2.2.2 b = 4000 then 1 else 2
theorem bzR_n (h : Q a 5 = none) : bzR s Q a = 0 := by
  unfold bzR
  rw [h]
theorem bzR_s (h : Q a 5 = some b) (hb : s.2.2.2 b = 4000) : bzR s Q a = 1 := by
  unfold bzR
  rw [h]
  exact if_pos hb
theorem bzR_l (h : Q a 5 = some b) (hb : ¬ s.2.2.2 b = 4000) : bzR s Q a = 2 := by
  unfold bzR
  rw [h]
  exact if_neg hb
theorem bzR_2 : bzR s Q a ≤ 2 := by
  cases h : Q a 5 with
  | none => rw [bzR_n h]; omega
  | some b =>
    by_cases c : s.2.2.2 b = 4000
    · rw [bzR_s h c]; omega
    · rw [bzR_l h c]; omega
def RM (a : Nat) (f : Int) (s : hS) (Q : hQ) (hm : hO) (I : jM) (s' : hS) (Q' : hQ) (hm' : hO) (I' : jM) : Prop := Lay s' Q' hm' ∧ FilmAt s' Q' hm' a f ∧ (∀ x : Nat, x < s.1 → x ≠ a → Q' x = Q x) ∧ (∀ z : Int, z ≠ 5 → Q' a z = Q a z) ∧ (∀ x : Nat, x < s.1 → I' x = I x ∧ hm' x = hm x ∧ s'.2.2.1 x = s.2.2.1 x ∧ s'.2.2.2 x = s.2.2.2 x) ∧ s.1 ≤ s'.1 ∧ s'.1 + bzR s Q a ≤ s.1 + bzR s' Q' a ∧ s'.2.1 + 24067 * bzR s Q a ≤ s.2.1 + 24067 * bzR s' Q' a
theorem Row_nw {n : Nat} {I : jM} (hn : n = 4000 ∨ n = 24067) (f0 : 0 ≤ f) (f8 : f < 8) (L : Lay s Q hm) (F : FilmAt s Q hm a f) : Lay (s_mk s n 1 n) (rms (r_mk Q s.1) a 5 (some s.1)) (bOw hm s.1 f) ∧ FilmAt (s_mk s n 1 n) (rms (r_mk Q s.1) a 5 (some s.1)) (bOw hm s.1 f) a f := by
  have S0 : ∀ {P : Int → Prop}, Sm P s Q hm I (s_mk s n 1 n) (r_mk Q s.1) (bOw hm s.1 f) (i_mk I s.1) := fun {P} => ⟨Nat.le_succ _, fun x hx _ => by
    have nx : x ≠ s.1 := Nat.ne_of_lt hx
    exact ⟨if_neg nx, if_neg nx, if_neg nx, if_neg nx, if_neg nx⟩⟩
  have F0 := (FilmAt_fr (S0 (P := fun _ => True)) ⟨f0, f8⟩ (fun _ _ _ => trivial) (fun _ _ _ => trivial) (fun _ _ _ => trivial) F).1
  have c0 : Ce (s_mk s n 1 n) (bOw hm s.1 f) a 10 0 (500 + f) := F0.2.1 0 (by decide)
  have a153 := F.1
  obtain ⟨l1, l2, l3, l4⟩ := L
  refine ⟨⟨Nat.le_succ_of_le l1, fun x hx => (Ce_fr (S0 (P := fun _ => True)) (l2 x hx) trivial).1, fun x h1 h2 => ?_, fun x k b e => ?_⟩, ⟨F.1, F0.2.1, fun j hj => ?_, fun b hb => ?_, fun k k0 k1 => ?_⟩⟩
  · rw [← l3 x h1 h2]
    exact if_neg (by omega)
  · have := sq_lt e
    rw [rms_o (by omega), ← l4 x k b e]
    exact congrFun (if_neg (by omega)) _
  · rw [rms_i (by omega)]
    exact F0.2.2.1 j hj
  · rw [rms_e] at hb
    cases hb
    exact ⟨l1, n, hn, Nat.lt_succ_self _, if_pos rfl, if_pos rfl, if_pos rfl⟩
  · rw [rms_o (by omega)]
    intro x hx
    have A := F0.2.2.2.2 k k0 k1 x hx
    refine PicAt_rmsf A (fun e => ?_)
    have h2 := A.2.1.2.1
    rw [e, c0.2.1] at h2
    exact absurd h2 (by decide)
theorem RM_nw {n : Nat} {J : jM} (hn : n = 4000 ∨ n = 24067) (f0 : 0 ≤ f) (f8 : f < 8) (L : Lay s Q hm) (F : FilmAt s Q hm a f) (hJ : ∀ x : Nat, x < s.1 → J x = I x) (hz : bzR s Q a + 1 ≤ bzR (s_mk s n 1 n) (rms (r_mk Q s.1) a 5 (some s.1)) a) : RM a f s Q hm I (s_mk s n 1 n) (rms (r_mk Q s.1) a 5 (some s.1)) (bOw hm s.1 f) J := by
  obtain ⟨L1, F1⟩ := Row_nw (I := I) hn f0 f8 L F
  have c0 : Ce s hm a 10 0 (500 + f) := F.2.1 0 (by decide)
  have na : a ≠ s.1 := Nat.ne_of_lt c0.1
  refine ⟨L1, F1, fun x x1 x2 => ?_, fun z hz => ?_, fun x x1 => ?_, Nat.le_succ _, ?_, ?_⟩
  · rw [rms_o x2]
    exact if_neg (Nat.ne_of_lt x1)
  · rw [rms_i hz]
    exact congrFun (if_neg na) _
  · have nx : x ≠ s.1 := Nat.ne_of_lt x1
    exact ⟨hJ x x1, if_neg nx, if_neg nx, if_neg nx⟩
  · have e : (s_mk s n 1 n).1 = s.1 + 1 := rfl
    rw [e]
    generalize bzR s Q a = z1 at hz ⊢
    generalize bzR (s_mk s n 1 n) (rms (r_mk Q s.1) a 5 (some s.1)) a = z2 at hz ⊢
    clear e L1 F1 c0 na hJ L F hn f0 f8
    omega
  · have e : (s_mk s n 1 n).2.1 = s.2.1 + n := rfl
    rw [e]
    generalize bzR s Q a = z1 at hz ⊢
    generalize bzR (s_mk s n 1 n) (rms (r_mk Q s.1) a 5 (some s.1)) a = z2 at hz ⊢
    have nn : n ≤ 24067 := by rcases hn with e | e <;> rw [e] <;> decide
    clear e L1 F1 c0 na hJ L F hn f0 f8
    omega
end RoomM
