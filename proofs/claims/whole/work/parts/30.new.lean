/-! a picture more -/
section NewPic
variable {s : hS} {Q : hQ} {hm : hO} {I I' m m' : jM} {a : Nat} {w h : Int}
/-- what a call that makes a picture leaves of the model's cells -/
def Mn (m m' : jM) (n w h : Int) : Prop := (m' 76 1 = n + 1 ∧ m' 76 5 = m 76 5 ∧ m' 76 7 = m 76 7 ∧ m' 76 8 = m 76 8 ∧ m' 76 9 = m 76 9 ∧ m' 76 12 = m 76 12 ∧ m' 76 86 = m 76 86 ∧ m' 76 92 = m 76 92) ∧ (∀ i : Int, i ≠ n → m' 77 i = m 77 i ∧ m' 78 i = m 78 i) ∧ m' 77 n = w ∧ m' 78 n = h ∧ (∀ j : Int, ¬ (864 * n ≤ j ∧ j < 864 * n + 864) → m' 79 j = m 79 j) ∧ ∀ x : Nat, 80 ≤ x → m' x = m x
theorem RelH_new (R : RelH s Q hm I m) (hn : m 76 1 < 60) (ha : Q 1 (m 76 1) = some a) (S : Sm (fun o => o ≠ m 76 1 ∧ o ≠ 1000) s Q hm I s Q hm I') (i1 : I' 0 1 = m 76 1 + 1) (i0 : ∀ k : Int, k ≠ 1 → I' 0 k = I 0 k) (M : Mn m m' (m 76 1) w h) (X : Pix I' a w h (fun j => m' 79 (864 * m 76 1 + j))) : RelH s Q hm I' m' := by
  obtain ⟨L, r1, r2, r3, r4, r5, r6, r7, r8, r9⟩ := R
  obtain ⟨t1, t2, t3, t4, t5⟩ := r1
  obtain ⟨⟨m1, m5, m7, m8, m9, m12, m86, m92⟩, e77, w77, w78, e79, em⟩ := M
  have i2 : I' 2 = I 2 := (Lay_fr (a := 2) L S (by decide) (by omega)).2
  have i3 : I' 3 = I 3 := (Lay_fr (a := 3) L S (by decide) (by omega)).2
  have i6 : I' 6 = I 6 := (Lay_fr (a := 6) L S (by decide) (by omega)).2
  refine ⟨L, ?_, ?_, ?_, ?_, ?_, ?_, ?_, ?_, ?_⟩
  · refine ⟨by rw [i1, m1], by omega, by omega, t4, fun i h1 h2 => ?_⟩
    by_cases hi : i = m 76 1
    · subst hi
      refine ⟨a, ha, ?_⟩
      rw [w77, w78]
      exact X
    · obtain ⟨b, hb, Y⟩ := t5 i h1 (by omega)
      refine ⟨b, hb, ?_⟩
      rw [(e77 i hi).1, (e77 i hi).2]
      obtain ⟨-, f1, f2⟩ := PicAt_fr S (t4 i h1 (by omega) b hb) (by omega)
      refine Pix_g (Pix_fr Y f1 f2) (fun q k q0 q2 k0 k1 => ?_)
      have b := pl_sz Y.2.2.1 Y.2.2.2.1 q0 q2
      exact e79 _ (by omega)
  · exact RTap_fr (i0 _ (by decide)) i2 m5 (em 80 (by omega)) r2
  · exact RSet_fr i3 (em 82 (by omega)) r3
  · exact RRee_fr L S (by omega) (fun i _ _ => by omega) (i0 _ (by decide)) m7 m8 m9 (em 81 (by omega)) r4
  · exact RFil_fr L S (by omega) (fun i _ _ => by omega) (fun i _ _ => by omega) (fun i _ _ => by omega) (i0 _ (by decide)) m12 (fun x _ _ => em x (by omega)) r5
  · exact RRow_fr (i0 _ (by decide)) i6 m86 m12 (em 131 (by omega)) (em 132 (by omega)) (em 133 (by omega)) (em 83 (by omega)) (em 87 (by omega)) r6
  · exact RFlt_fr L S (by omega) (fun i _ _ => by omega) (i0 _ (by decide)) m92 (em 135 (by omega)) (em 136 (by omega)) (em 137 (by omega)) r7
  · exact RPly_fr L S (by omega) (fun i _ _ => by omega) (fun i _ _ => by omega) m12 (fun x _ _ => em x (by omega)) (fun x _ _ => em x (by omega)) r9 r8
  · exact RMis_fr L S (by omega) (by omega) (by omega) (fun i _ _ => by omega) (fun i _ _ => by omega) (fun i _ _ => by omega) r9
end NewPic
section Blank
variable {s : hS} {Q : hQ} {hm : hO} {I m : jM} {a : Nat} {p q x y v w h : Int}
def sdB (p : Int) : Bool := decide (p = 8) || decide (p = 16) || decide (p = 24)
theorem k_182 (hp : okI p) : (jw (jd_182 p) = 0 ↔ ¬ isSd p) ∧ (jw (jd_208 p) = 0 ↔ ¬ isSd p) := by
  unfold jd_182 jd_208 isSd
  rw [n_jw hp.1 hp.2]
  by_cases h1 : p = 8
  · rw [if_pos h1]
    exact ⟨⟨fun h => absurd h (by decide), fun h => absurd (Or.inl h1) h⟩, ⟨fun h => absurd h (by decide), fun h => absurd (Or.inl h1) h⟩⟩
  · rw [if_neg h1]
    by_cases h2 : p = 16
    · rw [if_pos h2]
      exact ⟨⟨fun h => absurd h (by decide), fun h => absurd (Or.inr (Or.inl h2)) h⟩, ⟨fun h => absurd h (by decide), fun h => absurd (Or.inr (Or.inl h2)) h⟩⟩
    · rw [if_neg h2]
      by_cases h3 : p = 24
      · rw [if_pos h3]
        exact ⟨⟨fun h => absurd h (by decide), fun h => absurd (Or.inr (Or.inr h3)) h⟩, ⟨fun h => absurd h (by decide), fun h => absurd (Or.inr (Or.inr h3)) h⟩⟩
      · rw [if_neg h3]
        have : ¬ (p = 8 ∨ p = 16 ∨ p = 24) := by omega
        exact ⟨⟨fun _ => this, fun _ => by decide⟩, ⟨fun _ => this, fun _ => by decide⟩⟩
theorem c_95 {o : Int} (A : PicAt s Q hm a o) : jd_95 a p q (hh s Q I) = some (hh s Q (jms (jms I a 0 p) a 1 q)) := by
  unfold jd_95
  rw [x_pi A.2.1.1 A.2.1.2.1, Option.bind_some, x_pi A.2.1.1 A.2.1.2.1, Option.bind_some]
  rfl
/-- the model's plane filled -/
theorem k_214p {n : Int} (hn : m 76 1 = n) (h0 : 0 ≤ n) (h6 : n < 60) (sw : isSd (m 77 n)) (sh : isSd (m 78 n)) (q0 : 0 ≤ q) (q2 : q ≤ 2) : jd_214_l151 x y p q v 0 m = some (ims m 79 (seqf (m 79) (864 * n + pf q) (fun _ _ => v) (pw (m 77 n) q * pw (m 78 n) q))) := by
  have hq : okI q := by unfold okI; omega
  have b := pl_sz sw sh q0 q2
  generalize hN : pw (m 77 n) q * pw (m 78 n) q = N at b
  unfold jd_214_l151
  have := w_for (f := fun t : (Int × jM) => jd_214_s151 x y p q v t.1 t.2) (fun k => ((k : Int), ims m 79 (seqf (m 79) (864 * n + pf q) (fun _ _ => v) k))) N.toNat (x := ims m 79 (seqf (m 79) (864 * n + pf q) (fun _ _ => v) N)) (fun k hk => ?_) ?_ (n_fu (n := N.toNat) (by omega))
  · rw [show ((0 : Nat) : Int) = 0 from rfl, seqf_0, ims_self] at this
    exact this
  · dsimp only
    unfold jd_214_s151 jd_213
    have e1 : ∀ f, ims m 79 f 76 1 = n := fun _ => hn
    have e2 : ∀ f, ims m 79 f 77 n = m 77 n := fun _ => rfl
    have e3 : ∀ f, ims m 79 f 78 n = m 78 n := fun _ => rfl
    rw [e1, y_ma 77 60 rfl rfl h0 (by omega), Option.bind_some, y_ma 78 60 rfl rfl h0 (by omega), Option.bind_some, Option.bind_some, e2, e3, k_206 hq sw, k_206 hq sh, k_207 hq, hN, n_jw (by omega) (by omega), n_jw (by omega) (by omega), if_neg (by omega), y_mw 79 51840 rfl rfl (by omega) (by omega), Option.bind_some, ims_jms, seqf_s (by omega)]
    rfl
  · dsimp only
    unfold jd_214_s151 jd_213
    have e1 : ∀ f, ims m 79 f 76 1 = n := fun _ => hn
    have e2 : ∀ f, ims m 79 f 77 n = m 77 n := fun _ => rfl
    have e3 : ∀ f, ims m 79 f 78 n = m 78 n := fun _ => rfl
    rw [e1, y_ma 77 60 rfl rfl h0 (by omega), Option.bind_some, y_ma 78 60 rfl rfl h0 (by omega), Option.bind_some, Option.bind_some, e2, e3, k_206 hq sw, k_206 hq sh, hN, n_jw (by omega) (by omega), n_jw (by omega) (by omega), if_pos (by omega), show ((N.toNat : Nat) : Int) = N by omega]
end Blank
