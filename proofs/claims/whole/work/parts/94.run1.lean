/-! runs: one sample, one run -/
section Run1
variable {s : hS} {Q : hQ} {hm : hO} {I m : jM} {A p : Nat} {base en w h k pl ak : Int} {an : Option Nat}
def fU (p : Nat) (I I' : jM) : Prop := ∀ a : Nat, a ≠ 9 → a ≠ 10 → a ≠ 24 → a ≠ p + 1 → I' a = I a
def fV (m m' : jM) : Prop := (∀ a : Nat, a ≠ 76 → a ≠ 109 → m' a = m a) ∧ (∀ k : Int, k < 51 ∨ (52 < k ∧ k ≠ 69) → m' 76 k = m 76 k)
theorem fU_t {I1 I2 I3 : jM} (a : fU p I1 I2) (b : fU p I2 I3) : fU p I1 I3 := fun x h1 h2 h3 h4 => (b x h1 h2 h3 h4).trans (a x h1 h2 h3 h4)
theorem fV_t {I1 I2 I3 : jM} (a : fV I1 I2) (b : fV I2 I3) : fV I1 I3 := ⟨fun x h1 h2 => (b.1 x h1 h2).trans (a.1 x h1 h2), fun k hk => (b.2 k hk).trans (a.2 k hk)⟩
theorem fU_r {I : jM} : fU p I I := fun _ _ _ _ _ => rfl
theorem fV_r {I : jM} : fV I I := ⟨fun _ _ _ => rfl, fun _ _ => rfl⟩
theorem fU_10 {I : jM} {k v : Int} : fU p I (jms I 10 k v) := fun _ _ h1 _ _ => jms_o h1
theorem fU_9 {I : jM} {k v : Int} : fU p I (jms I 9 k v) := fun _ h1 _ _ _ => jms_o h1
theorem fU_24 {I : jM} {k v : Int} : fU p I (jms I 24 k v) := fun _ _ _ h1 _ => jms_o h1
theorem fU_p {I : jM} {k v : Int} : fU p I (jms I (p + 1) k v) := fun _ _ _ _ h1 => jms_o h1
theorem fV_51 {m : jM} {k v : Int} (hk : k = 51 ∨ k = 52 ∨ k = 69) : fV m (jms m 76 k v) := ⟨fun _ h1 _ => jms_o h1, fun j hj => jms_i (by omega)⟩
theorem fV_109 {m : jM} {k v : Int} : fV m (jms m 109 k v) := ⟨fun _ _ h2 => jms_o h2, fun j _ => by rw [jms_o (by decide)]⟩
/-- the anchor of runs, on both sides -/
def An (s : hS) (Q : hQ) (I m : jM) (p : Nat) (w h k : Int) (an : Option Nat) (ak : Int) : Prop := (an = none ∧ m 102 k = 0) ∨ (∃ b, an = some b ∧ m 102 k = 1 ∧ PcC s Q b ∧ b ≠ p ∧ 0 ≤ ak ∧ ak < 12 ∧ ak ≠ k ∧ (∀ m' : jM, m' 76 36 = m 76 36 → m' 102 = m 102 → jd_239 k 1 m' = some ak) ∧ ∀ q j : Int, 0 ≤ q → q ≤ 2 → 0 ≤ j → j < pw w q * pw h q → I (b + 1) (pb w h q + j) = m 109 (864 * ak + (pf q + j)) ∧ 0 ≤ m 109 (864 * ak + (pf q + j)) ∧ m 109 (864 * ak + (pf q + j)) ≤ 255)
/-- samples alike up to th of plane pl -/
def RS (p : Nat) (w h k pl th : Int) (I m I' m' : jM) : Prop := fU p I I' ∧ fV m m' ∧ I' 24 0 = th ∧ m' 76 69 = pb w h pl + th ∧ PxE p w h k pl I' m' ∧ (∀ j : Int, 0 ≤ j → j < th → I' (p + 1) (pb w h pl + j) = m' 109 (864 * k + (pf pl + j)) ∧ 0 ≤ m' 109 (864 * k + (pf pl + j)) ∧ m' 109 (864 * k + (pf pl + j)) ≤ 255) ∧ dO k m m'
/-- the readers go on: samples stay -/
theorem RS_b {th x y : Int} {I' m' : jM} (P : PcC s Q p) (S : RS p w h k pl th I m I' m') : RS p w h k pl th I m (jms I' 10 1 x) (jms m' 76 51 y) := by
  obtain ⟨a1, a2, a3, a4, a5, a6, a7⟩ := S
  have P1 := P.1
  have e1 : jms I' 10 1 x (p + 1) = I' (p + 1) := jms_o (by omega)
  have e2 : jms m' 76 51 y 109 = m' 109 := jms_o (by decide)
  refine ⟨fU_t a1 fU_10, fV_t a2 (fV_51 (Or.inl rfl)), by rw [jms_o (by decide)]; exact a3, by rw [jms_i (by decide)]; exact a4, fun q j h0 h1 h2 h3 => ?_, fun j h0 h1 => ?_, fun j hj => ?_⟩
  · rw [e1, e2]; exact a5 q j h0 h1 h2 h3
  · rw [e1, e2]; exact a6 j h0 h1
  · rw [e2]; exact a7 j hj
theorem RS_f {th x f : Int} {I' m' : jM} (P : PcC s Q p) (S : RS p w h k pl th I m I' m') : RS p w h k pl th I m (jms I' 10 3 x) (jms m' 76 52 f) := by
  obtain ⟨a1, a2, a3, a4, a5, a6, a7⟩ := S
  have P1 := P.1
  have e1 : jms I' 10 3 x (p + 1) = I' (p + 1) := jms_o (by omega)
  have e2 : jms m' 76 52 f 109 = m' 109 := jms_o (by decide)
  refine ⟨fU_t a1 fU_10, fV_t a2 (fV_51 (Or.inr (Or.inl rfl))), by rw [jms_o (by decide)]; exact a3, by rw [jms_i (by decide)]; exact a4, fun q j h0 h1 h2 h3 => ?_, fun j h0 h1 => ?_, fun j hj => ?_⟩
  · rw [e1, e2]; exact a5 q j h0 h1 h2 h3
  · rw [e1, e2]; exact a6 j h0 h1
  · rw [e2]; exact a7 j hj
theorem RS_g {th f : Int} {I' m' : jM} (S : RS p w h k pl th I m I' m') : RS p w h k pl th I m I' (jms m' 76 52 f) := by
  obtain ⟨a1, a2, a3, a4, a5, a6, a7⟩ := S
  have e2 : jms m' 76 52 f 109 = m' 109 := jms_o (by decide)
  refine ⟨a1, fV_t a2 (fV_51 (Or.inr (Or.inl rfl))), a3, by rw [jms_i (by decide)]; exact a4, fun q j h0 h1 h2 h3 => ?_, fun j h0 h1 => ?_, fun j hj => ?_⟩
  · rw [e2]; exact a5 q j h0 h1 h2 h3
  · rw [e2]; exact a6 j h0 h1
  · rw [e2]; exact a7 j hj
theorem RS_w {th v : Int} {I' m' : jM} (P : PcC s Q p) (sw : isSd w) (sh : isSd h) (p0 : 0 ≤ pl) (p2 : pl ≤ 2) (t0 : 0 ≤ th) (t1 : th < pw w pl * pw h pl) (v0 : 0 ≤ v) (v1 : v ≤ 255) (S : RS p w h k pl th I m I' m') : RS p w h k pl (th + 1) I m (jms (jms I' (p + 1) (pb w h pl + th) v) 24 0 (th + 1)) (jms (jms m' 109 (864 * k + pf pl + th) v) 76 69 (m' 76 69 + 1)) := by
  obtain ⟨a1, a2, a3, a4, a5, a6, a7⟩ := S
  have P1 := P.1
  have ps := pl_sz sw sh p0 p2
  have e1 : jms (jms I' (p + 1) (pb w h pl + th) v) 24 0 (th + 1) (p + 1) = jms I' (p + 1) (pb w h pl + th) v (p + 1) := jms_o (by omega)
  have e2 : jms (jms m' 109 (864 * k + pf pl + th) v) 76 69 (m' 76 69 + 1) 109 = jms m' 109 (864 * k + pf pl + th) v 109 := jms_o (by decide)
  refine ⟨fU_t a1 (fU_t fU_p fU_24), fV_t a2 (fV_t fV_109 (fV_51 (Or.inr (Or.inr rfl)))), jms_e, by rw [jms_e, a4]; omega, fun q j h0 h1 h2 h3 => ?_, fun j h0 h1 => ?_, fun j hj => ?_⟩
  · have ne := pl_ne (p := q) (q := pl) (k := j) (j := th) sw sh h0 (by omega) p0 p2 (by omega) h2 h3 t0 t1
    rw [e1, e2, jms_i ne.1, jms_i (by have := ne.2; omega)]
    exact a5 q j h0 h1 h2 h3
  · rw [e1, e2]
    by_cases c : j = th
    · subst c
      rw [← Int.add_assoc, jms_e, jms_e]
      exact ⟨rfl, v0, v1⟩
    · rw [jms_i (by omega), jms_i (by omega)]
      exact a6 j h0 (by omega)
  · rw [e2, jms_i (by omega)]
    exact a7 j hj
theorem run1 (L : Lay s Q hm) (h6 : s.1 ≤ 1000000) (P : PcC s Q p) (sw : isSd w) (sh : isSd h) (p0 : 0 ≤ pl) (p2 : pl ≤ 2) (k0 : 0 ≤ k) (k1 : k < 12) (N : An s Q I m p w h k an ak) {J m' : jM} {th way len v n i' x9 : Int} (S : RS p w h k pl th I m J m') (R : BM s Q J m' 10 A base i' en) (t0 : 0 ≤ th) (t1 : th < pw w pl * pw h pl) (v0 : 0 ≤ v) (v1 : v ≤ 255) (w0 : 0 ≤ way) (w3 : way ≤ 3) (hw1 : way = 1 → an ≠ none) (hw2 : way = 2 → pw w pl ≤ th) : ∃ z, 0 ≤ z ∧ z ≤ 255 ∧ jd_125_b59 24 (some 10) (some p) an way len (pw w pl) (pb w h pl) v n (hh s Q J) = some (.inl (v, n + 1, hh s Q (jms (jms J (p + 1) (pb w h pl + th) z) 24 0 (th + 1)))) ∧ jd_276_b200 k pl (pw w pl) (pw w pl * pw h pl) (864 * k + pf pl) th way len x9 n v m' = some (.inl (th + 1, n + 1, jms (jms m' 109 (864 * k + pf pl + th) z) 76 69 (m' 76 69 + 1))) := by
  obtain ⟨P1, P2, P3, P4, P5, P6, P7⟩ := id P
  have t14 : s.2.2.1 p = 6 + 8 := P3
  have q2 : Q p ((2 : Nat) : Int) = some (p + 1) := P7
  have ok : okI pl := by unfold okI; omega
  have ps := pl_sz sw sh p0 p2
  have bw := pw_sd sw pl
  obtain ⟨a1, a2, a3, a4, a5, a6, a7⟩ := id S
  have a3' : J 24 ((0 : Nat) : Int) = th := a3
  have fin1 : ∀ z, jd_125_b120 24 (some 10) (some p) an way len (pw w pl) (pb w h pl) v n (pb w h pl + th) z (hh s Q J) = some (.inl (v, n + 1, hh s Q (jms (jms J (p + 1) (pb w h pl + th) z) 24 0 (th + 1)))) := fun z => by
    have e : jms J (p + 1) (pb w h pl + th) z 24 ((0 : Nat) : Int) = th := by rw [jms_o (by omega)]; exact a3'
    unfold jd_125_b120
    rw [Option.bind_some, x_gr P2 t14, Option.bind_some, q2, Option.bind_some, x_ta P4 P5 (by omega) (by rw [P6]; omega) (by rw [P6]; decide), Option.bind_some, y_gi L 24 9 rfl rfl, Option.bind_some, y_pi L 24 9 rfl rfl, Option.bind_some, e]
    rfl
  have fin2 : ∀ z, jd_276_b274 k pl (pw w pl) (pw w pl * pw h pl) (864 * k + pf pl) th way len x9 n z (864 * k + pf pl + th) m' = some (.inl (th + 1, n + 1, jms (jms m' 109 (864 * k + pf pl + th) z) 76 69 (m' 76 69 + 1))) := fun z => by
    unfold jd_276_b274
    rw [y_mw 109 10368 rfl rfl (by omega) (by omega), Option.bind_some, Option.bind_some, jms_o (show (76 : Nat) ≠ 109 by decide)]
  unfold jd_125_b59 jd_276_b200
  rw [y_gi L 24 9 rfl rfl, Option.bind_some, a3', if_pos (BM_b1 R), n_jw (z := way) (by omega) (by omega)]
  by_cases c1 : way = 1
  · rcases N with ⟨en', -⟩ | ⟨b, eb, -, B, bp, ak0, ak1, akk, ka, eq⟩
    · exact absurd en' (hw1 c1)
    · obtain ⟨B1, B2, B3, B4, B5, B6, B7⟩ := id B
      have q2b : Q b ((2 : Nat) : Int) = some (b + 1) := B7
      have jb : J (b + 1) = I (b + 1) := a1 (b + 1) (by omega) (by omega) (by omega) (by omega)
      have E := eq pl th p0 p2 t0 t1
      have dm : m' 109 (864 * ak + (pf pl + th)) = m 109 (864 * ak + (pf pl + th)) := a7 _ (by omega)
      have k2 := ka m' (a2.2 36 (by decide)) (a2.1 102 (by decide) (by decide))
      rw [if_pos c1, if_pos c1, k2, Option.bind_some, k_207 ok, y_ma 109 10368 rfl rfl (by omega) (by omega), Option.bind_some]
      rw [if_neg (by rw [eb]; exact Option.some_ne_none b)]
      refine ⟨m 109 (864 * ak + (pf pl + th)), E.2.1, E.2.2, ?_, ?_⟩
      · rw [← fin1]
        rw [eb, Option.bind_some, x_gr B2 (show s.2.2.1 b = 6 + 8 from B3), Option.bind_some, q2b, Option.bind_some, x_ai B4 h6 B5 (by omega) (by rw [B6]; omega) (by rw [B6]; decide), Option.bind_some, jb, E.1]
        unfold jd_125_b93
        rw [if_neg (by rw [c1]; decide)]
      · rw [Int.add_assoc (864 * ak), dm]
        exact fin2 _
  · rw [if_neg c1, if_neg c1]
    unfold jd_125_b93
    rw [n_jw (z := way) (by omega) (by omega)]
    by_cases c2 : way = 2
    · have hl := hw2 c2
      have E := a6 (th - pw w pl) (by omega) (by omega)
      rw [if_pos c2, if_pos c2, y_gi L 24 9 rfl rfl, Option.bind_some, a3', n_jw (z := th) (by omega) (by omega), n_jw (z := pw w pl) (by omega) (by omega), if_neg (by omega), Option.bind_some, x_gr P2 t14, Option.bind_some, q2, Option.bind_some, x_ai P4 h6 P5 (by omega) (by rw [P6]; omega) (by rw [P6]; decide), Option.bind_some, y_ma 109 10368 rfl rfl (by omega) (by omega), Option.bind_some]
      rw [show pb w h pl + th - pw w pl = pb w h pl + (th - pw w pl) by omega, show 864 * k + pf pl + th - pw w pl = 864 * k + (pf pl + (th - pw w pl)) by omega, E.1]
      exact ⟨_, E.2.1, E.2.2, fin1 _, fin2 _⟩
    · rw [if_neg c2, if_neg c2]
      exact ⟨v, v0, v1, fin1 v, fin2 v⟩
end Run1
