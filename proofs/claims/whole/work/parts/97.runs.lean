/-! the planes of runs -/
section Runs
variable {s : hS} {Q : hQ} {hm : hO} {I m : jM} {A p : Nat} {base i en w h k pl ak : Int} {an : Option Nat}
def hiP (w h n : Int) : Int := if n = 3 then pb w h 2 + pw w 2 * pw h 2 else pb w h n
theorem hiP_s (sw : isSd w) (sh : isSd h) {n : Int} (n0 : 0 ≤ n) (n1 : n ≤ 2) : hiP w h (n + 1) = pb w h n + pw w n * pw h n := by
  unfold hiP
  by_cases c : n = 2
  · subst c; rw [if_pos (by decide)]
  · rw [if_neg (by omega), pb_s sw sh n0 (by omega)]
theorem runp (L : Lay s Q hm) (h6 : s.1 ≤ 1000000) (P : PcC s Q p) (hw : I p 0 = w) (hv : I p 1 = h) (sw : isSd w) (sh : isSd h) (mw : m 76 33 = w) (mh : m 76 34 = h) (p0 : 0 ≤ pl) (p2 : pl ≤ 2) (k0 : 0 ≤ k) (k1 : k < 12) (N : An s Q I m p w h k an ak) {I1 m1 : jM} {i : Int} (S : RS p w h k pl 0 I m (jms I1 24 0 0) m1) (e1 : I1 p = I p) (R : BM s Q (jms I1 24 0 0) m1 10 A base i en) : ∃ f I' m' th, RS p w h k pl th I m I' m' ∧ 0 ≤ th ∧ th ≤ pw w pl * pw h pl ∧ m' 76 52 = f ∧ 0 ≤ f ∧ f ≤ 7 ∧ (f = 0 → th = pw w pl * pw h pl ∧ ∃ i', BM s Q I' m' 10 A base i' en) ∧ jd_124 24 (some 10) (some p) pl an (hh s Q I1) = some (f, hh s Q I') ∧ jd_276 k pl m1 = some m' := by
  have P2 := P.2.1
  have P3 := P.2.2.1
  have t14 : s.2.2.1 p = 6 + 8 := P3
  have ok : okI pl := by unfold okI; omega
  obtain ⟨x, y, ex, ey, f, I', m', th, a1, a2, a3, a4, a5, a6, a7, a8, a9⟩ := runp_l L h6 P hw hv sw sh p0 p2 k0 k1 N S R
  refine ⟨f, I', m', th, a1, a2, a3, a5, a6, a7, a8, ?_, ?_⟩
  · unfold jd_124
    unfold rdX at a9
    rw [Option.bind_some, x_ck P2 t14, Option.bind_some, c_96 P2 P3 (by rw [e1]; exact hw) sw ok, Option.bind_some, Option.bind_some, x_ck P2 t14, Option.bind_some, c_97 P2 P3 (by rw [e1]; exact hv) sh ok, Option.bind_some, y_pi L 24 9 rfl rfl, Option.bind_some, show ((0 : Nat) : Int) = 0 from rfl, ex, Option.bind_some]
    exact a9
  · unfold jd_276
    have mw1 : m1 76 33 = w := (S.2.1.2 33 (by decide)).trans mw
    have mh1 : m1 76 34 = h := (S.2.1.2 34 (by decide)).trans mh
    rw [Option.bind_some, mw1, mh1, k_206 ok sw, k_206 ok sh, k_207 ok, ey, Option.bind_some]
    rcases a4 with rfl | rfl
    · rw [jse_l]
    · rw [jse_r]
/-- samples ahead of sp alike -/
def Ahd (p : Nat) (w h k sp : Int) (I m : jM) : Prop := ∀ q j : Int, 0 ≤ q → q ≤ 2 → 0 ≤ j → j < pw w q * pw h q → pb w h q + j < sp → I (p + 1) (pb w h q + j) = m 109 (864 * k + (pf q + j)) ∧ 0 ≤ m 109 (864 * k + (pf q + j)) ∧ m 109 (864 * k + (pf q + j)) ≤ 255
theorem Ahd_RS {I' m' : jM} {th : Int} (sw : isSd w) (sh : isSd h) (p0 : 0 ≤ pl) (p2 : pl ≤ 2) (t1 : th ≤ pw w pl * pw h pl) (S : RS p w h k pl th I m I' m') : Ahd p w h k (pb w h pl + th) I' m' := by
  obtain ⟨a1, a2, a3, a4, a5, a6, a7⟩ := S
  intro q j q0 q2 j0 j1 hl
  by_cases c : q < pl
  · exact a5 q j q0 c j0 j1
  · by_cases d : q = pl
    · subst d; exact a6 j j0 (by omega)
    · have := pl_dj (p := pl) (q := q) sw sh p0 p2 q0 q2 (by omega)
      omega
def rnPost (s : hS) (Q : hQ) (I m : jM) (A p : Nat) (base en w h k : Int) (x : (Int × jH) ⊕ jH) (y : jM) : Prop := ∃ f sp I', ((x = .inl (f, hh s Q I') ∧ 1 ≤ f) ∨ (x = .inr (hh s Q I') ∧ f = 0 ∧ sp = hiP w h 3)) ∧ y 76 52 = f ∧ f ≤ 7 ∧ 0 ≤ sp ∧ sp ≤ 864 ∧ y 76 69 = sp ∧ I' 9 6 = sp ∧ fU p I I' ∧ fV m y ∧ (f = 0 → ∃ i', BM s Q I' y 10 A base i' en) ∧ Ahd p w h k sp I' y ∧ dO k m y
theorem runs_l (L : Lay s Q hm) (h6 : s.1 ≤ 1000000) (P : PcC s Q p) (hw : I p 0 = w) (hv : I p 1 = h) (sw : isSd w) (sh : isSd h) (mw : m 76 33 = w) (mh : m 76 34 = h) (m69 : m 76 69 = 0) (k0 : 0 ≤ k) (k1 : k < 12) (N : An s Q I m p w h k an ak) (R : BM s Q I m 10 A base i en) : ∃ x y, jd_122_l25 9 (some p) an 0 (hh s Q I) = some x ∧ jd_277_l7 k 0 m = some y ∧ rnPost s Q I m A p base en w h k x y := by
  have P1 := P.1
  have P2 := P.2.1
  have P3 := P.2.2.1
  have t14 : s.2.2.1 p = 6 + 8 := P3
  have q0 : Q 9 ((0 : Nat) : Int) = some 10 := Lq L rfl
  have q3 : Q 9 ((3 : Nat) : Int) = some 24 := Lq L rfl
  unfold jd_122_l25 jd_277_l7
  refine w_lp3 (Q := rnPost s Q I m A p base en w h k) (fun n u t => ∃ I' m' i', u = ((n : Int), hh s Q I') ∧ t = ((n : Int), m') ∧ fU p I I' ∧ fV m m' ∧ BM s Q I' m' 10 A base i' en ∧ PxE p w h k n I' m' ∧ dO k m m' ∧ m' 76 69 = hiP w h n ∧ (n = 3 → I' 9 6 = hiP w h 3)) 3 (fun n u t hn hu => ?_) (n_fu (by omega)) (n_fu (by omega)) ⟨I, m, i, rfl, rfl, fU_r, fV_r, R, fun q j h0 h1 => absurd h1 (by omega), fun _ _ => rfl, m69, fun e => absurd e (by decide)⟩
  obtain ⟨I', m', i', rfl, rfl, f1, f2, R', px, dd, m69', i96⟩ := hu
  have gp : I' p = I p := f1 p (by omega) (by omega) (by omega) (by omega)
  by_cases c : n = 3
  · subst c
    right
    have tot : hiP w h 3 = pb w h 2 + pw w 2 * pw h 2 := if_pos rfl
    have ps := pl_sz (p := 2) sw sh (by decide) (by decide)
    refine ⟨.inr (hh s Q I'), m', ?_, fun e => ?_, 0, hiP w h 3, I', Or.inr ⟨rfl, rfl, rfl⟩, R'.2.1.1, by decide, by omega, by omega, m69', i96 rfl, f1, f2, fun _ => ⟨i', R'⟩, fun q j h0 h1 h2 h3 _ => px q j h0 (by omega) h2 h3, dd⟩
    · unfold jd_122_s25
      exact if_pos (by show (3 : Int) ≤ jw ((3 : Nat) : Int); decide)
    · refine jlp_1 (e := e + 1) ?_
      unfold jd_277_s7
      exact if_pos (by show (3 : Int) ≤ jw ((3 : Nat) : Int); decide)
  · have n3 : n < 3 := by omega
    have hn3 : hiP w h (n : Int) = pb w h (n : Int) := if_neg (by omega)
    have S0 : RS p w h k (n : Int) 0 I m (jms I' 24 0 0) m' := ⟨fU_t f1 fU_24, f2, jms_e, by rw [m69', hn3]; omega, fun q j h0 h1 h2 h3 => by rw [jms_o (by omega)]; exact px q j h0 h1 h2 h3, fun j h0 h1 => absurd h1 (by omega), dd⟩
    have R0 : BM s Q (jms I' 24 0 0) m' 10 A base i' en := BM_fr R' (jms_o (BM_A L R rfl (by decide))) (by rw [jms_o (by decide)]) (by rw [jms_o (by decide)]) rfl rfl rfl rfl rfl
    obtain ⟨f, I2, m2, th, S2, t0, t1, b2, fl, fh, ok2, eC, eM⟩ := runp (pl := (n : Int)) L h6 P hw hv sw sh mw mh (by omega) (by omega) k0 k1 N S0 gp R0
    have ps := pl_sz (p := (n : Int)) sw sh (by omega) (by omega)
    have gp2 : I2 p = I p := S2.1 p (by omega) (by omega) (by omega) (by omega)
    have i24 : I2 24 ((0 : Nat) : Int) = th := S2.2.2.1
    obtain ⟨I3, hI3⟩ : ∃ J, J = jms I2 9 6 (pb w h (n : Int) + th) := ⟨_, rfl⟩
    have C1 : jd_122_s25 9 (some p) an (n : Int) (hh s Q I') = (if jw f = 0 then some (.inl ((n : Int) + 1, hh s Q I3)) else some (.inr (.inl (f, hh s Q I3)))) := by
      unfold jd_122_s25
      rw [n_jw (z := (n : Int)) (by omega) (by omega), if_neg (by omega), y_gr L 9 8 rfl rfl, Option.bind_some, y_gr L 9 8 rfl rfl, Option.bind_some, q3, Option.bind_some, y_ck L 24 9 rfl rfl, Option.bind_some, q0, eC, Option.bind_some, Option.bind_some]
      dsimp only
      rw [x_ck P2 t14, Option.bind_some, c_98 P2 P3 (by rw [gp2]; exact hw) (by rw [gp2]; exact hv) sw sh (by unfold okI; omega), Option.bind_some, y_gr L 9 8 rfl rfl, Option.bind_some, q3, Option.bind_some, y_gi L 24 9 rfl rfl, Option.bind_some, i24, y_pi L 9 8 rfl rfl, Option.bind_some, hI3]
      rfl
    have M1 : jd_277_s7 k (n : Int) m' = some (.inl ((n : Int) + 1, m2)) := by
      unfold jd_277_s7
      rw [n_jw (z := (n : Int)) (by omega) (by omega), if_neg (by omega), if_pos (BM_b0 R'), eM, Option.bind_some]
    have fr3 : fU p I I3 := by rw [hI3]; exact fU_t S2.1 fU_9
    have g3 : I3 (p + 1) = I2 (p + 1) := by rw [hI3]; exact jms_o (by omega)
    have g9 : I3 9 6 = pb w h (n : Int) + th := by rw [hI3]; exact jms_e
    by_cases c0 : f = 0
    · left
      obtain ⟨rfl, i2, R2⟩ := ok2 c0
      rw [c0, if_pos (by decide)] at C1
      refine ⟨_, _, C1, M1, by omega, I3, m2, i2, by rw [show ((n + 1 : Nat) : Int) = (n : Int) + 1 by omega], by rw [show ((n + 1 : Nat) : Int) = (n : Int) + 1 by omega], fr3, S2.2.1, ?_, fun q j h0 h1 h2 h3 => ?_, S2.2.2.2.2.2.2, ?_, fun e => ?_⟩
      · rw [hI3]
        exact BM_fr R2 (jms_o (BM_A L R rfl (by decide))) (by rw [jms_o (by decide)]) (by rw [jms_o (by decide)]) rfl rfl rfl rfl rfl
      · rw [g3]
        by_cases cq : q = n
        · subst cq; exact S2.2.2.2.2.2.1 j h2 h3
        · exact S2.2.2.2.2.1 q j h0 (by omega) h2 h3
      · rw [show ((n + 1 : Nat) : Int) = (n : Int) + 1 by omega, hiP_s sw sh (by omega) (by omega)]
        exact S2.2.2.2.1
      · rw [g9, ← hiP_s sw sh (by omega) (by omega), show (n : Int) + 1 = 3 by omega]
    · right
      rw [n_jw (by omega) (by omega), if_neg c0] at C1
      refine ⟨_, m2, C1, fun e => jlp_2 (f := fun u : (Int × jM) => jd_277_s7 k u.1 u.2) (t := ((n : Int), m')) (t' := ((n : Int) + 1, m2)) M1 ?_ e, f, pb w h (n : Int) + th, I3, Or.inl ⟨rfl, by omega⟩, b2, fh, by omega, by omega, S2.2.2.2.1, g9, fr3, S2.2.1, fun hf => absurd hf c0, fun q j h0 h1 h2 h3 h4 => ?_, S2.2.2.2.2.2.2⟩
      · dsimp only
        unfold jd_277_s7
        by_cases d : 3 ≤ jw ((n : Int) + 1)
        · rw [if_pos d]
        · rw [if_neg d, if_neg (br_0 b2 (by omega) fh)]
      · rw [g3]
        exact Ahd_RS sw sh (by omega) (by omega) t1 S2 q j h0 h1 h2 h3 h4
end Runs
