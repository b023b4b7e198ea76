/-! the model mends runs; a picture of runs read to its end -/
section CoreR
variable {s : hS} {Q : hQ} {hm : hO} {I m m1 m2 : jM} {A p c : Nat} {base i en w h k ak sp q : Int} {an : Option Nat}
/-- samples of plane q from the spot on, i of them looked at -/
def rnD (w h k sp q i : Int) : Int → Prop := fun j => (∃ q', 0 ≤ q' ∧ q' < q ∧ 864 * k + pf q' ≤ j ∧ j < 864 * k + pf q' + pw w q' * pw h q' ∧ sp ≤ pb w h q' + (j - 864 * k - pf q')) ∨ (864 * k + pf q ≤ j ∧ j < 864 * k + pf q + i ∧ sp ≤ pb w h q + (j - 864 * k - pf q))
def rnU (m : jM) (k ak : Int) : Int → Int := fun j => if m 102 k = 0 then 128 else m 109 (864 * ak + (j - 864 * k))
theorem k_277i (sw : isSd w) (sh : isSd h) (mw : m1 76 33 = w) (mh : m1 76 34 = h) (k0 : 0 ≤ k) (k1 : k < 12) (q0 : 0 ≤ q) (q2 : q ≤ 2) (s0 : 0 ≤ sp) (s1 : sp ≤ 1000) (hk : m1 102 k = 0 ∨ (m1 102 k = 1 ∧ 0 ≤ ak ∧ ak < 12 ∧ ak ≠ k ∧ ∀ m' : jM, m' 76 36 = m1 76 36 → m' 102 = m1 102 → jd_239 k 1 m' = some ak)) (W : Wr (rnD w h k sp q 0) (rnU m1 k ak) m1 m2) : ∃ m3, jd_277_l73 k q (pw w q) (sp - pb w h q) 0 m2 = some (sp - (pb w h q + pw w q * pw h q), m3) ∧ Wr (rnD w h k sp q (pw w q * pw h q)) (rnU m1 k ak) m1 m3 := by
  have hq : okI q := by unfold okI; omega
  have bw := pw_sd sw q
  have ps := pl_sz sw sh q0 q2
  have l : wT (jd_277_l73 k q (pw w q) (sp - pb w h q) 0 m2) (fun o => o.1 = sp - (pb w h q + pw w q * pw h q) ∧ Wr (rnD w h k sp q (pw w q * pw h q)) (rnU m1 k ak) m1 o.2) := by
    unfold jd_277_l73
    refine w_lp (fun n u => u.1 = sp - (pb w h q + (n : Int)) ∧ u.2.1 = (n : Int) ∧ Wr (rnD w h k sp q (n : Int)) (rnU m1 k ak) m1 u.2.2) (pw w q * pw h q).toNat (fun n u hn hu => ?_) (n_fu (by omega)) ⟨by show sp - pb w h q = sp - (pb w h q + ((0 : Nat) : Int)); omega, rfl, W⟩
    obtain ⟨z, i, m'⟩ := u
    obtain ⟨e1, e2, W'⟩ := hu
    dsimp only at e1 e2 W' ⊢
    subst e1 e2
    have mw' : m' 76 33 = w := by rw [W'.2.2 76 (by decide) (by decide)]; exact mw
    have mh' : m' 76 34 = h := by rw [W'.2.2 76 (by decide) (by decide)]; exact mh
    have m102 : m' 102 = m1 102 := W'.2.2 102 (by decide) (by decide)
    unfold jd_277_s73 jd_277_b128
    rw [mh', k_206 hq sh, n_jw (z := pw w q * pw h q) (by omega) (by omega), n_jw (z := (n : Int)) (by omega) (by omega)]
    by_cases cn : pw w q * pw h q ≤ (n : Int)
    · rw [if_pos cn]
      have en : (n : Int) = pw w q * pw h q := by omega
      rw [en] at W' ⊢
      exact wT_ret ⟨rfl, W'⟩
    · rw [if_neg cn, n_jw (z := sp - (pb w h q + (n : Int))) (by omega) (by omega)]
      have nx : sp - (pb w h q + (n : Int)) + -1 = sp - (pb w h q + ((n + 1 : Nat) : Int)) := by omega
      by_cases cl : 0 < sp - (pb w h q + (n : Int))
      · rw [if_pos cl, nx]
        refine wT_ret ⟨by omega, rfl, by show (n : Int) + 1 = ((n + 1 : Nat) : Int); omega, Wr_c (fun j => ⟨fun e => e.imp id (fun e => ⟨e.1, by omega, e.2.2⟩), fun e => e.imp id (fun e => ⟨e.1, by omega, e.2.2⟩)⟩) W'⟩
      · rw [if_neg cl]
        have r := dm_r (W := pw w q) (H := pw h q) (k := (n : Int)) (by omega) (by omega) (by omega)
        have de := dm_e (pw w q) (n : Int)
        have ez : 864 * k + pf q + (n : Int) / pw w q * pw w q + (n : Int) % pw w q = 864 * k + pf q + (n : Int) := by omega
        have cD : ∀ j, (rnD w h k sp q (n : Int) j ∨ j = 864 * k + pf q + (n : Int)) ↔ rnD w h k sp q ((n + 1 : Nat) : Int) j := fun j => ⟨fun e => by
          rcases e with (e | e) | e
          · exact Or.inl e
          · exact Or.inr ⟨e.1, by omega, e.2.2⟩
          · exact Or.inr ⟨by omega, by omega, by omega⟩, fun e => by
          rcases e with e | e
          · exact Or.inl (Or.inl e)
          · by_cases c : j = 864 * k + pf q + (n : Int)
            · exact Or.inr c
            · exact Or.inl (Or.inr ⟨e.1, by omega, e.2.2⟩)⟩
        have W2 := Wr_c cD (Wr_s (z := 864 * k + pf q + (n : Int)) W')
        have k4 := fun b => k_241 (m := m') (by' := b) hq sw mw' ez (by omega) (by omega)
        rw [jnz_1 (by omega) (by omega), Option.bind_some, Option.bind_some, y_ma 102 12 rfl rfl k0 k1, Option.bind_some, m102, n_rem (by omega) (by omega) (by omega) (by omega), n_div (by omega) (by omega) (by omega) (by omega)]
        unfold jd_277_b125 jd_277_b128
        rcases hk with hk | ⟨hk, ak0, ak1, akk, ka⟩
        · have u0 : rnU m1 k ak (864 * k + pf q + (n : Int)) = 128 := if_pos hk
          rw [u0] at W2
          rw [hk, if_pos (by decide), (k4 (-1)).1 rfl, Option.bind_some, nx]
          exact wT_ret ⟨by omega, rfl, by show (n : Int) + 1 = ((n + 1 : Nat) : Int); omega, W2⟩
        · have u1 : rnU m1 k ak (864 * k + pf q + (n : Int)) = m1 109 (864 * ak + (864 * k + pf q + (n : Int) - 864 * k)) := if_neg (by omega)
          have nd : ¬ rnD w h k sp q (n : Int) (864 * ak + pf q + (n : Int) / pw w q * pw w q + (n : Int) % pw w q) := fun e => by
            rcases e with ⟨q', c1, c2, c3, c4, -⟩ | ⟨c1, c2, -⟩
            · have := pl_sz (p := q') sw sh c1 (by omega)
              omega
            · omega
          have v1 := (W'.2.1 _ nd).1
          have st := (k4 ak).2 ak0 ak1 (by omega) (by omega)
          rw [v1, show 864 * ak + pf q + (n : Int) / pw w q * pw w q + (n : Int) % pw w q = 864 * ak + (864 * k + pf q + (n : Int) - 864 * k) by omega, ← u1] at st
          rw [hk, if_neg (by decide), ka m' (by rw [W'.2.2 76 (by decide) (by decide)]) m102, Option.bind_some, st, Option.bind_some, nx]
          exact wT_ret ⟨by omega, rfl, by show (n : Int) + 1 = ((n + 1 : Nat) : Int); omega, W2⟩
  obtain ⟨⟨z, m3⟩, e, e1, W3⟩ := l
  dsimp only at e1 W3
  rw [e1] at e
  exact ⟨m3, e, W3⟩
theorem k_277o (sw : isSd w) (sh : isSd h) (mw : m1 76 33 = w) (mh : m1 76 34 = h) (k0 : 0 ≤ k) (k1 : k < 12) (s0 : 0 ≤ sp) (s1 : sp ≤ 1000) (hk : m1 102 k = 0 ∨ (m1 102 k = 1 ∧ 0 ≤ ak ∧ ak < 12 ∧ ak ≠ k ∧ ∀ m' : jM, m' 76 36 = m1 76 36 → m' 102 = m1 102 → jd_239 k 1 m' = some ak)) : ∃ m3, jd_277_l55 k sp 0 m1 = some m3 ∧ Wr (rnD w h k sp 3 0) (rnU m1 k ak) m1 m3 := by
  have l : wT (jd_277_l55 k sp 0 m1) (fun o => Wr (rnD w h k sp 3 0) (rnU m1 k ak) m1 o) := by
    unfold jd_277_l55
    refine w_lp (fun n u => u.1 = sp - hiP w h (n : Int) ∧ u.2.1 = (n : Int) ∧ Wr (rnD w h k sp (n : Int) 0) (rnU m1 k ak) m1 u.2.2) 3 (fun n u hn hu => ?_) (n_fu (by omega)) ⟨by show sp = sp - hiP w h 0; rw [show hiP w h 0 = 0 from rfl]; omega, rfl, Wr_0 (fun j hj => by
      rcases hj with ⟨q', c1, c2, -⟩ | ⟨c1, c2, -⟩ <;> omega)⟩
    obtain ⟨z, i, m'⟩ := u
    obtain ⟨e1, e2, W'⟩ := hu
    dsimp only at e1 e2 W' ⊢
    subst e1 e2
    have mw' : m' 76 33 = w := by rw [W'.2.2 76 (by decide) (by decide)]; exact mw
    unfold jd_277_s55
    rw [n_jw (z := (n : Int)) (by omega) (by omega)]
    by_cases cn : (3 : Int) ≤ (n : Int)
    · rw [if_pos cn]
      rw [show (n : Int) = 3 by omega] at W'
      exact wT_ret W'
    · have hn3 : hiP w h (n : Int) = pb w h (n : Int) := if_neg (by omega)
      obtain ⟨m3, e3, W3⟩ := k_277i (q := (n : Int)) sw sh mw mh k0 k1 (by omega) (by omega) s0 s1 hk W'
      rw [if_neg cn, mw', k_206 (by unfold okI; omega) sw, hn3, e3, Option.bind_some]
      refine wT_ret ⟨by omega, ?_, by show (n : Int) + 1 = ((n + 1 : Nat) : Int); omega, Wr_c (fun j => ⟨fun e => ?_, fun e => ?_⟩) W3⟩
      · show sp - (pb w h (n : Int) + pw w (n : Int) * pw h (n : Int)) = sp - hiP w h ((n + 1 : Nat) : Int)
        rw [show ((n + 1 : Nat) : Int) = (n : Int) + 1 by omega, hiP_s sw sh (by omega) (by omega)]
      · rcases e with ⟨q', a1, a2, a3⟩ | e
        · exact Or.inl ⟨q', a1, by omega, a3⟩
        · exact Or.inl ⟨(n : Int), by omega, by omega, e⟩
      · rcases e with ⟨q', a1, a2, a3⟩ | ⟨a1, a2, -⟩
        · by_cases c : q' = (n : Int)
          · subst c; exact Or.inr a3
          · exact Or.inl ⟨q', a1, by omega, a3⟩
        · omega
  obtain ⟨m3, e, W3⟩ := l
  exact ⟨m3, e, W3⟩
theorem rnD_md (sw : isSd w) (sh : isSd h) (s0 : 0 ≤ sp) {x y : Int} (q0 : 0 ≤ q) (q2 : q ≤ 2) (x0 : 0 ≤ x) (x1 : x < pw w q) (y0 : 0 ≤ y) (y1 : y < pw h q) : rnD w h k sp 3 0 (864 * k + (pf q + (y * pw w q + x))) ↔ mdAt 2 sp w h q x y := by
  have db := dm_b (W := pw w q) (H := pw h q) y0 y1 x0 x1
  unfold mdAt
  rw [if_neg (by decide), if_neg (by decide)]
  refine ⟨fun e => ?_, fun e => Or.inl ⟨q, q0, by omega, by omega, by omega, by omega⟩⟩
  rcases e with ⟨q', a1, a2, a3, a4, a5⟩ | ⟨a1, a2, -⟩
  · by_cases c : q = q'
    · subst c; exact ⟨s0, by omega⟩
    · have := (pl_ne (p := q) (q := q') (k := y * pw w q + x) (j := 864 * k + (pf q + (y * pw w q + x)) - (864 * k + pf q')) sw sh q0 q2 (by omega) (by omega) c db.1 db.2 (by omega) (by omega)).2
      exact absurd (by omega) this
  · omega
theorem core_r (L : Lay s Q hm) (h6 : s.1 ≤ 1000000) (P : PcC s Q p) (hw : I p 0 = w) (hv : I p 1 = h) (sw : isSd w) (sh : isSd h) (mw : m 76 33 = w) (mh : m 76 34 = h) (k0 : 0 ≤ k) (k1 : k < 12) (hK : I 11 0 = m 102 k) (han : an = if m 102 k = 1 then Q 11 3 else none) (N : An s Q I m p w h k an ak) (R : BM s Q I m 10 A base i en) {x1 x2 : Option Nat} : ∃ f sp I1 m', ((jd_122 9 (some p) (hh s Q I)).bind fun q => jd_115_b126 9 x1 x2 k q.1 q.2) = jd_115_b145 9 x1 x2 k f (hh s Q I1) ∧ jd_277 k m = some m' ∧ Core 2 w h k p c (fun j => if m 102 k = 0 then 128 else m 109 (864 * ak + j)) I m I1 m' f sp := by
  have q1 : Q 9 ((1 : Nat) : Int) = some 11 := Lq L rfl
  obtain ⟨m0, hm0⟩ : ∃ z, z = jms m 76 69 0 := ⟨_, rfl⟩
  have o0 : ∀ a : Nat, a ≠ 76 → m0 a = m a := fun a ha => by rw [hm0]; exact jms_o ha
  have o1 : ∀ j : Int, j ≠ 69 → m0 76 j = m 76 j := fun j hj => by rw [hm0]; exact jms_i hj
  have N0 : An s Q I m0 p w h k an ak := by
    rcases N with ⟨e1, e2⟩ | ⟨b, e1, e2, e3, e4, e5, e6, e7, e8, e9⟩
    · exact Or.inl ⟨e1, by rw [o0 102 (by decide)]; exact e2⟩
    · exact Or.inr ⟨b, e1, by rw [o0 102 (by decide)]; exact e2, e3, e4, e5, e6, e7, fun m' h1 h2 => e8 m' (h1.trans (o1 36 (by decide))) (h2.trans (o0 102 (by decide))), fun q j a1 a2 a3 a4 => by rw [o0 109 (by decide)]; exact e9 q j a1 a2 a3 a4⟩
  have R0 : BM s Q I m0 10 A base i en := BM_fr R rfl rfl rfl (o1 49 (by decide)) (o1 50 (by decide)) (o1 51 (by decide)) (o1 52 (by decide)) (o0 112 (by decide))
  have kr : m 102 k = 0 ∨ m 102 k = 1 := by
    rcases N with ⟨-, e2⟩ | ⟨b, -, e2, -⟩
    · exact Or.inl e2
    · exact Or.inr e2
  have C0 : jd_122 9 (some p) (hh s Q I) = jd_122_b22 9 (some p) an (hh s Q I) := by
    have hK' : I 11 ((0 : Nat) : Int) = m 102 k := hK
    unfold jd_122
    rw [y_gr L 9 8 rfl rfl, Option.bind_some, q1, Option.bind_some, y_gi L 11 5 rfl rfl, Option.bind_some, hK', n_jw (by omega) (by omega)]
    rcases kr with e | e
    · rw [han, if_neg (by omega), if_neg (by omega)]
    · rw [han, if_pos e, if_pos e, Option.bind_some, Option.bind_some, y_gr L 11 5 rfl rfl, Option.bind_some]
      rfl
  obtain ⟨x, y, ex, ey, f, sp, I', hx, b2, f7, s0, s1, y69, i96, fu, fv, ok, ahd, dd⟩ := runs_l L h6 P hw hv sw sh ((o1 33 (by decide)).trans mw) ((o1 34 (by decide)).trans mh) (by rw [hm0]; exact jms_e) k0 k1 N0 R0
  have P1 := P.1
  have fr : ∀ a : Nat, a < 9 ∨ (24 < a ∧ a ≠ 41) → a ≠ p + 1 → a ≠ c + 12 → I' a = I a := fun a ha h1 _ => fu a (by omega) (by omega) (by omega) h1
  have k102 : y 102 = m 102 := (fv.1 102 (by decide) (by decide)).trans (o0 102 (by decide))
  have y108 : y 108 = m 108 := (fv.1 108 (by decide) (by decide)).trans (o0 108 (by decide))
  have y110 : y 110 = m 110 := (fv.1 110 (by decide) (by decide)).trans (o0 110 (by decide))
  have yd : ∀ j : Int, j < 864 * k ∨ 864 * k + 864 ≤ j → y 109 j = m 109 j := fun j hj => (dd j hj).trans (by rw [o0 109 (by decide)])
  have yo : ∀ a : Nat, a ≠ 76 → a ≠ 109 → y a = m a := fun a h1 h2 => (fv.1 a h1 h2).trans (o0 a h1)
  have y76 : ∀ j : Int, j < 51 ∨ 69 < j → y 76 j = m 76 j := fun j hj => (fv.2 j (by omega)).trans (o1 j (by omega))
  rcases hx with ⟨rfl, f1⟩ | ⟨rfl, rfl, rfl⟩
  · have hk : jms y 108 k sp 102 k = 0 ∨ (jms y 108 k sp 102 k = 1 ∧ 0 ≤ ak ∧ ak < 12 ∧ ak ≠ k ∧ ∀ m' : jM, m' 76 36 = jms y 108 k sp 76 36 → m' 102 = jms y 108 k sp 102 → jd_239 k 1 m' = some ak) := by
      rw [jms_o (by decide), jms_o (by decide), k102]
      rcases N with ⟨e1, e2⟩ | ⟨b, e1, e2, e3, e4, e5, e6, e7, e8, e9⟩
      · exact Or.inl e2
      · exact Or.inr ⟨e2, e5, e6, e7, fun m' h1 h2 => e8 m' (h1.trans (y76 36 (by decide))) h2⟩
    obtain ⟨m3, e3, W⟩ := k_277o (m1 := jms y 108 k sp) (sp := sp) (ak := ak) sw sh (by rw [jms_o (by decide)]; exact (y76 33 (by decide)).trans mw) (by rw [jms_o (by decide)]; exact (y76 34 (by decide)).trans mh) k0 k1 s0 (by omega) hk
    have m76 : m3 76 = y 76 := by rw [W.2.2 76 (by decide) (by decide), jms_o (by decide)]
    refine ⟨f, sp, I', m3, ?_, ?_, ⟨by omega, f7, by rw [m76]; exact b2⟩, fun _ => ⟨i96, s0, by omega, ?_⟩, fun hf => absurd hf (by omega), fun q x y' q0 q2 x0 x1 y0 y1 => ?_, fun j hj => ?_, fr, fun a g1 g2 g3 g4 g5 g6 => ?_, fun j hj => ?_, congrFun (fu 11 (by decide) (by decide) (by decide) (by omega)) 0⟩
    · rw [C0]
      unfold jd_122_b22
      rw [ex, Option.bind_some, jse_l, Option.bind_some]
      exact b126_ne f1 f7
    · unfold jd_277
      rw [Option.bind_some, ← hm0, ey, Option.bind_some, if_neg (br_1 (m := y) b2 f1 f7), y69, y_mw 108 12 rfl rfl k0 k1, Option.bind_some, jms_o (show (76 : Nat) ≠ 108 by decide), y69, e3, Option.bind_some]
    · rw [W.2.2 108 (by decide) (by decide)]
      funext z
      unfold jms
      rw [if_pos rfl, y108]
    · have mp := rnD_md (k := k) sw sh s0 q0 q2 x0 x1 y0 y1
      have db := dm_b (W := pw w q) (H := pw h q) y0 y1 x0 x1
      have ps := pl_sz sw sh q0 q2
      refine ⟨fun hc => ?_, fun _ hd => ?_⟩
      · have nd : ¬ mdAt 2 sp w h q x y' := hc.resolve_left (by omega)
        have := W.2.1 _ (fun e => nd (mp.1 e))
        rw [this.1, this.2, jms_o (by decide), jms_o (by decide), y110]
        have lt : pb w h q + (y' * pw w q + x) < sp := by
          unfold mdAt at nd
          rw [if_neg (by decide), if_neg (by decide)] at nd
          omega
        have := ahd q (y' * pw w q + x) q0 q2 db.1 db.2 lt
        exact ⟨this.1, this.2.1, this.2.2, rfl⟩
      · have := W.1 _ (mp.2 hd)
        refine ⟨this.1.trans ?_, this.2⟩
        unfold rnU
        rw [jms_o (show (102 : Nat) ≠ 108 by decide), jms_o (show (109 : Nat) ≠ 108 by decide), k102, show 864 * k + (pf q + (y' * pw w q + x)) - 864 * k = pf q + (y' * pw w q + x) by omega]
        rcases N with ⟨e1, e2⟩ | ⟨b, e1, e2, e3, e4, e5, e6, e7, e8, e9⟩
        · dsimp only
          rw [if_pos e2, if_pos e2]
        · dsimp only
          rw [if_neg (by omega), if_neg (by omega)]
          exact yd _ (by omega)
    · have nd : ¬ rnD w h k sp 3 0 j := fun e => by
        rcases e with ⟨q, c1, c2, c3, c4, -⟩ | ⟨c1, c2, -⟩
        · have := pl_sz (p := q) sw sh (by omega) (by omega)
          omega
        · omega
      have := W.2.1 j nd
      rw [this.1, this.2, jms_o (by decide), jms_o (by decide), y110]
      exact ⟨yd j hj, rfl⟩
    · rw [W.2.2 a g3 g4, jms_o g2]
      exact yo a g1 g3
    · rw [m76]
      exact y76 j hj
  · obtain ⟨i', R'⟩ := ok rfl
    obtain ⟨e, I2, m2, g1, g2, g3, g4, g5, g6⟩ := ends2 R'
    have C1 : ((jd_122 9 (some p) (hh s Q I)).bind fun q => jd_115_b126 9 x1 x2 k q.1 q.2) = jd_115_b145 9 x1 x2 k (if jw e = 0 then 6 else 0) (hh s Q I2) := by
      rw [C0]
      unfold jd_122_b22
      rw [ex, Option.bind_some, jse_r, Option.bind_some]
      exact b126_0 L g1
    have lt : ∀ q x y : Int, 0 ≤ q → q ≤ 2 → 0 ≤ x → x < pw w q → 0 ≤ y → y < pw h q → pb w h q + (y * pw w q + x) < hiP w h 3 := fun q x y q0 q2 x0 x1 y0 y1 => by
      have db := dm_b (W := pw w q) (H := pw h q) y0 y1 x0 x1
      have tot : hiP w h 3 = pb w h 2 + pw w 2 * pw h 2 := if_pos rfl
      have p2 := pl_sz (p := 2) sw sh (by decide) (by decide)
      by_cases c2 : q = 2
      · subst c2; omega
      · have := (pl_dj (p := q) (q := 2) sw sh q0 q2 (by decide) (by decide) (by omega)).1
        omega
    have nm : ∀ q x y : Int, 0 ≤ q → q ≤ 2 → 0 ≤ x → x < pw w q → 0 ≤ y → y < pw h q → ¬ mdAt 2 (hiP w h 3) w h q x y := fun q x y q0 q2 x0 x1 y0 y1 hd => by
      have := lt q x y q0 q2 x0 x1 y0 y1
      unfold mdAt at hd
      rw [if_neg (by decide), if_neg (by decide)] at hd
      omega
    have smp : ∀ (mm : jM), (mm 109 = y 109) → (mm 110 = y 110) → ∀ q x y : Int, 0 ≤ q → q ≤ 2 → 0 ≤ x → x < pw w q → 0 ≤ y → y < pw h q → I2 (p + 1) (pb w h q + (y * pw w q + x)) = mm 109 (864 * k + (pf q + (y * pw w q + x))) ∧ 0 ≤ mm 109 (864 * k + (pf q + (y * pw w q + x))) ∧ mm 109 (864 * k + (pf q + (y * pw w q + x))) ≤ 255 ∧ mm 110 (864 * k + (pf q + (y * pw w q + x))) = m 110 (864 * k + (pf q + (y * pw w q + x))) := fun mm h1 h2 q x y q0 q2 x0 x1 y0 y1 => by
      have db := dm_b (W := pw w q) (H := pw h q) y0 y1 x0 x1
      rw [g3 (p + 1) (by omega), h1, h2, y110]
      have := ahd q (y * pw w q + x) q0 q2 db.1 db.2 (lt q x y q0 q2 x0 x1 y0 y1)
      exact ⟨this.1, this.2.1, this.2.2, rfl⟩
    have fr2 : ∀ a : Nat, a < 9 ∨ (24 < a ∧ a ≠ 41) → a ≠ p + 1 → a ≠ c + 12 → I2 a = I a := fun a ha h1 h2 => by
      rw [g3 a (by omega)]
      exact fr a ha h1 h2
    rcases g6 with ⟨rfl, b0⟩ | ⟨rfl, b6⟩
    · rw [if_neg (by decide)] at C1
      refine ⟨0, hiP w h 3, I2, m2, C1, ?_, ⟨by decide, by decide, b0⟩, fun hf => absurd rfl hf, fun _ => ?_, fun q x y q0 q2 x0 x1 y0 y1 => ⟨fun _ => smp m2 (g4 109 (by decide)) (g4 110 (by decide)) q x y q0 q2 x0 x1 y0 y1, fun hf => absurd rfl hf⟩, fun j hj => ?_, fr2, fun a h1 h2 h3 h4 h5 h6 => ?_, fun j hj => ?_, congrFun ((g3 11 (by decide)).trans (fu 11 (by decide) (by decide) (by decide) (by omega))) 0⟩
      · unfold jd_277
        rw [Option.bind_some, ← hm0, ey, Option.bind_some, if_pos (BM_b1 R'), g2, Option.bind_some, if_pos (show jw (m2 76 52) ≤ 0 by rw [b0]; decide)]
        rfl
      · rw [g4 108 (by decide)]
        exact y108
      · rw [g4 109 (by decide), g4 110 (by decide), y110]
        exact ⟨yd j hj, rfl⟩
      · rw [g4 a h1]
        exact yo a h1 h3
      · rw [g5 j (by omega)]
        exact y76 j hj
    · rw [if_pos (by decide)] at C1
      refine ⟨6, hiP w h 3, I2, jms m2 108 k (hiP w h 3), C1, ?_, ⟨by decide, by decide, by rw [jms_o (by decide)]; exact b6⟩, fun _ => ⟨?_, s0, by omega, ?_⟩, fun hf => absurd hf (by decide), fun q x y q0 q2 x0 x1 y0 y1 => ⟨fun _ => smp (jms m2 108 k (hiP w h 3)) ((jms_o (by decide)).trans (g4 109 (by decide))) ((jms_o (by decide)).trans (g4 110 (by decide))) q x y q0 q2 x0 x1 y0 y1, fun _ hd => absurd hd (nm q x y q0 q2 x0 x1 y0 y1)⟩, fun j hj => ?_, fr2, fun a h1 h2 h3 h4 h5 h6 => ?_, fun j hj => ?_, congrFun ((g3 11 (by decide)).trans (fu 11 (by decide) (by decide) (by decide) (by omega))) 0⟩
      · unfold jd_277
        rw [Option.bind_some, ← hm0, ey, Option.bind_some, if_pos (BM_b1 R'), g2, Option.bind_some, if_neg (br_1 (m := m2) b6 (by decide) (by decide)), g5 69 (by decide), y69, y_mw 108 12 rfl rfl k0 k1, Option.bind_some]
        rfl
      · rw [g3 9 (by decide)]
        exact i96
      · funext z
        unfold jms
        rw [if_pos rfl, g4 108 (by decide), y108]
      · rw [jms_o (by decide), jms_o (by decide), g4 109 (by decide), g4 110 (by decide), y110]
        exact ⟨yd j hj, rfl⟩
      · rw [jms_o h2, g4 a h1]
        exact yo a h1 h3
      · rw [jms_o (by decide), g5 j (by omega)]
        exact y76 j hj
end CoreR
