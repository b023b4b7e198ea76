/-! a plane of waves read by both sides; all three -/
theorem w_lp3 {S X T Y : Type} {f : S → Option (S ⊕ X)} {g : T → Option (T ⊕ Y)} {Q : X → Y → Prop} (Inv : Nat → S → T → Prop) (n : Nat) (st : ∀ k s t, k ≤ n → Inv k s t → (∃ s' t', f s = some (.inl s') ∧ g t = some (.inl t') ∧ k < n ∧ Inv (k + 1) s' t') ∨ (∃ x y, f s = some (.inr x) ∧ (∀ e, jlp g (e + 2) t = some y) ∧ Q x y)) {fu fv : Nat} (hn : n < fu) (hv : n + 1 < fv) {s0 : S} {t0 : T} (h0 : Inv 0 s0 t0) : ∃ x y, jlp f fu s0 = some x ∧ jlp g fv t0 = some y ∧ Q x y := by
  have key : ∀ d k fu fv s t, k + d = n → d < fu → d + 1 < fv → Inv k s t → ∃ x y, jlp f fu s = some x ∧ jlp g fv t = some y ∧ Q x y := by
    intro d
    induction d with
    | zero =>
      intro k fu fv s t hk hf hg hi
      obtain ⟨fu, rfl⟩ : ∃ e, fu = e + 1 := ⟨fu - 1, by omega⟩
      obtain ⟨fv, rfl⟩ : ∃ e, fv = e + 2 := ⟨fv - 2, by omega⟩
      rcases st k s t (by omega) hi with ⟨s', t', _, _, hlt, _⟩ | ⟨x, y, e1, e2, hq⟩
      · omega
      · exact ⟨x, y, by simp only [jlp, e1], e2 fv, hq⟩
    | succ d ih =>
      intro k fu fv s t hk hf hg hi
      obtain ⟨fu, rfl⟩ : ∃ e, fu = e + 1 := ⟨fu - 1, by omega⟩
      obtain ⟨fv, rfl⟩ : ∃ e, fv = e + 2 := ⟨fv - 2, by omega⟩
      rcases st k s t (by omega) hi with ⟨s', t', e1, e2, hlt, hi'⟩ | ⟨x, y, e1, e2, hq⟩
      · obtain ⟨x, y, r1, r2, hq⟩ := ih (k + 1) fu (fv + 1) s' t' (by omega) (by omega) (by omega) hi'
        exact ⟨x, y, by simp only [jlp, e1, r1], by rw [jlp, e2]; exact r2, hq⟩
      · exact ⟨x, y, by simp only [jlp, e1], e2 fv, hq⟩
  exact key n 0 fu fv s0 t0 (by omega) hn hv h0
theorem jlp_1 {S X : Type} {f : S → Option (S ⊕ X)} {t : S} {y : X} (h : f t = some (.inr y)) (e : Nat) : jlp f (e + 1) t = some y := by simp only [jlp, h]
theorem jlp_2 {S X : Type} {f : S → Option (S ⊕ X)} {t t' : S} {y : X} (h : f t = some (.inl t')) (h' : f t' = some (.inr y)) (e : Nat) : jlp f (e + 2) t = some y := by
  rw [jlp, h]
  exact jlp_1 h' e
theorem jse_l {A B C : Type} {a : A} {f : A → C} {g : B → C} : jse (.inl a) f g = f a := rfl
theorem jse_r {A B C : Type} {b : B} {f : A → C} {g : B → C} : jse (.inr b) f g = g b := rfl
section WRead
variable {s : hS} {Q : hQ} {hm : hO} {I m : jM} {A p : Nat} {base i en w h k pl : Int}
def PcC (s : hS) (Q : hQ) (p : Nat) : Prop := 153 ≤ p ∧ p < s.1 ∧ s.2.2.1 p = 14 ∧ p + 1 < s.1 ∧ s.2.2.1 (p + 1) = 0 ∧ s.2.2.2 (p + 1) = 864 ∧ Q p 2 = some (p + 1)
def fP (p : Nat) (I I' : jM) : Prop := ∀ a : Nat, a ≠ 10 → a ≠ 22 → a ≠ 23 → a ≠ p + 1 → I' a = I a
def fQ (m m' : jM) : Prop := (∀ a : Nat, a ≠ 76 → a ≠ 109 → a ≠ 118 → a ≠ 119 → a ≠ 120 → m' a = m a) ∧ (∀ k : Int, k < 51 ∨ 52 < k → m' 76 k = m 76 k)
theorem fP_t {I1 I2 I3 : jM} (a : fP p I1 I2) (b : fP p I2 I3) : fP p I1 I3 := fun x h1 h2 h3 h4 => (b x h1 h2 h3 h4).trans (a x h1 h2 h3 h4)
theorem fQ_t {I1 I2 I3 : jM} (a : fQ I1 I2) (b : fQ I2 I3) : fQ I1 I3 := ⟨fun x h1 h2 h3 h4 h5 => (b.1 x h1 h2 h3 h4 h5).trans (a.1 x h1 h2 h3 h4 h5), fun k hk => (b.2 k hk).trans (a.2 k hk)⟩
theorem fP_W {I I' : jM} (a : fW I I') : fP p I I' := fun x h1 h2 h3 _ => a x h1 h2 h3
theorem fQ_N {m m' : jM} (a : fN m m') : fQ m m' := ⟨fun x h1 _ h3 h4 h5 => a.1 x h1 h3 h4 h5, a.2⟩
theorem pw4 (sw : isSd w) (pl : Int) : ∃ a : Nat, pw w pl = 4 * (a : Int) ∧ 1 ≤ a ∧ a ≤ 6 := by
  have := pw_sd sw pl
  exact ⟨(pw w pl / 4).toNat, by omega, by omega, by omega⟩
theorem BM_A (L : Lay s Q hm) (R : BM s Q I m 10 A base i en) {x : Nat} (hx : Nat.blt x 76 = true) (ht : (sk x).1 ≠ 1) : A ≠ x := fun e => ht (by have := Lg L hx rfl; rw [← e, R.1.2.1.2.1] at this; rw [e] at this; exact this.symm)
theorem BM_Ap (R : BM s Q I m 10 A base i en) (P : PcC s Q p) : A ≠ p + 1 := fun e => by
  have a1 := R.1.2.1.2.1
  have a2 := P.2.2.2.2.1
  rw [e, a2] at a1
  exact absurd a1 (by decide)
theorem held_b {v : Int} (h0 : -10000000 ≤ v) (h1 : v ≤ 10000000) : jd_183 v = jd_205 (jw v) 0 255 ∧ 0 ≤ jd_183 v ∧ jd_183 v ≤ 255 := by
  unfold jd_183 jd_205
  rw [n_jw (z := v) (by omega) (by omega), n_jwl (z := v) (by omega) (by omega), n_jw (z := 0) (by decide) (by decide), n_jw (z := 255) (by decide) (by decide)]
  by_cases c : 0 ≤ v
  · rw [if_pos c]
    by_cases d : v ≤ 255
    · rw [if_pos d]; omega
    · rw [if_neg d]; omega
  · rw [if_neg c]; omega
theorem k_274a {a b : Nat} {y : jM ⊕ (jM ⊕ jM)} (ok : okI pl) (sw : isSd w) (sh : isSd h) (mw : m 76 33 = w) (mh : m 76 34 = h) (ea : pw w pl = 4 * (a : Int)) (eb : pw h pl = 4 * (b : Int)) (a1 : a ≤ 6) (b1 : b ≤ 6) (e2 : jd_274_l22 k pl (pw w pl) (pw h pl) 0 m = some y) : jd_274 k pl m = (jse y (fun y29 => some y29) (fun y30 => jse y30 (fun y31 => some y31) (fun y32 => ((jd_273 (4 * (a : Int)) (2 * (a : Int)) (2 * (b : Int)) 0 1 y32).bind fun m33 => ((jd_273 (4 * (a : Int)) (2 * (a : Int)) (2 * (b : Int)) 1 1 m33).bind fun m35 => ((jd_273 (4 * (a : Int)) (4 * (a : Int)) (4 * (b : Int)) 0 1 m35).bind fun m37 => ((jd_273 (4 * (a : Int)) (4 * (a : Int)) (4 * (b : Int)) 1 1 m37).bind fun m39 => ((jd_274_l235 k pl (4 * (a : Int)) (4 * (b : Int)) 0 m39).bind fun x46 => some x46)))))))) := by
  unfold jd_274
  rw [mw, mh, k_206 ok sw, k_206 ok sh, e2, Option.bind_some, ea, eb, n_div (z := 4 * (a : Int)) (by omega) (by omega) (by decide) (by decide), n_div (z := 4 * (b : Int)) (by omega) (by omega) (by decide) (by decide), show 4 * (a : Int) / 2 = 2 * (a : Int) by omega, show 4 * (b : Int) / 2 = 2 * (b : Int) by omega]
theorem c_132a {a b : Nat} {N : Int} {x : jH ⊕ (jH ⊕ (jH ⊕ (jH ⊕ jH)))} (L : Lay s Q hm) (P2 : p < s.1) (P3 : s.2.2.1 p = 14) (t14 : s.2.2.1 p = 6 + 8) (ok : okI pl) (hw : I p 0 = w) (hv : I p 1 = h) (sw : isSd w) (sh : isSd h) (ea : pw w pl = 4 * (a : Int)) (eb : pw h pl = 4 * (b : Int)) (hN : pw w pl * pw h pl = N) (a1 : a ≤ 6) (b1 : b ≤ 6) (e1 : jd_133_l5 21 (some 10) N 0 0 (hh s Q I) = some x) : jd_132 21 (some 10) (some p) pl (hh s Q I) = ((jse x (fun y39 => (((some 10 : Option Nat)).bind fun a41 => ((jgi y39 a41 0 3).bind fun v43 => some (v43, y39)))) (fun y40 => jse y40 (fun y45 => some (4, y45)) (fun y46 => jse y46 (fun y47 => (((some 10 : Option Nat)).bind fun a49 => ((jgi y47 a49 0 3).bind fun v51 => some (v51, y47)))) (fun y48 => jse y48 (fun y53 => some (5, y53)) (fun y54 => some (0, y54)))))) : Option (Int × jH)).bind fun q15 => (if (jw q15.1) = 0 then ((jck q15.2 21 10).bind fun u18 => ((jd_136 21 (4 * (a : Int)) (2 * (a : Int)) (2 * (b : Int)) q15.2).bind fun h20 => ((jck h20 21 10).bind fun u22 => ((jd_136 21 (4 * (a : Int)) (4 * (a : Int)) (4 * (b : Int)) h20).bind fun h24 => ((some p).bind fun a26 => ((jck h24 a26 6).bind fun u28 => ((jd_98 a26 pl h24).bind fun v30 => ((jd_132_l68 21 (some p) (4 * (a : Int)) (4 * (b : Int)) v30 0 h24).bind fun x47 => some (0, x47))))))))) else some (q15.1, q15.2)) := by
  unfold jd_132
  rw [Option.bind_some, x_ck P2 t14, Option.bind_some, c_96 P2 P3 hw sw ok, Option.bind_some, Option.bind_some, x_ck P2 t14, Option.bind_some, c_97 P2 P3 hv sh ok, Option.bind_some, y_ck L 21 10 rfl rfl, Option.bind_some, hN]
  unfold jd_133
  rw [e1, Option.bind_some, ea, eb, n_div (z := 4 * (a : Int)) (by omega) (by omega) (by decide) (by decide), n_div (z := 4 * (b : Int)) (by omega) (by omega) (by decide) (by decide), show 4 * (a : Int) / 2 = 2 * (a : Int) by omega, show 4 * (b : Int) / 2 = 2 * (b : Int) by omega]
theorem c_132l {a b : Nat} {N : Int} {I2 : jM} (L : Lay s Q hm) (h6 : s.1 ≤ 1000000) (P : PcC s Q p) (hN4 : 4 * (a : Int) * (4 * (b : Int)) = N) (N0 : 0 ≤ N) (N1 : N ≤ 576) (b0 : 0 ≤ pb w h pl) (bN : pb w h pl + N ≤ 864) : jd_132_l68 21 (some p) (4 * (a : Int)) (4 * (b : Int)) (pb w h pl) 0 (hh s Q I2) = some (hh s Q (ims I2 (p + 1) (wf (fun j => pb w h pl + j) (fun j _ => jd_183 (I2 22 j)) (I2 (p + 1)) N.toNat))) := by
  obtain ⟨P1, P2, P3, P4, P5, P6, P7⟩ := id P
  have t14 : s.2.2.1 p = 6 + 8 := P3
  have q2 : Q p ((2 : Nat) : Int) = some (p + 1) := P7
  have q0 : Q 21 ((0 : Nat) : Int) = some 22 := Lq L rfl
  have := lpC (f := fun u : (Int × jH) => jd_132_s68 21 (some p) (4 * (a : Int)) (4 * (b : Int)) (pb w h pl) u.1 u.2) (ct := fun k => k) (ix := fun j => pb w h pl + j) (v := fun j _ => jd_183 (I2 22 j)) (J := I2) (a := p + 1) (s := s) (Q := Q) N.toNat (fun k G hk => by
    dsimp only
    unfold jd_132_s68
    have e1 : ims I2 (p + 1) G 22 = I2 22 := ims_o (by omega)
    rw [hN4, n_jw (z := N) (by omega) (by omega), n_jw (z := (k : Int)) (by omega) (by omega), if_neg (by omega), Option.bind_some, x_gr P2 t14, Option.bind_some, y_gr L 21 10 rfl rfl, Option.bind_some, q0, Option.bind_some, y_ai L h6 22 576 rfl rfl rfl (by omega) (by omega), Option.bind_some, q2, Option.bind_some, x_ta P4 P5 (by omega) (by rw [P6]; omega) (by rw [P6]; decide), Option.bind_some, ims_jms, e1]) (fun G => by
    dsimp only
    unfold jd_132_s68
    rw [hN4, n_jw (z := N) (by omega) (by omega), n_jw (by omega) (by omega), if_pos (by omega)]) (by omega) (I2 (p + 1))
  rw [ims_self] at this
  exact this
theorem k_274l {a b : Nat} {N : Int} {m5 : jM} (ok : okI pl) (k0 : 0 ≤ k) (k1 : k < 12) (hN4 : 4 * (a : Int) * (4 * (b : Int)) = N) (N0 : 0 ≤ N) (N1 : N ≤ 576) (f0 : 0 ≤ pf pl) (fN : pf pl + N ≤ 864) : jd_274_l235 k pl (4 * (a : Int)) (4 * (b : Int)) 0 m5 = some (ims m5 109 (wf (fun j => 864 * k + pf pl + j) (fun j _ => jd_205 (jw (m5 118 j)) 0 255) (m5 109) N.toNat)) := by
  have := lpM (f := fun u : (Int × jM) => jd_274_s235 k pl (4 * (a : Int)) (4 * (b : Int)) u.1 u.2) (ct := fun k => k) (ix := fun j => 864 * k + pf pl + j) (v := fun j _ => jd_205 (jw (m5 118 j)) 0 255) (m := m5) (a := 109) N.toNat (fun k' G hk => by
    dsimp only
    unfold jd_274_s235
    have e1 : ims m5 109 G 118 = m5 118 := ims_o (by decide)
    rw [hN4, n_jw (z := N) (by omega) (by omega), n_jw (z := (k' : Int)) (by omega) (by omega), if_neg (by omega), y_ma 118 576 rfl rfl (by omega) (by omega), Option.bind_some, k_207 ok, y_mw 109 10368 rfl rfl (by omega) (by omega), Option.bind_some, ims_jms, e1]) (fun G => by
    dsimp only
    unfold jd_274_s235
    rw [hN4, n_jw (z := N) (by omega) (by omega), n_jw (by omega) (by omega), if_pos (by omega)]) (by omega) (m5 109)
  rw [ims_self] at this
  exact this
theorem wplane (L : Lay s Q hm) (h6 : s.1 ≤ 1000000) (P : PcC s Q p) (hw : I p 0 = w) (hv : I p 1 = h) (sw : isSd w) (sh : isSd h) (mw : m 76 33 = w) (mh : m 76 34 = h) (p0 : 0 ≤ pl) (p2 : pl ≤ 2) (k0 : 0 ≤ k) (k1 : k < 12) (R : BM s Q I m 10 A base i en) : ∃ f I' m', jd_132 21 (some 10) (some p) pl (hh s Q I) = some (f, hh s Q I') ∧ jd_274 k pl m = some m' ∧ fP p I I' ∧ fQ m m' ∧ m' 76 52 = f ∧ 0 ≤ f ∧ f ≤ 7 ∧ (f = 0 → (∃ i', BM s Q I' m' 10 A base i' en) ∧ ∃ V : Int → Int, (∀ j, 0 ≤ j → j < pw w pl * pw h pl → 0 ≤ V j ∧ V j ≤ 255) ∧ I' (p + 1) = wf (fun j => pb w h pl + j) (fun j _ => V j) (I (p + 1)) (pw w pl * pw h pl).toNat ∧ m' 109 = wf (fun j => 864 * k + pf pl + j) (fun j _ => V j) (m 109) (pw w pl * pw h pl).toNat) ∧ (f ≠ 0 → I' (p + 1) = I (p + 1) ∧ m' 109 = m 109) := by
  obtain ⟨P1, P2, P3, P4, P5, P6, P7⟩ := id P
  have ok : okI pl := by unfold okI; omega
  obtain ⟨a, ea, a0, a1⟩ := pw4 sw pl
  obtain ⟨b, eb, b0, b1⟩ := pw4 sh pl
  have sz := pl_sz sw sh p0 p2
  obtain ⟨N, hN⟩ : ∃ N, pw w pl * pw h pl = N := ⟨_, rfl⟩
  rw [hN] at sz
  have hN4 : 4 * (a : Int) * (4 * (b : Int)) = N := by rw [← ea, ← eb]; exact hN
  have aA : A ≠ 22 ∧ A ≠ 23 := ⟨BM_A L R rfl (by decide), BM_A L R rfl (by decide)⟩
  have q2 : Q p ((2 : Nat) : Int) = some (p + 1) := P7
  have q0 : Q 21 ((0 : Nat) : Int) = some 22 := Lq L rfl
  obtain ⟨x, y, e1, e2, I1, m1, f1, f2, hc⟩ := wnum_l (x1 := k) (x2 := pl) L R aA hN (by omega) sz.2.2.2.1
  have t14 : s.2.2.1 p = 6 + 8 := P3
  have g1 : I1 p = I p := f1 p (by omega) (by omega) (by omega)
  have g2 : I1 (p + 1) = I (p + 1) := f1 (p + 1) (by omega) (by omega) (by omega)
  have g3 : m1 109 = m 109 := f2.1 109 (by decide) (by decide) (by decide) (by decide)
  have M0 := k_274a ok sw sh mw mh ea eb a1 b1 e2
  have C0 := c_132a L P2 P3 t14 ok hw hv sw sh ea eb hN a1 b1 e1
  rcases hc with ⟨ex, ey, ⟨i', R1⟩, eqs⟩ | ⟨f, fl, fh, hf, ey, ex⟩
  · obtain ⟨Y, Y', G, d1, d2⟩ := c_136t (I := I1) L h6 a0 a1 b0 b1 (by omega)
    obtain ⟨m2, m3, m4, X, Z, d3, d4, d5, d6⟩ := k_273t (m := m1) a0 a1 b0 b1 (by omega)
    rw [ex] at C0
    rw [ey] at M0
    obtain ⟨I2, hI2⟩ : ∃ J, J = ims (ims I1 23 Y') 22 (lwP a b (I1 22)) := ⟨_, rfl⟩
    obtain ⟨m5, hm5⟩ : ∃ J, J = ims (ims (ims m1 119 X) 120 Z) 118 (lwP a b (m1 118)) := ⟨_, rfl⟩
    rw [← hI2] at d2
    rw [← hm5] at d6
    have w2 : fW I1 I2 := by rw [hI2]; exact fun x _ h2 h3 => by rw [ims_o h2, ims_o h3]
    have n5 : fN m1 m5 := by rw [hm5]; exact ⟨fun x _ h2 h3 h4 => by rw [ims_o h2, ims_o h4, ims_o h3], fun k _ => by rw [ims_o (by decide), ims_o (by decide), ims_o (by decide)]⟩
    have v2 : I2 22 = lwP a b (I1 22) := by rw [hI2, ims_e]
    have v5 : m5 118 = lwP a b (m1 118) := by rw [hm5, ims_e]
    have R2 : BM s Q I2 m5 10 A base i' en := BM_W R1 aA w2 (by rw [hI2, ims_o (by decide), ims_o (by decide)]) n5 (by rw [hm5, ims_o (by decide), ims_o (by decide), ims_o (by decide)])
    have gp : I2 p = I p := (w2 p (by omega) (by omega) (by omega)).trans g1
    have gq : I2 (p + 1) = I (p + 1) := (w2 (p + 1) (by omega) (by omega) (by omega)).trans g2
    have gm : m5 109 = m 109 := (n5.1 109 (by decide) (by decide) (by decide) (by decide)).trans g3
    have val : ∀ j : Int, 0 ≤ j → j < N → jd_183 (I2 22 j) = jd_205 (jw (m5 118 j)) 0 255 ∧ 0 ≤ jd_183 (I2 22 j) ∧ jd_183 (I2 22 j) ≤ 255 := fun j j0 j1 => by
      have c1 := lwP_c (a := a) (b := b) (G := I1 22) (G' := m1 118) (fun j j0 j1 => (eqs j j0 (by omega)).1) j j0 (by omega)
      have c2 := lwP_b (a := a) (b := b) (G := m1 118) (fun j j0 j1 => (eqs j j0 (by omega)).2) j j0 (by omega)
      rw [v2, v5, ← c1]
      rw [← c1] at c2
      exact held_b c2.1 c2.2
    have l1 := c_132l (I2 := I2) (w := w) (h := h) (pl := pl) L h6 P hN4 (by omega) sz.2.2.2.1 sz.1 sz.2.1
    have l2 := k_274l (m5 := m5) ok k0 k1 hN4 (by omega) sz.2.2.2.1 sz.2.2.2.2.1 sz.2.2.2.2.2
    have wfe : wf (fun j => 864 * k + pf pl + j) (fun j _ => jd_205 (jw (m5 118 j)) 0 255) (m5 109) N.toNat = wf (fun j => 864 * k + pf pl + j) (fun j _ => jd_183 (I2 22 j)) (m5 109) N.toNat := wf_c (fun j _ hj => ((val j (by omega) (by omega)).1).symm)
    rw [wfe] at l2
    obtain ⟨W1, hW1⟩ : ∃ W, W = wf (fun j => pb w h pl + j) (fun j _ => jd_183 (I2 22 j)) (I2 (p + 1)) N.toNat := ⟨_, rfl⟩
    obtain ⟨W2, hW2⟩ : ∃ W, W = wf (fun j => 864 * k + pf pl + j) (fun j _ => jd_183 (I2 22 j)) (m5 109) N.toNat := ⟨_, rfl⟩
    rw [← hW1] at l1
    rw [← hW2] at l2
    have CC : jd_132 21 (some 10) (some p) pl (hh s Q I) = some (0, hh s Q (ims I2 (p + 1) W1)) := by
      rw [C0, jse_r, jse_r, jse_r, jse_r, Option.bind_some, if_pos (show jw ((0, hh s Q I1) : Int × jH).1 = 0 from rfl), y_ck L 21 10 rfl rfl, Option.bind_some, d1, Option.bind_some, y_ck L 21 10 rfl rfl, Option.bind_some, d2, Option.bind_some, Option.bind_some, x_ck P2 t14, Option.bind_some, c_98 P2 P3 (by rw [gp]; exact hw) (by rw [gp]; exact hv) sw sh ok, Option.bind_some, l1, Option.bind_some]
    have MM : jd_274 k pl m = some (ims m5 109 W2) := by
      rw [M0, jse_r, jse_r, d3, Option.bind_some, d4, Option.bind_some, d5, Option.bind_some, d6, Option.bind_some, l2, Option.bind_some]
    have b5 : m5 76 52 = 0 := R2.2.1.1
    refine ⟨0, _, _, CC, MM, ?_, ?_, ?_, by decide, by decide, fun _ => ⟨⟨i', ?_⟩, fun j => jd_183 (I2 22 j), fun j j0 j1 => (val j j0 (by omega)).2, ?_, ?_⟩, fun hn => absurd rfl hn⟩
    · exact fP_t (fP_W (fW_t f1 w2)) (fun x _ _ _ h4 => ims_o h4)
    · exact fQ_t (fQ_N (fN_t f2 n5)) ⟨fun x _ h2 _ _ _ => ims_o h2, fun k _ => by rw [ims_o (by decide)]⟩
    · rw [ims_o (by decide)]; exact b5
    · exact BM_fr R2 (ims_o (BM_Ap R P)) (by rw [ims_o (by omega)]) (by rw [ims_o (by omega)]) (by rw [ims_o (by decide)]) (by rw [ims_o (by decide)]) (by rw [ims_o (by decide)]) (by rw [ims_o (by decide)]) (by rw [ims_o (by decide)])
    · rw [ims_e, hW1, gq, hN]
    · rw [ims_e, hW2, gm, hN]
  · have MM : jd_274 k pl m = some m1 := by
      rw [M0]
      rcases ey with ey | ey
      · rw [ey, jse_l]
      · rw [ey, jse_r, jse_l]
    have CC : jd_132 21 (some 10) (some p) pl (hh s Q I) = some (f, hh s Q I1) := by
      rw [C0]
      have i3 : ∀ z, I1 10 3 = z → jgi (hh s Q I1) 10 0 3 = some z := fun z hz => by rw [y_gi L 10 0 rfl rfl]; exact congrArg some hz
      have nz : ¬ jw ((f, hh s Q I1) : Int × jH).1 = 0 := by
        show ¬ jw f = 0
        rw [n_jw (by omega) (by omega)]; omega
      rcases ex with ⟨ex, ef⟩ | ⟨ex, ef⟩ | ⟨ex, ef⟩ | ⟨ex, ef⟩
      · rw [ex, jse_l, Option.bind_some, i3 f ef, Option.bind_some, Option.bind_some, if_neg nz]
      · rw [ef] at nz ⊢
        rw [ex, jse_r, jse_l, Option.bind_some, if_neg nz]
      · rw [ex, jse_r, jse_r, jse_l, Option.bind_some, i3 f ef, Option.bind_some, Option.bind_some, if_neg nz]
      · rw [ef] at nz ⊢
        rw [ex, jse_r, jse_r, jse_r, jse_l, Option.bind_some, if_neg nz]
    exact ⟨f, I1, m1, CC, MM, fP_W f1, fQ_N f2, hf, by omega, fh, fun hn => absurd hn (by omega), fun _ => ⟨g2, g3⟩⟩
end WRead
