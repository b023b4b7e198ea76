/-! a picture read by both sides -/
section RPicture
variable {s : hS} {Q : hQ} {hm : hO} {I m : jM} {a c A : Nat} {w h k fr cod fl lo : Int} {pj : Int → Nat}
def PicIn (s : hS) (Q : hQ) (I m : jM) (a c A : Nat) (w h k fr cod : Int) (pj : Int → Nat) : Prop :=
  (0 ≤ k ∧ k < 12 ∧ 0 ≤ fr ∧ fr ≤ k) ∧ (I a 0 = cod ∧ m 76 32 = cod ∧ 0 ≤ cod ∧ cod ≤ 2 ∧ I c 0 = cod) ∧ (isSd w ∧ isSd h ∧ m 76 33 = w ∧ m 76 34 = h ∧ m 76 36 = fr) ∧ (∀ j : Int, 0 ≤ j → j ≤ k → I (a + 1) j = m 102 j ∧ 0 ≤ m 102 j ∧ m 102 j ≤ 2) ∧ (I (a + 3) k = m 104 k ∧ 0 ≤ m 104 k ∧ m 104 k ≤ 255) ∧ (I (a + 4) k = m 105 k ∧ I (a + 5) k = m 106 k ∧ 0 ≤ m 105 k ∧ 0 ≤ m 106 k ∧ 8 * (m 106 k + 5) + 8 * m 105 k ≤ 192800) ∧ (Q a 5 = some A ∧ (A < s.1 ∧ s.2.2.1 A = 1 ∧ s.2.2.2 A ≤ 1000000) ∧ m 106 k + 5 + m 105 k ≤ ((s.2.2.2 A : Nat) : Int) ∧ ∀ j : Int, 0 ≤ j → j < m 106 k + 5 + m 105 k → jwb (I A j) = jwb (m 112 j)) ∧ (∀ j : Int, fr ≤ j → j ≤ k → Q (c + 9) j = some (pj j) ∧ PcC s Q (pj j) ∧ I (pj j) 0 = w ∧ I (pj j) 1 = h) ∧ (∀ i j : Int, fr ≤ i → i ≤ k → fr ≤ j → j ≤ k → i ≠ j → pj i ≠ pj j) ∧ (∀ j : Int, fr ≤ j → j < k → RfE s Q I m (pj j) w h j) ∧ (m 102 k ≠ 0 → 0 ≤ anc (m 102) fr k.toNat) ∧ (m 102 k = 2 → 0 ≤ anc (m 102) fr (anc (m 102) fr k.toNat).toNat) ∧ (cod = 2 → m 102 k ≠ 2) ∧ (cod = 1 → m 102 k = 0)
theorem btC_8 {g g' : Int → Int} {base j : Int} (e : jwb (g (base + j / 8)) = jwb (g' (base + j / 8))) : btC g (8 * base + j) = btC (fun j => g' (base + j)) j := by
  unfold btC
  rw [show (8 * base + j) / 8 = base + j / 8 by omega, e]
  unfold bitv
  rw [show (8 * base + j) % 8 = j % 8 by omega]
theorem ropen (L : Lay s Q hm) (h6 : s.1 ≤ 1000000) (F : FilmAt s Q hm a fl) (Fc : FlC s Q c) (hc : c = 28 ∨ 153 ≤ c) (hlo : lo = 0 ∨ lo = 1) (H : PicIn s Q I m a c A w h k fr cod pj) : ∃ (Q2 : hQ) (I3 M3 : jM) (rf l bs en : Int), jd_115 9 (some a) (some c) k fr lo (hh s Q I) = (if cod = 0 then ((jd_117 9 (some c) k (hh s Q2 I3)).bind fun q59 => jd_115_b126 9 (some a) (some c) k q59.1 q59.2) else if cod = 1 then ((jd_121 9 (some (pj k)) (hh s Q2 I3)).bind fun q130 => jd_115_b126 9 (some a) (some c) k q130.1 q130.2) else ((jd_122 9 (some (pj k)) (hh s Q2 I3)).bind fun q142 => jd_115_b126 9 (some a) (some c) k q142.1 q142.2)) ∧ jd_278 k lo m = (if cod = 0 then ((jd_270 k M3).bind fun m19 => jd_278_b91 k m19) else if cod = 1 then ((jd_275 k M3).bind fun m24 => jd_278_b91 k m24) else ((jd_277 k M3).bind fun m26 => jd_278_b91 k m26)) ∧ (∀ x : Nat, x ≠ 10 → x ≠ 11 → Q2 x = Q x) ∧ Lay s Q2 hm ∧ (Q2 11 2 = some (pj k) ∧ Q2 11 3 = (if 0 ≤ rf then Q (c + 9) rf else none) ∧ Q2 11 4 = (if m 102 k = 2 ∧ 0 ≤ l then Q (c + 9) l else none)) ∧ (∀ x : Nat, x ≠ 10 → x ≠ 11 → I3 x = I x) ∧ (I3 11 0 = m 102 k ∧ I3 11 1 = m 104 k) ∧ (∀ x : Nat, x ≠ 76 → x ≠ 108 → x ≠ 110 → M3 x = m x) ∧ (∀ j : Int, j < 49 ∨ 52 < j → M3 76 j = m 76 j) ∧ M3 108 = jiu (m 108) k (-1) ∧ (M3 110 = fun x => if 864 * k ≤ x ∧ x < 864 * k + 864 then 0 else m 110 x) ∧ BM s Q2 I3 M3 10 A bs 0 en ∧ (rf = if m 102 k = 2 then anc (m 102) fr l.toNat else l) ∧ l = anc (m 102) fr k.toNat ∧ ((rf = -1 ∨ fr ≤ rf) ∧ rf < k ∧ -1 ≤ rf) ∧ (l = -1 ∨ fr ≤ l) ∧ l < k ∧ ∀ m' : jM, m' 76 36 = M3 76 36 → m' 102 = M3 102 → jd_239 k 1 m' = some l ∧ jd_239 k 2 m' = some (anc (m 102) fr l.toNat) := by
  obtain ⟨⟨k0, k1, fr0, frk⟩, ⟨ea, em, c0, c2, ec⟩, ⟨sw, sh, mw, mh, m36⟩, hk, ⟨h3, st0, st1⟩, ⟨h4, h5, sz0, hd0, bnd⟩, ⟨qA, ⟨A1, A2, A3⟩, Al, Ab⟩, pcs, dst, prv, an1, an2, cd2, cd1⟩ := H
  have a153 := F.1
  obtain ⟨kd, hkd⟩ : ∃ z, m 102 k = z := ⟨_, rfl⟩
  have kk := hk k k0 (by omega)
  rw [hkd] at kk an1 an2 cd2 cd1
  obtain ⟨n, hn⟩ : ∃ n : Nat, (n : Int) = k := ⟨k.toNat, by omega⟩
  have hnk : k.toNat = n := by omega
  rw [hnk] at an1 an2
  -- the class opens
  obtain ⟨nn, hnn⟩ : ∃ z, z = if lo = 0 then m 105 k else 0 := ⟨_, rfl⟩
  have nnr : 0 ≤ nn ∧ nn ≤ m 105 k := by rw [hnn]; split <;> omega
  obtain ⟨bs, hbs⟩ : ∃ z, z = m 106 k + 5 := ⟨_, rfl⟩
  obtain ⟨Q1, hQ1⟩ : ∃ z, z = rms Q 10 ((0 : Nat) : Int) (some A) := ⟨_, rfl⟩
  obtain ⟨I1, hI1⟩ : ∃ z, z = jms (jms (jms I 10 1 (8 * bs)) 10 2 (8 * (bs + nn))) 10 3 0 := ⟨_, rfl⟩
  have q1o : ∀ x : Nat, x ≠ 10 → Q1 x = Q x := fun x hx => by rw [hQ1]; exact if_neg hx
  have i1o : ∀ x : Nat, x ≠ 10 → I1 x = I x := fun x hx => by rw [hI1, jms_o hx, jms_o hx, jms_o hx]
  have L1 : Lay s Q1 hm := by rw [hQ1]; exact Lay_rms L rfl
  have F1 : FilmAt s Q1 hm a fl := FilmAt_q (fun x hx => q1o x (by omega)) F
  have Fc1 : FlC s Q1 c := FlC_q hc (q1o 28 (by decide)) (fun x hx => q1o x (by omega)) Fc
  have e1 := c_1 (s := s) (Q := Q) (I := I) (B := 10) (A := A) (p := bs) (n := nn) (Lt L rfl) (Lg L rfl rfl)
  rw [← hQ1, ← hI1] at e1
  have i1a : I1 (a + 1) = I (a + 1) := i1o _ (by omega)
  have e73 := c_73 (I := I1) (k := k) (kd := kd) (fr := fr) L1 h6 F1 Fc1 hc k0 k1 (fun j j0 j1 => by rw [i1a, (hk j j0 j1).1]; have := hk j j0 j1; unfold okI; omega) (by rw [i1a]; exact kk.1) kk.2.1 kk.2.2 fr0 (by omega)
  have ancE : ∀ x : Nat, (x : Int) ≤ k → anc (I1 (a + 1)) fr x = anc (m 102) fr x := fun x hx => by
    rw [i1a]
    exact anc_c (fun j j0 j1 => (hk j j0 (by omega)).1)
  have lr := anc_r (K := m 102) (fr := fr) n
  obtain ⟨l, hl⟩ : ∃ z, z = anc (m 102) fr n := ⟨_, rfl⟩
  rw [← hl] at lr an1 an2
  have lr2 := anc_r (K := m 102) (fr := fr) l.toNat
  obtain ⟨rf, hrf⟩ : ∃ z, z = if kd = 2 then anc (m 102) fr l.toNat else l := ⟨_, rfl⟩
  have rfe : rfB (I1 (a + 1)) fr k kd = rf := by
    unfold rfB
    rw [hnk, ancE n (by omega), ← hl, ancE l.toNat (by omega), hrf]
  have le : anc (I1 (a + 1)) fr k.toNat = l := by rw [hnk, ancE n (by omega), ← hl]
  have rfr : (rf = -1 ∨ fr ≤ rf) ∧ rf < k ∧ -1 ≤ rf := by
    rw [hrf]
    split
    · have := anc_f (K := m 102) (fr := fr) l.toNat
      exact ⟨this, by omega, by omega⟩
    · have := anc_f (K := m 102) (fr := fr) n
      rw [← hl] at this
      exact ⟨this, by omega, by omega⟩
  have lf : l = -1 ∨ fr ≤ l := by rw [hl]; exact anc_f n
  rw [rfe, le, q1o (c + 9) (by omega)] at e73
  have pk := pcs k frk (by omega)
  obtain ⟨r3, hr3⟩ : ∃ z, z = if 0 ≤ rf then Q (c + 9) rf else none := ⟨_, rfl⟩
  obtain ⟨r4, hr4⟩ : ∃ z, z = if kd = 2 ∧ 0 ≤ l then Q (c + 9) l else none := ⟨_, rfl⟩
  rw [pk.1, ← hr3, ← hr4] at e73
  obtain ⟨Q2, hQ2⟩ : ∃ z, z = rms (rms (rms Q1 11 2 (some (pj k))) 11 3 r3) 11 4 r4 := ⟨_, rfl⟩
  rw [← hQ2] at e73
  have q2o : ∀ x : Nat, x ≠ 10 → x ≠ 11 → Q2 x = Q x := fun x h1 h2 => by
    have o : ∀ (R : hQ) (z : Int) (v : Option Nat), rms R 11 z v x = R x := fun R z v => if_neg h2
    rw [hQ2, o, o, o]
    exact q1o x h1
  have q2v : ∀ (R : hQ) (z : Int) (v : Option Nat), rms R 11 z v 11 z = v := fun R z v => by unfold rms jru; rw [if_pos rfl, if_pos rfl]
  have q2n : ∀ (R : hQ) (z y : Int) (v : Option Nat), y ≠ z → rms R 11 z v 11 y = R 11 y := fun R z y v hy => by unfold rms jru; rw [if_pos rfl, if_neg hy]
  have Q112 : Q2 11 2 = some (pj k) := by rw [hQ2, q2n _ _ _ _ (by decide), q2n _ _ _ _ (by decide), q2v]
  have Q113 : Q2 11 3 = r3 := by rw [hQ2, q2n _ _ _ _ (by decide), q2v]
  have Q114 : Q2 11 4 = r4 := by rw [hQ2, q2v]
  have L2 : Lay s Q2 hm := by
    rw [hQ2]
    exact Lay_rms (k := 4) (Lay_rms (k := 3) (Lay_rms (k := 2) L1 rfl) rfl) rfl
  have F2 : FilmAt s Q2 hm a fl := FilmAt_q (fun x hx => q2o x (by omega) (by omega)) F
  have Fc2 : FlC s Q2 c := FlC_q hc (q2o 28 (by decide) (by decide)) (fun x hx => q2o x (by omega) (by omega)) Fc
  have pc2 : ∀ {b : Nat}, PcC s Q b → PcC s Q2 b := fun {b} B => PcC_q (fun x hx => q2o x (by omega) (by omega)) B
  have Q10 : Q2 10 0 = some A := by
    have : ∀ (R : hQ) (z : Int) (v : Option Nat), rms R 11 z v 10 = R 10 := fun R z v => if_neg (by decide)
    rw [hQ2, this, this, this, hQ1]
    unfold rms jru
    rw [if_pos rfl]
    exact if_pos rfl
  have hp2 : Q2 (c + 9) k = some (pj k) := by rw [q2o (c + 9) (by omega) (by omega)]; exact pk.1
  obtain ⟨I3, hI3⟩ : ∃ z, z = jms (jms I1 11 0 kd) 11 1 (m 104 k) := ⟨_, rfl⟩
  have i3o : ∀ x : Nat, x ≠ 10 → x ≠ 11 → I3 x = I x := fun x h1 h2 => by rw [hI3, jms_o h2, jms_o h2]; exact i1o x h1
  have I310 : I3 10 = I1 10 := by rw [hI3, jms_o (by decide), jms_o (by decide)]
  have I3k : I3 11 0 = kd := by rw [hI3, jms_i (by decide), jms_e]
  have I3s : I3 11 1 = m 104 k := by rw [hI3, jms_e]
  -- the model opens
  obtain ⟨M1, hM1⟩ : ∃ z, z = jms (jms (jms (jms (jms m 76 49 bs) 76 50 (8 * nn)) 76 51 0) 76 52 0) 108 k (-1) := ⟨_, rfl⟩
  obtain ⟨M3, hM3⟩ : ∃ z, z = ims M1 110 (fun x => if 864 * k ≤ x ∧ x < 864 * k + 864 then 0 else M1 110 x) := ⟨_, rfl⟩
  have m1o : ∀ x : Nat, x ≠ 76 → x ≠ 108 → M1 x = m x := fun x h1 h2 => by rw [hM1, jms_o h2, jms_o h1, jms_o h1, jms_o h1, jms_o h1]
  have m3o : ∀ x : Nat, x ≠ 76 → x ≠ 108 → x ≠ 110 → M3 x = m x := fun x h1 h2 h3 => by rw [hM3, ims_o h3]; exact m1o x h1 h2
  have m37 : ∀ j : Int, j < 49 ∨ 52 < j → M3 76 j = m 76 j := fun j hj => by rw [hM3, ims_o (by decide), hM1, jms_o (by decide), jms_i (by omega), jms_i (by omega), jms_i (by omega), jms_i (by omega)]
  have m3108 : M3 108 = jiu (m 108) k (-1) := by
    rw [hM3, ims_o (by decide), hM1]
    funext z
    unfold jms
    rw [if_pos rfl, if_neg (by decide), if_neg (by decide), if_neg (by decide), if_neg (by decide)]
  have m3110 : M3 110 = fun x => if 864 * k ≤ x ∧ x < 864 * k + 864 then 0 else m 110 x := by
    rw [hM3, ims_e, m1o 110 (by decide) (by decide)]
  have D0 : jd_278 k lo m = (if cod = 0 then ((jd_270 k M3).bind fun m19 => jd_278_b91 k m19) else if cod = 1 then ((jd_275 k M3).bind fun m24 => jd_278_b91 k m24) else ((jd_277 k M3).bind fun m26 => jd_278_b91 k m26)) := by
    have b30 : jd_278_b30 k (8 * nn) (jms m 76 49 bs) = (if cod = 0 then ((jd_270 k M3).bind fun m19 => jd_278_b91 k m19) else if cod = 1 then ((jd_275 k M3).bind fun m24 => jd_278_b91 k m24) else ((jd_277 k M3).bind fun m26 => jd_278_b91 k m26)) := by
      unfold jd_278_b30
      rw [Option.bind_some, Option.bind_some, Option.bind_some, y_mw 108 12 rfl rfl k0 k1, Option.bind_some, ← hM1, k_242 k0 k1, Option.bind_some, ← hM3, m37 32 (by decide), em, n_jw (z := cod) (by omega) (by omega)]
    unfold jd_278
    rw [y_ma 106 12 rfl rfl k0 k1, Option.bind_some, Option.bind_some, ← hbs]
    rcases hlo with e | e
    · have e8 : nn = m 105 k := by rw [hnn, if_pos e]
      rw [e, if_pos (by decide), y_ma 105 12 rfl rfl k0 k1, Option.bind_some, jms_o (by decide), ← e8, b30]
    · have e8 : nn = 0 := by rw [hnn, if_neg (by omega)]
      rw [e8] at b30
      rw [e, if_neg (by decide)]
      exact b30
  -- the readers
  have R : BM s Q2 I3 M3 10 A bs 0 (8 * nn) := by
    refine ⟨⟨⟨Lt L rfl, Lg L rfl rfl⟩, ⟨A1, A2, A3⟩, fun e => ?_, Q10, ?_, ?_, by omega, by omega, by omega⟩, ⟨?_, ?_, ?_, ?_, by omega, by omega, by omega, by omega⟩, fun j j0 j1 => ?_⟩
    · rw [e] at A2
      have := Lg L (a := 10) (t := 8) rfl rfl
      rw [this] at A2
      exact absurd A2 (by decide)
    · rw [I310, hI1, jms_i (by decide), jms_i (by decide), jms_e]; omega
    · rw [I310, hI1, jms_i (by decide), jms_e]; omega
    · rw [hM3, ims_o (by decide), hM1, jms_o (by decide), jms_e]
    · rw [hM3, ims_o (by decide), hM1, jms_o (by decide), jms_i (by decide), jms_i (by decide), jms_i (by decide), jms_e]
    · rw [hM3, ims_o (by decide), hM1, jms_o (by decide), jms_i (by decide), jms_i (by decide), jms_e]
    · rw [hM3, ims_o (by decide), hM1, jms_o (by decide), jms_i (by decide), jms_e]
    · have An : A ≠ 10 := fun e => by
        rw [e] at A2
        have := Lg L (a := 10) (t := 8) rfl rfl
        rw [this] at A2
        exact absurd A2 (by decide)
      have An1 : A ≠ 11 := fun e => by
        rw [e] at A2
        have := Lg L (a := 11) (t := 13) rfl rfl
        rw [this] at A2
        exact absurd A2 (by decide)
      rw [i3o A An An1, m3o 112 (by decide) (by decide) (by decide)]
      exact btC_8 (Ab _ (by omega) (by omega))
  have k239 : ∀ m' : jM, m' 76 36 = M3 76 36 → m' 102 = M3 102 → jd_239 k 1 m' = some l ∧ jd_239 k 2 m' = some (anc (m 102) fr l.toNat) := fun m' g1 g2 => by
    have e102 : m' 102 = m 102 := g2.trans (m3o 102 (by decide) (by decide) (by decide))
    have := k_239 (m := m') (fr := fr) (g1.trans ((m37 36 (by decide)).trans m36)) fr0 (by omega) (N := k + 1) (by omega) (fun j j0 j1 => by rw [e102]; have := hk j j0 (by omega); unfold okI; omega) n (by omega)
    rw [hn, e102, ← hl] at this
    exact this
  have Pk : PcC s Q2 (pj k) := pc2 pk.2.1
  have p153 := Pk.1
  have ea3 : I3 a 0 = cod := by rw [i3o a (by omega) (by omega)]; exact ea
  -- the class up to the coding
  have qq1 : Q1 9 ((1 : Nat) : Int) = some 11 := Lq L1 rfl
  have qq1' : Q2 9 ((1 : Nat) : Int) = some 11 := Lq L2 rfl
  have qq0 : Q 9 ((0 : Nat) : Int) = some 10 := Lq L rfl
  have q11 := F_q F 4 11 rfl rfl
  have q10 := F_q F 3 10 rfl rfl
  have q9 := F_q F2 2 9 rfl rfl
  have q15 := G_q Fc2 8 15 rfl rfl
  have C0 : jd_115 9 (some a) (some c) k fr lo (hh s Q I) = (if cod = 0 then ((jd_117 9 (some c) k (hh s Q2 I3)).bind fun q59 => jd_115_b126 9 (some a) (some c) k q59.1 q59.2) else if cod = 1 then ((jd_121 9 (some (pj k)) (hh s Q2 I3)).bind fun q130 => jd_115_b126 9 (some a) (some c) k q130.1 q130.2) else ((jd_122 9 (some (pj k)) (hh s Q2 I3)).bind fun q142 => jd_115_b126 9 (some a) (some c) k q142.1 q142.2)) := by
    have b31 : jd_115_b31 9 (some a) (some c) k fr nn bs (some A) (some 10) (hh s Q I) = (if cod = 0 then ((jd_117 9 (some c) k (hh s Q2 I3)).bind fun q59 => jd_115_b126 9 (some a) (some c) k q59.1 q59.2) else if cod = 1 then ((jd_121 9 (some (pj k)) (hh s Q2 I3)).bind fun q130 => jd_115_b126 9 (some a) (some c) k q130.1 q130.2) else ((jd_122 9 (some (pj k)) (hh s Q2 I3)).bind fun q142 => jd_115_b126 9 (some a) (some c) k q142.1 q142.2)) := by
      have i3a : jms I1 11 0 kd (a + 3) k = m 104 k := by rw [jms_o (by omega), i1o (a + 3) (by omega)]; exact h3
      have ea3' : I3 a ((0 : Nat) : Int) = cod := ea3
      unfold jd_115_b31
      rw [Option.bind_some, y_ck L 10 0 rfl rfl, Option.bind_some, e1, Option.bind_some, y_gr L1 9 8 rfl rfl, Option.bind_some, qq1, Option.bind_some, y_ck L1 11 5 rfl rfl, Option.bind_some, e73, Option.bind_some, y_gr L2 9 8 rfl rfl, Option.bind_some, qq1', Option.bind_some, F_gr F2, Option.bind_some, q9, Option.bind_some, show a + (2 + 1) = a + 3 from rfl, F_ai F2 h6 3 12 rfl rfl rfl k0 (by omega), Option.bind_some, i3a, Option.bind_some, y_pi L2 11 5 rfl rfl, Option.bind_some, show jms (jms I1 11 0 kd) 11 ((1 : Nat) : Int) (m 104 k) = I3 from hI3.symm, Option.bind_some, F_gi F2, Option.bind_some, ea3', n_jw (z := cod) (by omega) (by omega)]
      by_cases d0 : cod = 0
      · rw [if_pos d0, if_pos d0, y_ck L2 9 8 rfl rfl, Option.bind_some]
      · rw [if_neg d0, if_neg d0]
        by_cases d1 : cod = 1
        · rw [if_pos d1, if_pos d1, Option.bind_some, G_gr Fc2, Option.bind_some, q15, Option.bind_some, show c + (8 + 1) = c + 9 from rfl, G_ar Fc2 k0 k1, Option.bind_some, hp2, y_ck L2 9 8 rfl rfl, Option.bind_some]
        · rw [if_neg d1, if_neg d1, Option.bind_some, G_gr Fc2, Option.bind_some, q15, Option.bind_some, show c + (8 + 1) = c + 9 from rfl, G_ar Fc2 k0 k1, Option.bind_some, hp2, y_ck L2 9 8 rfl rfl, Option.bind_some]
    have qA' : Q a ((5 : Nat) : Int) = some A := qA
    unfold jd_115
    rw [y_gr L 9 8 rfl rfl, Option.bind_some, Option.bind_some, F_gr F, Option.bind_some, Option.bind_some, F_gr F, Option.bind_some, q11, Option.bind_some, show a + (4 + 1) = a + 5 from rfl, F_ai F h6 5 12 rfl rfl rfl k0 (by omega), Option.bind_some, h5, ← hbs, qq0, qA']
    rcases hlo with e | e
    · have e8 : nn = m 105 k := by rw [hnn, if_pos e]
      rw [e, if_pos (by decide), Option.bind_some, F_gr F, Option.bind_some, q10, Option.bind_some, show a + (3 + 1) = a + 4 from rfl, F_ai F h6 4 12 rfl rfl rfl k0 (by omega), Option.bind_some, h4, ← e8, b31]
    · have e8 : nn = 0 := by rw [hnn, if_neg (by omega)]
      rw [e8] at b31
      rw [e, if_neg (by decide)]
      exact b31
  refine ⟨Q2, I3, M3, rf, l, bs, 8 * nn, C0, D0, q2o, L2, ⟨Q112, ?_, ?_⟩, i3o, ⟨?_, I3s⟩, m3o, m37, m3108, m3110, R, ?_, ?_, rfr, lf, ?_, k239⟩
  · rw [Q113, hr3]
  · rw [Q114, hr4, hkd]
  · rw [I3k, hkd]
  · rw [hkd]; exact hrf
  · rw [hnk]; exact hl
  · rw [hn] at lr; exact lr.2
end RPicture
