/-! the end of a picture's bits; what a picture read leaves behind -/
section Core
variable {s : hS} {Q : hQ} {hm : hO} {I m : jM} {A p c : Nat} {base i en w h k : Int}
theorem BM_nb (R : BM s Q I m 10 A base i en) {n : Nat} (hn : i + (n : Int) ≤ en) : nb (btC (I A)) (8 * base + i) n = nb (btC (fun j => m 112 (base + j))) i n := by
  have i0 : 0 ≤ i := R.2.1.2.2.2.2.1
  induction n with
  | zero => rfl
  | succ n ih => rw [nb_s, nb_s, ih (by omega), ← R.2.2 (i + (n : Int)) (by omega) (by omega), show 8 * base + i + (n : Int) = 8 * base + (i + (n : Int)) by omega]
theorem ends2 (R : BM s Q I m 10 A base i en) : ∃ e I' m', jd_5 10 (hh s Q I) = some (e, hh s Q I') ∧ jd_269 m = some m' ∧ (∀ a : Nat, a ≠ 10 → I' a = I a) ∧ (∀ a : Nat, a ≠ 76 → m' a = m a) ∧ (∀ k : Int, k < 51 ∨ 52 < k → m' 76 k = m 76 k) ∧ ((e = 1 ∧ m' 76 52 = 0) ∨ (e = 0 ∧ m' 76 52 = 6)) := by
  obtain ⟨e, I', e1, e2, e3, e4⟩ := c_5 R.1
  obtain ⟨i', k1, k2⟩ := k_269 R.2.1
  have i1 : i ≤ en := R.2.1.2.2.2.2.2.1
  have fI : ∀ a : Nat, a ≠ 10 → I' a = I a := fun a ha => by
    rcases e2 with rfl | rfl
    · rfl
    · exact jms_o ha
  have nn : nb (btC (I A)) (8 * base + i) (8 * base + en - (8 * base + i)).toNat = nb (btC (fun j => m 112 (base + j))) i (en - i).toNat := by
    rw [show 8 * base + en - (8 * base + i) = en - i by omega]
    exact BM_nb R (by omega)
  rw [nn, show 8 * base + en - (8 * base + i) = en - i by omega] at e4
  by_cases d : en - i < 8 ∧ nb (btC (fun j => m 112 (base + j))) i (en - i).toNat = 0
  · exact ⟨e, I', _, e1, k1 d, fI, fun a ha => jms_o ha, fun k hk => jms_i (by omega), Or.inl ⟨e4.2 d, (jms_i (by decide)).trans R.2.1.1⟩⟩
  · refine ⟨e, I', _, e1, k2 d, fI, fun a ha => by rw [jms_o ha, jms_o ha], fun k hk => by rw [jms_i (by omega), jms_i (by omega)], Or.inr ⟨e3.resolve_right (fun e => d (e4.1 e)), jms_e⟩⟩
/-- what a picture read leaves behind: rule f, spot sp -/
def Core (cod w h k : Int) (p c : Nat) (U : Int → Int) (I m I1 m' : jM) (f sp : Int) : Prop :=
  (0 ≤ f ∧ f ≤ 7 ∧ m' 76 52 = f) ∧ (f ≠ 0 → I1 9 6 = sp ∧ 0 ≤ sp ∧ sp ≤ 1000 ∧ m' 108 = jiu (m 108) k sp) ∧ (f = 0 → m' 108 = m 108) ∧
  (∀ q x y : Int, 0 ≤ q → q ≤ 2 → 0 ≤ x → x < pw w q → 0 ≤ y → y < pw h q → (f = 0 ∨ ¬ mdAt cod sp w h q x y → I1 (p + 1) (pb w h q + (y * pw w q + x)) = m' 109 (864 * k + (pf q + (y * pw w q + x))) ∧ 0 ≤ m' 109 (864 * k + (pf q + (y * pw w q + x))) ∧ m' 109 (864 * k + (pf q + (y * pw w q + x))) ≤ 255 ∧ m' 110 (864 * k + (pf q + (y * pw w q + x))) = m 110 (864 * k + (pf q + (y * pw w q + x)))) ∧ (f ≠ 0 → mdAt cod sp w h q x y → m' 109 (864 * k + (pf q + (y * pw w q + x))) = U (pf q + (y * pw w q + x)) ∧ m' 110 (864 * k + (pf q + (y * pw w q + x))) = 1)) ∧
  (∀ j : Int, j < 864 * k ∨ 864 * k + 864 ≤ j → m' 109 j = m 109 j ∧ m' 110 j = m 110 j) ∧
  (∀ a : Nat, a < 9 ∨ (24 < a ∧ a ≠ 41) → a ≠ p + 1 → a ≠ c + 12 → I1 a = I a) ∧
  (∀ a : Nat, a ≠ 76 → a ≠ 108 → a ≠ 109 → a ≠ 110 → a ≠ 111 → (a < 114 ∨ 120 < a) → m' a = m a) ∧ (∀ k : Int, k < 51 ∨ 69 < k → m' 76 k = m 76 k) ∧ I1 11 0 = I 11 0
theorem b126_ne {x1 x2 : Option Nat} {f : Int} {H : jH} (h0 : 1 ≤ f) (h1 : f ≤ 7) : jd_115_b126 9 x1 x2 k f H = jd_115_b145 9 x1 x2 k f H := by
  unfold jd_115_b126
  exact if_neg (by rw [n_jw (by omega) (by omega)]; omega)
theorem b126_0 {x1 x2 : Option Nat} {e : Int} {I' : jM} (L : Lay s Q hm) (h : jd_5 10 (hh s Q I) = some (e, hh s Q I')) : jd_115_b126 9 x1 x2 k 0 (hh s Q I) = jd_115_b145 9 x1 x2 k (if jw e = 0 then 6 else 0) (hh s Q I') := by
  have q0 : Q 9 ((0 : Nat) : Int) = some 10 := Lq L rfl
  unfold jd_115_b126
  rw [if_pos (by decide), y_gr L 9 8 rfl rfl, Option.bind_some, q0, Option.bind_some, y_ck L 10 0 rfl rfl, Option.bind_some, h, Option.bind_some]
theorem core_w (L : Lay s Q hm) (h6 : s.1 ≤ 1000000) (P : PcC s Q p) (hw : I p 0 = w) (hv : I p 1 = h) (sw : isSd w) (sh : isSd h) (mw : m 76 33 = w) (mh : m 76 34 = h) (k0 : 0 ≤ k) (k1 : k < 12) (R : BM s Q I m 10 A base i en) {x1 x2 : Option Nat} : ∃ f sp I1 m', ((jd_121 9 (some p) (hh s Q I)).bind fun q => jd_115_b126 9 x1 x2 k q.1 q.2) = jd_115_b145 9 x1 x2 k f (hh s Q I1) ∧ jd_275 k m = some m' ∧ Core 1 w h k p c (fun _ => 128) I m I1 m' f sp := by
  obtain ⟨x, y, e1, e2, f, sp, I', m', ey, ex, a3, a4, a5, a6, a7, a8, a9, a10⟩ := waves_l L h6 P hw hv sw sh mw mh k0 k1 R
  have fr : ∀ a : Nat, a < 9 ∨ (24 < a ∧ a ≠ 41) → a ≠ p + 1 → a ≠ c + 12 → I' a = I a := fun a ha h1 _ => a6 a (by omega) (by omega) (by omega) (by omega) h1
  rcases ex with ⟨ex, b1, b2, b3⟩ | ⟨ex, rfl, rfl⟩
  · obtain ⟨m3, e3, W⟩ := k_275o (m1 := jms m' 108 k sp) (w := w) (h := h) (k := k) (sp := sp) sw sh (by rw [jms_o (by decide)]; exact (a7.2 33 (by decide)).trans mw) (by rw [jms_o (by decide)]; exact (a7.2 34 (by decide)).trans mh) k0 k1 a5 (by omega)
    have m76 : m3 76 = m' 76 := by rw [W.2.2 76 (by decide) (by decide), jms_o (by decide)]
    refine ⟨f, sp, I', m3, ?_, ?_, ⟨by omega, a4, by rw [m76]; exact a3⟩, fun _ => ⟨b3, a5, by omega, ?_⟩, fun hf => absurd hf (by omega), fun q x y q0 q2 x0 x1 y0 y1 => ?_, fun j hj => ?_, fr, fun a g1 g2 g3 g4 g5 g6 => ?_, fun j hj => ?_, congrFun (a6 11 (by decide) (by decide) (by decide) (by decide) (by have := P.1; omega)) 0⟩
    · unfold jd_121
      rw [e1, Option.bind_some, ex, jse_l, Option.bind_some]
      exact b126_ne b1 a4
    · unfold jd_275
      rw [e2, Option.bind_some, ey, if_neg (br_1 (m := m') a3 b1 a4), y_mw 108 12 rfl rfl k0 k1, Option.bind_some, e3, Option.bind_some]
    · rw [W.2.2 108 (by decide) (by decide)]
      funext z
      unfold jms
      rw [if_pos rfl, a7.1 108 (by decide) (by decide) (by decide) (by decide) (by decide)]
    · have mp := plD_md (k := k) sw sh a5 q0 q2 x0 x1 y0 y1
      have db := dm_b (W := pw w q) (H := pw h q) y0 y1 x0 x1
      refine ⟨fun hc => ?_, fun _ hd => ?_⟩
      · have nd : ¬ mdAt 1 sp w h q x y := hc.resolve_left (by omega)
        have := W.2.1 _ (fun e => nd (mp.1 e))
        rw [this.1, this.2, jms_o (by decide), jms_o (by decide), a7.1 110 (by decide) (by decide) (by decide) (by decide) (by decide)]
        have lt : q < sp := by
          unfold mdAt at nd
          rw [if_neg (by decide), if_pos rfl] at nd
          omega
        have := a9 q (y * pw w q + x) q0 lt db.1 db.2
        exact ⟨this.1, this.2.1, this.2.2, rfl⟩
      · exact W.1 _ (mp.2 hd)
    · have nd : ¬ plD w h k sp 3 j := fun e => by
        obtain ⟨q, c1, c2, c3, c4⟩ := e
        have := pl_sz (p := q) sw sh (by omega) (by omega)
        omega
      have := W.2.1 j nd
      rw [this.1, this.2, jms_o (by decide), jms_o (by decide), a7.1 110 (by decide) (by decide) (by decide) (by decide) (by decide)]
      exact ⟨a10 j hj, rfl⟩
    · rw [W.2.2 a g3 g4, jms_o g2]
      exact a7.1 a g1 g3 (by omega) (by omega) (by omega)
    · rw [m76]
      exact a7.2 j (by omega)
  · obtain ⟨i', R'⟩ := a8 rfl
    have R9 : BM s Q (jms I' 9 6 3) m' 10 A base i' en := BM_fr R' (jms_o (BM_A L R rfl (by decide))) (by rw [jms_o (by decide)]) (by rw [jms_o (by decide)]) rfl rfl rfl rfl rfl
    obtain ⟨e, I2, m2, g1, g2, g3, g4, g5, g6⟩ := ends2 R9
    have C1 : ((jd_121 9 (some p) (hh s Q I)).bind fun q => jd_115_b126 9 x1 x2 k q.1 q.2) = jd_115_b145 9 x1 x2 k (if jw e = 0 then 6 else 0) (hh s Q I2) := by
      unfold jd_121
      rw [e1, Option.bind_some, ex, jse_r, y_pi L 9 8 rfl rfl, Option.bind_some, Option.bind_some]
      exact b126_0 L g1
    have nm : ∀ q x y : Int, q ≤ 2 → ¬ mdAt 1 3 w h q x y := fun q x y hq hd => by
      unfold mdAt at hd
      rw [if_neg (by decide), if_pos rfl] at hd
      omega
    have smp : ∀ (mm : jM), (mm 109 = m' 109) → (mm 110 = m' 110) → ∀ q x y : Int, 0 ≤ q → q ≤ 2 → 0 ≤ x → x < pw w q → 0 ≤ y → y < pw h q → I2 (p + 1) (pb w h q + (y * pw w q + x)) = mm 109 (864 * k + (pf q + (y * pw w q + x))) ∧ 0 ≤ mm 109 (864 * k + (pf q + (y * pw w q + x))) ∧ mm 109 (864 * k + (pf q + (y * pw w q + x))) ≤ 255 ∧ mm 110 (864 * k + (pf q + (y * pw w q + x))) = m 110 (864 * k + (pf q + (y * pw w q + x))) := fun mm h1 h2 q x y q0 q2 x0 x1 y0 y1 => by
      have db := dm_b (W := pw w q) (H := pw h q) y0 y1 x0 x1
      have P1 := P.1
      rw [g3 (p + 1) (by omega), jms_o (by omega), h1, h2, a7.1 110 (by decide) (by decide) (by decide) (by decide) (by decide)]
      have := a9 q (y * pw w q + x) q0 (by omega) db.1 db.2
      exact ⟨this.1, this.2.1, this.2.2, rfl⟩
    have fr2 : ∀ a : Nat, a < 9 ∨ (24 < a ∧ a ≠ 41) → a ≠ p + 1 → a ≠ c + 12 → I2 a = I a := fun a ha h1 h2 => by
      rw [g3 a (by omega), jms_o (by omega)]
      exact fr a ha h1 h2
    rcases g6 with ⟨rfl, b0⟩ | ⟨rfl, b6⟩
    · rw [if_neg (by decide)] at C1
      refine ⟨0, 3, I2, m2, C1, ?_, ⟨by decide, by decide, b0⟩, fun hf => absurd rfl hf, fun _ => ?_, fun q x y q0 q2 x0 x1 y0 y1 => ⟨fun _ => smp m2 (g4 109 (by decide)) (g4 110 (by decide)) q x y q0 q2 x0 x1 y0 y1, fun hf => absurd rfl hf⟩, fun j hj => ?_, fr2, fun a h1 h2 h3 h4 h5 h6 => ?_, fun j hj => ?_, congrFun ((g3 11 (by decide)).trans ((jms_o (by decide)).trans (a6 11 (by decide) (by decide) (by decide) (by decide) (by have := P.1; omega)))) 0⟩
      · unfold jd_275
        rw [e2, Option.bind_some, ey, if_pos (BM_b1 R'), g2, Option.bind_some, if_pos (show jw (m2 76 52) ≤ 0 by rw [b0]; decide)]
        rfl
      · rw [g4 108 (by decide)]
        exact a7.1 108 (by decide) (by decide) (by decide) (by decide) (by decide)
      · rw [g4 109 (by decide), g4 110 (by decide), a7.1 110 (by decide) (by decide) (by decide) (by decide) (by decide)]
        exact ⟨a10 j hj, rfl⟩
      · rw [g4 a h1]
        exact a7.1 a h1 h3 (by omega) (by omega) (by omega)
      · rw [g5 j (by omega)]
        exact a7.2 j (by omega)
    · rw [if_pos (by decide)] at C1
      refine ⟨6, 3, I2, jms m2 108 k 3, C1, ?_, ⟨by decide, by decide, by rw [jms_o (by decide)]; exact b6⟩, fun _ => ⟨?_, by decide, by decide, ?_⟩, fun hf => absurd hf (by decide), fun q x y q0 q2 x0 x1 y0 y1 => ⟨fun _ => smp (jms m2 108 k 3) ((jms_o (by decide)).trans (g4 109 (by decide))) ((jms_o (by decide)).trans (g4 110 (by decide))) q x y q0 q2 x0 x1 y0 y1, fun _ hd => absurd hd (nm q x y q2)⟩, fun j hj => ?_, fr2, fun a h1 h2 h3 h4 h5 h6 => ?_, fun j hj => ?_, congrFun ((g3 11 (by decide)).trans ((jms_o (by decide)).trans (a6 11 (by decide) (by decide) (by decide) (by decide) (by have := P.1; omega)))) 0⟩
      · unfold jd_275
        rw [e2, Option.bind_some, ey, if_pos (BM_b1 R'), g2, Option.bind_some, if_neg (br_1 (m := m2) b6 (by decide) (by decide)), y_mw 108 12 rfl rfl k0 k1, Option.bind_some]
        rfl
      · rw [g3 9 (by decide)]
        exact jms_e
      · funext z
        unfold jms
        rw [if_pos rfl, g4 108 (by decide), a7.1 108 (by decide) (by decide) (by decide) (by decide) (by decide)]
      · rw [jms_o (by decide), jms_o (by decide), g4 109 (by decide), g4 110 (by decide), a7.1 110 (by decide) (by decide) (by decide) (by decide) (by decide)]
        exact ⟨a10 j hj, rfl⟩
      · rw [jms_o h2, g4 a h1]
        exact a7.1 a h1 h3 (by omega) (by omega) (by omega)
      · rw [jms_o (by decide), g5 j (by omega)]
        exact a7.2 j (by omega)
end Core
