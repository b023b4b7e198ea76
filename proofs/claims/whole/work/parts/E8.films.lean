/-! a film stays when another one's cells change -/
section FilmsStay
variable {P : Int → Prop} {s s' : hS} {Q Q' : hQ} {hm hm' : hO} {I I' m m' : jM} {f cod n len : Int} {K P1 S1 Z Hd B K' P1' S1' Z' Hd' B' : Int → Int} {a b : Nat}
theorem PV_c (V : PV cod n K P1 S1 Z Hd len B) (eK : ∀ k : Int, 0 ≤ k → k < n → K' k = K k) (eP : ∀ k : Int, 0 ≤ k → k < n → P1' k = P1 k) (eS : ∀ k : Int, 0 ≤ k → k < n → S1' k = S1 k) (eZ : ∀ k : Int, 0 ≤ k → k < n → Z' k = Z k) (eH : ∀ k : Int, 0 ≤ k → k < n → Hd' k = Hd k) (eB : ∀ i : Int, 0 ≤ i → i < len → B' i = B i) : PV cod n K' P1' S1' Z' Hd' len B' := by
  obtain ⟨v1, v2, v3, v4, v5, v6, v7, v8⟩ := id V
  refine ⟨v1, v2, v3, v4, by rw [eH 0 (by omega) (by omega)]; exact v5, by rw [eK 0 (by omega) (by omega)]; exact v6, by rw [eH (n - 1) (by omega) (by omega), eZ (n - 1) (by omega) (by omega)]; exact v7, fun k k0 kn => ?_⟩
  obtain ⟨w1, w2, w3, w4, w5, w6, w7, w8, w9, w10, w11, w12⟩ := v8 k k0 kn
  have A : anc K' 0 k.toNat = anc K 0 k.toNat := anc_c (fun j j0 j1 => eK j j0 (by omega))
  have r := anc_r (K := K) (fr := 0) k.toNat
  have A2 : anc K' 0 (anc K 0 k.toNat).toNat = anc K 0 (anc K 0 k.toNat).toNat := anc_c (fun j j0 j1 => eK j j0 (by omega))
  have r2 := anc_r (K := K) (fr := 0) (anc K 0 k.toNat).toNat
  have hd := PV_hd V k0 kn
  rw [eK k k0 kn, eP k k0 kn, eS k k0 kn, eZ k k0 kn, eH k k0 kn, A]
  refine ⟨w1, w2, w3, w4, w5, fun h => ?_, w7, w8, fun j j0 j1 => by rw [eP j j0 (by omega)]; exact w9 j j0 j1, fun h1 h2 => by rw [eP _ h2 (by omega)]; exact w10 h1 h2, fun h => ?_, ?_⟩
  · rw [eH (k - 1) (by omega) (by omega), eZ (k - 1) (by omega) (by omega)]
    exact w6 h
  · obtain ⟨u1, u2, u3⟩ := w11 h
    rw [A2, eP _ u1 (by omega), eP (anc K 0 k.toNat) (by omega) (by omega)]
    exact ⟨u1, u2, u3⟩
  · rw [eB (Hd k) (by omega) (by omega), eB (Hd k + 1) (by omega) (by omega), eB (Hd k + 2) (by omega) (by omega), eB (Hd k + 3) (by omega) (by omega), eB (Hd k + 4) (by omega) (by omega)]
    exact w12
/-- the model's cells of film f are the same -/
def MF (m m' : jM) (f : Int) : Prop := (∀ x : Nat, 83 ≤ x → x ≤ 88 → m' x f = m x f) ∧ (∀ i : Int, 0 ≤ i → i < 24100 → m' 89 (24100 * f + i) = m 89 (24100 * f + i)) ∧ (∀ x : Nat, 90 ≤ x → x ≤ 98 → ∀ k : Int, 0 ≤ k → k < 12 → m' x (12 * f + k) = m x (12 * f + k)) ∧ (∀ k j : Int, 0 ≤ k → k < 12 → 0 ≤ j → j < 864 → m' 99 (864 * (12 * f + k) + j) = m 99 (864 * (12 * f + k) + j) ∧ m' 100 (864 * (12 * f + k) + j) = m 100 (864 * (12 * f + k) + j)) ∧ ∀ k j : Int, 0 ≤ k → k < 12 → 0 ≤ j → j < 63 → m' 101 (63 * (12 * f + k) + j) = m 101 (63 * (12 * f + k) + j)
theorem xyb {W H x y : Int} (x0 : 0 ≤ x) (x1 : x < W) (y0 : 0 ≤ y) (y1 : y < H) : 0 ≤ y * W + x ∧ y * W + x < W * H := by
  have h1 : 0 ≤ y * W := Int.mul_nonneg y0 (by omega)
  have h2 : (y + 1) * W ≤ H * W := Int.mul_le_mul_of_nonneg_right (by omega) (by omega)
  have h3 : (y + 1) * W = y * W + W := by rw [Int.add_mul, Int.one_mul]
  have h4 : H * W = W * H := Int.mul_comm _ _
  omega
theorem FilmC_m (M : MF m m' f) (c : FilmC s Q I m a f) : FilmC s Q I m' a f := by
  obtain ⟨e1, e2, e3, e4, e5⟩ := M
  obtain ⟨c1, c2, ⟨b, c3, c3', c3''⟩, c4, c5⟩ := c
  unfold FilmC
  rw [e1 83 (by decide) (by decide), e1 84 (by decide) (by decide), e1 85 (by decide) (by decide), e1 86 (by decide) (by decide), e1 87 (by decide) (by decide), e1 88 (by decide) (by decide)]
  have t12 := c4.2.1
  refine ⟨c1, c2, ⟨b, c3, c3', fun i i0 i1 => by rw [e2 i i0 (by omega)]; exact c3'' i i0 i1⟩, PV_c c4 (fun k k0 kn => e3 90 (by decide) (by decide) k k0 (by omega)) (fun k k0 kn => e3 91 (by decide) (by decide) k k0 (by omega)) (fun k k0 kn => e3 92 (by decide) (by decide) k k0 (by omega)) (fun k k0 kn => e3 93 (by decide) (by decide) k k0 (by omega)) (fun k k0 kn => e3 94 (by decide) (by decide) k k0 (by omega)) (fun i i0 i1 => congrArg (fun z : Int => z % 256) (e2 i i0 (by omega))), fun k h1 h2 => ?_⟩
  have hk : k < 12 := by omega
  obtain ⟨d1, d2, d3, d4, d5, d6, d7, d8, ⟨p, d9, d9'⟩, d10, d11⟩ := c5 k h1 h2
  have sw := c2.1
  have sh := c2.2.1
  unfold FilmK
  rw [e1 83 (by decide) (by decide), e1 84 (by decide) (by decide), e1 85 (by decide) (by decide), e1 87 (by decide) (by decide), e3 90 (by decide) (by decide) k h1 hk, e3 91 (by decide) (by decide) k h1 hk, e3 92 (by decide) (by decide) k h1 hk, e3 93 (by decide) (by decide) k h1 hk, e3 94 (by decide) (by decide) k h1 hk, e3 95 (by decide) (by decide) k h1 hk, e3 96 (by decide) (by decide) k h1 hk, e3 97 (by decide) (by decide) k h1 hk, e3 98 (by decide) (by decide) k h1 hk]
  refine ⟨d1, d2, d3, d4, d5, d6, d7.trans ⟨fun h => ⟨h.1, fun j j0 j1 => ?_⟩, fun h => ⟨h.1, fun j j0 j1 => ?_⟩⟩, d8, ⟨p, d9, Pix_g d9' (fun q j q0 q2 j0 j1 => ?_)⟩, fun q x y q0 q2 x0 x1 y0 y1 => ?_, fun h0 q w q0 q1 w0 w1 => ?_⟩
  · rw [e3 91 (by decide) (by decide) j (by omega) (by omega)]
    exact h.2 j j0 j1
  · have := h.2 j j0 j1
    rw [e3 91 (by decide) (by decide) j (by omega) (by omega)] at this
    exact this
  · have z := pl_sz sw sh q0 q2
    exact (e4 k (pf q + j) h1 hk (by omega) (by omega)).1
  · have z := pl_sz sw sh q0 q2
    have u := xyb x0 x1 y0 y1
    rw [(e4 k (pf q + (y * pw (m 84 f) q + x)) h1 hk (by omega) (by omega)).2]
    exact d10 q x y q0 q2 x0 x1 y0 y1
  · have q9 : q < 9 := by
      rcases sw with e | e | e <;> rcases sh with e' | e' | e' <;> rw [e, e'] at q1 <;> omega
    have g := e5 k (7 * q + w) h1 hk (by omega) (by omega)
    rw [show 63 * (12 * f + k) + 7 * q + w = 63 * (12 * f + k) + (7 * q + w) by omega, g, ← show 63 * (12 * f + k) + 7 * q + w = 63 * (12 * f + k) + (7 * q + w) by omega]
    exact d11 h0 q w q0 q1 w0 w1
/-- a film's cells stay when its owners' cells stay -/
theorem FilmAt_fr1 (S : Sm P s Q hm I s' Q' hm' I') (p2 : ∀ k : Int, 0 ≤ k → k < 12 → P (200 + 12 * f + k)) (p3 : P (500 + f)) (p4 : P (540 + f)) (c : FilmAt s Q hm a f) : FilmAt s' Q' hm' a f ∧ (∀ j : Nat, j < 13 → Q' (a + j) = Q (a + j) ∧ I' (a + j) = I (a + j)) ∧ (∀ b, Q a 5 = some b → s'.2.2.2 b = s.2.2.2 b ∧ I' b = I b) ∧ (∀ k : Int, 0 ≤ k → k < 12 → ∀ p, Q (a + 9) k = some p → I' p = I p ∧ I' (p + 1) = I (p + 1)) := by
  obtain ⟨c1, c2, c3, c4, c5⟩ := c
  have h0 := fun (j : Nat) (hj : j < 13) => Ce_fr S (c2 j hj) p3
  have q0 : Q' a = Q a := (h0 0 (by decide)).2.1
  have q9 : Q' (a + 9) = Q (a + 9) := (h0 9 (by decide)).2.1
  refine ⟨⟨c1, fun j hj => (h0 j hj).1, ?_, ?_, ?_⟩, fun j hj => (h0 j hj).2, ?_, ?_⟩
  · rw [q0]
    exact c3
  · rw [q0]
    intro b hb
    obtain ⟨d1, n, d2, d3⟩ := c4 b hb
    exact ⟨d1, n, d2, (Ce_fr S d3 p4).1⟩
  · rw [q9]
    intro k h1 h2
    exact Sl_fr S (c5 k h1 h2) (p2 k h1 h2)
  · intro b hb
    obtain ⟨d1, n, d2, d3⟩ := c4 b hb
    obtain ⟨g1, g2, g3⟩ := Ce_fr S d3 p4
    exact ⟨g1.2.2.1.trans d3.2.2.1.symm, g3⟩
  · intro k h1 h2 p hp
    exact (PicAt_fr S (c5 k h1 h2 p hp) (p2 k h1 h2)).2
end FilmsStay
