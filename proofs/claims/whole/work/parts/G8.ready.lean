/-! what stands when pictures begin to be read anew -/
section Ready
variable {yy : Nat} {s : hS} {Q : hQ} {hm : hO} {I m : jM} {f fr e T n : Int} {a : Nat}
theorem grp_1 {g : Int → Int} (h : g 0 % 2 = 1) : ∀ n : Nat, g ((grp g n : Nat) : Int) % 2 = 1
  | 0 => h
  | n + 1 => by
    rw [grp_s]
    split
    · exact grp_1 h n
    · rename_i c
      omega
theorem mHn_h {c : Nat} {k : Int} (h : 102 ≤ c ∧ c ≤ 106) (k0 : 0 ≤ k) (k1 : k < T) : mHn m f n T c k = m (c - 12) (12 * f + k) := by
  unfold mHn
  rw [hdO_v h k0 k1, ims_o (by omega), jms_o (by omega), jms_o (by omega), jms_o (by omega), jms_o (by omega), jms_o (by omega), jms_o (by omega)]
theorem mHn_b {i : Int} (i0 : 0 ≤ i) (i1 : i < n) : mHn m f n T 112 i = jwb (m 89 (24100 * f + i)) := by
  unfold mHn
  rw [hdO_o (by omega), ims_e, if_pos ⟨i0, i1⟩]
theorem mHn_76 : mHn m f n T 76 32 = m 83 f ∧ mHn m f n T 76 33 = m 84 f ∧ mHn m f n T 76 34 = m 85 f ∧ mHn m f n T 76 35 = T := by
  unfold mHn
  rw [hdO_o (by omega), ims_o (by decide)]
  refine ⟨?_, ?_, ?_, ?_⟩
  · rw [jms_i (by decide), jms_i (by decide), jms_i (by decide), jms_i (by decide), jms_i (by decide), jms_e]
  · rw [jms_i (by decide), jms_i (by decide), jms_i (by decide), jms_i (by decide), jms_e]
  · rw [jms_i (by decide), jms_i (by decide), jms_i (by decide), jms_e]
  · rw [jms_i (by decide), jms_i (by decide), jms_e]
theorem mHn_o {c : Nat} (h : c < 102 ∨ 106 < c) (h1 : c ≠ 76) (h2 : c ≠ 112) : mHn m f n T c = m c := by
  unfold mHn
  rw [hdO_o h, ims_o h2, jms_o h1, jms_o h1, jms_o h1, jms_o h1, jms_o h1, jms_o h1]
theorem TpB_of (R : RelY yy s Q hm I m) (F : FilmAt s Q hm a f) (C : FilmC s Q I m a f) (hT : m 87 f = T) (hn : m 88 f = n) (i28 : I 28 0 = m 83 f) (f0 : 0 ≤ fr) (fe : fr ≤ e) (eT : e < T) (key : m 95 (12 * f + fr) % 2 = 1) (px : ∀ j : Int, fr ≤ j → j ≤ e → ∃ p, Q 37 j = some p ∧ I p 0 = m 84 f ∧ I p 1 = m 85 f) : ∃ A, TpB s Q I (jms (mHn m f n T) 76 36 fr) a A (m 84 f) (m 85 f) (m 83 f) fr e T n (fun j => (Q 37 j).getD 0) := by
  obtain ⟨⟨c1, c2, c3, c4, c5, c6⟩, ⟨sw, sh, d1, d2, d3, d4⟩, ⟨A, qA, Al, Ab⟩, V, K⟩ := C
  rw [hT] at V K
  rw [hn] at V d3 d4 Al Ab
  have t12 : T ≤ 12 := V.2.1
  have mc : ∀ c : Nat, c ≠ 76 → jms (mHn m f n T) 76 36 fr c = mHn m f n T c := fun c hc => jms_o hc
  have hd : ∀ c : Nat, 102 ≤ c ∧ c ≤ 106 → ∀ k : Int, 0 ≤ k → k < T → jms (mHn m f n T) 76 36 fr c k = m (c - 12) (12 * f + k) := fun c hc k k0 k1 => by rw [mc c (by omega), mHn_h hc k0 k1]
  obtain ⟨v1, v2, v3, v4⟩ := mHn_76 (m := m) (f := f) (n := n) (T := T)
  have kk := (K fr f0 (by omega)).2.2.2.2.2.2.1.mp key
  obtain ⟨b153, nb, hb, cb⟩ := F.2.2.2.1 A qA
  have pc : ∀ j : Int, fr ≤ j → j ≤ e → ∃ p, Q 37 j = some p ∧ PicAt s Q hm p (400 + j) ∧ I p 0 = m 84 f ∧ I p 1 = m 85 f := fun j j0 j1 => by
    obtain ⟨p, p1, p2, p3⟩ := px j j0 j1
    exact ⟨p, p1, R.2.2.2.2.2.2.2.2.2.2.1 j (by omega) (by omega) p p1, p2, p3⟩
  refine ⟨A, ⟨f0, fe, eT⟩, ⟨c1, i28, by rw [jms_i (by decide)]; exact v1, by rw [jms_i (by decide)]; exact v2, by rw [jms_i (by decide)]; exact v3, jms_e⟩, ⟨sw, sh⟩, ⟨fun i => m 89 (24100 * f + i) % 256, PV_c V (hd 102 (by omega)) (hd 103 (by omega)) (hd 104 (by omega)) (hd 105 (by omega)) (hd 106 (by omega)) (fun _ _ _ => rfl)⟩, d4, ⟨by rw [hd 102 (by omega) fr f0 (by omega)]; exact kk.1, fun j j0 j1 => by rw [hd 103 (by omega) fr f0 (by omega), hd 103 (by omega) j (by omega) j1]; exact kk.2 j j0 (by rw [hT]; exact j1)⟩, fun j j0 j1 => ?_, ⟨qA, ⟨cb.1, cb.2.1, by rw [cb.2.2.1]; omega⟩, Al, fun j j0 j1 => ?_⟩, fun j j0 j1 => ?_, fun i j i0 i1 j0 j1 ij => ?_⟩
  · rw [hd 102 (by omega) j j0 j1, hd 104 (by omega) j j0 j1, hd 105 (by omega) j j0 j1, hd 106 (by omega) j j0 j1]
    obtain ⟨⟨g1, g2, g3, g4, g5⟩, -⟩ := K j j0 j1
    exact ⟨g1, g3, g4, g5⟩
  · rw [mc 112 (by decide), mHn_b j0 j1, jwb_jwb]
    exact Ab j j0 j1
  · obtain ⟨p, p1, p2, p3, p4⟩ := pc j j0 j1
    have e' : (Q 37 j).getD 0 = p := by rw [p1]; rfl
    show Q 37 j = some ((Q 37 j).getD 0) ∧ PcC s Q ((Q 37 j).getD 0) ∧ I ((Q 37 j).getD 0) 0 = m 84 f ∧ I ((Q 37 j).getD 0) 1 = m 85 f
    rw [e']
    exact ⟨p1, PcC_at p2, p3, p4⟩
  · obtain ⟨p, p1, p2, -⟩ := pc i i0 i1
    obtain ⟨q, q1, q2, -⟩ := pc j j0 j1
    show (Q 37 i).getD 0 ≠ (Q 37 j).getD 0
    rw [p1, q1]
    intro e1
    have e' : p = q := e1
    have h1 := p2.2.1.2.2.2
    have h2 := q2.2.1.2.2.2
    rw [e', h2] at h1
    omega
end Ready
