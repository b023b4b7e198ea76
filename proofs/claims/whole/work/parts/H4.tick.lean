/-! tick: a picture read anew and shown -/
section TickS
variable {s : hS} {Q : hQ} {hm : hO} {I I2 m N : jM} {W n T ps e w h v : Int} {a d k : Nat}
theorem tkM_o {m' : jM} {x : Nat} (h1 : x ≠ 151) (h2 : x ≠ 149) (h3 : x ≠ 146) : tkM m' (k : Int) e ps x = m' x := by
  unfold tkM
  rw [jms_o h3, jms_o h2, ims_o h1]
theorem tkM_i {m' : jM} {x : Nat} {z : Int} (h1 : x ≠ 151) (h : z ≠ k) : tkM m' (k : Int) e ps x z = m' x z := by
  unfold tkM
  have t : ∀ (g : jM) (d : Nat) (v : Int), jms g d (k : Int) v x z = g x z := fun g d v => by
    by_cases e : x = d
    · rw [e, jms_i h]
    · rw [jms_o e]
  rw [t, t, ims_o h1]
theorem tkM_v {m' : jM} : tkM m' (k : Int) e ps 149 k = ps ∧ tkM m' (k : Int) e ps 146 k = ps + 1 ∧ tkM m' (k : Int) e ps 151 = fun x => if 864 * (k : Int) ≤ x ∧ x < 864 * (k : Int) + 864 then m' 109 (864 * e + (x - 864 * (k : Int))) else m' 151 x := by
  unfold tkM
  refine ⟨by rw [jms_o (by decide), jms_e], jms_e, ?_⟩
  rw [jms_o (by decide), jms_o (by decide), ims_e]
/-- what the class does once the place is known, with what the model has done -/
theorem tk_show {f : Int} (R : RelY k s Q hm I N) (h6 : s.1 ≤ 900000) (hk : k < 4) (f0 : 0 ≤ f) (f1 : f < N 76 12) (ha : Q 5 f = some a) (q0 : Q (72 + k) 0 = some a) (q8 : Q (72 + k) 8 = some d) (e0 : 0 ≤ e) (eT : e < N 87 f) (hv : N 150 k = v) (i1 : I (72 + k) 1 = f) (i2 : I (72 + k) 2 = N 144 k) (i3 : I (72 + k) 3 = ps + 1) (i4 : I (72 + k) 4 % 2 = N 147 k % 2) (i5 : I (72 + k) 5 = N 148 k) (i6 : I (72 + k) 6 = ps) (i7 : I (72 + k) 7 = N 150 k) (i9 : I (72 + k) 9 = N 142 k) (i10 : I (72 + k) 10 = N 143 k) (i11 : I (72 + k) 11 = N 145 k) (v1 : N 141 k = f) (b : 1 ≤ N 142 k ∧ N 142 k ≤ 4000 ∧ 0 ≤ N 143 k ∧ N 143 k ≤ 4000 ∧ 0 ≤ N 145 k ∧ N 145 k ≤ N 144 k ∧ N 144 k ≤ N 88 f) (bp : 0 ≤ ps ∧ ps < N 87 f) (b7 : N 147 k % 2 = 1) : ∃ (p : Nat) (s' : hS) (Q' : hQ) (I1 I' M m' : jM) (fr : Int), jd_114 9 (some a) e v (hh s Q I) = some (p, hh s' Q' I1) ∧ jck (hh s' Q' I1) d 6 = some () ∧ jd_102 d (some p) (hh s' Q' I1) = some (hh s' Q' I') ∧ jd_309 f N = some M ∧ jd_358 f e M = some fr ∧ jd_359_l219 k e fr (jms M 76 36 fr) = some m' ∧ m' 146 k = N 146 k ∧ Rel s' Q' I' (tkM m' k e ps) ∧ tkM m' k e ps 76 0 = N 76 0 ∧ Kp s Q I s' Q' I' ∧ Gr s s' := by
  have L := R.1
  obtain ⟨g1, g2, -⟩ := skp hk
  obtain ⟨p, s', Q', hm', I1, M, m', fr, r1, r2, r3, r4, R', A, X, S, mo, m76, z1, z2⟩ := rd_anew R h6 f0 f1 ha e0 eT (y := (k : Int)) (by omega) (by omega) hv
  have px : ∀ i : Int, (412 ≤ i ∧ i < 1009) ∨ 1041 < i → PX i ∧ i ≠ 1037 := fun i hi => by unfold PX; omega
  have x72 := Lay_fr (a := 72 + k) L S (by omega) (px _ (by omega))
  have x5 : Q' 5 = Q 5 := (Lay_fr (a := 5) L S (by decide) (by unfold PX; omega)).1
  have L' := R'.1
  have q8' : Q' (72 + k) 8 = some d := by rw [x72.1]; exact q8
  have D : PicAt s' Q' hm' d (450 + (k : Int)) := R'.2.2.2.2.2.2.2.2.2.2.2 k hk d q8'
  have en : e < 12 := by
    obtain ⟨_, _, C⟩ := R.2.2.2.2.2.1.2.2.2.2 f f0 f1
    have := C.2.2.2.1.2.1
    omega
  obtain ⟨I', c1, X', c3⟩ := c_102 A D (by omega) X
  have d153 := D.1
  have S' : Sm (fun o => o ≠ 1072 + (k : Int) ∧ o ≠ 450 + (k : Int)) s' Q' hm' I1 s' Q' hm' I' := Sm_I (fun b _ hb => c3 b (fun e => hb.2 (by rw [e]; exact D.2.1.2.2.2)) (fun e => hb.2 (by rw [e]; exact D.2.2.1.2.2.2)))
  have i72 : I' (72 + k) = I (72 + k) := by rw [c3 _ (by omega) (by omega), x72.2]
  obtain ⟨t1, t2, t3⟩ := tkM_v (m' := m') (k := k) (e := e) (ps := ps)
  have mh : ∀ x : Nat, x ≠ 76 → (x < 102 ∨ 120 < x) → x ≠ 151 → x ≠ 149 → x ≠ 146 → tkM m' (k : Int) e ps x = N x := fun x h1 h2 h3 h4 h5 => by rw [tkM_o h3 h4 h5, mo x h1 h2]
  have m76' : ∀ j : Int, j < 32 ∨ 69 < j → tkM m' (k : Int) e ps 76 j = N 76 j := fun j hj => by rw [tkM_o (by decide) (by decide) (by decide), m76 j hj]
  have m76t : ∀ j : Int, tkM m' (k : Int) e ps 76 j = m' 76 j := fun j => by rw [tkM_o (by decide) (by decide) (by decide)]
  have R2 : RelY k s' Q' hm' I' (tkM m' k e ps) := by
    refine RelY_ply R' hk S' L' ⟨⟨m76t _, m76t _, m76t _, m76t _, m76t _, m76t _, m76t _, m76t _⟩, fun x hx => tkM_o (by omega) (by omega) (by omega), fun x h1 h2 z hz => tkM_i (by omega) hz, fun z hz => ?_⟩ (R'.2.2.2.2.2.2.2.2.2.2.2 k hk)
    rw [t3]
    exact if_neg hz
  refine ⟨p, s', Q', I1, I', M, m', fr, r1, x_ck D.2.1.1 (D.2.1.2.1.trans rfl), c1, r2, r3, r4, by rw [mo 146 (by decide) (by omega)], ⟨hm', RelH_Y R2 ?_⟩, m76' 0 (by omega), ?_, ⟨S.1, by omega, by omega⟩⟩
  · unfold PlyC
    rw [t1, t2, i72, x5, q8', x72.1, q0, mh 141 (by decide) (by omega) (by decide) (by decide) (by decide), mh 142 (by decide) (by omega) (by decide) (by decide) (by decide), mh 143 (by decide) (by omega) (by decide) (by decide) (by decide), mh 144 (by decide) (by omega) (by decide) (by decide) (by decide), mh 145 (by decide) (by omega) (by decide) (by decide) (by decide), mh 147 (by decide) (by omega) (by decide) (by decide) (by decide), mh 148 (by decide) (by omega) (by decide) (by decide) (by decide), mh 150 (by decide) (by omega) (by decide) (by decide) (by decide), mh 84 (by decide) (by omega) (by decide) (by decide) (by decide), mh 85 (by decide) (by omega) (by decide) (by decide) (by decide), mh 87 (by decide) (by omega) (by decide) (by decide) (by decide), mh 88 (by decide) (by omega) (by decide) (by decide) (by decide), m76' 12 (by omega), v1]
    obtain ⟨b1, b2, b3, b4, b5, b6, b8⟩ := b
    refine Or.inr ⟨f0, f1, ha.symm, i1, i2, i3, i4, i5, i6, i7, i9, i10, i11, ⟨b1, b2, b3, b4, b5, b6, b8, by omega, by omega, fun _ => b7, by omega, bp.2⟩, d, rfl, fun _ => ?_⟩
    refine Pix_g X' (fun q k' q0 q2 k0 k1 => ?_)
    have bb := pl_sz X'.2.2.1 X'.2.2.2.1 q0 q2
    show tkM m' (k : Int) e ps 151 (864 * (k : Int) + (pf q + k')) = m' 109 (864 * e + (pf q + k'))
    rw [t3]
    show (if 864 * (k : Int) ≤ 864 * (k : Int) + (pf q + k') ∧ 864 * (k : Int) + (pf q + k') < 864 * (k : Int) + 864 then m' 109 (864 * e + (864 * (k : Int) + (pf q + k') - 864 * (k : Int))) else m' 151 (864 * (k : Int) + (pf q + k'))) = _
    rw [if_pos (by omega), show 864 * (k : Int) + (pf q + k') - 864 * (k : Int) = pf q + k' by omega]
  · exact Kp_of L (Sm_trans (Sm_mono S (fun o (ho : PX o ∧ o ≠ 1037 ∧ o ≠ 450 + (k : Int) ∧ o ≠ 1072 + (k : Int)) => ⟨ho.1, ho.2.1⟩)) (Sm_mono S' (fun o ho => ⟨ho.2.2.2, ho.2.2.1⟩))) (fun i h1 h2 => by unfold PX; omega)
end TickS
