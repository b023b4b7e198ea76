/-! planning: what coding a picture gives, whatever the model held -/
section RightM
variable {s : hS} {Q : hQ} {hm : hO} {I m : jM} {a p src : Nat} {f w h k kd st rc os z : Int} {K P X K' P' : Int → Int} {V V' : Int → Int → Int}
/-- a row of samples is picture j of the model's -/
def Smp (w h : Int) (v : Int → Int) (m : jM) (j : Int) : Prop := ∀ pl i : Int, 0 ≤ pl → pl ≤ 2 → 0 ≤ i → i < pw w pl * pw h pl → v (pb w h pl + i) = m 109 (864 * j + (pf pl + i)) ∧ 0 ≤ m 109 (864 * j + (pf pl + i)) ∧ m 109 (864 * j + (pf pl + i)) ≤ 255
/-- the model about to code picture k of an order -/
def Mcd (m : jM) (w h rc : Int) (K P X : Int → Int) (k : Int) : Prop := (m 76 32 = 0 ∧ m 76 33 = w ∧ m 76 34 = h ∧ m 76 36 = 0) ∧ (∀ j : Int, 0 ≤ j → j ≤ k → m 102 j = K j) ∧ m 103 k = P k ∧ m 82 3 = rc ∧ m 121 = X
/-- z and the samples V k are what the model gets -/
def Rgt (w h rc st : Int) (K P X : Int → Int) (V : Int → Int → Int) (k z : Int) : Prop := ∀ m : jM, Mcd m w h rc K P X k → (∀ j : Int, 0 ≤ j → j < k → Smp w h (V j) m j) → ∃ m1 : jM, jd_291 k st m = some (z, m1) ∧ Smp w h (V k) m1 k ∧ MFp m m1 k st
theorem Rgt_c (k0 : 0 ≤ k) (hK : ∀ j : Int, 0 ≤ j → j ≤ k → K' j = K j) (hP : P' k = P k) (hV : ∀ j : Int, 0 ≤ j → j ≤ k → V' j = V j) (R : Rgt w h rc st K P X V k z) : Rgt w h rc st K' P' X V' k z := fun m M S => by
  obtain ⟨a1, a2, a3, a4, a5⟩ := M
  obtain ⟨m1, b1, b2, b3⟩ := R m ⟨a1, fun j j0 j1 => (a2 j j0 j1).trans (hK j j0 j1), a3.trans hP, a4, a5⟩ (fun j j0 j1 => by rw [← hV j j0 (by omega)]; exact S j j0 j1)
  exact ⟨m1, b1, by rw [hV k k0 (Int.le_refl _)]; exact b2, b3⟩
theorem Smp_m {m' : jM} {v : Int → Int} {j : Int} (sw : isSd w) (sh : isSd h) (e : ∀ i : Int, 864 * j ≤ i → i < 864 * j + 864 → m' 109 i = m 109 i) (S : Smp w h v m j) : Smp w h v m' j := fun pl i p0 p2 i0 i1 => by
  have lb : 0 ≤ pf pl + i ∧ pf pl + i < 864 := by
    have pc : pl = 0 ∨ pl = 1 ∨ pl = 2 := by omega
    rcases pc with rfl | rfl | rfl <;> rcases sw with rfl | rfl | rfl <;> rcases sh with rfl | rfl | rfl <;> unfold pf <;> simp only [pw] at i1 <;> simp at i1 ⊢ <;> omega
  rw [e _ (by omega) (by omega)]
  exact S pl i p0 p2 i0 i1
theorem pb_lt {pl i : Int} (sw : isSd w) (sh : isSd h) (p0 : 0 ≤ pl) (p2 : pl ≤ 2) (i0 : 0 ≤ i) (i1 : i < pw w pl * pw h pl) : 0 ≤ pb w h pl + i ∧ pb w h pl + i < 864 := by
  have pc : pl = 0 ∨ pl = 1 ∨ pl = 2 := by omega
  rcases pc with rfl | rfl | rfl <;> rcases sw with rfl | rfl | rfl <;> rcases sh with rfl | rfl | rfl <;> unfold pb <;> simp only [pw] at i1 <;> simp at i1 ⊢ <;> omega
/-- the samples of the film's pictures -/
def Vp (Q : hQ) (I : jM) (a : Nat) : Int → Int → Int := fun j => I ((Q (a + 9) j).getD 0 + 1)
theorem Vp_e {j : Int} {b : Nat} (h : Q (a + 9) j = some b) : Vp Q I a j = I (b + 1) := by
  unfold Vp
  rw [h]
  rfl
theorem PKm_x (X : PKm s Q hm I m a p src f w h 0 k kd rc os) {m' : jM} (M : Mcd m' w h rc (m 102) (m 103) (m 121) k) (S : ∀ j : Int, 0 ≤ j → j < k → Smp w h (Vp Q I a j) m' j) : PKm s Q hm I m' a p src f w h 0 k kd rc os := by
  obtain ⟨F, ff, ⟨-, -, -, -, sw, sh⟩, ⟨g0, k0, gk, hk⟩, x5, x6, ⟨x7, x7'⟩, x8, x9, ⟨P0, oo, sw0, sh0, p0, p1, px⟩, ⟨-, r2, r3⟩⟩ := X
  obtain ⟨⟨a1, a2, a3, a4⟩, b2, b3, b4, b5⟩ := M
  have ac : ∀ t : Nat, (t : Int) ≤ k → anc (m' 102) 0 t = anc (m 102) 0 t := fun t ht => anc_c (fun i i0 i1 => b2 i i0 (by omega))
  refine ⟨F, ff, ⟨a1, a2, a3, a4, sw, sh⟩, ⟨g0, k0, gk, (b2 k k0 (Int.le_refl _)).trans hk⟩, fun j j0 j1 => by rw [b2 j j0 j1]; exact x5 j j0 j1, x6, ⟨(b2 0 (Int.le_refl _) k0).trans x7, fun e => ?_⟩, fun j j0 j1 => ?_, x9, ⟨P0, oo, sw0, sh0, by rw [b3]; exact p0, by rw [b3]; exact p1, by rw [b3, b5]; exact px⟩, ⟨b4, r2, r3⟩⟩
  · have ar := anc_r (K := m 102) (fr := 0) k.toNat
    rw [ac k.toNat (by omega), ac _ (by omega)]
    exact x7' e
  · obtain ⟨b, hb, ⟨c1, c2, c3, c4, c5, -⟩⟩ := x8 j j0 j1
    have := S j j0 j1
    rw [Vp_e (b := b) (by rw [← hb, Int.zero_add])] at this
    exact ⟨b, hb, c1, c2, c3, c4, c5, this⟩
/-- a picture coded: as pic_2, and right for all models that stand as this one does -/
theorem pic_r (L : Lay s Q hm) (h6 : s.1 + 1 < 1000000) (hb : ∀ b, Q 43 0 = some b → 153 ≤ b ∧ Ce s hm b 1 4000 560) (X : PKm s Q hm I m a p src f w h 0 k kd rc os) (s0 : 1 ≤ st) (s1 : st ≤ 31) : ∃ (S : hS) (Q1 : hQ) (H : hO) (I1 m1 : jM) (b : Nat) (n : Int), jd_16 44 (some 43) (some a) k (some src) st rc (hh s Q I) = some ((n + 7) / 8, hh S Q1 I1) ∧ jd_291 k st m = some ((n + 7) / 8, m1) ∧ Lay S Q1 H ∧ PKm S Q1 H I1 m1 a p src f w h 0 k kd rc os ∧ MdP S Q1 H I1 m1 p b w h k st n ∧ Sm (PFp (200 + 12 * f + k)) s Q hm I S Q1 H I1 ∧ I1 p = I p ∧ MFp m m1 k st ∧ Gw s Q S Q1 ∧ Rgt w h rc st (m 102) (m 103) (m 121) (Vp Q1 I1 a) k ((n + 7) / 8) := by
  obtain ⟨S, Q1, H, I1, m1, b, n, e1, e2, L1, X1, D1, S1, ip, M1, G1⟩ := pic_2 L (by omega) hb X s0 s1
  rw [Int.zero_add] at e1 S1
  obtain ⟨F, ⟨f0, f8⟩, ⟨-, -, -, -, sw, sh⟩, ⟨-, k0, gk, -⟩, -, -, -, x8, ⟨qp, -, -⟩, -, -⟩ := id X
  rw [Int.zero_add] at gk qp
  have pf5 : PFp (200 + 12 * f + k) (500 + f) := ⟨by omega, by omega, by omega⟩
  have c9 := (Ce_fr S1 (F.2.1 9 (by decide)) pf5).2.1
  have F1 := X1.1
  have vk : Vp Q1 I1 a k = I1 (p + 1) := Vp_e (by rw [c9]; exact qp)
  have vj : ∀ j : Int, 0 ≤ j → j < k → Vp Q1 I1 a j = Vp Q I a j := fun j j0 j1 => by
    obtain ⟨y, hy, -⟩ := x8 j j0 j1
    rw [Int.zero_add] at hy
    rw [Vp_e (by rw [c9]; exact hy), Vp_e hy]
    exact (PicAt_fr S1 (F.2.2.2.2 j j0 (by omega) y hy) (show PFp (200 + 12 * f + k) (200 + 12 * f + j) from ⟨by omega, by omega, by omega⟩)).2.2
  refine ⟨S, Q1, H, I1, m1, b, n, e1, e2, L1, X1, D1, S1, ip, M1, G1, fun m' M' S' => ?_⟩
  have X' := PKm_x X M' (fun j j0 j1 => by rw [← vj j j0 j1]; exact S' j j0 j1)
  obtain ⟨S2, Q2, H2, I2, m2, b2, n2, d1, d2, L2, X2, D2, -, -, M2, G2⟩ := pic_2 (st := st) L (by omega) hb X' s0 s1
  rw [Int.zero_add] at d1
  have ee := Option.some.inj (e1.symm.trans d1)
  have en : (n + 7) / 8 = (n2 + 7) / 8 := congrArg Prod.fst ee
  have eh : hh S Q1 I1 = hh S2 Q2 I2 := congrArg Prod.snd ee
  refine ⟨m2, by rw [en]; exact d2, ?_, M2⟩
  rw [vk]
  intro pl i p0 p2 i0 i1
  obtain ⟨-, -, R2, -⟩ := D2
  obtain ⟨c1, -, -, -, -, c6⟩ := R2
  obtain ⟨b0, b1⟩ := pb_lt sw sh p0 p2 i0 i1
  have A1 := F1.2.2.2.2 k k0 gk p (by rw [c9]; exact qp)
  have g1 : S.1 ≤ 1000000 := by
    have := G1.2.1
    have := nW_le (Q := Q1)
    omega
  have g2 : S2.1 ≤ 1000000 := by
    have := G2.2.1
    have := nW_le (Q := Q2)
    omega
  have t1 := x_ai (R := Q1) (I := I1) (z := pb w h pl + i) A1.2.2.1.1 g1 A1.2.2.1.2.1 b0 (by rw [A1.2.2.1.2.2.1]; omega) (by rw [A1.2.2.1.2.2.1]; decide)
  rw [eh, x_ai c1.2.2.2.1 g2 c1.2.2.2.2.1 b0 (by rw [c1.2.2.2.2.2.1]; omega) (by rw [c1.2.2.2.2.2.1]; decide)] at t1
  have t2 : I2 (p + 1) (pb w h pl + i) = I1 (p + 1) (pb w h pl + i) := Option.some.inj t1
  rw [← t2]
  exact c6 pl i p0 p2 i0 i1
end RightM
