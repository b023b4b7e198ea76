/-! what stands when a parsed film's pictures begin -/
section Begin
variable {s s' : hS} {Q Q' : hQ} {hm hm' : hO} {I J I' m M : jM} {f w h cod T len : Int} {W : Int → Int} {a b : Nat}
theorem jwb_c {x y : Int} (h : x % 256 = y % 256) : jwb x = jwb y := by
  unfold jwb
  omega
theorem PcC_at {p : Nat} {o : Int} (A : PicAt s Q hm p o) : PcC s Q p := ⟨A.1, A.2.1.1, A.2.1.2.1, A.2.2.1.1, A.2.2.1.2.1, A.2.2.1.2.2.1, A.2.2.2⟩
theorem b_nf (F : FilmAt s Q hm a f) (hb : Q a 5 = some b) (j : Nat) (hj : j < 13) : b ≠ a + j := fun e => by
  obtain ⟨-, n, -, c⟩ := F.2.2.2.1 b hb
  have h1 := (F.2.1 j hj).2.1
  rw [← e, c.2.1] at h1
  have : ∀ j : Fin 13, 1 ≠ (fTag j.val).1 := by decide
  exact this ⟨j, hj⟩ h1
theorem LpB_of (f0 : 0 ≤ f) (f8 : f < 8) (F : FilmAt s Q hm a f) (Y : BySm s Q I m a b len) (l1 : len ≤ 24067) (H : Prs I J m M a len) (fr : ∀ c, (c < a ∨ a + 6 < c) → J c = I c) (f112 : M 112 = m 112) (e32 : M 76 32 = cod) (e33 : M 76 33 = w) (e34 : M 76 34 = h) (e35 : M 76 35 = T) (O : O28 a f 0 T w h s Q hm (ims J (a + 7) W) s' Q' hm' I') : LpB s' Q' hm' I' (mHd M f len) a b w h cod f T len (fun j => (Q' (a + 9) j).getD 0) := by
  have V := Prs_PV H
  have E := Prs_eq H
  obtain ⟨T', cod', w', h', rt, I1, m1, -, -, ⟨g0, g1, g2, g3, g4⟩, ⟨u1, u2, u3, u4, u5⟩, ⟨sw, sh⟩, -, t1, t12, c0, c2⟩ := H
  obtain ⟨o1, o2, o3, o4, o5, o6, o7, o8⟩ := O
  obtain ⟨y1, ⟨y2, y3, y4⟩, y5, y6, y7, y8, y9, ya⟩ := Y
  rw [u1] at e32
  rw [u2] at e33
  rw [u3] at e34
  rw [u4] at e35
  subst e32 e33 e34 e35
  rw [u1, u4] at V
  rw [u4] at E
  have M1 : ∀ c : Nat, c < 83 ∨ 89 < c → mHd M f len c = M c := fun c hc => mHd_o hc
  -- the film's cells
  have fc : ∀ j : Nat, j < 13 → I' (a + j) = ims J (a + 7) W (a + j) := fun j hj => (o4 (a + j) (F.2.1 j hj).1 (F.2.1 j hj).2.2.2).1
  have fj : ∀ j : Nat, j < 7 → I' (a + j) = J (a + j) := fun j hj => by rw [fc j (by omega), ims_o (by omega)]
  have qa : Q' a = Q a := (o4 a (F.2.1 0 (by decide)).1 (F.2.1 0 (by decide)).2.2.2).2.2.2.2 (by omega)
  obtain ⟨b153, n, hn, cb⟩ := F.2.2.2.1 b y1
  have B := Ce_fr o3 cb ⟨by omega, by omega⟩
  have ib : I' b = I b := by
    rw [B.2.2, ims_o (b_nf F y1 7 (by decide))]
    refine fr b ?_
    have n0 := b_nf F y1 0 (by decide)
    have n1 := b_nf F y1 1 (by decide)
    have n2 := b_nf F y1 2 (by decide)
    have n3 := b_nf F y1 3 (by decide)
    have n4 := b_nf F y1 4 (by decide)
    have n5 := b_nf F y1 5 (by decide)
    have n6 := b_nf F y1 6 (by decide)
    omega
  have pj : ∀ j : Int, 0 ≤ j → j < T' → ∃ p, Q' (a + 9) j = some p ∧ PicAt s' Q' hm' p (200 + 12 * f + j) ∧ I' p 0 = w' ∧ I' p 1 = h' := fun j j0 j1 => by
    obtain ⟨p, p1, p2, p3⟩ := o6 j j0 j1
    exact ⟨p, p1, o2.2.2.2.2 j j0 (by omega) p p1, p2, p3⟩
  refine ⟨⟨f0, f8⟩, ⟨(congrFun (fj 0 (by decide)) 0).trans g0, (congrFun (fj 0 (by decide)) 4).trans g4, ?_, ?_, ?_, ?_, ?_⟩, ⟨sw, sh⟩, ⟨fun i => m 112 i % 256, ?_⟩, by omega, fun j j0 j1 => ?_, ⟨by rw [qa]; exact y1, ⟨B.1.1, B.1.2.1, ?_⟩, ?_, fun j j0 j1 => ?_⟩, fun j j0 j1 => ?_, fun i j i0 i1 j0 j1 ij => ?_⟩
  · rw [M1 76 (by omega)]; exact u1
  · rw [M1 76 (by omega)]; exact u2
  · rw [M1 76 (by omega)]; exact u3
  · rw [M1 76 (by omega)]; exact u4
  · rw [M1 76 (by omega)]; exact u5
  · rw [M1 102 (by omega), M1 103 (by omega), M1 104 (by omega), M1 105 (by omega), M1 106 (by omega)]
    exact V
  · rw [M1 102 (by omega), M1 104 (by omega), M1 105 (by omega), M1 106 (by omega), fj 1 (by decide), fj 3 (by decide), fj 4 (by decide), fj 5 (by decide)]
    obtain ⟨k1, k2, k3, k4, k5, k6⟩ := E j j0 j1
    exact ⟨k1, k3, k4, k5⟩
  · rw [B.1.2.2.1]
    omega
  · rw [B.1.2.2.1, ← cb.2.2.1]
    exact y7
  · rw [ib, M1 112 (by omega), f112]
    exact jwb_c (ya j j0 j1)
  · obtain ⟨p, p1, p2, p3, p4⟩ := pj j j0 j1
    have e : (Q' (a + 9) j).getD 0 = p := by rw [p1]; rfl
    show Q' (a + 9) j = some ((Q' (a + 9) j).getD 0) ∧ PcC s' Q' ((Q' (a + 9) j).getD 0) ∧ I' ((Q' (a + 9) j).getD 0) 0 = w' ∧ I' ((Q' (a + 9) j).getD 0) 1 = h'
    rw [e]
    exact ⟨p1, PcC_at p2, p3, p4⟩
  · obtain ⟨p, p1, p2, -⟩ := pj i i0 i1
    obtain ⟨q, q1, q2, -⟩ := pj j j0 j1
    show (Q' (a + 9) i).getD 0 ≠ (Q' (a + 9) j).getD 0
    rw [p1, q1]
    intro e
    have e' : p = q := e
    have h1 := p2.2.1.2.2.2
    have h2 := q2.2.1.2.2.2
    rw [e', h2] at h1
    omega
end Begin
