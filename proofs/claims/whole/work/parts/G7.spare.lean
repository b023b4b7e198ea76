/-! the relation when the spare film was worked on -/
section SpareFrame
variable {yy : Nat} {s : hS} {Q Q' : hQ} {hm : hO} {I I' m m' : jM} {w h fr e : Int} {pj : Int → Nat}
def PX (o : Int) : Prop := ¬ (1009 ≤ o ∧ o ≤ 1024) ∧ o ≠ 1028 ∧ ¬ (1038 ≤ o ∧ o ≤ 1041) ∧ ¬ (400 ≤ o ∧ o < 412)
theorem RelY_spare (R : RelY yy s Q hm I m) (hq : ∀ x : Nat, x ≠ 10 → x ≠ 11 → Q' x = Q x) (L' : Lay s Q' hm) (S : Sm PX s Q hm I s Q' hm I') (M : Mm m m') : RelY yy s Q' hm I' m' := by
  obtain ⟨L, r1, r2, r3, r4, r5, r6, r7, r8, r9⟩ := R
  obtain ⟨⟨m1, m5, m7, m8, m9, m12, m86, m92⟩, em⟩ := M
  have p : ∀ i : Int, i < 400 ∨ (412 ≤ i ∧ i < 1009) ∨ (1024 < i ∧ i ≠ 1028 ∧ (i < 1038 ∨ 1041 < i)) → PX i := fun i hi => by unfold PX; omega
  have i0 : I' 0 = I 0 := (Lay_fr (a := 0) L S (by decide) (p _ (by omega))).2
  have i2 : I' 2 = I 2 := (Lay_fr (a := 2) L S (by decide) (p _ (by omega))).2
  have i3 : I' 3 = I 3 := (Lay_fr (a := 3) L S (by decide) (p _ (by omega))).2
  have i6 : I' 6 = I 6 := (Lay_fr (a := 6) L S (by decide) (p _ (by omega))).2
  refine ⟨L', ?_, ?_, ?_, ?_, ?_, ?_, ?_, ?_, ?_⟩
  · exact RPic_fr L S (p _ (by omega)) (fun i _ _ => p i (by omega)) (by rw [i0]) m1 (em 77 (by omega)) (em 78 (by omega)) (em 79 (by omega)) r1
  · exact RTap_fr (by rw [i0]) i2 m5 (em 80 (by omega)) r2
  · exact RSet_fr i3 (em 82 (by omega)) r3
  · exact RRee_fr L S (p _ (by omega)) (fun i _ _ => p i (by omega)) (by rw [i0]) m7 m8 m9 (em 81 (by omega)) r4
  · exact RFil_fr L S (p _ (by omega)) (fun i _ _ => p i (by omega)) (fun i _ _ => p i (by omega)) (fun i _ _ => p i (by omega)) (by rw [i0]) m12 (fun x _ _ => em x (by omega)) r5
  · exact RRow_fr (by rw [i0]) i6 m86 m12 (em 131 (by omega)) (em 132 (by omega)) (em 133 (by omega)) (em 83 (by omega)) (em 87 (by omega)) r6
  · exact RFlt_fr L S (p _ (by omega)) (fun i _ _ => p i (by omega)) (by rw [i0]) m92 (em 135 (by omega)) (em 136 (by omega)) (em 137 (by omega)) r7
  · exact RPlyY_fr L S (p _ (by omega)) (fun i _ _ => p i (by omega)) (fun i _ _ => p i (by omega)) m12 (fun x _ _ => em x (by omega)) (fun x _ _ => em x (by omega)) r9 r8
  · obtain ⟨c1, c2, c3⟩ := r9
    have pq : ∀ {b : Nat} {o : Int}, PicAt s Q hm b o → PicAt s Q' hm b o := fun {b} {o} A => ⟨A.1, A.2.1, A.2.2.1, by rw [hq b (by have := A.1; omega) (by have := A.1; omega)]; exact A.2.2.2⟩
    unfold RMis
    rw [hq 43 (by decide) (by decide), hq 37 (by decide) (by decide)]
    refine ⟨c1, fun k k0 k1 b hb => pq (c2 k k0 k1 b hb), fun y hy b hb => ?_⟩
    rw [hq (72 + y) (by omega) (by omega)] at hb
    exact pq (c3 y hy b hb)
theorem TpI_sm (L : Lay s Q hm) (po : ∀ j : Int, fr ≤ j → j ≤ e → hm (pj j + 1) = 400 + j) (f0 : 0 ≤ fr) (e12 : e < 12) (J : TpI s Q hm I m w h fr pj (e + 1) Q' I' m') : Sm PX s Q hm I s Q' hm I' := by
  obtain ⟨j1, j2, j3, -⟩ := J
  refine ⟨Nat.le_refl _, fun x _ hx => ?_⟩
  have lo : x < 76 → hm x = 1000 + (x : Int) := fun h => (L.2.1 x h).2.2.2
  unfold PX at hx
  have hx' : x < 76 → ¬ (9 ≤ x ∧ x ≤ 24) ∧ x ≠ 28 ∧ ¬ (38 ≤ x ∧ x ≤ 41) := fun h => by
    have := lo h
    omega
  refine ⟨rfl, rfl, j1 x (fun e => ?_) (fun e => ?_), j3 x ?_ (fun e => ?_) (fun e => ?_) (fun e => ?_) (fun j j0 j1 e => ?_), rfl⟩
  · have := hx' (by omega)
    omega
  · have := hx' (by omega)
    omega
  · by_cases h7 : x < 76
    · have := hx' h7
      omega
    · omega
  · have := hx' (by omega)
    omega
  · have := hx' (by omega)
    omega
  · have := hx' (by omega)
    omega
  · have := po j j0 (by omega)
    rw [← e] at this
    omega
end SpareFrame
