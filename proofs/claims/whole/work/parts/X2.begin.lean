/-! the relation at the start -/
section Begin
theorem hh_et2 (h : jH) : h = hh (h.1, h.2.1, jt h, jl h) (jr h) (ji h) := rfl
theorem jSk_sk : ∀ a : Nat, a < 76 → jSk.getD a (0, 0) = sk a := by decide
theorem jSk_152 : jSk.getD 152 (0, 0) = (3, 1) := by decide
theorem jS_sq : ∀ a : Nat, a < 76 → ∀ k : Nat, k < 20 → (sq a k = none ∨ jr jhS a (k : Int) = sq a k) := by decide +kernel
theorem jS_pl : ∀ y : Nat, y < 4 → jr jhS (72 + y) 0 = none ∧ jr jhS (72 + y) 8 = none := by decide +kernel
theorem jS_wr : jr jhS 43 0 = none := by decide +kernel
theorem jS_z : ji jhS 0 1 = 0 ∧ ji jhS 0 3 = 0 ∧ ji jhS 0 6 = 0 ∧ ji jhS 0 8 = 0 ∧ ji jhS 0 10 = 0 ∧ ji jhS 0 12 = 0 ∧ ji jhS 76 1 = 0 ∧ ji jhS 76 5 = 0 ∧ ji jhS 76 7 = 0 ∧ ji jhS 76 12 = 0 ∧ ji jhS 76 86 = 0 ∧ ji jhS 76 92 = 0 := by decide +kernel
theorem sq_k {a k b : Nat} (h : sq a k = some b) : k < 20 := by
  unfold sq at h
  split at h <;> first | (cases h; done) | decide
theorem st_set : ∀ k : Nat, k < 8 → stOk (k : Int) ([25, 4, 0, 2, 4, 0, 1000, 0].getD k 0) := fun k hk => by
  unfold stOk
  match k, hk with
  | 0, _ => exact Or.inr (by decide)
  | 1, _ => exact Or.inr (by decide)
  | 2, _ => exact Or.inr (by decide)
  | 3, _ => exact Or.inr (by decide)
  | 4, _ => exact Or.inr (by decide)
  | 5, _ => exact Or.inl (by decide)
  | 6, _ => exact Or.inr (by decide)
  | 7, _ => exact Or.inr (by decide)
theorem Rel_start {h : jH} (n1 : h.1 = 153) (nk : ∀ a : Nat, a < 76 → jt h a = (sk a).1 ∧ jl h a = (sk a).2) (nq : ∀ a k b : Nat, sq a k = some b → jr h a (k : Int) = some b) (nz : ji h 0 1 = 0 ∧ ji h 0 3 = 0 ∧ ji h 0 6 = 0 ∧ ji h 0 8 = 0 ∧ ji h 0 10 = 0 ∧ ji h 0 12 = 0 ∧ ji h 76 1 = 0 ∧ ji h 76 5 = 0 ∧ ji h 76 7 = 0 ∧ ji h 76 12 = 0 ∧ ji h 76 86 = 0 ∧ ji h 76 92 = 0) (n2 : ∀ k : Nat, k < 60 → jr h 1 (k : Int) = none) (n4 : ∀ k : Nat, k < 12 → jr h 4 (k : Int) = none) (n5 : ∀ k : Nat, k < 8 → jr h 5 (k : Int) = none ∧ jr h 7 (k : Int) = none) (n37 : ∀ k : Nat, k < 12 → jr h 37 (k : Int) = none) (nset : ∀ k : Nat, k < 8 → ji h 3 (k : Int) = [25, 4, 0, 2, 4, 0, 1000, 0].getD k 0 ∧ ji h 82 (k : Int) = [25, 4, 0, 2, 4, 0, 1000, 0].getD k 0) (npl : ∀ y : Nat, y < 4 → jr h (72 + y) 0 = none ∧ jr h (72 + y) 8 = none) (nfo : ∀ k : Nat, k < 4 → ji h 141 (k : Int) = -1) (nwr : jr h 43 0 = none) : RelH (h.1, h.2.1, jt h, jl h) (jr h) (fun a => 1000 + (a : Int)) (ji h) (ji h) := by
  obtain ⟨z1, z2, z3, z4, z5, z6, z7, z8, z9, za, zb, zc⟩ := nz
  have nat : ∀ i : Int, 0 ≤ i → ∃ k : Nat, i = (k : Int) := fun i hi => ⟨i.toNat, by omega⟩
  refine ⟨⟨by show 153 ≤ h.1; omega, fun a ha => ⟨by show a < h.1; omega, (nk a ha).1, (nk a ha).2, rfl⟩, fun _ _ _ => rfl, nq⟩, ⟨z1.trans z7.symm, by omega, by omega, fun i h1 h2 a ha => ?_, fun i h1 h2 => absurd h2 (by omega)⟩, ⟨z2.trans z8.symm, by omega, by omega, fun i h1 h2 => absurd h2 (by omega)⟩, fun k h1 h2 => ?_, ⟨z3.trans z9.symm, by omega, by omega, fun i h1 h2 a ha => ?_, fun i h1 h2 => absurd h2 (by omega)⟩, ⟨z4.trans za.symm, by omega, by omega, fun i h1 h2 a ha => ?_, fun i h1 h2 => absurd h2 (by omega)⟩, ⟨z5.trans zb.symm, by omega, by omega, fun i h1 h2 => absurd h2 (by omega)⟩, ⟨z6.trans zc.symm, by omega, by omega, fun i h1 h2 a ha => ?_, fun i h1 h2 => absurd h2 (by omega)⟩, fun y hy => Or.inl ⟨nfo y hy, (npl y hy).1⟩, ⟨fun b hb => ?_, fun i h1 h2 a ha => ?_, fun y hy a ha => ?_⟩⟩
  · obtain ⟨k, rfl⟩ := nat i h1
    rw [n2 k (by omega)] at ha
    cases ha
  · obtain ⟨j, rfl⟩ := nat k h1
    obtain ⟨a1, a2⟩ := nset j (by omega)
    rw [a1, a2]
    exact ⟨rfl, st_set j (by omega)⟩
  · obtain ⟨k, rfl⟩ := nat i h1
    rw [n4 k (by omega)] at ha
    cases ha
  · obtain ⟨k, rfl⟩ := nat i h1
    rw [(n5 k (by omega)).1] at ha
    cases ha
  · obtain ⟨k, rfl⟩ := nat i h1
    rw [(n5 k (by omega)).2] at ha
    cases ha
  · rw [nwr] at hb
    cases hb
  · obtain ⟨k, rfl⟩ := nat i h1
    rw [n37 k (by omega)] at ha
    cases ha
  · rw [(npl y hy).2] at ha
    cases ha
theorem RelL_st {h : jH} (n1 : h.1 = 153) (nK : ∀ a : Nat, a < 153 → (jt h a, jl h a) = jSk.getD a (0, 0)) (nla : ∀ a : Nat, a < 152 → 76 ≤ a → jt h a = (jmt a).1 ∧ jl h a = (jmt a).2) (nlr : ∀ k : Nat, k < 116 → jr h 76 (k : Int) = jmr k) (nsq : ∀ a : Nat, a < 76 → ∀ k : Nat, k < 20 → (sq a k = none ∨ jr h a (k : Int) = sq a k)) (nz : ji h 0 1 = 0 ∧ ji h 0 3 = 0 ∧ ji h 0 6 = 0 ∧ ji h 0 8 = 0 ∧ ji h 0 10 = 0 ∧ ji h 0 12 = 0 ∧ ji h 76 1 = 0 ∧ ji h 76 5 = 0 ∧ ji h 76 7 = 0 ∧ ji h 76 12 = 0 ∧ ji h 76 86 = 0 ∧ ji h 76 92 = 0) (n2 : ∀ k : Nat, k < 60 → jr h 1 (k : Int) = none) (n4 : ∀ k : Nat, k < 12 → jr h 4 (k : Int) = none) (n5 : ∀ k : Nat, k < 8 → jr h 5 (k : Int) = none ∧ jr h 7 (k : Int) = none) (n37 : ∀ k : Nat, k < 12 → jr h 37 (k : Int) = none) (nset : ∀ k : Nat, k < 8 → ji h 3 (k : Int) = [25, 4, 0, 2, 4, 0, 1000, 0].getD k 0 ∧ ji h 82 (k : Int) = [25, 4, 0, 2, 4, 0, 1000, 0].getD k 0) (npl : ∀ y : Nat, y < 4 → jr h (72 + y) 0 = none ∧ jr h (72 + y) 8 = none) (nfo : ∀ k : Nat, k < 4 → ji h 141 (k : Int) = -1) (nwr : jr h 43 0 = none) : RelL h := by
  have k : ∀ a : Nat, a < 153 → jt h a = (jSk.getD a (0, 0)).1 ∧ jl h a = (jSk.getD a (0, 0)).2 := fun a ha => by
    have := nK a ha
    exact ⟨congrArg Prod.fst this, congrArg Prod.snd this⟩
  refine ⟨⟨by omega, by omega, nla, nlr, ?_, ?_⟩, _, _, _, _, hh_et2 h, Rel_start n1 (fun a ha => ?_) (fun a k b e => ?_) nz n2 n4 n5 n37 nset npl nfo nwr⟩
  · rw [(k 152 (by decide)).1, jSk_152]
  · rw [(k 152 (by decide)).2, jSk_152]
  · rw [(k a (by omega)).1, (k a (by omega)).2, jSk_sk a ha]
    exact ⟨rfl, rfl⟩
  · rcases nsq a (sq_lt e) k (sq_k e) with h | h
    · rw [h] at e
      cases e
    · rw [h, e]
theorem RelL_start : RelL jhS := RelL_st (h := jhS) jS_n jS_k jS_la jS_lr jS_sq jS_z jS_r2 jS_r4 jS_r5 (fun k hk => (jS_rf k hk).1) jS_set jS_pl jS_fo jS_wr
end Begin
