/-! making: what a whole picture is, and its anchors -/
section PicM
variable {s s' : hS} {Q Q' : hQ} {hm hm' : hO} {I I' m m' : jM} {a p b src : Nat} {f w h g k kd st rc os : Int}
theorem prt_all (sw : isSd w) (sh : isSd h) (E : PrtE p w h k (w / 8 * (h / 8)) I m) {pl j : Int} (p0 : 0 ≤ pl) (p2 : pl ≤ 2) (j0 : 0 ≤ j) (j1 : j < pw w pl * pw h pl) : I (p + 1) (pb w h pl + j) = m 109 (864 * k + (pf pl + j)) ∧ 0 ≤ m 109 (864 * k + (pf pl + j)) ∧ m 109 (864 * k + (pf pl + j)) ≤ 255 := by
  have pc : pl = 0 ∨ pl = 1 ∨ pl = 2 := by omega
  obtain ⟨x, y, hj, x0, x1, y0, y1, hp⟩ : ∃ x y : Int, y * pw w pl + x = j ∧ 0 ≤ x ∧ x < pw w pl ∧ 0 ≤ y ∧ y < pw h pl ∧ y / sdOf pl * (w / 8) + x / sdOf pl < w / 8 * (h / 8) := by
    refine ⟨j % pw w pl, j / pw w pl, ?_⟩
    obtain ⟨sd, c, r, e1, e2, e3, e4, e5, d1, d2, d3⟩ : ∃ sd c r : Int, sdOf pl = sd ∧ w / 8 = c ∧ h / 8 = r ∧ pw w pl = sd * c ∧ pw h pl = sd * r ∧ (sd = 8 ∨ sd = 4) ∧ (c = 1 ∨ c = 2 ∨ c = 3) ∧ (r = 1 ∨ r = 2 ∨ r = 3) := by
      rcases pc with rfl | rfl | rfl <;> rcases sw with rfl | rfl | rfl <;> rcases sh with rfl | rfl | rfl <;> exact ⟨_, _, _, rfl, rfl, rfl, by decide, by decide, by decide, by decide, by decide⟩
    rw [e1, e2, e3, e4, e5]
    rw [e4, e5] at j1
    clear e1 e2 e3 e4 e5 E sw sh
    rcases d1 with rfl | rfl <;> rcases d2 with rfl | rfl | rfl <;> rcases d3 with rfl | rfl | rfl <;> simp only [Int.reduceMul] at j1 ⊢ <;> omega
  have := E pl x y p0 p2 x0 x1 y0 y1 hp
  rw [hj] at this
  exact this
theorem RfE_tr {A : Int} (R : RfE s Q I m b w h A) (P : PcC s' Q' b) (e1 : I' b = I b) (e2 : I' (b + 1) = I (b + 1)) (e3 : ∀ j : Int, 864 * A ≤ j → j < 864 * A + 864 → m' 109 j = m 109 j) (sw : isSd w) (sh : isSd h) : RfE s' Q' I' m' b w h A := by
  obtain ⟨r1, r2, r3, r4, r5, r6⟩ := R
  refine ⟨P, by rw [e1]; exact r2, by rw [e1]; exact r3, r4, r5, fun pl j p0 p2 j0 j1 => ?_⟩
  have lb : 0 ≤ pf pl + j ∧ pf pl + j < 864 := by
    have pc : pl = 0 ∨ pl = 1 ∨ pl = 2 := by omega
    rcases pc with rfl | rfl | rfl <;> rcases sw with rfl | rfl | rfl <;> rcases sh with rfl | rfl | rfl <;> unfold pf <;> simp only [pw] at j1 <;> simp at j1 ⊢ <;> omega
  rw [e2, e3 _ (by omega) (by omega)]
  exact r6 pl j p0 p2 j0 j1
/-- a picture about to be made: film a, its place g + k, group from g, source -/
def PKm (s : hS) (Q : hQ) (hm : hO) (I m : jM) (a p src : Nat) (f w h g k kd rc os : Int) : Prop := FilmAt s Q hm a f ∧ (0 ≤ f ∧ f < 8) ∧ (m 76 32 = 0 ∧ m 76 33 = w ∧ m 76 34 = h ∧ m 76 36 = 0 ∧ isSd w ∧ isSd h) ∧ (0 ≤ g ∧ 0 ≤ k ∧ g + k < 12 ∧ m 102 k = kd) ∧ (∀ j : Int, 0 ≤ j → j ≤ k → I (a + 1) (g + j) = m 102 j ∧ 0 ≤ m 102 j ∧ m 102 j ≤ 2) ∧ (∀ j : Int, 0 ≤ j → j < g → okI (I (a + 1) j)) ∧ (m 102 0 = 0 ∧ (kd = 2 → 0 ≤ anc (m 102) 0 (anc (m 102) 0 k.toNat).toNat)) ∧ (∀ j : Int, 0 ≤ j → j < k → ∃ b, Q (a + 9) (g + j) = some b ∧ RfE s Q I m b w h j) ∧ (Q (a + 9) (g + k) = some p ∧ I p 0 = w ∧ I p 1 = h) ∧ (PicAt s Q hm src os ∧ (100 ≤ os ∧ os < 200 + 12 * f) ∧ I src 0 = w ∧ I src 1 = h ∧ 0 ≤ m 103 k ∧ m 103 k < 12 ∧ ∀ pl j : Int, 0 ≤ pl → pl ≤ 2 → 0 ≤ j → j < pw w pl * pw h pl → I (src + 1) (pb w h pl + j) = m 121 (864 * m 103 k + (pf pl + j)) ∧ 0 ≤ m 121 (864 * m 103 k + (pf pl + j)) ∧ m 121 (864 * m 103 k + (pf pl + j)) ≤ 255) ∧ (m 82 3 = rc ∧ 0 ≤ rc ∧ rc ≤ 8)
theorem pic_a {K M : Int → Int} (g0 : 0 ≤ g) (k0 : 0 ≤ k) (hK : ∀ j : Int, 0 ≤ j → j ≤ k → K (g + j) = M j) (hM : M 0 = 0) (hk : M k = kd) (h2 : kd = 2 → 0 ≤ anc M 0 (anc M 0 k.toNat).toNat) : (kd ≠ 0 → ∃ r : Int, 0 ≤ r ∧ r < k ∧ rfB K 0 (g + k) kd = g + r ∧ (if kd = 2 then anc M 0 (anc M 0 k.toNat).toNat else anc M 0 k.toNat) = r) ∧ (kd = 2 → ∃ r : Int, 0 ≤ r ∧ r < k ∧ anc K 0 (g + k).toNat = g + r ∧ anc M 0 k.toNat = r) := by
  obtain ⟨G, hG⟩ : ∃ G : Nat, (G : Int) = g := ⟨g.toNat, by omega⟩
  obtain ⟨n, hn⟩ : ∃ n : Nat, (n : Int) = k := ⟨k.toNat, by omega⟩
  have kg : K (G : Int) ≠ 2 := by
    have := hK 0 (by omega) k0
    rw [show g + 0 = (G : Int) by omega, hM] at this
    omega
  have nk : k.toNat = n := by omega
  have sh1 : ∀ t : Nat, 0 < t → t ≤ n → anc K 0 (G + t) = g + anc M 0 t := fun t t0 t1 => by
    rw [anc_sh kg t t0, hG]
    have : anc (fun j => K (g + j)) 0 t = anc M 0 t := anc_c (fun j j0 j1 => hK j j0 (by omega))
    rw [this]
  rw [nk] at h2 ⊢
  have gk : (g + k).toNat = G + n := by omega
  have n0 : kd ≠ 0 → 0 < n := fun e => by
    by_cases c : n = 0
    · rw [show k = 0 by omega, hM] at hk
      exact absurd hk.symm e
    · omega
  have r1 := anc_r (K := M) (fr := 0) n
  unfold rfB
  rw [gk]
  refine ⟨fun e => ?_, fun e => ?_⟩
  · have np := n0 e
    rw [sh1 n np (by omega)]
    by_cases c : kd = 2
    · have h2' := h2 c
      have tp : 0 < (anc M 0 n).toNat := by
        by_cases c : (anc M 0 n).toNat = 0
        · rw [c, anc_0] at h2'
          omega
        · omega
      rw [if_pos c, if_pos c, show (g + anc M 0 n).toNat = G + (anc M 0 n).toNat by omega, sh1 _ tp (by omega)]
      have r2 := anc_r (K := M) (fr := 0) (anc M 0 n).toNat
      exact ⟨_, h2', by omega, rfl, rfl⟩
    · rw [if_neg c, if_neg c]
      have := anc_ge (K := M) (by rw [hM]; decide) (n := n) np
      exact ⟨_, this, by omega, rfl, rfl⟩
  · have np := n0 (by omega)
    rw [sh1 n np (by omega)]
    have := anc_ge (K := M) (by rw [hM]; decide) (n := n) np
    exact ⟨_, this, by omega, rfl, rfl⟩
end PicM
