/-! all heads: what is known of each -/
def PVb (cod T : Int) (K P S Z Hd B : Int → Int) (k : Int) : Prop := (0 ≤ K k ∧ K k ≤ 2) ∧ (0 ≤ P k ∧ P k < T) ∧ (cod = 0 → 1 ≤ S k ∧ S k ≤ 31) ∧ (cod ≠ 0 → S k = 0) ∧ (0 ≤ Z k ∧ Z k ≤ 2000) ∧ (0 < k → Hd k = Hd (k - 1) + 5 + Z (k - 1)) ∧ (cod = 1 → K k = 0) ∧ (cod = 2 → K k ≠ 2) ∧ (∀ j : Int, 0 ≤ j → j < k → P j ≠ P k) ∧ (K k ≠ 2 → 0 ≤ anc K 0 k.toNat → P (anc K 0 k.toNat) < P k) ∧ (K k = 2 → 0 ≤ anc K 0 (anc K 0 k.toNat).toNat ∧ P (anc K 0 (anc K 0 k.toNat).toNat) < P k ∧ P k < P (anc K 0 k.toNat)) ∧ (B (Hd k) = K k ∧ B (Hd k + 1) = P k ∧ B (Hd k + 2) = S k ∧ 256 * B (Hd k + 3) + B (Hd k + 4) = Z k)
section Heads70
variable {cod T k : Int} {K P S Z Hd B K' P' S' Z' Hd' : Int → Int}
theorem PVb_c (k0 : 0 ≤ k) (eK : ∀ j : Int, 0 ≤ j → j ≤ k → K' j = K j) (eP : ∀ j : Int, 0 ≤ j → j ≤ k → P' j = P j) (eS : ∀ j : Int, 0 ≤ j → j ≤ k → S' j = S j) (eZ : ∀ j : Int, 0 ≤ j → j ≤ k → Z' j = Z j) (eH : ∀ j : Int, 0 ≤ j → j ≤ k → Hd' j = Hd j) (V : PVb cod T K P S Z Hd B k) : PVb cod T K' P' S' Z' Hd' B k := by
  have r1 := anc_r (K := K) (fr := 0) k.toNat
  have r2 := anc_r (K := K) (fr := 0) (anc K 0 k.toNat).toNat
  have a1 : anc K' 0 k.toNat = anc K 0 k.toNat := anc_c (fun j j0 j1 => eK j j0 (by omega))
  have a2 : anc K' 0 (anc K 0 k.toNat).toNat = anc K 0 (anc K 0 k.toNat).toNat := anc_c (fun j j0 j1 => eK j j0 (by omega))
  obtain ⟨v1, v2, v3, v4, v5, v6, v7, v8, v9, v10, v11, v12⟩ := V
  unfold PVb
  rw [a1, a2, eK k k0 (by omega), eP k k0 (by omega), eS k k0 (by omega), eZ k k0 (by omega), eH k k0 (by omega)]
  refine ⟨v1, v2, v3, v4, v5, fun h => ?_, v7, v8, fun j j0 j1 => ?_, fun h1 h2 => ?_, fun h => ?_, v12⟩
  · rw [eH (k - 1) (by omega) (by omega), eZ (k - 1) (by omega) (by omega)]
    exact v6 h
  · rw [eP j j0 (by omega)]
    exact v9 j j0 j1
  · rw [eP _ h2 (by omega)]
    exact v10 h1 h2
  · have w := v11 h
    rw [eP _ w.1 (by omega), eP _ (by omega) (by omega)]
    exact w
/-- a head that fits is known -/
theorem PVb_n {n : Nat} {len p kd x St Sz : Int} (KD : kdOk K P T cod n kd) (PL : plOk K P T n kd x) (hp : (n = 0 → p = 7) ∧ (0 < n → p = Hd ((n : Int) - 1) + 5 + Z ((n : Int) - 1))) (s0 : cod = 0 → 1 ≤ St ∧ St ≤ 31) (s1 : cod ≠ 0 → St = 0) (z0 : 0 ≤ Sz ∧ Sz ≤ 2000) (hb : B p = kd ∧ B (p + 1) = x ∧ B (p + 2) = St ∧ 256 * B (p + 3) + B (p + 4) = Sz) : PVb cod T (jiu K n kd) (jiu P n x) (jiu S n St) (jiu Z n Sz) (jiu Hd n p) B (n : Int) := by
  obtain ⟨k1, k2, k3, k4, k5, k6, -⟩ := KD
  obtain ⟨p1, p2, p3, p4⟩ := PL
  have r1 := anc_r (K := K) (fr := 0) n
  have r2 := anc_r (K := K) (fr := 0) (anc K 0 n).toNat
  have lo : ∀ (f : Int → Int) (v j : Int), j < (n : Int) → jiu f n v j = f j := fun f v j h => if_neg (by omega)
  have at' : ∀ (f : Int → Int) (v : Int), jiu f n v n = v := fun f v => if_pos rfl
  have a1 : anc (jiu K n kd) 0 n = anc K 0 n := anc_c (fun j j0 j1 => lo K kd j j1)
  have a2 : anc (jiu K n kd) 0 (anc K 0 n).toNat = anc K 0 (anc K 0 n).toNat := anc_c (fun j j0 j1 => lo K kd j (by omega))
  unfold PVb
  rw [show ((n : Int)).toNat = n by omega, a1, a2, at' K, at' P, at' S, at' Z, at' Hd]
  refine ⟨⟨k1, k2⟩, p1, s0, s1, z0, fun h => ?_, k4, k5, fun j j0 j1 => ?_, fun h1 h2 => ?_, fun h => ?_, hb⟩
  · rw [lo Hd p _ (by omega), lo Z Sz _ (by omega)]
    exact hp.2 (by omega)
  · rw [lo P x j j1]
    exact fun e => p2 ⟨j, j0, j1, e⟩
  · rw [lo P x _ (by omega)]
    rcases p4 h1 with g | g
    · omega
    · exact g
  · have g := k6 h
    have w := p3 h
    rw [lo P x _ (by omega), lo P x _ (by omega)]
    exact ⟨by omega, w⟩
end Heads70
