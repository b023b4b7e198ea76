/-! one head, in the class and in the model -/
theorem plOk_c {K P K' P' : Int → Int} {T kd x : Int} {n : Nat} (hK : ∀ j : Int, 0 ≤ j → j < n → K j = K' j) (hP : ∀ j : Int, 0 ≤ j → j < n → P j = P' j) (hz : kd = 2 → anc K 0 (anc K 0 n).toNat ≠ -1) : plOk K P T n kd x ↔ plOk K' P' T n kd x := by
  have r1 := anc_r (K := K) (fr := 0) n
  have r2 := anc_r (K := K) (fr := 0) (anc K 0 n).toNat
  have e1 : anc K' 0 n = anc K 0 n := (anc_c hK).symm
  have e2 : anc K' 0 (anc K 0 n).toNat = anc K 0 (anc K 0 n).toNat := (anc_c (fun j j0 j1 => hK j j0 (by omega))).symm
  have t := tkn_c (x := x) hP
  unfold plOk
  rw [e1, e2, t]
  generalize anc K 0 n = A at *
  generalize anc K 0 A.toNat = B at *
  refine ⟨fun ⟨h1, h2, h3, h4⟩ => ⟨h1, h2, fun h => ?_, fun h => ?_⟩, fun ⟨h1, h2, h3, h4⟩ => ⟨h1, h2, fun h => ?_, fun h => ?_⟩⟩
  · have z := hz h
    rw [← hP B (by omega) (by omega), ← hP A (by omega) (by omega)]
    exact h3 h
  · by_cases ca : A = -1
    · exact Or.inl ca
    · rw [← hP A (by omega) (by omega)]
      exact h4 h
  · have z := hz h
    rw [hP B (by omega) (by omega), hP A (by omega) (by omega)]
    exact h3 h
  · by_cases ca : A = -1
    · exact Or.inl ca
    · rw [hP A (by omega) (by omega)]
      exact h4 h
theorem kdOk_c {K P K' P' : Int → Int} {T cod kd : Int} {n : Nat} (hK : ∀ j : Int, 0 ≤ j → j < n → K j = K' j) (hP : ∀ j : Int, 0 ≤ j → j < n → P j = P' j) : kdOk K P T cod n kd ↔ kdOk K' P' T cod n kd := by
  have r1 := anc_r (K := K) (fr := 0) n
  have e1 : anc K' 0 n = anc K 0 n := (anc_c hK).symm
  have e2 : anc K' 0 (anc K 0 n).toNat = anc K 0 (anc K 0 n).toNat := (anc_c (fun j j0 j1 => hK j j0 (by omega))).symm
  unfold kdOk
  rw [e1, e2]
  refine ⟨fun ⟨h1, h2, h3, h4, h5, h6, x, h7⟩ => ⟨h1, h2, h3, h4, h5, h6, x, (plOk_c hK hP h6).mp h7⟩, fun ⟨h1, h2, h3, h4, h5, h6, x, h7⟩ => ⟨h1, h2, h3, h4, h5, h6, x, (plOk_c hK hP h6).mpr h7⟩⟩
section Head1
variable {s : hS} {Q : hQ} {hm : hO} {I J m : jM} {a b n : Nat} {f kd x T cod p q len : Int}
/-- from the step's byte on -/
def hTail (m : jM) (cod len p : Int) : Prop := (p + 2 < len ∧ (cod = 0 → 1 ≤ m 112 (p + 2) % 256 ∧ m 112 (p + 2) % 256 ≤ 31) ∧ (cod ≠ 0 → m 112 (p + 2) % 256 = 0)) ∧ (p + 3 < len ∧ m 112 (p + 3) % 256 ≤ 7) ∧ p + 4 < len ∧ 256 * (m 112 (p + 3) % 256) + m 112 (p + 4) % 256 ≤ 2000 ∧ p + 5 + (256 * (m 112 (p + 3) % 256) + m 112 (p + 4) % 256) ≤ len
theorem BySm_J (Y : BySm s Q I m a b len) (e1 : J b = I b) (e2 : J a = I a) : BySm s Q J m a b len := by
  obtain ⟨y1, y2, y3, y4, y5, y6, y7, y8⟩ := Y
  exact ⟨y1, y2, by rw [e2]; exact y3, y4, y5, y6, y7, by rw [e1]; exact y8⟩
theorem c_32 (F : FilmAt s Q hm a f) (h6 : s.1 ≤ 1000000) (Y : BySm s Q I m a b len) (hn : n < 12) (q0 : 0 ≤ q) (q1 : q ≤ len) : ∃ r I', jd_32 a (n : Int) q (hh s Q I) = some (r, hh s Q I') ∧ (∀ c, c ≠ a + 4 → I' c = I c) ∧ ((q < len ∧ m 112 q % 256 ≤ 7 ∧ q + 1 < len ∧ 256 * (m 112 q % 256) + m 112 (q + 1) % 256 ≤ 2000 ∧ q + 2 + (256 * (m 112 q % 256) + m 112 (q + 1) % 256) ≤ len ∧ r = -1 ∧ I' = jms I (a + 4) n (256 * (m 112 q % 256) + m 112 (q + 1) % 256)) ∨ ((¬ q < len ∨ ¬ m 112 q % 256 ≤ 7) ∧ r = q) ∨ ((q < len ∧ m 112 q % 256 ≤ 7) ∧ ¬ q + 1 < len ∧ r = q + 1) ∨ ((q < len ∧ m 112 q % 256 ≤ 7) ∧ q + 1 < len ∧ ¬ 256 * (m 112 q % 256) + m 112 (q + 1) % 256 ≤ 2000 ∧ r = q) ∨ ((q < len ∧ m 112 q % 256 ≤ 7) ∧ q + 1 < len ∧ 256 * (m 112 q % 256) + m 112 (q + 1) % 256 ≤ 2000 ∧ ¬ q + 2 + (256 * (m 112 q % 256) + m 112 (q + 1) % 256) ≤ len ∧ r = len)) := by
  obtain ⟨y1, y2, y3, y4, y5, y6, y7, y8⟩ := id Y
  have e6 : I a ((6 : Nat) : Int) = len := y3
  have e10 : Q a ((10 : Nat) : Int) = some (a + 4) := F_q F 3 10 rfl rfl
  have lj : jw len = len := n_jw (by omega) (by omega)
  unfold jd_32 jd_32_b102
  rw [F_gi F, Option.bind_some, e6, lj, n_jw (z := q) (by omega) (by omega)]
  by_cases c1 : q < len
  · rw [if_pos c1, F_ck F, Option.bind_some, c_30 F Y q0 c1, Option.bind_some, n_jw (z := m 112 q % 256) (by omega) (by omega)]
    by_cases c2 : m 112 q % 256 ≤ 7
    · rw [if_pos c2, Option.bind_some, lj, n_jw (z := q + 1) (by omega) (by omega)]
      by_cases c3 : q + 1 < len
      · have z6 : jms I (a + 4) (n : Int) (256 * (m 112 q % 256) + m 112 (q + 1) % 256) a ((6 : Nat) : Int) = len := by rw [jms_o (by omega)]; exact e6
        have zn : jms I (a + 4) (n : Int) (256 * (m 112 q % 256) + m 112 (q + 1) % 256) (a + 4) (n : Int) = 256 * (m 112 q % 256) + m 112 (q + 1) % 256 := jms_e
        rw [if_pos c3, F_gr F, Option.bind_some, Option.bind_some, Option.bind_some, Option.bind_some, c_30 F Y (by omega) c3, Option.bind_some, e10, Option.bind_some, F_ta F 4 0 12 rfl rfl rfl (by omega) (by omega), Option.bind_some, F_gr F, Option.bind_some, e10, Option.bind_some, F_ai F h6 4 12 rfl rfl rfl (by omega) (by omega), Option.bind_some, zn]
        generalize hZ : 256 * (m 112 q % 256) + m 112 (q + 1) % 256 = Z at *
        rw [n_jw (z := Z) (by omega) (by omega)]
        by_cases c4 : Z ≤ 2000
        · rw [if_pos c4, Option.bind_some, Option.bind_some, F_ai F h6 4 12 rfl rfl rfl (by omega) (by omega), Option.bind_some, zn, F_gi F, Option.bind_some, z6, lj, n_jw (z := q + 2 + Z) (by omega) (by omega)]
          by_cases c5 : q + 2 + Z ≤ len
          · rw [if_pos c5]
            exact ⟨_, _, rfl, fun c hc => jms_o hc, Or.inl ⟨c1, c2, c3, c4, c5, rfl, rfl⟩⟩
          · rw [if_neg c5, Option.bind_some]
            exact ⟨_, _, rfl, fun c hc => jms_o hc, Or.inr (Or.inr (Or.inr (Or.inr ⟨⟨c1, c2⟩, c3, c4, c5, rfl⟩)))⟩
        · rw [if_neg c4]
          exact ⟨_, _, rfl, fun c hc => jms_o hc, Or.inr (Or.inr (Or.inr (Or.inl ⟨⟨c1, c2⟩, c3, c4, rfl⟩)))⟩
      · rw [if_neg c3, Option.bind_some]
        exact ⟨_, _, rfl, fun c hc => rfl, Or.inr (Or.inr (Or.inl ⟨⟨c1, c2⟩, c3, by omega⟩))⟩
    · rw [if_neg c2]
      exact ⟨_, _, rfl, fun c hc => rfl, Or.inr (Or.inl ⟨Or.inr c2, rfl⟩)⟩
  · rw [if_neg c1, Option.bind_some]
    exact ⟨_, _, rfl, fun c hc => rfl, Or.inr (Or.inl ⟨Or.inl c1, by omega⟩)⟩
end Head1
