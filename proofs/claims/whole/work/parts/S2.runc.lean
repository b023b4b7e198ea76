/-! making in runs: a way tried by the class -/
section RunC
variable {s : hS} {Q : hQ} {hm : hO} {I : jM} {x w l L c N ex R : Int} {nd : Int → Int} {A0 : Int → Int → Prop}
/-- but for the table at x -/
def FrX (I I' : jM) (x : Int) : Prop := (∀ y : Nat, y ≠ 65 → y ≠ 66 → y ≠ 67 → I' y = I y) ∧ ∀ z : Int, z ≠ x → I' 65 z = I 65 z ∧ I' 66 z = I 66 z ∧ I' 67 z = I 67 z
theorem FrX_t {I1 I2 : jM} (A : FrX I I1 x) (B : FrX I1 I2 x) : FrX I I2 x := ⟨fun y y1 y2 y3 => (B.1 y y1 y2 y3).trans (A.1 y y1 y2 y3), fun z hz => ⟨(B.2 z hz).1.trans (A.2 z hz).1, (B.2 z hz).2.1.trans (A.2 z hz).2.1, (B.2 z hz).2.2.trans (A.2 z hz).2.2⟩⟩
theorem FrX_r : FrX I I x := ⟨fun _ _ _ _ => rfl, fun _ _ => ⟨rfl, rfl, rfl⟩⟩
theorem c_129 (Ly : Lay s Q hm) (h6 : s.1 ≤ 1000000) (x0 : 0 ≤ x) (x1 : x < 576) (b0 : 0 ≤ I 65 x) (b1 : I 65 x ≤ 1000000) (c0 : 0 ≤ c) (c1 : c ≤ 1000000) : ∃ I', jd_129 64 x w L c (hh s Q I) = some (hh s Q I') ∧ FrX I I' x ∧ (c < I 65 x → I' 65 x = c ∧ I' 66 x = w ∧ I' 67 x = L) ∧ (¬ c < I 65 x → I' = I) := by
  have q1 : Q 64 ((1 : Nat) : Int) = some 65 := Lq Ly rfl
  have q2 : Q 64 ((2 : Nat) : Int) = some 66 := Lq Ly rfl
  have q3 : Q 64 ((3 : Nat) : Int) = some 67 := Lq Ly rfl
  unfold jd_129
  rw [y_gr Ly 64 9 rfl rfl, Option.bind_some, q1, Option.bind_some, y_ai Ly h6 65 577 rfl rfl rfl x0 (by omega), Option.bind_some, n_jw (z := I 65 x) (by omega) (by omega), n_jw (z := c) (by omega) (by omega)]
  by_cases d : c < I 65 x
  · refine ⟨jms (jms (jms I 65 x c) 66 x w) 67 x L, ?_, ⟨fun y y1 y2 y3 => by rw [jms_o y3, jms_o y2, jms_o y1], fun z hz => ⟨by rw [jms_o (by decide), jms_o (by decide), jms_i hz], by rw [jms_o (by decide), jms_i hz, jms_o (by decide)], by rw [jms_i hz, jms_o (by decide), jms_o (by decide)]⟩⟩, fun _ => ⟨by rw [jms_o (by decide), jms_o (by decide), jms_e], by rw [jms_o (by decide), jms_e], jms_e⟩, fun e => absurd d e⟩
    rw [if_neg (by omega), Option.bind_some, Option.bind_some, y_ta Ly 65 0 577 rfl rfl rfl x0 (by omega), Option.bind_some, y_gr Ly 64 9 rfl rfl, Option.bind_some, q2, Option.bind_some, y_ta Ly 66 0 576 rfl rfl rfl x0 (by omega), Option.bind_some, y_gr Ly 64 9 rfl rfl, Option.bind_some, q3, Option.bind_some, y_ta Ly 67 0 576 rfl rfl rfl x0 (by omega), Option.bind_some]
    rfl
  · refine ⟨I, ?_, FrX_r, fun e => absurd e d, fun _ => rfl⟩
    rw [if_pos (by omega)]
    rfl
theorem shl1 : ∀ e : Nat, e < 12 → jshl 1 (e : Int) = ((2 ^ e : Nat) : Int) := by decide +kernel
theorem cs_le (w0 : 0 ≤ w) (w3 : w ≤ 3) (l1 : 1 ≤ l) (l2 : l ≤ 576) : cs w l ≤ 5000 := by
  have h1 := cln_m (i := w) (j := 3) w0 w3
  have h2 := cln_m (i := l - 1) (j := 1022) (by omega) (by omega)
  have h3 : cln 1022 = 19 := by rw [cln_e]; rfl
  rw [cln_3] at h1
  unfold cs exC
  split
  · omega
  · split <;> omega
theorem c_128 (Ly : Lay s Q hm) (h6 : s.1 ≤ 1000000) (x0 : 0 ≤ x) (x1 : x < N) (N1 : N ≤ 576) (w0 : 0 ≤ w) (w2 : w ≤ 2) (R0 : 0 ≤ R) (R1 : x + R ≤ N) (hex : ex = if w = 0 then 8 else 0) (hnd : ∀ z : Int, x < z → z ≤ N → I 65 z = nd z ∧ 0 ≤ nd z ∧ nd z ≤ 10 * N) (mono : ∀ a b : Int, x < a → a ≤ b → b ≤ N → nd b ≤ nd a) (b0 : 0 ≤ I 65 x) (b1 : I 65 x ≤ 1000000) (ha : ∀ a b : Int, A0 a b → a < w) (S : Spd A0 (fun a b => cs a b + nd (x + b)) (I 65 x) (I 66 x) (I 67 x)) : ∃ I', jd_128 64 x w R ex (hh s Q I) = some (hh s Q I') ∧ FrX I I' x ∧ (0 ≤ I' 65 x ∧ I' 65 x ≤ 1000000) ∧ Spd (fun a b => A0 a b ∨ (a = w ∧ 1 ≤ b ∧ b ≤ R)) (fun a b => cs a b + nd (x + b)) (I' 65 x) (I' 66 x) (I' 67 x) := by
  have exE : ∀ b : Int, exC w b = ex := fun b => by
    unfold exC
    rw [hex]
    by_cases c : w = 0
    · rw [if_pos c, if_pos c]
    · rw [if_neg c, if_neg c, if_neg (by omega)]
  have step : ∀ (t : Nat) (u : Int × Int × jH), t ≤ 11 → (∃ (It : jM) (L : Int), u = (L, (t : Int), hh s Q It) ∧ 0 ≤ L ∧ L ≤ R ∧ (L ≤ 0 ∨ cdL (L - 1) + t < 10) ∧ FrX I It x ∧ (0 ≤ It 65 x ∧ It 65 x ≤ 1000000) ∧ Spd (fun a b => A0 a b ∨ (a = w ∧ L < b ∧ b ≤ R)) (fun a b => cs a b + nd (x + b)) (It 65 x) (It 66 x) (It 67 x)) → wT ((fun u : (Int × Int × jH) => jd_128_s6 64 x w ex u.1 u.2.1 u.2.2) u) (fun o => jse o (fun u' => t < 11 ∧ ∃ (It : jM) (L : Int), u' = (L, ((t + 1 : Nat) : Int), hh s Q It) ∧ 0 ≤ L ∧ L ≤ R ∧ (L ≤ 0 ∨ cdL (L - 1) + (t + 1) < 10) ∧ FrX I It x ∧ (0 ≤ It 65 x ∧ It 65 x ≤ 1000000) ∧ Spd (fun a b => A0 a b ∨ (a = w ∧ L < b ∧ b ≤ R)) (fun a b => cs a b + nd (x + b)) (It 65 x) (It 66 x) (It 67 x)) (fun y => ∃ I', y = hh s Q I' ∧ FrX I I' x ∧ (0 ≤ I' 65 x ∧ I' 65 x ≤ 1000000) ∧ Spd (fun a b => A0 a b ∨ (a = w ∧ 1 ≤ b ∧ b ≤ R)) (fun a b => cs a b + nd (x + b)) (I' 65 x) (I' 66 x) (I' 67 x))) := by
    intro t u ht J
    obtain ⟨It, L, rfl, L0, LR, Lp, Fr, ⟨c0, c1⟩, Sp⟩ := J
    dsimp only
    unfold jd_128_s6
    rw [n_jw (z := (t : Int)) (by omega) (by omega), if_neg (by omega), n_jw (z := L) (by omega) (by omega)]
    by_cases c : L ≤ 0
    · rw [if_pos c]
      refine ⟨_, rfl, It, rfl, Fr, ⟨c0, c1⟩, ?_⟩
      rcases Sp with ⟨p1, p2⟩ | Sp
      · exact Or.inl ⟨fun a b h => p1 a b (by
          rcases h with h | h
          · exact Or.inl h
          · exact Or.inr ⟨h.1, by omega, h.2.2⟩), p2⟩
      · exact Or.inr (Spc_c (fun a b => ⟨fun h => by
          rcases h with h | h
          · exact Or.inl h
          · exact Or.inr ⟨h.1, by omega, h.2.2⟩, fun h => by
          rcases h with h | h
          · exact Or.inl h
          · exact Or.inr ⟨h.1, by omega, h.2.2⟩⟩) Sp)
    · have L1 : 1 ≤ L := by omega
      have q1 : Q 64 ((1 : Nat) : Int) = some 65 := Lq Ly rfl
      have k1 : jd_11 (L - 1) = some (cln (L - 1)) := c_11 (by omega) (by omega)
      have k2 : jd_11 w = some (cln w) := c_11 w0 (by omega)
      obtain ⟨e, he⟩ : ∃ e, cdL (L - 1) = e := ⟨_, rfl⟩
      have e9 : e + t < 10 := by
        rcases Lp with h | h
        · omega
        · rw [he] at h; exact h
      obtain ⟨P, hP⟩ : ∃ P : Int, P = ((2 ^ e : Nat) : Int) := ⟨_, rfl⟩
      have pL : P ≤ L := by
        have := (cdL_b (v := L - 1) (by omega)).1
        rw [he, ← hP] at this
        omega
      have p1 : 1 ≤ P := by
        have := Nat.one_le_two_pow (n := e)
        rw [hP]
        omega
      have cL : cln (L - 1) = 2 * (e : Int) + 1 := by rw [cln_e, he]
      obtain ⟨hz1, hz2, hz3⟩ := hnd (x + L) (by omega) (by omega)
      have i65 : It 65 (x + L) = nd (x + L) := by rw [(Fr.2 (x + L) (by omega)).1]; exact hz1
      have csL := cs_le (w := w) (l := L) w0 (by omega) L1 (by omega)
      have csp := cs_p (w := w) (l := L) w0 L1
      obtain ⟨I2, d1, d2, d3, d4⟩ := c_129 (w := w) (L := L) (c := cs w L + nd (x + L)) Ly h6 x0 (by omega) c0 c1 (by omega) (by omega)
      have e65 : FrX I I2 x := FrX_t Fr d2
      have ar : cln w + cln (L - 1) + ex + nd (x + L) = cs w L + nd (x + L) := by
        unfold cs
        rw [exE]
      have gc : ∀ b : Int, P - 1 < b → b ≤ L → cs w L + nd (x + L) ≤ cs w b + nd (x + b) := fun b b0 b1 => by
        have u1 := cln_g (L := L) (l := b) L1 (by rw [he, ← hP]; exact b0) b1
        have u2 := mono (x + b) (x + L) (by omega) (by omega) (by omega)
        have u3 : cs w L = cs w b := by
          unfold cs
          rw [exE, exE, u1]
        rw [u3]
        omega
      have lt1 : cs w L + nd (x + L) < 1000000 := by omega
      have lt2 : P - 1 < L := by omega
      obtain ⟨g1, g2⟩ := Spd_g (C := fun a b => cs a b + nd (x + b)) (w := w) (L := L) (L' := P - 1) Sp lt1 lt2 gc (fun a b h => by
        rcases h with h | h
        · exact Or.inl (ha a b h)
        · exact Or.inr ⟨h.1, h.2.1⟩)
      have cv : ∀ {c wy ln : Int}, Spd (fun a b => (A0 a b ∨ (a = w ∧ L < b ∧ b ≤ R)) ∨ (a = w ∧ P - 1 < b ∧ b ≤ L)) (fun a b => cs a b + nd (x + b)) c wy ln → Spd (fun a b => A0 a b ∨ (a = w ∧ P - 1 < b ∧ b ≤ R)) (fun a b => cs a b + nd (x + b)) c wy ln := fun {c wy ln} h => by
        have iff : ∀ a b : Int, ((A0 a b ∨ (a = w ∧ L < b ∧ b ≤ R)) ∨ (a = w ∧ P - 1 < b ∧ b ≤ L)) ↔ (A0 a b ∨ (a = w ∧ P - 1 < b ∧ b ≤ R)) := fun a b => ⟨fun h => by
          rcases h with (h | h) | h
          · exact Or.inl h
          · exact Or.inr ⟨h.1, by omega, h.2.2⟩
          · exact Or.inr ⟨h.1, h.2.1, by omega⟩, fun h => by
          rcases h with h | h
          · exact Or.inl (Or.inl h)
          · by_cases d : L < b
            · exact Or.inl (Or.inr ⟨h.1, d, h.2.2⟩)
            · exact Or.inr ⟨h.1, h.2.1, by omega⟩⟩
        rcases h with ⟨h1, h2⟩ | h
        · exact Or.inl ⟨fun a b q => h1 a b ((iff a b).2 q), h2⟩
        · exact Or.inr (Spc_c iff h)
      have nx : jshl 1 (jdiv (cln (L - 1)) 2) - 1 = P - 1 := by
        rw [cL, n_div (by omega) (by omega) (by decide) (by decide), show (2 * (e : Int) + 1) / 2 = (e : Int) by omega, shl1 e (by omega), hP]
      rw [if_neg c, k1, Option.bind_some, k2, Option.bind_some, y_gr Ly 64 9 rfl rfl, Option.bind_some, q1, Option.bind_some, y_ai Ly h6 65 577 rfl rfl rfl (by omega) (by omega), Option.bind_some, i65, y_ck Ly 64 9 rfl rfl, Option.bind_some, ar, d1, Option.bind_some, nx]
      clear nx k1 k2
      refine ⟨_, rfl, by omega, I2, P - 1, by rw [show ((t + 1 : Nat) : Int) = (t : Int) + 1 by omega], by omega, by omega, ?_, e65, ?_, ?_⟩
      · by_cases d : P - 1 ≤ 0
        · exact Or.inl d
        · right
          have := cdL_lt (v := P - 1 - 1) (k := e) (by omega) (by rw [← hP]; omega)
          omega
      · by_cases d : cs w L + nd (x + L) < It 65 x
        · rw [(d3 d).1]
          omega
        · rw [d4 d]
          exact ⟨c0, c1⟩
      · by_cases d : cs w L + nd (x + L) < It 65 x
        · obtain ⟨y1, y2, y3⟩ := d3 d
          rw [y1, y2, y3]
          exact cv (g1 d)
        · rw [d4 d]
          exact cv (g2 d)
  obtain ⟨y, e, I', hy, F, B, Sp⟩ := w_lp (f := fun u : (Int × Int × jH) => jd_128_s6 64 x w ex u.1 u.2.1 u.2.2) (Q := fun y => ∃ I', y = hh s Q I' ∧ FrX I I' x ∧ (0 ≤ I' 65 x ∧ I' 65 x ≤ 1000000) ∧ Spd (fun a b => A0 a b ∨ (a = w ∧ 1 ≤ b ∧ b ≤ R)) (fun a b => cs a b + nd (x + b)) (I' 65 x) (I' 66 x) (I' 67 x)) (fun t u => ∃ (It : jM) (L : Int), u = (L, (t : Int), hh s Q It) ∧ 0 ≤ L ∧ L ≤ R ∧ (L ≤ 0 ∨ cdL (L - 1) + t < 10) ∧ FrX I It x ∧ (0 ≤ It 65 x ∧ It 65 x ≤ 1000000) ∧ Spd (fun a b => A0 a b ∨ (a = w ∧ L < b ∧ b ≤ R)) (fun a b => cs a b + nd (x + b)) (It 65 x) (It 66 x) (It 67 x)) 11 step (n_fu (by decide)) (s0 := (R, 0, hh s Q I)) ⟨I, R, rfl, R0, Int.le_refl _, by
    by_cases d : R ≤ 0
    · exact Or.inl d
    · right
      have := cdL_lt (v := R - 1) (k := 10) (by omega) (by show R - 1 + 1 < 1024; omega)
      omega, FrX_r, ⟨b0, b1⟩, by
    have iff : ∀ a b : Int, A0 a b ↔ (A0 a b ∨ (a = w ∧ R < b ∧ b ≤ R)) := fun a b => ⟨Or.inl, fun h => by
      rcases h with h | h
      · exact h
      · omega⟩
    rcases S with ⟨h1, h2⟩ | h
    · exact Or.inl ⟨fun a b q => h1 a b ((iff a b).2 q), h2⟩
    · exact Or.inr (Spc_c iff h)⟩
  refine ⟨I', ?_, F, B, Sp⟩
  unfold jd_128 jd_128_l6
  rw [e, Option.bind_some, hy]
end RunC
