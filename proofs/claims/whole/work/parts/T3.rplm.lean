/-! making in runs: a plane, both sides -/
section RPlM
variable {s : hS} {Q : hQ} {hm : hO} {I m : jM} {src : Nat} {n w h pl k kd : Int} {v an : Int → Int} {x4 : Option Nat}
theorem rplm (Ly : Lay s Q hm) (h6 : s.1 ≤ 1000000) (hq : ∀ c, Q 43 0 = some c → 153 ≤ c ∧ c ≠ src + 1) (X : WM s Q I m n) (P : PcC s Q src) (i0 : I src 0 = w) (i1 : I src 1 = h) (sw : isSd w) (sh : isSd h) (m33 : m 76 33 = w) (m34 : m 76 34 = h) (p0 : 0 ≤ pl) (p2 : pl ≤ 2) (hv : ∀ j : Int, 0 ≤ j → j < pw w pl * pw h pl → I (src + 1) (pb w h pl + j) = v j ∧ 0 ≤ v j ∧ v j ≤ 255) (hA : AnC s Q I x4 kd (pb w h pl) (pw w pl * pw h pl) an) (hR : ∀ M' : jM, (∀ y : Nat, y ≠ 76 → y ≠ 113 → ¬ (126 ≤ y ∧ y ≤ 128) → M' y = m y) → (∀ z : Int, z ≠ 53 → M' 76 z = m 76 z) → RdM M' k pl (pw w pl * pw h pl) kd v an) (hn : n + 10 * (pw w pl * pw h pl) ≤ 32000) : ∃ (I' m' : jM) (n' : Int), jd_126 64 (some 43) (some src) pl x4 (hh s Q I) = some (hh s Q I') ∧ jd_289 k pl m = some m' ∧ WM s Q I' m' n' ∧ n' ≤ n + 10 * (pw w pl * pw h pl) ∧ NV Q I I' ∧ MV m m' := by
  have ok : okI pl := ⟨by omega, by omega⟩
  obtain ⟨I1, e127, f1, T1⟩ := c_127 (v := v) (an := an) (kd := kd) Ly h6 P i0 i1 sw sh p0 p2 hv hA
  obtain ⟨N, hN⟩ : ∃ N, pw w pl * pw h pl = N := ⟨_, rfl⟩
  obtain ⟨W, hW⟩ : ∃ W, pw w pl = W := ⟨_, rfl⟩
  obtain ⟨B, hB⟩ : ∃ B, pb w h pl = B := ⟨_, rfl⟩
  have pc : pl = 0 ∨ pl = 1 ∨ pl = 2 := by omega
  have nb : 1 ≤ N ∧ N ≤ 576 ∧ 0 ≤ B ∧ B + N ≤ 864 ∧ 0 ≤ W ∧ W ≤ 24 := by
    rw [← hN, ← hW, ← hB]
    rcases pc with rfl | rfl | rfl <;> rcases sw with rfl | rfl | rfl <;> rcases sh with rfl | rfl | rfl <;> decide
  obtain ⟨nb1, nb2, nb3, nb4, nb5, nb6⟩ := nb
  rw [hN] at hv hR hn T1 ⊢
  rw [hW] at T1
  rw [hB] at hv
  have s153 := P.1
  obtain ⟨m3, hm3⟩ : ∃ z, z = jms m 126 N 0 := ⟨_, rfl⟩
  have R3 : RdM m3 k pl N kd v an := hR m3 (fun y _ _ y3 => by rw [hm3, jms_o (by omega)]) (fun z _ => by rw [hm3, jms_o (by decide)])
  obtain ⟨m4, e35, f4, T4⟩ := k_289t (M := m3) (W := W) R3 nb1 nb2 nb5 nb6 (by rw [hm3, jms_e])
  have TU := fun y (y0 : 0 ≤ y) (y1 : y ≤ N) => TB_u T1 T4 N.toNat y (by omega) y0 y1
  have o4 : ∀ y : Nat, y ≠ 126 → y ≠ 127 → y ≠ 128 → m4 y = m y := fun y y1 y2 y3 => by rw [f4 y y1 y2 y3, hm3, jms_o y1]
  have W4 : WM s Q I1 m4 n := by
    obtain ⟨⟨x1, x2, x3⟩, x4⟩ := X
    refine ⟨⟨by rw [f1 43 (by decide) (by decide) (by decide)]; exact x1, x2, ?_⟩, by rw [o4 76 (by decide) (by decide) (by decide)]; exact x4⟩
    rcases x3 with x3 | ⟨c, y1, y2⟩
    · exact Or.inl x3
    · have := (hq c y1.2.2.2).1
      refine Or.inr ⟨c, y1, ?_⟩
      unfold By at *
      rw [o4 113 (by decide) (by decide) (by decide), f1 c (by omega) (by omega) (by omega)]
      exact y2
  obtain ⟨I', m', n', d1, d2, d3, d4, d5, d6⟩ := runw (k := k) (pl := pl) (N := N) (B := B) (W := W) (kd := kd) (v := v) (an := an) (nd := I1 65) (wy := I1 66) (ln := I1 67) Ly h6 hq P nb3 nb4 (by omega) nb2 W4 (fun j j0 j1 => by rw [f1 (src + 1) (by omega) (by omega) (by omega)]; exact hv j j0 j1) (fun M' hM j j0 j1 => ((hR M' (fun y y1 y2 y3 => (hM.1 y y1 y2).trans (o4 y (by omega) (by omega) (by omega))) (fun z hz => (hM.2 z hz).trans (by rw [o4 76 (by decide) (by decide) (by decide)]))) M' (fun _ _ _ _ => rfl)).1 j j0 j1 |>.1) T1 (fun y _ _ => ⟨rfl, rfl⟩) (fun y y0 y1 => by
    have := (TU y y0 (by omega)).2 y1
    exact ⟨this.1.symm, this.2.symm⟩) hn
  refine ⟨I', m', n', ?_, ?_, d3, d4, NV_t ⟨fun c _ c2 _ => f1 c (by omega) (by omega) (by omega), fun z _ => by rw [f1 43 (by decide) (by decide) (by decide)]⟩ (NV_w d5), MV_t ⟨fun c _ _ _ c4 => o4 c (by omega) (by omega) (by omega), fun z _ => by rw [o4 76 (by decide) (by decide) (by decide)]⟩ (MV_w d6)⟩
  · have j0 : I1 src 0 = w := by rw [f1 src (by omega) (by omega) (by omega)]; exact i0
    have j1 : I1 src 1 = h := by rw [f1 src (by omega) (by omega) (by omega)]; exact i1
    unfold jd_126
    rw [y_ck Ly 64 9 rfl rfl, Option.bind_some, e127, Option.bind_some, Option.bind_some, x_ck P.2.1 (c := 6) P.2.2.1, Option.bind_some, c_98 P.2.1 P.2.2.1 j0 j1 sw sh ok, Option.bind_some, Option.bind_some, x_ck P.2.1 (c := 6) P.2.2.1, Option.bind_some, c_96 P.2.1 P.2.2.1 j0 sw ok, Option.bind_some, Option.bind_some, x_ck P.2.1 (c := 6) P.2.2.1, Option.bind_some, c_97 P.2.1 P.2.2.1 j1 sh ok, Option.bind_some, hN, hB, d1, Option.bind_some]
  · unfold jd_289
    rw [m33, m34, k_206 ok sw, k_206 ok sh, hN, Option.bind_some, y_mw 126 577 rfl rfl (by omega) (by omega), Option.bind_some, ← hm3, hW, e35, Option.bind_some, d2, Option.bind_some]
end RPlM
