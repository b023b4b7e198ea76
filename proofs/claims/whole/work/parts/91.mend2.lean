/-! the class mends a picture -/
section Mend2
variable {s : hS} {Q : hQ} {hm : hO} {I m : jM} {c p : Nat} {w h k cod sp : Int}
theorem pl_inj (sw : isSd w) (sh : isSd h) {q q' x x' y y' : Int} (q0 : 0 ≤ q) (q2 : q ≤ 2) (x0 : 0 ≤ x) (x1 : x < pw w q) (y0 : 0 ≤ y) (y1 : y < pw h q) (q0' : 0 ≤ q') (q2' : q' ≤ 2) (x0' : 0 ≤ x') (x1' : x' < pw w q') (y0' : 0 ≤ y') (y1' : y' < pw h q') (e : pb w h q + (y * pw w q + x) = pb w h q' + (y' * pw w q' + x')) : q = q' ∧ x = x' ∧ y = y' := by
  have b1 := dm_b (W := pw w q) (H := pw h q) y0 y1 x0 x1
  have b2 := dm_b (W := pw w q') (H := pw h q') y0' y1' x0' x1'
  by_cases cq : q = q'
  · subst cq
    have e' : y * pw w q + x = y' * pw w q + x' := by omega
    have a1 := (dm (W := pw w q) (k := y * pw w q + x) (r := y) (c := x) (by omega) x0 x1).1 rfl
    have a2 := (dm (W := pw w q) (k := y' * pw w q + x') (r := y') (c := x') (by omega) x0' x1').1 rfl
    rw [e'] at a1
    exact ⟨rfl, by omega, by omega⟩
  · exact absurd e (pl_ne sw sh q0 q2 q0' q2' cq b1.1 b1.2 b2.1 b2.2).1
theorem pb_s (sw : isSd w) (sh : isSd h) {n : Int} (n0 : 0 ≤ n) (n1 : n < 2) : pb w h (n + 1) = pb w h n + pw w n * pw h n := by
  have : n = 0 ∨ n = 1 := by omega
  rcases this with rfl | rfl <;> rcases sw with rfl | rfl | rfl <;> rcases sh with rfl | rfl | rfl <;> decide
/-- mended below hi -/
def mdI (cod sp w h : Int) (V g G : Int → Int) (hi : Int) : Prop := (∀ j, hi ≤ j → G j = g j) ∧ ∀ q x y : Int, 0 ≤ q → q ≤ 2 → 0 ≤ x → x < pw w q → 0 ≤ y → y < pw h q → pb w h q + (y * pw w q + x) < hi → (mdAt cod sp w h q x y → G (pb w h q + (y * pw w q + x)) = V (pb w h q + (y * pw w q + x))) ∧ (¬ mdAt cod sp w h q x y → G (pb w h q + (y * pw w q + x)) = g (pb w h q + (y * pw w q + x)))
theorem mdI_0 {V g : Int → Int} (sw : isSd w) (sh : isSd h) : mdI cod sp w h V g g 0 := ⟨fun _ _ => rfl, fun q x y q0 q2 x0 x1 y0 y1 hl => by
  have b1 := dm_b (W := pw w q) (H := pw h q) y0 y1 x0 x1
  have b2 := pl_sz sw sh q0 q2
  omega⟩
theorem mdI_s {V g G G' : Int → Int} {q x y hi : Int} (sw : isSd w) (sh : isSd h) (q0 : 0 ≤ q) (q2 : q ≤ 2) (x0 : 0 ≤ x) (x1 : x < pw w q) (y0 : 0 ≤ y) (y1 : y < pw h q) (M : mdI cod sp w h V g G hi) (e : hi = pb w h q + (y * pw w q + x)) (h1 : mdAt cod sp w h q x y → G' = jiu G hi (V hi)) (h2 : ¬ mdAt cod sp w h q x y → G' = G) : mdI cod sp w h V g G' (hi + 1) := by
  have oth : ∀ j, j ≠ hi → G' j = G j := fun j hj => by
    by_cases d : mdAt cod sp w h q x y
    · rw [h1 d]; exact jiu_o hj
    · rw [h2 d]
  refine ⟨fun j hj => (oth j (by omega)).trans (M.1 j (by omega)), fun q' x' y' q0' q2' x0' x1' y0' y1' hl => ?_⟩
  by_cases ce : pb w h q' + (y' * pw w q' + x') = hi
  · obtain ⟨rfl, rfl, rfl⟩ := pl_inj sw sh q0' q2' x0' x1' y0' y1' q0 q2 x0 x1 y0 y1 (ce.trans e)
    rw [ce]
    refine ⟨fun d => ?_, fun d => ?_⟩
    · rw [h1 d]; exact jiu_e
    · rw [h2 d]; exact M.1 hi (by omega)
  · rw [oth _ ce]
    exact M.2 q' x' y' q0' q2' x0' x1' y0' y1' (by omega)
theorem c_116 (F : FlC s Q c) (h6 : s.1 ≤ 1000000) (P : PcC s Q p) (k0 : 0 ≤ k) (k1 : k < 12) (hp : Q (c + 9) k = some p) (e0 : I c 0 = cod) (cr : 0 ≤ cod) (cr2 : cod ≤ 2) (e17 : I (c + 11) k = sp) (s0 : -1 ≤ sp) (s1 : sp ≤ 1000) (hw : I p 0 = w) (hv : I p 1 = h) (sw : isSd w) (sh : isSd h) {fr : Option Nat} {V : Int → Int} (hf : (fr = none ∧ ∀ j, V j = 128) ∨ ∃ b, fr = some b ∧ PcC s Q b ∧ b ≠ p ∧ ∀ j, V j = I (b + 1) j) : ∃ G, jd_116 (some c) k fr (hh s Q I) = some (hh s Q (ims I (p + 1) G)) ∧ ∀ q x y : Int, 0 ≤ q → q ≤ 2 → 0 ≤ x → x < pw w q → 0 ≤ y → y < pw h q → (mdAt cod sp w h q x y → G (pb w h q + (y * pw w q + x)) = V (pb w h q + (y * pw w q + x))) ∧ (¬ mdAt cod sp w h q x y → G (pb w h q + (y * pw w q + x)) = I (p + 1) (pb w h q + (y * pw w q + x))) := by
  obtain ⟨P1, P2, P3, P4, P5, P6, P7⟩ := id P
  have t14 : s.2.2.1 p = 6 + 8 := P3
  have q15 := G_q F 8 15 rfl rfl
  have q2p : Q p ((2 : Nat) : Int) = some (p + 1) := P7
  have cne : c ≠ p + 1 := fun e => by have := (G_t F).2; rw [e, P5] at this; exact absurd this (by decide)
  have c11 : c + 11 ≠ p + 1 := fun e => by have := (F.1 11 (by decide)).2.2; rw [e, P6] at this; exact absurd this (by decide)
  have row : ∀ (q y : Int) (G : Int → Int), 0 ≤ q → q ≤ 2 → 0 ≤ y → y < pw h q → mdI cod sp w h V (I (p + 1)) G (pb w h q + y * pw w q) → wT (jd_116_l41 (some c) k fr (some p) q y (pb w h q + y * pw w q) 0 (hh s Q (ims I (p + 1) G))) (fun o => ∃ G', o = (pb w h q + (y + 1) * pw w q, hh s Q (ims I (p + 1) G')) ∧ mdI cod sp w h V (I (p + 1)) G' (pb w h q + (y + 1) * pw w q)) := by
    intro q y G q0 q2 y0 y1 M0
    have hq : okI q := by unfold okI; omega
    have bw := pw_sd sw q
    have ps := pl_sz sw sh q0 q2
    unfold jd_116_l41
    refine w_lp (fun n u => ∃ G', u = (pb w h q + (y * pw w q + (n : Int)), (n : Int), hh s Q (ims I (p + 1) G')) ∧ mdI cod sp w h V (I (p + 1)) G' (pb w h q + (y * pw w q + (n : Int)))) (pw w q).toNat (fun n u hn hu => ?_) (n_fu (by omega)) ⟨G, by rw [show y * pw w q + ((0 : Nat) : Int) = y * pw w q by omega]; rfl, by rw [show y * pw w q + ((0 : Nat) : Int) = y * pw w q by omega]; exact M0⟩
    obtain ⟨G', rfl, M⟩ := hu
    have jp : ims I (p + 1) G' p = I p := ims_o (by omega)
    have hw' : ims I (p + 1) G' p 0 = w := by rw [jp]; exact hw
    have hv' : ims I (p + 1) G' p 1 = h := by rw [jp]; exact hv
    unfold jd_116_s41
    dsimp only
    rw [Option.bind_some, x_ck P2 t14, Option.bind_some, c_96 P2 P3 hw' sw hq, Option.bind_some, n_jw (z := pw w q) (by omega) (by omega), n_jw (z := (n : Int)) (by omega) (by omega)]
    by_cases cn : pw w q ≤ (n : Int)
    · rw [if_pos cn]
      have en : pb w h q + (y * pw w q + (n : Int)) = pb w h q + (y + 1) * pw w q := by
        rw [Int.add_mul]; omega
      refine wT_ret ⟨G', by rw [en], ?_⟩
      rw [← en]; exact M
    · have db := dm_b (W := pw w q) (H := pw h q) (r := y) (c := (n : Int)) y0 y1 (by omega) (by omega)
      obtain ⟨v, e43, hv43⟩ := c_43g (I := ims I (p + 1) G') (q := q) (x := (n : Int)) (y := y) F h6 P k0 k1 hp (by rw [ims_o cne]; exact e0) cr cr2 (by rw [ims_o c11]; exact e17) s0 s1 hw' hv' sw sh q0 q2 ⟨by omega, by omega⟩ ⟨y0, y1⟩
      rw [if_neg cn, Option.bind_some, G_ck F, Option.bind_some, e43, Option.bind_some]
      have nx : (pb w h q + (y * pw w q + (n : Int))) + 1 = pb w h q + (y * pw w q + ((n + 1 : Nat) : Int)) := by omega
      rcases hv43 with ⟨d, rfl⟩ | ⟨d, rfl⟩
      · have fin : ∀ z, z = V (pb w h q + (y * pw w q + (n : Int))) → wT (jd_116_b89 (some c) k fr (some p) q (pb w h q + (y * pw w q + (n : Int))) y (n : Int) z (pb w h q + (y * pw w q + (n : Int))) (some (p + 1)) (hh s Q (ims I (p + 1) G'))) (fun o => jse o (fun s' => n < (pw w q).toNat ∧ ∃ G'', s' = (pb w h q + (y * pw w q + ((n + 1 : Nat) : Int)), ((n + 1 : Nat) : Int), hh s Q (ims I (p + 1) G'')) ∧ mdI cod sp w h V (I (p + 1)) G'' (pb w h q + (y * pw w q + ((n + 1 : Nat) : Int)))) (fun o => ∃ G', o = (pb w h q + (y + 1) * pw w q, hh s Q (ims I (p + 1) G')) ∧ mdI cod sp w h V (I (p + 1)) G' (pb w h q + (y + 1) * pw w q))) := fun z hz => by
          unfold jd_116_b89 jd_116_b90
          rw [Option.bind_some, x_ta P4 P5 (by omega) (by rw [P6]; omega) (by rw [P6]; decide), Option.bind_some, ims_jms, nx]
          refine wT_ret ⟨by omega, _, by rw [show ((n + 1 : Nat) : Int) = (n : Int) + 1 by omega], ?_⟩
          rw [← nx]
          exact mdI_s sw sh q0 q2 (by omega) (by omega) y0 y1 M rfl (fun _ => by rw [hz]) (fun d' => absurd d d')
        rw [if_neg (by decide), Option.bind_some, x_gr P2 t14, Option.bind_some, q2p]
        rcases hf with ⟨ef, eV⟩ | ⟨b, ef, B, bp, eV⟩
        · rw [if_pos ef]
          exact fin 128 (eV _).symm
        · obtain ⟨B1, B2, B3, B4, B5, B6, B7⟩ := id B
          have q2b : Q b ((2 : Nat) : Int) = some (b + 1) := B7
          have jb : ims I (p + 1) G' (b + 1) = I (b + 1) := ims_o (by omega)
          rw [if_neg (by rw [ef]; exact Option.some_ne_none b)]
          rw [ef, Option.bind_some, x_gr B2 (show s.2.2.1 b = 6 + 8 from B3), Option.bind_some, q2b, Option.bind_some, x_ai B4 h6 B5 (by omega) (by rw [B6]; omega) (by rw [B6]; decide), Option.bind_some, jb]
          have := fin _ (eV (pb w h q + (y * pw w q + (n : Int)))).symm
          rw [ef] at this
          exact this
      · rw [if_pos (by decide)]
        unfold jd_116_b90
        rw [nx]
        refine wT_ret ⟨by omega, G', by rw [show ((n + 1 : Nat) : Int) = (n : Int) + 1 by omega], ?_⟩
        rw [← nx]
        exact mdI_s sw sh q0 q2 (by omega) (by omega) y0 y1 M rfl (fun d' => absurd d' d) (fun _ => rfl)
  have rows : ∀ (q : Int) (G : Int → Int), 0 ≤ q → q ≤ 2 → mdI cod sp w h V (I (p + 1)) G (pb w h q) → wT (jd_116_l27 (some c) k fr (some p) q (pb w h q) 0 (hh s Q (ims I (p + 1) G))) (fun o => ∃ G', o = hh s Q (ims I (p + 1) G') ∧ mdI cod sp w h V (I (p + 1)) G' (pb w h q + pw h q * pw w q)) := by
    intro q G q0 q2 M0
    have hq : okI q := by unfold okI; omega
    have bh := pw_sd sh q
    unfold jd_116_l27
    refine w_lp (fun n u => ∃ G', u = (pb w h q + (n : Int) * pw w q, (n : Int), hh s Q (ims I (p + 1) G')) ∧ mdI cod sp w h V (I (p + 1)) G' (pb w h q + (n : Int) * pw w q)) (pw h q).toNat (fun n u hn hu => ?_) (n_fu (by omega)) ⟨G, by rw [show ((0 : Nat) : Int) * pw w q = 0 by simp, Int.add_zero]; rfl, by rw [show ((0 : Nat) : Int) * pw w q = 0 by simp, Int.add_zero]; exact M0⟩
    obtain ⟨G', rfl, M⟩ := hu
    have jp : ims I (p + 1) G' p = I p := ims_o (by omega)
    unfold jd_116_s27
    dsimp only
    rw [Option.bind_some, x_ck P2 t14, Option.bind_some, c_97 P2 P3 (by rw [jp]; exact hv) sh hq, Option.bind_some, n_jw (z := pw h q) (by omega) (by omega), n_jw (z := (n : Int)) (by omega) (by omega)]
    by_cases cn : pw h q ≤ (n : Int)
    · rw [if_pos cn]
      have en : (n : Int) = pw h q := by omega
      rw [en] at M
      exact wT_ret ⟨G', rfl, M⟩
    · obtain ⟨o, eo, G2, rfl, M2⟩ := row q n G' q0 q2 (by omega) (by omega) M
      rw [if_neg cn, eo, Option.bind_some]
      exact wT_ret ⟨by omega, G2, by rw [show ((n + 1 : Nat) : Int) = (n : Int) + 1 by omega], by rw [show ((n + 1 : Nat) : Int) = (n : Int) + 1 by omega]; exact M2⟩
  have all : wT (jd_116_l10 (some c) k fr (some p) 0 (hh s Q I)) (fun o => ∃ G', o = hh s Q (ims I (p + 1) G') ∧ mdI cod sp w h V (I (p + 1)) G' (pb w h 2 + pw h 2 * pw w 2)) := by
    unfold jd_116_l10
    refine w_lp (fun n u => ∃ G', u = ((n : Int), hh s Q (ims I (p + 1) G')) ∧ mdI cod sp w h V (I (p + 1)) G' (if n ≤ 2 then pb w h (n : Int) else pb w h 2 + pw h 2 * pw w 2)) 3 (fun n u hn hu => ?_) (n_fu (by omega)) ⟨I (p + 1), by rw [ims_self]; rfl, mdI_0 sw sh⟩
    obtain ⟨G', rfl, M⟩ := hu
    have jp : ims I (p + 1) G' p = I p := ims_o (by omega)
    unfold jd_116_s10
    dsimp only
    rw [n_jw (z := (n : Int)) (by omega) (by omega)]
    by_cases cn : (3 : Int) ≤ (n : Int)
    · rw [if_pos cn]
      rw [if_neg (by omega)] at M
      exact wT_ret ⟨G', rfl, M⟩
    · rw [if_pos (by omega)] at M
      obtain ⟨o, eo, G2, rfl, M2⟩ := rows n G' (by omega) (by omega) M
      rw [if_neg cn, Option.bind_some, x_ck P2 t14, Option.bind_some, c_98 P2 P3 (by rw [jp]; exact hw) (by rw [jp]; exact hv) sw sh (by unfold okI; omega), Option.bind_some, eo, Option.bind_some]
      refine wT_ret ⟨by omega, G2, by rw [show ((n + 1 : Nat) : Int) = (n : Int) + 1 by omega], ?_⟩
      by_cases c2 : n = 2
      · subst c2
        rw [if_neg (by decide)]
        exact M2
      · rw [if_pos (by omega), show ((n + 1 : Nat) : Int) = (n : Int) + 1 by omega, pb_s sw sh (by omega) (by omega), Int.mul_comm (pw w (n : Int))]
        exact M2
  obtain ⟨o, eo, G, rfl, M⟩ := all
  refine ⟨G, ?_, fun q x y q0 q2 x0 x1 y0 y1 => M.2 q x y q0 q2 x0 x1 y0 y1 ?_⟩
  · unfold jd_116
    rw [Option.bind_some, G_gr F, Option.bind_some, q15, Option.bind_some, G_ar F k0 k1, Option.bind_some, hp, eo, Option.bind_some]
  · have b1 := dm_b (W := pw w q) (H := pw h q) y0 y1 x0 x1
    have b2 := pl_dj (p := q) (q := 2) sw sh q0 q2 (by decide) (by decide)
    rw [Int.mul_comm (pw h 2)]
    by_cases c2 : q = 2
    · subst c2; omega
    · have := (b2 (by omega)).1
      have := pl_sz (p := 2) sw sh (by decide) (by decide)
      omega
end Mend2
