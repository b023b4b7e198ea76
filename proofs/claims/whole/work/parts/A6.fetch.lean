/-! a part fetched from another picture, by the class -/
def nr (v n : Int) : Int := if v < 0 then 0 else if n ≤ v then n - 1 else v
theorem nr_b {v n : Int} (h : 1 ≤ n) : 0 ≤ nr v n ∧ nr v n < n := by
  unfold nr
  split
  · omega
  · split <;> omega
/-- the sample at x, y, a half vector hx, hy further -/
def ft (S : Int → Int) (W H x y hx hy : Int) : Int :=
  if hx % 2 = 0 then (if hy % 2 = 0 then S (nr (y + hy / 2) H * W + nr (x + hx / 2) W) else (S (nr (y + hy / 2) H * W + nr (x + hx / 2) W) + S (nr (y + hy / 2 + 1) H * W + nr (x + hx / 2) W) + 1) / 2)
  else (if hy % 2 = 0 then (S (nr (y + hy / 2) H * W + nr (x + hx / 2) W) + S (nr (y + hy / 2) H * W + nr (x + hx / 2 + 1) W) + 1) / 2 else (S (nr (y + hy / 2) H * W + nr (x + hx / 2) W) + S (nr (y + hy / 2) H * W + nr (x + hx / 2 + 1) W) + S (nr (y + hy / 2 + 1) H * W + nr (x + hx / 2) W) + S (nr (y + hy / 2 + 1) H * W + nr (x + hx / 2 + 1) W) + 2) / 4)
theorem ft_c {S S' : Int → Int} {W H x y hx hy : Int} (w0 : 1 ≤ W) (h0 : 1 ≤ H) (e : ∀ j : Int, 0 ≤ j → j < W * H → S j = S' j) : ft S W H x y hx hy = ft S' W H x y hx hy := by
  have k : ∀ a b : Int, S (nr a H * W + nr b W) = S' (nr a H * W + nr b W) := fun a b => by
    have n1 := nr_b (v := a) h0
    have n2 := nr_b (v := b) w0
    have := dm_b (W := W) (H := H) n1.1 n1.2 n2.1 n2.2
    exact e _ this.1 this.2
  unfold ft
  rw [k, k, k, k]
theorem ft_b {S : Int → Int} {W H x y hx hy : Int} (w0 : 1 ≤ W) (h0 : 1 ≤ H) (e : ∀ j : Int, 0 ≤ j → j < W * H → 0 ≤ S j ∧ S j ≤ 255) : 0 ≤ ft S W H x y hx hy ∧ ft S W H x y hx hy ≤ 255 := by
  have k : ∀ a b : Int, 0 ≤ S (nr a H * W + nr b W) ∧ S (nr a H * W + nr b W) ≤ 255 := fun a b => by
    have n1 := nr_b (v := a) h0
    have n2 := nr_b (v := b) w0
    have := dm_b (W := W) (H := H) n1.1 n1.2 n2.1 n2.2
    exact e _ this.1 this.2
  unfold ft
  have k1 := k (y + hy / 2) (x + hx / 2)
  have k2 := k (y + hy / 2 + 1) (x + hx / 2)
  have k3 := k (y + hy / 2) (x + hx / 2 + 1)
  have k4 := k (y + hy / 2 + 1) (x + hx / 2 + 1)
  split
  · split <;> omega
  · split <;> omega
section Fetch
variable {s : hS} {Q : hQ} {hm : hO} {I m : jM} {T a b c : Nat} {w h : Int}
theorem nr_j {z n : Int} (h0 : -1000000 ≤ z) (h1 : z ≤ 1000000) (h2 : 1 ≤ n) (h3 : n ≤ 1000000) : (if 0 ≤ jw z then (if jw z < jw n then z else n - 1) else 0) = nr z n := by
  rw [n_jw (by omega) (by omega), n_jw (by omega) (by omega)]
  unfold nr
  by_cases c : 0 ≤ z
  · rw [if_pos c, if_neg (show ¬ z < 0 by omega)]
    by_cases d : z < n
    · rw [if_pos d, if_neg (by omega)]
    · rw [if_neg d, if_pos (by omega)]
  · rw [if_neg c, if_pos (by omega)]
theorem c_84 (ha : a < s.1) (ht : s.2.2.1 a = 0) (hl : s.2.2.2 a = 16) {start side hv size stride bs : Int} (d0 : 1 ≤ side) (d1 : side ≤ 8) (s0 : 0 ≤ start) (s1 : start ≤ 1000) (v0 : -100 ≤ hv) (v1 : hv ≤ 100) (z0 : 1 ≤ size) (z1 : size ≤ 1000) : ∃ G, jd_84 (some a) start side hv size stride bs (hh s Q I) = some (hh s Q (ims I a G)) ∧ ∀ i : Int, 0 ≤ i → i < side → G i = bs + stride * nr (start + i + hv / 2) size ∧ G (8 + i) = bs + stride * nr (start + i + hv / 2 + hv % 2) size := by
  have hl' : s.2.2.2 a ≤ 1000000 := by rw [hl]; decide
  have wr : ∀ (J : jM) (z x : Int), 0 ≤ z → z < 16 → jta (hh s Q J) a 0 z x = some (hh s Q (jms J a z x)) := fun J z x z0 z1 => x_ta ha ht z0 (by rw [hl]; exact z1) hl'
  have l : wT (jd_84_l10 (some a) side hv size stride bs (start + hv / 2) 0 (hh s Q I)) (fun o => ∃ G, o = hh s Q (ims I a G) ∧ ∀ i : Int, 0 ≤ i → i < side → G i = bs + stride * nr (start + i + hv / 2) size ∧ G (8 + i) = bs + stride * nr (start + i + hv / 2 + hv % 2) size) := by
    unfold jd_84_l10
    refine w_lp (fun n u => ∃ G, u = ((n : Int), hh s Q (ims I a G)) ∧ ∀ i : Int, 0 ≤ i → i < (n : Int) → G i = bs + stride * nr (start + i + hv / 2) size ∧ G (8 + i) = bs + stride * nr (start + i + hv / 2 + hv % 2) size) side.toNat (fun n u hn hu => ?_) (n_fu (by omega)) ⟨I a, by rw [ims_self]; rfl, fun i h0 h1 => absurd h1 (by omega)⟩
    obtain ⟨G, rfl, hG⟩ := hu
    unfold jd_84_s10 jd_84_b63 jd_84_b101
    dsimp only
    rw [n_jw (z := side) (by omega) (by omega), n_jw (z := (n : Int)) (by omega) (by omega)]
    by_cases cn : side ≤ (n : Int)
    · rw [if_pos cn]
      exact wT_ret ⟨G, rfl, fun i h0 h1 => hG i h0 (by omega)⟩
    · rw [if_neg cn, nr_j (by omega) (by omega) z0 (by omega), n_and1, nr_j (by omega) (by omega) z0 (by omega), Option.bind_some, wr _ _ _ (by omega) (by omega), Option.bind_some, Option.bind_some, wr _ _ _ (by omega) (by omega), Option.bind_some, ims_jms, ims_jms]
      refine wT_ret ⟨by omega, _, by rw [show ((n + 1 : Nat) : Int) = (n : Int) + 1 by omega], fun i h0 h1 => ?_⟩
      by_cases ci : i = (n : Int)
      · subst ci
        rw [jiu_o (by omega), jiu_e, jiu_e, show start + hv / 2 + (n : Int) = start + (n : Int) + hv / 2 by omega]
        exact ⟨rfl, rfl⟩
      · rw [jiu_o (by omega), jiu_o (by omega), jiu_o (by omega), jiu_o (by omega)]
        exact hG i h0 (by omega)
  obtain ⟨o, e, G, rfl, hG⟩ := l
  refine ⟨G, ?_, hG⟩
  unfold jd_84
  rw [shr1 (by omega) (by omega), e, Option.bind_some]
/-- rows: where a fetched row's samples stand -/
theorem c_85 (F : PtC s Q T) (h6 : s.1 ≤ 1000000) (hc : c = T + 1 ∨ c = T + 2) (B : PcC s Q b) {C0 C8 : Int → Int} {U Lw hv side r at' : Int} (d0 : 1 ≤ side) (d1 : side ≤ 8) (r0 : 0 ≤ r) (r1 : r < 8) (a0 : 0 ≤ at') (a1 : at' + side ≤ 96) (v0 : 0 ≤ hv) (v1 : hv ≤ 2) (eU : I (T + 9) r = U) (eL : I (T + 9) (8 + r) = Lw) (e0 : ∀ i : Int, 0 ≤ i → i < side → I (T + 8) i = C0 i ∧ I (T + 8) (8 + i) = C8 i ∧ 0 ≤ U + C0 i ∧ U + C0 i < 864 ∧ 0 ≤ U + C8 i ∧ U + C8 i < 864 ∧ 0 ≤ Lw + C0 i ∧ Lw + C0 i < 864 ∧ 0 ≤ Lw + C8 i ∧ Lw + C8 i < 864) : jd_85 T (some (b + 1)) hv r side (some c) at' (hh s Q I) = some (hh s Q (ims I c (wf (fun i => at' + i) (fun i _ => if hv = 1 then jdiv (I (b + 1) (U + C0 i) + I (b + 1) (Lw + C8 i) + 1) 2 else if hv = 2 then jdiv (I (b + 1) (U + C0 i) + (I (b + 1) (U + C8 i) + I (b + 1) (Lw + C0 i)) + I (b + 1) (Lw + C8 i) + 2) 4 else I (b + 1) (U + C0 i)) (I c) side.toNat))) := by
  obtain ⟨B1, B2, B3, B4, B5, B6, B7⟩ := id B
  have F76 := F.2.2.2.2
  have q14 := T_q F 8 14 rfl rfl rfl
  have q15 := T_q F 9 15 rfl rfl rfl
  have hB : s.2.2.2 (b + 1) ≤ 1000000 := by rw [B6]; decide
  have rb : ∀ (J : jM) (z : Int), 0 ≤ z → z < 864 → jai (hh s Q J) (b + 1) z = some (J (b + 1) z) := fun J z z0 z1 => x_ai B4 h6 B5 z0 (by rw [B6]; exact z1) hB
  have gc : c < s.1 ∧ s.2.2.1 c = 0 ∧ s.2.2.2 c = 96 := by
    rcases hc with rfl | rfl
    · exact F.2.2.1 1 (by decide) (by decide)
    · exact F.2.2.1 2 (by decide) (by decide)
  have wc : ∀ (J : jM) (z x : Int), 0 ≤ z → z < 96 → jta (hh s Q J) c 0 z x = some (hh s Q (jms J c z x)) := fun J z x z0 z1 => x_ta gc.1 gc.2.1 z0 (by rw [gc.2.2]; exact z1) (by rw [gc.2.2]; decide)
  have l : jd_85_l22 T (some (b + 1)) hv side (some c) at' U Lw 0 (hh s Q I) = some (hh s Q (ims I c (wf (fun i => at' + i) (fun i _ => if hv = 1 then jdiv (I (b + 1) (U + C0 i) + I (b + 1) (Lw + C8 i) + 1) 2 else if hv = 2 then jdiv (I (b + 1) (U + C0 i) + (I (b + 1) (U + C8 i) + I (b + 1) (Lw + C0 i)) + I (b + 1) (Lw + C8 i) + 2) 4 else I (b + 1) (U + C0 i)) (I c) side.toNat))) := by
    have := lpC (f := fun u : (Int × jH) => jd_85_s22 T (some (b + 1)) hv side (some c) at' U Lw u.1 u.2) (ct := fun k => k) (ix := fun i => at' + i) (v := fun i _ => if hv = 1 then jdiv (I (b + 1) (U + C0 i) + I (b + 1) (Lw + C8 i) + 1) 2 else if hv = 2 then jdiv (I (b + 1) (U + C0 i) + (I (b + 1) (U + C8 i) + I (b + 1) (Lw + C0 i)) + I (b + 1) (Lw + C8 i) + 2) 4 else I (b + 1) (U + C0 i)) (J := I) (a := c) (s := s) (Q := Q) side.toNat (fun k G hk => by
      dsimp only
      unfold jd_85_s22 jd_85_b137
      have e1 : ims I c G (b + 1) = I (b + 1) := ims_o (by omega)
      have e2 : ims I c G (T + 8) = I (T + 8) := ims_o (by omega)
      obtain ⟨h0, h8, z1, z2, z3, z4, z5, z6, z7, z8⟩ := e0 k (by omega) (by omega)
      rw [n_jw (z := side) (by omega) (by omega), n_jw (z := (k : Int)) (by omega) (by omega), if_neg (by omega), n_jw (z := hv) (by omega) (by omega)]
      simp only [T_gr F, q14, Option.bind_some]
      rw [T_ai F h6 8 16 rfl rfl rfl rfl (by omega) (by omega)]
      simp only [Option.bind_some]
      rw [e2, h0, rb _ _ z1 z2]
      simp only [Option.bind_some]
      rw [T_ai F h6 8 16 rfl rfl rfl rfl (by omega) (by omega)]
      simp only [Option.bind_some]
      rw [e2, h8, rb _ _ z7 z8]
      simp only [Option.bind_some]
      by_cases c1 : hv = 1
      · rw [if_pos c1, if_pos c1, wc _ _ _ (by omega) (by omega), Option.bind_some, ims_jms, e1]
      · rw [if_neg c1, if_neg c1]
        by_cases c2 : hv = 2
        · rw [if_pos c2, if_pos c2, rb _ _ z3 z4]
          simp only [Option.bind_some]
          rw [rb _ _ z5 z6]
          simp only [Option.bind_some]
          rw [wc _ _ _ (by omega) (by omega), Option.bind_some, ims_jms, e1]
        · rw [if_neg c2, if_neg c2, wc _ _ _ (by omega) (by omega), Option.bind_some, ims_jms, e1]) (fun G => by
      dsimp only
      unfold jd_85_s22
      rw [n_jw (z := side) (by omega) (by omega), n_jw (by omega) (by omega), if_pos (by omega)]) (by omega) (I c)
    rw [ims_self] at this
    exact this
  unfold jd_85
  rw [T_gr F, Option.bind_some, q15, Option.bind_some, T_ai F h6 9 16 rfl rfl rfl rfl (by omega) (by omega), Option.bind_some, Option.bind_some, Option.bind_some, T_ai F h6 9 16 rfl rfl rfl rfl (by omega) (by omega), Option.bind_some, eU, eL, l, Option.bind_some]
end Fetch
