/-! forget, bytes, shown -/
section Forget
variable {s : hS} {Q : hQ} {hm : hO} {I m : jM} {a : Nat} {f p q x y v z : Int}
def rf4 (Q : hQ) : Nat → hQ
  | 0 => Q
  | n + 1 => rms (rf4 Q n) (72 + n) 0 none
theorem rf4_o {b : Nat} (h : b < 72 ∨ 76 ≤ b) : ∀ n : Nat, n ≤ 4 → rf4 Q n b = Q b
  | 0, _ => rfl
  | n + 1, hn => by
    unfold rf4
    rw [rms_o (by omega)]
    exact rf4_o h n (by omega)
theorem rf4_i {b : Nat} {k : Int} (h : k ≠ 0) : ∀ n : Nat, rf4 Q n b k = Q b k
  | 0 => rfl
  | n + 1 => by
    unfold rf4
    rw [rms_i h]
    exact rf4_i h n
theorem rf4_e {y : Nat} : ∀ n : Nat, y < n → rf4 Q n (72 + y) 0 = none
  | 0, h => by omega
  | n + 1, h => by
    unfold rf4
    by_cases e : y = n
    · subst e
      exact rms_e
    · rw [rms_o (by omega)]
      exact rf4_e n (by omega)
theorem si_forget (R : RelH s Q hm I m) : SimN (jd_168 0 (hh s Q I)) (jd_332 m) s Q I := by
  obtain ⟨L, r1, r2, r3, r4, r5, r6, r7, r8, r9⟩ := R
  have e8 : I 0 ((8 : Nat) : Int) = m 76 12 := r5.1
  generalize hJ : jms (jms I 0 8 0) 0 10 0 = J
  have lay4 : ∀ n : Nat, n ≤ 4 → Lay s (rf4 Q n) hm := by
    intro n
    induction n with
    | zero => intro _; exact L
    | succ n ih =>
      intro hn
      unfold rf4
      have hk : sq (72 + n) 0 = none := by
        match n, hn with
        | 0, _ => rfl
        | 1, _ => rfl
        | 2, _ => rfl
        | 3, _ => rfl
      exact Lay_rms (k := 0) (ih (by omega)) hk
  have lp : jd_168_l17 0 (m 76 12) 0 (hh s Q J) = some (hh s (rf4 Q 4) J) := by
    unfold jd_168_l17
    refine w_for (f := fun u : (Int × jH) => jd_168_s17 0 (m 76 12) u.1 u.2) (fun k => ((k : Int), hh s (rf4 Q k) J)) 4 (x := hh s (rf4 Q 4) J) (fun k hk => ?_) ?_ (n_fu (by decide))
    · dsimp only
      unfold jd_168_s17
      have L' := lay4 k (by omega)
      have e13 : rf4 Q k 0 ((13 : Nat) : Int) = some 8 := Lq L' rfl
      have e8k : rf4 Q k 8 (k : Int) = some (72 + k) := by
        refine Lq L' ?_
        match k, hk with
        | 0, _ => rfl
        | 1, _ => rfl
        | 2, _ => rfl
        | 3, _ => rfl
      have ht : (sk (72 + k)).1 = 7 + 8 := by
        match k, hk with
        | 0, _ => rfl
        | 1, _ => rfl
        | 2, _ => rfl
        | 3, _ => rfl
      rw [n_jw (by omega) (by omega), if_neg (by omega), y_gr L' 0 11 rfl rfl, Option.bind_some, e13, Option.bind_some, y_ar L' 8 7 4 rfl rfl rfl (by omega) (by omega), Option.bind_some, e8k, Option.bind_some, y_pr L' (72 + k) 7 (Nat.ble_eq_true_of_le (by omega)) ht, Option.bind_some]
      rfl
    · dsimp only
      unfold jd_168_s17
      rw [if_pos (by decide)]
  have eC : jd_168 0 (hh s Q I) = some (m 76 12, hh s (rf4 Q 4) J) := by
    unfold jd_168
    have e : jms (jms I 0 ((8 : Nat) : Int) 0) 0 ((10 : Nat) : Int) 0 = J := hJ
    rw [y_gi L 0 11 rfl rfl, Option.bind_some, e8, y_pi L 0 11 rfl rfl, Option.bind_some, y_pi L 0 11 rfl rfl, Option.bind_some, e, lp, Option.bind_some]
  generalize hN : jms (jms (jms m 76 0 0) 76 12 0) 76 86 0 = N
  have lm : jd_332_l22 (m 76 12) 0 N = some (ims N 141 (seqf (N 141) 0 (fun _ _ => -1) 4)) := by
    unfold jd_332_l22
    have := w_for (f := fun u : (Int × jM) => jd_332_s22 (m 76 12) u.1 u.2) (fun k => ((k : Int), ims N 141 (seqf (N 141) 0 (fun _ _ => -1) (k : Int)))) 4 (x := ims N 141 (seqf (N 141) 0 (fun _ _ => -1) 4)) (fun k hk => ?_) ?_ (n_fu (by decide))
    · rw [show ((0 : Nat) : Int) = 0 from rfl, seqf_0, ims_self] at this
      exact this
    · dsimp only
      unfold jd_332_s22
      have st := seqf_s (f := N 141) (b := 0) (F := fun _ _ => -1) (k := (k : Int)) (by omega)
      rw [n_jw (by omega) (by omega), if_neg (by omega), y_mw 141 4 rfl rfl (by omega) (by omega), Option.bind_some, ims_jms, show ((k + 1 : Nat) : Int) = (k : Int) + 1 from by omega, ← st, Int.zero_add]
    · dsimp only
      unfold jd_332_s22
      rw [if_pos (by decide)]
      rfl
  generalize hG : ims N 141 (seqf (N 141) 0 (fun _ _ => -1) 4) = G at lm
  have eM : jd_332 m = some (m 76 12, G) := by
    unfold jd_332
    rw [Option.bind_some, Option.bind_some, Option.bind_some, show jms m 76 0 0 76 12 = m 76 12 from rfl, hN, lm, Option.bind_some]
  have jo : ∀ c, c ≠ 0 → J c = I c := fun c hc => by rw [← hJ, jms_o hc, jms_o hc]
  have S : Sm (fun o => o ≠ 1000 ∧ ¬ (1072 ≤ o ∧ o < 1076)) s Q hm I s (rf4 Q 4) hm J := ⟨Nat.le_refl _, fun c hc hp => ⟨rfl, rfl, rf4_o (by
      by_cases h : c < 72 ∨ 76 ≤ c
      · exact h
      · have := (L.2.1 c (by omega)).2.2.2
        omega) 4 (Nat.le_refl _), jo c (fun e => hp.1 (by rw [e]; exact Lo L rfl)), rfl⟩⟩
  have j0 : ∀ k : Int, k ≠ 8 → k ≠ 10 → J 0 k = I 0 k := fun k h1 h2 => by rw [← hJ, jms_i h2, jms_i h1]
  have hE : ∀ x : Nat, 77 ≤ x → x ≠ 141 → G x = m x := fun x h1 h2 => by
    rw [← hG, ims_o h2, ← hN, jms_o (show x ≠ 76 by omega), jms_o (show x ≠ 76 by omega), jms_o (show x ≠ 76 by omega)]
  have hF : ∀ k : Int, k ≠ 0 → k ≠ 12 → k ≠ 86 → G 76 k = m 76 k := fun k h1 h2 h3 => by
    rw [← hG, ims_o (by decide), ← hN, jms_i h3, jms_i h2, jms_i h1]
  have g12 : G 76 12 = 0 := by rw [← hG, ← hN]; rfl
  have g86 : G 76 86 = 0 := by rw [← hG, ← hN]; rfl
  have g141 : ∀ y : Nat, y < 4 → G 141 (y : Int) = -1 := fun y hy => by
    rw [← hG, ims_e]
    exact seqf_in (by omega) (by omega)
  have j8 : J 0 8 = 0 := by rw [← hJ]; rfl
  have j10 : J 0 10 = 0 := by rw [← hJ]; rfl
  refine ⟨_, _, s, rf4 Q 4, J, G, eC, eM, rfl, Kp_of L S (fun i _ _ => by omega), Gr_refl, hm, ?_⟩
  refine ⟨lay4 4 (Nat.le_refl _), RPic_fr (m := m) L S (by omega) (fun i _ _ => by omega) (j0 _ (by decide) (by decide)) (hF _ (by decide) (by decide) (by decide)) (hE _ (by decide) (by decide)) (hE _ (by decide) (by decide)) (hE _ (by decide) (by decide)) r1, RTap_fr (I := I) (m := m) (j0 _ (by decide) (by decide)) (Lay_fr L S (by decide) (by omega)).2 (hF _ (by decide) (by decide) (by decide)) (hE _ (by decide) (by decide)) r2, RSet_fr (I := I) (m := m) (Lay_fr L S (by decide) (by omega)).2 (hE _ (by decide) (by decide)) r3, RRee_fr (m := m) L S (by omega) (fun i _ _ => by omega) (j0 _ (by decide) (by decide)) (hF _ (by decide) (by decide) (by decide)) (hF _ (by decide) (by decide) (by decide)) (hF _ (by decide) (by decide) (by decide)) (hE _ (by decide) (by decide)) r4, ?_, ⟨by rw [j10, g86], by rw [g86]; decide, by rw [g86]; decide, fun r r0 r1 => by rw [g86] at r1; omega⟩, RFlt_fr (m := m) L S (by omega) (fun i _ _ => by omega) (j0 _ (by decide) (by decide)) (hF _ (by decide) (by decide) (by decide)) (hE _ (by decide) (by decide)) (hE _ (by decide) (by decide)) (hE _ (by decide) (by decide)) r7, fun y hy => Or.inl ⟨g141 y hy, rf4_e 4 hy⟩, ?_⟩
  · obtain ⟨t1, t2, t3, t4, t5⟩ := r5
    refine ⟨by rw [j8, g12], by rw [g12]; decide, by rw [g12]; decide, fun f f0 f8 a ha => ?_, fun f f0 f1 => ?_⟩
    · rw [(Lay_fr (a := 5) L S (by decide) (by omega)).1] at ha
      exact (FilmAt_fr S ⟨f0, f8⟩ (fun i _ _ => by omega) (fun i _ _ => by omega) (fun i _ _ => by omega) (t4 f f0 f8 a ha)).1
    · rw [g12] at f1
      omega
  · obtain ⟨t1, t2, t3⟩ := r9
    refine ⟨fun b hb => ?_, fun k k0 k1 => ?_, fun y hy => ?_⟩
    · rw [(Lay_fr (a := 43) L S (by decide) (by omega)).1] at hb
      exact ⟨(t1 b hb).1, (Ce_fr S (t1 b hb).2 (by omega)).1⟩
    · rw [(Lay_fr (a := 37) L S (by decide) (by omega)).1]
      exact Sl_fr S (t2 k k0 k1) (by omega)
    · rw [rf4_i (by decide)]
      exact Sl_fr S (t3 y hy) (by omega)
end Forget
section Bytes
variable {s : hS} {Q : hQ} {hm : hO} {I m : jM} {a : Nat} {f p q x y v z : Int}
theorem k_312l {n : Int} (hn : m 76 5 = n) (n0 : 0 ≤ n) (n4 : n ≤ 4000) (hf : 0 ≤ f ∧ f < 8) : jd_312_l52 f 0 m = some (ims m 80 (seqf (m 80) 0 (fun k _ => jwb (m 89 (24100 * f + k)) % 256) n)) := by
  unfold jd_312_l52
  have := w_for (f := fun u : (Int × jM) => jd_312_s52 f u.1 u.2) (fun k => ((k : Int), ims m 80 (seqf (m 80) 0 (fun k _ => jwb (m 89 (24100 * f + k)) % 256) (k : Int)))) n.toNat (x := ims m 80 (seqf (m 80) 0 (fun k _ => jwb (m 89 (24100 * f + k)) % 256) n)) (fun k hk => ?_) ?_ (n_fu (n := n.toNat) (by omega))
  · rw [show ((0 : Nat) : Int) = 0 from rfl, seqf_0, ims_self] at this
    exact this
  · dsimp only
    unfold jd_312_s52
    have e1 : ∀ g : Int → Int, ims m 80 g 76 5 = n := fun _ => hn
    have e2 : ∀ g : Int → Int, ims m 80 g 89 = m 89 := fun _ => rfl
    have st := seqf_s (f := m 80) (b := 0) (F := fun k _ => jwb (m 89 (24100 * f + k)) % 256) (k := (k : Int)) (by omega)
    rw [e1, n_jw (z := n) (by omega) (by omega), n_jw (z := (k : Int)) (by omega) (by omega), if_neg (by omega), y_mb 89 192800 rfl rfl (by omega) (by omega), Option.bind_some, e2, y_mw 80 4000 rfl rfl (by omega) (by omega), Option.bind_some, ims_jms, n_and255, show ((k + 1 : Nat) : Int) = (k : Int) + 1 from by omega, ← st, Int.zero_add]
  · dsimp only
    unfold jd_312_s52
    have e1 : ∀ g : Int → Int, ims m 80 g 76 5 = n := fun _ => hn
    rw [e1, n_jw (z := n) (by omega) (by omega), n_jw (by omega) (by omega), if_pos (by omega), show ((n.toNat : Nat) : Int) = n by omega]
theorem si_bytes (R : RelH s Q hm I m) (h6 : s.1 < 1000000) (hf : okI f) : SimI (jd_157 0 f (hh s Q I)) (jd_312 f m) (fun E => if E = 2 then 1 else 0) s Q I := by
  have R0 := R
  have L := R.1
  have t2 := R.2.2.2.2.2.1.2.1
  have n8 := R.2.2.2.2.2.1.2.2.1
  have hk := k_311 (m := m) ⟨t2, n8⟩ hf
  by_cases c : 0 ≤ f ∧ f < m 76 12
  · rw [if_pos c] at hk
    obtain ⟨a, ea, ha, F, C⟩ := c_195 R hf c.1 c.2
    obtain ⟨b, hb, hl, hby⟩ := C.2.2.1
    obtain ⟨b1, n, hn, B⟩ := F.2.2.2.1 b hb
    have e6 : I a ((6 : Nat) : Int) = m 88 f := C.1.2.2.2.2.2
    have l7 := C.2.1.2.2.2.2.1
    have lm := C.2.1.2.2.2.2.2
    have nl := n_jw (z := m 88 f) (by omega) (by omega)
    by_cases c4 : m 88 f ≤ 4000
    · have e2 : Q 0 ((2 : Nat) : Int) = some 2 := Lq L rfl
      have e5 : Q a ((5 : Nat) : Int) = some b := hb
      generalize hJ : ims I 2 (fun j => if 0 ≤ j ∧ j < 0 + m 88 f then I b (0 + (j - 0)) else I 2 j) = J
      have ja : J a ((6 : Nat) : Int) = m 88 f := by rw [← hJ, ims_o (by have := F.1; omega)]; exact e6
      have eC : jd_157 0 f (hh s Q I) = some (.inl (m 88 f), hh s Q (jms J 0 3 (m 88 f))) := by
        unfold jd_157
        rw [y_ck L 0 11 rfl rfl, Option.bind_some, ea, b_jtb, F_gi F, Option.bind_some, e6, nl, if_pos c4, F_gr F, Option.bind_some, y_gr L 0 11 rfl rfl, Option.bind_some, Option.bind_some, e2, Option.bind_some, e5, Option.bind_some, x_cp (t := 1) B.1 (Lt L rfl) B.2.1 (Lg L rfl rfl) (Or.inr rfl) (by decide) (by decide) (by omega) (by omega) (by rw [Ll L rfl (t := 4000) rfl]; omega) (by rw [B.2.2.1]; omega) (by rw [Ll L rfl (t := 4000) rfl]; decide), Option.bind_some, hJ, F_gi F, Option.bind_some, ja, y_pi L 0 11 rfl rfl, Option.bind_some, y_gi L 0 11 rfl rfl, Option.bind_some, jms_e]
        rfl
      generalize hG : ims (jms (jms m 76 0 0) 76 5 (m 88 f)) 80 (seqf (m 80) 0 (fun k _ => jwb (m 89 (24100 * f + k)) % 256) (m 88 f)) = G
      have eM : jd_312 f m = some (m 88 f, G) := by
        unfold jd_312
        have g1 : jms m 76 0 0 88 f = m 88 f := rfl
        have kl := k_312l (m := jms (jms m 76 0 0) 76 5 (m 88 f)) (f := f) (n := m 88 f) rfl (by omega) c4 ⟨c.1, by omega⟩
        have g2 : ims (jms (jms m 76 0 0) 76 5 (m 88 f)) 80 (seqf ((jms (jms m 76 0 0) 76 5 (m 88 f)) 80) 0 (fun k _ => jwb ((jms (jms m 76 0 0) 76 5 (m 88 f)) 89 (24100 * f + k)) % 256) (m 88 f)) = G := hG
        rw [g2] at kl
        have g3 : G 76 5 = m 88 f := by rw [← hG]; rfl
        rw [hk, if_neg (by decide), Option.bind_some, jms_e, if_pos (by decide), y_ma 88 8 rfl rfl c.1 (by omega), Option.bind_some, g1, nl, if_pos c4, Option.bind_some, Option.bind_some, kl, Option.bind_some, g3]
      have S : Sm (fun o => o ≠ 1000 ∧ o ≠ 1002) s Q hm I s Q hm (jms J 0 3 (m 88 f)) := Sm_I (fun c _ hc => (jms_o (show c ≠ 0 from fun e => hc.1 (by rw [e]; exact Lo L rfl))).trans (by rw [← hJ]; exact ims_o (fun e => hc.2 (by rw [e]; exact Lo L rfl))))
      have j0 : ∀ k : Int, k ≠ 3 → jms J 0 3 (m 88 f) 0 k = I 0 k := fun k hk => by rw [jms_i hk, ← hJ]; rfl
      have hE : ∀ x : Nat, 77 ≤ x → x ≠ 80 → G x = m x := fun x h1 h2 => by
        rw [← hG, ims_o h2, jms_o (show x ≠ 76 by omega), jms_o (show x ≠ 76 by omega)]
      have hF : ∀ k : Int, k ≠ 0 → k ≠ 5 → G 76 k = m 76 k := fun k h1 h2 => by
        rw [← hG, ims_o (by decide), jms_i h2, jms_i h1]
      have g5 : G 76 5 = m 88 f := by rw [← hG]; rfl
      have g0 : G 76 0 = 0 := by rw [← hG]; rfl
      refine Or.inl ⟨_, _, s, Q, _, _, eC, eM, g0, rfl, Kp_of L S (fun i _ _ => by omega), Gr_refl, hm, ?_⟩
      obtain ⟨-, r1, r2, r3, r4, r5, r6, r7, r8, r9⟩ := R
      refine ⟨L, RPic_fr (m := m) L S (by omega) (fun i _ _ => by omega) (j0 _ (by decide)) (hF _ (by decide) (by decide)) (hE _ (by decide) (by decide)) (hE _ (by decide) (by decide)) (hE _ (by decide) (by decide)) r1, ⟨jms_e.trans g5.symm, by omega, by omega, fun i h1 h2 => ?_⟩, RSet_fr (I := I) (m := m) (Lay_fr L S (by decide) (by omega)).2 (hE _ (by decide) (by decide)) r3, RRee_fr (m := m) L S (by omega) (fun i _ _ => by omega) (j0 _ (by decide)) (hF _ (by decide) (by decide)) (hF _ (by decide) (by decide)) (hF _ (by decide) (by decide)) (hE _ (by decide) (by decide)) r4, RFil_fr (m := m) L S (by omega) (fun i _ _ => by omega) (fun i _ _ => by omega) (fun i _ _ => by omega) (j0 _ (by decide)) (hF _ (by decide) (by decide)) (fun x _ _ => hE x (by omega) (by omega)) r5, RRow_fr (I := I) (m := m) (j0 _ (by decide)) (Lay_fr L S (by decide) (by omega)).2 (hF _ (by decide) (by decide)) (hF _ (by decide) (by decide)) (hE _ (by decide) (by decide)) (hE _ (by decide) (by decide)) (hE _ (by decide) (by decide)) (hE _ (by decide) (by decide)) (hE _ (by decide) (by decide)) r6, RFlt_fr (m := m) L S (by omega) (fun i _ _ => by omega) (j0 _ (by decide)) (hF _ (by decide) (by decide)) (hE _ (by decide) (by decide)) (hE _ (by decide) (by decide)) (hE _ (by decide) (by decide)) r7, RPly_fr (m := m) L S (by omega) (fun i _ _ => by omega) (fun i _ _ => by omega) (hF _ (by decide) (by decide)) (fun x _ _ => hE x (by omega) (by omega)) (fun x _ _ => hE x (by omega) (by omega)) r9 r8, RMis_fr L S (by omega) (by omega) (by omega) (fun i _ _ => by omega) (fun i _ _ => by omega) (fun i _ _ => by omega) r9⟩
      rw [g5] at h2
      have x1 : G 80 i = jwb (m 89 (24100 * f + i)) % 256 := by
        rw [← hG, ims_e, seqf_in (by omega) (by omega), Int.sub_zero]
      have x2 : jms J 0 3 (m 88 f) 2 i = I b i := by
        rw [jms_o (by decide), ← hJ, ims_e, if_pos (by omega)]
        congr 1
        omega
      rw [x1, x2, ← hby i h1 h2, n_jwb_m']
    · refine SimI_id (v := -1) (b := -1) R ?_ ?_ rfl
      · unfold jd_157
        rw [y_ck L 0 11 rfl rfl, Option.bind_some, ea, b_jtb, F_gi F, Option.bind_some, e6, nl, if_neg c4]
      · unfold jd_312
        have g1 : jms m 76 0 0 88 f = m 88 f := rfl
        rw [hk, if_neg (by decide), Option.bind_some, jms_e, if_pos (by decide), y_ma 88 8 rfl rfl c.1 (by omega), Option.bind_some, g1, nl, if_neg c4]
  · rw [if_neg c] at hk
    refine SimI_th (E := 2) (b := 0) R ?_ ?_ (by decide)
    · unfold jd_157
      rw [y_ck L 0 11 rfl rfl, Option.bind_some, c_195n R h6 hf c, b_jtx]
    · unfold jd_312
      rw [hk, if_pos rfl, Option.bind_some, jms_e, if_neg (by decide)]
      rfl
end Bytes
