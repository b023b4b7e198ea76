/-! seek -/
section Seek2
variable {s : hS} {Q : hQ} {hm : hO} {I m : jM} {a k : Nat} {f p q x y v z : Int}
theorem si_seek (R : RelH s Q hm I m) (h6 : s.1 < 1000000) (hy : okI y) (hp : okI p) : SimV (jd_178 0 y p (hh s Q I)) (jd_361 y p m) (fun E => if E = 2 then 1 else if E = 1 then 2 else 0) s Q I := by
  have L := R.1
  have n8 := R.2.2.2.2.2.1.2.2.1
  have k5 := k_355 hy
  have b32 : jd_361_b51 y p 1 m = some (jms m 76 0 1) := by
    unfold jd_361_b51
    rw [Option.bind_some, jms_e, if_neg (by decide)]
  by_cases c : 0 ≤ y ∧ y < 4
  · rw [if_pos c] at k5
    obtain ⟨k, rfl⟩ : ∃ k : Nat, y = k := ⟨y.toNat, by omega⟩
    have hk : k < 4 := by omega
    obtain ⟨g1, g2, -⟩ := skp hk
    have z0 : (0 : Int) ≤ (k : Int) := by omega
    have z1 : (k : Int) < ((4 : Nat) : Int) := by omega
    rcases ply_or R hk with ⟨h1, h2⟩ | ⟨a, h1, h2, h3, h4, F, C⟩
    · refine SimV_th (E := 1) R ?_ ?_ (by decide)
      · unfold jd_178
        rw [y_ck L 0 11 rfl rfl, Option.bind_some, (c_201 L h6 hk).2 h2, b_jtx]
      · unfold jd_361 jd_361_b36
        rw [k5, if_neg (by decide), y_ma 141 4 rfl rfl z0 z1, Option.bind_some, h1, if_pos (show jw (-1) = -1 by decide), Option.bind_some, if_pos (show jw (-1) = -1 by decide)]
        unfold jd_361_b51
        rw [Option.bind_some, jms_e, if_neg (by decide)]
        rfl
    · have n12 := C.2.2.2.1.2.1
      obtain ⟨b, hb, hbv⟩ := k_314 (f := m 141 k) R (by unfold okI; omega) hp
      have nk := n_jw (z := m 141 k) (by omega) (by omega)
      by_cases c2 : 0 ≤ p ∧ p < m 87 (m 141 k)
      · have eb : b = 1 := by rcases hbv with h | h; exact h.2; exact absurd ⟨⟨h1, h2⟩, c2⟩ h.1
        subst eb
        obtain ⟨j, j0, j1, jp, jo, -⟩ := film_k C c2.1 c2.2
        obtain ⟨n, rfl⟩ : ∃ n : Nat, j = n := ⟨j.toNat, by omega⟩
        obtain ⟨fg1, fg2⟩ := film_g C
        have eg := fg2 n (by omega)
        generalize hG : grp (fun j => m 95 (12 * m 141 k + j)) n = G at eg
        have gb : G ≤ n := by rw [← hG]; exact grp_b n
        have hH := heads_b C G (by omega)
        have e5 : I (a + 5) (G : Int) = m 94 (12 * m 141 k + G) := (C.2.2.2.2 G (by omega) (by omega)).1.2.2.2.2
        have h30 : Q (72 + k) ((0 : Nat) : Int) = some a := h3
        generalize hJ : jms (jms (jms (jms I (72 + k) 2 (m 94 (12 * m 141 k + G))) (72 + k) 11 (m 94 (12 * m 141 k + G))) (72 + k) 3 p) (72 + k) 4 0 = J
        have eC : jd_178 0 (k : Int) p (hh s Q I) = some (.inl (), hh s Q J) := by
          have e11 : jd_111 (72 + k) p (hh s Q I) = some (hh s Q J) := by
            unfold jd_111
            rw [y_gr L (72 + k) 7 g1 g2, Option.bind_some, h30, Option.bind_some, F_gr F, Option.bind_some, Option.bind_some, Option.bind_some, Option.bind_some, F_gr F, Option.bind_some, F_q F 5 12 rfl rfl, Option.bind_some, F_ai F (by omega) 6 12 rfl rfl rfl c2.1 (by omega), Option.bind_some, jo, Option.bind_some, F_ck F, Option.bind_some, c_37 F n (by omega), Option.bind_some, eg, F_q F 4 11 rfl rfl, Option.bind_some, F_ai F (by omega) 5 12 rfl rfl rfl (by omega) (by omega), Option.bind_some, e5, y_pi L (72 + k) 7 g1 g2, Option.bind_some, y_gi L (72 + k) 7 g1 g2, Option.bind_some, jms_e, y_pi L (72 + k) 7 g1 g2, Option.bind_some, y_pi L (72 + k) 7 g1 g2, Option.bind_some, y_pi L (72 + k) 7 g1 g2, Option.bind_some]
            exact congrArg (fun q => some (hh s Q q)) hJ
          unfold jd_178
          rw [y_ck L 0 11 rfl rfl, Option.bind_some, (c_201 L h6 hk).1 (by rw [h3]; simp), b_jtb, y_gr L (72 + k) 7 g1 g2, Option.bind_some, h30, ((c_187 F C hp).1 c2).2, b_jtb, y_ck L (72 + k) 7 g1 g2, Option.bind_some, e11, Option.bind_some]
        generalize hM : jms (jms (jms (jms (jms m 76 0 0) 144 k (m 94 (12 * m 141 k + G))) 145 k (m 94 (12 * m 141 k + G))) 146 k p) 147 k 0 = N
        have eM : jd_361 (k : Int) p m = some N := by
          have e51 : jd_361_b51 (k : Int) p 0 m = some N := by
            unfold jd_361_b51
            have q1 : jms m 76 0 0 141 (k : Int) = m 141 k := rfl
            have q2 : ∀ z, jms m 76 0 0 94 z = m 94 z := fun _ => rfl
            have q3 := k_318f (m' := jms m 76 0 0) R C ⟨h1, h2⟩ c2.1 c2.2 j0 j1 jp rfl
            have q4 := k_358 (m := jms m 76 0 0) (f := m 141 k) ⟨h1, by omega⟩ fg1 n (by omega)
            have q5 : grp (fun j => jms m 76 0 0 95 (12 * m 141 k + j)) n = G := hG
            rw [q5] at q4
            rw [Option.bind_some, jms_e, if_pos (by decide), y_ma 141 4 rfl rfl z0 z1, Option.bind_some, q1, q3, Option.bind_some, show 12 * m 141 k + (n : Int) - 12 * m 141 k = (n : Int) by omega, q4, Option.bind_some, y_ma 94 96 rfl rfl (by omega) (by omega), Option.bind_some, q2, y_mw 144 4 rfl rfl z0 z1, Option.bind_some, y_ma 144 4 rfl rfl z0 z1, Option.bind_some, jms_e, y_mw 145 4 rfl rfl z0 z1, Option.bind_some, y_mw 146 4 rfl rfl z0 z1, Option.bind_some, y_mw 147 4 rfl rfl z0 z1, Option.bind_some, hM]
          unfold jd_361 jd_361_b36
          rw [k5, if_neg (by decide), y_ma 141 4 rfl rfl z0 z1, Option.bind_some, nk, if_neg (by omega), Option.bind_some, hb, Option.bind_some, if_neg (show ¬ jw 1 = 0 by decide), Option.bind_some, nk, if_neg (by omega), e51]
        have jn : ∀ c, c ≠ 72 + k → J c = I c := fun c hc => by rw [← hJ, jms_o hc, jms_o hc, jms_o hc, jms_o hc]
        have jz : ∀ z : Int, z ≠ 2 → z ≠ 11 → z ≠ 3 → z ≠ 4 → J (72 + k) z = I (72 + k) z := fun z z1 z2 z3 z4 => by rw [← hJ, jms_i z4, jms_i z3, jms_i z2, jms_i z1]
        have nn : ∀ x : Nat, x ≠ 76 → ∀ z : Int, (x < 144 ∨ 147 < x ∨ z ≠ k) → N x z = m x z := fun x hx z hz => by
          rw [← hM]
          have st : ∀ (g : jM) (c : Nat) (v : Int), (x ≠ c ∨ z ≠ k) → jms g c k v x z = g x z := fun g c v h => by
            rcases h with h | h
            · rw [jms_o h]
            · rw [jms_i h]
          rw [st _ 147 _ (by omega), st _ 146 _ (by omega), st _ 145 _ (by omega), st _ 144 _ (by omega), jms_o hx]
        have nf : ∀ z : Int, z ≠ 0 → N 76 z = m 76 z := fun z hz => by rw [← hM, jms_o (by decide), jms_o (by decide), jms_o (by decide), jms_o (by decide)]; exact jms_i hz
        have n0 : N 76 0 = 0 := by rw [← hM]; rfl
        have S : Sm (fun o => o ≠ 1072 + (k : Int) ∧ o ≠ 450 + (k : Int)) s Q hm I s Q hm J := Sm_I (fun c _ hc => jn c (fun e => hc.1 (by rw [e, Lo L g1]; omega)))
        refine Or.inl ⟨s, Q, _, _, eC, eM, n0, Kp_of L S (fun i _ _ => by omega), Gr_refl, hm, ?_⟩
        refine RelH_ply R hk S L ⟨⟨nf _ (by decide), nf _ (by decide), nf _ (by decide), nf _ (by decide), nf _ (by decide), nf _ (by decide), nf _ (by decide), nf _ (by decide)⟩, fun x hx => funext fun z => nn x (by omega) z (by omega), fun x h1 h2 z hz => nn x (by omega) z (by omega), fun z hz => nn 151 (by decide) z (by omega)⟩ ?_ (R.2.2.2.2.2.2.2.2.2.2.2 k hk)
        rcases R.2.2.2.2.2.2.2.2.1 k hk with H | ⟨p1, p2, p3, p4, p5, p6, p7, p8, p9, p10, p11, p12, p13, p14, d, hd, hx⟩
        · exact absurd H.1 (by omega)
        · have b9 := R.2.2.2.2.2.2.2.2.2.2.2 k hk d hd
          have o : ∀ x : Nat, x ≠ 76 → (x < 144 ∨ 147 < x) → N x = m x := fun x hx h => funext fun z => nn x hx z (by omega)
          have n144 : N 144 (k : Int) = m 94 (12 * m 141 k + G) := by rw [← hM, jms_o (by decide), jms_o (by decide), jms_o (by decide)]; exact jms_e
          have n145 : N 145 (k : Int) = m 94 (12 * m 141 k + G) := by rw [← hM, jms_o (by decide), jms_o (by decide)]; exact jms_e
          have n146 : N 146 (k : Int) = p := by rw [← hM, jms_o (by decide)]; exact jms_e
          have n147 : N 147 (k : Int) = 0 := by rw [← hM]; exact jms_e
          have j2 : J (72 + k) 2 = m 94 (12 * m 141 k + G) := by rw [← hJ, jms_i (by decide), jms_i (by decide), jms_i (by decide)]; exact jms_e
          have j11 : J (72 + k) 11 = m 94 (12 * m 141 k + G) := by rw [← hJ, jms_i (by decide), jms_i (by decide)]; exact jms_e
          have j3 : J (72 + k) 3 = p := by rw [← hJ, jms_i (by decide)]; exact jms_e
          have j4 : J (72 + k) 4 = 0 := by rw [← hJ]; exact jms_e
          have z93 := (C.2.2.2.1.2.2.2.2.2.2.2 G (by omega) (by omega)).2.2.2.2.1
          have z93' : 0 ≤ m 93 (12 * m 141 k + G) := z93.1
          unfold PlyC
          rw [o 141 (by decide) (by decide), o 142 (by decide) (by decide), o 143 (by decide) (by decide), o 148 (by decide) (by decide), o 149 (by decide) (by decide), o 150 (by decide) (by decide), o 151 (by decide) (by decide), o 84 (by decide) (by decide), o 85 (by decide) (by decide), o 87 (by decide) (by decide), o 88 (by decide) (by decide), nf 12 (by decide), n144, n145, n146, n147, j2, j11, j3, j4]
          refine Or.inr ⟨p1, p2, p3, (jz _ (by decide) (by decide) (by decide) (by decide)).trans p4, rfl, rfl, rfl, (jz _ (by decide) (by decide) (by decide) (by decide)).trans p8, (jz _ (by decide) (by decide) (by decide) (by decide)).trans p9, (jz _ (by decide) (by decide) (by decide) (by decide)).trans p10, (jz _ (by decide) (by decide) (by decide) (by decide)).trans p11, (jz _ (by decide) (by decide) (by decide) (by decide)).trans p12, rfl, ⟨p14.1, p14.2.1, p14.2.2.1, p14.2.2.2.1, by omega, Int.le_refl _, by omega, c2.1, by omega, fun e => by omega, p14.2.2.2.2.2.2.2.2.2.2.1, p14.2.2.2.2.2.2.2.2.2.2.2⟩, d, hd, fun e => Pix_fr (hx e) (jn _ (by have := b9.1; omega)) (jn _ (by have := b9.1; omega))⟩
      · have eb : b = 0 := by rcases hbv with h | h; exact absurd h.1.2 c2; exact h.2
        subst eb
        refine SimV_th (E := 2) R ?_ ?_ (by decide)
        · have h30 : Q (72 + k) ((0 : Nat) : Int) = some a := h3
          unfold jd_178
          rw [y_ck L 0 11 rfl rfl, Option.bind_some, (c_201 L h6 hk).1 (by rw [h3]; simp), b_jtb, y_gr L (72 + k) 7 g1 g2, Option.bind_some, h30, ((c_187 F C hp).2 c2 h6).2, b_jtx]
        · unfold jd_361 jd_361_b32
          rw [k5, if_neg (by decide), y_ma 141 4 rfl rfl z0 z1, Option.bind_some, nk, if_neg (by omega), Option.bind_some, hb, Option.bind_some, if_pos (show jw 0 = 0 by decide), b32]
          rfl
  · rw [if_neg c] at k5
    refine SimV_th (E := 2) R ?_ ?_ (by decide)
    · unfold jd_178 jd_201
      rw [y_ck L 0 11 rfl rfl, Option.bind_some, Option.bind_some, c_200n h6 hy c, b_jtx, b_jtx]
    · unfold jd_361 jd_361_b32
      rw [k5, if_pos rfl, b32]
      rfl
end Seek2
