/-! bits read: the model's reader -/
section BitsM
variable {m : jM} {i en n z base : Int}
def MtR (m : jM) (base i en : Int) : Prop := m 76 52 = 0 ∧ m 76 49 = base ∧ m 76 50 = en ∧ m 76 51 = i ∧ 0 ≤ i ∧ i ≤ en ∧ 0 ≤ base ∧ 8 * base + en ≤ 192800
theorem MtR_go (R : MtR m base i en) (h0 : 0 ≤ n) (h1 : n ≤ en) : MtR (jms m 76 51 n) base n en := by
  obtain ⟨r1, r2, r3, r4, r5, r6, r7, r8⟩ := R
  exact ⟨(jms_i (by decide)).trans r1, (jms_i (by decide)).trans r2, (jms_i (by decide)).trans r3, jms_e, h0, h1, r7, r8⟩
theorem k_227 (R : MtR m base i en) : (i = en → jd_227 m = some (0, jms m 76 52 1)) ∧ (i < en → jd_227 m = some (btC (fun j => m 112 (base + j)) i, jms m 76 51 (i + 1))) := by
  obtain ⟨r1, r2, r3, r4, r5, r6, r7, r8⟩ := R
  unfold jd_227
  rw [r1, r2, r3, r4, if_pos (by decide), n_jw (z := i) (by omega) (by omega), n_jw (z := en) (by omega) (by omega)]
  refine ⟨fun h => ?_, fun h => ?_⟩
  · rw [if_pos h, Option.bind_some]
  · rw [if_neg (by omega), shr3 (by omega) (by omega), y_mb 112 24100 rfl rfl (by omega) (by omega), Option.bind_some, bit_e (by omega) (by omega), Option.bind_some, Option.bind_some]
    rfl
theorem k_227x {c : Int} (h : m 76 52 = c) (c0 : 0 < c) (c1 : c < 100) : jd_227 m = some (0, m) := by
  unfold jd_227
  rw [h, n_jw (by omega) (by omega), if_neg (by omega)]
theorem k_228 (R : MtR m base i en) (n0 : 0 ≤ n) (n1 : n ≤ 31) : (n ≤ en - i → jd_228 n m = some (nb (btC (fun j => m 112 (base + j))) i n.toNat, jms m 76 51 (i + n))) ∧ (¬ n ≤ en - i → ∃ v, jd_228 n m = some (v, jms (jms m 76 51 en) 76 52 1)) := by
  obtain ⟨r1, r2, r3, r4, r5, r6, r7, r8⟩ := id R
  refine ⟨fun c => ?_, fun c => ?_⟩
  · have lp : jd_228_l4 n 0 0 m = some (nb (btC (fun j => m 112 (base + j))) i n.toNat, jms m 76 51 (i + n)) := by
      unfold jd_228_l4
      have := w_for (f := fun u : (Int × Int × jM) => jd_228_s4 n u.1 u.2.1 u.2.2) (fun k => (nb (btC (fun j => m 112 (base + j))) i k, (k : Int), jms m 76 51 (i + (k : Int)))) n.toNat (x := (nb (btC (fun j => m 112 (base + j))) i n.toNat, jms m 76 51 (i + n))) (fun k hk => ?_) ?_ (n_fu (n := n.toNat) (by omega))
      · have e : jms m 76 51 (i + ((0 : Nat) : Int)) = m := by
          rw [show i + ((0 : Nat) : Int) = m 76 51 by omega]
          exact jms_self
        rw [e] at this
        exact this
      · dsimp only
        unfold jd_228_s4
        have k1 := (k_227 (MtR_go R (n := i + (k : Int)) (by omega) (by omega))).2 (by omega)
        rw [n_jw (z := n) (by omega) (by omega), n_jw (z := (k : Int)) (by omega) (by omega), if_neg (by omega), k1, Option.bind_some]
        dsimp only
        rw [jms_jms, nb_s, show ((k + 1 : Nat) : Int) = (k : Int) + 1 by omega, show i + ((k : Int) + 1) = i + (k : Int) + 1 by omega]
        rfl
      · dsimp only
        unfold jd_228_s4
        rw [n_jw (z := n) (by omega) (by omega), n_jw (by omega) (by omega), if_pos (by omega), show ((n.toNat : Nat) : Int) = n by omega]
    unfold jd_228
    rw [lp, Option.bind_some]
  · have lp : wT (jd_228_l4 n 0 0 m) (fun u => u.2 = jms (jms m 76 51 en) 76 52 1) := by
      unfold jd_228_l4
      refine w_lp (f := fun u : (Int × Int × jM) => jd_228_s4 n u.1 u.2.1 u.2.2) (fun k u => u.2.1 = (k : Int) ∧ (((k : Int) ≤ en - i ∧ u.2.2 = jms m 76 51 (i + (k : Int))) ∨ (en - i < (k : Int) ∧ u.2.2 = jms (jms m 76 51 en) 76 52 1))) n.toNat (fun k u hk hI => ?_) (n_fu (n := n.toNat) (by omega)) ⟨rfl, Or.inl ⟨by omega, ?_⟩⟩
      · obtain ⟨u1, u2, u3⟩ := u
        obtain ⟨g1, g2⟩ := hI
        dsimp only at g1 g2 ⊢
        subst g1
        unfold jd_228_s4
        rw [n_jw (z := n) (by omega) (by omega), n_jw (z := (k : Int)) (by omega) (by omega)]
        by_cases cc : n ≤ (k : Int)
        · rw [if_pos cc]
          rcases g2 with ⟨g2, g3⟩ | ⟨g2, g3⟩
          · omega
          · exact ⟨_, rfl, g3⟩
        · rw [if_neg cc]
          rcases g2 with ⟨g2, g3⟩ | ⟨g2, g3⟩
          · subst g3
            have R2 := MtR_go R (n := i + (k : Int)) (by omega) (by omega)
            by_cases c3 : i + (k : Int) = en
            · rw [(k_227 R2).1 c3, Option.bind_some]
              refine ⟨_, rfl, by omega, by dsimp only; omega, Or.inr ⟨by omega, ?_⟩⟩
              dsimp only
              rw [c3]
            · rw [(k_227 R2).2 (by omega), Option.bind_some]
              refine ⟨_, rfl, by omega, by dsimp only; omega, Or.inl ⟨by omega, ?_⟩⟩
              dsimp only
              rw [jms_jms, show i + ((k + 1 : Nat) : Int) = i + (k : Int) + 1 by omega]
          · subst g3
            rw [k_227x (c := 1) jms_e (by decide) (by decide), Option.bind_some]
            exact ⟨_, rfl, by omega, by dsimp only; omega, Or.inr ⟨by omega, rfl⟩⟩
      · dsimp only
        rw [show i + ((0 : Nat) : Int) = m 76 51 by omega]
        exact jms_self.symm
    obtain ⟨⟨u1, u2⟩, k1, k2⟩ := lp
    dsimp only at k2
    subst k2
    refine ⟨u1, ?_⟩
    unfold jd_228
    rw [k1, Option.bind_some]
theorem jms_sw {a : Nat} {x y u v : Int} (h : x ≠ y) : jms (jms m a x u) a y v = jms (jms m a y v) a x u := by
  funext b
  by_cases e : b = a
  · subst e
    funext j
    by_cases e1 : j = x
    · subst e1
      rw [jms_i h, jms_e, jms_e]
    · by_cases e2 : j = y
      · subst e2
        rw [jms_e, jms_i (fun e => h e.symm), jms_e]
      · rw [jms_i e2, jms_i e1, jms_i e1, jms_i e2]
  · rw [jms_o e, jms_o e, jms_o e, jms_o e]
theorem k_229 (R : MtR m base i en) (hz : Zr (btC (fun j => m 112 (base + j))) i en z) : (z = 15 → jd_229 m = some (0, jms (jms m 76 51 (i + 15)) 76 52 7)) ∧ (z < 15 → z + 1 ≤ en - (i + z) → jd_229 m = some (nb (btC (fun j => m 112 (base + j))) (i + z) (z + 1).toNat - 1, jms m 76 51 (i + z + (z + 1)))) ∧ (z < 15 → ¬ z + 1 ≤ en - (i + z) → ∃ i', jd_229 m = some (0, jms (jms m 76 51 i') 76 52 1)) := by
  obtain ⟨r1, r2, r3, r4, r5, r6, r7, r8⟩ := id R
  obtain ⟨z0, z1, z2, z3, z4⟩ := hz
  generalize hbt : btC (fun j => m 112 (base + j)) = bt at *
  have e0 : jms m 76 51 (i + ((0 : Nat) : Int)) = m := by
    rw [show i + ((0 : Nat) : Int) = m 76 51 by omega]
    exact jms_self
  have R2 := fun (k : Int) (h1 : 0 ≤ i + k) (h2 : i + k ≤ en) => MtR_go R (n := i + k) h1 h2
  have st : ∀ k : Nat, (k : Int) < z → jd_229_s2 (k : Int) (jms m 76 51 (i + (k : Int))) = if k + 1 = 15 then some (.inl ((k : Int) + 1, jms (jms m 76 51 (i + ((k : Int) + 1))) 76 52 7)) else some (.inl ((k : Int) + 1, jms m 76 51 (i + ((k : Int) + 1)))) := by
    intro k hk
    have k1 := (k_227 (R2 (k : Int) (by omega) (by omega))).2 (by omega)
    have k2 : btC (fun j => jms m 76 51 (i + (k : Int)) 112 (base + j)) (i + (k : Int)) = 0 := by
      have := z3 k (by omega) (by omega)
      rw [← hbt] at this
      exact this
    rw [k2, jms_jms] at k1
    have q1 : jms m 76 51 (i + (k : Int)) 76 52 = 0 := (jms_i (by decide)).trans r1
    have q2 : jms m 76 51 (i + (k : Int) + 1) 76 52 = 0 := (jms_i (by decide)).trans r1
    unfold jd_229_s2
    rw [q1, if_pos (by decide), k1, Option.bind_some]
    dsimp only
    rw [if_pos (by decide), if_pos (show jw (jms m 76 51 (i + (k : Int) + 1) 76 52) = 0 by rw [q2]; decide), n_jw (z := (k : Int) + 1) (by omega) (by omega), Int.add_assoc]
    by_cases c : k + 1 = 15
    · rw [if_pos (by omega), if_pos c, Option.bind_some]
    · rw [if_neg (by omega), if_neg c]
  refine ⟨fun h => ?_, fun h1 h2 => ?_, fun h1 h2 => ?_⟩
  · subst h
    have l2 : jd_229_l2 0 m = some (15, jms (jms m 76 51 (i + 15)) 76 52 7) := by
      unfold jd_229_l2
      have := w_for (f := fun u : (Int × jM) => jd_229_s2 u.1 u.2) (fun k => ((k : Int), if k = 15 then jms (jms m 76 51 (i + 15)) 76 52 7 else jms m 76 51 (i + (k : Int)))) 15 (x := (15, jms (jms m 76 51 (i + 15)) 76 52 7)) (fun k hk => ?_) ?_ (n_fu (by decide))
      · rw [if_neg (by decide), e0] at this
        exact this
      · dsimp only
        rw [if_neg (by omega), st k (by omega)]
        by_cases c : k + 1 = 15
        · have : (k : Int) + 1 = 15 := by omega
          rw [if_pos c, if_pos c, show ((k + 1 : Nat) : Int) = (k : Int) + 1 by omega, this]
        · rw [if_neg c, if_neg c, show ((k + 1 : Nat) : Int) = (k : Int) + 1 by omega]
      · dsimp only
        rw [if_pos rfl]
        unfold jd_229_s2
        rw [jms_e, if_neg (by decide)]
        rfl
    have l45 : jd_229_l45 15 1 0 (jms (jms m 76 51 (i + 15)) 76 52 7) = some (1, jms (jms m 76 51 (i + 15)) 76 52 7) := by
      unfold jd_229_l45
      refine jlp_r (n := 99999999) ?_
      dsimp only
      unfold jd_229_s45
      rw [if_neg (by decide), jms_e, if_neg (by decide)]
    unfold jd_229
    rw [l2, Option.bind_some, l45, Option.bind_some]
    dsimp only
    rw [if_neg (show ¬ jw (jms (jms m 76 51 (i + 15)) 76 52 7 76 52) ≤ 0 by rw [jms_e]; decide)]
  · have hb : bt (i + z) = 1 := by
      have := btC_b (fun j => m 112 (base + j)) (i + z)
      rw [hbt] at this
      omega
    have hs : jd_229_s2 z (jms m 76 51 (i + z)) = some (.inr (z, jms m 76 51 (i + z + 1))) := by
      have k1 := (k_227 (R2 z (by omega) (by omega))).2 (by omega)
      have k2 : btC (fun j => jms m 76 51 (i + z) 112 (base + j)) (i + z) = 1 := by
        rw [← hbt] at hb
        exact hb
      rw [k2, jms_jms] at k1
      have q1 : jms m 76 51 (i + z) 76 52 = 0 := (jms_i (by decide)).trans r1
      unfold jd_229_s2
      rw [q1, if_pos (by decide), k1, Option.bind_some]
      dsimp only
      rw [if_neg (by decide)]
    have l2 : jd_229_l2 0 m = some (z, jms m 76 51 (i + z + 1)) := by
      unfold jd_229_l2
      have := w_for (f := fun u : (Int × jM) => jd_229_s2 u.1 u.2) (fun k => ((k : Int), jms m 76 51 (i + (k : Int)))) z.toNat (x := (z, jms m 76 51 (i + z + 1))) (fun k hk => ?_) ?_ (n_fu (n := z.toNat) (by omega))
      · rw [e0] at this
        exact this
      · dsimp only
        rw [st k (by omega), if_neg (by omega), show ((k + 1 : Nat) : Int) = (k : Int) + 1 by omega]
      · dsimp only
        rw [show ((z.toNat : Nat) : Int) = z by omega]
        exact hs
    have l45 : jd_229_l45 z 1 0 (jms m 76 51 (i + z + 1)) = some (nb bt (i + z) (z + 1).toNat, jms m 76 51 (i + z + (z + 1))) := by
      unfold jd_229_l45
      have := w_for (f := fun u : (Int × Int × jM) => jd_229_s45 z u.1 u.2.1 u.2.2) (fun k => (nb bt (i + z) (k + 1), (k : Int), jms m 76 51 (i + z + 1 + (k : Int)))) z.toNat (x := (nb bt (i + z) (z + 1).toNat, jms m 76 51 (i + z + (z + 1)))) (fun k hk => ?_) ?_ (n_fu (n := z.toNat) (by omega))
      · rw [show i + z + 1 + ((0 : Nat) : Int) = i + z + 1 by omega, nb_s, nb_0, show i + z + ((0 : Nat) : Int) = i + z by omega, hb] at this
        exact this
      · dsimp only
        have k1 := (k_227 (MtR_go R (n := i + z + 1 + (k : Int)) (by omega) (by omega))).2 (by omega)
        have k2 : btC (fun j => jms m 76 51 (i + z + 1 + (k : Int)) 112 (base + j)) (i + z + 1 + (k : Int)) = bt (i + z + ((k + 1 : Nat) : Int)) := by
          rw [← hbt, show i + z + ((k + 1 : Nat) : Int) = i + z + 1 + (k : Int) by omega]
          rfl
        have q1 : jms m 76 51 (i + z + 1 + (k : Int)) 76 52 = 0 := (jms_i (by decide)).trans r1
        rw [k2, jms_jms] at k1
        unfold jd_229_s45
        rw [n_jw (z := z) (by omega) (by omega), n_jw (z := (k : Int)) (by omega) (by omega), if_neg (by omega), q1, if_pos (by decide), k1, Option.bind_some, show i + z + 1 + ((k + 1 : Nat) : Int) = i + z + 1 + (k : Int) + 1 by omega, nb_s (n := k + 1)]
        rfl
      · dsimp only
        unfold jd_229_s45
        rw [n_jw (z := z) (by omega) (by omega), n_jw (by omega) (by omega), if_pos (by omega), show (z + 1).toNat = z.toNat + 1 by omega, show i + z + 1 + ((z.toNat : Nat) : Int) = i + z + (z + 1) by omega]
    have q1 : jms m 76 51 (i + z + (z + 1)) 76 52 = 0 := (jms_i (by decide)).trans r1
    unfold jd_229
    rw [l2, Option.bind_some, l45, Option.bind_some]
    dsimp only
    rw [if_pos (show jw (jms m 76 51 (i + z + (z + 1)) 76 52) ≤ 0 by rw [q1]; decide)]
  · by_cases ce : i + z = en
    · have hs : jd_229_s2 z (jms m 76 51 (i + z)) = some (.inr (z, jms (jms m 76 51 (i + z)) 76 52 1)) := by
        have k1 := (k_227 (R2 z (by omega) (by omega))).1 ce
        have q1 : jms m 76 51 (i + z) 76 52 = 0 := (jms_i (by decide)).trans r1
        unfold jd_229_s2
        rw [q1, if_pos (by decide), k1, Option.bind_some]
        dsimp only
        rw [if_pos (by decide), if_neg (show ¬ jw (jms (jms m 76 51 (i + z)) 76 52 1 76 52) = 0 by rw [jms_e]; decide)]
      have l2 : jd_229_l2 0 m = some (z, jms (jms m 76 51 (i + z)) 76 52 1) := by
        unfold jd_229_l2
        have := w_for (f := fun u : (Int × jM) => jd_229_s2 u.1 u.2) (fun k => ((k : Int), jms m 76 51 (i + (k : Int)))) z.toNat (x := (z, jms (jms m 76 51 (i + z)) 76 52 1)) (fun k hk => ?_) ?_ (n_fu (n := z.toNat) (by omega))
        · rw [e0] at this
          exact this
        · dsimp only
          rw [st k (by omega), if_neg (by omega), show ((k + 1 : Nat) : Int) = (k : Int) + 1 by omega]
        · dsimp only
          rw [show ((z.toNat : Nat) : Int) = z by omega]
          exact hs
      have l45 : jd_229_l45 z 1 0 (jms (jms m 76 51 (i + z)) 76 52 1) = some (1, jms (jms m 76 51 (i + z)) 76 52 1) := by
        unfold jd_229_l45
        refine jlp_r (n := 99999999) ?_
        dsimp only
        unfold jd_229_s45
        rw [n_jw (z := z) (by omega) (by omega), show jw 0 = 0 by decide]
        by_cases c : z ≤ 0
        · rw [if_pos c]
        · rw [if_neg c, jms_e, if_neg (by decide)]
      refine ⟨i + z, ?_⟩
      unfold jd_229
      rw [l2, Option.bind_some, l45, Option.bind_some]
      dsimp only
      rw [if_neg (show ¬ jw (jms (jms m 76 51 (i + z)) 76 52 1 76 52) ≤ 0 by rw [jms_e]; decide)]
    · have hb : bt (i + z) = 1 := by
        have := btC_b (fun j => m 112 (base + j)) (i + z)
        rw [hbt] at this
        omega
      have hs : jd_229_s2 z (jms m 76 51 (i + z)) = some (.inr (z, jms m 76 51 (i + z + 1))) := by
        have k1 := (k_227 (R2 z (by omega) (by omega))).2 (by omega)
        have k2 : btC (fun j => jms m 76 51 (i + z) 112 (base + j)) (i + z) = 1 := by
          rw [← hbt] at hb
          exact hb
        rw [k2, jms_jms] at k1
        have q1 : jms m 76 51 (i + z) 76 52 = 0 := (jms_i (by decide)).trans r1
        unfold jd_229_s2
        rw [q1, if_pos (by decide), k1, Option.bind_some]
        dsimp only
        rw [if_neg (by decide)]
      have l2 : jd_229_l2 0 m = some (z, jms m 76 51 (i + z + 1)) := by
        unfold jd_229_l2
        have := w_for (f := fun u : (Int × jM) => jd_229_s2 u.1 u.2) (fun k => ((k : Int), jms m 76 51 (i + (k : Int)))) z.toNat (x := (z, jms m 76 51 (i + z + 1))) (fun k hk => ?_) ?_ (n_fu (n := z.toNat) (by omega))
        · rw [e0] at this
          exact this
        · dsimp only
          rw [st k (by omega), if_neg (by omega), show ((k + 1 : Nat) : Int) = (k : Int) + 1 by omega]
        · dsimp only
          rw [show ((z.toNat : Nat) : Int) = z by omega]
          exact hs
      have l45 : wT (jd_229_l45 z 1 0 (jms m 76 51 (i + z + 1))) (fun u => u.2 = jms (jms m 76 51 en) 76 52 1) := by
        unfold jd_229_l45
        refine w_lp (f := fun u : (Int × Int × jM) => jd_229_s45 z u.1 u.2.1 u.2.2) (fun k u => u.2.1 = (k : Int) ∧ ((i + z + 1 + (k : Int) ≤ en ∧ u.2.2 = jms m 76 51 (i + z + 1 + (k : Int))) ∨ u.2.2 = jms (jms m 76 51 en) 76 52 1)) z.toNat (fun k u hk hI => ?_) (n_fu (n := z.toNat) (by omega)) ⟨rfl, Or.inl ⟨by omega, by rw [show i + z + 1 + ((0 : Nat) : Int) = i + z + 1 by omega]⟩⟩
        obtain ⟨u1, u2, u3⟩ := u
        obtain ⟨g1, g2⟩ := hI
        dsimp only at g1 g2 ⊢
        subst g1
        unfold jd_229_s45
        rw [n_jw (z := z) (by omega) (by omega), n_jw (z := (k : Int)) (by omega) (by omega)]
        rcases g2 with ⟨g2, g3⟩ | g3
        · subst g3
          have q1 : jms m 76 51 (i + z + 1 + (k : Int)) 76 52 = 0 := (jms_i (by decide)).trans r1
          rw [if_neg (by omega), q1, if_pos (by decide)]
          have R3 := MtR_go R (n := i + z + 1 + (k : Int)) (by omega) (by omega)
          by_cases c3 : i + z + 1 + (k : Int) = en
          · rw [(k_227 R3).1 c3, Option.bind_some]
            refine ⟨_, rfl, by omega, by dsimp only; omega, Or.inr ?_⟩
            dsimp only
            rw [c3]
          · rw [(k_227 R3).2 (by omega), Option.bind_some]
            refine ⟨_, rfl, by omega, by dsimp only; omega, Or.inl ⟨by omega, ?_⟩⟩
            dsimp only
            rw [jms_jms, show i + z + 1 + ((k + 1 : Nat) : Int) = i + z + 1 + (k : Int) + 1 by omega]
        · subst g3
          rw [jms_e, if_neg (show ¬ jw 1 = 0 by decide)]
          by_cases c : z ≤ (k : Int)
          · rw [if_pos c]
            exact ⟨_, rfl, rfl⟩
          · rw [if_neg c]
            exact ⟨_, rfl, rfl⟩
      obtain ⟨⟨u1, u2⟩, k1, k2⟩ := l45
      dsimp only at k2
      subst k2
      refine ⟨en, ?_⟩
      unfold jd_229
      rw [l2, Option.bind_some, k1, Option.bind_some]
      dsimp only
      rw [if_neg (show ¬ jw (jms (jms m 76 51 en) 76 52 1 76 52) ≤ 0 by rw [jms_e]; decide)]
end BitsM
