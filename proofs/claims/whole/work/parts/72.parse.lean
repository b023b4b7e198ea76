/-! a film parsed, in the class and in the model -/
section Parse
variable {s : hS} {Q : hQ} {hm : hO} {I m : jM} {a b : Nat} {f len : Int}
theorem n_jwbs {z : Int} (h : z % 256 < 128) : jwb z = z % 256 := by unfold jwb; omega
theorem c_29w (F : FilmAt s Q hm a f) : jd_29_l109 a 0 (hh s Q I) = some (hh s Q (ims I (a + 6) (fun x => if 0 ≤ x ∧ x < 12 then -1 else I (a + 6) x))) := by
  have e12 : Q a ((12 : Nat) : Int) = some (a + 6) := F_q F 5 12 rfl rfl
  unfold jd_29_l109
  have := w_for (f := fun u : (Int × jH) => jd_29_s109 a u.1 u.2) (fun k => ((k : Int), hh s Q (ims I (a + 6) (fun x => if 0 ≤ x ∧ x < (k : Int) then -1 else I (a + 6) x)))) 12 (x := hh s Q (ims I (a + 6) (fun x => if 0 ≤ x ∧ x < 12 then -1 else I (a + 6) x))) (fun k hk => ?_) ?_ (n_fu (by decide))
  · have e : ims I (a + 6) (fun x => if 0 ≤ x ∧ x < ((0 : Nat) : Int) then -1 else I (a + 6) x) = I := by
      have : (fun x : Int => if 0 ≤ x ∧ x < ((0 : Nat) : Int) then -1 else I (a + 6) x) = I (a + 6) := by
        funext x
        exact if_neg (by omega)
      rw [this]
      exact ims_self
    rw [e] at this
    exact this
  · dsimp only
    unfold jd_29_s109
    have e : jiu (fun x : Int => if 0 ≤ x ∧ x < (k : Int) then -1 else I (a + 6) x) (k : Int) (-1) = fun x : Int => if 0 ≤ x ∧ x < ((k + 1 : Nat) : Int) then -1 else I (a + 6) x := by
      funext x
      unfold jiu
      by_cases c : x = k
      · rw [if_pos c, if_pos (by omega)]
      · rw [if_neg c]
        exact if_c (by omega)
    rw [n_jw (by omega) (by omega), if_neg (by omega), F_gr F, Option.bind_some, e12, Option.bind_some, F_ta F 6 0 12 rfl rfl rfl (by omega) (by omega), Option.bind_some, ims_jms, e, show ((k + 1 : Nat) : Int) = (k : Int) + 1 by omega]
  · dsimp only
    unfold jd_29_s109
    rw [if_pos (by decide)]
    rfl
/-- what a parsed film is -/
def Prs (I I' m m' : jM) (a : Nat) (len : Int) : Prop := ∃ (T cod w h rt : Int) (I1 m1 : jM), HS I1 m1 a T cod len T.toNat len I' m' ∧ m1 112 = m 112 ∧ (I' a 0 = cod ∧ I' a 1 = w ∧ I' a 2 = h ∧ I' a 3 = rt ∧ I' a 4 = T) ∧ (m' 76 32 = cod ∧ m' 76 33 = w ∧ m' 76 34 = h ∧ m' 76 35 = T ∧ m' 76 36 = 0) ∧ (isSd w ∧ isSd h) ∧ (1 ≤ rt ∧ rt ≤ 60 ∧ rt = m 112 5 % 256) ∧ 1 ≤ T ∧ T ≤ 12 ∧ 0 ≤ cod ∧ cod ≤ 2
theorem parse (F : FilmAt s Q hm a f) (h6 : s.1 ≤ 1000000) (Y : BySm s Q I m a b len) (l1 : len ≤ 24090) (hb : ∀ j : Nat, j < 13 → b ≠ a + j) : ∃ r I' m', jd_29 a (hh s Q I) = some (r, hh s Q I') ∧ jd_301 m = some (r, m') ∧ (∀ c, (c < a ∨ a + 6 < c) → I' c = I c) ∧ (∀ k : Int, 5 ≤ k → I' a k = I a k) ∧ (∀ c, c ≠ 76 → c ≠ 102 → c ≠ 103 → c ≠ 104 → c ≠ 105 → c ≠ 106 → m' c = m c) ∧ (∀ k : Int, k < 32 ∨ 36 < k → m' 76 k = m 76 k) ∧ ((0 ≤ r ∧ r < 30000) ∨ (r = -1 ∧ Prs I I' m m' a len)) := by
  obtain ⟨y1, y2, y3, y4, y5, y6, y7, y8⟩ := id Y
  have e6 : I a ((6 : Nat) : Int) = len := y3
  rcases seven F Y with ⟨ok, lC, lM⟩ | ⟨x, x1, lM, lC⟩
  · have hv : ∀ k : Nat, k < 7 → (k : Int) < len ∧ hLo k ≤ m 112 k % 256 ∧ m 112 k % 256 ≤ hHi k := fun k hk => by
      have := ok k hk
      unfold hBad at this
      constructor
      · by_cases h : len ≤ (k : Int)
        · exact absurd (Or.inl h) this
        · omega
      · by_cases h : hLo k ≤ m 112 k % 256 ∧ m 112 k % 256 ≤ hHi k
        · exact h
        · exact absurd (Or.inr h) this
    have v2 : 0 ≤ m 112 2 % 256 ∧ m 112 2 % 256 ≤ 2 := (hv 2 (by decide)).2
    have v3 : 1 ≤ m 112 3 % 256 ∧ m 112 3 % 256 ≤ 3 := (hv 3 (by decide)).2
    have v4 : 1 ≤ m 112 4 % 256 ∧ m 112 4 % 256 ≤ 3 := (hv 4 (by decide)).2
    have v5 : 1 ≤ m 112 5 % 256 ∧ m 112 5 % 256 ≤ 60 := (hv 5 (by decide)).2
    have v6 : 1 ≤ m 112 6 % 256 ∧ m 112 6 % 256 ≤ 12 := (hv 6 (by decide)).2
    have l7 : 7 ≤ len := by
      have : ((6 : Nat) : Int) < len := (hv 6 (by decide)).1
      omega
    have b0 := hb 0 (by decide)
    have b6 := hb 6 (by decide)
    generalize hcod : m 112 2 % 256 = cod at *
    generalize hB3 : m 112 3 % 256 = B3 at *
    generalize hB4 : m 112 4 % 256 = B4 at *
    generalize hB5 : m 112 5 % 256 = rt at *
    generalize hT : m 112 6 % 256 = T at *
    have j2 : jwb (m 112 2) = cod := (n_jwbs (by omega)).trans hcod
    have j3 : jwb (m 112 3) = B3 := (n_jwbs (by omega)).trans hB3
    have j4 : jwb (m 112 4) = B4 := (n_jwbs (by omega)).trans hB4
    have j6 : jwb (m 112 6) = T := (n_jwbs (by omega)).trans hT
    generalize hJ : jms (jms (jms (jms (jms I a ((0 : Nat) : Int) cod) a ((1 : Nat) : Int) (8 * B3)) a ((2 : Nat) : Int) (8 * B4)) a ((3 : Nat) : Int) rt) a ((4 : Nat) : Int) T = J
    have jo : ∀ c, c ≠ a → J c = I c := fun c hc => by rw [← hJ, jms_o hc, jms_o hc, jms_o hc, jms_o hc, jms_o hc]
    have jk : ∀ k : Int, 5 ≤ k → J a k = I a k := fun k hk => by rw [← hJ, jms_i (by omega), jms_i (by omega), jms_i (by omega), jms_i (by omega), jms_i (by omega)]
    have ja0 : J a 0 = cod := by rw [← hJ, jms_i (by decide), jms_i (by decide), jms_i (by decide), jms_i (by decide)]; exact jms_e
    have ja1 : J a 1 = 8 * B3 := by rw [← hJ, jms_i (by decide), jms_i (by decide), jms_i (by decide)]; exact jms_e
    have ja2 : J a 2 = 8 * B4 := by rw [← hJ, jms_i (by decide), jms_i (by decide)]; exact jms_e
    have ja3 : J a 3 = rt := by rw [← hJ, jms_i (by decide)]; exact jms_e
    have ja4 : J a 4 = T := by rw [← hJ]; exact jms_e
    generalize hI1 : ims J (a + 6) (fun x => if 0 ≤ x ∧ x < 12 then -1 else J (a + 6) x) = I1
    have i1o : ∀ c, c ≠ a + 6 → I1 c = J c := fun c hc => by rw [← hI1]; exact ims_o hc
    have i16 : ∀ x : Int, 0 ≤ x → x < 12 → I1 (a + 6) x = -1 := fun x h0 h1 => by rw [← hI1, ims_e]; exact if_pos ⟨h0, h1⟩
    generalize hm1 : jms (jms (jms (jms (jms m 76 32 cod) 76 33 (8 * B3)) 76 34 (8 * B4)) 76 36 0) 76 35 0 = m1
    have m1o : ∀ c, c ≠ 76 → m1 c = m c := fun c hc => by rw [← hm1, jms_o hc, jms_o hc, jms_o hc, jms_o hc, jms_o hc]
    have m1k : ∀ k : Int, k < 32 ∨ 36 < k → m1 76 k = m 76 k := fun k hk => by rw [← hm1, jms_i (by omega), jms_i (by omega), jms_i (by omega), jms_i (by omega), jms_i (by omega)]
    have m32 : m1 76 32 = cod := by rw [← hm1, jms_i (by decide), jms_i (by decide), jms_i (by decide), jms_i (by decide)]; exact jms_e
    have m33 : m1 76 33 = 8 * B3 := by rw [← hm1, jms_i (by decide), jms_i (by decide), jms_i (by decide)]; exact jms_e
    have m34 : m1 76 34 = 8 * B4 := by rw [← hm1, jms_i (by decide), jms_i (by decide)]; exact jms_e
    have m36 : m1 76 36 = 0 := by rw [← hm1, jms_i (by decide)]; exact jms_e
    have m35 : m1 76 35 = 0 := by rw [← hm1]; exact jms_e
    have Y1 : BySm s Q I1 m1 a b len := ⟨y1, y2, by rw [i1o a (by omega), jk 6 (by decide)]; exact y3, y4, y5, y6, by rw [m1k 47 (by decide)]; exact y7, by rw [i1o b b6, jo b b0, m1o 112 (by decide)]; exact y8⟩
    have H0 : HS I1 m1 a T cod len 0 7 I1 m1 := by
      refine ⟨fun _ _ => rfl, ⟨fun _ _ _ _ _ _ _ => rfl, fun _ _ => rfl⟩, ⟨by rw [i1o a (by omega)]; exact ja0, by rw [i1o a (by omega)]; exact ja4, v2, ⟨by omega, v6.1, v6.2⟩, fun j j0 j1 => absurd j1 (by omega), fun x x0 x1 => ?_, fun h => absurd h (by omega)⟩, ⟨m35, m36, ⟨by omega, v6.2⟩, fun j j0 j1 => absurd j1 (by omega)⟩, fun j j0 j1 => absurd j1 (by omega), fun j j0 j1 => absurd j1 (by omega), fun h => absurd h (by omega), ⟨fun _ => rfl, fun h => absurd h (by omega)⟩, by decide, l7⟩
      rw [i16 x x0 x1]
      exact ⟨by unfold okI; omega, fun h => absurd h (by decide), fun ⟨j, j0, j1, _⟩ => absurd j1 (by omega)⟩
    obtain ⟨r, I', m', k1, k2, k3⟩ := heads_loop (T := T) (cod := cod) F h6 Y1 l1 hb m32 T.toNat 0 7 I1 m1 (by omega) H0 jfu jfu (n_fu (n := T.toNat) (by omega)) (n_fu (n := T.toNat) (by omega))
    have fI : ∀ c, (c < a ∨ a + 6 < c) → I' c = I c := fun c hc => (k1 c (by omega)).trans ((i1o c (by omega)).trans (jo c (by omega)))
    have fa : I' a = J a := (k1 a (by omega)).trans (i1o a (by omega))
    have fm : ∀ c, c ≠ 76 → c ≠ 102 → c ≠ 103 → c ≠ 104 → c ≠ 105 → c ≠ 106 → m' c = m c := fun c q1 q2 q3 q4 q5 q6 => (k2.1 c q1 q2 q3 q4 q5 q6).trans (m1o c q1)
    have fk : ∀ k : Int, k < 32 ∨ 36 < k → m' 76 k = m 76 k := fun k hk => (k2.2 k (by omega)).trans (m1k k hk)
    have c30 : ∀ (M : jM) (k : Int), M b = I b → M a 6 = I a 6 → 0 ≤ k → k < len → jd_30 a k (hh s Q M) = some (m 112 k % 256) := fun M k q1 q2 q3 q4 => c_30 (I := M) (b := b) F ⟨y1, y2, q2.trans y3, y4, y5, y6, y7, by rw [q1]; exact y8⟩ q3 q4
    have preC : jd_29 a (hh s Q I) = (jd_29_l133 a 7 0 (hh s Q I1)).bind fun x80 => jse x80 (fun y82 => some (y82.1, y82.2)) (fun y83 => ((jgi y83.2 a 2 6).bind fun v84 => some ((if (jw v84) ≤ (jw y83.1) then (-1) else y83.1), y83.2))) := by
      unfold jd_29
      rw [lC, Option.bind_some]
      unfold jse
      dsimp only
      have s2 := c30 I 2 rfl rfl (by decide) (by omega)
      have s3 := c30 (jms I a ((0 : Nat) : Int) cod) 3 (jms_o b0) (jms_i (by decide)) (by decide) (by omega)
      have s4 := c30 (jms (jms I a ((0 : Nat) : Int) cod) a ((1 : Nat) : Int) (8 * B3)) 4 ((jms_o b0).trans (jms_o b0)) ((jms_i (by decide)).trans (jms_i (by decide))) (by decide) (by omega)
      have s5 := c30 (jms (jms (jms I a ((0 : Nat) : Int) cod) a ((1 : Nat) : Int) (8 * B3)) a ((2 : Nat) : Int) (8 * B4)) 5 ((jms_o b0).trans ((jms_o b0).trans (jms_o b0))) ((jms_i (by decide)).trans ((jms_i (by decide)).trans (jms_i (by decide)))) (by decide) (by omega)
      have s6 := c30 (jms (jms (jms (jms I a ((0 : Nat) : Int) cod) a ((1 : Nat) : Int) (8 * B3)) a ((2 : Nat) : Int) (8 * B4)) a ((3 : Nat) : Int) rt) 6 ((jms_o b0).trans ((jms_o b0).trans ((jms_o b0).trans (jms_o b0)))) ((jms_i (by decide)).trans ((jms_i (by decide)).trans ((jms_i (by decide)).trans (jms_i (by decide))))) (by decide) (by omega)
      rw [F_ck F, Option.bind_some, s2, hcod, Option.bind_some, F_pi F, Option.bind_some, F_ck F, Option.bind_some, s3, hB3, Option.bind_some, F_pi F, Option.bind_some, F_ck F, Option.bind_some, s4, hB4, Option.bind_some, F_pi F, Option.bind_some, F_ck F, Option.bind_some, s5, hB5, Option.bind_some, F_pi F, Option.bind_some, F_ck F, Option.bind_some, s6, hT, Option.bind_some, F_pi F, Option.bind_some, hJ, c_29w F, Option.bind_some, hI1]
    have preM : jd_301 m = (jd_301_l69 T 7 m1).bind fun x32 => jse x32 (fun y34 => some (y34.1, y34.2)) (fun y35 => some ((if (jw (y35.2 76 47)) ≤ (jw y35.1) then (-1) else y35.1), y35.2)) := by
      unfold jd_301
      have q : ∀ (M : jM) (k : Int), M 112 = m 112 → 0 ≤ k → k < 24100 → jmb M 112 k = some (jwb (m 112 k)) := fun M k q1 q2 q3 => by rw [y_mb 112 24100 rfl rfl q2 (by omega), q1]
      rw [lM, Option.bind_some, if_pos (by decide), q m 2 rfl (by decide) (by decide), Option.bind_some, j2, Option.bind_some, q (jms m 76 32 cod) 3 rfl (by decide) (by decide), Option.bind_some, j3, Option.bind_some, q (jms (jms m 76 32 cod) 76 33 (8 * B3)) 4 rfl (by decide) (by decide), Option.bind_some, j4, Option.bind_some, q (jms (jms (jms m 76 32 cod) 76 33 (8 * B3)) 76 34 (8 * B4)) 6 rfl (by decide) (by decide), Option.bind_some, j6, Option.bind_some, Option.bind_some, hm1]
    unfold jd_29_l133 at preC
    unfold jd_301_l69 at preM
    rcases k3 with ⟨r0, q1, q2⟩ | ⟨q1, q2, q3⟩
    · rw [show ((0 : Nat) : Int) = 0 from rfl] at q1
      rw [q1, Option.bind_some] at preC
      rw [q2, Option.bind_some] at preM
      exact ⟨r, I', m', preC, preM, fI, fun k hk => by rw [fa]; exact jk k hk, fm, fk, Or.inl ⟨r0.1, by omega⟩⟩
    · rw [show ((0 : Nat) : Int) = 0 from rfl] at q1
      rw [q1, Option.bind_some] at preC
      rw [q2, Option.bind_some] at preM
      have z6 : I' a ((6 : Nat) : Int) = len := by rw [fa]; exact (jk 6 (by decide)).trans y3
      have z47 : m' 76 47 = len := (fk 47 (by decide)).trans y7
      have rb : 7 ≤ r ∧ r ≤ len := q3.2.2.2.2.2.2.2.2
      unfold jse at preC preM
      dsimp only at preC preM
      rw [F_gi F, Option.bind_some, z6, n_jw (z := len) (by omega) (by omega), n_jw (z := r) (by omega) (by omega)] at preC
      by_cases c : len ≤ r
      · have er : r = len := by omega
        subst er
        rw [if_pos c] at preC
        rw [if_pos (show jw (m' 76 47) ≤ jw r by rw [z47]; exact Int.le_refl _)] at preM
        refine ⟨-1, I', m', preC, preM, fI, fun k hk => by rw [fa]; exact jk k hk, fm, fk, Or.inr ⟨rfl, T, cod, 8 * B3, 8 * B4, rt, I1, m1, q3, m1o 112 (by decide), ⟨by rw [fa]; exact ja0, by rw [fa]; exact ja1, by rw [fa]; exact ja2, by rw [fa]; exact ja3, by rw [fa]; exact ja4⟩, ⟨(k2.2 32 (by decide)).trans m32, (k2.2 33 (by decide)).trans m33, (k2.2 34 (by decide)).trans m34, ?_, (k2.2 36 (by decide)).trans m36⟩, ⟨by unfold isSd; omega, by unfold isSd; omega⟩, ⟨v5.1, v5.2, hB5.symm⟩, v6.1, v6.2, v2⟩⟩
        rw [q3.2.2.2.1.1]
        omega
      · rw [if_neg c] at preC
        rw [if_neg (show ¬ jw (m' 76 47) ≤ jw r by rw [z47, n_jw (z := len) (by omega) (by omega), n_jw (z := r) (by omega) (by omega)]; exact c)] at preM
        exact ⟨r, I', m', preC, preM, fI, fun k hk => by rw [fa]; exact jk k hk, fm, fk, Or.inl ⟨by omega, by omega⟩⟩
  · refine ⟨x, I, m, ?_, ?_, fun _ _ => rfl, fun _ _ => rfl, fun _ _ _ _ _ _ _ => rfl, fun _ _ => rfl, Or.inl ⟨by omega, by omega⟩⟩
    · unfold jd_29
      rcases lC with ⟨hl, lC⟩ | lC
      · rw [lC, Option.bind_some]
        unfold jse
        dsimp only
        rw [F_gi F, Option.bind_some, e6, hl]
      · rw [lC, Option.bind_some]
        rfl
    · unfold jd_301
      rw [lM, Option.bind_some, n_jw (by omega) (by omega), if_neg (by omega)]
end Parse
