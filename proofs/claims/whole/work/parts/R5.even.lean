/-! MAKE: how long groups are, both sides -/
section EvenM
variable {s : hS} {Q : hQ} {hm : hO} {I m : jM} {T cod L0 x3 g : Int} {G : Int → Int}
def evG (L0 T x : Int) : Int := if T - x < L0 then T - x else L0
theorem evG_s (h1 : 1 ≤ L0) : GSz (evG L0 T) T := fun p p0 p1 => by
  unfold evG
  by_cases c : T - p < L0
  · rw [if_pos c]; omega
  · rw [if_neg c]; omega
theorem c_61 (L : Lay s Q hm) (h6 : s.1 ≤ 1000000) (cc : 0 ≤ cod ∧ cod ≤ 2) (q6 : Q 42 6 = some 3) (i5 : I 42 5 = T) (T0 : 0 ≤ T) (T1 : T ≤ 12) (hL : L0 = if cod = 1 then 1 else I 3 1) (b1 : 1 ≤ L0) (b2 : L0 ≤ 1000) : jd_61 42 cod (hh s Q I) = some (hh s Q (ims I 69 (fun x => if 0 ≤ x ∧ x < T then evG L0 T x else I 69 x))) := by
  have t7 : Q 42 ((7 : Nat) : Int) = some 69 := Lq L rfl
  have t6 : Q 42 ((6 : Nat) : Int) = some 3 := q6
  have l : jd_61_l18 42 L0 0 (hh s Q I) = some (hh s Q (ims I 69 (fun x => if 0 ≤ x ∧ x < T then evG L0 T x else I 69 x))) := by
    unfold jd_61_l18
    have := w_for (f := fun u : (Int × jH) => jd_61_s18 42 L0 u.1 u.2) (fun k => ((k : Int), hh s Q (ims I 69 (fun x => if 0 ≤ x ∧ x < (k : Int) then evG L0 T x else I 69 x)))) T.toNat (x := hh s Q (ims I 69 (fun x => if 0 ≤ x ∧ x < T then evG L0 T x else I 69 x))) (fun k hk => ?_) ?_ (n_fu (by omega))
    · have e : ims I 69 (fun x => if 0 ≤ x ∧ x < ((0 : Nat) : Int) then evG L0 T x else I 69 x) = I := by
        have : (fun x : Int => if 0 ≤ x ∧ x < ((0 : Nat) : Int) then evG L0 T x else I 69 x) = I 69 := by
          funext x
          exact if_neg (by omega)
        rw [this]
        exact ims_self
      rw [e] at this
      exact this
    · dsimp only
      unfold jd_61_s18
      have i5' : ∀ g : Int → Int, ims I 69 g 42 ((5 : Nat) : Int) = T := fun g => by rw [ims_o (by decide)]; exact i5
      have e : jiu (fun x : Int => if 0 ≤ x ∧ x < (k : Int) then evG L0 T x else I 69 x) (k : Int) (evG L0 T (k : Int)) = fun x : Int => if 0 ≤ x ∧ x < ((k + 1 : Nat) : Int) then evG L0 T x else I 69 x := by
        funext x
        unfold jiu
        by_cases c : x = k
        · rw [if_pos c, if_pos (by omega), c]
        · rw [if_neg c]
          exact if_c (by omega)
      have ev : (if jw (T - (k : Int)) < jw L0 then T - (k : Int) else L0) = evG L0 T (k : Int) := by
        rw [n_jw (z := T - (k : Int)) (by omega) (by omega), n_jw (z := L0) (by omega) (by omega)]
        rfl
      rw [y_gi L 42 4 rfl rfl, Option.bind_some, i5', n_jw (z := T) (by omega) (by omega), n_jw (z := (k : Int)) (by omega) (by omega), if_neg (by omega), y_gr L 42 4 rfl rfl, Option.bind_some, Option.bind_some, t7, Option.bind_some, ev, y_ta L 69 0 12 rfl rfl rfl (by omega) (by omega), Option.bind_some, ims_jms, e, show ((k + 1 : Nat) : Int) = (k : Int) + 1 by omega]
    · dsimp only
      unfold jd_61_s18
      have i5' : ∀ g : Int → Int, ims I 69 g 42 ((5 : Nat) : Int) = T := fun g => by rw [ims_o (by decide)]; exact i5
      rw [y_gi L 42 4 rfl rfl, Option.bind_some, i5', n_jw (z := T) (by omega) (by omega), n_jw (by omega) (by omega), if_pos (by omega), show ((T.toNat : Nat) : Int) = T by omega]
  unfold jd_61 jd_61_b15
  rw [n_jw (z := cod) (by omega) (by omega)]
  by_cases c : cod = 1
  · rw [if_pos c] at hL ⊢
    rw [← hL, l, Option.bind_some]
  · rw [if_neg c] at hL ⊢
    rw [y_gr L 42 4 rfl rfl, Option.bind_some, t6, Option.bind_some, y_ai L h6 3 8 rfl rfl rfl (by decide) (by decide), Option.bind_some, ← hL, l, Option.bind_some]
/-- the model's sizes: even groups -/
theorem k_300e (h7 : m 76 7 = T) (h32 : m 76 32 = cod) (cc : 0 ≤ cod ∧ cod ≤ 2) (T1 : T ≤ 12) (hL : L0 = if cod = 1 then 1 else m 82 1) (b1 : 1 ≤ L0) (b2 : L0 ≤ 1000) (g0 : 0 ≤ g) (g1 : g < T) : jd_300_s186 0 x3 g m = jd_300_b253 0 x3 g (evG L0 T g) m := by
  have ev : (if jw (T - g) ≤ jw L0 then T - g else L0) = evG L0 T g := by
    rw [n_jw (z := T - g) (by omega) (by omega), n_jw (z := L0) (by omega) (by omega)]
    unfold evG
    by_cases c : T - g < L0
    · rw [if_pos c, if_pos (by omega)]
    · rw [if_neg c]
      by_cases d : T - g ≤ L0
      · rw [if_pos d]; omega
      · rw [if_neg d]
  unfold jd_300_s186
  rw [h7, n_jw (z := T) (by omega) (by omega), n_jw (z := g) (by omega) (by omega), if_neg (by omega), if_pos (show jw 0 = 0 by decide), h32, n_jw (z := cod) (by omega) (by omega)]
  unfold jd_300_b227
  rw [h7]
  by_cases c : cod = 1
  · rw [if_pos c] at hL ⊢
    rw [← hL, ev]
  · rw [if_neg c] at hL ⊢
    rw [y_ma 82 8 rfl rfl (by decide) (by decide), Option.bind_some, ← hL, ev]
/-- the model's sizes: planned groups -/
theorem k_300p (h7 : m 76 7 = T) (T1 : T ≤ 12) (hG : ∀ p : Int, 0 ≤ p → p < T → m 130 p = G p) (hS : GSz G T) (g0 : 0 ≤ g) (g1 : g < T) : jd_300_s186 1 x3 g m = jd_300_b253 1 x3 g (G g) m := by
  obtain ⟨n1, n2⟩ := hS g g0 g1
  have ev : (if jw (T - g) ≤ jw (G g) then T - g else G g) = G g := by
    rw [n_jw (z := T - g) (by omega) (by omega), n_jw (z := G g) (by omega) (by omega)]
    by_cases d : T - g ≤ G g
    · rw [if_pos d]; omega
    · rw [if_neg d]
  unfold jd_300_s186
  rw [h7, n_jw (z := T) (by omega) (by omega), n_jw (z := g) (by omega) (by omega), if_neg (by omega), if_neg (show ¬ jw 1 = 0 by decide), y_ma 130 12 rfl rfl g0 (by omega), Option.bind_some, hG g g0 g1]
  unfold jd_300_b227
  rw [h7, ev]
end EvenM
