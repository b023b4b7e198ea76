/-! vectors read by both sides -/
section Vec
variable {s : hS} {Q : hQ} {hm : hO} {I m : jM} {A : Nat} {base i en x g md : Int}
def rdV (X : jH ⊕ (jH ⊕ jH)) (f : Int) (H : jH) : Prop := (X = .inl H ∧ ((jgr H 9 8 0).bind fun r46 => ((r46).bind fun a48 => ((jgi H a48 0 3).bind fun v50 => some (v50, H)))) = some (f, H)) ∨ (X = .inr (.inl H) ∧ f = 3)
/-- only the readers moved, and the row of what is found -/
def fX (I I' : jM) : Prop := ∀ a : Nat, a ≠ 10 → a ≠ 41 → I' a = I a
def fY (m m' : jM) : Prop := (∀ a : Nat, a ≠ 76 → m' a = m a) ∧ ∀ k : Int, k < 51 ∨ 52 < k → m' 76 k = m 76 k
theorem k_204 {v : Int} (h0 : -1000000 ≤ v) (h1 : v ≤ 1000000) : jw (jd_204 (jw v) (-16) 16) = if -16 ≤ v ∧ v ≤ 16 then 1 else 0 := by
  rw [n_jw (z := v) (by omega) (by omega)]
  exact x_in (by omega) (by omega) (by decide) (by decide) (by decide) (by decide)
theorem vec1 (L : Lay s Q hm) (h6 : s.1 ≤ 1000000) (R : BM s Q I m 10 A base i en) (x0 : 0 ≤ x) (x1 : x < 4) (tl : ¬ jw (jd_77 md x) = 0) (hg : I 17 x = g) (g0 : -16 ≤ g) (g1 : g ≤ 16) : (∃ v j, -16 ≤ v ∧ v ≤ 16 ∧ jd_119_s2 9 md x (hh s Q I) = some (.inl (x + 1, hh s Q (jms (jms I 10 1 (8 * base + j)) 41 x v))) ∧ jd_263 g m = some (v, jms m 76 51 j) ∧ BM s Q (jms (jms I 10 1 (8 * base + j)) 41 x v) (jms m 76 51 j) 10 A base j en) ∨ (∃ f X I' v m', 1 ≤ f ∧ f ≤ 7 ∧ jd_119_s2 9 md x (hh s Q I) = some (.inr X) ∧ rdV X f (hh s Q I') ∧ jd_263 g m = some (v, m') ∧ m' 76 52 = f ∧ fX I I' ∧ fY m m') := by
  have q0 : Q 9 ((0 : Nat) : Int) = some 10 := Lq L rfl
  have q1 : Q 9 ((1 : Nat) : Int) = some 11 := Lq L rfl
  have q5 : Q 9 ((5 : Nat) : Int) = some 41 := Lq L rfl
  have q12 : Q 11 ((12 : Nat) : Int) = some 17 := Lq L rfl
  have A41 : A ≠ 41 := BM_A L R rfl (by decide)
  have g3 : ∀ (J : jM) z, J 10 3 = z → ((jgr (hh s Q J) 9 8 0).bind fun r46 => ((r46).bind fun a48 => ((jgi (hh s Q J) a48 0 3).bind fun v50 => some (v50, hh s Q J)))) = some (z, hh s Q J) := fun J z hz => by
    have hz' : J 10 ((3 : Nat) : Int) = z := hz
    rw [y_gr L 9 8 rfl rfl, Option.bind_some, q0, Option.bind_some, y_gi L 10 0 rfl rfl, Option.bind_some, hz']
  unfold jd_119_s2 jd_263 jd_263_b33
  rw [n_jw (z := x) (by omega) (by omega), if_neg (by omega), if_neg tl, y_gr L 9 8 rfl rfl, Option.bind_some, q0, Option.bind_some, y_ck L 10 0 rfl rfl, Option.bind_some, k_230]
  rcases code2 R with ⟨u, j, e1, e2, u0, u1, j0, j1, R2⟩ | ⟨f, u, j, j', hf, u0, u1, e1, e2⟩
  · rw [e1, e2, Option.bind_some, Option.bind_some, Option.bind_some]
    dsimp only
    have b := n_14b u0 u1
    obtain ⟨z, hz⟩ : ∃ z, z = jd_14 u := ⟨_, rfl⟩
    rw [← hz] at b ⊢
    have e17 : jms I 10 1 (8 * base + j) 17 x = g := by rw [jms_o (by decide)]; exact hg
    rw [n_jw (z := u) (by omega) (by omega), if_pos u0, if_pos (BM_b0 R2)]
    simp only [y_gr L 9 8 rfl rfl, q5, q1, y_gr L 11 5 rfl rfl, q12, Option.bind_some]
    rw [y_ai L h6 17 4 rfl rfl rfl x0 x1, Option.bind_some, e17, y_ta L 41 0 4 rfl rfl rfl x0 x1, Option.bind_some]
    simp only [y_gr L 9 8 rfl rfl, q5, Option.bind_some]
    rw [y_ai L h6 41 4 rfl rfl rfl x0 x1]
    simp only [Option.bind_some]
    rw [jms_e, n_jw (z := g + z) (by omega) (by omega)]
    have kk := k_204 (v := g + z) (by omega) (by omega)
    rw [n_jw (z := g + z) (by omega) (by omega)] at kk
    rw [kk]
    by_cases c : -16 ≤ g + z ∧ g + z ≤ 16
    · left
      rw [if_pos c, if_neg (by omega), if_pos c.2, if_neg (by decide)]
      refine ⟨g + z, j, c.1, c.2, rfl, rfl, BM_fr R2 (jms_o A41) (by rw [jms_o (by decide)]) (by rw [jms_o (by decide)]) rfl rfl rfl rfl rfl⟩
    · right
      unfold jd_231 jd_231_b12
      rw [if_neg c, if_pos rfl, if_pos (BM_b0 R2), Option.bind_some, Option.bind_some]
      refine ⟨3, .inr (.inl (hh s Q (jms (jms I 10 1 (8 * base + j)) 41 x (g + z)))), _, _, _, by decide, by decide, ?_, Or.inr ⟨rfl, rfl⟩, rfl, jms_e, fun a h1 h2 => by rw [jms_o h2, jms_o h1], fun a ha => by rw [jms_o ha, jms_o ha], fun k hk => by rw [jms_i (by omega), jms_i (by omega)]⟩
      by_cases d : g + z < -16
      · rw [if_pos d]
      · rw [if_neg d, if_neg (by omega)]
  · right
    rw [e1, e2, Option.bind_some, Option.bind_some, Option.bind_some]
    dsimp only
    generalize jd_14 0 = z9
    rw [if_neg (show ¬ 0 ≤ jw u by rw [n_jw (by omega) (by omega)]; omega), if_neg (br_0 (m := jms (jms m 76 51 j') 76 52 f) (f := f) jms_e (by omega) (by omega))]
    exact ⟨f, _, _, _, _, by omega, by omega, rfl, Or.inl ⟨rfl, g3 _ f jms_e⟩, rfl, jms_e, fun a h1 h2 => by rw [jms_o h1, jms_o h1], fun a ha => by rw [jms_o ha, jms_o ha], fun k hk => by rw [jms_i (by omega), jms_i (by omega)]⟩
theorem vec0 (x0 : 0 ≤ x) (x1 : x < 4) (tl : jw (jd_77 md x) = 0) : jd_119_s2 9 md x (hh s Q I) = some (.inl (x + 1, hh s Q I)) := by
  unfold jd_119_s2 jd_119_b79
  rw [n_jw (z := x) (by omega) (by omega), if_neg (by omega), if_pos tl]
/-- two components; what the model does then is K -/
theorem vec2 (L : Lay s Q hm) (h6 : s.1 ≤ 1000000) (R : BM s Q I m 10 A base i en) (x0 : 0 ≤ x) (x1 : x < 3) (ta : ¬ jw (jd_77 md x) = 0) (tb : ¬ jw (jd_77 md (x + 1)) = 0) {ga gb fa : Int} (hga : I 17 x = ga) (hgb : I 17 (x + 1) = gb) (a0 : -16 ≤ ga) (a1 : ga ≤ 16) (b0 : -16 ≤ gb) (b1 : gb ≤ 16) (f1 : 62 ≤ fa) (f2 : fa ≤ 65) : (∃ va vb I' m' i', -16 ≤ va ∧ va ≤ 16 ∧ -16 ≤ vb ∧ vb ≤ 16 ∧ (∀ e, jlp (fun u : (Int × jH) => jd_119_s2 9 md u.1 u.2) (e + 2) (x, hh s Q I) = jlp (fun u : (Int × jH) => jd_119_s2 9 md u.1 u.2) e (x + 1 + 1, hh s Q I')) ∧ fX I I' ∧ I' 41 = jiu (jiu (I 41) x va) (x + 1) vb ∧ (∃ m1, jd_263 ga m = some (va, m1) ∧ fY m m1 ∧ m1 76 52 = 0 ∧ jd_263 gb (jms m1 76 fa va) = some (vb, m')) ∧ (∀ a : Nat, a ≠ 76 → m' a = m a) ∧ (∀ k : Int, (k < 51 ∨ 52 < k) → k ≠ fa → m' 76 k = m 76 k) ∧ m' 76 fa = va ∧ BM s Q I' m' 10 A base i' en) ∨ (∃ f X I', 1 ≤ f ∧ f ≤ 7 ∧ (∀ e, jlp (fun u : (Int × jH) => jd_119_s2 9 md u.1 u.2) (e + 2) (x, hh s Q I) = some X) ∧ rdV X f (hh s Q I') ∧ fX I I' ∧ ((∃ v m1, jd_263 ga m = some (v, m1) ∧ m1 76 52 = f ∧ fY m m1) ∨ (∃ va m1 vb m2, jd_263 ga m = some (va, m1) ∧ m1 76 52 = 0 ∧ fY m m1 ∧ jd_263 gb (jms m1 76 fa va) = some (vb, m2) ∧ m2 76 52 = f ∧ fY (jms m1 76 fa va) m2))) := by
  rcases vec1 (md := md) L h6 R x0 (by omega) ta hga a0 a1 with ⟨va, j, v0, v1, e1, e2, R2⟩ | ⟨f, X, I', v, m', g0, g1, e1, e2, e3, e4, e5, e6⟩
  · obtain ⟨I1, hI1⟩ : ∃ J, J = jms (jms I 10 1 (8 * base + j)) 41 x va := ⟨_, rfl⟩
    rw [← hI1] at e1 R2
    have fx1 : fX I I1 := by rw [hI1]; exact fun a h1 h2 => by rw [jms_o h2, jms_o h1]
    have i41 : I1 41 = jiu (I 41) x va := by
      rw [hI1]
      funext z
      unfold jms
      rw [if_pos rfl, if_neg (by decide)]
    have fy1 : fY m (jms m 76 51 j) := ⟨fun a ha => jms_o ha, fun k hk => jms_i (by omega)⟩
    have R3 : BM s Q I1 (jms (jms m 76 51 j) 76 fa va) 10 A base j en := BM_fr R2 rfl rfl rfl (jms_i (by omega)) (jms_i (by omega)) (jms_i (by omega)) (jms_i (by omega)) (jms_o (by decide))
    rcases vec1 (md := md) L h6 R3 (by omega) (by omega) tb (g := gb) (by rw [fx1 17 (by decide) (by decide)]; exact hgb) b0 b1 with ⟨vb, j', w0, w1, k1, k2, R4⟩ | ⟨f, X, I', v, m', g0, g1, k1, k2, k3, k4, k5, k6⟩
    · left
      obtain ⟨I2, hI2⟩ : ∃ J, J = jms (jms I1 10 1 (8 * base + j')) 41 (x + 1) vb := ⟨_, rfl⟩
      rw [← hI2] at k1 R4
      refine ⟨va, vb, I2, _, j', v0, v1, w0, w1, fun e => ?_, fun a h1 h2 => ?_, ?_, ⟨_, e2, fy1, R2.2.1.1, k2⟩, fun a ha => by rw [jms_o ha, jms_o ha, jms_o ha], fun k hk hf => by rw [jms_i (by omega), jms_i hf, jms_i (by omega)], by rw [jms_i (by omega), jms_e], R4⟩
      · rw [jlp_i (f := fun u : (Int × jH) => jd_119_s2 9 md u.1 u.2) e1, jlp_i (f := fun u : (Int × jH) => jd_119_s2 9 md u.1 u.2) k1]
      · rw [hI2, jms_o h2, jms_o h1]
        exact fx1 a h1 h2
      · rw [hI2]
        funext z
        unfold jms
        rw [if_pos rfl, if_neg (by decide), i41]
    · right
      refine ⟨f, X, I', g0, g1, fun e => ?_, k2, fun a h1 h2 => (k5 a h1 h2).trans (fx1 a h1 h2), Or.inr ⟨va, _, v, m', e2, R2.2.1.1, fy1, k3, k4, k6⟩⟩
      rw [jlp_i (f := fun u : (Int × jH) => jd_119_s2 9 md u.1 u.2) e1]
      exact jlp_1 k1 e
  · right
    refine ⟨f, X, I', g0, g1, fun e => ?_, e2, e5, Or.inl ⟨v, m', e3, e4, e6⟩⟩
    exact jlp_1 e1 (e + 1)
end Vec
