/-! all pictures from the key to the wanted one read anew, on both sides -/
section AnewL
variable {s : hS} {Q : hQ} {hm : hO} {I m : jM} {a A : Nat} {w h cod f fr T e len v y : Int} {pj : Int → Nat}
theorem anew_l (L : Lay s Q hm) (h6 : s.1 ≤ 1000000) (F : FilmAt s Q hm a f) (B : TpB s Q I m a A w h cod fr e T len pj) (y0 : 0 ≤ y) (y4 : y < 4) (hv : m 150 y = v) : ∃ Q' I' m', jd_114_l42 9 (some a) e v fr fr (hh s Q I) = some (hh s Q' I') ∧ jd_359_l219 y e fr m = some m' ∧ TpI s Q hm I m w h fr pj (e + 1) Q' I' m' := by
  have fe := B.1
  have t12 : T ≤ 12 := by obtain ⟨BB, V⟩ := B.2.2.2.1; exact V.2.1
  unfold jd_114_l42 jd_359_l219
  have key := w_lp2 (f := fun u : (Int × jH) => jd_114_s42 9 (some a) e v fr u.1 u.2) (g := fun u : (Int × jM) => jd_359_s219 y e u.1 u.2) (Q := fun x z => ∃ Q' I', x = hh s Q' I' ∧ TpI s Q hm I m w h fr pj (e + 1) Q' I' z) (fun n u t => ∃ Q' I' m', u = (fr + (n : Int), hh s Q' I') ∧ t = (fr + (n : Int), m') ∧ TpI s Q hm I m w h fr pj (fr + (n : Int)) Q' I' m') (e + 1 - fr).toNat (fun n u t hn hu => ?_) (n_fu (n := (e + 1 - fr).toNat) (by omega)) (n_fu (n := (e + 1 - fr).toNat) (by omega)) (s0 := (fr, hh s Q I)) (t0 := (fr, m)) ⟨Q, I, m, by simp, by simp, fun _ _ _ => rfl, L, fun _ _ _ _ _ _ => rfl, fun _ _ _ => rfl, fun _ _ => rfl, fun j j0 j1 => absurd j1 (by omega)⟩
  · obtain ⟨x, z, e1, e2, Q', I', rfl, J⟩ := key
    exact ⟨Q', I', z, e1, e2, J⟩
  · obtain ⟨Q', I', m', rfl, rfl, J⟩ := hu
    have q4 : Q' 9 ((4 : Nat) : Int) = some 28 := Lq J.2.1 rfl
    have m150 : m' 150 y = v := by rw [J.2.2.2.1 150 (by decide) (by omega)]; exact hv
    dsimp only
    by_cases cn : e < fr + (n : Int)
    · right
      have en : fr + (n : Int) = e + 1 := by omega
      rw [en] at J
      refine ⟨hh s Q' I', m', ?_, ?_, Q', I', rfl, J⟩
      · unfold jd_114_s42
        rw [n_jw (z := e) (by omega) (by omega), n_jw (z := fr + (n : Int)) (by omega) (by omega), if_pos cn]
      · unfold jd_359_s219
        rw [n_jw (z := e) (by omega) (by omega), n_jw (z := fr + (n : Int)) (by omega) (by omega), if_pos cn]
    · left
      obtain ⟨lo, elo⟩ : ∃ lo : Int, lo = (if jw (jand (jshr v (fr + (n : Int))) 1) = 1 then 1 else 0) := ⟨_, rfl⟩
      have hlo : lo = 0 ∨ lo = 1 := by
        rw [elo]
        split
        · exact Or.inr rfl
        · exact Or.inl rfl
      obtain ⟨Q2, I2, m2, e1, e2, J2⟩ := TpI_s h6 F hlo B J (by omega) (by omega)
      refine ⟨(fr + (n : Int) + 1, hh s Q2 I2), (fr + (n : Int) + 1, m2), ?_, ?_, by omega, Q2, I2, m2, by rw [show fr + ((n + 1 : Nat) : Int) = fr + (n : Int) + 1 by omega], by rw [show fr + ((n + 1 : Nat) : Int) = fr + (n : Int) + 1 by omega], by rw [show fr + ((n + 1 : Nat) : Int) = fr + (n : Int) + 1 by omega]; exact J2⟩
      · unfold jd_114_s42
        rw [n_jw (z := e) (by omega) (by omega), n_jw (z := fr + (n : Int)) (by omega) (by omega), if_neg cn, y_gr J.2.1 9 8 rfl rfl, Option.bind_some, q4, y_ck J.2.1 9 8 rfl rfl, Option.bind_some, ← elo, e1, Option.bind_some]
      · unfold jd_359_s219
        rw [n_jw (z := e) (by omega) (by omega), n_jw (z := fr + (n : Int)) (by omega) (by omega), if_neg cn, y_ma 150 4 rfl rfl y0 y4, Option.bind_some, m150, ← elo, e2, Option.bind_some]
end AnewL
