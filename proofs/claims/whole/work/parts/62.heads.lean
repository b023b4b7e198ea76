/-! heads: the latest anchors; a film's first seven bytes -/
theorem anc_s {K : Int → Int} {fr : Int} {n : Nat} : anc K fr (n + 1) = if (n : Int) < fr then -1 else if K n ≠ 2 then (n : Int) else anc K fr n := rfl
theorem anc_0 {K : Int → Int} {fr : Int} : anc K fr 0 = -1 := rfl
theorem anc_r {K : Int → Int} {fr : Int} (n : Nat) : -1 ≤ anc K fr n ∧ anc K fr n < n := by
  induction n with
  | zero => rw [anc_0]; omega
  | succ n ih =>
    rw [anc_s]
    split
    · omega
    · split <;> omega
section Heads
variable {s : hS} {Q : hQ} {hm : hO} {I m : jM} {a : Nat} {f p q fr z : Int}
theorem c_35 (F : FilmAt s Q hm a f) (h6 : s.1 ≤ 1000000) {N : Int} (hN : N ≤ 12) (hK : ∀ j : Int, 0 ≤ j → j < N → okI (I (a + 1) j)) (h0 : 0 ≤ fr) (h1 : fr ≤ 12) (n : Nat) (hn : (n : Int) ≤ N) : jd_35 a (n : Int) fr (hh s Q I) = some (anc (I (a + 1)) fr n) := by
  have e7 := F_q F 0 7 rfl rfl
  have key : ∀ n : Nat, (n : Int) ≤ N → ∀ fu, n < fu → ∃ r, jlp (fun u : Int => jd_35_s4 a fr u (hh s Q I)) fu ((n : Int) - 1) = some r ∧ jse r (fun y => some y) (fun _ => some (-1)) = some (anc (I (a + 1)) fr n) := by
    intro n
    induction n with
    | zero =>
      intro hn fu hfu
      obtain ⟨fu, rfl⟩ : ∃ j, fu = j + 1 := ⟨fu - 1, by omega⟩
      refine ⟨.inr (), jlp_r ?_, rfl⟩
      unfold jd_35_s4
      rw [n_jw (by omega) (by omega), n_jw (by omega) (by omega), if_pos (by omega)]
    | succ n ih =>
      intro hn fu hfu
      obtain ⟨fu, rfl⟩ : ∃ j, fu = j + 1 := ⟨fu - 1, by omega⟩
      rw [anc_s, show ((n + 1 : Nat) : Int) - 1 = (n : Int) by omega]
      by_cases c : (n : Int) < fr
      · refine ⟨.inr (), jlp_r ?_, by rw [if_pos c]; rfl⟩
        unfold jd_35_s4
        rw [n_jw (by omega) (by omega), n_jw (by omega) (by omega), if_pos c]
      · have ok := hK n (by omega) (by omega)
        rw [if_neg c]
        by_cases c2 : I (a + 1) (n : Int) = 2
        · obtain ⟨r, r1, r2⟩ := ih (by omega) fu (by omega)
          refine ⟨r, (jlp_i ?_).trans r1, by rw [if_neg (fun h => h c2)]; exact r2⟩
          unfold jd_35_s4
          rw [n_jw (by omega) (by omega), n_jw (by omega) (by omega), if_neg c, F_gr F, Option.bind_some, e7, Option.bind_some, F_ai F h6 1 12 rfl rfl rfl (by omega) (by omega), Option.bind_some, n_jw ok.1 ok.2, if_pos c2]
          rfl
        · refine ⟨.inl (n : Int), jlp_r ?_, by rw [if_pos c2]; rfl⟩
          unfold jd_35_s4
          rw [n_jw (by omega) (by omega), n_jw (by omega) (by omega), if_neg c, F_gr F, Option.bind_some, e7, Option.bind_some, F_ai F h6 1 12 rfl rfl rfl (by omega) (by omega), Option.bind_some, n_jw ok.1 ok.2, if_neg c2]
  obtain ⟨r, r1, r2⟩ := key n hn jfu (n_fu (by omega))
  unfold jd_35 jd_35_l4
  rw [r1, Option.bind_some]
  exact r2
theorem k_239 (hf : m 76 36 = fr) (h0 : 0 ≤ fr) (h1 : fr ≤ 12) {N : Int} (hN : N ≤ 12) (hK : ∀ j : Int, 0 ≤ j → j < N → okI (m 102 j)) (n : Nat) (hn : (n : Int) ≤ N) : jd_239 (n : Int) 1 m = some (anc (m 102) fr n) ∧ jd_239 (n : Int) 2 m = some (anc (m 102) fr (anc (m 102) fr n).toNat) := by
  have key1 : ∀ n : Nat, (n : Int) ≤ N → ∀ fu, n < fu → ∃ r, jlp (fun u : (Int × Int) => jd_239_s7 u.1 u.2 m) fu (1, (n : Int) - 1) = some r ∧ jse r (fun y => some y) (fun _ => some (-1)) = some (anc (m 102) fr n) := by
    intro n
    induction n with
    | zero =>
      intro hn fu hfu
      obtain ⟨fu, rfl⟩ : ∃ j, fu = j + 1 := ⟨fu - 1, by omega⟩
      refine ⟨.inr (), jlp_r ?_, rfl⟩
      unfold jd_239_s7
      rw [hf, n_jw (by omega) (by omega), n_jw (by omega) (by omega), if_pos (by omega)]
    | succ n ih =>
      intro hn fu hfu
      obtain ⟨fu, rfl⟩ : ∃ j, fu = j + 1 := ⟨fu - 1, by omega⟩
      rw [anc_s, show ((n + 1 : Nat) : Int) - 1 = (n : Int) by omega]
      by_cases c : (n : Int) < fr
      · refine ⟨.inr (), jlp_r ?_, by rw [if_pos c]; rfl⟩
        unfold jd_239_s7
        rw [hf, n_jw (by omega) (by omega), n_jw (by omega) (by omega), if_pos c]
      · have ok := hK n (by omega) (by omega)
        rw [if_neg c]
        by_cases c2 : m 102 (n : Int) = 2
        · obtain ⟨r, r1, r2⟩ := ih (by omega) fu (by omega)
          refine ⟨r, (jlp_i ?_).trans r1, by rw [if_neg (fun h => h c2)]; exact r2⟩
          unfold jd_239_s7
          rw [hf, n_jw (by omega) (by omega), n_jw (by omega) (by omega), if_neg c, y_ma 102 12 rfl rfl (by omega) (by omega), Option.bind_some, n_jw ok.1 ok.2, if_pos c2, if_neg (show ¬ jw 1 = 0 by decide)]
          rfl
        · refine ⟨.inl (n : Int), jlp_r ?_, by rw [if_pos c2]; rfl⟩
          unfold jd_239_s7
          rw [hf, n_jw (by omega) (by omega), n_jw (by omega) (by omega), if_neg c, y_ma 102 12 rfl rfl (by omega) (by omega), Option.bind_some, n_jw ok.1 ok.2, if_neg c2, if_pos (show jw (1 + (-1)) = 0 by decide)]
  have key2 : ∀ n : Nat, (n : Int) ≤ N → ∀ fu, n < fu → ∃ r, jlp (fun u : (Int × Int) => jd_239_s7 u.1 u.2 m) fu (2, (n : Int) - 1) = some r ∧ jse r (fun y => some y) (fun _ => some (-1)) = some (anc (m 102) fr (anc (m 102) fr n).toNat) := by
    intro n
    induction n with
    | zero =>
      intro hn fu hfu
      obtain ⟨fu, rfl⟩ : ∃ j, fu = j + 1 := ⟨fu - 1, by omega⟩
      refine ⟨.inr (), jlp_r ?_, rfl⟩
      unfold jd_239_s7
      rw [hf, n_jw (by omega) (by omega), n_jw (by omega) (by omega), if_pos (by omega)]
    | succ n ih =>
      intro hn fu hfu
      obtain ⟨fu, rfl⟩ : ∃ j, fu = j + 1 := ⟨fu - 1, by omega⟩
      rw [anc_s, show ((n + 1 : Nat) : Int) - 1 = (n : Int) by omega]
      by_cases c : (n : Int) < fr
      · refine ⟨.inr (), jlp_r ?_, by rw [if_pos c]; rfl⟩
        unfold jd_239_s7
        rw [hf, n_jw (by omega) (by omega), n_jw (by omega) (by omega), if_pos c]
      · have ok := hK n (by omega) (by omega)
        rw [if_neg c]
        by_cases c2 : m 102 (n : Int) = 2
        · obtain ⟨r, r1, r2⟩ := ih (by omega) fu (by omega)
          refine ⟨r, (jlp_i ?_).trans r1, by rw [if_neg (fun h => h c2)]; exact r2⟩
          unfold jd_239_s7
          rw [hf, n_jw (by omega) (by omega), n_jw (by omega) (by omega), if_neg c, y_ma 102 12 rfl rfl (by omega) (by omega), Option.bind_some, n_jw ok.1 ok.2, if_pos c2, if_neg (show ¬ jw 2 = 0 by decide)]
          rfl
        · obtain ⟨r, r1, r2⟩ := key1 n (by omega) fu (by omega)
          refine ⟨r, (jlp_i ?_).trans r1, by rw [if_pos c2, show ((n : Int)).toNat = n by omega]; exact r2⟩
          unfold jd_239_s7
          rw [hf, n_jw (by omega) (by omega), n_jw (by omega) (by omega), if_neg c, y_ma 102 12 rfl rfl (by omega) (by omega), Option.bind_some, n_jw ok.1 ok.2, if_neg c2, if_neg (show ¬ jw (2 + (-1)) = 0 by decide)]
          rfl
  constructor
  · obtain ⟨r, r1, r2⟩ := key1 n hn jfu (n_fu (by omega))
    unfold jd_239 jd_239_l7
    rw [r1, Option.bind_some]
    exact r2
  · obtain ⟨r, r1, r2⟩ := key2 n hn jfu (n_fu (by omega))
    unfold jd_239 jd_239_l7
    rw [r1, Option.bind_some]
    exact r2
end Heads
