/-! players -/
section Anc
variable {K P S Z Hd B : Int → Int} {cod n len fr : Int}
theorem anc_b : ∀ n : Nat, -1 ≤ anc K fr n ∧ anc K fr n < n
  | 0 => by unfold anc; omega
  | n + 1 => by
    have := anc_b n
    unfold anc
    repeat' split
    all_goals omega
theorem anc_k : ∀ n : Nat, 0 ≤ anc K fr n → K (anc K fr n) ≠ 2 ∧ fr ≤ anc K fr n
  | 0, h => by unfold anc at h; omega
  | n + 1, h => by
    have ih := anc_k n
    unfold anc at h ⊢
    by_cases c1 : (n : Int) < fr
    · rw [if_pos c1] at h
      omega
    · rw [if_neg c1] at h ⊢
      by_cases c2 : K n ≠ 2
      · rw [if_pos c2]
        exact ⟨c2, by omega⟩
      · rw [if_neg c2] at h ⊢
        exact ih h
theorem anc_p (h0 : K 0 ≠ 2) (hf : fr ≤ 0) : ∀ n : Nat, 0 < n → 0 ≤ anc K fr n
  | 0, h => by omega
  | n + 1, _ => by
    unfold anc
    rw [if_neg (by omega)]
    by_cases c2 : K n ≠ 2
    · rw [if_pos c2]
      omega
    · rw [if_neg c2]
      by_cases hn : n = 0
      · subst hn
        exact absurd h0 c2
      · exact anc_p h0 hf n (by omega)
theorem PV_first (V : PV cod n K P S Z Hd len B) : ∀ k : Nat, (k : Int) < n → P 0 ≤ P k ∧ (0 < k → P 0 < P k) := by
  obtain ⟨v1, v2, v3, v4, v5, v6, v7, W⟩ := V
  have key : ∀ N k : Nat, k < N → (k : Int) < n → P 0 ≤ P k := by
    intro N
    induction N with
    | zero => intro k h; omega
    | succ N ih =>
      intro k hk hn
      by_cases h0 : k = 0
      · subst h0
        exact Int.le_refl _
      · obtain ⟨w1, w2, w3, w4, w5, w6, w7, w8, w9, w10, w11, w12⟩ := W k (by omega) hn
        rw [Int.toNat_natCast] at w10 w11
        have a0 := anc_p (K := K) (fr := 0) (by rw [v6]; decide) (by decide) k (by omega)
        have a1 := (anc_b (K := K) (fr := 0) k).2
        by_cases c : K k = 2
        · obtain ⟨d1, d2, d3⟩ := w11 c
          have b1 := (anc_b (K := K) (fr := 0) (anc K 0 k).toNat).2
          have := ih (anc K 0 (anc K 0 k).toNat).toNat (by omega) (by omega)
          rw [Int.toNat_of_nonneg d1] at this
          omega
        · have := ih (anc K 0 k).toNat (by omega) (by omega)
          rw [Int.toNat_of_nonneg a0] at this
          have := w10 c a0
          omega
  intro k hn
  refine ⟨key (k + 1) k (by omega) hn, fun h0 => ?_⟩
  have h1 := key (k + 1) k (by omega) hn
  have h2 := (W k (by omega) hn).2.2.2.2.2.2.2.2.1 0 (by omega) (by omega)
  omega
end Anc
section Players
variable {s s' : hS} {Q Q' : hQ} {hm hm' : hO} {I I' m m' : jM} {a k : Nat} {f p q x y v z : Int}
/-- the model's cells when player k has changed -/
def My (m m' : jM) (k : Nat) : Prop := (m' 76 1 = m 76 1 ∧ m' 76 5 = m 76 5 ∧ m' 76 7 = m 76 7 ∧ m' 76 8 = m 76 8 ∧ m' 76 9 = m 76 9 ∧ m' 76 12 = m 76 12 ∧ m' 76 86 = m 76 86 ∧ m' 76 92 = m 76 92) ∧ (∀ x : Nat, (77 ≤ x ∧ x ≤ 101) ∨ (131 ≤ x ∧ x ≤ 133) ∨ (135 ≤ x ∧ x ≤ 137) → m' x = m x) ∧ (∀ x : Nat, 141 ≤ x → x ≤ 150 → ∀ z : Int, z ≠ k → m' x z = m x z) ∧ (∀ z : Int, ¬ (864 * (k : Int) ≤ z ∧ z < 864 * (k : Int) + 864) → m' 151 z = m 151 z)
theorem RelH_ply (R : RelH s Q hm I m) (hk : k < 4) (S : Sm (fun o => o ≠ 1072 + (k : Int) ∧ o ≠ 450 + (k : Int)) s Q hm I s' Q' hm' I') (L' : Lay s' Q' hm') (M : My m m' k) (P' : PlyC Q' I' m' k) (SL : Sl s' Q' hm' (Q' (72 + k) 8) (450 + (k : Int))) : RelH s' Q' hm' I' m' := by
  obtain ⟨L, r1, r2, r3, r4, r5, r6, r7, r8, r9⟩ := R
  obtain ⟨⟨m1, m5, m7, m8, m9, m12, m86, m92⟩, em, ey, ez⟩ := M
  have i0 : I' 0 = I 0 := (Lay_fr (a := 0) L S (by decide) (by omega)).2
  have i2 : I' 2 = I 2 := (Lay_fr (a := 2) L S (by decide) (by omega)).2
  have i3 : I' 3 = I 3 := (Lay_fr (a := 3) L S (by decide) (by omega)).2
  have i6 : I' 6 = I 6 := (Lay_fr (a := 6) L S (by decide) (by omega)).2
  have q5 : Q' 5 = Q 5 := (Lay_fr (a := 5) L S (by decide) (by omega)).1
  refine ⟨L', ?_, ?_, ?_, ?_, ?_, ?_, ?_, ?_, ?_⟩
  · exact RPic_fr L S (by omega) (fun i _ _ => by omega) (by rw [i0]) m1 (em 77 (by omega)) (em 78 (by omega)) (em 79 (by omega)) r1
  · exact RTap_fr (by rw [i0]) i2 m5 (em 80 (by omega)) r2
  · exact RSet_fr i3 (em 82 (by omega)) r3
  · exact RRee_fr L S (by omega) (fun i _ _ => by omega) (by rw [i0]) m7 m8 m9 (em 81 (by omega)) r4
  · exact RFil_fr L S (by omega) (fun i _ _ => by omega) (fun i _ _ => by omega) (fun i _ _ => by omega) (by rw [i0]) m12 (fun x _ _ => em x (by omega)) r5
  · exact RRow_fr (by rw [i0]) i6 m86 m12 (em 131 (by omega)) (em 132 (by omega)) (em 133 (by omega)) (em 83 (by omega)) (em 87 (by omega)) r6
  · exact RFlt_fr L S (by omega) (fun i _ _ => by omega) (by rw [i0]) m92 (em 135 (by omega)) (em 136 (by omega)) (em 137 (by omega)) r7
  · intro j hj
    by_cases hjk : j = k
    · subst hjk
      exact P'
    · obtain ⟨q2, i2⟩ := Lay_fr (a := 72 + j) L S (by omega) (by omega)
      have H := r8 j hj
      have hne : ((j : Nat) : Int) ≠ (k : Int) := by omega
      unfold PlyC at H ⊢
      rw [q5, q2, i2, m12, em 84 (by omega), em 85 (by omega), em 87 (by omega), em 88 (by omega), ey 141 (by omega) (by omega) _ hne, ey 142 (by omega) (by omega) _ hne, ey 143 (by omega) (by omega) _ hne, ey 144 (by omega) (by omega) _ hne, ey 145 (by omega) (by omega) _ hne, ey 146 (by omega) (by omega) _ hne, ey 147 (by omega) (by omega) _ hne, ey 148 (by omega) (by omega) _ hne, ey 149 (by omega) (by omega) _ hne, ey 150 (by omega) (by omega) _ hne]
      rcases H with H | ⟨h1, h2, h3, h4, h5, h6, h7, h8, h9, h10, h11, h12, h13, h14, p, hp, hx⟩
      · exact Or.inl H
      · obtain ⟨-, e1, e2⟩ := PicAt_fr S (r9.2.2 j hj p hp) (by omega)
        refine Or.inr ⟨h1, h2, h3, h4, h5, h6, h7, h8, h9, h10, h11, h12, h13, h14, p, hp, fun q => ?_⟩
        have Y := Pix_fr (hx q) e1 e2
        refine Pix_g Y (fun q k' q0 q2 k0 k1 => ?_)
        have b := pl_sz Y.2.2.1 Y.2.2.2.1 q0 q2
        exact ez _ (by omega)
  · obtain ⟨c1, c2, c3⟩ := r9
    have q43 : Q' 43 = Q 43 := (Lay_fr (a := 43) L S (by decide) (by omega)).1
    have q37 : Q' 37 = Q 37 := (Lay_fr (a := 37) L S (by decide) (by omega)).1
    unfold RMis
    rw [q43, q37]
    refine ⟨fun b hb => ⟨(c1 b hb).1, (Ce_fr S (c1 b hb).2 (by omega)).1⟩, fun k' h1 h2 => Sl_fr S (c2 k' h1 h2) (by omega), fun j hj => ?_⟩
    by_cases hjk : j = k
    · subst hjk
      exact SL
    · rw [(Lay_fr (a := 72 + j) L S (by omega) (by omega)).1]
      exact Sl_fr S (c3 j hj) (by omega)
theorem skp {k : Nat} (hk : k < 4) : Nat.blt (72 + k) 76 = true ∧ (sk (72 + k)).1 = 7 + 8 ∧ sq 8 k = some (72 + k) ∧ sq (72 + k) 0 = none ∧ sq (72 + k) 8 = none := by
  match k, hk with
  | 0, _ => exact ⟨rfl, rfl, rfl, rfl, rfl⟩
  | 1, _ => exact ⟨rfl, rfl, rfl, rfl, rfl⟩
  | 2, _ => exact ⟨rfl, rfl, rfl, rfl, rfl⟩
  | 3, _ => exact ⟨rfl, rfl, rfl, rfl, rfl⟩
/-- playerAt -/
theorem c_200 (L : Lay s Q hm) (hk : k < 4) : jd_200 0 (k : Int) (hh s Q I) = some (.inl (72 + k), hh s Q I) := by
  have e13 : Q 0 ((13 : Nat) : Int) = some 8 := Lq L rfl
  have e8 : Q 8 (k : Int) = some (72 + k) := Lq L (skp hk).2.2.1
  unfold jd_200
  rw [n_jw (by omega) (by omega), if_neg (by omega), if_pos (by omega), y_gr L 0 11 rfl rfl, Option.bind_some, e13, Option.bind_some, y_ar L 8 7 4 rfl rfl rfl (by omega) (by omega), Option.bind_some, e8, Option.bind_some]
theorem c_200n (h6 : s.1 < 1000000) (hp : okI p) (hn : ¬ (0 ≤ p ∧ p < 4)) : jd_200 0 p (hh s Q I) = some (.inr 2, jth (hh s Q I) 2) := by
  unfold jd_200 jd_200_b9
  rw [x_6 h6, Option.bind_some, n_jw hp.1 hp.2]
  by_cases h0 : p < 0
  · rw [if_pos h0]
  · rw [if_neg h0, if_neg (by omega)]
theorem k_355 (hp : okI p) : jw (jd_355 p) = if 0 ≤ p ∧ p < 4 then 1 else 0 := by
  have hp' : -2147483648 ≤ p ∧ p < 2147483648 := hp
  unfold jd_355
  rw [n_jw hp.1 hp.2, x_in (by omega) (by omega) (by decide) (by decide) (by decide) (by decide)]
  exact if_c (by omega)
/-- needFilm -/
theorem c_190 (L : Lay s Q hm) (h6 : s.1 < 1000000) (hk : k < 4) : (Q (72 + k) 0 ≠ none → jd_190 (some (72 + k)) (hh s Q I) = some (.inl (), hh s Q I)) ∧ (Q (72 + k) 0 = none → jd_190 (some (72 + k)) (hh s Q I) = some (.inr 1, jth (hh s Q I) 1)) := by
  obtain ⟨g1, g2, -⟩ := skp hk
  unfold jd_190
  rw [Option.bind_some, y_gr L (72 + k) 7 g1 g2, Option.bind_some, x_6 h6, Option.bind_some]
  refine ⟨fun h => if_neg h, fun h => if_pos h⟩
theorem c_201 (L : Lay s Q hm) (h6 : s.1 < 1000000) (hk : k < 4) : (Q (72 + k) 0 ≠ none → jd_201 0 (k : Int) (hh s Q I) = some (.inl (72 + k), hh s Q I)) ∧ (Q (72 + k) 0 = none → jd_201 0 (k : Int) (hh s Q I) = some (.inr 1, jth (hh s Q I) 1)) := by
  unfold jd_201
  rw [y_ck L 0 11 rfl rfl, Option.bind_some, c_200 L hk, b_jtb]
  refine ⟨fun h => ?_, fun h => ?_⟩
  · rw [(c_190 L h6 hk).1 h, b_jtb]
  · rw [(c_190 L h6 hk).2 h, b_jtx]
theorem ply_or (R : RelH s Q hm I m) (hk : k < 4) : (m 141 k = -1 ∧ Q (72 + k) 0 = none) ∨ (∃ a, 0 ≤ m 141 k ∧ m 141 k < m 76 12 ∧ Q (72 + k) 0 = some a ∧ Q 5 (m 141 k) = some a ∧ FilmAt s Q hm a (m 141 k) ∧ FilmC s Q I m a (m 141 k)) := by
  rcases R.2.2.2.2.2.2.2.2.1 k hk with H | ⟨h1, h2, h3, -⟩
  · exact Or.inl H
  · obtain ⟨a, ha, F, C⟩ := film_c R ⟨h1, h2⟩
    exact Or.inr ⟨a, h1, h2, h3.trans ha, ha, F, C⟩
theorem k_357 (R : RelH s Q hm I m) (hp : okI p) : (∀ k : Nat, k < 4 → p = k → m 141 k = -1 → jd_357 p m = some (1, jms m 76 0 2)) ∧ (∀ k : Nat, k < 4 → p = k → 0 ≤ m 141 k → m 141 k < 8 → jd_357 p m = some (0, jms m 76 0 0)) ∧ (¬ (0 ≤ p ∧ p < 4) → jd_357 p m = some (1, jms m 76 0 1)) := by
  have k5 := k_355 hp
  unfold jd_357 jd_357_b27
  refine ⟨fun k hk e h1 => ?_, fun k hk e h1 h2 => ?_, fun c => ?_⟩
  · rw [if_pos (by omega)] at k5
    subst e
    rw [k5, if_neg (by decide), y_ma 141 4 rfl rfl (by omega) (by omega), Option.bind_some, h1, if_pos (by decide), Option.bind_some, jms_e, if_neg (by decide)]
  · rw [if_pos (by omega)] at k5
    subst e
    rw [k5, if_neg (by decide), y_ma 141 4 rfl rfl (by omega) (by omega), Option.bind_some, n_jw (by omega) (by omega), if_neg (by omega), Option.bind_some, jms_e, if_pos (by decide)]
  · rw [if_neg c] at k5
    rw [k5, if_pos rfl, Option.bind_some, jms_e, if_neg (by decide)]
theorem si_lose (R : RelH s Q hm I m) (h6 : s.1 < 1000000) (hp : okI p) : SimV (jd_177 0 p q (hh s Q I)) (jd_360 p q m) (fun E => if E = 2 then 1 else if E = 1 then 2 else 0) s Q I := by
  have L := R.1
  by_cases c : 0 ≤ p ∧ p < 4
  · obtain ⟨k, rfl⟩ : ∃ k : Nat, p = k := ⟨p.toNat, by omega⟩
    have hk : k < 4 := by omega
    obtain ⟨g1, g2, -⟩ := skp hk
    have k5 := k_355 hp
    rw [if_pos c] at k5
    rcases ply_or R hk with ⟨h1, h2⟩ | ⟨a, h1, h2, h3, h4, F, C⟩
    · refine SimV_th (E := 1) R ?_ ?_ (by decide)
      · unfold jd_177
        rw [y_ck L 0 11 rfl rfl, Option.bind_some, (c_201 L h6 hk).2 h2, b_jtx]
      · unfold jd_360
        rw [(k_357 R hp).1 k hk rfl h1, Option.bind_some, if_neg (show ¬ jw 1 = 0 by decide)]
        rfl
    · have eC : jd_177 0 (k : Int) q (hh s Q I) = some (.inl (), hh s Q (jms I (72 + k) 7 q)) := by
        unfold jd_177
        rw [y_ck L 0 11 rfl rfl, Option.bind_some, (c_201 L h6 hk).1 (by rw [h3]; simp), b_jtb, y_pi L (72 + k) 7 g1 g2, Option.bind_some]
        rfl
      have eM : jd_360 (k : Int) q m = some (jms (jms m 76 0 0) 150 k q) := by
        unfold jd_360
        have n8 := R.2.2.2.2.2.1.2.2.1
        rw [(k_357 R hp).2.1 k hk rfl h1 (by omega), Option.bind_some, if_pos (show jw 0 = 0 by decide), y_mw 150 4 rfl rfl (by omega) (by omega), Option.bind_some]
      have S : Sm (fun o => o ≠ 1072 + (k : Int) ∧ o ≠ 450 + (k : Int)) s Q hm I s Q hm (jms I (72 + k) 7 q) := Sm_jms (by rw [Lo L g1]; omega)
      refine Or.inl ⟨s, Q, _, _, eC, eM, rfl, Kp_of L S (fun i _ _ => by omega), Gr_refl, hm, ?_⟩
      refine RelH_ply R hk S L ⟨⟨rfl, rfl, rfl, rfl, rfl, rfl, rfl, rfl⟩, fun x hx => (jms_o (by omega)).trans (jms_o (by omega)), fun x h1 h2 z hz => ?_, fun z hz => rfl⟩ ?_ (R.2.2.2.2.2.2.2.2.2.2.2 k hk)
      · by_cases hx : x = 150
        · subst hx
          rw [jms_i hz]
          rfl
        · rw [jms_o hx, jms_o (by omega)]
      · rcases R.2.2.2.2.2.2.2.2.1 k hk with H | ⟨p1, p2, p3, p4, p5, p6, p7, p8, p9, p10, p11, p12, p13, p14, d, hd, hx⟩
        · exact absurd H.1 (by omega)
        · have j : ∀ z : Int, z ≠ 7 → jms I (72 + k) 7 q (72 + k) z = I (72 + k) z := fun z hz => jms_i hz
          have b9 := R.2.2.2.2.2.2.2.2.2.2.2 k hk d hd
          refine Or.inr ⟨p1, p2, p3, (j _ (by decide)).trans p4, (j _ (by decide)).trans p5, (j _ (by decide)).trans p6, by rw [j _ (by decide)]; exact p7, (j _ (by decide)).trans p8, (j _ (by decide)).trans p9, ?_, (j _ (by decide)).trans p11, (j _ (by decide)).trans p12, (j _ (by decide)).trans p13, p14, d, hd, fun e => Pix_fr (hx e) (jms_o (by have := b9.1; omega)) (jms_o (by have := b9.1; omega))⟩
          rw [jms_e, jms_e]
  · have k5 := k_355 hp
    rw [if_neg c] at k5
    refine SimV_th (E := 2) R ?_ ?_ (by decide)
    · unfold jd_177 jd_201
      rw [y_ck L 0 11 rfl rfl, Option.bind_some, Option.bind_some, c_200n h6 hp c, b_jtx, b_jtx]
    · unfold jd_360
      rw [(k_357 R hp).2.2 c, Option.bind_some, if_neg (show ¬ jw 1 = 0 by decide)]
      rfl
theorem si_player (R : RelH s Q hm I m) (h6 : s.1 < 1000000) (hp : okI p) (hq : okI q) : SimI (jd_179 0 p q (hh s Q I)) (jd_362 p q m) (fun E => if E = 2 then 1 else if E = 0 then 2 else if E = 1 then 3 else 0) s Q I := by
  have L := R.1
  have hq' : -2147483648 ≤ q ∧ q < 2147483648 := hq
  have i2 := x_in (x := q) (lo := 0) (hi := 5) (by omega) (by omega) (by decide) (by decide) (by decide) (by decide)
  have o5 : okI 5 := by unfold okI; omega
  have k5 := k_355 hp
  by_cases c : 0 ≤ p ∧ p < 4
  · rw [if_pos c] at k5
    obtain ⟨k, rfl⟩ : ∃ k : Nat, p = k := ⟨p.toNat, by omega⟩
    have hk : k < 4 := by omega
    obtain ⟨g1, g2, -⟩ := skp hk
    by_cases c2 : 0 ≤ q ∧ q ≤ 5
    · rcases R.2.2.2.2.2.2.2.2.1 k hk with ⟨h1, h2⟩ | ⟨p1, p2, p3, p4, p5, p6, p7, p8, p9, p10, -⟩
      · refine SimI_th (E := 1) (b := 0) R ?_ ?_ (by decide)
        · unfold jd_179
          rw [y_ck L 0 11 rfl rfl, Option.bind_some, c_200 L hk, b_jtb, (c_185 hq o5 _).1 c2, b_jtb, (c_190 L h6 hk).2 h2, b_jtx]
        · unfold jd_362 jd_362_b43
          rw [k5, if_neg (by decide), n_jw hq.1 hq.2, i2, if_pos c2, if_neg (by decide), y_ma 141 4 rfl rfl (by omega) (by omega), Option.bind_some, h1, if_pos (show jw (-1) = -1 by decide), Option.bind_some, jms_e, if_neg (by decide)]
          rfl
      · obtain ⟨a, ha, F, C⟩ := film_c R ⟨p1, p2⟩
        have n8 := R.2.2.2.2.2.1.2.2.1
        have hC : jd_179 0 (k : Int) q (hh s Q I) = some (.inl (if q = 0 then m 141 k else if q = 1 then m 144 k else if q = 2 then m 146 k else if q = 3 then (if jw (m 147 k % 2) = 0 then 0 else 1) else if q = 4 then m 148 k else m 149 k), hh s Q I) := by
          unfold jd_179
          have g := fun j : Nat => y_gi (R := Q) (I := I) (k := j) L (72 + k) 7 g1 g2
          have gb := y_gb (R := Q) (I := I) (k := 4) L (72 + k) 7 g1 g2
          have e1 : I (72 + k) ((1 : Nat) : Int) = m 141 k := p4
          have e2 : I (72 + k) ((2 : Nat) : Int) = m 144 k := p5
          have e3 : I (72 + k) ((3 : Nat) : Int) = m 146 k := p6
          have e4 : I (72 + k) ((4 : Nat) : Int) % 2 = m 147 k % 2 := p7
          have e5 : I (72 + k) ((5 : Nat) : Int) = m 148 k := p8
          have e6 : I (72 + k) ((6 : Nat) : Int) = m 149 k := p9
          rw [y_ck L 0 11 rfl rfl, Option.bind_some, c_200 L hk, b_jtb, (c_185 hq o5 _).1 c2, b_jtb, (c_190 L h6 hk).1 (by rw [p3, ha]; simp), b_jtb, n_jw hq.1 hq.2, g, g, g, gb, g, g, e1, e2, e3, e4, e5, e6]
          have hp6 : q = 0 ∨ q = 1 ∨ q = 2 ∨ q = 3 ∨ q = 4 ∨ q = 5 := by omega
          rcases hp6 with rfl | rfl | rfl | rfl | rfl | rfl <;> rfl
        have hM : jd_362 (k : Int) q m = some ((if q = 0 then m 141 k else if q = 1 then m 144 k else if q = 2 then m 146 k else if q = 3 then (if jw (m 147 k % 2) = 0 then 0 else 1) else if q = 4 then m 148 k else m 149 k), jms m 76 0 0) := by
          unfold jd_362 jd_362_b43
          have z0 : (0 : Int) ≤ (k : Int) := by omega
          have z1 : (k : Int) < ((4 : Nat) : Int) := by omega
          rw [k5, if_neg (by decide), n_jw hq.1 hq.2, i2, if_pos c2, if_neg (by decide), y_ma 141 4 rfl rfl z0 z1, Option.bind_some, n_jw (z := m 141 k) (by omega) (by omega), if_neg (by omega), Option.bind_some, jms_e, if_pos (by decide), y_ma 141 4 rfl rfl z0 z1, y_ma 144 4 rfl rfl z0 z1, y_ma 146 4 rfl rfl z0 z1, y_mz 147 4 rfl rfl z0 z1, y_ma 148 4 rfl rfl z0 z1, y_ma 149 4 rfl rfl z0 z1]
          have hp6 : q = 0 ∨ q = 1 ∨ q = 2 ∨ q = 3 ∨ q = 4 ∨ q = 5 := by omega
          rcases hp6 with rfl | rfl | rfl | rfl | rfl | rfl <;> rfl
        exact SimI_id R hC hM rfl
    · refine SimI_th (E := 0) (b := 0) R ?_ ?_ (by decide)
      · unfold jd_179
        rw [y_ck L 0 11 rfl rfl, Option.bind_some, c_200 L hk, b_jtb, (c_185 hq o5 _).2 c2 h6, b_jtx]
      · unfold jd_362 jd_362_b43
        rw [k5, if_neg (by decide), n_jw hq.1 hq.2, i2, if_neg c2, if_pos rfl, Option.bind_some, jms_e, if_neg (by decide)]
        rfl
  · rw [if_neg c] at k5
    refine SimI_th (E := 2) (b := 0) R ?_ ?_ (by decide)
    · unfold jd_179
      rw [y_ck L 0 11 rfl rfl, Option.bind_some, c_200n h6 hp c, b_jtx]
    · unfold jd_362 jd_362_b43
      rw [k5, if_pos rfl, Option.bind_some, jms_e, if_neg (by decide)]
      rfl
end Players
