/-! all vectors of a part -/
section Vecs
variable {s : hS} {Q : hQ} {hm : hO} {I m : jM} {A : Nat} {base i en md k q x3 g0 g1 g2 g3 : Int}
theorem b245_br {m : jM} {f : Int} (hb : m 76 52 = f) (f0 : 1 ≤ f) (f1 : f ≤ 7) : jd_265_b245 k q x3 m = some m := by
  have l : jd_265_l248 k q x3 0 m = some m := by
    unfold jd_265_l248
    refine jlp_1 (f := fun u : (Int × jM) => jd_265_s248 k q x3 u.1 u.2) (t := (0, m)) ?_ _
    dsimp only
    unfold jd_265_s248
    rw [if_neg (by decide), if_neg (br_0 hb f0 f1)]
  unfold jd_265_b245 jd_265_b280
  rw [l, Option.bind_some, if_neg (br_1 hb f0 f1)]
theorem b185_br {m : jM} {f : Int} (hb : m 76 52 = f) (f0 : 1 ≤ f) (f1 : f ≤ 7) : jd_265_b185 k q x3 m = some m := by
  unfold jd_265_b185
  rw [if_neg (br_0 hb f0 f1)]
  exact b245_br hb f0 f1
/-- what the neighbour on the left says -/
def OnL (m : jM) (k q g0 g1 g2 g3 : Int) : Prop := ∀ m' : jM, m' 111 = m 111 → m' 76 33 = m 76 33 → jd_260 k q 1 m' = some g0 ∧ jd_260 k q 2 m' = some g1 ∧ jd_260 k q 3 m' = some g2 ∧ jd_260 k q 4 m' = some g3
/-- the model from the vectors on -/
def vM (k q x3 : Int) (m : jM) : Option jM := if (jw (m 76 61)) = 3 then jd_265_b148 k q x3 m else (if (jw (m 76 61)) = 5 then jd_265_b148 k q x3 m else jd_265_b185 k q x3 m)
def hwn (md : Int) : Int := if 4 ≤ md then md - 4 else if md = 1 then 3 else if md = 2 then 4 else 5
theorem vecs (L : Lay s Q hm) (h6 : s.1 ≤ 1000000) (R : BM s Q I m 10 A base i en) (d1 : 1 ≤ md) (d6 : md ≤ 6) (e61 : m 76 61 = hwn md) (z2 : m 76 62 = 0) (z3 : m 76 63 = 0) (z4 : m 76 64 = 0) (z5 : m 76 65 = 0) (e0 : I 17 0 = g0) (e1 : I 17 1 = g1) (e2 : I 17 2 = g2) (e3 : I 17 3 = g3) (b0 : -16 ≤ g0 ∧ g0 ≤ 16) (b1 : -16 ≤ g1 ∧ g1 ≤ 16) (b2 : -16 ≤ g2 ∧ g2 ≤ 16) (b3 : -16 ≤ g3 ∧ g3 ≤ 16) (O : OnL m k q g0 g1 g2 g3) : (∃ (V : Int → Int) (I' m' : jM) (i' : Int), jd_119_l2 9 md 0 (hh s Q I) = some (.inr (.inr (hh s Q I'))) ∧ vM k q x3 m = jd_265_b245 k q x3 m' ∧ fX I I' ∧ (∀ a : Nat, a ≠ 76 → m' a = m a) ∧ (∀ j : Int, j < 51 ∨ (52 < j ∧ j < 62) ∨ 65 < j → m' 76 j = m 76 j) ∧ m' 76 62 = V 0 ∧ m' 76 63 = V 1 ∧ m' 76 64 = V 2 ∧ m' 76 65 = V 3 ∧ (∀ j : Int, 0 ≤ j → j < 4 → -16 ≤ V j ∧ V j ≤ 16 ∧ (¬ jw (jd_77 md j) = 0 → I' 41 j = V j) ∧ (jw (jd_77 md j) = 0 → V j = 0)) ∧ BM s Q I' m' 10 A base i' en) ∨ (∃ f X I' m', 1 ≤ f ∧ f ≤ 7 ∧ jd_119_l2 9 md 0 (hh s Q I) = some X ∧ rdV X f (hh s Q I') ∧ fX I I' ∧ vM k q x3 m = some m' ∧ m' 76 52 = f ∧ (∀ a : Nat, a ≠ 76 → m' a = m a) ∧ (∀ j : Int, j < 51 ∨ (52 < j ∧ j < 62) ∨ 65 < j → m' 76 j = m 76 j)) := by
  have ex : ∀ J : jM, jd_119_s2 9 md 4 (hh s Q J) = some (.inr (.inr (.inr (hh s Q J)))) := fun J => by
    unfold jd_119_s2
    rw [if_pos (by decide)]
  have fu : jfu = 99999995 + 1 + 2 + 2 := rfl
  have hmd : md = 1 ∨ md = 2 ∨ md = 3 ∨ 4 ≤ md := by omega
  unfold jd_119_l2
  rcases hmd with rfl | rfl | rfl | c4
  · -- forward
    have h61 : m 76 61 = 3 := e61
    have hv : vM k q x3 m = jd_265_b148 k q x3 m := by
      unfold vM
      rw [if_pos (show jw (m 76 61) = 3 by rw [h61]; rfl)]
    rcases vec2 (md := 1) (x := 0) (fa := 62) L h6 R (by decide) (by decide) (by decide) (by decide) e0 e1 b0.1 b0.2 b1.1 b1.2 (by decide) (by decide) with ⟨va, vb, I', m', i', p1, p2, p3, p4, p5, p6, p7, ⟨m1, p8, p9, p10, p11⟩, p12, p13, p14, p15⟩ | ⟨f, X, I', p1, p2, p3, p4, p5, p6⟩
    · left
      have o1 := (O m rfl rfl).1
      have o2 := (O (jms m1 76 62 va) ((jms_o (by decide)).trans (p9.1 111 (by decide))) ((jms_i (by decide)).trans (p9.2 33 (by decide)))).2.1
      have m61 : jms m' 76 63 vb 76 61 = 3 := by rw [jms_i (by decide), p13 61 (by decide) (by decide)]; exact h61
      have Rf : BM s Q I' (jms m' 76 63 vb) 10 A base i' en := BM_fr p15 rfl rfl rfl (jms_i (by decide)) (jms_i (by decide)) (jms_i (by decide)) (jms_i (by decide)) (jms_o (by decide))
      refine ⟨fun j => if j = 0 then va else if j = 1 then vb else 0, I', jms m' 76 63 vb, i', ?_, ?_, p6, fun a ha => by rw [jms_o ha]; exact p12 a ha, fun j hj => by rw [jms_i (by omega)]; exact p13 j (by omega) (by omega), by rw [jms_i (by decide), p14]; rfl, by rw [jms_e]; rfl, by rw [jms_i (by decide), p13 64 (by decide) (by decide), z4]; rfl, by rw [jms_i (by decide), p13 65 (by decide) (by decide), z5]; rfl, fun j j0 j1 => ?_, Rf⟩
      · rw [fu, p5, show 99999995 + 1 + 2 = 99999995 + 1 + 1 + 1 from rfl, show (0 : Int) + 1 + 1 = 2 from rfl, jlp_i (f := fun u : (Int × jH) => jd_119_s2 9 1 u.1 u.2) (vec0 (x := 2) (by decide) (by decide) (by decide)), jlp_i (f := fun u : (Int × jH) => jd_119_s2 9 1 u.1 u.2) (vec0 (x := 2 + 1) (by decide) (by decide) (by decide))]
        exact jlp_r (ex I')
      · rw [hv]
        unfold jd_265_b148
        rw [o1, Option.bind_some, p8, Option.bind_some, Option.bind_some]
        dsimp only
        rw [if_pos (show jw (jms m1 76 62 va 76 52) = 0 by rw [jms_i (by decide), p10]; rfl), o2, Option.bind_some, p11, Option.bind_some, Option.bind_some]
        dsimp only
        unfold jd_265_b185
        rw [if_pos (BM_b0 Rf), if_neg (show ¬ jw (jms m' 76 63 vb 76 61) = 4 by rw [m61]; decide), if_neg (show ¬ jw (jms m' 76 63 vb 76 61) = 5 by rw [m61]; decide)]
      · have hj : j = 0 ∨ j = 1 ∨ j = 2 ∨ j = 3 := by omega
        rcases hj with rfl | rfl | rfl | rfl
        · exact ⟨p1, p2, fun _ => by rw [p7, jiu_o (by decide), jiu_e]; rfl, fun e => absurd e (by decide)⟩
        · exact ⟨p3, p4, fun _ => by rw [p7, show (0 : Int) + 1 = 1 from rfl, jiu_e]; rfl, fun e => absurd e (by decide)⟩
        · exact ⟨by show (-16 : Int) ≤ 0; decide, by show (0 : Int) ≤ 16; decide, fun e => absurd (by decide) e, fun _ => rfl⟩
        · exact ⟨by show (-16 : Int) ≤ 0; decide, by show (0 : Int) ≤ 16; decide, fun e => absurd (by decide) e, fun _ => rfl⟩
    · right
      have o1 := (O m rfl rfl).1
      rcases p6 with ⟨v, m1, k1, k2, k3⟩ | ⟨va, m1, vb, m2, k1, k2, k3, k4, k5, k6⟩
      · refine ⟨f, X, I', jms m1 76 62 v, p1, p2, by rw [fu]; exact p3 _, p4, p5, ?_, by rw [jms_i (by decide)]; exact k2, fun a ha => by rw [jms_o ha]; exact k3.1 a ha, fun j hj => by rw [jms_i (by omega)]; exact k3.2 j (by omega)⟩
        rw [hv]
        unfold jd_265_b148
        rw [o1, Option.bind_some, k1, Option.bind_some, Option.bind_some]
        dsimp only
        have hb : jms m1 76 62 v 76 52 = f := by rw [jms_i (by decide)]; exact k2
        rw [if_neg (br_0 hb p1 p2)]
        exact b185_br hb p1 p2
      · have o2 := (O (jms m1 76 62 va) ((jms_o (by decide)).trans (k3.1 111 (by decide))) ((jms_i (by decide)).trans (k3.2 33 (by decide)))).2.1
        have hb : jms m2 76 63 vb 76 52 = f := by rw [jms_i (by decide)]; exact k5
        refine ⟨f, X, I', jms m2 76 63 vb, p1, p2, by rw [fu]; exact p3 _, p4, p5, ?_, hb, fun a ha => by rw [jms_o ha, k6.1 a ha, jms_o ha]; exact k3.1 a ha, fun j hj => by rw [jms_i (by omega), k6.2 j (by omega), jms_i (by omega)]; exact k3.2 j (by omega)⟩
        rw [hv]
        unfold jd_265_b148
        rw [o1, Option.bind_some, k1, Option.bind_some, Option.bind_some]
        dsimp only
        rw [if_pos (show jw (jms m1 76 62 va 76 52) = 0 by rw [jms_i (by decide), k2]; rfl), o2, Option.bind_some, k4, Option.bind_some, Option.bind_some]
        exact b185_br hb p1 p2
  · -- backward
    have h61 : m 76 61 = 4 := e61
    have hv : vM k q x3 m = jd_265_b208 k q x3 m := by
      unfold vM jd_265_b185
      rw [if_neg (show ¬ jw (m 76 61) = 3 by rw [h61]; decide), if_neg (show ¬ jw (m 76 61) = 5 by rw [h61]; decide), if_pos (BM_b0 R), if_pos (show jw (m 76 61) = 4 by rw [h61]; rfl)]
    have st : ∀ e, jlp (fun u : (Int × jH) => jd_119_s2 9 2 u.1 u.2) (e + 2 + 2) (0, hh s Q I) = jlp (fun u : (Int × jH) => jd_119_s2 9 2 u.1 u.2) (e + 2) (2, hh s Q I) := fun e => by
      rw [show e + 2 + 2 = e + 2 + 1 + 1 from rfl, jlp_i (f := fun u : (Int × jH) => jd_119_s2 9 2 u.1 u.2) (vec0 (x := 0) (by decide) (by decide) (by decide)), jlp_i (f := fun u : (Int × jH) => jd_119_s2 9 2 u.1 u.2) (vec0 (x := 0 + 1) (by decide) (by decide) (by decide))]
      rfl
    rcases vec2 (md := 2) (x := 2) (fa := 64) L h6 R (by decide) (by decide) (by decide) (by decide) e2 e3 b2.1 b2.2 b3.1 b3.2 (by decide) (by decide) with ⟨va, vb, I', m', i', p1, p2, p3, p4, p5, p6, p7, ⟨m1, p8, p9, p10, p11⟩, p12, p13, p14, p15⟩ | ⟨f, X, I', p1, p2, p3, p4, p5, p6⟩
    · left
      have o1 := (O m rfl rfl).2.2.1
      have o2 := (O (jms m1 76 64 va) ((jms_o (by decide)).trans (p9.1 111 (by decide))) ((jms_i (by decide)).trans (p9.2 33 (by decide)))).2.2.2
      have Rf : BM s Q I' (jms m' 76 65 vb) 10 A base i' en := BM_fr p15 rfl rfl rfl (jms_i (by decide)) (jms_i (by decide)) (jms_i (by decide)) (jms_i (by decide)) (jms_o (by decide))
      refine ⟨fun j => if j = 2 then va else if j = 3 then vb else 0, I', jms m' 76 65 vb, i', ?_, ?_, p6, fun a ha => by rw [jms_o ha]; exact p12 a ha, fun j hj => by rw [jms_i (by omega)]; exact p13 j (by omega) (by omega), by rw [jms_i (by decide), p13 62 (by decide) (by decide), z2]; rfl, by rw [jms_i (by decide), p13 63 (by decide) (by decide), z3]; rfl, by rw [jms_i (by decide), p14]; rfl, by rw [jms_e]; rfl, fun j j0 j1 => ?_, Rf⟩
      · rw [fu, st, p5]
        exact jlp_r (ex I')
      · rw [hv]
        unfold jd_265_b208
        rw [o1, Option.bind_some, p8, Option.bind_some, Option.bind_some]
        dsimp only
        rw [if_pos (show jw (jms m1 76 64 va 76 52) = 0 by rw [jms_i (by decide), p10]; rfl), o2, Option.bind_some, p11, Option.bind_some, Option.bind_some]
      · have hj : j = 0 ∨ j = 1 ∨ j = 2 ∨ j = 3 := by omega
        rcases hj with rfl | rfl | rfl | rfl
        · exact ⟨by show (-16 : Int) ≤ 0; decide, by show (0 : Int) ≤ 16; decide, fun e => absurd (by decide) e, fun _ => rfl⟩
        · exact ⟨by show (-16 : Int) ≤ 0; decide, by show (0 : Int) ≤ 16; decide, fun e => absurd (by decide) e, fun _ => rfl⟩
        · exact ⟨p1, p2, fun _ => by rw [p7, jiu_o (by decide), jiu_e]; rfl, fun e => absurd e (by decide)⟩
        · exact ⟨p3, p4, fun _ => by rw [p7, show (2 : Int) + 1 = 3 from rfl, jiu_e]; rfl, fun e => absurd e (by decide)⟩
    · right
      have o1 := (O m rfl rfl).2.2.1
      rcases p6 with ⟨v, m1, k1, k2, k3⟩ | ⟨va, m1, vb, m2, k1, k2, k3, k4, k5, k6⟩
      · have hb : jms m1 76 64 v 76 52 = f := by rw [jms_i (by decide)]; exact k2
        refine ⟨f, X, I', jms m1 76 64 v, p1, p2, by rw [fu, st]; exact p3 _, p4, p5, ?_, hb, fun a ha => by rw [jms_o ha]; exact k3.1 a ha, fun j hj => by rw [jms_i (by omega)]; exact k3.2 j (by omega)⟩
        rw [hv]
        unfold jd_265_b208
        rw [o1, Option.bind_some, k1, Option.bind_some, Option.bind_some]
        dsimp only
        rw [if_neg (br_0 hb p1 p2)]
        exact b245_br hb p1 p2
      · have o2 := (O (jms m1 76 64 va) ((jms_o (by decide)).trans (k3.1 111 (by decide))) ((jms_i (by decide)).trans (k3.2 33 (by decide)))).2.2.2
        have hb : jms m2 76 65 vb 76 52 = f := by rw [jms_i (by decide)]; exact k5
        refine ⟨f, X, I', jms m2 76 65 vb, p1, p2, by rw [fu, st]; exact p3 _, p4, p5, ?_, hb, fun a ha => by rw [jms_o ha, k6.1 a ha, jms_o ha]; exact k3.1 a ha, fun j hj => by rw [jms_i (by omega), k6.2 j (by omega), jms_i (by omega)]; exact k3.2 j (by omega)⟩
        rw [hv]
        unfold jd_265_b208
        rw [o1, Option.bind_some, k1, Option.bind_some, Option.bind_some]
        dsimp only
        rw [if_pos (show jw (jms m1 76 64 va 76 52) = 0 by rw [jms_i (by decide), k2]; rfl), o2, Option.bind_some, k4, Option.bind_some, Option.bind_some]
        exact b245_br hb p1 p2
  · -- both
    have h61 : m 76 61 = 5 := e61
    have hv : vM k q x3 m = jd_265_b148 k q x3 m := by
      unfold vM
      rw [if_neg (show ¬ jw (m 76 61) = 3 by rw [h61]; decide), if_pos (show jw (m 76 61) = 5 by rw [h61]; rfl)]
    rcases vec2 (md := 3) (x := 0) (fa := 62) L h6 R (by decide) (by decide) (by decide) (by decide) e0 e1 b0.1 b0.2 b1.1 b1.2 (by decide) (by decide) with ⟨va, vb, I', m', i', p1, p2, p3, p4, p5, p6, p7, ⟨m1, p8, p9, p10, p11⟩, p12, p13, p14, p15⟩ | ⟨f, X, I', p1, p2, p3, p4, p5, p6⟩
    · have o1 := (O m rfl rfl).1
      have o2 := (O (jms m1 76 62 va) ((jms_o (by decide)).trans (p9.1 111 (by decide))) ((jms_i (by decide)).trans (p9.2 33 (by decide)))).2.1
      obtain ⟨M, hM⟩ : ∃ z, z = jms m' 76 63 vb := ⟨_, rfl⟩
      have Ma : ∀ a : Nat, a ≠ 76 → M a = m a := fun a ha => by rw [hM, jms_o ha]; exact p12 a ha
      have M7 : ∀ j : Int, j < 51 ∨ (52 < j ∧ j < 62) ∨ 63 < j → M 76 j = m 76 j := fun j hj => by rw [hM, jms_i (by omega)]; exact p13 j (by omega) (by omega)
      have M62 : M 76 62 = va := by rw [hM, jms_i (by decide)]; exact p14
      have M63 : M 76 63 = vb := by rw [hM]; exact jms_e
      have Rf : BM s Q I' M 10 A base i' en := by
        rw [hM]
        exact BM_fr p15 rfl rfl rfl (jms_i (by decide)) (jms_i (by decide)) (jms_i (by decide)) (jms_i (by decide)) (jms_o (by decide))
      have m61 : M 76 61 = 5 := (M7 61 (by decide)).trans h61
      have hv2 : vM k q x3 m = jd_265_b208 k q x3 M := by
        rw [hv]
        unfold jd_265_b148
        rw [o1, Option.bind_some, p8, Option.bind_some, Option.bind_some]
        dsimp only
        rw [if_pos (show jw (jms m1 76 62 va 76 52) = 0 by rw [jms_i (by decide), p10]; rfl), o2, Option.bind_some, p11, Option.bind_some, Option.bind_some, ← hM]
        unfold jd_265_b185
        rw [if_pos (BM_b0 Rf), if_neg (show ¬ jw (M 76 61) = 4 by rw [m61]; decide), if_pos (show jw (M 76 61) = 5 by rw [m61]; rfl)]
      rcases vec2 (md := 3) (x := 2) (fa := 64) L h6 Rf (by decide) (by decide) (by decide) (by decide) (ga := g2) (gb := g3) (by rw [p6 17 (by decide) (by decide)]; exact e2) (by rw [p6 17 (by decide) (by decide)]; exact e3) b2.1 b2.2 b3.1 b3.2 (by decide) (by decide) with ⟨vc, vd, I2, m2, i2, s1, s2, s3, s4, s5, s6, s7, ⟨m3, s8, s9, s10, s11⟩, s12, s13, s14, s15⟩ | ⟨f, X, I2, s1, s2, s3, s4, s5, s6⟩
      · left
        have o3 := (O M (Ma 111 (by decide)) (M7 33 (by decide))).2.2.1
        have o4 := (O (jms m3 76 64 vc) ((jms_o (by decide)).trans ((s9.1 111 (by decide)).trans (Ma 111 (by decide)))) ((jms_i (by decide)).trans ((s9.2 33 (by decide)).trans (M7 33 (by decide))))).2.2.2
        have Rg : BM s Q I2 (jms m2 76 65 vd) 10 A base i2 en := BM_fr s15 rfl rfl rfl (jms_i (by decide)) (jms_i (by decide)) (jms_i (by decide)) (jms_i (by decide)) (jms_o (by decide))
        refine ⟨fun j => if j = 0 then va else if j = 1 then vb else if j = 2 then vc else vd, I2, jms m2 76 65 vd, i2, ?_, ?_, fun a h1 h2 => (s6 a h1 h2).trans (p6 a h1 h2), fun a ha => by rw [jms_o ha, s12 a ha]; exact Ma a ha, fun j hj => by rw [jms_i (by omega), s13 j (by omega) (by omega)]; exact M7 j (by omega), by rw [jms_i (by decide), s13 62 (by decide) (by decide), M62]; rfl, by rw [jms_i (by decide), s13 63 (by decide) (by decide), M63]; rfl, by rw [jms_i (by decide), s14]; rfl, by rw [jms_e]; rfl, fun j j0 j1 => ?_, Rg⟩
        · rw [fu, p5, show (0 : Int) + 1 + 1 = 2 from rfl, s5]
          exact jlp_r (ex I2)
        · rw [hv2]
          unfold jd_265_b208
          rw [o3, Option.bind_some, s8, Option.bind_some, Option.bind_some]
          dsimp only
          rw [if_pos (show jw (jms m3 76 64 vc 76 52) = 0 by rw [jms_i (by decide), s10]; rfl), o4, Option.bind_some, s11, Option.bind_some, Option.bind_some]
        · have hj : j = 0 ∨ j = 1 ∨ j = 2 ∨ j = 3 := by omega
          rcases hj with rfl | rfl | rfl | rfl
          · exact ⟨p1, p2, fun _ => by rw [s7, jiu_o (by decide), jiu_o (by decide), p7, jiu_o (by decide), jiu_e]; rfl, fun e => absurd e (by decide)⟩
          · exact ⟨p3, p4, fun _ => by rw [s7, jiu_o (by decide), jiu_o (by decide), p7, show (0 : Int) + 1 = 1 from rfl, jiu_e]; rfl, fun e => absurd e (by decide)⟩
          · exact ⟨s1, s2, fun _ => by rw [s7, jiu_o (by decide), jiu_e]; rfl, fun e => absurd e (by decide)⟩
          · exact ⟨s3, s4, fun _ => by rw [s7, show (2 : Int) + 1 = 3 from rfl, jiu_e]; rfl, fun e => absurd e (by decide)⟩
      · right
        have o3 := (O M (Ma 111 (by decide)) (M7 33 (by decide))).2.2.1
        rcases s6 with ⟨v, m3, k1, k2, k3⟩ | ⟨vc, m3, vd, m4, k1, k2, k3, k4, k5, k6⟩
        · have hb : jms m3 76 64 v 76 52 = f := by rw [jms_i (by decide)]; exact k2
          refine ⟨f, X, I2, jms m3 76 64 v, s1, s2, by rw [fu, p5]; exact s3 _, s4, fun a h1 h2 => (s5 a h1 h2).trans (p6 a h1 h2), ?_, hb, fun a ha => by rw [jms_o ha, k3.1 a ha]; exact Ma a ha, fun j hj => by rw [jms_i (by omega), k3.2 j (by omega)]; exact M7 j (by omega)⟩
          rw [hv2]
          unfold jd_265_b208
          rw [o3, Option.bind_some, k1, Option.bind_some, Option.bind_some]
          dsimp only
          rw [if_neg (br_0 hb s1 s2)]
          exact b245_br hb s1 s2
        · have o4 := (O (jms m3 76 64 vc) ((jms_o (by decide)).trans ((k3.1 111 (by decide)).trans (Ma 111 (by decide)))) ((jms_i (by decide)).trans ((k3.2 33 (by decide)).trans (M7 33 (by decide))))).2.2.2
          have hb : jms m4 76 65 vd 76 52 = f := by rw [jms_i (by decide)]; exact k5
          refine ⟨f, X, I2, jms m4 76 65 vd, s1, s2, by rw [fu, p5]; exact s3 _, s4, fun a h1 h2 => (s5 a h1 h2).trans (p6 a h1 h2), ?_, hb, fun a ha => by rw [jms_o ha, k6.1 a ha, jms_o ha, k3.1 a ha]; exact Ma a ha, fun j hj => by rw [jms_i (by omega), k6.2 j (by omega), jms_i (by omega), k3.2 j (by omega)]; exact M7 j (by omega)⟩
          rw [hv2]
          unfold jd_265_b208
          rw [o3, Option.bind_some, k1, Option.bind_some, Option.bind_some]
          dsimp only
          rw [if_pos (show jw (jms m3 76 64 vc 76 52) = 0 by rw [jms_i (by decide), k2]; rfl), o4, Option.bind_some, k4, Option.bind_some, Option.bind_some]
          exact b245_br hb s1 s2
    · right
      have o1 := (O m rfl rfl).1
      rcases p6 with ⟨v, m1, k1, k2, k3⟩ | ⟨va, m1, vb, m2, k1, k2, k3, k4, k5, k6⟩
      · have hb : jms m1 76 62 v 76 52 = f := by rw [jms_i (by decide)]; exact k2
        refine ⟨f, X, I', jms m1 76 62 v, p1, p2, by rw [fu]; exact p3 _, p4, p5, ?_, hb, fun a ha => by rw [jms_o ha]; exact k3.1 a ha, fun j hj => by rw [jms_i (by omega)]; exact k3.2 j (by omega)⟩
        rw [hv]
        unfold jd_265_b148
        rw [o1, Option.bind_some, k1, Option.bind_some, Option.bind_some]
        dsimp only
        rw [if_neg (br_0 hb p1 p2)]
        exact b185_br hb p1 p2
      · have o2 := (O (jms m1 76 62 va) ((jms_o (by decide)).trans (k3.1 111 (by decide))) ((jms_i (by decide)).trans (k3.2 33 (by decide)))).2.1
        have hb : jms m2 76 63 vb 76 52 = f := by rw [jms_i (by decide)]; exact k5
        refine ⟨f, X, I', jms m2 76 63 vb, p1, p2, by rw [fu]; exact p3 _, p4, p5, ?_, hb, fun a ha => by rw [jms_o ha, k6.1 a ha, jms_o ha]; exact k3.1 a ha, fun j hj => by rw [jms_i (by omega), k6.2 j (by omega), jms_i (by omega)]; exact k3.2 j (by omega)⟩
        rw [hv]
        unfold jd_265_b148
        rw [o1, Option.bind_some, k1, Option.bind_some, Option.bind_some]
        dsimp only
        rw [if_pos (show jw (jms m1 76 62 va 76 52) = 0 by rw [jms_i (by decide), k2]; rfl), o2, Option.bind_some, k4, Option.bind_some, Option.bind_some]
        exact b185_br hb p1 p2
  · -- none
    left
    have n77 : ∀ j : Int, 0 ≤ j → j < 4 → jw (jd_77 md j) = 0 := fun j j0 j1 => by
      have : ∀ (a : Fin 7) (b : Fin 4), 4 ≤ a.val → jw (jd_77 (a.val : Int) (b.val : Int)) = 0 := by decide
      have := this ⟨md.toNat, by omega⟩ ⟨j.toNat, by omega⟩ (by show 4 ≤ md.toNat; omega)
      dsimp only at this
      rw [show ((md.toNat : Nat) : Int) = md by omega, show ((j.toNat : Nat) : Int) = j by omega] at this
      exact this
    have h61 : m 76 61 = md - 4 := by rw [e61]; unfold hwn; exact if_pos c4
    refine ⟨fun _ => 0, I, m, i, ?_, ?_, fun _ _ _ => rfl, fun _ _ => rfl, fun _ _ => rfl, z2, z3, z4, z5, fun j j0 j1 => ⟨by show (-16 : Int) ≤ 0; decide, by show (0 : Int) ≤ 16; decide, fun e => absurd (n77 j j0 j1) e, fun _ => rfl⟩, R⟩
    · rw [show jfu = 99999995 + 1 + 1 + 1 + 1 + 1 from rfl, jlp_i (f := fun u : (Int × jH) => jd_119_s2 9 md u.1 u.2) (vec0 (x := 0) (by decide) (by decide) (n77 0 (by decide) (by decide))), jlp_i (f := fun u : (Int × jH) => jd_119_s2 9 md u.1 u.2) (vec0 (x := 0 + 1) (by decide) (by decide) (n77 (0 + 1) (by decide) (by decide))), jlp_i (f := fun u : (Int × jH) => jd_119_s2 9 md u.1 u.2) (vec0 (x := 0 + 1 + 1) (by decide) (by decide) (n77 (0 + 1 + 1) (by decide) (by decide))), jlp_i (f := fun u : (Int × jH) => jd_119_s2 9 md u.1 u.2) (vec0 (x := 0 + 1 + 1 + 1) (by decide) (by decide) (n77 (0 + 1 + 1 + 1) (by decide) (by decide)))]
      exact jlp_r (ex I)
    · unfold vM jd_265_b185
      have jj : jw (m 76 61) = md - 4 := by rw [h61, n_jw (by omega) (by omega)]
      rw [if_neg (show ¬ jw (m 76 61) = 3 by omega), if_neg (show ¬ jw (m 76 61) = 5 by omega), if_pos (BM_b0 R), if_neg (show ¬ jw (m 76 61) = 4 by omega), if_neg (show ¬ jw (m 76 61) = 5 by omega)]
end Vecs
