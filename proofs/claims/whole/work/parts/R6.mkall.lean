/-! MAKE: a film of any coding made, both sides -/
section MkAll
variable {s : hS} {Q : hQ} {hm : hO} {I m : jM} {a : Nat} {f w h T cod x2 : Int} {G : Int → Int}
/-- both sides when a film was made, or was refused -/
def MkR (s : hS) (Q : hQ) (hm : hO) (I m : jM) (a : Nat) (f cod x2 : Int) : Prop := ∃ (S : hS) (R : hQ) (H : hO) (J m' : jM), (Lay S R H ∧ FilmAt S R H a f) ∧ (∀ b, R 43 0 = some b → 153 ≤ b ∧ Ce S H b 1 4000 560) ∧ Sm (PG f) s Q hm I S R H J ∧ MO m m' ∧ (s.1 ≤ S.1 ∧ S.1 ≤ s.1 + 27 ∧ S.2.1 ≤ s.2.1 + 62538) ∧ ((jd_65 42 (some a) cod (hh s Q I) = some (0, hh S R J) ∧ jd_300_b135 x2 m = some (-1, m')) ∨ ∃ len : Int, jd_65 42 (some a) cod (hh s Q I) = some (1, hh S R J) ∧ jd_300_b135 x2 m = ((jd_301 m').bind fun q50 => (if (jw q50.1) = (-1) then ((jd_308 q50.2).bind fun q53 => jd_300_b307 q53.1 q53.2) else jd_300_b307 (-1) q50.2)) ∧ FBm S R H J m' a f len ∧ (7 ≤ len ∧ len ≤ 24067) ∧ (∀ x : Int, 0 ≤ x → x < 12 → J (a + 8) x = 0) ∧ ∃ M, jd_301 m' = some (-1, M))
theorem grow_2 {S1 S2 : hS} {R1 R2 : hQ} (g1 : s.1 ≤ S1.1 ∧ S1.1 + (bzR s Q a + nW Q) ≤ s.1 + (bzR S1 R1 a + nW R1) + 24 ∧ S1.2.1 + (24067 * bzR s Q a + 4000 * nW Q) ≤ s.2.1 + (24067 * bzR S1 R1 a + 4000 * nW R1) + 10404) (g2 : Gm a S1 R1 S2 R2) : s.1 ≤ S2.1 ∧ S2.1 ≤ s.1 + 27 ∧ S2.2.1 ≤ s.2.1 + 62538 := by
  have h1 := bzR_2 (s := S2) (Q := R2) (a := a)
  have h2 := nW_le (Q := R2)
  unfold Gm at g2
  generalize bzR s Q a = z1 at *
  generalize bzR S1 R1 a = z2 at *
  generalize bzR S2 R2 a = z3 at *
  generalize nW Q = y1 at *
  generalize nW R1 = y2 at *
  generalize nW R2 = y3 at *
  omega
theorem mk_all (C : MkP s Q hm I m a f w h T cod) (h6 : s.1 + 60 ≤ 1000000) (hI : ∀ p : Int, 0 ≤ p → p < T → I 69 p = G p) (hG : GSz G T) (cc : cod = 0 ∨ cod = 1 ∨ cod = 2) (n1c : cod = 1 → ∀ p : Int, 0 ≤ p → p < T → G p = 1) (hr : cod = 2 → AllQ a f w h T 2) (h7 : m 76 7 = T) (hy0 : cod = 0 → ∀ (x3 : Int) (m' : jM), MG m m' → ∀ g : Int, 0 ≤ g → g < T → jd_300_s186 x2 x3 g m' = jd_300_b253 x2 x3 g (G g) m') (hy1 : cod ≠ 0 → ∀ m' : jM, MO m m' → ∀ g : Int, 0 ≤ g → g < T → jd_300_s186 x2 0 g m' = jd_300_b253 x2 0 g (G g) m') : MkR s Q hm I m a f cod x2 := by
  obtain ⟨⟨L, F, f0, f8⟩, hb, ⟨m32, m33, m34, sw, sh⟩, ⟨T1, T2, i5, q6⟩, c5, c6⟩ := id C
  obtain ⟨N, -, W⟩ := gSt_N (T := T) (by omega) hG (T.toNat + 1) 0 (by omega) (fun i hi => absurd hi (by omega))
  have cb : 0 ≤ cod ∧ cod ≤ 2 := by omega
  have so : ∀ {i : Int}, 0 ≤ i → i < 8 → i ≠ 5 → (jxv 1).getD i.toNat 0 ≤ m 82 i ∧ m 82 i ≤ (jxv 2).getD i.toNat 0 := fun {i} i0 i1 i2 => by
    rcases (c5 i i0 i1).2 with ⟨e, -⟩ | e
    · exact absurd e i2
    · exact e
  have so5 : m 82 5 = 0 ∨ (100 ≤ m 82 5 ∧ m 82 5 ≤ 20000) := by
    rcases (c5 5 (by decide) (by decide)).2 with ⟨-, e⟩ | e
    · exact Or.inl e
    · exact Or.inr e
  have so2 : 0 ≤ m 82 2 ∧ m 82 2 ≤ 2 := so (by decide) (by decide) (by decide)
  have so0 : 1 ≤ m 82 0 ∧ m 82 0 ≤ 60 := so (by decide) (by decide) (by decide)
  obtain ⟨d, hd⟩ : ∃ d, d = if cod = 0 then m 82 2 else 0 := ⟨_, rfl⟩
  have db : 0 ≤ d ∧ d ≤ 1000 := by
    rw [hd]
    by_cases c : cod = 0
    · rw [if_pos c]; omega
    · rw [if_neg c]; omega
  obtain ⟨S1, R1, H1, J1, m1, e65, e295, C1, LA1, B1, W1, hd1, Sm1, ⟨mg1, m82⟩, gr1, kz1⟩ := mk_open C (by omega) hI hG W cc hd
  have e82 : m1 82 = m 82 := mg1.1 82 (by decide) (by decide) (by decide)
  -- what is had at the start
  obtain ⟨m2, hm2⟩ : ∃ z, z = jms m1 76 82 (jdiv (m 82 5) 2) := ⟨_, rfl⟩
  have o2 : ∀ c : Nat, c ≠ 76 → m2 c = m1 c := fun c hc => by rw [hm2, jms_o hc]
  have z2 : ∀ y : Int, y ≠ 82 → m2 76 y = m1 76 y := fun y hy => by rw [hm2, jms_i hy]
  have mg2 : MG m1 m2 := ⟨fun c c1 _ _ => o2 c c1, fun y hy => z2 y (by omega)⟩
  have mg : MG m m2 := MG_t mg1 mg2
  have C2 : MkC S1 R1 H1 J1 m2 a f w h T cod := MkC_fr C1 Sm_refl C1.1.1 C1.1.2.1 C1.2.1 mg2 C1.2.2.2.2.2.2.1 rfl
  have B2 : FBm S1 R1 H1 J1 m2 a f 7 := by
    unfold FBm at *
    rw [z2 47 (by decide), o2 112 (by decide)]
    exact B1
  have W2 : HBy (m2 112) (J1 (a + 1)) (J1 (a + 2)) cod 0 7 := by rw [o2 112 (by decide)]; exact W1
  have h72 : m2 76 7 = T := by rw [mg.2 7 (by decide)]; exact h7
  have e82' : m2 82 = m 82 := by rw [o2 82 (by decide), e82]
  have em : ∀ y0 : Int, y0 = (if cod = 0 then (if jw (m 82 5) ≤ 0 then 0 else 1) else 0) → jd_300_b135 x2 m = jd_300_b182 x2 y0 m2 := fun y0 hy0 => by
    have d82 : jms m1 76 82 (jdiv (m 82 5) 2) 82 5 = m 82 5 := by rw [jms_o (by decide), e82]
    have d32 : m2 76 32 = cod := by rw [mg.2 32 (by decide)]; exact m32
    unfold jd_300_b135
    rw [y_ma 82 8 rfl rfl (by decide) (by decide), Option.bind_some, h7, e295, Option.bind_some, y_ma 82 8 rfl rfl (by decide) (by decide), Option.bind_some, e82, Option.bind_some, ← hm2, d32, n_jw (z := cod) (by omega) (by omega)]
    by_cases c : cod = 0
    · rw [if_pos c] at hy0 ⊢
      rw [y_ma 82 8 rfl rfl (by decide) (by decide), Option.bind_some, e82', hy0]
    · rw [if_neg c] at hy0 ⊢
      rw [hy0]
  have g6 : S1.1 + 11 < 1000000 := by
    have := (grow_2 gr1 (Gm_refl (a := a))).2.1
    omega
  have parsed : ∀ {S : hS} {R : hQ} {H : hO} {J mm : jM} {len : Int}, FilmAt S R H a f → J (a + 1) = J1 (a + 1) → J (a + 2) = J1 (a + 2) → (∀ i : Int, i < 7 → mm 112 i = m2 112 i) → FBm S R H J mm a f len → len ≤ 24067 → HBy (mm 112) (J (a + 1)) (J (a + 2)) cod T len → ∃ M, jd_301 mm = some (-1, M) := fun {S R H J mm len} FF r1 r2 e7 BB l1 WW => by
    have LA : Laid J a G d N := fun i iN j j0 j1 => by rw [r1, r2]; exact LA1 i iN j j0 j1
    have O := GrO_of FF (by omega) T2 hG W db.1 db.2 LA
    obtain ⟨p0, p1, p2, p3, p4, p5, p6⟩ := hd1
    rw [← o2 112 (by decide)] at p0 p1 p2 p3 p4 p5 p6
    have kz : cod ≠ 0 → ∀ j : Int, 0 ≤ j → j < T → ∃ i : Nat, i < N ∧ ∃ y : Int, 0 ≤ y ∧ y < G (gSt G i) ∧ J (a + 1) j = (if y = 0 then 0 else 1) := fun cz j j0 j1 => by
      obtain ⟨i, iN, b1, b2⟩ := gSt_in j0 N (by rw [W.2]; exact j1)
      have gb := gSt_b (T := T) (by omega) hG i (fun y hy => W.1 y (by omega))
      obtain ⟨n1, n2⟩ := hG (gSt G i) (by omega) (W.1 i iN)
      have e := (LA i iN (j - gSt G i) (by omega) (by omega)).1
      have d0 : d = 0 := by rw [hd, if_neg cz]
      rw [show gSt G i + (j - gSt G i) = j by omega, d0, (kk0 n1 (by omega) (j := j - gSt G i) (by omega) (by omega)).1] at e
      exact ⟨i, iN, j - gSt G i, by omega, by omega, e⟩
    refine parse_ok (w := w) (h := h) (rt := m 82 0) (T := T) (cod := cod) BB.2.2.1.2.2 (by omega) T1 T2 cb sw sh so0 ⟨by rw [e7 0 (by decide)]; exact p0, by rw [e7 1 (by decide)]; exact p1, by rw [e7 2 (by decide)]; exact p2, by rw [e7 3 (by decide)]; exact p3, by rw [e7 4 (by decide)]; exact p4, by rw [e7 5 (by decide)]; exact p5, by rw [e7 6 (by decide)]; exact p6⟩ WW (fun n hn => order_ok hG W (by omega) O (fun c1 j j0 j1 => ?_) (fun c2 j j0 j1 => ?_) n hn)
    · obtain ⟨i, iN, y, y0, y1, e⟩ := kz (by omega) j j0 j1
      have gb := gSt_b (T := T) (by omega) hG i (fun y hy => W.1 y (by omega))
      have := n1c c1 (gSt G i) (by omega) (W.1 i iN)
      rw [e, if_pos (by omega)]
    · obtain ⟨i, iN, y, y0, y1, e⟩ := kz (by omega) j j0 j1
      rw [e]
      by_cases cy : y = 0
      · rw [if_pos cy]; decide
      · rw [if_neg cy]; decide
  have L1 := C1.1.1
  have ck := y_ck (R := R1) (I := J1) L1 42 4 rfl rfl
  by_cases c0 : cod = 0
  · -- blocks
    subst c0
    obtain ⟨sz, hsz⟩ : ∃ sz, m 82 5 = sz := ⟨_, rfl⟩
    rw [hsz] at so5 hm2 em
    have dv : jdiv sz 2 = sz / 2 := n_div (by omega) (by omega) (by decide) (by decide)
    have em' := em (if jw sz ≤ 0 then 0 else 1) (by rw [if_pos rfl])
    have Z : MkJ S1 R1 H1 J1 m2 a f w h (gSt G 0) d T (jdiv sz 2) 7 0 G N := by
      refine ⟨C2, LA1, B2, ⟨by decide, by show (7 : Int) ≤ 7 + 2005 * 0; decide⟩, ?_, W2⟩
      show HV (m2 82 5) (jdiv sz 2) (m2 76 82) 0
      rw [e82', hsz, dv]
      rcases so5 with e | e
      · left
        omega
      · right
        refine ⟨by omega, ?_, by omega, by omega⟩
        rw [hm2, jms_e, dv]
    have d2' : m2 82 2 = d := by rw [e82', hd, if_pos rfl]
    obtain ⟨S, R, H, J, m', c, cb', FF, alt⟩ := mkfilm (s0 := S1) (Q0 := R1) (x2 := x2) (x3 := if jw sz ≤ 0 then 0 else 1) (sz := sz) g6 rfl hG W db.1 db.2 N 0 S1 R1 H1 J1 m2 (jdiv sz 2) 7 Z (by omega) (by rw [e82']; exact hsz) d2' h72 Gm_refl (fun mm mgm g g0 gT => hy0 rfl _ mm (MG_t mg mgm) g g0 gT)
    have Nb : N ≤ 12 := by
      have := gSt_b (T := T) (by omega) hG N W.1
      have := W.2
      omega
    have t6 : R1 42 ((6 : Nat) : Int) = some 3 := C1.2.2.2.1.2.2.2
    have i35 : J1 3 5 = sz := by rw [(C2.2.2.2.2.1 5 (by decide) (by decide)).1, e82', hsz]
    have gr := grow_2 gr1 FF.2.2.2.2.1
    have e66 : ∀ y : jH ⊕ jH, (∀ e : Nat, jlp (fun u : (Int × Int × jH) => jd_66_s14 42 (some a) sz u.1 u.2.1 u.2.2) (e + c) (jdiv sz 2, gSt G 0, hh S1 R1 J1) = some y) → jd_66 42 (some a) (hh S1 R1 J1) = jse y (fun y92 => some (0, y92)) (fun y93 => some (1, y93)) := fun y hy => by
      have := hy (jfu - c)
      rw [show jfu - c + c = jfu from Nat.sub_add_cancel (by unfold jfu; omega)] at this
      unfold jd_66 jd_66_l14
      rw [y_gr L1 42 4 rfl rfl, Option.bind_some, t6, Option.bind_some, y_ai L1 (by omega) 3 8 rfl rfl rfl (by decide) (by decide), Option.bind_some, i35]
      exact (congrArg (fun o : Option (jH ⊕ jH) => o.bind fun x90 => jse x90 (fun y92 => some ((0 : Int), y92)) (fun y93 => some (1, y93))) this).trans rfl
    have e186 : ∀ y : jM ⊕ jM, (∀ e : Nat, jlp (fun u : (Int × jM) => jd_300_s186 x2 (if jw sz ≤ 0 then 0 else 1) u.1 u.2) (e + (N + 1)) (gSt G 0, m2) = some y) → jd_300_l186 x2 (if jw sz ≤ 0 then 0 else 1) 0 m2 = some y := fun y hy => by
      have := hy (jfu - (N + 1))
      rw [show jfu - (N + 1) + (N + 1) = jfu from Nat.sub_add_cancel (by unfold jfu; omega)] at this
      exact this
    refine ⟨S, R, H, J, m', FF.1, FF.2.1, Sm_trans Sm1 FF.2.2.1, MO_G (MG_t mg FF.2.2.2.1), gr, ?_⟩
    rcases alt with ⟨a1, a2⟩ | ⟨x', len', a1, a2, Z'⟩
    · left
      refine ⟨?_, ?_⟩
      · rw [e65, if_pos (show jw 0 = 0 by decide), ck, Option.bind_some, e66 _ a1]
        rfl
      · rw [em']
        unfold jd_300_b182
        rw [e186 _ a2, Option.bind_some]
        rfl
    · right
      obtain ⟨z1, z2', z3, z4, z5, z6⟩ := Z'
      refine ⟨len', ?_, ?_, z3, ⟨z4.1, by omega⟩, fun x x0 x1 => by rw [FF.2.2.2.2.2.2.2.1]; exact kz1 x x0 x1, parsed FF.1.2 FF.2.2.2.2.2.1 FF.2.2.2.2.2.2.1 FF.2.2.2.2.2.2.2.2 z3 (by omega) z6⟩
      · rw [e65, if_pos (show jw 0 = 0 by decide), ck, Option.bind_some, e66 _ a1]
        rfl
      · rw [em']
        unfold jd_300_b182
        rw [e186 _ a2, Option.bind_some]
        rfl
  · -- waves, runs
    have c12 : cod = 1 ∨ cod = 2 := by omega
    have em' := em 0 (by rw [if_neg c0])
    have d0 : d = 0 := by rw [hd, if_neg c0]
    have Z : MkV S1 R1 H1 J1 m2 a f w h (gSt G 0) T 7 cod G N := ⟨C2, by rw [← d0]; exact LA1, B2, ⟨by decide, by show (7 : Int) ≤ 7 + 2005 * 0; decide⟩, W2⟩
    have PQ : AllQ a f w h T cod := by
      rcases c12 with e | e
      · rw [e]; exact allq_w
      · rw [e]; exact hr e
    obtain ⟨S, R, H, J, m', c, cb', FF, alt⟩ := mkfilo (s0 := S1) (Q0 := R1) (x2 := x2) g6 c12 hG n1c W PQ N 0 S1 R1 H1 J1 m2 7 Z (by omega) h72 Gm_refl (fun mm mo g g0 gT => hy1 c0 mm (MO_t (MO_G mg) mo) g g0 gT)
    have Nb : N ≤ 12 := by
      have := gSt_b (T := T) (by omega) hG N W.1
      have := W.2
      omega
    have gr := grow_2 gr1 FF.2.2.2.2.1
    have e67 : ∀ y : jH ⊕ jH, (∀ e : Nat, jlp (fun u : (Int × jH) => jd_67_s2 42 (some a) cod u.1 u.2) (e + c) (gSt G 0, hh S1 R1 J1) = some y) → jd_67 42 (some a) cod (hh S1 R1 J1) = jse y (fun y95 => some (0, y95)) (fun y96 => some (1, y96)) := fun y hy => by
      have := hy (jfu - c)
      rw [show jfu - c + c = jfu from Nat.sub_add_cancel (by unfold jfu; omega)] at this
      unfold jd_67 jd_67_l2
      exact (congrArg (fun o : Option (jH ⊕ jH) => o.bind fun x93 => jse x93 (fun y95 => some ((0 : Int), y95)) (fun y96 => some (1, y96))) this).trans rfl
    have e186 : ∀ y : jM ⊕ jM, (∀ e : Nat, jlp (fun u : (Int × jM) => jd_300_s186 x2 0 u.1 u.2) (e + (N + 1)) (gSt G 0, m2) = some y) → jd_300_l186 x2 0 0 m2 = some y := fun y hy => by
      have := hy (jfu - (N + 1))
      rw [show jfu - (N + 1) + (N + 1) = jfu from Nat.sub_add_cancel (by unfold jfu; omega)] at this
      exact this
    have nz : ¬ jw cod = 0 := by rw [n_jw (z := cod) (by omega) (by omega)]; exact c0
    refine ⟨S, R, H, J, m', FF.1, FF.2.1, Sm_trans Sm1 FF.2.2.1, MO_t (MO_G mg) FF.2.2.2.1, gr, ?_⟩
    rcases alt with ⟨a1, a2⟩ | ⟨len', a1, a2, Z'⟩
    · left
      refine ⟨?_, ?_⟩
      · rw [e65, if_neg nz, ck, Option.bind_some, e67 _ a1]
        rfl
      · rw [em']
        unfold jd_300_b182
        rw [e186 _ a2, Option.bind_some]
        rfl
    · right
      obtain ⟨z1, z2', z3, z4, z6⟩ := Z'
      refine ⟨len', ?_, ?_, z3, ⟨z4.1, by omega⟩, fun x x0 x1 => by rw [FF.2.2.2.2.2.2.2.1]; exact kz1 x x0 x1, parsed FF.1.2 FF.2.2.2.2.2.1 FF.2.2.2.2.2.2.1 FF.2.2.2.2.2.2.2.2 z3 (by omega) z6⟩
      · rw [e65, if_neg nz, ck, Option.bind_some, e67 _ a1]
        rfl
      · rw [em']
        unfold jd_300_b182
        rw [e186 _ a2, Option.bind_some]
        rfl
end MkAll
