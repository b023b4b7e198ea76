/-! cutting: a row added, both sides -/
section AddRow
variable {s0 sA : hS} {Q0 QA : hQ} {hmA : hO} {IA mA : jM} {a b : Nat} {f fo w h T c0 fr to : Int}
/-- how many pictures of the row lie ahead of g -/
def nAh (fr to g cnt c0 : Int) : Prop := (g ≤ fr ∧ cnt = c0) ∨ (fr < g ∧ g ≤ to ∧ cnt = c0 + (g - fr)) ∨ (to < g ∧ cnt = c0 + (to - fr + 1))
def loB (fr g lo : Int) : Prop := (fr < g ∧ lo = g) ∨ (g ≤ fr ∧ lo = fr)
def hiB (to e hi : Int) : Prop := (e - 1 < to ∧ hi = e - 1) ∨ (to ≤ e - 1 ∧ hi = to)
theorem nAh_le {g cnt : Int} (ft : fr ≤ to) (hc : nAh fr to g cnt c0) : cnt ≤ c0 + (to - fr + 1) := by
  unfold nAh at hc
  omega
theorem nAh_k {g e lo hi cnt : Int} (ft : fr ≤ to) (ge : g < e) (lob : loB fr g lo) (hib : hiB to e hi) (c1 : lo = g) (c2 : hi = e - 1) (hc : nAh fr to g cnt c0) : nAh fr to e (cnt + (e - g)) c0 := by
  unfold nAh loB hiB at *
  omega
theorem nAh_n {g e lo hi cnt : Int} (ft : fr ≤ to) (ge : g < e) (lob : loB fr g lo) (hib : hiB to e hi) (cs : hi < lo) (hc : nAh fr to g cnt c0) : nAh fr to e cnt c0 := by
  unfold nAh loB hiB at *
  omega
theorem nAh_a {g e lo hi cnt : Int} (ft : fr ≤ to) (ge : g < e) (lob : loB fr g lo) (hib : hiB to e hi) (cs : ¬ hi < lo) (hc : nAh fr to g cnt c0) : nAh fr to e (cnt + (hi - lo + 1)) c0 := by
  unfold nAh loB hiB at *
  omega
theorem lohi {g e lo hi T' : Int} (ft : fr ≤ to) (fr0 : 0 ≤ fr) (tT : to < T') (g0 : 0 ≤ g) (ge : g < e) (eT : e ≤ T') (lob : loB fr g lo) (hib : hiB to e hi) : 0 ≤ lo ∧ lo < T' ∧ 0 ≤ hi ∧ hi < T' := by
  unfold loB hiB at *
  omega
theorem lo_x {g : Int} : ∃ lo : Int, loB fr g lo ∧ (if fr < g then g else fr) = lo ∧ (if g ≤ fr then fr else g) = lo := by
  by_cases c : fr < g
  · exact ⟨g, Or.inl ⟨c, rfl⟩, if_pos c, if_neg (by omega)⟩
  · exact ⟨fr, Or.inr ⟨by omega, rfl⟩, if_neg c, if_pos (by omega)⟩
theorem hi_x {e : Int} : ∃ hi : Int, hiB to e hi ∧ (if e - 1 < to then e - 1 else to) = hi ∧ (if to ≤ e - 1 then to else e - 1) = hi := by
  by_cases c : e - 1 < to
  · exact ⟨e - 1, Or.inl ⟨c, rfl⟩, if_pos c, if_neg (by omega)⟩
  · exact ⟨to, Or.inr ⟨by omega, rfl⟩, if_neg c, if_pos (by omega)⟩
theorem ad_c {s : hS} {Q : hQ} {hm : hO} {I : jM} {T' g e lo hi : Int} (F : FilmAt s Q hm b fo) (i4 : I b 4 = T') (T2 : T' ≤ 12) (g0 : 0 ≤ g) (gT : g < T') (ge : g < e) (eT : e ≤ T') (fr0 : 0 ≤ fr) (to0 : 0 ≤ to) (tT : to < T') (g1 : I (b + 7) g % 2 = 1) (c38 : jd_38 b g (hh s Q I) = some e) (l1 : 0 ≤ lo) (l2 : lo < T') (l3 : 0 ≤ hi) (l4 : hi < T') : (if fr < g then g else fr) = lo → (if e - 1 < to then e - 1 else to) = hi → jd_69_s3 42 (some a) (some b) fr to g (hh s Q I) = (if lo = g then (if hi = e - 1 then ((jck (hh s Q I) 42 4).bind fun u27 => ((jd_70 42 (some a) (some b) g e (hh s Q I)).bind fun h29 => jd_69_b110 42 (some a) (some b) fr to g h29)) else jd_69_b81 42 (some a) (some b) fr to g lo hi (hh s Q I)) else jd_69_b81 42 (some a) (some b) fr to g lo hi (hh s Q I)) := by
  by_cases fr1 : fr < 12
  · have j1 : jw fr = fr := n_jw (by omega) (by omega)
    have j2 : jw g = g := n_jw (by omega) (by omega)
    have j3 : jw to = to := n_jw (by omega) (by omega)
    have j4 : jw (e - 1) = e - 1 := n_jw (by omega) (by omega)
    have j5 : jw lo = lo := n_jw (by omega) (by omega)
    have j6 : jw hi = hi := n_jw (by omega) (by omega)
    have j7 : jw T' = T' := n_jw (by omega) (by omega)
    have i4' : I b ((4 : Nat) : Int) = T' := i4
    have q13 := F_q F 6 13 rfl rfl
    have g1' : I (b + (6 + 1)) g % 2 = 1 := g1
    have az := F_az (I := I) (R := Q) F (6 + 1) 12 rfl rfl rfl g0 (by omega)
    intro lo1 hi1
    unfold jd_69_s3
    rw [Option.bind_some, F_gi F, Option.bind_some, i4', j7, j2, if_neg (Int.not_le.mpr gT), Option.bind_some, F_gr F, Option.bind_some, q13, Option.bind_some, az, Option.bind_some, g1', if_neg (show ¬ jw 1 = 0 by decide), Option.bind_some, F_ck F, Option.bind_some, c38, Option.bind_some, j1, j3, j4, lo1, hi1, Option.bind_some, Option.bind_some, j5, j6]
  · intro lo1
    rw [if_neg (by omega)] at lo1
    omega
theorem ad_m {m : jM} {T' g e lo hi : Int} (fo0 : 0 ≤ fo) (fo8 : fo < 8) (m87 : m 87 fo = T') (T2 : T' ≤ 12) (g0 : 0 ≤ g) (gT : g < T') (ge : g < e) (eT : e ≤ T') (fr0 : 0 ≤ fr) (fr1 : fr < 12) (tT : to < T') (Pg : m 91 (12 * fo + g) = g) (k326 : jd_326 fo g m = some e) : (if g ≤ fr then fr else g) = lo → (if to ≤ e - 1 then to else e - 1) = hi → 0 ≤ to → jd_327_s3 fo fr to g m = jd_327_b75 fo fr to g e g (e - 1) lo hi m := by
  have j1 : jw fr = fr := n_jw (by omega) (by omega)
  have j2 : jw g = g := n_jw (by omega) (by omega)
  have j4 : jw (e - 1) = e - 1 := n_jw (by omega) (by omega)
  have j7 : jw T' = T' := n_jw (by omega) (by omega)
  have y91 := y_ma (m := m) (z := 12 * fo + g) 91 96 rfl rfl (by omega) (by omega)
  have y87 := y_ma (m := m) (z := fo) 87 8 rfl rfl (by omega) (by omega)
  have ee : g + e - g - 1 = e - 1 := by omega
  intro lo1 hi1 to0
  have j3 : jw to = to := by
    clear lo1 hi1
    exact n_jw (by omega) (by omega)
  unfold jd_327_s3
  rw [y87, Option.bind_some, m87, j7, j2, if_neg (Int.not_le.mpr gT), k326, Option.bind_some, y91, Option.bind_some, Pg, j2, j1, lo1, Option.bind_some, ee, j3, j4, hi1]
theorem skipc {S : hS} {R : hQ} {H : hO} {J : jM} {T' e : Int} (F : FilmAt S R H b fo) (i4 : J b 4 = T') (T2 : T' ≤ 12) (eT : e ≤ T') : ∀ (r : Nat) (x : Int), 0 ≤ x → x + (r : Int) = e → (∀ j : Int, x ≤ j → j < e → ¬ J (b + 7) j % 2 = 1) → ∀ F' : Nat, jlp (fun u : (Int × jH) => jd_69_s3 42 (some a) (some b) fr to u.1 u.2) (F' + r) (x, hh S R J) = jlp (fun u : (Int × jH) => jd_69_s3 42 (some a) (some b) fr to u.1 u.2) F' (e, hh S R J)
  | 0, x, x0, xe, _, F' => by
    rw [show x = e by omega]
    rfl
  | r + 1, x, x0, xe, hx, F' => by
    have i4' : J b ((4 : Nat) : Int) = T' := i4
    have q13 := F_q F 6 13 rfl rfl
    have hx0 := hx x (Int.le_refl _) (by omega)
    have st : jd_69_s3 42 (some a) (some b) fr to x (hh S R J) = some (.inl (x + 1, hh S R J)) := by
      unfold jd_69_s3
      rw [Option.bind_some, F_gi F, Option.bind_some, i4', n_jw (z := T') (by omega) (by omega), n_jw (z := x) (by omega) (by omega), if_neg (by omega), Option.bind_some, F_gr F, Option.bind_some, q13, Option.bind_some, F_az F (6 + 1) 12 rfl rfl rfl x0 (by omega), Option.bind_some, show J (b + (6 + 1)) x = J (b + 7) x from rfl]
      have b1 := Int.emod_nonneg (J (b + 7) x) (show (2 : Int) ≠ 0 by decide)
      have b2 := Int.emod_lt_of_pos (J (b + 7) x) (show (0 : Int) < 2 by decide)
      have e0 : J (b + 7) x % 2 = 0 := by omega
      rw [e0, if_pos (show jw 0 = 0 by decide)]
      rfl
    rw [show F' + (r + 1) = (F' + r) + 1 by omega, jlp_i (v := (x + 1, hh S R J)) st]
    exact skipc F i4 T2 eT r (x + 1) (by omega) (by omega) (fun j j0 j1 => hx j (by omega) j1) F'
theorem addl (h0 : s0.1 + 11 < 1000000) (G0 : Gm a s0 Q0 sA QA) (fo0 : 0 ≤ fo) (fof : fo < f) (f8 : f < 8) (Fo : FilmAt sA QA hmA b fo) (Co : FilmC sA QA IA mA b fo) (cod : mA 83 fo = 0) (e84 : mA 84 fo = w) (e85 : mA 85 fo = h) (fr0 : 0 ≤ fr) (ft : fr ≤ to) (tT : to < mA 87 fo) (cT : c0 + (to - fr + 1) ≤ T) : ∀ (r : Nat) (g : Int) (s : hS) (Q : hQ) (hm : hO) (I m : jM) (cnt len : Int), CuI s Q hm I m a f w h T cnt len → CuF sA QA hmA IA mA a f s Q hm I m → 0 ≤ g → g + (r : Int) = mA 87 fo → (g = mA 87 fo ∨ Bgn (fun k => mA 90 (12 * fo + k)) (fun k => mA 91 (12 * fo + k)) (mA 87 fo) g) → nAh fr to g cnt c0 → ∃ (S : hS) (R : hQ) (H : hO) (J m' : jM), CuF sA QA hmA IA mA a f S R H J m' ∧ CuB S R H J m' a f w h T ∧ (((∀ F' : Nat, jlp (fun u : (Int × jH) => jd_69_s3 42 (some a) (some b) fr to u.1 u.2) (F' + (r + 1)) (g, hh s Q I) = some (.inl (hh S R J))) ∧ ∀ F' : Nat, jlp (fun u : (Int × jM) => jd_327_s3 fo fr to u.1 u.2) (F' + (r + 1)) (g, m) = some (.inl m')) ∨ ∃ len' : Int, (∀ F' : Nat, jlp (fun u : (Int × jH) => jd_69_s3 42 (some a) (some b) fr to u.1 u.2) (F' + (r + 1)) (g, hh s Q I) = some (.inr (hh S R J))) ∧ (∀ F' : Nat, jlp (fun u : (Int × jM) => jd_327_s3 fo fr to u.1 u.2) (F' + (r + 1)) (g, m) = some (.inr m')) ∧ CuI S R H J m' a f w h T (c0 + (to - fr + 1)) len') := by
  intro r
  induction r using Nat.strongRecOn with
  | ind r ih =>
    intro g s Q hm I m cnt len Z X g0 gr hg hc
    obtain ⟨Fo', Co'⟩ := old_now fo0 fof f8 Fo Co X
    have M := X.2.1.1
    have e83 : m 83 = mA 83 := M 83 (by decide) (by decide) (by decide) (by decide)
    have e84' : m 84 = mA 84 := M 84 (by decide) (by decide) (by decide) (by decide)
    have e85' : m 85 = mA 85 := M 85 (by decide) (by decide) (by decide) (by decide)
    have e87 : m 87 = mA 87 := M 87 (by decide) (by decide) (by decide) (by decide)
    have e90 : m 90 = mA 90 := M 90 (by decide) (by decide) (by decide) (by decide)
    have e91 : m 91 = mA 91 := M 91 (by decide) (by decide) (by decide) (by decide)
    have V := Co.2.2.2.1
    have Tb : mA 87 fo ≤ 12 := V.2.1
    have T1 : 1 ≤ mA 87 fo := V.1
    have i4 : I b 4 = mA 87 fo := Co'.1.2.2.2.2.1.trans (by rw [e87])
    have i4' : I b ((4 : Nat) : Int) = mA 87 fo := i4
    have m87 : m 87 fo = mA 87 fo := by rw [e87]
    have fl : ∀ k : Int, 0 ≤ k → k < mA 87 fo → (I (b + 7) k % 2 = 1 ↔ Bgn (fun k => mA 90 (12 * fo + k)) (fun k => mA 91 (12 * fo + k)) (mA 87 fo) k) ∧ (m 95 (12 * fo + k) % 2 = 1 ↔ Bgn (fun k => mA 90 (12 * fo + k)) (fun k => mA 91 (12 * fo + k)) (mA 87 fo) k) := fun k k0 k1 => by
      obtain ⟨-, -, x1, -, -, -, x2, -⟩ := Co'.2.2.2.2 k k0 (by rw [m87]; exact k1)
      rw [e90, e91, m87] at x2
      exact ⟨by rw [x1]; exact x2, x2⟩
    by_cases cg : g = mA 87 fo
    · -- the end
      have r0 : r = 0 := by omega
      subst r0
      refine ⟨s, Q, hm, I, m, X, Z.1, Or.inr ⟨len, fun F' => jlp_r ?_, fun F' => jlp_r ?_, ?_⟩⟩
      · show jd_69_s3 42 (some a) (some b) fr to g (hh s Q I) = _
        unfold jd_69_s3
        rw [Option.bind_some, F_gi Fo', Option.bind_some, i4', cg, if_pos (Int.le_refl _)]
      · show jd_327_s3 fo fr to g m = _
        unfold jd_327_s3
        rw [y_ma 87 8 rfl rfl fo0 (by omega), Option.bind_some, m87, cg, if_pos (Int.le_refl _)]
      · have : cnt = c0 + (to - fr + 1) := by
          unfold nAh at hc
          omega
        rw [← this]
        exact Z
    · have gT : g < mA 87 fo := by omega
      have G : Bgn (fun k => mA 90 (12 * fo + k)) (fun k => mA 91 (12 * fo + k)) (mA 87 fo) g := by
        rcases hg with e | e
        · exact absurd e cg
        · exact e
      have Pg : mA 91 (12 * fo + g) = g := (Bgn_p V g0 gT G).1
      obtain ⟨e, ge, eT, en, eb⟩ := ge_x (T := mA 87 fo) (Bgn (fun k => mA 90 (12 * fo + k)) (fun k => mA 91 (12 * fo + k)) (mA 87 fo)) (mA 87 fo - (g + 1)).toNat (g + 1) (by omega)
      have eb1 : e = mA 87 fo ∨ I (b + 7) e % 2 = 1 := by
        by_cases ce : e = mA 87 fo
        · exact Or.inl ce
        · rcases eb with h | h
          · exact Or.inl h
          · exact Or.inr ((fl e (by omega) (by omega)).1.mpr h)
      have eb2 : e = mA 87 fo ∨ m 95 (12 * fo + e) % 2 = 1 := by
        by_cases ce : e = mA 87 fo
        · exact Or.inl ce
        · rcases eb with h | h
          · exact Or.inl h
          · exact Or.inr ((fl e (by omega) (by omega)).2.mpr h)
      have c38 := c_38 (st := g) (e := e) Fo' i4 Tb g0 (by omega) eT (fun j j0 j1 h => en j (by omega) j1 ((fl j (by omega) (by omega)).1.mp h)) eb1
      have k326 := k_326 (st := g) (e := e) fo0 (by omega) m87 Tb g0 (by omega) eT (fun j j0 j1 h => en j (by omega) j1 ((fl j (by omega) (by omega)).2.mp h)) eb2
      have geb : g < e := by omega
      obtain ⟨lo, hi, lob, hib, lh, ec, em⟩ : ∃ lo hi : Int, loB fr g lo ∧ hiB to e hi ∧ (0 ≤ lo ∧ lo < mA 87 fo ∧ 0 ≤ hi ∧ hi < mA 87 fo) ∧ jd_69_s3 42 (some a) (some b) fr to g (hh s Q I) = (if lo = g then (if hi = e - 1 then ((jck (hh s Q I) 42 4).bind fun u27 => ((jd_70 42 (some a) (some b) g e (hh s Q I)).bind fun h29 => jd_69_b110 42 (some a) (some b) fr to g h29)) else jd_69_b81 42 (some a) (some b) fr to g lo hi (hh s Q I)) else jd_69_b81 42 (some a) (some b) fr to g lo hi (hh s Q I)) ∧ jd_327_s3 fo fr to g m = jd_327_b75 fo fr to g e g (e - 1) lo hi m := by
        obtain ⟨lo, lob, lo1, lo2⟩ := lo_x (fr := fr) (g := g)
        obtain ⟨hi, hib, hi1, hi2⟩ := hi_x (to := to) (e := e)
        obtain ⟨l1, l2, l3, l4⟩ := lohi ft fr0 tT g0 geb eT lob hib
        refine ⟨lo, hi, lob, hib, ⟨l1, l2, l3, l4⟩, ?_, ?_⟩
        · exact ad_c Fo' i4 Tb g0 gT geb eT fr0 (by omega) tT ((fl g g0 gT).1.mpr G) c38 l1 l2 l3 l4 lo1 hi1
        · exact ad_m fo0 (by omega) m87 Tb g0 gT geb eT fr0 (by omega) tT (by rw [e91]; exact Pg) k326 lo2 hi2 (by omega)
      have L := Z.1.1.1
      have c1 : 0 ≤ cnt := Z.2.2.2.2.1.1
      have g3 := (Gm_3 (Gm_t G0 X.2.2.1)).1
      -- when the group is done on both sides
      have go : ∀ {S : hS} {R : hQ} {H : hO} {J m' : jM} {cnt' len' : Int}, CuF s Q hm I m a f S R H J m' → jd_69_s3 42 (some a) (some b) fr to g (hh s Q I) = some (.inl (g + 1, hh S R J)) → jd_327_s3 fo fr to g m = some (.inl (e, m')) → CuI S R H J m' a f w h T cnt' len' → nAh fr to e cnt' c0 → ∃ (S : hS) (R : hQ) (H : hO) (J m' : jM), CuF sA QA hmA IA mA a f S R H J m' ∧ CuB S R H J m' a f w h T ∧ (((∀ F' : Nat, jlp (fun u : (Int × jH) => jd_69_s3 42 (some a) (some b) fr to u.1 u.2) (F' + (r + 1)) (g, hh s Q I) = some (.inl (hh S R J))) ∧ ∀ F' : Nat, jlp (fun u : (Int × jM) => jd_327_s3 fo fr to u.1 u.2) (F' + (r + 1)) (g, m) = some (.inl m')) ∨ ∃ len' : Int, (∀ F' : Nat, jlp (fun u : (Int × jH) => jd_69_s3 42 (some a) (some b) fr to u.1 u.2) (F' + (r + 1)) (g, hh s Q I) = some (.inr (hh S R J))) ∧ (∀ F' : Nat, jlp (fun u : (Int × jM) => jd_327_s3 fo fr to u.1 u.2) (F' + (r + 1)) (g, m) = some (.inr m')) ∧ CuI S R H J m' a f w h T (c0 + (to - fr + 1)) len') := fun {S R H J m' cnt' len'} Y s1 s2 Z' hc' => by
        have X' := CuF_t X Y
        obtain ⟨Fo2, Co2⟩ := old_now fo0 fof f8 Fo Co X'
        have j7 : J (b + 7) = I (b + 7) := (Ce_fr Y.1 (Fo'.2.1 7 (by decide)) (by unfold PD; omega)).2.2
        have j4 : J b 4 = mA 87 fo := by
          rw [show J b = I b from (Ce_fr Y.1 (Fo'.2.1 0 (by decide)) (by unfold PD; omega)).2.2]
          exact i4
        obtain ⟨r2, hr2⟩ : ∃ r2 : Nat, e + (r2 : Int) = mA 87 fo := ⟨(mA 87 fo - e).toNat, by omega⟩
        obtain ⟨k2, hk2⟩ : ∃ k2 : Nat, g + 1 + (k2 : Int) = e := ⟨(e - (g + 1)).toNat, by omega⟩
        have sk := skipc (a := a) (fr := fr) (to := to) Fo2 j4 Tb eT k2 (g + 1) (by omega) hk2 (fun j j0 j1 h => en j j0 j1 ((fl j (by omega) (by omega)).1.mp (by rw [← j7]; exact h)))
        obtain ⟨S2, R2, H2, J2, m2, y1, y2, alt⟩ := ih r2 (by omega) e S R H J m' cnt' len' Z' X' (by omega) hr2 eb hc'
        have cs : ∀ F' : Nat, jlp (fun u : (Int × jH) => jd_69_s3 42 (some a) (some b) fr to u.1 u.2) (F' + (r + 1)) (g, hh s Q I) = jlp (fun u : (Int × jH) => jd_69_s3 42 (some a) (some b) fr to u.1 u.2) (F' + (r2 + 1)) (e, hh S R J) := fun F' => by
          rw [show F' + (r + 1) = (F' + (r2 + 1) + k2) + 1 by omega, jlp_i (v := (g + 1, hh S R J)) s1]
          exact sk (F' + (r2 + 1))
        have ms : ∀ F' : Nat, jlp (fun u : (Int × jM) => jd_327_s3 fo fr to u.1 u.2) (F' + (r + 1)) (g, m) = jlp (fun u : (Int × jM) => jd_327_s3 fo fr to u.1 u.2) ((F' + k2) + (r2 + 1)) (e, m') := fun F' => by
          rw [show F' + (r + 1) = ((F' + k2) + (r2 + 1)) + 1 by omega, jlp_i (v := (e, m')) s2]
        refine ⟨S2, R2, H2, J2, m2, y1, y2, ?_⟩
        rcases alt with ⟨a1, a2⟩ | ⟨len2, a1, a2, a3⟩
        · exact Or.inl ⟨fun F' => (cs F').trans (a1 F'), fun F' => (ms F').trans (a2 (F' + k2))⟩
        · exact Or.inr ⟨len2, fun F' => (cs F').trans (a1 F'), fun F' => (ms F').trans (a2 (F' + k2)), a3⟩
      by_cases ck : lo = g ∧ hi = e - 1
      · -- kept
        obtain ⟨S, R, H, J, m', len', d1, d2, d3, d4⟩ := keepg (b := b) (st := g) (e := e) Z h0 (Gm_t G0 X.2.2.1) fo0 fof Fo' Co' (by rw [e83]; exact cod) g0 (by omega) (by rw [e87]; exact eT) (by rw [e90, e91, e87]; exact G) (by rw [e90, e91, e87]; exact eb) (Int.le_trans (nAh_le ft (nAh_k ft geb lob hib ck.1 ck.2 hc)) cT)
        refine go d3 ?_ ?_ d4 (nAh_k ft geb lob hib ck.1 ck.2 hc)
        · rw [ec, if_pos ck.1, if_pos ck.2, y_ck L 42 4 rfl rfl, Option.bind_some, d1, Option.bind_some]
          rfl
        · rw [em]
          unfold jd_327_b75
          rw [n_jw (z := lo) (by omega) (by omega), n_jw (z := hi) (by omega) (by omega), n_jw (z := g) (by omega) (by omega), n_jw (z := e - 1) (by omega) (by omega), if_neg (by omega), if_pos ck.1, if_pos ck.2, d2, Option.bind_some]
          rfl
      · have ec2 : jd_69_s3 42 (some a) (some b) fr to g (hh s Q I) = jd_69_b81 42 (some a) (some b) fr to g lo hi (hh s Q I) := by
          rw [ec]
          by_cases c1 : lo = g
          · rw [if_pos c1, if_neg (fun e => ck ⟨c1, e⟩)]
          · rw [if_neg c1]
        by_cases cs : hi < lo
        · -- none of it
          refine go CuF_0 ?_ ?_ Z (nAh_n ft geb lob hib cs hc)
          · rw [ec2]
            unfold jd_69_b81
            rw [n_jw (z := lo) (by omega) (by omega), n_jw (z := hi) (by omega) (by omega), if_pos cs]
            rfl
          · rw [em]
            unfold jd_327_b75
            rw [n_jw (z := lo) (by omega) (by omega), n_jw (z := hi) (by omega) (by omega), if_pos cs]
            rfl
        · -- made anew
          obtain ⟨S, R, H, J, m', d1, d2, alt⟩ := anewg (b := b) (lo := lo) (hi := hi) (sx := g) Z h0 (Gm_t G0 X.2.2.1) fo0 fof Fo' Co' (by rw [e83]; exact cod) (by rw [e84']; exact e84) (by rw [e85']; exact e85) (by omega) (by omega) (by rw [e87]; omega) g0 (by rw [e87]; exact gT) (Int.le_trans (nAh_le ft (nAh_a ft geb lob hib cs hc)) cT)
          have q9 := F_q Fo' 2 9 rfl rfl
          have c81 : ∀ v : Int, jd_71 42 (some a) (some b) lo hi (I (b + 3) g) (hh s Q I) = some (v, hh S R J) → jd_69_s3 42 (some a) (some b) fr to g (hh s Q I) = if jw v = 0 then some (.inr (.inl (hh S R J))) else some (.inl (g + 1, hh S R J)) := fun v hv => by
            rw [ec2]
            unfold jd_69_b81
            rw [n_jw (z := lo) (by omega) (by omega), n_jw (z := hi) (by omega) (by omega), if_neg cs, Option.bind_some, F_gr Fo', Option.bind_some, q9, Option.bind_some, F_ai Fo' (by omega) (2 + 1) 12 rfl rfl rfl g0 (by omega), Option.bind_some, y_ck L 42 4 rfl rfl, Option.bind_some, show I (b + (2 + 1)) g = I (b + 3) g from rfl, hv, Option.bind_some]
            rfl
          have m75 : ∀ v : Int, jd_329 fo g lo hi m = some (v, m') → jd_327_s3 fo fr to g m = if jw v = 0 then some (.inr (.inl m')) else some (.inl (e, m')) := fun v hv => by
            have b112 : jd_327_b112 fo fr to g e lo hi m = if jw v = 0 then some (.inr (.inl m')) else some (.inl (e, m')) := by
              unfold jd_327_b112
              rw [hv, Option.bind_some]
              rfl
            rw [em]
            unfold jd_327_b75
            rw [n_jw (z := lo) (by omega) (by omega), n_jw (z := hi) (by omega) (by omega), n_jw (z := g) (by omega) (by omega), n_jw (z := e - 1) (by omega) (by omega), if_neg cs, b112]
            by_cases c1 : lo = g
            · rw [if_pos c1, if_neg (fun e => ck ⟨c1, e⟩)]
            · rw [if_neg c1]
          rcases alt with ⟨a1, a2⟩ | ⟨len', a1, a2, a3⟩
          · refine ⟨S, R, H, J, m', CuF_t X d1, d2, Or.inl ⟨fun F' => jlp_r ?_, fun F' => jlp_r ?_⟩⟩
            · show jd_69_s3 42 (some a) (some b) fr to g (hh s Q I) = _
              rw [c81 0 a1, if_pos (by decide)]
            · show jd_327_s3 fo fr to g m = _
              rw [m75 0 a2, if_pos (by decide)]
          · refine go d1 ?_ ?_ a3 (nAh_a ft geb lob hib cs hc)
            · rw [c81 1 a1, if_neg (by decide)]
            · rw [m75 1 a2, if_neg (by decide)]
theorem addrow {s : hS} {Q : hQ} {hm : hO} {I m : jM} {len : Int} (Z : CuI s Q hm I m a f w h T c0 len) (h0 : s0.1 + 11 < 1000000) (G0 : Gm a s0 Q0 s Q) (fo0 : 0 ≤ fo) (fof : fo < f) (f8 : f < 8) (Fo : FilmAt s Q hm b fo) (Co : FilmC s Q I m b fo) (cod : m 83 fo = 0) (e84 : m 84 fo = w) (e85 : m 85 fo = h) (fr0 : 0 ≤ fr) (ft : fr ≤ to) (tT : to < m 87 fo) (cT : c0 + (to - fr + 1) ≤ T) : ∃ (S : hS) (R : hQ) (H : hO) (J m' : jM), CuF s Q hm I m a f S R H J m' ∧ CuB S R H J m' a f w h T ∧ ((jd_69 42 (some a) (some b) fr to (hh s Q I) = some (0, hh S R J) ∧ jd_327 fo fr to m = some (0, m')) ∨ ∃ len' : Int, jd_69 42 (some a) (some b) fr to (hh s Q I) = some (1, hh S R J) ∧ jd_327 fo fr to m = some (1, m') ∧ CuI S R H J m' a f w h T (c0 + (to - fr + 1)) len') := by
  have V := Co.2.2.2.1
  have Tb : m 87 fo ≤ 12 := V.2.1
  have T1 : 1 ≤ m 87 fo := V.1
  obtain ⟨r, hr⟩ : ∃ r : Nat, (0 : Int) + (r : Int) = m 87 fo := ⟨(m 87 fo).toNat, by omega⟩
  obtain ⟨S, R, H, J, m', y1, y2, alt⟩ := addl h0 G0 fo0 fof f8 Fo Co cod e84 e85 fr0 ft tT cT r 0 s Q hm I m c0 len Z CuF_0 (Int.le_refl _) hr (Or.inr (Bgn_0 V)) (Or.inl ⟨fr0, rfl⟩)
  refine ⟨S, R, H, J, m', y1, y2, ?_⟩
  have fu : jfu - (r + 1) + (r + 1) = jfu := Nat.sub_add_cancel (by unfold jfu; omega)
  unfold jd_69 jd_69_l3 jd_327 jd_327_l3
  rcases alt with ⟨a1, a2⟩ | ⟨len', a1, a2, a3⟩
  · have b1 := a1 (jfu - (r + 1))
    have b2 := a2 (jfu - (r + 1))
    rw [fu] at b1 b2
    rw [b1, b2, Option.bind_some, Option.bind_some]
    exact Or.inl ⟨rfl, rfl⟩
  · have b1 := a1 (jfu - (r + 1))
    have b2 := a2 (jfu - (r + 1))
    rw [fu] at b1 b2
    rw [b1, b2, Option.bind_some, Option.bind_some]
    exact Or.inr ⟨len', rfl, rfl, a3⟩
end AddRow
