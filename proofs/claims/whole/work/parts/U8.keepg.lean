/-! cutting: a group kept, both sides -/
section KeepG
variable {s s0 S : hS} {Q Q0 R : hQ} {hm H : hO} {I J m m' : jM} {a b : Nat} {f fo w h T len cnt st e c n v t : Int}
/-- whether kept, told by the model for places from c on -/
def m134 (m : jM) (c t v : Int) : jM := ims m 134 (fun x => if c ≤ x ∧ x < c + t then v else m 134 x)
theorem m134_o {y : Nat} (hy : y ≠ 134) : m134 m c t v y = m y := ims_o hy
theorem m134_0 : m134 m c 0 v = m := by
  funext y i
  by_cases e : y = 134
  · rw [e]
    unfold m134
    rw [ims_e, if_neg (by omega)]
  · rw [m134_o e]
theorem m134_s (t0 : 0 ≤ t) : jms (m134 m c t v) 134 (c + t) v = m134 m c (t + 1) v := by
  funext y i
  by_cases e : y = 134
  · rw [e]
    by_cases d : i = c + t
    · rw [d, jms_e]
      unfold m134
      rw [ims_e, if_pos (by omega)]
    · rw [jms_i d]
      unfold m134
      rw [ims_e, ims_e]
      by_cases d2 : c ≤ i ∧ i < c + t
      · rw [if_pos d2, if_pos (by omega)]
      · rw [if_neg d2, if_neg (by omega)]
  · rw [jms_o e, m134_o e, m134_o e]
theorem k_107 (h91 : m 76 91 = c) (c0 : 0 ≤ c) (n0 : 0 ≤ e - st) (n1 : c + (e - st) ≤ 12) : jd_328_l107 st e 0 m = some (m134 m c (e - st) 1) := by
  unfold jd_328_l107
  have := w_for (f := fun u : (Int × jM) => jd_328_s107 st e u.1 u.2) (fun k => ((k : Int), m134 m c (k : Int) 1)) (e - st).toNat (x := m134 m c (e - st) 1) (fun k hk => by
    dsimp only
    unfold jd_328_s107
    rw [n_jw (z := e - st) (by omega) (by omega), n_jw (z := (k : Int)) (by omega) (by omega), if_neg (by omega), m134_o (by decide), h91, y_mw 134 12 rfl rfl (by omega) (by omega), Option.bind_some, m134_s (by omega), show ((k + 1 : Nat) : Int) = (k : Int) + 1 by omega]) (by
    dsimp only
    rw [show (((e - st).toNat : Nat) : Int) = e - st by omega]
    unfold jd_328_s107
    rw [if_pos (Int.le_refl _)]) (n_fu (by omega))
  rw [show ((0 : Nat) : Int) = 0 from rfl, m134_0] at this
  exact this
theorem k_71 {x1 x2 lo hi : Int} (h91 : m 76 91 = c) (c0 : 0 ≤ c) (n0 : 0 ≤ hi - lo) (n1 : c + (hi - lo + 1) ≤ 12) : jd_329_l71 x1 x2 lo hi 0 m = some (m134 m c (hi - lo + 1) 0) := by
  unfold jd_329_l71
  have := w_for (f := fun u : (Int × jM) => jd_329_s71 x1 x2 lo hi u.1 u.2) (fun k => ((k : Int), m134 m c (k : Int) 0)) (hi - lo + 1).toNat (x := m134 m c (hi - lo + 1) 0) (fun k hk => by
    dsimp only
    unfold jd_329_s71
    rw [n_jw (z := hi - lo) (by omega) (by omega), n_jw (z := (k : Int)) (by omega) (by omega), if_neg (by omega), m134_o (by decide), h91, y_mw 134 12 rfl rfl (by omega) (by omega), Option.bind_some, m134_s (by omega), show ((k + 1 : Nat) : Int) = (k : Int) + 1 by omega]) (by
    dsimp only
    rw [show (((hi - lo + 1).toNat : Nat) : Int) = hi - lo + 1 by omega]
    unfold jd_329_s71
    rw [n_jw (z := hi - lo) (by omega) (by omega), n_jw (z := hi - lo + 1) (by omega) (by omega), if_pos (by omega)]) (n_fu (by omega))
  rw [show ((0 : Nat) : Int) = 0 from rfl, m134_0] at this
  exact this
/-- t pictures of the group are kept -/
def KpI (s : hS) (Q : hQ) (hm : hO) (I m : jM) (a : Nat) (f w h T fo cnt st e t : Int) (S : hS) (R : hQ) (H : hO) (J m' : jM) : Prop := CuB S R H J m' a f w h T ∧ CuF s Q hm I m a f S R H J m' ∧ (∃ len', FBm S R H J m' a f len' ∧ (7 ≤ len' ∧ len' ≤ 7 + 2005 * (cnt + t)) ∧ HBy (m' 112) (J (a + 1)) (J (a + 2)) 0 (cnt + t) len') ∧ J 42 5 = cnt + t ∧ (m' 76 91 = cnt ∧ m' 134 = m 134) ∧ (∀ q : Int, q < cnt → J (a + 1) q = I (a + 1) q ∧ J (a + 2) q = I (a + 2) q) ∧ (∀ j : Int, 0 ≤ j → j < t → J (a + 1) (cnt + j) = m 90 (12 * fo + (st + j)) ∧ J (a + 2) (cnt + j) = cnt + (m 91 (12 * fo + (st + j)) - st) ∧ J (a + 8) (cnt + (m 91 (12 * fo + (st + j)) - st)) = 1) ∧ ∀ x : Int, x < cnt ∨ cnt + (e - st) ≤ x → J (a + 8) x = I (a + 8) x
theorem keepl (Z : CuI s Q hm I m a f w h T cnt len) (h0 : s0.1 + 11 < 1000000) (G0 : Gm a s0 Q0 s Q) (fo0 : 0 ≤ fo) (fof : fo < f) (Fo : FilmAt s Q hm b fo) (Co : FilmC s Q I m b fo) (cod : m 83 fo = 0) (st0 : 0 ≤ st) (se : st < e) (eT : e ≤ m 87 fo) (G : Bgn (fun k => m 90 (12 * fo + k)) (fun k => m 91 (12 * fo + k)) (m 87 fo) st) (G' : e = m 87 fo ∨ Bgn (fun k => m 90 (12 * fo + k)) (fun k => m 91 (12 * fo + k)) (m 87 fo) e) (cT : cnt + (e - st) ≤ T) : ∃ (S : hS) (R : hQ) (H : hO) (J m' : jM), jd_70_l9 42 (some a) (some b) st e cnt st (hh s Q I) = some (hh S R J) ∧ jd_328_l3 fo st e st st m = some m' ∧ KpI s Q hm I m a f w h T fo cnt st e (e - st) S R H J m' := by
  obtain ⟨zC, zB, zl, zW, ⟨c0, c1, i5, m91⟩, zO, zk, z8⟩ := id Z
  have T2 : T ≤ 12 := zC.2.2.2.1.2.1
  have f8 : f < 8 := zC.1.2.2.2
  have V := Co.2.2.2.1
  have Tb : m 87 fo ≤ 12 := V.2.1
  have gb := fun (j : Int) (j0 : 0 ≤ j) (j1 : j < e - st) => gpb V st0 se eT G G' (j := st + j) (by omega) (by omega)
  have step : ∀ (t : Nat) (u : Int × jH) (v : Int × jM), t ≤ (e - st).toNat → (∃ (S : hS) (R : hQ) (H : hO) (J m' : jM), u = (st + (t : Int), hh S R J) ∧ v = (st + (t : Int), m') ∧ KpI s Q hm I m a f w h T fo cnt st e (t : Int) S R H J m') → (∃ u' v', (fun u : (Int × jH) => jd_70_s9 42 (some a) (some b) st e cnt u.1 u.2) u = some (.inl u') ∧ (fun u : (Int × jM) => jd_328_s3 fo st e st u.1 u.2) v = some (.inl v') ∧ t < (e - st).toNat ∧ (∃ (S : hS) (R : hQ) (H : hO) (J m' : jM), u' = (st + ((t + 1 : Nat) : Int), hh S R J) ∧ v' = (st + ((t + 1 : Nat) : Int), m') ∧ KpI s Q hm I m a f w h T fo cnt st e ((t + 1 : Nat) : Int) S R H J m')) ∨ (∃ x y, (fun u : (Int × jH) => jd_70_s9 42 (some a) (some b) st e cnt u.1 u.2) u = some (.inr x) ∧ (fun u : (Int × jM) => jd_328_s3 fo st e st u.1 u.2) v = some (.inr y) ∧ ∃ (S : hS) (R : hQ) (H : hO) (J m' : jM), x = hh S R J ∧ y = m' ∧ KpI s Q hm I m a f w h T fo cnt st e (e - st) S R H J m') := by
    intro t u v ht Y
    obtain ⟨S, R, H, J, m', rfl, rfl, X⟩ := Y
    dsimp only
    by_cases ct : t = (e - st).toNat
    · have te : st + (t : Int) = e := by omega
      refine Or.inr ⟨hh S R J, m', ?_, ?_, S, R, H, J, m', rfl, rfl, ?_⟩
      · unfold jd_70_s9
        rw [te, if_pos (Int.le_refl _)]
      · unfold jd_328_s3
        rw [te, if_pos (Int.le_refl _)]
      · rw [show e - st = (t : Int) by omega]
        exact X
    · have tn : (t : Int) < e - st := by omega
      obtain ⟨xC, xF, ⟨len', xB, ⟨xl1, xl2⟩, xW⟩, x5, ⟨x91, x134⟩, x6, x7, x8⟩ := X
      obtain ⟨Fo', Co'⟩ := old_now fo0 fof f8 Fo Co xF
      have M := xF.2.1.1
      have e83 : m' 83 = m 83 := M 83 (by decide) (by decide) (by decide) (by decide)
      have e87 : m' 87 = m 87 := M 87 (by decide) (by decide) (by decide) (by decide)
      have e90 : m' 90 = m 90 := M 90 (by decide) (by decide) (by decide) (by decide)
      have e91 : m' 91 = m 91 := M 91 (by decide) (by decide) (by decide) (by decide)
      have g3 := (Gm_3 (Gm_t G0 xF.2.2.1)).1
      have gt := gb (t : Int) (by omega) tn
      obtain ⟨S2, R2, H2, J2, m2, len2, d1, d2, d3, d4, d5, d6, d7, d8, d9, ⟨da, db, dc⟩, dd, de⟩ := keep1 (b := b) (k := st + (t : Int)) (q := cnt + (t : Int)) (x2 := st) (x3 := e) (x4 := st) (base := cnt) (np := cnt + (m 91 (12 * fo + (st + (t : Int))) - st)) xC xB xl1 xl2 xW (by omega) (by omega) x5 (by omega) fo0 fof Fo' Co' (by rw [e83]; exact cod) (by omega) (by rw [e87]; omega) (by omega) (by omega) (by rw [e91]; omega) (by omega) (by omega) x91
      refine Or.inl ⟨_, _, d1, d2, by omega, S2, R2, H2, J2, m2, by rw [show st + (t : Int) + 1 = st + ((t + 1 : Nat) : Int) by omega], by rw [show st + (t : Int) + 1 = st + ((t + 1 : Nat) : Int) by omega], d4, CuF_t xF d3, ⟨len2, d5, ⟨d6.1, by rw [show cnt + ((t + 1 : Nat) : Int) = cnt + (t : Int) + 1 by omega]; exact d6.2⟩, by rw [show cnt + ((t + 1 : Nat) : Int) = cnt + (t : Int) + 1 by omega]; exact d7⟩, by rw [d8]; omega, ⟨d9.1, d9.2.trans x134⟩, fun q hq => ?_, fun j j0 j1 => ?_, fun x hx => ?_⟩
      · rw [(dd q (by omega)).1, (dd q (by omega)).2]
        exact x6 q hq
      · by_cases cj : j = (t : Int)
        · rw [cj]
          exact ⟨da.trans (by rw [e90]), db, dc⟩
        · have gj := gb j j0 (by omega)
          have dj := PV_dj V (i := st + j) (j := st + (t : Int)) (by omega) (by omega) (by omega)
          obtain ⟨y1, y2, y3⟩ := x7 j j0 (by omega)
          refine ⟨by rw [(dd (cnt + j) (by omega)).1]; exact y1, by rw [(dd (cnt + j) (by omega)).2]; exact y2, ?_⟩
          rw [de _ (by omega)]
          exact y3
      · rw [de x (by omega)]
        exact x8 x hx
  obtain ⟨x, y, e1, e2, S, R, H, J, m', hx, hy, X⟩ := w_lp2 (f := fun u : (Int × jH) => jd_70_s9 42 (some a) (some b) st e cnt u.1 u.2) (g := fun u : (Int × jM) => jd_328_s3 fo st e st u.1 u.2) (Q := fun x y => ∃ (S : hS) (R : hQ) (H : hO) (J m' : jM), x = hh S R J ∧ y = m' ∧ KpI s Q hm I m a f w h T fo cnt st e (e - st) S R H J m') (fun t u v => ∃ (S : hS) (R : hQ) (H : hO) (J m' : jM), u = (st + (t : Int), hh S R J) ∧ v = (st + (t : Int), m') ∧ KpI s Q hm I m a f w h T fo cnt st e (t : Int) S R H J m') (e - st).toNat step (n_fu (by omega)) (n_fu (by omega)) (s0 := (st, hh s Q I)) (t0 := (st, m)) ⟨s, Q, hm, I, m, by rw [show st + ((0 : Nat) : Int) = st by omega], by rw [show st + ((0 : Nat) : Int) = st by omega], zC, CuF_0, ⟨len, zB, ⟨zl.1, by rw [show cnt + ((0 : Nat) : Int) = cnt by omega]; exact zl.2⟩, by rw [show cnt + ((0 : Nat) : Int) = cnt by omega]; exact zW⟩, by rw [i5]; omega, ⟨m91, rfl⟩, fun _ _ => ⟨rfl, rfl⟩, fun j j0 j1 => absurd j1 (by omega), fun _ _ => rfl⟩
  exact ⟨S, R, H, J, m', by unfold jd_70_l9; rw [e1, hx], by unfold jd_328_l3; rw [e2, hy], X⟩
theorem keepg (Z : CuI s Q hm I m a f w h T cnt len) (h0 : s0.1 + 11 < 1000000) (G0 : Gm a s0 Q0 s Q) (fo0 : 0 ≤ fo) (fof : fo < f) (Fo : FilmAt s Q hm b fo) (Co : FilmC s Q I m b fo) (cod : m 83 fo = 0) (st0 : 0 ≤ st) (se : st < e) (eT : e ≤ m 87 fo) (G : Bgn (fun k => m 90 (12 * fo + k)) (fun k => m 91 (12 * fo + k)) (m 87 fo) st) (G' : e = m 87 fo ∨ Bgn (fun k => m 90 (12 * fo + k)) (fun k => m 91 (12 * fo + k)) (m 87 fo) e) (cT : cnt + (e - st) ≤ T) : ∃ (S : hS) (R : hQ) (H : hO) (J m' : jM) (len' : Int), jd_70 42 (some a) (some b) st e (hh s Q I) = some (hh S R J) ∧ jd_328 fo st e st m = some m' ∧ CuF s Q hm I m a f S R H J m' ∧ CuI S R H J m' a f w h T (cnt + (e - st)) len' := by
  obtain ⟨S, R, H, J, m1, e1, e2, xC, xF, ⟨len', xB, ⟨xl1, xl2⟩, xW⟩, x5, ⟨x91, x134⟩, x6, x7, x8⟩ := keepl Z h0 G0 fo0 fof Fo Co cod st0 se eT G G' cT
  obtain ⟨zC, zB, zl, zW, ⟨c0, c1, i5, m91⟩, zO, zk, z8⟩ := id Z
  have T2 : T ≤ 12 := zC.2.2.2.1.2.1
  have V := Co.2.2.2.1
  have Tb : m 87 fo ≤ 12 := V.2.1
  have L := zC.1.1
  have gb := fun (j : Int) (j0 : 0 ≤ j) (j1 : j < e - st) => gpb V st0 se eT G G' (j := st + j) (by omega) (by omega)
  have k107 := k_107 (m := m1) (st := st) (e := e) x91 c0 (by omega) (by omega)
  obtain ⟨m2, hm2⟩ : ∃ m2, m2 = m134 m1 cnt (e - st) 1 := ⟨_, rfl⟩
  rw [← hm2] at k107
  have n91 : m2 76 91 = cnt := by rw [hm2, m134_o (by decide)]; exact x91
  obtain ⟨m3, hm3⟩ : ∃ m3, m3 = jms m2 76 91 (cnt + (e - st)) := ⟨_, rfl⟩
  have o3 : ∀ y : Nat, y ≠ 76 → y ≠ 134 → m3 y = m1 y := fun y h1 h2 => by rw [hm3, jms_o h1, hm2, m134_o h2]
  have z3 : ∀ y : Int, y ≠ 91 → m3 76 y = m1 76 y := fun y hy => by rw [hm3, jms_i hy, hm2, m134_o (by decide)]
  have r134 : ∀ x : Int, m3 134 x = if cnt ≤ x ∧ x < cnt + (e - st) then 1 else m 134 x := fun x => by
    rw [hm3, jms_o (by decide), hm2]
    unfold m134
    rw [ims_e, x134]
  have F2 : CuF S R H J m1 a f S R H J m3 := CuF_m ⟨fun c c1 c2 c3 c4 => o3 c c1 c4, fun z h1 h2 => z3 z h2⟩ (fun i _ => by rw [o3 112 (by decide) (by decide)])
  refine ⟨S, R, H, J, m3, len', ?_, ?_, CuF_t xF F2, CuB_fr xC F2 xC.1.1 xC.1.2.1 xC.2.1 xC.2.2.2.1.2.2 xC.2.2.2.2.2, FBm_m (z3 47 (by decide)) (fun i _ _ => by rw [o3 112 (by decide) (by decide)]) xB, ⟨xl1, xl2⟩, by rw [o3 112 (by decide) (by decide)]; exact xW, ⟨by omega, cT, x5, by rw [hm3, jms_e]⟩, ?_, fun k k0 k1 => ?_, fun x h1 h2 => ?_⟩
  · unfold jd_70
    have i5' : I 42 ((5 : Nat) : Int) = cnt := i5
    rw [y_gi L 42 4 rfl rfl, Option.bind_some, i5', e1, Option.bind_some]
  · unfold jd_328
    rw [e2, Option.bind_some, k107, Option.bind_some, n91, Option.bind_some, hm3]
  · refine OrdC_app c0 (by omega) (OrdC_c (fun k k0 k1 => x6 k k1) zO) (OrdC_kp V st0 se eT G G') (fun j j0 j1 => ?_)
    obtain ⟨y1, y2, -⟩ := x7 j j0 j1
    exact ⟨y1, y2⟩
  · rw [r134]
    by_cases ck : k < cnt
    · have ob := (zO.2 k k0 ck).2.1
      rw [(x6 k ck).2, x8 _ (Or.inl (by omega)), if_neg (by omega)]
      exact zk k k0 ck
    · obtain ⟨y1, y2, y3⟩ := x7 (k - cnt) (by omega) (by omega)
      have gj := gb (k - cnt) (by omega) (by omega)
      rw [show cnt + (k - cnt) = k by omega] at y1 y2
      rw [y2, y3, if_pos (by omega)]
  · rw [x8 x (Or.inr h1)]
    exact z8 x (by omega) h2
end KeepG
