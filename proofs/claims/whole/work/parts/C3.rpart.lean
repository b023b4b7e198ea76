/-! a part read by both sides, from its way on -/
section RPart
variable {s : hS} {Q : hQ} {hm : hO} {I m : jM} {A p b1 b2 : Nat} {base i en w h k q md kd st x3 way a1 a2 g0 g1 g2 g3 : Int}
def PtOk (s : hS) (Q : hQ) (A : Nat) (base en w h k q way x3 : Int) (m I' m' : jM) : Prop := ∃ (V : Int → Int) (i' : Int), (∀ j : Int, 0 ≤ j → j < 4 → -16 ≤ V j ∧ V j ≤ 16 ∧ I' 16 j = V j) ∧ (∀ j : Int, 0 ≤ j → j < 96 → -4095 ≤ I' 15 j ∧ I' 15 j ≤ 4095) ∧ ((∀ j : Int, j < 63 * k + 7 * q ∨ 63 * k + 7 * q + 7 ≤ j → m' 111 j = m 111 j) ∧ m' 111 (63 * k + 7 * q) = way ∧ m' 111 (63 * k + 7 * q + 1) = V 0 ∧ m' 111 (63 * k + 7 * q + 2) = V 1 ∧ m' 111 (63 * k + 7 * q + 3) = V 2 ∧ m' 111 (63 * k + 7 * q + 4) = V 3 ∧ m' 111 (63 * k + 7 * q + 5) = lcs (I' 15) 6 ∧ m' 111 (63 * k + 7 * q + 6) = i' - x3) ∧ (∀ pl x y : Int, 0 ≤ pl → pl ≤ 2 → 0 ≤ x → x < pw w pl → 0 ≤ y → y < pw h pl → (inP pl (q % (w / 8)) (q / (w / 8)) x y → I' 14 (ppb pl + ((y - q / (w / 8) * sdOf pl) * sdOf pl + (x - q % (w / 8) * sdOf pl))) = m' 109 (864 * k + (pf pl + (y * pw w pl + x))) ∧ 0 ≤ m' 109 (864 * k + (pf pl + (y * pw w pl + x))) ∧ m' 109 (864 * k + (pf pl + (y * pw w pl + x))) ≤ 255) ∧ (¬ inP pl (q % (w / 8)) (q / (w / 8)) x y → m' 109 (864 * k + (pf pl + (y * pw w pl + x))) = m 109 (864 * k + (pf pl + (y * pw w pl + x))))) ∧ (∀ j : Int, j < 864 * k ∨ 864 * k + 864 ≤ j → m' 109 j = m 109 j) ∧ BM s Q I' m' 10 A base i' en
theorem k_265z {x2 : Int} : ∃ G, jd_265_l94 k x2 x3 0 m = some (ims m 115 G) ∧ ∀ j : Int, 0 ≤ j → j < 96 → G j = 0 := by
  have l : jd_265_l94 k x2 x3 0 m = some (ims m 115 (wf (fun i => i) (fun _ _ => 0) (m 115) 96)) := by
    have := lpM (f := fun u : (Int × jM) => jd_265_s94 k x2 x3 u.1 u.2) (ct := fun k => k) (ix := fun i => i) (v := fun _ _ => 0) (m := m) (a := 115) 96 (fun k G hk => by
      dsimp only
      unfold jd_265_s94
      rw [n_jw (by omega) (by omega), if_neg (by omega), y_mw 115 96 rfl rfl (by omega) (by omega), Option.bind_some, ims_jms]) (fun G => by
      dsimp only
      unfold jd_265_s94
      exact if_pos (by show (96 : Int) ≤ jw ((96 : Nat) : Int); decide)) (by decide) (m 115)
    rw [ims_self] at this
    exact this
  refine ⟨wf (fun i => i) (fun _ _ => 0) (m 115) 96, l, fun j j0 j1 => ?_⟩
  have := wf_k (ix := fun i => i) (v := fun _ _ => 0) (g := m 115) (n := 96) (k := j.toNat) (by omega) (fun l _ _ => by omega)
  rw [show ((j.toNat : Nat) : Int) = j by omega] at this
  exact this
theorem hwm_n (d1 : 1 ≤ md) (d6 : md ≤ 6) : hwm md kd = hwn md := by
  unfold hwm hwn
  by_cases c : 4 ≤ md
  · rw [if_pos c, if_pos c]
  · rw [if_neg c, if_neg c]
    by_cases c1 : md = 1
    · rw [if_pos c1, if_pos c1]
    · rw [if_neg c1, if_neg c1]
      by_cases c2 : md = 2
      · rw [if_pos c2, if_pos c2]
      · rw [if_neg c2, if_neg c2, if_pos (by omega)]
theorem lcs_0 {g : Int → Int} {n : Nat} (hz : ∀ j : Int, 0 ≤ j → j < 16 * (n : Int) → g j = 0) : lcs g n = 0 := by
  induction n with
  | zero => rfl
  | succ n ih =>
    rw [lcs_s, ih (fun j h0 h1 => hz j h0 (by omega))]
    have := lc_z (g := fun i => g (16 * (n : Int) + i)) (a := 0) (d := 16) (fun j h0 h1 => hz _ (by omega) (by omega))
    rw [show 0 + 16 = 16 from rfl] at this
    rw [this]
    rfl
theorem rpart (L : Lay s Q hm) (h6 : s.1 ≤ 1000000) (P : PcC s Q p) (q2T : Q 11 2 = some p) (hw : I p 0 = w) (hv : I p 1 = h) (sw : isSd w) (sh : isSd h) (mw : m 76 33 = w) (mh : m 76 34 = h) (k0 : 0 ≤ k) (k1 : k < 12) (q0 : 0 ≤ q) (q1 : q < w / 8 * (h / 8)) (eX : I 11 5 = q % (w / 8)) (eY : I 11 6 = q / (w / 8)) (eK : I 11 0 = kd) (mk : m 102 k = kd) (kd0 : 0 ≤ kd) (kd2 : kd ≤ 2) (m0 : 0 ≤ md) (m6 : md ≤ 6) (mz : md = 0 → kd ≠ 0) (hway : jd_261 kd way = if md = 0 then -1 else hwn md) (est : I 11 1 = st) (mst : m 104 k = st) (st0 : 0 ≤ st) (st1 : st ≤ 255) (z60 : m 76 60 = way) (z59 : m 76 59 = 0) (z2 : m 76 62 = 0) (z3 : m 76 63 = 0) (z4 : m 76 64 = 0) (z5 : m 76 65 = 0) (e0 : I 17 0 = g0) (e1 : I 17 1 = g1) (e2 : I 17 2 = g2) (e3 : I 17 3 = g3) (b0 : -16 ≤ g0 ∧ g0 ≤ 16) (b1' : -16 ≤ g1 ∧ g1 ≤ 16) (b2' : -16 ≤ g2 ∧ g2 ≤ 16) (b3 : -16 ≤ g3 ∧ g3 ≤ 16) (O : OnL m k q g0 g1 g2 g3) (R : BM s Q I m 10 A base i en) (E : PrtE p w h k q I m) (Rf : Rfs s Q I m b1 b2 w h k kd (hwm md kd) a1 a2) : ∃ f I' m', jd_119 9 md (hh s Q I) = some (f, hh s Q I') ∧ jd_265_b66 k q x3 m = some m' ∧ m' 76 52 = f ∧ 0 ≤ f ∧ f ≤ 7 ∧ (∀ a : Nat, a ≠ 10 → (a < 12 ∨ 20 < a) → a ≠ 41 → I' a = I a) ∧ (∀ a : Nat, a ≠ 76 → a ≠ 109 → a ≠ 111 → (a < 114 ∨ 117 < a) → m' a = m a) ∧ (∀ j : Int, j < 51 ∨ 65 < j → m' 76 j = m 76 j) ∧ (f ≠ 0 → m' 109 = m 109 ∧ m' 111 = m 111) ∧ (f = 0 → PtOk s Q A base en w h k q way x3 m I' m') := by
  have P1 := P.1
  have qq0 : Q 9 ((0 : Nat) : Int) = some 10 := Lq L rfl
  have qq1 : Q 9 ((1 : Nat) : Int) = some 11 := Lq L rfl
  have qq5 : Q 9 ((5 : Nat) : Int) = some 41 := Lq L rfl
  -- the model up to the vectors
  obtain ⟨G5, e94, hG5⟩ := k_265z (m := jms m 76 61 (jd_261 kd way)) (k := k) (x2 := q) (x3 := x3)
  obtain ⟨M, hM⟩ : ∃ z, z = ims (jms m 76 61 (jd_261 kd way)) 115 G5 := ⟨_, rfl⟩
  rw [← hM] at e94
  have Mo : ∀ a : Nat, a ≠ 76 → a ≠ 115 → M a = m a := fun a c1 c2 => by rw [hM, ims_o c2, jms_o c1]
  have M7 : ∀ j : Int, j ≠ 61 → M 76 j = m 76 j := fun j hj => by rw [hM, ims_o (by decide), jms_i hj]
  have M61 : M 76 61 = jd_261 kd way := by rw [hM, ims_o (by decide), jms_e]
  have M115 : M 115 = G5 := by rw [hM, ims_e]
  have RM : BM s Q I M 10 A base i en := BM_fr R rfl rfl rfl (M7 49 (by decide)) (M7 50 (by decide)) (M7 51 (by decide)) (M7 52 (by decide)) (Mo 112 (by decide) (by decide))
  have OM : OnL M k q g0 g1 g2 g3 := fun m' h1 h2 => O m' (h1.trans (Mo 111 (by decide) (by decide))) (h2.trans (M7 33 (by decide)))
  have B66 : jd_265_b66 k q x3 m = if jw (M 76 61) = -1 then (jd_264 k q M).bind fun m30 => jd_265_b280 k q x3 m30 else vM k q x3 M := by
    unfold jd_265_b66 vM
    rw [if_pos (BM_b1 R), y_ma 102 12 rfl rfl k0 k1, Option.bind_some, mk, Option.bind_some, z60, e94, Option.bind_some]
  have RfW : ∀ (J : jM) (N : jM), (∀ a : Nat, 153 ≤ a → J a = I a) → N 109 = m 109 → N 102 = m 102 → N 76 36 = m 76 36 → Rfs s Q J N b1 b2 w h k kd (hwm md kd) a1 a2 := fun J N hJ h109 h102 h36 => by
    obtain ⟨r0, r1, r2⟩ := Rf
    have tr : ∀ {b : Nat} {a : Int}, RfE s Q I m b w h a → RfE s Q J N b w h a := fun {b a} B => by
      have b153 := B.1.1
      exact ⟨B.1, by rw [hJ b b153]; exact B.2.1, by rw [hJ b b153]; exact B.2.2.1, B.2.2.2.1, B.2.2.2.2.1, by rw [hJ (b + 1) (by omega), h109]; exact B.2.2.2.2.2⟩
    exact ⟨fun e m' c1 c2 => r0 e m' (c1.trans h36) (c2.trans h102), fun e => ⟨(r1 e).1, tr (r1 e).2⟩, fun e => ⟨(r2 e).1, tr (r2 e).2.1, fun m' c1 c2 => (r2 e).2.2 m' (c1.trans h36) (c2.trans h102)⟩⟩
  -- the class from the levels on
  have C2 : ∀ {x74 : (Int × jH) ⊕ jH} {I1 : jM} {Z : Int → Int}, jd_119_l2 9 md 0 (hh s Q I) = some (.inr (.inr (hh s Q I1))) → jd_119_l87 9 md 0 (hh s Q I1) = some (hh s Q (ims I1 15 Z)) → jd_119_l111 9 md 0 (hh s Q (ims I1 15 Z)) = some x74 → jd_119 9 md (hh s Q I) = jse x74 (fun y76 => some (y76.1, y76.2)) (fun y77 => ((jgr y77 9 8 1).bind fun r78 => ((jgr y77 9 8 5).bind fun r80 => ((r78).bind fun a82 => ((jck y77 a82 5).bind fun u84 => ((jd_78 a82 md r80 y77).bind fun h86 => ((jgr h86 9 8 1).bind fun r88 => ((r88).bind fun a90 => ((jck h86 a90 5).bind fun u92 => ((jd_79 a90 md h86).bind fun h94 => ((jgr h94 9 8 1).bind fun r96 => ((r96).bind fun a98 => ((jck h94 a98 5).bind fun u100 => ((jd_90 a98 h94).bind fun h102 => ((jd_119_l168 9 0 h102).bind fun x122 => some (0, x122)))))))))))))))) := fun {x74 I1 Z} c1 c2 c3 => by
    unfold jd_119
    rw [c1, Option.bind_some, jse_r, jse_r, c2, Option.bind_some, c3, Option.bind_some]
  have C3 : ∀ {J I2 I3 I4 I5 : jM}, jd_78 11 md (some 41) (hh s Q J) = some (hh s Q I2) → jd_79 11 md (hh s Q I2) = some (hh s Q I3) → jd_90 11 (hh s Q I3) = some (hh s Q I4) → jd_119_l168 9 0 (hh s Q I4) = some (hh s Q I5) → (((jgr (hh s Q J) 9 8 1).bind fun r78 => ((jgr (hh s Q J) 9 8 5).bind fun r80 => ((r78).bind fun a82 => ((jck (hh s Q J) a82 5).bind fun u84 => ((jd_78 a82 md r80 (hh s Q J)).bind fun h86 => ((jgr h86 9 8 1).bind fun r88 => ((r88).bind fun a90 => ((jck h86 a90 5).bind fun u92 => ((jd_79 a90 md h86).bind fun h94 => ((jgr h94 9 8 1).bind fun r96 => ((r96).bind fun a98 => ((jck h94 a98 5).bind fun u100 => ((jd_90 a98 h94).bind fun h102 => ((jd_119_l168 9 0 h102).bind fun x122 => some (0, x122))))))))))))))) : Option (Int × jH)) = some (0, hh s Q I5) := fun {J I2 I3 I4 I5} c1 c2 c3 c4 => by
    rw [y_gr L 9 8 rfl rfl, Option.bind_some, y_gr L 9 8 rfl rfl, Option.bind_some, qq1, Option.bind_some, y_ck L 11 5 rfl rfl, Option.bind_some, qq5, c1, Option.bind_some, y_gr L 9 8 rfl rfl, Option.bind_some, qq1, Option.bind_some, y_ck L 11 5 rfl rfl, Option.bind_some, c2, Option.bind_some, y_gr L 9 8 rfl rfl, Option.bind_some, qq1, Option.bind_some, y_ck L 11 5 rfl rfl, Option.bind_some, c3, Option.bind_some, c4, Option.bind_some]
  by_cases cz : md = 0
  · -- skipped
    have w1 : jd_261 kd way = -1 := by rw [hway, if_pos cz]
    have n77 : ∀ j : Int, 0 ≤ j → j < 4 → jw (jd_77 md j) = 0 := fun j j0 j1 => by
      have : ∀ b : Fin 4, jw (jd_77 0 (b.val : Int)) = 0 := by decide
      have := this ⟨j.toNat, by omega⟩
      dsimp only at this
      rw [show ((j.toNat : Nat) : Int) = j by omega] at this
      rw [cz]; exact this
    have l2 : jd_119_l2 9 md 0 (hh s Q I) = some (.inr (.inr (hh s Q I))) := by
      unfold jd_119_l2
      rw [show jfu = 99999995 + 1 + 1 + 1 + 1 + 1 from rfl, jlp_i (f := fun u : (Int × jH) => jd_119_s2 9 md u.1 u.2) (vec0 (x := 0) (by decide) (by decide) (n77 0 (by decide) (by decide))), jlp_i (f := fun u : (Int × jH) => jd_119_s2 9 md u.1 u.2) (vec0 (x := 0 + 1) (by decide) (by decide) (n77 (0 + 1) (by decide) (by decide))), jlp_i (f := fun u : (Int × jH) => jd_119_s2 9 md u.1 u.2) (vec0 (x := 0 + 1 + 1) (by decide) (by decide) (n77 (0 + 1 + 1) (by decide) (by decide))), jlp_i (f := fun u : (Int × jH) => jd_119_s2 9 md u.1 u.2) (vec0 (x := 0 + 1 + 1 + 1) (by decide) (by decide) (n77 (0 + 1 + 1 + 1) (by decide) (by decide)))]
      refine jlp_r ?_
      unfold jd_119_s2
      dsimp only
      rw [if_pos (by decide)]
    obtain ⟨Z, e87, hZ⟩ := c_119z (I := I) (md := md) L
    have l111 : jd_119_l111 9 md 0 (hh s Q (ims I 15 Z)) = some (.inr (hh s Q (ims I 15 Z))) := by
      unfold jd_119_l111
      refine jlp_1 (f := fun u : (Int × jH) => jd_119_s111 9 md u.1 u.2) (t := (0, hh s Q (ims I 15 Z))) ?_ _
      unfold jd_119_s111
      dsimp only
      rw [if_neg (by decide), cz, if_pos (by decide)]
    obtain ⟨J, hJ⟩ : ∃ J, J = ims I 15 Z := ⟨_, rfl⟩
    have Jo : ∀ a : Nat, a ≠ 15 → J a = I a := fun a ha => by rw [hJ]; exact ims_o ha
    have J15 : J 15 = Z := by rw [hJ, ims_e]
    -- the model's vectors
    obtain ⟨V, hV⟩ : ∃ V : Int → Int, V = fun j => if kd = 1 ∧ j = 0 then g0 else if kd = 1 ∧ j = 1 then g1 else 0 := ⟨_, rfl⟩
    have hwk : hwm md kd = if kd = 1 then 3 else 5 := by
      rw [cz]
      have := mz cz
      unfold hwm
      rw [if_neg (by decide), if_neg (by decide), if_neg (by decide), if_neg (by decide)]
      by_cases c : kd = 1
      · rw [if_neg (by omega), if_pos c]
      · rw [if_pos (by omega), if_neg c]
    obtain ⟨N, hN⟩ : ∃ N, N = jms (jms (jms (jms (jms M 76 61 (if kd = 1 then 3 else 5)) 76 62 (V 0)) 76 63 (V 1)) 76 64 0) 76 65 0 := ⟨_, rfl⟩
    have e264 : jd_264 k q M = some N := by
      have mk' : M 102 k = kd := by rw [Mo 102 (by decide) (by decide)]; exact mk
      unfold jd_264 jd_264_b41 jd_264_b66
      rw [y_ma 102 12 rfl rfl k0 k1, Option.bind_some, mk', n_jw (z := kd) (by omega) (by omega), Option.bind_some, y_ma 102 12 rfl rfl k0 k1, Option.bind_some, jms_o (show (102 : Nat) ≠ 76 by decide), mk', n_jw (z := kd) (by omega) (by omega)]
      by_cases c : kd = 1
      · have v0 : V 0 = g0 := by rw [hV]; exact if_pos ⟨c, rfl⟩
        have v1 : V 1 = g1 := by rw [hV]; dsimp only; rw [if_neg (by omega), if_pos ⟨c, rfl⟩]
        have o1 := (OM (jms M 76 61 (if kd = 1 then 3 else 5)) (jms_o (by decide)) (jms_i (by decide))).1
        have o2 := (OM (jms (jms M 76 61 (if kd = 1 then 3 else 5)) 76 62 g0) ((jms_o (by decide)).trans (jms_o (by decide))) ((jms_i (by decide)).trans (jms_i (by decide)))).2.1
        rw [if_pos c] at o1 o2
        rw [if_pos c, if_pos c]
        rw [o1, Option.bind_some, Option.bind_some, y_ma 102 12 rfl rfl k0 k1, Option.bind_some, jms_o (show (102 : Nat) ≠ 76 by decide), jms_o (show (102 : Nat) ≠ 76 by decide), mk', n_jw (z := kd) (by omega) (by omega), if_pos c, o2, Option.bind_some, Option.bind_some, Option.bind_some, Option.bind_some, hN, v0, v1, if_pos c]
      · have v0 : V 0 = 0 := by rw [hV]; dsimp only; rw [if_neg (by omega), if_neg (by omega)]
        have v1 : V 1 = 0 := by rw [hV]; dsimp only; rw [if_neg (by omega), if_neg (by omega)]
        rw [if_neg c, if_neg c, Option.bind_some, y_ma 102 12 rfl rfl k0 k1, Option.bind_some, jms_o (show (102 : Nat) ≠ 76 by decide), jms_o (show (102 : Nat) ≠ 76 by decide), mk', n_jw (z := kd) (by omega) (by omega), if_neg c, Option.bind_some, Option.bind_some, Option.bind_some, hN, v0, v1, if_neg c]
    have No : ∀ a : Nat, a ≠ 76 → N a = M a := fun a ha => by rw [hN, jms_o ha, jms_o ha, jms_o ha, jms_o ha, jms_o ha]
    have N7 : ∀ j : Int, j < 61 ∨ 65 < j → N 76 j = M 76 j := fun j hj => by rw [hN, jms_i (by omega), jms_i (by omega), jms_i (by omega), jms_i (by omega), jms_i (by omega)]
    have RN : BM s Q J N 10 A base i en := BM_fr RM (Jo A (BM_A L R rfl (by decide))) (by rw [Jo 10 (by decide)]) (by rw [Jo 10 (by decide)]) (N7 49 (by decide)) (N7 50 (by decide)) (N7 51 (by decide)) (N7 52 (by decide)) (No 112 (by decide))
    obtain ⟨I2, I3, I4, I5, m', t1, t2, t3, t4, t5, t6, t7, t8, t9, t10, t11, t12⟩ := ptail (I := J) (m := N) (V := V) (way := way) (st := st) (x3 := x3) (a1 := a1) (a2 := a2) (b1 := b1) (b2 := b2) (kd := kd) (md := md) L h6 P q2T (by rw [Jo p (by omega)]; exact hw) (by rw [Jo p (by omega)]; exact hv) sw sh (by rw [N7 33 (by decide), M7 33 (by decide)]; exact mw) (by rw [N7 34 (by decide), M7 34 (by decide)]; exact mh) k0 k1 q0 q1 (by rw [Jo 11 (by decide)]; exact eX) (by rw [Jo 11 (by decide)]; exact eY) (by rw [Jo 11 (by decide)]; exact eK) (by rw [No 102 (by decide), Mo 102 (by decide) (by decide)]; exact mk) kd0 kd2 m0 m6 (by rw [Jo 11 (by decide)]; exact est) st0 st1 (fun j j0 j1 => by
      rw [hV]
      dsimp only
      split
      · exact b0
      · split
        · exact b1'
        · decide) (fun j j0 j1 => by
      rw [if_neg (fun e => e (n77 j j0 j1)), hV]
      dsimp only
      by_cases c : kd = 1
      · by_cases c0 : j = 0
        · rw [if_pos ⟨cz, c, by omega⟩, if_pos ⟨c, c0⟩, c0, Jo 17 (by decide)]; exact e0
        · by_cases c1 : j = 1
          · rw [if_pos ⟨cz, c, by omega⟩, if_neg (by omega), if_pos ⟨c, c1⟩, c1, Jo 17 (by decide)]; exact e1
          · rw [if_neg (by omega), if_neg (by omega), if_neg (by omega)]
      · rw [if_neg (by omega), if_neg (by omega), if_neg (by omega)]) (by rw [hwk, hN, jms_i (by decide), jms_i (by decide), jms_i (by decide), jms_i (by decide), jms_e]) (by rw [hN, jms_i (by decide), jms_i (by decide), jms_i (by decide), jms_e]) (by rw [hN, jms_i (by decide), jms_i (by decide), jms_e]) (by rw [hN, jms_i (by decide), jms_e, hV]; dsimp only; rw [if_neg (by omega), if_neg (by omega)]) (by rw [hN, jms_e, hV]; dsimp only; rw [if_neg (by omega), if_neg (by omega)]) (by rw [N7 60 (by decide), M7 60 (by decide)]; exact z60) (by rw [N7 59 (by decide), M7 59 (by decide), z59, J15, lcs_0 (fun j h0 h1 => hZ j h0 (by omega))]) (fun j h0 h1 => by rw [J15, hZ j h0 h1]; decide) (fun b r c h0 h1 r0 r1 c0 c1 => by
      have rg := cb_r h0 h1 r0 r1 c0 c1
      rw [No 115 (by decide), M115, hG5 _ rg.1 rg.2, J15, rsB_0 (fun j j0 j1 => hZ _ (by omega) (by omega))]) RN (fun pl x y p0 p2 x0 x1 y0 y1 hl => by
      rw [Jo (p + 1) (by omega), No 109 (by decide), Mo 109 (by decide) (by decide)]
      exact E pl x y p0 p2 x0 x1 y0 y1 hl) (RfW J N (fun a ha => Jo a (by omega)) ((No 109 (by decide)).trans (Mo 109 (by decide) (by decide))) ((No 102 (by decide)).trans (Mo 102 (by decide) (by decide))) ((N7 36 (by decide)).trans (M7 36 (by decide))))
    have n109 : N 109 = m 109 := (No 109 (by decide)).trans (Mo 109 (by decide) (by decide))
    have n111 : N 111 = m 111 := (No 111 (by decide)).trans (Mo 111 (by decide) (by decide))
    rw [n109] at t10 t11
    rw [n111] at t9
    have i15 : I5 15 = J 15 := t6 15 (by decide) (by decide) (by decide) (by decide) (by decide) (by decide) (by decide)
    refine ⟨0, I5, m', ?_, ?_, t12.2.1.1, by decide, by decide, fun a c1 c2 c3 => ?_, fun a c1 c2 c3 c4 => ?_, fun j hj => ?_, fun e => absurd rfl e, fun _ => ⟨V, i, fun j j0 j1 => ⟨?_, ?_, t7 j j0 j1⟩, fun j h0 h1 => by rw [i15, J15, hZ j h0 h1]; decide, by rw [i15]; exact t9, t10, t11, t12⟩⟩
    · rw [C2 l2 e87 l111, jse_r, ← hJ]
      exact C3 t1 t2 t3 t4
    · rw [B66, if_pos (show jw (M 76 61) = -1 by rw [M61, w1]; decide), e264, Option.bind_some]
      exact t5
    · rw [t6 a (by omega) (by omega) (by omega) (by omega) (by omega) (by omega) (by omega)]
      exact Jo a (by omega)
    · rw [t8 a c2 c3 (by omega), No a c1]
      exact Mo a c1 (by omega)
    · rw [t8 76 (by decide) (by decide) (by decide), N7 j (by omega)]
      exact M7 j (by omega)
    · rw [hV]; dsimp only; split
      · exact b0.1
      · split
        · exact b1'.1
        · decide
    · rw [hV]; dsimp only; split
      · exact b0.2
      · split
        · exact b1'.2
        · decide
  · -- told
    have d1 : 1 ≤ md := by omega
    have w1 : jd_261 kd way = hwn md := by rw [hway, if_neg cz]
    have hn0 : 0 ≤ hwn md ∧ hwn md ≤ 5 := by
      unfold hwn
      split
      · omega
      · split
        · omega
        · split <;> omega
    have ne1 : ¬ jw (M 76 61) = -1 := by rw [M61, w1, n_jw (by omega) (by omega)]; omega
    rw [if_neg ne1] at B66
    rcases vecs (k := k) (q := q) (x3 := x3) L h6 RM d1 m6 (by rw [M61]; exact w1) ((M7 62 (by decide)).trans z2) ((M7 63 (by decide)).trans z3) ((M7 64 (by decide)).trans z4) ((M7 65 (by decide)).trans z5) e0 e1 e2 e3 b0 b1' b2' b3 OM with ⟨V, I1, m1, i1, v1, v2, v3, v4, v5, v6, v7, v8, v9, v10, v11⟩ | ⟨f, X, I1, m1, v1, v2, v3, v4, v5, v6, v7, v8, v9⟩
    · obtain ⟨Z, e87, hZ⟩ := c_119z (I := I1) (md := md) L
      obtain ⟨J, hJ⟩ : ∃ J, J = ims I1 15 Z := ⟨_, rfl⟩
      have Jo : ∀ a : Nat, a ≠ 15 → J a = I1 a := fun a ha => by rw [hJ]; exact ims_o ha
      have J15 : J 15 = Z := by rw [hJ, ims_e]
      have A15 : A ≠ 15 := BM_A L R rfl (by decide)
      have RJ : BM s Q J m1 10 A base i1 en := BM_fr v11 (Jo A A15) (by rw [Jo 10 (by decide)]) (by rw [Jo 10 (by decide)]) rfl rfl rfl rfl rfl
      obtain ⟨x, y, ex, ey, f, I2, c1, c2, c3, c4, c5, c6⟩ := blocks (md := md) (q := q) (x3 := x3) (st := st) L RJ d1 m6 k0 k1 (by rw [v4 104 (by decide), Mo 104 (by decide) (by decide)]; exact mst) (fun j j0 j1 => by rw [J15]; exact hZ j j0 j1)
      have CC := C2 v1 e87 (x74 := x) (by rw [← hJ]; exact ex)
      have MM : jd_265_b66 k q x3 m = jd_265_b280 k q x3 y := by
        rw [B66, v2]
        unfold jd_265_b245
        rw [ey, Option.bind_some]
      have fI : ∀ a : Nat, a ≠ 10 → a ≠ 15 → a ≠ 41 → I2 a = I a := fun a h1 h2 h3 => by
        rw [c1 a h1 h2, Jo a h2]
        exact v3 a h1 h3
      have fm : ∀ a : Nat, a ≠ 76 → a ≠ 115 → a ≠ 116 → a ≠ 117 → y a = m a := fun a h1 h2 h3 h4 => by
        rw [c2.1 a h1 h2 h3 h4, v4 a h1]
        exact Mo a h1 h2
      have f7 : ∀ j : Int, j < 51 ∨ (52 < j ∧ j < 59) ∨ j = 60 ∨ 65 < j → y 76 j = m 76 j := fun j hj => by
        rw [c2.2 j (by omega), v5 j (by omega)]
        exact M7 j (by omega)
      rcases c6 with ⟨f1, rfl⟩ | ⟨rfl, rfl, ⟨i2, R2⟩, lb, c59, rs⟩
      · refine ⟨f, I2, y, ?_, ?_, c3, c4, c5, fun a h1 h2 h3 => fI a h1 (by omega) h3, fun a h1 h2 h3 h4 => fm a h1 (by omega) (by omega) (by omega), fun j hj => f7 j (by omega), fun _ => ⟨fm 109 (by decide) (by decide) (by decide) (by decide), fm 111 (by decide) (by decide) (by decide) (by decide)⟩, fun e => absurd e (by omega)⟩
        · rw [CC, jse_l]
        · rw [MM]
          unfold jd_265_b280
          rw [if_neg (br_1 c3 f1 c5)]
      · obtain ⟨I3, I4, I5, I6, m', t1, t2, t3, t4, t5, t6, t7, t8, t9, t10, t11, t12⟩ := ptail (I := I2) (m := y) (V := V) (way := way) (st := st) (x3 := x3) (a1 := a1) (a2 := a2) (b1 := b1) (b2 := b2) (kd := kd) (md := md) L h6 P q2T (by rw [fI p (by omega) (by omega) (by omega)]; exact hw) (by rw [fI p (by omega) (by omega) (by omega)]; exact hv) sw sh (by rw [f7 33 (by decide)]; exact mw) (by rw [f7 34 (by decide)]; exact mh) k0 k1 q0 q1 (by rw [fI 11 (by decide) (by decide) (by decide)]; exact eX) (by rw [fI 11 (by decide) (by decide) (by decide)]; exact eY) (by rw [fI 11 (by decide) (by decide) (by decide)]; exact eK) (by rw [fm 102 (by decide) (by decide) (by decide) (by decide)]; exact mk) kd0 kd2 m0 m6 (by rw [fI 11 (by decide) (by decide) (by decide)]; exact est) st0 st1 (fun j j0 j1 => ⟨(v10 j j0 j1).1, (v10 j j0 j1).2.1⟩) (fun j j0 j1 => by
          have vv := (v10 j j0 j1).2.2
          by_cases ct : jw (jd_77 md j) = 0
          · rw [if_neg (fun e => e ct), if_neg (by omega), vv.2 ct]
          · rw [if_pos ct, c1 41 (by decide) (by decide), Jo 41 (by decide)]
            exact vv.1 ct) (by rw [c2.2 61 (by decide), v5 61 (by decide), M61, w1, hwm_n d1 m6]) (by rw [c2.2 62 (by decide)]; exact v6) (by rw [c2.2 63 (by decide)]; exact v7) (by rw [c2.2 64 (by decide)]; exact v8) (by rw [c2.2 65 (by decide)]; exact v9) (by rw [f7 60 (by decide)]; exact z60) (by rw [c59, v5 59 (by decide), M7 59 (by decide), z59]; omega) lb rs R2 (fun pl x y' p0 p2 x0 x1 y0 y1 hl => by
          rw [fI (p + 1) (by omega) (by omega) (by omega), fm 109 (by decide) (by decide) (by decide) (by decide)]
          exact E pl x y' p0 p2 x0 x1 y0 y1 hl) (RfW I2 y (fun a ha => fI a (by omega) (by omega) (by omega)) (fm 109 (by decide) (by decide) (by decide) (by decide)) (fm 102 (by decide) (by decide) (by decide) (by decide)) (f7 36 (by decide)))
        have n109 : y 109 = m 109 := fm 109 (by decide) (by decide) (by decide) (by decide)
        have n111 : y 111 = m 111 := fm 111 (by decide) (by decide) (by decide) (by decide)
        rw [n109] at t10 t11
        rw [n111] at t9
        have i15 : I6 15 = I2 15 := t6 15 (by decide) (by decide) (by decide) (by decide) (by decide) (by decide) (by decide)
        refine ⟨0, I6, m', ?_, ?_, t12.2.1.1, by decide, by decide, fun a h1 h2 h3 => ?_, fun a h1 h2 h3 h4 => ?_, fun j hj => ?_, fun e => absurd rfl e, fun _ => ⟨V, i2, fun j j0 j1 => ⟨(v10 j j0 j1).1, (v10 j j0 j1).2.1, t7 j j0 j1⟩, by rw [i15]; exact lb, by rw [i15]; exact t9, t10, t11, t12⟩⟩
        · rw [CC, jse_r]
          exact C3 t1 t2 t3 t4
        · rw [MM]
          exact t5
        · rw [t6 a (by omega) (by omega) (by omega) (by omega) (by omega) (by omega) (by omega)]
          exact fI a h1 (by omega) h3
        · rw [t8 a h2 h3 (by omega)]
          exact fm a h1 (by omega) (by omega) (by omega)
        · rw [t8 76 (by decide) (by decide) (by decide)]
          exact f7 j (by omega)
    · refine ⟨f, I1, m1, ?_, by rw [B66]; exact v6, v7, by omega, v2, fun a h1 h2 h3 => v5 a h1 h3, fun a h1 h2 h3 h4 => by rw [v8 a h1]; exact Mo a h1 (by omega), fun j hj => by rw [v9 j (by omega)]; exact M7 j (by omega), fun _ => ⟨by rw [v8 109 (by decide)]; exact Mo 109 (by decide) (by decide), by rw [v8 111 (by decide)]; exact Mo 111 (by decide) (by decide)⟩, fun e => absurd e (by omega)⟩
      unfold jd_119
      rw [v3, Option.bind_some]
      rcases v4 with ⟨rfl, e⟩ | ⟨rfl, rfl⟩
      · rw [jse_l]; exact e
      · rw [jse_r, jse_l]
end RPart
