/-! making: the rest of a part, class -/
def bz (z : Int) : Int := if z < 64 then 2 * (z / 8 / 4) + z % 8 / 4 else z / 16
def rz (z : Int) : Int := if z < 64 then z / 8 % 4 else z % 16 / 4
/-- what is added to the sample z of a part -/
def RZ (lv : Int → Int → Int) (st z : Int) : Int := rsB (lv (bz z)) st (rz z) (z % 4)
theorem RZ_v {lv : Int → Int → Int} {st b r c : Int} (b0 : 0 ≤ b) (b1 : b < 6) (r0 : 0 ≤ r) (r1 : r < 4) (c0 : 0 ≤ c) (c1 : c < 4) : RZ lv st (cb b r c) = rsB (lv b) st r c := by
  have e : bz (cb b r c) = b ∧ rz (cb b r c) = r ∧ cb b r c % 4 = c := by
    unfold cb
    by_cases h : b < 4
    · rw [if_pos h]
      unfold bz rz
      rw [if_pos (by omega), if_pos (by omega)]
      omega
    · rw [if_neg h]
      unfold bz rz
      rw [if_neg (by omega), if_neg (by omega)]
      omega
  unfold RZ
  rw [e.1, e.2.1, e.2.2]
/-- what a way makes of a part -/
def MdW (md : Int) (F : Int → Int) (lv : Int → Int → Int) (st z : Int) : Int := jd_183 (F z + (if md = 0 then 0 else RZ lv st z))
section RestC
variable {s : hS} {Q : hQ} {hm : hO} {I J m : jM} {T : Nat} {b st md way : Int} {W F : Int → Int}
theorem c_89b (F : PtC s Q T) (h6 : s.1 ≤ 1000000) (b0 : 0 ≤ b) (b1 : b < 6) (hl : ∀ i : Int, 0 ≤ i → i < 16 → -4095 ≤ I (T + 4) (16 * b + i) ∧ I (T + 4) (16 * b + i) ≤ 4095) : jd_89 T b (hh s Q I) = some (lc (fun i => I (T + 4) (16 * b + i)) 16) := by
  have q10 := T_q F 4 10 rfl rfl rfl
  have l : jd_89_l7 T b 0 (16 * b) (hh s Q I) = some (lc (fun i => I (T + 4) (16 * b + i)) 16) := by
    unfold jd_89_l7
    have := w_for (f := fun u : (Int × Int) => jd_89_s7 T b u.1 u.2 (hh s Q I)) (fun k => (lc (fun i => I (T + 4) (16 * b + i)) k, 16 * b + (k : Int))) 16 (x := lc (fun i => I (T + 4) (16 * b + i)) 16) (fun k hk => by
      unfold jd_89_s7
      dsimp only
      have hb := hl (k : Int) (by omega) (by omega)
      rw [n_jw (z := 16 * b + 16) (by omega) (by omega), n_jw (z := 16 * b + (k : Int)) (by omega) (by omega), if_neg (by omega), T_gr F, Option.bind_some, q10, Option.bind_some, T_ai F h6 4 96 rfl rfl rfl rfl (by omega) (by omega), Option.bind_some, n_jw (by omega) (by omega), Option.bind_some, lc_s, show 16 * b + ((k + 1 : Nat) : Int) = 16 * b + (k : Int) + 1 by omega]) (by
      unfold jd_89_s7
      dsimp only
      rw [n_jw (z := 16 * b + 16) (by omega) (by omega), n_jw (z := 16 * b + ((16 : Nat) : Int)) (by omega) (by omega), if_pos (by omega)]) (n_fu (by decide))
    rw [show 16 * b + ((0 : Nat) : Int) = 16 * b by omega] at this
    exact this
  unfold jd_89
  rw [l, Option.bind_some]
theorem c_18b (L : Lay s Q hm) (h6 : s.1 ≤ 1000000) (m1 : 1 ≤ md) (m6 : md ≤ 6) (hst : I 45 1 = st) (s0 : 1 ≤ st) (s1 : st ≤ 31) (wt : ∀ z : Int, 0 ≤ z → z < 96 → I 56 z = W z ∧ 0 ≤ W z ∧ W z ≤ 255) (hF : ∀ z : Int, 0 ≤ z → z < 96 → I 46 z = F z ∧ 0 ≤ F z ∧ F z ≤ 255) (hM : ∀ z : Int, 0 ≤ z → z < 96 → I 48 z = F z) : ∃ J, jd_18_l38 44 way md 0 (hh s Q I) = some (hh s Q J) ∧ (∀ b i : Int, 0 ≤ b → b < 6 → 0 ≤ i → i < 16 → J 49 (16 * b + i) = lvP W F st b i) ∧ (∀ z : Int, 0 ≤ z → z < 96 → J 48 z = MdW md F (lvP W F st) st z) ∧ ∀ x : Nat, x ≠ 48 → x ≠ 49 → x ≠ 52 → J x = I x := by
  have T := PtC_45 L
  have q0 : Q 44 ((0 : Nat) : Int) = some 45 := Lq L rfl
  have q2 : Q 44 ((2 : Nat) : Int) = some 56 := Lq L rfl
  have c56 : 56 < s.1 ∧ s.2.2.1 56 = 0 ∧ s.2.2.2 56 = 96 := by
    have := L.2.1 56 (by decide)
    exact ⟨this.1, this.2.1, this.2.2.1⟩
  have md0 : ¬ jw md = 0 := by rw [n_jw (z := md) (by omega) (by omega)]; omega
  have cL : ∀ {I1 : jM} {b : Int}, 0 ≤ b → b < 6 → I1 56 = I 56 → I1 46 = I 46 → ∀ i, lvP (I1 56) (I1 46) st b i = lvP W F st b i := fun {I1} {b} b0 b1 e1 e2 i => by
    rw [e1, e2]
    exact lvP_c b0 b1 (fun z z0 z1 => (wt z z0 z1).1) (fun z z0 z1 => (hF z z0 z1).1)
  obtain ⟨h', e, J, rfl, h⟩ : wT (jd_18_l38 44 way md 0 (hh s Q I)) (fun h' => ∃ J, h' = hh s Q J ∧ (∀ b i : Int, 0 ≤ b → b < 6 → 0 ≤ i → i < 16 → J 49 (16 * b + i) = lvP W F st b i) ∧ (∀ b r c : Int, 0 ≤ b → b < 6 → 0 ≤ r → r < 4 → 0 ≤ c → c < 4 → J 48 (cb b r c) = jd_183 (F (cb b r c) + rsB (lvP W F st b) st r c)) ∧ ∀ x : Nat, x ≠ 48 → x ≠ 49 → x ≠ 52 → J x = I x) := by
    unfold jd_18_l38
    refine w_lp (fun n (u : Int × jH) => n ≤ 6 ∧ ∃ J, u = ((n : Int), hh s Q J) ∧ (∀ b i : Int, 0 ≤ b → b < (n : Int) → 0 ≤ i → i < 16 → J 49 (16 * b + i) = lvP W F st b i) ∧ (∀ b r c : Int, 0 ≤ b → b < (n : Int) → 0 ≤ r → r < 4 → 0 ≤ c → c < 4 → J 48 (cb b r c) = jd_183 (F (cb b r c) + rsB (lvP W F st b) st r c)) ∧ (∀ b r c : Int, (n : Int) ≤ b → b < 6 → 0 ≤ r → r < 4 → 0 ≤ c → c < 4 → J 48 (cb b r c) = F (cb b r c)) ∧ ∀ x : Nat, x ≠ 48 → x ≠ 49 → x ≠ 52 → J x = I x) 6 (fun n u hn hu => ?_) (n_fu (by decide)) ⟨by decide, I, rfl, fun b i h0 h1 => absurd h1 (by omega), fun b r c h0 h1 => absurd h1 (by omega), fun b r c h0 h1 r0 r1 c0 c1 => hM _ (cb_r (by omega) h1 r0 r1 c0 c1).1 (cb_r (by omega) h1 r0 r1 c0 c1).2, fun _ _ _ _ => rfl⟩
    obtain ⟨n6, J, rfl, j1, j2, j3, j4⟩ := hu
    by_cases c6 : (n : Int) < 6
    · have e56 := j4 56 (by decide) (by decide) (by decide)
      have e46 := j4 46 (by decide) (by decide) (by decide)
      have e45 := j4 45 (by decide) (by decide) (by decide)
      obtain ⟨S, M, x1, x2, x3⟩ := c_92 (I := J) (c := 56) (b := (n : Int)) T h6 c56 (by decide) (by omega) c6 (by rw [e45]; exact hst) s0 (by omega) (fun z z0 z1 => by rw [e56, (wt z z0 z1).1]; exact (wt z z0 z1).2) (fun z z0 z1 => by rw [show J (45 + 1) = I 46 from e46, (hF z z0 z1).1]; exact (hF z z0 z1).2)
      obtain ⟨J1, hJ1⟩ : ∃ J1, J1 = ims (ims J (45 + 7) S) (45 + 4) M := ⟨_, rfl⟩
      rw [← hJ1] at x1
      have o1 : ∀ x : Nat, x ≠ 49 → x ≠ 52 → J1 x = J x := fun x a1 a2 => by rw [hJ1, ims_o a1, ims_o a2]
      have l1 : ∀ i : Int, 0 ≤ i → i < 16 → J1 49 (16 * (n : Int) + i) = lvP W F st (n : Int) i := fun i i0 i1 => by
        have : J1 49 = M := by rw [hJ1]; exact ims_e
        rw [this, x2 i i0 i1]
        exact cL (by omega) c6 e56 e46 i
      have l2 : ∀ b i : Int, 0 ≤ b → b < (n : Int) + 1 → 0 ≤ i → i < 16 → J1 49 (16 * b + i) = lvP W F st b i := fun b i b0 b1 i0 i1 => by
        by_cases eb : b = (n : Int)
        · rw [eb]
          exact l1 i i0 i1
        · have : J1 49 = M := by rw [hJ1]; exact ims_e
          rw [this, x3 _ (by omega)]
          exact j1 b i b0 (by omega) i0 i1
      have x89 := c_89b (I := J1) (b := (n : Int)) T h6 (by omega) c6 (fun i i0 i1 => by
        rw [show J1 (45 + 4) (16 * (n : Int) + i) = lvP W F st (n : Int) i from l1 i i0 i1]
        exact lvP_b s0)
      have lce : lc (fun i => J1 (45 + 4) (16 * (n : Int) + i)) 16 = lc (lvP W F st (n : Int)) 16 := lc_c (fun i i0 i1 => l1 i i0 (by omega))
      rw [lce] at x89
      obtain ⟨cnt, hcnt⟩ : ∃ c, lc (lvP W F st (n : Int)) 16 = c := ⟨_, rfl⟩
      have cb' : 0 ≤ cnt ∧ cnt ≤ 16 := by rw [← hcnt]; exact lc_b
      rw [hcnt] at x89
      have hd : jd_18_s38 44 way md (n : Int) (hh s Q J) = if cnt ≤ 0 then some (.inl ((n : Int) + 1, hh s Q J1)) else ((jd_91 45 (n : Int) (hh s Q J1)).bind fun h62 => some (.inl ((n : Int) + 1, h62))) := by
        unfold jd_18_s38 jd_18_b79
        rw [n_jw (z := (n : Int)) (by omega) (by omega), if_neg (by omega), if_neg md0, y_gr L 44 1 rfl rfl, Option.bind_some, q0, y_gr L 44 1 rfl rfl, Option.bind_some, q2, Option.bind_some, T_ck T, Option.bind_some, x1, Option.bind_some, y_gr L 44 1 rfl rfl, Option.bind_some, q0, Option.bind_some, T_ck T, Option.bind_some, x89, Option.bind_some, n_jw (z := cnt) (by omega) (by omega), Option.bind_some, Option.bind_some, T_ck T, Option.bind_some]
      show wT (jd_18_s38 44 way md (n : Int) (hh s Q J)) _
      rw [hd]
      by_cases cz : cnt ≤ 0
      · rw [if_pos cz]
        refine ⟨_, rfl, ?_⟩
        show jse _ _ _
        rw [jse_l]
        have z48 := o1 48 (by decide) (by decide)
        refine ⟨by omega, by omega, J1, by rw [show ((n + 1 : Nat) : Int) = (n : Int) + 1 by omega], fun b i b0 b1 => l2 b i b0 (by omega), fun b r c b0 b1 r0 r1 c0 c1 => ?_, fun b r c b0 b1 => by rw [z48]; exact j3 b r c (by omega) b1, fun x a1 a2 a3 => (o1 x a2 a3).trans (j4 x a1 a2 a3)⟩
        rw [z48]
        by_cases eb : b = (n : Int)
        · subst eb
          have z0 := lc_0 (g := lvP W F st (n : Int)) (n := 16) (by omega)
          have r' := cb_r (b := (n : Int)) b0 c6 r0 r1 c0 c1
          have fz := (hF _ r'.1 r'.2).2
          rw [j3 _ r c (Int.le_refl _) c6 r0 r1 c0 c1, rsB_0 (fun j j0 j1 => z0 j j0 (by omega)), Int.add_zero, held_i fz.1 fz.2]
        · exact j2 b r c b0 (by omega) r0 r1 c0 c1
      · obtain ⟨S2, M2, y1, y2, y3⟩ := c_91 (I := J1) (b := (n : Int)) (st := st) T h6 (by omega) c6 (by rw [o1 45 (by decide) (by decide), e45]; exact hst)
        obtain ⟨J2, hJ2⟩ : ∃ J2, J2 = ims (ims J1 (45 + 7) S2) (45 + 3) M2 := ⟨_, rfl⟩
        rw [← hJ2] at y1
        have o2 : ∀ x : Nat, x ≠ 48 → x ≠ 52 → J2 x = J1 x := fun x a1 a2 => by rw [hJ2, ims_o a1, ims_o a2]
        have m48 : J2 48 = M2 := by rw [hJ2]; exact ims_e
        rw [if_neg cz, y1, Option.bind_some]
        refine ⟨_, rfl, ?_⟩
        show jse _ _ _
        rw [jse_l]
        have nj : ∀ b r c : Int, 0 ≤ b → b < 6 → b ≠ (n : Int) → 0 ≤ r → r < 4 → 0 ≤ c → c < 4 → J2 48 (cb b r c) = J 48 (cb b r c) := fun b r c b0 b1 ne r0 r1 c0 c1 => by
          rw [m48, y3 _ (fun r' c' r0' r1' c0' c1' e => ne (cb_j b0 b1 r0 r1 c0 c1 (by omega) c6 r0' r1' c0' c1' e).1), show J1 (45 + 3) = J 48 from o1 48 (by decide) (by decide)]
        refine ⟨by omega, by omega, J2, by rw [show ((n + 1 : Nat) : Int) = (n : Int) + 1 by omega], fun b i b0 b1 i0 i1 => by rw [o2 49 (by decide) (by decide)]; exact l2 b i b0 (by omega) i0 i1, fun b r c b0 b1 r0 r1 c0 c1 => ?_, fun b r c b0 b1 r0 r1 c0 c1 => by rw [nj b r c (by omega) b1 (by omega) r0 r1 c0 c1]; exact j3 b r c (by omega) b1 r0 r1 c0 c1, fun x a1 a2 a3 => (o2 x a1 a3).trans ((o1 x a2 a3).trans (j4 x a1 a2 a3))⟩
        by_cases eb : b = (n : Int)
        · subst eb
          have r' := cb_r (b := (n : Int)) b0 c6 r0 r1 c0 c1
          have hlv : rsB (fun i => J1 (45 + 4) (16 * (n : Int) + i)) st r c = rsB (lvP W F st (n : Int)) st r c := by
            unfold rsB
            rw [hd_c (fun j j0 j1 => ?_)]
            show J1 49 (16 * (n : Int) + usc j) * st = lvP W F st (n : Int) (usc j) * st
            rw [l1 _ (usc_s j0 j1).2.1 (usc_s j0 j1).2.2]
          rw [m48, y2 r c r0 r1 c0 c1, hlv, show J1 (45 + 1) = I 46 from (o1 46 (by decide) (by decide)).trans e46, (hF _ r'.1 r'.2).1]
        · rw [nj b r c b0 (by omega) eb r0 r1 c0 c1]
          exact j2 b r c b0 (by omega) r0 r1 c0 c1
    · have en : n = 6 := by omega
      subst en
      refine ⟨.inr (hh s Q J), ?_, ?_⟩
      · show jd_18_s38 44 way md ((6 : Nat) : Int) (hh s Q J) = _
        unfold jd_18_s38
        rw [if_pos (by decide)]
      · show jse _ _ _
        rw [jse_r]
        exact ⟨J, rfl, fun b i b0 b1 => j1 b i b0 b1, fun b r c b0 b1 => j2 b r c b0 b1, j4⟩
  refine ⟨J, e, h.1, fun z z0 z1 => ?_, h.2.2⟩
  obtain ⟨b, r, c, b0, b1, r0, r1, c0, c1, rfl⟩ := cb_all z0 z1
  unfold MdW
  rw [if_neg (by omega), RZ_v b0 b1 r0 r1 c0 c1]
  exact h.2.1 b r c b0 b1 r0 r1 c0 c1
end RestC
