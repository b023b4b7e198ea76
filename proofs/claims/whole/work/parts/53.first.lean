/-! first -/
theorem n_shr {z : Int} {k : Nat} (h0 : -2147483648 ≤ z) (h1 : z < 2147483648) (hk : k < 32) : jshr z (k : Int) = z / ((2 ^ k : Nat) : Int) := by
  unfold jshr
  have e1 : ∀ k : Fin 32, ((Int32.ofInt ((k.val : Nat) : Int) &&& 31).toBitVec.smod 32).toNat = k.val := by decide
  have e2 := e1 ⟨k, hk⟩
  dsimp only at e2
  have e3 : (BitVec.ofInt 32 z).toInt = z := by
    rw [BitVec.toInt_ofInt]
    exact Int.bmod_eq_of_le (by omega) (by omega)
  show ((Int32.ofInt z).toBitVec.sshiftRight ((Int32.ofInt (k : Int) &&& 31).toBitVec.smod 32).toNat).toInt = _
  rw [e2, BitVec.toInt_sshiftRight, Int.shiftRight_eq_div_pow]
  show (BitVec.ofInt 32 z).toInt / _ = _
  rw [e3]
/-- how many of g 0, .., g (n-1) are in bin b -/
def hc (g : Int → Int) : Nat → Int → Int
  | 0, _ => 0
  | n + 1, b => hc g n b + (if g n / 16 = b then 1 else 0)
theorem hc_0 {g : Int → Int} {b : Int} : hc g 0 b = 0 := rfl
theorem hc_s {g : Int → Int} {n : Nat} {b : Int} : hc g (n + 1) b = hc g n b + (if g n / 16 = b then 1 else 0) := rfl
theorem hc_b {g : Int → Int} {n : Nat} {b : Int} : 0 ≤ hc g n b ∧ hc g n b ≤ n := by
  induction n with
  | zero => exact ⟨by rw [hc_0]; omega, by rw [hc_0]; omega⟩
  | succ n ih =>
    rw [hc_s]
    split <;> omega
theorem hc_c {g g' : Int → Int} {n : Nat} {b : Int} (h : ∀ j : Int, 0 ≤ j → j < n → g j = g' j) : hc g n b = hc g' n b := by
  induction n with
  | zero => rfl
  | succ n ih => rw [hc_s, hc_s, ih (fun j h1 h2 => h j h1 (by omega)), h n (by omega) (by omega)]
section First
variable {s : hS} {Q : hQ} {hm : hO} {I m : jM} {a b : Nat} {f p q t x y w h o o' N : Int} {G G' : Int → Int} {P : Int → Prop}
theorem Sm_mk2 {sl t n : Nat} {f : Int → Int} : Sm P s Q hm I (s_mk s sl t n) (r_mk Q s.1) hm (ims (i_mk I s.1) s.1 f) := ⟨Nat.le_succ _, fun a h1 _ => by
  have e : a ≠ s.1 := Nat.ne_of_lt h1
  exact ⟨if_neg e, if_neg e, if_neg e, (if_neg e).trans (if_neg e), rfl⟩⟩
theorem bin_b {v : Int} (h0 : 0 ≤ v) (h1 : v ≤ 255) : jand (jshr v 4) 15 = v / 16 := by
  rw [n_and15, show (4 : Int) = ((4 : Nat) : Int) from rfl, n_shr (by omega) (by omega) (by decide)]
  show v / 16 % 16 = v / 16
  omega
theorem c_106 (A : PicAt s Q hm a o) (B : PicAt s Q hm b o') (h6 : s.1 < 1000000) (X : Pix I a w h G) (Y : Pix I b w h G') : jd_106 a (some b) (hh s Q I) = some ((if jw (fld 0 (fun x => hc G (w * h).toNat x - hc G' (w * h).toNat x) 16 0) ≤ jw (w * h) then 0 else 1), hh (s_mk s 16 0 16) (r_mk Q s.1) (ims (i_mk I s.1) s.1 (fun x => hc G (w * h).toNat x - hc G' (w * h).toNat x))) := by
  obtain ⟨l1, l2, l3⟩ := Pic_ar A
  obtain ⟨r1, r2, r3⟩ := Pic_ar B
  have e2 : Q a ((2 : Nat) : Int) = some (a + 1) := A.2.2.2
  have e3 : Q b ((2 : Nat) : Int) = some (b + 1) := B.2.2.2
  obtain ⟨ct0, ct1, ct2, ct3, ct4⟩ := pl_cat X.2.2.1 X.2.2.2.1
  have ps := pl_sz X.2.2.1 X.2.2.2.1 (show (0 : Int) ≤ 0 by decide) (show (0 : Int) ≤ 2 by decide)
  have j0 : I a ((0 : Nat) : Int) = w := X.1
  have j1 : I a ((1 : Nat) : Int) = h := X.2.1
  have hw : ∀ k : Int, 0 ≤ k → k < w * h → I (a + 1) k = G k ∧ 0 ≤ G k ∧ G k ≤ 255 := fun k k0 k1 => by
    have := X.2.2.2.2 0 k (by decide) (by decide) k0 (by omega)
    rw [ct0, show pf 0 = 0 from rfl, Int.zero_add] at this
    exact this
  have hv : ∀ k : Int, 0 ≤ k → k < w * h → I (b + 1) k = G' k ∧ 0 ≤ G' k ∧ G' k ≤ 255 := fun k k0 k1 => by
    have := Y.2.2.2.2 0 k (by decide) (by decide) k0 (by omega)
    rw [ct0, show pf 0 = 0 from rfl, Int.zero_add] at this
    exact this
  rw [← ct4] at ps
  generalize hS : s_mk s 16 0 16 = s'
  generalize hQ' : r_mk Q s.1 = Q'
  generalize hN : w * h = N at *
  have s1 : s'.1 = s.1 + 1 := by rw [← hS]; rfl
  have sa : ∀ c, c < s.1 → s'.2.2.1 c = s.2.2.1 c ∧ s'.2.2.2 c = s.2.2.2 c ∧ Q' c = Q c := fun c hc => by
    rw [← hS, ← hQ']
    exact ⟨if_neg (Nat.ne_of_lt hc), if_neg (Nat.ne_of_lt hc), if_neg (Nat.ne_of_lt hc)⟩
  have sn : s'.2.2.1 s.1 = 0 ∧ s'.2.2.2 s.1 = 16 := by
    rw [← hS]
    exact ⟨if_pos rfl, if_pos rfl⟩
  have la := sa a A.2.1.1
  have la1 := sa (a + 1) l1
  have lb := sa b B.2.1.1
  have lb1 := sa (b + 1) r1
  have ia : ∀ g : Int → Int, ims (i_mk I s.1) s.1 g (a + 1) = I (a + 1) := fun g => (ims_o (by omega)).trans (if_neg (by omega))
  have ib : ∀ g : Int → Int, ims (i_mk I s.1) s.1 g (b + 1) = I (b + 1) := fun g => (ims_o (by omega)).trans (if_neg (by omega))
  have e2' : Q' a ((2 : Nat) : Int) = some (a + 1) := by rw [la.2.2]; exact e2
  have e3' : Q' b ((2 : Nat) : Int) = some (b + 1) := by rw [lb.2.2]; exact e3
  have lp : jd_106_l18 a (some b) N (some s.1) 0 (hh s' Q' (i_mk I s.1)) = some (hh s' Q' (ims (i_mk I s.1) s.1 (fun x => hc G N.toNat x - hc G' N.toNat x))) := by
    unfold jd_106_l18
    have := w_for (f := fun u : (Int × jH) => jd_106_s18 a (some b) N (some s.1) u.1 u.2) (fun k => ((k : Int), hh s' Q' (ims (i_mk I s.1) s.1 (fun x => hc G k x - hc G' k x)))) N.toNat (x := hh s' Q' (ims (i_mk I s.1) s.1 (fun x => hc G N.toNat x - hc G' N.toNat x))) (fun k hk => ?_) ?_ (n_fu (n := N.toNat) (by omega))
    · have z : ims (i_mk I s.1) s.1 (fun x => hc G 0 x - hc G' 0 x) = i_mk I s.1 := by
        funext c
        unfold ims i_mk
        by_cases e : c = s.1
        · rw [if_pos e, if_pos e]
          rfl
        · rw [if_neg e]
      rw [z] at this
      exact this
    · dsimp only
      unfold jd_106_s18
      have a1 := hw k (by omega) (by omega)
      have b1 := hv k (by omega) (by omega)
      rw [n_jw (z := N) (by omega) (by omega), n_jw (z := (k : Int)) (by omega) (by omega), if_neg (by omega), x_gr (show a < s'.1 by have := A.2.1.1; omega) (la.1.trans A.2.1.2.1), Option.bind_some, e2', Option.bind_some, x_ai (show a + 1 < s'.1 by omega) (by omega) (la1.1.trans l2) (by omega) (by rw [la1.2.1, l3]; omega) (by rw [la1.2.1, l3]; decide), Option.bind_some, Option.bind_some, ia, a1.1, bin_b a1.2.1 a1.2.2, x_ai (show s.1 < s'.1 by omega) (by omega) sn.1 (by omega) (by rw [sn.2]; omega) (by rw [sn.2]; decide), Option.bind_some, Option.bind_some, x_ta (show s.1 < s'.1 by omega) sn.1 (by omega) (by rw [sn.2]; omega) (by rw [sn.2]; decide), Option.bind_some, Option.bind_some, ims_e, ims_jms, x_gr (show b < s'.1 by have := B.2.1.1; omega) (lb.1.trans B.2.1.2.1), Option.bind_some, e3', Option.bind_some, x_ai (show b + 1 < s'.1 by omega) (by omega) (lb1.1.trans r2) (by omega) (by rw [lb1.2.1, r3]; omega) (by rw [lb1.2.1, r3]; decide), Option.bind_some, Option.bind_some, ib, b1.1, bin_b b1.2.1 b1.2.2, x_ai (show s.1 < s'.1 by omega) (by omega) sn.1 (by omega) (by rw [sn.2]; omega) (by rw [sn.2]; decide), Option.bind_some, Option.bind_some, x_ta (show s.1 < s'.1 by omega) sn.1 (by omega) (by rw [sn.2]; omega) (by rw [sn.2]; decide), Option.bind_some, ims_e, ims_jms]
      have ef : jiu (jiu (fun x => hc G k x - hc G' k x) (G k / 16) (hc G k (G k / 16) - hc G' k (G k / 16) + 1)) (G' k / 16) (jiu (fun x => hc G k x - hc G' k x) (G k / 16) (hc G k (G k / 16) - hc G' k (G k / 16) + 1) (G' k / 16) - 1) = fun x => hc G (k + 1) x - hc G' (k + 1) x := by
        funext x
        unfold jiu
        rw [hc_s, hc_s]
        dsimp only
        by_cases c1 : x = G' k / 16
        · rw [if_pos c1]
          subst c1
          rw [if_pos (show G' k / 16 = G' k / 16 from rfl)]
          by_cases c2 : G' k / 16 = G k / 16
          · rw [if_pos c2, if_pos c2.symm, c2]
            omega
          · rw [if_neg c2, if_neg (show ¬ G k / 16 = G' k / 16 by omega)]
            omega
        · rw [if_neg c1, if_neg (show ¬ G' k / 16 = x by omega)]
          by_cases c2 : x = G k / 16
          · rw [if_pos c2, if_pos c2.symm, c2]
            omega
          · rw [if_neg c2, if_neg (show ¬ G k / 16 = x by omega)]
            omega
      rw [ef, show ((k + 1 : Nat) : Int) = (k : Int) + 1 from by omega]
    · dsimp only
      unfold jd_106_s18
      rw [n_jw (z := N) (by omega) (by omega), n_jw (by omega) (by omega), if_pos (by omega)]
  have lq : ∀ D : Int → Int, jd_106_l72 a N (some s.1) 0 0 (hh s' Q' (ims (i_mk I s.1) s.1 D)) = some (fld 0 D 16 0) := by
    intro D
    unfold jd_106_l72
    refine w_for (f := fun u : (Int × Int) => jd_106_s72 a N (some s.1) u.1 u.2 (hh s' Q' (ims (i_mk I s.1) s.1 D))) (fun k => (fld 0 D k 0, (k : Int))) 16 (fun k hk => ?_) ?_ (n_fu (by decide))
    · dsimp only
      unfold jd_106_s72
      rw [n_jw (z := (k : Int)) (by omega) (by omega), if_neg (by omega), Option.bind_some, x_ai (show s.1 < s'.1 by omega) (by omega) sn.1 (by omega) (by rw [sn.2]; omega) (by rw [sn.2]; decide), Option.bind_some, Option.bind_some, ims_e, fld_s]
      rfl
    · dsimp only
      unfold jd_106_s72
      rw [if_pos (by decide)]
  unfold jd_106
  rw [x_gi A.2.1.1 A.2.1.2.1, Option.bind_some, x_gi A.2.1.1 A.2.1.2.1, Option.bind_some, j0, j1, hN, x_na h6 (by decide) (by decide), Option.bind_some]
  dsimp only
  rw [show s_mk s (16 : Int).toNat 0 (16 : Int).toNat = s' from hS, hQ', lp, Option.bind_some, lq, Option.bind_some]
theorem k_349 {k : Int} (k0 : 0 ≤ k ∧ k < 96) (n0 : 0 ≤ N) (n1 : N ≤ 576) (x0 : 0 ≤ x) (x1 : x < 16) (g : ∀ j : Int, 0 ≤ j → j < N → 0 ≤ m 99 (864 * k + j) ∧ m 99 (864 * k + j) ≤ 255) : jd_349 (864 * k) N x m = some (hc (fun j => m 99 (864 * k + j)) N.toNat x) := by
  have : jd_349_l6 (864 * k) N x 0 0 m = some (hc (fun j => m 99 (864 * k + j)) N.toNat x) := by
    unfold jd_349_l6
    refine w_for (f := fun u : (Int × Int) => jd_349_s6 (864 * k) N x u.1 u.2 m) (fun i => (hc (fun j => m 99 (864 * k + j)) i x, (i : Int))) N.toNat (fun i hi => ?_) ?_ (n_fu (n := N.toNat) (by omega))
    · dsimp only
      unfold jd_349_s6
      have gi := g i (by omega) (by omega)
      rw [n_jw (z := N) (by omega) (by omega), n_jw (z := (i : Int)) (by omega) (by omega), if_neg (by omega), y_ma 99 82944 rfl rfl (by omega) (by omega), Option.bind_some, Option.bind_some, n_div (by omega) (by omega) (by decide) (by decide), n_jw (by omega) (by omega), n_jw (by omega) (by omega), hc_s, show ((i + 1 : Nat) : Int) = (i : Int) + 1 from by omega]
    · dsimp only
      unfold jd_349_s6
      rw [n_jw (z := N) (by omega) (by omega), n_jw (by omega) (by omega), if_pos (by omega)]
  unfold jd_349
  rw [this, Option.bind_some]
theorem si_first (R : RelH s Q hm I m) (h6 : s.1 < 1000000) (hf : okI f) (hp : okI p) : SimI (jd_172 0 f p (hh s Q I)) (jd_350 f p m) (fun E => if E = 2 then 1 else 0) s Q I := by
  have L := R.1
  have n8 := R.2.2.2.2.2.1.2.2.1
  have hp' : -2147483648 ≤ p ∧ p < 2147483648 := hp
  obtain ⟨b, hb, hbv⟩ := k_314 R hf hp
  rcases hbv with ⟨c, rfl⟩ | ⟨c, rfl⟩
  · obtain ⟨a, ea, ha, F, C⟩ := c_195 R hf c.1.1 c.1.2
    obtain ⟨k, d, ed, k0, k1, kp, ko, hd, D, X⟩ := c_192 F C (by omega) hp c.2.1 c.2.2
    have n12 := C.2.2.2.1.2.1
    have c1 := c.1
    have c2 := c.2
    by_cases cz : p = 0
    · refine SimI_id (v := 1) (b := 1) R ?_ ?_ rfl
      · unfold jd_172
        rw [y_ck L 0 11 rfl rfl, Option.bind_some, ea, b_jtb, ed, b_jtb, n_jw hp.1 hp.2, if_pos cz]
        rfl
      · unfold jd_350
        rw [hb, Option.bind_some, if_neg (show ¬ jw 1 = 0 by decide), Option.bind_some, jms_e, if_pos (by decide), n_jw hp.1 hp.2, if_pos cz]
    · obtain ⟨k', d', ed', k0', k1', kp', ko', hd', D', X'⟩ := c_192 F C (by omega) (p := p - 1) (by unfold okI; omega) (by omega) (by omega)
      have ck := k_318f R C c.1 c.2.1 c.2.2 k0 k1 kp (m' := jms m 76 0 0) rfl
      have ck' := k_318f R C c.1 (p := p - 1) (by omega) (by omega) k0' k1' kp' (m' := jms m 76 0 0) rfl
      have ps := pl_sz C.2.1.1 C.2.1.2.1 (show (0 : Int) ≤ 0 by decide) (show (0 : Int) ≤ 2 by decide)
      have ct4 := (pl_cat C.2.1.1 C.2.1.2.1).2.2.2.2
      have e106 := c_106 D D' h6 X X'
      have gX : ∀ j : Int, 0 ≤ j → j < m 84 f * m 85 f → 0 ≤ m 99 (864 * (12 * f + k) + j) ∧ m 99 (864 * (12 * f + k) + j) ≤ 255 := fun j j0 j1 => by
        have := (X.2.2.2.2 0 j (by decide) (by decide) j0 (by omega)).2
        rw [show pf 0 = 0 from rfl, Int.zero_add] at this
        exact this
      have gX' : ∀ j : Int, 0 ≤ j → j < m 84 f * m 85 f → 0 ≤ m 99 (864 * (12 * f + k') + j) ∧ m 99 (864 * (12 * f + k') + j) ≤ 255 := fun j j0 j1 => by
        have := (X'.2.2.2.2 0 j (by decide) (by decide) j0 (by omega)).2
        rw [show pf 0 = 0 from rfl, Int.zero_add] at this
        exact this
      rw [← ct4] at ps
      generalize hN : m 84 f * m 85 f = N at *
      have lM : jd_350_l53 f p N 0 0 (jms m 76 0 0) = some (fld 0 (fun x => hc (fun j => m 99 (864 * (12 * f + k) + j)) N.toNat x - hc (fun j => m 99 (864 * (12 * f + k') + j)) N.toNat x) 16 0) := by
        unfold jd_350_l53
        refine w_for (f := fun u : (Int × Int) => jd_350_s53 f p N u.1 u.2 (jms m 76 0 0)) (fun i => (fld 0 (fun x => hc (fun j => m 99 (864 * (12 * f + k) + j)) N.toNat x - hc (fun j => m 99 (864 * (12 * f + k') + j)) N.toNat x) i 0, (i : Int))) 16 (fun i hi => ?_) ?_ (n_fu (by decide))
        · dsimp only
          unfold jd_350_s53 jd_350_b114
          rw [n_jw (z := (i : Int)) (by omega) (by omega), if_neg (by omega), ck, Option.bind_some, k_349 (m := jms m 76 0 0) (by omega) (by omega) (by omega) (by omega) (by omega) gX, Option.bind_some, ck', Option.bind_some, k_349 (m := jms m 76 0 0) (by omega) (by omega) (by omega) (by omega) (by omega) gX', Option.bind_some, fld_s]
          rfl
        · dsimp only
          unfold jd_350_s53
          rw [if_pos (by decide)]
      generalize hV : fld 0 (fun x => hc (fun j => m 99 (864 * (12 * f + k) + j)) N.toNat x - hc (fun j => m 99 (864 * (12 * f + k') + j)) N.toNat x) 16 0 = V at *
      generalize hD : (fun x => hc (fun j => m 99 (864 * (12 * f + k) + j)) N.toNat x - hc (fun j => m 99 (864 * (12 * f + k') + j)) N.toNat x) = DD at *
      have eC : jd_172 0 f p (hh s Q I) = some (.inl (if jw V ≤ jw N then 0 else 1), hh (s_mk s 16 0 16) (r_mk Q s.1) (ims (i_mk I s.1) s.1 DD)) := by
        unfold jd_172 jd_172_b37
        rw [y_ck L 0 11 rfl rfl, Option.bind_some, ea, b_jtb, ed, b_jtb, n_jw hp.1 hp.2, if_neg cz, ed', b_jtb, x_ck D.2.1.1 D.2.1.2.1, Option.bind_some, e106, Option.bind_some]
        dsimp only
        by_cases g : jw V ≤ jw N
        · rw [if_pos g]
          rfl
        · rw [if_neg g]
          rfl
      have eM : jd_350 f p m = some ((if jw V ≤ jw N then 0 else 1), jms m 76 0 0) := by
        unfold jd_350
        have q4 : jms m 76 0 0 84 f = m 84 f := rfl
        have q5 : jms m 76 0 0 85 f = m 85 f := rfl
        rw [hb, Option.bind_some, if_neg (show ¬ jw 1 = 0 by decide), Option.bind_some, jms_e, if_pos (by decide), n_jw hp.1 hp.2, if_neg cz, y_ma 84 8 rfl rfl c1.1 (by omega), Option.bind_some, y_ma 85 8 rfl rfl c1.1 (by omega), Option.bind_some, q4, q5, hN, lM, Option.bind_some]
      have S : Sm (fun _ => True) s Q hm I (s_mk s 16 0 16) (r_mk Q s.1) hm (ims (i_mk I s.1) s.1 DD) := Sm_mk2
      refine Or.inl ⟨_, _, _, _, _, _, eC, eM, jms_e, rfl, Kp_of L S (fun _ _ _ => trivial), ⟨by unfold s_mk; omega, by unfold s_mk; dsimp only; omega, by unfold s_mk; dsimp only; omega⟩, hm, ?_⟩
      exact RelH_fr S (fun _ _ => trivial) (Lay_mk L) Mm_c R
  · refine SimI_th (E := 2) (b := 0) R ?_ ?_ (by decide)
    · unfold jd_172
      rw [y_ck L 0 11 rfl rfl, Option.bind_some]
      by_cases c1 : 0 ≤ f ∧ f < m 76 12
      · obtain ⟨a, ea, ha, F, C⟩ := c_195 R hf c1.1 c1.2
        rw [ea, b_jtb, c_192n F C h6 hp (fun e => c ⟨c1, e⟩), b_jtx]
      · rw [c_195n R h6 hf c1, b_jtx]
    · unfold jd_350
      rw [hb, Option.bind_some, if_pos (show jw 0 = 0 by decide), Option.bind_some, jms_e, if_neg (by decide)]
      rfl
end First
