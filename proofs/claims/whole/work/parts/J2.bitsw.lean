/-! bits written: the class -/
section BitsX
variable {s : hS} {Q : hQ} {I : jM} {T b : Nat} {n v j : Int} {g g' : Int → Int} {len : Nat} {β : Nat → Int}
def eb (g : Int → Int) (n j : Int) (k : Nat) : Int := if 8 * j + (k : Int) < n then g (8 * j + (k : Int)) else 0
def pk (g : Int → Int) (n j : Int) : Int := 128 * eb g n j 0 + 64 * eb g n j 1 + 32 * eb g n j 2 + 16 * eb g n j 3 + 8 * eb g n j 4 + 4 * eb g n j 5 + 2 * eb g n j 6 + eb g n j 7
/-- a list of bits laid from n on -/
def gW (g : Int → Int) (n : Int) (l : List Int) : Int → Int := fun x => if n ≤ x ∧ x < n + (l.length : Int) then l.getD (x - n).toNat 0 else g x
def gK (g : Int → Int) (n : Int) (β : Nat → Int) (k : Nat) : Int → Int := fun x => if n ≤ x ∧ x < n + (k : Int) then β (x - n).toNat else g x
theorem gW_app {l l' : List Int} : gW (gW g n l) (n + (l.length : Int)) l' = gW g n (l ++ l') := by
  funext x
  unfold gW
  rw [List.length_append]
  by_cases c1 : n + (l.length : Int) ≤ x ∧ x < n + (l.length : Int) + (l'.length : Int)
  · rw [if_pos c1, if_pos (by omega), List.getD_eq_getElem?_getD, List.getD_eq_getElem?_getD, List.getElem?_append_right (by omega), show (x - n).toNat - l.length = (x - (n + (l.length : Int))).toNat by omega]
  · rw [if_neg c1]
    by_cases c2 : n ≤ x ∧ x < n + (l.length : Int)
    · rw [if_pos c2, if_pos (by omega), List.getD_eq_getElem?_getD, List.getD_eq_getElem?_getD, List.getElem?_append_left (by omega)]
    · rw [if_neg c2, if_neg (by omega)]
theorem wrM_113 {m : jM} {l : List Int} : wrM m n l 113 = gW (m 113) n l := wK_113
theorem or_b : ∀ s : Nat, s < 8 → ∀ u : Nat, u < 128 → 2 ^ (s + 1) * u < 256 → jwb (jor (jwb ((2 ^ (s + 1) * u : Nat) : Int)) (jshl 0 (s : Int))) % 256 = ((2 ^ (s + 1) * u : Nat) : Int) ∧ jwb (jor (jwb ((2 ^ (s + 1) * u : Nat) : Int)) (jshl 1 (s : Int))) % 256 = ((2 ^ (s + 1) * u : Nat) : Int) + ((2 ^ s : Nat) : Int) := by decide +kernel
theorem eb_b (h : ∀ i : Int, 0 ≤ i → i < n → g i = 0 ∨ g i = 1) (j0 : 0 ≤ j) (k : Nat) : eb g n j k = 0 ∨ eb g n j k = 1 := by
  unfold eb
  split
  · exact h _ (by omega) (by omega)
  · exact Or.inl rfl
theorem pk_b (h : ∀ i : Int, 0 ≤ i → i < n → g i = 0 ∨ g i = 1) (j0 : 0 ≤ j) : 0 ≤ pk g n j ∧ pk g n j < 256 := by
  have e := eb_b h j0
  have e0 := e 0
  have e1 := e 1
  have e2 := e 2
  have e3 := e 3
  have e4 := e 4
  have e5 := e 5
  have e6 := e 6
  have e7 := e 7
  unfold pk
  omega
/-- bit x written at n -/
theorem pk_up {x : Int} {r : Nat} (h : ∀ i : Int, 0 ≤ i → i < n → g i = 0 ∨ g i = 1) (j0 : 0 ≤ j) (r8 : r < 8) (hn : n = 8 * j + (r : Int)) (g0 : ∀ i : Int, i < n → g' i = g i) (g1 : g' n = x) : pk g' (n + 1) j = pk g n j + x * ((2 ^ (7 - r) : Nat) : Int) ∧ pk g n j % ((2 ^ (7 - r + 1) : Nat) : Int) = 0 := by
  have lo : ∀ k : Nat, k < r → eb g' (n + 1) j k = eb g n j k := fun k hk => by
    unfold eb
    rw [if_pos (by omega), if_pos (by omega), g0 _ (by omega)]
  have hi : ∀ k : Nat, r < k → eb g' (n + 1) j k = 0 ∧ eb g n j k = 0 := fun k hk => by
    unfold eb
    rw [if_neg (by omega), if_neg (by omega)]
    exact ⟨rfl, rfl⟩
  have md : eb g' (n + 1) j r = x ∧ eb g n j r = 0 := by
    unfold eb
    rw [if_pos (by omega), if_neg (by omega), ← hn, g1]
    exact ⟨rfl, rfl⟩
  unfold pk
  have cs : r = 0 ∨ r = 1 ∨ r = 2 ∨ r = 3 ∨ r = 4 ∨ r = 5 ∨ r = 6 ∨ r = 7 := by omega
  rcases cs with rfl | rfl | rfl | rfl | rfl | rfl | rfl | rfl
  · have h1 := hi 1 (by decide); have h2 := hi 2 (by decide); have h3 := hi 3 (by decide); have h4 := hi 4 (by decide); have h5 := hi 5 (by decide); have h6 := hi 6 (by decide); have h7 := hi 7 (by decide)
    show _ = _ + x * 128 ∧ _ % (256 : Int) = 0
    omega
  · have h0 := lo 0 (by decide); have h2 := hi 2 (by decide); have h3 := hi 3 (by decide); have h4 := hi 4 (by decide); have h5 := hi 5 (by decide); have h6 := hi 6 (by decide); have h7 := hi 7 (by decide)
    show _ = _ + x * 64 ∧ _ % (128 : Int) = 0
    omega
  · have h0 := lo 0 (by decide); have h1 := lo 1 (by decide); have h3 := hi 3 (by decide); have h4 := hi 4 (by decide); have h5 := hi 5 (by decide); have h6 := hi 6 (by decide); have h7 := hi 7 (by decide)
    show _ = _ + x * 32 ∧ _ % (64 : Int) = 0
    omega
  · have h0 := lo 0 (by decide); have h1 := lo 1 (by decide); have h2 := lo 2 (by decide); have h4 := hi 4 (by decide); have h5 := hi 5 (by decide); have h6 := hi 6 (by decide); have h7 := hi 7 (by decide)
    show _ = _ + x * 16 ∧ _ % (32 : Int) = 0
    omega
  · have h0 := lo 0 (by decide); have h1 := lo 1 (by decide); have h2 := lo 2 (by decide); have h3 := lo 3 (by decide); have h5 := hi 5 (by decide); have h6 := hi 6 (by decide); have h7 := hi 7 (by decide)
    show _ = _ + x * 8 ∧ _ % (16 : Int) = 0
    omega
  · have h0 := lo 0 (by decide); have h1 := lo 1 (by decide); have h2 := lo 2 (by decide); have h3 := lo 3 (by decide); have h4 := lo 4 (by decide); have h6 := hi 6 (by decide); have h7 := hi 7 (by decide)
    show _ = _ + x * 4 ∧ _ % (8 : Int) = 0
    omega
  · have h0 := lo 0 (by decide); have h1 := lo 1 (by decide); have h2 := lo 2 (by decide); have h3 := lo 3 (by decide); have h4 := lo 4 (by decide); have h5 := lo 5 (by decide); have h7 := hi 7 (by decide)
    show _ = _ + x * 2 ∧ _ % (4 : Int) = 0
    omega
  · have h0 := lo 0 (by decide); have h1 := lo 1 (by decide); have h2 := lo 2 (by decide); have h3 := lo 3 (by decide); have h4 := lo 4 (by decide); have h5 := lo 5 (by decide); have h6 := lo 6 (by decide)
    show _ = _ + x * 1 ∧ _ % (2 : Int) = 0
    omega
theorem pk_lo (j0 : 0 ≤ j) (hj : 8 * j + 8 ≤ n) (g0 : ∀ i : Int, i < n → g' i = g i) : pk g' (n + 1) j = pk g n j := by
  have lo : ∀ k : Nat, k < 8 → eb g' (n + 1) j k = eb g n j k := fun k hk => by
    unfold eb
    rw [if_pos (by omega), if_pos (by omega), g0 _ (by omega)]
  unfold pk
  rw [lo 0 (by decide), lo 1 (by decide), lo 2 (by decide), lo 3 (by decide), lo 4 (by decide), lo 5 (by decide), lo 6 (by decide), lo 7 (by decide)]
/-- the bytes of row b hold the n bits of g -/
def By (I : jM) (b : Nat) (g : Int → Int) (n : Int) : Prop := (∀ j : Int, 0 ≤ j → 8 * j < n → I b j % 256 = pk g n j) ∧ ∀ i : Int, 0 ≤ i → i < n → g i = 0 ∨ g i = 1
/-- a writer T over the bytes of b -/
def WrT (s : hS) (Q : hQ) (T b : Nat) : Prop := (T < s.1 ∧ s.2.2.1 T = 8) ∧ (b < s.1 ∧ s.2.2.1 b = 1 ∧ s.2.2.2 b = 4000) ∧ b ≠ T ∧ Q T 0 = some b
theorem c_bit (W : WrT s Q T b) (hn : I T 1 = n) (n0 : 0 ≤ n) (n1 : n < 32000) (B : By I b g n) {x3 x : Int} (x0 : 0 ≤ x3) (x4 : x3 < 2147483648) (hx : jand (jshr v x3) 1 = x) (x01 : x = 0 ∨ x = 1) (g0 : ∀ i : Int, i < n → g' i = g i) (g1 : g' n = x) : ∃ I', jd_8_s22 T v x3 (hh s Q I) = some (.inl (x3 + -1, hh s Q I')) ∧ I' T 1 = n + 1 ∧ By I' b g' (n + 1) ∧ (∀ c : Nat, c ≠ T → c ≠ b → I' c = I c) ∧ (∀ z : Int, z ≠ 1 → I' T z = I T z) := by
  obtain ⟨⟨w1, w2⟩, ⟨w3, w4, w5⟩, w6, w7⟩ := W
  obtain ⟨B1, B2⟩ := B
  obtain ⟨j, r, hj, r8, j0⟩ : ∃ (j : Int) (r : Nat), n = 8 * j + (r : Int) ∧ r < 8 ∧ 0 ≤ j := ⟨n / 8, (n % 8).toNat, by omega, by omega, by omega⟩
  obtain ⟨p1, p2⟩ := pk_up (g := g) (g' := g') (x := x) B2 j0 r8 hj g0 g1
  have pb := pk_b (g := g) (n := n) (j := j) B2 j0
  have e1 : I T ((1 : Nat) : Int) = n := hn
  have q0 : Q T ((0 : Nat) : Int) = some b := w7
  have sh : jshr n 3 = j := by rw [shr3 n0 (by omega)]; omega
  have a7 : 7 - jand n 7 = ((7 - r : Nat) : Int) := by rw [n_and7]; omega
  obtain ⟨y0, hy, hv⟩ : ∃ y0 : Int, (if jw (7 - jand n 7) = 7 then jd_8_b77 T v x3 (jand (jshr v x3) 1) (7 - jand n 7) 0 (hh s Q I) else jd_8_b77 T v x3 (jand (jshr v x3) 1) (7 - jand n 7) (jwb (I b j)) (hh s Q I)) = jd_8_b77 T v x3 x (((7 - r : Nat) : Int)) y0 (hh s Q I) ∧ jwb (jor y0 (jshl x ((7 - r : Nat) : Int))) % 256 = pk g n j + x * ((2 ^ (7 - r) : Nat) : Int) := by
    obtain ⟨u, hu⟩ : ∃ u : Nat, pk g n j = ((2 ^ (7 - r + 1) * u : Nat) : Int) := by
      refine ⟨(pk g n j / ((2 ^ (7 - r + 1) : Nat) : Int)).toNat, ?_⟩
      have d := Int.mul_ediv_add_emod (pk g n j) ((2 ^ (7 - r + 1) : Nat) : Int)
      have nn : 0 ≤ pk g n j / ((2 ^ (7 - r + 1) : Nat) : Int) := Int.ediv_nonneg pb.1 (by omega)
      rw [Int.natCast_mul, Int.toNat_of_nonneg nn]
      omega
    have u256 : 2 ^ (7 - r + 1) * u < 256 := by omega
    have u128 : u < 128 := by
      have : 2 ≤ 2 ^ (7 - r + 1) := by
        rw [Nat.pow_succ]
        have := Nat.pow_pos (n := 7 - r) (show 0 < 2 by decide)
        omega
      have := Nat.mul_le_mul_right u this
      omega
    obtain ⟨o1, o2⟩ := or_b (7 - r) (by omega) u u128 u256
    have ov : jwb (jor (jwb (pk g n j)) (jshl x ((7 - r : Nat) : Int))) % 256 = pk g n j + x * ((2 ^ (7 - r) : Nat) : Int) := by
      rw [hu]
      rcases x01 with rfl | rfl
      · rw [o1]; omega
      · rw [o2]; omega
    by_cases r0 : r = 0
    · subst r0
      have z : pk g n j = 0 := by
        have : pk g n j % (256 : Int) = 0 := p2
        omega
      refine ⟨0, ?_, ?_⟩
      · rw [hx, a7, if_pos (by decide)]
      · rw [z] at ov ⊢
        exact ov
    · refine ⟨jwb (I b j), ?_, ?_⟩
      · rw [hx, a7, n_jw (by omega) (by omega), if_neg (by omega)]
      · rw [← n_jwb_m (I b j), B1 j j0 (by omega)]
        exact ov
  refine ⟨jms (jms I b j (jwb (jor y0 (jshl x ((7 - r : Nat) : Int))))) T 1 (n + 1), ?_, jms_e, ⟨fun j' j0' j1' => ?_, fun i i0 i1 => ?_⟩, fun c c1 c2 => by rw [jms_o c1, jms_o c2], fun z hz => by rw [jms_i hz, jms_o (Ne.symm w6)]⟩
  · have hb77 : jd_8_b77 T v x3 x ((7 - r : Nat) : Int) y0 (hh s Q I) = some (.inl (x3 + -1, hh s Q (jms (jms I b j (jwb (jor y0 (jshl x ((7 - r : Nat) : Int))))) T 1 (n + 1)))) := by
      have e2 : jms I b j (jwb (jor y0 (jshl x ((7 - r : Nat) : Int)))) T ((1 : Nat) : Int) = n := by rw [jms_o (Ne.symm w6)]; exact hn
      unfold jd_8_b77
      rw [x_gr w1 w2, Option.bind_some, q0, x_gi w1 w2, Option.bind_some, e1, Option.bind_some, sh, x_ta w3 w4 j0 (by rw [w5]; omega) (by rw [w5]; decide), Option.bind_some, x_gi w1 w2, Option.bind_some, e2, x_pi w1 w2, Option.bind_some]
      rfl
    unfold jd_8_s22
    rw [n_jw (z := x3) (by omega) x4, if_neg (by omega), x_gi w1 w2, Option.bind_some, e1, n_jw (z := n) (by omega) (by omega), if_neg (by omega), Option.bind_some, x_gr w1 w2, Option.bind_some, q0, Option.bind_some, Option.bind_some, sh, x_ab w3 w4 j0 (by rw [w5]; omega) (by rw [w5]; decide), Option.bind_some, hy, hb77]
  · rw [jms_o w6]
    by_cases ej : j' = j
    · rw [ej, jms_e, hv, p1]
    · rw [jms_i ej, pk_lo j0' (by omega) g0]
      exact B1 j' j0' (by omega)
  · by_cases e : i = n
    · rw [e, g1]
      exact x01
    · rw [g0 i (by omega)]
      exact B2 i i0 (by omega)
theorem c_8l (W : WrT s Q T b) (hn : I T 1 = n) (n0 : 0 ≤ n) (hl : n + (len : Int) ≤ 32000) (l32 : len ≤ 32) (v0 : 0 ≤ v) (v1 : v < 2147483648) (B : By I b g n) : ∃ I', jd_8_l22 T v ((len : Int) - 1) (hh s Q I) = some (hh s Q I') ∧ I' T 1 = n + (len : Int) ∧ By I' b (gK g n (fun k => v / ((2 ^ (len - 1 - k) : Nat) : Int) % 2) len) (n + (len : Int)) ∧ (∀ c : Nat, c ≠ T → c ≠ b → I' c = I c) ∧ (∀ z : Int, z ≠ 1 → I' T z = I T z) := by
  obtain ⟨h', e, I', rfl, h⟩ : wT (jd_8_l22 T v ((len : Int) - 1) (hh s Q I)) (fun h' => ∃ I', h' = hh s Q I' ∧ I' T 1 = n + (len : Int) ∧ By I' b (gK g n (fun k => v / ((2 ^ (len - 1 - k) : Nat) : Int) % 2) len) (n + (len : Int)) ∧ (∀ c : Nat, c ≠ T → c ≠ b → I' c = I c) ∧ (∀ z : Int, z ≠ 1 → I' T z = I T z)) := by
    unfold jd_8_l22
    refine w_lp (fun k (st : Int × jH) => k ≤ len ∧ ∃ I', st = ((len : Int) - 1 - (k : Int), hh s Q I') ∧ I' T 1 = n + (k : Int) ∧ By I' b (gK g n (fun k => v / ((2 ^ (len - 1 - k) : Nat) : Int) % 2) k) (n + (k : Int)) ∧ (∀ c : Nat, c ≠ T → c ≠ b → I' c = I c) ∧ (∀ z : Int, z ≠ 1 → I' T z = I T z)) len (fun k st hk J => ?_) (n_fu (by omega)) ⟨Nat.zero_le _, I, by rw [show (len : Int) - 1 - ((0 : Nat) : Int) = (len : Int) - 1 by omega], by omega, ?_, fun _ _ _ => rfl, fun _ _ => rfl⟩
    · obtain ⟨kl, I1, rfl, j1, j2, j3, j4⟩ := J
      by_cases hkl : k < len
      · obtain ⟨I2, y1, y2, y3, y4, y5⟩ := c_bit (x3 := (len : Int) - 1 - (k : Int)) (x := v / ((2 ^ (len - 1 - k) : Nat) : Int) % 2) (v := v) (g' := gK g n (fun k => v / ((2 ^ (len - 1 - k) : Nat) : Int) % 2) (k + 1)) W j1 (by omega) (by omega) j2 (by omega) (by omega) (by rw [show (len : Int) - 1 - (k : Int) = ((len - 1 - k : Nat) : Int) by omega, n_shr (by omega) (by omega) (by omega), n_and1]) (by omega) (fun i hi => by unfold gK; exact if_c (by omega)) (by unfold gK; rw [if_pos (by omega), show (n + (k : Int) - n).toNat = k by omega])
        refine ⟨_, y1, ?_⟩
        show jse _ _ _
        rw [jse_l]
        refine ⟨hkl, by omega, I2, by rw [show (len : Int) - 1 - ((k + 1 : Nat) : Int) = (len : Int) - 1 - (k : Int) + -1 by omega], by omega, ?_, fun c c1 c2 => (y4 c c1 c2).trans (j3 c c1 c2), fun z hz => (y5 z hz).trans (j4 z hz)⟩
        rw [show n + ((k + 1 : Nat) : Int) = n + (k : Int) + 1 by omega]
        exact y3
      · have ek : k = len := by omega
        subst ek
        refine ⟨.inr (hh s Q I1), ?_, ?_⟩
        · show jd_8_s22 T v ((k : Int) - 1 - (k : Int)) (hh s Q I1) = _
          unfold jd_8_s22
          rw [n_jw (z := (k : Int) - 1 - (k : Int)) (by omega) (by omega), if_pos (by omega)]
        · show jse _ _ _
          rw [jse_r]
          exact ⟨I1, rfl, j1, j2, j3, j4⟩
    · have e : gK g n (fun k => v / ((2 ^ (len - 1 - k) : Nat) : Int) % 2) 0 = g := funext fun x => if_neg (by omega)
      rw [e, show n + ((0 : Nat) : Int) = n by omega]
      exact B
  exact ⟨I', e, h⟩
/-- a writer, over bytes or counting -/
def WX (s : hS) (Q : hQ) (T : Nat) (I : jM) (n : Int) (g : Int → Int) : Prop := I T 1 = n ∧ 0 ≤ n ∧ ((T < s.1 ∧ s.2.2.1 T = 8 ∧ Q T 0 = none) ∨ ∃ b, WrT s Q T b ∧ By I b g n)
/-- writeCode -/
theorem c_9 (X : WX s Q T I n g) (v0 : 0 ≤ v) (v1 : v < 65535) (hl : n + ((cd v).length : Int) ≤ 32000) : ∃ I', jd_9 T v (hh s Q I) = some (hh s Q I') ∧ WX s Q T I' (n + ((cd v).length : Int)) (gW g n (cd v)) ∧ (∀ c : Nat, c ≠ T → Q T 0 ≠ some c → I' c = I c) ∧ (∀ z : Int, z ≠ 1 → I' T z = I T z) := by
  obtain ⟨hn, n0, X⟩ := X
  have c16 : cdL v < 16 := cdL_lt v0 (by omega)
  have l := cd_len (v := v)
  have e11 := c_11 v0 (by omega)
  rcases X with ⟨x1, x2, x3⟩ | ⟨b, W, B⟩
  · have q0 : Q T ((0 : Nat) : Int) = none := x3
    have e1 : I T ((1 : Nat) : Int) = n := hn
    refine ⟨jms I T 1 (n + ((cd v).length : Int)), ?_, ⟨jms_e, by omega, Or.inl ⟨x1, x2, x3⟩⟩, fun c c1 _ => jms_o c1, fun z hz => jms_i hz⟩
    unfold jd_9 jd_8
    rw [e11, Option.bind_some, x_ck x1 x2, Option.bind_some, x_gr x1 x2, Option.bind_some, q0, if_pos rfl, x_gi x1 x2, Option.bind_some, e1, x_pi x1 x2, Option.bind_some, Option.bind_some]
    rfl
  · obtain ⟨I', y1, y2, y3, y4, y5⟩ := c_8l (len := 2 * cdL v + 1) (v := v + 1) W hn n0 (by omega) (by omega) (by omega) (by omega) B
    have W' := W
    obtain ⟨⟨w1, w2⟩, -, w6, w7⟩ := W
    have q0 : Q T ((0 : Nat) : Int) = some b := w7
    refine ⟨I', ?_, ⟨by rw [l]; exact y2, by omega, Or.inr ⟨b, W', ?_⟩⟩, fun c c1 c2 => y4 c c1 (fun e => c2 (by rw [e]; exact w7)), y5⟩
    · unfold jd_9 jd_8
      rw [e11, Option.bind_some, x_ck w1 w2, Option.bind_some, x_gr w1 w2, Option.bind_some, q0, if_neg (by simp), l, y1, Option.bind_some, Option.bind_some]
    · rw [l]
      have e : gW g n (cd v) = gK g n (fun k => (v + 1) / ((2 ^ (2 * cdL v + 1 - 1 - k) : Nat) : Int) % 2) (2 * cdL v + 1) := by
        funext x
        unfold gW gK
        rw [l]
        by_cases c : n ≤ x ∧ x < n + ((2 * cdL v + 1 : Nat) : Int)
        · rw [if_pos c, if_pos c, cd_get (by omega)]
          rfl
        · rw [if_neg c, if_neg c]
      rw [e]
      exact y3
/-- byteCount -/
theorem c_10 (h1 : T < s.1) (h2 : s.2.2.1 T = 8) (hn : I T 1 = n) (n0 : 0 ≤ n) (n1 : n ≤ 60000) : jd_10 T (hh s Q I) = some ((n + 7) / 8) := by
  have e1 : I T ((1 : Nat) : Int) = n := hn
  unfold jd_10
  rw [x_gi h1 h2, Option.bind_some, e1, n_div (by omega) (by omega) (by decide) (by decide)]
end BitsX
