/-! making: a part's bits; writePart, class -/
def tl (md i : Int) : Int := if md = 3 then 1 else if 2 ≤ i then (if md = 2 then 1 else 0) else (if md = 1 then 1 else 0)
def bkL (lv : Int → Int → Int) : Nat → List Int
  | 0 => []
  | n + 1 => bkL lv n ++ blkB (lv n)
def vcL (md : Int) (V G : Int → Int) : Nat → List Int
  | 0 => []
  | n + 1 => vcL md V G n ++ (if tl md n = 0 then [] else cd (us (V n - G n)))
/-- a part's bits -/
def pB (way md : Int) (V G : Int → Int) (lv : Int → Int → Int) : List Int := cd way ++ (vcL md V G 4 ++ (if md = 0 then [] else bkL lv 6))
theorem bkL_0 {lv : Int → Int → Int} : bkL lv 0 = [] := rfl
theorem bkL_s {lv : Int → Int → Int} {n : Nat} : bkL lv (n + 1) = bkL lv n ++ (cd (lc (lv n) 16) ++ (rl (lv n) 16).2) := rfl
theorem rl_0 {lv : Int → Int} : rl lv 0 = (0, []) := rfl
theorem bkL_len {lv : Int → Int → Int} (hl : ∀ b j : Int, -4095 ≤ lv b j ∧ lv b j ≤ 4095) : ∀ n : Nat, ((bkL lv n).length : Int) ≤ 553 * n
  | 0 => Int.le_refl _
  | n + 1 => by
    have ih := bkL_len hl n
    have := blk_len (lv := lv n) (fun j _ _ => hl n j)
    show ((bkL lv n ++ blkB (lv n)).length : Int) ≤ _
    rw [List.length_append]
    omega
theorem vcL_len {md : Int} {V G : Int → Int} (hv : ∀ i : Int, 0 ≤ i → i < 4 → -32 ≤ V i - G i ∧ V i - G i ≤ 32) : ∀ n : Nat, n ≤ 4 → ((vcL md V G n).length : Int) ≤ 13 * n
  | 0, _ => Int.le_refl _
  | n + 1, h => by
    have ih := vcL_len (md := md) hv n (by omega)
    show ((vcL md V G n ++ (if tl md n = 0 then [] else cd (us (V n - G n)))).length : Int) ≤ _
    rw [List.length_append]
    by_cases c : tl md n = 0
    · rw [if_pos c]
      show (((vcL md V G n).length + 0 : Nat) : Int) ≤ _
      omega
    · have b := hv n (by omega) (by omega)
      have u := us_b b.1 b.2
      have l2 := cd_le (v := us (V n - G n)) (k := 7) u.1 (by show us (V n - G n) + 1 < 128; omega)
      rw [if_neg c]
      omega
theorem bkL_c {lv lv' : Int → Int → Int} : ∀ n : Nat, (∀ b j : Int, 0 ≤ b → b < n → 0 ≤ j → j < 16 → lv b j = lv' b j) → bkL lv n = bkL lv' n
  | 0, _ => rfl
  | n + 1, h => by
    show bkL lv n ++ blkB (lv n) = bkL lv' n ++ blkB (lv' n)
    have e : ∀ j : Int, 0 ≤ j → j < 16 → lv (n : Int) j = lv' (n : Int) j := fun j j0 j1 => h n j (by omega) (by omega) j0 j1
    unfold blkB
    rw [bkL_c n (fun b j b0 b1 => h b j b0 (by omega)), lc_c (n := 16) (fun j j0 j1 => e j j0 (by omega)), rl_c 16 (fun j j0 j1 => e j j0 (by omega))]
/-- the levels' bits up to the x-th -/
def lbB (lv : Int → Int → Int) (B j : Nat) : List Int := bkL lv B ++ (if j = 0 then [] else cd (lc (lv B) 16) ++ (rl (lv B) j).2)
theorem lbB_16 {lv : Int → Int → Int} {B : Nat} : lbB lv B 16 = bkL lv (B + 1) := by
  unfold lbB
  rw [if_neg (by decide)]
  rfl
section WPart
variable {s : hS} {Q : hQ} {hm : hO} {I : jM} {T b : Nat} {n way md kd : Int} {g : Int → Int} {V G : Int → Int} {lv : Int → Int → Int}
/-- only the writer T and its bytes have changed -/
def NW (Q : hQ) (T : Nat) (I I' : jM) : Prop := (∀ c : Nat, c ≠ T → Q T 0 ≠ some c → I' c = I c) ∧ ∀ z : Int, z ≠ 1 → I' T z = I T z
theorem NW_t {I1 I2 : jM} (h : NW Q T I I1) (h' : NW Q T I1 I2) : NW Q T I I2 := ⟨fun c c1 c2 => (h'.1 c c1 c2).trans (h.1 c c1 c2), fun z hz => (h'.2 z hz).trans (h.2 z hz)⟩
theorem c_9a {v : Int} {l : List Int} (X : WX s Q T I (n + (l.length : Int)) (gW g n l)) (v0 : 0 ≤ v) (v1 : v < 65535) (hl : n + (l.length : Int) + ((cd v).length : Int) ≤ 32000) : ∃ I', jd_9 T v (hh s Q I) = some (hh s Q I') ∧ WX s Q T I' (n + ((l ++ cd v).length : Int)) (gW g n (l ++ cd v)) ∧ NW Q T I I' := by
  obtain ⟨I', e1, e2, e3, e4⟩ := c_9 X v0 v1 hl
  refine ⟨I', e1, ?_, e3, e4⟩
  rw [gW_app] at e2
  rw [List.length_append]
  have : n + ((l.length + (cd v).length : Nat) : Int) = n + (l.length : Int) + ((cd v).length : Int) := by omega
  rw [this]
  exact e2
theorem k_77 (m0 : 0 ≤ md) (m6 : md ≤ 6) {i : Int} (i0 : 0 ≤ i) (i1 : i < 4) : jw (jd_77 md i) = tl md i := by
  have h1 : md = 0 ∨ md = 1 ∨ md = 2 ∨ md = 3 ∨ md = 4 ∨ md = 5 ∨ md = 6 := by omega
  have h2 : i = 0 ∨ i = 1 ∨ i = 2 ∨ i = 3 := by omega
  rcases h1 with rfl | rfl | rfl | rfl | rfl | rfl | rfl <;> rcases h2 with rfl | rfl | rfl | rfl <;> decide
theorem k_76 (L : Lay s Q hm) (eK : I 45 0 = kd) (k0 : 0 ≤ kd) (k2 : kd ≤ 2) (w0 : 0 ≤ way) (w6 : way ≤ 6) : jd_76 45 way (hh s Q I) = some (mdW kd way) := by
  have F := PtC_45 L
  have e : I 45 ((0 : Nat) : Int) = kd := eK
  unfold jd_76 jd_76_b35 mdW
  rw [T_gi F, Option.bind_some, Option.bind_some, e, n_jw (z := kd) (by omega) (by omega), n_jw (z := way) (by omega) (by omega)]
  by_cases c : kd = 2
  · rw [if_pos c, if_pos c]
  · rw [if_neg c, if_neg c]
/-- the writer is one of the maker's two -/
def WT (Q : hQ) (T : Nat) : Prop := (T = 43 ∨ T = 55) ∧ ∀ c : Nat, Q T 0 = some c → 153 ≤ c
theorem NW_lo {I' : jM} (W : WT Q T) (h : NW Q T I I') {c : Nat} (c1 : 44 ≤ c) (c2 : c < 76) (c3 : c ≠ 55) : I' c = I c := h.1 c (by have := W.1; omega) (fun e => by have := W.2 c e; omega)
theorem c_20v {l : List Int} (L : Lay s Q hm) (h6 : s.1 ≤ 1000000) (W : WT Q T) (X : WX s Q T I (n + (l.length : Int)) (gW g n l)) (m0 : 0 ≤ md) (m6 : md ≤ 6) (hv : ∀ i : Int, 0 ≤ i → i < 4 → I 50 i = V i ∧ I 51 i = G i ∧ -32 ≤ V i - G i ∧ V i - G i ≤ 32) (hn : n + (l.length : Int) ≤ 28600) : ∃ I', jd_20_l17 44 (some T) md 0 (hh s Q I) = some (hh s Q I') ∧ WX s Q T I' (n + ((l ++ vcL md V G 4).length : Int)) (gW g n (l ++ vcL md V G 4)) ∧ NW Q T I I' := by
  have F := PtC_45 L
  have q0 : Q 44 ((0 : Nat) : Int) = some 45 := Lq L rfl
  have q11 := T_q F 5 11 rfl rfl rfl
  have q12 := T_q F 6 12 rfl rfl rfl
  obtain ⟨h', e, I', rfl, h⟩ : wT (jd_20_l17 44 (some T) md 0 (hh s Q I)) (fun h' => ∃ I', h' = hh s Q I' ∧ WX s Q T I' (n + ((l ++ vcL md V G 4).length : Int)) (gW g n (l ++ vcL md V G 4)) ∧ NW Q T I I') := by
    unfold jd_20_l17
    refine w_lp (fun k (st : Int × jH) => k ≤ 4 ∧ ∃ I', st = ((k : Int), hh s Q I') ∧ WX s Q T I' (n + ((l ++ vcL md V G k).length : Int)) (gW g n (l ++ vcL md V G k)) ∧ NW Q T I I') 4 (fun k st hk J => ?_) (n_fu (by decide)) ⟨by decide, I, rfl, by rw [show l ++ vcL md V G 0 = l from List.append_nil l]; exact X, fun _ _ _ => rfl, fun _ _ => rfl⟩
    obtain ⟨k4, I1, rfl, j1, j2⟩ := J
    by_cases hk4 : k < 4
    · have vl := vcL_len (md := md) (V := V) (G := G) (fun i i0 i1 => (hv i i0 i1).2.2) k (by omega)
      have e50 : I1 50 = I 50 := NW_lo W j2 (by decide) (by decide) (by decide)
      have e51 : I1 51 = I 51 := NW_lo W j2 (by decide) (by decide) (by decide)
      obtain ⟨v1, v2, v3, v4⟩ := hv (k : Int) (by omega) (by omega)
      have la := List.length_append (as := l) (bs := vcL md V G k)
      have hd : jd_20_s17 44 (some T) md (k : Int) (hh s Q I1) = if tl md (k : Int) = 0 then some (.inl ((k : Int) + 1, hh s Q I1)) else ((jck (hh s Q I1) T 0).bind fun u39 => ((jd_9 T (jd_12 (V (k : Int) - G (k : Int))) (hh s Q I1)).bind fun h41 => some (.inl ((k : Int) + 1, h41)))) := by
        have a50 : jai (hh s Q I1) 50 (k : Int) = some (V (k : Int)) := by
          have := T_ai (R := Q) (I := I1) (z := (k : Int)) F h6 5 4 rfl rfl rfl rfl (by omega) (by omega)
          rw [show 45 + 5 = 50 from rfl, e50, v1] at this
          exact this
        have a51 : jai (hh s Q I1) 51 (k : Int) = some (G (k : Int)) := by
          have := T_ai (R := Q) (I := I1) (z := (k : Int)) F h6 6 4 rfl rfl rfl rfl (by omega) (by omega)
          rw [show 45 + 6 = 51 from rfl, e51, v2] at this
          exact this
        unfold jd_20_s17 jd_20_b60
        rw [n_jw (z := (k : Int)) (by omega) (by omega), if_neg (by omega), k_77 m0 m6 (by omega) (by omega), y_gr L 44 1 rfl rfl, Option.bind_some, q0, Option.bind_some, T_gr F, Option.bind_some, q11, Option.bind_some, a50, Option.bind_some, Option.bind_some, Option.bind_some, T_gr F, Option.bind_some, q12, Option.bind_some, a51, Option.bind_some, Option.bind_some]
      have vs : vcL md V G (k + 1) = vcL md V G k ++ (if tl md (k : Int) = 0 then [] else cd (us (V (k : Int) - G (k : Int)))) := rfl
      show wT (jd_20_s17 44 (some T) md (k : Int) (hh s Q I1)) _
      rw [hd]
      by_cases c : tl md (k : Int) = 0
      · rw [if_pos c] at vs
        rw [if_pos c]
        refine ⟨_, rfl, ?_⟩
        show jse _ _ _
        rw [jse_l]
        refine ⟨hk4, by omega, I1, by rw [show ((k + 1 : Nat) : Int) = (k : Int) + 1 by omega], ?_, j2⟩
        rw [vs, List.append_nil]
        exact j1
      · have u := us_b v3 v4
        have l2 := cd_le (v := us (V (k : Int) - G (k : Int))) (k := 7) u.1 (by show us (V (k : Int) - G (k : Int)) + 1 < 128; omega)
        obtain ⟨I2, y1, y2, y3⟩ := c_9a (v := us (V (k : Int) - G (k : Int))) j1 u.1 (by omega) (by omega)
        have ck : jck (hh s Q I1) T 0 = some () := by
          rcases j1.2.2 with ⟨z1, z2, -⟩ | ⟨b, ⟨z1, -⟩, -⟩
          · exact x_ck z1 z2
          · exact x_ck z1.1 z1.2
        rw [if_neg c] at vs
        rw [if_neg c, ck, Option.bind_some, (k_us (v := V (k : Int) - G (k : Int)) (by omega) (by omega)).2, y1, Option.bind_some]
        refine ⟨_, rfl, ?_⟩
        show jse _ _ _
        rw [jse_l]
        refine ⟨hk4, by omega, I2, by rw [show ((k + 1 : Nat) : Int) = (k : Int) + 1 by omega], ?_, NW_t j2 y3⟩
        rw [vs, ← List.append_assoc]
        exact y2
    · have ek : k = 4 := by omega
      subst ek
      refine ⟨.inr (hh s Q I1), ?_, ?_⟩
      · show jd_20_s17 44 (some T) md ((4 : Nat) : Int) (hh s Q I1) = _
        unfold jd_20_s17
        rw [if_pos (by decide)]
      · show jse _ _ _
        rw [jse_r]
        exact ⟨I1, rfl, j1, j2⟩
  exact ⟨I', e, h⟩
end WPart
