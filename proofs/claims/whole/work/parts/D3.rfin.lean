/-! a picture read: the end, gathered -/
section RFin
variable {s : hS} {Q : hQ} {hm : hO} {I m : jM} {a c A : Nat} {w h k fr cod fl lo : Int} {pj : Int → Nat}
theorem rfin {Q2 : hQ} {I3 M3 : jM} {kd : Int} (h6 : s.1 ≤ 1000000) (hc : c = 28 ∨ 153 ≤ c) (L2 : Lay s Q2 hm) (F2 : FilmAt s Q2 hm a fl) (Fc2 : FlC s Q2 c) (Pk : PcC s Q2 (pj k)) (sw : isSd w) (sh : isSd h) (hp2 : Q2 (c + 9) k = some (pj k)) (k0 : 0 ≤ k) (k1 : k < 12) (c0 : 0 ≤ cod) (c2 : cod ≤ 2) (ea3 : I3 a 0 = cod) (ec3 : I3 c 0 = cod) (hw3 : I3 (pj k) 0 = w) (hv3 : I3 (pj k) 1 = h) (I3k : I3 11 0 = kd) (kk : 0 ≤ kd ∧ kd ≤ 2) (z110 : ∀ j : Int, 864 * k ≤ j → j < 864 * k + 864 → M3 110 j = 0) (z108 : M3 108 k = -1) (q2o : ∀ x : Nat, x ≠ 10 → x ≠ 11 → Q2 x = Q x) (i3o : ∀ x : Nat, x ≠ 10 → x ≠ 11 → I3 x = I x) (m3o : ∀ x : Nat, x ≠ 76 → x ≠ 108 → x ≠ 110 → M3 x = m x) (m37 : ∀ j : Int, j < 49 ∨ 52 < j → M3 76 j = m 76 j) (m3108 : M3 108 = jiu (m 108) k (-1)) (m3110 : M3 110 = fun x => if 864 * k ≤ x ∧ x < 864 * k + 864 then 0 else m 110 x) : ∀ (f sp : Int) (I4 m4 : jM) (U : Int → Int), jd_115 9 (some a) (some c) k fr lo (hh s Q I) = jd_115_b145 9 (some a) (some c) k f (hh s Q2 I4) → jd_278 k lo m = jd_278_b91 k m4 → Core cod w h k (pj k) c U I3 M3 I4 m4 f sp → (cod = 0 → Fct c w h k f sp I3 M3 I4 m4) → (f ≠ 0 → ∃ fr' : Option Nat, (if cod = 0 ∨ (cod = 2 ∧ kd = 1) then Q2 11 3 else none) = fr' ∧ ((fr' = none ∧ ∀ j, U j = 128) ∨ ∃ b, fr' = some b ∧ PcC s Q2 b ∧ b ≠ pj k ∧ ∀ pl j : Int, 0 ≤ pl → pl ≤ 2 → 0 ≤ j → j < pw w pl * pw h pl → I3 (b + 1) (pb w h pl + j) = U (pf pl + j) ∧ 0 ≤ U (pf pl + j) ∧ U (pf pl + j) ≤ 255)) → ∃ Q' I' m', jd_115 9 (some a) (some c) k fr lo (hh s Q I) = some (hh s Q' I') ∧ jd_278 k lo m = some m' ∧ (∀ x : Nat, x ≠ 10 → x ≠ 11 → Q' x = Q x) ∧ Lay s Q' hm ∧ (∃ f sp, (0 ≤ f ∧ f ≤ 7 ∧ -1 ≤ sp ∧ sp ≤ 1000 ∧ (f = 0 ↔ sp = -1)) ∧ I' (c + 10) = jiu (I (c + 10)) k f ∧ I' (c + 11) = jiu (I (c + 11)) k sp ∧ m' 107 = jiu (m 107) k f ∧ m' 108 = jiu (m 108) k sp ∧ (∀ pl x y : Int, 0 ≤ pl → pl ≤ 2 → 0 ≤ x → x < pw w pl → 0 ≤ y → y < pw h pl → I' (pj k + 1) (pb w h pl + (y * pw w pl + x)) = m' 109 (864 * k + (pf pl + (y * pw w pl + x))) ∧ 0 ≤ m' 109 (864 * k + (pf pl + (y * pw w pl + x))) ∧ m' 109 (864 * k + (pf pl + (y * pw w pl + x))) ≤ 255 ∧ (m' 110 (864 * k + (pf pl + (y * pw w pl + x))) % 2 = 1 ↔ mdAt cod sp w h pl x y)) ∧ (cod = 0 → (∀ q z : Int, 0 ≤ q → q < w / 8 * (h / 8) → 0 ≤ z → z < 7 → m' 111 (63 * k + 7 * q + z) = if 0 ≤ sp ∧ sp ≤ q then -1 else I' (c + 12) ((k * 9 + q) * 7 + z)) ∧ ∀ j : Int, j < 63 * k ∨ 63 * k + 63 ≤ j → m' 111 j = m 111 j ∧ I' (c + 12) j = I (c + 12) j)) ∧ (∀ j : Int, j < 864 * k ∨ 864 * k + 864 ≤ j → m' 109 j = m 109 j ∧ m' 110 j = m 110 j) ∧ (∀ x : Nat, x < 9 ∨ (24 < x ∧ x ≠ 41) → x ≠ pj k + 1 → x ≠ c + 10 → x ≠ c + 11 → x ≠ c + 12 → I' x = I x) ∧ (∀ x : Nat, x ≠ 76 → x ≠ 107 → x ≠ 108 → x ≠ 109 → x ≠ 110 → x ≠ 111 → (x < 114 ∨ 120 < x) → m' x = m x) ∧ (∀ j : Int, j < 49 ∨ 69 < j → m' 76 j = m 76 j) := by
  intro f sp I4 m4 U g1 g2 C FF hU
  obtain ⟨I5, m5, t1, t2, ⟨sp', ⟨v1, v2, v3, v4, v5, v6⟩, u1, u2, u3, u4, u5⟩, u6, u7, u8⟩ := picEnd (a := a) (I1 := I3) (m1 := M3) L2 h6 F2 Fc2 hc Pk sw sh hp2 k0 k1 c0 c2 ea3 ec3 hw3 hv3 I3k kk.1 kk.2 C z110 z108 hU
  obtain ⟨-, -, -, -, out, -, frM, fr76, -⟩ := id C
  refine ⟨Q2, I5, m5, g1.trans t1, g2.trans t2, q2o, L2, ⟨f, sp', ⟨v1, v2, v3, v4, v5⟩, by rw [u1, i3o (c + 10) (by omega) (by omega)], by rw [u2, i3o (c + 11) (by omega) (by omega)], by rw [u3, m3o 107 (by decide) (by decide) (by decide)], ?_, u5, fun d0 => ⟨fun q z q0 q1 z0 z1 => ?_, fun j hj => ?_⟩⟩, fun j hj => ?_, fun x x1 x2 x3 x4 x5 => by rw [u6 x x1 x2 x3 x4 x5]; exact i3o x (by omega) (by omega), fun x x1 x2 x3 x4 x5 x6 x7 => ?_, fun j hj => ?_⟩
  · rw [u4, m3108]
    funext z
    unfold jiu
    by_cases cz : z = k
    · rw [if_pos cz, if_pos cz]
    · rw [if_neg cz, if_neg cz, if_neg cz]
  · rw [u8 111 (by decide), (FF d0).1 q z q0 q1 z0 z1, u7]
    by_cases cf : f = 0
    · have := v5.1 cf
      rw [if_neg (fun e => e.1 cf), if_neg (by omega)]
    · have e := v6 cf
      have ne : sp' ≠ -1 := fun e' => cf (v5.2 e')
      by_cases cs : sp ≤ q
      · rw [if_pos ⟨cf, cs⟩, if_pos (by omega)]
      · rw [if_neg (fun e' => cs e'.2), if_neg (by omega)]
  · have := (FF d0).2 j hj
    rw [u8 111 (by decide), u7, this.1, this.2, m3o 111 (by decide) (by decide) (by decide), i3o (c + 12) (by omega) (by omega)]
    exact ⟨rfl, rfl⟩
  · rw [u8 109 (by decide), u8 110 (by decide), (out j hj).1, (out j hj).2, m3o 109 (by decide) (by decide) (by decide), m3110]
    dsimp only
    rw [if_neg (by omega)]
    exact ⟨rfl, rfl⟩
  · rw [u8 x x2, frM x x1 x3 x4 x5 x6 x7]
    exact m3o x x1 x3 x5
  · rw [u8 76 (by decide), fr76 j (by omega)]
    exact m37 j (by omega)
end RFin
