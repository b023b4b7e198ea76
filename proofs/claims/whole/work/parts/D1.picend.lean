/-! a picture read: what is noted, what is mended -/
section PicEnd
variable {s : hS} {Q : hQ} {hm : hO} {I m : jM} {a c p : Nat} {w h k cod kd f : Int} {fl : Int}
theorem anc_f {K : Int → Int} {fr : Int} (n : Nat) : anc K fr n = -1 ∨ fr ≤ anc K fr n := by
  induction n with
  | zero => exact Or.inl rfl
  | succ n ih =>
    rw [anc_s]
    by_cases c : (n : Int) < fr
    · rw [if_pos c]; exact Or.inl rfl
    · rw [if_neg c]
      by_cases d : K n ≠ 2
      · rw [if_pos d]; exact Or.inr (by omega)
      · rw [if_neg d]; exact ih
/-- what a picture read leaves: rule, spot, samples, what is mended -/
def PicOut (s : hS) (Q : hQ) (c p : Nat) (w h k cod : Int) (I m I' m' : jM) : Prop := ∃ f sp, (0 ≤ f ∧ f ≤ 7 ∧ -1 ≤ sp ∧ sp ≤ 1000 ∧ (f = 0 ↔ sp = -1)) ∧ I' (c + 10) = jiu (I (c + 10)) k f ∧ I' (c + 11) = jiu (I (c + 11)) k sp ∧ m' 107 = jiu (m 107) k f ∧ m' 108 = jiu (m 108) k sp ∧ (∀ pl x y : Int, 0 ≤ pl → pl ≤ 2 → 0 ≤ x → x < pw w pl → 0 ≤ y → y < pw h pl → I' (p + 1) (pb w h pl + (y * pw w pl + x)) = m' 109 (864 * k + (pf pl + (y * pw w pl + x))) ∧ 0 ≤ m' 109 (864 * k + (pf pl + (y * pw w pl + x))) ∧ m' 109 (864 * k + (pf pl + (y * pw w pl + x))) ≤ 255 ∧ (m' 110 (864 * k + (pf pl + (y * pw w pl + x))) % 2 = 1 ↔ mdAt cod sp w h pl x y)) ∧ (∀ j : Int, j < 864 * k ∨ 864 * k + 864 ≤ j → m' 109 j = m 109 j ∧ m' 110 j = m 110 j) ∧ (∀ x : Nat, x < 9 ∨ (24 < x ∧ x ≠ 41) → x ≠ p + 1 → x ≠ c + 10 → x ≠ c + 11 → x ≠ c + 12 → I' x = I x) ∧ (∀ x : Nat, x ≠ 76 → x ≠ 107 → x ≠ 108 → x ≠ 109 → x ≠ 110 → x ≠ 111 → (x < 114 ∨ 120 < x) → m' x = m x) ∧ (∀ j : Int, j < 49 ∨ 69 < j → m' 76 j = m 76 j)
theorem picEnd {sp : Int} {I1 m1 J N : jM} {U : Int → Int} (L : Lay s Q hm) (h6 : s.1 ≤ 1000000) (F : FilmAt s Q hm a fl) (Fc : FlC s Q c) (hc : c = 28 ∨ 153 ≤ c) (P : PcC s Q p) (sw : isSd w) (sh : isSd h) (hp : Q (c + 9) k = some p) (k0 : 0 ≤ k) (k1 : k < 12) (c0 : 0 ≤ cod) (c2 : cod ≤ 2) (ea : I1 a 0 = cod) (ec : I1 c 0 = cod) (hw : I1 p 0 = w) (hv : I1 p 1 = h) (eK : I1 11 0 = kd) (kd0 : 0 ≤ kd) (kd2 : kd ≤ 2) (C : Core cod w h k p c U I1 m1 J N f sp) (z110 : ∀ j : Int, 864 * k ≤ j → j < 864 * k + 864 → m1 110 j = 0) (z108 : m1 108 k = -1) (hU : f ≠ 0 → ∃ fr : Option Nat, (if cod = 0 ∨ (cod = 2 ∧ kd = 1) then Q 11 3 else none) = fr ∧ ((fr = none ∧ ∀ j, U j = 128) ∨ ∃ b, fr = some b ∧ PcC s Q b ∧ b ≠ p ∧ ∀ pl j : Int, 0 ≤ pl → pl ≤ 2 → 0 ≤ j → j < pw w pl * pw h pl → I1 (b + 1) (pb w h pl + j) = U (pf pl + j) ∧ 0 ≤ U (pf pl + j) ∧ U (pf pl + j) ≤ 255)) : ∃ I' m', jd_115_b145 9 (some a) (some c) k f (hh s Q J) = some (hh s Q I') ∧ jd_278_b91 k N = some m' ∧ (∃ sp', (0 ≤ f ∧ f ≤ 7 ∧ -1 ≤ sp' ∧ sp' ≤ 1000 ∧ (f = 0 ↔ sp' = -1) ∧ (f ≠ 0 → sp' = sp)) ∧ I' (c + 10) = jiu (I1 (c + 10)) k f ∧ I' (c + 11) = jiu (I1 (c + 11)) k sp' ∧ m' 107 = jiu (m1 107) k f ∧ m' 108 = jiu (m1 108) k sp' ∧ (∀ pl x y : Int, 0 ≤ pl → pl ≤ 2 → 0 ≤ x → x < pw w pl → 0 ≤ y → y < pw h pl → I' (p + 1) (pb w h pl + (y * pw w pl + x)) = m' 109 (864 * k + (pf pl + (y * pw w pl + x))) ∧ 0 ≤ m' 109 (864 * k + (pf pl + (y * pw w pl + x))) ∧ m' 109 (864 * k + (pf pl + (y * pw w pl + x))) ≤ 255 ∧ (m' 110 (864 * k + (pf pl + (y * pw w pl + x))) % 2 = 1 ↔ mdAt cod sp' w h pl x y))) ∧ (∀ x : Nat, x < 9 ∨ (24 < x ∧ x ≠ 41) → x ≠ p + 1 → x ≠ c + 10 → x ≠ c + 11 → x ≠ c + 12 → I' x = I1 x) ∧ I' (c + 12) = J (c + 12) ∧ (∀ x : Nat, x ≠ 107 → m' x = N x) := by
  obtain ⟨⟨f0, f7, nb⟩, cs1, cs0, smp, out, frI, frM, fr76, k11⟩ := C
  obtain ⟨P1, P2, P3, P4, P5, P6, P7⟩ := id P
  have a153 := F.1
  have qq1 : Q 9 ((1 : Nat) : Int) = some 11 := Lq L rfl
  have q16 := G_q Fc 9 16 rfl rfl
  have q17 := G_q Fc 10 17 rfl rfl
  have c10 := Fc.1 10 (by decide)
  have c11 := Fc.1 11 (by decide)
  have c12 := Fc.1 12 (by decide)
  have l10 : s.2.2.2 (c + 10) = 12 := c10.2.2
  have l11 : s.2.2.2 (c + 11) = 12 := c11.2.2
  have l12 : s.2.2.2 (c + 12) = 756 := c12.2.2
  have n10 : c + 10 ≠ p + 1 := fun e => by rw [e, P6] at l10; exact absurd l10 (by decide)
  have n11 : c + 11 ≠ p + 1 := fun e => by rw [e, P6] at l11; exact absurd l11 (by decide)
  have n12 : c + 12 ≠ p + 1 := fun e => by rw [e, P6] at l12; exact absurd l12 (by decide)
  have tc := (G_t Fc).2
  have ncp : c ≠ p + 1 := fun e => by rw [e, P5] at tc; exact absurd tc (by decide)
  have np : ∀ j : Nat, 10 ≤ j → j ≤ 12 → p ≠ c + j := fun j j1 j2 e => by
    have hj : j = 10 ∨ j = 11 ∨ j = 12 := by omega
    rcases hj with rfl | rfl | rfl
    · have := c10.2.1; rw [← e, P3] at this; exact absurd this (by decide)
    · have := c11.2.1; rw [← e, P3] at this; exact absurd this (by decide)
    · have := c12.2.1; rw [← e, P3] at this; exact absurd this (by decide)
  have ta : s.2.2.1 a = 2 + 8 := (G_t (FlC_F F)).2
  have na : ∀ j : Nat, 10 ≤ j → j ≤ 12 → a ≠ c + j := fun j j1 j2 e => by
    have hj : j = 10 ∨ j = 11 ∨ j = 12 := by omega
    rcases hj with rfl | rfl | rfl
    · have := c10.2.1; rw [← e, ta] at this; exact absurd this (by decide)
    · have := c11.2.1; rw [← e, ta] at this; exact absurd this (by decide)
    · have := c12.2.1; rw [← e, ta] at this; exact absurd this (by decide)
  have nap : a ≠ p + 1 := fun e => by rw [e, P5] at ta; exact absurd ta (by decide)
  have Jo := fun x h1 h2 h3 => frI x h1 h2 h3
  have J10 : J (c + 10) = I1 (c + 10) := Jo _ (by omega) n10 (by omega)
  have J11 : J (c + 11) = I1 (c + 11) := Jo _ (by omega) n11 (by omega)
  -- the model's end
  have M1 : jd_278_b91 k N = some (jms N 107 k f) := by
    unfold jd_278_b91
    rw [nb, y_mw 107 12 rfl rfl k0 k1, Option.bind_some]
  have m107 : jms N 107 k f 107 = jiu (m1 107) k f := by
    funext z
    unfold jms
    rw [if_pos rfl, frM 107 (by decide) (by decide) (by decide) (by decide) (by decide) (by decide)]
  -- rules and spots of the class
  obtain ⟨sq, hsq⟩ : ∃ z, z = if f = 0 then (-1 : Int) else sp := ⟨_, rfl⟩
  obtain ⟨J1, hJ1⟩ : ∃ z, z = jms J (c + 10) k f := ⟨_, rfl⟩
  obtain ⟨J2, hJ2⟩ : ∃ z, z = jms J1 (c + 11) k sq := ⟨_, rfl⟩
  have o1 : ∀ x : Nat, x ≠ c + 10 → J1 x = J x := fun x hx => by rw [hJ1]; exact jms_o hx
  have o2 : ∀ x : Nat, x ≠ c + 10 → x ≠ c + 11 → J2 x = J x := fun x h1 h2 => by rw [hJ2, jms_o h2]; exact o1 x h1
  have J2a : J2 (c + 10) = jiu (I1 (c + 10)) k f := by
    rw [hJ2, jms_o (by omega), hJ1]
    funext z
    unfold jms
    rw [if_pos rfl, J10]
  have J2b : J2 (c + 11) = jiu (I1 (c + 11)) k sq := by
    rw [hJ2]
    funext z
    unfold jms
    rw [if_pos rfl, o1 (c + 11) (by omega), J11]
  have C1 : jd_115_b145 9 (some a) (some c) k f (hh s Q J) = (if jw f = 0 then jd_115_b231 9 (hh s Q J2) else ((jgi (hh s Q J2) a 2 0).bind fun v90 => (if (jw v90) = 0 then jd_115_b208 9 (some c) k 1 (hh s Q J2) else (((some a : Option Nat)).bind fun a102 => ((jgi (hh s Q J2) a102 2 0).bind fun v104 => (if (jw v104) = 2 then ((jgr (hh s Q J2) 9 8 1).bind fun r107 => ((r107).bind fun a109 => ((jgi (hh s Q J2) a109 5 0).bind fun v111 => jd_115_b208 9 (some c) k (if (jw v111) = 1 then 1 else 0) (hh s Q J2)))) else jd_115_b208 9 (some c) k 0 (hh s Q J2))))))) := by
    unfold jd_115_b145 jd_115_b171
    rw [Option.bind_some, G_gr Fc, Option.bind_some, q16, Option.bind_some, show c + (9 + 1) = c + 10 from rfl, G_ta Fc 10 0 12 rfl rfl rfl k0 (by omega), Option.bind_some, Option.bind_some, G_gr Fc, Option.bind_some, q17, n_jw (z := f) (by omega) (by omega), ← hJ1]
    by_cases cf : f = 0
    · have e : sq = -1 := by rw [hsq, if_pos cf]
      rw [if_pos cf, Option.bind_some, show c + (10 + 1) = c + 11 from rfl, G_ta Fc 11 0 12 rfl rfl rfl k0 (by omega), Option.bind_some, if_pos cf, if_pos cf, hJ2, e]
    · have e : sq = sp := by rw [hsq, if_neg cf]
      have e9 : J1 9 ((6 : Nat) : Int) = sp := by rw [o1 9 (by omega)]; exact (cs1 cf).1
      rw [if_neg cf, y_gi L 9 8 rfl rfl, Option.bind_some, e9, Option.bind_some, show c + (10 + 1) = c + 11 from rfl, G_ta Fc 11 0 12 rfl rfl rfl k0 (by omega), Option.bind_some, if_neg cf, if_neg cf, Option.bind_some, hJ2, e]
  by_cases cf : f = 0
  · have e : sq = -1 := by rw [hsq, if_pos cf]
    refine ⟨J2, jms N 107 k f, ?_, M1, ⟨-1, ⟨f0, f7, by decide, by decide, ⟨fun _ => rfl, fun _ => cf⟩, fun hf => absurd cf hf⟩, J2a, by rw [J2b, e], m107, ?_, fun pl x y p0 p2 x0 x1 y0 y1 => ?_⟩, fun x h1 h2 h3 h4 h5 => (o2 x h3 h4).trans (Jo x h1 h2 h5), o2 (c + 12) (by omega) (by omega), fun x hx => jms_o hx⟩
    · rw [C1, n_jw (by omega) (by omega), if_pos cf]
      rfl
    · rw [jms_o (by decide), cs0 cf]
      funext z
      unfold jiu
      by_cases cz : z = k
      · rw [if_pos cz, cz]; exact z108
      · rw [if_neg cz]
    · have ps := pl_sz sw sh p0 p2
      have db := dm_b (W := pw w pl) (H := pw h pl) y0 y1 x0 x1
      have S := (smp pl x y p0 p2 x0 x1 y0 y1).1 (Or.inl cf)
      rw [jms_o (by decide), jms_o (by decide), o2 (p + 1) (fun e => n10 e.symm) (fun e => n11 e.symm), S.2.2.2, z110 _ (by omega) (by omega)]
      refine ⟨S.1, S.2.1, S.2.2.1, fun e => absurd e (by decide), fun e => ?_⟩
      unfold mdAt at e
      exact absurd e.1 (by decide)
  · obtain ⟨i96, sp0, sp1, s108⟩ := cs1 cf
    have e : sq = sp := by rw [hsq, if_neg cf]
    rw [e] at J2b
    obtain ⟨fr, hfr, hV⟩ := hU cf
    have Jc : J2 c 0 = cod := by rw [o2 c (by omega) (by omega), Jo c (by omega) ncp (by omega)]; exact ec
    have Jp : J2 p = I1 p := (o2 p (np 10 (by decide) (by decide)) (np 11 (by decide) (by decide))).trans (Jo p (by omega) (by omega) (np 12 (by decide) (by decide)))
    have Ja : J2 a ((0 : Nat) : Int) = cod := by rw [o2 a (na 10 (by decide) (by decide)) (na 11 (by decide) (by decide)), Jo a (by omega) nap (na 12 (by decide) (by decide))]; exact ea
    have Jk : J2 11 ((0 : Nat) : Int) = kd := by
      rw [o2 11 (by omega) (by omega)]
      exact k11.trans eK
    -- what mends, as a row of the class
    obtain ⟨V, hVV⟩ : ∃ V : Int → Int, ((fr = none ∧ ∀ j, V j = 128) ∨ ∃ b, fr = some b ∧ PcC s Q b ∧ b ≠ p ∧ ∀ j, V j = J2 (b + 1) j) := by
      rcases hV with ⟨h1, -⟩ | ⟨b, h1, h2, h3, -⟩
      · exact ⟨fun _ => 128, Or.inl ⟨h1, fun _ => rfl⟩⟩
      · exact ⟨J2 (b + 1), Or.inr ⟨b, h1, h2, h3, fun _ => rfl⟩⟩
    have VU : ∀ pl j : Int, 0 ≤ pl → pl ≤ 2 → 0 ≤ j → j < pw w pl * pw h pl → V (pb w h pl + j) = U (pf pl + j) ∧ 0 ≤ U (pf pl + j) ∧ U (pf pl + j) ≤ 255 := fun pl j p0 p2 j0 j1 => by
      rcases hV with ⟨h1, h2⟩ | ⟨b, h1, h2, h3, h4⟩
      · rcases hVV with ⟨-, g2⟩ | ⟨b', g1, -⟩
        · rw [g2, h2]; exact ⟨rfl, by decide, by decide⟩
        · rw [h1] at g1; exact absurd g1.symm (Option.some_ne_none b')
      · rcases hVV with ⟨g1, -⟩ | ⟨b', g1, g2, g3, g4⟩
        · rw [h1] at g1; exact absurd g1 (Option.some_ne_none b)
        · rw [h1] at g1
          have eb : b = b' := Option.some.inj g1
          subst eb
          have B6 := h2.2.2.2.2.2.1
          have nb1 : ∀ j : Nat, 10 ≤ j → j ≤ 12 → b + 1 ≠ c + j := fun j j1 j2 e => by
            have hj : j = 10 ∨ j = 11 ∨ j = 12 := by omega
            rcases hj with rfl | rfl | rfl
            · rw [e, l10] at B6; exact absurd B6 (by decide)
            · rw [e, l11] at B6; exact absurd B6 (by decide)
            · rw [e, l12] at B6; exact absurd B6 (by decide)
          have b153 := h2.1
          rw [g4, o2 (b + 1) (nb1 10 (by decide) (by decide)) (nb1 11 (by decide) (by decide)), Jo (b + 1) (by omega) (by omega) (nb1 12 (by decide) (by decide))]
          exact h4 pl j p0 p2 j0 j1
    obtain ⟨G, e116, hG⟩ := c_116 (I := J2) (sp := sp) (cod := cod) Fc h6 P k0 k1 hp Jc c0 c2 (by rw [J2b]; exact jiu_e) (by omega) sp1 (by rw [Jp]; exact hw) (by rw [Jp]; exact hv) sw sh hVV
    refine ⟨ims J2 (p + 1) G, jms N 107 k f, ?_, M1, ⟨sp, ⟨f0, f7, by omega, sp1, ⟨fun hf => absurd hf cf, fun hs => absurd hs (by omega)⟩, fun _ => rfl⟩, by rw [ims_o n10]; exact J2a, by rw [ims_o n11]; exact J2b, m107, by rw [jms_o (by decide)]; exact s108, fun pl x y p0 p2 x0 x1 y0 y1 => ?_⟩, fun x h1 h2 h3 h4 h5 => by rw [ims_o h2, o2 x h3 h4]; exact Jo x h1 h2 h5, by rw [ims_o n12]; exact o2 (c + 12) (by omega) (by omega), fun x hx => jms_o hx⟩
    · have q3 : ∀ y : Option Nat, jd_115_b228 9 y k (some c) (hh s Q J2) = (jd_116 (some c) k y (hh s Q J2)).bind fun h94 => some h94 := fun y => rfl
      have fin : jd_115_b228 9 fr k (some c) (hh s Q J2) = some (hh s Q (ims J2 (p + 1) G)) := by
        rw [q3, e116, Option.bind_some]
      rw [C1, n_jw (z := f) (by omega) (by omega), if_neg cf, F_gi F, Option.bind_some, Ja, n_jw (z := cod) (by omega) (by omega)]
      by_cases d0 : cod = 0
      · rw [if_pos (Or.inl d0)] at hfr
        unfold jd_115_b208
        rw [if_pos d0, if_neg (by decide), y_gr L 9 8 rfl rfl, Option.bind_some, qq1, Option.bind_some, y_gr L 11 5 rfl rfl, Option.bind_some]
        rw [show Q 11 ((3 : Nat) : Int) = fr from hfr]
        exact fin
      · rw [if_neg d0, Option.bind_some, F_gi F, Option.bind_some, Ja, n_jw (z := cod) (by omega) (by omega)]
        by_cases d2 : cod = 2
        · rw [if_pos d2, y_gr L 9 8 rfl rfl, Option.bind_some, qq1, Option.bind_some, y_gi L 11 5 rfl rfl, Option.bind_some, Jk, n_jw (z := kd) (by omega) (by omega)]
          unfold jd_115_b208
          by_cases dk : kd = 1
          · rw [if_pos (Or.inr ⟨d2, dk⟩)] at hfr
            rw [if_pos dk, if_neg (by decide), y_gr L 9 8 rfl rfl, Option.bind_some, qq1, Option.bind_some, y_gr L 11 5 rfl rfl, Option.bind_some]
            rw [show Q 11 ((3 : Nat) : Int) = fr from hfr]
            exact fin
          · rw [if_neg (by omega)] at hfr
            rw [if_neg dk, if_pos (by decide), hfr]
            exact fin
        · rw [if_neg (by omega)] at hfr
          unfold jd_115_b208
          rw [if_neg d2, if_pos (by decide), hfr]
          exact fin
    · have ps := pl_sz sw sh p0 p2
      have db := dm_b (W := pw w pl) (H := pw h pl) y0 y1 x0 x1
      have hg := hG pl x y p0 p2 x0 x1 y0 y1
      have hs := smp pl x y p0 p2 x0 x1 y0 y1
      rw [jms_o (by decide), jms_o (by decide), ims_e]
      by_cases hd : mdAt cod sp w h pl x y
      · have v := VU pl (y * pw w pl + x) p0 p2 db.1 db.2
        have u := hs.2 cf hd
        rw [hg.1 hd, v.1, u.1, u.2]
        exact ⟨rfl, v.2.1, v.2.2, fun _ => hd, fun _ => by decide⟩
      · have u := hs.1 (Or.inr hd)
        rw [hg.2 hd, o2 (p + 1) (fun e => n10 e.symm) (fun e => n11 e.symm), u.2.2.2, z110 _ (by omega) (by omega)]
        exact ⟨u.1, u.2.1, u.2.2.1, fun e => absurd e (by decide), fun e => absurd e hd⟩
end PicEnd
