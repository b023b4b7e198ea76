/-! shown -/
section Shown
variable {s : hS} {Q : hQ} {hm : hO} {I m : jM} {a : Nat} {f p q x y v z : Int}
theorem k_323l {n k : Int} (hn : m 76 1 = n) (n0 : 0 ≤ n) (n6 : n < 60) (hf : 0 ≤ f ∧ f < 8) (k0 : 0 ≤ k) (k1 : k < 12) (hc : ∀ g : Int → Int, jd_318 f p (ims m 79 g) = some (12 * f + k)) : jd_323_l72 f p 0 m = some (ims m 79 (seqf (m 79) (864 * n) (fun j _ => m 99 (864 * (12 * f + k) + j)) 864)) := by
  unfold jd_323_l72
  have := w_for (f := fun u : (Int × jM) => jd_323_s72 f p u.1 u.2) (fun j => ((j : Int), ims m 79 (seqf (m 79) (864 * n) (fun j _ => m 99 (864 * (12 * f + k) + j)) (j : Int)))) 864 (x := ims m 79 (seqf (m 79) (864 * n) (fun j _ => m 99 (864 * (12 * f + k) + j)) 864)) (fun j hj => ?_) ?_ (n_fu (by decide))
  · rw [show ((0 : Nat) : Int) = 0 from rfl, seqf_0, ims_self] at this
    exact this
  · dsimp only
    unfold jd_323_s72
    have e1 : ∀ g : Int → Int, ims m 79 g 76 1 = n := fun _ => hn
    have e2 : ∀ g : Int → Int, ims m 79 g 99 = m 99 := fun _ => rfl
    have st := seqf_s (f := m 79) (b := 864 * n) (F := fun j _ => m 99 (864 * (12 * f + k) + j)) (k := (j : Int)) (by omega)
    rw [n_jw (by omega) (by omega), if_neg (by omega), hc, Option.bind_some, y_ma 99 82944 rfl rfl (by omega) (by omega), Option.bind_some, e1, e2, y_mw 79 51840 rfl rfl (by omega) (by omega), Option.bind_some, ims_jms, show ((j + 1 : Nat) : Int) = (j : Int) + 1 from by omega, ← st]
  · dsimp only
    unfold jd_323_s72
    rw [n_jw (by omega) (by omega), if_pos (by omega)]
    rfl
theorem si_shown (R : RelH s Q hm I m) (h6 : s.1 ≤ 900000) (hf : okI f) (hp : okI p) : SimI (jd_163 0 f p (hh s Q I)) (jd_323 f p m) (fun E => if E = 2 then 1 else if E = 1 then 2 else 0) s Q I := by
  have L := R.1
  have n8 := R.2.2.2.2.2.1.2.2.1
  obtain ⟨t1, t2, t3, t4, t5⟩ := id R.2.1
  obtain ⟨b, hb, hbv⟩ := k_314 R hf hp
  rcases hbv with ⟨c, rfl⟩ | ⟨c, rfl⟩
  · obtain ⟨a, ea, ha, F, C⟩ := c_195 R hf c.1.1 c.1.2
    obtain ⟨k, d, ed, k0, k1, kp, ko, hd, D, X⟩ := c_192 F C (by omega) hp c.2.1 c.2.2
    have n12 := C.2.2.2.1.2.1
    have c1 := c.1
    by_cases cn : m 76 1 < 60
    · obtain ⟨b, s', Q', hm', I', e1, e2, B, S1, R', g1, g2⟩ := c_194 R h6 cn
      have L' := R'.1
      obtain ⟨D', iD, iD1⟩ := PicAt_fr S1 D (by omega)
      have X' := Pix_fr X iD iD1
      obtain ⟨J, eJ, Y, hJ⟩ := c_102 D' B (by omega) X'
      have eC : jd_163 0 f p (hh s Q I) = some (.inl (m 76 1), hh s' Q' (jms J 0 1 (m 76 1 + 1))) := by
        have i1 : J 0 ((1 : Nat) : Int) = m 76 1 := by
          rw [hJ 0 (by have := B.1; omega) (by omega)]
          exact R'.2.1.1
        unfold jd_163
        rw [y_ck L 0 11 rfl rfl, Option.bind_some, ea, b_jtb, ed, b_jtb, y_ck L 0 11 rfl rfl, Option.bind_some, e1, b_jtb, x_ck B.2.1.1 B.2.1.2.1, Option.bind_some, eJ, Option.bind_some, y_gi L' 0 11 rfl rfl, Option.bind_some, i1, y_pi L' 0 11 rfl rfl, Option.bind_some]
        rfl
      generalize hK : jms (jms (jms m 76 0 0) 77 (m 76 1) (m 84 f)) 78 (m 76 1) (m 85 f) = K
      have kp' : ∀ i, i ≠ m 76 1 → K 77 i = m 77 i ∧ K 78 i = m 78 i := fun i hi => by
        rw [← hK]
        exact ⟨(congrFun (jms_o (by decide)) _).trans (jms_i hi), jms_i hi⟩
      have km : K 76 1 = m 76 1 := by rw [← hK]; rfl
      have k77 : K 77 (m 76 1) = m 84 f := by rw [← hK]; exact (congrFun (jms_o (by decide)) _).trans jms_e
      have k78 : K 78 (m 76 1) = m 85 f := by rw [← hK]; exact jms_e
      have k79 : K 79 = m 79 := by rw [← hK]; rfl
      have k99 : K 99 = m 99 := by rw [← hK]; rfl
      have k91 : K 91 = m 91 := by rw [← hK]; rfl
      generalize hG : seqf (m 79) (864 * m 76 1) (fun j _ => m 99 (864 * (12 * f + k) + j)) 864 = G
      have eM : jd_323 f p m = some (m 76 1 + 1 - 1, jms (ims K 79 G) 76 1 (m 76 1 + 1)) := by
        unfold jd_323 jd_323_b28
        have q1 : jms m 76 0 0 76 1 = m 76 1 := rfl
        have q2 : jms (jms m 76 0 0) 77 (m 76 1) (m 84 f) 76 1 = m 76 1 := rfl
        have q3 : jms m 76 0 0 84 f = m 84 f := rfl
        have q4 : jms (jms m 76 0 0) 77 (m 76 1) (m 84 f) 85 f = m 85 f := rfl
        have q5 : ims K 79 G 76 1 = m 76 1 := km
        have ks := k_323l (m := K) (f := f) (p := p) (n := m 76 1) (k := k) km t2 cn ⟨c1.1, by omega⟩ k0 (by omega) (fun g => k_318f R C c.1 c.2.1 c.2.2 k0 k1 kp k91)
        rw [k79, k99, hG] at ks
        rw [hb, Option.bind_some, if_neg (show ¬ jw 1 = 0 by decide), n_jw (z := m 76 1) (by omega) (by omega), if_neg (by omega), Option.bind_some, jms_e, if_pos (by decide), y_ma 84 8 rfl rfl c1.1 (by omega), Option.bind_some, q3, q1, y_mw 77 60 rfl rfl t2 (by omega), Option.bind_some, y_ma 85 8 rfl rfl c1.1 (by omega), Option.bind_some, q4, q2, y_mw 78 60 rfl rfl t2 (by omega), Option.bind_some, hK, ks, Option.bind_some, Option.bind_some, q5, jms_e]
      have hIJ : ∀ c, c ≠ b → c ≠ b + 1 → c ≠ 0 → jms J 0 1 (m 76 1 + 1) c = I' c := by
        intro c h1 h2 h3
        rw [jms_o h3, hJ c h1 h2]
      have S2 : Sm (fun o => o ≠ m 76 1 ∧ o ≠ 1000) s' Q' hm' I' s' Q' hm' (jms J 0 1 (m 76 1 + 1)) := Sm_I (fun c _ hc => hIJ c (fun e => hc.1 (by rw [e]; exact B.2.1.2.2.2)) (fun e => hc.1 (by rw [e]; exact B.2.2.1.2.2.2)) (fun e => hc.2 (by rw [e]; exact Lo L' rfl)))
      have Kp1 : Kp s Q I s' Q' (jms J 0 1 (m 76 1 + 1)) := by
        intro c h1 h2
        obtain ⟨f1, f2, f3, f4⟩ := Kp_of L S1 (fun i _ _ => by omega) c h1 h2
        have := B.1
        exact ⟨f1, f2, f3, (hIJ c (by omega) (by omega) (by omega)).trans f4⟩
      refine Or.inl ⟨_, _, s', Q', _, _, eC, eM, ?_, by congr 1; omega, Kp1, ⟨S1.1, by omega, by omega⟩, hm', ?_⟩
      · rw [jms_i (by decide), ims_o (by decide), ← hK]
        rfl
      · refine RelH_new (w := m 84 f) (h := m 85 f) (a := b) R' cn e2 S2 jms_e (fun k hk => ?_) ⟨⟨jms_e, ?_, ?_, ?_, ?_, ?_, ?_, ?_⟩, fun i hi => kp' i hi, k77, k78, fun j hj => ?_, fun x hx => ?_⟩ ?_
        · rw [jms_i hk, hJ 0 (by have := B.1; omega) (by omega)]
        · rw [← hK]; rfl
        · rw [← hK]; rfl
        · rw [← hK]; rfl
        · rw [← hK]; rfl
        · rw [← hK]; rfl
        · rw [← hK]; rfl
        · rw [← hK]; rfl
        · rw [jms_o (by decide), ims_e, ← hG]
          by_cases hl : j < 864 * m 76 1
          · rw [seqf_lo hl]
          · rw [seqf_at (by omega)]
        · rw [jms_o (by omega), ims_o (by omega), ← hK, jms_o (by omega), jms_o (by omega), jms_o (by omega)]
        · refine Pix_fr (I := J) (Pix_g Y (fun q k q0 q2 k0 k1 => ?_)) (jms_o (by have := B.1; omega)) (jms_o (by omega))
          have bb := pl_sz C.2.1.1 C.2.1.2.1 q0 q2
          rw [jms_o (by decide), ims_e, ← hG]
          exact seqf_k (by omega) (by omega)
    · refine SimI_th (E := 1) (b := 0) R ?_ ?_ (by decide)
      · unfold jd_163
        rw [y_ck L 0 11 rfl rfl, Option.bind_some, ea, b_jtb, ed, b_jtb, y_ck L 0 11 rfl rfl, Option.bind_some, c_194n R (by omega) cn, b_jtx]
      · unfold jd_323 jd_323_b28
        rw [hb, Option.bind_some, if_neg (show ¬ jw 1 = 0 by decide), n_jw (z := m 76 1) (by omega) (by omega), if_pos (by omega), Option.bind_some, jms_e, if_neg (by decide)]
        rfl
  · refine SimI_th (E := 2) (b := 0) R ?_ ?_ (by decide)
    · unfold jd_163
      rw [y_ck L 0 11 rfl rfl, Option.bind_some]
      by_cases c1 : 0 ≤ f ∧ f < m 76 12
      · obtain ⟨a, ea, ha, F, C⟩ := c_195 R hf c1.1 c1.2
        rw [ea, b_jtb, c_192n F C (by omega) hp (fun e => c ⟨c1, e⟩), b_jtx]
      · rw [c_195n R (by omega) hf c1, b_jtx]
    · unfold jd_323 jd_323_b28
      rw [hb, Option.bind_some, if_pos (show jw 0 = 0 by decide), Option.bind_some, jms_e, if_neg (by decide)]
      rfl
end Shown
