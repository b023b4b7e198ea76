/-! blank -/
def jbg (p0 p1 p2 p3 p4 : Int) : Prop := jside p0 ∧ jside p1 ∧ (0 ≤ p2 ∧ p2 ≤ 255) ∧ (0 ≤ p3 ∧ p3 ≤ 255) ∧ (0 ≤ p4 ∧ p4 ≤ 255)
theorem c_182 {p : Int} (w : jw p = p) (h : jside p) : ¬ jw (jd_182 p) = 0 := by
  unfold jd_182
  rw [w]
  rcases h with rfl | rfl | rfl <;> decide
theorem c_182n {p : Int} (w : jw p = p) (h : ¬ jside p) : jw (jd_182 p) = 0 := by
  unfold jd_182
  rw [w]
  unfold jside at h
  rw [if_neg (by omega), if_neg (by omega), if_neg (by omega), jw_0]
theorem c_184 {p : Int} {h : jH} (w : jw p = p) (h0 : 0 ≤ p ∧ p ≤ 255) : jd_184 p h = some (.inl (), h) := by
  unfold jd_184
  rw [w, if_neg (by omega), if_pos h0.2]
theorem c_184n {p : Int} {h : jH} (w : jw p = p) (h6 : h.1 < 1000000) (h0 : ¬ (0 ≤ p ∧ p ≤ 255)) : jd_184 p h = some (.inr 0, jth h 0) := by
  unfold jd_184 jd_184_b11
  rw [w]
  by_cases hp : p < 0
  · rw [if_pos hp, j6_e h6, Option.bind_some]
  · rw [if_neg hp, if_neg (by omega), j6_e h6, Option.bind_some]
theorem c_140n {p0 p1 p2 p3 p4 : Int} {h : jH} (w0 : jw p0 = p0) (w1 : jw p1 = p1) (w2 : jw p2 = p2) (w3 : jw p3 = p3) (w4 : jw p4 = p4) (h6 : h.1 < 1000000) (hb : ¬ jbg p0 p1 p2 p3 p4) : jd_140 0 p0 p1 p2 p3 p4 h = some (.inr 0, jth h 0) := by
  unfold jd_140 jd_140_b14
  by_cases s0 : jside p0
  · rw [if_neg (c_182 w0 s0)]
    by_cases s1 : jside p1
    · rw [if_neg (c_182 w1 s1)]
      by_cases s2 : 0 ≤ p2 ∧ p2 ≤ 255
      · rw [c_184 w2 s2, jtb_l]
        by_cases s3 : 0 ≤ p3 ∧ p3 ≤ 255
        · rw [c_184 w3 s3, jtb_l]
          by_cases s4 : 0 ≤ p4 ∧ p4 ≤ 255
          · exact absurd ⟨s0, s1, s2, s3, s4⟩ hb
          · rw [c_184n w4 h6 s4, jtb_r]
        · rw [c_184n w3 h6 s3, jtb_r]
      · rw [c_184n w2 h6 s2, jtb_r]
    · rw [if_pos (c_182n w1 s1), j6_e h6, Option.bind_some]
  · rw [if_pos (c_182n w0 s0), j6_e h6, Option.bind_some]
def jblk (h : jH) (a s : Nat) (w g x y z : Int) : jH := jfl (jfl (jfl (jsf h a (jiu (jiu (ji h a) 0 w) 1 g)) s (jbs w g 0) (jnn w g 0) x) s (jbs w g 1) (jnn w g 1) y) s (jbs w g 2) (jnn w g 2) z
section JyBl
variable {h : jH} {a s b : Nat} {w g x y z : Int}
theorem jPic_ne (hp : jPic h a s) : a ≠ s := fun e => by
  have h1 := hp.2.2.1
  have h2 := hp.2.2.2.2.1
  rw [e] at h1
  omega
theorem jblk_1 : (jblk h a s w g x y z).1 = h.1 := rfl
theorem jblk_2 : (jblk h a s w g x y z).2.1 = h.2.1 := rfl
theorem jblk_t : jt (jblk h a s w g x y z) b = jt h b := by unfold jblk jfl; rw [jsf_t, jsf_t, jsf_t, jsf_t]
theorem jblk_l : jl (jblk h a s w g x y z) b = jl h b := by unfold jblk jfl; rw [jsf_l, jsf_l, jsf_l, jsf_l]
theorem jblk_r : jr (jblk h a s w g x y z) b = jr h b := by unfold jblk jfl; rw [jsf_r, jsf_r, jsf_r, jsf_r]
theorem jblk_i (ha : b ≠ a) (hs : b ≠ s) : ji (jblk h a s w g x y z) b = ji h b := by unfold jblk jfl; rw [jsf_in hs, jsf_in hs, jsf_in hs, jsf_in ha]
theorem c_bl (hp : jPic h a s) (h6 : h.1 ≤ 1000000) (hw : jside w) (hg : jside g) {C : Type} {f : jH → Option C} : (((jck h a 6).bind fun _ => ((jd_95 a w g h).bind fun h29 => ((jck h29 a 6).bind fun _ => ((jd_101 a 0 x h29).bind fun h33 => ((jck h33 a 6).bind fun _ => ((jd_101 a 1 y h33).bind fun h37 => ((jck h37 a 6).bind fun _ => ((jd_101 a 2 z h37).bind fun h41 => f h41))))))))) = f (jblk h a s w g x y z) := by
  have hne := jPic_ne hp
  have hq := hp
  obtain ⟨ha, hs, ta, ra, ts, ls⟩ := hp
  have pi : ∀ (k : jH), k.1 = h.1 → (∀ c, jt k c = jt h c) → (∀ c, jl k c = jl h c) → (∀ c, jr k c = jr h c) → jPic k a s := fun k k1 kt kl kr => ⟨by rw [k1]; exact ha, by rw [k1]; exact hs, by rw [kt]; exact ta, by rw [kr]; exact ra, by rw [kt]; exact ts, by rw [kl]; exact ls⟩
  have e1 : ji (jsf h a (jiu (jiu (ji h a) 0 w) 1 g)) a 0 = w := by rw [jsf_is, jiu_n (by decide), jiu_s]
  have e2 : ji (jsf h a (jiu (jiu (ji h a) 0 w) 1 g)) a 1 = g := by rw [jsf_is, jiu_s]
  rw [jck_e ha ta, Option.bind_some, c_95 ha ta, Option.bind_some, jck_e (by rw [jsf_1]; exact ha) (by rw [jsf_t]; exact ta), Option.bind_some]
  have P1 : jPic (jsf h a (jiu (jiu (ji h a) 0 w) 1 g)) a s := pi _ rfl (fun c => jsf_t) (fun c => jsf_l) (fun c => jsf_r)
  rw [c_101 P1 h6 e1 e2 hw hg (Or.inl rfl), Option.bind_some]
  have P2 : jPic (jfl (jsf h a (jiu (jiu (ji h a) 0 w) 1 g)) s (jbs w g 0) (jnn w g 0) x) a s := pi _ rfl (fun c => by unfold jfl; rw [jsf_t, jsf_t]) (fun c => by unfold jfl; rw [jsf_l, jsf_l]) (fun c => by unfold jfl; rw [jsf_r, jsf_r])
  rw [jck_e P2.1 P2.2.2.1, Option.bind_some]
  rw [c_101 P2 h6 (by unfold jfl; rw [jsf_in hne]; exact e1) (by unfold jfl; rw [jsf_in hne]; exact e2) hw hg (Or.inr (Or.inl rfl)), Option.bind_some]
  have P3 : jPic (jfl (jfl (jsf h a (jiu (jiu (ji h a) 0 w) 1 g)) s (jbs w g 0) (jnn w g 0) x) s (jbs w g 1) (jnn w g 1) y) a s := pi _ rfl (fun c => by unfold jfl; rw [jsf_t, jsf_t, jsf_t]) (fun c => by unfold jfl; rw [jsf_l, jsf_l, jsf_l]) (fun c => by unfold jfl; rw [jsf_r, jsf_r, jsf_r])
  rw [jck_e P3.1 P3.2.2.1, Option.bind_some]
  rw [c_101 P3 h6 (by unfold jfl; rw [jsf_in hne, jsf_in hne]; exact e1) (by unfold jfl; rw [jsf_in hne, jsf_in hne]; exact e2) hw hg (Or.inr (Or.inr rfl)), Option.bind_some]
  rfl
end JyBl
/-- blank, once the next number's picture is found -/
theorem c_140 {p0 p1 p2 p3 p4 : Int} {h k : jH} {a s : Nat} (w0 : jw p0 = p0) (w1 : jw p1 = p1) (w2 : jw p2 = p2) (w3 : jw p3 = p3) (w4 : jw p4 = p4) (hx : 0 < h.1) (ht : jt h 0 = 19) (hb : jbg p0 p1 p2 p3 p4) (e : jd_194 0 h = some (.inl a, k)) (hp : jPic k a s) (kx : 0 < k.1) (k6 : k.1 ≤ 1000000) (kt : jt k 0 = 19) : jd_140 0 p0 p1 p2 p3 p4 h = some (.inl (ji k 0 1), jsf (jblk k a s p0 p1 p2 p3 p4) 0 (jiu (ji k 0) 1 (ji k 0 1 + 1))) := by
  obtain ⟨s0, s1, s2, s3, s4⟩ := hb
  have a0 : (0 : Nat) ≠ a := fun q => by
    have := hp.2.2.1
    rw [← q, kt] at this
    omega
  have z0 : (0 : Nat) ≠ s := fun q => by
    have := hp.2.2.2.2.1
    rw [← q, kt] at this
    omega
  unfold jd_140
  rw [if_neg (c_182 w0 s0), if_neg (c_182 w1 s1), c_184 w2 s2, jtb_l, c_184 w3 s3, jtb_l, c_184 w4 s4, jtb_l, jck_e hx ht, Option.bind_some, e, jtb_l]
  rw [c_bl hp k6 s0 s1]
  have i0 : ji (jblk k a s p0 p1 p2 p3 p4) 0 = ji k 0 := jblk_i a0 z0
  rw [jgi_e (show 0 < (jblk k a s p0 p1 p2 p3 p4).1 from kx) (by rw [jblk_t]; exact kt), Option.bind_some, jpi_e (show 0 < (jblk k a s p0 p1 p2 p3 p4).1 from kx) (by rw [jblk_t]; exact kt), Option.bind_some, i0]
  rfl
/-- the next number's picture: it is there -/
theorem c_194 {h : jH} {c : Int} {a : Nat} (hx : 0 < h.1) (ht : jt h 0 = 19) (h1 : 1 < h.1) (t1 : jt h 1 = 6) (l1 : jl h 1 = 60) (r0 : jr h 0 0 = some 1) (ec : ji h 0 1 = c) (c0 : 0 ≤ c) (c1 : c < 60) (ra : jr h 1 c = some a) : jd_194 0 h = some (.inl a, h) := by
  unfold jd_194 jd_194_b48
  have e1 : jgi h 0 11 1 = some c := by rw [jgi_e hx ht]; exact congrArg some ec
  have e0 : jgr h 0 11 0 = some (some 1) := by rw [jgr_e hx ht]; exact congrArg some r0
  have er : jar h 1 6 c = some (some a) := by rw [jar_e h1 t1 c0 (by rw [l1]; omega) (by rw [l1]; decide), ra]
  rw [e1, Option.bind_some, jw_s (by omega) (by omega), if_pos c1, e0]
  simp only [Option.bind_some, er]
  rw [if_neg (by simp)]
/-- it is made -/
def jnq (h : jH) (c : Int) : jH := jrf (jnp h) 1 (jru (jr h 1) c (some h.1))
theorem c_194m {h : jH} {c : Int} (hx : 0 < h.1) (h6 : h.1 + 1 < 1000000) (ht : jt h 0 = 19) (h1 : 1 < h.1) (t1 : jt h 1 = 6) (l1 : jl h 1 = 60) (r0 : jr h 0 0 = some 1) (ec : ji h 0 1 = c) (c0 : 0 ≤ c) (c1 : c < 60) (ra : jr h 1 c = none) : jd_194 0 h = some (.inl h.1, jnq h c) := by
  unfold jd_194
  have e1 : jgi h 0 11 1 = some c := by rw [jgi_e hx ht]; exact congrArg some ec
  have e0 : jgr h 0 11 0 = some (some 1) := by rw [jgr_e hx ht]; exact congrArg some r0
  have er : jar h 1 6 c = some none := by rw [jar_e h1 t1 c0 (by rw [l1]; omega) (by rw [l1]; decide), ra]
  rw [e1, Option.bind_some, jw_s (by omega) (by omega), if_pos c1, e0]
  simp only [Option.bind_some, er]
  rw [if_pos trivial]
  have en : jnw h 6 = some (h.1, jmk h (mm_cn 6) (6 + 8, 0, fun _ => 0, fun _ => none)) := jnw_e (by omega)
  have e94 := c_94 (h := h) h6
  rw [en, Option.bind_some] at e94
  rw [en, Option.bind_some, e94, Option.bind_some]
  rw [jtr_e (by rw [jnp_1]; omega) (by rw [jnp_t h1]; exact t1) c0 (by rw [jnp_l h1, l1]; omega) (by rw [jnp_l h1, l1]; decide) (by rw [jnp_1]; omega) (by rw [jnp_p.2.2.1]; rfl), Option.bind_some]
  rw [jnp_r h1]
  show jd_194_b48 0 (jnq h c) = _
  unfold jd_194_b48
  have q1 : (jnq h c).1 = h.1 + 2 := rfl
  have qt : ∀ b, b < h.1 → jt (jnq h c) b = jt h b := fun b hb => by unfold jnq; rw [jrf_t, jnp_t hb]
  have f0 : jgr (jnq h c) 0 11 0 = some (some 1) := by
    rw [jgr_e (by rw [q1]; omega) (by rw [qt 0 hx]; exact ht)]
    unfold jnq
    rw [jrf_rn (by decide), jnp_r hx]
    exact congrArg some r0
  have f1 : jgi (jnq h c) 0 11 1 = some c := by
    rw [jgi_e (by rw [q1]; omega) (by rw [qt 0 hx]; exact ht)]
    unfold jnq
    rw [jrf_i, jnp_i hx]
    exact congrArg some ec
  have f2 : jar (jnq h c) 1 6 c = some (some h.1) := by
    rw [jar_e (by rw [q1]; omega) (by rw [qt 1 h1]; exact t1) c0 (by unfold jnq; rw [jrf_l, jnp_l h1, l1]; omega) (by unfold jnq; rw [jrf_l, jnp_l h1, l1]; decide)]
    unfold jnq
    rw [jrf_rs, jru_s]
  rw [f0, Option.bind_some, f1, Option.bind_some, Option.bind_some, f2, Option.bind_some, Option.bind_some]
theorem jnq_p {h : jH} {c : Int} (h1 : 1 < h.1) : jPic (jnq h c) h.1 (h.1 + 1) := by
  obtain ⟨p1, p2, p3, p4, p5, p6⟩ := jnp_p (h := h)
  exact ⟨p1, p2, by unfold jnq; rw [jrf_t]; exact p3, by unfold jnq; rw [jrf_rn (by omega)]; exact p4, by unfold jnq; rw [jrf_t]; exact p5, by unfold jnq; rw [jrf_l]; exact p6⟩
/-- the model's blank -/
def jfr (p : Int) : Int := if p = 0 then 0 else if p = 1 then 576 else 720
def jmfl (m : jM) (b n v : Int) : jM := jmu m 79 (fun i => if b ≤ i ∧ i < b + n then v else m 79 i)
section JyMb
variable {m : jM} {c w g v p : Int}
theorem m_206 (hw : jside w) (hp : p = 0 ∨ p = 1 ∨ p = 2) : jd_206 w p = jpl w p := by
  unfold jd_206 jpl
  rw [jw_p hp, jdiv_2 hw]
theorem m_207 (hp : p = 0 ∨ p = 1 ∨ p = 2) : jd_207 p = jfr p := by
  unfold jd_207 jfr
  rw [jw_p hp]
theorem jfr_in (hw : jside w) (hg : jside g) (hp : p = 0 ∨ p = 1 ∨ p = 2) : 0 ≤ jfr p ∧ jfr p + jnn w g p ≤ 864 := by
  rcases hw with rfl | rfl | rfl <;> rcases hg with rfl | rfl | rfl <;> rcases hp with rfl | rfl | rfl <;> decide
theorem m_213 (c0 : 0 ≤ c) (c1 : c < 60) (ew : m 77 c = w) (eg : m 78 c = g) (hw : jside w) (hg : jside g) (hp : p = 0 ∨ p = 1 ∨ p = 2) : jd_213 c p m = some (jnn w g p) := by
  unfold jd_213
  have wc : jw c = c := jw_s (by omega) (by omega)
  rw [jma_e (a := 77) wc c0 c1, Option.bind_some, jma_e (a := 78) wc c0 c1, Option.bind_some, ew, eg, m_206 hw hp, m_206 hg hp]
  rfl
theorem m_214i {x3 x4 x5 : Int} (ec : m 76 1 = c) (c0 : 0 ≤ c) (c1 : c < 60) (ew : m 77 c = w) (eg : m 78 c = g) (hw : jside w) (hg : jside g) (hp : p = 0 ∨ p = 1 ∨ p = 2) : jd_214_l151 x3 x4 x5 p v 0 m = some (jmfl m (864 * c + jfr p) (jnn w g p) v) := by
  obtain ⟨_, n0, _⟩ := jbs_in hw hg hp
  obtain ⟨f0, f1⟩ := jfr_in hw hg hp
  unfold jd_214_l151
  have key := jloop (f := fun s : Int × jM => jd_214_s151 x3 x4 x5 p v s.1 s.2) (fun k => (k, jmfl m (864 * c + jfr p) k v)) (n := jnn w g p) (x := jmfl m (864 * c + jfr p) (jnn w g p) v) (by omega) (by omega) (fun k k0 k1 => by
    show jd_214_s151 x3 x4 x5 p v k (jmfl m (864 * c + jfr p) k v) = some (.inl (k + 1, jmfl m (864 * c + jfr p) (k + 1) v))
    unfold jd_214_s151
    have e76 : jmfl m (864 * c + jfr p) k v 76 1 = c := by unfold jmfl; rw [jmu_n (by decide)]; exact ec
    have e77 : jmfl m (864 * c + jfr p) k v 77 c = w := by unfold jmfl; rw [jmu_n (by decide)]; exact ew
    have e78 : jmfl m (864 * c + jfr p) k v 78 c = g := by unfold jmfl; rw [jmu_n (by decide)]; exact eg
    rw [e76, m_213 c0 c1 e77 e78 hw hg hp, Option.bind_some, jw_s (z := jnn w g p) (by omega) (by omega), jw_s (z := k) (by omega) (by omega), if_neg (by omega), m_207 hp, jmw_e (jw_s (by omega) (by omega)) (by omega) (show 864 * c + jfr p + k < 51840 by omega), Option.bind_some]
    refine congrArg (fun q => some (Sum.inl (k + 1, q))) ?_
    unfold jmfl
    rw [jmu_u, jmu_s]
    refine congrArg (jmu m 79) ?_
    funext i
    unfold jiu
    by_cases hi : i = 864 * c + jfr p + k
    · subst hi
      rw [if_pos rfl, if_pos (by omega)]
    · rw [if_neg hi]
      dsimp only
      by_cases hj : 864 * c + jfr p ≤ i ∧ i < 864 * c + jfr p + k
      · rw [if_pos hj, if_pos (by omega)]
      · rw [if_neg hj, if_neg (by omega)]) (by
    show jd_214_s151 x3 x4 x5 p v (jnn w g p) (jmfl m (864 * c + jfr p) (jnn w g p) v) = some (.inr (jmfl m (864 * c + jfr p) (jnn w g p) v))
    unfold jd_214_s151
    have e76 : jmfl m (864 * c + jfr p) (jnn w g p) v 76 1 = c := by unfold jmfl; rw [jmu_n (by decide)]; exact ec
    have e77 : jmfl m (864 * c + jfr p) (jnn w g p) v 77 c = w := by unfold jmfl; rw [jmu_n (by decide)]; exact ew
    have e78 : jmfl m (864 * c + jfr p) (jnn w g p) v 78 c = g := by unfold jmfl; rw [jmu_n (by decide)]; exact eg
    rw [e76, m_213 c0 c1 e77 e78 hw hg hp, Option.bind_some, if_pos (Int.le_refl _)])
  have e0 : jmfl m (864 * c + jfr p) 0 v = m := by
    unfold jmfl
    refine jmu_id ?_
    funext i
    rw [if_neg (by omega)]
  rw [e0] at key
  exact key
def jmb3 (m : jM) (c w g x y z : Int) : jM := jmfl (jmfl (jmfl m (864 * c + jfr 0) (jnn w g 0) x) (864 * c + jfr 1) (jnn w g 1) y) (864 * c + jfr 2) (jnn w g 2) z
theorem m_214o {x y z : Int} (ec : m 76 1 = c) (c0 : 0 ≤ c) (c1 : c < 60) (ew : m 77 c = w) (eg : m 78 c = g) (hw : jside w) (hg : jside g) : jd_214_l118 x y z 0 m = some (jmb3 m c w g x y z) := by
  unfold jd_214_l118
  have key := jloop (f := fun s : Int × jM => jd_214_s118 x y z s.1 s.2) (fun k => (k, if k ≤ 0 then m else if k ≤ 1 then jmfl m (864 * c + jfr 0) (jnn w g 0) x else if k ≤ 2 then jmfl (jmfl m (864 * c + jfr 0) (jnn w g 0) x) (864 * c + jfr 1) (jnn w g 1) y else jmb3 m c w g x y z)) (n := 3) (x := jmb3 m c w g x y z) (by decide) (by decide) (fun k k0 k1 => by
    have hk : k = 0 ∨ k = 1 ∨ k = 2 := by omega
    rcases hk with rfl | rfl | rfl
    · show jd_214_s118 x y z 0 m = some (.inl (1, jmfl m (864 * c + jfr 0) (jnn w g 0) x))
      unfold jd_214_s118 jd_214_b146
      rw [if_neg (by decide), if_pos (by decide), m_214i ec c0 c1 ew eg hw hg (Or.inl rfl), Option.bind_some]
      rfl
    · show jd_214_s118 x y z 1 (jmfl m (864 * c + jfr 0) (jnn w g 0) x) = some (.inl (2, jmfl (jmfl m (864 * c + jfr 0) (jnn w g 0) x) (864 * c + jfr 1) (jnn w g 1) y))
      unfold jd_214_s118 jd_214_b146
      rw [if_neg (by decide), if_neg (by decide), if_pos (by decide), m_214i (c := c) (w := w) (g := g) (by unfold jmfl; rw [jmu_n (by decide)]; exact ec) c0 c1 (by unfold jmfl; rw [jmu_n (by decide)]; exact ew) (by unfold jmfl; rw [jmu_n (by decide)]; exact eg) hw hg (Or.inr (Or.inl rfl)), Option.bind_some]
      rfl
    · show jd_214_s118 x y z 2 (jmfl (jmfl m (864 * c + jfr 0) (jnn w g 0) x) (864 * c + jfr 1) (jnn w g 1) y) = some (.inl (3, jmb3 m c w g x y z))
      unfold jd_214_s118 jd_214_b146
      rw [if_neg (by decide), if_neg (by decide), if_neg (by decide), m_214i (c := c) (w := w) (g := g) (by unfold jmfl; rw [jmu_n (by decide), jmu_n (by decide)]; exact ec) c0 c1 (by unfold jmfl; rw [jmu_n (by decide), jmu_n (by decide)]; exact ew) (by unfold jmfl; rw [jmu_n (by decide), jmu_n (by decide)]; exact eg) hw hg (Or.inr (Or.inr rfl)), Option.bind_some]
      rfl) (by
    show jd_214_s118 x y z 3 _ = _
    unfold jd_214_s118
    rw [if_pos (by decide)]
    rfl)
  exact key
theorem m_208 {q : Int} (wq : jw q = q) (h : jside q) : ¬ jw (jd_208 q) = 0 := c_182 wq h
theorem m_208n {q : Int} (wq : jw q = q) (h : ¬ jside q) : jw (jd_208 q) = 0 := c_182n wq h
theorem m_214g {p0 p1 p2 p3 p4 : Int} (w0 : jw p0 = p0) (w1 : jw p1 = p1) (w2 : jw p2 = p2) (w3 : jw p3 = p3) (w4 : jw p4 = p4) : jw (if (jw (jd_208 p0)) = 0 then 0 else (if (jw (jd_208 p1)) = 0 then 0 else (if (jw (jd_204 (jw p2) 0 255)) = 0 then 0 else (if (jw (jd_204 (jw p3) 0 255)) = 0 then 0 else (if (jw (jd_204 (jw p4) 0 255)) = 0 then 0 else 1))))) = 0 ↔ ¬ jbg p0 p1 p2 p3 p4 := by
  unfold jbg
  by_cases s0 : jside p0
  · rw [if_neg (m_208 w0 s0)]
    by_cases s1 : jside p1
    · rw [if_neg (m_208 w1 s1)]
      by_cases s2 : 0 ≤ p2 ∧ p2 ≤ 255
      · rw [if_neg (jin1 (by decide) (by decide) (by rw [w2]; exact s2))]
        by_cases s3 : 0 ≤ p3 ∧ p3 ≤ 255
        · rw [if_neg (jin1 (by decide) (by decide) (by rw [w3]; exact s3))]
          by_cases s4 : 0 ≤ p4 ∧ p4 ≤ 255
          · rw [if_neg (jin1 (by decide) (by decide) (by rw [w4]; exact s4)), jw_1]
            exact ⟨fun e => absurd e (by decide), fun e => absurd ⟨s0, s1, s2, s3, s4⟩ e⟩
          · rw [if_pos (jin0 (by decide) (by decide) (by omega)), jw_0]
            exact ⟨fun _ e => s4 e.2.2.2.2, fun _ => rfl⟩
        · rw [if_pos (jin0 (by decide) (by decide) (by omega)), jw_0]
          exact ⟨fun _ e => s3 e.2.2.2.1, fun _ => rfl⟩
      · rw [if_pos (jin0 (by decide) (by decide) (by omega)), jw_0]
        exact ⟨fun _ e => s2 e.2.2.1, fun _ => rfl⟩
    · rw [if_pos (m_208n w1 s1), jw_0]
      exact ⟨fun _ e => s1 e.2.1, fun _ => rfl⟩
  · rw [if_pos (m_208n w0 s0), jw_0]
    exact ⟨fun _ e => s0 e.1, fun _ => rfl⟩
theorem m_214n {p0 p1 p2 p3 p4 : Int} (w0 : jw p0 = p0) (w1 : jw p1 = p1) (w2 : jw p2 = p2) (w3 : jw p3 = p3) (w4 : jw p4 = p4) (hb : ¬ jbg p0 p1 p2 p3 p4) : jd_214 p0 p1 p2 p3 p4 m = some (0, jms m 76 0 1) := by
  unfold jd_214 jd_214_b57 jd_214_b83
  rw [if_pos ((m_214g w0 w1 w2 w3 w4).mpr hb), Option.bind_some, if_neg (g_c1 g_1)]
theorem m_214 {p0 p1 p2 p3 p4 : Int} (w0 : jw p0 = p0) (w1 : jw p1 = p1) (w2 : jw p2 = p2) (w3 : jw p3 = p3) (w4 : jw p4 = p4) (hb : jbg p0 p1 p2 p3 p4) (ec : m 76 1 = c) (c0 : 0 ≤ c) (c1 : c < 60) : jd_214 p0 p1 p2 p3 p4 m = some (c, jms (jmb3 (jmu (jmu (jms m 76 0 0) 77 (jiu (m 77) c p0)) 78 (jiu (m 78) c p1)) c p0 p1 p2 p3 p4) 76 1 (c + 1)) := by
  have wc : jw c = c := jw_s (by omega) (by omega)
  unfold jd_214 jd_214_b57 jd_214_b83
  rw [if_neg (fun e => (m_214g w0 w1 w2 w3 w4).mp e hb), ec, wc, if_neg (by omega), Option.bind_some, if_pos (by rw [jms_s]; decide)]
  rw [show jms m 76 0 0 76 1 = c by rw [jms_k (by decide)]; exact ec, jmw_e (a := 77) wc c0 c1, Option.bind_some, jms_a (by decide)]
  rw [show jmu (jms m 76 0 0) 77 (jiu (m 77) c p0) 76 1 = c by rw [jmu_n (by decide), jms_k (by decide)]; exact ec, jmw_e (a := 78) wc c0 c1, Option.bind_some, jmu_n (by decide), jms_a (by decide)]
  rw [m_214o (c := c) (w := p0) (g := p1) (by rw [jmu_n (by decide), jmu_n (by decide), jms_k (by decide)]; exact ec) c0 c1 (by rw [jmu_n (by decide), jmu_s, jiu_s]) (by rw [jmu_s, jiu_s]) hb.1 hb.2.1, Option.bind_some]
  have e1 : jmb3 (jmu (jmu (jms m 76 0 0) 77 (jiu (m 77) c p0)) 78 (jiu (m 78) c p1)) c p0 p1 p2 p3 p4 76 1 = c := by
    unfold jmb3 jmfl
    rw [jmu_n (by decide), jmu_n (by decide), jmu_n (by decide), jmu_n (by decide), jmu_n (by decide), jms_k (by decide)]
    exact ec
  rw [e1, Option.bind_some, jms_s]
  rw [show c + 1 - 1 = c by omega]
end JyMb
