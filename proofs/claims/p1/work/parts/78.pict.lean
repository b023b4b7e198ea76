/-! pictures: sizes, floods, new ones; blank -/
def jside (w : Int) : Prop := w = 8 ∨ w = 16 ∨ w = 24
def jpl (w p : Int) : Int := if p = 0 then w else w / 2
def jbs (w g p : Int) : Int := if p = 0 then 0 else if p = 1 then w * g else w * g + w * g / 4
def jnn (w g p : Int) : Int := jpl w p * jpl g p
def jPic (h : jH) (a s : Nat) : Prop := a < h.1 ∧ s < h.1 ∧ jt h a = 14 ∧ jr h a 2 = some s ∧ jt h s = 0 ∧ jl h s = 864
theorem jbs_in {w g p : Int} (hw : jside w) (hg : jside g) (hp : p = 0 ∨ p = 1 ∨ p = 2) : 0 ≤ jbs w g p ∧ 0 < jnn w g p ∧ jbs w g p + jnn w g p ≤ 864 := by
  rcases hw with rfl | rfl | rfl <;> rcases hg with rfl | rfl | rfl <;> rcases hp with rfl | rfl | rfl <;> decide
theorem jdiv_2 {w : Int} (hw : jside w) : jdiv w 2 = w / 2 := by
  rcases hw with rfl | rfl | rfl <;> decide
theorem jw_p {p : Int} (hp : p = 0 ∨ p = 1 ∨ p = 2) : jw p = p := by
  rcases hp with rfl | rfl | rfl <;> decide
section JyPic
variable {h : jH} {a s : Nat} {p v w g : Int}
theorem c_96 (ha : a < h.1) (ht : jt h a = 14) (ew : ji h a 0 = w) (hw : jside w) (hp : p = 0 ∨ p = 1 ∨ p = 2) : jd_96 a p h = some (jpl w p) := by
  unfold jd_96 jd_96_b17 jpl
  have e : jgi h a 6 0 = some w := by rw [jgi_e ha ht]; exact congrArg some ew
  rw [jw_p hp, e, Option.bind_some, Option.bind_some, jdiv_2 hw]
  split <;> rfl
theorem c_97 (ha : a < h.1) (ht : jt h a = 14) (eg : ji h a 1 = g) (hg : jside g) (hp : p = 0 ∨ p = 1 ∨ p = 2) : jd_97 a p h = some (jpl g p) := by
  unfold jd_97 jd_97_b17 jpl
  have e : jgi h a 6 1 = some g := by rw [jgi_e ha ht]; exact congrArg some eg
  rw [jw_p hp, e, Option.bind_some, Option.bind_some, jdiv_2 hg]
  split <;> rfl
theorem c_98 (ha : a < h.1) (ht : jt h a = 14) (ew : ji h a 0 = w) (eg : ji h a 1 = g) (hw : jside w) (hg : jside g) (hp : p = 0 ∨ p = 1 ∨ p = 2) : jd_98 a p h = some (jbs w g p) := by
  unfold jd_98 jd_98_b32 jbs
  have e : jgi h a 6 0 = some w := by rw [jgi_e ha ht]; exact congrArg some ew
  have e' : jgi h a 6 1 = some g := by rw [jgi_e ha ht]; exact congrArg some eg
  have e4 : jdiv (w * g) 4 = w * g / 4 := by
    rcases hw with rfl | rfl | rfl <;> rcases hg with rfl | rfl | rfl <;> decide
  rw [jw_p hp, e, e', Option.bind_some, Option.bind_some, e4]
theorem c_95 (ha : a < h.1) (ht : jt h a = 14) : jd_95 a w g h = some (jsf h a (jiu (jiu (ji h a) 0 w) 1 g)) := by
  unfold jd_95
  rw [jpi_e ha ht, Option.bind_some, jpi_e (by rw [jsf_1]; exact ha) (by rw [jsf_t]; exact ht), Option.bind_some, jsf_is, jsf_sf]
  rfl
def jfl (h : jH) (s : Nat) (b n v : Int) : jH := jsf h s (fun i => if b ≤ i ∧ i < b + n then v else ji h s i)
theorem jfl_0 {b : Int} : jfl h s b 0 v = h := by
  unfold jfl
  have e : (fun i => if b ≤ i ∧ i < b + 0 then v else ji h s i) = ji h s := by
    funext i
    rw [if_neg (by omega)]
  rw [e, jsf_id]
theorem jfl_s {b n : Int} (hn : 0 ≤ n) : jsf (jfl h s b n v) s (jiu (ji (jfl h s b n v) s) (b + n) v) = jfl h s b (n + 1) v := by
  unfold jfl
  rw [jsf_sf, jsf_is]
  refine congrArg (jsf h s) ?_
  funext i
  unfold jiu
  by_cases hi : i = b + n
  · subst hi
    rw [if_pos rfl, if_pos (by omega)]
  · rw [if_neg hi]
    dsimp only
    by_cases hj : b ≤ i ∧ i < b + n
    · rw [if_pos hj, if_pos (by omega)]
    · rw [if_neg hj, if_neg (by omega)]
theorem c_101l {b n : Int} (hp : jPic h a s) (h6 : h.1 ≤ 1000000) (hb : 0 ≤ b) (hn : 0 ≤ n) (hbn : b + n ≤ 864) : jd_101_l24 a v (b + n) b h = some (jfl h s b n v) := by
  obtain ⟨ha, hs, ta, ra, ts, ls⟩ := hp
  unfold jd_101_l24
  have key := jloop (f := fun q : Int × jH => jd_101_s24 a v (b + n) q.1 q.2) (fun k => (b + k, jfl h s b k v)) (n := n) (x := jfl h s b n v) hn (by omega) (fun k k0 k1 => by
    show jd_101_s24 a v (b + n) (b + k) (jfl h s b k v) = some (.inl (b + (k + 1), jfl h s b (k + 1) v))
    unfold jd_101_s24
    rw [jw_s (z := b + n) (by omega) (by omega), jw_s (z := b + k) (by omega) (by omega), if_neg (by omega)]
    have f1 : (jfl h s b k v).1 = h.1 := rfl
    have ft : ∀ c, jt (jfl h s b k v) c = jt h c := fun c => jsf_t
    have fl : ∀ c, jl (jfl h s b k v) c = jl h c := fun c => jsf_l
    have fr : ∀ c, jr (jfl h s b k v) c = jr h c := fun c => jsf_r
    have er : jgr (jfl h s b k v) a 6 2 = some (some s) := by
      rw [jgr_e (by rw [f1]; exact ha) (by rw [ft]; exact ta), fr]
      exact congrArg some ra
    rw [er, Option.bind_some, Option.bind_some, jta_e (by rw [f1]; exact hs) (by rw [ft]; exact ts) (by omega) (by rw [fl, ls]; omega) (by rw [fl, ls]; decide), Option.bind_some, jfl_s k0]
    rw [show b + k + 1 = b + (k + 1) by omega]) (by
    show jd_101_s24 a v (b + n) (b + n) _ = _
    unfold jd_101_s24
    rw [if_pos (Int.le_refl _)])
  rw [jfl_0, show b + 0 = b by omega] at key
  exact key
theorem c_101 (hq : jPic h a s) (h6 : h.1 ≤ 1000000) (ew : ji h a 0 = w) (eg : ji h a 1 = g) (hw : jside w) (hg : jside g) (hp : p = 0 ∨ p = 1 ∨ p = 2) : jd_101 a p v h = some (jfl h s (jbs w g p) (jnn w g p) v) := by
  have ha := hq.1
  have ta := hq.2.2.1
  obtain ⟨b0, b1, b2⟩ := jbs_in hw hg hp
  unfold jd_101
  rw [jck_e ha ta, Option.bind_some, c_98 ha ta ew eg hw hg hp, Option.bind_some, Option.bind_some, c_96 ha ta ew hw hp, Option.bind_some, Option.bind_some, c_97 ha ta eg hg hp, Option.bind_some]
  have := c_101l (v := v) hq h6 b0 (Int.le_of_lt b1) b2
  unfold jnn at this
  rw [this, Option.bind_some]
  rfl
end JyPic
/-- a new picture -/
def jnp (h : jH) : jH := jrf (jmk (jsf (jmk h 3 (14, 0, fun _ => 0, fun _ => none)) h.1 (jiu (jiu (fun _ => 0) 0 8) 1 8)) 864 (0, 864, fun _ => 0, fun _ => none)) h.1 (jru (fun _ => none) 2 (some (h.1 + 1)))
section JyNew
variable {h : jH} {a : Nat}
theorem jnp_1 : (jnp h).1 = h.1 + 2 := rfl
theorem jnp_2 : (jnp h).2.1 = h.2.1 + 867 := rfl
theorem jnp_t (ha : a < h.1) : jt (jnp h) a = jt h a := by
  unfold jnp
  rw [jrf_t, jmk_t, jsf_1, jmk_1, if_neg (show a ≠ h.1 + 1 by omega), jsf_t, jmk_t, if_neg (by omega)]
theorem jnp_l (ha : a < h.1) : jl (jnp h) a = jl h a := by
  unfold jnp
  rw [jrf_l, jmk_l, jsf_1, jmk_1, if_neg (show a ≠ h.1 + 1 by omega), jsf_l, jmk_l, if_neg (by omega)]
theorem jnp_i (ha : a < h.1) : ji (jnp h) a = ji h a := by
  unfold jnp
  rw [jrf_i, jmk_i, jsf_1, jmk_1, if_neg (show a ≠ h.1 + 1 by omega), jsf_in (by omega), jmk_i, if_neg (by omega)]
theorem jnp_r (ha : a < h.1) : jr (jnp h) a = jr h a := by
  unfold jnp
  rw [jrf_rn (by omega), jmk_r, jsf_1, jmk_1, if_neg (show a ≠ h.1 + 1 by omega), jsf_r, jmk_r, if_neg (by omega)]
theorem jnp_p : jPic (jnp h) h.1 (h.1 + 1) := by
  refine ⟨by rw [jnp_1]; omega, by rw [jnp_1]; omega, ?_, ?_, ?_, ?_⟩
  · unfold jnp
    rw [jrf_t, jmk_t, jsf_1, jmk_1, if_neg (show h.1 ≠ h.1 + 1 by omega), jsf_t, jmk_t, if_pos rfl]
  · unfold jnp
    rw [jrf_rs]
    rfl
  · unfold jnp
    rw [jrf_t, jmk_t]
    exact if_pos rfl
  · unfold jnp
    rw [jrf_l, jmk_l]
    exact if_pos rfl
theorem c_94 (h6 : h.1 + 1 < 1000000) : ((jnw h 6).bind fun n => (jd_94 n.1 n.2)) = some (jnp h) := by
  rw [jnw_e (by omega), Option.bind_some]
  unfold jd_94
  dsimp only
  have t1 : jt (jmk h (mm_cn 6) (6 + 8, 0, fun _ => 0, fun _ => none)) h.1 = 6 + 8 := by rw [jmk_t, if_pos rfl]
  have i1 : ji (jmk h (mm_cn 6) (6 + 8, 0, fun _ => 0, fun _ => none)) h.1 = fun _ => 0 := by rw [jmk_i, if_pos rfl]
  rw [jpi_e (by rw [jmk_1]; omega) t1, Option.bind_some, i1, jpi_e (by rw [jsf_1, jmk_1]; omega) (by rw [jsf_t]; exact t1), Option.bind_some, jsf_is, jsf_sf, jna_e (by rw [jsf_1, jmk_1]; omega) (by decide) (by decide), Option.bind_some]
  dsimp only
  have r1 : jr (jmk (jsf (jmk h (mm_cn 6) (6 + 8, 0, fun _ => 0, fun _ => none)) h.1 (jiu (jiu (fun _ => 0) ((0 : Nat) : Int) 8) ((1 : Nat) : Int) 8)) (864 : Int).toNat (0, (864 : Int).toNat, fun _ => 0, fun _ => none)) h.1 = fun _ => none := by
    rw [jmk_r, jsf_1, jmk_1, if_neg (show h.1 ≠ h.1 + 1 by omega), jsf_r, jmk_r, if_pos rfl]
  rw [jpr_e (by rw [jmk_1, jsf_1, jmk_1]; omega) (by rw [jmk_t, jsf_1, jmk_1, if_neg (show h.1 ≠ h.1 + 1 by omega), jsf_t]; exact t1), Option.bind_some, r1]
  rfl
end JyNew
