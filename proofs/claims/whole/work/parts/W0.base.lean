/-! three rows that the law's step rests on -/
theorem jaC_obj {c : Nat} {x : jC} (h : x.1 = c + 8) : jaC x = .inr (c, (List.range (mm_cn c)).map (fun j => jfV c j (x.2.2.1 j) (x.2.2.2 j))) := by
  obtain ⟨t, n, f, g⟩ := x
  subst h
  rfl
theorem jhm_at {b : jH} {m : jM} {a : Nat} (ha : 76 ≤ a ∧ a < 152) : (jhm b m).2.2 a = ((jmt a).1, (jmt a).2, m a, jmo a) := by
  show (if 76 ≤ a ∧ a < 152 then _ else _) = _
  rw [if_pos ha]
theorem jwl_jw (x : Int) : jwl (jw x) = jw x := by unfold jwl jw; omega
/-! the parts of a heap, and what the heap's operations do to them -/
def jt (h : jH) (a : Nat) : Nat := (h.2.2 a).1
def jl (h : jH) (a : Nat) : Nat := (h.2.2 a).2.1
def ji (h : jH) (a : Nat) : Int → Int := (h.2.2 a).2.2.1
def jr (h : jH) (a : Nat) : Int → Option Nat := (h.2.2 a).2.2.2
def jsf (h : jH) (s : Nat) (f : Int → Int) : jH := (h.1, h.2.1, jce h.2.2 s (jt h s, jl h s, f, jr h s))
def jrf (h : jH) (s : Nat) (f : Int → Option Nat) : jH := (h.1, h.2.1, jce h.2.2 s (jt h s, jl h s, ji h s, f))
section JyBase
variable {h : jH} {a s c k t n : Nat} {f g : Int → Int} {z v : Int} {F : Int → Option Nat} {x : jC}
theorem jw_s (h1 : -2147483648 ≤ z) (h2 : z < 2147483648) : jw z = z := by unfold jw; omega
theorem jw_n {m : Int} (h1 : 0 ≤ z) (h2 : z < m) (h3 : m ≤ 2147483648) : jw z = z := by unfold jw; omega
theorem jce_s {H : Nat → jC} : jce H a x a = x := by unfold jce; exact if_pos rfl
theorem jce_n {H : Nat → jC} (hn : a ≠ s) : jce H s x a = H a := by unfold jce; exact if_neg hn
theorem jsf_1 : (jsf h s f).1 = h.1 := rfl
theorem jsf_2 : (jsf h s f).2.1 = h.2.1 := rfl
theorem jsf_t : jt (jsf h s f) a = jt h a := by
  unfold jt jsf jce
  dsimp only
  split
  · next e => rw [e]; rfl
  · rfl
theorem jsf_l : jl (jsf h s f) a = jl h a := by
  unfold jl jsf jce
  dsimp only
  split
  · next e => rw [e]; rfl
  · rfl
theorem jsf_r : jr (jsf h s f) a = jr h a := by
  unfold jr jsf jce
  dsimp only
  split
  · next e => rw [e]; rfl
  · rfl
theorem jsf_i : ji (jsf h s f) a = if a = s then f else ji h a := by
  unfold ji jsf jce
  dsimp only
  split <;> rfl
theorem jsf_is : ji (jsf h s f) s = f := by rw [jsf_i, if_pos rfl]
theorem jsf_in (hn : a ≠ s) : ji (jsf h s f) a = ji h a := by rw [jsf_i, if_neg hn]
theorem jsf_sf : jsf (jsf h s f) s g = jsf h s g := by
  have e : jce (jsf h s f).2.2 s (jt (jsf h s f) s, jl (jsf h s f) s, g, jr (jsf h s f) s) = jce h.2.2 s (jt h s, jl h s, g, jr h s) := by
    rw [jsf_t, jsf_l, jsf_r]
    funext b
    unfold jsf jce
    dsimp only
    split <;> rfl
  exact congrArg (fun q => (h.1, h.2.1, q)) e
theorem jsf_id : jsf h s (ji h s) = h := by
  have e : jce h.2.2 s (jt h s, jl h s, ji h s, jr h s) = h.2.2 := by
    funext b
    unfold jce
    split
    · next e => rw [e]; rfl
    · rfl
  exact congrArg (fun q => (h.1, h.2.1, q)) e
theorem jrf_1 : (jrf h s F).1 = h.1 := rfl
theorem jrf_2 : (jrf h s F).2.1 = h.2.1 := rfl
theorem jrf_t : jt (jrf h s F) a = jt h a := by
  unfold jt jrf jce
  dsimp only
  split
  · next e => rw [e]; rfl
  · rfl
theorem jrf_l : jl (jrf h s F) a = jl h a := by
  unfold jl jrf jce
  dsimp only
  split
  · next e => rw [e]; rfl
  · rfl
theorem jrf_i : ji (jrf h s F) a = ji h a := by
  unfold ji jrf jce
  dsimp only
  split
  · next e => rw [e]; rfl
  · rfl
theorem jrf_r : jr (jrf h s F) a = if a = s then F else jr h a := by
  unfold jr jrf jce
  dsimp only
  split <;> rfl
theorem jrf_rs : jr (jrf h s F) s = F := by rw [jrf_r, if_pos rfl]
theorem jrf_rn (hn : a ≠ s) : jr (jrf h s F) a = jr h a := by rw [jrf_r, if_neg hn]
theorem jmk_1 : (jmk h n x).1 = h.1 + 1 := rfl
theorem jmk_2 : (jmk h n x).2.1 = h.2.1 + n := rfl
theorem jmk_t : jt (jmk h n x) a = if a = h.1 then x.1 else jt h a := by
  unfold jt jmk jce
  dsimp only
  split <;> rfl
theorem jmk_l : jl (jmk h n x) a = if a = h.1 then x.2.1 else jl h a := by
  unfold jl jmk jce
  dsimp only
  split <;> rfl
theorem jmk_i : ji (jmk h n x) a = if a = h.1 then x.2.2.1 else ji h a := by
  unfold ji jmk jce
  dsimp only
  split <;> rfl
theorem jmk_r : jr (jmk h n x) a = if a = h.1 then x.2.2.2 else jr h a := by
  unfold jr jmk jce
  dsimp only
  split <;> rfl
theorem jgi_e (ha : a < h.1) (ht : jt h a = c + 8) : jgi h a c k = some (ji h a k) := if_pos ⟨ha, ht⟩
theorem jgb_e (ha : a < h.1) (ht : jt h a = c + 8) : jgb h a c k = some (ji h a k % 2) := if_pos ⟨ha, ht⟩
theorem jgr_e (ha : a < h.1) (ht : jt h a = c + 8) : jgr h a c k = some (jr h a k) := if_pos ⟨ha, ht⟩
theorem jck_e (ha : a < h.1) (ht : jt h a = c + 8) : jck h a c = some () := if_pos ⟨ha, ht⟩
theorem jpi_e (ha : a < h.1) (ht : jt h a = c + 8) : jpi h a c k v = some (jsf h a (jiu (ji h a) k v)) := if_pos ⟨ha, ht⟩
theorem jpr_e {q : Option Nat} (ha : a < h.1) (ht : jt h a = c + 8) : jpr h a c k q = some (jrf h a (jru (jr h a) k q)) := if_pos ⟨ha, ht⟩
theorem jai_e (ha : a < h.1) (h6 : h.1 ≤ 1000000) (ht : jt h a = 0) (h0 : 0 ≤ z) (h1 : z < jl h a) (hl : jl h a ≤ 1000000) : jai h a z = some (ji h a z) := by
  have e : jw z = z := jw_n h0 h1 (by omega)
  unfold jai
  rw [e]
  exact if_pos ⟨⟨⟨ha, h6⟩, ht⟩, h0, h1⟩
theorem jab_e (ha : a < h.1) (ht : jt h a = 1) (h0 : 0 ≤ z) (h1 : z < jl h a) (hl : jl h a ≤ 1000000) : jab h a z = some (jwb (ji h a z)) := by
  have e : jw z = z := jw_n h0 h1 (by omega)
  unfold jab
  rw [e]
  exact if_pos ⟨⟨ha, ht⟩, h0, h1⟩
theorem jaz_e (ha : a < h.1) (ht : jt h a = 2) (h0 : 0 ≤ z) (h1 : z < jl h a) (hl : jl h a ≤ 1000000) : jaz h a z = some (ji h a z % 2) := by
  have e : jw z = z := jw_n h0 h1 (by omega)
  unfold jaz
  rw [e]
  exact if_pos ⟨⟨ha, ht⟩, h0, h1⟩
theorem jal_e (ha : a < h.1) (ht : jt h a = 3) (h0 : 0 ≤ z) (h1 : z < jl h a) (hl : jl h a ≤ 1000000) : jal h a z = some (ji h a z) := by
  have e : jw z = z := jw_n h0 h1 (by omega)
  unfold jal
  rw [e]
  exact if_pos ⟨⟨ha, ht⟩, h0, h1⟩
theorem jar_e (ha : a < h.1) (ht : jt h a = t) (h0 : 0 ≤ z) (h1 : z < jl h a) (hl : jl h a ≤ 1000000) : jar h a t z = some (jr h a z) := by
  have e : jw z = z := jw_n h0 h1 (by omega)
  unfold jar
  rw [e]
  exact if_pos ⟨⟨ha, ht⟩, h0, h1⟩
theorem jta_e (ha : a < h.1) (ht : jt h a = t) (h0 : 0 ≤ z) (h1 : z < jl h a) (hl : jl h a ≤ 1000000) : jta h a t z v = some (jsf h a (jiu (ji h a) z v)) := by
  have e : jw z = z := jw_n h0 h1 (by omega)
  unfold jta
  rw [e]
  exact if_pos ⟨⟨ha, ht⟩, h0, h1⟩
theorem jtr_e {b : Nat} (ha : a < h.1) (ht : jt h a = t) (h0 : 0 ≤ z) (h1 : z < jl h a) (hl : jl h a ≤ 1000000) (hb : b < h.1) (hbt : jt h b = mm_ac t + 8) : jtr h a t z b = some (jrf h a (jru (jr h a) z (some b))) := by
  have e : jw z = z := jw_n h0 h1 (by omega)
  unfold jtr
  rw [e]
  exact if_pos ⟨⟨⟨ha, ht⟩, h0, h1⟩, hb, hbt⟩
theorem jln_e (ha : a < h.1) (h6 : h.1 ≤ 1000000) (ht : jt h a < 8) : jln h a = some (jl h a : Int) := if_pos ⟨⟨ha, h6⟩, ht⟩
theorem jnw_e (h6 : h.1 < 1000000) : jnw h c = some (h.1, jmk h (mm_cn c) (c + 8, 0, fun _ => 0, fun _ => none)) := if_pos h6
theorem jna_e (h6 : h.1 < 1000000) (h0 : 0 ≤ z) (h1 : z ≤ 1000000) : jna h t z = some (h.1, jmk h z.toNat (t, z.toNat, fun _ => 0, fun _ => none)) := by
  have e : jw z = z := jw_n h0 (m := 1000001) (by omega) (by decide)
  unfold jna
  rw [e]
  exact if_pos ⟨h6, h0, h1⟩
theorem j6_e (h6 : h.1 < 1000000) : j6 h = some () := if_pos h6
theorem jiu_s {f : Int → Int} {k v : Int} : jiu f k v k = v := if_pos rfl
theorem jiu_n {f : Int → Int} {j k v : Int} (hn : j ≠ k) : jiu f k v j = f j := if_neg hn
theorem jru_s {f : Int → Option Nat} {k : Int} {v : Option Nat} : jru f k v k = v := if_pos rfl
theorem jru_n {f : Int → Option Nat} {j k : Int} {v : Option Nat} (hn : j ≠ k) : jru f k v j = f j := if_neg hn
end JyBase
