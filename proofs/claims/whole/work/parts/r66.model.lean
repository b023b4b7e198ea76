/-! the model's cells: 76 its object, 77 to 151 its rows; what they hold: a function of cell and place -/
section JyMod
variable {b : jH} {m : jM}
theorem jhm_gi (hb : 152 ≤ b.1) (k : Nat) : jgi (jhm b m) 76 12 k = some (m 76 k) := by
  unfold jgi
  rw [jhm_at (by decide)]
  exact if_pos ⟨Nat.lt_of_lt_of_le (by decide) hb, rfl⟩
theorem jhm_gb (hb : 152 ≤ b.1) (k : Nat) : jgb (jhm b m) 76 12 k = some (m 76 k % 2) := by
  unfold jgb
  rw [jhm_at (by decide)]
  exact if_pos ⟨Nat.lt_of_lt_of_le (by decide) hb, rfl⟩
theorem jhm_gr (hb : 152 ≤ b.1) {k q : Nat} (hq : jmr k = some q) : jgr (jhm b m) 76 12 k = some (some q) := by
  unfold jgr
  rw [jhm_at (by decide), if_pos ⟨Nat.lt_of_lt_of_le (by decide) hb, rfl⟩]
  show some (jmr (k : Int).toNat) = _
  rw [Int.toNat_natCast, hq]
theorem jhm_si {a : Nat} (ha : 76 ≤ a ∧ a < 152) (k v : Int) : jsi (jhm b m) a k v = jhm b (jms m a k v) := by
  unfold jsi
  rw [jhm_at ha]
  show (b.1, b.2.1, _) = (b.1, b.2.1, _)
  refine congrArg (fun q => (b.1, b.2.1, q)) ?_
  funext a'
  show jce (jhm b m).2.2 a _ a' = _
  unfold jce jms
  by_cases h : a' = a
  · subst h
    rw [if_pos rfl, if_pos ha]
    simp only [if_pos]
  · rw [if_neg h]
    show (if 76 ≤ a' ∧ a' < 152 then _ else _) = _
    simp only [if_neg h]
theorem jhm_pi (hb : 152 ≤ b.1) (k : Nat) (v : Int) : jpi (jhm b m) 76 12 k v = some (jhm b (jms m 76 k v)) := by
  unfold jpi
  rw [if_pos ⟨Nat.lt_of_lt_of_le (by decide) hb, by rw [jhm_at (by decide)]; rfl⟩, jhm_si (by decide)]
theorem jhm_ai (hb : 152 ≤ b.1) (h6 : b.1 ≤ 1000000) {a : Nat} {z v : Int} (ha : 76 ≤ a ∧ a < 152) (ht : (jmt a).1 = 0) (h : jma m a z = some v) : jai (jhm b m) a z = some v := by
  unfold jma at h
  unfold jai
  rw [jhm_at ha]
  split at h
  · next q =>
    rw [if_pos ⟨⟨⟨Nat.lt_of_lt_of_le ha.2 hb, h6⟩, ht⟩, q⟩]
    exact h
  · cases h
theorem jhm_ab (hb : 152 ≤ b.1) {a : Nat} {z v : Int} (ha : 76 ≤ a ∧ a < 152) (ht : (jmt a).1 = 1) (h : jmb m a z = some v) : jab (jhm b m) a z = some v := by
  unfold jmb at h
  unfold jab
  rw [jhm_at ha]
  split at h
  · next q =>
    rw [if_pos ⟨⟨Nat.lt_of_lt_of_le ha.2 hb, ht⟩, q⟩]
    exact h
  · cases h
theorem jhm_az (hb : 152 ≤ b.1) {a : Nat} {z v : Int} (ha : 76 ≤ a ∧ a < 152) (ht : (jmt a).1 = 2) (h : jmz m a z = some v) : jaz (jhm b m) a z = some v := by
  unfold jmz at h
  unfold jaz
  rw [jhm_at ha]
  split at h
  · next q =>
    rw [if_pos ⟨⟨Nat.lt_of_lt_of_le ha.2 hb, ht⟩, q⟩]
    exact h
  · cases h
theorem jhm_ta (hb : 152 ≤ b.1) {a t : Nat} {z v : Int} {m' : jM} (ha : 76 ≤ a ∧ a < 152) (ht : (jmt a).1 = t) (h : jmw m a z v = some m') : jta (jhm b m) a t z v = some (jhm b m') := by
  unfold jmw at h
  unfold jta
  split at h
  · next q =>
    cases h
    rw [if_pos ⟨⟨Nat.lt_of_lt_of_le ha.2 hb, by rw [jhm_at ha]; exact ht⟩, by rw [jhm_at ha]; exact q⟩, jhm_si ha]
  · cases h
theorem jhm_is (hb : 152 ≤ b.1) : 76 < (jhm b m).1 ∧ ((jhm b m).2.2 76).1 = 12 + 8 := ⟨Nat.lt_of_lt_of_le (by decide) hb, by rw [jhm_at (by decide)]; rfl⟩
end JyMod
/-! loops -/
theorem jlp_ok {S X : Type} {f : S → Option (S ⊕ X)} {P : S → Prop} {Q : X → Prop} (hs : ∀ s q, f s = some q → (match q with | .inl s' => P s' | .inr x => Q x) → P s) : ∀ (n : Nat) (s : S) (x : X), jlp f n s = some x → Q x → P s
  | 0, _, _, h, _ => nomatch h
  | n + 1, s, x, h, hx => by
    simp only [jlp] at h
    split at h
    · cases h
    · next s' hf => exact hs s _ hf (jlp_ok hs n s' x h hx)
    · next x' hf =>
      cases h
      exact hs s _ hf hx
/-- a loop that goes through I 0, I 1, .., I n -/
theorem jlp_for {S X : Type} {f : S → Option (S ⊕ X)} (I : Nat → S) (n : Nat) (hI : ∀ k, k < n → f (I k) = some (.inl (I (k + 1)))) : ∀ fu, n ≤ fu → jlp f fu (I 0) = jlp f (fu - n) (I n) := by
  induction n with
  | zero => intro fu _; rfl
  | succ n ih =>
    intro fu hn
    rw [ih (fun k hk => hI k (by omega)) fu (by omega)]
    obtain ⟨j, hj⟩ : ∃ j, fu - n = j + 1 := ⟨fu - n - 1, by omega⟩
    have h2 : fu - (n + 1) = j := by omega
    rw [hj, h2]
    simp only [jlp, hI n (Nat.lt_succ_self n)]
theorem jlp_end {S X : Type} {f : S → Option (S ⊕ X)} {s : S} {x : X} (h : f s = some (.inr x)) {n : Nat} (hn : 0 < n) : jlp f n s = some x := by
  obtain ⟨j, rfl⟩ : ∃ j, n = j + 1 := ⟨n - 1, by omega⟩
  simp only [jlp, h]
theorem jlp_all {S X : Type} {f : S → Option (S ⊕ X)} (I : Nat → S) (n : Nat) {x : X} (hI : ∀ k, k < n → f (I k) = some (.inl (I (k + 1)))) (hx : f (I n) = some (.inr x)) {fu : Nat} (hn : n < fu) : jlp f fu (I 0) = some x := by
  rw [jlp_for I n hI fu (by omega)]
  exact jlp_end hx (by omega)
theorem jbind {A B : Type} {q : Option A} {f : A → Option B} {x : B} (h : q.bind f = some x) : ∃ a, q = some a ∧ f a = some x := by
  cases q with
  | none => cases h
  | some a => exact ⟨a, rfl, h⟩
/-! the locals at a method's beginning -/
def jla : Nat → List jV → List (Nat × jV)
  | _, [] => []
  | i, v :: vs => (i, v) :: jla (bif jc1 v then i + 1 else i + 2) vs
def jlf : List (Nat × jV) → jL
  | [], _ => none
  | q :: r, i => bif Nat.beq q.1 i then some q.2 else jlf r i
theorem jc1_2 (v : jV) : (if (jcv v).category = 2 then (0 : Nat) else 1) = (bif jc1 v then 1 else 0) := by
  match v with
  | .inl (.inl z) => rfl
  | .inl (.inr z) => rfl
  | .inr none => rfl
  | .inr (some a) => rfl
theorem jsim_args : ∀ (l : List jV) (k : Nat), jsim (jlf (jla k l)) (lv_args k (l.map jcv))
  | [], _, _, _, h => nomatch h
  | v :: vs, k, i, w, h => by
    simp only [jla, jlf] at h
    simp only [List.map_cons, lv_args, mm_get]
    cases hk : Nat.beq k i with
    | true =>
      rw [hk] at h
      cases h
      rfl
    | false =>
      rw [hk] at h
      have h2 : (if (jcv v).category = 2 then k + 2 else k + 1) = (bif jc1 v then k + 1 else k + 2) := by
        match v with
        | .inl (.inl z) => rfl
        | .inl (.inr z) => rfl
        | .inr none => rfl
        | .inr (some a) => rfl
      rw [h2]
      exact jsim_args vs _ i w h
theorem ey_run0 {xt : Nat → Nat × (Nat → Int32)} {d mi : Nat} {h : jH} {r : mm_R} {t : Nat × Nat × Option FieldType × Nat × Nat × List (Nat × Nat × Nat × Nat)} (l : List jV) (hm : mm_MT mi = t) (hl : Nat.ble (lg_sl (l.map jcv)).length t.2.1 = true) (k : ey xt d mi 0 (jlf (jla 0 l)) [] h r) : mm_Runs xt (d + 1) mi (l.map jcv) (jaH h) r :=
  ey_run hm hl (jsim_args l 0) k
theorem jlc_lt {x y x1 y1 : Int} (hx : jwl x = x1) (hy : jwl y = y1) : jw (jlcmp x y) < 0 ↔ x1 < y1 := by
  subst hx hy
  unfold jlcmp
  split
  · rw [show jw 1 = 1 from by decide]; omega
  · split
    · rw [show jw 0 = 0 from by decide]; omega
    · rw [show jw (-1) = -1 from by decide]; omega
theorem jlc_le {x y x1 y1 : Int} (hx : jwl x = x1) (hy : jwl y = y1) : jw (jlcmp x y) ≤ 0 ↔ x1 ≤ y1 := by
  subst hx hy
  unfold jlcmp
  split
  · rw [show jw 1 = 1 from by decide]; omega
  · split
    · rw [show jw 0 = 0 from by decide]; omega
    · rw [show jw (-1) = -1 from by decide]; omega
theorem jlc_gt {x y x1 y1 : Int} (hx : jwl x = x1) (hy : jwl y = y1) : 0 < jw (jlcmp x y) ↔ y1 < x1 := by
  subst hx hy
  unfold jlcmp
  split
  · rw [show jw 1 = 1 from by decide]; omega
  · split
    · rw [show jw 0 = 0 from by decide]; omega
    · rw [show jw (-1) = -1 from by decide]; omega
theorem jlc_ge {x y x1 y1 : Int} (hx : jwl x = x1) (hy : jwl y = y1) : 0 ≤ jw (jlcmp x y) ↔ y1 ≤ x1 := by
  subst hx hy
  unfold jlcmp
  split
  · rw [show jw 1 = 1 from by decide]; omega
  · split
    · rw [show jw 0 = 0 from by decide]; omega
    · rw [show jw (-1) = -1 from by decide]; omega
theorem jlc_eq {x y x1 y1 : Int} (hx : jwl x = x1) (hy : jwl y = y1) : jw (jlcmp x y) = 0 ↔ x1 = y1 := by
  subst hx hy
  unfold jlcmp
  split
  · rw [show jw 1 = 1 from by decide]; omega
  · split
    · rw [show jw 0 = 0 from by decide]; omega
    · rw [show jw (-1) = -1 from by decide]; omega
theorem jlc_ne {x y x1 y1 : Int} (hx : jwl x = x1) (hy : jwl y = y1) : ¬ jw (jlcmp x y) = 0 ↔ ¬ x1 = y1 := not_congr (jlc_eq hx hy)
theorem jbo_ite {c : Prop} {D : Decidable c} {a b : Int} (h1 : a = 0 ∨ a = 1) (h2 : b = 0 ∨ b = 1) : (@ite Int c D a b) = 0 ∨ (@ite Int c D a b) = 1 := by
  split <;> assumption
theorem jbo_mod (x : Int) : x % 2 = 0 ∨ x % 2 = 1 := by omega
theorem jhm_pi' {b : jH} {m m' : jM} (hb : 152 ≤ b.1) {k : Nat} {v : Int} (e : some (jms m 76 k v) = some m') : jpi (jhm b m) 76 12 k v = some (jhm b m') := by
  rw [jhm_pi hb]
  exact congrArg (Option.map (jhm b)) e
