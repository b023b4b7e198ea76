/-! decompiled: the model's methods -/
theorem jnz_s {y : Int} {u : Unit} (h : jnz y = some u) : jw y ≠ 0 := by
  unfold jnz at h
  split at h
  · cases h
  · assumption
theorem jnzl_s {y : Int} {u : Unit} (h : jnzl y = some u) : jwl y ≠ 0 := by
  unfold jnzl at h
  split at h
  · cases h
  · assumption
theorem jbc_s {z : Int} {u : Unit} (h : jbc z = some u) : z = 0 ∨ z = 1 := by
  unfold jbc at h
  split at h
  · assumption
  · cases h
theorem j6_s {h : jH} {u : Unit} (e : j6 h = some u) : h.1 < 1000000 := by
  unfold j6 at e
  split at e
  · assumption
  · cases e
theorem jck_s {h : jH} {a c : Nat} {u : Unit} (e : jck h a c = some u) : a < h.1 ∧ (h.2.2 a).1 = c + 8 := by
  unfold jck at e
  split at e
  · assumption
  · cases e
theorem ey_rs {xt : Nat → Nat × (Nat → Int32)} {d mi pc : Nat} {lv : jL} {s0 s1 : List jV} {h : jH} {r : mm_R} (e : s0 = s1) (k : ey xt d mi pc lv s1 h r) : ey xt d mi pc lv s0 h r := e ▸ k
def jsm {S X : Type} (P : S → Prop) (Q : X → Prop) (o : S ⊕ X) : Prop := match o with
  | .inl s => P s
  | .inr x => Q x
theorem jlp_ok2 {S X : Type} {f : S → Option (S ⊕ X)} {P : S → Prop} {Q : X → Prop} (hs : ∀ s q, f s = some q → jsm P Q q → P s) (n : Nat) (s : S) (x : X) (h : jlp f n s = some x) (hx : Q x) : P s :=
  jlp_ok (P := P) (Q := Q) (fun s q h1 h2 => hs s q h1 (by cases q <;> exact h2)) n s x h hx

theorem jup_o {lv : jL} {i j : Nat} {v : jV} {w : Option jV} (h : (Nat.beq j i || Nat.beq (j + 1) i) = false) (e : lv j = w) : jup lv i v j = w := by
  rw [Bool.or_eq_false_iff] at h
  unfold jup
  rw [if_neg (Nat.ne_of_beq_eq_false h.1), if_neg (Nat.ne_of_beq_eq_false h.2)]
  exact e
theorem jup2_o {lv : jL} {i j : Nat} {v : jV} {w : Option jV} (h : (Nat.beq j i || Nat.beq j (i + 1) || Nat.beq (j + 1) i) = false) (e : lv j = w) : jup2 lv i v j = w := by
  rw [Bool.or_eq_false_iff, Bool.or_eq_false_iff] at h
  unfold jup2
  rw [if_neg (Nat.ne_of_beq_eq_false h.1.1), if_neg (Nat.ne_of_beq_eq_false h.1.2), if_neg (Nat.ne_of_beq_eq_false h.2)]
  exact e

def jsz : List jV → Nat
  | [] => 0
  | v :: r => (bif jc1 v then 1 else 2) + jsz r
theorem jcat (v : jV) : (jcv v).category = (bif jc1 v then 1 else 2) := by
  match v with
  | .inl (.inl z) => rfl
  | .inl (.inr z) => rfl
  | .inr none => rfl
  | .inr (some a) => rfl
theorem jsz_sum : ∀ l : List jV, ((l.map jcv).map fun v => v.category).sum = jsz l
  | [] => rfl
  | v :: r => by
    rw [List.map_cons, List.map_cons, List.sum_cons, jsz_sum r, jcat v]
    rfl
theorem jsml_s {l : List jV} (h : Nat.ble (jsz l) 8 = true) : mm_small (l.map jcv) = true := by
  unfold mm_small
  rw [jsz_sum l]
  exact h
theorem jsz_len : ∀ l : List jV, (lg_sl (l.map jcv)).length = jsz l
  | [] => rfl
  | v :: r => by
    have e := jsz_len r
    unfold lg_sl at e ⊢
    rw [List.map_cons, List.flatMap_cons, List.length_append, e]
    match v with
    | .inl (.inl z) => rfl
    | .inl (.inr z) => rfl
    | .inr none => rfl
    | .inr (some a) => rfl
theorem jsl_s {l : List jV} {n : Nat} (h : Nat.ble (jsz l) n = true) : Nat.ble (lg_sl (l.map jcv)).length n = true := by
  rw [jsz_len l]
  exact h
/-! for the class's methods -/
def jres_i (o : (Int ⊕ Nat) × jH) : mm_R := match o.1 with
  | .inl v => .inl (some (jcv (jI v)), jaH o.2)
  | .inr E => .inr (E, jaH o.2)
def jres_v (o : (Unit ⊕ Nat) × jH) : mm_R := match o.1 with
  | .inl _ => .inl (none, jaH o.2)
  | .inr E => .inr (E, jaH o.2)
def jres_a (o : (Nat ⊕ Nat) × jH) : mm_R := match o.1 with
  | .inl v => .inl (some (jcv (jR (some v))), jaH o.2)
  | .inr E => .inr (E, jaH o.2)
def jHF (L : Nat) (xs : Nat → Int32) (n : Nat) (F : jFR) : Prop :=
  (∀ (this : Nat) (p0 : Int) (h : jH) (o : Int × jH), F 49 this p0 0 h = some o → mm_Runs (mm_xt L xs) (n + 8) 49 ([jR (some this), jI p0].map jcv) (jaH h) (.inl (some (jcv (jI o.1)), jaH o.2))) ∧
  (∀ (this : Nat) (p0 : Int) (h : jH) (o : Int × jH), F 50 this p0 0 h = some o → mm_Runs (mm_xt L xs) (n + 8) 50 ([jR (some this), jI p0].map jcv) (jaH h) (.inl (some (jcv (jI o.1)), jaH o.2))) ∧
  (∀ (this : Nat) (p0 : Int) (h : jH) (o : Int × jH), F 51 this p0 0 h = some o → mm_Runs (mm_xt L xs) (n + 8) 51 ([jR (some this), jI p0].map jcv) (jaH h) (.inl (some (jcv (jI o.1)), jaH o.2))) ∧
  (∀ (this : Nat) (p0 : Int) (h : jH) (o : Int × jH), F 54 this p0 0 h = some o → mm_Runs (mm_xt L xs) (n + 8) 54 ([jR (some this), jI p0].map jcv) (jaH h) (.inl (some (jcv (jI o.1)), jaH o.2))) ∧
  (∀ (this : Nat) (p0 p1 : Int) (h : jH) (o : Int × jH), F 55 this p0 p1 h = some o → mm_Runs (mm_xt L xs) (n + 8) 55 ([jR (some this), jI p0, jI p1].map jcv) (jaH h) (.inl (some (jcv (jI o.1)), jaH o.2)))
theorem jdf_0 : mm_df 0 = (List.range (mm_cn 0)).map (fun j => jfV 0 j 0 none) := rfl
theorem jdf_1 : mm_df 1 = (List.range (mm_cn 1)).map (fun j => jfV 1 j 0 none) := rfl
theorem jdf_2 : mm_df 2 = (List.range (mm_cn 2)).map (fun j => jfV 2 j 0 none) := rfl
theorem jdf_3 : mm_df 3 = (List.range (mm_cn 3)).map (fun j => jfV 3 j 0 none) := rfl
theorem jdf_4 : mm_df 4 = (List.range (mm_cn 4)).map (fun j => jfV 4 j 0 none) := rfl
theorem jdf_5 : mm_df 5 = (List.range (mm_cn 5)).map (fun j => jfV 5 j 0 none) := rfl
theorem jdf_6 : mm_df 6 = (List.range (mm_cn 6)).map (fun j => jfV 6 j 0 none) := rfl
theorem jdf_7 : mm_df 7 = (List.range (mm_cn 7)).map (fun j => jfV 7 j 0 none) := rfl
theorem jdf_8 : mm_df 8 = (List.range (mm_cn 8)).map (fun j => jfV 8 j 0 none) := rfl
theorem jdf_9 : mm_df 9 = (List.range (mm_cn 9)).map (fun j => jfV 9 j 0 none) := rfl
theorem jdf_10 : mm_df 10 = (List.range (mm_cn 10)).map (fun j => jfV 10 j 0 none) := rfl
theorem jdf_11 : mm_df 11 = (List.range (mm_cn 11)).map (fun j => jfV 11 j 0 none) := rfl
set_option maxRecDepth 100000 in
theorem jdf_12 : mm_df 12 = (List.range (mm_cn 12)).map (fun j => jfV 12 j 0 none) := rfl
theorem jtb_c {A B : Type} {q : Option ((A ⊕ Nat) × jH)} {f : A → jH → Option ((B ⊕ Nat) × jH)} {o : (B ⊕ Nat) × jH} (e : jtb q f = some o) : (∃ v h, q = some (.inl v, h) ∧ f v h = some o) ∨ (∃ E h, q = some (.inr E, h) ∧ some (Sum.inr E, h) = some o) := by
  unfold jtb at e
  obtain ⟨⟨x, h⟩, e1, e2⟩ := jbind e
  cases x with
  | inl v => exact Or.inl ⟨v, h, e1, e2⟩
  | inr E => exact Or.inr ⟨E, h, e1, e2⟩
theorem jtn_c {A C : Type} {q : Option ((A ⊕ Nat) × jH)} {f : A → jH → Option C} {o : C} (e : jtn q f = some o) : ∃ v h, q = some (.inl v, h) ∧ f v h = some o := by
  unfold jtn at e
  obtain ⟨⟨x, h⟩, e1, e2⟩ := jbind e
  cases x with
  | inl v => exact ⟨v, h, e1, e2⟩
  | inr E => cases e2
