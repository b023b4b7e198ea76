/-! the mini heap as the machine's: mini address a < 1000000 is the real cell B + a; 1000000 + j is the j-th thing given from outside (0 the script, 1 .. 6 the static rows) -/
def mm_ad (B : Nat) (X : Nat → Nat) (a : Nat) : Nat := bif Nat.blt a 1000000 then B + a else X (a - 1000000)
def mm_cA (ad : Nat → Nat) (a : vp_A) : vp_A := (a.1, match a.2 with
  | .inr (.inr (.inr (.inr f))) => .inr (.inr (.inr (.inr (fun k => (f k).map ad))))
  | x => x)
def mm_cE (ad : Nat → Nat) (cy : Nat → ClassId) : va_E → va_E
  | .inl a => .inl (cy a.1, mm_cA ad a.2)
  | .inr o => .inr (o.1, o.2.map (mm_cV ad))
def mm_at : Nat → FieldType := fun k => match k with
  | 0 => .int
  | 1 => .byte
  | 2 => .boolean
  | 3 => .long
  | 4 => .object RX2
  | 5 => .object RX3
  | 6 => .object RX6
  | _ => .object RX7
def mm_tys (cy : Nat → ClassId) : List (ClassId × FieldType) := (List.range 8).map (fun k => (cy k, mm_at k))
def mm_ws (B : Nat) (X : Nat → Nat) (cy : Nat → ClassId) (h : mm_H) : va_W := (List.range h.1).map (fun i => (B + i, mm_cE (mm_ad B X) cy (h.2.2 i)))
abbrev mm_A (B : Nat) : Nat → Prop := fun q => B ≤ q
def mm_HP (D : va_G) (B : Nat) (X : Nat → Nat) (cy : Nat → ClassId) (h : mm_H) (H : Heap) : Prop := va_P D mm_cls (mm_ws B X cy h) H ∧ H.size = B + h.1 ∧ h.1 ≤ 1000000
theorem mm_tys_at (cy : Nat → ClassId) {k : Nat} (hk : k < 8) : (mm_tys cy)[k]? = some (cy k, mm_at k) := by
  simp [mm_tys, hk]
theorem mm_ad_in {B : Nat} {X : Nat → Nat} {a : Nat} (h : a < 1000000) : mm_ad B X a = B + a := by
  unfold mm_ad
  rw [show Nat.blt a 1000000 = true from Nat.ble_eq_true_of_le h]
  rfl
theorem mm_ad_ext (B : Nat) (X : Nat → Nat) (j : Nat) : mm_ad B X (1000000 + j) = X j := by
  unfold mm_ad
  rw [show Nat.blt (1000000 + j) 1000000 = false from by
    cases hq : Nat.blt (1000000 + j) 1000000 with
    | false => rfl
    | true => exact absurd (Nat.le_of_ble_eq_true hq) (by omega)]
  show X (1000000 + j - 1000000) = X j
  rw [Nat.add_sub_cancel_left]
section MmWs
variable {D : va_G} {B : Nat} {X : Nat → Nat} {cy : Nat → ClassId} {h : mm_H} {H : Heap}
theorem mm_ws_get {i : Nat} (hi : i < h.1) : (mm_ws B X cy h)[i]? = some (B + i, mm_cE (mm_ad B X) cy (h.2.2 i)) := by
  simp [mm_ws, hi]
theorem mm_ws_len : (mm_ws B X cy h).length = h.1 := by simp [mm_ws]
theorem mm_ws_set {i : Nat} (hi : i < h.1) (e : va_E) (s2 : Nat) : (mm_ws B X cy h).set i (B + i, mm_cE (mm_ad B X) cy e) = mm_ws B X cy (h.1, s2, va_up h.2.2 i e) := by
  apply List.ext_getElem?
  intro k
  by_cases hk : k < h.1
  · by_cases hki : k = i
    · subst hki
      rw [List.getElem?_set_self (by rw [mm_ws_len]; exact hk), mm_ws_get (h := (h.1, s2, va_up h.2.2 k e)) hk]
      simp [va_up]
    · rw [List.getElem?_set_ne (fun q => hki q.symm), mm_ws_get hk, mm_ws_get (h := (h.1, s2, va_up h.2.2 i e)) hk]
      simp [va_up, hki]
  · rw [List.getElem?_eq_none (by rw [List.length_set, mm_ws_len]; omega), List.getElem?_eq_none (by rw [mm_ws_len]; exact Nat.le_of_not_lt hk)]
theorem mm_ws_push (e : va_E) (s2 : Nat) : mm_ws B X cy h ++ [(B + h.1, mm_cE (mm_ad B X) cy e)] = mm_ws B X cy (h.1 + 1, s2, va_up h.2.2 h.1 e) := by
  show _ = (List.range (h.1 + 1)).map _
  rw [List.range_succ, List.map_append]
  congr 1
  · apply List.map_congr_left
    intro i hi
    have : i ≠ h.1 := Nat.ne_of_lt (List.mem_range.mp hi)
    simp [va_up, this]
  · simp [va_up]
theorem mm_ws_D : va_D (mm_A B) (mm_ws B X cy h) := by
  have key : ∀ (k : Nat) (q : Nat × va_E), (mm_ws B X cy h)[k]? = some q → q.1 = B + k := by
    intro k q hk
    have hl : k < h.1 := by
      have := (List.getElem?_eq_some_iff.mp hk).1
      rwa [mm_ws_len] at this
    rw [mm_ws_get hl] at hk
    cases hk
    rfl
  refine ⟨fun i j p q hi hj he => ?_, fun k q hk => ?_⟩
  · have h1 := key i p hi
    have h2 := key j q hj
    omega
  · show B ≤ q.1
    have h1 := key k q hk
    omega
end MmWs
