/-! making in runs: how far a way goes, by its last sample -/
section RunOk
variable {v an : Int → Int} {kd W N x w l : Int}
/-- a way that may be tried at x -/
def enb (kd W x w : Int) : Prop := (w = 1 → kd ≠ 0) ∧ (w = 2 → W ≤ x)
theorem okA_1 (hw : w = 1 ∨ w = 2) : okA v an W x w l ↔ okA v an W (x + 1) w (l - 1) := by
  unfold okA
  rcases hw with rfl | rfl
  · rw [if_neg (by decide), if_pos rfl, if_neg (by decide), if_pos rfl, show x + 1 + (l - 1) - 1 = x + l - 1 by omega]
  · rw [if_neg (by decide), if_neg (by decide), if_pos rfl, if_neg (by decide), if_neg (by decide), if_pos rfl, show x + 1 + (l - 1) - 1 = x + l - 1 by omega]
theorem Rn_d (hw : ¬ enb kd W x w) (w0 : 0 ≤ w) (w3 : w ≤ 3) (x1 : x < N) : Rn v an kd W N w x = 0 := by
  have : (w = 1 ∧ kd = 0) ∨ (w = 2 ∧ x < W) := by
    unfold enb at hw
    by_cases c1 : w = 1
    · by_cases c2 : kd = 0
      · exact Or.inl ⟨c1, c2⟩
      · exact absurd ⟨fun _ => c2, fun e => by omega⟩ hw
    · by_cases c2 : w = 2
      · by_cases c3 : W ≤ x
        · exact absurd ⟨fun e => absurd e c1, fun _ => c3⟩ hw
        · exact Or.inr ⟨c2, by omega⟩
      · exact absurd ⟨fun e => absurd e c1, fun e => absurd e c2⟩ hw
  rcases this with ⟨rfl, e⟩ | ⟨rfl, e⟩
  · rw [Rn_s (by decide) x1, if_neg (by decide), if_pos rfl, if_pos e]
  · rw [Rn_s (by decide) x1, if_neg (by decide), if_neg (by decide), if_pos e]
theorem Rn_ok : ∀ (k : Nat) (x : Int), x = N - (k : Int) → 1 ≤ k → 0 ≤ w → w ≤ 3 → enb kd W x w → (∀ l : Int, 1 ≤ l → l ≤ Rn v an kd W N w x → okA v an W x w l) ∧ (x + Rn v an kd W N w x < N → ¬ okA v an W x w (Rn v an kd W N w x + 1))
  | 0, x, e, h, _, _, _ => absurd h (by omega)
  | k + 1, x, e, h, w0, w3, en => by
    have ih0 := fun (hk : 1 ≤ k) (en' : enb kd W (x + 1) w) => Rn_ok k (x + 1) (by omega) hk w0 w3 en'
    have wc : w = 3 ∨ w = 0 ∨ (w = 1 ∨ w = 2) := by omega
    rcases wc with rfl | rfl | hw
    · refine ⟨fun l _ _ => by unfold okA; rw [if_neg (by decide), if_neg (by decide), if_neg (by decide)]; trivial, fun h => ?_⟩
      unfold Rn at h
      rw [if_pos rfl] at h
      omega
    · -- the same value
      have en' : enb kd W (x + 1) 0 := ⟨fun e => absurd e (by decide), fun e => absurd e (by decide)⟩
      have ih := fun (hk : 1 ≤ k) => ih0 hk en'
      have rb := Rn_r (v := v) (an := an) (kd := kd) (W := W) (N := N) (w := 0) (x := x + 1) (by omega)
      have o0 : ∀ {y l : Int}, okA v an W y 0 l ↔ v (y + l - 1) = v y := fun {y l} => by
        unfold okA
        rw [if_pos rfl]
      rw [Rn_s (by decide) (by omega), if_pos rfl]
      by_cases c1 : x + 1 = N
      · rw [if_pos c1]
        refine ⟨fun l l1 l2 => o0.2 (by rw [show x + l - 1 = x by omega]), fun h => by omega⟩
      · rw [if_neg c1]
        obtain ⟨i1, i2⟩ := ih (by omega)
        by_cases c2 : v (x + 1) = v x
        · rw [if_pos c2]
          refine ⟨fun l l1 l2 => o0.2 ?_, fun h h2 => ?_⟩
          · by_cases cl : l = 1
            · rw [show x + l - 1 = x by omega]
            · have := o0.1 (i1 (l - 1) (by omega) (by omega))
              rw [show x + 1 + (l - 1) - 1 = x + l - 1 by omega] at this
              rw [this, c2]
          · refine i2 (by omega) (o0.2 ?_)
            have := o0.1 h2
            rw [show x + 1 + (Rn v an kd W N 0 (x + 1) + 1) - 1 = x + (Rn v an kd W N 0 (x + 1) + 1 + 1) - 1 by omega, this, c2]
        · rw [if_neg c2]
          refine ⟨fun l l1 l2 => o0.2 (by rw [show x + l - 1 = x by omega]), fun h h2 => ?_⟩
          have := o0.1 h2
          rw [show x + (1 + 1) - 1 = x + 1 by omega] at this
          exact c2 this
    · -- as in the picture ahead, as above
      have en' : enb kd W (x + 1) w := ⟨en.1, fun e => by have := en.2 e; omega⟩
      have rb := Rn_r (v := v) (an := an) (kd := kd) (W := W) (N := N) (w := w) (x := x + 1) (by omega)
      have o1 : okA v an W x w 1 ↔ (if w = 1 then an x = v x else v (x - W) = v x) := by
        unfold okA
        rcases hw with rfl | rfl
        · rw [if_neg (by decide), if_pos rfl, if_pos rfl, show x + 1 - 1 = x by omega]
          exact eq_comm
        · rw [if_neg (by decide), if_neg (by decide), if_pos rfl, if_neg (by decide), show x + 1 - 1 = x by omega]
          exact eq_comm
      have rs : Rn v an kd W N w x = if (if w = 1 then an x = v x else v (x - W) = v x) then Rn v an kd W N w (x + 1) + 1 else 0 := by
        rw [Rn_s (by omega) (by omega), if_neg (by omega)]
        rcases hw with rfl | rfl
        · rw [if_pos rfl, if_neg (en.1 rfl)]
          rfl
        · have := en.2 rfl
          rw [if_neg (by decide), if_neg (by omega)]
          rfl
      rw [rs]
      by_cases c : (if w = 1 then an x = v x else v (x - W) = v x)
      · rw [if_pos c]
        by_cases hk : 1 ≤ k
        · obtain ⟨i1, i2⟩ := ih0 hk en'
          refine ⟨fun l l1 l2 => ?_, fun h h2 => ?_⟩
          · by_cases cl : l = 1
            · rw [cl]
              exact o1.2 c
            · exact (okA_1 hw).2 (i1 (l - 1) (by omega) (by omega))
          · refine i2 (by omega) ?_
            have := (okA_1 hw).1 h2
            rw [show Rn v an kd W N w (x + 1) + 1 + 1 - 1 = Rn v an kd W N w (x + 1) + 1 by omega] at this
            exact this
        · refine ⟨fun l l1 l2 => ?_, fun h => by omega⟩
          rw [show l = 1 by omega]
          exact o1.2 c
      · rw [if_neg c]
        refine ⟨fun l l1 l2 => by omega, fun _ h2 => ?_⟩
        rw [show (0 : Int) + 1 = 1 from rfl] at h2
        exact c (o1.1 h2)
end RunOk
