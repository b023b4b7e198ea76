/-! making in runs: digits written on both sides -/
section RunWr
variable {s : hS} {Q : hQ} {hm : hO} {I m : jM} {n z : Int}
theorem MW_k {β : Nat → Int} {k : Nat} : MW m (wK m n β k) := ⟨fun _ c1 c2 => wK_o c1 c2, fun _ hz => wK_76 hz⟩
theorem MW_r : MW m m := ⟨fun _ _ _ => rfl, fun _ _ => rfl⟩
theorem wdig (W : WM s Q I m n) (z0 : 0 ≤ z) (z1 : z ≤ 255) (hl : n + 8 ≤ 32000) : ∃ I' m', jd_8 43 z 8 (hh s Q I) = some (hh s Q I') ∧ jd_232 z 8 m = some m' ∧ WM s Q I' m' (n + 8) ∧ NW Q 43 I I' ∧ MW m m' := by
  obtain ⟨⟨hn, n0, X⟩, h53⟩ := W
  have k := k_232 (m := m) (n := n) (x := z) (len := 8) h53 n0 (by omega) (by decide) z0 (by omega)
  have e53 : wK m n (fun k => z / ((2 ^ (8 - 1 - k) : Nat) : Int) % 2) 8 76 53 = n + 8 := wK_53
  rcases X with ⟨x1, x2, x3⟩ | ⟨b, W, B⟩
  · have q0 : Q 43 ((0 : Nat) : Int) = none := x3
    have e1 : I 43 ((1 : Nat) : Int) = n := hn
    refine ⟨jms I 43 1 (n + 8), _, ?_, k, ⟨⟨jms_e, by omega, Or.inl ⟨x1, x2, x3⟩⟩, e53⟩, ⟨fun c c1 _ => jms_o c1, fun z hz => jms_i hz⟩, MW_k⟩
    unfold jd_8
    rw [x_gr x1 x2, Option.bind_some, q0, if_pos rfl, x_gi x1 x2, Option.bind_some, e1, x_pi x1 x2, Option.bind_some]
    rfl
  · obtain ⟨I', y1, y2, y3, y4, y5⟩ := c_8l (len := 8) (v := z) W hn n0 (by omega) (by decide) z0 (by omega) B
    have W' := W
    obtain ⟨⟨w1, w2⟩, -, w6, w7⟩ := W
    have q0 : Q 43 ((0 : Nat) : Int) = some b := w7
    refine ⟨I', _, ?_, k, ⟨⟨y2, by omega, Or.inr ⟨b, W', ?_⟩⟩, e53⟩, ⟨fun c c1 c2 => y4 c c1 (fun e => c2 (by rw [e]; exact w7)), y5⟩, MW_k⟩
    · unfold jd_8
      rw [x_gr w1 w2, Option.bind_some, q0, if_neg (by simp)]
      exact (congrArg (fun o : Option jH => o.bind fun x35 => some x35) y1).trans rfl
    · rw [wK_113]
      exact y3
end RunWr
