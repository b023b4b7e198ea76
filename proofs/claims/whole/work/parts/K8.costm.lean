/-! making: what a way costs, the model -/
section CostM
variable {m : jM} {b st k q n md fw bw x4 x5 x6 : Int} {V G : Int → Int} {l : List Int}
theorem k_284c {W Md : Int → Int} {c0 : Int} (S : SrcP m k q W) (hm : ∀ z : Int, 0 ≤ z → z < 96 → jd_205 (jw (m 114 z + m 115 z)) 0 255 = Md z ∧ 0 ≤ Md z ∧ Md z ≤ 255) : jd_284_l366 k q x5 c0 0 m = some (c0 + sqS (fun z => Md z - W z) 96) := by
  have inner : ∀ pl : Int, 0 ≤ pl → pl ≤ 2 → ∀ a : Nat, ppb pl = (a : Int) → jd_284_l375 k q x5 pl (c0 + sqS (fun z => Md z - W z) a) 0 m = some (c0 + sqS (fun z => Md z - W z) (a + (sdOf pl * sdOf pl).toNat)) := fun pl p0 p2 a ha => by
    have pb := ppb_b p0 p2
    have okp : okI pl := by unfold okI; omega
    obtain ⟨N, hN⟩ : ∃ N : Nat, (N : Int) = sdOf pl * sdOf pl := by
      rcases pb.2.2 with e | e <;> rw [e]
      · exact ⟨64, rfl⟩
      · exact ⟨16, rfl⟩
    have N64 : N ≤ 64 := by rcases pb.2.2 with e | e <;> rw [e] at hN <;> omega
    have tn : (sdOf pl * sdOf pl).toNat = N := by rw [← hN]; rfl
    rw [tn]
    unfold jd_284_l375
    have := w_for (f := fun u : (Int × Int) => jd_284_s375 k q x5 pl u.1 u.2 m) (fun j => (c0 + sqS (fun z => Md z - W z) (a + j), (j : Int))) N (x := c0 + sqS (fun z => Md z - W z) (a + N)) (fun j hj => ?_) ?_ (n_fu (by omega))
    · exact this
    · dsimp only
      have sv := S.1 m rfl rfl rfl pl (j : Int) p0 p2 (by omega) (by omega)
      have z0 : 0 ≤ ppb pl + (j : Int) := by omega
      have z1 : ppb pl + (j : Int) < 96 := by omega
      have ez : ppb pl + (j : Int) = ((a + j : Nat) : Int) := by omega
      unfold jd_284_s375
      rw [k_243 okp, ← hN, n_jw (z := (N : Int)) (by omega) (by omega), n_jw (z := (j : Int)) (by omega) (by omega), if_neg (by omega), k_244 p0 p2, y_ma 114 96 rfl rfl (by omega) (by omega), Option.bind_some, y_ma 115 96 rfl rfl (by omega) (by omega), Option.bind_some, sv, Option.bind_some, (hm _ z0 z1).1, Option.bind_some]
      have h2 := (hm _ z0 z1).2
      have w := S.2 _ z0 z1
      have sq := sq_b (d := Md (ppb pl + (j : Int)) - W (ppb pl + (j : Int))) (by omega) (by omega)
      rw [n_jw (z := (Md (ppb pl + (j : Int)) - W (ppb pl + (j : Int))) * (Md (ppb pl + (j : Int)) - W (ppb pl + (j : Int)))) (by omega) (by omega), ez, show a + (j + 1) = a + j + 1 from rfl, sqS_s, show ((j + 1 : Nat) : Int) = (j : Int) + 1 by omega, Int.add_assoc]
    · dsimp only
      unfold jd_284_s375
      rw [k_243 okp, ← hN, if_pos (Int.le_refl _)]
  have i0 := inner 0 (by decide) (by decide) 0 rfl
  have i1 := inner 1 (by decide) (by decide) 64 rfl
  have i2 := inner 2 (by decide) (by decide) 80 rfl
  have t0 : ∀ {x11 a : Int} {o : Int}, jd_284_l375 k q x5 x11 a 0 m = some o → jw x11 < 3 → jd_284_s366 k q x5 a x11 m = some (.inl (o, x11 + 1)) := fun {x11} {a} {o} e h => by
    unfold jd_284_s366
    rw [if_neg (by omega), e, Option.bind_some]
  unfold jd_284_l366
  have := w_for (f := fun u : (Int × Int) => jd_284_s366 k q x5 u.1 u.2 m) (fun j => (c0 + sqS (fun z => Md z - W z) (if j = 0 then 0 else if j = 1 then 64 else if j = 2 then 80 else 96), (j : Int))) 3 (x := c0 + sqS (fun z => Md z - W z) 96) (fun j hj => ?_) ?_ (n_fu (by decide))
  · have z : c0 + sqS (fun z => Md z - W z) 0 = c0 := Int.add_zero _
    have this' : jlp (fun u : (Int × Int) => jd_284_s366 k q x5 u.1 u.2 m) jfu (c0 + sqS (fun z => Md z - W z) 0, 0) = some (c0 + sqS (fun z => Md z - W z) 96) := this
    rw [z] at this'
    exact this'
  · have : j = 0 ∨ j = 1 ∨ j = 2 := by omega
    rcases this with rfl | rfl | rfl
    · exact t0 i0 (show jw 0 < 3 by decide)
    · exact t0 i1 (show jw 1 < 3 by decide)
    · exact t0 i2 (show jw 2 < 3 by decide)
  · exact if_pos (show 3 ≤ jw 3 by decide)
end CostM
