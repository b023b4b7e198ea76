/-! filter: every text -/
section FltAll
variable {s : hS} {Q : hQ} {hm : hO} {I0 m0 I I' m m' m2 : jM} {a : Nat} {q n en p w d fl c A A2 B lv op r v x u many : Int} {pn nd k N : Nat}
/-- a factor, when what lies deeper is known -/
theorem fac_a (X : Fx s Q hm a q n en I0 m0) (HF : d < 12 → ∀ {p w r c : Int} {I m : jM}, At q a I0 m0 en p w (d + 1) r c I m → Res s Q q a I0 m0 en (fun _ => True) 3 w (d + 1) r p m (jrec N 51 a (d + 1) 0 (hh s Q I))) (HS : d < 12 → ∀ {p w r c : Int} {I m : jM}, At q a I0 m0 en p w (d + 1) r c I m → (w = 0 ∨ (sr (m 138 (w - 1)) < 1 ∧ 8 ≤ m 138 (w - 1) ∧ m 138 (w - 1) ≤ 18)) → Res s Q q a I0 m0 en (St1 I0 en) 1 w (d + 1) r p m (jrec N 49 a (d + 1) 0 (hh s Q I))) (T : At q a I0 m0 en p w d r c I m) : Res s Q q a I0 m0 en (fun _ => True) 3 w d r p m (jrec (N + 2) 51 a d 0 (hh s Q I)) := by
  have C := T.1
  obtain ⟨A, hb, hr⟩ := bl_ex (I0 := I0) (en := en) (p := p) C.2.2.2.2.2.2.1 C.2.2.2.2.2.2.2
  show Res s Q q a I0 m0 en (fun _ => True) 3 w d r p m (jd_51 (jrec (N + 1)) a d (hh s Q I))
  obtain ⟨u, hu⟩ : ∃ u, chC I0 en A = u := ⟨_, rfl⟩
  by_cases c1 : 48 ≤ u ∧ u ≤ 57
  · exact fac_num X T hb hr (by rw [hu]; exact c1)
  by_cases c2 : u = 40
  · exact fac_par X T hb hr (hu.trans c2) HS
  by_cases c3 : u = 45
  · exact fac_min X T hb hr (hu.trans c3) HF
  by_cases c4 : 1 ≤ lt u
  · by_cases c5 : lt u ≤ 7
    · exact fac_let X T hb hr hu c4 c5
    · exact fac_fun X T hb hr hu c4 (by omega) HS
  · exact fac_not X T hb hr hu c1 c2 c3 (by omega)
theorem flt_all (X : Fx s Q hm a q n en I0 m0) : ∀ (t : Nat) (d : Int), d + t = 12 → 0 ≤ d → (∀ N : Nat, 4 * t + 3 ≤ N → ∀ {p w r c : Int} {I m : jM}, At q a I0 m0 en p w d r c I m → Res s Q q a I0 m0 en (fun _ => True) 3 w d r p m (jrec N 51 a d 0 (hh s Q I))) ∧ (∀ N : Nat, 4 * t + 5 ≤ N → ∀ {p w r c : Int} {I m : jM}, At q a I0 m0 en p w d r c I m → (w = 0 ∨ (sr (m 138 (w - 1)) < 1 ∧ 8 ≤ m 138 (w - 1) ∧ m 138 (w - 1) ≤ 18)) → Res s Q q a I0 m0 en (St1 I0 en) 1 w d r p m (jrec N 49 a d 0 (hh s Q I))) := by
  intro t
  induction t with
  | zero =>
    intro d hd d0
    have f : ∀ N : Nat, 4 * 0 + 3 ≤ N → ∀ {p w r c : Int} {I m : jM}, At q a I0 m0 en p w d r c I m → Res s Q q a I0 m0 en (fun _ => True) 3 w d r p m (jrec N 51 a d 0 (hh s Q I)) := fun N hN => by
      obtain ⟨N, rfl⟩ : ∃ k, N = k + 2 := ⟨N - 2, by omega⟩
      exact fac_a X (fun h => absurd h (by omega)) (fun h => absurd h (by omega))
    refine ⟨f, fun N hN => ?_⟩
    obtain ⟨N, rfl⟩ : ∃ k, N = k + 2 := ⟨N - 2, by omega⟩
    intro p w r c I m T tp
    exact sum_l (N := N + 1) X T tp (fun T2 tp2 => prod_l (N := N) X T2 tp2 (f N (by omega)))
  | succ t ih =>
    intro d hd d0
    obtain ⟨i1, i2⟩ := ih (d + 1) (by omega) (by omega)
    have f : ∀ N : Nat, 4 * (t + 1) + 3 ≤ N → ∀ {p w r c : Int} {I m : jM}, At q a I0 m0 en p w d r c I m → Res s Q q a I0 m0 en (fun _ => True) 3 w d r p m (jrec N 51 a d 0 (hh s Q I)) := fun N hN => by
      obtain ⟨N, rfl⟩ : ∃ k, N = k + 2 := ⟨N - 2, by omega⟩
      exact fac_a X (fun _ => i1 N (by omega)) (fun _ => i2 N (by omega))
    refine ⟨f, fun N hN => ?_⟩
    obtain ⟨N, rfl⟩ : ∃ k, N = k + 2 := ⟨N - 2, by omega⟩
    intro p w r c I m T tp
    exact sum_l (N := N + 1) X T tp (fun T2 tp2 => prod_l (N := N) X T2 tp2 (f N (by omega)))
end FltAll
