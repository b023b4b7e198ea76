/-! making: tryWay, class -/
section WayC2
variable {s : hS} {Q : hQ} {hm : hO} {I J m M : jM} {p b1 b2 : Nat} {w h X Y k kd st q a1 a2 way md : Int} {W G fd V F : Int → Int} {lv : Int → Int → Int}
/-- the pieces of a way -/
def wF (m : jM) (w h X Y k kd a1 a2 md : Int) (G fd : Int → Int) : Int → Int := FP (hwm md kd) w h X Y (Vw md kd fd G) (mG m k) (mG m a1) (mG m a2)
def wL (m : jM) (w h X Y k kd st a1 a2 md : Int) (W G fd : Int → Int) : Int → Int → Int := lvP W (wF m w h X Y k kd a1 a2 md G fd) st
def wM (m : jM) (w h X Y k kd st a1 a2 md : Int) (W G fd : Int → Int) : Int → Int := MdW md (wF m w h X Y k kd a1 a2 md G fd) (wL m w h X Y k kd st a1 a2 md W G fd) st
def wB (m : jM) (w h X Y k kd st a1 a2 way md : Int) (W G fd : Int → Int) : List Int := pB way md (Vw md kd fd G) G (wL m w h X Y k kd st a1 a2 md W G fd)
def wC (m : jM) (w h X Y k kd st a1 a2 way md : Int) (W G fd : Int → Int) : Int := st * st * ((wB m w h X Y k kd st a1 a2 way md W G fd).length : Int) + sqS (fun z => wM m w h X Y k kd st a1 a2 md W G fd z - W z) 96
theorem wF_b (S : PSm s Q I m p b1 b2 w h X Y k kd st q a1 a2 W G fd) (w0 : 0 ≤ way) (w1 : way < jd_262 kd) (hmd : mdW kd way = md) {z : Int} (z0 : 0 ≤ z) (z1 : z < 96) : 0 ≤ wF m w h X Y k kd a1 a2 md G fd z ∧ wF m w h X Y k kd a1 a2 md G fd z ≤ 255 := by
  obtain ⟨-, -, -, ⟨k0, k2, -⟩, -⟩ := id S
  obtain ⟨u1, u2, u3, u4, u5, u6⟩ := mdW_t k0 k2 w0 w1
  rw [hmd] at u1 u2 u5 u6
  refine FP_b S ?_ u5 u6 z0 z1
  clear u3 u4 u5 u6
  unfold hwm
  repeat' split
  all_goals omega
theorem wM_b (S : PSm s Q I m p b1 b2 w h X Y k kd st q a1 a2 W G fd) (w0 : 0 ≤ way) (w1 : way < jd_262 kd) (hmd : mdW kd way = md) {z : Int} (z0 : 0 ≤ z) (z1 : z < 96) : wM m w h X Y k kd st a1 a2 md W G fd z = jd_205 (jw (wF m w h X Y k kd a1 a2 md G fd z + (if md = 0 then 0 else RZ (wL m w h X Y k kd st a1 a2 md W G fd) st z))) 0 255 ∧ 0 ≤ wM m w h X Y k kd st a1 a2 md W G fd z ∧ wM m w h X Y k kd st a1 a2 md W G fd z ≤ 255 := by
  have fb := wF_b S w0 w1 hmd z0 z1
  obtain ⟨-, -, -, ⟨k0, k2, s0, s1⟩, -⟩ := id S
  have rb : -2000000 ≤ RZ (wL m w h X Y k kd st a1 a2 md W G fd) st z ∧ RZ (wL m w h X Y k kd st a1 a2 md W G fd) st z ≤ 2000000 := rsB_b (fun j _ _ => lvP_b s0) (by omega) (by omega) _ _
  unfold wM MdW
  have hb : -10000000 ≤ wF m w h X Y k kd a1 a2 md G fd z + (if md = 0 then 0 else RZ (wL m w h X Y k kd st a1 a2 md W G fd) st z) ∧ wF m w h X Y k kd a1 a2 md G fd z + (if md = 0 then 0 else RZ (wL m w h X Y k kd st a1 a2 md W G fd) st z) ≤ 10000000 := by
    obtain ⟨x, hx⟩ : ∃ x, wF m w h X Y k kd a1 a2 md G fd z = x := ⟨_, rfl⟩
    obtain ⟨y, hy⟩ : ∃ y, RZ (wL m w h X Y k kd st a1 a2 md W G fd) st z = y := ⟨_, rfl⟩
    rw [hx] at fb ⊢
    rw [hy] at rb ⊢
    by_cases c : md = 0
    · rw [if_pos c]
      omega
    · rw [if_neg c]
      omega
  exact held_b hb.1 hb.2
theorem wC_b (S : PSm s Q I m p b1 b2 w h X Y k kd st q a1 a2 W G fd) (w0 : 0 ≤ way) (w1 : way < jd_262 kd) (hmd : mdW kd way = md) : (((wB m w h X Y k kd st a1 a2 way md W G fd).length : Int) ≤ 3400) ∧ (0 ≤ st * st * ((wB m w h X Y k kd st a1 a2 way md W G fd).length : Int) ∧ st * st * ((wB m w h X Y k kd st a1 a2 way md W G fd).length : Int) ≤ 3300000) ∧ 0 ≤ wC m w h X Y k kd st a1 a2 way md W G fd ∧ wC m w h X Y k kd st a1 a2 way md W G fd ≤ 10000000 := by
  have S' := S
  obtain ⟨-, -, -, ⟨k0, k2, s0, s1⟩, -, -, -, -, -, wt, -, gs, -⟩ := id S
  have t7 := (tl_k k0 k2 w0 w1).2.2.2.2
  have len : ((wB m w h X Y k kd st a1 a2 way md W G fd).length : Int) ≤ 3400 := pB_len (fun b j => lvP_b s0) (fun i i0 i1 => by
    have a := Vw_b (md := md) S' i0 i1
    have b := (gs i i0 i1).2
    omega) w0 (by omega)
  have sq : 1 ≤ st * st ∧ st * st ≤ 961 := by
    have : ∀ x : Fin 32, 1 ≤ x.val → 1 ≤ (x.val : Int) * (x.val : Int) ∧ (x.val : Int) * (x.val : Int) ≤ 961 := by decide
    have := this ⟨st.toNat, by omega⟩ (by show 1 ≤ st.toNat; omega)
    dsimp only at this
    rw [show ((st.toNat : Nat) : Int) = st by omega] at this
    exact this
  have sb := sqS_b (D := fun z => wM m w h X Y k kd st a1 a2 md W G fd z - W z) 96 (fun z z0 z1 => by
    have a := (wM_b S' w0 w1 hmd z0 z1).2
    have b := (wt z z0 z1).2
    show -255 ≤ wM m w h X Y k kd st a1 a2 md W G fd z - W z ∧ wM m w h X Y k kd st a1 a2 md W G fd z - W z ≤ 255
    omega)
  unfold wC
  obtain ⟨N, hN⟩ : ∃ N : Int, ((wB m w h X Y k kd st a1 a2 way md W G fd).length : Int) = N := ⟨_, rfl⟩
  have N0 : 0 ≤ N := by rw [← hN]; omega
  obtain ⟨R, hR⟩ : ∃ R, sqS (fun z => wM m w h X Y k kd st a1 a2 md W G fd z - W z) 96 = R := ⟨_, rfl⟩
  rw [hN] at len ⊢
  rw [hR] at sb ⊢
  obtain ⟨z, hz⟩ : ∃ z, st * st = z := ⟨_, rfl⟩
  rw [hz] at sq ⊢
  have p1 := Int.mul_nonneg (show 0 ≤ z by omega) N0
  have p2 := Int.mul_le_mul (a := z) (b := N) (c := 961) (d := 3400) (by omega) len N0 (by decide)
  obtain ⟨P, hP⟩ : ∃ P, z * N = P := ⟨_, rfl⟩
  rw [hP] at p1 p2 ⊢
  clear hP hz hR hN S S' wt gs
  omega
end WayC2
