/-! making: what is wanted, in the model; what stands ahead of a part -/
section PrepM
variable {s : hS} {Q : hQ} {hm : hO} {I m m' : jM} {p b1 b2 src : Nat} {w h X Y k kd st q a1 a2 n rc : Int} {W : Int → Int}
theorem k_279 {pl x y : Int} (sw : isSd w) (sh : isSd h) (m3 : m' 76 33 = w) (e103 : m' 103 = m 103) (e121 : m' 121 = m 121) (kk0 : 0 ≤ k) (kk1 : k < 12) (c0 : 0 ≤ m 103 k) (c1 : m 103 k < 12) (p0 : 0 ≤ pl) (p2 : pl ≤ 2) (x0 : 0 ≤ x) (x1 : x < pw w pl) (y0 : 0 ≤ y) (y1 : y < pw h pl) : jd_279 k pl x y m' = some (m 121 (864 * m 103 k + (pf pl + (y * pw w pl + x)))) := by
  have ok : okI pl := by unfold okI; omega
  have ps := pl_sz sw sh p0 p2
  have d := dm_b (W := pw w pl) (H := pw h pl) y0 y1 x0 x1
  have e7 : jd_207 pl = pf pl := by
    have : pl = 0 ∨ pl = 1 ∨ pl = 2 := by omega
    rcases this with rfl | rfl | rfl <;> rfl
  have e6 : jd_206 w pl = pw w pl := by
    unfold jd_206 pw
    rw [n_jw (z := pl) (by omega) (by omega), n_div (z := w) (by rcases sw with rfl | rfl | rfl <;> decide) (by rcases sw with rfl | rfl | rfl <;> decide) (by decide) (by decide)]
  obtain ⟨e, he⟩ : ∃ e, y * pw w pl + x = e := ⟨_, rfl⟩
  unfold jd_279
  rw [y_ma 103 12 rfl rfl kk0 (by omega), Option.bind_some, m3, e6, e7, e103, show 864 * m 103 k + pf pl + y * pw w pl + x = 864 * m 103 k + (pf pl + (y * pw w pl + x)) by omega, he]
  rw [he] at d
  rw [y_ma 121 10368 rfl rfl (by omega) (by omega), Option.bind_some, e121]
/-- what is wanted, by the model -/
def wS (m : jM) (k w X Y z : Int) : Int := m 121 (864 * m 103 k + (pf (plz z) + ((Y * sdOf (plz z) + (z - ppb (plz z)) / sdOf (plz z)) * pw w (plz z) + (X * sdOf (plz z) + (z - ppb (plz z)) % sdOf (plz z)))))
theorem wS_v {pl r c : Int} (p0 : 0 ≤ pl) (p2 : pl ≤ 2) (r0 : 0 ≤ r) (r1 : r < sdOf pl) (c0 : 0 ≤ c) (c1 : c < sdOf pl) : wS m k w X Y (ppb pl + (r * sdOf pl + c)) = m 121 (864 * m 103 k + (pf pl + ((Y * sdOf pl + r) * pw w pl + (X * sdOf pl + c)))) := by
  obtain ⟨e1, e2, e3, -⟩ := plz_v p0 p2 r0 r1 c0 c1
  unfold wS
  rw [e1, e2, e3]
theorem src_p (sw : isSd w) (sh : isSd h) (mw : m 76 33 = w) (kk0 : 0 ≤ k) (kk1 : k < 12) (c0 : 0 ≤ m 103 k) (c1 : m 103 k < 12) (hX : q % (w / 8) = X) (hY : q / (w / 8) = Y) (q0 : 0 ≤ q) (q1 : q < w / 8 * (h / 8)) (sb : ∀ pl j : Int, 0 ≤ pl → pl ≤ 2 → 0 ≤ j → j < pw w pl * pw h pl → 0 ≤ m 121 (864 * m 103 k + (pf pl + j)) ∧ m 121 (864 * m 103 k + (pf pl + j)) ≤ 255) : SrcP m k q (wS m k w X Y) ∧ SrcQ m k X Y (wS m k w X Y) := by
  have mr := mm_r sw sh q0 q1
  rw [hX, hY] at mr
  refine ⟨⟨fun m' z1 z2 z3 pl i p0 p2 i0 i1 => ?_, fun z z0 z1 => ?_⟩, fun m' z1 z2 z3 z x0 x1 => ?_⟩
  · have ok : okI pl := by unfold okI; omega
    have pp := ppb_b p0 p2
    have rx := pt_r sw p0 p2 mr.1 mr.2.1
    have ry := pt_r sh p0 p2 mr.2.2.1 mr.2.2.2.1
    have t := k_245 (m := m') (mm := q) sw (z1.trans mw) q0 (by omega)
    rw [hX, hY] at t
    have sd48 : sdOf pl = 8 ∨ sdOf pl = 4 := pp.2.2
    have nz : jnz (sdOf pl) = some () := by rcases sd48 with e | e <;> rw [e] <;> rfl
    have i64 : i < 64 := by
      rcases sd48 with e | e <;> rw [e] at i1 <;> omega
    have er : jrem i (sdOf pl) = i % sdOf pl := n_rem i0 (by omega) (by omega) (by omega)
    have ed : jdiv i (sdOf pl) = i / sdOf pl := n_div i0 (by omega) (by omega) (by omega)
    have rb : 0 ≤ i / sdOf pl ∧ i / sdOf pl < sdOf pl ∧ 0 ≤ i % sdOf pl ∧ i % sdOf pl < sdOf pl ∧ i = i / sdOf pl * sdOf pl + i % sdOf pl := by
      rcases sd48 with e | e <;> rw [e] at i1 ⊢ <;> omega
    obtain ⟨r, hr⟩ : ∃ r, i / sdOf pl = r := ⟨_, rfl⟩
    obtain ⟨c, hc⟩ : ∃ c, i % sdOf pl = c := ⟨_, rfl⟩
    rw [hr] at rb ed
    rw [hc] at rb er
    have e279 := k_279 (m := m) (m' := m') (w := w) (h := h) (k := k) (pl := pl) (x := sdOf pl * X + c) (y := sdOf pl * Y + r) sw sh (z1.trans mw) z2 z3 kk0 kk1 c0 c1 p0 p2 (by rw [Int.mul_comm]; omega) (by rw [Int.mul_comm]; omega) (by rw [Int.mul_comm]; omega) (by rw [Int.mul_comm]; omega)
    unfold jd_280
    rw [t.1, Option.bind_some, k_243 ok, nz, Option.bind_some, t.2, Option.bind_some, er, ed, Option.bind_some, e279, Option.bind_some]
    congr 1
    rw [rb.2.2.2.2, wS_v p0 p2 rb.1 rb.2.1 rb.2.2.1 rb.2.2.2.1, Int.mul_comm (sdOf pl) Y, Int.mul_comm (sdOf pl) X]
  · obtain ⟨pl, r, c, p0, p2, r0, r1, c0', c1', rfl⟩ := pl_cell z0 z1
    have rx := pt_r sw p0 p2 mr.1 mr.2.1
    have ry := pt_r sh p0 p2 mr.2.2.1 mr.2.2.2.1
    have d := dm_b (W := pw w pl) (H := pw h pl) (r := Y * sdOf pl + r) (c := X * sdOf pl + c) (by omega) (by omega) (by omega) (by omega)
    rw [wS_v p0 p2 r0 r1 c0' c1']
    exact sb pl _ p0 p2 d.1 d.2
  · have rx := pt_r (p := 0) sw (by decide) (by decide) mr.1 mr.2.1
    have ry := pt_r (p := 0) sh (by decide) (by decide) mr.2.2.1 mr.2.2.2.1
    have sd0 : sdOf 0 = 8 := rfl
    rw [sd0] at rx ry
    have e279 := k_279 (m := m) (m' := m') (w := w) (h := h) (k := k) (pl := 0) (x := 8 * X + z % 8) (y := 8 * Y + z / 8) sw sh (z1.trans mw) z2 z3 kk0 kk1 c0 c1 (by decide) (by decide) (by omega) (by omega) (by omega) (by omega)
    rw [e279]
    congr 1
    have v := wS_v (m := m) (k := k) (w := w) (X := X) (Y := Y) (pl := 0) (r := z / 8) (c := z % 8) (by decide) (by decide) (by omega) (by show z / 8 < 8; omega) (by omega) (by show z % 8 < 8; omega)
    have ez : ppb 0 + (z / 8 * sdOf 0 + z % 8) = z := by
      show 0 + (z / 8 * 8 + z % 8) = z
      omega
    rw [ez, sd0] at v
    rw [v, Int.mul_comm Y 8, Int.mul_comm X 8]
/-- what stands ahead of part q of a picture that is made -/
def MP (s : hS) (Q : hQ) (I m : jM) (p b1 b2 src : Nat) (w h k kd st q a1 a2 n rc : Int) : Prop := (PcC s Q p ∧ Q 45 2 = some p) ∧ (I p 0 = w ∧ I p 1 = h ∧ isSd w ∧ isSd h) ∧ (I 45 0 = kd ∧ I 45 1 = st) ∧ (0 ≤ kd ∧ kd ≤ 2 ∧ 1 ≤ st ∧ st ≤ 31) ∧ (m 76 33 = w ∧ m 76 34 = h ∧ m 102 k = kd ∧ 0 ≤ k ∧ k < 12) ∧ PrtE p w h k q I m ∧ (kd ≠ 0 → (Q 45 3 = some b1 ∧ RfE s Q I m b1 w h a1 ∧ ∀ m' : jM, m' 76 36 = m 76 36 → m' 102 = m 102 → jd_239 k (if kd = 2 then 2 else 1) m' = some a1) ∧ b1 ≠ p ∧ a1 ≠ k) ∧ (kd = 2 → (Q 45 4 = some b2 ∧ RfE s Q I m b2 w h a2 ∧ ∀ m' : jM, m' 76 36 = m 76 36 → m' 102 = m 102 → jd_239 k 1 m' = some a2) ∧ b2 ≠ p ∧ a2 ≠ k) ∧ (PcC s Q src ∧ I src 0 = w ∧ I src 1 = h ∧ src ≠ p ∧ 0 ≤ m 103 k ∧ m 103 k < 12 ∧ ∀ pl j : Int, 0 ≤ pl → pl ≤ 2 → 0 ≤ j → j < pw w pl * pw h pl → I (src + 1) (pb w h pl + j) = m 121 (864 * m 103 k + (pf pl + j)) ∧ 0 ≤ m 121 (864 * m 103 k + (pf pl + j)) ∧ m 121 (864 * m 103 k + (pf pl + j)) ≤ 255) ∧ (0 < q → ∀ i : Int, 0 ≤ i → i < 4 → I 50 i = m 111 (63 * k + 7 * (q - 1) + (i + 1)) ∧ -8 ≤ I 50 i ∧ I 50 i ≤ 8) ∧ (WX s Q 43 I n (m 113) ∧ m 76 53 = n ∧ n ≤ 3400 * q ∧ WT Q 43) ∧ m 82 3 = rc ∧ 0 ≤ rc ∧ rc ≤ 8
end PrepM
