/-! making: the film's head, both sides -/
section HeadM
variable {s s' : hS} {Q Q' : hQ} {hm hm' : hO} {I I' m : jM} {a pc : Nat} {f len v u w h os cod rt cnt : Int}
theorem BF_6 (h6 : s.1 + 2 < 1000000 + bzR s Q a) (X : BF a f s Q hm I s' Q' hm' I') : s'.1 + 2 < 1000000 + bzR s' Q' a := by
  obtain ⟨-, -, -, -, -, a6, a7, -⟩ := X
  generalize bzR s Q a = z1 at *
  generalize bzR s' Q' a = z2 at *
  omega
/-- the model's rows after one byte -/
def mB1 (m : jM) (len u : Int) : jM := jms (jms m 112 len (jwb u)) 76 47 (len + 1)
theorem mB1_f : (∀ c : Nat, c ≠ 76 → c ≠ 112 → mB1 m len u c = m c) ∧ ∀ y : Int, y ≠ 47 → mB1 m len u 76 y = m 76 y := ⟨fun c c1 c2 => by unfold mB1; rw [jms_o c1, jms_o c2], fun y hy => by unfold mB1; rw [jms_i hy, jms_o (by decide)]⟩
theorem c_24b (L : Lay s Q hm) (B : FBm s Q hm I m a f len) (h6 : s.1 + 2 < 1000000 + bzR s Q a) (l1 : len < 24067) (hv : v % 256 = u % 256) : ∃ (s' : hS) (Q' : hQ) (hm' : hO) (I' : jM), jd_24 a v (hh s Q I) = some (hh s' Q' I') ∧ jd_292 u m = some (mB1 m len u) ∧ Lay s' Q' hm' ∧ FBm s' Q' hm' I' (mB1 m len u) a f (len + 1) ∧ BF a f s Q hm I s' Q' hm' I' ∧ s'.1 + 2 < 1000000 + bzR s' Q' a := by
  obtain ⟨S, R, H, J, e1, e2, e3, e4, e5⟩ := c_24m L B h6 l1 hv
  exact ⟨S, R, H, J, e1, e2, e3, e4, e5, BF_6 h6 e5⟩
theorem BF_p (F : FilmAt s Q hm a f) (P : PicAt s Q hm pc os) (ho : os ≠ 540 + f ∧ os ≠ 500 + f) (X : BF a f s Q hm I s' Q' hm' I') : PicAt s' Q' hm' pc os ∧ I' pc = I pc ∧ I' (pc + 1) = I (pc + 1) := by
  obtain ⟨a1, a2, a3, a4, a5, a6, a7, a8⟩ := X
  have c0 : Ce s hm a 10 0 (500 + f) := F.2.1 0 (by decide)
  obtain ⟨p1, p2, p3, p4⟩ := P
  have n1 : pc ≠ a := fun e => by
    have := p2.2.2.2
    rw [e, c0.2.2.2] at this
    exact ho.2 this.symm
  have n2 : pc + 1 ≠ a := fun e => by
    have := p3.2.2.2
    rw [e, c0.2.2.2] at this
    exact ho.2 this.symm
  obtain ⟨x1, x2, x3⟩ := a3 pc p2.1
  obtain ⟨y1, y2, y3⟩ := a3 (pc + 1) p3.1
  refine ⟨⟨p1, ⟨Nat.lt_of_lt_of_le p2.1 a6, x2.trans p2.2.1, x3.trans p2.2.2.1, x1.trans p2.2.2.2⟩, ⟨Nat.lt_of_lt_of_le p3.1 a6, y2.trans p3.2.1, y3.trans p3.2.2.1, y1.trans p3.2.2.2⟩, by rw [a1 pc p2.1 n1]; exact p4⟩, a4 pc p2.1 n1 (by rw [p2.2.2.2]; exact ho.1), a4 (pc + 1) p3.1 n2 (by rw [p3.2.2.2]; exact ho.1)⟩
end HeadM
