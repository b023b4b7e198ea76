def mm_sr : List (Nat × String) := [(87, "no such size"), (432, "no sample"), (451, "there are 60 pictures"), (438, "no such picture"), (436, "no such plane"), (114, "a side below 0"), (139, "no such amount"), (148, "too far"), (449, "no such sample"), (434, "another what"), (167, "a number below 0"), (171, "not 1 to 8 bytes"), (175, "the tape is full"), (180, "no such byte"), (189, "beyond the setting"), (195, "of another size"), (197, "the reel is full"), (204, "no such coding, or no reel"), (455, "there are 8 films"), (453, "no such film"), (299, "a film without parts"), (445, "no such part"), (440, "no such place"), (318, "no such buffer"), (323, "not to be cut so"), (325, "the list is full"), (348, "there are 8 filters"), (355, "no such filter"), (361, "of two sizes"), (370, "nothing is shown ahead"), (471, "no such player"), (380, "no such speed or fill"), (447, "it has no film"), (430, "nothing was shown")]
def mm_ns : List (String × Nat × MethodName) := [(mm_ow 11, 68, yX8_init), (mm_ow 8, 11, yX0_init), (mm_ow 8, 20, yX5_init), (mm_ow 8, 27, yX10_init), (mm_ow 8, 34, yX9_init), (mm_ow 8, 41, yX2_init), (mm_ow 11, 75, yX4_init), (mm_ow 4, 11, yX0_init), (mm_ow 4, 20, yX1_init), (mm_ow 1, 11, yX5_init), (mm_ow 1, 20, yX0_init), (mm_ow 4, 27, yX10_init), (mm_ow 4, 34, yX9_init), (mm_ow 11, 80, yX7_init), (mm_ow 11, 199, yX6_init), (mm_ow 11, 457, yX2_init), (mm_ow 2, 97, yX6_init), (mm_ow 5, 142, yX11_held), (mm_ow 10, 41, yX11_held), (mm_ow 11, 350, yX3_init), (mm_ow 7, 51, yX6_init)]
def mm_dy : List MethodName := [⟨"java/lang/RuntimeException", "<init>", "()V"⟩, ⟨"java/lang/RuntimeException", "<init>", "(Ljava/lang/String;)V"⟩, ⟨"java/lang/Exception", "<init>", "()V"⟩, ⟨"java/lang/Exception", "<init>", "(Ljava/lang/String;)V"⟩, ⟨"java/lang/Throwable", "<init>", "()V"⟩, ⟨"java/lang/Throwable", "<init>", "(Ljava/lang/String;)V"⟩]
def mm_xn : Nat → String := fun k => match k with
  | 0 => "java/lang/IllegalArgumentException"
  | 1 => "java/lang/IllegalStateException"
  | _ => "java/lang/IndexOutOfBoundsException"
/-- all that the mini machine asks of a state -/
def mm_K2 (D : va_G) (cy : Nat → ClassId) (X : Nat → Nat) (B : Nat) (xt : Nat → Nat × (Nat → Int32)) (s : State) : Prop :=
  mm_K D cy X B xt s ∧ (vx_Zq Bundle.tN "UNASSIGNED_STACK" Bundle.steD (mm_A B) s s.heap ∧ vx_Zq Bundle.tN "SUPPRESSED_SENTINEL" Bundle.listD (mm_A B) s s.heap) ∧
  (∀ q ∈ mm_sr, ∃ sa, vk_R RX11 q.1 q.2 sa s) ∧ (∀ q ∈ mm_ns, va_Nw (.methodLinkNest q.1 q.2.1 q.2.2 RX11) s) ∧ (∀ y ∈ mm_dy, va_Nw (.declares y) s) ∧
  (∀ k, k < 3 → va_Nw (.castable (mm_xn k) (mm_xn k)) s) ∧ (∀ k j, k < 3 → j < 3 → k ≠ j → va_Nc (mm_xn k) (mm_xn j) s)
theorem mm_K_mv {D : va_G} {cy : Nat → ClassId} {X : Nat → Nat} {B : Nat} {xt : Nat → Nat × (Nat → Int32)} {s U : State} (hvm : s.vm.Alike U.vm) (h1 : s.heap.size ≤ U.heap.size) (h2 : ∀ q : Nat, q < s.heap.size → ¬ mm_A B q → U.heap[q]? = s.heap[q]?) (hK : mm_K D cy X B xt s) : mm_K D cy X B xt U := by
  obtain ⟨k1, k2, ⟨k3, k4⟩, k5, k6⟩ := hK
  have hq : ∀ a : Nat, a < s.heap.size → ¬ mm_A B a → U.heap[a]? = s.heap[a]? := h2
  refine ⟨va_K.moved hvm k1, Nat.le_trans k2 h1, ⟨va_X.moved hvm (k3.kept (h2 _ (Nat.lt_of_lt_of_le k4 k2) (fun q => absurd k4 (Nat.not_lt.mpr q)))), k4⟩, fun j hj1 hj2 => ?_, fun k hk1 hk2 => va_AO.moved hvm (k6 k hk1 hk2)⟩
  obtain ⟨z1, z2⟩ := k5 j hj1 hj2
  exact ⟨va_Z.moved hvm (z1.kept hq), va_T.moved hvm (z2.kept hq)⟩
theorem mm_K2_mv {D : va_G} {cy : Nat → ClassId} {X : Nat → Nat} {B : Nat} {xt : Nat → Nat × (Nat → Int32)} {s U : State} (hW : s.WarmedH U.vm) (h1 : s.heap.size ≤ U.heap.size) (h2 : ∀ q : Nat, q < s.heap.size → ¬ mm_A B q → U.heap[q]? = s.heap[q]?) (hK : mm_K2 D cy X B xt s) : mm_K2 D cy X B xt U := by
  obtain ⟨k1, ⟨k2, k3⟩, k4, k5, k6, k7, k8⟩ := hK
  have hvm := hW.alike
  refine ⟨mm_K_mv hvm h1 h2 k1, ⟨vx_Zq.moved hvm (k2.kept h2), vx_Zq.moved hvm (k3.kept h2)⟩, fun q hq => ?_, fun q hq => va_Nw.warmM hW (k5 q hq), fun y hy => va_Nw.warmD hW (k6 y hy), fun k hk => va_Nw.warmC hW (k7 k hk), fun k j hk hj hn => va_Nc.moved hvm (k8 k j hk hj hn)⟩
  obtain ⟨sa, hs⟩ := k4 q hq
  exact ⟨sa, vk_R.warm hW hs⟩
