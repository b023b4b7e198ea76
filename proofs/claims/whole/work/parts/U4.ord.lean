/-! cutting: orders of pictures, one behind another -/
section OrdP
variable {K P K' P' S Z Hd B M : Int → Int} {c n T cod len st e k j : Int}
/-- an order of pictures that can be read -/
def OrdK (K P : Int → Int) (c k : Int) : Prop := (0 ≤ K k ∧ K k ≤ 2) ∧ (0 ≤ P k ∧ P k < c) ∧ (∀ j : Int, 0 ≤ j → j < k → P j ≠ P k) ∧ (K k ≠ 2 → 0 ≤ anc K 0 k.toNat → P (anc K 0 k.toNat) < P k) ∧ (K k = 2 → 0 ≤ anc K 0 (anc K 0 k.toNat).toNat ∧ P (anc K 0 (anc K 0 k.toNat).toNat) < P k ∧ P k < P (anc K 0 k.toNat))
def OrdC (K P : Int → Int) (c : Int) : Prop := (0 < c → K 0 = 0) ∧ ∀ k : Int, 0 ≤ k → k < c → OrdK K P c k
theorem OrdC_0 : OrdC K P 0 := ⟨fun h => absurd h (by decide), fun k k0 k1 => absurd k1 (by omega)⟩
theorem OrdC_c (h : ∀ k : Int, 0 ≤ k → k < c → K' k = K k ∧ P' k = P k) (O : OrdC K P c) : OrdC K' P' c := by
  obtain ⟨o1, o2⟩ := O
  refine ⟨fun c0 => by rw [(h 0 (Int.le_refl _) c0).1]; exact o1 c0, fun k k0 k1 => ?_⟩
  obtain ⟨a1, a2, a3, a4, a5⟩ := o2 k k0 k1
  have e1 : ∀ t : Nat, (t : Int) ≤ c → anc K' 0 t = anc K 0 t := fun t ht => anc_c (fun i i0 i1 => (h i i0 (by omega)).1)
  have r1 := anc_r (K := K) (fr := 0) k.toNat
  have r2 := anc_r (K := K) (fr := 0) (anc K 0 k.toNat).toNat
  unfold OrdK
  rw [(h k k0 k1).1, (h k k0 k1).2, e1 k.toNat (by omega), e1 (anc K 0 k.toNat).toNat (by omega)]
  refine ⟨a1, a2, fun j j0 j1 => by rw [(h j j0 (by omega)).2]; exact a3 j j0 j1, fun y1 y2 => ?_, fun y1 => ?_⟩
  · rw [(h _ y2 (by omega)).2]
    exact a4 y1 y2
  · obtain ⟨b1, b2, b3⟩ := a5 y1
    have b0 : 0 ≤ anc K 0 k.toNat := by
      by_cases cc : 0 ≤ anc K 0 k.toNat
      · exact cc
      · rw [show (anc K 0 k.toNat).toNat = 0 by omega, anc_0] at b1
        omega
    rw [(h _ b1 (by omega)).2, (h _ b0 (by omega)).2]
    exact ⟨b1, b2, b3⟩
theorem OrdC_app (c0 : 0 ≤ c) (n1 : 1 ≤ n) (O : OrdC K P c) (O' : OrdC K' P' n) (h : ∀ j : Int, 0 ≤ j → j < n → K (c + j) = K' j ∧ P (c + j) = c + P' j) : OrdC K P (c + n) := by
  obtain ⟨o1, o2⟩ := O
  obtain ⟨p1, p2⟩ := O'
  have k0' : K' 0 = 0 := p1 (by omega)
  have kc : K c = 0 := by
    have := (h 0 (Int.le_refl _) (by omega)).1
    rw [Int.add_zero] at this
    rw [this, k0']
  obtain ⟨g, hg⟩ : ∃ g : Nat, (g : Int) = c := ⟨c.toNat, by omega⟩
  have kg : K (g : Int) ≠ 2 := by rw [hg, kc]; decide
  have sh : ∀ t : Nat, 0 < t → (t : Int) ≤ n → anc K 0 (g + t) = c + anc K' 0 t := fun t t0 t1 => by
    rw [anc_sh kg t t0, hg]
    have : anc (fun j => K (c + j)) 0 t = anc K' 0 t := anc_c (fun j j0 j1 => (h j j0 (by omega)).1)
    rw [this]
  refine ⟨fun _ => ?_, fun k k0 k1 => ?_⟩
  · by_cases cc : 0 < c
    · exact o1 cc
    · have c0' : c = 0 := by omega
      rw [c0'] at kc
      exact kc
  · by_cases cc : k < c
    · obtain ⟨a1, a2, a3⟩ := o2 k k0 cc
      exact ⟨a1, ⟨a2.1, by omega⟩, a3⟩
    · obtain ⟨t, ht⟩ : ∃ t : Nat, k = c + (t : Int) := ⟨(k - c).toNat, by omega⟩
      have tn : (t : Int) < n := by omega
      obtain ⟨a1, a2, a3, a4, a5⟩ := p2 (t : Int) (by omega) tn
      obtain ⟨e1, e2⟩ := h (t : Int) (by omega) tn
      rw [show ((t : Int)).toNat = t by omega] at a4 a5
      have kt : k.toNat = g + t := by omega
      unfold OrdK
      rw [kt, ht, e1, e2]
      refine ⟨a1, by omega, fun j j0 j1 => ?_, fun y1 y2 => ?_, fun y1 => ?_⟩
      · by_cases cj : j < c
        · have := (o2 j j0 cj).2.1
          omega
        · have q := (h (j - c) (by omega) (by omega)).2
          rw [show c + (j - c) = j by omega] at q
          have := a3 (j - c) (by omega) (by omega)
          omega
      · by_cases ct : t = 0
        · have r := anc_r (K := K) (fr := 0) (g + t)
          have := (o2 _ y2 (by omega)).2.1
          omega
        · have z := anc_ge (K := K') (by rw [k0']; decide) (n := t) (by omega)
          have r := anc_r (K := K') (fr := 0) t
          rw [sh t (by omega) (by omega), (h _ z (by omega)).2]
          have := a4 y1 z
          omega
      · obtain ⟨b1, b2, b3⟩ := a5 y1
        have ct : 0 < t := by
          by_cases ct : t = 0
          · rw [ct] at y1
            have : K' 0 = 2 := y1
            omega
          · omega
        have z := anc_ge (K := K') (by rw [k0']; decide) (n := t) (by omega)
        have r := anc_r (K := K') (fr := 0) t
        obtain ⟨u, hu⟩ : ∃ u, anc K' 0 t = u := ⟨_, rfl⟩
        rw [hu] at b1 b2 b3 z r
        have cu : 0 < u.toNat := by
          by_cases cu : u.toNat = 0
          · rw [cu, anc_0] at b1
            omega
          · omega
        have r2 := anc_r (K := K') (fr := 0) u.toNat
        rw [sh t ct (by omega), hu, show (c + u).toNat = g + u.toNat by omega, sh u.toNat cu (by omega), (h _ b1 (by omega)).2, (h u z (by omega)).2]
        omega
theorem OrdC_LG (n1 : 1 ≤ n) (L : LG M S n n) : OrdC M S n := by
  refine ⟨fun _ => L.1, fun k k0 k1 => ?_⟩
  obtain ⟨a1, a2, a3, a4⟩ := LG_k L k0 k1
  obtain ⟨b1, b2, b3⟩ := LG_o L k0 k1
  refine ⟨⟨a1, a2⟩, ⟨a3, a4⟩, b1, fun y1 y2 => ?_, fun y1 => ?_⟩
  · by_cases ck : k = 0
    · rw [ck] at y2
      have : anc M 0 (0 : Int).toNat = -1 := anc_0
      omega
    · exact (b3 y1 (by omega)).2
  · obtain ⟨c1, c2, c3, c4⟩ := b2 y1
    exact ⟨c1, c3, c4⟩
/-- a picture that begins a group -/
def Bgn (K P : Int → Int) (T k : Int) : Prop := K k = 0 ∧ ∀ j : Int, k < j → j < T → P k < P j
theorem PV_up (V : PV cod T K P S Z Hd len B) : ∀ (n : Nat), (n : Int) < T → K (n : Int) ≠ 2 → ∀ j : Int, 0 ≤ j → j < (n : Int) → P j < P (n : Int) := by
  intro n
  induction n using Nat.strongRecOn with
  | ind n ih =>
    intro nT kn j j0 j1
    have k0 : K 0 ≠ 2 := by rw [V.2.2.2.2.2.1]; decide
    obtain ⟨-, -, -, -, -, -, -, -, -, w1, -, -⟩ := V.2.2.2.2.2.2.2 (n : Int) (by omega) nT
    rw [show ((n : Int)).toNat = n by omega] at w1
    have u0 := anc_ge k0 (n := n) (by omega)
    have ur := anc_r (K := K) (fr := 0) n
    have uk := (anc_k (K := K) (fr := 0) n u0).1
    have lt := w1 kn u0
    obtain ⟨u, hu⟩ : ∃ u, anc K 0 n = u := ⟨_, rfl⟩
    have a2 := fun (y : Int) (y0 : 0 ≤ y) => anc_2 (K := K) y0 n
    rw [hu] at u0 ur uk lt a2
    by_cases cj : j < u
    · have := ih u.toNat (by omega) (by omega) (by rw [show ((u.toNat : Nat) : Int) = u by omega]; exact uk) j j0 (by omega)
      rw [show ((u.toNat : Nat) : Int) = u by omega] at this
      omega
    · by_cases ej : j = u
      · rw [ej]
        exact lt
      · have kj := a2 j j0 (by omega) j1
        obtain ⟨-, -, -, -, -, -, -, -, -, -, w2, -⟩ := V.2.2.2.2.2.2.2 j j0 (by omega)
        obtain ⟨-, -, w3⟩ := w2 kj
        have v0 := anc_ge k0 (n := j.toNat) (by omega)
        have vr := anc_r (K := K) (fr := 0) j.toNat
        have vk := (anc_k (K := K) (fr := 0) j.toNat v0).1
        have v2 := anc_2 (K := K) (y := u) u0 j.toNat
        obtain ⟨v, hv⟩ : ∃ v, anc K 0 j.toNat = v := ⟨_, rfl⟩
        rw [hv] at v0 vr vk v2 w3
        have e : v = u := by
          by_cases c1 : v < u
          · exact absurd (v2 c1 (by omega)) uk
          · by_cases c2 : u < v
            · exact absurd (a2 v v0 c2 (by omega)) vk
            · omega
        rw [e] at w3
        omega
theorem pgn : ∀ (n : Nat) (h : Int) (P : Int → Int), (∀ j : Int, 0 ≤ j → j < (n : Int) → 0 ≤ P j ∧ P j < h) → (∀ i j : Int, 0 ≤ i → i < j → j < (n : Int) → P i ≠ P j) → (n = 0 ∨ (n : Int) ≤ h)
  | 0, _, _, _, _ => Or.inl rfl
  | n + 1, h, P, b, d => by
    right
    have bn := b (n : Int) (by omega) (by omega)
    rcases pgn n (h - 1) (fun j => if P (n : Int) < P j then P j - 1 else P j) (fun j j0 j1 => by
      have := b j j0 (by omega)
      have := d j (n : Int) j0 j1 (by omega)
      by_cases c : P (n : Int) < P j
      · rw [if_pos c]; omega
      · rw [if_neg c]; omega) (fun i j i0 ij j1 => by
      have := d i j i0 ij (by omega)
      have := d i (n : Int) i0 (by omega) (by omega)
      have := d j (n : Int) (by omega) j1 (by omega)
      by_cases c : P (n : Int) < P i
      · rw [if_pos c]
        by_cases c' : P (n : Int) < P j
        · rw [if_pos c']; omega
        · rw [if_neg c']; omega
      · rw [if_neg c]
        by_cases c' : P (n : Int) < P j
        · rw [if_pos c']; omega
        · rw [if_neg c']; omega) with e | e
    · omega
    · omega
theorem PV_dj (V : PV cod T K P S Z Hd len B) {i j : Int} (i0 : 0 ≤ i) (ij : i < j) (j1 : j < T) : P i ≠ P j := (V.2.2.2.2.2.2.2 j (by omega) j1).2.2.2.2.2.2.2.2.1 i i0 ij
theorem PV_bd (V : PV cod T K P S Z Hd len B) {j : Int} (j0 : 0 ≤ j) (j1 : j < T) : 0 ≤ P j ∧ P j < T := (V.2.2.2.2.2.2.2 j j0 j1).2.1
/-- a group's first picture lies where it stands -/
theorem Bgn_p (V : PV cod T K P S Z Hd len B) (k0 : 0 ≤ k) (k1 : k < T) (G : Bgn K P T k) : P k = k ∧ ∀ j : Int, 0 ≤ j → j < k → P j < k := by
  obtain ⟨g1, g2⟩ := G
  have up := PV_up V k.toNat (by omega)
  rw [show ((k.toNat : Nat) : Int) = k by omega] at up
  have up' := up (by rw [g1]; decide)
  have h1 := pgn k.toNat (P k) P (fun j j0 j1 => ⟨(PV_bd V j0 (by omega)).1, up' j j0 (by omega)⟩) (fun i j i0 ij j1 => PV_dj V i0 ij (by omega))
  have h2 := pgn (T - 1 - k).toNat (T - 1 - P k) (fun j => P (k + 1 + j) - (P k + 1)) (fun j j0 j1 => by
    have := g2 (k + 1 + j) (by omega) (by omega)
    have := PV_bd V (j := k + 1 + j) (by omega) (by omega)
    omega) (fun i j i0 ij j1 => by
    have := PV_dj V (i := k + 1 + i) (j := k + 1 + j) (by omega) (by omega) (by omega)
    omega)
  have b := PV_bd V k0 k1
  have e : P k = k := by omega
  exact ⟨e, fun j j0 j1 => by rw [← e]; exact up' j j0 j1⟩
theorem Bgn_0 (V : PV cod T K P S Z Hd len B) : Bgn K P T 0 := by
  have k0 : K 0 = 0 := V.2.2.2.2.2.1
  have nz : ∀ u : Int, 0 < u → u < T → K u ≠ 2 → P 0 < P u := fun u u0 u1 hu => by
    have := PV_up V u.toNat (by omega)
    rw [show ((u.toNat : Nat) : Int) = u by omega] at this
    exact this hu 0 (Int.le_refl _) u0
  refine ⟨k0, fun j j0 j1 => ?_⟩
  by_cases c : K j = 2
  · obtain ⟨-, -, -, -, -, -, -, -, -, -, w2, -⟩ := V.2.2.2.2.2.2.2 j (by omega) j1
    obtain ⟨w3, w4, -⟩ := w2 c
    have r1 := anc_r (K := K) (fr := 0) j.toNat
    have r2 := anc_r (K := K) (fr := 0) (anc K 0 j.toNat).toNat
    have uk := (anc_k (K := K) (fr := 0) _ w3).1
    obtain ⟨u, hu⟩ : ∃ u, anc K 0 (anc K 0 j.toNat).toNat = u := ⟨_, rfl⟩
    rw [hu] at w3 w4 r2 uk
    by_cases cu : u = 0
    · rw [← cu]; exact w4
    · have := nz u (by omega) (by omega) uk
      omega
  · exact nz j j0 j1 c
theorem gpb (V : PV cod T K P S Z Hd len B) (s0 : 0 ≤ st) (se : st < e) (eT : e ≤ T) (G : Bgn K P T st) (G' : e = T ∨ Bgn K P T e) (j0 : st ≤ j) (j1 : j < e) : st ≤ P j ∧ P j < e := by
  have b1 := (Bgn_p V s0 (by omega) G).1
  have b2 : P j < e := by
    rcases G' with h | h
    · rw [h]
      exact (PV_bd V (by omega) (by omega)).2
    · by_cases ce : e = T
      · rw [ce]
        exact (PV_bd V (by omega) (by omega)).2
      · exact (Bgn_p V (by omega) (by omega) h).2 j (by omega) j1
  refine ⟨?_, b2⟩
  by_cases cj : j = st
  · rw [cj, b1]
    exact Int.le_refl _
  · have := G.2 j (by omega) (by omega)
    omega
/-- a kept group's order, by itself -/
theorem OrdC_kp (V : PV cod T K P S Z Hd len B) (s0 : 0 ≤ st) (se : st < e) (eT : e ≤ T) (G : Bgn K P T st) (G' : e = T ∨ Bgn K P T e) : OrdC (fun j => K (st + j)) (fun j => P (st + j) - st) (e - st) := by
  obtain ⟨g, hg⟩ : ∃ g : Nat, (g : Int) = st := ⟨st.toNat, by omega⟩
  have ks : K st = 0 := G.1
  have kg : K (g : Int) ≠ 2 := by rw [hg, ks]; decide
  have k0' : (fun j => K (st + j)) 0 = 0 := by
    show K (st + 0) = 0
    rw [Int.add_zero]
    exact ks
  have sh : ∀ t : Nat, 0 < t → anc K 0 (g + t) = st + anc (fun j => K (st + j)) 0 t := fun t t0 => by rw [anc_sh kg t t0, hg]
  refine ⟨fun _ => k0', fun k k0 k1 => ?_⟩
  obtain ⟨t, ht⟩ : ∃ t : Nat, k = (t : Int) := ⟨k.toNat, by omega⟩
  subst ht
  have b := fun (y : Int) (y0 : 0 ≤ y) (y1 : y < e - st) => gpb V s0 se eT G G' (j := st + y) (by omega) (by omega)
  obtain ⟨w0, -, -, -, -, -, -, -, w1, w2, w3, -⟩ := V.2.2.2.2.2.2.2 (st + (t : Int)) (by omega) (by omega)
  rw [show (st + (t : Int)).toNat = g + t by omega] at w2 w3
  have bt := b (t : Int) (by omega) k1
  have z := fun (t0 : 0 < t) => anc_ge (K := fun j => K (st + j)) (by show K (st + 0) ≠ 2; rw [Int.add_zero, ks]; decide) (n := t) (by omega)
  have r := anc_r (K := fun j => K (st + j)) (fr := 0) t
  have sht := sh t
  unfold OrdK
  dsimp only
  rw [show ((t : Int)).toNat = t by omega]
  obtain ⟨u, hu⟩ : ∃ u, anc (fun j => K (st + j)) 0 t = u := ⟨_, rfl⟩
  rw [hu] at z r sht ⊢
  refine ⟨w0, ⟨by omega, by omega⟩, fun j j0 j1 => ?_, fun y1 y2 => ?_, fun y1 => ?_⟩
  · have := w1 (st + j) (by omega) (by omega)
    omega
  · have t0 : 0 < t := by omega
    rw [sht t0] at w2
    have := w2 y1 (by omega)
    omega
  · have t0 : 0 < t := by
      by_cases c : t = 0
      · rw [c] at y1
        have : K (st + 0) = 2 := y1
        rw [Int.add_zero, ks] at this
        exact absurd this (by decide)
      · omega
    have z' := z t0
    rw [sht t0] at w3
    obtain ⟨x1, x2, x3⟩ := w3 y1
    have u0 : 0 < u.toNat := by
      by_cases c : u = 0
      · rw [c, Int.add_zero] at x3
        have := (Bgn_p V s0 (by omega) G).1
        omega
      · omega
    have shu := sh u.toNat u0
    rw [show (st + u).toNat = g + u.toNat by omega, shu] at x1 x2
    have r2 := anc_f (K := fun j => K (st + j)) (fr := 0) u.toNat
    have zu := anc_ge (K := fun j => K (st + j)) (by show K (st + 0) ≠ 2; rw [Int.add_zero, ks]; decide) (n := u.toNat) (by omega)
    exact ⟨zu, by omega, by omega⟩
theorem OrdC_ok (O : OrdC K P T) (t : Nat) (ht : (t : Int) < T) : kdOk K P T 0 t (K (t : Int)) ∧ plOk K P T t (K (t : Int)) (P (t : Int)) := by
  obtain ⟨a1, a2, a3, a4, a5⟩ := O.2 (t : Int) (by omega) ht
  rw [show ((t : Int)).toNat = t by omega] at a4 a5
  have pl : plOk K P T t (K (t : Int)) (P (t : Int)) := by
    refine ⟨a2, ?_, fun e => ?_, fun e => ?_⟩
    · rintro ⟨y, y0, y1, y2⟩
      exact a3 y y0 y1 y2
    · obtain ⟨b1, b2, b3⟩ := a5 e
      exact ⟨b2, b3⟩
    · by_cases c : 0 ≤ anc K 0 t
      · exact Or.inr (a4 e c)
      · have := anc_r (K := K) (fr := 0) t
        left
        omega
  refine ⟨⟨a1.1, a1.2, fun e => ?_, fun e => absurd e (by decide), fun e => absurd e (by decide), fun e => ?_, ⟨_, pl⟩⟩, pl⟩
  · rw [e]
    exact O.1 (by omega)
  · obtain ⟨b1, -, -⟩ := a5 e
    omega
end OrdP
