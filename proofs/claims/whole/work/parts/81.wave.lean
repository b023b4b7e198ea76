/-! rows written by loops; a line lowered -/
def wf (ix : Int → Int) (v : Int → (Int → Int) → Int) (g : Int → Int) : Nat → Int → Int
  | 0 => g
  | n + 1 => jiu (wf ix v g n) (ix n) (v n (wf ix v g n))
section Wf
variable {ix : Int → Int} {v v' : Int → (Int → Int) → Int} {g : Int → Int} {n k : Nat} {j : Int} {s : hS} {Q : hQ} {J m : jM} {a : Nat}
theorem wf_0 : wf ix v g 0 = g := rfl
theorem wf_s : wf ix v g (n + 1) = jiu (wf ix v g n) (ix n) (v n (wf ix v g n)) := rfl
theorem jiu_e {f : Int → Int} {z x : Int} : jiu f z x z = x := if_pos rfl
theorem jiu_o {f : Int → Int} {z x y : Int} (h : y ≠ z) : jiu f z x y = f y := if_neg h
theorem wf_o (h : ∀ k : Nat, k < n → j ≠ ix k) : wf ix v g n j = g j := by
  induction n with
  | zero => rfl
  | succ n ih => rw [wf_s, jiu_o (h n (Nat.lt_succ_self n)), ih (fun k hk => h k (by omega))]
theorem wf_k (hk : k < n) (hi : ∀ l : Nat, k < l → l < n → ix k ≠ ix l) : wf ix v g n (ix k) = v k (wf ix v g k) := by
  induction n with
  | zero => omega
  | succ n ih =>
    rw [wf_s]
    by_cases c : k = n
    · subst c; exact jiu_e
    · rw [jiu_o (hi n (by omega) (by omega))]
      exact ih (by omega) (fun l h1 h2 => hi l h1 (by omega))
theorem wf_c (h : ∀ (k : Nat) (G : Int → Int), k < n → v k G = v' k G) : wf ix v g n = wf ix v' g n := by
  induction n with
  | zero => rfl
  | succ n ih => rw [wf_s, wf_s, ih (fun k G hk => h k G (by omega)), h n _ (Nat.lt_succ_self n)]
theorem lpC {f : Int × jH → Option ((Int × jH) ⊕ jH)} {ct : Int → Int} (n : Nat) (st : ∀ (k : Nat) (G : Int → Int), k < n → f (ct k, hh s Q (ims J a G)) = some (.inl (ct ((k : Int) + 1), hh s Q (ims J a (jiu G (ix k) (v k G)))))) (en : ∀ G : Int → Int, f (ct n, hh s Q (ims J a G)) = some (.inr (hh s Q (ims J a G)))) (hn : n < 100000000) (G0 : Int → Int) : jlp f jfu (ct 0, hh s Q (ims J a G0)) = some (hh s Q (ims J a (wf ix v G0 n))) :=
  w_for (f := f) (fun k => (ct (k : Int), hh s Q (ims J a (wf ix v G0 k)))) n (fun k hk => by
    rw [st k _ hk, wf_s, show ((k + 1 : Nat) : Int) = (k : Int) + 1 by omega]) (en _) (n_fu hn)
theorem lpM {f : Int × jM → Option ((Int × jM) ⊕ jM)} {ct : Int → Int} (n : Nat) (st : ∀ (k : Nat) (G : Int → Int), k < n → f (ct k, ims m a G) = some (.inl (ct ((k : Int) + 1), ims m a (jiu G (ix k) (v k G))))) (en : ∀ G : Int → Int, f (ct n, ims m a G) = some (.inr (ims m a G))) (hn : n < 100000000) (G0 : Int → Int) : jlp f jfu (ct 0, ims m a G0) = some (ims m a (wf ix v G0 n)) :=
  w_for (f := f) (fun k => (ct (k : Int), ims m a (wf ix v G0 k))) n (fun k hk => by
    rw [st k _ hk, wf_s, show ((k + 1 : Nat) : Int) = (k : Int) + 1 by omega]) (en _) (n_fu hn)
end Wf
theorem shr2 {i : Int} (h0 : -2147483648 ≤ i) (h1 : i < 2147483648) : jshr i 2 = i / 4 := n_shr (k := 2) h0 h1 (by decide)
theorem shr1 {i : Int} (h0 : -2147483648 ≤ i) (h1 : i < 2147483648) : jshr i 1 = i / 2 := n_shr (k := 1) h0 h1 (by decide)
def lwE (h : Int) (g : Int → Int) (k : Int) : Int := g k - jshr ((g (h + (if k = 0 then 0 else k - 1)) + g (h + k)) + 2) 2
def lw (h : Int) (g : Int → Int) (i : Int) : Int := if i % 2 = 0 then lwE h g (i / 2) else g (h + i / 2) + jshr (lwE h g (i / 2) + lwE h g (if i + 1 = 2 * h then i / 2 else i / 2 + 1)) 1
def lfr (h k : Int) : Int := if k % 2 = 0 then k / 2 else h + k / 2
section Lower
variable {s : hS} {Q : hQ} {hm : hO} {I m : jM} {st sr : Int} {h : Nat}
theorem lw_c {h : Int} {g g' : Int → Int} (e : ∀ i : Int, 0 ≤ i → i < 2 * h → g i = g' i) {i : Int} (i0 : 0 ≤ i) (i1 : i < 2 * h) : lw h g i = lw h g' i := by
  have e2 : ∀ k : Int, 0 ≤ k → k < h → lwE h g k = lwE h g' k := fun k k0 k1 => by
    unfold lwE
    by_cases c : k = 0
    · rw [if_pos c, e k k0 (by omega), e (h + 0) (by omega) (by omega), e (h + k) (by omega) (by omega)]
    · rw [if_neg c, e k k0 (by omega), e (h + (k - 1)) (by omega) (by omega), e (h + k) (by omega) (by omega)]
  unfold lw
  by_cases c : i % 2 = 0
  · rw [if_pos c, if_pos c, e2 _ (by omega) (by omega)]
  · rw [if_neg c, if_neg c, e _ (by omega) (by omega), e2 (i / 2) (by omega) (by omega)]
    by_cases d : i + 1 = 2 * h
    · rw [if_pos d, e2 (i / 2) (by omega) (by omega)]
    · rw [if_neg d, e2 (i / 2 + 1) (by omega) (by omega)]
/-- the three stages of a line in the class -/
theorem lw_line (g Y : Int → Int) (n : Nat) (hn : n = 2 * h) (Y0 Y1 Y2 : Int → Int) (e0 : Y0 = wf (fun k => k) (fun k _ => g (lfr h k)) Y n) (e1 : Y1 = wf (fun k => 2 * k) (fun k l => l (2 * k) - jshr (((if k = 0 then l (2 * k + 1) else l (2 * k - 1)) + l (2 * k + 1)) + 2) 2) Y0 h) (e2 : Y2 = wf (fun k => 2 * k + 1) (fun k l => l (2 * k + 1) + jshr (l (2 * k) + (if 2 * (h : Int) ≤ 2 * k + 2 then l (2 * k) else l (2 * k + 2))) 1) Y1 h) (k : Nat) (hk : k < n) : Y2 k = lw h g k := by
  have y0 : ∀ i : Int, 0 ≤ i → i < n → Y0 i = g (lfr h i) := fun i i0 i1 => by
    have := wf_k (ix := fun k => k) (v := fun k _ => g (lfr h k)) (g := Y) (n := n) (k := i.toNat) (by omega) (fun l h1 h2 => by omega)
    rw [show ((i.toNat : Nat) : Int) = i by omega] at this
    rw [e0]; exact this
  have f0 : ∀ k : Int, 0 ≤ k → lfr h (2 * k) = k := fun k _ => by unfold lfr; rw [if_pos (by omega)]; omega
  have f1 : ∀ k : Int, 0 ≤ k → lfr h (2 * k + 1) = h + k := fun k _ => by unfold lfr; rw [if_neg (by omega)]; omega
  have y1 : ∀ k : Int, 0 ≤ k → k < h → Y1 (2 * k) = lwE h g k := fun k k0 k1 => by
    have := wf_k (ix := fun k => 2 * k) (v := fun k l => l (2 * k) - jshr (((if k = 0 then l (2 * k + 1) else l (2 * k - 1)) + l (2 * k + 1)) + 2) 2) (g := Y0) (n := h) (k := k.toNat) (by omega) (fun l h1 h2 => by omega)
    rw [show ((k.toNat : Nat) : Int) = k by omega] at this
    rw [e1, this]
    have o1 : ∀ j : Int, j % 2 = 1 ∨ j = 2 * k → wf (fun k => 2 * k) (fun k l => l (2 * k) - jshr (((if k = 0 then l (2 * k + 1) else l (2 * k - 1)) + l (2 * k + 1)) + 2) 2) Y0 k.toNat j = Y0 j := fun j hj => wf_o (fun l hl => by omega)
    rw [o1 (2 * k) (Or.inr rfl), o1 (2 * k + 1) (Or.inl (by omega)), o1 (2 * k - 1) (Or.inl (by omega)), y0 (2 * k) (by omega) (by omega), y0 (2 * k + 1) (by omega) (by omega), f0 k k0, f1 k k0]
    unfold lwE
    by_cases c : k = 0
    · subst c; rfl
    · rw [if_neg c, if_neg c, y0 (2 * k - 1) (by omega) (by omega), show 2 * k - 1 = 2 * (k - 1) + 1 by omega, f1 (k - 1) (by omega)]
  have y1o : ∀ k : Int, 0 ≤ k → k < h → Y1 (2 * k + 1) = g (h + k) := fun k k0 k1 => by
    rw [e1, wf_o (fun l hl => by omega), y0 (2 * k + 1) (by omega) (by omega), f1 k k0]
  by_cases c : k % 2 = 0
  · rw [e2, wf_o (fun l hl => by omega), show (k : Int) = 2 * ((k : Int) / 2) by omega, y1 ((k : Int) / 2) (by omega) (by omega)]
    unfold lw
    rw [if_pos (by omega), show 2 * ((k : Int) / 2) / 2 = (k : Int) / 2 by omega]
  · have := wf_k (ix := fun k => 2 * k + 1) (v := fun k l => l (2 * k + 1) + jshr (l (2 * k) + (if 2 * (h : Int) ≤ 2 * k + 2 then l (2 * k) else l (2 * k + 2))) 1) (g := Y1) (n := h) (k := k / 2) (by omega) (fun l h1 h2 => by omega)
    rw [show ((k / 2 : Nat) : Int) = (k : Int) / 2 by omega] at this
    have kk : (k : Int) = 2 * ((k : Int) / 2) + 1 := by omega
    rw [e2]
    unfold lw
    rw [if_neg (by omega)]
    rw [← kk] at this
    rw [this]
    have o1 : ∀ j : Int, j % 2 = 0 ∨ j = (k : Int) → wf (fun k => 2 * k + 1) (fun k l => l (2 * k + 1) + jshr (l (2 * k) + (if 2 * (h : Int) ≤ 2 * k + 2 then l (2 * k) else l (2 * k + 2))) 1) Y1 (k / 2) j = Y1 j := fun j hj => wf_o (fun l hl => by omega)
    rw [o1 (k : Int) (Or.inr rfl), o1 (2 * ((k : Int) / 2)) (Or.inl (by omega)), o1 (2 * ((k : Int) / 2) + 2) (Or.inl (by omega)), y1 ((k : Int) / 2) (by omega) (by omega)]
    have z1 := y1o ((k : Int) / 2) (by omega) (by omega)
    rw [← kk] at z1
    rw [z1]
    by_cases d : (k : Int) + 1 = 2 * h
    · rw [if_pos (by omega), if_pos d]
    · rw [if_neg (by omega), if_neg d, show 2 * ((k : Int) / 2) + 2 = 2 * ((k : Int) / 2 + 1) by omega, y1 _ (by omega) (by omega)]
end Lower
