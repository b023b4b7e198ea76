/-! THE RELATION between the class's cells and the model's -/
/-- tag and length of the cells that the constructor makes -/
def sk : Nat → Nat × Nat := fun a => match a with
  | 0 => (19, 0)
  | 1 => (6, 60)
  | 2 => (1, 4000)
  | 3 => (0, 8)
  | 4 => (6, 12)
  | 5 => (4, 8)
  | 6 => (0, 24)
  | 7 => (5, 8)
  | 8 => (7, 4)
  | 9 => (16, 0)
  | 10 => (8, 0)
  | 11 => (13, 0)
  | 12 => (0, 96)
  | 13 => (0, 96)
  | 14 => (0, 96)
  | 15 => (0, 96)
  | 16 => (0, 4)
  | 17 => (0, 4)
  | 18 => (0, 16)
  | 19 => (0, 16)
  | 20 => (0, 16)
  | 21 => (18, 0)
  | 22 => (0, 576)
  | 23 => (0, 24)
  | 24 => (17, 0)
  | 25 => (0, 577)
  | 26 => (0, 576)
  | 27 => (0, 576)
  | 28 => (10, 0)
  | 29 => (0, 12)
  | 30 => (0, 12)
  | 31 => (0, 12)
  | 32 => (0, 12)
  | 33 => (0, 12)
  | 34 => (0, 12)
  | 35 => (2, 12)
  | 36 => (2, 12)
  | 37 => (6, 12)
  | 38 => (0, 12)
  | 39 => (0, 12)
  | 40 => (0, 756)
  | 41 => (0, 4)
  | 42 => (12, 0)
  | 43 => (8, 0)
  | 44 => (9, 0)
  | 45 => (13, 0)
  | 46 => (0, 96)
  | 47 => (0, 96)
  | 48 => (0, 96)
  | 49 => (0, 96)
  | 50 => (0, 4)
  | 51 => (0, 4)
  | 52 => (0, 16)
  | 53 => (0, 16)
  | 54 => (0, 16)
  | 55 => (8, 0)
  | 56 => (0, 96)
  | 57 => (0, 96)
  | 58 => (0, 96)
  | 59 => (0, 4)
  | 60 => (0, 4)
  | 61 => (18, 0)
  | 62 => (0, 576)
  | 63 => (0, 24)
  | 64 => (17, 0)
  | 65 => (0, 577)
  | 66 => (0, 576)
  | 67 => (0, 576)
  | 68 => (6, 12)
  | 69 => (0, 12)
  | 70 => (0, 13)
  | 71 => (0, 4)
  | 72 => (15, 0)
  | 73 => (15, 0)
  | 74 => (15, 0)
  | 75 => (15, 0)
  | _ => (0, 0)
/-- references that never change -/
def sq : Nat → Nat → Option Nat := fun a k => match a, k with
  | 0, 0 => some 1
  | 0, 2 => some 2
  | 0, 4 => some 3
  | 0, 5 => some 4
  | 0, 7 => some 5
  | 0, 9 => some 6
  | 0, 11 => some 7
  | 0, 13 => some 8
  | 0, 14 => some 9
  | 0, 15 => some 42
  | 9, 0 => some 10
  | 9, 1 => some 11
  | 9, 2 => some 21
  | 9, 3 => some 24
  | 9, 4 => some 28
  | 9, 5 => some 41
  | 11, 7 => some 12
  | 11, 8 => some 13
  | 11, 9 => some 14
  | 11, 10 => some 15
  | 11, 11 => some 16
  | 11, 12 => some 17
  | 11, 13 => some 18
  | 11, 14 => some 19
  | 11, 15 => some 20
  | 21, 0 => some 22
  | 21, 1 => some 23
  | 24, 1 => some 25
  | 24, 2 => some 26
  | 24, 3 => some 27
  | 28, 7 => some 29
  | 28, 8 => some 30
  | 28, 9 => some 31
  | 28, 10 => some 32
  | 28, 11 => some 33
  | 28, 12 => some 34
  | 28, 13 => some 35
  | 28, 14 => some 36
  | 28, 15 => some 37
  | 28, 16 => some 38
  | 28, 17 => some 39
  | 28, 18 => some 40
  | 42, 0 => some 43
  | 42, 1 => some 44
  | 42, 2 => some 61
  | 42, 3 => some 64
  | 42, 4 => some 68
  | 42, 7 => some 69
  | 42, 8 => some 70
  | 42, 9 => some 71
  | 44, 0 => some 45
  | 44, 1 => some 55
  | 44, 2 => some 56
  | 44, 3 => some 57
  | 44, 4 => some 58
  | 44, 5 => some 59
  | 44, 6 => some 60
  | 45, 7 => some 46
  | 45, 8 => some 47
  | 45, 9 => some 48
  | 45, 10 => some 49
  | 45, 11 => some 50
  | 45, 12 => some 51
  | 45, 13 => some 52
  | 45, 14 => some 53
  | 45, 15 => some 54
  | 61, 0 => some 62
  | 61, 1 => some 63
  | 64, 1 => some 65
  | 64, 2 => some 66
  | 64, 3 => some 67
  | 8, 0 => some 72
  | 8, 1 => some 73
  | 8, 2 => some 74
  | 8, 3 => some 75
  | _, _ => none
abbrev hO : Type := Nat → Int
def isSd (w : Int) : Prop := w = 8 ∨ w = 16 ∨ w = 24
/-- a plane's side; where a plane begins in the class's rows, and in the model's -/
def pw (w p : Int) : Int := if p = 0 then w else w / 2
def pb (w h p : Int) : Int := if p = 0 then 0 else if p = 1 then w * h else w * h + w * h / 4
def pf (p : Int) : Int := if p = 0 then 0 else if p = 1 then 576 else 720
/-- cell a: tag, length, owner -/
def Ce (s : hS) (hm : hO) (a t n : Nat) (o : Int) : Prop := a < s.1 ∧ s.2.2.1 a = t ∧ s.2.2.2 a = n ∧ hm a = o
def PicAt (s : hS) (Q : hQ) (hm : hO) (a : Nat) (o : Int) : Prop := 153 ≤ a ∧ Ce s hm a 14 0 o ∧ Ce s hm (a + 1) 0 864 o ∧ Q a 2 = some (a + 1)
/-- a picture's samples are those of g, plane by plane -/
def Pix (I : jM) (a : Nat) (w h : Int) (g : Int → Int) : Prop := I a 0 = w ∧ I a 1 = h ∧ isSd w ∧ isSd h ∧ ∀ p k : Int, 0 ≤ p → p ≤ 2 → 0 ≤ k → k < pw w p * pw h p → I (a + 1) (pb w h p + k) = g (pf p + k) ∧ 0 ≤ g (pf p + k) ∧ g (pf p + k) ≤ 255
def Sl (s : hS) (Q : hQ) (hm : hO) (r : Option Nat) (o : Int) : Prop := ∀ a, r = some a → PicAt s Q hm a o
def Lay (s : hS) (Q : hQ) (hm : hO) : Prop := 153 ≤ s.1 ∧ (∀ a : Nat, a < 76 → Ce s hm a (sk a).1 (sk a).2 (1000 + (a : Int))) ∧ (∀ a : Nat, 76 ≤ a → a < 153 → hm a = 1000 + (a : Int)) ∧ (∀ a k b : Nat, sq a k = some b → Q a (k : Int) = some b)
def RPic (s : hS) (Q : hQ) (hm : hO) (I m : jM) : Prop := I 0 1 = m 76 1 ∧ 0 ≤ m 76 1 ∧ m 76 1 ≤ 60 ∧ (∀ i : Int, 0 ≤ i → i < 60 → Sl s Q hm (Q 1 i) i) ∧ (∀ i : Int, 0 ≤ i → i < m 76 1 → ∃ a, Q 1 i = some a ∧ Pix I a (m 77 i) (m 78 i) (fun j => m 79 (864 * i + j)))
def RTap (I m : jM) : Prop := I 0 3 = m 76 5 ∧ 0 ≤ m 76 5 ∧ m 76 5 ≤ 4000 ∧ ∀ i : Int, 0 ≤ i → i < m 76 5 → m 80 i = I 2 i % 256
def stOk (k v : Int) : Prop := (k = 5 ∧ v = 0) ∨ ((jxv 1).getD k.toNat 0 ≤ v ∧ v ≤ (jxv 2).getD k.toNat 0)
def RSet (I m : jM) : Prop := ∀ k : Int, 0 ≤ k → k < 8 → I 3 k = m 82 k ∧ stOk k (m 82 k)
def RRee (s : hS) (Q : hQ) (hm : hO) (I m : jM) : Prop := I 0 6 = m 76 7 ∧ 0 ≤ m 76 7 ∧ m 76 7 ≤ 12 ∧ (∀ i : Int, 0 ≤ i → i < 12 → Sl s Q hm (Q 4 i) (100 + i)) ∧ (∀ i : Int, 0 ≤ i → i < m 76 7 → ∃ a, Q 4 i = some a ∧ Pix I a (m 76 8) (m 76 9) (fun j => m 81 (864 * i + j)))
/-- a film's cells -/
def fTag : Nat → Nat × Nat := fun j => match j with
  | 0 => (10, 0)
  | 7 => (2, 12)
  | 8 => (2, 12)
  | 9 => (6, 12)
  | 12 => (0, 756)
  | _ => (0, 12)
def FilmAt (s : hS) (Q : hQ) (hm : hO) (a : Nat) (f : Int) : Prop := 153 ≤ a ∧ (∀ j : Nat, j < 13 → Ce s hm (a + j) (fTag j).1 (fTag j).2 (500 + f)) ∧ (∀ j : Nat, j < 12 → Q a ((j + 7 : Nat) : Int) = some (a + (j + 1))) ∧ (∀ b, Q a 5 = some b → 153 ≤ b ∧ ∃ n, (n = 4000 ∨ n = 24067) ∧ Ce s hm b 1 n (540 + f)) ∧ (∀ k : Int, 0 ≤ k → k < 12 → Sl s Q hm (Q (a + 9) k) (200 + 12 * f + k))
/-- the latest anchor ahead of n, none ahead of from -/
def anc (K : Int → Int) (fr : Int) : Nat → Int
  | 0 => -1
  | n + 1 => if (n : Int) < fr then -1 else if K n ≠ 2 then n else anc K fr n
/-- heads that are a film's: coding, how many, kinds, places, steps, sizes, heads, length, bytes -/
def PV (cod n : Int) (K P S Z Hd : Int → Int) (len : Int) (B : Int → Int) : Prop := 1 ≤ n ∧ n ≤ 12 ∧ 0 ≤ cod ∧ cod ≤ 2 ∧ Hd 0 = 7 ∧ K 0 = 0 ∧ Hd (n - 1) + 5 + Z (n - 1) = len ∧ ∀ k : Int, 0 ≤ k → k < n →
  (0 ≤ K k ∧ K k ≤ 2) ∧ (0 ≤ P k ∧ P k < n) ∧ (cod = 0 → 1 ≤ S k ∧ S k ≤ 31) ∧ (cod ≠ 0 → S k = 0) ∧ (0 ≤ Z k ∧ Z k ≤ 2000) ∧ (0 < k → Hd k = Hd (k - 1) + 5 + Z (k - 1)) ∧ (cod = 1 → K k = 0) ∧ (cod = 2 → K k ≠ 2) ∧ (∀ j : Int, 0 ≤ j → j < k → P j ≠ P k) ∧ (K k ≠ 2 → 0 ≤ anc K 0 k.toNat → P (anc K 0 k.toNat) < P k) ∧ (K k = 2 → 0 ≤ anc K 0 (anc K 0 k.toNat).toNat ∧ P (anc K 0 (anc K 0 k.toNat).toNat) < P k ∧ P k < P (anc K 0 k.toNat)) ∧ (B (Hd k) = K k ∧ B (Hd k + 1) = P k ∧ B (Hd k + 2) = S k ∧ 256 * B (Hd k + 3) + B (Hd k + 4) = Z k)
def sdOf (p : Int) : Int := if p = 0 then 8 else 4
def mdAt (cod spot w h p x y : Int) : Prop := 0 ≤ spot ∧ (if cod = 0 then spot ≤ y / sdOf p * (w / 8) + x / sdOf p else if cod = 1 then spot ≤ p else spot ≤ pb w h p + y * pw w p + x)
def FilmK (s : hS) (Q : hQ) (I m : jM) (a : Nat) (f k : Int) : Prop :=
  (I (a + 1) k = m 90 (12 * f + k) ∧ I (a + 2) k = m 91 (12 * f + k) ∧ I (a + 3) k = m 92 (12 * f + k) ∧ I (a + 4) k = m 93 (12 * f + k) ∧ I (a + 5) k = m 94 (12 * f + k)) ∧ I (a + 6) (m 91 (12 * f + k)) = k ∧ I (a + 7) k % 2 = m 95 (12 * f + k) % 2 ∧ I (a + 8) (m 91 (12 * f + k)) % 2 = m 98 (12 * f + k) % 2 ∧ I (a + 10) k = m 96 (12 * f + k) ∧ I (a + 11) k = m 97 (12 * f + k) ∧ (m 95 (12 * f + k) % 2 = 1 ↔ m 90 (12 * f + k) = 0 ∧ ∀ j : Int, k < j → j < m 87 f → m 91 (12 * f + k) < m 91 (12 * f + j)) ∧ (0 ≤ m 96 (12 * f + k) ∧ m 96 (12 * f + k) ≤ 7 ∧ -1 ≤ m 97 (12 * f + k) ∧ m 97 (12 * f + k) ≤ 1000) ∧ (∃ p, Q (a + 9) k = some p ∧ Pix I p (m 84 f) (m 85 f) (fun j => m 99 (864 * (12 * f + k) + j))) ∧ (∀ p x y : Int, 0 ≤ p → p ≤ 2 → 0 ≤ x → x < pw (m 84 f) p → 0 ≤ y → y < pw (m 85 f) p → (m 100 (864 * (12 * f + k) + (pf p + (y * pw (m 84 f) p + x))) % 2 = 1 ↔ mdAt (m 83 f) (m 97 (12 * f + k)) (m 84 f) (m 85 f) p x y)) ∧ (m 83 f = 0 → ∀ q w : Int, 0 ≤ q → q < m 84 f / 8 * (m 85 f / 8) → 0 ≤ w → w < 7 → m 101 (63 * (12 * f + k) + 7 * q + w) = if 0 ≤ m 97 (12 * f + k) ∧ m 97 (12 * f + k) ≤ q then -1 else I (a + 12) ((k * 9 + q) * 7 + w))
def FilmC (s : hS) (Q : hQ) (I m : jM) (a : Nat) (f : Int) : Prop := (I a 0 = m 83 f ∧ I a 1 = m 84 f ∧ I a 2 = m 85 f ∧ I a 3 = m 86 f ∧ I a 4 = m 87 f ∧ I a 6 = m 88 f) ∧ (isSd (m 84 f) ∧ isSd (m 85 f) ∧ 1 ≤ m 86 f ∧ m 86 f ≤ 60 ∧ 7 ≤ m 88 f ∧ m 88 f ≤ 24067) ∧ (∃ b, Q a 5 = some b ∧ m 88 f ≤ s.2.2.2 b ∧ ∀ i : Int, 0 ≤ i → i < m 88 f → jwb (I b i) = jwb (m 89 (24100 * f + i))) ∧ PV (m 83 f) (m 87 f) (fun k => m 90 (12 * f + k)) (fun k => m 91 (12 * f + k)) (fun k => m 92 (12 * f + k)) (fun k => m 93 (12 * f + k)) (fun k => m 94 (12 * f + k)) (m 88 f) (fun i => m 89 (24100 * f + i) % 256) ∧ ∀ k : Int, 0 ≤ k → k < m 87 f → FilmK s Q I m a f k
def RFil (s : hS) (Q : hQ) (hm : hO) (I m : jM) : Prop := I 0 8 = m 76 12 ∧ 0 ≤ m 76 12 ∧ m 76 12 ≤ 8 ∧ (∀ f : Int, 0 ≤ f → f < 8 → ∀ a, Q 5 f = some a → FilmAt s Q hm a f) ∧ (∀ f : Int, 0 ≤ f → f < m 76 12 → ∃ a, Q 5 f = some a ∧ FilmC s Q I m a f)
def RRow (I m : jM) : Prop := I 0 10 = m 76 86 ∧ 0 ≤ m 76 86 ∧ m 76 86 ≤ 8 ∧ ∀ r : Int, 0 ≤ r → r < m 76 86 → I 6 (3 * r) = m 131 r ∧ I 6 (3 * r + 1) = m 132 r ∧ I 6 (3 * r + 2) = m 133 r ∧ 0 ≤ m 131 r ∧ m 131 r < m 76 12 ∧ m 83 (m 131 r) = 0 ∧ 0 ≤ m 132 r ∧ m 132 r ≤ m 133 r ∧ m 133 r < m 87 (m 131 r)
/-- filters -/
def FltAt (s : hS) (Q : hQ) (hm : hO) (a : Nat) (q : Int) : Prop := 153 ≤ a ∧ Ce s hm a 11 0 (520 + q) ∧ Ce s hm (a + 1) 0 200 (520 + q) ∧ Ce s hm (a + 2) 0 200 (520 + q) ∧ Q a 0 = some (a + 1) ∧ Q a 2 = some (a + 2)
def opc : Nat → Int := fun k => match k with
  | 1 => 120
  | 2 => 121
  | 3 => 119
  | 4 => 104
  | 5 => 110
  | 6 => 116
  | 7 => 115
  | 8 => 126
  | 9 => 43
  | 10 => 45
  | 11 => 42
  | 12 => 47
  | 13 => 37
  | 14 => 97
  | 15 => 109
  | 16 => 77
  | 17 => 105
  | _ => 0
def stp (op wo : Int) : Int := if op = 0 then 1000 + wo else opc op.toNat
def ari (op : Int) : Int := if op < 8 then 0 else if op = 8 then 1 else if op = 17 then 3 else 2
def FltC (I m : jM) (a : Nat) (q : Int) : Prop := I a 1 = m 135 q ∧ 1 ≤ m 135 q ∧ m 135 q ≤ 200 ∧ (∀ k : Int, 0 ≤ k → k < m 135 q → 0 ≤ m 136 (400 * q + k) ∧ m 136 (400 * q + k) ≤ 17 ∧ (m 136 (400 * q + k) = 0 → 0 ≤ m 137 (400 * q + k) ∧ m 137 (400 * q + k) ≤ 99999) ∧ I (a + 1) k = stp (m 136 (400 * q + k)) (m 137 (400 * q + k))) ∧ ∃ D : Int → Int, D 0 = 0 ∧ D (m 135 q) = 1 ∧ ∀ k : Int, 0 ≤ k → k < m 135 q → ari (m 136 (400 * q + k)) ≤ D k ∧ D (k + 1) = D k - ari (m 136 (400 * q + k)) + 1
def RFlt (s : hS) (Q : hQ) (hm : hO) (I m : jM) : Prop := I 0 12 = m 76 92 ∧ 0 ≤ m 76 92 ∧ m 76 92 ≤ 8 ∧ (∀ q : Int, 0 ≤ q → q < 8 → ∀ a, Q 7 q = some a → FltAt s Q hm a q) ∧ (∀ q : Int, 0 ≤ q → q < m 76 92 → ∃ a, Q 7 q = some a ∧ FltC I m a q)
/-- players -/
def PlyC (Q : hQ) (I m : jM) (y : Nat) : Prop := (m 141 y = -1 ∧ Q (72 + y) 0 = none) ∨ (0 ≤ m 141 y ∧ m 141 y < m 76 12 ∧ Q (72 + y) 0 = Q 5 (m 141 y) ∧ I (72 + y) 1 = m 141 y ∧ I (72 + y) 2 = m 144 y ∧ I (72 + y) 3 = m 146 y ∧ I (72 + y) 4 % 2 = m 147 y % 2 ∧ I (72 + y) 5 = m 148 y ∧ I (72 + y) 6 = m 149 y ∧ I (72 + y) 7 = m 150 y ∧ I (72 + y) 9 = m 142 y ∧ I (72 + y) 10 = m 143 y ∧ I (72 + y) 11 = m 145 y ∧ (1 ≤ m 142 y ∧ m 142 y ≤ 4000 ∧ 0 ≤ m 143 y ∧ m 143 y ≤ 4000 ∧ 0 ≤ m 145 y ∧ m 145 y ≤ m 144 y ∧ m 144 y ≤ m 88 (m 141 y) ∧ 0 ≤ m 146 y ∧ m 146 y ≤ m 87 (m 141 y) ∧ (m 146 y = m 87 (m 141 y) → m 147 y % 2 = 1) ∧ -1 ≤ m 149 y ∧ m 149 y < m 87 (m 141 y)) ∧ ∃ p, Q (72 + y) 8 = some p ∧ (0 ≤ m 149 y → Pix I p (m 84 (m 141 y)) (m 85 (m 141 y)) (fun j => m 151 (864 * y + j))))
def RPly (Q : hQ) (I m : jM) : Prop := ∀ y : Nat, y < 4 → PlyC Q I m y
def RMis (s : hS) (Q : hQ) (hm : hO) : Prop := (∀ b, Q 43 0 = some b → 153 ≤ b ∧ Ce s hm b 1 4000 560) ∧ (∀ k : Int, 0 ≤ k → k < 12 → Sl s Q hm (Q 37 k) (400 + k)) ∧ (∀ y : Nat, y < 4 → Sl s Q hm (Q (72 + y) 8) (450 + (y : Int)))
def RelH (s : hS) (Q : hQ) (hm : hO) (I m : jM) : Prop := Lay s Q hm ∧ RPic s Q hm I m ∧ RTap I m ∧ RSet I m ∧ RRee s Q hm I m ∧ RFil s Q hm I m ∧ RRow I m ∧ RFlt s Q hm I m ∧ RPly Q I m ∧ RMis s Q hm
def Rel (s : hS) (Q : hQ) (I m : jM) : Prop := ∃ hm, RelH s Q hm I m
