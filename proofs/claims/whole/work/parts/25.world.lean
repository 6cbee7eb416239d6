/-- how far apart corners are (row by row), as the class reckons it: kept as a property of the rows alone -/
def fwI (S : Nat → Nat → Int) (a b : Nat) : Int := if a = b then 0 else 2147483647
def fwC (S : Nat → Nat → Int) : Nat → (Nat → Nat → Int)
  | 0 => fwI S
  | k + 1 => fun a b => if (a : Int) = S 2 k ∧ (b : Int) = S 3 k ∨ (a : Int) = S 3 k ∧ (b : Int) = S 2 k then S 4 k else fwC S k a b
def fwS (D : Nat → Nat → Int) (over : Nat) : Nat → Nat → Int := fun a b => if pl (D a over) (D over b) < D a b then pl (D a over) (D over b) else D a b
def fwD (S : Nat → Nat → Int) : Nat → (Nat → Nat → Int)
  | 0 => fwC S (S 1 2).toNat
  | k + 1 => fwS (fwD S k) k
def APk (S : Nat → Nat → Int) (ap : Nat → Int) : Prop := ∀ a b : Nat, (a : Int) < S 1 1 → (b : Int) < S 1 1 → 0 < S 1 3 → ap (6 * a + b) = fwD S (S 1 1).toNat a b
theorem fwC_congr {S S' : Nat → Nat → Int} (h2 : S' 2 = S 2) (h3 : S' 3 = S 3) (h4 : S' 4 = S 4) (k : Nat) : fwC S' k = fwC S k := by
  induction k with
  | zero => rfl
  | succ k ih => funext a b; simp only [fwC, h2, h3, h4, ih]
theorem fwD_congr {S S' : Nat → Nat → Int} (h2 : S' 2 = S 2) (h3 : S' 3 = S 3) (h4 : S' 4 = S 4) (h1 : S' 1 2 = S 1 2) (k : Nat) : fwD S' k = fwD S k := by
  induction k with
  | zero => simp only [fwD, h1, fwC_congr h2 h3 h4]
  | succ k ih => simp only [fwD, ih]
def XI (A : am_H) (S : Nat → Nat → Int) (sd : Int64) : Prop := ∃ (t u : Nat) (q : Nat → Nat) (ap : Nat → Int), XA A S sd t u ∧ XT A S t ap ∧ APk S ap ∧ XU A u ∧ XS A S ∧ XB A S q ∧ XK A S ∧ XE A ∧ XM A ∧ XQ A ∧ XN A S ∧ XW A
/-- the town's rows are as they were -/
def TS (S S' : Nat → Nat → Int) : Prop := S' 1 1 = S 1 1 ∧ S' 1 2 = S 1 2 ∧ S' 1 3 = S 1 3 ∧ S' 1 4 = S 1 4 ∧ S' 2 = S 2 ∧ S' 3 = S 3 ∧ S' 4 = S 4 ∧ S' 5 = S 5 ∧ S' 6 = S 6 ∧ S' 7 = S 7
theorem APk.congr {S S' : Nat → Nat → Int} {ap : Nat → Int} (h : APk S ap) (e : TS S S') : APk S' ap := by
  obtain ⟨e1, e2, e3, e4, e5, e6, e7, -⟩ := e
  intro a b ha hb hp
  rw [e1] at ha hb ⊢
  rw [e3] at hp
  rw [fwD_congr e5 e6 e7 e2]
  exact h a b ha hb hp
theorem XA.congr {A A' : am_H} {S S' : Nat → Nat → Int} {sd : Int64} {t u : Nat} (h : XA A S sd t u) (g : ∀ i, i < 4 → 0 < i → am_g A' i = am_g A i) (e0 : S' 0 = S 0) (e1 : S' 1 0 = S 1 0) : XA A' S' sd t u := by
  obtain ⟨h1, h2, h3, h4⟩ := h
  exact ⟨by rw [g 1 (by decide) (by decide)]; exact h1, h2, by rw [g 2 (by decide) (by decide), e1]; exact h3, by rw [g 3 (by decide) (by decide), e0]; exact h4⟩
theorem XT.congr {A A' : am_H} {S S' : Nat → Nat → Int} {t : Nat} {ap : Nat → Int} (h : XT A S t ap) (g : ∀ i, i < 9 → am_g A' (t + i) = am_g A (t + i)) (e : TS S S') : XT A' S' t ap := by
  obtain ⟨⟨kd, fe, h0⟩, h1, h2, h3, h4, ⟨f, h5⟩, h6, h7, h8⟩ := h
  obtain ⟨e1, e2, e3, e4, e5, e6, e7, e8, e9, e10⟩ := e
  have g0 := g 0 (by decide)
  rw [Nat.add_zero] at g0
  exact ⟨⟨kd, fe, by rw [g0, e1, e2, e3, e4]; exact h0⟩, by rw [g 1 (by decide), e5]; exact h1, by rw [g 2 (by decide), e6]; exact h2, by rw [g 3 (by decide), e7]; exact h3, by rw [g 4 (by decide), e8]; exact h4, ⟨f, by rw [g 5 (by decide)]; exact h5⟩, by rw [g 6 (by decide), e9]; exact h6, by rw [g 7 (by decide), e10]; exact h7, by rw [g 8 (by decide)]; exact h8⟩
theorem XU.congr {A A' : am_H} {u : Nat} (h : XU A u) (g : ∀ i, i < 9 → am_g A' (u + i) = am_g A (u + i)) : XU A' u := by
  have g0 := g 0 (by decide)
  rw [Nat.add_zero] at g0
  unfold XU
  rw [g0, g 1 (by decide), g 2 (by decide), g 3 (by decide), g 4 (by decide), g 5 (by decide), g 6 (by decide), g 7 (by decide), g 8 (by decide)]
  exact h
theorem XS.congr {A A' : am_H} {S S' : Nat → Nat → Int} (h : XS A S) (g : ∀ i, 22 ≤ i → i < 26 → am_g A' i = am_g A i) (e1 : S' 8 = S 8) (e2 : S' 9 = S 9) (e3 : S' 10 = S 10) : XS A' S' := by
  unfold XS
  rw [g 22 (by decide) (by decide), g 23 (by decide) (by decide), g 24 (by decide) (by decide), g 25 (by decide) (by decide), e1, e2, e3]
  exact h
theorem XB.congr {A A' : am_H} {S S' : Nat → Nat → Int} {q : Nat → Nat} (h : XB A S q) (g : ∀ i, 26 ≤ i → i < 76 → am_g A' i = am_g A i) (e1 : S' 1 5 = S 1 5) (e2 : ∀ a, 20 ≤ a → S' a = S a) : XB A' S' q := by
  obtain ⟨h0, h1, h2, h3, h4⟩ := h
  refine ⟨by rw [g 26 (by decide) (by decide), e1]; exact h0, by rw [g 27 (by decide) (by decide)]; exact h1, h2, h3, fun j hj => ?_⟩
  have hq := h2 j hj
  obtain ⟨k0, k1, k2, k3⟩ := h4 j hj
  exact ⟨by rw [g _ (by omega) (by omega)]; exact k0, by rw [g _ (by omega) (by omega), e2 _ (by omega)]; exact k1, by rw [g _ (by omega) (by omega), e2 _ (by omega)]; exact k2, by rw [g _ (by omega) (by omega), e2 _ (by omega)]; exact k3⟩
theorem XK.congr {A A' : am_H} {S S' : Nat → Nat → Int} (h : XK A S) (g : ∀ i, (i = 76 ∨ 95 ≤ i ∧ i < 105) → am_g A' i = am_g A i) (e1 : S' 1 7 = S 1 7) (e2 : S' 1 8 = S 1 8) (e3 : ∀ a, 14 ≤ a → a < 20 → S' a = S a) : XK A' S' := by
  unfold XK
  rw [g 76 (by omega), g 95 (by omega), g 96 (by omega), g 97 (by omega), g 98 (by omega), g 99 (by omega), g 100 (by omega), g 101 (by omega), g 102 (by omega), g 103 (by omega), g 104 (by omega), e1, e2, e3 14 (by omega) (by omega), e3 15 (by omega) (by omega), e3 16 (by omega) (by omega), e3 17 (by omega) (by omega), e3 18 (by omega) (by omega), e3 19 (by omega) (by omega)]
  exact h
theorem XE.congr {A A' : am_H} (h : XE A) (g : ∀ i, 77 ≤ i → i < 81 → am_g A' i = am_g A i) : XE A' := by
  unfold XE
  rw [g 77 (by omega) (by omega), g 78 (by omega) (by omega), g 79 (by omega) (by omega), g 80 (by omega) (by omega)]
  exact h
theorem XM.congr {A A' : am_H} (h : XM A) (g : ∀ i, 81 ≤ i → i < 85 → am_g A' i = am_g A i) : XM A' := by
  unfold XM
  rw [g 81 (by omega) (by omega), g 82 (by omega) (by omega), g 83 (by omega) (by omega), g 84 (by omega) (by omega)]
  exact h
theorem XQ.congr {A A' : am_H} (h : XQ A) (g : ∀ i, 85 ≤ i → i < 88 → am_g A' i = am_g A i) : XQ A' := by
  unfold XQ
  rw [g 85 (by omega) (by omega), g 86 (by omega) (by omega), g 87 (by omega) (by omega)]
  exact h
theorem XN.congr {A A' : am_H} {S S' : Nat → Nat → Int} (h : XN A S) (g : ∀ i, 88 ≤ i → i < 92 → am_g A' i = am_g A i) (e1 : S' 1 6 = S 1 6) (e2 : S' 11 = S 11) (e3 : S' 12 = S 12) (e4 : S' 13 = S 13) : XN A' S' := by
  unfold XN
  rw [g 88 (by omega) (by omega), g 89 (by omega) (by omega), g 90 (by omega) (by omega), g 91 (by omega) (by omega), e1, e2, e3, e4]
  exact h
theorem XW.congr {A A' : am_H} (h : XW A) (g : ∀ i, 92 ≤ i → i < 95 → am_g A' i = am_g A i) : XW A' := by
  unfold XW
  rw [g 92 (by omega) (by omega), g 93 (by omega) (by omega), g 94 (by omega) (by omega)]
  exact h
/-- the other world is as it was -/
def FX (A A' : am_H) : Prop := ∀ i, (i = 0 ∨ 105 ≤ i) → am_g A' i = am_g A i
def FM (A A' : am_H) : Prop := ∀ i, i < 105 → am_g A' i = am_g A i
theorem XI.congr {A A' : am_H} {S : Nat → Nat → Int} {sd : Int64} (h : XI A S sd) (g : FM A A') : XI A' S sd := by
  obtain ⟨t, u, q, ap, h1, h2, h3, h4, h5, h6, h7, h8, h9, h10, h11, h12⟩ := h
  have htu := h1.2.1
  have ts : TS S S := ⟨rfl, rfl, rfl, rfl, rfl, rfl, rfl, rfl, rfl, rfl⟩
  exact ⟨t, u, q, ap, h1.congr (fun i a b => g i (by omega)) rfl rfl, h2.congr (fun i a => g _ (by omega)) ts, h3, h4.congr (fun i a => g _ (by omega)), h5.congr (fun i a b => g i (by omega)) rfl rfl rfl, h6.congr (fun i a b => g i (by omega)) rfl (fun _ _ => rfl), h7.congr (fun i a => g i (by omega)) rfl rfl (fun _ _ _ => rfl), h8.congr (fun i a b => g i (by omega)), h9.congr (fun i a b => g i (by omega)), h10.congr (fun i a b => g i (by omega)), h11.congr (fun i a b => g i (by omega)) rfl rfl rfl rfl, h12.congr (fun i a b => g i (by omega))⟩
/-- the rows of all matchings of six, as the reference makes them -/
def MI (A : am_H) (S : Nat → Nat → Int) (sd : Int64) (mt : Nat → Int) : Prop := ∃ (N fr to fa be pa go bk ke : Nat → Int), MA A S sd N ∧ MT A S fr to fa be pa go ∧ MS A S ∧ MR A ∧ MB A S bk ∧ MK A S ke ∧ MQ2 A mt ∧ MN A S
theorem MI.congr {A A' : am_H} {S : Nat → Nat → Int} {sd : Int64} {mt : Nat → Int} (h : MI A S sd mt) (g : FX A A') : MI A' S sd mt := by
  unfold MI MA MT MS MR MB MK MQ2 MN at h ⊢
  simp only [g 105 (by omega), g 106 (by omega), g 107 (by omega), g 108 (by omega), g 109 (by omega), g 110 (by omega), g 111 (by omega), g 112 (by omega), g 113 (by omega), g 114 (by omega), g 115 (by omega), g 116 (by omega), g 117 (by omega), g 118 (by omega), g 119 (by omega), g 120 (by omega), g 121 (by omega), g 122 (by omega), g 123 (by omega), g 124 (by omega), g 125 (by omega), g 126 (by omega), g 127 (by omega), g 128 (by omega), g 129 (by omega), g 130 (by omega), g 131 (by omega), g 132 (by omega), g 133 (by omega)]
  exact h
/-- numbers as they may be, behind c calls -/
def RG (S : Nat → Nat → Int) (c : Nat) : Prop := (0 ≤ S 1 0 ∧ S 1 0 ≤ 80) ∧ (2 ≤ S 1 1 ∧ S 1 1 ≤ 6) ∧ (0 ≤ S 1 2 ∧ S 1 2 ≤ 8) ∧ (0 ≤ S 1 3 ∧ S 1 3 ≤ 6) ∧ (0 ≤ S 1 4 ∧ S 1 4 < (2 ^ (S 1 3).toNat : Nat)) ∧ (0 ≤ S 1 5 ∧ S 1 5 ≤ 12) ∧ (0 ≤ S 1 6 ∧ S 1 6 ≤ 8) ∧ (S 1 7 = 0 ∨ S 1 7 = 1) ∧ (S 1 8 = 0 ∨ S 1 8 = 1) ∧
  (∀ j, 0 ≤ S 0 j ∧ S 0 j ≤ 255) ∧ (∀ k : Nat, (k : Int) < S 1 2 → 0 ≤ S 2 k ∧ S 2 k < S 3 k ∧ S 3 k < S 1 1 ∧ 1 ≤ S 4 k ∧ S 4 k ≤ 9 ∧ 0 ≤ S 5 k ∧ S 5 k ≤ 2) ∧ (∀ p : Nat, (p : Int) < S 1 3 → 1 ≤ S 6 p ∧ S 6 p ≤ 9 ∧ 0 ≤ S 7 p ∧ S 7 p < S 1 1) ∧ ∀ i j : Nat, i < j → (j : Int) < S 1 2 → ¬ (S 2 i = S 2 j ∧ S 3 i = S 3 j)
/-- where people are, their clocks, how worn they are, as they may be -/
def RS (S : Nat → Nat → Int) (c : Nat) (x y z : Nat) : Prop := (∀ p : Nat, p < 6 → 0 ≤ S x p ∧ S x p ≤ 5) ∧ (∀ p : Nat, (p : Int) < S 1 3 → S x p < S 1 1) ∧ (∀ p : Nat, p < 6 → 0 ≤ S y p ∧ S y p ≤ 243 * c) ∧ ∀ p : Nat, p < 6 → 0 ≤ S z p ∧ S z p ≤ 9
def RR (S : Nat → Nat → Int) (c : Nat) : Prop := RG S c ∧ RS S c 8 9 10 ∧ (∀ j : Nat, (j : Int) < S 1 5 → RS S c (20 + 3 * j) (21 + 3 * j) (22 + 3 * j)) ∧ (S 1 7 = 1 → RS S c 14 15 16) ∧ (S 1 8 = 1 → RS S c 17 18 19) ∧ (∀ j : Nat, j < 8 → 0 ≤ S 11 j ∧ S 11 j ≤ 5 ∧ 0 ≤ S 12 j ∧ S 12 j ≤ 5 ∧ (S 13 j = 0 ∨ S 13 j = 1)) ∧ c ≤ 512
