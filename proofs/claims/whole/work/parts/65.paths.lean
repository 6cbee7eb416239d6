/-- a town's canals as they may be -/
def TW (S : Nat → Nat → Int) : Prop := (2 ≤ S 1 1 ∧ S 1 1 ≤ 6) ∧ (0 ≤ S 1 2 ∧ S 1 2 ≤ 8) ∧ (∀ k : Nat, (k : Int) < S 1 2 → 0 ≤ S 2 k ∧ S 2 k < S 3 k ∧ S 3 k < S 1 1 ∧ 1 ≤ S 4 k ∧ S 4 k ≤ 1000) ∧ ∀ i j : Nat, i < j → (j : Int) < S 1 2 → ¬ (S 2 i = S 2 j ∧ S 3 i = S 3 j)
/-- a canal between two corners -/
def ed (S : Nat → Nat → Int) (k a b : Nat) : Prop := (a : Int) = S 2 k ∧ (b : Int) = S 3 k ∨ (a : Int) = S 3 k ∧ (b : Int) = S 2 k
theorem ed_sym {S : Nat → Nat → Int} {k a b : Nat} (h : ed S k a b) : ed S k b a := by unfold ed at *; omega
theorem fwC_pos {S : Nat → Nat → Int} {k a b : Nat} (h : ed S k a b) : fwC S (k + 1) a b = S 4 k := if_pos h
theorem fwC_neg {S : Nat → Nat → Int} {k a b : Nat} (h : ¬ ed S k a b) : fwC S (k + 1) a b = fwC S k a b := if_neg h
theorem fwC_diag {S : Nat → Nat → Int} (h : TW S) (a : Nat) : ∀ k : Nat, (k : Int) ≤ S 1 2 → fwC S k a a = 0 := by
  intro k
  induction k with
  | zero => intro _; exact if_pos rfl
  | succ k ih =>
    intro hk
    have := h.2.2.1 k (by omega)
    rw [fwC_neg (by unfold ed; omega)]
    exact ih (by omega)
theorem fwC_edge {S : Nat → Nat → Int} (h : TW S) {k a b : Nat} (he : ed S k a b) : ∀ m : Nat, (m : Int) ≤ S 1 2 → k < m → fwC S m a b = S 4 k := by
  intro m
  induction m with
  | zero => intro _ hk; omega
  | succ m ih =>
    intro hm hk
    by_cases q : ed S m a b
    · by_cases qk : k = m
      · subst qk; exact fwC_pos q
      · exfalso
        have h1 := h.2.2.1 k (by omega)
        have h2 := h.2.2.1 m (by omega)
        apply h.2.2.2 k m (by omega) (by omega)
        unfold ed at he q
        omega
    · rw [fwC_neg q]
      by_cases qk : k = m
      · subst qk; exact absurd he q
      · exact ih (by omega) (by omega)
theorem fwC_cases {S : Nat → Nat → Int} {a b : Nat} (hab : a ≠ b) : ∀ m : Nat, fwC S m a b = 2147483647 ∨ ∃ k : Nat, k < m ∧ ed S k a b ∧ fwC S m a b = S 4 k := by
  intro m
  induction m with
  | zero => left; exact if_neg hab
  | succ m ih =>
    by_cases q : ed S m a b
    · right; exact ⟨m, by omega, q, fwC_pos q⟩
    · rw [fwC_neg q]
      rcases ih with e | ⟨k, e1, e2, e3⟩
      · left; exact e
      · right; exact ⟨k, by omega, e2, e3⟩
theorem pl_fin {a b : Int} (h1 : a ≠ 2147483647) (h2 : b ≠ 2147483647) : pl a b = a + b := by unfold pl; rw [if_neg (by omega)]
theorem fwS_le1 (D : Nat → Nat → Int) (k a b : Nat) : fwS D k a b ≤ D a b := by unfold fwS; split <;> omega
theorem fwS_le2 {D : Nat → Nat → Int} {k a b : Nat} (h1 : D a k ≠ 2147483647) (h2 : D k b ≠ 2147483647) : fwS D k a b ≤ D a k + D k b := by
  unfold fwS
  rw [pl_fin h1 h2]
  split <;> omega
theorem fwS_fin (D : Nat → Nat → Int) (k a b : Nat) : fwS D k a b = D a b ∨ (fwS D k a b = D a k + D k b ∧ D a k ≠ 2147483647 ∧ D k b ≠ 2147483647) ∨ (fwS D k a b = 2147483647 ∧ 2147483647 < D a b) := by
  by_cases h1 : D a k = 2147483647 ∨ D k b = 2147483647
  · have : pl (D a k) (D k b) = 2147483647 := if_pos h1
    unfold fwS
    rw [this]
    split
    · right; right; omega
    · left; rfl
  · have : pl (D a k) (D k b) = D a k + D k b := if_neg h1
    unfold fwS
    rw [this]
    split
    · right; left; omega
    · left; rfl
def FWi (D : Nat → Nat → Int) (k : Nat) : Prop := (∀ a, D a a = 0) ∧ (∀ a b, D a b = 2147483647 ∨ 0 ≤ D a b ∧ D a b ≤ 1000 * ((2 ^ k : Nat) : Int)) ∧ ∀ c, c < k → ∀ a b, D a c ≠ 2147483647 → D c b ≠ 2147483647 → D a b ≤ D a c + D c b
theorem fw_inv {S : Nat → Nat → Int} (h : TW S) : ∀ k : Nat, k ≤ 6 → FWi (fwD S k) k := by
  intro k
  induction k with
  | zero =>
    intro _
    have e : fwD S 0 = fwC S (S 1 2).toNat := rfl
    have hK := h.2.1
    rw [e]
    refine ⟨fun a => fwC_diag h a _ (by omega), fun a b => ?_, fun c hc => by omega⟩
    by_cases q : a = b
    · subst q; right; rw [fwC_diag h a _ (by omega)]; omega
    · rcases fwC_cases (S := S) q (S 1 2).toNat with e | ⟨k, e1, e2, e3⟩
      · left; exact e
      · right; have := h.2.2.1 k (by omega); rw [e3]; omega
  | succ k ih =>
    intro hk
    obtain ⟨i1, i2, i3⟩ := ih (by omega)
    have e : fwD S (k + 1) = fwS (fwD S k) k := rfl
    rw [e]
    generalize fwD S k = D at i1 i2 i3 ⊢
    have hp : ((2 ^ (k + 1) : Nat) : Int) = 2 * ((2 ^ k : Nat) : Int) := by rw [Nat.pow_succ]; omega
    have hp2 : ((2 ^ k : Nat) : Int) ≤ 32 := by
      have : 2 ^ k ≤ 2 ^ 5 := Nat.pow_le_pow_right (by omega) (by omega)
      omega
    have hp3 : (0 : Int) ≤ ((2 ^ k : Nat) : Int) := Int.natCast_nonneg _
    unfold FWi
    rw [hp]
    generalize ((2 ^ k : Nat) : Int) = B at i2 hp2 hp3 ⊢
    refine ⟨fun a => ?_, fun a b => ?_, fun c hc a b => ?_⟩
    · have j1 := fwS_le1 D k a a
      have j2 := i1 a
      have j3 := i2 a k
      have j4 := i2 k a
      rcases fwS_fin D k a a with e | e | e <;> omega
    · have j3 := i2 a k
      have j4 := i2 k b
      have j5 := i2 a b
      rcases fwS_fin D k a b with e | e | e <;> omega
    · intro f1 f2
      have r1 := i2 a b
      have r2 := i2 a c
      have r3 := i2 c b
      have r4 := i2 a k
      have r5 := i2 k b
      have r6 := i2 k c
      have r7 := i2 c k
      have l1 := fwS_le1 D k a b
      have l2 := fwS_le2 (D := D) (k := k) (a := a) (b := b)
      by_cases hck : c = k
      · subst hck
        have d1 := i1 c
        rcases fwS_fin D c a c with e1 | e1 | e1 <;> rcases fwS_fin D c c b with e2 | e2 | e2 <;> first | (have := l2 (by omega) (by omega); omega) | omega
      · have hc' : c < k := by omega
        have t1 := i3 c hc' a b
        have t2 := i3 c hc' k b
        have t3 := i3 c hc' a k
        rcases fwS_fin D k a c with e1 | e1 | e1 <;> rcases fwS_fin D k c b with e2 | e2 | e2
        · have := t1 (by omega) (by omega); omega
        · have := t3 (by omega) (by omega); have := l2 (by omega) (by omega); omega
        · omega
        · have := t2 (by omega) (by omega); have := l2 (by omega) (by omega); omega
        · have := l2 (by omega) (by omega); omega
        · omega
        · omega
        · omega
        · omega
theorem fwD_mono (S : Nat → Nat → Int) (a b j : Nat) : ∀ m : Nat, fwD S (j + m) a b ≤ fwD S j a b := by
  intro m
  induction m with
  | zero => exact Int.le_refl _
  | succ m ih => exact Int.le_trans (fwS_le1 (fwD S (j + m)) (j + m) a b) ih
/-- how far -/
def dl (S : Nat → Nat → Int) (a v : Nat) : Int := fwD S (S 1 1).toNat a v
theorem dl_rng {S : Nat → Nat → Int} (h : TW S) (a v : Nat) : dl S a v = 2147483647 ∨ 0 ≤ dl S a v ∧ dl S a v ≤ 64000 := by
  have hn := h.1
  have := (fw_inv h (S 1 1).toNat (by omega)).2.1 a v
  have hp2 : ((2 ^ (S 1 1).toNat : Nat) : Int) ≤ 64 := by
    have : 2 ^ (S 1 1).toNat ≤ 2 ^ 6 := Nat.pow_le_pow_right (by omega) (by omega)
    omega
  unfold dl
  omega
theorem dl_self {S : Nat → Nat → Int} (h : TW S) (a : Nat) : dl S a a = 0 := by
  have hn := h.1
  exact (fw_inv h (S 1 1).toNat (by omega)).1 a
theorem dl_tri {S : Nat → Nat → Int} (h : TW S) {a b c : Nat} (hc : (c : Int) < S 1 1) (h1 : dl S a c ≠ 2147483647) (h2 : dl S c b ≠ 2147483647) : dl S a b ≤ dl S a c + dl S c b := by
  have hn := h.1
  exact (fw_inv h (S 1 1).toNat (by omega)).2.2 c (by omega) a b h1 h2
theorem ed_lt {S : Nat → Nat → Int} (h : TW S) {e u v : Nat} (he : (e : Int) < S 1 2) (hed : ed S e u v) : (u : Int) < S 1 1 ∧ (v : Int) < S 1 1 ∧ u ≠ v := by
  have := h.2.2.1 e he
  unfold ed at hed
  omega
theorem dl_edge {S : Nat → Nat → Int} (h : TW S) {a e u v : Nat} (he : (e : Int) < S 1 2) (hed : ed S e u v) (hf : dl S a u ≠ 2147483647) : dl S a v ≤ dl S a u + S 4 e := by
  have hn := h.1
  have hK := h.2.1
  have hlt := ed_lt h he hed
  have hw := h.2.2.1 e he
  have h0 : fwD S 0 u v = S 4 e := fwC_edge h hed _ (by omega) (by omega)
  have h1 := fwD_mono S u v 0 (S 1 1).toNat
  rw [Nat.zero_add, h0] at h1
  have h2 := dl_tri h (a := a) (b := v) (c := u) hlt.1 hf (by unfold dl; omega)
  unfold dl at h2 ⊢
  omega
theorem dl_tight {S : Nat → Nat → Int} (h : TW S) : ∀ k : Nat, (k : Int) ≤ S 1 1 → ∀ a v : Nat, a ≠ v → fwD S k a v ≠ 2147483647 → ∃ e u : Nat, (e : Int) < S 1 2 ∧ ed S e u v ∧ dl S a u ≠ 2147483647 ∧ dl S a u + S 4 e ≤ fwD S k a v := by
  have hn := h.1
  have hK := h.2.1
  intro k
  induction k with
  | zero =>
    intro _ a v hav hf
    rcases fwC_cases (S := S) hav (S 1 2).toNat with e | ⟨k, e1, e2, e3⟩
    · exact absurd e hf
    · have d0 := dl_self h a
      refine ⟨k, a, by omega, e2, by omega, ?_⟩
      rw [show fwD S 0 a v = S 4 k from e3]
      omega
  | succ k ih =>
    intro hk a v hav hf
    have ihk := ih (by omega)
    have i1 := (fw_inv h k (by omega)).1
    have i2 := (fw_inv h k (by omega)).2.1
    have hp2 : ((2 ^ k : Nat) : Int) ≤ 64 := by
      have : 2 ^ k ≤ 2 ^ 6 := Nat.pow_le_pow_right (by omega) (by omega)
      omega
    have m1 : ∀ a b, dl S a b ≤ fwD S k a b := fun a b => by
      have := fwD_mono S a b k ((S 1 1).toNat - k)
      rw [show k + ((S 1 1).toNat - k) = (S 1 1).toNat by omega] at this
      exact this
    have e : fwD S (k + 1) = fwS (fwD S k) k := rfl
    rw [e] at hf ⊢
    have r1 := i2 a v
    have r2 := i2 a k
    have r3 := i2 k v
    rcases fwS_fin (fwD S k) k a v with e1 | e1 | e1
    · rw [e1] at hf ⊢; exact ihk a v hav hf
    · by_cases hkv : k = v
      · subst hkv
        have := i1 k
        obtain ⟨e', u, c1, c2, c3, c4⟩ := ihk a k hav e1.2.1
        exact ⟨e', u, c1, c2, c3, by omega⟩
      · obtain ⟨e', u, c1, c2, c3, c4⟩ := ihk k v hkv e1.2.2
        have g1 := m1 a k
        have g2 : dl S a k ≠ 2147483647 := by omega
        have w1 := h.2.2.1 e' c1
        have g3 := dl_tri h (a := a) (b := u) (c := k) (by omega) g2 c3
        have g4 := dl_rng h k u
        refine ⟨e', u, c1, c2, ?_, ?_⟩
        · omega
        · rw [e1.1]; omega
    · exact absurd e1.1 hf
theorem dl_far {S : Nat → Nat → Int} (h : TW S) {a v : Nat} (hav : a ≠ v) (hv : S 1 1 ≤ (v : Int)) : dl S a v = 2147483647 := by
  have hn := h.1
  by_cases q : dl S a v = 2147483647
  · exact q
  · obtain ⟨e, u, c1, c2, c3, c4⟩ := dl_tight h (S 1 1).toNat (by omega) a v hav q
    have := ed_lt h c1 c2
    omega
theorem fw_bd {S : Nat → Nat → Int} (h : TW S) {W : Int} (hW : ∀ k : Nat, (k : Int) < S 1 2 → S 4 k ≤ W) (h0 : 0 ≤ W) : ∀ k : Nat, ∀ a b : Nat, fwD S k a b = 2147483647 ∨ fwD S k a b ≤ W * ((2 ^ k : Nat) : Int) := by
  have hK := h.2.1
  intro k
  induction k with
  | zero =>
    intro a b
    have e : fwD S 0 = fwC S (S 1 2).toNat := rfl
    rw [e]
    by_cases q : a = b
    · subst q; right; rw [fwC_diag h a _ (by omega)]; omega
    · rcases fwC_cases (S := S) q (S 1 2).toNat with e | ⟨k, e1, e2, e3⟩
      · left; exact e
      · right; have := hW k (by omega); rw [e3]; omega
  | succ k ih =>
    intro a b
    have e : fwD S (k + 1) = fwS (fwD S k) k := rfl
    rw [e]
    have hp : W * ((2 ^ (k + 1) : Nat) : Int) = 2 * (W * ((2 ^ k : Nat) : Int)) := by rw [Nat.pow_succ, Int.natCast_mul]; grind
    have hp3 : (0 : Int) ≤ W * ((2 ^ k : Nat) : Int) := Int.mul_nonneg h0 (Int.natCast_nonneg _)
    rw [hp]
    have j1 := ih a b
    have j2 := ih a k
    have j3 := ih k b
    generalize W * ((2 ^ k : Nat) : Int) = B at *
    rcases fwS_fin (fwD S k) k a b with e | e | e <;> omega
theorem dl_bd {S : Nat → Nat → Int} (h : TW S) {W : Int} (hW : ∀ k : Nat, (k : Int) < S 1 2 → S 4 k ≤ W) (h0 : 0 ≤ W) (a v : Nat) : dl S a v = 2147483647 ∨ 0 ≤ dl S a v ∧ dl S a v ≤ 64 * W := by
  have hn := h.1
  have e1 := fw_bd h hW h0 (S 1 1).toNat a v
  have e2 := dl_rng h a v
  have hp2 : ((2 ^ (S 1 1).toNat : Nat) : Int) ≤ 64 := by
    have : 2 ^ (S 1 1).toNat ≤ 2 ^ 6 := Nat.pow_le_pow_right (by omega) (by omega)
    omega
  have hp3 := Int.mul_le_mul_of_nonneg_left hp2 h0
  unfold dl at *
  omega
