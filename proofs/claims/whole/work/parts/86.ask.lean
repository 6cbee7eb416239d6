def sum6 (f : Nat → Nat) : Nat := f 0 + f 1 + f 2 + f 3 + f 4 + f 5
theorem sum6_lt {f g : Nat → Nat} (h : ∀ i, i < 6 → f i ≤ g i) {j : Nat} (hj : j < 6) (hl : f j + 1 ≤ g j) : sum6 f + 1 ≤ sum6 g := by
  have h0 := h 0 (by omega)
  have h1 := h 1 (by omega)
  have h2 := h 2 (by omega)
  have h3 := h 3 (by omega)
  have h4 := h 4 (by omega)
  have h5 := h 5 (by omega)
  unfold sum6
  rcases (show j = 0 ∨ j = 1 ∨ j = 2 ∨ j = 3 ∨ j = 4 ∨ j = 5 by omega) with e | e | e | e | e | e <;> subst e <;> omega
theorem sum6_le {f g : Nat → Nat} (h : ∀ i, i < 6 → f i ≤ g i) : sum6 f ≤ sum6 g := by
  have h0 := h 0 (by omega)
  have h1 := h 1 (by omega)
  have h2 := h 2 (by omega)
  have h3 := h 3 (by omega)
  have h4 := h 4 (by omega)
  have h5 := h 5 (by omega)
  unfold sum6
  omega
def sbt (x : Int) (b : Nat) : Int := if bi x b = 1 then x else x + (2 ^ b : Nat)
theorem sbt_fin : ∀ x : Fin 64, ∀ b : Fin 6, Int32.ofInt ((x : Nat) : Int) ||| (Int32.ofInt 1 <<< (Int32.ofInt ((b : Nat) : Int) &&& 31)) = Int32.ofInt (sbt ((x : Nat) : Int) b) ∧ 0 ≤ sbt ((x : Nat) : Int) b ∧ sbt ((x : Nat) : Int) b < 64 ∧ ∀ q : Fin 6, bi (sbt ((x : Nat) : Int) b) q = if (q : Nat) = b then 1 else bi ((x : Nat) : Int) q := by decide +kernel
theorem sbt_eq {x : Int} {b : Nat} (hx : 0 ≤ x ∧ x < 64) (hb : b < 6) : Int32.ofInt x ||| (Int32.ofInt 1 <<< (Int32.ofInt (b : Int) &&& 31)) = Int32.ofInt (sbt x b) := by
  obtain ⟨f, rfl⟩ : ∃ f : Nat, x = (f : Int) := ⟨x.toNat, by omega⟩
  exact (sbt_fin ⟨f, by omega⟩ ⟨b, hb⟩).1
theorem sbt_rng {x : Int} {b : Nat} (hx : 0 ≤ x ∧ x < 64) (hb : b < 6) : 0 ≤ sbt x b ∧ sbt x b < 64 := by
  obtain ⟨f, rfl⟩ : ∃ f : Nat, x = (f : Int) := ⟨x.toNat, by omega⟩
  exact ⟨(sbt_fin ⟨f, by omega⟩ ⟨b, hb⟩).2.1, (sbt_fin ⟨f, by omega⟩ ⟨b, hb⟩).2.2.1⟩
theorem sbt_bi {x : Int} {b q : Nat} (hx : 0 ≤ x ∧ x < 64) (hb : b < 6) (hq : q < 6) : bi (sbt x b) q = if q = b then 1 else bi x q := by
  obtain ⟨f, rfl⟩ : ∃ f : Nat, x = (f : Int) := ⟨x.toNat, by omega⟩
  exact (sbt_fin ⟨f, by omega⟩ ⟨b, hb⟩).2.2.2 ⟨q, hq⟩
/-- whom one likes most of the first k that have not refused it; 6: nobody -/
def lst (S : Nat → Nat → Int) (F : Int) (a q : Nat) : Int := if q = 6 then ck S F a a else ck S F a q
def lik (S : Nat → Nat → Int) (F x : Int) (a : Nat) : Nat → Nat
  | 0 => 6
  | k + 1 => if (Rf S F a k = true ∧ bi x k = 0) ∧ ck S F a k < lst S F a (lik S F x a k) then k else lik S F x a k
theorem lik_s (S : Nat → Nat → Int) (F x : Int) (a k : Nat) : lik S F x a (k + 1) = if (Rf S F a k = true ∧ bi x k = 0) ∧ ck S F a k < lst S F a (lik S F x a k) then k else lik S F x a k := rfl
theorem lik_ok (S : Nat → Nat → Int) (F x : Int) (a k : Nat) : lik S F x a k = 6 ∨ (lik S F x a k < k ∧ Rf S F a (lik S F x a k) = true ∧ bi x (lik S F x a k) = 0) := by
  induction k with
  | zero => left; rfl
  | succ k ih =>
    rw [lik_s]
    split
    next q => right; exact ⟨by omega, q.1.1, q.1.2⟩
    next =>
      rcases ih with e | e
      · left; exact e
      · right; exact ⟨by omega, e.2⟩
theorem lik_lt {S : Nat → Nat → Int} {F x : Int} {a k : Nat} (h : lik S F x a k ≠ 6) : ck S F a (lik S F x a k) < ck S F a a := by
  induction k with
  | zero => exact absurd rfl h
  | succ k ih =>
    rw [lik_s] at h ⊢
    split at h
    next q =>
      rw [if_pos q]
      have h2 := q.2
      unfold lst at h2
      split at h2
      · exact h2
      next q2 => have := ih q2; omega
    next q =>
      rw [if_neg q]
      exact ih h
def aC (S : Nat → Nat → Int) (F : Int) (P : Nat) (w : Nat → Nat) (rf : Nat → Int) (a : Nat) : Prop := (bi F a = 1 ∧ w a = a) ∧ lik S F (rf a) a P ≠ 6
/-- the least one that asks, of the last n; 6: nobody -/
noncomputable def asr (S : Nat → Nat → Int) (F : Int) (P : Nat) (w : Nat → Nat) (rf : Nat → Int) : Nat → Nat
  | 0 => 6
  | n + 1 => @ite _ (aC S F P w rf (P - (n + 1))) (Classical.propDecidable _) (P - (n + 1)) (asr S F P w rf n)
theorem asr_t {S : Nat → Nat → Int} {F : Int} {P : Nat} {w : Nat → Nat} {rf : Nat → Int} {n : Nat} (h : aC S F P w rf (P - (n + 1))) : asr S F P w rf (n + 1) = P - (n + 1) := @if_pos _ (Classical.propDecidable _) h _ _ _
theorem asr_f {S : Nat → Nat → Int} {F : Int} {P : Nat} {w : Nat → Nat} {rf : Nat → Int} {n : Nat} (h : ¬ aC S F P w rf (P - (n + 1))) : asr S F P w rf (n + 1) = asr S F P w rf n := @if_neg _ (Classical.propDecidable _) h _ _ _
theorem asr_ok (S : Nat → Nat → Int) (F : Int) (P : Nat) (w : Nat → Nat) (rf : Nat → Int) (hP : P ≤ 6) (n : Nat) (hn : n ≤ P) : asr S F P w rf n = 6 ∨ (asr S F P w rf n < P ∧ aC S F P w rf (asr S F P w rf n)) := by
  induction n with
  | zero => left; rfl
  | succ n ih =>
    by_cases q : aC S F P w rf (P - (n + 1))
    · rw [asr_t q]; right; exact ⟨by omega, q⟩
    · rw [asr_f q]; exact ih (by omega)
/-- one asks another -/
def stW (S : Nat → Nat → Int) (F : Int) (w : Nat → Nat) (a b : Nat) : Nat → Nat := if ck S F b a < ck S F b b ∧ ck S F b a < ck S F b (w b) then up (up (if w b = b then w else up w (w b) (w b)) a b) b a else w
def stR (S : Nat → Nat → Int) (F : Int) (w : Nat → Nat) (rf : Nat → Int) (a b : Nat) : Nat → Int := if ck S F b a < ck S F b b ∧ ck S F b a < ck S F b (w b) then (if w b = b then rf else up rf (w b) (sbt (rf (w b)) b)) else up rf a (sbt (rf a) b)
noncomputable def itA (S : Nat → Nat → Int) (F : Int) (P : Nat) : Nat → (Nat → Nat) × (Nat → Int) → (Nat → Nat) × (Nat → Int)
  | 0, s => s
  | n + 1, s => if asr S F P s.1 s.2 P = 6 then s else itA S F P n (stW S F s.1 (asr S F P s.1 s.2 P) (lik S F (s.2 (asr S F P s.1 s.2 P)) (asr S F P s.1 s.2 P) P), stR S F s.1 s.2 (asr S F P s.1 s.2 P) (lik S F (s.2 (asr S F P s.1 s.2 P)) (asr S F P s.1 s.2 P) P))
theorem itA_s (S : Nat → Nat → Int) (F : Int) (P n : Nat) (s : (Nat → Nat) × (Nat → Int)) : itA S F P (n + 1) s = if asr S F P s.1 s.2 P = 6 then s else itA S F P n (stW S F s.1 (asr S F P s.1 s.2 P) (lik S F (s.2 (asr S F P s.1 s.2 P)) (asr S F P s.1 s.2 P) P), stR S F s.1 s.2 (asr S F P s.1 s.2 P) (lik S F (s.2 (asr S F P s.1 s.2 P)) (asr S F P s.1 s.2 P) P)) := rfl
/-- who is with whom, as it may be -/
def Iw (S : Nat → Nat → Int) (F : Int) (P : Nat) (w : Nat → Nat) (rf : Nat → Int) : Prop := (∀ x, P ≤ x → w x = x) ∧ (∀ x, x < P → w x < P) ∧ (∀ x, x < P → w x ≠ x → w (w x) = x ∧ Rf S F x (w x) = true) ∧ ∀ x, x < 6 → 0 ≤ rf x ∧ rf x < 64
theorem Iw_step {S : Nat → Nat → Int} {F : Int} {P : Nat} {w : Nat → Nat} {rf : Nat → Int} (hP : P ≤ 6) (h : Iw S F P w rf) {a b : Nat} (ha : a < P) (hb : b < P) (hwa : w a = a) (hR : Rf S F a b = true) : Iw S F P (stW S F w a b) (stR S F w rf a b) := by
  obtain ⟨h0, h1, h2, h3⟩ := h
  have hab : a ≠ b := fun e => (Rf_un hR).1 (by rw [e])
  unfold stW stR
  by_cases q : ck S F b a < ck S F b b ∧ ck S F b a < ck S F b (w b)
  · rw [if_pos q, if_pos q]
    by_cases q2 : w b = b
    · rw [if_pos q2, if_pos q2]
      refine ⟨fun x hx => ?_, fun x hx => ?_, fun x hx hne => ?_, h3⟩
      · rw [up_ne _ _ (by omega), up_ne _ _ (by omega)]; exact h0 x hx
      · by_cases e1 : x = b
        · subst e1; rw [up_at]; exact ha
        · rw [up_ne _ _ e1]
          by_cases e2 : x = a
          · subst e2; rw [up_at]; exact hb
          · rw [up_ne _ _ e2]; exact h1 x hx
      · by_cases e1 : x = b
        · subst e1
          rw [up_at, up_ne _ _ hab, up_at]
          exact ⟨rfl, by rw [Rf_sym]; exact hR⟩
        · rw [up_ne _ _ e1] at hne ⊢
          by_cases e2 : x = a
          · subst e2
            rw [up_at, up_at]
            exact ⟨rfl, hR⟩
          · rw [up_ne _ _ e2] at hne ⊢
            have := h2 x hx hne
            have n1 : w x ≠ b := fun e => by rw [e, q2] at this; exact e1 this.1.symm
            have n2 : w x ≠ a := fun e => by rw [e, hwa] at this; exact e2 this.1.symm
            rw [up_ne _ _ n1, up_ne _ _ n2]
            exact this
    · rw [if_neg q2, if_neg q2]
      have hb2 := h2 b hb q2
      have hv := h1 b hb
      obtain ⟨v, hvd⟩ : ∃ v, w b = v := ⟨_, rfl⟩
      rw [hvd] at q2 hb2 hv ⊢
      have hva : v ≠ a := fun e => by rw [e, hwa] at hb2; exact hab hb2.1
      refine ⟨fun x hx => ?_, fun x hx => ?_, fun x hx hne => ?_, fun x hx => ?_⟩
      · rw [up_ne _ _ (by omega), up_ne _ _ (by omega), up_ne _ _ (by omega)]; exact h0 x hx
      · by_cases e1 : x = b
        · subst e1; rw [up_at]; exact ha
        · rw [up_ne _ _ e1]
          by_cases e2 : x = a
          · subst e2; rw [up_at]; exact hb
          · rw [up_ne _ _ e2]
            by_cases e3 : x = v
            · subst e3; rw [up_at]; exact hx
            · rw [up_ne _ _ e3]; exact h1 x hx
      · by_cases e1 : x = b
        · subst e1
          rw [up_at, up_ne _ _ hab, up_at]
          exact ⟨rfl, by rw [Rf_sym]; exact hR⟩
        · rw [up_ne _ _ e1] at hne ⊢
          by_cases e2 : x = a
          · subst e2
            rw [up_at, up_at]
            exact ⟨rfl, hR⟩
          · rw [up_ne _ _ e2] at hne ⊢
            by_cases e3 : x = v
            · subst e3; rw [up_at] at hne; exact absurd rfl hne
            · rw [up_ne _ _ e3] at hne ⊢
              have := h2 x hx hne
              have n1 : w x ≠ b := fun e => by rw [e, hvd] at this; exact e3 this.1.symm
              have n2 : w x ≠ a := fun e => by rw [e, hwa] at this; exact e2 this.1.symm
              have n3 : w x ≠ v := fun e => by rw [e, hb2.1] at this; exact e1 this.1.symm
              rw [up_ne _ _ n1, up_ne _ _ n2, up_ne _ _ n3]
              exact this
      · by_cases e : x = v
        · subst e; rw [up_at]; exact sbt_rng (h3 x hx) (by omega)
        · rw [up_ne _ _ e]; exact h3 x hx
  · rw [if_neg q, if_neg q]
    refine ⟨h0, h1, h2, fun x hx => ?_⟩
    by_cases e : x = a
    · subst e; rw [up_at]; exact sbt_rng (h3 x hx) (by omega)
    · rw [up_ne _ _ e]; exact h3 x hx
/-- asked already: refused, or together -/
def cel (F : Int) (w : Nat → Nat) (rf : Nat → Int) (a b : Nat) : Nat := if bi (rf a) b = 1 ∨ (bi F a = 1 ∧ w a = b) ∧ a ≠ b then 1 else 0
def cnt (F : Int) (w : Nat → Nat) (rf : Nat → Int) : Nat := sum6 (fun a => sum6 (cel F w rf a))
theorem cel_le (F : Int) (w : Nat → Nat) (rf : Nat → Int) (a b : Nat) : cel F w rf a b ≤ 1 := by unfold cel; split <;> omega
theorem cel_1 {F : Int} {w : Nat → Nat} {rf : Nat → Int} {a b : Nat} (h : bi (rf a) b = 1 ∨ (bi F a = 1 ∧ w a = b) ∧ a ≠ b) : cel F w rf a b = 1 := if_pos h
theorem cel_0 {F : Int} {w : Nat → Nat} {rf : Nat → Int} {a b : Nat} (h : ¬ (bi (rf a) b = 1 ∨ (bi F a = 1 ∧ w a = b) ∧ a ≠ b)) : cel F w rf a b = 0 := if_neg h
theorem cnt_36 {F : Int} {w : Nat → Nat} {rf : Nat → Int} {a b : Nat} (ha : a < 6) (hb : b < 6) (h : cel F w rf a b = 0) : cnt F w rf + 1 ≤ 36 := by
  have h1 : sum6 (cel F w rf a) + 1 ≤ sum6 (fun _ => 1) := sum6_lt (fun i _ => cel_le F w rf a i) hb (by rw [h]; exact Nat.le_refl _)
  have h2 : sum6 (fun a => sum6 (cel F w rf a)) + 1 ≤ sum6 (fun _ => 6) := sum6_lt (fun i _ => sum6_le (g := fun _ => 1) (fun j _ => cel_le F w rf i j)) ha h1
  exact h2
theorem cnt_step {S : Nat → Nat → Int} {F : Int} {P : Nat} {w : Nat → Nat} {rf : Nat → Int} (hP : P ≤ 6) (h : Iw S F P w rf) {a b : Nat} (ha : a < P) (hb : b < P) (hwa : w a = a) (hL : bi F a = 1) (hR : Rf S F a b = true) (hrf : bi (rf a) b = 0) : cnt F w rf + 1 ≤ cnt F (stW S F w a b) (stR S F w rf a b) ∧ cel F w rf a b = 0 := by
  obtain ⟨h0, h1, h2, h3⟩ := h
  have hab : a ≠ b := fun e => (Rf_un hR).1 (by rw [e])
  have hLb : bi F b = 0 := by
    rcases bi_01 F b with e | e
    · exact e
    · exact absurd (hL.trans e.symm) (Rf_un hR).1
  have c0 : cel F w rf a b = 0 := cel_0 (fun e => e.elim (fun e => by omega) (fun e => e.2 (hwa.symm.trans e.1.2)))
  refine ⟨?_, c0⟩
  have mono : ∀ x y, x < 6 → y < 6 → cel F w rf x y ≤ cel F (stW S F w a b) (stR S F w rf a b) x y := by
    intro x y hx hy
    by_cases q : bi (rf x) y = 1 ∨ (bi F x = 1 ∧ w x = y) ∧ x ≠ y
    · rw [cel_1 q]
      refine Nat.le_of_eq (cel_1 ?_).symm
      unfold stW stR
      by_cases c : ck S F b a < ck S F b b ∧ ck S F b a < ck S F b (w b)
      · rw [if_pos c, if_pos c]
        by_cases q2 : w b = b
        · rw [if_pos q2, if_pos q2]
          rcases q with q | q
          · exact Or.inl q
          · right
            have n1 : x ≠ b := fun e => by rw [e, hLb] at q; omega
            have n2 : x ≠ a := fun e => by rw [e, hwa] at q; exact q.2 q.1.2
            rw [up_ne _ _ n1, up_ne _ _ n2]
            exact q
        · rw [if_neg q2, if_neg q2]
          have hb2 := h2 b hb q2
          have hv := h1 b hb
          obtain ⟨v, hvd⟩ : ∃ v, w b = v := ⟨_, rfl⟩
          rw [hvd] at q2 hb2 hv ⊢
          by_cases e : x = v
          · subst e
            left
            rw [up_at, sbt_bi (h3 x hx) (by omega) hy]
            by_cases e2 : y = b
            · rw [if_pos e2]
            · rw [if_neg e2]
              rcases q with q | q
              · exact q
              · exact absurd (hb2.1.symm.trans q.1.2).symm e2
          · rcases q with q | q
            · left; rw [up_ne _ _ e]; exact q
            · right
              have n1 : x ≠ b := fun e => by rw [e, hLb] at q; omega
              have n2 : x ≠ a := fun e => by rw [e, hwa] at q; exact q.2 q.1.2
              rw [up_ne _ _ n1, up_ne _ _ n2, up_ne _ _ e]
              exact q
      · rw [if_neg c, if_neg c]
        rcases q with q | q
        · left
          by_cases e : x = a
          · subst e
            rw [up_at, sbt_bi (h3 x hx) (by omega) hy]
            split
            · rfl
            · exact q
          · rw [up_ne _ _ e]; exact q
        · exact Or.inr q
    · rw [cel_0 q]; exact Nat.zero_le _
  have c1 : cel F (stW S F w a b) (stR S F w rf a b) a b = 1 := by
    apply cel_1
    unfold stW stR
    by_cases c : ck S F b a < ck S F b b ∧ ck S F b a < ck S F b (w b)
    · rw [if_pos c, if_pos c]
      right
      rw [up_ne _ _ hab, up_at]
      exact ⟨⟨hL, rfl⟩, hab⟩
    · rw [if_neg c, if_neg c]
      left
      rw [up_at, sbt_bi (h3 a (by omega)) (by omega) (by omega), if_pos rfl]
  have r1 : sum6 (cel F w rf a) + 1 ≤ sum6 (cel F (stW S F w a b) (stR S F w rf a b) a) := sum6_lt (fun i hi => mono a i (by omega) hi) (j := b) (by omega) (by rw [c0, c1]; exact Nat.le_refl _)
  exact sum6_lt (fun i hi => sum6_le (fun j hj => mono i j hi hj)) (j := a) (by omega) r1
