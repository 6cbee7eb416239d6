theorem z_k (K : Nat) : (am_k K).2.2.1 ≠ 300 := by
  rcases Nat.lt_or_ge K 170 with q | q
  · have h : ∀ K, K < 170 → (am_k K).2.2.1 ≠ 300 := by decide +kernel
    exact h K q
  · have hl : am_kd.length ≤ 170 := by decide +kernel
    have : am_k K = (9, 0, 0, 0, 0) := by
      unfold am_k List.getD
      rw [List.getElem?_eq_none (by omega)]
      rfl
    rw [this]
    decide
theorem z_rc {K : Nat} {as : List Value} {B : am_H} (c0 : Nat × List Value) (h : am_rc K as ((300, []) :: B) = true) : am_rc K as (c0 :: B) = true := by
  unfold am_rc at h ⊢
  split at h
  next hk =>
    split at h
    next o r =>
      cases o with
      | zero =>
        have : (300 : Nat) = (am_k K).2.2.1 := beq_iff_eq.1 (show ((300 : Nat) == (am_k K).2.2.1) = true from h)
        exact absurd this.symm (z_k K)
      | succ b => exact h
    next => cases h
  next hk => rfl
  next hk => exact h
  next => cases h
theorem z_cl {K d M pc : Nat} {ls st : List Value} {B : am_H} {q : am_C × (Option Value → am_H → am_C)} (c0 : Nat × List Value) (h : am_cl K d M pc ls st ((300, []) :: B) = .inr (.inr q)) : ∃ d' ls', q.1 = (d', K, 0, ls', [], (300, []) :: B) ∧ am_cl K d M pc ls st (c0 :: B) = .inr (.inr ((d', K, 0, ls', [], c0 :: B), q.2)) := by
  unfold am_cl at h ⊢
  split at h
  · cases h
  · split at h
    next g =>
      cases h
      exact ⟨_, _, rfl, if_pos ⟨g.1, g.2.1, z_rc c0 g.2.2.1, g.2.2.2⟩⟩
    · cases h
