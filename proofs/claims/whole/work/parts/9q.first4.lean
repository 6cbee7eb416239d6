set_option maxHeartbeats 4000000 in
theorem z_ret {M d pc : Nat} {ls st : List Value} {B A' : am_H} {e : am_E} {r : Option Value} (c0 : Nat × List Value) (h : am_dec M d pc ls st ((300, []) :: B) e = .inl (some (r, A'))) : A' = (300, []) :: B ∧ am_dec M d pc ls st (c0 :: B) e = .inl (some (r, c0 :: B)) := by
  refine ⟨am_dec_ret h, ?_⟩
  obtain ⟨ins, ln, x, y, w⟩ := e
  unfold am_dec at h ⊢
  cases ins
  all_goals dsimp only at h ⊢
  case ireturn =>
    split at h
    · split at h
      next g => cases h; rw [if_pos g]
      · cases h
    · cases h
  case lreturn =>
    split at h
    · cases h; rfl
    · cases h
  case return_ =>
    split at h
    · cases h; rfl
    · cases h
  case invokevirtual => cases (am_cl_inl h)
  case invokestatic =>
    split at h
    · unfold am_mm at h
      split at h
      · split at h <;> cases h
      · cases h
    · cases (am_cl_inl h)
  case invokespecial =>
    split at h
    · split at h
      · split at h <;> cases h
      · cases h
    · cases (am_cl_inl h)
  all_goals (split at h <;> cases h)
