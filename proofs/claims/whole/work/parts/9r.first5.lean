set_option maxHeartbeats 4000000 in
theorem z_go {M d pc : Nat} {ls st : List Value} {B : am_H} {e : am_E} {c : am_C} (c0 : Nat × List Value) (h : am_dec M d pc ls st ((300, []) :: B) e = .inr (.inl c)) : ∃ d' pc' ls' st' B', c = (d', M, pc', ls', st', (300, []) :: B') ∧ am_dec M d pc ls st (c0 :: B) e = .inr (.inl (d', M, pc', ls', st', c0 :: B')) := by
  have hop : (match am_op e pc ls st ((300, []) :: B) with
    | none => (.inl none : am_T)
    | some q => .inr (.inl (d, M, q.1, q.2.1, q.2.2.1, q.2.2.2))) = .inr (.inl c) → ∃ d' pc' ls' st' B', c = (d', M, pc', ls', st', (300, []) :: B') ∧ (match am_op e pc ls st (c0 :: B) with
    | none => (.inl none : am_T)
    | some q => .inr (.inl (d, M, q.1, q.2.1, q.2.2.1, q.2.2.2))) = .inr (.inl (d', M, pc', ls', st', c0 :: B')) := by
    intro h
    cases ho : am_op e pc ls st ((300, []) :: B) with
    | none => rw [ho] at h; cases h
    | some q =>
      rw [ho] at h
      obtain ⟨B', h1, h2⟩ := z_op c0 ho
      cases h
      rw [h2, h1]
      exact ⟨_, _, _, _, B', rfl, rfl⟩
  obtain ⟨ins, ln, x, y, w⟩ := e
  unfold am_dec at h ⊢
  cases ins
  case ireturn => cases h
  case lreturn => cases h
  case return_ => cases h
  case invokevirtual => exact (am_cl_not h).elim
  case invokestatic =>
    dsimp only at h ⊢
    split at h
    next g =>
      rw [if_pos g]
      unfold am_mm at h ⊢
      split at h
      · split at h
        next g2 => cases h; exact ⟨_, _, _, _, B, rfl, if_pos g2⟩
        · cases h
      · cases h
    · exact (am_cl_not h).elim
  case invokespecial =>
    dsimp only at h ⊢
    split at h
    next g =>
      rw [if_pos g]
      split at h
      · split at h
        next g2 => cases h; exact ⟨_, _, _, _, B, rfl, if_pos g2⟩
        · cases h
      · cases h
    · exact (am_cl_not h).elim
  all_goals exact hop h
theorem z_call {M d pc : Nat} {ls st : List Value} {B : am_H} {e : am_E} {q : am_C × (Option Value → am_H → am_C)} (c0 : Nat × List Value) (h : am_dec M d pc ls st ((300, []) :: B) e = .inr (.inr q)) : am_dec M d pc ls st (c0 :: B) e = am_cl e.2.2.1 d M pc ls st (c0 :: B) := by
  obtain ⟨-, g⟩ := am_dec_call h
  unfold am_dec
  rcases g with ⟨i, g⟩ | ⟨⟨i, g⟩, g2⟩ | ⟨⟨i, g⟩, g2⟩
  · rw [g]
  · rw [g]; dsimp only; rw [if_neg g2]
  · rw [g]; dsimp only; rw [if_neg g2]
