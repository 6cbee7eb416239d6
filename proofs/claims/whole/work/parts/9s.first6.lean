theorem z_back {K d M pc : Nat} {ls st : List Value} {A : am_H} {q1 : am_C} {q2 : Option Value → am_H → am_C} (h : am_cl K d M pc ls st A = .inr (.inr (q1, q2))) : q1.2.1 = K ∧ ∀ v A', q2 v A' = (d, M, pc + 3, ls, v.toList ++ st.drop (am_nr K), A') := by
  unfold am_cl at h
  split at h
  · cases h
  · split at h
    · cases h; exact ⟨rfl, fun _ _ => rfl⟩
    · cases h
theorem z_ex (c0 : Nat × List Value) (n : Nat) : ∀ (d M pc : Nat) (ls st : List Value) (B : am_H) (r : Option Value) (A' : am_H), am_ex n (d, M, pc, ls, st, (300, []) :: B) = some (r, A') → ∃ B', A' = (300, []) :: B' ∧ am_ex n (d, M, pc, ls, st, c0 :: B) = some (r, c0 :: B') := by
  induction n with
  | zero => intro d M pc ls st B r A' h; cases h
  | succ n ih =>
    intro d M pc ls st B r A' h
    have h : am_F (am_ex n) (d, M, pc, ls, st, (300, []) :: B) = some (r, A') := h
    show ∃ B', A' = (300, []) :: B' ∧ am_F (am_ex n) (d, M, pc, ls, st, c0 :: B) = some (r, c0 :: B')
    unfold am_F am_D at h ⊢
    dsimp only at h ⊢
    cases ht : am_tab M pc with
    | none => rw [ht] at h; cases h
    | some e =>
      rw [ht] at h
      dsimp only at h ⊢
      cases hd : am_dec M d pc ls st ((300, []) :: B) e with
      | inl z =>
        rw [hd] at h
        dsimp only at h
        subst h
        obtain ⟨h1, h2⟩ := z_ret c0 hd
        exact ⟨B, h1, by rw [h2]⟩
      | inr z =>
        cases z with
        | inl c' =>
          rw [hd] at h
          obtain ⟨d', pc', ls', st', B', h1, h2⟩ := z_go c0 hd
          rw [h2]
          subst h1
          exact ih _ _ _ _ _ _ _ _ h
        | inr q =>
          rw [hd] at h
          obtain ⟨hc, -⟩ := am_dec_call hd
          obtain ⟨d', ls', h1, h2⟩ := z_cl c0 hc
          rw [z_call c0 hd, h2]
          obtain ⟨q1, q2⟩ := q
          dsimp only at h h1 ⊢
          subst h1
          cases hq : am_ex n (d', e.2.2.1, 0, ls', [], (300, []) :: B) with
          | none => rw [hq] at h; cases h
          | some v =>
            rw [hq] at h
            obtain ⟨v, A1⟩ := v
            obtain ⟨B1, rfl, h3⟩ := ih _ _ _ _ _ _ _ _ hq
            rw [h3]
            dsimp only at h ⊢
            obtain ⟨g1, g2⟩ := z_back hc
            rw [g2] at h ⊢
            exact ih _ _ _ _ _ _ _ _ h
