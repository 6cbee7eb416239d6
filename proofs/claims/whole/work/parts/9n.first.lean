theorem z_cmp {c : ClassFile.Cond} {x y : Int32} {a1 a2 : Nat} {ls r : List Value} {A : am_H} {q : Nat × List Value × List Value × am_H} (h : am_cmp c x y (some (a1, ls, r, A)) (some (a2, ls, r, A)) = some q) : q.2.2.2 = A ∧ ∀ A2, am_cmp c x y (some (a1, ls, r, A2)) (some (a2, ls, r, A2)) = some (q.1, q.2.1, q.2.2.1, A2) := by
  cases c
  all_goals
    unfold am_cmp at h ⊢
    dsimp only at h ⊢
    split at h
    next g => cases h; exact ⟨rfl, fun A2 => if_pos g⟩
    next g => cases h; exact ⟨rfl, fun A2 => if_neg g⟩
theorem z_pf {x y : Nat} {B A' : am_H} {a : Nat} {v : Value} (c0 : Nat × List Value) (h : am_pf x y ((300, []) :: B) a v = some A') : ∃ B', A' = (300, []) :: B' ∧ am_pf x y (c0 :: B) a v = some (c0 :: B') := by
  obtain ⟨h1, h2, h3⟩ := am_pf_some h
  cases a with
  | zero => exact absurd h2 (Nat.not_lt_zero _)
  | succ b => exact ⟨am_p B b (x, (am_g B b).2.set y v), h3, if_pos ⟨h1, h2⟩⟩
theorem z_wr {t : Nat} {B A' : am_H} {a : Nat} {i : Int32} {v : Value} (c0 : Nat × List Value) (h : am_wr t ((300, []) :: B) a i v = some A') : ∃ B', A' = (300, []) :: B' ∧ am_wr t (c0 :: B) a i v = some (c0 :: B') := by
  obtain ⟨h1, h2, h3, h4⟩ := am_wr_some h
  cases a with
  | zero => exact absurd h3 (Nat.not_lt_zero _)
  | succ b => exact ⟨am_p B b (t, (am_g B b).2.set i.toNatClampNeg v), h4, if_pos ⟨h1, h2, h3⟩⟩
theorem z_gf {x y : Nat} {B : am_H} {a : Nat} {v : Value} (c0 : Nat × List Value) (h : am_gf x y ((300, []) :: B) a = some v) : am_gf x y (c0 :: B) a = some v := by
  cases a with
  | zero => obtain ⟨-, h2⟩ := am_gf_some h; cases h2
  | succ b => exact h
theorem z_rd {t : Nat} {B : am_H} {a : Nat} {i : Int32} {v : Value} (c0 : Nat × List Value) (h : am_rd t ((300, []) :: B) a i = some v) : am_rd t (c0 :: B) a i = some v ∧ a ≠ 0 := by
  cases a with
  | zero => obtain ⟨-, -, h2⟩ := am_rd_some h; cases h2
  | succ b => exact ⟨h, by omega⟩
