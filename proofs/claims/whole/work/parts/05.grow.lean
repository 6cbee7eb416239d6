theorem am_i1_some {st : List Value} {q : Nat × List Value × List Value × am_H} {k : Int32 → List Value → am_Q} (h : am_i1 st k = some q) : ∃ x r, st = .int x :: r ∧ k x r = some q := by
  unfold am_i1 at h
  split at h
  · exact ⟨_, _, rfl, h⟩
  · cases h
theorem am_i2_some {st : List Value} {q : Nat × List Value × List Value × am_H} {k : Int32 → Int32 → List Value → am_Q} (h : am_i2 st k = some q) : ∃ x y r, st = .int y :: .int x :: r ∧ k x y r = some q := by
  unfold am_i2 at h
  split at h
  · exact ⟨_, _, _, rfl, h⟩
  · cases h
theorem am_l1_some {st : List Value} {q : Nat × List Value × List Value × am_H} {k : Int64 → List Value → am_Q} (h : am_l1 st k = some q) : ∃ x r, st = .long x :: r ∧ k x r = some q := by
  unfold am_l1 at h
  split at h
  · exact ⟨_, _, rfl, h⟩
  · cases h
theorem am_l2_some {st : List Value} {q : Nat × List Value × List Value × am_H} {k : Int64 → Int64 → List Value → am_Q} (h : am_l2 st k = some q) : ∃ x y r, st = .long y :: .long x :: r ∧ k x y r = some q := by
  unfold am_l2 at h
  split at h
  · exact ⟨_, _, _, rfl, h⟩
  · cases h
theorem am_li_some {st : List Value} {q : Nat × List Value × List Value × am_H} {k : Int64 → Int32 → List Value → am_Q} (h : am_li st k = some q) : ∃ x y r, st = .int y :: .long x :: r ∧ k x y r = some q := by
  unfold am_li at h
  split at h
  · exact ⟨_, _, _, rfl, h⟩
  · cases h
theorem am_r1_some {st : List Value} {q : Nat × List Value × List Value × am_H} {k : Nat → List Value → am_Q} (h : am_r1 st k = some q) : ∃ x r, st = .ref x :: r ∧ k x r = some q := by
  unfold am_r1 at h
  split at h
  · exact ⟨_, _, rfl, h⟩
  · cases h
theorem am_ri_some {st : List Value} {q : Nat × List Value × List Value × am_H} {k : Nat → Int32 → List Value → am_Q} (h : am_ri st k = some q) : ∃ x y r, st = .int y :: .ref x :: r ∧ k x y r = some q := by
  unfold am_ri at h
  split at h
  · exact ⟨_, _, _, rfl, h⟩
  · cases h
theorem am_riv_some {st : List Value} {q : Nat × List Value × List Value × am_H} {k : Nat → Int32 → Value → List Value → am_Q} (h : am_riv st k = some q) : ∃ x y v r, st = v :: .int y :: .ref x :: r ∧ k x y v r = some q := by
  unfold am_riv at h
  split at h
  · exact ⟨_, _, _, _, rfl, h⟩
  · cases h
theorem am_rv_some {st : List Value} {q : Nat × List Value × List Value × am_H} {k : Nat → Value → List Value → am_Q} (h : am_rv st k = some q) : ∃ x v r, st = v :: .ref x :: r ∧ k x v r = some q := by
  unfold am_rv at h
  split at h
  · exact ⟨_, _, _, rfl, h⟩
  · cases h
theorem am_vi_some {v : Value} {q : Nat × List Value × List Value × am_H} {k : Int32 → am_Q} (h : am_vi v k = some q) : ∃ x, v = .int x ∧ k x = some q := by
  unfold am_vi at h
  split at h
  · exact ⟨_, rfl, h⟩
  · cases h
theorem am_vl_some {v : Value} {q : Nat × List Value × List Value × am_H} {k : Int64 → am_Q} (h : am_vl v k = some q) : ∃ x, v = .long x ∧ k x = some q := by
  unfold am_vl at h
  split at h
  · exact ⟨_, rfl, h⟩
  · cases h
theorem am_vr_some {v : Value} {q : Nat × List Value × List Value × am_H} {k : Nat → am_Q} (h : am_vr v k = some q) : ∃ x, v = .ref x ∧ k x = some q := by
  unfold am_vr at h
  split at h
  · exact ⟨_, rfl, h⟩
  · cases h
theorem am_vo_some {v : Option Value} {q : Nat × List Value × List Value × am_H} {k : Value → am_Q} (h : am_vo v k = some q) : ∃ x, v = some x ∧ k x = some q := by
  unfold am_vo at h
  split at h
  · exact ⟨_, rfl, h⟩
  · cases h
theorem am_ho_some {v : Option am_H} {q : Nat × List Value × List Value × am_H} {k : am_H → am_Q} (h : am_ho v k = some q) : ∃ x, v = some x ∧ k x = some q := by
  unfold am_ho at h
  split at h
  · exact ⟨_, rfl, h⟩
  · cases h
theorem am_if_some {c : Prop} [Decidable c] {q : Nat × List Value × List Value × am_H} {k : am_Q} (h : am_if c k = some q) : c ∧ k = some q := by
  unfold am_if at h
  split at h
  next g => exact ⟨g, h⟩
  next => cases h
theorem am_cmp_some {c : ClassFile.Cond} {x y : Int32} {q : Nat × List Value × List Value × am_H} {k1 k2 : am_Q} (h : am_cmp c x y k1 k2 = some q) : k1 = some q ∨ k2 = some q := by
  unfold am_cmp at h
  split at h <;> split at h <;> first | exact Or.inl h | exact Or.inr h
theorem am_len_p (A : am_H) (i : Nat) (c : Nat × List Value) (h : i < A.length) : (am_p A i c).length = A.length := by rw [am_p_set A i c h, List.length_set]
theorem am_sz_p (A : am_H) (i : Nat) (c : Nat × List Value) {d : Nat × List Value} (h : A[i]? = some d) (hl : c.2.length = d.2.length) : am_sz (am_p A i c) = am_sz A := by
  induction A generalizing i with
  | nil => simp at h
  | cons x t ih =>
    cases i with
    | zero =>
      simp at h
      subst h
      simp [am_p, am_sz, hl]
    | succ i =>
      have := ih i (by simpa using h)
      simp only [am_p, am_sz, List.map_cons, List.sum_cons] at this ⊢
      omega
theorem am_pf_some {x y : Nat} {A A' : am_H} {a : Nat} {v : Value} (h : am_pf x y A a v = some A') : (am_g A a).1 = x ∧ y < (am_g A a).2.length ∧ A' = am_p A a (x, (am_g A a).2.set y v) := by
  unfold am_pf at h
  split at h
  next g => exact ⟨g.1, g.2, (Option.some.inj h).symm⟩
  next => cases h
theorem am_wr_some {t : Nat} {A A' : am_H} {a : Nat} {i : Int32} {v : Value} (h : am_wr t A a i v = some A') : (am_g A a).1 = t ∧ ¬ i < 0 ∧ i.toNatClampNeg < (am_g A a).2.length ∧ A' = am_p A a (t, (am_g A a).2.set i.toNatClampNeg v) := by
  unfold am_wr at h
  split at h
  next g => exact ⟨g.1, g.2.1, g.2.2, (Option.some.inj h).symm⟩
  next => cases h
theorem am_rd_some {t : Nat} {A : am_H} {a : Nat} {i : Int32} {v : Value} (h : am_rd t A a i = some v) : (am_g A a).1 = t ∧ ¬ i < 0 ∧ (am_g A a).2[i.toNatClampNeg]? = some v := by
  unfold am_rd at h
  split at h
  next g => exact ⟨g.1, g.2, h⟩
  next => cases h
theorem am_gf_some {x y : Nat} {A : am_H} {a : Nat} {v : Value} (h : am_gf x y A a = some v) : (am_g A a).1 = x ∧ (am_g A a).2[y]? = some v := by
  unfold am_gf at h
  split at h
  next g => exact ⟨g, h⟩
  next => cases h
theorem am_in_of {A : am_H} {a k : Nat} (h : k < (am_g A a).2.length) : A[a]? = some (am_g A a) := by
  unfold am_g at h ⊢
  cases hc : A[a]? with
  | none => simp [List.getD, hc] at h
  | some c => simp [List.getD, hc]
theorem am_grow_p {A : am_H} {a k t : Nat} {v : Value} (h : k < (am_g A a).2.length) : (am_p A a (t, (am_g A a).2.set k v)).length = A.length ∧ am_sz (am_p A a (t, (am_g A a).2.set k v)) = am_sz A :=
  ⟨am_len_p _ _ _ (List.getElem?_eq_some_iff.mp (am_in_of h)).1, am_sz_p _ _ _ (am_in_of h) (by simp)⟩
theorem am_sz_app (A : am_H) (c : Nat × List Value) : am_sz (A ++ [c]) = am_sz A + c.2.length := by simp [am_sz]
set_option maxHeartbeats 4000000 in
theorem am_op_grow {e : am_E} {pc : Nat} {ls st : List Value} {A : am_H} {q : Nat × List Value × List Value × am_H} (h : am_op e pc ls st A = some q) : A.length ≤ q.2.2.2.length ∧ am_sz A ≤ am_sz q.2.2.2 := by
  obtain ⟨ins, ln, x, y, w⟩ := e
  unfold am_op at h
  cases ins
  all_goals try dsimp only at h
  case putfield i =>
    obtain ⟨a, v, r, -, h⟩ := am_rv_some h
    obtain ⟨-, h⟩ := am_if_some h
    obtain ⟨A', hA, h⟩ := am_ho_some h
    obtain ⟨-, h1, rfl⟩ := am_pf_some hA
    cases h
    have := am_grow_p (t := x) (v := v) h1
    exact ⟨Nat.le_of_eq this.1.symm, Nat.le_of_eq this.2.symm⟩
  case iastore =>
    obtain ⟨a, i, v, r, -, h⟩ := am_riv_some h
    obtain ⟨z, -, h⟩ := am_vi_some h
    obtain ⟨A', hA, h⟩ := am_ho_some h
    obtain ⟨-, -, h1, rfl⟩ := am_wr_some hA
    cases h
    have := am_grow_p (t := 100) (v := .int z) h1
    exact ⟨Nat.le_of_eq this.1.symm, Nat.le_of_eq this.2.symm⟩
  case lastore =>
    obtain ⟨a, i, v, r, -, h⟩ := am_riv_some h
    obtain ⟨z, -, h⟩ := am_vl_some h
    obtain ⟨A', hA, h⟩ := am_ho_some h
    obtain ⟨-, -, h1, rfl⟩ := am_wr_some hA
    cases h
    have := am_grow_p (t := 101) (v := .long z) h1
    exact ⟨Nat.le_of_eq this.1.symm, Nat.le_of_eq this.2.symm⟩
  case bastore =>
    obtain ⟨a, i, v, r, -, h⟩ := am_riv_some h
    obtain ⟨z, -, h⟩ := am_vi_some h
    obtain ⟨-, h⟩ := am_if_some h
    obtain ⟨A', hA, h⟩ := am_ho_some h
    obtain ⟨-, -, h1, rfl⟩ := am_wr_some hA
    cases h
    have := am_grow_p (t := 102) (v := .int z) h1
    exact ⟨Nat.le_of_eq this.1.symm, Nat.le_of_eq this.2.symm⟩
  case aastore =>
    obtain ⟨a, i, v, r, -, h⟩ := am_riv_some h
    obtain ⟨z, -, h⟩ := am_vr_some h
    obtain ⟨-, h⟩ := am_if_some h
    obtain ⟨A', hA, h⟩ := am_ho_some h
    obtain ⟨-, -, h1, rfl⟩ := am_wr_some hA
    cases h
    have := am_grow_p (t := (am_g A a).1) (v := .ref z) h1
    exact ⟨Nat.le_of_eq this.1.symm, Nat.le_of_eq this.2.symm⟩
  case new i =>
    cases h
    exact ⟨by simp, by show _ ≤ am_sz (A ++ [_]); rw [am_sz_app]; omega⟩
  case newarray i =>
    obtain ⟨n, r, -, h⟩ := am_i1_some h
    obtain ⟨-, h⟩ := am_if_some h
    cases h
    exact ⟨by simp, by show _ ≤ am_sz (A ++ [_]); rw [am_sz_app]; omega⟩
  case anewarray i =>
    obtain ⟨n, r, -, h⟩ := am_i1_some h
    obtain ⟨-, h⟩ := am_if_some h
    cases h
    exact ⟨by simp, by show _ ≤ am_sz (A ++ [_]); rw [am_sz_app]; omega⟩
  case tableswitch a b c d =>
    obtain ⟨n, r, -, h⟩ := am_i1_some h
    have : q.2.2.2 = A := by
      split at h
      · cases h; rfl
      · split at h
        · cases h; rfl
        · cases h
    rw [this]; exact ⟨Nat.le_refl _, Nat.le_refl _⟩
  case dup =>
    have : q.2.2.2 = A := by
      split at h
      · obtain ⟨-, h⟩ := am_if_some h
        cases h; rfl
      · cases h
    rw [this]; exact ⟨Nat.le_refl _, Nat.le_refl _⟩
  case dup2 =>
    have : q.2.2.2 = A := by
      split at h
      · obtain ⟨-, h⟩ := am_if_some h
        cases h; rfl
      · cases h
    rw [this]; exact ⟨Nat.le_refl _, Nat.le_refl _⟩
  all_goals
    first
    | (cases h <;> exact ⟨Nat.le_refl _, Nat.le_refl _⟩)
    | (have : q.2.2.2 = A := by
        first
        | (obtain ⟨_, _, _, -, h⟩ := am_i2_some h; first | (cases h; rfl) | (obtain ⟨-, h⟩ := am_if_some h; cases h; rfl) | (rcases am_cmp_some h with h | h <;> (cases h; rfl)))
        | (obtain ⟨_, _, -, h⟩ := am_i1_some h; first | (cases h; rfl) | (obtain ⟨-, h⟩ := am_if_some h; cases h; rfl) | (rcases am_cmp_some h with h | h <;> (cases h; rfl)))
        | (obtain ⟨_, _, _, -, h⟩ := am_l2_some h; first | (cases h; rfl) | (obtain ⟨-, h⟩ := am_if_some h; cases h; rfl))
        | (obtain ⟨_, _, -, h⟩ := am_l1_some h; first | (cases h; rfl) | (obtain ⟨-, h⟩ := am_if_some h; cases h; rfl))
        | (obtain ⟨_, _, _, -, h⟩ := am_li_some h; cases h; rfl)
        | (obtain ⟨_, -, h⟩ := am_vo_some h; first | (obtain ⟨_, -, h⟩ := am_vi_some h; cases h; rfl) | (obtain ⟨_, -, h⟩ := am_vl_some h; cases h; rfl) | (obtain ⟨_, -, h⟩ := am_vr_some h; cases h; rfl))
        | (obtain ⟨_, _, -, h⟩ := am_r1_some h; first | (obtain ⟨-, h⟩ := am_if_some h; cases h; rfl) | (obtain ⟨_, -, h⟩ := am_vo_some h; cases h; rfl))
        | (obtain ⟨_, _, _, -, h⟩ := am_ri_some h; obtain ⟨_, -, h⟩ := am_vo_some h; first | (obtain ⟨_, -, h⟩ := am_vi_some h; cases h; rfl) | (obtain ⟨_, -, h⟩ := am_vl_some h; cases h; rfl) | (obtain ⟨_, -, h⟩ := am_vr_some h; obtain ⟨-, h⟩ := am_if_some h; cases h; rfl))
       rw [this]; exact ⟨Nat.le_refl _, Nat.le_refl _⟩)
theorem am_cl_grow {K d M pc : Nat} {ls st : List Value} {A : am_H} {q : am_C × (Option Value → am_H → am_C)} (h : am_cl K d M pc ls st A = .inr (.inr q)) : q.1.2.2.2.2.2 = A ∧ ∀ v A', (q.2 v A').2.2.2.2.2 = A' := by
  unfold am_cl at h
  split at h
  · cases h
  · split at h
    · cases h; exact ⟨rfl, fun _ _ => rfl⟩
    · cases h
theorem am_cl_not {K d M pc : Nat} {ls st : List Value} {A : am_H} {z : am_C} (h : am_cl K d M pc ls st A = .inr (.inl z)) : False := by
  unfold am_cl at h
  split at h
  · cases h
  · split at h <;> cases h
theorem am_cl_inl {K d M pc : Nat} {ls st : List Value} {A : am_H} {r : am_R} (h : am_cl K d M pc ls st A = .inl r) : r = none := by
  unfold am_cl at h
  split at h
  · cases h; rfl
  · split at h
    · cases h
    · cases h; rfl
set_option maxHeartbeats 4000000 in
theorem am_dec_go {M d pc : Nat} {ls st : List Value} {A : am_H} {e : am_E} {c : am_C} (h : am_dec M d pc ls st A e = .inr (.inl c)) : A.length ≤ c.2.2.2.2.2.length ∧ am_sz A ≤ am_sz c.2.2.2.2.2 := by
  have hop : ∀ T : am_T, (match am_op e pc ls st A with
    | none => (.inl none : am_T)
    | some q => .inr (.inl (d, M, q.1, q.2.1, q.2.2.1, q.2.2.2))) = .inr (.inl c) → A.length ≤ c.2.2.2.2.2.length ∧ am_sz A ≤ am_sz c.2.2.2.2.2 := by
    intro _ h
    cases ho : am_op e pc ls st A with
    | none => rw [ho] at h; cases h
    | some q => rw [ho] at h; cases h; exact am_op_grow ho
  unfold am_dec at h
  split at h
  · cases h
  · cases h
  · cases h
  · exact (am_cl_not h).elim
  · split at h
    · unfold am_mm at h
      split at h
      · split at h
        · cases h; exact ⟨Nat.le_refl _, Nat.le_refl _⟩
        · cases h
      · cases h
    · exact (am_cl_not h).elim
  · split at h
    · split at h
      · split at h
        · cases h; exact ⟨Nat.le_refl _, Nat.le_refl _⟩
        · cases h
      · cases h
    · exact (am_cl_not h).elim
  · exact hop (.inl none) h
theorem am_dec_call {M d pc : Nat} {ls st : List Value} {A : am_H} {e : am_E} {q : am_C × (Option Value → am_H → am_C)} (h : am_dec M d pc ls st A e = .inr (.inr q)) : am_cl e.2.2.1 d M pc ls st A = .inr (.inr q) ∧ ((∃ i, e.1 = .invokevirtual i) ∨ ((∃ i, e.1 = .invokestatic i) ∧ ¬ (e.2.2.1 = 167 ∨ e.2.2.1 = 168)) ∨ ((∃ i, e.1 = .invokespecial i) ∧ ¬ e.2.2.1 = 9999)) := by
  unfold am_dec at h
  split at h
  · cases h
  · cases h
  · cases h
  next i hi => exact ⟨h, Or.inl ⟨i, hi⟩⟩
  next i hi =>
    split at h
    · unfold am_mm at h
      split at h
      · split at h <;> cases h
      · cases h
    next g => exact ⟨h, Or.inr (Or.inl ⟨⟨i, hi⟩, g⟩)⟩
  next i hi =>
    split at h
    · split at h
      · split at h <;> cases h
      · cases h
    next g => exact ⟨h, Or.inr (Or.inr ⟨⟨i, hi⟩, g⟩)⟩
  · cases ho : am_op e pc ls st A with
    | none => rw [ho] at h; cases h
    | some q => rw [ho] at h; cases h
theorem am_dec_ret {M d pc : Nat} {ls st : List Value} {A : am_H} {e : am_E} {r : Option Value} {A' : am_H} (h : am_dec M d pc ls st A e = .inl (some (r, A'))) : A' = A := by
  unfold am_dec at h
  split at h
  · split at h
    · split at h
      · cases h; rfl
      · cases h
    · cases h
  · split at h
    · cases h; rfl
    · cases h
  · split at h
    · cases h; rfl
    · cases h
  · cases (am_cl_inl h)
  · split at h
    · unfold am_mm at h
      split at h
      · split at h <;> cases h
      · cases h
    · cases (am_cl_inl h)
  · split at h
    · split at h
      · split at h <;> cases h
      · cases h
    · cases (am_cl_inl h)
  · cases ho : am_op e pc ls st A with
    | none => rw [ho] at h; cases h
    | some q => rw [ho] at h; cases h
theorem am_grow (n : Nat) : ∀ (c : am_C) (r : Option Value) (A' : am_H), am_ex n c = some (r, A') → c.2.2.2.2.2.length ≤ A'.length ∧ am_sz c.2.2.2.2.2 ≤ am_sz A' := by
  induction n with
  | zero => intro c r A' h; cases h
  | succ n ih =>
    intro c r A' h
    obtain ⟨d, M, pc, ls, st, A⟩ := c
    have h : am_F (am_ex n) (d, M, pc, ls, st, A) = some (r, A') := h
    unfold am_F am_D at h
    dsimp only at h ⊢
    cases ht : am_tab M pc with
    | none => rw [ht] at h; cases h
    | some e =>
      rw [ht] at h
      dsimp only at h
      cases hd : am_dec M d pc ls st A e with
      | inl z =>
        rw [hd] at h
        dsimp only at h
        subst h
        rw [am_dec_ret hd]
        exact ⟨Nat.le_refl _, Nat.le_refl _⟩
      | inr z =>
        cases z with
        | inl c' =>
          rw [hd] at h
          have h1 := am_dec_go hd
          have h2 := ih c' r A' h
          exact ⟨Nat.le_trans h1.1 h2.1, Nat.le_trans h1.2 h2.2⟩
        | inr q =>
          rw [hd] at h
          obtain ⟨h1, h2⟩ := am_cl_grow (am_dec_call hd).1
          dsimp only at h
          cases hq : am_ex n q.1 with
          | none => rw [hq] at h; cases h
          | some v =>
            rw [hq] at h
            obtain ⟨v, A1⟩ := v
            have h3 := ih q.1 v A1 hq
            have h4 := ih _ r A' h
            rw [h1] at h3
            rw [h2] at h4
            exact ⟨Nat.le_trans h3.1 h4.1, Nat.le_trans h3.2 h4.2⟩
