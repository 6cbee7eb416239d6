/-- rows that make a new thing -/
def am_nw (e : Instr) : Bool := match e with
  | .new _ => true
  | .newarray _ => true
  | .anewarray _ => true
  | _ => false
/-- rows that call -/
def am_nc (e : Instr) : Bool := match e with
  | .invokevirtual _ => true
  | .invokestatic _ => true
  | .invokespecial _ => true
  | _ => false
/-- methods behind which nothing new is made -/
def am_nn (M : Nat) : Bool := ![0, 2, 6, 11, 18, 30, 33, 34, 44, 46, 65, 70, 169].contains M
def am_nq (q : Nat × am_E) : Bool := !am_nw q.2.1 && (!am_nc q.2.1 || am_nn q.2.2.2.1)
theorem am_nk : ∀ M, M < 170 → am_nn M = true → (am_tabs.getD M []).all (fun l => l.all am_nq) = true := by decide +kernel
theorem am_look {α : Type} (l : List (Nat × α)) {k : Nat} {v : α} (h : l.lookup k = some v) : (k, v) ∈ l := by
  induction l with
  | nil => cases h
  | cons q t ih =>
    obtain ⟨a, b⟩ := q
    rw [List.lookup_cons] at h
    cases hk : k == a with
    | true =>
      rw [hk] at h
      have e1 : k = a := by simpa using hk
      have e2 : b = v := by simpa using h
      subst e1; subst e2
      exact List.mem_cons_self
    | false =>
      rw [hk] at h
      exact List.mem_cons_of_mem _ (ih h)
theorem am_tab_nq {M pc : Nat} {e : am_E} (hM : am_nn M = true) (h : am_tab M pc = some e) : am_nw e.1 = false ∧ (am_nc e.1 = true → am_nn e.2.2.1 = true) := by
  unfold am_tab at h
  cases hl : (am_tabs.getD M [])[pc / 16]? with
  | none => rw [hl] at h; cases h
  | some l =>
    rw [hl] at h
    have hm := am_look l h
    have hM' : M < 170 := by
      rcases Nat.lt_or_ge M 170 with q | q
      · exact q
      · have : am_tabs.length = 170 := rfl
        rw [show am_tabs.getD M [] = [] by unfold List.getD; rw [List.getElem?_eq_none (by omega)]; rfl] at hl
        simp at hl
    have h1 := am_nk M hM' hM
    rw [List.all_eq_true] at h1
    have h2 := h1 l (List.mem_of_getElem? hl)
    rw [List.all_eq_true] at h2
    have h3 := h2 (pc, e) hm
    unfold am_nq at h3
    dsimp only at h3
    rw [Bool.and_eq_true, Bool.or_eq_true, Bool.not_eq_true', Bool.not_eq_true'] at h3
    refine ⟨h3.1, fun hc => ?_⟩
    rcases h3.2 with g | g
    · rw [hc] at g; cases g
    · exact g
set_option maxHeartbeats 4000000 in
theorem am_op_same {e : am_E} {pc : Nat} {ls st : List Value} {A : am_H} {q : Nat × List Value × List Value × am_H} (hn : am_nw e.1 = false) (h : am_op e pc ls st A = some q) : q.2.2.2.length = A.length ∧ am_sz q.2.2.2 = am_sz A := by
  obtain ⟨ins, ln, x, y, w⟩ := e
  unfold am_op at h
  cases ins
  all_goals try dsimp only at h
  case putfield i =>
    obtain ⟨a, v, r, -, h⟩ := am_rv_some h
    obtain ⟨-, h⟩ := am_if_some h
    obtain ⟨A', hA, h⟩ := am_ho_some h
    obtain ⟨-, h1, rfl⟩ := am_pf_some hA
    cases h
    have := am_grow_p (t := x) (v := v) h1
    exact this
  case iastore =>
    obtain ⟨a, i, v, r, -, h⟩ := am_riv_some h
    obtain ⟨z, -, h⟩ := am_vi_some h
    obtain ⟨A', hA, h⟩ := am_ho_some h
    obtain ⟨-, -, h1, rfl⟩ := am_wr_some hA
    cases h
    have := am_grow_p (t := 100) (v := .int z) h1
    exact this
  case lastore =>
    obtain ⟨a, i, v, r, -, h⟩ := am_riv_some h
    obtain ⟨z, -, h⟩ := am_vl_some h
    obtain ⟨A', hA, h⟩ := am_ho_some h
    obtain ⟨-, -, h1, rfl⟩ := am_wr_some hA
    cases h
    have := am_grow_p (t := 101) (v := .long z) h1
    exact this
  case bastore =>
    obtain ⟨a, i, v, r, -, h⟩ := am_riv_some h
    obtain ⟨z, -, h⟩ := am_vi_some h
    obtain ⟨-, h⟩ := am_if_some h
    obtain ⟨A', hA, h⟩ := am_ho_some h
    obtain ⟨-, -, h1, rfl⟩ := am_wr_some hA
    cases h
    have := am_grow_p (t := 102) (v := .int z) h1
    exact this
  case aastore =>
    obtain ⟨a, i, v, r, -, h⟩ := am_riv_some h
    obtain ⟨z, -, h⟩ := am_vr_some h
    obtain ⟨-, h⟩ := am_if_some h
    obtain ⟨A', hA, h⟩ := am_ho_some h
    obtain ⟨-, -, h1, rfl⟩ := am_wr_some hA
    cases h
    have := am_grow_p (t := (am_g A a).1) (v := .ref z) h1
    exact this
  case new i => cases hn
  case newarray i => cases hn
  case anewarray i => cases hn
  case tableswitch a b c d =>
    obtain ⟨n, r, -, h⟩ := am_i1_some h
    have : q.2.2.2 = A := by
      split at h
      · cases h; rfl
      · split at h
        · cases h; rfl
        · cases h
    rw [this]; exact ⟨rfl, rfl⟩
  case dup =>
    have : q.2.2.2 = A := by
      split at h
      · obtain ⟨-, h⟩ := am_if_some h
        cases h; rfl
      · cases h
    rw [this]; exact ⟨rfl, rfl⟩
  case dup2 =>
    have : q.2.2.2 = A := by
      split at h
      · obtain ⟨-, h⟩ := am_if_some h
        cases h; rfl
      · cases h
    rw [this]; exact ⟨rfl, rfl⟩
  all_goals
    first
    | (cases h <;> exact ⟨rfl, rfl⟩)
    | (have : q.2.2.2 = A := by
        first
        | (obtain ⟨_, _, _, -, h⟩ := am_i2_some h; first | (cases h; rfl) | (obtain ⟨-, h⟩ := am_if_some h; cases h; rfl) | (rcases am_cmp_some h with h | h <;> (cases h; rfl)))
        | (obtain ⟨_, _, -, h⟩ := am_i1_some h; first | (cases h; rfl) | (obtain ⟨-, h⟩ := am_if_some h; cases h; rfl) | (rcases am_cmp_some h with h | h <;> (cases h; rfl)))
        | (obtain ⟨_, _, _, -, h⟩ := am_l2_some h; first | (cases h; rfl) | (obtain ⟨-, h⟩ := am_if_some h; cases h; rfl))
        | (obtain ⟨_, _, -, h⟩ := am_l1_some h; first | (cases h; rfl) | (obtain ⟨-, h⟩ := am_if_some h; cases h; rfl))
        | (obtain ⟨_, _, _, -, h⟩ := am_li_some h; cases h; rfl)
        | (obtain ⟨_, -, h⟩ := am_vo_some h; first | (obtain ⟨_, -, h⟩ := am_vi_some h; cases h; rfl) | (obtain ⟨_, -, h⟩ := am_vl_some h; cases h; rfl) | (obtain ⟨_, -, h⟩ := am_vr_some h; cases h; rfl))
        | (obtain ⟨_, _, -, h⟩ := am_r1_some h; first | (obtain ⟨-, h⟩ := am_if_some h; cases h; rfl) | (obtain ⟨_, -, h⟩ := am_vo_some h; cases h; rfl))
        | (obtain ⟨_, _, _, -, h⟩ := am_ri_some h; obtain ⟨_, -, h⟩ := am_vo_some h; first | (obtain ⟨_, -, h⟩ := am_vi_some h; cases h; rfl) | (obtain ⟨_, -, h⟩ := am_vl_some h; cases h; rfl) | (obtain ⟨_, -, h⟩ := am_vr_some h; obtain ⟨-, h⟩ := am_if_some h; cases h; rfl))
       rw [this]; exact ⟨rfl, rfl⟩)
set_option maxHeartbeats 4000000 in
theorem am_dec_same {M d pc : Nat} {ls st : List Value} {A : am_H} {e : am_E} {c : am_C} (hn : am_nw e.1 = false) (h : am_dec M d pc ls st A e = .inr (.inl c)) : c.2.2.2.2.2.length = A.length ∧ am_sz c.2.2.2.2.2 = am_sz A := by
  have hop : ∀ T : am_T, (match am_op e pc ls st A with
    | none => (.inl none : am_T)
    | some q => .inr (.inl (d, M, q.1, q.2.1, q.2.2.1, q.2.2.2))) = .inr (.inl c) → c.2.2.2.2.2.length = A.length ∧ am_sz c.2.2.2.2.2 = am_sz A := by
    intro _ h
    cases ho : am_op e pc ls st A with
    | none => rw [ho] at h; cases h
    | some q => rw [ho] at h; cases h; exact am_op_same hn ho
  unfold am_dec at h
  split at h
  · cases h
  · cases h
  · cases h
  · exact (am_cl_not h).elim
  · split at h
    · unfold am_mm at h
      split at h
      · split at h
        · cases h; exact ⟨rfl, rfl⟩
        · cases h
      · cases h
    · exact (am_cl_not h).elim
  · split at h
    · split at h
      · split at h
        · cases h; exact ⟨rfl, rfl⟩
        · cases h
      · cases h
    · exact (am_cl_not h).elim
  · exact hop (.inl none) h
theorem am_cl_M {K d M pc : Nat} {ls st : List Value} {A : am_H} {q : am_C × (Option Value → am_H → am_C)} (h : am_cl K d M pc ls st A = .inr (.inr q)) : q.1.2.1 = K ∧ ∀ v A', (q.2 v A').2.1 = M := by
  unfold am_cl at h
  split at h
  · cases h
  · split at h
    · cases h; exact ⟨rfl, fun _ _ => rfl⟩
    · cases h
theorem am_dec_M {M d pc : Nat} {ls st : List Value} {A : am_H} {e : am_E} {c : am_C} (h : am_dec M d pc ls st A e = .inr (.inl c)) : c.2.1 = M := by
  unfold am_dec at h
  split at h
  · cases h
  · cases h
  · cases h
  · exact (am_cl_not h).elim
  · split at h
    · unfold am_mm at h
      split at h
      · split at h
        · cases h; rfl
        · cases h
      · cases h
    · exact (am_cl_not h).elim
  · split at h
    · split at h
      · split at h
        · cases h; rfl
        · cases h
      · cases h
    · exact (am_cl_not h).elim
  · cases ho : am_op e pc ls st A with
    | none => rw [ho] at h; cases h
    | some q => rw [ho] at h; cases h; rfl
theorem am_same (n : Nat) : ∀ (c : am_C) (r : Option Value) (A' : am_H), am_nn c.2.1 = true → am_ex n c = some (r, A') → A'.length = c.2.2.2.2.2.length ∧ am_sz A' = am_sz c.2.2.2.2.2 := by
  induction n with
  | zero => intro c r A' _ h; cases h
  | succ n ih =>
    intro c r A' hM h
    obtain ⟨d, M, pc, ls, st, A⟩ := c
    have h : am_F (am_ex n) (d, M, pc, ls, st, A) = some (r, A') := h
    unfold am_F am_D at h
    dsimp only at h hM ⊢
    cases ht : am_tab M pc with
    | none => rw [ht] at h; cases h
    | some e =>
      rw [ht] at h
      dsimp only at h
      obtain ⟨n1, n2⟩ := am_tab_nq hM ht
      cases hd : am_dec M d pc ls st A e with
      | inl z =>
        rw [hd] at h
        dsimp only at h
        subst h
        rw [am_dec_ret hd]
        exact ⟨rfl, rfl⟩
      | inr z =>
        cases z with
        | inl c' =>
          rw [hd] at h
          have h1 := am_dec_same n1 hd
          have h2 := ih c' r A' (by rw [am_dec_M hd]; exact hM) h
          exact ⟨h2.1.trans h1.1, h2.2.trans h1.2⟩
        | inr q =>
          rw [hd] at h
          obtain ⟨hc, hk⟩ := am_dec_call hd
          obtain ⟨h1, h2⟩ := am_cl_grow hc
          obtain ⟨m1, m2⟩ := am_cl_M hc
          have hK : am_nn e.2.2.1 = true := n2 (by rcases hk with ⟨i, g⟩ | ⟨⟨i, g⟩, -⟩ | ⟨⟨i, g⟩, -⟩ <;> rw [g] <;> rfl)
          dsimp only at h
          cases hq : am_ex n q.1 with
          | none => rw [hq] at h; cases h
          | some v =>
            rw [hq] at h
            obtain ⟨v, A1⟩ := v
            have h3 := ih q.1 v A1 (by rw [m1]; exact hK) hq
            have h4 := ih _ r A' (by rw [m2]; exact hM) h
            rw [h1] at h3
            rw [h2] at h4
            exact ⟨h4.1.trans h3.1, h4.2.trans h3.2⟩
theorem am_call_same {d K : Nat} {as : List Value} {A A' : am_H} {r : Option Value} (hK : am_nn K = true) (h : am_call d K as A = some (r, A')) : A'.length = A.length ∧ am_sz A' = am_sz A := by
  unfold am_call at h
  split at h
  · obtain ⟨n, hn⟩ := (am_rn_iff _ _).1 h
    exact am_same n _ r A' hK hn
  · cases h
