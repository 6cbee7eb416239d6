set_option maxHeartbeats 4000000 in
theorem z_op {e : am_E} {pc : Nat} {ls st : List Value} {B : am_H} {q : Nat × List Value × List Value × am_H} (c0 : Nat × List Value) (h : am_op e pc ls st ((300, []) :: B) = some q) : ∃ B', q.2.2.2 = (300, []) :: B' ∧ am_op e pc ls st (c0 :: B) = some (q.1, q.2.1, q.2.2.1, c0 :: B') := by
  obtain ⟨ins, ln, x, y, w⟩ := e
  unfold am_op at h ⊢
  cases ins
  all_goals try dsimp only at h ⊢
  case getfield i =>
    obtain ⟨a, r, rfl, h⟩ := am_r1_some h
    obtain ⟨v, hv, h⟩ := am_vo_some h
    cases h
    exact ⟨B, rfl, by simp only [am_r1, z_gf c0 hv, am_vo]⟩
  case putfield i =>
    obtain ⟨a, v, r, rfl, h⟩ := am_rv_some h
    obtain ⟨hc, h⟩ := am_if_some h
    obtain ⟨A', hA, h⟩ := am_ho_some h
    obtain ⟨B', rfl, hB⟩ := z_pf c0 hA
    cases h
    exact ⟨B', rfl, by simp only [am_rv, am_if, if_pos hc, hB, am_ho]⟩
  case iaload =>
    obtain ⟨a, i, r, rfl, h⟩ := am_ri_some h
    obtain ⟨v, hv, h⟩ := am_vo_some h
    obtain ⟨z, rfl, h⟩ := am_vi_some h
    cases h
    exact ⟨B, rfl, by simp only [am_ri, (z_rd c0 hv).1, am_vo, am_vi]⟩
  case laload =>
    obtain ⟨a, i, r, rfl, h⟩ := am_ri_some h
    obtain ⟨v, hv, h⟩ := am_vo_some h
    obtain ⟨z, rfl, h⟩ := am_vl_some h
    cases h
    exact ⟨B, rfl, by simp only [am_ri, (z_rd c0 hv).1, am_vo, am_vl]⟩
  case baload =>
    obtain ⟨a, i, r, rfl, h⟩ := am_ri_some h
    obtain ⟨v, hv, h⟩ := am_vo_some h
    obtain ⟨z, rfl, h⟩ := am_vi_some h
    cases h
    exact ⟨B, rfl, by simp only [am_ri, (z_rd c0 hv).1, am_vo, am_vi]⟩
  case aaload =>
    obtain ⟨a, i, r, rfl, h⟩ := am_ri_some h
    obtain ⟨v, hv, h⟩ := am_vo_some h
    obtain ⟨z, rfl, h⟩ := am_vr_some h
    obtain ⟨hc, h⟩ := am_if_some h
    cases h
    cases a with
    | zero => exact absurd rfl (z_rd c0 hv).2
    | succ b =>
      have h1 : am_rd (am_g (c0 :: B) (b + 1)).1 (c0 :: B) (b + 1) i = some (.ref z) := (z_rd c0 hv).1
      have h2 : (am_g (c0 :: B) (b + 1)).1 = 103 ∨ (am_g (c0 :: B) (b + 1)).1 = 104 := hc
      exact ⟨B, rfl, by simp only [am_ri, h1, am_vo, am_vr, am_if, if_pos h2]⟩
  case iastore =>
    obtain ⟨a, i, v, r, rfl, h⟩ := am_riv_some h
    obtain ⟨z, rfl, h⟩ := am_vi_some h
    obtain ⟨A', hA, h⟩ := am_ho_some h
    obtain ⟨B', rfl, hB⟩ := z_wr c0 hA
    cases h
    exact ⟨B', rfl, by simp only [am_riv, am_vi, hB, am_ho]⟩
  case lastore =>
    obtain ⟨a, i, v, r, rfl, h⟩ := am_riv_some h
    obtain ⟨z, rfl, h⟩ := am_vl_some h
    obtain ⟨A', hA, h⟩ := am_ho_some h
    obtain ⟨B', rfl, hB⟩ := z_wr c0 hA
    cases h
    exact ⟨B', rfl, by simp only [am_riv, am_vl, hB, am_ho]⟩
  case bastore =>
    obtain ⟨a, i, v, r, rfl, h⟩ := am_riv_some h
    obtain ⟨z, rfl, h⟩ := am_vi_some h
    obtain ⟨hc, h⟩ := am_if_some h
    obtain ⟨A', hA, h⟩ := am_ho_some h
    obtain ⟨B', rfl, hB⟩ := z_wr c0 hA
    cases h
    exact ⟨B', rfl, by simp only [am_riv, am_vi, am_if, if_pos hc, hB, am_ho]⟩
  case aastore =>
    obtain ⟨a, i, v, r, rfl, h⟩ := am_riv_some h
    obtain ⟨z, rfl, h⟩ := am_vr_some h
    obtain ⟨hc, h⟩ := am_if_some h
    obtain ⟨A', hA, h⟩ := am_ho_some h
    cases a with
    | zero => exact absurd (am_wr_some hA).2.2.1 (Nat.not_lt_zero _)
    | succ b =>
      cases z with
      | zero => rcases hc with ⟨-, g⟩ | ⟨-, g⟩ <;> cases g
      | succ k =>
        obtain ⟨B', rfl, hB⟩ := z_wr c0 hA
        have hB' : am_wr (am_g (c0 :: B) (b + 1)).1 (c0 :: B) (b + 1) i (.ref (k + 1)) = some (c0 :: B') := hB
        have hc' : ((am_g (c0 :: B) (b + 1)).1 = 103 ∧ (am_g (c0 :: B) (k + 1)).1 = 6) ∨ ((am_g (c0 :: B) (b + 1)).1 = 104 ∧ (am_g (c0 :: B) (k + 1)).1 = 5) := hc
        cases h
        exact ⟨B', rfl, by simp only [am_riv, am_vr, am_if, if_pos hc', hB', am_ho]⟩
  case arraylength =>
    obtain ⟨a, r, rfl, h⟩ := am_r1_some h
    obtain ⟨⟨rfl, g⟩, h⟩ := am_if_some h
    cases g
  case new i =>
    cases h
    exact ⟨B ++ [(x, am_blank.getD x [])], rfl, rfl⟩
  case newarray i =>
    obtain ⟨n, r, rfl, h⟩ := am_i1_some h
    obtain ⟨hc, h⟩ := am_if_some h
    cases h
    exact ⟨B ++ [(x, List.replicate n.toNatClampNeg (am_zero x))], rfl, by simp only [am_i1, am_if, if_pos hc]; rfl⟩
  case anewarray i =>
    obtain ⟨n, r, rfl, h⟩ := am_i1_some h
    obtain ⟨hc, h⟩ := am_if_some h
    cases h
    exact ⟨B ++ [(x, List.replicate n.toNatClampNeg .null)], rfl, by simp only [am_i1, am_if, if_pos hc]; rfl⟩
  case tableswitch a b c d =>
    obtain ⟨n, r, hst, h'⟩ := am_i1_some h
    subst hst
    split at h'
    next g => cases h'; exact ⟨B, rfl, by simp only [am_i1, if_pos g]⟩
    next g =>
      split at h'
      next o ho => cases h'; exact ⟨B, rfl, by simp only [am_i1, if_neg g, ho]⟩
      next => cases h'
  case dup =>
    split at h
    · obtain ⟨hc, h⟩ := am_if_some h
      cases h; exact ⟨B, rfl, by simp only [am_if, if_pos hc]⟩
    · cases h
  case dup2 =>
    split at h
    · obtain ⟨hc, h⟩ := am_if_some h
      cases h; exact ⟨B, rfl, by simp only [am_if, if_pos hc]⟩
    · cases h
  all_goals
    first
    | (cases h <;> exact ⟨B, rfl, rfl⟩)
    | (obtain ⟨_, _, _, rfl, h⟩ := am_i2_some h; first | (cases h; exact ⟨B, rfl, rfl⟩) | (obtain ⟨hc, h⟩ := am_if_some h; cases h; exact ⟨B, rfl, by simp only [am_i2, am_if, if_pos hc]⟩) | (obtain ⟨h1, h2⟩ := z_cmp h; exact ⟨B, h1, h2 _⟩))
    | (obtain ⟨_, _, rfl, h⟩ := am_i1_some h; first | (cases h; exact ⟨B, rfl, rfl⟩) | (obtain ⟨hc, h⟩ := am_if_some h; cases h; exact ⟨B, rfl, by simp only [am_i1, am_if, if_pos hc]⟩) | (obtain ⟨h1, h2⟩ := z_cmp h; exact ⟨B, h1, h2 _⟩))
    | (obtain ⟨_, _, _, rfl, h⟩ := am_l2_some h; first | (cases h; exact ⟨B, rfl, rfl⟩) | (obtain ⟨hc, h⟩ := am_if_some h; cases h; exact ⟨B, rfl, by simp only [am_l2, am_if, if_pos hc]⟩))
    | (obtain ⟨_, _, rfl, h⟩ := am_l1_some h; first | (cases h; exact ⟨B, rfl, rfl⟩) | (obtain ⟨hc, h⟩ := am_if_some h; cases h; exact ⟨B, rfl, by simp only [am_l1, am_if, if_pos hc]⟩))
    | (obtain ⟨_, _, _, rfl, h⟩ := am_li_some h; cases h; exact ⟨B, rfl, rfl⟩)
    | (obtain ⟨_, hv, h⟩ := am_vo_some h; first | (obtain ⟨_, rfl, h⟩ := am_vi_some h; cases h; exact ⟨B, rfl, by simp only [hv, am_vo, am_vi]⟩) | (obtain ⟨_, rfl, h⟩ := am_vl_some h; cases h; exact ⟨B, rfl, by simp only [hv, am_vo, am_vl]⟩) | (obtain ⟨_, rfl, h⟩ := am_vr_some h; cases h; exact ⟨B, rfl, by simp only [hv, am_vo, am_vr]⟩))
    | (obtain ⟨_, _, rfl, h⟩ := am_r1_some h; obtain ⟨hc, h⟩ := am_if_some h; cases h; exact ⟨B, rfl, by simp only [am_r1, am_if, if_pos hc]⟩)
