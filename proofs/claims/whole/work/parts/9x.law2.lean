theorem lw_body (d c L : Nat) (y : Nat → Int) (A : am_H) (S : Nat → Nat → Int) (sd : Int64) (s : Int32) (hy : ∀ k, -2147483648 ≤ y k ∧ y k ≤ 2147483647) (hX : XI A S sd) (hM : MI A S sd mtF) (hR : RR S c) (hc : c < 512) (h0 : am_g A 0 = sc L y) (hL : L ≤ 3072) (hi : 6 * c + 6 ≤ L) : ∃ (A2 : am_H) (S' : Nat → Nat → Int) (sd' : Int64), am_run (d + 21) 169 33 [.ref 0, .ref 1, .ref 105, .int (Int32.ofInt (6 * (c : Int)))] [.int s] A = am_run (d + 21) 169 18 [.ref 0, .ref 1, .ref 105, .int (Int32.ofInt (6 * ((c + 1 : Nat) : Int)))] [] A2 ∧ XI A2 S' sd' ∧ MI A2 S' sd' mtF ∧ RR S' (c + 1) ∧ am_g A2 0 = sc L y ∧ A2.length = A.length ∧ am_sz A2 = am_sz A := by
  rw [s169_33]
  by_cases q : s = Int32.ofInt 0
  · rw [if_pos q]
    exact lw_write d c L y A _ hy h0 hL hi (op_write d c A S sd (y ((6 * (c : Int) + 1).toNat)) (lj (y ((6 * (c : Int) + 2).toNat)) (y ((6 * (c : Int) + 3).toNat))) hX hM hR hc (hy _))
  rw [if_neg q]
  clear q
  by_cases q : s = Int32.ofInt 1
  · rw [if_pos q]
    exact lw_wipe d c L y A _ hy h0 hL hi (op_wipe d c A S sd  hX hM hR hc )
  rw [if_neg q]
  clear q
  by_cases q : s = Int32.ofInt 2
  · rw [if_pos q]
    obtain ⟨v, hop⟩ := op_fault d c A S sd hX hM hR hc
    exact lw_fault d c L y A v hy h0 hL hi hop
  rw [if_neg q]
  clear q
  by_cases q : s = Int32.ofInt 3
  · rw [if_pos q]
    obtain ⟨v, hop⟩ := op_town d c A S sd hX hM hR hc
    exact lw_town d c L y A v hy h0 hL hi hop
  rw [if_neg q]
  clear q
  by_cases q : s = Int32.ofInt 4
  · rw [if_pos q]
    exact lw_about d c L y A _ hy h0 hL hi (op_about d c A S sd (y ((6 * (c : Int) + 1).toNat)) hX hM hR hc (hy _))
  rw [if_neg q]
  clear q
  by_cases q : s = Int32.ofInt 5
  · rw [if_pos q]
    exact lw_person d c L y A _ hy h0 hL hi (op_person d c A S sd (y ((6 * (c : Int) + 1).toNat)) (y ((6 * (c : Int) + 2).toNat)) hX hM hR hc (hy _) (hy _))
  rw [if_neg q]
  clear q
  by_cases q : s = Int32.ofInt 6
  · rw [if_pos q]
    exact lw_canal d c L y A _ hy h0 hL hi (op_canal d c A S sd (y ((6 * (c : Int) + 1).toNat)) (y ((6 * (c : Int) + 2).toNat)) hX hM hR hc (hy _) (hy _))
  rw [if_neg q]
  clear q
  by_cases q : s = Int32.ofInt 7
  · rw [if_pos q]
    exact lw_glide d c L y A _ hy h0 hL hi (op_glide d c A S sd (y ((6 * (c : Int) + 1).toNat)) (y ((6 * (c : Int) + 2).toNat)) (y ((6 * (c : Int) + 3).toNat)) hX hM hR hc (hy _) (hy _) (hy _))
  rw [if_neg q]
  clear q
  by_cases q : s = Int32.ofInt 8
  · rw [if_pos q]
    exact lw_push d c L y A _ hy h0 hL hi (op_push d c A S sd (y ((6 * (c : Int) + 1).toNat)) (y ((6 * (c : Int) + 2).toNat)) hX hM hR hc (hy _) (hy _))
  rw [if_neg q]
  clear q
  by_cases q : s = Int32.ofInt 9
  · rw [if_pos q]
    exact lw_undo d c L y A _ hy h0 hL hi (op_undo d c A S sd  hX hM hR hc )
  rw [if_neg q]
  clear q
  by_cases q : s = Int32.ofInt 10
  · rw [if_pos q]
    exact lw_way d c L y A _ hy h0 hL hi (op_way d c A S sd (y ((6 * (c : Int) + 1).toNat)) (y ((6 * (c : Int) + 2).toNat)) (y ((6 * (c : Int) + 3).toNat)) (y ((6 * (c : Int) + 4).toNat)) hX hM hR hc (hy _) (hy _) (hy _) (hy _))
  rw [if_neg q]
  clear q
  by_cases q : s = Int32.ofInt 11
  · rw [if_pos q]
    exact lw_alone d c L y A _ hy h0 hL hi (op_alone d c A S sd (y ((6 * (c : Int) + 1).toNat)) (y ((6 * (c : Int) + 2).toNat)) (y ((6 * (c : Int) + 3).toNat)) hX hM hR hc (hy _) (hy _) (hy _))
  rw [if_neg q]
  clear q
  by_cases q : s = Int32.ofInt 12
  · rw [if_pos q]
    exact lw_soonest d c L y A _ hy h0 hL hi (op_soonest d c A S sd  hX hM hR hc )
  rw [if_neg q]
  clear q
  by_cases q : s = Int32.ofInt 13
  · rw [if_pos q]
    exact lw_soonestWith d c L y A _ hy h0 hL hi (op_soonestWith d c A S sd (y ((6 * (c : Int) + 1).toNat)) hX hM hR hc (hy _))
  rw [if_neg q]
  clear q
  by_cases q : s = Int32.ofInt 14
  · rw [if_pos q]
    exact lw_worth d c L y A _ hy h0 hL hi (op_worth d c A S sd (y ((6 * (c : Int) + 1).toNat)) hX hM hR hc (hy _))
  rw [if_neg q]
  clear q
  by_cases q : s = Int32.ofInt 15
  · rw [if_pos q]
    exact lw_byLaw d c L y A _ hy h0 hL hi (op_byLaw d c A S sd  hX hM hR hc )
  rw [if_neg q]
  clear q
  by_cases q : s = Int32.ofInt 16
  · rw [if_pos q]
    exact lw_leftAlone d c L y A _ hy h0 hL hi (op_leftAlone d c A S sd  hX hM hR hc )
  rw [if_neg q]
  clear q
  by_cases q : s = Int32.ofInt 17
  · rw [if_pos q]
    exact lw_asking d c L y A _ hy h0 hL hi (op_asking d c A S sd (y ((6 * (c : Int) + 1).toNat)) hX hM hR hc (hy _))
  rw [if_neg q]
  clear q
  by_cases q : s = Int32.ofInt 18
  · rw [if_pos q]
    exact lw_see d c L y A _ hy h0 hL hi (op_see d c A S sd (y ((6 * (c : Int) + 1).toNat)) (y ((6 * (c : Int) + 2).toNat)) (if y ((6 * (c : Int) + 3).toNat) = 0 then 0 else 1) hX hM hR hc (hy _) (hy _) (by split <;> simp))
  rw [if_neg q]
  clear q
  by_cases q : s = Int32.ofInt 19
  · rw [if_pos q]
    exact lw_unsee d c L y A _ hy h0 hL hi (op_unsee d c A S sd  hX hM hR hc )
  rw [if_neg q]
  clear q
  by_cases q : s = Int32.ofInt 20
  · rw [if_pos q]
    exact lw_fits d c L y A _ hy h0 hL hi (op_fits d c A S sd  hX hM hR hc )
  rw [if_neg q]
  clear q
  by_cases q : s = Int32.ofInt 21
  · rw [if_pos q]
    exact lw_may d c L y A _ hy h0 hL hi (op_may d c A S sd (y ((6 * (c : Int) + 1).toNat)) hX hM hR hc (hy _))
  rw [if_neg q]
  clear q
  by_cases q : s = Int32.ofInt 22
  · rw [if_pos q]
    exact lw_waits d c L y A _ hy h0 hL hi (op_waits d c A S sd (y ((6 * (c : Int) + 1).toNat)) (y ((6 * (c : Int) + 2).toNat)) (y ((6 * (c : Int) + 3).toNat)) (y ((6 * (c : Int) + 4).toNat)) (if y ((6 * (c : Int) + 5).toNat) = 0 then 0 else 1) hX hM hR hc (hy _) (hy _) (hy _) (hy _) (by split <;> simp))
  rw [if_neg q]
  clear q
  by_cases q : s = Int32.ofInt 23
  · rw [if_pos q]
    exact lw_howLong d c L y A _ hy h0 hL hi (op_howLong d c A S sd (y ((6 * (c : Int) + 1).toNat)) (y ((6 * (c : Int) + 2).toNat)) (y ((6 * (c : Int) + 3).toNat)) hX hM hR hc (hy _) (hy _) (hy _))
  rw [if_neg q]
  clear q
  by_cases q : s = Int32.ofInt 24
  · rw [if_pos q]
    exact lw_seed d c L y A _ hy h0 hL hi (op_seed d c A S sd (lj (y ((6 * (c : Int) + 1).toNat)) (y ((6 * (c : Int) + 2).toNat))) hX hM hR hc )
  rw [if_neg q]
  clear q
  by_cases q : s = Int32.ofInt 25
  · rw [if_pos q]
    exact lw_winter d c L y A _ hy h0 hL hi (op_winter d c A S sd (y ((6 * (c : Int) + 1).toNat)) hX hM hR hc (hy _))
  rw [if_neg q]
  clear q
  by_cases q : s = Int32.ofInt 26
  · rw [if_pos q]
    exact lw_keep d c L y A _ hy h0 hL hi (op_keep d c A S sd (y ((6 * (c : Int) + 1).toNat)) hX hM hR hc (hy _))
  rw [if_neg q]
  clear q
  by_cases q : s = Int32.ofInt 27
  · rw [if_pos q]
    exact lw_again d c L y A _ hy h0 hL hi (op_again d c A S sd (y ((6 * (c : Int) + 1).toNat)) hX hM hR hc (hy _))
  rw [if_neg q]
  clear q
  refine ⟨A, S, sd, ?_, hX, hM, hR.mono hc, h0, rfl, rfl⟩
  rw [lw_c6]
  simp (disch := omega) only [am_bv_some, am_bi_int, am_bl_long, am_br_ref, am_bc_some, am_bq_some, am_gf_c, am_rd_c, am_bh_pf, am_bh_wr, am_g_p, ob_get, ob_put, ar_get, ar_put, ob_tag, ar_tag, i_zero, i_add, i_sub, i_mul, i_lt, i_le, i_eq, i_val, if_pos, if_neg, Option.toList_some, Option.toList_none, List.cons_append, List.nil_append, beq_self_eq_true, true_or, or_true, up_at, up_ne, ↓reduceIte, Nat.reduceEqDiff, le_t, le_f, lt_t, lt_f, eq_t, eq_f, nq_t, nq_f, nl_t, nl_f, and_true, true_and, and_false, false_and, not_true_eq_false, not_false_eq_true, or_false, false_or, az_tag, al_tag, az_get, az_put, am_bh_wz, gX, gT, gW, gS, gA, gL, gM, gE, gN, gX_11, gX_1, gX_2, gT_1, gW_0, gW_1, gW_2, gW_3, gW_12, gW_13, gA_1, gL_1, gE_3, gM_0, gM_1, gM_2, gM_3, gN_0, gN_2, gN_3, gN_4, gN_5, gN_10, gN_11, gN_17, gN_18, gN_23, gN_24, gN_29, gN_35, gN_36, gN_42, am_p_p, Int.toNat_natCast, aq_tag, am_rq_c, am_bh_wq, aq_get3, aq_get4, aq_put3, Int.reduceAdd, Int.reduceSub, Int.reduceMul, Int.reduceToNat, s169_998, s169_1001]
theorem lw_loop (d L : Nat) (y : Nat → Int) (hy : ∀ k, -2147483648 ≤ y k ∧ y k ≤ 2147483647) (hL : L ≤ 3072) : ∀ (n c : Nat) (A : am_H) (S : Nat → Nat → Int) (sd : Int64), c + n = 512 → XI A S sd → MI A S sd mtF → RR S c → am_g A 0 = sc L y → ∃ A', am_run (d + 21) 169 18 [.ref 0, .ref 1, .ref 105, .int (Int32.ofInt (6 * (c : Int)))] [] A = some (some (.int (Int32.ofInt 1)), A') ∧ A'.length = A.length ∧ am_sz A' = am_sz A := by
  intro n
  induction n with
  | zero =>
    intro c A S sd hc hX hM hR h0
    have e20 := s169_20 (d + 21) L y A h0
    refine ⟨A, ?_, rfl, rfl⟩
    rw [s169_18]
    simp (disch := omega) only [am_bv_some, am_bi_int, am_bl_long, am_br_ref, am_bc_some, am_bq_some, am_gf_c, am_rd_c, am_bh_pf, am_bh_wr, am_g_p, ob_get, ob_put, ar_get, ar_put, ob_tag, ar_tag, i_zero, i_add, i_sub, i_mul, i_lt, i_le, i_eq, i_val, if_pos, if_neg, Option.toList_some, Option.toList_none, List.cons_append, List.nil_append, beq_self_eq_true, true_or, or_true, up_at, up_ne, ↓reduceIte, Nat.reduceEqDiff, le_t, le_f, lt_t, lt_f, eq_t, eq_f, nq_t, nq_f, nl_t, nl_f, and_true, true_and, and_false, false_and, not_true_eq_false, not_false_eq_true, or_false, false_or, az_tag, al_tag, az_get, az_put, am_bh_wz, gX, gT, gW, gS, gA, gL, gM, gE, gN, gX_11, gX_1, gX_2, gT_1, gW_0, gW_1, gW_2, gW_3, gW_12, gW_13, gA_1, gL_1, gE_3, gM_0, gM_1, gM_2, gM_3, gN_0, gN_2, gN_3, gN_4, gN_5, gN_10, gN_11, gN_17, gN_18, gN_23, gN_24, gN_29, gN_35, gN_36, gN_42, am_p_p, Int.toNat_natCast, aq_tag, am_rq_c, am_bh_wq, aq_get3, aq_get4, aq_put3, Int.reduceAdd, Int.reduceSub, Int.reduceMul, Int.reduceToNat, s169_19, e20, s169_21, s169_23, s169_24, s169_1004, s169_1005]
  | succ n ih =>
    intro c A S sd hc hX hM hR h0
    have e20 := s169_20 (d + 21) L y A h0
    by_cases hi : (L : Int) - 6 < 6 * (c : Int)
    · refine ⟨A, ?_, rfl, rfl⟩
      rw [s169_18]
      simp (disch := omega) only [am_bv_some, am_bi_int, am_bl_long, am_br_ref, am_bc_some, am_bq_some, am_gf_c, am_rd_c, am_bh_pf, am_bh_wr, am_g_p, ob_get, ob_put, ar_get, ar_put, ob_tag, ar_tag, i_zero, i_add, i_sub, i_mul, i_lt, i_le, i_eq, i_val, if_pos, if_neg, Option.toList_some, Option.toList_none, List.cons_append, List.nil_append, beq_self_eq_true, true_or, or_true, up_at, up_ne, ↓reduceIte, Nat.reduceEqDiff, le_t, le_f, lt_t, lt_f, eq_t, eq_f, nq_t, nq_f, nl_t, nl_f, and_true, true_and, and_false, false_and, not_true_eq_false, not_false_eq_true, or_false, false_or, az_tag, al_tag, az_get, az_put, am_bh_wz, gX, gT, gW, gS, gA, gL, gM, gE, gN, gX_11, gX_1, gX_2, gT_1, gW_0, gW_1, gW_2, gW_3, gW_12, gW_13, gA_1, gL_1, gE_3, gM_0, gM_1, gM_2, gM_3, gN_0, gN_2, gN_3, gN_4, gN_5, gN_10, gN_11, gN_17, gN_18, gN_23, gN_24, gN_29, gN_35, gN_36, gN_42, am_p_p, Int.toNat_natCast, aq_tag, am_rq_c, am_bh_wq, aq_get3, aq_get4, aq_put3, Int.reduceAdd, Int.reduceSub, Int.reduceMul, Int.reduceToNat, s169_19, e20, s169_21, s169_23, s169_24, s169_1004, s169_1005]
    · obtain ⟨A2, S', sd', e, X2, M2, R2, g2, q1, q2⟩ := lw_body d c L y A S sd (Int32.ofInt (y ((6 * (c : Int)).toNat)) &&& Int32.ofInt 31) hy hX hM hR (by omega) h0 hL (by omega)
      obtain ⟨A', r1, r2, r3⟩ := ih (c + 1) A2 S' sd' (by omega) X2 M2 R2 g2
      refine ⟨A', ?_, r2.trans q1, r3.trans q2⟩
      rw [← r1, ← e, s169_18]
      simp (disch := omega) only [am_bv_some, am_bi_int, am_bl_long, am_br_ref, am_bc_some, am_bq_some, am_gf_c, am_rd_c, am_bh_pf, am_bh_wr, am_g_p, ob_get, ob_put, ar_get, ar_put, ob_tag, ar_tag, i_zero, i_add, i_sub, i_mul, i_lt, i_le, i_eq, i_val, if_pos, if_neg, Option.toList_some, Option.toList_none, List.cons_append, List.nil_append, beq_self_eq_true, true_or, or_true, up_at, up_ne, ↓reduceIte, Nat.reduceEqDiff, le_t, le_f, lt_t, lt_f, eq_t, eq_f, nq_t, nq_f, nl_t, nl_f, and_true, true_and, and_false, false_and, not_true_eq_false, not_false_eq_true, or_false, false_or, az_tag, al_tag, az_get, az_put, am_bh_wz, gX, gT, gW, gS, gA, gL, gM, gE, gN, gX_11, gX_1, gX_2, gT_1, gW_0, gW_1, gW_2, gW_3, gW_12, gW_13, gA_1, gL_1, gE_3, gM_0, gM_1, gM_2, gM_3, gN_0, gN_2, gN_3, gN_4, gN_5, gN_10, gN_11, gN_17, gN_18, gN_23, gN_24, gN_29, gN_35, gN_36, gN_42, am_p_p, Int.toNat_natCast, aq_tag, am_rq_c, am_bh_wq, aq_get3, aq_get4, aq_put3, Int.reduceAdd, Int.reduceSub, Int.reduceMul, Int.reduceToNat, s169_19, e20, s169_21, s169_23, s169_24, s169_27, s169_28, s169_29, s169_30, s169_32, h0, sc_get]

