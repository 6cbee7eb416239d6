theorem i_div {a b : Int} (h1 : 0 ≤ a) (h2 : a ≤ 2147483647) (h3 : 0 < b) (h4 : b ≤ 2147483647) : Int32.ofInt a / Int32.ofInt b = Int32.ofInt (a / b) := by
  apply Int32.toInt_inj.mp
  rw [Int32.toInt_div, i_val (by omega) h2, i_val (by omega) h4, Int.tdiv_eq_ediv_of_nonneg h1, Int32.toInt_ofInt]
theorem i_rem {a b : Int} (h1 : 0 ≤ a) (h2 : a ≤ 2147483647) (h3 : 0 < b) (h4 : b ≤ 2147483647) : Int32.ofInt a - Int32.ofInt a / Int32.ofInt b * Int32.ofInt b = Int32.ofInt (a % b) := by
  rw [i_div h1 h2 h3 h4, i_mul, i_sub, Int.emod_def, Int.mul_comm]
theorem i_n5 : ¬ Int32.ofInt 5 = 0 := by decide
theorem i_n2 : ¬ Int32.ofInt 2 = 0 := by decide
/-- the rows of a town as the class holds it -/
def CR (A : am_H) (u : Nat) (T : Nat → Nat → Int) (kd fe : Int) : Prop := (u = 4 ∨ u = 13) ∧ am_g A u = ob 8 14 (gW u (T 1 1) (T 1 2) (T 1 3) (T 1 4) kd fe) ∧ am_g A (u + 1) = ar 8 (T 2) ∧ am_g A (u + 2) = ar 8 (T 3) ∧ am_g A (u + 3) = ar 8 (T 4) ∧ am_g A (u + 4) = ar 8 (T 5) ∧ am_g A (u + 5) = ar 6 (T 8) ∧ am_g A (u + 6) = ar 6 (T 6) ∧ am_g A (u + 7) = ar 6 (T 7)
theorem p_canJoin (d u : Nat) (A : am_H) (T : Nat → Nat → Int) (kd fe a b : Int) (hC : CR A u T kd fe) (hD : DT T) (ha : -100 ≤ a ∧ a ≤ 300) (hb : -100 ≤ b ∧ b ≤ 300) : ∃ v : Int, am_call (d + 1) 53 [.ref u, .int (Int32.ofInt a), .int (Int32.ofInt b)] A = some (some (.int (Int32.ofInt v)), A) ∧ ((v = 1 ∧ ¬ told T a b) ∨ (v = 0 ∧ told T a b)) := by
  obtain ⟨hu, h0, h1, h2, -⟩ := hC
  have hK := hD.2.1
  have hn := hD.1
  by_cases q : a = b
  · refine ⟨0, ?_, Or.inr ⟨rfl, Or.inl q⟩⟩
    subst q
    simp (disch := omega) only [am_bv_some, am_bi_int, am_bl_long, am_br_ref, am_bc_some, am_bq_some, am_gf_c, am_rd_c, am_bh_pf, am_bh_wr, am_g_p, ob_get, ob_put, ar_get, ar_put, ob_tag, ar_tag, i_zero, i_add, i_sub, i_mul, i_lt, i_le, i_eq, i_val, if_pos, if_neg, Option.toList_some, Option.toList_none, List.cons_append, List.nil_append, beq_self_eq_true, true_or, or_true, up_at, up_ne, ↓reduceIte, Nat.reduceEqDiff, le_t, le_f, lt_t, lt_f, eq_t, eq_f, nq_t, nq_f, nl_t, nl_f, and_true, true_and, and_false, false_and, not_true_eq_false, not_false_eq_true, or_false, false_or, az_tag, al_tag, az_get, az_put, am_bh_wz, gX, gT, gW, gS, gA, gL, gM, gE, gN, gX_11, gX_1, gX_2, gT_1, gW_0, gW_1, gW_2, gW_3, gW_12, gW_13, gA_1, gL_1, gE_3, gM_0, gM_1, gM_2, gM_3, gN_0, gN_2, gN_3, gN_4, gN_5, gN_10, gN_11, gN_17, gN_18, gN_23, gN_24, gN_29, gN_35, gN_36, gN_42, am_p_p, Int.toNat_natCast, aq_tag, am_rq_c, am_bh_wq, aq_get3, aq_get4, aq_put3, Int.reduceAdd, Int.reduceSub, Int.reduceMul, Int.reduceToNat, c53, s53_0, s53_1, s53_2, s53_5, s53_6, s53_7, s53_8, s53_10, s53_11, s53_14, s53_17, s53_18, s53_19, s53_20, s53_23, s53_26, s53_27, s53_28, s53_29, s53_32, s53_35, s53_36, s53_37, s53_40, s53_43, s53_44, h0]
  · have loop : ∀ m k : Nat, (k : Int) + m = T 1 2 → (∀ j : Nat, j < k → ¬ (T 2 j = a ∧ T 3 j = b ∨ T 2 j = b ∧ T 3 j = a)) → ∃ v : Int, am_run (d + 1) 53 9 [.ref u, .int (Int32.ofInt a), .int (Int32.ofInt b), .int (Int32.ofInt (k : Int))] [] A = some (some (.int (Int32.ofInt v)), A) ∧ ((v = 1 ∧ ¬ told T a b) ∨ (v = 0 ∧ told T a b)) := by
      intro m
      induction m with
      | zero =>
        intro k hk hj
        have e : T 1 2 = (k : Int) := by omega
        refine ⟨1, ?_, Or.inl ⟨rfl, fun h => ?_⟩⟩
        · simp (disch := omega) only [am_bv_some, am_bi_int, am_bl_long, am_br_ref, am_bc_some, am_bq_some, am_gf_c, am_rd_c, am_bh_pf, am_bh_wr, am_g_p, ob_get, ob_put, ar_get, ar_put, ob_tag, ar_tag, i_zero, i_add, i_sub, i_mul, i_lt, i_le, i_eq, i_val, if_pos, if_neg, Option.toList_some, Option.toList_none, List.cons_append, List.nil_append, beq_self_eq_true, true_or, or_true, up_at, up_ne, ↓reduceIte, Nat.reduceEqDiff, le_t, le_f, lt_t, lt_f, eq_t, eq_f, nq_t, nq_f, nl_t, nl_f, and_true, true_and, and_false, false_and, not_true_eq_false, not_false_eq_true, or_false, false_or, az_tag, al_tag, az_get, az_put, am_bh_wz, gX, gT, gW, gS, gA, gL, gM, gE, gN, gX_11, gX_1, gX_2, gT_1, gW_0, gW_1, gW_2, gW_3, gW_12, gW_13, gA_1, gL_1, gE_3, gM_0, gM_1, gM_2, gM_3, gN_0, gN_2, gN_3, gN_4, gN_5, gN_10, gN_11, gN_17, gN_18, gN_23, gN_24, gN_29, gN_35, gN_36, gN_42, am_p_p, Int.toNat_natCast, aq_tag, am_rq_c, am_bh_wq, aq_get3, aq_get4, aq_put3, Int.reduceAdd, Int.reduceSub, Int.reduceMul, Int.reduceToNat, s53_0, s53_1, s53_2, s53_5, s53_6, s53_7, s53_8, s53_9, s53_10, s53_11, s53_14, s53_17, s53_18, s53_19, s53_20, s53_23, s53_26, s53_27, s53_28, s53_29, s53_32, s53_35, s53_36, s53_37, s53_40, s53_43, s53_44, h0, e]
        · rcases h with h | ⟨j, h1, h2⟩
          · exact q h
          · exact hj j (by omega) h2
      | succ m ih =>
        intro k hk hj
        have rk := hD.2.2.2.2.1 k (by omega)
        have p1 := fun d => p_isEnd d A u k _ _ _ _ _ _ a (T 2) (T 3) h0 h1 h2 (by omega) (by omega) (by omega) (by omega)
        have p2 := fun d => p_isEnd d A u k _ _ _ _ _ _ b (T 2) (T 3) h0 h1 h2 (by omega) (by omega) (by omega) (by omega)
        by_cases c1 : T 2 k = a ∨ T 3 k = a
        · rw [if_pos c1] at p1
          by_cases c2 : T 2 k = b ∨ T 3 k = b
          · rw [if_pos c2] at p2
            refine ⟨0, ?_, Or.inr ⟨rfl, Or.inr ⟨k, by omega, by omega⟩⟩⟩
            rw [s53_9]
            simp (disch := omega) only [am_bv_some, am_bi_int, am_bl_long, am_br_ref, am_bc_some, am_bq_some, am_gf_c, am_rd_c, am_bh_pf, am_bh_wr, am_g_p, ob_get, ob_put, ar_get, ar_put, ob_tag, ar_tag, i_zero, i_add, i_sub, i_mul, i_lt, i_le, i_eq, i_val, if_pos, if_neg, Option.toList_some, Option.toList_none, List.cons_append, List.nil_append, beq_self_eq_true, true_or, or_true, up_at, up_ne, ↓reduceIte, Nat.reduceEqDiff, le_t, le_f, lt_t, lt_f, eq_t, eq_f, nq_t, nq_f, nl_t, nl_f, and_true, true_and, and_false, false_and, not_true_eq_false, not_false_eq_true, or_false, false_or, az_tag, al_tag, az_get, az_put, am_bh_wz, gX, gT, gW, gS, gA, gL, gM, gE, gN, gX_11, gX_1, gX_2, gT_1, gW_0, gW_1, gW_2, gW_3, gW_12, gW_13, gA_1, gL_1, gE_3, gM_0, gM_1, gM_2, gM_3, gN_0, gN_2, gN_3, gN_4, gN_5, gN_10, gN_11, gN_17, gN_18, gN_23, gN_24, gN_29, gN_35, gN_36, gN_42, am_p_p, Int.toNat_natCast, aq_tag, am_rq_c, am_bh_wq, aq_get3, aq_get4, aq_put3, Int.reduceAdd, Int.reduceSub, Int.reduceMul, Int.reduceToNat, s53_0, s53_1, s53_2, s53_5, s53_6, s53_7, s53_8, s53_10, s53_11, s53_14, s53_17, s53_18, s53_19, s53_20, s53_23, s53_26, s53_27, s53_28, s53_29, s53_32, s53_35, s53_36, s53_37, s53_40, s53_43, s53_44, h0, p1, p2]
          · rw [if_neg c2] at p2
            obtain ⟨v, i1, i2⟩ := ih (k + 1) (by omega) (fun j hj' => by
              by_cases e : j = k
              · subst e; omega
              · exact hj j (by omega))
            refine ⟨v, ?_, i2⟩
            rw [← i1, s53_9]
            simp (disch := omega) only [am_bv_some, am_bi_int, am_bl_long, am_br_ref, am_bc_some, am_bq_some, am_gf_c, am_rd_c, am_bh_pf, am_bh_wr, am_g_p, ob_get, ob_put, ar_get, ar_put, ob_tag, ar_tag, i_zero, i_add, i_sub, i_mul, i_lt, i_le, i_eq, i_val, if_pos, if_neg, Option.toList_some, Option.toList_none, List.cons_append, List.nil_append, beq_self_eq_true, true_or, or_true, up_at, up_ne, ↓reduceIte, Nat.reduceEqDiff, le_t, le_f, lt_t, lt_f, eq_t, eq_f, nq_t, nq_f, nl_t, nl_f, and_true, true_and, and_false, false_and, not_true_eq_false, not_false_eq_true, or_false, false_or, az_tag, al_tag, az_get, az_put, am_bh_wz, gX, gT, gW, gS, gA, gL, gM, gE, gN, gX_11, gX_1, gX_2, gT_1, gW_0, gW_1, gW_2, gW_3, gW_12, gW_13, gA_1, gL_1, gE_3, gM_0, gM_1, gM_2, gM_3, gN_0, gN_2, gN_3, gN_4, gN_5, gN_10, gN_11, gN_17, gN_18, gN_23, gN_24, gN_29, gN_35, gN_36, gN_42, am_p_p, Int.toNat_natCast, aq_tag, am_rq_c, am_bh_wq, aq_get3, aq_get4, aq_put3, Int.reduceAdd, Int.reduceSub, Int.reduceMul, Int.reduceToNat, s53_0, s53_1, s53_2, s53_5, s53_6, s53_7, s53_8, s53_10, s53_11, s53_14, s53_17, s53_18, s53_19, s53_20, s53_23, s53_26, s53_27, s53_28, s53_29, s53_32, s53_35, s53_36, s53_37, s53_40, s53_43, s53_44, h0, p1, p2, Int.natCast_add, Int.cast_ofNat_Int]
        · rw [if_neg c1] at p1
          obtain ⟨v, i1, i2⟩ := ih (k + 1) (by omega) (fun j hj' => by
            by_cases e : j = k
            · subst e; omega
            · exact hj j (by omega))
          refine ⟨v, ?_, i2⟩
          rw [← i1, s53_9]
          simp (disch := omega) only [am_bv_some, am_bi_int, am_bl_long, am_br_ref, am_bc_some, am_bq_some, am_gf_c, am_rd_c, am_bh_pf, am_bh_wr, am_g_p, ob_get, ob_put, ar_get, ar_put, ob_tag, ar_tag, i_zero, i_add, i_sub, i_mul, i_lt, i_le, i_eq, i_val, if_pos, if_neg, Option.toList_some, Option.toList_none, List.cons_append, List.nil_append, beq_self_eq_true, true_or, or_true, up_at, up_ne, ↓reduceIte, Nat.reduceEqDiff, le_t, le_f, lt_t, lt_f, eq_t, eq_f, nq_t, nq_f, nl_t, nl_f, and_true, true_and, and_false, false_and, not_true_eq_false, not_false_eq_true, or_false, false_or, az_tag, al_tag, az_get, az_put, am_bh_wz, gX, gT, gW, gS, gA, gL, gM, gE, gN, gX_11, gX_1, gX_2, gT_1, gW_0, gW_1, gW_2, gW_3, gW_12, gW_13, gA_1, gL_1, gE_3, gM_0, gM_1, gM_2, gM_3, gN_0, gN_2, gN_3, gN_4, gN_5, gN_10, gN_11, gN_17, gN_18, gN_23, gN_24, gN_29, gN_35, gN_36, gN_42, am_p_p, Int.toNat_natCast, aq_tag, am_rq_c, am_bh_wq, aq_get3, aq_get4, aq_put3, Int.reduceAdd, Int.reduceSub, Int.reduceMul, Int.reduceToNat, s53_0, s53_1, s53_2, s53_5, s53_6, s53_7, s53_8, s53_10, s53_11, s53_14, s53_17, s53_18, s53_19, s53_20, s53_23, s53_26, s53_27, s53_28, s53_29, s53_32, s53_35, s53_36, s53_37, s53_40, s53_43, s53_44, h0, p1, Int.natCast_add, Int.cast_ofNat_Int]
    obtain ⟨v, l1, l2⟩ := loop (T 1 2).toNat 0 (by omega) (fun j hj => by omega)
    refine ⟨v, ?_, l2⟩
    rw [← l1]
    simp (disch := omega) only [am_bv_some, am_bi_int, am_bl_long, am_br_ref, am_bc_some, am_bq_some, am_gf_c, am_rd_c, am_bh_pf, am_bh_wr, am_g_p, ob_get, ob_put, ar_get, ar_put, ob_tag, ar_tag, i_zero, i_add, i_sub, i_mul, i_lt, i_le, i_eq, i_val, if_pos, if_neg, Option.toList_some, Option.toList_none, List.cons_append, List.nil_append, beq_self_eq_true, true_or, or_true, up_at, up_ne, ↓reduceIte, Nat.reduceEqDiff, le_t, le_f, lt_t, lt_f, eq_t, eq_f, nq_t, nq_f, nl_t, nl_f, and_true, true_and, and_false, false_and, not_true_eq_false, not_false_eq_true, or_false, false_or, az_tag, al_tag, az_get, az_put, am_bh_wz, gX, gT, gW, gS, gA, gL, gM, gE, gN, gX_11, gX_1, gX_2, gT_1, gW_0, gW_1, gW_2, gW_3, gW_12, gW_13, gA_1, gL_1, gE_3, gM_0, gM_1, gM_2, gM_3, gN_0, gN_2, gN_3, gN_4, gN_5, gN_10, gN_11, gN_17, gN_18, gN_23, gN_24, gN_29, gN_35, gN_36, gN_42, am_p_p, Int.toNat_natCast, aq_tag, am_rq_c, am_bh_wq, aq_get3, aq_get4, aq_put3, Int.reduceAdd, Int.reduceSub, Int.reduceMul, Int.reduceToNat, c53, s53_0, s53_1, s53_2, s53_5, s53_6, s53_7, s53_8, s53_10, s53_11, s53_14, s53_17, s53_18, s53_19, s53_20, s53_23, s53_26, s53_27, s53_28, s53_29, s53_32, s53_35, s53_36, s53_37, s53_40, s53_43, s53_44, h0, Int.cast_ofNat_Int]
theorem p_canBeEnd (d u : Nat) (A : am_H) (T : Nat → Nat → Int) (kd fe a : Int) (hC : CR A u T kd fe) (hD : DT T) (ha : -100 ≤ a ∧ a ≤ 300) : ∃ v : Int, am_call (d + 2) 52 [.ref u, .int (Int32.ofInt a)] A = some (some (.int (Int32.ofInt v)), A) ∧ ((v = 1 ∧ partn T a) ∨ (v = 0 ∧ ¬ partn T a)) := by
  have hn := hD.1
  have h0 := hC.2.1
  have loop : ∀ m k : Nat, (k : Int) + m = T 1 1 → (∀ j : Nat, j < k → told T a (j : Int)) → ∃ v : Int, am_run (d + 2) 52 2 [.ref u, .int (Int32.ofInt a), .int (Int32.ofInt (k : Int))] [] A = some (some (.int (Int32.ofInt v)), A) ∧ ((v = 1 ∧ partn T a) ∨ (v = 0 ∧ ¬ partn T a)) := by
    intro m
    induction m with
    | zero =>
      intro k hk hj
      have e : T 1 1 = (k : Int) := by omega
      refine ⟨0, ?_, Or.inr ⟨rfl, fun h => ?_⟩⟩
      · simp (disch := omega) only [am_bv_some, am_bi_int, am_bl_long, am_br_ref, am_bc_some, am_bq_some, am_gf_c, am_rd_c, am_bh_pf, am_bh_wr, am_g_p, ob_get, ob_put, ar_get, ar_put, ob_tag, ar_tag, i_zero, i_add, i_sub, i_mul, i_lt, i_le, i_eq, i_val, if_pos, if_neg, Option.toList_some, Option.toList_none, List.cons_append, List.nil_append, beq_self_eq_true, true_or, or_true, up_at, up_ne, ↓reduceIte, Nat.reduceEqDiff, le_t, le_f, lt_t, lt_f, eq_t, eq_f, nq_t, nq_f, nl_t, nl_f, and_true, true_and, and_false, false_and, not_true_eq_false, not_false_eq_true, or_false, false_or, az_tag, al_tag, az_get, az_put, am_bh_wz, gX, gT, gW, gS, gA, gL, gM, gE, gN, gX_11, gX_1, gX_2, gT_1, gW_0, gW_1, gW_2, gW_3, gW_12, gW_13, gA_1, gL_1, gE_3, gM_0, gM_1, gM_2, gM_3, gN_0, gN_2, gN_3, gN_4, gN_5, gN_10, gN_11, gN_17, gN_18, gN_23, gN_24, gN_29, gN_35, gN_36, gN_42, am_p_p, Int.toNat_natCast, aq_tag, am_rq_c, am_bh_wq, aq_get3, aq_get4, aq_put3, Int.reduceAdd, Int.reduceSub, Int.reduceMul, Int.reduceToNat, s52_0, s52_1, s52_2, s52_3, s52_4, s52_7, s52_10, s52_11, s52_12, s52_13, s52_16, s52_19, s52_20, s52_21, s52_24, s52_27, s52_28, h0, e]
      · obtain ⟨b, h1, h2⟩ := h
        apply h2
        have := hj b.toNat (by omega)
        rw [show ((b.toNat : Nat) : Int) = b by omega] at this
        exact this
    | succ m ih =>
      intro k hk hj
      obtain ⟨v, p1, p2⟩ := p_canJoin d u A T kd fe a (k : Int) hC hD ha (by omega)
      rcases p2 with ⟨rfl, p2⟩ | ⟨rfl, p2⟩
      · refine ⟨1, ?_, Or.inl ⟨rfl, (k : Int), by omega, p2⟩⟩
        rw [s52_2]
        simp (disch := omega) only [am_bv_some, am_bi_int, am_bl_long, am_br_ref, am_bc_some, am_bq_some, am_gf_c, am_rd_c, am_bh_pf, am_bh_wr, am_g_p, ob_get, ob_put, ar_get, ar_put, ob_tag, ar_tag, i_zero, i_add, i_sub, i_mul, i_lt, i_le, i_eq, i_val, if_pos, if_neg, Option.toList_some, Option.toList_none, List.cons_append, List.nil_append, beq_self_eq_true, true_or, or_true, up_at, up_ne, ↓reduceIte, Nat.reduceEqDiff, le_t, le_f, lt_t, lt_f, eq_t, eq_f, nq_t, nq_f, nl_t, nl_f, and_true, true_and, and_false, false_and, not_true_eq_false, not_false_eq_true, or_false, false_or, az_tag, al_tag, az_get, az_put, am_bh_wz, gX, gT, gW, gS, gA, gL, gM, gE, gN, gX_11, gX_1, gX_2, gT_1, gW_0, gW_1, gW_2, gW_3, gW_12, gW_13, gA_1, gL_1, gE_3, gM_0, gM_1, gM_2, gM_3, gN_0, gN_2, gN_3, gN_4, gN_5, gN_10, gN_11, gN_17, gN_18, gN_23, gN_24, gN_29, gN_35, gN_36, gN_42, am_p_p, Int.toNat_natCast, aq_tag, am_rq_c, am_bh_wq, aq_get3, aq_get4, aq_put3, Int.reduceAdd, Int.reduceSub, Int.reduceMul, Int.reduceToNat, s52_0, s52_1, s52_3, s52_4, s52_7, s52_10, s52_11, s52_12, s52_13, s52_16, s52_19, s52_20, s52_21, s52_24, s52_27, s52_28, h0, p1]
      · obtain ⟨v, i1, i2⟩ := ih (k + 1) (by omega) (fun j hj' => by
          by_cases e : j = k
          · subst e; exact p2
          · exact hj j (by omega))
        refine ⟨v, ?_, i2⟩
        rw [← i1, s52_2]
        simp (disch := omega) only [am_bv_some, am_bi_int, am_bl_long, am_br_ref, am_bc_some, am_bq_some, am_gf_c, am_rd_c, am_bh_pf, am_bh_wr, am_g_p, ob_get, ob_put, ar_get, ar_put, ob_tag, ar_tag, i_zero, i_add, i_sub, i_mul, i_lt, i_le, i_eq, i_val, if_pos, if_neg, Option.toList_some, Option.toList_none, List.cons_append, List.nil_append, beq_self_eq_true, true_or, or_true, up_at, up_ne, ↓reduceIte, Nat.reduceEqDiff, le_t, le_f, lt_t, lt_f, eq_t, eq_f, nq_t, nq_f, nl_t, nl_f, and_true, true_and, and_false, false_and, not_true_eq_false, not_false_eq_true, or_false, false_or, az_tag, al_tag, az_get, az_put, am_bh_wz, gX, gT, gW, gS, gA, gL, gM, gE, gN, gX_11, gX_1, gX_2, gT_1, gW_0, gW_1, gW_2, gW_3, gW_12, gW_13, gA_1, gL_1, gE_3, gM_0, gM_1, gM_2, gM_3, gN_0, gN_2, gN_3, gN_4, gN_5, gN_10, gN_11, gN_17, gN_18, gN_23, gN_24, gN_29, gN_35, gN_36, gN_42, am_p_p, Int.toNat_natCast, aq_tag, am_rq_c, am_bh_wq, aq_get3, aq_get4, aq_put3, Int.reduceAdd, Int.reduceSub, Int.reduceMul, Int.reduceToNat, s52_0, s52_1, s52_3, s52_4, s52_7, s52_10, s52_11, s52_12, s52_13, s52_16, s52_19, s52_20, s52_21, s52_24, s52_27, s52_28, h0, p1, Int.natCast_add, Int.cast_ofNat_Int]
  obtain ⟨v, l1, l2⟩ := loop (T 1 1).toNat 0 (by omega) (fun j hj => by omega)
  refine ⟨v, ?_, l2⟩
  rw [← l1]
  simp (disch := omega) only [am_bv_some, am_bi_int, am_bl_long, am_br_ref, am_bc_some, am_bq_some, am_gf_c, am_rd_c, am_bh_pf, am_bh_wr, am_g_p, ob_get, ob_put, ar_get, ar_put, ob_tag, ar_tag, i_zero, i_add, i_sub, i_mul, i_lt, i_le, i_eq, i_val, if_pos, if_neg, Option.toList_some, Option.toList_none, List.cons_append, List.nil_append, beq_self_eq_true, true_or, or_true, up_at, up_ne, ↓reduceIte, Nat.reduceEqDiff, le_t, le_f, lt_t, lt_f, eq_t, eq_f, nq_t, nq_f, nl_t, nl_f, and_true, true_and, and_false, false_and, not_true_eq_false, not_false_eq_true, or_false, false_or, az_tag, al_tag, az_get, az_put, am_bh_wz, gX, gT, gW, gS, gA, gL, gM, gE, gN, gX_11, gX_1, gX_2, gT_1, gW_0, gW_1, gW_2, gW_3, gW_12, gW_13, gA_1, gL_1, gE_3, gM_0, gM_1, gM_2, gM_3, gN_0, gN_2, gN_3, gN_4, gN_5, gN_10, gN_11, gN_17, gN_18, gN_23, gN_24, gN_29, gN_35, gN_36, gN_42, am_p_p, Int.toNat_natCast, aq_tag, am_rq_c, am_bh_wq, aq_get3, aq_get4, aq_put3, Int.reduceAdd, Int.reduceSub, Int.reduceMul, Int.reduceToNat, c52, s52_0, s52_1, s52_3, s52_4, s52_7, s52_10, s52_11, s52_12, s52_13, s52_16, s52_19, s52_20, s52_21, s52_24, s52_27, s52_28, h0, Int.cast_ofNat_Int]
theorem p_hasRoom (d u : Nat) (A : am_H) (T : Nat → Nat → Int) (kd fe : Int) (hC : CR A u T kd fe) (hD : DT T) : ∃ v : Int, am_call d 49 [.ref u] A = some (some (.int (Int32.ofInt v)), A) ∧ ((v = 1 ∧ T 1 2 < 8 ∧ roomy T) ∨ (v = 0 ∧ ¬ (T 1 2 < 8 ∧ roomy T))) := by
  have hn := hD.1
  have hK := hD.2.1
  have h0 := hC.2.1
  have hr := roomy_iff hD
  have hm1 : 0 ≤ T 1 1 * (T 1 1 - 1) := Int.mul_nonneg (by omega) (by omega)
  have hm2 : T 1 1 * (T 1 1 - 1) ≤ 6 * 5 := Int.mul_le_mul hn.2 (by omega) (by omega) (by omega)
  have n2 := i_n2
  obtain ⟨y, hy⟩ : ∃ y, T 1 1 * (T 1 1 - 1) = y := ⟨_, rfl⟩
  rw [hy] at hr hm1 hm2
  obtain ⟨z, hz⟩ : ∃ z, y = 2 * z := by
    rw [← hy]
    rcases (show T 1 1 = 2 ∨ T 1 1 = 3 ∨ T 1 1 = 4 ∨ T 1 1 = 5 ∨ T 1 1 = 6 by omega) with e | e | e | e | e <;> rw [e]
    · exact ⟨1, by decide⟩
    · exact ⟨3, by decide⟩
    · exact ⟨6, by decide⟩
    · exact ⟨10, by decide⟩
    · exact ⟨15, by decide⟩
  by_cases q1 : T 1 2 < 8
  · by_cases q2 : roomy T
    · refine ⟨1, ?_, Or.inl ⟨rfl, q1, q2⟩⟩
      have q3 := hr.1 q2
      simp (disch := first | omega | assumption) only [am_bv_some, am_bi_int, am_bl_long, am_br_ref, am_bc_some, am_bq_some, am_gf_c, am_rd_c, am_bh_pf, am_bh_wr, am_g_p, ob_get, ob_put, ar_get, ar_put, ob_tag, ar_tag, i_zero, i_add, i_sub, i_mul, i_lt, i_le, i_eq, i_val, if_pos, if_neg, Option.toList_some, Option.toList_none, List.cons_append, List.nil_append, beq_self_eq_true, true_or, or_true, up_at, up_ne, ↓reduceIte, Nat.reduceEqDiff, le_t, le_f, lt_t, lt_f, eq_t, eq_f, nq_t, nq_f, nl_t, nl_f, and_true, true_and, and_false, false_and, not_true_eq_false, not_false_eq_true, or_false, false_or, az_tag, al_tag, az_get, az_put, am_bh_wz, gX, gT, gW, gS, gA, gL, gM, gE, gN, gX_11, gX_1, gX_2, gT_1, gW_0, gW_1, gW_2, gW_3, gW_12, gW_13, gA_1, gL_1, gE_3, gM_0, gM_1, gM_2, gM_3, gN_0, gN_2, gN_3, gN_4, gN_5, gN_10, gN_11, gN_17, gN_18, gN_23, gN_24, gN_29, gN_35, gN_36, gN_42, am_p_p, Int.toNat_natCast, aq_tag, am_rq_c, am_bh_wq, aq_get3, aq_get4, aq_put3, Int.reduceAdd, Int.reduceSub, Int.reduceMul, Int.reduceToNat, c49, s49_0, s49_1, s49_4, s49_6, s49_9, s49_10, s49_13, s49_14, s49_17, s49_18, s49_21, s49_22, s49_23, s49_24, s49_25, s49_26, s49_29, s49_30, s49_33, s49_34, h0, hy, i_div]
    · refine ⟨0, ?_, Or.inr ⟨rfl, fun e => q2 e.2⟩⟩
      have q3 : ¬ 2 * T 1 2 < y := fun e => q2 (hr.2 e)
      simp (disch := first | omega | assumption) only [am_bv_some, am_bi_int, am_bl_long, am_br_ref, am_bc_some, am_bq_some, am_gf_c, am_rd_c, am_bh_pf, am_bh_wr, am_g_p, ob_get, ob_put, ar_get, ar_put, ob_tag, ar_tag, i_zero, i_add, i_sub, i_mul, i_lt, i_le, i_eq, i_val, if_pos, if_neg, Option.toList_some, Option.toList_none, List.cons_append, List.nil_append, beq_self_eq_true, true_or, or_true, up_at, up_ne, ↓reduceIte, Nat.reduceEqDiff, le_t, le_f, lt_t, lt_f, eq_t, eq_f, nq_t, nq_f, nl_t, nl_f, and_true, true_and, and_false, false_and, not_true_eq_false, not_false_eq_true, or_false, false_or, az_tag, al_tag, az_get, az_put, am_bh_wz, gX, gT, gW, gS, gA, gL, gM, gE, gN, gX_11, gX_1, gX_2, gT_1, gW_0, gW_1, gW_2, gW_3, gW_12, gW_13, gA_1, gL_1, gE_3, gM_0, gM_1, gM_2, gM_3, gN_0, gN_2, gN_3, gN_4, gN_5, gN_10, gN_11, gN_17, gN_18, gN_23, gN_24, gN_29, gN_35, gN_36, gN_42, am_p_p, Int.toNat_natCast, aq_tag, am_rq_c, am_bh_wq, aq_get3, aq_get4, aq_put3, Int.reduceAdd, Int.reduceSub, Int.reduceMul, Int.reduceToNat, c49, s49_0, s49_1, s49_4, s49_6, s49_9, s49_10, s49_13, s49_14, s49_17, s49_18, s49_21, s49_22, s49_23, s49_24, s49_25, s49_26, s49_29, s49_30, s49_33, s49_34, h0, hy, i_div]
  · refine ⟨0, ?_, Or.inr ⟨rfl, fun e => q1 e.1⟩⟩
    simp (disch := omega) only [am_bv_some, am_bi_int, am_bl_long, am_br_ref, am_bc_some, am_bq_some, am_gf_c, am_rd_c, am_bh_pf, am_bh_wr, am_g_p, ob_get, ob_put, ar_get, ar_put, ob_tag, ar_tag, i_zero, i_add, i_sub, i_mul, i_lt, i_le, i_eq, i_val, if_pos, if_neg, Option.toList_some, Option.toList_none, List.cons_append, List.nil_append, beq_self_eq_true, true_or, or_true, up_at, up_ne, ↓reduceIte, Nat.reduceEqDiff, le_t, le_f, lt_t, lt_f, eq_t, eq_f, nq_t, nq_f, nl_t, nl_f, and_true, true_and, and_false, false_and, not_true_eq_false, not_false_eq_true, or_false, false_or, az_tag, al_tag, az_get, az_put, am_bh_wz, gX, gT, gW, gS, gA, gL, gM, gE, gN, gX_11, gX_1, gX_2, gT_1, gW_0, gW_1, gW_2, gW_3, gW_12, gW_13, gA_1, gL_1, gE_3, gM_0, gM_1, gM_2, gM_3, gN_0, gN_2, gN_3, gN_4, gN_5, gN_10, gN_11, gN_17, gN_18, gN_23, gN_24, gN_29, gN_35, gN_36, gN_42, am_p_p, Int.toNat_natCast, aq_tag, am_rq_c, am_bh_wq, aq_get3, aq_get4, aq_put3, Int.reduceAdd, Int.reduceSub, Int.reduceMul, Int.reduceToNat, c49, s49_0, s49_1, s49_4, s49_6, s49_9, s49_10, s49_13, s49_14, s49_17, s49_18, s49_21, s49_22, s49_23, s49_24, s49_25, s49_26, s49_29, s49_30, s49_33, s49_34, h0]
/-- the bytes of a part, one by one, as they may be -/
def gd (T : Nat → Nat → Int) (f : Nat → Int) (p : Nat) : Nat → Prop
  | 0 => (f p = 67 ∧ T 1 2 < 8 ∧ roomy T) ∨ (f p = 80 ∧ T 1 3 < 6)
  | 1 => (f p = 67 ∧ (0 ≤ f (p + 1) - 48 ∧ f (p + 1) - 48 < T 1 1) ∧ partn T (f (p + 1) - 48)) ∨ (f p = 80 ∧ (f (p + 1) = 108 ∨ f (p + 1) = 114))
  | 2 => (0 ≤ f (p + 2) - 48 ∧ f (p + 2) - 48 < T 1 1) ∧ (f p = 67 → ¬ told T (f (p + 1) - 48) (f (p + 2) - 48))
  | 3 => 1 ≤ f (p + 3) - 48 ∧ f (p + 3) - 48 ≤ 9
  | 4 => (f p = 67 ∧ (f (p + 4) = 108 ∨ f (p + 4) = 114 ∨ f (p + 4) = 115)) ∨ (f p = 80 ∧ 0 ≤ f (p + 4) - 48 ∧ f (p + 4) - 48 < T 1 1)
  | _ => True
/-- the town behind a part -/
def ptT (T : Nat → Nat → Int) (f : Nat → Int) (p : Nat) : Nat → Nat → Int := if f p = 67 then addC T (T 1 2).toNat (f (p + 1) - 48) (f (p + 2) - 48) (f (p + 3) - 48) (bnd (f (p + 4))) else addP T (T 1 3).toNat (if f (p + 1) = 108 then 1 else 0) (f (p + 2) - 48) (f (p + 3) - 48) (f (p + 4) - 48)
/-- what reading answers, and the town read -/
def RD (f : Nat → Int) (L : Nat) : Nat → (Nat → Nat → Int) → Nat → Int → (Nat → Nat → Int) → Prop
  | 0, T, p, v, T' => L ≤ p ∧ v = -9 ∧ T' = T
  | m + 1, T, p, v, T' => (L ≤ p ∧ v = -9 ∧ T' = T) ∨ (p < L ∧ ∃ i : Nat, i < 5 ∧ (∀ j, j < i → p + j < L ∧ gd T f p j) ∧ ¬ (p + i < L ∧ gd T f p i) ∧ v = ((p + i : Nat) : Int)) ∨ (p < L ∧ (∀ j, j < 5 → p + j < L ∧ gd T f p j) ∧ RD f L m (ptT T f p) (p + 5) v T')
theorem ptT_DT {T : Nat → Nat → Int} {f : Nat → Int} {p : Nat} (h : DT T) (hg : ∀ j, j < 5 → gd T f p j) : DT (ptT T f p) := by
  have hK := h.2.1
  have hP := h.2.2.1
  have g0 := hg 0 (by omega)
  have g1 := hg 1 (by omega)
  have g2 := hg 2 (by omega)
  have g3 := hg 3 (by omega)
  have g4 := hg 4 (by omega)
  unfold gd at g0 g1 g2 g3 g4
  unfold ptT
  by_cases q : f p = 67
  · rw [if_pos q]
    have g0' : T 1 2 < 8 := by
      rcases g0 with g0 | g0
      · exact g0.2.1
      · omega
    have g1' : 0 ≤ f (p + 1) - 48 ∧ f (p + 1) - 48 < T 1 1 := by
      rcases g1 with g1 | g1
      · exact g1.2.1
      · omega
    refine DT_addC h (by omega) (by omega) g1' g2.1 g3 ?_ (g2.2 q)
    unfold bnd
    split
    · omega
    · split <;> omega
  · rw [if_neg q]
    have g0' : T 1 3 < 6 := by
      rcases g0 with g0 | g0
      · exact absurd g0.1 q
      · exact g0.2
    have g4' : 0 ≤ f (p + 4) - 48 ∧ f (p + 4) - 48 < T 1 1 := by
      rcases g4 with g4 | g4
      · exact absurd g4.1 q
      · exact g4.2
    refine DT_addP h (by omega) (by omega) (by split <;> omega) g2.1 g3 g4'
