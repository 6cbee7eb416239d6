def us32 (x : Int32) (n : Int) : Int32 := (x.toUInt32 >>> ((Int32.ofInt n).toUInt32 &&& Int32.toUInt32 31)).toInt32
def bcE (x : Int32) : Int32 :=
  let a := x - (us32 x 1 &&& Int32.ofInt 1431655765)
  let b := (a &&& Int32.ofInt 858993459) + (us32 a 2 &&& Int32.ofInt 858993459)
  let c := (b + us32 b 4) &&& Int32.ofInt 252645135
  let e := c + us32 c 8
  let f := e + us32 e 16
  f &&& Int32.ofInt 63
theorem bcE_fin : ∀ F : Fin 64, bcE (Int32.ofInt ((F : Nat) : Int)) = Int32.ofInt (sm (bi ((F : Nat) : Int)) 6) := by decide +kernel
theorem bc_feet : ∀ F : Fin 64, ∀ P : Fin 7, (F : Nat) < 2 ^ (P : Nat) → sm (bi ((F : Nat) : Int)) 6 = sm (bi ((F : Nat) : Int)) P := by decide +kernel
def lcg (s : Int64) : Int64 := s * Int64.ofInt 6364136223846793005 + Int64.ofInt 1442695040888963407
def evq (s : Int64) : Int32 := lg_cmp ((s.toUInt64 >>> ((Int32.ofInt 33).toInt64.toUInt64 &&& Int64.toUInt64 63)).toInt64 - (s.toUInt64 >>> ((Int32.ofInt 33).toInt64.toUInt64 &&& Int64.toUInt64 63)).toInt64 / Int64.ofInt 2 * Int64.ofInt 2) (Int64.ofInt 0)
def ev (s : Int64) : Int := if evq s = Int32.ofInt 0 then 1 else 0
theorem lcg_eq (s : Int64) : s * Int64.ofInt 6364136223846793005 + Int64.ofInt 1442695040888963407 = lcg s := rfl
theorem evq_eq (s : Int64) : lg_cmp ((s.toUInt64 >>> ((Int32.ofInt 33).toInt64.toUInt64 &&& Int64.toUInt64 63)).toInt64 - (s.toUInt64 >>> ((Int32.ofInt 33).toInt64.toUInt64 &&& Int64.toUInt64 63)).toInt64 / Int64.ofInt 2 * Int64.ofInt 2) (Int64.ofInt 0) = evq s := rfl
def wnL : Int64 → Nat → Int
  | _, 0 => 0
  | s, m + 1 => ev (lcg s) + wnL (lcg s) m
def itr (g : Int64 → Int64) : Nat → Int64 → Int64
  | 0, s => s
  | m + 1, s => itr g m (g s)
theorem itr_s (g : Int64 → Int64) (s : Int64) (m : Nat) : itr g (m + 1) s = itr g m (g s) := rfl
def wnS (s : Int64) (m : Nat) : Int64 := itr lcg m s
theorem wnS_s (s : Int64) (m : Nat) : wnS s (m + 1) = wnS (lcg s) m := by
  unfold wnS
  rw [itr_s]
theorem x_winter_loop (d t u n : Nat) (hn : n ≤ 60) : ∀ (m k : Nat) (A : am_H) (s : Int64) (L : Int), k + m = n → am_g A 1 = ob 10 12 (gX t u s) → ∃ A', am_run d 96 27 [.ref 1, .int (Int32.ofInt (n : Int)), .int (Int32.ofInt L), .int (Int32.ofInt (k : Int))] [] A = am_run d 96 73 [.ref 1, .int (Int32.ofInt (n : Int)), .int (Int32.ofInt (L + wnL s m)), .int (Int32.ofInt (n : Int))] [] A' ∧ ∀ i, am_g A' i = if i = 1 then ob 10 12 (gX t u (wnS s m)) else am_g A i := by
  intro m
  induction m with
  | zero =>
    intro k A s L hk a1
    refine ⟨A, ?_, fun i => ?_⟩
    · have : k = n := by omega
      subst this
      rw [show wnL s 0 = 0 from rfl, Int.add_zero]
      simp (disch := omega) only [am_bv_some, am_bi_int, am_bl_long, am_br_ref, am_bc_some, am_bq_some, am_gf_c, am_rd_c, am_bh_pf, am_bh_wr, am_g_p, ob_get, ob_put, ar_get, ar_put, ob_tag, ar_tag, i_zero, i_add, i_sub, i_mul, i_lt, i_le, i_eq, i_val, if_pos, if_neg, Option.toList_some, Option.toList_none, List.cons_append, List.nil_append, beq_self_eq_true, true_or, or_true, up_at, up_ne, ↓reduceIte, Nat.reduceEqDiff, le_t, le_f, lt_t, lt_f, eq_t, eq_f, nq_t, nq_f, nl_t, nl_f, and_true, true_and, and_false, false_and, not_true_eq_false, not_false_eq_true, or_false, false_or, az_tag, al_tag, az_get, az_put, am_bh_wz, gX, gT, gW, gS, gA, gL, gM, gE, gN, gX_11, gX_1, gX_2, gT_1, gW_0, gW_1, gW_2, gW_3, gW_12, gW_13, gA_1, gL_1, gE_3, gM_0, gM_1, gM_2, gM_3, gN_0, gN_2, gN_3, gN_4, gN_5, gN_10, gN_11, gN_17, gN_18, gN_23, gN_24, gN_29, gN_35, gN_36, gN_42, am_p_p, Int.toNat_natCast, aq_tag, am_rq_c, am_bh_wq, aq_get3, aq_get4, aq_put3, Int.reduceAdd, Int.reduceSub, Int.reduceMul, Int.reduceToNat, s96_27, s96_28, s96_29]
    · by_cases u1 : i = 1
      · rw [if_pos u1, u1, a1]; rfl
      · rw [if_neg u1]
  | succ j ih =>
    intro k A s L hk a1
    obtain ⟨A', e1, e2⟩ := ih (k + 1) (am_p A 1 (ob 10 12 (gX t u (lcg s)))) (lcg s) (L + ev (lcg s)) (by omega) (by simp (disch := omega) only [am_bv_some, am_bi_int, am_bl_long, am_br_ref, am_bc_some, am_bq_some, am_gf_c, am_rd_c, am_bh_pf, am_bh_wr, am_g_p, ob_get, ob_put, ar_get, ar_put, ob_tag, ar_tag, i_zero, i_add, i_sub, i_mul, i_lt, i_le, i_eq, i_val, if_pos, if_neg, Option.toList_some, Option.toList_none, List.cons_append, List.nil_append, beq_self_eq_true, true_or, or_true, up_at, up_ne, ↓reduceIte, Nat.reduceEqDiff, le_t, le_f, lt_t, lt_f, eq_t, eq_f, nq_t, nq_f, nl_t, nl_f, and_true, true_and, and_false, false_and, not_true_eq_false, not_false_eq_true, or_false, false_or, az_tag, al_tag, az_get, az_put, am_bh_wz, gX, gT, gW, gS, gA, gL, gM, gE, gN, gX_11, gX_1, gX_2, gT_1, gW_0, gW_1, gW_2, gW_3, gW_12, gW_13, gA_1, gL_1, gE_3, gM_0, gM_1, gM_2, gM_3, gN_0, gN_2, gN_3, gN_4, gN_5, gN_10, gN_11, gN_17, gN_18, gN_23, gN_24, gN_29, gN_35, gN_36, gN_42, am_p_p, Int.toNat_natCast, aq_tag, am_rq_c, am_bh_wq, aq_get3, aq_get4, aq_put3, Int.reduceAdd, Int.reduceSub, Int.reduceMul, Int.reduceToNat, ])
    refine ⟨A', ?_, fun i => ?_⟩
    · rw [show wnL s (j + 1) = ev (lcg s) + wnL (lcg s) j from rfl, ← Int.add_assoc, ← e1, s96_27]
      have s58 := fun d A x0 x1 x2 x3 s1 => s96_58 d A x0 x1 x2 x3 (Int64.ofInt 2) s1 (by decide)
      unfold ev
      by_cases q : evq (lcg s) = Int32.ofInt 0
      · rw [if_pos q]
        simp (disch := omega) only [am_bv_some, am_bi_int, am_bl_long, am_br_ref, am_bc_some, am_bq_some, am_gf_c, am_rd_c, am_bh_pf, am_bh_wr, am_g_p, ob_get, ob_put, ar_get, ar_put, ob_tag, ar_tag, i_zero, i_add, i_sub, i_mul, i_lt, i_le, i_eq, i_val, if_pos, if_neg, Option.toList_some, Option.toList_none, List.cons_append, List.nil_append, beq_self_eq_true, true_or, or_true, up_at, up_ne, ↓reduceIte, Nat.reduceEqDiff, le_t, le_f, lt_t, lt_f, eq_t, eq_f, nq_t, nq_f, nl_t, nl_f, and_true, true_and, and_false, false_and, not_true_eq_false, not_false_eq_true, or_false, false_or, az_tag, al_tag, az_get, az_put, am_bh_wz, gX, gT, gW, gS, gA, gL, gM, gE, gN, gX_11, gX_1, gX_2, gT_1, gW_0, gW_1, gW_2, gW_3, gW_12, gW_13, gA_1, gL_1, gE_3, gM_0, gM_1, gM_2, gM_3, gN_0, gN_2, gN_3, gN_4, gN_5, gN_10, gN_11, gN_17, gN_18, gN_23, gN_24, gN_29, gN_35, gN_36, gN_42, am_p_p, Int.toNat_natCast, aq_tag, am_rq_c, am_bh_wq, aq_get3, aq_get4, aq_put3, Int.reduceAdd, Int.reduceSub, Int.reduceMul, Int.reduceToNat, s96_0, s96_1, s96_2, s96_5, s96_6, s96_8, s96_11, s96_13, s96_14, s96_15, s96_18, s96_21, s96_24, s96_25, s96_26, s96_28, s96_29, s96_32, s96_33, s96_34, s96_37, s96_40, s96_41, s96_44, s96_45, s96_48, s96_49, s96_52, s96_54, s96_55, s96_59, s96_60, s96_61, s96_64, s96_67, s96_70, s96_74, s96_75, s96_78, s96_81, s96_82, s96_83, s96_84, s96_85, s96_88, s58, a1, lcg_eq, evq_eq, q, Int.natCast_add, Int.cast_ofNat_Int]
      · rw [if_neg q]
        have q' := eq_false q
        simp (disch := omega) only [am_bv_some, am_bi_int, am_bl_long, am_br_ref, am_bc_some, am_bq_some, am_gf_c, am_rd_c, am_bh_pf, am_bh_wr, am_g_p, ob_get, ob_put, ar_get, ar_put, ob_tag, ar_tag, i_zero, i_add, i_sub, i_mul, i_lt, i_le, i_eq, i_val, if_pos, if_neg, Option.toList_some, Option.toList_none, List.cons_append, List.nil_append, beq_self_eq_true, true_or, or_true, up_at, up_ne, ↓reduceIte, Nat.reduceEqDiff, le_t, le_f, lt_t, lt_f, eq_t, eq_f, nq_t, nq_f, nl_t, nl_f, and_true, true_and, and_false, false_and, not_true_eq_false, not_false_eq_true, or_false, false_or, az_tag, al_tag, az_get, az_put, am_bh_wz, gX, gT, gW, gS, gA, gL, gM, gE, gN, gX_11, gX_1, gX_2, gT_1, gW_0, gW_1, gW_2, gW_3, gW_12, gW_13, gA_1, gL_1, gE_3, gM_0, gM_1, gM_2, gM_3, gN_0, gN_2, gN_3, gN_4, gN_5, gN_10, gN_11, gN_17, gN_18, gN_23, gN_24, gN_29, gN_35, gN_36, gN_42, am_p_p, Int.toNat_natCast, aq_tag, am_rq_c, am_bh_wq, aq_get3, aq_get4, aq_put3, Int.reduceAdd, Int.reduceSub, Int.reduceMul, Int.reduceToNat, s96_0, s96_1, s96_2, s96_5, s96_6, s96_8, s96_11, s96_13, s96_14, s96_15, s96_18, s96_21, s96_24, s96_25, s96_26, s96_28, s96_29, s96_32, s96_33, s96_34, s96_37, s96_40, s96_41, s96_44, s96_45, s96_48, s96_49, s96_52, s96_54, s96_55, s96_59, s96_60, s96_61, s96_64, s96_67, s96_70, s96_74, s96_75, s96_78, s96_81, s96_82, s96_83, s96_84, s96_85, s96_88, s58, a1, lcg_eq, evq_eq, q', Int.natCast_add, Int.cast_ofNat_Int, Int.add_zero]
    · rw [e2]
      by_cases u1 : i = 1
      · rw [if_pos u1, if_pos u1, wnS_s]
      · rw [if_neg u1, if_neg u1]; simp (disch := omega) only [am_bv_some, am_bi_int, am_bl_long, am_br_ref, am_bc_some, am_bq_some, am_gf_c, am_rd_c, am_bh_pf, am_bh_wr, am_g_p, ob_get, ob_put, ar_get, ar_put, ob_tag, ar_tag, i_zero, i_add, i_sub, i_mul, i_lt, i_le, i_eq, i_val, if_pos, if_neg, Option.toList_some, Option.toList_none, List.cons_append, List.nil_append, beq_self_eq_true, true_or, or_true, up_at, up_ne, ↓reduceIte, Nat.reduceEqDiff, le_t, le_f, lt_t, lt_f, eq_t, eq_f, nq_t, nq_f, nl_t, nl_f, and_true, true_and, and_false, false_and, not_true_eq_false, not_false_eq_true, or_false, false_or, az_tag, al_tag, az_get, az_put, am_bh_wz, gX, gT, gW, gS, gA, gL, gM, gE, gN, gX_11, gX_1, gX_2, gT_1, gW_0, gW_1, gW_2, gW_3, gW_12, gW_13, gA_1, gL_1, gE_3, gM_0, gM_1, gM_2, gM_3, gN_0, gN_2, gN_3, gN_4, gN_5, gN_10, gN_11, gN_17, gN_18, gN_23, gN_24, gN_29, gN_35, gN_36, gN_42, am_p_p, Int.toNat_natCast, aq_tag, am_rq_c, am_bh_wq, aq_get3, aq_get4, aq_put3, Int.reduceAdd, Int.reduceSub, Int.reduceMul, Int.reduceToNat, ]
