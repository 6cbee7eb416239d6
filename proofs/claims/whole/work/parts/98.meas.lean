theorem DT.TW {T : Nat → Nat → Int} (h : DT T) : TW T := ⟨h.1, h.2.1, fun k hk => by have := h.2.2.2.2.1 k hk; omega, h.2.2.2.2.2.2⟩
theorem pl_0r (a : Int) : pl a 0 = a := by unfold pl; split <;> omega
theorem pl_0l (a : Int) : pl 0 a = a := by unfold pl; split <;> omega
theorem fwS_ro {D : Nat → Nat → Int} {o : Nat} (h0 : D o o = 0) (a : Nat) : fwS D o a o = D a o := by
  unfold fwS
  rw [h0, pl_0r]
  split <;> rfl
theorem fwS_ob {D : Nat → Nat → Int} {o : Nat} (h0 : D o o = 0) (b : Nat) : fwS D o o b = D o b := by
  unfold fwS
  rw [h0, pl_0l]
  split <;> rfl
theorem p_measureOver (d u n one o : Nat) (A : am_H) (n' K P F kd fe : Int) (ap : Nat → Int) (D : Nat → Nat → Int) (hu : u = 4 ∨ u = 13) (h0 : am_g A u = ob 8 14 (gW u n' K P F kd fe)) (hn : n' = (n : Int)) (h6 : n ≤ 6) (h8 : am_g A (u + 8) = ar 36 ap) (ho : o < n) (h1 : one < n) (hD0 : D o o = 0) (hDr : ∀ a b, D a b = 2147483647 ∨ 0 ≤ D a b ∧ D a b ≤ 64000) (k1 : ∀ b, b < n → ap (6 * one + b) = D one b) (k2 : ∀ b, b < n → ap (6 * o + b) = D o b) : ∃ A' ap', am_call (d + 1) 55 [.ref u, .int (Int32.ofInt (one : Int)), .int (Int32.ofInt (o : Int))] A = some (none, A') ∧ am_g A' (u + 8) = ar 36 ap' ∧ (∀ i, i ≠ u + 8 → am_g A' i = am_g A i) ∧ (∀ b, b < n → ap' (6 * one + b) = fwS D o one b) ∧ ∀ a b, a ≠ one → b < 6 → ap' (6 * a + b) = ap (6 * a + b) := by
  subst hn
  have loop : ∀ (m k : Nat) (B : am_H) (q : Nat → Int) (x4 : Value), k + m = n → am_g B (u + 8) = ar 36 q → (∀ i, i ≠ u + 8 → am_g B i = am_g A i) → (∀ b, b < n → q (6 * one + b) = if b < k then fwS D o one b else D one b) → (∀ a b, a ≠ one → b < 6 → q (6 * a + b) = ap (6 * a + b)) → ∃ A' ap', am_run (d + 1) 55 2 [.ref u, .int (Int32.ofInt (one : Int)), .int (Int32.ofInt (o : Int)), .int (Int32.ofInt (k : Int)), x4] [] B = some (none, A') ∧ am_g A' (u + 8) = ar 36 ap' ∧ (∀ i, i ≠ u + 8 → am_g A' i = am_g A i) ∧ (∀ b, b < n → ap' (6 * one + b) = fwS D o one b) ∧ ∀ a b, a ≠ one → b < 6 → ap' (6 * a + b) = ap (6 * a + b) := by
    intro m
    induction m with
    | zero =>
      intro k B q x4 hk hq hB h1 h2
      have : k = n := by omega
      subst this
      have w0 : am_g B u = ob 8 14 (gW u (k : Int) K P F kd fe) := by rw [hB _ (by omega)]; exact h0
      refine ⟨B, q, ?_, hq, hB, fun b hb => by rw [h1 b hb, if_pos hb], h2⟩
      simp (disch := omega) only [am_bv_some, am_bi_int, am_bl_long, am_br_ref, am_bc_some, am_bq_some, am_gf_c, am_rd_c, am_bh_pf, am_bh_wr, am_g_p, ob_get, ob_put, ar_get, ar_put, ob_tag, ar_tag, i_zero, i_add, i_sub, i_mul, i_lt, i_le, i_eq, i_val, if_pos, if_neg, Option.toList_some, Option.toList_none, List.cons_append, List.nil_append, beq_self_eq_true, true_or, or_true, up_at, up_ne, ↓reduceIte, Nat.reduceEqDiff, le_t, le_f, lt_t, lt_f, eq_t, eq_f, nq_t, nq_f, nl_t, nl_f, and_true, true_and, and_false, false_and, not_true_eq_false, not_false_eq_true, or_false, false_or, az_tag, al_tag, az_get, az_put, am_bh_wz, gX, gT, gW, gS, gA, gL, gM, gE, gN, gX_11, gX_1, gX_2, gT_1, gW_0, gW_1, gW_2, gW_3, gW_12, gW_13, gA_1, gL_1, gE_3, gM_0, gM_1, gM_2, gM_3, gN_0, gN_2, gN_3, gN_4, gN_5, gN_10, gN_11, gN_17, gN_18, gN_23, gN_24, gN_29, gN_35, gN_36, gN_42, am_p_p, Int.toNat_natCast, aq_tag, am_rq_c, am_bh_wq, aq_get3, aq_get4, aq_put3, Int.reduceAdd, Int.reduceSub, Int.reduceMul, Int.reduceToNat, s55_0, s55_1, s55_2, s55_3, s55_4, s55_7, s55_10, s55_11, s55_14, s55_15, s55_17, s55_18, s55_19, s55_20, s55_21, s55_22, s55_25, s55_26, s55_28, s55_29, s55_30, s55_31, s55_32, s55_35, s55_37, s55_39, s55_40, s55_43, s55_44, s55_46, s55_47, s55_48, s55_49, s55_50, s55_53, s55_54, s55_57, s55_58, s55_60, s55_61, s55_62, s55_63, s55_65, s55_66, s55_69, s55_72, w0]
    | succ m ih =>
      intro k B q x4 hk hq hB h1' h2
      have w0 : am_g B u = ob 8 14 (gW u (n : Int) K P F kd fe) := by rw [hB _ (by omega)]; exact h0
      have e1 : q (6 * one + o) = D one o := by
        rw [h1' o ho]
        split
        · exact fwS_ro hD0 one
        · rfl
      have e2 : q (6 * o + k) = D o k := by
        by_cases e : o = one
        · subst e
          rw [h1' k (by omega), if_neg (by omega)]
        · rw [h2 o k e (by omega)]; exact k2 k (by omega)
      have e3 : q (6 * one + k) = D one k := by rw [h1' k (by omega), if_neg (by omega)]
      have f1 : ((one : Int) * 6 + (o : Int)).toNat = 6 * one + o := by omega
      have f2 : ((o : Int) * 6 + (k : Int)).toNat = 6 * o + k := by omega
      have f3 : ((one : Int) * 6 + (k : Int)).toNat = 6 * one + k := by omega
      have r1 := hDr one o
      have r2 := hDr o k
      have r3 := hDr one k
      have pp := fun d => p_plus d B (D one o) (D o k) (by omega) (by omega)
      have rp := pl_rng r1 r2
      have hfs : fwS D o one k = if pl (D one o) (D o k) < D one k then pl (D one o) (D o k) else D one k := rfl
      by_cases c : pl (D one o) (D o k) < D one k
      · rw [if_pos c] at hfs
        obtain ⟨A', ap', i1, i2⟩ := ih (k + 1) (am_p B (u + 8) (ar 36 (up q (6 * one + k) (pl (D one o) (D o k))))) (up q (6 * one + k) (pl (D one o) (D o k))) (.int (Int32.ofInt (pl (D one o) (D o k)))) (by omega) (by rw [am_g_p, if_pos rfl]) (fun i hi => by rw [am_g_p, if_neg hi]; exact hB i hi) (fun b hb => by
          by_cases e : b = k
          · subst e; rw [up_at, if_pos (by omega)]; exact hfs.symm
          · rw [up_ne _ _ (by omega), h1' b hb]
            by_cases e2 : b < k
            · rw [if_pos e2, if_pos (by omega)]
            · rw [if_neg e2, if_neg (by omega)]) (fun a b ha hb => by
          have : 6 * a + b ≠ 6 * one + k := fun e => ha (by omega)
          rw [up_ne _ _ this]; exact h2 a b ha hb)
        refine ⟨A', ap', ?_, i2⟩
        rw [← i1, s55_2]
        generalize pl (D one o) (D o k) = v at *
        simp (disch := omega) only [am_bv_some, am_bi_int, am_bl_long, am_br_ref, am_bc_some, am_bq_some, am_gf_c, am_rd_c, am_bh_pf, am_bh_wr, am_g_p, ob_get, ob_put, ar_get, ar_put, ob_tag, ar_tag, i_zero, i_add, i_sub, i_mul, i_lt, i_le, i_eq, i_val, if_pos, if_neg, Option.toList_some, Option.toList_none, List.cons_append, List.nil_append, beq_self_eq_true, true_or, or_true, up_at, up_ne, ↓reduceIte, Nat.reduceEqDiff, le_t, le_f, lt_t, lt_f, eq_t, eq_f, nq_t, nq_f, nl_t, nl_f, and_true, true_and, and_false, false_and, not_true_eq_false, not_false_eq_true, or_false, false_or, az_tag, al_tag, az_get, az_put, am_bh_wz, gX, gT, gW, gS, gA, gL, gM, gE, gN, gX_11, gX_1, gX_2, gT_1, gW_0, gW_1, gW_2, gW_3, gW_12, gW_13, gA_1, gL_1, gE_3, gM_0, gM_1, gM_2, gM_3, gN_0, gN_2, gN_3, gN_4, gN_5, gN_10, gN_11, gN_17, gN_18, gN_23, gN_24, gN_29, gN_35, gN_36, gN_42, am_p_p, Int.toNat_natCast, aq_tag, am_rq_c, am_bh_wq, aq_get3, aq_get4, aq_put3, Int.reduceAdd, Int.reduceSub, Int.reduceMul, Int.reduceToNat, s55_0, s55_1, s55_3, s55_4, s55_7, s55_10, s55_11, s55_14, s55_15, s55_17, s55_18, s55_19, s55_20, s55_21, s55_22, s55_25, s55_26, s55_28, s55_29, s55_30, s55_31, s55_32, s55_35, s55_37, s55_39, s55_40, s55_43, s55_44, s55_46, s55_47, s55_48, s55_49, s55_50, s55_53, s55_54, s55_57, s55_58, s55_60, s55_61, s55_62, s55_63, s55_65, s55_66, s55_69, s55_72, w0, hq, f1, f2, f3, e1, e2, e3, pp, Int.natCast_add, Int.cast_ofNat_Int]
      · rw [if_neg c] at hfs
        obtain ⟨A', ap', i1, i2⟩ := ih (k + 1) B q (.int (Int32.ofInt (pl (D one o) (D o k)))) (by omega) hq hB (fun b hb => by
          by_cases e : b = k
          · subst e; rw [if_pos (by omega), e3]; exact hfs.symm
          · rw [h1' b hb]
            by_cases e2 : b < k
            · rw [if_pos e2, if_pos (by omega)]
            · rw [if_neg e2, if_neg (by omega)]) h2
        refine ⟨A', ap', ?_, i2⟩
        rw [← i1, s55_2]
        generalize pl (D one o) (D o k) = v at *
        simp (disch := omega) only [am_bv_some, am_bi_int, am_bl_long, am_br_ref, am_bc_some, am_bq_some, am_gf_c, am_rd_c, am_bh_pf, am_bh_wr, am_g_p, ob_get, ob_put, ar_get, ar_put, ob_tag, ar_tag, i_zero, i_add, i_sub, i_mul, i_lt, i_le, i_eq, i_val, if_pos, if_neg, Option.toList_some, Option.toList_none, List.cons_append, List.nil_append, beq_self_eq_true, true_or, or_true, up_at, up_ne, ↓reduceIte, Nat.reduceEqDiff, le_t, le_f, lt_t, lt_f, eq_t, eq_f, nq_t, nq_f, nl_t, nl_f, and_true, true_and, and_false, false_and, not_true_eq_false, not_false_eq_true, or_false, false_or, az_tag, al_tag, az_get, az_put, am_bh_wz, gX, gT, gW, gS, gA, gL, gM, gE, gN, gX_11, gX_1, gX_2, gT_1, gW_0, gW_1, gW_2, gW_3, gW_12, gW_13, gA_1, gL_1, gE_3, gM_0, gM_1, gM_2, gM_3, gN_0, gN_2, gN_3, gN_4, gN_5, gN_10, gN_11, gN_17, gN_18, gN_23, gN_24, gN_29, gN_35, gN_36, gN_42, am_p_p, Int.toNat_natCast, aq_tag, am_rq_c, am_bh_wq, aq_get3, aq_get4, aq_put3, Int.reduceAdd, Int.reduceSub, Int.reduceMul, Int.reduceToNat, s55_0, s55_1, s55_3, s55_4, s55_7, s55_10, s55_11, s55_14, s55_15, s55_17, s55_18, s55_19, s55_20, s55_21, s55_22, s55_25, s55_26, s55_28, s55_29, s55_30, s55_31, s55_32, s55_35, s55_37, s55_39, s55_40, s55_43, s55_44, s55_46, s55_47, s55_48, s55_49, s55_50, s55_53, s55_54, s55_57, s55_58, s55_60, s55_61, s55_62, s55_63, s55_65, s55_66, s55_69, s55_72, w0, hq, f1, f2, f3, e1, e2, e3, pp, Int.natCast_add, Int.cast_ofNat_Int]
  obtain ⟨A', ap', r1, r2⟩ := loop n 0 A ap .null (by omega) h8 (fun _ _ => rfl) (fun b hb => by rw [if_neg (by omega)]; exact k1 b hb) (fun _ _ _ _ => rfl)
  refine ⟨A', ap', ?_, r2⟩
  rw [← r1]
  simp (disch := omega) only [am_bv_some, am_bi_int, am_bl_long, am_br_ref, am_bc_some, am_bq_some, am_gf_c, am_rd_c, am_bh_pf, am_bh_wr, am_g_p, ob_get, ob_put, ar_get, ar_put, ob_tag, ar_tag, i_zero, i_add, i_sub, i_mul, i_lt, i_le, i_eq, i_val, if_pos, if_neg, Option.toList_some, Option.toList_none, List.cons_append, List.nil_append, beq_self_eq_true, true_or, or_true, up_at, up_ne, ↓reduceIte, Nat.reduceEqDiff, le_t, le_f, lt_t, lt_f, eq_t, eq_f, nq_t, nq_f, nl_t, nl_f, and_true, true_and, and_false, false_and, not_true_eq_false, not_false_eq_true, or_false, false_or, az_tag, al_tag, az_get, az_put, am_bh_wz, gX, gT, gW, gS, gA, gL, gM, gE, gN, gX_11, gX_1, gX_2, gT_1, gW_0, gW_1, gW_2, gW_3, gW_12, gW_13, gA_1, gL_1, gE_3, gM_0, gM_1, gM_2, gM_3, gN_0, gN_2, gN_3, gN_4, gN_5, gN_10, gN_11, gN_17, gN_18, gN_23, gN_24, gN_29, gN_35, gN_36, gN_42, am_p_p, Int.toNat_natCast, aq_tag, am_rq_c, am_bh_wq, aq_get3, aq_get4, aq_put3, Int.reduceAdd, Int.reduceSub, Int.reduceMul, Int.reduceToNat, c55, s55_0, s55_1, s55_3, s55_4, s55_7, s55_10, s55_11, s55_14, s55_15, s55_17, s55_18, s55_19, s55_20, s55_21, s55_22, s55_25, s55_26, s55_28, s55_29, s55_30, s55_31, s55_32, s55_35, s55_37, s55_39, s55_40, s55_43, s55_44, s55_46, s55_47, s55_48, s55_49, s55_50, s55_53, s55_54, s55_57, s55_58, s55_60, s55_61, s55_62, s55_63, s55_65, s55_66, s55_69, s55_72, h0, Int.cast_ofNat_Int]
theorem p_meas1_in (d u n one : Nat) (B : am_H) (K P F kd fe : Int) (hu : u = 4 ∨ u = 13) (h0 : am_g B u = ob 8 14 (gW u (n : Int) K P F kd fe)) (h6 : n ≤ 6) (h1 : one < n) : ∀ (m k : Nat) (A : am_H) (q : Nat → Int), k + m = n → am_g A (u + 8) = ar 36 q → (∀ i, i ≠ u + 8 → am_g A i = am_g B i) → (∀ a b, (a < one ∨ a = one ∧ b < k) → b < n → q (6 * a + b) = if a = b then 0 else 2147483647) → ∃ A' q', am_run d 54 12 [.ref u, .int (Int32.ofInt (one : Int)), .int (Int32.ofInt (k : Int)), .null] [] A = am_run d 54 48 [.ref u, .int (Int32.ofInt (one : Int)), .int (Int32.ofInt (n : Int)), .null] [] A' ∧ am_g A' (u + 8) = ar 36 q' ∧ (∀ i, i ≠ u + 8 → am_g A' i = am_g B i) ∧ ∀ a b, a < one + 1 → b < n → q' (6 * a + b) = if a = b then 0 else 2147483647 := by
  intro m
  induction m with
  | zero =>
    intro k A q hk h8 hf hq
    have : k = n := by omega
    subst this
    have w0 : am_g A u = ob 8 14 (gW u (k : Int) K P F kd fe) := by rw [hf _ (by omega)]; exact h0
    refine ⟨A, q, ?_, h8, hf, fun a b h2 h3 => hq a b (by omega) h3⟩
    rw [s54_12]
    simp (disch := omega) only [am_bv_some, am_bi_int, am_bl_long, am_br_ref, am_bc_some, am_bq_some, am_gf_c, am_rd_c, am_bh_pf, am_bh_wr, am_g_p, ob_get, ob_put, ar_get, ar_put, ob_tag, ar_tag, i_zero, i_add, i_sub, i_mul, i_lt, i_le, i_eq, i_val, if_pos, if_neg, Option.toList_some, Option.toList_none, List.cons_append, List.nil_append, beq_self_eq_true, true_or, or_true, up_at, up_ne, ↓reduceIte, Nat.reduceEqDiff, le_t, le_f, lt_t, lt_f, eq_t, eq_f, nq_t, nq_f, nl_t, nl_f, and_true, true_and, and_false, false_and, not_true_eq_false, not_false_eq_true, or_false, false_or, az_tag, al_tag, az_get, az_put, am_bh_wz, gX, gT, gW, gS, gA, gL, gM, gE, gN, gX_11, gX_1, gX_2, gT_1, gW_0, gW_1, gW_2, gW_3, gW_12, gW_13, gA_1, gL_1, gE_3, gM_0, gM_1, gM_2, gM_3, gN_0, gN_2, gN_3, gN_4, gN_5, gN_10, gN_11, gN_17, gN_18, gN_23, gN_24, gN_29, gN_35, gN_36, gN_42, am_p_p, Int.toNat_natCast, aq_tag, am_rq_c, am_bh_wq, aq_get3, aq_get4, aq_put3, Int.reduceAdd, Int.reduceSub, Int.reduceMul, Int.reduceToNat, s54_0, s54_1, s54_3, s54_4, s54_7, s54_10, s54_11, s54_13, s54_14, s54_17, s54_20, s54_21, s54_24, s54_25, s54_27, s54_28, s54_29, s54_30, s54_31, s54_32, s54_35, s54_36, s54_39, s54_41, s54_42, s54_45, s54_51, s54_54, s54_55, s54_57, s54_58, s54_61, s54_64, s54_65, s54_68, s54_69, s54_70, s54_71, s54_72, s54_75, s54_76, s54_77, s54_78, s54_79, s54_82, s54_83, s54_85, s54_86, s54_87, s54_88, s54_89, s54_92, s54_93, s54_94, s54_95, s54_96, s54_99, s54_100, s54_102, s54_103, s54_104, s54_105, s54_106, s54_109, s54_110, s54_111, s54_112, s54_115, s54_118, s54_119, s54_121, s54_122, s54_125, s54_128, s54_129, s54_131, s54_132, s54_135, s54_138, s54_139, s54_140, s54_141, s54_144, s54_147, s54_150, s54_153, s54_156, w0]
  | succ m ih =>
    intro k A q hk h8 hf hq
    have w0 : am_g A u = ob 8 14 (gW u (n : Int) K P F kd fe) := by rw [hf _ (by omega)]; exact h0
    have f3 : ((one : Int) * 6 + (k : Int)).toNat = 6 * one + k := by omega
    obtain ⟨A', q', i1, i2⟩ := ih (k + 1) (am_p A (u + 8) (ar 36 (up q (6 * one + k) (if one = k then 0 else 2147483647)))) (up q (6 * one + k) (if one = k then 0 else 2147483647)) (by omega) (by rw [am_g_p, if_pos rfl]) (fun i hi => by rw [am_g_p, if_neg hi]; exact hf i hi) (fun a b h2 h3 => by
      by_cases e : a = one ∧ b = k
      · obtain ⟨rfl, rfl⟩ := e; rw [up_at]
      · have hne : 6 * a + b ≠ 6 * one + k := fun e' => e ⟨by omega, by omega⟩
        rw [up_ne _ _ hne]
        exact hq a b (by omega) h3)
    refine ⟨A', q', ?_, i2⟩
    rw [← i1, s54_12]
    by_cases e : one = k
    · rw [if_pos e]
      subst e
      simp (disch := omega) only [am_bv_some, am_bi_int, am_bl_long, am_br_ref, am_bc_some, am_bq_some, am_gf_c, am_rd_c, am_bh_pf, am_bh_wr, am_g_p, ob_get, ob_put, ar_get, ar_put, ob_tag, ar_tag, i_zero, i_add, i_sub, i_mul, i_lt, i_le, i_eq, i_val, if_pos, if_neg, Option.toList_some, Option.toList_none, List.cons_append, List.nil_append, beq_self_eq_true, true_or, or_true, up_at, up_ne, ↓reduceIte, Nat.reduceEqDiff, le_t, le_f, lt_t, lt_f, eq_t, eq_f, nq_t, nq_f, nl_t, nl_f, and_true, true_and, and_false, false_and, not_true_eq_false, not_false_eq_true, or_false, false_or, az_tag, al_tag, az_get, az_put, am_bh_wz, gX, gT, gW, gS, gA, gL, gM, gE, gN, gX_11, gX_1, gX_2, gT_1, gW_0, gW_1, gW_2, gW_3, gW_12, gW_13, gA_1, gL_1, gE_3, gM_0, gM_1, gM_2, gM_3, gN_0, gN_2, gN_3, gN_4, gN_5, gN_10, gN_11, gN_17, gN_18, gN_23, gN_24, gN_29, gN_35, gN_36, gN_42, am_p_p, Int.toNat_natCast, aq_tag, am_rq_c, am_bh_wq, aq_get3, aq_get4, aq_put3, Int.reduceAdd, Int.reduceSub, Int.reduceMul, Int.reduceToNat, s54_0, s54_1, s54_3, s54_4, s54_7, s54_10, s54_11, s54_13, s54_14, s54_17, s54_20, s54_21, s54_24, s54_25, s54_27, s54_28, s54_29, s54_30, s54_31, s54_32, s54_35, s54_36, s54_39, s54_41, s54_42, s54_45, s54_51, s54_54, s54_55, s54_57, s54_58, s54_61, s54_64, s54_65, s54_68, s54_69, s54_70, s54_71, s54_72, s54_75, s54_76, s54_77, s54_78, s54_79, s54_82, s54_83, s54_85, s54_86, s54_87, s54_88, s54_89, s54_92, s54_93, s54_94, s54_95, s54_96, s54_99, s54_100, s54_102, s54_103, s54_104, s54_105, s54_106, s54_109, s54_110, s54_111, s54_112, s54_115, s54_118, s54_119, s54_121, s54_122, s54_125, s54_128, s54_129, s54_131, s54_132, s54_135, s54_138, s54_139, s54_140, s54_141, s54_144, s54_147, s54_150, s54_153, s54_156, w0, h8, f3, Int.natCast_add, Int.cast_ofNat_Int]
    · rw [if_neg e]
      simp (disch := omega) only [am_bv_some, am_bi_int, am_bl_long, am_br_ref, am_bc_some, am_bq_some, am_gf_c, am_rd_c, am_bh_pf, am_bh_wr, am_g_p, ob_get, ob_put, ar_get, ar_put, ob_tag, ar_tag, i_zero, i_add, i_sub, i_mul, i_lt, i_le, i_eq, i_val, if_pos, if_neg, Option.toList_some, Option.toList_none, List.cons_append, List.nil_append, beq_self_eq_true, true_or, or_true, up_at, up_ne, ↓reduceIte, Nat.reduceEqDiff, le_t, le_f, lt_t, lt_f, eq_t, eq_f, nq_t, nq_f, nl_t, nl_f, and_true, true_and, and_false, false_and, not_true_eq_false, not_false_eq_true, or_false, false_or, az_tag, al_tag, az_get, az_put, am_bh_wz, gX, gT, gW, gS, gA, gL, gM, gE, gN, gX_11, gX_1, gX_2, gT_1, gW_0, gW_1, gW_2, gW_3, gW_12, gW_13, gA_1, gL_1, gE_3, gM_0, gM_1, gM_2, gM_3, gN_0, gN_2, gN_3, gN_4, gN_5, gN_10, gN_11, gN_17, gN_18, gN_23, gN_24, gN_29, gN_35, gN_36, gN_42, am_p_p, Int.toNat_natCast, aq_tag, am_rq_c, am_bh_wq, aq_get3, aq_get4, aq_put3, Int.reduceAdd, Int.reduceSub, Int.reduceMul, Int.reduceToNat, s54_0, s54_1, s54_3, s54_4, s54_7, s54_10, s54_11, s54_13, s54_14, s54_17, s54_20, s54_21, s54_24, s54_25, s54_27, s54_28, s54_29, s54_30, s54_31, s54_32, s54_35, s54_36, s54_39, s54_41, s54_42, s54_45, s54_51, s54_54, s54_55, s54_57, s54_58, s54_61, s54_64, s54_65, s54_68, s54_69, s54_70, s54_71, s54_72, s54_75, s54_76, s54_77, s54_78, s54_79, s54_82, s54_83, s54_85, s54_86, s54_87, s54_88, s54_89, s54_92, s54_93, s54_94, s54_95, s54_96, s54_99, s54_100, s54_102, s54_103, s54_104, s54_105, s54_106, s54_109, s54_110, s54_111, s54_112, s54_115, s54_118, s54_119, s54_121, s54_122, s54_125, s54_128, s54_129, s54_131, s54_132, s54_135, s54_138, s54_139, s54_140, s54_141, s54_144, s54_147, s54_150, s54_153, s54_156, w0, h8, f3, Int.natCast_add, Int.cast_ofNat_Int]
theorem p_meas1 (d u n : Nat) (B : am_H) (K P F kd fe : Int) (hu : u = 4 ∨ u = 13) (h0 : am_g B u = ob 8 14 (gW u (n : Int) K P F kd fe)) (h6 : n ≤ 6) : ∀ (m k : Nat) (A : am_H) (q : Nat → Int) (x2 : Value), k + m = n → ¬ x2.category = 2 → am_g A (u + 8) = ar 36 q → (∀ i, i ≠ u + 8 → am_g A i = am_g B i) → (∀ a b, a < k → b < n → q (6 * a + b) = if a = b then 0 else 2147483647) → ∃ A' q' y2, am_run d 54 2 [.ref u, .int (Int32.ofInt (k : Int)), x2, .null] [] A = am_run d 54 54 [.ref u, .int (Int32.ofInt (n : Int)), y2, .null] [] A' ∧ ¬ y2.category = 2 ∧ am_g A' (u + 8) = ar 36 q' ∧ (∀ i, i ≠ u + 8 → am_g A' i = am_g B i) ∧ ∀ a b, a < n → b < n → q' (6 * a + b) = if a = b then 0 else 2147483647 := by
  intro m
  induction m with
  | zero =>
    intro k A q x2 hk hx h8 hf hq
    have : k = n := by omega
    subst this
    have w0 : am_g A u = ob 8 14 (gW u (k : Int) K P F kd fe) := by rw [hf _ (by omega)]; exact h0
    refine ⟨A, q, x2, ?_, hx, h8, hf, hq⟩
    rw [s54_2]
    simp (disch := omega) only [am_bv_some, am_bi_int, am_bl_long, am_br_ref, am_bc_some, am_bq_some, am_gf_c, am_rd_c, am_bh_pf, am_bh_wr, am_g_p, ob_get, ob_put, ar_get, ar_put, ob_tag, ar_tag, i_zero, i_add, i_sub, i_mul, i_lt, i_le, i_eq, i_val, if_pos, if_neg, Option.toList_some, Option.toList_none, List.cons_append, List.nil_append, beq_self_eq_true, true_or, or_true, up_at, up_ne, ↓reduceIte, Nat.reduceEqDiff, le_t, le_f, lt_t, lt_f, eq_t, eq_f, nq_t, nq_f, nl_t, nl_f, and_true, true_and, and_false, false_and, not_true_eq_false, not_false_eq_true, or_false, false_or, az_tag, al_tag, az_get, az_put, am_bh_wz, gX, gT, gW, gS, gA, gL, gM, gE, gN, gX_11, gX_1, gX_2, gT_1, gW_0, gW_1, gW_2, gW_3, gW_12, gW_13, gA_1, gL_1, gE_3, gM_0, gM_1, gM_2, gM_3, gN_0, gN_2, gN_3, gN_4, gN_5, gN_10, gN_11, gN_17, gN_18, gN_23, gN_24, gN_29, gN_35, gN_36, gN_42, am_p_p, Int.toNat_natCast, aq_tag, am_rq_c, am_bh_wq, aq_get3, aq_get4, aq_put3, Int.reduceAdd, Int.reduceSub, Int.reduceMul, Int.reduceToNat, s54_0, s54_1, s54_3, s54_4, s54_7, s54_10, s54_11, s54_13, s54_14, s54_17, s54_20, s54_21, s54_24, s54_25, s54_27, s54_28, s54_29, s54_30, s54_31, s54_32, s54_35, s54_36, s54_39, s54_41, s54_42, s54_45, s54_48, s54_51, s54_55, s54_57, s54_58, s54_61, s54_64, s54_65, s54_68, s54_69, s54_70, s54_71, s54_72, s54_75, s54_76, s54_77, s54_78, s54_79, s54_82, s54_83, s54_85, s54_86, s54_87, s54_88, s54_89, s54_92, s54_93, s54_94, s54_95, s54_96, s54_99, s54_100, s54_102, s54_103, s54_104, s54_105, s54_106, s54_109, s54_110, s54_111, s54_112, s54_115, s54_118, s54_119, s54_121, s54_122, s54_125, s54_128, s54_129, s54_131, s54_132, s54_135, s54_138, s54_139, s54_140, s54_141, s54_144, s54_147, s54_150, s54_153, s54_156, w0]
  | succ m ih =>
    intro k A q x2 hk hx h8 hf hq
    have w0 : am_g A u = ob 8 14 (gW u (n : Int) K P F kd fe) := by rw [hf _ (by omega)]; exact h0
    obtain ⟨A1, q1, r1, r2, r3, r4⟩ := p_meas1_in d u n k B K P F kd fe hu h0 h6 (by omega) n 0 A q (by omega) h8 hf (fun a b h2 h3 => hq a b (by omega) h3)
    obtain ⟨A', q', y2, i1, i2⟩ := ih (k + 1) A1 q1 (.int (Int32.ofInt (n : Int))) (by omega) (by show ¬ (1 = 2); omega) r2 r3 (fun a b h2 h3 => r4 a b h2 h3)
    refine ⟨A', q', y2, ?_, i2⟩
    rw [show ((0 : Nat) : Int) = 0 from rfl] at r1
    rw [← i1, s54_2]
    simp (disch := first | omega | assumption) only [am_bv_some, am_bi_int, am_bl_long, am_br_ref, am_bc_some, am_bq_some, am_gf_c, am_rd_c, am_bh_pf, am_bh_wr, am_g_p, ob_get, ob_put, ar_get, ar_put, ob_tag, ar_tag, i_zero, i_add, i_sub, i_mul, i_lt, i_le, i_eq, i_val, if_pos, if_neg, Option.toList_some, Option.toList_none, List.cons_append, List.nil_append, beq_self_eq_true, true_or, or_true, up_at, up_ne, ↓reduceIte, Nat.reduceEqDiff, le_t, le_f, lt_t, lt_f, eq_t, eq_f, nq_t, nq_f, nl_t, nl_f, and_true, true_and, and_false, false_and, not_true_eq_false, not_false_eq_true, or_false, false_or, az_tag, al_tag, az_get, az_put, am_bh_wz, gX, gT, gW, gS, gA, gL, gM, gE, gN, gX_11, gX_1, gX_2, gT_1, gW_0, gW_1, gW_2, gW_3, gW_12, gW_13, gA_1, gL_1, gE_3, gM_0, gM_1, gM_2, gM_3, gN_0, gN_2, gN_3, gN_4, gN_5, gN_10, gN_11, gN_17, gN_18, gN_23, gN_24, gN_29, gN_35, gN_36, gN_42, am_p_p, Int.toNat_natCast, aq_tag, am_rq_c, am_bh_wq, aq_get3, aq_get4, aq_put3, Int.reduceAdd, Int.reduceSub, Int.reduceMul, Int.reduceToNat, s54_0, s54_1, s54_3, s54_4, s54_7, s54_10, s54_11, s54_13, s54_14, s54_17, s54_20, s54_21, s54_24, s54_25, s54_27, s54_28, s54_29, s54_30, s54_31, s54_32, s54_35, s54_36, s54_39, s54_41, s54_42, s54_45, s54_48, s54_51, s54_54, s54_55, s54_57, s54_58, s54_61, s54_64, s54_65, s54_68, s54_69, s54_70, s54_71, s54_72, s54_75, s54_76, s54_77, s54_78, s54_79, s54_82, s54_83, s54_85, s54_86, s54_87, s54_88, s54_89, s54_92, s54_93, s54_94, s54_95, s54_96, s54_99, s54_100, s54_102, s54_103, s54_104, s54_105, s54_106, s54_109, s54_110, s54_111, s54_112, s54_115, s54_118, s54_119, s54_121, s54_122, s54_125, s54_128, s54_129, s54_131, s54_132, s54_135, s54_138, s54_139, s54_140, s54_141, s54_144, s54_147, s54_150, s54_153, s54_156, w0]
    rw [r1]
    simp (disch := omega) only [am_bv_some, am_bi_int, am_bl_long, am_br_ref, am_bc_some, am_bq_some, am_gf_c, am_rd_c, am_bh_pf, am_bh_wr, am_g_p, ob_get, ob_put, ar_get, ar_put, ob_tag, ar_tag, i_zero, i_add, i_sub, i_mul, i_lt, i_le, i_eq, i_val, if_pos, if_neg, Option.toList_some, Option.toList_none, List.cons_append, List.nil_append, beq_self_eq_true, true_or, or_true, up_at, up_ne, ↓reduceIte, Nat.reduceEqDiff, le_t, le_f, lt_t, lt_f, eq_t, eq_f, nq_t, nq_f, nl_t, nl_f, and_true, true_and, and_false, false_and, not_true_eq_false, not_false_eq_true, or_false, false_or, az_tag, al_tag, az_get, az_put, am_bh_wz, gX, gT, gW, gS, gA, gL, gM, gE, gN, gX_11, gX_1, gX_2, gT_1, gW_0, gW_1, gW_2, gW_3, gW_12, gW_13, gA_1, gL_1, gE_3, gM_0, gM_1, gM_2, gM_3, gN_0, gN_2, gN_3, gN_4, gN_5, gN_10, gN_11, gN_17, gN_18, gN_23, gN_24, gN_29, gN_35, gN_36, gN_42, am_p_p, Int.toNat_natCast, aq_tag, am_rq_c, am_bh_wq, aq_get3, aq_get4, aq_put3, Int.reduceAdd, Int.reduceSub, Int.reduceMul, Int.reduceToNat, s54_48, s54_51, Int.natCast_add, Int.cast_ofNat_Int]
