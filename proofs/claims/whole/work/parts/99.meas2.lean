theorem p_meas2 (d u n : Nat) (B : am_H) (T : Nat → Nat → Int) (kd fe : Int) (hC : CR B u T kd fe) (hD : DT T) (hn : T 1 1 = (n : Int)) : ∀ (m k : Nat) (A : am_H) (q : Nat → Int) (x2 x3 : Value), (k : Int) + m = T 1 2 → ¬ x2.category = 2 → am_g A (u + 8) = ar 36 q → (∀ i, i ≠ u + 8 → am_g A i = am_g B i) → (∀ a b, a < n → b < n → q (6 * a + b) = fwC T k a b) → ∃ A' q' y2 y3, am_run d 54 56 [.ref u, .int (Int32.ofInt (k : Int)), x2, x3] [] A = am_run d 54 118 [.ref u, .int (Int32.ofInt (T 1 2)), y2, y3] [] A' ∧ ¬ y2.category = 2 ∧ am_g A' (u + 8) = ar 36 q' ∧ (∀ i, i ≠ u + 8 → am_g A' i = am_g B i) ∧ ∀ a b, a < n → b < n → q' (6 * a + b) = fwD T 0 a b := by
  obtain ⟨hu, b0, b1, b2, b3, -⟩ := hC
  have hn6 := hD.1
  have hK := hD.2.1
  intro m
  induction m with
  | zero =>
    intro k A q x2 x3 hk hx h8 hf hq
    have w0 : am_g A u = ob 8 14 (gW u (T 1 1) (T 1 2) (T 1 3) (T 1 4) kd fe) := by rw [hf _ (by omega)]; exact b0
    have e : T 1 2 = (k : Int) := by omega
    refine ⟨A, q, x2, x3, ?_, hx, h8, hf, fun a b h1 h2 => ?_⟩
    · rw [s54_56, e]
      simp (disch := omega) only [am_bv_some, am_bi_int, am_bl_long, am_br_ref, am_bc_some, am_bq_some, am_gf_c, am_rd_c, am_bh_pf, am_bh_wr, am_g_p, ob_get, ob_put, ar_get, ar_put, ob_tag, ar_tag, i_zero, i_add, i_sub, i_mul, i_lt, i_le, i_eq, i_val, if_pos, if_neg, Option.toList_some, Option.toList_none, List.cons_append, List.nil_append, beq_self_eq_true, true_or, or_true, up_at, up_ne, ↓reduceIte, Nat.reduceEqDiff, le_t, le_f, lt_t, lt_f, eq_t, eq_f, nq_t, nq_f, nl_t, nl_f, and_true, true_and, and_false, false_and, not_true_eq_false, not_false_eq_true, or_false, false_or, az_tag, al_tag, az_get, az_put, am_bh_wz, gX, gT, gW, gS, gA, gL, gM, gE, gN, gX_11, gX_1, gX_2, gT_1, gW_0, gW_1, gW_2, gW_3, gW_12, gW_13, gA_1, gL_1, gE_3, gM_0, gM_1, gM_2, gM_3, gN_0, gN_2, gN_3, gN_4, gN_5, gN_10, gN_11, gN_17, gN_18, gN_23, gN_24, gN_29, gN_35, gN_36, gN_42, am_p_p, Int.toNat_natCast, aq_tag, am_rq_c, am_bh_wq, aq_get3, aq_get4, aq_put3, Int.reduceAdd, Int.reduceSub, Int.reduceMul, Int.reduceToNat, s54_0, s54_1, s54_3, s54_4, s54_7, s54_10, s54_11, s54_13, s54_14, s54_17, s54_20, s54_21, s54_24, s54_25, s54_27, s54_28, s54_29, s54_30, s54_31, s54_32, s54_35, s54_36, s54_39, s54_41, s54_42, s54_45, s54_48, s54_51, s54_54, s54_55, s54_57, s54_58, s54_61, s54_64, s54_65, s54_68, s54_69, s54_70, s54_71, s54_72, s54_75, s54_76, s54_77, s54_78, s54_79, s54_82, s54_83, s54_85, s54_86, s54_87, s54_88, s54_89, s54_92, s54_93, s54_94, s54_95, s54_96, s54_99, s54_100, s54_102, s54_103, s54_104, s54_105, s54_106, s54_109, s54_110, s54_111, s54_112, s54_115, s54_119, s54_121, s54_122, s54_125, s54_128, s54_129, s54_131, s54_132, s54_135, s54_138, s54_139, s54_140, s54_141, s54_144, s54_147, s54_150, s54_153, s54_156, w0, e]
    · rw [hq a b h1 h2]
      show _ = fwC T (T 1 2).toNat a b
      rw [e, Int.toNat_natCast]
  | succ m ih =>
    intro k A q x2 x3 hk hx h8 hf hq
    have w0 : am_g A u = ob 8 14 (gW u (T 1 1) (T 1 2) (T 1 3) (T 1 4) kd fe) := by rw [hf _ (by omega)]; exact b0
    have w1 : am_g A (u + 1) = ar 8 (T 2) := by rw [hf _ (by omega)]; exact b1
    have w2 : am_g A (u + 2) = ar 8 (T 3) := by rw [hf _ (by omega)]; exact b2
    have w3 : am_g A (u + 3) = ar 8 (T 4) := by rw [hf _ (by omega)]; exact b3
    have rk := hD.2.2.2.2.1 k (by omega)
    obtain ⟨x, hx'⟩ : ∃ x : Nat, T 2 k = (x : Int) := ⟨(T 2 k).toNat, by omega⟩
    obtain ⟨y, hy'⟩ : ∃ y : Nat, T 3 k = (y : Int) := ⟨(T 3 k).toNat, by omega⟩
    have f1 : ((x : Int) * 6 + (y : Int)).toNat = 6 * x + y := by omega
    have f2 : ((y : Int) * 6 + (x : Int)).toNat = 6 * y + x := by omega
    obtain ⟨A', q', y2, y3, i1, i2⟩ := ih (k + 1) (am_p A (u + 8) (ar 36 (up (up q (6 * x + y) (T 4 k)) (6 * y + x) (T 4 k)))) (up (up q (6 * x + y) (T 4 k)) (6 * y + x) (T 4 k)) (.int (Int32.ofInt (x : Int))) (.int (Int32.ofInt (y : Int))) (by omega) (by show ¬ (1 = 2); omega) (by rw [am_g_p, if_pos rfl]) (fun i hi => by rw [am_g_p, if_neg hi]; exact hf i hi) (fun a b h1 h2 => by
      by_cases e : ed T k a b
      · rw [fwC_pos e]
        unfold ed at e
        rcases (show (a = x ∧ b = y) ∨ (a = y ∧ b = x) by omega) with ⟨e1, e2⟩ | ⟨e1, e2⟩
        · subst e1; subst e2
          by_cases e3 : 6 * a + b = 6 * b + a
          · rw [e3, up_at]
          · rw [up_ne _ _ e3, up_at]
        · subst e1; subst e2
          rw [up_at]
      · rw [fwC_neg e]
        unfold ed at e
        have n1 : 6 * a + b ≠ 6 * y + x := fun e' => e (by omega)
        have n2 : 6 * a + b ≠ 6 * x + y := fun e' => e (by omega)
        rw [up_ne _ _ n1, up_ne _ _ n2]
        exact hq a b h1 h2)
    refine ⟨A', q', y2, y3, ?_, i2⟩
    rw [← i1, s54_56]
    simp (disch := first | omega | assumption) only [am_bv_some, am_bi_int, am_bl_long, am_br_ref, am_bc_some, am_bq_some, am_gf_c, am_rd_c, am_bh_pf, am_bh_wr, am_g_p, ob_get, ob_put, ar_get, ar_put, ob_tag, ar_tag, i_zero, i_add, i_sub, i_mul, i_lt, i_le, i_eq, i_val, if_pos, if_neg, Option.toList_some, Option.toList_none, List.cons_append, List.nil_append, beq_self_eq_true, true_or, or_true, up_at, up_ne, ↓reduceIte, Nat.reduceEqDiff, le_t, le_f, lt_t, lt_f, eq_t, eq_f, nq_t, nq_f, nl_t, nl_f, and_true, true_and, and_false, false_and, not_true_eq_false, not_false_eq_true, or_false, false_or, az_tag, al_tag, az_get, az_put, am_bh_wz, gX, gT, gW, gS, gA, gL, gM, gE, gN, gX_11, gX_1, gX_2, gT_1, gW_0, gW_1, gW_2, gW_3, gW_12, gW_13, gA_1, gL_1, gE_3, gM_0, gM_1, gM_2, gM_3, gN_0, gN_2, gN_3, gN_4, gN_5, gN_10, gN_11, gN_17, gN_18, gN_23, gN_24, gN_29, gN_35, gN_36, gN_42, am_p_p, Int.toNat_natCast, aq_tag, am_rq_c, am_bh_wq, aq_get3, aq_get4, aq_put3, Int.reduceAdd, Int.reduceSub, Int.reduceMul, Int.reduceToNat, s54_0, s54_1, s54_3, s54_4, s54_7, s54_10, s54_11, s54_13, s54_14, s54_17, s54_20, s54_21, s54_24, s54_25, s54_27, s54_28, s54_29, s54_30, s54_31, s54_32, s54_35, s54_36, s54_39, s54_41, s54_42, s54_45, s54_48, s54_51, s54_54, s54_55, s54_57, s54_58, s54_61, s54_64, s54_65, s54_68, s54_69, s54_70, s54_71, s54_72, s54_75, s54_76, s54_77, s54_78, s54_79, s54_82, s54_83, s54_85, s54_86, s54_87, s54_88, s54_89, s54_92, s54_93, s54_94, s54_95, s54_96, s54_99, s54_100, s54_102, s54_103, s54_104, s54_105, s54_106, s54_109, s54_110, s54_111, s54_112, s54_115, s54_119, s54_121, s54_122, s54_125, s54_128, s54_129, s54_131, s54_132, s54_135, s54_138, s54_139, s54_140, s54_141, s54_144, s54_147, s54_150, s54_153, s54_156, w0, w1, w2, w3, h8, hx', hy', f1, f2, Int.natCast_add, Int.cast_ofNat_Int]
theorem p_meas3_in (d u n o : Nat) (B : am_H) (T : Nat → Nat → Int) (kd fe : Int) (x3 : Value) (hu : u = 4 ∨ u = 13) (b0 : am_g B u = ob 8 14 (gW u (T 1 1) (T 1 2) (T 1 3) (T 1 4) kd fe)) (hD : DT T) (hn : T 1 1 = (n : Int)) (ho : o < n) : ∀ (m k : Nat) (A : am_H) (q : Nat → Int), k + m = n → am_g A (u + 8) = ar 36 q → (∀ i, i ≠ u + 8 → am_g A i = am_g B i) → (∀ a b, a < n → b < n → q (6 * a + b) = if a < k then fwD T (o + 1) a b else fwD T o a b) → ∃ A' q', am_run (d + 2) 54 130 [.ref u, .int (Int32.ofInt (o : Int)), .int (Int32.ofInt (k : Int)), x3] [] A = am_run (d + 2) 54 150 [.ref u, .int (Int32.ofInt (o : Int)), .int (Int32.ofInt (n : Int)), x3] [] A' ∧ am_g A' (u + 8) = ar 36 q' ∧ (∀ i, i ≠ u + 8 → am_g A' i = am_g B i) ∧ ∀ a b, a < n → b < n → q' (6 * a + b) = fwD T (o + 1) a b := by
  have hn6 := hD.1
  have hI := fw_inv hD.TW o (by omega)
  have hI0 := hI.1 o
  have hp2 : ((2 ^ o : Nat) : Int) ≤ 64 := by
    have : 2 ^ o ≤ 2 ^ 6 := Nat.pow_le_pow_right (by omega) (by omega)
    omega
  have hr : ∀ a b, fwD T o a b = 2147483647 ∨ 0 ≤ fwD T o a b ∧ fwD T o a b ≤ 64000 := fun a b => by
    have := hI.2.1 a b
    omega
  have hs : fwD T (o + 1) = fwS (fwD T o) o := rfl
  intro m
  induction m with
  | zero =>
    intro k A q hk h8 hf hq
    have : k = n := by omega
    subst this
    have w0 : am_g A u = ob 8 14 (gW u (T 1 1) (T 1 2) (T 1 3) (T 1 4) kd fe) := by rw [hf _ (by omega)]; exact b0
    refine ⟨A, q, ?_, h8, hf, fun a b h1 h2 => by rw [hq a b h1 h2, if_pos h1]⟩
    rw [s54_130]
    simp (disch := omega) only [am_bv_some, am_bi_int, am_bl_long, am_br_ref, am_bc_some, am_bq_some, am_gf_c, am_rd_c, am_bh_pf, am_bh_wr, am_g_p, ob_get, ob_put, ar_get, ar_put, ob_tag, ar_tag, i_zero, i_add, i_sub, i_mul, i_lt, i_le, i_eq, i_val, if_pos, if_neg, Option.toList_some, Option.toList_none, List.cons_append, List.nil_append, beq_self_eq_true, true_or, or_true, up_at, up_ne, ↓reduceIte, Nat.reduceEqDiff, le_t, le_f, lt_t, lt_f, eq_t, eq_f, nq_t, nq_f, nl_t, nl_f, and_true, true_and, and_false, false_and, not_true_eq_false, not_false_eq_true, or_false, false_or, az_tag, al_tag, az_get, az_put, am_bh_wz, gX, gT, gW, gS, gA, gL, gM, gE, gN, gX_11, gX_1, gX_2, gT_1, gW_0, gW_1, gW_2, gW_3, gW_12, gW_13, gA_1, gL_1, gE_3, gM_0, gM_1, gM_2, gM_3, gN_0, gN_2, gN_3, gN_4, gN_5, gN_10, gN_11, gN_17, gN_18, gN_23, gN_24, gN_29, gN_35, gN_36, gN_42, am_p_p, Int.toNat_natCast, aq_tag, am_rq_c, am_bh_wq, aq_get3, aq_get4, aq_put3, Int.reduceAdd, Int.reduceSub, Int.reduceMul, Int.reduceToNat, s54_0, s54_1, s54_3, s54_4, s54_7, s54_10, s54_11, s54_13, s54_14, s54_17, s54_20, s54_21, s54_24, s54_25, s54_27, s54_28, s54_29, s54_30, s54_31, s54_32, s54_35, s54_36, s54_39, s54_41, s54_42, s54_45, s54_48, s54_51, s54_54, s54_55, s54_57, s54_58, s54_61, s54_64, s54_65, s54_68, s54_69, s54_70, s54_71, s54_72, s54_75, s54_76, s54_77, s54_78, s54_79, s54_82, s54_83, s54_85, s54_86, s54_87, s54_88, s54_89, s54_92, s54_93, s54_94, s54_95, s54_96, s54_99, s54_100, s54_102, s54_103, s54_104, s54_105, s54_106, s54_109, s54_110, s54_111, s54_112, s54_115, s54_118, s54_119, s54_121, s54_122, s54_125, s54_128, s54_129, s54_131, s54_132, s54_135, s54_138, s54_139, s54_140, s54_141, s54_144, s54_147, s54_153, s54_156, w0, hn]
  | succ m ih =>
    intro k A q hk h8 hf hq
    have w0 : am_g A u = ob 8 14 (gW u (T 1 1) (T 1 2) (T 1 3) (T 1 4) kd fe) := by rw [hf _ (by omega)]; exact b0
    obtain ⟨A1, q1, r1, r2, r3, r4, r5⟩ := p_measureOver d u n k o A (T 1 1) (T 1 2) (T 1 3) (T 1 4) kd fe q (fwD T o) hu w0 hn (by omega) h8 ho (by omega) hI0 hr (fun b hb => by rw [hq k b (by omega) hb, if_neg (by omega)]) (fun b hb => by
      rw [hq o b ho hb]
      split
      · rw [hs]; exact fwS_ob hI0 b
      · rfl)
    obtain ⟨A', q', i1, i2⟩ := ih (k + 1) A1 q1 (by omega) r2 (fun i hi => by rw [r3 i hi]; exact hf i hi) (fun a b h1 h2 => by
      by_cases e : a = k
      · subst e
        rw [r4 b h2, if_pos (by omega)]
        rfl
      · rw [r5 a b e (by omega), hq a b h1 h2]
        by_cases e2 : a < k
        · rw [if_pos e2, if_pos (by omega)]
        · rw [if_neg e2, if_neg (by omega)])
    refine ⟨A', q', ?_, i2⟩
    rw [← i1, s54_130]
    simp (disch := omega) only [am_bv_some, am_bi_int, am_bl_long, am_br_ref, am_bc_some, am_bq_some, am_gf_c, am_rd_c, am_bh_pf, am_bh_wr, am_g_p, ob_get, ob_put, ar_get, ar_put, ob_tag, ar_tag, i_zero, i_add, i_sub, i_mul, i_lt, i_le, i_eq, i_val, if_pos, if_neg, Option.toList_some, Option.toList_none, List.cons_append, List.nil_append, beq_self_eq_true, true_or, or_true, up_at, up_ne, ↓reduceIte, Nat.reduceEqDiff, le_t, le_f, lt_t, lt_f, eq_t, eq_f, nq_t, nq_f, nl_t, nl_f, and_true, true_and, and_false, false_and, not_true_eq_false, not_false_eq_true, or_false, false_or, az_tag, al_tag, az_get, az_put, am_bh_wz, gX, gT, gW, gS, gA, gL, gM, gE, gN, gX_11, gX_1, gX_2, gT_1, gW_0, gW_1, gW_2, gW_3, gW_12, gW_13, gA_1, gL_1, gE_3, gM_0, gM_1, gM_2, gM_3, gN_0, gN_2, gN_3, gN_4, gN_5, gN_10, gN_11, gN_17, gN_18, gN_23, gN_24, gN_29, gN_35, gN_36, gN_42, am_p_p, Int.toNat_natCast, aq_tag, am_rq_c, am_bh_wq, aq_get3, aq_get4, aq_put3, Int.reduceAdd, Int.reduceSub, Int.reduceMul, Int.reduceToNat, s54_0, s54_1, s54_3, s54_4, s54_7, s54_10, s54_11, s54_13, s54_14, s54_17, s54_20, s54_21, s54_24, s54_25, s54_27, s54_28, s54_29, s54_30, s54_31, s54_32, s54_35, s54_36, s54_39, s54_41, s54_42, s54_45, s54_48, s54_51, s54_54, s54_55, s54_57, s54_58, s54_61, s54_64, s54_65, s54_68, s54_69, s54_70, s54_71, s54_72, s54_75, s54_76, s54_77, s54_78, s54_79, s54_82, s54_83, s54_85, s54_86, s54_87, s54_88, s54_89, s54_92, s54_93, s54_94, s54_95, s54_96, s54_99, s54_100, s54_102, s54_103, s54_104, s54_105, s54_106, s54_109, s54_110, s54_111, s54_112, s54_115, s54_118, s54_119, s54_121, s54_122, s54_125, s54_128, s54_129, s54_131, s54_132, s54_135, s54_138, s54_139, s54_140, s54_141, s54_144, s54_147, s54_153, s54_156, w0, hn, r1, Int.natCast_add, Int.cast_ofNat_Int]
theorem p_meas3 (d u n : Nat) (B : am_H) (T : Nat → Nat → Int) (kd fe : Int) (hu : u = 4 ∨ u = 13) (b0 : am_g B u = ob 8 14 (gW u (T 1 1) (T 1 2) (T 1 3) (T 1 4) kd fe)) (hD : DT T) (hn : T 1 1 = (n : Int)) : ∀ (m k : Nat) (A : am_H) (q : Nat → Int) (x2 x3 : Value), k + m = n → ¬ x2.category = 2 → am_g A (u + 8) = ar 36 q → (∀ i, i ≠ u + 8 → am_g A i = am_g B i) → (∀ a b, a < n → b < n → q (6 * a + b) = fwD T k a b) → ∃ A' q', am_run (d + 2) 54 120 [.ref u, .int (Int32.ofInt (k : Int)), x2, x3] [] A = some (none, A') ∧ am_g A' (u + 8) = ar 36 q' ∧ (∀ i, i ≠ u + 8 → am_g A' i = am_g B i) ∧ ∀ a b, a < n → b < n → q' (6 * a + b) = fwD T n a b := by
  have hn6 := hD.1
  intro m
  induction m with
  | zero =>
    intro k A q x2 x3 hk hx h8 hf hq
    have : k = n := by omega
    subst this
    have w0 : am_g A u = ob 8 14 (gW u (T 1 1) (T 1 2) (T 1 3) (T 1 4) kd fe) := by rw [hf _ (by omega)]; exact b0
    refine ⟨A, q, ?_, h8, hf, hq⟩
    simp (disch := omega) only [am_bv_some, am_bi_int, am_bl_long, am_br_ref, am_bc_some, am_bq_some, am_gf_c, am_rd_c, am_bh_pf, am_bh_wr, am_g_p, ob_get, ob_put, ar_get, ar_put, ob_tag, ar_tag, i_zero, i_add, i_sub, i_mul, i_lt, i_le, i_eq, i_val, if_pos, if_neg, Option.toList_some, Option.toList_none, List.cons_append, List.nil_append, beq_self_eq_true, true_or, or_true, up_at, up_ne, ↓reduceIte, Nat.reduceEqDiff, le_t, le_f, lt_t, lt_f, eq_t, eq_f, nq_t, nq_f, nl_t, nl_f, and_true, true_and, and_false, false_and, not_true_eq_false, not_false_eq_true, or_false, false_or, az_tag, al_tag, az_get, az_put, am_bh_wz, gX, gT, gW, gS, gA, gL, gM, gE, gN, gX_11, gX_1, gX_2, gT_1, gW_0, gW_1, gW_2, gW_3, gW_12, gW_13, gA_1, gL_1, gE_3, gM_0, gM_1, gM_2, gM_3, gN_0, gN_2, gN_3, gN_4, gN_5, gN_10, gN_11, gN_17, gN_18, gN_23, gN_24, gN_29, gN_35, gN_36, gN_42, am_p_p, Int.toNat_natCast, aq_tag, am_rq_c, am_bh_wq, aq_get3, aq_get4, aq_put3, Int.reduceAdd, Int.reduceSub, Int.reduceMul, Int.reduceToNat, s54_0, s54_1, s54_2, s54_3, s54_4, s54_7, s54_10, s54_11, s54_12, s54_13, s54_14, s54_17, s54_20, s54_21, s54_24, s54_25, s54_27, s54_28, s54_29, s54_30, s54_31, s54_32, s54_35, s54_36, s54_39, s54_41, s54_42, s54_45, s54_48, s54_51, s54_54, s54_55, s54_56, s54_57, s54_58, s54_61, s54_64, s54_65, s54_68, s54_69, s54_70, s54_71, s54_72, s54_75, s54_76, s54_77, s54_78, s54_79, s54_82, s54_83, s54_85, s54_86, s54_87, s54_88, s54_89, s54_92, s54_93, s54_94, s54_95, s54_96, s54_99, s54_100, s54_102, s54_103, s54_104, s54_105, s54_106, s54_109, s54_110, s54_111, s54_112, s54_115, s54_118, s54_119, s54_120, s54_121, s54_122, s54_125, s54_128, s54_129, s54_130, s54_131, s54_132, s54_135, s54_138, s54_139, s54_140, s54_141, s54_144, s54_147, s54_150, s54_153, s54_156, w0, hn]
  | succ m ih =>
    intro k A q x2 x3 hk hx h8 hf hq
    have w0 : am_g A u = ob 8 14 (gW u (T 1 1) (T 1 2) (T 1 3) (T 1 4) kd fe) := by rw [hf _ (by omega)]; exact b0
    obtain ⟨A1, q1, r1, r2, r3, r4⟩ := p_meas3_in d u n k B T kd fe x3 hu b0 hD hn (by omega) n 0 A q (by omega) h8 hf (fun a b h1 h2 => by rw [if_neg (by omega)]; exact hq a b h1 h2)
    obtain ⟨A', q', i1, i2⟩ := ih (k + 1) A1 q1 (.int (Int32.ofInt (n : Int))) x3 (by omega) (by show ¬ (1 = 2); omega) r2 r3 r4
    refine ⟨A', q', ?_, i2⟩
    rw [show ((0 : Nat) : Int) = 0 from rfl] at r1
    rw [← i1, s54_120]
    simp (disch := first | omega | assumption) only [am_bv_some, am_bi_int, am_bl_long, am_br_ref, am_bc_some, am_bq_some, am_gf_c, am_rd_c, am_bh_pf, am_bh_wr, am_g_p, ob_get, ob_put, ar_get, ar_put, ob_tag, ar_tag, i_zero, i_add, i_sub, i_mul, i_lt, i_le, i_eq, i_val, if_pos, if_neg, Option.toList_some, Option.toList_none, List.cons_append, List.nil_append, beq_self_eq_true, true_or, or_true, up_at, up_ne, ↓reduceIte, Nat.reduceEqDiff, le_t, le_f, lt_t, lt_f, eq_t, eq_f, nq_t, nq_f, nl_t, nl_f, and_true, true_and, and_false, false_and, not_true_eq_false, not_false_eq_true, or_false, false_or, az_tag, al_tag, az_get, az_put, am_bh_wz, gX, gT, gW, gS, gA, gL, gM, gE, gN, gX_11, gX_1, gX_2, gT_1, gW_0, gW_1, gW_2, gW_3, gW_12, gW_13, gA_1, gL_1, gE_3, gM_0, gM_1, gM_2, gM_3, gN_0, gN_2, gN_3, gN_4, gN_5, gN_10, gN_11, gN_17, gN_18, gN_23, gN_24, gN_29, gN_35, gN_36, gN_42, am_p_p, Int.toNat_natCast, aq_tag, am_rq_c, am_bh_wq, aq_get3, aq_get4, aq_put3, Int.reduceAdd, Int.reduceSub, Int.reduceMul, Int.reduceToNat, s54_0, s54_1, s54_3, s54_4, s54_7, s54_10, s54_11, s54_13, s54_14, s54_17, s54_20, s54_21, s54_24, s54_25, s54_27, s54_28, s54_29, s54_30, s54_31, s54_32, s54_35, s54_36, s54_39, s54_41, s54_42, s54_45, s54_48, s54_51, s54_54, s54_55, s54_57, s54_58, s54_61, s54_64, s54_65, s54_68, s54_69, s54_70, s54_71, s54_72, s54_75, s54_76, s54_77, s54_78, s54_79, s54_82, s54_83, s54_85, s54_86, s54_87, s54_88, s54_89, s54_92, s54_93, s54_94, s54_95, s54_96, s54_99, s54_100, s54_102, s54_103, s54_104, s54_105, s54_106, s54_109, s54_110, s54_111, s54_112, s54_115, s54_118, s54_119, s54_121, s54_122, s54_125, s54_128, s54_129, s54_131, s54_132, s54_135, s54_138, s54_139, s54_140, s54_141, s54_144, s54_147, s54_150, s54_153, s54_156, w0, hn]
    rw [r1]
    simp (disch := omega) only [am_bv_some, am_bi_int, am_bl_long, am_br_ref, am_bc_some, am_bq_some, am_gf_c, am_rd_c, am_bh_pf, am_bh_wr, am_g_p, ob_get, ob_put, ar_get, ar_put, ob_tag, ar_tag, i_zero, i_add, i_sub, i_mul, i_lt, i_le, i_eq, i_val, if_pos, if_neg, Option.toList_some, Option.toList_none, List.cons_append, List.nil_append, beq_self_eq_true, true_or, or_true, up_at, up_ne, ↓reduceIte, Nat.reduceEqDiff, le_t, le_f, lt_t, lt_f, eq_t, eq_f, nq_t, nq_f, nl_t, nl_f, and_true, true_and, and_false, false_and, not_true_eq_false, not_false_eq_true, or_false, false_or, az_tag, al_tag, az_get, az_put, am_bh_wz, gX, gT, gW, gS, gA, gL, gM, gE, gN, gX_11, gX_1, gX_2, gT_1, gW_0, gW_1, gW_2, gW_3, gW_12, gW_13, gA_1, gL_1, gE_3, gM_0, gM_1, gM_2, gM_3, gN_0, gN_2, gN_3, gN_4, gN_5, gN_10, gN_11, gN_17, gN_18, gN_23, gN_24, gN_29, gN_35, gN_36, gN_42, am_p_p, Int.toNat_natCast, aq_tag, am_rq_c, am_bh_wq, aq_get3, aq_get4, aq_put3, Int.reduceAdd, Int.reduceSub, Int.reduceMul, Int.reduceToNat, s54_150, s54_153, Int.natCast_add, Int.cast_ofNat_Int]
theorem p_measure (d u : Nat) (A : am_H) (T : Nat → Nat → Int) (kd fe : Int) (ap : Nat → Int) (hC : CR A u T kd fe) (hD : DT T) (h8 : am_g A (u + 8) = ar 36 ap) : ∃ A' ap', am_call (d + 2) 54 [.ref u] A = some (none, A') ∧ am_g A' (u + 8) = ar 36 ap' ∧ (∀ i, i ≠ u + 8 → am_g A' i = am_g A i) ∧ APk T ap' := by
  have hn6 := hD.1
  have hK := hD.2.1
  obtain ⟨n, hn⟩ : ∃ n : Nat, T 1 1 = (n : Int) := ⟨(T 1 1).toNat, by omega⟩
  obtain ⟨K, hK'⟩ : ∃ K : Nat, T 1 2 = (K : Int) := ⟨(T 1 2).toNat, by omega⟩
  have hu := hC.1
  have b0 := hC.2.1
  have b0' := b0
  rw [hn] at b0'
  obtain ⟨A1, q1, x2, r1, r2, r3, r4, r5⟩ := p_meas1 (d + 2) u n A (T 1 2) (T 1 3) (T 1 4) kd fe hu b0' (by omega) n 0 A ap .null (by omega) (by show ¬ (1 = 2); omega) h8 (fun _ _ => rfl) (fun a b h => by omega)
  obtain ⟨A2, q2, y2, y3, s1, s2, s3, s4, s5⟩ := p_meas2 (d + 2) u n A T kd fe hC hD hn K 0 A1 q1 x2 .null (by omega) r2 r3 r4 (fun a b h1 h2 => by rw [r5 a b h1 h2]; rfl)
  obtain ⟨A3, q3, t1, t2, t3, t4⟩ := p_meas3 d u n A T kd fe hu b0 hD hn n 0 A2 q2 y2 y3 (by omega) s2 s3 s4 s5
  rw [show ((0 : Nat) : Int) = 0 from rfl] at r1 s1 t1
  refine ⟨A3, q3, ?_, t2, t3, fun a b h1 h2 _ => by rw [t4 a b (by omega) (by omega), hn, Int.toNat_natCast]⟩
  have e0 : am_call (d + 2) 54 [.ref u] A = am_run (d + 2) 54 2 [.ref u, .int (Int32.ofInt 0), .null, .null] [] A := by
    simp (disch := omega) only [am_bv_some, am_bi_int, am_bl_long, am_br_ref, am_bc_some, am_bq_some, am_gf_c, am_rd_c, am_bh_pf, am_bh_wr, am_g_p, ob_get, ob_put, ar_get, ar_put, ob_tag, ar_tag, i_zero, i_add, i_sub, i_mul, i_lt, i_le, i_eq, i_val, if_pos, if_neg, Option.toList_some, Option.toList_none, List.cons_append, List.nil_append, beq_self_eq_true, true_or, or_true, up_at, up_ne, ↓reduceIte, Nat.reduceEqDiff, le_t, le_f, lt_t, lt_f, eq_t, eq_f, nq_t, nq_f, nl_t, nl_f, and_true, true_and, and_false, false_and, not_true_eq_false, not_false_eq_true, or_false, false_or, az_tag, al_tag, az_get, az_put, am_bh_wz, gX, gT, gW, gS, gA, gL, gM, gE, gN, gX_11, gX_1, gX_2, gT_1, gW_0, gW_1, gW_2, gW_3, gW_12, gW_13, gA_1, gL_1, gE_3, gM_0, gM_1, gM_2, gM_3, gN_0, gN_2, gN_3, gN_4, gN_5, gN_10, gN_11, gN_17, gN_18, gN_23, gN_24, gN_29, gN_35, gN_36, gN_42, am_p_p, Int.toNat_natCast, aq_tag, am_rq_c, am_bh_wq, aq_get3, aq_get4, aq_put3, Int.reduceAdd, Int.reduceSub, Int.reduceMul, Int.reduceToNat, c54, s54_0, s54_1, s54_3, s54_4, s54_7, s54_10, s54_11, s54_13, s54_14, s54_17, s54_20, s54_21, s54_24, s54_25, s54_27, s54_28, s54_29, s54_30, s54_31, s54_32, s54_35, s54_36, s54_39, s54_41, s54_42, s54_45, s54_48, s54_51, s54_54, s54_55, s54_57, s54_58, s54_61, s54_64, s54_65, s54_68, s54_69, s54_70, s54_71, s54_72, s54_75, s54_76, s54_77, s54_78, s54_79, s54_82, s54_83, s54_85, s54_86, s54_87, s54_88, s54_89, s54_92, s54_93, s54_94, s54_95, s54_96, s54_99, s54_100, s54_102, s54_103, s54_104, s54_105, s54_106, s54_109, s54_110, s54_111, s54_112, s54_115, s54_118, s54_119, s54_121, s54_122, s54_125, s54_128, s54_129, s54_131, s54_132, s54_135, s54_138, s54_139, s54_140, s54_141, s54_144, s54_147, s54_150, s54_153, s54_156, b0]
  have e1 : am_run (d + 2) 54 54 [.ref u, .int (Int32.ofInt (n : Int)), x2, .null] [] A1 = am_run (d + 2) 54 56 [.ref u, .int (Int32.ofInt 0), x2, .null] [] A1 := by
    simp (disch := omega) only [am_bv_some, am_bi_int, am_bl_long, am_br_ref, am_bc_some, am_bq_some, am_gf_c, am_rd_c, am_bh_pf, am_bh_wr, am_g_p, ob_get, ob_put, ar_get, ar_put, ob_tag, ar_tag, i_zero, i_add, i_sub, i_mul, i_lt, i_le, i_eq, i_val, if_pos, if_neg, Option.toList_some, Option.toList_none, List.cons_append, List.nil_append, beq_self_eq_true, true_or, or_true, up_at, up_ne, ↓reduceIte, Nat.reduceEqDiff, le_t, le_f, lt_t, lt_f, eq_t, eq_f, nq_t, nq_f, nl_t, nl_f, and_true, true_and, and_false, false_and, not_true_eq_false, not_false_eq_true, or_false, false_or, az_tag, al_tag, az_get, az_put, am_bh_wz, gX, gT, gW, gS, gA, gL, gM, gE, gN, gX_11, gX_1, gX_2, gT_1, gW_0, gW_1, gW_2, gW_3, gW_12, gW_13, gA_1, gL_1, gE_3, gM_0, gM_1, gM_2, gM_3, gN_0, gN_2, gN_3, gN_4, gN_5, gN_10, gN_11, gN_17, gN_18, gN_23, gN_24, gN_29, gN_35, gN_36, gN_42, am_p_p, Int.toNat_natCast, aq_tag, am_rq_c, am_bh_wq, aq_get3, aq_get4, aq_put3, Int.reduceAdd, Int.reduceSub, Int.reduceMul, Int.reduceToNat, s54_54, s54_55]
  have e2 : am_run (d + 2) 54 118 [.ref u, .int (Int32.ofInt (T 1 2)), y2, y3] [] A2 = am_run (d + 2) 54 120 [.ref u, .int (Int32.ofInt 0), y2, y3] [] A2 := by
    simp (disch := omega) only [am_bv_some, am_bi_int, am_bl_long, am_br_ref, am_bc_some, am_bq_some, am_gf_c, am_rd_c, am_bh_pf, am_bh_wr, am_g_p, ob_get, ob_put, ar_get, ar_put, ob_tag, ar_tag, i_zero, i_add, i_sub, i_mul, i_lt, i_le, i_eq, i_val, if_pos, if_neg, Option.toList_some, Option.toList_none, List.cons_append, List.nil_append, beq_self_eq_true, true_or, or_true, up_at, up_ne, ↓reduceIte, Nat.reduceEqDiff, le_t, le_f, lt_t, lt_f, eq_t, eq_f, nq_t, nq_f, nl_t, nl_f, and_true, true_and, and_false, false_and, not_true_eq_false, not_false_eq_true, or_false, false_or, az_tag, al_tag, az_get, az_put, am_bh_wz, gX, gT, gW, gS, gA, gL, gM, gE, gN, gX_11, gX_1, gX_2, gT_1, gW_0, gW_1, gW_2, gW_3, gW_12, gW_13, gA_1, gL_1, gE_3, gM_0, gM_1, gM_2, gM_3, gN_0, gN_2, gN_3, gN_4, gN_5, gN_10, gN_11, gN_17, gN_18, gN_23, gN_24, gN_29, gN_35, gN_36, gN_42, am_p_p, Int.toNat_natCast, aq_tag, am_rq_c, am_bh_wq, aq_get3, aq_get4, aq_put3, Int.reduceAdd, Int.reduceSub, Int.reduceMul, Int.reduceToNat, s54_118, s54_119]
  rw [e0, r1, e1, s1, e2, t1]
