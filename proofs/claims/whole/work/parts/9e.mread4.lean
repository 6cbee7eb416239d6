theorem pA_ne (A : am_H) (N : Nat → Int) (sd : Int64) (x : Nat) {i : Nat} (h : i ≠ 105) : am_g (pA A N sd x) i = am_g A i := by unfold pA; rw [am_g_p, if_neg h]
theorem RM.pm {A : am_H} {N : Nat → Int} {sd : Int64} {f : Nat → Int} {L : Nat} {T : Nat → Nat → Int} {r : Nat} (h : RM A N sd f L T r) (x : Nat) : RM (pA A N sd x) (up N 3 (x : Int)) sd f L T x := h.mv x
theorem m_canal_f (d L p r i : Nat) (A : am_H) (N : Nat → Int) (sd : Int64) (f : Nat → Int) (T : Nat → Nat → Int) (hM : RM A N sd f L T r) (hD : DT T) (hL : L ≤ 80) (hf : ∀ j, 0 ≤ f j ∧ f j ≤ 255) (hpL : p < L) (h67 : f p = 67) (hi : 1 ≤ i ∧ i < 5) (hg : ∀ j, j < i → p + j < L ∧ gd T f p j) (hb : ¬ (p + i < L ∧ gd T f p i)) : am_call (d + 3) 115 [.ref 105] (pA A N sd (p + 1)) = some (some (.int (Int32.ofInt 0)), pA A N sd (p + i)) := by
  have hn := hD.1
  have c1 := m_rc1 d L (p + 1) _ _ sd f T (hM.pm (p + 1)) hD (by omega) hL (hf _)
  rw [show ((p + 1 : Nat) : Int) + 1 = ((p + 2 : Nat) : Int) by omega, pA_p] at c1
  by_cases e1 : i = 1
  · subst e1
    exact c1.1 (fun e => hb ⟨e.1, Or.inl ⟨h67, e.2⟩⟩)
  · have g1 := hg 1 (by omega)
    have g1' : (0 ≤ f (p + 1) - 48 ∧ f (p + 1) - 48 < T 1 1) ∧ partn T (f (p + 1) - 48) := by
      rcases g1.2 with e | e
      · exact e.2
      · omega
    rw [c1.2 ⟨g1.1, g1'⟩]
    have c2 := m_rc2 d L (p + 2) _ _ sd f T (f (p + 1) - 48) (by omega) (hM.pm (p + 2)) hD (by omega) hL (hf _)
    rw [show ((p + 2 : Nat) : Int) + 1 = ((p + 3 : Nat) : Int) by omega, pA_p] at c2
    by_cases e2 : i = 2
    · subst e2
      exact c2.1 (fun e => hb ⟨e.1, e.2.1, fun _ => e.2.2⟩)
    · have g2 := hg 2 (by omega)
      rw [c2.2 ⟨g2.1, g2.2.1, g2.2.2 h67⟩]
      by_cases e3 : i = 3
      · subst e3
        exact m_rc3 d L (p + 3) _ _ sd f T _ _ (hM.pm (p + 3)) (by omega) hL (hf _) (fun e => hb ⟨e.1, e.2⟩)
      · have e4 : i = 4 := by omega
        subst e4
        have g3 := hg 3 (by omega)
        have c4 := m_rc4 d L (p + 3) _ _ sd f T (f (p + 1) - 48) (f (p + 2) - 48) (hM.pm (p + 3)) (by omega) hL hf ⟨g3.1, g3.2⟩ (fun e => hb ⟨e.1, Or.inl ⟨h67, e.2⟩⟩)
        rw [show ((p + 3 : Nat) : Int) + 1 = ((p + 4 : Nat) : Int) by omega, pA_p] at c4
        exact c4
theorem m_person_f (d L p r i : Nat) (A : am_H) (N : Nat → Int) (sd : Int64) (f : Nat → Int) (T : Nat → Nat → Int) (hM : RM A N sd f L T r) (hD : DT T) (hL : L ≤ 80) (hf : ∀ j, 0 ≤ f j ∧ f j ≤ 255) (hpL : p < L) (h80 : f p = 80) (hi : 1 ≤ i ∧ i < 5) (hg : ∀ j, j < i → p + j < L ∧ gd T f p j) (hb : ¬ (p + i < L ∧ gd T f p i)) : am_call (d + 3) 116 [.ref 105] (pA A N sd (p + 1)) = some (some (.int (Int32.ofInt 0)), pA A N sd (p + i)) := by
  have hn := hD.1
  have c1 := m_rp1 d L (p + 1) _ _ sd f T (hM.pm (p + 1)) (by omega) hL hf
  have epA : pA (pA A N sd (p + 1)) (up N 3 ((p + 1 : Nat) : Int)) sd (p + 1 + 1) = pA A N sd (p + 2) := pA_p A N sd (p + 1) (p + 2)
  rw [epA] at c1
  by_cases e1 : i = 1
  · subst e1
    exact c1.1 (fun e => hb ⟨e.1, Or.inr ⟨h80, e.2⟩⟩)
  · have g1 := hg 1 (by omega)
    have g1' : f (p + 1) = 108 ∨ f (p + 1) = 114 := by
      rcases g1.2 with e | e
      · omega
      · exact e.2
    rw [c1.2 ⟨g1.1, g1'⟩]
    have c2 := m_rp2 d L (p + 2) r A N sd f T (if f (p + 1) = 108 then 1 else 0) hM hD (by omega) hL hf (i - 2) (by omega) (fun j hj => by
      have gj := hg (j + 2) (by omega)
      refine ⟨by omega, fun e => ?_, fun e => ?_⟩
      · subst e; exact gj.2.1
      · subst e; exact gj.2) (fun e => hb ⟨by omega, by
        rcases (show i = 2 ∨ i = 3 ∨ i = 4 by omega) with q | q | q
        · subst q; exact ⟨e.2.1 rfl, fun e => by omega⟩
        · subst q; exact e.2.2.1 rfl
        · subst q; exact Or.inr ⟨h80, e.2.2.2 rfl⟩⟩)
    rw [show p + 2 + (i - 2) = p + i by omega] at c2
    exact c2
theorem m_readPart_f (d L p i : Nat) (A : am_H) (N : Nat → Int) (sd : Int64) (f : Nat → Int) (T : Nat → Nat → Int) (hM : RM A N sd f L T p) (hD : DT T) (hL : L ≤ 80) (hf : ∀ j, 0 ≤ f j ∧ f j ≤ 255) (hpL : p < L) (hi : i < 5) (hg : ∀ j, j < i → p + j < L ∧ gd T f p j) (hb : ¬ (p + i < L ∧ gd T f p i)) : ∃ A' N', am_call (d + 4) 117 [.ref 105] A = some (some (.int (Int32.ofInt 0)), A') ∧ am_g A' 105 = ob 11 43 (gN N' sd) ∧ N' 3 = ((p + i : Nat) : Int) ∧ (∀ j, j ≠ 3 → N' j = N j) ∧ ∀ j, j ≠ 105 → am_g A' j = am_g A j := by
  obtain ⟨h0, ⟨n2, n3, n17, n18, n23, n24⟩, h6, -⟩ := id hM
  have hK := hD.2.1
  have hP := hD.2.2.1
  have f0 := hf p
  obtain ⟨w, p1, p2⟩ := m_hasPair (d + 1) L p A N sd f T hM hD
  have ePA : am_p A 105 (ob 11 43 (gN (up N 3 ((p : Int) + 1)) sd)) = pA A N sd (p + 1) := by unfold pA; rw [show ((p + 1 : Nat) : Int) = (p : Int) + 1 by omega]
  by_cases e0 : i = 0
  · subst e0
    have hb' : ¬ gd T f p 0 := fun e => hb ⟨hpL, e⟩
    refine ⟨A, N, ?_, h0, by rw [n3]; rfl, fun _ _ => rfl, fun _ _ => rfl⟩
    by_cases c1 : f p = 67
    · by_cases c2 : T 1 2 < 8
      · rcases p2 with ⟨rfl, p2⟩ | ⟨rfl, p2⟩
        · exact absurd (Or.inl ⟨c1, c2, p2⟩) hb'
        · simp (disch := omega) only [am_bv_some, am_bi_int, am_bl_long, am_br_ref, am_bc_some, am_bq_some, am_gf_c, am_rd_c, am_bh_pf, am_bh_wr, am_g_p, ob_get, ob_put, ar_get, ar_put, ob_tag, ar_tag, i_zero, i_add, i_sub, i_mul, i_lt, i_le, i_eq, i_val, if_pos, if_neg, Option.toList_some, Option.toList_none, List.cons_append, List.nil_append, beq_self_eq_true, true_or, or_true, up_at, up_ne, ↓reduceIte, Nat.reduceEqDiff, le_t, le_f, lt_t, lt_f, eq_t, eq_f, nq_t, nq_f, nl_t, nl_f, and_true, true_and, and_false, false_and, not_true_eq_false, not_false_eq_true, or_false, false_or, az_tag, al_tag, az_get, az_put, am_bh_wz, gX, gT, gW, gS, gA, gL, gM, gE, gN, gX_11, gX_1, gX_2, gT_1, gW_0, gW_1, gW_2, gW_3, gW_12, gW_13, gA_1, gL_1, gE_3, gM_0, gM_1, gM_2, gM_3, gN_0, gN_2, gN_3, gN_4, gN_5, gN_10, gN_11, gN_17, gN_18, gN_23, gN_24, gN_29, gN_35, gN_36, gN_42, am_p_p, Int.toNat_natCast, aq_tag, am_rq_c, am_bh_wq, aq_get3, aq_get4, aq_put3, Int.reduceAdd, Int.reduceSub, Int.reduceMul, Int.reduceToNat, c117, s117_0, s117_1, s117_4, s117_5, s117_8, s117_9, s117_10, s117_11, s117_13, s117_16, s117_17, s117_20, s117_22, s117_25, s117_26, s117_29, s117_32, s117_33, s117_34, s117_37, s117_38, s117_39, s117_42, s117_43, s117_46, s117_47, s117_48, s117_50, s117_53, s117_54, s117_57, s117_59, s117_62, s117_63, s117_64, s117_67, s117_68, s117_69, s117_72, s117_73, s117_76, s117_77, s117_78, h0, n3, n18, h6, c1, p1]
      · simp (disch := omega) only [am_bv_some, am_bi_int, am_bl_long, am_br_ref, am_bc_some, am_bq_some, am_gf_c, am_rd_c, am_bh_pf, am_bh_wr, am_g_p, ob_get, ob_put, ar_get, ar_put, ob_tag, ar_tag, i_zero, i_add, i_sub, i_mul, i_lt, i_le, i_eq, i_val, if_pos, if_neg, Option.toList_some, Option.toList_none, List.cons_append, List.nil_append, beq_self_eq_true, true_or, or_true, up_at, up_ne, ↓reduceIte, Nat.reduceEqDiff, le_t, le_f, lt_t, lt_f, eq_t, eq_f, nq_t, nq_f, nl_t, nl_f, and_true, true_and, and_false, false_and, not_true_eq_false, not_false_eq_true, or_false, false_or, az_tag, al_tag, az_get, az_put, am_bh_wz, gX, gT, gW, gS, gA, gL, gM, gE, gN, gX_11, gX_1, gX_2, gT_1, gW_0, gW_1, gW_2, gW_3, gW_12, gW_13, gA_1, gL_1, gE_3, gM_0, gM_1, gM_2, gM_3, gN_0, gN_2, gN_3, gN_4, gN_5, gN_10, gN_11, gN_17, gN_18, gN_23, gN_24, gN_29, gN_35, gN_36, gN_42, am_p_p, Int.toNat_natCast, aq_tag, am_rq_c, am_bh_wq, aq_get3, aq_get4, aq_put3, Int.reduceAdd, Int.reduceSub, Int.reduceMul, Int.reduceToNat, c117, s117_0, s117_1, s117_4, s117_5, s117_8, s117_9, s117_10, s117_11, s117_13, s117_16, s117_17, s117_20, s117_22, s117_25, s117_26, s117_29, s117_32, s117_33, s117_34, s117_37, s117_38, s117_39, s117_42, s117_43, s117_46, s117_47, s117_48, s117_50, s117_53, s117_54, s117_57, s117_59, s117_62, s117_63, s117_64, s117_67, s117_68, s117_69, s117_72, s117_73, s117_76, s117_77, s117_78, h0, n3, n18, h6, c1]
    · by_cases c2 : f p = 80
      · have c3 : ¬ T 1 3 < 6 := fun e => hb' (Or.inr ⟨c2, e⟩)
        simp (disch := omega) only [am_bv_some, am_bi_int, am_bl_long, am_br_ref, am_bc_some, am_bq_some, am_gf_c, am_rd_c, am_bh_pf, am_bh_wr, am_g_p, ob_get, ob_put, ar_get, ar_put, ob_tag, ar_tag, i_zero, i_add, i_sub, i_mul, i_lt, i_le, i_eq, i_val, if_pos, if_neg, Option.toList_some, Option.toList_none, List.cons_append, List.nil_append, beq_self_eq_true, true_or, or_true, up_at, up_ne, ↓reduceIte, Nat.reduceEqDiff, le_t, le_f, lt_t, lt_f, eq_t, eq_f, nq_t, nq_f, nl_t, nl_f, and_true, true_and, and_false, false_and, not_true_eq_false, not_false_eq_true, or_false, false_or, az_tag, al_tag, az_get, az_put, am_bh_wz, gX, gT, gW, gS, gA, gL, gM, gE, gN, gX_11, gX_1, gX_2, gT_1, gW_0, gW_1, gW_2, gW_3, gW_12, gW_13, gA_1, gL_1, gE_3, gM_0, gM_1, gM_2, gM_3, gN_0, gN_2, gN_3, gN_4, gN_5, gN_10, gN_11, gN_17, gN_18, gN_23, gN_24, gN_29, gN_35, gN_36, gN_42, am_p_p, Int.toNat_natCast, aq_tag, am_rq_c, am_bh_wq, aq_get3, aq_get4, aq_put3, Int.reduceAdd, Int.reduceSub, Int.reduceMul, Int.reduceToNat, c117, s117_0, s117_1, s117_4, s117_5, s117_8, s117_9, s117_10, s117_11, s117_13, s117_16, s117_17, s117_20, s117_22, s117_25, s117_26, s117_29, s117_32, s117_33, s117_34, s117_37, s117_38, s117_39, s117_42, s117_43, s117_46, s117_47, s117_48, s117_50, s117_53, s117_54, s117_57, s117_59, s117_62, s117_63, s117_64, s117_67, s117_68, s117_69, s117_72, s117_73, s117_76, s117_77, s117_78, h0, n3, n23, h6, c2]
      · simp (disch := omega) only [am_bv_some, am_bi_int, am_bl_long, am_br_ref, am_bc_some, am_bq_some, am_gf_c, am_rd_c, am_bh_pf, am_bh_wr, am_g_p, ob_get, ob_put, ar_get, ar_put, ob_tag, ar_tag, i_zero, i_add, i_sub, i_mul, i_lt, i_le, i_eq, i_val, if_pos, if_neg, Option.toList_some, Option.toList_none, List.cons_append, List.nil_append, beq_self_eq_true, true_or, or_true, up_at, up_ne, ↓reduceIte, Nat.reduceEqDiff, le_t, le_f, lt_t, lt_f, eq_t, eq_f, nq_t, nq_f, nl_t, nl_f, and_true, true_and, and_false, false_and, not_true_eq_false, not_false_eq_true, or_false, false_or, az_tag, al_tag, az_get, az_put, am_bh_wz, gX, gT, gW, gS, gA, gL, gM, gE, gN, gX_11, gX_1, gX_2, gT_1, gW_0, gW_1, gW_2, gW_3, gW_12, gW_13, gA_1, gL_1, gE_3, gM_0, gM_1, gM_2, gM_3, gN_0, gN_2, gN_3, gN_4, gN_5, gN_10, gN_11, gN_17, gN_18, gN_23, gN_24, gN_29, gN_35, gN_36, gN_42, am_p_p, Int.toNat_natCast, aq_tag, am_rq_c, am_bh_wq, aq_get3, aq_get4, aq_put3, Int.reduceAdd, Int.reduceSub, Int.reduceMul, Int.reduceToNat, c117, s117_0, s117_1, s117_4, s117_5, s117_8, s117_9, s117_10, s117_11, s117_13, s117_16, s117_17, s117_20, s117_22, s117_25, s117_26, s117_29, s117_32, s117_33, s117_34, s117_37, s117_38, s117_39, s117_42, s117_43, s117_46, s117_47, s117_48, s117_50, s117_53, s117_54, s117_57, s117_59, s117_62, s117_63, s117_64, s117_67, s117_68, s117_69, s117_72, s117_73, s117_76, s117_77, s117_78, h0, n3, h6]
  · have g0 := (hg 0 (by omega)).2
    refine ⟨pA A N sd (p + i), up N 3 ((p + i : Nat) : Int), ?_, pA_g A N sd (p + i), up_at _ _ _, fun j hj => up_ne _ _ hj, fun j hj => pA_ne A N sd (p + i) hj⟩
    rcases g0 with ⟨c1, c2, c3⟩ | ⟨c1, c2⟩
    · rcases p2 with ⟨rfl, p2⟩ | ⟨rfl, p2⟩
      · have cc := m_canal_f d L p p i A N sd f T hM hD hL hf hpL c1 (by omega) hg hb
        have hx := pA_g A N sd (p + 1)
        simp (disch := omega) only [am_bv_some, am_bi_int, am_bl_long, am_br_ref, am_bc_some, am_bq_some, am_gf_c, am_rd_c, am_bh_pf, am_bh_wr, am_g_p, ob_get, ob_put, ar_get, ar_put, ob_tag, ar_tag, i_zero, i_add, i_sub, i_mul, i_lt, i_le, i_eq, i_val, if_pos, if_neg, Option.toList_some, Option.toList_none, List.cons_append, List.nil_append, beq_self_eq_true, true_or, or_true, up_at, up_ne, ↓reduceIte, Nat.reduceEqDiff, le_t, le_f, lt_t, lt_f, eq_t, eq_f, nq_t, nq_f, nl_t, nl_f, and_true, true_and, and_false, false_and, not_true_eq_false, not_false_eq_true, or_false, false_or, az_tag, al_tag, az_get, az_put, am_bh_wz, gX, gT, gW, gS, gA, gL, gM, gE, gN, gX_11, gX_1, gX_2, gT_1, gW_0, gW_1, gW_2, gW_3, gW_12, gW_13, gA_1, gL_1, gE_3, gM_0, gM_1, gM_2, gM_3, gN_0, gN_2, gN_3, gN_4, gN_5, gN_10, gN_11, gN_17, gN_18, gN_23, gN_24, gN_29, gN_35, gN_36, gN_42, am_p_p, Int.toNat_natCast, aq_tag, am_rq_c, am_bh_wq, aq_get3, aq_get4, aq_put3, Int.reduceAdd, Int.reduceSub, Int.reduceMul, Int.reduceToNat, c117, s117_0, s117_1, s117_4, s117_5, s117_8, s117_9, s117_10, s117_11, s117_13, s117_16, s117_17, s117_20, s117_22, s117_25, s117_26, s117_29, s117_32, s117_33, s117_34, s117_37, s117_38, s117_39, s117_42, s117_43, s117_46, s117_47, s117_48, s117_50, s117_53, s117_54, s117_57, s117_59, s117_62, s117_63, s117_64, s117_67, s117_68, s117_69, s117_72, s117_73, s117_76, s117_77, s117_78, h0, n3, n18, h6, c1, p1, ePA, hx, cc]
      · exact absurd c3 p2
    · have cc := m_person_f d L p p i A N sd f T hM hD hL hf hpL c1 (by omega) hg hb
      have hx := pA_g A N sd (p + 1)
      simp (disch := omega) only [am_bv_some, am_bi_int, am_bl_long, am_br_ref, am_bc_some, am_bq_some, am_gf_c, am_rd_c, am_bh_pf, am_bh_wr, am_g_p, ob_get, ob_put, ar_get, ar_put, ob_tag, ar_tag, i_zero, i_add, i_sub, i_mul, i_lt, i_le, i_eq, i_val, if_pos, if_neg, Option.toList_some, Option.toList_none, List.cons_append, List.nil_append, beq_self_eq_true, true_or, or_true, up_at, up_ne, ↓reduceIte, Nat.reduceEqDiff, le_t, le_f, lt_t, lt_f, eq_t, eq_f, nq_t, nq_f, nl_t, nl_f, and_true, true_and, and_false, false_and, not_true_eq_false, not_false_eq_true, or_false, false_or, az_tag, al_tag, az_get, az_put, am_bh_wz, gX, gT, gW, gS, gA, gL, gM, gE, gN, gX_11, gX_1, gX_2, gT_1, gW_0, gW_1, gW_2, gW_3, gW_12, gW_13, gA_1, gL_1, gE_3, gM_0, gM_1, gM_2, gM_3, gN_0, gN_2, gN_3, gN_4, gN_5, gN_10, gN_11, gN_17, gN_18, gN_23, gN_24, gN_29, gN_35, gN_36, gN_42, am_p_p, Int.toNat_natCast, aq_tag, am_rq_c, am_bh_wq, aq_get3, aq_get4, aq_put3, Int.reduceAdd, Int.reduceSub, Int.reduceMul, Int.reduceToNat, c117, s117_0, s117_1, s117_4, s117_5, s117_8, s117_9, s117_10, s117_11, s117_13, s117_16, s117_17, s117_20, s117_22, s117_25, s117_26, s117_29, s117_32, s117_33, s117_34, s117_37, s117_38, s117_39, s117_42, s117_43, s117_46, s117_47, s117_48, s117_50, s117_53, s117_54, s117_57, s117_59, s117_62, s117_63, s117_64, s117_67, s117_68, s117_69, s117_72, s117_73, s117_76, s117_77, s117_78, h0, n3, n23, h6, c1, ePA, hx, cc]
theorem m_readPart_t (d L p : Nat) (A : am_H) (N : Nat → Int) (sd : Int64) (f : Nat → Int) (T : Nat → Nat → Int) (hM : RM A N sd f L T p) (hD : DT T) (hL : L ≤ 80) (hf : ∀ j, 0 ≤ f j ∧ f j ≤ 255) (hg : ∀ j, j < 5 → p + j < L ∧ gd T f p j) : ∃ A' N', am_call (d + 4) 117 [.ref 105] A = some (some (.int (Int32.ofInt 1)), A') ∧ RM A' N' sd f L (ptT T f p) (p + 5) ∧ (∀ j, (j ≠ 3 ∧ j ≠ 18 ∧ j ≠ 23 ∧ j ≠ 24) → N' j = N j) ∧ ∀ j, j ≠ 105 → (j < 116 ∨ 122 < j) → am_g A' j = am_g A j := by
  obtain ⟨h0, ⟨n2, n3, n17, n18, n23, n24⟩, h6, ⟨r1, k1, m1⟩, ⟨r2, k2, m2⟩, ⟨r3, k3, m3⟩, ⟨r4, k4, m4⟩, ⟨r5, k5, m5⟩, ⟨r6, k6, m6⟩, ⟨r7, k7, m7⟩⟩ := id hM
  have hn := hD.1
  have hK := hD.2.1
  have hP := hD.2.2.1
  have f0 := hf p
  obtain ⟨w, p1, p2⟩ := m_hasPair (d + 1) L p A N sd f T hM hD
  have ePA : am_p A 105 (ob 11 43 (gN (up N 3 ((p : Int) + 1)) sd)) = pA A N sd (p + 1) := by unfold pA; rw [show ((p + 1 : Nat) : Int) = (p : Int) + 1 by omega]
  have hx := pA_g A N sd (p + 1)
  have g0 := (hg 0 (by omega))
  have g1 := (hg 1 (by omega))
  have g2 := (hg 2 (by omega))
  have g3 := (hg 3 (by omega))
  have g4 := (hg 4 (by omega))
  rcases g0.2 with ⟨c1, c2, c3⟩ | ⟨c1, c2⟩
  · obtain ⟨k, hk⟩ : ∃ k : Nat, T 1 2 = (k : Int) := ⟨(T 1 2).toNat, by omega⟩
    have ept : ptT T f p = addC T k (f (p + 1) - 48) (f (p + 2) - 48) (f (p + 3) - 48) (bnd (f (p + 4))) := by
      unfold ptT
      rw [if_pos c1, hk, Int.toNat_natCast]
    have g1' : (0 ≤ f (p + 1) - 48 ∧ f (p + 1) - 48 < T 1 1) ∧ partn T (f (p + 1) - 48) := by
      rcases g1.2 with e | e
      · exact e.2
      · omega
    have g2' : (0 ≤ f (p + 2) - 48 ∧ f (p + 2) - 48 < T 1 1) := g2.2.1
    have g4' : f (p + 4) = 108 ∨ f (p + 4) = 114 ∨ f (p + 4) = 115 := by
      rcases g4.2 with e | e
      · exact e.2
      · omega
    have d1 := (m_rc1 d L (p + 1) _ _ sd f T (hM.pm (p + 1)) hD (by omega) hL (hf _)).2 ⟨g1.1, g1'⟩
    rw [show ((p + 1 : Nat) : Int) + 1 = ((p + 2 : Nat) : Int) by omega, pA_p] at d1
    have d2 := (m_rc2 d L (p + 2) _ _ sd f T (f (p + 1) - 48) (by omega) (hM.pm (p + 2)) hD (by omega) hL (hf _)).2 ⟨g2.1, g2', g2.2.2 c1⟩
    rw [show ((p + 2 : Nat) : Int) + 1 = ((p + 3 : Nat) : Int) by omega, pA_p] at d2
    have d3 := m_rc5 d L (p + 3) k _ _ sd f T (f (p + 1) - 48) (f (p + 2) - 48) r1 r2 r3 r4 (hM.pm (p + 3)) (by omega) hL hf (by omega) (by omega) hk (by omega) (by rw [pA_ne _ _ _ _ (by omega)]; exact k1) (by rw [pA_ne _ _ _ _ (by omega)]; exact k2) (by rw [pA_ne _ _ _ _ (by omega)]; exact k3) (by rw [pA_ne _ _ _ _ (by omega)]; exact k4) ⟨g3.1, g3.2⟩ ⟨g4.1, g4'⟩
    rw [show ((p + 3 : Nat) : Int) + 2 = ((p + 5 : Nat) : Int) by omega, pA_p] at d3
    have cc := (d1.trans d2).trans d3
    rcases p2 with ⟨rfl, p2⟩ | ⟨rfl, p2⟩
    · refine ⟨_, up (up (up N 3 ((p + 3 : Nat) : Int)) 3 ((p + 5 : Nat) : Int)) 18 ((k : Int) + 1), by simp (disch := omega) only [am_bv_some, am_bi_int, am_bl_long, am_br_ref, am_bc_some, am_bq_some, am_gf_c, am_rd_c, am_bh_pf, am_bh_wr, am_g_p, ob_get, ob_put, ar_get, ar_put, ob_tag, ar_tag, i_zero, i_add, i_sub, i_mul, i_lt, i_le, i_eq, i_val, if_pos, if_neg, Option.toList_some, Option.toList_none, List.cons_append, List.nil_append, beq_self_eq_true, true_or, or_true, up_at, up_ne, ↓reduceIte, Nat.reduceEqDiff, le_t, le_f, lt_t, lt_f, eq_t, eq_f, nq_t, nq_f, nl_t, nl_f, and_true, true_and, and_false, false_and, not_true_eq_false, not_false_eq_true, or_false, false_or, az_tag, al_tag, az_get, az_put, am_bh_wz, gX, gT, gW, gS, gA, gL, gM, gE, gN, gX_11, gX_1, gX_2, gT_1, gW_0, gW_1, gW_2, gW_3, gW_12, gW_13, gA_1, gL_1, gE_3, gM_0, gM_1, gM_2, gM_3, gN_0, gN_2, gN_3, gN_4, gN_5, gN_10, gN_11, gN_17, gN_18, gN_23, gN_24, gN_29, gN_35, gN_36, gN_42, am_p_p, Int.toNat_natCast, aq_tag, am_rq_c, am_bh_wq, aq_get3, aq_get4, aq_put3, Int.reduceAdd, Int.reduceSub, Int.reduceMul, Int.reduceToNat, c117, s117_0, s117_1, s117_4, s117_5, s117_8, s117_9, s117_10, s117_11, s117_13, s117_16, s117_17, s117_20, s117_22, s117_25, s117_26, s117_29, s117_32, s117_33, s117_34, s117_37, s117_38, s117_39, s117_42, s117_43, s117_46, s117_47, s117_48, s117_50, s117_53, s117_54, s117_57, s117_59, s117_62, s117_63, s117_64, s117_67, s117_68, s117_69, s117_72, s117_73, s117_76, s117_77, s117_78, h0, n3, n18, h6, c1, p1, ePA, hx, cc]; rfl, ?_, fun j hj => ?_, fun j u1 u2 => ?_⟩
      · rw [ept]
        have eT1 : addC T k (f (p + 1) - 48) (f (p + 2) - 48) (f (p + 3) - 48) (bnd (f (p + 4))) 1 2 = (k : Int) + 1 := rfl
        refine ⟨by rw [am_g_p, if_pos rfl], ⟨n2, rfl, n17, rfl, n23, n24⟩, ?_, ⟨_, by rw [am_g_p, if_neg (by omega), am_g_p, if_neg (by omega), am_g_p, if_neg (by omega), am_g_p, if_neg (by omega), am_g_p, if_pos rfl], fun j hj => ?_⟩, ⟨_, by rw [am_g_p, if_neg (by omega), am_g_p, if_neg (by omega), am_g_p, if_neg (by omega), am_g_p, if_pos rfl], fun j hj => ?_⟩, ⟨_, by rw [am_g_p, if_neg (by omega), am_g_p, if_neg (by omega), am_g_p, if_pos rfl], fun j hj => ?_⟩, ⟨_, by rw [am_g_p, if_neg (by omega), am_g_p, if_pos rfl], fun j hj => ?_⟩, ⟨r5, ?_, m5⟩, ⟨r6, ?_, m6⟩, ⟨r7, ?_, m7⟩⟩
        · rw [am_g_p, if_neg (by omega), am_g_p, if_neg (by omega), am_g_p, if_neg (by omega), am_g_p, if_neg (by omega), am_g_p, if_neg (by omega), pA_ne _ _ _ _ (by omega)]; exact h6
        · show up r1 k _ j = up (T 2) k _ j
          rw [eT1] at hj
          by_cases e : j = k
          · subst e; rw [up_at, up_at]; split <;> split <;> omega
          · rw [up_ne _ _ e, up_ne _ _ e]; exact m1 j (by omega)
        · show up r2 k _ j = up (T 3) k _ j
          rw [eT1] at hj
          by_cases e : j = k
          · subst e; rw [up_at, up_at]
          · rw [up_ne _ _ e, up_ne _ _ e]; exact m2 j (by omega)
        · show up r3 k _ j = up (T 4) k _ j
          rw [eT1] at hj
          by_cases e : j = k
          · subst e; rw [up_at, up_at]
          · rw [up_ne _ _ e, up_ne _ _ e]; exact m3 j (by omega)
        · show up r4 k _ j = up (T 5) k _ j
          rw [eT1] at hj
          by_cases e : j = k
          · subst e; rw [up_at, up_at]
          · rw [up_ne _ _ e, up_ne _ _ e]; exact m4 j (by omega)
        · rw [am_g_p, if_neg (by omega), am_g_p, if_neg (by omega), am_g_p, if_neg (by omega), am_g_p, if_neg (by omega), am_g_p, if_neg (by omega), pA_ne _ _ _ _ (by omega)]; exact k5
        · rw [am_g_p, if_neg (by omega), am_g_p, if_neg (by omega), am_g_p, if_neg (by omega), am_g_p, if_neg (by omega), am_g_p, if_neg (by omega), pA_ne _ _ _ _ (by omega)]; exact k6
        · rw [am_g_p, if_neg (by omega), am_g_p, if_neg (by omega), am_g_p, if_neg (by omega), am_g_p, if_neg (by omega), am_g_p, if_neg (by omega), pA_ne _ _ _ _ (by omega)]; exact k7
      · rw [up_ne _ _ (by omega), up_ne _ _ (by omega), up_ne _ _ (by omega)]
      · rw [am_g_p, if_neg (by omega), am_g_p, if_neg (by omega), am_g_p, if_neg (by omega), am_g_p, if_neg (by omega), am_g_p, if_neg (by omega), pA_ne _ _ _ _ u1]
    · exact absurd c3 p2
  · obtain ⟨k, hk⟩ : ∃ k : Nat, T 1 3 = (k : Int) := ⟨(T 1 3).toNat, by omega⟩
    have ept : ptT T f p = addP T k (if f (p + 1) = 108 then 1 else 0) (f (p + 2) - 48) (f (p + 3) - 48) (f (p + 4) - 48) := by
      unfold ptT
      rw [if_neg (by omega), hk, Int.toNat_natCast]
    have g1' : f (p + 1) = 108 ∨ f (p + 1) = 114 := by
      rcases g1.2 with e | e
      · omega
      · exact e.2
    have g4' : 0 ≤ f (p + 4) - 48 ∧ f (p + 4) - 48 < T 1 1 := by
      rcases g4.2 with e | e
      · omega
      · exact e.2
    have d1 := (m_rp1 d L (p + 1) _ _ sd f T (hM.pm (p + 1)) (by omega) hL hf).2 ⟨g1.1, g1'⟩
    have epA : pA (pA A N sd (p + 1)) (up N 3 ((p + 1 : Nat) : Int)) sd (p + 1 + 1) = pA A N sd (p + 2) := pA_p A N sd (p + 1) (p + 2)
    rw [epA] at d1
    have d2 := m_rp5 d L (p + 2) p k A N sd f T (if f (p + 1) = 108 then 1 else 0) r5 r6 r7 hM hD hL hf (by split <;> omega) hk (by omega) k5 k6 k7 (by omega) g2.2.1 g3.2 g4'
    rw [show p + 2 + 3 = p + 5 from rfl, show p + 2 + 1 = p + 3 from rfl, show p + 2 + 2 = p + 4 from rfl] at d2
    have cc := d1.trans d2
    refine ⟨_, up (up (up N 3 ((p + 5 : Nat) : Int)) 24 (T 1 4 + (if f (p + 1) = 108 then 1 else 0) * (2 ^ k : Nat))) 23 ((k : Int) + 1), by simp (disch := omega) only [am_bv_some, am_bi_int, am_bl_long, am_br_ref, am_bc_some, am_bq_some, am_gf_c, am_rd_c, am_bh_pf, am_bh_wr, am_g_p, ob_get, ob_put, ar_get, ar_put, ob_tag, ar_tag, i_zero, i_add, i_sub, i_mul, i_lt, i_le, i_eq, i_val, if_pos, if_neg, Option.toList_some, Option.toList_none, List.cons_append, List.nil_append, beq_self_eq_true, true_or, or_true, up_at, up_ne, ↓reduceIte, Nat.reduceEqDiff, le_t, le_f, lt_t, lt_f, eq_t, eq_f, nq_t, nq_f, nl_t, nl_f, and_true, true_and, and_false, false_and, not_true_eq_false, not_false_eq_true, or_false, false_or, az_tag, al_tag, az_get, az_put, am_bh_wz, gX, gT, gW, gS, gA, gL, gM, gE, gN, gX_11, gX_1, gX_2, gT_1, gW_0, gW_1, gW_2, gW_3, gW_12, gW_13, gA_1, gL_1, gE_3, gM_0, gM_1, gM_2, gM_3, gN_0, gN_2, gN_3, gN_4, gN_5, gN_10, gN_11, gN_17, gN_18, gN_23, gN_24, gN_29, gN_35, gN_36, gN_42, am_p_p, Int.toNat_natCast, aq_tag, am_rq_c, am_bh_wq, aq_get3, aq_get4, aq_put3, Int.reduceAdd, Int.reduceSub, Int.reduceMul, Int.reduceToNat, c117, s117_0, s117_1, s117_4, s117_5, s117_8, s117_9, s117_10, s117_11, s117_13, s117_16, s117_17, s117_20, s117_22, s117_25, s117_26, s117_29, s117_32, s117_33, s117_34, s117_37, s117_38, s117_39, s117_42, s117_43, s117_46, s117_47, s117_48, s117_50, s117_53, s117_54, s117_57, s117_59, s117_62, s117_63, s117_64, s117_67, s117_68, s117_69, s117_72, s117_73, s117_76, s117_77, s117_78, h0, n3, n23, h6, c1, ePA, hx, cc]; rfl, ?_, fun j hj => ?_, fun j u1 u2 => ?_⟩
    · rw [ept]
      have eT1 : addP T k (if f (p + 1) = 108 then 1 else 0) (f (p + 2) - 48) (f (p + 3) - 48) (f (p + 4) - 48) 1 3 = (k : Int) + 1 := rfl
      refine ⟨by rw [am_g_p, if_pos rfl], ⟨n2, rfl, n17, n18, rfl, rfl⟩, ?_, ⟨r1, ?_, m1⟩, ⟨r2, ?_, m2⟩, ⟨r3, ?_, m3⟩, ⟨r4, ?_, m4⟩, ⟨_, by rw [am_g_p, if_neg (by omega), am_g_p, if_neg (by omega), am_g_p, if_neg (by omega), am_g_p, if_pos rfl], fun j hj => ?_⟩, ⟨_, by rw [am_g_p, if_neg (by omega), am_g_p, if_neg (by omega), am_g_p, if_pos rfl], fun j hj => ?_⟩, ⟨_, by rw [am_g_p, if_neg (by omega), am_g_p, if_pos rfl], fun j hj => ?_⟩⟩
      · rw [am_g_p, if_neg (by omega), am_g_p, if_neg (by omega), am_g_p, if_neg (by omega), am_g_p, if_neg (by omega), am_g_p, if_neg (by omega), pA_ne _ _ _ _ (by omega)]; exact h6
      · rw [am_g_p, if_neg (by omega), am_g_p, if_neg (by omega), am_g_p, if_neg (by omega), am_g_p, if_neg (by omega), am_g_p, if_neg (by omega), pA_ne _ _ _ _ (by omega)]; exact k1
      · rw [am_g_p, if_neg (by omega), am_g_p, if_neg (by omega), am_g_p, if_neg (by omega), am_g_p, if_neg (by omega), am_g_p, if_neg (by omega), pA_ne _ _ _ _ (by omega)]; exact k2
      · rw [am_g_p, if_neg (by omega), am_g_p, if_neg (by omega), am_g_p, if_neg (by omega), am_g_p, if_neg (by omega), am_g_p, if_neg (by omega), pA_ne _ _ _ _ (by omega)]; exact k3
      · rw [am_g_p, if_neg (by omega), am_g_p, if_neg (by omega), am_g_p, if_neg (by omega), am_g_p, if_neg (by omega), am_g_p, if_neg (by omega), pA_ne _ _ _ _ (by omega)]; exact k4
      · show up r5 k _ j = up (T 8) k _ j
        rw [eT1] at hj
        by_cases e : j = k
        · subst e; rw [up_at, up_at]
        · rw [up_ne _ _ e, up_ne _ _ e]; exact m5 j (by omega)
      · show up r6 k _ j = up (T 6) k _ j
        rw [eT1] at hj
        by_cases e : j = k
        · subst e; rw [up_at, up_at]
        · rw [up_ne _ _ e, up_ne _ _ e]; exact m6 j (by omega)
      · show up r7 k _ j = up (T 7) k _ j
        rw [eT1] at hj
        by_cases e : j = k
        · subst e; rw [up_at, up_at]
        · rw [up_ne _ _ e, up_ne _ _ e]; exact m7 j (by omega)
    · rw [up_ne _ _ (by omega), up_ne _ _ (by omega), up_ne _ _ (by omega)]
    · rw [am_g_p, if_neg (by omega), am_g_p, if_neg (by omega), am_g_p, if_neg (by omega), am_g_p, if_neg (by omega), am_g_p, if_neg (by omega), pA_ne _ _ _ _ u1]
