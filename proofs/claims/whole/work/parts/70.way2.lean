theorem MI.scr {A A' : am_H} {S : Nat → Nat → Int} {sd : Int64} {mt : Nat → Int} (h : MI A S sd mt) (hN : ∀ N, am_g A 105 = ob 11 43 (gN N sd) → ∃ N', am_g A' 105 = ob 11 43 (gN N' sd) ∧ N' 2 = N 2 ∧ N' 4 = N 4 ∧ N' 5 = N 5 ∧ N' 10 = N 10 ∧ N' 11 = N 11 ∧ N' 29 = N 29 ∧ N' 36 = N 36) (hg : ∀ i, 106 ≤ i → (i < 116 ∨ 123 ≤ i) → i ≠ 127 → i ≠ 128 → i ≠ 132 → i ≠ 133 → am_g A' i = am_g A i) (hR : MR A') (h7 : ∃ f, am_g A' 127 = ar 36 f) (h8 : ∃ f, am_g A' 128 = ar 6 f) (h32 : ∃ f, am_g A' 132 = ar 6 f) (h33 : ∃ f, am_g A' 133 = ar 6 f) : MI A' S sd mt := by
  obtain ⟨N, fr, to, fa, be, pa, go, bk, ke, hA, hT, hS, hRr, hB, hK, hQ, hNn⟩ := h
  obtain ⟨y0, y2, y4, y5, y10, y11, y29, y36, y106⟩ := id hA
  obtain ⟨y107, y108, y109, y110, y111, y112, yK, yP⟩ := id hT
  obtain ⟨y113, y114, y115⟩ := id hS
  obtain ⟨y123, yB⟩ := id hB
  obtain ⟨y124, yKe, y125⟩ := id hK
  obtain ⟨y129, y130, y131⟩ := id hNn
  obtain ⟨N', k0, k2, k4, k5, k10, k11, k29, k36⟩ := hN N y0
  have hTS : TS S S := TS.rf S
  exact ⟨N', fr, to, fa, be, pa, go, bk, ke, ⟨k0, by rw [k2]; exact y2, by rw [k4]; exact y4, by rw [k5]; exact y5, by rw [k10]; exact y10, by rw [k11]; exact y11, by rw [k29]; exact y29, by rw [k36]; exact y36, by rw [hg 106 (by omega) (by omega) (by omega) (by omega) (by omega) (by omega)]; exact y106⟩, hT.congr (fun i a b => hg i (by omega) (by omega) (by omega) (by omega) (by omega) (by omega)) hTS, hS.congr (fun i a b => hg i (by omega) (by omega) (by omega) (by omega) (by omega) (by omega)) rfl rfl rfl, hR, hB.congr (fun i a => hg i (by omega) (by omega) (by omega) (by omega) (by omega) (by omega)) (fun _ _ => rfl), hK.congr (fun i a => hg i (by omega) (by omega) (by omega) (by omega) (by omega) (by omega)) rfl rfl (fun _ _ _ => rfl), ⟨by rw [hg 126 (by omega) (by omega) (by omega) (by omega) (by omega) (by omega)]; exact hQ.1, h7, h8, h32, h33⟩, hNn.congr (fun i a b => hg i (by omega) (by omega) (by omega) (by omega) (by omega) (by omega)) rfl rfl rfl⟩
theorem MI.way {A A' : am_H} {S : Nat → Nat → Int} {sd : Int64} {mt : Nat → Int} (h : MI A S sd mt) (hg : ∀ i, i ≠ 128 → am_g A' i = am_g A i) (h8 : ∃ f, am_g A' 128 = ar 6 f) : MI A' S sd mt := by
  have h' := h
  obtain ⟨N, fr, to, fa, be, pa, go, bk, ke, hA, hT, hS, hRr, hB, hK, hQ, hNn⟩ := h
  obtain ⟨y0, y2, y4, y5, y10, y11, y29, y36, y106⟩ := id hA
  obtain ⟨y107, y108, y109, y110, y111, y112, yK, yP⟩ := id hT
  obtain ⟨y113, y114, y115⟩ := id hS
  obtain ⟨y123, yB⟩ := id hB
  obtain ⟨y124, yKe, y125⟩ := id hK
  obtain ⟨y129, y130, y131⟩ := id hNn
  exact h'.scr (fun N' e => ⟨N', by rw [hg _ (by omega)]; exact e, rfl, rfl, rfl, rfl, rfl, rfl, rfl⟩) (fun i _ _ _ h _ _ => hg i h) (hRr.congr (fun i a b => hg i (by omega))) (by rw [hg _ (by omega)]; exact hQ.2.1) h8 (by rw [hg _ (by omega)]; exact hQ.2.2.2.1) (by rw [hg _ (by omega)]; exact hQ.2.2.2.2)
theorem m_way (d c : Nat) (A : am_H) (S : Nat → Nat → Int) (sd : Int64) (mt : Nat → Int) (x y z w : Int) (h' : MI A S sd mt) (hR : RR S c) (hx : -2147483648 ≤ x ∧ x ≤ 2147483647) (hy : -2147483648 ≤ y ∧ y ≤ 2147483647) (hz : -2147483648 ≤ z ∧ z ≤ 2147483647) (hw : -2147483648 ≤ w ∧ w ≤ 2147483647) : ∃ A', am_call (d + 20) 136 [.ref 105, .int (Int32.ofInt x), .int (Int32.ofInt y), .int (Int32.ofInt z), .int (Int32.ofInt w)] A = some (some (.int (Int32.ofInt (wayR S x y z w))), A') ∧ MI A' S sd mt ∧ FM A A' := by
  obtain ⟨A0, N0, e0, eA, h, hFM⟩ := m_thrown h'
  have h0 := h
  have hF := hR.1.F64
  have hR' := hR
  obtain ⟨N, fr, to, fa, be, pa, go, bk, ke, hA, hT, hS, hRr, hB, hK, hQ, hNn⟩ := h
  obtain ⟨y0, y2, y4, y5, y10, y11, y29, y36, y106⟩ := id hA
  obtain ⟨y107, y108, y109, y110, y111, y112, yK, yP⟩ := id hT
  obtain ⟨y113, y114, y115⟩ := id hS
  obtain ⟨y123, yB⟩ := id hB
  obtain ⟨y124, yKe, y125⟩ := id hK
  obtain ⟨y129, y130, y131⟩ := id hNn
  obtain ⟨⟨g1, g2, g3, g4, g5, g6, g7, g8, g9, g10, g11, g12, g13⟩, ⟨w1, w2, w3, w4⟩, g14, g15, g16, g17, g18⟩ := id hR
  have px := fun d => m_noOne d A0 N sd x y0 (by omega) hx
  have py := fun d => m_noOne d A0 N sd y y0 (by omega) hy
  have pz := fun d => m_noCorner d A0 N sd z y0 (by omega) hz
  have pw := fun d => m_noCorner d A0 N sd w y0 (by omega) hw
  rw [y10] at px py
  rw [y4] at pz pw
  unfold wayR
  by_cases q0 : wayOk S x y z w
  · rw [if_pos q0]
    obtain ⟨q1, q2, q3, q4⟩ := q0
    rw [if_pos q1] at px
    rw [if_pos q2] at py
    rw [if_pos q3] at pz
    rw [if_pos q4] at pw
    obtain ⟨a, rfl⟩ : ∃ a : Nat, x = (a : Int) := ⟨x.toNat, by omega⟩
    obtain ⟨b, rfl⟩ : ∃ b : Nat, y = (b : Int) := ⟨y.toNat, by omega⟩
    obtain ⟨s, rfl⟩ : ∃ s : Nat, z = (s : Int) := ⟨z.toNat, by omega⟩
    obtain ⟨g, rfl⟩ : ∃ g : Nat, w = (g : Int) := ⟨w.toNat, by omega⟩
    simp only [Int.toNat_natCast]
    have pa' := fun d => m_has d A0 (S 1 4) a hF (by omega)
    have pb' := fun d => m_has d A0 (S 1 4) b hF (by omega)
    have ba := bi_01 (S 1 4) a
    have bb := bi_01 (S 1 4) b
    by_cases q5 : bi (S 1 4) a = bi (S 1 4) b
    · rw [if_pos q5]
      exact ⟨A0, by simp (disch := omega) only [am_bv_some, am_bi_int, am_bl_long, am_br_ref, am_bc_some, am_bq_some, am_gf_c, am_rd_c, am_bh_pf, am_bh_wr, am_g_p, ob_get, ob_put, ar_get, ar_put, ob_tag, ar_tag, i_zero, i_add, i_sub, i_mul, i_lt, i_le, i_eq, i_val, if_pos, if_neg, Option.toList_some, Option.toList_none, List.cons_append, List.nil_append, beq_self_eq_true, true_or, or_true, up_at, up_ne, ↓reduceIte, Nat.reduceEqDiff, le_t, le_f, lt_t, lt_f, eq_t, eq_f, nq_t, nq_f, nl_t, nl_f, and_true, true_and, and_false, false_and, not_true_eq_false, not_false_eq_true, or_false, false_or, az_tag, al_tag, az_get, az_put, am_bh_wz, gX, gT, gW, gS, gA, gL, gM, gE, gN, gX_11, gX_1, gX_2, gT_1, gW_0, gW_1, gW_2, gW_3, gW_12, gW_13, gA_1, gL_1, gE_3, gM_0, gM_1, gM_2, gM_3, gN_0, gN_2, gN_3, gN_4, gN_5, gN_10, gN_11, gN_17, gN_18, gN_23, gN_24, gN_29, gN_35, gN_36, gN_42, am_p_p, Int.toNat_natCast, aq_tag, am_rq_c, am_bh_wq, aq_get3, aq_get4, aq_put3, Int.reduceAdd, Int.reduceSub, Int.reduceMul, Int.reduceToNat, c136, s136_0, s136_1, s136_2, s136_5, s136_6, s136_7, s136_10, s136_13, s136_14, s136_15, s136_18, s136_21, s136_22, s136_23, s136_26, s136_29, s136_30, s136_32, s136_35, s136_38, s136_39, s136_40, s136_41, s136_44, s136_45, s136_48, s136_49, s136_52, s136_53, s136_56, s136_59, s136_61, s136_62, s136_63, s136_64, s136_65, s136_66, s136_68, s136_69, s136_72, s136_75, s136_77, s136_79, s136_81, s136_84, s136_86, s136_89, s136_91, e0, eA, y0, y11, px, py, pz, pw, pa', pb'], h0, hFM⟩
    · rw [if_neg q5]
      obtain ⟨f8, k8⟩ := hQ.2.2.1
      obtain ⟨A', r1, r2, r3⟩ := m_wayG (d + 16) c a b s g A0 S (S 1 4) N sd fr to fa be pa go f8 hR' y0 y5 hT y115 k8 q1.2 q2.2 q3.2 (by omega) hF q5
      refine ⟨A', ?_, h0.way r3 r2, fun i hi => (r3 i (by omega)).trans (hFM i hi)⟩
      have rg := gz_rng (S 1 4) hR' q1.2 q2.2 s g
      rw [← dz_onn (by omega)]
      have rg2 : 0 ≤ dz 999999 (dl (gz S (S 1 4) a b) s g) ∧ dz 999999 (dl (gz S (S 1 4) a b) s g) ≤ 999999 := by unfold dz; split <;> omega
      generalize dz 999999 (dl (gz S (S 1 4) a b) s g) = v at r1 rg2 ⊢
      by_cases q6 : v = 999999
      · rw [if_pos q6]
        simp (disch := omega) only [am_bv_some, am_bi_int, am_bl_long, am_br_ref, am_bc_some, am_bq_some, am_gf_c, am_rd_c, am_bh_pf, am_bh_wr, am_g_p, ob_get, ob_put, ar_get, ar_put, ob_tag, ar_tag, i_zero, i_add, i_sub, i_mul, i_lt, i_le, i_eq, i_val, if_pos, if_neg, Option.toList_some, Option.toList_none, List.cons_append, List.nil_append, beq_self_eq_true, true_or, or_true, up_at, up_ne, ↓reduceIte, Nat.reduceEqDiff, le_t, le_f, lt_t, lt_f, eq_t, eq_f, nq_t, nq_f, nl_t, nl_f, and_true, true_and, and_false, false_and, not_true_eq_false, not_false_eq_true, or_false, false_or, az_tag, al_tag, az_get, az_put, am_bh_wz, gX, gT, gW, gS, gA, gL, gM, gE, gN, gX_11, gX_1, gX_2, gT_1, gW_0, gW_1, gW_2, gW_3, gW_12, gW_13, gA_1, gL_1, gE_3, gM_0, gM_1, gM_2, gM_3, gN_0, gN_2, gN_3, gN_4, gN_5, gN_10, gN_11, gN_17, gN_18, gN_23, gN_24, gN_29, gN_35, gN_36, gN_42, am_p_p, Int.toNat_natCast, aq_tag, am_rq_c, am_bh_wq, aq_get3, aq_get4, aq_put3, Int.reduceAdd, Int.reduceSub, Int.reduceMul, Int.reduceToNat, c136, s136_0, s136_1, s136_2, s136_5, s136_6, s136_7, s136_10, s136_13, s136_14, s136_15, s136_18, s136_21, s136_22, s136_23, s136_26, s136_29, s136_30, s136_32, s136_35, s136_38, s136_39, s136_40, s136_41, s136_44, s136_45, s136_48, s136_49, s136_52, s136_53, s136_56, s136_59, s136_61, s136_62, s136_63, s136_64, s136_65, s136_66, s136_68, s136_69, s136_72, s136_75, s136_77, s136_79, s136_81, s136_84, s136_86, s136_89, s136_91, e0, eA, y0, y11, px, py, pz, pw, pa', pb', r1]
      · rw [if_neg q6]
        simp (disch := omega) only [am_bv_some, am_bi_int, am_bl_long, am_br_ref, am_bc_some, am_bq_some, am_gf_c, am_rd_c, am_bh_pf, am_bh_wr, am_g_p, ob_get, ob_put, ar_get, ar_put, ob_tag, ar_tag, i_zero, i_add, i_sub, i_mul, i_lt, i_le, i_eq, i_val, if_pos, if_neg, Option.toList_some, Option.toList_none, List.cons_append, List.nil_append, beq_self_eq_true, true_or, or_true, up_at, up_ne, ↓reduceIte, Nat.reduceEqDiff, le_t, le_f, lt_t, lt_f, eq_t, eq_f, nq_t, nq_f, nl_t, nl_f, and_true, true_and, and_false, false_and, not_true_eq_false, not_false_eq_true, or_false, false_or, az_tag, al_tag, az_get, az_put, am_bh_wz, gX, gT, gW, gS, gA, gL, gM, gE, gN, gX_11, gX_1, gX_2, gT_1, gW_0, gW_1, gW_2, gW_3, gW_12, gW_13, gA_1, gL_1, gE_3, gM_0, gM_1, gM_2, gM_3, gN_0, gN_2, gN_3, gN_4, gN_5, gN_10, gN_11, gN_17, gN_18, gN_23, gN_24, gN_29, gN_35, gN_36, gN_42, am_p_p, Int.toNat_natCast, aq_tag, am_rq_c, am_bh_wq, aq_get3, aq_get4, aq_put3, Int.reduceAdd, Int.reduceSub, Int.reduceMul, Int.reduceToNat, c136, s136_0, s136_1, s136_2, s136_5, s136_6, s136_7, s136_10, s136_13, s136_14, s136_15, s136_18, s136_21, s136_22, s136_23, s136_26, s136_29, s136_30, s136_32, s136_35, s136_38, s136_39, s136_40, s136_41, s136_44, s136_45, s136_48, s136_49, s136_52, s136_53, s136_56, s136_59, s136_61, s136_62, s136_63, s136_64, s136_65, s136_66, s136_68, s136_69, s136_72, s136_75, s136_77, s136_79, s136_81, s136_84, s136_86, s136_89, s136_91, e0, eA, y0, y11, px, py, pz, pw, pa', pb', r1]
  · rw [if_neg q0]
    refine ⟨A0, ?_, h0, hFM⟩
    unfold wayOk at q0
    by_cases q1 : 0 ≤ x ∧ x < S 1 3
    · rw [if_pos q1] at px
      by_cases q2 : 0 ≤ y ∧ y < S 1 3
      · rw [if_pos q2] at py
        by_cases q3 : 0 ≤ z ∧ z < S 1 1
        · rw [if_pos q3] at pz
          rw [if_neg (fun e => q0 ⟨q1, q2, q3, e⟩)] at pw
          simp (disch := omega) only [am_bv_some, am_bi_int, am_bl_long, am_br_ref, am_bc_some, am_bq_some, am_gf_c, am_rd_c, am_bh_pf, am_bh_wr, am_g_p, ob_get, ob_put, ar_get, ar_put, ob_tag, ar_tag, i_zero, i_add, i_sub, i_mul, i_lt, i_le, i_eq, i_val, if_pos, if_neg, Option.toList_some, Option.toList_none, List.cons_append, List.nil_append, beq_self_eq_true, true_or, or_true, up_at, up_ne, ↓reduceIte, Nat.reduceEqDiff, le_t, le_f, lt_t, lt_f, eq_t, eq_f, nq_t, nq_f, nl_t, nl_f, and_true, true_and, and_false, false_and, not_true_eq_false, not_false_eq_true, or_false, false_or, az_tag, al_tag, az_get, az_put, am_bh_wz, gX, gT, gW, gS, gA, gL, gM, gE, gN, gX_11, gX_1, gX_2, gT_1, gW_0, gW_1, gW_2, gW_3, gW_12, gW_13, gA_1, gL_1, gE_3, gM_0, gM_1, gM_2, gM_3, gN_0, gN_2, gN_3, gN_4, gN_5, gN_10, gN_11, gN_17, gN_18, gN_23, gN_24, gN_29, gN_35, gN_36, gN_42, am_p_p, Int.toNat_natCast, aq_tag, am_rq_c, am_bh_wq, aq_get3, aq_get4, aq_put3, Int.reduceAdd, Int.reduceSub, Int.reduceMul, Int.reduceToNat, c136, s136_0, s136_1, s136_2, s136_5, s136_6, s136_7, s136_10, s136_13, s136_14, s136_15, s136_18, s136_21, s136_22, s136_23, s136_26, s136_29, s136_30, s136_32, s136_35, s136_38, s136_39, s136_40, s136_41, s136_44, s136_45, s136_48, s136_49, s136_52, s136_53, s136_56, s136_59, s136_61, s136_62, s136_63, s136_64, s136_65, s136_66, s136_68, s136_69, s136_72, s136_75, s136_77, s136_79, s136_81, s136_84, s136_86, s136_89, s136_91, e0, eA, y0, px, py, pz, pw]
        · rw [if_neg q3] at pz
          simp (disch := omega) only [am_bv_some, am_bi_int, am_bl_long, am_br_ref, am_bc_some, am_bq_some, am_gf_c, am_rd_c, am_bh_pf, am_bh_wr, am_g_p, ob_get, ob_put, ar_get, ar_put, ob_tag, ar_tag, i_zero, i_add, i_sub, i_mul, i_lt, i_le, i_eq, i_val, if_pos, if_neg, Option.toList_some, Option.toList_none, List.cons_append, List.nil_append, beq_self_eq_true, true_or, or_true, up_at, up_ne, ↓reduceIte, Nat.reduceEqDiff, le_t, le_f, lt_t, lt_f, eq_t, eq_f, nq_t, nq_f, nl_t, nl_f, and_true, true_and, and_false, false_and, not_true_eq_false, not_false_eq_true, or_false, false_or, az_tag, al_tag, az_get, az_put, am_bh_wz, gX, gT, gW, gS, gA, gL, gM, gE, gN, gX_11, gX_1, gX_2, gT_1, gW_0, gW_1, gW_2, gW_3, gW_12, gW_13, gA_1, gL_1, gE_3, gM_0, gM_1, gM_2, gM_3, gN_0, gN_2, gN_3, gN_4, gN_5, gN_10, gN_11, gN_17, gN_18, gN_23, gN_24, gN_29, gN_35, gN_36, gN_42, am_p_p, Int.toNat_natCast, aq_tag, am_rq_c, am_bh_wq, aq_get3, aq_get4, aq_put3, Int.reduceAdd, Int.reduceSub, Int.reduceMul, Int.reduceToNat, c136, s136_0, s136_1, s136_2, s136_5, s136_6, s136_7, s136_10, s136_13, s136_14, s136_15, s136_18, s136_21, s136_22, s136_23, s136_26, s136_29, s136_30, s136_32, s136_35, s136_38, s136_39, s136_40, s136_41, s136_44, s136_45, s136_48, s136_49, s136_52, s136_53, s136_56, s136_59, s136_61, s136_62, s136_63, s136_64, s136_65, s136_66, s136_68, s136_69, s136_72, s136_75, s136_77, s136_79, s136_81, s136_84, s136_86, s136_89, s136_91, e0, eA, y0, px, py, pz]
      · rw [if_neg q2] at py
        simp (disch := omega) only [am_bv_some, am_bi_int, am_bl_long, am_br_ref, am_bc_some, am_bq_some, am_gf_c, am_rd_c, am_bh_pf, am_bh_wr, am_g_p, ob_get, ob_put, ar_get, ar_put, ob_tag, ar_tag, i_zero, i_add, i_sub, i_mul, i_lt, i_le, i_eq, i_val, if_pos, if_neg, Option.toList_some, Option.toList_none, List.cons_append, List.nil_append, beq_self_eq_true, true_or, or_true, up_at, up_ne, ↓reduceIte, Nat.reduceEqDiff, le_t, le_f, lt_t, lt_f, eq_t, eq_f, nq_t, nq_f, nl_t, nl_f, and_true, true_and, and_false, false_and, not_true_eq_false, not_false_eq_true, or_false, false_or, az_tag, al_tag, az_get, az_put, am_bh_wz, gX, gT, gW, gS, gA, gL, gM, gE, gN, gX_11, gX_1, gX_2, gT_1, gW_0, gW_1, gW_2, gW_3, gW_12, gW_13, gA_1, gL_1, gE_3, gM_0, gM_1, gM_2, gM_3, gN_0, gN_2, gN_3, gN_4, gN_5, gN_10, gN_11, gN_17, gN_18, gN_23, gN_24, gN_29, gN_35, gN_36, gN_42, am_p_p, Int.toNat_natCast, aq_tag, am_rq_c, am_bh_wq, aq_get3, aq_get4, aq_put3, Int.reduceAdd, Int.reduceSub, Int.reduceMul, Int.reduceToNat, c136, s136_0, s136_1, s136_2, s136_5, s136_6, s136_7, s136_10, s136_13, s136_14, s136_15, s136_18, s136_21, s136_22, s136_23, s136_26, s136_29, s136_30, s136_32, s136_35, s136_38, s136_39, s136_40, s136_41, s136_44, s136_45, s136_48, s136_49, s136_52, s136_53, s136_56, s136_59, s136_61, s136_62, s136_63, s136_64, s136_65, s136_66, s136_68, s136_69, s136_72, s136_75, s136_77, s136_79, s136_81, s136_84, s136_86, s136_89, s136_91, e0, eA, y0, px, py]
    · rw [if_neg q1] at px
      simp (disch := omega) only [am_bv_some, am_bi_int, am_bl_long, am_br_ref, am_bc_some, am_bq_some, am_gf_c, am_rd_c, am_bh_pf, am_bh_wr, am_g_p, ob_get, ob_put, ar_get, ar_put, ob_tag, ar_tag, i_zero, i_add, i_sub, i_mul, i_lt, i_le, i_eq, i_val, if_pos, if_neg, Option.toList_some, Option.toList_none, List.cons_append, List.nil_append, beq_self_eq_true, true_or, or_true, up_at, up_ne, ↓reduceIte, Nat.reduceEqDiff, le_t, le_f, lt_t, lt_f, eq_t, eq_f, nq_t, nq_f, nl_t, nl_f, and_true, true_and, and_false, false_and, not_true_eq_false, not_false_eq_true, or_false, false_or, az_tag, al_tag, az_get, az_put, am_bh_wz, gX, gT, gW, gS, gA, gL, gM, gE, gN, gX_11, gX_1, gX_2, gT_1, gW_0, gW_1, gW_2, gW_3, gW_12, gW_13, gA_1, gL_1, gE_3, gM_0, gM_1, gM_2, gM_3, gN_0, gN_2, gN_3, gN_4, gN_5, gN_10, gN_11, gN_17, gN_18, gN_23, gN_24, gN_29, gN_35, gN_36, gN_42, am_p_p, Int.toNat_natCast, aq_tag, am_rq_c, am_bh_wq, aq_get3, aq_get4, aq_put3, Int.reduceAdd, Int.reduceSub, Int.reduceMul, Int.reduceToNat, c136, s136_0, s136_1, s136_2, s136_5, s136_6, s136_7, s136_10, s136_13, s136_14, s136_15, s136_18, s136_21, s136_22, s136_23, s136_26, s136_29, s136_30, s136_32, s136_35, s136_38, s136_39, s136_40, s136_41, s136_44, s136_45, s136_48, s136_49, s136_52, s136_53, s136_56, s136_59, s136_61, s136_62, s136_63, s136_64, s136_65, s136_66, s136_68, s136_69, s136_72, s136_75, s136_77, s136_79, s136_81, s136_84, s136_86, s136_89, s136_91, e0, eA, y0, px]
def aloneR (S : Nat → Nat → Int) (x z w : Int) : Int := if (0 ≤ x ∧ x < S 1 3) ∧ (0 ≤ z ∧ z < S 1 1) ∧ 0 ≤ w ∧ w < S 1 1 then onn (alm (dl S z.toNat w.toNat) (S 6 x.toNat)) else -1
theorem x_alone (d c : Nat) (A : am_H) (S : Nat → Nat → Int) (sd : Int64) (x z w : Int) (h : XI A S sd) (hR : RR S c) (hx : -2147483648 ≤ x ∧ x ≤ 2147483647) (hz : -2147483648 ≤ z ∧ z ≤ 2147483647) (hw : -2147483648 ≤ w ∧ w ≤ 2147483647) : ∃ A', am_call (d + 20) 82 [.ref 1, .int (Int32.ofInt x), .int (Int32.ofInt z), .int (Int32.ofInt w)] A = some (some (.int (Int32.ofInt (aloneR S x z w))), A') ∧ XI A' S sd ∧ FX A A' := by
  have hI := h
  have hR' := hR
  obtain ⟨t, u, q, ap, hA, hT, hP, hUu, hS, hB, hK, hE, hM, hQ, hNn, hW⟩ := h
  have htu := hA.2.1
  have a1 := hA.1
  have a2 := hA.2.2.1
  have a3 := hA.2.2.2
  obtain ⟨⟨kd, fe, t0⟩, t1, t2, t3, t4, ⟨tst, t5⟩, t6, t7, t8⟩ := id hT
  obtain ⟨n0, n1, n2, n3⟩ := id hNn
  obtain ⟨s0, s1, s2, s3⟩ := id hS
  obtain ⟨⟨g1, g2, g3, g4, g5, g6, g7, g8, g9, g10, g11, g12, g13⟩, ⟨w1, w2, w3, w4⟩, g14, g15, g16, g17, g18⟩ := id hR
  have px := fun d => p_hasPerson d A t _ _ _ _ _ _ x t0 g4 hx
  have pz := fun d => p_hasCorner d A t _ _ _ _ _ _ z t0 (by omega) hz
  have pw := fun d => p_hasCorner d A t _ _ _ _ _ _ w t0 (by omega) hw
  refine ⟨A, ?_, hI, fun _ _ => rfl⟩
  unfold aloneR
  by_cases q0 : (0 ≤ x ∧ x < S 1 3) ∧ (0 ≤ z ∧ z < S 1 1) ∧ 0 ≤ w ∧ w < S 1 1
  · rw [if_pos q0]
    obtain ⟨q1, q3, q4⟩ := q0
    rw [if_pos q1] at px
    rw [if_pos q3] at pz
    rw [if_pos q4] at pw
    obtain ⟨a, rfl⟩ : ∃ a : Nat, x = (a : Int) := ⟨x.toNat, by omega⟩
    obtain ⟨s, rfl⟩ : ∃ s : Nat, z = (s : Int) := ⟨z.toNat, by omega⟩
    obtain ⟨g, rfl⟩ : ∃ g : Nat, w = (g : Int) := ⟨w.toNat, by omega⟩
    simp only [Int.toNat_natCast]
    have ea : ap (6 * s + g) = dl S s g := hP s g q3.2 q4.2 (by omega)
    have r9 := dl_rng9 hR' s g
    have ra := alm_rng hR' q1.2 s g
    have pa := fun d => p_aloneMinutes d A t a s g _ _ _ _ _ _ (S 6) ap t0 t6 t8 (by omega) (by omega) (by omega) (by omega)
    rw [ea] at pa
    have po := fun d => p_orNone d A (alm (dl S s g) (S 6 a)) (by omega)
    simp (disch := omega) only [am_bv_some, am_bi_int, am_bl_long, am_br_ref, am_bc_some, am_bq_some, am_gf_c, am_rd_c, am_bh_pf, am_bh_wr, am_g_p, ob_get, ob_put, ar_get, ar_put, ob_tag, ar_tag, i_zero, i_add, i_sub, i_mul, i_lt, i_le, i_eq, i_val, if_pos, if_neg, Option.toList_some, Option.toList_none, List.cons_append, List.nil_append, beq_self_eq_true, true_or, or_true, up_at, up_ne, ↓reduceIte, Nat.reduceEqDiff, le_t, le_f, lt_t, lt_f, eq_t, eq_f, nq_t, nq_f, nl_t, nl_f, and_true, true_and, and_false, false_and, not_true_eq_false, not_false_eq_true, or_false, false_or, az_tag, al_tag, az_get, az_put, am_bh_wz, gX, gT, gW, gS, gA, gL, gM, gE, gN, gX_11, gX_1, gX_2, gT_1, gW_0, gW_1, gW_2, gW_3, gW_12, gW_13, gA_1, gL_1, gE_3, gM_0, gM_1, gM_2, gM_3, gN_0, gN_2, gN_3, gN_4, gN_5, gN_10, gN_11, gN_17, gN_18, gN_23, gN_24, gN_29, gN_35, gN_36, gN_42, am_p_p, Int.toNat_natCast, aq_tag, am_rq_c, am_bh_wq, aq_get3, aq_get4, aq_put3, Int.reduceAdd, Int.reduceSub, Int.reduceMul, Int.reduceToNat, c82, s82_0, s82_1, s82_4, s82_5, s82_8, s82_11, s82_12, s82_15, s82_16, s82_19, s82_22, s82_23, s82_26, s82_27, s82_30, s82_33, s82_34, s82_35, s82_36, s82_39, s82_40, s82_41, s82_42, s82_45, s82_48, a1, px, pz, pw, pa, po]
  · rw [if_neg q0]
    by_cases q1 : 0 ≤ x ∧ x < S 1 3
    · rw [if_pos q1] at px
      by_cases q3 : 0 ≤ z ∧ z < S 1 1
      · rw [if_pos q3] at pz
        rw [if_neg (fun e => q0 ⟨q1, q3, e⟩)] at pw
        simp (disch := omega) only [am_bv_some, am_bi_int, am_bl_long, am_br_ref, am_bc_some, am_bq_some, am_gf_c, am_rd_c, am_bh_pf, am_bh_wr, am_g_p, ob_get, ob_put, ar_get, ar_put, ob_tag, ar_tag, i_zero, i_add, i_sub, i_mul, i_lt, i_le, i_eq, i_val, if_pos, if_neg, Option.toList_some, Option.toList_none, List.cons_append, List.nil_append, beq_self_eq_true, true_or, or_true, up_at, up_ne, ↓reduceIte, Nat.reduceEqDiff, le_t, le_f, lt_t, lt_f, eq_t, eq_f, nq_t, nq_f, nl_t, nl_f, and_true, true_and, and_false, false_and, not_true_eq_false, not_false_eq_true, or_false, false_or, az_tag, al_tag, az_get, az_put, am_bh_wz, gX, gT, gW, gS, gA, gL, gM, gE, gN, gX_11, gX_1, gX_2, gT_1, gW_0, gW_1, gW_2, gW_3, gW_12, gW_13, gA_1, gL_1, gE_3, gM_0, gM_1, gM_2, gM_3, gN_0, gN_2, gN_3, gN_4, gN_5, gN_10, gN_11, gN_17, gN_18, gN_23, gN_24, gN_29, gN_35, gN_36, gN_42, am_p_p, Int.toNat_natCast, aq_tag, am_rq_c, am_bh_wq, aq_get3, aq_get4, aq_put3, Int.reduceAdd, Int.reduceSub, Int.reduceMul, Int.reduceToNat, c82, s82_0, s82_1, s82_4, s82_5, s82_8, s82_11, s82_12, s82_15, s82_16, s82_19, s82_22, s82_23, s82_26, s82_27, s82_30, s82_33, s82_34, s82_35, s82_36, s82_39, s82_40, s82_41, s82_42, s82_45, s82_48, a1, px, pz, pw]
      · rw [if_neg q3] at pz
        simp (disch := omega) only [am_bv_some, am_bi_int, am_bl_long, am_br_ref, am_bc_some, am_bq_some, am_gf_c, am_rd_c, am_bh_pf, am_bh_wr, am_g_p, ob_get, ob_put, ar_get, ar_put, ob_tag, ar_tag, i_zero, i_add, i_sub, i_mul, i_lt, i_le, i_eq, i_val, if_pos, if_neg, Option.toList_some, Option.toList_none, List.cons_append, List.nil_append, beq_self_eq_true, true_or, or_true, up_at, up_ne, ↓reduceIte, Nat.reduceEqDiff, le_t, le_f, lt_t, lt_f, eq_t, eq_f, nq_t, nq_f, nl_t, nl_f, and_true, true_and, and_false, false_and, not_true_eq_false, not_false_eq_true, or_false, false_or, az_tag, al_tag, az_get, az_put, am_bh_wz, gX, gT, gW, gS, gA, gL, gM, gE, gN, gX_11, gX_1, gX_2, gT_1, gW_0, gW_1, gW_2, gW_3, gW_12, gW_13, gA_1, gL_1, gE_3, gM_0, gM_1, gM_2, gM_3, gN_0, gN_2, gN_3, gN_4, gN_5, gN_10, gN_11, gN_17, gN_18, gN_23, gN_24, gN_29, gN_35, gN_36, gN_42, am_p_p, Int.toNat_natCast, aq_tag, am_rq_c, am_bh_wq, aq_get3, aq_get4, aq_put3, Int.reduceAdd, Int.reduceSub, Int.reduceMul, Int.reduceToNat, c82, s82_0, s82_1, s82_4, s82_5, s82_8, s82_11, s82_12, s82_15, s82_16, s82_19, s82_22, s82_23, s82_26, s82_27, s82_30, s82_33, s82_34, s82_35, s82_36, s82_39, s82_40, s82_41, s82_42, s82_45, s82_48, a1, px, pz]
    · rw [if_neg q1] at px
      simp (disch := omega) only [am_bv_some, am_bi_int, am_bl_long, am_br_ref, am_bc_some, am_bq_some, am_gf_c, am_rd_c, am_bh_pf, am_bh_wr, am_g_p, ob_get, ob_put, ar_get, ar_put, ob_tag, ar_tag, i_zero, i_add, i_sub, i_mul, i_lt, i_le, i_eq, i_val, if_pos, if_neg, Option.toList_some, Option.toList_none, List.cons_append, List.nil_append, beq_self_eq_true, true_or, or_true, up_at, up_ne, ↓reduceIte, Nat.reduceEqDiff, le_t, le_f, lt_t, lt_f, eq_t, eq_f, nq_t, nq_f, nl_t, nl_f, and_true, true_and, and_false, false_and, not_true_eq_false, not_false_eq_true, or_false, false_or, az_tag, al_tag, az_get, az_put, am_bh_wz, gX, gT, gW, gS, gA, gL, gM, gE, gN, gX_11, gX_1, gX_2, gT_1, gW_0, gW_1, gW_2, gW_3, gW_12, gW_13, gA_1, gL_1, gE_3, gM_0, gM_1, gM_2, gM_3, gN_0, gN_2, gN_3, gN_4, gN_5, gN_10, gN_11, gN_17, gN_18, gN_23, gN_24, gN_29, gN_35, gN_36, gN_42, am_p_p, Int.toNat_natCast, aq_tag, am_rq_c, am_bh_wq, aq_get3, aq_get4, aq_put3, Int.reduceAdd, Int.reduceSub, Int.reduceMul, Int.reduceToNat, c82, s82_0, s82_1, s82_4, s82_5, s82_8, s82_11, s82_12, s82_15, s82_16, s82_19, s82_22, s82_23, s82_26, s82_27, s82_30, s82_33, s82_34, s82_35, s82_36, s82_39, s82_40, s82_41, s82_42, s82_45, s82_48, a1, px]
theorem m_alone (d c : Nat) (A : am_H) (S : Nat → Nat → Int) (sd : Int64) (mt : Nat → Int) (x z w : Int) (h' : MI A S sd mt) (hR : RR S c) (hx : -2147483648 ≤ x ∧ x ≤ 2147483647) (hz : -2147483648 ≤ z ∧ z ≤ 2147483647) (hw : -2147483648 ≤ w ∧ w ≤ 2147483647) : ∃ A', am_call (d + 20) 137 [.ref 105, .int (Int32.ofInt x), .int (Int32.ofInt z), .int (Int32.ofInt w)] A = some (some (.int (Int32.ofInt (aloneR S x z w))), A') ∧ MI A' S sd mt ∧ FM A A' := by
  obtain ⟨A0, N0, e0, eA, h, hFM⟩ := m_thrown h'
  have h0 := h
  have hR' := hR
  obtain ⟨N, fr, to, fa, be, pa, go, bk, ke, hA, hT, hS, hRr, hB, hK, hQ, hNn⟩ := h
  obtain ⟨y0, y2, y4, y5, y10, y11, y29, y36, y106⟩ := id hA
  obtain ⟨y107, y108, y109, y110, y111, y112, yK, yP⟩ := id hT
  obtain ⟨y113, y114, y115⟩ := id hS
  obtain ⟨y123, yB⟩ := id hB
  obtain ⟨y124, yKe, y125⟩ := id hK
  obtain ⟨y129, y130, y131⟩ := id hNn
  obtain ⟨⟨g1, g2, g3, g4, g5, g6, g7, g8, g9, g10, g11, g12, g13⟩, ⟨w1, w2, w3, w4⟩, g14, g15, g16, g17, g18⟩ := id hR
  have px := fun d => m_noOne d A0 N sd x y0 (by omega) hx
  have pz := fun d => m_noCorner d A0 N sd z y0 (by omega) hz
  have pw := fun d => m_noCorner d A0 N sd w y0 (by omega) hw
  rw [y10] at px
  rw [y4] at pz pw
  unfold aloneR
  by_cases q0 : (0 ≤ x ∧ x < S 1 3) ∧ (0 ≤ z ∧ z < S 1 1) ∧ 0 ≤ w ∧ w < S 1 1
  · rw [if_pos q0]
    obtain ⟨q1, q3, q4⟩ := q0
    rw [if_pos q1] at px
    rw [if_pos q3] at pz
    rw [if_pos q4] at pw
    obtain ⟨a, rfl⟩ : ∃ a : Nat, x = (a : Int) := ⟨x.toNat, by omega⟩
    obtain ⟨s, rfl⟩ : ∃ s : Nat, z = (s : Int) := ⟨z.toNat, by omega⟩
    obtain ⟨g, rfl⟩ : ∃ g : Nat, w = (g : Int) := ⟨w.toNat, by omega⟩
    simp only [Int.toNat_natCast]
    obtain ⟨f8, k8⟩ := hQ.2.2.1
    obtain ⟨A', r1, r2, r3⟩ := m_wayP (d + 16) c a s g A0 S (S 1 4) N sd fr to fa be pa go f8 hR' y0 y5 hT k8 q1.2 q3.2 (by omega)
    refine ⟨A', ?_, h0.way r3 r2, fun i hi => (r3 i (by omega)).trans (hFM i hi)⟩
    have rg := alm_rng hR' q1.2 s g
    rw [← dz_onn (by omega)]
    have rg2 : 0 ≤ dz 999999 (alm (dl S s g) (S 6 a)) ∧ dz 999999 (alm (dl S s g) (S 6 a)) ≤ 999999 := by unfold dz; split <;> omega
    generalize dz 999999 (alm (dl S s g) (S 6 a)) = v at r1 rg2 ⊢
    by_cases q6 : v = 999999
    · rw [if_pos q6]
      simp (disch := omega) only [am_bv_some, am_bi_int, am_bl_long, am_br_ref, am_bc_some, am_bq_some, am_gf_c, am_rd_c, am_bh_pf, am_bh_wr, am_g_p, ob_get, ob_put, ar_get, ar_put, ob_tag, ar_tag, i_zero, i_add, i_sub, i_mul, i_lt, i_le, i_eq, i_val, if_pos, if_neg, Option.toList_some, Option.toList_none, List.cons_append, List.nil_append, beq_self_eq_true, true_or, or_true, up_at, up_ne, ↓reduceIte, Nat.reduceEqDiff, le_t, le_f, lt_t, lt_f, eq_t, eq_f, nq_t, nq_f, nl_t, nl_f, and_true, true_and, and_false, false_and, not_true_eq_false, not_false_eq_true, or_false, false_or, az_tag, al_tag, az_get, az_put, am_bh_wz, gX, gT, gW, gS, gA, gL, gM, gE, gN, gX_11, gX_1, gX_2, gT_1, gW_0, gW_1, gW_2, gW_3, gW_12, gW_13, gA_1, gL_1, gE_3, gM_0, gM_1, gM_2, gM_3, gN_0, gN_2, gN_3, gN_4, gN_5, gN_10, gN_11, gN_17, gN_18, gN_23, gN_24, gN_29, gN_35, gN_36, gN_42, am_p_p, Int.toNat_natCast, aq_tag, am_rq_c, am_bh_wq, aq_get3, aq_get4, aq_put3, Int.reduceAdd, Int.reduceSub, Int.reduceMul, Int.reduceToNat, c137, s137_0, s137_1, s137_2, s137_5, s137_6, s137_7, s137_10, s137_13, s137_14, s137_15, s137_18, s137_21, s137_22, s137_23, s137_26, s137_29, s137_30, s137_31, s137_32, s137_33, s137_34, s137_35, s137_36, s137_37, s137_40, s137_43, s137_45, s137_47, s137_49, s137_52, s137_54, s137_57, s137_59, e0, eA, y0, y11, px, pz, pw, r1]
    · rw [if_neg q6]
      simp (disch := omega) only [am_bv_some, am_bi_int, am_bl_long, am_br_ref, am_bc_some, am_bq_some, am_gf_c, am_rd_c, am_bh_pf, am_bh_wr, am_g_p, ob_get, ob_put, ar_get, ar_put, ob_tag, ar_tag, i_zero, i_add, i_sub, i_mul, i_lt, i_le, i_eq, i_val, if_pos, if_neg, Option.toList_some, Option.toList_none, List.cons_append, List.nil_append, beq_self_eq_true, true_or, or_true, up_at, up_ne, ↓reduceIte, Nat.reduceEqDiff, le_t, le_f, lt_t, lt_f, eq_t, eq_f, nq_t, nq_f, nl_t, nl_f, and_true, true_and, and_false, false_and, not_true_eq_false, not_false_eq_true, or_false, false_or, az_tag, al_tag, az_get, az_put, am_bh_wz, gX, gT, gW, gS, gA, gL, gM, gE, gN, gX_11, gX_1, gX_2, gT_1, gW_0, gW_1, gW_2, gW_3, gW_12, gW_13, gA_1, gL_1, gE_3, gM_0, gM_1, gM_2, gM_3, gN_0, gN_2, gN_3, gN_4, gN_5, gN_10, gN_11, gN_17, gN_18, gN_23, gN_24, gN_29, gN_35, gN_36, gN_42, am_p_p, Int.toNat_natCast, aq_tag, am_rq_c, am_bh_wq, aq_get3, aq_get4, aq_put3, Int.reduceAdd, Int.reduceSub, Int.reduceMul, Int.reduceToNat, c137, s137_0, s137_1, s137_2, s137_5, s137_6, s137_7, s137_10, s137_13, s137_14, s137_15, s137_18, s137_21, s137_22, s137_23, s137_26, s137_29, s137_30, s137_31, s137_32, s137_33, s137_34, s137_35, s137_36, s137_37, s137_40, s137_43, s137_45, s137_47, s137_49, s137_52, s137_54, s137_57, s137_59, e0, eA, y0, y11, px, pz, pw, r1]
  · rw [if_neg q0]
    refine ⟨A0, ?_, h0, hFM⟩
    by_cases q1 : 0 ≤ x ∧ x < S 1 3
    · rw [if_pos q1] at px
      by_cases q3 : 0 ≤ z ∧ z < S 1 1
      · rw [if_pos q3] at pz
        rw [if_neg (fun e => q0 ⟨q1, q3, e⟩)] at pw
        simp (disch := omega) only [am_bv_some, am_bi_int, am_bl_long, am_br_ref, am_bc_some, am_bq_some, am_gf_c, am_rd_c, am_bh_pf, am_bh_wr, am_g_p, ob_get, ob_put, ar_get, ar_put, ob_tag, ar_tag, i_zero, i_add, i_sub, i_mul, i_lt, i_le, i_eq, i_val, if_pos, if_neg, Option.toList_some, Option.toList_none, List.cons_append, List.nil_append, beq_self_eq_true, true_or, or_true, up_at, up_ne, ↓reduceIte, Nat.reduceEqDiff, le_t, le_f, lt_t, lt_f, eq_t, eq_f, nq_t, nq_f, nl_t, nl_f, and_true, true_and, and_false, false_and, not_true_eq_false, not_false_eq_true, or_false, false_or, az_tag, al_tag, az_get, az_put, am_bh_wz, gX, gT, gW, gS, gA, gL, gM, gE, gN, gX_11, gX_1, gX_2, gT_1, gW_0, gW_1, gW_2, gW_3, gW_12, gW_13, gA_1, gL_1, gE_3, gM_0, gM_1, gM_2, gM_3, gN_0, gN_2, gN_3, gN_4, gN_5, gN_10, gN_11, gN_17, gN_18, gN_23, gN_24, gN_29, gN_35, gN_36, gN_42, am_p_p, Int.toNat_natCast, aq_tag, am_rq_c, am_bh_wq, aq_get3, aq_get4, aq_put3, Int.reduceAdd, Int.reduceSub, Int.reduceMul, Int.reduceToNat, c137, s137_0, s137_1, s137_2, s137_5, s137_6, s137_7, s137_10, s137_13, s137_14, s137_15, s137_18, s137_21, s137_22, s137_23, s137_26, s137_29, s137_30, s137_31, s137_32, s137_33, s137_34, s137_35, s137_36, s137_37, s137_40, s137_43, s137_45, s137_47, s137_49, s137_52, s137_54, s137_57, s137_59, e0, eA, y0, px, pz, pw]
      · rw [if_neg q3] at pz
        simp (disch := omega) only [am_bv_some, am_bi_int, am_bl_long, am_br_ref, am_bc_some, am_bq_some, am_gf_c, am_rd_c, am_bh_pf, am_bh_wr, am_g_p, ob_get, ob_put, ar_get, ar_put, ob_tag, ar_tag, i_zero, i_add, i_sub, i_mul, i_lt, i_le, i_eq, i_val, if_pos, if_neg, Option.toList_some, Option.toList_none, List.cons_append, List.nil_append, beq_self_eq_true, true_or, or_true, up_at, up_ne, ↓reduceIte, Nat.reduceEqDiff, le_t, le_f, lt_t, lt_f, eq_t, eq_f, nq_t, nq_f, nl_t, nl_f, and_true, true_and, and_false, false_and, not_true_eq_false, not_false_eq_true, or_false, false_or, az_tag, al_tag, az_get, az_put, am_bh_wz, gX, gT, gW, gS, gA, gL, gM, gE, gN, gX_11, gX_1, gX_2, gT_1, gW_0, gW_1, gW_2, gW_3, gW_12, gW_13, gA_1, gL_1, gE_3, gM_0, gM_1, gM_2, gM_3, gN_0, gN_2, gN_3, gN_4, gN_5, gN_10, gN_11, gN_17, gN_18, gN_23, gN_24, gN_29, gN_35, gN_36, gN_42, am_p_p, Int.toNat_natCast, aq_tag, am_rq_c, am_bh_wq, aq_get3, aq_get4, aq_put3, Int.reduceAdd, Int.reduceSub, Int.reduceMul, Int.reduceToNat, c137, s137_0, s137_1, s137_2, s137_5, s137_6, s137_7, s137_10, s137_13, s137_14, s137_15, s137_18, s137_21, s137_22, s137_23, s137_26, s137_29, s137_30, s137_31, s137_32, s137_33, s137_34, s137_35, s137_36, s137_37, s137_40, s137_43, s137_45, s137_47, s137_49, s137_52, s137_54, s137_57, s137_59, e0, eA, y0, px, pz]
    · rw [if_neg q1] at px
      simp (disch := omega) only [am_bv_some, am_bi_int, am_bl_long, am_br_ref, am_bc_some, am_bq_some, am_gf_c, am_rd_c, am_bh_pf, am_bh_wr, am_g_p, ob_get, ob_put, ar_get, ar_put, ob_tag, ar_tag, i_zero, i_add, i_sub, i_mul, i_lt, i_le, i_eq, i_val, if_pos, if_neg, Option.toList_some, Option.toList_none, List.cons_append, List.nil_append, beq_self_eq_true, true_or, or_true, up_at, up_ne, ↓reduceIte, Nat.reduceEqDiff, le_t, le_f, lt_t, lt_f, eq_t, eq_f, nq_t, nq_f, nl_t, nl_f, and_true, true_and, and_false, false_and, not_true_eq_false, not_false_eq_true, or_false, false_or, az_tag, al_tag, az_get, az_put, am_bh_wz, gX, gT, gW, gS, gA, gL, gM, gE, gN, gX_11, gX_1, gX_2, gT_1, gW_0, gW_1, gW_2, gW_3, gW_12, gW_13, gA_1, gL_1, gE_3, gM_0, gM_1, gM_2, gM_3, gN_0, gN_2, gN_3, gN_4, gN_5, gN_10, gN_11, gN_17, gN_18, gN_23, gN_24, gN_29, gN_35, gN_36, gN_42, am_p_p, Int.toNat_natCast, aq_tag, am_rq_c, am_bh_wq, aq_get3, aq_get4, aq_put3, Int.reduceAdd, Int.reduceSub, Int.reduceMul, Int.reduceToNat, c137, s137_0, s137_1, s137_2, s137_5, s137_6, s137_7, s137_10, s137_13, s137_14, s137_15, s137_18, s137_21, s137_22, s137_23, s137_26, s137_29, s137_30, s137_31, s137_32, s137_33, s137_34, s137_35, s137_36, s137_37, s137_40, s137_43, s137_45, s137_47, s137_49, s137_52, s137_54, s137_57, s137_59, e0, eA, y0, px]
