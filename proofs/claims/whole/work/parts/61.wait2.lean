theorem XI.scr {A A' : am_H} {S : Nat → Nat → Int} {sd : Int64} (h : XI A S sd) (hg : ∀ i, (i < 77 ∨ 88 ≤ i ∧ i < 92 ∨ 95 ≤ i) → am_g A' i = am_g A i) (kE : XE A') (kM : XM A') (kQ : XQ A') (kW : XW A') : XI A' S sd := by
  obtain ⟨t, u, q, ap, hA, hT, hP, hUu, hS, hB, hK, hE, hM, hQ, hNn, hW⟩ := h
  have htu := hA.2.1
  have a1 := hA.1
  have a2 := hA.2.2.1
  have a3 := hA.2.2.2
  obtain ⟨⟨kd, fe, t0⟩, t1, t2, t3, t4, ⟨tst, t5⟩, t6, t7, t8⟩ := id hT
  obtain ⟨n0, n1, n2, n3⟩ := id hNn
  obtain ⟨s0, s1, s2, s3⟩ := id hS
  have hTS : TS S S := TS.rf S
  exact ⟨t, u, q, ap, hA.congr (fun i a b => hg i (by omega)) rfl rfl, hT.congr (fun i a => hg _ (by omega)) hTS, hP.congr hTS, hUu.congr (fun i a => hg _ (by omega)), hS.congr (fun i a b => hg i (by omega)) rfl rfl rfl, hB.congr (fun i a b => hg i (by omega)) rfl (fun _ _ => rfl), hK.congr (fun i a => hg i (by omega)) rfl rfl (fun _ _ _ => rfl), kE, kM, kQ, hNn.congr (fun i a b => hg i (by omega)) rfl rfl rfl rfl, kW⟩
theorem p_inLeastTerms (d n V T : Nat) (A : am_H) (u : Int) (fa fb : Nat → Int64) (h0 : am_g A 92 = ob 9 2 (gS 92)) (h1 : am_g A 93 = al 9 fa) (h2 : am_g A 94 = al 9 fb) (hn : n ≤ 8) (e1 : fa n = Int64.ofInt (V : Int)) (e2 : fb n = Int64.ofInt (T : Int)) (hV : V ≤ 1000000000000) (hT : 0 < T ∧ T ≤ 100000000) (hu : u = 0 ∨ u = 1) : am_call (d + 1) 67 [.ref 92, .int (Int32.ofInt (n : Int)), .int (Int32.ofInt u)] A = some (some (.long (Int64.ofInt ((if u = 0 then (T : Int) else (V : Int)) / ((Nat.gcd V T : Nat) : Int)))), A) := by
  have pg := fun d => p_gd d A V T hV hT
  have hG1 : 0 < Nat.gcd V T := Nat.gcd_pos_of_pos_right _ hT.1
  have hG2 : Nat.gcd V T ≤ T := Nat.gcd_le_right _ hT.1
  generalize Nat.gcd V T = G at pg hG1 hG2 ⊢
  have hz := l_nz (b := (G : Int)) (by omega) (by omega)
  rcases hu with rfl | rfl
  · rw [if_pos rfl]
    simp (disch := first | omega | assumption) only [am_bv_some, am_bi_int, am_bl_long, am_br_ref, am_bc_some, am_bq_some, am_gf_c, am_rd_c, am_bh_pf, am_bh_wr, am_g_p, ob_get, ob_put, ar_get, ar_put, ob_tag, ar_tag, i_zero, i_add, i_sub, i_mul, i_lt, i_le, i_eq, i_val, if_pos, if_neg, Option.toList_some, Option.toList_none, List.cons_append, List.nil_append, beq_self_eq_true, true_or, or_true, up_at, up_ne, ↓reduceIte, Nat.reduceEqDiff, le_t, le_f, lt_t, lt_f, eq_t, eq_f, nq_t, nq_f, nl_t, nl_f, and_true, true_and, and_false, false_and, not_true_eq_false, not_false_eq_true, or_false, false_or, az_tag, al_tag, az_get, az_put, am_bh_wz, gX, gT, gW, gS, gA, gL, gM, gE, gN, gX_11, gX_1, gX_2, gT_1, gW_0, gW_1, gW_2, gW_3, gW_12, gW_13, gA_1, gL_1, gE_3, gM_0, gM_1, gM_2, gM_3, gN_0, gN_2, gN_3, gN_4, gN_5, gN_10, gN_11, gN_17, gN_18, gN_23, gN_24, gN_29, gN_35, gN_36, gN_42, am_p_p, Int.toNat_natCast, aq_tag, am_rq_c, am_bh_wq, aq_get3, aq_get4, aq_put3, Int.reduceAdd, Int.reduceSub, Int.reduceMul, Int.reduceToNat, c67, s67_0, s67_1, s67_4, s67_5, s67_6, s67_7, s67_10, s67_11, s67_12, s67_15, s67_16, s67_17, s67_20, s67_21, s67_24, s67_25, s67_26, s67_29, s67_30, s67_33, s67_34, s67_35, s67_36, s67_37, h0, h1, h2, al_get, e1, e2, pg, l_div]
  · rw [if_neg (by decide)]
    simp (disch := first | omega | assumption) only [am_bv_some, am_bi_int, am_bl_long, am_br_ref, am_bc_some, am_bq_some, am_gf_c, am_rd_c, am_bh_pf, am_bh_wr, am_g_p, ob_get, ob_put, ar_get, ar_put, ob_tag, ar_tag, i_zero, i_add, i_sub, i_mul, i_lt, i_le, i_eq, i_val, if_pos, if_neg, Option.toList_some, Option.toList_none, List.cons_append, List.nil_append, beq_self_eq_true, true_or, or_true, up_at, up_ne, ↓reduceIte, Nat.reduceEqDiff, le_t, le_f, lt_t, lt_f, eq_t, eq_f, nq_t, nq_f, nl_t, nl_f, and_true, true_and, and_false, false_and, not_true_eq_false, not_false_eq_true, or_false, false_or, az_tag, al_tag, az_get, az_put, am_bh_wz, gX, gT, gW, gS, gA, gL, gM, gE, gN, gX_11, gX_1, gX_2, gT_1, gW_0, gW_1, gW_2, gW_3, gW_12, gW_13, gA_1, gL_1, gE_3, gM_0, gM_1, gM_2, gM_3, gN_0, gN_2, gN_3, gN_4, gN_5, gN_10, gN_11, gN_17, gN_18, gN_23, gN_24, gN_29, gN_35, gN_36, gN_42, am_p_p, Int.toNat_natCast, aq_tag, am_rq_c, am_bh_wq, aq_get3, aq_get4, aq_put3, Int.reduceAdd, Int.reduceSub, Int.reduceMul, Int.reduceToNat, c67, s67_0, s67_1, s67_4, s67_5, s67_6, s67_7, s67_10, s67_11, s67_12, s67_15, s67_16, s67_17, s67_20, s67_21, s67_24, s67_25, s67_26, s67_29, s67_30, s67_33, s67_34, s67_35, s67_36, s67_37, h0, h1, h2, al_get, e1, e2, pg, l_div]
def waitsOk (g h n x : Int) : Prop := (0 ≤ g ∧ g ≤ 99) ∧ (0 ≤ h ∧ h ≤ 99) ∧ (0 ≤ n ∧ n ≤ 8) ∧ 0 ≤ x ∧ x ≤ 10
noncomputable def waitsR (g h n x u : Int) : Int := @ite _ (waitsOk g h n x) (Classical.propDecidable _) ((if u = 0 then ((10 ^ n.toNat : Nat) : Int) else (((wA g h x n.toNat).toNat : Nat) : Int)) / ((Nat.gcd (wA g h x n.toNat).toNat (10 ^ n.toNat) : Nat) : Int)) (-2)
theorem x_waits (d c : Nat) (A : am_H) (S : Nat → Nat → Int) (sd : Int64) (g h n x u : Int) (hI : XI A S sd) (hR : RR S c) (hg : -2147483648 ≤ g ∧ g ≤ 2147483647) (hh : -2147483648 ≤ h ∧ h ≤ 2147483647) (hn : -2147483648 ≤ n ∧ n ≤ 2147483647) (hx : -2147483648 ≤ x ∧ x ≤ 2147483647) (hu : u = 0 ∨ u = 1) : ∃ A', am_call (d + 20) 93 [.ref 1, .int (Int32.ofInt g), .int (Int32.ofInt h), .int (Int32.ofInt n), .int (Int32.ofInt x), .int (Int32.ofInt u)] A = some (some (.long (Int64.ofInt (waitsR g h n x u))), A') ∧ XI A' S sd ∧ FX A A' := by
  have pg := fun d => p_areMinutes d A g hg
  have ph := fun d => p_areMinutes d A h hh
  have px := fun d => p_areTenths d A x hx
  obtain ⟨t, v, q, ap, hA, -, -, -, -, -, -, hE, hM, hQ, -, hW⟩ := id hI
  have a1 := hA.1
  unfold waitsR
  by_cases q0 : waitsOk g h n x
  · rw [if_pos q0]
    obtain ⟨q1, q2, q3, q4⟩ := q0
    obtain ⟨m, rfl⟩ : ∃ m : Nat, n = (m : Int) := ⟨n.toNat, by omega⟩
    rw [Int.toNat_natCast]
    obtain ⟨A', r1, r2⟩ := p_reckon (d + 19) A g h x q1 q4 q2 hW
    have rw1 := wA_le q1 q2 q4 (w := m) (by omega)
    have b1 : am_g A' 1 = ob 10 12 (gX t v sd) := by rw [r2, if_neg (by omega), if_neg (by omega)]; exact a1
    have b2 : am_g A' 92 = ob 9 2 (gS 92) := by rw [r2, if_neg (by omega), if_neg (by omega)]; exact hW.1
    have b3 : am_g A' 93 = al 9 (fun j => Int64.ofInt (wA g h x j)) := by rw [r2, if_pos rfl]
    have b4 : am_g A' 94 = al 9 (fun j => Int64.ofInt (10 ^ j)) := by rw [r2, if_neg (by omega), if_pos rfl]
    have hT : (((10 : Nat) ^ m : Nat) : Int) = 10 ^ m := by rw [Int.natCast_pow]; rfl
    have hT1 := ten_pos m
    have hT2 := ten_le (w := m) (by omega)
    have pl := p_inLeastTerms (d + 18) m (wA g h x m).toNat (10 ^ m) A' u _ _ b2 b3 b4 (by omega) (by rw [show (((wA g h x m).toNat : Nat) : Int) = wA g h x m by omega]) (by rw [hT]) (by omega) (by omega) hu
    refine ⟨A', ?_, hI.scr (fun i hi => ?_) ?_ ?_ ?_ ?_, fun i hi => ?_⟩
    · simp (disch := omega) only [am_bv_some, am_bi_int, am_bl_long, am_br_ref, am_bc_some, am_bq_some, am_gf_c, am_rd_c, am_bh_pf, am_bh_wr, am_g_p, ob_get, ob_put, ar_get, ar_put, ob_tag, ar_tag, i_zero, i_add, i_sub, i_mul, i_lt, i_le, i_eq, i_val, if_pos, if_neg, Option.toList_some, Option.toList_none, List.cons_append, List.nil_append, beq_self_eq_true, true_or, or_true, up_at, up_ne, ↓reduceIte, Nat.reduceEqDiff, le_t, le_f, lt_t, lt_f, eq_t, eq_f, nq_t, nq_f, nl_t, nl_f, and_true, true_and, and_false, false_and, not_true_eq_false, not_false_eq_true, or_false, false_or, az_tag, al_tag, az_get, az_put, am_bh_wz, gX, gT, gW, gS, gA, gL, gM, gE, gN, gX_11, gX_1, gX_2, gT_1, gW_0, gW_1, gW_2, gW_3, gW_12, gW_13, gA_1, gL_1, gE_3, gM_0, gM_1, gM_2, gM_3, gN_0, gN_2, gN_3, gN_4, gN_5, gN_10, gN_11, gN_17, gN_18, gN_23, gN_24, gN_29, gN_35, gN_36, gN_42, am_p_p, Int.toNat_natCast, aq_tag, am_rq_c, am_bh_wq, aq_get3, aq_get4, aq_put3, Int.reduceAdd, Int.reduceSub, Int.reduceMul, Int.reduceToNat, c93, s93_0, s93_1, s93_4, s93_7, s93_8, s93_11, s93_14, s93_15, s93_18, s93_19, s93_21, s93_24, s93_26, s93_29, s93_32, s93_35, s93_36, s93_37, s93_40, s93_41, s93_42, s93_44, s93_47, s93_48, s93_51, s93_52, s93_54, s93_57, a1, b1, pg, ph, px, r1, pl]
    · rw [r2, if_neg (by omega), if_neg (by omega)]
    · exact hE.congr (fun i a b => by rw [r2, if_neg (by omega), if_neg (by omega)])
    · exact hM.congr (fun i a b => by rw [r2, if_neg (by omega), if_neg (by omega)])
    · exact hQ.congr (fun i a b => by rw [r2, if_neg (by omega), if_neg (by omega)])
    · exact ⟨b2, ⟨_, b3⟩, _, b4⟩
    · rw [r2, if_neg (by omega), if_neg (by omega)]
  · rw [if_neg q0]
    refine ⟨A, ?_, hI, fun _ _ => rfl⟩
    unfold waitsOk at q0
    by_cases q1 : 0 ≤ g ∧ g ≤ 99
    · by_cases q2 : 0 ≤ h ∧ h ≤ 99
      · by_cases q3 : 0 ≤ n
        · by_cases q3' : n ≤ 8
          · have q4 : ¬ (0 ≤ x ∧ x ≤ 10) := fun e => q0 ⟨q1, q2, ⟨q3, q3'⟩, e⟩
            rw [if_neg q4] at px
            simp (disch := omega) only [am_bv_some, am_bi_int, am_bl_long, am_br_ref, am_bc_some, am_bq_some, am_gf_c, am_rd_c, am_bh_pf, am_bh_wr, am_g_p, ob_get, ob_put, ar_get, ar_put, ob_tag, ar_tag, i_zero, i_add, i_sub, i_mul, i_lt, i_le, i_eq, i_val, if_pos, if_neg, Option.toList_some, Option.toList_none, List.cons_append, List.nil_append, beq_self_eq_true, true_or, or_true, up_at, up_ne, ↓reduceIte, Nat.reduceEqDiff, le_t, le_f, lt_t, lt_f, eq_t, eq_f, nq_t, nq_f, nl_t, nl_f, and_true, true_and, and_false, false_and, not_true_eq_false, not_false_eq_true, or_false, false_or, az_tag, al_tag, az_get, az_put, am_bh_wz, gX, gT, gW, gS, gA, gL, gM, gE, gN, gX_11, gX_1, gX_2, gT_1, gW_0, gW_1, gW_2, gW_3, gW_12, gW_13, gA_1, gL_1, gE_3, gM_0, gM_1, gM_2, gM_3, gN_0, gN_2, gN_3, gN_4, gN_5, gN_10, gN_11, gN_17, gN_18, gN_23, gN_24, gN_29, gN_35, gN_36, gN_42, am_p_p, Int.toNat_natCast, aq_tag, am_rq_c, am_bh_wq, aq_get3, aq_get4, aq_put3, Int.reduceAdd, Int.reduceSub, Int.reduceMul, Int.reduceToNat, c93, s93_0, s93_1, s93_4, s93_7, s93_8, s93_11, s93_14, s93_15, s93_18, s93_19, s93_21, s93_24, s93_26, s93_29, s93_32, s93_35, s93_36, s93_37, s93_40, s93_41, s93_42, s93_44, s93_47, s93_48, s93_51, s93_52, s93_54, s93_57, a1, pg, ph, px]
          · simp (disch := omega) only [am_bv_some, am_bi_int, am_bl_long, am_br_ref, am_bc_some, am_bq_some, am_gf_c, am_rd_c, am_bh_pf, am_bh_wr, am_g_p, ob_get, ob_put, ar_get, ar_put, ob_tag, ar_tag, i_zero, i_add, i_sub, i_mul, i_lt, i_le, i_eq, i_val, if_pos, if_neg, Option.toList_some, Option.toList_none, List.cons_append, List.nil_append, beq_self_eq_true, true_or, or_true, up_at, up_ne, ↓reduceIte, Nat.reduceEqDiff, le_t, le_f, lt_t, lt_f, eq_t, eq_f, nq_t, nq_f, nl_t, nl_f, and_true, true_and, and_false, false_and, not_true_eq_false, not_false_eq_true, or_false, false_or, az_tag, al_tag, az_get, az_put, am_bh_wz, gX, gT, gW, gS, gA, gL, gM, gE, gN, gX_11, gX_1, gX_2, gT_1, gW_0, gW_1, gW_2, gW_3, gW_12, gW_13, gA_1, gL_1, gE_3, gM_0, gM_1, gM_2, gM_3, gN_0, gN_2, gN_3, gN_4, gN_5, gN_10, gN_11, gN_17, gN_18, gN_23, gN_24, gN_29, gN_35, gN_36, gN_42, am_p_p, Int.toNat_natCast, aq_tag, am_rq_c, am_bh_wq, aq_get3, aq_get4, aq_put3, Int.reduceAdd, Int.reduceSub, Int.reduceMul, Int.reduceToNat, c93, s93_0, s93_1, s93_4, s93_7, s93_8, s93_11, s93_14, s93_15, s93_18, s93_19, s93_21, s93_24, s93_26, s93_29, s93_32, s93_35, s93_36, s93_37, s93_40, s93_41, s93_42, s93_44, s93_47, s93_48, s93_51, s93_52, s93_54, s93_57, a1, pg, ph, px]
        · simp (disch := omega) only [am_bv_some, am_bi_int, am_bl_long, am_br_ref, am_bc_some, am_bq_some, am_gf_c, am_rd_c, am_bh_pf, am_bh_wr, am_g_p, ob_get, ob_put, ar_get, ar_put, ob_tag, ar_tag, i_zero, i_add, i_sub, i_mul, i_lt, i_le, i_eq, i_val, if_pos, if_neg, Option.toList_some, Option.toList_none, List.cons_append, List.nil_append, beq_self_eq_true, true_or, or_true, up_at, up_ne, ↓reduceIte, Nat.reduceEqDiff, le_t, le_f, lt_t, lt_f, eq_t, eq_f, nq_t, nq_f, nl_t, nl_f, and_true, true_and, and_false, false_and, not_true_eq_false, not_false_eq_true, or_false, false_or, az_tag, al_tag, az_get, az_put, am_bh_wz, gX, gT, gW, gS, gA, gL, gM, gE, gN, gX_11, gX_1, gX_2, gT_1, gW_0, gW_1, gW_2, gW_3, gW_12, gW_13, gA_1, gL_1, gE_3, gM_0, gM_1, gM_2, gM_3, gN_0, gN_2, gN_3, gN_4, gN_5, gN_10, gN_11, gN_17, gN_18, gN_23, gN_24, gN_29, gN_35, gN_36, gN_42, am_p_p, Int.toNat_natCast, aq_tag, am_rq_c, am_bh_wq, aq_get3, aq_get4, aq_put3, Int.reduceAdd, Int.reduceSub, Int.reduceMul, Int.reduceToNat, c93, s93_0, s93_1, s93_4, s93_7, s93_8, s93_11, s93_14, s93_15, s93_18, s93_19, s93_21, s93_24, s93_26, s93_29, s93_32, s93_35, s93_36, s93_37, s93_40, s93_41, s93_42, s93_44, s93_47, s93_48, s93_51, s93_52, s93_54, s93_57, a1, pg, ph, px]
      · rw [if_neg q2] at ph
        simp (disch := omega) only [am_bv_some, am_bi_int, am_bl_long, am_br_ref, am_bc_some, am_bq_some, am_gf_c, am_rd_c, am_bh_pf, am_bh_wr, am_g_p, ob_get, ob_put, ar_get, ar_put, ob_tag, ar_tag, i_zero, i_add, i_sub, i_mul, i_lt, i_le, i_eq, i_val, if_pos, if_neg, Option.toList_some, Option.toList_none, List.cons_append, List.nil_append, beq_self_eq_true, true_or, or_true, up_at, up_ne, ↓reduceIte, Nat.reduceEqDiff, le_t, le_f, lt_t, lt_f, eq_t, eq_f, nq_t, nq_f, nl_t, nl_f, and_true, true_and, and_false, false_and, not_true_eq_false, not_false_eq_true, or_false, false_or, az_tag, al_tag, az_get, az_put, am_bh_wz, gX, gT, gW, gS, gA, gL, gM, gE, gN, gX_11, gX_1, gX_2, gT_1, gW_0, gW_1, gW_2, gW_3, gW_12, gW_13, gA_1, gL_1, gE_3, gM_0, gM_1, gM_2, gM_3, gN_0, gN_2, gN_3, gN_4, gN_5, gN_10, gN_11, gN_17, gN_18, gN_23, gN_24, gN_29, gN_35, gN_36, gN_42, am_p_p, Int.toNat_natCast, aq_tag, am_rq_c, am_bh_wq, aq_get3, aq_get4, aq_put3, Int.reduceAdd, Int.reduceSub, Int.reduceMul, Int.reduceToNat, c93, s93_0, s93_1, s93_4, s93_7, s93_8, s93_11, s93_14, s93_15, s93_18, s93_19, s93_21, s93_24, s93_26, s93_29, s93_32, s93_35, s93_36, s93_37, s93_40, s93_41, s93_42, s93_44, s93_47, s93_48, s93_51, s93_52, s93_54, s93_57, a1, pg, ph, px]
    · rw [if_neg q1] at pg
      simp (disch := omega) only [am_bv_some, am_bi_int, am_bl_long, am_br_ref, am_bc_some, am_bq_some, am_gf_c, am_rd_c, am_bh_pf, am_bh_wr, am_g_p, ob_get, ob_put, ar_get, ar_put, ob_tag, ar_tag, i_zero, i_add, i_sub, i_mul, i_lt, i_le, i_eq, i_val, if_pos, if_neg, Option.toList_some, Option.toList_none, List.cons_append, List.nil_append, beq_self_eq_true, true_or, or_true, up_at, up_ne, ↓reduceIte, Nat.reduceEqDiff, le_t, le_f, lt_t, lt_f, eq_t, eq_f, nq_t, nq_f, nl_t, nl_f, and_true, true_and, and_false, false_and, not_true_eq_false, not_false_eq_true, or_false, false_or, az_tag, al_tag, az_get, az_put, am_bh_wz, gX, gT, gW, gS, gA, gL, gM, gE, gN, gX_11, gX_1, gX_2, gT_1, gW_0, gW_1, gW_2, gW_3, gW_12, gW_13, gA_1, gL_1, gE_3, gM_0, gM_1, gM_2, gM_3, gN_0, gN_2, gN_3, gN_4, gN_5, gN_10, gN_11, gN_17, gN_18, gN_23, gN_24, gN_29, gN_35, gN_36, gN_42, am_p_p, Int.toNat_natCast, aq_tag, am_rq_c, am_bh_wq, aq_get3, aq_get4, aq_put3, Int.reduceAdd, Int.reduceSub, Int.reduceMul, Int.reduceToNat, c93, s93_0, s93_1, s93_4, s93_7, s93_8, s93_11, s93_14, s93_15, s93_18, s93_19, s93_21, s93_24, s93_26, s93_29, s93_32, s93_35, s93_36, s93_37, s93_40, s93_41, s93_42, s93_44, s93_47, s93_48, s93_51, s93_52, s93_54, s93_57, a1, pg, ph, px]
/-- the best wait of 0 .. w -/
def bw (a : Nat → Int) : Nat → Nat
  | 0 => 0
  | w + 1 => if a (w + 1) * 10 ^ (8 - (w + 1)) < a (bw a w) * 10 ^ (8 - bw a w) then w + 1 else bw a w
theorem bw_le (a : Nat → Int) (w : Nat) : bw a w ≤ w := by
  induction w with
  | zero => exact Nat.le_refl _
  | succ w ih => unfold bw; split <;> omega
theorem bw_cmp (a c : Int) {w b : Nat} (hw : w ≤ 8) (hb : b ≤ 8) : (a * 10 ^ b < c * 10 ^ w) ↔ (a * 10 ^ (8 - w) < c * 10 ^ (8 - b)) := by
  have e1 : (10 : Int) ^ w * 10 ^ (8 - w) = 10 ^ b * 10 ^ (8 - b) := by rw [← Int.pow_add, ← Int.pow_add, show w + (8 - w) = b + (8 - b) by omega]
  have p1 := ten_pos w
  have p2 := ten_pos b
  have p3 := ten_pos (8 - w)
  have p4 := ten_pos (8 - b)
  generalize (10 : Int) ^ w = W at *
  generalize (10 : Int) ^ b = B at *
  generalize (10 : Int) ^ (8 - w) = W' at *
  generalize (10 : Int) ^ (8 - b) = B' at *
  have f1 : a * B * (W' * B') = a * W' * (B * B') := by grind
  have f2 : c * W * (W' * B') = c * B' * (B * B') := by grind
  have p5 : 0 < W' * B' := Int.mul_pos p3 p4
  have p6 : 0 < B * B' := Int.mul_pos p2 p4
  constructor
  · intro h
    have := Int.mul_lt_mul_of_pos_right h p5
    rw [f1, f2] at this
    exact Int.lt_of_mul_lt_mul_right this (by omega)
  · intro h
    have := Int.mul_lt_mul_of_pos_right h p6
    rw [← f1, ← f2] at this
    exact Int.lt_of_mul_lt_mul_right this (by omega)
theorem pr_rng {a : Int} {w : Nat} (h1 : 0 ≤ a ∧ a ≤ 10700000000) (hw : w ≤ 8) : 0 ≤ a * 10 ^ w ∧ a * 10 ^ w ≤ 1070000000000000000 := by
  have e2 := ten_le hw
  have e3 := ten_pos w
  have a1 : 0 ≤ a * 10 ^ w := Int.mul_nonneg h1.1 (by omega)
  have a2 : a * 10 ^ w ≤ 10700000000 * 100000000 := Int.mul_le_mul h1.2 e2 (by omega) (by omega)
  omega
theorem p_bestWait_loop (d : Nat) (A : am_H) (a : Nat → Int) (h0 : am_g A 92 = ob 9 2 (gS 92)) (h1 : am_g A 93 = al 9 (fun j => Int64.ofInt (a j))) (h2 : am_g A 94 = al 9 (fun j => Int64.ofInt (10 ^ j))) (ha : ∀ j, j ≤ 8 → 0 ≤ a j ∧ a j ≤ 10700000000) : ∀ m k : Nat, k + m = 8 → am_run d 69 4 [.ref 92, .int (Int32.ofInt ((bw a k : Nat) : Int)), .int (Int32.ofInt ((k : Int) + 1))] [] A = some (some (.int (Int32.ofInt ((bw a 8 : Nat) : Int))), A) := by
  intro m
  induction m with
  | zero =>
    intro k hk
    have : k = 8 := by omega
    subst this
    simp (disch := omega) only [am_bv_some, am_bi_int, am_bl_long, am_br_ref, am_bc_some, am_bq_some, am_gf_c, am_rd_c, am_bh_pf, am_bh_wr, am_g_p, ob_get, ob_put, ar_get, ar_put, ob_tag, ar_tag, i_zero, i_add, i_sub, i_mul, i_lt, i_le, i_eq, i_val, if_pos, if_neg, Option.toList_some, Option.toList_none, List.cons_append, List.nil_append, beq_self_eq_true, true_or, or_true, up_at, up_ne, ↓reduceIte, Nat.reduceEqDiff, le_t, le_f, lt_t, lt_f, eq_t, eq_f, nq_t, nq_f, nl_t, nl_f, and_true, true_and, and_false, false_and, not_true_eq_false, not_false_eq_true, or_false, false_or, az_tag, al_tag, az_get, az_put, am_bh_wz, gX, gT, gW, gS, gA, gL, gM, gE, gN, gX_11, gX_1, gX_2, gT_1, gW_0, gW_1, gW_2, gW_3, gW_12, gW_13, gA_1, gL_1, gE_3, gM_0, gM_1, gM_2, gM_3, gN_0, gN_2, gN_3, gN_4, gN_5, gN_10, gN_11, gN_17, gN_18, gN_23, gN_24, gN_29, gN_35, gN_36, gN_42, am_p_p, Int.toNat_natCast, aq_tag, am_rq_c, am_bh_wq, aq_get3, aq_get4, aq_put3, Int.reduceAdd, Int.reduceSub, Int.reduceMul, Int.reduceToNat, s69_0, s69_1, s69_2, s69_3, s69_4, s69_5, s69_7, s69_10, s69_11, s69_14, s69_15, s69_16, s69_17, s69_20, s69_21, s69_22, s69_23, s69_24, s69_27, s69_28, s69_29, s69_30, s69_33, s69_34, s69_35, s69_36, s69_37, s69_40, s69_41, s69_42, s69_45, s69_48, s69_49]
  | succ m ih =>
    intro k hk
    have hb := bw_le a k
    have e2 : ((k : Int) + 1).toNat = k + 1 := by omega
    have r1 := pr_rng (ha (k + 1) (by omega)) (w := bw a k) (by omega)
    have r2 := pr_rng (ha (bw a k) (by omega)) (w := k + 1) (by omega)
    have hc := bw_cmp (a (k + 1)) (a (bw a k)) (w := k + 1) (b := bw a k) (by omega) (by omega)
    rw [← ih (k + 1) (by omega), s69_4]
    rw [show bw a (k + 1) = if a (k + 1) * 10 ^ (8 - (k + 1)) < a (bw a k) * 10 ^ (8 - bw a k) then k + 1 else bw a k from rfl]
    generalize bw a k = b at *
    by_cases q : a (k + 1) * 10 ^ b < a b * 10 ^ (k + 1)
    · rw [if_pos (hc.1 q)]
      simp (disch := omega) only [am_bv_some, am_bi_int, am_bl_long, am_br_ref, am_bc_some, am_bq_some, am_gf_c, am_rd_c, am_bh_pf, am_bh_wr, am_g_p, ob_get, ob_put, ar_get, ar_put, ob_tag, ar_tag, i_zero, i_add, i_sub, i_mul, i_lt, i_le, i_eq, i_val, if_pos, if_neg, Option.toList_some, Option.toList_none, List.cons_append, List.nil_append, beq_self_eq_true, true_or, or_true, up_at, up_ne, ↓reduceIte, Nat.reduceEqDiff, le_t, le_f, lt_t, lt_f, eq_t, eq_f, nq_t, nq_f, nl_t, nl_f, and_true, true_and, and_false, false_and, not_true_eq_false, not_false_eq_true, or_false, false_or, az_tag, al_tag, az_get, az_put, am_bh_wz, gX, gT, gW, gS, gA, gL, gM, gE, gN, gX_11, gX_1, gX_2, gT_1, gW_0, gW_1, gW_2, gW_3, gW_12, gW_13, gA_1, gL_1, gE_3, gM_0, gM_1, gM_2, gM_3, gN_0, gN_2, gN_3, gN_4, gN_5, gN_10, gN_11, gN_17, gN_18, gN_23, gN_24, gN_29, gN_35, gN_36, gN_42, am_p_p, Int.toNat_natCast, aq_tag, am_rq_c, am_bh_wq, aq_get3, aq_get4, aq_put3, Int.reduceAdd, Int.reduceSub, Int.reduceMul, Int.reduceToNat, s69_0, s69_1, s69_2, s69_3, s69_5, s69_7, s69_10, s69_11, s69_14, s69_15, s69_16, s69_17, s69_20, s69_21, s69_22, s69_23, s69_24, s69_27, s69_28, s69_29, s69_30, s69_33, s69_34, s69_35, s69_36, s69_37, s69_40, s69_41, s69_42, s69_45, s69_48, s69_49, h0, h1, h2, al_get, e2, l_mul, l_cmp, cm_1, cm_0, cm_m, Int.natCast_add, Int.cast_ofNat_Int]
    · rw [if_neg (fun z => q (hc.2 z))]
      rcases Int.lt_trichotomy (a (k + 1) * 10 ^ b) (a b * 10 ^ (k + 1)) with q' | q' | q'
      · exact absurd q' q
      · simp (disch := omega) only [am_bv_some, am_bi_int, am_bl_long, am_br_ref, am_bc_some, am_bq_some, am_gf_c, am_rd_c, am_bh_pf, am_bh_wr, am_g_p, ob_get, ob_put, ar_get, ar_put, ob_tag, ar_tag, i_zero, i_add, i_sub, i_mul, i_lt, i_le, i_eq, i_val, if_pos, if_neg, Option.toList_some, Option.toList_none, List.cons_append, List.nil_append, beq_self_eq_true, true_or, or_true, up_at, up_ne, ↓reduceIte, Nat.reduceEqDiff, le_t, le_f, lt_t, lt_f, eq_t, eq_f, nq_t, nq_f, nl_t, nl_f, and_true, true_and, and_false, false_and, not_true_eq_false, not_false_eq_true, or_false, false_or, az_tag, al_tag, az_get, az_put, am_bh_wz, gX, gT, gW, gS, gA, gL, gM, gE, gN, gX_11, gX_1, gX_2, gT_1, gW_0, gW_1, gW_2, gW_3, gW_12, gW_13, gA_1, gL_1, gE_3, gM_0, gM_1, gM_2, gM_3, gN_0, gN_2, gN_3, gN_4, gN_5, gN_10, gN_11, gN_17, gN_18, gN_23, gN_24, gN_29, gN_35, gN_36, gN_42, am_p_p, Int.toNat_natCast, aq_tag, am_rq_c, am_bh_wq, aq_get3, aq_get4, aq_put3, Int.reduceAdd, Int.reduceSub, Int.reduceMul, Int.reduceToNat, s69_0, s69_1, s69_2, s69_3, s69_5, s69_7, s69_10, s69_11, s69_14, s69_15, s69_16, s69_17, s69_20, s69_21, s69_22, s69_23, s69_24, s69_27, s69_28, s69_29, s69_30, s69_33, s69_34, s69_35, s69_36, s69_37, s69_40, s69_41, s69_42, s69_45, s69_48, s69_49, h0, h1, h2, al_get, e2, l_mul, l_cmp, cm_1, cm_0, cm_m, Int.natCast_add, Int.cast_ofNat_Int]
      · simp (disch := omega) only [am_bv_some, am_bi_int, am_bl_long, am_br_ref, am_bc_some, am_bq_some, am_gf_c, am_rd_c, am_bh_pf, am_bh_wr, am_g_p, ob_get, ob_put, ar_get, ar_put, ob_tag, ar_tag, i_zero, i_add, i_sub, i_mul, i_lt, i_le, i_eq, i_val, if_pos, if_neg, Option.toList_some, Option.toList_none, List.cons_append, List.nil_append, beq_self_eq_true, true_or, or_true, up_at, up_ne, ↓reduceIte, Nat.reduceEqDiff, le_t, le_f, lt_t, lt_f, eq_t, eq_f, nq_t, nq_f, nl_t, nl_f, and_true, true_and, and_false, false_and, not_true_eq_false, not_false_eq_true, or_false, false_or, az_tag, al_tag, az_get, az_put, am_bh_wz, gX, gT, gW, gS, gA, gL, gM, gE, gN, gX_11, gX_1, gX_2, gT_1, gW_0, gW_1, gW_2, gW_3, gW_12, gW_13, gA_1, gL_1, gE_3, gM_0, gM_1, gM_2, gM_3, gN_0, gN_2, gN_3, gN_4, gN_5, gN_10, gN_11, gN_17, gN_18, gN_23, gN_24, gN_29, gN_35, gN_36, gN_42, am_p_p, Int.toNat_natCast, aq_tag, am_rq_c, am_bh_wq, aq_get3, aq_get4, aq_put3, Int.reduceAdd, Int.reduceSub, Int.reduceMul, Int.reduceToNat, s69_0, s69_1, s69_2, s69_3, s69_5, s69_7, s69_10, s69_11, s69_14, s69_15, s69_16, s69_17, s69_20, s69_21, s69_22, s69_23, s69_24, s69_27, s69_28, s69_29, s69_30, s69_33, s69_34, s69_35, s69_36, s69_37, s69_40, s69_41, s69_42, s69_45, s69_48, s69_49, h0, h1, h2, al_get, e2, l_mul, l_cmp, cm_1, cm_0, cm_m, Int.natCast_add, Int.cast_ofNat_Int]
def howR (g h x : Int) : Int := if (0 ≤ g ∧ g ≤ 99) ∧ (0 ≤ h ∧ h ≤ 99) ∧ 0 ≤ x ∧ x ≤ 10 then ((bw (wA g h x) 8 : Nat) : Int) else -2
theorem x_howLong (d c : Nat) (A : am_H) (S : Nat → Nat → Int) (sd : Int64) (g h x : Int) (hI : XI A S sd) (hR : RR S c) (hg : -2147483648 ≤ g ∧ g ≤ 2147483647) (hh : -2147483648 ≤ h ∧ h ≤ 2147483647) (hx : -2147483648 ≤ x ∧ x ≤ 2147483647) : ∃ A', am_call (d + 20) 94 [.ref 1, .int (Int32.ofInt g), .int (Int32.ofInt h), .int (Int32.ofInt x)] A = some (some (.int (Int32.ofInt (howR g h x))), A') ∧ XI A' S sd ∧ FX A A' := by
  have pg := fun d => p_areMinutes d A g hg
  have ph := fun d => p_areMinutes d A h hh
  have px := fun d => p_areTenths d A x hx
  obtain ⟨t, v, q, ap, hA, -, -, -, -, -, -, hE, hM, hQ, -, hW⟩ := id hI
  have a1 := hA.1
  unfold howR
  by_cases q0 : (0 ≤ g ∧ g ≤ 99) ∧ (0 ≤ h ∧ h ≤ 99) ∧ 0 ≤ x ∧ x ≤ 10
  · rw [if_pos q0]
    obtain ⟨q1, q2, q4⟩ := q0
    obtain ⟨A', r1, r2⟩ := p_reckon (d + 19) A g h x q1 q4 q2 hW
    have b1 : am_g A' 1 = ob 10 12 (gX t v sd) := by rw [r2, if_neg (by omega), if_neg (by omega)]; exact a1
    have b2 : am_g A' 92 = ob 9 2 (gS 92) := by rw [r2, if_neg (by omega), if_neg (by omega)]; exact hW.1
    have b3 : am_g A' 93 = al 9 (fun j => Int64.ofInt (wA g h x j)) := by rw [r2, if_pos rfl]
    have b4 : am_g A' 94 = al 9 (fun j => Int64.ofInt (10 ^ j)) := by rw [r2, if_neg (by omega), if_pos rfl]
    have pl := p_bestWait_loop (d + 19) A' (wA g h x) b2 b3 b4 (fun j hj => wA_le q1 q2 q4 hj) 8 0 (by omega)
    refine ⟨A', ?_, hI.scr (fun i hi => ?_) ?_ ?_ ?_ ?_, fun i hi => ?_⟩
    · have pb : am_call (d + 19) 69 [.ref 92] A' = some (some (.int (Int32.ofInt ((bw (wA g h x) 8 : Nat) : Int))), A') := by
        rw [← pl, show ((bw (wA g h x) 0 : Nat) : Int) = 0 from rfl]
        simp (disch := omega) only [am_bv_some, am_bi_int, am_bl_long, am_br_ref, am_bc_some, am_bq_some, am_gf_c, am_rd_c, am_bh_pf, am_bh_wr, am_g_p, ob_get, ob_put, ar_get, ar_put, ob_tag, ar_tag, i_zero, i_add, i_sub, i_mul, i_lt, i_le, i_eq, i_val, if_pos, if_neg, Option.toList_some, Option.toList_none, List.cons_append, List.nil_append, beq_self_eq_true, true_or, or_true, up_at, up_ne, ↓reduceIte, Nat.reduceEqDiff, le_t, le_f, lt_t, lt_f, eq_t, eq_f, nq_t, nq_f, nl_t, nl_f, and_true, true_and, and_false, false_and, not_true_eq_false, not_false_eq_true, or_false, false_or, az_tag, al_tag, az_get, az_put, am_bh_wz, gX, gT, gW, gS, gA, gL, gM, gE, gN, gX_11, gX_1, gX_2, gT_1, gW_0, gW_1, gW_2, gW_3, gW_12, gW_13, gA_1, gL_1, gE_3, gM_0, gM_1, gM_2, gM_3, gN_0, gN_2, gN_3, gN_4, gN_5, gN_10, gN_11, gN_17, gN_18, gN_23, gN_24, gN_29, gN_35, gN_36, gN_42, am_p_p, Int.toNat_natCast, aq_tag, am_rq_c, am_bh_wq, aq_get3, aq_get4, aq_put3, Int.reduceAdd, Int.reduceSub, Int.reduceMul, Int.reduceToNat, c69, s69_0, s69_1, s69_2, s69_3, s69_5, s69_7, s69_10, s69_11, s69_14, s69_15, s69_16, s69_17, s69_20, s69_21, s69_22, s69_23, s69_24, s69_27, s69_28, s69_29, s69_30, s69_33, s69_34, s69_35, s69_36, s69_37, s69_40, s69_41, s69_42, s69_45, s69_48, s69_49, b2, Int.cast_ofNat_Int]
      simp (disch := omega) only [am_bv_some, am_bi_int, am_bl_long, am_br_ref, am_bc_some, am_bq_some, am_gf_c, am_rd_c, am_bh_pf, am_bh_wr, am_g_p, ob_get, ob_put, ar_get, ar_put, ob_tag, ar_tag, i_zero, i_add, i_sub, i_mul, i_lt, i_le, i_eq, i_val, if_pos, if_neg, Option.toList_some, Option.toList_none, List.cons_append, List.nil_append, beq_self_eq_true, true_or, or_true, up_at, up_ne, ↓reduceIte, Nat.reduceEqDiff, le_t, le_f, lt_t, lt_f, eq_t, eq_f, nq_t, nq_f, nl_t, nl_f, and_true, true_and, and_false, false_and, not_true_eq_false, not_false_eq_true, or_false, false_or, az_tag, al_tag, az_get, az_put, am_bh_wz, gX, gT, gW, gS, gA, gL, gM, gE, gN, gX_11, gX_1, gX_2, gT_1, gW_0, gW_1, gW_2, gW_3, gW_12, gW_13, gA_1, gL_1, gE_3, gM_0, gM_1, gM_2, gM_3, gN_0, gN_2, gN_3, gN_4, gN_5, gN_10, gN_11, gN_17, gN_18, gN_23, gN_24, gN_29, gN_35, gN_36, gN_42, am_p_p, Int.toNat_natCast, aq_tag, am_rq_c, am_bh_wq, aq_get3, aq_get4, aq_put3, Int.reduceAdd, Int.reduceSub, Int.reduceMul, Int.reduceToNat, c94, s94_0, s94_1, s94_4, s94_7, s94_8, s94_11, s94_14, s94_15, s94_18, s94_21, s94_23, s94_24, s94_25, s94_28, s94_29, s94_30, s94_31, s94_34, s94_35, s94_38, s94_41, a1, b1, pg, ph, px, r1, pb]
    · rw [r2, if_neg (by omega), if_neg (by omega)]
    · exact hE.congr (fun i a b => by rw [r2, if_neg (by omega), if_neg (by omega)])
    · exact hM.congr (fun i a b => by rw [r2, if_neg (by omega), if_neg (by omega)])
    · exact hQ.congr (fun i a b => by rw [r2, if_neg (by omega), if_neg (by omega)])
    · exact ⟨b2, ⟨_, b3⟩, _, b4⟩
    · rw [r2, if_neg (by omega), if_neg (by omega)]
  · rw [if_neg q0]
    refine ⟨A, ?_, hI, fun _ _ => rfl⟩
    by_cases q1 : 0 ≤ g ∧ g ≤ 99
    · by_cases q2 : 0 ≤ h ∧ h ≤ 99
      · have q4 : ¬ (0 ≤ x ∧ x ≤ 10) := fun e => q0 ⟨q1, q2, e⟩
        rw [if_neg q4] at px
        simp (disch := omega) only [am_bv_some, am_bi_int, am_bl_long, am_br_ref, am_bc_some, am_bq_some, am_gf_c, am_rd_c, am_bh_pf, am_bh_wr, am_g_p, ob_get, ob_put, ar_get, ar_put, ob_tag, ar_tag, i_zero, i_add, i_sub, i_mul, i_lt, i_le, i_eq, i_val, if_pos, if_neg, Option.toList_some, Option.toList_none, List.cons_append, List.nil_append, beq_self_eq_true, true_or, or_true, up_at, up_ne, ↓reduceIte, Nat.reduceEqDiff, le_t, le_f, lt_t, lt_f, eq_t, eq_f, nq_t, nq_f, nl_t, nl_f, and_true, true_and, and_false, false_and, not_true_eq_false, not_false_eq_true, or_false, false_or, az_tag, al_tag, az_get, az_put, am_bh_wz, gX, gT, gW, gS, gA, gL, gM, gE, gN, gX_11, gX_1, gX_2, gT_1, gW_0, gW_1, gW_2, gW_3, gW_12, gW_13, gA_1, gL_1, gE_3, gM_0, gM_1, gM_2, gM_3, gN_0, gN_2, gN_3, gN_4, gN_5, gN_10, gN_11, gN_17, gN_18, gN_23, gN_24, gN_29, gN_35, gN_36, gN_42, am_p_p, Int.toNat_natCast, aq_tag, am_rq_c, am_bh_wq, aq_get3, aq_get4, aq_put3, Int.reduceAdd, Int.reduceSub, Int.reduceMul, Int.reduceToNat, c94, s94_0, s94_1, s94_4, s94_7, s94_8, s94_11, s94_14, s94_15, s94_18, s94_21, s94_23, s94_24, s94_25, s94_28, s94_29, s94_30, s94_31, s94_34, s94_35, s94_38, s94_41, a1, pg, ph, px]
      · rw [if_neg q2] at ph
        simp (disch := omega) only [am_bv_some, am_bi_int, am_bl_long, am_br_ref, am_bc_some, am_bq_some, am_gf_c, am_rd_c, am_bh_pf, am_bh_wr, am_g_p, ob_get, ob_put, ar_get, ar_put, ob_tag, ar_tag, i_zero, i_add, i_sub, i_mul, i_lt, i_le, i_eq, i_val, if_pos, if_neg, Option.toList_some, Option.toList_none, List.cons_append, List.nil_append, beq_self_eq_true, true_or, or_true, up_at, up_ne, ↓reduceIte, Nat.reduceEqDiff, le_t, le_f, lt_t, lt_f, eq_t, eq_f, nq_t, nq_f, nl_t, nl_f, and_true, true_and, and_false, false_and, not_true_eq_false, not_false_eq_true, or_false, false_or, az_tag, al_tag, az_get, az_put, am_bh_wz, gX, gT, gW, gS, gA, gL, gM, gE, gN, gX_11, gX_1, gX_2, gT_1, gW_0, gW_1, gW_2, gW_3, gW_12, gW_13, gA_1, gL_1, gE_3, gM_0, gM_1, gM_2, gM_3, gN_0, gN_2, gN_3, gN_4, gN_5, gN_10, gN_11, gN_17, gN_18, gN_23, gN_24, gN_29, gN_35, gN_36, gN_42, am_p_p, Int.toNat_natCast, aq_tag, am_rq_c, am_bh_wq, aq_get3, aq_get4, aq_put3, Int.reduceAdd, Int.reduceSub, Int.reduceMul, Int.reduceToNat, c94, s94_0, s94_1, s94_4, s94_7, s94_8, s94_11, s94_14, s94_15, s94_18, s94_21, s94_23, s94_24, s94_25, s94_28, s94_29, s94_30, s94_31, s94_34, s94_35, s94_38, s94_41, a1, pg, ph, px]
    · rw [if_neg q1] at pg
      simp (disch := omega) only [am_bv_some, am_bi_int, am_bl_long, am_br_ref, am_bc_some, am_bq_some, am_gf_c, am_rd_c, am_bh_pf, am_bh_wr, am_g_p, ob_get, ob_put, ar_get, ar_put, ob_tag, ar_tag, i_zero, i_add, i_sub, i_mul, i_lt, i_le, i_eq, i_val, if_pos, if_neg, Option.toList_some, Option.toList_none, List.cons_append, List.nil_append, beq_self_eq_true, true_or, or_true, up_at, up_ne, ↓reduceIte, Nat.reduceEqDiff, le_t, le_f, lt_t, lt_f, eq_t, eq_f, nq_t, nq_f, nl_t, nl_f, and_true, true_and, and_false, false_and, not_true_eq_false, not_false_eq_true, or_false, false_or, az_tag, al_tag, az_get, az_put, am_bh_wz, gX, gT, gW, gS, gA, gL, gM, gE, gN, gX_11, gX_1, gX_2, gT_1, gW_0, gW_1, gW_2, gW_3, gW_12, gW_13, gA_1, gL_1, gE_3, gM_0, gM_1, gM_2, gM_3, gN_0, gN_2, gN_3, gN_4, gN_5, gN_10, gN_11, gN_17, gN_18, gN_23, gN_24, gN_29, gN_35, gN_36, gN_42, am_p_p, Int.toNat_natCast, aq_tag, am_rq_c, am_bh_wq, aq_get3, aq_get4, aq_put3, Int.reduceAdd, Int.reduceSub, Int.reduceMul, Int.reduceToNat, c94, s94_0, s94_1, s94_4, s94_7, s94_8, s94_11, s94_14, s94_15, s94_18, s94_21, s94_23, s94_24, s94_25, s94_28, s94_29, s94_30, s94_31, s94_34, s94_35, s94_38, s94_41, a1, pg, ph, px]
