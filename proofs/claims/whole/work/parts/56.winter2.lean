theorem p_bitCount0 (d : Nat) (A : am_H) (x : Int32) : am_call d 166 [.int x] A = some (some (.int (bcE x)), A) := by
  simp only [c166, s166_0, s166_1, s166_2, s166_3, s166_4, s166_7, s166_8, s166_9, s166_10, s166_11, s166_14, s166_15, s166_16, s166_17, s166_18, s166_21, s166_22, s166_23, s166_24, s166_25, s166_26, s166_27, s166_28, s166_29, s166_32, s166_33, s166_34, s166_35, s166_36, s166_38, s166_39, s166_40, s166_41, s166_42, s166_43, s166_45, s166_46, s166_47, s166_48, s166_49, s166_51, s166_52]
  rfl
theorem p_bitCount (d : Nat) (A : am_H) (F : Int) (hF : 0 ≤ F ∧ F < 64) : am_call d 166 [.int (Int32.ofInt F)] A = some (some (.int (Int32.ofInt (sm (bi F) 6))), A) := by
  obtain ⟨f, rfl⟩ : ∃ f : Nat, F = (f : Int) := ⟨F.toNat, by omega⟩
  rw [p_bitCount0, bcE_fin ⟨f, by omega⟩]
theorem bc_rng0 : ∀ F : Fin 64, 0 ≤ sm (bi ((F : Nat) : Int)) 6 ∧ sm (bi ((F : Nat) : Int)) 6 ≤ 6 := by decide +kernel
theorem bc_rng {F : Int} (hF : 0 ≤ F ∧ F < 64) : 0 ≤ sm (bi F) 6 ∧ sm (bi F) 6 ≤ 6 := by
  obtain ⟨f, rfl⟩ : ∃ f : Nat, F = (f : Int) := ⟨F.toNat, by omega⟩
  exact bc_rng0 ⟨f, by omega⟩
theorem wnL_rng : ∀ (m : Nat) (s : Int64), 0 ≤ wnL s m ∧ wnL s m ≤ m := by
  intro m
  induction m with
  | zero => intro s; rw [show wnL s 0 = 0 from rfl]; omega
  | succ k ih =>
    intro s
    have := ih (lcg s)
    have e : 0 ≤ ev (lcg s) ∧ ev (lcg s) ≤ 1 := by unfold ev; split <;> omega
    rw [show wnL s (k + 1) = ev (lcg s) + wnL (lcg s) k from rfl]
    omega
def winterR (S : Nat → Nat → Int) (sd : Int64) (n : Int) : Int := if 1 ≤ n ∧ n ≤ 60 then (if S 1 3 + n - (sm (bi (S 1 4)) 6 + wnL sd n.toNat) < sm (bi (S 1 4)) 6 + wnL sd n.toNat then S 1 3 + n - (sm (bi (S 1 4)) 6 + wnL sd n.toNat) else sm (bi (S 1 4)) 6 + wnL sd n.toNat) else -2
def winterD (sd : Int64) (n : Int) : Int64 := if 1 ≤ n ∧ n ≤ 60 then wnS sd n.toNat else sd
theorem x_winter (d c : Nat) (A : am_H) (S : Nat → Nat → Int) (sd : Int64) (n : Int) (h : XI A S sd) (hR : RR S c) (hn : -2147483648 ≤ n ∧ n ≤ 2147483647) : ∃ A', am_call (d + 20) 96 [.ref 1, .int (Int32.ofInt n)] A = some (some (.int (Int32.ofInt (winterR S sd n))), A') ∧ XI A' S (winterD sd n) ∧ FX A A' := by
  obtain ⟨t, u, q, ap, hA, hT, hP, hUu, hS, hB, hK, hE, hM, hQ, hNn, hW⟩ := h
  have htu := hA.2.1
  have a1 := hA.1
  have a2 := hA.2.2.1
  have a3 := hA.2.2.2
  obtain ⟨⟨kd, fe, t0⟩, t1, t2, t3, t4, ⟨tst, t5⟩, t6, t7, t8⟩ := id hT
  obtain ⟨n0, n1, n2, n3⟩ := id hNn
  obtain ⟨s0, s1, s2, s3⟩ := id hS
  have hF := hR.1.F64
  obtain ⟨⟨g1, g2, g3, g4, g5, g6, g7, g8, g9, g10, g11, g12, g13⟩, ⟨w1, w2, w3, w4⟩, g14, g15, g16, g17, g18⟩ := id hR
  unfold winterR winterD
  by_cases q1 : 1 ≤ n ∧ n ≤ 60
  · rw [if_pos q1, if_pos q1]
    obtain ⟨m, rfl⟩ : ∃ m : Nat, n = (m : Int) := ⟨n.toNat, by omega⟩
    rw [Int.toNat_natCast]
    have r1 := bc_rng hF
    have r2 := wnL_rng m sd
    have pb := fun d => p_bitCount d A (S 1 4) hF
    generalize sm (bi (S 1 4)) 6 = B at r1 pb ⊢
    obtain ⟨A', e1, e2⟩ := x_winter_loop (d + 20) t u m (by omega) m 0 A sd B (by omega) a1
    rw [show ((0 : Nat) : Int) = 0 from rfl] at e1
    generalize hL : B + wnL sd m = L at e1 ⊢
    have hg : ∀ i, i ≠ 1 → am_g A' i = am_g A i := fun i hi => by rw [e2, if_neg hi]
    have hTS : TS S S := ⟨rfl, rfl, rfl, rfl, rfl, rfl, rfl, rfl, rfl, rfl⟩
    have b1 : am_g A' 1 = ob 10 12 (gX t u (wnS sd m)) := by rw [e2, if_pos rfl]
    have u0 : am_g A' t = ob 8 14 (gW t (S 1 1) (S 1 2) (S 1 3) (S 1 4) kd fe) := by rw [hg _ (by omega)]; exact t0
    refine ⟨A', ?_, ⟨t, u, q, ap, ⟨b1, htu, by rw [hg 2 (by omega)]; exact a2, by rw [hg 3 (by omega)]; exact a3⟩, hT.congr (fun i a => hg _ (by omega)) hTS, hP.congr hTS, hUu.congr (fun i a => hg _ (by omega)), hS.congr (fun i a b => hg i (by omega)) rfl rfl rfl, hB.congr (fun i a b => hg i (by omega)) rfl (fun a ha => rfl), hK.congr (fun i a => hg i (by omega)) rfl rfl (fun a ha hb => rfl), hE.congr (fun i a b => hg i (by omega)), hM.congr (fun i a b => hg i (by omega)), hQ.congr (fun i a b => hg i (by omega)), hNn.congr (fun i a b => hg i (by omega)) rfl rfl rfl rfl, hW.congr (fun i a b => hg i (by omega))⟩, fun i hi => hg i (by omega)⟩
    by_cases q2 : S 1 3 + (m : Int) - L < L
    · rw [if_pos q2]
      simp (disch := omega) only [am_bv_some, am_bi_int, am_bl_long, am_br_ref, am_bc_some, am_bq_some, am_gf_c, am_rd_c, am_bh_pf, am_bh_wr, am_g_p, ob_get, ob_put, ar_get, ar_put, ob_tag, ar_tag, i_zero, i_add, i_sub, i_mul, i_lt, i_le, i_eq, i_val, if_pos, if_neg, Option.toList_some, Option.toList_none, List.cons_append, List.nil_append, beq_self_eq_true, true_or, or_true, up_at, up_ne, ↓reduceIte, Nat.reduceEqDiff, le_t, le_f, lt_t, lt_f, eq_t, eq_f, nq_t, nq_f, nl_t, nl_f, and_true, true_and, and_false, false_and, not_true_eq_false, not_false_eq_true, or_false, false_or, az_tag, al_tag, az_get, az_put, am_bh_wz, gX, gT, gW, gS, gA, gL, gM, gE, gN, gX_11, gX_1, gX_2, gT_1, gW_0, gW_1, gW_2, gW_3, gW_12, gW_13, gA_1, gL_1, gE_3, gM_0, gM_1, gM_2, gM_3, gN_0, gN_2, gN_3, gN_4, gN_5, gN_10, gN_11, gN_17, gN_18, gN_23, gN_24, gN_29, gN_35, gN_36, gN_42, am_p_p, Int.toNat_natCast, aq_tag, am_rq_c, am_bh_wq, aq_get3, aq_get4, aq_put3, Int.reduceAdd, Int.reduceSub, Int.reduceMul, Int.reduceToNat, c96, s96_0, s96_1, s96_2, s96_5, s96_6, s96_8, s96_11, s96_13, s96_14, s96_15, s96_18, s96_21, s96_24, s96_25, s96_26, s96_28, s96_29, s96_32, s96_33, s96_34, s96_37, s96_40, s96_41, s96_44, s96_45, s96_48, s96_49, s96_52, s96_54, s96_55, s96_59, s96_60, s96_61, s96_64, s96_67, s96_70, s96_73, s96_74, s96_75, s96_78, s96_81, s96_82, s96_83, s96_84, s96_85, s96_88, a1, t0, pb, e1, b1, u0]
    · rw [if_neg q2]
      simp (disch := omega) only [am_bv_some, am_bi_int, am_bl_long, am_br_ref, am_bc_some, am_bq_some, am_gf_c, am_rd_c, am_bh_pf, am_bh_wr, am_g_p, ob_get, ob_put, ar_get, ar_put, ob_tag, ar_tag, i_zero, i_add, i_sub, i_mul, i_lt, i_le, i_eq, i_val, if_pos, if_neg, Option.toList_some, Option.toList_none, List.cons_append, List.nil_append, beq_self_eq_true, true_or, or_true, up_at, up_ne, ↓reduceIte, Nat.reduceEqDiff, le_t, le_f, lt_t, lt_f, eq_t, eq_f, nq_t, nq_f, nl_t, nl_f, and_true, true_and, and_false, false_and, not_true_eq_false, not_false_eq_true, or_false, false_or, az_tag, al_tag, az_get, az_put, am_bh_wz, gX, gT, gW, gS, gA, gL, gM, gE, gN, gX_11, gX_1, gX_2, gT_1, gW_0, gW_1, gW_2, gW_3, gW_12, gW_13, gA_1, gL_1, gE_3, gM_0, gM_1, gM_2, gM_3, gN_0, gN_2, gN_3, gN_4, gN_5, gN_10, gN_11, gN_17, gN_18, gN_23, gN_24, gN_29, gN_35, gN_36, gN_42, am_p_p, Int.toNat_natCast, aq_tag, am_rq_c, am_bh_wq, aq_get3, aq_get4, aq_put3, Int.reduceAdd, Int.reduceSub, Int.reduceMul, Int.reduceToNat, c96, s96_0, s96_1, s96_2, s96_5, s96_6, s96_8, s96_11, s96_13, s96_14, s96_15, s96_18, s96_21, s96_24, s96_25, s96_26, s96_28, s96_29, s96_32, s96_33, s96_34, s96_37, s96_40, s96_41, s96_44, s96_45, s96_48, s96_49, s96_52, s96_54, s96_55, s96_59, s96_60, s96_61, s96_64, s96_67, s96_70, s96_73, s96_74, s96_75, s96_78, s96_81, s96_82, s96_83, s96_84, s96_85, s96_88, a1, t0, pb, e1, b1, u0]
  · rw [if_neg q1, if_neg q1]
    refine ⟨A, ?_, ⟨t, u, q, ap, hA, hT, hP, hUu, hS, hB, hK, hE, hM, hQ, hNn, hW⟩, fun _ _ => rfl⟩
    by_cases q3 : n < 1 <;> simp (disch := omega) only [am_bv_some, am_bi_int, am_bl_long, am_br_ref, am_bc_some, am_bq_some, am_gf_c, am_rd_c, am_bh_pf, am_bh_wr, am_g_p, ob_get, ob_put, ar_get, ar_put, ob_tag, ar_tag, i_zero, i_add, i_sub, i_mul, i_lt, i_le, i_eq, i_val, if_pos, if_neg, Option.toList_some, Option.toList_none, List.cons_append, List.nil_append, beq_self_eq_true, true_or, or_true, up_at, up_ne, ↓reduceIte, Nat.reduceEqDiff, le_t, le_f, lt_t, lt_f, eq_t, eq_f, nq_t, nq_f, nl_t, nl_f, and_true, true_and, and_false, false_and, not_true_eq_false, not_false_eq_true, or_false, false_or, az_tag, al_tag, az_get, az_put, am_bh_wz, gX, gT, gW, gS, gA, gL, gM, gE, gN, gX_11, gX_1, gX_2, gT_1, gW_0, gW_1, gW_2, gW_3, gW_12, gW_13, gA_1, gL_1, gE_3, gM_0, gM_1, gM_2, gM_3, gN_0, gN_2, gN_3, gN_4, gN_5, gN_10, gN_11, gN_17, gN_18, gN_23, gN_24, gN_29, gN_35, gN_36, gN_42, am_p_p, Int.toNat_natCast, aq_tag, am_rq_c, am_bh_wq, aq_get3, aq_get4, aq_put3, Int.reduceAdd, Int.reduceSub, Int.reduceMul, Int.reduceToNat, c96, s96_0, s96_1, s96_2, s96_5, s96_6, s96_8, s96_11, s96_13, s96_14, s96_15, s96_18, s96_21, s96_24, s96_25, s96_26, s96_28, s96_29, s96_32, s96_33, s96_34, s96_37, s96_40, s96_41, s96_44, s96_45, s96_48, s96_49, s96_52, s96_54, s96_55, s96_58, s96_59, s96_60, s96_61, s96_64, s96_67, s96_70, s96_73, s96_74, s96_75, s96_78, s96_81, s96_82, s96_83, s96_84, s96_85, s96_88, a1]
