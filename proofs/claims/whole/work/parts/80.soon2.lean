theorem XI.FSw {A : am_H} {S : Nat → Nat → Int} {sd : Int64} (hI : XI A S sd) : ∃ (t u : Nat) (kd fe : Int) (ap : Nat → Int), (t = 4 ∨ t = 13) ∧ am_g A 1 = ob 10 12 (gX t u sd) ∧ am_g A t = ob 8 14 (gW t (S 1 1) (S 1 2) (S 1 3) (S 1 4) kd fe) ∧ FSw A S t kd fe ap ∧ XE A := by
  have h := hI
  obtain ⟨t, u, q, ap, hA, hT, hP, hUu, hS, hB, hK, hE, hM, hQ, hNn, hW⟩ := h
  have htu := hA.2.1
  have a1 := hA.1
  have a2 := hA.2.2.1
  have a3 := hA.2.2.2
  obtain ⟨⟨kd, fe, t0⟩, t1, t2, t3, t4, ⟨tst, t5⟩, t6, t7, t8⟩ := id hT
  obtain ⟨n0, n1, n2, n3⟩ := id hNn
  obtain ⟨s0, s1, s2, s3⟩ := id hS
  exact ⟨t, u, kd, fe, ap, by omega, a1, t0, ⟨⟨by omega, t0, t1, t2, t3, t4, t6, s0, s3, hE.1⟩, t7, t8, hP, s1, s2⟩, hE⟩
/-- what will be, and the world with it -/
theorem XI.fore {A : am_H} {S : Nat → Nat → Int} {sd : Int64} {c : Nat} (d : Nat) (hI : XI A S sd) (hR : RR S c) : ∃ (t u P : Nat) (A' : am_H) (kd fe : Int), S 1 3 = (P : Int) ∧ P ≤ 6 ∧ (t = 4 ∨ t = 13) ∧ am_g A 1 = ob 10 12 (gX t u sd) ∧ am_g A t = ob 8 14 (gW t (S 1 1) (S 1 2) (S 1 3) (S 1 4) kd fe) ∧ am_call (d + 5) 14 [.ref 77, .ref t, .ref 22] A = some (none, A') ∧ FSh A' S P ∧ XI A' S sd ∧ FX A A' ∧ am_g A' 1 = ob 10 12 (gX t u sd) ∧ am_g A' t = ob 8 14 (gW t (S 1 1) (S 1 2) (S 1 3) (S 1 4) kd fe) := by
  obtain ⟨t, u, kd, fe, ap, ht, a1, t0, hW, hE⟩ := hI.FSw
  have h6 := hR.1.2.2.2.1
  obtain ⟨P, hP⟩ : ∃ P : Nat, S 1 3 = (P : Int) := ⟨(S 1 3).toNat, by omega⟩
  obtain ⟨A', r1, r2, r3⟩ := p_foresee d t c P A S kd fe ap hR hP hW hE
  obtain ⟨-, -, -, -, -, -, -, -, -, -, -, -, hM, hQ, -, hWw⟩ := id hI
  have kE : XE A' := by
    obtain ⟨z1, z2, ⟨bo, z3, -⟩, tg, z4, -⟩ := id r2
    exact ⟨z1, z2, ⟨bo, z3⟩, ⟨tg, z4⟩⟩
  exact ⟨t, u, P, A', kd, fe, hP, by omega, ht, a1, t0, r1, r2, hI.scr (fun i hi => r3 i (by omega)) kE (hM.congr (fun i a b => r3 i (by omega))) (hQ.congr (fun i a b => r3 i (by omega))) (hWw.congr (fun i a b => r3 i (by omega))), fun i hi => r3 i (by omega), by rw [r3 _ (by omega)]; exact a1, by rw [r3 _ (by omega)]; exact t0⟩
theorem FSh.congr {A A' : am_H} {S : Nat → Nat → Int} {P : Nat} (h : FSh A S P) (g : ∀ i, 77 ≤ i → i ≤ 80 → am_g A' i = am_g A i) : FSh A' S P := by
  obtain ⟨z1, ⟨f, z2⟩, ⟨bo, z3, z3'⟩, tg, z4, z4'⟩ := h
  exact ⟨by rw [g _ (by omega) (by omega)]; exact z1, ⟨f, by rw [g _ (by omega) (by omega)]; exact z2⟩, ⟨bo, by rw [g _ (by omega) (by omega)]; exact z3, z3'⟩, tg, by rw [g _ (by omega) (by omega)]; exact z4, z4'⟩
theorem x_leastClocks (d c t u P : Nat) (A : am_H) (S : Nat → Nat → Int) (sd : Int64) (F : Int) (hI : XI A S sd) (hR : RR S c) (hF : 0 ≤ F ∧ F < 64) (hH : FSh A S P) (hP : S 1 3 = (P : Int)) (b1 : am_g A 1 = ob 10 12 (gX t u sd)) : ∃ A' i, am_call (d + 9) 99 [.ref 1, .int (Int32.ofInt F)] A = some (some (.int (Int32.ofInt (SS S F).1)), A') ∧ XI A' S sd ∧ FSh A' S P ∧ (∀ i, (i < 81 ∨ 84 < i) → am_g A' i = am_g A i) ∧ LMh A' S F P ∧ am_g A' 81 = ob 3 7 (gM (((LM S F).length : Nat) : Int) ((i : Nat) : Int) (P : Int) F) ∧ ((SS S F).1 ≠ 2147483647 → i < (LM S F).length ∧ (LM S F).getD i [] = (SS S F).2) := by
  obtain ⟨t', u', P', A1, kd, fe, hP', h6, ht, a1, t0, e1, hL, e3, hI', hN, b1', b0⟩ := hI.list d F hR hF
  have hPP : P' = P := by omega
  subst hPP
  have hg : ob 10 12 (gX t u sd) = ob 10 12 (gX t' u' sd) := b1.symm.trans a1
  have htt : t = t' := by
    have h2 : (ob 10 12 (gX t u sd)).2[1]? = (ob 10 12 (gX t' u' sd)).2[1]? := by rw [hg]
    have h3 : (some (Value.ref t) : Option Value) = some (Value.ref t') := h2
    injection h3 with h4
    injection h4
  subst htt
  have hH1 : FSh A1 S P' := hH.congr (fun i a b => e3 i (by omega))
  obtain ⟨A2, i, c1, c2, c3, c4⟩ := p_findSoonest (d + 4) P' c A1 S F hR hF hL hH1 hP' h6
  have hL2 : LMh A2 S F P' := by
    obtain ⟨-, ⟨op, l2, l2'⟩, ⟨g, l3, l3'⟩, f, l4⟩ := id hL
    exact ⟨⟨(i : Int), c2⟩, ⟨op, by rw [c3 _ (by omega)]; exact l2, l2'⟩, ⟨g, by rw [c3 _ (by omega)]; exact l3, l3'⟩, f, by rw [c3 _ (by omega)]; exact l4⟩
  have kM : XM A2 := by
    obtain ⟨-, ⟨op, k2, -⟩, ⟨g, k3, -⟩, k4⟩ := id hL2
    exact ⟨⟨_, _, _, _, c2⟩, ⟨op, k2⟩, ⟨g, k3⟩, k4⟩
  obtain ⟨-, -, -, -, -, -, -, -, -, -, -, hE, -, hQ, -, hW⟩ := id hI'
  refine ⟨A2, i, ?_, hI'.scr (fun j hj => c3 j (by omega)) (hE.congr (fun j a b => c3 j (by omega))) kM (hQ.congr (fun j a b => c3 j (by omega))) (hW.congr (fun j a b => c3 j (by omega))), hH1.congr (fun j a b => c3 j (by omega)), fun j hj => by rw [c3 j (by omega)]; exact e3 j hj, hL2, c2, c4⟩
  simp (disch := omega) only [am_bv_some, am_bi_int, am_bl_long, am_br_ref, am_bc_some, am_bq_some, am_gf_c, am_rd_c, am_bh_pf, am_bh_wr, am_g_p, ob_get, ob_put, ar_get, ar_put, ob_tag, ar_tag, i_zero, i_add, i_sub, i_mul, i_lt, i_le, i_eq, i_val, if_pos, if_neg, Option.toList_some, Option.toList_none, List.cons_append, List.nil_append, beq_self_eq_true, true_or, or_true, up_at, up_ne, ↓reduceIte, Nat.reduceEqDiff, le_t, le_f, lt_t, lt_f, eq_t, eq_f, nq_t, nq_f, nl_t, nl_f, and_true, true_and, and_false, false_and, not_true_eq_false, not_false_eq_true, or_false, false_or, az_tag, al_tag, az_get, az_put, am_bh_wz, gX, gT, gW, gS, gA, gL, gM, gE, gN, gX_11, gX_1, gX_2, gT_1, gW_0, gW_1, gW_2, gW_3, gW_12, gW_13, gA_1, gL_1, gE_3, gM_0, gM_1, gM_2, gM_3, gN_0, gN_2, gN_3, gN_4, gN_5, gN_10, gN_11, gN_17, gN_18, gN_23, gN_24, gN_29, gN_35, gN_36, gN_42, am_p_p, Int.toNat_natCast, aq_tag, am_rq_c, am_bh_wq, aq_get3, aq_get4, aq_put3, Int.reduceAdd, Int.reduceSub, Int.reduceMul, Int.reduceToNat, c99, s99_0, s99_1, s99_4, s99_5, s99_8, s99_9, s99_12, s99_13, s99_16, s99_17, s99_20, s99_21, s99_24, s99_27, a1, e1, b1', c1]
def soonestR (S : Nat → Nat → Int) : Int := onn (SS S (S 1 4)).1
theorem x_soonest (d c : Nat) (A : am_H) (S : Nat → Nat → Int) (sd : Int64) (hI : XI A S sd) (hR : RR S c) : ∃ A', am_call (d + 20) 83 [.ref 1] A = some (some (.int (Int32.ofInt (soonestR S))), A') ∧ XI A' S sd ∧ FX A A' := by
  have hF := hR.1.F64
  obtain ⟨t, u, P, A1, kd, fe, hP, h6, ht, a1, t0, r1, hH, hI1, hX, b1, b0⟩ := hI.fore (d + 14) hR
  obtain ⟨A2, i, c1, hI2, hH2, e3, hL, k81, c4⟩ := x_leastClocks (d + 10) c t u P A1 S sd (S 1 4) hI1 hR hF hH hP b1
  have rg := ss_rng (F := S 1 4) hR hP h6 (LM S (S 1 4)).length (Nat.le_refl _)
  have eS : SS S (S 1 4) = tk (ssF S (S 1 4) P) (2147483647, []) (LM S (S 1 4)) (LM S (S 1 4)).length := by unfold SS; rw [show (S 1 3).toNat = P by omega]
  rw [← eS] at rg
  have po' := fun d => p_orNone d A2 (SS S (S 1 4)).1 (by omega)
  refine ⟨A2, ?_, hI2, fun j hj => by rw [e3 j (by omega)]; exact hX j hj⟩
  unfold soonestR
  simp (disch := omega) only [am_bv_some, am_bi_int, am_bl_long, am_br_ref, am_bc_some, am_bq_some, am_gf_c, am_rd_c, am_bh_pf, am_bh_wr, am_g_p, ob_get, ob_put, ar_get, ar_put, ob_tag, ar_tag, i_zero, i_add, i_sub, i_mul, i_lt, i_le, i_eq, i_val, if_pos, if_neg, Option.toList_some, Option.toList_none, List.cons_append, List.nil_append, beq_self_eq_true, true_or, or_true, up_at, up_ne, ↓reduceIte, Nat.reduceEqDiff, le_t, le_f, lt_t, lt_f, eq_t, eq_f, nq_t, nq_f, nl_t, nl_f, and_true, true_and, and_false, false_and, not_true_eq_false, not_false_eq_true, or_false, false_or, az_tag, al_tag, az_get, az_put, am_bh_wz, gX, gT, gW, gS, gA, gL, gM, gE, gN, gX_11, gX_1, gX_2, gT_1, gW_0, gW_1, gW_2, gW_3, gW_12, gW_13, gA_1, gL_1, gE_3, gM_0, gM_1, gM_2, gM_3, gN_0, gN_2, gN_3, gN_4, gN_5, gN_10, gN_11, gN_17, gN_18, gN_23, gN_24, gN_29, gN_35, gN_36, gN_42, am_p_p, Int.toNat_natCast, aq_tag, am_rq_c, am_bh_wq, aq_get3, aq_get4, aq_put3, Int.reduceAdd, Int.reduceSub, Int.reduceMul, Int.reduceToNat, c83, s83_0, s83_1, s83_4, s83_5, s83_8, s83_9, s83_12, s83_15, s83_16, s83_17, s83_20, s83_23, s83_26, s83_29, a1, t0, r1, b1, b0, c1, po']
def soonestWithR (S : Nat → Nat → Int) (z : Int) : Int := if 0 ≤ z ∧ z < S 1 3 then (if (SS S (S 1 4)).1 = 2147483647 then -9 else (((SS S (S 1 4)).2.getD z.toNat 0 : Nat) : Int)) else -1
theorem x_soonestWith (d c : Nat) (A : am_H) (S : Nat → Nat → Int) (sd : Int64) (z : Int) (hI : XI A S sd) (hR : RR S c) (hz : -2147483648 ≤ z ∧ z ≤ 2147483647) : ∃ A', am_call (d + 20) 84 [.ref 1, .int (Int32.ofInt z)] A = some (some (.int (Int32.ofInt (soonestWithR S z))), A') ∧ XI A' S sd ∧ FX A A' := by
  have hF := hR.1.F64
  obtain ⟨t, u, P, A1, kd, fe, hP, h6, ht, a1, t0, r1, hH, hI1, hX, b1, b0⟩ := hI.fore (d + 14) hR
  have px := fun d => p_hasPerson d A t _ _ _ _ _ _ z t0 (by omega) hz
  unfold soonestWithR
  by_cases q0 : 0 ≤ z ∧ z < S 1 3
  · rw [if_pos q0] at px ⊢
    obtain ⟨p, rfl⟩ : ∃ p : Nat, z = (p : Int) := ⟨z.toNat, by omega⟩
    rw [Int.toNat_natCast]
    obtain ⟨A2, i, c1, hI2, hH2, e3, hL, k81, c4⟩ := x_leastClocks (d + 10) c t u P A1 S sd (S 1 4) hI1 hR hF hH hP b1
    have rg := ss_rng (F := S 1 4) hR hP h6 (LM S (S 1 4)).length (Nat.le_refl _)
    have eS : SS S (S 1 4) = tk (ssF S (S 1 4) P) (2147483647, []) (LM S (S 1 4)) (LM S (S 1 4)).length := by unfold SS; rw [show (S 1 3).toNat = P by omega]
    rw [← eS] at rg
    refine ⟨A2, ?_, hI2, fun j hj => by rw [e3 j (by omega)]; exact hX j hj⟩
    have b12 : am_g A2 1 = ob 10 12 (gX t u sd) := by rw [e3 _ (by omega)]; exact b1
    by_cases q1 : (SS S (S 1 4)).1 = 2147483647
    · rw [if_pos q1]
      rw [q1] at c1
      simp (disch := omega) only [am_bv_some, am_bi_int, am_bl_long, am_br_ref, am_bc_some, am_bq_some, am_gf_c, am_rd_c, am_bh_pf, am_bh_wr, am_g_p, ob_get, ob_put, ar_get, ar_put, ob_tag, ar_tag, i_zero, i_add, i_sub, i_mul, i_lt, i_le, i_eq, i_val, if_pos, if_neg, Option.toList_some, Option.toList_none, List.cons_append, List.nil_append, beq_self_eq_true, true_or, or_true, up_at, up_ne, ↓reduceIte, Nat.reduceEqDiff, le_t, le_f, lt_t, lt_f, eq_t, eq_f, nq_t, nq_f, nl_t, nl_f, and_true, true_and, and_false, false_and, not_true_eq_false, not_false_eq_true, or_false, false_or, az_tag, al_tag, az_get, az_put, am_bh_wz, gX, gT, gW, gS, gA, gL, gM, gE, gN, gX_11, gX_1, gX_2, gT_1, gW_0, gW_1, gW_2, gW_3, gW_12, gW_13, gA_1, gL_1, gE_3, gM_0, gM_1, gM_2, gM_3, gN_0, gN_2, gN_3, gN_4, gN_5, gN_10, gN_11, gN_17, gN_18, gN_23, gN_24, gN_29, gN_35, gN_36, gN_42, am_p_p, Int.toNat_natCast, aq_tag, am_rq_c, am_bh_wq, aq_get3, aq_get4, aq_put3, Int.reduceAdd, Int.reduceSub, Int.reduceMul, Int.reduceToNat, c84, s84_0, s84_1, s84_4, s84_5, s84_8, s84_11, s84_12, s84_13, s84_14, s84_17, s84_18, s84_21, s84_22, s84_25, s84_28, s84_29, s84_30, s84_33, s84_36, s84_39, s84_41, s84_44, s84_46, s84_47, s84_48, s84_51, s84_52, s84_55, s84_58, s84_59, s84_62, a1, t0, px, r1, b1, b0, c1]
    · rw [if_neg q1]
      obtain ⟨hi, hg⟩ := c4 q1
      have pm := fun d => p_mate d i p P A2 S (S 1 4) hL hi (by omega) h6 hF
      rw [hg] at pm
      generalize SS S (S 1 4) = x at c1 rg q1 pm
      simp (disch := omega) only [am_bv_some, am_bi_int, am_bl_long, am_br_ref, am_bc_some, am_bq_some, am_gf_c, am_rd_c, am_bh_pf, am_bh_wr, am_g_p, ob_get, ob_put, ar_get, ar_put, ob_tag, ar_tag, i_zero, i_add, i_sub, i_mul, i_lt, i_le, i_eq, i_val, if_pos, if_neg, Option.toList_some, Option.toList_none, List.cons_append, List.nil_append, beq_self_eq_true, true_or, or_true, up_at, up_ne, ↓reduceIte, Nat.reduceEqDiff, le_t, le_f, lt_t, lt_f, eq_t, eq_f, nq_t, nq_f, nl_t, nl_f, and_true, true_and, and_false, false_and, not_true_eq_false, not_false_eq_true, or_false, false_or, az_tag, al_tag, az_get, az_put, am_bh_wz, gX, gT, gW, gS, gA, gL, gM, gE, gN, gX_11, gX_1, gX_2, gT_1, gW_0, gW_1, gW_2, gW_3, gW_12, gW_13, gA_1, gL_1, gE_3, gM_0, gM_1, gM_2, gM_3, gN_0, gN_2, gN_3, gN_4, gN_5, gN_10, gN_11, gN_17, gN_18, gN_23, gN_24, gN_29, gN_35, gN_36, gN_42, am_p_p, Int.toNat_natCast, aq_tag, am_rq_c, am_bh_wq, aq_get3, aq_get4, aq_put3, Int.reduceAdd, Int.reduceSub, Int.reduceMul, Int.reduceToNat, c84, s84_0, s84_1, s84_4, s84_5, s84_8, s84_11, s84_12, s84_13, s84_14, s84_17, s84_18, s84_21, s84_22, s84_25, s84_28, s84_29, s84_30, s84_33, s84_36, s84_39, s84_41, s84_44, s84_46, s84_47, s84_48, s84_51, s84_52, s84_55, s84_58, s84_59, s84_62, a1, t0, px, r1, b1, b0, c1, b12, k81, pm]
  · rw [if_neg q0] at px ⊢
    refine ⟨A, ?_, hI, fun _ _ => rfl⟩
    simp (disch := omega) only [am_bv_some, am_bi_int, am_bl_long, am_br_ref, am_bc_some, am_bq_some, am_gf_c, am_rd_c, am_bh_pf, am_bh_wr, am_g_p, ob_get, ob_put, ar_get, ar_put, ob_tag, ar_tag, i_zero, i_add, i_sub, i_mul, i_lt, i_le, i_eq, i_val, if_pos, if_neg, Option.toList_some, Option.toList_none, List.cons_append, List.nil_append, beq_self_eq_true, true_or, or_true, up_at, up_ne, ↓reduceIte, Nat.reduceEqDiff, le_t, le_f, lt_t, lt_f, eq_t, eq_f, nq_t, nq_f, nl_t, nl_f, and_true, true_and, and_false, false_and, not_true_eq_false, not_false_eq_true, or_false, false_or, az_tag, al_tag, az_get, az_put, am_bh_wz, gX, gT, gW, gS, gA, gL, gM, gE, gN, gX_11, gX_1, gX_2, gT_1, gW_0, gW_1, gW_2, gW_3, gW_12, gW_13, gA_1, gL_1, gE_3, gM_0, gM_1, gM_2, gM_3, gN_0, gN_2, gN_3, gN_4, gN_5, gN_10, gN_11, gN_17, gN_18, gN_23, gN_24, gN_29, gN_35, gN_36, gN_42, am_p_p, Int.toNat_natCast, aq_tag, am_rq_c, am_bh_wq, aq_get3, aq_get4, aq_put3, Int.reduceAdd, Int.reduceSub, Int.reduceMul, Int.reduceToNat, c84, s84_0, s84_1, s84_4, s84_5, s84_8, s84_11, s84_12, s84_13, s84_14, s84_17, s84_18, s84_21, s84_22, s84_25, s84_28, s84_29, s84_30, s84_33, s84_36, s84_39, s84_41, s84_44, s84_46, s84_47, s84_48, s84_51, s84_52, s84_55, s84_58, s84_59, s84_62, a1, px]
def xf (F : Int) (p : Nat) : Int := if bi F p = 1 then F - (2 ^ p : Nat) else F + (2 ^ p : Nat)
theorem i_xor_fin : ∀ F : Fin 64, ∀ p : Fin 6, Int32.ofInt ((F : Nat) : Int) ^^^ (Int32.ofInt 1 <<< (Int32.ofInt ((p : Nat) : Int) &&& 31)) = Int32.ofInt (xf ((F : Nat) : Int) p) ∧ 0 ≤ xf ((F : Nat) : Int) p ∧ xf ((F : Nat) : Int) p < 64 := by decide +kernel
theorem i_xor {F : Int} {p : Nat} (hF : 0 ≤ F ∧ F < 64) (hp : p < 6) : Int32.ofInt F ^^^ (Int32.ofInt 1 <<< (Int32.ofInt (p : Int) &&& 31)) = Int32.ofInt (xf F p) ∧ 0 ≤ xf F p ∧ xf F p < 64 := by
  obtain ⟨f, rfl⟩ : ∃ f : Nat, F = (f : Int) := ⟨F.toNat, by omega⟩
  exact i_xor_fin ⟨f, by omega⟩ ⟨p, hp⟩
def worthR (S : Nat → Nat → Int) (z : Int) : Int := if 0 ≤ z ∧ z < S 1 3 then (if (SS S (S 1 4)).1 = 2147483647 ∨ (SS S (xf (S 1 4) z.toNat)).1 = 2147483647 then -9 else (SS S (xf (S 1 4) z.toNat)).1 - (SS S (S 1 4)).1 + 1000) else -1
theorem SS_rng {S : Nat → Nat → Int} {c P : Nat} (F : Int) (hR : RR S c) (hP : S 1 3 = (P : Int)) (h6 : P ≤ 6) : (SS S F).1 = 2147483647 ∨ 0 ≤ (SS S F).1 ∧ (SS S F).1 ≤ 960000 := by
  have rg := ss_rng (F := F) hR hP h6 (LM S F).length (Nat.le_refl _)
  unfold SS
  rw [show (S 1 3).toNat = P by omega]
  exact rg
theorem x_worth (d c : Nat) (A : am_H) (S : Nat → Nat → Int) (sd : Int64) (z : Int) (hI : XI A S sd) (hR : RR S c) (hz : -2147483648 ≤ z ∧ z ≤ 2147483647) : ∃ A', am_call (d + 20) 85 [.ref 1, .int (Int32.ofInt z)] A = some (some (.int (Int32.ofInt (worthR S z))), A') ∧ XI A' S sd ∧ FX A A' := by
  have hF := hR.1.F64
  obtain ⟨t, u, P, A1, kd, fe, hP, h6, ht, a1, t0, r1, hH, hI1, hX, b1, b0⟩ := hI.fore (d + 14) hR
  have px := fun d => p_hasPerson d A t _ _ _ _ _ _ z t0 (by omega) hz
  unfold worthR
  by_cases q0 : 0 ≤ z ∧ z < S 1 3
  · rw [if_pos q0] at px ⊢
    obtain ⟨p, rfl⟩ : ∃ p : Nat, z = (p : Int) := ⟨z.toNat, by omega⟩
    rw [Int.toNat_natCast]
    obtain ⟨x1, x2, x3⟩ := i_xor hF (p := p) (by omega)
    obtain ⟨A2, i, c1, hI2, hH2, e3, hL, k81, c4⟩ := x_leastClocks (d + 10) c t u P A1 S sd (S 1 4) hI1 hR hF hH hP b1
    have b12 : am_g A2 1 = ob 10 12 (gX t u sd) := by rw [e3 _ (by omega)]; exact b1
    have b02 : am_g A2 t = ob 8 14 (gW t (S 1 1) (S 1 2) (S 1 3) (S 1 4) kd fe) := by rw [e3 _ (by omega)]; exact b0
    obtain ⟨A3, i3, c13, hI3, hH3, e33, -, -, -⟩ := x_leastClocks (d + 10) c t u P A2 S sd (xf (S 1 4) p) hI2 hR ⟨x2, x3⟩ hH2 hP b12
    have rg := SS_rng (S 1 4) hR hP h6
    have rg2 := SS_rng (xf (S 1 4) p) hR hP h6
    refine ⟨A3, ?_, hI3, fun j hj => by rw [e33 j (by omega), e3 j (by omega)]; exact hX j hj⟩
    generalize (SS S (S 1 4)).1 = v1 at c1 rg ⊢
    generalize (SS S (xf (S 1 4) p)).1 = v2 at c13 rg2 ⊢
    by_cases q1 : v1 = 2147483647
    · rw [if_pos (Or.inl q1)]
      simp (disch := omega) only [am_bv_some, am_bi_int, am_bl_long, am_br_ref, am_bc_some, am_bq_some, am_gf_c, am_rd_c, am_bh_pf, am_bh_wr, am_g_p, ob_get, ob_put, ar_get, ar_put, ob_tag, ar_tag, i_zero, i_add, i_sub, i_mul, i_lt, i_le, i_eq, i_val, if_pos, if_neg, Option.toList_some, Option.toList_none, List.cons_append, List.nil_append, beq_self_eq_true, true_or, or_true, up_at, up_ne, ↓reduceIte, Nat.reduceEqDiff, le_t, le_f, lt_t, lt_f, eq_t, eq_f, nq_t, nq_f, nl_t, nl_f, and_true, true_and, and_false, false_and, not_true_eq_false, not_false_eq_true, or_false, false_or, az_tag, al_tag, az_get, az_put, am_bh_wz, gX, gT, gW, gS, gA, gL, gM, gE, gN, gX_11, gX_1, gX_2, gT_1, gW_0, gW_1, gW_2, gW_3, gW_12, gW_13, gA_1, gL_1, gE_3, gM_0, gM_1, gM_2, gM_3, gN_0, gN_2, gN_3, gN_4, gN_5, gN_10, gN_11, gN_17, gN_18, gN_23, gN_24, gN_29, gN_35, gN_36, gN_42, am_p_p, Int.toNat_natCast, aq_tag, am_rq_c, am_bh_wq, aq_get3, aq_get4, aq_put3, Int.reduceAdd, Int.reduceSub, Int.reduceMul, Int.reduceToNat, c85, s85_0, s85_1, s85_4, s85_5, s85_8, s85_11, s85_12, s85_13, s85_14, s85_17, s85_18, s85_21, s85_22, s85_25, s85_28, s85_29, s85_30, s85_33, s85_36, s85_39, s85_40, s85_41, s85_42, s85_45, s85_48, s85_49, s85_50, s85_51, s85_52, s85_55, s85_56, s85_57, s85_59, s85_62, s85_63, s85_65, s85_68, s85_70, s85_73, s85_74, s85_75, s85_76, s85_79, s85_80, a1, t0, px, r1, b1, b0, c1, b12, b02, x1, c13]
    · by_cases q2 : v2 = 2147483647
      · rw [if_pos (Or.inr q2)]
        simp (disch := omega) only [am_bv_some, am_bi_int, am_bl_long, am_br_ref, am_bc_some, am_bq_some, am_gf_c, am_rd_c, am_bh_pf, am_bh_wr, am_g_p, ob_get, ob_put, ar_get, ar_put, ob_tag, ar_tag, i_zero, i_add, i_sub, i_mul, i_lt, i_le, i_eq, i_val, if_pos, if_neg, Option.toList_some, Option.toList_none, List.cons_append, List.nil_append, beq_self_eq_true, true_or, or_true, up_at, up_ne, ↓reduceIte, Nat.reduceEqDiff, le_t, le_f, lt_t, lt_f, eq_t, eq_f, nq_t, nq_f, nl_t, nl_f, and_true, true_and, and_false, false_and, not_true_eq_false, not_false_eq_true, or_false, false_or, az_tag, al_tag, az_get, az_put, am_bh_wz, gX, gT, gW, gS, gA, gL, gM, gE, gN, gX_11, gX_1, gX_2, gT_1, gW_0, gW_1, gW_2, gW_3, gW_12, gW_13, gA_1, gL_1, gE_3, gM_0, gM_1, gM_2, gM_3, gN_0, gN_2, gN_3, gN_4, gN_5, gN_10, gN_11, gN_17, gN_18, gN_23, gN_24, gN_29, gN_35, gN_36, gN_42, am_p_p, Int.toNat_natCast, aq_tag, am_rq_c, am_bh_wq, aq_get3, aq_get4, aq_put3, Int.reduceAdd, Int.reduceSub, Int.reduceMul, Int.reduceToNat, c85, s85_0, s85_1, s85_4, s85_5, s85_8, s85_11, s85_12, s85_13, s85_14, s85_17, s85_18, s85_21, s85_22, s85_25, s85_28, s85_29, s85_30, s85_33, s85_36, s85_39, s85_40, s85_41, s85_42, s85_45, s85_48, s85_49, s85_50, s85_51, s85_52, s85_55, s85_56, s85_57, s85_59, s85_62, s85_63, s85_65, s85_68, s85_70, s85_73, s85_74, s85_75, s85_76, s85_79, s85_80, a1, t0, px, r1, b1, b0, c1, b12, b02, x1, c13]
      · rw [if_neg (fun e => e.elim q1 q2)]
        simp (disch := omega) only [am_bv_some, am_bi_int, am_bl_long, am_br_ref, am_bc_some, am_bq_some, am_gf_c, am_rd_c, am_bh_pf, am_bh_wr, am_g_p, ob_get, ob_put, ar_get, ar_put, ob_tag, ar_tag, i_zero, i_add, i_sub, i_mul, i_lt, i_le, i_eq, i_val, if_pos, if_neg, Option.toList_some, Option.toList_none, List.cons_append, List.nil_append, beq_self_eq_true, true_or, or_true, up_at, up_ne, ↓reduceIte, Nat.reduceEqDiff, le_t, le_f, lt_t, lt_f, eq_t, eq_f, nq_t, nq_f, nl_t, nl_f, and_true, true_and, and_false, false_and, not_true_eq_false, not_false_eq_true, or_false, false_or, az_tag, al_tag, az_get, az_put, am_bh_wz, gX, gT, gW, gS, gA, gL, gM, gE, gN, gX_11, gX_1, gX_2, gT_1, gW_0, gW_1, gW_2, gW_3, gW_12, gW_13, gA_1, gL_1, gE_3, gM_0, gM_1, gM_2, gM_3, gN_0, gN_2, gN_3, gN_4, gN_5, gN_10, gN_11, gN_17, gN_18, gN_23, gN_24, gN_29, gN_35, gN_36, gN_42, am_p_p, Int.toNat_natCast, aq_tag, am_rq_c, am_bh_wq, aq_get3, aq_get4, aq_put3, Int.reduceAdd, Int.reduceSub, Int.reduceMul, Int.reduceToNat, c85, s85_0, s85_1, s85_4, s85_5, s85_8, s85_11, s85_12, s85_13, s85_14, s85_17, s85_18, s85_21, s85_22, s85_25, s85_28, s85_29, s85_30, s85_33, s85_36, s85_39, s85_40, s85_41, s85_42, s85_45, s85_48, s85_49, s85_50, s85_51, s85_52, s85_55, s85_56, s85_57, s85_59, s85_62, s85_63, s85_65, s85_68, s85_70, s85_73, s85_74, s85_75, s85_76, s85_79, s85_80, a1, t0, px, r1, b1, b0, c1, b12, b02, x1, c13]
  · rw [if_neg q0] at px ⊢
    refine ⟨A, ?_, hI, fun _ _ => rfl⟩
    simp (disch := omega) only [am_bv_some, am_bi_int, am_bl_long, am_br_ref, am_bc_some, am_bq_some, am_gf_c, am_rd_c, am_bh_pf, am_bh_wr, am_g_p, ob_get, ob_put, ar_get, ar_put, ob_tag, ar_tag, i_zero, i_add, i_sub, i_mul, i_lt, i_le, i_eq, i_val, if_pos, if_neg, Option.toList_some, Option.toList_none, List.cons_append, List.nil_append, beq_self_eq_true, true_or, or_true, up_at, up_ne, ↓reduceIte, Nat.reduceEqDiff, le_t, le_f, lt_t, lt_f, eq_t, eq_f, nq_t, nq_f, nl_t, nl_f, and_true, true_and, and_false, false_and, not_true_eq_false, not_false_eq_true, or_false, false_or, az_tag, al_tag, az_get, az_put, am_bh_wz, gX, gT, gW, gS, gA, gL, gM, gE, gN, gX_11, gX_1, gX_2, gT_1, gW_0, gW_1, gW_2, gW_3, gW_12, gW_13, gA_1, gL_1, gE_3, gM_0, gM_1, gM_2, gM_3, gN_0, gN_2, gN_3, gN_4, gN_5, gN_10, gN_11, gN_17, gN_18, gN_23, gN_24, gN_29, gN_35, gN_36, gN_42, am_p_p, Int.toNat_natCast, aq_tag, am_rq_c, am_bh_wq, aq_get3, aq_get4, aq_put3, Int.reduceAdd, Int.reduceSub, Int.reduceMul, Int.reduceToNat, c85, s85_0, s85_1, s85_4, s85_5, s85_8, s85_11, s85_12, s85_13, s85_14, s85_17, s85_18, s85_21, s85_22, s85_25, s85_28, s85_29, s85_30, s85_33, s85_36, s85_39, s85_40, s85_41, s85_42, s85_45, s85_48, s85_49, s85_50, s85_51, s85_52, s85_55, s85_56, s85_57, s85_59, s85_62, s85_63, s85_65, s85_68, s85_70, s85_73, s85_74, s85_75, s85_76, s85_79, s85_80, a1, px]
def blw (f : Nat → Int) (Z : Int) : Nat → Int × Int
  | 0 => (Z, -9)
  | k + 1 => if f k < (blw f Z k).1 then (f k, (k : Int)) else blw f Z k
def byLawR (S : Nat → Nat → Int) : Int := (blw (fun k => (SS S (k : Int)).1) 2147483647 (2 ^ (S 1 3).toNat)).2
theorem i_shl_fin : ∀ p : Fin 7, Int32.ofInt 1 <<< (Int32.ofInt ((p : Nat) : Int) &&& 31) = Int32.ofInt ((2 ^ (p : Nat) : Nat) : Int) := by decide +kernel
theorem i_shl {p : Nat} (hp : p ≤ 6) : Int32.ofInt 1 <<< (Int32.ofInt (p : Int) &&& 31) = Int32.ofInt ((2 ^ p : Nat) : Int) := i_shl_fin ⟨p, by omega⟩
theorem x_byLaw (d c : Nat) (A : am_H) (S : Nat → Nat → Int) (sd : Int64) (hI : XI A S sd) (hR : RR S c) : ∃ A', am_call (d + 20) 86 [.ref 1] A = some (some (.int (Int32.ofInt (byLawR S))), A') ∧ XI A' S sd ∧ FX A A' := by
  obtain ⟨t, u, P, A1, kd, fe, hP, h6, ht, a1, t0, r1, hH, hI1, hX, b1, b0⟩ := hI.fore (d + 14) hR
  unfold byLawR
  rw [show (S 1 3).toNat = P by omega]
  have h64 : 2 ^ P ≤ 64 := by
    have : 2 ^ P ≤ 2 ^ 6 := Nat.pow_le_pow_right (by omega) h6
    omega
  have hsh := i_shl h6
  generalize 2 ^ P = Q at h64 hsh ⊢
  have hbl : ∀ k : Nat, (blw (fun k => (SS S (k : Int)).1) 2147483647 k).1 = 2147483647 ∨ 0 ≤ (blw (fun k => (SS S (k : Int)).1) 2147483647 k).1 ∧ (blw (fun k => (SS S (k : Int)).1) 2147483647 k).1 ≤ 960000 := by
    intro k
    induction k with
    | zero => left; rfl
    | succ k ih =>
      unfold blw
      split
      · exact SS_rng (k : Int) hR hP h6
      · exact ih
  have loop : ∀ (m k : Nat) (A : am_H) (x4 : Value), k + m = Q → XI A S sd → FSh A S P → am_g A 1 = ob 10 12 (gX t u sd) → am_g A t = ob 8 14 (gW t (S 1 1) (S 1 2) (S 1 3) (S 1 4) kd fe) → FX A1 A → ∃ A', am_run (d + 20) 86 23 [.ref 1, .int (Int32.ofInt (blw (fun k => (SS S (k : Int)).1) 2147483647 k).2), .int (Int32.ofInt (blw (fun k => (SS S (k : Int)).1) 2147483647 k).1), .int (Int32.ofInt (k : Int)), x4] [] A = some (some (.int (Int32.ofInt (blw (fun k => (SS S (k : Int)).1) 2147483647 (Q)).2)), A') ∧ XI A' S sd ∧ FX A1 A' := by
    intro m
    induction m with
    | zero =>
      intro k A x4 hk hI hH b1 b0 hX
      have : k = Q := by omega
      subst this
      refine ⟨A, ?_, hI, hX⟩
      rw [hP] at b0
      simp (disch := omega) only [am_bv_some, am_bi_int, am_bl_long, am_br_ref, am_bc_some, am_bq_some, am_gf_c, am_rd_c, am_bh_pf, am_bh_wr, am_g_p, ob_get, ob_put, ar_get, ar_put, ob_tag, ar_tag, i_zero, i_add, i_sub, i_mul, i_lt, i_le, i_eq, i_val, if_pos, if_neg, Option.toList_some, Option.toList_none, List.cons_append, List.nil_append, beq_self_eq_true, true_or, or_true, up_at, up_ne, ↓reduceIte, Nat.reduceEqDiff, le_t, le_f, lt_t, lt_f, eq_t, eq_f, nq_t, nq_f, nl_t, nl_f, and_true, true_and, and_false, false_and, not_true_eq_false, not_false_eq_true, or_false, false_or, az_tag, al_tag, az_get, az_put, am_bh_wz, gX, gT, gW, gS, gA, gL, gM, gE, gN, gX_11, gX_1, gX_2, gT_1, gW_0, gW_1, gW_2, gW_3, gW_12, gW_13, gA_1, gL_1, gE_3, gM_0, gM_1, gM_2, gM_3, gN_0, gN_2, gN_3, gN_4, gN_5, gN_10, gN_11, gN_17, gN_18, gN_23, gN_24, gN_29, gN_35, gN_36, gN_42, am_p_p, Int.toNat_natCast, aq_tag, am_rq_c, am_bh_wq, aq_get3, aq_get4, aq_put3, Int.reduceAdd, Int.reduceSub, Int.reduceMul, Int.reduceToNat, s86_0, s86_1, s86_4, s86_5, s86_8, s86_9, s86_12, s86_15, s86_17, s86_18, s86_20, s86_21, s86_22, s86_23, s86_24, s86_25, s86_26, s86_29, s86_32, s86_33, s86_36, s86_37, s86_38, s86_41, s86_43, s86_45, s86_46, s86_49, s86_51, s86_52, s86_53, s86_54, s86_57, s86_60, s86_61, b1, b0, hsh]
    | succ m ih =>
      intro k A x4 hk hI hH b1 b0 hX
      obtain ⟨A2, i, c1, hI2, hH2, e3, hL, k81, c4⟩ := x_leastClocks (d + 10) c t u P A S sd (k : Int) hI hR (by omega) hH hP b1
      have rg := SS_rng (k : Int) hR hP h6
      have rg2 := hbl k
      have hs : blw (fun k => (SS S (k : Int)).1) 2147483647 (k + 1) = if (SS S (k : Int)).1 < (blw (fun k => (SS S (k : Int)).1) 2147483647 k).1 then ((SS S (k : Int)).1, (k : Int)) else blw (fun k => (SS S (k : Int)).1) 2147483647 k := rfl
      obtain ⟨A3, d1, d2, d3⟩ := ih (k + 1) A2 (.int (Int32.ofInt (SS S (k : Int)).1)) (by omega) hI2 hH2 (by rw [e3 _ (by omega)]; exact b1) (by rw [e3 _ (by omega)]; exact b0) (fun j hj => by rw [e3 j (by omega)]; exact hX j hj)
      refine ⟨A3, ?_, d2, d3⟩
      rw [← d1, s86_23, hs]
      rw [hP] at b0
      generalize blw (fun k => (SS S (k : Int)).1) 2147483647 k = y at rg2 ⊢
      generalize (SS S (k : Int)).1 = v at c1 rg ⊢
      by_cases q : v < y.1
      · rw [if_pos q]
        simp (disch := omega) only [am_bv_some, am_bi_int, am_bl_long, am_br_ref, am_bc_some, am_bq_some, am_gf_c, am_rd_c, am_bh_pf, am_bh_wr, am_g_p, ob_get, ob_put, ar_get, ar_put, ob_tag, ar_tag, i_zero, i_add, i_sub, i_mul, i_lt, i_le, i_eq, i_val, if_pos, if_neg, Option.toList_some, Option.toList_none, List.cons_append, List.nil_append, beq_self_eq_true, true_or, or_true, up_at, up_ne, ↓reduceIte, Nat.reduceEqDiff, le_t, le_f, lt_t, lt_f, eq_t, eq_f, nq_t, nq_f, nl_t, nl_f, and_true, true_and, and_false, false_and, not_true_eq_false, not_false_eq_true, or_false, false_or, az_tag, al_tag, az_get, az_put, am_bh_wz, gX, gT, gW, gS, gA, gL, gM, gE, gN, gX_11, gX_1, gX_2, gT_1, gW_0, gW_1, gW_2, gW_3, gW_12, gW_13, gA_1, gL_1, gE_3, gM_0, gM_1, gM_2, gM_3, gN_0, gN_2, gN_3, gN_4, gN_5, gN_10, gN_11, gN_17, gN_18, gN_23, gN_24, gN_29, gN_35, gN_36, gN_42, am_p_p, Int.toNat_natCast, aq_tag, am_rq_c, am_bh_wq, aq_get3, aq_get4, aq_put3, Int.reduceAdd, Int.reduceSub, Int.reduceMul, Int.reduceToNat, s86_0, s86_1, s86_4, s86_5, s86_8, s86_9, s86_12, s86_15, s86_17, s86_18, s86_20, s86_21, s86_22, s86_24, s86_25, s86_26, s86_29, s86_32, s86_33, s86_36, s86_37, s86_38, s86_41, s86_43, s86_45, s86_46, s86_49, s86_51, s86_52, s86_53, s86_54, s86_57, s86_60, s86_61, b1, b0, hsh, c1, Int.natCast_add, Int.cast_ofNat_Int]
      · rw [if_neg q]
        simp (disch := omega) only [am_bv_some, am_bi_int, am_bl_long, am_br_ref, am_bc_some, am_bq_some, am_gf_c, am_rd_c, am_bh_pf, am_bh_wr, am_g_p, ob_get, ob_put, ar_get, ar_put, ob_tag, ar_tag, i_zero, i_add, i_sub, i_mul, i_lt, i_le, i_eq, i_val, if_pos, if_neg, Option.toList_some, Option.toList_none, List.cons_append, List.nil_append, beq_self_eq_true, true_or, or_true, up_at, up_ne, ↓reduceIte, Nat.reduceEqDiff, le_t, le_f, lt_t, lt_f, eq_t, eq_f, nq_t, nq_f, nl_t, nl_f, and_true, true_and, and_false, false_and, not_true_eq_false, not_false_eq_true, or_false, false_or, az_tag, al_tag, az_get, az_put, am_bh_wz, gX, gT, gW, gS, gA, gL, gM, gE, gN, gX_11, gX_1, gX_2, gT_1, gW_0, gW_1, gW_2, gW_3, gW_12, gW_13, gA_1, gL_1, gE_3, gM_0, gM_1, gM_2, gM_3, gN_0, gN_2, gN_3, gN_4, gN_5, gN_10, gN_11, gN_17, gN_18, gN_23, gN_24, gN_29, gN_35, gN_36, gN_42, am_p_p, Int.toNat_natCast, aq_tag, am_rq_c, am_bh_wq, aq_get3, aq_get4, aq_put3, Int.reduceAdd, Int.reduceSub, Int.reduceMul, Int.reduceToNat, s86_0, s86_1, s86_4, s86_5, s86_8, s86_9, s86_12, s86_15, s86_17, s86_18, s86_20, s86_21, s86_22, s86_24, s86_25, s86_26, s86_29, s86_32, s86_33, s86_36, s86_37, s86_38, s86_41, s86_43, s86_45, s86_46, s86_49, s86_51, s86_52, s86_53, s86_54, s86_57, s86_60, s86_61, b1, b0, hsh, c1, Int.natCast_add, Int.cast_ofNat_Int]
  obtain ⟨A2, l1, l2, l3⟩ := loop (Q) 0 A1 .null (by omega) hI1 hH b1 b0 (fun _ _ => rfl)
  refine ⟨A2, ?_, l2, fun j hj => by rw [l3 j hj]; exact hX j hj⟩
  rw [← l1]
  show _ = am_run (d + 20) 86 23 [.ref 1, .int (Int32.ofInt (-9)), .int (Int32.ofInt 2147483647), .int (Int32.ofInt ((0 : Nat) : Int)), .null] [] A1
  simp (disch := omega) only [am_bv_some, am_bi_int, am_bl_long, am_br_ref, am_bc_some, am_bq_some, am_gf_c, am_rd_c, am_bh_pf, am_bh_wr, am_g_p, ob_get, ob_put, ar_get, ar_put, ob_tag, ar_tag, i_zero, i_add, i_sub, i_mul, i_lt, i_le, i_eq, i_val, if_pos, if_neg, Option.toList_some, Option.toList_none, List.cons_append, List.nil_append, beq_self_eq_true, true_or, or_true, up_at, up_ne, ↓reduceIte, Nat.reduceEqDiff, le_t, le_f, lt_t, lt_f, eq_t, eq_f, nq_t, nq_f, nl_t, nl_f, and_true, true_and, and_false, false_and, not_true_eq_false, not_false_eq_true, or_false, false_or, az_tag, al_tag, az_get, az_put, am_bh_wz, gX, gT, gW, gS, gA, gL, gM, gE, gN, gX_11, gX_1, gX_2, gT_1, gW_0, gW_1, gW_2, gW_3, gW_12, gW_13, gA_1, gL_1, gE_3, gM_0, gM_1, gM_2, gM_3, gN_0, gN_2, gN_3, gN_4, gN_5, gN_10, gN_11, gN_17, gN_18, gN_23, gN_24, gN_29, gN_35, gN_36, gN_42, am_p_p, Int.toNat_natCast, aq_tag, am_rq_c, am_bh_wq, aq_get3, aq_get4, aq_put3, Int.reduceAdd, Int.reduceSub, Int.reduceMul, Int.reduceToNat, c86, s86_0, s86_1, s86_4, s86_5, s86_8, s86_9, s86_12, s86_15, s86_17, s86_18, s86_20, s86_21, s86_22, s86_24, s86_25, s86_26, s86_29, s86_32, s86_33, s86_36, s86_37, s86_38, s86_41, s86_43, s86_45, s86_46, s86_49, s86_51, s86_52, s86_53, s86_54, s86_57, s86_60, s86_61, a1, t0, r1, Int.cast_ofNat_Int]
