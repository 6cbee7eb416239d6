def bgn (f g : Nat → Int) (P : Nat) : Nat → Int := fun j => if j < P then g j else f j
theorem p_begin (d u P : Nat) (A : am_H) (n K P' F kd fe : Int) (st f8 f9 f10 : Nat → Int) (hu : u = 4 ∨ u = 13) (h0 : am_g A u = ob 8 14 (gW u n K P' F kd fe)) (hP : P' = (P : Int)) (h6 : P ≤ 6) (h5 : am_g A (u + 5) = ar 6 st) (h22 : am_g A 22 = ob 6 3 (gS 22)) (h23 : am_g A 23 = ar 6 f8) (h24 : am_g A 24 = ar 6 f9) (h25 : am_g A 25 = ar 6 f10) : ∃ A', am_call d 35 [.ref 22, .ref u] A = some (none, A') ∧ ∀ i, am_g A' i = if i = 23 then ar 6 (bgn f8 st P) else if i = 24 then ar 6 (bgn f9 (fun _ => 0) P) else if i = 25 then ar 6 (bgn f10 (fun _ => 0) P) else am_g A i := by
  subst hP
  have loop : ∀ (m k : Nat) (B : am_H) (g8 g9 g10 : Nat → Int), k + m = P → am_g B 23 = ar 6 g8 → am_g B 24 = ar 6 g9 → am_g B 25 = ar 6 g10 → (∀ i, i ≠ 23 → i ≠ 24 → i ≠ 25 → am_g B i = am_g A i) → (∀ j, g8 j = (if j < k then st j else f8 j) ∧ g9 j = (if j < k then 0 else f9 j) ∧ g10 j = (if j < k then 0 else f10 j)) → ∃ A', am_run d 35 2 [.ref 22, .ref u, .int (Int32.ofInt (k : Int))] [] B = some (none, A') ∧ ∀ i, am_g A' i = if i = 23 then ar 6 (bgn f8 st P) else if i = 24 then ar 6 (bgn f9 (fun _ => 0) P) else if i = 25 then ar 6 (bgn f10 (fun _ => 0) P) else am_g A i := by
    intro m
    induction m with
    | zero =>
      intro k B g8 g9 g10 hk b3 b4 b5 hf hg
      have : k = P := by omega
      subst this
      have w0 : am_g B u = ob 8 14 (gW u n K (k : Int) F kd fe) := by rw [hf _ (by omega) (by omega) (by omega)]; exact h0
      refine ⟨B, by simp (disch := omega) only [am_bv_some, am_bi_int, am_bl_long, am_br_ref, am_bc_some, am_bq_some, am_gf_c, am_rd_c, am_bh_pf, am_bh_wr, am_g_p, ob_get, ob_put, ar_get, ar_put, ob_tag, ar_tag, i_zero, i_add, i_sub, i_mul, i_lt, i_le, i_eq, i_val, if_pos, if_neg, Option.toList_some, Option.toList_none, List.cons_append, List.nil_append, beq_self_eq_true, true_or, or_true, up_at, up_ne, ↓reduceIte, Nat.reduceEqDiff, le_t, le_f, lt_t, lt_f, eq_t, eq_f, nq_t, nq_f, nl_t, nl_f, and_true, true_and, and_false, false_and, not_true_eq_false, not_false_eq_true, or_false, false_or, az_tag, al_tag, az_get, az_put, am_bh_wz, gX, gT, gW, gS, gA, gL, gM, gE, gN, gX_11, gX_1, gX_2, gT_1, gW_0, gW_1, gW_2, gW_3, gW_12, gW_13, gA_1, gL_1, gE_3, gM_0, gM_1, gM_2, gM_3, gN_0, gN_2, gN_3, gN_4, gN_5, gN_10, gN_11, gN_17, gN_18, gN_23, gN_24, gN_29, gN_35, gN_36, gN_42, am_p_p, Int.toNat_natCast, aq_tag, am_rq_c, am_bh_wq, aq_get3, aq_get4, aq_put3, Int.reduceAdd, Int.reduceSub, Int.reduceMul, Int.reduceToNat, s35_0, s35_1, s35_2, s35_3, s35_4, s35_7, s35_10, s35_11, s35_14, s35_15, s35_16, s35_19, s35_20, s35_21, s35_22, s35_23, s35_26, s35_27, s35_28, s35_29, s35_30, s35_33, s35_34, s35_35, s35_36, s35_39, s35_42, w0], fun i => ?_⟩
      by_cases u1 : i = 23
      · rw [if_pos u1, u1, b3]; exact ar_ext (fun j _ => (hg j).1)
      · rw [if_neg u1]
        by_cases u2 : i = 24
        · rw [if_pos u2, u2, b4]; exact ar_ext (fun j _ => (hg j).2.1)
        · rw [if_neg u2]
          by_cases u3 : i = 25
          · rw [if_pos u3, u3, b5]; exact ar_ext (fun j _ => (hg j).2.2)
          · rw [if_neg u3]; exact hf i u1 u2 u3
    | succ m ih =>
      intro k B g8 g9 g10 hk b3 b4 b5 hf hg
      have w0 : am_g B u = ob 8 14 (gW u n K (P : Int) F kd fe) := by rw [hf _ (by omega) (by omega) (by omega)]; exact h0
      have w5 : am_g B (u + 5) = ar 6 st := by rw [hf _ (by omega) (by omega) (by omega)]; exact h5
      have w22 : am_g B 22 = ob 6 3 (gS 22) := by rw [hf _ (by omega) (by omega) (by omega)]; exact h22
      obtain ⟨A', i1, i2⟩ := ih (k + 1) (am_p (am_p (am_p B 23 (ar 6 (up g8 k (st k)))) 24 (ar 6 (up g9 k 0))) 25 (ar 6 (up g10 k 0))) (up g8 k (st k)) (up g9 k 0) (up g10 k 0) (by omega) (by simp (disch := omega) only [am_bv_some, am_bi_int, am_bl_long, am_br_ref, am_bc_some, am_bq_some, am_gf_c, am_rd_c, am_bh_pf, am_bh_wr, am_g_p, ob_get, ob_put, ar_get, ar_put, ob_tag, ar_tag, i_zero, i_add, i_sub, i_mul, i_lt, i_le, i_eq, i_val, if_pos, if_neg, Option.toList_some, Option.toList_none, List.cons_append, List.nil_append, beq_self_eq_true, true_or, or_true, up_at, up_ne, ↓reduceIte, Nat.reduceEqDiff, le_t, le_f, lt_t, lt_f, eq_t, eq_f, nq_t, nq_f, nl_t, nl_f, and_true, true_and, and_false, false_and, not_true_eq_false, not_false_eq_true, or_false, false_or, az_tag, al_tag, az_get, az_put, am_bh_wz, gX, gT, gW, gS, gA, gL, gM, gE, gN, gX_11, gX_1, gX_2, gT_1, gW_0, gW_1, gW_2, gW_3, gW_12, gW_13, gA_1, gL_1, gE_3, gM_0, gM_1, gM_2, gM_3, gN_0, gN_2, gN_3, gN_4, gN_5, gN_10, gN_11, gN_17, gN_18, gN_23, gN_24, gN_29, gN_35, gN_36, gN_42, am_p_p, Int.toNat_natCast, aq_tag, am_rq_c, am_bh_wq, aq_get3, aq_get4, aq_put3, Int.reduceAdd, Int.reduceSub, Int.reduceMul, Int.reduceToNat, ]) (by simp (disch := omega) only [am_bv_some, am_bi_int, am_bl_long, am_br_ref, am_bc_some, am_bq_some, am_gf_c, am_rd_c, am_bh_pf, am_bh_wr, am_g_p, ob_get, ob_put, ar_get, ar_put, ob_tag, ar_tag, i_zero, i_add, i_sub, i_mul, i_lt, i_le, i_eq, i_val, if_pos, if_neg, Option.toList_some, Option.toList_none, List.cons_append, List.nil_append, beq_self_eq_true, true_or, or_true, up_at, up_ne, ↓reduceIte, Nat.reduceEqDiff, le_t, le_f, lt_t, lt_f, eq_t, eq_f, nq_t, nq_f, nl_t, nl_f, and_true, true_and, and_false, false_and, not_true_eq_false, not_false_eq_true, or_false, false_or, az_tag, al_tag, az_get, az_put, am_bh_wz, gX, gT, gW, gS, gA, gL, gM, gE, gN, gX_11, gX_1, gX_2, gT_1, gW_0, gW_1, gW_2, gW_3, gW_12, gW_13, gA_1, gL_1, gE_3, gM_0, gM_1, gM_2, gM_3, gN_0, gN_2, gN_3, gN_4, gN_5, gN_10, gN_11, gN_17, gN_18, gN_23, gN_24, gN_29, gN_35, gN_36, gN_42, am_p_p, Int.toNat_natCast, aq_tag, am_rq_c, am_bh_wq, aq_get3, aq_get4, aq_put3, Int.reduceAdd, Int.reduceSub, Int.reduceMul, Int.reduceToNat, ]) (by simp (disch := omega) only [am_bv_some, am_bi_int, am_bl_long, am_br_ref, am_bc_some, am_bq_some, am_gf_c, am_rd_c, am_bh_pf, am_bh_wr, am_g_p, ob_get, ob_put, ar_get, ar_put, ob_tag, ar_tag, i_zero, i_add, i_sub, i_mul, i_lt, i_le, i_eq, i_val, if_pos, if_neg, Option.toList_some, Option.toList_none, List.cons_append, List.nil_append, beq_self_eq_true, true_or, or_true, up_at, up_ne, ↓reduceIte, Nat.reduceEqDiff, le_t, le_f, lt_t, lt_f, eq_t, eq_f, nq_t, nq_f, nl_t, nl_f, and_true, true_and, and_false, false_and, not_true_eq_false, not_false_eq_true, or_false, false_or, az_tag, al_tag, az_get, az_put, am_bh_wz, gX, gT, gW, gS, gA, gL, gM, gE, gN, gX_11, gX_1, gX_2, gT_1, gW_0, gW_1, gW_2, gW_3, gW_12, gW_13, gA_1, gL_1, gE_3, gM_0, gM_1, gM_2, gM_3, gN_0, gN_2, gN_3, gN_4, gN_5, gN_10, gN_11, gN_17, gN_18, gN_23, gN_24, gN_29, gN_35, gN_36, gN_42, am_p_p, Int.toNat_natCast, aq_tag, am_rq_c, am_bh_wq, aq_get3, aq_get4, aq_put3, Int.reduceAdd, Int.reduceSub, Int.reduceMul, Int.reduceToNat, ]) (fun i u1 u2 u3 => by rw [am_g_p, if_neg u3, am_g_p, if_neg u2, am_g_p, if_neg u1]; exact hf i u1 u2 u3) (fun j => by
        by_cases e : j = k
        · subst e
          rw [up_at, up_at, up_at, if_pos (by omega), if_pos (by omega), if_pos (by omega)]
          exact ⟨rfl, rfl, rfl⟩
        · rw [up_ne _ _ e, up_ne _ _ e, up_ne _ _ e, (hg j).1, (hg j).2.1, (hg j).2.2]
          by_cases e2 : j < k
          · rw [if_pos e2, if_pos e2, if_pos e2, if_pos (by omega), if_pos (by omega), if_pos (by omega)]
            exact ⟨rfl, rfl, rfl⟩
          · rw [if_neg e2, if_neg e2, if_neg e2, if_neg (by omega), if_neg (by omega), if_neg (by omega)]
            exact ⟨rfl, rfl, rfl⟩)
      refine ⟨A', ?_, i2⟩
      rw [← i1, s35_2]
      simp (disch := omega) only [am_bv_some, am_bi_int, am_bl_long, am_br_ref, am_bc_some, am_bq_some, am_gf_c, am_rd_c, am_bh_pf, am_bh_wr, am_g_p, ob_get, ob_put, ar_get, ar_put, ob_tag, ar_tag, i_zero, i_add, i_sub, i_mul, i_lt, i_le, i_eq, i_val, if_pos, if_neg, Option.toList_some, Option.toList_none, List.cons_append, List.nil_append, beq_self_eq_true, true_or, or_true, up_at, up_ne, ↓reduceIte, Nat.reduceEqDiff, le_t, le_f, lt_t, lt_f, eq_t, eq_f, nq_t, nq_f, nl_t, nl_f, and_true, true_and, and_false, false_and, not_true_eq_false, not_false_eq_true, or_false, false_or, az_tag, al_tag, az_get, az_put, am_bh_wz, gX, gT, gW, gS, gA, gL, gM, gE, gN, gX_11, gX_1, gX_2, gT_1, gW_0, gW_1, gW_2, gW_3, gW_12, gW_13, gA_1, gL_1, gE_3, gM_0, gM_1, gM_2, gM_3, gN_0, gN_2, gN_3, gN_4, gN_5, gN_10, gN_11, gN_17, gN_18, gN_23, gN_24, gN_29, gN_35, gN_36, gN_42, am_p_p, Int.toNat_natCast, aq_tag, am_rq_c, am_bh_wq, aq_get3, aq_get4, aq_put3, Int.reduceAdd, Int.reduceSub, Int.reduceMul, Int.reduceToNat, s35_0, s35_1, s35_3, s35_4, s35_7, s35_10, s35_11, s35_14, s35_15, s35_16, s35_19, s35_20, s35_21, s35_22, s35_23, s35_26, s35_27, s35_28, s35_29, s35_30, s35_33, s35_34, s35_35, s35_36, s35_39, s35_42, w0, w5, w22, b3, b4, b5, Int.natCast_add, Int.cast_ofNat_Int]
  obtain ⟨A', r1, r2⟩ := loop P 0 A f8 f9 f10 (by omega) h23 h24 h25 (fun _ _ _ _ => rfl) (fun j => by rw [if_neg (by omega), if_neg (by omega), if_neg (by omega)]; exact ⟨rfl, rfl, rfl⟩)
  refine ⟨A', ?_, r2⟩
  rw [← r1]
  simp (disch := omega) only [am_bv_some, am_bi_int, am_bl_long, am_br_ref, am_bc_some, am_bq_some, am_gf_c, am_rd_c, am_bh_pf, am_bh_wr, am_g_p, ob_get, ob_put, ar_get, ar_put, ob_tag, ar_tag, i_zero, i_add, i_sub, i_mul, i_lt, i_le, i_eq, i_val, if_pos, if_neg, Option.toList_some, Option.toList_none, List.cons_append, List.nil_append, beq_self_eq_true, true_or, or_true, up_at, up_ne, ↓reduceIte, Nat.reduceEqDiff, le_t, le_f, lt_t, lt_f, eq_t, eq_f, nq_t, nq_f, nl_t, nl_f, and_true, true_and, and_false, false_and, not_true_eq_false, not_false_eq_true, or_false, false_or, az_tag, al_tag, az_get, az_put, am_bh_wz, gX, gT, gW, gS, gA, gL, gM, gE, gN, gX_11, gX_1, gX_2, gT_1, gW_0, gW_1, gW_2, gW_3, gW_12, gW_13, gA_1, gL_1, gE_3, gM_0, gM_1, gM_2, gM_3, gN_0, gN_2, gN_3, gN_4, gN_5, gN_10, gN_11, gN_17, gN_18, gN_23, gN_24, gN_29, gN_35, gN_36, gN_42, am_p_p, Int.toNat_natCast, aq_tag, am_rq_c, am_bh_wq, aq_get3, aq_get4, aq_put3, Int.reduceAdd, Int.reduceSub, Int.reduceMul, Int.reduceToNat, c35, s35_0, s35_1, s35_3, s35_4, s35_7, s35_10, s35_11, s35_14, s35_15, s35_16, s35_19, s35_20, s35_21, s35_22, s35_23, s35_26, s35_27, s35_28, s35_29, s35_30, s35_33, s35_34, s35_35, s35_36, s35_39, s35_42, h22, Int.cast_ofNat_Int]
/-- the state behind town -/
def twS (S T : Nat → Nat → Int) : Nat → Nat → Int := fun a => if a = 1 then (fun j => if j = 1 then T 1 1 else if j = 2 then T 1 2 else if j = 3 then T 1 3 else if j = 4 then T 1 4 else if j = 5 then 0 else if j = 7 then 0 else if j = 8 then 0 else S 1 j) else if a = 2 then T 2 else if a = 3 then T 3 else if a = 4 then T 4 else if a = 5 then T 5 else if a = 6 then T 6 else if a = 7 then T 7 else if a = 8 then bgn (S 8) (T 8) (T 1 3).toNat else if a = 9 then bgn (S 9) (fun _ => 0) (T 1 3).toNat else if a = 10 then bgn (S 10) (fun _ => 0) (T 1 3).toNat else S a
theorem tw_a {S T : Nat → Nat → Int} {a : Nat} (h : 11 ≤ a) : twS S T a = S a := by
  unfold twS
  rw [if_neg (by omega), if_neg (by omega), if_neg (by omega), if_neg (by omega), if_neg (by omega), if_neg (by omega), if_neg (by omega), if_neg (by omega), if_neg (by omega), if_neg (by omega)]
theorem x_town (d c : Nat) (A : am_H) (S : Nat → Nat → Int) (sd : Int64) (h : XI A S sd) (hR : RR S c) : ∃ (v : Int) (T' : Nat → Nat → Int) (A' : am_H), am_call (d + 20) 74 [.ref 1] A = some (some (.int (Int32.ofInt (if v = -9 then T' 1 3 else -3))), A') ∧ RDF (S 0) (S 1 0).toNat v T' ∧ (v = -9 → DT T') ∧ (v = -9 ∨ 0 ≤ v ∧ v ≤ 80) ∧ XI A' (if v = -9 then twS S T' else S) sd ∧ FX A A' := by
  obtain ⟨t, u, q, ap, hA, hT, hP, hUu, hS, hB, hK, hE, hM, hQ, hNn, hW⟩ := h
  have htu := hA.2.1
  have a1 := hA.1
  have a2 := hA.2.2.1
  have a3 := hA.2.2.2
  obtain ⟨⟨kd, fe, t0⟩, t1, t2, t3, t4, ⟨tst, t5⟩, t6, t7, t8⟩ := id hT
  obtain ⟨n0, n1, n2, n3⟩ := id hNn
  obtain ⟨s0, s1, s2, s3⟩ := id hS
  obtain ⟨⟨g1, g2, g3, g4, g5, g6, g7, g8, g9, g10, g11, g12, g13⟩, ⟨w1, w2, w3, w4⟩, g14, g15, g16, g17, g18⟩ := id hR
  obtain ⟨L, hLd⟩ : ∃ L : Nat, S 1 0 = (L : Int) := ⟨(S 1 0).toNat, by omega⟩
  rw [hLd, Int.toNat_natCast]
  obtain ⟨v, T', A1, r1, r2, r3, ⟨T2, kd2, fe2, r4⟩, r5, r6⟩ := p_readFrom (d + 14) u L (S 0) A (by omega) hUu (by rw [← hLd]; exact a2) a3 (by omega) g10
  have hg1 : ∀ i, (i < u ∨ u + 7 < i) → am_g A1 i = am_g A i := r3
  obtain ⟨wa, wb, wc, we, wg, wh, w0⟩ := hUu.1
  have hTS : TS S S := TS.rf S
  have x1 : am_g A1 1 = ob 10 12 (gX t u sd) := by rw [hg1 _ (by omega)]; exact a1
  by_cases qv : v = -9
  · obtain ⟨hD, kd3, fe3, hC⟩ := r5 qv
    subst qv
    obtain ⟨f8, u8⟩ := hUu.2.2.2.2.2.2.2.2
    have hC2 : CR (am_p A1 1 (ob 10 12 (gX u t sd))) u T' kd3 fe3 := by
      obtain ⟨hu, c0, c1, c2, c3, c4, c5, c6, c7⟩ := hC
      exact ⟨hu, by rw [am_g_p, if_neg (by omega)]; exact c0, by rw [am_g_p, if_neg (by omega)]; exact c1, by rw [am_g_p, if_neg (by omega)]; exact c2, by rw [am_g_p, if_neg (by omega)]; exact c3, by rw [am_g_p, if_neg (by omega)]; exact c4, by rw [am_g_p, if_neg (by omega)]; exact c5, by rw [am_g_p, if_neg (by omega)]; exact c6, by rw [am_g_p, if_neg (by omega)]; exact c7⟩
    obtain ⟨A3, ap', m1, m2, m3, m4⟩ := p_measure (d + 17) u (am_p A1 1 (ob 10 12 (gX u t sd))) T' kd3 fe3 f8 hC2 hD (by rw [am_g_p, if_neg (by omega), hg1 _ (by omega)]; exact u8)
    obtain ⟨P, hP3⟩ : ∃ P : Nat, T' 1 3 = (P : Int) := ⟨(T' 1 3).toNat, by have := hD.2.2.1; omega⟩
    have hP6 : P ≤ 6 := by have := hD.2.2.1; omega
    obtain ⟨hu, c0, c1, c2, c3, c4, c5, c6, c7⟩ := id hC2
    have k3 : ∀ i, i ≠ u + 8 → am_g A3 i = am_g (am_p A1 1 (ob 10 12 (gX u t sd))) i := m3
    have z : ∀ i, i ≠ 1 → (i < u ∨ u + 8 < i) → am_g A3 i = am_g A i := fun i u1 u2 => by rw [k3 i (by omega), am_g_p, if_neg u1]; exact hg1 i (by omega)
    have z1 : am_g A3 1 = ob 10 12 (gX u t sd) := by rw [k3 _ (by omega), am_g_p, if_pos rfl]
    have zu : am_g A3 u = ob 8 14 (gW u (T' 1 1) (T' 1 2) (T' 1 3) (T' 1 4) kd3 fe3) := by rw [k3 _ (by omega)]; exact c0
    obtain ⟨A4, b1, b2⟩ := p_begin (d + 19) u P A3 _ _ _ _ _ _ (T' 8) (S 8) (S 9) (S 10) hu zu hP3 hP6 (by rw [k3 _ (by omega)]; exact c5) (by rw [z _ (by omega) (by omega)]; exact s0) (by rw [z _ (by omega) (by omega)]; exact s1) (by rw [z _ (by omega) (by omega)]; exact s2) (by rw [z _ (by omega) (by omega)]; exact s3)
    have y : ∀ i, i ≠ 23 → i ≠ 24 → i ≠ 25 → am_g A4 i = am_g A3 i := fun i u1 u2 u3 => by rw [b2, if_neg u1, if_neg u2, if_neg u3]
    have y1 : am_g A4 1 = ob 10 12 (gX u t sd) := by rw [y _ (by omega) (by omega) (by omega)]; exact z1
    have yu : am_g A4 u = ob 8 14 (gW u (T' 1 1) (T' 1 2) (T' 1 3) (T' 1 4) kd3 fe3) := by rw [y _ (by omega) (by omega) (by omega)]; exact zu
    have yz : ∀ i, i ≠ 1 → (i < u ∨ u + 8 < i) → i ≠ 23 → i ≠ 24 → i ≠ 25 → am_g A4 i = am_g A i := fun i u1 u2 u3 u4 u5 => by rw [y i u3 u4 u5]; exact z i u1 u2
    have y26 : am_g A4 26 = ob 0 2 (gA (S 1 5)) := by rw [yz _ (by omega) (by omega) (by omega) (by omega) (by omega)]; exact hB.1
    have y76 : am_g A4 76 = aq 104 2 (fun j => 95 + 5 * j) := by rw [yz _ (by omega) (by omega) (by omega) (by omega) (by omega)]; exact hK.1
    have y95 : am_g A4 95 = ob 5 2 (gL 96 (S 1 7)) := by rw [yz _ (by omega) (by omega) (by omega) (by omega) (by omega)]; exact hK.2.1
    have y100 : am_g A4 100 = ob 5 2 (gL 101 (S 1 8)) := by rw [yz _ (by omega) (by omega) (by omega) (by omega) (by omega)]; exact hK.2.2.2.2.2.2.1
    obtain ⟨A5, hA5⟩ : ∃ A5, am_p (am_p (am_p A4 26 (ob 0 2 (gA 0))) 95 (ob 5 2 (gL 96 0))) 100 (ob 5 2 (gL 101 0)) = A5 := ⟨_, rfl⟩
    have hA5g : ∀ i, i ≠ 26 → i ≠ 95 → i ≠ 100 → am_g A5 i = am_g A4 i := fun i u1 u2 u3 => by rw [← hA5, am_g_p, if_neg u3, am_g_p, if_neg u2, am_g_p, if_neg u1]
    have v26 : am_g A5 26 = ob 0 2 (gA 0) := by rw [← hA5]; simp (disch := omega) only [am_bv_some, am_bi_int, am_bl_long, am_br_ref, am_bc_some, am_bq_some, am_gf_c, am_rd_c, am_bh_pf, am_bh_wr, am_g_p, ob_get, ob_put, ar_get, ar_put, ob_tag, ar_tag, i_zero, i_add, i_sub, i_mul, i_lt, i_le, i_eq, i_val, if_pos, if_neg, Option.toList_some, Option.toList_none, List.cons_append, List.nil_append, beq_self_eq_true, true_or, or_true, up_at, up_ne, ↓reduceIte, Nat.reduceEqDiff, le_t, le_f, lt_t, lt_f, eq_t, eq_f, nq_t, nq_f, nl_t, nl_f, and_true, true_and, and_false, false_and, not_true_eq_false, not_false_eq_true, or_false, false_or, az_tag, al_tag, az_get, az_put, am_bh_wz, gX, gT, gW, gS, gA, gL, gM, gE, gN, gX_11, gX_1, gX_2, gT_1, gW_0, gW_1, gW_2, gW_3, gW_12, gW_13, gA_1, gL_1, gE_3, gM_0, gM_1, gM_2, gM_3, gN_0, gN_2, gN_3, gN_4, gN_5, gN_10, gN_11, gN_17, gN_18, gN_23, gN_24, gN_29, gN_35, gN_36, gN_42, am_p_p, Int.toNat_natCast, aq_tag, am_rq_c, am_bh_wq, aq_get3, aq_get4, aq_put3, Int.reduceAdd, Int.reduceSub, Int.reduceMul, Int.reduceToNat, ]
    have v95 : am_g A5 95 = ob 5 2 (gL 96 0) := by rw [← hA5]; simp (disch := omega) only [am_bv_some, am_bi_int, am_bl_long, am_br_ref, am_bc_some, am_bq_some, am_gf_c, am_rd_c, am_bh_pf, am_bh_wr, am_g_p, ob_get, ob_put, ar_get, ar_put, ob_tag, ar_tag, i_zero, i_add, i_sub, i_mul, i_lt, i_le, i_eq, i_val, if_pos, if_neg, Option.toList_some, Option.toList_none, List.cons_append, List.nil_append, beq_self_eq_true, true_or, or_true, up_at, up_ne, ↓reduceIte, Nat.reduceEqDiff, le_t, le_f, lt_t, lt_f, eq_t, eq_f, nq_t, nq_f, nl_t, nl_f, and_true, true_and, and_false, false_and, not_true_eq_false, not_false_eq_true, or_false, false_or, az_tag, al_tag, az_get, az_put, am_bh_wz, gX, gT, gW, gS, gA, gL, gM, gE, gN, gX_11, gX_1, gX_2, gT_1, gW_0, gW_1, gW_2, gW_3, gW_12, gW_13, gA_1, gL_1, gE_3, gM_0, gM_1, gM_2, gM_3, gN_0, gN_2, gN_3, gN_4, gN_5, gN_10, gN_11, gN_17, gN_18, gN_23, gN_24, gN_29, gN_35, gN_36, gN_42, am_p_p, Int.toNat_natCast, aq_tag, am_rq_c, am_bh_wq, aq_get3, aq_get4, aq_put3, Int.reduceAdd, Int.reduceSub, Int.reduceMul, Int.reduceToNat, ]
    have v100 : am_g A5 100 = ob 5 2 (gL 101 0) := by rw [← hA5]; simp (disch := omega) only [am_bv_some, am_bi_int, am_bl_long, am_br_ref, am_bc_some, am_bq_some, am_gf_c, am_rd_c, am_bh_pf, am_bh_wr, am_g_p, ob_get, ob_put, ar_get, ar_put, ob_tag, ar_tag, i_zero, i_add, i_sub, i_mul, i_lt, i_le, i_eq, i_val, if_pos, if_neg, Option.toList_some, Option.toList_none, List.cons_append, List.nil_append, beq_self_eq_true, true_or, or_true, up_at, up_ne, ↓reduceIte, Nat.reduceEqDiff, le_t, le_f, lt_t, lt_f, eq_t, eq_f, nq_t, nq_f, nl_t, nl_f, and_true, true_and, and_false, false_and, not_true_eq_false, not_false_eq_true, or_false, false_or, az_tag, al_tag, az_get, az_put, am_bh_wz, gX, gT, gW, gS, gA, gL, gM, gE, gN, gX_11, gX_1, gX_2, gT_1, gW_0, gW_1, gW_2, gW_3, gW_12, gW_13, gA_1, gL_1, gE_3, gM_0, gM_1, gM_2, gM_3, gN_0, gN_2, gN_3, gN_4, gN_5, gN_10, gN_11, gN_17, gN_18, gN_23, gN_24, gN_29, gN_35, gN_36, gN_42, am_p_p, Int.toNat_natCast, aq_tag, am_rq_c, am_bh_wq, aq_get3, aq_get4, aq_put3, Int.reduceAdd, Int.reduceSub, Int.reduceMul, Int.reduceToNat, ]
    have V : ∀ i, i ≠ 1 → (i < u ∨ u + 8 < i) → i ≠ 23 → i ≠ 24 → i ≠ 25 → i ≠ 26 → i ≠ 95 → i ≠ 100 → am_g A5 i = am_g A i := fun i u1 u2 u3 u4 u5 u6 u7 u8 => by rw [hA5g i u6 u7 u8]; exact yz i u1 u2 u3 u4 u5
    have W : ∀ i, u ≤ i → i ≤ u + 7 → am_g A5 i = am_g (am_p A1 1 (ob 10 12 (gX u t sd))) i := fun i h1 h2 => by rw [hA5g i (by omega) (by omega) (by omega), y i (by omega) (by omega) (by omega)]; exact k3 i (by omega)
    have eP : (T' 1 3).toNat = P := by omega
    refine ⟨-9, T', A5, ?_, r2, fun _ => hD, Or.inl rfl, ?_, fun i hi => V i (by omega) (by omega) (by omega) (by omega) (by omega) (by omega) (by omega) (by omega)⟩
    · rw [if_pos rfl, ← hA5]
      simp (disch := first | omega | exact fit_1 | exact fit_0) only [am_bv_some, am_bi_int, am_bl_long, am_br_ref, am_bc_some, am_bq_some, am_gf_c, am_rd_c, am_bh_pf, am_bh_wr, am_g_p, ob_get, ob_put, ar_get, ar_put, ob_tag, ar_tag, i_zero, i_add, i_sub, i_mul, i_lt, i_le, i_eq, i_val, if_pos, if_neg, Option.toList_some, Option.toList_none, List.cons_append, List.nil_append, beq_self_eq_true, true_or, or_true, up_at, up_ne, ↓reduceIte, Nat.reduceEqDiff, le_t, le_f, lt_t, lt_f, eq_t, eq_f, nq_t, nq_f, nl_t, nl_f, and_true, true_and, and_false, false_and, not_true_eq_false, not_false_eq_true, or_false, false_or, az_tag, al_tag, az_get, az_put, am_bh_wz, gX, gT, gW, gS, gA, gL, gM, gE, gN, gX_11, gX_1, gX_2, gT_1, gW_0, gW_1, gW_2, gW_3, gW_12, gW_13, gA_1, gL_1, gE_3, gM_0, gM_1, gM_2, gM_3, gN_0, gN_2, gN_3, gN_4, gN_5, gN_10, gN_11, gN_17, gN_18, gN_23, gN_24, gN_29, gN_35, gN_36, gN_42, am_p_p, Int.toNat_natCast, aq_tag, am_rq_c, am_bh_wq, aq_get3, aq_get4, aq_put3, Int.reduceAdd, Int.reduceSub, Int.reduceMul, Int.reduceToNat, c74, s74_0, s74_1, s74_4, s74_5, s74_8, s74_11, s74_13, s74_16, s74_18, s74_19, s74_20, s74_23, s74_24, s74_25, s74_26, s74_29, s74_32, s74_33, s74_34, s74_37, s74_38, s74_41, s74_44, s74_45, s74_48, s74_49, s74_52, s74_55, s74_56, s74_59, s74_60, s74_63, s74_64, s74_65, s74_66, s74_67, s74_70, s74_71, s74_74, s74_75, s74_76, s74_77, s74_80, s74_83, s74_86, s74_87, s74_90, s74_93, a1, w0, r1, x1, m1, z1, b1, y1, yu, y26, y76, y95, y100, Nat.reduceMul, Nat.reduceAdd]
    · rw [if_pos rfl]
      refine ⟨u, t, q, ap', ⟨?_, by omega, ?_, ?_⟩, ⟨⟨kd3, fe3, ?_⟩, ?_, ?_, ?_, ?_, ⟨T' 8, ?_⟩, ?_, ?_, ?_⟩, m4.congr ⟨rfl, rfl, rfl, rfl, rfl, rfl, rfl, rfl, rfl, rfl⟩, ?_, ⟨?_, ?_, ?_, ?_⟩, ?_, ⟨?_, v95, ?_, ?_, ?_, ?_, v100, ?_, ?_, ?_, ?_⟩, hE.congr (fun i a b => V i (by omega) (by omega) (by omega) (by omega) (by omega) (by omega) (by omega) (by omega)), hM.congr (fun i a b => V i (by omega) (by omega) (by omega) (by omega) (by omega) (by omega) (by omega) (by omega)), hQ.congr (fun i a b => V i (by omega) (by omega) (by omega) (by omega) (by omega) (by omega) (by omega) (by omega)), hNn.congr (fun i a b => V i (by omega) (by omega) (by omega) (by omega) (by omega) (by omega) (by omega) (by omega)) rfl rfl rfl rfl, hW.congr (fun i a b => V i (by omega) (by omega) (by omega) (by omega) (by omega) (by omega) (by omega) (by omega))⟩
      · rw [hA5g _ (by omega) (by omega) (by omega)]; exact y1
      · rw [V _ (by omega) (by omega) (by omega) (by omega) (by omega) (by omega) (by omega) (by omega)]; exact a2
      · rw [V _ (by omega) (by omega) (by omega) (by omega) (by omega) (by omega) (by omega) (by omega)]; exact a3
      · rw [W _ (by omega) (by omega)]; exact c0
      · rw [W _ (by omega) (by omega)]; exact c1
      · rw [W _ (by omega) (by omega)]; exact c2
      · rw [W _ (by omega) (by omega)]; exact c3
      · rw [W _ (by omega) (by omega)]; exact c4
      · rw [W _ (by omega) (by omega)]; exact c5
      · rw [W _ (by omega) (by omega)]; exact c6
      · rw [W _ (by omega) (by omega)]; exact c7
      · rw [hA5g _ (by omega) (by omega) (by omega), y _ (by omega) (by omega) (by omega)]; exact m2
      · have Vt : ∀ i, i < 9 → am_g A5 (t + i) = am_g A (t + i) := fun i hi => V _ (by omega) (by omega) (by omega) (by omega) (by omega) (by omega) (by omega) (by omega)
        have Vt0 := Vt 0 (by omega)
        rw [Nat.add_zero] at Vt0
        exact ⟨⟨_, _, _, _, _, _, Vt0.trans t0⟩, ⟨_, (Vt 1 (by omega)).trans t1⟩, ⟨_, (Vt 2 (by omega)).trans t2⟩, ⟨_, (Vt 3 (by omega)).trans t3⟩, ⟨_, (Vt 4 (by omega)).trans t4⟩, ⟨_, (Vt 5 (by omega)).trans t5⟩, ⟨_, (Vt 6 (by omega)).trans t6⟩, ⟨_, (Vt 7 (by omega)).trans t7⟩, ⟨_, (Vt 8 (by omega)).trans t8⟩⟩
      · rw [V _ (by omega) (by omega) (by omega) (by omega) (by omega) (by omega) (by omega) (by omega)]; exact s0
      · rw [hA5g _ (by omega) (by omega) (by omega), b2, if_pos rfl, ← eP]; rfl
      · rw [hA5g _ (by omega) (by omega) (by omega), b2, if_neg (by omega), if_pos rfl, ← eP]; rfl
      · rw [hA5g _ (by omega) (by omega) (by omega), b2, if_neg (by omega), if_neg (by omega), if_pos rfl, ← eP]; rfl
      · obtain ⟨-, q1, q2, q3, q4⟩ := hB
        refine ⟨v26, ?_, q2, q3, fun j hj => ?_⟩
        · rw [V _ (by omega) (by omega) (by omega) (by omega) (by omega) (by omega) (by omega) (by omega)]; exact q1
        · have hqj := q2 j hj
          obtain ⟨l0, l1, l2, l3⟩ := q4 j hj
          rw [V _ (by omega) (by omega) (by omega) (by omega) (by omega) (by omega) (by omega) (by omega), V _ (by omega) (by omega) (by omega) (by omega) (by omega) (by omega) (by omega) (by omega), V _ (by omega) (by omega) (by omega) (by omega) (by omega) (by omega) (by omega) (by omega), V _ (by omega) (by omega) (by omega) (by omega) (by omega) (by omega) (by omega) (by omega), tw_a (by omega), tw_a (by omega), tw_a (by omega)]
          exact ⟨l0, l1, l2, l3⟩
      all_goals (rw [V _ (by omega) (by omega) (by omega) (by omega) (by omega) (by omega) (by omega) (by omega)])
      · exact hK.1
      · exact hK.2.2.1
      · exact hK.2.2.2.1
      · exact hK.2.2.2.2.1
      · exact hK.2.2.2.2.2.1
      · exact hK.2.2.2.2.2.2.2.1
      · exact hK.2.2.2.2.2.2.2.2.1
      · exact hK.2.2.2.2.2.2.2.2.2.1
      · exact hK.2.2.2.2.2.2.2.2.2.2
  · refine ⟨v, T', A1, ?_, r2, fun e => absurd e qv, r6, ?_, fun i hi => hg1 i (by omega)⟩
    · rw [if_neg qv]
      simp (disch := omega) only [am_bv_some, am_bi_int, am_bl_long, am_br_ref, am_bc_some, am_bq_some, am_gf_c, am_rd_c, am_bh_pf, am_bh_wr, am_g_p, ob_get, ob_put, ar_get, ar_put, ob_tag, ar_tag, i_zero, i_add, i_sub, i_mul, i_lt, i_le, i_eq, i_val, if_pos, if_neg, Option.toList_some, Option.toList_none, List.cons_append, List.nil_append, beq_self_eq_true, true_or, or_true, up_at, up_ne, ↓reduceIte, Nat.reduceEqDiff, le_t, le_f, lt_t, lt_f, eq_t, eq_f, nq_t, nq_f, nl_t, nl_f, and_true, true_and, and_false, false_and, not_true_eq_false, not_false_eq_true, or_false, false_or, az_tag, al_tag, az_get, az_put, am_bh_wz, gX, gT, gW, gS, gA, gL, gM, gE, gN, gX_11, gX_1, gX_2, gT_1, gW_0, gW_1, gW_2, gW_3, gW_12, gW_13, gA_1, gL_1, gE_3, gM_0, gM_1, gM_2, gM_3, gN_0, gN_2, gN_3, gN_4, gN_5, gN_10, gN_11, gN_17, gN_18, gN_23, gN_24, gN_29, gN_35, gN_36, gN_42, am_p_p, Int.toNat_natCast, aq_tag, am_rq_c, am_bh_wq, aq_get3, aq_get4, aq_put3, Int.reduceAdd, Int.reduceSub, Int.reduceMul, Int.reduceToNat, c74, s74_0, s74_1, s74_4, s74_5, s74_8, s74_11, s74_13, s74_16, s74_18, s74_19, s74_20, s74_23, s74_24, s74_25, s74_26, s74_29, s74_32, s74_33, s74_34, s74_37, s74_38, s74_41, s74_44, s74_45, s74_48, s74_49, s74_52, s74_55, s74_56, s74_59, s74_60, s74_63, s74_64, s74_65, s74_66, s74_67, s74_70, s74_71, s74_74, s74_75, s74_76, s74_77, s74_80, s74_83, s74_86, s74_87, s74_90, s74_93, a1, w0, r1]
    · rw [if_neg qv]
      have hg := hg1
      exact ⟨t, u, q, ap, hA.congr (fun i a b => hg i (by omega)) rfl rfl, hT.congr (fun i a => hg _ (by omega)) hTS, hP.congr hTS, r4.XU hUu r3, hS.congr (fun i a b => hg i (by omega)) rfl rfl rfl, hB.congr (fun i a b => hg i (by omega)) rfl (fun a ha => rfl), hK.congr (fun i a => hg i (by omega)) rfl rfl (fun a ha hb => rfl), hE.congr (fun i a b => hg i (by omega)), hM.congr (fun i a b => hg i (by omega)), hQ.congr (fun i a b => hg i (by omega)), hNn.congr (fun i a b => hg i (by omega)) rfl rfl rfl rfl, hW.congr (fun i a b => hg i (by omega))⟩
