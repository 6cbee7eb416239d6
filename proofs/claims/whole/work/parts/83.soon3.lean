theorem EN_get {A : am_H} {S : Nat → Nat → Int} {F : Int} {P : Nat} {en : Nat → Int} (hP : S 1 3 = (P : Int)) (h1 : ENk S F P en (fun _ _ => True)) (h2 : ∀ p, p < P → en (7 * p) = dz 999999 (po S p)) {p q : Nat} (hp : p < P) (hq : p = q ∨ Rf S F p q = true) : en (6 * p + q) = dz 999999 (ck S F p q) := by
  rcases hq with e | e
  · subst e
    rw [show 6 * p + p = 7 * p by omega, h2 p hp]
    unfold ck
    rw [if_pos rfl]
  · have hu := Rf_un e
    have e' := e
    unfold Rf at e'
    rw [decide_eq_true_eq] at e'
    rcases Nat.lt_trichotomy p q with h | h | h
    · exact (h1 p q h (by omega) trivial e).1
    · subst h; exact absurd rfl hu.1
    · exact (h1 q p h hp trivial (by rw [Rf_sym]; exact e)).2
theorem dz_sum {x y : Int} (hx : x = 2147483647 ∨ 0 ≤ x ∧ x ≤ 800000) (hy : y = 2147483647 ∨ 0 ≤ y ∧ y ≤ 160000) : dz 999999 (pl x y) = if 999999 ≤ dz 999999 y ∨ 999999 ≤ dz 999999 x then 999999 else dz 999999 x + dz 999999 y := by
  rcases hx with hx | hx
  · rw [hx, pl_i1, dz_i, if_pos (Or.inr (Int.le_refl _))]
  · rcases hy with hy | hy
    · rw [hy, pl_i2, dz_i, if_pos (Or.inl (Int.le_refl _))]
    · rw [pl_fin (by omega) (by omega), dz_f (by omega), dz_f (x := x) (by omega), dz_f (x := y) (by omega), if_neg (by omega)]
theorem dz_r {x y : Int} (h : x = 2147483647 ∨ 0 ≤ x ∧ x ≤ y) (hy : y ≤ 999999) : 0 ≤ dz 999999 x ∧ dz 999999 x ≤ 999999 := by
  unfold dz
  split <;> omega
theorem m_sum (d m P c : Nat) (A : am_H) (S : Nat → Nat → Int) (F : Int) (N : Nat → Int) (sd : Int64) (x1 x2 : Int32) (en : Nat → Int) (hR : RR S c) (hP : S 1 3 = (P : Int)) (h6 : P ≤ 6) (h0 : am_g A 105 = ob 11 43 (gN N sd)) (h10 : N 10 = S 1 3) (h26 : am_g A 126 = ar 456 mtF) (h27 : am_g A 127 = ar 36 en) (k1 : ENk S F P en (fun _ _ => True)) (k2 : ∀ p, p < P → en (7 * p) = dz 999999 (po S p)) (hm : m < 76) (hr : okr (Rf S F) (M76.getD m []) = true) : ∀ (n k : Nat) (x6 : Value), k + n = P → ∃ y6, am_run d 142 37 [.ref 105, .int x1, .int x2, .int (Int32.ofInt (m : Int)), .int (Int32.ofInt (dz 999999 (cs S F (M76.getD m []) k))), .int (Int32.ofInt (k : Int)), x6] [] A = am_run d 142 103 [.ref 105, .int x1, .int x2, .int (Int32.ofInt (m : Int)), .int (Int32.ofInt (dz 999999 (cs S F (M76.getD m []) P))), .int (Int32.ofInt (P : Int)), y6] [] A := by
  rw [hP] at h10
  have hm6 := fun p (hp : p < 6) => M76_lt2 hm hp
  have hmt := fun p (hp : p < 6) => mtF_at m hp
  generalize M76.getD m [] = r at hr hm6 hmt
  intro n
  induction n with
  | zero =>
    intro k x6 hk
    have : k = P := by omega
    subst this
    refine ⟨x6, ?_⟩
    rw [s142_37]
    simp (disch := omega) only [am_bv_some, am_bi_int, am_bl_long, am_br_ref, am_bc_some, am_bq_some, am_gf_c, am_rd_c, am_bh_pf, am_bh_wr, am_g_p, ob_get, ob_put, ar_get, ar_put, ob_tag, ar_tag, i_zero, i_add, i_sub, i_mul, i_lt, i_le, i_eq, i_val, if_pos, if_neg, Option.toList_some, Option.toList_none, List.cons_append, List.nil_append, beq_self_eq_true, true_or, or_true, up_at, up_ne, ↓reduceIte, Nat.reduceEqDiff, le_t, le_f, lt_t, lt_f, eq_t, eq_f, nq_t, nq_f, nl_t, nl_f, and_true, true_and, and_false, false_and, not_true_eq_false, not_false_eq_true, or_false, false_or, az_tag, al_tag, az_get, az_put, am_bh_wz, gX, gT, gW, gS, gA, gL, gM, gE, gN, gX_11, gX_1, gX_2, gT_1, gW_0, gW_1, gW_2, gW_3, gW_12, gW_13, gA_1, gL_1, gE_3, gM_0, gM_1, gM_2, gM_3, gN_0, gN_2, gN_3, gN_4, gN_5, gN_10, gN_11, gN_17, gN_18, gN_23, gN_24, gN_29, gN_35, gN_36, gN_42, am_p_p, Int.toNat_natCast, aq_tag, am_rq_c, am_bh_wq, aq_get3, aq_get4, aq_put3, Int.reduceAdd, Int.reduceSub, Int.reduceMul, Int.reduceToNat, s142_0, s142_1, s142_2, s142_5, s142_7, s142_8, s142_9, s142_11, s142_14, s142_15, s142_17, s142_19, s142_22, s142_23, s142_24, s142_25, s142_28, s142_31, s142_32, s142_34, s142_35, s142_39, s142_40, s142_43, s142_46, s142_47, s142_50, s142_52, s142_54, s142_55, s142_56, s142_59, s142_61, s142_62, s142_63, s142_65, s142_66, s142_67, s142_68, s142_69, s142_71, s142_73, s142_75, s142_78, s142_80, s142_82, s142_85, s142_87, s142_90, s142_92, s142_94, s142_95, s142_97, s142_100, s142_105, s142_106, s142_109, s142_111, s142_112, s142_113, s142_114, s142_117, s142_120, s142_123, s142_124, h0, h10]
  | succ n ih =>
    intro k x6 hk
    have hq6 := hm6 k (by omega)
    have e2 := hmt k (by omega)
    have e1 : (6 * (m : Int) + (k : Int)).toNat = 6 * m + k := by omega
    have lp := LM_pair hP h6 hr (p := k) (by omega)
    have r1 := cs_rng hR hP h6 hr k (by omega)
    have r2 := ck_rng F hR (p := k) (m := r.getD k 0) (by omega) (by omega)
    have e3 := EN_get (A := A) hP k1 k2 (p := k) (q := r.getD k 0) (by omega) (by
      rcases okr_j hr (j := k) (by omega) with e | e
      · left; exact e.symm
      · right; exact e)
    have hs := dz_sum (x := cs S F r k) (y := ck S F k (r.getD k 0)) (by omega) r2
    have b1 := dz_r r1 (by omega)
    have b2 := dz_r r2 (by omega)
    have hc : cs S F r (k + 1) = pl (cs S F r k) (ck S F k (r.getD k 0)) := rfl
    rw [← hc] at hs
    generalize dz 999999 (ck S F k (r.getD k 0)) = y at e3 hs b2
    generalize dz 999999 (cs S F r k) = x at hs b1 ⊢
    obtain ⟨y6, i1⟩ := ih (k + 1) (.int (Int32.ofInt y)) (by omega)
    refine ⟨y6, ?_⟩
    rw [← i1, s142_37, hs]
    generalize r.getD k 0 = q at e2 e3 hq6
    have e4 : (6 * (k : Int) + (q : Int)).toNat = 6 * k + q := by omega
    by_cases c1 : 999999 ≤ y
    · rw [if_pos (Or.inl c1)]
      simp (disch := omega) only [am_bv_some, am_bi_int, am_bl_long, am_br_ref, am_bc_some, am_bq_some, am_gf_c, am_rd_c, am_bh_pf, am_bh_wr, am_g_p, ob_get, ob_put, ar_get, ar_put, ob_tag, ar_tag, i_zero, i_add, i_sub, i_mul, i_lt, i_le, i_eq, i_val, if_pos, if_neg, Option.toList_some, Option.toList_none, List.cons_append, List.nil_append, beq_self_eq_true, true_or, or_true, up_at, up_ne, ↓reduceIte, Nat.reduceEqDiff, le_t, le_f, lt_t, lt_f, eq_t, eq_f, nq_t, nq_f, nl_t, nl_f, and_true, true_and, and_false, false_and, not_true_eq_false, not_false_eq_true, or_false, false_or, az_tag, al_tag, az_get, az_put, am_bh_wz, gX, gT, gW, gS, gA, gL, gM, gE, gN, gX_11, gX_1, gX_2, gT_1, gW_0, gW_1, gW_2, gW_3, gW_12, gW_13, gA_1, gL_1, gE_3, gM_0, gM_1, gM_2, gM_3, gN_0, gN_2, gN_3, gN_4, gN_5, gN_10, gN_11, gN_17, gN_18, gN_23, gN_24, gN_29, gN_35, gN_36, gN_42, am_p_p, Int.toNat_natCast, aq_tag, am_rq_c, am_bh_wq, aq_get3, aq_get4, aq_put3, Int.reduceAdd, Int.reduceSub, Int.reduceMul, Int.reduceToNat, s142_0, s142_1, s142_2, s142_5, s142_7, s142_8, s142_9, s142_11, s142_14, s142_15, s142_17, s142_19, s142_22, s142_23, s142_24, s142_25, s142_28, s142_31, s142_32, s142_34, s142_35, s142_39, s142_40, s142_43, s142_46, s142_47, s142_50, s142_52, s142_54, s142_55, s142_56, s142_59, s142_61, s142_62, s142_63, s142_65, s142_66, s142_67, s142_68, s142_69, s142_71, s142_73, s142_75, s142_78, s142_80, s142_82, s142_85, s142_87, s142_90, s142_92, s142_94, s142_95, s142_97, s142_100, s142_105, s142_106, s142_109, s142_111, s142_112, s142_113, s142_114, s142_117, s142_120, s142_123, s142_124, h0, h10, h26, h27, e1, e2, e4, e3, Int.natCast_add, Int.cast_ofNat_Int]
    · by_cases c2 : 999999 ≤ x
      · rw [if_pos (Or.inr c2)]
        simp (disch := omega) only [am_bv_some, am_bi_int, am_bl_long, am_br_ref, am_bc_some, am_bq_some, am_gf_c, am_rd_c, am_bh_pf, am_bh_wr, am_g_p, ob_get, ob_put, ar_get, ar_put, ob_tag, ar_tag, i_zero, i_add, i_sub, i_mul, i_lt, i_le, i_eq, i_val, if_pos, if_neg, Option.toList_some, Option.toList_none, List.cons_append, List.nil_append, beq_self_eq_true, true_or, or_true, up_at, up_ne, ↓reduceIte, Nat.reduceEqDiff, le_t, le_f, lt_t, lt_f, eq_t, eq_f, nq_t, nq_f, nl_t, nl_f, and_true, true_and, and_false, false_and, not_true_eq_false, not_false_eq_true, or_false, false_or, az_tag, al_tag, az_get, az_put, am_bh_wz, gX, gT, gW, gS, gA, gL, gM, gE, gN, gX_11, gX_1, gX_2, gT_1, gW_0, gW_1, gW_2, gW_3, gW_12, gW_13, gA_1, gL_1, gE_3, gM_0, gM_1, gM_2, gM_3, gN_0, gN_2, gN_3, gN_4, gN_5, gN_10, gN_11, gN_17, gN_18, gN_23, gN_24, gN_29, gN_35, gN_36, gN_42, am_p_p, Int.toNat_natCast, aq_tag, am_rq_c, am_bh_wq, aq_get3, aq_get4, aq_put3, Int.reduceAdd, Int.reduceSub, Int.reduceMul, Int.reduceToNat, s142_0, s142_1, s142_2, s142_5, s142_7, s142_8, s142_9, s142_11, s142_14, s142_15, s142_17, s142_19, s142_22, s142_23, s142_24, s142_25, s142_28, s142_31, s142_32, s142_34, s142_35, s142_39, s142_40, s142_43, s142_46, s142_47, s142_50, s142_52, s142_54, s142_55, s142_56, s142_59, s142_61, s142_62, s142_63, s142_65, s142_66, s142_67, s142_68, s142_69, s142_71, s142_73, s142_75, s142_78, s142_80, s142_82, s142_85, s142_87, s142_90, s142_92, s142_94, s142_95, s142_97, s142_100, s142_105, s142_106, s142_109, s142_111, s142_112, s142_113, s142_114, s142_117, s142_120, s142_123, s142_124, h0, h10, h26, h27, e1, e2, e4, e3, Int.natCast_add, Int.cast_ofNat_Int]
      · rw [if_neg (fun e => e.elim c1 c2)]
        simp (disch := omega) only [am_bv_some, am_bi_int, am_bl_long, am_br_ref, am_bc_some, am_bq_some, am_gf_c, am_rd_c, am_bh_pf, am_bh_wr, am_g_p, ob_get, ob_put, ar_get, ar_put, ob_tag, ar_tag, i_zero, i_add, i_sub, i_mul, i_lt, i_le, i_eq, i_val, if_pos, if_neg, Option.toList_some, Option.toList_none, List.cons_append, List.nil_append, beq_self_eq_true, true_or, or_true, up_at, up_ne, ↓reduceIte, Nat.reduceEqDiff, le_t, le_f, lt_t, lt_f, eq_t, eq_f, nq_t, nq_f, nl_t, nl_f, and_true, true_and, and_false, false_and, not_true_eq_false, not_false_eq_true, or_false, false_or, az_tag, al_tag, az_get, az_put, am_bh_wz, gX, gT, gW, gS, gA, gL, gM, gE, gN, gX_11, gX_1, gX_2, gT_1, gW_0, gW_1, gW_2, gW_3, gW_12, gW_13, gA_1, gL_1, gE_3, gM_0, gM_1, gM_2, gM_3, gN_0, gN_2, gN_3, gN_4, gN_5, gN_10, gN_11, gN_17, gN_18, gN_23, gN_24, gN_29, gN_35, gN_36, gN_42, am_p_p, Int.toNat_natCast, aq_tag, am_rq_c, am_bh_wq, aq_get3, aq_get4, aq_put3, Int.reduceAdd, Int.reduceSub, Int.reduceMul, Int.reduceToNat, s142_0, s142_1, s142_2, s142_5, s142_7, s142_8, s142_9, s142_11, s142_14, s142_15, s142_17, s142_19, s142_22, s142_23, s142_24, s142_25, s142_28, s142_31, s142_32, s142_34, s142_35, s142_39, s142_40, s142_43, s142_46, s142_47, s142_50, s142_52, s142_54, s142_55, s142_56, s142_59, s142_61, s142_62, s142_63, s142_65, s142_66, s142_67, s142_68, s142_69, s142_71, s142_73, s142_75, s142_78, s142_80, s142_82, s142_85, s142_87, s142_90, s142_92, s142_94, s142_95, s142_97, s142_100, s142_105, s142_106, s142_109, s142_111, s142_112, s142_113, s142_114, s142_117, s142_120, s142_123, s142_124, h0, h10, h26, h27, e1, e2, e4, e3, Int.natCast_add, Int.cast_ofNat_Int]
theorem dz_lt2 {x y : Int} (hx : x = 2147483647 ∨ 0 ≤ x ∧ x ≤ 960000) (hy : y = 2147483647 ∨ 0 ≤ y ∧ y ≤ 960000) : (dz 999999 x < dz 999999 y) = (x < y) := by
  apply propext
  rcases hx with hx | hx
  · rw [hx, dz_i]
    rcases hy with hy | hy
    · rw [hy, dz_i]; omega
    · rw [dz_f (by omega)]; omega
  · rw [dz_f (x := x) (by omega)]
    rcases hy with hy | hy
    · rw [hy, dz_i]; omega
    · rw [dz_f (by omega)]
def ssG (S : Nat → Nat → Int) (F : Int) (P : Nat) (x : Int × List Nat) (r : List Nat) : Int × List Nat := if okr (Rf S F) r = true then ssF S F P x r else x
theorem ssG_rng {S : Nat → Nat → Int} {c P : Nat} {F : Int} (hR : RR S c) (hP : S 1 3 = (P : Int)) (h6 : P ≤ 6) (k : Nat) (hk : k ≤ 76) : (tk (ssG S F P) (2147483647, []) M76 k).1 = 2147483647 ∨ 0 ≤ (tk (ssG S F P) (2147483647, []) M76 k).1 ∧ (tk (ssG S F P) (2147483647, []) M76 k).1 ≤ 960000 := by
  induction k with
  | zero => left; rfl
  | succ k ih =>
    rw [tk_s _ _ _ (by rw [M76_len]; omega), ssG]
    split
    next q =>
      unfold ssF
      split
      · have h1 := cs_rng hR hP h6 q P (Nat.le_refl _)
        show cs S F _ P = _ ∨ 0 ≤ cs S F _ P ∧ cs S F _ P ≤ _
        omega
      · exact ih (by omega)
    next => exact ih (by omega)
theorem SS_G {S : Nat → Nat → Int} {F : Int} {P : Nat} (hP : S 1 3 = (P : Int)) : tk (ssG S F P) (2147483647, []) M76 76 = SS S F := by
  unfold SS
  rw [show (S 1 3).toNat = P by omega]
  exact tk_LM (ssF S F P) (2147483647, []) S F
theorem m_findSoonest_loop (d P c : Nat) (B : am_H) (S : Nat → Nat → Int) (F : Int) (sd : Int64) (N : Nat → Int) (en : Nat → Int) (hR : RR S c) (hF : 0 ≤ F ∧ F < 64) (hP : S 1 3 = (P : Int)) (h6 : P ≤ 6) (h10 : N 10 = S 1 3) (b13 : am_g B 113 = ar 6 (S 8)) (b26 : am_g B 126 = ar 456 mtF) (b27 : am_g B 127 = ar 36 en) (k1 : ENk S F P en (fun _ _ => True)) (k2 : ∀ p, p < P → en (7 * p) = dz 999999 (po S p)) : ∀ (n k : Nat) (A : am_H) (N' : Nat → Int) (x4 x5 x6 : Value), k + n = 76 → am_g A 105 = ob 11 43 (gN N' sd) → (∀ j, j ≠ 35 → N' j = N j) → (∀ i, i ≠ 105 → am_g A i = am_g B i) → ((tk (ssG S F P) (2147483647, []) M76 k).1 ≠ 2147483647 → ∃ m : Nat, N' 35 = (m : Int) ∧ m < 76 ∧ M76.getD m [] = (tk (ssG S F P) (2147483647, []) M76 k).2) →
    ∃ A' N2, am_run (d + 3) 142 16 [.ref 105, .int (Int32.ofInt F), .int (Int32.ofInt (dz 999999 (tk (ssG S F P) (2147483647, []) M76 k).1)), .int (Int32.ofInt (k : Int)), x4, x5, x6] [] A = some (some (.int (Int32.ofInt (dz 999999 (SS S F).1))), A') ∧ am_g A' 105 = ob 11 43 (gN N2 sd) ∧ (∀ j, j ≠ 35 → N2 j = N j) ∧ (∀ i, i ≠ 105 → am_g A' i = am_g B i) ∧ ((SS S F).1 ≠ 2147483647 → ∃ m : Nat, N2 35 = (m : Int) ∧ m < 76 ∧ M76.getD m [] = (SS S F).2) := by
  have w1 := hR.2.1.1
  have g4 := hR.1.2.2.2.1
  intro n
  induction n with
  | zero =>
    intro k A N' x4 x5 x6 hk h0 hN hf hb
    have : k = 76 := by omega
    subst this
    rw [SS_G hP] at hb ⊢
    refine ⟨A, N', ?_, h0, hN, hf, hb⟩
    simp (disch := omega) only [am_bv_some, am_bi_int, am_bl_long, am_br_ref, am_bc_some, am_bq_some, am_gf_c, am_rd_c, am_bh_pf, am_bh_wr, am_g_p, ob_get, ob_put, ar_get, ar_put, ob_tag, ar_tag, i_zero, i_add, i_sub, i_mul, i_lt, i_le, i_eq, i_val, if_pos, if_neg, Option.toList_some, Option.toList_none, List.cons_append, List.nil_append, beq_self_eq_true, true_or, or_true, up_at, up_ne, ↓reduceIte, Nat.reduceEqDiff, le_t, le_f, lt_t, lt_f, eq_t, eq_f, nq_t, nq_f, nl_t, nl_f, and_true, true_and, and_false, false_and, not_true_eq_false, not_false_eq_true, or_false, false_or, az_tag, al_tag, az_get, az_put, am_bh_wz, gX, gT, gW, gS, gA, gL, gM, gE, gN, gX_11, gX_1, gX_2, gT_1, gW_0, gW_1, gW_2, gW_3, gW_12, gW_13, gA_1, gL_1, gE_3, gM_0, gM_1, gM_2, gM_3, gN_0, gN_2, gN_3, gN_4, gN_5, gN_10, gN_11, gN_17, gN_18, gN_23, gN_24, gN_29, gN_35, gN_36, gN_42, am_p_p, Int.toNat_natCast, aq_tag, am_rq_c, am_bh_wq, aq_get3, aq_get4, aq_put3, Int.reduceAdd, Int.reduceSub, Int.reduceMul, Int.reduceToNat, s142_0, s142_1, s142_2, s142_5, s142_7, s142_8, s142_9, s142_11, s142_14, s142_15, s142_16, s142_17, s142_19, s142_22, s142_23, s142_24, s142_25, s142_28, s142_31, s142_32, s142_34, s142_35, s142_37, s142_39, s142_40, s142_43, s142_46, s142_47, s142_50, s142_52, s142_54, s142_55, s142_56, s142_59, s142_61, s142_62, s142_63, s142_65, s142_66, s142_67, s142_68, s142_69, s142_71, s142_73, s142_75, s142_78, s142_80, s142_82, s142_85, s142_87, s142_90, s142_92, s142_94, s142_95, s142_97, s142_100, s142_103, s142_105, s142_106, s142_109, s142_111, s142_112, s142_113, s142_114, s142_117, s142_120, s142_123, s142_124, Int.cast_ofNat_Int]
  | succ n ih =>
    intro k A N' x4 x5 x6 hk h0 hN hf hb
    have h13 : am_g A 113 = ar 6 (S 8) := by rw [hf _ (by omega)]; exact b13
    have h26 : am_g A 126 = ar 456 mtF := by rw [hf _ (by omega)]; exact b26
    have h27 : am_g A 127 = ar 36 en := by rw [hf _ (by omega)]; exact b27
    have hN10 : N' 10 = S 1 3 := by rw [hN _ (by omega)]; exact h10
    have pi := m_isMatching d k A S F N' sd h0 h13 h26 hN10 hF w1 g4 (by omega)
    have hs := tk_s (ssG S F P) (2147483647, []) M76 (k := k) (by rw [M76_len]; omega)
    have rg := ssG_rng (F := F) hR hP h6 k (by omega)
    generalize tk (ssG S F P) (2147483647, []) M76 k = x at hs rg hb ⊢
    unfold ssG at hs
    rw [show (fun (x : Int × List Nat) r => if okr (Rf S F) r = true then ssF S F P x r else x) = ssG S F P from rfl] at hs
    by_cases q : okr (Rf S F) (M76.getD k []) = true
    · rw [if_pos q] at pi hs
      obtain ⟨y6, sm1⟩ := m_sum (d + 3) k P c A S F N' sd (Int32.ofInt F) (Int32.ofInt (dz 999999 x.1)) en hR hP h6 h0 hN10 h26 h27 k1 k2 (by omega) q P 0 x6 (by omega)
      have r1 := cs_rng hR hP h6 q P (Nat.le_refl _)
      have r1' : cs S F (M76.getD k []) P = 2147483647 ∨ 0 ≤ cs S F (M76.getD k []) P ∧ cs S F (M76.getD k []) P ≤ 960000 := by omega
      have hlt := dz_lt2 r1' rg
      have b1 := dz_r r1' (by omega)
      have b2 := dz_r rg (by omega)
      rw [show cs S F (M76.getD k []) 0 = 0 from rfl, show dz 999999 0 = 0 from by decide, show ((0 : Nat) : Int) = 0 from rfl] at sm1
      have run1 : am_run (d + 3) 142 16 [.ref 105, .int (Int32.ofInt F), .int (Int32.ofInt (dz 999999 x.1)), .int (Int32.ofInt (k : Int)), x4, x5, x6] [] A = am_run (d + 3) 142 103 [.ref 105, .int (Int32.ofInt F), .int (Int32.ofInt (dz 999999 x.1)), .int (Int32.ofInt (k : Int)), .int (Int32.ofInt (dz 999999 (cs S F (M76.getD k []) P))), .int (Int32.ofInt (P : Int)), y6] [] A := by
        rw [← sm1, s142_16]
        simp (disch := omega) only [am_bv_some, am_bi_int, am_bl_long, am_br_ref, am_bc_some, am_bq_some, am_gf_c, am_rd_c, am_bh_pf, am_bh_wr, am_g_p, ob_get, ob_put, ar_get, ar_put, ob_tag, ar_tag, i_zero, i_add, i_sub, i_mul, i_lt, i_le, i_eq, i_val, if_pos, if_neg, Option.toList_some, Option.toList_none, List.cons_append, List.nil_append, beq_self_eq_true, true_or, or_true, up_at, up_ne, ↓reduceIte, Nat.reduceEqDiff, le_t, le_f, lt_t, lt_f, eq_t, eq_f, nq_t, nq_f, nl_t, nl_f, and_true, true_and, and_false, false_and, not_true_eq_false, not_false_eq_true, or_false, false_or, az_tag, al_tag, az_get, az_put, am_bh_wz, gX, gT, gW, gS, gA, gL, gM, gE, gN, gX_11, gX_1, gX_2, gT_1, gW_0, gW_1, gW_2, gW_3, gW_12, gW_13, gA_1, gL_1, gE_3, gM_0, gM_1, gM_2, gM_3, gN_0, gN_2, gN_3, gN_4, gN_5, gN_10, gN_11, gN_17, gN_18, gN_23, gN_24, gN_29, gN_35, gN_36, gN_42, am_p_p, Int.toNat_natCast, aq_tag, am_rq_c, am_bh_wq, aq_get3, aq_get4, aq_put3, Int.reduceAdd, Int.reduceSub, Int.reduceMul, Int.reduceToNat, s142_0, s142_1, s142_2, s142_5, s142_7, s142_8, s142_9, s142_11, s142_14, s142_15, s142_17, s142_19, s142_22, s142_23, s142_24, s142_25, s142_28, s142_31, s142_32, s142_34, s142_35, s142_39, s142_40, s142_43, s142_46, s142_47, s142_50, s142_52, s142_54, s142_55, s142_56, s142_59, s142_61, s142_62, s142_63, s142_65, s142_66, s142_67, s142_68, s142_69, s142_71, s142_73, s142_75, s142_78, s142_80, s142_82, s142_85, s142_87, s142_90, s142_92, s142_94, s142_95, s142_97, s142_100, s142_105, s142_106, s142_109, s142_111, s142_112, s142_113, s142_114, s142_117, s142_120, s142_123, s142_124, pi]
      unfold ssF at hs
      by_cases q2 : cs S F (M76.getD k []) P < x.1
      · rw [if_pos q2] at hs
        have q3 : dz 999999 (cs S F (M76.getD k []) P) < dz 999999 x.1 := by rw [hlt]; exact q2
        obtain ⟨A', N2, c1, c2⟩ := ih (k + 1) (am_p A 105 (ob 11 43 (gN (up N' 35 (k : Int)) sd))) (up N' 35 (k : Int)) (.int (Int32.ofInt (dz 999999 (cs S F (M76.getD k []) P)))) (.int (Int32.ofInt (P : Int))) y6 (by omega) (by simp (disch := omega) only [am_bv_some, am_bi_int, am_bl_long, am_br_ref, am_bc_some, am_bq_some, am_gf_c, am_rd_c, am_bh_pf, am_bh_wr, am_g_p, ob_get, ob_put, ar_get, ar_put, ob_tag, ar_tag, i_zero, i_add, i_sub, i_mul, i_lt, i_le, i_eq, i_val, if_pos, if_neg, Option.toList_some, Option.toList_none, List.cons_append, List.nil_append, beq_self_eq_true, true_or, or_true, up_at, up_ne, ↓reduceIte, Nat.reduceEqDiff, le_t, le_f, lt_t, lt_f, eq_t, eq_f, nq_t, nq_f, nl_t, nl_f, and_true, true_and, and_false, false_and, not_true_eq_false, not_false_eq_true, or_false, false_or, az_tag, al_tag, az_get, az_put, am_bh_wz, gX, gT, gW, gS, gA, gL, gM, gE, gN, gX_11, gX_1, gX_2, gT_1, gW_0, gW_1, gW_2, gW_3, gW_12, gW_13, gA_1, gL_1, gE_3, gM_0, gM_1, gM_2, gM_3, gN_0, gN_2, gN_3, gN_4, gN_5, gN_10, gN_11, gN_17, gN_18, gN_23, gN_24, gN_29, gN_35, gN_36, gN_42, am_p_p, Int.toNat_natCast, aq_tag, am_rq_c, am_bh_wq, aq_get3, aq_get4, aq_put3, Int.reduceAdd, Int.reduceSub, Int.reduceMul, Int.reduceToNat, ]) (fun j hj => by rw [up_ne _ _ hj]; exact hN j hj) (fun i hi => by rw [am_g_p, if_neg hi]; exact hf i hi) (fun _ => ⟨k, up_at _ _ _, by omega, by rw [hs]⟩)
        refine ⟨A', N2, ?_, c2⟩
        rw [run1, ← c1, hs]
        generalize dz 999999 (cs S F (M76.getD k []) P) = v at q3 b1 ⊢
        simp (disch := omega) only [am_bv_some, am_bi_int, am_bl_long, am_br_ref, am_bc_some, am_bq_some, am_gf_c, am_rd_c, am_bh_pf, am_bh_wr, am_g_p, ob_get, ob_put, ar_get, ar_put, ob_tag, ar_tag, i_zero, i_add, i_sub, i_mul, i_lt, i_le, i_eq, i_val, if_pos, if_neg, Option.toList_some, Option.toList_none, List.cons_append, List.nil_append, beq_self_eq_true, true_or, or_true, up_at, up_ne, ↓reduceIte, Nat.reduceEqDiff, le_t, le_f, lt_t, lt_f, eq_t, eq_f, nq_t, nq_f, nl_t, nl_f, and_true, true_and, and_false, false_and, not_true_eq_false, not_false_eq_true, or_false, false_or, az_tag, al_tag, az_get, az_put, am_bh_wz, gX, gT, gW, gS, gA, gL, gM, gE, gN, gX_11, gX_1, gX_2, gT_1, gW_0, gW_1, gW_2, gW_3, gW_12, gW_13, gA_1, gL_1, gE_3, gM_0, gM_1, gM_2, gM_3, gN_0, gN_2, gN_3, gN_4, gN_5, gN_10, gN_11, gN_17, gN_18, gN_23, gN_24, gN_29, gN_35, gN_36, gN_42, am_p_p, Int.toNat_natCast, aq_tag, am_rq_c, am_bh_wq, aq_get3, aq_get4, aq_put3, Int.reduceAdd, Int.reduceSub, Int.reduceMul, Int.reduceToNat, s142_0, s142_1, s142_2, s142_5, s142_7, s142_8, s142_9, s142_11, s142_14, s142_15, s142_17, s142_19, s142_22, s142_23, s142_24, s142_25, s142_28, s142_31, s142_32, s142_34, s142_35, s142_39, s142_40, s142_43, s142_46, s142_47, s142_50, s142_52, s142_54, s142_55, s142_56, s142_59, s142_61, s142_62, s142_63, s142_65, s142_66, s142_67, s142_68, s142_69, s142_71, s142_73, s142_75, s142_78, s142_80, s142_82, s142_85, s142_87, s142_90, s142_92, s142_94, s142_95, s142_97, s142_100, s142_103, s142_105, s142_106, s142_109, s142_111, s142_112, s142_113, s142_114, s142_117, s142_120, s142_123, s142_124, h0, Int.natCast_add, Int.cast_ofNat_Int]
      · rw [if_neg q2] at hs
        have q3 : ¬ dz 999999 (cs S F (M76.getD k []) P) < dz 999999 x.1 := by rw [hlt]; exact q2
        obtain ⟨A', N2, c1, c2⟩ := ih (k + 1) A N' (.int (Int32.ofInt (dz 999999 (cs S F (M76.getD k []) P)))) (.int (Int32.ofInt (P : Int))) y6 (by omega) h0 hN hf (by rw [hs]; exact hb)
        refine ⟨A', N2, ?_, c2⟩
        rw [run1, ← c1, hs]
        generalize dz 999999 (cs S F (M76.getD k []) P) = v at q3 b1 ⊢
        simp (disch := omega) only [am_bv_some, am_bi_int, am_bl_long, am_br_ref, am_bc_some, am_bq_some, am_gf_c, am_rd_c, am_bh_pf, am_bh_wr, am_g_p, ob_get, ob_put, ar_get, ar_put, ob_tag, ar_tag, i_zero, i_add, i_sub, i_mul, i_lt, i_le, i_eq, i_val, if_pos, if_neg, Option.toList_some, Option.toList_none, List.cons_append, List.nil_append, beq_self_eq_true, true_or, or_true, up_at, up_ne, ↓reduceIte, Nat.reduceEqDiff, le_t, le_f, lt_t, lt_f, eq_t, eq_f, nq_t, nq_f, nl_t, nl_f, and_true, true_and, and_false, false_and, not_true_eq_false, not_false_eq_true, or_false, false_or, az_tag, al_tag, az_get, az_put, am_bh_wz, gX, gT, gW, gS, gA, gL, gM, gE, gN, gX_11, gX_1, gX_2, gT_1, gW_0, gW_1, gW_2, gW_3, gW_12, gW_13, gA_1, gL_1, gE_3, gM_0, gM_1, gM_2, gM_3, gN_0, gN_2, gN_3, gN_4, gN_5, gN_10, gN_11, gN_17, gN_18, gN_23, gN_24, gN_29, gN_35, gN_36, gN_42, am_p_p, Int.toNat_natCast, aq_tag, am_rq_c, am_bh_wq, aq_get3, aq_get4, aq_put3, Int.reduceAdd, Int.reduceSub, Int.reduceMul, Int.reduceToNat, s142_0, s142_1, s142_2, s142_5, s142_7, s142_8, s142_9, s142_11, s142_14, s142_15, s142_17, s142_19, s142_22, s142_23, s142_24, s142_25, s142_28, s142_31, s142_32, s142_34, s142_35, s142_39, s142_40, s142_43, s142_46, s142_47, s142_50, s142_52, s142_54, s142_55, s142_56, s142_59, s142_61, s142_62, s142_63, s142_65, s142_66, s142_67, s142_68, s142_69, s142_71, s142_73, s142_75, s142_78, s142_80, s142_82, s142_85, s142_87, s142_90, s142_92, s142_94, s142_95, s142_97, s142_100, s142_103, s142_105, s142_106, s142_109, s142_111, s142_112, s142_113, s142_114, s142_117, s142_120, s142_123, s142_124, h0, Int.natCast_add, Int.cast_ofNat_Int]
    · rw [if_neg q] at pi hs
      obtain ⟨A', N2, c1, c2⟩ := ih (k + 1) A N' x4 x5 x6 (by omega) h0 hN hf (by rw [hs]; exact hb)
      refine ⟨A', N2, ?_, c2⟩
      rw [← c1, hs, s142_16]
      simp (disch := omega) only [am_bv_some, am_bi_int, am_bl_long, am_br_ref, am_bc_some, am_bq_some, am_gf_c, am_rd_c, am_bh_pf, am_bh_wr, am_g_p, ob_get, ob_put, ar_get, ar_put, ob_tag, ar_tag, i_zero, i_add, i_sub, i_mul, i_lt, i_le, i_eq, i_val, if_pos, if_neg, Option.toList_some, Option.toList_none, List.cons_append, List.nil_append, beq_self_eq_true, true_or, or_true, up_at, up_ne, ↓reduceIte, Nat.reduceEqDiff, le_t, le_f, lt_t, lt_f, eq_t, eq_f, nq_t, nq_f, nl_t, nl_f, and_true, true_and, and_false, false_and, not_true_eq_false, not_false_eq_true, or_false, false_or, az_tag, al_tag, az_get, az_put, am_bh_wz, gX, gT, gW, gS, gA, gL, gM, gE, gN, gX_11, gX_1, gX_2, gT_1, gW_0, gW_1, gW_2, gW_3, gW_12, gW_13, gA_1, gL_1, gE_3, gM_0, gM_1, gM_2, gM_3, gN_0, gN_2, gN_3, gN_4, gN_5, gN_10, gN_11, gN_17, gN_18, gN_23, gN_24, gN_29, gN_35, gN_36, gN_42, am_p_p, Int.toNat_natCast, aq_tag, am_rq_c, am_bh_wq, aq_get3, aq_get4, aq_put3, Int.reduceAdd, Int.reduceSub, Int.reduceMul, Int.reduceToNat, s142_0, s142_1, s142_2, s142_5, s142_7, s142_8, s142_9, s142_11, s142_14, s142_15, s142_17, s142_19, s142_22, s142_23, s142_24, s142_25, s142_28, s142_31, s142_32, s142_34, s142_35, s142_39, s142_40, s142_43, s142_46, s142_47, s142_50, s142_52, s142_54, s142_55, s142_56, s142_59, s142_61, s142_62, s142_63, s142_65, s142_66, s142_67, s142_68, s142_69, s142_71, s142_73, s142_75, s142_78, s142_80, s142_82, s142_85, s142_87, s142_90, s142_92, s142_94, s142_95, s142_97, s142_100, s142_103, s142_105, s142_106, s142_109, s142_111, s142_112, s142_113, s142_114, s142_117, s142_120, s142_123, s142_124, pi, Int.natCast_add, Int.cast_ofNat_Int]
theorem m_findSoonest (d c : Nat) (A : am_H) (S : Nat → Nat → Int) (F : Int) (sd : Int64) (hI : MI A S sd mtF) (hR : RR S c) (hF : 0 ≤ F ∧ F < 64) : ∃ A' N', am_call (d + 6) 142 [.ref 105, .int (Int32.ofInt F)] A = some (some (.int (Int32.ofInt (dz 999999 (SS S F).1))), A') ∧ MI A' S sd mtF ∧ FM A A' ∧ am_g A' 105 = ob 11 43 (gN N' sd) ∧ N' 10 = S 1 3 ∧ N' 11 = S 1 4 ∧ ((SS S F).1 ≠ 2147483647 → ∃ m : Nat, N' 35 = (m : Int) ∧ m < 76 ∧ M76.getD m [] = (SS S F).2) := by
  have h := hI
  obtain ⟨N, fr, to, fa, be, pa, go, bk, ke, hA, hT, hS, hRr, hB, hK, hQ, hNn⟩ := h
  obtain ⟨y0, y2, y4, y5, y10, y11, y29, y36, y106⟩ := id hA
  obtain ⟨y107, y108, y109, y110, y111, y112, yK, yP⟩ := id hT
  obtain ⟨y113, y114, y115⟩ := id hS
  obtain ⟨y123, yB⟩ := id hB
  obtain ⟨y124, yKe, y125⟩ := id hK
  obtain ⟨y129, y130, y131⟩ := id hNn
  have h6' := hR.1.2.2.2.1
  obtain ⟨P, hP⟩ : ∃ P : Nat, S 1 3 = (P : Int) := ⟨(S 1 3).toNat, by omega⟩
  obtain ⟨A1, r1, r2, ⟨en, r3, r4, r5⟩, r6⟩ := m_layEnds d c P A S F N sd fr to fa be pa go hR hP ⟨y0, y5, y10, hT, hS, hQ.2.2.1⟩ hF hQ.2.1
  have x0 : am_g A1 105 = ob 11 43 (gN N sd) := by rw [r6 _ (by omega) (by omega)]; exact y0
  obtain ⟨A2, N2, c1, c2, c3, c4, c5⟩ := m_findSoonest_loop (d + 3) P c (am_p A1 105 (ob 11 43 (gN (up N 35 (-9)) sd))) S F sd (up N 35 (-9)) en hR hF hP (by omega) (by simp (disch := omega) only [am_bv_some, am_bi_int, am_bl_long, am_br_ref, am_bc_some, am_bq_some, am_gf_c, am_rd_c, am_bh_pf, am_bh_wr, am_g_p, ob_get, ob_put, ar_get, ar_put, ob_tag, ar_tag, i_zero, i_add, i_sub, i_mul, i_lt, i_le, i_eq, i_val, if_pos, if_neg, Option.toList_some, Option.toList_none, List.cons_append, List.nil_append, beq_self_eq_true, true_or, or_true, up_at, up_ne, ↓reduceIte, Nat.reduceEqDiff, le_t, le_f, lt_t, lt_f, eq_t, eq_f, nq_t, nq_f, nl_t, nl_f, and_true, true_and, and_false, false_and, not_true_eq_false, not_false_eq_true, or_false, false_or, az_tag, al_tag, az_get, az_put, am_bh_wz, gX, gT, gW, gS, gA, gL, gM, gE, gN, gX_11, gX_1, gX_2, gT_1, gW_0, gW_1, gW_2, gW_3, gW_12, gW_13, gA_1, gL_1, gE_3, gM_0, gM_1, gM_2, gM_3, gN_0, gN_2, gN_3, gN_4, gN_5, gN_10, gN_11, gN_17, gN_18, gN_23, gN_24, gN_29, gN_35, gN_36, gN_42, am_p_p, Int.toNat_natCast, aq_tag, am_rq_c, am_bh_wq, aq_get3, aq_get4, aq_put3, Int.reduceAdd, Int.reduceSub, Int.reduceMul, Int.reduceToNat, y10]) (by rw [am_g_p, if_neg (by omega), r6 _ (by omega) (by omega)]; exact y113) (by rw [am_g_p, if_neg (by omega), r6 _ (by omega) (by omega)]; exact hQ.1) (by rw [am_g_p, if_neg (by omega)]; exact r3) r4 r5 76 0 (am_p A1 105 (ob 11 43 (gN (up N 35 (-9)) sd))) (up N 35 (-9)) .null .null .null (by omega) (by simp (disch := omega) only [am_bv_some, am_bi_int, am_bl_long, am_br_ref, am_bc_some, am_bq_some, am_gf_c, am_rd_c, am_bh_pf, am_bh_wr, am_g_p, ob_get, ob_put, ar_get, ar_put, ob_tag, ar_tag, i_zero, i_add, i_sub, i_mul, i_lt, i_le, i_eq, i_val, if_pos, if_neg, Option.toList_some, Option.toList_none, List.cons_append, List.nil_append, beq_self_eq_true, true_or, or_true, up_at, up_ne, ↓reduceIte, Nat.reduceEqDiff, le_t, le_f, lt_t, lt_f, eq_t, eq_f, nq_t, nq_f, nl_t, nl_f, and_true, true_and, and_false, false_and, not_true_eq_false, not_false_eq_true, or_false, false_or, az_tag, al_tag, az_get, az_put, am_bh_wz, gX, gT, gW, gS, gA, gL, gM, gE, gN, gX_11, gX_1, gX_2, gT_1, gW_0, gW_1, gW_2, gW_3, gW_12, gW_13, gA_1, gL_1, gE_3, gM_0, gM_1, gM_2, gM_3, gN_0, gN_2, gN_3, gN_4, gN_5, gN_10, gN_11, gN_17, gN_18, gN_23, gN_24, gN_29, gN_35, gN_36, gN_42, am_p_p, Int.toNat_natCast, aq_tag, am_rq_c, am_bh_wq, aq_get3, aq_get4, aq_put3, Int.reduceAdd, Int.reduceSub, Int.reduceMul, Int.reduceToNat, ]) (fun _ _ => rfl) (fun _ _ => rfl) (fun h => absurd rfl h)
  have hg : ∀ i, i ≠ 105 → i ≠ 127 → i ≠ 128 → am_g A2 i = am_g A i := fun i u1 u2 u3 => by rw [c4 i u1, am_g_p, if_neg u1]; exact r6 i u2 u3
  have n10 : N2 10 = S 1 3 := by rw [c3 _ (by omega)]; simp (disch := omega) only [am_bv_some, am_bi_int, am_bl_long, am_br_ref, am_bc_some, am_bq_some, am_gf_c, am_rd_c, am_bh_pf, am_bh_wr, am_g_p, ob_get, ob_put, ar_get, ar_put, ob_tag, ar_tag, i_zero, i_add, i_sub, i_mul, i_lt, i_le, i_eq, i_val, if_pos, if_neg, Option.toList_some, Option.toList_none, List.cons_append, List.nil_append, beq_self_eq_true, true_or, or_true, up_at, up_ne, ↓reduceIte, Nat.reduceEqDiff, le_t, le_f, lt_t, lt_f, eq_t, eq_f, nq_t, nq_f, nl_t, nl_f, and_true, true_and, and_false, false_and, not_true_eq_false, not_false_eq_true, or_false, false_or, az_tag, al_tag, az_get, az_put, am_bh_wz, gX, gT, gW, gS, gA, gL, gM, gE, gN, gX_11, gX_1, gX_2, gT_1, gW_0, gW_1, gW_2, gW_3, gW_12, gW_13, gA_1, gL_1, gE_3, gM_0, gM_1, gM_2, gM_3, gN_0, gN_2, gN_3, gN_4, gN_5, gN_10, gN_11, gN_17, gN_18, gN_23, gN_24, gN_29, gN_35, gN_36, gN_42, am_p_p, Int.toNat_natCast, aq_tag, am_rq_c, am_bh_wq, aq_get3, aq_get4, aq_put3, Int.reduceAdd, Int.reduceSub, Int.reduceMul, Int.reduceToNat, y10]
  have n11 : N2 11 = S 1 4 := by rw [c3 _ (by omega)]; simp (disch := omega) only [am_bv_some, am_bi_int, am_bl_long, am_br_ref, am_bc_some, am_bq_some, am_gf_c, am_rd_c, am_bh_pf, am_bh_wr, am_g_p, ob_get, ob_put, ar_get, ar_put, ob_tag, ar_tag, i_zero, i_add, i_sub, i_mul, i_lt, i_le, i_eq, i_val, if_pos, if_neg, Option.toList_some, Option.toList_none, List.cons_append, List.nil_append, beq_self_eq_true, true_or, or_true, up_at, up_ne, ↓reduceIte, Nat.reduceEqDiff, le_t, le_f, lt_t, lt_f, eq_t, eq_f, nq_t, nq_f, nl_t, nl_f, and_true, true_and, and_false, false_and, not_true_eq_false, not_false_eq_true, or_false, false_or, az_tag, al_tag, az_get, az_put, am_bh_wz, gX, gT, gW, gS, gA, gL, gM, gE, gN, gX_11, gX_1, gX_2, gT_1, gW_0, gW_1, gW_2, gW_3, gW_12, gW_13, gA_1, gL_1, gE_3, gM_0, gM_1, gM_2, gM_3, gN_0, gN_2, gN_3, gN_4, gN_5, gN_10, gN_11, gN_17, gN_18, gN_23, gN_24, gN_29, gN_35, gN_36, gN_42, am_p_p, Int.toNat_natCast, aq_tag, am_rq_c, am_bh_wq, aq_get3, aq_get4, aq_put3, Int.reduceAdd, Int.reduceSub, Int.reduceMul, Int.reduceToNat, y11]
  refine ⟨A2, N2, ?_, ?_, fun i hi => hg i (by omega) (by omega) (by omega), c2, n10, n11, c5⟩
  · rw [← c1, show (tk (ssG S F P) (2147483647, []) M76 0).1 = 2147483647 from rfl, dz_i]
    simp (disch := omega) only [am_bv_some, am_bi_int, am_bl_long, am_br_ref, am_bc_some, am_bq_some, am_gf_c, am_rd_c, am_bh_pf, am_bh_wr, am_g_p, ob_get, ob_put, ar_get, ar_put, ob_tag, ar_tag, i_zero, i_add, i_sub, i_mul, i_lt, i_le, i_eq, i_val, if_pos, if_neg, Option.toList_some, Option.toList_none, List.cons_append, List.nil_append, beq_self_eq_true, true_or, or_true, up_at, up_ne, ↓reduceIte, Nat.reduceEqDiff, le_t, le_f, lt_t, lt_f, eq_t, eq_f, nq_t, nq_f, nl_t, nl_f, and_true, true_and, and_false, false_and, not_true_eq_false, not_false_eq_true, or_false, false_or, az_tag, al_tag, az_get, az_put, am_bh_wz, gX, gT, gW, gS, gA, gL, gM, gE, gN, gX_11, gX_1, gX_2, gT_1, gW_0, gW_1, gW_2, gW_3, gW_12, gW_13, gA_1, gL_1, gE_3, gM_0, gM_1, gM_2, gM_3, gN_0, gN_2, gN_3, gN_4, gN_5, gN_10, gN_11, gN_17, gN_18, gN_23, gN_24, gN_29, gN_35, gN_36, gN_42, am_p_p, Int.toNat_natCast, aq_tag, am_rq_c, am_bh_wq, aq_get3, aq_get4, aq_put3, Int.reduceAdd, Int.reduceSub, Int.reduceMul, Int.reduceToNat, c142, s142_0, s142_1, s142_2, s142_5, s142_7, s142_8, s142_9, s142_11, s142_14, s142_15, s142_17, s142_19, s142_22, s142_23, s142_24, s142_25, s142_28, s142_31, s142_32, s142_34, s142_35, s142_39, s142_40, s142_43, s142_46, s142_47, s142_50, s142_52, s142_54, s142_55, s142_56, s142_59, s142_61, s142_62, s142_63, s142_65, s142_66, s142_67, s142_68, s142_69, s142_71, s142_73, s142_75, s142_78, s142_80, s142_82, s142_85, s142_87, s142_90, s142_92, s142_94, s142_95, s142_97, s142_100, s142_103, s142_105, s142_106, s142_109, s142_111, s142_112, s142_113, s142_114, s142_117, s142_120, s142_123, s142_124, y0, r1, x0, Int.cast_ofNat_Int]
  · have hN2 : ∀ j, j ≠ 35 → N2 j = N j := fun j hj => by rw [c3 j hj, up_ne _ _ hj]
    have hg0 := hg
    have hg : ∀ i, (i ≠ 105 ∧ i ≠ 127 ∧ i ≠ 128) → am_g A2 i = am_g A i := fun i u => hg0 i u.1 u.2.1 u.2.2
    have hTS : TS S S := TS.rf S
    exact ⟨N2, fr, to, fa, be, pa, go, bk, ke, ⟨c2, by rw [hN2 _ (by omega)]; exact y2, by rw [hN2 _ (by omega)]; exact y4, by rw [hN2 _ (by omega)]; exact y5, by rw [hN2 _ (by omega)]; exact y10, by rw [hN2 _ (by omega)]; exact y11, by rw [hN2 _ (by omega)]; exact y29, by rw [hN2 _ (by omega)]; exact y36, by rw [hg 106 (by omega)]; exact y106⟩, hT.congr (fun i a b => hg i (by omega)) hTS, hS.congr (fun i a b => hg i (by omega)) rfl rfl rfl, hRr.congr (fun i a b => hg i (by omega)), hB.congr (fun i a => hg i (by omega)) (fun a ha => rfl), hK.congr (fun i a => hg i (by omega)) rfl rfl (fun a ha hb => rfl), ⟨by rw [hg 126 (by omega)]; exact hQ.1, ⟨en, by rw [c4 _ (by omega), am_g_p, if_neg (by omega)]; exact r3⟩, by rw [c4 _ (by omega), am_g_p, if_neg (by omega)]; exact r2, by rw [hg _ (by omega)]; exact hQ.2.2.2.1, by rw [hg _ (by omega)]; exact hQ.2.2.2.2⟩, hNn.congr (fun i a b => hg i (by omega)) rfl rfl rfl⟩
theorem dz_onn2 {x : Int} (h : x = 2147483647 ∨ 0 ≤ x ∧ x ≤ 960000) : (if dz 999999 x = 999999 then -9 else dz 999999 x) = onn x := by
  unfold onn
  rcases h with h | h
  · rw [h, dz_i, if_pos rfl, if_pos rfl]
  · rw [dz_f (by omega), if_neg (by omega), if_neg (by omega)]
theorem m_soonest (d c : Nat) (A : am_H) (S : Nat → Nat → Int) (sd : Int64) (h' : MI A S sd mtF) (hR : RR S c) : ∃ A', am_call (d + 20) 143 [.ref 105] A = some (some (.int (Int32.ofInt (soonestR S))), A') ∧ MI A' S sd mtF ∧ FM A A' := by
  obtain ⟨A0, N0, e0, eA, h, hFM⟩ := m_thrown h'
  have h0 := h
  have hF := hR.1.F64
  have h6' := hR.1.2.2.2.1
  obtain ⟨P, hP⟩ : ∃ P : Nat, S 1 3 = (P : Int) := ⟨(S 1 3).toNat, by omega⟩
  obtain ⟨N, fr, to, fa, be, pa, go, bk, ke, hA, hT, hS, hRr, hB, hK, hQ, hNn⟩ := h
  obtain ⟨y0, y2, y4, y5, y10, y11, y29, y36, y106⟩ := id hA
  obtain ⟨y107, y108, y109, y110, y111, y112, yK, yP⟩ := id hT
  obtain ⟨y113, y114, y115⟩ := id hS
  obtain ⟨y123, yB⟩ := id hB
  obtain ⟨y124, yKe, y125⟩ := id hK
  obtain ⟨y129, y130, y131⟩ := id hNn
  obtain ⟨A1, N1, c1, c2, c3, -⟩ := m_findSoonest (d + 13) c A0 S (S 1 4) sd h0 hR hF
  have rg := SS_rng (S 1 4) hR hP (by omega)
  unfold soonestR
  rw [← dz_onn2 rg]
  have b1 := dz_r rg (by omega)
  generalize dz 999999 (SS S (S 1 4)).1 = v at c1 b1 ⊢
  refine ⟨A1, ?_, c2, fun i hi => (c3 i hi).trans (hFM i hi)⟩
  by_cases q : v = 999999
  · rw [if_pos q]
    simp (disch := omega) only [am_bv_some, am_bi_int, am_bl_long, am_br_ref, am_bc_some, am_bq_some, am_gf_c, am_rd_c, am_bh_pf, am_bh_wr, am_g_p, ob_get, ob_put, ar_get, ar_put, ob_tag, ar_tag, i_zero, i_add, i_sub, i_mul, i_lt, i_le, i_eq, i_val, if_pos, if_neg, Option.toList_some, Option.toList_none, List.cons_append, List.nil_append, beq_self_eq_true, true_or, or_true, up_at, up_ne, ↓reduceIte, Nat.reduceEqDiff, le_t, le_f, lt_t, lt_f, eq_t, eq_f, nq_t, nq_f, nl_t, nl_f, and_true, true_and, and_false, false_and, not_true_eq_false, not_false_eq_true, or_false, false_or, az_tag, al_tag, az_get, az_put, am_bh_wz, gX, gT, gW, gS, gA, gL, gM, gE, gN, gX_11, gX_1, gX_2, gT_1, gW_0, gW_1, gW_2, gW_3, gW_12, gW_13, gA_1, gL_1, gE_3, gM_0, gM_1, gM_2, gM_3, gN_0, gN_2, gN_3, gN_4, gN_5, gN_10, gN_11, gN_17, gN_18, gN_23, gN_24, gN_29, gN_35, gN_36, gN_42, am_p_p, Int.toNat_natCast, aq_tag, am_rq_c, am_bh_wq, aq_get3, aq_get4, aq_put3, Int.reduceAdd, Int.reduceSub, Int.reduceMul, Int.reduceToNat, c143, s143_0, s143_1, s143_2, s143_5, s143_6, s143_7, s143_10, s143_13, s143_14, s143_15, s143_17, s143_20, s143_22, s143_25, s143_26, e0, eA, y0, y11, c1]
  · rw [if_neg q]
    simp (disch := omega) only [am_bv_some, am_bi_int, am_bl_long, am_br_ref, am_bc_some, am_bq_some, am_gf_c, am_rd_c, am_bh_pf, am_bh_wr, am_g_p, ob_get, ob_put, ar_get, ar_put, ob_tag, ar_tag, i_zero, i_add, i_sub, i_mul, i_lt, i_le, i_eq, i_val, if_pos, if_neg, Option.toList_some, Option.toList_none, List.cons_append, List.nil_append, beq_self_eq_true, true_or, or_true, up_at, up_ne, ↓reduceIte, Nat.reduceEqDiff, le_t, le_f, lt_t, lt_f, eq_t, eq_f, nq_t, nq_f, nl_t, nl_f, and_true, true_and, and_false, false_and, not_true_eq_false, not_false_eq_true, or_false, false_or, az_tag, al_tag, az_get, az_put, am_bh_wz, gX, gT, gW, gS, gA, gL, gM, gE, gN, gX_11, gX_1, gX_2, gT_1, gW_0, gW_1, gW_2, gW_3, gW_12, gW_13, gA_1, gL_1, gE_3, gM_0, gM_1, gM_2, gM_3, gN_0, gN_2, gN_3, gN_4, gN_5, gN_10, gN_11, gN_17, gN_18, gN_23, gN_24, gN_29, gN_35, gN_36, gN_42, am_p_p, Int.toNat_natCast, aq_tag, am_rq_c, am_bh_wq, aq_get3, aq_get4, aq_put3, Int.reduceAdd, Int.reduceSub, Int.reduceMul, Int.reduceToNat, c143, s143_0, s143_1, s143_2, s143_5, s143_6, s143_7, s143_10, s143_13, s143_14, s143_15, s143_17, s143_20, s143_22, s143_25, s143_26, e0, eA, y0, y11, c1]
theorem m_soonestWith (d c : Nat) (A : am_H) (S : Nat → Nat → Int) (sd : Int64) (z : Int) (h' : MI A S sd mtF) (hR : RR S c) (hz : -2147483648 ≤ z ∧ z ≤ 2147483647) : ∃ A', am_call (d + 20) 144 [.ref 105, .int (Int32.ofInt z)] A = some (some (.int (Int32.ofInt (soonestWithR S z))), A') ∧ MI A' S sd mtF ∧ FM A A' := by
  obtain ⟨A0, N0, e0, eA, h, hFM⟩ := m_thrown h'
  have h0 := h
  have hF := hR.1.F64
  have h6' := hR.1.2.2.2.1
  obtain ⟨P, hP⟩ : ∃ P : Nat, S 1 3 = (P : Int) := ⟨(S 1 3).toNat, by omega⟩
  obtain ⟨N, fr, to, fa, be, pa, go, bk, ke, hA, hT, hS, hRr, hB, hK, hQ, hNn⟩ := h
  obtain ⟨y0, y2, y4, y5, y10, y11, y29, y36, y106⟩ := id hA
  obtain ⟨y107, y108, y109, y110, y111, y112, yK, yP⟩ := id hT
  obtain ⟨y113, y114, y115⟩ := id hS
  obtain ⟨y123, yB⟩ := id hB
  obtain ⟨y124, yKe, y125⟩ := id hK
  obtain ⟨y129, y130, y131⟩ := id hNn
  have px := fun d => m_noOne d A0 N sd z y0 (by omega) hz
  rw [y10] at px
  unfold soonestWithR
  by_cases q0 : 0 ≤ z ∧ z < S 1 3
  · rw [if_pos q0] at px ⊢
    obtain ⟨p, rfl⟩ : ∃ p : Nat, z = (p : Int) := ⟨z.toNat, by omega⟩
    rw [Int.toNat_natCast]
    obtain ⟨A1, N1, c1, c2, c3, c4, c5, c6, c7⟩ := m_findSoonest (d + 13) c A0 S (S 1 4) sd h0 hR hF
    have rg := SS_rng (S 1 4) hR hP (by omega)
    refine ⟨A1, ?_, c2, fun i hi => (c3 i hi).trans (hFM i hi)⟩
    by_cases q : (SS S (S 1 4)).1 = 2147483647
    · rw [if_pos q]
      rw [q, dz_i] at c1
      simp (disch := omega) only [am_bv_some, am_bi_int, am_bl_long, am_br_ref, am_bc_some, am_bq_some, am_gf_c, am_rd_c, am_bh_pf, am_bh_wr, am_g_p, ob_get, ob_put, ar_get, ar_put, ob_tag, ar_tag, i_zero, i_add, i_sub, i_mul, i_lt, i_le, i_eq, i_val, if_pos, if_neg, Option.toList_some, Option.toList_none, List.cons_append, List.nil_append, beq_self_eq_true, true_or, or_true, up_at, up_ne, ↓reduceIte, Nat.reduceEqDiff, le_t, le_f, lt_t, lt_f, eq_t, eq_f, nq_t, nq_f, nl_t, nl_f, and_true, true_and, and_false, false_and, not_true_eq_false, not_false_eq_true, or_false, false_or, az_tag, al_tag, az_get, az_put, am_bh_wz, gX, gT, gW, gS, gA, gL, gM, gE, gN, gX_11, gX_1, gX_2, gT_1, gW_0, gW_1, gW_2, gW_3, gW_12, gW_13, gA_1, gL_1, gE_3, gM_0, gM_1, gM_2, gM_3, gN_0, gN_2, gN_3, gN_4, gN_5, gN_10, gN_11, gN_17, gN_18, gN_23, gN_24, gN_29, gN_35, gN_36, gN_42, am_p_p, Int.toNat_natCast, aq_tag, am_rq_c, am_bh_wq, aq_get3, aq_get4, aq_put3, Int.reduceAdd, Int.reduceSub, Int.reduceMul, Int.reduceToNat, c144, s144_0, s144_1, s144_2, s144_5, s144_6, s144_7, s144_10, s144_13, s144_14, s144_15, s144_16, s144_17, s144_20, s144_23, s144_25, s144_28, s144_30, s144_33, s144_34, s144_37, s144_39, s144_40, s144_43, s144_44, s144_45, s144_46, s144_47, e0, eA, y0, y11, px, c1]
    · rw [if_neg q]
      obtain ⟨m, m1, m2, m3⟩ := c7 q
      rw [dz_f q] at c1
      have x26 : am_g A1 126 = ar 456 mtF := by
        obtain ⟨-, -, -, -, -, -, -, -, -, -, -, -, -, -, -, kQ, -⟩ := id c2
        exact kQ.1
      have e1 : (6 * (m : Int) + (p : Int)).toNat = 6 * m + p := by omega
      have e2 := mtF_at m (p := p) (by omega)
      rw [m3] at e2
      generalize (SS S (S 1 4)).1 = v at c1 rg q
      simp (disch := omega) only [am_bv_some, am_bi_int, am_bl_long, am_br_ref, am_bc_some, am_bq_some, am_gf_c, am_rd_c, am_bh_pf, am_bh_wr, am_g_p, ob_get, ob_put, ar_get, ar_put, ob_tag, ar_tag, i_zero, i_add, i_sub, i_mul, i_lt, i_le, i_eq, i_val, if_pos, if_neg, Option.toList_some, Option.toList_none, List.cons_append, List.nil_append, beq_self_eq_true, true_or, or_true, up_at, up_ne, ↓reduceIte, Nat.reduceEqDiff, le_t, le_f, lt_t, lt_f, eq_t, eq_f, nq_t, nq_f, nl_t, nl_f, and_true, true_and, and_false, false_and, not_true_eq_false, not_false_eq_true, or_false, false_or, az_tag, al_tag, az_get, az_put, am_bh_wz, gX, gT, gW, gS, gA, gL, gM, gE, gN, gX_11, gX_1, gX_2, gT_1, gW_0, gW_1, gW_2, gW_3, gW_12, gW_13, gA_1, gL_1, gE_3, gM_0, gM_1, gM_2, gM_3, gN_0, gN_2, gN_3, gN_4, gN_5, gN_10, gN_11, gN_17, gN_18, gN_23, gN_24, gN_29, gN_35, gN_36, gN_42, am_p_p, Int.toNat_natCast, aq_tag, am_rq_c, am_bh_wq, aq_get3, aq_get4, aq_put3, Int.reduceAdd, Int.reduceSub, Int.reduceMul, Int.reduceToNat, c144, s144_0, s144_1, s144_2, s144_5, s144_6, s144_7, s144_10, s144_13, s144_14, s144_15, s144_16, s144_17, s144_20, s144_23, s144_25, s144_28, s144_30, s144_33, s144_34, s144_37, s144_39, s144_40, s144_43, s144_44, s144_45, s144_46, s144_47, e0, eA, y0, y11, px, c1, c4, m1, x26, e1, e2]
  · rw [if_neg q0] at px ⊢
    exact ⟨A0, by simp (disch := omega) only [am_bv_some, am_bi_int, am_bl_long, am_br_ref, am_bc_some, am_bq_some, am_gf_c, am_rd_c, am_bh_pf, am_bh_wr, am_g_p, ob_get, ob_put, ar_get, ar_put, ob_tag, ar_tag, i_zero, i_add, i_sub, i_mul, i_lt, i_le, i_eq, i_val, if_pos, if_neg, Option.toList_some, Option.toList_none, List.cons_append, List.nil_append, beq_self_eq_true, true_or, or_true, up_at, up_ne, ↓reduceIte, Nat.reduceEqDiff, le_t, le_f, lt_t, lt_f, eq_t, eq_f, nq_t, nq_f, nl_t, nl_f, and_true, true_and, and_false, false_and, not_true_eq_false, not_false_eq_true, or_false, false_or, az_tag, al_tag, az_get, az_put, am_bh_wz, gX, gT, gW, gS, gA, gL, gM, gE, gN, gX_11, gX_1, gX_2, gT_1, gW_0, gW_1, gW_2, gW_3, gW_12, gW_13, gA_1, gL_1, gE_3, gM_0, gM_1, gM_2, gM_3, gN_0, gN_2, gN_3, gN_4, gN_5, gN_10, gN_11, gN_17, gN_18, gN_23, gN_24, gN_29, gN_35, gN_36, gN_42, am_p_p, Int.toNat_natCast, aq_tag, am_rq_c, am_bh_wq, aq_get3, aq_get4, aq_put3, Int.reduceAdd, Int.reduceSub, Int.reduceMul, Int.reduceToNat, c144, s144_0, s144_1, s144_2, s144_5, s144_6, s144_7, s144_10, s144_13, s144_14, s144_15, s144_16, s144_17, s144_20, s144_23, s144_25, s144_28, s144_30, s144_33, s144_34, s144_37, s144_39, s144_40, s144_43, s144_44, s144_45, s144_46, s144_47, e0, eA, y0, px], h0, hFM⟩
theorem m_worth (d c : Nat) (A : am_H) (S : Nat → Nat → Int) (sd : Int64) (z : Int) (h' : MI A S sd mtF) (hR : RR S c) (hz : -2147483648 ≤ z ∧ z ≤ 2147483647) : ∃ A', am_call (d + 20) 145 [.ref 105, .int (Int32.ofInt z)] A = some (some (.int (Int32.ofInt (worthR S z))), A') ∧ MI A' S sd mtF ∧ FM A A' := by
  obtain ⟨A0, N0, e0, eA, h, hFM⟩ := m_thrown h'
  have h0 := h
  have hF := hR.1.F64
  have h6' := hR.1.2.2.2.1
  obtain ⟨P, hP⟩ : ∃ P : Nat, S 1 3 = (P : Int) := ⟨(S 1 3).toNat, by omega⟩
  obtain ⟨N, fr, to, fa, be, pa, go, bk, ke, hA, hT, hS, hRr, hB, hK, hQ, hNn⟩ := h
  obtain ⟨y0, y2, y4, y5, y10, y11, y29, y36, y106⟩ := id hA
  obtain ⟨y107, y108, y109, y110, y111, y112, yK, yP⟩ := id hT
  obtain ⟨y113, y114, y115⟩ := id hS
  obtain ⟨y123, yB⟩ := id hB
  obtain ⟨y124, yKe, y125⟩ := id hK
  obtain ⟨y129, y130, y131⟩ := id hNn
  have px := fun d => m_noOne d A0 N sd z y0 (by omega) hz
  rw [y10] at px
  unfold worthR
  by_cases q0 : 0 ≤ z ∧ z < S 1 3
  · rw [if_pos q0] at px ⊢
    obtain ⟨p, rfl⟩ : ∃ p : Nat, z = (p : Int) := ⟨z.toNat, by omega⟩
    rw [Int.toNat_natCast]
    obtain ⟨x1, x2, x3⟩ := i_xor hF (p := p) (by omega)
    obtain ⟨A1, N1, c1, c2, c3, c4, c5, c6, c7⟩ := m_findSoonest (d + 13) c A0 S (S 1 4) sd h0 hR hF
    obtain ⟨A2, N2, d1, d2, d3, -⟩ := m_findSoonest (d + 13) c A1 S (xf (S 1 4) p) sd c2 hR ⟨x2, x3⟩
    have rg := SS_rng (S 1 4) hR hP (by omega)
    have rg2 := SS_rng (xf (S 1 4) p) hR hP (by omega)
    refine ⟨A2, ?_, d2, fun i hi => ((d3 i hi).trans (c3 i hi)).trans (hFM i hi)⟩
    generalize (SS S (S 1 4)).1 = v1 at c1 rg ⊢
    generalize (SS S (xf (S 1 4) p)).1 = v2 at d1 rg2 ⊢
    by_cases q1 : v1 = 2147483647
    · rw [if_pos (Or.inl q1)]
      rw [q1, dz_i] at c1
      have b2 := dz_r rg2 (by omega)
      generalize dz 999999 v2 = w at d1 b2
      simp (disch := omega) only [am_bv_some, am_bi_int, am_bl_long, am_br_ref, am_bc_some, am_bq_some, am_gf_c, am_rd_c, am_bh_pf, am_bh_wr, am_g_p, ob_get, ob_put, ar_get, ar_put, ob_tag, ar_tag, i_zero, i_add, i_sub, i_mul, i_lt, i_le, i_eq, i_val, if_pos, if_neg, Option.toList_some, Option.toList_none, List.cons_append, List.nil_append, beq_self_eq_true, true_or, or_true, up_at, up_ne, ↓reduceIte, Nat.reduceEqDiff, le_t, le_f, lt_t, lt_f, eq_t, eq_f, nq_t, nq_f, nl_t, nl_f, and_true, true_and, and_false, false_and, not_true_eq_false, not_false_eq_true, or_false, false_or, az_tag, al_tag, az_get, az_put, am_bh_wz, gX, gT, gW, gS, gA, gL, gM, gE, gN, gX_11, gX_1, gX_2, gT_1, gW_0, gW_1, gW_2, gW_3, gW_12, gW_13, gA_1, gL_1, gE_3, gM_0, gM_1, gM_2, gM_3, gN_0, gN_2, gN_3, gN_4, gN_5, gN_10, gN_11, gN_17, gN_18, gN_23, gN_24, gN_29, gN_35, gN_36, gN_42, am_p_p, Int.toNat_natCast, aq_tag, am_rq_c, am_bh_wq, aq_get3, aq_get4, aq_put3, Int.reduceAdd, Int.reduceSub, Int.reduceMul, Int.reduceToNat, c145, s145_0, s145_1, s145_2, s145_5, s145_6, s145_7, s145_10, s145_13, s145_14, s145_15, s145_16, s145_17, s145_20, s145_23, s145_24, s145_25, s145_26, s145_29, s145_30, s145_31, s145_32, s145_33, s145_36, s145_37, s145_38, s145_40, s145_43, s145_44, s145_46, s145_49, s145_51, s145_54, s145_57, s145_58, s145_59, s145_60, s145_61, e0, eA, y0, y11, px, c1, c4, c6, x1, d1]
    · rw [dz_f q1] at c1
      by_cases q2 : v2 = 2147483647
      · rw [if_pos (Or.inr q2)]
        rw [q2, dz_i] at d1
        simp (disch := omega) only [am_bv_some, am_bi_int, am_bl_long, am_br_ref, am_bc_some, am_bq_some, am_gf_c, am_rd_c, am_bh_pf, am_bh_wr, am_g_p, ob_get, ob_put, ar_get, ar_put, ob_tag, ar_tag, i_zero, i_add, i_sub, i_mul, i_lt, i_le, i_eq, i_val, if_pos, if_neg, Option.toList_some, Option.toList_none, List.cons_append, List.nil_append, beq_self_eq_true, true_or, or_true, up_at, up_ne, ↓reduceIte, Nat.reduceEqDiff, le_t, le_f, lt_t, lt_f, eq_t, eq_f, nq_t, nq_f, nl_t, nl_f, and_true, true_and, and_false, false_and, not_true_eq_false, not_false_eq_true, or_false, false_or, az_tag, al_tag, az_get, az_put, am_bh_wz, gX, gT, gW, gS, gA, gL, gM, gE, gN, gX_11, gX_1, gX_2, gT_1, gW_0, gW_1, gW_2, gW_3, gW_12, gW_13, gA_1, gL_1, gE_3, gM_0, gM_1, gM_2, gM_3, gN_0, gN_2, gN_3, gN_4, gN_5, gN_10, gN_11, gN_17, gN_18, gN_23, gN_24, gN_29, gN_35, gN_36, gN_42, am_p_p, Int.toNat_natCast, aq_tag, am_rq_c, am_bh_wq, aq_get3, aq_get4, aq_put3, Int.reduceAdd, Int.reduceSub, Int.reduceMul, Int.reduceToNat, c145, s145_0, s145_1, s145_2, s145_5, s145_6, s145_7, s145_10, s145_13, s145_14, s145_15, s145_16, s145_17, s145_20, s145_23, s145_24, s145_25, s145_26, s145_29, s145_30, s145_31, s145_32, s145_33, s145_36, s145_37, s145_38, s145_40, s145_43, s145_44, s145_46, s145_49, s145_51, s145_54, s145_57, s145_58, s145_59, s145_60, s145_61, e0, eA, y0, y11, px, c1, c4, c6, x1, d1]
      · rw [if_neg (fun e => e.elim q1 q2), show v2 - v1 + 1000 = 1000 + v2 - v1 by omega]
        rw [dz_f q2] at d1
        simp (disch := omega) only [am_bv_some, am_bi_int, am_bl_long, am_br_ref, am_bc_some, am_bq_some, am_gf_c, am_rd_c, am_bh_pf, am_bh_wr, am_g_p, ob_get, ob_put, ar_get, ar_put, ob_tag, ar_tag, i_zero, i_add, i_sub, i_mul, i_lt, i_le, i_eq, i_val, if_pos, if_neg, Option.toList_some, Option.toList_none, List.cons_append, List.nil_append, beq_self_eq_true, true_or, or_true, up_at, up_ne, ↓reduceIte, Nat.reduceEqDiff, le_t, le_f, lt_t, lt_f, eq_t, eq_f, nq_t, nq_f, nl_t, nl_f, and_true, true_and, and_false, false_and, not_true_eq_false, not_false_eq_true, or_false, false_or, az_tag, al_tag, az_get, az_put, am_bh_wz, gX, gT, gW, gS, gA, gL, gM, gE, gN, gX_11, gX_1, gX_2, gT_1, gW_0, gW_1, gW_2, gW_3, gW_12, gW_13, gA_1, gL_1, gE_3, gM_0, gM_1, gM_2, gM_3, gN_0, gN_2, gN_3, gN_4, gN_5, gN_10, gN_11, gN_17, gN_18, gN_23, gN_24, gN_29, gN_35, gN_36, gN_42, am_p_p, Int.toNat_natCast, aq_tag, am_rq_c, am_bh_wq, aq_get3, aq_get4, aq_put3, Int.reduceAdd, Int.reduceSub, Int.reduceMul, Int.reduceToNat, c145, s145_0, s145_1, s145_2, s145_5, s145_6, s145_7, s145_10, s145_13, s145_14, s145_15, s145_16, s145_17, s145_20, s145_23, s145_24, s145_25, s145_26, s145_29, s145_30, s145_31, s145_32, s145_33, s145_36, s145_37, s145_38, s145_40, s145_43, s145_44, s145_46, s145_49, s145_51, s145_54, s145_57, s145_58, s145_59, s145_60, s145_61, e0, eA, y0, y11, px, c1, c4, c6, x1, d1]
  · rw [if_neg q0] at px ⊢
    exact ⟨A0, by simp (disch := omega) only [am_bv_some, am_bi_int, am_bl_long, am_br_ref, am_bc_some, am_bq_some, am_gf_c, am_rd_c, am_bh_pf, am_bh_wr, am_g_p, ob_get, ob_put, ar_get, ar_put, ob_tag, ar_tag, i_zero, i_add, i_sub, i_mul, i_lt, i_le, i_eq, i_val, if_pos, if_neg, Option.toList_some, Option.toList_none, List.cons_append, List.nil_append, beq_self_eq_true, true_or, or_true, up_at, up_ne, ↓reduceIte, Nat.reduceEqDiff, le_t, le_f, lt_t, lt_f, eq_t, eq_f, nq_t, nq_f, nl_t, nl_f, and_true, true_and, and_false, false_and, not_true_eq_false, not_false_eq_true, or_false, false_or, az_tag, al_tag, az_get, az_put, am_bh_wz, gX, gT, gW, gS, gA, gL, gM, gE, gN, gX_11, gX_1, gX_2, gT_1, gW_0, gW_1, gW_2, gW_3, gW_12, gW_13, gA_1, gL_1, gE_3, gM_0, gM_1, gM_2, gM_3, gN_0, gN_2, gN_3, gN_4, gN_5, gN_10, gN_11, gN_17, gN_18, gN_23, gN_24, gN_29, gN_35, gN_36, gN_42, am_p_p, Int.toNat_natCast, aq_tag, am_rq_c, am_bh_wq, aq_get3, aq_get4, aq_put3, Int.reduceAdd, Int.reduceSub, Int.reduceMul, Int.reduceToNat, c145, s145_0, s145_1, s145_2, s145_5, s145_6, s145_7, s145_10, s145_13, s145_14, s145_15, s145_16, s145_17, s145_20, s145_23, s145_24, s145_25, s145_26, s145_29, s145_30, s145_31, s145_32, s145_33, s145_36, s145_37, s145_38, s145_40, s145_43, s145_44, s145_46, s145_49, s145_51, s145_54, s145_57, s145_58, s145_59, s145_60, s145_61, e0, eA, y0, px], h0, hFM⟩
theorem m_byLaw (d c : Nat) (A : am_H) (S : Nat → Nat → Int) (sd : Int64) (h' : MI A S sd mtF) (hR : RR S c) : ∃ A', am_call (d + 20) 146 [.ref 105] A = some (some (.int (Int32.ofInt (byLawR S))), A') ∧ MI A' S sd mtF ∧ FM A A' := by
  obtain ⟨A0, N0, e0, eA, h, hFM⟩ := m_thrown h'
  have h0 := h
  have h6' := hR.1.2.2.2.1
  obtain ⟨P, hP⟩ : ∃ P : Nat, S 1 3 = (P : Int) := ⟨(S 1 3).toNat, by omega⟩
  obtain ⟨N, fr, to, fa, be, pa, go, bk, ke, hA, hT, hS, hRr, hB, hK, hQ, hNn⟩ := h
  obtain ⟨y0, y2, y4, y5, y10, y11, y29, y36, y106⟩ := id hA
  obtain ⟨y107, y108, y109, y110, y111, y112, yK, yP⟩ := id hT
  obtain ⟨y113, y114, y115⟩ := id hS
  obtain ⟨y123, yB⟩ := id hB
  obtain ⟨y124, yKe, y125⟩ := id hK
  obtain ⟨y129, y130, y131⟩ := id hNn
  unfold byLawR
  rw [show (S 1 3).toNat = P by omega]
  have h6 : P ≤ 6 := by omega
  have h64 : 2 ^ P ≤ 64 := by
    have : 2 ^ P ≤ 2 ^ 6 := Nat.pow_le_pow_right (by omega) h6
    omega
  have hsh := i_shl h6
  generalize 2 ^ P = Q at h64 hsh ⊢
  have hbl : ∀ k : Nat, (blw (fun k => (SS S (k : Int)).1) 2147483647 k).1 = 2147483647 ∨ 0 ≤ (blw (fun k => (SS S (k : Int)).1) 2147483647 k).1 ∧ (blw (fun k => (SS S (k : Int)).1) 2147483647 k).1 ≤ 960000 := by
    intro k
    induction k with
    | zero => left; rfl
    | succ k ih =>
      unfold blw
      split
      · exact SS_rng (k : Int) hR hP h6
      · exact ih
  have loop : ∀ (m k : Nat) (A : am_H) (N : Nat → Int) (x4 : Value), k + m = Q → MI A S sd mtF → am_g A 105 = ob 11 43 (gN N sd) → N 10 = S 1 3 → FM A0 A → ∃ A', am_run (d + 20) 146 13 [.ref 105, .int (Int32.ofInt (blw (fun k => (SS S (k : Int)).1) 2147483647 k).2), .int (Int32.ofInt (dz 999999 (blw (fun k => (SS S (k : Int)).1) 2147483647 k).1)), .int (Int32.ofInt (k : Int)), x4] [] A = some (some (.int (Int32.ofInt (blw (fun k => (SS S (k : Int)).1) 2147483647 Q).2)), A') ∧ MI A' S sd mtF ∧ FM A0 A' := by
    intro m
    induction m with
    | zero =>
      intro k A N x4 hk hI h0 h10 hX
      have : k = Q := by omega
      subst this
      rw [hP] at h10
      refine ⟨A, ?_, hI, hX⟩
      simp (disch := omega) only [am_bv_some, am_bi_int, am_bl_long, am_br_ref, am_bc_some, am_bq_some, am_gf_c, am_rd_c, am_bh_pf, am_bh_wr, am_g_p, ob_get, ob_put, ar_get, ar_put, ob_tag, ar_tag, i_zero, i_add, i_sub, i_mul, i_lt, i_le, i_eq, i_val, if_pos, if_neg, Option.toList_some, Option.toList_none, List.cons_append, List.nil_append, beq_self_eq_true, true_or, or_true, up_at, up_ne, ↓reduceIte, Nat.reduceEqDiff, le_t, le_f, lt_t, lt_f, eq_t, eq_f, nq_t, nq_f, nl_t, nl_f, and_true, true_and, and_false, false_and, not_true_eq_false, not_false_eq_true, or_false, false_or, az_tag, al_tag, az_get, az_put, am_bh_wz, gX, gT, gW, gS, gA, gL, gM, gE, gN, gX_11, gX_1, gX_2, gT_1, gW_0, gW_1, gW_2, gW_3, gW_12, gW_13, gA_1, gL_1, gE_3, gM_0, gM_1, gM_2, gM_3, gN_0, gN_2, gN_3, gN_4, gN_5, gN_10, gN_11, gN_17, gN_18, gN_23, gN_24, gN_29, gN_35, gN_36, gN_42, am_p_p, Int.toNat_natCast, aq_tag, am_rq_c, am_bh_wq, aq_get3, aq_get4, aq_put3, Int.reduceAdd, Int.reduceSub, Int.reduceMul, Int.reduceToNat, s146_0, s146_1, s146_2, s146_5, s146_7, s146_8, s146_10, s146_11, s146_12, s146_13, s146_14, s146_15, s146_16, s146_19, s146_20, s146_23, s146_24, s146_25, s146_28, s146_30, s146_32, s146_33, s146_36, s146_37, s146_40, s146_41, s146_42, s146_44, s146_45, s146_48, s146_50, s146_53, s146_54, s146_55, s146_58, s146_61, s146_62, h0, h10, hsh]
    | succ m ih =>
      intro k A N x4 hk hI h0 h10 hX
      obtain ⟨A2, N2, c1, c2, c3, c4, c5, c6, c7⟩ := m_findSoonest (d + 13) c A S (k : Int) sd hI hR (by omega)
      have rg := SS_rng (k : Int) hR hP h6
      have rg2 := hbl k
      have hs : blw (fun k => (SS S (k : Int)).1) 2147483647 (k + 1) = if (SS S (k : Int)).1 < (blw (fun k => (SS S (k : Int)).1) 2147483647 k).1 then ((SS S (k : Int)).1, (k : Int)) else blw (fun k => (SS S (k : Int)).1) 2147483647 k := rfl
      obtain ⟨A3, d1, d2, d3⟩ := ih (k + 1) A2 N2 (.int (Int32.ofInt (dz 999999 (SS S (k : Int)).1))) (by omega) c2 c4 c5 (fun j hj => (c3 j hj).trans (hX j hj))
      refine ⟨A3, ?_, d2, d3⟩
      rw [hP] at h10
      rw [← d1, s146_13, hs]
      generalize blw (fun k => (SS S (k : Int)).1) 2147483647 k = y at rg2 ⊢
      generalize (SS S (k : Int)).1 = v at c1 rg ⊢
      have hlt := dz_lt2 rg rg2
      have b1 := dz_r rg (by omega)
      have b2 := dz_r rg2 (by omega)
      by_cases q : v < y.1
      · rw [if_pos q]
        have q3 : dz 999999 v < dz 999999 y.1 := by rw [hlt]; exact q
        show _ = am_run (d + 20) 146 13 [.ref 105, .int (Int32.ofInt (k : Int)), .int (Int32.ofInt (dz 999999 v)), .int (Int32.ofInt ((k + 1 : Nat) : Int)), .int (Int32.ofInt (dz 999999 v))] [] A2
        generalize dz 999999 v = w1 at *
        generalize dz 999999 y.1 = w2 at *
        simp (disch := omega) only [am_bv_some, am_bi_int, am_bl_long, am_br_ref, am_bc_some, am_bq_some, am_gf_c, am_rd_c, am_bh_pf, am_bh_wr, am_g_p, ob_get, ob_put, ar_get, ar_put, ob_tag, ar_tag, i_zero, i_add, i_sub, i_mul, i_lt, i_le, i_eq, i_val, if_pos, if_neg, Option.toList_some, Option.toList_none, List.cons_append, List.nil_append, beq_self_eq_true, true_or, or_true, up_at, up_ne, ↓reduceIte, Nat.reduceEqDiff, le_t, le_f, lt_t, lt_f, eq_t, eq_f, nq_t, nq_f, nl_t, nl_f, and_true, true_and, and_false, false_and, not_true_eq_false, not_false_eq_true, or_false, false_or, az_tag, al_tag, az_get, az_put, am_bh_wz, gX, gT, gW, gS, gA, gL, gM, gE, gN, gX_11, gX_1, gX_2, gT_1, gW_0, gW_1, gW_2, gW_3, gW_12, gW_13, gA_1, gL_1, gE_3, gM_0, gM_1, gM_2, gM_3, gN_0, gN_2, gN_3, gN_4, gN_5, gN_10, gN_11, gN_17, gN_18, gN_23, gN_24, gN_29, gN_35, gN_36, gN_42, am_p_p, Int.toNat_natCast, aq_tag, am_rq_c, am_bh_wq, aq_get3, aq_get4, aq_put3, Int.reduceAdd, Int.reduceSub, Int.reduceMul, Int.reduceToNat, s146_0, s146_1, s146_2, s146_5, s146_7, s146_8, s146_10, s146_11, s146_12, s146_14, s146_15, s146_16, s146_19, s146_20, s146_23, s146_24, s146_25, s146_28, s146_30, s146_32, s146_33, s146_36, s146_37, s146_40, s146_41, s146_42, s146_44, s146_45, s146_48, s146_50, s146_53, s146_54, s146_55, s146_58, s146_61, s146_62, h0, h10, hsh, c1, Int.natCast_add, Int.cast_ofNat_Int]
      · rw [if_neg q]
        have q3 : ¬ dz 999999 v < dz 999999 y.1 := by rw [hlt]; exact q
        generalize dz 999999 v = w1 at *
        generalize dz 999999 y.1 = w2 at *
        simp (disch := omega) only [am_bv_some, am_bi_int, am_bl_long, am_br_ref, am_bc_some, am_bq_some, am_gf_c, am_rd_c, am_bh_pf, am_bh_wr, am_g_p, ob_get, ob_put, ar_get, ar_put, ob_tag, ar_tag, i_zero, i_add, i_sub, i_mul, i_lt, i_le, i_eq, i_val, if_pos, if_neg, Option.toList_some, Option.toList_none, List.cons_append, List.nil_append, beq_self_eq_true, true_or, or_true, up_at, up_ne, ↓reduceIte, Nat.reduceEqDiff, le_t, le_f, lt_t, lt_f, eq_t, eq_f, nq_t, nq_f, nl_t, nl_f, and_true, true_and, and_false, false_and, not_true_eq_false, not_false_eq_true, or_false, false_or, az_tag, al_tag, az_get, az_put, am_bh_wz, gX, gT, gW, gS, gA, gL, gM, gE, gN, gX_11, gX_1, gX_2, gT_1, gW_0, gW_1, gW_2, gW_3, gW_12, gW_13, gA_1, gL_1, gE_3, gM_0, gM_1, gM_2, gM_3, gN_0, gN_2, gN_3, gN_4, gN_5, gN_10, gN_11, gN_17, gN_18, gN_23, gN_24, gN_29, gN_35, gN_36, gN_42, am_p_p, Int.toNat_natCast, aq_tag, am_rq_c, am_bh_wq, aq_get3, aq_get4, aq_put3, Int.reduceAdd, Int.reduceSub, Int.reduceMul, Int.reduceToNat, s146_0, s146_1, s146_2, s146_5, s146_7, s146_8, s146_10, s146_11, s146_12, s146_14, s146_15, s146_16, s146_19, s146_20, s146_23, s146_24, s146_25, s146_28, s146_30, s146_32, s146_33, s146_36, s146_37, s146_40, s146_41, s146_42, s146_44, s146_45, s146_48, s146_50, s146_53, s146_54, s146_55, s146_58, s146_61, s146_62, h0, h10, hsh, c1, Int.natCast_add, Int.cast_ofNat_Int]
  obtain ⟨A2, l1, l2, l3⟩ := loop Q 0 A0 N .null (by omega) h0 y0 y10 (fun _ _ => rfl)
  refine ⟨A2, ?_, l2, fun j hj => (l3 j hj).trans (hFM j hj)⟩
  rw [← l1, show (blw (fun k => (SS S (k : Int)).1) 2147483647 0) = (2147483647, -9) from rfl, dz_i]
  simp (disch := omega) only [am_bv_some, am_bi_int, am_bl_long, am_br_ref, am_bc_some, am_bq_some, am_gf_c, am_rd_c, am_bh_pf, am_bh_wr, am_g_p, ob_get, ob_put, ar_get, ar_put, ob_tag, ar_tag, i_zero, i_add, i_sub, i_mul, i_lt, i_le, i_eq, i_val, if_pos, if_neg, Option.toList_some, Option.toList_none, List.cons_append, List.nil_append, beq_self_eq_true, true_or, or_true, up_at, up_ne, ↓reduceIte, Nat.reduceEqDiff, le_t, le_f, lt_t, lt_f, eq_t, eq_f, nq_t, nq_f, nl_t, nl_f, and_true, true_and, and_false, false_and, not_true_eq_false, not_false_eq_true, or_false, false_or, az_tag, al_tag, az_get, az_put, am_bh_wz, gX, gT, gW, gS, gA, gL, gM, gE, gN, gX_11, gX_1, gX_2, gT_1, gW_0, gW_1, gW_2, gW_3, gW_12, gW_13, gA_1, gL_1, gE_3, gM_0, gM_1, gM_2, gM_3, gN_0, gN_2, gN_3, gN_4, gN_5, gN_10, gN_11, gN_17, gN_18, gN_23, gN_24, gN_29, gN_35, gN_36, gN_42, am_p_p, Int.toNat_natCast, aq_tag, am_rq_c, am_bh_wq, aq_get3, aq_get4, aq_put3, Int.reduceAdd, Int.reduceSub, Int.reduceMul, Int.reduceToNat, c146, s146_0, s146_1, s146_2, s146_5, s146_7, s146_8, s146_10, s146_11, s146_12, s146_14, s146_15, s146_16, s146_19, s146_20, s146_23, s146_24, s146_25, s146_28, s146_30, s146_32, s146_33, s146_36, s146_37, s146_40, s146_41, s146_42, s146_44, s146_45, s146_48, s146_50, s146_53, s146_54, s146_55, s146_58, s146_61, s146_62, e0, eA, Int.cast_ofNat_Int]
