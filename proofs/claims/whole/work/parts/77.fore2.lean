theorem p_foreTwo_run0 (d t l g gl gg : Nat) (A A1 : am_H) (b n K P F kd fe : Int) (at_ go ck rc tg : Nat → Int) (B lf gt gf lt bl bg A1m A2m v1 v2 : Int) (ht : t = 4 ∨ t = 13) (hl : l < 6) (hg : g < 6) (hgl : gl < 6) (hgg : gg < 6) (hb : b = 0)
    (e22 : am_g A 22 = ob 6 3 (gS 22)) (e23 : am_g A 23 = ar 6 at_) (e77 : am_g A 77 = ob 2 3 (gS 77))
    (ps : am_call (d + 2) 16 [.ref 77, .ref t, .ref 22, .int (Int32.ofInt (g : Int)), .int (Int32.ofInt (l : Int)), .int (Int32.ofInt (at_ l))] A = some (none, A1))
    (t0 : am_g A1 t = ob 8 14 (gW t n K P F kd fe)) (t7 : am_g A1 (t + 7) = ar 6 go) (s22 : am_g A1 22 = ob 6 3 (gS 22)) (s24 : am_g A1 24 = ar 6 ck) (s77 : am_g A1 77 = ob 2 3 (gS 77)) (s78 : am_g A1 78 = ar 6 rc) (s80 : am_g A1 80 = ar 72 tg)
    (hgo1 : go l = (gl : Int)) (hgo2 : go g = (gg : Int)) (r1 : 0 ≤ ck l ∧ ck l ≤ 1000000) (r2 : 0 ≤ ck g ∧ ck g ≤ 1000000) (hB : (if ck l < ck g then ck g else ck l) = B)
    (q1 : ∀ d, am_call d 103 [.int (Int32.ofInt B), .int (Int32.ofInt (rc gl))] A1 = some (some (.int (Int32.ofInt lf)), A1))
    (qa : ∀ d, am_call (d + 1) 64 [.ref t, .int (Int32.ofInt (g : Int)), .int (Int32.ofInt (gl : Int)), .int (Int32.ofInt (gg : Int))] A1 = some (some (.int (Int32.ofInt A1m)), A1))
    (q2 : ∀ d, am_call d 103 [.int (Int32.ofInt lf), .int (Int32.ofInt A1m)] A1 = some (some (.int (Int32.ofInt gt)), A1))
    (q3 : ∀ d, am_call d 103 [.int (Int32.ofInt B), .int (Int32.ofInt (rc gg))] A1 = some (some (.int (Int32.ofInt gf)), A1))
    (qb : ∀ d, am_call (d + 1) 64 [.ref t, .int (Int32.ofInt (l : Int)), .int (Int32.ofInt (gg : Int)), .int (Int32.ofInt (gl : Int))] A1 = some (some (.int (Int32.ofInt A2m)), A1))
    (q4 : ∀ d, am_call d 103 [.int (Int32.ofInt gf), .int (Int32.ofInt A2m)] A1 = some (some (.int (Int32.ofInt lt)), A1))
    (q5 : ∀ d, am_call d 103 [.int (Int32.ofInt lf), .int (Int32.ofInt gt)] A1 = some (some (.int (Int32.ofInt bl)), A1))
    (q6 : ∀ d, am_call d 103 [.int (Int32.ofInt gf), .int (Int32.ofInt lt)] A1 = some (some (.int (Int32.ofInt bg)), A1))
    (rb1 : 0 ≤ bl ∧ bl ≤ 2147483647) (rb2 : 0 ≤ bg ∧ bg ≤ 2147483647)
    (hc : (bl = 2147483647 ∧ bg = 2147483647 ∧ v1 = 2147483647 ∧ v2 = 2147483647) ∨ (bl ≠ 2147483647 ∧ bl ≤ bg ∧ v1 = lf ∧ v2 = gt) ∨ (bg < bl ∧ v1 = lt ∧ v2 = gf)) :
    am_call (d + 3) 15 [.ref 77, .ref t, .ref 22, .int (Int32.ofInt (l : Int)), .int (Int32.ofInt (g : Int)), .int (Int32.ofInt b)] A = some (none, am_p A1 80 (ar 72 (up (up tg (36 * 0 + 6 * l + g) v1) (36 * 1 + 6 * g + l) v2))) := by
  have e1 : ((0 + (l : Int)) * 6 + (g : Int)).toNat = 36 * 0 + 6 * l + g := by omega
  have e2 : ((6 + (g : Int)) * 6 + (l : Int)).toNat = 36 * 1 + 6 * g + l := by omega
  subst hb
  rcases hc with ⟨c1, c2, c3, c4⟩ | ⟨c1, c2, c3, c4⟩ | ⟨c2, c3, c4⟩
  · subst c3; subst c4
    simp (disch := omega) only [am_bv_some, am_bi_int, am_bl_long, am_br_ref, am_bc_some, am_bq_some, am_gf_c, am_rd_c, am_bh_pf, am_bh_wr, am_g_p, ob_get, ob_put, ar_get, ar_put, ob_tag, ar_tag, i_zero, i_add, i_sub, i_mul, i_lt, i_le, i_eq, i_val, if_pos, if_neg, Option.toList_some, Option.toList_none, List.cons_append, List.nil_append, beq_self_eq_true, true_or, or_true, up_at, up_ne, ↓reduceIte, Nat.reduceEqDiff, le_t, le_f, lt_t, lt_f, eq_t, eq_f, nq_t, nq_f, nl_t, nl_f, and_true, true_and, and_false, false_and, not_true_eq_false, not_false_eq_true, or_false, false_or, az_tag, al_tag, az_get, az_put, am_bh_wz, gX, gT, gW, gS, gA, gL, gM, gE, gN, gX_11, gX_1, gX_2, gT_1, gW_0, gW_1, gW_2, gW_3, gW_12, gW_13, gA_1, gL_1, gE_3, gM_0, gM_1, gM_2, gM_3, gN_0, gN_2, gN_3, gN_4, gN_5, gN_10, gN_11, gN_17, gN_18, gN_23, gN_24, gN_29, gN_35, gN_36, gN_42, am_p_p, Int.toNat_natCast, aq_tag, am_rq_c, am_bh_wq, aq_get3, aq_get4, aq_put3, Int.reduceAdd, Int.reduceSub, Int.reduceMul, Int.reduceToNat, c15, s15_0, s15_2, s15_5, s15_6, s15_7, s15_8, s15_9, s15_11, s15_12, s15_15, s15_16, s15_17, s15_20, s15_23, s15_24, s15_25, s15_26, s15_28, s15_29, s15_30, s15_33, s15_34, s15_35, s15_38, s15_39, s15_42, s15_43, s15_44, s15_46, s15_47, s15_50, s15_52, s15_53, s15_55, s15_56, s15_59, s15_60, s15_61, s15_62, s15_65, s15_67, s15_68, s15_71, s15_73, s15_75, s15_76, s15_79, s15_81, s15_82, s15_85, s15_87, s15_89, s15_90, s15_92, s15_94, s15_96, s15_99, s15_102, s15_104, s15_106, s15_107, s15_110, s15_112, s15_113, s15_116, s15_118, s15_120, s15_121, s15_122, s15_124, s15_126, s15_129, s15_132, s15_134, s15_136, s15_138, s15_141, s15_143, s15_145, s15_147, s15_150, s15_152, s15_154, s15_156, s15_159, s15_161, s15_163, s15_166, s15_167, s15_170, s15_171, s15_173, s15_175, s15_177, s15_180, s15_181, s15_184, s15_185, s15_187, s15_189, s15_192, s15_193, s15_196, s15_197, s15_199, s15_200, s15_203, s15_205, s15_206, s15_208, s15_211, s15_213, s15_216, s15_218, s15_221, s15_223, s15_226, s15_228, s15_231, s15_233, s15_234, s15_235, s15_238, s15_239, s15_241, s15_242, s15_244, s15_245, s15_248, s15_250, s15_253, s15_255, s15_258, s15_260, s15_263, s15_265, s15_268, s15_270, s15_271, e22, e23, e77, ps, t0, t7, s22, s24, s77, s78, s80, hgo1, hgo2, i_ite, hB, q1, qa, q2, q3, qb, q4, q5, q6, p_at, e1, e2]
  · subst c3; subst c4
    simp (disch := omega) only [am_bv_some, am_bi_int, am_bl_long, am_br_ref, am_bc_some, am_bq_some, am_gf_c, am_rd_c, am_bh_pf, am_bh_wr, am_g_p, ob_get, ob_put, ar_get, ar_put, ob_tag, ar_tag, i_zero, i_add, i_sub, i_mul, i_lt, i_le, i_eq, i_val, if_pos, if_neg, Option.toList_some, Option.toList_none, List.cons_append, List.nil_append, beq_self_eq_true, true_or, or_true, up_at, up_ne, ↓reduceIte, Nat.reduceEqDiff, le_t, le_f, lt_t, lt_f, eq_t, eq_f, nq_t, nq_f, nl_t, nl_f, and_true, true_and, and_false, false_and, not_true_eq_false, not_false_eq_true, or_false, false_or, az_tag, al_tag, az_get, az_put, am_bh_wz, gX, gT, gW, gS, gA, gL, gM, gE, gN, gX_11, gX_1, gX_2, gT_1, gW_0, gW_1, gW_2, gW_3, gW_12, gW_13, gA_1, gL_1, gE_3, gM_0, gM_1, gM_2, gM_3, gN_0, gN_2, gN_3, gN_4, gN_5, gN_10, gN_11, gN_17, gN_18, gN_23, gN_24, gN_29, gN_35, gN_36, gN_42, am_p_p, Int.toNat_natCast, aq_tag, am_rq_c, am_bh_wq, aq_get3, aq_get4, aq_put3, Int.reduceAdd, Int.reduceSub, Int.reduceMul, Int.reduceToNat, c15, s15_0, s15_2, s15_5, s15_6, s15_7, s15_8, s15_9, s15_11, s15_12, s15_15, s15_16, s15_17, s15_20, s15_23, s15_24, s15_25, s15_26, s15_28, s15_29, s15_30, s15_33, s15_34, s15_35, s15_38, s15_39, s15_42, s15_43, s15_44, s15_46, s15_47, s15_50, s15_52, s15_53, s15_55, s15_56, s15_59, s15_60, s15_61, s15_62, s15_65, s15_67, s15_68, s15_71, s15_73, s15_75, s15_76, s15_79, s15_81, s15_82, s15_85, s15_87, s15_89, s15_90, s15_92, s15_94, s15_96, s15_99, s15_102, s15_104, s15_106, s15_107, s15_110, s15_112, s15_113, s15_116, s15_118, s15_120, s15_121, s15_122, s15_124, s15_126, s15_129, s15_132, s15_134, s15_136, s15_138, s15_141, s15_143, s15_145, s15_147, s15_150, s15_152, s15_154, s15_156, s15_159, s15_161, s15_163, s15_166, s15_167, s15_170, s15_171, s15_173, s15_175, s15_177, s15_180, s15_181, s15_184, s15_185, s15_187, s15_189, s15_192, s15_193, s15_196, s15_197, s15_199, s15_200, s15_203, s15_205, s15_206, s15_208, s15_211, s15_213, s15_216, s15_218, s15_221, s15_223, s15_226, s15_228, s15_231, s15_233, s15_234, s15_235, s15_238, s15_239, s15_241, s15_242, s15_244, s15_245, s15_248, s15_250, s15_253, s15_255, s15_258, s15_260, s15_263, s15_265, s15_268, s15_270, s15_271, e22, e23, e77, ps, t0, t7, s22, s24, s77, s78, s80, hgo1, hgo2, i_ite, hB, q1, qa, q2, q3, qb, q4, q5, q6, p_at, e1, e2]
  · subst c3; subst c4
    by_cases c1 : bl = 2147483647
    · simp (disch := omega) only [am_bv_some, am_bi_int, am_bl_long, am_br_ref, am_bc_some, am_bq_some, am_gf_c, am_rd_c, am_bh_pf, am_bh_wr, am_g_p, ob_get, ob_put, ar_get, ar_put, ob_tag, ar_tag, i_zero, i_add, i_sub, i_mul, i_lt, i_le, i_eq, i_val, if_pos, if_neg, Option.toList_some, Option.toList_none, List.cons_append, List.nil_append, beq_self_eq_true, true_or, or_true, up_at, up_ne, ↓reduceIte, Nat.reduceEqDiff, le_t, le_f, lt_t, lt_f, eq_t, eq_f, nq_t, nq_f, nl_t, nl_f, and_true, true_and, and_false, false_and, not_true_eq_false, not_false_eq_true, or_false, false_or, az_tag, al_tag, az_get, az_put, am_bh_wz, gX, gT, gW, gS, gA, gL, gM, gE, gN, gX_11, gX_1, gX_2, gT_1, gW_0, gW_1, gW_2, gW_3, gW_12, gW_13, gA_1, gL_1, gE_3, gM_0, gM_1, gM_2, gM_3, gN_0, gN_2, gN_3, gN_4, gN_5, gN_10, gN_11, gN_17, gN_18, gN_23, gN_24, gN_29, gN_35, gN_36, gN_42, am_p_p, Int.toNat_natCast, aq_tag, am_rq_c, am_bh_wq, aq_get3, aq_get4, aq_put3, Int.reduceAdd, Int.reduceSub, Int.reduceMul, Int.reduceToNat, c15, s15_0, s15_2, s15_5, s15_6, s15_7, s15_8, s15_9, s15_11, s15_12, s15_15, s15_16, s15_17, s15_20, s15_23, s15_24, s15_25, s15_26, s15_28, s15_29, s15_30, s15_33, s15_34, s15_35, s15_38, s15_39, s15_42, s15_43, s15_44, s15_46, s15_47, s15_50, s15_52, s15_53, s15_55, s15_56, s15_59, s15_60, s15_61, s15_62, s15_65, s15_67, s15_68, s15_71, s15_73, s15_75, s15_76, s15_79, s15_81, s15_82, s15_85, s15_87, s15_89, s15_90, s15_92, s15_94, s15_96, s15_99, s15_102, s15_104, s15_106, s15_107, s15_110, s15_112, s15_113, s15_116, s15_118, s15_120, s15_121, s15_122, s15_124, s15_126, s15_129, s15_132, s15_134, s15_136, s15_138, s15_141, s15_143, s15_145, s15_147, s15_150, s15_152, s15_154, s15_156, s15_159, s15_161, s15_163, s15_166, s15_167, s15_170, s15_171, s15_173, s15_175, s15_177, s15_180, s15_181, s15_184, s15_185, s15_187, s15_189, s15_192, s15_193, s15_196, s15_197, s15_199, s15_200, s15_203, s15_205, s15_206, s15_208, s15_211, s15_213, s15_216, s15_218, s15_221, s15_223, s15_226, s15_228, s15_231, s15_233, s15_234, s15_235, s15_238, s15_239, s15_241, s15_242, s15_244, s15_245, s15_248, s15_250, s15_253, s15_255, s15_258, s15_260, s15_263, s15_265, s15_268, s15_270, s15_271, e22, e23, e77, ps, t0, t7, s22, s24, s77, s78, s80, hgo1, hgo2, i_ite, hB, q1, qa, q2, q3, qb, q4, q5, q6, p_at, e1, e2]
    · simp (disch := omega) only [am_bv_some, am_bi_int, am_bl_long, am_br_ref, am_bc_some, am_bq_some, am_gf_c, am_rd_c, am_bh_pf, am_bh_wr, am_g_p, ob_get, ob_put, ar_get, ar_put, ob_tag, ar_tag, i_zero, i_add, i_sub, i_mul, i_lt, i_le, i_eq, i_val, if_pos, if_neg, Option.toList_some, Option.toList_none, List.cons_append, List.nil_append, beq_self_eq_true, true_or, or_true, up_at, up_ne, ↓reduceIte, Nat.reduceEqDiff, le_t, le_f, lt_t, lt_f, eq_t, eq_f, nq_t, nq_f, nl_t, nl_f, and_true, true_and, and_false, false_and, not_true_eq_false, not_false_eq_true, or_false, false_or, az_tag, al_tag, az_get, az_put, am_bh_wz, gX, gT, gW, gS, gA, gL, gM, gE, gN, gX_11, gX_1, gX_2, gT_1, gW_0, gW_1, gW_2, gW_3, gW_12, gW_13, gA_1, gL_1, gE_3, gM_0, gM_1, gM_2, gM_3, gN_0, gN_2, gN_3, gN_4, gN_5, gN_10, gN_11, gN_17, gN_18, gN_23, gN_24, gN_29, gN_35, gN_36, gN_42, am_p_p, Int.toNat_natCast, aq_tag, am_rq_c, am_bh_wq, aq_get3, aq_get4, aq_put3, Int.reduceAdd, Int.reduceSub, Int.reduceMul, Int.reduceToNat, c15, s15_0, s15_2, s15_5, s15_6, s15_7, s15_8, s15_9, s15_11, s15_12, s15_15, s15_16, s15_17, s15_20, s15_23, s15_24, s15_25, s15_26, s15_28, s15_29, s15_30, s15_33, s15_34, s15_35, s15_38, s15_39, s15_42, s15_43, s15_44, s15_46, s15_47, s15_50, s15_52, s15_53, s15_55, s15_56, s15_59, s15_60, s15_61, s15_62, s15_65, s15_67, s15_68, s15_71, s15_73, s15_75, s15_76, s15_79, s15_81, s15_82, s15_85, s15_87, s15_89, s15_90, s15_92, s15_94, s15_96, s15_99, s15_102, s15_104, s15_106, s15_107, s15_110, s15_112, s15_113, s15_116, s15_118, s15_120, s15_121, s15_122, s15_124, s15_126, s15_129, s15_132, s15_134, s15_136, s15_138, s15_141, s15_143, s15_145, s15_147, s15_150, s15_152, s15_154, s15_156, s15_159, s15_161, s15_163, s15_166, s15_167, s15_170, s15_171, s15_173, s15_175, s15_177, s15_180, s15_181, s15_184, s15_185, s15_187, s15_189, s15_192, s15_193, s15_196, s15_197, s15_199, s15_200, s15_203, s15_205, s15_206, s15_208, s15_211, s15_213, s15_216, s15_218, s15_221, s15_223, s15_226, s15_228, s15_231, s15_233, s15_234, s15_235, s15_238, s15_239, s15_241, s15_242, s15_244, s15_245, s15_248, s15_250, s15_253, s15_255, s15_258, s15_260, s15_263, s15_265, s15_268, s15_270, s15_271, e22, e23, e77, ps, t0, t7, s22, s24, s77, s78, s80, hgo1, hgo2, i_ite, hB, q1, qa, q2, q3, qb, q4, q5, q6, p_at, e1, e2]

/-- the town with the minutes of two, by the lesser one's foot -/
def zs (S : Nat → Nat → Int) (l g f : Nat) : Nat → Nat → Int := if f = 1 then Sg S l g else Sg S g l
def eB (S : Nat → Nat → Int) (l g : Nat) : Int := if S 9 l < S 9 g then S 9 g else S 9 l
def eLv (S : Nat → Nat → Int) (l g f : Nat) : Int := pL (eB S l g) (dl (zs S l g f) (S 8 l).toNat (S 7 l).toNat) (dl (zs S l g f) (S 8 l).toNat (S 7 g).toNat) (alm (dl S (S 7 l).toNat (S 7 g).toNat) (S 6 g)) (alm (dl S (S 7 g).toNat (S 7 l).toNat) (S 6 l))
def eGv (S : Nat → Nat → Int) (l g f : Nat) : Int := pG (eB S l g) (dl (zs S l g f) (S 8 l).toNat (S 7 l).toNat) (dl (zs S l g f) (S 8 l).toNat (S 7 g).toNat) (alm (dl S (S 7 l).toNat (S 7 g).toNat) (S 6 g)) (alm (dl S (S 7 g).toNat (S 7 l).toNat) (S 6 l))
/-- what foresee needs of the world -/
def FSw (A : am_H) (S : Nat → Nat → Int) (t : Nat) (kd fe : Int) (ap : Nat → Int) : Prop := SPw A S t kd fe ∧ am_g A (t + 7) = ar 6 (S 7) ∧ am_g A (t + 8) = ar 36 ap ∧ APk S ap ∧ am_g A 23 = ar 6 (S 8) ∧ am_g A 24 = ar 6 (S 9)
theorem FSw.congr {A A' : am_H} {S : Nat → Nat → Int} {t : Nat} {kd fe : Int} {ap : Nat → Int} (h : FSw A S t kd fe ap) (g : ∀ i, i < 78 → am_g A' i = am_g A i) : FSw A' S t kd fe ap := by
  obtain ⟨⟨ht, b0, b1, b2, b3, b4, b6, b22, b25, b77⟩, b7, b8, hA, b23, b24⟩ := h
  exact ⟨⟨ht, by rw [g _ (by omega)]; exact b0, by rw [g _ (by omega)]; exact b1, by rw [g _ (by omega)]; exact b2, by rw [g _ (by omega)]; exact b3, by rw [g _ (by omega)]; exact b4, by rw [g _ (by omega)]; exact b6, by rw [g _ (by omega)]; exact b22, by rw [g _ (by omega)]; exact b25, by rw [g _ (by omega)]; exact b77⟩, by rw [g _ (by omega)]; exact b7, by rw [g _ (by omega)]; exact b8, hA, by rw [g _ (by omega)]; exact b23, by rw [g _ (by omega)]; exact b24⟩
theorem rg_1 {a x : Int} (h : a = 2147483647 ∨ 0 ≤ a ∧ a ≤ x) (hx : x ≤ 2147483647) : -2147483648 ≤ a ∧ a ≤ 2147483647 := by omega
theorem rg_2 {a x : Int} (h : a = 2147483647 ∨ 0 ≤ a ∧ a ≤ x) (hx : x ≤ 2147483647) : 0 ≤ a ∧ a ≤ 2147483647 := by omega
theorem foreTwo_hc {bl bg lf gt lt gf v1 v2 : Int} (h1 : 0 ≤ bl ∧ bl ≤ 2147483647) (h2 : 0 ≤ bg ∧ bg ≤ 2147483647) (e1 : v1 = if bl = 2147483647 ∧ bg = 2147483647 then 2147483647 else if bl ≤ bg then lf else lt) (e2 : v2 = if bl = 2147483647 ∧ bg = 2147483647 then 2147483647 else if bl ≤ bg then gt else gf) : (bl = 2147483647 ∧ bg = 2147483647 ∧ v1 = 2147483647 ∧ v2 = 2147483647) ∨ (bl ≠ 2147483647 ∧ bl ≤ bg ∧ v1 = lf ∧ v2 = gt) ∨ (bg < bl ∧ v1 = lt ∧ v2 = gf) := by
  by_cases c1 : bl = 2147483647 ∧ bg = 2147483647
  · rw [if_pos c1] at e1 e2
    exact Or.inl ⟨c1.1, c1.2, e1, e2⟩
  · rw [if_neg c1] at e1 e2
    by_cases c2 : bl ≤ bg
    · rw [if_pos c2] at e1 e2
      exact Or.inr (Or.inl ⟨by omega, c2, e1, e2⟩)
    · rw [if_neg c2] at e1 e2
      exact Or.inr (Or.inr ⟨by omega, e1, e2⟩)
theorem p_foreTwo_main (d t l g gl gg f : Nat) (A A1 : am_H) (n K P F kd fe : Int) (at_ go ck rc tg : Nat → Int) (B M1 M2 : Int) (ht : t = 4 ∨ t = 13) (hl : l < 6) (hg : g < 6) (hgl : gl < 6) (hgg : gg < 6) (hf : f ≤ 1)
    (e22 : am_g A 22 = ob 6 3 (gS 22)) (e23 : am_g A 23 = ar 6 at_) (e77 : am_g A 77 = ob 2 3 (gS 77))
    (ps : am_call (d + 2) 16 [.ref 77, .ref t, .ref 22, .int (Int32.ofInt ((if f = 1 then l else g : Nat) : Int)), .int (Int32.ofInt ((if f = 1 then g else l : Nat) : Int)), .int (Int32.ofInt (at_ l))] A = some (none, A1))
    (t0 : am_g A1 t = ob 8 14 (gW t n K P F kd fe)) (t7 : am_g A1 (t + 7) = ar 6 go) (s22 : am_g A1 22 = ob 6 3 (gS 22)) (s24 : am_g A1 24 = ar 6 ck) (s77 : am_g A1 77 = ob 2 3 (gS 77)) (s78 : am_g A1 78 = ar 6 rc) (s80 : am_g A1 80 = ar 72 tg)
    (hgo1 : go l = (gl : Int)) (hgo2 : go g = (gg : Int)) (r1 : 0 ≤ ck l ∧ ck l ≤ 1000000) (r2 : 0 ≤ ck g ∧ ck g ≤ 1000000) (hB : (if ck l < ck g then ck g else ck l) = B)
    (qa : ∀ d, am_call (d + 1) 64 [.ref t, .int (Int32.ofInt (g : Int)), .int (Int32.ofInt (gl : Int)), .int (Int32.ofInt (gg : Int))] A1 = some (some (.int (Int32.ofInt M1)), A1))
    (qb : ∀ d, am_call (d + 1) 64 [.ref t, .int (Int32.ofInt (l : Int)), .int (Int32.ofInt (gg : Int)), .int (Int32.ofInt (gl : Int))] A1 = some (some (.int (Int32.ofInt M2)), A1))
    (hBr : B = 2147483647 ∨ 0 ≤ B ∧ B ≤ 130000) (rr1 : rc gl = 2147483647 ∨ 0 ≤ rc gl ∧ rc gl ≤ 5760) (rr2 : rc gg = 2147483647 ∨ 0 ≤ rc gg ∧ rc gg ≤ 5760) (ra1 : M1 = 2147483647 ∨ 0 ≤ M1 ∧ M1 ≤ 15552) (ra2 : M2 = 2147483647 ∨ 0 ≤ M2 ∧ M2 ≤ 15552) :
    am_call (d + 3) 15 [.ref 77, .ref t, .ref 22, .int (Int32.ofInt (l : Int)), .int (Int32.ofInt (g : Int)), .int (Int32.ofInt (f : Int))] A = some (none, am_p A1 80 (ar 72 (up (up tg (36 * f + 6 * l + g) (pL B (rc gl) (rc gg) M1 M2)) (36 * (1 - f) + 6 * g + l) (pG B (rc gl) (rc gg) M1 M2)))) := by
  have z1 := pl_rng hBr rr1
  have z2 := pl_rng z1 ra1
  have z3 := pl_rng hBr rr2
  have z4 := pl_rng z3 ra2
  have z5 := pl_rng z1 z2
  have z6 := pl_rng z3 z4
  have q1 := fun d => p_plus d A1 B (rc gl) (rg_1 hBr (by decide)) (rg_1 rr1 (by decide))
  have q2 := fun d => p_plus d A1 (pl B (rc gl)) M1 (rg_1 z1 (by decide)) (rg_1 ra1 (by decide))
  have q3 := fun d => p_plus d A1 B (rc gg) (rg_1 hBr (by decide)) (rg_1 rr2 (by decide))
  have q4 := fun d => p_plus d A1 (pl B (rc gg)) M2 (rg_1 z3 (by decide)) (rg_1 ra2 (by decide))
  have q5 := fun d => p_plus d A1 (pl B (rc gl)) (pl (pl B (rc gl)) M1) (rg_1 z1 (by decide)) (rg_1 z2 (by decide))
  have q6 := fun d => p_plus d A1 (pl B (rc gg)) (pl (pl B (rc gg)) M2) (rg_1 z3 (by decide)) (rg_1 z4 (by decide))
  have b1 := rg_2 z5 (by decide)
  have b2 := rg_2 z6 (by decide)
  have hc := foreTwo_hc (v1 := pL B (rc gl) (rc gg) M1 M2) (v2 := pG B (rc gl) (rc gg) M1 M2) b1 b2 rfl rfl
  rcases (show f = 0 ∨ f = 1 by omega) with e | e
  · subst e
    exact p_foreTwo_run0 d t l g gl gg A A1 0 n K P F kd fe at_ go ck rc tg B _ _ _ _ _ _ M1 M2 _ _ ht hl hg hgl hgg rfl e22 e23 e77 ps t0 t7 s22 s24 s77 s78 s80 hgo1 hgo2 r1 r2 hB q1 qa q2 q3 qb q4 q5 q6 b1 b2 hc
  · subst e
    exact p_foreTwo_run1 d t l g gl gg A A1 1 n K P F kd fe at_ go ck rc tg B _ _ _ _ _ _ M1 M2 _ _ ht hl hg hgl hgg rfl e22 e23 e77 ps t0 t7 s22 s24 s77 s78 s80 hgo1 hgo2 r1 r2 hB q1 qa q2 q3 qb q4 q5 q6 b1 b2 hc
theorem p_foreseeTwo (d t l g f c : Nat) (A : am_H) (S : Nat → Nat → Int) (kd fe : Int) (ap f78 tg : Nat → Int) (hR : RR S c) (hW : FSw A S t kd fe ap) (h78 : am_g A 78 = ar 6 f78) (h80 : am_g A 80 = ar 72 tg) (hl : (l : Int) < S 1 3) (hg : (g : Int) < S 1 3) (hf : f ≤ 1) : ∃ A', am_call (d + 4) 15 [.ref 77, .ref t, .ref 22, .int (Int32.ofInt (l : Int)), .int (Int32.ofInt (g : Int)), .int (Int32.ofInt (f : Int))] A = some (none, A') ∧ (∀ i, i ≠ 78 → i ≠ 80 → am_g A' i = am_g A i) ∧ (∃ f, am_g A' 78 = ar 6 f) ∧ am_g A' 80 = ar 72 (up (up tg (36 * f + 6 * l + g) (eLv S l g f)) (36 * (1 - f) + 6 * g + l) (eGv S l g f)) := by
  have hR' := hR
  obtain ⟨hSP, b7, b8, hA, b23, b24⟩ := hW
  have hSP' := hSP
  obtain ⟨ht, b0, b1, b2, b3, b4, b6, b22, b25, b77⟩ := hSP
  obtain ⟨⟨g1, g2, g3, g4, g5, g6, g7, g8, g9, g10, g11, g12, g13⟩, ⟨w1, w2, w3, w4⟩, g14, g15, g16, g17, g18⟩ := id hR
  have pal := g12 l hl
  have pag := g12 g hg
  have wl := w1 l (by omega)
  have wl2 := w2 l hl
  have cl := w3 l (by omega)
  have cg := w3 g (by omega)
  obtain ⟨a, ha⟩ : ∃ a : Nat, S 8 l = (a : Int) := ⟨(S 8 l).toNat, by omega⟩
  obtain ⟨gl, hgl⟩ : ∃ gl : Nat, S 7 l = (gl : Int) := ⟨(S 7 l).toNat, by omega⟩
  obtain ⟨gg, hgg⟩ : ∃ gg : Nat, S 7 g = (gg : Int) := ⟨(S 7 g).toNat, by omega⟩
  have ea1 : ap (6 * gl + gg) = dl S gl gg := hA gl gg (by omega) (by omega) (by omega)
  have ea2 : ap (6 * gg + gl) = dl S gg gl := hA gg gl (by omega) (by omega) (by omega)
  have r91 := dl_rng9 hR' gl gg
  have r92 := dl_rng9 hR' gg gl
  have ra1 := alm_rng hR' hg gl gg
  have ra2 := alm_rng hR' hl gg gl
  have hBr : eB S l g = 2147483647 ∨ 0 ≤ eB S l g ∧ eB S l g ≤ 130000 := by unfold eB; right; split <;> omega
  have hL6 : l < 6 := by omega
  have hG6 : g < 6 := by omega
  have hgl6 : gl < 6 := by omega
  have hgg6 : gg < 6 := by omega
  have hc1 : 0 ≤ S 9 l ∧ S 9 l ≤ 1000000 := by omega
  have hc2 : 0 ≤ S 9 g ∧ S 9 g ≤ 1000000 := by omega
  have n1 : -2147483648 ≤ ap (6 * gl + gg) ∧ ap (6 * gl + gg) ≤ 2147483647 := by rw [ea1]; exact rg_1 r91 (by decide)
  have n2 : -2147483648 ≤ ap (6 * gg + gl) ∧ ap (6 * gg + gl) ≤ 2147483647 := by rw [ea2]; exact rg_1 r92 (by decide)
  have main : ∀ A1 : am_H, am_g A1 78 = ar 6 (dl (zs S l g f) a) → (∀ i, i ≠ 78 → am_g A1 i = am_g A i) → (dl (zs S l g f) a gl = 2147483647 ∨ 0 ≤ dl (zs S l g f) a gl ∧ dl (zs S l g f) a gl ≤ 5760) → (dl (zs S l g f) a gg = 2147483647 ∨ 0 ≤ dl (zs S l g f) a gg ∧ dl (zs S l g f) a gg ≤ 5760) →
      am_call (d + 3) 16 [.ref 77, .ref t, .ref 22, .int (Int32.ofInt ((if f = 1 then l else g : Nat) : Int)), .int (Int32.ofInt ((if f = 1 then g else l : Nat) : Int)), .int (Int32.ofInt (S 8 l))] A = some (none, A1) →
      ∃ A', am_call (d + 4) 15 [.ref 77, .ref t, .ref 22, .int (Int32.ofInt (l : Int)), .int (Int32.ofInt (g : Int)), .int (Int32.ofInt (f : Int))] A = some (none, A') ∧ (∀ i, i ≠ 78 → i ≠ 80 → am_g A' i = am_g A i) ∧ (∃ f, am_g A' 78 = ar 6 f) ∧ am_g A' 80 = ar 72 (up (up tg (36 * f + 6 * l + g) (eLv S l g f)) (36 * (1 - f) + 6 * g + l) (eGv S l g f)) := by
    intro A1 k78 kf rr1 rr2 ps
    have k0 : ∀ x, x < 22 → am_g A1 x = am_g A x := fun x hx => kf x (by omega)
    have ht9 : t + 8 < 22 := by omega
    have t0 : am_g A1 t = ob 8 14 (gW t (S 1 1) (S 1 2) (S 1 3) (S 1 4) kd fe) := (k0 _ (by omega)).trans b0
    have t6 : am_g A1 (t + 6) = ar 6 (S 6) := (k0 _ (by omega)).trans b6
    have t7 : am_g A1 (t + 7) = ar 6 (S 7) := (k0 _ (by omega)).trans b7
    have t8 : am_g A1 (t + 8) = ar 36 ap := (k0 _ (by omega)).trans b8
    have qa := fun d => p_aloneMinutes d A1 t g gl gg _ _ _ _ _ _ (S 6) ap t0 t6 t8 hG6 hgl6 hgg6 n1
    have qb := fun d => p_aloneMinutes d A1 t l gg gl _ _ _ _ _ _ (S 6) ap t0 t6 t8 hL6 hgg6 hgl6 n2
    rw [ea1] at qa
    rw [ea2] at qb
    have eLd : eLv S l g f = pL (eB S l g) (dl (zs S l g f) a gl) (dl (zs S l g f) a gg) (alm (dl S gl gg) (S 6 g)) (alm (dl S gg gl) (S 6 l)) := by
      unfold eLv; rw [ha, hgl, hgg]; rfl
    have eGd : eGv S l g f = pG (eB S l g) (dl (zs S l g f) a gl) (dl (zs S l g f) a gg) (alm (dl S gl gg) (S 6 g)) (alm (dl S gg gl) (S 6 l)) := by
      unfold eGv; rw [ha, hgl, hgg]; rfl
    have fin := p_foreTwo_main (d + 1) t l g gl gg f A A1 _ _ _ _ _ _ (S 8) (S 7) (S 9) (dl (zs S l g f) a) tg (eB S l g) _ _ ht hL6 hG6 hgl6 hgg6 hf b22 b23 b77 ps t0 t7 ((kf _ (by decide)).trans b22) ((kf _ (by decide)).trans b24) ((kf _ (by decide)).trans b77) k78 ((kf _ (by decide)).trans h80) hgl hgg hc1 hc2 rfl qa qb hBr rr1 rr2 ra1 ra2
    rw [eLd, eGd]
    exact ⟨_, fin, fun i u1 u2 => by rw [am_g_p, if_neg u2]; exact kf i u1, ⟨_, by rw [am_g_p, if_neg (by decide)]; exact k78⟩, by rw [am_g_p, if_pos rfl]⟩
  rcases (show f = 0 ∨ f = 1 by omega) with e | e
  · subst e
    obtain ⟨A1, e1, e2, e3⟩ := p_spread (d + 1) t g l c A S kd fe a f78 hR' hSP' h78 hg hl (by omega)
    rw [← ha] at e1
    exact main A1 e2 e3 (Sg_rng hR' hg hl a gl) (Sg_rng hR' hg hl a gg) e1
  · subst e
    obtain ⟨A1, e1, e2, e3⟩ := p_spread (d + 1) t l g c A S kd fe a f78 hR' hSP' h78 hl hg (by omega)
    rw [← ha] at e1
    exact main A1 e2 e3 (Sg_rng hR' hl hg a gl) (Sg_rng hR' hl hg a gg) e1
