theorem p_rf_byte (d u q L : Nat) (A A' : am_H) (f : Nat → Int) (v : Int) (hu : u = 4 ∨ u = 13) (h2 : am_g A 2 = ob 7 2 (gT (L : Int))) (h3 : am_g A 3 = ar 80 f) (hw : ∃ a b c e g h, am_g A u = ob 8 14 (gW u a b c e g h)) (hq : q < L) (hL : L ≤ 80) (h : am_call (d + 4) 48 [.ref u, .int (Int32.ofInt (q : Int)), .int (Int32.ofInt (f q))] A = some (some (.int (Int32.ofInt v)), A')) : (v = 0 → am_run (d + 5) 47 22 [.ref u, .ref 2, .int (Int32.ofInt (q : Int))] [] A = some (some (.int (Int32.ofInt (q : Int))), A')) ∧ (v = 1 → am_run (d + 5) 47 22 [.ref u, .ref 2, .int (Int32.ofInt (q : Int))] [] A = am_run (d + 5) 47 22 [.ref u, .ref 2, .int (Int32.ofInt ((q : Int) + 1))] [] A') := by
  obtain ⟨a, b, c, e, g, h', hw⟩ := hw
  constructor
  · intro hv
    subst hv
    rw [s47_22]
    simp (disch := omega) only [am_bv_some, am_bi_int, am_bl_long, am_br_ref, am_bc_some, am_bq_some, am_gf_c, am_rd_c, am_bh_pf, am_bh_wr, am_g_p, ob_get, ob_put, ar_get, ar_put, ob_tag, ar_tag, i_zero, i_add, i_sub, i_mul, i_lt, i_le, i_eq, i_val, if_pos, if_neg, Option.toList_some, Option.toList_none, List.cons_append, List.nil_append, beq_self_eq_true, true_or, or_true, up_at, up_ne, ↓reduceIte, Nat.reduceEqDiff, le_t, le_f, lt_t, lt_f, eq_t, eq_f, nq_t, nq_f, nl_t, nl_f, and_true, true_and, and_false, false_and, not_true_eq_false, not_false_eq_true, or_false, false_or, az_tag, al_tag, az_get, az_put, am_bh_wz, gX, gT, gW, gS, gA, gL, gM, gE, gN, gX_11, gX_1, gX_2, gT_1, gW_0, gW_1, gW_2, gW_3, gW_12, gW_13, gA_1, gL_1, gE_3, gM_0, gM_1, gM_2, gM_3, gN_0, gN_2, gN_3, gN_4, gN_5, gN_10, gN_11, gN_17, gN_18, gN_23, gN_24, gN_29, gN_35, gN_36, gN_42, am_p_p, Int.toNat_natCast, aq_tag, am_rq_c, am_bh_wq, aq_get3, aq_get4, aq_put3, Int.reduceAdd, Int.reduceSub, Int.reduceMul, Int.reduceToNat, s47_0, s47_1, s47_2, s47_5, s47_6, s47_7, s47_10, s47_11, s47_12, s47_15, s47_16, s47_17, s47_20, s47_21, s47_23, s47_24, s47_27, s47_30, s47_31, s47_33, s47_36, s47_37, s47_38, s47_39, s47_42, s47_43, s47_44, s47_47, s47_50, s47_51, s47_52, s47_55, s47_58, s47_59, s47_62, s47_63, s47_66, s47_67, s47_70, s47_71, s47_72, s47_73, s47_74, s47_77, s47_78, s47_81, s47_82, s47_83, s47_84, s47_87, s47_89, s47_92, s47_93, s47_96, h2, h3, hw, h]
  · intro hv
    subst hv
    rw [s47_22]
    simp (disch := omega) only [am_bv_some, am_bi_int, am_bl_long, am_br_ref, am_bc_some, am_bq_some, am_gf_c, am_rd_c, am_bh_pf, am_bh_wr, am_g_p, ob_get, ob_put, ar_get, ar_put, ob_tag, ar_tag, i_zero, i_add, i_sub, i_mul, i_lt, i_le, i_eq, i_val, if_pos, if_neg, Option.toList_some, Option.toList_none, List.cons_append, List.nil_append, beq_self_eq_true, true_or, or_true, up_at, up_ne, ↓reduceIte, Nat.reduceEqDiff, le_t, le_f, lt_t, lt_f, eq_t, eq_f, nq_t, nq_f, nl_t, nl_f, and_true, true_and, and_false, false_and, not_true_eq_false, not_false_eq_true, or_false, false_or, az_tag, al_tag, az_get, az_put, am_bh_wz, gX, gT, gW, gS, gA, gL, gM, gE, gN, gX_11, gX_1, gX_2, gT_1, gW_0, gW_1, gW_2, gW_3, gW_12, gW_13, gA_1, gL_1, gE_3, gM_0, gM_1, gM_2, gM_3, gN_0, gN_2, gN_3, gN_4, gN_5, gN_10, gN_11, gN_17, gN_18, gN_23, gN_24, gN_29, gN_35, gN_36, gN_42, am_p_p, Int.toNat_natCast, aq_tag, am_rq_c, am_bh_wq, aq_get3, aq_get4, aq_put3, Int.reduceAdd, Int.reduceSub, Int.reduceMul, Int.reduceToNat, s47_0, s47_1, s47_2, s47_5, s47_6, s47_7, s47_10, s47_11, s47_12, s47_15, s47_16, s47_17, s47_20, s47_21, s47_23, s47_24, s47_27, s47_30, s47_31, s47_33, s47_36, s47_37, s47_38, s47_39, s47_42, s47_43, s47_44, s47_47, s47_50, s47_51, s47_52, s47_55, s47_58, s47_59, s47_62, s47_63, s47_66, s47_67, s47_70, s47_71, s47_72, s47_73, s47_74, s47_77, s47_78, s47_81, s47_82, s47_83, s47_84, s47_87, s47_89, s47_92, s47_93, s47_96, h2, h3, hw, h]
theorem p_rf_end (d u L : Nat) (A : am_H) (h2 : am_g A 2 = ob 7 2 (gT (L : Int))) (hL : L ≤ 80) : am_run d 47 22 [.ref u, .ref 2, .int (Int32.ofInt (L : Int))] [] A = some (some (.int (Int32.ofInt (if 2 ≤ L ∧ L % 5 = 2 then -9 else (L : Int)))), A) := by
  have n5 := i_n5
  by_cases q1 : 2 ≤ L
  · by_cases q2 : L % 5 = 2
    · rw [if_pos ⟨q1, q2⟩]
      have e : ((L : Int) - 2) % 5 = 0 := by omega
      simp (disch := first | omega | assumption) only [am_bv_some, am_bi_int, am_bl_long, am_br_ref, am_bc_some, am_bq_some, am_gf_c, am_rd_c, am_bh_pf, am_bh_wr, am_g_p, ob_get, ob_put, ar_get, ar_put, ob_tag, ar_tag, i_zero, i_add, i_sub, i_mul, i_lt, i_le, i_eq, i_val, if_pos, if_neg, Option.toList_some, Option.toList_none, List.cons_append, List.nil_append, beq_self_eq_true, true_or, or_true, up_at, up_ne, ↓reduceIte, Nat.reduceEqDiff, le_t, le_f, lt_t, lt_f, eq_t, eq_f, nq_t, nq_f, nl_t, nl_f, and_true, true_and, and_false, false_and, not_true_eq_false, not_false_eq_true, or_false, false_or, az_tag, al_tag, az_get, az_put, am_bh_wz, gX, gT, gW, gS, gA, gL, gM, gE, gN, gX_11, gX_1, gX_2, gT_1, gW_0, gW_1, gW_2, gW_3, gW_12, gW_13, gA_1, gL_1, gE_3, gM_0, gM_1, gM_2, gM_3, gN_0, gN_2, gN_3, gN_4, gN_5, gN_10, gN_11, gN_17, gN_18, gN_23, gN_24, gN_29, gN_35, gN_36, gN_42, am_p_p, Int.toNat_natCast, aq_tag, am_rq_c, am_bh_wq, aq_get3, aq_get4, aq_put3, Int.reduceAdd, Int.reduceSub, Int.reduceMul, Int.reduceToNat, s47_0, s47_1, s47_2, s47_5, s47_6, s47_7, s47_10, s47_11, s47_12, s47_15, s47_16, s47_17, s47_20, s47_21, s47_22, s47_23, s47_24, s47_27, s47_30, s47_31, s47_33, s47_36, s47_37, s47_38, s47_39, s47_42, s47_43, s47_44, s47_47, s47_50, s47_51, s47_52, s47_55, s47_58, s47_59, s47_62, s47_63, s47_66, s47_67, s47_70, s47_71, s47_72, s47_73, s47_74, s47_77, s47_78, s47_81, s47_82, s47_83, s47_84, s47_87, s47_89, s47_92, s47_93, s47_96, h2, i_rem, e]
    · rw [if_neg (fun e => q2 e.2)]
      obtain ⟨z, e, hz⟩ : ∃ z : Int, ((L : Int) - 2) % 5 = z ∧ 0 < z ∧ z < 5 := ⟨_, rfl, by omega⟩
      simp (disch := first | omega | assumption) only [am_bv_some, am_bi_int, am_bl_long, am_br_ref, am_bc_some, am_bq_some, am_gf_c, am_rd_c, am_bh_pf, am_bh_wr, am_g_p, ob_get, ob_put, ar_get, ar_put, ob_tag, ar_tag, i_zero, i_add, i_sub, i_mul, i_lt, i_le, i_eq, i_val, if_pos, if_neg, Option.toList_some, Option.toList_none, List.cons_append, List.nil_append, beq_self_eq_true, true_or, or_true, up_at, up_ne, ↓reduceIte, Nat.reduceEqDiff, le_t, le_f, lt_t, lt_f, eq_t, eq_f, nq_t, nq_f, nl_t, nl_f, and_true, true_and, and_false, false_and, not_true_eq_false, not_false_eq_true, or_false, false_or, az_tag, al_tag, az_get, az_put, am_bh_wz, gX, gT, gW, gS, gA, gL, gM, gE, gN, gX_11, gX_1, gX_2, gT_1, gW_0, gW_1, gW_2, gW_3, gW_12, gW_13, gA_1, gL_1, gE_3, gM_0, gM_1, gM_2, gM_3, gN_0, gN_2, gN_3, gN_4, gN_5, gN_10, gN_11, gN_17, gN_18, gN_23, gN_24, gN_29, gN_35, gN_36, gN_42, am_p_p, Int.toNat_natCast, aq_tag, am_rq_c, am_bh_wq, aq_get3, aq_get4, aq_put3, Int.reduceAdd, Int.reduceSub, Int.reduceMul, Int.reduceToNat, s47_0, s47_1, s47_2, s47_5, s47_6, s47_7, s47_10, s47_11, s47_12, s47_15, s47_16, s47_17, s47_20, s47_21, s47_22, s47_23, s47_24, s47_27, s47_30, s47_31, s47_33, s47_36, s47_37, s47_38, s47_39, s47_42, s47_43, s47_44, s47_47, s47_50, s47_51, s47_52, s47_55, s47_58, s47_59, s47_62, s47_63, s47_66, s47_67, s47_70, s47_71, s47_72, s47_73, s47_74, s47_77, s47_78, s47_81, s47_82, s47_83, s47_84, s47_87, s47_89, s47_92, s47_93, s47_96, h2, i_rem, e]
  · rw [if_neg (fun e => q1 e.1)]
    simp (disch := omega) only [am_bv_some, am_bi_int, am_bl_long, am_br_ref, am_bc_some, am_bq_some, am_gf_c, am_rd_c, am_bh_pf, am_bh_wr, am_g_p, ob_get, ob_put, ar_get, ar_put, ob_tag, ar_tag, i_zero, i_add, i_sub, i_mul, i_lt, i_le, i_eq, i_val, if_pos, if_neg, Option.toList_some, Option.toList_none, List.cons_append, List.nil_append, beq_self_eq_true, true_or, or_true, up_at, up_ne, ↓reduceIte, Nat.reduceEqDiff, le_t, le_f, lt_t, lt_f, eq_t, eq_f, nq_t, nq_f, nl_t, nl_f, and_true, true_and, and_false, false_and, not_true_eq_false, not_false_eq_true, or_false, false_or, az_tag, al_tag, az_get, az_put, am_bh_wz, gX, gT, gW, gS, gA, gL, gM, gE, gN, gX_11, gX_1, gX_2, gT_1, gW_0, gW_1, gW_2, gW_3, gW_12, gW_13, gA_1, gL_1, gE_3, gM_0, gM_1, gM_2, gM_3, gN_0, gN_2, gN_3, gN_4, gN_5, gN_10, gN_11, gN_17, gN_18, gN_23, gN_24, gN_29, gN_35, gN_36, gN_42, am_p_p, Int.toNat_natCast, aq_tag, am_rq_c, am_bh_wq, aq_get3, aq_get4, aq_put3, Int.reduceAdd, Int.reduceSub, Int.reduceMul, Int.reduceToNat, s47_0, s47_1, s47_2, s47_5, s47_6, s47_7, s47_10, s47_11, s47_12, s47_15, s47_16, s47_17, s47_20, s47_21, s47_22, s47_23, s47_24, s47_27, s47_30, s47_31, s47_33, s47_36, s47_37, s47_38, s47_39, s47_42, s47_43, s47_44, s47_47, s47_50, s47_51, s47_52, s47_55, s47_58, s47_59, s47_62, s47_63, s47_66, s47_67, s47_70, s47_71, s47_72, s47_73, s47_74, s47_77, s47_78, s47_81, s47_82, s47_83, s47_84, s47_87, s47_89, s47_92, s47_93, s47_96, h2]
/-- how a part ends, behind its first byte -/
def PO (d u L p : Nat) (f : Nat → Int) (T : Nat → Nat → Int) (A : am_H) (q : Nat) : Prop := (∃ (i : Nat) (A' : am_H), q ≤ i ∧ i < 5 ∧ (∀ j, q ≤ j → j < i → p + j < L ∧ gd T f p j) ∧ ¬ (p + i < L ∧ gd T f p i) ∧ am_run (d + 5) 47 22 [.ref u, .ref 2, .int (Int32.ofInt ((p + q : Nat) : Int))] [] A = some (some (.int (Int32.ofInt ((p + i : Nat) : Int))), A') ∧ CF A A' u ∧ ∃ T' kd fe, CR A' u T' kd fe) ∨ (∃ (A' : am_H) (kd fe : Int), (∀ j, q ≤ j → j < 5 → p + j < L ∧ gd T f p j) ∧ am_run (d + 5) 47 22 [.ref u, .ref 2, .int (Int32.ofInt ((p + q : Nat) : Int))] [] A = am_run (d + 5) 47 22 [.ref u, .ref 2, .int (Int32.ofInt ((p + 5 : Nat) : Int))] [] A' ∧ CF A A' u ∧ CR A' u (ptT T f p) kd fe)
/-- one byte of it -/
theorem PO_step (d u L p q : Nat) (f : Nat → Int) (T : Nat → Nat → Int) (A : am_H) (T1 : Nat → Nat → Int) (kd fe : Int) (hC : CR A u T1 kd fe) (h2 : am_g A 2 = ob 7 2 (gT (L : Int))) (h3 : am_g A 3 = ar 80 f) (hL : L ≤ 80) (hp : p % 5 = 2) (hq : 1 ≤ q ∧ q < 5) (hpq : p + q ≤ L) (hb : p + q < L → ∃ (v : Int) (A' : am_H) (T2 : Nat → Nat → Int) (kd' fe' : Int), am_call (d + 4) 48 [.ref u, .int (Int32.ofInt ((p + q : Nat) : Int)), .int (Int32.ofInt (f (p + q)))] A = some (some (.int (Int32.ofInt v)), A') ∧ CR A' u T2 kd' fe' ∧ CF A A' u ∧ ((v = 0 ∧ ¬ gd T f p q) ∨ (v = 1 ∧ gd T f p q ∧ ((q = 4 ∧ CR A' u (ptT T f p) kd' fe') ∨ PO d u L p f T A' (q + 1))))) : PO d u L p f T A q := by
  have hu := hC.1
  by_cases c : p + q < L
  · obtain ⟨v, A', T2, kd', fe', b1, b2, b3, b4⟩ := hb c
    obtain ⟨s0, s1⟩ := p_rf_byte d u (p + q) L A A' f v hu h2 h3 ⟨_, _, _, _, _, _, hC.2.1⟩ c hL b1
    rcases b4 with ⟨b4, b5⟩ | ⟨b4, b5, b6⟩
    · exact Or.inl ⟨q, A', Nat.le_refl _, by omega, fun j h1 h2 => by omega, fun e => b5 e.2, s0 b4, b3, _, _, _, b2⟩
    · have s1' := s1 b4
      rw [show ((p + q : Nat) : Int) + 1 = ((p + (q + 1) : Nat) : Int) by omega] at s1'
      rcases b6 with ⟨b6, b7⟩ | b6 | b6
      · subst b6
        refine Or.inr ⟨A', kd', fe', fun j h1 h2 => ?_, s1', b3, b7⟩
        have : j = 4 := by omega
        subst this
        exact ⟨c, b5⟩
      · obtain ⟨i, A2, i1, i2, i3, i4, i5, i6, i7⟩ := b6
        refine Or.inl ⟨i, A2, by omega, i2, fun j h1 h2 => ?_, i4, s1'.trans i5, b3.tr i6, i7⟩
        by_cases e : j = q
        · subst e; exact ⟨c, b5⟩
        · exact i3 j (by omega) h2
      · obtain ⟨A2, kd2, fe2, i1, i2, i3, i4⟩ := b6
        refine Or.inr ⟨A2, kd2, fe2, fun j h1 h2 => ?_, s1'.trans i2, b3.tr i3, i4⟩
        by_cases e : j = q
        · subst e; exact ⟨c, b5⟩
        · exact i1 j (by omega) h2
  · have e : p + q = L := by omega
    refine Or.inl ⟨q, A, Nat.le_refl _, hq.2, fun j h1 h2 => by omega, fun e => c e.1, ?_, fun _ _ => rfl, _, _, _, hC⟩
    have := p_rf_end (d + 5) u L A h2 hL
    rw [if_neg (by omega)] at this
    rw [e]
    exact this
theorem CF.text {A A' : am_H} {u : Nat} (h : CF A A' u) (hu : u = 4 ∨ u = 13) : am_g A' 2 = am_g A 2 ∧ am_g A' 3 = am_g A 3 := ⟨h 2 (by omega), h 3 (by omega)⟩
theorem p_canalPart (d u L p : Nat) (f : Nat → Int) (T : Nat → Nat → Int) (A : am_H) (fe : Int) (hC : CR A u T 67 fe) (hD : DT T) (h2 : am_g A 2 = ob 7 2 (gT (L : Int))) (h3 : am_g A 3 = ar 80 f) (hL : L ≤ 80) (hp : p % 5 = 2) (hpL : p < L) (hf : ∀ j, 0 ≤ f j ∧ f j ≤ 255) (h67 : f p = 67) (hK8 : T 1 2 < 8) : PO d u L p f T A 1 := by
  have hu := hC.1
  have hK := hD.2.1
  have hn := hD.1
  obtain ⟨k, hk⟩ : ∃ k : Nat, T 1 2 = (k : Int) := ⟨(T 1 2).toNat, by omega⟩
  have ept : ptT T f p = addC T k (f (p + 1) - 48) (f (p + 2) - 48) (f (p + 3) - 48) (bnd (f (p + 4))) := by
    unfold ptT
    rw [if_pos h67, hk, Int.toNat_natCast]
  refine PO_step d u L p 1 f T A T 67 fe hC h2 h3 hL hp (by omega) (by omega) (fun c1 => ?_)
  have f1 := hf (p + 1)
  obtain ⟨v1, A1, a1, a2, a3, a4⟩ := p_takesC1 d u A T fe (f (p + 1)) hC hD hK8 f1
  have hv1 : v1 = 0 ∨ v1 = 1 := a4.elim (fun e => Or.inr e.1) (fun e => Or.inl e.1)
  refine ⟨v1, A1, T, 67, _, p_takesK d u p 1 A A1 T fe _ v1 hC hp (by omega) (by omega) hv1 a1, a2, a3, ?_⟩
  rcases a4 with ⟨a4, a5⟩ | ⟨a4, a5⟩
  · refine Or.inr ⟨a4, Or.inl ⟨h67, a5⟩, Or.inr ?_⟩
    obtain ⟨t2, t3⟩ := a3.text hu
    refine PO_step d u L p 2 f T A1 T 67 _ a2 (t2.trans h2) (t3.trans h3) hL hp (by omega) (by omega) (fun c2 => ?_)
    have f2 := hf (p + 2)
    obtain ⟨v2, A2, b1, b2, b3, b4⟩ := p_takesC2 d u k A1 T (f (p + 1) - 48) (f (p + 2)) a2 hD hk (by omega) f2 (by omega)
    have hv2 : v2 = 0 ∨ v2 = 1 := b4.elim (fun e => Or.inr e.1) (fun e => Or.inl e.1)
    refine ⟨v2, A2, _, 67, _, p_takesK d u p 2 A1 A2 T _ _ v2 a2 hp (by omega) (by omega) hv2 b1, b2, b3, ?_⟩
    rcases b4 with ⟨b4, b5⟩ | ⟨b4, b5⟩
    · refine Or.inr ⟨b4, ⟨b5.1, fun _ => b5.2⟩, Or.inr ?_⟩
      obtain ⟨t4, t5⟩ := b3.text hu
      refine PO_step d u L p 3 f T A2 _ 67 _ b2 ((t4.trans t2).trans h2) ((t5.trans t3).trans h3) hL hp (by omega) (by omega) (fun c3 => ?_)
      have f3 := hf (p + 3)
      obtain ⟨v3, A3, d1, d2, d3, d4⟩ := p_takesC3 d u k A2 _ _ (f (p + 3)) b2 hk (by omega) f3
      have hv3 : v3 = 0 ∨ v3 = 1 := d4.elim (fun e => Or.inr e.1) (fun e => Or.inl e.1)
      refine ⟨v3, A3, _, 67, _, p_takesK d u p 3 A2 A3 _ _ _ v3 b2 hp (by omega) (by omega) hv3 d1, d2, d3, ?_⟩
      rcases d4 with ⟨d4, d5⟩ | ⟨d4, d5⟩
      · refine Or.inr ⟨d4, d5, Or.inr ?_⟩
        obtain ⟨t6, t7⟩ := d3.text hu
        refine PO_step d u L p 4 f T A3 _ 67 _ d2 (((t6.trans t4).trans t2).trans h2) (((t7.trans t5).trans t3).trans h3) hL hp (by omega) (by omega) (fun c4 => ?_)
        have f4 := hf (p + 4)
        obtain ⟨v4, A4, e1, e2, e3, e4⟩ := p_takesC4 d u k A3 _ _ (f (p + 4)) d2 hk (by omega) f4
        have hv4 : v4 = 0 ∨ v4 = 1 := e4.elim (fun e => Or.inr e.1) (fun e => Or.inl e.1)
        refine ⟨v4, A4, _, 67, _, p_takesK d u p 4 A3 A4 _ _ _ v4 d2 hp (by omega) (by omega) hv4 e1, e2, e3, ?_⟩
        rcases e4 with ⟨e4, e5⟩ | ⟨e4, e5⟩
        · refine Or.inr ⟨e4, Or.inl ⟨h67, e5⟩, Or.inl ⟨rfl, ?_⟩⟩
          rw [ept]
          exact e2
        · exact Or.inl ⟨e4, fun e => e.elim (fun e => e5 e.2) (fun e => by omega)⟩
      · exact Or.inl ⟨d4, d5⟩
    · exact Or.inl ⟨b4, fun e => b5 ⟨e.1, e.2 h67⟩⟩
  · exact Or.inl ⟨a4, fun e => e.elim (fun e => a5 e.2) (fun e => by omega)⟩
theorem p_personPart (d u L p : Nat) (f : Nat → Int) (T : Nat → Nat → Int) (A : am_H) (fe : Int) (hC : CR A u T 80 fe) (hD : DT T) (h2 : am_g A 2 = ob 7 2 (gT (L : Int))) (h3 : am_g A 3 = ar 80 f) (hL : L ≤ 80) (hp : p % 5 = 2) (hpL : p < L) (hf : ∀ j, 0 ≤ f j ∧ f j ≤ 255) (h80 : f p = 80) (hK8 : T 1 3 < 6) : PO d u L p f T A 1 := by
  have hu := hC.1
  have hK := hD.2.2.1
  have hn := hD.1
  obtain ⟨k, hk⟩ : ∃ k : Nat, T 1 3 = (k : Int) := ⟨(T 1 3).toNat, by omega⟩
  have hF := hD.2.2.2.1
  rw [hk, Int.toNat_natCast] at hF
  have ept : ptT T f p = addP T k (if f (p + 1) = 108 then 1 else 0) (f (p + 2) - 48) (f (p + 3) - 48) (f (p + 4) - 48) := by
    unfold ptT
    rw [if_neg (by omega), hk, Int.toNat_natCast]
  refine PO_step d u L p 1 f T A T 80 fe hC h2 h3 hL hp (by omega) (by omega) (fun c1 => ?_)
  have f1 := hf (p + 1)
  obtain ⟨v1, A1, a1, a2, a3, a4⟩ := p_takesP1 d u k A T fe (f (p + 1)) hC hk (by omega) hF f1
  have hv1 : v1 = 0 ∨ v1 = 1 := a4.elim (fun e => Or.inr e.1) (fun e => Or.inl e.1)
  refine ⟨v1, A1, _, 80, _, p_takesQ d u p 1 A A1 T fe _ v1 hC hp (by omega) (by omega) hv1 a1, a2, a3, ?_⟩
  rcases a4 with ⟨a4, a5⟩ | ⟨a4, a5⟩
  · refine Or.inr ⟨a4, Or.inr ⟨h80, a5⟩, Or.inr ?_⟩
    obtain ⟨t2, t3⟩ := a3.text hu
    refine PO_step d u L p 2 f T A1 _ 80 _ a2 (t2.trans h2) (t3.trans h3) hL hp (by omega) (by omega) (fun c2 => ?_)
    have f2 := hf (p + 2)
    obtain ⟨v2, A2, b1, b2, b3, b4⟩ := p_takesP2 d u k A1 _ _ (f (p + 2)) a2 hn hk (by omega) f2
    have hv2 : v2 = 0 ∨ v2 = 1 := b4.elim (fun e => Or.inr e.1) (fun e => Or.inl e.1)
    refine ⟨v2, A2, _, 80, _, p_takesQ d u p 2 A1 A2 _ _ _ v2 a2 hp (by omega) (by omega) hv2 b1, b2, b3, ?_⟩
    rcases b4 with ⟨b4, b5⟩ | ⟨b4, b5⟩
    · refine Or.inr ⟨b4, ⟨b5, fun e => by omega⟩, Or.inr ?_⟩
      obtain ⟨t4, t5⟩ := b3.text hu
      refine PO_step d u L p 3 f T A2 _ 80 _ b2 ((t4.trans t2).trans h2) ((t5.trans t3).trans h3) hL hp (by omega) (by omega) (fun c3 => ?_)
      have f3 := hf (p + 3)
      obtain ⟨v3, A3, d1, d2, d3, d4⟩ := p_takesP3 d u k A2 _ _ (f (p + 3)) b2 hk (by omega) f3
      have hv3 : v3 = 0 ∨ v3 = 1 := d4.elim (fun e => Or.inr e.1) (fun e => Or.inl e.1)
      refine ⟨v3, A3, _, 80, _, p_takesQ d u p 3 A2 A3 _ _ _ v3 b2 hp (by omega) (by omega) hv3 d1, d2, d3, ?_⟩
      rcases d4 with ⟨d4, d5⟩ | ⟨d4, d5⟩
      · refine Or.inr ⟨d4, d5, Or.inr ?_⟩
        obtain ⟨t6, t7⟩ := d3.text hu
        refine PO_step d u L p 4 f T A3 _ 80 _ d2 (((t6.trans t4).trans t2).trans h2) (((t7.trans t5).trans t3).trans h3) hL hp (by omega) (by omega) (fun c4 => ?_)
        have f4 := hf (p + 4)
        obtain ⟨v4, A4, e1, e2, e3, e4⟩ := p_takesP4 d u k A3 _ _ (f (p + 4)) d2 hn hk (by omega) f4
        have hv4 : v4 = 0 ∨ v4 = 1 := e4.elim (fun e => Or.inr e.1) (fun e => Or.inl e.1)
        refine ⟨v4, A4, _, 80, _, p_takesQ d u p 4 A3 A4 _ _ _ v4 d2 hp (by omega) (by omega) hv4 e1, e2, e3, ?_⟩
        rcases e4 with ⟨e4, e5⟩ | ⟨e4, e5⟩
        · refine Or.inr ⟨e4, Or.inr ⟨h80, e5⟩, Or.inl ⟨rfl, ?_⟩⟩
          rw [ept]
          exact e2
        · exact Or.inl ⟨e4, fun e => e.elim (fun e => by omega) (fun e => e5 e.2)⟩
      · exact Or.inl ⟨d4, d5⟩
    · exact Or.inl ⟨b4, fun e => b5 e.1⟩
  · exact Or.inl ⟨a4, fun e => e.elim (fun e => by omega) (fun e => a5 e.2)⟩
theorem p_rf_loop (d u L : Nat) (f : Nat → Int) (B : am_H) (h2 : am_g B 2 = ob 7 2 (gT (L : Int))) (h3 : am_g B 3 = ar 80 f) (hL : L ≤ 80) (hf : ∀ j, 0 ≤ f j ∧ f j ≤ 255) : ∀ (m p : Nat) (A : am_H) (T : Nat → Nat → Int) (kd fe : Int), L ≤ p + 5 * m → p ≤ L → p % 5 = 2 → CR A u T kd fe → DT T → CF B A u → ∃ (v : Int) (T' : Nat → Nat → Int) (A' : am_H), am_run (d + 5) 47 22 [.ref u, .ref 2, .int (Int32.ofInt (p : Int))] [] A = some (some (.int (Int32.ofInt v)), A') ∧ RD f L m T p v T' ∧ CF B A' u ∧ (∃ T2 kd fe, CR A' u T2 kd fe) ∧ (v = -9 → DT T' ∧ ∃ kd fe, CR A' u T' kd fe) ∧ (v = -9 ∨ 0 ≤ v ∧ v ≤ 80) := by
  intro m
  induction m with
  | zero =>
    intro p A T kd fe h1 hp hp5 hC hD hB
    have e : p = L := by omega
    subst e
    obtain ⟨t2, t3⟩ := hB.text hC.1
    refine ⟨-9, T, A, ?_, ⟨Nat.le_refl _, rfl, rfl⟩, hB, ⟨_, _, _, hC⟩, fun _ => ⟨hD, _, _, hC⟩, Or.inl rfl⟩
    have := p_rf_end (d + 5) u p A (t2.trans h2) hL
    rw [if_pos (by omega)] at this
    exact this
  | succ m ih =>
    intro p A T kd fe h1 hp hp5 hC hD hB
    obtain ⟨t2, t3⟩ := hB.text hC.1
    by_cases c : p < L
    · have f0 := hf p
      obtain ⟨v0, A0, a1, a2, a3, a4⟩ := p_takes0 d u p A T f kd fe hC hD f0 hp5 (by omega)
      obtain ⟨s0, s1⟩ := p_rf_byte d u p L A A0 f v0 hC.1 (t2.trans h2) (t3.trans h3) ⟨_, _, _, _, _, _, hC.2.1⟩ c hL a1
      rcases a4 with ⟨a4, a5⟩ | ⟨a4, a5⟩
      · have s1' := s1 a4
        rw [show (p : Int) + 1 = ((p + 1 : Nat) : Int) by omega] at s1'
        obtain ⟨t4, t5⟩ := a3.text hC.1
        have hPO : PO d u L p f T A0 1 := by
          rcases a5 with ⟨h67, h8, -⟩ | ⟨h80, h6⟩
          · rw [h67] at a2
            exact p_canalPart d u L p f T A0 fe a2 hD ((t4.trans t2).trans h2) ((t5.trans t3).trans h3) hL hp5 c hf h67 h8
          · rw [h80] at a2
            exact p_personPart d u L p f T A0 fe a2 hD ((t4.trans t2).trans h2) ((t5.trans t3).trans h3) hL hp5 c hf h80 h6
        rcases hPO with ⟨i, A2, i1, i2, i3, i4, i5, i6, i7⟩ | ⟨A2, kd2, fe2, i1, i2, i3, i4⟩
        · refine ⟨((p + i : Nat) : Int), T, A2, s1'.trans i5, Or.inr (Or.inl ⟨c, i, i2, fun j hj => ?_, i4, rfl⟩), (hB.tr a3).tr i6, i7, fun e => by omega, Or.inr ?_⟩
          · by_cases e : j = 0
            · subst e; exact ⟨c, a5⟩
            · exact i3 j (by omega) hj
          · by_cases e : p + i < L
            · omega
            · have := i3 (i - 1)
              by_cases e1 : i = 1
              · omega
              · have := (this (by omega) (by omega)).1
                omega
        · have hg : ∀ j, j < 5 → p + j < L ∧ gd T f p j := fun j hj => by
            by_cases e : j = 0
            · subst e; exact ⟨c, a5⟩
            · exact i1 j (by omega) hj
          have h4 := (hg 4 (by omega)).1
          obtain ⟨v, T', A', j1, j2, j3⟩ := ih (p + 5) A2 (ptT T f p) kd2 fe2 (by omega) (by omega) (by omega) i4 (ptT_DT hD (fun j hj => (hg j hj).2)) ((hB.tr a3).tr i3)
          exact ⟨v, T', A', (s1'.trans i2).trans j1, Or.inr (Or.inr ⟨c, hg, j2⟩), j3⟩
      · refine ⟨(p : Int), T, A0, s0 a4, Or.inr (Or.inl ⟨c, 0, by omega, fun j hj => by omega, fun e => a5 e.2, rfl⟩), hB.tr a3, ⟨_, _, _, a2⟩, fun e => by omega, Or.inr (by omega)⟩
    · have e : p = L := by omega
      subst e
      refine ⟨-9, T, A, ?_, Or.inl ⟨Nat.le_refl _, rfl, rfl⟩, hB, ⟨_, _, _, hC⟩, fun _ => ⟨hD, _, _, hC⟩, Or.inl rfl⟩
      have := p_rf_end (d + 5) u p A (t2.trans h2) hL
      rw [if_pos (by omega)] at this
      exact this
