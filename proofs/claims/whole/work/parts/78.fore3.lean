def po (S : Nat → Nat → Int) (p : Nat) : Int := pl (S 9 p) (alm (dl S (S 8 p).toNat (S 7 p).toNat) (S 6 p))
def TGk (S : Nat → Nat → Int) (P : Nat) (tg : Nat → Int) (D : Nat → Nat → Prop) : Prop := ∀ a b f, a < b → b < P → f ≤ 1 → D a b → S 8 a = S 8 b → tg (36 * f + 6 * a + b) = eLv S a b f ∧ tg (36 * (1 - f) + 6 * b + a) = eGv S a b f
theorem TG_step {S : Nat → Nat → Int} {P : Nat} {tg : Nat → Int} {D D' : Nat → Nat → Prop} {l g : Nat} (h : TGk S P tg D) (hl : l < g) (hg : g < P) (hP : P ≤ 6) (hD : ∀ a b, D' a b → D a b ∨ (a = l ∧ b = g)) : TGk S P (up (up (up (up tg (36 * 1 + 6 * l + g) (eLv S l g 1)) (36 * (1 - 1) + 6 * g + l) (eGv S l g 1)) (36 * 0 + 6 * l + g) (eLv S l g 0)) (36 * (1 - 0) + 6 * g + l) (eGv S l g 0)) D' := by
  intro a b f hab hb hf hDab h8
  by_cases q : a = l ∧ b = g
  · obtain ⟨rfl, rfl⟩ := q
    rcases (show f = 0 ∨ f = 1 by omega) with e | e
    · subst e
      constructor
      · rw [up_ne _ _ (by omega), up_at]
      · rw [up_at]
    · subst e
      constructor
      · rw [up_ne _ _ (by omega), up_ne _ _ (by omega), up_ne _ _ (by omega), up_at]
      · rw [up_ne _ _ (by omega), up_ne _ _ (by omega), up_at]
  · have h1 := h a b f hab hb hf ((hD a b hDab).resolve_right q) h8
    have ha6 : a < 6 := by omega
    have hl6 : l < 6 := by omega
    rcases (show f = 0 ∨ f = 1 by omega) with e | e
    · subst e
      constructor
      · rw [up_ne _ _ (by first | omega | (intro e; have k1 : b = g := by omega; have k2 : a = l := by omega; exact q ⟨k2, k1⟩)), up_ne _ _ (by first | omega | (intro e; have k1 : b = g := by omega; have k2 : a = l := by omega; exact q ⟨k2, k1⟩)), up_ne _ _ (by first | omega | (intro e; have k1 : b = g := by omega; have k2 : a = l := by omega; exact q ⟨k2, k1⟩)), up_ne _ _ (by first | omega | (intro e; have k1 : b = g := by omega; have k2 : a = l := by omega; exact q ⟨k2, k1⟩))]; exact h1.1
      · rw [up_ne _ _ (by first | omega | (intro e; have k1 : b = g := by omega; have k2 : a = l := by omega; exact q ⟨k2, k1⟩)), up_ne _ _ (by first | omega | (intro e; have k1 : b = g := by omega; have k2 : a = l := by omega; exact q ⟨k2, k1⟩)), up_ne _ _ (by first | omega | (intro e; have k1 : b = g := by omega; have k2 : a = l := by omega; exact q ⟨k2, k1⟩)), up_ne _ _ (by first | omega | (intro e; have k1 : b = g := by omega; have k2 : a = l := by omega; exact q ⟨k2, k1⟩))]; exact h1.2
    · subst e
      constructor
      · rw [up_ne _ _ (by first | omega | (intro e; have k1 : b = g := by omega; have k2 : a = l := by omega; exact q ⟨k2, k1⟩)), up_ne _ _ (by first | omega | (intro e; have k1 : b = g := by omega; have k2 : a = l := by omega; exact q ⟨k2, k1⟩)), up_ne _ _ (by first | omega | (intro e; have k1 : b = g := by omega; have k2 : a = l := by omega; exact q ⟨k2, k1⟩)), up_ne _ _ (by first | omega | (intro e; have k1 : b = g := by omega; have k2 : a = l := by omega; exact q ⟨k2, k1⟩))]; exact h1.1
      · rw [up_ne _ _ (by first | omega | (intro e; have k1 : b = g := by omega; have k2 : a = l := by omega; exact q ⟨k2, k1⟩)), up_ne _ _ (by first | omega | (intro e; have k1 : b = g := by omega; have k2 : a = l := by omega; exact q ⟨k2, k1⟩)), up_ne _ _ (by first | omega | (intro e; have k1 : b = g := by omega; have k2 : a = l := by omega; exact q ⟨k2, k1⟩)), up_ne _ _ (by first | omega | (intro e; have k1 : b = g := by omega; have k2 : a = l := by omega; exact q ⟨k2, k1⟩))]; exact h1.2
theorem p_fore_in (d t c P one : Nat) (B : am_H) (S : Nat → Nat → Int) (kd fe : Int) (ap : Nat → Int) (x4 : Int32) (hR : RR S c) (hP : S 1 3 = (P : Int)) (hW : FSw B S t kd fe ap) (ho : one < P) : ∀ (m k : Nat) (A : am_H) (tg : Nat → Int), k + m = P → one < k → (∃ f, am_g A 78 = ar 6 f) → am_g A 80 = ar 72 tg → (∀ i, i ≠ 78 → i ≠ 80 → am_g A i = am_g B i) → TGk S P tg (fun a b => a < one ∨ a = one ∧ b < k) →
    ∃ A' tg', am_run (d + 5) 14 51 [.ref 77, .ref t, .ref 22, .int (Int32.ofInt (one : Int)), .int x4, .int (Int32.ofInt (k : Int))] [] A = am_run (d + 5) 14 102 [.ref 77, .ref t, .ref 22, .int (Int32.ofInt (one : Int)), .int x4, .int (Int32.ofInt (P : Int))] [] A' ∧ (∃ f, am_g A' 78 = ar 6 f) ∧ am_g A' 80 = ar 72 tg' ∧ (∀ i, i ≠ 78 → i ≠ 80 → am_g A' i = am_g B i) ∧ TGk S P tg' (fun a b => a < one ∨ a = one ∧ b < P) := by
  have h6 : P ≤ 6 := by have := hR.1.2.2.2.1; omega
  have w1 := hR.2.1.1
  intro m
  induction m with
  | zero =>
    intro k A tg hk hok h78 h80 hf hT
    have : k = P := by omega
    subst this
    have hWA : FSw A S t kd fe ap := hW.congr (fun i hi => hf i (by omega) (by omega))
    have ht := hWA.1.1
    have t0 := hWA.1.2.1
    rw [hP] at t0
    refine ⟨A, tg, ?_, h78, h80, hf, hT⟩
    rw [s14_51]
    simp (disch := omega) only [am_bv_some, am_bi_int, am_bl_long, am_br_ref, am_bc_some, am_bq_some, am_gf_c, am_rd_c, am_bh_pf, am_bh_wr, am_g_p, ob_get, ob_put, ar_get, ar_put, ob_tag, ar_tag, i_zero, i_add, i_sub, i_mul, i_lt, i_le, i_eq, i_val, if_pos, if_neg, Option.toList_some, Option.toList_none, List.cons_append, List.nil_append, beq_self_eq_true, true_or, or_true, up_at, up_ne, ↓reduceIte, Nat.reduceEqDiff, le_t, le_f, lt_t, lt_f, eq_t, eq_f, nq_t, nq_f, nl_t, nl_f, and_true, true_and, and_false, false_and, not_true_eq_false, not_false_eq_true, or_false, false_or, az_tag, al_tag, az_get, az_put, am_bh_wz, gX, gT, gW, gS, gA, gL, gM, gE, gN, gX_11, gX_1, gX_2, gT_1, gW_0, gW_1, gW_2, gW_3, gW_12, gW_13, gA_1, gL_1, gE_3, gM_0, gM_1, gM_2, gM_3, gN_0, gN_2, gN_3, gN_4, gN_5, gN_10, gN_11, gN_17, gN_18, gN_23, gN_24, gN_29, gN_35, gN_36, gN_42, am_p_p, Int.toNat_natCast, aq_tag, am_rq_c, am_bh_wq, aq_get3, aq_get4, aq_put3, Int.reduceAdd, Int.reduceSub, Int.reduceMul, Int.reduceToNat, s14_0, s14_1, s14_3, s14_4, s14_7, s14_10, s14_11, s14_12, s14_13, s14_16, s14_17, s14_18, s14_19, s14_22, s14_23, s14_24, s14_27, s14_29, s14_30, s14_33, s14_34, s14_35, s14_38, s14_39, s14_40, s14_42, s14_45, s14_46, s14_47, s14_48, s14_49, s14_53, s14_54, s14_57, s14_60, s14_61, s14_64, s14_65, s14_66, s14_67, s14_70, s14_72, s14_73, s14_76, s14_77, s14_78, s14_79, s14_80, s14_82, s14_83, s14_86, s14_87, s14_88, s14_89, s14_90, s14_92, s14_93, s14_96, s14_99, s14_105, s14_108, t0]
  | succ m ih =>
    intro k A tg hk hok h78 h80 hf hT
    have hWA : FSw A S t kd fe ap := hW.congr (fun i hi => hf i (by omega) (by omega))
    have ht := hWA.1.1
    have t0 := hWA.1.2.1
    have e22 := hWA.1.2.2.2.2.2.2.2.1
    have e23 := hWA.2.2.2.2.1
    have r1 := w1 one (by omega)
    have r2 := w1 k (by omega)
    rw [hP] at t0
    by_cases q : S 8 one = S 8 k
    · obtain ⟨f78, h78⟩ := h78
      obtain ⟨A1, a1, a2, ⟨f1, a3⟩, a4⟩ := p_foreseeTwo d t one k 1 c A S kd fe ap f78 tg hR hWA h78 h80 (by omega) (by omega) (by omega)
      have hW1 : FSw A1 S t kd fe ap := hWA.congr (fun i hi => a2 i (by omega) (by omega))
      obtain ⟨A2, b1, b2, b3, b4⟩ := p_foreseeTwo d t one k 0 c A1 S kd fe ap f1 _ hR hW1 a3 a4 (by omega) (by omega) (by omega)
      obtain ⟨A', tg', c1, c2⟩ := ih (k + 1) A2 _ (by omega) (by omega) b3 b4 (fun i u1 u2 => by rw [b2 i u1 u2, a2 i u1 u2]; exact hf i u1 u2) (TG_step hT hok (by omega) h6 (fun a b hD => by omega))
      refine ⟨A', tg', ?_, c2⟩
      rw [show ((1 : Nat) : Int) = 1 from rfl] at a1
      rw [show ((0 : Nat) : Int) = 0 from rfl] at b1
      rw [← c1, s14_51]
      simp (disch := omega) only [am_bv_some, am_bi_int, am_bl_long, am_br_ref, am_bc_some, am_bq_some, am_gf_c, am_rd_c, am_bh_pf, am_bh_wr, am_g_p, ob_get, ob_put, ar_get, ar_put, ob_tag, ar_tag, i_zero, i_add, i_sub, i_mul, i_lt, i_le, i_eq, i_val, if_pos, if_neg, Option.toList_some, Option.toList_none, List.cons_append, List.nil_append, beq_self_eq_true, true_or, or_true, up_at, up_ne, ↓reduceIte, Nat.reduceEqDiff, le_t, le_f, lt_t, lt_f, eq_t, eq_f, nq_t, nq_f, nl_t, nl_f, and_true, true_and, and_false, false_and, not_true_eq_false, not_false_eq_true, or_false, false_or, az_tag, al_tag, az_get, az_put, am_bh_wz, gX, gT, gW, gS, gA, gL, gM, gE, gN, gX_11, gX_1, gX_2, gT_1, gW_0, gW_1, gW_2, gW_3, gW_12, gW_13, gA_1, gL_1, gE_3, gM_0, gM_1, gM_2, gM_3, gN_0, gN_2, gN_3, gN_4, gN_5, gN_10, gN_11, gN_17, gN_18, gN_23, gN_24, gN_29, gN_35, gN_36, gN_42, am_p_p, Int.toNat_natCast, aq_tag, am_rq_c, am_bh_wq, aq_get3, aq_get4, aq_put3, Int.reduceAdd, Int.reduceSub, Int.reduceMul, Int.reduceToNat, s14_0, s14_1, s14_3, s14_4, s14_7, s14_10, s14_11, s14_12, s14_13, s14_16, s14_17, s14_18, s14_19, s14_22, s14_23, s14_24, s14_27, s14_29, s14_30, s14_33, s14_34, s14_35, s14_38, s14_39, s14_40, s14_42, s14_45, s14_46, s14_47, s14_48, s14_49, s14_53, s14_54, s14_57, s14_60, s14_61, s14_64, s14_65, s14_66, s14_67, s14_70, s14_72, s14_73, s14_76, s14_77, s14_78, s14_79, s14_80, s14_82, s14_83, s14_86, s14_87, s14_88, s14_89, s14_90, s14_92, s14_93, s14_96, s14_99, s14_105, s14_108, t0, e22, e23, a1, b1, Int.natCast_add, Int.cast_ofNat_Int]
    · obtain ⟨A', tg', c1, c2⟩ := ih (k + 1) A tg (by omega) (by omega) h78 h80 hf (fun a b f h1 h2 h3 h4 h5 => hT a b f h1 h2 h3 (by
        rcases h4 with h4 | ⟨h4, h6⟩
        · exact Or.inl h4
        · right
          refine ⟨h4, ?_⟩
          by_cases e : b = k
          · subst e; subst h4; exact absurd h5 q
          · omega) h5)
      refine ⟨A', tg', ?_, c2⟩
      rw [← c1, s14_51]
      simp (disch := omega) only [am_bv_some, am_bi_int, am_bl_long, am_br_ref, am_bc_some, am_bq_some, am_gf_c, am_rd_c, am_bh_pf, am_bh_wr, am_g_p, ob_get, ob_put, ar_get, ar_put, ob_tag, ar_tag, i_zero, i_add, i_sub, i_mul, i_lt, i_le, i_eq, i_val, if_pos, if_neg, Option.toList_some, Option.toList_none, List.cons_append, List.nil_append, beq_self_eq_true, true_or, or_true, up_at, up_ne, ↓reduceIte, Nat.reduceEqDiff, le_t, le_f, lt_t, lt_f, eq_t, eq_f, nq_t, nq_f, nl_t, nl_f, and_true, true_and, and_false, false_and, not_true_eq_false, not_false_eq_true, or_false, false_or, az_tag, al_tag, az_get, az_put, am_bh_wz, gX, gT, gW, gS, gA, gL, gM, gE, gN, gX_11, gX_1, gX_2, gT_1, gW_0, gW_1, gW_2, gW_3, gW_12, gW_13, gA_1, gL_1, gE_3, gM_0, gM_1, gM_2, gM_3, gN_0, gN_2, gN_3, gN_4, gN_5, gN_10, gN_11, gN_17, gN_18, gN_23, gN_24, gN_29, gN_35, gN_36, gN_42, am_p_p, Int.toNat_natCast, aq_tag, am_rq_c, am_bh_wq, aq_get3, aq_get4, aq_put3, Int.reduceAdd, Int.reduceSub, Int.reduceMul, Int.reduceToNat, s14_0, s14_1, s14_3, s14_4, s14_7, s14_10, s14_11, s14_12, s14_13, s14_16, s14_17, s14_18, s14_19, s14_22, s14_23, s14_24, s14_27, s14_29, s14_30, s14_33, s14_34, s14_35, s14_38, s14_39, s14_40, s14_42, s14_45, s14_46, s14_47, s14_48, s14_49, s14_53, s14_54, s14_57, s14_60, s14_61, s14_64, s14_65, s14_66, s14_67, s14_70, s14_72, s14_73, s14_76, s14_77, s14_78, s14_79, s14_80, s14_82, s14_83, s14_86, s14_87, s14_88, s14_89, s14_90, s14_92, s14_93, s14_96, s14_99, s14_105, s14_108, t0, e22, e23, Int.natCast_add, Int.cast_ofNat_Int]
theorem p_fore_out (d t c P : Nat) (B : am_H) (S : Nat → Nat → Int) (kd fe : Int) (ap : Nat → Int) (hR : RR S c) (hP : S 1 3 = (P : Int)) (hW : FSw B S t kd fe ap) : ∀ (m k : Nat) (A : am_H) (bo tg : Nat → Int) (x4 x5 : Value), k + m = P → (∃ f, am_g A 78 = ar 6 f) → am_g A 79 = ar 6 bo → am_g A 80 = ar 72 tg → (∀ i, i ≠ 78 → i ≠ 79 → i ≠ 80 → am_g A i = am_g B i) → TGk S P tg (fun a _ => a < k) → (∀ j, j < k → bo j = po S j) → ¬ x4.category = 2 →
    ∃ A' bo' tg', am_run (d + 5) 14 2 [.ref 77, .ref t, .ref 22, .int (Int32.ofInt (k : Int)), x4, x5] [] A = some (none, A') ∧ (∃ f, am_g A' 78 = ar 6 f) ∧ am_g A' 79 = ar 6 bo' ∧ am_g A' 80 = ar 72 tg' ∧ (∀ i, i ≠ 78 → i ≠ 79 → i ≠ 80 → am_g A' i = am_g B i) ∧ TGk S P tg' (fun _ _ => True) ∧ ∀ j, j < P → bo' j = po S j := by
  have h6 : P ≤ 6 := by have := hR.1.2.2.2.1; omega
  have w1 := hR.2.1.1
  have w2 := hR.2.1.2.1
  have w3 := hR.2.1.2.2.1
  have hc512 := hR.2.2.2.2.2.2
  have g12 := hR.1.2.2.2.2.2.2.2.2.2.2.2.1
  have g2 := hR.1.2.1
  intro m
  induction m with
  | zero =>
    intro k A bo tg x4 x5 hk h78 h79 h80 hf hT hbo hx
    have : k = P := by omega
    subst this
    have hWA : FSw A S t kd fe ap := hW.congr (fun i hi => hf i (by omega) (by omega) (by omega))
    have ht := hWA.1.1
    have t0 := hWA.1.2.1
    rw [hP] at t0
    refine ⟨A, bo, tg, ?_, h78, h79, h80, hf, fun a b f h1 h2 h3 _ h5 => hT a b f h1 h2 h3 (by omega) h5, hbo⟩
    simp (disch := omega) only [am_bv_some, am_bi_int, am_bl_long, am_br_ref, am_bc_some, am_bq_some, am_gf_c, am_rd_c, am_bh_pf, am_bh_wr, am_g_p, ob_get, ob_put, ar_get, ar_put, ob_tag, ar_tag, i_zero, i_add, i_sub, i_mul, i_lt, i_le, i_eq, i_val, if_pos, if_neg, Option.toList_some, Option.toList_none, List.cons_append, List.nil_append, beq_self_eq_true, true_or, or_true, up_at, up_ne, ↓reduceIte, Nat.reduceEqDiff, le_t, le_f, lt_t, lt_f, eq_t, eq_f, nq_t, nq_f, nl_t, nl_f, and_true, true_and, and_false, false_and, not_true_eq_false, not_false_eq_true, or_false, false_or, az_tag, al_tag, az_get, az_put, am_bh_wz, gX, gT, gW, gS, gA, gL, gM, gE, gN, gX_11, gX_1, gX_2, gT_1, gW_0, gW_1, gW_2, gW_3, gW_12, gW_13, gA_1, gL_1, gE_3, gM_0, gM_1, gM_2, gM_3, gN_0, gN_2, gN_3, gN_4, gN_5, gN_10, gN_11, gN_17, gN_18, gN_23, gN_24, gN_29, gN_35, gN_36, gN_42, am_p_p, Int.toNat_natCast, aq_tag, am_rq_c, am_bh_wq, aq_get3, aq_get4, aq_put3, Int.reduceAdd, Int.reduceSub, Int.reduceMul, Int.reduceToNat, s14_0, s14_1, s14_2, s14_3, s14_4, s14_7, s14_10, s14_11, s14_12, s14_13, s14_16, s14_17, s14_18, s14_19, s14_22, s14_23, s14_24, s14_27, s14_29, s14_30, s14_33, s14_34, s14_35, s14_38, s14_39, s14_40, s14_42, s14_45, s14_46, s14_47, s14_48, s14_49, s14_51, s14_53, s14_54, s14_57, s14_60, s14_61, s14_64, s14_65, s14_66, s14_67, s14_70, s14_72, s14_73, s14_76, s14_77, s14_78, s14_79, s14_80, s14_82, s14_83, s14_86, s14_87, s14_88, s14_89, s14_90, s14_92, s14_93, s14_96, s14_99, s14_102, s14_105, s14_108, t0]
  | succ m ih =>
    intro k A bo tg x4 x5 hk h78 h79 h80 hf hT hbo hx
    have hWA : FSw A S t kd fe ap := hW.congr (fun i hi => hf i (by omega) (by omega) (by omega))
    obtain ⟨⟨ht, t0, t1, t2, t3, t4, t6, e22, e25, e77⟩, t7, t8, hAP, e23, e24⟩ := id hWA
    have r8 := w1 k (by omega)
    have r8' := w2 k (by omega)
    have r9 := w3 k (by omega)
    have r7 := g12 k (by omega)
    obtain ⟨a, ha⟩ : ∃ a : Nat, S 8 k = (a : Int) := ⟨(S 8 k).toNat, by omega⟩
    obtain ⟨g, hg⟩ : ∃ g : Nat, S 7 k = (g : Int) := ⟨(S 7 k).toNat, by omega⟩
    have ea : ap (6 * a + g) = dl S a g := hAP a g (by omega) (by omega) (by omega)
    have r91 := dl_rng9 hR a g
    have ra := alm_rng hR (p := k) (by omega) a g
    have qa := fun d => p_aloneMinutes d A t k a g _ _ _ _ _ _ (S 6) ap t0 t6 t8 (by omega) (by omega) (by omega) (by rw [ea]; exact rg_1 r91 (by decide))
    rw [ea] at qa
    have qp := fun d => p_plus d A (S 9 k) (alm (dl S a g) (S 6 k)) (by omega) (rg_1 ra (by decide))
    have epo : po S k = pl (S 9 k) (alm (dl S a g) (S 6 k)) := by unfold po; rw [ha, hg]; rfl
    generalize alm (dl S a g) (S 6 k) = mn at qa qp epo
    have hf1 : ∀ i, i ≠ 79 → am_g (am_p A 79 (ar 6 (up bo k (pl (S 9 k) mn)))) i = am_g A i := fun i hi => by rw [am_g_p, if_neg hi]
    have hW1 : FSw (am_p A 79 (ar 6 (up bo k (pl (S 9 k) mn)))) S t kd fe ap := hWA.congr (fun i hi => hf1 i (by omega))
    obtain ⟨A1, tg1, c1, c2, c3, c4, c5⟩ := p_fore_in d t c P k (am_p A 79 (ar 6 (up bo k (pl (S 9 k) mn)))) S kd fe ap (Int32.ofInt mn) hR hP hW1 (by omega) m (k + 1) (am_p A 79 (ar 6 (up bo k (pl (S 9 k) mn)))) tg (by omega) (by omega) (by rw [hf1 _ (by omega)]; exact h78) (by rw [hf1 _ (by omega)]; exact h80) (fun _ _ _ => rfl) (fun a b f h1 h2 h3 h4 h5 => hT a b f h1 h2 h3 (by omega) h5)
    have k79 : am_g A1 79 = ar 6 (up bo k (pl (S 9 k) mn)) := by rw [c4 _ (by omega) (by omega), am_g_p, if_pos rfl]
    obtain ⟨A2, bo2, tg2, d1, d2⟩ := ih (k + 1) A1 (up bo k (pl (S 9 k) mn)) tg1 (.int (Int32.ofInt mn)) (.int (Int32.ofInt (P : Int))) (by omega) c2 k79 c3 (fun i u1 u2 u3 => by rw [c4 i u1 u3, hf1 i u2]; exact hf i u1 u2 u3) (fun a b f h1 h2 h3 h4 h5 => c5 a b f h1 h2 h3 (by omega) h5) (fun j hj => by
      by_cases e : j = k
      · subst e; rw [up_at]; exact epo.symm
      · rw [up_ne _ _ e]; exact hbo j (by omega)) (by show ¬ (1 = 2); omega)
    refine ⟨A2, bo2, tg2, ?_, d2⟩
    rw [hP] at t0
    rw [show ((k + 1 : Nat) : Int) = (k : Int) + 1 by omega] at c1 d1
    rw [← d1, s14_2]
    simp (disch := first | omega | assumption) only [am_bv_some, am_bi_int, am_bl_long, am_br_ref, am_bc_some, am_bq_some, am_gf_c, am_rd_c, am_bh_pf, am_bh_wr, am_g_p, ob_get, ob_put, ar_get, ar_put, ob_tag, ar_tag, i_zero, i_add, i_sub, i_mul, i_lt, i_le, i_eq, i_val, if_pos, if_neg, Option.toList_some, Option.toList_none, List.cons_append, List.nil_append, beq_self_eq_true, true_or, or_true, up_at, up_ne, ↓reduceIte, Nat.reduceEqDiff, le_t, le_f, lt_t, lt_f, eq_t, eq_f, nq_t, nq_f, nl_t, nl_f, and_true, true_and, and_false, false_and, not_true_eq_false, not_false_eq_true, or_false, false_or, az_tag, al_tag, az_get, az_put, am_bh_wz, gX, gT, gW, gS, gA, gL, gM, gE, gN, gX_11, gX_1, gX_2, gT_1, gW_0, gW_1, gW_2, gW_3, gW_12, gW_13, gA_1, gL_1, gE_3, gM_0, gM_1, gM_2, gM_3, gN_0, gN_2, gN_3, gN_4, gN_5, gN_10, gN_11, gN_17, gN_18, gN_23, gN_24, gN_29, gN_35, gN_36, gN_42, am_p_p, Int.toNat_natCast, aq_tag, am_rq_c, am_bh_wq, aq_get3, aq_get4, aq_put3, Int.reduceAdd, Int.reduceSub, Int.reduceMul, Int.reduceToNat, s14_0, s14_1, s14_3, s14_4, s14_7, s14_10, s14_11, s14_12, s14_13, s14_16, s14_17, s14_18, s14_19, s14_22, s14_23, s14_24, s14_27, s14_29, s14_30, s14_33, s14_34, s14_35, s14_38, s14_39, s14_40, s14_42, s14_45, s14_46, s14_47, s14_48, s14_49, s14_53, s14_54, s14_57, s14_60, s14_61, s14_64, s14_65, s14_66, s14_67, s14_70, s14_72, s14_73, s14_76, s14_77, s14_78, s14_79, s14_80, s14_82, s14_83, s14_86, s14_87, s14_88, s14_89, s14_90, s14_92, s14_93, s14_96, s14_99, s14_102, s14_105, s14_108, t0, t7, e22, e23, e24, e77, h79, ha, hg, qa, qp]
    rw [c1]
    simp (disch := omega) only [am_bv_some, am_bi_int, am_bl_long, am_br_ref, am_bc_some, am_bq_some, am_gf_c, am_rd_c, am_bh_pf, am_bh_wr, am_g_p, ob_get, ob_put, ar_get, ar_put, ob_tag, ar_tag, i_zero, i_add, i_sub, i_mul, i_lt, i_le, i_eq, i_val, if_pos, if_neg, Option.toList_some, Option.toList_none, List.cons_append, List.nil_append, beq_self_eq_true, true_or, or_true, up_at, up_ne, ↓reduceIte, Nat.reduceEqDiff, le_t, le_f, lt_t, lt_f, eq_t, eq_f, nq_t, nq_f, nl_t, nl_f, and_true, true_and, and_false, false_and, not_true_eq_false, not_false_eq_true, or_false, false_or, az_tag, al_tag, az_get, az_put, am_bh_wz, gX, gT, gW, gS, gA, gL, gM, gE, gN, gX_11, gX_1, gX_2, gT_1, gW_0, gW_1, gW_2, gW_3, gW_12, gW_13, gA_1, gL_1, gE_3, gM_0, gM_1, gM_2, gM_3, gN_0, gN_2, gN_3, gN_4, gN_5, gN_10, gN_11, gN_17, gN_18, gN_23, gN_24, gN_29, gN_35, gN_36, gN_42, am_p_p, Int.toNat_natCast, aq_tag, am_rq_c, am_bh_wq, aq_get3, aq_get4, aq_put3, Int.reduceAdd, Int.reduceSub, Int.reduceMul, Int.reduceToNat, s14_102, s14_105]
/-- what is foreseen -/
def FSh (A : am_H) (S : Nat → Nat → Int) (P : Nat) : Prop := am_g A 77 = ob 2 3 (gS 77) ∧ (∃ f, am_g A 78 = ar 6 f) ∧ (∃ bo, am_g A 79 = ar 6 bo ∧ ∀ j, j < P → bo j = po S j) ∧ ∃ tg, am_g A 80 = ar 72 tg ∧ TGk S P tg (fun _ _ => True)
theorem p_foresee (d t c P : Nat) (A : am_H) (S : Nat → Nat → Int) (kd fe : Int) (ap : Nat → Int) (hR : RR S c) (hP : S 1 3 = (P : Int)) (hW : FSw A S t kd fe ap) (hE : XE A) : ∃ A', am_call (d + 5) 14 [.ref 77, .ref t, .ref 22] A = some (none, A') ∧ FSh A' S P ∧ ∀ i, (i < 78 ∨ 80 < i) → am_g A' i = am_g A i := by
  obtain ⟨h77, h78, ⟨bo, h79⟩, tg, h80⟩ := hE
  obtain ⟨A', bo', tg', r1, r2, r3, r4, r5, r6, r7⟩ := p_fore_out d t c P A S kd fe ap hR hP hW P 0 A bo tg .null .null (by omega) h78 h79 h80 (fun _ _ _ _ => rfl) (fun a b f h1 h2 h3 h4 => by omega) (fun j hj => by omega) (by show ¬ (1 = 2); omega)
  refine ⟨A', ?_, ⟨by rw [r5 _ (by omega) (by omega) (by omega)]; exact h77, r2, ⟨bo', r3, r7⟩, tg', r4, r6⟩, fun i hi => r5 i (by omega) (by omega) (by omega)⟩
  rw [show ((0 : Nat) : Int) = 0 from rfl] at r1
  rw [← r1]
  simp (disch := omega) only [am_bv_some, am_bi_int, am_bl_long, am_br_ref, am_bc_some, am_bq_some, am_gf_c, am_rd_c, am_bh_pf, am_bh_wr, am_g_p, ob_get, ob_put, ar_get, ar_put, ob_tag, ar_tag, i_zero, i_add, i_sub, i_mul, i_lt, i_le, i_eq, i_val, if_pos, if_neg, Option.toList_some, Option.toList_none, List.cons_append, List.nil_append, beq_self_eq_true, true_or, or_true, up_at, up_ne, ↓reduceIte, Nat.reduceEqDiff, le_t, le_f, lt_t, lt_f, eq_t, eq_f, nq_t, nq_f, nl_t, nl_f, and_true, true_and, and_false, false_and, not_true_eq_false, not_false_eq_true, or_false, false_or, az_tag, al_tag, az_get, az_put, am_bh_wz, gX, gT, gW, gS, gA, gL, gM, gE, gN, gX_11, gX_1, gX_2, gT_1, gW_0, gW_1, gW_2, gW_3, gW_12, gW_13, gA_1, gL_1, gE_3, gM_0, gM_1, gM_2, gM_3, gN_0, gN_2, gN_3, gN_4, gN_5, gN_10, gN_11, gN_17, gN_18, gN_23, gN_24, gN_29, gN_35, gN_36, gN_42, am_p_p, Int.toNat_natCast, aq_tag, am_rq_c, am_bh_wq, aq_get3, aq_get4, aq_put3, Int.reduceAdd, Int.reduceSub, Int.reduceMul, Int.reduceToNat, c14, s14_0, s14_1, s14_3, s14_4, s14_7, s14_10, s14_11, s14_12, s14_13, s14_16, s14_17, s14_18, s14_19, s14_22, s14_23, s14_24, s14_27, s14_29, s14_30, s14_33, s14_34, s14_35, s14_38, s14_39, s14_40, s14_42, s14_45, s14_46, s14_47, s14_48, s14_49, s14_53, s14_54, s14_57, s14_60, s14_61, s14_64, s14_65, s14_66, s14_67, s14_70, s14_72, s14_73, s14_76, s14_77, s14_78, s14_79, s14_80, s14_82, s14_83, s14_86, s14_87, s14_88, s14_89, s14_90, s14_92, s14_93, s14_96, s14_99, s14_102, s14_105, s14_108, h77]
