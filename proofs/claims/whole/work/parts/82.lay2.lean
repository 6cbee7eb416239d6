def LYw (A : am_H) (S : Nat → Nat → Int) (N : Nat → Int) (sd : Int64) (fr to fa be pa go : Nat → Int) : Prop := am_g A 105 = ob 11 43 (gN N sd) ∧ N 5 = S 1 2 ∧ N 10 = S 1 3 ∧ MT A S fr to fa be pa go ∧ MS A S ∧ ∃ f, am_g A 128 = ar 6 f
theorem LYw.congr {A A' : am_H} {S : Nat → Nat → Int} {N : Nat → Int} {sd : Int64} {fr to fa be pa go : Nat → Int} (h : LYw A S N sd fr to fa be pa go) (g : ∀ i, i ≠ 127 → i ≠ 128 → am_g A' i = am_g A i) (h8 : ∃ f, am_g A' 128 = ar 6 f) : LYw A' S N sd fr to fa be pa go := by
  obtain ⟨h0, h5, h10, hT, hS, -⟩ := h
  exact ⟨by rw [g _ (by omega) (by omega)]; exact h0, h5, h10, hT.congr (fun i a b => g i (by omega) (by omega)) (TS.rf S), hS.congr (fun i a b => g i (by omega) (by omega)) rfl rfl rfl, h8⟩
theorem gz_zs (S : Nat → Nat → Int) (F : Int) (a b : Nat) : gz S F a b = zs S a b (bi F a).toNat := by
  unfold gz zs
  rcases bi_01 F a with e | e
  · rw [e, if_neg (by omega), if_neg (by decide)]
  · rw [e, if_pos rfl, if_pos (by decide)]
theorem ck_lt {S : Nat → Nat → Int} {F : Int} {a b : Nat} (h : a < b) : ck S F a b = eLv S a b (bi F a).toNat := by
  unfold ck
  rw [if_neg (by omega), if_pos h]
theorem ck_gt {S : Nat → Nat → Int} {F : Int} {a b : Nat} (h : a < b) (hu : ¬ bi F a = bi F b) : ck S F b a = eGv S a b (bi F a).toNat := by
  unfold ck
  rw [if_neg (by omega), if_neg (by omega)]
  rcases bi_01 F a with e | e <;> rcases bi_01 F b with e' | e'
  · exact absurd (e.trans e'.symm) hu
  · rw [e, e']; rfl
  · rw [e, e']; rfl
  · exact absurd (e.trans e'.symm) hu
theorem Rf_un {S : Nat → Nat → Int} {F : Int} {a b : Nat} (h : Rf S F a b = true) : ¬ bi F a = bi F b ∧ S 8 a = S 8 b := by
  unfold Rf at h
  rw [decide_eq_true_eq] at h
  exact h.2
theorem m_layPair (d c a b : Nat) (A : am_H) (S : Nat → Nat → Int) (F : Int) (N : Nat → Int) (sd : Int64) (fr to fa be pa go en : Nat → Int) (hR : RR S c) (hW : LYw A S N sd fr to fa be pa go) (h7 : am_g A 127 = ar 36 en) (hab : a < b) (hb : (b : Int) < S 1 3) (hRf : Rf S F a b = true) (hF : 0 ≤ F ∧ F < 64) : ∃ A' en', am_call (d + 4) 138 [.ref 105, .int (Int32.ofInt (a : Int)), .int (Int32.ofInt (b : Int)), .int (Int32.ofInt F)] A = some (none, A') ∧ (∀ i, i ≠ 127 → i ≠ 128 → am_g A' i = am_g A i) ∧ (∃ f, am_g A' 128 = ar 6 f) ∧ am_g A' 127 = ar 36 en' ∧ ∀ i, en' i = if i = 6 * a + b then dz 999999 (ck S F a b) else if i = 6 * b + a then dz 999999 (ck S F b a) else en i := by
  have h6 := hR.1.2.2.2.1
  have g2 := hR.1.2.1
  have ha : (a : Int) < S 1 3 := by omega
  have pal := hR.1.2.2.2.2.2.2.2.2.2.2.2.1 a ha
  have pag := hR.1.2.2.2.2.2.2.2.2.2.2.2.1 b hb
  have w1 := hR.2.1.1 a (by omega)
  have w2 := hR.2.1.2.1 a ha
  have c1 := hR.2.1.2.2.1 a (by omega)
  have c2 := hR.2.1.2.2.1 b (by omega)
  have hc := hR.2.2.2.2.2.2
  obtain ⟨hu, h8⟩ := Rf_un hRf
  obtain ⟨h0, h5, h10, hT, hS, ⟨f8, k8⟩⟩ := id hW
  have yP := hT.2.2.2.2.2.2.2
  have ya := yP a ha
  have yb := yP b hb
  obtain ⟨sa, hsa⟩ : ∃ x : Nat, S 8 a = (x : Int) := ⟨(S 8 a).toNat, by omega⟩
  obtain ⟨ga, hga⟩ : ∃ x : Nat, S 7 a = (x : Int) := ⟨(S 7 a).toNat, by omega⟩
  obtain ⟨gb, hgb⟩ : ∃ x : Nat, S 7 b = (x : Int) := ⟨(S 7 b).toNat, by omega⟩
  have hsa' : (sa : Int) < S 1 1 := by omega
  have hga' : (ga : Int) < S 1 1 := by omega
  have hgb' : (gb : Int) < S 1 1 := by omega
  have hga6 : ga < 6 := by omega
  have hgb6 : gb < 6 := by omega
  have hcl1 : 0 ≤ S 9 a ∧ S 9 a ≤ 1000000 := by omega
  have hcl2 : 0 ≤ S 9 b ∧ S 9 b ≤ 1000000 := by omega
  have ha6 : a < 6 := by omega
  have hb6 : b < 6 := by omega
  have hgoa : go a = (ga : Int) := by omega
  have hgob : go b = (gb : Int) := by omega
  obtain ⟨A1, q1, ⟨f1, q1'⟩, k1⟩ := m_wayG d c a b sa ga A S F N sd fr to fa be pa go f8 hR h0 h5 hT hS.2.2 k8 ha hb hsa' hga6 hF hu
  have hW1 := hW.congr (A' := A1) (fun i _ u => k1 i u) ⟨f1, q1'⟩
  obtain ⟨A2, q2, ⟨f2, q2'⟩, k2⟩ := m_wayP d c b ga gb A1 S F N sd fr to fa be pa go f1 hR hW1.1 h5 hW1.2.2.2.1 q1' hb hga' hgb6
  have hW2 := hW1.congr (A' := A2) (fun i _ u => k2 i u) ⟨f2, q2'⟩
  obtain ⟨A3, q3, ⟨f3, q3'⟩, k3⟩ := m_wayG d c a b sa gb A2 S F N sd fr to fa be pa go f2 hR hW2.1 h5 hW2.2.2.2.1 hW2.2.2.2.2.1.2.2 q2' ha hb hsa' hgb6 hF hu
  have hW3 := hW2.congr (A' := A3) (fun i _ u => k3 i u) ⟨f3, q3'⟩
  obtain ⟨A4, q4, ⟨f4, q4'⟩, k4⟩ := m_wayP d c a gb ga A3 S F N sd fr to fa be pa go f3 hR hW3.1 h5 hW3.2.2.2.1 q3' ha hgb' hga6
  have m2 : ∀ i, i ≠ 128 → am_g A2 i = am_g A i := fun i u => (k2 i u).trans (k1 i u)
  have m3 : ∀ i, i ≠ 128 → am_g A3 i = am_g A i := fun i u => (k3 i u).trans (m2 i u)
  have m4 : ∀ i, i ≠ 128 → am_g A4 i = am_g A i := fun i u => (k4 i u).trans (m3 i u)
  have z1 := gz_rng F hR ha hb sa ga
  have z2 := gz_rng F hR ha hb sa gb
  have z3 := alm_rng hR hb ga gb
  have z4 := alm_rng hR ha gb ga
  have zB : 0 ≤ eB S a b ∧ eB S a b ≤ 130000 := by unfold eB; split <;> omega
  have hv := lay_hc zB z1 z2 z3 z4
  have eL : pL (eB S a b) (dl (gz S F a b) sa ga) (dl (gz S F a b) sa gb) (alm (dl S ga gb) (S 6 b)) (alm (dl S gb ga) (S 6 a)) = ck S F a b := by
    rw [ck_lt hab, gz_zs]; unfold eLv; rw [hsa, hga, hgb]; rfl
  have eG : pG (eB S a b) (dl (gz S F a b) sa ga) (dl (gz S F a b) sa gb) (alm (dl S ga gb) (S 6 b)) (alm (dl S gb ga) (S 6 a)) = ck S F b a := by
    rw [ck_gt hab hu, gz_zs]; unfold eGv; rw [hsa, hga, hgb]; rfl
  rw [eL, eG] at hv
  have dr : ∀ x y : Int, (x = 2147483647 ∨ 0 ≤ x ∧ x ≤ y) → y ≤ 20000 → 0 ≤ dz 999999 x ∧ dz 999999 x ≤ 999999 := by
    intro x y h hy
    unfold dz
    split <;> omega
  have r1 := dr _ _ z1 (by decide)
  have r2 := dr _ _ z3 (by decide)
  have r3 := dr _ _ z2 (by decide)
  have r4 := dr _ _ z4 (by decide)
  have pA := m_lay_a d a b sa ga gb A A1 A2 A3 A4 F (eB S a b) _ _ _ _ N sd (S 8) (S 9) go ha6 hb6 h0 hT.2.2.2.2.2.1 hS.1 hS.2.1 hcl1 hcl2 rfl hsa hgoa hgob k1 m2 m3 q1 q2 q3 q4
  obtain ⟨en', pC, pD⟩ := m_lay_c (d + 4) a b A4 (Int32.ofInt F) (eB S a b) _ _ _ _ (dz 999999 (ck S F a b)) (dz 999999 (ck S F b a)) N sd en hab hb6 (by rw [m4 _ (by decide)]; exact h0) (by rw [m4 _ (by decide)]; exact h7) r1 r2 r3 r4 hv
  refine ⟨am_p A4 127 (ar 36 en'), en', ?_, fun i u1 u2 => by rw [am_g_p, if_neg u1]; exact m4 i u2, ⟨f4, by rw [am_g_p, if_neg (by decide)]; exact q4'⟩, by rw [am_g_p, if_pos rfl], pD⟩
  rw [pA, m_lay_b _ _ _ _ _ _ _ _ _ _ r1 r2 r3 r4, pC]
def ENk (S : Nat → Nat → Int) (F : Int) (P : Nat) (en : Nat → Int) (D : Nat → Nat → Prop) : Prop := ∀ a b, a < b → b < P → D a b → Rf S F a b = true → en (6 * a + b) = dz 999999 (ck S F a b) ∧ en (6 * b + a) = dz 999999 (ck S F b a)
theorem m_lay_in (d c P one : Nat) (B : am_H) (S : Nat → Nat → Int) (F : Int) (N : Nat → Int) (sd : Int64) (fr to fa be pa go : Nat → Int) (x3 : Int32) (hR : RR S c) (hP : S 1 3 = (P : Int)) (hW : LYw B S N sd fr to fa be pa go) (hF : 0 ≤ F ∧ F < 64) (ho : one < P) (en0 : Nat → Int) : ∀ (m k : Nat) (A : am_H) (en : Nat → Int), k + m = P → one < k → (∃ f, am_g A 128 = ar 6 f) → am_g A 127 = ar 36 en → (∀ i, i ≠ 127 → i ≠ 128 → am_g A i = am_g B i) → ENk S F P en (fun a b => a < one ∨ a = one ∧ b < k) → (∀ p, p < 6 → en (7 * p) = en0 (7 * p)) →
    ∃ A' en', am_run (d + 5) 140 63 [.ref 105, .int (Int32.ofInt F), .int (Int32.ofInt (one : Int)), .int x3, .int (Int32.ofInt (k : Int))] [] A = am_run (d + 5) 140 97 [.ref 105, .int (Int32.ofInt F), .int (Int32.ofInt (one : Int)), .int x3, .int (Int32.ofInt (P : Int))] [] A' ∧ (∃ f, am_g A' 128 = ar 6 f) ∧ am_g A' 127 = ar 36 en' ∧ (∀ i, i ≠ 127 → i ≠ 128 → am_g A' i = am_g B i) ∧ ENk S F P en' (fun a b => a < one ∨ a = one ∧ b < P) ∧ ∀ p, p < 6 → en' (7 * p) = en0 (7 * p) := by
  have h6 : P ≤ 6 := by have := hR.1.2.2.2.1; omega
  have w1 := hR.2.1.1
  intro m
  induction m with
  | zero =>
    intro k A en hk hok h8 h7 hf hE hd
    have : k = P := by omega
    subst this
    have hWA := hW.congr (A' := A) hf h8
    have h0 := hWA.1
    have h10 := hWA.2.2.1
    rw [hP] at h10
    refine ⟨A, en, ?_, h8, h7, hf, hE, hd⟩
    rw [s140_63]
    simp (disch := omega) only [am_bv_some, am_bi_int, am_bl_long, am_br_ref, am_bc_some, am_bq_some, am_gf_c, am_rd_c, am_bh_pf, am_bh_wr, am_g_p, ob_get, ob_put, ar_get, ar_put, ob_tag, ar_tag, i_zero, i_add, i_sub, i_mul, i_lt, i_le, i_eq, i_val, if_pos, if_neg, Option.toList_some, Option.toList_none, List.cons_append, List.nil_append, beq_self_eq_true, true_or, or_true, up_at, up_ne, ↓reduceIte, Nat.reduceEqDiff, le_t, le_f, lt_t, lt_f, eq_t, eq_f, nq_t, nq_f, nl_t, nl_f, and_true, true_and, and_false, false_and, not_true_eq_false, not_false_eq_true, or_false, false_or, az_tag, al_tag, az_get, az_put, am_bh_wz, gX, gT, gW, gS, gA, gL, gM, gE, gN, gX_11, gX_1, gX_2, gT_1, gW_0, gW_1, gW_2, gW_3, gW_12, gW_13, gA_1, gL_1, gE_3, gM_0, gM_1, gM_2, gM_3, gN_0, gN_2, gN_3, gN_4, gN_5, gN_10, gN_11, gN_17, gN_18, gN_23, gN_24, gN_29, gN_35, gN_36, gN_42, am_p_p, Int.toNat_natCast, aq_tag, am_rq_c, am_bh_wq, aq_get3, aq_get4, aq_put3, Int.reduceAdd, Int.reduceSub, Int.reduceMul, Int.reduceToNat, s140_0, s140_1, s140_3, s140_4, s140_7, s140_10, s140_11, s140_12, s140_13, s140_14, s140_17, s140_18, s140_19, s140_20, s140_23, s140_24, s140_25, s140_26, s140_29, s140_30, s140_31, s140_34, s140_36, s140_37, s140_38, s140_39, s140_41, s140_44, s140_46, s140_49, s140_50, s140_53, s140_54, s140_55, s140_56, s140_57, s140_58, s140_59, s140_60, s140_61, s140_65, s140_66, s140_69, s140_72, s140_73, s140_74, s140_76, s140_77, s140_80, s140_83, s140_84, s140_85, s140_87, s140_88, s140_91, s140_94, s140_100, s140_103, h0, h10]
  | succ m ih =>
    intro k A en hk hok h8 h7 hf hE hd
    have hWA := hW.congr (A' := A) hf h8
    have h0 := hWA.1
    have h10 := hWA.2.2.1
    have pc := fun d => m_canPair d one k A S F N sd h0 hWA.2.2.2.2.1.1 hF w1 (by omega) (by omega) (by omega)
    rw [hP] at h10
    by_cases q : Rf S F one k = true
    · rw [if_pos q] at pc
      obtain ⟨A1, en1, a1, a2, a3, a4, a5⟩ := m_layPair d c one k A S F N sd fr to fa be pa go en hR hWA h7 hok (by omega) q hF
      obtain ⟨A', en', c1, c2⟩ := ih (k + 1) A1 en1 (by omega) (by omega) a3 a4 (fun i u1 u2 => by rw [a2 i u1 u2]; exact hf i u1 u2) (by
        intro a b h1 h2 h3 h4
        by_cases e : a = one ∧ b = k
        · obtain ⟨rfl, rfl⟩ := e
          rw [a5, a5, if_pos rfl, if_neg (by omega), if_pos rfl]
          exact ⟨rfl, rfl⟩
        · have := hE a b h1 h2 (by
            rcases h3 with h3 | ⟨h3, h5⟩
            · exact Or.inl h3
            · exact Or.inr ⟨h3, by omega⟩) h4
          have ha6 : a < 6 := by omega
          have ho6 : one < 6 := by omega
          have n1 : ¬ 6 * a + b = 6 * one + k := fun e' => e ⟨by omega, by omega⟩
          have n2 : ¬ 6 * a + b = 6 * k + one := by
            intro e'
            have k1 : a = k := by omega
            omega
          have n3 : ¬ 6 * b + a = 6 * one + k := by
            intro e'
            have k1 : b = one := by omega
            omega
          have n4 : ¬ 6 * b + a = 6 * k + one := by
            intro e'
            have k1 : b = k := by omega
            exact e ⟨by omega, k1⟩
          rw [a5, a5, if_neg n1, if_neg n2, if_neg n3, if_neg n4]
          exact this) (fun p hp => by rw [a5, if_neg (by omega), if_neg (by omega)]; exact hd p hp)
      refine ⟨A', en', ?_, c2⟩
      rw [← c1, s140_63]
      simp (disch := omega) only [am_bv_some, am_bi_int, am_bl_long, am_br_ref, am_bc_some, am_bq_some, am_gf_c, am_rd_c, am_bh_pf, am_bh_wr, am_g_p, ob_get, ob_put, ar_get, ar_put, ob_tag, ar_tag, i_zero, i_add, i_sub, i_mul, i_lt, i_le, i_eq, i_val, if_pos, if_neg, Option.toList_some, Option.toList_none, List.cons_append, List.nil_append, beq_self_eq_true, true_or, or_true, up_at, up_ne, ↓reduceIte, Nat.reduceEqDiff, le_t, le_f, lt_t, lt_f, eq_t, eq_f, nq_t, nq_f, nl_t, nl_f, and_true, true_and, and_false, false_and, not_true_eq_false, not_false_eq_true, or_false, false_or, az_tag, al_tag, az_get, az_put, am_bh_wz, gX, gT, gW, gS, gA, gL, gM, gE, gN, gX_11, gX_1, gX_2, gT_1, gW_0, gW_1, gW_2, gW_3, gW_12, gW_13, gA_1, gL_1, gE_3, gM_0, gM_1, gM_2, gM_3, gN_0, gN_2, gN_3, gN_4, gN_5, gN_10, gN_11, gN_17, gN_18, gN_23, gN_24, gN_29, gN_35, gN_36, gN_42, am_p_p, Int.toNat_natCast, aq_tag, am_rq_c, am_bh_wq, aq_get3, aq_get4, aq_put3, Int.reduceAdd, Int.reduceSub, Int.reduceMul, Int.reduceToNat, s140_0, s140_1, s140_3, s140_4, s140_7, s140_10, s140_11, s140_12, s140_13, s140_14, s140_17, s140_18, s140_19, s140_20, s140_23, s140_24, s140_25, s140_26, s140_29, s140_30, s140_31, s140_34, s140_36, s140_37, s140_38, s140_39, s140_41, s140_44, s140_46, s140_49, s140_50, s140_53, s140_54, s140_55, s140_56, s140_57, s140_58, s140_59, s140_60, s140_61, s140_65, s140_66, s140_69, s140_72, s140_73, s140_74, s140_76, s140_77, s140_80, s140_83, s140_84, s140_85, s140_87, s140_88, s140_91, s140_94, s140_100, s140_103, h0, h10, pc, a1, Int.natCast_add, Int.cast_ofNat_Int]
    · rw [if_neg q] at pc
      obtain ⟨A', en', c1, c2⟩ := ih (k + 1) A en (by omega) (by omega) h8 h7 hf (fun a b h1 h2 h3 h4 => hE a b h1 h2 (by
        rcases h3 with h3 | ⟨h3, h5⟩
        · exact Or.inl h3
        · right
          refine ⟨h3, ?_⟩
          by_cases e : b = k
          · subst e; subst h3; exact absurd h4 q
          · omega) h4) hd
      refine ⟨A', en', ?_, c2⟩
      rw [← c1, s140_63]
      simp (disch := omega) only [am_bv_some, am_bi_int, am_bl_long, am_br_ref, am_bc_some, am_bq_some, am_gf_c, am_rd_c, am_bh_pf, am_bh_wr, am_g_p, ob_get, ob_put, ar_get, ar_put, ob_tag, ar_tag, i_zero, i_add, i_sub, i_mul, i_lt, i_le, i_eq, i_val, if_pos, if_neg, Option.toList_some, Option.toList_none, List.cons_append, List.nil_append, beq_self_eq_true, true_or, or_true, up_at, up_ne, ↓reduceIte, Nat.reduceEqDiff, le_t, le_f, lt_t, lt_f, eq_t, eq_f, nq_t, nq_f, nl_t, nl_f, and_true, true_and, and_false, false_and, not_true_eq_false, not_false_eq_true, or_false, false_or, az_tag, al_tag, az_get, az_put, am_bh_wz, gX, gT, gW, gS, gA, gL, gM, gE, gN, gX_11, gX_1, gX_2, gT_1, gW_0, gW_1, gW_2, gW_3, gW_12, gW_13, gA_1, gL_1, gE_3, gM_0, gM_1, gM_2, gM_3, gN_0, gN_2, gN_3, gN_4, gN_5, gN_10, gN_11, gN_17, gN_18, gN_23, gN_24, gN_29, gN_35, gN_36, gN_42, am_p_p, Int.toNat_natCast, aq_tag, am_rq_c, am_bh_wq, aq_get3, aq_get4, aq_put3, Int.reduceAdd, Int.reduceSub, Int.reduceMul, Int.reduceToNat, s140_0, s140_1, s140_3, s140_4, s140_7, s140_10, s140_11, s140_12, s140_13, s140_14, s140_17, s140_18, s140_19, s140_20, s140_23, s140_24, s140_25, s140_26, s140_29, s140_30, s140_31, s140_34, s140_36, s140_37, s140_38, s140_39, s140_41, s140_44, s140_46, s140_49, s140_50, s140_53, s140_54, s140_55, s140_56, s140_57, s140_58, s140_59, s140_60, s140_61, s140_65, s140_66, s140_69, s140_72, s140_73, s140_74, s140_76, s140_77, s140_80, s140_83, s140_84, s140_85, s140_87, s140_88, s140_91, s140_94, s140_100, s140_103, h0, h10, pc, Int.natCast_add, Int.cast_ofNat_Int]
theorem m_lay_out (d c P : Nat) (B : am_H) (S : Nat → Nat → Int) (F : Int) (N : Nat → Int) (sd : Int64) (fr to fa be pa go : Nat → Int) (hR : RR S c) (hP : S 1 3 = (P : Int)) (hW : LYw B S N sd fr to fa be pa go) (hF : 0 ≤ F ∧ F < 64) : ∀ (m k : Nat) (A : am_H) (en : Nat → Int) (x3 x4 : Value), k + m = P → (∃ f, am_g A 128 = ar 6 f) → am_g A 127 = ar 36 en → (∀ i, i ≠ 127 → i ≠ 128 → am_g A i = am_g B i) → ENk S F P en (fun a _ => a < k) → (∀ p, p < k → en (7 * p) = dz 999999 (po S p)) → ¬ x3.category = 2 →
    ∃ A' en', am_run (d + 5) 140 2 [.ref 105, .int (Int32.ofInt F), .int (Int32.ofInt (k : Int)), x3, x4] [] A = some (none, A') ∧ (∃ f, am_g A' 128 = ar 6 f) ∧ am_g A' 127 = ar 36 en' ∧ (∀ i, i ≠ 127 → i ≠ 128 → am_g A' i = am_g B i) ∧ ENk S F P en' (fun _ _ => True) ∧ ∀ p, p < P → en' (7 * p) = dz 999999 (po S p) := by
  have h6 : P ≤ 6 := by have := hR.1.2.2.2.1; omega
  have w1 := hR.2.1.1
  have w2 := hR.2.1.2.1
  have w3 := hR.2.1.2.2.1
  have hc512 := hR.2.2.2.2.2.2
  have g12 := hR.1.2.2.2.2.2.2.2.2.2.2.2.1
  have g2 := hR.1.2.1
  intro m
  induction m with
  | zero =>
    intro k A en x3 x4 hk h8 h7 hf hE hd hx
    have : k = P := by omega
    subst this
    have hWA := hW.congr (A' := A) hf h8
    have h0 := hWA.1
    have h10 := hWA.2.2.1
    rw [hP] at h10
    refine ⟨A, en, ?_, h8, h7, hf, fun a b h1 h2 _ h4 => hE a b h1 h2 (by omega) h4, hd⟩
    simp (disch := omega) only [am_bv_some, am_bi_int, am_bl_long, am_br_ref, am_bc_some, am_bq_some, am_gf_c, am_rd_c, am_bh_pf, am_bh_wr, am_g_p, ob_get, ob_put, ar_get, ar_put, ob_tag, ar_tag, i_zero, i_add, i_sub, i_mul, i_lt, i_le, i_eq, i_val, if_pos, if_neg, Option.toList_some, Option.toList_none, List.cons_append, List.nil_append, beq_self_eq_true, true_or, or_true, up_at, up_ne, ↓reduceIte, Nat.reduceEqDiff, le_t, le_f, lt_t, lt_f, eq_t, eq_f, nq_t, nq_f, nl_t, nl_f, and_true, true_and, and_false, false_and, not_true_eq_false, not_false_eq_true, or_false, false_or, az_tag, al_tag, az_get, az_put, am_bh_wz, gX, gT, gW, gS, gA, gL, gM, gE, gN, gX_11, gX_1, gX_2, gT_1, gW_0, gW_1, gW_2, gW_3, gW_12, gW_13, gA_1, gL_1, gE_3, gM_0, gM_1, gM_2, gM_3, gN_0, gN_2, gN_3, gN_4, gN_5, gN_10, gN_11, gN_17, gN_18, gN_23, gN_24, gN_29, gN_35, gN_36, gN_42, am_p_p, Int.toNat_natCast, aq_tag, am_rq_c, am_bh_wq, aq_get3, aq_get4, aq_put3, Int.reduceAdd, Int.reduceSub, Int.reduceMul, Int.reduceToNat, s140_0, s140_1, s140_2, s140_3, s140_4, s140_7, s140_10, s140_11, s140_12, s140_13, s140_14, s140_17, s140_18, s140_19, s140_20, s140_23, s140_24, s140_25, s140_26, s140_29, s140_30, s140_31, s140_34, s140_36, s140_37, s140_38, s140_39, s140_41, s140_44, s140_46, s140_49, s140_50, s140_53, s140_54, s140_55, s140_56, s140_57, s140_58, s140_59, s140_60, s140_61, s140_63, s140_65, s140_66, s140_69, s140_72, s140_73, s140_74, s140_76, s140_77, s140_80, s140_83, s140_84, s140_85, s140_87, s140_88, s140_91, s140_94, s140_97, s140_100, s140_103, h0, h10]
  | succ m ih =>
    intro k A en x3 x4 hk h8 h7 hf hE hd hx
    have hWA := hW.congr (A' := A) hf h8
    obtain ⟨h0, h5, h10, hT, hS, ⟨f8, k8⟩⟩ := id hWA
    have hkP : (k : Int) < S 1 3 := by omega
    have r8 := w1 k (by omega)
    have r8' := w2 k hkP
    have r9 := w3 k (by omega)
    have r7 := g12 k hkP
    have yk := hT.2.2.2.2.2.2.2 k hkP
    obtain ⟨a, ha⟩ : ∃ a : Nat, S 8 k = (a : Int) := ⟨(S 8 k).toNat, by omega⟩
    obtain ⟨g, hg⟩ : ∃ g : Nat, S 7 k = (g : Int) := ⟨(S 7 k).toNat, by omega⟩
    have hgk : go k = (g : Int) := by omega
    obtain ⟨A1, q1, ⟨f1, q1'⟩, k1⟩ := m_wayP (d + 1) c k a g A S F N sd fr to fa be pa go f8 hR h0 h5 hT k8 hkP (by omega) (by omega)
    have ra := alm_rng hR hkP a g
    have epo : po S k = pl (S 9 k) (alm (dl S a g) (S 6 k)) := by unfold po; rw [ha, hg]; rfl
    generalize alm (dl S a g) (S 6 k) = mn at q1 ra epo
    have e7 : (7 * (k : Int)).toNat = 7 * k := by omega
    have h13 := hS.1
    have h14 : am_g A1 114 = ar 6 (S 9) := by rw [k1 _ (by omega)]; exact hS.2.1
    have h12 := hT.2.2.2.2.2.1
    have z0 : am_g A1 105 = ob 11 43 (gN N sd) := by rw [k1 _ (by omega)]; exact h0
    have z7 : am_g A1 127 = ar 36 en := by rw [k1 _ (by omega)]; exact h7
    have fin : ∀ v : Int, v = dz 999999 (po S k) → am_run (d + 5) 140 2 [.ref 105, .int (Int32.ofInt F), .int (Int32.ofInt (k : Int)), x3, x4] [] A = am_run (d + 5) 140 63 [.ref 105, .int (Int32.ofInt F), .int (Int32.ofInt (k : Int)), .int (Int32.ofInt (dz 999999 mn)), .int (Int32.ofInt ((k : Int) + 1))] [] (am_p A1 127 (ar 36 (up en (7 * k) v))) → ∃ A' en', am_run (d + 5) 140 2 [.ref 105, .int (Int32.ofInt F), .int (Int32.ofInt (k : Int)), x3, x4] [] A = some (none, A') ∧ (∃ f, am_g A' 128 = ar 6 f) ∧ am_g A' 127 = ar 36 en' ∧ (∀ i, i ≠ 127 → i ≠ 128 → am_g A' i = am_g B i) ∧ ENk S F P en' (fun _ _ => True) ∧ ∀ p, p < P → en' (7 * p) = dz 999999 (po S p) := by
      intro v hv hrun
      have hf1 : ∀ i, i ≠ 127 → i ≠ 128 → am_g (am_p A1 127 (ar 36 (up en (7 * k) v))) i = am_g A i := fun i u1 u2 => by rw [am_g_p, if_neg u1]; exact k1 i u2
      have hW1 := hWA.congr (A' := am_p A1 127 (ar 36 (up en (7 * k) v))) hf1 ⟨f1, by rw [am_g_p, if_neg (by omega)]; exact q1'⟩
      obtain ⟨A2, en2, c1, c2, c3, c4, c5, c6⟩ := m_lay_in d c P k (am_p A1 127 (ar 36 (up en (7 * k) v))) S F N sd fr to fa be pa go (Int32.ofInt (dz 999999 mn)) hR hP hW1 hF (by omega) (up en (7 * k) v) m (k + 1) (am_p A1 127 (ar 36 (up en (7 * k) v))) (up en (7 * k) v) (by omega) (by omega) ⟨f1, by rw [am_g_p, if_neg (by omega)]; exact q1'⟩ (by rw [am_g_p, if_pos rfl]) (fun _ _ _ => rfl) (fun a b h1 h2 h3 h4 => by
        rw [up_ne _ _ (by omega), up_ne _ _ (by omega)]
        exact hE a b h1 h2 (by omega) h4) (fun _ _ => rfl)
      obtain ⟨A3, en3, d1, d2⟩ := ih (k + 1) A2 en2 (.int (Int32.ofInt (dz 999999 mn))) (.int (Int32.ofInt (P : Int))) (by omega) c2 c3 (fun i u1 u2 => by rw [c4 i u1 u2, hf1 i u1 u2]; exact hf i u1 u2) (fun a b h1 h2 h3 h4 => c5 a b h1 h2 (by omega) h4) (fun p hp => by
        rw [c6 p (by omega)]
        by_cases e : p = k
        · subst e; rw [up_at]; exact hv
        · rw [up_ne _ _ (by omega)]; exact hd p (by omega)) (by show ¬ (1 = 2); omega)
      refine ⟨A3, en3, ?_, d2⟩
      rw [show ((k + 1 : Nat) : Int) = (k : Int) + 1 by omega] at c1 d1
      rw [hrun, c1, ← d1]
      simp (disch := omega) only [am_bv_some, am_bi_int, am_bl_long, am_br_ref, am_bc_some, am_bq_some, am_gf_c, am_rd_c, am_bh_pf, am_bh_wr, am_g_p, ob_get, ob_put, ar_get, ar_put, ob_tag, ar_tag, i_zero, i_add, i_sub, i_mul, i_lt, i_le, i_eq, i_val, if_pos, if_neg, Option.toList_some, Option.toList_none, List.cons_append, List.nil_append, beq_self_eq_true, true_or, or_true, up_at, up_ne, ↓reduceIte, Nat.reduceEqDiff, le_t, le_f, lt_t, lt_f, eq_t, eq_f, nq_t, nq_f, nl_t, nl_f, and_true, true_and, and_false, false_and, not_true_eq_false, not_false_eq_true, or_false, false_or, az_tag, al_tag, az_get, az_put, am_bh_wz, gX, gT, gW, gS, gA, gL, gM, gE, gN, gX_11, gX_1, gX_2, gT_1, gW_0, gW_1, gW_2, gW_3, gW_12, gW_13, gA_1, gL_1, gE_3, gM_0, gM_1, gM_2, gM_3, gN_0, gN_2, gN_3, gN_4, gN_5, gN_10, gN_11, gN_17, gN_18, gN_23, gN_24, gN_29, gN_35, gN_36, gN_42, am_p_p, Int.toNat_natCast, aq_tag, am_rq_c, am_bh_wq, aq_get3, aq_get4, aq_put3, Int.reduceAdd, Int.reduceSub, Int.reduceMul, Int.reduceToNat, s140_97, s140_100]
    rw [hP] at h10
    rcases ra with ra | ra
    · refine fin 999999 (by rw [epo, ra, pl_i2, dz_i]) ?_
      rw [ra, dz_i] at q1
      rw [ra, dz_i, s140_2]
      simp (disch := first | omega | assumption) only [am_bv_some, am_bi_int, am_bl_long, am_br_ref, am_bc_some, am_bq_some, am_gf_c, am_rd_c, am_bh_pf, am_bh_wr, am_g_p, ob_get, ob_put, ar_get, ar_put, ob_tag, ar_tag, i_zero, i_add, i_sub, i_mul, i_lt, i_le, i_eq, i_val, if_pos, if_neg, Option.toList_some, Option.toList_none, List.cons_append, List.nil_append, beq_self_eq_true, true_or, or_true, up_at, up_ne, ↓reduceIte, Nat.reduceEqDiff, le_t, le_f, lt_t, lt_f, eq_t, eq_f, nq_t, nq_f, nl_t, nl_f, and_true, true_and, and_false, false_and, not_true_eq_false, not_false_eq_true, or_false, false_or, az_tag, al_tag, az_get, az_put, am_bh_wz, gX, gT, gW, gS, gA, gL, gM, gE, gN, gX_11, gX_1, gX_2, gT_1, gW_0, gW_1, gW_2, gW_3, gW_12, gW_13, gA_1, gL_1, gE_3, gM_0, gM_1, gM_2, gM_3, gN_0, gN_2, gN_3, gN_4, gN_5, gN_10, gN_11, gN_17, gN_18, gN_23, gN_24, gN_29, gN_35, gN_36, gN_42, am_p_p, Int.toNat_natCast, aq_tag, am_rq_c, am_bh_wq, aq_get3, aq_get4, aq_put3, Int.reduceAdd, Int.reduceSub, Int.reduceMul, Int.reduceToNat, s140_0, s140_1, s140_3, s140_4, s140_7, s140_10, s140_11, s140_12, s140_13, s140_14, s140_17, s140_18, s140_19, s140_20, s140_23, s140_24, s140_25, s140_26, s140_29, s140_30, s140_31, s140_34, s140_36, s140_37, s140_38, s140_39, s140_41, s140_44, s140_46, s140_49, s140_50, s140_53, s140_54, s140_55, s140_56, s140_57, s140_58, s140_59, s140_60, s140_61, s140_65, s140_66, s140_69, s140_72, s140_73, s140_74, s140_76, s140_77, s140_80, s140_83, s140_84, s140_85, s140_87, s140_88, s140_91, s140_94, s140_97, s140_100, s140_103, h0, h10, h12, h13, ha, hgk, q1, z0, z7, e7]
    · refine fin (S 9 k + mn) (by rw [epo, pl_fin (by omega) (by omega), dz_f (by omega)]) ?_
      rw [dz_f (by omega)] at q1
      rw [dz_f (by omega), s140_2]
      simp (disch := first | omega | assumption) only [am_bv_some, am_bi_int, am_bl_long, am_br_ref, am_bc_some, am_bq_some, am_gf_c, am_rd_c, am_bh_pf, am_bh_wr, am_g_p, ob_get, ob_put, ar_get, ar_put, ob_tag, ar_tag, i_zero, i_add, i_sub, i_mul, i_lt, i_le, i_eq, i_val, if_pos, if_neg, Option.toList_some, Option.toList_none, List.cons_append, List.nil_append, beq_self_eq_true, true_or, or_true, up_at, up_ne, ↓reduceIte, Nat.reduceEqDiff, le_t, le_f, lt_t, lt_f, eq_t, eq_f, nq_t, nq_f, nl_t, nl_f, and_true, true_and, and_false, false_and, not_true_eq_false, not_false_eq_true, or_false, false_or, az_tag, al_tag, az_get, az_put, am_bh_wz, gX, gT, gW, gS, gA, gL, gM, gE, gN, gX_11, gX_1, gX_2, gT_1, gW_0, gW_1, gW_2, gW_3, gW_12, gW_13, gA_1, gL_1, gE_3, gM_0, gM_1, gM_2, gM_3, gN_0, gN_2, gN_3, gN_4, gN_5, gN_10, gN_11, gN_17, gN_18, gN_23, gN_24, gN_29, gN_35, gN_36, gN_42, am_p_p, Int.toNat_natCast, aq_tag, am_rq_c, am_bh_wq, aq_get3, aq_get4, aq_put3, Int.reduceAdd, Int.reduceSub, Int.reduceMul, Int.reduceToNat, s140_0, s140_1, s140_3, s140_4, s140_7, s140_10, s140_11, s140_12, s140_13, s140_14, s140_17, s140_18, s140_19, s140_20, s140_23, s140_24, s140_25, s140_26, s140_29, s140_30, s140_31, s140_34, s140_36, s140_37, s140_38, s140_39, s140_41, s140_44, s140_46, s140_49, s140_50, s140_53, s140_54, s140_55, s140_56, s140_57, s140_58, s140_59, s140_60, s140_61, s140_65, s140_66, s140_69, s140_72, s140_73, s140_74, s140_76, s140_77, s140_80, s140_83, s140_84, s140_85, s140_87, s140_88, s140_91, s140_94, s140_97, s140_100, s140_103, h0, h10, h12, h13, ha, hgk, q1, z0, z7, h14, e7]
def ENh (A : am_H) (S : Nat → Nat → Int) (F : Int) (P : Nat) : Prop := ∃ en, am_g A 127 = ar 36 en ∧ ENk S F P en (fun _ _ => True) ∧ ∀ p, p < P → en (7 * p) = dz 999999 (po S p)
theorem m_layEnds (d c P : Nat) (A : am_H) (S : Nat → Nat → Int) (F : Int) (N : Nat → Int) (sd : Int64) (fr to fa be pa go : Nat → Int) (hR : RR S c) (hP : S 1 3 = (P : Int)) (hW : LYw A S N sd fr to fa be pa go) (hF : 0 ≤ F ∧ F < 64) (h7 : ∃ f, am_g A 127 = ar 36 f) : ∃ A', am_call (d + 5) 140 [.ref 105, .int (Int32.ofInt F)] A = some (none, A') ∧ (∃ f, am_g A' 128 = ar 6 f) ∧ ENh A' S F P ∧ ∀ i, i ≠ 127 → i ≠ 128 → am_g A' i = am_g A i := by
  obtain ⟨en, h7⟩ := h7
  obtain ⟨A', en', r1, r2, r3, r4, r5, r6⟩ := m_lay_out d c P A S F N sd fr to fa be pa go hR hP hW hF P 0 A en .null .null (by omega) hW.2.2.2.2.2 h7 (fun _ _ _ => rfl) (fun a b h1 h2 h3 => by omega) (fun p hp => by omega) (by show ¬ (1 = 2); omega)
  refine ⟨A', ?_, r2, ⟨en', r3, r5, r6⟩, r4⟩
  rw [show ((0 : Nat) : Int) = 0 from rfl] at r1
  have h0 := hW.1
  rw [← r1]
  simp (disch := omega) only [am_bv_some, am_bi_int, am_bl_long, am_br_ref, am_bc_some, am_bq_some, am_gf_c, am_rd_c, am_bh_pf, am_bh_wr, am_g_p, ob_get, ob_put, ar_get, ar_put, ob_tag, ar_tag, i_zero, i_add, i_sub, i_mul, i_lt, i_le, i_eq, i_val, if_pos, if_neg, Option.toList_some, Option.toList_none, List.cons_append, List.nil_append, beq_self_eq_true, true_or, or_true, up_at, up_ne, ↓reduceIte, Nat.reduceEqDiff, le_t, le_f, lt_t, lt_f, eq_t, eq_f, nq_t, nq_f, nl_t, nl_f, and_true, true_and, and_false, false_and, not_true_eq_false, not_false_eq_true, or_false, false_or, az_tag, al_tag, az_get, az_put, am_bh_wz, gX, gT, gW, gS, gA, gL, gM, gE, gN, gX_11, gX_1, gX_2, gT_1, gW_0, gW_1, gW_2, gW_3, gW_12, gW_13, gA_1, gL_1, gE_3, gM_0, gM_1, gM_2, gM_3, gN_0, gN_2, gN_3, gN_4, gN_5, gN_10, gN_11, gN_17, gN_18, gN_23, gN_24, gN_29, gN_35, gN_36, gN_42, am_p_p, Int.toNat_natCast, aq_tag, am_rq_c, am_bh_wq, aq_get3, aq_get4, aq_put3, Int.reduceAdd, Int.reduceSub, Int.reduceMul, Int.reduceToNat, c140, s140_0, s140_1, s140_3, s140_4, s140_7, s140_10, s140_11, s140_12, s140_13, s140_14, s140_17, s140_18, s140_19, s140_20, s140_23, s140_24, s140_25, s140_26, s140_29, s140_30, s140_31, s140_34, s140_36, s140_37, s140_38, s140_39, s140_41, s140_44, s140_46, s140_49, s140_50, s140_53, s140_54, s140_55, s140_56, s140_57, s140_58, s140_59, s140_60, s140_61, s140_65, s140_66, s140_69, s140_72, s140_73, s140_74, s140_76, s140_77, s140_80, s140_83, s140_84, s140_85, s140_87, s140_88, s140_91, s140_94, s140_97, s140_100, s140_103, h0]
