theorem i_or2 {a b : Int} (ha : a = 0 ∨ a = 1) (hb : b = 0 ∨ b = 1) : ∃ c : Int, Int32.ofInt a ||| Int32.ofInt b = Int32.ofInt c ∧ (c = 0 ∨ c = 1) ∧ (c = 0 → a = 0 ∧ b = 0) := by
  rcases ha with rfl | rfl <;> rcases hb with rfl | rfl
  · exact ⟨0, by decide, by omega, by omega⟩
  · exact ⟨1, by decide, by omega, by omega⟩
  · exact ⟨1, by decide, by omega, by omega⟩
  · exact ⟨1, by decide, by omega, by omega⟩
theorem p_reachOver (d u v : Nat) (A : am_H) (f : Nat → Int) (m : Int) (h0 : am_g A 77 = ob 2 3 (gS 77)) (h1 : am_g A 78 = ar 6 f) (hu : u < 6) (hv : v < 6) (hm : 1 ≤ m ∧ m ≤ 1000) (r1 : 0 ≤ f u ∧ (f u ≤ 1000000 ∨ f u = 2147483647)) (r2 : 0 ≤ f v ∧ f v ≤ 2147483647) : ∃ A' b, am_call (d + 1) 17 [.ref 77, .int (Int32.ofInt (u : Int)), .int (Int32.ofInt (v : Int)), .int (Int32.ofInt m)] A = some (some (.int (Int32.ofInt b)), A') ∧ (b = 0 ∨ b = 1) ∧ (b = 0 → rl f u v m = f) ∧ ∀ i, am_g A' i = if i = 78 then ar 6 (rl f u v m) else am_g A i := by
  have pp := fun d => p_plus d A (f u) m (by omega) (by omega)
  unfold rl
  by_cases q : f u + m < f v
  · have e1 : pl (f u) m = f u + m := pl_fin (by omega) (by omega)
    rw [e1] at pp
    rw [if_pos q]
    refine ⟨am_p A 78 (ar 6 (up f v (f u + m))), 1, ?_, by omega, by omega, fun i => am_g_p _ _ _ _⟩
    simp (disch := omega) only [am_bv_some, am_bi_int, am_bl_long, am_br_ref, am_bc_some, am_bq_some, am_gf_c, am_rd_c, am_bh_pf, am_bh_wr, am_g_p, ob_get, ob_put, ar_get, ar_put, ob_tag, ar_tag, i_zero, i_add, i_sub, i_mul, i_lt, i_le, i_eq, i_val, if_pos, if_neg, Option.toList_some, Option.toList_none, List.cons_append, List.nil_append, beq_self_eq_true, true_or, or_true, up_at, up_ne, ↓reduceIte, Nat.reduceEqDiff, le_t, le_f, lt_t, lt_f, eq_t, eq_f, nq_t, nq_f, nl_t, nl_f, and_true, true_and, and_false, false_and, not_true_eq_false, not_false_eq_true, or_false, false_or, az_tag, al_tag, az_get, az_put, am_bh_wz, gX, gT, gW, gS, gA, gL, gM, gE, gN, gX_11, gX_1, gX_2, gT_1, gW_0, gW_1, gW_2, gW_3, gW_12, gW_13, gA_1, gL_1, gE_3, gM_0, gM_1, gM_2, gM_3, gN_0, gN_2, gN_3, gN_4, gN_5, gN_10, gN_11, gN_17, gN_18, gN_23, gN_24, gN_29, gN_35, gN_36, gN_42, am_p_p, Int.toNat_natCast, aq_tag, am_rq_c, am_bh_wq, aq_get3, aq_get4, aq_put3, Int.reduceAdd, Int.reduceSub, Int.reduceMul, Int.reduceToNat, c17, s17_0, s17_1, s17_4, s17_5, s17_6, s17_7, s17_10, s17_12, s17_14, s17_15, s17_18, s17_19, s17_20, s17_23, s17_24, s17_25, s17_26, s17_29, s17_30, s17_32, s17_33, s17_34, h0, h1, pp]
  · rw [if_neg q]
    refine ⟨A, 0, ?_, by omega, fun _ => rfl, fun i => ?_⟩
    · have e1 : f v ≤ pl (f u) m ∧ pl (f u) m ≤ 2147483647 := by
        unfold pl
        split <;> omega
      generalize pl (f u) m = x at pp e1
      simp (disch := omega) only [am_bv_some, am_bi_int, am_bl_long, am_br_ref, am_bc_some, am_bq_some, am_gf_c, am_rd_c, am_bh_pf, am_bh_wr, am_g_p, ob_get, ob_put, ar_get, ar_put, ob_tag, ar_tag, i_zero, i_add, i_sub, i_mul, i_lt, i_le, i_eq, i_val, if_pos, if_neg, Option.toList_some, Option.toList_none, List.cons_append, List.nil_append, beq_self_eq_true, true_or, or_true, up_at, up_ne, ↓reduceIte, Nat.reduceEqDiff, le_t, le_f, lt_t, lt_f, eq_t, eq_f, nq_t, nq_f, nl_t, nl_f, and_true, true_and, and_false, false_and, not_true_eq_false, not_false_eq_true, or_false, false_or, az_tag, al_tag, az_get, az_put, am_bh_wz, gX, gT, gW, gS, gA, gL, gM, gE, gN, gX_11, gX_1, gX_2, gT_1, gW_0, gW_1, gW_2, gW_3, gW_12, gW_13, gA_1, gL_1, gE_3, gM_0, gM_1, gM_2, gM_3, gN_0, gN_2, gN_3, gN_4, gN_5, gN_10, gN_11, gN_17, gN_18, gN_23, gN_24, gN_29, gN_35, gN_36, gN_42, am_p_p, Int.toNat_natCast, aq_tag, am_rq_c, am_bh_wq, aq_get3, aq_get4, aq_put3, Int.reduceAdd, Int.reduceSub, Int.reduceMul, Int.reduceToNat, c17, s17_0, s17_1, s17_4, s17_5, s17_6, s17_7, s17_10, s17_12, s17_14, s17_15, s17_18, s17_19, s17_20, s17_23, s17_24, s17_25, s17_26, s17_29, s17_30, s17_32, s17_33, s17_34, h0, h1, pp]
    · by_cases u1 : i = 78
      · rw [if_pos u1, u1, h1]
      · rw [if_neg u1]
/-- minutes of a glide, by a left one and a right one -/
def gw (S : Nat → Nat → Int) (l r k : Nat) : Int := gmn (S 4 k) (S 6 l) (S 6 r) (S 5 k) (S 10 l) (S 10 r)
/-- the town with these minutes in place of lengths -/
def Sg (S : Nat → Nat → Int) (l r : Nat) : Nat → Nat → Int := fun a => if a = 4 then gw S l r else S a
theorem gw_rng {S : Nat → Nat → Int} {c l r k : Nat} (hR : RR S c) (hl : (l : Int) < S 1 3) (hr : (r : Int) < S 1 3) (hk : (k : Int) < S 1 2) : 1 ≤ gw S l r k ∧ gw S l r k ≤ 90 := by
  obtain ⟨⟨g1, g2, g3, g4, g5, g6, g7, g8, g9, g10, g11, g12, g13⟩, ⟨w1, w2, w3, w4⟩, g14, g15, g16, g17, g18⟩ := id hR
  have rk := g11 k hk
  have pa := g12 l hl
  have pb := g12 r hr
  have wa := w4 l (by omega)
  have wb := w4 r (by omega)
  unfold gw gmn
  have hm : 1 ≤ 10 - (if S 6 r < S 6 l then S 6 r else S 6 l) ∧ 10 - (if S 6 r < S 6 l then S 6 r else S 6 l) ≤ 9 := by split <;> omega
  generalize 10 - (if S 6 r < S 6 l then S 6 r else S 6 l) = x at hm ⊢
  have hw : 0 ≤ (if S 5 k = 1 then S 10 l else if S 5 k = 2 then S 10 r else 0) ∧ (if S 5 k = 1 then S 10 l else if S 5 k = 2 then S 10 r else 0) ≤ 9 := by split <;> (try split) <;> omega
  generalize (if S 5 k = 1 then S 10 l else if S 5 k = 2 then S 10 r else 0) = y at hw ⊢
  have a1 := Int.mul_le_mul (show S 4 k ≤ 9 by omega) hm.2 (by omega) (by omega)
  have a2 := Int.mul_le_mul (show 1 ≤ S 4 k by omega) hm.1 (by omega) (by omega)
  omega
theorem RR.TW {S : Nat → Nat → Int} {c : Nat} (hR : RR S c) : TW S := by
  obtain ⟨⟨g1, g2, g3, g4, g5, g6, g7, g8, g9, g10, g11, g12, g13⟩, ⟨w1, w2, w3, w4⟩, g14, g15, g16, g17, g18⟩ := id hR
  exact ⟨g2, g3, fun k hk => by have := g11 k hk; omega, g13⟩
theorem Sg_TW {S : Nat → Nat → Int} {c l r : Nat} (hR : RR S c) (hl : (l : Int) < S 1 3) (hr : (r : Int) < S 1 3) : TW (Sg S l r) := by
  obtain ⟨⟨g1, g2, g3, g4, g5, g6, g7, g8, g9, g10, g11, g12, g13⟩, ⟨w1, w2, w3, w4⟩, g14, g15, g16, g17, g18⟩ := id hR
  refine ⟨g2, g3, fun k hk => ?_, g13⟩
  have h1 := g11 k hk
  have h2 := gw_rng hR hl hr hk
  show 0 ≤ S 2 k ∧ S 2 k < S 3 k ∧ S 3 k < S 1 1 ∧ 1 ≤ gw S l r k ∧ gw S l r k ≤ 1000
  omega
/-- what spread needs of the world -/
def SPw (B : am_H) (S : Nat → Nat → Int) (t : Nat) (kd fe : Int) : Prop := (t = 4 ∨ t = 13) ∧ am_g B t = ob 8 14 (gW t (S 1 1) (S 1 2) (S 1 3) (S 1 4) kd fe) ∧ am_g B (t + 1) = ar 8 (S 2) ∧ am_g B (t + 2) = ar 8 (S 3) ∧ am_g B (t + 3) = ar 8 (S 4) ∧ am_g B (t + 4) = ar 8 (S 5) ∧ am_g B (t + 6) = ar 6 (S 6) ∧ am_g B 22 = ob 6 3 (gS 22) ∧ am_g B 25 = ar 6 (S 10) ∧ am_g B 77 = ob 2 3 (gS 77)
theorem rl_bd {f : Nat → Int} {N m : Int} {u v : Nat} (h : ∀ x, x < 6 → f x ≤ N ∨ f x = 2147483647) (hN : N ≤ 2000000) (hu : u < 6) (hv : v < 6) (hm : 0 ≤ m ∧ m ≤ 1000) : ∀ x, x < 6 → rl f u v m x ≤ N + 1000 ∨ rl f u v m x = 2147483647 := by
  intro x hx
  have h1 := h u hu
  have h2 := h v hv
  have h3 := h x hx
  unfold rl
  split
  · by_cases q : x = v
    · subst q; rw [up_at]; omega
    · rw [up_ne _ _ q]; omega
  · omega
theorem p_spread_in (d t l r c : Nat) (B : am_H) (S : Nat → Nat → Int) (kd fe : Int) (fm rd : Int32) (a : Nat) (z : Nat → Int) (hR : RR S c) (hB : SPw B S t kd fe) (hl : (l : Int) < S 1 3) (hr : (r : Int) < S 1 3) (hZ : BFh S (gw S l r) a z 2147483647) : ∀ (m k : Nat) (A : am_H) (f : Nat → Int) (b N : Int) (x9 : Value), (k : Int) + m = S 1 2 → am_g A 78 = ar 6 f → (∀ i, i ≠ 78 → am_g A i = am_g B i) → BFd a z 2147483647 f → (∀ v, v < 6 → f v ≤ N ∨ f v = 2147483647) → 0 ≤ N → N + 2000 * m ≤ 1000000 → (b = 0 ∨ b = 1) →
    ∃ A' f' b' y9, am_run (d + 2) 16 62 [.ref 77, .ref t, .ref 22, .int (Int32.ofInt (l : Int)), .int (Int32.ofInt (r : Int)), .int fm, .int (Int32.ofInt b), .int rd, .int (Int32.ofInt (k : Int)), x9] [] A = am_run (d + 2) 16 139 [.ref 77, .ref t, .ref 22, .int (Int32.ofInt (l : Int)), .int (Int32.ofInt (r : Int)), .int fm, .int (Int32.ofInt b'), .int rd, .int (Int32.ofInt (S 1 2)), y9] [] A' ∧ am_g A' 78 = ar 6 f' ∧ (∀ i, i ≠ 78 → am_g A' i = am_g B i) ∧ BFd a z 2147483647 f' ∧ (∀ v, v < 6 → f' v ≤ N + 2000 * m ∨ f' v = 2147483647) ∧ (∀ v, v < 6 → f' v ≤ f v) ∧ (∀ e u v : Nat, k ≤ e → (e : Int) < S 1 2 → ed S e u v → f' v ≤ f u + gw S l r e) ∧ (b' = 0 ∨ b' = 1) ∧ (b' = 0 → b = 0 ∧ f' = f) := by
  have hR' := hR
  obtain ⟨⟨g1, g2, g3, g4, g5, g6, g7, g8, g9, g10, g11, g12, g13⟩, ⟨w1, w2, w3, w4⟩, g14, g15, g16, g17, g18⟩ := id hR
  obtain ⟨ht, b0, b1, b2, b3, b4, b6, b22, b25, b77⟩ := hB
  obtain ⟨hT, ha, z0, z1, zw, z2, z3, z4⟩ := id hZ
  intro m
  induction m with
  | zero =>
    intro k A f b N x9 hk h1 hf hd hN hN0 hN1 hb
    have hk' : S 1 2 = (k : Int) := by omega
    have t0 : am_g A t = ob 8 14 (gW t (S 1 1) (S 1 2) (S 1 3) (S 1 4) kd fe) := by rw [hf _ (by omega)]; exact b0
    refine ⟨A, f, b, x9, ?_, h1, hf, hd, fun v hv => by have := hN v hv; omega, fun v _ => Int.le_refl _, fun e u v h1 h2 => by omega, hb, fun h => ⟨h, rfl⟩⟩
    rw [s16_62]
    simp (disch := omega) only [am_bv_some, am_bi_int, am_bl_long, am_br_ref, am_bc_some, am_bq_some, am_gf_c, am_rd_c, am_bh_pf, am_bh_wr, am_g_p, ob_get, ob_put, ar_get, ar_put, ob_tag, ar_tag, i_zero, i_add, i_sub, i_mul, i_lt, i_le, i_eq, i_val, if_pos, if_neg, Option.toList_some, Option.toList_none, List.cons_append, List.nil_append, beq_self_eq_true, true_or, or_true, up_at, up_ne, ↓reduceIte, Nat.reduceEqDiff, le_t, le_f, lt_t, lt_f, eq_t, eq_f, nq_t, nq_f, nl_t, nl_f, and_true, true_and, and_false, false_and, not_true_eq_false, not_false_eq_true, or_false, false_or, az_tag, al_tag, az_get, az_put, am_bh_wz, gX, gT, gW, gS, gA, gL, gM, gE, gN, gX_11, gX_1, gX_2, gT_1, gW_0, gW_1, gW_2, gW_3, gW_12, gW_13, gA_1, gL_1, gE_3, gM_0, gM_1, gM_2, gM_3, gN_0, gN_2, gN_3, gN_4, gN_5, gN_10, gN_11, gN_17, gN_18, gN_23, gN_24, gN_29, gN_35, gN_36, gN_42, am_p_p, Int.toNat_natCast, aq_tag, am_rq_c, am_bh_wq, aq_get3, aq_get4, aq_put3, Int.reduceAdd, Int.reduceSub, Int.reduceMul, Int.reduceToNat, s16_0, s16_1, s16_5, s16_7, s16_10, s16_11, s16_14, s16_16, s16_18, s16_20, s16_23, s16_24, s16_27, s16_29, s16_30, s16_33, s16_36, s16_37, s16_39, s16_40, s16_44, s16_45, s16_48, s16_51, s16_53, s16_56, s16_57, s16_59, s16_60, s16_64, s16_65, s16_68, s16_71, s16_72, s16_73, s16_74, s16_76, s16_78, s16_81, s16_83, s16_85, s16_86, s16_87, s16_90, s16_92, s16_93, s16_94, s16_97, s16_99, s16_100, s16_102, s16_105, s16_106, s16_108, s16_110, s16_111, s16_112, s16_115, s16_117, s16_118, s16_119, s16_122, s16_124, s16_125, s16_127, s16_130, s16_131, s16_133, s16_136, s16_142, s16_145, t0, hk']
  | succ m ih =>
    intro k A f b N x9 hk h1 hf hd hN hN0 hN1 hb
    have hkl : (k : Int) < S 1 2 := by omega
    have rk := g11 k hkl
    obtain ⟨p, hp⟩ : ∃ p : Nat, S 2 k = (p : Int) := ⟨(S 2 k).toNat, by omega⟩
    obtain ⟨q, hq⟩ : ∃ q : Nat, S 3 k = (q : Int) := ⟨(S 3 k).toNat, by omega⟩
    have wr := gw_rng hR' hl hr hkl
    have t0 : am_g A t = ob 8 14 (gW t (S 1 1) (S 1 2) (S 1 3) (S 1 4) kd fe) := by rw [hf _ (by omega)]; exact b0
    have t1 : am_g A (t + 1) = ar 8 (S 2) := by rw [hf _ (by omega)]; exact b1
    have t2 : am_g A (t + 2) = ar 8 (S 3) := by rw [hf _ (by omega)]; exact b2
    have t3 : am_g A (t + 3) = ar 8 (S 4) := by rw [hf _ (by omega)]; exact b3
    have t4 : am_g A (t + 4) = ar 8 (S 5) := by rw [hf _ (by omega)]; exact b4
    have t6 : am_g A (t + 6) = ar 6 (S 6) := by rw [hf _ (by omega)]; exact b6
    have s22 : am_g A 22 = ob 6 3 (gS 22) := by rw [hf _ (by omega)]; exact b22
    have s25 : am_g A (22 + 3) = ar 6 (S 10) := by rw [hf _ (by omega)]; exact b25
    have s77 : am_g A 77 = ob 2 3 (gS 77) := by rw [hf _ (by omega)]; exact b77
    have pl' := g12 l hl
    have pr' := g12 r hr
    have pm := p_glideMinutes d 22 t l r k A _ _ _ _ _ _ (S 4) (S 5) (S 6) (S 10) t0 s22 t3 t4 t6 s25 (by omega) (by omega) (by omega) (by omega) (by omega) (by omega)
    rw [show gmn (S 4 k) (S 6 l) (S 6 r) (S 5 k) (S 10 l) (S 10 r) = gw S l r k from rfl] at pm
    have e1 := z2 k p q hkl (by unfold ed; omega)
    have e2 := z2 k q p hkl (by unfold ed; omega)
    generalize hM : gw S l r k = M at wr pm e1 e2
    have fp := hd.2 p (by omega)
    have fq := hd.2 q (by omega)
    have zp := z1 p
    have zq := z1 q
    have np := hN p (by omega)
    have nq := hN q (by omega)
    obtain ⟨A1, c1, k1, k2, k3, k4⟩ := p_reachOver d p q A f M s77 h1 (by omega) (by omega) (by omega) (by omega) (by omega)
    have d1 := rl_d (u := p) (v := q) (m := M) hd (by omega) e1
    have n1 := rl_bd (u := p) (v := q) (m := M) hN (by omega) (by omega) (by omega) (by omega)
    have L1 := rl_le f p q M
    have L2 := rl_at f p q M
    generalize rl f p q M = f1 at k3 k4 d1 n1 L1 L2
    have f1p := d1.2 p (by omega)
    have f1q := d1.2 q (by omega)
    have n1p := n1 p (by omega)
    have n1q := n1 q (by omega)
    obtain ⟨A2, c2, k5, k6, k7, k8⟩ := p_reachOver d q p A1 f1 M (by rw [k4, if_neg (by omega)]; exact s77) (by rw [k4, if_pos rfl]) (by omega) (by omega) (by omega) (by omega) (by omega)
    have d2 := rl_d (u := q) (v := p) (m := M) d1 (by omega) e2
    have n2 := rl_bd (u := q) (v := p) (m := M) n1 (by omega) (by omega) (by omega) (by omega)
    have L3 := rl_le f1 q p M
    have L4 := rl_at f1 q p M
    generalize rl f1 q p M = f2 at k7 k8 d2 n2 L3 L4
    obtain ⟨c3, o1, o2, o3⟩ := i_or2 hb k2
    obtain ⟨c4, o4, o5, o6⟩ := i_or2 o2 k6
    obtain ⟨A', f', b', y9, r1, r2, r3, r4, r5, r6, r7, r8, r9⟩ := ih (k + 1) A2 f2 c4 (N + 1000 + 1000) (.int (Int32.ofInt M)) (by omega) (by rw [k8, if_pos rfl]) (fun i hi => by rw [k8, if_neg hi, k4, if_neg hi]; exact hf i hi) d2 n2 (by omega) (by omega) o5
    have t0' : am_g A1 t = ob 8 14 (gW t (S 1 1) (S 1 2) (S 1 3) (S 1 4) kd fe) := by rw [k4, if_neg (by omega)]; exact t0
    have t1' : am_g A1 (t + 1) = ar 8 (S 2) := by rw [k4, if_neg (by omega)]; exact t1
    have t2' : am_g A1 (t + 2) = ar 8 (S 3) := by rw [k4, if_neg (by omega)]; exact t2
    refine ⟨A', f', b', y9, ?_, r2, r3, r4, fun v hv => by have := r5 v hv; omega, fun v hv => Int.le_trans (r6 v hv) (Int.le_trans (L3 v) (L1 v)), fun e u v h1 h2 h3 => ?_, r8, fun h => ?_⟩
    · rw [← r1, s16_62]
      simp (disch := omega) only [am_bv_some, am_bi_int, am_bl_long, am_br_ref, am_bc_some, am_bq_some, am_gf_c, am_rd_c, am_bh_pf, am_bh_wr, am_g_p, ob_get, ob_put, ar_get, ar_put, ob_tag, ar_tag, i_zero, i_add, i_sub, i_mul, i_lt, i_le, i_eq, i_val, if_pos, if_neg, Option.toList_some, Option.toList_none, List.cons_append, List.nil_append, beq_self_eq_true, true_or, or_true, up_at, up_ne, ↓reduceIte, Nat.reduceEqDiff, le_t, le_f, lt_t, lt_f, eq_t, eq_f, nq_t, nq_f, nl_t, nl_f, and_true, true_and, and_false, false_and, not_true_eq_false, not_false_eq_true, or_false, false_or, az_tag, al_tag, az_get, az_put, am_bh_wz, gX, gT, gW, gS, gA, gL, gM, gE, gN, gX_11, gX_1, gX_2, gT_1, gW_0, gW_1, gW_2, gW_3, gW_12, gW_13, gA_1, gL_1, gE_3, gM_0, gM_1, gM_2, gM_3, gN_0, gN_2, gN_3, gN_4, gN_5, gN_10, gN_11, gN_17, gN_18, gN_23, gN_24, gN_29, gN_35, gN_36, gN_42, am_p_p, Int.toNat_natCast, aq_tag, am_rq_c, am_bh_wq, aq_get3, aq_get4, aq_put3, Int.reduceAdd, Int.reduceSub, Int.reduceMul, Int.reduceToNat, s16_0, s16_1, s16_5, s16_7, s16_10, s16_11, s16_14, s16_16, s16_18, s16_20, s16_23, s16_24, s16_27, s16_29, s16_30, s16_33, s16_36, s16_37, s16_39, s16_40, s16_44, s16_45, s16_48, s16_51, s16_53, s16_56, s16_57, s16_59, s16_60, s16_64, s16_65, s16_68, s16_71, s16_72, s16_73, s16_74, s16_76, s16_78, s16_81, s16_83, s16_85, s16_86, s16_87, s16_90, s16_92, s16_93, s16_94, s16_97, s16_99, s16_100, s16_102, s16_105, s16_106, s16_108, s16_110, s16_111, s16_112, s16_115, s16_117, s16_118, s16_119, s16_122, s16_124, s16_125, s16_127, s16_130, s16_131, s16_133, s16_136, s16_142, s16_145, t0, t1, t2, t0', t1', t2', s77, hp, hq, pm, k1, k5, o1, o4, Int.natCast_add, Int.cast_ofNat_Int]
    · by_cases hek : e = k
      · subst hek
        have lt := ed_lt hT h2 h3
        have r6v := r6 v (by omega)
        have l1v := L1 v
        have l3v := L3 v
        have l1q := L1 q
        unfold ed at h3
        rw [hM]
        rcases (show (u = p ∧ v = q) ∨ (u = q ∧ v = p) by omega) with ⟨h4, h5⟩ | ⟨h4, h5⟩
        · subst h4; subst h5; omega
        · subst h4; subst h5; omega
      · have lt := ed_lt hT h2 h3
        have := r7 e u v (by omega) h2 h3
        have := L1 u
        have := L3 u
        omega
    · have h5 := r9 h
      have h6 := o6 h5.1
      have h7 := o3 h6.1
      refine ⟨h7.1, ?_⟩
      rw [h5.2, k7 h6.2, k3 h7.2]
theorem p_spread_out (d t l r c : Nat) (B : am_H) (S : Nat → Nat → Int) (kd fe : Int) (fm : Int32) (a : Nat) (z : Nat → Int) (hR : RR S c) (hB : SPw B S t kd fe) (hl : (l : Int) < S 1 3) (hr : (r : Int) < S 1 3) (hZ : BFh S (gw S l r) a z 2147483647) : ∀ (m k : Nat) (A : am_H) (f : Nat → Int) (b : Int) (x8 x9 : Value), (k : Int) + 1 + m = S 1 1 → am_g A 78 = ar 6 f → (∀ i, i ≠ 78 → am_g A i = am_g B i) → BFd a z 2147483647 f → (∀ v, v < 6 → f v ≤ 16000 * (k : Int) ∨ f v = 2147483647) → (b = 0 ∨ b = 1) → Stl z k f → (b = 0 → ∀ e u v : Nat, (e : Int) < S 1 2 → ed S e u v → f v ≤ f u + gw S l r e) →
    ∃ A', am_run (d + 2) 16 42 [.ref 77, .ref t, .ref 22, .int (Int32.ofInt (l : Int)), .int (Int32.ofInt (r : Int)), .int fm, .int (Int32.ofInt b), .int (Int32.ofInt ((k : Int) + 1)), x8, x9] [] A = some (none, A') ∧ am_g A' 78 = ar 6 z ∧ (∀ i, i ≠ 78 → am_g A' i = am_g B i) := by
  have hR' := hR
  have hB' := hB
  obtain ⟨⟨g1, g2, g3, g4, g5, g6, g7, g8, g9, g10, g11, g12, g13⟩, ⟨w1, w2, w3, w4⟩, g14, g15, g16, g17, g18⟩ := id hR
  obtain ⟨ht, b0, b1, b2, b3, b4, b6, b22, b25, b77⟩ := hB
  intro m
  induction m with
  | zero =>
    intro k A f b x8 x9 hk h1 hf hd hN hb hs hfix
    have t0 : am_g A t = ob 8 14 (gW t (S 1 1) (S 1 2) (S 1 3) (S 1 4) kd fe) := by rw [hf _ (by omega)]; exact b0
    refine ⟨A, ?_, by rw [h1]; exact ar_ext (Stl_end hZ hd hs (by omega)), hf⟩
    simp (disch := omega) only [am_bv_some, am_bi_int, am_bl_long, am_br_ref, am_bc_some, am_bq_some, am_gf_c, am_rd_c, am_bh_pf, am_bh_wr, am_g_p, ob_get, ob_put, ar_get, ar_put, ob_tag, ar_tag, i_zero, i_add, i_sub, i_mul, i_lt, i_le, i_eq, i_val, if_pos, if_neg, Option.toList_some, Option.toList_none, List.cons_append, List.nil_append, beq_self_eq_true, true_or, or_true, up_at, up_ne, ↓reduceIte, Nat.reduceEqDiff, le_t, le_f, lt_t, lt_f, eq_t, eq_f, nq_t, nq_f, nl_t, nl_f, and_true, true_and, and_false, false_and, not_true_eq_false, not_false_eq_true, or_false, false_or, az_tag, al_tag, az_get, az_put, am_bh_wz, gX, gT, gW, gS, gA, gL, gM, gE, gN, gX_11, gX_1, gX_2, gT_1, gW_0, gW_1, gW_2, gW_3, gW_12, gW_13, gA_1, gL_1, gE_3, gM_0, gM_1, gM_2, gM_3, gN_0, gN_2, gN_3, gN_4, gN_5, gN_10, gN_11, gN_17, gN_18, gN_23, gN_24, gN_29, gN_35, gN_36, gN_42, am_p_p, Int.toNat_natCast, aq_tag, am_rq_c, am_bh_wq, aq_get3, aq_get4, aq_put3, Int.reduceAdd, Int.reduceSub, Int.reduceMul, Int.reduceToNat, s16_0, s16_1, s16_3, s16_5, s16_7, s16_10, s16_11, s16_14, s16_16, s16_18, s16_20, s16_23, s16_24, s16_27, s16_29, s16_30, s16_33, s16_36, s16_37, s16_39, s16_40, s16_42, s16_44, s16_45, s16_48, s16_51, s16_53, s16_56, s16_57, s16_59, s16_60, s16_62, s16_64, s16_65, s16_68, s16_71, s16_72, s16_73, s16_74, s16_76, s16_78, s16_81, s16_83, s16_85, s16_86, s16_87, s16_90, s16_92, s16_93, s16_94, s16_97, s16_99, s16_100, s16_102, s16_105, s16_106, s16_108, s16_110, s16_111, s16_112, s16_115, s16_117, s16_118, s16_119, s16_122, s16_124, s16_125, s16_127, s16_130, s16_131, s16_133, s16_136, s16_139, s16_142, s16_145, t0]
  | succ m ih =>
    intro k A f b x8 x9 hk h1 hf hd hN hb hs hfix
    have t0 : am_g A t = ob 8 14 (gW t (S 1 1) (S 1 2) (S 1 3) (S 1 4) kd fe) := by rw [hf _ (by omega)]; exact b0
    by_cases q : b = 0
    · refine ⟨A, ?_, by rw [h1]; exact ar_ext (Stl_end hZ hd (Stl_fix hZ hd (hfix q) 5) (by omega)), hf⟩
      subst q
      simp (disch := omega) only [am_bv_some, am_bi_int, am_bl_long, am_br_ref, am_bc_some, am_bq_some, am_gf_c, am_rd_c, am_bh_pf, am_bh_wr, am_g_p, ob_get, ob_put, ar_get, ar_put, ob_tag, ar_tag, i_zero, i_add, i_sub, i_mul, i_lt, i_le, i_eq, i_val, if_pos, if_neg, Option.toList_some, Option.toList_none, List.cons_append, List.nil_append, beq_self_eq_true, true_or, or_true, up_at, up_ne, ↓reduceIte, Nat.reduceEqDiff, le_t, le_f, lt_t, lt_f, eq_t, eq_f, nq_t, nq_f, nl_t, nl_f, and_true, true_and, and_false, false_and, not_true_eq_false, not_false_eq_true, or_false, false_or, az_tag, al_tag, az_get, az_put, am_bh_wz, gX, gT, gW, gS, gA, gL, gM, gE, gN, gX_11, gX_1, gX_2, gT_1, gW_0, gW_1, gW_2, gW_3, gW_12, gW_13, gA_1, gL_1, gE_3, gM_0, gM_1, gM_2, gM_3, gN_0, gN_2, gN_3, gN_4, gN_5, gN_10, gN_11, gN_17, gN_18, gN_23, gN_24, gN_29, gN_35, gN_36, gN_42, am_p_p, Int.toNat_natCast, aq_tag, am_rq_c, am_bh_wq, aq_get3, aq_get4, aq_put3, Int.reduceAdd, Int.reduceSub, Int.reduceMul, Int.reduceToNat, s16_0, s16_1, s16_3, s16_5, s16_7, s16_10, s16_11, s16_14, s16_16, s16_18, s16_20, s16_23, s16_24, s16_27, s16_29, s16_30, s16_33, s16_36, s16_37, s16_39, s16_40, s16_42, s16_44, s16_45, s16_48, s16_51, s16_53, s16_56, s16_57, s16_59, s16_60, s16_62, s16_64, s16_65, s16_68, s16_71, s16_72, s16_73, s16_74, s16_76, s16_78, s16_81, s16_83, s16_85, s16_86, s16_87, s16_90, s16_92, s16_93, s16_94, s16_97, s16_99, s16_100, s16_102, s16_105, s16_106, s16_108, s16_110, s16_111, s16_112, s16_115, s16_117, s16_118, s16_119, s16_122, s16_124, s16_125, s16_127, s16_130, s16_131, s16_133, s16_136, s16_139, s16_142, s16_145, t0]
    · have hb1 : b = 1 := by omega
      subst hb1
      obtain ⟨K, hK⟩ : ∃ K : Nat, S 1 2 = (K : Int) := ⟨(S 1 2).toNat, by omega⟩
      obtain ⟨A', f', b', y9, r1, r2, r3, r4, r5, r6, r7, r8, r9⟩ := p_spread_in d t l r c B S kd fe fm (Int32.ofInt ((k : Int) + 1)) a z hR' hB' hl hr hZ K 0 A f 0 (16000 * (k : Int)) x9 (by omega) h1 hf hd hN (by omega) (by omega) (by omega)
      have hC : ∀ e u v : Nat, (e : Int) < S 1 2 → ed S e u v → f' v ≤ f u + gw S l r e := fun e u v h1 h2 => r7 e u v (by omega) h1 h2
      obtain ⟨A2, i1, i2, i3⟩ := ih (k + 1) A' f' b' (.int (Int32.ofInt (S 1 2))) y9 (by omega) r2 r3 r4 (fun v hv => by have := r5 v hv; omega) r8 (Stl_s hZ hd r6 hC hs) (fun h e u v h1 h2 => by
        have h3 := (r9 h).2
        have := hC e u v h1 h2
        rw [h3] at this ⊢
        exact this)
      rw [show ((0 : Nat) : Int) = 0 from rfl] at r1
      refine ⟨A2, ?_, i2, i3⟩
      rw [← i1, s16_42]
      simp (disch := omega) only [am_bv_some, am_bi_int, am_bl_long, am_br_ref, am_bc_some, am_bq_some, am_gf_c, am_rd_c, am_bh_pf, am_bh_wr, am_g_p, ob_get, ob_put, ar_get, ar_put, ob_tag, ar_tag, i_zero, i_add, i_sub, i_mul, i_lt, i_le, i_eq, i_val, if_pos, if_neg, Option.toList_some, Option.toList_none, List.cons_append, List.nil_append, beq_self_eq_true, true_or, or_true, up_at, up_ne, ↓reduceIte, Nat.reduceEqDiff, le_t, le_f, lt_t, lt_f, eq_t, eq_f, nq_t, nq_f, nl_t, nl_f, and_true, true_and, and_false, false_and, not_true_eq_false, not_false_eq_true, or_false, false_or, az_tag, al_tag, az_get, az_put, am_bh_wz, gX, gT, gW, gS, gA, gL, gM, gE, gN, gX_11, gX_1, gX_2, gT_1, gW_0, gW_1, gW_2, gW_3, gW_12, gW_13, gA_1, gL_1, gE_3, gM_0, gM_1, gM_2, gM_3, gN_0, gN_2, gN_3, gN_4, gN_5, gN_10, gN_11, gN_17, gN_18, gN_23, gN_24, gN_29, gN_35, gN_36, gN_42, am_p_p, Int.toNat_natCast, aq_tag, am_rq_c, am_bh_wq, aq_get3, aq_get4, aq_put3, Int.reduceAdd, Int.reduceSub, Int.reduceMul, Int.reduceToNat, s16_0, s16_1, s16_5, s16_7, s16_10, s16_11, s16_14, s16_16, s16_18, s16_20, s16_23, s16_24, s16_27, s16_29, s16_30, s16_33, s16_36, s16_37, s16_39, s16_40, s16_44, s16_45, s16_48, s16_51, s16_53, s16_56, s16_57, s16_59, s16_60, s16_64, s16_65, s16_68, s16_71, s16_72, s16_73, s16_74, s16_76, s16_78, s16_81, s16_83, s16_85, s16_86, s16_87, s16_90, s16_92, s16_93, s16_94, s16_97, s16_99, s16_100, s16_102, s16_105, s16_106, s16_108, s16_110, s16_111, s16_112, s16_115, s16_117, s16_118, s16_119, s16_122, s16_124, s16_125, s16_127, s16_130, s16_131, s16_133, s16_136, s16_139, s16_142, s16_145, t0]
      rw [r1]
      simp (disch := omega) only [am_bv_some, am_bi_int, am_bl_long, am_br_ref, am_bc_some, am_bq_some, am_gf_c, am_rd_c, am_bh_pf, am_bh_wr, am_g_p, ob_get, ob_put, ar_get, ar_put, ob_tag, ar_tag, i_zero, i_add, i_sub, i_mul, i_lt, i_le, i_eq, i_val, if_pos, if_neg, Option.toList_some, Option.toList_none, List.cons_append, List.nil_append, beq_self_eq_true, true_or, or_true, up_at, up_ne, ↓reduceIte, Nat.reduceEqDiff, le_t, le_f, lt_t, lt_f, eq_t, eq_f, nq_t, nq_f, nl_t, nl_f, and_true, true_and, and_false, false_and, not_true_eq_false, not_false_eq_true, or_false, false_or, az_tag, al_tag, az_get, az_put, am_bh_wz, gX, gT, gW, gS, gA, gL, gM, gE, gN, gX_11, gX_1, gX_2, gT_1, gW_0, gW_1, gW_2, gW_3, gW_12, gW_13, gA_1, gL_1, gE_3, gM_0, gM_1, gM_2, gM_3, gN_0, gN_2, gN_3, gN_4, gN_5, gN_10, gN_11, gN_17, gN_18, gN_23, gN_24, gN_29, gN_35, gN_36, gN_42, am_p_p, Int.toNat_natCast, aq_tag, am_rq_c, am_bh_wq, aq_get3, aq_get4, aq_put3, Int.reduceAdd, Int.reduceSub, Int.reduceMul, Int.reduceToNat, s16_139, s16_142, Int.natCast_add, Int.cast_ofNat_Int]
theorem p_spread_init (d t : Nat) (B : am_H) (x3 x4 : Int32) (a : Nat) (ha : a < 6) (b77 : am_g B 77 = ob 2 3 (gS 77)) : ∀ (m k : Nat) (A : am_H) (f : Nat → Int), k + m = 6 → am_g A 78 = ar 6 f → (∀ i, i ≠ 78 → am_g A i = am_g B i) → (∀ v, v < k → f v = if v = a then 0 else 2147483647) →
    ∃ A', am_run d 16 3 [.ref 77, .ref t, .ref 22, .int x3, .int x4, .int (Int32.ofInt (a : Int)), .int (Int32.ofInt (k : Int)), .null, .null, .null] [] A = am_run d 16 36 [.ref 77, .ref t, .ref 22, .int x3, .int x4, .int (Int32.ofInt (a : Int)), .int (Int32.ofInt 6), .null, .null, .null] [] A' ∧ am_g A' 78 = ar 6 (fun v => if v = a then 0 else 2147483647) ∧ (∀ i, i ≠ 78 → am_g A' i = am_g B i) := by
  intro m
  induction m with
  | zero =>
    intro k A f hk h1 hf hd
    have : k = 6 := by omega
    subst this
    refine ⟨A, ?_, by rw [h1]; exact ar_ext hd, hf⟩
    rw [s16_3]
    simp (disch := omega) only [am_bv_some, am_bi_int, am_bl_long, am_br_ref, am_bc_some, am_bq_some, am_gf_c, am_rd_c, am_bh_pf, am_bh_wr, am_g_p, ob_get, ob_put, ar_get, ar_put, ob_tag, ar_tag, i_zero, i_add, i_sub, i_mul, i_lt, i_le, i_eq, i_val, if_pos, if_neg, Option.toList_some, Option.toList_none, List.cons_append, List.nil_append, beq_self_eq_true, true_or, or_true, up_at, up_ne, ↓reduceIte, Nat.reduceEqDiff, le_t, le_f, lt_t, lt_f, eq_t, eq_f, nq_t, nq_f, nl_t, nl_f, and_true, true_and, and_false, false_and, not_true_eq_false, not_false_eq_true, or_false, false_or, az_tag, al_tag, az_get, az_put, am_bh_wz, gX, gT, gW, gS, gA, gL, gM, gE, gN, gX_11, gX_1, gX_2, gT_1, gW_0, gW_1, gW_2, gW_3, gW_12, gW_13, gA_1, gL_1, gE_3, gM_0, gM_1, gM_2, gM_3, gN_0, gN_2, gN_3, gN_4, gN_5, gN_10, gN_11, gN_17, gN_18, gN_23, gN_24, gN_29, gN_35, gN_36, gN_42, am_p_p, Int.toNat_natCast, aq_tag, am_rq_c, am_bh_wq, aq_get3, aq_get4, aq_put3, Int.reduceAdd, Int.reduceSub, Int.reduceMul, Int.reduceToNat, s16_0, s16_1, s16_5, s16_7, s16_10, s16_11, s16_14, s16_16, s16_18, s16_20, s16_23, s16_24, s16_27, s16_29, s16_30, s16_33, s16_37, s16_39, s16_40, s16_44, s16_45, s16_48, s16_51, s16_53, s16_56, s16_57, s16_59, s16_60, s16_64, s16_65, s16_68, s16_71, s16_72, s16_73, s16_74, s16_76, s16_78, s16_81, s16_83, s16_85, s16_86, s16_87, s16_90, s16_92, s16_93, s16_94, s16_97, s16_99, s16_100, s16_102, s16_105, s16_106, s16_108, s16_110, s16_111, s16_112, s16_115, s16_117, s16_118, s16_119, s16_122, s16_124, s16_125, s16_127, s16_130, s16_131, s16_133, s16_136, s16_139, s16_142, s16_145, Int.cast_ofNat_Int]
  | succ m ih =>
    intro k A f hk h1 hf hd
    have s77 : am_g A 77 = ob 2 3 (gS 77) := by rw [hf _ (by omega)]; exact b77
    obtain ⟨A', r1, r2, r3⟩ := ih (k + 1) (am_p A 78 (ar 6 (up f k (if k = a then 0 else 2147483647)))) (up f k (if k = a then 0 else 2147483647)) (by omega) (by simp (disch := omega) only [am_bv_some, am_bi_int, am_bl_long, am_br_ref, am_bc_some, am_bq_some, am_gf_c, am_rd_c, am_bh_pf, am_bh_wr, am_g_p, ob_get, ob_put, ar_get, ar_put, ob_tag, ar_tag, i_zero, i_add, i_sub, i_mul, i_lt, i_le, i_eq, i_val, if_pos, if_neg, Option.toList_some, Option.toList_none, List.cons_append, List.nil_append, beq_self_eq_true, true_or, or_true, up_at, up_ne, ↓reduceIte, Nat.reduceEqDiff, le_t, le_f, lt_t, lt_f, eq_t, eq_f, nq_t, nq_f, nl_t, nl_f, and_true, true_and, and_false, false_and, not_true_eq_false, not_false_eq_true, or_false, false_or, az_tag, al_tag, az_get, az_put, am_bh_wz, gX, gT, gW, gS, gA, gL, gM, gE, gN, gX_11, gX_1, gX_2, gT_1, gW_0, gW_1, gW_2, gW_3, gW_12, gW_13, gA_1, gL_1, gE_3, gM_0, gM_1, gM_2, gM_3, gN_0, gN_2, gN_3, gN_4, gN_5, gN_10, gN_11, gN_17, gN_18, gN_23, gN_24, gN_29, gN_35, gN_36, gN_42, am_p_p, Int.toNat_natCast, aq_tag, am_rq_c, am_bh_wq, aq_get3, aq_get4, aq_put3, Int.reduceAdd, Int.reduceSub, Int.reduceMul, Int.reduceToNat, ]) (fun i hi => by rw [am_g_p, if_neg hi]; exact hf i hi) (fun v hv => by
      by_cases q : v = k
      · subst q; rw [up_at]
      · rw [up_ne _ _ q]; exact hd v (by omega))
    refine ⟨A', ?_, r2, r3⟩
    rw [← r1, s16_3]
    by_cases q : k = a
    · subst q
      rw [if_pos rfl]
      simp (disch := omega) only [am_bv_some, am_bi_int, am_bl_long, am_br_ref, am_bc_some, am_bq_some, am_gf_c, am_rd_c, am_bh_pf, am_bh_wr, am_g_p, ob_get, ob_put, ar_get, ar_put, ob_tag, ar_tag, i_zero, i_add, i_sub, i_mul, i_lt, i_le, i_eq, i_val, if_pos, if_neg, Option.toList_some, Option.toList_none, List.cons_append, List.nil_append, beq_self_eq_true, true_or, or_true, up_at, up_ne, ↓reduceIte, Nat.reduceEqDiff, le_t, le_f, lt_t, lt_f, eq_t, eq_f, nq_t, nq_f, nl_t, nl_f, and_true, true_and, and_false, false_and, not_true_eq_false, not_false_eq_true, or_false, false_or, az_tag, al_tag, az_get, az_put, am_bh_wz, gX, gT, gW, gS, gA, gL, gM, gE, gN, gX_11, gX_1, gX_2, gT_1, gW_0, gW_1, gW_2, gW_3, gW_12, gW_13, gA_1, gL_1, gE_3, gM_0, gM_1, gM_2, gM_3, gN_0, gN_2, gN_3, gN_4, gN_5, gN_10, gN_11, gN_17, gN_18, gN_23, gN_24, gN_29, gN_35, gN_36, gN_42, am_p_p, Int.toNat_natCast, aq_tag, am_rq_c, am_bh_wq, aq_get3, aq_get4, aq_put3, Int.reduceAdd, Int.reduceSub, Int.reduceMul, Int.reduceToNat, s16_0, s16_1, s16_5, s16_7, s16_10, s16_11, s16_14, s16_16, s16_18, s16_20, s16_23, s16_24, s16_27, s16_29, s16_30, s16_33, s16_37, s16_39, s16_40, s16_44, s16_45, s16_48, s16_51, s16_53, s16_56, s16_57, s16_59, s16_60, s16_64, s16_65, s16_68, s16_71, s16_72, s16_73, s16_74, s16_76, s16_78, s16_81, s16_83, s16_85, s16_86, s16_87, s16_90, s16_92, s16_93, s16_94, s16_97, s16_99, s16_100, s16_102, s16_105, s16_106, s16_108, s16_110, s16_111, s16_112, s16_115, s16_117, s16_118, s16_119, s16_122, s16_124, s16_125, s16_127, s16_130, s16_131, s16_133, s16_136, s16_139, s16_142, s16_145, s77, h1, Int.natCast_add, Int.cast_ofNat_Int]
    · rw [if_neg q]
      simp (disch := omega) only [am_bv_some, am_bi_int, am_bl_long, am_br_ref, am_bc_some, am_bq_some, am_gf_c, am_rd_c, am_bh_pf, am_bh_wr, am_g_p, ob_get, ob_put, ar_get, ar_put, ob_tag, ar_tag, i_zero, i_add, i_sub, i_mul, i_lt, i_le, i_eq, i_val, if_pos, if_neg, Option.toList_some, Option.toList_none, List.cons_append, List.nil_append, beq_self_eq_true, true_or, or_true, up_at, up_ne, ↓reduceIte, Nat.reduceEqDiff, le_t, le_f, lt_t, lt_f, eq_t, eq_f, nq_t, nq_f, nl_t, nl_f, and_true, true_and, and_false, false_and, not_true_eq_false, not_false_eq_true, or_false, false_or, az_tag, al_tag, az_get, az_put, am_bh_wz, gX, gT, gW, gS, gA, gL, gM, gE, gN, gX_11, gX_1, gX_2, gT_1, gW_0, gW_1, gW_2, gW_3, gW_12, gW_13, gA_1, gL_1, gE_3, gM_0, gM_1, gM_2, gM_3, gN_0, gN_2, gN_3, gN_4, gN_5, gN_10, gN_11, gN_17, gN_18, gN_23, gN_24, gN_29, gN_35, gN_36, gN_42, am_p_p, Int.toNat_natCast, aq_tag, am_rq_c, am_bh_wq, aq_get3, aq_get4, aq_put3, Int.reduceAdd, Int.reduceSub, Int.reduceMul, Int.reduceToNat, s16_0, s16_1, s16_5, s16_7, s16_10, s16_11, s16_14, s16_16, s16_18, s16_20, s16_23, s16_24, s16_27, s16_29, s16_30, s16_33, s16_37, s16_39, s16_40, s16_44, s16_45, s16_48, s16_51, s16_53, s16_56, s16_57, s16_59, s16_60, s16_64, s16_65, s16_68, s16_71, s16_72, s16_73, s16_74, s16_76, s16_78, s16_81, s16_83, s16_85, s16_86, s16_87, s16_90, s16_92, s16_93, s16_94, s16_97, s16_99, s16_100, s16_102, s16_105, s16_106, s16_108, s16_110, s16_111, s16_112, s16_115, s16_117, s16_118, s16_119, s16_122, s16_124, s16_125, s16_127, s16_130, s16_131, s16_133, s16_136, s16_139, s16_142, s16_145, s77, h1, Int.natCast_add, Int.cast_ofNat_Int]
theorem p_spread (d t l r c : Nat) (A : am_H) (S : Nat → Nat → Int) (kd fe : Int) (a : Nat) (f : Nat → Int) (hR : RR S c) (hB : SPw A S t kd fe) (h78 : am_g A 78 = ar 6 f) (hl : (l : Int) < S 1 3) (hr : (r : Int) < S 1 3) (ha : (a : Int) < S 1 1) : ∃ A', am_call (d + 2) 16 [.ref 77, .ref t, .ref 22, .int (Int32.ofInt (l : Int)), .int (Int32.ofInt (r : Int)), .int (Int32.ofInt (a : Int))] A = some (none, A') ∧ am_g A' 78 = ar 6 (dl (Sg S l r) a) ∧ (∀ i, i ≠ 78 → am_g A' i = am_g A i) := by
  have hT := Sg_TW hR hl hr
  have hZ0 := dl_BFh hT (a := a) ha (Z := 2147483647) (by omega)
  have hzz : (fun v => dz 2147483647 (dl (Sg S l r) a v)) = dl (Sg S l r) a := by
    funext v
    unfold dz
    split <;> omega
  rw [hzz] at hZ0
  have hZ : BFh S (gw S l r) a (dl (Sg S l r) a) 2147483647 := by
    obtain ⟨-, y1, y2, y3, y4, y5, y6, y7⟩ := hZ0
    exact ⟨hR.TW, y1, y2, y3, y4, y5, y6, y7⟩
  have hn := hT.1
  have hn' : 2 ≤ S 1 1 ∧ S 1 1 ≤ 6 := hn
  obtain ⟨A1, r1, r2, r3⟩ := p_spread_init (d + 2) t A (Int32.ofInt (l : Int)) (Int32.ofInt (r : Int)) a (by omega) hB.2.2.2.2.2.2.2.2.2 6 0 A f (by omega) h78 (fun i _ => rfl) (fun v hv => by omega)
  have hd : BFd a (dl (Sg S l r) a) 2147483647 (fun v => if v = a then 0 else 2147483647) := by
    refine ⟨by show (if a = a then (0 : Int) else 2147483647) ≤ 0; rw [if_pos rfl]; omega, fun v hv => ?_⟩
    show dl (Sg S l r) a v ≤ (if v = a then 0 else 2147483647) ∧ (if v = a then (0 : Int) else 2147483647) ≤ 2147483647
    have y := hZ.2.2.2.1 v
    split
    next q => subst q; have := hZ.2.2.1; omega
    next => omega
  obtain ⟨A2, q1, q2, q3⟩ := p_spread_out d t l r c A S kd fe (Int32.ofInt (a : Int)) a (dl (Sg S l r) a) hR hB hl hr hZ ((S 1 1).toNat - 1) 0 A1 (fun v => if v = a then 0 else 2147483647) 1 .null .null (by omega) r2 r3 hd (fun v hv => by
    show (if v = a then (0 : Int) else 2147483647) ≤ _ ∨ (if v = a then (0 : Int) else 2147483647) = _
    split <;> omega) (by omega) (Stl_0 hZ hd) (fun h => by omega)
  refine ⟨A2, ?_, q2, q3⟩
  rw [show ((0 : Nat) : Int) = 0 from rfl] at r1 q1
  rw [← q1]
  have h77 := hB.2.2.2.2.2.2.2.2.2
  simp (disch := omega) only [am_bv_some, am_bi_int, am_bl_long, am_br_ref, am_bc_some, am_bq_some, am_gf_c, am_rd_c, am_bh_pf, am_bh_wr, am_g_p, ob_get, ob_put, ar_get, ar_put, ob_tag, ar_tag, i_zero, i_add, i_sub, i_mul, i_lt, i_le, i_eq, i_val, if_pos, if_neg, Option.toList_some, Option.toList_none, List.cons_append, List.nil_append, beq_self_eq_true, true_or, or_true, up_at, up_ne, ↓reduceIte, Nat.reduceEqDiff, le_t, le_f, lt_t, lt_f, eq_t, eq_f, nq_t, nq_f, nl_t, nl_f, and_true, true_and, and_false, false_and, not_true_eq_false, not_false_eq_true, or_false, false_or, az_tag, al_tag, az_get, az_put, am_bh_wz, gX, gT, gW, gS, gA, gL, gM, gE, gN, gX_11, gX_1, gX_2, gT_1, gW_0, gW_1, gW_2, gW_3, gW_12, gW_13, gA_1, gL_1, gE_3, gM_0, gM_1, gM_2, gM_3, gN_0, gN_2, gN_3, gN_4, gN_5, gN_10, gN_11, gN_17, gN_18, gN_23, gN_24, gN_29, gN_35, gN_36, gN_42, am_p_p, Int.toNat_natCast, aq_tag, am_rq_c, am_bh_wq, aq_get3, aq_get4, aq_put3, Int.reduceAdd, Int.reduceSub, Int.reduceMul, Int.reduceToNat, c16, s16_0, s16_1, s16_5, s16_7, s16_10, s16_11, s16_14, s16_16, s16_18, s16_20, s16_23, s16_24, s16_27, s16_29, s16_30, s16_33, s16_37, s16_39, s16_40, s16_44, s16_45, s16_48, s16_51, s16_53, s16_56, s16_57, s16_59, s16_60, s16_64, s16_65, s16_68, s16_71, s16_72, s16_73, s16_74, s16_76, s16_78, s16_81, s16_83, s16_85, s16_86, s16_87, s16_90, s16_92, s16_93, s16_94, s16_97, s16_99, s16_100, s16_102, s16_105, s16_106, s16_108, s16_110, s16_111, s16_112, s16_115, s16_117, s16_118, s16_119, s16_122, s16_124, s16_125, s16_127, s16_130, s16_131, s16_133, s16_136, s16_139, s16_142, s16_145, h77]
  rw [r1]
  simp (disch := omega) only [am_bv_some, am_bi_int, am_bl_long, am_br_ref, am_bc_some, am_bq_some, am_gf_c, am_rd_c, am_bh_pf, am_bh_wr, am_g_p, ob_get, ob_put, ar_get, ar_put, ob_tag, ar_tag, i_zero, i_add, i_sub, i_mul, i_lt, i_le, i_eq, i_val, if_pos, if_neg, Option.toList_some, Option.toList_none, List.cons_append, List.nil_append, beq_self_eq_true, true_or, or_true, up_at, up_ne, ↓reduceIte, Nat.reduceEqDiff, le_t, le_f, lt_t, lt_f, eq_t, eq_f, nq_t, nq_f, nl_t, nl_f, and_true, true_and, and_false, false_and, not_true_eq_false, not_false_eq_true, or_false, false_or, az_tag, al_tag, az_get, az_put, am_bh_wz, gX, gT, gW, gS, gA, gL, gM, gE, gN, gX_11, gX_1, gX_2, gT_1, gW_0, gW_1, gW_2, gW_3, gW_12, gW_13, gA_1, gL_1, gE_3, gM_0, gM_1, gM_2, gM_3, gN_0, gN_2, gN_3, gN_4, gN_5, gN_10, gN_11, gN_17, gN_18, gN_23, gN_24, gN_29, gN_35, gN_36, gN_42, am_p_p, Int.toNat_natCast, aq_tag, am_rq_c, am_bh_wq, aq_get3, aq_get4, aq_put3, Int.reduceAdd, Int.reduceSub, Int.reduceMul, Int.reduceToNat, s16_0, s16_1, s16_5, s16_7, s16_10, s16_11, s16_14, s16_16, s16_18, s16_20, s16_23, s16_24, s16_27, s16_29, s16_30, s16_33, s16_36, s16_37, s16_39, s16_40, s16_44, s16_45, s16_48, s16_51, s16_53, s16_56, s16_57, s16_59, s16_60, s16_64, s16_65, s16_68, s16_71, s16_72, s16_73, s16_74, s16_76, s16_78, s16_81, s16_83, s16_85, s16_86, s16_87, s16_90, s16_92, s16_93, s16_94, s16_97, s16_99, s16_100, s16_102, s16_105, s16_106, s16_108, s16_110, s16_111, s16_112, s16_115, s16_117, s16_118, s16_119, s16_122, s16_124, s16_125, s16_127, s16_130, s16_131, s16_133, s16_136, s16_139, s16_142, s16_145]
