theorem l_add (a b : Int) : Int64.ofInt a + Int64.ofInt b = Int64.ofInt (a + b) := (Int64.ofInt_add a b).symm
theorem l_sub (a b : Int) : Int64.ofInt a - Int64.ofInt b = Int64.ofInt (a - b) := (Int64.ofInt_sub a b).symm
theorem l_mul (a b : Int) : Int64.ofInt a * Int64.ofInt b = Int64.ofInt (a * b) := (Int64.ofInt_mul a b).symm
theorem l_nz {b : Int} (h3 : 0 < b) (h4 : b ≤ 9223372036854775807) : ¬ Int64.ofInt b = 0 := by
  have e : (0 : Int64) = Int64.ofInt 0 := rfl
  rw [e, l_eq (by omega) h4 (by omega) (by omega)]
  omega
theorem l_div {a b : Int} (h1 : 0 ≤ a) (h2 : a ≤ 9223372036854775807) (h3 : 0 < b) (h4 : b ≤ 9223372036854775807) : Int64.ofInt a / Int64.ofInt b = Int64.ofInt (a / b) := by
  apply Int64.toInt_inj.mp
  rw [Int64.toInt_div, l_val (by omega) h2, l_val (by omega) h4, Int.tdiv_eq_ediv_of_nonneg h1, Int64.toInt_ofInt]
theorem l_rem {a b : Int} (h1 : 0 ≤ a) (h2 : a ≤ 9223372036854775807) (h3 : 0 < b) (h4 : b ≤ 9223372036854775807) : Int64.ofInt a - Int64.ofInt a / Int64.ofInt b * Int64.ofInt b = Int64.ofInt (a % b) := by
  rw [l_div h1 h2 h3 h4, l_mul, l_sub, Int.emod_def, Int.mul_comm]
theorem up_mapl (f : Nat → Int64) (k : Nat) (v : Int64) : up (fun j => Value.long (f j)) k (.long v) = fun j => Value.long (up f k v j) := by
  funext j
  unfold up
  split <;> rfl
theorem al_ext {n : Nat} {f g : Nat → Int64} (h : ∀ j, j < n → f j = g j) : al n f = al n g := by
  unfold al
  congr 1
  apply List.map_congr_left
  intro j hj
  rw [h j (List.mem_range.mp hj)]
theorem al_get {n : Nat} {i : Int} (f : Nat → Int64) (h0 : 0 ≤ i) (h1 : i < n) (h2 : i ≤ 2147483647) : am_rc2 101 (al n f) (Int32.ofInt i) = some (.long (f i.toNat)) := by
  have e1 : ¬ (Int32.ofInt i < 0) := by rw [i_zero, i_lt (by omega) h2 (by decide) (by decide)]; omega
  have e2 : i.toNat < n := by omega
  simp [am_rc2, al, e1, i_nat h0 h2, e2]
theorem al_put {n : Nat} {i : Int} (f : Nat → Int64) (v : Int64) (h0 : 0 ≤ i) (h1 : i < n) (h2 : i ≤ 2147483647) : am_wc 101 (al n f) (Int32.ofInt i) (.long v) = some (al n (up f i.toNat v)) := by
  have e1 : ¬ (Int32.ofInt i < 0) := by rw [i_zero, i_lt (by omega) h2 (by decide) (by decide)]; omega
  have e2 : i.toNat < n := by omega
  simp [am_wc, al, e1, i_nat h0 h2, e2, range_set, up_mapl]
/-- the mean of waiting, times a power of ten -/
def wA (g h x : Int) : Nat → Int
  | 0 => h
  | w + 1 => 10 * 10 ^ w + x * g * 10 ^ w + (10 - x) * wA g h x w
def mS (g x : Int) : Nat → Int
  | 0 => 0
  | t + 1 => 10 * mS g x t + (10 - x) ^ t * x * ((t : Int) + 1 + g)
theorem mS_D (g x : Int) (n : Nat) : mS g x (n + 1) - (10 - x) * mS g x n + (10 - x) ^ (n + 1) = 10 * 10 ^ n + x * g * 10 ^ n := by
  induction n with
  | zero => simp only [mS, Int.pow_succ, Int.pow_zero]; grind
  | succ n ih =>
    have e1 : mS g x (n + 1 + 1) = 10 * mS g x (n + 1) + (10 - x) ^ (n + 1) * x * (((n + 1 : Nat) : Int) + 1 + g) := rfl
    have e2 : mS g x (n + 1) = 10 * mS g x n + (10 - x) ^ n * x * ((n : Int) + 1 + g) := rfl
    have e3 : ((n + 1 : Nat) : Int) = (n : Int) + 1 := by omega
    rw [e1, e3]
    generalize mS g x (n + 1) = B at ih e2 ⊢
    generalize mS g x n = C at ih e2
    have p1 : (10 - x) ^ (n + 1) = (10 - x) ^ n * (10 - x) := Int.pow_succ _ _
    have p2 : (10 - x) ^ (n + 1 + 1) = (10 - x) ^ n * (10 - x) * (10 - x) := by rw [Int.pow_succ, Int.pow_succ]
    have p3 : (10 : Int) ^ (n + 1) = 10 ^ n * 10 := Int.pow_succ _ _
    rw [p1] at ih ⊢
    rw [p2, p3]
    generalize (10 - x) ^ n = Q at ih e2 ⊢
    generalize (10 : Int) ^ n = T at ih ⊢
    generalize (n : Int) = N at e2 ⊢
    grind
theorem mean_eq (g h x : Int) (n : Nat) : mS g x n + (10 - x) ^ n * ((n : Int) + h) = wA g h x n := by
  induction n with
  | zero => simp only [mS, wA, Int.pow_zero]; omega
  | succ n ih =>
    have e := mS_D g x n
    have p1 : (10 - x) ^ (n + 1) = (10 - x) ^ n * (10 - x) := Int.pow_succ _ _
    have e3 : ((n + 1 : Nat) : Int) = (n : Int) + 1 := by omega
    rw [show wA g h x (n + 1) = 10 * 10 ^ n + x * g * 10 ^ n + (10 - x) * wA g h x n from rfl, ← ih, ← e, e3]
    rw [p1]
    generalize mS g x (n + 1) = B
    generalize mS g x n = C
    generalize (10 - x) ^ n = Q
    generalize (n : Int) = N
    grind
theorem ten_pos (w : Nat) : (0 : Int) < 10 ^ w := by
  induction w with
  | zero => decide
  | succ w ih => rw [Int.pow_succ]; omega
theorem ten_le {w : Nat} (h : w ≤ 8) : (10 : Int) ^ w ≤ 100000000 := by
  rcases (show w = 0 ∨ w = 1 ∨ w = 2 ∨ w = 3 ∨ w = 4 ∨ w = 5 ∨ w = 6 ∨ w = 7 ∨ w = 8 by omega) with e | e | e | e | e | e | e | e | e <;> subst e <;> decide
theorem wA_rng {g h x : Int} (hg : 0 ≤ g ∧ g ≤ 99) (hh : 0 ≤ h ∧ h ≤ 99) (hx : 0 ≤ x ∧ x ≤ 10) (w : Nat) : 0 ≤ wA g h x w ∧ wA g h x w ≤ (99 + (w : Int)) * 10 ^ w := by
  induction w with
  | zero => simp only [wA, Int.pow_zero]; omega
  | succ w ih =>
    rw [show wA g h x (w + 1) = 10 * 10 ^ w + x * g * 10 ^ w + (10 - x) * wA g h x w from rfl]
    have hT := ten_pos w
    have e3 : ((w + 1 : Nat) : Int) = (w : Int) + 1 := by omega
    rw [Int.pow_succ, e3]
    generalize (10 : Int) ^ w = T at ih hT ⊢
    generalize wA g h x w = V at ih ⊢
    have hN : (0 : Int) ≤ (w : Int) := by omega
    generalize (w : Int) = N at ih hN ⊢
    have a1 : 0 ≤ x * g := Int.mul_nonneg hx.1 hg.1
    have a2 : x * g ≤ x * 99 := Int.mul_le_mul_of_nonneg_left hg.2 hx.1
    have a3 : 0 ≤ x * g * T := Int.mul_nonneg a1 (by omega)
    have a4 : x * g * T ≤ x * 99 * T := Int.mul_le_mul_of_nonneg_right a2 (by omega)
    have a5 : 0 ≤ (10 - x) * V := Int.mul_nonneg (by omega) ih.1
    have a6 : (10 - x) * V ≤ (10 - x) * ((99 + N) * T) := Int.mul_le_mul_of_nonneg_left ih.2 (by omega)
    have a7 : 0 ≤ x * (N * T) := Int.mul_nonneg hx.1 (Int.mul_nonneg hN (by omega))
    constructor
    · omega
    · have e1 : x * 99 * T + (10 - x) * ((99 + N) * T) = 990 * T + 10 * (N * T) - x * (N * T) := by grind
      have e2 : (99 + (N + 1)) * (T * 10) = 1000 * T + 10 * (N * T) := by grind
      omega
theorem wA_le {g h x : Int} (hg : 0 ≤ g ∧ g ≤ 99) (hh : 0 ≤ h ∧ h ≤ 99) (hx : 0 ≤ x ∧ x ≤ 10) {w : Nat} (hw : w ≤ 8) : 0 ≤ wA g h x w ∧ wA g h x w ≤ 10700000000 := by
  have e1 := wA_rng hg hh hx w
  have e2 := ten_le hw
  have e3 := ten_pos w
  have e4 : (99 + (w : Int)) * 10 ^ w ≤ 107 * 10 ^ w := Int.mul_le_mul_of_nonneg_right (by omega) (by omega)
  omega
theorem p_areMinutes (d : Nat) (A : am_H) (a : Int) (ha : -2147483648 ≤ a ∧ a ≤ 2147483647) : am_call d 101 [.int (Int32.ofInt a)] A = some (some (.int (Int32.ofInt (if 0 ≤ a ∧ a ≤ 99 then 1 else 0))), A) := by
  by_cases q1 : 0 ≤ a <;> by_cases q2 : a ≤ 99 <;> first | (exfalso; omega) | simp (disch := omega) only [am_bv_some, am_bi_int, am_bl_long, am_br_ref, am_bc_some, am_bq_some, am_gf_c, am_rd_c, am_bh_pf, am_bh_wr, am_g_p, ob_get, ob_put, ar_get, ar_put, ob_tag, ar_tag, i_zero, i_add, i_sub, i_mul, i_lt, i_le, i_eq, i_val, if_pos, if_neg, Option.toList_some, Option.toList_none, List.cons_append, List.nil_append, beq_self_eq_true, true_or, or_true, up_at, up_ne, ↓reduceIte, Nat.reduceEqDiff, le_t, le_f, lt_t, lt_f, eq_t, eq_f, nq_t, nq_f, nl_t, nl_f, and_true, true_and, and_false, false_and, not_true_eq_false, not_false_eq_true, or_false, false_or, az_tag, al_tag, az_get, az_put, am_bh_wz, gX, gT, gW, gS, gA, gL, gM, gE, gN, gX_11, gX_1, gX_2, gT_1, gW_0, gW_1, gW_2, gW_3, gW_12, gW_13, gA_1, gL_1, gE_3, gM_0, gM_1, gM_2, gM_3, gN_0, gN_2, gN_3, gN_4, gN_5, gN_10, gN_11, gN_17, gN_18, gN_23, gN_24, gN_29, gN_35, gN_36, gN_42, am_p_p, Int.toNat_natCast, aq_tag, am_rq_c, am_bh_wq, aq_get3, aq_get4, aq_put3, Int.reduceAdd, Int.reduceSub, Int.reduceMul, Int.reduceToNat, c101, s101_0, s101_1, s101_4, s101_5, s101_7, s101_10, s101_11, s101_14, s101_15]
theorem p_areTenths (d : Nat) (A : am_H) (a : Int) (ha : -2147483648 ≤ a ∧ a ≤ 2147483647) : am_call d 102 [.int (Int32.ofInt a)] A = some (some (.int (Int32.ofInt (if 0 ≤ a ∧ a ≤ 10 then 1 else 0))), A) := by
  by_cases q1 : 0 ≤ a <;> by_cases q2 : a ≤ 10 <;> first | (exfalso; omega) | simp (disch := omega) only [am_bv_some, am_bi_int, am_bl_long, am_br_ref, am_bc_some, am_bq_some, am_gf_c, am_rd_c, am_bh_pf, am_bh_wr, am_g_p, ob_get, ob_put, ar_get, ar_put, ob_tag, ar_tag, i_zero, i_add, i_sub, i_mul, i_lt, i_le, i_eq, i_val, if_pos, if_neg, Option.toList_some, Option.toList_none, List.cons_append, List.nil_append, beq_self_eq_true, true_or, or_true, up_at, up_ne, ↓reduceIte, Nat.reduceEqDiff, le_t, le_f, lt_t, lt_f, eq_t, eq_f, nq_t, nq_f, nl_t, nl_f, and_true, true_and, and_false, false_and, not_true_eq_false, not_false_eq_true, or_false, false_or, az_tag, al_tag, az_get, az_put, am_bh_wz, gX, gT, gW, gS, gA, gL, gM, gE, gN, gX_11, gX_1, gX_2, gT_1, gW_0, gW_1, gW_2, gW_3, gW_12, gW_13, gA_1, gL_1, gE_3, gM_0, gM_1, gM_2, gM_3, gN_0, gN_2, gN_3, gN_4, gN_5, gN_10, gN_11, gN_17, gN_18, gN_23, gN_24, gN_29, gN_35, gN_36, gN_42, am_p_p, Int.toNat_natCast, aq_tag, am_rq_c, am_bh_wq, aq_get3, aq_get4, aq_put3, Int.reduceAdd, Int.reduceSub, Int.reduceMul, Int.reduceToNat, c102, s102_0, s102_1, s102_4, s102_5, s102_7, s102_10, s102_11, s102_14, s102_15]
theorem p_reckon_loop (d : Nat) (g h x : Int) (hg : 0 ≤ g ∧ g ≤ 99) (hx : 0 ≤ x ∧ x ≤ 10) (hh : 0 ≤ h ∧ h ≤ 99) (B : am_H) : ∀ (m k : Nat) (A : am_H) (fa fb : Nat → Int64) (x5 : Value), k + m = 8 → am_g A 92 = ob 9 2 (gS 92) → am_g A 93 = al 9 fa → am_g A 94 = al 9 fb → (∀ j, j ≤ k → fa j = Int64.ofInt (wA g h x j) ∧ fb j = Int64.ofInt (10 ^ j)) → (∀ i, i ≠ 93 → i ≠ 94 → am_g A i = am_g B i) →
    ∃ A', am_run d 66 18 [.ref 92, .int (Int32.ofInt g), .int (Int32.ofInt h), .int (Int32.ofInt x), .int (Int32.ofInt ((k : Int) + 1)), x5, .null] [] A = some (none, A') ∧ ∀ i, am_g A' i = if i = 93 then al 9 (fun j => Int64.ofInt (wA g h x j)) else if i = 94 then al 9 (fun j => Int64.ofInt (10 ^ j)) else am_g B i := by
  intro m
  induction m with
  | zero =>
    intro k A fa fb x5 hk h0 h1 h2 hf hB
    have : k = 8 := by omega
    subst this
    refine ⟨A, by simp (disch := omega) only [am_bv_some, am_bi_int, am_bl_long, am_br_ref, am_bc_some, am_bq_some, am_gf_c, am_rd_c, am_bh_pf, am_bh_wr, am_g_p, ob_get, ob_put, ar_get, ar_put, ob_tag, ar_tag, i_zero, i_add, i_sub, i_mul, i_lt, i_le, i_eq, i_val, if_pos, if_neg, Option.toList_some, Option.toList_none, List.cons_append, List.nil_append, beq_self_eq_true, true_or, or_true, up_at, up_ne, ↓reduceIte, Nat.reduceEqDiff, le_t, le_f, lt_t, lt_f, eq_t, eq_f, nq_t, nq_f, nl_t, nl_f, and_true, true_and, and_false, false_and, not_true_eq_false, not_false_eq_true, or_false, false_or, az_tag, al_tag, az_get, az_put, am_bh_wz, gX, gT, gW, gS, gA, gL, gM, gE, gN, gX_11, gX_1, gX_2, gT_1, gW_0, gW_1, gW_2, gW_3, gW_12, gW_13, gA_1, gL_1, gE_3, gM_0, gM_1, gM_2, gM_3, gN_0, gN_2, gN_3, gN_4, gN_5, gN_10, gN_11, gN_17, gN_18, gN_23, gN_24, gN_29, gN_35, gN_36, gN_42, am_p_p, Int.toNat_natCast, aq_tag, am_rq_c, am_bh_wq, aq_get3, aq_get4, aq_put3, Int.reduceAdd, Int.reduceSub, Int.reduceMul, Int.reduceToNat, s66_0, s66_1, s66_4, s66_5, s66_6, s66_7, s66_8, s66_9, s66_12, s66_13, s66_14, s66_15, s66_16, s66_18, s66_20, s66_22, s66_25, s66_26, s66_29, s66_31, s66_34, s66_35, s66_38, s66_40, s66_41, s66_42, s66_43, s66_44, s66_45, s66_46, s66_47, s66_48, s66_49, s66_50, s66_51, s66_54, s66_56, s66_57, s66_58, s66_59, s66_60, s66_62, s66_63, s66_66, s66_68, s66_69, s66_72, s66_74, s66_75, s66_77, s66_78, s66_80, s66_81, s66_82, s66_83, s66_84, s66_87, s66_89, s66_90, s66_91, s66_92, s66_93, s66_94, s66_95, s66_98, s66_101, h0], fun i => ?_⟩
    by_cases u1 : i = 93
    · rw [if_pos u1, u1, h1]; exact al_ext (fun j hj => (hf j (by omega)).1)
    · rw [if_neg u1]
      by_cases u2 : i = 94
      · rw [if_pos u2, u2, h2]; exact al_ext (fun j hj => (hf j (by omega)).2)
      · rw [if_neg u2]; exact hB i u1 u2
  | succ m ih =>
    intro k A fa fb x5 hk h0 h1 h2 hf hB
    have e1 : ((k : Int) + 1 - 1).toNat = k := by omega
    have e2 : ((k : Int) + 1).toNat = k + 1 := by omega
    have b1 := (hf k (by omega)).1
    have b2 := (hf k (by omega)).2
    obtain ⟨A', r1, r2⟩ := ih (k + 1) (am_p (am_p A 94 (al 9 (up fb (k + 1) (Int64.ofInt (10 * 10 ^ k))))) 93 (al 9 (up fa (k + 1) (Int64.ofInt (10 * 10 ^ k + x * g * 10 ^ k + (10 - x) * wA g h x k))))) (up fa (k + 1) (Int64.ofInt (10 * 10 ^ k + x * g * 10 ^ k + (10 - x) * wA g h x k))) (up fb (k + 1) (Int64.ofInt (10 * 10 ^ k))) (.long (Int64.ofInt (x * g * 10 ^ k))) (by omega) (by simp (disch := omega) only [am_bv_some, am_bi_int, am_bl_long, am_br_ref, am_bc_some, am_bq_some, am_gf_c, am_rd_c, am_bh_pf, am_bh_wr, am_g_p, ob_get, ob_put, ar_get, ar_put, ob_tag, ar_tag, i_zero, i_add, i_sub, i_mul, i_lt, i_le, i_eq, i_val, if_pos, if_neg, Option.toList_some, Option.toList_none, List.cons_append, List.nil_append, beq_self_eq_true, true_or, or_true, up_at, up_ne, ↓reduceIte, Nat.reduceEqDiff, le_t, le_f, lt_t, lt_f, eq_t, eq_f, nq_t, nq_f, nl_t, nl_f, and_true, true_and, and_false, false_and, not_true_eq_false, not_false_eq_true, or_false, false_or, az_tag, al_tag, az_get, az_put, am_bh_wz, gX, gT, gW, gS, gA, gL, gM, gE, gN, gX_11, gX_1, gX_2, gT_1, gW_0, gW_1, gW_2, gW_3, gW_12, gW_13, gA_1, gL_1, gE_3, gM_0, gM_1, gM_2, gM_3, gN_0, gN_2, gN_3, gN_4, gN_5, gN_10, gN_11, gN_17, gN_18, gN_23, gN_24, gN_29, gN_35, gN_36, gN_42, am_p_p, Int.toNat_natCast, aq_tag, am_rq_c, am_bh_wq, aq_get3, aq_get4, aq_put3, Int.reduceAdd, Int.reduceSub, Int.reduceMul, Int.reduceToNat, h0]) (by simp (disch := omega) only [am_bv_some, am_bi_int, am_bl_long, am_br_ref, am_bc_some, am_bq_some, am_gf_c, am_rd_c, am_bh_pf, am_bh_wr, am_g_p, ob_get, ob_put, ar_get, ar_put, ob_tag, ar_tag, i_zero, i_add, i_sub, i_mul, i_lt, i_le, i_eq, i_val, if_pos, if_neg, Option.toList_some, Option.toList_none, List.cons_append, List.nil_append, beq_self_eq_true, true_or, or_true, up_at, up_ne, ↓reduceIte, Nat.reduceEqDiff, le_t, le_f, lt_t, lt_f, eq_t, eq_f, nq_t, nq_f, nl_t, nl_f, and_true, true_and, and_false, false_and, not_true_eq_false, not_false_eq_true, or_false, false_or, az_tag, al_tag, az_get, az_put, am_bh_wz, gX, gT, gW, gS, gA, gL, gM, gE, gN, gX_11, gX_1, gX_2, gT_1, gW_0, gW_1, gW_2, gW_3, gW_12, gW_13, gA_1, gL_1, gE_3, gM_0, gM_1, gM_2, gM_3, gN_0, gN_2, gN_3, gN_4, gN_5, gN_10, gN_11, gN_17, gN_18, gN_23, gN_24, gN_29, gN_35, gN_36, gN_42, am_p_p, Int.toNat_natCast, aq_tag, am_rq_c, am_bh_wq, aq_get3, aq_get4, aq_put3, Int.reduceAdd, Int.reduceSub, Int.reduceMul, Int.reduceToNat, ]) (by simp (disch := omega) only [am_bv_some, am_bi_int, am_bl_long, am_br_ref, am_bc_some, am_bq_some, am_gf_c, am_rd_c, am_bh_pf, am_bh_wr, am_g_p, ob_get, ob_put, ar_get, ar_put, ob_tag, ar_tag, i_zero, i_add, i_sub, i_mul, i_lt, i_le, i_eq, i_val, if_pos, if_neg, Option.toList_some, Option.toList_none, List.cons_append, List.nil_append, beq_self_eq_true, true_or, or_true, up_at, up_ne, ↓reduceIte, Nat.reduceEqDiff, le_t, le_f, lt_t, lt_f, eq_t, eq_f, nq_t, nq_f, nl_t, nl_f, and_true, true_and, and_false, false_and, not_true_eq_false, not_false_eq_true, or_false, false_or, az_tag, al_tag, az_get, az_put, am_bh_wz, gX, gT, gW, gS, gA, gL, gM, gE, gN, gX_11, gX_1, gX_2, gT_1, gW_0, gW_1, gW_2, gW_3, gW_12, gW_13, gA_1, gL_1, gE_3, gM_0, gM_1, gM_2, gM_3, gN_0, gN_2, gN_3, gN_4, gN_5, gN_10, gN_11, gN_17, gN_18, gN_23, gN_24, gN_29, gN_35, gN_36, gN_42, am_p_p, Int.toNat_natCast, aq_tag, am_rq_c, am_bh_wq, aq_get3, aq_get4, aq_put3, Int.reduceAdd, Int.reduceSub, Int.reduceMul, Int.reduceToNat, ]) (fun j hj => by
      by_cases hjk : j = k + 1
      · subst hjk
        rw [up_at, up_at]
        exact ⟨rfl, by rw [Int.pow_succ, Int.mul_comm]⟩
      · rw [up_ne _ _ hjk, up_ne _ _ hjk]; exact hf j (by omega)) (fun i u1 u2 => by simp (disch := omega) only [am_bv_some, am_bi_int, am_bl_long, am_br_ref, am_bc_some, am_bq_some, am_gf_c, am_rd_c, am_bh_pf, am_bh_wr, am_g_p, ob_get, ob_put, ar_get, ar_put, ob_tag, ar_tag, i_zero, i_add, i_sub, i_mul, i_lt, i_le, i_eq, i_val, if_pos, if_neg, Option.toList_some, Option.toList_none, List.cons_append, List.nil_append, beq_self_eq_true, true_or, or_true, up_at, up_ne, ↓reduceIte, Nat.reduceEqDiff, le_t, le_f, lt_t, lt_f, eq_t, eq_f, nq_t, nq_f, nl_t, nl_f, and_true, true_and, and_false, false_and, not_true_eq_false, not_false_eq_true, or_false, false_or, az_tag, al_tag, az_get, az_put, am_bh_wz, gX, gT, gW, gS, gA, gL, gM, gE, gN, gX_11, gX_1, gX_2, gT_1, gW_0, gW_1, gW_2, gW_3, gW_12, gW_13, gA_1, gL_1, gE_3, gM_0, gM_1, gM_2, gM_3, gN_0, gN_2, gN_3, gN_4, gN_5, gN_10, gN_11, gN_17, gN_18, gN_23, gN_24, gN_29, gN_35, gN_36, gN_42, am_p_p, Int.toNat_natCast, aq_tag, am_rq_c, am_bh_wq, aq_get3, aq_get4, aq_put3, Int.reduceAdd, Int.reduceSub, Int.reduceMul, Int.reduceToNat, ]; exact hB i u1 u2)
    refine ⟨A', ?_, r2⟩
    rw [← r1, s66_18]
    simp (disch := omega) only [am_bv_some, am_bi_int, am_bl_long, am_br_ref, am_bc_some, am_bq_some, am_gf_c, am_rd_c, am_bh_pf, am_bh_wr, am_g_p, ob_get, ob_put, ar_get, ar_put, ob_tag, ar_tag, i_zero, i_add, i_sub, i_mul, i_lt, i_le, i_eq, i_val, if_pos, if_neg, Option.toList_some, Option.toList_none, List.cons_append, List.nil_append, beq_self_eq_true, true_or, or_true, up_at, up_ne, ↓reduceIte, Nat.reduceEqDiff, le_t, le_f, lt_t, lt_f, eq_t, eq_f, nq_t, nq_f, nl_t, nl_f, and_true, true_and, and_false, false_and, not_true_eq_false, not_false_eq_true, or_false, false_or, az_tag, al_tag, az_get, az_put, am_bh_wz, gX, gT, gW, gS, gA, gL, gM, gE, gN, gX_11, gX_1, gX_2, gT_1, gW_0, gW_1, gW_2, gW_3, gW_12, gW_13, gA_1, gL_1, gE_3, gM_0, gM_1, gM_2, gM_3, gN_0, gN_2, gN_3, gN_4, gN_5, gN_10, gN_11, gN_17, gN_18, gN_23, gN_24, gN_29, gN_35, gN_36, gN_42, am_p_p, Int.toNat_natCast, aq_tag, am_rq_c, am_bh_wq, aq_get3, aq_get4, aq_put3, Int.reduceAdd, Int.reduceSub, Int.reduceMul, Int.reduceToNat, s66_0, s66_1, s66_4, s66_5, s66_6, s66_7, s66_8, s66_9, s66_12, s66_13, s66_14, s66_15, s66_16, s66_20, s66_22, s66_25, s66_26, s66_29, s66_31, s66_34, s66_35, s66_38, s66_40, s66_41, s66_42, s66_43, s66_44, s66_45, s66_46, s66_47, s66_48, s66_49, s66_50, s66_51, s66_54, s66_56, s66_57, s66_58, s66_59, s66_60, s66_62, s66_63, s66_66, s66_68, s66_69, s66_72, s66_74, s66_75, s66_77, s66_78, s66_80, s66_81, s66_82, s66_83, s66_84, s66_87, s66_89, s66_90, s66_91, s66_92, s66_93, s66_94, s66_95, s66_98, s66_101, h0, h1, h2, e1, e2, b1, b2, al_get, al_put, l_of, l_mul, l_add, Int.natCast_add, Int.cast_ofNat_Int]
theorem p_reckon (d : Nat) (A : am_H) (g h x : Int) (hg : 0 ≤ g ∧ g ≤ 99) (hx : 0 ≤ x ∧ x ≤ 10) (hh : 0 ≤ h ∧ h ≤ 99) (hW : XW A) : ∃ A', am_call d 66 [.ref 92, .int (Int32.ofInt g), .int (Int32.ofInt h), .int (Int32.ofInt x)] A = some (none, A') ∧ ∀ i, am_g A' i = if i = 93 then al 9 (fun j => Int64.ofInt (wA g h x j)) else if i = 94 then al 9 (fun j => Int64.ofInt (10 ^ j)) else am_g A i := by
  obtain ⟨h0, ⟨fa, h1⟩, fb, h2⟩ := hW
  obtain ⟨A', r1, r2⟩ := p_reckon_loop d g h x hg hx hh A 8 0 (am_p (am_p A 93 (al 9 (up fa 0 (Int64.ofInt h)))) 94 (al 9 (up fb 0 (Int64.ofInt 1)))) (up fa 0 (Int64.ofInt h)) (up fb 0 (Int64.ofInt 1)) .null (by omega) (by simp (disch := omega) only [am_bv_some, am_bi_int, am_bl_long, am_br_ref, am_bc_some, am_bq_some, am_gf_c, am_rd_c, am_bh_pf, am_bh_wr, am_g_p, ob_get, ob_put, ar_get, ar_put, ob_tag, ar_tag, i_zero, i_add, i_sub, i_mul, i_lt, i_le, i_eq, i_val, if_pos, if_neg, Option.toList_some, Option.toList_none, List.cons_append, List.nil_append, beq_self_eq_true, true_or, or_true, up_at, up_ne, ↓reduceIte, Nat.reduceEqDiff, le_t, le_f, lt_t, lt_f, eq_t, eq_f, nq_t, nq_f, nl_t, nl_f, and_true, true_and, and_false, false_and, not_true_eq_false, not_false_eq_true, or_false, false_or, az_tag, al_tag, az_get, az_put, am_bh_wz, gX, gT, gW, gS, gA, gL, gM, gE, gN, gX_11, gX_1, gX_2, gT_1, gW_0, gW_1, gW_2, gW_3, gW_12, gW_13, gA_1, gL_1, gE_3, gM_0, gM_1, gM_2, gM_3, gN_0, gN_2, gN_3, gN_4, gN_5, gN_10, gN_11, gN_17, gN_18, gN_23, gN_24, gN_29, gN_35, gN_36, gN_42, am_p_p, Int.toNat_natCast, aq_tag, am_rq_c, am_bh_wq, aq_get3, aq_get4, aq_put3, Int.reduceAdd, Int.reduceSub, Int.reduceMul, Int.reduceToNat, h0]) (by simp (disch := omega) only [am_bv_some, am_bi_int, am_bl_long, am_br_ref, am_bc_some, am_bq_some, am_gf_c, am_rd_c, am_bh_pf, am_bh_wr, am_g_p, ob_get, ob_put, ar_get, ar_put, ob_tag, ar_tag, i_zero, i_add, i_sub, i_mul, i_lt, i_le, i_eq, i_val, if_pos, if_neg, Option.toList_some, Option.toList_none, List.cons_append, List.nil_append, beq_self_eq_true, true_or, or_true, up_at, up_ne, ↓reduceIte, Nat.reduceEqDiff, le_t, le_f, lt_t, lt_f, eq_t, eq_f, nq_t, nq_f, nl_t, nl_f, and_true, true_and, and_false, false_and, not_true_eq_false, not_false_eq_true, or_false, false_or, az_tag, al_tag, az_get, az_put, am_bh_wz, gX, gT, gW, gS, gA, gL, gM, gE, gN, gX_11, gX_1, gX_2, gT_1, gW_0, gW_1, gW_2, gW_3, gW_12, gW_13, gA_1, gL_1, gE_3, gM_0, gM_1, gM_2, gM_3, gN_0, gN_2, gN_3, gN_4, gN_5, gN_10, gN_11, gN_17, gN_18, gN_23, gN_24, gN_29, gN_35, gN_36, gN_42, am_p_p, Int.toNat_natCast, aq_tag, am_rq_c, am_bh_wq, aq_get3, aq_get4, aq_put3, Int.reduceAdd, Int.reduceSub, Int.reduceMul, Int.reduceToNat, ]) (by simp (disch := omega) only [am_bv_some, am_bi_int, am_bl_long, am_br_ref, am_bc_some, am_bq_some, am_gf_c, am_rd_c, am_bh_pf, am_bh_wr, am_g_p, ob_get, ob_put, ar_get, ar_put, ob_tag, ar_tag, i_zero, i_add, i_sub, i_mul, i_lt, i_le, i_eq, i_val, if_pos, if_neg, Option.toList_some, Option.toList_none, List.cons_append, List.nil_append, beq_self_eq_true, true_or, or_true, up_at, up_ne, ↓reduceIte, Nat.reduceEqDiff, le_t, le_f, lt_t, lt_f, eq_t, eq_f, nq_t, nq_f, nl_t, nl_f, and_true, true_and, and_false, false_and, not_true_eq_false, not_false_eq_true, or_false, false_or, az_tag, al_tag, az_get, az_put, am_bh_wz, gX, gT, gW, gS, gA, gL, gM, gE, gN, gX_11, gX_1, gX_2, gT_1, gW_0, gW_1, gW_2, gW_3, gW_12, gW_13, gA_1, gL_1, gE_3, gM_0, gM_1, gM_2, gM_3, gN_0, gN_2, gN_3, gN_4, gN_5, gN_10, gN_11, gN_17, gN_18, gN_23, gN_24, gN_29, gN_35, gN_36, gN_42, am_p_p, Int.toNat_natCast, aq_tag, am_rq_c, am_bh_wq, aq_get3, aq_get4, aq_put3, Int.reduceAdd, Int.reduceSub, Int.reduceMul, Int.reduceToNat, ]) (fun j hj => by
    have : j = 0 := by omega
    subst this
    rw [up_at, up_at]; exact ⟨rfl, rfl⟩) (fun i u1 u2 => by simp (disch := omega) only [am_bv_some, am_bi_int, am_bl_long, am_br_ref, am_bc_some, am_bq_some, am_gf_c, am_rd_c, am_bh_pf, am_bh_wr, am_g_p, ob_get, ob_put, ar_get, ar_put, ob_tag, ar_tag, i_zero, i_add, i_sub, i_mul, i_lt, i_le, i_eq, i_val, if_pos, if_neg, Option.toList_some, Option.toList_none, List.cons_append, List.nil_append, beq_self_eq_true, true_or, or_true, up_at, up_ne, ↓reduceIte, Nat.reduceEqDiff, le_t, le_f, lt_t, lt_f, eq_t, eq_f, nq_t, nq_f, nl_t, nl_f, and_true, true_and, and_false, false_and, not_true_eq_false, not_false_eq_true, or_false, false_or, az_tag, al_tag, az_get, az_put, am_bh_wz, gX, gT, gW, gS, gA, gL, gM, gE, gN, gX_11, gX_1, gX_2, gT_1, gW_0, gW_1, gW_2, gW_3, gW_12, gW_13, gA_1, gL_1, gE_3, gM_0, gM_1, gM_2, gM_3, gN_0, gN_2, gN_3, gN_4, gN_5, gN_10, gN_11, gN_17, gN_18, gN_23, gN_24, gN_29, gN_35, gN_36, gN_42, am_p_p, Int.toNat_natCast, aq_tag, am_rq_c, am_bh_wq, aq_get3, aq_get4, aq_put3, Int.reduceAdd, Int.reduceSub, Int.reduceMul, Int.reduceToNat, ])
  refine ⟨A', ?_, r2⟩
  rw [← r1]
  simp (disch := omega) only [am_bv_some, am_bi_int, am_bl_long, am_br_ref, am_bc_some, am_bq_some, am_gf_c, am_rd_c, am_bh_pf, am_bh_wr, am_g_p, ob_get, ob_put, ar_get, ar_put, ob_tag, ar_tag, i_zero, i_add, i_sub, i_mul, i_lt, i_le, i_eq, i_val, if_pos, if_neg, Option.toList_some, Option.toList_none, List.cons_append, List.nil_append, beq_self_eq_true, true_or, or_true, up_at, up_ne, ↓reduceIte, Nat.reduceEqDiff, le_t, le_f, lt_t, lt_f, eq_t, eq_f, nq_t, nq_f, nl_t, nl_f, and_true, true_and, and_false, false_and, not_true_eq_false, not_false_eq_true, or_false, false_or, az_tag, al_tag, az_get, az_put, am_bh_wz, gX, gT, gW, gS, gA, gL, gM, gE, gN, gX_11, gX_1, gX_2, gT_1, gW_0, gW_1, gW_2, gW_3, gW_12, gW_13, gA_1, gL_1, gE_3, gM_0, gM_1, gM_2, gM_3, gN_0, gN_2, gN_3, gN_4, gN_5, gN_10, gN_11, gN_17, gN_18, gN_23, gN_24, gN_29, gN_35, gN_36, gN_42, am_p_p, Int.toNat_natCast, aq_tag, am_rq_c, am_bh_wq, aq_get3, aq_get4, aq_put3, Int.reduceAdd, Int.reduceSub, Int.reduceMul, Int.reduceToNat, c66, s66_0, s66_1, s66_4, s66_5, s66_6, s66_7, s66_8, s66_9, s66_12, s66_13, s66_14, s66_15, s66_16, s66_20, s66_22, s66_25, s66_26, s66_29, s66_31, s66_34, s66_35, s66_38, s66_40, s66_41, s66_42, s66_43, s66_44, s66_45, s66_46, s66_47, s66_48, s66_49, s66_50, s66_51, s66_54, s66_56, s66_57, s66_58, s66_59, s66_60, s66_62, s66_63, s66_66, s66_68, s66_69, s66_72, s66_74, s66_75, s66_77, s66_78, s66_80, s66_81, s66_82, s66_83, s66_84, s66_87, s66_89, s66_90, s66_91, s66_92, s66_93, s66_94, s66_95, s66_98, s66_101, h0, h1, h2, al_get, al_put, l_of, Int.cast_ofNat_Int]
theorem gcd_st (a b : Nat) : Nat.gcd b (a % b) = Nat.gcd a b := by rw [Nat.gcd_comm a b, Nat.gcd_rec b a, Nat.gcd_comm]
theorem p_gd_loop (d : Nat) (A : am_H) (v0 v2 : Int64) : ∀ (m k a b : Nat) (x9 : Value), k + m = 100 → b ≤ a → a * b < 2 ^ m → a ≤ 1000000000000 → 0 < Nat.gcd a b → am_run d 68 9 [.long v0, .null, .long v2, .null, .long (Int64.ofInt (a : Int)), .null, .long (Int64.ofInt (b : Int)), .null, .int (Int32.ofInt (k : Int)), x9, .null] [] A = some (some (.long (Int64.ofInt ((Nat.gcd a b : Nat) : Int))), A) := by
  intro m
  induction m with
  | zero =>
    intro k a b x9 hk hab hm ha hgp
    have hb : b = 0 := by
      rcases Nat.eq_zero_or_pos b with e | e
      · exact e
      · have : 0 < a * b := Nat.mul_pos (by omega) e
        omega
    subst hb
    rw [Nat.gcd_zero_right] at hgp ⊢
    have : k = 100 := by omega
    subst this
    simp (disch := omega) only [am_bv_some, am_bi_int, am_bl_long, am_br_ref, am_bc_some, am_bq_some, am_gf_c, am_rd_c, am_bh_pf, am_bh_wr, am_g_p, ob_get, ob_put, ar_get, ar_put, ob_tag, ar_tag, i_zero, i_add, i_sub, i_mul, i_lt, i_le, i_eq, i_val, if_pos, if_neg, Option.toList_some, Option.toList_none, List.cons_append, List.nil_append, beq_self_eq_true, true_or, or_true, up_at, up_ne, ↓reduceIte, Nat.reduceEqDiff, le_t, le_f, lt_t, lt_f, eq_t, eq_f, nq_t, nq_f, nl_t, nl_f, and_true, true_and, and_false, false_and, not_true_eq_false, not_false_eq_true, or_false, false_or, az_tag, al_tag, az_get, az_put, am_bh_wz, gX, gT, gW, gS, gA, gL, gM, gE, gN, gX_11, gX_1, gX_2, gT_1, gW_0, gW_1, gW_2, gW_3, gW_12, gW_13, gA_1, gL_1, gE_3, gM_0, gM_1, gM_2, gM_3, gN_0, gN_2, gN_3, gN_4, gN_5, gN_10, gN_11, gN_17, gN_18, gN_23, gN_24, gN_29, gN_35, gN_36, gN_42, am_p_p, Int.toNat_natCast, aq_tag, am_rq_c, am_bh_wq, aq_get3, aq_get4, aq_put3, Int.reduceAdd, Int.reduceSub, Int.reduceMul, Int.reduceToNat, s68_0, s68_1, s68_3, s68_4, s68_6, s68_7, s68_9, s68_11, s68_13, s68_16, s68_18, s68_19, s68_20, s68_23, s68_25, s68_27, s68_28, s68_30, s68_32, s68_34, s68_36, s68_38, s68_41, s68_44, s68_46, s68_47, s68_48, s68_51, s68_53, s68_56, s68_57, l_cmp, cm_1, cm_0, cm_m]
  | succ m ih =>
    intro k a b x9 hk hab hm ha hgp
    rcases Nat.eq_zero_or_pos b with e | e
    · subst e
      rw [Nat.gcd_zero_right] at hgp ⊢
      simp (disch := omega) only [am_bv_some, am_bi_int, am_bl_long, am_br_ref, am_bc_some, am_bq_some, am_gf_c, am_rd_c, am_bh_pf, am_bh_wr, am_g_p, ob_get, ob_put, ar_get, ar_put, ob_tag, ar_tag, i_zero, i_add, i_sub, i_mul, i_lt, i_le, i_eq, i_val, if_pos, if_neg, Option.toList_some, Option.toList_none, List.cons_append, List.nil_append, beq_self_eq_true, true_or, or_true, up_at, up_ne, ↓reduceIte, Nat.reduceEqDiff, le_t, le_f, lt_t, lt_f, eq_t, eq_f, nq_t, nq_f, nl_t, nl_f, and_true, true_and, and_false, false_and, not_true_eq_false, not_false_eq_true, or_false, false_or, az_tag, al_tag, az_get, az_put, am_bh_wz, gX, gT, gW, gS, gA, gL, gM, gE, gN, gX_11, gX_1, gX_2, gT_1, gW_0, gW_1, gW_2, gW_3, gW_12, gW_13, gA_1, gL_1, gE_3, gM_0, gM_1, gM_2, gM_3, gN_0, gN_2, gN_3, gN_4, gN_5, gN_10, gN_11, gN_17, gN_18, gN_23, gN_24, gN_29, gN_35, gN_36, gN_42, am_p_p, Int.toNat_natCast, aq_tag, am_rq_c, am_bh_wq, aq_get3, aq_get4, aq_put3, Int.reduceAdd, Int.reduceSub, Int.reduceMul, Int.reduceToNat, s68_0, s68_1, s68_3, s68_4, s68_6, s68_7, s68_9, s68_11, s68_13, s68_16, s68_18, s68_19, s68_20, s68_23, s68_25, s68_27, s68_28, s68_30, s68_32, s68_34, s68_36, s68_38, s68_41, s68_44, s68_46, s68_47, s68_48, s68_51, s68_53, s68_56, s68_57, l_cmp, cm_1, cm_0, cm_m, Int.cast_ofNat_Int]
    · have hr : a % b < b := Nat.mod_lt _ e
      have h2 : 2 * (a % b) ≤ a := by
        have := Nat.div_add_mod a b
        have hq : 1 ≤ a / b := by
          rw [Nat.le_div_iff_mul_le e]; omega
        have : b * 1 ≤ b * (a / b) := Nat.mul_le_mul_left b hq
        omega
      have h3 : b * (a % b) < 2 ^ m := by
        have : 2 * (b * (a % b)) ≤ a * b := by
          have := Nat.mul_le_mul_right b h2
          grind
        rw [Nat.pow_succ] at hm
        omega
      have hz := l_nz (b := (b : Int)) (by omega) (by omega)
      have hrem : ((a : Int) % (b : Int)) = ((a % b : Nat) : Int) := by omega
      rw [← gcd_st a b, ← ih (k + 1) b (a % b) (.long (Int64.ofInt ((a % b : Nat) : Int))) (by omega) (by omega) h3 (by omega) (by rw [gcd_st]; exact hgp), s68_9]
      simp (disch := first | omega | assumption) only [am_bv_some, am_bi_int, am_bl_long, am_br_ref, am_bc_some, am_bq_some, am_gf_c, am_rd_c, am_bh_pf, am_bh_wr, am_g_p, ob_get, ob_put, ar_get, ar_put, ob_tag, ar_tag, i_zero, i_add, i_sub, i_mul, i_lt, i_le, i_eq, i_val, if_pos, if_neg, Option.toList_some, Option.toList_none, List.cons_append, List.nil_append, beq_self_eq_true, true_or, or_true, up_at, up_ne, ↓reduceIte, Nat.reduceEqDiff, le_t, le_f, lt_t, lt_f, eq_t, eq_f, nq_t, nq_f, nl_t, nl_f, and_true, true_and, and_false, false_and, not_true_eq_false, not_false_eq_true, or_false, false_or, az_tag, al_tag, az_get, az_put, am_bh_wz, gX, gT, gW, gS, gA, gL, gM, gE, gN, gX_11, gX_1, gX_2, gT_1, gW_0, gW_1, gW_2, gW_3, gW_12, gW_13, gA_1, gL_1, gE_3, gM_0, gM_1, gM_2, gM_3, gN_0, gN_2, gN_3, gN_4, gN_5, gN_10, gN_11, gN_17, gN_18, gN_23, gN_24, gN_29, gN_35, gN_36, gN_42, am_p_p, Int.toNat_natCast, aq_tag, am_rq_c, am_bh_wq, aq_get3, aq_get4, aq_put3, Int.reduceAdd, Int.reduceSub, Int.reduceMul, Int.reduceToNat, s68_0, s68_1, s68_3, s68_4, s68_6, s68_7, s68_11, s68_13, s68_16, s68_18, s68_19, s68_20, s68_23, s68_25, s68_27, s68_28, s68_30, s68_32, s68_34, s68_36, s68_38, s68_41, s68_44, s68_46, s68_47, s68_48, s68_51, s68_53, s68_56, s68_57, l_cmp, cm_1, cm_0, cm_m, l_rem, hrem, Int.natCast_add, Int.cast_ofNat_Int]
theorem p_gd (d : Nat) (A : am_H) (a b : Nat) (ha : a ≤ 1000000000000) (hb : 0 < b ∧ b ≤ 100000000) : am_call d 68 [.long (Int64.ofInt (a : Int)), .long (Int64.ofInt (b : Int))] A = some (some (.long (Int64.ofInt ((Nat.gcd a b : Nat) : Int))), A) := by
  have hr : a % b < b := Nat.mod_lt _ hb.1
  have h3 : b * (a % b) < 2 ^ 99 := by
    have : b * (a % b) ≤ 100000000 * 100000000 := Nat.mul_le_mul hb.2 (by omega)
    exact Nat.lt_of_le_of_lt this (by decide)
  have hz := l_nz (b := (b : Int)) (by omega) (by omega)
  have hrem : ((a : Int) % (b : Int)) = ((a % b : Nat) : Int) := by omega
  rw [← gcd_st a b, ← p_gd_loop d A (Int64.ofInt (a : Int)) (Int64.ofInt (b : Int)) 99 1 b (a % b) (.long (Int64.ofInt ((a % b : Nat) : Int))) (by omega) (by omega) h3 (by omega) (Nat.gcd_pos_of_pos_left _ hb.1), c68]
  simp (disch := first | omega | assumption) only [am_bv_some, am_bi_int, am_bl_long, am_br_ref, am_bc_some, am_bq_some, am_gf_c, am_rd_c, am_bh_pf, am_bh_wr, am_g_p, ob_get, ob_put, ar_get, ar_put, ob_tag, ar_tag, i_zero, i_add, i_sub, i_mul, i_lt, i_le, i_eq, i_val, if_pos, if_neg, Option.toList_some, Option.toList_none, List.cons_append, List.nil_append, beq_self_eq_true, true_or, or_true, up_at, up_ne, ↓reduceIte, Nat.reduceEqDiff, le_t, le_f, lt_t, lt_f, eq_t, eq_f, nq_t, nq_f, nl_t, nl_f, and_true, true_and, and_false, false_and, not_true_eq_false, not_false_eq_true, or_false, false_or, az_tag, al_tag, az_get, az_put, am_bh_wz, gX, gT, gW, gS, gA, gL, gM, gE, gN, gX_11, gX_1, gX_2, gT_1, gW_0, gW_1, gW_2, gW_3, gW_12, gW_13, gA_1, gL_1, gE_3, gM_0, gM_1, gM_2, gM_3, gN_0, gN_2, gN_3, gN_4, gN_5, gN_10, gN_11, gN_17, gN_18, gN_23, gN_24, gN_29, gN_35, gN_36, gN_42, am_p_p, Int.toNat_natCast, aq_tag, am_rq_c, am_bh_wq, aq_get3, aq_get4, aq_put3, Int.reduceAdd, Int.reduceSub, Int.reduceMul, Int.reduceToNat, s68_0, s68_1, s68_3, s68_4, s68_6, s68_7, s68_11, s68_13, s68_16, s68_18, s68_19, s68_20, s68_23, s68_25, s68_27, s68_28, s68_30, s68_32, s68_34, s68_36, s68_38, s68_41, s68_44, s68_46, s68_47, s68_48, s68_51, s68_53, s68_56, s68_57, Int.cast_ofNat_Int]
  rw [s68_9]
  simp (disch := first | omega | assumption) only [am_bv_some, am_bi_int, am_bl_long, am_br_ref, am_bc_some, am_bq_some, am_gf_c, am_rd_c, am_bh_pf, am_bh_wr, am_g_p, ob_get, ob_put, ar_get, ar_put, ob_tag, ar_tag, i_zero, i_add, i_sub, i_mul, i_lt, i_le, i_eq, i_val, if_pos, if_neg, Option.toList_some, Option.toList_none, List.cons_append, List.nil_append, beq_self_eq_true, true_or, or_true, up_at, up_ne, ↓reduceIte, Nat.reduceEqDiff, le_t, le_f, lt_t, lt_f, eq_t, eq_f, nq_t, nq_f, nl_t, nl_f, and_true, true_and, and_false, false_and, not_true_eq_false, not_false_eq_true, or_false, false_or, az_tag, al_tag, az_get, az_put, am_bh_wz, gX, gT, gW, gS, gA, gL, gM, gE, gN, gX_11, gX_1, gX_2, gT_1, gW_0, gW_1, gW_2, gW_3, gW_12, gW_13, gA_1, gL_1, gE_3, gM_0, gM_1, gM_2, gM_3, gN_0, gN_2, gN_3, gN_4, gN_5, gN_10, gN_11, gN_17, gN_18, gN_23, gN_24, gN_29, gN_35, gN_36, gN_42, am_p_p, Int.toNat_natCast, aq_tag, am_rq_c, am_bh_wq, aq_get3, aq_get4, aq_put3, Int.reduceAdd, Int.reduceSub, Int.reduceMul, Int.reduceToNat, s68_0, s68_1, s68_3, s68_4, s68_6, s68_7, s68_11, s68_13, s68_16, s68_18, s68_19, s68_20, s68_23, s68_25, s68_27, s68_28, s68_30, s68_32, s68_34, s68_36, s68_38, s68_41, s68_44, s68_46, s68_47, s68_48, s68_51, s68_53, s68_56, s68_57, l_cmp, cm_1, cm_0, cm_m, l_rem, hrem, Int.cast_ofNat_Int]
