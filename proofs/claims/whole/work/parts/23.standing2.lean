def sm (f : Nat → Int) : Nat → Int
  | 0 => 0
  | n + 1 => sm f n + f n
theorem sm_ge {f : Nat → Int} {n : Nat} (h : ∀ j, j < n → 0 ≤ f j) : 0 ≤ sm f n := by
  induction n with
  | zero => exact Int.le_refl 0
  | succ n ih => have h1 := ih (fun j hj => h j (by omega)); have h2 := h n (by omega); simp only [sm]; omega
theorem sm_le {f : Nat → Int} {n : Nat} {c : Int} (h : ∀ j, j < n → f j ≤ c) : sm f n ≤ n * c := by
  induction n with
  | zero => simp [sm]
  | succ n ih =>
    have h1 := ih (fun j hj => h j (by omega))
    have h2 := h n (by omega)
    simp only [sm]
    rw [Int.natCast_add, Int.add_mul]
    simp
    omega
theorem sm_ext {f g : Nat → Int} {n : Nat} (h : ∀ j, j < n → f j = g j) : sm f n = sm g n := by
  induction n with
  | zero => rfl
  | succ n ih => simp only [sm]; rw [ih (fun j hj => h j (by omega)), h n (by omega)]
theorem p_clocks_loop (d o t p : Nat) (A : am_H) (n K P F kd fe : Int) (f : Nat → Int) (hP : P = (p : Int)) (hp : p ≤ 6) (h : am_g A t = ob 8 14 (gW t n K P F kd fe)) (h0 : am_g A o = ob 6 3 (gS o)) (h1 : am_g A (o + 2) = ar 6 f) : ∀ (m k : Nat), k + m = p → am_run d 37 4 [.ref o, .ref t, .int (Int32.ofInt (sm f k)), .int (Int32.ofInt (k : Int))] [] A = some (some (.int (Int32.ofInt (sm f p))), A) := by
  intro m
  induction m with
  | zero =>
    intro k hk
    have : k = p := by omega
    subst this
    subst hP
    simp (disch := omega) only [am_bv_some, am_bi_int, am_bl_long, am_br_ref, am_bc_some, am_bq_some, am_gf_c, am_rd_c, am_bh_pf, am_bh_wr, am_g_p, ob_get, ob_put, ar_get, ar_put, ob_tag, ar_tag, i_zero, i_add, i_sub, i_mul, i_lt, i_le, i_eq, i_val, if_pos, if_neg, Option.toList_some, Option.toList_none, List.cons_append, List.nil_append, beq_self_eq_true, true_or, or_true, up_at, up_ne, ↓reduceIte, Nat.reduceEqDiff, le_t, le_f, lt_t, lt_f, eq_t, eq_f, nq_t, nq_f, nl_t, nl_f, and_true, true_and, and_false, false_and, not_true_eq_false, not_false_eq_true, or_false, false_or, az_tag, al_tag, az_get, az_put, am_bh_wz, gX, gT, gW, gS, gA, gL, gM, gE, gN, gX_11, gX_1, gX_2, gT_1, gW_0, gW_1, gW_2, gW_3, gW_12, gW_13, gA_1, gL_1, gE_3, gM_0, gM_1, gM_2, gM_3, gN_0, gN_2, gN_3, gN_4, gN_5, gN_10, gN_11, gN_17, gN_18, gN_23, gN_24, gN_29, gN_35, gN_36, gN_42, am_p_p, Int.toNat_natCast, s37_0, s37_1, s37_2, s37_3, s37_4, s37_5, s37_6, s37_9, s37_12, s37_13, s37_14, s37_17, s37_18, s37_19, s37_20, s37_21, s37_24, s37_27, s37_28, h, h0, h1]
  | succ m ih =>
    intro k hk
    rw [← ih (k + 1) (by omega), s37_4]
    subst hP
    simp (disch := omega) only [am_bv_some, am_bi_int, am_bl_long, am_br_ref, am_bc_some, am_bq_some, am_gf_c, am_rd_c, am_bh_pf, am_bh_wr, am_g_p, ob_get, ob_put, ar_get, ar_put, ob_tag, ar_tag, i_zero, i_add, i_sub, i_mul, i_lt, i_le, i_eq, i_val, if_pos, if_neg, Option.toList_some, Option.toList_none, List.cons_append, List.nil_append, beq_self_eq_true, true_or, or_true, up_at, up_ne, ↓reduceIte, Nat.reduceEqDiff, le_t, le_f, lt_t, lt_f, eq_t, eq_f, nq_t, nq_f, nl_t, nl_f, and_true, true_and, and_false, false_and, not_true_eq_false, not_false_eq_true, or_false, false_or, az_tag, al_tag, az_get, az_put, am_bh_wz, gX, gT, gW, gS, gA, gL, gM, gE, gN, gX_11, gX_1, gX_2, gT_1, gW_0, gW_1, gW_2, gW_3, gW_12, gW_13, gA_1, gL_1, gE_3, gM_0, gM_1, gM_2, gM_3, gN_0, gN_2, gN_3, gN_4, gN_5, gN_10, gN_11, gN_17, gN_18, gN_23, gN_24, gN_29, gN_35, gN_36, gN_42, am_p_p, Int.toNat_natCast, s37_0, s37_1, s37_2, s37_3, s37_5, s37_6, s37_9, s37_12, s37_13, s37_14, s37_17, s37_18, s37_19, s37_20, s37_21, s37_24, s37_27, s37_28, h, h0, h1, sm, Int.natCast_add, Int.cast_ofNat_Int]
theorem p_clocks (d o t p : Nat) (A : am_H) (n K P F kd fe : Int) (f : Nat → Int) (hP : P = (p : Int)) (hp : p ≤ 6) (h : am_g A t = ob 8 14 (gW t n K P F kd fe)) (h0 : am_g A o = ob 6 3 (gS o)) (h1 : am_g A (o + 2) = ar 6 f) : am_call d 37 [.ref o, .ref t] A = some (some (.int (Int32.ofInt (sm f p))), A) := by
  rw [← p_clocks_loop d o t p A n K P F kd fe f hP hp h h0 h1 p 0 (by omega)]
  simp (disch := omega) only [am_bv_some, am_bi_int, am_bl_long, am_br_ref, am_bc_some, am_bq_some, am_gf_c, am_rd_c, am_bh_pf, am_bh_wr, am_g_p, ob_get, ob_put, ar_get, ar_put, ob_tag, ar_tag, i_zero, i_add, i_sub, i_mul, i_lt, i_le, i_eq, i_val, if_pos, if_neg, Option.toList_some, Option.toList_none, List.cons_append, List.nil_append, beq_self_eq_true, true_or, or_true, up_at, up_ne, ↓reduceIte, Nat.reduceEqDiff, le_t, le_f, lt_t, lt_f, eq_t, eq_f, nq_t, nq_f, nl_t, nl_f, and_true, true_and, and_false, false_and, not_true_eq_false, not_false_eq_true, or_false, false_or, az_tag, al_tag, az_get, az_put, am_bh_wz, gX, gT, gW, gS, gA, gL, gM, gE, gN, gX_11, gX_1, gX_2, gT_1, gW_0, gW_1, gW_2, gW_3, gW_12, gW_13, gA_1, gL_1, gE_3, gM_0, gM_1, gM_2, gM_3, gN_0, gN_2, gN_3, gN_4, gN_5, gN_10, gN_11, gN_17, gN_18, gN_23, gN_24, gN_29, gN_35, gN_36, gN_42, am_p_p, Int.toNat_natCast, c37, s37_0, s37_1, s37_2, s37_3, s37_5, s37_6, s37_9, s37_12, s37_13, s37_14, s37_17, s37_18, s37_19, s37_20, s37_21, s37_24, s37_27, s37_28, h0, sm, Int.cast_ofNat_Int]
/-- a set of people by its bits -/
def sb (b : Nat → Int) : Nat → Int
  | 0 => 0
  | n + 1 => sb b n + b n * (2 ^ n : Nat)
theorem sb_lt {b : Nat → Int} {n : Nat} (h : ∀ j, j < n → b j = 0 ∨ b j = 1) : 0 ≤ sb b n ∧ sb b n < (2 ^ n : Nat) := by
  induction n with
  | zero => simp [sb]
  | succ n ih =>
    have h1 := ih (fun j hj => h j (by omega))
    simp only [sb]
    have e : ((2 ^ (n + 1) : Nat) : Int) = 2 * ((2 ^ n : Nat) : Int) := by rw [Nat.pow_succ]; omega
    rw [e]
    generalize ((2 ^ n : Nat) : Int) = x at *
    rcases h n (by omega) with h2 | h2 <;> rw [h2] <;> constructor <;> omega
theorem sb_ext {f g : Nat → Int} {n : Nat} (h : ∀ j, j < n → f j = g j) : sb f n = sb g n := by
  induction n with
  | zero => rfl
  | succ n ih => simp only [sb]; rw [ih (fun j hj => h j (by omega)), h n (by omega)]
theorem i_or_fin : ∀ p : Fin 7, ∀ x : Fin 128, (x : Nat) < 2 ^ (p : Nat) → Int32.ofInt ((x : Nat) : Int) ||| (Int32.ofInt 1 <<< (Int32.ofInt ((p : Nat) : Int) &&& 31)) = Int32.ofInt (((x : Nat) : Int) + ((2 ^ (p : Nat) : Nat) : Int)) := by decide +kernel
theorem i_or {p : Nat} {x : Int} (h0 : 0 ≤ x) (hp : p < 7) (h1 : x < (2 ^ p : Nat)) : Int32.ofInt x ||| (Int32.ofInt 1 <<< (Int32.ofInt (p : Int) &&& 31)) = Int32.ofInt (x + (2 ^ p : Nat)) := by
  have h2 : 2 ^ p ≤ 2 ^ 6 := Nat.pow_le_pow_right (by decide) (by omega)
  have := i_or_fin ⟨p, hp⟩ ⟨x.toNat, by omega⟩ (by simp only; omega)
  simp only at this
  rw [show ((x.toNat : Nat) : Int) = x by omega] at this
  exact this
theorem p_atGoal_loop (d o t p : Nat) (A : am_H) (n K P F kd fe : Int) (f g : Nat → Int) (hP : P = (p : Int)) (hp : p ≤ 6) (h : am_g A t = ob 8 14 (gW t n K P F kd fe)) (h0 : am_g A o = ob 6 3 (gS o)) (h1 : am_g A (o + 1) = ar 6 f) (h2 : am_g A (t + 7) = ar 6 g) (hf : ∀ j, j < 6 → -2147483648 ≤ f j ∧ f j ≤ 2147483647) (hg : ∀ j, j < 6 → -2147483648 ≤ g j ∧ g j ≤ 2147483647) : ∀ (m k : Nat), k + m = p → am_run d 38 4 [.ref o, .ref t, .int (Int32.ofInt (sb (fun j => if f j = g j then 1 else 0) k)), .int (Int32.ofInt (k : Int))] [] A = some (some (.int (Int32.ofInt (sb (fun j => if f j = g j then 1 else 0) p))), A) := by
  intro m
  induction m with
  | zero =>
    intro k hk
    have : k = p := by omega
    subst this
    subst hP
    simp (disch := omega) only [am_bv_some, am_bi_int, am_bl_long, am_br_ref, am_bc_some, am_bq_some, am_gf_c, am_rd_c, am_bh_pf, am_bh_wr, am_g_p, ob_get, ob_put, ar_get, ar_put, ob_tag, ar_tag, i_zero, i_add, i_sub, i_mul, i_lt, i_le, i_eq, i_val, if_pos, if_neg, Option.toList_some, Option.toList_none, List.cons_append, List.nil_append, beq_self_eq_true, true_or, or_true, up_at, up_ne, ↓reduceIte, Nat.reduceEqDiff, le_t, le_f, lt_t, lt_f, eq_t, eq_f, nq_t, nq_f, nl_t, nl_f, and_true, true_and, and_false, false_and, not_true_eq_false, not_false_eq_true, or_false, false_or, az_tag, al_tag, az_get, az_put, am_bh_wz, gX, gT, gW, gS, gA, gL, gM, gE, gN, gX_11, gX_1, gX_2, gT_1, gW_0, gW_1, gW_2, gW_3, gW_12, gW_13, gA_1, gL_1, gE_3, gM_0, gM_1, gM_2, gM_3, gN_0, gN_2, gN_3, gN_4, gN_5, gN_10, gN_11, gN_17, gN_18, gN_23, gN_24, gN_29, gN_35, gN_36, gN_42, am_p_p, Int.toNat_natCast, s38_0, s38_1, s38_2, s38_3, s38_4, s38_5, s38_6, s38_9, s38_12, s38_13, s38_16, s38_17, s38_18, s38_19, s38_22, s38_23, s38_24, s38_27, s38_28, s38_29, s38_30, s38_31, s38_32, s38_33, s38_36, s38_39, s38_40, h, h0, h1]
  | succ m ih =>
    intro k hk
    rw [← ih (k + 1) (by omega), s38_4]
    subst hP
    have b1 := hf k (by omega)
    have b2 := hg k (by omega)
    have b3 := sb_lt (b := fun j => if f j = g j then (1 : Int) else 0) (n := k) (fun j hj => by split <;> simp)
    by_cases hfg : f k = g k
    · simp (disch := omega) only [am_bv_some, am_bi_int, am_bl_long, am_br_ref, am_bc_some, am_bq_some, am_gf_c, am_rd_c, am_bh_pf, am_bh_wr, am_g_p, ob_get, ob_put, ar_get, ar_put, ob_tag, ar_tag, i_zero, i_add, i_sub, i_mul, i_lt, i_le, i_eq, i_val, if_pos, if_neg, Option.toList_some, Option.toList_none, List.cons_append, List.nil_append, beq_self_eq_true, true_or, or_true, up_at, up_ne, ↓reduceIte, Nat.reduceEqDiff, le_t, le_f, lt_t, lt_f, eq_t, eq_f, nq_t, nq_f, nl_t, nl_f, and_true, true_and, and_false, false_and, not_true_eq_false, not_false_eq_true, or_false, false_or, az_tag, al_tag, az_get, az_put, am_bh_wz, gX, gT, gW, gS, gA, gL, gM, gE, gN, gX_11, gX_1, gX_2, gT_1, gW_0, gW_1, gW_2, gW_3, gW_12, gW_13, gA_1, gL_1, gE_3, gM_0, gM_1, gM_2, gM_3, gN_0, gN_2, gN_3, gN_4, gN_5, gN_10, gN_11, gN_17, gN_18, gN_23, gN_24, gN_29, gN_35, gN_36, gN_42, am_p_p, Int.toNat_natCast, s38_0, s38_1, s38_2, s38_3, s38_5, s38_6, s38_9, s38_12, s38_13, s38_16, s38_17, s38_18, s38_19, s38_22, s38_23, s38_24, s38_27, s38_28, s38_29, s38_30, s38_31, s38_32, s38_33, s38_36, s38_39, s38_40, h, h0, h1, h2, sb, i_or, b3, Int.one_mul, Int.natCast_add, Int.cast_ofNat_Int]
    · simp (disch := omega) only [am_bv_some, am_bi_int, am_bl_long, am_br_ref, am_bc_some, am_bq_some, am_gf_c, am_rd_c, am_bh_pf, am_bh_wr, am_g_p, ob_get, ob_put, ar_get, ar_put, ob_tag, ar_tag, i_zero, i_add, i_sub, i_mul, i_lt, i_le, i_eq, i_val, if_pos, if_neg, Option.toList_some, Option.toList_none, List.cons_append, List.nil_append, beq_self_eq_true, true_or, or_true, up_at, up_ne, ↓reduceIte, Nat.reduceEqDiff, le_t, le_f, lt_t, lt_f, eq_t, eq_f, nq_t, nq_f, nl_t, nl_f, and_true, true_and, and_false, false_and, not_true_eq_false, not_false_eq_true, or_false, false_or, az_tag, al_tag, az_get, az_put, am_bh_wz, gX, gT, gW, gS, gA, gL, gM, gE, gN, gX_11, gX_1, gX_2, gT_1, gW_0, gW_1, gW_2, gW_3, gW_12, gW_13, gA_1, gL_1, gE_3, gM_0, gM_1, gM_2, gM_3, gN_0, gN_2, gN_3, gN_4, gN_5, gN_10, gN_11, gN_17, gN_18, gN_23, gN_24, gN_29, gN_35, gN_36, gN_42, am_p_p, Int.toNat_natCast, s38_0, s38_1, s38_2, s38_3, s38_5, s38_6, s38_9, s38_12, s38_13, s38_16, s38_17, s38_18, s38_19, s38_22, s38_23, s38_24, s38_27, s38_28, s38_29, s38_30, s38_31, s38_32, s38_33, s38_36, s38_39, s38_40, h, h0, h1, h2, sb, Int.zero_mul, Int.add_zero, Int.natCast_add, Int.cast_ofNat_Int]
theorem p_atGoal (d o t p : Nat) (A : am_H) (n K P F kd fe : Int) (f g : Nat → Int) (hP : P = (p : Int)) (hp : p ≤ 6) (h : am_g A t = ob 8 14 (gW t n K P F kd fe)) (h0 : am_g A o = ob 6 3 (gS o)) (h1 : am_g A (o + 1) = ar 6 f) (h2 : am_g A (t + 7) = ar 6 g) (hf : ∀ j, j < 6 → -2147483648 ≤ f j ∧ f j ≤ 2147483647) (hg : ∀ j, j < 6 → -2147483648 ≤ g j ∧ g j ≤ 2147483647) : am_call d 38 [.ref o, .ref t] A = some (some (.int (Int32.ofInt (sb (fun j => if f j = g j then 1 else 0) p))), A) := by
  rw [← p_atGoal_loop d o t p A n K P F kd fe f g hP hp h h0 h1 h2 hf hg p 0 (by omega)]
  simp (disch := omega) only [am_bv_some, am_bi_int, am_bl_long, am_br_ref, am_bc_some, am_bq_some, am_gf_c, am_rd_c, am_bh_pf, am_bh_wr, am_g_p, ob_get, ob_put, ar_get, ar_put, ob_tag, ar_tag, i_zero, i_add, i_sub, i_mul, i_lt, i_le, i_eq, i_val, if_pos, if_neg, Option.toList_some, Option.toList_none, List.cons_append, List.nil_append, beq_self_eq_true, true_or, or_true, up_at, up_ne, ↓reduceIte, Nat.reduceEqDiff, le_t, le_f, lt_t, lt_f, eq_t, eq_f, nq_t, nq_f, nl_t, nl_f, and_true, true_and, and_false, false_and, not_true_eq_false, not_false_eq_true, or_false, false_or, az_tag, al_tag, az_get, az_put, am_bh_wz, gX, gT, gW, gS, gA, gL, gM, gE, gN, gX_11, gX_1, gX_2, gT_1, gW_0, gW_1, gW_2, gW_3, gW_12, gW_13, gA_1, gL_1, gE_3, gM_0, gM_1, gM_2, gM_3, gN_0, gN_2, gN_3, gN_4, gN_5, gN_10, gN_11, gN_17, gN_18, gN_23, gN_24, gN_29, gN_35, gN_36, gN_42, am_p_p, Int.toNat_natCast, c38, s38_0, s38_1, s38_2, s38_3, s38_5, s38_6, s38_9, s38_12, s38_13, s38_16, s38_17, s38_18, s38_19, s38_22, s38_23, s38_24, s38_27, s38_28, s38_29, s38_30, s38_31, s38_32, s38_33, s38_36, s38_39, s38_40, h0, sb, Int.cast_ofNat_Int]
/-- minutes of a glide: how long the canal is, the paces, its bend, how worn they are -/
def gmn (far p1 p2 bd w1 w2 : Int) : Int := far * (10 - (if p2 < p1 then p2 else p1)) + (if bd = 1 then w1 else if bd = 2 then w2 else 0)
theorem p_glideMinutes (d o t a b c : Nat) (A : am_H) (n K P F kd fe : Int) (ln bd pa wn : Nat → Int) (h : am_g A t = ob 8 14 (gW t n K P F kd fe)) (h0 : am_g A o = ob 6 3 (gS o)) (h1 : am_g A (t + 3) = ar 8 ln) (h2 : am_g A (t + 4) = ar 8 bd) (h3 : am_g A (t + 6) = ar 6 pa) (h4 : am_g A (o + 3) = ar 6 wn) (ha : a < 6) (hb : b < 6) (hc : c < 8) (r1 : -2147483648 ≤ pa a ∧ pa a ≤ 2147483647) (r2 : -2147483648 ≤ pa b ∧ pa b ≤ 2147483647) (r3 : 0 ≤ bd c ∧ bd c ≤ 2) : am_call (d + 1) 39 [.ref o, .ref t, .int (Int32.ofInt (a : Int)), .int (Int32.ofInt (b : Int)), .int (Int32.ofInt (c : Int))] A = some (some (.int (Int32.ofInt (gmn (ln c) (pa a) (pa b) (bd c) (wn a) (wn b)))), A) := by
  unfold gmn
  by_cases g1 : pa b < pa a <;> by_cases g2 : bd c = 1 <;> by_cases g3 : bd c = 2 <;> first | (exfalso; omega) | simp (disch := omega) only [am_bv_some, am_bi_int, am_bl_long, am_br_ref, am_bc_some, am_bq_some, am_gf_c, am_rd_c, am_bh_pf, am_bh_wr, am_g_p, ob_get, ob_put, ar_get, ar_put, ob_tag, ar_tag, i_zero, i_add, i_sub, i_mul, i_lt, i_le, i_eq, i_val, if_pos, if_neg, Option.toList_some, Option.toList_none, List.cons_append, List.nil_append, beq_self_eq_true, true_or, or_true, up_at, up_ne, ↓reduceIte, Nat.reduceEqDiff, le_t, le_f, lt_t, lt_f, eq_t, eq_f, nq_t, nq_f, nl_t, nl_f, and_true, true_and, and_false, false_and, not_true_eq_false, not_false_eq_true, or_false, false_or, az_tag, al_tag, az_get, az_put, am_bh_wz, gX, gT, gW, gS, gA, gL, gM, gE, gN, gX_11, gX_1, gX_2, gT_1, gW_0, gW_1, gW_2, gW_3, gW_12, gW_13, gA_1, gL_1, gE_3, gM_0, gM_1, gM_2, gM_3, gN_0, gN_2, gN_3, gN_4, gN_5, gN_10, gN_11, gN_17, gN_18, gN_23, gN_24, gN_29, gN_35, gN_36, gN_42, am_p_p, Int.toNat_natCast, c39, s39_0, s39_1, s39_4, s39_5, s39_6, s39_7, s39_10, s39_11, s39_12, s39_15, s39_17, s39_18, s39_21, s39_23, s39_24, s39_26, s39_28, s39_29, s39_30, s39_32, s39_33, s39_36, s39_38, s39_39, s39_40, s39_43, s39_45, s39_46, s39_49, s39_50, s39_51, s39_52, s39_53, s39_54, s39_57, s39_59, s39_60, s39_61, s39_64, s39_66, s39_67, s39_70, s39_71, s39_72, s39_73, s39_76, s39_78, h, h0, h1, h2, h3, h4, Int.add_zero]
theorem p_arrive (d o a : Nat) (A : am_H) (f g : Nat → Int) (x y : Int) (h0 : am_g A o = ob 6 3 (gS o)) (h1 : am_g A (o + 1) = ar 6 f) (h2 : am_g A (o + 2) = ar 6 g) (ha : a < 6) : am_call d 42 [.ref o, .int (Int32.ofInt (a : Int)), .int (Int32.ofInt x), .int (Int32.ofInt y)] A = some (none, am_p (am_p A (o + 1) (ar 6 (up f a x))) (o + 2) (ar 6 (up g a y))) := by
  simp (disch := omega) only [am_bv_some, am_bi_int, am_bl_long, am_br_ref, am_bc_some, am_bq_some, am_gf_c, am_rd_c, am_bh_pf, am_bh_wr, am_g_p, ob_get, ob_put, ar_get, ar_put, ob_tag, ar_tag, i_zero, i_add, i_sub, i_mul, i_lt, i_le, i_eq, i_val, if_pos, if_neg, Option.toList_some, Option.toList_none, List.cons_append, List.nil_append, beq_self_eq_true, true_or, or_true, up_at, up_ne, ↓reduceIte, Nat.reduceEqDiff, le_t, le_f, lt_t, lt_f, eq_t, eq_f, nq_t, nq_f, nl_t, nl_f, and_true, true_and, and_false, false_and, not_true_eq_false, not_false_eq_true, or_false, false_or, az_tag, al_tag, az_get, az_put, am_bh_wz, gX, gT, gW, gS, gA, gL, gM, gE, gN, gX_11, gX_1, gX_2, gT_1, gW_0, gW_1, gW_2, gW_3, gW_12, gW_13, gA_1, gL_1, gE_3, gM_0, gM_1, gM_2, gM_3, gN_0, gN_2, gN_3, gN_4, gN_5, gN_10, gN_11, gN_17, gN_18, gN_23, gN_24, gN_29, gN_35, gN_36, gN_42, am_p_p, Int.toNat_natCast, c42, s42_0, s42_1, s42_4, s42_5, s42_6, s42_7, s42_8, s42_11, s42_12, s42_13, s42_14, h0, h1, h2]
theorem p_wear (d o a : Nat) (A : am_H) (f : Nat → Int) (h0 : am_g A o = ob 6 3 (gS o)) (h1 : am_g A (o + 3) = ar 6 f) (ha : a < 6) (hf : 0 ≤ f a ∧ f a ≤ 9) : am_call (d + 1) 43 [.ref o, .int (Int32.ofInt (a : Int))] A = some (none, am_p A (o + 3) (ar 6 (up f a (if f a < 9 then f a + 1 else 9)))) := by
  by_cases g : f a < 9 <;> by_cases g2 : f a + 1 < 9 <;> first | (exfalso; omega) | simp (disch := omega) only [am_bv_some, am_bi_int, am_bl_long, am_br_ref, am_bc_some, am_bq_some, am_gf_c, am_rd_c, am_bh_pf, am_bh_wr, am_g_p, ob_get, ob_put, ar_get, ar_put, ob_tag, ar_tag, i_zero, i_add, i_sub, i_mul, i_lt, i_le, i_eq, i_val, if_pos, if_neg, Option.toList_some, Option.toList_none, List.cons_append, List.nil_append, beq_self_eq_true, true_or, or_true, up_at, up_ne, ↓reduceIte, Nat.reduceEqDiff, le_t, le_f, lt_t, lt_f, eq_t, eq_f, nq_t, nq_f, nl_t, nl_f, and_true, true_and, and_false, false_and, not_true_eq_false, not_false_eq_true, or_false, false_or, az_tag, al_tag, az_get, az_put, am_bh_wz, gX, gT, gW, gS, gA, gL, gM, gE, gN, gX_11, gX_1, gX_2, gT_1, gW_0, gW_1, gW_2, gW_3, gW_12, gW_13, gA_1, gL_1, gE_3, gM_0, gM_1, gM_2, gM_3, gN_0, gN_2, gN_3, gN_4, gN_5, gN_10, gN_11, gN_17, gN_18, gN_23, gN_24, gN_29, gN_35, gN_36, gN_42, am_p_p, Int.toNat_natCast, c43, s43_0, s43_1, s43_4, s43_5, s43_6, s43_9, s43_10, s43_11, s43_12, s43_13, s43_15, s43_18, s43_19, h0, h1]
