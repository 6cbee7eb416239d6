/-- two of unlike feet, by these feet: the town with their minutes -/
def gz (S : Nat → Nat → Int) (F : Int) (a b : Nat) : Nat → Nat → Int := if bi F a = 1 then Sg S a b else Sg S b a
theorem gz_TW {S : Nat → Nat → Int} {c a b : Nat} (F : Int) (hR : RR S c) (ha : (a : Int) < S 1 3) (hb : (b : Int) < S 1 3) : TW (gz S F a b) := by
  unfold gz
  split
  · exact Sg_TW hR ha hb
  · exact Sg_TW hR hb ha
theorem Sg_rng {S : Nat → Nat → Int} {c a b : Nat} (hR : RR S c) (ha : (a : Int) < S 1 3) (hb : (b : Int) < S 1 3) (s g : Nat) : dl (Sg S a b) s g = 2147483647 ∨ 0 ≤ dl (Sg S a b) s g ∧ dl (Sg S a b) s g ≤ 5760 :=
  dl_bd (Sg_TW hR ha hb) (W := 90) (fun k hk => (gw_rng hR ha hb hk).2) (by omega) s g
theorem gz_rng {S : Nat → Nat → Int} {c a b : Nat} (F : Int) (hR : RR S c) (ha : (a : Int) < S 1 3) (hb : (b : Int) < S 1 3) (s g : Nat) : dl (gz S F a b) s g = 2147483647 ∨ 0 ≤ dl (gz S F a b) s g ∧ dl (gz S F a b) s g ≤ 5760 := by
  unfold gz
  split
  · exact Sg_rng hR ha hb s g
  · exact Sg_rng hR hb ha s g
theorem dl_rng9 {S : Nat → Nat → Int} {c : Nat} (hR : RR S c) (s g : Nat) : dl S s g = 2147483647 ∨ 0 ≤ dl S s g ∧ dl S s g ≤ 576 :=
  dl_bd hR.TW (W := 9) (fun k hk => by have := hR.1.2.2.2.2.2.2.2.2.2.2.1 k hk; omega) (by omega) s g
theorem alm_rng {S : Nat → Nat → Int} {c p : Nat} (hR : RR S c) (hp : (p : Int) < S 1 3) (s g : Nat) : alm (dl S s g) (S 6 p) = 2147483647 ∨ 0 ≤ alm (dl S s g) (S 6 p) ∧ alm (dl S s g) (S 6 p) ≤ 15552 := by
  have h1 := dl_rng9 hR s g
  have h2 := hR.1.2.2.2.2.2.2.2.2.2.2.2.1 p hp
  unfold alm
  split
  · left; rfl
  · right
    have a1 := Int.mul_le_mul (show 3 * dl S s g ≤ 1728 by omega) (show 10 - S 6 p ≤ 9 by omega) (by omega) (by omega)
    have a2 := Int.mul_nonneg (show 0 ≤ 3 * dl S s g by omega) (show 0 ≤ 10 - S 6 p by omega)
    omega
theorem m_wayG (d c a b s g : Nat) (A : am_H) (S : Nat → Nat → Int) (F : Int) (N : Nat → Int) (sd : Int64) (fr to fa be pa go f : Nat → Int) (hR : RR S c) (h0 : am_g A 105 = ob 11 43 (gN N sd)) (h5 : N 5 = S 1 2) (hT : MT A S fr to fa be pa go) (h115 : am_g A 115 = ar 6 (S 10)) (h128 : am_g A 128 = ar 6 f) (ha : (a : Int) < S 1 3) (hb : (b : Int) < S 1 3) (hs : (s : Int) < S 1 1) (hg : g < 6) (hF : 0 ≤ F ∧ F < 64) (hu : bi F a ≠ bi F b) : ∃ A', am_call (d + 3) 135 [.ref 105, .int (Int32.ofInt (a : Int)), .int (Int32.ofInt (b : Int)), .int (Int32.ofInt (s : Int)), .int (Int32.ofInt (g : Int)), .int (Int32.ofInt F)] A = some (some (.int (Int32.ofInt (dz 999999 (dl (gz S F a b) s g)))), A') ∧ (∃ f, am_g A' 128 = ar 6 f) ∧ ∀ i, i ≠ 128 → am_g A' i = am_g A i := by
  have hR' := hR
  obtain ⟨⟨g1, g2, g3, g4, g5, g6, g7, g8, g9, g10, g11, g12, g13⟩, ⟨w1, w2, w3, w4⟩, g14, g15, g16, g17, g18⟩ := id hR
  obtain ⟨y107, y108, y109, y110, y111, y112, yK, yP⟩ := hT
  have hab : a ≠ b := fun e => hu (by rw [e])
  have ya := yP a ha
  have yb := yP b hb
  have ra := g12 a ha
  have rb := g12 b hb
  have hm : WYm (d + 2) A S a b F (gz S F a b 4) := by
    refine Or.inr ⟨hab, fun A1 hA1 k hk => ?_⟩
    have yk := yK k hk
    have rk := g11 k hk
    have := m_glides d a b k A1 N sd be fa pa (S 10) F (by rw [hA1 _ (by omega)]; exact h0) (by rw [hA1 _ (by omega)]; exact y110) (by rw [hA1 _ (by omega)]; exact y109) (by rw [hA1 _ (by omega)]; exact y111) (by rw [hA1 _ (by omega)]; exact h115) (by omega) (by omega) (by omega) hF (by omega) (by omega) (by omega) hu
    rw [yk.2.2.1, yk.2.2.2, ya.1, yb.1] at this
    rw [this]
    unfold gz
    split <;> rfl
  have hZ0 := dl_BFh (gz_TW F hR' ha hb) (a := s) (by unfold gz; split <;> exact hs) (Z := 999999) (by omega)
  have hZ : BFh S (gz S F a b 4) s (fun v => dz 999999 (dl (gz S F a b) s v)) 999999 := by
    obtain ⟨-, x1, x2, x3, x4, x5, x6, x7⟩ := hZ0
    refine ⟨hR'.TW, hs, x2, x3, ?_, ?_, ?_, ?_⟩
    · intro e he; exact x4 e (by unfold gz; split <;> exact he)
    · intro e u v he hed; exact x5 e u v (by unfold gz; split <;> exact he) (by unfold gz; split <;> exact hed)
    · intro v hv hz
      obtain ⟨e, u, k1, k2, k3⟩ := x6 v hv hz
      exact ⟨e, u, by unfold gz at k1; split at k1 <;> exact k1, by unfold gz at k2; split at k2 <;> exact k2, k3⟩
    · intro v hv hz; exact x7 v hv (by unfold gz; split <;> exact hz)
  exact m_wayOf (d + 2) a b s g A S F (gz S F a b 4) _ N sd fr to f ⟨h0, h5, y107, y108, fun k hk => ⟨(yK k hk).1, (yK k hk).2.1⟩⟩ h128 hm (by omega) (by omega) hg hZ
theorem m_wayP (d c p s g : Nat) (A : am_H) (S : Nat → Nat → Int) (F : Int) (N : Nat → Int) (sd : Int64) (fr to fa be pa go f : Nat → Int) (hR : RR S c) (h0 : am_g A 105 = ob 11 43 (gN N sd)) (h5 : N 5 = S 1 2) (hT : MT A S fr to fa be pa go) (h128 : am_g A 128 = ar 6 f) (hp : (p : Int) < S 1 3) (hs : (s : Int) < S 1 1) (hg : g < 6) : ∃ A', am_call (d + 3) 135 [.ref 105, .int (Int32.ofInt (p : Int)), .int (Int32.ofInt (p : Int)), .int (Int32.ofInt (s : Int)), .int (Int32.ofInt (g : Int)), .int (Int32.ofInt F)] A = some (some (.int (Int32.ofInt (dz 999999 (alm (dl S s g) (S 6 p))))), A') ∧ (∃ f, am_g A' 128 = ar 6 f) ∧ ∀ i, i ≠ 128 → am_g A' i = am_g A i := by
  have hR' := hR
  obtain ⟨⟨g1, g2, g3, g4, g5, g6, g7, g8, g9, g10, g11, g12, g13⟩, ⟨w1, w2, w3, w4⟩, g14, g15, g16, g17, g18⟩ := id hR
  obtain ⟨y107, y108, y109, y110, y111, y112, yK, yP⟩ := hT
  have yp := yP p hp
  have rp := g12 p hp
  have hm : WYm (d + 2) A S p p F (fun e => 3 * (10 - S 6 p) * S 4 e) := by
    refine Or.inl ⟨rfl, fun A1 hA1 k hk => ?_⟩
    have yk := yK k hk
    have := m_pushes (d + 2) p k A1 N sd fa pa (by rw [hA1 _ (by omega)]; exact h0) (by rw [hA1 _ (by omega)]; exact y109) (by rw [hA1 _ (by omega)]; exact y111) (by omega) (by omega)
    rw [yk.2.2.1, yp.1, show 3 * S 4 k * (10 - S 6 p) = 3 * (10 - S 6 p) * S 4 k by grind] at this
    exact this
  have hZ := BFh_mul hR'.TW (a := s) hs (Z := 999999) (c := 3 * (10 - S 6 p)) (by omega) (by omega) (fun k hk => by have := g11 k hk; omega)
  have ez : dz 999999 (alm (dl S s g) (S 6 p)) = if dl S s g = 2147483647 then 999999 else 3 * (10 - S 6 p) * dl S s g := by
    have := alm_rng hR' hp s g
    unfold alm at this ⊢
    split
    · exact dz_i _
    next q =>
      rw [if_neg q] at this
      have r9 := dl_rng9 hR' s g
      have a1 := Int.mul_le_mul (show 3 * dl S s g ≤ 1728 by omega) (show 10 - S 6 p ≤ 9 by omega) (by omega) (by omega)
      rw [dz_f (by omega)]
      grind
  rw [ez]
  exact m_wayOf (d + 2) p p s g A S F _ _ N sd fr to f ⟨h0, h5, y107, y108, fun k hk => ⟨(yK k hk).1, (yK k hk).2.1⟩⟩ h128 hm (by omega) (by omega) hg hZ
theorem dz_onn {x : Int} (h : x = 2147483647 ∨ 0 ≤ x ∧ x ≤ 100000) : (if dz 999999 x = 999999 then -9 else dz 999999 x) = onn x := by
  unfold onn
  rcases h with h | h
  · rw [h, dz_i, if_pos rfl, if_pos rfl]
  · rw [dz_f (by omega), if_neg (by omega), if_neg (by omega)]
def wayOk (S : Nat → Nat → Int) (x y z w : Int) : Prop := (0 ≤ x ∧ x < S 1 3) ∧ (0 ≤ y ∧ y < S 1 3) ∧ (0 ≤ z ∧ z < S 1 1) ∧ 0 ≤ w ∧ w < S 1 1
noncomputable def wayR (S : Nat → Nat → Int) (x y z w : Int) : Int := @ite _ (wayOk S x y z w) (Classical.propDecidable _) (if bi (S 1 4) x.toNat = bi (S 1 4) y.toNat then -2 else onn (dl (gz S (S 1 4) x.toNat y.toNat) z.toNat w.toNat)) (-1)
theorem x_way (d c : Nat) (A : am_H) (S : Nat → Nat → Int) (sd : Int64) (x y z w : Int) (h : XI A S sd) (hR : RR S c) (hx : -2147483648 ≤ x ∧ x ≤ 2147483647) (hy : -2147483648 ≤ y ∧ y ≤ 2147483647) (hz : -2147483648 ≤ z ∧ z ≤ 2147483647) (hw : -2147483648 ≤ w ∧ w ≤ 2147483647) : ∃ A', am_call (d + 20) 81 [.ref 1, .int (Int32.ofInt x), .int (Int32.ofInt y), .int (Int32.ofInt z), .int (Int32.ofInt w)] A = some (some (.int (Int32.ofInt (wayR S x y z w))), A') ∧ XI A' S sd ∧ FX A A' := by
  have hI := h
  have hR' := hR
  obtain ⟨t, u, q, ap, hA, hT, hP, hUu, hS, hB, hK, hE, hM, hQ, hNn, hW⟩ := h
  have htu := hA.2.1
  have a1 := hA.1
  have a2 := hA.2.2.1
  have a3 := hA.2.2.2
  obtain ⟨⟨kd, fe, t0⟩, t1, t2, t3, t4, ⟨tst, t5⟩, t6, t7, t8⟩ := id hT
  obtain ⟨n0, n1, n2, n3⟩ := id hNn
  obtain ⟨s0, s1, s2, s3⟩ := id hS
  have hF := hR.1.F64
  obtain ⟨⟨g1, g2, g3, g4, g5, g6, g7, g8, g9, g10, g11, g12, g13⟩, ⟨w1, w2, w3, w4⟩, g14, g15, g16, g17, g18⟩ := id hR
  have px := fun d => p_hasPerson d A t _ _ _ _ _ _ x t0 g4 hx
  have py := fun d => p_hasPerson d A t _ _ _ _ _ _ y t0 g4 hy
  have pz := fun d => p_hasCorner d A t _ _ _ _ _ _ z t0 (by omega) hz
  have pw := fun d => p_hasCorner d A t _ _ _ _ _ _ w t0 (by omega) hw
  unfold wayR
  by_cases q0 : wayOk S x y z w
  · rw [if_pos q0]
    obtain ⟨q1, q2, q3, q4⟩ := q0
    rw [if_pos q1] at px
    rw [if_pos q2] at py
    rw [if_pos q3] at pz
    rw [if_pos q4] at pw
    obtain ⟨a, rfl⟩ : ∃ a : Nat, x = (a : Int) := ⟨x.toNat, by omega⟩
    obtain ⟨b, rfl⟩ : ∃ b : Nat, y = (b : Int) := ⟨y.toNat, by omega⟩
    obtain ⟨s, rfl⟩ : ∃ s : Nat, z = (s : Int) := ⟨z.toNat, by omega⟩
    obtain ⟨g, rfl⟩ : ∃ g : Nat, w = (g : Int) := ⟨w.toNat, by omega⟩
    simp only [Int.toNat_natCast]
    have pu := fun d => p_areUnlike d A t a b _ _ _ _ _ _ t0 hF (by omega) (by omega)
    have pL := fun d => p_isLeft d A t a _ _ _ _ _ _ t0 hF (by omega)
    by_cases q5 : bi (S 1 4) a = bi (S 1 4) b
    · rw [if_pos q5] at pu ⊢
      exact ⟨A, by simp (disch := omega) only [am_bv_some, am_bi_int, am_bl_long, am_br_ref, am_bc_some, am_bq_some, am_gf_c, am_rd_c, am_bh_pf, am_bh_wr, am_g_p, ob_get, ob_put, ar_get, ar_put, ob_tag, ar_tag, i_zero, i_add, i_sub, i_mul, i_lt, i_le, i_eq, i_val, if_pos, if_neg, Option.toList_some, Option.toList_none, List.cons_append, List.nil_append, beq_self_eq_true, true_or, or_true, up_at, up_ne, ↓reduceIte, Nat.reduceEqDiff, le_t, le_f, lt_t, lt_f, eq_t, eq_f, nq_t, nq_f, nl_t, nl_f, and_true, true_and, and_false, false_and, not_true_eq_false, not_false_eq_true, or_false, false_or, az_tag, al_tag, az_get, az_put, am_bh_wz, gX, gT, gW, gS, gA, gL, gM, gE, gN, gX_11, gX_1, gX_2, gT_1, gW_0, gW_1, gW_2, gW_3, gW_12, gW_13, gA_1, gL_1, gE_3, gM_0, gM_1, gM_2, gM_3, gN_0, gN_2, gN_3, gN_4, gN_5, gN_10, gN_11, gN_17, gN_18, gN_23, gN_24, gN_29, gN_35, gN_36, gN_42, am_p_p, Int.toNat_natCast, aq_tag, am_rq_c, am_bh_wq, aq_get3, aq_get4, aq_put3, Int.reduceAdd, Int.reduceSub, Int.reduceMul, Int.reduceToNat, c81, s81_0, s81_1, s81_4, s81_5, s81_8, s81_11, s81_12, s81_15, s81_16, s81_19, s81_22, s81_23, s81_26, s81_27, s81_30, s81_33, s81_34, s81_37, s81_39, s81_42, s81_45, s81_46, s81_47, s81_48, s81_51, s81_52, s81_53, s81_56, s81_59, s81_61, s81_62, s81_63, s81_66, s81_67, s81_70, s81_73, s81_74, s81_77, s81_78, s81_81, s81_82, s81_85, s81_86, s81_87, s81_88, s81_91, s81_94, s81_95, s81_98, s81_99, s81_102, s81_103, s81_106, s81_107, s81_108, s81_109, s81_112, s81_113, s81_116, s81_119, s81_121, s81_122, s81_125, a1, px, py, pz, pw, pu], hI, fun _ _ => rfl⟩
    · rw [if_neg q5] at pu ⊢
      obtain ⟨k77, ⟨f78, k78⟩, k79, k80⟩ := id hE
      have hSP : SPw A S t kd fe := ⟨by omega, t0, t1, t2, t3, t4, t6, s0, s3, k77⟩
      have fin : ∀ (A' : am_H) (l r : Nat), (l : Int) < S 1 3 → (r : Int) < S 1 3 → am_g A' 78 = ar 6 (dl (Sg S l r) s) → (∀ i, i ≠ 78 → am_g A' i = am_g A i) → XI A' S sd ∧ FX A A' := by
        intro A' l r hl hr e1 e2
        refine ⟨hI.scr (fun i hi => e2 i (by omega)) ⟨by rw [e2 _ (by omega)]; exact k77, ⟨_, e1⟩, by rw [e2 _ (by omega)]; exact k79, by rw [e2 _ (by omega)]; exact k80⟩ (hM.congr (fun i a b => e2 i (by omega))) (hQ.congr (fun i a b => e2 i (by omega))) (hW.congr (fun i a b => e2 i (by omega))), fun i hi => e2 i (by omega)⟩
      by_cases q6 : bi (S 1 4) a = 1
      · rw [q6] at pL
        obtain ⟨A', e1, e2, e3⟩ := p_spread (d + 17) t a b c A S kd fe s f78 hR' hSP k78 q1.2 q2.2 q3.2
        have b1 : am_g A' 1 = ob 10 12 (gX t u sd) := by rw [e3 _ (by omega)]; exact a1
        have b77 : am_g A' 77 = ob 2 3 (gS 77) := by rw [e3 _ (by omega)]; exact k77
        have rg := Sg_rng hR' q1.2 q2.2 s g
        have po := fun d => p_orNone d A' (dl (Sg S a b) s g) (by omega)
        refine ⟨A', ?_, fin A' a b q1.2 q2.2 e2 e3⟩
        rw [show gz S (S 1 4) a b = Sg S a b from if_pos q6]
        simp (disch := omega) only [am_bv_some, am_bi_int, am_bl_long, am_br_ref, am_bc_some, am_bq_some, am_gf_c, am_rd_c, am_bh_pf, am_bh_wr, am_g_p, ob_get, ob_put, ar_get, ar_put, ob_tag, ar_tag, i_zero, i_add, i_sub, i_mul, i_lt, i_le, i_eq, i_val, if_pos, if_neg, Option.toList_some, Option.toList_none, List.cons_append, List.nil_append, beq_self_eq_true, true_or, or_true, up_at, up_ne, ↓reduceIte, Nat.reduceEqDiff, le_t, le_f, lt_t, lt_f, eq_t, eq_f, nq_t, nq_f, nl_t, nl_f, and_true, true_and, and_false, false_and, not_true_eq_false, not_false_eq_true, or_false, false_or, az_tag, al_tag, az_get, az_put, am_bh_wz, gX, gT, gW, gS, gA, gL, gM, gE, gN, gX_11, gX_1, gX_2, gT_1, gW_0, gW_1, gW_2, gW_3, gW_12, gW_13, gA_1, gL_1, gE_3, gM_0, gM_1, gM_2, gM_3, gN_0, gN_2, gN_3, gN_4, gN_5, gN_10, gN_11, gN_17, gN_18, gN_23, gN_24, gN_29, gN_35, gN_36, gN_42, am_p_p, Int.toNat_natCast, aq_tag, am_rq_c, am_bh_wq, aq_get3, aq_get4, aq_put3, Int.reduceAdd, Int.reduceSub, Int.reduceMul, Int.reduceToNat, c81, s81_0, s81_1, s81_4, s81_5, s81_8, s81_11, s81_12, s81_15, s81_16, s81_19, s81_22, s81_23, s81_26, s81_27, s81_30, s81_33, s81_34, s81_37, s81_39, s81_42, s81_45, s81_46, s81_47, s81_48, s81_51, s81_52, s81_53, s81_56, s81_59, s81_61, s81_62, s81_63, s81_66, s81_67, s81_70, s81_73, s81_74, s81_77, s81_78, s81_81, s81_82, s81_85, s81_86, s81_87, s81_88, s81_91, s81_94, s81_95, s81_98, s81_99, s81_102, s81_103, s81_106, s81_107, s81_108, s81_109, s81_112, s81_113, s81_116, s81_119, s81_121, s81_122, s81_125, a1, px, py, pz, pw, pu, pL, e1, b1, b77, e2, po]
      · have q6' : bi (S 1 4) a = 0 := by rcases bi_01 (S 1 4) a with e | e <;> omega
        rw [q6'] at pL
        obtain ⟨A', e1, e2, e3⟩ := p_spread (d + 17) t b a c A S kd fe s f78 hR' hSP k78 q2.2 q1.2 q3.2
        have b1 : am_g A' 1 = ob 10 12 (gX t u sd) := by rw [e3 _ (by omega)]; exact a1
        have b77 : am_g A' 77 = ob 2 3 (gS 77) := by rw [e3 _ (by omega)]; exact k77
        have rg := Sg_rng hR' q2.2 q1.2 s g
        have po := fun d => p_orNone d A' (dl (Sg S b a) s g) (by omega)
        refine ⟨A', ?_, fin A' b a q2.2 q1.2 e2 e3⟩
        rw [show gz S (S 1 4) a b = Sg S b a from if_neg q6]
        simp (disch := omega) only [am_bv_some, am_bi_int, am_bl_long, am_br_ref, am_bc_some, am_bq_some, am_gf_c, am_rd_c, am_bh_pf, am_bh_wr, am_g_p, ob_get, ob_put, ar_get, ar_put, ob_tag, ar_tag, i_zero, i_add, i_sub, i_mul, i_lt, i_le, i_eq, i_val, if_pos, if_neg, Option.toList_some, Option.toList_none, List.cons_append, List.nil_append, beq_self_eq_true, true_or, or_true, up_at, up_ne, ↓reduceIte, Nat.reduceEqDiff, le_t, le_f, lt_t, lt_f, eq_t, eq_f, nq_t, nq_f, nl_t, nl_f, and_true, true_and, and_false, false_and, not_true_eq_false, not_false_eq_true, or_false, false_or, az_tag, al_tag, az_get, az_put, am_bh_wz, gX, gT, gW, gS, gA, gL, gM, gE, gN, gX_11, gX_1, gX_2, gT_1, gW_0, gW_1, gW_2, gW_3, gW_12, gW_13, gA_1, gL_1, gE_3, gM_0, gM_1, gM_2, gM_3, gN_0, gN_2, gN_3, gN_4, gN_5, gN_10, gN_11, gN_17, gN_18, gN_23, gN_24, gN_29, gN_35, gN_36, gN_42, am_p_p, Int.toNat_natCast, aq_tag, am_rq_c, am_bh_wq, aq_get3, aq_get4, aq_put3, Int.reduceAdd, Int.reduceSub, Int.reduceMul, Int.reduceToNat, c81, s81_0, s81_1, s81_4, s81_5, s81_8, s81_11, s81_12, s81_15, s81_16, s81_19, s81_22, s81_23, s81_26, s81_27, s81_30, s81_33, s81_34, s81_37, s81_39, s81_42, s81_45, s81_46, s81_47, s81_48, s81_51, s81_52, s81_53, s81_56, s81_59, s81_61, s81_62, s81_63, s81_66, s81_67, s81_70, s81_73, s81_74, s81_77, s81_78, s81_81, s81_82, s81_85, s81_86, s81_87, s81_88, s81_91, s81_94, s81_95, s81_98, s81_99, s81_102, s81_103, s81_106, s81_107, s81_108, s81_109, s81_112, s81_113, s81_116, s81_119, s81_121, s81_122, s81_125, a1, px, py, pz, pw, pu, pL, e1, b1, b77, e2, po]
  · rw [if_neg q0]
    refine ⟨A, ?_, hI, fun _ _ => rfl⟩
    unfold wayOk at q0
    by_cases q1 : 0 ≤ x ∧ x < S 1 3
    · rw [if_pos q1] at px
      by_cases q2 : 0 ≤ y ∧ y < S 1 3
      · rw [if_pos q2] at py
        by_cases q3 : 0 ≤ z ∧ z < S 1 1
        · rw [if_pos q3] at pz
          rw [if_neg (fun e => q0 ⟨q1, q2, q3, e⟩)] at pw
          simp (disch := omega) only [am_bv_some, am_bi_int, am_bl_long, am_br_ref, am_bc_some, am_bq_some, am_gf_c, am_rd_c, am_bh_pf, am_bh_wr, am_g_p, ob_get, ob_put, ar_get, ar_put, ob_tag, ar_tag, i_zero, i_add, i_sub, i_mul, i_lt, i_le, i_eq, i_val, if_pos, if_neg, Option.toList_some, Option.toList_none, List.cons_append, List.nil_append, beq_self_eq_true, true_or, or_true, up_at, up_ne, ↓reduceIte, Nat.reduceEqDiff, le_t, le_f, lt_t, lt_f, eq_t, eq_f, nq_t, nq_f, nl_t, nl_f, and_true, true_and, and_false, false_and, not_true_eq_false, not_false_eq_true, or_false, false_or, az_tag, al_tag, az_get, az_put, am_bh_wz, gX, gT, gW, gS, gA, gL, gM, gE, gN, gX_11, gX_1, gX_2, gT_1, gW_0, gW_1, gW_2, gW_3, gW_12, gW_13, gA_1, gL_1, gE_3, gM_0, gM_1, gM_2, gM_3, gN_0, gN_2, gN_3, gN_4, gN_5, gN_10, gN_11, gN_17, gN_18, gN_23, gN_24, gN_29, gN_35, gN_36, gN_42, am_p_p, Int.toNat_natCast, aq_tag, am_rq_c, am_bh_wq, aq_get3, aq_get4, aq_put3, Int.reduceAdd, Int.reduceSub, Int.reduceMul, Int.reduceToNat, c81, s81_0, s81_1, s81_4, s81_5, s81_8, s81_11, s81_12, s81_15, s81_16, s81_19, s81_22, s81_23, s81_26, s81_27, s81_30, s81_33, s81_34, s81_37, s81_39, s81_42, s81_45, s81_46, s81_47, s81_48, s81_51, s81_52, s81_53, s81_56, s81_59, s81_61, s81_62, s81_63, s81_66, s81_67, s81_70, s81_73, s81_74, s81_77, s81_78, s81_81, s81_82, s81_85, s81_86, s81_87, s81_88, s81_91, s81_94, s81_95, s81_98, s81_99, s81_102, s81_103, s81_106, s81_107, s81_108, s81_109, s81_112, s81_113, s81_116, s81_119, s81_121, s81_122, s81_125, a1, px, py, pz, pw]
        · rw [if_neg q3] at pz
          simp (disch := omega) only [am_bv_some, am_bi_int, am_bl_long, am_br_ref, am_bc_some, am_bq_some, am_gf_c, am_rd_c, am_bh_pf, am_bh_wr, am_g_p, ob_get, ob_put, ar_get, ar_put, ob_tag, ar_tag, i_zero, i_add, i_sub, i_mul, i_lt, i_le, i_eq, i_val, if_pos, if_neg, Option.toList_some, Option.toList_none, List.cons_append, List.nil_append, beq_self_eq_true, true_or, or_true, up_at, up_ne, ↓reduceIte, Nat.reduceEqDiff, le_t, le_f, lt_t, lt_f, eq_t, eq_f, nq_t, nq_f, nl_t, nl_f, and_true, true_and, and_false, false_and, not_true_eq_false, not_false_eq_true, or_false, false_or, az_tag, al_tag, az_get, az_put, am_bh_wz, gX, gT, gW, gS, gA, gL, gM, gE, gN, gX_11, gX_1, gX_2, gT_1, gW_0, gW_1, gW_2, gW_3, gW_12, gW_13, gA_1, gL_1, gE_3, gM_0, gM_1, gM_2, gM_3, gN_0, gN_2, gN_3, gN_4, gN_5, gN_10, gN_11, gN_17, gN_18, gN_23, gN_24, gN_29, gN_35, gN_36, gN_42, am_p_p, Int.toNat_natCast, aq_tag, am_rq_c, am_bh_wq, aq_get3, aq_get4, aq_put3, Int.reduceAdd, Int.reduceSub, Int.reduceMul, Int.reduceToNat, c81, s81_0, s81_1, s81_4, s81_5, s81_8, s81_11, s81_12, s81_15, s81_16, s81_19, s81_22, s81_23, s81_26, s81_27, s81_30, s81_33, s81_34, s81_37, s81_39, s81_42, s81_45, s81_46, s81_47, s81_48, s81_51, s81_52, s81_53, s81_56, s81_59, s81_61, s81_62, s81_63, s81_66, s81_67, s81_70, s81_73, s81_74, s81_77, s81_78, s81_81, s81_82, s81_85, s81_86, s81_87, s81_88, s81_91, s81_94, s81_95, s81_98, s81_99, s81_102, s81_103, s81_106, s81_107, s81_108, s81_109, s81_112, s81_113, s81_116, s81_119, s81_121, s81_122, s81_125, a1, px, py, pz]
      · rw [if_neg q2] at py
        simp (disch := omega) only [am_bv_some, am_bi_int, am_bl_long, am_br_ref, am_bc_some, am_bq_some, am_gf_c, am_rd_c, am_bh_pf, am_bh_wr, am_g_p, ob_get, ob_put, ar_get, ar_put, ob_tag, ar_tag, i_zero, i_add, i_sub, i_mul, i_lt, i_le, i_eq, i_val, if_pos, if_neg, Option.toList_some, Option.toList_none, List.cons_append, List.nil_append, beq_self_eq_true, true_or, or_true, up_at, up_ne, ↓reduceIte, Nat.reduceEqDiff, le_t, le_f, lt_t, lt_f, eq_t, eq_f, nq_t, nq_f, nl_t, nl_f, and_true, true_and, and_false, false_and, not_true_eq_false, not_false_eq_true, or_false, false_or, az_tag, al_tag, az_get, az_put, am_bh_wz, gX, gT, gW, gS, gA, gL, gM, gE, gN, gX_11, gX_1, gX_2, gT_1, gW_0, gW_1, gW_2, gW_3, gW_12, gW_13, gA_1, gL_1, gE_3, gM_0, gM_1, gM_2, gM_3, gN_0, gN_2, gN_3, gN_4, gN_5, gN_10, gN_11, gN_17, gN_18, gN_23, gN_24, gN_29, gN_35, gN_36, gN_42, am_p_p, Int.toNat_natCast, aq_tag, am_rq_c, am_bh_wq, aq_get3, aq_get4, aq_put3, Int.reduceAdd, Int.reduceSub, Int.reduceMul, Int.reduceToNat, c81, s81_0, s81_1, s81_4, s81_5, s81_8, s81_11, s81_12, s81_15, s81_16, s81_19, s81_22, s81_23, s81_26, s81_27, s81_30, s81_33, s81_34, s81_37, s81_39, s81_42, s81_45, s81_46, s81_47, s81_48, s81_51, s81_52, s81_53, s81_56, s81_59, s81_61, s81_62, s81_63, s81_66, s81_67, s81_70, s81_73, s81_74, s81_77, s81_78, s81_81, s81_82, s81_85, s81_86, s81_87, s81_88, s81_91, s81_94, s81_95, s81_98, s81_99, s81_102, s81_103, s81_106, s81_107, s81_108, s81_109, s81_112, s81_113, s81_116, s81_119, s81_121, s81_122, s81_125, a1, px, py]
    · rw [if_neg q1] at px
      simp (disch := omega) only [am_bv_some, am_bi_int, am_bl_long, am_br_ref, am_bc_some, am_bq_some, am_gf_c, am_rd_c, am_bh_pf, am_bh_wr, am_g_p, ob_get, ob_put, ar_get, ar_put, ob_tag, ar_tag, i_zero, i_add, i_sub, i_mul, i_lt, i_le, i_eq, i_val, if_pos, if_neg, Option.toList_some, Option.toList_none, List.cons_append, List.nil_append, beq_self_eq_true, true_or, or_true, up_at, up_ne, ↓reduceIte, Nat.reduceEqDiff, le_t, le_f, lt_t, lt_f, eq_t, eq_f, nq_t, nq_f, nl_t, nl_f, and_true, true_and, and_false, false_and, not_true_eq_false, not_false_eq_true, or_false, false_or, az_tag, al_tag, az_get, az_put, am_bh_wz, gX, gT, gW, gS, gA, gL, gM, gE, gN, gX_11, gX_1, gX_2, gT_1, gW_0, gW_1, gW_2, gW_3, gW_12, gW_13, gA_1, gL_1, gE_3, gM_0, gM_1, gM_2, gM_3, gN_0, gN_2, gN_3, gN_4, gN_5, gN_10, gN_11, gN_17, gN_18, gN_23, gN_24, gN_29, gN_35, gN_36, gN_42, am_p_p, Int.toNat_natCast, aq_tag, am_rq_c, am_bh_wq, aq_get3, aq_get4, aq_put3, Int.reduceAdd, Int.reduceSub, Int.reduceMul, Int.reduceToNat, c81, s81_0, s81_1, s81_4, s81_5, s81_8, s81_11, s81_12, s81_15, s81_16, s81_19, s81_22, s81_23, s81_26, s81_27, s81_30, s81_33, s81_34, s81_37, s81_39, s81_42, s81_45, s81_46, s81_47, s81_48, s81_51, s81_52, s81_53, s81_56, s81_59, s81_61, s81_62, s81_63, s81_66, s81_67, s81_70, s81_73, s81_74, s81_77, s81_78, s81_81, s81_82, s81_85, s81_86, s81_87, s81_88, s81_91, s81_94, s81_95, s81_98, s81_99, s81_102, s81_103, s81_106, s81_107, s81_108, s81_109, s81_112, s81_113, s81_116, s81_119, s81_121, s81_122, s81_125, a1, px]
