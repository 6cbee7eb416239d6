theorem am_mw_0 : ∀ M, M < 10 → 0 ≤ M → M ≠ 169 → am_mw M (am_mws.getD M (0, 0, 0, 0)) = true := by decide +kernel
theorem am_mw_10 : ∀ M, M < 20 → 10 ≤ M → M ≠ 169 → am_mw M (am_mws.getD M (0, 0, 0, 0)) = true := by decide +kernel
theorem am_mw_20 : ∀ M, M < 30 → 20 ≤ M → M ≠ 169 → am_mw M (am_mws.getD M (0, 0, 0, 0)) = true := by decide +kernel
theorem am_mw_30 : ∀ M, M < 40 → 30 ≤ M → M ≠ 169 → am_mw M (am_mws.getD M (0, 0, 0, 0)) = true := by decide +kernel
theorem am_mw_40 : ∀ M, M < 50 → 40 ≤ M → M ≠ 169 → am_mw M (am_mws.getD M (0, 0, 0, 0)) = true := by decide +kernel
theorem am_mw_50 : ∀ M, M < 60 → 50 ≤ M → M ≠ 169 → am_mw M (am_mws.getD M (0, 0, 0, 0)) = true := by decide +kernel
theorem am_mw_60 : ∀ M, M < 70 → 60 ≤ M → M ≠ 169 → am_mw M (am_mws.getD M (0, 0, 0, 0)) = true := by decide +kernel
theorem am_mw_70 : ∀ M, M < 80 → 70 ≤ M → M ≠ 169 → am_mw M (am_mws.getD M (0, 0, 0, 0)) = true := by decide +kernel
theorem am_mw_80 : ∀ M, M < 90 → 80 ≤ M → M ≠ 169 → am_mw M (am_mws.getD M (0, 0, 0, 0)) = true := by decide +kernel
theorem am_mw_90 : ∀ M, M < 100 → 90 ≤ M → M ≠ 169 → am_mw M (am_mws.getD M (0, 0, 0, 0)) = true := by decide +kernel
theorem am_mw_100 : ∀ M, M < 110 → 100 ≤ M → M ≠ 169 → am_mw M (am_mws.getD M (0, 0, 0, 0)) = true := by decide +kernel
theorem am_mw_110 : ∀ M, M < 120 → 110 ≤ M → M ≠ 169 → am_mw M (am_mws.getD M (0, 0, 0, 0)) = true := by decide +kernel
theorem am_mw_120 : ∀ M, M < 130 → 120 ≤ M → M ≠ 169 → am_mw M (am_mws.getD M (0, 0, 0, 0)) = true := by decide +kernel
theorem am_mw_130 : ∀ M, M < 140 → 130 ≤ M → M ≠ 169 → am_mw M (am_mws.getD M (0, 0, 0, 0)) = true := by decide +kernel
theorem am_mw_140 : ∀ M, M < 150 → 140 ≤ M → M ≠ 169 → am_mw M (am_mws.getD M (0, 0, 0, 0)) = true := by decide +kernel
theorem am_mw_150 : ∀ M, M < 160 → 150 ≤ M → M ≠ 169 → am_mw M (am_mws.getD M (0, 0, 0, 0)) = true := by decide +kernel
theorem am_mw_160 : ∀ M, M < 170 → 160 ≤ M → M ≠ 169 → am_mw M (am_mws.getD M (0, 0, 0, 0)) = true := by decide +kernel
theorem am_mw_all (M : Nat) (h : M < 170) (hl : M ≠ 169) : am_mw M (am_mws.getD M (0, 0, 0, 0)) = true := by
  rcases Nat.lt_or_ge M 10 with q | q0
  · exact am_mw_0 M q (Nat.zero_le _) hl
  rcases Nat.lt_or_ge M 20 with q | q10
  · exact am_mw_10 M q q0 hl
  rcases Nat.lt_or_ge M 30 with q | q20
  · exact am_mw_20 M q q10 hl
  rcases Nat.lt_or_ge M 40 with q | q30
  · exact am_mw_30 M q q20 hl
  rcases Nat.lt_or_ge M 50 with q | q40
  · exact am_mw_40 M q q30 hl
  rcases Nat.lt_or_ge M 60 with q | q50
  · exact am_mw_50 M q q40 hl
  rcases Nat.lt_or_ge M 70 with q | q60
  · exact am_mw_60 M q q50 hl
  rcases Nat.lt_or_ge M 80 with q | q70
  · exact am_mw_70 M q q60 hl
  rcases Nat.lt_or_ge M 90 with q | q80
  · exact am_mw_80 M q q70 hl
  rcases Nat.lt_or_ge M 100 with q | q90
  · exact am_mw_90 M q q80 hl
  rcases Nat.lt_or_ge M 110 with q | q100
  · exact am_mw_100 M q q90 hl
  rcases Nat.lt_or_ge M 120 with q | q110
  · exact am_mw_110 M q q100 hl
  rcases Nat.lt_or_ge M 130 with q | q120
  · exact am_mw_120 M q q110 hl
  rcases Nat.lt_or_ge M 140 with q | q130
  · exact am_mw_130 M q q120 hl
  rcases Nat.lt_or_ge M 150 with q | q140
  · exact am_mw_140 M q q130 hl
  rcases Nat.lt_or_ge M 160 with q | q150
  · exact am_mw_150 M q q140 hl
  exact am_mw_160 M h q150 hl
theorem am_k_0_0 : am_c_0_0.all (am_ok 0) = true := by decide +kernel
theorem am_k_0_1 : am_c_0_1.all (am_ok 0) = true := by decide +kernel
theorem am_k_0_2 : am_c_0_2.all (am_ok 0) = true := by decide +kernel
theorem am_k_0_3 : am_c_0_3.all (am_ok 0) = true := by decide +kernel
theorem am_k_0_4 : am_c_0_4.all (am_ok 0) = true := by decide +kernel
theorem am_k_0_5 : am_c_0_5.all (am_ok 0) = true := by decide +kernel
theorem am_k_0_6 : am_c_0_6.all (am_ok 0) = true := by decide +kernel
theorem am_k_0_7 : am_c_0_7.all (am_ok 0) = true := by decide +kernel
theorem am_k_0_8 : am_c_0_8.all (am_ok 0) = true := by decide +kernel
theorem am_k_0_9 : am_c_0_9.all (am_ok 0) = true := by decide +kernel
theorem am_k_0_10 : am_c_0_10.all (am_ok 0) = true := by decide +kernel
theorem am_k_0_11 : am_c_0_11.all (am_ok 0) = true := by decide +kernel
theorem am_k_0_12 : am_c_0_12.all (am_ok 0) = true := by decide +kernel
theorem am_k_0_13 : am_c_0_13.all (am_ok 0) = true := by decide +kernel
theorem am_k_0_14 : am_c_0_14.all (am_ok 0) = true := by decide +kernel
theorem am_k_0_15 : am_c_0_15.all (am_ok 0) = true := by decide +kernel
theorem am_k_0_16 : am_c_0_16.all (am_ok 0) = true := by decide +kernel
theorem am_k_0_17 : am_c_0_17.all (am_ok 0) = true := by decide +kernel
theorem am_k_0_18 : am_c_0_18.all (am_ok 0) = true := by decide +kernel
theorem am_k_0_19 : am_c_0_19.all (am_ok 0) = true := by decide +kernel
theorem am_k_0_20 : am_c_0_20.all (am_ok 0) = true := by decide +kernel
theorem am_k_0_21 : am_c_0_21.all (am_ok 0) = true := by decide +kernel
theorem am_k_0_22 : am_c_0_22.all (am_ok 0) = true := by decide +kernel
theorem am_k_0_23 : am_c_0_23.all (am_ok 0) = true := by decide +kernel
theorem am_k_0_24 : am_c_0_24.all (am_ok 0) = true := by decide +kernel
theorem am_k_0_25 : am_c_0_25.all (am_ok 0) = true := by decide +kernel
theorem am_k_0_26 : am_c_0_26.all (am_ok 0) = true := by decide +kernel
theorem am_k_0_27 : am_c_0_27.all (am_ok 0) = true := by decide +kernel
theorem am_k_0_28 : am_c_0_28.all (am_ok 0) = true := by decide +kernel
theorem am_k_0_29 : am_c_0_29.all (am_ok 0) = true := by decide +kernel
theorem am_k_0_30 : am_c_0_30.all (am_ok 0) = true := by decide +kernel
theorem am_q_0 : am_m_0.all (fun l => l.all (am_ok 0)) = true := by simp only [am_m_0, List.all_cons, List.all_nil, am_k_0_0, am_k_0_1, am_k_0_2, am_k_0_3, am_k_0_4, am_k_0_5, am_k_0_6, am_k_0_7, am_k_0_8, am_k_0_9, am_k_0_10, am_k_0_11, am_k_0_12, am_k_0_13, am_k_0_14, am_k_0_15, am_k_0_16, am_k_0_17, am_k_0_18, am_k_0_19, am_k_0_20, am_k_0_21, am_k_0_22, am_k_0_23, am_k_0_24, am_k_0_25, am_k_0_26, am_k_0_27, am_k_0_28, am_k_0_29, am_k_0_30, Bool.and_self]
theorem am_k_1_0 : am_c_1_0.all (am_ok 1) = true := by decide +kernel
theorem am_k_1_1 : am_c_1_1.all (am_ok 1) = true := by decide +kernel
theorem am_q_1 : am_m_1.all (fun l => l.all (am_ok 1)) = true := by simp only [am_m_1, List.all_cons, List.all_nil, am_k_1_0, am_k_1_1, Bool.and_self]
theorem am_k_2_0 : am_c_2_0.all (am_ok 2) = true := by decide +kernel
theorem am_k_2_1 : am_c_2_1.all (am_ok 2) = true := by decide +kernel
theorem am_k_2_2 : am_c_2_2.all (am_ok 2) = true := by decide +kernel
theorem am_q_2 : am_m_2.all (fun l => l.all (am_ok 2)) = true := by simp only [am_m_2, List.all_cons, List.all_nil, am_k_2_0, am_k_2_1, am_k_2_2, Bool.and_self]
theorem am_k_3_0 : am_c_3_0.all (am_ok 3) = true := by decide +kernel
theorem am_k_3_1 : am_c_3_1.all (am_ok 3) = true := by decide +kernel
theorem am_k_3_2 : am_c_3_2.all (am_ok 3) = true := by decide +kernel
theorem am_q_3 : am_m_3.all (fun l => l.all (am_ok 3)) = true := by simp only [am_m_3, List.all_cons, List.all_nil, am_k_3_0, am_k_3_1, am_k_3_2, Bool.and_self]
theorem am_k_4_0 : am_c_4_0.all (am_ok 4) = true := by decide +kernel
theorem am_k_4_1 : am_c_4_1.all (am_ok 4) = true := by decide +kernel
theorem am_k_4_2 : am_c_4_2.all (am_ok 4) = true := by decide +kernel
theorem am_k_4_3 : am_c_4_3.all (am_ok 4) = true := by decide +kernel
theorem am_q_4 : am_m_4.all (fun l => l.all (am_ok 4)) = true := by simp only [am_m_4, List.all_cons, List.all_nil, am_k_4_0, am_k_4_1, am_k_4_2, am_k_4_3, Bool.and_self]
theorem am_k_5_0 : am_c_5_0.all (am_ok 5) = true := by decide +kernel
theorem am_k_5_1 : am_c_5_1.all (am_ok 5) = true := by decide +kernel
theorem am_q_5 : am_m_5.all (fun l => l.all (am_ok 5)) = true := by simp only [am_m_5, List.all_cons, List.all_nil, am_k_5_0, am_k_5_1, Bool.and_self]
theorem am_k_6_0 : am_c_6_0.all (am_ok 6) = true := by decide +kernel
theorem am_k_6_1 : am_c_6_1.all (am_ok 6) = true := by decide +kernel
theorem am_q_6 : am_m_6.all (fun l => l.all (am_ok 6)) = true := by simp only [am_m_6, List.all_cons, List.all_nil, am_k_6_0, am_k_6_1, Bool.and_self]
theorem am_k_7_0 : am_c_7_0.all (am_ok 7) = true := by decide +kernel
theorem am_k_7_1 : am_c_7_1.all (am_ok 7) = true := by decide +kernel
theorem am_k_7_2 : am_c_7_2.all (am_ok 7) = true := by decide +kernel
theorem am_k_7_3 : am_c_7_3.all (am_ok 7) = true := by decide +kernel
theorem am_q_7 : am_m_7.all (fun l => l.all (am_ok 7)) = true := by simp only [am_m_7, List.all_cons, List.all_nil, am_k_7_0, am_k_7_1, am_k_7_2, am_k_7_3, Bool.and_self]
theorem am_k_8_0 : am_c_8_0.all (am_ok 8) = true := by decide +kernel
theorem am_k_8_1 : am_c_8_1.all (am_ok 8) = true := by decide +kernel
theorem am_k_8_2 : am_c_8_2.all (am_ok 8) = true := by decide +kernel
theorem am_k_8_3 : am_c_8_3.all (am_ok 8) = true := by decide +kernel
theorem am_k_8_4 : am_c_8_4.all (am_ok 8) = true := by decide +kernel
theorem am_q_8 : am_m_8.all (fun l => l.all (am_ok 8)) = true := by simp only [am_m_8, List.all_cons, List.all_nil, am_k_8_0, am_k_8_1, am_k_8_2, am_k_8_3, am_k_8_4, Bool.and_self]
theorem am_k_9_0 : am_c_9_0.all (am_ok 9) = true := by decide +kernel
theorem am_k_9_1 : am_c_9_1.all (am_ok 9) = true := by decide +kernel
theorem am_k_9_2 : am_c_9_2.all (am_ok 9) = true := by decide +kernel
theorem am_k_9_3 : am_c_9_3.all (am_ok 9) = true := by decide +kernel
theorem am_k_9_4 : am_c_9_4.all (am_ok 9) = true := by decide +kernel
theorem am_k_9_5 : am_c_9_5.all (am_ok 9) = true := by decide +kernel
theorem am_k_9_6 : am_c_9_6.all (am_ok 9) = true := by decide +kernel
theorem am_q_9 : am_m_9.all (fun l => l.all (am_ok 9)) = true := by simp only [am_m_9, List.all_cons, List.all_nil, am_k_9_0, am_k_9_1, am_k_9_2, am_k_9_3, am_k_9_4, am_k_9_5, am_k_9_6, Bool.and_self]
theorem am_k_10_0 : am_c_10_0.all (am_ok 10) = true := by decide +kernel
theorem am_k_10_1 : am_c_10_1.all (am_ok 10) = true := by decide +kernel
theorem am_k_10_2 : am_c_10_2.all (am_ok 10) = true := by decide +kernel
theorem am_k_10_3 : am_c_10_3.all (am_ok 10) = true := by decide +kernel
theorem am_k_10_4 : am_c_10_4.all (am_ok 10) = true := by decide +kernel
theorem am_k_10_5 : am_c_10_5.all (am_ok 10) = true := by decide +kernel
theorem am_k_10_6 : am_c_10_6.all (am_ok 10) = true := by decide +kernel
theorem am_k_10_7 : am_c_10_7.all (am_ok 10) = true := by decide +kernel
theorem am_k_10_8 : am_c_10_8.all (am_ok 10) = true := by decide +kernel
theorem am_q_10 : am_m_10.all (fun l => l.all (am_ok 10)) = true := by simp only [am_m_10, List.all_cons, List.all_nil, am_k_10_0, am_k_10_1, am_k_10_2, am_k_10_3, am_k_10_4, am_k_10_5, am_k_10_6, am_k_10_7, am_k_10_8, Bool.and_self]
theorem am_k_11_0 : am_c_11_0.all (am_ok 11) = true := by decide +kernel
theorem am_k_11_1 : am_c_11_1.all (am_ok 11) = true := by decide +kernel
theorem am_q_11 : am_m_11.all (fun l => l.all (am_ok 11)) = true := by simp only [am_m_11, List.all_cons, List.all_nil, am_k_11_0, am_k_11_1, Bool.and_self]
theorem am_k_12_0 : am_c_12_0.all (am_ok 12) = true := by decide +kernel
theorem am_k_12_1 : am_c_12_1.all (am_ok 12) = true := by decide +kernel
theorem am_q_12 : am_m_12.all (fun l => l.all (am_ok 12)) = true := by simp only [am_m_12, List.all_cons, List.all_nil, am_k_12_0, am_k_12_1, Bool.and_self]
theorem am_k_13_0 : am_c_13_0.all (am_ok 13) = true := by decide +kernel
theorem am_q_13 : am_m_13.all (fun l => l.all (am_ok 13)) = true := by simp only [am_m_13, List.all_cons, List.all_nil, am_k_13_0, Bool.and_self]
theorem am_k_14_0 : am_c_14_0.all (am_ok 14) = true := by decide +kernel
theorem am_k_14_1 : am_c_14_1.all (am_ok 14) = true := by decide +kernel
theorem am_k_14_2 : am_c_14_2.all (am_ok 14) = true := by decide +kernel
theorem am_k_14_3 : am_c_14_3.all (am_ok 14) = true := by decide +kernel
theorem am_k_14_4 : am_c_14_4.all (am_ok 14) = true := by decide +kernel
theorem am_k_14_5 : am_c_14_5.all (am_ok 14) = true := by decide +kernel
theorem am_k_14_6 : am_c_14_6.all (am_ok 14) = true := by decide +kernel
theorem am_q_14 : am_m_14.all (fun l => l.all (am_ok 14)) = true := by simp only [am_m_14, List.all_cons, List.all_nil, am_k_14_0, am_k_14_1, am_k_14_2, am_k_14_3, am_k_14_4, am_k_14_5, am_k_14_6, Bool.and_self]
theorem am_k_15_0 : am_c_15_0.all (am_ok 15) = true := by decide +kernel
theorem am_k_15_1 : am_c_15_1.all (am_ok 15) = true := by decide +kernel
theorem am_k_15_2 : am_c_15_2.all (am_ok 15) = true := by decide +kernel
theorem am_k_15_3 : am_c_15_3.all (am_ok 15) = true := by decide +kernel
theorem am_k_15_4 : am_c_15_4.all (am_ok 15) = true := by decide +kernel
theorem am_k_15_5 : am_c_15_5.all (am_ok 15) = true := by decide +kernel
theorem am_k_15_6 : am_c_15_6.all (am_ok 15) = true := by decide +kernel
theorem am_k_15_7 : am_c_15_7.all (am_ok 15) = true := by decide +kernel
theorem am_k_15_8 : am_c_15_8.all (am_ok 15) = true := by decide +kernel
theorem am_k_15_9 : am_c_15_9.all (am_ok 15) = true := by decide +kernel
theorem am_k_15_10 : am_c_15_10.all (am_ok 15) = true := by decide +kernel
theorem am_k_15_11 : am_c_15_11.all (am_ok 15) = true := by decide +kernel
theorem am_k_15_12 : am_c_15_12.all (am_ok 15) = true := by decide +kernel
theorem am_k_15_13 : am_c_15_13.all (am_ok 15) = true := by decide +kernel
theorem am_k_15_14 : am_c_15_14.all (am_ok 15) = true := by decide +kernel
theorem am_k_15_15 : am_c_15_15.all (am_ok 15) = true := by decide +kernel
theorem am_k_15_16 : am_c_15_16.all (am_ok 15) = true := by decide +kernel
theorem am_q_15 : am_m_15.all (fun l => l.all (am_ok 15)) = true := by simp only [am_m_15, List.all_cons, List.all_nil, am_k_15_0, am_k_15_1, am_k_15_2, am_k_15_3, am_k_15_4, am_k_15_5, am_k_15_6, am_k_15_7, am_k_15_8, am_k_15_9, am_k_15_10, am_k_15_11, am_k_15_12, am_k_15_13, am_k_15_14, am_k_15_15, am_k_15_16, Bool.and_self]
theorem am_k_16_0 : am_c_16_0.all (am_ok 16) = true := by decide +kernel
theorem am_k_16_1 : am_c_16_1.all (am_ok 16) = true := by decide +kernel
theorem am_k_16_2 : am_c_16_2.all (am_ok 16) = true := by decide +kernel
theorem am_k_16_3 : am_c_16_3.all (am_ok 16) = true := by decide +kernel
theorem am_k_16_4 : am_c_16_4.all (am_ok 16) = true := by decide +kernel
theorem am_k_16_5 : am_c_16_5.all (am_ok 16) = true := by decide +kernel
theorem am_k_16_6 : am_c_16_6.all (am_ok 16) = true := by decide +kernel
theorem am_k_16_7 : am_c_16_7.all (am_ok 16) = true := by decide +kernel
theorem am_k_16_8 : am_c_16_8.all (am_ok 16) = true := by decide +kernel
theorem am_k_16_9 : am_c_16_9.all (am_ok 16) = true := by decide +kernel
theorem am_q_16 : am_m_16.all (fun l => l.all (am_ok 16)) = true := by simp only [am_m_16, List.all_cons, List.all_nil, am_k_16_0, am_k_16_1, am_k_16_2, am_k_16_3, am_k_16_4, am_k_16_5, am_k_16_6, am_k_16_7, am_k_16_8, am_k_16_9, Bool.and_self]
theorem am_k_17_0 : am_c_17_0.all (am_ok 17) = true := by decide +kernel
theorem am_k_17_1 : am_c_17_1.all (am_ok 17) = true := by decide +kernel
theorem am_k_17_2 : am_c_17_2.all (am_ok 17) = true := by decide +kernel
theorem am_q_17 : am_m_17.all (fun l => l.all (am_ok 17)) = true := by simp only [am_m_17, List.all_cons, List.all_nil, am_k_17_0, am_k_17_1, am_k_17_2, Bool.and_self]
theorem am_k_18_0 : am_c_18_0.all (am_ok 18) = true := by decide +kernel
theorem am_k_18_1 : am_c_18_1.all (am_ok 18) = true := by decide +kernel
theorem am_q_18 : am_m_18.all (fun l => l.all (am_ok 18)) = true := by simp only [am_m_18, List.all_cons, List.all_nil, am_k_18_0, am_k_18_1, Bool.and_self]
theorem am_k_19_0 : am_c_19_0.all (am_ok 19) = true := by decide +kernel
theorem am_k_19_1 : am_c_19_1.all (am_ok 19) = true := by decide +kernel
theorem am_k_19_2 : am_c_19_2.all (am_ok 19) = true := by decide +kernel
theorem am_k_19_3 : am_c_19_3.all (am_ok 19) = true := by decide +kernel
theorem am_k_19_4 : am_c_19_4.all (am_ok 19) = true := by decide +kernel
theorem am_q_19 : am_m_19.all (fun l => l.all (am_ok 19)) = true := by simp only [am_m_19, List.all_cons, List.all_nil, am_k_19_0, am_k_19_1, am_k_19_2, am_k_19_3, am_k_19_4, Bool.and_self]
theorem am_k_20_0 : am_c_20_0.all (am_ok 20) = true := by decide +kernel
theorem am_k_20_1 : am_c_20_1.all (am_ok 20) = true := by decide +kernel
theorem am_k_20_2 : am_c_20_2.all (am_ok 20) = true := by decide +kernel
theorem am_k_20_3 : am_c_20_3.all (am_ok 20) = true := by decide +kernel
theorem am_k_20_4 : am_c_20_4.all (am_ok 20) = true := by decide +kernel
theorem am_q_20 : am_m_20.all (fun l => l.all (am_ok 20)) = true := by simp only [am_m_20, List.all_cons, List.all_nil, am_k_20_0, am_k_20_1, am_k_20_2, am_k_20_3, am_k_20_4, Bool.and_self]
theorem am_k_21_0 : am_c_21_0.all (am_ok 21) = true := by decide +kernel
theorem am_k_21_1 : am_c_21_1.all (am_ok 21) = true := by decide +kernel
theorem am_k_21_2 : am_c_21_2.all (am_ok 21) = true := by decide +kernel
theorem am_k_21_3 : am_c_21_3.all (am_ok 21) = true := by decide +kernel
theorem am_k_21_4 : am_c_21_4.all (am_ok 21) = true := by decide +kernel
theorem am_k_21_5 : am_c_21_5.all (am_ok 21) = true := by decide +kernel
theorem am_k_21_6 : am_c_21_6.all (am_ok 21) = true := by decide +kernel
theorem am_q_21 : am_m_21.all (fun l => l.all (am_ok 21)) = true := by simp only [am_m_21, List.all_cons, List.all_nil, am_k_21_0, am_k_21_1, am_k_21_2, am_k_21_3, am_k_21_4, am_k_21_5, am_k_21_6, Bool.and_self]
theorem am_k_22_0 : am_c_22_0.all (am_ok 22) = true := by decide +kernel
theorem am_k_22_1 : am_c_22_1.all (am_ok 22) = true := by decide +kernel
theorem am_k_22_2 : am_c_22_2.all (am_ok 22) = true := by decide +kernel
theorem am_k_22_3 : am_c_22_3.all (am_ok 22) = true := by decide +kernel
theorem am_q_22 : am_m_22.all (fun l => l.all (am_ok 22)) = true := by simp only [am_m_22, List.all_cons, List.all_nil, am_k_22_0, am_k_22_1, am_k_22_2, am_k_22_3, Bool.and_self]
theorem am_k_23_0 : am_c_23_0.all (am_ok 23) = true := by decide +kernel
theorem am_k_23_1 : am_c_23_1.all (am_ok 23) = true := by decide +kernel
theorem am_q_23 : am_m_23.all (fun l => l.all (am_ok 23)) = true := by simp only [am_m_23, List.all_cons, List.all_nil, am_k_23_0, am_k_23_1, Bool.and_self]
theorem am_k_24_0 : am_c_24_0.all (am_ok 24) = true := by decide +kernel
theorem am_q_24 : am_m_24.all (fun l => l.all (am_ok 24)) = true := by simp only [am_m_24, List.all_cons, List.all_nil, am_k_24_0, Bool.and_self]
theorem am_k_25_0 : am_c_25_0.all (am_ok 25) = true := by decide +kernel
theorem am_k_25_1 : am_c_25_1.all (am_ok 25) = true := by decide +kernel
theorem am_k_25_2 : am_c_25_2.all (am_ok 25) = true := by decide +kernel
theorem am_q_25 : am_m_25.all (fun l => l.all (am_ok 25)) = true := by simp only [am_m_25, List.all_cons, List.all_nil, am_k_25_0, am_k_25_1, am_k_25_2, Bool.and_self]
theorem am_k_26_0 : am_c_26_0.all (am_ok 26) = true := by decide +kernel
theorem am_k_26_1 : am_c_26_1.all (am_ok 26) = true := by decide +kernel
theorem am_k_26_2 : am_c_26_2.all (am_ok 26) = true := by decide +kernel
theorem am_q_26 : am_m_26.all (fun l => l.all (am_ok 26)) = true := by simp only [am_m_26, List.all_cons, List.all_nil, am_k_26_0, am_k_26_1, am_k_26_2, Bool.and_self]
theorem am_k_27_0 : am_c_27_0.all (am_ok 27) = true := by decide +kernel
theorem am_q_27 : am_m_27.all (fun l => l.all (am_ok 27)) = true := by simp only [am_m_27, List.all_cons, List.all_nil, am_k_27_0, Bool.and_self]
theorem am_k_28_0 : am_c_28_0.all (am_ok 28) = true := by decide +kernel
theorem am_k_28_1 : am_c_28_1.all (am_ok 28) = true := by decide +kernel
theorem am_k_28_2 : am_c_28_2.all (am_ok 28) = true := by decide +kernel
theorem am_k_28_3 : am_c_28_3.all (am_ok 28) = true := by decide +kernel
theorem am_k_28_4 : am_c_28_4.all (am_ok 28) = true := by decide +kernel
theorem am_k_28_5 : am_c_28_5.all (am_ok 28) = true := by decide +kernel
theorem am_q_28 : am_m_28.all (fun l => l.all (am_ok 28)) = true := by simp only [am_m_28, List.all_cons, List.all_nil, am_k_28_0, am_k_28_1, am_k_28_2, am_k_28_3, am_k_28_4, am_k_28_5, Bool.and_self]
theorem am_k_29_0 : am_c_29_0.all (am_ok 29) = true := by decide +kernel
theorem am_k_29_1 : am_c_29_1.all (am_ok 29) = true := by decide +kernel
theorem am_q_29 : am_m_29.all (fun l => l.all (am_ok 29)) = true := by simp only [am_m_29, List.all_cons, List.all_nil, am_k_29_0, am_k_29_1, Bool.and_self]
theorem am_k_30_0 : am_c_30_0.all (am_ok 30) = true := by decide +kernel
theorem am_k_30_1 : am_c_30_1.all (am_ok 30) = true := by decide +kernel
theorem am_q_30 : am_m_30.all (fun l => l.all (am_ok 30)) = true := by simp only [am_m_30, List.all_cons, List.all_nil, am_k_30_0, am_k_30_1, Bool.and_self]
theorem am_k_31_0 : am_c_31_0.all (am_ok 31) = true := by decide +kernel
theorem am_k_31_1 : am_c_31_1.all (am_ok 31) = true := by decide +kernel
theorem am_k_31_2 : am_c_31_2.all (am_ok 31) = true := by decide +kernel
theorem am_k_31_3 : am_c_31_3.all (am_ok 31) = true := by decide +kernel
theorem am_q_31 : am_m_31.all (fun l => l.all (am_ok 31)) = true := by simp only [am_m_31, List.all_cons, List.all_nil, am_k_31_0, am_k_31_1, am_k_31_2, am_k_31_3, Bool.and_self]
theorem am_k_32_0 : am_c_32_0.all (am_ok 32) = true := by decide +kernel
theorem am_k_32_1 : am_c_32_1.all (am_ok 32) = true := by decide +kernel
theorem am_k_32_2 : am_c_32_2.all (am_ok 32) = true := by decide +kernel
theorem am_k_32_3 : am_c_32_3.all (am_ok 32) = true := by decide +kernel
theorem am_k_32_4 : am_c_32_4.all (am_ok 32) = true := by decide +kernel
theorem am_k_32_5 : am_c_32_5.all (am_ok 32) = true := by decide +kernel
theorem am_q_32 : am_m_32.all (fun l => l.all (am_ok 32)) = true := by simp only [am_m_32, List.all_cons, List.all_nil, am_k_32_0, am_k_32_1, am_k_32_2, am_k_32_3, am_k_32_4, am_k_32_5, Bool.and_self]
theorem am_k_33_0 : am_c_33_0.all (am_ok 33) = true := by decide +kernel
theorem am_q_33 : am_m_33.all (fun l => l.all (am_ok 33)) = true := by simp only [am_m_33, List.all_cons, List.all_nil, am_k_33_0, Bool.and_self]
theorem am_k_34_0 : am_c_34_0.all (am_ok 34) = true := by decide +kernel
theorem am_k_34_1 : am_c_34_1.all (am_ok 34) = true := by decide +kernel
theorem am_q_34 : am_m_34.all (fun l => l.all (am_ok 34)) = true := by simp only [am_m_34, List.all_cons, List.all_nil, am_k_34_0, am_k_34_1, Bool.and_self]
theorem am_k_35_0 : am_c_35_0.all (am_ok 35) = true := by decide +kernel
theorem am_k_35_1 : am_c_35_1.all (am_ok 35) = true := by decide +kernel
theorem am_k_35_2 : am_c_35_2.all (am_ok 35) = true := by decide +kernel
theorem am_q_35 : am_m_35.all (fun l => l.all (am_ok 35)) = true := by simp only [am_m_35, List.all_cons, List.all_nil, am_k_35_0, am_k_35_1, am_k_35_2, Bool.and_self]
theorem am_k_36_0 : am_c_36_0.all (am_ok 36) = true := by decide +kernel
theorem am_k_36_1 : am_c_36_1.all (am_ok 36) = true := by decide +kernel
theorem am_k_36_2 : am_c_36_2.all (am_ok 36) = true := by decide +kernel
theorem am_k_36_3 : am_c_36_3.all (am_ok 36) = true := by decide +kernel
theorem am_q_36 : am_m_36.all (fun l => l.all (am_ok 36)) = true := by simp only [am_m_36, List.all_cons, List.all_nil, am_k_36_0, am_k_36_1, am_k_36_2, am_k_36_3, Bool.and_self]
theorem am_k_37_0 : am_c_37_0.all (am_ok 37) = true := by decide +kernel
theorem am_k_37_1 : am_c_37_1.all (am_ok 37) = true := by decide +kernel
theorem am_q_37 : am_m_37.all (fun l => l.all (am_ok 37)) = true := by simp only [am_m_37, List.all_cons, List.all_nil, am_k_37_0, am_k_37_1, Bool.and_self]
theorem am_k_38_0 : am_c_38_0.all (am_ok 38) = true := by decide +kernel
theorem am_k_38_1 : am_c_38_1.all (am_ok 38) = true := by decide +kernel
theorem am_k_38_2 : am_c_38_2.all (am_ok 38) = true := by decide +kernel
theorem am_q_38 : am_m_38.all (fun l => l.all (am_ok 38)) = true := by simp only [am_m_38, List.all_cons, List.all_nil, am_k_38_0, am_k_38_1, am_k_38_2, Bool.and_self]
theorem am_k_39_0 : am_c_39_0.all (am_ok 39) = true := by decide +kernel
theorem am_k_39_1 : am_c_39_1.all (am_ok 39) = true := by decide +kernel
theorem am_k_39_2 : am_c_39_2.all (am_ok 39) = true := by decide +kernel
theorem am_k_39_3 : am_c_39_3.all (am_ok 39) = true := by decide +kernel
theorem am_k_39_4 : am_c_39_4.all (am_ok 39) = true := by decide +kernel
theorem am_q_39 : am_m_39.all (fun l => l.all (am_ok 39)) = true := by simp only [am_m_39, List.all_cons, List.all_nil, am_k_39_0, am_k_39_1, am_k_39_2, am_k_39_3, am_k_39_4, Bool.and_self]
theorem am_k_40_0 : am_c_40_0.all (am_ok 40) = true := by decide +kernel
theorem am_k_40_1 : am_c_40_1.all (am_ok 40) = true := by decide +kernel
theorem am_k_40_2 : am_c_40_2.all (am_ok 40) = true := by decide +kernel
theorem am_k_40_3 : am_c_40_3.all (am_ok 40) = true := by decide +kernel
theorem am_k_40_4 : am_c_40_4.all (am_ok 40) = true := by decide +kernel
theorem am_k_40_5 : am_c_40_5.all (am_ok 40) = true := by decide +kernel
theorem am_k_40_6 : am_c_40_6.all (am_ok 40) = true := by decide +kernel
theorem am_q_40 : am_m_40.all (fun l => l.all (am_ok 40)) = true := by simp only [am_m_40, List.all_cons, List.all_nil, am_k_40_0, am_k_40_1, am_k_40_2, am_k_40_3, am_k_40_4, am_k_40_5, am_k_40_6, Bool.and_self]
theorem am_k_41_0 : am_c_41_0.all (am_ok 41) = true := by decide +kernel
theorem am_k_41_1 : am_c_41_1.all (am_ok 41) = true := by decide +kernel
theorem am_k_41_2 : am_c_41_2.all (am_ok 41) = true := by decide +kernel
theorem am_q_41 : am_m_41.all (fun l => l.all (am_ok 41)) = true := by simp only [am_m_41, List.all_cons, List.all_nil, am_k_41_0, am_k_41_1, am_k_41_2, Bool.and_self]
theorem am_k_42_0 : am_c_42_0.all (am_ok 42) = true := by decide +kernel
theorem am_q_42 : am_m_42.all (fun l => l.all (am_ok 42)) = true := by simp only [am_m_42, List.all_cons, List.all_nil, am_k_42_0, Bool.and_self]
theorem am_k_43_0 : am_c_43_0.all (am_ok 43) = true := by decide +kernel
theorem am_k_43_1 : am_c_43_1.all (am_ok 43) = true := by decide +kernel
theorem am_q_43 : am_m_43.all (fun l => l.all (am_ok 43)) = true := by simp only [am_m_43, List.all_cons, List.all_nil, am_k_43_0, am_k_43_1, Bool.and_self]
theorem am_k_44_0 : am_c_44_0.all (am_ok 44) = true := by decide +kernel
theorem am_q_44 : am_m_44.all (fun l => l.all (am_ok 44)) = true := by simp only [am_m_44, List.all_cons, List.all_nil, am_k_44_0, Bool.and_self]
theorem am_k_45_0 : am_c_45_0.all (am_ok 45) = true := by decide +kernel
theorem am_k_45_1 : am_c_45_1.all (am_ok 45) = true := by decide +kernel
theorem am_q_45 : am_m_45.all (fun l => l.all (am_ok 45)) = true := by simp only [am_m_45, List.all_cons, List.all_nil, am_k_45_0, am_k_45_1, Bool.and_self]
theorem am_k_46_0 : am_c_46_0.all (am_ok 46) = true := by decide +kernel
theorem am_k_46_1 : am_c_46_1.all (am_ok 46) = true := by decide +kernel
theorem am_k_46_2 : am_c_46_2.all (am_ok 46) = true := by decide +kernel
theorem am_k_46_3 : am_c_46_3.all (am_ok 46) = true := by decide +kernel
theorem am_k_46_4 : am_c_46_4.all (am_ok 46) = true := by decide +kernel
theorem am_q_46 : am_m_46.all (fun l => l.all (am_ok 46)) = true := by simp only [am_m_46, List.all_cons, List.all_nil, am_k_46_0, am_k_46_1, am_k_46_2, am_k_46_3, am_k_46_4, Bool.and_self]
theorem am_k_47_0 : am_c_47_0.all (am_ok 47) = true := by decide +kernel
theorem am_k_47_1 : am_c_47_1.all (am_ok 47) = true := by decide +kernel
theorem am_k_47_2 : am_c_47_2.all (am_ok 47) = true := by decide +kernel
theorem am_k_47_3 : am_c_47_3.all (am_ok 47) = true := by decide +kernel
theorem am_k_47_4 : am_c_47_4.all (am_ok 47) = true := by decide +kernel
theorem am_k_47_5 : am_c_47_5.all (am_ok 47) = true := by decide +kernel
theorem am_k_47_6 : am_c_47_6.all (am_ok 47) = true := by decide +kernel
theorem am_q_47 : am_m_47.all (fun l => l.all (am_ok 47)) = true := by simp only [am_m_47, List.all_cons, List.all_nil, am_k_47_0, am_k_47_1, am_k_47_2, am_k_47_3, am_k_47_4, am_k_47_5, am_k_47_6, Bool.and_self]
theorem am_k_48_0 : am_c_48_0.all (am_ok 48) = true := by decide +kernel
theorem am_k_48_1 : am_c_48_1.all (am_ok 48) = true := by decide +kernel
theorem am_k_48_2 : am_c_48_2.all (am_ok 48) = true := by decide +kernel
theorem am_k_48_3 : am_c_48_3.all (am_ok 48) = true := by decide +kernel
theorem am_k_48_4 : am_c_48_4.all (am_ok 48) = true := by decide +kernel
theorem am_k_48_5 : am_c_48_5.all (am_ok 48) = true := by decide +kernel
theorem am_k_48_6 : am_c_48_6.all (am_ok 48) = true := by decide +kernel
theorem am_k_48_7 : am_c_48_7.all (am_ok 48) = true := by decide +kernel
theorem am_q_48 : am_m_48.all (fun l => l.all (am_ok 48)) = true := by simp only [am_m_48, List.all_cons, List.all_nil, am_k_48_0, am_k_48_1, am_k_48_2, am_k_48_3, am_k_48_4, am_k_48_5, am_k_48_6, am_k_48_7, Bool.and_self]
theorem am_k_49_0 : am_c_49_0.all (am_ok 49) = true := by decide +kernel
theorem am_k_49_1 : am_c_49_1.all (am_ok 49) = true := by decide +kernel
theorem am_k_49_2 : am_c_49_2.all (am_ok 49) = true := by decide +kernel
theorem am_q_49 : am_m_49.all (fun l => l.all (am_ok 49)) = true := by simp only [am_m_49, List.all_cons, List.all_nil, am_k_49_0, am_k_49_1, am_k_49_2, Bool.and_self]
theorem am_k_50_0 : am_c_50_0.all (am_ok 50) = true := by decide +kernel
theorem am_k_50_1 : am_c_50_1.all (am_ok 50) = true := by decide +kernel
theorem am_k_50_2 : am_c_50_2.all (am_ok 50) = true := by decide +kernel
theorem am_k_50_3 : am_c_50_3.all (am_ok 50) = true := by decide +kernel
theorem am_k_50_4 : am_c_50_4.all (am_ok 50) = true := by decide +kernel
theorem am_k_50_5 : am_c_50_5.all (am_ok 50) = true := by decide +kernel
theorem am_k_50_6 : am_c_50_6.all (am_ok 50) = true := by decide +kernel
theorem am_k_50_7 : am_c_50_7.all (am_ok 50) = true := by decide +kernel
theorem am_k_50_8 : am_c_50_8.all (am_ok 50) = true := by decide +kernel
theorem am_k_50_9 : am_c_50_9.all (am_ok 50) = true := by decide +kernel
theorem am_k_50_10 : am_c_50_10.all (am_ok 50) = true := by decide +kernel
theorem am_k_50_11 : am_c_50_11.all (am_ok 50) = true := by decide +kernel
theorem am_k_50_12 : am_c_50_12.all (am_ok 50) = true := by decide +kernel
theorem am_k_50_13 : am_c_50_13.all (am_ok 50) = true := by decide +kernel
theorem am_q_50 : am_m_50.all (fun l => l.all (am_ok 50)) = true := by simp only [am_m_50, List.all_cons, List.all_nil, am_k_50_0, am_k_50_1, am_k_50_2, am_k_50_3, am_k_50_4, am_k_50_5, am_k_50_6, am_k_50_7, am_k_50_8, am_k_50_9, am_k_50_10, am_k_50_11, am_k_50_12, am_k_50_13, Bool.and_self]
theorem am_k_51_0 : am_c_51_0.all (am_ok 51) = true := by decide +kernel
theorem am_k_51_1 : am_c_51_1.all (am_ok 51) = true := by decide +kernel
theorem am_k_51_2 : am_c_51_2.all (am_ok 51) = true := by decide +kernel
theorem am_k_51_3 : am_c_51_3.all (am_ok 51) = true := by decide +kernel
theorem am_k_51_4 : am_c_51_4.all (am_ok 51) = true := by decide +kernel
theorem am_k_51_5 : am_c_51_5.all (am_ok 51) = true := by decide +kernel
theorem am_k_51_6 : am_c_51_6.all (am_ok 51) = true := by decide +kernel
theorem am_k_51_7 : am_c_51_7.all (am_ok 51) = true := by decide +kernel
theorem am_k_51_8 : am_c_51_8.all (am_ok 51) = true := by decide +kernel
theorem am_k_51_9 : am_c_51_9.all (am_ok 51) = true := by decide +kernel
theorem am_q_51 : am_m_51.all (fun l => l.all (am_ok 51)) = true := by simp only [am_m_51, List.all_cons, List.all_nil, am_k_51_0, am_k_51_1, am_k_51_2, am_k_51_3, am_k_51_4, am_k_51_5, am_k_51_6, am_k_51_7, am_k_51_8, am_k_51_9, Bool.and_self]
theorem am_k_52_0 : am_c_52_0.all (am_ok 52) = true := by decide +kernel
theorem am_k_52_1 : am_c_52_1.all (am_ok 52) = true := by decide +kernel
theorem am_q_52 : am_m_52.all (fun l => l.all (am_ok 52)) = true := by simp only [am_m_52, List.all_cons, List.all_nil, am_k_52_0, am_k_52_1, Bool.and_self]
theorem am_k_53_0 : am_c_53_0.all (am_ok 53) = true := by decide +kernel
theorem am_k_53_1 : am_c_53_1.all (am_ok 53) = true := by decide +kernel
theorem am_k_53_2 : am_c_53_2.all (am_ok 53) = true := by decide +kernel
theorem am_q_53 : am_m_53.all (fun l => l.all (am_ok 53)) = true := by simp only [am_m_53, List.all_cons, List.all_nil, am_k_53_0, am_k_53_1, am_k_53_2, Bool.and_self]
theorem am_k_54_0 : am_c_54_0.all (am_ok 54) = true := by decide +kernel
theorem am_k_54_1 : am_c_54_1.all (am_ok 54) = true := by decide +kernel
theorem am_k_54_2 : am_c_54_2.all (am_ok 54) = true := by decide +kernel
theorem am_k_54_3 : am_c_54_3.all (am_ok 54) = true := by decide +kernel
theorem am_k_54_4 : am_c_54_4.all (am_ok 54) = true := by decide +kernel
theorem am_k_54_5 : am_c_54_5.all (am_ok 54) = true := by decide +kernel
theorem am_k_54_6 : am_c_54_6.all (am_ok 54) = true := by decide +kernel
theorem am_k_54_7 : am_c_54_7.all (am_ok 54) = true := by decide +kernel
theorem am_k_54_8 : am_c_54_8.all (am_ok 54) = true := by decide +kernel
theorem am_k_54_9 : am_c_54_9.all (am_ok 54) = true := by decide +kernel
theorem am_q_54 : am_m_54.all (fun l => l.all (am_ok 54)) = true := by simp only [am_m_54, List.all_cons, List.all_nil, am_k_54_0, am_k_54_1, am_k_54_2, am_k_54_3, am_k_54_4, am_k_54_5, am_k_54_6, am_k_54_7, am_k_54_8, am_k_54_9, Bool.and_self]
theorem am_k_55_0 : am_c_55_0.all (am_ok 55) = true := by decide +kernel
theorem am_k_55_1 : am_c_55_1.all (am_ok 55) = true := by decide +kernel
theorem am_k_55_2 : am_c_55_2.all (am_ok 55) = true := by decide +kernel
theorem am_k_55_3 : am_c_55_3.all (am_ok 55) = true := by decide +kernel
theorem am_k_55_4 : am_c_55_4.all (am_ok 55) = true := by decide +kernel
theorem am_q_55 : am_m_55.all (fun l => l.all (am_ok 55)) = true := by simp only [am_m_55, List.all_cons, List.all_nil, am_k_55_0, am_k_55_1, am_k_55_2, am_k_55_3, am_k_55_4, Bool.and_self]
theorem am_k_56_0 : am_c_56_0.all (am_ok 56) = true := by decide +kernel
theorem am_k_56_1 : am_c_56_1.all (am_ok 56) = true := by decide +kernel
theorem am_q_56 : am_m_56.all (fun l => l.all (am_ok 56)) = true := by simp only [am_m_56, List.all_cons, List.all_nil, am_k_56_0, am_k_56_1, Bool.and_self]
theorem am_k_57_0 : am_c_57_0.all (am_ok 57) = true := by decide +kernel
theorem am_k_57_1 : am_c_57_1.all (am_ok 57) = true := by decide +kernel
theorem am_q_57 : am_m_57.all (fun l => l.all (am_ok 57)) = true := by simp only [am_m_57, List.all_cons, List.all_nil, am_k_57_0, am_k_57_1, Bool.and_self]
theorem am_k_58_0 : am_c_58_0.all (am_ok 58) = true := by decide +kernel
theorem am_k_58_1 : am_c_58_1.all (am_ok 58) = true := by decide +kernel
theorem am_q_58 : am_m_58.all (fun l => l.all (am_ok 58)) = true := by simp only [am_m_58, List.all_cons, List.all_nil, am_k_58_0, am_k_58_1, Bool.and_self]
theorem am_k_59_0 : am_c_59_0.all (am_ok 59) = true := by decide +kernel
theorem am_k_59_1 : am_c_59_1.all (am_ok 59) = true := by decide +kernel
theorem am_q_59 : am_m_59.all (fun l => l.all (am_ok 59)) = true := by simp only [am_m_59, List.all_cons, List.all_nil, am_k_59_0, am_k_59_1, Bool.and_self]
theorem am_k_60_0 : am_c_60_0.all (am_ok 60) = true := by decide +kernel
theorem am_k_60_1 : am_c_60_1.all (am_ok 60) = true := by decide +kernel
theorem am_q_60 : am_m_60.all (fun l => l.all (am_ok 60)) = true := by simp only [am_m_60, List.all_cons, List.all_nil, am_k_60_0, am_k_60_1, Bool.and_self]
theorem am_k_61_0 : am_c_61_0.all (am_ok 61) = true := by decide +kernel
theorem am_k_61_1 : am_c_61_1.all (am_ok 61) = true := by decide +kernel
theorem am_q_61 : am_m_61.all (fun l => l.all (am_ok 61)) = true := by simp only [am_m_61, List.all_cons, List.all_nil, am_k_61_0, am_k_61_1, Bool.and_self]
theorem am_k_62_0 : am_c_62_0.all (am_ok 62) = true := by decide +kernel
theorem am_k_62_1 : am_c_62_1.all (am_ok 62) = true := by decide +kernel
theorem am_q_62 : am_m_62.all (fun l => l.all (am_ok 62)) = true := by simp only [am_m_62, List.all_cons, List.all_nil, am_k_62_0, am_k_62_1, Bool.and_self]
theorem am_k_63_0 : am_c_63_0.all (am_ok 63) = true := by decide +kernel
theorem am_q_63 : am_m_63.all (fun l => l.all (am_ok 63)) = true := by simp only [am_m_63, List.all_cons, List.all_nil, am_k_63_0, Bool.and_self]
theorem am_k_64_0 : am_c_64_0.all (am_ok 64) = true := by decide +kernel
theorem am_k_64_1 : am_c_64_1.all (am_ok 64) = true := by decide +kernel
theorem am_k_64_2 : am_c_64_2.all (am_ok 64) = true := by decide +kernel
theorem am_q_64 : am_m_64.all (fun l => l.all (am_ok 64)) = true := by simp only [am_m_64, List.all_cons, List.all_nil, am_k_64_0, am_k_64_1, am_k_64_2, Bool.and_self]
theorem am_k_65_0 : am_c_65_0.all (am_ok 65) = true := by decide +kernel
theorem am_k_65_1 : am_c_65_1.all (am_ok 65) = true := by decide +kernel
theorem am_q_65 : am_m_65.all (fun l => l.all (am_ok 65)) = true := by simp only [am_m_65, List.all_cons, List.all_nil, am_k_65_0, am_k_65_1, Bool.and_self]
theorem am_k_66_0 : am_c_66_0.all (am_ok 66) = true := by decide +kernel
theorem am_k_66_1 : am_c_66_1.all (am_ok 66) = true := by decide +kernel
theorem am_k_66_2 : am_c_66_2.all (am_ok 66) = true := by decide +kernel
theorem am_k_66_3 : am_c_66_3.all (am_ok 66) = true := by decide +kernel
theorem am_k_66_4 : am_c_66_4.all (am_ok 66) = true := by decide +kernel
theorem am_k_66_5 : am_c_66_5.all (am_ok 66) = true := by decide +kernel
theorem am_k_66_6 : am_c_66_6.all (am_ok 66) = true := by decide +kernel
theorem am_q_66 : am_m_66.all (fun l => l.all (am_ok 66)) = true := by simp only [am_m_66, List.all_cons, List.all_nil, am_k_66_0, am_k_66_1, am_k_66_2, am_k_66_3, am_k_66_4, am_k_66_5, am_k_66_6, Bool.and_self]
theorem am_k_67_0 : am_c_67_0.all (am_ok 67) = true := by decide +kernel
theorem am_k_67_1 : am_c_67_1.all (am_ok 67) = true := by decide +kernel
theorem am_k_67_2 : am_c_67_2.all (am_ok 67) = true := by decide +kernel
theorem am_q_67 : am_m_67.all (fun l => l.all (am_ok 67)) = true := by simp only [am_m_67, List.all_cons, List.all_nil, am_k_67_0, am_k_67_1, am_k_67_2, Bool.and_self]
theorem am_k_68_0 : am_c_68_0.all (am_ok 68) = true := by decide +kernel
theorem am_k_68_1 : am_c_68_1.all (am_ok 68) = true := by decide +kernel
theorem am_k_68_2 : am_c_68_2.all (am_ok 68) = true := by decide +kernel
theorem am_k_68_3 : am_c_68_3.all (am_ok 68) = true := by decide +kernel
theorem am_q_68 : am_m_68.all (fun l => l.all (am_ok 68)) = true := by simp only [am_m_68, List.all_cons, List.all_nil, am_k_68_0, am_k_68_1, am_k_68_2, am_k_68_3, Bool.and_self]
theorem am_k_69_0 : am_c_69_0.all (am_ok 69) = true := by decide +kernel
theorem am_k_69_1 : am_c_69_1.all (am_ok 69) = true := by decide +kernel
theorem am_k_69_2 : am_c_69_2.all (am_ok 69) = true := by decide +kernel
theorem am_k_69_3 : am_c_69_3.all (am_ok 69) = true := by decide +kernel
theorem am_q_69 : am_m_69.all (fun l => l.all (am_ok 69)) = true := by simp only [am_m_69, List.all_cons, List.all_nil, am_k_69_0, am_k_69_1, am_k_69_2, am_k_69_3, Bool.and_self]
theorem am_k_70_0 : am_c_70_0.all (am_ok 70) = true := by decide +kernel
theorem am_k_70_1 : am_c_70_1.all (am_ok 70) = true := by decide +kernel
theorem am_k_70_2 : am_c_70_2.all (am_ok 70) = true := by decide +kernel
theorem am_k_70_3 : am_c_70_3.all (am_ok 70) = true := by decide +kernel
theorem am_k_70_4 : am_c_70_4.all (am_ok 70) = true := by decide +kernel
theorem am_k_70_5 : am_c_70_5.all (am_ok 70) = true := by decide +kernel
theorem am_k_70_6 : am_c_70_6.all (am_ok 70) = true := by decide +kernel
theorem am_k_70_7 : am_c_70_7.all (am_ok 70) = true := by decide +kernel
theorem am_k_70_8 : am_c_70_8.all (am_ok 70) = true := by decide +kernel
theorem am_k_70_9 : am_c_70_9.all (am_ok 70) = true := by decide +kernel
theorem am_q_70 : am_m_70.all (fun l => l.all (am_ok 70)) = true := by simp only [am_m_70, List.all_cons, List.all_nil, am_k_70_0, am_k_70_1, am_k_70_2, am_k_70_3, am_k_70_4, am_k_70_5, am_k_70_6, am_k_70_7, am_k_70_8, am_k_70_9, Bool.and_self]
theorem am_k_71_0 : am_c_71_0.all (am_ok 71) = true := by decide +kernel
theorem am_k_71_1 : am_c_71_1.all (am_ok 71) = true := by decide +kernel
theorem am_k_71_2 : am_c_71_2.all (am_ok 71) = true := by decide +kernel
theorem am_k_71_3 : am_c_71_3.all (am_ok 71) = true := by decide +kernel
theorem am_k_71_4 : am_c_71_4.all (am_ok 71) = true := by decide +kernel
theorem am_q_71 : am_m_71.all (fun l => l.all (am_ok 71)) = true := by simp only [am_m_71, List.all_cons, List.all_nil, am_k_71_0, am_k_71_1, am_k_71_2, am_k_71_3, am_k_71_4, Bool.and_self]
theorem am_k_72_0 : am_c_72_0.all (am_ok 72) = true := by decide +kernel
theorem am_k_72_1 : am_c_72_1.all (am_ok 72) = true := by decide +kernel
theorem am_q_72 : am_m_72.all (fun l => l.all (am_ok 72)) = true := by simp only [am_m_72, List.all_cons, List.all_nil, am_k_72_0, am_k_72_1, Bool.and_self]
theorem am_k_73_0 : am_c_73_0.all (am_ok 73) = true := by decide +kernel
theorem am_q_73 : am_m_73.all (fun l => l.all (am_ok 73)) = true := by simp only [am_m_73, List.all_cons, List.all_nil, am_k_73_0, Bool.and_self]
theorem am_k_74_0 : am_c_74_0.all (am_ok 74) = true := by decide +kernel
theorem am_k_74_1 : am_c_74_1.all (am_ok 74) = true := by decide +kernel
theorem am_k_74_2 : am_c_74_2.all (am_ok 74) = true := by decide +kernel
theorem am_k_74_3 : am_c_74_3.all (am_ok 74) = true := by decide +kernel
theorem am_k_74_4 : am_c_74_4.all (am_ok 74) = true := by decide +kernel
theorem am_k_74_5 : am_c_74_5.all (am_ok 74) = true := by decide +kernel
theorem am_q_74 : am_m_74.all (fun l => l.all (am_ok 74)) = true := by simp only [am_m_74, List.all_cons, List.all_nil, am_k_74_0, am_k_74_1, am_k_74_2, am_k_74_3, am_k_74_4, am_k_74_5, Bool.and_self]
theorem am_k_75_0 : am_c_75_0.all (am_ok 75) = true := by decide +kernel
theorem am_k_75_1 : am_c_75_1.all (am_ok 75) = true := by decide +kernel
theorem am_k_75_2 : am_c_75_2.all (am_ok 75) = true := by decide +kernel
theorem am_k_75_3 : am_c_75_3.all (am_ok 75) = true := by decide +kernel
theorem am_k_75_4 : am_c_75_4.all (am_ok 75) = true := by decide +kernel
theorem am_k_75_5 : am_c_75_5.all (am_ok 75) = true := by decide +kernel
theorem am_k_75_6 : am_c_75_6.all (am_ok 75) = true := by decide +kernel
theorem am_k_75_7 : am_c_75_7.all (am_ok 75) = true := by decide +kernel
theorem am_k_75_8 : am_c_75_8.all (am_ok 75) = true := by decide +kernel
theorem am_q_75 : am_m_75.all (fun l => l.all (am_ok 75)) = true := by simp only [am_m_75, List.all_cons, List.all_nil, am_k_75_0, am_k_75_1, am_k_75_2, am_k_75_3, am_k_75_4, am_k_75_5, am_k_75_6, am_k_75_7, am_k_75_8, Bool.and_self]
theorem am_k_76_0 : am_c_76_0.all (am_ok 76) = true := by decide +kernel
theorem am_k_76_1 : am_c_76_1.all (am_ok 76) = true := by decide +kernel
theorem am_k_76_2 : am_c_76_2.all (am_ok 76) = true := by decide +kernel
theorem am_k_76_3 : am_c_76_3.all (am_ok 76) = true := by decide +kernel
theorem am_k_76_4 : am_c_76_4.all (am_ok 76) = true := by decide +kernel
theorem am_k_76_5 : am_c_76_5.all (am_ok 76) = true := by decide +kernel
theorem am_k_76_6 : am_c_76_6.all (am_ok 76) = true := by decide +kernel
theorem am_k_76_7 : am_c_76_7.all (am_ok 76) = true := by decide +kernel
theorem am_q_76 : am_m_76.all (fun l => l.all (am_ok 76)) = true := by simp only [am_m_76, List.all_cons, List.all_nil, am_k_76_0, am_k_76_1, am_k_76_2, am_k_76_3, am_k_76_4, am_k_76_5, am_k_76_6, am_k_76_7, Bool.and_self]
theorem am_k_77_0 : am_c_77_0.all (am_ok 77) = true := by decide +kernel
theorem am_k_77_1 : am_c_77_1.all (am_ok 77) = true := by decide +kernel
theorem am_k_77_2 : am_c_77_2.all (am_ok 77) = true := by decide +kernel
theorem am_k_77_3 : am_c_77_3.all (am_ok 77) = true := by decide +kernel
theorem am_k_77_4 : am_c_77_4.all (am_ok 77) = true := by decide +kernel
theorem am_k_77_5 : am_c_77_5.all (am_ok 77) = true := by decide +kernel
theorem am_q_77 : am_m_77.all (fun l => l.all (am_ok 77)) = true := by simp only [am_m_77, List.all_cons, List.all_nil, am_k_77_0, am_k_77_1, am_k_77_2, am_k_77_3, am_k_77_4, am_k_77_5, Bool.and_self]
theorem am_k_78_0 : am_c_78_0.all (am_ok 78) = true := by decide +kernel
theorem am_k_78_1 : am_c_78_1.all (am_ok 78) = true := by decide +kernel
theorem am_k_78_2 : am_c_78_2.all (am_ok 78) = true := by decide +kernel
theorem am_k_78_3 : am_c_78_3.all (am_ok 78) = true := by decide +kernel
theorem am_k_78_4 : am_c_78_4.all (am_ok 78) = true := by decide +kernel
theorem am_k_78_5 : am_c_78_5.all (am_ok 78) = true := by decide +kernel
theorem am_k_78_6 : am_c_78_6.all (am_ok 78) = true := by decide +kernel
theorem am_k_78_7 : am_c_78_7.all (am_ok 78) = true := by decide +kernel
theorem am_k_78_8 : am_c_78_8.all (am_ok 78) = true := by decide +kernel
theorem am_k_78_9 : am_c_78_9.all (am_ok 78) = true := by decide +kernel
theorem am_q_78 : am_m_78.all (fun l => l.all (am_ok 78)) = true := by simp only [am_m_78, List.all_cons, List.all_nil, am_k_78_0, am_k_78_1, am_k_78_2, am_k_78_3, am_k_78_4, am_k_78_5, am_k_78_6, am_k_78_7, am_k_78_8, am_k_78_9, Bool.and_self]
theorem am_k_79_0 : am_c_79_0.all (am_ok 79) = true := by decide +kernel
theorem am_k_79_1 : am_c_79_1.all (am_ok 79) = true := by decide +kernel
theorem am_k_79_2 : am_c_79_2.all (am_ok 79) = true := by decide +kernel
theorem am_k_79_3 : am_c_79_3.all (am_ok 79) = true := by decide +kernel
theorem am_k_79_4 : am_c_79_4.all (am_ok 79) = true := by decide +kernel
theorem am_q_79 : am_m_79.all (fun l => l.all (am_ok 79)) = true := by simp only [am_m_79, List.all_cons, List.all_nil, am_k_79_0, am_k_79_1, am_k_79_2, am_k_79_3, am_k_79_4, Bool.and_self]
theorem am_k_80_0 : am_c_80_0.all (am_ok 80) = true := by decide +kernel
theorem am_k_80_1 : am_c_80_1.all (am_ok 80) = true := by decide +kernel
theorem am_q_80 : am_m_80.all (fun l => l.all (am_ok 80)) = true := by simp only [am_m_80, List.all_cons, List.all_nil, am_k_80_0, am_k_80_1, Bool.and_self]
theorem am_k_81_0 : am_c_81_0.all (am_ok 81) = true := by decide +kernel
theorem am_k_81_1 : am_c_81_1.all (am_ok 81) = true := by decide +kernel
theorem am_k_81_2 : am_c_81_2.all (am_ok 81) = true := by decide +kernel
theorem am_k_81_3 : am_c_81_3.all (am_ok 81) = true := by decide +kernel
theorem am_k_81_4 : am_c_81_4.all (am_ok 81) = true := by decide +kernel
theorem am_k_81_5 : am_c_81_5.all (am_ok 81) = true := by decide +kernel
theorem am_k_81_6 : am_c_81_6.all (am_ok 81) = true := by decide +kernel
theorem am_k_81_7 : am_c_81_7.all (am_ok 81) = true := by decide +kernel
theorem am_q_81 : am_m_81.all (fun l => l.all (am_ok 81)) = true := by simp only [am_m_81, List.all_cons, List.all_nil, am_k_81_0, am_k_81_1, am_k_81_2, am_k_81_3, am_k_81_4, am_k_81_5, am_k_81_6, am_k_81_7, Bool.and_self]
theorem am_k_82_0 : am_c_82_0.all (am_ok 82) = true := by decide +kernel
theorem am_k_82_1 : am_c_82_1.all (am_ok 82) = true := by decide +kernel
theorem am_k_82_2 : am_c_82_2.all (am_ok 82) = true := by decide +kernel
theorem am_k_82_3 : am_c_82_3.all (am_ok 82) = true := by decide +kernel
theorem am_q_82 : am_m_82.all (fun l => l.all (am_ok 82)) = true := by simp only [am_m_82, List.all_cons, List.all_nil, am_k_82_0, am_k_82_1, am_k_82_2, am_k_82_3, Bool.and_self]
theorem am_k_83_0 : am_c_83_0.all (am_ok 83) = true := by decide +kernel
theorem am_k_83_1 : am_c_83_1.all (am_ok 83) = true := by decide +kernel
theorem am_q_83 : am_m_83.all (fun l => l.all (am_ok 83)) = true := by simp only [am_m_83, List.all_cons, List.all_nil, am_k_83_0, am_k_83_1, Bool.and_self]
theorem am_k_84_0 : am_c_84_0.all (am_ok 84) = true := by decide +kernel
theorem am_k_84_1 : am_c_84_1.all (am_ok 84) = true := by decide +kernel
theorem am_k_84_2 : am_c_84_2.all (am_ok 84) = true := by decide +kernel
theorem am_k_84_3 : am_c_84_3.all (am_ok 84) = true := by decide +kernel
theorem am_q_84 : am_m_84.all (fun l => l.all (am_ok 84)) = true := by simp only [am_m_84, List.all_cons, List.all_nil, am_k_84_0, am_k_84_1, am_k_84_2, am_k_84_3, Bool.and_self]
theorem am_k_85_0 : am_c_85_0.all (am_ok 85) = true := by decide +kernel
theorem am_k_85_1 : am_c_85_1.all (am_ok 85) = true := by decide +kernel
theorem am_k_85_2 : am_c_85_2.all (am_ok 85) = true := by decide +kernel
theorem am_k_85_3 : am_c_85_3.all (am_ok 85) = true := by decide +kernel
theorem am_k_85_4 : am_c_85_4.all (am_ok 85) = true := by decide +kernel
theorem am_k_85_5 : am_c_85_5.all (am_ok 85) = true := by decide +kernel
theorem am_q_85 : am_m_85.all (fun l => l.all (am_ok 85)) = true := by simp only [am_m_85, List.all_cons, List.all_nil, am_k_85_0, am_k_85_1, am_k_85_2, am_k_85_3, am_k_85_4, am_k_85_5, Bool.and_self]
theorem am_k_86_0 : am_c_86_0.all (am_ok 86) = true := by decide +kernel
theorem am_k_86_1 : am_c_86_1.all (am_ok 86) = true := by decide +kernel
theorem am_k_86_2 : am_c_86_2.all (am_ok 86) = true := by decide +kernel
theorem am_k_86_3 : am_c_86_3.all (am_ok 86) = true := by decide +kernel
theorem am_q_86 : am_m_86.all (fun l => l.all (am_ok 86)) = true := by simp only [am_m_86, List.all_cons, List.all_nil, am_k_86_0, am_k_86_1, am_k_86_2, am_k_86_3, Bool.and_self]
theorem am_k_87_0 : am_c_87_0.all (am_ok 87) = true := by decide +kernel
theorem am_k_87_1 : am_c_87_1.all (am_ok 87) = true := by decide +kernel
theorem am_k_87_2 : am_c_87_2.all (am_ok 87) = true := by decide +kernel
theorem am_k_87_3 : am_c_87_3.all (am_ok 87) = true := by decide +kernel
theorem am_k_87_4 : am_c_87_4.all (am_ok 87) = true := by decide +kernel
theorem am_q_87 : am_m_87.all (fun l => l.all (am_ok 87)) = true := by simp only [am_m_87, List.all_cons, List.all_nil, am_k_87_0, am_k_87_1, am_k_87_2, am_k_87_3, am_k_87_4, Bool.and_self]
theorem am_k_88_0 : am_c_88_0.all (am_ok 88) = true := by decide +kernel
theorem am_k_88_1 : am_c_88_1.all (am_ok 88) = true := by decide +kernel
theorem am_k_88_2 : am_c_88_2.all (am_ok 88) = true := by decide +kernel
theorem am_k_88_3 : am_c_88_3.all (am_ok 88) = true := by decide +kernel
theorem am_k_88_4 : am_c_88_4.all (am_ok 88) = true := by decide +kernel
theorem am_k_88_5 : am_c_88_5.all (am_ok 88) = true := by decide +kernel
theorem am_q_88 : am_m_88.all (fun l => l.all (am_ok 88)) = true := by simp only [am_m_88, List.all_cons, List.all_nil, am_k_88_0, am_k_88_1, am_k_88_2, am_k_88_3, am_k_88_4, am_k_88_5, Bool.and_self]
theorem am_k_89_0 : am_c_89_0.all (am_ok 89) = true := by decide +kernel
theorem am_k_89_1 : am_c_89_1.all (am_ok 89) = true := by decide +kernel
theorem am_k_89_2 : am_c_89_2.all (am_ok 89) = true := by decide +kernel
theorem am_k_89_3 : am_c_89_3.all (am_ok 89) = true := by decide +kernel
theorem am_q_89 : am_m_89.all (fun l => l.all (am_ok 89)) = true := by simp only [am_m_89, List.all_cons, List.all_nil, am_k_89_0, am_k_89_1, am_k_89_2, am_k_89_3, Bool.and_self]
theorem am_k_90_0 : am_c_90_0.all (am_ok 90) = true := by decide +kernel
theorem am_k_90_1 : am_c_90_1.all (am_ok 90) = true := by decide +kernel
theorem am_q_90 : am_m_90.all (fun l => l.all (am_ok 90)) = true := by simp only [am_m_90, List.all_cons, List.all_nil, am_k_90_0, am_k_90_1, Bool.and_self]
theorem am_k_91_0 : am_c_91_0.all (am_ok 91) = true := by decide +kernel
theorem am_k_91_1 : am_c_91_1.all (am_ok 91) = true := by decide +kernel
theorem am_k_91_2 : am_c_91_2.all (am_ok 91) = true := by decide +kernel
theorem am_k_91_3 : am_c_91_3.all (am_ok 91) = true := by decide +kernel
theorem am_q_91 : am_m_91.all (fun l => l.all (am_ok 91)) = true := by simp only [am_m_91, List.all_cons, List.all_nil, am_k_91_0, am_k_91_1, am_k_91_2, am_k_91_3, Bool.and_self]
theorem am_k_92_0 : am_c_92_0.all (am_ok 92) = true := by decide +kernel
theorem am_k_92_1 : am_c_92_1.all (am_ok 92) = true := by decide +kernel
theorem am_k_92_2 : am_c_92_2.all (am_ok 92) = true := by decide +kernel
theorem am_k_92_3 : am_c_92_3.all (am_ok 92) = true := by decide +kernel
theorem am_k_92_4 : am_c_92_4.all (am_ok 92) = true := by decide +kernel
theorem am_k_92_5 : am_c_92_5.all (am_ok 92) = true := by decide +kernel
theorem am_k_92_6 : am_c_92_6.all (am_ok 92) = true := by decide +kernel
theorem am_q_92 : am_m_92.all (fun l => l.all (am_ok 92)) = true := by simp only [am_m_92, List.all_cons, List.all_nil, am_k_92_0, am_k_92_1, am_k_92_2, am_k_92_3, am_k_92_4, am_k_92_5, am_k_92_6, Bool.and_self]
theorem am_k_93_0 : am_c_93_0.all (am_ok 93) = true := by decide +kernel
theorem am_k_93_1 : am_c_93_1.all (am_ok 93) = true := by decide +kernel
theorem am_k_93_2 : am_c_93_2.all (am_ok 93) = true := by decide +kernel
theorem am_k_93_3 : am_c_93_3.all (am_ok 93) = true := by decide +kernel
theorem am_q_93 : am_m_93.all (fun l => l.all (am_ok 93)) = true := by simp only [am_m_93, List.all_cons, List.all_nil, am_k_93_0, am_k_93_1, am_k_93_2, am_k_93_3, Bool.and_self]
theorem am_k_94_0 : am_c_94_0.all (am_ok 94) = true := by decide +kernel
theorem am_k_94_1 : am_c_94_1.all (am_ok 94) = true := by decide +kernel
theorem am_k_94_2 : am_c_94_2.all (am_ok 94) = true := by decide +kernel
theorem am_q_94 : am_m_94.all (fun l => l.all (am_ok 94)) = true := by simp only [am_m_94, List.all_cons, List.all_nil, am_k_94_0, am_k_94_1, am_k_94_2, Bool.and_self]
theorem am_k_95_0 : am_c_95_0.all (am_ok 95) = true := by decide +kernel
theorem am_q_95 : am_m_95.all (fun l => l.all (am_ok 95)) = true := by simp only [am_m_95, List.all_cons, List.all_nil, am_k_95_0, Bool.and_self]
theorem am_k_96_0 : am_c_96_0.all (am_ok 96) = true := by decide +kernel
theorem am_k_96_1 : am_c_96_1.all (am_ok 96) = true := by decide +kernel
theorem am_k_96_2 : am_c_96_2.all (am_ok 96) = true := by decide +kernel
theorem am_k_96_3 : am_c_96_3.all (am_ok 96) = true := by decide +kernel
theorem am_k_96_4 : am_c_96_4.all (am_ok 96) = true := by decide +kernel
theorem am_k_96_5 : am_c_96_5.all (am_ok 96) = true := by decide +kernel
theorem am_q_96 : am_m_96.all (fun l => l.all (am_ok 96)) = true := by simp only [am_m_96, List.all_cons, List.all_nil, am_k_96_0, am_k_96_1, am_k_96_2, am_k_96_3, am_k_96_4, am_k_96_5, Bool.and_self]
theorem am_k_97_0 : am_c_97_0.all (am_ok 97) = true := by decide +kernel
theorem am_k_97_1 : am_c_97_1.all (am_ok 97) = true := by decide +kernel
theorem am_k_97_2 : am_c_97_2.all (am_ok 97) = true := by decide +kernel
theorem am_k_97_3 : am_c_97_3.all (am_ok 97) = true := by decide +kernel
theorem am_q_97 : am_m_97.all (fun l => l.all (am_ok 97)) = true := by simp only [am_m_97, List.all_cons, List.all_nil, am_k_97_0, am_k_97_1, am_k_97_2, am_k_97_3, Bool.and_self]
theorem am_k_98_0 : am_c_98_0.all (am_ok 98) = true := by decide +kernel
theorem am_k_98_1 : am_c_98_1.all (am_ok 98) = true := by decide +kernel
theorem am_k_98_2 : am_c_98_2.all (am_ok 98) = true := by decide +kernel
theorem am_k_98_3 : am_c_98_3.all (am_ok 98) = true := by decide +kernel
theorem am_q_98 : am_m_98.all (fun l => l.all (am_ok 98)) = true := by simp only [am_m_98, List.all_cons, List.all_nil, am_k_98_0, am_k_98_1, am_k_98_2, am_k_98_3, Bool.and_self]
theorem am_k_99_0 : am_c_99_0.all (am_ok 99) = true := by decide +kernel
theorem am_k_99_1 : am_c_99_1.all (am_ok 99) = true := by decide +kernel
theorem am_q_99 : am_m_99.all (fun l => l.all (am_ok 99)) = true := by simp only [am_m_99, List.all_cons, List.all_nil, am_k_99_0, am_k_99_1, Bool.and_self]
theorem am_k_100_0 : am_c_100_0.all (am_ok 100) = true := by decide +kernel
theorem am_q_100 : am_m_100.all (fun l => l.all (am_ok 100)) = true := by simp only [am_m_100, List.all_cons, List.all_nil, am_k_100_0, Bool.and_self]
theorem am_k_101_0 : am_c_101_0.all (am_ok 101) = true := by decide +kernel
theorem am_q_101 : am_m_101.all (fun l => l.all (am_ok 101)) = true := by simp only [am_m_101, List.all_cons, List.all_nil, am_k_101_0, Bool.and_self]
theorem am_k_102_0 : am_c_102_0.all (am_ok 102) = true := by decide +kernel
theorem am_q_102 : am_m_102.all (fun l => l.all (am_ok 102)) = true := by simp only [am_m_102, List.all_cons, List.all_nil, am_k_102_0, Bool.and_self]
theorem am_k_103_0 : am_c_103_0.all (am_ok 103) = true := by decide +kernel
theorem am_k_103_1 : am_c_103_1.all (am_ok 103) = true := by decide +kernel
theorem am_q_103 : am_m_103.all (fun l => l.all (am_ok 103)) = true := by simp only [am_m_103, List.all_cons, List.all_nil, am_k_103_0, am_k_103_1, Bool.and_self]
theorem am_k_104_0 : am_c_104_0.all (am_ok 104) = true := by decide +kernel
theorem am_k_104_1 : am_c_104_1.all (am_ok 104) = true := by decide +kernel
theorem am_q_104 : am_m_104.all (fun l => l.all (am_ok 104)) = true := by simp only [am_m_104, List.all_cons, List.all_nil, am_k_104_0, am_k_104_1, Bool.and_self]
theorem am_k_105_0 : am_c_105_0.all (am_ok 105) = true := by decide +kernel
theorem am_q_105 : am_m_105.all (fun l => l.all (am_ok 105)) = true := by simp only [am_m_105, List.all_cons, List.all_nil, am_k_105_0, Bool.and_self]
theorem am_k_106_0 : am_c_106_0.all (am_ok 106) = true := by decide +kernel
theorem am_k_106_1 : am_c_106_1.all (am_ok 106) = true := by decide +kernel
theorem am_q_106 : am_m_106.all (fun l => l.all (am_ok 106)) = true := by simp only [am_m_106, List.all_cons, List.all_nil, am_k_106_0, am_k_106_1, Bool.and_self]
theorem am_k_107_0 : am_c_107_0.all (am_ok 107) = true := by decide +kernel
theorem am_k_107_1 : am_c_107_1.all (am_ok 107) = true := by decide +kernel
theorem am_q_107 : am_m_107.all (fun l => l.all (am_ok 107)) = true := by simp only [am_m_107, List.all_cons, List.all_nil, am_k_107_0, am_k_107_1, Bool.and_self]
theorem am_k_108_0 : am_c_108_0.all (am_ok 108) = true := by decide +kernel
theorem am_k_108_1 : am_c_108_1.all (am_ok 108) = true := by decide +kernel
theorem am_q_108 : am_m_108.all (fun l => l.all (am_ok 108)) = true := by simp only [am_m_108, List.all_cons, List.all_nil, am_k_108_0, am_k_108_1, Bool.and_self]
theorem am_k_109_0 : am_c_109_0.all (am_ok 109) = true := by decide +kernel
theorem am_k_109_1 : am_c_109_1.all (am_ok 109) = true := by decide +kernel
theorem am_k_109_2 : am_c_109_2.all (am_ok 109) = true := by decide +kernel
theorem am_k_109_3 : am_c_109_3.all (am_ok 109) = true := by decide +kernel
theorem am_k_109_4 : am_c_109_4.all (am_ok 109) = true := by decide +kernel
theorem am_k_109_5 : am_c_109_5.all (am_ok 109) = true := by decide +kernel
theorem am_q_109 : am_m_109.all (fun l => l.all (am_ok 109)) = true := by simp only [am_m_109, List.all_cons, List.all_nil, am_k_109_0, am_k_109_1, am_k_109_2, am_k_109_3, am_k_109_4, am_k_109_5, Bool.and_self]
theorem am_k_110_0 : am_c_110_0.all (am_ok 110) = true := by decide +kernel
theorem am_k_110_1 : am_c_110_1.all (am_ok 110) = true := by decide +kernel
theorem am_q_110 : am_m_110.all (fun l => l.all (am_ok 110)) = true := by simp only [am_m_110, List.all_cons, List.all_nil, am_k_110_0, am_k_110_1, Bool.and_self]
theorem am_k_111_0 : am_c_111_0.all (am_ok 111) = true := by decide +kernel
theorem am_k_111_1 : am_c_111_1.all (am_ok 111) = true := by decide +kernel
theorem am_k_111_2 : am_c_111_2.all (am_ok 111) = true := by decide +kernel
theorem am_k_111_3 : am_c_111_3.all (am_ok 111) = true := by decide +kernel
theorem am_q_111 : am_m_111.all (fun l => l.all (am_ok 111)) = true := by simp only [am_m_111, List.all_cons, List.all_nil, am_k_111_0, am_k_111_1, am_k_111_2, am_k_111_3, Bool.and_self]
theorem am_k_112_0 : am_c_112_0.all (am_ok 112) = true := by decide +kernel
theorem am_k_112_1 : am_c_112_1.all (am_ok 112) = true := by decide +kernel
theorem am_k_112_2 : am_c_112_2.all (am_ok 112) = true := by decide +kernel
theorem am_k_112_3 : am_c_112_3.all (am_ok 112) = true := by decide +kernel
theorem am_k_112_4 : am_c_112_4.all (am_ok 112) = true := by decide +kernel
theorem am_k_112_5 : am_c_112_5.all (am_ok 112) = true := by decide +kernel
theorem am_q_112 : am_m_112.all (fun l => l.all (am_ok 112)) = true := by simp only [am_m_112, List.all_cons, List.all_nil, am_k_112_0, am_k_112_1, am_k_112_2, am_k_112_3, am_k_112_4, am_k_112_5, Bool.and_self]
theorem am_k_113_0 : am_c_113_0.all (am_ok 113) = true := by decide +kernel
theorem am_k_113_1 : am_c_113_1.all (am_ok 113) = true := by decide +kernel
theorem am_k_113_2 : am_c_113_2.all (am_ok 113) = true := by decide +kernel
theorem am_q_113 : am_m_113.all (fun l => l.all (am_ok 113)) = true := by simp only [am_m_113, List.all_cons, List.all_nil, am_k_113_0, am_k_113_1, am_k_113_2, Bool.and_self]
theorem am_k_114_0 : am_c_114_0.all (am_ok 114) = true := by decide +kernel
theorem am_k_114_1 : am_c_114_1.all (am_ok 114) = true := by decide +kernel
theorem am_k_114_2 : am_c_114_2.all (am_ok 114) = true := by decide +kernel
theorem am_q_114 : am_m_114.all (fun l => l.all (am_ok 114)) = true := by simp only [am_m_114, List.all_cons, List.all_nil, am_k_114_0, am_k_114_1, am_k_114_2, Bool.and_self]
theorem am_k_115_0 : am_c_115_0.all (am_ok 115) = true := by decide +kernel
theorem am_k_115_1 : am_c_115_1.all (am_ok 115) = true := by decide +kernel
theorem am_k_115_2 : am_c_115_2.all (am_ok 115) = true := by decide +kernel
theorem am_k_115_3 : am_c_115_3.all (am_ok 115) = true := by decide +kernel
theorem am_k_115_4 : am_c_115_4.all (am_ok 115) = true := by decide +kernel
theorem am_k_115_5 : am_c_115_5.all (am_ok 115) = true := by decide +kernel
theorem am_k_115_6 : am_c_115_6.all (am_ok 115) = true := by decide +kernel
theorem am_k_115_7 : am_c_115_7.all (am_ok 115) = true := by decide +kernel
theorem am_k_115_8 : am_c_115_8.all (am_ok 115) = true := by decide +kernel
theorem am_k_115_9 : am_c_115_9.all (am_ok 115) = true := by decide +kernel
theorem am_k_115_10 : am_c_115_10.all (am_ok 115) = true := by decide +kernel
theorem am_k_115_11 : am_c_115_11.all (am_ok 115) = true := by decide +kernel
theorem am_k_115_12 : am_c_115_12.all (am_ok 115) = true := by decide +kernel
theorem am_k_115_13 : am_c_115_13.all (am_ok 115) = true := by decide +kernel
theorem am_k_115_14 : am_c_115_14.all (am_ok 115) = true := by decide +kernel
theorem am_k_115_15 : am_c_115_15.all (am_ok 115) = true := by decide +kernel
theorem am_k_115_16 : am_c_115_16.all (am_ok 115) = true := by decide +kernel
theorem am_k_115_17 : am_c_115_17.all (am_ok 115) = true := by decide +kernel
theorem am_k_115_18 : am_c_115_18.all (am_ok 115) = true := by decide +kernel
theorem am_k_115_19 : am_c_115_19.all (am_ok 115) = true := by decide +kernel
theorem am_q_115 : am_m_115.all (fun l => l.all (am_ok 115)) = true := by simp only [am_m_115, List.all_cons, List.all_nil, am_k_115_0, am_k_115_1, am_k_115_2, am_k_115_3, am_k_115_4, am_k_115_5, am_k_115_6, am_k_115_7, am_k_115_8, am_k_115_9, am_k_115_10, am_k_115_11, am_k_115_12, am_k_115_13, am_k_115_14, am_k_115_15, am_k_115_16, am_k_115_17, am_k_115_18, am_k_115_19, Bool.and_self]
theorem am_k_116_0 : am_c_116_0.all (am_ok 116) = true := by decide +kernel
theorem am_k_116_1 : am_c_116_1.all (am_ok 116) = true := by decide +kernel
theorem am_k_116_2 : am_c_116_2.all (am_ok 116) = true := by decide +kernel
theorem am_k_116_3 : am_c_116_3.all (am_ok 116) = true := by decide +kernel
theorem am_k_116_4 : am_c_116_4.all (am_ok 116) = true := by decide +kernel
theorem am_k_116_5 : am_c_116_5.all (am_ok 116) = true := by decide +kernel
theorem am_k_116_6 : am_c_116_6.all (am_ok 116) = true := by decide +kernel
theorem am_k_116_7 : am_c_116_7.all (am_ok 116) = true := by decide +kernel
theorem am_k_116_8 : am_c_116_8.all (am_ok 116) = true := by decide +kernel
theorem am_k_116_9 : am_c_116_9.all (am_ok 116) = true := by decide +kernel
theorem am_k_116_10 : am_c_116_10.all (am_ok 116) = true := by decide +kernel
theorem am_k_116_11 : am_c_116_11.all (am_ok 116) = true := by decide +kernel
theorem am_k_116_12 : am_c_116_12.all (am_ok 116) = true := by decide +kernel
theorem am_q_116 : am_m_116.all (fun l => l.all (am_ok 116)) = true := by simp only [am_m_116, List.all_cons, List.all_nil, am_k_116_0, am_k_116_1, am_k_116_2, am_k_116_3, am_k_116_4, am_k_116_5, am_k_116_6, am_k_116_7, am_k_116_8, am_k_116_9, am_k_116_10, am_k_116_11, am_k_116_12, Bool.and_self]
theorem am_k_117_0 : am_c_117_0.all (am_ok 117) = true := by decide +kernel
theorem am_k_117_1 : am_c_117_1.all (am_ok 117) = true := by decide +kernel
theorem am_k_117_2 : am_c_117_2.all (am_ok 117) = true := by decide +kernel
theorem am_k_117_3 : am_c_117_3.all (am_ok 117) = true := by decide +kernel
theorem am_k_117_4 : am_c_117_4.all (am_ok 117) = true := by decide +kernel
theorem am_q_117 : am_m_117.all (fun l => l.all (am_ok 117)) = true := by simp only [am_m_117, List.all_cons, List.all_nil, am_k_117_0, am_k_117_1, am_k_117_2, am_k_117_3, am_k_117_4, Bool.and_self]
theorem am_k_118_0 : am_c_118_0.all (am_ok 118) = true := by decide +kernel
theorem am_k_118_1 : am_c_118_1.all (am_ok 118) = true := by decide +kernel
theorem am_k_118_2 : am_c_118_2.all (am_ok 118) = true := by decide +kernel
theorem am_k_118_3 : am_c_118_3.all (am_ok 118) = true := by decide +kernel
theorem am_k_118_4 : am_c_118_4.all (am_ok 118) = true := by decide +kernel
theorem am_k_118_5 : am_c_118_5.all (am_ok 118) = true := by decide +kernel
theorem am_q_118 : am_m_118.all (fun l => l.all (am_ok 118)) = true := by simp only [am_m_118, List.all_cons, List.all_nil, am_k_118_0, am_k_118_1, am_k_118_2, am_k_118_3, am_k_118_4, am_k_118_5, Bool.and_self]
theorem am_k_119_0 : am_c_119_0.all (am_ok 119) = true := by decide +kernel
theorem am_q_119 : am_m_119.all (fun l => l.all (am_ok 119)) = true := by simp only [am_m_119, List.all_cons, List.all_nil, am_k_119_0, Bool.and_self]
theorem am_k_120_0 : am_c_120_0.all (am_ok 120) = true := by decide +kernel
theorem am_k_120_1 : am_c_120_1.all (am_ok 120) = true := by decide +kernel
theorem am_k_120_2 : am_c_120_2.all (am_ok 120) = true := by decide +kernel
theorem am_k_120_3 : am_c_120_3.all (am_ok 120) = true := by decide +kernel
theorem am_k_120_4 : am_c_120_4.all (am_ok 120) = true := by decide +kernel
theorem am_k_120_5 : am_c_120_5.all (am_ok 120) = true := by decide +kernel
theorem am_k_120_6 : am_c_120_6.all (am_ok 120) = true := by decide +kernel
theorem am_k_120_7 : am_c_120_7.all (am_ok 120) = true := by decide +kernel
theorem am_k_120_8 : am_c_120_8.all (am_ok 120) = true := by decide +kernel
theorem am_k_120_9 : am_c_120_9.all (am_ok 120) = true := by decide +kernel
theorem am_k_120_10 : am_c_120_10.all (am_ok 120) = true := by decide +kernel
theorem am_k_120_11 : am_c_120_11.all (am_ok 120) = true := by decide +kernel
theorem am_k_120_12 : am_c_120_12.all (am_ok 120) = true := by decide +kernel
theorem am_q_120 : am_m_120.all (fun l => l.all (am_ok 120)) = true := by simp only [am_m_120, List.all_cons, List.all_nil, am_k_120_0, am_k_120_1, am_k_120_2, am_k_120_3, am_k_120_4, am_k_120_5, am_k_120_6, am_k_120_7, am_k_120_8, am_k_120_9, am_k_120_10, am_k_120_11, am_k_120_12, Bool.and_self]
theorem am_k_121_0 : am_c_121_0.all (am_ok 121) = true := by decide +kernel
theorem am_k_121_1 : am_c_121_1.all (am_ok 121) = true := by decide +kernel
theorem am_q_121 : am_m_121.all (fun l => l.all (am_ok 121)) = true := by simp only [am_m_121, List.all_cons, List.all_nil, am_k_121_0, am_k_121_1, Bool.and_self]
theorem am_k_122_0 : am_c_122_0.all (am_ok 122) = true := by decide +kernel
theorem am_k_122_1 : am_c_122_1.all (am_ok 122) = true := by decide +kernel
theorem am_k_122_2 : am_c_122_2.all (am_ok 122) = true := by decide +kernel
theorem am_k_122_3 : am_c_122_3.all (am_ok 122) = true := by decide +kernel
theorem am_k_122_4 : am_c_122_4.all (am_ok 122) = true := by decide +kernel
theorem am_k_122_5 : am_c_122_5.all (am_ok 122) = true := by decide +kernel
theorem am_k_122_6 : am_c_122_6.all (am_ok 122) = true := by decide +kernel
theorem am_k_122_7 : am_c_122_7.all (am_ok 122) = true := by decide +kernel
theorem am_k_122_8 : am_c_122_8.all (am_ok 122) = true := by decide +kernel
theorem am_k_122_9 : am_c_122_9.all (am_ok 122) = true := by decide +kernel
theorem am_q_122 : am_m_122.all (fun l => l.all (am_ok 122)) = true := by simp only [am_m_122, List.all_cons, List.all_nil, am_k_122_0, am_k_122_1, am_k_122_2, am_k_122_3, am_k_122_4, am_k_122_5, am_k_122_6, am_k_122_7, am_k_122_8, am_k_122_9, Bool.and_self]
theorem am_k_123_0 : am_c_123_0.all (am_ok 123) = true := by decide +kernel
theorem am_k_123_1 : am_c_123_1.all (am_ok 123) = true := by decide +kernel
theorem am_k_123_2 : am_c_123_2.all (am_ok 123) = true := by decide +kernel
theorem am_k_123_3 : am_c_123_3.all (am_ok 123) = true := by decide +kernel
theorem am_k_123_4 : am_c_123_4.all (am_ok 123) = true := by decide +kernel
theorem am_k_123_5 : am_c_123_5.all (am_ok 123) = true := by decide +kernel
theorem am_k_123_6 : am_c_123_6.all (am_ok 123) = true := by decide +kernel
theorem am_q_123 : am_m_123.all (fun l => l.all (am_ok 123)) = true := by simp only [am_m_123, List.all_cons, List.all_nil, am_k_123_0, am_k_123_1, am_k_123_2, am_k_123_3, am_k_123_4, am_k_123_5, am_k_123_6, Bool.and_self]
theorem am_k_124_0 : am_c_124_0.all (am_ok 124) = true := by decide +kernel
theorem am_k_124_1 : am_c_124_1.all (am_ok 124) = true := by decide +kernel
theorem am_k_124_2 : am_c_124_2.all (am_ok 124) = true := by decide +kernel
theorem am_k_124_3 : am_c_124_3.all (am_ok 124) = true := by decide +kernel
theorem am_k_124_4 : am_c_124_4.all (am_ok 124) = true := by decide +kernel
theorem am_q_124 : am_m_124.all (fun l => l.all (am_ok 124)) = true := by simp only [am_m_124, List.all_cons, List.all_nil, am_k_124_0, am_k_124_1, am_k_124_2, am_k_124_3, am_k_124_4, Bool.and_self]
theorem am_k_125_0 : am_c_125_0.all (am_ok 125) = true := by decide +kernel
theorem am_k_125_1 : am_c_125_1.all (am_ok 125) = true := by decide +kernel
theorem am_k_125_2 : am_c_125_2.all (am_ok 125) = true := by decide +kernel
theorem am_k_125_3 : am_c_125_3.all (am_ok 125) = true := by decide +kernel
theorem am_q_125 : am_m_125.all (fun l => l.all (am_ok 125)) = true := by simp only [am_m_125, List.all_cons, List.all_nil, am_k_125_0, am_k_125_1, am_k_125_2, am_k_125_3, Bool.and_self]
theorem am_k_126_0 : am_c_126_0.all (am_ok 126) = true := by decide +kernel
theorem am_k_126_1 : am_c_126_1.all (am_ok 126) = true := by decide +kernel
theorem am_k_126_2 : am_c_126_2.all (am_ok 126) = true := by decide +kernel
theorem am_k_126_3 : am_c_126_3.all (am_ok 126) = true := by decide +kernel
theorem am_q_126 : am_m_126.all (fun l => l.all (am_ok 126)) = true := by simp only [am_m_126, List.all_cons, List.all_nil, am_k_126_0, am_k_126_1, am_k_126_2, am_k_126_3, Bool.and_self]
theorem am_k_127_0 : am_c_127_0.all (am_ok 127) = true := by decide +kernel
theorem am_k_127_1 : am_c_127_1.all (am_ok 127) = true := by decide +kernel
theorem am_k_127_2 : am_c_127_2.all (am_ok 127) = true := by decide +kernel
theorem am_k_127_3 : am_c_127_3.all (am_ok 127) = true := by decide +kernel
theorem am_k_127_4 : am_c_127_4.all (am_ok 127) = true := by decide +kernel
theorem am_q_127 : am_m_127.all (fun l => l.all (am_ok 127)) = true := by simp only [am_m_127, List.all_cons, List.all_nil, am_k_127_0, am_k_127_1, am_k_127_2, am_k_127_3, am_k_127_4, Bool.and_self]
theorem am_k_128_0 : am_c_128_0.all (am_ok 128) = true := by decide +kernel
theorem am_k_128_1 : am_c_128_1.all (am_ok 128) = true := by decide +kernel
theorem am_k_128_2 : am_c_128_2.all (am_ok 128) = true := by decide +kernel
theorem am_q_128 : am_m_128.all (fun l => l.all (am_ok 128)) = true := by simp only [am_m_128, List.all_cons, List.all_nil, am_k_128_0, am_k_128_1, am_k_128_2, Bool.and_self]
theorem am_k_129_0 : am_c_129_0.all (am_ok 129) = true := by decide +kernel
theorem am_k_129_1 : am_c_129_1.all (am_ok 129) = true := by decide +kernel
theorem am_k_129_2 : am_c_129_2.all (am_ok 129) = true := by decide +kernel
theorem am_k_129_3 : am_c_129_3.all (am_ok 129) = true := by decide +kernel
theorem am_k_129_4 : am_c_129_4.all (am_ok 129) = true := by decide +kernel
theorem am_q_129 : am_m_129.all (fun l => l.all (am_ok 129)) = true := by simp only [am_m_129, List.all_cons, List.all_nil, am_k_129_0, am_k_129_1, am_k_129_2, am_k_129_3, am_k_129_4, Bool.and_self]
theorem am_k_130_0 : am_c_130_0.all (am_ok 130) = true := by decide +kernel
theorem am_k_130_1 : am_c_130_1.all (am_ok 130) = true := by decide +kernel
theorem am_q_130 : am_m_130.all (fun l => l.all (am_ok 130)) = true := by simp only [am_m_130, List.all_cons, List.all_nil, am_k_130_0, am_k_130_1, Bool.and_self]
theorem am_k_131_0 : am_c_131_0.all (am_ok 131) = true := by decide +kernel
theorem am_k_131_1 : am_c_131_1.all (am_ok 131) = true := by decide +kernel
theorem am_k_131_2 : am_c_131_2.all (am_ok 131) = true := by decide +kernel
theorem am_q_131 : am_m_131.all (fun l => l.all (am_ok 131)) = true := by simp only [am_m_131, List.all_cons, List.all_nil, am_k_131_0, am_k_131_1, am_k_131_2, Bool.and_self]
theorem am_k_132_0 : am_c_132_0.all (am_ok 132) = true := by decide +kernel
theorem am_k_132_1 : am_c_132_1.all (am_ok 132) = true := by decide +kernel
theorem am_k_132_2 : am_c_132_2.all (am_ok 132) = true := by decide +kernel
theorem am_k_132_3 : am_c_132_3.all (am_ok 132) = true := by decide +kernel
theorem am_k_132_4 : am_c_132_4.all (am_ok 132) = true := by decide +kernel
theorem am_k_132_5 : am_c_132_5.all (am_ok 132) = true := by decide +kernel
theorem am_k_132_6 : am_c_132_6.all (am_ok 132) = true := by decide +kernel
theorem am_k_132_7 : am_c_132_7.all (am_ok 132) = true := by decide +kernel
theorem am_k_132_8 : am_c_132_8.all (am_ok 132) = true := by decide +kernel
theorem am_k_132_9 : am_c_132_9.all (am_ok 132) = true := by decide +kernel
theorem am_k_132_10 : am_c_132_10.all (am_ok 132) = true := by decide +kernel
theorem am_k_132_11 : am_c_132_11.all (am_ok 132) = true := by decide +kernel
theorem am_k_132_12 : am_c_132_12.all (am_ok 132) = true := by decide +kernel
theorem am_k_132_13 : am_c_132_13.all (am_ok 132) = true := by decide +kernel
theorem am_k_132_14 : am_c_132_14.all (am_ok 132) = true := by decide +kernel
theorem am_q_132 : am_m_132.all (fun l => l.all (am_ok 132)) = true := by simp only [am_m_132, List.all_cons, List.all_nil, am_k_132_0, am_k_132_1, am_k_132_2, am_k_132_3, am_k_132_4, am_k_132_5, am_k_132_6, am_k_132_7, am_k_132_8, am_k_132_9, am_k_132_10, am_k_132_11, am_k_132_12, am_k_132_13, am_k_132_14, Bool.and_self]
theorem am_k_133_0 : am_c_133_0.all (am_ok 133) = true := by decide +kernel
theorem am_k_133_1 : am_c_133_1.all (am_ok 133) = true := by decide +kernel
theorem am_k_133_2 : am_c_133_2.all (am_ok 133) = true := by decide +kernel
theorem am_k_133_3 : am_c_133_3.all (am_ok 133) = true := by decide +kernel
theorem am_k_133_4 : am_c_133_4.all (am_ok 133) = true := by decide +kernel
theorem am_k_133_5 : am_c_133_5.all (am_ok 133) = true := by decide +kernel
theorem am_q_133 : am_m_133.all (fun l => l.all (am_ok 133)) = true := by simp only [am_m_133, List.all_cons, List.all_nil, am_k_133_0, am_k_133_1, am_k_133_2, am_k_133_3, am_k_133_4, am_k_133_5, Bool.and_self]
theorem am_k_134_0 : am_c_134_0.all (am_ok 134) = true := by decide +kernel
theorem am_k_134_1 : am_c_134_1.all (am_ok 134) = true := by decide +kernel
theorem am_k_134_2 : am_c_134_2.all (am_ok 134) = true := by decide +kernel
theorem am_q_134 : am_m_134.all (fun l => l.all (am_ok 134)) = true := by simp only [am_m_134, List.all_cons, List.all_nil, am_k_134_0, am_k_134_1, am_k_134_2, Bool.and_self]
theorem am_k_135_0 : am_c_135_0.all (am_ok 135) = true := by decide +kernel
theorem am_k_135_1 : am_c_135_1.all (am_ok 135) = true := by decide +kernel
theorem am_k_135_2 : am_c_135_2.all (am_ok 135) = true := by decide +kernel
theorem am_k_135_3 : am_c_135_3.all (am_ok 135) = true := by decide +kernel
theorem am_k_135_4 : am_c_135_4.all (am_ok 135) = true := by decide +kernel
theorem am_k_135_5 : am_c_135_5.all (am_ok 135) = true := by decide +kernel
theorem am_k_135_6 : am_c_135_6.all (am_ok 135) = true := by decide +kernel
theorem am_k_135_7 : am_c_135_7.all (am_ok 135) = true := by decide +kernel
theorem am_k_135_8 : am_c_135_8.all (am_ok 135) = true := by decide +kernel
theorem am_k_135_9 : am_c_135_9.all (am_ok 135) = true := by decide +kernel
theorem am_k_135_10 : am_c_135_10.all (am_ok 135) = true := by decide +kernel
theorem am_k_135_11 : am_c_135_11.all (am_ok 135) = true := by decide +kernel
theorem am_k_135_12 : am_c_135_12.all (am_ok 135) = true := by decide +kernel
theorem am_k_135_13 : am_c_135_13.all (am_ok 135) = true := by decide +kernel
theorem am_k_135_14 : am_c_135_14.all (am_ok 135) = true := by decide +kernel
theorem am_k_135_15 : am_c_135_15.all (am_ok 135) = true := by decide +kernel
theorem am_q_135 : am_m_135.all (fun l => l.all (am_ok 135)) = true := by simp only [am_m_135, List.all_cons, List.all_nil, am_k_135_0, am_k_135_1, am_k_135_2, am_k_135_3, am_k_135_4, am_k_135_5, am_k_135_6, am_k_135_7, am_k_135_8, am_k_135_9, am_k_135_10, am_k_135_11, am_k_135_12, am_k_135_13, am_k_135_14, am_k_135_15, Bool.and_self]
theorem am_k_136_0 : am_c_136_0.all (am_ok 136) = true := by decide +kernel
theorem am_k_136_1 : am_c_136_1.all (am_ok 136) = true := by decide +kernel
theorem am_k_136_2 : am_c_136_2.all (am_ok 136) = true := by decide +kernel
theorem am_k_136_3 : am_c_136_3.all (am_ok 136) = true := by decide +kernel
theorem am_k_136_4 : am_c_136_4.all (am_ok 136) = true := by decide +kernel
theorem am_k_136_5 : am_c_136_5.all (am_ok 136) = true := by decide +kernel
theorem am_q_136 : am_m_136.all (fun l => l.all (am_ok 136)) = true := by simp only [am_m_136, List.all_cons, List.all_nil, am_k_136_0, am_k_136_1, am_k_136_2, am_k_136_3, am_k_136_4, am_k_136_5, Bool.and_self]
theorem am_k_137_0 : am_c_137_0.all (am_ok 137) = true := by decide +kernel
theorem am_k_137_1 : am_c_137_1.all (am_ok 137) = true := by decide +kernel
theorem am_k_137_2 : am_c_137_2.all (am_ok 137) = true := by decide +kernel
theorem am_k_137_3 : am_c_137_3.all (am_ok 137) = true := by decide +kernel
theorem am_q_137 : am_m_137.all (fun l => l.all (am_ok 137)) = true := by simp only [am_m_137, List.all_cons, List.all_nil, am_k_137_0, am_k_137_1, am_k_137_2, am_k_137_3, Bool.and_self]
theorem am_k_138_0 : am_c_138_0.all (am_ok 138) = true := by decide +kernel
theorem am_k_138_1 : am_c_138_1.all (am_ok 138) = true := by decide +kernel
theorem am_k_138_2 : am_c_138_2.all (am_ok 138) = true := by decide +kernel
theorem am_k_138_3 : am_c_138_3.all (am_ok 138) = true := by decide +kernel
theorem am_k_138_4 : am_c_138_4.all (am_ok 138) = true := by decide +kernel
theorem am_k_138_5 : am_c_138_5.all (am_ok 138) = true := by decide +kernel
theorem am_k_138_6 : am_c_138_6.all (am_ok 138) = true := by decide +kernel
theorem am_k_138_7 : am_c_138_7.all (am_ok 138) = true := by decide +kernel
theorem am_k_138_8 : am_c_138_8.all (am_ok 138) = true := by decide +kernel
theorem am_k_138_9 : am_c_138_9.all (am_ok 138) = true := by decide +kernel
theorem am_k_138_10 : am_c_138_10.all (am_ok 138) = true := by decide +kernel
theorem am_k_138_11 : am_c_138_11.all (am_ok 138) = true := by decide +kernel
theorem am_k_138_12 : am_c_138_12.all (am_ok 138) = true := by decide +kernel
theorem am_k_138_13 : am_c_138_13.all (am_ok 138) = true := by decide +kernel
theorem am_k_138_14 : am_c_138_14.all (am_ok 138) = true := by decide +kernel
theorem am_k_138_15 : am_c_138_15.all (am_ok 138) = true := by decide +kernel
theorem am_k_138_16 : am_c_138_16.all (am_ok 138) = true := by decide +kernel
theorem am_k_138_17 : am_c_138_17.all (am_ok 138) = true := by decide +kernel
theorem am_k_138_18 : am_c_138_18.all (am_ok 138) = true := by decide +kernel
theorem am_q_138 : am_m_138.all (fun l => l.all (am_ok 138)) = true := by simp only [am_m_138, List.all_cons, List.all_nil, am_k_138_0, am_k_138_1, am_k_138_2, am_k_138_3, am_k_138_4, am_k_138_5, am_k_138_6, am_k_138_7, am_k_138_8, am_k_138_9, am_k_138_10, am_k_138_11, am_k_138_12, am_k_138_13, am_k_138_14, am_k_138_15, am_k_138_16, am_k_138_17, am_k_138_18, Bool.and_self]
theorem am_k_139_0 : am_c_139_0.all (am_ok 139) = true := by decide +kernel
theorem am_k_139_1 : am_c_139_1.all (am_ok 139) = true := by decide +kernel
theorem am_k_139_2 : am_c_139_2.all (am_ok 139) = true := by decide +kernel
theorem am_q_139 : am_m_139.all (fun l => l.all (am_ok 139)) = true := by simp only [am_m_139, List.all_cons, List.all_nil, am_k_139_0, am_k_139_1, am_k_139_2, Bool.and_self]
theorem am_k_140_0 : am_c_140_0.all (am_ok 140) = true := by decide +kernel
theorem am_k_140_1 : am_c_140_1.all (am_ok 140) = true := by decide +kernel
theorem am_k_140_2 : am_c_140_2.all (am_ok 140) = true := by decide +kernel
theorem am_k_140_3 : am_c_140_3.all (am_ok 140) = true := by decide +kernel
theorem am_k_140_4 : am_c_140_4.all (am_ok 140) = true := by decide +kernel
theorem am_k_140_5 : am_c_140_5.all (am_ok 140) = true := by decide +kernel
theorem am_k_140_6 : am_c_140_6.all (am_ok 140) = true := by decide +kernel
theorem am_q_140 : am_m_140.all (fun l => l.all (am_ok 140)) = true := by simp only [am_m_140, List.all_cons, List.all_nil, am_k_140_0, am_k_140_1, am_k_140_2, am_k_140_3, am_k_140_4, am_k_140_5, am_k_140_6, Bool.and_self]
theorem am_k_141_0 : am_c_141_0.all (am_ok 141) = true := by decide +kernel
theorem am_k_141_1 : am_c_141_1.all (am_ok 141) = true := by decide +kernel
theorem am_k_141_2 : am_c_141_2.all (am_ok 141) = true := by decide +kernel
theorem am_k_141_3 : am_c_141_3.all (am_ok 141) = true := by decide +kernel
theorem am_k_141_4 : am_c_141_4.all (am_ok 141) = true := by decide +kernel
theorem am_k_141_5 : am_c_141_5.all (am_ok 141) = true := by decide +kernel
theorem am_q_141 : am_m_141.all (fun l => l.all (am_ok 141)) = true := by simp only [am_m_141, List.all_cons, List.all_nil, am_k_141_0, am_k_141_1, am_k_141_2, am_k_141_3, am_k_141_4, am_k_141_5, Bool.and_self]
theorem am_k_142_0 : am_c_142_0.all (am_ok 142) = true := by decide +kernel
theorem am_k_142_1 : am_c_142_1.all (am_ok 142) = true := by decide +kernel
theorem am_k_142_2 : am_c_142_2.all (am_ok 142) = true := by decide +kernel
theorem am_k_142_3 : am_c_142_3.all (am_ok 142) = true := by decide +kernel
theorem am_k_142_4 : am_c_142_4.all (am_ok 142) = true := by decide +kernel
theorem am_k_142_5 : am_c_142_5.all (am_ok 142) = true := by decide +kernel
theorem am_k_142_6 : am_c_142_6.all (am_ok 142) = true := by decide +kernel
theorem am_k_142_7 : am_c_142_7.all (am_ok 142) = true := by decide +kernel
theorem am_q_142 : am_m_142.all (fun l => l.all (am_ok 142)) = true := by simp only [am_m_142, List.all_cons, List.all_nil, am_k_142_0, am_k_142_1, am_k_142_2, am_k_142_3, am_k_142_4, am_k_142_5, am_k_142_6, am_k_142_7, Bool.and_self]
theorem am_k_143_0 : am_c_143_0.all (am_ok 143) = true := by decide +kernel
theorem am_k_143_1 : am_c_143_1.all (am_ok 143) = true := by decide +kernel
theorem am_q_143 : am_m_143.all (fun l => l.all (am_ok 143)) = true := by simp only [am_m_143, List.all_cons, List.all_nil, am_k_143_0, am_k_143_1, Bool.and_self]
theorem am_k_144_0 : am_c_144_0.all (am_ok 144) = true := by decide +kernel
theorem am_k_144_1 : am_c_144_1.all (am_ok 144) = true := by decide +kernel
theorem am_k_144_2 : am_c_144_2.all (am_ok 144) = true := by decide +kernel
theorem am_q_144 : am_m_144.all (fun l => l.all (am_ok 144)) = true := by simp only [am_m_144, List.all_cons, List.all_nil, am_k_144_0, am_k_144_1, am_k_144_2, Bool.and_self]
theorem am_k_145_0 : am_c_145_0.all (am_ok 145) = true := by decide +kernel
theorem am_k_145_1 : am_c_145_1.all (am_ok 145) = true := by decide +kernel
theorem am_k_145_2 : am_c_145_2.all (am_ok 145) = true := by decide +kernel
theorem am_k_145_3 : am_c_145_3.all (am_ok 145) = true := by decide +kernel
theorem am_q_145 : am_m_145.all (fun l => l.all (am_ok 145)) = true := by simp only [am_m_145, List.all_cons, List.all_nil, am_k_145_0, am_k_145_1, am_k_145_2, am_k_145_3, Bool.and_self]
theorem am_k_146_0 : am_c_146_0.all (am_ok 146) = true := by decide +kernel
theorem am_k_146_1 : am_c_146_1.all (am_ok 146) = true := by decide +kernel
theorem am_k_146_2 : am_c_146_2.all (am_ok 146) = true := by decide +kernel
theorem am_k_146_3 : am_c_146_3.all (am_ok 146) = true := by decide +kernel
theorem am_q_146 : am_m_146.all (fun l => l.all (am_ok 146)) = true := by simp only [am_m_146, List.all_cons, List.all_nil, am_k_146_0, am_k_146_1, am_k_146_2, am_k_146_3, Bool.and_self]
theorem am_k_147_0 : am_c_147_0.all (am_ok 147) = true := by decide +kernel
theorem am_k_147_1 : am_c_147_1.all (am_ok 147) = true := by decide +kernel
theorem am_k_147_2 : am_c_147_2.all (am_ok 147) = true := by decide +kernel
theorem am_k_147_3 : am_c_147_3.all (am_ok 147) = true := by decide +kernel
theorem am_k_147_4 : am_c_147_4.all (am_ok 147) = true := by decide +kernel
theorem am_k_147_5 : am_c_147_5.all (am_ok 147) = true := by decide +kernel
theorem am_k_147_6 : am_c_147_6.all (am_ok 147) = true := by decide +kernel
theorem am_k_147_7 : am_c_147_7.all (am_ok 147) = true := by decide +kernel
theorem am_k_147_8 : am_c_147_8.all (am_ok 147) = true := by decide +kernel
theorem am_k_147_9 : am_c_147_9.all (am_ok 147) = true := by decide +kernel
theorem am_k_147_10 : am_c_147_10.all (am_ok 147) = true := by decide +kernel
theorem am_k_147_11 : am_c_147_11.all (am_ok 147) = true := by decide +kernel
theorem am_q_147 : am_m_147.all (fun l => l.all (am_ok 147)) = true := by simp only [am_m_147, List.all_cons, List.all_nil, am_k_147_0, am_k_147_1, am_k_147_2, am_k_147_3, am_k_147_4, am_k_147_5, am_k_147_6, am_k_147_7, am_k_147_8, am_k_147_9, am_k_147_10, am_k_147_11, Bool.and_self]
theorem am_k_148_0 : am_c_148_0.all (am_ok 148) = true := by decide +kernel
theorem am_k_148_1 : am_c_148_1.all (am_ok 148) = true := by decide +kernel
theorem am_k_148_2 : am_c_148_2.all (am_ok 148) = true := by decide +kernel
theorem am_k_148_3 : am_c_148_3.all (am_ok 148) = true := by decide +kernel
theorem am_q_148 : am_m_148.all (fun l => l.all (am_ok 148)) = true := by simp only [am_m_148, List.all_cons, List.all_nil, am_k_148_0, am_k_148_1, am_k_148_2, am_k_148_3, Bool.and_self]
theorem am_k_149_0 : am_c_149_0.all (am_ok 149) = true := by decide +kernel
theorem am_k_149_1 : am_c_149_1.all (am_ok 149) = true := by decide +kernel
theorem am_k_149_2 : am_c_149_2.all (am_ok 149) = true := by decide +kernel
theorem am_k_149_3 : am_c_149_3.all (am_ok 149) = true := by decide +kernel
theorem am_k_149_4 : am_c_149_4.all (am_ok 149) = true := by decide +kernel
theorem am_k_149_5 : am_c_149_5.all (am_ok 149) = true := by decide +kernel
theorem am_k_149_6 : am_c_149_6.all (am_ok 149) = true := by decide +kernel
theorem am_k_149_7 : am_c_149_7.all (am_ok 149) = true := by decide +kernel
theorem am_q_149 : am_m_149.all (fun l => l.all (am_ok 149)) = true := by simp only [am_m_149, List.all_cons, List.all_nil, am_k_149_0, am_k_149_1, am_k_149_2, am_k_149_3, am_k_149_4, am_k_149_5, am_k_149_6, am_k_149_7, Bool.and_self]
theorem am_k_150_0 : am_c_150_0.all (am_ok 150) = true := by decide +kernel
theorem am_k_150_1 : am_c_150_1.all (am_ok 150) = true := by decide +kernel
theorem am_k_150_2 : am_c_150_2.all (am_ok 150) = true := by decide +kernel
theorem am_k_150_3 : am_c_150_3.all (am_ok 150) = true := by decide +kernel
theorem am_q_150 : am_m_150.all (fun l => l.all (am_ok 150)) = true := by simp only [am_m_150, List.all_cons, List.all_nil, am_k_150_0, am_k_150_1, am_k_150_2, am_k_150_3, Bool.and_self]
theorem am_k_151_0 : am_c_151_0.all (am_ok 151) = true := by decide +kernel
theorem am_k_151_1 : am_c_151_1.all (am_ok 151) = true := by decide +kernel
theorem am_k_151_2 : am_c_151_2.all (am_ok 151) = true := by decide +kernel
theorem am_k_151_3 : am_c_151_3.all (am_ok 151) = true := by decide +kernel
theorem am_k_151_4 : am_c_151_4.all (am_ok 151) = true := by decide +kernel
theorem am_k_151_5 : am_c_151_5.all (am_ok 151) = true := by decide +kernel
theorem am_k_151_6 : am_c_151_6.all (am_ok 151) = true := by decide +kernel
theorem am_k_151_7 : am_c_151_7.all (am_ok 151) = true := by decide +kernel
theorem am_k_151_8 : am_c_151_8.all (am_ok 151) = true := by decide +kernel
theorem am_k_151_9 : am_c_151_9.all (am_ok 151) = true := by decide +kernel
theorem am_k_151_10 : am_c_151_10.all (am_ok 151) = true := by decide +kernel
theorem am_k_151_11 : am_c_151_11.all (am_ok 151) = true := by decide +kernel
theorem am_k_151_12 : am_c_151_12.all (am_ok 151) = true := by decide +kernel
theorem am_q_151 : am_m_151.all (fun l => l.all (am_ok 151)) = true := by simp only [am_m_151, List.all_cons, List.all_nil, am_k_151_0, am_k_151_1, am_k_151_2, am_k_151_3, am_k_151_4, am_k_151_5, am_k_151_6, am_k_151_7, am_k_151_8, am_k_151_9, am_k_151_10, am_k_151_11, am_k_151_12, Bool.and_self]
theorem am_k_152_0 : am_c_152_0.all (am_ok 152) = true := by decide +kernel
theorem am_k_152_1 : am_c_152_1.all (am_ok 152) = true := by decide +kernel
theorem am_k_152_2 : am_c_152_2.all (am_ok 152) = true := by decide +kernel
theorem am_k_152_3 : am_c_152_3.all (am_ok 152) = true := by decide +kernel
theorem am_k_152_4 : am_c_152_4.all (am_ok 152) = true := by decide +kernel
theorem am_q_152 : am_m_152.all (fun l => l.all (am_ok 152)) = true := by simp only [am_m_152, List.all_cons, List.all_nil, am_k_152_0, am_k_152_1, am_k_152_2, am_k_152_3, am_k_152_4, Bool.and_self]
theorem am_k_153_0 : am_c_153_0.all (am_ok 153) = true := by decide +kernel
theorem am_k_153_1 : am_c_153_1.all (am_ok 153) = true := by decide +kernel
theorem am_q_153 : am_m_153.all (fun l => l.all (am_ok 153)) = true := by simp only [am_m_153, List.all_cons, List.all_nil, am_k_153_0, am_k_153_1, Bool.and_self]
theorem am_k_154_0 : am_c_154_0.all (am_ok 154) = true := by decide +kernel
theorem am_k_154_1 : am_c_154_1.all (am_ok 154) = true := by decide +kernel
theorem am_k_154_2 : am_c_154_2.all (am_ok 154) = true := by decide +kernel
theorem am_k_154_3 : am_c_154_3.all (am_ok 154) = true := by decide +kernel
theorem am_k_154_4 : am_c_154_4.all (am_ok 154) = true := by decide +kernel
theorem am_k_154_5 : am_c_154_5.all (am_ok 154) = true := by decide +kernel
theorem am_k_154_6 : am_c_154_6.all (am_ok 154) = true := by decide +kernel
theorem am_k_154_7 : am_c_154_7.all (am_ok 154) = true := by decide +kernel
theorem am_q_154 : am_m_154.all (fun l => l.all (am_ok 154)) = true := by simp only [am_m_154, List.all_cons, List.all_nil, am_k_154_0, am_k_154_1, am_k_154_2, am_k_154_3, am_k_154_4, am_k_154_5, am_k_154_6, am_k_154_7, Bool.and_self]
theorem am_k_155_0 : am_c_155_0.all (am_ok 155) = true := by decide +kernel
theorem am_k_155_1 : am_c_155_1.all (am_ok 155) = true := by decide +kernel
theorem am_k_155_2 : am_c_155_2.all (am_ok 155) = true := by decide +kernel
theorem am_q_155 : am_m_155.all (fun l => l.all (am_ok 155)) = true := by simp only [am_m_155, List.all_cons, List.all_nil, am_k_155_0, am_k_155_1, am_k_155_2, Bool.and_self]
theorem am_k_156_0 : am_c_156_0.all (am_ok 156) = true := by decide +kernel
theorem am_k_156_1 : am_c_156_1.all (am_ok 156) = true := by decide +kernel
theorem am_k_156_2 : am_c_156_2.all (am_ok 156) = true := by decide +kernel
theorem am_k_156_3 : am_c_156_3.all (am_ok 156) = true := by decide +kernel
theorem am_k_156_4 : am_c_156_4.all (am_ok 156) = true := by decide +kernel
theorem am_q_156 : am_m_156.all (fun l => l.all (am_ok 156)) = true := by simp only [am_m_156, List.all_cons, List.all_nil, am_k_156_0, am_k_156_1, am_k_156_2, am_k_156_3, am_k_156_4, Bool.and_self]
theorem am_k_157_0 : am_c_157_0.all (am_ok 157) = true := by decide +kernel
theorem am_k_157_1 : am_c_157_1.all (am_ok 157) = true := by decide +kernel
theorem am_k_157_2 : am_c_157_2.all (am_ok 157) = true := by decide +kernel
theorem am_q_157 : am_m_157.all (fun l => l.all (am_ok 157)) = true := by simp only [am_m_157, List.all_cons, List.all_nil, am_k_157_0, am_k_157_1, am_k_157_2, Bool.and_self]
theorem am_k_158_0 : am_c_158_0.all (am_ok 158) = true := by decide +kernel
theorem am_k_158_1 : am_c_158_1.all (am_ok 158) = true := by decide +kernel
theorem am_k_158_2 : am_c_158_2.all (am_ok 158) = true := by decide +kernel
theorem am_k_158_3 : am_c_158_3.all (am_ok 158) = true := by decide +kernel
theorem am_q_158 : am_m_158.all (fun l => l.all (am_ok 158)) = true := by simp only [am_m_158, List.all_cons, List.all_nil, am_k_158_0, am_k_158_1, am_k_158_2, am_k_158_3, Bool.and_self]
theorem am_k_159_0 : am_c_159_0.all (am_ok 159) = true := by decide +kernel
theorem am_k_159_1 : am_c_159_1.all (am_ok 159) = true := by decide +kernel
theorem am_q_159 : am_m_159.all (fun l => l.all (am_ok 159)) = true := by simp only [am_m_159, List.all_cons, List.all_nil, am_k_159_0, am_k_159_1, Bool.and_self]
theorem am_k_160_0 : am_c_160_0.all (am_ok 160) = true := by decide +kernel
theorem am_k_160_1 : am_c_160_1.all (am_ok 160) = true := by decide +kernel
theorem am_k_160_2 : am_c_160_2.all (am_ok 160) = true := by decide +kernel
theorem am_k_160_3 : am_c_160_3.all (am_ok 160) = true := by decide +kernel
theorem am_k_160_4 : am_c_160_4.all (am_ok 160) = true := by decide +kernel
theorem am_k_160_5 : am_c_160_5.all (am_ok 160) = true := by decide +kernel
theorem am_k_160_6 : am_c_160_6.all (am_ok 160) = true := by decide +kernel
theorem am_q_160 : am_m_160.all (fun l => l.all (am_ok 160)) = true := by simp only [am_m_160, List.all_cons, List.all_nil, am_k_160_0, am_k_160_1, am_k_160_2, am_k_160_3, am_k_160_4, am_k_160_5, am_k_160_6, Bool.and_self]
theorem am_k_161_0 : am_c_161_0.all (am_ok 161) = true := by decide +kernel
theorem am_k_161_1 : am_c_161_1.all (am_ok 161) = true := by decide +kernel
theorem am_k_161_2 : am_c_161_2.all (am_ok 161) = true := by decide +kernel
theorem am_k_161_3 : am_c_161_3.all (am_ok 161) = true := by decide +kernel
theorem am_k_161_4 : am_c_161_4.all (am_ok 161) = true := by decide +kernel
theorem am_k_161_5 : am_c_161_5.all (am_ok 161) = true := by decide +kernel
theorem am_k_161_6 : am_c_161_6.all (am_ok 161) = true := by decide +kernel
theorem am_k_161_7 : am_c_161_7.all (am_ok 161) = true := by decide +kernel
theorem am_q_161 : am_m_161.all (fun l => l.all (am_ok 161)) = true := by simp only [am_m_161, List.all_cons, List.all_nil, am_k_161_0, am_k_161_1, am_k_161_2, am_k_161_3, am_k_161_4, am_k_161_5, am_k_161_6, am_k_161_7, Bool.and_self]
theorem am_k_162_0 : am_c_162_0.all (am_ok 162) = true := by decide +kernel
theorem am_k_162_1 : am_c_162_1.all (am_ok 162) = true := by decide +kernel
theorem am_q_162 : am_m_162.all (fun l => l.all (am_ok 162)) = true := by simp only [am_m_162, List.all_cons, List.all_nil, am_k_162_0, am_k_162_1, Bool.and_self]
theorem am_k_163_0 : am_c_163_0.all (am_ok 163) = true := by decide +kernel
theorem am_k_163_1 : am_c_163_1.all (am_ok 163) = true := by decide +kernel
theorem am_k_163_2 : am_c_163_2.all (am_ok 163) = true := by decide +kernel
theorem am_k_163_3 : am_c_163_3.all (am_ok 163) = true := by decide +kernel
theorem am_k_163_4 : am_c_163_4.all (am_ok 163) = true := by decide +kernel
theorem am_k_163_5 : am_c_163_5.all (am_ok 163) = true := by decide +kernel
theorem am_k_163_6 : am_c_163_6.all (am_ok 163) = true := by decide +kernel
theorem am_k_163_7 : am_c_163_7.all (am_ok 163) = true := by decide +kernel
theorem am_k_163_8 : am_c_163_8.all (am_ok 163) = true := by decide +kernel
theorem am_k_163_9 : am_c_163_9.all (am_ok 163) = true := by decide +kernel
theorem am_k_163_10 : am_c_163_10.all (am_ok 163) = true := by decide +kernel
theorem am_q_163 : am_m_163.all (fun l => l.all (am_ok 163)) = true := by simp only [am_m_163, List.all_cons, List.all_nil, am_k_163_0, am_k_163_1, am_k_163_2, am_k_163_3, am_k_163_4, am_k_163_5, am_k_163_6, am_k_163_7, am_k_163_8, am_k_163_9, am_k_163_10, Bool.and_self]
theorem am_k_164_0 : am_c_164_0.all (am_ok 164) = true := by decide +kernel
theorem am_k_164_1 : am_c_164_1.all (am_ok 164) = true := by decide +kernel
theorem am_k_164_2 : am_c_164_2.all (am_ok 164) = true := by decide +kernel
theorem am_q_164 : am_m_164.all (fun l => l.all (am_ok 164)) = true := by simp only [am_m_164, List.all_cons, List.all_nil, am_k_164_0, am_k_164_1, am_k_164_2, Bool.and_self]
theorem am_k_165_0 : am_c_165_0.all (am_ok 165) = true := by decide +kernel
theorem am_k_165_1 : am_c_165_1.all (am_ok 165) = true := by decide +kernel
theorem am_k_165_2 : am_c_165_2.all (am_ok 165) = true := by decide +kernel
theorem am_k_165_3 : am_c_165_3.all (am_ok 165) = true := by decide +kernel
theorem am_q_165 : am_m_165.all (fun l => l.all (am_ok 165)) = true := by simp only [am_m_165, List.all_cons, List.all_nil, am_k_165_0, am_k_165_1, am_k_165_2, am_k_165_3, Bool.and_self]
theorem am_k_166_0 : am_c_166_0.all (am_ok 166) = true := by decide +kernel
theorem am_k_166_1 : am_c_166_1.all (am_ok 166) = true := by decide +kernel
theorem am_k_166_2 : am_c_166_2.all (am_ok 166) = true := by decide +kernel
theorem am_k_166_3 : am_c_166_3.all (am_ok 166) = true := by decide +kernel
theorem am_q_166 : am_m_166.all (fun l => l.all (am_ok 166)) = true := by simp only [am_m_166, List.all_cons, List.all_nil, am_k_166_0, am_k_166_1, am_k_166_2, am_k_166_3, Bool.and_self]
theorem am_k_167_0 : am_c_167_0.all (am_ok 167) = true := by decide +kernel
theorem am_q_167 : am_m_167.all (fun l => l.all (am_ok 167)) = true := by simp only [am_m_167, List.all_cons, List.all_nil, am_k_167_0, Bool.and_self]
theorem am_k_168_0 : am_c_168_0.all (am_ok 168) = true := by decide +kernel
theorem am_q_168 : am_m_168.all (fun l => l.all (am_ok 168)) = true := by simp only [am_m_168, List.all_cons, List.all_nil, am_k_168_0, Bool.and_self]
theorem am_k_169_0 : am_c_169_0.all (am_ok 169) = true := by decide +kernel
theorem am_k_169_1 : am_c_169_1.all (am_ok 169) = true := by decide +kernel
theorem am_k_169_2 : am_c_169_2.all (am_ok 169) = true := by decide +kernel
theorem am_k_169_3 : am_c_169_3.all (am_ok 169) = true := by decide +kernel
theorem am_k_169_4 : am_c_169_4.all (am_ok 169) = true := by decide +kernel
theorem am_k_169_5 : am_c_169_5.all (am_ok 169) = true := by decide +kernel
theorem am_k_169_6 : am_c_169_6.all (am_ok 169) = true := by decide +kernel
theorem am_k_169_7 : am_c_169_7.all (am_ok 169) = true := by decide +kernel
theorem am_k_169_8 : am_c_169_8.all (am_ok 169) = true := by decide +kernel
theorem am_k_169_9 : am_c_169_9.all (am_ok 169) = true := by decide +kernel
theorem am_k_169_10 : am_c_169_10.all (am_ok 169) = true := by decide +kernel
theorem am_k_169_11 : am_c_169_11.all (am_ok 169) = true := by decide +kernel
theorem am_k_169_12 : am_c_169_12.all (am_ok 169) = true := by decide +kernel
theorem am_k_169_13 : am_c_169_13.all (am_ok 169) = true := by decide +kernel
theorem am_k_169_14 : am_c_169_14.all (am_ok 169) = true := by decide +kernel
theorem am_k_169_15 : am_c_169_15.all (am_ok 169) = true := by decide +kernel
theorem am_k_169_16 : am_c_169_16.all (am_ok 169) = true := by decide +kernel
theorem am_k_169_17 : am_c_169_17.all (am_ok 169) = true := by decide +kernel
theorem am_k_169_18 : am_c_169_18.all (am_ok 169) = true := by decide +kernel
theorem am_k_169_19 : am_c_169_19.all (am_ok 169) = true := by decide +kernel
theorem am_k_169_20 : am_c_169_20.all (am_ok 169) = true := by decide +kernel
theorem am_k_169_21 : am_c_169_21.all (am_ok 169) = true := by decide +kernel
theorem am_k_169_22 : am_c_169_22.all (am_ok 169) = true := by decide +kernel
theorem am_k_169_23 : am_c_169_23.all (am_ok 169) = true := by decide +kernel
theorem am_k_169_24 : am_c_169_24.all (am_ok 169) = true := by decide +kernel
theorem am_k_169_25 : am_c_169_25.all (am_ok 169) = true := by decide +kernel
theorem am_k_169_26 : am_c_169_26.all (am_ok 169) = true := by decide +kernel
theorem am_k_169_27 : am_c_169_27.all (am_ok 169) = true := by decide +kernel
theorem am_k_169_28 : am_c_169_28.all (am_ok 169) = true := by decide +kernel
theorem am_k_169_29 : am_c_169_29.all (am_ok 169) = true := by decide +kernel
theorem am_k_169_30 : am_c_169_30.all (am_ok 169) = true := by decide +kernel
theorem am_k_169_31 : am_c_169_31.all (am_ok 169) = true := by decide +kernel
theorem am_k_169_32 : am_c_169_32.all (am_ok 169) = true := by decide +kernel
theorem am_k_169_33 : am_c_169_33.all (am_ok 169) = true := by decide +kernel
theorem am_k_169_34 : am_c_169_34.all (am_ok 169) = true := by decide +kernel
theorem am_k_169_35 : am_c_169_35.all (am_ok 169) = true := by decide +kernel
theorem am_k_169_36 : am_c_169_36.all (am_ok 169) = true := by decide +kernel
theorem am_k_169_37 : am_c_169_37.all (am_ok 169) = true := by decide +kernel
theorem am_k_169_38 : am_c_169_38.all (am_ok 169) = true := by decide +kernel
theorem am_k_169_39 : am_c_169_39.all (am_ok 169) = true := by decide +kernel
theorem am_k_169_40 : am_c_169_40.all (am_ok 169) = true := by decide +kernel
theorem am_k_169_41 : am_c_169_41.all (am_ok 169) = true := by decide +kernel
theorem am_k_169_42 : am_c_169_42.all (am_ok 169) = true := by decide +kernel
theorem am_k_169_43 : am_c_169_43.all (am_ok 169) = true := by decide +kernel
theorem am_k_169_44 : am_c_169_44.all (am_ok 169) = true := by decide +kernel
theorem am_k_169_45 : am_c_169_45.all (am_ok 169) = true := by decide +kernel
theorem am_k_169_46 : am_c_169_46.all (am_ok 169) = true := by decide +kernel
theorem am_k_169_47 : am_c_169_47.all (am_ok 169) = true := by decide +kernel
theorem am_k_169_48 : am_c_169_48.all (am_ok 169) = true := by decide +kernel
theorem am_k_169_49 : am_c_169_49.all (am_ok 169) = true := by decide +kernel
theorem am_k_169_50 : am_c_169_50.all (am_ok 169) = true := by decide +kernel
theorem am_k_169_51 : am_c_169_51.all (am_ok 169) = true := by decide +kernel
theorem am_k_169_52 : am_c_169_52.all (am_ok 169) = true := by decide +kernel
theorem am_k_169_53 : am_c_169_53.all (am_ok 169) = true := by decide +kernel
theorem am_k_169_54 : am_c_169_54.all (am_ok 169) = true := by decide +kernel
theorem am_k_169_55 : am_c_169_55.all (am_ok 169) = true := by decide +kernel
theorem am_k_169_56 : am_c_169_56.all (am_ok 169) = true := by decide +kernel
theorem am_k_169_57 : am_c_169_57.all (am_ok 169) = true := by decide +kernel
theorem am_k_169_58 : am_c_169_58.all (am_ok 169) = true := by decide +kernel
theorem am_k_169_59 : am_c_169_59.all (am_ok 169) = true := by decide +kernel
theorem am_k_169_60 : am_c_169_60.all (am_ok 169) = true := by decide +kernel
theorem am_k_169_61 : am_c_169_61.all (am_ok 169) = true := by decide +kernel
theorem am_k_169_62 : am_c_169_62.all (am_ok 169) = true := by decide +kernel
theorem am_q_169 : am_m_169.all (fun l => l.all (am_ok 169)) = true := by simp only [am_m_169, List.all_cons, List.all_nil, am_k_169_0, am_k_169_1, am_k_169_2, am_k_169_3, am_k_169_4, am_k_169_5, am_k_169_6, am_k_169_7, am_k_169_8, am_k_169_9, am_k_169_10, am_k_169_11, am_k_169_12, am_k_169_13, am_k_169_14, am_k_169_15, am_k_169_16, am_k_169_17, am_k_169_18, am_k_169_19, am_k_169_20, am_k_169_21, am_k_169_22, am_k_169_23, am_k_169_24, am_k_169_25, am_k_169_26, am_k_169_27, am_k_169_28, am_k_169_29, am_k_169_30, am_k_169_31, am_k_169_32, am_k_169_33, am_k_169_34, am_k_169_35, am_k_169_36, am_k_169_37, am_k_169_38, am_k_169_39, am_k_169_40, am_k_169_41, am_k_169_42, am_k_169_43, am_k_169_44, am_k_169_45, am_k_169_46, am_k_169_47, am_k_169_48, am_k_169_49, am_k_169_50, am_k_169_51, am_k_169_52, am_k_169_53, am_k_169_54, am_k_169_55, am_k_169_56, am_k_169_57, am_k_169_58, am_k_169_59, am_k_169_60, am_k_169_61, am_k_169_62, Bool.and_self]
theorem am_q_all (M : Nat) (h : M < 170) (g : 0 ≤ M) : (am_tabs.getD M []).all (fun l => l.all (am_ok M)) = true := by
  rcases Nat.lt_or_ge M 85 with q | q
  · replace h := q
    rcases Nat.lt_or_ge M 42 with q | q
    · replace h := q
      rcases Nat.lt_or_ge M 21 with q | q
      · replace h := q
        rcases Nat.lt_or_ge M 10 with q | q
        · replace h := q
          rcases Nat.lt_or_ge M 5 with q | q
          · replace h := q
            rcases Nat.lt_or_ge M 2 with q | q
            · replace h := q
              rcases Nat.lt_or_ge M 1 with q | q
              · replace h := q
                have e : M = 0 := by omega
                subst e
                exact am_q_0
              · replace g := q
                have e : M = 1 := by omega
                subst e
                exact am_q_1
            · replace g := q
              rcases Nat.lt_or_ge M 3 with q | q
              · replace h := q
                have e : M = 2 := by omega
                subst e
                exact am_q_2
              · replace g := q
                rcases Nat.lt_or_ge M 4 with q | q
                · replace h := q
                  have e : M = 3 := by omega
                  subst e
                  exact am_q_3
                · replace g := q
                  have e : M = 4 := by omega
                  subst e
                  exact am_q_4
          · replace g := q
            rcases Nat.lt_or_ge M 7 with q | q
            · replace h := q
              rcases Nat.lt_or_ge M 6 with q | q
              · replace h := q
                have e : M = 5 := by omega
                subst e
                exact am_q_5
              · replace g := q
                have e : M = 6 := by omega
                subst e
                exact am_q_6
            · replace g := q
              rcases Nat.lt_or_ge M 8 with q | q
              · replace h := q
                have e : M = 7 := by omega
                subst e
                exact am_q_7
              · replace g := q
                rcases Nat.lt_or_ge M 9 with q | q
                · replace h := q
                  have e : M = 8 := by omega
                  subst e
                  exact am_q_8
                · replace g := q
                  have e : M = 9 := by omega
                  subst e
                  exact am_q_9
        · replace g := q
          rcases Nat.lt_or_ge M 15 with q | q
          · replace h := q
            rcases Nat.lt_or_ge M 12 with q | q
            · replace h := q
              rcases Nat.lt_or_ge M 11 with q | q
              · replace h := q
                have e : M = 10 := by omega
                subst e
                exact am_q_10
              · replace g := q
                have e : M = 11 := by omega
                subst e
                exact am_q_11
            · replace g := q
              rcases Nat.lt_or_ge M 13 with q | q
              · replace h := q
                have e : M = 12 := by omega
                subst e
                exact am_q_12
              · replace g := q
                rcases Nat.lt_or_ge M 14 with q | q
                · replace h := q
                  have e : M = 13 := by omega
                  subst e
                  exact am_q_13
                · replace g := q
                  have e : M = 14 := by omega
                  subst e
                  exact am_q_14
          · replace g := q
            rcases Nat.lt_or_ge M 18 with q | q
            · replace h := q
              rcases Nat.lt_or_ge M 16 with q | q
              · replace h := q
                have e : M = 15 := by omega
                subst e
                exact am_q_15
              · replace g := q
                rcases Nat.lt_or_ge M 17 with q | q
                · replace h := q
                  have e : M = 16 := by omega
                  subst e
                  exact am_q_16
                · replace g := q
                  have e : M = 17 := by omega
                  subst e
                  exact am_q_17
            · replace g := q
              rcases Nat.lt_or_ge M 19 with q | q
              · replace h := q
                have e : M = 18 := by omega
                subst e
                exact am_q_18
              · replace g := q
                rcases Nat.lt_or_ge M 20 with q | q
                · replace h := q
                  have e : M = 19 := by omega
                  subst e
                  exact am_q_19
                · replace g := q
                  have e : M = 20 := by omega
                  subst e
                  exact am_q_20
      · replace g := q
        rcases Nat.lt_or_ge M 31 with q | q
        · replace h := q
          rcases Nat.lt_or_ge M 26 with q | q
          · replace h := q
            rcases Nat.lt_or_ge M 23 with q | q
            · replace h := q
              rcases Nat.lt_or_ge M 22 with q | q
              · replace h := q
                have e : M = 21 := by omega
                subst e
                exact am_q_21
              · replace g := q
                have e : M = 22 := by omega
                subst e
                exact am_q_22
            · replace g := q
              rcases Nat.lt_or_ge M 24 with q | q
              · replace h := q
                have e : M = 23 := by omega
                subst e
                exact am_q_23
              · replace g := q
                rcases Nat.lt_or_ge M 25 with q | q
                · replace h := q
                  have e : M = 24 := by omega
                  subst e
                  exact am_q_24
                · replace g := q
                  have e : M = 25 := by omega
                  subst e
                  exact am_q_25
          · replace g := q
            rcases Nat.lt_or_ge M 28 with q | q
            · replace h := q
              rcases Nat.lt_or_ge M 27 with q | q
              · replace h := q
                have e : M = 26 := by omega
                subst e
                exact am_q_26
              · replace g := q
                have e : M = 27 := by omega
                subst e
                exact am_q_27
            · replace g := q
              rcases Nat.lt_or_ge M 29 with q | q
              · replace h := q
                have e : M = 28 := by omega
                subst e
                exact am_q_28
              · replace g := q
                rcases Nat.lt_or_ge M 30 with q | q
                · replace h := q
                  have e : M = 29 := by omega
                  subst e
                  exact am_q_29
                · replace g := q
                  have e : M = 30 := by omega
                  subst e
                  exact am_q_30
        · replace g := q
          rcases Nat.lt_or_ge M 36 with q | q
          · replace h := q
            rcases Nat.lt_or_ge M 33 with q | q
            · replace h := q
              rcases Nat.lt_or_ge M 32 with q | q
              · replace h := q
                have e : M = 31 := by omega
                subst e
                exact am_q_31
              · replace g := q
                have e : M = 32 := by omega
                subst e
                exact am_q_32
            · replace g := q
              rcases Nat.lt_or_ge M 34 with q | q
              · replace h := q
                have e : M = 33 := by omega
                subst e
                exact am_q_33
              · replace g := q
                rcases Nat.lt_or_ge M 35 with q | q
                · replace h := q
                  have e : M = 34 := by omega
                  subst e
                  exact am_q_34
                · replace g := q
                  have e : M = 35 := by omega
                  subst e
                  exact am_q_35
          · replace g := q
            rcases Nat.lt_or_ge M 39 with q | q
            · replace h := q
              rcases Nat.lt_or_ge M 37 with q | q
              · replace h := q
                have e : M = 36 := by omega
                subst e
                exact am_q_36
              · replace g := q
                rcases Nat.lt_or_ge M 38 with q | q
                · replace h := q
                  have e : M = 37 := by omega
                  subst e
                  exact am_q_37
                · replace g := q
                  have e : M = 38 := by omega
                  subst e
                  exact am_q_38
            · replace g := q
              rcases Nat.lt_or_ge M 40 with q | q
              · replace h := q
                have e : M = 39 := by omega
                subst e
                exact am_q_39
              · replace g := q
                rcases Nat.lt_or_ge M 41 with q | q
                · replace h := q
                  have e : M = 40 := by omega
                  subst e
                  exact am_q_40
                · replace g := q
                  have e : M = 41 := by omega
                  subst e
                  exact am_q_41
    · replace g := q
      rcases Nat.lt_or_ge M 63 with q | q
      · replace h := q
        rcases Nat.lt_or_ge M 52 with q | q
        · replace h := q
          rcases Nat.lt_or_ge M 47 with q | q
          · replace h := q
            rcases Nat.lt_or_ge M 44 with q | q
            · replace h := q
              rcases Nat.lt_or_ge M 43 with q | q
              · replace h := q
                have e : M = 42 := by omega
                subst e
                exact am_q_42
              · replace g := q
                have e : M = 43 := by omega
                subst e
                exact am_q_43
            · replace g := q
              rcases Nat.lt_or_ge M 45 with q | q
              · replace h := q
                have e : M = 44 := by omega
                subst e
                exact am_q_44
              · replace g := q
                rcases Nat.lt_or_ge M 46 with q | q
                · replace h := q
                  have e : M = 45 := by omega
                  subst e
                  exact am_q_45
                · replace g := q
                  have e : M = 46 := by omega
                  subst e
                  exact am_q_46
          · replace g := q
            rcases Nat.lt_or_ge M 49 with q | q
            · replace h := q
              rcases Nat.lt_or_ge M 48 with q | q
              · replace h := q
                have e : M = 47 := by omega
                subst e
                exact am_q_47
              · replace g := q
                have e : M = 48 := by omega
                subst e
                exact am_q_48
            · replace g := q
              rcases Nat.lt_or_ge M 50 with q | q
              · replace h := q
                have e : M = 49 := by omega
                subst e
                exact am_q_49
              · replace g := q
                rcases Nat.lt_or_ge M 51 with q | q
                · replace h := q
                  have e : M = 50 := by omega
                  subst e
                  exact am_q_50
                · replace g := q
                  have e : M = 51 := by omega
                  subst e
                  exact am_q_51
        · replace g := q
          rcases Nat.lt_or_ge M 57 with q | q
          · replace h := q
            rcases Nat.lt_or_ge M 54 with q | q
            · replace h := q
              rcases Nat.lt_or_ge M 53 with q | q
              · replace h := q
                have e : M = 52 := by omega
                subst e
                exact am_q_52
              · replace g := q
                have e : M = 53 := by omega
                subst e
                exact am_q_53
            · replace g := q
              rcases Nat.lt_or_ge M 55 with q | q
              · replace h := q
                have e : M = 54 := by omega
                subst e
                exact am_q_54
              · replace g := q
                rcases Nat.lt_or_ge M 56 with q | q
                · replace h := q
                  have e : M = 55 := by omega
                  subst e
                  exact am_q_55
                · replace g := q
                  have e : M = 56 := by omega
                  subst e
                  exact am_q_56
          · replace g := q
            rcases Nat.lt_or_ge M 60 with q | q
            · replace h := q
              rcases Nat.lt_or_ge M 58 with q | q
              · replace h := q
                have e : M = 57 := by omega
                subst e
                exact am_q_57
              · replace g := q
                rcases Nat.lt_or_ge M 59 with q | q
                · replace h := q
                  have e : M = 58 := by omega
                  subst e
                  exact am_q_58
                · replace g := q
                  have e : M = 59 := by omega
                  subst e
                  exact am_q_59
            · replace g := q
              rcases Nat.lt_or_ge M 61 with q | q
              · replace h := q
                have e : M = 60 := by omega
                subst e
                exact am_q_60
              · replace g := q
                rcases Nat.lt_or_ge M 62 with q | q
                · replace h := q
                  have e : M = 61 := by omega
                  subst e
                  exact am_q_61
                · replace g := q
                  have e : M = 62 := by omega
                  subst e
                  exact am_q_62
      · replace g := q
        rcases Nat.lt_or_ge M 74 with q | q
        · replace h := q
          rcases Nat.lt_or_ge M 68 with q | q
          · replace h := q
            rcases Nat.lt_or_ge M 65 with q | q
            · replace h := q
              rcases Nat.lt_or_ge M 64 with q | q
              · replace h := q
                have e : M = 63 := by omega
                subst e
                exact am_q_63
              · replace g := q
                have e : M = 64 := by omega
                subst e
                exact am_q_64
            · replace g := q
              rcases Nat.lt_or_ge M 66 with q | q
              · replace h := q
                have e : M = 65 := by omega
                subst e
                exact am_q_65
              · replace g := q
                rcases Nat.lt_or_ge M 67 with q | q
                · replace h := q
                  have e : M = 66 := by omega
                  subst e
                  exact am_q_66
                · replace g := q
                  have e : M = 67 := by omega
                  subst e
                  exact am_q_67
          · replace g := q
            rcases Nat.lt_or_ge M 71 with q | q
            · replace h := q
              rcases Nat.lt_or_ge M 69 with q | q
              · replace h := q
                have e : M = 68 := by omega
                subst e
                exact am_q_68
              · replace g := q
                rcases Nat.lt_or_ge M 70 with q | q
                · replace h := q
                  have e : M = 69 := by omega
                  subst e
                  exact am_q_69
                · replace g := q
                  have e : M = 70 := by omega
                  subst e
                  exact am_q_70
            · replace g := q
              rcases Nat.lt_or_ge M 72 with q | q
              · replace h := q
                have e : M = 71 := by omega
                subst e
                exact am_q_71
              · replace g := q
                rcases Nat.lt_or_ge M 73 with q | q
                · replace h := q
                  have e : M = 72 := by omega
                  subst e
                  exact am_q_72
                · replace g := q
                  have e : M = 73 := by omega
                  subst e
                  exact am_q_73
        · replace g := q
          rcases Nat.lt_or_ge M 79 with q | q
          · replace h := q
            rcases Nat.lt_or_ge M 76 with q | q
            · replace h := q
              rcases Nat.lt_or_ge M 75 with q | q
              · replace h := q
                have e : M = 74 := by omega
                subst e
                exact am_q_74
              · replace g := q
                have e : M = 75 := by omega
                subst e
                exact am_q_75
            · replace g := q
              rcases Nat.lt_or_ge M 77 with q | q
              · replace h := q
                have e : M = 76 := by omega
                subst e
                exact am_q_76
              · replace g := q
                rcases Nat.lt_or_ge M 78 with q | q
                · replace h := q
                  have e : M = 77 := by omega
                  subst e
                  exact am_q_77
                · replace g := q
                  have e : M = 78 := by omega
                  subst e
                  exact am_q_78
          · replace g := q
            rcases Nat.lt_or_ge M 82 with q | q
            · replace h := q
              rcases Nat.lt_or_ge M 80 with q | q
              · replace h := q
                have e : M = 79 := by omega
                subst e
                exact am_q_79
              · replace g := q
                rcases Nat.lt_or_ge M 81 with q | q
                · replace h := q
                  have e : M = 80 := by omega
                  subst e
                  exact am_q_80
                · replace g := q
                  have e : M = 81 := by omega
                  subst e
                  exact am_q_81
            · replace g := q
              rcases Nat.lt_or_ge M 83 with q | q
              · replace h := q
                have e : M = 82 := by omega
                subst e
                exact am_q_82
              · replace g := q
                rcases Nat.lt_or_ge M 84 with q | q
                · replace h := q
                  have e : M = 83 := by omega
                  subst e
                  exact am_q_83
                · replace g := q
                  have e : M = 84 := by omega
                  subst e
                  exact am_q_84
  · replace g := q
    rcases Nat.lt_or_ge M 127 with q | q
    · replace h := q
      rcases Nat.lt_or_ge M 106 with q | q
      · replace h := q
        rcases Nat.lt_or_ge M 95 with q | q
        · replace h := q
          rcases Nat.lt_or_ge M 90 with q | q
          · replace h := q
            rcases Nat.lt_or_ge M 87 with q | q
            · replace h := q
              rcases Nat.lt_or_ge M 86 with q | q
              · replace h := q
                have e : M = 85 := by omega
                subst e
                exact am_q_85
              · replace g := q
                have e : M = 86 := by omega
                subst e
                exact am_q_86
            · replace g := q
              rcases Nat.lt_or_ge M 88 with q | q
              · replace h := q
                have e : M = 87 := by omega
                subst e
                exact am_q_87
              · replace g := q
                rcases Nat.lt_or_ge M 89 with q | q
                · replace h := q
                  have e : M = 88 := by omega
                  subst e
                  exact am_q_88
                · replace g := q
                  have e : M = 89 := by omega
                  subst e
                  exact am_q_89
          · replace g := q
            rcases Nat.lt_or_ge M 92 with q | q
            · replace h := q
              rcases Nat.lt_or_ge M 91 with q | q
              · replace h := q
                have e : M = 90 := by omega
                subst e
                exact am_q_90
              · replace g := q
                have e : M = 91 := by omega
                subst e
                exact am_q_91
            · replace g := q
              rcases Nat.lt_or_ge M 93 with q | q
              · replace h := q
                have e : M = 92 := by omega
                subst e
                exact am_q_92
              · replace g := q
                rcases Nat.lt_or_ge M 94 with q | q
                · replace h := q
                  have e : M = 93 := by omega
                  subst e
                  exact am_q_93
                · replace g := q
                  have e : M = 94 := by omega
                  subst e
                  exact am_q_94
        · replace g := q
          rcases Nat.lt_or_ge M 100 with q | q
          · replace h := q
            rcases Nat.lt_or_ge M 97 with q | q
            · replace h := q
              rcases Nat.lt_or_ge M 96 with q | q
              · replace h := q
                have e : M = 95 := by omega
                subst e
                exact am_q_95
              · replace g := q
                have e : M = 96 := by omega
                subst e
                exact am_q_96
            · replace g := q
              rcases Nat.lt_or_ge M 98 with q | q
              · replace h := q
                have e : M = 97 := by omega
                subst e
                exact am_q_97
              · replace g := q
                rcases Nat.lt_or_ge M 99 with q | q
                · replace h := q
                  have e : M = 98 := by omega
                  subst e
                  exact am_q_98
                · replace g := q
                  have e : M = 99 := by omega
                  subst e
                  exact am_q_99
          · replace g := q
            rcases Nat.lt_or_ge M 103 with q | q
            · replace h := q
              rcases Nat.lt_or_ge M 101 with q | q
              · replace h := q
                have e : M = 100 := by omega
                subst e
                exact am_q_100
              · replace g := q
                rcases Nat.lt_or_ge M 102 with q | q
                · replace h := q
                  have e : M = 101 := by omega
                  subst e
                  exact am_q_101
                · replace g := q
                  have e : M = 102 := by omega
                  subst e
                  exact am_q_102
            · replace g := q
              rcases Nat.lt_or_ge M 104 with q | q
              · replace h := q
                have e : M = 103 := by omega
                subst e
                exact am_q_103
              · replace g := q
                rcases Nat.lt_or_ge M 105 with q | q
                · replace h := q
                  have e : M = 104 := by omega
                  subst e
                  exact am_q_104
                · replace g := q
                  have e : M = 105 := by omega
                  subst e
                  exact am_q_105
      · replace g := q
        rcases Nat.lt_or_ge M 116 with q | q
        · replace h := q
          rcases Nat.lt_or_ge M 111 with q | q
          · replace h := q
            rcases Nat.lt_or_ge M 108 with q | q
            · replace h := q
              rcases Nat.lt_or_ge M 107 with q | q
              · replace h := q
                have e : M = 106 := by omega
                subst e
                exact am_q_106
              · replace g := q
                have e : M = 107 := by omega
                subst e
                exact am_q_107
            · replace g := q
              rcases Nat.lt_or_ge M 109 with q | q
              · replace h := q
                have e : M = 108 := by omega
                subst e
                exact am_q_108
              · replace g := q
                rcases Nat.lt_or_ge M 110 with q | q
                · replace h := q
                  have e : M = 109 := by omega
                  subst e
                  exact am_q_109
                · replace g := q
                  have e : M = 110 := by omega
                  subst e
                  exact am_q_110
          · replace g := q
            rcases Nat.lt_or_ge M 113 with q | q
            · replace h := q
              rcases Nat.lt_or_ge M 112 with q | q
              · replace h := q
                have e : M = 111 := by omega
                subst e
                exact am_q_111
              · replace g := q
                have e : M = 112 := by omega
                subst e
                exact am_q_112
            · replace g := q
              rcases Nat.lt_or_ge M 114 with q | q
              · replace h := q
                have e : M = 113 := by omega
                subst e
                exact am_q_113
              · replace g := q
                rcases Nat.lt_or_ge M 115 with q | q
                · replace h := q
                  have e : M = 114 := by omega
                  subst e
                  exact am_q_114
                · replace g := q
                  have e : M = 115 := by omega
                  subst e
                  exact am_q_115
        · replace g := q
          rcases Nat.lt_or_ge M 121 with q | q
          · replace h := q
            rcases Nat.lt_or_ge M 118 with q | q
            · replace h := q
              rcases Nat.lt_or_ge M 117 with q | q
              · replace h := q
                have e : M = 116 := by omega
                subst e
                exact am_q_116
              · replace g := q
                have e : M = 117 := by omega
                subst e
                exact am_q_117
            · replace g := q
              rcases Nat.lt_or_ge M 119 with q | q
              · replace h := q
                have e : M = 118 := by omega
                subst e
                exact am_q_118
              · replace g := q
                rcases Nat.lt_or_ge M 120 with q | q
                · replace h := q
                  have e : M = 119 := by omega
                  subst e
                  exact am_q_119
                · replace g := q
                  have e : M = 120 := by omega
                  subst e
                  exact am_q_120
          · replace g := q
            rcases Nat.lt_or_ge M 124 with q | q
            · replace h := q
              rcases Nat.lt_or_ge M 122 with q | q
              · replace h := q
                have e : M = 121 := by omega
                subst e
                exact am_q_121
              · replace g := q
                rcases Nat.lt_or_ge M 123 with q | q
                · replace h := q
                  have e : M = 122 := by omega
                  subst e
                  exact am_q_122
                · replace g := q
                  have e : M = 123 := by omega
                  subst e
                  exact am_q_123
            · replace g := q
              rcases Nat.lt_or_ge M 125 with q | q
              · replace h := q
                have e : M = 124 := by omega
                subst e
                exact am_q_124
              · replace g := q
                rcases Nat.lt_or_ge M 126 with q | q
                · replace h := q
                  have e : M = 125 := by omega
                  subst e
                  exact am_q_125
                · replace g := q
                  have e : M = 126 := by omega
                  subst e
                  exact am_q_126
    · replace g := q
      rcases Nat.lt_or_ge M 148 with q | q
      · replace h := q
        rcases Nat.lt_or_ge M 137 with q | q
        · replace h := q
          rcases Nat.lt_or_ge M 132 with q | q
          · replace h := q
            rcases Nat.lt_or_ge M 129 with q | q
            · replace h := q
              rcases Nat.lt_or_ge M 128 with q | q
              · replace h := q
                have e : M = 127 := by omega
                subst e
                exact am_q_127
              · replace g := q
                have e : M = 128 := by omega
                subst e
                exact am_q_128
            · replace g := q
              rcases Nat.lt_or_ge M 130 with q | q
              · replace h := q
                have e : M = 129 := by omega
                subst e
                exact am_q_129
              · replace g := q
                rcases Nat.lt_or_ge M 131 with q | q
                · replace h := q
                  have e : M = 130 := by omega
                  subst e
                  exact am_q_130
                · replace g := q
                  have e : M = 131 := by omega
                  subst e
                  exact am_q_131
          · replace g := q
            rcases Nat.lt_or_ge M 134 with q | q
            · replace h := q
              rcases Nat.lt_or_ge M 133 with q | q
              · replace h := q
                have e : M = 132 := by omega
                subst e
                exact am_q_132
              · replace g := q
                have e : M = 133 := by omega
                subst e
                exact am_q_133
            · replace g := q
              rcases Nat.lt_or_ge M 135 with q | q
              · replace h := q
                have e : M = 134 := by omega
                subst e
                exact am_q_134
              · replace g := q
                rcases Nat.lt_or_ge M 136 with q | q
                · replace h := q
                  have e : M = 135 := by omega
                  subst e
                  exact am_q_135
                · replace g := q
                  have e : M = 136 := by omega
                  subst e
                  exact am_q_136
        · replace g := q
          rcases Nat.lt_or_ge M 142 with q | q
          · replace h := q
            rcases Nat.lt_or_ge M 139 with q | q
            · replace h := q
              rcases Nat.lt_or_ge M 138 with q | q
              · replace h := q
                have e : M = 137 := by omega
                subst e
                exact am_q_137
              · replace g := q
                have e : M = 138 := by omega
                subst e
                exact am_q_138
            · replace g := q
              rcases Nat.lt_or_ge M 140 with q | q
              · replace h := q
                have e : M = 139 := by omega
                subst e
                exact am_q_139
              · replace g := q
                rcases Nat.lt_or_ge M 141 with q | q
                · replace h := q
                  have e : M = 140 := by omega
                  subst e
                  exact am_q_140
                · replace g := q
                  have e : M = 141 := by omega
                  subst e
                  exact am_q_141
          · replace g := q
            rcases Nat.lt_or_ge M 145 with q | q
            · replace h := q
              rcases Nat.lt_or_ge M 143 with q | q
              · replace h := q
                have e : M = 142 := by omega
                subst e
                exact am_q_142
              · replace g := q
                rcases Nat.lt_or_ge M 144 with q | q
                · replace h := q
                  have e : M = 143 := by omega
                  subst e
                  exact am_q_143
                · replace g := q
                  have e : M = 144 := by omega
                  subst e
                  exact am_q_144
            · replace g := q
              rcases Nat.lt_or_ge M 146 with q | q
              · replace h := q
                have e : M = 145 := by omega
                subst e
                exact am_q_145
              · replace g := q
                rcases Nat.lt_or_ge M 147 with q | q
                · replace h := q
                  have e : M = 146 := by omega
                  subst e
                  exact am_q_146
                · replace g := q
                  have e : M = 147 := by omega
                  subst e
                  exact am_q_147
      · replace g := q
        rcases Nat.lt_or_ge M 159 with q | q
        · replace h := q
          rcases Nat.lt_or_ge M 153 with q | q
          · replace h := q
            rcases Nat.lt_or_ge M 150 with q | q
            · replace h := q
              rcases Nat.lt_or_ge M 149 with q | q
              · replace h := q
                have e : M = 148 := by omega
                subst e
                exact am_q_148
              · replace g := q
                have e : M = 149 := by omega
                subst e
                exact am_q_149
            · replace g := q
              rcases Nat.lt_or_ge M 151 with q | q
              · replace h := q
                have e : M = 150 := by omega
                subst e
                exact am_q_150
              · replace g := q
                rcases Nat.lt_or_ge M 152 with q | q
                · replace h := q
                  have e : M = 151 := by omega
                  subst e
                  exact am_q_151
                · replace g := q
                  have e : M = 152 := by omega
                  subst e
                  exact am_q_152
          · replace g := q
            rcases Nat.lt_or_ge M 156 with q | q
            · replace h := q
              rcases Nat.lt_or_ge M 154 with q | q
              · replace h := q
                have e : M = 153 := by omega
                subst e
                exact am_q_153
              · replace g := q
                rcases Nat.lt_or_ge M 155 with q | q
                · replace h := q
                  have e : M = 154 := by omega
                  subst e
                  exact am_q_154
                · replace g := q
                  have e : M = 155 := by omega
                  subst e
                  exact am_q_155
            · replace g := q
              rcases Nat.lt_or_ge M 157 with q | q
              · replace h := q
                have e : M = 156 := by omega
                subst e
                exact am_q_156
              · replace g := q
                rcases Nat.lt_or_ge M 158 with q | q
                · replace h := q
                  have e : M = 157 := by omega
                  subst e
                  exact am_q_157
                · replace g := q
                  have e : M = 158 := by omega
                  subst e
                  exact am_q_158
        · replace g := q
          rcases Nat.lt_or_ge M 164 with q | q
          · replace h := q
            rcases Nat.lt_or_ge M 161 with q | q
            · replace h := q
              rcases Nat.lt_or_ge M 160 with q | q
              · replace h := q
                have e : M = 159 := by omega
                subst e
                exact am_q_159
              · replace g := q
                have e : M = 160 := by omega
                subst e
                exact am_q_160
            · replace g := q
              rcases Nat.lt_or_ge M 162 with q | q
              · replace h := q
                have e : M = 161 := by omega
                subst e
                exact am_q_161
              · replace g := q
                rcases Nat.lt_or_ge M 163 with q | q
                · replace h := q
                  have e : M = 162 := by omega
                  subst e
                  exact am_q_162
                · replace g := q
                  have e : M = 163 := by omega
                  subst e
                  exact am_q_163
          · replace g := q
            rcases Nat.lt_or_ge M 167 with q | q
            · replace h := q
              rcases Nat.lt_or_ge M 165 with q | q
              · replace h := q
                have e : M = 164 := by omega
                subst e
                exact am_q_164
              · replace g := q
                rcases Nat.lt_or_ge M 166 with q | q
                · replace h := q
                  have e : M = 165 := by omega
                  subst e
                  exact am_q_165
                · replace g := q
                  have e : M = 166 := by omega
                  subst e
                  exact am_q_166
            · replace g := q
              rcases Nat.lt_or_ge M 168 with q | q
              · replace h := q
                have e : M = 167 := by omega
                subst e
                exact am_q_167
              · replace g := q
                rcases Nat.lt_or_ge M 169 with q | q
                · replace h := q
                  have e : M = 168 := by omega
                  subst e
                  exact am_q_168
                · replace g := q
                  have e : M = 169 := by omega
                  subst e
                  exact am_q_169
theorem am_lookup_mem {α : Type} (l : List (Nat × α)) {k : Nat} {v : α} (h : l.lookup k = some v) : (k, v) ∈ l := by
  induction l with
  | nil => cases h
  | cons q t ih =>
    obtain ⟨a, b⟩ := q
    rw [List.lookup_cons] at h
    cases hk : k == a with
    | true =>
      rw [hk] at h
      have e1 : k = a := by simpa using hk
      have e2 : b = v := by simpa using h
      subst e1; subst e2
      exact List.mem_cons_self
    | false =>
      rw [hk] at h
      exact List.mem_cons_of_mem _ (ih h)
theorem am_tab_ok {M pc : Nat} {e : am_E} (h : am_tab M pc = some e) : am_ok M (pc, e) = true ∧ M < 170 := by
  unfold am_tab at h
  cases hl : (am_tabs.getD M [])[pc / 16]? with
  | none => rw [hl] at h; cases h
  | some l =>
    rw [hl] at h
    have hm := am_lookup_mem l h
    have hM : M < 170 := by
      rcases Nat.lt_or_ge M 170 with q | q
      · exact q
      · have : am_tabs.length = 170 := rfl
        rw [show am_tabs.getD M [] = [] by unfold List.getD; rw [List.getElem?_eq_none (by omega)]; rfl] at hl
        simp at hl
    have h1 := am_q_all M hM (Nat.zero_le _)
    have h2 := List.all_eq_true.mp h1 l (List.mem_of_getElem? hl)
    exact ⟨List.all_eq_true.mp h2 _ hm, hM⟩
