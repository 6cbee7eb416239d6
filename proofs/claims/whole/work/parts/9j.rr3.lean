theorem RR.hNw {S : Nat → Nat → Int} {c : Nat} (h : RR S c) : RR (hN S) c := by
  obtain ⟨g, w, hh, k0, k1, sn, hcc⟩ := h
  obtain ⟨g1, g2, g3, g4, g5, g6, g7, g8, g9, g10, g11, g12, g13⟩ := id g
  refine ⟨g.cg rfl rfl rfl rfl rfl rfl rfl rfl rfl rfl g1 (by show 0 ≤ (if S 1 5 < 12 then S 1 5 + 1 else 12) ∧ (if S 1 5 < 12 then S 1 5 + 1 else 12) ≤ 12; split <;> omega) g7 g8 g9 g10, w.cg rfl rfl rfl rfl rfl (by omega), fun j hj => ?_, fun e => (k0 e).cg rfl rfl rfl rfl rfl (by omega), fun e => (k1 e).cg rfl rfl rfl rfl rfl (by omega), sn, hcc⟩
  have hj' : (j : Int) < (if S 1 5 < 12 then S 1 5 + 1 else 12) := hj
  by_cases q : S 1 5 < 12
  · rw [if_pos q] at hj'
    have ev : ∀ a, ¬ a = 1 → ¬ a < 20 → hN S a = (if a = 20 + 3 * (S 1 5).toNat then S 8 else if a = 21 + 3 * (S 1 5).toNat then S 9 else if a = 22 + 3 * (S 1 5).toNat then S 10 else S a) := fun a h1 h2 => by unfold hN; rw [if_neg h1, if_neg h2, if_pos q]
    by_cases e : j = (S 1 5).toNat
    · refine w.cg ?_ ?_ ?_ rfl rfl (Nat.le_refl c)
      · rw [ev _ (by omega) (by omega), if_pos (by omega)]
      · rw [ev _ (by omega) (by omega), if_neg (by omega), if_pos (by omega)]
      · rw [ev _ (by omega) (by omega), if_neg (by omega), if_neg (by omega), if_pos (by omega)]
    · refine (hh j (by omega)).cg ?_ ?_ ?_ rfl rfl (Nat.le_refl c)
      all_goals rw [ev _ (by omega) (by omega), if_neg (by omega), if_neg (by omega), if_neg (by omega)]
  · rw [if_neg q] at hj'
    have ev : ∀ a, ¬ a = 1 → ¬ a < 20 → hN S a = (if a = 53 then S 8 else if a = 54 then S 9 else if a = 55 then S 10 else S (a + 3)) := fun a h1 h2 => by unfold hN; rw [if_neg h1, if_neg h2, if_neg q]
    by_cases e : j = 11
    · subst e
      refine w.cg ?_ ?_ ?_ rfl rfl (Nat.le_refl c)
      · rw [ev _ (by omega) (by omega), if_pos (by omega)]
      · rw [ev _ (by omega) (by omega), if_neg (by omega), if_pos (by omega)]
      · rw [ev _ (by omega) (by omega), if_neg (by omega), if_neg (by omega), if_pos (by omega)]
    · refine (hh (j + 1) (by omega)).cg ?_ ?_ ?_ rfl rfl (Nat.le_refl c)
      all_goals
        rw [ev _ (by omega) (by omega), if_neg (by omega), if_neg (by omega), if_neg (by omega)]
        exact congrArg S (by omega)
theorem RR.now {S S' : Nat → Nat → Int} {c : Nat} (h : RR S c) (hc : c < 512) (e : ∀ a, a ≠ 8 → a ≠ 9 → a ≠ 10 → S' a = S a) (w' : RS S' (c + 1) 8 9 10) : RR S' (c + 1) := by
  obtain ⟨g, w, hh, k0, k1, sn, hcc⟩ := h
  obtain ⟨g1, g2, g3, g4, g5, g6, g7, g8, g9, g10, g11, g12, g13⟩ := id g
  have e1 := e 1 (by omega) (by omega) (by omega)
  have n1 : S' 1 1 = S 1 1 := by rw [e1]
  have n3 : S' 1 3 = S 1 3 := by rw [e1]
  refine ⟨g.cg n1 (by rw [e1]) n3 (by rw [e1]) (e _ (by omega) (by omega) (by omega)) (e _ (by omega) (by omega) (by omega)) (e _ (by omega) (by omega) (by omega)) (e _ (by omega) (by omega) (by omega)) (e _ (by omega) (by omega) (by omega)) (e _ (by omega) (by omega) (by omega)) (by rw [e1]; exact g1) (by rw [e1]; exact g6) (by rw [e1]; exact g7) (by rw [e1]; exact g8) (by rw [e1]; exact g9) (by rw [e 0 (by omega) (by omega) (by omega)]; exact g10), w', fun j hj => ?_, fun q => ?_, fun q => ?_, ?_, by omega⟩
  · rw [e1] at hj
    exact (hh j hj).cg (e _ (by omega) (by omega) (by omega)) (e _ (by omega) (by omega) (by omega)) (e _ (by omega) (by omega) (by omega)) n1 n3 (by omega)
  · rw [e1] at q
    exact (k0 q).cg (e _ (by omega) (by omega) (by omega)) (e _ (by omega) (by omega) (by omega)) (e _ (by omega) (by omega) (by omega)) n1 n3 (by omega)
  · rw [e1] at q
    exact (k1 q).cg (e _ (by omega) (by omega) (by omega)) (e _ (by omega) (by omega) (by omega)) (e _ (by omega) (by omega) (by omega)) n1 n3 (by omega)
  · rw [e 11 (by omega) (by omega) (by omega), e 12 (by omega) (by omega) (by omega), e 13 (by omega) (by omega) (by omega)]; exact sn
