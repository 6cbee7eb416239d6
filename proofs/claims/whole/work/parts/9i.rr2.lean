theorem RR.keep {S : Nat → Nat → Int} {c : Nat} (h : RR S c) (hc : c < 512) (z : Int) : RR (keepS S z) (c + 1) := by
  unfold keepS
  split
  next q =>
    obtain ⟨g, w, hh, k0, k1, sn, hcc⟩ := h
    obtain ⟨g1, g2, g3, g4, g5, g6, g7, g8, g9, g10, g11, g12, g13⟩ := id g
    refine ⟨g.cg rfl rfl rfl rfl rfl rfl rfl rfl rfl rfl g1 g6 g7 (Or.inr rfl) g9 g10, w.cg rfl rfl rfl rfl rfl (by omega), fun j hj => (hh j hj).cg ?_ ?_ ?_ rfl rfl (by omega), fun _ => w.cg rfl rfl rfl rfl rfl (by omega), fun e => (k1 e).cg rfl rfl rfl rfl rfl (by omega), sn, by omega⟩
    all_goals
      show (if _ = 1 then _ else if _ = 14 then _ else if _ = 15 then _ else if _ = 16 then _ else _) = _
      rw [if_neg (by omega), if_neg (by omega), if_neg (by omega), if_neg (by omega)]
  next q0 =>
    split
    next q =>
      obtain ⟨g, w, hh, k0, k1, sn, hcc⟩ := h
      obtain ⟨g1, g2, g3, g4, g5, g6, g7, g8, g9, g10, g11, g12, g13⟩ := id g
      refine ⟨g.cg rfl rfl rfl rfl rfl rfl rfl rfl rfl rfl g1 g6 g7 g8 (Or.inr rfl) g10, w.cg rfl rfl rfl rfl rfl (by omega), fun j hj => (hh j hj).cg ?_ ?_ ?_ rfl rfl (by omega), fun e => (k0 e).cg rfl rfl rfl rfl rfl (by omega), fun _ => w.cg rfl rfl rfl rfl rfl (by omega), sn, by omega⟩
      all_goals
        show (if _ = 1 then _ else if _ = 17 then _ else if _ = 18 then _ else if _ = 19 then _ else _) = _
        rw [if_neg (by omega), if_neg (by omega), if_neg (by omega), if_neg (by omega)]
    next => exact h.mono hc
theorem RR.again {S : Nat → Nat → Int} {c : Nat} (h : RR S c) (hc : c < 512) (z : Int) : RR (againS S z) (c + 1) := by
  unfold againS
  split
  next q =>
    obtain ⟨g, w, hh, k0, k1, sn, hcc⟩ := h
    obtain ⟨g1, g2, g3, g4, g5, g6, g7, g8, g9, g10, g11, g12, g13⟩ := id g
    exact ⟨g.cg rfl rfl rfl rfl rfl rfl rfl rfl rfl rfl g1 (by show (0 : Int) ≤ 0 ∧ (0 : Int) ≤ 12; omega) g7 g8 g9 g10, (k0 q.2).cg rfl rfl rfl rfl rfl (by omega), fun j hj => absurd (show (j : Int) < 0 from hj) (by omega), fun e => (k0 e).cg rfl rfl rfl rfl rfl (by omega), fun e => (k1 e).cg rfl rfl rfl rfl rfl (by omega), sn, by omega⟩
  next q0 =>
    split
    next q =>
      obtain ⟨g, w, hh, k0, k1, sn, hcc⟩ := h
      obtain ⟨g1, g2, g3, g4, g5, g6, g7, g8, g9, g10, g11, g12, g13⟩ := id g
      exact ⟨g.cg rfl rfl rfl rfl rfl rfl rfl rfl rfl rfl g1 (by show (0 : Int) ≤ 0 ∧ (0 : Int) ≤ 12; omega) g7 g8 g9 g10, (k1 q.2).cg rfl rfl rfl rfl rfl (by omega), fun j hj => absurd (show (j : Int) < 0 from hj) (by omega), fun e => (k0 e).cg rfl rfl rfl rfl rfl (by omega), fun e => (k1 e).cg rfl rfl rfl rfl rfl (by omega), sn, by omega⟩
    next => exact h.mono hc
theorem RR.undo {S : Nat → Nat → Int} {c : Nat} (h : RR S c) (hc : c < 512) : RR (undoS S) (c + 1) := by
  unfold undoS
  split
  next q =>
    obtain ⟨g, w, hh, k0, k1, sn, hcc⟩ := h
    obtain ⟨g1, g2, g3, g4, g5, g6, g7, g8, g9, g10, g11, g12, g13⟩ := id g
    refine ⟨g.cg rfl rfl rfl rfl rfl rfl rfl rfl rfl rfl g1 (by show 0 ≤ S 1 5 - 1 ∧ S 1 5 - 1 ≤ 12; omega) g7 g8 g9 g10, (hh (S 1 5 - 1).toNat (by omega)).cg rfl rfl rfl rfl rfl (by omega), fun j hj => (hh j ?_).cg ?_ ?_ ?_ rfl rfl (by omega), fun e => (k0 e).cg rfl rfl rfl rfl rfl (by omega), fun e => (k1 e).cg rfl rfl rfl rfl rfl (by omega), sn, by omega⟩
    · have : (j : Int) < S 1 5 - 1 := hj
      omega
    all_goals
      show (if _ = 1 then _ else if _ = 8 then _ else if _ = 9 then _ else if _ = 10 then _ else _) = _
      rw [if_neg (by omega), if_neg (by omega), if_neg (by omega), if_neg (by omega)]
  next => exact h.mono hc
