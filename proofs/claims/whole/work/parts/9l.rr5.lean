theorem RR.town {S T : Nat → Nat → Int} {c : Nat} (h : RR S c) (hc : c < 512) (hD : DT T) : RR (twS S T) (c + 1) := by
  obtain ⟨g, ⟨w1, w2, w3, w4⟩, hh, k0, k1, sn, hcc⟩ := h
  obtain ⟨g1, g2, g3, g4, g5, g6, g7, g8, g9, g10, g11, g12, g13⟩ := id g
  obtain ⟨d1, d2, d3, d4, d5, d6, d7⟩ := hD
  refine ⟨⟨g1, d1, d2, d3, d4, by show (0 : Int) ≤ 0 ∧ (0 : Int) ≤ 12; omega, g7, Or.inl rfl, Or.inl rfl, g10, d5, fun p hp => ⟨(d6 p hp).1, (d6 p hp).2.1, (d6 p hp).2.2.1, (d6 p hp).2.2.2.1⟩, d7⟩, ⟨fun p hp => ?_, fun p hp => ?_, fun p hp => ?_, fun p hp => ?_⟩, fun j hj => absurd (show (j : Int) < 0 from hj) (by omega), fun e => absurd (show (0 : Int) = 1 from e) (by omega), fun e => absurd (show (0 : Int) = 1 from e) (by omega), sn, by omega⟩
  · show 0 ≤ bgn (S 8) (T 8) (T 1 3).toNat p ∧ bgn (S 8) (T 8) (T 1 3).toNat p ≤ 5
    unfold bgn
    split
    next e => have := d6 p (by omega); omega
    next => exact w1 p hp
  · have hp' : (p : Int) < T 1 3 := hp
    show bgn (S 8) (T 8) (T 1 3).toNat p < T 1 1
    unfold bgn
    rw [if_pos (by omega)]
    exact (d6 p hp').2.2.2.2.2
  · show 0 ≤ bgn (S 9) (fun _ => 0) (T 1 3).toNat p ∧ bgn (S 9) (fun _ => 0) (T 1 3).toNat p ≤ 243 * ((c + 1 : Nat) : Int)
    unfold bgn
    split
    next e => exact ⟨Int.le_refl 0, by show (0 : Int) ≤ 243 * ((c + 1 : Nat) : Int); omega⟩
    next => have := w3 p hp; omega
  · show 0 ≤ bgn (S 10) (fun _ => 0) (T 1 3).toNat p ∧ bgn (S 10) (fun _ => 0) (T 1 3).toNat p ≤ 9
    unfold bgn
    split
    next e => exact ⟨Int.le_refl 0, by show (0 : Int) ≤ 9; omega⟩
    next => exact w4 p hp
