theorem up_all {Q : Nat → Int → Prop} {f : Nat → Int} {k : Nat} {v : Int} (h : ∀ j, Q j (f j)) (hv : Q k v) (j : Nat) : Q j (up f k v j) := by
  by_cases e : j = k
  · rw [e, up_at]; exact hv
  · rw [up_ne _ _ e]; exact h j
theorem acr_rng {S : Nat → Nat → Int} {c : Nat} (h : RG S c) (k : Nat) (x : Int) (hk : (k : Int) < S 1 2) : 0 ≤ acr S k x ∧ acr S k x < S 1 1 := by
  obtain ⟨g1, g2, g3, g4, g5, g6, g7, g8, g9, g10, g11, g12, g13⟩ := h
  have := g11 k hk
  unfold acr
  split <;> omega
theorem far_rng {f p : Int} (hf : 1 ≤ f ∧ f ≤ 9) (hp : 1 ≤ p ∧ p ≤ 9) : 0 ≤ f * (10 - p) ∧ f * (10 - p) ≤ 81 := by
  obtain ⟨q, hq⟩ : ∃ q, 10 - p = q := ⟨_, rfl⟩
  rw [hq]
  have h1 : 1 ≤ q ∧ q ≤ 9 := by omega
  constructor
  · exact Int.mul_nonneg (by omega) (by omega)
  · calc f * q ≤ 9 * q := Int.mul_le_mul_of_nonneg_right (by omega) (by omega)
      _ ≤ 81 := by omega
theorem RR.push {S : Nat → Nat → Int} {c : Nat} (h : RR S c) (hc : c < 512) (z y : Int) : RR (pushS S z y) (c + 1) := by
  unfold pushS
  split
  next q =>
    obtain ⟨⟨⟨z0, z1⟩, y0, y1⟩, q2⟩ := q
    obtain ⟨p, hp⟩ : ∃ p : Nat, z = p := ⟨z.toNat, by omega⟩
    obtain ⟨k, hk⟩ : ∃ k : Nat, y = k := ⟨y.toNat, by omega⟩
    subst hp hk
    rw [Int.toNat_natCast, Int.toNat_natCast]
    refine h.hNw.now hc (fun a h8 h9 _ => ?_) ?_
    · unfold pushT; rw [if_neg h8, if_neg h9]
    · have ha := acr_rng h.1 k (S 8 p) y1
      obtain ⟨⟨g1, g2, g3, g4, g5, g6, g7, g8, g9, g10, g11, g12, g13⟩, ⟨w1, w2, w3, w4⟩, -⟩ := h
      have b4 := (g11 k y1).2.2.2
      have b6 := g12 p z1
      have fr := far_rng (f := S 4 k) (p := S 6 p) ⟨b4.1, b4.2.1⟩ ⟨b6.1, b6.2.1⟩
      have fr2 : 3 * S 4 k * (10 - S 6 p) = 3 * (S 4 k * (10 - S 6 p)) := Int.mul_assoc _ _ _
      have b9 := w3 p (by omega)
      refine ⟨fun j hj => ?_, fun j hj => ?_, fun j hj => ?_, fun j hj => w4 j hj⟩
      · exact up_all (Q := fun j v => j < 6 → 0 ≤ v ∧ v ≤ 5) w1 (fun _ => by omega) j hj
      · exact up_all (Q := fun j v => (j : Int) < S 1 3 → v < S 1 1) w2 (fun _ => ha.2) j hj
      · refine up_all (Q := fun j v => j < 6 → 0 ≤ v ∧ v ≤ 243 * ((c + 1 : Nat) : Int)) (fun i hi => ?_) (fun _ => ?_) j hj
        · have := w3 i hi; omega
        · rw [fr2]; omega
  next => exact h.mono hc
theorem RR.glTw {S : Nat → Nat → Int} {c : Nat} (h : RR S c) (hc : c < 512) (l r k : Nat) (hl : (l : Int) < S 1 3) (hr : (r : Int) < S 1 3) (hk : (k : Int) < S 1 2) : RR (glT S l r k) (c + 1) := by
  refine h.hNw.now hc (fun a h8 h9 h10 => ?_) ?_
  · unfold glT; rw [if_neg h8, if_neg h9, if_neg h10]
  · have ha := acr_rng h.1 k (S 8 l) hk
    obtain ⟨⟨g1, g2, g3, g4, g5, g6, g7, g8, g9, g10, g11, g12, g13⟩, ⟨w1, w2, w3, w4⟩, -⟩ := h
    have b4 := (g11 k hk).2.2.2
    have b6 := g12 l hl
    have b6' := g12 r hr
    have b9 := w3 l (by omega)
    have b9' := w3 r (by omega)
    have b10 := w4 l (by omega)
    have b10' := w4 r (by omega)
    have hG : 0 ≤ gmn (S 4 k) (S 6 l) (S 6 r) (S 5 k) (S 10 l) (S 10 r) ∧ gmn (S 4 k) (S 6 l) (S 6 r) (S 5 k) (S 10 l) (S 10 r) ≤ 90 := by
      unfold gmn
      have fr := far_rng (f := S 4 k) (p := if S 6 r < S 6 l then S 6 r else S 6 l) ⟨b4.1, b4.2.1⟩ (by split <;> omega)
      generalize S 4 k * (10 - (if S 6 r < S 6 l then S 6 r else S 6 l)) = G at fr ⊢
      split
      · omega
      · split <;> omega
    have hE : 0 ≤ (if S 9 l < S 9 r then S 9 r else S 9 l) + gmn (S 4 k) (S 6 l) (S 6 r) (S 5 k) (S 10 l) (S 10 r) ∧ (if S 9 l < S 9 r then S 9 r else S 9 l) + gmn (S 4 k) (S 6 l) (S 6 r) (S 5 k) (S 10 l) (S 10 r) ≤ 243 * ((c + 1 : Nat) : Int) := by
      generalize gmn (S 4 k) (S 6 l) (S 6 r) (S 5 k) (S 10 l) (S 10 r) = G at hG ⊢
      split <;> omega
    refine ⟨fun j hj => ?_, fun j hj => ?_, fun j hj => ?_, fun j hj => ?_⟩
    · exact up_all (Q := fun j v => j < 6 → 0 ≤ v ∧ v ≤ 5) (up_all (Q := fun j v => j < 6 → 0 ≤ v ∧ v ≤ 5) w1 (fun _ => by omega)) (fun _ => by omega) j hj
    · exact up_all (Q := fun j v => (j : Int) < S 1 3 → v < S 1 1) (up_all (Q := fun j v => (j : Int) < S 1 3 → v < S 1 1) w2 (fun _ => ha.2)) (fun _ => ha.2) j hj
    · refine up_all (Q := fun j v => j < 6 → 0 ≤ v ∧ v ≤ 243 * ((c + 1 : Nat) : Int)) (up_all (Q := fun j v => j < 6 → 0 ≤ v ∧ v ≤ 243 * ((c + 1 : Nat) : Int)) (fun i hi => ?_) (fun _ => hE)) (fun _ => hE) j hj
      have := w3 i hi; omega
    · show 0 ≤ (if S 5 k = 1 then up (S 10) l (wr1 (S 10 l)) else if S 5 k = 2 then up (S 10) r (wr1 (S 10 r)) else S 10) j ∧ (if S 5 k = 1 then up (S 10) l (wr1 (S 10 l)) else if S 5 k = 2 then up (S 10) r (wr1 (S 10 r)) else S 10) j ≤ 9
      have hw : ∀ w : Int, 0 ≤ w → 0 ≤ wr1 w ∧ wr1 w ≤ 9 := fun w h0 => by unfold wr1; split <;> omega
      split
      · exact up_all (Q := fun j v => j < 6 → 0 ≤ v ∧ v ≤ 9) w4 (fun _ => hw _ b10.1) j hj
      · split
        · exact up_all (Q := fun j v => j < 6 → 0 ≤ v ∧ v ≤ 9) w4 (fun _ => hw _ b10'.1) j hj
        · exact w4 j hj
theorem RR.glide {S : Nat → Nat → Int} {c : Nat} (h : RR S c) (hc : c < 512) (x y z : Int) : RR (glideS S x y z) (c + 1) := by
  unfold glideS
  split
  next q =>
    obtain ⟨⟨⟨x0, x1⟩, y0, y1⟩, z0, z1⟩ := q
    split
    · exact h.mono hc
    · split
      · split
        · exact h.glTw hc _ _ _ (by omega) (by omega) (by omega)
        · exact h.glTw hc _ _ _ (by omega) (by omega) (by omega)
      · exact h.mono hc
  next => exact h.mono hc
