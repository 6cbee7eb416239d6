theorem RS.cg {S S' : Nat → Nat → Int} {c c' x y z x' y' z' : Nat} (h : RS S c x y z) (e1 : S' x' = S x) (e2 : S' y' = S y) (e3 : S' z' = S z) (n1 : S' 1 1 = S 1 1) (n3 : S' 1 3 = S 1 3) (hc : c ≤ c') : RS S' c' x' y' z' := by
  obtain ⟨h1, h2, h3, h4⟩ := h
  refine ⟨fun p hp => by rw [e1]; exact h1 p hp, fun p hp => by rw [e1, n1]; rw [n3] at hp; exact h2 p hp, fun p hp => ?_, fun p hp => by rw [e3]; exact h4 p hp⟩
  rw [e2]
  have := h3 p hp
  omega
theorem RG.cg {S S' : Nat → Nat → Int} {c c' : Nat} (h : RG S c) (n1 : S' 1 1 = S 1 1) (n2 : S' 1 2 = S 1 2) (n3 : S' 1 3 = S 1 3) (n4 : S' 1 4 = S 1 4) (e2 : S' 2 = S 2) (e3 : S' 3 = S 3) (e4 : S' 4 = S 4) (e5 : S' 5 = S 5) (e6 : S' 6 = S 6) (e7 : S' 7 = S 7) (b0 : 0 ≤ S' 1 0 ∧ S' 1 0 ≤ 80) (b5 : 0 ≤ S' 1 5 ∧ S' 1 5 ≤ 12) (b6 : 0 ≤ S' 1 6 ∧ S' 1 6 ≤ 8) (b7 : S' 1 7 = 0 ∨ S' 1 7 = 1) (b8 : S' 1 8 = 0 ∨ S' 1 8 = 1) (bt : ∀ j, 0 ≤ S' 0 j ∧ S' 0 j ≤ 255) : RG S' c' := by
  obtain ⟨g1, g2, g3, g4, g5, g6, g7, g8, g9, g10, g11, g12, g13⟩ := h
  refine ⟨b0, by rw [n1]; exact g2, by rw [n2]; exact g3, by rw [n3]; exact g4, by rw [n3, n4]; exact g5, b5, b6, b7, b8, bt, ?_, ?_, ?_⟩
  · rw [n1, n2, e2, e3, e4, e5]; exact g11
  · rw [n1, n3, e6, e7]; exact g12
  · rw [n2, e2, e3]; exact g13
theorem RR.mono {S : Nat → Nat → Int} {c : Nat} (h : RR S c) (hc : c < 512) : RR S (c + 1) := by
  obtain ⟨g, w, hh, k0, k1, sn, hcc⟩ := h
  obtain ⟨g1, g2, g3, g4, g5, g6, g7, g8, g9, g10, g11, g12, g13⟩ := id g
  exact ⟨g.cg rfl rfl rfl rfl rfl rfl rfl rfl rfl rfl g1 g6 g7 g8 g9 g10, w.cg rfl rfl rfl rfl rfl (by omega), fun j hj => (hh j hj).cg rfl rfl rfl rfl rfl (by omega), fun e => (k0 e).cg rfl rfl rfl rfl rfl (by omega), fun e => (k1 e).cg rfl rfl rfl rfl rfl (by omega), sn, by omega⟩
theorem RR.wipe {S : Nat → Nat → Int} {c : Nat} (h : RR S c) (hc : c < 512) : RR (wipeS S) (c + 1) := by
  obtain ⟨g, w, hh, k0, k1, sn, hcc⟩ := h
  obtain ⟨g1, g2, g3, g4, g5, g6, g7, g8, g9, g10, g11, g12, g13⟩ := id g
  have s1 : ∀ j, j ≠ 0 → wipeS S 1 j = S 1 j := fun j hj => up_ne _ _ hj
  have sa : ∀ a, a ≠ 1 → wipeS S a = S a := fun a ha => if_neg ha
  refine ⟨g.cg rfl rfl rfl rfl rfl rfl rfl rfl rfl rfl (by show (0 : Int) ≤ 0 ∧ (0 : Int) ≤ 80; omega) g6 g7 g8 g9 g10, w.cg rfl rfl rfl rfl rfl (by omega), fun j hj => (hh j hj).cg (sa _ (by omega)) (sa _ (by omega)) (sa _ (by omega)) rfl rfl (by omega), fun e => (k0 e).cg rfl rfl rfl rfl rfl (by omega), fun e => (k1 e).cg rfl rfl rfl rfl rfl (by omega), sn, by omega⟩
theorem RR.unsee {S : Nat → Nat → Int} {c : Nat} (h : RR S c) (hc : c < 512) : RR (unseeS S) (c + 1) := by
  obtain ⟨g, w, hh, k0, k1, sn, hcc⟩ := h
  obtain ⟨g1, g2, g3, g4, g5, g6, g7, g8, g9, g10, g11, g12, g13⟩ := id g
  have sa : ∀ a, a ≠ 1 → unseeS S a = S a := fun a ha => if_neg ha
  refine ⟨g.cg rfl rfl rfl rfl rfl rfl rfl rfl rfl rfl g1 g6 (by show (0 : Int) ≤ 0 ∧ (0 : Int) ≤ 8; omega) g8 g9 g10, w.cg rfl rfl rfl rfl rfl (by omega), fun j hj => (hh j hj).cg (sa _ (by omega)) (sa _ (by omega)) (sa _ (by omega)) rfl rfl (by omega), fun e => (k0 e).cg rfl rfl rfl rfl rfl (by omega), fun e => (k1 e).cg rfl rfl rfl rfl rfl (by omega), sn, by omega⟩
theorem wrF_rng (v : Int64) : ∀ (n l : Nat) (f : Nat → Int), (∀ j, 0 ≤ f j ∧ f j ≤ 255) → ∀ j, 0 ≤ wrF f l v n j ∧ wrF f l v n j ≤ 255 := by
  intro n
  induction n with
  | zero => intro l f h j; exact h j
  | succ m ih =>
    intro l f h j
    refine ih (l + 1) (up f l (byt v m)) (fun i => ?_) j
    by_cases e : i = l
    · rw [e, up_at]; have := byt_rng v m; omega
    · rw [up_ne _ _ e]; exact h i
theorem RR.write {S : Nat → Nat → Int} {c : Nat} (h : RR S c) (hc : c < 512) (n : Int) (v : Int64) : RR (writeS S n v) (c + 1) := by
  unfold writeS
  split
  next q =>
    obtain ⟨g, w, hh, k0, k1, sn, hcc⟩ := h
    obtain ⟨g1, g2, g3, g4, g5, g6, g7, g8, g9, g10, g11, g12, g13⟩ := id g
    obtain ⟨S', hS'⟩ : ∃ S' : Nat → Nat → Int, (fun a => if a = 0 then wrF (S 0) (S 1 0).toNat v n.toNat else if a = 1 then up (S 1) 0 (S 1 0 + n) else S a) = S' := ⟨_, rfl⟩
    rw [hS']
    have sa : ∀ a, a ≠ 0 → a ≠ 1 → S' a = S a := fun a h0 h1 => by rw [← hS']; show (if a = 0 then _ else if a = 1 then _ else S a) = _; rw [if_neg h0, if_neg h1]
    have s1 : ∀ j, j ≠ 0 → S' 1 j = S 1 j := fun j hj => by rw [← hS']; exact up_ne _ _ hj
    have s10 : S' 1 0 = S 1 0 + n := by rw [← hS']; rfl
    have s0 : S' 0 = wrF (S 0) (S 1 0).toNat v n.toNat := by rw [← hS']; rfl
    refine ⟨g.cg (s1 _ (by omega)) (s1 _ (by omega)) (s1 _ (by omega)) (s1 _ (by omega)) (sa _ (by omega) (by omega)) (sa _ (by omega) (by omega)) (sa _ (by omega) (by omega)) (sa _ (by omega) (by omega)) (sa _ (by omega) (by omega)) (sa _ (by omega) (by omega)) (by rw [s10]; omega) (by rw [s1 _ (by omega)]; exact g6) (by rw [s1 _ (by omega)]; exact g7) (by rw [s1 _ (by omega)]; exact g8) (by rw [s1 _ (by omega)]; exact g9) (by rw [s0]; exact wrF_rng v _ _ _ g10), w.cg (sa _ (by omega) (by omega)) (sa _ (by omega) (by omega)) (sa _ (by omega) (by omega)) (s1 _ (by omega)) (s1 _ (by omega)) (by omega), fun j hj => ?_, fun e => ?_, fun e => ?_, ?_, by omega⟩
    · rw [s1 _ (by omega)] at hj
      exact (hh j hj).cg (sa _ (by omega) (by omega)) (sa _ (by omega) (by omega)) (sa _ (by omega) (by omega)) (s1 _ (by omega)) (s1 _ (by omega)) (by omega)
    · rw [s1 _ (by omega)] at e
      exact (k0 e).cg (sa _ (by omega) (by omega)) (sa _ (by omega) (by omega)) (sa _ (by omega) (by omega)) (s1 _ (by omega)) (s1 _ (by omega)) (by omega)
    · rw [s1 _ (by omega)] at e
      exact (k1 e).cg (sa _ (by omega) (by omega)) (sa _ (by omega) (by omega)) (sa _ (by omega) (by omega)) (s1 _ (by omega)) (s1 _ (by omega)) (by omega)
    · rw [sa 11 (by omega) (by omega), sa 12 (by omega) (by omega), sa 13 (by omega) (by omega)]; exact sn
  next => exact h.mono hc
theorem RR.see {S : Nat → Nat → Int} {c : Nat} (h : RR S c) (hc : c < 512) (z1 z2 x : Int) (hx : x = 0 ∨ x = 1) : RR (seeS S z1 z2 x) (c + 1) := by
  unfold seeS
  split
  next q =>
    obtain ⟨g, w, hh, k0, k1, sn, hcc⟩ := h
    obtain ⟨g1, g2, g3, g4, g5, g6, g7, g8, g9, g10, g11, g12, g13⟩ := id g
    refine ⟨g.cg rfl rfl rfl rfl rfl rfl rfl rfl rfl rfl g1 g6 (by show 0 ≤ S 1 6 + 1 ∧ S 1 6 + 1 ≤ 8; omega) g8 g9 g10, w.cg rfl rfl rfl rfl rfl (by omega), fun j hj => (hh j hj).cg ?_ ?_ ?_ rfl rfl (by omega), fun e => (k0 e).cg rfl rfl rfl rfl rfl (by omega), fun e => (k1 e).cg rfl rfl rfl rfl rfl (by omega), fun j hj => ?_, by omega⟩
    · show (if _ = 1 then _ else if _ = 11 then _ else if _ = 12 then _ else if _ = 13 then _ else _) = _
      rw [if_neg (by omega), if_neg (by omega), if_neg (by omega), if_neg (by omega)]
    · show (if _ = 1 then _ else if _ = 11 then _ else if _ = 12 then _ else if _ = 13 then _ else _) = _
      rw [if_neg (by omega), if_neg (by omega), if_neg (by omega), if_neg (by omega)]
    · show (if _ = 1 then _ else if _ = 11 then _ else if _ = 12 then _ else if _ = 13 then _ else _) = _
      rw [if_neg (by omega), if_neg (by omega), if_neg (by omega), if_neg (by omega)]
    · show 0 ≤ up (S 11) (S 1 6).toNat z1 j ∧ up (S 11) (S 1 6).toNat z1 j ≤ 5 ∧ 0 ≤ up (S 12) (S 1 6).toNat z2 j ∧ up (S 12) (S 1 6).toNat z2 j ≤ 5 ∧ (up (S 13) (S 1 6).toNat x j = 0 ∨ up (S 13) (S 1 6).toNat x j = 1)
      by_cases e : j = (S 1 6).toNat
      · rw [← e, up_at, up_at, up_at]; omega
      · rw [up_ne _ _ e, up_ne _ _ e, up_ne _ _ e]; exact sn j hj
  next => exact h.mono hc
