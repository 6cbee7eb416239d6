def zN (k : Nat) : Int := if k = 4 then 2 else 0
def zQ (k : Nat) : Nat × List Value := ar 456 (fun j => if j < 6 * k then mtF j else 0)
def zw (l : List Int) : Nat × List Value := (100, l.map fun x => .int (Int32.ofInt x))
def zC (k : Nat) (w : Nat × List Value) : am_H := [ob 11 43 (gN zN 0), ar 80 zf, ar 8 zf, ar 8 zf, ar 8 zf, ar 8 zf, ar 6 zf, ar 6 zf, ar 6 zf, ar 6 zf, ar 6 zf, ar 8 zf, ar 8 zf, ar 8 zf, ar 8 zf, ar 6 zf, ar 6 zf, ar 6 zf, ar 216 zf, ar 36 zf, az 2 zf, zQ k, ar 36 zf, ar 6 zf, ar 8 zf, ar 8 zf, az 8 zf, w, ar 6 zf]
def zD (k : Nat) (w : Nat × List Value) : am_H := (300, []) :: (zB ++ zC k w)
/-- n heads of the loop further; calls by am_ex -/
def z_hop : Nat → Nat → am_C → Option am_C
  | 0, _, _ => none
  | f + 1, n, c => match am_D c with
    | .inl _ => none
    | .inr (.inl c') => if c'.2.2.1 = 260 then (match n with
      | 0 => some c'
      | n + 1 => z_hop f n c') else z_hop f n c'
    | .inr (.inr q) => match am_ex 1000 q.1 with
      | none => none
      | some r => z_hop f n (q.2 r.1 r.2)
theorem z_hop_rn : ∀ (f n : Nat) (c c' : am_C), z_hop f n c = some c' → am_rn c = am_rn c' := by
  intro f
  induction f with
  | zero => intro n c c' h; cases h
  | succ f ih =>
    intro n c c' h
    rw [am_rn_eq]
    unfold z_hop at h
    unfold am_F
    split at h
    · cases h
    · rename_i c1 hc
      rw [hc]
      dsimp only
      split at h
      · split at h
        · cases h; rfl
        · exact ih _ _ _ h
      · exact ih _ _ _ h
    · rename_i q hq
      rw [hq]
      dsimp only
      split at h
      · cases h
      · rename_i r hr
        rw [(am_rn_iff q.1 r).mpr ⟨1000, hr⟩]
        exact ih _ _ _ h
def z_c (o : Option am_C) (d M pc : Nat) (ls : List Value) (H : am_H) : Bool := match o with
  | some (d1, M1, pc1, ls1, st1, H1) => d1 == d && M1 == M && pc1 == pc && z_l ls1 ls && z_l st1 [] && z_h H1 H
  | none => false
theorem z_c_eq {o : Option am_C} {d M pc : Nat} {ls : List Value} {H : am_H} (h : z_c o d M pc ls H = true) : o = some (d, M, pc, ls, [], H) := by
  unfold z_c at h
  split at h
  · rw [Bool.and_eq_true, Bool.and_eq_true, Bool.and_eq_true, Bool.and_eq_true, Bool.and_eq_true] at h
    obtain ⟨⟨⟨⟨⟨h1, h2⟩, h3⟩, h4⟩, h5⟩, h6⟩ := h
    rw [beq_iff_eq.mp h1, beq_iff_eq.mp h2, beq_iff_eq.mp h3, z_l_eq _ _ h4, z_l_eq _ _ h5, z_h_eq _ _ h6]
  · cases h
def z_S (k : Nat) (at_ b : Int) (x4 x5 : Value) (w : List Int) : am_C := (999, 0, 260, [.ref 105, .int (Int32.ofInt k), .int (Int32.ofInt at_), .int (Int32.ofInt b), x4, x5], [], zD k (zw w))
theorem z_step {c : am_C} {f n k : Nat} {at_ b : Int} {x4 x5 : Value} {w : List Int} (h : z_c (z_hop f n c) 999 0 260 [.ref 105, .int (Int32.ofInt k), .int (Int32.ofInt at_), .int (Int32.ofInt b), x4, x5] (zD k (zw w)) = true) : am_rn c = am_rn (z_S k at_ b x4 x5 w) := z_hop_rn _ _ _ _ (z_c_eq h)
theorem z_first : z_c (z_hop 2000 0 (999, 0, 0, am_lo 0 [.ref 105], [], (300, []) :: (zB ++ [(11, am_blank.getD 11 [])]))) 999 0 260 [.ref 105, .int (Int32.ofInt (0 : Nat)), .int (Int32.ofInt 0), .int (Int32.ofInt 6), .null, .null] (zD 0 (zw [-9, -9, -9, -9, -9, -9])) = true := by decide +kernel
theorem z_k0 : z_c (z_hop 30000 8 (z_S 0 0 6 .null .null [-9, -9, -9, -9, -9, -9])) 999 0 260 [.ref 105, .int (Int32.ofInt (2 : Nat)), .int (Int32.ofInt 3), .int (Int32.ofInt 6), .int (Int32.ofInt 5), .int (Int32.ofInt 6)] (zD 2 (zw [0, 1, 2, 3, -9, -9])) = true := by decide +kernel
theorem z_k1 : z_c (z_hop 30000 8 (z_S 2 3 6 (.int (Int32.ofInt 5)) (.int (Int32.ofInt 6)) [0, 1, 2, 3, -9, -9])) 999 0 260 [.ref 105, .int (Int32.ofInt (4 : Nat)), .int (Int32.ofInt 5), .int (Int32.ofInt 4), .int (Int32.ofInt 5), .int (Int32.ofInt 6)] (zD 4 (zw [0, 1, 3, 2, 4, -9])) = true := by decide +kernel
theorem z_k2 : z_c (z_hop 30000 8 (z_S 4 5 4 (.int (Int32.ofInt 5)) (.int (Int32.ofInt 6)) [0, 1, 3, 2, 4, -9])) 999 0 260 [.ref 105, .int (Int32.ofInt (8 : Nat)), .int (Int32.ofInt 3), .int (Int32.ofInt 5), .int (Int32.ofInt 6), .int (Int32.ofInt 6)] (zD 8 (zw [0, 1, 4, 5, 2, 3])) = true := by decide +kernel
theorem z_k3 : z_c (z_hop 30000 8 (z_S 8 3 5 (.int (Int32.ofInt 6)) (.int (Int32.ofInt 6)) [0, 1, 4, 5, 2, 3])) 999 0 260 [.ref 105, .int (Int32.ofInt (10 : Nat)), .int (Int32.ofInt 3), .int (Int32.ofInt 2), .int (Int32.ofInt 3), .int (Int32.ofInt 6)] (zD 10 (zw [0, 2, 1, -9, -9, -9])) = true := by decide +kernel
theorem z_k4 : z_c (z_hop 30000 8 (z_S 10 3 2 (.int (Int32.ofInt 3)) (.int (Int32.ofInt 6)) [0, 2, 1, -9, -9, -9])) 999 0 260 [.ref 105, .int (Int32.ofInt (13 : Nat)), .int (Int32.ofInt 3), .int (Int32.ofInt 6), .int (Int32.ofInt 5), .int (Int32.ofInt 6)] (zD 13 (zw [0, 2, 1, 4, 3, -9])) = true := by decide +kernel
theorem z_k5 : z_c (z_hop 30000 8 (z_S 13 3 6 (.int (Int32.ofInt 5)) (.int (Int32.ofInt 6)) [0, 2, 1, 4, 3, -9])) 999 0 260 [.ref 105, .int (Int32.ofInt (15 : Nat)), .int (Int32.ofInt 4), .int (Int32.ofInt 6), .int (Int32.ofInt 5), .int (Int32.ofInt 6)] (zD 15 (zw [0, 3, 2, 1, 4, -9])) = true := by decide +kernel
theorem z_k6 : z_c (z_hop 30000 8 (z_S 15 4 6 (.int (Int32.ofInt 5)) (.int (Int32.ofInt 6)) [0, 3, 2, 1, 4, -9])) 999 0 260 [.ref 105, .int (Int32.ofInt (18 : Nat)), .int (Int32.ofInt 1), .int (Int32.ofInt 6), .int (Int32.ofInt 5), .int (Int32.ofInt 6)] (zD 18 (zw [0, 3, -9, 1, -9, -9])) = true := by decide +kernel
theorem z_k7 : z_c (z_hop 30000 8 (z_S 18 1 6 (.int (Int32.ofInt 5)) (.int (Int32.ofInt 6)) [0, 3, -9, 1, -9, -9])) 999 0 260 [.ref 105, .int (Int32.ofInt (21 : Nat)), .int (Int32.ofInt 5), .int (Int32.ofInt 5), .int (Int32.ofInt 6), .int (Int32.ofInt 6)] (zD 21 (zw [0, 4, 3, 2, 1, 5])) = true := by decide +kernel
theorem z_k8 : z_c (z_hop 30000 8 (z_S 21 5 5 (.int (Int32.ofInt 6)) (.int (Int32.ofInt 6)) [0, 4, 3, 2, 1, 5])) 999 0 260 [.ref 105, .int (Int32.ofInt (23 : Nat)), .int (Int32.ofInt 4), .int (Int32.ofInt 4), .int (Int32.ofInt 6), .int (Int32.ofInt 6)] (zD 23 (zw [0, 5, 2, 3, 4, 1])) = true := by decide +kernel
theorem z_k9 : z_c (z_hop 30000 8 (z_S 23 4 4 (.int (Int32.ofInt 6)) (.int (Int32.ofInt 6)) [0, 5, 2, 3, 4, 1])) 999 0 260 [.ref 105, .int (Int32.ofInt (26 : Nat)), .int (Int32.ofInt 2), .int (Int32.ofInt 6), .int (Int32.ofInt 3), .int (Int32.ofInt 6)] (zD 26 (zw [0, 5, 4, -9, 2, 1])) = true := by decide +kernel
theorem z_k10 : z_c (z_hop 30000 8 (z_S 26 2 6 (.int (Int32.ofInt 3)) (.int (Int32.ofInt 6)) [0, 5, 4, -9, 2, 1])) 999 0 260 [.ref 105, .int (Int32.ofInt (28 : Nat)), .int (Int32.ofInt 4), .int (Int32.ofInt 5), .int (Int32.ofInt 6), .int (Int32.ofInt 6)] (zD 28 (zw [1, 0, 2, 3, 5, 4])) = true := by decide +kernel
theorem z_k11 : z_c (z_hop 30000 8 (z_S 28 4 5 (.int (Int32.ofInt 6)) (.int (Int32.ofInt 6)) [1, 0, 2, 3, 5, 4])) 999 0 260 [.ref 105, .int (Int32.ofInt (30 : Nat)), .int (Int32.ofInt 4), .int (Int32.ofInt 3), .int (Int32.ofInt 4), .int (Int32.ofInt 6)] (zD 30 (zw [1, 0, 3, 2, -9, -9])) = true := by decide +kernel
theorem z_k12 : z_c (z_hop 30000 8 (z_S 30 4 3 (.int (Int32.ofInt 4)) (.int (Int32.ofInt 6)) [1, 0, 3, 2, -9, -9])) 999 0 260 [.ref 105, .int (Int32.ofInt (33 : Nat)), .int (Int32.ofInt 3), .int (Int32.ofInt 6), .int (Int32.ofInt 5), .int (Int32.ofInt 6)] (zD 33 (zw [1, 0, 4, 3, 2, -9])) = true := by decide +kernel
theorem z_k13 : z_c (z_hop 30000 8 (z_S 33 3 6 (.int (Int32.ofInt 5)) (.int (Int32.ofInt 6)) [1, 0, 4, 3, 2, -9])) 999 0 260 [.ref 105, .int (Int32.ofInt (36 : Nat)), .int (Int32.ofInt 0), .int (Int32.ofInt 6), .int (Int32.ofInt 5), .int (Int32.ofInt 6)] (zD 36 (zw [1, 0, -9, -9, -9, -9])) = true := by decide +kernel
theorem z_k14 : z_c (z_hop 30000 8 (z_S 36 0 6 (.int (Int32.ofInt 5)) (.int (Int32.ofInt 6)) [1, 0, -9, -9, -9, -9])) 999 0 260 [.ref 105, .int (Int32.ofInt (38 : Nat)), .int (Int32.ofInt 5), .int (Int32.ofInt 4), .int (Int32.ofInt 5), .int (Int32.ofInt 6)] (zD 38 (zw [2, 1, 0, 4, 3, -9])) = true := by decide +kernel
theorem z_k15 : z_c (z_hop 30000 8 (z_S 38 5 4 (.int (Int32.ofInt 5)) (.int (Int32.ofInt 6)) [2, 1, 0, 4, 3, -9])) 999 0 260 [.ref 105, .int (Int32.ofInt (41 : Nat)), .int (Int32.ofInt 5), .int (Int32.ofInt 5), .int (Int32.ofInt 6), .int (Int32.ofInt 6)] (zD 41 (zw [2, 3, 0, 1, 4, 5])) = true := by decide +kernel
theorem z_k16 : z_c (z_hop 30000 8 (z_S 41 5 5 (.int (Int32.ofInt 6)) (.int (Int32.ofInt 6)) [2, 3, 0, 1, 4, 5])) 999 0 260 [.ref 105, .int (Int32.ofInt (44 : Nat)), .int (Int32.ofInt 1), .int (Int32.ofInt 6), .int (Int32.ofInt 5), .int (Int32.ofInt 6)] (zD 44 (zw [2, 4, 0, -9, 1, -9])) = true := by decide +kernel
theorem z_k17 : z_c (z_hop 30000 8 (z_S 44 1 6 (.int (Int32.ofInt 5)) (.int (Int32.ofInt 6)) [2, 4, 0, -9, 1, -9])) 999 0 260 [.ref 105, .int (Int32.ofInt (46 : Nat)), .int (Int32.ofInt 2), .int (Int32.ofInt 1), .int (Int32.ofInt 2), .int (Int32.ofInt 6)] (zD 46 (zw [3, 1, -9, 0, -9, -9])) = true := by decide +kernel
theorem z_k18 : z_c (z_hop 30000 8 (z_S 46 2 1 (.int (Int32.ofInt 2)) (.int (Int32.ofInt 6)) [3, 1, -9, 0, -9, -9])) 999 0 260 [.ref 105, .int (Int32.ofInt (49 : Nat)), .int (Int32.ofInt 2), .int (Int32.ofInt 6), .int (Int32.ofInt 5), .int (Int32.ofInt 6)] (zD 49 (zw [3, 1, 4, 0, 2, -9])) = true := by decide +kernel
theorem z_k19 : z_c (z_hop 30000 8 (z_S 49 2 6 (.int (Int32.ofInt 5)) (.int (Int32.ofInt 6)) [3, 1, 4, 0, 2, -9])) 999 0 260 [.ref 105, .int (Int32.ofInt (52 : Nat)), .int (Int32.ofInt 4), .int (Int32.ofInt 5), .int (Int32.ofInt 6), .int (Int32.ofInt 6)] (zD 52 (zw [3, 2, 1, 0, 5, 4])) = true := by decide +kernel
theorem z_k20 : z_c (z_hop 30000 8 (z_S 52 4 5 (.int (Int32.ofInt 6)) (.int (Int32.ofInt 6)) [3, 2, 1, 0, 5, 4])) 999 0 260 [.ref 105, .int (Int32.ofInt (54 : Nat)), .int (Int32.ofInt 4), .int (Int32.ofInt 2), .int (Int32.ofInt 4), .int (Int32.ofInt 6)] (zD 54 (zw [3, 5, 2, 0, -9, 1])) = true := by decide +kernel
theorem z_k21 : z_c (z_hop 30000 8 (z_S 54 4 2 (.int (Int32.ofInt 4)) (.int (Int32.ofInt 6)) [3, 5, 2, 0, -9, 1])) 999 0 260 [.ref 105, .int (Int32.ofInt (56 : Nat)), .int (Int32.ofInt 5), .int (Int32.ofInt 3), .int (Int32.ofInt 5), .int (Int32.ofInt 6)] (zD 56 (zw [4, 1, 2, 3, 0, -9])) = true := by decide +kernel
theorem z_k22 : z_c (z_hop 30000 8 (z_S 56 5 3 (.int (Int32.ofInt 5)) (.int (Int32.ofInt 6)) [4, 1, 2, 3, 0, -9])) 999 0 260 [.ref 105, .int (Int32.ofInt (60 : Nat)), .int (Int32.ofInt 3), .int (Int32.ofInt 3), .int (Int32.ofInt 6), .int (Int32.ofInt 6)] (zD 60 (zw [4, 1, 5, 3, 0, 2])) = true := by decide +kernel
theorem z_k23 : z_c (z_hop 30000 8 (z_S 60 3 3 (.int (Int32.ofInt 6)) (.int (Int32.ofInt 6)) [4, 1, 5, 3, 0, 2])) 999 0 260 [.ref 105, .int (Int32.ofInt (62 : Nat)), .int (Int32.ofInt 2), .int (Int32.ofInt 3), .int (Int32.ofInt 2), .int (Int32.ofInt 6)] (zD 62 (zw [4, 3, -9, 1, 0, -9])) = true := by decide +kernel
theorem z_k24 : z_c (z_hop 30000 8 (z_S 62 2 3 (.int (Int32.ofInt 2)) (.int (Int32.ofInt 6)) [4, 3, -9, 1, 0, -9])) 999 0 260 [.ref 105, .int (Int32.ofInt (65 : Nat)), .int (Int32.ofInt 2), .int (Int32.ofInt 6), .int (Int32.ofInt 3), .int (Int32.ofInt 6)] (zD 65 (zw [4, 5, 2, -9, 0, 1])) = true := by decide +kernel
theorem z_k25 : z_c (z_hop 30000 8 (z_S 65 2 6 (.int (Int32.ofInt 3)) (.int (Int32.ofInt 6)) [4, 5, 2, -9, 0, 1])) 999 0 260 [.ref 105, .int (Int32.ofInt (67 : Nat)), .int (Int32.ofInt 3), .int (Int32.ofInt 6), .int (Int32.ofInt 4), .int (Int32.ofInt 6)] (zD 67 (zw [5, 1, 2, 3, -9, 0])) = true := by decide +kernel
theorem z_k26 : z_c (z_hop 30000 8 (z_S 67 3 6 (.int (Int32.ofInt 4)) (.int (Int32.ofInt 6)) [5, 1, 2, 3, -9, 0])) 999 0 260 [.ref 105, .int (Int32.ofInt (70 : Nat)), .int (Int32.ofInt 1), .int (Int32.ofInt 6), .int (Int32.ofInt 4), .int (Int32.ofInt 6)] (zD 70 (zw [5, 1, -9, -9, -9, 0])) = true := by decide +kernel
theorem z_k27 : z_c (z_hop 30000 8 (z_S 70 1 6 (.int (Int32.ofInt 4)) (.int (Int32.ofInt 6)) [5, 1, -9, -9, -9, 0])) 999 0 260 [.ref 105, .int (Int32.ofInt (73 : Nat)), .int (Int32.ofInt 4), .int (Int32.ofInt 4), .int (Int32.ofInt 6), .int (Int32.ofInt 6)] (zD 73 (zw [5, 3, 2, 1, 4, 0])) = true := by decide +kernel
theorem z_k28 : z_c (z_hop 30000 8 (z_S 73 4 4 (.int (Int32.ofInt 6)) (.int (Int32.ofInt 6)) [5, 3, 2, 1, 4, 0])) 999 0 260 [.ref 105, .int (Int32.ofInt (76 : Nat)), .int (Int32.ofInt 1), .int (Int32.ofInt 6), .int (Int32.ofInt 3), .int (Int32.ofInt 6)] (zD 76 (zw [5, 4, -9, -9, 1, 0])) = true := by decide +kernel
theorem z_k29 : z_c (z_hop 30000 1 (z_S 76 1 6 (.int (Int32.ofInt 3)) (.int (Int32.ofInt 6)) [5, 4, -9, -9, 1, 0])) 999 0 260 [.ref 105, .int (Int32.ofInt (76 : Nat)), .int (Int32.ofInt (-1)), .int (Int32.ofInt 6), .int (Int32.ofInt 5), .int (Int32.ofInt 6)] (zD 76 (zw [-9, -9, -9, -9, -9, -9])) = true := by decide +kernel
theorem z_last : z_is (am_ex 1000 (z_S 76 (-1) 6 (.int (Int32.ofInt 5)) (.int (Int32.ofInt 6)) [-9, -9, -9, -9, -9, -9])) (zD 76 (zw [0, 1, 2, 3, 4, 5])) = true := by decide +kernel
theorem z_run0 : am_rn (999, 0, 0, am_lo 0 [.ref 105], [], (300, []) :: (zB ++ [(11, am_blank.getD 11 [])])) = some (none, zD 76 (zw [0, 1, 2, 3, 4, 5])) := by
  rw [z_step z_first, show am_rn (z_S 0 0 6 .null .null [-9, -9, -9, -9, -9, -9]) = _ from z_step z_k0, show am_rn (z_S 2 3 6 (.int (Int32.ofInt 5)) (.int (Int32.ofInt 6)) [0, 1, 2, 3, -9, -9]) = _ from z_step z_k1, show am_rn (z_S 4 5 4 (.int (Int32.ofInt 5)) (.int (Int32.ofInt 6)) [0, 1, 3, 2, 4, -9]) = _ from z_step z_k2, show am_rn (z_S 8 3 5 (.int (Int32.ofInt 6)) (.int (Int32.ofInt 6)) [0, 1, 4, 5, 2, 3]) = _ from z_step z_k3, show am_rn (z_S 10 3 2 (.int (Int32.ofInt 3)) (.int (Int32.ofInt 6)) [0, 2, 1, -9, -9, -9]) = _ from z_step z_k4, show am_rn (z_S 13 3 6 (.int (Int32.ofInt 5)) (.int (Int32.ofInt 6)) [0, 2, 1, 4, 3, -9]) = _ from z_step z_k5, show am_rn (z_S 15 4 6 (.int (Int32.ofInt 5)) (.int (Int32.ofInt 6)) [0, 3, 2, 1, 4, -9]) = _ from z_step z_k6, show am_rn (z_S 18 1 6 (.int (Int32.ofInt 5)) (.int (Int32.ofInt 6)) [0, 3, -9, 1, -9, -9]) = _ from z_step z_k7, show am_rn (z_S 21 5 5 (.int (Int32.ofInt 6)) (.int (Int32.ofInt 6)) [0, 4, 3, 2, 1, 5]) = _ from z_step z_k8, show am_rn (z_S 23 4 4 (.int (Int32.ofInt 6)) (.int (Int32.ofInt 6)) [0, 5, 2, 3, 4, 1]) = _ from z_step z_k9, show am_rn (z_S 26 2 6 (.int (Int32.ofInt 3)) (.int (Int32.ofInt 6)) [0, 5, 4, -9, 2, 1]) = _ from z_step z_k10, show am_rn (z_S 28 4 5 (.int (Int32.ofInt 6)) (.int (Int32.ofInt 6)) [1, 0, 2, 3, 5, 4]) = _ from z_step z_k11, show am_rn (z_S 30 4 3 (.int (Int32.ofInt 4)) (.int (Int32.ofInt 6)) [1, 0, 3, 2, -9, -9]) = _ from z_step z_k12, show am_rn (z_S 33 3 6 (.int (Int32.ofInt 5)) (.int (Int32.ofInt 6)) [1, 0, 4, 3, 2, -9]) = _ from z_step z_k13, show am_rn (z_S 36 0 6 (.int (Int32.ofInt 5)) (.int (Int32.ofInt 6)) [1, 0, -9, -9, -9, -9]) = _ from z_step z_k14, show am_rn (z_S 38 5 4 (.int (Int32.ofInt 5)) (.int (Int32.ofInt 6)) [2, 1, 0, 4, 3, -9]) = _ from z_step z_k15, show am_rn (z_S 41 5 5 (.int (Int32.ofInt 6)) (.int (Int32.ofInt 6)) [2, 3, 0, 1, 4, 5]) = _ from z_step z_k16, show am_rn (z_S 44 1 6 (.int (Int32.ofInt 5)) (.int (Int32.ofInt 6)) [2, 4, 0, -9, 1, -9]) = _ from z_step z_k17, show am_rn (z_S 46 2 1 (.int (Int32.ofInt 2)) (.int (Int32.ofInt 6)) [3, 1, -9, 0, -9, -9]) = _ from z_step z_k18, show am_rn (z_S 49 2 6 (.int (Int32.ofInt 5)) (.int (Int32.ofInt 6)) [3, 1, 4, 0, 2, -9]) = _ from z_step z_k19, show am_rn (z_S 52 4 5 (.int (Int32.ofInt 6)) (.int (Int32.ofInt 6)) [3, 2, 1, 0, 5, 4]) = _ from z_step z_k20, show am_rn (z_S 54 4 2 (.int (Int32.ofInt 4)) (.int (Int32.ofInt 6)) [3, 5, 2, 0, -9, 1]) = _ from z_step z_k21, show am_rn (z_S 56 5 3 (.int (Int32.ofInt 5)) (.int (Int32.ofInt 6)) [4, 1, 2, 3, 0, -9]) = _ from z_step z_k22, show am_rn (z_S 60 3 3 (.int (Int32.ofInt 6)) (.int (Int32.ofInt 6)) [4, 1, 5, 3, 0, 2]) = _ from z_step z_k23, show am_rn (z_S 62 2 3 (.int (Int32.ofInt 2)) (.int (Int32.ofInt 6)) [4, 3, -9, 1, 0, -9]) = _ from z_step z_k24, show am_rn (z_S 65 2 6 (.int (Int32.ofInt 3)) (.int (Int32.ofInt 6)) [4, 5, 2, -9, 0, 1]) = _ from z_step z_k25, show am_rn (z_S 67 3 6 (.int (Int32.ofInt 4)) (.int (Int32.ofInt 6)) [5, 1, 2, 3, -9, 0]) = _ from z_step z_k26, show am_rn (z_S 70 1 6 (.int (Int32.ofInt 4)) (.int (Int32.ofInt 6)) [5, 1, -9, -9, -9, 0]) = _ from z_step z_k27, show am_rn (z_S 73 4 4 (.int (Int32.ofInt 6)) (.int (Int32.ofInt 6)) [5, 3, 2, 1, 4, 0]) = _ from z_step z_k28, show am_rn (z_S 76 1 6 (.int (Int32.ofInt 3)) (.int (Int32.ofInt 6)) [5, 4, -9, -9, 1, 0]) = _ from z_step z_k29]
  exact (am_rn_iff _ _).mpr ⟨1000, z_is_eq z_last⟩
