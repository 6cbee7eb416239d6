theorem z_rn (k0 : Nat × List Value) {d M pc : Nat} {ls st : List Value} {B B' : am_H} {r : Option Value} (h : am_rn (d, M, pc, ls, st, (300, []) :: B) = some (r, (300, []) :: B')) : am_rn (d, M, pc, ls, st, k0 :: B) = some (r, k0 :: B') := by
  obtain ⟨n, hn⟩ := (am_rn_iff _ _).mp h
  obtain ⟨B1, e1, e2⟩ := z_ex k0 n _ _ _ _ _ _ _ _ hn
  have e3 : B' = B1 := (List.cons.inj e1).2
  rw [e3]
  exact (am_rn_iff _ _).mpr ⟨n, e2⟩
theorem c70_run (k0 : Nat × List Value) : am_call 999 70 [.ref 1] [k0, (10, am_blank.getD 10 [])] = some (none, k0 :: zB) := by
  rw [c70]
  exact z_rn k0 ((am_rn_iff _ _).mpr ⟨20000, z_is_eq z_run70⟩)
def zA (k0 : Nat × List Value) : am_H := k0 :: (zB ++ zC 76 (zw [0, 1, 2, 3, 4, 5]))
theorem c0_run (k0 : Nat × List Value) : am_call 999 0 [.ref 105] (k0 :: (zB ++ [(11, am_blank.getD 11 [])])) = some (none, zA k0) := by
  rw [c0]
  exact z_rn k0 z_run0
theorem zB_len : zB.length = 104 := by decide +kernel
theorem lw_start (k0 : Nat × List Value) : am_run 1000 169 0 [.ref 0, .null, .null, .null] [] [k0] = am_run 1000 169 18 [.ref 0, .ref 1, .ref 105, .int (Int32.ofInt 0)] [] (zA k0) := by
  have a1 : am_run 1000 169 0 [.ref 0, .null, .null, .null] [] [k0] = am_run 1000 169 4 [.ref 0, .null, .null, .null] [.ref 1, .ref 1] [k0, (10, am_blank.getD 10 [])] := (s169_0 1000 [k0] 0).trans (s169_3 1000 [k0, (10, am_blank.getD 10 [])] 0 1)
  have a2 := s169_4 999 [k0, (10, am_blank.getD 10 [])] 0 1 1
  rw [c70_run k0, am_bq_some] at a2
  have a3 := s169_7 1000 (k0 :: zB) 0 1
  have a4 := s169_8 1000 (k0 :: zB) 0 1
  rw [List.length_cons, zB_len, List.cons_append, s169_11] at a4
  have a5 := s169_12 999 (k0 :: (zB ++ [(11, am_blank.getD 11 [])])) 0 1 105 105
  rw [c0_run k0, am_bq_some] at a5
  have a6 := s169_15 1000 (zA k0) 0 1 105
  have a7 := s169_16 1000 (zA k0) 0 1 105
  have a8 := s169_17 1000 (zA k0) 0 1 105 (Int32.ofInt 0)
  exact a1.trans (a2.trans (a3.trans (a4.trans (a5.trans (a6.trans (a7.trans a8))))))
theorem S0_z (a : Nat) (h : a ≠ 1) : S0 a = zf := by
  funext b
  simp [S0, zf, h]
theorem z_RS (x y z : Nat) (hx : x ≠ 1) (hy : y ≠ 1) (hz : z ≠ 1) : RS S0 0 x y z := by
  have e3 : S0 1 3 = 0 := rfl
  refine ⟨fun p _ => ?_, fun p hp => ?_, fun p _ => ?_, fun p _ => ?_⟩
  · rw [S0_z x hx]; show (0 : Int) ≤ 0 ∧ (0 : Int) ≤ 5; decide
  · rw [e3] at hp; omega
  · rw [S0_z y hy]; show (0 : Int) ≤ 0 ∧ (0 : Int) ≤ 243 * ((0 : Nat) : Int); decide
  · rw [S0_z z hz]; show (0 : Int) ≤ 0 ∧ (0 : Int) ≤ 9; decide
theorem z_RR : RR S0 0 := by
  refine ⟨⟨by decide, by decide, by decide, by decide, by decide, by decide, by decide, by decide, by decide, fun j => ?_, fun k hk => ?_, fun p hp => ?_, fun i j _ hj => ?_⟩, z_RS 8 9 10 (by decide) (by decide) (by decide), fun j hj => ?_, fun h => ?_, fun h => ?_, fun j _ => ?_, by decide⟩
  · rw [S0_z 0 (by decide)]; show (0 : Int) ≤ 0 ∧ (0 : Int) ≤ 255; decide
  · have e : S0 1 2 = 0 := rfl
    omega
  · have e : S0 1 3 = 0 := rfl
    omega
  · have e : S0 1 2 = 0 := rfl
    omega
  · have e : S0 1 5 = 0 := rfl
    omega
  · have e : S0 1 7 = 0 := rfl
    omega
  · have e : S0 1 8 = 0 := rfl
    omega
  · rw [S0_z 11 (by decide), S0_z 12 (by decide), S0_z 13 (by decide)]
    show (0 : Int) ≤ 0 ∧ (0 : Int) ≤ 5 ∧ (0 : Int) ≤ 0 ∧ (0 : Int) ≤ 5 ∧ ((0 : Int) = 0 ∨ (0 : Int) = 1)
    decide
theorem z_XI (k0 : Nat × List Value) : XI (zA k0) S0 0 := by
  refine ⟨4, 13, fun j => j, zf, ⟨rfl, Or.inl ⟨rfl, rfl⟩, rfl, ?_⟩, ⟨⟨0, 0, rfl⟩, ?_, ?_, ?_, ?_, ⟨zf, rfl⟩, ?_, ?_, rfl⟩, fun a b _ _ h => absurd h (by decide), ⟨⟨2, 0, 0, 0, 0, 0, rfl⟩, ⟨zf, rfl⟩, ⟨zf, rfl⟩, ⟨zf, rfl⟩, ⟨zf, rfl⟩, ⟨zf, rfl⟩, ⟨zf, rfl⟩, ⟨zf, rfl⟩, ⟨zf, rfl⟩⟩, ⟨rfl, ?_, ?_, ?_⟩, ⟨rfl, rfl, fun j hj => hj, fun i j _ _ h => h, fun j hj => ?_⟩, ⟨rfl, rfl, rfl, ?_, ?_, ?_, rfl, rfl, ?_, ?_, ?_⟩, ⟨rfl, ⟨zf, rfl⟩, ⟨zf, rfl⟩, ⟨zf, rfl⟩⟩, ⟨⟨0, 0, 0, 0, rfl⟩, ⟨zf, rfl⟩, ⟨zf, rfl⟩, ⟨zf, rfl⟩⟩, ⟨rfl, ⟨zf, rfl⟩, ⟨zf, rfl⟩⟩, ⟨rfl, ?_, ?_, ?_⟩, ⟨rfl, ⟨fun _ => 0, rfl⟩, ⟨fun _ => 0, rfl⟩⟩⟩
  rotate_left 10
  · rw [S0_z (20 + 3 * j) (by omega), S0_z (21 + 3 * j) (by omega), S0_z (22 + 3 * j) (by omega)]
    have hj' : j = 0 ∨ j = 1 ∨ j = 2 ∨ j = 3 ∨ j = 4 ∨ j = 5 ∨ j = 6 ∨ j = 7 ∨ j = 8 ∨ j = 9 ∨ j = 10 ∨ j = 11 := by omega
    rcases hj' with rfl | rfl | rfl | rfl | rfl | rfl | rfl | rfl | rfl | rfl | rfl | rfl <;> exact ⟨rfl, rfl, rfl, rfl⟩
  all_goals (rw [S0_z _ (by decide)]; rfl)
theorem zQ_76 : zQ 76 = ar 456 mtF := ar_ext (fun j hj => if_pos (by omega))
theorem z_MI (k0 : Nat × List Value) : MI (zA k0) S0 0 mtF := by
  have e2 : S0 1 2 = 0 := rfl
  have e3 : S0 1 3 = 0 := rfl
  refine ⟨zN, zf, zf, zf, zf, zf, zf, zf, zf, ⟨rfl, rfl, rfl, rfl, rfl, rfl, rfl, rfl, ?_⟩, ⟨rfl, rfl, rfl, rfl, rfl, rfl, fun k hk => ?_, fun p hp => ?_⟩, ⟨?_, ?_, ?_⟩, ⟨⟨zf, rfl⟩, ⟨zf, rfl⟩, ⟨zf, rfl⟩, ⟨zf, rfl⟩, ⟨zf, rfl⟩, ⟨zf, rfl⟩, ⟨zf, rfl⟩⟩, ⟨rfl, fun j p _ _ => ?_⟩, ⟨rfl, fun p _ => ?_, ?_⟩, ⟨zQ_76, ⟨zf, rfl⟩, ⟨zf, rfl⟩, ⟨fun j => (j : Int), rfl⟩, ⟨zf, rfl⟩⟩, ⟨?_, ?_, ?_⟩⟩
  · rw [S0_z _ (by decide)]; rfl
  · omega
  · omega
  · rw [S0_z _ (by decide)]; rfl
  · rw [S0_z _ (by decide)]; rfl
  · rw [S0_z _ (by decide)]; rfl
  · rw [S0_z (20 + 3 * j) (by omega), S0_z (21 + 3 * j) (by omega), S0_z (22 + 3 * j) (by omega)]; exact ⟨rfl, rfl, rfl⟩
  · rw [S0_z 14 (by decide), S0_z 15 (by decide), S0_z 16 (by decide), S0_z 17 (by decide), S0_z 18 (by decide), S0_z 19 (by decide)]; exact ⟨rfl, rfl, rfl, rfl, rfl, rfl⟩
  · show az 2 zf = _
    exact az_ext (fun j hj => by
      have hj' : j = 0 ∨ j = 1 := by omega
      rcases hj' with rfl | rfl <;> rfl)
  · rw [S0_z _ (by decide)]; rfl
  · rw [S0_z _ (by decide)]; rfl
  · rw [S0_z _ (by decide)]; rfl
theorem zB_sz : am_sz (zB ++ zC 76 (zw [0, 1, 2, 3, 4, 5])) ≤ 100000 := by decide +kernel
theorem am_law : am_LAW := by
  intro L xs hL
  have hs : ((200, (List.range L).map fun j => .int (xs j)) : Nat × List Value) = sc L (fun k => (xs k).toInt) := by
    unfold sc
    congr 1
    apply List.map_congr_left
    intro j _
    rw [Int32.ofInt_toInt]
  rw [hs]
  have hy : ∀ k, -2147483648 ≤ (xs k).toInt ∧ (xs k).toInt ≤ 2147483647 := fun k => by
    have h1 := Int32.le_toInt (xs k)
    have h2 := Int32.toInt_lt (xs k)
    omega
  obtain ⟨A', r1, r2, r3⟩ := lw_loop 979 L (fun k => (xs k).toInt) hy hL 512 0 (zA (sc L (fun k => (xs k).toInt))) S0 0 rfl (z_XI _) (z_MI _) z_RR rfl
  refine ⟨A', ?_, ?_, ?_⟩
  · rw [lw_start]
    exact r1
  · rw [r2]
    unfold zA
    rw [List.length_cons, List.length_append, zB_len, show (zC 76 (zw [0, 1, 2, 3, 4, 5])).length = 29 from rfl]
    decide
  · rw [r3]
    have e1 : am_sz (zA (sc L (fun k => (xs k).toInt))) = L + am_sz (zB ++ zC 76 (zw [0, 1, 2, 3, 4, 5])) := by
      simp [am_sz, zA, sc]
    rw [e1]
    have e2 := zB_sz
    omega
