def byX (v : Int64) (k : Nat) : Int32 := ((v.toUInt64 >>> ((Int32.ofInt (8 * (k : Int))).toInt64.toUInt64 &&& Int64.toUInt64 63)).toInt64).toInt32 &&& Int32.ofInt 255
def byt (v : Int64) (k : Nat) : Int := (byX v k).toInt
theorem byt_of (v : Int64) (k : Nat) : Int32.ofInt (byt v k) = byX v k := Int32.ofInt_toInt _
theorem and255 (x : Int32) : 0 ≤ (x &&& Int32.ofInt 255).toInt ∧ (x &&& Int32.ofInt 255).toInt ≤ 255 := by
  have h : (x &&& Int32.ofInt 255).toBitVec.toNat ≤ 255 := by
    show (x.toBitVec &&& (255#32)).toNat ≤ 255
    rw [BitVec.toNat_and]
    exact Nat.and_le_right
  have e : (x &&& Int32.ofInt 255).toInt = (x &&& Int32.ofInt 255).toBitVec.toInt := rfl
  rw [e, BitVec.toInt_eq_toNat_cond]
  split <;> omega
theorem byt_rng (v : Int64) (k : Nat) : 0 ≤ byt v k ∧ byt v k ≤ 255 := and255 _
theorem byS_bv (x : BitVec 64) (n : Nat) (hn : n + 8 ≤ 64) : (x.sshiftRight n).setWidth 32 &&& 255#32 = (x >>> n).setWidth 32 &&& 255#32 := by
  apply BitVec.eq_of_getLsbD_eq
  intro i hi
  have h255 : ∀ i : Fin 32, 8 ≤ (i : Nat) → (255#32).getLsbD (i : Nat) = false := by decide +kernel
  rw [BitVec.getLsbD_and, BitVec.getLsbD_and]
  by_cases h8 : i < 8
  · rw [BitVec.getLsbD_setWidth, BitVec.getLsbD_setWidth, BitVec.getLsbD_sshiftRight, BitVec.getLsbD_ushiftRight]
    have e1 : decide (64 ≤ i) = false := by rw [decide_eq_false_iff_not]; omega
    rw [e1, if_pos (by omega)]
    rfl
  · rw [h255 ⟨i, hi⟩ (by show 8 ≤ i; omega), Bool.and_false, Bool.and_false]
