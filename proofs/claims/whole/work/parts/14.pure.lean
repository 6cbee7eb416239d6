theorem i_add (a b : Int) : Int32.ofInt a + Int32.ofInt b = Int32.ofInt (a + b) := (Int32.ofInt_add a b).symm
theorem i_sub (a b : Int) : Int32.ofInt a - Int32.ofInt b = Int32.ofInt (a - b) := (Int32.ofInt_sub a b).symm
theorem i_mul (a b : Int) : Int32.ofInt a * Int32.ofInt b = Int32.ofInt (a * b) := (Int32.ofInt_mul a b).symm
theorem i_val {a : Int} (h1 : -2147483648 ≤ a) (h2 : a ≤ 2147483647) : (Int32.ofInt a).toInt = a := by
  rw [Int32.toInt_ofInt]
  show a.bmod 4294967296 = a
  rw [Int.bmod_eq_of_le (by omega) (by omega)]
theorem i_lt {a b : Int} (h1 : -2147483648 ≤ a) (h2 : a ≤ 2147483647) (h3 : -2147483648 ≤ b) (h4 : b ≤ 2147483647) : (Int32.ofInt a < Int32.ofInt b) = (a < b) := by
  rw [Int32.lt_iff_toInt_lt, i_val h1 h2, i_val h3 h4]
theorem i_le {a b : Int} (h1 : -2147483648 ≤ a) (h2 : a ≤ 2147483647) (h3 : -2147483648 ≤ b) (h4 : b ≤ 2147483647) : (Int32.ofInt a ≤ Int32.ofInt b) = (a ≤ b) := by
  rw [Int32.le_iff_toInt_le, i_val h1 h2, i_val h3 h4]
theorem i_eq {a b : Int} (h1 : -2147483648 ≤ a) (h2 : a ≤ 2147483647) (h3 : -2147483648 ≤ b) (h4 : b ≤ 2147483647) : (Int32.ofInt a = Int32.ofInt b) = (a = b) := by
  apply propext
  constructor
  · intro h
    rw [← i_val h1 h2, ← i_val h3 h4, h]
  · intro h; rw [h]
theorem i_zero : (0 : Int32) = Int32.ofInt 0 := rfl
theorem i_nat {a : Int} (h1 : 0 ≤ a) (h2 : a ≤ 2147483647) : (Int32.ofInt a).toNatClampNeg = a.toNat := by
  show (Int32.ofInt a).toInt.toNat = a.toNat
  rw [i_val (by omega) h2]
/-- a row of ints; an object by its fields -/
def ar (n : Nat) (f : Nat → Int) : Nat × List Value := (100, (List.range n).map fun j => .int (Int32.ofInt (f j)))
def ob (x n : Nat) (g : Nat → Value) : Nat × List Value := (x, (List.range n).map g)
def up {α : Type} (f : Nat → α) (k : Nat) (v : α) : Nat → α := fun j => if j = k then v else f j
theorem up_at {α : Type} (f : Nat → α) (k : Nat) (v : α) : up f k v k = v := by simp [up]
theorem up_ne {α : Type} (f : Nat → α) {j k : Nat} (v : α) (h : ¬ j = k) : up f k v j = f j := by simp [up, h]
theorem range_set {α : Type} (n : Nat) (g : Nat → α) (k : Nat) (v : α) : ((List.range n).map g).set k v = (List.range n).map (up g k v) := by
  apply List.ext_getElem?
  intro i
  by_cases hk : i = k
  · subst hk
    by_cases hi : i < n
    · simp [hi, up]
    · simp [hi]
  · rw [List.getElem?_set_ne (fun q => hk q.symm)]
    by_cases hi : i < n
    · simp [hi, up, hk]
    · simp [hi]
def am_gc (x y : Nat) (c : Nat × List Value) : Option Value := if c.1 = x then c.2[y]? else none
def am_pc (x y : Nat) (c : Nat × List Value) (v : Value) : Option (Nat × List Value) := if c.1 = x ∧ y < c.2.length then some (x, c.2.set y v) else none
def am_rc2 (t : Nat) (c : Nat × List Value) (i : Int32) : Option Value := if c.1 = t ∧ ¬ i < 0 then c.2[i.toNatClampNeg]? else none
def am_wc (t : Nat) (c : Nat × List Value) (i : Int32) (v : Value) : Option (Nat × List Value) := if c.1 = t ∧ ¬ i < 0 ∧ i.toNatClampNeg < c.2.length then some (t, c.2.set i.toNatClampNeg v) else none
def am_bc (A : am_H) (a : Nat) (o : Option (Nat × List Value)) (k : am_H → am_R) : am_R := match o with
  | none => none
  | some c => k (am_p A a c)
theorem am_bc_some (A : am_H) (a : Nat) (c : Nat × List Value) (k : am_H → am_R) : am_bc A a (some c) k = k (am_p A a c) := rfl
theorem am_gf_c (x y : Nat) (A : am_H) (a : Nat) : am_gf x y A a = am_gc x y (am_g A a) := rfl
theorem am_rd_c (t : Nat) (A : am_H) (a : Nat) (i : Int32) : am_rd t A a i = am_rc2 t (am_g A a) i := rfl
theorem am_bh_pf (x y : Nat) (A : am_H) (a : Nat) (v : Value) (k : am_H → am_R) : am_bh (am_pf x y A a v) k = am_bc A a (am_pc x y (am_g A a) v) k := by
  unfold am_pf am_pc
  split <;> rfl
theorem am_bh_wr (t : Nat) (A : am_H) (a : Nat) (i : Int32) (v : Value) (k : am_H → am_R) : am_bh (am_wr t A a i v) k = am_bc A a (am_wc t (am_g A a) i v) k := by
  unfold am_wr am_wc
  split <;> rfl
theorem ob_get {x n y : Nat} (g : Nat → Value) (h : y < n) : am_gc x y (ob x n g) = some (g y) := by simp [am_gc, ob, h]
theorem ob_put {x n y : Nat} (g : Nat → Value) (v : Value) (h : y < n) : am_pc x y (ob x n g) v = some (ob x n (up g y v)) := by simp [am_pc, ob, h, range_set]
theorem ar_get {n : Nat} {i : Int} (f : Nat → Int) (h0 : 0 ≤ i) (h1 : i < n) (h2 : i ≤ 2147483647) : am_rc2 100 (ar n f) (Int32.ofInt i) = some (.int (Int32.ofInt (f i.toNat))) := by
  have e1 : ¬ (Int32.ofInt i < 0) := by rw [i_zero, i_lt (by omega) h2 (by decide) (by decide)]; omega
  have e2 : i.toNat < n := by omega
  simp [am_rc2, ar, e1, i_nat h0 h2, e2]
theorem up_map (f : Nat → Int) (k : Nat) (v : Int) : up (fun j => Value.int (Int32.ofInt (f j))) k (.int (Int32.ofInt v)) = fun j => Value.int (Int32.ofInt (up f k v j)) := by
  funext j
  unfold up
  split <;> rfl
theorem ar_put {n : Nat} {i : Int} (f : Nat → Int) (v : Int) (h0 : 0 ≤ i) (h1 : i < n) (h2 : i ≤ 2147483647) : am_wc 100 (ar n f) (Int32.ofInt i) (.int (Int32.ofInt v)) = some (ar n (up f i.toNat v)) := by
  have e1 : ¬ (Int32.ofInt i < 0) := by rw [i_zero, i_lt (by omega) h2 (by decide) (by decide)]; omega
  have e2 : i.toNat < n := by omega
  simp [am_wc, ar, e1, i_nat h0 h2, e2, range_set, up_map]
theorem ob_tag (x n : Nat) (g : Nat → Value) : (ob x n g).1 = x := rfl
theorem ar_tag (n : Nat) (f : Nat → Int) : (ar n f).1 = 100 := rfl
theorem le_t {a b : Int} (h : a ≤ b) : (a ≤ b) = True := eq_true h
theorem le_f {a b : Int} (h : ¬ a ≤ b) : (a ≤ b) = False := eq_false h
theorem lt_t {a b : Int} (h : a < b) : (a < b) = True := eq_true h
theorem lt_f {a b : Int} (h : ¬ a < b) : (a < b) = False := eq_false h
theorem eq_t {a b : Int} (h : a = b) : (a = b) = True := eq_true h
theorem eq_f {a b : Int} (h : ¬ a = b) : (a = b) = False := eq_false h
theorem nq_t {a b : Nat} (h : a = b) : (a = b) = True := eq_true h
theorem nq_f {a b : Nat} (h : ¬ a = b) : (a = b) = False := eq_false h
theorem nl_t {a b : Nat} (h : a < b) : (a < b) = True := eq_true h
theorem nl_f {a b : Nat} (h : ¬ a < b) : (a < b) = False := eq_false h
