def az (n : Nat) (f : Nat → Int) : Nat × List Value := (102, (List.range n).map fun j => .int (Int32.ofInt (f j)))
def al (n : Nat) (f : Nat → Int64) : Nat × List Value := (101, (List.range n).map fun j => .long (f j))
theorem az_tag (n : Nat) (f : Nat → Int) : (az n f).1 = 102 := rfl
theorem al_tag (n : Nat) (f : Nat → Int64) : (al n f).1 = 101 := rfl
theorem ar_ext {n : Nat} {f g : Nat → Int} (h : ∀ j, j < n → f j = g j) : ar n f = ar n g := by
  unfold ar
  congr 1
  apply List.map_congr_left
  intro j hj
  rw [h j (List.mem_range.mp hj)]
theorem az_ext {n : Nat} {f g : Nat → Int} (h : ∀ j, j < n → f j = g j) : az n f = az n g := by
  unfold az
  congr 1
  apply List.map_congr_left
  intro j hj
  rw [h j (List.mem_range.mp hj)]
theorem az_get {n : Nat} {i : Int} (f : Nat → Int) (h0 : 0 ≤ i) (h1 : i < n) (h2 : i ≤ 2147483647) : am_rc2 102 (az n f) (Int32.ofInt i) = some (.int (Int32.ofInt (f i.toNat))) := by
  have e1 : ¬ (Int32.ofInt i < 0) := by rw [i_zero, i_lt (by omega) h2 (by decide) (by decide)]; omega
  have e2 : i.toNat < n := by omega
  simp [am_rc2, az, e1, i_nat h0 h2, e2]
theorem az_put {n : Nat} {i : Int} (f : Nat → Int) (v : Int) (h0 : 0 ≤ i) (h1 : i < n) (h2 : i ≤ 2147483647) : am_wc 102 (az n f) (Int32.ofInt i) (.int (Int32.ofInt v)) = some (az n (up f i.toNat v)) := by
  have e1 : ¬ (Int32.ofInt i < 0) := by rw [i_zero, i_lt (by omega) h2 (by decide) (by decide)]; omega
  have e2 : i.toNat < n := by omega
  simp [am_wc, az, e1, i_nat h0 h2, e2, range_set, up_map]
theorem am_bh_wz (A : am_H) (a : Nat) (i : Int32) (v : Int) (k : am_H → am_R) (h : v = 0 ∨ v = 1) : am_bh (am_wz A a i (Int32.ofInt v)) k = am_bc A a (am_wc 102 (am_g A a) i (.int (Int32.ofInt v))) k := by
  have hf : fits .boolean (.int (Int32.ofInt v)) = true := by rcases h with rfl | rfl <;> rfl
  unfold am_wz
  rw [if_pos hf]
  exact am_bh_wr 102 A a i _ k
def aq (t n : Nat) (r : Nat → Nat) : Nat × List Value := (t, (List.range n).map fun j => .ref (r j))
theorem aq_tag (t n : Nat) (r : Nat → Nat) : (aq t n r).1 = t := rfl
theorem aq_ext {t n : Nat} {f g : Nat → Nat} (h : ∀ j, j < n → f j = g j) : aq t n f = aq t n g := by
  unfold aq
  congr 1
  apply List.map_congr_left
  intro j hj
  rw [h j (List.mem_range.mp hj)]
def am_rqc (c : Nat × List Value) (i : Int32) : Option Value := if c.1 = 103 ∨ c.1 = 104 then am_rc2 c.1 c i else none
theorem am_rq_c (A : am_H) (a : Nat) (i : Int32) : am_rq A a i = am_rqc (am_g A a) i := rfl
def am_wqc (c : Nat × List Value) (tv : Nat) (i : Int32) (v : Nat) : Option (Nat × List Value) := if (c.1 = 103 ∧ tv = 6) ∨ (c.1 = 104 ∧ tv = 5) then am_wc c.1 c i (.ref v) else none
theorem am_bh_wq (A : am_H) (a : Nat) (i : Int32) (v : Nat) (k : am_H → am_R) : am_bh (am_wq A a i v) k = am_bc A a (am_wqc (am_g A a) (am_g A v).1 i v) k := by
  unfold am_wq am_wqc
  split
  · exact am_bh_wr _ A a i _ k
  · rfl
theorem aq_get3 {n : Nat} {i : Int} (r : Nat → Nat) (h0 : 0 ≤ i) (h1 : i < n) (h2 : i ≤ 2147483647) : am_rqc (aq 103 n r) (Int32.ofInt i) = some (.ref (r i.toNat)) := by
  have e1 : ¬ (Int32.ofInt i < 0) := by rw [i_zero, i_lt (by omega) h2 (by decide) (by decide)]; omega
  have e2 : i.toNat < n := by omega
  simp [am_rqc, am_rc2, aq, e1, i_nat h0 h2, e2]
theorem aq_get4 {n : Nat} {i : Int} (r : Nat → Nat) (h0 : 0 ≤ i) (h1 : i < n) (h2 : i ≤ 2147483647) : am_rqc (aq 104 n r) (Int32.ofInt i) = some (.ref (r i.toNat)) := by
  have e1 : ¬ (Int32.ofInt i < 0) := by rw [i_zero, i_lt (by omega) h2 (by decide) (by decide)]; omega
  have e2 : i.toNat < n := by omega
  simp [am_rqc, am_rc2, aq, e1, i_nat h0 h2, e2]
theorem up_mapr (f : Nat → Nat) (k v : Nat) : up (fun j => Value.ref (f j)) k (.ref v) = fun j => Value.ref (up f k v j) := by
  funext j
  unfold up
  split <;> rfl
theorem aq_put3 {n : Nat} {i : Int} (r : Nat → Nat) (v : Nat) (h0 : 0 ≤ i) (h1 : i < n) (h2 : i ≤ 2147483647) : am_wqc (aq 103 n r) 6 (Int32.ofInt i) v = some (aq 103 n (up r i.toNat v)) := by
  have e1 : ¬ (Int32.ofInt i < 0) := by rw [i_zero, i_lt (by omega) h2 (by decide) (by decide)]; omega
  have e2 : i.toNat < n := by omega
  simp [am_wqc, am_wc, aq, e1, i_nat h0 h2, e2, range_set, up_mapr]
/-- the fields of the objects, by their places -/
def gX (t u : Nat) (sd : Int64) : Nat → Value := fun k => match k with
  | 0 => .ref 2
  | 1 => .ref t
  | 2 => .ref u
  | 3 => .ref 22
  | 4 => .ref 26
  | 5 => .ref 76
  | 6 => .ref 77
  | 7 => .ref 81
  | 8 => .ref 85
  | 9 => .ref 88
  | 10 => .ref 92
  | _ => .long sd
def gT (l : Int) : Nat → Value := fun k => match k with
  | 0 => .ref 3
  | _ => .int (Int32.ofInt l)
def gW (o : Nat) (n K P F kd fe : Int) : Nat → Value := fun k => match k with
  | 0 => .int (Int32.ofInt n)
  | 1 => .int (Int32.ofInt K)
  | 2 => .int (Int32.ofInt P)
  | 3 => .int (Int32.ofInt F)
  | 4 => .ref (o + 1)
  | 5 => .ref (o + 2)
  | 6 => .ref (o + 3)
  | 7 => .ref (o + 4)
  | 8 => .ref (o + 5)
  | 9 => .ref (o + 6)
  | 10 => .ref (o + 7)
  | 11 => .ref (o + 8)
  | 12 => .int (Int32.ofInt kd)
  | _ => .int (Int32.ofInt fe)
def gS (o : Nat) : Nat → Value := fun k => match k with
  | 0 => .ref (o + 1)
  | 1 => .ref (o + 2)
  | _ => .ref (o + 3)
def gA (c : Int) : Nat → Value := fun k => match k with
  | 0 => .ref 27
  | _ => .int (Int32.ofInt c)
def gL (o : Nat) (b : Int) : Nat → Value := fun k => match k with
  | 0 => .ref o
  | _ => .int (Int32.ofInt b)
def gM (c b p f : Int) : Nat → Value := fun k => match k with
  | 0 => .int (Int32.ofInt c)
  | 1 => .int (Int32.ofInt b)
  | 2 => .int (Int32.ofInt p)
  | 3 => .int (Int32.ofInt f)
  | 4 => .ref 82
  | 5 => .ref 83
  | _ => .ref 84
def gE (c : Int) : Nat → Value := fun k => match k with
  | 0 => .ref 89
  | 1 => .ref 90
  | 2 => .ref 91
  | _ => .int (Int32.ofInt c)
def gN (N : Nat → Int) (sd : Int64) : Nat → Value := fun k => match k with
  | 0 => .int (Int32.ofInt (N 0))
  | 1 => .ref 106
  | 2 => .int (Int32.ofInt (N 2))
  | 3 => .int (Int32.ofInt (N 3))
  | 4 => .int (Int32.ofInt (N 4))
  | 5 => .int (Int32.ofInt (N 5))
  | 6 => .ref 107
  | 7 => .ref 108
  | 8 => .ref 109
  | 9 => .ref 110
  | 10 => .int (Int32.ofInt (N 10))
  | 11 => .int (Int32.ofInt (N 11))
  | 12 => .ref 111
  | 13 => .ref 112
  | 14 => .ref 113
  | 15 => .ref 114
  | 16 => .ref 115
  | 17 => .int (Int32.ofInt (N 17))
  | 18 => .int (Int32.ofInt (N 18))
  | 19 => .ref 116
  | 20 => .ref 117
  | 21 => .ref 118
  | 22 => .ref 119
  | 23 => .int (Int32.ofInt (N 23))
  | 24 => .int (Int32.ofInt (N 24))
  | 25 => .ref 120
  | 26 => .ref 121
  | 27 => .ref 122
  | 28 => .ref 123
  | 29 => .int (Int32.ofInt (N 29))
  | 30 => .ref 124
  | 31 => .ref 125
  | 32 => .ref 126
  | 33 => .ref 127
  | 34 => .ref 128
  | 35 => .int (Int32.ofInt (N 35))
  | 36 => .int (Int32.ofInt (N 36))
  | 37 => .ref 129
  | 38 => .ref 130
  | 39 => .ref 131
  | 40 => .ref 132
  | 41 => .ref 133
  | _ => .long sd
theorem gN_0 (N : Nat → Int) (sd : Int64) (v : Int) : ob 11 43 (up (gN N sd) 0 (.int (Int32.ofInt v))) = ob 11 43 (gN (up N 0 v) sd) := rfl
theorem gN_2 (N : Nat → Int) (sd : Int64) (v : Int) : ob 11 43 (up (gN N sd) 2 (.int (Int32.ofInt v))) = ob 11 43 (gN (up N 2 v) sd) := rfl
theorem gN_3 (N : Nat → Int) (sd : Int64) (v : Int) : ob 11 43 (up (gN N sd) 3 (.int (Int32.ofInt v))) = ob 11 43 (gN (up N 3 v) sd) := rfl
theorem gN_4 (N : Nat → Int) (sd : Int64) (v : Int) : ob 11 43 (up (gN N sd) 4 (.int (Int32.ofInt v))) = ob 11 43 (gN (up N 4 v) sd) := rfl
theorem gN_5 (N : Nat → Int) (sd : Int64) (v : Int) : ob 11 43 (up (gN N sd) 5 (.int (Int32.ofInt v))) = ob 11 43 (gN (up N 5 v) sd) := rfl
theorem gN_10 (N : Nat → Int) (sd : Int64) (v : Int) : ob 11 43 (up (gN N sd) 10 (.int (Int32.ofInt v))) = ob 11 43 (gN (up N 10 v) sd) := rfl
theorem gN_11 (N : Nat → Int) (sd : Int64) (v : Int) : ob 11 43 (up (gN N sd) 11 (.int (Int32.ofInt v))) = ob 11 43 (gN (up N 11 v) sd) := rfl
theorem gN_17 (N : Nat → Int) (sd : Int64) (v : Int) : ob 11 43 (up (gN N sd) 17 (.int (Int32.ofInt v))) = ob 11 43 (gN (up N 17 v) sd) := rfl
theorem gN_18 (N : Nat → Int) (sd : Int64) (v : Int) : ob 11 43 (up (gN N sd) 18 (.int (Int32.ofInt v))) = ob 11 43 (gN (up N 18 v) sd) := rfl
theorem gN_23 (N : Nat → Int) (sd : Int64) (v : Int) : ob 11 43 (up (gN N sd) 23 (.int (Int32.ofInt v))) = ob 11 43 (gN (up N 23 v) sd) := rfl
theorem gN_24 (N : Nat → Int) (sd : Int64) (v : Int) : ob 11 43 (up (gN N sd) 24 (.int (Int32.ofInt v))) = ob 11 43 (gN (up N 24 v) sd) := rfl
theorem gN_29 (N : Nat → Int) (sd : Int64) (v : Int) : ob 11 43 (up (gN N sd) 29 (.int (Int32.ofInt v))) = ob 11 43 (gN (up N 29 v) sd) := rfl
theorem gN_35 (N : Nat → Int) (sd : Int64) (v : Int) : ob 11 43 (up (gN N sd) 35 (.int (Int32.ofInt v))) = ob 11 43 (gN (up N 35 v) sd) := rfl
theorem gN_36 (N : Nat → Int) (sd : Int64) (v : Int) : ob 11 43 (up (gN N sd) 36 (.int (Int32.ofInt v))) = ob 11 43 (gN (up N 36 v) sd) := rfl
theorem gN_42 (N : Nat → Int) (sd v : Int64) : ob 11 43 (up (gN N sd) 42 (.long v)) = ob 11 43 (gN N v) := rfl
theorem gX_11 (t u : Nat) (sd v : Int64) : ob 10 12 (up (gX t u sd) 11 (.long v)) = ob 10 12 (gX t u v) := rfl
theorem gX_1 (t u v : Nat) (sd : Int64) : ob 10 12 (up (gX t u sd) 1 (.ref v)) = ob 10 12 (gX v u sd) := rfl
theorem gX_2 (t u v : Nat) (sd : Int64) : ob 10 12 (up (gX t u sd) 2 (.ref v)) = ob 10 12 (gX t v sd) := rfl
theorem gT_1 (l v : Int) : ob 7 2 (up (gT l) 1 (.int (Int32.ofInt v))) = ob 7 2 (gT v) := rfl
theorem gW_0 (o : Nat) (n K P F kd fe v : Int) : ob 8 14 (up (gW o n K P F kd fe) 0 (.int (Int32.ofInt v))) = ob 8 14 (gW o v K P F kd fe) := rfl
theorem gW_1 (o : Nat) (n K P F kd fe v : Int) : ob 8 14 (up (gW o n K P F kd fe) 1 (.int (Int32.ofInt v))) = ob 8 14 (gW o n v P F kd fe) := rfl
theorem gW_2 (o : Nat) (n K P F kd fe v : Int) : ob 8 14 (up (gW o n K P F kd fe) 2 (.int (Int32.ofInt v))) = ob 8 14 (gW o n K v F kd fe) := rfl
theorem gW_3 (o : Nat) (n K P F kd fe v : Int) : ob 8 14 (up (gW o n K P F kd fe) 3 (.int (Int32.ofInt v))) = ob 8 14 (gW o n K P v kd fe) := rfl
theorem gW_12 (o : Nat) (n K P F kd fe v : Int) : ob 8 14 (up (gW o n K P F kd fe) 12 (.int (Int32.ofInt v))) = ob 8 14 (gW o n K P F v fe) := rfl
theorem gW_13 (o : Nat) (n K P F kd fe v : Int) : ob 8 14 (up (gW o n K P F kd fe) 13 (.int (Int32.ofInt v))) = ob 8 14 (gW o n K P F kd v) := rfl
theorem gA_1 (c v : Int) : ob 0 2 (up (gA c) 1 (.int (Int32.ofInt v))) = ob 0 2 (gA v) := rfl
theorem gL_1 (o : Nat) (c v : Int) : ob 5 2 (up (gL o c) 1 (.int (Int32.ofInt v))) = ob 5 2 (gL o v) := rfl
theorem gE_3 (c v : Int) : ob 4 4 (up (gE c) 3 (.int (Int32.ofInt v))) = ob 4 4 (gE v) := rfl
theorem gM_0 (c b p f v : Int) : ob 3 7 (up (gM c b p f) 0 (.int (Int32.ofInt v))) = ob 3 7 (gM v b p f) := rfl
theorem gM_1 (c b p f v : Int) : ob 3 7 (up (gM c b p f) 1 (.int (Int32.ofInt v))) = ob 3 7 (gM c v p f) := rfl
theorem gM_2 (c b p f v : Int) : ob 3 7 (up (gM c b p f) 2 (.int (Int32.ofInt v))) = ob 3 7 (gM c b v f) := rfl
theorem gM_3 (c b p f v : Int) : ob 3 7 (up (gM c b p f) 3 (.int (Int32.ofInt v))) = ob 3 7 (gM c b p v) := rfl
theorem am_p_p (A : am_H) (i : Nat) (c c' : Nat × List Value) : am_p (am_p A i c) i c' = am_p A i c' := by
  induction A generalizing i with
  | nil =>
    induction i with
    | zero => rfl
    | succ i ih => simp only [am_p]; rw [ih]
  | cons x t ih =>
    cases i with
    | zero => rfl
    | succ i => simp only [am_p]; rw [ih]
/-- the class' world -/
def XA (A : am_H) (S : Nat → Nat → Int) (sd : Int64) (t u : Nat) : Prop := am_g A 1 = ob 10 12 (gX t u sd) ∧ ((t = 4 ∧ u = 13) ∨ (t = 13 ∧ u = 4)) ∧ am_g A 2 = ob 7 2 (gT (S 1 0)) ∧ am_g A 3 = ar 80 (S 0)
def XT (A : am_H) (S : Nat → Nat → Int) (t : Nat) (ap : Nat → Int) : Prop := (∃ kd fe, am_g A t = ob 8 14 (gW t (S 1 1) (S 1 2) (S 1 3) (S 1 4) kd fe)) ∧ am_g A (t + 1) = ar 8 (S 2) ∧ am_g A (t + 2) = ar 8 (S 3) ∧ am_g A (t + 3) = ar 8 (S 4) ∧ am_g A (t + 4) = ar 8 (S 5) ∧ (∃ f, am_g A (t + 5) = ar 6 f) ∧ am_g A (t + 6) = ar 6 (S 6) ∧ am_g A (t + 7) = ar 6 (S 7) ∧ am_g A (t + 8) = ar 36 ap
def XU (A : am_H) (u : Nat) : Prop := (∃ a b c d kd fe, am_g A u = ob 8 14 (gW u a b c d kd fe)) ∧ (∃ f, am_g A (u + 1) = ar 8 f) ∧ (∃ f, am_g A (u + 2) = ar 8 f) ∧ (∃ f, am_g A (u + 3) = ar 8 f) ∧ (∃ f, am_g A (u + 4) = ar 8 f) ∧ (∃ f, am_g A (u + 5) = ar 6 f) ∧ (∃ f, am_g A (u + 6) = ar 6 f) ∧ (∃ f, am_g A (u + 7) = ar 6 f) ∧ (∃ f, am_g A (u + 8) = ar 36 f)
def XS (A : am_H) (S : Nat → Nat → Int) : Prop := am_g A 22 = ob 6 3 (gS 22) ∧ am_g A 23 = ar 6 (S 8) ∧ am_g A 24 = ar 6 (S 9) ∧ am_g A 25 = ar 6 (S 10)
def XB (A : am_H) (S : Nat → Nat → Int) (q : Nat → Nat) : Prop := am_g A 26 = ob 0 2 (gA (S 1 5)) ∧ am_g A 27 = aq 103 12 (fun j => 28 + 4 * q j) ∧ (∀ j, j < 12 → q j < 12) ∧ (∀ i j, i < 12 → j < 12 → q i = q j → i = j) ∧
  ∀ j, j < 12 → am_g A (28 + 4 * q j) = ob 6 3 (gS (28 + 4 * q j)) ∧ am_g A (28 + 4 * q j + 1) = ar 6 (S (20 + 3 * j)) ∧ am_g A (28 + 4 * q j + 2) = ar 6 (S (21 + 3 * j)) ∧ am_g A (28 + 4 * q j + 3) = ar 6 (S (22 + 3 * j))
def XK (A : am_H) (S : Nat → Nat → Int) : Prop := am_g A 76 = aq 104 2 (fun j => 95 + 5 * j) ∧ am_g A 95 = ob 5 2 (gL 96 (S 1 7)) ∧ am_g A 96 = ob 6 3 (gS 96) ∧ am_g A 97 = ar 6 (S 14) ∧ am_g A 98 = ar 6 (S 15) ∧ am_g A 99 = ar 6 (S 16) ∧ am_g A 100 = ob 5 2 (gL 101 (S 1 8)) ∧ am_g A 101 = ob 6 3 (gS 101) ∧ am_g A 102 = ar 6 (S 17) ∧ am_g A 103 = ar 6 (S 18) ∧ am_g A 104 = ar 6 (S 19)
def XE (A : am_H) : Prop := am_g A 77 = ob 2 3 (gS 77) ∧ (∃ f, am_g A 78 = ar 6 f) ∧ (∃ f, am_g A 79 = ar 6 f) ∧ (∃ f, am_g A 80 = ar 72 f)
def XM (A : am_H) : Prop := (∃ a b c d, am_g A 81 = ob 3 7 (gM a b c d)) ∧ (∃ f, am_g A 82 = ar 6 f) ∧ (∃ f, am_g A 83 = ar 204 f) ∧ (∃ f, am_g A 84 = ar 6 f)
def XQ (A : am_H) : Prop := am_g A 85 = ob 1 2 (gS 85) ∧ (∃ f, am_g A 86 = ar 6 f) ∧ (∃ f, am_g A 87 = ar 6 f)
def XN (A : am_H) (S : Nat → Nat → Int) : Prop := am_g A 88 = ob 4 4 (gE (S 1 6)) ∧ am_g A 89 = ar 8 (S 11) ∧ am_g A 90 = ar 8 (S 12) ∧ am_g A 91 = az 8 (S 13)
def XW (A : am_H) : Prop := am_g A 92 = ob 9 2 (gS 92) ∧ (∃ f, am_g A 93 = al 9 f) ∧ (∃ f, am_g A 94 = al 9 f)
/-- the reference's world -/
def MA (A : am_H) (S : Nat → Nat → Int) (sd : Int64) (N : Nat → Int) : Prop := am_g A 105 = ob 11 43 (gN N sd) ∧ N 2 = S 1 0 ∧ N 4 = S 1 1 ∧ N 5 = S 1 2 ∧ N 10 = S 1 3 ∧ N 11 = S 1 4 ∧ N 29 = S 1 5 ∧ N 36 = S 1 6 ∧ am_g A 106 = ar 80 (S 0)
def MT (A : am_H) (S : Nat → Nat → Int) (fr to fa be pa go : Nat → Int) : Prop := am_g A 107 = ar 8 fr ∧ am_g A 108 = ar 8 to ∧ am_g A 109 = ar 8 fa ∧ am_g A 110 = ar 8 be ∧ am_g A 111 = ar 6 pa ∧ am_g A 112 = ar 6 go ∧ (∀ k : Nat, (k : Int) < S 1 2 → fr k = S 2 k ∧ to k = S 3 k ∧ fa k = S 4 k ∧ be k = S 5 k) ∧ ∀ p : Nat, (p : Int) < S 1 3 → pa p = S 6 p ∧ go p = S 7 p
def MS (A : am_H) (S : Nat → Nat → Int) : Prop := am_g A 113 = ar 6 (S 8) ∧ am_g A 114 = ar 6 (S 9) ∧ am_g A 115 = ar 6 (S 10)
def MR (A : am_H) : Prop := (∃ f, am_g A 116 = ar 8 f) ∧ (∃ f, am_g A 117 = ar 8 f) ∧ (∃ f, am_g A 118 = ar 8 f) ∧ (∃ f, am_g A 119 = ar 8 f) ∧ (∃ f, am_g A 120 = ar 6 f) ∧ (∃ f, am_g A 121 = ar 6 f) ∧ (∃ f, am_g A 122 = ar 6 f)
def MB (A : am_H) (S : Nat → Nat → Int) (bk : Nat → Int) : Prop := am_g A 123 = ar 216 bk ∧ ∀ j p : Nat, j < 12 → p < 6 → bk (18 * j + p) = S (20 + 3 * j) p ∧ bk (18 * j + 6 + p) = S (21 + 3 * j) p ∧ bk (18 * j + 12 + p) = S (22 + 3 * j) p
def MK (A : am_H) (S : Nat → Nat → Int) (ke : Nat → Int) : Prop := am_g A 124 = ar 36 ke ∧ (∀ p : Nat, p < 6 → ke p = S 14 p ∧ ke (6 + p) = S 15 p ∧ ke (12 + p) = S 16 p ∧ ke (18 + p) = S 17 p ∧ ke (24 + p) = S 18 p ∧ ke (30 + p) = S 19 p) ∧ am_g A 125 = az 2 (fun s => S 1 (7 + s))
def MQ2 (A : am_H) (mt : Nat → Int) : Prop := am_g A 126 = ar 456 mt ∧ (∃ f, am_g A 127 = ar 36 f) ∧ (∃ f, am_g A 128 = ar 6 f) ∧ (∃ f, am_g A 132 = ar 6 f) ∧ (∃ f, am_g A 133 = ar 6 f)
def MN (A : am_H) (S : Nat → Nat → Int) : Prop := am_g A 129 = ar 8 (S 11) ∧ am_g A 130 = ar 8 (S 12) ∧ am_g A 131 = az 8 (S 13)
theorem fit_1 : fits .boolean (.int (Int32.ofInt 1)) = true := rfl
theorem fit_0 : fits .boolean (.int (Int32.ofInt 0)) = true := rfl
