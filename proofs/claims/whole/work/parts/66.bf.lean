def ind (z : Nat → Int) (x : Int) (i : Nat) : Nat := if z i < x then 1 else 0
theorem ind_1 {z : Nat → Int} {x : Int} {i : Nat} (h : z i < x) : ind z x i = 1 := if_pos h
theorem ind_0 {z : Nat → Int} {x : Int} {i : Nat} (h : ¬ z i < x) : ind z x i = 0 := if_neg h
theorem ind_le (z : Nat → Int) (x : Int) (i : Nat) : ind z x i ≤ 1 := by unfold ind; split <;> omega
/-- how many are nearer -/
def rk (z : Nat → Int) (x : Int) : Nat := ind z x 0 + ind z x 1 + ind z x 2 + ind z x 3 + ind z x 4 + ind z x 5
theorem rk_lt {z : Nat → Int} {u : Nat} {x : Int} (hu : u < 6) (h : z u < x) : rk z (z u) < rk z x := by
  have m : ∀ i, ind z (z u) i ≤ ind z x i := by
    intro i
    by_cases q : z i < z u
    · rw [ind_1 q, ind_1 (by omega)]; omega
    · rw [ind_0 q]; omega
  have s0 : ind z (z u) u = 0 := ind_0 (by omega)
  have s1 : ind z x u = 1 := ind_1 h
  have m0 := m 0
  have m1 := m 1
  have m2 := m 2
  have m3 := m 3
  have m4 := m 4
  have m5 := m 5
  unfold rk
  rcases (show u = 0 ∨ u = 1 ∨ u = 2 ∨ u = 3 ∨ u = 4 ∨ u = 5 by omega) with e | e | e | e | e | e <;> subst e <;> omega
theorem rk_le {z : Nat → Int} {n v : Nat} {x : Int} (hn : 1 ≤ n ∧ n ≤ 6) (hv : v < n) (h : ¬ z v < x) (hz : ∀ i, n ≤ i → ¬ z i < x) : rk z x ≤ n - 1 := by
  have s0 := ind_0 h
  have m0 := ind_le z x 0
  have m1 := ind_le z x 1
  have m2 := ind_le z x 2
  have m3 := ind_le z x 3
  have m4 := ind_le z x 4
  have m5 := ind_le z x 5
  have k : ∀ i, n ≤ i → ind z x i = 0 := fun i hi => ind_0 (hz i hi)
  have k1 := k 1
  have k2 := k 2
  have k3 := k 3
  have k4 := k 4
  have k5 := k 5
  unfold rk
  rcases (show v = 0 ∨ v = 1 ∨ v = 2 ∨ v = 3 ∨ v = 4 ∨ v = 5 by omega) with e | e | e | e | e | e <;> subst e <;> rcases (show n = 1 ∨ n = 2 ∨ n = 3 ∨ n = 4 ∨ n = 5 ∨ n = 6 by omega) with e | e | e | e | e | e <;> subst e <;> first | omega | (simp only [Nat.le_refl, Nat.reduceLeDiff, true_implies] at k1 k2 k3 k4 k5; omega)
def BFh (S : Nat → Nat → Int) (w : Nat → Int) (a : Nat) (z : Nat → Int) (Z : Int) : Prop := TW S ∧ (a : Int) < S 1 1 ∧ z a = 0 ∧ (∀ v, 0 ≤ z v ∧ z v ≤ Z) ∧ (∀ e : Nat, (e : Int) < S 1 2 → 1 ≤ w e ∧ w e ≤ 1000) ∧ (∀ e u v : Nat, (e : Int) < S 1 2 → ed S e u v → z v ≤ z u + w e) ∧ (∀ v, v ≠ a → z v < Z → ∃ e u : Nat, (e : Int) < S 1 2 ∧ ed S e u v ∧ z u + w e ≤ z v) ∧ ∀ v : Nat, v ≠ a → S 1 1 ≤ (v : Int) → z v = Z
def BFd (a : Nat) (z : Nat → Int) (Z : Int) (f : Nat → Int) : Prop := f a ≤ 0 ∧ ∀ v, v < 6 → z v ≤ f v ∧ f v ≤ Z
def Stl (z : Nat → Int) (r : Nat) (f : Nat → Int) : Prop := ∀ v, v < 6 → rk z (z v) ≤ r → f v ≤ z v
theorem Stl_0 {S : Nat → Nat → Int} {w : Nat → Int} {a : Nat} {z : Nat → Int} {Z : Int} {f : Nat → Int} (hB : BFh S w a z Z) (hd : BFd a z Z f) : Stl z 0 f := by
  obtain ⟨hT, ha, h0, h1, hw, h2, h3, h4⟩ := hB
  intro v hv hr
  have q1 := h1 v
  have q2 := hd.2 v hv
  by_cases c1 : v = a
  · subst c1; have := hd.1; omega
  · by_cases c2 : z v < Z
    · obtain ⟨e, u, k1, k2, k3⟩ := h3 v c1 c2
      have := hw e k1
      have l := ed_lt hT k1 k2
      have hn := hT.1
      have := rk_lt (z := z) (u := u) (x := z v) (by omega) (by omega)
      omega
    · omega
theorem Stl_s {S : Nat → Nat → Int} {w : Nat → Int} {a : Nat} {z : Nat → Int} {Z : Int} {f f' : Nat → Int} {r : Nat} (hB : BFh S w a z Z) (hd : BFd a z Z f) (hle : ∀ v, v < 6 → f' v ≤ f v) (hC : ∀ e u v : Nat, (e : Int) < S 1 2 → ed S e u v → f' v ≤ f u + w e) (hs : Stl z r f) : Stl z (r + 1) f' := by
  obtain ⟨hT, ha, h0, h1, hw, h2, h3, h4⟩ := hB
  intro v hv hr
  have q1 := h1 v
  have q2 := hd.2 v hv
  have q3 := hle v hv
  by_cases c1 : v = a
  · subst c1; have := hd.1; omega
  · by_cases c2 : z v < Z
    · obtain ⟨e, u, k1, k2, k3⟩ := h3 v c1 c2
      have := hw e k1
      have l := ed_lt hT k1 k2
      have hn := hT.1
      have := rk_lt (z := z) (u := u) (x := z v) (by omega) (by omega)
      have := hs u (by omega) (by omega)
      have := hC e u v k1 k2
      omega
    · omega
theorem Stl_end {S : Nat → Nat → Int} {w : Nat → Int} {a : Nat} {z : Nat → Int} {Z : Int} {f : Nat → Int} {r : Nat} (hB : BFh S w a z Z) (hd : BFd a z Z f) (hs : Stl z r f) (hr : S 1 1 - 1 ≤ (r : Int)) : ∀ v, v < 6 → f v = z v := by
  obtain ⟨hT, ha, h0, h1, hw, h2, h3, h4⟩ := hB
  intro v hv
  have q1 := h1 v
  have q2 := hd.2 v hv
  by_cases c2 : z v < Z
  · have hn := hT.1
    have hv' : (v : Int) < S 1 1 := by
      by_cases c1 : v = a
      · omega
      · by_cases c3 : S 1 1 ≤ (v : Int)
        · have := h4 v c1 c3; omega
        · omega
    have := rk_le (z := z) (n := (S 1 1).toNat) (v := v) (x := z v) (by omega) (by omega) (by omega) (fun i hi => by
      have := h4 i (by omega) (by omega)
      omega)
    have := hs v hv (by omega)
    omega
  · omega
theorem Stl_fix {S : Nat → Nat → Int} {w : Nat → Int} {a : Nat} {z : Nat → Int} {Z : Int} {f : Nat → Int} (hB : BFh S w a z Z) (hd : BFd a z Z f) (hC : ∀ e u v : Nat, (e : Int) < S 1 2 → ed S e u v → f v ≤ f u + w e) (r : Nat) : Stl z r f := by
  induction r with
  | zero => exact Stl_0 hB hd
  | succ r ih => exact Stl_s hB hd (fun v _ => Int.le_refl _) hC ih
/-- one way along a canal -/
def rl (f : Nat → Int) (u v : Nat) (m : Int) : Nat → Int := if f u + m < f v then up f v (f u + m) else f
theorem rl_le (f : Nat → Int) (u v : Nat) (m : Int) (x : Nat) : rl f u v m x ≤ f x := by
  unfold rl
  split
  · by_cases q : x = v
    · subst q; rw [up_at]; omega
    · rw [up_ne _ _ q]; exact Int.le_refl _
  · exact Int.le_refl _
theorem rl_at (f : Nat → Int) (u v : Nat) (m : Int) : rl f u v m v ≤ f u + m := by
  unfold rl
  split
  · rw [up_at]; exact Int.le_refl _
  · omega
theorem rl_d {a : Nat} {z : Nat → Int} {Z : Int} {f : Nat → Int} {u v : Nat} {m : Int} (hd : BFd a z Z f) (hu : u < 6) (hz : z v ≤ z u + m) : BFd a z Z (rl f u v m) := by
  refine ⟨Int.le_trans (rl_le f u v m a) hd.1, fun x hx => ⟨?_, Int.le_trans (rl_le f u v m x) (hd.2 x hx).2⟩⟩
  have h1 := hd.2 u hu
  have h2 := hd.2 x hx
  unfold rl
  split
  · by_cases q : x = v
    · subst q; rw [up_at]; omega
    · rw [up_ne _ _ q]; omega
  · omega
/-- both ways along a canal, as the reference goes -/
def rb (f : Nat → Int) (u v : Nat) (m : Int) : Nat → Int := up (up f v (if f u + m < f v then f u + m else f v)) u (if f v + m < f u then f v + m else f u)
theorem rb_eq {f : Nat → Int} {u v : Nat} {m : Int} (huv : u ≠ v) (x : Nat) : rb f u v m x = if x = u then (if f v + m < f u then f v + m else f u) else if x = v then (if f u + m < f v then f u + m else f v) else f x := by
  unfold rb
  by_cases q : x = u
  · subst q; rw [up_at, if_pos rfl]
  · rw [up_ne _ _ q, if_neg q]
    by_cases q2 : x = v
    · subst q2; rw [up_at, if_pos rfl]
    · rw [up_ne _ _ q2, if_neg q2]
theorem rb_le {f : Nat → Int} {u v : Nat} {m : Int} (huv : u ≠ v) (x : Nat) : rb f u v m x ≤ f x := by
  rw [rb_eq huv]
  by_cases q : x = u
  · subst q; rw [if_pos rfl]; split <;> omega
  · rw [if_neg q]
    by_cases q2 : x = v
    · subst q2; rw [if_pos rfl]; split <;> omega
    · rw [if_neg q2]; exact Int.le_refl _
theorem rb_at {f : Nat → Int} {u v : Nat} {m : Int} (huv : u ≠ v) : rb f u v m v ≤ f u + m ∧ rb f u v m u ≤ f v + m := by
  rw [rb_eq huv, rb_eq huv, if_pos rfl, if_neg (fun e => huv e.symm), if_pos rfl]
  constructor
  · split <;> omega
  · split <;> omega
theorem rb_d {a : Nat} {z : Nat → Int} {Z : Int} {f : Nat → Int} {u v : Nat} {m : Int} (huv : u ≠ v) (hd : BFd a z Z f) (hu : u < 6) (hv : v < 6) (hz : z v ≤ z u + m) (hz' : z u ≤ z v + m) : BFd a z Z (rb f u v m) := by
  refine ⟨Int.le_trans (rb_le huv a) hd.1, fun x hx => ⟨?_, Int.le_trans (rb_le huv x) (hd.2 x hx).2⟩⟩
  have h1 := hd.2 u hu
  have h3 := hd.2 v hv
  have h2 := hd.2 x hx
  rw [rb_eq huv]
  by_cases q : x = u
  · subst q; rw [if_pos rfl]; split <;> omega
  · rw [if_neg q]
    by_cases q2 : x = v
    · subst q2; rw [if_pos rfl]; split <;> omega
    · rw [if_neg q2]; omega
/-- farther than all, told otherwise -/
def dz (Z x : Int) : Int := if x = 2147483647 then Z else x
theorem dz_f {Z x : Int} (h : x ≠ 2147483647) : dz Z x = x := if_neg h
theorem dz_i (Z : Int) : dz Z 2147483647 = Z := if_pos rfl
theorem dl_BFh {S : Nat → Nat → Int} (h : TW S) {a : Nat} (ha : (a : Int) < S 1 1) {Z : Int} (hZ : 64000 < Z) : BFh S (S 4) a (fun v => dz Z (dl S a v)) Z := by
  have hn := h.1
  refine ⟨h, ha, ?_, fun v => ?_, fun e he => ?_, fun e u v he hed => ?_, fun v hv hz => ?_, fun v hv hz => ?_⟩
  · show dz Z (dl S a a) = 0
    rw [dl_self h, dz_f (by omega)]
  · show 0 ≤ dz Z (dl S a v) ∧ dz Z (dl S a v) ≤ Z
    rcases dl_rng h a v with e | e
    · rw [e, dz_i]; omega
    · rw [dz_f (by omega)]; omega
  · have := h.2.2.1 e he; omega
  · show dz Z (dl S a v) ≤ dz Z (dl S a u) + S 4 e
    have hw := h.2.2.1 e he
    rcases dl_rng h a u with q | q
    · rw [q, dz_i]
      rcases dl_rng h a v with q' | q'
      · rw [q', dz_i]; omega
      · rw [dz_f (by omega)]; omega
    · have := dl_edge h (a := a) he hed (by omega)
      have q' := dl_rng h a v
      rw [dz_f (by omega), dz_f (by omega)]; exact this
  · have q := dl_rng h a v
    have hz' : dz Z (dl S a v) < Z := hz
    rcases q with q | q
    · rw [q, dz_i] at hz'; omega
    · obtain ⟨e, u, c1, c2, c3, c4⟩ := dl_tight h (S 1 1).toNat (by omega) a v (fun e => hv e.symm) (by unfold dl at q; omega)
      refine ⟨e, u, c1, c2, ?_⟩
      show dz Z (dl S a u) + S 4 e ≤ dz Z (dl S a v)
      rw [dz_f c3, dz_f (by omega)]; exact c4
  · show dz Z (dl S a v) = Z
    rw [dl_far h (fun e => hv e.symm) hz, dz_i]
/-- the same, times a number -/
theorem BFh_mul {S : Nat → Nat → Int} (h : TW S) {a : Nat} (ha : (a : Int) < S 1 1) {Z c : Int} (hc : 1 ≤ c ∧ c ≤ 27) (hZ : 576 * c < Z) (h9 : ∀ e : Nat, (e : Int) < S 1 2 → S 4 e ≤ 9) : BFh S (fun e => c * S 4 e) a (fun v => if dl S a v = 2147483647 then Z else c * dl S a v) Z := by
  have hn := h.1
  have rg := dl_bd h h9 (by omega) a
  have hcm : ∀ x : Int, 0 ≤ x → x ≤ 64 * 9 → 0 ≤ c * x ∧ c * x ≤ 576 * c := fun x h0 h1 => by
    have := Int.mul_nonneg (show 0 ≤ c by omega) h0
    have := Int.mul_le_mul_of_nonneg_left h1 (show 0 ≤ c by omega)
    omega
  refine ⟨h, ha, ?_, fun v => ?_, fun e he => ?_, fun e u v he hed => ?_, fun v hv hz => ?_, fun v hv hz => ?_⟩
  · show (if dl S a a = 2147483647 then Z else c * dl S a a) = 0
    rw [dl_self h, if_neg (by omega), Int.mul_zero]
  · show 0 ≤ (if dl S a v = 2147483647 then Z else c * dl S a v) ∧ (if dl S a v = 2147483647 then Z else c * dl S a v) ≤ Z
    rcases rg v with e | e
    · rw [if_pos e]; omega
    · rw [if_neg (by omega)]; have := hcm _ e.1 e.2; omega
  · have h1 := h.2.2.1 e he
    have h2 := h9 e he
    have := Int.mul_le_mul (show c ≤ 27 by omega) h2 (by omega) (by omega)
    have := Int.mul_le_mul (show 1 ≤ c by omega) (show 1 ≤ S 4 e by omega) (by omega) (by omega)
    show 1 ≤ c * S 4 e ∧ c * S 4 e ≤ 1000
    omega
  · show (if dl S a v = 2147483647 then Z else c * dl S a v) ≤ (if dl S a u = 2147483647 then Z else c * dl S a u) + c * S 4 e
    have hw := h.2.2.1 e he
    have hw2 := Int.mul_nonneg (show 0 ≤ c by omega) (show 0 ≤ S 4 e by omega)
    rcases rg u with q | q
    · rw [if_pos q]
      rcases rg v with q' | q'
      · rw [if_pos q']; omega
      · rw [if_neg (by omega)]; have := hcm _ q'.1 q'.2; omega
    · have := dl_edge h (a := a) he hed (by omega)
      have q' := rg v
      rw [if_neg (by omega), if_neg (by omega), ← Int.mul_add]
      exact Int.mul_le_mul_of_nonneg_left this (by omega)
  · have q := rg v
    have hz' : (if dl S a v = 2147483647 then Z else c * dl S a v) < Z := hz
    rcases q with q | q
    · rw [if_pos q] at hz'; omega
    · obtain ⟨e, u, c1, c2, c3, c4⟩ := dl_tight h (S 1 1).toNat (by omega) a v (fun e => hv e.symm) (by unfold dl at q; omega)
      refine ⟨e, u, c1, c2, ?_⟩
      show (if dl S a u = 2147483647 then Z else c * dl S a u) + c * S 4 e ≤ (if dl S a v = 2147483647 then Z else c * dl S a v)
      rw [if_neg c3, if_neg (by omega), ← Int.mul_add]
      exact Int.mul_le_mul_of_nonneg_left c4 (by omega)
  · show (if dl S a v = 2147483647 then Z else c * dl S a v) = Z
    rw [if_pos (dl_far h (fun e => hv e.symm) hz)]
