/-- the matchings of six, nobody first -/
def M76 : List (List Nat) := [[0, 1, 2, 3, 4, 5], [0, 1, 2, 3, 5, 4], [0, 1, 2, 4, 3, 5], [0, 1, 2, 5, 4, 3], [0, 1, 3, 2, 4, 5], [0, 1, 3, 2, 5, 4], [0, 1, 4, 3, 2, 5], [0, 1, 4, 5, 2, 3], [0, 1, 5, 3, 4, 2], [0, 1, 5, 4, 3, 2], [0, 2, 1, 3, 4, 5], [0, 2, 1, 3, 5, 4], [0, 2, 1, 4, 3, 5], [0, 2, 1, 5, 4, 3], [0, 3, 2, 1, 4, 5], [0, 3, 2, 1, 5, 4], [0, 3, 4, 1, 2, 5], [0, 3, 5, 1, 4, 2], [0, 4, 2, 3, 1, 5], [0, 4, 2, 5, 1, 3], [0, 4, 3, 2, 1, 5], [0, 4, 5, 3, 1, 2], [0, 5, 2, 3, 4, 1], [0, 5, 2, 4, 3, 1], [0, 5, 3, 2, 4, 1], [0, 5, 4, 3, 2, 1], [1, 0, 2, 3, 4, 5], [1, 0, 2, 3, 5, 4], [1, 0, 2, 4, 3, 5], [1, 0, 2, 5, 4, 3], [1, 0, 3, 2, 4, 5], [1, 0, 3, 2, 5, 4], [1, 0, 4, 3, 2, 5], [1, 0, 4, 5, 2, 3], [1, 0, 5, 3, 4, 2], [1, 0, 5, 4, 3, 2], [2, 1, 0, 3, 4, 5], [2, 1, 0, 3, 5, 4], [2, 1, 0, 4, 3, 5], [2, 1, 0, 5, 4, 3], [2, 3, 0, 1, 4, 5], [2, 3, 0, 1, 5, 4], [2, 4, 0, 3, 1, 5], [2, 4, 0, 5, 1, 3], [2, 5, 0, 3, 4, 1], [2, 5, 0, 4, 3, 1], [3, 1, 2, 0, 4, 5], [3, 1, 2, 0, 5, 4], [3, 1, 4, 0, 2, 5], [3, 1, 5, 0, 4, 2], [3, 2, 1, 0, 4, 5], [3, 2, 1, 0, 5, 4], [3, 4, 2, 0, 1, 5], [3, 4, 5, 0, 1, 2], [3, 5, 2, 0, 4, 1], [3, 5, 4, 0, 2, 1], [4, 1, 2, 3, 0, 5], [4, 1, 2, 5, 0, 3], [4, 1, 3, 2, 0, 5], [4, 1, 5, 3, 0, 2], [4, 2, 1, 3, 0, 5], [4, 2, 1, 5, 0, 3], [4, 3, 2, 1, 0, 5], [4, 3, 5, 1, 0, 2], [4, 5, 2, 3, 0, 1], [4, 5, 3, 2, 0, 1], [5, 1, 2, 3, 4, 0], [5, 1, 2, 4, 3, 0], [5, 1, 3, 2, 4, 0], [5, 1, 4, 3, 2, 0], [5, 2, 1, 3, 4, 0], [5, 2, 1, 4, 3, 0], [5, 3, 2, 1, 4, 0], [5, 3, 4, 1, 2, 0], [5, 4, 2, 3, 1, 0], [5, 4, 3, 2, 1, 0]]
theorem sb_bi {b : Nat → Int} (h : ∀ j, b j = 0 ∨ b j = 1) (n q : Nat) : bi (sb b n) q = if q < n then b q else 0 := by
  induction n with
  | zero => rw [if_neg (by omega)]; unfold bi sb; simp
  | succ n ih =>
    have hl := sb_lt (b := b) (n := n) (fun j _ => h j)
    have hs : sb b (n + 1) = sb b n + b n * ((2 ^ n : Nat) : Int) := rfl
    rw [hs]
    have hn := h n
    generalize sb b n = x at *
    obtain ⟨c, hc⟩ : ∃ c, b n = c := ⟨_, rfl⟩
    rw [hc] at hn ⊢
    unfold bi at *
    rcases Nat.lt_trichotomy q n with hq | hq | hq
    · rw [if_pos (by omega)]
      rw [if_pos hq] at ih
      rw [← ih]
      obtain ⟨k, rfl⟩ : ∃ k, n = q + (k + 1) := ⟨n - q - 1, by omega⟩
      have e : ((2 ^ (q + (k + 1)) : Nat) : Int) = ((2 ^ q : Nat) : Int) * (2 * ((2 ^ k : Nat) : Int)) := by rw [Nat.pow_add, Nat.pow_succ, Int.natCast_mul, Int.natCast_mul]; grind
      have hp : ((2 ^ q : Nat) : Int) ≠ 0 := by
        have := Nat.pow_pos (n := q) (show 0 < 2 by omega)
        omega
      rw [e, show x + c * (((2 ^ q : Nat) : Int) * (2 * ((2 ^ k : Nat) : Int))) = x + ((2 ^ q : Nat) : Int) * (2 * (c * ((2 ^ k : Nat) : Int))) by grind, Int.add_mul_ediv_left _ _ hp]
      omega
    · subst hq
      rw [if_pos (by omega)]
      have hp : (0 : Int) < ((2 ^ q : Nat) : Int) := by
        have := Nat.pow_pos (n := q) (show 0 < 2 by omega)
        omega
      rw [hc, Int.mul_comm, Int.add_mul_ediv_left _ _ (by omega), Int.ediv_eq_zero_of_lt hl.1 hl.2]
      omega
    · rw [if_neg (by omega)]
      have hp : ((2 ^ (n + 1) : Nat) : Int) ≤ ((2 ^ q : Nat) : Int) := by
        have := Nat.pow_le_pow_right (show 0 < 2 by omega) (show n + 1 ≤ q by omega)
        omega
      have e : ((2 ^ (n + 1) : Nat) : Int) = 2 * ((2 ^ n : Nat) : Int) := by rw [Nat.pow_succ]; omega
      have hx : 0 ≤ x + c * ((2 ^ n : Nat) : Int) ∧ x + c * ((2 ^ n : Nat) : Int) < ((2 ^ q : Nat) : Int) := by
        rcases hn with rfl | rfl <;> omega
      rw [Int.ediv_eq_zero_of_lt hx.1 hx.2]
      rfl
/-- those with whom one is matched in turn, from a place on -/
def mlo (P : Nat) (R : Nat → Nat → Bool) (g : (Nat → Nat) → List (Nat → Nat)) (t : Nat → Nat) (p : Nat) : Nat → List (Nat → Nat)
  | 0 => []
  | r + 1 => (if R p (P - (r + 1)) = true ∧ t (P - (r + 1)) = P - (r + 1) then g (up (up t p (P - (r + 1))) (P - (r + 1)) p) else []) ++ mlo P R g t p r
/-- all matchings, the last n of P being unmatched as yet -/
def mf (P : Nat) (R : Nat → Nat → Bool) : Nat → (Nat → Nat) → List (Nat → Nat)
  | 0, t => [t]
  | n + 1, t => mf P R n t ++ (if t (P - (n + 1)) = P - (n + 1) then mlo P R (mf P R n) t (P - (n + 1)) n else [])
theorem mf_s (P : Nat) (R : Nat → Nat → Bool) (n : Nat) (t : Nat → Nat) : mf P R (n + 1) t = mf P R n t ++ (if t (P - (n + 1)) = P - (n + 1) then mlo P R (mf P R n) t (P - (n + 1)) n else []) := rfl
theorem mlo_s (P : Nat) (R : Nat → Nat → Bool) (g : (Nat → Nat) → List (Nat → Nat)) (t : Nat → Nat) (p r : Nat) : mlo P R g t p (r + 1) = (if R p (P - (r + 1)) = true ∧ t (P - (r + 1)) = P - (r + 1) then g (up (up t p (P - (r + 1))) (P - (r + 1)) p) else []) ++ mlo P R g t p r := rfl
theorem mlo_none {R : Nat → Nat → Bool} (g : (Nat → Nat) → List (Nat → Nat)) (t : Nat → Nat) (p : Nat) : ∀ r, (∀ q, 6 - r ≤ q → R p q = false) → mlo 6 R g t p r = [] := by
  intro r
  induction r with
  | zero => intro _; rfl
  | succ r ih =>
    intro h
    rw [mlo_s, if_neg (by rw [h (6 - (r + 1)) (Nat.le_refl _)]; exact fun e => Bool.noConfusion e.1), ih (fun q hq => h q (by omega))]
    rfl
theorem mlo_P {P e : Nat} {R : Nat → Nat → Bool} {g g' : (Nat → Nat) → List (Nat → Nat)} (hP : P + e = 6) (hR : ∀ p q, P ≤ q → R p q = false) (hg : ∀ t, g' t = g t) (t : Nat → Nat) (p : Nat) : ∀ r, r ≤ P → mlo 6 R g' t p (r + e) = mlo P R g t p r := by
  intro r
  induction r with
  | zero =>
    intro _
    rw [Nat.zero_add]
    exact mlo_none g' t p e (fun q hq => hR p q (by omega))
  | succ r ih =>
    intro h
    rw [show r + 1 + e = (r + e) + 1 by omega, mlo_s, mlo_s, ih (by omega), show 6 - (r + e + 1) = P - (r + 1) by omega, hg]
theorem mf_P {P e : Nat} {R : Nat → Nat → Bool} (hP : P + e = 6) (hR : ∀ p q, P ≤ q → R p q = false) (hR' : ∀ p q, P ≤ p → R p q = false) : ∀ n, n ≤ P → ∀ t, mf 6 R (n + e) t = mf P R n t := by
  intro n
  induction n with
  | zero =>
    intro _ t
    rw [Nat.zero_add]
    have : ∀ k, k ≤ e → mf 6 R k t = [t] := by
      intro k
      induction k with
      | zero => intro _; rfl
      | succ k ih =>
        intro hk
        rw [mf_s, ih (by omega), mlo_none _ _ _ _ (fun q _ => hR' _ q (by omega))]
        split <;> rfl
    exact this e (Nat.le_refl _)
  | succ n ih =>
    intro h t
    have ih' := ih (by omega)
    have e1 : 6 - (n + e + 1) = P - (n + 1) := by omega
    rw [show n + 1 + e = (n + e) + 1 by omega, mf_s, mf_s, ih', e1, mlo_P hP hR ih' t _ n (by omega)]
theorem mf_keep (R : Nat → Nat → Bool) : ∀ n, n ≤ 6 → ∀ (t u : Nat → Nat), u ∈ mf 6 R n t → ∀ j, j < 6 - n → u j = t j := by
  intro n
  induction n with
  | zero =>
    intro _ t u hu j _
    have : u = t := by simpa [mf] using hu
    rw [this]
  | succ n ih =>
    intro hn t u hu j hj
    have ih' := ih (by omega)
    rw [mf_s, List.mem_append] at hu
    rcases hu with hu | hu
    · exact ih' t u hu j (by omega)
    · split at hu
      · have : ∀ r, r ≤ n → u ∈ mlo 6 R (mf 6 R n) t (6 - (n + 1)) r → u j = t j := by
          intro r
          induction r with
          | zero => intro _ h; cases h
          | succ r ihr =>
            intro hr h
            rw [mlo_s, List.mem_append] at h
            rcases h with h | h
            · split at h
              · rw [ih' _ u h j (by omega), up_ne _ _ (by omega), up_ne _ _ (by omega)]
              · cases h
            · exact ihr (by omega) h
        exact this n (Nat.le_refl _) hu
      · cases hu
def okB (R : Nat → Nat → Bool) (u : Nat → Nat) : Bool := (List.range 6).all (fun j => u j == j || R j (u j))
theorem okB_f {R : Nat → Nat → Bool} {u : Nat → Nat} {j : Nat} (hj : j < 6) (h1 : u j ≠ j) (h2 : R j (u j) = false) : okB R u = false := by
  unfold okB
  rw [List.all_eq_false]
  refine ⟨j, List.mem_range.2 hj, ?_⟩
  rw [h2, Bool.or_false, beq_iff_eq]
  exact h1
theorem okB_t {R : Nat → Nat → Bool} {u : Nat → Nat} (h : ∀ j, j < 6 → u j = j ∨ R j (u j) = true) : okB R u = true := by
  unfold okB
  rw [List.all_eq_true]
  intro j hj
  rcases h j (List.mem_range.1 hj) with e | e
  · rw [Bool.or_eq_true, beq_iff_eq]; exact Or.inl e
  · rw [e, Bool.or_true]
theorem mf_filter (R : Nat → Nat → Bool) (hs : ∀ p q, R p q = R q p) : ∀ n, n ≤ 6 → ∀ t : Nat → Nat, (∀ j, j < 6 → t j = j ∨ R j (t j) = true) → mf 6 R n t = (mf 6 (fun _ _ => true) n t).filter (okB R) := by
  intro n
  induction n with
  | zero =>
    intro _ t ht
    show [t] = List.filter (okB R) [t]
    rw [List.filter_cons, if_pos (okB_t ht)]
    rfl
  | succ n ih =>
    intro hn t ht
    have ih' := ih (by omega)
    rw [mf_s, mf_s, List.filter_append, ← ih' t ht]
    congr 1
    by_cases hp : t (6 - (n + 1)) = 6 - (n + 1)
    · rw [if_pos hp, if_pos hp]
      have : ∀ r, r ≤ n → mlo 6 R (mf 6 R n) t (6 - (n + 1)) r = (mlo 6 (fun _ _ => true) (mf 6 (fun _ _ => true) n) t (6 - (n + 1)) r).filter (okB R) := by
        intro r
        induction r with
        | zero => intro _; rfl
        | succ r ihr =>
          intro hr
          rw [mlo_s, mlo_s, List.filter_append, ← ihr (by omega)]
          congr 1
          by_cases hq : t (6 - (r + 1)) = 6 - (r + 1)
          · rw [if_pos (show (fun (_ _ : Nat) => true) (6 - (n + 1)) (6 - (r + 1)) = true ∧ t (6 - (r + 1)) = 6 - (r + 1) from ⟨rfl, hq⟩)]
            by_cases hRq : R (6 - (n + 1)) (6 - (r + 1)) = true
            · rw [if_pos ⟨hRq, hq⟩]
              apply ih'
              intro j hj
              by_cases h1 : j = 6 - (r + 1)
              · subst h1; rw [up_at]; right; rw [hs]; exact hRq
              · rw [up_ne _ _ h1]
                by_cases h2 : j = 6 - (n + 1)
                · subst h2; rw [up_at]; right; exact hRq
                · rw [up_ne _ _ h2]; exact ht j hj
            · rw [if_neg (fun e => hRq e.1)]
              symm
              rw [List.filter_eq_nil_iff]
              intro u hu
              have k := mf_keep _ n (by omega) _ u hu (6 - (n + 1)) (by omega)
              rw [up_ne _ _ (by omega), up_at] at k
              rw [okB_f (j := 6 - (n + 1)) (by omega) (by omega) (by rw [k]; exact Bool.eq_false_iff.2 hRq)]
              exact Bool.false_ne_true
          · rw [if_neg (fun e => hq e.2), if_neg (fun e => hq e.2)]
            rfl
      exact this n (Nat.le_refl _)
    · rw [if_neg hp, if_neg hp]
      rfl
def row (u : Nat → Nat) : List Nat := (List.range 6).map u
theorem row_get (u : Nat → Nat) {j : Nat} (hj : j < 6) : (row u).getD j 0 = u j := by
  unfold row
  rw [List.getD_eq_getElem?_getD, List.getElem?_map, List.getElem?_range hj]
  rfl
def okr (R : Nat → Nat → Bool) (r : List Nat) : Bool := (List.range 6).all (fun j => r.getD j 0 == j || R j (r.getD j 0))
theorem okr_row (R : Nat → Nat → Bool) (u : Nat → Nat) : okr R (row u) = okB R u := by
  unfold okr okB
  rw [Bool.eq_iff_iff, List.all_eq_true, List.all_eq_true]
  constructor
  · intro h j hj
    have := h j hj
    rw [row_get u (List.mem_range.1 hj)] at this
    exact this
  · intro h j hj
    rw [row_get u (List.mem_range.1 hj)]
    exact h j hj
theorem M76_eq : (mf 6 (fun _ _ => true) 6 (fun j => j)).map row = M76 := by decide +kernel
theorem mf_rows {P : Nat} {R : Nat → Nat → Bool} (hP : P ≤ 6) (hs : ∀ p q, R p q = R q p) (hR : ∀ p q, P ≤ q → R p q = false) : (mf P R P (fun j => j)).map row = M76.filter (okr R) := by
  rw [← mf_P (e := 6 - P) (by omega) hR (fun p q hp => by rw [hs]; exact hR q p hp) P (Nat.le_refl _), show P + (6 - P) = 6 by omega, mf_filter R hs 6 (Nat.le_refl _) _ (fun j _ => Or.inl rfl), ← M76_eq, List.filter_map]
  congr 1
def ulf (F p q : Nat) : Bool := decide (¬ F / 2 ^ p % 2 = F / 2 ^ q % 2)
theorem M76_34 : ∀ F : Fin 64, (M76.filter (okr (ulf F))).length ≤ 34 := by decide +kernel
theorem okr_mono {R R' : Nat → Nat → Bool} (h : ∀ p q, p < 6 → q < 6 → R p q = true → R' p q = true) {r : List Nat} (hr : ∀ j, j < 6 → r.getD j 0 < 6) (hk : okr R r = true) : okr R' r = true := by
  unfold okr at *
  rw [List.all_eq_true] at *
  intro j hj
  have h1 := hk j hj
  rw [Bool.or_eq_true] at *
  rcases h1 with h1 | h1
  · exact Or.inl h1
  · exact Or.inr (h j _ (List.mem_range.1 hj) (hr j (List.mem_range.1 hj)) h1)
theorem M76_lt : ∀ r ∈ M76, ∀ j : Fin 6, r.getD j 0 < 6 := by decide +kernel
theorem M76_len : M76.length = 76 := by decide
/-- who can be a pair, by these feet -/
def Rf (S : Nat → Nat → Int) (F : Int) (p q : Nat) : Bool := decide (((p : Int) < S 1 3 ∧ (q : Int) < S 1 3) ∧ ¬ bi F p = bi F q ∧ S 8 p = S 8 q)
theorem Rf_sym (S : Nat → Nat → Int) (F : Int) (p q : Nat) : Rf S F p q = Rf S F q p := by
  unfold Rf
  rw [decide_eq_decide]
  constructor
  · intro h; exact ⟨⟨h.1.2, h.1.1⟩, fun e => h.2.1 e.symm, h.2.2.symm⟩
  · intro h; exact ⟨⟨h.1.2, h.1.1⟩, fun e => h.2.1 e.symm, h.2.2.symm⟩
theorem bi_nat (F : Nat) (p : Nat) : bi (F : Int) p = ((F / 2 ^ p % 2 : Nat) : Int) := by
  unfold bi
  rw [Int.natCast_emod, Int.natCast_ediv]
  rfl
def LM (S : Nat → Nat → Int) (F : Int) : List (List Nat) := M76.filter (okr (Rf S F))
theorem LM_34 (S : Nat → Nat → Int) {F : Int} (hF : 0 ≤ F ∧ F < 64) : (LM S F).length ≤ 34 := by
  obtain ⟨f, rfl⟩ : ∃ f : Nat, F = (f : Int) := ⟨F.toNat, by omega⟩
  refine Nat.le_trans ?_ (M76_34 ⟨f, by omega⟩)
  unfold LM
  rw [← List.countP_eq_length_filter, ← List.countP_eq_length_filter]
  apply List.countP_mono_left
  intro r hr hk
  refine okr_mono (fun p q _ _ h => ?_) (fun j hj => M76_lt r hr ⟨j, hj⟩) hk
  unfold Rf at h
  rw [decide_eq_true_eq] at h
  unfold ulf
  rw [decide_eq_true_eq]
  intro e
  apply h.2.1
  rw [bi_nat, bi_nat]
  simp only at e
  rw [e]
theorem LM_mf (S : Nat → Nat → Int) (F : Int) {P : Nat} (hP : S 1 3 = (P : Int)) (h6 : P ≤ 6) : (mf P (Rf S F) P (fun j => j)).map row = LM S F := by
  refine mf_rows h6 (Rf_sym S F) (fun p q hq => ?_)
  unfold Rf
  rw [decide_eq_false_iff_not]
  intro h
  omega
theorem LM_ok {S : Nat → Nat → Int} {F : Int} {r : List Nat} (h : r ∈ LM S F) : r ∈ M76 ∧ okr (Rf S F) r = true := List.mem_filter.1 h
theorem okr_j {R : Nat → Nat → Bool} {r : List Nat} (h : okr R r = true) {j : Nat} (hj : j < 6) : r.getD j 0 = j ∨ R j (r.getD j 0) = true := by
  unfold okr at h
  rw [List.all_eq_true] at h
  have := h j (List.mem_range.2 hj)
  rw [Bool.or_eq_true, beq_iff_eq] at this
  exact this
