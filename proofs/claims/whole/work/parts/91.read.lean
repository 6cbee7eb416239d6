theorem nodup_len : ∀ (l1 l2 : List Nat), l1.Nodup → (∀ x, x ∈ l1 → x ∈ l2) → l1.length ≤ l2.length := by
  intro l1
  induction l1 with
  | nil => intro l2 _ _; exact Nat.zero_le _
  | cons x t ih =>
    intro l2 hn hs
    have hn' := List.nodup_cons.1 hn
    have hx := hs x (List.mem_cons_self)
    have h1 := ih (l2.erase x) hn'.2 (fun y hy => by
      have hyx : y ≠ x := fun e => hn'.1 (e ▸ hy)
      exact (List.mem_erase_of_ne hyx).2 (hs y (List.mem_cons_of_mem _ hy)))
    have h2 := List.length_erase_of_mem hx
    have h3 : 0 < l2.length := List.length_pos_of_mem hx
    rw [List.length_cons]
    omega
/-- a town as it is read: row 1 as the state's, 2 .. 7 its canals and people, 8 where they begin -/
def told (T : Nat → Nat → Int) (a b : Int) : Prop := a = b ∨ ∃ k : Nat, (k : Int) < T 1 2 ∧ (T 2 k = a ∧ T 3 k = b ∨ T 2 k = b ∧ T 3 k = a)
def partn (T : Nat → Nat → Int) (a : Int) : Prop := ∃ b : Int, (0 ≤ b ∧ b < T 1 1) ∧ ¬ told T a b
def roomy (T : Nat → Nat → Int) : Prop := ∃ a : Int, (0 ≤ a ∧ a < T 1 1) ∧ partn T a
def DT (T : Nat → Nat → Int) : Prop := (2 ≤ T 1 1 ∧ T 1 1 ≤ 6) ∧ (0 ≤ T 1 2 ∧ T 1 2 ≤ 8) ∧ (0 ≤ T 1 3 ∧ T 1 3 ≤ 6) ∧ (0 ≤ T 1 4 ∧ T 1 4 < (2 ^ (T 1 3).toNat : Nat)) ∧ (∀ k : Nat, (k : Int) < T 1 2 → 0 ≤ T 2 k ∧ T 2 k < T 3 k ∧ T 3 k < T 1 1 ∧ 1 ≤ T 4 k ∧ T 4 k ≤ 9 ∧ 0 ≤ T 5 k ∧ T 5 k ≤ 2) ∧ (∀ p : Nat, (p : Int) < T 1 3 → 1 ≤ T 6 p ∧ T 6 p ≤ 9 ∧ 0 ≤ T 7 p ∧ T 7 p < T 1 1 ∧ 0 ≤ T 8 p ∧ T 8 p < T 1 1) ∧ ∀ i j : Nat, i < j → (j : Int) < T 1 2 → ¬ (T 2 i = T 2 j ∧ T 3 i = T 3 j)
def PL (n : Nat) : List Nat := (List.range 36).filter (fun c => decide (c / 6 < c % 6) && decide (c % 6 < n))
theorem PL_len : ∀ n : Fin 7, 2 * (PL n).length = (n : Nat) * ((n : Nat) - 1) := by decide +kernel
theorem PL_nd : ∀ n : Fin 7, (PL n).Nodup := by decide +kernel
theorem PL_mem {n c : Nat} : c ∈ PL n ↔ c < 36 ∧ c / 6 < c % 6 ∧ c % 6 < n := by
  unfold PL
  rw [List.mem_filter, List.mem_range, Bool.and_eq_true, decide_eq_true_eq, decide_eq_true_eq]
def cds (T : Nat → Nat → Int) : List Nat := (List.range (T 1 2).toNat).map (fun k => 6 * (T 2 k).toNat + (T 3 k).toNat)
theorem cds_nd {T : Nat → Nat → Int} (h : DT T) : (cds T).Nodup := by
  unfold cds List.Nodup
  rw [List.pairwise_map]
  refine List.Pairwise.imp_of_mem ?_ List.pairwise_lt_range
  intro i j hi hj hij e
  have hK := h.2.1
  have hn := h.1
  have hi' := List.mem_range.1 hi
  have hj' := List.mem_range.1 hj
  have ri := h.2.2.2.2.1 i (by omega)
  have rj := h.2.2.2.2.1 j (by omega)
  apply h.2.2.2.2.2.2 i j hij (by omega)
  constructor <;> omega
theorem cds_len (T : Nat → Nat → Int) : (cds T).length = (T 1 2).toNat := by
  unfold cds
  rw [List.length_map, List.length_range]
theorem cds_sub {T : Nat → Nat → Int} (h : DT T) : ∀ c, c ∈ cds T → c ∈ PL (T 1 1).toNat := by
  intro c hc
  unfold cds at hc
  rw [List.mem_map] at hc
  obtain ⟨k, hk, e⟩ := hc
  have hK := h.2.1
  have hn := h.1
  have hk' := List.mem_range.1 hk
  have rk := h.2.2.2.2.1 k (by omega)
  rw [PL_mem]
  omega
theorem cds_told {T : Nat → Nat → Int} (h : DT T) {a b : Nat} (hab : a < b) (hb : (b : Int) < T 1 1) : 6 * a + b ∈ cds T ↔ told T (a : Int) (b : Int) := by
  have hK := h.2.1
  have hn := h.1
  unfold cds told
  rw [List.mem_map]
  constructor
  · rintro ⟨k, hk, e⟩
    have hk' := List.mem_range.1 hk
    have rk := h.2.2.2.2.1 k (by omega)
    right
    exact ⟨k, by omega, by omega⟩
  · rintro (e | ⟨k, hk, e⟩)
    · omega
    · have rk := h.2.2.2.2.1 k hk
      exact ⟨k, List.mem_range.2 (by omega), by omega⟩
theorem told_sym {T : Nat → Nat → Int} {a b : Int} (h : told T a b) : told T b a := by
  rcases h with h | ⟨k, hk, h⟩
  · exact Or.inl h.symm
  · exact Or.inr ⟨k, hk, h.symm⟩
theorem roomy_iff {T : Nat → Nat → Int} (h : DT T) : roomy T ↔ 2 * T 1 2 < T 1 1 * (T 1 1 - 1) := by
  have hK := h.2.1
  have hn := h.1
  obtain ⟨n, hn'⟩ : ∃ n : Nat, T 1 1 = (n : Int) := ⟨(T 1 1).toNat, by omega⟩
  have hl := PL_len ⟨n, by omega⟩
  have hd := PL_nd ⟨n, by omega⟩
  simp only at hl hd
  have hcl := cds_len T
  have hcn := cds_nd h
  have hcs := cds_sub h
  rw [hn', Int.toNat_natCast] at hcs
  have hmul : T 1 1 * (T 1 1 - 1) = ((n * (n - 1) : Nat) : Int) := by
    rw [hn']
    obtain ⟨m, rfl⟩ : ∃ m, n = m + 1 := ⟨n - 1, by omega⟩
    rw [show m + 1 - 1 = m by omega, Int.natCast_mul]
    congr 1
    omega
  rw [hmul, ← hl]
  constructor
  · rintro ⟨a, ha, b, hb, ht⟩
    obtain ⟨x, rfl⟩ : ∃ x : Nat, a = (x : Int) := ⟨a.toNat, by omega⟩
    obtain ⟨y, rfl⟩ : ∃ y : Nat, b = (y : Int) := ⟨b.toNat, by omega⟩
    have hxy : x ≠ y := fun e => ht (Or.inl (by rw [e]))
    have key : ∀ u v : Nat, u < v → (v : Int) < T 1 1 → ¬ told T (u : Int) (v : Int) → (cds T).length + 1 ≤ (PL n).length := by
      intro u v huv hv hnt
      have := nodup_len ((6 * u + v) :: cds T) (PL n) (List.nodup_cons.2 ⟨fun e => hnt ((cds_told h huv hv).1 e), hcn⟩) (fun c hc => by
        rcases List.mem_cons.1 hc with e | e
        · rw [e, PL_mem]; omega
        · exact hcs c e)
      exact this
    have : (cds T).length + 1 ≤ (PL n).length := by
      rcases Nat.lt_or_gt_of_ne hxy with e | e
      · exact key x y e (by omega) ht
      · exact key y x e (by omega) (fun q => ht (told_sym q))
    omega
  · intro hlt
    by_cases q : ∀ c, c ∈ PL n → c ∈ cds T
    · have := nodup_len (PL n) (cds T) hd q
      omega
    · obtain ⟨c, hc⟩ := Classical.not_forall.1 q
      have hc1 : c ∈ PL n := Classical.byContradiction (fun e => hc (fun e' => absurd e' e))
      have hc2 : ¬ c ∈ cds T := fun e => hc (fun _ => e)
      rw [PL_mem] at hc1
      have := not_congr (cds_told h (a := c / 6) (b := c % 6) hc1.2.1 (by omega))
      rw [show 6 * (c / 6) + c % 6 = c by omega] at this
      exact ⟨((c / 6 : Nat) : Int), by omega, ((c % 6 : Nat) : Int), by omega, this.1 hc2⟩
/-- a canal more, a person more -/
def addC (T : Nat → Nat → Int) (k : Nat) (a b l e : Int) : Nat → Nat → Int := fun r => if r = 2 then up (T 2) k (if b < a then b else a) else if r = 3 then up (T 3) k (if a < b then b else a) else if r = 4 then up (T 4) k l else if r = 5 then up (T 5) k e else if r = 1 then up (T 1) 2 ((k : Int) + 1) else T r
def addP (T : Nat → Nat → Int) (k : Nat) (lf s p g : Int) : Nat → Nat → Int := fun r => if r = 8 then up (T 8) k s else if r = 6 then up (T 6) k p else if r = 7 then up (T 7) k g else if r = 1 then up (up (T 1) 4 (T 1 4 + lf * (2 ^ k : Nat))) 3 ((k : Int) + 1) else T r
def bnd (x : Int) : Int := if x = 108 then 1 else if x = 114 then 2 else 0
theorem DT_addC {T : Nat → Nat → Int} (h : DT T) {k : Nat} {a b l e : Int} (hk : T 1 2 = (k : Int)) (h8 : k < 8) (ha : 0 ≤ a ∧ a < T 1 1) (hb : 0 ≤ b ∧ b < T 1 1) (hl : 1 ≤ l ∧ l ≤ 9) (he : 0 ≤ e ∧ e ≤ 2) (ht : ¬ told T a b) : DT (addC T k a b l e) := by
  obtain ⟨h1, h2, h3, h4, h5, h6, h7⟩ := h
  have hab : a ≠ b := fun e => ht (Or.inl e)
  have e12 : addC T k a b l e 1 2 = (k : Int) + 1 := rfl
  have e2 : addC T k a b l e 2 = up (T 2) k (if b < a then b else a) := rfl
  have e3 : addC T k a b l e 3 = up (T 3) k (if a < b then b else a) := rfl
  have e4 : addC T k a b l e 4 = up (T 4) k l := rfl
  have e5 : addC T k a b l e 5 = up (T 5) k e := rfl
  refine ⟨h1, by rw [e12]; omega, h3, h4, fun j hj => ?_, h6, fun i j hij hj => ?_⟩
  · rw [e12] at hj
    rw [e2, e3, e4, e5]
    show _ ∧ _ ∧ _ < T 1 1 ∧ _
    by_cases q : j = k
    · subst q
      rw [up_at, up_at, up_at, up_at]
      split <;> split <;> omega
    · rw [up_ne _ _ q, up_ne _ _ q, up_ne _ _ q, up_ne _ _ q]
      exact h5 j (by omega)
  · rw [e12] at hj
    rw [e2, e3]
    by_cases q : j = k
    · subst q
      rw [up_at, up_at, up_ne _ _ (by omega), up_ne _ _ (by omega)]
      intro hh
      apply ht
      right
      refine ⟨i, by omega, ?_⟩
      rw [hh.1, hh.2]
      by_cases c : a < b
      · rw [if_neg (by omega), if_pos c]; exact Or.inl ⟨rfl, rfl⟩
      · rw [if_pos (by omega), if_neg c]; exact Or.inr ⟨rfl, rfl⟩
    · rw [up_ne _ _ q, up_ne _ _ q, up_ne _ _ (by omega), up_ne _ _ (by omega)]
      exact h7 i j hij (by omega)
theorem DT_addP {T : Nat → Nat → Int} (h : DT T) {k : Nat} {lf s p g : Int} (hk : T 1 3 = (k : Int)) (h8 : k < 6) (hlf : lf = 0 ∨ lf = 1) (hs : 0 ≤ s ∧ s < T 1 1) (hp : 1 ≤ p ∧ p ≤ 9) (hg : 0 ≤ g ∧ g < T 1 1) : DT (addP T k lf s p g) := by
  obtain ⟨h1, h2, h3, h4, h5, h6, h7⟩ := h
  have e13 : addP T k lf s p g 1 3 = (k : Int) + 1 := rfl
  have e14 : addP T k lf s p g 1 4 = T 1 4 + lf * (2 ^ k : Nat) := rfl
  have e8 : addP T k lf s p g 8 = up (T 8) k s := rfl
  have e6 : addP T k lf s p g 6 = up (T 6) k p := rfl
  have e7 : addP T k lf s p g 7 = up (T 7) k g := rfl
  refine ⟨h1, h2, by rw [e13]; omega, ?_, h5, fun j hj => ?_, h7⟩
  · rw [e13, e14, show ((k : Int) + 1).toNat = k + 1 by omega]
    rw [hk, Int.toNat_natCast] at h4
    have : ((2 ^ (k + 1) : Nat) : Int) = 2 * ((2 ^ k : Nat) : Int) := by rw [Nat.pow_succ]; omega
    rw [this]
    have hp2 : (0 : Int) ≤ ((2 ^ k : Nat) : Int) := Int.natCast_nonneg _
    generalize ((2 ^ k : Nat) : Int) = x at *
    rcases hlf with rfl | rfl <;> omega
  · rw [e13] at hj
    rw [e8, e6, e7]
    show _ ∧ _ ∧ _ ∧ _ < T 1 1 ∧ _ ∧ _ < T 1 1
    by_cases q : j = k
    · subst q
      rw [up_at, up_at, up_at]
      omega
    · rw [up_ne _ _ q, up_ne _ _ q, up_ne _ _ q]
      exact h6 j (by omega)
