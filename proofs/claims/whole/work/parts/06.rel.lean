def am_ad (b B : Nat) : Nat → Nat
  | 0 => b
  | i + 1 => B + i
def am_v (b B : Nat) : Value → Value
  | .ref i => .ref (am_ad b B i)
  | v => v
theorem am_v_cat (b B : Nat) (v : Value) : (am_v b B v).category = v.category := by cases v <;> rfl
theorem am_wd_map (b B : Nat) (st : List Value) : ((st.map (am_v b B)).map fun v => v.category).sum = am_wd st := by
  unfold am_wd
  rw [List.map_map]
  congr 1
  apply List.map_congr_left
  intro v _
  exact am_v_cat b B v
abbrev am_G : Type := (Nat → ClassId) × (Nat → Nat → Nat) × (Nat → ClassId)
def am_tys (D : am_G) : List (ClassId × FieldType) := [(D.2.2 100, .int), (D.2.2 101, .long), (D.2.2 102, .boolean), (D.2.2 103, .object "OneSkate$Standing"), (D.2.2 104, .object "OneSkate$Slot")]
def am_Y (D : am_G) (s : State) : Prop := va_K (D.1, D.2.1) vwCl (am_tys D) s ∧ (∀ a i x h, Cond.methodLinkNest a i x h ∈ lw_tbl → va_Nw (.methodLinkNest a i x h) s) ∧ va_AO "OneSkate$Standing" s ∧ va_AO "OneSkate$Slot" s
theorem am_Y.warm {D : am_G} {s U : State} (hW : s.WarmedH U.vm) (h : am_Y D s) : am_Y D U :=
  ⟨h.1.moved hW.alike, fun a i x z hz => va_Nw.warmM hW (h.2.1 a i x z hz), h.2.2.1.moved hW.alike, h.2.2.2.moved hW.alike⟩
theorem am_Y.same {D : am_G} {s U : State} (hv : s.vm = U.vm) (h : am_Y D s) : am_Y D U := by
  have ha : s.vm.Alike U.vm := by rw [hv]; exact Vm.Alike.refl U.vm
  exact ⟨h.1.moved ha, fun a i x z hz => va_Nw.same rfl hv (h.2.1 a i x z hz), h.2.2.1.moved ha, h.2.2.2.moved ha⟩
def am_at (D : am_G) (b B a : Nat) (c : Nat × List Value) (H : Heap) : Prop :=
  (c.1 < 100 ∧ ∃ r : vw_C, vwCl[c.1]? = some r ∧ t_OB a (D.1 c.1) r.2.2 (D.2.1 c.1) H (vp_V (c.2.map (am_v b B)))) ∨ (100 ≤ c.1 ∧ H[a]? = some (arrV (D.2.2 c.1) c.2.length (fun j => am_v b B (c.2.getD j .null))))
theorem am_at.kept {D : am_G} {b B a : Nat} {c : Nat × List Value} {H H1 : Heap} (h : am_at D b B a c H) (h1 : H1[a]? = H[a]?) : am_at D b B a c H1 := by
  rcases h with ⟨h0, r, hr, ho⟩ | ⟨h0, h⟩
  · exact Or.inl ⟨h0, r, hr, ho.kept h1⟩
  · exact Or.inr ⟨h0, h1.trans h⟩
def am_Hp (D : am_G) (b B : Nat) (A : am_H) (s : State) (H : Heap) : Prop := b < B ∧ H.size + 1 = B + A.length ∧ (∃ (L : Nat) (xs : Nat → Int32), A[0]? = some (200, (List.range L).map fun j => .int (xs j)) ∧ va_X b L xs s H) ∧ ∀ (i : Nat) (c : Nat × List Value), A[i + 1]? = some c → am_at D b B (B + i) c H
theorem am_Hp.moved {D : am_G} {b B : Nat} {A : am_H} {u U : State} {H : Heap} (hvm : u.vm.Alike U.vm) (h : am_Hp D b B A u H) : am_Hp D b B A U H := by
  obtain ⟨h0, h1, ⟨L, xs, h2, h3⟩, h4⟩ := h
  exact ⟨h0, h1, ⟨L, xs, h2, h3.moved hvm⟩, h4⟩
theorem am_Hp.upd {D : am_G} {b B : Nat} {A : am_H} {s : State} {H H1 : Heap} (h : am_Hp D b B A s H) {i : Nat} {c : Nat × List Value} (hi : i + 1 < A.length) (hc : am_at D b B (B + i) c H1) (hz : H1.size = H.size) (ho : ∀ q, q ≠ B + i → H1[q]? = H[q]?) : am_Hp D b B (am_p A (i + 1) c) s H1 := by
  obtain ⟨h0, h1, ⟨L, xs, h2, h3⟩, h4⟩ := h
  refine ⟨h0, by rw [hz, h1, am_len_p _ _ _ hi], ⟨L, xs, ?_, h3.kept (ho b (by omega))⟩, ?_⟩
  · rw [am_p_set _ _ _ hi, List.getElem?_set_ne (by omega)]; exact h2
  · intro j d hd
    rw [am_p_set _ _ _ hi] at hd
    by_cases hj : j = i
    · subst hj
      rw [List.getElem?_set_self hi] at hd
      cases hd
      exact hc
    · rw [List.getElem?_set_ne (by omega)] at hd
      exact (h4 j d hd).kept (ho _ (by omega))
theorem am_Hp.push {D : am_G} {b B : Nat} {A : am_H} {s : State} {H H1 : Heap} (h : am_Hp D b B A s H) {c : Nat × List Value} (hz : H1.size = H.size + 1) (hc : am_at D b B H.size c H1) (ho : ∀ q, q < H.size → H1[q]? = H[q]?) : am_Hp D b B (A ++ [c]) s H1 := by
  obtain ⟨h0, h1, ⟨L, xs, h2, h3⟩, h4⟩ := h
  have hl : 0 < A.length := (List.getElem?_eq_some_iff.mp h2).1
  refine ⟨h0, by rw [hz, List.length_append]; simp; omega, ⟨L, xs, ?_, h3.kept (ho b (by omega))⟩, ?_⟩
  · rw [List.getElem?_append_left hl]; exact h2
  · intro j d hd
    by_cases hj : j + 1 < A.length
    · rw [List.getElem?_append_left hj] at hd
      exact (h4 j d hd).kept (ho _ (by omega))
    · rw [List.getElem?_append_right (by omega)] at hd
      have hk : j + 1 - A.length < 1 := by simpa using (List.getElem?_eq_some_iff.mp hd).1
      have e1 : j + 1 - A.length = 0 := by omega
      rw [e1] at hd
      simp at hd
      subst hd
      have e2 : B + j = H.size := by omega
      rw [e2]
      exact hc
theorem am_ne0 {D : am_G} {b B : Nat} {A : am_H} {s : State} {H : Heap} (h : am_Hp D b B A s H) {a : Nat} (ha : (am_g A a).1 ≠ 200) : a ≠ 0 := by
  intro e
  subst e
  obtain ⟨-, -, ⟨L, xs, h2, -⟩, -⟩ := h
  rw [am_g_some h2] at ha
  exact ha rfl
/-- a cell by its number -/
theorem am_cell {D : am_G} {b B : Nat} {A : am_H} {s : State} {H : Heap} (h : am_Hp D b B A s H) {a : Nat} (h1 : (am_g A a).1 ≠ 200) (h2 : (am_g A a).1 ≠ 999) : ∃ i, a = i + 1 ∧ i + 1 < A.length ∧ am_at D b B (B + i) (am_g A a) H ∧ am_v b B (.ref a) = .ref (B + i) := by
  have h0 := am_ne0 h h1
  obtain ⟨i, rfl⟩ : ∃ i, a = i + 1 := ⟨a - 1, by omega⟩
  have hs := am_g_lt h2
  exact ⟨i, rfl, (List.getElem?_eq_some_iff.mp hs).1, h.2.2.2 i _ hs, rfl⟩
theorem am_arrV_congr (cA : ClassId) (n : Nat) (f g : Nat → Value) (h : ∀ j, j < n → f j = g j) : arrV cA n f = arrV cA n g := by
  unfold arrV
  congr 1
  apply congrArg
  funext j
  exact h j.val j.isLt
def am_L (b B nL : Nat) (ls : List Value) (lsJ : Array Slot) : Prop := ∃ lv, lv_has lsJ nL lv ∧ ls.length = nL ∧ ∀ i v, ls[i]? = some v → v ≠ .null → (i, am_v b B v) ∈ lv
theorem am_L.get {b B nL : Nat} {ls : List Value} {lsJ : Array Slot} (h : am_L b B nL ls lsJ) {i : Nat} {v : Value} (hi : ls[i]? = some v) (hv : v ≠ .null) : lsJ[i]? = some (.val (am_v b B v)) := by
  obtain ⟨lv, h1, -, h3⟩ := h
  exact h1.2.2 _ (h3 i v hi hv)
theorem am_kill_len (ls : List Value) (i : Nat) : (am_kill ls i).length = ls.length := by
  cases i with
  | zero => rfl
  | succ i =>
    simp only [am_kill]
    split
    · split
      · simp
      · rfl
    · rfl
theorem am_kill_at {ls : List Value} {i j : Nat} {w : Value} (h : (am_kill ls i)[j]? = some w) (hw : w ≠ .null) : ls[j]? = some w ∧ ¬ (j + 1 = i ∧ w.category = 2) := by
  cases i with
  | zero => exact ⟨h, fun q => by omega⟩
  | succ i =>
    simp only [am_kill] at h
    split at h
    next v hv =>
      split at h
      next hc =>
        by_cases hj : j = i
        · subst hj
          have hl : j < ls.length := (List.getElem?_eq_some_iff.mp hv).1
          rw [List.getElem?_set_self hl] at h
          exact absurd (Option.some.inj h).symm hw
        · rw [List.getElem?_set_ne (fun q => hj q.symm)] at h
          exact ⟨h, fun q => hj (by omega)⟩
      next hc =>
        refine ⟨h, fun q => hc ?_⟩
        have e : j = i := by omega
        subst e
        rw [hv] at h
        rw [Option.some.inj h]
        exact q.2
    next hv =>
      refine ⟨h, fun q => ?_⟩
      have e : j = i := by omega
      subst e
      rw [hv] at h
      cases h
theorem am_L.st1 {b B nL : Nat} {ls : List Value} {lsJ' : Array Slot} {lv : List (Nat × Value)} {i : Nat} {v : Value} (hlen : ls.length = nL) (hm : ∀ i v, ls[i]? = some v → v ≠ .null → (i, am_v b B v) ∈ lv) (hi : i < ls.length)
    (hl : lv_has lsJ' nL ((i, am_v b B v) :: lv.filter (fun q => !(q.1 == i) && !(q.1 + 1 == i && q.2.category == 2)))) : am_L b B nL (am_st1 ls i v) lsJ' := by
  refine ⟨_, hl, by simp [am_st1, am_kill_len, hlen], ?_⟩
  intro j w hj hw
  unfold am_st1 at hj
  by_cases hji : j = i
  · subst hji
    rw [List.getElem?_set_self (by rw [am_kill_len]; exact hi)] at hj
    cases hj
    exact List.mem_cons_self
  · rw [List.getElem?_set_ne (fun q => hji q.symm)] at hj
    obtain ⟨h1, h2⟩ := am_kill_at hj hw
    refine List.mem_cons_of_mem _ (List.mem_filter.mpr ⟨hm j w h1 hw, ?_⟩)
    have e1 : (j == i) = false := by simpa using hji
    rw [e1]
    by_cases h3 : j + 1 = i
    · have : w.category ≠ 2 := fun q => h2 ⟨h3, q⟩
      simp [am_v_cat, this]
    · simp [h3]
theorem am_L.st2 {b B nL : Nat} {ls : List Value} {lsJ' : Array Slot} {lv : List (Nat × Value)} {i : Nat} {v : Value} (hlen : ls.length = nL) (hm : ∀ i v, ls[i]? = some v → v ≠ .null → (i, am_v b B v) ∈ lv) (hi : i + 1 < ls.length)
    (hl : lv_has lsJ' nL ((i, am_v b B v) :: lv.filter (fun q => !(q.1 == i) && (!(q.1 == i + 1) && !(q.1 + 1 == i && q.2.category == 2))))) : am_L b B nL (am_st2 ls i v) lsJ' := by
  refine ⟨_, hl, by simp [am_st2, am_kill_len, hlen], ?_⟩
  intro j w hj hw
  unfold am_st2 at hj
  by_cases hj1 : j = i + 1
  · subst hj1
    rw [List.getElem?_set_self (by rw [List.length_set, am_kill_len]; exact hi)] at hj
    exact absurd (Option.some.inj hj).symm hw
  rw [List.getElem?_set_ne (fun q => hj1 q.symm)] at hj
  by_cases hji : j = i
  · subst hji
    rw [List.getElem?_set_self (by rw [am_kill_len]; omega)] at hj
    cases hj
    exact List.mem_cons_self
  · rw [List.getElem?_set_ne (fun q => hji q.symm)] at hj
    obtain ⟨h1, h2⟩ := am_kill_at hj hw
    refine List.mem_cons_of_mem _ (List.mem_filter.mpr ⟨hm j w h1 hw, ?_⟩)
    have e1 : (j == i) = false := by simpa using hji
    have e2 : (j == i + 1) = false := by simpa using hj1
    rw [e1, e2]
    by_cases h3 : j + 1 = i
    · have : w.category ≠ 2 := fun q => h2 ⟨h3, q⟩
      simp [am_v_cat, this]
    · simp [h3]
theorem am_lo_args (b B : Nat) (as : List Value) : ∀ (k i : Nat) (v : Value), (as.flatMap am_fl)[i]? = some v → v ≠ .null → (k + i, am_v b B v) ∈ lv_args k (as.map (am_v b B)) := by
  induction as with
  | nil => intro k i v h; simp at h
  | cons a t ih =>
    intro k i v h hv
    rw [List.flatMap_cons] at h
    rw [List.map_cons, lv_args, am_v_cat]
    by_cases hc : a.category = 2
    · rw [show am_fl a = [a, .null] by unfold am_fl; rw [if_pos hc]] at h
      rw [if_pos hc]
      match i, h with
      | 0, h => simp at h; subst h; exact List.mem_cons_self
      | 1, h => simp at h; exact absurd h.symm hv
      | i + 2, h =>
        have h' : (t.flatMap am_fl)[i]? = some v := by simpa using h
        have := ih (k + 2) i v h' hv
        rw [show k + (i + 2) = k + 2 + i by omega]
        exact List.mem_cons_of_mem _ this
    · rw [show am_fl a = [a] by unfold am_fl; rw [if_neg hc]] at h
      rw [if_neg hc]
      match i, h with
      | 0, h => simp at h; subst h; exact List.mem_cons_self
      | i + 1, h =>
        have h' : (t.flatMap am_fl)[i]? = some v := by simpa using h
        have := ih (k + 1) i v h' hv
        rw [show k + (i + 1) = k + 1 + i by omega]
        exact List.mem_cons_of_mem _ this
theorem am_sl_len (b B : Nat) (as : List Value) : (lg_sl (as.map (am_v b B))).length = (as.flatMap am_fl).length := by
  induction as with
  | nil => rfl
  | cons a t ih =>
    unfold lg_sl at ih ⊢
    rw [List.map_cons, List.flatMap_cons, List.flatMap_cons, List.length_append, List.length_append, ih, am_v_cat]
    unfold am_fl
    split <;> rfl
theorem am_L.entry (b B : Nat) (K : Nat) (as : List Value) (h : (as.flatMap am_fl).length ≤ (am_k K).2.2.2.1) : am_L b B (am_k K).2.2.2.1 (am_lo K as) ((lg_sl (as.map (am_v b B)) ++ List.replicate ((am_k K).2.2.2.1 - (lg_sl (as.map (am_v b B))).length) Slot.unset).toArray) := by
  refine ⟨_, lv_entry (as.map (am_v b B)) (by rw [am_sl_len]; exact h), by unfold am_lo; rw [List.length_append, List.length_replicate]; omega, ?_⟩
  intro i v hi hv
  unfold am_lo at hi
  by_cases hl : i < (as.flatMap am_fl).length
  · rw [List.getElem?_append_left hl] at hi
    have := am_lo_args b B as 0 i v hi hv
    rwa [Nat.zero_add] at this
  · rw [List.getElem?_append_right (by omega)] at hi
    rw [List.getElem?_replicate] at hi
    split at hi
    · exact absurd (Option.some.inj hi).symm hv
    · cases hi
