def am_bq (r : am_R) (k : Option Value → am_H → am_R) : am_R := match r with
  | none => none
  | some q => k q.1 q.2
theorem am_bq_some (v : Option Value) (A : am_H) (k : Option Value → am_H → am_R) : am_bq (some (v, A)) k = k v A := rfl
def am_bv (r : Option Value) (k : Value → am_R) : am_R := match r with
  | none => none
  | some v => k v
theorem am_bv_some (v : Value) (k : Value → am_R) : am_bv (some v) k = k v := rfl
def am_bi (v : Value) (k : Int32 → am_R) : am_R := match v with
  | .int x => k x
  | _ => none
theorem am_bi_int (x : Int32) (k : Int32 → am_R) : am_bi (.int x) k = k x := rfl
def am_bl (v : Value) (k : Int64 → am_R) : am_R := match v with
  | .long x => k x
  | _ => none
theorem am_bl_long (x : Int64) (k : Int64 → am_R) : am_bl (.long x) k = k x := rfl
def am_br (v : Value) (k : Nat → am_R) : am_R := match v with
  | .ref x => k x
  | _ => none
theorem am_br_ref (x : Nat) (k : Nat → am_R) : am_br (.ref x) k = k x := rfl
def am_bh (r : Option am_H) (k : am_H → am_R) : am_R := match r with
  | none => none
  | some A => k A
theorem am_bh_some (A : am_H) (k : am_H → am_R) : am_bh (some A) k = k A := rfl
theorem am_run_go {d M pc : Nat} {ls st : List Value} {A : am_H} {e : am_E} {c : am_C} (h : am_tab M pc = some e) (hd : am_dec M d pc ls st A e = .inr (.inl c)) : am_run d M pc ls st A = am_rn c := by
  unfold am_run
  rw [am_rn_eq]
  unfold am_F am_D
  dsimp only
  rw [h]
  dsimp only
  rw [hd]
theorem am_run_end {d M pc : Nat} {ls st : List Value} {A : am_H} {e : am_E} {r : am_R} (h : am_tab M pc = some e) (hd : am_dec M d pc ls st A e = .inl r) : am_run d M pc ls st A = r := by
  unfold am_run
  rw [am_rn_eq]
  unfold am_F am_D
  dsimp only
  rw [h]
  dsimp only
  rw [hd]
theorem am_run_cl {d M pc : Nat} {ls st : List Value} {A : am_H} {e : am_E} (h : am_tab M pc = some e) (K : Nat) (as rest : List Value) (hd : am_dec M (d + 1) pc ls st A e = am_cl K (d + 1) M pc ls st A) (hst : st = as.reverse ++ rest) (hn : as.length = am_nr K) (hw : am_wd rest ≤ 8) (hf : (as.flatMap am_fl).length ≤ (am_k K).2.2.2.1) : am_run (d + 1) M pc ls st A = am_bq (am_call d K as A) fun v A' => am_run (d + 1) M (pc + 3) ls (v.toList ++ rest) A' := by
  unfold am_run am_call
  rw [am_rn_eq]
  unfold am_F am_D
  dsimp only
  rw [h]
  dsimp only
  rw [hd]
  unfold am_cl
  dsimp only
  have e1 : st.take (am_nr K) = as.reverse := by rw [hst, ← hn, ← List.length_reverse, List.take_left]
  have e2 : st.drop (am_nr K) = rest := by rw [hst, ← hn, ← List.length_reverse, List.drop_left]
  have e3 : am_nr K ≤ st.length := by rw [hst, ← hn, List.length_append, List.length_reverse]; omega
  rw [e1, e2, List.reverse_reverse]
  by_cases hc : am_rc K as A = true
  · rw [if_pos ⟨e3, hw, hc, hf⟩, if_pos hc]
    unfold am_run
    dsimp only
    cases am_rn (d, K, 0, am_lo K as, [], A) <;> rfl
  · rw [if_neg (fun z => hc z.2.2.1), if_neg hc]
    rfl
theorem am_run_get {d M pc : Nat} {ls st : List Value} {A : am_H} {i l x y w : Nat} (h : am_tab M pc = some (.getfield i, l, x, y, w)) (a : Nat) : am_run d M pc ls (.ref a :: st) A = am_bv (am_gf x y A a) fun v => am_run d M (pc + 3) ls (v :: st) A := by
  cases hg : am_gf x y A a with
  | none =>
    refine am_run_end h ?_
    show (match am_op _ pc ls _ A with | none => (.inl none : am_T) | some q => _) = _
    have : am_op (.getfield i, l, x, y, w) pc ls (.ref a :: st) A = none := by show am_vo (am_gf x y A a) _ = none; rw [hg]; rfl
    rw [this]; rfl
  | some v =>
    refine am_run_go h ?_
    show (match am_op _ pc ls _ A with | none => (.inl none : am_T) | some q => _) = _
    have : am_op (.getfield i, l, x, y, w) pc ls (.ref a :: st) A = some (pc + 3, ls, v :: st, A) := by show am_vo (am_gf x y A a) _ = _; rw [hg]; rfl
    rw [this]
theorem am_run_put {d M pc : Nat} {ls st : List Value} {A : am_H} {i l x y w : Nat} (h : am_tab M pc = some (.putfield i, l, x, y, w)) (a : Nat) (v : Value) (hf : fits (am_ty x y) v = true) : am_run d M pc ls (v :: .ref a :: st) A = am_bh (am_pf x y A a v) fun A' => am_run d M (pc + 3) ls st A' := by
  cases hg : am_pf x y A a v with
  | none =>
    refine am_run_end h ?_
    show (match am_op _ pc ls _ A with | none => (.inl none : am_T) | some q => _) = _
    have : am_op (.putfield i, l, x, y, w) pc ls (v :: .ref a :: st) A = none := by show am_if (fits (am_ty x y) v = true) (am_ho (am_pf x y A a v) _) = none; rw [hg]; unfold am_if; split <;> rfl
    rw [this]; rfl
  | some A' =>
    refine am_run_go h ?_
    show (match am_op _ pc ls _ A with | none => (.inl none : am_T) | some q => _) = _
    have : am_op (.putfield i, l, x, y, w) pc ls (v :: .ref a :: st) A = some (pc + 3, ls, st, A') := by show am_if (fits (am_ty x y) v = true) (am_ho (am_pf x y A a v) _) = _; rw [hg]; unfold am_if; rw [if_pos hf]; rfl
    rw [this]
theorem am_run_ild {d M pc : Nat} {ls st : List Value} {A : am_H} {l x y w : Nat} (h : am_tab M pc = some (.iaload, l, x, y, w)) (a : Nat) (i : Int32) : am_run d M pc ls (.int i :: .ref a :: st) A = am_bv (am_rd (if a = 0 then 200 else 100) A a i) fun v => am_bi v fun z => am_run d M (pc + 1) ls (.int z :: st) A := by
  have e0 : am_op (.iaload, l, x, y, w) pc ls (.int i :: .ref a :: st) A = am_vo (am_rd (if a = 0 then 200 else 100) A a i) fun v => am_vi v fun z => some (pc + 1, ls, .int z :: st, A) := rfl
  cases hg : am_rd (if a = 0 then 200 else 100) A a i with
  | none =>
    refine am_run_end h ?_
    show (match am_op _ pc ls _ A with | none => (.inl none : am_T) | some q => _) = _
    rw [e0, hg]; rfl
  | some v =>
    cases v with
    | int z =>
      refine am_run_go h ?_
      show (match am_op _ pc ls _ A with | none => (.inl none : am_T) | some q => _) = _
      rw [e0, hg]; rfl
    | _ =>
      refine am_run_end h ?_
      show (match am_op _ pc ls _ A with | none => (.inl none : am_T) | some q => _) = _
      rw [e0, hg]; rfl
theorem am_run_bld {d M pc : Nat} {ls st : List Value} {A : am_H} {l x y w : Nat} (h : am_tab M pc = some (.baload, l, x, y, w)) (a : Nat) (i : Int32) : am_run d M pc ls (.int i :: .ref a :: st) A = am_bv (am_rd 102 A a i) fun v => am_bi v fun z => am_run d M (pc + 1) ls (.int z :: st) A := by
  have e0 : am_op (.baload, l, x, y, w) pc ls (.int i :: .ref a :: st) A = am_vo (am_rd 102 A a i) fun v => am_vi v fun z => some (pc + 1, ls, .int z :: st, A) := rfl
  cases hg : am_rd 102 A a i with
  | none =>
    refine am_run_end h ?_
    show (match am_op _ pc ls _ A with | none => (.inl none : am_T) | some q => _) = _
    rw [e0, hg]; rfl
  | some v =>
    cases v with
    | int z =>
      refine am_run_go h ?_
      show (match am_op _ pc ls _ A with | none => (.inl none : am_T) | some q => _) = _
      rw [e0, hg]; rfl
    | _ =>
      refine am_run_end h ?_
      show (match am_op _ pc ls _ A with | none => (.inl none : am_T) | some q => _) = _
      rw [e0, hg]; rfl
theorem am_run_lld {d M pc : Nat} {ls st : List Value} {A : am_H} {l x y w : Nat} (h : am_tab M pc = some (.laload, l, x, y, w)) (a : Nat) (i : Int32) : am_run d M pc ls (.int i :: .ref a :: st) A = am_bv (am_rd 101 A a i) fun v => am_bl v fun z => am_run d M (pc + 1) ls (.long z :: st) A := by
  have e0 : am_op (.laload, l, x, y, w) pc ls (.int i :: .ref a :: st) A = am_vo (am_rd 101 A a i) fun v => am_vl v fun z => some (pc + 1, ls, .long z :: st, A) := rfl
  cases hg : am_rd 101 A a i with
  | none =>
    refine am_run_end h ?_
    show (match am_op _ pc ls _ A with | none => (.inl none : am_T) | some q => _) = _
    rw [e0, hg]; rfl
  | some v =>
    cases v with
    | long z =>
      refine am_run_go h ?_
      show (match am_op _ pc ls _ A with | none => (.inl none : am_T) | some q => _) = _
      rw [e0, hg]; rfl
    | _ =>
      refine am_run_end h ?_
      show (match am_op _ pc ls _ A with | none => (.inl none : am_T) | some q => _) = _
      rw [e0, hg]; rfl
def am_rq (A : am_H) (a : Nat) (i : Int32) : Option Value := if (am_g A a).1 = 103 ∨ (am_g A a).1 = 104 then am_rd (am_g A a).1 A a i else none
theorem am_run_ald {d M pc : Nat} {ls st : List Value} {A : am_H} {l x y w : Nat} (h : am_tab M pc = some (.aaload, l, x, y, w)) (a : Nat) (i : Int32) : am_run d M pc ls (.int i :: .ref a :: st) A = am_bv (am_rq A a i) fun v => am_br v fun z => am_run d M (pc + 1) ls (.ref z :: st) A := by
  have e0 : am_op (.aaload, l, x, y, w) pc ls (.int i :: .ref a :: st) A = am_vo (am_rd (am_g A a).1 A a i) fun v => am_vr v fun z => am_if ((am_g A a).1 = 103 ∨ (am_g A a).1 = 104) (some (pc + 1, ls, .ref z :: st, A)) := rfl
  unfold am_rq
  by_cases hc : (am_g A a).1 = 103 ∨ (am_g A a).1 = 104
  · rw [if_pos hc]
    cases hg : am_rd (am_g A a).1 A a i with
    | none =>
      refine am_run_end h ?_
      show (match am_op _ pc ls _ A with | none => (.inl none : am_T) | some q => _) = _
      rw [e0, hg]; rfl
    | some v =>
      cases v with
      | ref z =>
        refine am_run_go h ?_
        show (match am_op _ pc ls _ A with | none => (.inl none : am_T) | some q => _) = _
        rw [e0, hg]
        show (match am_if _ _ with | none => (.inl none : am_T) | some q => _) = _
        unfold am_if
        rw [if_pos hc]
      | _ =>
        refine am_run_end h ?_
        show (match am_op _ pc ls _ A with | none => (.inl none : am_T) | some q => _) = _
        rw [e0, hg]; rfl
  · rw [if_neg hc]
    refine am_run_end h ?_
    show (match am_op _ pc ls _ A with | none => (.inl none : am_T) | some q => _) = _
    have : am_op (.aaload, l, x, y, w) pc ls (.int i :: .ref a :: st) A = none := by
      rw [e0]
      unfold am_if
      simp only [if_neg hc]
      unfold am_vo
      split
      next v hv => cases v <;> rfl
      next => rfl
    rw [this]; rfl
theorem am_run_ist {d M pc : Nat} {ls st : List Value} {A : am_H} {l x y w : Nat} (h : am_tab M pc = some (.iastore, l, x, y, w)) (a : Nat) (i v : Int32) : am_run d M pc ls (.int v :: .int i :: .ref a :: st) A = am_bh (am_wr 100 A a i (.int v)) fun A' => am_run d M (pc + 1) ls st A' := by
  have e0 : am_op (.iastore, l, x, y, w) pc ls (.int v :: .int i :: .ref a :: st) A = am_ho (am_wr 100 A a i (.int v)) fun A' => some (pc + 1, ls, st, A') := rfl
  cases hg : am_wr 100 A a i (.int v) with
  | none =>
    refine am_run_end h ?_
    show (match am_op _ pc ls _ A with | none => (.inl none : am_T) | some q => _) = _
    rw [e0, hg]; rfl
  | some A' =>
    refine am_run_go h ?_
    show (match am_op _ pc ls _ A with | none => (.inl none : am_T) | some q => _) = _
    rw [e0, hg]; rfl
theorem am_run_lst {d M pc : Nat} {ls st : List Value} {A : am_H} {l x y w : Nat} (h : am_tab M pc = some (.lastore, l, x, y, w)) (a : Nat) (i : Int32) (v : Int64) : am_run d M pc ls (.long v :: .int i :: .ref a :: st) A = am_bh (am_wr 101 A a i (.long v)) fun A' => am_run d M (pc + 1) ls st A' := by
  have e0 : am_op (.lastore, l, x, y, w) pc ls (.long v :: .int i :: .ref a :: st) A = am_ho (am_wr 101 A a i (.long v)) fun A' => some (pc + 1, ls, st, A') := rfl
  cases hg : am_wr 101 A a i (.long v) with
  | none =>
    refine am_run_end h ?_
    show (match am_op _ pc ls _ A with | none => (.inl none : am_T) | some q => _) = _
    rw [e0, hg]; rfl
  | some A' =>
    refine am_run_go h ?_
    show (match am_op _ pc ls _ A with | none => (.inl none : am_T) | some q => _) = _
    rw [e0, hg]; rfl
def am_wz (A : am_H) (a : Nat) (i v : Int32) : Option am_H := if fits .boolean (.int v) = true then am_wr 102 A a i (.int v) else none
theorem am_run_bst {d M pc : Nat} {ls st : List Value} {A : am_H} {l x y w : Nat} (h : am_tab M pc = some (.bastore, l, x, y, w)) (a : Nat) (i v : Int32) : am_run d M pc ls (.int v :: .int i :: .ref a :: st) A = am_bh (am_wz A a i v) fun A' => am_run d M (pc + 1) ls st A' := by
  have e0 : am_op (.bastore, l, x, y, w) pc ls (.int v :: .int i :: .ref a :: st) A = am_if (fits .boolean (.int v) = true) (am_ho (am_wr 102 A a i (.int v)) fun A' => some (pc + 1, ls, st, A')) := rfl
  unfold am_wz
  by_cases hc : fits .boolean (.int v) = true
  · rw [if_pos hc]
    unfold am_if at e0
    rw [if_pos hc] at e0
    cases hg : am_wr 102 A a i (.int v) with
    | none =>
      refine am_run_end h ?_
      show (match am_op _ pc ls _ A with | none => (.inl none : am_T) | some q => _) = _
      rw [e0, hg]; rfl
    | some A' =>
      refine am_run_go h ?_
      show (match am_op _ pc ls _ A with | none => (.inl none : am_T) | some q => _) = _
      rw [e0, hg]; rfl
  · rw [if_neg hc]
    unfold am_if at e0
    rw [if_neg hc] at e0
    refine am_run_end h ?_
    show (match am_op _ pc ls _ A with | none => (.inl none : am_T) | some q => _) = _
    rw [e0]; rfl
def am_wq (A : am_H) (a : Nat) (i : Int32) (v : Nat) : Option am_H := if ((am_g A a).1 = 103 ∧ (am_g A v).1 = 6) ∨ ((am_g A a).1 = 104 ∧ (am_g A v).1 = 5) then am_wr (am_g A a).1 A a i (.ref v) else none
theorem am_run_ast {d M pc : Nat} {ls st : List Value} {A : am_H} {l x y w : Nat} (h : am_tab M pc = some (.aastore, l, x, y, w)) (a : Nat) (i : Int32) (v : Nat) : am_run d M pc ls (.ref v :: .int i :: .ref a :: st) A = am_bh (am_wq A a i v) fun A' => am_run d M (pc + 1) ls st A' := by
  have e0 : am_op (.aastore, l, x, y, w) pc ls (.ref v :: .int i :: .ref a :: st) A = am_if (((am_g A a).1 = 103 ∧ (am_g A v).1 = 6) ∨ ((am_g A a).1 = 104 ∧ (am_g A v).1 = 5)) (am_ho (am_wr (am_g A a).1 A a i (.ref v)) fun A' => some (pc + 1, ls, st, A')) := rfl
  unfold am_wq
  by_cases hc : ((am_g A a).1 = 103 ∧ (am_g A v).1 = 6) ∨ ((am_g A a).1 = 104 ∧ (am_g A v).1 = 5)
  · rw [if_pos hc]
    unfold am_if at e0
    rw [if_pos hc] at e0
    cases hg : am_wr (am_g A a).1 A a i (.ref v) with
    | none =>
      refine am_run_end h ?_
      show (match am_op _ pc ls _ A with | none => (.inl none : am_T) | some q => _) = _
      rw [e0, hg]; rfl
    | some A' =>
      refine am_run_go h ?_
      show (match am_op _ pc ls _ A with | none => (.inl none : am_T) | some q => _) = _
      rw [e0, hg]; rfl
  · rw [if_neg hc]
    unfold am_if at e0
    rw [if_neg hc] at e0
    refine am_run_end h ?_
    show (match am_op _ pc ls _ A with | none => (.inl none : am_T) | some q => _) = _
    rw [e0]; rfl
theorem am_run_if_eq {d M pc : Nat} {ls st : List Value} {A : am_H} {off : Int} {l x y w : Nat} (h : am_tab M pc = some (.ifCond .eq off, l, x, y, w)) (s0 : Int32) : am_run d M pc ls (.int s0 :: st) A = if s0 = 0 then am_run d M x ls st A else am_run d M (pc + 3) ls st A := by
  split
  next g =>
    refine am_run_go h ?_
    show (match (if s0 = 0 then some (x, ls, st, A) else some (pc + 3, ls, st, A)) with | none => (.inl none : am_T) | some q => _) = _
    rw [if_pos g]
  next g =>
    refine am_run_go h ?_
    show (match (if s0 = 0 then some (x, ls, st, A) else some (pc + 3, ls, st, A)) with | none => (.inl none : am_T) | some q => _) = _
    rw [if_neg g]
theorem am_run_if_ne {d M pc : Nat} {ls st : List Value} {A : am_H} {off : Int} {l x y w : Nat} (h : am_tab M pc = some (.ifCond .ne off, l, x, y, w)) (s0 : Int32) : am_run d M pc ls (.int s0 :: st) A = if s0 = 0 then am_run d M (pc + 3) ls st A else am_run d M x ls st A := by
  split
  next g =>
    refine am_run_go h ?_
    show (match (if s0 = 0 then some (pc + 3, ls, st, A) else some (x, ls, st, A)) with | none => (.inl none : am_T) | some q => _) = _
    rw [if_pos g]
  next g =>
    refine am_run_go h ?_
    show (match (if s0 = 0 then some (pc + 3, ls, st, A) else some (x, ls, st, A)) with | none => (.inl none : am_T) | some q => _) = _
    rw [if_neg g]
theorem am_run_if_lt {d M pc : Nat} {ls st : List Value} {A : am_H} {off : Int} {l x y w : Nat} (h : am_tab M pc = some (.ifCond .lt off, l, x, y, w)) (s0 : Int32) : am_run d M pc ls (.int s0 :: st) A = if s0 < 0 then am_run d M x ls st A else am_run d M (pc + 3) ls st A := by
  split
  next g =>
    refine am_run_go h ?_
    show (match (if s0 < 0 then some (x, ls, st, A) else some (pc + 3, ls, st, A)) with | none => (.inl none : am_T) | some q => _) = _
    rw [if_pos g]
  next g =>
    refine am_run_go h ?_
    show (match (if s0 < 0 then some (x, ls, st, A) else some (pc + 3, ls, st, A)) with | none => (.inl none : am_T) | some q => _) = _
    rw [if_neg g]
theorem am_run_if_ge {d M pc : Nat} {ls st : List Value} {A : am_H} {off : Int} {l x y w : Nat} (h : am_tab M pc = some (.ifCond .ge off, l, x, y, w)) (s0 : Int32) : am_run d M pc ls (.int s0 :: st) A = if 0 ≤ s0 then am_run d M x ls st A else am_run d M (pc + 3) ls st A := by
  split
  next g =>
    refine am_run_go h ?_
    show (match (if 0 ≤ s0 then some (x, ls, st, A) else some (pc + 3, ls, st, A)) with | none => (.inl none : am_T) | some q => _) = _
    rw [if_pos g]
  next g =>
    refine am_run_go h ?_
    show (match (if 0 ≤ s0 then some (x, ls, st, A) else some (pc + 3, ls, st, A)) with | none => (.inl none : am_T) | some q => _) = _
    rw [if_neg g]
theorem am_run_if_gt {d M pc : Nat} {ls st : List Value} {A : am_H} {off : Int} {l x y w : Nat} (h : am_tab M pc = some (.ifCond .gt off, l, x, y, w)) (s0 : Int32) : am_run d M pc ls (.int s0 :: st) A = if 0 < s0 then am_run d M x ls st A else am_run d M (pc + 3) ls st A := by
  split
  next g =>
    refine am_run_go h ?_
    show (match (if 0 < s0 then some (x, ls, st, A) else some (pc + 3, ls, st, A)) with | none => (.inl none : am_T) | some q => _) = _
    rw [if_pos g]
  next g =>
    refine am_run_go h ?_
    show (match (if 0 < s0 then some (x, ls, st, A) else some (pc + 3, ls, st, A)) with | none => (.inl none : am_T) | some q => _) = _
    rw [if_neg g]
theorem am_run_if_le {d M pc : Nat} {ls st : List Value} {A : am_H} {off : Int} {l x y w : Nat} (h : am_tab M pc = some (.ifCond .le off, l, x, y, w)) (s0 : Int32) : am_run d M pc ls (.int s0 :: st) A = if s0 ≤ 0 then am_run d M x ls st A else am_run d M (pc + 3) ls st A := by
  split
  next g =>
    refine am_run_go h ?_
    show (match (if s0 ≤ 0 then some (x, ls, st, A) else some (pc + 3, ls, st, A)) with | none => (.inl none : am_T) | some q => _) = _
    rw [if_pos g]
  next g =>
    refine am_run_go h ?_
    show (match (if s0 ≤ 0 then some (x, ls, st, A) else some (pc + 3, ls, st, A)) with | none => (.inl none : am_T) | some q => _) = _
    rw [if_neg g]
theorem am_run_ic_eq {d M pc : Nat} {ls st : List Value} {A : am_H} {off : Int} {l x y w : Nat} (h : am_tab M pc = some (.if_icmp .eq off, l, x, y, w)) (s1 s0 : Int32) : am_run d M pc ls (.int s0 :: .int s1 :: st) A = if s1 = s0 then am_run d M x ls st A else am_run d M (pc + 3) ls st A := by
  split
  next g =>
    refine am_run_go h ?_
    show (match (if s1 = s0 then some (x, ls, st, A) else some (pc + 3, ls, st, A)) with | none => (.inl none : am_T) | some q => _) = _
    rw [if_pos g]
  next g =>
    refine am_run_go h ?_
    show (match (if s1 = s0 then some (x, ls, st, A) else some (pc + 3, ls, st, A)) with | none => (.inl none : am_T) | some q => _) = _
    rw [if_neg g]
theorem am_run_ic_ne {d M pc : Nat} {ls st : List Value} {A : am_H} {off : Int} {l x y w : Nat} (h : am_tab M pc = some (.if_icmp .ne off, l, x, y, w)) (s1 s0 : Int32) : am_run d M pc ls (.int s0 :: .int s1 :: st) A = if s1 = s0 then am_run d M (pc + 3) ls st A else am_run d M x ls st A := by
  split
  next g =>
    refine am_run_go h ?_
    show (match (if s1 = s0 then some (pc + 3, ls, st, A) else some (x, ls, st, A)) with | none => (.inl none : am_T) | some q => _) = _
    rw [if_pos g]
  next g =>
    refine am_run_go h ?_
    show (match (if s1 = s0 then some (pc + 3, ls, st, A) else some (x, ls, st, A)) with | none => (.inl none : am_T) | some q => _) = _
    rw [if_neg g]
theorem am_run_ic_lt {d M pc : Nat} {ls st : List Value} {A : am_H} {off : Int} {l x y w : Nat} (h : am_tab M pc = some (.if_icmp .lt off, l, x, y, w)) (s1 s0 : Int32) : am_run d M pc ls (.int s0 :: .int s1 :: st) A = if s1 < s0 then am_run d M x ls st A else am_run d M (pc + 3) ls st A := by
  split
  next g =>
    refine am_run_go h ?_
    show (match (if s1 < s0 then some (x, ls, st, A) else some (pc + 3, ls, st, A)) with | none => (.inl none : am_T) | some q => _) = _
    rw [if_pos g]
  next g =>
    refine am_run_go h ?_
    show (match (if s1 < s0 then some (x, ls, st, A) else some (pc + 3, ls, st, A)) with | none => (.inl none : am_T) | some q => _) = _
    rw [if_neg g]
theorem am_run_ic_ge {d M pc : Nat} {ls st : List Value} {A : am_H} {off : Int} {l x y w : Nat} (h : am_tab M pc = some (.if_icmp .ge off, l, x, y, w)) (s1 s0 : Int32) : am_run d M pc ls (.int s0 :: .int s1 :: st) A = if s0 ≤ s1 then am_run d M x ls st A else am_run d M (pc + 3) ls st A := by
  split
  next g =>
    refine am_run_go h ?_
    show (match (if s0 ≤ s1 then some (x, ls, st, A) else some (pc + 3, ls, st, A)) with | none => (.inl none : am_T) | some q => _) = _
    rw [if_pos g]
  next g =>
    refine am_run_go h ?_
    show (match (if s0 ≤ s1 then some (x, ls, st, A) else some (pc + 3, ls, st, A)) with | none => (.inl none : am_T) | some q => _) = _
    rw [if_neg g]
theorem am_run_ic_gt {d M pc : Nat} {ls st : List Value} {A : am_H} {off : Int} {l x y w : Nat} (h : am_tab M pc = some (.if_icmp .gt off, l, x, y, w)) (s1 s0 : Int32) : am_run d M pc ls (.int s0 :: .int s1 :: st) A = if s0 < s1 then am_run d M x ls st A else am_run d M (pc + 3) ls st A := by
  split
  next g =>
    refine am_run_go h ?_
    show (match (if s0 < s1 then some (x, ls, st, A) else some (pc + 3, ls, st, A)) with | none => (.inl none : am_T) | some q => _) = _
    rw [if_pos g]
  next g =>
    refine am_run_go h ?_
    show (match (if s0 < s1 then some (x, ls, st, A) else some (pc + 3, ls, st, A)) with | none => (.inl none : am_T) | some q => _) = _
    rw [if_neg g]
theorem am_run_ic_le {d M pc : Nat} {ls st : List Value} {A : am_H} {off : Int} {l x y w : Nat} (h : am_tab M pc = some (.if_icmp .le off, l, x, y, w)) (s1 s0 : Int32) : am_run d M pc ls (.int s0 :: .int s1 :: st) A = if s1 ≤ s0 then am_run d M x ls st A else am_run d M (pc + 3) ls st A := by
  split
  next g =>
    refine am_run_go h ?_
    show (match (if s1 ≤ s0 then some (x, ls, st, A) else some (pc + 3, ls, st, A)) with | none => (.inl none : am_T) | some q => _) = _
    rw [if_pos g]
  next g =>
    refine am_run_go h ?_
    show (match (if s1 ≤ s0 then some (x, ls, st, A) else some (pc + 3, ls, st, A)) with | none => (.inl none : am_T) | some q => _) = _
    rw [if_neg g]
theorem am_run_idiv {d M pc : Nat} {ls st : List Value} {A : am_H} {l x y w : Nat} (h : am_tab M pc = some (.idiv, l, x, y, w)) (s1 s0 : Int32) (h0 : ¬ s0 = 0) : am_run d M pc ls (.int s0 :: .int s1 :: st) A = am_run d M (pc + 1) ls (.int (s1 / s0) :: st) A := by
  refine am_run_go h ?_
  show (match am_if (¬ s0 = 0) (some (pc + 1, ls, .int (s1 / s0) :: st, A)) with | none => (.inl none : am_T) | some q => _) = _
  unfold am_if
  rw [if_pos h0]
theorem am_run_irem {d M pc : Nat} {ls st : List Value} {A : am_H} {l x y w : Nat} (h : am_tab M pc = some (.irem, l, x, y, w)) (s1 s0 : Int32) (h0 : ¬ s0 = 0) : am_run d M pc ls (.int s0 :: .int s1 :: st) A = am_run d M (pc + 1) ls (.int (s1 - s1 / s0 * s0) :: st) A := by
  refine am_run_go h ?_
  show (match am_if (¬ s0 = 0) (some (pc + 1, ls, .int (s1 - s1 / s0 * s0) :: st, A)) with | none => (.inl none : am_T) | some q => _) = _
  unfold am_if
  rw [if_pos h0]
theorem am_run_ldiv {d M pc : Nat} {ls st : List Value} {A : am_H} {l x y w : Nat} (h : am_tab M pc = some (.ldiv, l, x, y, w)) (s1 s0 : Int64) (h0 : ¬ s0 = 0) : am_run d M pc ls (.long s0 :: .long s1 :: st) A = am_run d M (pc + 1) ls (.long (s1 / s0) :: st) A := by
  refine am_run_go h ?_
  show (match am_if (¬ s0 = 0) (some (pc + 1, ls, .long (s1 / s0) :: st, A)) with | none => (.inl none : am_T) | some q => _) = _
  unfold am_if
  rw [if_pos h0]
theorem am_run_lrem {d M pc : Nat} {ls st : List Value} {A : am_H} {l x y w : Nat} (h : am_tab M pc = some (.lrem, l, x, y, w)) (s1 s0 : Int64) (h0 : ¬ s0 = 0) : am_run d M pc ls (.long s0 :: .long s1 :: st) A = am_run d M (pc + 1) ls (.long (s1 - s1 / s0 * s0) :: st) A := by
  refine am_run_go h ?_
  show (match am_if (¬ s0 = 0) (some (pc + 1, ls, .long (s1 - s1 / s0 * s0) :: st, A)) with | none => (.inl none : am_T) | some q => _) = _
  unfold am_if
  rw [if_pos h0]
theorem am_run_ir {d M pc : Nat} {ls : List Value} {A : am_H} {l x y w : Nat} (h : am_tab M pc = some (.ireturn, l, x, y, w)) (hk : (am_k M).2.2.2.2 = 0) (v : Int32) : am_run d M pc ls [.int v] A = some (some (.int v), A) := by
  refine am_run_end h ?_
  show (Sum.inl (if (am_k M).2.2.2.2 = 1 → (v = Int32.ofInt 0 ∨ v = Int32.ofInt 1) then some (some (Value.int v), A) else none) : am_T) = _
  have g : (am_k M).2.2.2.2 = 1 → (v = Int32.ofInt 0 ∨ v = Int32.ofInt 1) := fun z => by omega
  rw [if_pos g]
theorem am_run_zr {d M pc : Nat} {ls : List Value} {A : am_H} {l x y w : Nat} (h : am_tab M pc = some (.ireturn, l, x, y, w)) (hk : (am_k M).2.2.2.2 = 1) (v : Int32) : am_run d M pc ls [.int v] A = if v = Int32.ofInt 0 ∨ v = Int32.ofInt 1 then some (some (.int v), A) else none := by
  refine am_run_end h ?_
  show (Sum.inl (if (am_k M).2.2.2.2 = 1 → (v = Int32.ofInt 0 ∨ v = Int32.ofInt 1) then some (some (Value.int v), A) else none) : am_T) = _
  by_cases g : v = Int32.ofInt 0 ∨ v = Int32.ofInt 1
  · rw [if_pos g, if_pos (fun _ => g)]
  · rw [if_neg g, if_neg (fun z => g (z hk))]
theorem am_ne_toInt {v : Int32} {k : Int} (h : ¬ v = Int32.ofInt k) : v.toInt ≠ k := fun e => h (by rw [← e, Int32.ofInt_toInt])
theorem am_run_sw {d M pc : Nat} {ls st : List Value} {A : am_H} {dflt lo hi : Int} {offs : Array Int} {l x y w : Nat} (h : am_tab M pc = some (.tableswitch dflt lo hi offs, l, x, y, w)) (v : Int32) : am_run d M pc ls (.int v :: st) A = if v.toInt < lo ∨ hi < v.toInt then am_run d M ((pc : Int) + dflt).toNat ls st A else match offs[(v.toInt - lo).toNat]? with
    | some off => am_run d M ((pc : Int) + off).toNat ls st A
    | none => none := by
  have e0 : am_op (.tableswitch dflt lo hi offs, l, x, y, w) pc ls (.int v :: st) A = if v.toInt < lo ∨ hi < v.toInt then some (((pc : Int) + dflt).toNat, ls, st, A) else match offs[(v.toInt - lo).toNat]? with
    | some off => some (((pc : Int) + off).toNat, ls, st, A)
    | none => none := rfl
  by_cases g : v.toInt < lo ∨ hi < v.toInt
  · rw [if_pos g]
    rw [if_pos g] at e0
    refine am_run_go h ?_
    show (match am_op _ pc ls _ A with | none => (.inl none : am_T) | some q => _) = _
    rw [e0]
  · rw [if_neg g]
    rw [if_neg g] at e0
    cases ho : offs[(v.toInt - lo).toNat]? with
    | none =>
      rw [ho] at e0
      refine am_run_end h ?_
      show (match am_op _ pc ls _ A with | none => (.inl none : am_T) | some q => _) = _
      rw [e0]
    | some off =>
      rw [ho] at e0
      refine am_run_go h ?_
      show (match am_op _ pc ls _ A with | none => (.inl none : am_T) | some q => _) = _
      rw [e0]
