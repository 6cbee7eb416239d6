def am_ro (M pc : Nat) (r : Option Value) : Prop := match r with
  | none => decode (am_b M) pc = .ok (.return_, 1) ∧ am_rt M = none
  | some (.int v) => decode (am_b M) pc = .ok (.ireturn, 1) ∧ ∃ ty, am_rt M = some ty ∧ narrow ty (.int v) = .int v
  | some (.long _) => decode (am_b M) pc = .ok (.lreturn, 1) ∧ am_rt M = some .long
  | _ => False
def am_rm (d k n : Nat) : Room := { frames := d, cells := k, slots := n, locals := 64 * d }
def am_ws (K : Nat) : List Cond := Cond.code (am_y K) (am_b K) (am_k K).2.2.2.1 (am_rt K) :: am_tb
def am_Pc (D : am_G) (b B : Nat) (as : List Value) (A : am_H) : Array Value → State → Prop := fun v U => v = (as.map (am_v b B)).toArray ∧ am_Y D U ∧ am_Hp D b B A U U.heap
def am_Qc (D : am_G) (b B : Nat) (r : Option Value) (A : am_H) : Array Value → State → Outcome → State → Prop := fun _ _ o t => o = .returned (r.map (am_v b B)) ∧ am_Hp D b B A t t.heap
def am_WK (n : Nat) : Prop := ∀ (d M pc : Nat) (ls st : List Value) (A : am_H) (r : Option Value) (A' : am_H), am_ex n (d, M, pc, ls, st, A) = some (r, A') →
  ∀ (p : Program) (l : Launch) (e : Env) (R : Room) (s : State) (m : MethodId) (args : Array Value) (below : List Frame) (meth : Method) (c : Code) (Q : State → Prop) (D : am_G) (b B : Nat) (H : Heap) (locs : List Loc) (lsJ : Array Slot) (n0 z0 : Nat),
    am_Kx M p s m args meth c → am_Y D s → am_Hp D b B A s H → am_L b B (am_k M).2.2.2.1 ls lsJ → (∀ z ∈ locs, B ≤ z.base) → d ≤ R.frames → 64 * d ≤ R.locals → n0 ≤ A.length → z0 ≤ am_sz A → A'.length ≤ n0 + R.cells → am_sz A' ≤ z0 + R.slots →
    (∀ (H' : Heap) (locs' : List Loc) (lsJ' : Array Slot) (pc' : Nat), am_Hp D b B A' s H' → (∀ z ∈ locs', B ≤ z.base) → am_ro M pc' r → W p l e R s m args below meth c H' locs' (A'.length - n0) (am_sz A' - z0) Q (F0 m pc' lsJ' (r.toList.map (am_v b B)))) →
    W p l e R s m args below meth c H locs (A.length - n0) (am_sz A - z0) Q (F0 m pc lsJ (st.map (am_v b B)))
/-- what is known of a method by its number -/
def am_kn (K : Nat) : Prop := Cond.code (am_y K) (am_b K) (am_k K).2.2.2.1 (am_rt K) ∈ am_tb ∧ Cond.initialized (am_y K).cls ∈ am_tb ∧
  ((am_k K).1 = 0 → Cond.instanceMethod (am_y K) ∈ am_tb ∧ Cond.selects (am_y K).cls (am_y K) (am_y K) ∈ am_tb ∧ (am_cn (am_k K).2.2.1).1 = (am_y K).cls ∧ (am_k K).2.2.1 < 12) ∧
  ((am_k K).1 = 1 → Cond.static (am_y K) ∈ am_tb) ∧ ((am_k K).1 = 2 → Cond.instanceMethod (am_y K) ∈ am_tb ∧ (am_y K).name = "<init>" ∧ am_rt K = none) ∧
  ((am_y K).cls ≠ "java/lang/invoke/MethodHandle" ∧ (am_y K).cls ≠ "java/lang/invoke/VarHandle" ∧ (parseMethodDescriptor (am_y K).desc).map (fun d => d.parameters.length) = some (am_k K).2.1) ∧ (K ≠ 167 → K ≠ 168 → plainName (am_y K).cls = true) ∧ (am_k K).2.2.2.1 ≤ 40
theorem am_kn_of (hCK : am_CK) {K : Nat} (h : K < 169) : am_kn K := by
  have h1 := hCK.2 K (by omega) (by omega)
  generalize am_mws.getD K (0, 0, 0, 0) = q at h1
  unfold am_mw at h1
  rw [Bool.and_eq_true, Bool.and_eq_true, Bool.and_eq_true, Bool.and_eq_true, Bool.and_eq_true, Bool.and_eq_true, Bool.and_eq_true, Bool.and_eq_true, Bool.and_eq_true] at h1
  obtain ⟨⟨⟨⟨⟨⟨⟨⟨⟨g1, g2⟩, g3⟩, g4⟩, g5⟩, g6⟩, g7⟩, g8⟩, g9⟩, g10⟩ := h1
  refine ⟨am_tb_at (of_decide_eq_true g1) rfl, am_tb_at (of_decide_eq_true g2) rfl, ?_, ?_, ?_, ⟨of_decide_eq_true g4, of_decide_eq_true g5, of_decide_eq_true g6⟩, ?_, of_decide_eq_true g8⟩
  · intro hk
    rw [hk] at g3
    replace g3 : (decide (lw_tbl[q.2.2.1]? = some (Cond.instanceMethod (am_y K))) && decide (lw_tbl[q.2.2.2]? = some (Cond.selects (am_y K).cls (am_y K) (am_y K))) && decide ((am_cn (am_k K).2.2.1).1 = (am_y K).cls) && decide ((am_k K).2.2.1 < 12)) = true := g3
    rw [Bool.and_eq_true, Bool.and_eq_true, Bool.and_eq_true] at g3
    exact ⟨am_tb_at (of_decide_eq_true g3.1.1.1) rfl, am_tb_at (of_decide_eq_true g3.1.1.2) rfl, of_decide_eq_true g3.1.2, of_decide_eq_true g3.2⟩
  · intro hk
    rw [hk] at g3
    exact am_tb_at (of_decide_eq_true g3) rfl
  · intro hk
    rw [hk] at g3
    replace g3 : (decide (lw_tbl[q.2.2.1]? = some (Cond.instanceMethod (am_y K))) && decide ((am_y K).name = "<init>")) = true := g3
    rw [Bool.and_eq_true] at g3
    exact ⟨am_tb_at (of_decide_eq_true g3.1) rfl, of_decide_eq_true g3.2, (of_decide_eq_true g10) hk⟩
  · intro n1 n2
    rw [Bool.or_eq_true, Bool.or_eq_true] at g7
    rcases g7 with (g | g) | g
    · exact absurd (of_decide_eq_true g) n1
    · exact absurd (of_decide_eq_true g) n2
    · exact g
theorem am_goodIn {K : Nat} (h : Cond.code (am_y K) (am_b K) (am_k K).2.2.2.1 (am_rt K) ∈ am_tb) : GoodIn am_tb (am_ws K) := by
  intro w hw
  have hm : w ∈ am_tb := by
    rcases List.mem_cons.mp hw with rfl | hw
    · exact h
    · exact hw
  exact ⟨hm, good_of_word (List.mem_filter.mp hm).2⟩
theorem am_blind (D : am_G) (b B : Nat) (as : List Value) (A : am_H) : FrameBlind (am_Pc D b B as A) := by
  intro a U g mk h
  exact ⟨h.1, h.2.1.same rfl, h.2.2.moved (u := U) (U := U.calling g mk a) (Vm.Alike.refl U.vm)⟩
set_option maxHeartbeats 2000000 in
theorem am_met_of (hCK : am_CK) {n : Nat} (hn : am_WK n) (l : Launch) {d K : Nat} {as : List Value} {A A1 : am_H} {r : Option Value} (D : am_G) (b B : Nat) (hK : K < 169) (h7 : K ≠ 167) (h8 : K ≠ 168) (hfl : (as.flatMap am_fl).length ≤ (am_k K).2.2.2.1) (hex : am_ex n (d, K, 0, am_lo K as, [], A) = some (r, A1)) :
    Met l (am_y K) (am_ws K) (am_rm d (A1.length - A.length) (am_sz A1 - am_sz A)) (am_Pc D b B as A) (am_Qc D b B r A1) (A1.length - A.length) (am_sz A1 - am_sz A) (fun q => B ≤ q) := by
  obtain ⟨k1, k2, k3, k4, k5, k6, k7, k8⟩ := am_kn_of hCK hK
  have hg := am_grow n _ r A1 hex
  dsimp only at hg
  refine Met.ofW (cc := am_b K) (maxL := (am_k K).2.2.2.1) (ret := am_rt K) (k7 h7 h8) rfl ?_
  intro p e s m args below meth c s₁ Bd hml hv
  obtain ⟨rfl, hYs, hHs⟩ := hv
  have hts := atoms_spec (ws := am_ws K) Bd.pre
  have hr := Bd.returns
  have hlocks := Bd.notSynchronized
  have hKx : am_Kx K p s m (as.map (am_v b B)).toArray meth c := ⟨Bd.exec, Bd.bytes, hml, findClass_of_methodNamed Bd.named, fun w hw => hts w (List.mem_cons_of_mem _ hw), fun hk => (name_of_methodNamed Bd.named Bd.method).1.trans (k5 hk).2.1⟩
  rw [lg_entry_eq]
  have main := hn d K 0 (am_lo K as) [] A r A1 hex p l e (headSpec (am_ws K) (am_rm d (A1.length - A.length) (am_sz A1 - am_sz A))).room s m (as.map (am_v b B)).toArray below meth c (MQ below (am_Qc D b B r A1) (as.map (am_v b B)).toArray s (A1.length - A.length) (am_sz A1 - am_sz A) (fun q => B ≤ q)) D b B s.heap [] _ A.length (am_sz A) hKx hYs hHs (am_L.entry b B K as hfl) (fun z hz => by cases hz) (Nat.le_refl _) (Nat.le_refl _) (Nat.le_refl _) (Nat.le_refl _) (by show A1.length ≤ A.length + (A1.length - A.length); omega) (by show am_sz A1 ≤ am_sz A + (am_sz A1 - am_sz A); omega) ?_
  · rw [Nat.sub_self, Nat.sub_self] at main
    exact main
  · intro H' locs' lsJ' pc' hH' hl' hro
    have hq : ∀ t : State, t.heap = H' → s.WarmedH t.vm → am_Hp D b B A1 t t.heap := fun t ht hW => by rw [ht]; exact hH'.moved hW.alike
    match r, hro with
    | none, hro =>
      exact W.vret (hlocks := hlocks) hKx.1 hKx.2.1 (by rw [hr]; exact hro.2) (fun t ht hW => ⟨rfl, hq t ht hW⟩) hl' hro.1
    | some (.int v), hro =>
      obtain ⟨hd, ty, hty, hnr⟩ := hro
      exact W.zret (hlocks := hlocks) hKx.1 hKx.2.1 (by rw [hr]; exact hty) hnr (fun t ht hW => ⟨rfl, hq t ht hW⟩) hl' hd
    | some (.long v), hro =>
      exact W.lret (hlocks := hlocks) hKx.1 hKx.2.1 (by rw [hr]; exact hro.2) (fun t ht hW => ⟨rfl, hq t ht hW⟩) hl' hro.1
theorem am_rc_0 {K : Nat} {as : List Value} {A : am_H} (hk : (am_k K).1 = 0) (h : am_rc K as A = true) : ∃ o as', as = .ref o :: as' ∧ (am_g A o).1 = (am_k K).2.2.1 := by
  unfold am_rc at h
  rw [hk] at h
  cases as with
  | nil => cases h
  | cons v t =>
    cases v with
    | ref o =>
      have h2 : ((am_g A o).1 == (am_k K).2.2.1) = true := h
      exact ⟨o, t, rfl, by simpa using h2⟩
    | _ => cases h
theorem am_rc_2 {K : Nat} {as : List Value} {A : am_H} (hk : (am_k K).1 = 2) (h : am_rc K as A = true) : ∃ o as', as = .ref o :: as' := by
  unfold am_rc at h
  rw [hk] at h
  cases as with
  | nil => cases h
  | cons v t =>
    cases v with
    | ref o => exact ⟨o, t, rfl⟩
    | _ => cases h
section AMW
variable {p : Program} {l : Launch} {e : Env} {R : Room} {s : State} {m : MethodId} {args : Array Value} {below : List Frame} {meth : Method} {c : Code} {Q : State → Prop} {D : am_G} {b B : Nat} {locs : List Loc} {cells slots : Nat} {H : Heap}
theorem am_after {mc ms pc : Nat} {ls : Array Slot} {st0 rest : List Value} {r : Option Value} {A' : am_H} {a : Array Value} (hr : va_Run p l e R s m args below meth c H locs cells slots mc ms (F0 m pc ls st0) rest (am_Qc D b B r A' a) (fun q => B ≤ q)) (hlocs : ∀ z ∈ locs, B ≤ z.base)
    (kk : ∀ (H' : Heap) (locs' : List Loc), am_Hp D b B A' s H' → (∀ z ∈ locs', B ≤ z.base) → W p l e R s m args below meth c H' locs' (cells + mc) (slots + ms) Q (F0 m (pc + 3) ls ((r.map (am_v b B)).toList ++ rest))) : W p l e R s m args below meth c H locs cells slots Q (F0 m pc ls st0) := by
  intro T hT X
  obtain ⟨v, st₀, t, T', L, h0, X', hL, e1, e2, ⟨hv, hrel⟩, st⟩ := hr T hT X
  have hv' : v = r.map (am_v b B) := Outcome.returned.inj hv
  subst hv'
  have hal : t.vm.Alike s.vm := by rw [← e2]; exact X'.warmed.alike.symm
  obtain ⟨t2, a1, b1⟩ := kk T'.heap (locs ++ L) (by rw [e1]; exact hrel.moved hal) (fun z hz => by
    rcases List.mem_append.mp hz with h | h
    · exact hlocs z h
    · exact hL z h) T' rfl X'
  exact ⟨t2, st t2 a1, b1⟩
theorem am_lk_some {M i x y w : Nat} (h : am_lk M i x y w = true) : (y = 1 ∧ lw_tbl[w]? = some (Cond.methodLinkNest (am_y M).cls i (am_y x) "OneSkate")) ∨ (y = 0 ∧ lw_tbl[w]? = some (Cond.methodLink (am_y M).cls i (am_y x))) := by
  unfold am_lk at h
  split at h
  next hy => exact Or.inl ⟨hy, of_decide_eq_true h⟩
  next hy =>
    rw [Bool.and_eq_true] at h
    exact Or.inr ⟨of_decide_eq_true h.1, of_decide_eq_true h.2⟩
set_option maxHeartbeats 4000000 in
/-- a call of a method by its number -/
theorem am_call_sound (hCK : am_CK) {n : Nat} (hn : am_WK n) {M pc d : Nat} {x : am_E} (hok : am_ok M (pc, x) = true) (hK : am_Kx M p s m args meth c) (hY : am_Y D s) {ls as rest : List Value} {A A1 : am_H} {r : Option Value} {lsJ : Array Slot} (hR : am_Hp D b B A s H) (hL : am_L b B (am_k M).2.2.2.1 ls lsJ) (hlocs : ∀ z ∈ locs, B ≤ z.base)
    (hins : (∃ i, x.1 = .invokevirtual i) ∨ ((∃ i, x.1 = .invokestatic i) ∧ ¬ (x.2.2.1 = 167 ∨ x.2.2.1 = 168)) ∨ ((∃ i, x.1 = .invokespecial i) ∧ ¬ x.2.2.1 = 9999))
    (hlen : as.length = am_nr x.2.2.1) (hwd : am_wd rest ≤ 8) (hrc : am_rc x.2.2.1 as A = true) (hfl : (as.flatMap am_fl).length ≤ (am_k x.2.2.1).2.2.2.1) (hex : am_ex n (d, x.2.2.1, 0, am_lo x.2.2.1 as, [], A) = some (r, A1)) (hfr : d + 1 ≤ R.frames) (hlo : 64 * (d + 1) ≤ R.locals)
    (hcap : cells + (A1.length - A.length) ≤ R.cells ∧ slots + (am_sz A1 - am_sz A) ≤ R.slots)
    (kk : ∀ (H' : Heap) (locs' : List Loc), am_Hp D b B A1 s H' → (∀ z ∈ locs', B ≤ z.base) → W p l e R s m args below meth c H' locs' (cells + (A1.length - A.length)) (slots + (am_sz A1 - am_sz A)) Q (F0 m (pc + 3) lsJ ((r.toList ++ rest).map (am_v b B)))) :
    W p l e R s m args below meth c H locs cells slots Q (F0 m pc lsJ ((as.reverse ++ rest).map (am_v b B))) := by
  obtain ⟨hx, hb, hml, hown, hts, hini⟩ := hK
  obtain ⟨ins, ln, K, ey, ew⟩ := x
  unfold am_ok at hok
  rw [Bool.and_eq_true] at hok
  obtain ⟨hd0, h1⟩ := hok
  have hd := of_decide_eq_true hd0
  clear hd0
  dsimp only at hd h1 hins hlen hrc hfl hex
  have hsz : lsJ.size = (am_k M).2.2.2.1 := by obtain ⟨lv, q, -⟩ := hL; exact q.1
  have hnr : am_nr K = (am_k K).2.1 + (if (am_k K).1 = 1 then 0 else 1) := rfl
  have hmx : (r.map (am_v b B)).toList ++ rest.map (am_v b B) = (r.toList ++ rest).map (am_v b B) := by cases r <;> simp
  have kk' : ∀ (H' : Heap) (locs' : List Loc), am_Hp D b B A1 s H' → (∀ z ∈ locs', B ≤ z.base) → W p l e R s m args below meth c H' locs' (cells + (A1.length - A.length)) (slots + (am_sz A1 - am_sz A)) Q (F0 m (pc + 3) lsJ ((r.map (am_v b B)).toList ++ rest.map (am_v b B))) := by
    rw [hmx]; exact kk
  have hpre : ∀ U : State, U.heap = H → s.WarmedH U.vm → am_Pc D b B as A (as.map (am_v b B)).toArray U := fun U hU hW => ⟨rfl, hY.warm hW, by rw [hU]; exact hR.moved hW.alike⟩
  have hwd' : ((rest.map (am_v b B)).map fun v => v.category).sum ≤ 8 := by rw [am_wd_map]; exact hwd
  rcases hins with ⟨i, rfl⟩ | ⟨⟨i, rfl⟩, hnm⟩ | ⟨⟨i, rfl⟩, hno⟩
  · have h1 : (decide (K < 169) && decide ((am_k K).1 = 0) && decide (ey = 0) && am_lk M i K ey ew) = true := h1
    rw [Bool.and_eq_true, Bool.and_eq_true, Bool.and_eq_true] at h1
    obtain ⟨⟨⟨g1, g2⟩, g3⟩, g4⟩ := h1
    have hK169 : K < 169 := of_decide_eq_true g1
    have hk0 : (am_k K).1 = 0 := of_decide_eq_true g2
    have hy0 : ey = 0 := of_decide_eq_true g3
    obtain ⟨k1, k2, k3, k4, k5, k6, k7, k8⟩ := am_kn_of hCK hK169
    obtain ⟨m1, m2, m3, m4⟩ := k3 hk0
    rcases am_lk_some g4 with ⟨hy, -⟩ | ⟨-, hlk⟩
    · omega
    · obtain ⟨o, as', rfl, hgo⟩ := am_rc_0 hk0 hrc
      · obtain ⟨j, rfl, hj, hat, hav⟩ := am_cell hR (a := o) (by omega) (by omega)
        have hob := am_ob hat (by omega)
        rw [hgo] at hob
        obtain ⟨cell, f1, f2, f3, -⟩ := hob
        have h7 : K ≠ 167 := by intro h; subst h; revert hk0; decide
        have h8 : K ≠ 168 := by intro h; subst h; revert hk0; decide
        have hM := am_met_of hCK hn l D b B hK169 h7 h8 hfl hex
        have hcls : s.vm.findClass (am_y K).cls = some cell.cls := by
          rw [f2, ← m3]
          exact (hY.1.1 _ _ (am_cls _ m4).1).2.1
        have cb := callB_of (R := R) (bytes := am_b K) (maxL := (am_k K).2.2.2.1) (ret := am_rt K) (ws := am_ws K) (rm := am_rm d (A1.length - A.length) (am_sz A1 - am_sz A)) (am_k K).2.1 hts (am_goodIn k1) rfl rfl rfl (hts _ k2) (hts _ (am_tb_at hlk rfl)) k6 ⟨hfr, by show 8 + ((am_k K).2.2.2.1 + 11) + 64 * d ≤ R.locals; omega⟩
        have hn' : (as'.map (am_v b B)).length = (am_k K).2.1 := by
          rw [hnr, hk0] at hlen
          simp at hlen ⊢
          exact hlen
        rw [show ((Value.ref (j + 1) :: as').reverse ++ rest).map (am_v b B) = (as'.map (am_v b B)).reverse ++ .ref (B + j) :: rest.map (am_v b B) by simp; exact hav]
        exact am_after (va_runV (Ts := am_tb) (own := (am_y M).cls) (C := (am_y K).cls) (cc := am_b M) (nL := (am_k M).2.2.2.1) (As := as'.map (am_v b B)) (rest := rest.map (am_v b B)) ⟨hx, hb, hml, hown, hts⟩ hM ⟨cb, hts _ m1, hts _ m2⟩ ⟨am_blind D b B _ A, ⟨cell, f1, by rw [f3]; rfl, hcls⟩, fun U hU hW => hpre U hU hW⟩ rfl hn' hsz rfl (lv_room hwd') hd hcap) hlocs kk'
  · have h1 : ((decide (K < 167) || decide (ey = 0)) && decide (K < 169) && decide ((am_k K).1 = 1) && am_lk M i K ey ew) = true := h1
    rw [Bool.and_eq_true, Bool.and_eq_true, Bool.and_eq_true] at h1
    obtain ⟨⟨⟨-, g1⟩, g2⟩, g4⟩ := h1
    have hK169 : K < 169 := of_decide_eq_true g1
    have hk1 : (am_k K).1 = 1 := of_decide_eq_true g2
    obtain ⟨k1, k2, k3, k4, k5, k6, k7, k8⟩ := am_kn_of hCK hK169
    have m1 := k4 hk1
    have hM := am_met_of hCK hn l D b B hK169 (fun h => hnm (Or.inl h)) (fun h => hnm (Or.inr h)) hfl hex
    have hn' : (as.map (am_v b B)).length = (am_k K).2.1 := by
      rw [hnr, hk1] at hlen
      simpa using hlen
    rw [show (as.reverse ++ rest).map (am_v b B) = (as.map (am_v b B)).reverse ++ rest.map (am_v b B) by simp]
    rcases am_lk_some g4 with ⟨-, hlk⟩ | ⟨-, hlk⟩
    · have cn := va_cnB (R := R) (host := "OneSkate") (bytes := am_b K) (maxL := (am_k K).2.2.2.1) (ret := am_rt K) (ws := am_ws K) (rm := am_rm d (A1.length - A.length) (am_sz A1 - am_sz A)) (am_k K).2.1 hts (am_goodIn k1) rfl rfl rfl (hY.2.1 _ _ _ _ (List.mem_of_getElem? hlk)) (hts _ k2) k6 ⟨hfr, by show 8 + ((am_k K).2.2.2.1 + 11) + 64 * d ≤ R.locals; omega⟩
      exact am_after (va_runSN (Ts := am_tb) (own := (am_y M).cls) (cc := am_b M) (nL := (am_k M).2.2.2.1) (As := as.map (am_v b B)) (rest := rest.map (am_v b B)) ⟨hx, hb, hml, hown, hts⟩ hM ⟨cn, hts _ m1, trivial⟩ ⟨am_blind D b B _ A, fun U hU hW => hpre U hU hW⟩ rfl hn' hsz rfl (lv_room hwd') hd hcap) hlocs kk'
    · have cb := callB_of (R := R) (bytes := am_b K) (maxL := (am_k K).2.2.2.1) (ret := am_rt K) (ws := am_ws K) (rm := am_rm d (A1.length - A.length) (am_sz A1 - am_sz A)) (am_k K).2.1 hts (am_goodIn k1) rfl rfl rfl (hts _ k2) (hts _ (am_tb_at hlk rfl)) k6 ⟨hfr, by show 8 + ((am_k K).2.2.2.1 + 11) + 64 * d ≤ R.locals; omega⟩
      exact am_after (va_runS (Ts := am_tb) (own := (am_y M).cls) (cc := am_b M) (nL := (am_k M).2.2.2.1) (As := as.map (am_v b B)) (rest := rest.map (am_v b B)) ⟨hx, hb, hml, hown, hts⟩ hM ⟨cb, hts _ m1⟩ ⟨am_blind D b B _ A, fun U hU hW => hpre U hU hW⟩ rfl hn' hsz rfl (lv_room hwd') hd hcap) hlocs kk'
  · have h1 : (decide (K < 169) && decide ((am_k K).1 = 2) && am_lk M i K ey ew) = true := by
      have h2 : (if K = 9999 then decide (lw_tbl[ew]? = some (Cond.methodLink (am_y M).cls i objectInit)) else decide (K < 169) && decide ((am_k K).1 = 2) && am_lk M i K ey ew) = true := h1
      rwa [if_neg hno] at h2
    rw [Bool.and_eq_true, Bool.and_eq_true] at h1
    obtain ⟨⟨g1, g2⟩, g4⟩ := h1
    have hK169 : K < 169 := of_decide_eq_true g1
    have hk2 : (am_k K).1 = 2 := of_decide_eq_true g2
    obtain ⟨k1, k2, k3, k4, k5, k6, k7, k8⟩ := am_kn_of hCK hK169
    obtain ⟨m1, m2, m3⟩ := k5 hk2
    obtain ⟨o, as', rfl⟩ := am_rc_2 hk2 hrc
    · have h7 : K ≠ 167 := by intro h; subst h; revert hk2; decide
      have h8 : K ≠ 168 := by intro h; subst h; revert hk2; decide
      have hM := am_met_of hCK hn l D b B hK169 h7 h8 hfl hex
      have hn' : (as'.map (am_v b B)).length = (am_k K).2.1 := by
        rw [hnr, hk2] at hlen
        simp at hlen ⊢
        exact hlen
      rw [show ((Value.ref o :: as').reverse ++ rest).map (am_v b B) = (as'.map (am_v b B)).reverse ++ .ref (am_ad b B o) :: rest.map (am_v b B) by simp; rfl]
      have k1' : Cond.code (am_y K) (am_b K) (am_k K).2.2.2.1 none ∈ am_tb := by rw [← m3]; exact k1
      have hws : am_ws K = Cond.code (am_y K) (am_b K) (am_k K).2.2.2.1 none :: am_tb := by unfold am_ws; rw [m3]
      rcases am_lk_some g4 with ⟨-, hlk⟩ | ⟨-, hlk⟩
      · have cn := va_cnB (R := R) (host := "OneSkate") (bytes := am_b K) (maxL := (am_k K).2.2.2.1) (ret := none) (ws := am_ws K) (rm := am_rm d (A1.length - A.length) (am_sz A1 - am_sz A)) (am_k K).2.1 hts (am_goodIn k1) hws rfl rfl (hY.2.1 _ _ _ _ (List.mem_of_getElem? hlk)) (hts _ k2) k6 ⟨hfr, by show 8 + ((am_k K).2.2.2.1 + 11) + 64 * d ≤ R.locals; omega⟩
        exact am_after (va_runIN (Ts := am_tb) (own := (am_y M).cls) (cc := am_b M) (nL := (am_k M).2.2.2.1) (As := as'.map (am_v b B)) (rest := rest.map (am_v b B)) ⟨hx, hb, hml, hown, hts⟩ hM ⟨cn, m2, hts _ m1⟩ ⟨am_blind D b B _ A, fun U hU hW => hpre U hU hW⟩ rfl hn' hsz rfl (lv_room hwd') hd hcap) hlocs kk'
      · have cb := callB_of (R := R) (bytes := am_b K) (maxL := (am_k K).2.2.2.1) (ret := none) (ws := am_ws K) (rm := am_rm d (A1.length - A.length) (am_sz A1 - am_sz A)) (am_k K).2.1 hts (am_goodIn k1) hws rfl rfl (hts _ k2) (hts _ (am_tb_at hlk rfl)) k6 ⟨hfr, by show 8 + ((am_k K).2.2.2.1 + 11) + 64 * d ≤ R.locals; omega⟩
        exact am_after (va_runI (Ts := am_tb) (own := (am_y M).cls) (cc := am_b M) (nL := (am_k M).2.2.2.1) (As := as'.map (am_v b B)) (rest := rest.map (am_v b B)) ⟨hx, hb, hml, hown, hts⟩ hM ⟨cb, m2, hts _ m1⟩ ⟨am_blind D b B _ A, fun U hU hW => hpre U hU hW⟩ rfl hn' hsz rfl (lv_room hwd') hd hcap) hlocs kk'
end AMW
