/-! THE CLAIM OUT OF ONE WALK OF THE LAW'S BODY. Your part is whole_start (and what it stands on); all else here is the same for every law, but numbers. -/
def R_law : String := "OneSkateLaw"
def lw_P (b : Addr) (xs : List Int32) (args : Array Value) (s : State) : Prop := args = #[.ref b] ∧ s.IntsAt b xs ∧ xs.length ≤ 3072 ∧ (Jvm.Cond.and given_1 narrow_1).before args s = true
def lw_Q (_ : Array Value) (s : State) (o : Outcome) (t : State) : Prop := o = .returned (some (.int 1)) ∧ Framed s o t [] 600000 7302250
def lw_Z (below : List Frame) (a : Array Value) (s : State) : State → Prop := fun t => ∃ o, t.status = .running ∧ Ended t below o ∧ lw_Q a s o t
/-- the law's own end, with 1 on the stack, nothing written that was there before, its room as the claim has it -/
theorem lw_ret {p : Program} {l : Launch} {e : Env} {s : State} {m : MethodId} {below : List Frame} {meth : Method} {c : Code} {b : Nat} (hx : p.tables.exec = Jvm.exec) (hb : c.code = code) (hr : meth.sig.returnType = ret) (hlocks : meth.locks = false) {pc : Nat} {H : Heap} {ls : Array Slot} (hdg : decode code pc = .ok (.ireturn, 1)) : W p l e room_1 s m #[Value.ref b] below meth c H [] 600000 7302250 (lw_Z below #[Value.ref b] s) (F0 m pc ls [.int 1]) := by
  intro T hT X
  obtain ⟨fs, hret, hrun, hended, hW, hframe⟩ := X.leave (v := some (.int 1)) (hlocks := hlocks) (fun h => by rw [hr] at h; cases h)
  have hmeth' : T.vm.method? m = some meth := X.method'
  refine ⟨T.setFrames fs, ?_, .returned (some (.int 1)), hrun, hended, rfl, ⟨_, rfl⟩, hW, hframe⟩
  jvm_step X.here [X.here.top, hx, hb, hdg, hmeth', hr, ret, narrow_b1]
  (try refine ⟨rfl, ?_⟩); (try refine ⟨rfl, ?_⟩)
  first | (intro acts; rw [hret _ acts rfl rfl rfl]) | rw [hret _ _ rfl rfl rfl]
  exact Steps.refl _
/-- what holds at the law's entry: the machine, the code, the tables' words (any of lw_tbl by 'hts w (by decide +kernel)'), the script of L ints xs at the cell b, what the Statement gives of the start (any of its parts by flat_of_before) -/
def lw_At (p : Program) (s : State) (m : MethodId) (meth : Method) (c : Code) (b L : Nat) (xs : Nat → Int32) : Prop :=
  p.tables.exec = Jvm.exec ∧ c.code = code ∧ meth.sig.returnType = ret ∧ c.maxLocals = 4 ∧ s.vm.findClass R_law = some m.cls ∧ (∀ w ∈ lw_tbl, w.before #[Value.ref b] s = true) ∧ va_X b L xs s s.heap ∧ b < s.heap.size ∧ meth.locks = false ∧ (Jvm.Cond.and given_1 narrow_1).before #[Value.ref b] s = true
/-- what is owed of the abstract machine alone -/
def am_LAW : Prop := ∀ (L : Nat) (xs : Nat → Int32), L ≤ 3072 → ∃ A', am_run 1000 169 0 [.ref 0, .null, .null, .null] [] [(200, (List.range L).map fun j => .int (xs j))] = some (some (.int 1), A') ∧ A'.length ≤ 1000 ∧ am_sz A' ≤ L + 100000
theorem am_known {s : State} {args : Array Value} (hts : ∀ w ∈ lw_tbl, w.before args s = true) : ∃ D : am_G, am_Y D s := by
  have hc : ∀ k : Nat, ∃ z : ClassId × (Nat → Nat), ∀ q : vw_C, vwCl[k]? = some q → u_Kn s q.1 q.2.1 q.2.2 z.1 z.2 := by
    intro k
    by_cases hk : k < 12
    · obtain ⟨h1, h2, -, -, -, h6, -⟩ := am_cls k hk
      obtain ⟨cC, iS, h⟩ := u_known (C := (am_cn k).1) (T := (am_cn k).2.1) (N := (am_cn k).2.2) hts h2 (hts _ h6)
      refine ⟨(cC, iS), fun q hq => ?_⟩
      rw [h1] at hq
      cases hq
      exact h
    · refine ⟨(default, fun _ => 0), fun q hq => ?_⟩
      have : vwCl[k]? = none := List.getElem?_eq_none (by show 12 ≤ k; omega)
      rw [this] at hq
      cases hq
  obtain ⟨f, hf⟩ := Classical.axiomOfChoice hc
  obtain ⟨cI, kI, pI, i1, i2, i3⟩ := Cond.arrayClass_spec (hts (.arrayClass .int) (List.mem_of_getElem? (i := 90) (by decide +kernel)))
  obtain ⟨cJ, kJ, pJ, j1, j2, j3⟩ := Cond.arrayClass_spec (hts (.arrayClass .long) (List.mem_of_getElem? (i := 302) (by decide +kernel)))
  obtain ⟨cZ, kZ, pZ, z1, z2, z3⟩ := Cond.arrayClass_spec (hts (.arrayClass .boolean) (List.mem_of_getElem? (i := 288) (by decide +kernel)))
  have aS := hts (.arrayOver (.object "OneSkate$Standing")) (List.mem_of_getElem? (i := 192) (by decide +kernel))
  have aL := hts (.arrayOver (.object "OneSkate$Slot")) (List.mem_of_getElem? (i := 203) (by decide +kernel))
  obtain ⟨pS, cS, kS, s1, -, s3, s4, s5⟩ := Cond.arrayOver_spec aS
  obtain ⟨pL, cL, kL, l1, -, l3, l4, l5⟩ := Cond.arrayOver_spec aL
  refine ⟨(fun k => (f k).1, fun k => (f k).2, fun t => if t = 100 then cI else if t = 101 then cJ else if t = 102 then cZ else if t = 103 then cS else cL), ⟨fun k q hq => hf k q hq, ?_⟩, fun a i x h hm => va_Nw.of rfl (hts _ hm), va_AO.of aS, va_AO.of aL⟩
  intro k q hq
  match k, hq with
  | 0, hq => cases hq; exact ⟨fun n z => ⟨(fun k h => by cases h), kI, i2, pI, i3⟩, i1⟩
  | 1, hq => cases hq; exact ⟨fun n z => ⟨(fun k h => by cases h), kJ, j2, pJ, j3⟩, j1⟩
  | 2, hq => cases hq; exact ⟨fun n z => ⟨(fun k h => by cases h), kZ, z2, pZ, z3⟩, z1⟩
  | 3, hq => cases hq; exact ⟨fun n z => ⟨(fun k h => by cases h), kS, s3, pS, s4⟩, kS, pS, s3, s4, s1, s5⟩
  | 4, hq => cases hq; exact ⟨fun n z => ⟨(fun k h => by cases h), kL, l3, pL, l4⟩, kL, pL, l3, l4, l1, l5⟩
  | k + 5, hq => simp [am_tys] at hq
set_option maxHeartbeats 4000000 in
theorem am_start (hCK : am_CK) (hLAW : am_LAW) {p : Program} {e : Env} {s : State} {m : MethodId} {below : List Frame} {meth : Method} {c : Code} (l : Launch) {b L : Nat} {xs : Nat → Int32} (hL : L ≤ 3072) (C0 : lw_At p s m meth c b L xs) : W p l e room_1 s m #[Value.ref b] below meth c s.heap [] 0 0 (lw_Z below #[Value.ref b] s) (entryFrame m ([Value.ref b] : List Value).toArray 4) := by
  obtain ⟨hx, hb, hr, hml, hown, hts, hX, hbl, hlocks, hgv⟩ := C0
  obtain ⟨D, hY⟩ := am_known hts
  obtain ⟨A', hrun, hlen, hsz⟩ := hLAW L xs hL
  obtain ⟨n, hn⟩ := (am_rn_iff _ _).mp hrun
  have hKx : am_Kx 169 p s m #[Value.ref b] meth c := ⟨hx, hb, hml, hown, fun w hw => hts w (List.mem_filter.mp hw).1, fun h => absurd h (by decide)⟩
  have hH : am_Hp D b s.heap.size [(200, (List.range L).map fun j => .int (xs j))] s s.heap := ⟨hbl, rfl, ⟨L, xs, rfl, hX⟩, fun i c hc => by simp at hc⟩
  have hz0 : am_sz [(200, (List.range L).map fun j => Value.int (xs j))] = L := by simp [am_sz]
  rw [lg_entry_eq]
  have main := am_walk hCK n 1000 169 0 [.ref 0, .null, .null, .null] [] _ _ A' hn p l e room_1 s m #[Value.ref b] below meth c (lw_Z below #[Value.ref b] s) D b s.heap.size s.heap [] _ 1 L hKx hY hH (am_L.entry b s.heap.size 169 [.ref 0] (by decide)) (fun z hz => by cases hz) (by decide) (by decide) (Nat.le_refl _) (by rw [hz0]; exact Nat.le_refl _) (by show A'.length ≤ 1 + 600000; omega) (by show am_sz A' ≤ L + 7302250; omega) ?_
  · rw [hz0, Nat.sub_self] at main
    exact main
  · intro H' locs' lsJ' pc' hH' hl' hro
    refine va_forget (fun q hq => hl' q hq) ?_
    refine W.widen (k := 600000) (n := 7302250) (by omega) (by omega) ?_
    exact lw_ret hx hb hr hlocks hro.1
