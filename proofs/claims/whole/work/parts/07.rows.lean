def am_tb : List Cond := lw_tbl.filter goodWord
theorem am_tb_in {w : Cond} (h : w ∈ lw_tbl) (g : goodWord w = true) : w ∈ am_tb := List.mem_filter.mpr ⟨h, g⟩
theorem am_tb_at {w : Cond} {k : Nat} (h : lw_tbl[k]? = some w) (g : goodWord w = true) : w ∈ am_tb := am_tb_in (List.mem_of_getElem? h) g
theorem am_u_ws {C : String} {T : u_T} {N : Nat} (h : ∀ w ∈ u_ws C T N, w ∈ lw_tbl) : ∀ w ∈ u_ws C T N, w ∈ am_tb := by
  intro w hw
  refine am_tb_in (h w hw) ?_
  obtain ⟨k, -, rfl⟩ := List.mem_map.mp hw
  unfold u_lay
  split <;> rfl
def am_Kx (M : Nat) (p : Program) (s : State) (m : MethodId) (args : Array Value) (meth : Method) (c : Code) : Prop :=
  p.tables.exec = Jvm.exec ∧ c.code = am_b M ∧ c.maxLocals = (am_k M).2.2.2.1 ∧ s.vm.findClass (am_y M).cls = some m.cls ∧ (∀ w ∈ am_tb, w.before args s = true) ∧ ((am_k M).1 = 2 → meth.name = "<init>")
def am_tyok : FieldType → Bool
  | .byte | .char | .short => false
  | _ => true
def am_cf (x : Nat) : Prop := vwCl[x]? = some (am_cn x) ∧ (∀ w ∈ u_ws (am_cn x).1 (am_cn x).2.1 (am_cn x).2.2, w ∈ lw_tbl) ∧ (∀ k, k < (am_cn x).2.2 → parseFieldDescriptor ((am_cn x).2.1 k).2.2.1 = some (am_ty x k)) ∧ (∀ a, a < (am_cn x).2.2 → ∀ b, b < (am_cn x).2.2 → a ≠ b → ((am_cn x).2.1 a).2.1 ≠ ((am_cn x).2.1 b).2.1) ∧ (∀ j, j < (am_cn x).2.2 → defaultValue (am_ty x j) = vp_V (am_blank.getD x []) j) ∧ Cond.instantiable (am_cn x).1 (am_cn x).2.2 ∈ lw_tbl ∧ Cond.initialized (am_cn x).1 ∈ lw_tbl ∧ (am_blank.getD x []).length = (am_cn x).2.2 ∧ (∀ v ∈ am_blank.getD x [], v = .int 0 ∨ v = .long 0 ∨ v = .null) ∧ ∀ k, k < (am_cn x).2.2 → am_tyok (am_ty x k) = true
set_option maxRecDepth 20000 in
theorem am_cf_0 : am_cf 0 := ⟨rfl, inX0, tyX0_ok, nmX0, by decide +kernel, List.mem_of_getElem? (i := 186) (by decide +kernel), List.mem_of_getElem? (i := 56) (by decide +kernel), by decide +kernel, by decide +kernel, by decide +kernel⟩
set_option maxRecDepth 20000 in
theorem am_cf_1 : am_cf 1 := ⟨rfl, inX1, tyX1_ok, nmX1, by decide +kernel, List.mem_of_getElem? (i := 255) (by decide +kernel), List.mem_of_getElem? (i := 59) (by decide +kernel), by decide +kernel, by decide +kernel, by decide +kernel⟩
set_option maxRecDepth 20000 in
theorem am_cf_2 : am_cf 2 := ⟨rfl, inX2, tyX2_ok, nmX2, by decide +kernel, List.mem_of_getElem? (i := 205) (by decide +kernel), List.mem_of_getElem? (i := 57) (by decide +kernel), by decide +kernel, by decide +kernel, by decide +kernel⟩
set_option maxRecDepth 20000 in
theorem am_cf_3 : am_cf 3 := ⟨rfl, inX3, tyX3_ok, nmX3, by decide +kernel, List.mem_of_getElem? (i := 222) (by decide +kernel), List.mem_of_getElem? (i := 58) (by decide +kernel), by decide +kernel, by decide +kernel, by decide +kernel⟩
set_option maxRecDepth 20000 in
theorem am_cf_4 : am_cf 4 := ⟨rfl, inX4, tyX4_ok, nmX4, by decide +kernel, List.mem_of_getElem? (i := 269) (by decide +kernel), List.mem_of_getElem? (i := 60) (by decide +kernel), by decide +kernel, by decide +kernel, by decide +kernel⟩
set_option maxRecDepth 20000 in
theorem am_cf_5 : am_cf 5 := ⟨rfl, inX5, tyX5_ok, nmX5, by decide +kernel, List.mem_of_getElem? (i := 303) (by decide +kernel), List.mem_of_getElem? (i := 62) (by decide +kernel), by decide +kernel, by decide +kernel, by decide +kernel⟩
set_option maxRecDepth 20000 in
theorem am_cf_6 : am_cf 6 := ⟨rfl, inX6, tyX6_ok, nmX6, by decide +kernel, List.mem_of_getElem? (i := 164) (by decide +kernel), List.mem_of_getElem? (i := 55) (by decide +kernel), by decide +kernel, by decide +kernel, by decide +kernel⟩
set_option maxRecDepth 20000 in
theorem am_cf_7 : am_cf 7 := ⟨rfl, inX7, tyX7_ok, nmX7, by decide +kernel, List.mem_of_getElem? (i := 75) (by decide +kernel), List.mem_of_getElem? (i := 53) (by decide +kernel), by decide +kernel, by decide +kernel, by decide +kernel⟩
set_option maxRecDepth 20000 in
theorem am_cf_8 : am_cf 8 := ⟨rfl, inX8, tyX8_ok, nmX8, by decide +kernel, List.mem_of_getElem? (i := 92) (by decide +kernel), List.mem_of_getElem? (i := 54) (by decide +kernel), by decide +kernel, by decide +kernel, by decide +kernel⟩
set_option maxRecDepth 20000 in
theorem am_cf_9 : am_cf 9 := ⟨rfl, inX9, tyX9_ok, nmX9, by decide +kernel, List.mem_of_getElem? (i := 290) (by decide +kernel), List.mem_of_getElem? (i := 61) (by decide +kernel), by decide +kernel, by decide +kernel, by decide +kernel⟩
set_option maxRecDepth 20000 in
theorem am_cf_10 : am_cf 10 := ⟨rfl, inX10, tyX10_ok, nmX10, by decide +kernel, List.mem_of_getElem? (i := 67) (by decide +kernel), List.mem_of_getElem? (i := 52) (by decide +kernel), by decide +kernel, by decide +kernel, by decide +kernel⟩
set_option maxRecDepth 20000 in
theorem am_cf_11 : am_cf 11 := ⟨rfl, inX11, tyX11_ok, nmX11, by decide +kernel, List.mem_of_getElem? (i := 752) (by decide +kernel), List.mem_of_getElem? (i := 63) (by decide +kernel), by decide +kernel, by decide +kernel, by decide +kernel⟩
theorem am_cls (x : Nat) (hx : x < 12) : am_cf x := by
  match x, hx with
  | 0, _ => exact am_cf_0
  | 1, _ => exact am_cf_1
  | 2, _ => exact am_cf_2
  | 3, _ => exact am_cf_3
  | 4, _ => exact am_cf_4
  | 5, _ => exact am_cf_5
  | 6, _ => exact am_cf_6
  | 7, _ => exact am_cf_7
  | 8, _ => exact am_cf_8
  | 9, _ => exact am_cf_9
  | 10, _ => exact am_cf_10
  | 11, _ => exact am_cf_11
theorem am_i8 (n : Int) (h1 : -128 ≤ n) (h2 : n ≤ 127) : (Int8.ofInt n).toInt32 = Int32.ofInt n := by
  apply Int32.toInt_inj.mp
  rw [Int8.toInt_toInt32, Int8.toInt_ofInt, Int32.toInt_ofInt]
  show n.bmod 256 = n.bmod 4294967296
  rw [Int.bmod_eq_of_le (by omega) (by omega), Int.bmod_eq_of_le (by omega) (by omega)]
theorem am_i16 (n : Int) (h1 : -32768 ≤ n) (h2 : n ≤ 32767) : (Int16.ofInt n).toInt32 = Int32.ofInt n := by
  apply Int32.toInt_inj.mp
  rw [Int16.toInt_toInt32, Int16.toInt_ofInt, Int32.toInt_ofInt]
  show n.bmod 65536 = n.bmod 4294967296
  rw [Int.bmod_eq_of_le (by omega) (by omega), Int.bmod_eq_of_le (by omega) (by omega)]
theorem am_fd_some {M i x y w : Nat} (h : am_fd M i x y w = true) : x < 12 ∧ y < (am_cn x).2.2 ∧ lw_tbl[w]? = some (Cond.fieldLink (am_y M).cls i ((am_cn x).2.1 y).1 ((am_cn x).2.1 y).2.1 ((am_cn x).2.1 y).2.2.1) := by
  unfold am_fd at h
  simp only [Bool.and_eq_true, decide_eq_true_eq] at h
  exact ⟨h.1.1, h.1.2, h.2⟩
theorem am_fits (b B : Nat) (ty : FieldType) (v : Value) : fits ty (am_v b B v) = fits ty v := by cases v <;> cases ty <;> rfl
theorem am_ob {D : am_G} {b B a : Nat} {c : Nat × List Value} {H : Heap} (h : am_at D b B a c H) (hx : c.1 < 12) : t_OB a (D.1 c.1) (am_cn c.1).2.2 (D.2.1 c.1) H (vp_V (c.2.map (am_v b B))) := by
  rcases h with ⟨-, r, hr, ho⟩ | ⟨h0, -⟩
  · have := (am_cls c.1 hx).1
    rw [this] at hr
    cases hr
    exact ho
  · omega
theorem am_arr {D : am_G} {b B a : Nat} {c : Nat × List Value} {H : Heap} (h : am_at D b B a c H) (hx : 100 ≤ c.1) : H[a]? = some (arrV (D.2.2 c.1) c.2.length (fun j => am_v b B (c.2.getD j .null))) := by
  rcases h with ⟨h0, -⟩ | ⟨-, h⟩
  · omega
  · exact h
theorem am_upd_fun (b B : Nat) (l : List Value) (k : Nat) (v : Value) (hk : k < l.length) : updV (fun j => am_v b B (l.getD j .null)) k (am_v b B v) = fun j => am_v b B ((l.set k v).getD j .null) := by
  funext j
  unfold updV
  by_cases hj : j = k
  · subst hj
    simp [List.getD, hk]
  · rw [if_neg hj]
    simp [List.getD, List.getElem?_set_ne (fun q => hj q.symm)]
theorem am_at_arr {D : am_G} {b B a t k : Nat} {l : List Value} {v : Value} {H1 : Heap} (ht : 100 ≤ t) (hk : k < l.length) (e : H1[a]? = some ((arrV (D.2.2 t) l.length (fun j => am_v b B (l.getD j .null))).setSlot k (am_v b B v))) : am_at D b B a (t, l.set k v) H1 := by
  refine Or.inr ⟨ht, ?_⟩
  rw [e, arrV_store, am_upd_fun b B l k v hk]
  simp
section AMO
variable {p : Program} {l : Launch} {e : Env} {R : Room} {s : State} {m : MethodId} {args : Array Value} {below : List Frame} {meth : Method} {c : Code} {Q : State → Prop} {D : am_G} {b B : Nat} {locs : List Loc} {cells slots : Nat} {H : Heap}
set_option maxHeartbeats 2000000 in
theorem am_put {M i x y w pc : Nat} (hK : am_Kx M p s m args meth c) (hY : am_Y D s) (hf : am_fd M i x y w = true) (hfin : (am_fn x y).2.2.2 = true → (am_k M).1 = 2 ∧ (am_fn x y).1 = (am_y M).cls) {a : Nat} {fs : List Value} {v : Value} {ls : Array Slot} {rest : List Value} (hob : t_OB a (D.1 x) (am_cn x).2.2 (D.2.1 x) H (vp_V fs)) (hl : y < fs.length) (hfit : fits (am_ty x y) v = true)
    (hd : decode (am_b M) pc = .ok (.putfield i, 3)) (kk : ∀ (H1 : Heap) (k : Nat), t_OB a (D.1 x) (am_cn x).2.2 (D.2.1 x) H1 (vp_V (fs.set y v)) → H1.size = H.size → (∀ q, q ≠ a → H1[q]? = H[q]?) → W p l e R s m args below meth c H1 (locs ++ [⟨a, k⟩]) cells slots Q (F0 m (pc + 3) ls rest)) : W p l e R s m args below meth c H locs cells slots Q (F0 m pc ls (v :: .ref a :: rest)) := by
  obtain ⟨hx, hb, hml, hown, hts, hini⟩ := hK
  obtain ⟨x12, hk, hlk⟩ := am_fd_some hf
  obtain ⟨hc, hin0, hty, hnm, -, -, -, -, -, htk⟩ := am_cls x x12
  have htk := htk y hk
  have hin := am_u_ws hin0
  have hlink := hts _ (am_tb_at hlk rfl)
  have hn : narrow (am_ty x y) v = v := by
    generalize am_ty x y = ty at hfit htk
    cases ty with
    | boolean =>
      cases v with
      | int u =>
        have : u = 0 ∨ u = 1 := by simpa [fits] using hfit
        rcases this with rfl | rfl <;> rfl
      | _ => rfl
    | byte => cases htk
    | char => cases htk
    | short => cases htk
    | _ => rfl
  have hKK := hY.1
  have hap := va_apart (own := (am_y M).cls) hts hin (am_ty x) hty hnm hKK hc
  obtain ⟨cell, q1, q2, q3, q4⟩ := hob
  obtain ⟨hS, hfc, kC, hkC, hkind⟩ := hKK.1 x _ hc
  obtain ⟨cf, kf, fi, f, hi, hsl⟩ := hS y hk
  have hlay := hts _ (hin _ (u_in_lay hk))
  have hst := (u_facts hfc hkC (u_lays hts hin hk) hi).1
  have fin : ∀ H1 : Heap, H1[a]? = some (cell.setSlot f.slot v) → t_OB a (D.1 x) (am_cn x).2.2 (D.2.1 x) H1 (vp_V (fs.set y v)) := by
    intro H1 e1
    rw [hsl] at e1
    exact t_OB.to (V := updV (vp_V fs) y v) ⟨_, e1, q2, q3, t_set q4 hap hk v⟩ (fun j _ => vp_updV_set hl v j)
  unfold u_lay at hlay
  by_cases hfn : ((am_cn x).2.1 y).2.2.2 = true
  · rw [if_pos hfn] at hlay
    obtain ⟨k2, hdecl⟩ := hfin hfn
    have hcf : m.cls = cf := by
      obtain ⟨_, _, c', _, _, _, -, -, hf', -, -, -, hown2, -⟩ := Cond.laysFinal_spec hlay
      have e1 : c' = cf := by have := hi.symm.trans hf'; simp at this; exact this.1.symm
      have hdecl : ((am_cn x).2.1 y).1 = (am_y M).cls := hdecl
      rw [hdecl] at hown2
      rw [← e1]; exact Option.some.inj (hown.symm.trans hown2)
    have h6 := u_fits hfc hkC hkind (Or.inr hlay) hi (hty y hk) hn hfit
    exact W.putFinK hx hb hown hlink hi hst hcf (hini k2) (by rw [q2]; exact h6) q1 q3 (by rw [hsl]; exact k2_hasslot (q4 y hk)) rfl rfl hd fun H' e1 e2 e3 => kk H' _ (fin H' e1) e2 e3
  · rw [if_neg hfn] at hlay
    have h6 := u_store hfc hkC hkind hlay hi (hty y hk) hn hfit
    exact W.putK hx hb (f := f) ⟨hown, hlink, ⟨_, _, _, hi⟩, hst⟩ (by rw [q2]; exact h6) q1 q3 (by rw [hsl]; exact k2_hasslot (q4 y hk)) rfl rfl hd fun H' e1 e2 e3 => kk H' _ (fin H' e1) e2 e3

set_option maxHeartbeats 8000000 in
set_option maxRecDepth 10000 in
theorem am_op_sound {M pc : Nat} {x : am_E} (hok : am_ok M (pc, x) = true) (hK : am_Kx M p s m args meth c) (hY : am_Y D s) {ls st : List Value} {A : am_H} {lsJ : Array Slot} {q : Nat × List Value × List Value × am_H} (hop : am_op x pc ls st A = some q) (hR : am_Hp D b B A s H) (hL : am_L b B (am_k M).2.2.2.1 ls lsJ) (hlocs : ∀ z ∈ locs, B ≤ z.base)
    (hcap : A.length < q.2.2.2.length → cells + (q.2.2.2.length - A.length) ≤ R.cells ∧ slots + (am_sz q.2.2.2 - am_sz A) ≤ R.slots)
    (kk : ∀ (H' : Heap) (locs' : List Loc) (lsJ' : Array Slot), am_Hp D b B q.2.2.2 s H' → am_L b B (am_k M).2.2.2.1 q.2.1 lsJ' → (∀ z ∈ locs', B ≤ z.base) → W p l e R s m args below meth c H' locs' (cells + (q.2.2.2.length - A.length)) (slots + (am_sz q.2.2.2 - am_sz A)) Q (F0 m q.1 lsJ' (q.2.2.1.map (am_v b B)))) :
    W p l e R s m args below meth c H locs cells slots Q (F0 m pc lsJ (st.map (am_v b B))) := by
  have hK0 := hK
  obtain ⟨hx, hb, hml, hown, hts, hini⟩ := hK
  obtain ⟨ins, ln, ex, ey, ew⟩ := x
  unfold am_ok at hok
  rw [Bool.and_eq_true] at hok
  obtain ⟨hd0, h1⟩ := hok
  have hd := of_decide_eq_true hd0
  clear hd0
  dsimp only at hd h1
  have k0 : ∀ (lsJ' : Array Slot) (pc' : Nat) (ls' st' : List Value), q = (pc', ls', st', A) → am_L b B (am_k M).2.2.2.1 ls' lsJ' → W p l e R s m args below meth c H locs cells slots Q (F0 m pc' lsJ' (st'.map (am_v b B))) := by
    intro lsJ' pc' ls' st' hq hl
    subst hq
    have := kk H locs lsJ' hR hl hlocs
    dsimp only at this
    rw [Nat.sub_self, Nat.sub_self] at this
    exact this
  have k1 : ∀ (H' : Heap) (a k : Nat) (A' : am_H) (pc' : Nat) (st' : List Value), q = (pc', ls, st', A') → A'.length = A.length → am_sz A' = am_sz A → am_Hp D b B A' s H' → B ≤ a → W p l e R s m args below meth c H' (locs ++ [⟨a, k⟩]) cells slots Q (F0 m pc' lsJ (st'.map (am_v b B))) := by
    intro H' a k A' pc' st' hq e1 e2 hr ha
    subst hq
    have := kk H' (locs ++ [⟨a, k⟩]) lsJ hr hL (fun z hz => by
      rcases List.mem_append.mp hz with h | h
      · exact hlocs z h
      · rw [List.mem_singleton.mp h]; exact ha)
    dsimp only at this
    rw [e1, e2, Nat.sub_self, Nat.sub_self] at this
    exact this
  unfold am_op at hop
  cases ins
  all_goals try dsimp only at hop
  case iconst n =>
    exact lv_iconst hx hb hd rfl (k0 _ _ _ _ (Option.some.inj hop).symm hL)
  case bipush n =>
    have h1x : -128 ≤ n ∧ n ≤ 127 := by simpa [am_ok1] using h1
    exact lv_bipush hx hb hd (am_i8 n h1x.1 h1x.2) (k0 _ _ _ _ (Option.some.inj hop).symm hL)
  case sipush n =>
    have h1x : -32768 ≤ n ∧ n ≤ 32767 := by simpa [am_ok1] using h1
    exact lv_sipush hx hb hd (am_i16 n h1x.1 h1x.2) (k0 _ _ _ _ (Option.some.inj hop).symm hL)
  case lconst n =>
    exact lv_lconst hx hb hd (by match n with | 0 => rfl | 1 => rfl) (k0 _ _ _ _ (Option.some.inj hop).symm hL)
  case ldc i =>
    exact lv_ldc hx hb hown (hts _ (am_tb_at (of_decide_eq_true h1) rfl)) hd (k0 _ _ _ _ (Option.some.inj hop).symm hL)
  case ldc_w i =>
    exact lv_ldcw hx hb hown (hts _ (am_tb_at (of_decide_eq_true h1) rfl)) hd (k0 _ _ _ _ (Option.some.inj hop).symm hL)
  case ldc2_w i =>
    exact lv_ldc2 hx hb hown (hts _ (am_tb_at (of_decide_eq_true h1) rfl)) hd (k0 _ _ _ _ (Option.some.inj hop).symm hL)
  case iload i =>
    obtain ⟨v, hv, hop1⟩ := am_vo_some hop
    obtain ⟨x, rfl, hop2⟩ := am_vi_some hop1
    exact lv_iload hx hb hd (hL.get hv (by simp)) (k0 _ _ _ _ (Option.some.inj hop2).symm hL)
  case iload_n i =>
    obtain ⟨v, hv, hop1⟩ := am_vo_some hop
    obtain ⟨x, rfl, hop2⟩ := am_vi_some hop1
    exact lv_iload_n hx hb hd rfl (hL.get hv (by simp)) (k0 _ _ _ _ (Option.some.inj hop2).symm hL)
  case lload i =>
    obtain ⟨v, hv, hop1⟩ := am_vo_some hop
    obtain ⟨x, rfl, hop2⟩ := am_vl_some hop1
    exact lv_lload hx hb hd (hL.get hv (by simp)) (k0 _ _ _ _ (Option.some.inj hop2).symm hL)
  case lload_n i =>
    obtain ⟨v, hv, hop1⟩ := am_vo_some hop
    obtain ⟨x, rfl, hop2⟩ := am_vl_some hop1
    exact lv_lload_n hx hb hd rfl (hL.get hv (by simp)) (k0 _ _ _ _ (Option.some.inj hop2).symm hL)
  case aload i =>
    obtain ⟨v, hv, hop1⟩ := am_vo_some hop
    obtain ⟨x, rfl, hop2⟩ := am_vr_some hop1
    exact lv_aload hx hb hd (hL.get hv (by simp)) (k0 _ _ _ _ (Option.some.inj hop2).symm hL)
  case aload_n i =>
    obtain ⟨v, hv, hop1⟩ := am_vo_some hop
    obtain ⟨x, rfl, hop2⟩ := am_vr_some hop1
    exact lv_aload_n hx hb hd rfl (hL.get hv (by simp)) (k0 _ _ _ _ (Option.some.inj hop2).symm hL)
  case istore i =>
    obtain ⟨x, r, rfl, hop1⟩ := am_i1_some hop
    obtain ⟨hi, hop2⟩ := am_if_some hop1
    obtain ⟨lv, q1, q2, q3⟩ := hL
    exact lv_istore hx hb hd q1 (by rw [← q2]; exact hi) rfl (fun ls' hl => k0 _ _ _ _ (Option.some.inj hop2).symm (am_L.st1 q2 q3 hi hl))
  case istore_n i =>
    obtain ⟨x, r, rfl, hop1⟩ := am_i1_some hop
    obtain ⟨hi, hop2⟩ := am_if_some hop1
    obtain ⟨lv, q1, q2, q3⟩ := hL
    exact lv_istore_n hx hb hd rfl q1 (by rw [← q2]; exact hi) rfl (fun ls' hl => k0 _ _ _ _ (Option.some.inj hop2).symm (am_L.st1 q2 q3 hi hl))
  case lstore i =>
    obtain ⟨x, r, rfl, hop1⟩ := am_l1_some hop
    obtain ⟨hi, hop2⟩ := am_if_some hop1
    obtain ⟨lv, q1, q2, q3⟩ := hL
    exact lv_lstore hx hb hd q1 (by rw [← q2]; exact hi) rfl (fun ls' hl => k0 _ _ _ _ (Option.some.inj hop2).symm (am_L.st2 q2 q3 hi hl))
  case lstore_n i =>
    obtain ⟨x, r, rfl, hop1⟩ := am_l1_some hop
    obtain ⟨hi, hop2⟩ := am_if_some hop1
    obtain ⟨lv, q1, q2, q3⟩ := hL
    exact lv_lstore_n hx hb hd rfl q1 (by rw [← q2]; exact hi) rfl (fun ls' hl => k0 _ _ _ _ (Option.some.inj hop2).symm (am_L.st2 q2 q3 hi hl))
  case astore i =>
    obtain ⟨x, r, rfl, hop1⟩ := am_r1_some hop
    obtain ⟨hi, hop2⟩ := am_if_some hop1
    obtain ⟨lv, q1, q2, q3⟩ := hL
    exact lv_astore hx hb hd q1 (by rw [← q2]; exact hi) rfl (fun ls' hl => k0 _ _ _ _ (Option.some.inj hop2).symm (am_L.st1 q2 q3 hi hl))
  case astore_n i =>
    obtain ⟨x, r, rfl, hop1⟩ := am_r1_some hop
    obtain ⟨hi, hop2⟩ := am_if_some hop1
    obtain ⟨lv, q1, q2, q3⟩ := hL
    exact lv_astore_n hx hb hd rfl q1 (by rw [← q2]; exact hi) rfl (fun ls' hl => k0 _ _ _ _ (Option.some.inj hop2).symm (am_L.st1 q2 q3 hi hl))
  case iinc i n =>
    obtain ⟨v, hv, hop1⟩ := am_vo_some hop
    obtain ⟨x, rfl, hop2⟩ := am_vi_some hop1
    obtain ⟨lv, q1, q2, q3⟩ := hL
    have hi : i < ls.length := (List.getElem?_eq_some_iff.mp hv).1
    obtain ⟨k, hk⟩ := List.getElem?_of_mem (q3 i _ hv (by simp))
    exact lv_iinc hx hb hd q1 hk rfl (by rw [← q2]; exact hi) rfl (fun ls' hl => k0 _ _ _ _ (Option.some.inj hop2).symm (am_L.st1 q2 q3 hi hl))
  case iadd =>
    obtain ⟨x, y, r, rfl, hop1⟩ := am_i2_some hop
    exact lv_iadd hx hb hd (k0 _ _ _ _ (Option.some.inj hop1).symm hL)
  case isub =>
    obtain ⟨x, y, r, rfl, hop1⟩ := am_i2_some hop
    exact lv_isub hx hb hd (k0 _ _ _ _ (Option.some.inj hop1).symm hL)
  case imul =>
    obtain ⟨x, y, r, rfl, hop1⟩ := am_i2_some hop
    exact lv_imul hx hb hd (k0 _ _ _ _ (Option.some.inj hop1).symm hL)
  case iand =>
    obtain ⟨x, y, r, rfl, hop1⟩ := am_i2_some hop
    exact lv_iand hx hb hd (k0 _ _ _ _ (Option.some.inj hop1).symm hL)
  case ior =>
    obtain ⟨x, y, r, rfl, hop1⟩ := am_i2_some hop
    exact lv_ior hx hb hd (k0 _ _ _ _ (Option.some.inj hop1).symm hL)
  case ixor =>
    obtain ⟨x, y, r, rfl, hop1⟩ := am_i2_some hop
    exact lv_ixor hx hb hd (k0 _ _ _ _ (Option.some.inj hop1).symm hL)
  case ishl =>
    obtain ⟨x, y, r, rfl, hop1⟩ := am_i2_some hop
    exact lv_ishl hx hb hd (k0 _ _ _ _ (Option.some.inj hop1).symm hL)
  case ishr =>
    obtain ⟨x, y, r, rfl, hop1⟩ := am_i2_some hop
    exact lv_ishr hx hb hd (k0 _ _ _ _ (Option.some.inj hop1).symm hL)
  case iushr =>
    obtain ⟨x, y, r, rfl, hop1⟩ := am_i2_some hop
    exact lv_iushr hx hb hd rfl (k0 _ _ _ _ (Option.some.inj hop1).symm hL)
  case idiv =>
    obtain ⟨x, y, r, rfl, hop1⟩ := am_i2_some hop
    obtain ⟨hne, hop2⟩ := am_if_some hop1
    exact lv_idiv hx hb hd hne (k0 _ _ _ _ (Option.some.inj hop2).symm hL)
  case irem =>
    obtain ⟨x, y, r, rfl, hop1⟩ := am_i2_some hop
    obtain ⟨hne, hop2⟩ := am_if_some hop1
    exact lv_irem hx hb hd hne (k0 _ _ _ _ (Option.some.inj hop2).symm hL)
  case ladd =>
    obtain ⟨x, y, r, rfl, hop1⟩ := am_l2_some hop
    exact lv_ladd hx hb hd (k0 _ _ _ _ (Option.some.inj hop1).symm hL)
  case lmul =>
    obtain ⟨x, y, r, rfl, hop1⟩ := am_l2_some hop
    exact lv_lmul hx hb hd (k0 _ _ _ _ (Option.some.inj hop1).symm hL)
  case land =>
    obtain ⟨x, y, r, rfl, hop1⟩ := am_l2_some hop
    exact lv_land hx hb hd (k0 _ _ _ _ (Option.some.inj hop1).symm hL)
  case lor =>
    obtain ⟨x, y, r, rfl, hop1⟩ := am_l2_some hop
    exact lv_lor hx hb hd (k0 _ _ _ _ (Option.some.inj hop1).symm hL)
  case ldiv =>
    obtain ⟨x, y, r, rfl, hop1⟩ := am_l2_some hop
    obtain ⟨hne, hop2⟩ := am_if_some hop1
    exact lv_ldiv hx hb hd hne (k0 _ _ _ _ (Option.some.inj hop2).symm hL)
  case lrem =>
    obtain ⟨x, y, r, rfl, hop1⟩ := am_l2_some hop
    obtain ⟨hne, hop2⟩ := am_if_some hop1
    exact lv_lrem hx hb hd hne (k0 _ _ _ _ (Option.some.inj hop2).symm hL)
  case lshl =>
    obtain ⟨x, y, r, rfl, hop1⟩ := am_li_some hop
    exact lv_lshl hx hb hd rfl (k0 _ _ _ _ (Option.some.inj hop1).symm hL)
  case lshr =>
    obtain ⟨x, y, r, rfl, hop1⟩ := am_li_some hop
    exact lv_lshr hx hb hd rfl (k0 _ _ _ _ (Option.some.inj hop1).symm hL)
  case lushr =>
    obtain ⟨x, y, r, rfl, hop1⟩ := am_li_some hop
    exact lv_lushr hx hb hd rfl (k0 _ _ _ _ (Option.some.inj hop1).symm hL)
  case lcmp =>
    obtain ⟨x, y, r, rfl, hop1⟩ := am_l2_some hop
    exact W.lcmp hx hb hd (k0 _ _ _ _ (Option.some.inj hop1).symm hL)
  case i2l =>
    obtain ⟨x, r, rfl, hop1⟩ := am_i1_some hop
    exact lv_i2l hx hb hd rfl (k0 _ _ _ _ (Option.some.inj hop1).symm hL)
  case l2i =>
    obtain ⟨x, r, rfl, hop1⟩ := am_l1_some hop
    exact lv_l2i hx hb hd rfl (k0 _ _ _ _ (Option.some.inj hop1).symm hL)
  case dup =>
    split at hop
    next v r => 
      obtain ⟨hc, hop1⟩ := am_if_some hop
      exact lv_dup hx hb hd (by rw [am_v_cat]; exact hc) (k0 _ _ _ _ (Option.some.inj hop1).symm hL)
    next => cases hop
  case dup2 =>
    split at hop
    next v w r => 
      obtain ⟨hc, hop1⟩ := am_if_some hop
      exact lv_dup2_11 hx hb hd (by rw [am_v_cat]; exact hc.1) (by rw [am_v_cat]; exact hc.2) (k0 _ _ _ _ (Option.some.inj hop1).symm hL)
    next => cases hop
  case ifCond cd off =>
    obtain ⟨x, r, rfl, ho2⟩ := am_i1_some hop
    have ht : (pc : Int) + off = (ex : Int) := of_decide_eq_true h1
    clear hop
    cases cd
    all_goals unfold am_cmp at ho2
    all_goals dsimp only at ho2
    case eq =>
      refine lv_if_eq hx hb hd ht (fun g => ?_) (fun g => ?_)
      · rw [if_pos g] at ho2
        exact k0 _ _ _ _ (Option.some.inj ho2).symm hL
      · rw [if_neg g] at ho2
        exact k0 _ _ _ _ (Option.some.inj ho2).symm hL
    case ne =>
      refine lv_if_ne hx hb hd ht (fun g => ?_) (fun g => ?_)
      · rw [if_neg g] at ho2
        exact k0 _ _ _ _ (Option.some.inj ho2).symm hL
      · rw [if_pos g] at ho2
        exact k0 _ _ _ _ (Option.some.inj ho2).symm hL
    case lt =>
      refine lv_if_lt hx hb hd ht (fun g => ?_) (fun g => ?_)
      · rw [if_pos g] at ho2
        exact k0 _ _ _ _ (Option.some.inj ho2).symm hL
      · rw [if_neg g] at ho2
        exact k0 _ _ _ _ (Option.some.inj ho2).symm hL
    case ge =>
      refine lv_if_ge hx hb hd ht (fun g => ?_) (fun g => ?_)
      · rw [if_pos g] at ho2
        exact k0 _ _ _ _ (Option.some.inj ho2).symm hL
      · rw [if_neg g] at ho2
        exact k0 _ _ _ _ (Option.some.inj ho2).symm hL
    case gt =>
      refine lv_if_gt hx hb hd ht (fun g => ?_) (fun g => ?_)
      · rw [if_pos g] at ho2
        exact k0 _ _ _ _ (Option.some.inj ho2).symm hL
      · rw [if_neg g] at ho2
        exact k0 _ _ _ _ (Option.some.inj ho2).symm hL
    case le =>
      refine lv_if_le hx hb hd ht (fun g => ?_) (fun g => ?_)
      · rw [if_pos g] at ho2
        exact k0 _ _ _ _ (Option.some.inj ho2).symm hL
      · rw [if_neg g] at ho2
        exact k0 _ _ _ _ (Option.some.inj ho2).symm hL
  case if_icmp cd off =>
    obtain ⟨x, y, r, rfl, ho2⟩ := am_i2_some hop
    have ht : (pc : Int) + off = (ex : Int) := of_decide_eq_true h1
    clear hop
    cases cd
    all_goals unfold am_cmp at ho2
    all_goals dsimp only at ho2
    case eq =>
      refine lv_icmp_eq hx hb hd ht (fun g => ?_) (fun g => ?_)
      · rw [if_pos g] at ho2
        exact k0 _ _ _ _ (Option.some.inj ho2).symm hL
      · rw [if_neg g] at ho2
        exact k0 _ _ _ _ (Option.some.inj ho2).symm hL
    case ne =>
      refine lv_icmp_ne hx hb hd ht (fun g => ?_) (fun g => ?_)
      · rw [if_neg g] at ho2
        exact k0 _ _ _ _ (Option.some.inj ho2).symm hL
      · rw [if_pos g] at ho2
        exact k0 _ _ _ _ (Option.some.inj ho2).symm hL
    case lt =>
      refine lv_icmp_lt hx hb hd ht (fun g => ?_) (fun g => ?_)
      · rw [if_pos g] at ho2
        exact k0 _ _ _ _ (Option.some.inj ho2).symm hL
      · rw [if_neg g] at ho2
        exact k0 _ _ _ _ (Option.some.inj ho2).symm hL
    case ge =>
      refine lv_icmp_ge hx hb hd ht (fun g => ?_) (fun g => ?_)
      · rw [if_pos g] at ho2
        exact k0 _ _ _ _ (Option.some.inj ho2).symm hL
      · rw [if_neg g] at ho2
        exact k0 _ _ _ _ (Option.some.inj ho2).symm hL
    case gt =>
      refine lv_icmp_gt hx hb hd ht (fun g => ?_) (fun g => ?_)
      · rw [if_pos g] at ho2
        exact k0 _ _ _ _ (Option.some.inj ho2).symm hL
      · rw [if_neg g] at ho2
        exact k0 _ _ _ _ (Option.some.inj ho2).symm hL
    case le =>
      refine lv_icmp_le hx hb hd ht (fun g => ?_) (fun g => ?_)
      · rw [if_pos g] at ho2
        exact k0 _ _ _ _ (Option.some.inj ho2).symm hL
      · rw [if_neg g] at ho2
        exact k0 _ _ _ _ (Option.some.inj ho2).symm hL
  case goto off =>
    exact lv_goto hx hb hd (of_decide_eq_true h1) (k0 _ _ _ _ (Option.some.inj hop).symm hL)
  case tableswitch dflt lo hi offs =>
    obtain ⟨x, r, rfl, hop1⟩ := am_i1_some hop
    have hz : 0 ≤ (pc : Int) + dflt ∧ ∀ o ∈ offs.toList, 0 ≤ (pc : Int) + o := by
      have hw : (decide (0 ≤ (pc : Int) + dflt) && offs.toList.all fun o => decide (0 ≤ (pc : Int) + o)) = true := h1
      rw [Bool.and_eq_true, List.all_eq_true] at hw
      exact ⟨of_decide_eq_true hw.1, fun o ho => of_decide_eq_true (hw.2 o ho)⟩
    by_cases g : x.toInt < lo ∨ hi < x.toInt
    · rw [if_pos g] at hop1
      exact lv_tableOut hx hb hd g (by omega) (k0 _ _ _ _ (Option.some.inj hop1).symm hL)
    · rw [if_neg g] at hop1
      split at hop1
      next off ho =>
        have hm : off ∈ offs.toList := Array.mem_toList_iff.mpr (Array.mem_of_getElem? ho)
        have := hz.2 off hm
        exact lv_tableIn hx hb hd (fun z => g (Or.inl z)) (fun z => g (Or.inr z)) ho (by omega) (k0 _ _ _ _ (Option.some.inj hop1).symm hL)
      next => cases hop1
  case getfield i =>
    have h1x : am_fd M i ex ey ew = true := h1
    obtain ⟨a, r, rfl, hop1⟩ := am_r1_some hop
    obtain ⟨v, hv, hop2⟩ := am_vo_some hop1
    obtain ⟨g1, g2⟩ := am_gf_some hv
    obtain ⟨x12, hk, hlk⟩ := am_fd_some h1x
    obtain ⟨hc, hin0, -⟩ := am_cls ex x12
    obtain ⟨j, rfl, hi, hat, hav⟩ := am_cell hR (a := a) (by rw [g1]; exact Nat.ne_of_lt (by omega)) (by rw [g1]; exact Nat.ne_of_lt (by omega))
    have hob := am_ob hat (by rw [g1]; exact x12)
    rw [g1] at hob
    have hP : va_P (D.1, D.2.1) vwCl [(B + j, .inr (ex, (am_g A (j + 1)).2.map (am_v b B)))] H := by
      intro k z hz
      match k, hz with
      | 0, hz => cases hz; exact ⟨_, hc, hob⟩
    exact va_get (a := B + j) (D := (D.1, D.2.1)) (C := (am_cn ex).1) (T := (am_cn ex).2.1) (N := (am_cn ex).2.2) hx hb hts (am_u_ws hin0) hown hY.1 hP 0 rfl hc ey hk (hts _ (am_tb_at hlk rfl)) (fun _ z => z) (v := am_v b B v) (by rw [List.getElem?_map, g2]; rfl) hd (k0 _ _ _ _ (Option.some.inj hop2).symm hL)
  case putfield i =>
    obtain ⟨a, v, r, rfl, hop1⟩ := am_rv_some hop
    obtain ⟨hfit, hop2⟩ := am_if_some hop1
    obtain ⟨A1, hA, hop3⟩ := am_ho_some hop2
    obtain ⟨g1, g2, rfl⟩ := am_pf_some hA
    have h1x : (am_fd M i ex ey ew && (!(am_fn ex ey).2.2.2 || (decide ((am_k M).1 = 2) && decide ((am_fn ex ey).1 = (am_y M).cls)))) = true := h1
    rw [Bool.and_eq_true] at h1x
    obtain ⟨x12, hk, hlk⟩ := am_fd_some h1x.1
    obtain ⟨j, rfl, hi, hat, hav⟩ := am_cell hR (a := a) (by rw [g1]; exact Nat.ne_of_lt (by omega)) (by rw [g1]; exact Nat.ne_of_lt (by omega))
    have hob := am_ob hat (by rw [g1]; exact x12)
    rw [g1] at hob
    have hgr := am_grow_p (t := ex) (v := v) g2
    refine am_put (a := B + j) (v := am_v b B v) (fs := (am_g A (j + 1)).2.map (am_v b B)) hK0 hY h1x.1 (fun z => by
      have h2 := h1x.2
      rw [z] at h2
      simpa using h2) hob (by simpa using g2) (by rw [am_fits]; exact hfit) hd (fun H1 k ho hz hq => ?_)
    refine k1 H1 (B + j) k _ _ _ (Option.some.inj hop3).symm hgr.1 hgr.2 (hR.upd hi (Or.inl ⟨by dsimp only; omega, _, (am_cls ex x12).1, by rw [List.map_set]; exact ho⟩) hz hq) (Nat.le_add_right _ _)
  case iaload =>
    obtain ⟨a, i, r, rfl, hop1⟩ := am_ri_some hop
    obtain ⟨v, hv, hop2⟩ := am_vo_some hop1
    obtain ⟨x, rfl, hop3⟩ := am_vi_some hop2
    obtain ⟨g1, g2, g3⟩ := am_rd_some hv
    by_cases ha : a = 0
    · subst ha
      obtain ⟨hbB, hsz, ⟨L, xs, hx0, hX⟩, hrest⟩ := id hR
      rw [am_g_some hx0] at g3
      have hlt : i.toNatClampNeg < L := by simpa using (List.getElem?_eq_some_iff.mp g3).1
      have e1 : xs i.toNatClampNeg = x := by simpa [hlt] using g3
      obtain ⟨scr, f1, f2, f3, f4, f5⟩ := hX
      exact W.iald hx hb f1 f2 f3 (by rw [f4]; exact fun z => z.elim g2 (fun z => by omega)) (by rw [f5 _ hlt, e1]; rfl) rfl rfl hd (k0 _ _ _ _ (Option.some.inj hop3).symm hL)
    · rw [if_neg ha] at g1
      obtain ⟨j, rfl, hi, hat, hav⟩ := am_cell hR (a := a) (by rw [g1]; decide) (by rw [g1]; decide)
      have harr := am_arr hat (by rw [g1]; decide)
      rw [g1] at harr
      have hlt : i.toNatClampNeg < (am_g A (j + 1)).2.length := (List.getElem?_eq_some_iff.mp g3).1
      exact W.iald hx hb harr ((hY.1.2 0 _ rfl).1 _ _) (fun z => by cases z) (by rw [arrV_size]; exact fun z => z.elim g2 (fun z => by omega)) (by rw [arrV_read _ _ hlt] <;> simp [List.getD, g3, am_v]) rfl rfl hd (k0 _ _ _ _ (Option.some.inj hop3).symm hL)
  case laload =>
    obtain ⟨a, i, r, rfl, hop1⟩ := am_ri_some hop
    obtain ⟨v, hv, hop2⟩ := am_vo_some hop1
    obtain ⟨x, rfl, hop3⟩ := am_vl_some hop2
    obtain ⟨g1, g2, g3⟩ := am_rd_some hv
    obtain ⟨j, rfl, hi, hat, hav⟩ := am_cell hR (a := a) (by rw [g1]; decide) (by rw [g1]; decide)
    have harr := am_arr hat (by rw [g1]; decide)
    rw [g1] at harr
    have hlt : i.toNatClampNeg < (am_g A (j + 1)).2.length := (List.getElem?_eq_some_iff.mp g3).1
    exact W.lald hx hb harr ((hY.1.2 1 _ rfl).1 _ _) (fun z => by cases z) (by rw [arrV_size]; exact fun z => z.elim g2 (fun z => by omega)) (by rw [arrV_read _ _ hlt] <;> simp [List.getD, g3, am_v]) rfl rfl hd (k0 _ _ _ _ (Option.some.inj hop3).symm hL)
  case baload =>
    obtain ⟨a, i, r, rfl, hop1⟩ := am_ri_some hop
    obtain ⟨v, hv, hop2⟩ := am_vo_some hop1
    obtain ⟨x, rfl, hop3⟩ := am_vi_some hop2
    obtain ⟨g1, g2, g3⟩ := am_rd_some hv
    obtain ⟨j, rfl, hi, hat, hav⟩ := am_cell hR (a := a) (by rw [g1]; decide) (by rw [g1]; decide)
    have harr := am_arr hat (by rw [g1]; decide)
    rw [g1] at harr
    have hlt : i.toNatClampNeg < (am_g A (j + 1)).2.length := (List.getElem?_eq_some_iff.mp g3).1
    exact W.zald hx hb harr ((hY.1.2 2 _ rfl).1 _ _) (fun z => by cases z) (by rw [arrV_size]; exact fun z => z.elim g2 (fun z => by omega)) (by rw [arrV_read _ _ hlt] <;> simp [List.getD, g3, am_v]) rfl rfl hd (k0 _ _ _ _ (Option.some.inj hop3).symm hL)
  case aaload =>
    obtain ⟨a, i, r, rfl, hop1⟩ := am_ri_some hop
    obtain ⟨v, hv, hop2⟩ := am_vo_some hop1
    obtain ⟨x, rfl, hop3⟩ := am_vr_some hop2
    obtain ⟨hc, hop4⟩ := am_if_some hop3
    obtain ⟨-, g2, g3⟩ := am_rd_some hv
    obtain ⟨j, rfl, hi, hat, hav⟩ := am_cell hR (a := a) (by rcases hc with z | z <;> rw [z] <;> decide) (by rcases hc with z | z <;> rw [z] <;> decide)
    have harr := am_arr hat (by rcases hc with z | z <;> rw [z] <;> decide)
    have hlt : i.toNatClampNeg < (am_g A (j + 1)).2.length := (List.getElem?_eq_some_iff.mp g3).1
    rcases hc with g1 | g1
    · rw [g1] at harr
      exact W.aald (ty := .object "OneSkate$Standing") hx hb harr ((hY.1.2 3 _ rfl).1 _ _) rfl (fun z => by cases z) (by rw [arrV_size]; exact fun z => z.elim g2 (fun z => by omega)) (by rw [arrV_read _ _ hlt] <;> (simp only [List.getD, g3]; rfl)) rfl rfl hd (k0 _ _ _ _ (Option.some.inj hop4).symm hL)
    · rw [g1] at harr
      exact W.aald (ty := .object "OneSkate$Slot") hx hb harr ((hY.1.2 4 _ rfl).1 _ _) rfl (fun z => by cases z) (by rw [arrV_size]; exact fun z => z.elim g2 (fun z => by omega)) (by rw [arrV_read _ _ hlt] <;> (simp only [List.getD, g3]; rfl)) rfl rfl hd (k0 _ _ _ _ (Option.some.inj hop4).symm hL)
  case iastore =>
    obtain ⟨a, i, v, r, rfl, hop1⟩ := am_riv_some hop
    obtain ⟨x, rfl, hop2⟩ := am_vi_some hop1
    obtain ⟨A1, hA, hop3⟩ := am_ho_some hop2
    obtain ⟨g1, g2, g3, rfl⟩ := am_wr_some hA
    obtain ⟨j, rfl, hi, hat, hav⟩ := am_cell hR (a := a) (by rw [g1]; decide) (by rw [g1]; decide)
    have harr := am_arr hat (by rw [g1]; decide)
    rw [g1] at harr
    have hgr := am_grow_p (t := 100) (v := .int x) g3
    refine W.iast hx hb harr ((hY.1.2 0 _ rfl).1 _ _) (fun z => by cases z) (by rw [arrV_size]; exact fun z => z.elim g2 (fun z => by omega)) rfl rfl hd (fun H1 e1 hz hq => ?_)
    refine k1 H1 (B + j) _ _ _ _ (Option.some.inj hop3).symm hgr.1 hgr.2 (hR.upd hi (am_at_arr (v := .int x) (by decide) g3 e1) hz hq) (Nat.le_add_right _ _)
  case lastore =>
    obtain ⟨a, i, v, r, rfl, hop1⟩ := am_riv_some hop
    obtain ⟨x, rfl, hop2⟩ := am_vl_some hop1
    obtain ⟨A1, hA, hop3⟩ := am_ho_some hop2
    obtain ⟨g1, g2, g3, rfl⟩ := am_wr_some hA
    obtain ⟨j, rfl, hi, hat, hav⟩ := am_cell hR (a := a) (by rw [g1]; decide) (by rw [g1]; decide)
    have harr := am_arr hat (by rw [g1]; decide)
    rw [g1] at harr
    have hgr := am_grow_p (t := 101) (v := .long x) g3
    refine W.last hx hb harr ((hY.1.2 1 _ rfl).1 _ _) (fun z => by cases z) (by rw [arrV_size]; exact fun z => z.elim g2 (fun z => by omega)) rfl rfl hd (fun H1 e1 hz hq => ?_)
    refine k1 H1 (B + j) _ _ _ _ (Option.some.inj hop3).symm hgr.1 hgr.2 (hR.upd hi (am_at_arr (v := .long x) (by decide) g3 e1) hz hq) (Nat.le_add_right _ _)
  case bastore =>
    obtain ⟨a, i, v, r, rfl, hop1⟩ := am_riv_some hop
    obtain ⟨x, rfl, hop2⟩ := am_vi_some hop1
    obtain ⟨hfit, hop3⟩ := am_if_some hop2
    have hnar : narrow .boolean (.int x) = .int x := by
      have : x = 0 ∨ x = 1 := by simpa [fits] using hfit
      rcases this with rfl | rfl <;> rfl
    obtain ⟨A1, hA, hop4⟩ := am_ho_some hop3
    obtain ⟨g1, g2, g3, rfl⟩ := am_wr_some hA
    obtain ⟨j, rfl, hi, hat, hav⟩ := am_cell hR (a := a) (by rw [g1]; decide) (by rw [g1]; decide)
    have harr := am_arr hat (by rw [g1]; decide)
    rw [g1] at harr
    have hgr := am_grow_p (t := 102) (v := .int x) g3
    refine W.zast hx hb harr ((hY.1.2 2 _ rfl).1 _ _) (fun z => by cases z) (by rw [arrV_size]; exact fun z => z.elim g2 (fun z => by omega)) rfl rfl hd (fun H1 e1 hz hq => ?_)
    rw [hnar] at e1
    refine k1 H1 (B + j) _ _ _ _ (Option.some.inj hop4).symm hgr.1 hgr.2 (hR.upd hi (am_at_arr (v := .int x) (by decide) g3 e1) hz hq) (Nat.le_add_right _ _)
  case aastore =>
    obtain ⟨a, i, v, r, rfl, hop1⟩ := am_riv_some hop
    obtain ⟨x, rfl, hop2⟩ := am_vr_some hop1
    obtain ⟨hc, hop3⟩ := am_if_some hop2
    obtain ⟨A1, hA, hop4⟩ := am_ho_some hop3
    obtain ⟨-, g2, g3, rfl⟩ := am_wr_some hA
    obtain ⟨j, rfl, hi, hat, hav⟩ := am_cell hR (a := a) (by rcases hc with z | z <;> rw [z.1] <;> decide) (by rcases hc with z | z <;> rw [z.1] <;> decide)
    obtain ⟨k, rfl, hk, hatk, havk⟩ := am_cell hR (a := x) (by rcases hc with z | z <;> rw [z.2] <;> decide) (by rcases hc with z | z <;> rw [z.2] <;> decide)
    have harr := am_arr hat (by rcases hc with z | z <;> rw [z.1] <;> decide)
    have hgr := am_grow_p (t := (am_g A (j + 1)).1) (v := .ref (k + 1)) g3
    have hob := am_ob hatk (by rcases hc with z | z <;> rw [z.2] <;> decide)
    obtain ⟨cellV, f1, f2, f3, -⟩ := hob
    rcases hc with g | g
    · have hcls := (hY.1.1 6 _ rfl).2
      obtain ⟨kA, comp, k1x, k2x, k3x, -⟩ := (hY.1.2 3 _ rfl).2
      have hcomp : comp = D.1 6 := Option.some.inj (k3x.symm.trans hcls.1)
      subst hcomp
      obtain ⟨kC, hkC, -⟩ := hcls.2
      rw [g.1] at harr hgr
      rw [g.2] at f2
      refine W.aast hx hb harr (fun z h => by cases h) (fun h => by cases h) k1x k2x rfl hkC ⟨g2, by rw [arrV_size]; exact g3⟩ f1 (fun z h => by rw [f3] at h; cases h) (by rw [f2]; exact hkC) (by rw [f2]; exact va_assign hcls) rfl rfl hd (fun H1 e1 hz hq => ?_)
      rw [g.1] at hop4
      exact k1 H1 (B + j) _ _ _ _ (Option.some.inj hop4).symm hgr.1 hgr.2 (hR.upd hi (am_at_arr (v := .ref (k + 1)) (by decide) g3 e1) hz hq) (Nat.le_add_right _ _)
    · have hcls := (hY.1.1 5 _ rfl).2
      obtain ⟨kA, comp, k1x, k2x, k3x, -⟩ := (hY.1.2 4 _ rfl).2
      have hcomp : comp = D.1 5 := Option.some.inj (k3x.symm.trans hcls.1)
      subst hcomp
      obtain ⟨kC, hkC, -⟩ := hcls.2
      rw [g.1] at harr hgr
      rw [g.2] at f2
      refine W.aast hx hb harr (fun z h => by cases h) (fun h => by cases h) k1x k2x rfl hkC ⟨g2, by rw [arrV_size]; exact g3⟩ f1 (fun z h => by rw [f3] at h; cases h) (by rw [f2]; exact hkC) (by rw [f2]; exact va_assign hcls) rfl rfl hd (fun H1 e1 hz hq => ?_)
      rw [g.1] at hop4
      exact k1 H1 (B + j) _ _ _ _ (Option.some.inj hop4).symm hgr.1 hgr.2 (hR.upd hi (am_at_arr (v := .ref (k + 1)) (by decide) g3 e1) hz hq) (Nat.le_add_right _ _)
  case arraylength =>
    obtain ⟨a, r, rfl, hop1⟩ := am_r1_some hop
    obtain ⟨⟨rfl, g1⟩, hop2⟩ := am_if_some hop1
    obtain ⟨hbB, hsz, ⟨L, xs, hx0, hX⟩, hrest⟩ := id hR
    rw [am_g_some hx0] at hop2
    obtain ⟨scr, f1, f2, f3, f4, f5⟩ := hX
    exact W.alen hx hb f1 f2 (by rw [f4]; simp) rfl rfl hd (k0 _ _ _ _ (Option.some.inj hop2).symm hL)
  case new i =>
    cases hop
    have h1x : (decide (ex < 12) && decide (lw_tbl[ew]? = some (Cond.classLink (am_y M).cls i (am_cn ex).1))) = true := h1
    rw [Bool.and_eq_true] at h1x
    have x12 : ex < 12 := of_decide_eq_true h1x.1
    obtain ⟨hc, hin0, hty, hnm, hdf, hins, hinit, hbl, hvs, -⟩ := am_cls ex x12
    have hB : H.size + 1 = B + A.length := hR.2.1
    have hAl : 0 < A.length := by
      obtain ⟨-, -, ⟨L, xs, hx0, -⟩, -⟩ := hR
      exact (List.getElem?_eq_some_iff.mp hx0).1
    have had : am_v b B (.ref A.length) = .ref H.size := by
      obtain ⟨k, hk⟩ : ∃ k, A.length = k + 1 := ⟨A.length - 1, by omega⟩
      rw [hk]
      exact congrArg Value.ref (show B + k = H.size by omega)
    have hKn := hY.1.1 ex _ hc
    have e1 : (A ++ [(ex, am_blank.getD ex [])]).length - A.length = 1 := by simp
    have e2 : am_sz (A ++ [(ex, am_blank.getD ex [])]) - am_sz A = (am_cn ex).2.2 := by rw [am_sz_app]; dsimp only; omega
    dsimp only at hcap kk
    rw [e1, e2] at hcap kk
    have hcp := hcap (by simp)
    refine W.newcK hx hb hown (hts _ (am_tb_at (of_decide_eq_true h1x.2) rfl)) (hts _ (am_tb_in hins rfl)) (hts _ (am_tb_in hinit rfl)) rfl hd hcp.1 hcp.2 hKn.2.1 rfl (fun H1 kC hkC f1 f2 f3 => ?_)
    have hob := (u_born (am_ty ex) hts (am_u_ws hin0) hKn hkC f1 hty).to hdf
    have hmp : (am_blank.getD ex []).map (am_v b B) = am_blank.getD ex [] := by
      conv => rhs; rw [← List.map_id (am_blank.getD ex [])]
      apply List.map_congr_left
      intro v hv
      rcases hvs v hv with rfl | rfl | rfl <;> rfl
    have := kk H1 locs lsJ (hR.push f2 (Or.inl ⟨by dsimp only; omega, _, hc, by dsimp only; rw [hmp]; exact hob⟩) f3) hL hlocs
    rw [List.map_cons, had] at this
    exact this
  case newarray ty =>
    obtain ⟨n, r, rfl, hop1⟩ := am_i1_some hop
    obtain ⟨hn, hop2⟩ := am_if_some hop1
    cases hop2
    have h1x : (decide (ex = am_in ty) && decide (100 ≤ am_in ty)) = true := h1
    rw [Bool.and_eq_true] at h1x
    have e0 : ex = am_in ty := of_decide_eq_true h1x.1
    have h100 : 100 ≤ am_in ty := of_decide_eq_true h1x.2
    have hB : H.size + 1 = B + A.length := hR.2.1
    have hAl : 0 < A.length := by
      obtain ⟨-, -, ⟨L, xs, hx0, -⟩, -⟩ := hR
      exact (List.getElem?_eq_some_iff.mp hx0).1
    have had : am_v b B (.ref A.length) = .ref H.size := by
      obtain ⟨k, hk⟩ : ∃ k, A.length = k + 1 := ⟨A.length - 1, by omega⟩
      rw [hk]
      exact congrArg Value.ref (show B + k = H.size by omega)
    have e1 : (A ++ [(ex, List.replicate n.toNatClampNeg (am_zero ex))]).length - A.length = 1 := by simp
    have e2 : am_sz (A ++ [(ex, List.replicate n.toNatClampNeg (am_zero ex))]) - am_sz A = n.toNatClampNeg := by rw [am_sz_app]; simp
    dsimp only at hcap kk
    rw [e1, e2] at hcap kk
    have hcp := hcap (by simp)
    have main : ∀ (H1 : Heap) (cA : ClassId), cA = D.2.2 ex → (∀ j, j < n.toNatClampNeg → defaultValue (newarray.typeOf ty) = am_zero ex) → am_v b B (am_zero ex) = am_zero ex → H1[H.size]? = some (arrV cA n.toNatClampNeg (fun _ => defaultValue (newarray.typeOf ty))) → H1.size = H.size + 1 → (∀ q, q < H.size → H1[q]? = H[q]?) → W p l e R s m args below meth c H1 locs (cells + 1) (slots + n.toNatClampNeg) Q (F0 m (pc + 2) lsJ (.ref H.size :: r.map (am_v b B))) := by
      intro H1 cA hcA hz hv f1 f2 f3
      have := kk H1 locs lsJ (hR.push f2 (Or.inr ⟨by dsimp only; omega, by
        dsimp only
        rw [f1, hcA, List.length_replicate]
        congr 1
        apply am_arrV_congr
        intro j hj
        rw [hz j hj]
        simp [List.getD, hj, hv]⟩) f3) hL hlocs
      rw [List.map_cons, had] at this
      exact this
    cases ty <;> first | (exfalso; revert h100; decide) | skip
    all_goals have e0 : ex = _ := e0
    all_goals subst e0
    case int => exact va_newaK hx hb (hts _ (am_tb_in (List.mem_of_getElem? (i := 90) (by decide +kernel)) rfl)) rfl hd rfl hn.1 rfl (by have := hn.2; simp [componentBytes, newarray.typeOf]; omega) hcp.1 hcp.2 rfl (fun H1 cA f1 f2 f3 f4 f5 => main H1 cA (Option.some.inj (f5.symm.trans (hY.1.2 0 _ rfl).2)) (fun _ _ => rfl) rfl f1 f2 f3)
    case long => exact va_newaK hx hb (hts _ (am_tb_in (List.mem_of_getElem? (i := 302) (by decide +kernel)) rfl)) rfl hd rfl hn.1 rfl (by have := hn.2; simp [componentBytes, newarray.typeOf]; omega) hcp.1 hcp.2 rfl (fun H1 cA f1 f2 f3 f4 f5 => main H1 cA (Option.some.inj (f5.symm.trans (hY.1.2 1 _ rfl).2)) (fun _ _ => rfl) rfl f1 f2 f3)
    case boolean => exact va_newaK hx hb (hts _ (am_tb_in (List.mem_of_getElem? (i := 288) (by decide +kernel)) rfl)) rfl hd rfl hn.1 rfl (by have := hn.2; simp [componentBytes, newarray.typeOf]; omega) hcp.1 hcp.2 rfl (fun H1 cA f1 f2 f3 f4 f5 => main H1 cA (Option.some.inj (f5.symm.trans (hY.1.2 2 _ rfl).2)) (fun _ _ => rfl) rfl f1 f2 f3)
  case anewarray i =>
    obtain ⟨n, r, rfl, hop1⟩ := am_i1_some hop
    obtain ⟨hn, hop2⟩ := am_if_some hop1
    cases hop2
    have hB : H.size + 1 = B + A.length := hR.2.1
    have hAl : 0 < A.length := by
      obtain ⟨-, -, ⟨L, xs, hx0, -⟩, -⟩ := hR
      exact (List.getElem?_eq_some_iff.mp hx0).1
    have had : am_v b B (.ref A.length) = .ref H.size := by
      obtain ⟨k, hk⟩ : ∃ k, A.length = k + 1 := ⟨A.length - 1, by omega⟩
      rw [hk]
      exact congrArg Value.ref (show B + k = H.size by omega)
    have e1 : (A ++ [(ex, List.replicate n.toNatClampNeg Value.null)]).length - A.length = 1 := by simp
    have e2 : am_sz (A ++ [(ex, List.replicate n.toNatClampNeg Value.null)]) - am_sz A = n.toNatClampNeg := by rw [am_sz_app]; simp
    dsimp only at hcap kk
    rw [e1, e2] at hcap kk
    have hcp := hcap (by simp)
    have main : ∀ (H1 : Heap) (cA : ClassId), 100 ≤ ex → cA = D.2.2 ex → H1 = H.push ({ cls := cA, slots := Array.replicate n.toNatClampNeg .null, vm := .none } : Cell) → W p l e R s m args below meth c H1 locs (cells + 1) (slots + n.toNatClampNeg) Q (F0 m (pc + 3) lsJ (.ref H.size :: r.map (am_v b B))) := by
      intro H1 cA h100 hcA hH1
      have f2 : H1.size = H.size + 1 := by rw [hH1, Array.size_push]
      have f1 : H1[H.size]? = some (arrV cA n.toNatClampNeg (fun _ => .null)) := by rw [hH1, Array.getElem?_push_size, ← arrV_new]
      have f3 : ∀ q : Nat, q < H.size → H1[q]? = H[q]? := fun q hq => by rw [hH1, Array.getElem?_push, if_neg (Nat.ne_of_lt hq)]
      have := kk H1 locs lsJ (hR.push f2 (Or.inr ⟨h100, by
        dsimp only
        rw [f1, hcA, List.length_replicate]
        congr 1
        apply am_arrV_congr
        intro j hj
        simp [List.getD, hj, am_v]⟩) f3) hL hlocs
      rw [List.map_cons, had] at this
      exact this
    have h1x : ((decide (ex = 103) && decide (lw_tbl[ew]? = some (Cond.classLink (am_y M).cls i "OneSkate$Standing"))) || (decide (ex = 104) && decide (lw_tbl[ew]? = some (Cond.classLink (am_y M).cls i "OneSkate$Slot")))) = true := h1
    simp only [Bool.or_eq_true, Bool.and_eq_true, decide_eq_true_eq] at h1x
    rcases h1x with ⟨rfl, h1x⟩ | ⟨rfl, h1x⟩
    · exact W.anew hx hb hown (hts _ (am_tb_at h1x rfl)) (va_AO.use hY.2.2.1) rfl hd rfl hn.1 (by have := hn.2; omega) hcp.1 hcp.2 (fun cA kA comp f1 f2 f3 f4 => main _ cA (by decide) (by
        obtain ⟨kA2, comp2, g1, g2, g3, g4⟩ := (hY.1.2 3 _ rfl).2
        exact Option.some.inj (f1.symm.trans g4)) rfl)
    · exact W.anew hx hb hown (hts _ (am_tb_at h1x rfl)) (va_AO.use hY.2.2.2) rfl hd rfl hn.1 (by have := hn.2; omega) hcp.1 hcp.2 (fun cA kA comp f1 f2 f3 f4 => main _ cA (by decide) (by
        obtain ⟨kA2, comp2, g1, g2, g3, g4⟩ := (hY.1.2 4 _ rfl).2
        exact Option.some.inj (f1.symm.trans g4)) rfl)
  all_goals cases hop
end AMO
