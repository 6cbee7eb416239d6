theorem am_oi1 : Cond.instanceMethod Lib.objectInit ∈ am_tb := am_tb_at (k := 72) (by decide +kernel) rfl
theorem am_oi2 : Cond.code Lib.objectInit ⟨#[0xb1]⟩ 1 none ∈ am_tb := am_tb_at (k := 73) (by decide +kernel) rfl
theorem am_mx1 : Cond.code Lib.Math.max.name Lib.Math.max.code 2 (some .int) ∈ am_tb := am_tb_at (k := 408) (by decide +kernel) rfl
theorem am_mx2 : Cond.static Lib.Math.max.name ∈ am_tb := am_tb_at (k := 407) (by decide +kernel) rfl
theorem am_mn1 : Cond.code Lib.Math.min.name Lib.Math.min.code 2 (some .int) ∈ am_tb := am_tb_at (k := 405) (by decide +kernel) rfl
theorem am_mn2 : Cond.static Lib.Math.min.name ∈ am_tb := am_tb_at (k := 404) (by decide +kernel) rfl
theorem am_mi : Cond.initialized "java/lang/Math" ∈ am_tb := am_tb_at (k := 64) (by decide +kernel) rfl
theorem am_dec_retv {M d pc : Nat} {ls st : List Value} {A : am_H} {x : am_E} {r : Option Value} {A' : am_H} (h : am_dec M d pc ls st A x = .inl (some (r, A'))) (hok : am_ok M (pc, x) = true) : st = r.toList ∧ am_ro M pc r := by
  obtain ⟨ins, ln, K, ey, ew⟩ := x
  unfold am_ok at hok
  rw [Bool.and_eq_true] at hok
  obtain ⟨hd0, h1⟩ := hok
  have hd := of_decide_eq_true hd0
  dsimp only at hd h1
  unfold am_dec at h
  dsimp only at h
  split at h
  · split at h
    next v =>
      split at h
      next hv =>
        cases h
        have h2 : (decide (am_rt M = some .int) || (decide (am_rt M = some .boolean) && decide ((am_k M).2.2.2.2 = 1))) = true := h1
        rw [Bool.or_eq_true, Bool.and_eq_true] at h2
        refine ⟨rfl, hd, ?_⟩
        rcases h2 with g | g
        · exact ⟨.int, of_decide_eq_true g, rfl⟩
        · refine ⟨.boolean, of_decide_eq_true g.1, ?_⟩
          rcases hv (of_decide_eq_true g.2) with rfl | rfl <;> rfl
      next => cases h
    next => cases h
  · split at h
    next v =>
      cases h
      have h2 : decide (am_rt M = some .long) = true := h1
      exact ⟨rfl, hd, of_decide_eq_true h2⟩
    next => cases h
  · split at h
    next =>
      cases h
      have h2 : decide (am_rt M = none) = true := h1
      exact ⟨rfl, hd, of_decide_eq_true h2⟩
    next => cases h
  · cases (am_cl_inl h)
  · split at h
    · unfold am_mm at h
      split at h
      · split at h <;> cases h
      · cases h
    · cases (am_cl_inl h)
  · split at h
    · split at h
      · split at h <;> cases h
      · cases h
    · cases (am_cl_inl h)
  · generalize ho : am_op _ pc ls st A = z at h
    cases z with
    | none => cases h
    | some q => cases h
theorem am_dec_go2 {M d pc : Nat} {ls st : List Value} {A : am_H} {x : am_E} {c : am_C} (h : am_dec M d pc ls st A x = .inr (.inl c)) : (∃ q, am_op x pc ls st A = some q ∧ c = (d, M, q.1, q.2.1, q.2.2.1, q.2.2.2)) ∨ (∃ d' o r i, d = d' + 1 ∧ st = .ref o :: r ∧ x.1 = .invokespecial i ∧ x.2.2.1 = 9999 ∧ am_wd r ≤ 8 ∧ c = (d, M, pc + 3, ls, r, A)) ∨
    (∃ d' i y z r, d = d' + 1 ∧ st = .int y :: .int z :: r ∧ x.1 = .invokestatic i ∧ (x.2.2.1 = 167 ∨ x.2.2.1 = 168) ∧ am_wd r ≤ 8 ∧ c = (d, M, pc + 3, ls, .int (if x.2.2.1 = 167 then (if z < y then y else z) else (if y < z then y else z)) :: r, A)) := by
  unfold am_dec at h
  split at h
  · cases h
  · cases h
  · cases h
  · exact (am_cl_not h).elim
  next i hi =>
    split at h
    next hm =>
      unfold am_mm at h
      split at h
      · split at h
        next hw =>
          cases h
          exact Or.inr (Or.inr ⟨_, i, _, _, _, rfl, rfl, hi, hm, hw, rfl⟩)
        next => cases h
      · cases h
    next => exact (am_cl_not h).elim
  next i hi =>
    split at h
    next hm =>
      split at h
      · split at h
        next hw =>
          cases h
          exact Or.inr (Or.inl ⟨_, _, _, i, rfl, rfl, hi, hm, hw, rfl⟩)
        next => cases h
      · cases h
    next => exact (am_cl_not h).elim
  · cases ho : am_op x pc ls st A with
    | none => rw [ho] at h; cases h
    | some q => rw [ho] at h; cases h; exact Or.inl ⟨q, rfl, rfl⟩
theorem am_cl_some {K d M pc : Nat} {ls st : List Value} {A : am_H} {q : am_C × (Option Value → am_H → am_C)} (h : am_cl K d M pc ls st A = .inr (.inr q)) : ∃ d' as rest, d = d' + 1 ∧ st = as.reverse ++ rest ∧ as.length = am_nr K ∧ am_wd rest ≤ 8 ∧ am_rc K as A = true ∧ (as.flatMap am_fl).length ≤ (am_k K).2.2.2.1 ∧ q.1 = (d', K, 0, am_lo K as, [], A) ∧ ∀ v A', q.2 v A' = (d, M, pc + 3, ls, v.toList ++ rest, A') := by
  unfold am_cl at h
  split at h
  · cases h
  next d' =>
    split at h
    next g =>
      cases h
      exact ⟨d', _, _, rfl, by rw [List.reverse_reverse, List.take_append_drop], by rw [List.length_reverse, List.length_take]; omega, g.2.1, g.2.2.1, g.2.2.2, rfl, fun _ _ => rfl⟩
    next => cases h
set_option maxHeartbeats 4000000 in
theorem am_walk (hCK : am_CK) : ∀ n, am_WK n := by
  intro n
  induction n with
  | zero => intro d M pc ls st A r A' h; cases h
  | succ n ih =>
    intro d M pc ls st A r A' hex p l e R s m args below meth c Q D b B H locs lsJ n0 z0 hK hY hR hL hlocs hfr hlo hn0 hz0 hc hs hret
    have hall := am_grow (n + 1) _ r A' hex
    dsimp only at hall
    have h : am_F (am_ex n) (d, M, pc, ls, st, A) = some (r, A') := hex
    unfold am_F am_D at h
    dsimp only at h
    cases ht : am_tab M pc with
    | none => rw [ht] at h; cases h
    | some x =>
      rw [ht] at h
      dsimp only at h
      obtain ⟨hok, hM⟩ := hCK.1 M pc x ht
      cases hd : am_dec M d pc ls st A x with
      | inl z =>
        rw [hd] at h
        dsimp only at h
        subst h
        have hA := am_dec_ret hd
        subst hA
        obtain ⟨hst, hro⟩ := am_dec_retv hd hok
        subst hst
        exact hret H locs lsJ pc hR hlocs hro
      | inr z =>
        cases z with
        | inl c' =>
          rw [hd] at h
          dsimp only at h
          rcases am_dec_go2 hd with ⟨q, hop, rfl⟩ | ⟨d', o, r', i, rfl, rfl, hi, h9, hw, rfl⟩ | ⟨d', i, y, z, r', rfl, rfl, hi, h9, hw, rfl⟩
          · have hg1 := am_op_grow hop
            have hg2 := am_grow n _ r A' h
            dsimp only at hg2
            refine am_op_sound hok hK hY hop hR hL hlocs (fun _ => ⟨by omega, by omega⟩) (fun H' locs' lsJ' hR' hL' hl' => ?_)
            refine W.cs (show A.length - n0 + (q.2.2.2.length - A.length) = q.2.2.2.length - n0 by omega) (show am_sz A - z0 + (am_sz q.2.2.2 - am_sz A) = am_sz q.2.2.2 - z0 by omega) ?_
            exact ih d M q.1 q.2.1 q.2.2.1 q.2.2.2 r A' h p l e R s m args below meth c Q D b B H' locs' lsJ' n0 z0 hK hY hR' hL' hl' hfr hlo (by omega) (by omega) hc hs hret
          · obtain ⟨hx, hb, hml, hown, hts, hini⟩ := id hK
            have hdec : decode (am_b M) pc = .ok (.invokespecial i, 3) := by
              unfold am_ok at hok
              rw [Bool.and_eq_true] at hok
              have h2 := of_decide_eq_true hok.1
              have h3 : am_len x = 3 := by unfold am_len; rw [hi]
              dsimp only at h2
              rw [hi, h3] at h2
              exact h2
            have hlk : lw_tbl[x.2.2.2.2]? = some (Cond.methodLink (am_y M).cls i objectInit) := by
              unfold am_ok at hok
              rw [Bool.and_eq_true] at hok
              have h2 := hok.2
              unfold am_ok1 at h2
              dsimp only at h2
              rw [hi] at h2
              have h3 : (if x.2.2.1 = 9999 then decide (lw_tbl[x.2.2.2.2]? = some (Cond.methodLink (am_y M).cls i objectInit)) else decide (x.2.2.1 < 169) && decide ((am_k x.2.2.1).1 = 2) && am_lk M i x.2.2.1 x.2.2.2.1 x.2.2.2.2) = true := h2
              rw [if_pos h9] at h3
              exact of_decide_eq_true h3
            have hsz : lsJ.size = c.maxLocals := by obtain ⟨lv, q, -⟩ := hL; rw [hml]; exact q.1
            refine W.objInit hx hb hown (hts _ (am_tb_at hlk rfl)) (hts _ am_oi1) (hts _ am_oi2) rfl hsz rfl hdec (by omega) (by
              have hz : ((r'.map (am_v b B)).map fun v => v.category).sum ≤ 8 := by rw [am_wd_map]; exact hw
              have := lv_room (m := m) (pc := pc) (ls := lsJ) (rest := r'.map (am_v b B)) hz
              show 2 * 0 + _ + 12 ≤ R.locals
              omega) ?_
            exact ih (d' + 1) M (pc + 3) ls r' A r A' h p l e R s m args below meth c Q D b B H locs lsJ n0 z0 hK hY hR hL hlocs hfr hlo hn0 hz0 hc hs hret
          · obtain ⟨hx, hb, hml, hown, hts, hini⟩ := id hK
            have hdec : decode (am_b M) pc = .ok (.invokestatic i, 3) := by
              unfold am_ok at hok
              rw [Bool.and_eq_true] at hok
              have h2 := of_decide_eq_true hok.1
              have h3 : am_len x = 3 := by unfold am_len; rw [hi]
              dsimp only at h2
              rw [hi, h3] at h2
              exact h2
            have hlk : lw_tbl[x.2.2.2.2]? = some (Cond.methodLink (am_y M).cls i (am_y x.2.2.1)) := by
              unfold am_ok at hok
              rw [Bool.and_eq_true] at hok
              have h2 := hok.2
              unfold am_ok1 at h2
              dsimp only at h2
              rw [hi] at h2
              have h3 : ((decide (x.2.2.1 < 167) || decide (x.2.2.2.1 = 0)) && decide (x.2.2.1 < 169) && decide ((am_k x.2.2.1).1 = 1) && am_lk M i x.2.2.1 x.2.2.2.1 x.2.2.2.2) = true := h2
              rw [Bool.and_eq_true, Bool.and_eq_true, Bool.and_eq_true, Bool.or_eq_true] at h3
              rcases am_lk_some h3.2 with ⟨hy, -⟩ | ⟨-, hl⟩
              · rcases h3.1.1.1 with g | g
                · have := of_decide_eq_true g; omega
                · have := of_decide_eq_true g; omega
              · exact hl
            have hsz : c.maxLocals = lsJ.size := by obtain ⟨lv, q, -⟩ := hL; rw [hml]; exact q.1.symm
            have hcats : ((r'.map (am_v b B)).map fun v => v.category).sum + 13 ≤ R.locals := by
              rw [am_wd_map]; omega
            have key := ih (d' + 1) M (pc + 3) ls _ A r A' h p l e R s m args below meth c Q D b B H locs lsJ n0 z0 hK hY hR hL hlocs hfr hlo hn0 hz0 hc hs hret
            rcases h9 with h9 | h9
            · rw [h9] at hlk
              rw [if_pos h9] at key
              exact va_mmax hx hb hsz hown (hts _ (am_tb_at hlk rfl)) (hts _ am_mx2) (hts _ am_mi) (hts _ am_mx1) (by omega) hcats (by omega) (by omega) hdec key
            · rw [h9] at hlk
              rw [if_neg (by omega)] at key
              exact va_mmin hx hb hsz hown (hts _ (am_tb_at hlk rfl)) (hts _ am_mn2) (hts _ am_mi) (hts _ am_mn1) (by omega) hcats (by omega) (by omega) hdec key
        | inr q =>
          rw [hd] at h
          dsimp only at h
          obtain ⟨hcl, hins⟩ := am_dec_call hd
          obtain ⟨d', as, rest, rfl, rfl, hlen, hwd, hrc, hfl, hq1, hq2⟩ := am_cl_some hcl
          rw [hq1] at h
          cases hex1 : am_ex n (d', x.2.2.1, 0, am_lo x.2.2.1 as, [], A) with
          | none => rw [hex1] at h; cases h
          | some v =>
            obtain ⟨r1, A1⟩ := v
            rw [hex1] at h
            dsimp only at h
            rw [hq2] at h
            have hg1 := am_grow n _ r1 A1 hex1
            have hg2 := am_grow n _ r A' h
            dsimp only at hg1 hg2
            refine am_call_sound hCK ih hok hK hY hR hL hlocs hins hlen hwd hrc hfl hex1 hfr hlo ⟨by omega, by omega⟩ (fun H' locs' hR' hl' => ?_)
            refine W.cs (show A.length - n0 + (A1.length - A.length) = A1.length - n0 by omega) (show am_sz A - z0 + (am_sz A1 - am_sz A) = am_sz A1 - z0 by omega) ?_
            exact ih (d' + 1) M (pc + 3) ls _ A1 r A' h p l e R s m args below meth c Q D b B H' locs' lsJ n0 z0 hK hY hR' hL hl' hfr hlo (by omega) (by omega) hc hs hret
