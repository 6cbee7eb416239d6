def am_sg (x y : Nat) : Int := if y = 1 then -(x : Int) else (x : Int)
def am_k (M : Nat) : Nat × Nat × Nat × Nat × Nat := am_kd.getD M (9, 0, 0, 0, 0)
def am_y (M : Nat) : MethodName := (am_yb.getD M (y_X11_init, code, none)).1
def am_b (M : Nat) : ByteArray := (am_yb.getD M (y_X11_init, code, none)).2.1
def am_rt (M : Nat) : Option FieldType := (am_yb.getD M (y_X11_init, code, none)).2.2
def am_len (e : am_E) : Nat := match e.1 with
  | .bipush _ | .ldc _ | .iload _ | .lload _ | .aload _ | .istore _ | .lstore _ | .astore _ | .newarray _ => 2
  | .sipush _ | .ldc_w _ | .ldc2_w _ | .iinc _ _ | .ifCond _ _ | .if_icmp _ _ | .goto _ | .getfield _ | .putfield _ | .new _ | .anewarray _ | .invokevirtual _ | .invokestatic _ | .invokespecial _ => 3
  | .tableswitch _ _ _ _ => e.2.2.2.1
  | _ => 1
def am_cn (x : Nat) : vw_C := vwCl.getD x ("", TX0, 0)
def am_fn (x y : Nat) : String × String × String × Bool := (am_cn x).2.1 y
def am_fd (M i x y w : Nat) : Bool := decide (x < 12) && decide (y < (am_cn x).2.2) && decide (lw_tbl[w]? = some (Cond.fieldLink (am_y M).cls i (am_fn x y).1 (am_fn x y).2.1 (am_fn x y).2.2.1))
def am_lk (M i x y w : Nat) : Bool := if y = 1 then decide (lw_tbl[w]? = some (Cond.methodLinkNest (am_y M).cls i (am_y x) "OneSkate")) else decide (y = 0) && decide (lw_tbl[w]? = some (Cond.methodLink (am_y M).cls i (am_y x)))
def am_in : ArrayType → Nat
  | .int => 100
  | .long => 101
  | .boolean => 102
  | _ => 0
def am_ok1 (M pc : Nat) (e : am_E) : Bool := match e.1 with
  | .bipush n => decide (-128 ≤ n) && decide (n ≤ 127)
  | .sipush n => decide (-32768 ≤ n) && decide (n ≤ 32767)
  | .ldc i | .ldc_w i => decide (lw_tbl[e.2.2.2.2]? = some (Cond.constant (am_y M).cls i (Int32.ofInt e.2.2.1)))
  | .ldc2_w i => decide (lw_tbl[e.2.2.2.2]? = some (Cond.constantLong (am_y M).cls i (Int64.ofInt (am_sg e.2.2.1 e.2.2.2.1))))
  | .ifCond _ off | .if_icmp _ off | .goto off => decide ((pc : Int) + off = (e.2.2.1 : Int))
  | .tableswitch dflt _ _ offs => decide (0 ≤ (pc : Int) + dflt) && offs.toList.all fun o => decide (0 ≤ (pc : Int) + o)
  | .getfield i => am_fd M i e.2.2.1 e.2.2.2.1 e.2.2.2.2
  | .putfield i => am_fd M i e.2.2.1 e.2.2.2.1 e.2.2.2.2 && (!(am_fn e.2.2.1 e.2.2.2.1).2.2.2 || (decide ((am_k M).1 = 2) && decide ((am_fn e.2.2.1 e.2.2.2.1).1 = (am_y M).cls)))
  | .new i => decide (e.2.2.1 < 12) && decide (lw_tbl[e.2.2.2.2]? = some (Cond.classLink (am_y M).cls i (am_cn e.2.2.1).1))
  | .newarray t => decide (e.2.2.1 = am_in t) && decide (100 ≤ am_in t)
  | .anewarray i => (decide (e.2.2.1 = 103) && decide (lw_tbl[e.2.2.2.2]? = some (Cond.classLink (am_y M).cls i "OneSkate$Standing"))) || (decide (e.2.2.1 = 104) && decide (lw_tbl[e.2.2.2.2]? = some (Cond.classLink (am_y M).cls i "OneSkate$Slot")))
  | .invokevirtual i => decide (e.2.2.1 < 169) && decide ((am_k e.2.2.1).1 = 0) && decide (e.2.2.2.1 = 0) && am_lk M i e.2.2.1 e.2.2.2.1 e.2.2.2.2
  | .invokestatic i => (decide (e.2.2.1 < 167) || decide (e.2.2.2.1 = 0)) && decide (e.2.2.1 < 169) && decide ((am_k e.2.2.1).1 = 1) && am_lk M i e.2.2.1 e.2.2.2.1 e.2.2.2.2
  | .invokespecial i => if e.2.2.1 = 9999 then decide (lw_tbl[e.2.2.2.2]? = some (Cond.methodLink (am_y M).cls i objectInit)) else decide (e.2.2.1 < 169) && decide ((am_k e.2.2.1).1 = 2) && am_lk M i e.2.2.1 e.2.2.2.1 e.2.2.2.2
  | .return_ => decide (am_rt M = none)
  | .lreturn => decide (am_rt M = some .long)
  | .ireturn => decide (am_rt M = some .int) || (decide (am_rt M = some .boolean) && decide ((am_k M).2.2.2.2 = 1))
  | _ => true
def am_ok (M : Nat) (q : Nat × am_E) : Bool := decide (decode (am_b M) q.1 = .ok (q.2.1, am_len q.2)) && am_ok1 M q.1 q.2
/-- what a method's own words are, by their places -/
def am_mw (M : Nat) (q : Nat × Nat × Nat × Nat) : Bool :=
  decide (lw_tbl[q.1]? = some (Cond.code (am_y M) (am_b M) (am_k M).2.2.2.1 (am_rt M))) && decide (lw_tbl[q.2.1]? = some (Cond.initialized (am_y M).cls)) &&
  (match (am_k M).1 with
  | 0 => decide (lw_tbl[q.2.2.1]? = some (Cond.instanceMethod (am_y M))) && decide (lw_tbl[q.2.2.2]? = some (Cond.selects (am_y M).cls (am_y M) (am_y M))) && decide ((am_cn (am_k M).2.2.1).1 = (am_y M).cls) && decide ((am_k M).2.2.1 < 12)
  | 1 => decide (lw_tbl[q.2.2.1]? = some (Cond.static (am_y M)))
  | _ => decide (lw_tbl[q.2.2.1]? = some (Cond.instanceMethod (am_y M))) && decide ((am_y M).name = "<init>")) &&
  decide ((am_y M).cls ≠ "java/lang/invoke/MethodHandle") && decide ((am_y M).cls ≠ "java/lang/invoke/VarHandle") && decide ((parseMethodDescriptor (am_y M).desc).map (fun d => d.parameters.length) = some (am_k M).2.1) && (decide (M = 167) || decide (M = 168) || plainName (am_y M).cls) &&
  decide ((am_k M).2.2.2.1 ≤ 40) && (match am_rt M with
  | none => true
  | some .int => true
  | some .long => true
  | some .boolean => decide ((am_k M).2.2.2.2 = 1)
  | _ => false) && decide ((am_k M).1 = 2 → am_rt M = none)
def am_mws : List (Nat × Nat × Nat × Nat) := [(755, 63, 754, 0), (760, 63, 759, 21), (189, 56, 188, 0), (479, 56, 477, 478), (483, 56, 482, 7), (529, 56, 527, 528), (258, 59, 257, 0), (653, 59, 651, 652), (657, 59, 656, 18), (661, 59, 660, 19), (667, 59, 666, 20), (208, 57, 207, 0), (619, 57, 617, 618), (575, 57, 574, 0), (565, 57, 563, 564), (570, 57, 569, 11), (538, 57, 536, 537), (544, 57, 543, 10), (225, 58, 224, 0), (583, 58, 581, 582), (587, 58, 586, 13), (590, 58, 589, 0), (594, 58, 593, 14), (598, 58, 596, 597), (615, 58, 613, 614), (602, 58, 600, 601), (607, 58, 606, 15), (611, 58, 610, 16), (641, 58, 639, 640), (645, 58, 644, 17), (272, 60, 271, 0), (675, 60, 673, 674), (687, 60, 685, 686), (306, 62, 305, 0), (167, 55, 166, 0), (433, 55, 431, 432), (487, 55, 485, 486), (445, 55, 443, 444), (441, 55, 439, 440), (495, 55, 493, 494), (491, 55, 489, 490), (517, 55, 515, 516), (505, 55, 504, 8), (509, 55, 508, 9), (78, 53, 77, 0), (362, 53, 360, 361), (95, 54, 94, 0), (374, 54, 372, 373), (378, 54, 377, 0), (382, 54, 381, 1), (386, 54, 385, 2), (412, 54, 411, 5), (394, 54, 393, 3), (398, 54, 397, 4), (420, 54, 418, 419), (425, 54, 424, 6), (390, 54, 388, 389), (453, 54, 451, 452), (465, 54, 463, 464), (457, 54, 455, 456), (473, 54, 471, 472), (402, 54, 400, 401), (501, 54, 499, 500), (521, 54, 519, 520), (556, 54, 554, 555), (293, 61, 292, 0), (707, 61, 705, 706), (712, 61, 710, 711), (715, 61, 714, 0), (723, 61, 721, 722), (70, 52, 69, 0), (358, 52, 356, 357), (366, 52, 364, 365), (370, 52, 368, 369), (416, 52, 414, 415), (437, 52, 435, 436), (449, 52, 447, 448), (461, 52, 459, 460), (469, 52, 467, 468), (513, 52, 511, 512), (525, 52, 523, 524), (533, 52, 531, 532), (552, 52, 550, 551), (561, 52, 559, 560), (624, 52, 622, 623), (629, 52, 627, 628), (633, 52, 631, 632), (637, 52, 635, 636), (649, 52, 647, 648), (671, 52, 669, 670), (679, 52, 677, 678), (683, 52, 681, 682), (692, 52, 690, 691), (696, 52, 694, 695), (719, 52, 717, 718), (727, 52, 725, 726), (731, 52, 729, 730), (745, 52, 743, 744), (750, 52, 748, 749), (579, 52, 578, 12), (548, 52, 547, 0), (699, 52, 698, 0), (702, 52, 701, 0), (428, 52, 427, 0), (898, 63, 897, 0), (961, 63, 960, 0), (958, 63, 957, 31), (1017, 63, 1016, 40), (969, 63, 968, 32), (894, 63, 892, 893), (902, 63, 900, 901), (914, 63, 913, 23), (930, 63, 929, 27), (926, 63, 925, 26), (922, 63, 921, 25), (934, 63, 933, 28), (938, 63, 937, 29), (918, 63, 917, 24), (910, 63, 909, 22), (906, 63, 904, 905), (942, 63, 940, 941), (950, 63, 949, 30), (946, 63, 944, 945), (954, 63, 952, 953), (965, 63, 963, 964), (985, 63, 984, 35), (1009, 63, 1008, 39), (981, 63, 980, 34), (993, 63, 992, 37), (989, 63, 988, 36), (1001, 63, 1000, 38), (977, 63, 976, 33), (973, 63, 971, 972), (997, 63, 995, 996), (1005, 63, 1003, 1004), (1021, 63, 1020, 41), (1013, 63, 1011, 1012), (1026, 63, 1024, 1025), (1046, 63, 1045, 45), (1042, 63, 1041, 44), (1038, 63, 1037, 43), (1050, 63, 1049, 46), (1034, 63, 1033, 42), (1030, 63, 1028, 1029), (1054, 63, 1052, 1053), (1058, 63, 1056, 1057), (1062, 63, 1060, 1061), (1070, 63, 1069, 47), (1066, 63, 1064, 1065), (1082, 63, 1081, 49), (1078, 63, 1077, 48), (1074, 63, 1072, 1073), (1086, 63, 1084, 1085), (1090, 63, 1088, 1089), (1098, 63, 1097, 50), (1094, 63, 1092, 1093), (1102, 63, 1100, 1101), (1118, 63, 1117, 0), (1112, 63, 1111, 0), (1115, 63, 1114, 0), (1106, 63, 1104, 1105), (1122, 63, 1120, 1121), (1126, 63, 1124, 1125), (1130, 63, 1128, 1129), (1138, 63, 1136, 1137), (1142, 63, 1140, 1141), (734, 65, 733, 0), (408, 64, 407, 0), (405, 64, 404, 0), (0, 0, 0, 0)]
abbrev am_H : Type := List (Nat × List Value)
abbrev am_R : Type := Option (Option Value × am_H)
abbrev am_C : Type := Nat × Nat × Nat × List Value × List Value × am_H
def am_g (A : am_H) (i : Nat) : Nat × List Value := A.getD i (999, [])
def am_p : am_H → Nat → Nat × List Value → am_H
  | [], 0, c => [c]
  | [], i + 1, c => (999, []) :: am_p [] i c
  | _ :: t, 0, c => c :: t
  | x :: t, i + 1, c => x :: am_p t i c
def am_sz (A : am_H) : Nat := (A.map fun c => c.2.length).sum
theorem am_g_nil (j : Nat) : am_g [] j = (999, []) := by simp [am_g]
theorem am_g_p (A : am_H) (i j : Nat) (c : Nat × List Value) : am_g (am_p A i c) j = if j = i then c else am_g A j := by
  induction A generalizing i j with
  | nil =>
    induction i generalizing j with
    | zero => cases j <;> simp [am_g, am_p]
    | succ i ih =>
      cases j with
      | zero => simp [am_g, am_p]
      | succ j =>
        have := ih j
        simp only [am_p, am_g, List.getD_cons_succ, Nat.add_right_cancel_iff] at this ⊢
        rw [this]; simp
  | cons x t ih =>
    cases i with
    | zero => cases j <;> simp [am_g, am_p]
    | succ i =>
      cases j with
      | zero => simp [am_g, am_p]
      | succ j =>
        have := ih i j
        simp only [am_p, am_g, List.getD_cons_succ, Nat.add_right_cancel_iff] at this ⊢
        exact this
theorem am_p_set (A : am_H) (i : Nat) (c : Nat × List Value) (h : i < A.length) : am_p A i c = A.set i c := by
  induction A generalizing i with
  | nil => simp at h
  | cons x t ih =>
    cases i with
    | zero => rfl
    | succ i => simp only [am_p, List.set_cons_succ]; rw [ih i (by simpa using h)]
theorem am_g_some {A : am_H} {i : Nat} {c : Nat × List Value} (h : A[i]? = some c) : am_g A i = c := by simp [am_g, List.getD, h]
theorem am_g_lt {A : am_H} {i : Nat} (h : (am_g A i).1 ≠ 999) : A[i]? = some (am_g A i) := by
  unfold am_g at h ⊢
  cases hc : A[i]? with
  | none => simp [List.getD, hc] at h
  | some c => simp [List.getD, hc]
/-- the value of a row of cells, by its kind of cell -/
def am_gf (x y : Nat) (A : am_H) (a : Nat) : Option Value := if (am_g A a).1 = x then (am_g A a).2[y]? else none
def am_pf (x y : Nat) (A : am_H) (a : Nat) (v : Value) : Option am_H := if (am_g A a).1 = x ∧ y < (am_g A a).2.length then some (am_p A a (x, (am_g A a).2.set y v)) else none
def am_rd (t : Nat) (A : am_H) (a : Nat) (i : Int32) : Option Value := if (am_g A a).1 = t ∧ ¬ i < 0 then (am_g A a).2[i.toNatClampNeg]? else none
def am_wr (t : Nat) (A : am_H) (a : Nat) (i : Int32) (v : Value) : Option am_H := if (am_g A a).1 = t ∧ ¬ i < 0 ∧ i.toNatClampNeg < (am_g A a).2.length then some (am_p A a (t, (am_g A a).2.set i.toNatClampNeg v)) else none
def am_kill (ls : List Value) : Nat → List Value
  | 0 => ls
  | i + 1 => match ls[i]? with
    | some v => if v.category = 2 then ls.set i .null else ls
    | none => ls
def am_st1 (ls : List Value) (i : Nat) (v : Value) : List Value := (am_kill ls i).set i v
def am_st2 (ls : List Value) (i : Nat) (v : Value) : List Value := ((am_kill ls i).set i v).set (i + 1) .null
abbrev am_Q : Type := Option (Nat × List Value × List Value × am_H)
def am_i1 (st : List Value) (k : Int32 → List Value → am_Q) : am_Q := match st with
  | .int x :: r => k x r
  | _ => none
def am_i2 (st : List Value) (k : Int32 → Int32 → List Value → am_Q) : am_Q := match st with
  | .int y :: .int x :: r => k x y r
  | _ => none
def am_l1 (st : List Value) (k : Int64 → List Value → am_Q) : am_Q := match st with
  | .long x :: r => k x r
  | _ => none
def am_l2 (st : List Value) (k : Int64 → Int64 → List Value → am_Q) : am_Q := match st with
  | .long y :: .long x :: r => k x y r
  | _ => none
def am_li (st : List Value) (k : Int64 → Int32 → List Value → am_Q) : am_Q := match st with
  | .int y :: .long x :: r => k x y r
  | _ => none
def am_r1 (st : List Value) (k : Nat → List Value → am_Q) : am_Q := match st with
  | .ref a :: r => k a r
  | _ => none
def am_ri (st : List Value) (k : Nat → Int32 → List Value → am_Q) : am_Q := match st with
  | .int i :: .ref a :: r => k a i r
  | _ => none
def am_riv (st : List Value) (k : Nat → Int32 → Value → List Value → am_Q) : am_Q := match st with
  | v :: .int i :: .ref a :: r => k a i v r
  | _ => none
def am_rv (st : List Value) (k : Nat → Value → List Value → am_Q) : am_Q := match st with
  | v :: .ref a :: r => k a v r
  | _ => none
def am_vi (v : Value) (k : Int32 → am_Q) : am_Q := match v with
  | .int x => k x
  | _ => none
def am_vl (v : Value) (k : Int64 → am_Q) : am_Q := match v with
  | .long x => k x
  | _ => none
def am_vr (v : Value) (k : Nat → am_Q) : am_Q := match v with
  | .ref x => k x
  | _ => none
def am_vo (v : Option Value) (k : Value → am_Q) : am_Q := match v with
  | some x => k x
  | none => none
def am_ho (v : Option am_H) (k : am_H → am_Q) : am_Q := match v with
  | some x => k x
  | none => none
def am_if (c : Prop) [Decidable c] (q : am_Q) : am_Q := if c then q else none
def am_fields (x : Nat) : List Value := ((vwCl.getD x ("", TX0, 0)) |> fun r => (List.range r.2.2).map fun k => defaultValue ((parseFieldDescriptor (r.2.1 k).2.2.1).getD .int))
/-- a blank cell's fields, by its kind -/
def am_blank : List (List Value) := [[.null, .int 0], [.null, .null], [.null, .null, .null], [.int 0, .int 0, .int 0, .int 0, .null, .null, .null], [.null, .null, .null, .int 0], [.null, .int 0], [.null, .null, .null], [.null, .int 0], [.int 0, .int 0, .int 0, .int 0, .null, .null, .null, .null, .null, .null, .null, .null, .int 0, .int 0], [.null, .null], [.null, .null, .null, .null, .null, .null, .null, .null, .null, .null, .null, .long 0], (am_fields 11)]
def am_ty (x y : Nat) : FieldType := match x with
  | 0 => tyX0 y
  | 1 => tyX1 y
  | 2 => tyX2 y
  | 3 => tyX3 y
  | 4 => tyX4 y
  | 5 => tyX5 y
  | 6 => tyX6 y
  | 7 => tyX7 y
  | 8 => tyX8 y
  | 9 => tyX9 y
  | 10 => tyX10 y
  | _ => tyX11 y
def am_zero (x : Nat) : Value := if x = 101 then .long 0 else if x < 103 then .int 0 else .null
def am_cmp (c : ClassFile.Cond) (x y : Int32) (k1 k2 : am_Q) : am_Q := match c with
  | .eq => if x = y then k1 else k2
  | .ne => if x = y then k2 else k1
  | .lt => if x < y then k1 else k2
  | .ge => if y ≤ x then k1 else k2
  | .gt => if y < x then k1 else k2
  | .le => if x ≤ y then k1 else k2
def am_op (e : am_E) (pc : Nat) (ls st : List Value) (A : am_H) : am_Q := match e.1 with
  | .iconst n => some (pc + 1, ls, .int (Int32.ofInt n) :: st, A)
  | .bipush n => some (pc + 2, ls, .int (Int32.ofInt n) :: st, A)
  | .sipush n => some (pc + 3, ls, .int (Int32.ofInt n) :: st, A)
  | .lconst n => some (pc + 1, ls, .long (Int64.ofInt (n : Nat)) :: st, A)
  | .ldc _ => some (pc + 2, ls, .int (Int32.ofInt e.2.2.1) :: st, A)
  | .ldc_w _ => some (pc + 3, ls, .int (Int32.ofInt e.2.2.1) :: st, A)
  | .ldc2_w _ => some (pc + 3, ls, .long (Int64.ofInt (am_sg e.2.2.1 e.2.2.2.1)) :: st, A)
  | .iload i => am_vo ls[i]? fun v => am_vi v fun x => some (pc + 2, ls, .int x :: st, A)
  | .iload_n i => am_vo ls[(i : Nat)]? fun v => am_vi v fun x => some (pc + 1, ls, .int x :: st, A)
  | .lload i => am_vo ls[i]? fun v => am_vl v fun x => some (pc + 2, ls, .long x :: st, A)
  | .lload_n i => am_vo ls[(i : Nat)]? fun v => am_vl v fun x => some (pc + 1, ls, .long x :: st, A)
  | .aload i => am_vo ls[i]? fun v => am_vr v fun x => some (pc + 2, ls, .ref x :: st, A)
  | .aload_n i => am_vo ls[(i : Nat)]? fun v => am_vr v fun x => some (pc + 1, ls, .ref x :: st, A)
  | .istore i => am_i1 st fun x r => am_if (i < ls.length) (some (pc + 2, am_st1 ls i (.int x), r, A))
  | .istore_n i => am_i1 st fun x r => am_if ((i : Nat) < ls.length) (some (pc + 1, am_st1 ls i (.int x), r, A))
  | .lstore i => am_l1 st fun x r => am_if (i + 1 < ls.length) (some (pc + 2, am_st2 ls i (.long x), r, A))
  | .lstore_n i => am_l1 st fun x r => am_if ((i : Nat) + 1 < ls.length) (some (pc + 1, am_st2 ls i (.long x), r, A))
  | .astore i => am_r1 st fun x r => am_if (i < ls.length) (some (pc + 2, am_st1 ls i (.ref x), r, A))
  | .astore_n i => am_r1 st fun x r => am_if ((i : Nat) < ls.length) (some (pc + 1, am_st1 ls i (.ref x), r, A))
  | .iinc i n => am_vo ls[i]? fun v => am_vi v fun x => some (pc + 3, am_st1 ls i (.int (x + Int32.ofInt n)), st, A)
  | .iadd => am_i2 st fun x y r => some (pc + 1, ls, .int (x + y) :: r, A)
  | .isub => am_i2 st fun x y r => some (pc + 1, ls, .int (x - y) :: r, A)
  | .imul => am_i2 st fun x y r => some (pc + 1, ls, .int (x * y) :: r, A)
  | .iand => am_i2 st fun x y r => some (pc + 1, ls, .int (x &&& y) :: r, A)
  | .ior => am_i2 st fun x y r => some (pc + 1, ls, .int (x ||| y) :: r, A)
  | .ixor => am_i2 st fun x y r => some (pc + 1, ls, .int (x ^^^ y) :: r, A)
  | .ishl => am_i2 st fun x y r => some (pc + 1, ls, .int (x <<< (y &&& 31)) :: r, A)
  | .ishr => am_i2 st fun x y r => some (pc + 1, ls, .int (x >>> (y &&& 31)) :: r, A)
  | .iushr => am_i2 st fun x y r => some (pc + 1, ls, .int ((x.toUInt32 >>> (y.toUInt32 &&& Int32.toUInt32 31)).toInt32) :: r, A)
  | .idiv => am_i2 st fun x y r => am_if (¬ y = 0) (some (pc + 1, ls, .int (x / y) :: r, A))
  | .irem => am_i2 st fun x y r => am_if (¬ y = 0) (some (pc + 1, ls, .int (x - x / y * y) :: r, A))
  | .ladd => am_l2 st fun x y r => some (pc + 1, ls, .long (x + y) :: r, A)
  | .lmul => am_l2 st fun x y r => some (pc + 1, ls, .long (x * y) :: r, A)
  | .land => am_l2 st fun x y r => some (pc + 1, ls, .long (x &&& y) :: r, A)
  | .lor => am_l2 st fun x y r => some (pc + 1, ls, .long (x ||| y) :: r, A)
  | .ldiv => am_l2 st fun x y r => am_if (¬ y = 0) (some (pc + 1, ls, .long (x / y) :: r, A))
  | .lrem => am_l2 st fun x y r => am_if (¬ y = 0) (some (pc + 1, ls, .long (x - x / y * y) :: r, A))
  | .lshl => am_li st fun x y r => some (pc + 1, ls, .long (x <<< (y.toInt64 &&& 63)) :: r, A)
  | .lshr => am_li st fun x y r => some (pc + 1, ls, .long (x >>> (y.toInt64 &&& 63)) :: r, A)
  | .lushr => am_li st fun x y r => some (pc + 1, ls, .long ((x.toUInt64 >>> (y.toInt64.toUInt64 &&& Int64.toUInt64 63)).toInt64) :: r, A)
  | .lcmp => am_l2 st fun x y r => some (pc + 1, ls, .int (lg_cmp x y) :: r, A)
  | .i2l => am_i1 st fun x r => some (pc + 1, ls, .long x.toInt64 :: r, A)
  | .l2i => am_l1 st fun x r => some (pc + 1, ls, .int x.toInt32 :: r, A)
  | .dup => match st with
    | v :: r => am_if (v.category = 1) (some (pc + 1, ls, v :: v :: r, A))
    | _ => none
  | .dup2 => match st with
    | v :: w :: r => am_if (v.category = 1 ∧ w.category = 1) (some (pc + 1, ls, v :: w :: v :: w :: r, A))
    | _ => none
  | .ifCond c _ => am_i1 st fun x r => am_cmp c x 0 (some (e.2.2.1, ls, r, A)) (some (pc + 3, ls, r, A))
  | .if_icmp c _ => am_i2 st fun x y r => am_cmp c x y (some (e.2.2.1, ls, r, A)) (some (pc + 3, ls, r, A))
  | .goto _ => some (e.2.2.1, ls, st, A)
  | .tableswitch dflt lo hi offs => am_i1 st fun x r => if x.toInt < lo ∨ hi < x.toInt then some (((pc : Int) + dflt).toNat, ls, r, A) else match offs[(x.toInt - lo).toNat]? with
    | some off => some (((pc : Int) + off).toNat, ls, r, A)
    | none => none
  | .getfield _ => am_r1 st fun a r => am_vo (am_gf e.2.2.1 e.2.2.2.1 A a) fun v => some (pc + 3, ls, v :: r, A)
  | .putfield _ => am_rv st fun a v r => am_if (fits (am_ty e.2.2.1 e.2.2.2.1) v = true) (am_ho (am_pf e.2.2.1 e.2.2.2.1 A a v) fun A' => some (pc + 3, ls, r, A'))
  | .iaload => am_ri st fun a i r => am_vo (am_rd (if a = 0 then 200 else 100) A a i) fun v => am_vi v fun x => some (pc + 1, ls, .int x :: r, A)
  | .laload => am_ri st fun a i r => am_vo (am_rd 101 A a i) fun v => am_vl v fun x => some (pc + 1, ls, .long x :: r, A)
  | .baload => am_ri st fun a i r => am_vo (am_rd 102 A a i) fun v => am_vi v fun x => some (pc + 1, ls, .int x :: r, A)
  | .aaload => am_ri st fun a i r => am_vo (am_rd (am_g A a).1 A a i) fun v => am_vr v fun x => am_if ((am_g A a).1 = 103 ∨ (am_g A a).1 = 104) (some (pc + 1, ls, .ref x :: r, A))
  | .iastore => am_riv st fun a i v r => am_vi v fun x => am_ho (am_wr 100 A a i (.int x)) fun A' => some (pc + 1, ls, r, A')
  | .lastore => am_riv st fun a i v r => am_vl v fun x => am_ho (am_wr 101 A a i (.long x)) fun A' => some (pc + 1, ls, r, A')
  | .bastore => am_riv st fun a i v r => am_vi v fun x => am_if (fits .boolean (.int x) = true) (am_ho (am_wr 102 A a i (.int x)) fun A' => some (pc + 1, ls, r, A'))
  | .aastore => am_riv st fun a i v r => am_vr v fun x => am_if (((am_g A a).1 = 103 ∧ (am_g A x).1 = 6) ∨ ((am_g A a).1 = 104 ∧ (am_g A x).1 = 5)) (am_ho (am_wr (am_g A a).1 A a i (.ref x)) fun A' => some (pc + 1, ls, r, A'))
  | .arraylength => am_r1 st fun a r => am_if (a = 0 ∧ (am_g A a).1 = 200) (some (pc + 1, ls, .int (Int32.ofNat (am_g A a).2.length) :: r, A))
  | .new _ => some (pc + 3, ls, .ref A.length :: st, A ++ [(e.2.2.1, am_blank.getD e.2.2.1 [])])
  | .newarray _ => am_i1 st fun n r => am_if (¬ n < 0 ∧ n.toNatClampNeg ≤ 1000) (some (pc + 2, ls, .ref A.length :: r, A ++ [(e.2.2.1, List.replicate n.toNatClampNeg (am_zero e.2.2.1))]))
  | .anewarray _ => am_i1 st fun n r => am_if (¬ n < 0 ∧ n.toNatClampNeg ≤ 1000) (some (pc + 3, ls, .ref A.length :: r, A ++ [(e.2.2.1, List.replicate n.toNatClampNeg .null)]))
  | _ => none
def am_tab (M pc : Nat) : Option am_E := match (am_tabs.getD M [])[pc / 16]? with
  | some l => l.lookup pc
  | none => none
def am_rc (K : Nat) (as : List Value) (A : am_H) : Bool := match (am_k K).1 with
  | 0 => match as with
    | .ref o :: _ => (am_g A o).1 == (am_k K).2.2.1
    | _ => false
  | 1 => true
  | 2 => match as with
    | .ref _ :: _ => true
    | _ => false
  | _ => false
def am_fl (v : Value) : List Value := if v.category = 2 then [v, .null] else [v]
def am_lo (K : Nat) (as : List Value) : List Value := as.flatMap am_fl ++ List.replicate ((am_k K).2.2.2.1 - (as.flatMap am_fl).length) .null
def am_nr (K : Nat) : Nat := (am_k K).2.1 + (if (am_k K).1 = 1 then 0 else 1)
def am_wd (st : List Value) : Nat := (st.map fun v => v.category).sum
abbrev am_T : Type := am_R ⊕ (am_C ⊕ (am_C × (Option Value → am_H → am_C)))
def am_cl (K d M pc : Nat) (ls st : List Value) (A : am_H) : am_T := match d with
  | 0 => .inl none
  | d' + 1 => if am_nr K ≤ st.length ∧ am_wd (st.drop (am_nr K)) ≤ 8 ∧ am_rc K (st.take (am_nr K)).reverse A = true ∧ ((st.take (am_nr K)).reverse.flatMap am_fl).length ≤ (am_k K).2.2.2.1 then .inr (.inr ((d', K, 0, am_lo K (st.take (am_nr K)).reverse, [], A), fun v A' => (d' + 1, M, pc + 3, ls, v.toList ++ st.drop (am_nr K), A'))) else .inl none
def am_mm (K d M pc : Nat) (ls st : List Value) (A : am_H) : am_T := match d, st with
  | d' + 1, .int y :: .int x :: r => if am_wd r ≤ 8 then .inr (.inl (d' + 1, M, pc + 3, ls, .int (if K = 167 then (if x < y then y else x) else (if y < x then y else x)) :: r, A)) else .inl none
  | _, _ => .inl none
def am_dec (M d pc : Nat) (ls st : List Value) (A : am_H) (e : am_E) : am_T := match e.1 with
  | .ireturn => .inl (match st with
    | [.int v] => if (am_k M).2.2.2.2 = 1 → (v = Int32.ofInt 0 ∨ v = Int32.ofInt 1) then some (some (.int v), A) else none
    | _ => none)
  | .lreturn => .inl (match st with
    | [.long v] => some (some (.long v), A)
    | _ => none)
  | .return_ => .inl (match st with
    | [] => some (none, A)
    | _ => none)
  | .invokevirtual _ => am_cl e.2.2.1 d M pc ls st A
  | .invokestatic _ => if e.2.2.1 = 167 ∨ e.2.2.1 = 168 then am_mm e.2.2.1 d M pc ls st A else am_cl e.2.2.1 d M pc ls st A
  | .invokespecial _ => if e.2.2.1 = 9999 then (match d, st with
    | d' + 1, .ref _ :: r => if am_wd r ≤ 8 then .inr (.inl (d' + 1, M, pc + 3, ls, r, A)) else .inl none
    | _, _ => .inl none) else am_cl e.2.2.1 d M pc ls st A
  | _ => match am_op e pc ls st A with
    | none => .inl none
    | some q => .inr (.inl (d, M, q.1, q.2.1, q.2.2.1, q.2.2.2))
def am_D (c : am_C) : am_T := match am_tab c.2.1 c.2.2.1 with
  | none => .inl none
  | some e => am_dec c.2.1 c.1 c.2.2.1 c.2.2.2.1 c.2.2.2.2.1 c.2.2.2.2.2 e
def am_F (rec : am_C → am_R) (c : am_C) : am_R := match am_D c with
  | .inl r => r
  | .inr (.inl c') => rec c'
  | .inr (.inr q) => match rec q.1 with
    | none => none
    | some r => rec (q.2 r.1 r.2)
def am_ex : Nat → am_C → am_R
  | 0, _ => none
  | n + 1, c => am_F (am_ex n) c
theorem am_F_mono {f g : am_C → am_R} (h : ∀ c r, f c = some r → g c = some r) (c : am_C) (r : Option Value × am_H) (hf : am_F f c = some r) : am_F g c = some r := by
  unfold am_F at hf ⊢
  split at hf
  · exact hf
  · exact h _ _ hf
  · rename_i q _
    cases hq : f q.1 with
    | none => rw [hq] at hf; cases hf
    | some z =>
      rw [hq] at hf
      rw [h _ _ hq]
      exact h _ _ hf
theorem am_ex_succ (n : Nat) : ∀ (c : am_C) (r : Option Value × am_H), am_ex n c = some r → am_ex (n + 1) c = some r := by
  induction n with
  | zero => intro c r h; cases h
  | succ n ih => intro c r h; exact am_F_mono ih c r h
theorem am_ex_le {n k : Nat} (hk : n ≤ k) (c : am_C) (r : Option Value × am_H) (h : am_ex n c = some r) : am_ex k c = some r := by
  induction hk with
  | refl => exact h
  | step _ ih => exact am_ex_succ _ c r ih
noncomputable def am_rn (c : am_C) : am_R := @dite _ (∃ r n, am_ex n c = some r) (Classical.propDecidable _) (fun h => some (Classical.choose h)) (fun _ => none)
theorem am_rn_iff (c : am_C) (r : Option Value × am_H) : am_rn c = some r ↔ ∃ n, am_ex n c = some r := by
  unfold am_rn
  constructor
  · intro h
    split at h
    next h1 =>
      obtain ⟨n, hn⟩ := Classical.choose_spec h1
      exact ⟨n, by rw [hn]; exact h⟩
    next => cases h
  · rintro ⟨n, hn⟩
    have h1 : ∃ r n, am_ex n c = some r := ⟨r, n, hn⟩
    rw [dif_pos h1]
    obtain ⟨k, hk⟩ := Classical.choose_spec h1
    have e1 := am_ex_le (Nat.le_max_left n k) c _ hn
    have e2 := am_ex_le (Nat.le_max_right n k) c _ hk
    rw [e1] at e2
    exact e2.symm
theorem am_rn_eq (c : am_C) : am_rn c = am_F am_rn c := by
  have up : ∀ n c r, am_ex n c = some r → am_rn c = some r := fun n c r h => (am_rn_iff c r).mpr ⟨n, h⟩
  apply Option.ext
  intro r
  constructor
  · intro h
    obtain ⟨n, hn⟩ := (am_rn_iff c r).mp h
    cases n with
    | zero => cases hn
    | succ n => exact am_F_mono (up n) c r hn
  · intro h
    refine (am_rn_iff c r).mpr ?_
    unfold am_F at h
    split at h
    next x hx => exact ⟨1, by show am_F _ c = _; unfold am_F; rw [hx]; exact h⟩
    next c' hx =>
      obtain ⟨n, hn⟩ := (am_rn_iff c' r).mp h
      exact ⟨n + 1, by show am_F _ c = _; unfold am_F; rw [hx]; exact hn⟩
    next q hx =>
      cases hq : am_rn q.1 with
      | none => rw [hq] at h; cases h
      | some z =>
        rw [hq] at h
        obtain ⟨n, hn⟩ := (am_rn_iff q.1 z).mp hq
        obtain ⟨k, hk⟩ := (am_rn_iff _ r).mp h
        refine ⟨max n k + 1, ?_⟩
        show am_F _ c = _
        unfold am_F
        rw [hx]
        show (match am_ex (max n k) q.1 with
          | none => none
          | some r => am_ex (max n k) (q.2 r.1 r.2)) = some r
        rw [am_ex_le (Nat.le_max_left n k) _ _ hn]
        exact am_ex_le (Nat.le_max_right n k) _ _ hk
noncomputable def am_run (d M pc : Nat) (ls st : List Value) (A : am_H) : am_R := am_rn (d, M, pc, ls, st, A)
noncomputable def am_call (d K : Nat) (as : List Value) (A : am_H) : am_R := if am_rc K as A = true then am_run d K 0 (am_lo K as) [] A else none
theorem am_blank_11 : am_fields 11 = am_blank.getD 11 [] := rfl
def am_CK : Prop := (∀ M pc e, am_tab M pc = some e → am_ok M (pc, e) = true ∧ M < 170) ∧ ∀ M, M < 170 → M ≠ 169 → am_mw M (am_mws.getD M (0, 0, 0, 0)) = true
