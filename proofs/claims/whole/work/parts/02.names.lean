def RX0 : String := "OneSkate$Acts"
def TX0 : u_T := fun k => match k with
  | 0 => ("OneSkate$Acts", "before", "[LOneSkate$Standing;", true)
  | _ => ("OneSkate$Acts", "count", "I", false)
def tyX0 : Nat → FieldType := fun k => match k with
  | 0 => .array (.object "OneSkate$Standing")
  | _ => .int
theorem nmX0 : ∀ a, a < 2 → ∀ b, b < 2 → a ≠ b → (TX0 a).2.1 ≠ (TX0 b).2.1 := by decide +kernel
theorem tyX0_ok : ∀ k, k < 2 → parseFieldDescriptor (TX0 k).2.2.1 = some (tyX0 k) := by decide +kernel
set_option maxRecDepth 20000 in
theorem inX0 : ∀ w ∈ u_ws RX0 TX0 2, w ∈ lw_tbl := by decide +kernel
def RX1 : String := "OneSkate$Asking"
def TX1 : u_T := fun k => match k with
  | 0 => ("OneSkate$Asking", "mate", "[I", true)
  | _ => ("OneSkate$Asking", "refused", "[I", true)
def tyX1 : Nat → FieldType := fun k => match k with
  | 0 => .array .int
  | _ => .array .int
theorem nmX1 : ∀ a, a < 2 → ∀ b, b < 2 → a ≠ b → (TX1 a).2.1 ≠ (TX1 b).2.1 := by decide +kernel
theorem tyX1_ok : ∀ k, k < 2 → parseFieldDescriptor (TX1 k).2.2.1 = some (tyX1 k) := by decide +kernel
set_option maxRecDepth 20000 in
theorem inX1 : ∀ w ∈ u_ws RX1 TX1 2, w ∈ lw_tbl := by decide +kernel
def RX2 : String := "OneSkate$Ends"
def TX2 : u_T := fun k => match k with
  | 0 => ("OneSkate$Ends", "reach", "[I", true)
  | 1 => ("OneSkate$Ends", "byOneself", "[I", true)
  | _ => ("OneSkate$Ends", "together", "[I", true)
def tyX2 : Nat → FieldType := fun k => match k with
  | 0 => .array .int
  | 1 => .array .int
  | _ => .array .int
theorem nmX2 : ∀ a, a < 3 → ∀ b, b < 3 → a ≠ b → (TX2 a).2.1 ≠ (TX2 b).2.1 := by decide +kernel
theorem tyX2_ok : ∀ k, k < 3 → parseFieldDescriptor (TX2 k).2.2.1 = some (tyX2 k) := by decide +kernel
set_option maxRecDepth 20000 in
theorem inX2 : ∀ w ∈ u_ws RX2 TX2 3, w ∈ lw_tbl := by decide +kernel
def RX3 : String := "OneSkate$Matchings"
def TX3 : u_T := fun k => match k with
  | 0 => ("OneSkate$Matchings", "count", "I", false)
  | 1 => ("OneSkate$Matchings", "soonest", "I", false)
  | 2 => ("OneSkate$Matchings", "people", "I", false)
  | 3 => ("OneSkate$Matchings", "feet", "I", false)
  | 4 => ("OneSkate$Matchings", "open", "[I", true)
  | 5 => ("OneSkate$Matchings", "mates", "[I", true)
  | _ => ("OneSkate$Matchings", "trial", "[I", true)
def tyX3 : Nat → FieldType := fun k => match k with
  | 0 => .int
  | 1 => .int
  | 2 => .int
  | 3 => .int
  | 4 => .array .int
  | 5 => .array .int
  | _ => .array .int
theorem nmX3 : ∀ a, a < 7 → ∀ b, b < 7 → a ≠ b → (TX3 a).2.1 ≠ (TX3 b).2.1 := by decide +kernel
theorem tyX3_ok : ∀ k, k < 7 → parseFieldDescriptor (TX3 k).2.2.1 = some (tyX3 k) := by decide +kernel
set_option maxRecDepth 20000 in
theorem inX3 : ∀ w ∈ u_ws RX3 TX3 7, w ∈ lw_tbl := by decide +kernel
def RX4 : String := "OneSkate$Seen"
def TX4 : u_T := fun k => match k with
  | 0 => ("OneSkate$Seen", "one", "[I", true)
  | 1 => ("OneSkate$Seen", "other", "[I", true)
  | 2 => ("OneSkate$Seen", "were", "[Z", true)
  | _ => ("OneSkate$Seen", "count", "I", false)
def tyX4 : Nat → FieldType := fun k => match k with
  | 0 => .array .int
  | 1 => .array .int
  | 2 => .array .boolean
  | _ => .int
theorem nmX4 : ∀ a, a < 4 → ∀ b, b < 4 → a ≠ b → (TX4 a).2.1 ≠ (TX4 b).2.1 := by decide +kernel
theorem tyX4_ok : ∀ k, k < 4 → parseFieldDescriptor (TX4 k).2.2.1 = some (tyX4 k) := by decide +kernel
set_option maxRecDepth 20000 in
theorem inX4 : ∀ w ∈ u_ws RX4 TX4 4, w ∈ lw_tbl := by decide +kernel
def RX5 : String := "OneSkate$Slot"
def TX5 : u_T := fun k => match k with
  | 0 => ("OneSkate$Slot", "standing", "LOneSkate$Standing;", true)
  | _ => ("OneSkate$Slot", "isKept", "Z", false)
def tyX5 : Nat → FieldType := fun k => match k with
  | 0 => .object "OneSkate$Standing"
  | _ => .boolean
theorem nmX5 : ∀ a, a < 2 → ∀ b, b < 2 → a ≠ b → (TX5 a).2.1 ≠ (TX5 b).2.1 := by decide +kernel
theorem tyX5_ok : ∀ k, k < 2 → parseFieldDescriptor (TX5 k).2.2.1 = some (tyX5 k) := by decide +kernel
set_option maxRecDepth 20000 in
theorem inX5 : ∀ w ∈ u_ws RX5 TX5 2, w ∈ lw_tbl := by decide +kernel
def RX6 : String := "OneSkate$Standing"
def TX6 : u_T := fun k => match k with
  | 0 => ("OneSkate$Standing", "corner", "[I", true)
  | 1 => ("OneSkate$Standing", "clock", "[I", true)
  | _ => ("OneSkate$Standing", "worn", "[I", true)
def tyX6 : Nat → FieldType := fun k => match k with
  | 0 => .array .int
  | 1 => .array .int
  | _ => .array .int
theorem nmX6 : ∀ a, a < 3 → ∀ b, b < 3 → a ≠ b → (TX6 a).2.1 ≠ (TX6 b).2.1 := by decide +kernel
theorem tyX6_ok : ∀ k, k < 3 → parseFieldDescriptor (TX6 k).2.2.1 = some (tyX6 k) := by decide +kernel
set_option maxRecDepth 20000 in
theorem inX6 : ∀ w ∈ u_ws RX6 TX6 3, w ∈ lw_tbl := by decide +kernel
def RX7 : String := "OneSkate$Text"
def TX7 : u_T := fun k => match k with
  | 0 => ("OneSkate$Text", "bytes", "[I", true)
  | _ => ("OneSkate$Text", "length", "I", false)
def tyX7 : Nat → FieldType := fun k => match k with
  | 0 => .array .int
  | _ => .int
theorem nmX7 : ∀ a, a < 2 → ∀ b, b < 2 → a ≠ b → (TX7 a).2.1 ≠ (TX7 b).2.1 := by decide +kernel
theorem tyX7_ok : ∀ k, k < 2 → parseFieldDescriptor (TX7 k).2.2.1 = some (tyX7 k) := by decide +kernel
set_option maxRecDepth 20000 in
theorem inX7 : ∀ w ∈ u_ws RX7 TX7 2, w ∈ lw_tbl := by decide +kernel
def RX8 : String := "OneSkate$Town"
def TX8 : u_T := fun k => match k with
  | 0 => ("OneSkate$Town", "corners", "I", false)
  | 1 => ("OneSkate$Town", "canals", "I", false)
  | 2 => ("OneSkate$Town", "people", "I", false)
  | 3 => ("OneSkate$Town", "feet", "I", false)
  | 4 => ("OneSkate$Town", "lesserEnd", "[I", true)
  | 5 => ("OneSkate$Town", "otherEnd", "[I", true)
  | 6 => ("OneSkate$Town", "length", "[I", true)
  | 7 => ("OneSkate$Town", "bend", "[I", true)
  | 8 => ("OneSkate$Town", "start", "[I", true)
  | 9 => ("OneSkate$Town", "pace", "[I", true)
  | 10 => ("OneSkate$Town", "goal", "[I", true)
  | 11 => ("OneSkate$Town", "apart", "[I", true)
  | 12 => ("OneSkate$Town", "kind", "I", false)
  | _ => ("OneSkate$Town", "firstEnd", "I", false)
def tyX8 : Nat → FieldType := fun k => match k with
  | 0 => .int
  | 1 => .int
  | 2 => .int
  | 3 => .int
  | 4 => .array .int
  | 5 => .array .int
  | 6 => .array .int
  | 7 => .array .int
  | 8 => .array .int
  | 9 => .array .int
  | 10 => .array .int
  | 11 => .array .int
  | 12 => .int
  | _ => .int
theorem nmX8 : ∀ a, a < 14 → ∀ b, b < 14 → a ≠ b → (TX8 a).2.1 ≠ (TX8 b).2.1 := by decide +kernel
theorem tyX8_ok : ∀ k, k < 14 → parseFieldDescriptor (TX8 k).2.2.1 = some (tyX8 k) := by decide +kernel
set_option maxRecDepth 20000 in
theorem inX8 : ∀ w ∈ u_ws RX8 TX8 14, w ∈ lw_tbl := by decide +kernel
def RX9 : String := "OneSkate$Waiting"
def TX9 : u_T := fun k => match k with
  | 0 => ("OneSkate$Waiting", "above", "[J", true)
  | _ => ("OneSkate$Waiting", "below", "[J", true)
def tyX9 : Nat → FieldType := fun k => match k with
  | 0 => .array .long
  | _ => .array .long
theorem nmX9 : ∀ a, a < 2 → ∀ b, b < 2 → a ≠ b → (TX9 a).2.1 ≠ (TX9 b).2.1 := by decide +kernel
theorem tyX9_ok : ∀ k, k < 2 → parseFieldDescriptor (TX9 k).2.2.1 = some (tyX9 k) := by decide +kernel
set_option maxRecDepth 20000 in
theorem inX9 : ∀ w ∈ u_ws RX9 TX9 2, w ∈ lw_tbl := by decide +kernel
def RX10 : String := "OneSkate"
def TX10 : u_T := fun k => match k with
  | 0 => ("OneSkate", "text", "LOneSkate$Text;", true)
  | 1 => ("OneSkate", "told", "LOneSkate$Town;", false)
  | 2 => ("OneSkate", "draft", "LOneSkate$Town;", false)
  | 3 => ("OneSkate", "now", "LOneSkate$Standing;", true)
  | 4 => ("OneSkate", "acts", "LOneSkate$Acts;", true)
  | 5 => ("OneSkate", "slots", "[LOneSkate$Slot;", true)
  | 6 => ("OneSkate", "ends", "LOneSkate$Ends;", true)
  | 7 => ("OneSkate", "matchings", "LOneSkate$Matchings;", true)
  | 8 => ("OneSkate", "asked", "LOneSkate$Asking;", true)
  | 9 => ("OneSkate", "seen", "LOneSkate$Seen;", true)
  | 10 => ("OneSkate", "waiting", "LOneSkate$Waiting;", true)
  | _ => ("OneSkate", "chance", "J", false)
def tyX10 : Nat → FieldType := fun k => match k with
  | 0 => .object "OneSkate$Text"
  | 1 => .object "OneSkate$Town"
  | 2 => .object "OneSkate$Town"
  | 3 => .object "OneSkate$Standing"
  | 4 => .object "OneSkate$Acts"
  | 5 => .array (.object "OneSkate$Slot")
  | 6 => .object "OneSkate$Ends"
  | 7 => .object "OneSkate$Matchings"
  | 8 => .object "OneSkate$Asking"
  | 9 => .object "OneSkate$Seen"
  | 10 => .object "OneSkate$Waiting"
  | _ => .long
theorem nmX10 : ∀ a, a < 12 → ∀ b, b < 12 → a ≠ b → (TX10 a).2.1 ≠ (TX10 b).2.1 := by decide +kernel
theorem tyX10_ok : ∀ k, k < 12 → parseFieldDescriptor (TX10 k).2.2.1 = some (tyX10 k) := by decide +kernel
set_option maxRecDepth 20000 in
theorem inX10 : ∀ w ∈ u_ws RX10 TX10 12, w ∈ lw_tbl := by decide +kernel
def RX11 : String := "OneSkateModel"
def TX11 : u_T := fun k => match k with
  | 0 => ("OneSkateModel", "thrown", "I", false)
  | 1 => ("OneSkateModel", "text", "[I", true)
  | 2 => ("OneSkateModel", "textSize", "I", false)
  | 3 => ("OneSkateModel", "place", "I", false)
  | 4 => ("OneSkateModel", "corners", "I", false)
  | 5 => ("OneSkateModel", "canals", "I", false)
  | 6 => ("OneSkateModel", "from", "[I", true)
  | 7 => ("OneSkateModel", "to", "[I", true)
  | 8 => ("OneSkateModel", "far", "[I", true)
  | 9 => ("OneSkateModel", "bend", "[I", true)
  | 10 => ("OneSkateModel", "people", "I", false)
  | 11 => ("OneSkateModel", "lefts", "I", false)
  | 12 => ("OneSkateModel", "pace", "[I", true)
  | 13 => ("OneSkateModel", "goal", "[I", true)
  | 14 => ("OneSkateModel", "at", "[I", true)
  | 15 => ("OneSkateModel", "clock", "[I", true)
  | 16 => ("OneSkateModel", "worn", "[I", true)
  | 17 => ("OneSkateModel", "readCorners", "I", false)
  | 18 => ("OneSkateModel", "readCanals", "I", false)
  | 19 => ("OneSkateModel", "readFrom", "[I", true)
  | 20 => ("OneSkateModel", "readTo", "[I", true)
  | 21 => ("OneSkateModel", "readFar", "[I", true)
  | 22 => ("OneSkateModel", "readBend", "[I", true)
  | 23 => ("OneSkateModel", "readPeople", "I", false)
  | 24 => ("OneSkateModel", "readLefts", "I", false)
  | 25 => ("OneSkateModel", "readAt", "[I", true)
  | 26 => ("OneSkateModel", "readPace", "[I", true)
  | 27 => ("OneSkateModel", "readGoal", "[I", true)
  | 28 => ("OneSkateModel", "book", "[I", true)
  | 29 => ("OneSkateModel", "acts", "I", false)
  | 30 => ("OneSkateModel", "kept", "[I", true)
  | 31 => ("OneSkateModel", "isKept", "[Z", true)
  | 32 => ("OneSkateModel", "matching", "[I", true)
  | 33 => ("OneSkateModel", "end", "[I", true)
  | 34 => ("OneSkateModel", "way", "[I", true)
  | 35 => ("OneSkateModel", "best", "I", false)
  | 36 => ("OneSkateModel", "seen", "I", false)
  | 37 => ("OneSkateModel", "seenOne", "[I", true)
  | 38 => ("OneSkateModel", "seenOther", "[I", true)
  | 39 => ("OneSkateModel", "seenWere", "[Z", true)
  | 40 => ("OneSkateModel", "with", "[I", true)
  | 41 => ("OneSkateModel", "refused", "[I", true)
  | _ => ("OneSkateModel", "seed", "J", false)
def tyX11 : Nat → FieldType := fun k => match k with
  | 0 => .int
  | 1 => .array .int
  | 2 => .int
  | 3 => .int
  | 4 => .int
  | 5 => .int
  | 6 => .array .int
  | 7 => .array .int
  | 8 => .array .int
  | 9 => .array .int
  | 10 => .int
  | 11 => .int
  | 12 => .array .int
  | 13 => .array .int
  | 14 => .array .int
  | 15 => .array .int
  | 16 => .array .int
  | 17 => .int
  | 18 => .int
  | 19 => .array .int
  | 20 => .array .int
  | 21 => .array .int
  | 22 => .array .int
  | 23 => .int
  | 24 => .int
  | 25 => .array .int
  | 26 => .array .int
  | 27 => .array .int
  | 28 => .array .int
  | 29 => .int
  | 30 => .array .int
  | 31 => .array .boolean
  | 32 => .array .int
  | 33 => .array .int
  | 34 => .array .int
  | 35 => .int
  | 36 => .int
  | 37 => .array .int
  | 38 => .array .int
  | 39 => .array .boolean
  | 40 => .array .int
  | 41 => .array .int
  | _ => .long
theorem nmX11 : ∀ a, a < 43 → ∀ b, b < 43 → a ≠ b → (TX11 a).2.1 ≠ (TX11 b).2.1 := by decide +kernel
theorem tyX11_ok : ∀ k, k < 43 → parseFieldDescriptor (TX11 k).2.2.1 = some (tyX11 k) := by decide +kernel
set_option maxRecDepth 20000 in
theorem inX11 : ∀ w ∈ u_ws RX11 TX11 43, w ∈ lw_tbl := by decide +kernel
abbrev vwCl : List vw_C := [(RX0, TX0, 2), (RX1, TX1, 2), (RX2, TX2, 3), (RX3, TX3, 7), (RX4, TX4, 4), (RX5, TX5, 2), (RX6, TX6, 3), (RX7, TX7, 2), (RX8, TX8, 14), (RX9, TX9, 2), (RX10, TX10, 12), (RX11, TX11, 43)]
def y_X11_init : MethodName := ⟨"OneSkateModel", "<init>", "()V"⟩
def y_X11_before : MethodName := ⟨"OneSkateModel", "before", "(I)I"⟩
def y_X0_init : MethodName := ⟨"OneSkate$Acts", "<init>", "()V"⟩
def y_X0_remember : MethodName := ⟨"OneSkate$Acts", "remember", "(LOneSkate$Standing;)V"⟩
def y_X0_forgetFirst : MethodName := ⟨"OneSkate$Acts", "forgetFirst", "()V"⟩
def y_X0_takeBack : MethodName := ⟨"OneSkate$Acts", "takeBack", "(LOneSkate$Standing;)V"⟩
def y_X1_init : MethodName := ⟨"OneSkate$Asking", "<init>", "()V"⟩
def y_X1_askAll : MethodName := ⟨"OneSkate$Asking", "askAll", "(LOneSkate$Matchings;LOneSkate$Ends;)V"⟩
def y_X1_askOnce : MethodName := ⟨"OneSkate$Asking", "askOnce", "(LOneSkate$Matchings;LOneSkate$Ends;)Z"⟩
def y_X1_likedMost : MethodName := ⟨"OneSkate$Asking", "likedMost", "(ILOneSkate$Matchings;LOneSkate$Ends;)I"⟩
def y_X1_answer : MethodName := ⟨"OneSkate$Asking", "answer", "(IIILOneSkate$Ends;)V"⟩
def y_X2_init : MethodName := ⟨"OneSkate$Ends", "<init>", "()V"⟩
def y_X2_clockOf : MethodName := ⟨"OneSkate$Ends", "clockOf", "(III)I"⟩
def y_X2_at : MethodName := ⟨"OneSkate$Ends", "at", "(III)I"⟩
def y_X2_foresee : MethodName := ⟨"OneSkate$Ends", "foresee", "(LOneSkate$Town;LOneSkate$Standing;)V"⟩
def y_X2_foreseeTwo : MethodName := ⟨"OneSkate$Ends", "foreseeTwo", "(LOneSkate$Town;LOneSkate$Standing;IIZ)V"⟩
def y_X2_spread : MethodName := ⟨"OneSkate$Ends", "spread", "(LOneSkate$Town;LOneSkate$Standing;III)V"⟩
def y_X2_reachOver : MethodName := ⟨"OneSkate$Ends", "reachOver", "(III)Z"⟩
def y_X3_init : MethodName := ⟨"OneSkate$Matchings", "<init>", "()V"⟩
def y_X3_list : MethodName := ⟨"OneSkate$Matchings", "list", "(LOneSkate$Town;LOneSkate$Standing;I)V"⟩
def y_X3_openTo : MethodName := ⟨"OneSkate$Matchings", "openTo", "(ILOneSkate$Standing;)I"⟩
def y_X3_matchFrom : MethodName := ⟨"OneSkate$Matchings", "matchFrom", "(LOneSkate$Matchings;I)V"⟩
def y_X3_addTrial : MethodName := ⟨"OneSkate$Matchings", "addTrial", "()V"⟩
def y_X3_couldPair : MethodName := ⟨"OneSkate$Matchings", "couldPair", "(II)Z"⟩
def y_X3_mate : MethodName := ⟨"OneSkate$Matchings", "mate", "(II)I"⟩
def y_X3_findSoonest : MethodName := ⟨"OneSkate$Matchings", "findSoonest", "(LOneSkate$Ends;)I"⟩
def y_X3_clocksOf : MethodName := ⟨"OneSkate$Matchings", "clocksOf", "(ILOneSkate$Ends;)I"⟩
def y_X3_clockOf : MethodName := ⟨"OneSkate$Matchings", "clockOf", "(IILOneSkate$Ends;)I"⟩
def y_X3_isLeftAlone : MethodName := ⟨"OneSkate$Matchings", "isLeftAlone", "(ILOneSkate$Ends;)Z"⟩
def y_X3_isSooner : MethodName := ⟨"OneSkate$Matchings", "isSooner", "(IIILOneSkate$Ends;)Z"⟩
def y_X4_init : MethodName := ⟨"OneSkate$Seen", "<init>", "()V"⟩
def y_X4_add : MethodName := ⟨"OneSkate$Seen", "add", "(IIZ)V"⟩
def y_X4_agreesWith : MethodName := ⟨"OneSkate$Seen", "agreesWith", "(LOneSkate$Matchings;I)Z"⟩
def y_X5_init : MethodName := ⟨"OneSkate$Slot", "<init>", "()V"⟩
def y_X6_init : MethodName := ⟨"OneSkate$Standing", "<init>", "()V"⟩
def y_X6_begin : MethodName := ⟨"OneSkate$Standing", "begin", "(LOneSkate$Town;)V"⟩
def y_X6_copyFrom : MethodName := ⟨"OneSkate$Standing", "copyFrom", "(LOneSkate$Standing;)V"⟩
def y_X6_clocks : MethodName := ⟨"OneSkate$Standing", "clocks", "(LOneSkate$Town;)I"⟩
def y_X6_atGoal : MethodName := ⟨"OneSkate$Standing", "atGoal", "(LOneSkate$Town;)I"⟩
def y_X6_glideMinutes : MethodName := ⟨"OneSkate$Standing", "glideMinutes", "(LOneSkate$Town;III)I"⟩
def y_X6_glideAlong : MethodName := ⟨"OneSkate$Standing", "glideAlong", "(LOneSkate$Town;III)I"⟩
def y_X6_pushAlong : MethodName := ⟨"OneSkate$Standing", "pushAlong", "(LOneSkate$Town;II)I"⟩
def y_X6_arrive : MethodName := ⟨"OneSkate$Standing", "arrive", "(III)V"⟩
def y_X6_wear : MethodName := ⟨"OneSkate$Standing", "wear", "(I)V"⟩
def y_X7_init : MethodName := ⟨"OneSkate$Text", "<init>", "()V"⟩
def y_X7_append : MethodName := ⟨"OneSkate$Text", "append", "(I)V"⟩
def y_X8_init : MethodName := ⟨"OneSkate$Town", "<init>", "()V"⟩
def y_X8_readFrom : MethodName := ⟨"OneSkate$Town", "readFrom", "(LOneSkate$Text;)I"⟩
def y_X8_takes : MethodName := ⟨"OneSkate$Town", "takes", "(II)Z"⟩
def y_X8_hasRoomForCanal : MethodName := ⟨"OneSkate$Town", "hasRoomForCanal", "()Z"⟩
def y_X8_takesOfCanal : MethodName := ⟨"OneSkate$Town", "takesOfCanal", "(II)Z"⟩
def y_X8_takesOfPerson : MethodName := ⟨"OneSkate$Town", "takesOfPerson", "(II)Z"⟩
def y_X8_canBeEnd : MethodName := ⟨"OneSkate$Town", "canBeEnd", "(I)Z"⟩
def y_X8_canJoin : MethodName := ⟨"OneSkate$Town", "canJoin", "(II)Z"⟩
def y_X8_measure : MethodName := ⟨"OneSkate$Town", "measure", "()V"⟩
def y_X8_measureOver : MethodName := ⟨"OneSkate$Town", "measureOver", "(II)V"⟩
def y_X8_hasCorner : MethodName := ⟨"OneSkate$Town", "hasCorner", "(I)Z"⟩
def y_X8_hasPerson : MethodName := ⟨"OneSkate$Town", "hasPerson", "(I)Z"⟩
def y_X8_hasCanal : MethodName := ⟨"OneSkate$Town", "hasCanal", "(I)Z"⟩
def y_X8_isLeft : MethodName := ⟨"OneSkate$Town", "isLeft", "(I)Z"⟩
def y_X8_areUnlike : MethodName := ⟨"OneSkate$Town", "areUnlike", "(II)Z"⟩
def y_X8_isEnd : MethodName := ⟨"OneSkate$Town", "isEnd", "(II)Z"⟩
def y_X8_acrossFrom : MethodName := ⟨"OneSkate$Town", "acrossFrom", "(II)I"⟩
def y_X8_pushMinutes : MethodName := ⟨"OneSkate$Town", "pushMinutes", "(II)I"⟩
def y_X8_aloneMinutes : MethodName := ⟨"OneSkate$Town", "aloneMinutes", "(III)I"⟩
def y_X9_init : MethodName := ⟨"OneSkate$Waiting", "<init>", "()V"⟩
def y_X9_reckon : MethodName := ⟨"OneSkate$Waiting", "reckon", "(III)V"⟩
def y_X9_inLeastTerms : MethodName := ⟨"OneSkate$Waiting", "inLeastTerms", "(IZ)J"⟩
def y_X9_greatestDivisor : MethodName := ⟨"OneSkate$Waiting", "greatestDivisor", "(JJ)J"⟩
def y_X9_bestWait : MethodName := ⟨"OneSkate$Waiting", "bestWait", "()I"⟩
def y_X10_init : MethodName := ⟨"OneSkate", "<init>", "()V"⟩
def y_X10_write : MethodName := ⟨"OneSkate", "write", "(IJ)I"⟩
def y_X10_wipe : MethodName := ⟨"OneSkate", "wipe", "()I"⟩
def y_X10_fault : MethodName := ⟨"OneSkate", "fault", "()I"⟩
def y_X10_town : MethodName := ⟨"OneSkate", "town", "()I"⟩
def y_X10_about : MethodName := ⟨"OneSkate", "about", "(I)I"⟩
def y_X10_person : MethodName := ⟨"OneSkate", "person", "(II)I"⟩
def y_X10_canal : MethodName := ⟨"OneSkate", "canal", "(II)I"⟩
def y_X10_glide : MethodName := ⟨"OneSkate", "glide", "(III)I"⟩
def y_X10_push : MethodName := ⟨"OneSkate", "push", "(II)I"⟩
def y_X10_undo : MethodName := ⟨"OneSkate", "undo", "()I"⟩
def y_X10_way : MethodName := ⟨"OneSkate", "way", "(IIII)I"⟩
def y_X10_alone : MethodName := ⟨"OneSkate", "alone", "(III)I"⟩
def y_X10_soonest : MethodName := ⟨"OneSkate", "soonest", "()I"⟩
def y_X10_soonestWith : MethodName := ⟨"OneSkate", "soonestWith", "(I)I"⟩
def y_X10_worth : MethodName := ⟨"OneSkate", "worth", "(I)I"⟩
def y_X10_byLaw : MethodName := ⟨"OneSkate", "byLaw", "()I"⟩
def y_X10_leftAlone : MethodName := ⟨"OneSkate", "leftAlone", "()I"⟩
def y_X10_asking : MethodName := ⟨"OneSkate", "asking", "(I)I"⟩
def y_X10_see : MethodName := ⟨"OneSkate", "see", "(IIZ)I"⟩
def y_X10_unsee : MethodName := ⟨"OneSkate", "unsee", "()I"⟩
def y_X10_fits : MethodName := ⟨"OneSkate", "fits", "()I"⟩
def y_X10_may : MethodName := ⟨"OneSkate", "may", "(I)I"⟩
def y_X10_waits : MethodName := ⟨"OneSkate", "waits", "(IIIIZ)J"⟩
def y_X10_howLong : MethodName := ⟨"OneSkate", "howLong", "(III)I"⟩
def y_X10_seed : MethodName := ⟨"OneSkate", "seed", "(J)J"⟩
def y_X10_winter : MethodName := ⟨"OneSkate", "winter", "(I)I"⟩
def y_X10_keep : MethodName := ⟨"OneSkate", "keep", "(I)I"⟩
def y_X10_again : MethodName := ⟨"OneSkate", "again", "(I)I"⟩
def y_X10_leastClocks : MethodName := ⟨"OneSkate", "leastClocks", "(I)I"⟩
def y_X10_orNone : MethodName := ⟨"OneSkate", "orNone", "(I)I"⟩
def y_X10_areMinutes : MethodName := ⟨"OneSkate", "areMinutes", "(I)Z"⟩
def y_X10_areTenths : MethodName := ⟨"OneSkate", "areTenths", "(I)Z"⟩
def y_X10_plus : MethodName := ⟨"OneSkate", "plus", "(II)I"⟩
def y_X11_in : MethodName := ⟨"OneSkateModel", "in", "(JJJ)Z"⟩
def y_X11_has : MethodName := ⟨"OneSkateModel", "has", "(II)Z"⟩
def y_X11_noOne : MethodName := ⟨"OneSkateModel", "noOne", "(I)Z"⟩
def y_X11_noCorner : MethodName := ⟨"OneSkateModel", "noCorner", "(I)Z"⟩
def y_X11_noCanal : MethodName := ⟨"OneSkateModel", "noCanal", "(I)Z"⟩
def y_X11_write : MethodName := ⟨"OneSkateModel", "write", "(IJ)I"⟩
def y_X11_wipe : MethodName := ⟨"OneSkateModel", "wipe", "()I"⟩
def y_X11_figure : MethodName := ⟨"OneSkateModel", "figure", "(II)I"⟩
def y_X11_isTold : MethodName := ⟨"OneSkateModel", "isTold", "(II)Z"⟩
def y_X11_hasPartner : MethodName := ⟨"OneSkateModel", "hasPartner", "(I)Z"⟩
def y_X11_hasPair : MethodName := ⟨"OneSkateModel", "hasPair", "()Z"⟩
def y_X11_readCanal : MethodName := ⟨"OneSkateModel", "readCanal", "()Z"⟩
def y_X11_readPerson : MethodName := ⟨"OneSkateModel", "readPerson", "()Z"⟩
def y_X11_readPart : MethodName := ⟨"OneSkateModel", "readPart", "()Z"⟩
def y_X11_readTown : MethodName := ⟨"OneSkateModel", "readTown", "()I"⟩
def y_X11_fault : MethodName := ⟨"OneSkateModel", "fault", "()I"⟩
def y_X11_town : MethodName := ⟨"OneSkateModel", "town", "()I"⟩
def y_X11_clocks : MethodName := ⟨"OneSkateModel", "clocks", "()I"⟩
def y_X11_about : MethodName := ⟨"OneSkateModel", "about", "(I)I"⟩
def y_X11_person : MethodName := ⟨"OneSkateModel", "person", "(II)I"⟩
def y_X11_canal : MethodName := ⟨"OneSkateModel", "canal", "(II)I"⟩
def y_X11_layPage : MethodName := ⟨"OneSkateModel", "layPage", "([II)V"⟩
def y_X11_takePage : MethodName := ⟨"OneSkateModel", "takePage", "([II)V"⟩
def y_X11_note : MethodName := ⟨"OneSkateModel", "note", "()V"⟩
def y_X11_bent : MethodName := ⟨"OneSkateModel", "bent", "(IIII)I"⟩
def y_X11_glides : MethodName := ⟨"OneSkateModel", "glides", "(IIII)I"⟩
def y_X11_pushes : MethodName := ⟨"OneSkateModel", "pushes", "(II)I"⟩
def y_X11_isAtEnd : MethodName := ⟨"OneSkateModel", "isAtEnd", "(II)Z"⟩
def y_X11_glide : MethodName := ⟨"OneSkateModel", "glide", "(III)I"⟩
def y_X11_push : MethodName := ⟨"OneSkateModel", "push", "(II)I"⟩
def y_X11_undo : MethodName := ⟨"OneSkateModel", "undo", "()I"⟩
def y_X11_wayOf : MethodName := ⟨"OneSkateModel", "wayOf", "(IIIII)I"⟩
def y_X11_way : MethodName := ⟨"OneSkateModel", "way", "(IIII)I"⟩
def y_X11_alone : MethodName := ⟨"OneSkateModel", "alone", "(III)I"⟩
def y_X11_layPair : MethodName := ⟨"OneSkateModel", "layPair", "(III)V"⟩
def y_X11_canPair : MethodName := ⟨"OneSkateModel", "canPair", "(III)Z"⟩
def y_X11_layEnds : MethodName := ⟨"OneSkateModel", "layEnds", "(I)V"⟩
def y_X11_isMatching : MethodName := ⟨"OneSkateModel", "isMatching", "(II)Z"⟩
def y_X11_findSoonest : MethodName := ⟨"OneSkateModel", "findSoonest", "(I)I"⟩
def y_X11_soonest : MethodName := ⟨"OneSkateModel", "soonest", "()I"⟩
def y_X11_soonestWith : MethodName := ⟨"OneSkateModel", "soonestWith", "(I)I"⟩
def y_X11_worth : MethodName := ⟨"OneSkateModel", "worth", "(I)I"⟩
def y_X11_byLaw : MethodName := ⟨"OneSkateModel", "byLaw", "()I"⟩
def y_X11_isLeft : MethodName := ⟨"OneSkateModel", "isLeft", "(I)Z"⟩
def y_X11_leftAlone : MethodName := ⟨"OneSkateModel", "leftAlone", "()I"⟩
def y_X11_asks : MethodName := ⟨"OneSkateModel", "asks", "(I)I"⟩
def y_X11_asker : MethodName := ⟨"OneSkateModel", "asker", "()I"⟩
def y_X11_asking : MethodName := ⟨"OneSkateModel", "asking", "(I)I"⟩
def y_X11_see : MethodName := ⟨"OneSkateModel", "see", "(IIZ)I"⟩
def y_X11_unsee : MethodName := ⟨"OneSkateModel", "unsee", "()I"⟩
def y_X11_doesFit : MethodName := ⟨"OneSkateModel", "doesFit", "(I)Z"⟩
def y_X11_fits : MethodName := ⟨"OneSkateModel", "fits", "()I"⟩
def y_X11_may : MethodName := ⟨"OneSkateModel", "may", "(I)I"⟩
def y_X11_divisor : MethodName := ⟨"OneSkateModel", "divisor", "(JJ)J"⟩
def y_X11_meanOf : MethodName := ⟨"OneSkateModel", "meanOf", "(IIII)J"⟩
def y_X11_ten : MethodName := ⟨"OneSkateModel", "ten", "(I)J"⟩
def y_X11_waits : MethodName := ⟨"OneSkateModel", "waits", "(IIIIZ)J"⟩
def y_X11_howLong : MethodName := ⟨"OneSkateModel", "howLong", "(III)I"⟩
def y_X11_seed : MethodName := ⟨"OneSkateModel", "seed", "(J)J"⟩
def y_X11_winter : MethodName := ⟨"OneSkateModel", "winter", "(I)I"⟩
def y_X11_keep : MethodName := ⟨"OneSkateModel", "keep", "(I)I"⟩
def y_X11_again : MethodName := ⟨"OneSkateModel", "again", "(I)I"⟩
def y_J6_bitCount_0f7a4 : MethodName := ⟨"java/lang/Integer", "bitCount", "(I)I"⟩
def y_J9_max_7cf53 : MethodName := ⟨"java/lang/Math", "max", "(II)I"⟩
def y_J9_min_7cf53 : MethodName := ⟨"java/lang/Math", "min", "(II)I"⟩
def y_L_law : MethodName := ⟨"OneSkateLaw", "law", "([I)Z"⟩
