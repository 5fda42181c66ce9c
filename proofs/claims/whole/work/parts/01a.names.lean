/-! ===== BEGIN words of one list among another's, by their places ===== -/
theorem goodIn_r {big : List Cond} (ws : List Cond) (ps : List Nat) (hp : ws = ps.filterMap (fun i => big[i]?)) (h : ws.all goodWord = true) : GoodIn big ws := by
  intro w hw
  have h1 := List.all_eq_true.mp h w hw
  rw [hp] at hw
  obtain ⟨i, -, hi⟩ := List.mem_filterMap.mp hw
  have hm : w ∈ big := by first | exact List.mem_of_getElem? hi | exact List.getElem?_mem hi
  exact ⟨hm, good_of_word h1⟩
theorem goodIn_app {big a b : List Cond} (ha : GoodIn big a) (hb : GoodIn big b) : GoodIn big (a ++ b) := fun w h => (List.mem_append.mp h).elim (ha w) (hb w)
theorem goodIn_ca {big a b : List Cond} {c : Cond} (ha : GoodIn big (c :: a)) (hb : GoodIn big b) : GoodIn big (c :: (a ++ b)) := fun w h => (List.mem_cons.mp h).elim (fun e => ha w (List.mem_cons.mpr (Or.inl e))) (fun h => (List.mem_append.mp h).elim (fun h => ha w (List.mem_cons.mpr (Or.inr h))) (hb w))
theorem goodIn_sub {big ws : List Cond} (hm : ∀ w ∈ ws, w ∈ big) (h : ws.all goodWord = true) : GoodIn big ws := fun w hw => ⟨hm w hw, good_of_word (List.all_eq_true.mp h w hw)⟩
/-! ===== END ===== -/

/-! ===== BEGIN printed: names, fields, word lists, decode rows ===== -/
def RX0 : String := "CoarseSteps$Box"
def TX0 : u_T := fun k => match k with
  | 0 => ("CoarseSteps$Box", "least", "[J", true)
  | 1 => ("CoarseSteps$Box", "most", "[J", true)
  | 2 => ("CoarseSteps$Box", "place", "[J", true)
  | _ => ("CoarseSteps$Box", "at", "[J", true)
def tyX0 : Nat → FieldType := fun k => match k with
  | 0 => .array .long
  | 1 => .array .long
  | 2 => .array .long
  | _ => .array .long
abbrev wsX00 : List Cond := u_ws RX0 TX0 4
theorem nmX0 : ∀ a, a < 4 → ∀ b, b < 4 → a ≠ b → (TX0 a).2.1 ≠ (TX0 b).2.1 := by decide +kernel
theorem tyX0_ok : ∀ k, k < 4 → parseFieldDescriptor (TX0 k).2.2.1 = some (tyX0 k) := by decide +kernel
abbrev cX0_init : ByteArray := prog_2_method_1_code
def yX0_init : MethodName := ⟨RX0, "<init>", "()V"⟩
abbrev cX0_empty : ByteArray := prog_2_method_2_code
def yX0_empty : MethodName := ⟨RX0, "empty", "()V"⟩
abbrev cX0_setEnds : ByteArray := prog_2_method_3_code
def yX0_setEnds : MethodName := ⟨RX0, "setEnds", "(IJJ)V"⟩
abbrev cX0_tellKept : ByteArray := prog_2_method_4_code
def yX0_tellKept : MethodName := ⟨RX0, "tellKept", "(LCoarseSteps$Mover;II)I"⟩
abbrev cX0_countPlaces : ByteArray := prog_2_method_5_code
def yX0_countPlaces : MethodName := ⟨RX0, "countPlaces", "(IJ)J"⟩
abbrev cX0_staysFromPlace : ByteArray := prog_2_method_6_code
def yX0_staysFromPlace : MethodName := ⟨RX0, "staysFromPlace", "(LCoarseSteps$Mover;II)Z"⟩
abbrev cX0_isInside : ByteArray := prog_2_method_7_code
def yX0_isInside : MethodName := ⟨RX0, "isInside", "(I)Z"⟩
abbrev cX0_toNextPlace : ByteArray := prog_2_method_8_code
def yX0_toNextPlace : MethodName := ⟨RX0, "toNextPlace", "(I)V"⟩
def RX1 : String := "CoarseSteps$Claim"
def TX1 : u_T := fun k => match k with
  | 0 => ("CoarseSteps$Claim", "scale", "LCoarseSteps$Scale;", true)
  | 1 => ("CoarseSteps$Claim", "low", "J", false)
  | _ => ("CoarseSteps$Claim", "high", "J", false)
def tyX1 : Nat → FieldType := fun k => match k with
  | 0 => .object "CoarseSteps$Scale"
  | 1 => .long
  | _ => .long
abbrev wsX10 : List Cond := u_ws RX1 TX1 3
theorem nmX1 : ∀ a, a < 3 → ∀ b, b < 3 → a ≠ b → (TX1 a).2.1 ≠ (TX1 b).2.1 := by decide +kernel
theorem tyX1_ok : ∀ k, k < 3 → parseFieldDescriptor (TX1 k).2.2.1 = some (tyX1 k) := by decide +kernel
abbrev cX1_init : ByteArray := prog_3_method_1_code
def yX1_init : MethodName := ⟨RX1, "<init>", "(LCoarseSteps$Scale;)V"⟩
abbrev cX1_narrow : ByteArray := prog_3_method_2_code
def yX1_narrow : MethodName := ⟨RX1, "narrow", "(LCoarseSteps$History;I)V"⟩
abbrev cX1_countRows : ByteArray := prog_3_method_3_code
def yX1_countRows : MethodName := ⟨RX1, "countRows", "(III)I"⟩
abbrev cX1_roomAbove : ByteArray := prog_3_method_4_code
def yX1_roomAbove : MethodName := ⟨RX1, "roomAbove", "(JI)J"⟩
def RX2 : String := "CoarseSteps$Filter"
def TX2 : u_T := fun k => match k with
  | 0 => ("CoarseSteps$Filter", "weights", "[I", true)
  | _ => ("CoarseSteps$Filter", "count", "I", false)
def tyX2 : Nat → FieldType := fun k => match k with
  | 0 => .array .int
  | _ => .int
abbrev wsX20 : List Cond := u_ws RX2 TX2 2
theorem nmX2 : ∀ a, a < 2 → ∀ b, b < 2 → a ≠ b → (TX2 a).2.1 ≠ (TX2 b).2.1 := by decide +kernel
theorem tyX2_ok : ∀ k, k < 2 → parseFieldDescriptor (TX2 k).2.2.1 = some (tyX2 k) := by decide +kernel
abbrev cX2_init : ByteArray := prog_4_method_1_code
def yX2_init : MethodName := ⟨RX2, "<init>", "()V"⟩
abbrev cX2_append : ByteArray := prog_4_method_2_code
def yX2_append : MethodName := ⟨RX2, "append", "(I)I"⟩
abbrev cX2_empty : ByteArray := prog_4_method_3_code
def yX2_empty : MethodName := ⟨RX2, "empty", "()I"⟩
abbrev cX2_readFrom : ByteArray := prog_4_method_4_code
def yX2_readFrom : MethodName := ⟨RX2, "readFrom", "(LCoarseSteps$History;)J"⟩
def RX3 : String := "CoarseSteps$History"
def TX3 : u_T := fun k => match k with
  | 0 => ("CoarseSteps$History", "wishes", "[I", true)
  | 1 => ("CoarseSteps$History", "givens", "[I", true)
  | 2 => ("CoarseSteps$History", "sums", "[J", true)
  | 3 => ("CoarseSteps$History", "totals", "[I", true)
  | 4 => ("CoarseSteps$History", "next", "I", false)
  | _ => ("CoarseSteps$History", "kept", "I", false)
def tyX3 : Nat → FieldType := fun k => match k with
  | 0 => .array .int
  | 1 => .array .int
  | 2 => .array .long
  | 3 => .array .int
  | 4 => .int
  | _ => .int
abbrev wsX30 : List Cond := u_ws RX3 TX3 6
theorem nmX3 : ∀ a, a < 6 → ∀ b, b < 6 → a ≠ b → (TX3 a).2.1 ≠ (TX3 b).2.1 := by decide +kernel
theorem tyX3_ok : ∀ k, k < 6 → parseFieldDescriptor (TX3 k).2.2.1 = some (tyX3 k) := by decide +kernel
abbrev cX3_init : ByteArray := prog_5_method_1_code
def yX3_init : MethodName := ⟨RX3, "<init>", "()V"⟩
abbrev cX3_forget : ByteArray := prog_5_method_2_code
def yX3_forget : MethodName := ⟨RX3, "forget", "()V"⟩
abbrev cX3_note : ByteArray := prog_5_method_3_code
def yX3_note : MethodName := ⟨RX3, "note", "(IIJ)V"⟩
abbrev cX3_holds : ByteArray := prog_5_method_4_code
def yX3_holds : MethodName := ⟨RX3, "holds", "(I)Z"⟩
abbrev cX3_holdsLast : ByteArray := prog_5_method_5_code
def yX3_holdsLast : MethodName := ⟨RX3, "holdsLast", "(I)Z"⟩
abbrev cX3_wishAt : ByteArray := prog_5_method_6_code
def yX3_wishAt : MethodName := ⟨RX3, "wishAt", "(I)I"⟩
abbrev cX3_givenAt : ByteArray := prog_5_method_7_code
def yX3_givenAt : MethodName := ⟨RX3, "givenAt", "(I)I"⟩
abbrev cX3_sumAt : ByteArray := prog_5_method_8_code
def yX3_sumAt : MethodName := ⟨RX3, "sumAt", "(I)J"⟩
abbrev cX3_missedIn : ByteArray := prog_5_method_9_code
def yX3_missedIn : MethodName := ⟨RX3, "missedIn", "(II)J"⟩
abbrev cX3_isEven : ByteArray := prog_5_method_10_code
def yX3_isEven : MethodName := ⟨RX3, "isEven", "(I)Z"⟩
abbrev cX3_isEvenBy : ByteArray := prog_5_method_11_code
def yX3_isEvenBy : MethodName := ⟨RX3, "isEvenBy", "(II)Z"⟩
def RX4 : String := "CoarseSteps$Loop"
def TX4 : u_T := fun k => match k with
  | 0 => ("CoarseSteps$Loop", "mover", "LCoarseSteps$Mover;", true)
  | 1 => ("CoarseSteps$Loop", "wheel", "LCoarseSteps$Wheel;", true)
  | 2 => ("CoarseSteps$Loop", "history", "LCoarseSteps$History;", true)
  | 3 => ("CoarseSteps$Loop", "sums", "[J", true)
  | 4 => ("CoarseSteps$Loop", "ticks", "I", false)
  | 5 => ("CoarseSteps$Loop", "firstBeganWith", "J", false)
  | 6 => ("CoarseSteps$Loop", "secondBefore", "I", false)
  | 7 => ("CoarseSteps$Loop", "thirdBefore", "I", false)
  | _ => ("CoarseSteps$Loop", "thirdTwoBefore", "I", false)
def tyX4 : Nat → FieldType := fun k => match k with
  | 0 => .object "CoarseSteps$Mover"
  | 1 => .object "CoarseSteps$Wheel"
  | 2 => .object "CoarseSteps$History"
  | 3 => .array .long
  | 4 => .int
  | 5 => .long
  | 6 => .int
  | 7 => .int
  | _ => .int
abbrev wsX40 : List Cond := u_ws RX4 TX4 9
theorem nmX4 : ∀ a, a < 9 → ∀ b, b < 9 → a ≠ b → (TX4 a).2.1 ≠ (TX4 b).2.1 := by decide +kernel
theorem tyX4_ok : ∀ k, k < 9 → parseFieldDescriptor (TX4 k).2.2.1 = some (tyX4 k) := by decide +kernel
abbrev cX4_init : ByteArray := prog_6_method_1_code
def yX4_init : MethodName := ⟨RX4, "<init>", "(LCoarseSteps$Scale;)V"⟩
abbrev cX4_begin : ByteArray := prog_6_method_2_code
def yX4_begin : MethodName := ⟨RX4, "begin", "(III)V"⟩
abbrev cX4_beginAnew : ByteArray := prog_6_method_3_code
def yX4_beginAnew : MethodName := ⟨RX4, "beginAnew", "()V"⟩
abbrev cX4_startAt : ByteArray := prog_6_method_4_code
def yX4_startAt : MethodName := ⟨RX4, "startAt", "(IJ)V"⟩
abbrev cX4_turn : ByteArray := prog_6_method_5_code
def yX4_turn : MethodName := ⟨RX4, "turn", "(I)I"⟩
abbrev cX4_giveOfRow : ByteArray := prog_6_method_6_code
def yX4_giveOfRow : MethodName := ⟨RX4, "giveOfRow", "()I"⟩
abbrev cX4_canClaim : ByteArray := prog_6_method_7_code
def yX4_canClaim : MethodName := ⟨RX4, "canClaim", "(I)Z"⟩
def RX5 : String := "CoarseSteps$Mover"
def TX5 : u_T := fun k => match k with
  | 0 => ("CoarseSteps$Mover", "scale", "LCoarseSteps$Scale;", true)
  | 1 => ("CoarseSteps$Mover", "tables", "LCoarseSteps$Tables;", true)
  | 2 => ("CoarseSteps$Mover", "coming", "[J", true)
  | 3 => ("CoarseSteps$Mover", "picked", "[I", true)
  | 4 => ("CoarseSteps$Mover", "kind", "I", false)
  | _ => ("CoarseSteps$Mover", "sums", "I", false)
def tyX5 : Nat → FieldType := fun k => match k with
  | 0 => .object "CoarseSteps$Scale"
  | 1 => .object "CoarseSteps$Tables"
  | 2 => .array .long
  | 3 => .array .int
  | 4 => .int
  | _ => .int
abbrev wsX50 : List Cond := u_ws RX5 TX5 6
theorem nmX5 : ∀ a, a < 6 → ∀ b, b < 6 → a ≠ b → (TX5 a).2.1 ≠ (TX5 b).2.1 := by decide +kernel
theorem tyX5_ok : ∀ k, k < 6 → parseFieldDescriptor (TX5 k).2.2.1 = some (tyX5 k) := by decide +kernel
abbrev cX5_init : ByteArray := prog_7_method_1_code
def yX5_init : MethodName := ⟨RX5, "<init>", "(LCoarseSteps$Scale;)V"⟩
abbrev cX5_begin : ByteArray := prog_7_method_2_code
def yX5_begin : MethodName := ⟨RX5, "begin", "(II)V"⟩
abbrev cX5_hasSum : ByteArray := prog_7_method_3_code
def yX5_hasSum : MethodName := ⟨RX5, "hasSum", "(I)Z"⟩
abbrev cX5_advance : ByteArray := prog_7_method_4_code
def yX5_advance : MethodName := ⟨RX5, "advance", "([JI)Z"⟩
abbrev cX5_settle : ByteArray := prog_7_method_5_code
def yX5_settle : MethodName := ⟨RX5, "settle", "([J)Z"⟩
abbrev cX5_reckonTwo : ByteArray := prog_7_method_6_code
def yX5_reckonTwo : MethodName := ⟨RX5, "reckonTwo", "([JI)V"⟩
abbrev cX5_reckonTables : ByteArray := prog_7_method_7_code
def yX5_reckonTables : MethodName := ⟨RX5, "reckonTables", "([JI)V"⟩
abbrev cX5_reckonRow : ByteArray := prog_7_method_8_code
def yX5_reckonRow : MethodName := ⟨RX5, "reckonRow", "([JI)V"⟩
abbrev cX5_takeStep : ByteArray := prog_7_method_9_code
def yX5_takeStep : MethodName := ⟨RX5, "takeStep", "(IJ)J"⟩
def RX6 : String := "CoarseSteps$Outlook"
def TX6 : u_T := fun k => match k with
  | 0 => ("CoarseSteps$Outlook", "loop", "LCoarseSteps$Loop;", true)
  | 1 => ("CoarseSteps$Outlook", "at", "[J", true)
  | 2 => ("CoarseSteps$Outlook", "mark", "[J", true)
  | _ => ("CoarseSteps$Outlook", "toldTail", "I", false)
def tyX6 : Nat → FieldType := fun k => match k with
  | 0 => .object "CoarseSteps$Loop"
  | 1 => .array .long
  | 2 => .array .long
  | _ => .int
abbrev wsX60 : List Cond := u_ws RX6 TX6 4
theorem nmX6 : ∀ a, a < 4 → ∀ b, b < 4 → a ≠ b → (TX6 a).2.1 ≠ (TX6 b).2.1 := by decide +kernel
theorem tyX6_ok : ∀ k, k < 4 → parseFieldDescriptor (TX6 k).2.2.1 = some (tyX6 k) := by decide +kernel
abbrev cX6_init : ByteArray := prog_8_method_1_code
def yX6_init : MethodName := ⟨RX6, "<init>", "(LCoarseSteps$Loop;)V"⟩
abbrev cX6_findRing : ByteArray := prog_8_method_2_code
def yX6_findRing : MethodName := ⟨RX6, "findRing", "(I)I"⟩
abbrev cX6_findBeat : ByteArray := prog_8_method_3_code
def yX6_findBeat : MethodName := ⟨RX6, "findBeat", "(I)I"⟩
abbrev cX6_findTail : ByteArray := prog_8_method_4_code
def yX6_findTail : MethodName := ⟨RX6, "findTail", "(II)I"⟩
abbrev cX6_ticksUntilBeyond : ByteArray := prog_8_method_5_code
def yX6_ticksUntilBeyond : MethodName := ⟨RX6, "ticksUntilBeyond", "(IJ)I"⟩
abbrev cX6_isBeyond : ByteArray := prog_8_method_6_code
def yX6_isBeyond : MethodName := ⟨RX6, "isBeyond", "(J)Z"⟩
abbrev cX6_isSame : ByteArray := prog_8_method_7_code
def yX6_isSame : MethodName := ⟨RX6, "isSame", "([J[J)Z"⟩
abbrev cX6_copy : ByteArray := prog_8_method_8_code
def yX6_copy : MethodName := ⟨RX6, "copy", "([J[J)V"⟩
def RX7 : String := "CoarseSteps$Scale"
def TX7 : u_T := fun k => match k with
  | 0 => ("CoarseSteps$Scale", "over", "I", false)
  | 1 => ("CoarseSteps$Scale", "count", "I", false)
  | _ => ("CoarseSteps$Scale", "values", "[I", true)
def tyX7 : Nat → FieldType := fun k => match k with
  | 0 => .int
  | 1 => .int
  | _ => .array .int
abbrev wsX70 : List Cond := u_ws RX7 TX7 3
theorem nmX7 : ∀ a, a < 3 → ∀ b, b < 3 → a ≠ b → (TX7 a).2.1 ≠ (TX7 b).2.1 := by decide +kernel
theorem tyX7_ok : ∀ k, k < 3 → parseFieldDescriptor (TX7 k).2.2.1 = some (tyX7 k) := by decide +kernel
abbrev cX7_init : ByteArray := prog_9_method_1_code
def yX7_init : MethodName := ⟨RX7, "<init>", "()V"⟩
abbrev cX7_canTake : ByteArray := prog_9_method_2_code
def yX7_canTake : MethodName := ⟨RX7, "canTake", "(I[I)Z"⟩
abbrev cX7_take : ByteArray := prog_9_method_3_code
def yX7_take : MethodName := ⟨RX7, "take", "(I[I)V"⟩
abbrev cX7_placeFor : ByteArray := prog_9_method_4_code
def yX7_placeFor : MethodName := ⟨RX7, "placeFor", "(J)I"⟩
abbrev cX7_fineAt : ByteArray := prog_9_method_5_code
def yX7_fineAt : MethodName := ⟨RX7, "fineAt", "(I)J"⟩
def RX8 : String := "CoarseSteps$Tables"
def TX8 : u_T := fun k => match k with
  | 0 => ("CoarseSteps$Tables", "sums", "I", false)
  | 1 => ("CoarseSteps$Tables", "g", "I", false)
  | 2 => ("CoarseSteps$Tables", "a", "[I", true)
  | 3 => ("CoarseSteps$Tables", "b", "[I", true)
  | 4 => ("CoarseSteps$Tables", "e", "[I", true)
  | _ => ("CoarseSteps$Tables", "h", "[I", true)
def tyX8 : Nat → FieldType := fun k => match k with
  | 0 => .int
  | 1 => .int
  | 2 => .array .int
  | 3 => .array .int
  | 4 => .array .int
  | _ => .array .int
abbrev wsX80 : List Cond := u_ws RX8 TX8 6
theorem nmX8 : ∀ a, a < 6 → ∀ b, b < 6 → a ≠ b → (TX8 a).2.1 ≠ (TX8 b).2.1 := by decide +kernel
theorem tyX8_ok : ∀ k, k < 6 → parseFieldDescriptor (TX8 k).2.2.1 = some (tyX8 k) := by decide +kernel
abbrev cX8_init : ByteArray := prog_10_method_1_code
def yX8_init : MethodName := ⟨RX8, "<init>", "()V"⟩
abbrev cX8_begin : ByteArray := prog_10_method_2_code
def yX8_begin : MethodName := ⟨RX8, "begin", "(I)V"⟩
abbrev cX8_put : ByteArray := prog_10_method_3_code
def yX8_put : MethodName := ⟨RX8, "put", "(III)Z"⟩
abbrev cX8_measure : ByteArray := prog_10_method_4_code
def yX8_measure : MethodName := ⟨RX8, "measure", "([JI)J"⟩
abbrev cX8_next : ByteArray := prog_10_method_5_code
def yX8_next : MethodName := ⟨RX8, "next", "(I[JIJ)J"⟩
def RX9 : String := "CoarseSteps$Wheel"
def TX9 : u_T := fun k => match k with
  | 0 => ("CoarseSteps$Wheel", "isOn", "[Z", true)
  | 1 => ("CoarseSteps$Wheel", "timesOn", "[I", true)
  | 2 => ("CoarseSteps$Wheel", "parts", "I", false)
  | 3 => ("CoarseSteps$Wheel", "rule", "I", false)
  | _ => ("CoarseSteps$Wheel", "hand", "I", false)
def tyX9 : Nat → FieldType := fun k => match k with
  | 0 => .array .boolean
  | 1 => .array .int
  | 2 => .int
  | 3 => .int
  | _ => .int
abbrev wsX90 : List Cond := u_ws RX9 TX9 5
theorem nmX9 : ∀ a, a < 5 → ∀ b, b < 5 → a ≠ b → (TX9 a).2.1 ≠ (TX9 b).2.1 := by decide +kernel
theorem tyX9_ok : ∀ k, k < 5 → parseFieldDescriptor (TX9 k).2.2.1 = some (tyX9 k) := by decide +kernel
abbrev cX9_init : ByteArray := prog_11_method_1_code
def yX9_init : MethodName := ⟨RX9, "<init>", "()V"⟩
abbrev cX9_begin : ByteArray := prog_11_method_2_code
def yX9_begin : MethodName := ⟨RX9, "begin", "(II)V"⟩
abbrev cX9_beginAnew : ByteArray := prog_11_method_3_code
def yX9_beginAnew : MethodName := ⟨RX9, "beginAnew", "()V"⟩
abbrev cX9_turn : ByteArray := prog_11_method_4_code
def yX9_turn : MethodName := ⟨RX9, "turn", "(I)V"⟩
abbrev cX9_switchOn : ByteArray := prog_11_method_5_code
def yX9_switchOn : MethodName := ⟨RX9, "switchOn", "(I)V"⟩
abbrev cX9_nextByHand : ByteArray := prog_11_method_6_code
def yX9_nextByHand : MethodName := ⟨RX9, "nextByHand", "()I"⟩
abbrev cX9_leastOftenOn : ByteArray := prog_11_method_7_code
def yX9_leastOftenOn : MethodName := ⟨RX9, "leastOftenOn", "()I"⟩
abbrev cX9_mostLessLeast : ByteArray := prog_11_method_8_code
def yX9_mostLessLeast : MethodName := ⟨RX9, "mostLessLeast", "()I"⟩
def RX10 : String := "CoarseSteps"
def TX10 : u_T := fun k => match k with
  | 0 => ("CoarseSteps", "scale", "LCoarseSteps$Scale;", true)
  | 1 => ("CoarseSteps", "loop", "LCoarseSteps$Loop;", true)
  | 2 => ("CoarseSteps", "outlook", "LCoarseSteps$Outlook;", true)
  | 3 => ("CoarseSteps", "inside", "LCoarseSteps$Box;", true)
  | 4 => ("CoarseSteps", "filter", "LCoarseSteps$Filter;", true)
  | _ => ("CoarseSteps", "claim", "LCoarseSteps$Claim;", true)
def tyX10 : Nat → FieldType := fun k => match k with
  | 0 => .object "CoarseSteps$Scale"
  | 1 => .object "CoarseSteps$Loop"
  | 2 => .object "CoarseSteps$Outlook"
  | 3 => .object "CoarseSteps$Box"
  | 4 => .object "CoarseSteps$Filter"
  | _ => .object "CoarseSteps$Claim"
abbrev wsX100 : List Cond := u_ws RX10 TX10 6
theorem nmX10 : ∀ a, a < 6 → ∀ b, b < 6 → a ≠ b → (TX10 a).2.1 ≠ (TX10 b).2.1 := by decide +kernel
theorem tyX10_ok : ∀ k, k < 6 → parseFieldDescriptor (TX10 k).2.2.1 = some (tyX10 k) := by decide +kernel
abbrev cX10_init : ByteArray := prog_1_method_1_code
def yX10_init : MethodName := ⟨RX10, "<init>", "()V"⟩
abbrev cX10_over : ByteArray := prog_1_method_2_code
def yX10_over : MethodName := ⟨RX10, "over", "(I)Z"⟩
abbrev cX10_steps : ByteArray := prog_1_method_3_code
def yX10_steps : MethodName := ⟨RX10, "steps", "(IIIIIIIII)Z"⟩
abbrev cX10_loop : ByteArray := prog_1_method_4_code
def yX10_loop : MethodName := ⟨RX10, "loop", "(III)Z"⟩
abbrev cX10_table : ByteArray := prog_1_method_5_code
def yX10_table : MethodName := ⟨RX10, "table", "(III)Z"⟩
abbrev cX10_start : ByteArray := prog_1_method_6_code
def yX10_start : MethodName := ⟨RX10, "start", "(IJ)Z"⟩
abbrev cX10_tick : ByteArray := prog_1_method_7_code
def yX10_tick : MethodName := ⟨RX10, "tick", "(I)I"⟩
abbrev cX10_run : ByteArray := prog_1_method_8_code
def yX10_run : MethodName := ⟨RX10, "run", "(II)I"⟩
abbrev cX10_sum : ByteArray := prog_1_method_9_code
def yX10_sum : MethodName := ⟨RX10, "sum", "(I)J"⟩
abbrev cX10_was : ByteArray := prog_1_method_10_code
def yX10_was : MethodName := ⟨RX10, "was", "(II)I"⟩
abbrev cX10_behind : ByteArray := prog_1_method_11_code
def yX10_behind : MethodName := ⟨RX10, "behind", "(I)J"⟩
abbrev cX10_missed : ByteArray := prog_1_method_12_code
def yX10_missed : MethodName := ⟨RX10, "missed", "(I)J"⟩
abbrev cX10_ring : ByteArray := prog_1_method_13_code
def yX10_ring : MethodName := ⟨RX10, "ring", "(I)I"⟩
abbrev cX10_tail : ByteArray := prog_1_method_14_code
def yX10_tail : MethodName := ⟨RX10, "tail", "()I"⟩
abbrev cX10_leaves : ByteArray := prog_1_method_15_code
def yX10_leaves : MethodName := ⟨RX10, "leaves", "(IJ)I"⟩
abbrev cX10_box : ByteArray := prog_1_method_16_code
def yX10_box : MethodName := ⟨RX10, "box", "(IJJ)Z"⟩
abbrev cX10_kept : ByteArray := prog_1_method_17_code
def yX10_kept : MethodName := ⟨RX10, "kept", "(II)I"⟩
abbrev cX10_word : ByteArray := prog_1_method_18_code
def yX10_word : MethodName := ⟨RX10, "word", "(II)I"⟩
abbrev cX10_even : ByteArray := prog_1_method_19_code
def yX10_even : MethodName := ⟨RX10, "even", "(I)I"⟩
abbrev cX10_weight : ByteArray := prog_1_method_20_code
def yX10_weight : MethodName := ⟨RX10, "weight", "(I)I"⟩
abbrev cX10_clear : ByteArray := prog_1_method_21_code
def yX10_clear : MethodName := ⟨RX10, "clear", "()I"⟩
abbrev cX10_read : ByteArray := prog_1_method_22_code
def yX10_read : MethodName := ⟨RX10, "read", "()J"⟩
abbrev cX10_back : ByteArray := prog_1_method_23_code
def yX10_back : MethodName := ⟨RX10, "back", "(II)I"⟩
abbrev cX10_range : ByteArray := prog_1_method_24_code
def yX10_range : MethodName := ⟨RX10, "range", "(III)I"⟩
abbrev cX10_part : ByteArray := prog_1_method_25_code
def yX10_part : MethodName := ⟨RX10, "part", "(II)I"⟩
abbrev cX10_spread : ByteArray := prog_1_method_26_code
def yX10_spread : MethodName := ⟨RX10, "spread", "()I"⟩
abbrev cX10_about : ByteArray := prog_1_method_27_code
def yX10_about : MethodName := ⟨RX10, "about", "(I)I"⟩
abbrev cX10_step : ByteArray := prog_1_method_28_code
def yX10_step : MethodName := ⟨RX10, "step", "(I)I"⟩
abbrev cX10_isWithin : ByteArray := prog_1_method_29_code
def yX10_isWithin : MethodName := ⟨RX10, "isWithin", "(II)Z"⟩
abbrev cX10_isWish : ByteArray := prog_1_method_30_code
def yX10_isWish : MethodName := ⟨RX10, "isWish", "(I)Z"⟩
abbrev cX10_isSum : ByteArray := prog_1_method_31_code
def yX10_isSum : MethodName := ⟨RX10, "isSum", "(J)Z"⟩
abbrev cX10_canLoop : ByteArray := prog_1_method_32_code
def yX10_canLoop : MethodName := ⟨RX10, "canLoop", "(III)Z"⟩
def RX11 : String := "CoarseStepsModel"
def TX11 : u_T := fun k => match k with
  | 0 => ("CoarseStepsModel", "d", "I", false)
  | 1 => ("CoarseStepsModel", "stepMany", "I", false)
  | 2 => ("CoarseStepsModel", "kind", "I", false)
  | 3 => ("CoarseStepsModel", "many", "I", false)
  | 4 => ("CoarseStepsModel", "partMany", "I", false)
  | 5 => ("CoarseStepsModel", "rule", "I", false)
  | 6 => ("CoarseStepsModel", "ticks", "I", false)
  | 7 => ("CoarseStepsModel", "hand", "I", false)
  | 8 => ("CoarseStepsModel", "steps", "[I", true)
  | 9 => ("CoarseStepsModel", "stepsTold", "[I", true)
  | 10 => ("CoarseStepsModel", "a", "[I", true)
  | 11 => ("CoarseStepsModel", "b", "[I", true)
  | 12 => ("CoarseStepsModel", "e", "[I", true)
  | 13 => ("CoarseStepsModel", "h", "[I", true)
  | 14 => ("CoarseStepsModel", "g", "I", false)
  | 15 => ("CoarseStepsModel", "sums", "[J", true)
  | 16 => ("CoarseStepsModel", "least", "[J", true)
  | 17 => ("CoarseStepsModel", "most", "[J", true)
  | 18 => ("CoarseStepsModel", "beganElsewhere", "Z", false)
  | 19 => ("CoarseStepsModel", "dBefore", "I", false)
  | 20 => ("CoarseStepsModel", "fBefore", "I", false)
  | 21 => ("CoarseStepsModel", "fFirst", "I", false)
  | 22 => ("CoarseStepsModel", "on", "[I", true)
  | 23 => ("CoarseStepsModel", "often", "[I", true)
  | 24 => ("CoarseStepsModel", "given", "[I", true)
  | 25 => ("CoarseStepsModel", "wished", "[I", true)
  | 26 => ("CoarseStepsModel", "firstSum", "[J", true)
  | 27 => ("CoarseStepsModel", "weights", "[I", true)
  | 28 => ("CoarseStepsModel", "weightMany", "I", false)
  | 29 => ("CoarseStepsModel", "tailTold", "I", false)
  | 30 => ("CoarseStepsModel", "now", "[J", true)
  | 31 => ("CoarseStepsModel", "to", "[J", true)
  | 32 => ("CoarseStepsModel", "made", "[I", true)
  | 33 => ("CoarseStepsModel", "path", "[J", true)
  | _ => ("CoarseStepsModel", "rowNow", "[I", true)
def tyX11 : Nat → FieldType := fun k => match k with
  | 0 => .int
  | 1 => .int
  | 2 => .int
  | 3 => .int
  | 4 => .int
  | 5 => .int
  | 6 => .int
  | 7 => .int
  | 8 => .array .int
  | 9 => .array .int
  | 10 => .array .int
  | 11 => .array .int
  | 12 => .array .int
  | 13 => .array .int
  | 14 => .int
  | 15 => .array .long
  | 16 => .array .long
  | 17 => .array .long
  | 18 => .boolean
  | 19 => .int
  | 20 => .int
  | 21 => .int
  | 22 => .array .int
  | 23 => .array .int
  | 24 => .array .int
  | 25 => .array .int
  | 26 => .array .long
  | 27 => .array .int
  | 28 => .int
  | 29 => .int
  | 30 => .array .long
  | 31 => .array .long
  | 32 => .array .int
  | 33 => .array .long
  | _ => .array .int
abbrev wsX110 : List Cond := u_ws RX11 TX11 35
theorem nmX11 : ∀ a, a < 35 → ∀ b, b < 35 → a ≠ b → (TX11 a).2.1 ≠ (TX11 b).2.1 := by decide +kernel
theorem tyX11_ok : ∀ k, k < 35 → parseFieldDescriptor (TX11 k).2.2.1 = some (tyX11 k) := by decide +kernel
abbrev cX11_init : ByteArray := prog_13_method_1_code
def yX11_init : MethodName := ⟨RX11, "<init>", "()V"⟩
abbrev cX11_anew : ByteArray := prog_13_method_2_code
def yX11_anew : MethodName := ⟨RX11, "anew", "()V"⟩
abbrev cX11_over : ByteArray := prog_13_method_3_code
def yX11_over : MethodName := ⟨RX11, "over", "(I)Z"⟩
abbrev cX11_steps : ByteArray := prog_13_method_4_code
def yX11_steps : MethodName := ⟨RX11, "steps", "(IIIIIIIII)Z"⟩
abbrev cX11_loop : ByteArray := prog_13_method_5_code
def yX11_loop : MethodName := ⟨RX11, "loop", "(III)Z"⟩
abbrev cX11_table : ByteArray := prog_13_method_6_code
def yX11_table : MethodName := ⟨RX11, "table", "(III)Z"⟩
abbrev cX11_isSum : ByteArray := prog_13_method_7_code
def yX11_isSum : MethodName := ⟨RX11, "isSum", "(I)Z"⟩
abbrev cX11_isNear : ByteArray := prog_13_method_8_code
def yX11_isNear : MethodName := ⟨RX11, "isNear", "(J)Z"⟩
abbrev cX11_start : ByteArray := prog_13_method_9_code
def yX11_start : MethodName := ⟨RX11, "start", "(IJ)Z"⟩
abbrev cX11_stepFor : ByteArray := prog_13_method_10_code
def yX11_stepFor : MethodName := ⟨RX11, "stepFor", "(J)I"⟩
abbrev cX11_next : ByteArray := prog_13_method_11_code
def yX11_next : MethodName := ⟨RX11, "next", "(I)Z"⟩
abbrev cX11_goOn : ByteArray := prog_13_method_12_code
def yX11_goOn : MethodName := ⟨RX11, "goOn", "()V"⟩
abbrev cX11_fromHere : ByteArray := prog_13_method_13_code
def yX11_fromHere : MethodName := ⟨RX11, "fromHere", "()V"⟩
abbrev cX11_isWish : ByteArray := prog_13_method_14_code
def yX11_isWish : MethodName := ⟨RX11, "isWish", "(I)Z"⟩
abbrev cX11_done : ByteArray := prog_13_method_15_code
def yX11_done : MethodName := ⟨RX11, "done", "(I)Z"⟩
abbrev cX11_turn : ByteArray := prog_13_method_16_code
def yX11_turn : MethodName := ⟨RX11, "turn", "(I)V"⟩
abbrev cX11_tick : ByteArray := prog_13_method_17_code
def yX11_tick : MethodName := ⟨RX11, "tick", "(I)I"⟩
abbrev cX11_run : ByteArray := prog_13_method_18_code
def yX11_run : MethodName := ⟨RX11, "run", "(II)I"⟩
abbrev cX11_sum : ByteArray := prog_13_method_19_code
def yX11_sum : MethodName := ⟨RX11, "sum", "(I)J"⟩
abbrev cX11_kept : ByteArray := prog_13_method_20_code
def yX11_kept : MethodName := ⟨RX11, "kept", "()I"⟩
abbrev cX11_latest : ByteArray := prog_13_method_21_code
def yX11_latest : MethodName := ⟨RX11, "latest", "(I)I"⟩
abbrev cX11_was : ByteArray := prog_13_method_22_code
def yX11_was : MethodName := ⟨RX11, "was", "(II)I"⟩
abbrev cX11_behind : ByteArray := prog_13_method_23_code
def yX11_behind : MethodName := ⟨RX11, "behind", "(I)J"⟩
abbrev cX11_missed : ByteArray := prog_13_method_24_code
def yX11_missed : MethodName := ⟨RX11, "missed", "(I)J"⟩
abbrev cX11_ring : ByteArray := prog_13_method_25_code
def yX11_ring : MethodName := ⟨RX11, "ring", "(I)I"⟩
abbrev cX11_tail : ByteArray := prog_13_method_26_code
def yX11_tail : MethodName := ⟨RX11, "tail", "()I"⟩
abbrev cX11_leaves : ByteArray := prog_13_method_27_code
def yX11_leaves : MethodName := ⟨RX11, "leaves", "(IJ)I"⟩
abbrev cX11_box : ByteArray := prog_13_method_28_code
def yX11_box : MethodName := ⟨RX11, "box", "(IJJ)Z"⟩
abbrev cX11_kept_ : ByteArray := prog_13_method_29_code
def yX11_kept_ : MethodName := ⟨RX11, "kept", "(II)I"⟩
abbrev cX11_word : ByteArray := prog_13_method_30_code
def yX11_word : MethodName := ⟨RX11, "word", "(II)I"⟩
abbrev cX11_even : ByteArray := prog_13_method_31_code
def yX11_even : MethodName := ⟨RX11, "even", "(I)I"⟩
abbrev cX11_weight : ByteArray := prog_13_method_32_code
def yX11_weight : MethodName := ⟨RX11, "weight", "(I)I"⟩
abbrev cX11_clear : ByteArray := prog_13_method_33_code
def yX11_clear : MethodName := ⟨RX11, "clear", "()I"⟩
abbrev cX11_read : ByteArray := prog_13_method_34_code
def yX11_read : MethodName := ⟨RX11, "read", "()J"⟩
abbrev cX11_floor : ByteArray := prog_13_method_35_code
def yX11_floor : MethodName := ⟨RX11, "floor", "(JJ)J"⟩
abbrev cX11_back : ByteArray := prog_13_method_36_code
def yX11_back : MethodName := ⟨RX11, "back", "(II)I"⟩
abbrev cX11_range : ByteArray := prog_13_method_37_code
def yX11_range : MethodName := ⟨RX11, "range", "(III)I"⟩
abbrev cX11_part : ByteArray := prog_13_method_38_code
def yX11_part : MethodName := ⟨RX11, "part", "(II)I"⟩
abbrev cX11_spread : ByteArray := prog_13_method_39_code
def yX11_spread : MethodName := ⟨RX11, "spread", "()I"⟩
abbrev cX11_about : ByteArray := prog_13_method_40_code
def yX11_about : MethodName := ⟨RX11, "about", "(I)I"⟩
abbrev cX11_step : ByteArray := prog_13_method_41_code
def yX11_step : MethodName := ⟨RX11, "step", "(I)I"⟩
def RJ9 : String := "java/lang/Math"
def TJ9 : u_T := fun k => match k with
  | _ => ("", "", "", false)
def tyJ9 : Nat → FieldType := fun k => match k with
  | _ => .int
abbrev wsJ90 : List Cond := u_ws RJ9 TJ9 0
theorem nmJ9 : ∀ a, a < 0 → ∀ b, b < 0 → a ≠ b → (TJ9 a).2.1 ≠ (TJ9 b).2.1 := by decide +kernel
theorem tyJ9_ok : ∀ k, k < 0 → parseFieldDescriptor (TJ9 k).2.2.1 = some (tyJ9 k) := by decide +kernel
abbrev cJ9_floorDiv_f86c9 : ByteArray := prog_14_method_49_code
def yJ9_floorDiv_f86c9 : MethodName := ⟨RJ9, "floorDiv", "(JJ)J"⟩
abbrev cJ9_max_7cf53 : ByteArray := prog_14_method_65_code
def yJ9_max_7cf53 : MethodName := ⟨RJ9, "max", "(II)I"⟩
abbrev cJ9_max_f86c9 : ByteArray := prog_14_method_66_code
def yJ9_max_f86c9 : MethodName := ⟨RJ9, "max", "(JJ)J"⟩
abbrev cJ9_min_7cf53 : ByteArray := prog_14_method_69_code
def yJ9_min_7cf53 : MethodName := ⟨RJ9, "min", "(II)I"⟩
abbrev cJ9_min_f86c9 : ByteArray := prog_14_method_70_code
def yJ9_min_f86c9 : MethodName := ⟨RJ9, "min", "(JJ)J"⟩
def RL : String := "CoarseStepsLaw"
abbrev cL_law : ByteArray := code
def yL_law : MethodName := ⟨RL, "law", "([I)Z"⟩
def wsX0_init : List Cond := .code yX0_init cX0_init 1 none :: ([.methodLink RX0 3 objectInit, .instanceMethod objectInit, .code objectInit ⟨#[0xb1]⟩ 1 none, .arrayClass .long, .fieldLink RX0 9 "CoarseSteps$Box" "least" "[J", .fieldLink RX0 15 "CoarseSteps$Box" "most" "[J", .fieldLink RX0 18 "CoarseSteps$Box" "place" "[J", .fieldLink RX0 21 "CoarseSteps$Box" "at" "[J"] ++ wsX00)
def wsX0_empty : List Cond := .code yX0_empty cX0_empty 2 none :: ([.fieldLink RX0 9 "CoarseSteps$Box" "least" "[J", .fieldLink RX0 15 "CoarseSteps$Box" "most" "[J"] ++ wsX00)
def wsX0_setEnds : List Cond := .code yX0_setEnds cX0_setEnds 6 none :: ([.fieldLink RX0 9 "CoarseSteps$Box" "least" "[J", .fieldLink RX0 15 "CoarseSteps$Box" "most" "[J"] ++ wsX00)
def wsX0_countPlaces : List Cond := .code yX0_countPlaces cX0_countPlaces 9 (some .long) :: ([.fieldLink RX0 15 "CoarseSteps$Box" "most" "[J", .fieldLink RX0 9 "CoarseSteps$Box" "least" "[J", .constantLong RX0 34 (100000), .constantLong RX0 44 (100001)] ++ wsX00)
def wsX7_placeFor : List Cond := .code yX7_placeFor cX7_placeFor 4 (some .int) :: ([.fieldLink RX7 15 "CoarseSteps$Scale" "count" "I", .fieldLink RX7 18 "CoarseSteps$Scale" "values" "[I", .fieldLink RX7 9 "CoarseSteps$Scale" "over" "I"] ++ wsX70)
def wsX7_fineAt : List Cond := .code yX7_fineAt cX7_fineAt 2 (some .long) :: ([.fieldLink RX7 18 "CoarseSteps$Scale" "values" "[I", .fieldLink RX7 9 "CoarseSteps$Scale" "over" "I"] ++ wsX70)
def wsX5_takeStep : List Cond := .code yX5_takeStep cX5_takeStep 5 (some .long) :: ([.fieldLink RX5 33 "CoarseSteps$Mover" "scale" "LCoarseSteps$Scale;", .fieldLink RX5 22 "CoarseSteps$Mover" "picked" "[I", .methodLink RX5 73 yX7_placeFor, .instanceMethod yX7_placeFor, .selects RX7 yX7_placeFor yX7_placeFor, .initialized RX7, .code yX7_placeFor cX7_placeFor 4 (some .int), .fieldLink RX7 15 "CoarseSteps$Scale" "count" "I", .fieldLink RX7 18 "CoarseSteps$Scale" "values" "[I", .fieldLink RX7 9 "CoarseSteps$Scale" "over" "I", .methodLink RX5 82 yX7_fineAt, .instanceMethod yX7_fineAt, .selects RX7 yX7_fineAt yX7_fineAt, .code yX7_fineAt cX7_fineAt 2 (some .long)] ++ wsX50 ++ wsX70)
def wsX5_reckonTwo : List Cond := .code yX5_reckonTwo cX5_reckonTwo 3 none :: ([.fieldLink RX5 18 "CoarseSteps$Mover" "coming" "[J", .constantLong RX5 59 (2), .methodLink RX5 61 yX5_takeStep, .instanceMethod yX5_takeStep, .selects RX5 yX5_takeStep yX5_takeStep, .initialized RX5, .code yX5_takeStep cX5_takeStep 5 (some .long), .fieldLink RX5 33 "CoarseSteps$Mover" "scale" "LCoarseSteps$Scale;", .fieldLink RX5 22 "CoarseSteps$Mover" "picked" "[I", .methodLink RX5 73 yX7_placeFor, .instanceMethod yX7_placeFor, .selects RX7 yX7_placeFor yX7_placeFor, .initialized RX7, .code yX7_placeFor cX7_placeFor 4 (some .int), .fieldLink RX7 15 "CoarseSteps$Scale" "count" "I", .fieldLink RX7 18 "CoarseSteps$Scale" "values" "[I", .fieldLink RX7 9 "CoarseSteps$Scale" "over" "I", .methodLink RX5 82 yX7_fineAt, .instanceMethod yX7_fineAt, .selects RX7 yX7_fineAt yX7_fineAt, .code yX7_fineAt cX7_fineAt 2 (some .long)] ++ wsX50 ++ wsX70)
def wsX8_measure : List Cond := .code yX8_measure cX8_measure 6 (some .long) :: ([.fieldLink RX8 28 "CoarseSteps$Tables" "g" "I", .fieldLink RX8 9 "CoarseSteps$Tables" "sums" "I", .fieldLink RX8 25 "CoarseSteps$Tables" "h" "[I"] ++ wsX80)
def wsX8_next : List Cond := .code yX8_next cX8_next 9 (some .long) :: ([.fieldLink RX8 19 "CoarseSteps$Tables" "b" "[I", .fieldLink RX8 22 "CoarseSteps$Tables" "e" "[I", .fieldLink RX8 9 "CoarseSteps$Tables" "sums" "I", .fieldLink RX8 15 "CoarseSteps$Tables" "a" "[I"] ++ wsX80)
def wsX5_reckonTables_r1 : List Cond := [Cond.fieldLink RX5 12 "CoarseSteps$Mover" "tables" "LCoarseSteps$Tables;", Cond.fieldLink RX5 30 "CoarseSteps$Mover" "sums" "I", Cond.fieldLink RX5 18 "CoarseSteps$Mover" "coming" "[J", Cond.methodLink RX5 65 yX8_measure, Cond.instanceMethod yX8_measure, Cond.selects RX8 yX8_measure yX8_measure, Cond.initialized RX8, Cond.code yX8_measure cX8_measure 6 (some .long), Cond.fieldLink RX8 28 "CoarseSteps$Tables" "g" "I", Cond.fieldLink RX8 9 "CoarseSteps$Tables" "sums" "I", Cond.fieldLink RX8 25 "CoarseSteps$Tables" "h" "[I", Cond.methodLink RX5 61 yX5_takeStep, Cond.instanceMethod yX5_takeStep, Cond.selects RX5 yX5_takeStep yX5_takeStep, Cond.initialized RX5, Cond.code yX5_takeStep cX5_takeStep 5 (some .long), Cond.fieldLink RX5 33 "CoarseSteps$Mover" "scale" "LCoarseSteps$Scale;", Cond.fieldLink RX5 22 "CoarseSteps$Mover" "picked" "[I", Cond.methodLink RX5 73 yX7_placeFor, Cond.instanceMethod yX7_placeFor, Cond.selects RX7 yX7_placeFor yX7_placeFor, Cond.initialized RX7, Cond.code yX7_placeFor cX7_placeFor 4 (some .int), Cond.fieldLink RX7 15 "CoarseSteps$Scale" "count" "I"]
def wsX5_reckonTables_r2 : List Cond := [Cond.fieldLink RX7 18 "CoarseSteps$Scale" "values" "[I", Cond.fieldLink RX7 9 "CoarseSteps$Scale" "over" "I", Cond.methodLink RX5 82 yX7_fineAt, Cond.instanceMethod yX7_fineAt, Cond.selects RX7 yX7_fineAt yX7_fineAt, Cond.code yX7_fineAt cX7_fineAt 2 (some .long), Cond.methodLink RX5 69 yX8_next, Cond.instanceMethod yX8_next, Cond.selects RX8 yX8_next yX8_next, Cond.code yX8_next cX8_next 9 (some .long), Cond.fieldLink RX8 19 "CoarseSteps$Tables" "b" "[I", Cond.fieldLink RX8 22 "CoarseSteps$Tables" "e" "[I", Cond.fieldLink RX8 15 "CoarseSteps$Tables" "a" "[I"]
def wsX5_reckonTables : List Cond := .code yX5_reckonTables cX5_reckonTables 8 none :: ((wsX5_reckonTables_r1 ++ wsX5_reckonTables_r2) ++ wsX50 ++ wsX80 ++ wsX70)
def wsX5_reckonRow : List Cond := .code yX5_reckonRow cX5_reckonRow 6 none :: ([.fieldLink RX5 30 "CoarseSteps$Mover" "sums" "I", .fieldLink RX5 18 "CoarseSteps$Mover" "coming" "[J", .methodLink RX5 61 yX5_takeStep, .instanceMethod yX5_takeStep, .selects RX5 yX5_takeStep yX5_takeStep, .initialized RX5, .code yX5_takeStep cX5_takeStep 5 (some .long), .fieldLink RX5 33 "CoarseSteps$Mover" "scale" "LCoarseSteps$Scale;", .fieldLink RX5 22 "CoarseSteps$Mover" "picked" "[I", .methodLink RX5 73 yX7_placeFor, .instanceMethod yX7_placeFor, .selects RX7 yX7_placeFor yX7_placeFor, .initialized RX7, .code yX7_placeFor cX7_placeFor 4 (some .int), .fieldLink RX7 15 "CoarseSteps$Scale" "count" "I", .fieldLink RX7 18 "CoarseSteps$Scale" "values" "[I", .fieldLink RX7 9 "CoarseSteps$Scale" "over" "I", .methodLink RX5 82 yX7_fineAt, .instanceMethod yX7_fineAt, .selects RX7 yX7_fineAt yX7_fineAt, .code yX7_fineAt cX7_fineAt 2 (some .long)] ++ wsX50 ++ wsX70)
def wsX10_isSum : List Cond := .code yX10_isSum cX10_isSum 2 (some .boolean) :: ([.constantLong RX10 247 (-1000000000000), .constantLong RX10 249 (1000000000000)])
def wsX5_settle : List Cond := .code yX5_settle cX5_settle 3 (some .boolean) :: ([.fieldLink RX5 30 "CoarseSteps$Mover" "sums" "I", .fieldLink RX5 18 "CoarseSteps$Mover" "coming" "[J", .static yX10_isSum, .initialized RX10, .code yX10_isSum cX10_isSum 2 (some .boolean), .constantLong RX10 247 (-1000000000000), .constantLong RX10 249 (1000000000000)] ++ wsX50)
def wsX5_advance_r1 : List Cond := [Cond.fieldLink RX5 26 "CoarseSteps$Mover" "kind" "I", Cond.methodLink RX5 41 yX5_reckonTwo, Cond.instanceMethod yX5_reckonTwo, Cond.selects RX5 yX5_reckonTwo yX5_reckonTwo, Cond.initialized RX5, Cond.code yX5_reckonTwo cX5_reckonTwo 3 none, Cond.fieldLink RX5 18 "CoarseSteps$Mover" "coming" "[J", Cond.constantLong RX5 59 (2), Cond.methodLink RX5 61 yX5_takeStep, Cond.instanceMethod yX5_takeStep, Cond.selects RX5 yX5_takeStep yX5_takeStep, Cond.code yX5_takeStep cX5_takeStep 5 (some .long), Cond.fieldLink RX5 33 "CoarseSteps$Mover" "scale" "LCoarseSteps$Scale;", Cond.fieldLink RX5 22 "CoarseSteps$Mover" "picked" "[I", Cond.methodLink RX5 73 yX7_placeFor, Cond.instanceMethod yX7_placeFor, Cond.selects RX7 yX7_placeFor yX7_placeFor, Cond.initialized RX7, Cond.code yX7_placeFor cX7_placeFor 4 (some .int), Cond.fieldLink RX7 15 "CoarseSteps$Scale" "count" "I", Cond.fieldLink RX7 18 "CoarseSteps$Scale" "values" "[I", Cond.fieldLink RX7 9 "CoarseSteps$Scale" "over" "I", Cond.methodLink RX5 82 yX7_fineAt, Cond.instanceMethod yX7_fineAt]
def wsX5_advance_r2 : List Cond := [Cond.selects RX7 yX7_fineAt yX7_fineAt, Cond.code yX7_fineAt cX7_fineAt 2 (some .long), Cond.methodLink RX5 45 yX5_reckonTables, Cond.instanceMethod yX5_reckonTables, Cond.selects RX5 yX5_reckonTables yX5_reckonTables, Cond.code yX5_reckonTables cX5_reckonTables 8 none, Cond.fieldLink RX5 12 "CoarseSteps$Mover" "tables" "LCoarseSteps$Tables;", Cond.fieldLink RX5 30 "CoarseSteps$Mover" "sums" "I", Cond.methodLink RX5 65 yX8_measure, Cond.instanceMethod yX8_measure, Cond.selects RX8 yX8_measure yX8_measure, Cond.initialized RX8, Cond.code yX8_measure cX8_measure 6 (some .long), Cond.fieldLink RX8 28 "CoarseSteps$Tables" "g" "I", Cond.fieldLink RX8 9 "CoarseSteps$Tables" "sums" "I", Cond.fieldLink RX8 25 "CoarseSteps$Tables" "h" "[I", Cond.methodLink RX5 69 yX8_next, Cond.instanceMethod yX8_next, Cond.selects RX8 yX8_next yX8_next, Cond.code yX8_next cX8_next 9 (some .long), Cond.fieldLink RX8 19 "CoarseSteps$Tables" "b" "[I", Cond.fieldLink RX8 22 "CoarseSteps$Tables" "e" "[I", Cond.fieldLink RX8 15 "CoarseSteps$Tables" "a" "[I", Cond.methodLink RX5 48 yX5_reckonRow]
def wsX5_advance_r3 : List Cond := [Cond.instanceMethod yX5_reckonRow, Cond.selects RX5 yX5_reckonRow yX5_reckonRow, Cond.code yX5_reckonRow cX5_reckonRow 6 none, Cond.methodLink RX5 51 yX5_settle, Cond.instanceMethod yX5_settle, Cond.selects RX5 yX5_settle yX5_settle, Cond.code yX5_settle cX5_settle 3 (some .boolean), Cond.static yX10_isSum, Cond.initialized RX10, Cond.code yX10_isSum cX10_isSum 2 (some .boolean), Cond.constantLong RX10 247 (-1000000000000), Cond.constantLong RX10 249 (1000000000000)]
def wsX5_advance : List Cond := .code yX5_advance cX5_advance 3 (some .boolean) :: ((wsX5_advance_r1 ++ (wsX5_advance_r2 ++ wsX5_advance_r3)) ++ wsX50 ++ wsX70 ++ wsX80)
def wsX0_isInside : List Cond := .code yX0_isInside cX0_isInside 3 (some .boolean) :: ([.fieldLink RX0 21 "CoarseSteps$Box" "at" "[J", .fieldLink RX0 9 "CoarseSteps$Box" "least" "[J", .fieldLink RX0 15 "CoarseSteps$Box" "most" "[J"] ++ wsX00)
def wsX0_staysFromPlace_r1 : List Cond := [Cond.fieldLink RX0 21 "CoarseSteps$Box" "at" "[J", Cond.fieldLink RX0 18 "CoarseSteps$Box" "place" "[J", Cond.methodLink RX0 46 yX5_advance, Cond.instanceMethod yX5_advance, Cond.selects RX5 yX5_advance yX5_advance, Cond.initialized RX5, Cond.code yX5_advance cX5_advance 3 (some .boolean), Cond.fieldLink RX5 26 "CoarseSteps$Mover" "kind" "I", Cond.methodLink RX5 41 yX5_reckonTwo, Cond.instanceMethod yX5_reckonTwo, Cond.selects RX5 yX5_reckonTwo yX5_reckonTwo, Cond.code yX5_reckonTwo cX5_reckonTwo 3 none, Cond.fieldLink RX5 18 "CoarseSteps$Mover" "coming" "[J", Cond.constantLong RX5 59 (2), Cond.methodLink RX5 61 yX5_takeStep, Cond.instanceMethod yX5_takeStep, Cond.selects RX5 yX5_takeStep yX5_takeStep, Cond.code yX5_takeStep cX5_takeStep 5 (some .long), Cond.fieldLink RX5 33 "CoarseSteps$Mover" "scale" "LCoarseSteps$Scale;", Cond.fieldLink RX5 22 "CoarseSteps$Mover" "picked" "[I", Cond.methodLink RX5 73 yX7_placeFor, Cond.instanceMethod yX7_placeFor, Cond.selects RX7 yX7_placeFor yX7_placeFor, Cond.initialized RX7]
def wsX0_staysFromPlace_r2 : List Cond := [Cond.code yX7_placeFor cX7_placeFor 4 (some .int), Cond.fieldLink RX7 15 "CoarseSteps$Scale" "count" "I", Cond.fieldLink RX7 18 "CoarseSteps$Scale" "values" "[I", Cond.fieldLink RX7 9 "CoarseSteps$Scale" "over" "I", Cond.methodLink RX5 82 yX7_fineAt, Cond.instanceMethod yX7_fineAt, Cond.selects RX7 yX7_fineAt yX7_fineAt, Cond.code yX7_fineAt cX7_fineAt 2 (some .long), Cond.methodLink RX5 45 yX5_reckonTables, Cond.instanceMethod yX5_reckonTables, Cond.selects RX5 yX5_reckonTables yX5_reckonTables, Cond.code yX5_reckonTables cX5_reckonTables 8 none, Cond.fieldLink RX5 12 "CoarseSteps$Mover" "tables" "LCoarseSteps$Tables;", Cond.fieldLink RX5 30 "CoarseSteps$Mover" "sums" "I", Cond.methodLink RX5 65 yX8_measure, Cond.instanceMethod yX8_measure, Cond.selects RX8 yX8_measure yX8_measure, Cond.initialized RX8, Cond.code yX8_measure cX8_measure 6 (some .long), Cond.fieldLink RX8 28 "CoarseSteps$Tables" "g" "I", Cond.fieldLink RX8 9 "CoarseSteps$Tables" "sums" "I", Cond.fieldLink RX8 25 "CoarseSteps$Tables" "h" "[I", Cond.methodLink RX5 69 yX8_next, Cond.instanceMethod yX8_next]
def wsX0_staysFromPlace_r3 : List Cond := [Cond.selects RX8 yX8_next yX8_next, Cond.code yX8_next cX8_next 9 (some .long), Cond.fieldLink RX8 19 "CoarseSteps$Tables" "b" "[I", Cond.fieldLink RX8 22 "CoarseSteps$Tables" "e" "[I", Cond.fieldLink RX8 15 "CoarseSteps$Tables" "a" "[I", Cond.methodLink RX5 48 yX5_reckonRow, Cond.instanceMethod yX5_reckonRow, Cond.selects RX5 yX5_reckonRow yX5_reckonRow, Cond.code yX5_reckonRow cX5_reckonRow 6 none, Cond.methodLink RX5 51 yX5_settle, Cond.instanceMethod yX5_settle, Cond.selects RX5 yX5_settle yX5_settle, Cond.code yX5_settle cX5_settle 3 (some .boolean), Cond.static yX10_isSum, Cond.initialized RX10, Cond.code yX10_isSum cX10_isSum 2 (some .boolean), Cond.constantLong RX10 247 (-1000000000000), Cond.constantLong RX10 249 (1000000000000), Cond.methodLink RX0 50 yX0_isInside, Cond.instanceMethod yX0_isInside, Cond.selects RX0 yX0_isInside yX0_isInside, Cond.initialized RX0, Cond.code yX0_isInside cX0_isInside 3 (some .boolean), Cond.fieldLink RX0 9 "CoarseSteps$Box" "least" "[J"]
def wsX0_staysFromPlace_r4 : List Cond := [Cond.fieldLink RX0 15 "CoarseSteps$Box" "most" "[J"]
def wsX0_staysFromPlace : List Cond := .code yX0_staysFromPlace cX0_staysFromPlace 6 (some .boolean) :: ((wsX0_staysFromPlace_r1 ++ (wsX0_staysFromPlace_r2 ++ (wsX0_staysFromPlace_r3 ++ wsX0_staysFromPlace_r4))) ++ wsX50 ++ wsX00 ++ wsX70 ++ wsX80)
def wsX0_toNextPlace : List Cond := .code yX0_toNextPlace cX0_toNextPlace 3 none :: ([.fieldLink RX0 18 "CoarseSteps$Box" "place" "[J", .fieldLink RX0 15 "CoarseSteps$Box" "most" "[J", .fieldLink RX0 9 "CoarseSteps$Box" "least" "[J"] ++ wsX00)
def wsX0_tellKept_r1 : List Cond := [Cond.constantLong RX0 34 (100000), Cond.fieldLink RX0 18 "CoarseSteps$Box" "place" "[J", Cond.fieldLink RX0 9 "CoarseSteps$Box" "least" "[J", Cond.methodLink RX0 30 yX0_countPlaces, Cond.instanceMethod yX0_countPlaces, Cond.selects RX0 yX0_countPlaces yX0_countPlaces, Cond.initialized RX0, Cond.code yX0_countPlaces cX0_countPlaces 9 (some .long), Cond.fieldLink RX0 15 "CoarseSteps$Box" "most" "[J", Cond.constantLong RX0 44 (100001), Cond.methodLink RX0 36 yX0_staysFromPlace, Cond.instanceMethod yX0_staysFromPlace, Cond.selects RX0 yX0_staysFromPlace yX0_staysFromPlace, Cond.code yX0_staysFromPlace cX0_staysFromPlace 6 (some .boolean), Cond.fieldLink RX0 21 "CoarseSteps$Box" "at" "[J", Cond.methodLink RX0 46 yX5_advance, Cond.instanceMethod yX5_advance, Cond.selects RX5 yX5_advance yX5_advance, Cond.initialized RX5, Cond.code yX5_advance cX5_advance 3 (some .boolean), Cond.fieldLink RX5 26 "CoarseSteps$Mover" "kind" "I", Cond.methodLink RX5 41 yX5_reckonTwo, Cond.instanceMethod yX5_reckonTwo, Cond.selects RX5 yX5_reckonTwo yX5_reckonTwo]
def wsX0_tellKept_r2 : List Cond := [Cond.code yX5_reckonTwo cX5_reckonTwo 3 none, Cond.fieldLink RX5 18 "CoarseSteps$Mover" "coming" "[J", Cond.constantLong RX5 59 (2), Cond.methodLink RX5 61 yX5_takeStep, Cond.instanceMethod yX5_takeStep, Cond.selects RX5 yX5_takeStep yX5_takeStep, Cond.code yX5_takeStep cX5_takeStep 5 (some .long), Cond.fieldLink RX5 33 "CoarseSteps$Mover" "scale" "LCoarseSteps$Scale;", Cond.fieldLink RX5 22 "CoarseSteps$Mover" "picked" "[I", Cond.methodLink RX5 73 yX7_placeFor, Cond.instanceMethod yX7_placeFor, Cond.selects RX7 yX7_placeFor yX7_placeFor, Cond.initialized RX7, Cond.code yX7_placeFor cX7_placeFor 4 (some .int), Cond.fieldLink RX7 15 "CoarseSteps$Scale" "count" "I", Cond.fieldLink RX7 18 "CoarseSteps$Scale" "values" "[I", Cond.fieldLink RX7 9 "CoarseSteps$Scale" "over" "I", Cond.methodLink RX5 82 yX7_fineAt, Cond.instanceMethod yX7_fineAt, Cond.selects RX7 yX7_fineAt yX7_fineAt, Cond.code yX7_fineAt cX7_fineAt 2 (some .long), Cond.methodLink RX5 45 yX5_reckonTables, Cond.instanceMethod yX5_reckonTables, Cond.selects RX5 yX5_reckonTables yX5_reckonTables]
def wsX0_tellKept_r3 : List Cond := [Cond.code yX5_reckonTables cX5_reckonTables 8 none, Cond.fieldLink RX5 12 "CoarseSteps$Mover" "tables" "LCoarseSteps$Tables;", Cond.fieldLink RX5 30 "CoarseSteps$Mover" "sums" "I", Cond.methodLink RX5 65 yX8_measure, Cond.instanceMethod yX8_measure, Cond.selects RX8 yX8_measure yX8_measure, Cond.initialized RX8, Cond.code yX8_measure cX8_measure 6 (some .long), Cond.fieldLink RX8 28 "CoarseSteps$Tables" "g" "I", Cond.fieldLink RX8 9 "CoarseSteps$Tables" "sums" "I", Cond.fieldLink RX8 25 "CoarseSteps$Tables" "h" "[I", Cond.methodLink RX5 69 yX8_next, Cond.instanceMethod yX8_next, Cond.selects RX8 yX8_next yX8_next, Cond.code yX8_next cX8_next 9 (some .long), Cond.fieldLink RX8 19 "CoarseSteps$Tables" "b" "[I", Cond.fieldLink RX8 22 "CoarseSteps$Tables" "e" "[I", Cond.fieldLink RX8 15 "CoarseSteps$Tables" "a" "[I", Cond.methodLink RX5 48 yX5_reckonRow, Cond.instanceMethod yX5_reckonRow, Cond.selects RX5 yX5_reckonRow yX5_reckonRow, Cond.code yX5_reckonRow cX5_reckonRow 6 none, Cond.methodLink RX5 51 yX5_settle, Cond.instanceMethod yX5_settle]
def wsX0_tellKept_r4 : List Cond := [Cond.selects RX5 yX5_settle yX5_settle, Cond.code yX5_settle cX5_settle 3 (some .boolean), Cond.static yX10_isSum, Cond.initialized RX10, Cond.code yX10_isSum cX10_isSum 2 (some .boolean), Cond.constantLong RX10 247 (-1000000000000), Cond.constantLong RX10 249 (1000000000000), Cond.methodLink RX0 50 yX0_isInside, Cond.instanceMethod yX0_isInside, Cond.selects RX0 yX0_isInside yX0_isInside, Cond.code yX0_isInside cX0_isInside 3 (some .boolean), Cond.methodLink RX0 40 yX0_toNextPlace, Cond.instanceMethod yX0_toNextPlace, Cond.selects RX0 yX0_toNextPlace yX0_toNextPlace, Cond.code yX0_toNextPlace cX0_toNextPlace 3 none]
def wsX0_tellKept : List Cond := .code yX0_tellKept cX0_tellKept 7 (some .int) :: ((wsX0_tellKept_r1 ++ (wsX0_tellKept_r2 ++ (wsX0_tellKept_r3 ++ wsX0_tellKept_r4))) ++ wsX50 ++ wsX00 ++ wsX70 ++ wsX80)
def wsX1_init : List Cond := .code yX1_init cX1_init 2 none :: ([.methodLink RX1 3 objectInit, .instanceMethod objectInit, .code objectInit ⟨#[0xb1]⟩ 1 none, .fieldLink RX1 9 "CoarseSteps$Claim" "scale" "LCoarseSteps$Scale;"] ++ wsX10)
def wsX3_givenAt : List Cond := .code yX3_givenAt cX3_givenAt 2 (some .int) :: ([.fieldLink RX3 15 "CoarseSteps$History" "givens" "[I", .fieldLink RX3 25 "CoarseSteps$History" "next" "I"] ++ wsX30)
def wsJ9_floorDiv_f86c9 : List Cond := .code yJ9_floorDiv_f86c9 cJ9_floorDiv_f86c9 6 (some .long) :: ([])
def wsX1_narrow_r1 : List Cond := [Cond.constantLong RX1 15 (-1000000), Cond.fieldLink RX1 17 "CoarseSteps$Claim" "low" "J", Cond.constantLong RX1 21 (1000000), Cond.fieldLink RX1 23 "CoarseSteps$Claim" "high" "J", Cond.fieldLink RX1 9 "CoarseSteps$Claim" "scale" "LCoarseSteps$Scale;", Cond.methodLink RX1 51 Lib.MathLoose.max_long.x, Cond.static Lib.MathLoose.max_long.x, Cond.initialized "java/lang/Math", Cond.code Lib.MathLoose.max_long.x Lib.MathLoose.max_long.code 4 (some .long), Cond.methodLink RX1 61 Lib.MathLoose.min_long.x, Cond.static Lib.MathLoose.min_long.x, Cond.code Lib.MathLoose.min_long.x Lib.MathLoose.min_long.code 4 (some .long), Cond.methodLink RX1 32 yX3_givenAt, Cond.instanceMethod yX3_givenAt, Cond.selects RX3 yX3_givenAt yX3_givenAt, Cond.initialized RX3, Cond.code yX3_givenAt cX3_givenAt 2 (some .int), Cond.fieldLink RX3 15 "CoarseSteps$History" "givens" "[I", Cond.fieldLink RX3 25 "CoarseSteps$History" "next" "I", Cond.methodLink RX1 41 yX7_placeFor, Cond.instanceMethod yX7_placeFor, Cond.selects RX7 yX7_placeFor yX7_placeFor, Cond.initialized RX7, Cond.code yX7_placeFor cX7_placeFor 4 (some .int)]
def wsX1_narrow_r2 : List Cond := [Cond.fieldLink RX7 15 "CoarseSteps$Scale" "count" "I", Cond.fieldLink RX7 18 "CoarseSteps$Scale" "values" "[I", Cond.fieldLink RX7 9 "CoarseSteps$Scale" "over" "I", Cond.methodLink RX1 45 yJ9_floorDiv_f86c9, Cond.static yJ9_floorDiv_f86c9, Cond.initialized RJ9, Cond.code yJ9_floorDiv_f86c9 cJ9_floorDiv_f86c9 6 (some .long), Cond.methodLink RX1 57 yX7_fineAt, Cond.instanceMethod yX7_fineAt, Cond.selects RX7 yX7_fineAt yX7_fineAt, Cond.code yX7_fineAt cX7_fineAt 2 (some .long)]
def wsX1_narrow : List Cond := .code yX1_narrow cX1_narrow 9 none :: ((wsX1_narrow_r1 ++ wsX1_narrow_r2) ++ wsX10 ++ wsX30 ++ wsX70)
def wsX1_roomAbove : List Cond := .code yX1_roomAbove cX1_roomAbove 12 (some .long) :: ([.constantLong RX1 68 (2000), .fieldLink RX1 9 "CoarseSteps$Claim" "scale" "LCoarseSteps$Scale;", .methodLink RX1 61 Lib.MathLoose.min_long.x, .static Lib.MathLoose.min_long.x, .initialized "java/lang/Math", .code Lib.MathLoose.min_long.x Lib.MathLoose.min_long.code 4 (some .long), .methodLink RX1 41 yX7_placeFor, .instanceMethod yX7_placeFor, .selects RX7 yX7_placeFor yX7_placeFor, .initialized RX7, .code yX7_placeFor cX7_placeFor 4 (some .int), .fieldLink RX7 15 "CoarseSteps$Scale" "count" "I", .fieldLink RX7 18 "CoarseSteps$Scale" "values" "[I", .fieldLink RX7 9 "CoarseSteps$Scale" "over" "I", .methodLink RX1 57 yX7_fineAt, .instanceMethod yX7_fineAt, .selects RX7 yX7_fineAt yX7_fineAt, .code yX7_fineAt cX7_fineAt 2 (some .long), .methodLink RX1 45 yJ9_floorDiv_f86c9, .static yJ9_floorDiv_f86c9, .initialized RJ9, .code yJ9_floorDiv_f86c9 cJ9_floorDiv_f86c9 6 (some .long)] ++ wsX10 ++ wsX70)
def wsX1_countRows_r1 : List Cond := [Cond.methodLink RX1 64 yX1_roomAbove, Cond.instanceMethod yX1_roomAbove, Cond.selects RX1 yX1_roomAbove yX1_roomAbove, Cond.initialized RX1, Cond.code yX1_roomAbove cX1_roomAbove 12 (some .long), Cond.constantLong RX1 68 (2000), Cond.fieldLink RX1 9 "CoarseSteps$Claim" "scale" "LCoarseSteps$Scale;", Cond.methodLink RX1 61 Lib.MathLoose.min_long.x, Cond.static Lib.MathLoose.min_long.x, Cond.initialized "java/lang/Math", Cond.code Lib.MathLoose.min_long.x Lib.MathLoose.min_long.code 4 (some .long), Cond.methodLink RX1 41 yX7_placeFor, Cond.instanceMethod yX7_placeFor, Cond.selects RX7 yX7_placeFor yX7_placeFor, Cond.initialized RX7, Cond.code yX7_placeFor cX7_placeFor 4 (some .int), Cond.fieldLink RX7 15 "CoarseSteps$Scale" "count" "I", Cond.fieldLink RX7 18 "CoarseSteps$Scale" "values" "[I", Cond.fieldLink RX7 9 "CoarseSteps$Scale" "over" "I", Cond.methodLink RX1 57 yX7_fineAt, Cond.instanceMethod yX7_fineAt, Cond.selects RX7 yX7_fineAt yX7_fineAt, Cond.code yX7_fineAt cX7_fineAt 2 (some .long), Cond.methodLink RX1 45 yJ9_floorDiv_f86c9]
def wsX1_countRows_r2 : List Cond := [Cond.static yJ9_floorDiv_f86c9, Cond.initialized RJ9, Cond.code yJ9_floorDiv_f86c9 cJ9_floorDiv_f86c9 6 (some .long)]
def wsX1_countRows : List Cond := .code yX1_countRows cX1_countRows 8 (some .int) :: ((wsX1_countRows_r1 ++ wsX1_countRows_r2) ++ wsX10 ++ wsX70)
def wsX2_init : List Cond := .code yX2_init cX2_init 1 none :: ([.methodLink RX2 3 objectInit, .instanceMethod objectInit, .code objectInit ⟨#[0xb1]⟩ 1 none, .arrayClass .int, .fieldLink RX2 9 "CoarseSteps$Filter" "weights" "[I"] ++ wsX20)
def wsX2_append : List Cond := .code yX2_append cX2_append 2 (some .int) :: ([.fieldLink RX2 15 "CoarseSteps$Filter" "count" "I", .fieldLink RX2 9 "CoarseSteps$Filter" "weights" "[I"] ++ wsX20)
def wsX2_empty : List Cond := .code yX2_empty cX2_empty 2 (some .int) :: ([.fieldLink RX2 15 "CoarseSteps$Filter" "count" "I"] ++ wsX20)
def wsX3_holds : List Cond := .code yX3_holds cX3_holds 2 (some .boolean) :: ([.fieldLink RX3 29 "CoarseSteps$History" "kept" "I"] ++ wsX30)
def wsX2_readFrom : List Cond := .code yX2_readFrom cX2_readFrom 5 (some .long) :: ([.fieldLink RX2 15 "CoarseSteps$Filter" "count" "I", .fieldLink RX2 9 "CoarseSteps$Filter" "weights" "[I", .methodLink RX2 19 yX3_holds, .instanceMethod yX3_holds, .selects RX3 yX3_holds yX3_holds, .initialized RX3, .code yX3_holds cX3_holds 2 (some .boolean), .fieldLink RX3 29 "CoarseSteps$History" "kept" "I", .methodLink RX2 25 yX3_givenAt, .instanceMethod yX3_givenAt, .selects RX3 yX3_givenAt yX3_givenAt, .code yX3_givenAt cX3_givenAt 2 (some .int), .fieldLink RX3 15 "CoarseSteps$History" "givens" "[I", .fieldLink RX3 25 "CoarseSteps$History" "next" "I"] ++ wsX20 ++ wsX30)
def wsX3_init : List Cond := .code yX3_init cX3_init 1 none :: ([.methodLink RX3 3 objectInit, .instanceMethod objectInit, .code objectInit ⟨#[0xb1]⟩ 1 none, .arrayClass .int, .fieldLink RX3 9 "CoarseSteps$History" "wishes" "[I", .fieldLink RX3 15 "CoarseSteps$History" "givens" "[I", .arrayClass .long, .fieldLink RX3 18 "CoarseSteps$History" "sums" "[J", .fieldLink RX3 22 "CoarseSteps$History" "totals" "[I"] ++ wsX30)
def wsX3_forget : List Cond := .code yX3_forget cX3_forget 1 none :: ([.fieldLink RX3 25 "CoarseSteps$History" "next" "I", .fieldLink RX3 29 "CoarseSteps$History" "kept" "I"] ++ wsX30)
def wsX3_note : List Cond := .code yX3_note cX3_note 5 none :: ([.fieldLink RX3 9 "CoarseSteps$History" "wishes" "[I", .fieldLink RX3 25 "CoarseSteps$History" "next" "I", .fieldLink RX3 15 "CoarseSteps$History" "givens" "[I", .fieldLink RX3 18 "CoarseSteps$History" "sums" "[J", .fieldLink RX3 29 "CoarseSteps$History" "kept" "I", .methodLink RX3 32 Lib.Math.min.name, .static Lib.Math.min.name, .initialized "java/lang/Math", .code Lib.Math.min.name Lib.Math.min.code 2 (some .int)] ++ wsX30)
def wsX3_holdsLast : List Cond := .code yX3_holdsLast cX3_holdsLast 2 (some .boolean) :: ([.fieldLink RX3 29 "CoarseSteps$History" "kept" "I"] ++ wsX30)
def wsX3_wishAt : List Cond := .code yX3_wishAt cX3_wishAt 2 (some .int) :: ([.fieldLink RX3 9 "CoarseSteps$History" "wishes" "[I", .fieldLink RX3 25 "CoarseSteps$History" "next" "I"] ++ wsX30)
def wsX3_sumAt : List Cond := .code yX3_sumAt cX3_sumAt 2 (some .long) :: ([.fieldLink RX3 18 "CoarseSteps$History" "sums" "[J", .fieldLink RX3 25 "CoarseSteps$History" "next" "I"] ++ wsX30)
def wsX3_missedIn : List Cond := .code yX3_missedIn cX3_missedIn 6 (some .long) :: ([.methodLink RX3 38 yX3_givenAt, .instanceMethod yX3_givenAt, .selects RX3 yX3_givenAt yX3_givenAt, .initialized RX3, .code yX3_givenAt cX3_givenAt 2 (some .int), .fieldLink RX3 15 "CoarseSteps$History" "givens" "[I", .fieldLink RX3 25 "CoarseSteps$History" "next" "I", .methodLink RX3 42 yX3_wishAt, .instanceMethod yX3_wishAt, .selects RX3 yX3_wishAt yX3_wishAt, .code yX3_wishAt cX3_wishAt 2 (some .int), .fieldLink RX3 9 "CoarseSteps$History" "wishes" "[I"] ++ wsX30)
def wsX3_isEvenBy : List Cond := .code yX3_isEvenBy cX3_isEvenBy 7 (some .boolean) :: ([.fieldLink RX3 22 "CoarseSteps$History" "totals" "[I", .methodLink RX3 32 Lib.Math.min.name, .static Lib.Math.min.name, .initialized "java/lang/Math", .code Lib.Math.min.name Lib.Math.min.code 2 (some .int), .methodLink RX3 49 Lib.Math.max.name, .static Lib.Math.max.name, .code Lib.Math.max.name Lib.Math.max.code 2 (some .int)] ++ wsX30)
def wsX3_isEven : List Cond := .code yX3_isEven cX3_isEven 3 (some .boolean) :: ([.fieldLink RX3 22 "CoarseSteps$History" "totals" "[I", .methodLink RX3 38 yX3_givenAt, .instanceMethod yX3_givenAt, .selects RX3 yX3_givenAt yX3_givenAt, .initialized RX3, .code yX3_givenAt cX3_givenAt 2 (some .int), .fieldLink RX3 15 "CoarseSteps$History" "givens" "[I", .fieldLink RX3 25 "CoarseSteps$History" "next" "I", .methodLink RX3 45 yX3_isEvenBy, .instanceMethod yX3_isEvenBy, .selects RX3 yX3_isEvenBy yX3_isEvenBy, .code yX3_isEvenBy cX3_isEvenBy 7 (some .boolean), .methodLink RX3 32 Lib.Math.min.name, .static Lib.Math.min.name, .initialized "java/lang/Math", .code Lib.Math.min.name Lib.Math.min.code 2 (some .int), .methodLink RX3 49 Lib.Math.max.name, .static Lib.Math.max.name, .code Lib.Math.max.name Lib.Math.max.code 2 (some .int)] ++ wsX30)
def wsX9_init : List Cond := .code yX9_init cX9_init 1 none :: ([.methodLink RX9 3 objectInit, .instanceMethod objectInit, .code objectInit ⟨#[0xb1]⟩ 1 none, .arrayClass .boolean, .fieldLink RX9 9 "CoarseSteps$Wheel" "isOn" "[Z", .arrayClass .int, .fieldLink RX9 15 "CoarseSteps$Wheel" "timesOn" "[I"] ++ wsX90)
def wsX8_init : List Cond := .code yX8_init cX8_init 1 none :: ([.methodLink RX8 3 objectInit, .instanceMethod objectInit, .code objectInit ⟨#[0xb1]⟩ 1 none, .fieldLink RX8 9 "CoarseSteps$Tables" "sums" "I", .arrayClass .int, .fieldLink RX8 15 "CoarseSteps$Tables" "a" "[I", .fieldLink RX8 19 "CoarseSteps$Tables" "b" "[I", .fieldLink RX8 22 "CoarseSteps$Tables" "e" "[I", .fieldLink RX8 25 "CoarseSteps$Tables" "h" "[I"] ++ wsX80)
def wsX5_init : List Cond := .code yX5_init cX5_init 2 none :: ([.methodLink RX5 3 objectInit, .instanceMethod objectInit, .code objectInit ⟨#[0xb1]⟩ 1 none, .classLink RX5 9 RX8, .instantiable RX8 6, .initialized RX8, .fieldLink RX5 12 "CoarseSteps$Mover" "tables" "LCoarseSteps$Tables;", .arrayClass .long, .fieldLink RX5 18 "CoarseSteps$Mover" "coming" "[J", .arrayClass .int, .fieldLink RX5 22 "CoarseSteps$Mover" "picked" "[I", .fieldLink RX5 26 "CoarseSteps$Mover" "kind" "I", .fieldLink RX5 30 "CoarseSteps$Mover" "sums" "I", .fieldLink RX5 33 "CoarseSteps$Mover" "scale" "LCoarseSteps$Scale;", .instanceMethod yX8_init, .code yX8_init cX8_init 1 none, .methodLink RX8 3 objectInit, .fieldLink RX8 9 "CoarseSteps$Tables" "sums" "I", .fieldLink RX8 15 "CoarseSteps$Tables" "a" "[I", .fieldLink RX8 19 "CoarseSteps$Tables" "b" "[I", .fieldLink RX8 22 "CoarseSteps$Tables" "e" "[I", .fieldLink RX8 25 "CoarseSteps$Tables" "h" "[I"] ++ wsX80 ++ wsX50)
def wsX4_init_r1 : List Cond := [Cond.methodLink RX4 3 objectInit, Cond.instanceMethod objectInit, Cond.code objectInit ⟨#[0xb1]⟩ 1 none, Cond.classLink RX4 9 RX9, Cond.instantiable RX9 5, Cond.initialized RX9, Cond.fieldLink RX4 12 "CoarseSteps$Loop" "wheel" "LCoarseSteps$Wheel;", Cond.classLink RX4 18 RX3, Cond.instantiable RX3 6, Cond.initialized RX3, Cond.fieldLink RX4 21 "CoarseSteps$Loop" "history" "LCoarseSteps$History;", Cond.arrayClass .long, Cond.fieldLink RX4 25 "CoarseSteps$Loop" "sums" "[J", Cond.classLink RX4 29 RX5, Cond.instantiable RX5 6, Cond.initialized RX5, Cond.fieldLink RX4 34 "CoarseSteps$Loop" "mover" "LCoarseSteps$Mover;", Cond.instanceMethod yX9_init, Cond.code yX9_init cX9_init 1 none, Cond.methodLink RX9 3 objectInit, Cond.arrayClass .boolean, Cond.fieldLink RX9 9 "CoarseSteps$Wheel" "isOn" "[Z", Cond.arrayClass .int, Cond.fieldLink RX9 15 "CoarseSteps$Wheel" "timesOn" "[I"]
def wsX4_init_r2 : List Cond := [Cond.instanceMethod yX3_init, Cond.code yX3_init cX3_init 1 none, Cond.methodLink RX3 3 objectInit, Cond.fieldLink RX3 9 "CoarseSteps$History" "wishes" "[I", Cond.fieldLink RX3 15 "CoarseSteps$History" "givens" "[I", Cond.fieldLink RX3 18 "CoarseSteps$History" "sums" "[J", Cond.fieldLink RX3 22 "CoarseSteps$History" "totals" "[I", Cond.methodLink RX4 31 yX5_init, Cond.instanceMethod yX5_init, Cond.code yX5_init cX5_init 2 none, Cond.methodLink RX5 3 objectInit, Cond.classLink RX5 9 RX8, Cond.instantiable RX8 6, Cond.initialized RX8, Cond.fieldLink RX5 12 "CoarseSteps$Mover" "tables" "LCoarseSteps$Tables;", Cond.fieldLink RX5 18 "CoarseSteps$Mover" "coming" "[J", Cond.fieldLink RX5 22 "CoarseSteps$Mover" "picked" "[I", Cond.fieldLink RX5 26 "CoarseSteps$Mover" "kind" "I", Cond.fieldLink RX5 30 "CoarseSteps$Mover" "sums" "I", Cond.fieldLink RX5 33 "CoarseSteps$Mover" "scale" "LCoarseSteps$Scale;", Cond.instanceMethod yX8_init, Cond.code yX8_init cX8_init 1 none, Cond.methodLink RX8 3 objectInit, Cond.fieldLink RX8 9 "CoarseSteps$Tables" "sums" "I"]
def wsX4_init_r3 : List Cond := [Cond.fieldLink RX8 15 "CoarseSteps$Tables" "a" "[I", Cond.fieldLink RX8 19 "CoarseSteps$Tables" "b" "[I", Cond.fieldLink RX8 22 "CoarseSteps$Tables" "e" "[I", Cond.fieldLink RX8 25 "CoarseSteps$Tables" "h" "[I"]
def wsX4_init : List Cond := .code yX4_init cX4_init 2 none :: ((wsX4_init_r1 ++ (wsX4_init_r2 ++ wsX4_init_r3)) ++ wsX90 ++ wsX40 ++ wsX30 ++ wsX50 ++ wsX80)
def wsX8_begin : List Cond := .code yX8_begin cX8_begin 3 none :: ([.fieldLink RX8 9 "CoarseSteps$Tables" "sums" "I", .fieldLink RX8 28 "CoarseSteps$Tables" "g" "I", .fieldLink RX8 15 "CoarseSteps$Tables" "a" "[I", .fieldLink RX8 19 "CoarseSteps$Tables" "b" "[I", .fieldLink RX8 22 "CoarseSteps$Tables" "e" "[I", .fieldLink RX8 25 "CoarseSteps$Tables" "h" "[I"] ++ wsX80)
def wsX5_begin : List Cond := .code yX5_begin cX5_begin 3 none :: ([.fieldLink RX5 26 "CoarseSteps$Mover" "kind" "I", .fieldLink RX5 30 "CoarseSteps$Mover" "sums" "I", .fieldLink RX5 12 "CoarseSteps$Mover" "tables" "LCoarseSteps$Tables;", .methodLink RX5 37 yX8_begin, .instanceMethod yX8_begin, .selects RX8 yX8_begin yX8_begin, .initialized RX8, .code yX8_begin cX8_begin 3 none, .fieldLink RX8 9 "CoarseSteps$Tables" "sums" "I", .fieldLink RX8 28 "CoarseSteps$Tables" "g" "I", .fieldLink RX8 15 "CoarseSteps$Tables" "a" "[I", .fieldLink RX8 19 "CoarseSteps$Tables" "b" "[I", .fieldLink RX8 22 "CoarseSteps$Tables" "e" "[I", .fieldLink RX8 25 "CoarseSteps$Tables" "h" "[I"] ++ wsX50 ++ wsX80)
def wsX9_beginAnew : List Cond := .code yX9_beginAnew cX9_beginAnew 2 none :: ([.fieldLink RX9 29 "CoarseSteps$Wheel" "hand" "I", .fieldLink RX9 9 "CoarseSteps$Wheel" "isOn" "[Z", .fieldLink RX9 15 "CoarseSteps$Wheel" "timesOn" "[I"] ++ wsX90)
def wsX9_begin : List Cond := .code yX9_begin cX9_begin 3 none :: ([.fieldLink RX9 19 "CoarseSteps$Wheel" "parts" "I", .fieldLink RX9 23 "CoarseSteps$Wheel" "rule" "I", .methodLink RX9 26 yX9_beginAnew, .instanceMethod yX9_beginAnew, .selects RX9 yX9_beginAnew yX9_beginAnew, .initialized RX9, .code yX9_beginAnew cX9_beginAnew 2 none, .fieldLink RX9 29 "CoarseSteps$Wheel" "hand" "I", .fieldLink RX9 9 "CoarseSteps$Wheel" "isOn" "[Z", .fieldLink RX9 15 "CoarseSteps$Wheel" "timesOn" "[I"] ++ wsX90)
def wsX4_beginAnew : List Cond := .code yX4_beginAnew cX4_beginAnew 2 none :: ([.fieldLink RX4 25 "CoarseSteps$Loop" "sums" "[J", .fieldLink RX4 46 "CoarseSteps$Loop" "ticks" "I", .fieldLink RX4 50 "CoarseSteps$Loop" "firstBeganWith" "J", .fieldLink RX4 54 "CoarseSteps$Loop" "secondBefore" "I", .fieldLink RX4 57 "CoarseSteps$Loop" "thirdBefore" "I", .fieldLink RX4 60 "CoarseSteps$Loop" "thirdTwoBefore" "I", .fieldLink RX4 12 "CoarseSteps$Loop" "wheel" "LCoarseSteps$Wheel;", .fieldLink RX4 21 "CoarseSteps$Loop" "history" "LCoarseSteps$History;", .methodLink RX4 63 yX9_beginAnew, .instanceMethod yX9_beginAnew, .selects RX9 yX9_beginAnew yX9_beginAnew, .initialized RX9, .code yX9_beginAnew cX9_beginAnew 2 none, .fieldLink RX9 29 "CoarseSteps$Wheel" "hand" "I", .fieldLink RX9 9 "CoarseSteps$Wheel" "isOn" "[Z", .fieldLink RX9 15 "CoarseSteps$Wheel" "timesOn" "[I", .methodLink RX4 64 yX3_forget, .instanceMethod yX3_forget, .selects RX3 yX3_forget yX3_forget, .initialized RX3, .code yX3_forget cX3_forget 1 none, .fieldLink RX3 25 "CoarseSteps$History" "next" "I", .fieldLink RX3 29 "CoarseSteps$History" "kept" "I"] ++ wsX40 ++ wsX90 ++ wsX30)
def wsX4_begin_r1 : List Cond := [Cond.fieldLink RX4 34 "CoarseSteps$Loop" "mover" "LCoarseSteps$Mover;", Cond.fieldLink RX4 12 "CoarseSteps$Loop" "wheel" "LCoarseSteps$Wheel;", Cond.methodLink RX4 38 yX5_begin, Cond.instanceMethod yX5_begin, Cond.selects RX5 yX5_begin yX5_begin, Cond.initialized RX5, Cond.code yX5_begin cX5_begin 3 none, Cond.fieldLink RX5 26 "CoarseSteps$Mover" "kind" "I", Cond.fieldLink RX5 30 "CoarseSteps$Mover" "sums" "I", Cond.fieldLink RX5 12 "CoarseSteps$Mover" "tables" "LCoarseSteps$Tables;", Cond.methodLink RX5 37 yX8_begin, Cond.instanceMethod yX8_begin, Cond.selects RX8 yX8_begin yX8_begin, Cond.initialized RX8, Cond.code yX8_begin cX8_begin 3 none, Cond.fieldLink RX8 9 "CoarseSteps$Tables" "sums" "I", Cond.fieldLink RX8 28 "CoarseSteps$Tables" "g" "I", Cond.fieldLink RX8 15 "CoarseSteps$Tables" "a" "[I", Cond.fieldLink RX8 19 "CoarseSteps$Tables" "b" "[I", Cond.fieldLink RX8 22 "CoarseSteps$Tables" "e" "[I", Cond.fieldLink RX8 25 "CoarseSteps$Tables" "h" "[I", Cond.methodLink RX4 42 yX9_begin, Cond.instanceMethod yX9_begin, Cond.selects RX9 yX9_begin yX9_begin]
def wsX4_begin_r2 : List Cond := [Cond.initialized RX9, Cond.code yX9_begin cX9_begin 3 none, Cond.fieldLink RX9 19 "CoarseSteps$Wheel" "parts" "I", Cond.fieldLink RX9 23 "CoarseSteps$Wheel" "rule" "I", Cond.methodLink RX9 26 yX9_beginAnew, Cond.instanceMethod yX9_beginAnew, Cond.selects RX9 yX9_beginAnew yX9_beginAnew, Cond.code yX9_beginAnew cX9_beginAnew 2 none, Cond.fieldLink RX9 29 "CoarseSteps$Wheel" "hand" "I", Cond.fieldLink RX9 9 "CoarseSteps$Wheel" "isOn" "[Z", Cond.fieldLink RX9 15 "CoarseSteps$Wheel" "timesOn" "[I", Cond.methodLink RX4 43 yX4_beginAnew, Cond.instanceMethod yX4_beginAnew, Cond.selects RX4 yX4_beginAnew yX4_beginAnew, Cond.initialized RX4, Cond.code yX4_beginAnew cX4_beginAnew 2 none, Cond.fieldLink RX4 25 "CoarseSteps$Loop" "sums" "[J", Cond.fieldLink RX4 46 "CoarseSteps$Loop" "ticks" "I", Cond.fieldLink RX4 50 "CoarseSteps$Loop" "firstBeganWith" "J", Cond.fieldLink RX4 54 "CoarseSteps$Loop" "secondBefore" "I", Cond.fieldLink RX4 57 "CoarseSteps$Loop" "thirdBefore" "I", Cond.fieldLink RX4 60 "CoarseSteps$Loop" "thirdTwoBefore" "I", Cond.fieldLink RX4 21 "CoarseSteps$Loop" "history" "LCoarseSteps$History;", Cond.methodLink RX4 63 yX9_beginAnew]
def wsX4_begin_r3 : List Cond := [Cond.methodLink RX4 64 yX3_forget, Cond.instanceMethod yX3_forget, Cond.selects RX3 yX3_forget yX3_forget, Cond.initialized RX3, Cond.code yX3_forget cX3_forget 1 none, Cond.fieldLink RX3 25 "CoarseSteps$History" "next" "I", Cond.fieldLink RX3 29 "CoarseSteps$History" "kept" "I"]
def wsX4_begin : List Cond := .code yX4_begin cX4_begin 4 none :: ((wsX4_begin_r1 ++ (wsX4_begin_r2 ++ wsX4_begin_r3)) ++ wsX40 ++ wsX50 ++ wsX80 ++ wsX90 ++ wsX30)
def wsX4_startAt : List Cond := .code yX4_startAt cX4_startAt 4 none :: ([.fieldLink RX4 25 "CoarseSteps$Loop" "sums" "[J", .fieldLink RX4 50 "CoarseSteps$Loop" "firstBeganWith" "J"] ++ wsX40)
def wsX4_giveOfRow : List Cond := .code yX4_giveOfRow cX4_giveOfRow 4 (some .int) :: ([.fieldLink RX4 34 "CoarseSteps$Loop" "mover" "LCoarseSteps$Mover;", .fieldLink RX4 54 "CoarseSteps$Loop" "secondBefore" "I", .fieldLink RX4 57 "CoarseSteps$Loop" "thirdBefore" "I", .fieldLink RX4 60 "CoarseSteps$Loop" "thirdTwoBefore" "I"] ++ wsX40 ++ wsX50)
def wsX9_nextByHand : List Cond := .code yX9_nextByHand cX9_nextByHand 2 (some .int) :: ([.fieldLink RX9 29 "CoarseSteps$Wheel" "hand" "I", .fieldLink RX9 19 "CoarseSteps$Wheel" "parts" "I"] ++ wsX90)
def wsX9_leastOftenOn : List Cond := .code yX9_leastOftenOn cX9_leastOftenOn 3 (some .int) :: ([.fieldLink RX9 19 "CoarseSteps$Wheel" "parts" "I", .fieldLink RX9 9 "CoarseSteps$Wheel" "isOn" "[Z", .fieldLink RX9 15 "CoarseSteps$Wheel" "timesOn" "[I"] ++ wsX90)
def wsX9_switchOn : List Cond := .code yX9_switchOn cX9_switchOn 2 none :: ([.fieldLink RX9 9 "CoarseSteps$Wheel" "isOn" "[Z", .fieldLink RX9 15 "CoarseSteps$Wheel" "timesOn" "[I"] ++ wsX90)
def wsX9_turn_r1 : List Cond := [Cond.fieldLink RX9 19 "CoarseSteps$Wheel" "parts" "I", Cond.methodLink RX9 32 Lib.Math.min.name, Cond.static Lib.Math.min.name, Cond.initialized "java/lang/Math", Cond.code Lib.Math.min.name Lib.Math.min.code 2 (some .int), Cond.methodLink RX9 38 Lib.Math.max.name, Cond.static Lib.Math.max.name, Cond.code Lib.Math.max.name Lib.Math.max.code 2 (some .int), Cond.fieldLink RX9 9 "CoarseSteps$Wheel" "isOn" "[Z", Cond.fieldLink RX9 23 "CoarseSteps$Wheel" "rule" "I", Cond.methodLink RX9 41 yX9_nextByHand, Cond.instanceMethod yX9_nextByHand, Cond.selects RX9 yX9_nextByHand yX9_nextByHand, Cond.initialized RX9, Cond.code yX9_nextByHand cX9_nextByHand 2 (some .int), Cond.fieldLink RX9 29 "CoarseSteps$Wheel" "hand" "I", Cond.methodLink RX9 45 yX9_leastOftenOn, Cond.instanceMethod yX9_leastOftenOn, Cond.selects RX9 yX9_leastOftenOn yX9_leastOftenOn, Cond.code yX9_leastOftenOn cX9_leastOftenOn 3 (some .int), Cond.fieldLink RX9 15 "CoarseSteps$Wheel" "timesOn" "[I", Cond.methodLink RX9 48 yX9_switchOn, Cond.instanceMethod yX9_switchOn, Cond.selects RX9 yX9_switchOn yX9_switchOn]
def wsX9_turn_r2 : List Cond := [Cond.code yX9_switchOn cX9_switchOn 2 none]
def wsX9_turn : List Cond := .code yX9_turn cX9_turn 4 none :: ((wsX9_turn_r1 ++ wsX9_turn_r2) ++ wsX90)
def wsX4_turn_r1 : List Cond := [Cond.fieldLink RX4 34 "CoarseSteps$Loop" "mover" "LCoarseSteps$Mover;", Cond.fieldLink RX4 25 "CoarseSteps$Loop" "sums" "[J", Cond.constant RX4 71 (-2147483648), Cond.fieldLink RX4 46 "CoarseSteps$Loop" "ticks" "I", Cond.fieldLink RX4 21 "CoarseSteps$Loop" "history" "LCoarseSteps$History;", Cond.fieldLink RX4 12 "CoarseSteps$Loop" "wheel" "LCoarseSteps$Wheel;", Cond.methodLink RX4 67 yX5_advance, Cond.instanceMethod yX5_advance, Cond.selects RX5 yX5_advance yX5_advance, Cond.initialized RX5, Cond.code yX5_advance cX5_advance 3 (some .boolean), Cond.fieldLink RX5 26 "CoarseSteps$Mover" "kind" "I", Cond.methodLink RX5 41 yX5_reckonTwo, Cond.instanceMethod yX5_reckonTwo, Cond.selects RX5 yX5_reckonTwo yX5_reckonTwo, Cond.code yX5_reckonTwo cX5_reckonTwo 3 none, Cond.fieldLink RX5 18 "CoarseSteps$Mover" "coming" "[J", Cond.constantLong RX5 59 (2), Cond.methodLink RX5 61 yX5_takeStep, Cond.instanceMethod yX5_takeStep, Cond.selects RX5 yX5_takeStep yX5_takeStep, Cond.code yX5_takeStep cX5_takeStep 5 (some .long), Cond.fieldLink RX5 33 "CoarseSteps$Mover" "scale" "LCoarseSteps$Scale;", Cond.fieldLink RX5 22 "CoarseSteps$Mover" "picked" "[I"]
def wsX4_turn_r2 : List Cond := [Cond.methodLink RX5 73 yX7_placeFor, Cond.instanceMethod yX7_placeFor, Cond.selects RX7 yX7_placeFor yX7_placeFor, Cond.initialized RX7, Cond.code yX7_placeFor cX7_placeFor 4 (some .int), Cond.fieldLink RX7 15 "CoarseSteps$Scale" "count" "I", Cond.fieldLink RX7 18 "CoarseSteps$Scale" "values" "[I", Cond.fieldLink RX7 9 "CoarseSteps$Scale" "over" "I", Cond.methodLink RX5 82 yX7_fineAt, Cond.instanceMethod yX7_fineAt, Cond.selects RX7 yX7_fineAt yX7_fineAt, Cond.code yX7_fineAt cX7_fineAt 2 (some .long), Cond.methodLink RX5 45 yX5_reckonTables, Cond.instanceMethod yX5_reckonTables, Cond.selects RX5 yX5_reckonTables yX5_reckonTables, Cond.code yX5_reckonTables cX5_reckonTables 8 none, Cond.fieldLink RX5 12 "CoarseSteps$Mover" "tables" "LCoarseSteps$Tables;", Cond.fieldLink RX5 30 "CoarseSteps$Mover" "sums" "I", Cond.methodLink RX5 65 yX8_measure, Cond.instanceMethod yX8_measure, Cond.selects RX8 yX8_measure yX8_measure, Cond.initialized RX8, Cond.code yX8_measure cX8_measure 6 (some .long), Cond.fieldLink RX8 28 "CoarseSteps$Tables" "g" "I"]
def wsX4_turn_r3 : List Cond := [Cond.fieldLink RX8 9 "CoarseSteps$Tables" "sums" "I", Cond.fieldLink RX8 25 "CoarseSteps$Tables" "h" "[I", Cond.methodLink RX5 69 yX8_next, Cond.instanceMethod yX8_next, Cond.selects RX8 yX8_next yX8_next, Cond.code yX8_next cX8_next 9 (some .long), Cond.fieldLink RX8 19 "CoarseSteps$Tables" "b" "[I", Cond.fieldLink RX8 22 "CoarseSteps$Tables" "e" "[I", Cond.fieldLink RX8 15 "CoarseSteps$Tables" "a" "[I", Cond.methodLink RX5 48 yX5_reckonRow, Cond.instanceMethod yX5_reckonRow, Cond.selects RX5 yX5_reckonRow yX5_reckonRow, Cond.code yX5_reckonRow cX5_reckonRow 6 none, Cond.methodLink RX5 51 yX5_settle, Cond.instanceMethod yX5_settle, Cond.selects RX5 yX5_settle yX5_settle, Cond.code yX5_settle cX5_settle 3 (some .boolean), Cond.static yX10_isSum, Cond.initialized RX10, Cond.code yX10_isSum cX10_isSum 2 (some .boolean), Cond.constantLong RX10 247 (-1000000000000), Cond.constantLong RX10 249 (1000000000000), Cond.methodLink RX4 75 yX4_giveOfRow, Cond.instanceMethod yX4_giveOfRow]
def wsX4_turn_r4 : List Cond := [Cond.selects RX4 yX4_giveOfRow yX4_giveOfRow, Cond.initialized RX4, Cond.code yX4_giveOfRow cX4_giveOfRow 4 (some .int), Cond.fieldLink RX4 54 "CoarseSteps$Loop" "secondBefore" "I", Cond.fieldLink RX4 57 "CoarseSteps$Loop" "thirdBefore" "I", Cond.fieldLink RX4 60 "CoarseSteps$Loop" "thirdTwoBefore" "I", Cond.methodLink RX4 83 yX3_note, Cond.instanceMethod yX3_note, Cond.selects RX3 yX3_note yX3_note, Cond.initialized RX3, Cond.code yX3_note cX3_note 5 none, Cond.fieldLink RX3 9 "CoarseSteps$History" "wishes" "[I", Cond.fieldLink RX3 25 "CoarseSteps$History" "next" "I", Cond.fieldLink RX3 15 "CoarseSteps$History" "givens" "[I", Cond.fieldLink RX3 18 "CoarseSteps$History" "sums" "[J", Cond.fieldLink RX3 29 "CoarseSteps$History" "kept" "I", Cond.methodLink RX3 32 Lib.Math.min.name, Cond.static Lib.Math.min.name, Cond.initialized "java/lang/Math", Cond.code Lib.Math.min.name Lib.Math.min.code 2 (some .int), Cond.methodLink RX4 87 yX9_turn, Cond.instanceMethod yX9_turn, Cond.selects RX9 yX9_turn yX9_turn, Cond.initialized RX9]
def wsX4_turn_r5 : List Cond := [Cond.code yX9_turn cX9_turn 4 none, Cond.fieldLink RX9 19 "CoarseSteps$Wheel" "parts" "I", Cond.methodLink RX9 32 Lib.Math.min.name, Cond.methodLink RX9 38 Lib.Math.max.name, Cond.static Lib.Math.max.name, Cond.code Lib.Math.max.name Lib.Math.max.code 2 (some .int), Cond.fieldLink RX9 9 "CoarseSteps$Wheel" "isOn" "[Z", Cond.fieldLink RX9 23 "CoarseSteps$Wheel" "rule" "I", Cond.methodLink RX9 41 yX9_nextByHand, Cond.instanceMethod yX9_nextByHand, Cond.selects RX9 yX9_nextByHand yX9_nextByHand, Cond.code yX9_nextByHand cX9_nextByHand 2 (some .int), Cond.fieldLink RX9 29 "CoarseSteps$Wheel" "hand" "I", Cond.methodLink RX9 45 yX9_leastOftenOn, Cond.instanceMethod yX9_leastOftenOn, Cond.selects RX9 yX9_leastOftenOn yX9_leastOftenOn, Cond.code yX9_leastOftenOn cX9_leastOftenOn 3 (some .int), Cond.fieldLink RX9 15 "CoarseSteps$Wheel" "timesOn" "[I", Cond.methodLink RX9 48 yX9_switchOn, Cond.instanceMethod yX9_switchOn, Cond.selects RX9 yX9_switchOn yX9_switchOn, Cond.code yX9_switchOn cX9_switchOn 2 none]
def wsX4_turn : List Cond := .code yX4_turn cX4_turn 3 (some .int) :: ((wsX4_turn_r1 ++ (wsX4_turn_r2 ++ (wsX4_turn_r3 ++ (wsX4_turn_r4 ++ wsX4_turn_r5)))) ++ wsX40 ++ wsX50 ++ wsX70 ++ wsX80 ++ wsX30 ++ wsX90)
def wsX4_canClaim : List Cond := .code yX4_canClaim cX4_canClaim 2 (some .boolean) :: ([.fieldLink RX4 34 "CoarseSteps$Loop" "mover" "LCoarseSteps$Mover;", .fieldLink RX4 50 "CoarseSteps$Loop" "firstBeganWith" "J", .fieldLink RX4 46 "CoarseSteps$Loop" "ticks" "I", .fieldLink RX4 21 "CoarseSteps$Loop" "history" "LCoarseSteps$History;", .methodLink RX4 96 yX3_holdsLast, .instanceMethod yX3_holdsLast, .selects RX3 yX3_holdsLast yX3_holdsLast, .initialized RX3, .code yX3_holdsLast cX3_holdsLast 2 (some .boolean), .fieldLink RX3 29 "CoarseSteps$History" "kept" "I"] ++ wsX40 ++ wsX50 ++ wsX30)
def wsX5_hasSum : List Cond := .code yX5_hasSum cX5_hasSum 2 (some .boolean) :: ([.fieldLink RX5 30 "CoarseSteps$Mover" "sums" "I"] ++ wsX50)
def wsX6_init : List Cond := .code yX6_init cX6_init 2 none :: ([.methodLink RX6 3 objectInit, .instanceMethod objectInit, .code objectInit ⟨#[0xb1]⟩ 1 none, .arrayClass .long, .fieldLink RX6 9 "CoarseSteps$Outlook" "at" "[J", .fieldLink RX6 15 "CoarseSteps$Outlook" "mark" "[J", .fieldLink RX6 18 "CoarseSteps$Outlook" "loop" "LCoarseSteps$Loop;"] ++ wsX60)
def wsX6_copy : List Cond := .code yX6_copy cX6_copy 3 none :: ([])
def wsX6_isSame : List Cond := .code yX6_isSame cX6_isSame 4 (some .boolean) :: ([.fieldLink RX6 18 "CoarseSteps$Outlook" "loop" "LCoarseSteps$Loop;"] ++ wsX60 ++ wsX40 ++ wsX50)
def wsX6_findBeat_r1 : List Cond := [Cond.fieldLink RX6 18 "CoarseSteps$Outlook" "loop" "LCoarseSteps$Loop;", Cond.fieldLink RX6 9 "CoarseSteps$Outlook" "at" "[J", Cond.fieldLink RX6 15 "CoarseSteps$Outlook" "mark" "[J", Cond.methodLink RX6 39 yX6_copy, Cond.static yX6_copy, Cond.initialized RX6, Cond.code yX6_copy cX6_copy 3 none, Cond.methodLink RX6 47 yX5_advance, Cond.instanceMethod yX5_advance, Cond.selects RX5 yX5_advance yX5_advance, Cond.initialized RX5, Cond.code yX5_advance cX5_advance 3 (some .boolean), Cond.fieldLink RX5 26 "CoarseSteps$Mover" "kind" "I", Cond.methodLink RX5 41 yX5_reckonTwo, Cond.instanceMethod yX5_reckonTwo, Cond.selects RX5 yX5_reckonTwo yX5_reckonTwo, Cond.code yX5_reckonTwo cX5_reckonTwo 3 none, Cond.fieldLink RX5 18 "CoarseSteps$Mover" "coming" "[J", Cond.constantLong RX5 59 (2), Cond.methodLink RX5 61 yX5_takeStep, Cond.instanceMethod yX5_takeStep, Cond.selects RX5 yX5_takeStep yX5_takeStep, Cond.code yX5_takeStep cX5_takeStep 5 (some .long), Cond.fieldLink RX5 33 "CoarseSteps$Mover" "scale" "LCoarseSteps$Scale;"]
def wsX6_findBeat_r2 : List Cond := [Cond.fieldLink RX5 22 "CoarseSteps$Mover" "picked" "[I", Cond.methodLink RX5 73 yX7_placeFor, Cond.instanceMethod yX7_placeFor, Cond.selects RX7 yX7_placeFor yX7_placeFor, Cond.initialized RX7, Cond.code yX7_placeFor cX7_placeFor 4 (some .int), Cond.fieldLink RX7 15 "CoarseSteps$Scale" "count" "I", Cond.fieldLink RX7 18 "CoarseSteps$Scale" "values" "[I", Cond.fieldLink RX7 9 "CoarseSteps$Scale" "over" "I", Cond.methodLink RX5 82 yX7_fineAt, Cond.instanceMethod yX7_fineAt, Cond.selects RX7 yX7_fineAt yX7_fineAt, Cond.code yX7_fineAt cX7_fineAt 2 (some .long), Cond.methodLink RX5 45 yX5_reckonTables, Cond.instanceMethod yX5_reckonTables, Cond.selects RX5 yX5_reckonTables yX5_reckonTables, Cond.code yX5_reckonTables cX5_reckonTables 8 none, Cond.fieldLink RX5 12 "CoarseSteps$Mover" "tables" "LCoarseSteps$Tables;", Cond.fieldLink RX5 30 "CoarseSteps$Mover" "sums" "I", Cond.methodLink RX5 65 yX8_measure, Cond.instanceMethod yX8_measure, Cond.selects RX8 yX8_measure yX8_measure, Cond.initialized RX8, Cond.code yX8_measure cX8_measure 6 (some .long)]
def wsX6_findBeat_r3 : List Cond := [Cond.fieldLink RX8 28 "CoarseSteps$Tables" "g" "I", Cond.fieldLink RX8 9 "CoarseSteps$Tables" "sums" "I", Cond.fieldLink RX8 25 "CoarseSteps$Tables" "h" "[I", Cond.methodLink RX5 69 yX8_next, Cond.instanceMethod yX8_next, Cond.selects RX8 yX8_next yX8_next, Cond.code yX8_next cX8_next 9 (some .long), Cond.fieldLink RX8 19 "CoarseSteps$Tables" "b" "[I", Cond.fieldLink RX8 22 "CoarseSteps$Tables" "e" "[I", Cond.fieldLink RX8 15 "CoarseSteps$Tables" "a" "[I", Cond.methodLink RX5 48 yX5_reckonRow, Cond.instanceMethod yX5_reckonRow, Cond.selects RX5 yX5_reckonRow yX5_reckonRow, Cond.code yX5_reckonRow cX5_reckonRow 6 none, Cond.methodLink RX5 51 yX5_settle, Cond.instanceMethod yX5_settle, Cond.selects RX5 yX5_settle yX5_settle, Cond.code yX5_settle cX5_settle 3 (some .boolean), Cond.static yX10_isSum, Cond.initialized RX10, Cond.code yX10_isSum cX10_isSum 2 (some .boolean), Cond.constantLong RX10 247 (-1000000000000), Cond.constantLong RX10 249 (1000000000000), Cond.methodLink RX6 53 yX6_isSame]
def wsX6_findBeat_r4 : List Cond := [Cond.instanceMethod yX6_isSame, Cond.selects RX6 yX6_isSame yX6_isSame, Cond.code yX6_isSame cX6_isSame 4 (some .boolean)]
def wsX6_findBeat : List Cond := .code yX6_findBeat cX6_findBeat 5 (some .int) :: ((wsX6_findBeat_r1 ++ (wsX6_findBeat_r2 ++ (wsX6_findBeat_r3 ++ wsX6_findBeat_r4))) ++ wsX60 ++ wsX40 ++ wsX50 ++ wsX70 ++ wsX80)
def wsX6_findTail_r1 : List Cond := [Cond.fieldLink RX6 18 "CoarseSteps$Outlook" "loop" "LCoarseSteps$Loop;", Cond.fieldLink RX6 9 "CoarseSteps$Outlook" "at" "[J", Cond.fieldLink RX6 15 "CoarseSteps$Outlook" "mark" "[J", Cond.methodLink RX6 39 yX6_copy, Cond.static yX6_copy, Cond.initialized RX6, Cond.code yX6_copy cX6_copy 3 none, Cond.methodLink RX6 47 yX5_advance, Cond.instanceMethod yX5_advance, Cond.selects RX5 yX5_advance yX5_advance, Cond.initialized RX5, Cond.code yX5_advance cX5_advance 3 (some .boolean), Cond.fieldLink RX5 26 "CoarseSteps$Mover" "kind" "I", Cond.methodLink RX5 41 yX5_reckonTwo, Cond.instanceMethod yX5_reckonTwo, Cond.selects RX5 yX5_reckonTwo yX5_reckonTwo, Cond.code yX5_reckonTwo cX5_reckonTwo 3 none, Cond.fieldLink RX5 18 "CoarseSteps$Mover" "coming" "[J", Cond.constantLong RX5 59 (2), Cond.methodLink RX5 61 yX5_takeStep, Cond.instanceMethod yX5_takeStep, Cond.selects RX5 yX5_takeStep yX5_takeStep, Cond.code yX5_takeStep cX5_takeStep 5 (some .long), Cond.fieldLink RX5 33 "CoarseSteps$Mover" "scale" "LCoarseSteps$Scale;"]
def wsX6_findTail_r2 : List Cond := [Cond.fieldLink RX5 22 "CoarseSteps$Mover" "picked" "[I", Cond.methodLink RX5 73 yX7_placeFor, Cond.instanceMethod yX7_placeFor, Cond.selects RX7 yX7_placeFor yX7_placeFor, Cond.initialized RX7, Cond.code yX7_placeFor cX7_placeFor 4 (some .int), Cond.fieldLink RX7 15 "CoarseSteps$Scale" "count" "I", Cond.fieldLink RX7 18 "CoarseSteps$Scale" "values" "[I", Cond.fieldLink RX7 9 "CoarseSteps$Scale" "over" "I", Cond.methodLink RX5 82 yX7_fineAt, Cond.instanceMethod yX7_fineAt, Cond.selects RX7 yX7_fineAt yX7_fineAt, Cond.code yX7_fineAt cX7_fineAt 2 (some .long), Cond.methodLink RX5 45 yX5_reckonTables, Cond.instanceMethod yX5_reckonTables, Cond.selects RX5 yX5_reckonTables yX5_reckonTables, Cond.code yX5_reckonTables cX5_reckonTables 8 none, Cond.fieldLink RX5 12 "CoarseSteps$Mover" "tables" "LCoarseSteps$Tables;", Cond.fieldLink RX5 30 "CoarseSteps$Mover" "sums" "I", Cond.methodLink RX5 65 yX8_measure, Cond.instanceMethod yX8_measure, Cond.selects RX8 yX8_measure yX8_measure, Cond.initialized RX8, Cond.code yX8_measure cX8_measure 6 (some .long)]
def wsX6_findTail_r3 : List Cond := [Cond.fieldLink RX8 28 "CoarseSteps$Tables" "g" "I", Cond.fieldLink RX8 9 "CoarseSteps$Tables" "sums" "I", Cond.fieldLink RX8 25 "CoarseSteps$Tables" "h" "[I", Cond.methodLink RX5 69 yX8_next, Cond.instanceMethod yX8_next, Cond.selects RX8 yX8_next yX8_next, Cond.code yX8_next cX8_next 9 (some .long), Cond.fieldLink RX8 19 "CoarseSteps$Tables" "b" "[I", Cond.fieldLink RX8 22 "CoarseSteps$Tables" "e" "[I", Cond.fieldLink RX8 15 "CoarseSteps$Tables" "a" "[I", Cond.methodLink RX5 48 yX5_reckonRow, Cond.instanceMethod yX5_reckonRow, Cond.selects RX5 yX5_reckonRow yX5_reckonRow, Cond.code yX5_reckonRow cX5_reckonRow 6 none, Cond.methodLink RX5 51 yX5_settle, Cond.instanceMethod yX5_settle, Cond.selects RX5 yX5_settle yX5_settle, Cond.code yX5_settle cX5_settle 3 (some .boolean), Cond.static yX10_isSum, Cond.initialized RX10, Cond.code yX10_isSum cX10_isSum 2 (some .boolean), Cond.constantLong RX10 247 (-1000000000000), Cond.constantLong RX10 249 (1000000000000), Cond.methodLink RX6 53 yX6_isSame]
def wsX6_findTail_r4 : List Cond := [Cond.instanceMethod yX6_isSame, Cond.selects RX6 yX6_isSame yX6_isSame, Cond.code yX6_isSame cX6_isSame 4 (some .boolean)]
def wsX6_findTail : List Cond := .code yX6_findTail cX6_findTail 4 (some .int) :: ((wsX6_findTail_r1 ++ (wsX6_findTail_r2 ++ (wsX6_findTail_r3 ++ wsX6_findTail_r4))) ++ wsX60 ++ wsX40 ++ wsX50 ++ wsX70 ++ wsX80)
def wsX6_findRing_r1 : List Cond := [Cond.fieldLink RX6 30 "CoarseSteps$Outlook" "toldTail" "I", Cond.methodLink RX6 22 yX6_findBeat, Cond.instanceMethod yX6_findBeat, Cond.selects RX6 yX6_findBeat yX6_findBeat, Cond.initialized RX6, Cond.code yX6_findBeat cX6_findBeat 5 (some .int), Cond.fieldLink RX6 18 "CoarseSteps$Outlook" "loop" "LCoarseSteps$Loop;", Cond.fieldLink RX6 9 "CoarseSteps$Outlook" "at" "[J", Cond.fieldLink RX6 15 "CoarseSteps$Outlook" "mark" "[J", Cond.methodLink RX6 39 yX6_copy, Cond.static yX6_copy, Cond.code yX6_copy cX6_copy 3 none, Cond.methodLink RX6 47 yX5_advance, Cond.instanceMethod yX5_advance, Cond.selects RX5 yX5_advance yX5_advance, Cond.initialized RX5, Cond.code yX5_advance cX5_advance 3 (some .boolean), Cond.fieldLink RX5 26 "CoarseSteps$Mover" "kind" "I", Cond.methodLink RX5 41 yX5_reckonTwo, Cond.instanceMethod yX5_reckonTwo, Cond.selects RX5 yX5_reckonTwo yX5_reckonTwo, Cond.code yX5_reckonTwo cX5_reckonTwo 3 none, Cond.fieldLink RX5 18 "CoarseSteps$Mover" "coming" "[J", Cond.constantLong RX5 59 (2)]
def wsX6_findRing_r2 : List Cond := [Cond.methodLink RX5 61 yX5_takeStep, Cond.instanceMethod yX5_takeStep, Cond.selects RX5 yX5_takeStep yX5_takeStep, Cond.code yX5_takeStep cX5_takeStep 5 (some .long), Cond.fieldLink RX5 33 "CoarseSteps$Mover" "scale" "LCoarseSteps$Scale;", Cond.fieldLink RX5 22 "CoarseSteps$Mover" "picked" "[I", Cond.methodLink RX5 73 yX7_placeFor, Cond.instanceMethod yX7_placeFor, Cond.selects RX7 yX7_placeFor yX7_placeFor, Cond.initialized RX7, Cond.code yX7_placeFor cX7_placeFor 4 (some .int), Cond.fieldLink RX7 15 "CoarseSteps$Scale" "count" "I", Cond.fieldLink RX7 18 "CoarseSteps$Scale" "values" "[I", Cond.fieldLink RX7 9 "CoarseSteps$Scale" "over" "I", Cond.methodLink RX5 82 yX7_fineAt, Cond.instanceMethod yX7_fineAt, Cond.selects RX7 yX7_fineAt yX7_fineAt, Cond.code yX7_fineAt cX7_fineAt 2 (some .long), Cond.methodLink RX5 45 yX5_reckonTables, Cond.instanceMethod yX5_reckonTables, Cond.selects RX5 yX5_reckonTables yX5_reckonTables, Cond.code yX5_reckonTables cX5_reckonTables 8 none, Cond.fieldLink RX5 12 "CoarseSteps$Mover" "tables" "LCoarseSteps$Tables;", Cond.fieldLink RX5 30 "CoarseSteps$Mover" "sums" "I"]
def wsX6_findRing_r3 : List Cond := [Cond.methodLink RX5 65 yX8_measure, Cond.instanceMethod yX8_measure, Cond.selects RX8 yX8_measure yX8_measure, Cond.initialized RX8, Cond.code yX8_measure cX8_measure 6 (some .long), Cond.fieldLink RX8 28 "CoarseSteps$Tables" "g" "I", Cond.fieldLink RX8 9 "CoarseSteps$Tables" "sums" "I", Cond.fieldLink RX8 25 "CoarseSteps$Tables" "h" "[I", Cond.methodLink RX5 69 yX8_next, Cond.instanceMethod yX8_next, Cond.selects RX8 yX8_next yX8_next, Cond.code yX8_next cX8_next 9 (some .long), Cond.fieldLink RX8 19 "CoarseSteps$Tables" "b" "[I", Cond.fieldLink RX8 22 "CoarseSteps$Tables" "e" "[I", Cond.fieldLink RX8 15 "CoarseSteps$Tables" "a" "[I", Cond.methodLink RX5 48 yX5_reckonRow, Cond.instanceMethod yX5_reckonRow, Cond.selects RX5 yX5_reckonRow yX5_reckonRow, Cond.code yX5_reckonRow cX5_reckonRow 6 none, Cond.methodLink RX5 51 yX5_settle, Cond.instanceMethod yX5_settle, Cond.selects RX5 yX5_settle yX5_settle, Cond.code yX5_settle cX5_settle 3 (some .boolean), Cond.static yX10_isSum]
def wsX6_findRing_r4 : List Cond := [Cond.initialized RX10, Cond.code yX10_isSum cX10_isSum 2 (some .boolean), Cond.constantLong RX10 247 (-1000000000000), Cond.constantLong RX10 249 (1000000000000), Cond.methodLink RX6 53 yX6_isSame, Cond.instanceMethod yX6_isSame, Cond.selects RX6 yX6_isSame yX6_isSame, Cond.code yX6_isSame cX6_isSame 4 (some .boolean), Cond.methodLink RX6 26 yX6_findTail, Cond.instanceMethod yX6_findTail, Cond.selects RX6 yX6_findTail yX6_findTail, Cond.code yX6_findTail cX6_findTail 4 (some .int)]
def wsX6_findRing : List Cond := .code yX6_findRing cX6_findRing 4 (some .int) :: ((wsX6_findRing_r1 ++ (wsX6_findRing_r2 ++ (wsX6_findRing_r3 ++ wsX6_findRing_r4))) ++ wsX60 ++ wsX40 ++ wsX50 ++ wsX70 ++ wsX80)
def wsX6_isBeyond : List Cond := .code yX6_isBeyond cX6_isBeyond 4 (some .boolean) :: ([.fieldLink RX6 18 "CoarseSteps$Outlook" "loop" "LCoarseSteps$Loop;", .fieldLink RX6 9 "CoarseSteps$Outlook" "at" "[J"] ++ wsX60 ++ wsX40 ++ wsX50)
def wsX6_ticksUntilBeyond_r1 : List Cond := [Cond.fieldLink RX6 18 "CoarseSteps$Outlook" "loop" "LCoarseSteps$Loop;", Cond.fieldLink RX6 9 "CoarseSteps$Outlook" "at" "[J", Cond.methodLink RX6 39 yX6_copy, Cond.static yX6_copy, Cond.initialized RX6, Cond.code yX6_copy cX6_copy 3 none, Cond.methodLink RX6 47 yX5_advance, Cond.instanceMethod yX5_advance, Cond.selects RX5 yX5_advance yX5_advance, Cond.initialized RX5, Cond.code yX5_advance cX5_advance 3 (some .boolean), Cond.fieldLink RX5 26 "CoarseSteps$Mover" "kind" "I", Cond.methodLink RX5 41 yX5_reckonTwo, Cond.instanceMethod yX5_reckonTwo, Cond.selects RX5 yX5_reckonTwo yX5_reckonTwo, Cond.code yX5_reckonTwo cX5_reckonTwo 3 none, Cond.fieldLink RX5 18 "CoarseSteps$Mover" "coming" "[J", Cond.constantLong RX5 59 (2), Cond.methodLink RX5 61 yX5_takeStep, Cond.instanceMethod yX5_takeStep, Cond.selects RX5 yX5_takeStep yX5_takeStep, Cond.code yX5_takeStep cX5_takeStep 5 (some .long), Cond.fieldLink RX5 33 "CoarseSteps$Mover" "scale" "LCoarseSteps$Scale;", Cond.fieldLink RX5 22 "CoarseSteps$Mover" "picked" "[I"]
def wsX6_ticksUntilBeyond_r2 : List Cond := [Cond.methodLink RX5 73 yX7_placeFor, Cond.instanceMethod yX7_placeFor, Cond.selects RX7 yX7_placeFor yX7_placeFor, Cond.initialized RX7, Cond.code yX7_placeFor cX7_placeFor 4 (some .int), Cond.fieldLink RX7 15 "CoarseSteps$Scale" "count" "I", Cond.fieldLink RX7 18 "CoarseSteps$Scale" "values" "[I", Cond.fieldLink RX7 9 "CoarseSteps$Scale" "over" "I", Cond.methodLink RX5 82 yX7_fineAt, Cond.instanceMethod yX7_fineAt, Cond.selects RX7 yX7_fineAt yX7_fineAt, Cond.code yX7_fineAt cX7_fineAt 2 (some .long), Cond.methodLink RX5 45 yX5_reckonTables, Cond.instanceMethod yX5_reckonTables, Cond.selects RX5 yX5_reckonTables yX5_reckonTables, Cond.code yX5_reckonTables cX5_reckonTables 8 none, Cond.fieldLink RX5 12 "CoarseSteps$Mover" "tables" "LCoarseSteps$Tables;", Cond.fieldLink RX5 30 "CoarseSteps$Mover" "sums" "I", Cond.methodLink RX5 65 yX8_measure, Cond.instanceMethod yX8_measure, Cond.selects RX8 yX8_measure yX8_measure, Cond.initialized RX8, Cond.code yX8_measure cX8_measure 6 (some .long), Cond.fieldLink RX8 28 "CoarseSteps$Tables" "g" "I"]
def wsX6_ticksUntilBeyond_r3 : List Cond := [Cond.fieldLink RX8 9 "CoarseSteps$Tables" "sums" "I", Cond.fieldLink RX8 25 "CoarseSteps$Tables" "h" "[I", Cond.methodLink RX5 69 yX8_next, Cond.instanceMethod yX8_next, Cond.selects RX8 yX8_next yX8_next, Cond.code yX8_next cX8_next 9 (some .long), Cond.fieldLink RX8 19 "CoarseSteps$Tables" "b" "[I", Cond.fieldLink RX8 22 "CoarseSteps$Tables" "e" "[I", Cond.fieldLink RX8 15 "CoarseSteps$Tables" "a" "[I", Cond.methodLink RX5 48 yX5_reckonRow, Cond.instanceMethod yX5_reckonRow, Cond.selects RX5 yX5_reckonRow yX5_reckonRow, Cond.code yX5_reckonRow cX5_reckonRow 6 none, Cond.methodLink RX5 51 yX5_settle, Cond.instanceMethod yX5_settle, Cond.selects RX5 yX5_settle yX5_settle, Cond.code yX5_settle cX5_settle 3 (some .boolean), Cond.static yX10_isSum, Cond.initialized RX10, Cond.code yX10_isSum cX10_isSum 2 (some .boolean), Cond.constantLong RX10 247 (-1000000000000), Cond.constantLong RX10 249 (1000000000000), Cond.methodLink RX6 57 yX6_isBeyond, Cond.instanceMethod yX6_isBeyond]
def wsX6_ticksUntilBeyond_r4 : List Cond := [Cond.selects RX6 yX6_isBeyond yX6_isBeyond, Cond.code yX6_isBeyond cX6_isBeyond 4 (some .boolean)]
def wsX6_ticksUntilBeyond : List Cond := .code yX6_ticksUntilBeyond cX6_ticksUntilBeyond 5 (some .int) :: ((wsX6_ticksUntilBeyond_r1 ++ (wsX6_ticksUntilBeyond_r2 ++ (wsX6_ticksUntilBeyond_r3 ++ wsX6_ticksUntilBeyond_r4))) ++ wsX60 ++ wsX40 ++ wsX50 ++ wsX70 ++ wsX80)
def wsX7_init : List Cond := .code yX7_init cX7_init 1 none :: ([.methodLink RX7 3 objectInit, .instanceMethod objectInit, .code objectInit ⟨#[0xb1]⟩ 1 none, .fieldLink RX7 9 "CoarseSteps$Scale" "over" "I", .fieldLink RX7 15 "CoarseSteps$Scale" "count" "I", .arrayClass .int, .fieldLink RX7 18 "CoarseSteps$Scale" "values" "[I"] ++ wsX70)
def wsX10_isWithin : List Cond := .code yX10_isWithin cX10_isWithin 2 (some .boolean) :: ([])
def wsX7_canTake : List Cond := .code yX7_canTake cX7_canTake 4 (some .boolean) :: ([.static yX10_isWithin, .initialized RX10, .code yX10_isWithin cX10_isWithin 2 (some .boolean)])
def wsX7_take : List Cond := .code yX7_take cX7_take 4 none :: ([.fieldLink RX7 15 "CoarseSteps$Scale" "count" "I", .fieldLink RX7 18 "CoarseSteps$Scale" "values" "[I"] ++ wsX70)
def wsX8_put : List Cond := .code yX8_put cX8_put 6 (some .boolean) :: ([.fieldLink RX8 9 "CoarseSteps$Tables" "sums" "I", .fieldLink RX8 15 "CoarseSteps$Tables" "a" "[I", .fieldLink RX8 19 "CoarseSteps$Tables" "b" "[I", .fieldLink RX8 22 "CoarseSteps$Tables" "e" "[I", .fieldLink RX8 25 "CoarseSteps$Tables" "h" "[I", .fieldLink RX8 28 "CoarseSteps$Tables" "g" "I"] ++ wsX80)
def wsX9_mostLessLeast : List Cond := .code yX9_mostLessLeast cX9_mostLessLeast 4 (some .int) :: ([.fieldLink RX9 15 "CoarseSteps$Wheel" "timesOn" "[I", .fieldLink RX9 19 "CoarseSteps$Wheel" "parts" "I", .methodLink RX9 32 Lib.Math.min.name, .static Lib.Math.min.name, .initialized "java/lang/Math", .code Lib.Math.min.name Lib.Math.min.code 2 (some .int), .methodLink RX9 38 Lib.Math.max.name, .static Lib.Math.max.name, .code Lib.Math.max.name Lib.Math.max.code 2 (some .int)] ++ wsX90)
def wsX10_init_r1 : List Cond := [Cond.methodLink RX10 1 objectInit, Cond.instanceMethod objectInit, Cond.code objectInit ⟨#[0xb1]⟩ 1 none, Cond.classLink RX10 7 RX7, Cond.instantiable RX7 3, Cond.initialized RX7, Cond.fieldLink RX10 10 "CoarseSteps" "scale" "LCoarseSteps$Scale;", Cond.classLink RX10 16 RX4, Cond.instantiable RX4 9, Cond.initialized RX4, Cond.fieldLink RX10 21 "CoarseSteps" "loop" "LCoarseSteps$Loop;", Cond.classLink RX10 25 RX6, Cond.instantiable RX6 4, Cond.initialized RX6, Cond.fieldLink RX10 30 "CoarseSteps" "outlook" "LCoarseSteps$Outlook;", Cond.classLink RX10 34 RX0, Cond.instantiable RX0 4, Cond.initialized RX0, Cond.fieldLink RX10 37 "CoarseSteps" "inside" "LCoarseSteps$Box;", Cond.classLink RX10 41 RX2, Cond.instantiable RX2 2, Cond.initialized RX2, Cond.fieldLink RX10 44 "CoarseSteps" "filter" "LCoarseSteps$Filter;", Cond.classLink RX10 48 RX1]
def wsX10_init_r2 : List Cond := [Cond.instantiable RX1 3, Cond.initialized RX1, Cond.fieldLink RX10 51 "CoarseSteps" "claim" "LCoarseSteps$Claim;", Cond.methodLink RX10 9 yX7_init, Cond.instanceMethod yX7_init, Cond.code yX7_init cX7_init 1 none, Cond.methodLink RX7 3 objectInit, Cond.fieldLink RX7 9 "CoarseSteps$Scale" "over" "I", Cond.fieldLink RX7 15 "CoarseSteps$Scale" "count" "I", Cond.arrayClass .int, Cond.fieldLink RX7 18 "CoarseSteps$Scale" "values" "[I", Cond.methodLink RX10 18 yX4_init, Cond.instanceMethod yX4_init, Cond.code yX4_init cX4_init 2 none, Cond.methodLink RX4 3 objectInit, Cond.classLink RX4 9 RX9, Cond.instantiable RX9 5, Cond.initialized RX9, Cond.fieldLink RX4 12 "CoarseSteps$Loop" "wheel" "LCoarseSteps$Wheel;", Cond.classLink RX4 18 RX3, Cond.instantiable RX3 6, Cond.initialized RX3, Cond.fieldLink RX4 21 "CoarseSteps$Loop" "history" "LCoarseSteps$History;", Cond.arrayClass .long]
def wsX10_init_r3 : List Cond := [Cond.fieldLink RX4 25 "CoarseSteps$Loop" "sums" "[J", Cond.classLink RX4 29 RX5, Cond.instantiable RX5 6, Cond.initialized RX5, Cond.fieldLink RX4 34 "CoarseSteps$Loop" "mover" "LCoarseSteps$Mover;", Cond.instanceMethod yX9_init, Cond.code yX9_init cX9_init 1 none, Cond.methodLink RX9 3 objectInit, Cond.arrayClass .boolean, Cond.fieldLink RX9 9 "CoarseSteps$Wheel" "isOn" "[Z", Cond.fieldLink RX9 15 "CoarseSteps$Wheel" "timesOn" "[I", Cond.instanceMethod yX3_init, Cond.code yX3_init cX3_init 1 none, Cond.methodLink RX3 3 objectInit, Cond.fieldLink RX3 9 "CoarseSteps$History" "wishes" "[I", Cond.fieldLink RX3 15 "CoarseSteps$History" "givens" "[I", Cond.fieldLink RX3 18 "CoarseSteps$History" "sums" "[J", Cond.fieldLink RX3 22 "CoarseSteps$History" "totals" "[I", Cond.methodLink RX4 31 yX5_init, Cond.instanceMethod yX5_init, Cond.code yX5_init cX5_init 2 none, Cond.methodLink RX5 3 objectInit, Cond.classLink RX5 9 RX8, Cond.instantiable RX8 6]
def wsX10_init_r4 : List Cond := [Cond.initialized RX8, Cond.fieldLink RX5 12 "CoarseSteps$Mover" "tables" "LCoarseSteps$Tables;", Cond.fieldLink RX5 18 "CoarseSteps$Mover" "coming" "[J", Cond.fieldLink RX5 22 "CoarseSteps$Mover" "picked" "[I", Cond.fieldLink RX5 26 "CoarseSteps$Mover" "kind" "I", Cond.fieldLink RX5 30 "CoarseSteps$Mover" "sums" "I", Cond.fieldLink RX5 33 "CoarseSteps$Mover" "scale" "LCoarseSteps$Scale;", Cond.instanceMethod yX8_init, Cond.code yX8_init cX8_init 1 none, Cond.methodLink RX8 3 objectInit, Cond.fieldLink RX8 9 "CoarseSteps$Tables" "sums" "I", Cond.fieldLink RX8 15 "CoarseSteps$Tables" "a" "[I", Cond.fieldLink RX8 19 "CoarseSteps$Tables" "b" "[I", Cond.fieldLink RX8 22 "CoarseSteps$Tables" "e" "[I", Cond.fieldLink RX8 25 "CoarseSteps$Tables" "h" "[I", Cond.methodLink RX10 27 yX6_init, Cond.instanceMethod yX6_init, Cond.code yX6_init cX6_init 2 none, Cond.methodLink RX6 3 objectInit, Cond.fieldLink RX6 9 "CoarseSteps$Outlook" "at" "[J", Cond.fieldLink RX6 15 "CoarseSteps$Outlook" "mark" "[J", Cond.fieldLink RX6 18 "CoarseSteps$Outlook" "loop" "LCoarseSteps$Loop;", Cond.instanceMethod yX0_init, Cond.code yX0_init cX0_init 1 none]
def wsX10_init_r5 : List Cond := [Cond.methodLink RX0 3 objectInit, Cond.fieldLink RX0 9 "CoarseSteps$Box" "least" "[J", Cond.fieldLink RX0 15 "CoarseSteps$Box" "most" "[J", Cond.fieldLink RX0 18 "CoarseSteps$Box" "place" "[J", Cond.fieldLink RX0 21 "CoarseSteps$Box" "at" "[J", Cond.instanceMethod yX2_init, Cond.code yX2_init cX2_init 1 none, Cond.methodLink RX2 3 objectInit, Cond.fieldLink RX2 9 "CoarseSteps$Filter" "weights" "[I", Cond.methodLink RX10 50 yX1_init, Cond.instanceMethod yX1_init, Cond.code yX1_init cX1_init 2 none, Cond.methodLink RX1 3 objectInit, Cond.fieldLink RX1 9 "CoarseSteps$Claim" "scale" "LCoarseSteps$Scale;"]
def wsX10_init : List Cond := .code yX10_init cX10_init 1 none :: ((wsX10_init_r1 ++ (wsX10_init_r2 ++ (wsX10_init_r3 ++ (wsX10_init_r4 ++ wsX10_init_r5)))) ++ wsX70 ++ wsX100 ++ wsX40 ++ wsX60 ++ wsX00 ++ wsX20 ++ wsX10 ++ wsX90 ++ wsX30 ++ wsX50 ++ wsX80)
def wsX10_over_r1 : List Cond := [Cond.fieldLink RX10 10 "CoarseSteps" "scale" "LCoarseSteps$Scale;", Cond.fieldLink RX10 21 "CoarseSteps" "loop" "LCoarseSteps$Loop;", Cond.methodLink RX10 59 yX4_beginAnew, Cond.instanceMethod yX4_beginAnew, Cond.selects RX4 yX4_beginAnew yX4_beginAnew, Cond.initialized RX4, Cond.code yX4_beginAnew cX4_beginAnew 2 none, Cond.fieldLink RX4 25 "CoarseSteps$Loop" "sums" "[J", Cond.fieldLink RX4 46 "CoarseSteps$Loop" "ticks" "I", Cond.fieldLink RX4 50 "CoarseSteps$Loop" "firstBeganWith" "J", Cond.fieldLink RX4 54 "CoarseSteps$Loop" "secondBefore" "I", Cond.fieldLink RX4 57 "CoarseSteps$Loop" "thirdBefore" "I", Cond.fieldLink RX4 60 "CoarseSteps$Loop" "thirdTwoBefore" "I", Cond.fieldLink RX4 12 "CoarseSteps$Loop" "wheel" "LCoarseSteps$Wheel;", Cond.fieldLink RX4 21 "CoarseSteps$Loop" "history" "LCoarseSteps$History;", Cond.methodLink RX4 63 yX9_beginAnew, Cond.instanceMethod yX9_beginAnew, Cond.selects RX9 yX9_beginAnew yX9_beginAnew, Cond.initialized RX9, Cond.code yX9_beginAnew cX9_beginAnew 2 none, Cond.fieldLink RX9 29 "CoarseSteps$Wheel" "hand" "I", Cond.fieldLink RX9 9 "CoarseSteps$Wheel" "isOn" "[Z", Cond.fieldLink RX9 15 "CoarseSteps$Wheel" "timesOn" "[I", Cond.methodLink RX4 64 yX3_forget]
def wsX10_over_r2 : List Cond := [Cond.instanceMethod yX3_forget, Cond.selects RX3 yX3_forget yX3_forget, Cond.initialized RX3, Cond.code yX3_forget cX3_forget 1 none, Cond.fieldLink RX3 25 "CoarseSteps$History" "next" "I", Cond.fieldLink RX3 29 "CoarseSteps$History" "kept" "I"]
def wsX10_over : List Cond := .code yX10_over cX10_over 2 (some .boolean) :: ((wsX10_over_r1 ++ wsX10_over_r2) ++ wsX100 ++ wsX70 ++ wsX40 ++ wsX90 ++ wsX30)
def wsX10_steps_r1 : List Cond := [Cond.arrayClass .int, Cond.fieldLink RX10 10 "CoarseSteps" "scale" "LCoarseSteps$Scale;", Cond.fieldLink RX10 21 "CoarseSteps" "loop" "LCoarseSteps$Loop;", Cond.methodLink RX10 62 yX7_canTake, Cond.instanceMethod yX7_canTake, Cond.selects RX7 yX7_canTake yX7_canTake, Cond.initialized RX7, Cond.code yX7_canTake cX7_canTake 4 (some .boolean), Cond.static yX10_isWithin, Cond.initialized RX10, Cond.code yX10_isWithin cX10_isWithin 2 (some .boolean), Cond.methodLink RX10 66 yX7_take, Cond.instanceMethod yX7_take, Cond.selects RX7 yX7_take yX7_take, Cond.code yX7_take cX7_take 4 none, Cond.fieldLink RX7 15 "CoarseSteps$Scale" "count" "I", Cond.fieldLink RX7 18 "CoarseSteps$Scale" "values" "[I", Cond.methodLink RX10 59 yX4_beginAnew, Cond.instanceMethod yX4_beginAnew, Cond.selects RX4 yX4_beginAnew yX4_beginAnew, Cond.initialized RX4, Cond.code yX4_beginAnew cX4_beginAnew 2 none, Cond.fieldLink RX4 25 "CoarseSteps$Loop" "sums" "[J", Cond.fieldLink RX4 46 "CoarseSteps$Loop" "ticks" "I"]
def wsX10_steps_r2 : List Cond := [Cond.fieldLink RX4 50 "CoarseSteps$Loop" "firstBeganWith" "J", Cond.fieldLink RX4 54 "CoarseSteps$Loop" "secondBefore" "I", Cond.fieldLink RX4 57 "CoarseSteps$Loop" "thirdBefore" "I", Cond.fieldLink RX4 60 "CoarseSteps$Loop" "thirdTwoBefore" "I", Cond.fieldLink RX4 12 "CoarseSteps$Loop" "wheel" "LCoarseSteps$Wheel;", Cond.fieldLink RX4 21 "CoarseSteps$Loop" "history" "LCoarseSteps$History;", Cond.methodLink RX4 63 yX9_beginAnew, Cond.instanceMethod yX9_beginAnew, Cond.selects RX9 yX9_beginAnew yX9_beginAnew, Cond.initialized RX9, Cond.code yX9_beginAnew cX9_beginAnew 2 none, Cond.fieldLink RX9 29 "CoarseSteps$Wheel" "hand" "I", Cond.fieldLink RX9 9 "CoarseSteps$Wheel" "isOn" "[Z", Cond.fieldLink RX9 15 "CoarseSteps$Wheel" "timesOn" "[I", Cond.methodLink RX4 64 yX3_forget, Cond.instanceMethod yX3_forget, Cond.selects RX3 yX3_forget yX3_forget, Cond.initialized RX3, Cond.code yX3_forget cX3_forget 1 none, Cond.fieldLink RX3 25 "CoarseSteps$History" "next" "I", Cond.fieldLink RX3 29 "CoarseSteps$History" "kept" "I"]
def wsX10_steps : List Cond := .code yX10_steps cX10_steps 11 (some .boolean) :: ((wsX10_steps_r1 ++ wsX10_steps_r2) ++ wsX100 ++ wsX70 ++ wsX40 ++ wsX90 ++ wsX30)
def wsX10_canLoop : List Cond := .code yX10_canLoop cX10_canLoop 3 (some .boolean) :: ([])
def wsX10_loop_r1 : List Cond := [Cond.fieldLink RX10 21 "CoarseSteps" "loop" "LCoarseSteps$Loop;", Cond.fieldLink RX10 37 "CoarseSteps" "inside" "LCoarseSteps$Box;", Cond.methodLink RX10 70 yX10_canLoop, Cond.static yX10_canLoop, Cond.initialized RX10, Cond.code yX10_canLoop cX10_canLoop 3 (some .boolean), Cond.methodLink RX10 83 yX4_begin, Cond.instanceMethod yX4_begin, Cond.selects RX4 yX4_begin yX4_begin, Cond.initialized RX4, Cond.code yX4_begin cX4_begin 4 none, Cond.fieldLink RX4 34 "CoarseSteps$Loop" "mover" "LCoarseSteps$Mover;", Cond.fieldLink RX4 12 "CoarseSteps$Loop" "wheel" "LCoarseSteps$Wheel;", Cond.methodLink RX4 38 yX5_begin, Cond.instanceMethod yX5_begin, Cond.selects RX5 yX5_begin yX5_begin, Cond.initialized RX5, Cond.code yX5_begin cX5_begin 3 none, Cond.fieldLink RX5 26 "CoarseSteps$Mover" "kind" "I", Cond.fieldLink RX5 30 "CoarseSteps$Mover" "sums" "I", Cond.fieldLink RX5 12 "CoarseSteps$Mover" "tables" "LCoarseSteps$Tables;", Cond.methodLink RX5 37 yX8_begin, Cond.instanceMethod yX8_begin, Cond.selects RX8 yX8_begin yX8_begin]
def wsX10_loop_r2 : List Cond := [Cond.initialized RX8, Cond.code yX8_begin cX8_begin 3 none, Cond.fieldLink RX8 9 "CoarseSteps$Tables" "sums" "I", Cond.fieldLink RX8 28 "CoarseSteps$Tables" "g" "I", Cond.fieldLink RX8 15 "CoarseSteps$Tables" "a" "[I", Cond.fieldLink RX8 19 "CoarseSteps$Tables" "b" "[I", Cond.fieldLink RX8 22 "CoarseSteps$Tables" "e" "[I", Cond.fieldLink RX8 25 "CoarseSteps$Tables" "h" "[I", Cond.methodLink RX4 42 yX9_begin, Cond.instanceMethod yX9_begin, Cond.selects RX9 yX9_begin yX9_begin, Cond.initialized RX9, Cond.code yX9_begin cX9_begin 3 none, Cond.fieldLink RX9 19 "CoarseSteps$Wheel" "parts" "I", Cond.fieldLink RX9 23 "CoarseSteps$Wheel" "rule" "I", Cond.methodLink RX9 26 yX9_beginAnew, Cond.instanceMethod yX9_beginAnew, Cond.selects RX9 yX9_beginAnew yX9_beginAnew, Cond.code yX9_beginAnew cX9_beginAnew 2 none, Cond.fieldLink RX9 29 "CoarseSteps$Wheel" "hand" "I", Cond.fieldLink RX9 9 "CoarseSteps$Wheel" "isOn" "[Z", Cond.fieldLink RX9 15 "CoarseSteps$Wheel" "timesOn" "[I", Cond.methodLink RX4 43 yX4_beginAnew, Cond.instanceMethod yX4_beginAnew]
def wsX10_loop_r3 : List Cond := [Cond.selects RX4 yX4_beginAnew yX4_beginAnew, Cond.code yX4_beginAnew cX4_beginAnew 2 none, Cond.fieldLink RX4 25 "CoarseSteps$Loop" "sums" "[J", Cond.fieldLink RX4 46 "CoarseSteps$Loop" "ticks" "I", Cond.fieldLink RX4 50 "CoarseSteps$Loop" "firstBeganWith" "J", Cond.fieldLink RX4 54 "CoarseSteps$Loop" "secondBefore" "I", Cond.fieldLink RX4 57 "CoarseSteps$Loop" "thirdBefore" "I", Cond.fieldLink RX4 60 "CoarseSteps$Loop" "thirdTwoBefore" "I", Cond.fieldLink RX4 21 "CoarseSteps$Loop" "history" "LCoarseSteps$History;", Cond.methodLink RX4 63 yX9_beginAnew, Cond.methodLink RX4 64 yX3_forget, Cond.instanceMethod yX3_forget, Cond.selects RX3 yX3_forget yX3_forget, Cond.initialized RX3, Cond.code yX3_forget cX3_forget 1 none, Cond.fieldLink RX3 25 "CoarseSteps$History" "next" "I", Cond.fieldLink RX3 29 "CoarseSteps$History" "kept" "I", Cond.methodLink RX10 87 yX0_empty, Cond.instanceMethod yX0_empty, Cond.selects RX0 yX0_empty yX0_empty, Cond.initialized RX0, Cond.code yX0_empty cX0_empty 2 none, Cond.fieldLink RX0 9 "CoarseSteps$Box" "least" "[J", Cond.fieldLink RX0 15 "CoarseSteps$Box" "most" "[J"]
def wsX10_loop : List Cond := .code yX10_loop cX10_loop 5 (some .boolean) :: ((wsX10_loop_r1 ++ (wsX10_loop_r2 ++ wsX10_loop_r3)) ++ wsX100 ++ wsX40 ++ wsX50 ++ wsX80 ++ wsX90 ++ wsX30 ++ wsX00)
def wsX10_table_r1 : List Cond := [Cond.fieldLink RX10 21 "CoarseSteps" "loop" "LCoarseSteps$Loop;", Cond.methodLink RX10 93 yX10_isWithin, Cond.static yX10_isWithin, Cond.initialized RX10, Cond.code yX10_isWithin cX10_isWithin 2 (some .boolean), Cond.methodLink RX10 101 yX8_put, Cond.instanceMethod yX8_put, Cond.selects RX8 yX8_put yX8_put, Cond.initialized RX8, Cond.code yX8_put cX8_put 6 (some .boolean), Cond.fieldLink RX8 9 "CoarseSteps$Tables" "sums" "I", Cond.fieldLink RX8 15 "CoarseSteps$Tables" "a" "[I", Cond.fieldLink RX8 19 "CoarseSteps$Tables" "b" "[I", Cond.fieldLink RX8 22 "CoarseSteps$Tables" "e" "[I", Cond.fieldLink RX8 25 "CoarseSteps$Tables" "h" "[I", Cond.fieldLink RX8 28 "CoarseSteps$Tables" "g" "I", Cond.methodLink RX10 59 yX4_beginAnew, Cond.instanceMethod yX4_beginAnew, Cond.selects RX4 yX4_beginAnew yX4_beginAnew, Cond.initialized RX4, Cond.code yX4_beginAnew cX4_beginAnew 2 none, Cond.fieldLink RX4 25 "CoarseSteps$Loop" "sums" "[J", Cond.fieldLink RX4 46 "CoarseSteps$Loop" "ticks" "I", Cond.fieldLink RX4 50 "CoarseSteps$Loop" "firstBeganWith" "J"]
def wsX10_table_r2 : List Cond := [Cond.fieldLink RX4 54 "CoarseSteps$Loop" "secondBefore" "I", Cond.fieldLink RX4 57 "CoarseSteps$Loop" "thirdBefore" "I", Cond.fieldLink RX4 60 "CoarseSteps$Loop" "thirdTwoBefore" "I", Cond.fieldLink RX4 12 "CoarseSteps$Loop" "wheel" "LCoarseSteps$Wheel;", Cond.fieldLink RX4 21 "CoarseSteps$Loop" "history" "LCoarseSteps$History;", Cond.methodLink RX4 63 yX9_beginAnew, Cond.instanceMethod yX9_beginAnew, Cond.selects RX9 yX9_beginAnew yX9_beginAnew, Cond.initialized RX9, Cond.code yX9_beginAnew cX9_beginAnew 2 none, Cond.fieldLink RX9 29 "CoarseSteps$Wheel" "hand" "I", Cond.fieldLink RX9 9 "CoarseSteps$Wheel" "isOn" "[Z", Cond.fieldLink RX9 15 "CoarseSteps$Wheel" "timesOn" "[I", Cond.methodLink RX4 64 yX3_forget, Cond.instanceMethod yX3_forget, Cond.selects RX3 yX3_forget yX3_forget, Cond.initialized RX3, Cond.code yX3_forget cX3_forget 1 none, Cond.fieldLink RX3 25 "CoarseSteps$History" "next" "I", Cond.fieldLink RX3 29 "CoarseSteps$History" "kept" "I"]
def wsX10_table : List Cond := .code yX10_table cX10_table 4 (some .boolean) :: ((wsX10_table_r1 ++ wsX10_table_r2) ++ wsX100 ++ wsX40 ++ wsX50 ++ wsX80 ++ wsX90 ++ wsX30)
def wsX10_start : List Cond := .code yX10_start cX10_start 4 (some .boolean) :: ([.fieldLink RX10 21 "CoarseSteps" "loop" "LCoarseSteps$Loop;", .methodLink RX10 106 yX5_hasSum, .instanceMethod yX5_hasSum, .selects RX5 yX5_hasSum yX5_hasSum, .initialized RX5, .code yX5_hasSum cX5_hasSum 2 (some .boolean), .fieldLink RX5 30 "CoarseSteps$Mover" "sums" "I", .methodLink RX10 110 yX10_isSum, .static yX10_isSum, .initialized RX10, .code yX10_isSum cX10_isSum 2 (some .boolean), .constantLong RX10 247 (-1000000000000), .constantLong RX10 249 (1000000000000), .methodLink RX10 117 yX4_startAt, .instanceMethod yX4_startAt, .selects RX4 yX4_startAt yX4_startAt, .initialized RX4, .code yX4_startAt cX4_startAt 4 none, .fieldLink RX4 25 "CoarseSteps$Loop" "sums" "[J", .fieldLink RX4 50 "CoarseSteps$Loop" "firstBeganWith" "J"] ++ wsX100 ++ wsX40 ++ wsX50)
def wsX10_isWish : List Cond := .code yX10_isWish cX10_isWish 1 (some .boolean) :: ([.constant RX10 176 (1000000), .methodLink RX10 93 yX10_isWithin, .static yX10_isWithin, .initialized RX10, .code yX10_isWithin cX10_isWithin 2 (some .boolean)])
def wsX10_tick_r1 : List Cond := [Cond.fieldLink RX10 21 "CoarseSteps" "loop" "LCoarseSteps$Loop;", Cond.constant RX10 128 (-2147483648), Cond.methodLink RX10 121 yX10_isWish, Cond.static yX10_isWish, Cond.initialized RX10, Cond.code yX10_isWish cX10_isWish 1 (some .boolean), Cond.constant RX10 176 (1000000), Cond.methodLink RX10 93 yX10_isWithin, Cond.static yX10_isWithin, Cond.code yX10_isWithin cX10_isWithin 2 (some .boolean), Cond.methodLink RX10 124 yX4_turn, Cond.instanceMethod yX4_turn, Cond.selects RX4 yX4_turn yX4_turn, Cond.initialized RX4, Cond.code yX4_turn cX4_turn 3 (some .int), Cond.fieldLink RX4 34 "CoarseSteps$Loop" "mover" "LCoarseSteps$Mover;", Cond.fieldLink RX4 25 "CoarseSteps$Loop" "sums" "[J", Cond.constant RX4 71 (-2147483648), Cond.fieldLink RX4 46 "CoarseSteps$Loop" "ticks" "I", Cond.fieldLink RX4 21 "CoarseSteps$Loop" "history" "LCoarseSteps$History;", Cond.fieldLink RX4 12 "CoarseSteps$Loop" "wheel" "LCoarseSteps$Wheel;", Cond.methodLink RX4 67 yX5_advance, Cond.instanceMethod yX5_advance, Cond.selects RX5 yX5_advance yX5_advance]
def wsX10_tick_r2 : List Cond := [Cond.initialized RX5, Cond.code yX5_advance cX5_advance 3 (some .boolean), Cond.fieldLink RX5 26 "CoarseSteps$Mover" "kind" "I", Cond.methodLink RX5 41 yX5_reckonTwo, Cond.instanceMethod yX5_reckonTwo, Cond.selects RX5 yX5_reckonTwo yX5_reckonTwo, Cond.code yX5_reckonTwo cX5_reckonTwo 3 none, Cond.fieldLink RX5 18 "CoarseSteps$Mover" "coming" "[J", Cond.constantLong RX5 59 (2), Cond.methodLink RX5 61 yX5_takeStep, Cond.instanceMethod yX5_takeStep, Cond.selects RX5 yX5_takeStep yX5_takeStep, Cond.code yX5_takeStep cX5_takeStep 5 (some .long), Cond.fieldLink RX5 33 "CoarseSteps$Mover" "scale" "LCoarseSteps$Scale;", Cond.fieldLink RX5 22 "CoarseSteps$Mover" "picked" "[I", Cond.methodLink RX5 73 yX7_placeFor, Cond.instanceMethod yX7_placeFor, Cond.selects RX7 yX7_placeFor yX7_placeFor, Cond.initialized RX7, Cond.code yX7_placeFor cX7_placeFor 4 (some .int), Cond.fieldLink RX7 15 "CoarseSteps$Scale" "count" "I", Cond.fieldLink RX7 18 "CoarseSteps$Scale" "values" "[I", Cond.fieldLink RX7 9 "CoarseSteps$Scale" "over" "I", Cond.methodLink RX5 82 yX7_fineAt]
def wsX10_tick_r3 : List Cond := [Cond.instanceMethod yX7_fineAt, Cond.selects RX7 yX7_fineAt yX7_fineAt, Cond.code yX7_fineAt cX7_fineAt 2 (some .long), Cond.methodLink RX5 45 yX5_reckonTables, Cond.instanceMethod yX5_reckonTables, Cond.selects RX5 yX5_reckonTables yX5_reckonTables, Cond.code yX5_reckonTables cX5_reckonTables 8 none, Cond.fieldLink RX5 12 "CoarseSteps$Mover" "tables" "LCoarseSteps$Tables;", Cond.fieldLink RX5 30 "CoarseSteps$Mover" "sums" "I", Cond.methodLink RX5 65 yX8_measure, Cond.instanceMethod yX8_measure, Cond.selects RX8 yX8_measure yX8_measure, Cond.initialized RX8, Cond.code yX8_measure cX8_measure 6 (some .long), Cond.fieldLink RX8 28 "CoarseSteps$Tables" "g" "I", Cond.fieldLink RX8 9 "CoarseSteps$Tables" "sums" "I", Cond.fieldLink RX8 25 "CoarseSteps$Tables" "h" "[I", Cond.methodLink RX5 69 yX8_next, Cond.instanceMethod yX8_next, Cond.selects RX8 yX8_next yX8_next, Cond.code yX8_next cX8_next 9 (some .long), Cond.fieldLink RX8 19 "CoarseSteps$Tables" "b" "[I", Cond.fieldLink RX8 22 "CoarseSteps$Tables" "e" "[I", Cond.fieldLink RX8 15 "CoarseSteps$Tables" "a" "[I"]
def wsX10_tick_r4 : List Cond := [Cond.methodLink RX5 48 yX5_reckonRow, Cond.instanceMethod yX5_reckonRow, Cond.selects RX5 yX5_reckonRow yX5_reckonRow, Cond.code yX5_reckonRow cX5_reckonRow 6 none, Cond.methodLink RX5 51 yX5_settle, Cond.instanceMethod yX5_settle, Cond.selects RX5 yX5_settle yX5_settle, Cond.code yX5_settle cX5_settle 3 (some .boolean), Cond.static yX10_isSum, Cond.code yX10_isSum cX10_isSum 2 (some .boolean), Cond.constantLong RX10 247 (-1000000000000), Cond.constantLong RX10 249 (1000000000000), Cond.methodLink RX4 75 yX4_giveOfRow, Cond.instanceMethod yX4_giveOfRow, Cond.selects RX4 yX4_giveOfRow yX4_giveOfRow, Cond.code yX4_giveOfRow cX4_giveOfRow 4 (some .int), Cond.fieldLink RX4 54 "CoarseSteps$Loop" "secondBefore" "I", Cond.fieldLink RX4 57 "CoarseSteps$Loop" "thirdBefore" "I", Cond.fieldLink RX4 60 "CoarseSteps$Loop" "thirdTwoBefore" "I", Cond.methodLink RX4 83 yX3_note, Cond.instanceMethod yX3_note, Cond.selects RX3 yX3_note yX3_note, Cond.initialized RX3, Cond.code yX3_note cX3_note 5 none]
def wsX10_tick_r5 : List Cond := [Cond.fieldLink RX3 9 "CoarseSteps$History" "wishes" "[I", Cond.fieldLink RX3 25 "CoarseSteps$History" "next" "I", Cond.fieldLink RX3 15 "CoarseSteps$History" "givens" "[I", Cond.fieldLink RX3 18 "CoarseSteps$History" "sums" "[J", Cond.fieldLink RX3 29 "CoarseSteps$History" "kept" "I", Cond.methodLink RX3 32 Lib.Math.min.name, Cond.static Lib.Math.min.name, Cond.initialized "java/lang/Math", Cond.code Lib.Math.min.name Lib.Math.min.code 2 (some .int), Cond.methodLink RX4 87 yX9_turn, Cond.instanceMethod yX9_turn, Cond.selects RX9 yX9_turn yX9_turn, Cond.initialized RX9, Cond.code yX9_turn cX9_turn 4 none, Cond.fieldLink RX9 19 "CoarseSteps$Wheel" "parts" "I", Cond.methodLink RX9 32 Lib.Math.min.name, Cond.methodLink RX9 38 Lib.Math.max.name, Cond.static Lib.Math.max.name, Cond.code Lib.Math.max.name Lib.Math.max.code 2 (some .int), Cond.fieldLink RX9 9 "CoarseSteps$Wheel" "isOn" "[Z", Cond.fieldLink RX9 23 "CoarseSteps$Wheel" "rule" "I", Cond.methodLink RX9 41 yX9_nextByHand, Cond.instanceMethod yX9_nextByHand, Cond.selects RX9 yX9_nextByHand yX9_nextByHand]
def wsX10_tick_r6 : List Cond := [Cond.code yX9_nextByHand cX9_nextByHand 2 (some .int), Cond.fieldLink RX9 29 "CoarseSteps$Wheel" "hand" "I", Cond.methodLink RX9 45 yX9_leastOftenOn, Cond.instanceMethod yX9_leastOftenOn, Cond.selects RX9 yX9_leastOftenOn yX9_leastOftenOn, Cond.code yX9_leastOftenOn cX9_leastOftenOn 3 (some .int), Cond.fieldLink RX9 15 "CoarseSteps$Wheel" "timesOn" "[I", Cond.methodLink RX9 48 yX9_switchOn, Cond.instanceMethod yX9_switchOn, Cond.selects RX9 yX9_switchOn yX9_switchOn, Cond.code yX9_switchOn cX9_switchOn 2 none]
def wsX10_tick : List Cond := .code yX10_tick cX10_tick 2 (some .int) :: ((wsX10_tick_r1 ++ (wsX10_tick_r2 ++ (wsX10_tick_r3 ++ (wsX10_tick_r4 ++ (wsX10_tick_r5 ++ wsX10_tick_r6))))) ++ wsX100 ++ wsX40 ++ wsX50 ++ wsX70 ++ wsX80 ++ wsX30 ++ wsX90)
def wsX10_run_r1 : List Cond := [Cond.fieldLink RX10 21 "CoarseSteps" "loop" "LCoarseSteps$Loop;", Cond.constant RX10 128 (-2147483648), Cond.methodLink RX10 121 yX10_isWish, Cond.static yX10_isWish, Cond.initialized RX10, Cond.code yX10_isWish cX10_isWish 1 (some .boolean), Cond.constant RX10 176 (1000000), Cond.methodLink RX10 93 yX10_isWithin, Cond.static yX10_isWithin, Cond.code yX10_isWithin cX10_isWithin 2 (some .boolean), Cond.methodLink RX10 124 yX4_turn, Cond.instanceMethod yX4_turn, Cond.selects RX4 yX4_turn yX4_turn, Cond.initialized RX4, Cond.code yX4_turn cX4_turn 3 (some .int), Cond.fieldLink RX4 34 "CoarseSteps$Loop" "mover" "LCoarseSteps$Mover;", Cond.fieldLink RX4 25 "CoarseSteps$Loop" "sums" "[J", Cond.constant RX4 71 (-2147483648), Cond.fieldLink RX4 46 "CoarseSteps$Loop" "ticks" "I", Cond.fieldLink RX4 21 "CoarseSteps$Loop" "history" "LCoarseSteps$History;", Cond.fieldLink RX4 12 "CoarseSteps$Loop" "wheel" "LCoarseSteps$Wheel;", Cond.methodLink RX4 67 yX5_advance, Cond.instanceMethod yX5_advance, Cond.selects RX5 yX5_advance yX5_advance]
def wsX10_run_r2 : List Cond := [Cond.initialized RX5, Cond.code yX5_advance cX5_advance 3 (some .boolean), Cond.fieldLink RX5 26 "CoarseSteps$Mover" "kind" "I", Cond.methodLink RX5 41 yX5_reckonTwo, Cond.instanceMethod yX5_reckonTwo, Cond.selects RX5 yX5_reckonTwo yX5_reckonTwo, Cond.code yX5_reckonTwo cX5_reckonTwo 3 none, Cond.fieldLink RX5 18 "CoarseSteps$Mover" "coming" "[J", Cond.constantLong RX5 59 (2), Cond.methodLink RX5 61 yX5_takeStep, Cond.instanceMethod yX5_takeStep, Cond.selects RX5 yX5_takeStep yX5_takeStep, Cond.code yX5_takeStep cX5_takeStep 5 (some .long), Cond.fieldLink RX5 33 "CoarseSteps$Mover" "scale" "LCoarseSteps$Scale;", Cond.fieldLink RX5 22 "CoarseSteps$Mover" "picked" "[I", Cond.methodLink RX5 73 yX7_placeFor, Cond.instanceMethod yX7_placeFor, Cond.selects RX7 yX7_placeFor yX7_placeFor, Cond.initialized RX7, Cond.code yX7_placeFor cX7_placeFor 4 (some .int), Cond.fieldLink RX7 15 "CoarseSteps$Scale" "count" "I", Cond.fieldLink RX7 18 "CoarseSteps$Scale" "values" "[I", Cond.fieldLink RX7 9 "CoarseSteps$Scale" "over" "I", Cond.methodLink RX5 82 yX7_fineAt]
def wsX10_run_r3 : List Cond := [Cond.instanceMethod yX7_fineAt, Cond.selects RX7 yX7_fineAt yX7_fineAt, Cond.code yX7_fineAt cX7_fineAt 2 (some .long), Cond.methodLink RX5 45 yX5_reckonTables, Cond.instanceMethod yX5_reckonTables, Cond.selects RX5 yX5_reckonTables yX5_reckonTables, Cond.code yX5_reckonTables cX5_reckonTables 8 none, Cond.fieldLink RX5 12 "CoarseSteps$Mover" "tables" "LCoarseSteps$Tables;", Cond.fieldLink RX5 30 "CoarseSteps$Mover" "sums" "I", Cond.methodLink RX5 65 yX8_measure, Cond.instanceMethod yX8_measure, Cond.selects RX8 yX8_measure yX8_measure, Cond.initialized RX8, Cond.code yX8_measure cX8_measure 6 (some .long), Cond.fieldLink RX8 28 "CoarseSteps$Tables" "g" "I", Cond.fieldLink RX8 9 "CoarseSteps$Tables" "sums" "I", Cond.fieldLink RX8 25 "CoarseSteps$Tables" "h" "[I", Cond.methodLink RX5 69 yX8_next, Cond.instanceMethod yX8_next, Cond.selects RX8 yX8_next yX8_next, Cond.code yX8_next cX8_next 9 (some .long), Cond.fieldLink RX8 19 "CoarseSteps$Tables" "b" "[I", Cond.fieldLink RX8 22 "CoarseSteps$Tables" "e" "[I", Cond.fieldLink RX8 15 "CoarseSteps$Tables" "a" "[I"]
def wsX10_run_r4 : List Cond := [Cond.methodLink RX5 48 yX5_reckonRow, Cond.instanceMethod yX5_reckonRow, Cond.selects RX5 yX5_reckonRow yX5_reckonRow, Cond.code yX5_reckonRow cX5_reckonRow 6 none, Cond.methodLink RX5 51 yX5_settle, Cond.instanceMethod yX5_settle, Cond.selects RX5 yX5_settle yX5_settle, Cond.code yX5_settle cX5_settle 3 (some .boolean), Cond.static yX10_isSum, Cond.code yX10_isSum cX10_isSum 2 (some .boolean), Cond.constantLong RX10 247 (-1000000000000), Cond.constantLong RX10 249 (1000000000000), Cond.methodLink RX4 75 yX4_giveOfRow, Cond.instanceMethod yX4_giveOfRow, Cond.selects RX4 yX4_giveOfRow yX4_giveOfRow, Cond.code yX4_giveOfRow cX4_giveOfRow 4 (some .int), Cond.fieldLink RX4 54 "CoarseSteps$Loop" "secondBefore" "I", Cond.fieldLink RX4 57 "CoarseSteps$Loop" "thirdBefore" "I", Cond.fieldLink RX4 60 "CoarseSteps$Loop" "thirdTwoBefore" "I", Cond.methodLink RX4 83 yX3_note, Cond.instanceMethod yX3_note, Cond.selects RX3 yX3_note yX3_note, Cond.initialized RX3, Cond.code yX3_note cX3_note 5 none]
def wsX10_run_r5 : List Cond := [Cond.fieldLink RX3 9 "CoarseSteps$History" "wishes" "[I", Cond.fieldLink RX3 25 "CoarseSteps$History" "next" "I", Cond.fieldLink RX3 15 "CoarseSteps$History" "givens" "[I", Cond.fieldLink RX3 18 "CoarseSteps$History" "sums" "[J", Cond.fieldLink RX3 29 "CoarseSteps$History" "kept" "I", Cond.methodLink RX3 32 Lib.Math.min.name, Cond.static Lib.Math.min.name, Cond.initialized "java/lang/Math", Cond.code Lib.Math.min.name Lib.Math.min.code 2 (some .int), Cond.methodLink RX4 87 yX9_turn, Cond.instanceMethod yX9_turn, Cond.selects RX9 yX9_turn yX9_turn, Cond.initialized RX9, Cond.code yX9_turn cX9_turn 4 none, Cond.fieldLink RX9 19 "CoarseSteps$Wheel" "parts" "I", Cond.methodLink RX9 32 Lib.Math.min.name, Cond.methodLink RX9 38 Lib.Math.max.name, Cond.static Lib.Math.max.name, Cond.code Lib.Math.max.name Lib.Math.max.code 2 (some .int), Cond.fieldLink RX9 9 "CoarseSteps$Wheel" "isOn" "[Z", Cond.fieldLink RX9 23 "CoarseSteps$Wheel" "rule" "I", Cond.methodLink RX9 41 yX9_nextByHand, Cond.instanceMethod yX9_nextByHand, Cond.selects RX9 yX9_nextByHand yX9_nextByHand]
def wsX10_run_r6 : List Cond := [Cond.code yX9_nextByHand cX9_nextByHand 2 (some .int), Cond.fieldLink RX9 29 "CoarseSteps$Wheel" "hand" "I", Cond.methodLink RX9 45 yX9_leastOftenOn, Cond.instanceMethod yX9_leastOftenOn, Cond.selects RX9 yX9_leastOftenOn yX9_leastOftenOn, Cond.code yX9_leastOftenOn cX9_leastOftenOn 3 (some .int), Cond.fieldLink RX9 15 "CoarseSteps$Wheel" "timesOn" "[I", Cond.methodLink RX9 48 yX9_switchOn, Cond.instanceMethod yX9_switchOn, Cond.selects RX9 yX9_switchOn yX9_switchOn, Cond.code yX9_switchOn cX9_switchOn 2 none]
def wsX10_run : List Cond := .code yX10_run cX10_run 4 (some .int) :: ((wsX10_run_r1 ++ (wsX10_run_r2 ++ (wsX10_run_r3 ++ (wsX10_run_r4 ++ (wsX10_run_r5 ++ wsX10_run_r6))))) ++ wsX100 ++ wsX40 ++ wsX50 ++ wsX70 ++ wsX80 ++ wsX30 ++ wsX90)
def wsX10_sum : List Cond := .code yX10_sum cX10_sum 2 (some .long) :: ([.fieldLink RX10 21 "CoarseSteps" "loop" "LCoarseSteps$Loop;", .methodLink RX10 106 yX5_hasSum, .instanceMethod yX5_hasSum, .selects RX5 yX5_hasSum yX5_hasSum, .initialized RX5, .code yX5_hasSum cX5_hasSum 2 (some .boolean), .fieldLink RX5 30 "CoarseSteps$Mover" "sums" "I"] ++ wsX100 ++ wsX40 ++ wsX50)
def wsX10_was : List Cond := .code yX10_was cX10_was 3 (some .int) :: ([.fieldLink RX10 21 "CoarseSteps" "loop" "LCoarseSteps$Loop;", .constant RX10 128 (-2147483648), .methodLink RX10 136 yX3_holds, .instanceMethod yX3_holds, .selects RX3 yX3_holds yX3_holds, .initialized RX3, .code yX3_holds cX3_holds 2 (some .boolean), .fieldLink RX3 29 "CoarseSteps$History" "kept" "I", .methodLink RX10 141 yX3_givenAt, .instanceMethod yX3_givenAt, .selects RX3 yX3_givenAt yX3_givenAt, .code yX3_givenAt cX3_givenAt 2 (some .int), .fieldLink RX3 15 "CoarseSteps$History" "givens" "[I", .fieldLink RX3 25 "CoarseSteps$History" "next" "I", .methodLink RX10 144 yX3_wishAt, .instanceMethod yX3_wishAt, .selects RX3 yX3_wishAt yX3_wishAt, .code yX3_wishAt cX3_wishAt 2 (some .int), .fieldLink RX3 9 "CoarseSteps$History" "wishes" "[I"] ++ wsX100 ++ wsX40 ++ wsX30)
def wsX10_behind : List Cond := .code yX10_behind cX10_behind 2 (some .long) :: ([.fieldLink RX10 21 "CoarseSteps" "loop" "LCoarseSteps$Loop;", .methodLink RX10 136 yX3_holds, .instanceMethod yX3_holds, .selects RX3 yX3_holds yX3_holds, .initialized RX3, .code yX3_holds cX3_holds 2 (some .boolean), .fieldLink RX3 29 "CoarseSteps$History" "kept" "I", .methodLink RX10 147 yX3_sumAt, .instanceMethod yX3_sumAt, .selects RX3 yX3_sumAt yX3_sumAt, .code yX3_sumAt cX3_sumAt 2 (some .long), .fieldLink RX3 18 "CoarseSteps$History" "sums" "[J", .fieldLink RX3 25 "CoarseSteps$History" "next" "I"] ++ wsX100 ++ wsX40 ++ wsX30)
def wsX10_missed : List Cond := .code yX10_missed cX10_missed 2 (some .long) :: ([.fieldLink RX10 21 "CoarseSteps" "loop" "LCoarseSteps$Loop;", .fieldLink RX10 10 "CoarseSteps" "scale" "LCoarseSteps$Scale;", .methodLink RX10 151 yX3_holdsLast, .instanceMethod yX3_holdsLast, .selects RX3 yX3_holdsLast yX3_holdsLast, .initialized RX3, .code yX3_holdsLast cX3_holdsLast 2 (some .boolean), .fieldLink RX3 29 "CoarseSteps$History" "kept" "I", .methodLink RX10 154 yX3_missedIn, .instanceMethod yX3_missedIn, .selects RX3 yX3_missedIn yX3_missedIn, .code yX3_missedIn cX3_missedIn 6 (some .long), .methodLink RX3 38 yX3_givenAt, .instanceMethod yX3_givenAt, .selects RX3 yX3_givenAt yX3_givenAt, .code yX3_givenAt cX3_givenAt 2 (some .int), .fieldLink RX3 15 "CoarseSteps$History" "givens" "[I", .fieldLink RX3 25 "CoarseSteps$History" "next" "I", .methodLink RX3 42 yX3_wishAt, .instanceMethod yX3_wishAt, .selects RX3 yX3_wishAt yX3_wishAt, .code yX3_wishAt cX3_wishAt 2 (some .int), .fieldLink RX3 9 "CoarseSteps$History" "wishes" "[I"] ++ wsX100 ++ wsX40 ++ wsX70 ++ wsX30)
def wsX10_ring_r1 : List Cond := [Cond.fieldLink RX10 30 "CoarseSteps" "outlook" "LCoarseSteps$Outlook;", Cond.methodLink RX10 121 yX10_isWish, Cond.static yX10_isWish, Cond.initialized RX10, Cond.code yX10_isWish cX10_isWish 1 (some .boolean), Cond.constant RX10 176 (1000000), Cond.methodLink RX10 93 yX10_isWithin, Cond.static yX10_isWithin, Cond.code yX10_isWithin cX10_isWithin 2 (some .boolean), Cond.methodLink RX10 158 yX6_findRing, Cond.instanceMethod yX6_findRing, Cond.selects RX6 yX6_findRing yX6_findRing, Cond.initialized RX6, Cond.code yX6_findRing cX6_findRing 4 (some .int), Cond.fieldLink RX6 30 "CoarseSteps$Outlook" "toldTail" "I", Cond.methodLink RX6 22 yX6_findBeat, Cond.instanceMethod yX6_findBeat, Cond.selects RX6 yX6_findBeat yX6_findBeat, Cond.code yX6_findBeat cX6_findBeat 5 (some .int), Cond.fieldLink RX6 18 "CoarseSteps$Outlook" "loop" "LCoarseSteps$Loop;", Cond.fieldLink RX6 9 "CoarseSteps$Outlook" "at" "[J", Cond.fieldLink RX6 15 "CoarseSteps$Outlook" "mark" "[J", Cond.methodLink RX6 39 yX6_copy, Cond.static yX6_copy]
def wsX10_ring_r2 : List Cond := [Cond.code yX6_copy cX6_copy 3 none, Cond.methodLink RX6 47 yX5_advance, Cond.instanceMethod yX5_advance, Cond.selects RX5 yX5_advance yX5_advance, Cond.initialized RX5, Cond.code yX5_advance cX5_advance 3 (some .boolean), Cond.fieldLink RX5 26 "CoarseSteps$Mover" "kind" "I", Cond.methodLink RX5 41 yX5_reckonTwo, Cond.instanceMethod yX5_reckonTwo, Cond.selects RX5 yX5_reckonTwo yX5_reckonTwo, Cond.code yX5_reckonTwo cX5_reckonTwo 3 none, Cond.fieldLink RX5 18 "CoarseSteps$Mover" "coming" "[J", Cond.constantLong RX5 59 (2), Cond.methodLink RX5 61 yX5_takeStep, Cond.instanceMethod yX5_takeStep, Cond.selects RX5 yX5_takeStep yX5_takeStep, Cond.code yX5_takeStep cX5_takeStep 5 (some .long), Cond.fieldLink RX5 33 "CoarseSteps$Mover" "scale" "LCoarseSteps$Scale;", Cond.fieldLink RX5 22 "CoarseSteps$Mover" "picked" "[I", Cond.methodLink RX5 73 yX7_placeFor, Cond.instanceMethod yX7_placeFor, Cond.selects RX7 yX7_placeFor yX7_placeFor, Cond.initialized RX7, Cond.code yX7_placeFor cX7_placeFor 4 (some .int)]
def wsX10_ring_r3 : List Cond := [Cond.fieldLink RX7 15 "CoarseSteps$Scale" "count" "I", Cond.fieldLink RX7 18 "CoarseSteps$Scale" "values" "[I", Cond.fieldLink RX7 9 "CoarseSteps$Scale" "over" "I", Cond.methodLink RX5 82 yX7_fineAt, Cond.instanceMethod yX7_fineAt, Cond.selects RX7 yX7_fineAt yX7_fineAt, Cond.code yX7_fineAt cX7_fineAt 2 (some .long), Cond.methodLink RX5 45 yX5_reckonTables, Cond.instanceMethod yX5_reckonTables, Cond.selects RX5 yX5_reckonTables yX5_reckonTables, Cond.code yX5_reckonTables cX5_reckonTables 8 none, Cond.fieldLink RX5 12 "CoarseSteps$Mover" "tables" "LCoarseSteps$Tables;", Cond.fieldLink RX5 30 "CoarseSteps$Mover" "sums" "I", Cond.methodLink RX5 65 yX8_measure, Cond.instanceMethod yX8_measure, Cond.selects RX8 yX8_measure yX8_measure, Cond.initialized RX8, Cond.code yX8_measure cX8_measure 6 (some .long), Cond.fieldLink RX8 28 "CoarseSteps$Tables" "g" "I", Cond.fieldLink RX8 9 "CoarseSteps$Tables" "sums" "I", Cond.fieldLink RX8 25 "CoarseSteps$Tables" "h" "[I", Cond.methodLink RX5 69 yX8_next, Cond.instanceMethod yX8_next, Cond.selects RX8 yX8_next yX8_next]
def wsX10_ring_r4 : List Cond := [Cond.code yX8_next cX8_next 9 (some .long), Cond.fieldLink RX8 19 "CoarseSteps$Tables" "b" "[I", Cond.fieldLink RX8 22 "CoarseSteps$Tables" "e" "[I", Cond.fieldLink RX8 15 "CoarseSteps$Tables" "a" "[I", Cond.methodLink RX5 48 yX5_reckonRow, Cond.instanceMethod yX5_reckonRow, Cond.selects RX5 yX5_reckonRow yX5_reckonRow, Cond.code yX5_reckonRow cX5_reckonRow 6 none, Cond.methodLink RX5 51 yX5_settle, Cond.instanceMethod yX5_settle, Cond.selects RX5 yX5_settle yX5_settle, Cond.code yX5_settle cX5_settle 3 (some .boolean), Cond.static yX10_isSum, Cond.code yX10_isSum cX10_isSum 2 (some .boolean), Cond.constantLong RX10 247 (-1000000000000), Cond.constantLong RX10 249 (1000000000000), Cond.methodLink RX6 53 yX6_isSame, Cond.instanceMethod yX6_isSame, Cond.selects RX6 yX6_isSame yX6_isSame, Cond.code yX6_isSame cX6_isSame 4 (some .boolean), Cond.methodLink RX6 26 yX6_findTail, Cond.instanceMethod yX6_findTail, Cond.selects RX6 yX6_findTail yX6_findTail, Cond.code yX6_findTail cX6_findTail 4 (some .int)]
def wsX10_ring : List Cond := .code yX10_ring cX10_ring 2 (some .int) :: ((wsX10_ring_r1 ++ (wsX10_ring_r2 ++ (wsX10_ring_r3 ++ wsX10_ring_r4))) ++ wsX100 ++ wsX60 ++ wsX40 ++ wsX50 ++ wsX70 ++ wsX80)
def wsX10_tail : List Cond := .code yX10_tail cX10_tail 1 (some .int) :: ([.fieldLink RX10 30 "CoarseSteps" "outlook" "LCoarseSteps$Outlook;"] ++ wsX100 ++ wsX60)
def wsX10_leaves_r1 : List Cond := [Cond.fieldLink RX10 30 "CoarseSteps" "outlook" "LCoarseSteps$Outlook;", Cond.methodLink RX10 121 yX10_isWish, Cond.static yX10_isWish, Cond.initialized RX10, Cond.code yX10_isWish cX10_isWish 1 (some .boolean), Cond.constant RX10 176 (1000000), Cond.methodLink RX10 93 yX10_isWithin, Cond.static yX10_isWithin, Cond.code yX10_isWithin cX10_isWithin 2 (some .boolean), Cond.methodLink RX10 164 yX6_ticksUntilBeyond, Cond.instanceMethod yX6_ticksUntilBeyond, Cond.selects RX6 yX6_ticksUntilBeyond yX6_ticksUntilBeyond, Cond.initialized RX6, Cond.code yX6_ticksUntilBeyond cX6_ticksUntilBeyond 5 (some .int), Cond.fieldLink RX6 18 "CoarseSteps$Outlook" "loop" "LCoarseSteps$Loop;", Cond.fieldLink RX6 9 "CoarseSteps$Outlook" "at" "[J", Cond.methodLink RX6 39 yX6_copy, Cond.static yX6_copy, Cond.code yX6_copy cX6_copy 3 none, Cond.methodLink RX6 47 yX5_advance, Cond.instanceMethod yX5_advance, Cond.selects RX5 yX5_advance yX5_advance, Cond.initialized RX5, Cond.code yX5_advance cX5_advance 3 (some .boolean)]
def wsX10_leaves_r2 : List Cond := [Cond.fieldLink RX5 26 "CoarseSteps$Mover" "kind" "I", Cond.methodLink RX5 41 yX5_reckonTwo, Cond.instanceMethod yX5_reckonTwo, Cond.selects RX5 yX5_reckonTwo yX5_reckonTwo, Cond.code yX5_reckonTwo cX5_reckonTwo 3 none, Cond.fieldLink RX5 18 "CoarseSteps$Mover" "coming" "[J", Cond.constantLong RX5 59 (2), Cond.methodLink RX5 61 yX5_takeStep, Cond.instanceMethod yX5_takeStep, Cond.selects RX5 yX5_takeStep yX5_takeStep, Cond.code yX5_takeStep cX5_takeStep 5 (some .long), Cond.fieldLink RX5 33 "CoarseSteps$Mover" "scale" "LCoarseSteps$Scale;", Cond.fieldLink RX5 22 "CoarseSteps$Mover" "picked" "[I", Cond.methodLink RX5 73 yX7_placeFor, Cond.instanceMethod yX7_placeFor, Cond.selects RX7 yX7_placeFor yX7_placeFor, Cond.initialized RX7, Cond.code yX7_placeFor cX7_placeFor 4 (some .int), Cond.fieldLink RX7 15 "CoarseSteps$Scale" "count" "I", Cond.fieldLink RX7 18 "CoarseSteps$Scale" "values" "[I", Cond.fieldLink RX7 9 "CoarseSteps$Scale" "over" "I", Cond.methodLink RX5 82 yX7_fineAt, Cond.instanceMethod yX7_fineAt, Cond.selects RX7 yX7_fineAt yX7_fineAt]
def wsX10_leaves_r3 : List Cond := [Cond.code yX7_fineAt cX7_fineAt 2 (some .long), Cond.methodLink RX5 45 yX5_reckonTables, Cond.instanceMethod yX5_reckonTables, Cond.selects RX5 yX5_reckonTables yX5_reckonTables, Cond.code yX5_reckonTables cX5_reckonTables 8 none, Cond.fieldLink RX5 12 "CoarseSteps$Mover" "tables" "LCoarseSteps$Tables;", Cond.fieldLink RX5 30 "CoarseSteps$Mover" "sums" "I", Cond.methodLink RX5 65 yX8_measure, Cond.instanceMethod yX8_measure, Cond.selects RX8 yX8_measure yX8_measure, Cond.initialized RX8, Cond.code yX8_measure cX8_measure 6 (some .long), Cond.fieldLink RX8 28 "CoarseSteps$Tables" "g" "I", Cond.fieldLink RX8 9 "CoarseSteps$Tables" "sums" "I", Cond.fieldLink RX8 25 "CoarseSteps$Tables" "h" "[I", Cond.methodLink RX5 69 yX8_next, Cond.instanceMethod yX8_next, Cond.selects RX8 yX8_next yX8_next, Cond.code yX8_next cX8_next 9 (some .long), Cond.fieldLink RX8 19 "CoarseSteps$Tables" "b" "[I", Cond.fieldLink RX8 22 "CoarseSteps$Tables" "e" "[I", Cond.fieldLink RX8 15 "CoarseSteps$Tables" "a" "[I", Cond.methodLink RX5 48 yX5_reckonRow, Cond.instanceMethod yX5_reckonRow]
def wsX10_leaves_r4 : List Cond := [Cond.selects RX5 yX5_reckonRow yX5_reckonRow, Cond.code yX5_reckonRow cX5_reckonRow 6 none, Cond.methodLink RX5 51 yX5_settle, Cond.instanceMethod yX5_settle, Cond.selects RX5 yX5_settle yX5_settle, Cond.code yX5_settle cX5_settle 3 (some .boolean), Cond.static yX10_isSum, Cond.code yX10_isSum cX10_isSum 2 (some .boolean), Cond.constantLong RX10 247 (-1000000000000), Cond.constantLong RX10 249 (1000000000000), Cond.methodLink RX6 57 yX6_isBeyond, Cond.instanceMethod yX6_isBeyond, Cond.selects RX6 yX6_isBeyond yX6_isBeyond, Cond.code yX6_isBeyond cX6_isBeyond 4 (some .boolean)]
def wsX10_leaves : List Cond := .code yX10_leaves cX10_leaves 4 (some .int) :: ((wsX10_leaves_r1 ++ (wsX10_leaves_r2 ++ (wsX10_leaves_r3 ++ wsX10_leaves_r4))) ++ wsX100 ++ wsX60 ++ wsX40 ++ wsX50 ++ wsX70 ++ wsX80)
def wsX10_box : List Cond := .code yX10_box cX10_box 6 (some .boolean) :: ([.fieldLink RX10 21 "CoarseSteps" "loop" "LCoarseSteps$Loop;", .fieldLink RX10 37 "CoarseSteps" "inside" "LCoarseSteps$Box;", .methodLink RX10 106 yX5_hasSum, .instanceMethod yX5_hasSum, .selects RX5 yX5_hasSum yX5_hasSum, .initialized RX5, .code yX5_hasSum cX5_hasSum 2 (some .boolean), .fieldLink RX5 30 "CoarseSteps$Mover" "sums" "I", .methodLink RX10 110 yX10_isSum, .static yX10_isSum, .initialized RX10, .code yX10_isSum cX10_isSum 2 (some .boolean), .constantLong RX10 247 (-1000000000000), .constantLong RX10 249 (1000000000000), .methodLink RX10 168 yX0_setEnds, .instanceMethod yX0_setEnds, .selects RX0 yX0_setEnds yX0_setEnds, .initialized RX0, .code yX0_setEnds cX0_setEnds 6 none, .fieldLink RX0 9 "CoarseSteps$Box" "least" "[J", .fieldLink RX0 15 "CoarseSteps$Box" "most" "[J"] ++ wsX100 ++ wsX40 ++ wsX50 ++ wsX00)
def wsX10_kept_r1 : List Cond := [Cond.fieldLink RX10 37 "CoarseSteps" "inside" "LCoarseSteps$Box;", Cond.fieldLink RX10 21 "CoarseSteps" "loop" "LCoarseSteps$Loop;", Cond.methodLink RX10 121 yX10_isWish, Cond.static yX10_isWish, Cond.initialized RX10, Cond.code yX10_isWish cX10_isWish 1 (some .boolean), Cond.constant RX10 176 (1000000), Cond.methodLink RX10 93 yX10_isWithin, Cond.static yX10_isWithin, Cond.code yX10_isWithin cX10_isWithin 2 (some .boolean), Cond.methodLink RX10 172 yX0_tellKept, Cond.instanceMethod yX0_tellKept, Cond.selects RX0 yX0_tellKept yX0_tellKept, Cond.initialized RX0, Cond.code yX0_tellKept cX0_tellKept 7 (some .int), Cond.constantLong RX0 34 (100000), Cond.fieldLink RX0 18 "CoarseSteps$Box" "place" "[J", Cond.fieldLink RX0 9 "CoarseSteps$Box" "least" "[J", Cond.methodLink RX0 30 yX0_countPlaces, Cond.instanceMethod yX0_countPlaces, Cond.selects RX0 yX0_countPlaces yX0_countPlaces, Cond.code yX0_countPlaces cX0_countPlaces 9 (some .long), Cond.fieldLink RX0 15 "CoarseSteps$Box" "most" "[J", Cond.constantLong RX0 44 (100001)]
def wsX10_kept_r2 : List Cond := [Cond.methodLink RX0 36 yX0_staysFromPlace, Cond.instanceMethod yX0_staysFromPlace, Cond.selects RX0 yX0_staysFromPlace yX0_staysFromPlace, Cond.code yX0_staysFromPlace cX0_staysFromPlace 6 (some .boolean), Cond.fieldLink RX0 21 "CoarseSteps$Box" "at" "[J", Cond.methodLink RX0 46 yX5_advance, Cond.instanceMethod yX5_advance, Cond.selects RX5 yX5_advance yX5_advance, Cond.initialized RX5, Cond.code yX5_advance cX5_advance 3 (some .boolean), Cond.fieldLink RX5 26 "CoarseSteps$Mover" "kind" "I", Cond.methodLink RX5 41 yX5_reckonTwo, Cond.instanceMethod yX5_reckonTwo, Cond.selects RX5 yX5_reckonTwo yX5_reckonTwo, Cond.code yX5_reckonTwo cX5_reckonTwo 3 none, Cond.fieldLink RX5 18 "CoarseSteps$Mover" "coming" "[J", Cond.constantLong RX5 59 (2), Cond.methodLink RX5 61 yX5_takeStep, Cond.instanceMethod yX5_takeStep, Cond.selects RX5 yX5_takeStep yX5_takeStep, Cond.code yX5_takeStep cX5_takeStep 5 (some .long), Cond.fieldLink RX5 33 "CoarseSteps$Mover" "scale" "LCoarseSteps$Scale;", Cond.fieldLink RX5 22 "CoarseSteps$Mover" "picked" "[I", Cond.methodLink RX5 73 yX7_placeFor]
def wsX10_kept_r3 : List Cond := [Cond.instanceMethod yX7_placeFor, Cond.selects RX7 yX7_placeFor yX7_placeFor, Cond.initialized RX7, Cond.code yX7_placeFor cX7_placeFor 4 (some .int), Cond.fieldLink RX7 15 "CoarseSteps$Scale" "count" "I", Cond.fieldLink RX7 18 "CoarseSteps$Scale" "values" "[I", Cond.fieldLink RX7 9 "CoarseSteps$Scale" "over" "I", Cond.methodLink RX5 82 yX7_fineAt, Cond.instanceMethod yX7_fineAt, Cond.selects RX7 yX7_fineAt yX7_fineAt, Cond.code yX7_fineAt cX7_fineAt 2 (some .long), Cond.methodLink RX5 45 yX5_reckonTables, Cond.instanceMethod yX5_reckonTables, Cond.selects RX5 yX5_reckonTables yX5_reckonTables, Cond.code yX5_reckonTables cX5_reckonTables 8 none, Cond.fieldLink RX5 12 "CoarseSteps$Mover" "tables" "LCoarseSteps$Tables;", Cond.fieldLink RX5 30 "CoarseSteps$Mover" "sums" "I", Cond.methodLink RX5 65 yX8_measure, Cond.instanceMethod yX8_measure, Cond.selects RX8 yX8_measure yX8_measure, Cond.initialized RX8, Cond.code yX8_measure cX8_measure 6 (some .long), Cond.fieldLink RX8 28 "CoarseSteps$Tables" "g" "I", Cond.fieldLink RX8 9 "CoarseSteps$Tables" "sums" "I"]
def wsX10_kept_r4 : List Cond := [Cond.fieldLink RX8 25 "CoarseSteps$Tables" "h" "[I", Cond.methodLink RX5 69 yX8_next, Cond.instanceMethod yX8_next, Cond.selects RX8 yX8_next yX8_next, Cond.code yX8_next cX8_next 9 (some .long), Cond.fieldLink RX8 19 "CoarseSteps$Tables" "b" "[I", Cond.fieldLink RX8 22 "CoarseSteps$Tables" "e" "[I", Cond.fieldLink RX8 15 "CoarseSteps$Tables" "a" "[I", Cond.methodLink RX5 48 yX5_reckonRow, Cond.instanceMethod yX5_reckonRow, Cond.selects RX5 yX5_reckonRow yX5_reckonRow, Cond.code yX5_reckonRow cX5_reckonRow 6 none, Cond.methodLink RX5 51 yX5_settle, Cond.instanceMethod yX5_settle, Cond.selects RX5 yX5_settle yX5_settle, Cond.code yX5_settle cX5_settle 3 (some .boolean), Cond.static yX10_isSum, Cond.code yX10_isSum cX10_isSum 2 (some .boolean), Cond.constantLong RX10 247 (-1000000000000), Cond.constantLong RX10 249 (1000000000000), Cond.methodLink RX0 50 yX0_isInside, Cond.instanceMethod yX0_isInside, Cond.selects RX0 yX0_isInside yX0_isInside, Cond.code yX0_isInside cX0_isInside 3 (some .boolean)]
def wsX10_kept_r5 : List Cond := [Cond.methodLink RX0 40 yX0_toNextPlace, Cond.instanceMethod yX0_toNextPlace, Cond.selects RX0 yX0_toNextPlace yX0_toNextPlace, Cond.code yX0_toNextPlace cX0_toNextPlace 3 none]
def wsX10_kept : List Cond := .code yX10_kept cX10_kept 3 (some .int) :: ((wsX10_kept_r1 ++ (wsX10_kept_r2 ++ (wsX10_kept_r3 ++ (wsX10_kept_r4 ++ wsX10_kept_r5)))) ++ wsX100 ++ wsX40 ++ wsX50 ++ wsX00 ++ wsX70 ++ wsX80)
def wsX10_word : List Cond := .code yX10_word cX10_word 7 (some .int) :: ([.fieldLink RX10 10 "CoarseSteps" "scale" "LCoarseSteps$Scale;", .constant RX10 176 (1000000), .methodLink RX10 177 yJ9_floorDiv_f86c9, .static yJ9_floorDiv_f86c9, .initialized RJ9, .code yJ9_floorDiv_f86c9 cJ9_floorDiv_f86c9 6 (some .long)] ++ wsX100 ++ wsX70)
def wsX10_even_r1 : List Cond := [Cond.fieldLink RX10 21 "CoarseSteps" "loop" "LCoarseSteps$Loop;", Cond.methodLink RX10 151 yX3_holdsLast, Cond.instanceMethod yX3_holdsLast, Cond.selects RX3 yX3_holdsLast yX3_holdsLast, Cond.initialized RX3, Cond.code yX3_holdsLast cX3_holdsLast 2 (some .boolean), Cond.fieldLink RX3 29 "CoarseSteps$History" "kept" "I", Cond.methodLink RX10 183 yX3_isEven, Cond.instanceMethod yX3_isEven, Cond.selects RX3 yX3_isEven yX3_isEven, Cond.code yX3_isEven cX3_isEven 3 (some .boolean), Cond.fieldLink RX3 22 "CoarseSteps$History" "totals" "[I", Cond.methodLink RX3 38 yX3_givenAt, Cond.instanceMethod yX3_givenAt, Cond.selects RX3 yX3_givenAt yX3_givenAt, Cond.code yX3_givenAt cX3_givenAt 2 (some .int), Cond.fieldLink RX3 15 "CoarseSteps$History" "givens" "[I", Cond.fieldLink RX3 25 "CoarseSteps$History" "next" "I", Cond.methodLink RX3 45 yX3_isEvenBy, Cond.instanceMethod yX3_isEvenBy, Cond.selects RX3 yX3_isEvenBy yX3_isEvenBy, Cond.code yX3_isEvenBy cX3_isEvenBy 7 (some .boolean), Cond.methodLink RX3 32 Lib.Math.min.name, Cond.static Lib.Math.min.name]
def wsX10_even_r2 : List Cond := [Cond.initialized "java/lang/Math", Cond.code Lib.Math.min.name Lib.Math.min.code 2 (some .int), Cond.methodLink RX3 49 Lib.Math.max.name, Cond.static Lib.Math.max.name, Cond.code Lib.Math.max.name Lib.Math.max.code 2 (some .int)]
def wsX10_even : List Cond := .code yX10_even cX10_even 2 (some .int) :: ((wsX10_even_r1 ++ wsX10_even_r2) ++ wsX100 ++ wsX40 ++ wsX30)
def wsX10_weight : List Cond := .code yX10_weight cX10_weight 2 (some .int) :: ([.fieldLink RX10 44 "CoarseSteps" "filter" "LCoarseSteps$Filter;", .methodLink RX10 93 yX10_isWithin, .static yX10_isWithin, .initialized RX10, .code yX10_isWithin cX10_isWithin 2 (some .boolean), .methodLink RX10 186 yX2_append, .instanceMethod yX2_append, .selects RX2 yX2_append yX2_append, .initialized RX2, .code yX2_append cX2_append 2 (some .int), .fieldLink RX2 15 "CoarseSteps$Filter" "count" "I", .fieldLink RX2 9 "CoarseSteps$Filter" "weights" "[I"] ++ wsX100 ++ wsX20)
def wsX10_clear : List Cond := .code yX10_clear cX10_clear 1 (some .int) :: ([.fieldLink RX10 44 "CoarseSteps" "filter" "LCoarseSteps$Filter;", .methodLink RX10 189 yX2_empty, .instanceMethod yX2_empty, .selects RX2 yX2_empty yX2_empty, .initialized RX2, .code yX2_empty cX2_empty 2 (some .int), .fieldLink RX2 15 "CoarseSteps$Filter" "count" "I"] ++ wsX100 ++ wsX20)
def wsX10_read : List Cond := .code yX10_read cX10_read 1 (some .long) :: ([.fieldLink RX10 44 "CoarseSteps" "filter" "LCoarseSteps$Filter;", .fieldLink RX10 21 "CoarseSteps" "loop" "LCoarseSteps$Loop;", .methodLink RX10 192 yX2_readFrom, .instanceMethod yX2_readFrom, .selects RX2 yX2_readFrom yX2_readFrom, .initialized RX2, .code yX2_readFrom cX2_readFrom 5 (some .long), .fieldLink RX2 15 "CoarseSteps$Filter" "count" "I", .fieldLink RX2 9 "CoarseSteps$Filter" "weights" "[I", .methodLink RX2 19 yX3_holds, .instanceMethod yX3_holds, .selects RX3 yX3_holds yX3_holds, .initialized RX3, .code yX3_holds cX3_holds 2 (some .boolean), .fieldLink RX3 29 "CoarseSteps$History" "kept" "I", .methodLink RX2 25 yX3_givenAt, .instanceMethod yX3_givenAt, .selects RX3 yX3_givenAt yX3_givenAt, .code yX3_givenAt cX3_givenAt 2 (some .int), .fieldLink RX3 15 "CoarseSteps$History" "givens" "[I", .fieldLink RX3 25 "CoarseSteps$History" "next" "I"] ++ wsX100 ++ wsX40 ++ wsX20 ++ wsX30)
def wsX10_back_r1 : List Cond := [Cond.fieldLink RX10 21 "CoarseSteps" "loop" "LCoarseSteps$Loop;", Cond.constant RX10 128 (-2147483648), Cond.fieldLink RX10 51 "CoarseSteps" "claim" "LCoarseSteps$Claim;", Cond.methodLink RX10 196 yX4_canClaim, Cond.instanceMethod yX4_canClaim, Cond.selects RX4 yX4_canClaim yX4_canClaim, Cond.initialized RX4, Cond.code yX4_canClaim cX4_canClaim 2 (some .boolean), Cond.fieldLink RX4 34 "CoarseSteps$Loop" "mover" "LCoarseSteps$Mover;", Cond.fieldLink RX4 50 "CoarseSteps$Loop" "firstBeganWith" "J", Cond.fieldLink RX4 46 "CoarseSteps$Loop" "ticks" "I", Cond.fieldLink RX4 21 "CoarseSteps$Loop" "history" "LCoarseSteps$History;", Cond.methodLink RX4 96 yX3_holdsLast, Cond.instanceMethod yX3_holdsLast, Cond.selects RX3 yX3_holdsLast yX3_holdsLast, Cond.initialized RX3, Cond.code yX3_holdsLast cX3_holdsLast 2 (some .boolean), Cond.fieldLink RX3 29 "CoarseSteps$History" "kept" "I", Cond.methodLink RX10 199 yX1_narrow, Cond.instanceMethod yX1_narrow, Cond.selects RX1 yX1_narrow yX1_narrow, Cond.initialized RX1, Cond.code yX1_narrow cX1_narrow 9 none, Cond.constantLong RX1 15 (-1000000)]
def wsX10_back_r2 : List Cond := [Cond.fieldLink RX1 17 "CoarseSteps$Claim" "low" "J", Cond.constantLong RX1 21 (1000000), Cond.fieldLink RX1 23 "CoarseSteps$Claim" "high" "J", Cond.fieldLink RX1 9 "CoarseSteps$Claim" "scale" "LCoarseSteps$Scale;", Cond.methodLink RX1 51 Lib.MathLoose.max_long.x, Cond.static Lib.MathLoose.max_long.x, Cond.initialized "java/lang/Math", Cond.code Lib.MathLoose.max_long.x Lib.MathLoose.max_long.code 4 (some .long), Cond.methodLink RX1 61 Lib.MathLoose.min_long.x, Cond.static Lib.MathLoose.min_long.x, Cond.code Lib.MathLoose.min_long.x Lib.MathLoose.min_long.code 4 (some .long), Cond.methodLink RX1 32 yX3_givenAt, Cond.instanceMethod yX3_givenAt, Cond.selects RX3 yX3_givenAt yX3_givenAt, Cond.code yX3_givenAt cX3_givenAt 2 (some .int), Cond.fieldLink RX3 15 "CoarseSteps$History" "givens" "[I", Cond.fieldLink RX3 25 "CoarseSteps$History" "next" "I", Cond.methodLink RX1 41 yX7_placeFor, Cond.instanceMethod yX7_placeFor, Cond.selects RX7 yX7_placeFor yX7_placeFor, Cond.initialized RX7, Cond.code yX7_placeFor cX7_placeFor 4 (some .int), Cond.fieldLink RX7 15 "CoarseSteps$Scale" "count" "I", Cond.fieldLink RX7 18 "CoarseSteps$Scale" "values" "[I"]
def wsX10_back_r3 : List Cond := [Cond.fieldLink RX7 9 "CoarseSteps$Scale" "over" "I", Cond.methodLink RX1 45 yJ9_floorDiv_f86c9, Cond.static yJ9_floorDiv_f86c9, Cond.initialized RJ9, Cond.code yJ9_floorDiv_f86c9 cJ9_floorDiv_f86c9 6 (some .long), Cond.methodLink RX1 57 yX7_fineAt, Cond.instanceMethod yX7_fineAt, Cond.selects RX7 yX7_fineAt yX7_fineAt, Cond.code yX7_fineAt cX7_fineAt 2 (some .long)]
def wsX10_back : List Cond := .code yX10_back cX10_back 3 (some .int) :: ((wsX10_back_r1 ++ (wsX10_back_r2 ++ wsX10_back_r3)) ++ wsX100 ++ wsX40 ++ wsX10 ++ wsX50 ++ wsX30 ++ wsX70)
def wsX10_range_r1 : List Cond := [Cond.fieldLink RX10 51 "CoarseSteps" "claim" "LCoarseSteps$Claim;", Cond.methodLink RX10 121 yX10_isWish, Cond.static yX10_isWish, Cond.initialized RX10, Cond.code yX10_isWish cX10_isWish 1 (some .boolean), Cond.constant RX10 176 (1000000), Cond.methodLink RX10 93 yX10_isWithin, Cond.static yX10_isWithin, Cond.code yX10_isWithin cX10_isWithin 2 (some .boolean), Cond.methodLink RX10 210 yX1_countRows, Cond.instanceMethod yX1_countRows, Cond.selects RX1 yX1_countRows yX1_countRows, Cond.initialized RX1, Cond.code yX1_countRows cX1_countRows 8 (some .int), Cond.methodLink RX1 64 yX1_roomAbove, Cond.instanceMethod yX1_roomAbove, Cond.selects RX1 yX1_roomAbove yX1_roomAbove, Cond.code yX1_roomAbove cX1_roomAbove 12 (some .long), Cond.constantLong RX1 68 (2000), Cond.fieldLink RX1 9 "CoarseSteps$Claim" "scale" "LCoarseSteps$Scale;", Cond.methodLink RX1 61 Lib.MathLoose.min_long.x, Cond.static Lib.MathLoose.min_long.x, Cond.initialized "java/lang/Math", Cond.code Lib.MathLoose.min_long.x Lib.MathLoose.min_long.code 4 (some .long)]
def wsX10_range_r2 : List Cond := [Cond.methodLink RX1 41 yX7_placeFor, Cond.instanceMethod yX7_placeFor, Cond.selects RX7 yX7_placeFor yX7_placeFor, Cond.initialized RX7, Cond.code yX7_placeFor cX7_placeFor 4 (some .int), Cond.fieldLink RX7 15 "CoarseSteps$Scale" "count" "I", Cond.fieldLink RX7 18 "CoarseSteps$Scale" "values" "[I", Cond.fieldLink RX7 9 "CoarseSteps$Scale" "over" "I", Cond.methodLink RX1 57 yX7_fineAt, Cond.instanceMethod yX7_fineAt, Cond.selects RX7 yX7_fineAt yX7_fineAt, Cond.code yX7_fineAt cX7_fineAt 2 (some .long), Cond.methodLink RX1 45 yJ9_floorDiv_f86c9, Cond.static yJ9_floorDiv_f86c9, Cond.initialized RJ9, Cond.code yJ9_floorDiv_f86c9 cJ9_floorDiv_f86c9 6 (some .long)]
def wsX10_range : List Cond := .code yX10_range cX10_range 4 (some .int) :: ((wsX10_range_r1 ++ wsX10_range_r2) ++ wsX100 ++ wsX10 ++ wsX70)
def wsX10_part : List Cond := .code yX10_part cX10_part 3 (some .int) :: ([.fieldLink RX10 21 "CoarseSteps" "loop" "LCoarseSteps$Loop;"] ++ wsX100 ++ wsX40 ++ wsX90)
def wsX10_spread : List Cond := .code yX10_spread cX10_spread 1 (some .int) :: ([.fieldLink RX10 21 "CoarseSteps" "loop" "LCoarseSteps$Loop;", .methodLink RX10 231 yX9_mostLessLeast, .instanceMethod yX9_mostLessLeast, .selects RX9 yX9_mostLessLeast yX9_mostLessLeast, .initialized RX9, .code yX9_mostLessLeast cX9_mostLessLeast 4 (some .int), .fieldLink RX9 15 "CoarseSteps$Wheel" "timesOn" "[I", .fieldLink RX9 19 "CoarseSteps$Wheel" "parts" "I", .methodLink RX9 32 Lib.Math.min.name, .static Lib.Math.min.name, .initialized "java/lang/Math", .code Lib.Math.min.name Lib.Math.min.code 2 (some .int), .methodLink RX9 38 Lib.Math.max.name, .static Lib.Math.max.name, .code Lib.Math.max.name Lib.Math.max.code 2 (some .int)] ++ wsX100 ++ wsX40 ++ wsX50 ++ wsX90)
def wsX10_about : List Cond := .code yX10_about cX10_about 2 (some .int) :: ([.fieldLink RX10 10 "CoarseSteps" "scale" "LCoarseSteps$Scale;", .fieldLink RX10 21 "CoarseSteps" "loop" "LCoarseSteps$Loop;", .fieldLink RX10 44 "CoarseSteps" "filter" "LCoarseSteps$Filter;"] ++ wsX100 ++ wsX70 ++ wsX40 ++ wsX50 ++ wsX90 ++ wsX30 ++ wsX20)
def wsX10_step : List Cond := .code yX10_step cX10_step 2 (some .int) :: ([.fieldLink RX10 10 "CoarseSteps" "scale" "LCoarseSteps$Scale;", .constant RX10 128 (-2147483648)] ++ wsX100 ++ wsX70)
def wsX11_init_r1 : List Cond := [Cond.methodLink RX11 1 objectInit, Cond.instanceMethod objectInit, Cond.code objectInit ⟨#[0xb1]⟩ 1 none, Cond.fieldLink RX11 7 "CoarseStepsModel" "d" "I", Cond.fieldLink RX11 13 "CoarseStepsModel" "stepMany" "I", Cond.fieldLink RX11 16 "CoarseStepsModel" "many" "I", Cond.arrayClass .int, Cond.fieldLink RX11 19 "CoarseStepsModel" "steps" "[I", Cond.fieldLink RX11 23 "CoarseStepsModel" "stepsTold" "[I", Cond.fieldLink RX11 26 "CoarseStepsModel" "a" "[I", Cond.fieldLink RX11 29 "CoarseStepsModel" "b" "[I", Cond.fieldLink RX11 32 "CoarseStepsModel" "e" "[I", Cond.fieldLink RX11 35 "CoarseStepsModel" "h" "[I", Cond.arrayClass .long, Cond.fieldLink RX11 38 "CoarseStepsModel" "sums" "[J", Cond.fieldLink RX11 42 "CoarseStepsModel" "least" "[J", Cond.fieldLink RX11 45 "CoarseStepsModel" "most" "[J", Cond.fieldLink RX11 48 "CoarseStepsModel" "on" "[I", Cond.fieldLink RX11 51 "CoarseStepsModel" "often" "[I", Cond.fieldLink RX11 54 "CoarseStepsModel" "given" "[I", Cond.fieldLink RX11 57 "CoarseStepsModel" "wished" "[I", Cond.fieldLink RX11 60 "CoarseStepsModel" "firstSum" "[J", Cond.fieldLink RX11 63 "CoarseStepsModel" "weights" "[I", Cond.fieldLink RX11 66 "CoarseStepsModel" "now" "[J"]
def wsX11_init_r2 : List Cond := [Cond.fieldLink RX11 69 "CoarseStepsModel" "to" "[J", Cond.fieldLink RX11 72 "CoarseStepsModel" "made" "[I", Cond.fieldLink RX11 75 "CoarseStepsModel" "path" "[J", Cond.fieldLink RX11 78 "CoarseStepsModel" "rowNow" "[I"]
def wsX11_init : List Cond := .code yX11_init cX11_init 1 none :: ((wsX11_init_r1 ++ wsX11_init_r2) ++ wsX110)
def wsX11_anew : List Cond := .code yX11_anew cX11_anew 2 none :: ([.fieldLink RX11 38 "CoarseStepsModel" "sums" "[J", .fieldLink RX11 48 "CoarseStepsModel" "on" "[I", .fieldLink RX11 51 "CoarseStepsModel" "often" "[I", .fieldLink RX11 81 "CoarseStepsModel" "ticks" "I", .fieldLink RX11 84 "CoarseStepsModel" "hand" "I", .fieldLink RX11 87 "CoarseStepsModel" "dBefore" "I", .fieldLink RX11 90 "CoarseStepsModel" "fBefore" "I", .fieldLink RX11 93 "CoarseStepsModel" "fFirst" "I", .fieldLink RX11 96 "CoarseStepsModel" "beganElsewhere" "Z"] ++ wsX110)
def wsX11_over : List Cond := .code yX11_over cX11_over 2 (some .boolean) :: ([.fieldLink RX11 7 "CoarseStepsModel" "d" "I", .methodLink RX11 100 yX11_anew, .instanceMethod yX11_anew, .selects RX11 yX11_anew yX11_anew, .initialized RX11, .code yX11_anew cX11_anew 2 none, .fieldLink RX11 38 "CoarseStepsModel" "sums" "[J", .fieldLink RX11 48 "CoarseStepsModel" "on" "[I", .fieldLink RX11 51 "CoarseStepsModel" "often" "[I", .fieldLink RX11 81 "CoarseStepsModel" "ticks" "I", .fieldLink RX11 84 "CoarseStepsModel" "hand" "I", .fieldLink RX11 87 "CoarseStepsModel" "dBefore" "I", .fieldLink RX11 90 "CoarseStepsModel" "fBefore" "I", .fieldLink RX11 93 "CoarseStepsModel" "fFirst" "I", .fieldLink RX11 96 "CoarseStepsModel" "beganElsewhere" "Z"] ++ wsX110)
def wsX11_steps : List Cond := .code yX11_steps cX11_steps 13 (some .boolean) :: ([.fieldLink RX11 23 "CoarseStepsModel" "stepsTold" "[I", .fieldLink RX11 19 "CoarseStepsModel" "steps" "[I", .fieldLink RX11 13 "CoarseStepsModel" "stepMany" "I", .methodLink RX11 100 yX11_anew, .instanceMethod yX11_anew, .selects RX11 yX11_anew yX11_anew, .initialized RX11, .code yX11_anew cX11_anew 2 none, .fieldLink RX11 38 "CoarseStepsModel" "sums" "[J", .fieldLink RX11 48 "CoarseStepsModel" "on" "[I", .fieldLink RX11 51 "CoarseStepsModel" "often" "[I", .fieldLink RX11 81 "CoarseStepsModel" "ticks" "I", .fieldLink RX11 84 "CoarseStepsModel" "hand" "I", .fieldLink RX11 87 "CoarseStepsModel" "dBefore" "I", .fieldLink RX11 90 "CoarseStepsModel" "fBefore" "I", .fieldLink RX11 93 "CoarseStepsModel" "fFirst" "I", .fieldLink RX11 96 "CoarseStepsModel" "beganElsewhere" "Z"] ++ wsX110)
def wsX11_loop_r1 : List Cond := [Cond.fieldLink RX11 16 "CoarseStepsModel" "many" "I", Cond.fieldLink RX11 42 "CoarseStepsModel" "least" "[J", Cond.fieldLink RX11 45 "CoarseStepsModel" "most" "[J", Cond.fieldLink RX11 103 "CoarseStepsModel" "kind" "I", Cond.fieldLink RX11 106 "CoarseStepsModel" "rule" "I", Cond.fieldLink RX11 109 "CoarseStepsModel" "partMany" "I", Cond.fieldLink RX11 26 "CoarseStepsModel" "a" "[I", Cond.fieldLink RX11 29 "CoarseStepsModel" "b" "[I", Cond.fieldLink RX11 32 "CoarseStepsModel" "e" "[I", Cond.fieldLink RX11 35 "CoarseStepsModel" "h" "[I", Cond.fieldLink RX11 112 "CoarseStepsModel" "g" "I", Cond.methodLink RX11 100 yX11_anew, Cond.instanceMethod yX11_anew, Cond.selects RX11 yX11_anew yX11_anew, Cond.initialized RX11, Cond.code yX11_anew cX11_anew 2 none, Cond.fieldLink RX11 38 "CoarseStepsModel" "sums" "[J", Cond.fieldLink RX11 48 "CoarseStepsModel" "on" "[I", Cond.fieldLink RX11 51 "CoarseStepsModel" "often" "[I", Cond.fieldLink RX11 81 "CoarseStepsModel" "ticks" "I", Cond.fieldLink RX11 84 "CoarseStepsModel" "hand" "I", Cond.fieldLink RX11 87 "CoarseStepsModel" "dBefore" "I", Cond.fieldLink RX11 90 "CoarseStepsModel" "fBefore" "I", Cond.fieldLink RX11 93 "CoarseStepsModel" "fFirst" "I"]
def wsX11_loop_r2 : List Cond := [Cond.fieldLink RX11 96 "CoarseStepsModel" "beganElsewhere" "Z"]
def wsX11_loop : List Cond := .code yX11_loop cX11_loop 7 (some .boolean) :: ((wsX11_loop_r1 ++ wsX11_loop_r2) ++ wsX110)
def wsX11_table : List Cond := .code yX11_table cX11_table 6 (some .boolean) :: ([.fieldLink RX11 103 "CoarseStepsModel" "kind" "I", .fieldLink RX11 16 "CoarseStepsModel" "many" "I", .fieldLink RX11 26 "CoarseStepsModel" "a" "[I", .fieldLink RX11 29 "CoarseStepsModel" "b" "[I", .fieldLink RX11 32 "CoarseStepsModel" "e" "[I", .fieldLink RX11 35 "CoarseStepsModel" "h" "[I", .fieldLink RX11 112 "CoarseStepsModel" "g" "I", .methodLink RX11 100 yX11_anew, .instanceMethod yX11_anew, .selects RX11 yX11_anew yX11_anew, .initialized RX11, .code yX11_anew cX11_anew 2 none, .fieldLink RX11 38 "CoarseStepsModel" "sums" "[J", .fieldLink RX11 48 "CoarseStepsModel" "on" "[I", .fieldLink RX11 51 "CoarseStepsModel" "often" "[I", .fieldLink RX11 81 "CoarseStepsModel" "ticks" "I", .fieldLink RX11 84 "CoarseStepsModel" "hand" "I", .fieldLink RX11 87 "CoarseStepsModel" "dBefore" "I", .fieldLink RX11 90 "CoarseStepsModel" "fBefore" "I", .fieldLink RX11 93 "CoarseStepsModel" "fFirst" "I", .fieldLink RX11 96 "CoarseStepsModel" "beganElsewhere" "Z"] ++ wsX110)
def wsX11_isSum : List Cond := .code yX11_isSum cX11_isSum 2 (some .boolean) :: ([.fieldLink RX11 16 "CoarseStepsModel" "many" "I"] ++ wsX110)
def wsX11_isNear : List Cond := .code yX11_isNear cX11_isNear 2 (some .boolean) :: ([.constantLong RX11 115 (1000000000000), .constantLong RX11 117 (-1000000000000)])
def wsX11_start : List Cond := .code yX11_start cX11_start 4 (some .boolean) :: ([.fieldLink RX11 81 "CoarseStepsModel" "ticks" "I", .fieldLink RX11 38 "CoarseStepsModel" "sums" "[J", .fieldLink RX11 96 "CoarseStepsModel" "beganElsewhere" "Z", .methodLink RX11 119 yX11_isSum, .instanceMethod yX11_isSum, .selects RX11 yX11_isSum yX11_isSum, .initialized RX11, .code yX11_isSum cX11_isSum 2 (some .boolean), .fieldLink RX11 16 "CoarseStepsModel" "many" "I", .methodLink RX11 123 yX11_isNear, .static yX11_isNear, .code yX11_isNear cX11_isNear 2 (some .boolean), .constantLong RX11 115 (1000000000000), .constantLong RX11 117 (-1000000000000)] ++ wsX110)
def wsX11_stepFor : List Cond := .code yX11_stepFor cX11_stepFor 5 (some .int) :: ([.fieldLink RX11 19 "CoarseStepsModel" "steps" "[I", .fieldLink RX11 13 "CoarseStepsModel" "stepMany" "I", .fieldLink RX11 7 "CoarseStepsModel" "d" "I"] ++ wsX110)
def wsX11_next : List Cond := .code yX11_next cX11_next 7 (some .boolean) :: ([.fieldLink RX11 103 "CoarseStepsModel" "kind" "I", .constantLong RX11 127 (2), .fieldLink RX11 66 "CoarseStepsModel" "now" "[J", .fieldLink RX11 72 "CoarseStepsModel" "made" "[I", .fieldLink RX11 69 "CoarseStepsModel" "to" "[J", .fieldLink RX11 7 "CoarseStepsModel" "d" "I", .fieldLink RX11 112 "CoarseStepsModel" "g" "I", .fieldLink RX11 16 "CoarseStepsModel" "many" "I", .fieldLink RX11 35 "CoarseStepsModel" "h" "[I", .fieldLink RX11 29 "CoarseStepsModel" "b" "[I", .fieldLink RX11 32 "CoarseStepsModel" "e" "[I", .fieldLink RX11 26 "CoarseStepsModel" "a" "[I", .methodLink RX11 129 yX11_stepFor, .instanceMethod yX11_stepFor, .selects RX11 yX11_stepFor yX11_stepFor, .initialized RX11, .code yX11_stepFor cX11_stepFor 5 (some .int), .fieldLink RX11 19 "CoarseStepsModel" "steps" "[I", .fieldLink RX11 13 "CoarseStepsModel" "stepMany" "I", .methodLink RX11 123 yX11_isNear, .static yX11_isNear, .code yX11_isNear cX11_isNear 2 (some .boolean), .constantLong RX11 115 (1000000000000), .constantLong RX11 117 (-1000000000000)] ++ wsX110)
def wsX11_goOn : List Cond := .code yX11_goOn cX11_goOn 2 none :: ([.fieldLink RX11 16 "CoarseStepsModel" "many" "I", .fieldLink RX11 66 "CoarseStepsModel" "now" "[J", .fieldLink RX11 69 "CoarseStepsModel" "to" "[J"] ++ wsX110)
def wsX11_fromHere : List Cond := .code yX11_fromHere cX11_fromHere 2 none :: ([.fieldLink RX11 16 "CoarseStepsModel" "many" "I", .fieldLink RX11 66 "CoarseStepsModel" "now" "[J", .fieldLink RX11 38 "CoarseStepsModel" "sums" "[J"] ++ wsX110)
def wsX11_isWish : List Cond := .code yX11_isWish cX11_isWish 1 (some .boolean) :: ([.constant RX11 133 (-1000000), .constant RX11 134 (1000000)])
def wsX11_turn : List Cond := .code yX11_turn cX11_turn 6 none :: ([.fieldLink RX11 109 "CoarseStepsModel" "partMany" "I", .fieldLink RX11 48 "CoarseStepsModel" "on" "[I", .fieldLink RX11 106 "CoarseStepsModel" "rule" "I", .fieldLink RX11 84 "CoarseStepsModel" "hand" "I", .fieldLink RX11 51 "CoarseStepsModel" "often" "[I"] ++ wsX110)
def wsX11_done_r1 : List Cond := [Cond.fieldLink RX11 72 "CoarseStepsModel" "made" "[I", Cond.fieldLink RX11 103 "CoarseStepsModel" "kind" "I", Cond.fieldLink RX11 16 "CoarseStepsModel" "many" "I", Cond.fieldLink RX11 87 "CoarseStepsModel" "dBefore" "I", Cond.fieldLink RX11 90 "CoarseStepsModel" "fBefore" "I", Cond.fieldLink RX11 93 "CoarseStepsModel" "fFirst" "I", Cond.fieldLink RX11 38 "CoarseStepsModel" "sums" "[J", Cond.fieldLink RX11 69 "CoarseStepsModel" "to" "[J", Cond.fieldLink RX11 54 "CoarseStepsModel" "given" "[I", Cond.fieldLink RX11 81 "CoarseStepsModel" "ticks" "I", Cond.fieldLink RX11 57 "CoarseStepsModel" "wished" "[I", Cond.fieldLink RX11 60 "CoarseStepsModel" "firstSum" "[J", Cond.methodLink RX11 135 yX11_fromHere, Cond.instanceMethod yX11_fromHere, Cond.selects RX11 yX11_fromHere yX11_fromHere, Cond.initialized RX11, Cond.code yX11_fromHere cX11_fromHere 2 none, Cond.fieldLink RX11 66 "CoarseStepsModel" "now" "[J", Cond.methodLink RX11 138 yX11_next, Cond.instanceMethod yX11_next, Cond.selects RX11 yX11_next yX11_next, Cond.code yX11_next cX11_next 7 (some .boolean), Cond.constantLong RX11 127 (2), Cond.fieldLink RX11 7 "CoarseStepsModel" "d" "I"]
def wsX11_done_r2 : List Cond := [Cond.fieldLink RX11 112 "CoarseStepsModel" "g" "I", Cond.fieldLink RX11 35 "CoarseStepsModel" "h" "[I", Cond.fieldLink RX11 29 "CoarseStepsModel" "b" "[I", Cond.fieldLink RX11 32 "CoarseStepsModel" "e" "[I", Cond.fieldLink RX11 26 "CoarseStepsModel" "a" "[I", Cond.methodLink RX11 129 yX11_stepFor, Cond.instanceMethod yX11_stepFor, Cond.selects RX11 yX11_stepFor yX11_stepFor, Cond.code yX11_stepFor cX11_stepFor 5 (some .int), Cond.fieldLink RX11 19 "CoarseStepsModel" "steps" "[I", Cond.fieldLink RX11 13 "CoarseStepsModel" "stepMany" "I", Cond.methodLink RX11 123 yX11_isNear, Cond.static yX11_isNear, Cond.code yX11_isNear cX11_isNear 2 (some .boolean), Cond.constantLong RX11 115 (1000000000000), Cond.constantLong RX11 117 (-1000000000000), Cond.methodLink RX11 141 yX11_turn, Cond.instanceMethod yX11_turn, Cond.selects RX11 yX11_turn yX11_turn, Cond.code yX11_turn cX11_turn 6 none, Cond.fieldLink RX11 109 "CoarseStepsModel" "partMany" "I", Cond.fieldLink RX11 48 "CoarseStepsModel" "on" "[I", Cond.fieldLink RX11 106 "CoarseStepsModel" "rule" "I", Cond.fieldLink RX11 84 "CoarseStepsModel" "hand" "I"]
def wsX11_done_r3 : List Cond := [Cond.fieldLink RX11 51 "CoarseStepsModel" "often" "[I"]
def wsX11_done : List Cond := .code yX11_done cX11_done 4 (some .boolean) :: ((wsX11_done_r1 ++ (wsX11_done_r2 ++ wsX11_done_r3)) ++ wsX110)
def wsX11_tick_r1 : List Cond := [Cond.fieldLink RX11 54 "CoarseStepsModel" "given" "[I", Cond.fieldLink RX11 81 "CoarseStepsModel" "ticks" "I", Cond.constant RX11 151 (-2147483648), Cond.methodLink RX11 145 yX11_isWish, Cond.static yX11_isWish, Cond.initialized RX11, Cond.code yX11_isWish cX11_isWish 1 (some .boolean), Cond.constant RX11 133 (-1000000), Cond.constant RX11 134 (1000000), Cond.methodLink RX11 148 yX11_done, Cond.instanceMethod yX11_done, Cond.selects RX11 yX11_done yX11_done, Cond.code yX11_done cX11_done 4 (some .boolean), Cond.fieldLink RX11 72 "CoarseStepsModel" "made" "[I", Cond.fieldLink RX11 103 "CoarseStepsModel" "kind" "I", Cond.fieldLink RX11 16 "CoarseStepsModel" "many" "I", Cond.fieldLink RX11 87 "CoarseStepsModel" "dBefore" "I", Cond.fieldLink RX11 90 "CoarseStepsModel" "fBefore" "I", Cond.fieldLink RX11 93 "CoarseStepsModel" "fFirst" "I", Cond.fieldLink RX11 38 "CoarseStepsModel" "sums" "[J", Cond.fieldLink RX11 69 "CoarseStepsModel" "to" "[J", Cond.fieldLink RX11 57 "CoarseStepsModel" "wished" "[I", Cond.fieldLink RX11 60 "CoarseStepsModel" "firstSum" "[J", Cond.methodLink RX11 135 yX11_fromHere]
def wsX11_tick_r2 : List Cond := [Cond.instanceMethod yX11_fromHere, Cond.selects RX11 yX11_fromHere yX11_fromHere, Cond.code yX11_fromHere cX11_fromHere 2 none, Cond.fieldLink RX11 66 "CoarseStepsModel" "now" "[J", Cond.methodLink RX11 138 yX11_next, Cond.instanceMethod yX11_next, Cond.selects RX11 yX11_next yX11_next, Cond.code yX11_next cX11_next 7 (some .boolean), Cond.constantLong RX11 127 (2), Cond.fieldLink RX11 7 "CoarseStepsModel" "d" "I", Cond.fieldLink RX11 112 "CoarseStepsModel" "g" "I", Cond.fieldLink RX11 35 "CoarseStepsModel" "h" "[I", Cond.fieldLink RX11 29 "CoarseStepsModel" "b" "[I", Cond.fieldLink RX11 32 "CoarseStepsModel" "e" "[I", Cond.fieldLink RX11 26 "CoarseStepsModel" "a" "[I", Cond.methodLink RX11 129 yX11_stepFor, Cond.instanceMethod yX11_stepFor, Cond.selects RX11 yX11_stepFor yX11_stepFor, Cond.code yX11_stepFor cX11_stepFor 5 (some .int), Cond.fieldLink RX11 19 "CoarseStepsModel" "steps" "[I", Cond.fieldLink RX11 13 "CoarseStepsModel" "stepMany" "I", Cond.methodLink RX11 123 yX11_isNear, Cond.static yX11_isNear, Cond.code yX11_isNear cX11_isNear 2 (some .boolean)]
def wsX11_tick_r3 : List Cond := [Cond.constantLong RX11 115 (1000000000000), Cond.constantLong RX11 117 (-1000000000000), Cond.methodLink RX11 141 yX11_turn, Cond.instanceMethod yX11_turn, Cond.selects RX11 yX11_turn yX11_turn, Cond.code yX11_turn cX11_turn 6 none, Cond.fieldLink RX11 109 "CoarseStepsModel" "partMany" "I", Cond.fieldLink RX11 48 "CoarseStepsModel" "on" "[I", Cond.fieldLink RX11 106 "CoarseStepsModel" "rule" "I", Cond.fieldLink RX11 84 "CoarseStepsModel" "hand" "I", Cond.fieldLink RX11 51 "CoarseStepsModel" "often" "[I"]
def wsX11_tick : List Cond := .code yX11_tick cX11_tick 2 (some .int) :: ((wsX11_tick_r1 ++ (wsX11_tick_r2 ++ wsX11_tick_r3)) ++ wsX110)
def wsX11_run_r1 : List Cond := [Cond.methodLink RX11 145 yX11_isWish, Cond.static yX11_isWish, Cond.initialized RX11, Cond.code yX11_isWish cX11_isWish 1 (some .boolean), Cond.constant RX11 133 (-1000000), Cond.constant RX11 134 (1000000), Cond.methodLink RX11 148 yX11_done, Cond.instanceMethod yX11_done, Cond.selects RX11 yX11_done yX11_done, Cond.code yX11_done cX11_done 4 (some .boolean), Cond.fieldLink RX11 72 "CoarseStepsModel" "made" "[I", Cond.fieldLink RX11 103 "CoarseStepsModel" "kind" "I", Cond.fieldLink RX11 16 "CoarseStepsModel" "many" "I", Cond.fieldLink RX11 87 "CoarseStepsModel" "dBefore" "I", Cond.fieldLink RX11 90 "CoarseStepsModel" "fBefore" "I", Cond.fieldLink RX11 93 "CoarseStepsModel" "fFirst" "I", Cond.fieldLink RX11 38 "CoarseStepsModel" "sums" "[J", Cond.fieldLink RX11 69 "CoarseStepsModel" "to" "[J", Cond.fieldLink RX11 54 "CoarseStepsModel" "given" "[I", Cond.fieldLink RX11 81 "CoarseStepsModel" "ticks" "I", Cond.fieldLink RX11 57 "CoarseStepsModel" "wished" "[I", Cond.fieldLink RX11 60 "CoarseStepsModel" "firstSum" "[J", Cond.methodLink RX11 135 yX11_fromHere, Cond.instanceMethod yX11_fromHere]
def wsX11_run_r2 : List Cond := [Cond.selects RX11 yX11_fromHere yX11_fromHere, Cond.code yX11_fromHere cX11_fromHere 2 none, Cond.fieldLink RX11 66 "CoarseStepsModel" "now" "[J", Cond.methodLink RX11 138 yX11_next, Cond.instanceMethod yX11_next, Cond.selects RX11 yX11_next yX11_next, Cond.code yX11_next cX11_next 7 (some .boolean), Cond.constantLong RX11 127 (2), Cond.fieldLink RX11 7 "CoarseStepsModel" "d" "I", Cond.fieldLink RX11 112 "CoarseStepsModel" "g" "I", Cond.fieldLink RX11 35 "CoarseStepsModel" "h" "[I", Cond.fieldLink RX11 29 "CoarseStepsModel" "b" "[I", Cond.fieldLink RX11 32 "CoarseStepsModel" "e" "[I", Cond.fieldLink RX11 26 "CoarseStepsModel" "a" "[I", Cond.methodLink RX11 129 yX11_stepFor, Cond.instanceMethod yX11_stepFor, Cond.selects RX11 yX11_stepFor yX11_stepFor, Cond.code yX11_stepFor cX11_stepFor 5 (some .int), Cond.fieldLink RX11 19 "CoarseStepsModel" "steps" "[I", Cond.fieldLink RX11 13 "CoarseStepsModel" "stepMany" "I", Cond.methodLink RX11 123 yX11_isNear, Cond.static yX11_isNear, Cond.code yX11_isNear cX11_isNear 2 (some .boolean), Cond.constantLong RX11 115 (1000000000000)]
def wsX11_run_r3 : List Cond := [Cond.constantLong RX11 117 (-1000000000000), Cond.methodLink RX11 141 yX11_turn, Cond.instanceMethod yX11_turn, Cond.selects RX11 yX11_turn yX11_turn, Cond.code yX11_turn cX11_turn 6 none, Cond.fieldLink RX11 109 "CoarseStepsModel" "partMany" "I", Cond.fieldLink RX11 48 "CoarseStepsModel" "on" "[I", Cond.fieldLink RX11 106 "CoarseStepsModel" "rule" "I", Cond.fieldLink RX11 84 "CoarseStepsModel" "hand" "I", Cond.fieldLink RX11 51 "CoarseStepsModel" "often" "[I"]
def wsX11_run : List Cond := .code yX11_run cX11_run 4 (some .int) :: ((wsX11_run_r1 ++ (wsX11_run_r2 ++ wsX11_run_r3)) ++ wsX110)
def wsX11_sum : List Cond := .code yX11_sum cX11_sum 2 (some .long) :: ([.fieldLink RX11 38 "CoarseStepsModel" "sums" "[J", .methodLink RX11 119 yX11_isSum, .instanceMethod yX11_isSum, .selects RX11 yX11_isSum yX11_isSum, .initialized RX11, .code yX11_isSum cX11_isSum 2 (some .boolean), .fieldLink RX11 16 "CoarseStepsModel" "many" "I"] ++ wsX110)
def wsX11_kept : List Cond := .code yX11_kept cX11_kept 1 (some .int) :: ([.fieldLink RX11 81 "CoarseStepsModel" "ticks" "I"] ++ wsX110)
def wsX11_latest : List Cond := .code yX11_latest cX11_latest 2 (some .int) :: ([.fieldLink RX11 81 "CoarseStepsModel" "ticks" "I"] ++ wsX110)
def wsX11_was : List Cond := .code yX11_was cX11_was 3 (some .int) :: ([.constant RX11 151 (-2147483648), .fieldLink RX11 54 "CoarseStepsModel" "given" "[I", .fieldLink RX11 57 "CoarseStepsModel" "wished" "[I", .methodLink RX11 152 yX11_kept, .instanceMethod yX11_kept, .selects RX11 yX11_kept yX11_kept, .initialized RX11, .code yX11_kept cX11_kept 1 (some .int), .fieldLink RX11 81 "CoarseStepsModel" "ticks" "I", .methodLink RX11 156 yX11_latest, .instanceMethod yX11_latest, .selects RX11 yX11_latest yX11_latest, .code yX11_latest cX11_latest 2 (some .int)] ++ wsX110)
def wsX11_behind : List Cond := .code yX11_behind cX11_behind 2 (some .long) :: ([.fieldLink RX11 60 "CoarseStepsModel" "firstSum" "[J", .methodLink RX11 152 yX11_kept, .instanceMethod yX11_kept, .selects RX11 yX11_kept yX11_kept, .initialized RX11, .code yX11_kept cX11_kept 1 (some .int), .fieldLink RX11 81 "CoarseStepsModel" "ticks" "I", .methodLink RX11 156 yX11_latest, .instanceMethod yX11_latest, .selects RX11 yX11_latest yX11_latest, .code yX11_latest cX11_latest 2 (some .int)] ++ wsX110)
def wsX11_missed : List Cond := .code yX11_missed cX11_missed 5 (some .long) :: ([.fieldLink RX11 54 "CoarseStepsModel" "given" "[I", .fieldLink RX11 7 "CoarseStepsModel" "d" "I", .fieldLink RX11 57 "CoarseStepsModel" "wished" "[I", .methodLink RX11 152 yX11_kept, .instanceMethod yX11_kept, .selects RX11 yX11_kept yX11_kept, .initialized RX11, .code yX11_kept cX11_kept 1 (some .int), .fieldLink RX11 81 "CoarseStepsModel" "ticks" "I", .methodLink RX11 156 yX11_latest, .instanceMethod yX11_latest, .selects RX11 yX11_latest yX11_latest, .code yX11_latest cX11_latest 2 (some .int)] ++ wsX110)
def wsX11_ring_r1 : List Cond := [Cond.fieldLink RX11 16 "CoarseStepsModel" "many" "I", Cond.fieldLink RX11 75 "CoarseStepsModel" "path" "[J", Cond.fieldLink RX11 66 "CoarseStepsModel" "now" "[J", Cond.fieldLink RX11 163 "CoarseStepsModel" "tailTold" "I", Cond.methodLink RX11 145 yX11_isWish, Cond.static yX11_isWish, Cond.initialized RX11, Cond.code yX11_isWish cX11_isWish 1 (some .boolean), Cond.constant RX11 133 (-1000000), Cond.constant RX11 134 (1000000), Cond.methodLink RX11 135 yX11_fromHere, Cond.instanceMethod yX11_fromHere, Cond.selects RX11 yX11_fromHere yX11_fromHere, Cond.code yX11_fromHere cX11_fromHere 2 none, Cond.fieldLink RX11 38 "CoarseStepsModel" "sums" "[J", Cond.methodLink RX11 138 yX11_next, Cond.instanceMethod yX11_next, Cond.selects RX11 yX11_next yX11_next, Cond.code yX11_next cX11_next 7 (some .boolean), Cond.fieldLink RX11 103 "CoarseStepsModel" "kind" "I", Cond.constantLong RX11 127 (2), Cond.fieldLink RX11 72 "CoarseStepsModel" "made" "[I", Cond.fieldLink RX11 69 "CoarseStepsModel" "to" "[J", Cond.fieldLink RX11 7 "CoarseStepsModel" "d" "I"]
def wsX11_ring_r2 : List Cond := [Cond.fieldLink RX11 112 "CoarseStepsModel" "g" "I", Cond.fieldLink RX11 35 "CoarseStepsModel" "h" "[I", Cond.fieldLink RX11 29 "CoarseStepsModel" "b" "[I", Cond.fieldLink RX11 32 "CoarseStepsModel" "e" "[I", Cond.fieldLink RX11 26 "CoarseStepsModel" "a" "[I", Cond.methodLink RX11 129 yX11_stepFor, Cond.instanceMethod yX11_stepFor, Cond.selects RX11 yX11_stepFor yX11_stepFor, Cond.code yX11_stepFor cX11_stepFor 5 (some .int), Cond.fieldLink RX11 19 "CoarseStepsModel" "steps" "[I", Cond.fieldLink RX11 13 "CoarseStepsModel" "stepMany" "I", Cond.methodLink RX11 123 yX11_isNear, Cond.static yX11_isNear, Cond.code yX11_isNear cX11_isNear 2 (some .boolean), Cond.constantLong RX11 115 (1000000000000), Cond.constantLong RX11 117 (-1000000000000), Cond.methodLink RX11 160 yX11_goOn, Cond.instanceMethod yX11_goOn, Cond.selects RX11 yX11_goOn yX11_goOn, Cond.code yX11_goOn cX11_goOn 2 none]
def wsX11_ring : List Cond := .code yX11_ring cX11_ring 6 (some .int) :: ((wsX11_ring_r1 ++ wsX11_ring_r2) ++ wsX110)
def wsX11_tail : List Cond := .code yX11_tail cX11_tail 1 (some .int) :: ([.fieldLink RX11 163 "CoarseStepsModel" "tailTold" "I"] ++ wsX110)
def wsX11_leaves_r1 : List Cond := [Cond.fieldLink RX11 16 "CoarseStepsModel" "many" "I", Cond.fieldLink RX11 69 "CoarseStepsModel" "to" "[J", Cond.methodLink RX11 145 yX11_isWish, Cond.static yX11_isWish, Cond.initialized RX11, Cond.code yX11_isWish cX11_isWish 1 (some .boolean), Cond.constant RX11 133 (-1000000), Cond.constant RX11 134 (1000000), Cond.methodLink RX11 135 yX11_fromHere, Cond.instanceMethod yX11_fromHere, Cond.selects RX11 yX11_fromHere yX11_fromHere, Cond.code yX11_fromHere cX11_fromHere 2 none, Cond.fieldLink RX11 66 "CoarseStepsModel" "now" "[J", Cond.fieldLink RX11 38 "CoarseStepsModel" "sums" "[J", Cond.methodLink RX11 138 yX11_next, Cond.instanceMethod yX11_next, Cond.selects RX11 yX11_next yX11_next, Cond.code yX11_next cX11_next 7 (some .boolean), Cond.fieldLink RX11 103 "CoarseStepsModel" "kind" "I", Cond.constantLong RX11 127 (2), Cond.fieldLink RX11 72 "CoarseStepsModel" "made" "[I", Cond.fieldLink RX11 7 "CoarseStepsModel" "d" "I", Cond.fieldLink RX11 112 "CoarseStepsModel" "g" "I", Cond.fieldLink RX11 35 "CoarseStepsModel" "h" "[I"]
def wsX11_leaves_r2 : List Cond := [Cond.fieldLink RX11 29 "CoarseStepsModel" "b" "[I", Cond.fieldLink RX11 32 "CoarseStepsModel" "e" "[I", Cond.fieldLink RX11 26 "CoarseStepsModel" "a" "[I", Cond.methodLink RX11 129 yX11_stepFor, Cond.instanceMethod yX11_stepFor, Cond.selects RX11 yX11_stepFor yX11_stepFor, Cond.code yX11_stepFor cX11_stepFor 5 (some .int), Cond.fieldLink RX11 19 "CoarseStepsModel" "steps" "[I", Cond.fieldLink RX11 13 "CoarseStepsModel" "stepMany" "I", Cond.methodLink RX11 123 yX11_isNear, Cond.static yX11_isNear, Cond.code yX11_isNear cX11_isNear 2 (some .boolean), Cond.constantLong RX11 115 (1000000000000), Cond.constantLong RX11 117 (-1000000000000), Cond.methodLink RX11 160 yX11_goOn, Cond.instanceMethod yX11_goOn, Cond.selects RX11 yX11_goOn yX11_goOn, Cond.code yX11_goOn cX11_goOn 2 none]
def wsX11_leaves : List Cond := .code yX11_leaves cX11_leaves 7 (some .int) :: ((wsX11_leaves_r1 ++ wsX11_leaves_r2) ++ wsX110)
def wsX11_box : List Cond := .code yX11_box cX11_box 6 (some .boolean) :: ([.fieldLink RX11 42 "CoarseStepsModel" "least" "[J", .fieldLink RX11 45 "CoarseStepsModel" "most" "[J", .methodLink RX11 119 yX11_isSum, .instanceMethod yX11_isSum, .selects RX11 yX11_isSum yX11_isSum, .initialized RX11, .code yX11_isSum cX11_isSum 2 (some .boolean), .fieldLink RX11 16 "CoarseStepsModel" "many" "I", .methodLink RX11 123 yX11_isNear, .static yX11_isNear, .code yX11_isNear cX11_isNear 2 (some .boolean), .constantLong RX11 115 (1000000000000), .constantLong RX11 117 (-1000000000000)] ++ wsX110)
def wsX11_kept__r1 : List Cond := [Cond.fieldLink RX11 16 "CoarseStepsModel" "many" "I", Cond.fieldLink RX11 45 "CoarseStepsModel" "most" "[J", Cond.fieldLink RX11 42 "CoarseStepsModel" "least" "[J", Cond.constantLong RX11 166 (100000), Cond.fieldLink RX11 66 "CoarseStepsModel" "now" "[J", Cond.fieldLink RX11 69 "CoarseStepsModel" "to" "[J", Cond.methodLink RX11 145 yX11_isWish, Cond.static yX11_isWish, Cond.initialized RX11, Cond.code yX11_isWish cX11_isWish 1 (some .boolean), Cond.constant RX11 133 (-1000000), Cond.constant RX11 134 (1000000), Cond.methodLink RX11 138 yX11_next, Cond.instanceMethod yX11_next, Cond.selects RX11 yX11_next yX11_next, Cond.code yX11_next cX11_next 7 (some .boolean), Cond.fieldLink RX11 103 "CoarseStepsModel" "kind" "I", Cond.constantLong RX11 127 (2), Cond.fieldLink RX11 72 "CoarseStepsModel" "made" "[I", Cond.fieldLink RX11 7 "CoarseStepsModel" "d" "I", Cond.fieldLink RX11 112 "CoarseStepsModel" "g" "I", Cond.fieldLink RX11 35 "CoarseStepsModel" "h" "[I", Cond.fieldLink RX11 29 "CoarseStepsModel" "b" "[I", Cond.fieldLink RX11 32 "CoarseStepsModel" "e" "[I"]
def wsX11_kept__r2 : List Cond := [Cond.fieldLink RX11 26 "CoarseStepsModel" "a" "[I", Cond.methodLink RX11 129 yX11_stepFor, Cond.instanceMethod yX11_stepFor, Cond.selects RX11 yX11_stepFor yX11_stepFor, Cond.code yX11_stepFor cX11_stepFor 5 (some .int), Cond.fieldLink RX11 19 "CoarseStepsModel" "steps" "[I", Cond.fieldLink RX11 13 "CoarseStepsModel" "stepMany" "I", Cond.methodLink RX11 123 yX11_isNear, Cond.static yX11_isNear, Cond.code yX11_isNear cX11_isNear 2 (some .boolean), Cond.constantLong RX11 115 (1000000000000), Cond.constantLong RX11 117 (-1000000000000)]
def wsX11_kept_ : List Cond := .code yX11_kept_ cX11_kept_ 13 (some .int) :: ((wsX11_kept__r1 ++ wsX11_kept__r2) ++ wsX110)
def wsX11_word : List Cond := .code yX11_word cX11_word 3 (some .int) :: ([.fieldLink RX11 7 "CoarseStepsModel" "d" "I", .constant RX11 134 (1000000)] ++ wsX110)
def wsX11_even : List Cond := .code yX11_even cX11_even 11 (some .int) :: ([.constantLong RX11 115 (1000000000000), .constantLong RX11 117 (-1000000000000), .fieldLink RX11 54 "CoarseStepsModel" "given" "[I", .methodLink RX11 152 yX11_kept, .instanceMethod yX11_kept, .selects RX11 yX11_kept yX11_kept, .initialized RX11, .code yX11_kept cX11_kept 1 (some .int), .fieldLink RX11 81 "CoarseStepsModel" "ticks" "I", .methodLink RX11 156 yX11_latest, .instanceMethod yX11_latest, .selects RX11 yX11_latest yX11_latest, .code yX11_latest cX11_latest 2 (some .int)] ++ wsX110)
def wsX11_weight : List Cond := .code yX11_weight cX11_weight 2 (some .int) :: ([.fieldLink RX11 168 "CoarseStepsModel" "weightMany" "I", .fieldLink RX11 63 "CoarseStepsModel" "weights" "[I"] ++ wsX110)
def wsX11_clear : List Cond := .code yX11_clear cX11_clear 2 (some .int) :: ([.fieldLink RX11 168 "CoarseStepsModel" "weightMany" "I"] ++ wsX110)
def wsX11_read : List Cond := .code yX11_read cX11_read 4 (some .long) :: ([.fieldLink RX11 168 "CoarseStepsModel" "weightMany" "I", .fieldLink RX11 63 "CoarseStepsModel" "weights" "[I", .fieldLink RX11 54 "CoarseStepsModel" "given" "[I", .methodLink RX11 152 yX11_kept, .instanceMethod yX11_kept, .selects RX11 yX11_kept yX11_kept, .initialized RX11, .code yX11_kept cX11_kept 1 (some .int), .fieldLink RX11 81 "CoarseStepsModel" "ticks" "I", .methodLink RX11 156 yX11_latest, .instanceMethod yX11_latest, .selects RX11 yX11_latest yX11_latest, .code yX11_latest cX11_latest 2 (some .int)] ++ wsX110)
def wsX11_floor : List Cond := .code yX11_floor cX11_floor 6 (some .long) :: ([])
def wsX11_back : List Cond := .code yX11_back cX11_back 14 (some .int) :: ([.fieldLink RX11 81 "CoarseStepsModel" "ticks" "I", .fieldLink RX11 103 "CoarseStepsModel" "kind" "I", .fieldLink RX11 96 "CoarseStepsModel" "beganElsewhere" "Z", .constant RX11 151 (-2147483648), .constantLong RX11 171 (-1000000), .constantLong RX11 173 (1000000), .fieldLink RX11 54 "CoarseStepsModel" "given" "[I", .fieldLink RX11 19 "CoarseStepsModel" "steps" "[I", .fieldLink RX11 7 "CoarseStepsModel" "d" "I", .fieldLink RX11 13 "CoarseStepsModel" "stepMany" "I", .methodLink RX11 175 yX11_floor, .static yX11_floor, .initialized RX11, .code yX11_floor cX11_floor 6 (some .long)] ++ wsX110)
def wsX11_range : List Cond := .code yX11_range cX11_range 11 (some .int) :: ([.fieldLink RX11 7 "CoarseStepsModel" "d" "I", .fieldLink RX11 78 "CoarseStepsModel" "rowNow" "[I", .methodLink RX11 145 yX11_isWish, .static yX11_isWish, .initialized RX11, .code yX11_isWish cX11_isWish 1 (some .boolean), .constant RX11 133 (-1000000), .constant RX11 134 (1000000), .methodLink RX11 129 yX11_stepFor, .instanceMethod yX11_stepFor, .selects RX11 yX11_stepFor yX11_stepFor, .code yX11_stepFor cX11_stepFor 5 (some .int), .fieldLink RX11 19 "CoarseStepsModel" "steps" "[I", .fieldLink RX11 13 "CoarseStepsModel" "stepMany" "I"] ++ wsX110)
def wsX11_part : List Cond := .code yX11_part cX11_part 3 (some .int) :: ([.fieldLink RX11 109 "CoarseStepsModel" "partMany" "I", .fieldLink RX11 48 "CoarseStepsModel" "on" "[I", .fieldLink RX11 51 "CoarseStepsModel" "often" "[I"] ++ wsX110)
def wsX11_spread : List Cond := .code yX11_spread cX11_spread 4 (some .int) :: ([.fieldLink RX11 103 "CoarseStepsModel" "kind" "I", .fieldLink RX11 51 "CoarseStepsModel" "often" "[I", .fieldLink RX11 109 "CoarseStepsModel" "partMany" "I"] ++ wsX110)
def wsX11_about : List Cond := .code yX11_about cX11_about 2 (some .int) :: ([.fieldLink RX11 7 "CoarseStepsModel" "d" "I", .fieldLink RX11 13 "CoarseStepsModel" "stepMany" "I", .fieldLink RX11 103 "CoarseStepsModel" "kind" "I", .fieldLink RX11 16 "CoarseStepsModel" "many" "I", .fieldLink RX11 109 "CoarseStepsModel" "partMany" "I", .fieldLink RX11 81 "CoarseStepsModel" "ticks" "I", .fieldLink RX11 168 "CoarseStepsModel" "weightMany" "I", .fieldLink RX11 84 "CoarseStepsModel" "hand" "I", .methodLink RX11 152 yX11_kept, .instanceMethod yX11_kept, .selects RX11 yX11_kept yX11_kept, .initialized RX11, .code yX11_kept cX11_kept 1 (some .int)] ++ wsX110)
def wsX11_step : List Cond := .code yX11_step cX11_step 2 (some .int) :: ([.fieldLink RX11 13 "CoarseStepsModel" "stepMany" "I", .constant RX11 151 (-2147483648), .fieldLink RX11 19 "CoarseStepsModel" "steps" "[I"] ++ wsX110)
def wsJ9_max_7cf53 : List Cond := .code yJ9_max_7cf53 cJ9_max_7cf53 2 (some .int) :: ([])
def wsJ9_max_f86c9 : List Cond := .code yJ9_max_f86c9 cJ9_max_f86c9 4 (some .long) :: ([])
def wsJ9_min_7cf53 : List Cond := .code yJ9_min_7cf53 cJ9_min_7cf53 2 (some .int) :: ([])
def wsJ9_min_f86c9 : List Cond := .code yJ9_min_f86c9 cJ9_min_f86c9 4 (some .long) :: ([])
def wsL_law_r1 : List Cond := [Cond.classLink RL 7 RX10, Cond.instantiable RX10 6, Cond.initialized RX10, Cond.classLink RL 10 RX11, Cond.instantiable RX11 35, Cond.initialized RX11, Cond.constantLong RL 32 (4294967295), Cond.methodLink RL 9 yX10_init, Cond.instanceMethod yX10_init, Cond.code yX10_init cX10_init 1 none, Cond.methodLink RX10 1 objectInit, Cond.instanceMethod objectInit, Cond.code objectInit ⟨#[0xb1]⟩ 1 none, Cond.classLink RX10 7 RX7, Cond.instantiable RX7 3, Cond.initialized RX7, Cond.fieldLink RX10 10 "CoarseSteps" "scale" "LCoarseSteps$Scale;", Cond.classLink RX10 16 RX4, Cond.instantiable RX4 9, Cond.initialized RX4, Cond.fieldLink RX10 21 "CoarseSteps" "loop" "LCoarseSteps$Loop;", Cond.classLink RX10 25 RX6, Cond.instantiable RX6 4, Cond.initialized RX6]
def wsL_law_r2 : List Cond := [Cond.fieldLink RX10 30 "CoarseSteps" "outlook" "LCoarseSteps$Outlook;", Cond.classLink RX10 34 RX0, Cond.instantiable RX0 4, Cond.initialized RX0, Cond.fieldLink RX10 37 "CoarseSteps" "inside" "LCoarseSteps$Box;", Cond.classLink RX10 41 RX2, Cond.instantiable RX2 2, Cond.initialized RX2, Cond.fieldLink RX10 44 "CoarseSteps" "filter" "LCoarseSteps$Filter;", Cond.classLink RX10 48 RX1, Cond.instantiable RX1 3, Cond.initialized RX1, Cond.fieldLink RX10 51 "CoarseSteps" "claim" "LCoarseSteps$Claim;", Cond.methodLink RX10 9 yX7_init, Cond.instanceMethod yX7_init, Cond.code yX7_init cX7_init 1 none, Cond.methodLink RX7 3 objectInit, Cond.fieldLink RX7 9 "CoarseSteps$Scale" "over" "I", Cond.fieldLink RX7 15 "CoarseSteps$Scale" "count" "I", Cond.arrayClass .int, Cond.fieldLink RX7 18 "CoarseSteps$Scale" "values" "[I", Cond.methodLink RX10 18 yX4_init, Cond.instanceMethod yX4_init, Cond.code yX4_init cX4_init 2 none]
def wsL_law_r3 : List Cond := [Cond.methodLink RX4 3 objectInit, Cond.classLink RX4 9 RX9, Cond.instantiable RX9 5, Cond.initialized RX9, Cond.fieldLink RX4 12 "CoarseSteps$Loop" "wheel" "LCoarseSteps$Wheel;", Cond.classLink RX4 18 RX3, Cond.instantiable RX3 6, Cond.initialized RX3, Cond.fieldLink RX4 21 "CoarseSteps$Loop" "history" "LCoarseSteps$History;", Cond.arrayClass .long, Cond.fieldLink RX4 25 "CoarseSteps$Loop" "sums" "[J", Cond.classLink RX4 29 RX5, Cond.instantiable RX5 6, Cond.initialized RX5, Cond.fieldLink RX4 34 "CoarseSteps$Loop" "mover" "LCoarseSteps$Mover;", Cond.instanceMethod yX9_init, Cond.code yX9_init cX9_init 1 none, Cond.methodLink RX9 3 objectInit, Cond.arrayClass .boolean, Cond.fieldLink RX9 9 "CoarseSteps$Wheel" "isOn" "[Z", Cond.fieldLink RX9 15 "CoarseSteps$Wheel" "timesOn" "[I", Cond.instanceMethod yX3_init, Cond.code yX3_init cX3_init 1 none, Cond.methodLink RX3 3 objectInit]
def wsL_law_r4 : List Cond := [Cond.fieldLink RX3 9 "CoarseSteps$History" "wishes" "[I", Cond.fieldLink RX3 15 "CoarseSteps$History" "givens" "[I", Cond.fieldLink RX3 18 "CoarseSteps$History" "sums" "[J", Cond.fieldLink RX3 22 "CoarseSteps$History" "totals" "[I", Cond.methodLink RX4 31 yX5_init, Cond.instanceMethod yX5_init, Cond.code yX5_init cX5_init 2 none, Cond.methodLink RX5 3 objectInit, Cond.classLink RX5 9 RX8, Cond.instantiable RX8 6, Cond.initialized RX8, Cond.fieldLink RX5 12 "CoarseSteps$Mover" "tables" "LCoarseSteps$Tables;", Cond.fieldLink RX5 18 "CoarseSteps$Mover" "coming" "[J", Cond.fieldLink RX5 22 "CoarseSteps$Mover" "picked" "[I", Cond.fieldLink RX5 26 "CoarseSteps$Mover" "kind" "I", Cond.fieldLink RX5 30 "CoarseSteps$Mover" "sums" "I", Cond.fieldLink RX5 33 "CoarseSteps$Mover" "scale" "LCoarseSteps$Scale;", Cond.instanceMethod yX8_init, Cond.code yX8_init cX8_init 1 none, Cond.methodLink RX8 3 objectInit, Cond.fieldLink RX8 9 "CoarseSteps$Tables" "sums" "I", Cond.fieldLink RX8 15 "CoarseSteps$Tables" "a" "[I", Cond.fieldLink RX8 19 "CoarseSteps$Tables" "b" "[I", Cond.fieldLink RX8 22 "CoarseSteps$Tables" "e" "[I"]
def wsL_law_r5 : List Cond := [Cond.fieldLink RX8 25 "CoarseSteps$Tables" "h" "[I", Cond.methodLink RX10 27 yX6_init, Cond.instanceMethod yX6_init, Cond.code yX6_init cX6_init 2 none, Cond.methodLink RX6 3 objectInit, Cond.fieldLink RX6 9 "CoarseSteps$Outlook" "at" "[J", Cond.fieldLink RX6 15 "CoarseSteps$Outlook" "mark" "[J", Cond.fieldLink RX6 18 "CoarseSteps$Outlook" "loop" "LCoarseSteps$Loop;", Cond.instanceMethod yX0_init, Cond.code yX0_init cX0_init 1 none, Cond.methodLink RX0 3 objectInit, Cond.fieldLink RX0 9 "CoarseSteps$Box" "least" "[J", Cond.fieldLink RX0 15 "CoarseSteps$Box" "most" "[J", Cond.fieldLink RX0 18 "CoarseSteps$Box" "place" "[J", Cond.fieldLink RX0 21 "CoarseSteps$Box" "at" "[J", Cond.instanceMethod yX2_init, Cond.code yX2_init cX2_init 1 none, Cond.methodLink RX2 3 objectInit, Cond.fieldLink RX2 9 "CoarseSteps$Filter" "weights" "[I", Cond.methodLink RX10 50 yX1_init, Cond.instanceMethod yX1_init, Cond.code yX1_init cX1_init 2 none, Cond.methodLink RX1 3 objectInit, Cond.fieldLink RX1 9 "CoarseSteps$Claim" "scale" "LCoarseSteps$Scale;"]
def wsL_law_r6 : List Cond := [Cond.methodLink RL 12 yX11_init, Cond.instanceMethod yX11_init, Cond.code yX11_init cX11_init 1 none, Cond.methodLink RX11 1 objectInit, Cond.fieldLink RX11 7 "CoarseStepsModel" "d" "I", Cond.fieldLink RX11 13 "CoarseStepsModel" "stepMany" "I", Cond.fieldLink RX11 16 "CoarseStepsModel" "many" "I", Cond.fieldLink RX11 19 "CoarseStepsModel" "steps" "[I", Cond.fieldLink RX11 23 "CoarseStepsModel" "stepsTold" "[I", Cond.fieldLink RX11 26 "CoarseStepsModel" "a" "[I", Cond.fieldLink RX11 29 "CoarseStepsModel" "b" "[I", Cond.fieldLink RX11 32 "CoarseStepsModel" "e" "[I", Cond.fieldLink RX11 35 "CoarseStepsModel" "h" "[I", Cond.fieldLink RX11 38 "CoarseStepsModel" "sums" "[J", Cond.fieldLink RX11 42 "CoarseStepsModel" "least" "[J", Cond.fieldLink RX11 45 "CoarseStepsModel" "most" "[J", Cond.fieldLink RX11 48 "CoarseStepsModel" "on" "[I", Cond.fieldLink RX11 51 "CoarseStepsModel" "often" "[I", Cond.fieldLink RX11 54 "CoarseStepsModel" "given" "[I", Cond.fieldLink RX11 57 "CoarseStepsModel" "wished" "[I", Cond.fieldLink RX11 60 "CoarseStepsModel" "firstSum" "[J", Cond.fieldLink RX11 63 "CoarseStepsModel" "weights" "[I", Cond.fieldLink RX11 66 "CoarseStepsModel" "now" "[J", Cond.fieldLink RX11 69 "CoarseStepsModel" "to" "[J"]
def wsL_law_r7 : List Cond := [Cond.fieldLink RX11 72 "CoarseStepsModel" "made" "[I", Cond.fieldLink RX11 75 "CoarseStepsModel" "path" "[J", Cond.fieldLink RX11 78 "CoarseStepsModel" "rowNow" "[I", Cond.methodLink RL 13 yX10_over, Cond.instanceMethod yX10_over, Cond.selects RX10 yX10_over yX10_over, Cond.code yX10_over cX10_over 2 (some .boolean), Cond.methodLink RX10 59 yX4_beginAnew, Cond.instanceMethod yX4_beginAnew, Cond.selects RX4 yX4_beginAnew yX4_beginAnew, Cond.code yX4_beginAnew cX4_beginAnew 2 none, Cond.fieldLink RX4 46 "CoarseSteps$Loop" "ticks" "I", Cond.fieldLink RX4 50 "CoarseSteps$Loop" "firstBeganWith" "J", Cond.fieldLink RX4 54 "CoarseSteps$Loop" "secondBefore" "I", Cond.fieldLink RX4 57 "CoarseSteps$Loop" "thirdBefore" "I", Cond.fieldLink RX4 60 "CoarseSteps$Loop" "thirdTwoBefore" "I", Cond.methodLink RX4 63 yX9_beginAnew, Cond.instanceMethod yX9_beginAnew, Cond.selects RX9 yX9_beginAnew yX9_beginAnew, Cond.code yX9_beginAnew cX9_beginAnew 2 none, Cond.fieldLink RX9 29 "CoarseSteps$Wheel" "hand" "I", Cond.methodLink RX4 64 yX3_forget, Cond.instanceMethod yX3_forget, Cond.selects RX3 yX3_forget yX3_forget]
def wsL_law_r8 : List Cond := [Cond.code yX3_forget cX3_forget 1 none, Cond.fieldLink RX3 25 "CoarseSteps$History" "next" "I", Cond.fieldLink RX3 29 "CoarseSteps$History" "kept" "I", Cond.methodLink RL 17 yX11_over, Cond.instanceMethod yX11_over, Cond.selects RX11 yX11_over yX11_over, Cond.code yX11_over cX11_over 2 (some .boolean), Cond.methodLink RX11 100 yX11_anew, Cond.instanceMethod yX11_anew, Cond.selects RX11 yX11_anew yX11_anew, Cond.code yX11_anew cX11_anew 2 none, Cond.fieldLink RX11 81 "CoarseStepsModel" "ticks" "I", Cond.fieldLink RX11 84 "CoarseStepsModel" "hand" "I", Cond.fieldLink RX11 87 "CoarseStepsModel" "dBefore" "I", Cond.fieldLink RX11 90 "CoarseStepsModel" "fBefore" "I", Cond.fieldLink RX11 93 "CoarseStepsModel" "fFirst" "I", Cond.fieldLink RX11 96 "CoarseStepsModel" "beganElsewhere" "Z", Cond.methodLink RL 18 yX10_steps, Cond.instanceMethod yX10_steps, Cond.selects RX10 yX10_steps yX10_steps, Cond.code yX10_steps cX10_steps 11 (some .boolean), Cond.methodLink RX10 62 yX7_canTake, Cond.instanceMethod yX7_canTake, Cond.selects RX7 yX7_canTake yX7_canTake]
def wsL_law_r9 : List Cond := [Cond.code yX7_canTake cX7_canTake 4 (some .boolean), Cond.static yX10_isWithin, Cond.code yX10_isWithin cX10_isWithin 2 (some .boolean), Cond.methodLink RX10 66 yX7_take, Cond.instanceMethod yX7_take, Cond.selects RX7 yX7_take yX7_take, Cond.code yX7_take cX7_take 4 none, Cond.methodLink RL 22 yX11_steps, Cond.instanceMethod yX11_steps, Cond.selects RX11 yX11_steps yX11_steps, Cond.code yX11_steps cX11_steps 13 (some .boolean), Cond.methodLink RL 23 yX10_loop, Cond.instanceMethod yX10_loop, Cond.selects RX10 yX10_loop yX10_loop, Cond.code yX10_loop cX10_loop 5 (some .boolean), Cond.methodLink RX10 70 yX10_canLoop, Cond.static yX10_canLoop, Cond.code yX10_canLoop cX10_canLoop 3 (some .boolean), Cond.methodLink RX10 83 yX4_begin, Cond.instanceMethod yX4_begin, Cond.selects RX4 yX4_begin yX4_begin, Cond.code yX4_begin cX4_begin 4 none, Cond.methodLink RX4 38 yX5_begin, Cond.instanceMethod yX5_begin]
def wsL_law_r10 : List Cond := [Cond.selects RX5 yX5_begin yX5_begin, Cond.code yX5_begin cX5_begin 3 none, Cond.methodLink RX5 37 yX8_begin, Cond.instanceMethod yX8_begin, Cond.selects RX8 yX8_begin yX8_begin, Cond.code yX8_begin cX8_begin 3 none, Cond.fieldLink RX8 28 "CoarseSteps$Tables" "g" "I", Cond.methodLink RX4 42 yX9_begin, Cond.instanceMethod yX9_begin, Cond.selects RX9 yX9_begin yX9_begin, Cond.code yX9_begin cX9_begin 3 none, Cond.fieldLink RX9 19 "CoarseSteps$Wheel" "parts" "I", Cond.fieldLink RX9 23 "CoarseSteps$Wheel" "rule" "I", Cond.methodLink RX9 26 yX9_beginAnew, Cond.methodLink RX4 43 yX4_beginAnew, Cond.methodLink RX10 87 yX0_empty, Cond.instanceMethod yX0_empty, Cond.selects RX0 yX0_empty yX0_empty, Cond.code yX0_empty cX0_empty 2 none, Cond.methodLink RL 27 yX11_loop, Cond.instanceMethod yX11_loop, Cond.selects RX11 yX11_loop yX11_loop, Cond.code yX11_loop cX11_loop 7 (some .boolean), Cond.fieldLink RX11 103 "CoarseStepsModel" "kind" "I"]
def wsL_law_r11 : List Cond := [Cond.fieldLink RX11 106 "CoarseStepsModel" "rule" "I", Cond.fieldLink RX11 109 "CoarseStepsModel" "partMany" "I", Cond.fieldLink RX11 112 "CoarseStepsModel" "g" "I", Cond.methodLink RL 28 yX10_table, Cond.instanceMethod yX10_table, Cond.selects RX10 yX10_table yX10_table, Cond.code yX10_table cX10_table 4 (some .boolean), Cond.methodLink RX10 93 yX10_isWithin, Cond.methodLink RX10 101 yX8_put, Cond.instanceMethod yX8_put, Cond.selects RX8 yX8_put yX8_put, Cond.code yX8_put cX8_put 6 (some .boolean), Cond.methodLink RL 31 yX11_table, Cond.instanceMethod yX11_table, Cond.selects RX11 yX11_table yX11_table, Cond.code yX11_table cX11_table 6 (some .boolean), Cond.methodLink RL 34 yX10_start, Cond.instanceMethod yX10_start, Cond.selects RX10 yX10_start yX10_start, Cond.code yX10_start cX10_start 4 (some .boolean), Cond.methodLink RX10 106 yX5_hasSum, Cond.instanceMethod yX5_hasSum, Cond.selects RX5 yX5_hasSum yX5_hasSum, Cond.code yX5_hasSum cX5_hasSum 2 (some .boolean)]
def wsL_law_r12 : List Cond := [Cond.methodLink RX10 110 yX10_isSum, Cond.static yX10_isSum, Cond.code yX10_isSum cX10_isSum 2 (some .boolean), Cond.constantLong RX10 247 (-1000000000000), Cond.constantLong RX10 249 (1000000000000), Cond.methodLink RX10 117 yX4_startAt, Cond.instanceMethod yX4_startAt, Cond.selects RX4 yX4_startAt yX4_startAt, Cond.code yX4_startAt cX4_startAt 4 none, Cond.methodLink RL 38 yX11_start, Cond.instanceMethod yX11_start, Cond.selects RX11 yX11_start yX11_start, Cond.code yX11_start cX11_start 4 (some .boolean), Cond.methodLink RX11 119 yX11_isSum, Cond.instanceMethod yX11_isSum, Cond.selects RX11 yX11_isSum yX11_isSum, Cond.code yX11_isSum cX11_isSum 2 (some .boolean), Cond.methodLink RX11 123 yX11_isNear, Cond.static yX11_isNear, Cond.code yX11_isNear cX11_isNear 2 (some .boolean), Cond.constantLong RX11 115 (1000000000000), Cond.constantLong RX11 117 (-1000000000000), Cond.methodLink RL 39 yX10_tick, Cond.instanceMethod yX10_tick]
def wsL_law_r13 : List Cond := [Cond.selects RX10 yX10_tick yX10_tick, Cond.code yX10_tick cX10_tick 2 (some .int), Cond.constant RX10 128 (-2147483648), Cond.methodLink RX10 121 yX10_isWish, Cond.static yX10_isWish, Cond.code yX10_isWish cX10_isWish 1 (some .boolean), Cond.constant RX10 176 (1000000), Cond.methodLink RX10 124 yX4_turn, Cond.instanceMethod yX4_turn, Cond.selects RX4 yX4_turn yX4_turn, Cond.code yX4_turn cX4_turn 3 (some .int), Cond.constant RX4 71 (-2147483648), Cond.methodLink RX4 67 yX5_advance, Cond.instanceMethod yX5_advance, Cond.selects RX5 yX5_advance yX5_advance, Cond.code yX5_advance cX5_advance 3 (some .boolean), Cond.methodLink RX5 41 yX5_reckonTwo, Cond.instanceMethod yX5_reckonTwo, Cond.selects RX5 yX5_reckonTwo yX5_reckonTwo, Cond.code yX5_reckonTwo cX5_reckonTwo 3 none, Cond.constantLong RX5 59 (2), Cond.methodLink RX5 61 yX5_takeStep, Cond.instanceMethod yX5_takeStep, Cond.selects RX5 yX5_takeStep yX5_takeStep]
def wsL_law_r14 : List Cond := [Cond.code yX5_takeStep cX5_takeStep 5 (some .long), Cond.methodLink RX5 73 yX7_placeFor, Cond.instanceMethod yX7_placeFor, Cond.selects RX7 yX7_placeFor yX7_placeFor, Cond.code yX7_placeFor cX7_placeFor 4 (some .int), Cond.methodLink RX5 82 yX7_fineAt, Cond.instanceMethod yX7_fineAt, Cond.selects RX7 yX7_fineAt yX7_fineAt, Cond.code yX7_fineAt cX7_fineAt 2 (some .long), Cond.methodLink RX5 45 yX5_reckonTables, Cond.instanceMethod yX5_reckonTables, Cond.selects RX5 yX5_reckonTables yX5_reckonTables, Cond.code yX5_reckonTables cX5_reckonTables 8 none, Cond.methodLink RX5 65 yX8_measure, Cond.instanceMethod yX8_measure, Cond.selects RX8 yX8_measure yX8_measure, Cond.code yX8_measure cX8_measure 6 (some .long), Cond.methodLink RX5 69 yX8_next, Cond.instanceMethod yX8_next, Cond.selects RX8 yX8_next yX8_next, Cond.code yX8_next cX8_next 9 (some .long), Cond.methodLink RX5 48 yX5_reckonRow, Cond.instanceMethod yX5_reckonRow, Cond.selects RX5 yX5_reckonRow yX5_reckonRow]
def wsL_law_r15 : List Cond := [Cond.code yX5_reckonRow cX5_reckonRow 6 none, Cond.methodLink RX5 51 yX5_settle, Cond.instanceMethod yX5_settle, Cond.selects RX5 yX5_settle yX5_settle, Cond.code yX5_settle cX5_settle 3 (some .boolean), Cond.methodLink RX4 75 yX4_giveOfRow, Cond.instanceMethod yX4_giveOfRow, Cond.selects RX4 yX4_giveOfRow yX4_giveOfRow, Cond.code yX4_giveOfRow cX4_giveOfRow 4 (some .int), Cond.methodLink RX4 83 yX3_note, Cond.instanceMethod yX3_note, Cond.selects RX3 yX3_note yX3_note, Cond.code yX3_note cX3_note 5 none, Cond.methodLink RX3 32 Lib.Math.min.name, Cond.static Lib.Math.min.name, Cond.initialized "java/lang/Math", Cond.code Lib.Math.min.name Lib.Math.min.code 2 (some .int), Cond.methodLink RX4 87 yX9_turn, Cond.instanceMethod yX9_turn, Cond.selects RX9 yX9_turn yX9_turn, Cond.code yX9_turn cX9_turn 4 none, Cond.methodLink RX9 32 Lib.Math.min.name, Cond.methodLink RX9 38 Lib.Math.max.name, Cond.static Lib.Math.max.name]
def wsL_law_r16 : List Cond := [Cond.code Lib.Math.max.name Lib.Math.max.code 2 (some .int), Cond.methodLink RX9 41 yX9_nextByHand, Cond.instanceMethod yX9_nextByHand, Cond.selects RX9 yX9_nextByHand yX9_nextByHand, Cond.code yX9_nextByHand cX9_nextByHand 2 (some .int), Cond.methodLink RX9 45 yX9_leastOftenOn, Cond.instanceMethod yX9_leastOftenOn, Cond.selects RX9 yX9_leastOftenOn yX9_leastOftenOn, Cond.code yX9_leastOftenOn cX9_leastOftenOn 3 (some .int), Cond.methodLink RX9 48 yX9_switchOn, Cond.instanceMethod yX9_switchOn, Cond.selects RX9 yX9_switchOn yX9_switchOn, Cond.code yX9_switchOn cX9_switchOn 2 none, Cond.methodLink RL 43 yX11_tick, Cond.instanceMethod yX11_tick, Cond.selects RX11 yX11_tick yX11_tick, Cond.code yX11_tick cX11_tick 2 (some .int), Cond.constant RX11 151 (-2147483648), Cond.methodLink RX11 145 yX11_isWish, Cond.static yX11_isWish, Cond.code yX11_isWish cX11_isWish 1 (some .boolean), Cond.constant RX11 133 (-1000000), Cond.constant RX11 134 (1000000), Cond.methodLink RX11 148 yX11_done]
def wsL_law_r17 : List Cond := [Cond.instanceMethod yX11_done, Cond.selects RX11 yX11_done yX11_done, Cond.code yX11_done cX11_done 4 (some .boolean), Cond.methodLink RX11 135 yX11_fromHere, Cond.instanceMethod yX11_fromHere, Cond.selects RX11 yX11_fromHere yX11_fromHere, Cond.code yX11_fromHere cX11_fromHere 2 none, Cond.methodLink RX11 138 yX11_next, Cond.instanceMethod yX11_next, Cond.selects RX11 yX11_next yX11_next, Cond.code yX11_next cX11_next 7 (some .boolean), Cond.constantLong RX11 127 (2), Cond.methodLink RX11 129 yX11_stepFor, Cond.instanceMethod yX11_stepFor, Cond.selects RX11 yX11_stepFor yX11_stepFor, Cond.code yX11_stepFor cX11_stepFor 5 (some .int), Cond.methodLink RX11 141 yX11_turn, Cond.instanceMethod yX11_turn, Cond.selects RX11 yX11_turn yX11_turn, Cond.code yX11_turn cX11_turn 6 none, Cond.methodLink RL 44 yX10_run, Cond.instanceMethod yX10_run, Cond.selects RX10 yX10_run yX10_run, Cond.code yX10_run cX10_run 4 (some .int)]
def wsL_law_r18 : List Cond := [Cond.methodLink RL 48 yX11_run, Cond.instanceMethod yX11_run, Cond.selects RX11 yX11_run yX11_run, Cond.code yX11_run cX11_run 4 (some .int), Cond.methodLink RL 49 yX10_sum, Cond.instanceMethod yX10_sum, Cond.selects RX10 yX10_sum yX10_sum, Cond.code yX10_sum cX10_sum 2 (some .long), Cond.methodLink RL 53 yX11_sum, Cond.instanceMethod yX11_sum, Cond.selects RX11 yX11_sum yX11_sum, Cond.code yX11_sum cX11_sum 2 (some .long), Cond.methodLink RL 54 yX10_was, Cond.instanceMethod yX10_was, Cond.selects RX10 yX10_was yX10_was, Cond.code yX10_was cX10_was 3 (some .int), Cond.methodLink RX10 136 yX3_holds, Cond.instanceMethod yX3_holds, Cond.selects RX3 yX3_holds yX3_holds, Cond.code yX3_holds cX3_holds 2 (some .boolean), Cond.methodLink RX10 141 yX3_givenAt, Cond.instanceMethod yX3_givenAt, Cond.selects RX3 yX3_givenAt yX3_givenAt, Cond.code yX3_givenAt cX3_givenAt 2 (some .int)]
def wsL_law_r19 : List Cond := [Cond.methodLink RX10 144 yX3_wishAt, Cond.instanceMethod yX3_wishAt, Cond.selects RX3 yX3_wishAt yX3_wishAt, Cond.code yX3_wishAt cX3_wishAt 2 (some .int), Cond.methodLink RL 57 yX11_was, Cond.instanceMethod yX11_was, Cond.selects RX11 yX11_was yX11_was, Cond.code yX11_was cX11_was 3 (some .int), Cond.methodLink RX11 152 yX11_kept, Cond.instanceMethod yX11_kept, Cond.selects RX11 yX11_kept yX11_kept, Cond.code yX11_kept cX11_kept 1 (some .int), Cond.methodLink RX11 156 yX11_latest, Cond.instanceMethod yX11_latest, Cond.selects RX11 yX11_latest yX11_latest, Cond.code yX11_latest cX11_latest 2 (some .int), Cond.methodLink RL 58 yX10_behind, Cond.instanceMethod yX10_behind, Cond.selects RX10 yX10_behind yX10_behind, Cond.code yX10_behind cX10_behind 2 (some .long), Cond.methodLink RX10 147 yX3_sumAt, Cond.instanceMethod yX3_sumAt, Cond.selects RX3 yX3_sumAt yX3_sumAt, Cond.code yX3_sumAt cX3_sumAt 2 (some .long)]
def wsL_law_r20 : List Cond := [Cond.methodLink RL 61 yX11_behind, Cond.instanceMethod yX11_behind, Cond.selects RX11 yX11_behind yX11_behind, Cond.code yX11_behind cX11_behind 2 (some .long), Cond.methodLink RL 62 yX10_missed, Cond.instanceMethod yX10_missed, Cond.selects RX10 yX10_missed yX10_missed, Cond.code yX10_missed cX10_missed 2 (some .long), Cond.methodLink RX10 151 yX3_holdsLast, Cond.instanceMethod yX3_holdsLast, Cond.selects RX3 yX3_holdsLast yX3_holdsLast, Cond.code yX3_holdsLast cX3_holdsLast 2 (some .boolean), Cond.methodLink RX10 154 yX3_missedIn, Cond.instanceMethod yX3_missedIn, Cond.selects RX3 yX3_missedIn yX3_missedIn, Cond.code yX3_missedIn cX3_missedIn 6 (some .long), Cond.methodLink RX3 38 yX3_givenAt, Cond.methodLink RX3 42 yX3_wishAt, Cond.methodLink RL 65 yX11_missed, Cond.instanceMethod yX11_missed, Cond.selects RX11 yX11_missed yX11_missed, Cond.code yX11_missed cX11_missed 5 (some .long), Cond.methodLink RL 66 yX10_ring, Cond.instanceMethod yX10_ring]
def wsL_law_r21 : List Cond := [Cond.selects RX10 yX10_ring yX10_ring, Cond.code yX10_ring cX10_ring 2 (some .int), Cond.methodLink RX10 158 yX6_findRing, Cond.instanceMethod yX6_findRing, Cond.selects RX6 yX6_findRing yX6_findRing, Cond.code yX6_findRing cX6_findRing 4 (some .int), Cond.fieldLink RX6 30 "CoarseSteps$Outlook" "toldTail" "I", Cond.methodLink RX6 22 yX6_findBeat, Cond.instanceMethod yX6_findBeat, Cond.selects RX6 yX6_findBeat yX6_findBeat, Cond.code yX6_findBeat cX6_findBeat 5 (some .int), Cond.methodLink RX6 39 yX6_copy, Cond.static yX6_copy, Cond.code yX6_copy cX6_copy 3 none, Cond.methodLink RX6 47 yX5_advance, Cond.methodLink RX6 53 yX6_isSame, Cond.instanceMethod yX6_isSame, Cond.selects RX6 yX6_isSame yX6_isSame, Cond.code yX6_isSame cX6_isSame 4 (some .boolean), Cond.methodLink RX6 26 yX6_findTail, Cond.instanceMethod yX6_findTail, Cond.selects RX6 yX6_findTail yX6_findTail, Cond.code yX6_findTail cX6_findTail 4 (some .int), Cond.methodLink RL 69 yX11_ring]
def wsL_law_r22 : List Cond := [Cond.instanceMethod yX11_ring, Cond.selects RX11 yX11_ring yX11_ring, Cond.code yX11_ring cX11_ring 6 (some .int), Cond.fieldLink RX11 163 "CoarseStepsModel" "tailTold" "I", Cond.methodLink RX11 160 yX11_goOn, Cond.instanceMethod yX11_goOn, Cond.selects RX11 yX11_goOn yX11_goOn, Cond.code yX11_goOn cX11_goOn 2 none, Cond.methodLink RL 70 yX10_tail, Cond.instanceMethod yX10_tail, Cond.selects RX10 yX10_tail yX10_tail, Cond.code yX10_tail cX10_tail 1 (some .int), Cond.methodLink RL 74 yX11_tail, Cond.instanceMethod yX11_tail, Cond.selects RX11 yX11_tail yX11_tail, Cond.code yX11_tail cX11_tail 1 (some .int), Cond.methodLink RL 75 yX10_leaves, Cond.instanceMethod yX10_leaves, Cond.selects RX10 yX10_leaves yX10_leaves, Cond.code yX10_leaves cX10_leaves 4 (some .int), Cond.methodLink RX10 164 yX6_ticksUntilBeyond, Cond.instanceMethod yX6_ticksUntilBeyond, Cond.selects RX6 yX6_ticksUntilBeyond yX6_ticksUntilBeyond, Cond.code yX6_ticksUntilBeyond cX6_ticksUntilBeyond 5 (some .int)]
def wsL_law_r23 : List Cond := [Cond.methodLink RX6 57 yX6_isBeyond, Cond.instanceMethod yX6_isBeyond, Cond.selects RX6 yX6_isBeyond yX6_isBeyond, Cond.code yX6_isBeyond cX6_isBeyond 4 (some .boolean), Cond.methodLink RL 79 yX11_leaves, Cond.instanceMethod yX11_leaves, Cond.selects RX11 yX11_leaves yX11_leaves, Cond.code yX11_leaves cX11_leaves 7 (some .int), Cond.methodLink RL 80 yX10_box, Cond.instanceMethod yX10_box, Cond.selects RX10 yX10_box yX10_box, Cond.code yX10_box cX10_box 6 (some .boolean), Cond.methodLink RX10 168 yX0_setEnds, Cond.instanceMethod yX0_setEnds, Cond.selects RX0 yX0_setEnds yX0_setEnds, Cond.code yX0_setEnds cX0_setEnds 6 none, Cond.methodLink RL 84 yX11_box, Cond.instanceMethod yX11_box, Cond.selects RX11 yX11_box yX11_box, Cond.code yX11_box cX11_box 6 (some .boolean), Cond.methodLink RL 85 yX10_kept, Cond.instanceMethod yX10_kept, Cond.selects RX10 yX10_kept yX10_kept, Cond.code yX10_kept cX10_kept 3 (some .int)]
def wsL_law_r24 : List Cond := [Cond.methodLink RX10 172 yX0_tellKept, Cond.instanceMethod yX0_tellKept, Cond.selects RX0 yX0_tellKept yX0_tellKept, Cond.code yX0_tellKept cX0_tellKept 7 (some .int), Cond.constantLong RX0 34 (100000), Cond.methodLink RX0 30 yX0_countPlaces, Cond.instanceMethod yX0_countPlaces, Cond.selects RX0 yX0_countPlaces yX0_countPlaces, Cond.code yX0_countPlaces cX0_countPlaces 9 (some .long), Cond.constantLong RX0 44 (100001), Cond.methodLink RX0 36 yX0_staysFromPlace, Cond.instanceMethod yX0_staysFromPlace, Cond.selects RX0 yX0_staysFromPlace yX0_staysFromPlace, Cond.code yX0_staysFromPlace cX0_staysFromPlace 6 (some .boolean), Cond.methodLink RX0 46 yX5_advance, Cond.methodLink RX0 50 yX0_isInside, Cond.instanceMethod yX0_isInside, Cond.selects RX0 yX0_isInside yX0_isInside, Cond.code yX0_isInside cX0_isInside 3 (some .boolean), Cond.methodLink RX0 40 yX0_toNextPlace, Cond.instanceMethod yX0_toNextPlace, Cond.selects RX0 yX0_toNextPlace yX0_toNextPlace, Cond.code yX0_toNextPlace cX0_toNextPlace 3 none, Cond.methodLink RL 88 yX11_kept_]
def wsL_law_r25 : List Cond := [Cond.instanceMethod yX11_kept_, Cond.selects RX11 yX11_kept_ yX11_kept_, Cond.code yX11_kept_ cX11_kept_ 13 (some .int), Cond.constantLong RX11 166 (100000), Cond.methodLink RL 89 yX10_word, Cond.instanceMethod yX10_word, Cond.selects RX10 yX10_word yX10_word, Cond.code yX10_word cX10_word 7 (some .int), Cond.methodLink RX10 177 yJ9_floorDiv_f86c9, Cond.static yJ9_floorDiv_f86c9, Cond.initialized RJ9, Cond.code yJ9_floorDiv_f86c9 cJ9_floorDiv_f86c9 6 (some .long), Cond.methodLink RL 92 yX11_word, Cond.instanceMethod yX11_word, Cond.selects RX11 yX11_word yX11_word, Cond.code yX11_word cX11_word 3 (some .int), Cond.methodLink RL 93 yX10_even, Cond.instanceMethod yX10_even, Cond.selects RX10 yX10_even yX10_even, Cond.code yX10_even cX10_even 2 (some .int), Cond.methodLink RX10 183 yX3_isEven, Cond.instanceMethod yX3_isEven, Cond.selects RX3 yX3_isEven yX3_isEven, Cond.code yX3_isEven cX3_isEven 3 (some .boolean)]
def wsL_law_r26 : List Cond := [Cond.methodLink RX3 45 yX3_isEvenBy, Cond.instanceMethod yX3_isEvenBy, Cond.selects RX3 yX3_isEvenBy yX3_isEvenBy, Cond.code yX3_isEvenBy cX3_isEvenBy 7 (some .boolean), Cond.methodLink RX3 49 Lib.Math.max.name, Cond.methodLink RL 96 yX11_even, Cond.instanceMethod yX11_even, Cond.selects RX11 yX11_even yX11_even, Cond.code yX11_even cX11_even 11 (some .int), Cond.methodLink RL 97 yX10_weight, Cond.instanceMethod yX10_weight, Cond.selects RX10 yX10_weight yX10_weight, Cond.code yX10_weight cX10_weight 2 (some .int), Cond.methodLink RX10 186 yX2_append, Cond.instanceMethod yX2_append, Cond.selects RX2 yX2_append yX2_append, Cond.code yX2_append cX2_append 2 (some .int), Cond.fieldLink RX2 15 "CoarseSteps$Filter" "count" "I", Cond.methodLink RL 100 yX11_weight, Cond.instanceMethod yX11_weight, Cond.selects RX11 yX11_weight yX11_weight, Cond.code yX11_weight cX11_weight 2 (some .int), Cond.fieldLink RX11 168 "CoarseStepsModel" "weightMany" "I", Cond.methodLink RL 101 yX10_clear]
def wsL_law_r27 : List Cond := [Cond.instanceMethod yX10_clear, Cond.selects RX10 yX10_clear yX10_clear, Cond.code yX10_clear cX10_clear 1 (some .int), Cond.methodLink RX10 189 yX2_empty, Cond.instanceMethod yX2_empty, Cond.selects RX2 yX2_empty yX2_empty, Cond.code yX2_empty cX2_empty 2 (some .int), Cond.methodLink RL 104 yX11_clear, Cond.instanceMethod yX11_clear, Cond.selects RX11 yX11_clear yX11_clear, Cond.code yX11_clear cX11_clear 2 (some .int), Cond.methodLink RL 105 yX10_read, Cond.instanceMethod yX10_read, Cond.selects RX10 yX10_read yX10_read, Cond.code yX10_read cX10_read 1 (some .long), Cond.methodLink RX10 192 yX2_readFrom, Cond.instanceMethod yX2_readFrom, Cond.selects RX2 yX2_readFrom yX2_readFrom, Cond.code yX2_readFrom cX2_readFrom 5 (some .long), Cond.methodLink RX2 19 yX3_holds, Cond.methodLink RX2 25 yX3_givenAt, Cond.methodLink RL 109 yX11_read, Cond.instanceMethod yX11_read, Cond.selects RX11 yX11_read yX11_read]
def wsL_law_r28 : List Cond := [Cond.code yX11_read cX11_read 4 (some .long), Cond.methodLink RL 110 yX10_back, Cond.instanceMethod yX10_back, Cond.selects RX10 yX10_back yX10_back, Cond.code yX10_back cX10_back 3 (some .int), Cond.methodLink RX10 196 yX4_canClaim, Cond.instanceMethod yX4_canClaim, Cond.selects RX4 yX4_canClaim yX4_canClaim, Cond.code yX4_canClaim cX4_canClaim 2 (some .boolean), Cond.methodLink RX4 96 yX3_holdsLast, Cond.methodLink RX10 199 yX1_narrow, Cond.instanceMethod yX1_narrow, Cond.selects RX1 yX1_narrow yX1_narrow, Cond.code yX1_narrow cX1_narrow 9 none, Cond.constantLong RX1 15 (-1000000), Cond.fieldLink RX1 17 "CoarseSteps$Claim" "low" "J", Cond.constantLong RX1 21 (1000000), Cond.fieldLink RX1 23 "CoarseSteps$Claim" "high" "J", Cond.methodLink RX1 51 Lib.MathLoose.max_long.x, Cond.static Lib.MathLoose.max_long.x, Cond.code Lib.MathLoose.max_long.x Lib.MathLoose.max_long.code 4 (some .long), Cond.methodLink RX1 61 Lib.MathLoose.min_long.x, Cond.static Lib.MathLoose.min_long.x, Cond.code Lib.MathLoose.min_long.x Lib.MathLoose.min_long.code 4 (some .long)]
def wsL_law_r29 : List Cond := [Cond.methodLink RX1 32 yX3_givenAt, Cond.methodLink RX1 41 yX7_placeFor, Cond.methodLink RX1 45 yJ9_floorDiv_f86c9, Cond.methodLink RX1 57 yX7_fineAt, Cond.methodLink RL 113 yX11_back, Cond.instanceMethod yX11_back, Cond.selects RX11 yX11_back yX11_back, Cond.code yX11_back cX11_back 14 (some .int), Cond.constantLong RX11 171 (-1000000), Cond.constantLong RX11 173 (1000000), Cond.methodLink RX11 175 yX11_floor, Cond.static yX11_floor, Cond.code yX11_floor cX11_floor 6 (some .long), Cond.methodLink RL 114 yX10_range, Cond.instanceMethod yX10_range, Cond.selects RX10 yX10_range yX10_range, Cond.code yX10_range cX10_range 4 (some .int), Cond.methodLink RX10 210 yX1_countRows, Cond.instanceMethod yX1_countRows, Cond.selects RX1 yX1_countRows yX1_countRows, Cond.code yX1_countRows cX1_countRows 8 (some .int), Cond.methodLink RX1 64 yX1_roomAbove, Cond.instanceMethod yX1_roomAbove, Cond.selects RX1 yX1_roomAbove yX1_roomAbove]
def wsL_law_r30 : List Cond := [Cond.code yX1_roomAbove cX1_roomAbove 12 (some .long), Cond.constantLong RX1 68 (2000), Cond.methodLink RL 118 yX11_range, Cond.instanceMethod yX11_range, Cond.selects RX11 yX11_range yX11_range, Cond.code yX11_range cX11_range 11 (some .int), Cond.methodLink RL 119 yX10_part, Cond.instanceMethod yX10_part, Cond.selects RX10 yX10_part yX10_part, Cond.code yX10_part cX10_part 3 (some .int), Cond.methodLink RL 122 yX11_part, Cond.instanceMethod yX11_part, Cond.selects RX11 yX11_part yX11_part, Cond.code yX11_part cX11_part 3 (some .int), Cond.methodLink RL 123 yX10_spread, Cond.instanceMethod yX10_spread, Cond.selects RX10 yX10_spread yX10_spread, Cond.code yX10_spread cX10_spread 1 (some .int), Cond.methodLink RX10 231 yX9_mostLessLeast, Cond.instanceMethod yX9_mostLessLeast, Cond.selects RX9 yX9_mostLessLeast yX9_mostLessLeast, Cond.code yX9_mostLessLeast cX9_mostLessLeast 4 (some .int), Cond.methodLink RL 126 yX11_spread, Cond.instanceMethod yX11_spread]
def wsL_law_r31 : List Cond := [Cond.selects RX11 yX11_spread yX11_spread, Cond.code yX11_spread cX11_spread 4 (some .int), Cond.methodLink RL 127 yX10_about, Cond.instanceMethod yX10_about, Cond.selects RX10 yX10_about yX10_about, Cond.code yX10_about cX10_about 2 (some .int), Cond.methodLink RL 130 yX11_about, Cond.instanceMethod yX11_about, Cond.selects RX11 yX11_about yX11_about, Cond.code yX11_about cX11_about 2 (some .int), Cond.methodLink RL 131 yX10_step, Cond.instanceMethod yX10_step, Cond.selects RX10 yX10_step yX10_step, Cond.code yX10_step cX10_step 2 (some .int), Cond.methodLink RL 134 yX11_step, Cond.instanceMethod yX11_step, Cond.selects RX11 yX11_step yX11_step, Cond.code yX11_step cX11_step 2 (some .int)]
def wsL_law : List Cond := (wsL_law_r1 ++ (wsL_law_r2 ++ (wsL_law_r3 ++ (wsL_law_r4 ++ (wsL_law_r5 ++ (wsL_law_r6 ++ (wsL_law_r7 ++ (wsL_law_r8 ++ (wsL_law_r9 ++ (wsL_law_r10 ++ (wsL_law_r11 ++ (wsL_law_r12 ++ (wsL_law_r13 ++ (wsL_law_r14 ++ (wsL_law_r15 ++ (wsL_law_r16 ++ (wsL_law_r17 ++ (wsL_law_r18 ++ (wsL_law_r19 ++ (wsL_law_r20 ++ (wsL_law_r21 ++ (wsL_law_r22 ++ (wsL_law_r23 ++ (wsL_law_r24 ++ (wsL_law_r25 ++ (wsL_law_r26 ++ (wsL_law_r27 ++ (wsL_law_r28 ++ (wsL_law_r29 ++ (wsL_law_r30 ++ wsL_law_r31)))))))))))))))))))))))))))))) ++ wsX100 ++ wsX110 ++ wsX70 ++ wsX40 ++ wsX60 ++ wsX00 ++ wsX20 ++ wsX10 ++ wsX90 ++ wsX30 ++ wsX50 ++ wsX80 ++ ([] : List Cond)
set_option maxRecDepth 20000 in
theorem inlX0 : ∀ w ∈ wsX00, w ∈ wsL_law := fun _ h => List.mem_append_left _ (List.mem_append_left _ (List.mem_append_left _ (List.mem_append_left _ (List.mem_append_left _ (List.mem_append_left _ (List.mem_append_left _ (List.mem_append_right _ h)))))))
theorem inlX1 : ∀ w ∈ wsX10, w ∈ wsL_law := fun _ h => List.mem_append_left _ (List.mem_append_left _ (List.mem_append_left _ (List.mem_append_left _ (List.mem_append_left _ (List.mem_append_right _ h)))))
theorem inlX2 : ∀ w ∈ wsX20, w ∈ wsL_law := fun _ h => List.mem_append_left _ (List.mem_append_left _ (List.mem_append_left _ (List.mem_append_left _ (List.mem_append_left _ (List.mem_append_left _ (List.mem_append_right _ h))))))
theorem inlX3 : ∀ w ∈ wsX30, w ∈ wsL_law := fun _ h => List.mem_append_left _ (List.mem_append_left _ (List.mem_append_left _ (List.mem_append_right _ h)))
theorem inlX4 : ∀ w ∈ wsX40, w ∈ wsL_law := fun _ h => List.mem_append_left _ (List.mem_append_left _ (List.mem_append_left _ (List.mem_append_left _ (List.mem_append_left _ (List.mem_append_left _ (List.mem_append_left _ (List.mem_append_left _ (List.mem_append_left _ (List.mem_append_right _ h)))))))))
theorem inlX5 : ∀ w ∈ wsX50, w ∈ wsL_law := fun _ h => List.mem_append_left _ (List.mem_append_left _ (List.mem_append_right _ h))
theorem inlX6 : ∀ w ∈ wsX60, w ∈ wsL_law := fun _ h => List.mem_append_left _ (List.mem_append_left _ (List.mem_append_left _ (List.mem_append_left _ (List.mem_append_left _ (List.mem_append_left _ (List.mem_append_left _ (List.mem_append_left _ (List.mem_append_right _ h))))))))
theorem inlX7 : ∀ w ∈ wsX70, w ∈ wsL_law := fun _ h => List.mem_append_left _ (List.mem_append_left _ (List.mem_append_left _ (List.mem_append_left _ (List.mem_append_left _ (List.mem_append_left _ (List.mem_append_left _ (List.mem_append_left _ (List.mem_append_left _ (List.mem_append_left _ (List.mem_append_right _ h))))))))))
theorem inlX8 : ∀ w ∈ wsX80, w ∈ wsL_law := fun _ h => List.mem_append_left _ (List.mem_append_right _ h)
theorem inlX9 : ∀ w ∈ wsX90, w ∈ wsL_law := fun _ h => List.mem_append_left _ (List.mem_append_left _ (List.mem_append_left _ (List.mem_append_left _ (List.mem_append_right _ h))))
theorem inlX10 : ∀ w ∈ wsX100, w ∈ wsL_law := fun _ h => List.mem_append_left _ (List.mem_append_left _ (List.mem_append_left _ (List.mem_append_left _ (List.mem_append_left _ (List.mem_append_left _ (List.mem_append_left _ (List.mem_append_left _ (List.mem_append_left _ (List.mem_append_left _ (List.mem_append_left _ (List.mem_append_left _ (List.mem_append_right _ h))))))))))))
theorem inlX11 : ∀ w ∈ wsX110, w ∈ wsL_law := fun _ h => List.mem_append_left _ (List.mem_append_left _ (List.mem_append_left _ (List.mem_append_left _ (List.mem_append_left _ (List.mem_append_left _ (List.mem_append_left _ (List.mem_append_left _ (List.mem_append_left _ (List.mem_append_left _ (List.mem_append_left _ (List.mem_append_right _ h)))))))))))
theorem inJ9 : ∀ w ∈ wsJ90, w ∈ lw_tbl := by decide +kernel
theorem dX0_init_0 : decode cX0_init 0 = .ok (.aload_n 0, 1) := by decide +kernel
theorem dX0_init_1 : decode cX0_init 1 = .ok (.invokespecial 3, 3) := by decide +kernel
theorem dX0_init_4 : decode cX0_init 4 = .ok (.aload_n 0, 1) := by decide +kernel
theorem dX0_init_5 : decode cX0_init 5 = .ok (.iconst 4, 1) := by decide +kernel
theorem dX0_init_6 : decode cX0_init 6 = .ok (.newarray .long, 2) := by decide +kernel
theorem dX0_init_8 : decode cX0_init 8 = .ok (.putfield 9, 3) := by decide +kernel
theorem dX0_init_11 : decode cX0_init 11 = .ok (.aload_n 0, 1) := by decide +kernel
theorem dX0_init_12 : decode cX0_init 12 = .ok (.iconst 4, 1) := by decide +kernel
theorem dX0_init_13 : decode cX0_init 13 = .ok (.newarray .long, 2) := by decide +kernel
theorem dX0_init_15 : decode cX0_init 15 = .ok (.putfield 15, 3) := by decide +kernel
theorem dX0_init_18 : decode cX0_init 18 = .ok (.aload_n 0, 1) := by decide +kernel
theorem dX0_init_19 : decode cX0_init 19 = .ok (.iconst 4, 1) := by decide +kernel
theorem dX0_init_20 : decode cX0_init 20 = .ok (.newarray .long, 2) := by decide +kernel
theorem dX0_init_22 : decode cX0_init 22 = .ok (.putfield 18, 3) := by decide +kernel
theorem dX0_init_25 : decode cX0_init 25 = .ok (.aload_n 0, 1) := by decide +kernel
theorem dX0_init_26 : decode cX0_init 26 = .ok (.iconst 4, 1) := by decide +kernel
theorem dX0_init_27 : decode cX0_init 27 = .ok (.newarray .long, 2) := by decide +kernel
theorem dX0_init_29 : decode cX0_init 29 = .ok (.putfield 21, 3) := by decide +kernel
theorem dX0_init_32 : decode cX0_init 32 = .ok (.return_, 1) := by decide +kernel
theorem dX0_empty_0 : decode cX0_empty 0 = .ok (.iconst 0, 1) := by decide +kernel
theorem dX0_empty_1 : decode cX0_empty 1 = .ok (.istore_n 1, 1) := by decide +kernel
theorem dX0_empty_2 : decode cX0_empty 2 = .ok (.iload_n 1, 1) := by decide +kernel
theorem dX0_empty_3 : decode cX0_empty 3 = .ok (.iconst 4, 1) := by decide +kernel
theorem dX0_empty_4 : decode cX0_empty 4 = .ok (.if_icmp .ge 23, 3) := by decide +kernel
theorem dX0_empty_7 : decode cX0_empty 7 = .ok (.aload_n 0, 1) := by decide +kernel
theorem dX0_empty_8 : decode cX0_empty 8 = .ok (.getfield 9, 3) := by decide +kernel
theorem dX0_empty_11 : decode cX0_empty 11 = .ok (.iload_n 1, 1) := by decide +kernel
theorem dX0_empty_12 : decode cX0_empty 12 = .ok (.lconst 0, 1) := by decide +kernel
theorem dX0_empty_13 : decode cX0_empty 13 = .ok (.lastore, 1) := by decide +kernel
theorem dX0_empty_14 : decode cX0_empty 14 = .ok (.aload_n 0, 1) := by decide +kernel
theorem dX0_empty_15 : decode cX0_empty 15 = .ok (.getfield 15, 3) := by decide +kernel
theorem dX0_empty_18 : decode cX0_empty 18 = .ok (.iload_n 1, 1) := by decide +kernel
theorem dX0_empty_19 : decode cX0_empty 19 = .ok (.lconst 0, 1) := by decide +kernel
theorem dX0_empty_20 : decode cX0_empty 20 = .ok (.lastore, 1) := by decide +kernel
theorem dX0_empty_21 : decode cX0_empty 21 = .ok (.iinc 1 1, 3) := by decide +kernel
theorem dX0_empty_24 : decode cX0_empty 24 = .ok (.goto (-22), 3) := by decide +kernel
theorem dX0_empty_27 : decode cX0_empty 27 = .ok (.return_, 1) := by decide +kernel
theorem dX0_setEnds_0 : decode cX0_setEnds 0 = .ok (.aload_n 0, 1) := by decide +kernel
theorem dX0_setEnds_1 : decode cX0_setEnds 1 = .ok (.getfield 9, 3) := by decide +kernel
theorem dX0_setEnds_4 : decode cX0_setEnds 4 = .ok (.iload_n 1, 1) := by decide +kernel
theorem dX0_setEnds_5 : decode cX0_setEnds 5 = .ok (.lload_n 2, 1) := by decide +kernel
theorem dX0_setEnds_6 : decode cX0_setEnds 6 = .ok (.lastore, 1) := by decide +kernel
theorem dX0_setEnds_7 : decode cX0_setEnds 7 = .ok (.aload_n 0, 1) := by decide +kernel
theorem dX0_setEnds_8 : decode cX0_setEnds 8 = .ok (.getfield 15, 3) := by decide +kernel
theorem dX0_setEnds_11 : decode cX0_setEnds 11 = .ok (.iload_n 1, 1) := by decide +kernel
theorem dX0_setEnds_12 : decode cX0_setEnds 12 = .ok (.lload 4, 2) := by decide +kernel
theorem dX0_setEnds_14 : decode cX0_setEnds 14 = .ok (.lastore, 1) := by decide +kernel
theorem dX0_setEnds_15 : decode cX0_setEnds 15 = .ok (.return_, 1) := by decide +kernel
set_option maxRecDepth 20000 in
theorem ggX0_tellKept_X0_countPlaces : GoodIn wsX0_tellKept wsX0_countPlaces := goodIn_r _ [8, 9, 3, 1, 10, 94, 95, 96, 97] (by decide +kernel) (by decide +kernel)
set_option maxRecDepth 20000 in
theorem gX0_tellKept_X0_countPlaces : GoodIn wsX0_tellKept (wsV RX0 30 RX0 yX0_countPlaces wsX0_countPlaces) := goodIn_app (goodIn_of _ (by decide +kernel)) ggX0_tellKept_X0_countPlaces
set_option maxRecDepth 20000 in
theorem ggX0_tellKept_X0_staysFromPlace : GoodIn wsX0_tellKept wsX0_staysFromPlace := goodIn_r _ [14, 15, 2, 16, 17, 18, 19, 20, 21, 22, 23, 24, 25, 26, 27, 28, 29, 30, 31, 32, 33, 34, 35, 36, 37, 38, 39, 40, 41, 42, 43, 44, 45, 46, 47, 48, 49, 50, 51, 52, 53, 54, 55, 56, 57, 58, 59, 60, 61, 62, 63, 64, 65, 66, 67, 68, 69, 70, 71, 72, 73, 74, 75, 76, 77, 78, 79, 80, 81, 82, 7, 83, 3, 9, 88, 89, 90, 91, 92, 93, 94, 95, 96, 97, 98, 99, 100, 101, 102, 103, 104, 105, 106] (by decide +kernel) (by decide +kernel)
set_option maxRecDepth 20000 in
theorem gX0_tellKept_X0_staysFromPlace : GoodIn wsX0_tellKept (wsV RX0 36 RX0 yX0_staysFromPlace wsX0_staysFromPlace) := goodIn_app (goodIn_of _ (by decide +kernel)) ggX0_tellKept_X0_staysFromPlace
set_option maxRecDepth 20000 in
theorem ggX0_tellKept_X0_toNextPlace : GoodIn wsX0_tellKept wsX0_toNextPlace := goodIn_r _ [87, 2, 9, 3, 94, 95, 96, 97] (by decide +kernel) (by decide +kernel)
set_option maxRecDepth 20000 in
theorem gX0_tellKept_X0_toNextPlace : GoodIn wsX0_tellKept (wsV RX0 40 RX0 yX0_toNextPlace wsX0_toNextPlace) := goodIn_app (goodIn_of _ (by decide +kernel)) ggX0_tellKept_X0_toNextPlace
theorem dX0_tellKept_0 : decode cX0_tellKept 0 = .ok (.aload_n 0, 1) := by decide +kernel
theorem dX0_tellKept_1 : decode cX0_tellKept 1 = .ok (.aload_n 1, 1) := by decide +kernel
theorem dX0_tellKept_2 : decode cX0_tellKept 2 = .ok (.getfield 24, 3) := by decide +kernel
theorem dX0_tellKept_5 : decode cX0_tellKept 5 = .ok (.iload_n 3, 1) := by decide +kernel
theorem dX0_tellKept_6 : decode cX0_tellKept 6 = .ok (.iload_n 2, 1) := by decide +kernel
theorem dX0_tellKept_7 : decode cX0_tellKept 7 = .ok (.isub, 1) := by decide +kernel
theorem dX0_tellKept_8 : decode cX0_tellKept 8 = .ok (.i2l, 1) := by decide +kernel
theorem dX0_tellKept_9 : decode cX0_tellKept 9 = .ok (.lconst 1, 1) := by decide +kernel
theorem dX0_tellKept_10 : decode cX0_tellKept 10 = .ok (.ladd, 1) := by decide +kernel
theorem dX0_tellKept_11 : decode cX0_tellKept 11 = .ok (.invokevirtual 30, 3) := by decide +kernel
theorem dX0_tellKept_14 : decode cX0_tellKept 14 = .ok (.lstore 4, 2) := by decide +kernel
theorem dX0_tellKept_16 : decode cX0_tellKept 16 = .ok (.lload 4, 2) := by decide +kernel
theorem dX0_tellKept_18 : decode cX0_tellKept 18 = .ok (.ldc2_w 34, 3) := by decide +kernel
theorem dX0_tellKept_21 : decode cX0_tellKept 21 = .ok (.lcmp, 1) := by decide +kernel
theorem dX0_tellKept_22 : decode cX0_tellKept 22 = .ok (.ifCond .le 6, 3) := by decide +kernel
theorem dX0_tellKept_25 : decode cX0_tellKept 25 = .ok (.bipush (-2), 2) := by decide +kernel
theorem dX0_tellKept_27 : decode cX0_tellKept 27 = .ok (.ireturn, 1) := by decide +kernel
theorem dX0_tellKept_28 : decode cX0_tellKept 28 = .ok (.iconst 0, 1) := by decide +kernel
theorem dX0_tellKept_29 : decode cX0_tellKept 29 = .ok (.istore 6, 2) := by decide +kernel
theorem dX0_tellKept_31 : decode cX0_tellKept 31 = .ok (.iload 6, 2) := by decide +kernel
theorem dX0_tellKept_33 : decode cX0_tellKept 33 = .ok (.aload_n 1, 1) := by decide +kernel
theorem dX0_tellKept_34 : decode cX0_tellKept 34 = .ok (.getfield 24, 3) := by decide +kernel
theorem dX0_tellKept_37 : decode cX0_tellKept 37 = .ok (.if_icmp .ge 23, 3) := by decide +kernel
theorem dX0_tellKept_40 : decode cX0_tellKept 40 = .ok (.aload_n 0, 1) := by decide +kernel
theorem dX0_tellKept_41 : decode cX0_tellKept 41 = .ok (.getfield 18, 3) := by decide +kernel
theorem dX0_tellKept_44 : decode cX0_tellKept 44 = .ok (.iload 6, 2) := by decide +kernel
theorem dX0_tellKept_46 : decode cX0_tellKept 46 = .ok (.aload_n 0, 1) := by decide +kernel
theorem dX0_tellKept_47 : decode cX0_tellKept 47 = .ok (.getfield 9, 3) := by decide +kernel
theorem dX0_tellKept_50 : decode cX0_tellKept 50 = .ok (.iload 6, 2) := by decide +kernel
theorem dX0_tellKept_52 : decode cX0_tellKept 52 = .ok (.laload, 1) := by decide +kernel
theorem dX0_tellKept_53 : decode cX0_tellKept 53 = .ok (.lastore, 1) := by decide +kernel
theorem dX0_tellKept_54 : decode cX0_tellKept 54 = .ok (.iinc 6 1, 3) := by decide +kernel
theorem dX0_tellKept_57 : decode cX0_tellKept 57 = .ok (.goto (-26), 3) := by decide +kernel
theorem dX0_tellKept_60 : decode cX0_tellKept 60 = .ok (.iconst 0, 1) := by decide +kernel
theorem dX0_tellKept_61 : decode cX0_tellKept 61 = .ok (.istore 6, 2) := by decide +kernel
theorem dX0_tellKept_63 : decode cX0_tellKept 63 = .ok (.iload 6, 2) := by decide +kernel
theorem dX0_tellKept_65 : decode cX0_tellKept 65 = .ok (.i2l, 1) := by decide +kernel
theorem dX0_tellKept_66 : decode cX0_tellKept 66 = .ok (.lload 4, 2) := by decide +kernel
theorem dX0_tellKept_68 : decode cX0_tellKept 68 = .ok (.lcmp, 1) := by decide +kernel
theorem dX0_tellKept_69 : decode cX0_tellKept 69 = .ok (.ifCond .ge 29, 3) := by decide +kernel
theorem dX0_tellKept_72 : decode cX0_tellKept 72 = .ok (.aload_n 0, 1) := by decide +kernel
theorem dX0_tellKept_73 : decode cX0_tellKept 73 = .ok (.aload_n 1, 1) := by decide +kernel
theorem dX0_tellKept_74 : decode cX0_tellKept 74 = .ok (.iload_n 2, 1) := by decide +kernel
theorem dX0_tellKept_75 : decode cX0_tellKept 75 = .ok (.iload_n 3, 1) := by decide +kernel
theorem dX0_tellKept_76 : decode cX0_tellKept 76 = .ok (.invokevirtual 36, 3) := by decide +kernel
theorem dX0_tellKept_79 : decode cX0_tellKept 79 = .ok (.ifCond .ne 5, 3) := by decide +kernel
theorem dX0_tellKept_82 : decode cX0_tellKept 82 = .ok (.iconst 0, 1) := by decide +kernel
theorem dX0_tellKept_83 : decode cX0_tellKept 83 = .ok (.ireturn, 1) := by decide +kernel
theorem dX0_tellKept_84 : decode cX0_tellKept 84 = .ok (.aload_n 0, 1) := by decide +kernel
theorem dX0_tellKept_85 : decode cX0_tellKept 85 = .ok (.aload_n 1, 1) := by decide +kernel
theorem dX0_tellKept_86 : decode cX0_tellKept 86 = .ok (.getfield 24, 3) := by decide +kernel
theorem dX0_tellKept_89 : decode cX0_tellKept 89 = .ok (.invokevirtual 40, 3) := by decide +kernel
theorem dX0_tellKept_92 : decode cX0_tellKept 92 = .ok (.iinc 6 1, 3) := by decide +kernel
theorem dX0_tellKept_95 : decode cX0_tellKept 95 = .ok (.goto (-32), 3) := by decide +kernel
theorem dX0_tellKept_98 : decode cX0_tellKept 98 = .ok (.iconst 1, 1) := by decide +kernel
theorem dX0_tellKept_99 : decode cX0_tellKept 99 = .ok (.ireturn, 1) := by decide +kernel
theorem dX0_countPlaces_0 : decode cX0_countPlaces 0 = .ok (.lconst 1, 1) := by decide +kernel
theorem dX0_countPlaces_1 : decode cX0_countPlaces 1 = .ok (.lstore 4, 2) := by decide +kernel
theorem dX0_countPlaces_3 : decode cX0_countPlaces 3 = .ok (.iconst 0, 1) := by decide +kernel
theorem dX0_countPlaces_4 : decode cX0_countPlaces 4 = .ok (.istore 6, 2) := by decide +kernel
theorem dX0_countPlaces_6 : decode cX0_countPlaces 6 = .ok (.iload 6, 2) := by decide +kernel
theorem dX0_countPlaces_8 : decode cX0_countPlaces 8 = .ok (.iload_n 1, 1) := by decide +kernel
theorem dX0_countPlaces_9 : decode cX0_countPlaces 9 = .ok (.if_icmp .ge 59, 3) := by decide +kernel
theorem dX0_countPlaces_12 : decode cX0_countPlaces 12 = .ok (.aload_n 0, 1) := by decide +kernel
theorem dX0_countPlaces_13 : decode cX0_countPlaces 13 = .ok (.getfield 15, 3) := by decide +kernel
theorem dX0_countPlaces_16 : decode cX0_countPlaces 16 = .ok (.iload 6, 2) := by decide +kernel
theorem dX0_countPlaces_18 : decode cX0_countPlaces 18 = .ok (.laload, 1) := by decide +kernel
theorem dX0_countPlaces_19 : decode cX0_countPlaces 19 = .ok (.aload_n 0, 1) := by decide +kernel
theorem dX0_countPlaces_20 : decode cX0_countPlaces 20 = .ok (.getfield 9, 3) := by decide +kernel
theorem dX0_countPlaces_23 : decode cX0_countPlaces 23 = .ok (.iload 6, 2) := by decide +kernel
theorem dX0_countPlaces_25 : decode cX0_countPlaces 25 = .ok (.laload, 1) := by decide +kernel
theorem dX0_countPlaces_26 : decode cX0_countPlaces 26 = .ok (.lsub, 1) := by decide +kernel
theorem dX0_countPlaces_27 : decode cX0_countPlaces 27 = .ok (.lconst 1, 1) := by decide +kernel
theorem dX0_countPlaces_28 : decode cX0_countPlaces 28 = .ok (.ladd, 1) := by decide +kernel
theorem dX0_countPlaces_29 : decode cX0_countPlaces 29 = .ok (.lstore 7, 2) := by decide +kernel
theorem dX0_countPlaces_31 : decode cX0_countPlaces 31 = .ok (.lload 7, 2) := by decide +kernel
theorem dX0_countPlaces_33 : decode cX0_countPlaces 33 = .ok (.ldc2_w 34, 3) := by decide +kernel
theorem dX0_countPlaces_36 : decode cX0_countPlaces 36 = .ok (.lcmp, 1) := by decide +kernel
theorem dX0_countPlaces_37 : decode cX0_countPlaces 37 = .ok (.ifCond .le 6, 3) := by decide +kernel
theorem dX0_countPlaces_40 : decode cX0_countPlaces 40 = .ok (.lload 7, 2) := by decide +kernel
theorem dX0_countPlaces_42 : decode cX0_countPlaces 42 = .ok (.lreturn, 1) := by decide +kernel
theorem dX0_countPlaces_43 : decode cX0_countPlaces 43 = .ok (.lload 4, 2) := by decide +kernel
theorem dX0_countPlaces_45 : decode cX0_countPlaces 45 = .ok (.lload 7, 2) := by decide +kernel
theorem dX0_countPlaces_47 : decode cX0_countPlaces 47 = .ok (.lmul, 1) := by decide +kernel
theorem dX0_countPlaces_48 : decode cX0_countPlaces 48 = .ok (.lstore 4, 2) := by decide +kernel
theorem dX0_countPlaces_50 : decode cX0_countPlaces 50 = .ok (.lload 4, 2) := by decide +kernel
theorem dX0_countPlaces_52 : decode cX0_countPlaces 52 = .ok (.ldc2_w 34, 3) := by decide +kernel
theorem dX0_countPlaces_55 : decode cX0_countPlaces 55 = .ok (.lcmp, 1) := by decide +kernel
theorem dX0_countPlaces_56 : decode cX0_countPlaces 56 = .ok (.ifCond .le 6, 3) := by decide +kernel
theorem dX0_countPlaces_59 : decode cX0_countPlaces 59 = .ok (.lload 4, 2) := by decide +kernel
theorem dX0_countPlaces_61 : decode cX0_countPlaces 61 = .ok (.lreturn, 1) := by decide +kernel
theorem dX0_countPlaces_62 : decode cX0_countPlaces 62 = .ok (.iinc 6 1, 3) := by decide +kernel
theorem dX0_countPlaces_65 : decode cX0_countPlaces 65 = .ok (.goto (-59), 3) := by decide +kernel
theorem dX0_countPlaces_68 : decode cX0_countPlaces 68 = .ok (.lload 4, 2) := by decide +kernel
theorem dX0_countPlaces_70 : decode cX0_countPlaces 70 = .ok (.lload_n 2, 1) := by decide +kernel
theorem dX0_countPlaces_71 : decode cX0_countPlaces 71 = .ok (.lmul, 1) := by decide +kernel
theorem dX0_countPlaces_72 : decode cX0_countPlaces 72 = .ok (.ldc2_w 34, 3) := by decide +kernel
theorem dX0_countPlaces_75 : decode cX0_countPlaces 75 = .ok (.lcmp, 1) := by decide +kernel
theorem dX0_countPlaces_76 : decode cX0_countPlaces 76 = .ok (.ifCond .le 9, 3) := by decide +kernel
theorem dX0_countPlaces_79 : decode cX0_countPlaces 79 = .ok (.ldc2_w 44, 3) := by decide +kernel
theorem dX0_countPlaces_82 : decode cX0_countPlaces 82 = .ok (.goto 5, 3) := by decide +kernel
theorem dX0_countPlaces_85 : decode cX0_countPlaces 85 = .ok (.lload 4, 2) := by decide +kernel
theorem dX0_countPlaces_87 : decode cX0_countPlaces 87 = .ok (.lreturn, 1) := by decide +kernel
set_option maxRecDepth 20000 in
theorem ggX0_staysFromPlace_X5_advance : GoodIn wsX0_staysFromPlace wsX5_advance := goodIn_r _ [7, 8, 9, 10, 11, 6, 12, 13, 14, 15, 16, 17, 18, 19, 20, 21, 22, 23, 24, 25, 26, 27, 28, 29, 30, 31, 32, 33, 34, 35, 36, 37, 38, 39, 40, 41, 42, 43, 44, 45, 46, 47, 48, 49, 50, 51, 52, 53, 54, 55, 56, 57, 58, 59, 60, 61, 62, 63, 64, 65, 66, 74, 75, 76, 77, 78, 79, 84, 85, 86, 87, 88, 89, 90, 91, 92] (by decide +kernel) (by decide +kernel)
set_option maxRecDepth 20000 in
theorem gX0_staysFromPlace_X5_advance : GoodIn wsX0_staysFromPlace (wsV RX0 46 RX5 yX5_advance wsX5_advance) := goodIn_app (goodIn_of _ (by decide +kernel)) ggX0_staysFromPlace_X5_advance
set_option maxRecDepth 20000 in
theorem ggX0_staysFromPlace_X0_isInside : GoodIn wsX0_staysFromPlace wsX0_isInside := goodIn_r _ [71, 1, 72, 73, 80, 81, 82, 83] (by decide +kernel) (by decide +kernel)
set_option maxRecDepth 20000 in
theorem gX0_staysFromPlace_X0_isInside : GoodIn wsX0_staysFromPlace (wsV RX0 50 RX0 yX0_isInside wsX0_isInside) := goodIn_app (goodIn_of _ (by decide +kernel)) ggX0_staysFromPlace_X0_isInside
theorem dX0_staysFromPlace_0 : decode cX0_staysFromPlace 0 = .ok (.iload_n 2, 1) := by decide +kernel
theorem dX0_staysFromPlace_1 : decode cX0_staysFromPlace 1 = .ok (.istore 4, 2) := by decide +kernel
theorem dX0_staysFromPlace_3 : decode cX0_staysFromPlace 3 = .ok (.iload 4, 2) := by decide +kernel
theorem dX0_staysFromPlace_5 : decode cX0_staysFromPlace 5 = .ok (.iload_n 3, 1) := by decide +kernel
theorem dX0_staysFromPlace_6 : decode cX0_staysFromPlace 6 = .ok (.if_icmp .gt 67, 3) := by decide +kernel
theorem dX0_staysFromPlace_9 : decode cX0_staysFromPlace 9 = .ok (.iconst 0, 1) := by decide +kernel
theorem dX0_staysFromPlace_10 : decode cX0_staysFromPlace 10 = .ok (.istore 5, 2) := by decide +kernel
theorem dX0_staysFromPlace_12 : decode cX0_staysFromPlace 12 = .ok (.iload 5, 2) := by decide +kernel
theorem dX0_staysFromPlace_14 : decode cX0_staysFromPlace 14 = .ok (.aload_n 1, 1) := by decide +kernel
theorem dX0_staysFromPlace_15 : decode cX0_staysFromPlace 15 = .ok (.getfield 24, 3) := by decide +kernel
theorem dX0_staysFromPlace_18 : decode cX0_staysFromPlace 18 = .ok (.if_icmp .ge 23, 3) := by decide +kernel
theorem dX0_staysFromPlace_21 : decode cX0_staysFromPlace 21 = .ok (.aload_n 0, 1) := by decide +kernel
theorem dX0_staysFromPlace_22 : decode cX0_staysFromPlace 22 = .ok (.getfield 21, 3) := by decide +kernel
theorem dX0_staysFromPlace_25 : decode cX0_staysFromPlace 25 = .ok (.iload 5, 2) := by decide +kernel
theorem dX0_staysFromPlace_27 : decode cX0_staysFromPlace 27 = .ok (.aload_n 0, 1) := by decide +kernel
theorem dX0_staysFromPlace_28 : decode cX0_staysFromPlace 28 = .ok (.getfield 18, 3) := by decide +kernel
theorem dX0_staysFromPlace_31 : decode cX0_staysFromPlace 31 = .ok (.iload 5, 2) := by decide +kernel
theorem dX0_staysFromPlace_33 : decode cX0_staysFromPlace 33 = .ok (.laload, 1) := by decide +kernel
theorem dX0_staysFromPlace_34 : decode cX0_staysFromPlace 34 = .ok (.lastore, 1) := by decide +kernel
theorem dX0_staysFromPlace_35 : decode cX0_staysFromPlace 35 = .ok (.iinc 5 1, 3) := by decide +kernel
theorem dX0_staysFromPlace_38 : decode cX0_staysFromPlace 38 = .ok (.goto (-26), 3) := by decide +kernel
theorem dX0_staysFromPlace_41 : decode cX0_staysFromPlace 41 = .ok (.aload_n 1, 1) := by decide +kernel
theorem dX0_staysFromPlace_42 : decode cX0_staysFromPlace 42 = .ok (.aload_n 0, 1) := by decide +kernel
theorem dX0_staysFromPlace_43 : decode cX0_staysFromPlace 43 = .ok (.getfield 21, 3) := by decide +kernel
theorem dX0_staysFromPlace_46 : decode cX0_staysFromPlace 46 = .ok (.iload 4, 2) := by decide +kernel
theorem dX0_staysFromPlace_48 : decode cX0_staysFromPlace 48 = .ok (.invokevirtual 46, 3) := by decide +kernel
theorem dX0_staysFromPlace_51 : decode cX0_staysFromPlace 51 = .ok (.ifCond .eq 14, 3) := by decide +kernel
theorem dX0_staysFromPlace_54 : decode cX0_staysFromPlace 54 = .ok (.aload_n 0, 1) := by decide +kernel
theorem dX0_staysFromPlace_55 : decode cX0_staysFromPlace 55 = .ok (.aload_n 1, 1) := by decide +kernel
theorem dX0_staysFromPlace_56 : decode cX0_staysFromPlace 56 = .ok (.getfield 24, 3) := by decide +kernel
theorem dX0_staysFromPlace_59 : decode cX0_staysFromPlace 59 = .ok (.invokevirtual 50, 3) := by decide +kernel
theorem dX0_staysFromPlace_62 : decode cX0_staysFromPlace 62 = .ok (.ifCond .ne 5, 3) := by decide +kernel
theorem dX0_staysFromPlace_65 : decode cX0_staysFromPlace 65 = .ok (.iconst 0, 1) := by decide +kernel
theorem dX0_staysFromPlace_66 : decode cX0_staysFromPlace 66 = .ok (.ireturn, 1) := by decide +kernel
theorem dX0_staysFromPlace_67 : decode cX0_staysFromPlace 67 = .ok (.iinc 4 1, 3) := by decide +kernel
theorem dX0_staysFromPlace_70 : decode cX0_staysFromPlace 70 = .ok (.goto (-67), 3) := by decide +kernel
theorem dX0_staysFromPlace_73 : decode cX0_staysFromPlace 73 = .ok (.iconst 1, 1) := by decide +kernel
theorem dX0_staysFromPlace_74 : decode cX0_staysFromPlace 74 = .ok (.ireturn, 1) := by decide +kernel
theorem dX0_isInside_0 : decode cX0_isInside 0 = .ok (.iconst 0, 1) := by decide +kernel
theorem dX0_isInside_1 : decode cX0_isInside 1 = .ok (.istore_n 2, 1) := by decide +kernel
theorem dX0_isInside_2 : decode cX0_isInside 2 = .ok (.iload_n 2, 1) := by decide +kernel
theorem dX0_isInside_3 : decode cX0_isInside 3 = .ok (.iload_n 1, 1) := by decide +kernel
theorem dX0_isInside_4 : decode cX0_isInside 4 = .ok (.if_icmp .ge 43, 3) := by decide +kernel
theorem dX0_isInside_7 : decode cX0_isInside 7 = .ok (.aload_n 0, 1) := by decide +kernel
theorem dX0_isInside_8 : decode cX0_isInside 8 = .ok (.getfield 21, 3) := by decide +kernel
theorem dX0_isInside_11 : decode cX0_isInside 11 = .ok (.iload_n 2, 1) := by decide +kernel
theorem dX0_isInside_12 : decode cX0_isInside 12 = .ok (.laload, 1) := by decide +kernel
theorem dX0_isInside_13 : decode cX0_isInside 13 = .ok (.aload_n 0, 1) := by decide +kernel
theorem dX0_isInside_14 : decode cX0_isInside 14 = .ok (.getfield 9, 3) := by decide +kernel
theorem dX0_isInside_17 : decode cX0_isInside 17 = .ok (.iload_n 2, 1) := by decide +kernel
theorem dX0_isInside_18 : decode cX0_isInside 18 = .ok (.laload, 1) := by decide +kernel
theorem dX0_isInside_19 : decode cX0_isInside 19 = .ok (.lcmp, 1) := by decide +kernel
theorem dX0_isInside_20 : decode cX0_isInside 20 = .ok (.ifCond .lt 19, 3) := by decide +kernel
theorem dX0_isInside_23 : decode cX0_isInside 23 = .ok (.aload_n 0, 1) := by decide +kernel
theorem dX0_isInside_24 : decode cX0_isInside 24 = .ok (.getfield 21, 3) := by decide +kernel
theorem dX0_isInside_27 : decode cX0_isInside 27 = .ok (.iload_n 2, 1) := by decide +kernel
theorem dX0_isInside_28 : decode cX0_isInside 28 = .ok (.laload, 1) := by decide +kernel
theorem dX0_isInside_29 : decode cX0_isInside 29 = .ok (.aload_n 0, 1) := by decide +kernel
theorem dX0_isInside_30 : decode cX0_isInside 30 = .ok (.getfield 15, 3) := by decide +kernel
theorem dX0_isInside_33 : decode cX0_isInside 33 = .ok (.iload_n 2, 1) := by decide +kernel
theorem dX0_isInside_34 : decode cX0_isInside 34 = .ok (.laload, 1) := by decide +kernel
theorem dX0_isInside_35 : decode cX0_isInside 35 = .ok (.lcmp, 1) := by decide +kernel
theorem dX0_isInside_36 : decode cX0_isInside 36 = .ok (.ifCond .le 5, 3) := by decide +kernel
theorem dX0_isInside_39 : decode cX0_isInside 39 = .ok (.iconst 0, 1) := by decide +kernel
theorem dX0_isInside_40 : decode cX0_isInside 40 = .ok (.ireturn, 1) := by decide +kernel
theorem dX0_isInside_41 : decode cX0_isInside 41 = .ok (.iinc 2 1, 3) := by decide +kernel
theorem dX0_isInside_44 : decode cX0_isInside 44 = .ok (.goto (-42), 3) := by decide +kernel
theorem dX0_isInside_47 : decode cX0_isInside 47 = .ok (.iconst 1, 1) := by decide +kernel
theorem dX0_isInside_48 : decode cX0_isInside 48 = .ok (.ireturn, 1) := by decide +kernel
theorem dX0_toNextPlace_0 : decode cX0_toNextPlace 0 = .ok (.iconst 0, 1) := by decide +kernel
theorem dX0_toNextPlace_1 : decode cX0_toNextPlace 1 = .ok (.istore_n 2, 1) := by decide +kernel
theorem dX0_toNextPlace_2 : decode cX0_toNextPlace 2 = .ok (.iload_n 2, 1) := by decide +kernel
theorem dX0_toNextPlace_3 : decode cX0_toNextPlace 3 = .ok (.iload_n 1, 1) := by decide +kernel
theorem dX0_toNextPlace_4 : decode cX0_toNextPlace 4 = .ok (.if_icmp .ge 48, 3) := by decide +kernel
theorem dX0_toNextPlace_7 : decode cX0_toNextPlace 7 = .ok (.aload_n 0, 1) := by decide +kernel
theorem dX0_toNextPlace_8 : decode cX0_toNextPlace 8 = .ok (.getfield 18, 3) := by decide +kernel
theorem dX0_toNextPlace_11 : decode cX0_toNextPlace 11 = .ok (.iload_n 2, 1) := by decide +kernel
theorem dX0_toNextPlace_12 : decode cX0_toNextPlace 12 = .ok (.laload, 1) := by decide +kernel
theorem dX0_toNextPlace_13 : decode cX0_toNextPlace 13 = .ok (.aload_n 0, 1) := by decide +kernel
theorem dX0_toNextPlace_14 : decode cX0_toNextPlace 14 = .ok (.getfield 15, 3) := by decide +kernel
theorem dX0_toNextPlace_17 : decode cX0_toNextPlace 17 = .ok (.iload_n 2, 1) := by decide +kernel
theorem dX0_toNextPlace_18 : decode cX0_toNextPlace 18 = .ok (.laload, 1) := by decide +kernel
theorem dX0_toNextPlace_19 : decode cX0_toNextPlace 19 = .ok (.lcmp, 1) := by decide +kernel
theorem dX0_toNextPlace_20 : decode cX0_toNextPlace 20 = .ok (.ifCond .ge 14, 3) := by decide +kernel
theorem dX0_toNextPlace_23 : decode cX0_toNextPlace 23 = .ok (.aload_n 0, 1) := by decide +kernel
theorem dX0_toNextPlace_24 : decode cX0_toNextPlace 24 = .ok (.getfield 18, 3) := by decide +kernel
theorem dX0_toNextPlace_27 : decode cX0_toNextPlace 27 = .ok (.iload_n 2, 1) := by decide +kernel
theorem dX0_toNextPlace_28 : decode cX0_toNextPlace 28 = .ok (.dup2, 1) := by decide +kernel
theorem dX0_toNextPlace_29 : decode cX0_toNextPlace 29 = .ok (.laload, 1) := by decide +kernel
theorem dX0_toNextPlace_30 : decode cX0_toNextPlace 30 = .ok (.lconst 1, 1) := by decide +kernel
theorem dX0_toNextPlace_31 : decode cX0_toNextPlace 31 = .ok (.ladd, 1) := by decide +kernel
theorem dX0_toNextPlace_32 : decode cX0_toNextPlace 32 = .ok (.lastore, 1) := by decide +kernel
theorem dX0_toNextPlace_33 : decode cX0_toNextPlace 33 = .ok (.return_, 1) := by decide +kernel
theorem dX0_toNextPlace_34 : decode cX0_toNextPlace 34 = .ok (.aload_n 0, 1) := by decide +kernel
theorem dX0_toNextPlace_35 : decode cX0_toNextPlace 35 = .ok (.getfield 18, 3) := by decide +kernel
theorem dX0_toNextPlace_38 : decode cX0_toNextPlace 38 = .ok (.iload_n 2, 1) := by decide +kernel
theorem dX0_toNextPlace_39 : decode cX0_toNextPlace 39 = .ok (.aload_n 0, 1) := by decide +kernel
theorem dX0_toNextPlace_40 : decode cX0_toNextPlace 40 = .ok (.getfield 9, 3) := by decide +kernel
theorem dX0_toNextPlace_43 : decode cX0_toNextPlace 43 = .ok (.iload_n 2, 1) := by decide +kernel
theorem dX0_toNextPlace_44 : decode cX0_toNextPlace 44 = .ok (.laload, 1) := by decide +kernel
theorem dX0_toNextPlace_45 : decode cX0_toNextPlace 45 = .ok (.lastore, 1) := by decide +kernel
theorem dX0_toNextPlace_46 : decode cX0_toNextPlace 46 = .ok (.iinc 2 1, 3) := by decide +kernel
theorem dX0_toNextPlace_49 : decode cX0_toNextPlace 49 = .ok (.goto (-47), 3) := by decide +kernel
theorem dX0_toNextPlace_52 : decode cX0_toNextPlace 52 = .ok (.return_, 1) := by decide +kernel
theorem dX1_init_0 : decode cX1_init 0 = .ok (.aload_n 0, 1) := by decide +kernel
theorem dX1_init_1 : decode cX1_init 1 = .ok (.invokespecial 3, 3) := by decide +kernel
theorem dX1_init_4 : decode cX1_init 4 = .ok (.aload_n 0, 1) := by decide +kernel
theorem dX1_init_5 : decode cX1_init 5 = .ok (.aload_n 1, 1) := by decide +kernel
theorem dX1_init_6 : decode cX1_init 6 = .ok (.putfield 9, 3) := by decide +kernel
theorem dX1_init_9 : decode cX1_init 9 = .ok (.return_, 1) := by decide +kernel
set_option maxRecDepth 20000 in
theorem ggX1_narrow_X3_givenAt : GoodIn wsX1_narrow wsX3_givenAt := goodIn_r _ [17, 18, 19, 39, 40, 41, 42, 43, 44] (by decide +kernel) (by decide +kernel)
set_option maxRecDepth 20000 in
theorem gX1_narrow_X3_givenAt : GoodIn wsX1_narrow (wsV RX1 32 RX3 yX3_givenAt wsX3_givenAt) := goodIn_app (goodIn_of _ (by decide +kernel)) ggX1_narrow_X3_givenAt
set_option maxRecDepth 20000 in
theorem ggX1_narrow_X7_placeFor : GoodIn wsX1_narrow wsX7_placeFor := goodIn_r _ [24, 25, 26, 27, 45, 46, 47] (by decide +kernel) (by decide +kernel)
set_option maxRecDepth 20000 in
theorem gX1_narrow_X7_placeFor : GoodIn wsX1_narrow (wsV RX1 41 RX7 yX7_placeFor wsX7_placeFor) := goodIn_app (goodIn_of _ (by decide +kernel)) ggX1_narrow_X7_placeFor
set_option maxRecDepth 20000 in
theorem ggX1_narrow_J9_floorDiv_f86c9 : GoodIn wsX1_narrow wsJ9_floorDiv_f86c9 := goodIn_r _ [31] (by decide +kernel) (by decide +kernel)
set_option maxRecDepth 20000 in
theorem gX1_narrow_J9_floorDiv_f86c9 : GoodIn wsX1_narrow (va_wsS RX1 45 yJ9_floorDiv_f86c9 wsJ9_floorDiv_f86c9) := goodIn_app (goodIn_of _ (by decide +kernel)) ggX1_narrow_J9_floorDiv_f86c9
set_option maxRecDepth 20000 in
theorem ggX1_narrow_X7_fineAt : GoodIn wsX1_narrow wsX7_fineAt := goodIn_r _ [35, 26, 27, 45, 46, 47] (by decide +kernel) (by decide +kernel)
set_option maxRecDepth 20000 in
theorem gX1_narrow_X7_fineAt : GoodIn wsX1_narrow (wsV RX1 57 RX7 yX7_fineAt wsX7_fineAt) := goodIn_app (goodIn_of _ (by decide +kernel)) ggX1_narrow_X7_fineAt
theorem dX1_narrow_0 : decode cX1_narrow 0 = .ok (.aload_n 0, 1) := by decide +kernel
theorem dX1_narrow_1 : decode cX1_narrow 1 = .ok (.ldc2_w 15, 3) := by decide +kernel
theorem dX1_narrow_4 : decode cX1_narrow 4 = .ok (.putfield 17, 3) := by decide +kernel
theorem dX1_narrow_7 : decode cX1_narrow 7 = .ok (.aload_n 0, 1) := by decide +kernel
theorem dX1_narrow_8 : decode cX1_narrow 8 = .ok (.ldc2_w 21, 3) := by decide +kernel
theorem dX1_narrow_11 : decode cX1_narrow 11 = .ok (.putfield 23, 3) := by decide +kernel
theorem dX1_narrow_14 : decode cX1_narrow 14 = .ok (.lconst 0, 1) := by decide +kernel
theorem dX1_narrow_15 : decode cX1_narrow 15 = .ok (.lstore_n 3, 1) := by decide +kernel
theorem dX1_narrow_16 : decode cX1_narrow 16 = .ok (.iconst 1, 1) := by decide +kernel
theorem dX1_narrow_17 : decode cX1_narrow 17 = .ok (.istore 5, 2) := by decide +kernel
theorem dX1_narrow_19 : decode cX1_narrow 19 = .ok (.iload 5, 2) := by decide +kernel
theorem dX1_narrow_21 : decode cX1_narrow 21 = .ok (.iload_n 2, 1) := by decide +kernel
theorem dX1_narrow_22 : decode cX1_narrow 22 = .ok (.if_icmp .gt 122, 3) := by decide +kernel
theorem dX1_narrow_25 : decode cX1_narrow 25 = .ok (.aload_n 1, 1) := by decide +kernel
theorem dX1_narrow_26 : decode cX1_narrow 26 = .ok (.aload_n 1, 1) := by decide +kernel
theorem dX1_narrow_27 : decode cX1_narrow 27 = .ok (.getfield 26, 3) := by decide +kernel
theorem dX1_narrow_30 : decode cX1_narrow 30 = .ok (.iload 5, 2) := by decide +kernel
theorem dX1_narrow_32 : decode cX1_narrow 32 = .ok (.isub, 1) := by decide +kernel
theorem dX1_narrow_33 : decode cX1_narrow 33 = .ok (.invokevirtual 32, 3) := by decide +kernel
theorem dX1_narrow_36 : decode cX1_narrow 36 = .ok (.i2l, 1) := by decide +kernel
theorem dX1_narrow_37 : decode cX1_narrow 37 = .ok (.aload_n 0, 1) := by decide +kernel
theorem dX1_narrow_38 : decode cX1_narrow 38 = .ok (.getfield 9, 3) := by decide +kernel
theorem dX1_narrow_41 : decode cX1_narrow 41 = .ok (.getfield 36, 3) := by decide +kernel
theorem dX1_narrow_44 : decode cX1_narrow 44 = .ok (.i2l, 1) := by decide +kernel
theorem dX1_narrow_45 : decode cX1_narrow 45 = .ok (.lmul, 1) := by decide +kernel
theorem dX1_narrow_46 : decode cX1_narrow 46 = .ok (.lstore 6, 2) := by decide +kernel
theorem dX1_narrow_48 : decode cX1_narrow 48 = .ok (.aload_n 0, 1) := by decide +kernel
theorem dX1_narrow_49 : decode cX1_narrow 49 = .ok (.getfield 9, 3) := by decide +kernel
theorem dX1_narrow_52 : decode cX1_narrow 52 = .ok (.lload 6, 2) := by decide +kernel
theorem dX1_narrow_54 : decode cX1_narrow 54 = .ok (.invokevirtual 41, 3) := by decide +kernel
theorem dX1_narrow_57 : decode cX1_narrow 57 = .ok (.istore 8, 2) := by decide +kernel
theorem dX1_narrow_59 : decode cX1_narrow 59 = .ok (.iload 8, 2) := by decide +kernel
theorem dX1_narrow_61 : decode cX1_narrow 61 = .ok (.ifCond .le 26, 3) := by decide +kernel
theorem dX1_narrow_64 : decode cX1_narrow 64 = .ok (.aload_n 0, 1) := by decide +kernel
theorem dX1_narrow_65 : decode cX1_narrow 65 = .ok (.aload_n 0, 1) := by decide +kernel
theorem dX1_narrow_66 : decode cX1_narrow 66 = .ok (.getfield 17, 3) := by decide +kernel
theorem dX1_narrow_69 : decode cX1_narrow 69 = .ok (.lload_n 3, 1) := by decide +kernel
theorem dX1_narrow_70 : decode cX1_narrow 70 = .ok (.lload 6, 2) := by decide +kernel
theorem dX1_narrow_72 : decode cX1_narrow 72 = .ok (.ladd, 1) := by decide +kernel
theorem dX1_narrow_73 : decode cX1_narrow 73 = .ok (.lneg, 1) := by decide +kernel
theorem dX1_narrow_74 : decode cX1_narrow 74 = .ok (.iload 5, 2) := by decide +kernel
theorem dX1_narrow_76 : decode cX1_narrow 76 = .ok (.i2l, 1) := by decide +kernel
theorem dX1_narrow_77 : decode cX1_narrow 77 = .ok (.invokestatic 45, 3) := by decide +kernel
theorem dX1_narrow_80 : decode cX1_narrow 80 = .ok (.lneg, 1) := by decide +kernel
theorem dX1_narrow_81 : decode cX1_narrow 81 = .ok (.invokestatic 51, 3) := by decide +kernel
theorem dX1_narrow_84 : decode cX1_narrow 84 = .ok (.putfield 17, 3) := by decide +kernel
theorem dX1_narrow_87 : decode cX1_narrow 87 = .ok (.iload 8, 2) := by decide +kernel
theorem dX1_narrow_89 : decode cX1_narrow 89 = .ok (.iconst 1, 1) := by decide +kernel
theorem dX1_narrow_90 : decode cX1_narrow 90 = .ok (.iadd, 1) := by decide +kernel
theorem dX1_narrow_91 : decode cX1_narrow 91 = .ok (.aload_n 0, 1) := by decide +kernel
theorem dX1_narrow_92 : decode cX1_narrow 92 = .ok (.getfield 9, 3) := by decide +kernel
theorem dX1_narrow_95 : decode cX1_narrow 95 = .ok (.getfield 54, 3) := by decide +kernel
theorem dX1_narrow_98 : decode cX1_narrow 98 = .ok (.if_icmp .ge 35, 3) := by decide +kernel
theorem dX1_narrow_101 : decode cX1_narrow 101 = .ok (.aload_n 0, 1) := by decide +kernel
theorem dX1_narrow_102 : decode cX1_narrow 102 = .ok (.aload_n 0, 1) := by decide +kernel
theorem dX1_narrow_103 : decode cX1_narrow 103 = .ok (.getfield 23, 3) := by decide +kernel
theorem dX1_narrow_106 : decode cX1_narrow 106 = .ok (.lload_n 3, 1) := by decide +kernel
theorem dX1_narrow_107 : decode cX1_narrow 107 = .ok (.aload_n 0, 1) := by decide +kernel
theorem dX1_narrow_108 : decode cX1_narrow 108 = .ok (.getfield 9, 3) := by decide +kernel
theorem dX1_narrow_111 : decode cX1_narrow 111 = .ok (.iload 8, 2) := by decide +kernel
theorem dX1_narrow_113 : decode cX1_narrow 113 = .ok (.iconst 1, 1) := by decide +kernel
theorem dX1_narrow_114 : decode cX1_narrow 114 = .ok (.iadd, 1) := by decide +kernel
theorem dX1_narrow_115 : decode cX1_narrow 115 = .ok (.invokevirtual 57, 3) := by decide +kernel
theorem dX1_narrow_118 : decode cX1_narrow 118 = .ok (.ladd, 1) := by decide +kernel
theorem dX1_narrow_119 : decode cX1_narrow 119 = .ok (.lconst 1, 1) := by decide +kernel
theorem dX1_narrow_120 : decode cX1_narrow 120 = .ok (.lsub, 1) := by decide +kernel
theorem dX1_narrow_121 : decode cX1_narrow 121 = .ok (.iload 5, 2) := by decide +kernel
theorem dX1_narrow_123 : decode cX1_narrow 123 = .ok (.i2l, 1) := by decide +kernel
theorem dX1_narrow_124 : decode cX1_narrow 124 = .ok (.invokestatic 45, 3) := by decide +kernel
theorem dX1_narrow_127 : decode cX1_narrow 127 = .ok (.invokestatic 61, 3) := by decide +kernel
theorem dX1_narrow_130 : decode cX1_narrow 130 = .ok (.putfield 23, 3) := by decide +kernel
theorem dX1_narrow_133 : decode cX1_narrow 133 = .ok (.lload_n 3, 1) := by decide +kernel
theorem dX1_narrow_134 : decode cX1_narrow 134 = .ok (.lload 6, 2) := by decide +kernel
theorem dX1_narrow_136 : decode cX1_narrow 136 = .ok (.ladd, 1) := by decide +kernel
theorem dX1_narrow_137 : decode cX1_narrow 137 = .ok (.lstore_n 3, 1) := by decide +kernel
theorem dX1_narrow_138 : decode cX1_narrow 138 = .ok (.iinc 5 1, 3) := by decide +kernel
theorem dX1_narrow_141 : decode cX1_narrow 141 = .ok (.goto (-122), 3) := by decide +kernel
theorem dX1_narrow_144 : decode cX1_narrow 144 = .ok (.return_, 1) := by decide +kernel
set_option maxRecDepth 20000 in
theorem ggX1_countRows_X1_roomAbove : GoodIn wsX1_countRows wsX1_roomAbove := goodIn_r _ [5, 6, 7, 8, 9, 10, 11, 12, 13, 14, 15, 16, 17, 18, 19, 20, 21, 22, 23, 24, 25, 26, 27, 28, 29, 30, 31, 32, 33] (by decide +kernel) (by decide +kernel)
set_option maxRecDepth 20000 in
theorem gX1_countRows_X1_roomAbove : GoodIn wsX1_countRows (wsV RX1 64 RX1 yX1_roomAbove wsX1_roomAbove) := goodIn_app (goodIn_of _ (by decide +kernel)) ggX1_countRows_X1_roomAbove
theorem dX1_countRows_0 : decode cX1_countRows 0 = .ok (.iconst 0, 1) := by decide +kernel
theorem dX1_countRows_1 : decode cX1_countRows 1 = .ok (.istore 4, 2) := by decide +kernel
theorem dX1_countRows_3 : decode cX1_countRows 3 = .ok (.iload_n 2, 1) := by decide +kernel
theorem dX1_countRows_4 : decode cX1_countRows 4 = .ok (.i2l, 1) := by decide +kernel
theorem dX1_countRows_5 : decode cX1_countRows 5 = .ok (.lstore 5, 2) := by decide +kernel
theorem dX1_countRows_7 : decode cX1_countRows 7 = .ok (.iconst 0, 1) := by decide +kernel
theorem dX1_countRows_8 : decode cX1_countRows 8 = .ok (.istore 7, 2) := by decide +kernel
theorem dX1_countRows_10 : decode cX1_countRows 10 = .ok (.iload 7, 2) := by decide +kernel
theorem dX1_countRows_12 : decode cX1_countRows 12 = .ok (.sipush 2000, 3) := by decide +kernel
theorem dX1_countRows_15 : decode cX1_countRows 15 = .ok (.if_icmp .gt 34, 3) := by decide +kernel
theorem dX1_countRows_18 : decode cX1_countRows 18 = .ok (.lload 5, 2) := by decide +kernel
theorem dX1_countRows_20 : decode cX1_countRows 20 = .ok (.iload_n 3, 1) := by decide +kernel
theorem dX1_countRows_21 : decode cX1_countRows 21 = .ok (.i2l, 1) := by decide +kernel
theorem dX1_countRows_22 : decode cX1_countRows 22 = .ok (.lcmp, 1) := by decide +kernel
theorem dX1_countRows_23 : decode cX1_countRows 23 = .ok (.ifCond .gt 26, 3) := by decide +kernel
theorem dX1_countRows_26 : decode cX1_countRows 26 = .ok (.iinc 4 1, 3) := by decide +kernel
theorem dX1_countRows_29 : decode cX1_countRows 29 = .ok (.lload 5, 2) := by decide +kernel
theorem dX1_countRows_31 : decode cX1_countRows 31 = .ok (.lconst 1, 1) := by decide +kernel
theorem dX1_countRows_32 : decode cX1_countRows 32 = .ok (.aload_n 0, 1) := by decide +kernel
theorem dX1_countRows_33 : decode cX1_countRows 33 = .ok (.lload 5, 2) := by decide +kernel
theorem dX1_countRows_35 : decode cX1_countRows 35 = .ok (.iload_n 1, 1) := by decide +kernel
theorem dX1_countRows_36 : decode cX1_countRows 36 = .ok (.invokevirtual 64, 3) := by decide +kernel
theorem dX1_countRows_39 : decode cX1_countRows 39 = .ok (.ladd, 1) := by decide +kernel
theorem dX1_countRows_40 : decode cX1_countRows 40 = .ok (.ladd, 1) := by decide +kernel
theorem dX1_countRows_41 : decode cX1_countRows 41 = .ok (.lstore 5, 2) := by decide +kernel
theorem dX1_countRows_43 : decode cX1_countRows 43 = .ok (.iinc 7 1, 3) := by decide +kernel
theorem dX1_countRows_46 : decode cX1_countRows 46 = .ok (.goto (-36), 3) := by decide +kernel
theorem dX1_countRows_49 : decode cX1_countRows 49 = .ok (.iload 4, 2) := by decide +kernel
theorem dX1_countRows_51 : decode cX1_countRows 51 = .ok (.ireturn, 1) := by decide +kernel
set_option maxRecDepth 20000 in
theorem ggX1_roomAbove_X7_placeFor : GoodIn wsX1_roomAbove wsX7_placeFor := goodIn_r _ [11, 12, 13, 14, 26, 27, 28] (by decide +kernel) (by decide +kernel)
set_option maxRecDepth 20000 in
theorem gX1_roomAbove_X7_placeFor : GoodIn wsX1_roomAbove (wsV RX1 41 RX7 yX7_placeFor wsX7_placeFor) := goodIn_app (goodIn_of _ (by decide +kernel)) ggX1_roomAbove_X7_placeFor
set_option maxRecDepth 20000 in
theorem ggX1_roomAbove_X7_fineAt : GoodIn wsX1_roomAbove wsX7_fineAt := goodIn_r _ [18, 13, 14, 26, 27, 28] (by decide +kernel) (by decide +kernel)
set_option maxRecDepth 20000 in
theorem gX1_roomAbove_X7_fineAt : GoodIn wsX1_roomAbove (wsV RX1 57 RX7 yX7_fineAt wsX7_fineAt) := goodIn_app (goodIn_of _ (by decide +kernel)) ggX1_roomAbove_X7_fineAt
set_option maxRecDepth 20000 in
theorem ggX1_roomAbove_J9_floorDiv_f86c9 : GoodIn wsX1_roomAbove wsJ9_floorDiv_f86c9 := goodIn_r _ [22] (by decide +kernel) (by decide +kernel)
set_option maxRecDepth 20000 in
theorem gX1_roomAbove_J9_floorDiv_f86c9 : GoodIn wsX1_roomAbove (va_wsS RX1 45 yJ9_floorDiv_f86c9 wsJ9_floorDiv_f86c9) := goodIn_app (goodIn_of _ (by decide +kernel)) ggX1_roomAbove_J9_floorDiv_f86c9
theorem dX1_roomAbove_0 : decode cX1_roomAbove 0 = .ok (.ldc2_w 68, 3) := by decide +kernel
theorem dX1_roomAbove_3 : decode cX1_roomAbove 3 = .ok (.lstore 4, 2) := by decide +kernel
theorem dX1_roomAbove_5 : decode cX1_roomAbove 5 = .ok (.lconst 0, 1) := by decide +kernel
theorem dX1_roomAbove_6 : decode cX1_roomAbove 6 = .ok (.lstore 6, 2) := by decide +kernel
theorem dX1_roomAbove_8 : decode cX1_roomAbove 8 = .ok (.iconst 1, 1) := by decide +kernel
theorem dX1_roomAbove_9 : decode cX1_roomAbove 9 = .ok (.istore 8, 2) := by decide +kernel
theorem dX1_roomAbove_11 : decode cX1_roomAbove 11 = .ok (.iload 8, 2) := by decide +kernel
theorem dX1_roomAbove_13 : decode cX1_roomAbove 13 = .ok (.iload_n 3, 1) := by decide +kernel
theorem dX1_roomAbove_14 : decode cX1_roomAbove 14 = .ok (.if_icmp .gt 83, 3) := by decide +kernel
theorem dX1_roomAbove_17 : decode cX1_roomAbove 17 = .ok (.lload 6, 2) := by decide +kernel
theorem dX1_roomAbove_19 : decode cX1_roomAbove 19 = .ok (.lload_n 1, 1) := by decide +kernel
theorem dX1_roomAbove_20 : decode cX1_roomAbove 20 = .ok (.ladd, 1) := by decide +kernel
theorem dX1_roomAbove_21 : decode cX1_roomAbove 21 = .ok (.lstore 9, 2) := by decide +kernel
theorem dX1_roomAbove_23 : decode cX1_roomAbove 23 = .ok (.aload_n 0, 1) := by decide +kernel
theorem dX1_roomAbove_24 : decode cX1_roomAbove 24 = .ok (.getfield 9, 3) := by decide +kernel
theorem dX1_roomAbove_27 : decode cX1_roomAbove 27 = .ok (.lload 9, 2) := by decide +kernel
theorem dX1_roomAbove_29 : decode cX1_roomAbove 29 = .ok (.invokevirtual 41, 3) := by decide +kernel
theorem dX1_roomAbove_32 : decode cX1_roomAbove 32 = .ok (.istore 11, 2) := by decide +kernel
theorem dX1_roomAbove_34 : decode cX1_roomAbove 34 = .ok (.iload 11, 2) := by decide +kernel
theorem dX1_roomAbove_36 : decode cX1_roomAbove 36 = .ok (.iconst 1, 1) := by decide +kernel
theorem dX1_roomAbove_37 : decode cX1_roomAbove 37 = .ok (.iadd, 1) := by decide +kernel
theorem dX1_roomAbove_38 : decode cX1_roomAbove 38 = .ok (.aload_n 0, 1) := by decide +kernel
theorem dX1_roomAbove_39 : decode cX1_roomAbove 39 = .ok (.getfield 9, 3) := by decide +kernel
theorem dX1_roomAbove_42 : decode cX1_roomAbove 42 = .ok (.getfield 54, 3) := by decide +kernel
theorem dX1_roomAbove_45 : decode cX1_roomAbove 45 = .ok (.if_icmp .ge 32, 3) := by decide +kernel
theorem dX1_roomAbove_48 : decode cX1_roomAbove 48 = .ok (.lload 4, 2) := by decide +kernel
theorem dX1_roomAbove_50 : decode cX1_roomAbove 50 = .ok (.aload_n 0, 1) := by decide +kernel
theorem dX1_roomAbove_51 : decode cX1_roomAbove 51 = .ok (.getfield 9, 3) := by decide +kernel
theorem dX1_roomAbove_54 : decode cX1_roomAbove 54 = .ok (.iload 11, 2) := by decide +kernel
theorem dX1_roomAbove_56 : decode cX1_roomAbove 56 = .ok (.iconst 1, 1) := by decide +kernel
theorem dX1_roomAbove_57 : decode cX1_roomAbove 57 = .ok (.iadd, 1) := by decide +kernel
theorem dX1_roomAbove_58 : decode cX1_roomAbove 58 = .ok (.invokevirtual 57, 3) := by decide +kernel
theorem dX1_roomAbove_61 : decode cX1_roomAbove 61 = .ok (.lconst 1, 1) := by decide +kernel
theorem dX1_roomAbove_62 : decode cX1_roomAbove 62 = .ok (.lsub, 1) := by decide +kernel
theorem dX1_roomAbove_63 : decode cX1_roomAbove 63 = .ok (.lload 9, 2) := by decide +kernel
theorem dX1_roomAbove_65 : decode cX1_roomAbove 65 = .ok (.lsub, 1) := by decide +kernel
theorem dX1_roomAbove_66 : decode cX1_roomAbove 66 = .ok (.iload 8, 2) := by decide +kernel
theorem dX1_roomAbove_68 : decode cX1_roomAbove 68 = .ok (.i2l, 1) := by decide +kernel
theorem dX1_roomAbove_69 : decode cX1_roomAbove 69 = .ok (.invokestatic 45, 3) := by decide +kernel
theorem dX1_roomAbove_72 : decode cX1_roomAbove 72 = .ok (.invokestatic 61, 3) := by decide +kernel
theorem dX1_roomAbove_75 : decode cX1_roomAbove 75 = .ok (.lstore 4, 2) := by decide +kernel
theorem dX1_roomAbove_77 : decode cX1_roomAbove 77 = .ok (.lload 9, 2) := by decide +kernel
theorem dX1_roomAbove_79 : decode cX1_roomAbove 79 = .ok (.aload_n 0, 1) := by decide +kernel
theorem dX1_roomAbove_80 : decode cX1_roomAbove 80 = .ok (.getfield 9, 3) := by decide +kernel
theorem dX1_roomAbove_83 : decode cX1_roomAbove 83 = .ok (.iload 11, 2) := by decide +kernel
theorem dX1_roomAbove_85 : decode cX1_roomAbove 85 = .ok (.invokevirtual 57, 3) := by decide +kernel
theorem dX1_roomAbove_88 : decode cX1_roomAbove 88 = .ok (.lsub, 1) := by decide +kernel
theorem dX1_roomAbove_89 : decode cX1_roomAbove 89 = .ok (.lstore 6, 2) := by decide +kernel
theorem dX1_roomAbove_91 : decode cX1_roomAbove 91 = .ok (.iinc 8 1, 3) := by decide +kernel
theorem dX1_roomAbove_94 : decode cX1_roomAbove 94 = .ok (.goto (-83), 3) := by decide +kernel
theorem dX1_roomAbove_97 : decode cX1_roomAbove 97 = .ok (.lload 4, 2) := by decide +kernel
theorem dX1_roomAbove_99 : decode cX1_roomAbove 99 = .ok (.lreturn, 1) := by decide +kernel
theorem dX2_init_0 : decode cX2_init 0 = .ok (.aload_n 0, 1) := by decide +kernel
theorem dX2_init_1 : decode cX2_init 1 = .ok (.invokespecial 3, 3) := by decide +kernel
theorem dX2_init_4 : decode cX2_init 4 = .ok (.aload_n 0, 1) := by decide +kernel
theorem dX2_init_5 : decode cX2_init 5 = .ok (.bipush 64, 2) := by decide +kernel
theorem dX2_init_7 : decode cX2_init 7 = .ok (.newarray .int, 2) := by decide +kernel
theorem dX2_init_9 : decode cX2_init 9 = .ok (.putfield 9, 3) := by decide +kernel
theorem dX2_init_12 : decode cX2_init 12 = .ok (.return_, 1) := by decide +kernel
theorem dX2_append_0 : decode cX2_append 0 = .ok (.aload_n 0, 1) := by decide +kernel
theorem dX2_append_1 : decode cX2_append 1 = .ok (.getfield 15, 3) := by decide +kernel
theorem dX2_append_4 : decode cX2_append 4 = .ok (.bipush 64, 2) := by decide +kernel
theorem dX2_append_6 : decode cX2_append 6 = .ok (.if_icmp .lt 5, 3) := by decide +kernel
theorem dX2_append_9 : decode cX2_append 9 = .ok (.iconst (-1), 1) := by decide +kernel
theorem dX2_append_10 : decode cX2_append 10 = .ok (.ireturn, 1) := by decide +kernel
theorem dX2_append_11 : decode cX2_append 11 = .ok (.aload_n 0, 1) := by decide +kernel
theorem dX2_append_12 : decode cX2_append 12 = .ok (.getfield 9, 3) := by decide +kernel
theorem dX2_append_15 : decode cX2_append 15 = .ok (.aload_n 0, 1) := by decide +kernel
theorem dX2_append_16 : decode cX2_append 16 = .ok (.getfield 15, 3) := by decide +kernel
theorem dX2_append_19 : decode cX2_append 19 = .ok (.iload_n 1, 1) := by decide +kernel
theorem dX2_append_20 : decode cX2_append 20 = .ok (.iastore, 1) := by decide +kernel
theorem dX2_append_21 : decode cX2_append 21 = .ok (.aload_n 0, 1) := by decide +kernel
theorem dX2_append_22 : decode cX2_append 22 = .ok (.dup, 1) := by decide +kernel
theorem dX2_append_23 : decode cX2_append 23 = .ok (.getfield 15, 3) := by decide +kernel
theorem dX2_append_26 : decode cX2_append 26 = .ok (.iconst 1, 1) := by decide +kernel
theorem dX2_append_27 : decode cX2_append 27 = .ok (.iadd, 1) := by decide +kernel
theorem dX2_append_28 : decode cX2_append 28 = .ok (.putfield 15, 3) := by decide +kernel
theorem dX2_append_31 : decode cX2_append 31 = .ok (.aload_n 0, 1) := by decide +kernel
theorem dX2_append_32 : decode cX2_append 32 = .ok (.getfield 15, 3) := by decide +kernel
theorem dX2_append_35 : decode cX2_append 35 = .ok (.ireturn, 1) := by decide +kernel
theorem dX2_empty_0 : decode cX2_empty 0 = .ok (.aload_n 0, 1) := by decide +kernel
theorem dX2_empty_1 : decode cX2_empty 1 = .ok (.getfield 15, 3) := by decide +kernel
theorem dX2_empty_4 : decode cX2_empty 4 = .ok (.istore_n 1, 1) := by decide +kernel
theorem dX2_empty_5 : decode cX2_empty 5 = .ok (.aload_n 0, 1) := by decide +kernel
theorem dX2_empty_6 : decode cX2_empty 6 = .ok (.iconst 0, 1) := by decide +kernel
theorem dX2_empty_7 : decode cX2_empty 7 = .ok (.putfield 15, 3) := by decide +kernel
theorem dX2_empty_10 : decode cX2_empty 10 = .ok (.iload_n 1, 1) := by decide +kernel
theorem dX2_empty_11 : decode cX2_empty 11 = .ok (.ireturn, 1) := by decide +kernel
set_option maxRecDepth 20000 in
theorem ggX2_readFrom_X3_holds : GoodIn wsX2_readFrom wsX3_holds := goodIn_r _ [7, 8, 17, 18, 19, 20, 21, 22] (by decide +kernel) (by decide +kernel)
set_option maxRecDepth 20000 in
theorem gX2_readFrom_X3_holds : GoodIn wsX2_readFrom (wsV RX2 19 RX3 yX3_holds wsX3_holds) := goodIn_app (goodIn_of _ (by decide +kernel)) ggX2_readFrom_X3_holds
set_option maxRecDepth 20000 in
theorem ggX2_readFrom_X3_givenAt : GoodIn wsX2_readFrom wsX3_givenAt := goodIn_r _ [12, 13, 14, 17, 18, 19, 20, 21, 22] (by decide +kernel) (by decide +kernel)
set_option maxRecDepth 20000 in
theorem gX2_readFrom_X3_givenAt : GoodIn wsX2_readFrom (wsV RX2 25 RX3 yX3_givenAt wsX3_givenAt) := goodIn_app (goodIn_of _ (by decide +kernel)) ggX2_readFrom_X3_givenAt
theorem dX2_readFrom_0 : decode cX2_readFrom 0 = .ok (.lconst 0, 1) := by decide +kernel
theorem dX2_readFrom_1 : decode cX2_readFrom 1 = .ok (.lstore_n 2, 1) := by decide +kernel
theorem dX2_readFrom_2 : decode cX2_readFrom 2 = .ok (.iconst 0, 1) := by decide +kernel
theorem dX2_readFrom_3 : decode cX2_readFrom 3 = .ok (.istore 4, 2) := by decide +kernel
theorem dX2_readFrom_5 : decode cX2_readFrom 5 = .ok (.iload 4, 2) := by decide +kernel
theorem dX2_readFrom_7 : decode cX2_readFrom 7 = .ok (.aload_n 0, 1) := by decide +kernel
theorem dX2_readFrom_8 : decode cX2_readFrom 8 = .ok (.getfield 15, 3) := by decide +kernel
theorem dX2_readFrom_11 : decode cX2_readFrom 11 = .ok (.if_icmp .ge 37, 3) := by decide +kernel
theorem dX2_readFrom_14 : decode cX2_readFrom 14 = .ok (.aload_n 1, 1) := by decide +kernel
theorem dX2_readFrom_15 : decode cX2_readFrom 15 = .ok (.iload 4, 2) := by decide +kernel
theorem dX2_readFrom_17 : decode cX2_readFrom 17 = .ok (.invokevirtual 19, 3) := by decide +kernel
theorem dX2_readFrom_20 : decode cX2_readFrom 20 = .ok (.ifCond .eq 28, 3) := by decide +kernel
theorem dX2_readFrom_23 : decode cX2_readFrom 23 = .ok (.lload_n 2, 1) := by decide +kernel
theorem dX2_readFrom_24 : decode cX2_readFrom 24 = .ok (.aload_n 0, 1) := by decide +kernel
theorem dX2_readFrom_25 : decode cX2_readFrom 25 = .ok (.getfield 9, 3) := by decide +kernel
theorem dX2_readFrom_28 : decode cX2_readFrom 28 = .ok (.iload 4, 2) := by decide +kernel
theorem dX2_readFrom_30 : decode cX2_readFrom 30 = .ok (.iaload, 1) := by decide +kernel
theorem dX2_readFrom_31 : decode cX2_readFrom 31 = .ok (.i2l, 1) := by decide +kernel
theorem dX2_readFrom_32 : decode cX2_readFrom 32 = .ok (.aload_n 1, 1) := by decide +kernel
theorem dX2_readFrom_33 : decode cX2_readFrom 33 = .ok (.iload 4, 2) := by decide +kernel
theorem dX2_readFrom_35 : decode cX2_readFrom 35 = .ok (.invokevirtual 25, 3) := by decide +kernel
theorem dX2_readFrom_38 : decode cX2_readFrom 38 = .ok (.i2l, 1) := by decide +kernel
theorem dX2_readFrom_39 : decode cX2_readFrom 39 = .ok (.lmul, 1) := by decide +kernel
theorem dX2_readFrom_40 : decode cX2_readFrom 40 = .ok (.ladd, 1) := by decide +kernel
theorem dX2_readFrom_41 : decode cX2_readFrom 41 = .ok (.lstore_n 2, 1) := by decide +kernel
theorem dX2_readFrom_42 : decode cX2_readFrom 42 = .ok (.iinc 4 1, 3) := by decide +kernel
theorem dX2_readFrom_45 : decode cX2_readFrom 45 = .ok (.goto (-40), 3) := by decide +kernel
theorem dX2_readFrom_48 : decode cX2_readFrom 48 = .ok (.lload_n 2, 1) := by decide +kernel
theorem dX2_readFrom_49 : decode cX2_readFrom 49 = .ok (.lreturn, 1) := by decide +kernel
theorem dX3_init_0 : decode cX3_init 0 = .ok (.aload_n 0, 1) := by decide +kernel
theorem dX3_init_1 : decode cX3_init 1 = .ok (.invokespecial 3, 3) := by decide +kernel
theorem dX3_init_4 : decode cX3_init 4 = .ok (.aload_n 0, 1) := by decide +kernel
theorem dX3_init_5 : decode cX3_init 5 = .ok (.sipush 256, 3) := by decide +kernel
theorem dX3_init_8 : decode cX3_init 8 = .ok (.newarray .int, 2) := by decide +kernel
theorem dX3_init_10 : decode cX3_init 10 = .ok (.putfield 9, 3) := by decide +kernel
theorem dX3_init_13 : decode cX3_init 13 = .ok (.aload_n 0, 1) := by decide +kernel
theorem dX3_init_14 : decode cX3_init 14 = .ok (.sipush 256, 3) := by decide +kernel
theorem dX3_init_17 : decode cX3_init 17 = .ok (.newarray .int, 2) := by decide +kernel
theorem dX3_init_19 : decode cX3_init 19 = .ok (.putfield 15, 3) := by decide +kernel
theorem dX3_init_22 : decode cX3_init 22 = .ok (.aload_n 0, 1) := by decide +kernel
theorem dX3_init_23 : decode cX3_init 23 = .ok (.sipush 256, 3) := by decide +kernel
theorem dX3_init_26 : decode cX3_init 26 = .ok (.newarray .long, 2) := by decide +kernel
theorem dX3_init_28 : decode cX3_init 28 = .ok (.putfield 18, 3) := by decide +kernel
theorem dX3_init_31 : decode cX3_init 31 = .ok (.aload_n 0, 1) := by decide +kernel
theorem dX3_init_32 : decode cX3_init 32 = .ok (.sipush 257, 3) := by decide +kernel
theorem dX3_init_35 : decode cX3_init 35 = .ok (.newarray .int, 2) := by decide +kernel
theorem dX3_init_37 : decode cX3_init 37 = .ok (.putfield 22, 3) := by decide +kernel
theorem dX3_init_40 : decode cX3_init 40 = .ok (.return_, 1) := by decide +kernel
theorem dX3_forget_0 : decode cX3_forget 0 = .ok (.aload_n 0, 1) := by decide +kernel
theorem dX3_forget_1 : decode cX3_forget 1 = .ok (.iconst 0, 1) := by decide +kernel
theorem dX3_forget_2 : decode cX3_forget 2 = .ok (.putfield 25, 3) := by decide +kernel
theorem dX3_forget_5 : decode cX3_forget 5 = .ok (.aload_n 0, 1) := by decide +kernel
theorem dX3_forget_6 : decode cX3_forget 6 = .ok (.iconst 0, 1) := by decide +kernel
theorem dX3_forget_7 : decode cX3_forget 7 = .ok (.putfield 29, 3) := by decide +kernel
theorem dX3_forget_10 : decode cX3_forget 10 = .ok (.return_, 1) := by decide +kernel
theorem dX3_note_0 : decode cX3_note 0 = .ok (.aload_n 0, 1) := by decide +kernel
theorem dX3_note_1 : decode cX3_note 1 = .ok (.getfield 9, 3) := by decide +kernel
theorem dX3_note_4 : decode cX3_note 4 = .ok (.aload_n 0, 1) := by decide +kernel
theorem dX3_note_5 : decode cX3_note 5 = .ok (.getfield 25, 3) := by decide +kernel
theorem dX3_note_8 : decode cX3_note 8 = .ok (.iload_n 1, 1) := by decide +kernel
theorem dX3_note_9 : decode cX3_note 9 = .ok (.iastore, 1) := by decide +kernel
theorem dX3_note_10 : decode cX3_note 10 = .ok (.aload_n 0, 1) := by decide +kernel
theorem dX3_note_11 : decode cX3_note 11 = .ok (.getfield 15, 3) := by decide +kernel
theorem dX3_note_14 : decode cX3_note 14 = .ok (.aload_n 0, 1) := by decide +kernel
theorem dX3_note_15 : decode cX3_note 15 = .ok (.getfield 25, 3) := by decide +kernel
theorem dX3_note_18 : decode cX3_note 18 = .ok (.iload_n 2, 1) := by decide +kernel
theorem dX3_note_19 : decode cX3_note 19 = .ok (.iastore, 1) := by decide +kernel
theorem dX3_note_20 : decode cX3_note 20 = .ok (.aload_n 0, 1) := by decide +kernel
theorem dX3_note_21 : decode cX3_note 21 = .ok (.getfield 18, 3) := by decide +kernel
theorem dX3_note_24 : decode cX3_note 24 = .ok (.aload_n 0, 1) := by decide +kernel
theorem dX3_note_25 : decode cX3_note 25 = .ok (.getfield 25, 3) := by decide +kernel
theorem dX3_note_28 : decode cX3_note 28 = .ok (.lload_n 3, 1) := by decide +kernel
theorem dX3_note_29 : decode cX3_note 29 = .ok (.lastore, 1) := by decide +kernel
theorem dX3_note_30 : decode cX3_note 30 = .ok (.aload_n 0, 1) := by decide +kernel
theorem dX3_note_31 : decode cX3_note 31 = .ok (.aload_n 0, 1) := by decide +kernel
theorem dX3_note_32 : decode cX3_note 32 = .ok (.getfield 25, 3) := by decide +kernel
theorem dX3_note_35 : decode cX3_note 35 = .ok (.iconst 1, 1) := by decide +kernel
theorem dX3_note_36 : decode cX3_note 36 = .ok (.iadd, 1) := by decide +kernel
theorem dX3_note_37 : decode cX3_note 37 = .ok (.sipush 255, 3) := by decide +kernel
theorem dX3_note_40 : decode cX3_note 40 = .ok (.iand, 1) := by decide +kernel
theorem dX3_note_41 : decode cX3_note 41 = .ok (.putfield 25, 3) := by decide +kernel
theorem dX3_note_44 : decode cX3_note 44 = .ok (.aload_n 0, 1) := by decide +kernel
theorem dX3_note_45 : decode cX3_note 45 = .ok (.aload_n 0, 1) := by decide +kernel
theorem dX3_note_46 : decode cX3_note 46 = .ok (.getfield 29, 3) := by decide +kernel
theorem dX3_note_49 : decode cX3_note 49 = .ok (.iconst 1, 1) := by decide +kernel
theorem dX3_note_50 : decode cX3_note 50 = .ok (.iadd, 1) := by decide +kernel
theorem dX3_note_51 : decode cX3_note 51 = .ok (.sipush 256, 3) := by decide +kernel
theorem dX3_note_54 : decode cX3_note 54 = .ok (.invokestatic 32, 3) := by decide +kernel
theorem dX3_note_57 : decode cX3_note 57 = .ok (.putfield 29, 3) := by decide +kernel
theorem dX3_note_60 : decode cX3_note 60 = .ok (.return_, 1) := by decide +kernel
theorem dX3_holds_0 : decode cX3_holds 0 = .ok (.iload_n 1, 1) := by decide +kernel
theorem dX3_holds_1 : decode cX3_holds 1 = .ok (.ifCond .lt 15, 3) := by decide +kernel
theorem dX3_holds_4 : decode cX3_holds 4 = .ok (.iload_n 1, 1) := by decide +kernel
theorem dX3_holds_5 : decode cX3_holds 5 = .ok (.aload_n 0, 1) := by decide +kernel
theorem dX3_holds_6 : decode cX3_holds 6 = .ok (.getfield 29, 3) := by decide +kernel
theorem dX3_holds_9 : decode cX3_holds 9 = .ok (.if_icmp .ge 7, 3) := by decide +kernel
theorem dX3_holds_12 : decode cX3_holds 12 = .ok (.iconst 1, 1) := by decide +kernel
theorem dX3_holds_13 : decode cX3_holds 13 = .ok (.goto 4, 3) := by decide +kernel
theorem dX3_holds_16 : decode cX3_holds 16 = .ok (.iconst 0, 1) := by decide +kernel
