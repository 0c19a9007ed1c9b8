def RX0 : String := "OddChoir$ChantText"
def TX0 : u_T := fun k => match k with
  | 0 => ("OddChoir$ChantText", "codes", "[C", true)
  | _ => ("OddChoir$ChantText", "length", "I", false)
def tyX0 : Nat → FieldType := fun k => match k with
  | 0 => .array .char
  | _ => .int
abbrev wsX00 : List Cond := u_ws RX0 TX0 2
theorem nmX0 : ∀ a, a < 2 → ∀ b, b < 2 → a ≠ b → (TX0 a).2.1 ≠ (TX0 b).2.1 := by decide +kernel
theorem tyX0_ok : ∀ k, k < 2 → parseFieldDescriptor (TX0 k).2.2.1 = some (tyX0 k) := by decide +kernel
abbrev cX0_init : ByteArray := prog_2_method_1_code
def yX0_init : MethodName := ⟨RX0, "<init>", "()V"⟩
def RX1 : String := "OddChoir$Choir"
def TX1 : u_T := fun k => match k with
  | 0 => ("OddChoir$Choir", "sizes", "[I", true)
  | 1 => ("OddChoir$Choir", "numbers", "[I", true)
  | 2 => ("OddChoir$Choir", "heights", "[I", true)
  | 3 => ("OddChoir$Choir", "voices", "[I", true)
  | 4 => ("OddChoir$Choir", "reach", "I", false)
  | 5 => ("OddChoir$Choir", "behind", "I", false)
  | 6 => ("OddChoir$Choir", "came", "I", false)
  | 7 => ("OddChoir$Choir", "left", "I", false)
  | _ => ("OddChoir$Choir", "swaps", "I", false)
def tyX1 : Nat → FieldType := fun k => match k with
  | 0 => .array .int
  | 1 => .array .int
  | 2 => .array .int
  | 3 => .array .int
  | 4 => .int
  | 5 => .int
  | 6 => .int
  | 7 => .int
  | _ => .int
abbrev wsX10 : List Cond := u_ws RX1 TX1 9
theorem nmX1 : ∀ a, a < 9 → ∀ b, b < 9 → a ≠ b → (TX1 a).2.1 ≠ (TX1 b).2.1 := by decide +kernel
theorem tyX1_ok : ∀ k, k < 9 → parseFieldDescriptor (TX1 k).2.2.1 = some (tyX1 k) := by decide +kernel
abbrev cX1_init : ByteArray := prog_3_method_1_code
def yX1_init : MethodName := ⟨RX1, "<init>", "()V"⟩
abbrev cX1_become : ByteArray := prog_3_method_2_code
def yX1_become : MethodName := ⟨RX1, "become", "(LOddChoir$Choir;)V"⟩
abbrev cX1_copyCells : ByteArray := prog_3_method_3_code
def yX1_copyCells : MethodName := ⟨RX1, "copyCells", "([I[I)V"⟩
abbrev cX1_settingAt : ByteArray := prog_3_method_4_code
def yX1_settingAt : MethodName := ⟨RX1, "settingAt", "(I)I"⟩
abbrev cX1_changeSetting : ByteArray := prog_3_method_5_code
def yX1_changeSetting : MethodName := ⟨RX1, "changeSetting", "(II)V"⟩
abbrev cX1_sizeOf : ByteArray := prog_3_method_6_code
def yX1_sizeOf : MethodName := ⟨RX1, "sizeOf", "(I)I"⟩
abbrev cX1_sizeOfAll : ByteArray := prog_3_method_7_code
def yX1_sizeOfAll : MethodName := ⟨RX1, "sizeOfAll", "()I"⟩
abbrev cX1_changeSize : ByteArray := prog_3_method_8_code
def yX1_changeSize : MethodName := ⟨RX1, "changeSize", "(II)V"⟩
abbrev cX1_isTaken : ByteArray := prog_3_method_9_code
def yX1_isTaken : MethodName := ⟨RX1, "isTaken", "(II)Z"⟩
abbrev cX1_hasRoomFor : ByteArray := prog_3_method_10_code
def yX1_hasRoomFor : MethodName := ⟨RX1, "hasRoomFor", "(I)Z"⟩
abbrev cX1_spotAt : ByteArray := prog_3_method_11_code
def yX1_spotAt : MethodName := ⟨RX1, "spotAt", "(II)I"⟩
abbrev cX1_numberAt : ByteArray := prog_3_method_12_code
def yX1_numberAt : MethodName := ⟨RX1, "numberAt", "(II)I"⟩
abbrev cX1_heightAt : ByteArray := prog_3_method_13_code
def yX1_heightAt : MethodName := ⟨RX1, "heightAt", "(II)I"⟩
abbrev cX1_voiceAt : ByteArray := prog_3_method_14_code
def yX1_voiceAt : MethodName := ⟨RX1, "voiceAt", "(II)I"⟩
abbrev cX1_spotOfNumber : ByteArray := prog_3_method_15_code
def yX1_spotOfNumber : MethodName := ⟨RX1, "spotOfNumber", "(I)I"⟩
abbrev cX1_arrive : ByteArray := prog_3_method_16_code
def yX1_arrive : MethodName := ⟨RX1, "arrive", "(III)I"⟩
abbrev cX1_dismiss : ByteArray := prog_3_method_17_code
def yX1_dismiss : MethodName := ⟨RX1, "dismiss", "(II)I"⟩
abbrev cX1_moveOver : ByteArray := prog_3_method_18_code
def yX1_moveOver : MethodName := ⟨RX1, "moveOver", "(III)I"⟩
abbrev cX1_moveToRightEnd : ByteArray := prog_3_method_19_code
def yX1_moveToRightEnd : MethodName := ⟨RX1, "moveToRightEnd", "(II)V"⟩
abbrev cX1_changeHeight : ByteArray := prog_3_method_20_code
def yX1_changeHeight : MethodName := ⟨RX1, "changeHeight", "(III)V"⟩
abbrev cX1_swapPlaces : ByteArray := prog_3_method_21_code
def yX1_swapPlaces : MethodName := ⟨RX1, "swapPlaces", "(IIII)V"⟩
abbrev cX1_swapCells : ByteArray := prog_3_method_22_code
def yX1_swapCells : MethodName := ⟨RX1, "swapCells", "([III)V"⟩
abbrev cX1_swapAndCount : ByteArray := prog_3_method_23_code
def yX1_swapAndCount : MethodName := ⟨RX1, "swapAndCount", "(IIII)V"⟩
abbrev cX1_turnRound : ByteArray := prog_3_method_24_code
def yX1_turnRound : MethodName := ⟨RX1, "turnRound", "(I)V"⟩
abbrev cX1_putInOrder : ByteArray := prog_3_method_25_code
def yX1_putInOrder : MethodName := ⟨RX1, "putInOrder", "(II)V"⟩
abbrev cX1_rankAt : ByteArray := prog_3_method_26_code
def yX1_rankAt : MethodName := ⟨RX1, "rankAt", "(III)I"⟩
abbrev cX1_highestOf : ByteArray := prog_3_method_27_code
def yX1_highestOf : MethodName := ⟨RX1, "highestOf", "(I)I"⟩
abbrev cX1_discordOf : ByteArray := prog_3_method_28_code
def yX1_discordOf : MethodName := ⟨RX1, "discordOf", "(I)I"⟩
abbrev cX1_discordOfAll : ByteArray := prog_3_method_29_code
def yX1_discordOfAll : MethodName := ⟨RX1, "discordOfAll", "()I"⟩
abbrev cX1_rowBehind : ByteArray := prog_3_method_30_code
def yX1_rowBehind : MethodName := ⟨RX1, "rowBehind", "(I)I"⟩
abbrev cX1_rowBefore : ByteArray := prog_3_method_31_code
def yX1_rowBefore : MethodName := ⟨RX1, "rowBefore", "(I)I"⟩
abbrev cX1_heardBy : ByteArray := prog_3_method_32_code
def yX1_heardBy : MethodName := ⟨RX1, "heardBy", "(II)I"⟩
abbrev cX1_hearersOf : ByteArray := prog_3_method_33_code
def yX1_hearersOf : MethodName := ⟨RX1, "hearersOf", "(II)I"⟩
abbrev cX1_higherHeardBy : ByteArray := prog_3_method_34_code
def yX1_higherHeardBy : MethodName := ⟨RX1, "higherHeardBy", "(II)I"⟩
abbrev cX1_higherBehind : ByteArray := prog_3_method_35_code
def yX1_higherBehind : MethodName := ⟨RX1, "higherBehind", "(III)I"⟩
abbrev cX1_higherByTree : ByteArray := prog_3_method_36_code
def yX1_higherByTree : MethodName := ⟨RX1, "higherByTree", "(LOddChoir$HeightTree;II)I"⟩
abbrev cX1_singersBetween : ByteArray := prog_3_method_37_code
def yX1_singersBetween : MethodName := ⟨RX1, "singersBetween", "(III)I"⟩
abbrev cX1_higherBetween : ByteArray := prog_3_method_38_code
def yX1_higherBetween : MethodName := ⟨RX1, "higherBetween", "(IIII)I"⟩
abbrev cX1_putBetween : ByteArray := prog_3_method_39_code
def yX1_putBetween : MethodName := ⟨RX1, "putBetween", "(LOddChoir$HeightTree;III)V"⟩
abbrev cX1_oddIn : ByteArray := prog_3_method_40_code
def yX1_oddIn : MethodName := ⟨RX1, "oddIn", "(I)I"⟩
abbrev cX1_oddOfAll : ByteArray := prog_3_method_41_code
def yX1_oddOfAll : MethodName := ⟨RX1, "oddOfAll", "()I"⟩
abbrev cX1_writtenLength : ByteArray := prog_3_method_42_code
def yX1_writtenLength : MethodName := ⟨RX1, "writtenLength", "(I)I"⟩
abbrev cX1_writtenCode : ByteArray := prog_3_method_43_code
def yX1_writtenCode : MethodName := ⟨RX1, "writtenCode", "(II)I"⟩
abbrev cX1_letterOf : ByteArray := prog_3_method_44_code
def yX1_letterOf : MethodName := ⟨RX1, "letterOf", "(I)I"⟩
def RX2 : String := "OddChoir$HeightTree"
def TX2 : u_T := fun k => match k with
  | 0 => ("OddChoir$HeightTree", "nodes", "[LOddChoir$Node;", true)
  | 1 => ("OddChoir$HeightTree", "top", "LOddChoir$Node;", false)
  | _ => ("OddChoir$HeightTree", "used", "I", false)
def tyX2 : Nat → FieldType := fun k => match k with
  | 0 => .array (.object "OddChoir$Node")
  | 1 => .object "OddChoir$Node"
  | _ => .int
abbrev wsX20 : List Cond := u_ws RX2 TX2 3
theorem nmX2 : ∀ a, a < 3 → ∀ b, b < 3 → a ≠ b → (TX2 a).2.1 ≠ (TX2 b).2.1 := by decide +kernel
theorem tyX2_ok : ∀ k, k < 3 → parseFieldDescriptor (TX2 k).2.2.1 = some (tyX2 k) := by decide +kernel
abbrev cX2_init : ByteArray := prog_4_method_1_code
def yX2_init : MethodName := ⟨RX2, "<init>", "()V"⟩
abbrev cX2_fell : ByteArray := prog_4_method_2_code
def yX2_fell : MethodName := ⟨RX2, "fell", "()V"⟩
abbrev cX2_put : ByteArray := prog_4_method_3_code
def yX2_put : MethodName := ⟨RX2, "put", "(I)V"⟩
abbrev cX2_freshNode : ByteArray := prog_4_method_4_code
def yX2_freshNode : MethodName := ⟨RX2, "freshNode", "(I)LOddChoir$Node;"⟩
abbrev cX2_higherThan : ByteArray := prog_4_method_5_code
def yX2_higherThan : MethodName := ⟨RX2, "higherThan", "(I)I"⟩
abbrev cX2_allBelow : ByteArray := prog_4_method_6_code
def yX2_allBelow : MethodName := ⟨RX2, "allBelow", "(LOddChoir$Node;I)I"⟩
def RX3 : String := "OddChoir$History"
def TX3 : u_T := fun k => match k with
  | 0 => ("OddChoir$History", "saved", "[LOddChoir$Choir;", true)
  | 1 => ("OddChoir$History", "oldest", "I", false)
  | _ => ("OddChoir$History", "held", "I", false)
def tyX3 : Nat → FieldType := fun k => match k with
  | 0 => .array (.object "OddChoir$Choir")
  | 1 => .int
  | _ => .int
abbrev wsX30 : List Cond := u_ws RX3 TX3 3
theorem nmX3 : ∀ a, a < 3 → ∀ b, b < 3 → a ≠ b → (TX3 a).2.1 ≠ (TX3 b).2.1 := by decide +kernel
theorem tyX3_ok : ∀ k, k < 3 → parseFieldDescriptor (TX3 k).2.2.1 = some (tyX3 k) := by decide +kernel
abbrev cX3_init : ByteArray := prog_5_method_1_code
def yX3_init : MethodName := ⟨RX3, "<init>", "()V"⟩
abbrev cX3_size : ByteArray := prog_5_method_2_code
def yX3_size : MethodName := ⟨RX3, "size", "()I"⟩
abbrev cX3_save : ByteArray := prog_5_method_3_code
def yX3_save : MethodName := ⟨RX3, "save", "(LOddChoir$Choir;)V"⟩
abbrev cX3_slotAt : ByteArray := prog_5_method_5_code
def yX3_slotAt : MethodName := ⟨RX3, "slotAt", "(I)LOddChoir$Choir;"⟩
def RX4 : String := "OddChoir$Node"
def TX4 : u_T := fun k => match k with
  | 0 => ("OddChoir$Node", "height", "I", false)
  | 1 => ("OddChoir$Node", "comers", "I", false)
  | 2 => ("OddChoir$Node", "lesser", "LOddChoir$Node;", false)
  | _ => ("OddChoir$Node", "greater", "LOddChoir$Node;", false)
def tyX4 : Nat → FieldType := fun k => match k with
  | 0 => .int
  | 1 => .int
  | 2 => .object "OddChoir$Node"
  | _ => .object "OddChoir$Node"
abbrev wsX40 : List Cond := u_ws RX4 TX4 4
theorem nmX4 : ∀ a, a < 4 → ∀ b, b < 4 → a ≠ b → (TX4 a).2.1 ≠ (TX4 b).2.1 := by decide +kernel
theorem tyX4_ok : ∀ k, k < 4 → parseFieldDescriptor (TX4 k).2.2.1 = some (tyX4 k) := by decide +kernel
abbrev cX4_init : ByteArray := prog_6_method_1_code
def yX4_init : MethodName := ⟨RX4, "<init>", "()V"⟩
def RX5 : String := "OddChoir$OrderSearch"
def TX5 : u_T := fun k => match k with
  | 0 => ("OddChoir$OrderSearch", "higherOnes", "[I", true)
  | 1 => ("OddChoir$OrderSearch", "oddBehind", "[I", true)
  | 2 => ("OddChoir$OrderSearch", "chosen", "[I", true)
  | 3 => ("OddChoir$OrderSearch", "size", "I", false)
  | 4 => ("OddChoir$OrderSearch", "reach", "I", false)
  | 5 => ("OddChoir$OrderSearch", "most", "I", false)
  | _ => ("OddChoir$OrderSearch", "way", "I", false)
def tyX5 : Nat → FieldType := fun k => match k with
  | 0 => .array .int
  | 1 => .array .int
  | 2 => .array .int
  | 3 => .int
  | 4 => .int
  | 5 => .int
  | _ => .int
abbrev wsX50 : List Cond := u_ws RX5 TX5 7
theorem nmX5 : ∀ a, a < 7 → ∀ b, b < 7 → a ≠ b → (TX5 a).2.1 ≠ (TX5 b).2.1 := by decide +kernel
theorem tyX5_ok : ∀ k, k < 7 → parseFieldDescriptor (TX5 k).2.2.1 = some (tyX5 k) := by decide +kernel
abbrev cX5_init : ByteArray := prog_7_method_1_code
def yX5_init : MethodName := ⟨RX5, "<init>", "()V"⟩
abbrev cX5_goThrough : ByteArray := prog_7_method_2_code
def yX5_goThrough : MethodName := ⟨RX5, "goThrough", "(LOddChoir$Choir;I)V"⟩
abbrev cX5_noteSinger : ByteArray := prog_7_method_3_code
def yX5_noteSinger : MethodName := ⟨RX5, "noteSinger", "(LOddChoir$Choir;II)V"⟩
abbrev cX5_choose : ByteArray := prog_7_method_4_code
def yX5_choose : MethodName := ⟨RX5, "choose", "(IIII)V"⟩
abbrev cX5_cannotBeBetter : ByteArray := prog_7_method_5_code
def yX5_cannotBeBetter : MethodName := ⟨RX5, "cannotBeBetter", "(II)Z"⟩
abbrev cX5_heardAt : ByteArray := prog_7_method_6_code
def yX5_heardAt : MethodName := ⟨RX5, "heardAt", "(II)I"⟩
abbrev cX5_parityOf : ByteArray := prog_7_method_7_code
def yX5_parityOf : MethodName := ⟨RX5, "parityOf", "(III)I"⟩
def RX6 : String := "OddChoir"
def TX6 : u_T := fun k => match k with
  | 0 => ("OddChoir", "now", "LOddChoir$Choir;", true)
  | 1 => ("OddChoir", "trial", "LOddChoir$Choir;", true)
  | 2 => ("OddChoir", "snapshot", "LOddChoir$Choir;", true)
  | 3 => ("OddChoir", "hasSnapshot", "Z", false)
  | 4 => ("OddChoir", "history", "LOddChoir$History;", true)
  | 5 => ("OddChoir", "text", "LOddChoir$ChantText;", true)
  | 6 => ("OddChoir", "tree", "LOddChoir$HeightTree;", true)
  | _ => ("OddChoir", "orders", "LOddChoir$OrderSearch;", true)
def tyX6 : Nat → FieldType := fun k => match k with
  | 0 => .object "OddChoir$Choir"
  | 1 => .object "OddChoir$Choir"
  | 2 => .object "OddChoir$Choir"
  | 3 => .boolean
  | 4 => .object "OddChoir$History"
  | 5 => .object "OddChoir$ChantText"
  | 6 => .object "OddChoir$HeightTree"
  | _ => .object "OddChoir$OrderSearch"
abbrev wsX60 : List Cond := u_ws RX6 TX6 8
theorem nmX6 : ∀ a, a < 8 → ∀ b, b < 8 → a ≠ b → (TX6 a).2.1 ≠ (TX6 b).2.1 := by decide +kernel
theorem tyX6_ok : ∀ k, k < 8 → parseFieldDescriptor (TX6 k).2.2.1 = some (tyX6 k) := by decide +kernel
abbrev cX6_init : ByteArray := prog_1_method_1_code
def yX6_init : MethodName := ⟨RX6, "<init>", "()V"⟩
abbrev cX6_join : ByteArray := prog_1_method_2_code
def yX6_join : MethodName := ⟨RX6, "join", "(III)I"⟩
abbrev cX6_leave : ByteArray := prog_1_method_3_code
def yX6_leave : MethodName := ⟨RX6, "leave", "(II)I"⟩
abbrev cX6_grow : ByteArray := prog_1_method_4_code
def yX6_grow : MethodName := ⟨RX6, "grow", "(III)I"⟩
abbrev cX6_swap : ByteArray := prog_1_method_5_code
def yX6_swap : MethodName := ⟨RX6, "swap", "(IIII)I"⟩
abbrev cX6_cross : ByteArray := prog_1_method_6_code
def yX6_cross : MethodName := ⟨RX6, "cross", "(III)I"⟩
abbrev cX6_turn : ByteArray := prog_1_method_7_code
def yX6_turn : MethodName := ⟨RX6, "turn", "(I)I"⟩
abbrev cX6_sort : ByteArray := prog_1_method_8_code
def yX6_sort : MethodName := ⟨RX6, "sort", "(II)I"⟩
abbrev cX6_set : ByteArray := prog_1_method_9_code
def yX6_set : MethodName := ⟨RX6, "set", "(II)I"⟩
abbrev cX6_written : ByteArray := prog_1_method_14_code
def yX6_written : MethodName := ⟨RX6, "written", "(II)I"⟩
abbrev cX6_singer : ByteArray := prog_1_method_18_code
def yX6_singer : MethodName := ⟨RX6, "singer", "(III)I"⟩
abbrev cX6_row : ByteArray := prog_1_method_19_code
def yX6_row : MethodName := ⟨RX6, "row", "(II)I"⟩
abbrev cX6_find : ByteArray := prog_1_method_20_code
def yX6_find : MethodName := ⟨RX6, "find", "(I)I"⟩
abbrev cX6_count : ByteArray := prog_1_method_21_code
def yX6_count : MethodName := ⟨RX6, "count", "(I)I"⟩
abbrev cX6_ifSwapped : ByteArray := prog_1_method_22_code
def yX6_ifSwapped : MethodName := ⟨RX6, "ifSwapped", "(IIII)I"⟩
abbrev cX6_bestSwap : ByteArray := prog_1_method_23_code
def yX6_bestSwap : MethodName := ⟨RX6, "bestSwap", "(I)I"⟩
abbrev cX6_bestRow : ByteArray := prog_1_method_24_code
def yX6_bestRow : MethodName := ⟨RX6, "bestRow", "(I)I"⟩
abbrev cX6_ifReach : ByteArray := prog_1_method_25_code
def yX6_ifReach : MethodName := ⟨RX6, "ifReach", "(I)I"⟩
abbrev cX6_oddShare : ByteArray := prog_1_method_26_code
def yX6_oddShare : MethodName := ⟨RX6, "oddShare", "()D"⟩
abbrev cX6_needIndex : ByteArray := prog_1_method_28_code
def yX6_needIndex : MethodName := ⟨RX6, "needIndex", "(Z)V"⟩
abbrev cX6_needArgument : ByteArray := prog_1_method_29_code
def yX6_needArgument : MethodName := ⟨RX6, "needArgument", "(Z)V"⟩
abbrev cX6_needState : ByteArray := prog_1_method_30_code
def yX6_needState : MethodName := ⟨RX6, "needState", "(Z)V"⟩
abbrev cX6_needRow : ByteArray := prog_1_method_31_code
def yX6_needRow : MethodName := ⟨RX6, "needRow", "(I)V"⟩
abbrev cX6_needSinger : ByteArray := prog_1_method_32_code
def yX6_needSinger : MethodName := ⟨RX6, "needSinger", "(II)V"⟩
abbrev cX6_needHeight : ByteArray := prog_1_method_33_code
def yX6_needHeight : MethodName := ⟨RX6, "needHeight", "(I)V"⟩
abbrev cX6_isBetween : ByteArray := prog_1_method_34_code
def yX6_isBetween : MethodName := ⟨RX6, "isBetween", "(III)Z"⟩
abbrev cX6_readCell : ByteArray := prog_1_method_35_code
def yX6_readCell : MethodName := ⟨RX6, "readCell", "([II)I"⟩
abbrev cX6_writeCell : ByteArray := prog_1_method_36_code
def yX6_writeCell : MethodName := ⟨RX6, "writeCell", "([III)V"⟩
abbrev cX6_ofSinger : ByteArray := prog_1_method_40_code
def yX6_ofSinger : MethodName := ⟨RX6, "ofSinger", "(III)I"⟩
abbrev cX6_ofRow : ByteArray := prog_1_method_41_code
def yX6_ofRow : MethodName := ⟨RX6, "ofRow", "(II)I"⟩
abbrev cX6_ofAll : ByteArray := prog_1_method_42_code
def yX6_ofAll : MethodName := ⟨RX6, "ofAll", "(I)I"⟩
abbrev cX6_bestPair : ByteArray := prog_1_method_43_code
def yX6_bestPair : MethodName := ⟨RX6, "bestPair", "(I)I"⟩
abbrev cX6_bestRowFor : ByteArray := prog_1_method_44_code
def yX6_bestRowFor : MethodName := ⟨RX6, "bestRowFor", "(I)I"⟩
abbrev cX6_oddWithReach : ByteArray := prog_1_method_45_code
def yX6_oddWithReach : MethodName := ⟨RX6, "oddWithReach", "(I)I"⟩
def RX7 : String := "OddChoirModel"
def TX7 : u_T := fun k => match k with
  | _ => ("", "", "", false)
def tyX7 : Nat → FieldType := fun k => match k with
  | _ => .int
abbrev wsX70 : List Cond := u_ws RX7 TX7 0
theorem nmX7 : ∀ a, a < 0 → ∀ b, b < 0 → a ≠ b → (TX7 a).2.1 ≠ (TX7 b).2.1 := by decide +kernel
theorem tyX7_ok : ∀ k, k < 0 → parseFieldDescriptor (TX7 k).2.2.1 = some (tyX7 k) := by decide +kernel
def RJ6 : String := "java/lang/Integer"
abbrev cJ6_bitCount_0f7a4 : ByteArray := prog_14_method_49_code
def yJ6_bitCount_0f7a4 : MethodName := ⟨RJ6, "bitCount", "(I)I"⟩
def RJ9 : String := "java/lang/Math"
abbrev cJ9_floorMod_7cf53 : ByteArray := prog_15_method_50_code
def yJ9_floorMod_7cf53 : MethodName := ⟨RJ9, "floorMod", "(II)I"⟩
abbrev cJ9_max_7cf53 : ByteArray := prog_15_method_65_code
def yJ9_max_7cf53 : MethodName := ⟨RJ9, "max", "(II)I"⟩
abbrev cJ9_min_7cf53 : ByteArray := prog_15_method_69_code
def yJ9_min_7cf53 : MethodName := ⟨RJ9, "min", "(II)I"⟩
def RJ0 : String := "java/lang/String"
abbrev cJ0_length_8abf5 : ByteArray := prog_17_method_54_code
def yJ0_length_8abf5 : MethodName := ⟨RJ0, "length", "()I"⟩
abbrev cJ0_charAt_5068e : ByteArray := prog_17_method_56_code
def yJ0_charAt_5068e : MethodName := ⟨RJ0, "charAt", "(I)C"⟩
abbrev cJ0_coder_7d493 : ByteArray := prog_17_method_152_code
def yJ0_coder_7d493 : MethodName := ⟨RJ0, "coder", "()B"⟩
abbrev cJ0_isLatin1_aae02 : ByteArray := prog_17_method_154_code
def yJ0_isLatin1_aae02 : MethodName := ⟨RJ0, "isLatin1", "()Z"⟩
abbrev cJ0_checkIndex_df160 : ByteArray := prog_17_method_155_code
def yJ0_checkIndex_df160 : MethodName := ⟨RJ0, "checkIndex", "(II)V"⟩
def RJ1 : String := "java/lang/StringLatin1"
abbrev cJ1_charAt_3b067 : ByteArray := prog_18_method_2_code
def yJ1_charAt_3b067 : MethodName := ⟨RJ1, "charAt", "([BI)C"⟩
def RJ2 : String := "java/lang/StringUTF16"
abbrev cJ2_getChar_3b067 : ByteArray := prog_19_method_5_code
def yJ2_getChar_3b067 : MethodName := ⟨RJ2, "getChar", "([BI)C"⟩
abbrev cJ2_length_9d52b : ByteArray := prog_19_method_6_code
def yJ2_length_9d52b : MethodName := ⟨RJ2, "length", "([B)I"⟩
abbrev cJ2_charAt_3b067 : ByteArray := prog_19_method_83_code
def yJ2_charAt_3b067 : MethodName := ⟨RJ2, "charAt", "([BI)C"⟩
abbrev cJ2_checkIndex_2214a : ByteArray := prog_19_method_91_code
def yJ2_checkIndex_2214a : MethodName := ⟨RJ2, "checkIndex", "(I[B)V"⟩
def RJ10 : String := "java/lang/System"
def RJ3 : String := "jdk/internal/util/Preconditions"
abbrev cJ3_checkIndex_8e157 : ByteArray := prog_22_method_11_code
def yJ3_checkIndex_8e157 : MethodName := ⟨RJ3, "checkIndex", "(IILjava/util/function/BiFunction;)I"⟩
def RL : String := "OddChoirLaw"
abbrev cL_cell : ByteArray := method_2_code
def yL_cell : MethodName := ⟨RL, "cell", "([II)I"⟩
abbrev cL_low : ByteArray := method_3_code
def yL_low : MethodName := ⟨RL, "low", "(II)I"⟩
abbrev cL_many : ByteArray := method_4_code
def yL_many : MethodName := ⟨RL, "many", "([II)I"⟩
abbrev cL_hears : ByteArray := method_5_code
def yL_hears : MethodName := ⟨RL, "hears", "([I[III)I"⟩
abbrev cL_odd : ByteArray := method_6_code
def yL_odd : MethodName := ⟨RL, "odd", "([I[II)I"⟩
abbrev cL_allOdd : ByteArray := method_7_code
def yL_allOdd : MethodName := ⟨RL, "allOdd", "([I[I)I"⟩
abbrev cL_discord : ByteArray := method_8_code
def yL_discord : MethodName := ⟨RL, "discord", "([II)I"⟩
abbrev cL_most : ByteArray := method_9_code
def yL_most : MethodName := ⟨RL, "most", "([I[II)I"⟩
abbrev cL_letter : ByteArray := method_10_code
def yL_letter : MethodName := ⟨RL, "letter", "(I)I"⟩
abbrev cL_isSinger : ByteArray := method_11_code
def yL_isSinger : MethodName := ⟨RL, "isSinger", "(LOddChoir;[I[I[I[III)Z"⟩
abbrev cL_isSo : ByteArray := method_12_code
def yL_isSo : MethodName := ⟨RL, "isSo", "(LOddChoir;[I[I[I[I)Z"⟩
abbrev cL_exchange : ByteArray := method_13_code
def yL_exchange : MethodName := ⟨RL, "exchange", "([III)V"⟩
abbrev cL_some : ByteArray := method_14_code
def yL_some : MethodName := ⟨RL, "some", "([II)I"⟩
abbrev cL_would : ByteArray := method_15_code
def yL_would : MethodName := ⟨RL, "would", "(LOddChoir;[I[II)Z"⟩
abbrev cL_joins : ByteArray := method_16_code
def yL_joins : MethodName := ⟨RL, "joins", "(LOddChoir;[I[I[I[II)Z"⟩
abbrev cL_closes : ByteArray := method_17_code
def yL_closes : MethodName := ⟨RL, "closes", "([III)V"⟩
abbrev cL_closesAll : ByteArray := method_18_code
def yL_closesAll : MethodName := ⟨RL, "closesAll", "([I[I[II)V"⟩
abbrev cL_leaves : ByteArray := method_19_code
def yL_leaves : MethodName := ⟨RL, "leaves", "(LOddChoir;[I[I[I[II)Z"⟩
abbrev cL_crosses : ByteArray := method_20_code
def yL_crosses : MethodName := ⟨RL, "crosses", "(LOddChoir;[I[I[II)Z"⟩
abbrev cL_exchangeAll : ByteArray := method_21_code
def yL_exchangeAll : MethodName := ⟨RL, "exchangeAll", "([I[I[III)V"⟩
abbrev cL_swaps : ByteArray := method_22_code
def yL_swaps : MethodName := ⟨RL, "swaps", "(LOddChoir;[I[I[I[II)Z"⟩
abbrev cL_turns : ByteArray := method_23_code
def yL_turns : MethodName := ⟨RL, "turns", "(LOddChoir;[I[I[I[II)Z"⟩
abbrev cL_sorts : ByteArray := method_24_code
def yL_sorts : MethodName := ⟨RL, "sorts", "(LOddChoir;[I[I[III)Z"⟩
abbrev cL_acts : ByteArray := method_25_code
def yL_acts : MethodName := ⟨RL, "acts", "(LOddChoir;[I[I[I[III)Z"⟩
abbrev cL_law : ByteArray := code
def yL_law : MethodName := ⟨RL, "law", "([I)Z"⟩
theorem dX0_init_0 : decode cX0_init 0 = .ok (.aload_n 0, 1) := by decide +kernel
theorem dX0_init_1 : decode cX0_init 1 = .ok (.invokespecial 3, 3) := by decide +kernel
theorem dX0_init_4 : decode cX0_init 4 = .ok (.aload_n 0, 1) := by decide +kernel
theorem dX0_init_5 : decode cX0_init 5 = .ok (.bipush 60, 2) := by decide +kernel
theorem dX0_init_7 : decode cX0_init 7 = .ok (.newarray .char, 2) := by decide +kernel
theorem dX0_init_9 : decode cX0_init 9 = .ok (.putfield 9, 3) := by decide +kernel
theorem dX0_init_12 : decode cX0_init 12 = .ok (.return_, 1) := by decide +kernel
theorem dX1_init_0 : decode cX1_init 0 = .ok (.aload_n 0, 1) := by decide +kernel
theorem dX1_init_1 : decode cX1_init 1 = .ok (.invokespecial 3, 3) := by decide +kernel
theorem dX1_init_4 : decode cX1_init 4 = .ok (.aload_n 0, 1) := by decide +kernel
theorem dX1_init_5 : decode cX1_init 5 = .ok (.iconst 4, 1) := by decide +kernel
theorem dX1_init_6 : decode cX1_init 6 = .ok (.newarray .int, 2) := by decide +kernel
theorem dX1_init_8 : decode cX1_init 8 = .ok (.putfield 9, 3) := by decide +kernel
theorem dX1_init_11 : decode cX1_init 11 = .ok (.aload_n 0, 1) := by decide +kernel
theorem dX1_init_12 : decode cX1_init 12 = .ok (.bipush 24, 2) := by decide +kernel
theorem dX1_init_14 : decode cX1_init 14 = .ok (.newarray .int, 2) := by decide +kernel
theorem dX1_init_16 : decode cX1_init 16 = .ok (.putfield 15, 3) := by decide +kernel
theorem dX1_init_19 : decode cX1_init 19 = .ok (.aload_n 0, 1) := by decide +kernel
theorem dX1_init_20 : decode cX1_init 20 = .ok (.bipush 24, 2) := by decide +kernel
theorem dX1_init_22 : decode cX1_init 22 = .ok (.newarray .int, 2) := by decide +kernel
theorem dX1_init_24 : decode cX1_init 24 = .ok (.putfield 18, 3) := by decide +kernel
theorem dX1_init_27 : decode cX1_init 27 = .ok (.aload_n 0, 1) := by decide +kernel
theorem dX1_init_28 : decode cX1_init 28 = .ok (.bipush 24, 2) := by decide +kernel
theorem dX1_init_30 : decode cX1_init 30 = .ok (.newarray .int, 2) := by decide +kernel
theorem dX1_init_32 : decode cX1_init 32 = .ok (.putfield 21, 3) := by decide +kernel
theorem dX1_init_35 : decode cX1_init 35 = .ok (.aload_n 0, 1) := by decide +kernel
theorem dX1_init_36 : decode cX1_init 36 = .ok (.bipush 6, 2) := by decide +kernel
theorem dX1_init_38 : decode cX1_init 38 = .ok (.putfield 24, 3) := by decide +kernel
theorem dX1_init_41 : decode cX1_init 41 = .ok (.aload_n 0, 1) := by decide +kernel
theorem dX1_init_42 : decode cX1_init 42 = .ok (.iconst 1, 1) := by decide +kernel
theorem dX1_init_43 : decode cX1_init 43 = .ok (.putfield 28, 3) := by decide +kernel
theorem dX1_init_46 : decode cX1_init 46 = .ok (.return_, 1) := by decide +kernel
theorem dX1_become_0 : decode cX1_become 0 = .ok (.aload_n 1, 1) := by decide +kernel
theorem dX1_become_1 : decode cX1_become 1 = .ok (.ifnonnull 4, 3) := by decide +kernel
theorem dX1_become_4 : decode cX1_become 4 = .ok (.return_, 1) := by decide +kernel
theorem dX1_become_5 : decode cX1_become 5 = .ok (.aload_n 1, 1) := by decide +kernel
theorem dX1_become_6 : decode cX1_become 6 = .ok (.getfield 9, 3) := by decide +kernel
theorem dX1_become_9 : decode cX1_become 9 = .ok (.aload_n 0, 1) := by decide +kernel
theorem dX1_become_10 : decode cX1_become 10 = .ok (.getfield 9, 3) := by decide +kernel
theorem dX1_become_13 : decode cX1_become 13 = .ok (.invokestatic 31, 3) := by decide +kernel
theorem dX1_become_16 : decode cX1_become 16 = .ok (.aload_n 1, 1) := by decide +kernel
theorem dX1_become_17 : decode cX1_become 17 = .ok (.getfield 15, 3) := by decide +kernel
theorem dX1_become_20 : decode cX1_become 20 = .ok (.aload_n 0, 1) := by decide +kernel
theorem dX1_become_21 : decode cX1_become 21 = .ok (.getfield 15, 3) := by decide +kernel
theorem dX1_become_24 : decode cX1_become 24 = .ok (.invokestatic 31, 3) := by decide +kernel
theorem dX1_become_27 : decode cX1_become 27 = .ok (.aload_n 1, 1) := by decide +kernel
theorem dX1_become_28 : decode cX1_become 28 = .ok (.getfield 18, 3) := by decide +kernel
theorem dX1_become_31 : decode cX1_become 31 = .ok (.aload_n 0, 1) := by decide +kernel
theorem dX1_become_32 : decode cX1_become 32 = .ok (.getfield 18, 3) := by decide +kernel
theorem dX1_become_35 : decode cX1_become 35 = .ok (.invokestatic 31, 3) := by decide +kernel
theorem dX1_become_38 : decode cX1_become 38 = .ok (.aload_n 1, 1) := by decide +kernel
theorem dX1_become_39 : decode cX1_become 39 = .ok (.getfield 21, 3) := by decide +kernel
theorem dX1_become_42 : decode cX1_become 42 = .ok (.aload_n 0, 1) := by decide +kernel
theorem dX1_become_43 : decode cX1_become 43 = .ok (.getfield 21, 3) := by decide +kernel
theorem dX1_become_46 : decode cX1_become 46 = .ok (.invokestatic 31, 3) := by decide +kernel
theorem dX1_become_49 : decode cX1_become 49 = .ok (.aload_n 0, 1) := by decide +kernel
theorem dX1_become_50 : decode cX1_become 50 = .ok (.aload_n 1, 1) := by decide +kernel
theorem dX1_become_51 : decode cX1_become 51 = .ok (.getfield 24, 3) := by decide +kernel
theorem dX1_become_54 : decode cX1_become 54 = .ok (.putfield 24, 3) := by decide +kernel
theorem dX1_become_57 : decode cX1_become 57 = .ok (.aload_n 0, 1) := by decide +kernel
theorem dX1_become_58 : decode cX1_become 58 = .ok (.aload_n 1, 1) := by decide +kernel
theorem dX1_become_59 : decode cX1_become 59 = .ok (.getfield 28, 3) := by decide +kernel
theorem dX1_become_62 : decode cX1_become 62 = .ok (.putfield 28, 3) := by decide +kernel
theorem dX1_become_65 : decode cX1_become 65 = .ok (.aload_n 0, 1) := by decide +kernel
theorem dX1_become_66 : decode cX1_become 66 = .ok (.aload_n 1, 1) := by decide +kernel
theorem dX1_become_67 : decode cX1_become 67 = .ok (.getfield 35, 3) := by decide +kernel
theorem dX1_become_70 : decode cX1_become 70 = .ok (.putfield 35, 3) := by decide +kernel
theorem dX1_become_73 : decode cX1_become 73 = .ok (.aload_n 0, 1) := by decide +kernel
theorem dX1_become_74 : decode cX1_become 74 = .ok (.aload_n 1, 1) := by decide +kernel
theorem dX1_become_75 : decode cX1_become 75 = .ok (.getfield 38, 3) := by decide +kernel
theorem dX1_become_78 : decode cX1_become 78 = .ok (.putfield 38, 3) := by decide +kernel
theorem dX1_become_81 : decode cX1_become 81 = .ok (.aload_n 0, 1) := by decide +kernel
theorem dX1_become_82 : decode cX1_become 82 = .ok (.aload_n 1, 1) := by decide +kernel
theorem dX1_become_83 : decode cX1_become 83 = .ok (.getfield 41, 3) := by decide +kernel
theorem dX1_become_86 : decode cX1_become 86 = .ok (.putfield 41, 3) := by decide +kernel
theorem dX1_become_89 : decode cX1_become 89 = .ok (.return_, 1) := by decide +kernel
theorem dX1_copyCells_0 : decode cX1_copyCells 0 = .ok (.aload_n 0, 1) := by decide +kernel
theorem dX1_copyCells_1 : decode cX1_copyCells 1 = .ok (.iconst 0, 1) := by decide +kernel
theorem dX1_copyCells_2 : decode cX1_copyCells 2 = .ok (.aload_n 1, 1) := by decide +kernel
theorem dX1_copyCells_3 : decode cX1_copyCells 3 = .ok (.iconst 0, 1) := by decide +kernel
theorem dX1_copyCells_4 : decode cX1_copyCells 4 = .ok (.aload_n 0, 1) := by decide +kernel
theorem dX1_copyCells_5 : decode cX1_copyCells 5 = .ok (.arraylength, 1) := by decide +kernel
theorem dX1_copyCells_6 : decode cX1_copyCells 6 = .ok (.aload_n 1, 1) := by decide +kernel
theorem dX1_copyCells_7 : decode cX1_copyCells 7 = .ok (.arraylength, 1) := by decide +kernel
theorem dX1_copyCells_8 : decode cX1_copyCells 8 = .ok (.invokestatic 44, 3) := by decide +kernel
theorem dX1_copyCells_11 : decode cX1_copyCells 11 = .ok (.invokestatic 50, 3) := by decide +kernel
theorem dX1_copyCells_14 : decode cX1_copyCells 14 = .ok (.return_, 1) := by decide +kernel
theorem dX1_settingAt_0 : decode cX1_settingAt 0 = .ok (.iload_n 1, 1) := by decide +kernel
theorem dX1_settingAt_1 : decode cX1_settingAt 1 = .ok (.ifCond .ne 10, 3) := by decide +kernel
theorem dX1_settingAt_4 : decode cX1_settingAt 4 = .ok (.aload_n 0, 1) := by decide +kernel
theorem dX1_settingAt_5 : decode cX1_settingAt 5 = .ok (.getfield 24, 3) := by decide +kernel
theorem dX1_settingAt_8 : decode cX1_settingAt 8 = .ok (.goto 7, 3) := by decide +kernel
theorem dX1_settingAt_11 : decode cX1_settingAt 11 = .ok (.aload_n 0, 1) := by decide +kernel
theorem dX1_settingAt_12 : decode cX1_settingAt 12 = .ok (.getfield 28, 3) := by decide +kernel
theorem dX1_settingAt_15 : decode cX1_settingAt 15 = .ok (.ireturn, 1) := by decide +kernel
theorem dX1_changeSetting_0 : decode cX1_changeSetting 0 = .ok (.iload_n 1, 1) := by decide +kernel
theorem dX1_changeSetting_1 : decode cX1_changeSetting 1 = .ok (.ifCond .ne 11, 3) := by decide +kernel
theorem dX1_changeSetting_4 : decode cX1_changeSetting 4 = .ok (.aload_n 0, 1) := by decide +kernel
theorem dX1_changeSetting_5 : decode cX1_changeSetting 5 = .ok (.iload_n 2, 1) := by decide +kernel
theorem dX1_changeSetting_6 : decode cX1_changeSetting 6 = .ok (.putfield 24, 3) := by decide +kernel
theorem dX1_changeSetting_9 : decode cX1_changeSetting 9 = .ok (.goto 8, 3) := by decide +kernel
theorem dX1_changeSetting_12 : decode cX1_changeSetting 12 = .ok (.aload_n 0, 1) := by decide +kernel
theorem dX1_changeSetting_13 : decode cX1_changeSetting 13 = .ok (.iload_n 2, 1) := by decide +kernel
theorem dX1_changeSetting_14 : decode cX1_changeSetting 14 = .ok (.putfield 28, 3) := by decide +kernel
theorem dX1_changeSetting_17 : decode cX1_changeSetting 17 = .ok (.return_, 1) := by decide +kernel
theorem dX1_sizeOf_0 : decode cX1_sizeOf 0 = .ok (.iload_n 1, 1) := by decide +kernel
theorem dX1_sizeOf_1 : decode cX1_sizeOf 1 = .ok (.ifCond .lt 21, 3) := by decide +kernel
theorem dX1_sizeOf_4 : decode cX1_sizeOf 4 = .ok (.iload_n 1, 1) := by decide +kernel
theorem dX1_sizeOf_5 : decode cX1_sizeOf 5 = .ok (.aload_n 0, 1) := by decide +kernel
theorem dX1_sizeOf_6 : decode cX1_sizeOf 6 = .ok (.getfield 9, 3) := by decide +kernel
theorem dX1_sizeOf_9 : decode cX1_sizeOf 9 = .ok (.arraylength, 1) := by decide +kernel
theorem dX1_sizeOf_10 : decode cX1_sizeOf 10 = .ok (.if_icmp .ge 12, 3) := by decide +kernel
theorem dX1_sizeOf_13 : decode cX1_sizeOf 13 = .ok (.aload_n 0, 1) := by decide +kernel
theorem dX1_sizeOf_14 : decode cX1_sizeOf 14 = .ok (.getfield 9, 3) := by decide +kernel
theorem dX1_sizeOf_17 : decode cX1_sizeOf 17 = .ok (.iload_n 1, 1) := by decide +kernel
theorem dX1_sizeOf_18 : decode cX1_sizeOf 18 = .ok (.iaload, 1) := by decide +kernel
theorem dX1_sizeOf_19 : decode cX1_sizeOf 19 = .ok (.goto 4, 3) := by decide +kernel
theorem dX1_sizeOf_22 : decode cX1_sizeOf 22 = .ok (.iconst 0, 1) := by decide +kernel
theorem dX1_sizeOf_23 : decode cX1_sizeOf 23 = .ok (.ireturn, 1) := by decide +kernel
theorem dX1_sizeOfAll_0 : decode cX1_sizeOfAll 0 = .ok (.iconst 0, 1) := by decide +kernel
theorem dX1_sizeOfAll_1 : decode cX1_sizeOfAll 1 = .ok (.istore_n 1, 1) := by decide +kernel
theorem dX1_sizeOfAll_2 : decode cX1_sizeOfAll 2 = .ok (.iconst 0, 1) := by decide +kernel
theorem dX1_sizeOfAll_3 : decode cX1_sizeOfAll 3 = .ok (.istore_n 2, 1) := by decide +kernel
theorem dX1_sizeOfAll_4 : decode cX1_sizeOfAll 4 = .ok (.iload_n 2, 1) := by decide +kernel
theorem dX1_sizeOfAll_5 : decode cX1_sizeOfAll 5 = .ok (.iconst 4, 1) := by decide +kernel
theorem dX1_sizeOfAll_6 : decode cX1_sizeOfAll 6 = .ok (.if_icmp .ge 17, 3) := by decide +kernel
theorem dX1_sizeOfAll_9 : decode cX1_sizeOfAll 9 = .ok (.iload_n 1, 1) := by decide +kernel
theorem dX1_sizeOfAll_10 : decode cX1_sizeOfAll 10 = .ok (.aload_n 0, 1) := by decide +kernel
theorem dX1_sizeOfAll_11 : decode cX1_sizeOfAll 11 = .ok (.iload_n 2, 1) := by decide +kernel
theorem dX1_sizeOfAll_12 : decode cX1_sizeOfAll 12 = .ok (.invokevirtual 56, 3) := by decide +kernel
theorem dX1_sizeOfAll_15 : decode cX1_sizeOfAll 15 = .ok (.iadd, 1) := by decide +kernel
theorem dX1_sizeOfAll_16 : decode cX1_sizeOfAll 16 = .ok (.istore_n 1, 1) := by decide +kernel
theorem dX1_sizeOfAll_17 : decode cX1_sizeOfAll 17 = .ok (.iinc 2 1, 3) := by decide +kernel
theorem dX1_sizeOfAll_20 : decode cX1_sizeOfAll 20 = .ok (.goto (-16), 3) := by decide +kernel
theorem dX1_sizeOfAll_23 : decode cX1_sizeOfAll 23 = .ok (.iload_n 1, 1) := by decide +kernel
theorem dX1_sizeOfAll_24 : decode cX1_sizeOfAll 24 = .ok (.ireturn, 1) := by decide +kernel
theorem dX1_changeSize_0 : decode cX1_changeSize 0 = .ok (.aload_n 0, 1) := by decide +kernel
theorem dX1_changeSize_1 : decode cX1_changeSize 1 = .ok (.iload_n 1, 1) := by decide +kernel
theorem dX1_changeSize_2 : decode cX1_changeSize 2 = .ok (.invokevirtual 56, 3) := by decide +kernel
theorem dX1_changeSize_5 : decode cX1_changeSize 5 = .ok (.iload_n 2, 1) := by decide +kernel
theorem dX1_changeSize_6 : decode cX1_changeSize 6 = .ok (.iadd, 1) := by decide +kernel
theorem dX1_changeSize_7 : decode cX1_changeSize 7 = .ok (.istore_n 3, 1) := by decide +kernel
theorem dX1_changeSize_8 : decode cX1_changeSize 8 = .ok (.iload_n 1, 1) := by decide +kernel
theorem dX1_changeSize_9 : decode cX1_changeSize 9 = .ok (.ifCond .lt 29, 3) := by decide +kernel
theorem dX1_changeSize_12 : decode cX1_changeSize 12 = .ok (.iload_n 1, 1) := by decide +kernel
theorem dX1_changeSize_13 : decode cX1_changeSize 13 = .ok (.aload_n 0, 1) := by decide +kernel
theorem dX1_changeSize_14 : decode cX1_changeSize 14 = .ok (.getfield 9, 3) := by decide +kernel
theorem dX1_changeSize_17 : decode cX1_changeSize 17 = .ok (.arraylength, 1) := by decide +kernel
theorem dX1_changeSize_18 : decode cX1_changeSize 18 = .ok (.if_icmp .ge 20, 3) := by decide +kernel
theorem dX1_changeSize_21 : decode cX1_changeSize 21 = .ok (.iload_n 3, 1) := by decide +kernel
theorem dX1_changeSize_22 : decode cX1_changeSize 22 = .ok (.ifCond .lt 16, 3) := by decide +kernel
theorem dX1_changeSize_25 : decode cX1_changeSize 25 = .ok (.iload_n 3, 1) := by decide +kernel
theorem dX1_changeSize_26 : decode cX1_changeSize 26 = .ok (.bipush 6, 2) := by decide +kernel
theorem dX1_changeSize_28 : decode cX1_changeSize 28 = .ok (.if_icmp .gt 10, 3) := by decide +kernel
theorem dX1_changeSize_31 : decode cX1_changeSize 31 = .ok (.aload_n 0, 1) := by decide +kernel
theorem dX1_changeSize_32 : decode cX1_changeSize 32 = .ok (.getfield 9, 3) := by decide +kernel
theorem dX1_changeSize_35 : decode cX1_changeSize 35 = .ok (.iload_n 1, 1) := by decide +kernel
theorem dX1_changeSize_36 : decode cX1_changeSize 36 = .ok (.iload_n 3, 1) := by decide +kernel
theorem dX1_changeSize_37 : decode cX1_changeSize 37 = .ok (.iastore, 1) := by decide +kernel
theorem dX1_changeSize_38 : decode cX1_changeSize 38 = .ok (.return_, 1) := by decide +kernel
theorem dX1_isTaken_0 : decode cX1_isTaken 0 = .ok (.iload_n 2, 1) := by decide +kernel
theorem dX1_isTaken_1 : decode cX1_isTaken 1 = .ok (.ifCond .lt 16, 3) := by decide +kernel
theorem dX1_isTaken_4 : decode cX1_isTaken 4 = .ok (.iload_n 2, 1) := by decide +kernel
theorem dX1_isTaken_5 : decode cX1_isTaken 5 = .ok (.aload_n 0, 1) := by decide +kernel
theorem dX1_isTaken_6 : decode cX1_isTaken 6 = .ok (.iload_n 1, 1) := by decide +kernel
theorem dX1_isTaken_7 : decode cX1_isTaken 7 = .ok (.invokevirtual 56, 3) := by decide +kernel
theorem dX1_isTaken_10 : decode cX1_isTaken 10 = .ok (.if_icmp .ge 7, 3) := by decide +kernel
theorem dX1_isTaken_13 : decode cX1_isTaken 13 = .ok (.iconst 1, 1) := by decide +kernel
theorem dX1_isTaken_14 : decode cX1_isTaken 14 = .ok (.goto 4, 3) := by decide +kernel
theorem dX1_isTaken_17 : decode cX1_isTaken 17 = .ok (.iconst 0, 1) := by decide +kernel
theorem dX1_isTaken_18 : decode cX1_isTaken 18 = .ok (.ireturn, 1) := by decide +kernel
theorem dX1_hasRoomFor_0 : decode cX1_hasRoomFor 0 = .ok (.aload_n 0, 1) := by decide +kernel
theorem dX1_hasRoomFor_1 : decode cX1_hasRoomFor 1 = .ok (.iload_n 1, 1) := by decide +kernel
theorem dX1_hasRoomFor_2 : decode cX1_hasRoomFor 2 = .ok (.invokevirtual 56, 3) := by decide +kernel
theorem dX1_hasRoomFor_5 : decode cX1_hasRoomFor 5 = .ok (.bipush 6, 2) := by decide +kernel
theorem dX1_hasRoomFor_7 : decode cX1_hasRoomFor 7 = .ok (.if_icmp .ge 17, 3) := by decide +kernel
theorem dX1_hasRoomFor_10 : decode cX1_hasRoomFor 10 = .ok (.aload_n 0, 1) := by decide +kernel
theorem dX1_hasRoomFor_11 : decode cX1_hasRoomFor 11 = .ok (.getfield 35, 3) := by decide +kernel
theorem dX1_hasRoomFor_14 : decode cX1_hasRoomFor 14 = .ok (.sipush 999, 3) := by decide +kernel
theorem dX1_hasRoomFor_17 : decode cX1_hasRoomFor 17 = .ok (.if_icmp .ge 7, 3) := by decide +kernel
theorem dX1_hasRoomFor_20 : decode cX1_hasRoomFor 20 = .ok (.iconst 1, 1) := by decide +kernel
theorem dX1_hasRoomFor_21 : decode cX1_hasRoomFor 21 = .ok (.goto 4, 3) := by decide +kernel
theorem dX1_hasRoomFor_24 : decode cX1_hasRoomFor 24 = .ok (.iconst 0, 1) := by decide +kernel
theorem dX1_hasRoomFor_25 : decode cX1_hasRoomFor 25 = .ok (.ireturn, 1) := by decide +kernel
theorem dX1_spotAt_0 : decode cX1_spotAt 0 = .ok (.iload_n 0, 1) := by decide +kernel
theorem dX1_spotAt_1 : decode cX1_spotAt 1 = .ok (.ifCond .lt 27, 3) := by decide +kernel
theorem dX1_spotAt_4 : decode cX1_spotAt 4 = .ok (.iload_n 0, 1) := by decide +kernel
theorem dX1_spotAt_5 : decode cX1_spotAt 5 = .ok (.iconst 4, 1) := by decide +kernel
theorem dX1_spotAt_6 : decode cX1_spotAt 6 = .ok (.if_icmp .ge 22, 3) := by decide +kernel
theorem dX1_spotAt_9 : decode cX1_spotAt 9 = .ok (.iload_n 1, 1) := by decide +kernel
theorem dX1_spotAt_10 : decode cX1_spotAt 10 = .ok (.ifCond .lt 18, 3) := by decide +kernel
theorem dX1_spotAt_13 : decode cX1_spotAt 13 = .ok (.iload_n 1, 1) := by decide +kernel
theorem dX1_spotAt_14 : decode cX1_spotAt 14 = .ok (.bipush 6, 2) := by decide +kernel
theorem dX1_spotAt_16 : decode cX1_spotAt 16 = .ok (.if_icmp .ge 12, 3) := by decide +kernel
theorem dX1_spotAt_19 : decode cX1_spotAt 19 = .ok (.bipush 6, 2) := by decide +kernel
theorem dX1_spotAt_21 : decode cX1_spotAt 21 = .ok (.iload_n 0, 1) := by decide +kernel
theorem dX1_spotAt_22 : decode cX1_spotAt 22 = .ok (.imul, 1) := by decide +kernel
theorem dX1_spotAt_23 : decode cX1_spotAt 23 = .ok (.iload_n 1, 1) := by decide +kernel
theorem dX1_spotAt_24 : decode cX1_spotAt 24 = .ok (.iadd, 1) := by decide +kernel
theorem dX1_spotAt_25 : decode cX1_spotAt 25 = .ok (.goto 4, 3) := by decide +kernel
theorem dX1_spotAt_28 : decode cX1_spotAt 28 = .ok (.iconst (-1), 1) := by decide +kernel
theorem dX1_spotAt_29 : decode cX1_spotAt 29 = .ok (.ireturn, 1) := by decide +kernel
theorem dX1_numberAt_0 : decode cX1_numberAt 0 = .ok (.aload_n 0, 1) := by decide +kernel
theorem dX1_numberAt_1 : decode cX1_numberAt 1 = .ok (.getfield 15, 3) := by decide +kernel
theorem dX1_numberAt_4 : decode cX1_numberAt 4 = .ok (.iload_n 1, 1) := by decide +kernel
theorem dX1_numberAt_5 : decode cX1_numberAt 5 = .ok (.iload_n 2, 1) := by decide +kernel
theorem dX1_numberAt_6 : decode cX1_numberAt 6 = .ok (.invokestatic 60, 3) := by decide +kernel
theorem dX1_numberAt_9 : decode cX1_numberAt 9 = .ok (.invokestatic 63, 3) := by decide +kernel
theorem dX1_numberAt_12 : decode cX1_numberAt 12 = .ok (.ireturn, 1) := by decide +kernel
theorem dX1_heightAt_0 : decode cX1_heightAt 0 = .ok (.aload_n 0, 1) := by decide +kernel
theorem dX1_heightAt_1 : decode cX1_heightAt 1 = .ok (.getfield 18, 3) := by decide +kernel
theorem dX1_heightAt_4 : decode cX1_heightAt 4 = .ok (.iload_n 1, 1) := by decide +kernel
theorem dX1_heightAt_5 : decode cX1_heightAt 5 = .ok (.iload_n 2, 1) := by decide +kernel
theorem dX1_heightAt_6 : decode cX1_heightAt 6 = .ok (.invokestatic 60, 3) := by decide +kernel
theorem dX1_heightAt_9 : decode cX1_heightAt 9 = .ok (.invokestatic 63, 3) := by decide +kernel
theorem dX1_heightAt_12 : decode cX1_heightAt 12 = .ok (.ireturn, 1) := by decide +kernel
theorem dX1_voiceAt_0 : decode cX1_voiceAt 0 = .ok (.aload_n 0, 1) := by decide +kernel
theorem dX1_voiceAt_1 : decode cX1_voiceAt 1 = .ok (.getfield 21, 3) := by decide +kernel
theorem dX1_voiceAt_4 : decode cX1_voiceAt 4 = .ok (.iload_n 1, 1) := by decide +kernel
theorem dX1_voiceAt_5 : decode cX1_voiceAt 5 = .ok (.iload_n 2, 1) := by decide +kernel
theorem dX1_voiceAt_6 : decode cX1_voiceAt 6 = .ok (.invokestatic 60, 3) := by decide +kernel
theorem dX1_voiceAt_9 : decode cX1_voiceAt 9 = .ok (.invokestatic 63, 3) := by decide +kernel
theorem dX1_voiceAt_12 : decode cX1_voiceAt 12 = .ok (.ireturn, 1) := by decide +kernel
theorem dX1_spotOfNumber_0 : decode cX1_spotOfNumber 0 = .ok (.iconst 0, 1) := by decide +kernel
theorem dX1_spotOfNumber_1 : decode cX1_spotOfNumber 1 = .ok (.istore_n 2, 1) := by decide +kernel
theorem dX1_spotOfNumber_2 : decode cX1_spotOfNumber 2 = .ok (.iload_n 2, 1) := by decide +kernel
theorem dX1_spotOfNumber_3 : decode cX1_spotOfNumber 3 = .ok (.iconst 4, 1) := by decide +kernel
theorem dX1_spotOfNumber_4 : decode cX1_spotOfNumber 4 = .ok (.if_icmp .ge 43, 3) := by decide +kernel
theorem dX1_spotOfNumber_7 : decode cX1_spotOfNumber 7 = .ok (.iconst 0, 1) := by decide +kernel
theorem dX1_spotOfNumber_8 : decode cX1_spotOfNumber 8 = .ok (.istore_n 3, 1) := by decide +kernel
theorem dX1_spotOfNumber_9 : decode cX1_spotOfNumber 9 = .ok (.iload_n 3, 1) := by decide +kernel
theorem dX1_spotOfNumber_10 : decode cX1_spotOfNumber 10 = .ok (.aload_n 0, 1) := by decide +kernel
theorem dX1_spotOfNumber_11 : decode cX1_spotOfNumber 11 = .ok (.iload_n 2, 1) := by decide +kernel
theorem dX1_spotOfNumber_12 : decode cX1_spotOfNumber 12 = .ok (.invokevirtual 56, 3) := by decide +kernel
theorem dX1_spotOfNumber_15 : decode cX1_spotOfNumber 15 = .ok (.if_icmp .ge 26, 3) := by decide +kernel
theorem dX1_spotOfNumber_18 : decode cX1_spotOfNumber 18 = .ok (.aload_n 0, 1) := by decide +kernel
theorem dX1_spotOfNumber_19 : decode cX1_spotOfNumber 19 = .ok (.iload_n 2, 1) := by decide +kernel
theorem dX1_spotOfNumber_20 : decode cX1_spotOfNumber 20 = .ok (.iload_n 3, 1) := by decide +kernel
theorem dX1_spotOfNumber_21 : decode cX1_spotOfNumber 21 = .ok (.invokevirtual 67, 3) := by decide +kernel
theorem dX1_spotOfNumber_24 : decode cX1_spotOfNumber 24 = .ok (.iload_n 1, 1) := by decide +kernel
theorem dX1_spotOfNumber_25 : decode cX1_spotOfNumber 25 = .ok (.if_icmp .ne 10, 3) := by decide +kernel
theorem dX1_spotOfNumber_28 : decode cX1_spotOfNumber 28 = .ok (.bipush 6, 2) := by decide +kernel
theorem dX1_spotOfNumber_30 : decode cX1_spotOfNumber 30 = .ok (.iload_n 2, 1) := by decide +kernel
theorem dX1_spotOfNumber_31 : decode cX1_spotOfNumber 31 = .ok (.imul, 1) := by decide +kernel
theorem dX1_spotOfNumber_32 : decode cX1_spotOfNumber 32 = .ok (.iload_n 3, 1) := by decide +kernel
theorem dX1_spotOfNumber_33 : decode cX1_spotOfNumber 33 = .ok (.iadd, 1) := by decide +kernel
theorem dX1_spotOfNumber_34 : decode cX1_spotOfNumber 34 = .ok (.ireturn, 1) := by decide +kernel
theorem dX1_spotOfNumber_35 : decode cX1_spotOfNumber 35 = .ok (.iinc 3 1, 3) := by decide +kernel
theorem dX1_spotOfNumber_38 : decode cX1_spotOfNumber 38 = .ok (.goto (-29), 3) := by decide +kernel
theorem dX1_spotOfNumber_41 : decode cX1_spotOfNumber 41 = .ok (.iinc 2 1, 3) := by decide +kernel
theorem dX1_spotOfNumber_44 : decode cX1_spotOfNumber 44 = .ok (.goto (-42), 3) := by decide +kernel
theorem dX1_spotOfNumber_47 : decode cX1_spotOfNumber 47 = .ok (.iconst (-1), 1) := by decide +kernel
theorem dX1_spotOfNumber_48 : decode cX1_spotOfNumber 48 = .ok (.ireturn, 1) := by decide +kernel
theorem dX1_arrive_0 : decode cX1_arrive 0 = .ok (.aload_n 0, 1) := by decide +kernel
theorem dX1_arrive_1 : decode cX1_arrive 1 = .ok (.getfield 35, 3) := by decide +kernel
theorem dX1_arrive_4 : decode cX1_arrive 4 = .ok (.istore 4, 2) := by decide +kernel
theorem dX1_arrive_6 : decode cX1_arrive 6 = .ok (.aload_n 0, 1) := by decide +kernel
theorem dX1_arrive_7 : decode cX1_arrive 7 = .ok (.iload_n 1, 1) := by decide +kernel
theorem dX1_arrive_8 : decode cX1_arrive 8 = .ok (.invokevirtual 56, 3) := by decide +kernel
theorem dX1_arrive_11 : decode cX1_arrive 11 = .ok (.istore 5, 2) := by decide +kernel
theorem dX1_arrive_13 : decode cX1_arrive 13 = .ok (.aload_n 0, 1) := by decide +kernel
theorem dX1_arrive_14 : decode cX1_arrive 14 = .ok (.dup, 1) := by decide +kernel
theorem dX1_arrive_15 : decode cX1_arrive 15 = .ok (.getfield 35, 3) := by decide +kernel
theorem dX1_arrive_18 : decode cX1_arrive 18 = .ok (.iconst 1, 1) := by decide +kernel
theorem dX1_arrive_19 : decode cX1_arrive 19 = .ok (.iadd, 1) := by decide +kernel
theorem dX1_arrive_20 : decode cX1_arrive 20 = .ok (.putfield 35, 3) := by decide +kernel
theorem dX1_arrive_23 : decode cX1_arrive 23 = .ok (.aload_n 0, 1) := by decide +kernel
theorem dX1_arrive_24 : decode cX1_arrive 24 = .ok (.iload_n 1, 1) := by decide +kernel
theorem dX1_arrive_25 : decode cX1_arrive 25 = .ok (.iconst 1, 1) := by decide +kernel
theorem dX1_arrive_26 : decode cX1_arrive 26 = .ok (.invokevirtual 70, 3) := by decide +kernel
theorem dX1_arrive_29 : decode cX1_arrive 29 = .ok (.iload_n 1, 1) := by decide +kernel
theorem dX1_arrive_30 : decode cX1_arrive 30 = .ok (.iload 5, 2) := by decide +kernel
theorem dX1_arrive_32 : decode cX1_arrive 32 = .ok (.invokestatic 60, 3) := by decide +kernel
theorem dX1_arrive_35 : decode cX1_arrive 35 = .ok (.istore 6, 2) := by decide +kernel
theorem dX1_arrive_37 : decode cX1_arrive 37 = .ok (.aload_n 0, 1) := by decide +kernel
theorem dX1_arrive_38 : decode cX1_arrive 38 = .ok (.getfield 15, 3) := by decide +kernel
theorem dX1_arrive_41 : decode cX1_arrive 41 = .ok (.iload 6, 2) := by decide +kernel
theorem dX1_arrive_43 : decode cX1_arrive 43 = .ok (.iload 4, 2) := by decide +kernel
theorem dX1_arrive_45 : decode cX1_arrive 45 = .ok (.invokestatic 74, 3) := by decide +kernel
theorem dX1_arrive_48 : decode cX1_arrive 48 = .ok (.aload_n 0, 1) := by decide +kernel
theorem dX1_arrive_49 : decode cX1_arrive 49 = .ok (.getfield 18, 3) := by decide +kernel
theorem dX1_arrive_52 : decode cX1_arrive 52 = .ok (.iload 6, 2) := by decide +kernel
theorem dX1_arrive_54 : decode cX1_arrive 54 = .ok (.iload_n 2, 1) := by decide +kernel
theorem dX1_arrive_55 : decode cX1_arrive 55 = .ok (.invokestatic 74, 3) := by decide +kernel
theorem dX1_arrive_58 : decode cX1_arrive 58 = .ok (.aload_n 0, 1) := by decide +kernel
theorem dX1_arrive_59 : decode cX1_arrive 59 = .ok (.getfield 21, 3) := by decide +kernel
theorem dX1_arrive_62 : decode cX1_arrive 62 = .ok (.iload 6, 2) := by decide +kernel
theorem dX1_arrive_64 : decode cX1_arrive 64 = .ok (.iload_n 3, 1) := by decide +kernel
theorem dX1_arrive_65 : decode cX1_arrive 65 = .ok (.invokestatic 74, 3) := by decide +kernel
theorem dX1_arrive_68 : decode cX1_arrive 68 = .ok (.iload 4, 2) := by decide +kernel
theorem dX1_arrive_70 : decode cX1_arrive 70 = .ok (.ireturn, 1) := by decide +kernel
theorem dX1_dismiss_0 : decode cX1_dismiss 0 = .ok (.aload_n 0, 1) := by decide +kernel
theorem dX1_dismiss_1 : decode cX1_dismiss 1 = .ok (.iload_n 1, 1) := by decide +kernel
theorem dX1_dismiss_2 : decode cX1_dismiss 2 = .ok (.iload_n 2, 1) := by decide +kernel
theorem dX1_dismiss_3 : decode cX1_dismiss 3 = .ok (.invokevirtual 67, 3) := by decide +kernel
theorem dX1_dismiss_6 : decode cX1_dismiss 6 = .ok (.istore_n 3, 1) := by decide +kernel
theorem dX1_dismiss_7 : decode cX1_dismiss 7 = .ok (.aload_n 0, 1) := by decide +kernel
theorem dX1_dismiss_8 : decode cX1_dismiss 8 = .ok (.iload_n 1, 1) := by decide +kernel
theorem dX1_dismiss_9 : decode cX1_dismiss 9 = .ok (.iload_n 2, 1) := by decide +kernel
theorem dX1_dismiss_10 : decode cX1_dismiss 10 = .ok (.invokevirtual 78, 3) := by decide +kernel
theorem dX1_dismiss_13 : decode cX1_dismiss 13 = .ok (.aload_n 0, 1) := by decide +kernel
theorem dX1_dismiss_14 : decode cX1_dismiss 14 = .ok (.iload_n 1, 1) := by decide +kernel
theorem dX1_dismiss_15 : decode cX1_dismiss 15 = .ok (.iconst (-1), 1) := by decide +kernel
theorem dX1_dismiss_16 : decode cX1_dismiss 16 = .ok (.invokevirtual 70, 3) := by decide +kernel
theorem dX1_dismiss_19 : decode cX1_dismiss 19 = .ok (.aload_n 0, 1) := by decide +kernel
theorem dX1_dismiss_20 : decode cX1_dismiss 20 = .ok (.dup, 1) := by decide +kernel
theorem dX1_dismiss_21 : decode cX1_dismiss 21 = .ok (.getfield 38, 3) := by decide +kernel
theorem dX1_dismiss_24 : decode cX1_dismiss 24 = .ok (.iconst 1, 1) := by decide +kernel
theorem dX1_dismiss_25 : decode cX1_dismiss 25 = .ok (.iadd, 1) := by decide +kernel
theorem dX1_dismiss_26 : decode cX1_dismiss 26 = .ok (.putfield 38, 3) := by decide +kernel
theorem dX1_dismiss_29 : decode cX1_dismiss 29 = .ok (.iload_n 3, 1) := by decide +kernel
theorem dX1_dismiss_30 : decode cX1_dismiss 30 = .ok (.ireturn, 1) := by decide +kernel
theorem dX1_moveOver_0 : decode cX1_moveOver 0 = .ok (.aload_n 0, 1) := by decide +kernel
theorem dX1_moveOver_1 : decode cX1_moveOver 1 = .ok (.iload_n 1, 1) := by decide +kernel
theorem dX1_moveOver_2 : decode cX1_moveOver 2 = .ok (.iload_n 2, 1) := by decide +kernel
theorem dX1_moveOver_3 : decode cX1_moveOver 3 = .ok (.invokevirtual 78, 3) := by decide +kernel
theorem dX1_moveOver_6 : decode cX1_moveOver 6 = .ok (.aload_n 0, 1) := by decide +kernel
theorem dX1_moveOver_7 : decode cX1_moveOver 7 = .ok (.iload_n 3, 1) := by decide +kernel
theorem dX1_moveOver_8 : decode cX1_moveOver 8 = .ok (.invokevirtual 56, 3) := by decide +kernel
theorem dX1_moveOver_11 : decode cX1_moveOver 11 = .ok (.istore 4, 2) := by decide +kernel
theorem dX1_moveOver_13 : decode cX1_moveOver 13 = .ok (.aload_n 0, 1) := by decide +kernel
theorem dX1_moveOver_14 : decode cX1_moveOver 14 = .ok (.iload_n 3, 1) := by decide +kernel
theorem dX1_moveOver_15 : decode cX1_moveOver 15 = .ok (.iconst 1, 1) := by decide +kernel
theorem dX1_moveOver_16 : decode cX1_moveOver 16 = .ok (.invokevirtual 70, 3) := by decide +kernel
theorem dX1_moveOver_19 : decode cX1_moveOver 19 = .ok (.aload_n 0, 1) := by decide +kernel
theorem dX1_moveOver_20 : decode cX1_moveOver 20 = .ok (.iload_n 1, 1) := by decide +kernel
theorem dX1_moveOver_21 : decode cX1_moveOver 21 = .ok (.aload_n 0, 1) := by decide +kernel
theorem dX1_moveOver_22 : decode cX1_moveOver 22 = .ok (.iload_n 1, 1) := by decide +kernel
theorem dX1_moveOver_23 : decode cX1_moveOver 23 = .ok (.invokevirtual 56, 3) := by decide +kernel
theorem dX1_moveOver_26 : decode cX1_moveOver 26 = .ok (.iconst 1, 1) := by decide +kernel
theorem dX1_moveOver_27 : decode cX1_moveOver 27 = .ok (.isub, 1) := by decide +kernel
theorem dX1_moveOver_28 : decode cX1_moveOver 28 = .ok (.iload_n 3, 1) := by decide +kernel
theorem dX1_moveOver_29 : decode cX1_moveOver 29 = .ok (.iload 4, 2) := by decide +kernel
theorem dX1_moveOver_31 : decode cX1_moveOver 31 = .ok (.invokevirtual 81, 3) := by decide +kernel
theorem dX1_moveOver_34 : decode cX1_moveOver 34 = .ok (.aload_n 0, 1) := by decide +kernel
theorem dX1_moveOver_35 : decode cX1_moveOver 35 = .ok (.iload_n 1, 1) := by decide +kernel
theorem dX1_moveOver_36 : decode cX1_moveOver 36 = .ok (.iconst (-1), 1) := by decide +kernel
theorem dX1_moveOver_37 : decode cX1_moveOver 37 = .ok (.invokevirtual 70, 3) := by decide +kernel
theorem dX1_moveOver_40 : decode cX1_moveOver 40 = .ok (.iload 4, 2) := by decide +kernel
theorem dX1_moveOver_42 : decode cX1_moveOver 42 = .ok (.ireturn, 1) := by decide +kernel
theorem dX1_moveToRightEnd_0 : decode cX1_moveToRightEnd 0 = .ok (.iload_n 2, 1) := by decide +kernel
theorem dX1_moveToRightEnd_1 : decode cX1_moveToRightEnd 1 = .ok (.istore_n 3, 1) := by decide +kernel
theorem dX1_moveToRightEnd_2 : decode cX1_moveToRightEnd 2 = .ok (.iload_n 3, 1) := by decide +kernel
theorem dX1_moveToRightEnd_3 : decode cX1_moveToRightEnd 3 = .ok (.aload_n 0, 1) := by decide +kernel
theorem dX1_moveToRightEnd_4 : decode cX1_moveToRightEnd 4 = .ok (.iload_n 1, 1) := by decide +kernel
theorem dX1_moveToRightEnd_5 : decode cX1_moveToRightEnd 5 = .ok (.invokevirtual 56, 3) := by decide +kernel
theorem dX1_moveToRightEnd_8 : decode cX1_moveToRightEnd 8 = .ok (.iconst 1, 1) := by decide +kernel
theorem dX1_moveToRightEnd_9 : decode cX1_moveToRightEnd 9 = .ok (.isub, 1) := by decide +kernel
theorem dX1_moveToRightEnd_10 : decode cX1_moveToRightEnd 10 = .ok (.if_icmp .ge 19, 3) := by decide +kernel
theorem dX1_moveToRightEnd_13 : decode cX1_moveToRightEnd 13 = .ok (.aload_n 0, 1) := by decide +kernel
theorem dX1_moveToRightEnd_14 : decode cX1_moveToRightEnd 14 = .ok (.iload_n 1, 1) := by decide +kernel
theorem dX1_moveToRightEnd_15 : decode cX1_moveToRightEnd 15 = .ok (.iload_n 3, 1) := by decide +kernel
theorem dX1_moveToRightEnd_16 : decode cX1_moveToRightEnd 16 = .ok (.iload_n 1, 1) := by decide +kernel
theorem dX1_moveToRightEnd_17 : decode cX1_moveToRightEnd 17 = .ok (.iload_n 3, 1) := by decide +kernel
theorem dX1_moveToRightEnd_18 : decode cX1_moveToRightEnd 18 = .ok (.iconst 1, 1) := by decide +kernel
theorem dX1_moveToRightEnd_19 : decode cX1_moveToRightEnd 19 = .ok (.iadd, 1) := by decide +kernel
theorem dX1_moveToRightEnd_20 : decode cX1_moveToRightEnd 20 = .ok (.invokevirtual 81, 3) := by decide +kernel
theorem dX1_moveToRightEnd_23 : decode cX1_moveToRightEnd 23 = .ok (.iinc 3 1, 3) := by decide +kernel
theorem dX1_moveToRightEnd_26 : decode cX1_moveToRightEnd 26 = .ok (.goto (-24), 3) := by decide +kernel
theorem dX1_moveToRightEnd_29 : decode cX1_moveToRightEnd 29 = .ok (.return_, 1) := by decide +kernel
theorem dX1_changeHeight_0 : decode cX1_changeHeight 0 = .ok (.aload_n 0, 1) := by decide +kernel
theorem dX1_changeHeight_1 : decode cX1_changeHeight 1 = .ok (.getfield 18, 3) := by decide +kernel
theorem dX1_changeHeight_4 : decode cX1_changeHeight 4 = .ok (.iload_n 1, 1) := by decide +kernel
theorem dX1_changeHeight_5 : decode cX1_changeHeight 5 = .ok (.iload_n 2, 1) := by decide +kernel
theorem dX1_changeHeight_6 : decode cX1_changeHeight 6 = .ok (.invokestatic 60, 3) := by decide +kernel
theorem dX1_changeHeight_9 : decode cX1_changeHeight 9 = .ok (.iload_n 3, 1) := by decide +kernel
theorem dX1_changeHeight_10 : decode cX1_changeHeight 10 = .ok (.invokestatic 74, 3) := by decide +kernel
theorem dX1_changeHeight_13 : decode cX1_changeHeight 13 = .ok (.return_, 1) := by decide +kernel
theorem dX1_swapPlaces_0 : decode cX1_swapPlaces 0 = .ok (.iload_n 1, 1) := by decide +kernel
theorem dX1_swapPlaces_1 : decode cX1_swapPlaces 1 = .ok (.iload_n 2, 1) := by decide +kernel
theorem dX1_swapPlaces_2 : decode cX1_swapPlaces 2 = .ok (.invokestatic 60, 3) := by decide +kernel
theorem dX1_swapPlaces_5 : decode cX1_swapPlaces 5 = .ok (.istore 5, 2) := by decide +kernel
theorem dX1_swapPlaces_7 : decode cX1_swapPlaces 7 = .ok (.iload_n 3, 1) := by decide +kernel
theorem dX1_swapPlaces_8 : decode cX1_swapPlaces 8 = .ok (.iload 4, 2) := by decide +kernel
theorem dX1_swapPlaces_10 : decode cX1_swapPlaces 10 = .ok (.invokestatic 60, 3) := by decide +kernel
theorem dX1_swapPlaces_13 : decode cX1_swapPlaces 13 = .ok (.istore 6, 2) := by decide +kernel
theorem dX1_swapPlaces_15 : decode cX1_swapPlaces 15 = .ok (.aload_n 0, 1) := by decide +kernel
theorem dX1_swapPlaces_16 : decode cX1_swapPlaces 16 = .ok (.getfield 15, 3) := by decide +kernel
theorem dX1_swapPlaces_19 : decode cX1_swapPlaces 19 = .ok (.iload 5, 2) := by decide +kernel
theorem dX1_swapPlaces_21 : decode cX1_swapPlaces 21 = .ok (.iload 6, 2) := by decide +kernel
theorem dX1_swapPlaces_23 : decode cX1_swapPlaces 23 = .ok (.invokestatic 85, 3) := by decide +kernel
theorem dX1_swapPlaces_26 : decode cX1_swapPlaces 26 = .ok (.aload_n 0, 1) := by decide +kernel
theorem dX1_swapPlaces_27 : decode cX1_swapPlaces 27 = .ok (.getfield 18, 3) := by decide +kernel
theorem dX1_swapPlaces_30 : decode cX1_swapPlaces 30 = .ok (.iload 5, 2) := by decide +kernel
theorem dX1_swapPlaces_32 : decode cX1_swapPlaces 32 = .ok (.iload 6, 2) := by decide +kernel
theorem dX1_swapPlaces_34 : decode cX1_swapPlaces 34 = .ok (.invokestatic 85, 3) := by decide +kernel
theorem dX1_swapPlaces_37 : decode cX1_swapPlaces 37 = .ok (.aload_n 0, 1) := by decide +kernel
theorem dX1_swapPlaces_38 : decode cX1_swapPlaces 38 = .ok (.getfield 21, 3) := by decide +kernel
theorem dX1_swapPlaces_41 : decode cX1_swapPlaces 41 = .ok (.iload 5, 2) := by decide +kernel
theorem dX1_swapPlaces_43 : decode cX1_swapPlaces 43 = .ok (.iload 6, 2) := by decide +kernel
theorem dX1_swapPlaces_45 : decode cX1_swapPlaces 45 = .ok (.invokestatic 85, 3) := by decide +kernel
theorem dX1_swapPlaces_48 : decode cX1_swapPlaces 48 = .ok (.return_, 1) := by decide +kernel
theorem dX1_swapCells_0 : decode cX1_swapCells 0 = .ok (.aload_n 0, 1) := by decide +kernel
theorem dX1_swapCells_1 : decode cX1_swapCells 1 = .ok (.iload_n 1, 1) := by decide +kernel
theorem dX1_swapCells_2 : decode cX1_swapCells 2 = .ok (.invokestatic 63, 3) := by decide +kernel
theorem dX1_swapCells_5 : decode cX1_swapCells 5 = .ok (.istore_n 3, 1) := by decide +kernel
theorem dX1_swapCells_6 : decode cX1_swapCells 6 = .ok (.aload_n 0, 1) := by decide +kernel
theorem dX1_swapCells_7 : decode cX1_swapCells 7 = .ok (.iload_n 1, 1) := by decide +kernel
theorem dX1_swapCells_8 : decode cX1_swapCells 8 = .ok (.aload_n 0, 1) := by decide +kernel
theorem dX1_swapCells_9 : decode cX1_swapCells 9 = .ok (.iload_n 2, 1) := by decide +kernel
theorem dX1_swapCells_10 : decode cX1_swapCells 10 = .ok (.invokestatic 63, 3) := by decide +kernel
theorem dX1_swapCells_13 : decode cX1_swapCells 13 = .ok (.invokestatic 74, 3) := by decide +kernel
theorem dX1_swapCells_16 : decode cX1_swapCells 16 = .ok (.aload_n 0, 1) := by decide +kernel
theorem dX1_swapCells_17 : decode cX1_swapCells 17 = .ok (.iload_n 2, 1) := by decide +kernel
theorem dX1_swapCells_18 : decode cX1_swapCells 18 = .ok (.iload_n 3, 1) := by decide +kernel
theorem dX1_swapCells_19 : decode cX1_swapCells 19 = .ok (.invokestatic 74, 3) := by decide +kernel
theorem dX1_swapCells_22 : decode cX1_swapCells 22 = .ok (.return_, 1) := by decide +kernel
theorem dX1_swapAndCount_0 : decode cX1_swapAndCount 0 = .ok (.aload_n 0, 1) := by decide +kernel
theorem dX1_swapAndCount_1 : decode cX1_swapAndCount 1 = .ok (.iload_n 1, 1) := by decide +kernel
theorem dX1_swapAndCount_2 : decode cX1_swapAndCount 2 = .ok (.iload_n 2, 1) := by decide +kernel
theorem dX1_swapAndCount_3 : decode cX1_swapAndCount 3 = .ok (.iload_n 3, 1) := by decide +kernel
theorem dX1_swapAndCount_4 : decode cX1_swapAndCount 4 = .ok (.iload 4, 2) := by decide +kernel
theorem dX1_swapAndCount_6 : decode cX1_swapAndCount 6 = .ok (.invokevirtual 81, 3) := by decide +kernel
theorem dX1_swapAndCount_9 : decode cX1_swapAndCount 9 = .ok (.aload_n 0, 1) := by decide +kernel
theorem dX1_swapAndCount_10 : decode cX1_swapAndCount 10 = .ok (.dup, 1) := by decide +kernel
theorem dX1_swapAndCount_11 : decode cX1_swapAndCount 11 = .ok (.getfield 41, 3) := by decide +kernel
theorem dX1_swapAndCount_14 : decode cX1_swapAndCount 14 = .ok (.iconst 1, 1) := by decide +kernel
theorem dX1_swapAndCount_15 : decode cX1_swapAndCount 15 = .ok (.iadd, 1) := by decide +kernel
theorem dX1_swapAndCount_16 : decode cX1_swapAndCount 16 = .ok (.putfield 41, 3) := by decide +kernel
theorem dX1_swapAndCount_19 : decode cX1_swapAndCount 19 = .ok (.return_, 1) := by decide +kernel
theorem dX1_turnRound_0 : decode cX1_turnRound 0 = .ok (.aload_n 0, 1) := by decide +kernel
theorem dX1_turnRound_1 : decode cX1_turnRound 1 = .ok (.iload_n 1, 1) := by decide +kernel
theorem dX1_turnRound_2 : decode cX1_turnRound 2 = .ok (.invokevirtual 56, 3) := by decide +kernel
theorem dX1_turnRound_5 : decode cX1_turnRound 5 = .ok (.iconst 1, 1) := by decide +kernel
theorem dX1_turnRound_6 : decode cX1_turnRound 6 = .ok (.isub, 1) := by decide +kernel
theorem dX1_turnRound_7 : decode cX1_turnRound 7 = .ok (.istore_n 2, 1) := by decide +kernel
theorem dX1_turnRound_8 : decode cX1_turnRound 8 = .ok (.iconst 0, 1) := by decide +kernel
theorem dX1_turnRound_9 : decode cX1_turnRound 9 = .ok (.istore_n 3, 1) := by decide +kernel
theorem dX1_turnRound_10 : decode cX1_turnRound 10 = .ok (.iload_n 3, 1) := by decide +kernel
theorem dX1_turnRound_11 : decode cX1_turnRound 11 = .ok (.iload_n 2, 1) := by decide +kernel
theorem dX1_turnRound_12 : decode cX1_turnRound 12 = .ok (.iload_n 3, 1) := by decide +kernel
theorem dX1_turnRound_13 : decode cX1_turnRound 13 = .ok (.isub, 1) := by decide +kernel
theorem dX1_turnRound_14 : decode cX1_turnRound 14 = .ok (.if_icmp .ge 19, 3) := by decide +kernel
theorem dX1_turnRound_17 : decode cX1_turnRound 17 = .ok (.aload_n 0, 1) := by decide +kernel
theorem dX1_turnRound_18 : decode cX1_turnRound 18 = .ok (.iload_n 1, 1) := by decide +kernel
theorem dX1_turnRound_19 : decode cX1_turnRound 19 = .ok (.iload_n 3, 1) := by decide +kernel
theorem dX1_turnRound_20 : decode cX1_turnRound 20 = .ok (.iload_n 1, 1) := by decide +kernel
theorem dX1_turnRound_21 : decode cX1_turnRound 21 = .ok (.iload_n 2, 1) := by decide +kernel
theorem dX1_turnRound_22 : decode cX1_turnRound 22 = .ok (.iload_n 3, 1) := by decide +kernel
theorem dX1_turnRound_23 : decode cX1_turnRound 23 = .ok (.isub, 1) := by decide +kernel
theorem dX1_turnRound_24 : decode cX1_turnRound 24 = .ok (.invokevirtual 81, 3) := by decide +kernel
theorem dX1_turnRound_27 : decode cX1_turnRound 27 = .ok (.iinc 3 1, 3) := by decide +kernel
theorem dX1_turnRound_30 : decode cX1_turnRound 30 = .ok (.goto (-20), 3) := by decide +kernel
theorem dX1_turnRound_33 : decode cX1_turnRound 33 = .ok (.return_, 1) := by decide +kernel
theorem dX1_putInOrder_0 : decode cX1_putInOrder 0 = .ok (.iconst 1, 1) := by decide +kernel
theorem dX1_putInOrder_1 : decode cX1_putInOrder 1 = .ok (.istore_n 3, 1) := by decide +kernel
theorem dX1_putInOrder_2 : decode cX1_putInOrder 2 = .ok (.iload_n 3, 1) := by decide +kernel
theorem dX1_putInOrder_3 : decode cX1_putInOrder 3 = .ok (.aload_n 0, 1) := by decide +kernel
theorem dX1_putInOrder_4 : decode cX1_putInOrder 4 = .ok (.iload_n 1, 1) := by decide +kernel
theorem dX1_putInOrder_5 : decode cX1_putInOrder 5 = .ok (.invokevirtual 56, 3) := by decide +kernel
theorem dX1_putInOrder_8 : decode cX1_putInOrder 8 = .ok (.if_icmp .ge 56, 3) := by decide +kernel
theorem dX1_putInOrder_11 : decode cX1_putInOrder 11 = .ok (.iload_n 3, 1) := by decide +kernel
theorem dX1_putInOrder_12 : decode cX1_putInOrder 12 = .ok (.istore 4, 2) := by decide +kernel
theorem dX1_putInOrder_14 : decode cX1_putInOrder 14 = .ok (.iload 4, 2) := by decide +kernel
theorem dX1_putInOrder_16 : decode cX1_putInOrder 16 = .ok (.ifCond .le 42, 3) := by decide +kernel
theorem dX1_putInOrder_19 : decode cX1_putInOrder 19 = .ok (.aload_n 0, 1) := by decide +kernel
theorem dX1_putInOrder_20 : decode cX1_putInOrder 20 = .ok (.iload_n 1, 1) := by decide +kernel
theorem dX1_putInOrder_21 : decode cX1_putInOrder 21 = .ok (.iload 4, 2) := by decide +kernel
theorem dX1_putInOrder_23 : decode cX1_putInOrder 23 = .ok (.iload_n 2, 1) := by decide +kernel
theorem dX1_putInOrder_24 : decode cX1_putInOrder 24 = .ok (.invokevirtual 88, 3) := by decide +kernel
theorem dX1_putInOrder_27 : decode cX1_putInOrder 27 = .ok (.aload_n 0, 1) := by decide +kernel
theorem dX1_putInOrder_28 : decode cX1_putInOrder 28 = .ok (.iload_n 1, 1) := by decide +kernel
theorem dX1_putInOrder_29 : decode cX1_putInOrder 29 = .ok (.iload 4, 2) := by decide +kernel
theorem dX1_putInOrder_31 : decode cX1_putInOrder 31 = .ok (.iconst 1, 1) := by decide +kernel
theorem dX1_putInOrder_32 : decode cX1_putInOrder 32 = .ok (.isub, 1) := by decide +kernel
theorem dX1_putInOrder_33 : decode cX1_putInOrder 33 = .ok (.iload_n 2, 1) := by decide +kernel
theorem dX1_putInOrder_34 : decode cX1_putInOrder 34 = .ok (.invokevirtual 88, 3) := by decide +kernel
theorem dX1_putInOrder_37 : decode cX1_putInOrder 37 = .ok (.if_icmp .ge 21, 3) := by decide +kernel
theorem dX1_putInOrder_40 : decode cX1_putInOrder 40 = .ok (.aload_n 0, 1) := by decide +kernel
theorem dX1_putInOrder_41 : decode cX1_putInOrder 41 = .ok (.iload_n 1, 1) := by decide +kernel
theorem dX1_putInOrder_42 : decode cX1_putInOrder 42 = .ok (.iload 4, 2) := by decide +kernel
theorem dX1_putInOrder_44 : decode cX1_putInOrder 44 = .ok (.iconst 1, 1) := by decide +kernel
theorem dX1_putInOrder_45 : decode cX1_putInOrder 45 = .ok (.isub, 1) := by decide +kernel
theorem dX1_putInOrder_46 : decode cX1_putInOrder 46 = .ok (.iload_n 1, 1) := by decide +kernel
theorem dX1_putInOrder_47 : decode cX1_putInOrder 47 = .ok (.iload 4, 2) := by decide +kernel
theorem dX1_putInOrder_49 : decode cX1_putInOrder 49 = .ok (.invokevirtual 81, 3) := by decide +kernel
theorem dX1_putInOrder_52 : decode cX1_putInOrder 52 = .ok (.iinc 4 (-1), 3) := by decide +kernel
theorem dX1_putInOrder_55 : decode cX1_putInOrder 55 = .ok (.goto (-41), 3) := by decide +kernel
theorem dX1_putInOrder_58 : decode cX1_putInOrder 58 = .ok (.iinc 3 1, 3) := by decide +kernel
theorem dX1_putInOrder_61 : decode cX1_putInOrder 61 = .ok (.goto (-59), 3) := by decide +kernel
theorem dX1_putInOrder_64 : decode cX1_putInOrder 64 = .ok (.return_, 1) := by decide +kernel
theorem dX1_rankAt_0 : decode cX1_rankAt 0 = .ok (.iload_n 3, 1) := by decide +kernel
theorem dX1_rankAt_1 : decode cX1_rankAt 1 = .ok (.lookupswitch 42 #[(0, 27), (1, 34)], 27) := by decide +kernel
theorem dX1_rankAt_28 : decode cX1_rankAt 28 = .ok (.aload_n 0, 1) := by decide +kernel
theorem dX1_rankAt_29 : decode cX1_rankAt 29 = .ok (.iload_n 1, 1) := by decide +kernel
theorem dX1_rankAt_30 : decode cX1_rankAt 30 = .ok (.iload_n 2, 1) := by decide +kernel
theorem dX1_rankAt_31 : decode cX1_rankAt 31 = .ok (.invokevirtual 92, 3) := by decide +kernel
theorem dX1_rankAt_34 : decode cX1_rankAt 34 = .ok (.ireturn, 1) := by decide +kernel
theorem dX1_rankAt_35 : decode cX1_rankAt 35 = .ok (.aload_n 0, 1) := by decide +kernel
theorem dX1_rankAt_36 : decode cX1_rankAt 36 = .ok (.iload_n 1, 1) := by decide +kernel
theorem dX1_rankAt_37 : decode cX1_rankAt 37 = .ok (.iload_n 2, 1) := by decide +kernel
theorem dX1_rankAt_38 : decode cX1_rankAt 38 = .ok (.invokevirtual 92, 3) := by decide +kernel
theorem dX1_rankAt_41 : decode cX1_rankAt 41 = .ok (.ineg, 1) := by decide +kernel
theorem dX1_rankAt_42 : decode cX1_rankAt 42 = .ok (.ireturn, 1) := by decide +kernel
theorem dX1_rankAt_43 : decode cX1_rankAt 43 = .ok (.aload_n 0, 1) := by decide +kernel
theorem dX1_rankAt_44 : decode cX1_rankAt 44 = .ok (.iload_n 1, 1) := by decide +kernel
theorem dX1_rankAt_45 : decode cX1_rankAt 45 = .ok (.iload_n 2, 1) := by decide +kernel
theorem dX1_rankAt_46 : decode cX1_rankAt 46 = .ok (.invokevirtual 95, 3) := by decide +kernel
theorem dX1_rankAt_49 : decode cX1_rankAt 49 = .ok (.ireturn, 1) := by decide +kernel
theorem dX1_highestOf_0 : decode cX1_highestOf 0 = .ok (.iconst (-1), 1) := by decide +kernel
theorem dX1_highestOf_1 : decode cX1_highestOf 1 = .ok (.istore_n 2, 1) := by decide +kernel
theorem dX1_highestOf_2 : decode cX1_highestOf 2 = .ok (.iconst 0, 1) := by decide +kernel
theorem dX1_highestOf_3 : decode cX1_highestOf 3 = .ok (.istore_n 3, 1) := by decide +kernel
theorem dX1_highestOf_4 : decode cX1_highestOf 4 = .ok (.iload_n 3, 1) := by decide +kernel
theorem dX1_highestOf_5 : decode cX1_highestOf 5 = .ok (.aload_n 0, 1) := by decide +kernel
theorem dX1_highestOf_6 : decode cX1_highestOf 6 = .ok (.iload_n 1, 1) := by decide +kernel
theorem dX1_highestOf_7 : decode cX1_highestOf 7 = .ok (.invokevirtual 56, 3) := by decide +kernel
theorem dX1_highestOf_10 : decode cX1_highestOf 10 = .ok (.if_icmp .ge 20, 3) := by decide +kernel
theorem dX1_highestOf_13 : decode cX1_highestOf 13 = .ok (.iload_n 2, 1) := by decide +kernel
theorem dX1_highestOf_14 : decode cX1_highestOf 14 = .ok (.aload_n 0, 1) := by decide +kernel
theorem dX1_highestOf_15 : decode cX1_highestOf 15 = .ok (.iload_n 1, 1) := by decide +kernel
theorem dX1_highestOf_16 : decode cX1_highestOf 16 = .ok (.iload_n 3, 1) := by decide +kernel
theorem dX1_highestOf_17 : decode cX1_highestOf 17 = .ok (.invokevirtual 92, 3) := by decide +kernel
theorem dX1_highestOf_20 : decode cX1_highestOf 20 = .ok (.invokestatic 98, 3) := by decide +kernel
theorem dX1_highestOf_23 : decode cX1_highestOf 23 = .ok (.istore_n 2, 1) := by decide +kernel
theorem dX1_highestOf_24 : decode cX1_highestOf 24 = .ok (.iinc 3 1, 3) := by decide +kernel
theorem dX1_highestOf_27 : decode cX1_highestOf 27 = .ok (.goto (-23), 3) := by decide +kernel
theorem dX1_highestOf_30 : decode cX1_highestOf 30 = .ok (.iload_n 2, 1) := by decide +kernel
theorem dX1_highestOf_31 : decode cX1_highestOf 31 = .ok (.ireturn, 1) := by decide +kernel
theorem dX1_discordOf_0 : decode cX1_discordOf 0 = .ok (.iconst 0, 1) := by decide +kernel
theorem dX1_discordOf_1 : decode cX1_discordOf 1 = .ok (.istore_n 2, 1) := by decide +kernel
theorem dX1_discordOf_2 : decode cX1_discordOf 2 = .ok (.iconst 0, 1) := by decide +kernel
theorem dX1_discordOf_3 : decode cX1_discordOf 3 = .ok (.istore_n 3, 1) := by decide +kernel
theorem dX1_discordOf_4 : decode cX1_discordOf 4 = .ok (.iload_n 3, 1) := by decide +kernel
theorem dX1_discordOf_5 : decode cX1_discordOf 5 = .ok (.aload_n 0, 1) := by decide +kernel
theorem dX1_discordOf_6 : decode cX1_discordOf 6 = .ok (.iload_n 1, 1) := by decide +kernel
theorem dX1_discordOf_7 : decode cX1_discordOf 7 = .ok (.invokevirtual 56, 3) := by decide +kernel
theorem dX1_discordOf_10 : decode cX1_discordOf 10 = .ok (.if_icmp .ge 27, 3) := by decide +kernel
theorem dX1_discordOf_13 : decode cX1_discordOf 13 = .ok (.iload_n 2, 1) := by decide +kernel
theorem dX1_discordOf_14 : decode cX1_discordOf 14 = .ok (.aload_n 0, 1) := by decide +kernel
theorem dX1_discordOf_15 : decode cX1_discordOf 15 = .ok (.iload_n 1, 1) := by decide +kernel
theorem dX1_discordOf_16 : decode cX1_discordOf 16 = .ok (.iconst 0, 1) := by decide +kernel
theorem dX1_discordOf_17 : decode cX1_discordOf 17 = .ok (.iload_n 3, 1) := by decide +kernel
theorem dX1_discordOf_18 : decode cX1_discordOf 18 = .ok (.iconst 1, 1) := by decide +kernel
theorem dX1_discordOf_19 : decode cX1_discordOf 19 = .ok (.isub, 1) := by decide +kernel
theorem dX1_discordOf_20 : decode cX1_discordOf 20 = .ok (.aload_n 0, 1) := by decide +kernel
theorem dX1_discordOf_21 : decode cX1_discordOf 21 = .ok (.iload_n 1, 1) := by decide +kernel
theorem dX1_discordOf_22 : decode cX1_discordOf 22 = .ok (.iload_n 3, 1) := by decide +kernel
theorem dX1_discordOf_23 : decode cX1_discordOf 23 = .ok (.invokevirtual 92, 3) := by decide +kernel
theorem dX1_discordOf_26 : decode cX1_discordOf 26 = .ok (.invokevirtual 101, 3) := by decide +kernel
theorem dX1_discordOf_29 : decode cX1_discordOf 29 = .ok (.iadd, 1) := by decide +kernel
theorem dX1_discordOf_30 : decode cX1_discordOf 30 = .ok (.istore_n 2, 1) := by decide +kernel
theorem dX1_discordOf_31 : decode cX1_discordOf 31 = .ok (.iinc 3 1, 3) := by decide +kernel
theorem dX1_discordOf_34 : decode cX1_discordOf 34 = .ok (.goto (-30), 3) := by decide +kernel
theorem dX1_discordOf_37 : decode cX1_discordOf 37 = .ok (.iload_n 2, 1) := by decide +kernel
theorem dX1_discordOf_38 : decode cX1_discordOf 38 = .ok (.ireturn, 1) := by decide +kernel
theorem dX1_discordOfAll_0 : decode cX1_discordOfAll 0 = .ok (.iconst 0, 1) := by decide +kernel
theorem dX1_discordOfAll_1 : decode cX1_discordOfAll 1 = .ok (.istore_n 1, 1) := by decide +kernel
theorem dX1_discordOfAll_2 : decode cX1_discordOfAll 2 = .ok (.iconst 0, 1) := by decide +kernel
theorem dX1_discordOfAll_3 : decode cX1_discordOfAll 3 = .ok (.istore_n 2, 1) := by decide +kernel
theorem dX1_discordOfAll_4 : decode cX1_discordOfAll 4 = .ok (.iload_n 2, 1) := by decide +kernel
theorem dX1_discordOfAll_5 : decode cX1_discordOfAll 5 = .ok (.iconst 4, 1) := by decide +kernel
theorem dX1_discordOfAll_6 : decode cX1_discordOfAll 6 = .ok (.if_icmp .ge 17, 3) := by decide +kernel
theorem dX1_discordOfAll_9 : decode cX1_discordOfAll 9 = .ok (.iload_n 1, 1) := by decide +kernel
theorem dX1_discordOfAll_10 : decode cX1_discordOfAll 10 = .ok (.aload_n 0, 1) := by decide +kernel
theorem dX1_discordOfAll_11 : decode cX1_discordOfAll 11 = .ok (.iload_n 2, 1) := by decide +kernel
theorem dX1_discordOfAll_12 : decode cX1_discordOfAll 12 = .ok (.invokevirtual 105, 3) := by decide +kernel
theorem dX1_discordOfAll_15 : decode cX1_discordOfAll 15 = .ok (.iadd, 1) := by decide +kernel
theorem dX1_discordOfAll_16 : decode cX1_discordOfAll 16 = .ok (.istore_n 1, 1) := by decide +kernel
theorem dX1_discordOfAll_17 : decode cX1_discordOfAll 17 = .ok (.iinc 2 1, 3) := by decide +kernel
theorem dX1_discordOfAll_20 : decode cX1_discordOfAll 20 = .ok (.goto (-16), 3) := by decide +kernel
theorem dX1_discordOfAll_23 : decode cX1_discordOfAll 23 = .ok (.iload_n 1, 1) := by decide +kernel
theorem dX1_discordOfAll_24 : decode cX1_discordOfAll 24 = .ok (.ireturn, 1) := by decide +kernel
theorem dX1_rowBehind_0 : decode cX1_rowBehind 0 = .ok (.aload_n 0, 1) := by decide +kernel
theorem dX1_rowBehind_1 : decode cX1_rowBehind 1 = .ok (.getfield 28, 3) := by decide +kernel
theorem dX1_rowBehind_4 : decode cX1_rowBehind 4 = .ok (.iconst 1, 1) := by decide +kernel
theorem dX1_rowBehind_5 : decode cX1_rowBehind 5 = .ok (.if_icmp .ne 9, 3) := by decide +kernel
theorem dX1_rowBehind_8 : decode cX1_rowBehind 8 = .ok (.iload_n 1, 1) := by decide +kernel
theorem dX1_rowBehind_9 : decode cX1_rowBehind 9 = .ok (.iconst 1, 1) := by decide +kernel
theorem dX1_rowBehind_10 : decode cX1_rowBehind 10 = .ok (.iadd, 1) := by decide +kernel
theorem dX1_rowBehind_11 : decode cX1_rowBehind 11 = .ok (.goto 4, 3) := by decide +kernel
theorem dX1_rowBehind_14 : decode cX1_rowBehind 14 = .ok (.iconst (-1), 1) := by decide +kernel
theorem dX1_rowBehind_15 : decode cX1_rowBehind 15 = .ok (.ireturn, 1) := by decide +kernel
theorem dX1_rowBefore_0 : decode cX1_rowBefore 0 = .ok (.aload_n 0, 1) := by decide +kernel
theorem dX1_rowBefore_1 : decode cX1_rowBefore 1 = .ok (.getfield 28, 3) := by decide +kernel
theorem dX1_rowBefore_4 : decode cX1_rowBefore 4 = .ok (.iconst 1, 1) := by decide +kernel
theorem dX1_rowBefore_5 : decode cX1_rowBefore 5 = .ok (.if_icmp .ne 9, 3) := by decide +kernel
theorem dX1_rowBefore_8 : decode cX1_rowBefore 8 = .ok (.iload_n 1, 1) := by decide +kernel
theorem dX1_rowBefore_9 : decode cX1_rowBefore 9 = .ok (.iconst 1, 1) := by decide +kernel
theorem dX1_rowBefore_10 : decode cX1_rowBefore 10 = .ok (.isub, 1) := by decide +kernel
theorem dX1_rowBefore_11 : decode cX1_rowBefore 11 = .ok (.goto 4, 3) := by decide +kernel
theorem dX1_rowBefore_14 : decode cX1_rowBefore 14 = .ok (.iconst (-1), 1) := by decide +kernel
theorem dX1_rowBefore_15 : decode cX1_rowBefore 15 = .ok (.ireturn, 1) := by decide +kernel
theorem dX1_heardBy_0 : decode cX1_heardBy 0 = .ok (.aload_n 0, 1) := by decide +kernel
theorem dX1_heardBy_1 : decode cX1_heardBy 1 = .ok (.iload_n 1, 1) := by decide +kernel
theorem dX1_heardBy_2 : decode cX1_heardBy 2 = .ok (.iload_n 2, 1) := by decide +kernel
theorem dX1_heardBy_3 : decode cX1_heardBy 3 = .ok (.aload_n 0, 1) := by decide +kernel
theorem dX1_heardBy_4 : decode cX1_heardBy 4 = .ok (.getfield 24, 3) := by decide +kernel
theorem dX1_heardBy_7 : decode cX1_heardBy 7 = .ok (.isub, 1) := by decide +kernel
theorem dX1_heardBy_8 : decode cX1_heardBy 8 = .ok (.iload_n 2, 1) := by decide +kernel
theorem dX1_heardBy_9 : decode cX1_heardBy 9 = .ok (.iconst 1, 1) := by decide +kernel
theorem dX1_heardBy_10 : decode cX1_heardBy 10 = .ok (.isub, 1) := by decide +kernel
theorem dX1_heardBy_11 : decode cX1_heardBy 11 = .ok (.invokevirtual 108, 3) := by decide +kernel
theorem dX1_heardBy_14 : decode cX1_heardBy 14 = .ok (.aload_n 0, 1) := by decide +kernel
theorem dX1_heardBy_15 : decode cX1_heardBy 15 = .ok (.aload_n 0, 1) := by decide +kernel
theorem dX1_heardBy_16 : decode cX1_heardBy 16 = .ok (.iload_n 1, 1) := by decide +kernel
theorem dX1_heardBy_17 : decode cX1_heardBy 17 = .ok (.invokevirtual 111, 3) := by decide +kernel
theorem dX1_heardBy_20 : decode cX1_heardBy 20 = .ok (.iload_n 2, 1) := by decide +kernel
theorem dX1_heardBy_21 : decode cX1_heardBy 21 = .ok (.aload_n 0, 1) := by decide +kernel
theorem dX1_heardBy_22 : decode cX1_heardBy 22 = .ok (.getfield 24, 3) := by decide +kernel
theorem dX1_heardBy_25 : decode cX1_heardBy 25 = .ok (.isub, 1) := by decide +kernel
theorem dX1_heardBy_26 : decode cX1_heardBy 26 = .ok (.iload_n 2, 1) := by decide +kernel
theorem dX1_heardBy_27 : decode cX1_heardBy 27 = .ok (.invokevirtual 108, 3) := by decide +kernel
theorem dX1_heardBy_30 : decode cX1_heardBy 30 = .ok (.iadd, 1) := by decide +kernel
theorem dX1_heardBy_31 : decode cX1_heardBy 31 = .ok (.ireturn, 1) := by decide +kernel
theorem dX1_hearersOf_0 : decode cX1_hearersOf 0 = .ok (.aload_n 0, 1) := by decide +kernel
theorem dX1_hearersOf_1 : decode cX1_hearersOf 1 = .ok (.iload_n 1, 1) := by decide +kernel
theorem dX1_hearersOf_2 : decode cX1_hearersOf 2 = .ok (.iload_n 2, 1) := by decide +kernel
theorem dX1_hearersOf_3 : decode cX1_hearersOf 3 = .ok (.iconst 1, 1) := by decide +kernel
theorem dX1_hearersOf_4 : decode cX1_hearersOf 4 = .ok (.iadd, 1) := by decide +kernel
theorem dX1_hearersOf_5 : decode cX1_hearersOf 5 = .ok (.iload_n 2, 1) := by decide +kernel
theorem dX1_hearersOf_6 : decode cX1_hearersOf 6 = .ok (.aload_n 0, 1) := by decide +kernel
theorem dX1_hearersOf_7 : decode cX1_hearersOf 7 = .ok (.getfield 24, 3) := by decide +kernel
theorem dX1_hearersOf_10 : decode cX1_hearersOf 10 = .ok (.iadd, 1) := by decide +kernel
theorem dX1_hearersOf_11 : decode cX1_hearersOf 11 = .ok (.invokevirtual 108, 3) := by decide +kernel
theorem dX1_hearersOf_14 : decode cX1_hearersOf 14 = .ok (.aload_n 0, 1) := by decide +kernel
theorem dX1_hearersOf_15 : decode cX1_hearersOf 15 = .ok (.aload_n 0, 1) := by decide +kernel
theorem dX1_hearersOf_16 : decode cX1_hearersOf 16 = .ok (.iload_n 1, 1) := by decide +kernel
theorem dX1_hearersOf_17 : decode cX1_hearersOf 17 = .ok (.invokevirtual 114, 3) := by decide +kernel
theorem dX1_hearersOf_20 : decode cX1_hearersOf 20 = .ok (.iload_n 2, 1) := by decide +kernel
theorem dX1_hearersOf_21 : decode cX1_hearersOf 21 = .ok (.iload_n 2, 1) := by decide +kernel
theorem dX1_hearersOf_22 : decode cX1_hearersOf 22 = .ok (.aload_n 0, 1) := by decide +kernel
theorem dX1_hearersOf_23 : decode cX1_hearersOf 23 = .ok (.getfield 24, 3) := by decide +kernel
theorem dX1_hearersOf_26 : decode cX1_hearersOf 26 = .ok (.iadd, 1) := by decide +kernel
theorem dX1_hearersOf_27 : decode cX1_hearersOf 27 = .ok (.invokevirtual 108, 3) := by decide +kernel
theorem dX1_hearersOf_30 : decode cX1_hearersOf 30 = .ok (.iadd, 1) := by decide +kernel
theorem dX1_hearersOf_31 : decode cX1_hearersOf 31 = .ok (.ireturn, 1) := by decide +kernel
theorem dX1_higherHeardBy_0 : decode cX1_higherHeardBy 0 = .ok (.aload_n 0, 1) := by decide +kernel
theorem dX1_higherHeardBy_1 : decode cX1_higherHeardBy 1 = .ok (.iload_n 1, 1) := by decide +kernel
theorem dX1_higherHeardBy_2 : decode cX1_higherHeardBy 2 = .ok (.iload_n 2, 1) := by decide +kernel
theorem dX1_higherHeardBy_3 : decode cX1_higherHeardBy 3 = .ok (.invokevirtual 92, 3) := by decide +kernel
theorem dX1_higherHeardBy_6 : decode cX1_higherHeardBy 6 = .ok (.istore_n 3, 1) := by decide +kernel
theorem dX1_higherHeardBy_7 : decode cX1_higherHeardBy 7 = .ok (.aload_n 0, 1) := by decide +kernel
theorem dX1_higherHeardBy_8 : decode cX1_higherHeardBy 8 = .ok (.iload_n 1, 1) := by decide +kernel
theorem dX1_higherHeardBy_9 : decode cX1_higherHeardBy 9 = .ok (.iload_n 2, 1) := by decide +kernel
theorem dX1_higherHeardBy_10 : decode cX1_higherHeardBy 10 = .ok (.aload_n 0, 1) := by decide +kernel
theorem dX1_higherHeardBy_11 : decode cX1_higherHeardBy 11 = .ok (.getfield 24, 3) := by decide +kernel
theorem dX1_higherHeardBy_14 : decode cX1_higherHeardBy 14 = .ok (.isub, 1) := by decide +kernel
theorem dX1_higherHeardBy_15 : decode cX1_higherHeardBy 15 = .ok (.iload_n 2, 1) := by decide +kernel
theorem dX1_higherHeardBy_16 : decode cX1_higherHeardBy 16 = .ok (.iconst 1, 1) := by decide +kernel
theorem dX1_higherHeardBy_17 : decode cX1_higherHeardBy 17 = .ok (.isub, 1) := by decide +kernel
theorem dX1_higherHeardBy_18 : decode cX1_higherHeardBy 18 = .ok (.iload_n 3, 1) := by decide +kernel
theorem dX1_higherHeardBy_19 : decode cX1_higherHeardBy 19 = .ok (.invokevirtual 101, 3) := by decide +kernel
theorem dX1_higherHeardBy_22 : decode cX1_higherHeardBy 22 = .ok (.aload_n 0, 1) := by decide +kernel
theorem dX1_higherHeardBy_23 : decode cX1_higherHeardBy 23 = .ok (.aload_n 0, 1) := by decide +kernel
theorem dX1_higherHeardBy_24 : decode cX1_higherHeardBy 24 = .ok (.iload_n 1, 1) := by decide +kernel
theorem dX1_higherHeardBy_25 : decode cX1_higherHeardBy 25 = .ok (.invokevirtual 111, 3) := by decide +kernel
theorem dX1_higherHeardBy_28 : decode cX1_higherHeardBy 28 = .ok (.iload_n 2, 1) := by decide +kernel
theorem dX1_higherHeardBy_29 : decode cX1_higherHeardBy 29 = .ok (.aload_n 0, 1) := by decide +kernel
theorem dX1_higherHeardBy_30 : decode cX1_higherHeardBy 30 = .ok (.getfield 24, 3) := by decide +kernel
theorem dX1_higherHeardBy_33 : decode cX1_higherHeardBy 33 = .ok (.isub, 1) := by decide +kernel
theorem dX1_higherHeardBy_34 : decode cX1_higherHeardBy 34 = .ok (.iload_n 2, 1) := by decide +kernel
theorem dX1_higherHeardBy_35 : decode cX1_higherHeardBy 35 = .ok (.iload_n 3, 1) := by decide +kernel
theorem dX1_higherHeardBy_36 : decode cX1_higherHeardBy 36 = .ok (.invokevirtual 101, 3) := by decide +kernel
theorem dX1_higherHeardBy_39 : decode cX1_higherHeardBy 39 = .ok (.iadd, 1) := by decide +kernel
theorem dX1_higherHeardBy_40 : decode cX1_higherHeardBy 40 = .ok (.ireturn, 1) := by decide +kernel
theorem dX1_higherBehind_0 : decode cX1_higherBehind 0 = .ok (.aload_n 0, 1) := by decide +kernel
theorem dX1_higherBehind_1 : decode cX1_higherBehind 1 = .ok (.aload_n 0, 1) := by decide +kernel
theorem dX1_higherBehind_2 : decode cX1_higherBehind 2 = .ok (.iload_n 1, 1) := by decide +kernel
theorem dX1_higherBehind_3 : decode cX1_higherBehind 3 = .ok (.invokevirtual 111, 3) := by decide +kernel
theorem dX1_higherBehind_6 : decode cX1_higherBehind 6 = .ok (.iload_n 2, 1) := by decide +kernel
theorem dX1_higherBehind_7 : decode cX1_higherBehind 7 = .ok (.aload_n 0, 1) := by decide +kernel
theorem dX1_higherBehind_8 : decode cX1_higherBehind 8 = .ok (.getfield 24, 3) := by decide +kernel
theorem dX1_higherBehind_11 : decode cX1_higherBehind 11 = .ok (.isub, 1) := by decide +kernel
theorem dX1_higherBehind_12 : decode cX1_higherBehind 12 = .ok (.iload_n 2, 1) := by decide +kernel
theorem dX1_higherBehind_13 : decode cX1_higherBehind 13 = .ok (.iload_n 3, 1) := by decide +kernel
theorem dX1_higherBehind_14 : decode cX1_higherBehind 14 = .ok (.invokevirtual 101, 3) := by decide +kernel
theorem dX1_higherBehind_17 : decode cX1_higherBehind 17 = .ok (.ireturn, 1) := by decide +kernel
theorem dX1_higherByTree_0 : decode cX1_higherByTree 0 = .ok (.aload_n 1, 1) := by decide +kernel
theorem dX1_higherByTree_1 : decode cX1_higherByTree 1 = .ok (.invokevirtual 117, 3) := by decide +kernel
theorem dX1_higherByTree_4 : decode cX1_higherByTree 4 = .ok (.aload_n 0, 1) := by decide +kernel
theorem dX1_higherByTree_5 : decode cX1_higherByTree 5 = .ok (.aload_n 1, 1) := by decide +kernel
theorem dX1_higherByTree_6 : decode cX1_higherByTree 6 = .ok (.iload_n 2, 1) := by decide +kernel
theorem dX1_higherByTree_7 : decode cX1_higherByTree 7 = .ok (.iload_n 3, 1) := by decide +kernel
theorem dX1_higherByTree_8 : decode cX1_higherByTree 8 = .ok (.aload_n 0, 1) := by decide +kernel
theorem dX1_higherByTree_9 : decode cX1_higherByTree 9 = .ok (.getfield 24, 3) := by decide +kernel
theorem dX1_higherByTree_12 : decode cX1_higherByTree 12 = .ok (.isub, 1) := by decide +kernel
theorem dX1_higherByTree_13 : decode cX1_higherByTree 13 = .ok (.iload_n 3, 1) := by decide +kernel
theorem dX1_higherByTree_14 : decode cX1_higherByTree 14 = .ok (.iconst 1, 1) := by decide +kernel
theorem dX1_higherByTree_15 : decode cX1_higherByTree 15 = .ok (.isub, 1) := by decide +kernel
theorem dX1_higherByTree_16 : decode cX1_higherByTree 16 = .ok (.invokevirtual 122, 3) := by decide +kernel
theorem dX1_higherByTree_19 : decode cX1_higherByTree 19 = .ok (.aload_n 0, 1) := by decide +kernel
theorem dX1_higherByTree_20 : decode cX1_higherByTree 20 = .ok (.aload_n 1, 1) := by decide +kernel
theorem dX1_higherByTree_21 : decode cX1_higherByTree 21 = .ok (.aload_n 0, 1) := by decide +kernel
theorem dX1_higherByTree_22 : decode cX1_higherByTree 22 = .ok (.iload_n 2, 1) := by decide +kernel
theorem dX1_higherByTree_23 : decode cX1_higherByTree 23 = .ok (.invokevirtual 111, 3) := by decide +kernel
theorem dX1_higherByTree_26 : decode cX1_higherByTree 26 = .ok (.iload_n 3, 1) := by decide +kernel
theorem dX1_higherByTree_27 : decode cX1_higherByTree 27 = .ok (.aload_n 0, 1) := by decide +kernel
theorem dX1_higherByTree_28 : decode cX1_higherByTree 28 = .ok (.getfield 24, 3) := by decide +kernel
theorem dX1_higherByTree_31 : decode cX1_higherByTree 31 = .ok (.isub, 1) := by decide +kernel
theorem dX1_higherByTree_32 : decode cX1_higherByTree 32 = .ok (.iload_n 3, 1) := by decide +kernel
theorem dX1_higherByTree_33 : decode cX1_higherByTree 33 = .ok (.invokevirtual 122, 3) := by decide +kernel
theorem dX1_higherByTree_36 : decode cX1_higherByTree 36 = .ok (.aload_n 1, 1) := by decide +kernel
theorem dX1_higherByTree_37 : decode cX1_higherByTree 37 = .ok (.aload_n 0, 1) := by decide +kernel
theorem dX1_higherByTree_38 : decode cX1_higherByTree 38 = .ok (.iload_n 2, 1) := by decide +kernel
theorem dX1_higherByTree_39 : decode cX1_higherByTree 39 = .ok (.iload_n 3, 1) := by decide +kernel
theorem dX1_higherByTree_40 : decode cX1_higherByTree 40 = .ok (.invokevirtual 92, 3) := by decide +kernel
theorem dX1_higherByTree_43 : decode cX1_higherByTree 43 = .ok (.invokevirtual 126, 3) := by decide +kernel
theorem dX1_higherByTree_46 : decode cX1_higherByTree 46 = .ok (.ireturn, 1) := by decide +kernel
theorem dX1_singersBetween_0 : decode cX1_singersBetween 0 = .ok (.iconst 0, 1) := by decide +kernel
theorem dX1_singersBetween_1 : decode cX1_singersBetween 1 = .ok (.iload_n 3, 1) := by decide +kernel
theorem dX1_singersBetween_2 : decode cX1_singersBetween 2 = .ok (.aload_n 0, 1) := by decide +kernel
theorem dX1_singersBetween_3 : decode cX1_singersBetween 3 = .ok (.iload_n 1, 1) := by decide +kernel
theorem dX1_singersBetween_4 : decode cX1_singersBetween 4 = .ok (.invokevirtual 56, 3) := by decide +kernel
theorem dX1_singersBetween_7 : decode cX1_singersBetween 7 = .ok (.iconst 1, 1) := by decide +kernel
theorem dX1_singersBetween_8 : decode cX1_singersBetween 8 = .ok (.isub, 1) := by decide +kernel
theorem dX1_singersBetween_9 : decode cX1_singersBetween 9 = .ok (.invokestatic 44, 3) := by decide +kernel
theorem dX1_singersBetween_12 : decode cX1_singersBetween 12 = .ok (.iload_n 2, 1) := by decide +kernel
theorem dX1_singersBetween_13 : decode cX1_singersBetween 13 = .ok (.iconst 0, 1) := by decide +kernel
theorem dX1_singersBetween_14 : decode cX1_singersBetween 14 = .ok (.invokestatic 98, 3) := by decide +kernel
theorem dX1_singersBetween_17 : decode cX1_singersBetween 17 = .ok (.isub, 1) := by decide +kernel
theorem dX1_singersBetween_18 : decode cX1_singersBetween 18 = .ok (.iconst 1, 1) := by decide +kernel
theorem dX1_singersBetween_19 : decode cX1_singersBetween 19 = .ok (.iadd, 1) := by decide +kernel
theorem dX1_singersBetween_20 : decode cX1_singersBetween 20 = .ok (.invokestatic 98, 3) := by decide +kernel
theorem dX1_singersBetween_23 : decode cX1_singersBetween 23 = .ok (.ireturn, 1) := by decide +kernel
theorem dX1_higherBetween_0 : decode cX1_higherBetween 0 = .ok (.iconst 0, 1) := by decide +kernel
theorem dX1_higherBetween_1 : decode cX1_higherBetween 1 = .ok (.istore 5, 2) := by decide +kernel
theorem dX1_higherBetween_3 : decode cX1_higherBetween 3 = .ok (.iload_n 3, 1) := by decide +kernel
theorem dX1_higherBetween_4 : decode cX1_higherBetween 4 = .ok (.aload_n 0, 1) := by decide +kernel
theorem dX1_higherBetween_5 : decode cX1_higherBetween 5 = .ok (.iload_n 1, 1) := by decide +kernel
theorem dX1_higherBetween_6 : decode cX1_higherBetween 6 = .ok (.invokevirtual 56, 3) := by decide +kernel
theorem dX1_higherBetween_9 : decode cX1_higherBetween 9 = .ok (.iconst 1, 1) := by decide +kernel
theorem dX1_higherBetween_10 : decode cX1_higherBetween 10 = .ok (.isub, 1) := by decide +kernel
theorem dX1_higherBetween_11 : decode cX1_higherBetween 11 = .ok (.invokestatic 44, 3) := by decide +kernel
theorem dX1_higherBetween_14 : decode cX1_higherBetween 14 = .ok (.istore 6, 2) := by decide +kernel
theorem dX1_higherBetween_16 : decode cX1_higherBetween 16 = .ok (.iload_n 2, 1) := by decide +kernel
theorem dX1_higherBetween_17 : decode cX1_higherBetween 17 = .ok (.iconst 0, 1) := by decide +kernel
theorem dX1_higherBetween_18 : decode cX1_higherBetween 18 = .ok (.invokestatic 98, 3) := by decide +kernel
theorem dX1_higherBetween_21 : decode cX1_higherBetween 21 = .ok (.istore 7, 2) := by decide +kernel
theorem dX1_higherBetween_23 : decode cX1_higherBetween 23 = .ok (.iload 7, 2) := by decide +kernel
theorem dX1_higherBetween_25 : decode cX1_higherBetween 25 = .ok (.iload 6, 2) := by decide +kernel
theorem dX1_higherBetween_27 : decode cX1_higherBetween 27 = .ok (.if_icmp .gt 31, 3) := by decide +kernel
theorem dX1_higherBetween_30 : decode cX1_higherBetween 30 = .ok (.aload_n 0, 1) := by decide +kernel
theorem dX1_higherBetween_31 : decode cX1_higherBetween 31 = .ok (.getfield 18, 3) := by decide +kernel
theorem dX1_higherBetween_34 : decode cX1_higherBetween 34 = .ok (.bipush 6, 2) := by decide +kernel
theorem dX1_higherBetween_36 : decode cX1_higherBetween 36 = .ok (.iload_n 1, 1) := by decide +kernel
theorem dX1_higherBetween_37 : decode cX1_higherBetween 37 = .ok (.imul, 1) := by decide +kernel
theorem dX1_higherBetween_38 : decode cX1_higherBetween 38 = .ok (.iload 7, 2) := by decide +kernel
theorem dX1_higherBetween_40 : decode cX1_higherBetween 40 = .ok (.iadd, 1) := by decide +kernel
theorem dX1_higherBetween_41 : decode cX1_higherBetween 41 = .ok (.invokestatic 63, 3) := by decide +kernel
theorem dX1_higherBetween_44 : decode cX1_higherBetween 44 = .ok (.iload 4, 2) := by decide +kernel
theorem dX1_higherBetween_46 : decode cX1_higherBetween 46 = .ok (.if_icmp .le 6, 3) := by decide +kernel
theorem dX1_higherBetween_49 : decode cX1_higherBetween 49 = .ok (.iinc 5 1, 3) := by decide +kernel
theorem dX1_higherBetween_52 : decode cX1_higherBetween 52 = .ok (.iinc 7 1, 3) := by decide +kernel
theorem dX1_higherBetween_55 : decode cX1_higherBetween 55 = .ok (.goto (-32), 3) := by decide +kernel
theorem dX1_higherBetween_58 : decode cX1_higherBetween 58 = .ok (.iload 5, 2) := by decide +kernel
theorem dX1_higherBetween_60 : decode cX1_higherBetween 60 = .ok (.ireturn, 1) := by decide +kernel
theorem dX1_putBetween_0 : decode cX1_putBetween 0 = .ok (.iload 4, 2) := by decide +kernel
theorem dX1_putBetween_2 : decode cX1_putBetween 2 = .ok (.aload_n 0, 1) := by decide +kernel
theorem dX1_putBetween_3 : decode cX1_putBetween 3 = .ok (.iload_n 2, 1) := by decide +kernel
theorem dX1_putBetween_4 : decode cX1_putBetween 4 = .ok (.invokevirtual 56, 3) := by decide +kernel
theorem dX1_putBetween_7 : decode cX1_putBetween 7 = .ok (.iconst 1, 1) := by decide +kernel
theorem dX1_putBetween_8 : decode cX1_putBetween 8 = .ok (.isub, 1) := by decide +kernel
theorem dX1_putBetween_9 : decode cX1_putBetween 9 = .ok (.invokestatic 44, 3) := by decide +kernel
theorem dX1_putBetween_12 : decode cX1_putBetween 12 = .ok (.istore 5, 2) := by decide +kernel
theorem dX1_putBetween_14 : decode cX1_putBetween 14 = .ok (.iload_n 3, 1) := by decide +kernel
theorem dX1_putBetween_15 : decode cX1_putBetween 15 = .ok (.iconst 0, 1) := by decide +kernel
theorem dX1_putBetween_16 : decode cX1_putBetween 16 = .ok (.invokestatic 98, 3) := by decide +kernel
theorem dX1_putBetween_19 : decode cX1_putBetween 19 = .ok (.istore 6, 2) := by decide +kernel
theorem dX1_putBetween_21 : decode cX1_putBetween 21 = .ok (.iload 6, 2) := by decide +kernel
theorem dX1_putBetween_23 : decode cX1_putBetween 23 = .ok (.iload 5, 2) := by decide +kernel
theorem dX1_putBetween_25 : decode cX1_putBetween 25 = .ok (.if_icmp .gt 20, 3) := by decide +kernel
theorem dX1_putBetween_28 : decode cX1_putBetween 28 = .ok (.aload_n 1, 1) := by decide +kernel
theorem dX1_putBetween_29 : decode cX1_putBetween 29 = .ok (.aload_n 0, 1) := by decide +kernel
theorem dX1_putBetween_30 : decode cX1_putBetween 30 = .ok (.iload_n 2, 1) := by decide +kernel
theorem dX1_putBetween_31 : decode cX1_putBetween 31 = .ok (.iload 6, 2) := by decide +kernel
theorem dX1_putBetween_33 : decode cX1_putBetween 33 = .ok (.invokevirtual 92, 3) := by decide +kernel
theorem dX1_putBetween_36 : decode cX1_putBetween 36 = .ok (.invokevirtual 129, 3) := by decide +kernel
theorem dX1_putBetween_39 : decode cX1_putBetween 39 = .ok (.iinc 6 1, 3) := by decide +kernel
theorem dX1_putBetween_42 : decode cX1_putBetween 42 = .ok (.goto (-21), 3) := by decide +kernel
theorem dX1_putBetween_45 : decode cX1_putBetween 45 = .ok (.return_, 1) := by decide +kernel
theorem dX1_oddIn_0 : decode cX1_oddIn 0 = .ok (.iconst 0, 1) := by decide +kernel
theorem dX1_oddIn_1 : decode cX1_oddIn 1 = .ok (.istore_n 2, 1) := by decide +kernel
theorem dX1_oddIn_2 : decode cX1_oddIn 2 = .ok (.iconst 0, 1) := by decide +kernel
theorem dX1_oddIn_3 : decode cX1_oddIn 3 = .ok (.istore_n 3, 1) := by decide +kernel
theorem dX1_oddIn_4 : decode cX1_oddIn 4 = .ok (.iload_n 3, 1) := by decide +kernel
theorem dX1_oddIn_5 : decode cX1_oddIn 5 = .ok (.aload_n 0, 1) := by decide +kernel
theorem dX1_oddIn_6 : decode cX1_oddIn 6 = .ok (.iload_n 1, 1) := by decide +kernel
theorem dX1_oddIn_7 : decode cX1_oddIn 7 = .ok (.invokevirtual 56, 3) := by decide +kernel
theorem dX1_oddIn_10 : decode cX1_oddIn 10 = .ok (.if_icmp .ge 20, 3) := by decide +kernel
theorem dX1_oddIn_13 : decode cX1_oddIn 13 = .ok (.iload_n 2, 1) := by decide +kernel
theorem dX1_oddIn_14 : decode cX1_oddIn 14 = .ok (.aload_n 0, 1) := by decide +kernel
theorem dX1_oddIn_15 : decode cX1_oddIn 15 = .ok (.iload_n 1, 1) := by decide +kernel
theorem dX1_oddIn_16 : decode cX1_oddIn 16 = .ok (.iload_n 3, 1) := by decide +kernel
theorem dX1_oddIn_17 : decode cX1_oddIn 17 = .ok (.invokevirtual 133, 3) := by decide +kernel
theorem dX1_oddIn_20 : decode cX1_oddIn 20 = .ok (.iconst 1, 1) := by decide +kernel
theorem dX1_oddIn_21 : decode cX1_oddIn 21 = .ok (.iand, 1) := by decide +kernel
theorem dX1_oddIn_22 : decode cX1_oddIn 22 = .ok (.iadd, 1) := by decide +kernel
theorem dX1_oddIn_23 : decode cX1_oddIn 23 = .ok (.istore_n 2, 1) := by decide +kernel
theorem dX1_oddIn_24 : decode cX1_oddIn 24 = .ok (.iinc 3 1, 3) := by decide +kernel
theorem dX1_oddIn_27 : decode cX1_oddIn 27 = .ok (.goto (-23), 3) := by decide +kernel
theorem dX1_oddIn_30 : decode cX1_oddIn 30 = .ok (.iload_n 2, 1) := by decide +kernel
theorem dX1_oddIn_31 : decode cX1_oddIn 31 = .ok (.ireturn, 1) := by decide +kernel
theorem dX1_oddOfAll_0 : decode cX1_oddOfAll 0 = .ok (.iconst 0, 1) := by decide +kernel
theorem dX1_oddOfAll_1 : decode cX1_oddOfAll 1 = .ok (.istore_n 1, 1) := by decide +kernel
theorem dX1_oddOfAll_2 : decode cX1_oddOfAll 2 = .ok (.iconst 0, 1) := by decide +kernel
theorem dX1_oddOfAll_3 : decode cX1_oddOfAll 3 = .ok (.istore_n 2, 1) := by decide +kernel
theorem dX1_oddOfAll_4 : decode cX1_oddOfAll 4 = .ok (.iload_n 2, 1) := by decide +kernel
theorem dX1_oddOfAll_5 : decode cX1_oddOfAll 5 = .ok (.iconst 4, 1) := by decide +kernel
theorem dX1_oddOfAll_6 : decode cX1_oddOfAll 6 = .ok (.if_icmp .ge 17, 3) := by decide +kernel
theorem dX1_oddOfAll_9 : decode cX1_oddOfAll 9 = .ok (.iload_n 1, 1) := by decide +kernel
theorem dX1_oddOfAll_10 : decode cX1_oddOfAll 10 = .ok (.aload_n 0, 1) := by decide +kernel
theorem dX1_oddOfAll_11 : decode cX1_oddOfAll 11 = .ok (.iload_n 2, 1) := by decide +kernel
theorem dX1_oddOfAll_12 : decode cX1_oddOfAll 12 = .ok (.invokevirtual 136, 3) := by decide +kernel
theorem dX1_oddOfAll_15 : decode cX1_oddOfAll 15 = .ok (.iadd, 1) := by decide +kernel
theorem dX1_oddOfAll_16 : decode cX1_oddOfAll 16 = .ok (.istore_n 1, 1) := by decide +kernel
theorem dX1_oddOfAll_17 : decode cX1_oddOfAll 17 = .ok (.iinc 2 1, 3) := by decide +kernel
theorem dX1_oddOfAll_20 : decode cX1_oddOfAll 20 = .ok (.goto (-16), 3) := by decide +kernel
theorem dX1_oddOfAll_23 : decode cX1_oddOfAll 23 = .ok (.iload_n 1, 1) := by decide +kernel
theorem dX1_oddOfAll_24 : decode cX1_oddOfAll 24 = .ok (.ireturn, 1) := by decide +kernel
theorem dX1_writtenLength_0 : decode cX1_writtenLength 0 = .ok (.iconst 0, 1) := by decide +kernel
theorem dX1_writtenLength_1 : decode cX1_writtenLength 1 = .ok (.iconst 5, 1) := by decide +kernel
theorem dX1_writtenLength_2 : decode cX1_writtenLength 2 = .ok (.aload_n 0, 1) := by decide +kernel
theorem dX1_writtenLength_3 : decode cX1_writtenLength 3 = .ok (.iload_n 1, 1) := by decide +kernel
theorem dX1_writtenLength_4 : decode cX1_writtenLength 4 = .ok (.invokevirtual 56, 3) := by decide +kernel
theorem dX1_writtenLength_7 : decode cX1_writtenLength 7 = .ok (.imul, 1) := by decide +kernel
theorem dX1_writtenLength_8 : decode cX1_writtenLength 8 = .ok (.iconst 1, 1) := by decide +kernel
theorem dX1_writtenLength_9 : decode cX1_writtenLength 9 = .ok (.isub, 1) := by decide +kernel
theorem dX1_writtenLength_10 : decode cX1_writtenLength 10 = .ok (.invokestatic 98, 3) := by decide +kernel
theorem dX1_writtenLength_13 : decode cX1_writtenLength 13 = .ok (.ireturn, 1) := by decide +kernel
theorem dX1_writtenCode_0 : decode cX1_writtenCode 0 = .ok (.iload_n 2, 1) := by decide +kernel
theorem dX1_writtenCode_1 : decode cX1_writtenCode 1 = .ok (.ifCond .lt 12, 3) := by decide +kernel
theorem dX1_writtenCode_4 : decode cX1_writtenCode 4 = .ok (.iload_n 2, 1) := by decide +kernel
theorem dX1_writtenCode_5 : decode cX1_writtenCode 5 = .ok (.aload_n 0, 1) := by decide +kernel
theorem dX1_writtenCode_6 : decode cX1_writtenCode 6 = .ok (.iload_n 1, 1) := by decide +kernel
theorem dX1_writtenCode_7 : decode cX1_writtenCode 7 = .ok (.invokevirtual 139, 3) := by decide +kernel
theorem dX1_writtenCode_10 : decode cX1_writtenCode 10 = .ok (.if_icmp .lt 5, 3) := by decide +kernel
theorem dX1_writtenCode_13 : decode cX1_writtenCode 13 = .ok (.iconst (-1), 1) := by decide +kernel
theorem dX1_writtenCode_14 : decode cX1_writtenCode 14 = .ok (.ireturn, 1) := by decide +kernel
theorem dX1_writtenCode_15 : decode cX1_writtenCode 15 = .ok (.iload_n 2, 1) := by decide +kernel
theorem dX1_writtenCode_16 : decode cX1_writtenCode 16 = .ok (.iconst 5, 1) := by decide +kernel
theorem dX1_writtenCode_17 : decode cX1_writtenCode 17 = .ok (.idiv, 1) := by decide +kernel
theorem dX1_writtenCode_18 : decode cX1_writtenCode 18 = .ok (.istore_n 3, 1) := by decide +kernel
theorem dX1_writtenCode_19 : decode cX1_writtenCode 19 = .ok (.aload_n 0, 1) := by decide +kernel
theorem dX1_writtenCode_20 : decode cX1_writtenCode 20 = .ok (.iload_n 1, 1) := by decide +kernel
theorem dX1_writtenCode_21 : decode cX1_writtenCode 21 = .ok (.iload_n 3, 1) := by decide +kernel
theorem dX1_writtenCode_22 : decode cX1_writtenCode 22 = .ok (.invokevirtual 92, 3) := by decide +kernel
theorem dX1_writtenCode_25 : decode cX1_writtenCode 25 = .ok (.istore 4, 2) := by decide +kernel
theorem dX1_writtenCode_27 : decode cX1_writtenCode 27 = .ok (.iload_n 2, 1) := by decide +kernel
theorem dX1_writtenCode_28 : decode cX1_writtenCode 28 = .ok (.iconst 5, 1) := by decide +kernel
theorem dX1_writtenCode_29 : decode cX1_writtenCode 29 = .ok (.irem, 1) := by decide +kernel
theorem dX1_writtenCode_30 : decode cX1_writtenCode 30 = .ok (.tableswitch 70 0 3 #[30, 39, 51, 60], 30) := by decide +kernel
theorem dX1_writtenCode_60 : decode cX1_writtenCode 60 = .ok (.bipush 48, 2) := by decide +kernel
theorem dX1_writtenCode_62 : decode cX1_writtenCode 62 = .ok (.iload 4, 2) := by decide +kernel
theorem dX1_writtenCode_64 : decode cX1_writtenCode 64 = .ok (.bipush 100, 2) := by decide +kernel
theorem dX1_writtenCode_66 : decode cX1_writtenCode 66 = .ok (.idiv, 1) := by decide +kernel
theorem dX1_writtenCode_67 : decode cX1_writtenCode 67 = .ok (.iadd, 1) := by decide +kernel
theorem dX1_writtenCode_68 : decode cX1_writtenCode 68 = .ok (.ireturn, 1) := by decide +kernel
theorem dX1_writtenCode_69 : decode cX1_writtenCode 69 = .ok (.bipush 48, 2) := by decide +kernel
theorem dX1_writtenCode_71 : decode cX1_writtenCode 71 = .ok (.iload 4, 2) := by decide +kernel
theorem dX1_writtenCode_73 : decode cX1_writtenCode 73 = .ok (.bipush 10, 2) := by decide +kernel
theorem dX1_writtenCode_75 : decode cX1_writtenCode 75 = .ok (.idiv, 1) := by decide +kernel
theorem dX1_writtenCode_76 : decode cX1_writtenCode 76 = .ok (.bipush 10, 2) := by decide +kernel
theorem dX1_writtenCode_78 : decode cX1_writtenCode 78 = .ok (.irem, 1) := by decide +kernel
theorem dX1_writtenCode_79 : decode cX1_writtenCode 79 = .ok (.iadd, 1) := by decide +kernel
theorem dX1_writtenCode_80 : decode cX1_writtenCode 80 = .ok (.ireturn, 1) := by decide +kernel
theorem dX1_writtenCode_81 : decode cX1_writtenCode 81 = .ok (.bipush 48, 2) := by decide +kernel
theorem dX1_writtenCode_83 : decode cX1_writtenCode 83 = .ok (.iload 4, 2) := by decide +kernel
theorem dX1_writtenCode_85 : decode cX1_writtenCode 85 = .ok (.bipush 10, 2) := by decide +kernel
theorem dX1_writtenCode_87 : decode cX1_writtenCode 87 = .ok (.irem, 1) := by decide +kernel
theorem dX1_writtenCode_88 : decode cX1_writtenCode 88 = .ok (.iadd, 1) := by decide +kernel
theorem dX1_writtenCode_89 : decode cX1_writtenCode 89 = .ok (.ireturn, 1) := by decide +kernel
theorem dX1_writtenCode_90 : decode cX1_writtenCode 90 = .ok (.aload_n 0, 1) := by decide +kernel
theorem dX1_writtenCode_91 : decode cX1_writtenCode 91 = .ok (.iload_n 1, 1) := by decide +kernel
theorem dX1_writtenCode_92 : decode cX1_writtenCode 92 = .ok (.iload_n 3, 1) := by decide +kernel
theorem dX1_writtenCode_93 : decode cX1_writtenCode 93 = .ok (.invokevirtual 95, 3) := by decide +kernel
theorem dX1_writtenCode_96 : decode cX1_writtenCode 96 = .ok (.invokestatic 142, 3) := by decide +kernel
theorem dX1_writtenCode_99 : decode cX1_writtenCode 99 = .ok (.ireturn, 1) := by decide +kernel
theorem dX1_writtenCode_100 : decode cX1_writtenCode 100 = .ok (.bipush 32, 2) := by decide +kernel
theorem dX1_writtenCode_102 : decode cX1_writtenCode 102 = .ok (.ireturn, 1) := by decide +kernel
theorem dX1_letterOf_0 : decode cX1_letterOf 0 = .ok (.iload_n 0, 1) := by decide +kernel
theorem dX1_letterOf_1 : decode cX1_letterOf 1 = .ok (.ifCond .lt 21, 3) := by decide +kernel
theorem dX1_letterOf_4 : decode cX1_letterOf 4 = .ok (.iload_n 0, 1) := by decide +kernel
theorem dX1_letterOf_5 : decode cX1_letterOf 5 = .ok (.ldc 145, 2) := by decide +kernel
theorem dX1_letterOf_7 : decode cX1_letterOf 7 = .ok (.invokevirtual 147, 3) := by decide +kernel
theorem dX1_letterOf_10 : decode cX1_letterOf 10 = .ok (.if_icmp .ge 12, 3) := by decide +kernel
theorem dX1_letterOf_13 : decode cX1_letterOf 13 = .ok (.ldc 145, 2) := by decide +kernel
theorem dX1_letterOf_15 : decode cX1_letterOf 15 = .ok (.iload_n 0, 1) := by decide +kernel
theorem dX1_letterOf_16 : decode cX1_letterOf 16 = .ok (.invokevirtual 153, 3) := by decide +kernel
theorem dX1_letterOf_19 : decode cX1_letterOf 19 = .ok (.goto 4, 3) := by decide +kernel
theorem dX1_letterOf_22 : decode cX1_letterOf 22 = .ok (.iconst (-1), 1) := by decide +kernel
theorem dX1_letterOf_23 : decode cX1_letterOf 23 = .ok (.ireturn, 1) := by decide +kernel
theorem dX2_init_0 : decode cX2_init 0 = .ok (.aload_n 0, 1) := by decide +kernel
theorem dX2_init_1 : decode cX2_init 1 = .ok (.invokespecial 3, 3) := by decide +kernel
theorem dX2_init_4 : decode cX2_init 4 = .ok (.aload_n 0, 1) := by decide +kernel
theorem dX2_init_5 : decode cX2_init 5 = .ok (.bipush 12, 2) := by decide +kernel
theorem dX2_init_7 : decode cX2_init 7 = .ok (.anewarray 9, 3) := by decide +kernel
theorem dX2_init_10 : decode cX2_init 10 = .ok (.putfield 11, 3) := by decide +kernel
theorem dX2_init_13 : decode cX2_init 13 = .ok (.iconst 0, 1) := by decide +kernel
theorem dX2_init_14 : decode cX2_init 14 = .ok (.istore_n 1, 1) := by decide +kernel
theorem dX2_init_15 : decode cX2_init 15 = .ok (.iload_n 1, 1) := by decide +kernel
theorem dX2_init_16 : decode cX2_init 16 = .ok (.aload_n 0, 1) := by decide +kernel
theorem dX2_init_17 : decode cX2_init 17 = .ok (.getfield 11, 3) := by decide +kernel
theorem dX2_init_20 : decode cX2_init 20 = .ok (.arraylength, 1) := by decide +kernel
theorem dX2_init_21 : decode cX2_init 21 = .ok (.if_icmp .ge 22, 3) := by decide +kernel
theorem dX2_init_24 : decode cX2_init 24 = .ok (.aload_n 0, 1) := by decide +kernel
theorem dX2_init_25 : decode cX2_init 25 = .ok (.getfield 11, 3) := by decide +kernel
theorem dX2_init_28 : decode cX2_init 28 = .ok (.iload_n 1, 1) := by decide +kernel
theorem dX2_init_29 : decode cX2_init 29 = .ok (.new 9, 3) := by decide +kernel
theorem dX2_init_32 : decode cX2_init 32 = .ok (.dup, 1) := by decide +kernel
theorem dX2_init_33 : decode cX2_init 33 = .ok (.invokespecial 17, 3) := by decide +kernel
theorem dX2_init_36 : decode cX2_init 36 = .ok (.aastore, 1) := by decide +kernel
theorem dX2_init_37 : decode cX2_init 37 = .ok (.iinc 1 1, 3) := by decide +kernel
theorem dX2_init_40 : decode cX2_init 40 = .ok (.goto (-25), 3) := by decide +kernel
theorem dX2_init_43 : decode cX2_init 43 = .ok (.return_, 1) := by decide +kernel
theorem dX2_fell_0 : decode cX2_fell 0 = .ok (.aload_n 0, 1) := by decide +kernel
theorem dX2_fell_1 : decode cX2_fell 1 = .ok (.aconst_null, 1) := by decide +kernel
theorem dX2_fell_2 : decode cX2_fell 2 = .ok (.putfield 18, 3) := by decide +kernel
theorem dX2_fell_5 : decode cX2_fell 5 = .ok (.aload_n 0, 1) := by decide +kernel
theorem dX2_fell_6 : decode cX2_fell 6 = .ok (.iconst 0, 1) := by decide +kernel
theorem dX2_fell_7 : decode cX2_fell 7 = .ok (.putfield 22, 3) := by decide +kernel
theorem dX2_fell_10 : decode cX2_fell 10 = .ok (.return_, 1) := by decide +kernel
theorem dX2_put_0 : decode cX2_put 0 = .ok (.aconst_null, 1) := by decide +kernel
theorem dX2_put_1 : decode cX2_put 1 = .ok (.astore_n 2, 1) := by decide +kernel
theorem dX2_put_2 : decode cX2_put 2 = .ok (.aload_n 0, 1) := by decide +kernel
theorem dX2_put_3 : decode cX2_put 3 = .ok (.getfield 18, 3) := by decide +kernel
theorem dX2_put_6 : decode cX2_put 6 = .ok (.astore_n 3, 1) := by decide +kernel
theorem dX2_put_7 : decode cX2_put 7 = .ok (.iconst 0, 1) := by decide +kernel
theorem dX2_put_8 : decode cX2_put 8 = .ok (.istore 4, 2) := by decide +kernel
theorem dX2_put_10 : decode cX2_put 10 = .ok (.iload 4, 2) := by decide +kernel
theorem dX2_put_12 : decode cX2_put 12 = .ok (.bipush 12, 2) := by decide +kernel
theorem dX2_put_14 : decode cX2_put 14 = .ok (.if_icmp .ge 54, 3) := by decide +kernel
theorem dX2_put_17 : decode cX2_put 17 = .ok (.aload_n 3, 1) := by decide +kernel
theorem dX2_put_18 : decode cX2_put 18 = .ok (.ifnull 50, 3) := by decide +kernel
theorem dX2_put_21 : decode cX2_put 21 = .ok (.aload_n 3, 1) := by decide +kernel
theorem dX2_put_22 : decode cX2_put 22 = .ok (.getfield 26, 3) := by decide +kernel
theorem dX2_put_25 : decode cX2_put 25 = .ok (.iload_n 1, 1) := by decide +kernel
theorem dX2_put_26 : decode cX2_put 26 = .ok (.if_icmp .ne 14, 3) := by decide +kernel
theorem dX2_put_29 : decode cX2_put 29 = .ok (.aload_n 3, 1) := by decide +kernel
theorem dX2_put_30 : decode cX2_put 30 = .ok (.dup, 1) := by decide +kernel
theorem dX2_put_31 : decode cX2_put 31 = .ok (.getfield 29, 3) := by decide +kernel
theorem dX2_put_34 : decode cX2_put 34 = .ok (.iconst 1, 1) := by decide +kernel
theorem dX2_put_35 : decode cX2_put 35 = .ok (.iadd, 1) := by decide +kernel
theorem dX2_put_36 : decode cX2_put 36 = .ok (.putfield 29, 3) := by decide +kernel
theorem dX2_put_39 : decode cX2_put 39 = .ok (.return_, 1) := by decide +kernel
theorem dX2_put_40 : decode cX2_put 40 = .ok (.aload_n 3, 1) := by decide +kernel
theorem dX2_put_41 : decode cX2_put 41 = .ok (.astore_n 2, 1) := by decide +kernel
theorem dX2_put_42 : decode cX2_put 42 = .ok (.iload_n 1, 1) := by decide +kernel
theorem dX2_put_43 : decode cX2_put 43 = .ok (.aload_n 3, 1) := by decide +kernel
theorem dX2_put_44 : decode cX2_put 44 = .ok (.getfield 26, 3) := by decide +kernel
theorem dX2_put_47 : decode cX2_put 47 = .ok (.if_icmp .le 10, 3) := by decide +kernel
theorem dX2_put_50 : decode cX2_put 50 = .ok (.aload_n 3, 1) := by decide +kernel
theorem dX2_put_51 : decode cX2_put 51 = .ok (.getfield 32, 3) := by decide +kernel
theorem dX2_put_54 : decode cX2_put 54 = .ok (.goto 7, 3) := by decide +kernel
theorem dX2_put_57 : decode cX2_put 57 = .ok (.aload_n 3, 1) := by decide +kernel
theorem dX2_put_58 : decode cX2_put 58 = .ok (.getfield 35, 3) := by decide +kernel
theorem dX2_put_61 : decode cX2_put 61 = .ok (.astore_n 3, 1) := by decide +kernel
theorem dX2_put_62 : decode cX2_put 62 = .ok (.iinc 4 1, 3) := by decide +kernel
theorem dX2_put_65 : decode cX2_put 65 = .ok (.goto (-55), 3) := by decide +kernel
theorem dX2_put_68 : decode cX2_put 68 = .ok (.aload_n 0, 1) := by decide +kernel
theorem dX2_put_69 : decode cX2_put 69 = .ok (.iload_n 1, 1) := by decide +kernel
theorem dX2_put_70 : decode cX2_put 70 = .ok (.invokevirtual 38, 3) := by decide +kernel
theorem dX2_put_73 : decode cX2_put 73 = .ok (.astore 4, 2) := by decide +kernel
theorem dX2_put_75 : decode cX2_put 75 = .ok (.aload_n 2, 1) := by decide +kernel
theorem dX2_put_76 : decode cX2_put 76 = .ok (.ifnonnull 12, 3) := by decide +kernel
theorem dX2_put_79 : decode cX2_put 79 = .ok (.aload_n 0, 1) := by decide +kernel
theorem dX2_put_80 : decode cX2_put 80 = .ok (.aload 4, 2) := by decide +kernel
theorem dX2_put_82 : decode cX2_put 82 = .ok (.putfield 18, 3) := by decide +kernel
theorem dX2_put_85 : decode cX2_put 85 = .ok (.goto 26, 3) := by decide +kernel
theorem dX2_put_88 : decode cX2_put 88 = .ok (.iload_n 1, 1) := by decide +kernel
theorem dX2_put_89 : decode cX2_put 89 = .ok (.aload_n 2, 1) := by decide +kernel
theorem dX2_put_90 : decode cX2_put 90 = .ok (.getfield 26, 3) := by decide +kernel
theorem dX2_put_93 : decode cX2_put 93 = .ok (.if_icmp .le 12, 3) := by decide +kernel
theorem dX2_put_96 : decode cX2_put 96 = .ok (.aload_n 2, 1) := by decide +kernel
theorem dX2_put_97 : decode cX2_put 97 = .ok (.aload 4, 2) := by decide +kernel
theorem dX2_put_99 : decode cX2_put 99 = .ok (.putfield 32, 3) := by decide +kernel
theorem dX2_put_102 : decode cX2_put 102 = .ok (.goto 9, 3) := by decide +kernel
theorem dX2_put_105 : decode cX2_put 105 = .ok (.aload_n 2, 1) := by decide +kernel
theorem dX2_put_106 : decode cX2_put 106 = .ok (.aload 4, 2) := by decide +kernel
theorem dX2_put_108 : decode cX2_put 108 = .ok (.putfield 35, 3) := by decide +kernel
theorem dX2_put_111 : decode cX2_put 111 = .ok (.return_, 1) := by decide +kernel
theorem dX2_freshNode_0 : decode cX2_freshNode 0 = .ok (.aload_n 0, 1) := by decide +kernel
theorem dX2_freshNode_1 : decode cX2_freshNode 1 = .ok (.getfield 22, 3) := by decide +kernel
theorem dX2_freshNode_4 : decode cX2_freshNode 4 = .ok (.ifCond .lt 27, 3) := by decide +kernel
theorem dX2_freshNode_7 : decode cX2_freshNode 7 = .ok (.aload_n 0, 1) := by decide +kernel
theorem dX2_freshNode_8 : decode cX2_freshNode 8 = .ok (.getfield 22, 3) := by decide +kernel
theorem dX2_freshNode_11 : decode cX2_freshNode 11 = .ok (.aload_n 0, 1) := by decide +kernel
theorem dX2_freshNode_12 : decode cX2_freshNode 12 = .ok (.getfield 11, 3) := by decide +kernel
theorem dX2_freshNode_15 : decode cX2_freshNode 15 = .ok (.arraylength, 1) := by decide +kernel
theorem dX2_freshNode_16 : decode cX2_freshNode 16 = .ok (.if_icmp .ge 15, 3) := by decide +kernel
theorem dX2_freshNode_19 : decode cX2_freshNode 19 = .ok (.aload_n 0, 1) := by decide +kernel
theorem dX2_freshNode_20 : decode cX2_freshNode 20 = .ok (.getfield 11, 3) := by decide +kernel
theorem dX2_freshNode_23 : decode cX2_freshNode 23 = .ok (.aload_n 0, 1) := by decide +kernel
theorem dX2_freshNode_24 : decode cX2_freshNode 24 = .ok (.getfield 22, 3) := by decide +kernel
theorem dX2_freshNode_27 : decode cX2_freshNode 27 = .ok (.aaload, 1) := by decide +kernel
theorem dX2_freshNode_28 : decode cX2_freshNode 28 = .ok (.goto 4, 3) := by decide +kernel
theorem dX2_freshNode_31 : decode cX2_freshNode 31 = .ok (.aconst_null, 1) := by decide +kernel
theorem dX2_freshNode_32 : decode cX2_freshNode 32 = .ok (.astore_n 2, 1) := by decide +kernel
theorem dX2_freshNode_33 : decode cX2_freshNode 33 = .ok (.aload_n 2, 1) := by decide +kernel
theorem dX2_freshNode_34 : decode cX2_freshNode 34 = .ok (.ifnull 33, 3) := by decide +kernel
theorem dX2_freshNode_37 : decode cX2_freshNode 37 = .ok (.aload_n 0, 1) := by decide +kernel
theorem dX2_freshNode_38 : decode cX2_freshNode 38 = .ok (.dup, 1) := by decide +kernel
theorem dX2_freshNode_39 : decode cX2_freshNode 39 = .ok (.getfield 22, 3) := by decide +kernel
theorem dX2_freshNode_42 : decode cX2_freshNode 42 = .ok (.iconst 1, 1) := by decide +kernel
theorem dX2_freshNode_43 : decode cX2_freshNode 43 = .ok (.iadd, 1) := by decide +kernel
theorem dX2_freshNode_44 : decode cX2_freshNode 44 = .ok (.putfield 22, 3) := by decide +kernel
theorem dX2_freshNode_47 : decode cX2_freshNode 47 = .ok (.aload_n 2, 1) := by decide +kernel
theorem dX2_freshNode_48 : decode cX2_freshNode 48 = .ok (.iload_n 1, 1) := by decide +kernel
theorem dX2_freshNode_49 : decode cX2_freshNode 49 = .ok (.putfield 26, 3) := by decide +kernel
theorem dX2_freshNode_52 : decode cX2_freshNode 52 = .ok (.aload_n 2, 1) := by decide +kernel
theorem dX2_freshNode_53 : decode cX2_freshNode 53 = .ok (.iconst 1, 1) := by decide +kernel
theorem dX2_freshNode_54 : decode cX2_freshNode 54 = .ok (.putfield 29, 3) := by decide +kernel
theorem dX2_freshNode_57 : decode cX2_freshNode 57 = .ok (.aload_n 2, 1) := by decide +kernel
theorem dX2_freshNode_58 : decode cX2_freshNode 58 = .ok (.aconst_null, 1) := by decide +kernel
theorem dX2_freshNode_59 : decode cX2_freshNode 59 = .ok (.putfield 35, 3) := by decide +kernel
theorem dX2_freshNode_62 : decode cX2_freshNode 62 = .ok (.aload_n 2, 1) := by decide +kernel
theorem dX2_freshNode_63 : decode cX2_freshNode 63 = .ok (.aconst_null, 1) := by decide +kernel
theorem dX2_freshNode_64 : decode cX2_freshNode 64 = .ok (.putfield 32, 3) := by decide +kernel
theorem dX2_freshNode_67 : decode cX2_freshNode 67 = .ok (.aload_n 2, 1) := by decide +kernel
theorem dX2_freshNode_68 : decode cX2_freshNode 68 = .ok (.areturn, 1) := by decide +kernel
theorem dX2_higherThan_0 : decode cX2_higherThan 0 = .ok (.iconst 0, 1) := by decide +kernel
theorem dX2_higherThan_1 : decode cX2_higherThan 1 = .ok (.istore_n 2, 1) := by decide +kernel
theorem dX2_higherThan_2 : decode cX2_higherThan 2 = .ok (.aload_n 0, 1) := by decide +kernel
theorem dX2_higherThan_3 : decode cX2_higherThan 3 = .ok (.getfield 18, 3) := by decide +kernel
theorem dX2_higherThan_6 : decode cX2_higherThan 6 = .ok (.astore_n 3, 1) := by decide +kernel
theorem dX2_higherThan_7 : decode cX2_higherThan 7 = .ok (.iconst 0, 1) := by decide +kernel
theorem dX2_higherThan_8 : decode cX2_higherThan 8 = .ok (.istore 4, 2) := by decide +kernel
theorem dX2_higherThan_10 : decode cX2_higherThan 10 = .ok (.iload 4, 2) := by decide +kernel
theorem dX2_higherThan_12 : decode cX2_higherThan 12 = .ok (.bipush 12, 2) := by decide +kernel
theorem dX2_higherThan_14 : decode cX2_higherThan 14 = .ok (.if_icmp .ge 50, 3) := by decide +kernel
theorem dX2_higherThan_17 : decode cX2_higherThan 17 = .ok (.aload_n 3, 1) := by decide +kernel
theorem dX2_higherThan_18 : decode cX2_higherThan 18 = .ok (.ifnull 46, 3) := by decide +kernel
theorem dX2_higherThan_21 : decode cX2_higherThan 21 = .ok (.aload_n 3, 1) := by decide +kernel
theorem dX2_higherThan_22 : decode cX2_higherThan 22 = .ok (.getfield 26, 3) := by decide +kernel
theorem dX2_higherThan_25 : decode cX2_higherThan 25 = .ok (.iload_n 1, 1) := by decide +kernel
theorem dX2_higherThan_26 : decode cX2_higherThan 26 = .ok (.if_icmp .le 27, 3) := by decide +kernel
theorem dX2_higherThan_29 : decode cX2_higherThan 29 = .ok (.iload_n 2, 1) := by decide +kernel
theorem dX2_higherThan_30 : decode cX2_higherThan 30 = .ok (.aload_n 3, 1) := by decide +kernel
theorem dX2_higherThan_31 : decode cX2_higherThan 31 = .ok (.getfield 29, 3) := by decide +kernel
theorem dX2_higherThan_34 : decode cX2_higherThan 34 = .ok (.aload_n 3, 1) := by decide +kernel
theorem dX2_higherThan_35 : decode cX2_higherThan 35 = .ok (.getfield 32, 3) := by decide +kernel
theorem dX2_higherThan_38 : decode cX2_higherThan 38 = .ok (.iconst 1, 1) := by decide +kernel
theorem dX2_higherThan_39 : decode cX2_higherThan 39 = .ok (.invokestatic 42, 3) := by decide +kernel
theorem dX2_higherThan_42 : decode cX2_higherThan 42 = .ok (.iadd, 1) := by decide +kernel
theorem dX2_higherThan_43 : decode cX2_higherThan 43 = .ok (.iadd, 1) := by decide +kernel
theorem dX2_higherThan_44 : decode cX2_higherThan 44 = .ok (.istore_n 2, 1) := by decide +kernel
theorem dX2_higherThan_45 : decode cX2_higherThan 45 = .ok (.aload_n 3, 1) := by decide +kernel
theorem dX2_higherThan_46 : decode cX2_higherThan 46 = .ok (.getfield 35, 3) := by decide +kernel
theorem dX2_higherThan_49 : decode cX2_higherThan 49 = .ok (.astore_n 3, 1) := by decide +kernel
theorem dX2_higherThan_50 : decode cX2_higherThan 50 = .ok (.goto 8, 3) := by decide +kernel
theorem dX2_higherThan_53 : decode cX2_higherThan 53 = .ok (.aload_n 3, 1) := by decide +kernel
theorem dX2_higherThan_54 : decode cX2_higherThan 54 = .ok (.getfield 32, 3) := by decide +kernel
theorem dX2_higherThan_57 : decode cX2_higherThan 57 = .ok (.astore_n 3, 1) := by decide +kernel
theorem dX2_higherThan_58 : decode cX2_higherThan 58 = .ok (.iinc 4 1, 3) := by decide +kernel
theorem dX2_higherThan_61 : decode cX2_higherThan 61 = .ok (.goto (-51), 3) := by decide +kernel
theorem dX2_higherThan_64 : decode cX2_higherThan 64 = .ok (.iload_n 2, 1) := by decide +kernel
theorem dX2_higherThan_65 : decode cX2_higherThan 65 = .ok (.ireturn, 1) := by decide +kernel
theorem dX2_allBelow_0 : decode cX2_allBelow 0 = .ok (.aload_n 0, 1) := by decide +kernel
theorem dX2_allBelow_1 : decode cX2_allBelow 1 = .ok (.ifnull 9, 3) := by decide +kernel
theorem dX2_allBelow_4 : decode cX2_allBelow 4 = .ok (.iload_n 1, 1) := by decide +kernel
theorem dX2_allBelow_5 : decode cX2_allBelow 5 = .ok (.bipush 12, 2) := by decide +kernel
theorem dX2_allBelow_7 : decode cX2_allBelow 7 = .ok (.if_icmp .le 5, 3) := by decide +kernel
theorem dX2_allBelow_10 : decode cX2_allBelow 10 = .ok (.iconst 0, 1) := by decide +kernel
theorem dX2_allBelow_11 : decode cX2_allBelow 11 = .ok (.ireturn, 1) := by decide +kernel
theorem dX2_allBelow_12 : decode cX2_allBelow 12 = .ok (.aload_n 0, 1) := by decide +kernel
theorem dX2_allBelow_13 : decode cX2_allBelow 13 = .ok (.getfield 29, 3) := by decide +kernel
theorem dX2_allBelow_16 : decode cX2_allBelow 16 = .ok (.aload_n 0, 1) := by decide +kernel
theorem dX2_allBelow_17 : decode cX2_allBelow 17 = .ok (.getfield 35, 3) := by decide +kernel
theorem dX2_allBelow_20 : decode cX2_allBelow 20 = .ok (.iload_n 1, 1) := by decide +kernel
theorem dX2_allBelow_21 : decode cX2_allBelow 21 = .ok (.iconst 1, 1) := by decide +kernel
theorem dX2_allBelow_22 : decode cX2_allBelow 22 = .ok (.iadd, 1) := by decide +kernel
theorem dX2_allBelow_23 : decode cX2_allBelow 23 = .ok (.invokestatic 42, 3) := by decide +kernel
theorem dX2_allBelow_26 : decode cX2_allBelow 26 = .ok (.iadd, 1) := by decide +kernel
theorem dX2_allBelow_27 : decode cX2_allBelow 27 = .ok (.aload_n 0, 1) := by decide +kernel
theorem dX2_allBelow_28 : decode cX2_allBelow 28 = .ok (.getfield 32, 3) := by decide +kernel
theorem dX2_allBelow_31 : decode cX2_allBelow 31 = .ok (.iload_n 1, 1) := by decide +kernel
theorem dX2_allBelow_32 : decode cX2_allBelow 32 = .ok (.iconst 1, 1) := by decide +kernel
theorem dX2_allBelow_33 : decode cX2_allBelow 33 = .ok (.iadd, 1) := by decide +kernel
theorem dX2_allBelow_34 : decode cX2_allBelow 34 = .ok (.invokestatic 42, 3) := by decide +kernel
theorem dX2_allBelow_37 : decode cX2_allBelow 37 = .ok (.iadd, 1) := by decide +kernel
theorem dX2_allBelow_38 : decode cX2_allBelow 38 = .ok (.ireturn, 1) := by decide +kernel
theorem dX3_init_0 : decode cX3_init 0 = .ok (.aload_n 0, 1) := by decide +kernel
theorem dX3_init_1 : decode cX3_init 1 = .ok (.invokespecial 3, 3) := by decide +kernel
theorem dX3_init_4 : decode cX3_init 4 = .ok (.aload_n 0, 1) := by decide +kernel
theorem dX3_init_5 : decode cX3_init 5 = .ok (.bipush 6, 2) := by decide +kernel
theorem dX3_init_7 : decode cX3_init 7 = .ok (.anewarray 9, 3) := by decide +kernel
theorem dX3_init_10 : decode cX3_init 10 = .ok (.putfield 11, 3) := by decide +kernel
theorem dX3_init_13 : decode cX3_init 13 = .ok (.iconst 0, 1) := by decide +kernel
theorem dX3_init_14 : decode cX3_init 14 = .ok (.istore_n 1, 1) := by decide +kernel
theorem dX3_init_15 : decode cX3_init 15 = .ok (.iload_n 1, 1) := by decide +kernel
theorem dX3_init_16 : decode cX3_init 16 = .ok (.aload_n 0, 1) := by decide +kernel
theorem dX3_init_17 : decode cX3_init 17 = .ok (.getfield 11, 3) := by decide +kernel
theorem dX3_init_20 : decode cX3_init 20 = .ok (.arraylength, 1) := by decide +kernel
theorem dX3_init_21 : decode cX3_init 21 = .ok (.if_icmp .ge 22, 3) := by decide +kernel
theorem dX3_init_24 : decode cX3_init 24 = .ok (.aload_n 0, 1) := by decide +kernel
theorem dX3_init_25 : decode cX3_init 25 = .ok (.getfield 11, 3) := by decide +kernel
theorem dX3_init_28 : decode cX3_init 28 = .ok (.iload_n 1, 1) := by decide +kernel
theorem dX3_init_29 : decode cX3_init 29 = .ok (.new 9, 3) := by decide +kernel
theorem dX3_init_32 : decode cX3_init 32 = .ok (.dup, 1) := by decide +kernel
theorem dX3_init_33 : decode cX3_init 33 = .ok (.invokespecial 17, 3) := by decide +kernel
theorem dX3_init_36 : decode cX3_init 36 = .ok (.aastore, 1) := by decide +kernel
theorem dX3_init_37 : decode cX3_init 37 = .ok (.iinc 1 1, 3) := by decide +kernel
theorem dX3_init_40 : decode cX3_init 40 = .ok (.goto (-25), 3) := by decide +kernel
theorem dX3_init_43 : decode cX3_init 43 = .ok (.return_, 1) := by decide +kernel
theorem dX3_size_0 : decode cX3_size 0 = .ok (.aload_n 0, 1) := by decide +kernel
theorem dX3_size_1 : decode cX3_size 1 = .ok (.getfield 18, 3) := by decide +kernel
theorem dX3_size_4 : decode cX3_size 4 = .ok (.ireturn, 1) := by decide +kernel
theorem dX3_save_0 : decode cX3_save 0 = .ok (.aload_n 0, 1) := by decide +kernel
theorem dX3_save_1 : decode cX3_save 1 = .ok (.getfield 18, 3) := by decide +kernel
theorem dX3_save_4 : decode cX3_save 4 = .ok (.bipush 6, 2) := by decide +kernel
theorem dX3_save_6 : decode cX3_save 6 = .ok (.if_icmp .lt 26, 3) := by decide +kernel
theorem dX3_save_9 : decode cX3_save 9 = .ok (.aload_n 0, 1) := by decide +kernel
theorem dX3_save_10 : decode cX3_save 10 = .ok (.aload_n 0, 1) := by decide +kernel
theorem dX3_save_11 : decode cX3_save 11 = .ok (.getfield 22, 3) := by decide +kernel
theorem dX3_save_14 : decode cX3_save 14 = .ok (.iconst 1, 1) := by decide +kernel
theorem dX3_save_15 : decode cX3_save 15 = .ok (.iadd, 1) := by decide +kernel
theorem dX3_save_16 : decode cX3_save 16 = .ok (.bipush 6, 2) := by decide +kernel
theorem dX3_save_18 : decode cX3_save 18 = .ok (.irem, 1) := by decide +kernel
theorem dX3_save_19 : decode cX3_save 19 = .ok (.putfield 22, 3) := by decide +kernel
theorem dX3_save_22 : decode cX3_save 22 = .ok (.aload_n 0, 1) := by decide +kernel
theorem dX3_save_23 : decode cX3_save 23 = .ok (.dup, 1) := by decide +kernel
theorem dX3_save_24 : decode cX3_save 24 = .ok (.getfield 18, 3) := by decide +kernel
theorem dX3_save_27 : decode cX3_save 27 = .ok (.iconst 1, 1) := by decide +kernel
theorem dX3_save_28 : decode cX3_save 28 = .ok (.isub, 1) := by decide +kernel
theorem dX3_save_29 : decode cX3_save 29 = .ok (.putfield 18, 3) := by decide +kernel
theorem dX3_save_32 : decode cX3_save 32 = .ok (.aload_n 0, 1) := by decide +kernel
theorem dX3_save_33 : decode cX3_save 33 = .ok (.aload_n 0, 1) := by decide +kernel
theorem dX3_save_34 : decode cX3_save 34 = .ok (.getfield 18, 3) := by decide +kernel
theorem dX3_save_37 : decode cX3_save 37 = .ok (.invokevirtual 25, 3) := by decide +kernel
theorem dX3_save_40 : decode cX3_save 40 = .ok (.astore_n 2, 1) := by decide +kernel
theorem dX3_save_41 : decode cX3_save 41 = .ok (.aload_n 2, 1) := by decide +kernel
theorem dX3_save_42 : decode cX3_save 42 = .ok (.ifnull 18, 3) := by decide +kernel
theorem dX3_save_45 : decode cX3_save 45 = .ok (.aload_n 2, 1) := by decide +kernel
theorem dX3_save_46 : decode cX3_save 46 = .ok (.aload_n 1, 1) := by decide +kernel
theorem dX3_save_47 : decode cX3_save 47 = .ok (.invokevirtual 29, 3) := by decide +kernel
theorem dX3_save_50 : decode cX3_save 50 = .ok (.aload_n 0, 1) := by decide +kernel
theorem dX3_save_51 : decode cX3_save 51 = .ok (.dup, 1) := by decide +kernel
theorem dX3_save_52 : decode cX3_save 52 = .ok (.getfield 18, 3) := by decide +kernel
theorem dX3_save_55 : decode cX3_save 55 = .ok (.iconst 1, 1) := by decide +kernel
theorem dX3_save_56 : decode cX3_save 56 = .ok (.iadd, 1) := by decide +kernel
theorem dX3_save_57 : decode cX3_save 57 = .ok (.putfield 18, 3) := by decide +kernel
theorem dX3_save_60 : decode cX3_save 60 = .ok (.return_, 1) := by decide +kernel
theorem dX3_slotAt_0 : decode cX3_slotAt 0 = .ok (.aload_n 0, 1) := by decide +kernel
theorem dX3_slotAt_1 : decode cX3_slotAt 1 = .ok (.getfield 22, 3) := by decide +kernel
theorem dX3_slotAt_4 : decode cX3_slotAt 4 = .ok (.iload_n 1, 1) := by decide +kernel
theorem dX3_slotAt_5 : decode cX3_slotAt 5 = .ok (.iadd, 1) := by decide +kernel
theorem dX3_slotAt_6 : decode cX3_slotAt 6 = .ok (.bipush 6, 2) := by decide +kernel
theorem dX3_slotAt_8 : decode cX3_slotAt 8 = .ok (.invokestatic 33, 3) := by decide +kernel
theorem dX3_slotAt_11 : decode cX3_slotAt 11 = .ok (.istore_n 2, 1) := by decide +kernel
theorem dX3_slotAt_12 : decode cX3_slotAt 12 = .ok (.iload_n 2, 1) := by decide +kernel
theorem dX3_slotAt_13 : decode cX3_slotAt 13 = .ok (.ifCond .lt 21, 3) := by decide +kernel
theorem dX3_slotAt_16 : decode cX3_slotAt 16 = .ok (.iload_n 2, 1) := by decide +kernel
theorem dX3_slotAt_17 : decode cX3_slotAt 17 = .ok (.aload_n 0, 1) := by decide +kernel
theorem dX3_slotAt_18 : decode cX3_slotAt 18 = .ok (.getfield 11, 3) := by decide +kernel
theorem dX3_slotAt_21 : decode cX3_slotAt 21 = .ok (.arraylength, 1) := by decide +kernel
theorem dX3_slotAt_22 : decode cX3_slotAt 22 = .ok (.if_icmp .ge 12, 3) := by decide +kernel
theorem dX3_slotAt_25 : decode cX3_slotAt 25 = .ok (.aload_n 0, 1) := by decide +kernel
theorem dX3_slotAt_26 : decode cX3_slotAt 26 = .ok (.getfield 11, 3) := by decide +kernel
theorem dX3_slotAt_29 : decode cX3_slotAt 29 = .ok (.iload_n 2, 1) := by decide +kernel
theorem dX3_slotAt_30 : decode cX3_slotAt 30 = .ok (.aaload, 1) := by decide +kernel
theorem dX3_slotAt_31 : decode cX3_slotAt 31 = .ok (.goto 4, 3) := by decide +kernel
theorem dX3_slotAt_34 : decode cX3_slotAt 34 = .ok (.aconst_null, 1) := by decide +kernel
theorem dX3_slotAt_35 : decode cX3_slotAt 35 = .ok (.areturn, 1) := by decide +kernel
theorem dX4_init_0 : decode cX4_init 0 = .ok (.aload_n 0, 1) := by decide +kernel
theorem dX4_init_1 : decode cX4_init 1 = .ok (.invokespecial 1, 3) := by decide +kernel
theorem dX4_init_4 : decode cX4_init 4 = .ok (.return_, 1) := by decide +kernel
theorem dX5_init_0 : decode cX5_init 0 = .ok (.aload_n 0, 1) := by decide +kernel
theorem dX5_init_1 : decode cX5_init 1 = .ok (.invokespecial 3, 3) := by decide +kernel
theorem dX5_init_4 : decode cX5_init 4 = .ok (.aload_n 0, 1) := by decide +kernel
theorem dX5_init_5 : decode cX5_init 5 = .ok (.bipush 6, 2) := by decide +kernel
theorem dX5_init_7 : decode cX5_init 7 = .ok (.newarray .int, 2) := by decide +kernel
theorem dX5_init_9 : decode cX5_init 9 = .ok (.putfield 9, 3) := by decide +kernel
theorem dX5_init_12 : decode cX5_init 12 = .ok (.aload_n 0, 1) := by decide +kernel
theorem dX5_init_13 : decode cX5_init 13 = .ok (.bipush 6, 2) := by decide +kernel
theorem dX5_init_15 : decode cX5_init 15 = .ok (.newarray .int, 2) := by decide +kernel
theorem dX5_init_17 : decode cX5_init 17 = .ok (.putfield 15, 3) := by decide +kernel
theorem dX5_init_20 : decode cX5_init 20 = .ok (.aload_n 0, 1) := by decide +kernel
theorem dX5_init_21 : decode cX5_init 21 = .ok (.bipush 6, 2) := by decide +kernel
theorem dX5_init_23 : decode cX5_init 23 = .ok (.newarray .int, 2) := by decide +kernel
theorem dX5_init_25 : decode cX5_init 25 = .ok (.putfield 18, 3) := by decide +kernel
theorem dX5_init_28 : decode cX5_init 28 = .ok (.return_, 1) := by decide +kernel
theorem dX5_goThrough_0 : decode cX5_goThrough 0 = .ok (.aload_n 0, 1) := by decide +kernel
theorem dX5_goThrough_1 : decode cX5_goThrough 1 = .ok (.aload_n 1, 1) := by decide +kernel
theorem dX5_goThrough_2 : decode cX5_goThrough 2 = .ok (.iload_n 2, 1) := by decide +kernel
theorem dX5_goThrough_3 : decode cX5_goThrough 3 = .ok (.invokevirtual 21, 3) := by decide +kernel
theorem dX5_goThrough_6 : decode cX5_goThrough 6 = .ok (.bipush 6, 2) := by decide +kernel
theorem dX5_goThrough_8 : decode cX5_goThrough 8 = .ok (.invokestatic 27, 3) := by decide +kernel
theorem dX5_goThrough_11 : decode cX5_goThrough 11 = .ok (.putfield 33, 3) := by decide +kernel
theorem dX5_goThrough_14 : decode cX5_goThrough 14 = .ok (.aload_n 0, 1) := by decide +kernel
theorem dX5_goThrough_15 : decode cX5_goThrough 15 = .ok (.aload_n 1, 1) := by decide +kernel
theorem dX5_goThrough_16 : decode cX5_goThrough 16 = .ok (.iconst 0, 1) := by decide +kernel
theorem dX5_goThrough_17 : decode cX5_goThrough 17 = .ok (.invokevirtual 37, 3) := by decide +kernel
theorem dX5_goThrough_20 : decode cX5_goThrough 20 = .ok (.putfield 40, 3) := by decide +kernel
theorem dX5_goThrough_23 : decode cX5_goThrough 23 = .ok (.iconst 0, 1) := by decide +kernel
theorem dX5_goThrough_24 : decode cX5_goThrough 24 = .ok (.istore_n 3, 1) := by decide +kernel
theorem dX5_goThrough_25 : decode cX5_goThrough 25 = .ok (.iload_n 3, 1) := by decide +kernel
theorem dX5_goThrough_26 : decode cX5_goThrough 26 = .ok (.aload_n 0, 1) := by decide +kernel
theorem dX5_goThrough_27 : decode cX5_goThrough 27 = .ok (.getfield 33, 3) := by decide +kernel
theorem dX5_goThrough_30 : decode cX5_goThrough 30 = .ok (.if_icmp .ge 16, 3) := by decide +kernel
theorem dX5_goThrough_33 : decode cX5_goThrough 33 = .ok (.aload_n 0, 1) := by decide +kernel
theorem dX5_goThrough_34 : decode cX5_goThrough 34 = .ok (.aload_n 1, 1) := by decide +kernel
theorem dX5_goThrough_35 : decode cX5_goThrough 35 = .ok (.iload_n 2, 1) := by decide +kernel
theorem dX5_goThrough_36 : decode cX5_goThrough 36 = .ok (.iload_n 3, 1) := by decide +kernel
theorem dX5_goThrough_37 : decode cX5_goThrough 37 = .ok (.invokevirtual 43, 3) := by decide +kernel
theorem dX5_goThrough_40 : decode cX5_goThrough 40 = .ok (.iinc 3 1, 3) := by decide +kernel
theorem dX5_goThrough_43 : decode cX5_goThrough 43 = .ok (.goto (-18), 3) := by decide +kernel
theorem dX5_goThrough_46 : decode cX5_goThrough 46 = .ok (.aload_n 0, 1) := by decide +kernel
theorem dX5_goThrough_47 : decode cX5_goThrough 47 = .ok (.iconst (-1), 1) := by decide +kernel
theorem dX5_goThrough_48 : decode cX5_goThrough 48 = .ok (.putfield 47, 3) := by decide +kernel
theorem dX5_goThrough_51 : decode cX5_goThrough 51 = .ok (.aload_n 0, 1) := by decide +kernel
theorem dX5_goThrough_52 : decode cX5_goThrough 52 = .ok (.iconst 0, 1) := by decide +kernel
theorem dX5_goThrough_53 : decode cX5_goThrough 53 = .ok (.putfield 50, 3) := by decide +kernel
theorem dX5_goThrough_56 : decode cX5_goThrough 56 = .ok (.aload_n 0, 1) := by decide +kernel
theorem dX5_goThrough_57 : decode cX5_goThrough 57 = .ok (.iconst 0, 1) := by decide +kernel
theorem dX5_goThrough_58 : decode cX5_goThrough 58 = .ok (.iconst 0, 1) := by decide +kernel
theorem dX5_goThrough_59 : decode cX5_goThrough 59 = .ok (.iconst 0, 1) := by decide +kernel
theorem dX5_goThrough_60 : decode cX5_goThrough 60 = .ok (.iconst 0, 1) := by decide +kernel
theorem dX5_goThrough_61 : decode cX5_goThrough 61 = .ok (.invokevirtual 53, 3) := by decide +kernel
theorem dX5_goThrough_64 : decode cX5_goThrough 64 = .ok (.return_, 1) := by decide +kernel
theorem dX5_noteSinger_0 : decode cX5_noteSinger 0 = .ok (.aload_n 1, 1) := by decide +kernel
theorem dX5_noteSinger_1 : decode cX5_noteSinger 1 = .ok (.iload_n 2, 1) := by decide +kernel
theorem dX5_noteSinger_2 : decode cX5_noteSinger 2 = .ok (.iload_n 3, 1) := by decide +kernel
theorem dX5_noteSinger_3 : decode cX5_noteSinger 3 = .ok (.invokevirtual 57, 3) := by decide +kernel
theorem dX5_noteSinger_6 : decode cX5_noteSinger 6 = .ok (.istore 4, 2) := by decide +kernel
theorem dX5_noteSinger_8 : decode cX5_noteSinger 8 = .ok (.iconst 0, 1) := by decide +kernel
theorem dX5_noteSinger_9 : decode cX5_noteSinger 9 = .ok (.istore 5, 2) := by decide +kernel
theorem dX5_noteSinger_11 : decode cX5_noteSinger 11 = .ok (.iconst 0, 1) := by decide +kernel
theorem dX5_noteSinger_12 : decode cX5_noteSinger 12 = .ok (.istore 6, 2) := by decide +kernel
theorem dX5_noteSinger_14 : decode cX5_noteSinger 14 = .ok (.iconst 0, 1) := by decide +kernel
theorem dX5_noteSinger_15 : decode cX5_noteSinger 15 = .ok (.istore 7, 2) := by decide +kernel
theorem dX5_noteSinger_17 : decode cX5_noteSinger 17 = .ok (.iload 7, 2) := by decide +kernel
theorem dX5_noteSinger_19 : decode cX5_noteSinger 19 = .ok (.aload_n 0, 1) := by decide +kernel
theorem dX5_noteSinger_20 : decode cX5_noteSinger 20 = .ok (.getfield 33, 3) := by decide +kernel
theorem dX5_noteSinger_23 : decode cX5_noteSinger 23 = .ok (.if_icmp .ge 49, 3) := by decide +kernel
theorem dX5_noteSinger_26 : decode cX5_noteSinger 26 = .ok (.aload_n 1, 1) := by decide +kernel
theorem dX5_noteSinger_27 : decode cX5_noteSinger 27 = .ok (.iload_n 2, 1) := by decide +kernel
theorem dX5_noteSinger_28 : decode cX5_noteSinger 28 = .ok (.iload 7, 2) := by decide +kernel
theorem dX5_noteSinger_30 : decode cX5_noteSinger 30 = .ok (.invokevirtual 57, 3) := by decide +kernel
theorem dX5_noteSinger_33 : decode cX5_noteSinger 33 = .ok (.iload 4, 2) := by decide +kernel
theorem dX5_noteSinger_35 : decode cX5_noteSinger 35 = .ok (.if_icmp .le 12, 3) := by decide +kernel
theorem dX5_noteSinger_38 : decode cX5_noteSinger 38 = .ok (.iload 5, 2) := by decide +kernel
theorem dX5_noteSinger_40 : decode cX5_noteSinger 40 = .ok (.iconst 1, 1) := by decide +kernel
theorem dX5_noteSinger_41 : decode cX5_noteSinger 41 = .ok (.iload 7, 2) := by decide +kernel
theorem dX5_noteSinger_43 : decode cX5_noteSinger 43 = .ok (.ishl, 1) := by decide +kernel
theorem dX5_noteSinger_44 : decode cX5_noteSinger 44 = .ok (.ior, 1) := by decide +kernel
theorem dX5_noteSinger_45 : decode cX5_noteSinger 45 = .ok (.istore 5, 2) := by decide +kernel
theorem dX5_noteSinger_47 : decode cX5_noteSinger 47 = .ok (.iload 6, 2) := by decide +kernel
theorem dX5_noteSinger_49 : decode cX5_noteSinger 49 = .ok (.aload_n 1, 1) := by decide +kernel
theorem dX5_noteSinger_50 : decode cX5_noteSinger 50 = .ok (.iload_n 2, 1) := by decide +kernel
theorem dX5_noteSinger_51 : decode cX5_noteSinger 51 = .ok (.iload 7, 2) := by decide +kernel
theorem dX5_noteSinger_53 : decode cX5_noteSinger 53 = .ok (.iload 4, 2) := by decide +kernel
theorem dX5_noteSinger_55 : decode cX5_noteSinger 55 = .ok (.invokevirtual 60, 3) := by decide +kernel
theorem dX5_noteSinger_58 : decode cX5_noteSinger 58 = .ok (.iconst 1, 1) := by decide +kernel
theorem dX5_noteSinger_59 : decode cX5_noteSinger 59 = .ok (.iand, 1) := by decide +kernel
theorem dX5_noteSinger_60 : decode cX5_noteSinger 60 = .ok (.iload 7, 2) := by decide +kernel
theorem dX5_noteSinger_62 : decode cX5_noteSinger 62 = .ok (.ishl, 1) := by decide +kernel
theorem dX5_noteSinger_63 : decode cX5_noteSinger 63 = .ok (.ior, 1) := by decide +kernel
theorem dX5_noteSinger_64 : decode cX5_noteSinger 64 = .ok (.istore 6, 2) := by decide +kernel
theorem dX5_noteSinger_66 : decode cX5_noteSinger 66 = .ok (.iinc 7 1, 3) := by decide +kernel
theorem dX5_noteSinger_69 : decode cX5_noteSinger 69 = .ok (.goto (-52), 3) := by decide +kernel
theorem dX5_noteSinger_72 : decode cX5_noteSinger 72 = .ok (.aload_n 0, 1) := by decide +kernel
theorem dX5_noteSinger_73 : decode cX5_noteSinger 73 = .ok (.getfield 9, 3) := by decide +kernel
theorem dX5_noteSinger_76 : decode cX5_noteSinger 76 = .ok (.iload_n 3, 1) := by decide +kernel
theorem dX5_noteSinger_77 : decode cX5_noteSinger 77 = .ok (.iload 5, 2) := by decide +kernel
theorem dX5_noteSinger_79 : decode cX5_noteSinger 79 = .ok (.invokestatic 64, 3) := by decide +kernel
theorem dX5_noteSinger_82 : decode cX5_noteSinger 82 = .ok (.aload_n 0, 1) := by decide +kernel
theorem dX5_noteSinger_83 : decode cX5_noteSinger 83 = .ok (.getfield 15, 3) := by decide +kernel
theorem dX5_noteSinger_86 : decode cX5_noteSinger 86 = .ok (.iload_n 3, 1) := by decide +kernel
theorem dX5_noteSinger_87 : decode cX5_noteSinger 87 = .ok (.iload 6, 2) := by decide +kernel
theorem dX5_noteSinger_89 : decode cX5_noteSinger 89 = .ok (.invokestatic 64, 3) := by decide +kernel
theorem dX5_noteSinger_92 : decode cX5_noteSinger 92 = .ok (.return_, 1) := by decide +kernel
theorem dX5_choose_0 : decode cX5_choose 0 = .ok (.aload_n 0, 1) := by decide +kernel
theorem dX5_choose_1 : decode cX5_choose 1 = .ok (.iload_n 3, 1) := by decide +kernel
theorem dX5_choose_2 : decode cX5_choose 2 = .ok (.aload_n 0, 1) := by decide +kernel
theorem dX5_choose_3 : decode cX5_choose 3 = .ok (.getfield 33, 3) := by decide +kernel
theorem dX5_choose_6 : decode cX5_choose 6 = .ok (.iadd, 1) := by decide +kernel
theorem dX5_choose_7 : decode cX5_choose 7 = .ok (.iload_n 1, 1) := by decide +kernel
theorem dX5_choose_8 : decode cX5_choose 8 = .ok (.isub, 1) := by decide +kernel
theorem dX5_choose_9 : decode cX5_choose 9 = .ok (.iload 4, 2) := by decide +kernel
theorem dX5_choose_11 : decode cX5_choose 11 = .ok (.invokevirtual 68, 3) := by decide +kernel
theorem dX5_choose_14 : decode cX5_choose 14 = .ok (.ifCond .eq 4, 3) := by decide +kernel
theorem dX5_choose_17 : decode cX5_choose 17 = .ok (.return_, 1) := by decide +kernel
theorem dX5_choose_18 : decode cX5_choose 18 = .ok (.iload_n 1, 1) := by decide +kernel
theorem dX5_choose_19 : decode cX5_choose 19 = .ok (.aload_n 0, 1) := by decide +kernel
theorem dX5_choose_20 : decode cX5_choose 20 = .ok (.getfield 33, 3) := by decide +kernel
theorem dX5_choose_23 : decode cX5_choose 23 = .ok (.if_icmp .lt 15, 3) := by decide +kernel
theorem dX5_choose_26 : decode cX5_choose 26 = .ok (.aload_n 0, 1) := by decide +kernel
theorem dX5_choose_27 : decode cX5_choose 27 = .ok (.iload_n 3, 1) := by decide +kernel
theorem dX5_choose_28 : decode cX5_choose 28 = .ok (.putfield 47, 3) := by decide +kernel
theorem dX5_choose_31 : decode cX5_choose 31 = .ok (.aload_n 0, 1) := by decide +kernel
theorem dX5_choose_32 : decode cX5_choose 32 = .ok (.iload 4, 2) := by decide +kernel
theorem dX5_choose_34 : decode cX5_choose 34 = .ok (.putfield 50, 3) := by decide +kernel
theorem dX5_choose_37 : decode cX5_choose 37 = .ok (.return_, 1) := by decide +kernel
theorem dX5_choose_38 : decode cX5_choose 38 = .ok (.aload_n 0, 1) := by decide +kernel
theorem dX5_choose_39 : decode cX5_choose 39 = .ok (.iload_n 1, 1) := by decide +kernel
theorem dX5_choose_40 : decode cX5_choose 40 = .ok (.iload_n 2, 1) := by decide +kernel
theorem dX5_choose_41 : decode cX5_choose 41 = .ok (.invokevirtual 72, 3) := by decide +kernel
theorem dX5_choose_44 : decode cX5_choose 44 = .ok (.istore 5, 2) := by decide +kernel
theorem dX5_choose_46 : decode cX5_choose 46 = .ok (.iconst 0, 1) := by decide +kernel
theorem dX5_choose_47 : decode cX5_choose 47 = .ok (.istore 6, 2) := by decide +kernel
theorem dX5_choose_49 : decode cX5_choose 49 = .ok (.iload 6, 2) := by decide +kernel
theorem dX5_choose_51 : decode cX5_choose 51 = .ok (.aload_n 0, 1) := by decide +kernel
theorem dX5_choose_52 : decode cX5_choose 52 = .ok (.getfield 33, 3) := by decide +kernel
theorem dX5_choose_55 : decode cX5_choose 55 = .ok (.if_icmp .ge 68, 3) := by decide +kernel
theorem dX5_choose_58 : decode cX5_choose 58 = .ok (.iconst 1, 1) := by decide +kernel
theorem dX5_choose_59 : decode cX5_choose 59 = .ok (.iload 6, 2) := by decide +kernel
theorem dX5_choose_61 : decode cX5_choose 61 = .ok (.ishl, 1) := by decide +kernel
theorem dX5_choose_62 : decode cX5_choose 62 = .ok (.istore 7, 2) := by decide +kernel
theorem dX5_choose_64 : decode cX5_choose 64 = .ok (.iload_n 2, 1) := by decide +kernel
theorem dX5_choose_65 : decode cX5_choose 65 = .ok (.iload 7, 2) := by decide +kernel
theorem dX5_choose_67 : decode cX5_choose 67 = .ok (.iand, 1) := by decide +kernel
theorem dX5_choose_68 : decode cX5_choose 68 = .ok (.ifCond .ne 49, 3) := by decide +kernel
theorem dX5_choose_71 : decode cX5_choose 71 = .ok (.aload_n 0, 1) := by decide +kernel
theorem dX5_choose_72 : decode cX5_choose 72 = .ok (.getfield 18, 3) := by decide +kernel
theorem dX5_choose_75 : decode cX5_choose 75 = .ok (.iload_n 1, 1) := by decide +kernel
theorem dX5_choose_76 : decode cX5_choose 76 = .ok (.iload 7, 2) := by decide +kernel
theorem dX5_choose_78 : decode cX5_choose 78 = .ok (.invokestatic 64, 3) := by decide +kernel
theorem dX5_choose_81 : decode cX5_choose 81 = .ok (.iload_n 2, 1) := by decide +kernel
theorem dX5_choose_82 : decode cX5_choose 82 = .ok (.iload 6, 2) := by decide +kernel
theorem dX5_choose_84 : decode cX5_choose 84 = .ok (.ishr, 1) := by decide +kernel
theorem dX5_choose_85 : decode cX5_choose 85 = .ok (.invokestatic 75, 3) := by decide +kernel
theorem dX5_choose_88 : decode cX5_choose 88 = .ok (.istore 8, 2) := by decide +kernel
theorem dX5_choose_90 : decode cX5_choose 90 = .ok (.aload_n 0, 1) := by decide +kernel
theorem dX5_choose_91 : decode cX5_choose 91 = .ok (.iload_n 1, 1) := by decide +kernel
theorem dX5_choose_92 : decode cX5_choose 92 = .ok (.iconst 1, 1) := by decide +kernel
theorem dX5_choose_93 : decode cX5_choose 93 = .ok (.iadd, 1) := by decide +kernel
theorem dX5_choose_94 : decode cX5_choose 94 = .ok (.iload_n 2, 1) := by decide +kernel
theorem dX5_choose_95 : decode cX5_choose 95 = .ok (.iload 7, 2) := by decide +kernel
theorem dX5_choose_97 : decode cX5_choose 97 = .ok (.ior, 1) := by decide +kernel
theorem dX5_choose_98 : decode cX5_choose 98 = .ok (.iload_n 3, 1) := by decide +kernel
theorem dX5_choose_99 : decode cX5_choose 99 = .ok (.aload_n 0, 1) := by decide +kernel
theorem dX5_choose_100 : decode cX5_choose 100 = .ok (.iload 6, 2) := by decide +kernel
theorem dX5_choose_102 : decode cX5_choose 102 = .ok (.iload_n 1, 1) := by decide +kernel
theorem dX5_choose_103 : decode cX5_choose 103 = .ok (.iload 5, 2) := by decide +kernel
theorem dX5_choose_105 : decode cX5_choose 105 = .ok (.invokevirtual 80, 3) := by decide +kernel
theorem dX5_choose_108 : decode cX5_choose 108 = .ok (.iadd, 1) := by decide +kernel
theorem dX5_choose_109 : decode cX5_choose 109 = .ok (.iload 4, 2) := by decide +kernel
theorem dX5_choose_111 : decode cX5_choose 111 = .ok (.iload 8, 2) := by decide +kernel
theorem dX5_choose_113 : decode cX5_choose 113 = .ok (.iadd, 1) := by decide +kernel
theorem dX5_choose_114 : decode cX5_choose 114 = .ok (.invokevirtual 53, 3) := by decide +kernel
theorem dX5_choose_117 : decode cX5_choose 117 = .ok (.iinc 6 1, 3) := by decide +kernel
theorem dX5_choose_120 : decode cX5_choose 120 = .ok (.goto (-71), 3) := by decide +kernel
theorem dX5_choose_123 : decode cX5_choose 123 = .ok (.return_, 1) := by decide +kernel
theorem dX5_cannotBeBetter_0 : decode cX5_cannotBeBetter 0 = .ok (.iload_n 1, 1) := by decide +kernel
theorem dX5_cannotBeBetter_1 : decode cX5_cannotBeBetter 1 = .ok (.aload_n 0, 1) := by decide +kernel
theorem dX5_cannotBeBetter_2 : decode cX5_cannotBeBetter 2 = .ok (.getfield 47, 3) := by decide +kernel
theorem dX5_cannotBeBetter_5 : decode cX5_cannotBeBetter 5 = .ok (.if_icmp .lt 19, 3) := by decide +kernel
theorem dX5_cannotBeBetter_8 : decode cX5_cannotBeBetter 8 = .ok (.iload_n 1, 1) := by decide +kernel
theorem dX5_cannotBeBetter_9 : decode cX5_cannotBeBetter 9 = .ok (.aload_n 0, 1) := by decide +kernel
theorem dX5_cannotBeBetter_10 : decode cX5_cannotBeBetter 10 = .ok (.getfield 47, 3) := by decide +kernel
theorem dX5_cannotBeBetter_13 : decode cX5_cannotBeBetter 13 = .ok (.if_icmp .ne 15, 3) := by decide +kernel
theorem dX5_cannotBeBetter_16 : decode cX5_cannotBeBetter 16 = .ok (.iload_n 2, 1) := by decide +kernel
theorem dX5_cannotBeBetter_17 : decode cX5_cannotBeBetter 17 = .ok (.aload_n 0, 1) := by decide +kernel
theorem dX5_cannotBeBetter_18 : decode cX5_cannotBeBetter 18 = .ok (.getfield 50, 3) := by decide +kernel
theorem dX5_cannotBeBetter_21 : decode cX5_cannotBeBetter 21 = .ok (.if_icmp .lt 7, 3) := by decide +kernel
theorem dX5_cannotBeBetter_24 : decode cX5_cannotBeBetter 24 = .ok (.iconst 1, 1) := by decide +kernel
theorem dX5_cannotBeBetter_25 : decode cX5_cannotBeBetter 25 = .ok (.goto 4, 3) := by decide +kernel
theorem dX5_cannotBeBetter_28 : decode cX5_cannotBeBetter 28 = .ok (.iconst 0, 1) := by decide +kernel
theorem dX5_cannotBeBetter_29 : decode cX5_cannotBeBetter 29 = .ok (.ireturn, 1) := by decide +kernel
theorem dX5_heardAt_0 : decode cX5_heardAt 0 = .ok (.iload_n 2, 1) := by decide +kernel
theorem dX5_heardAt_1 : decode cX5_heardAt 1 = .ok (.istore_n 3, 1) := by decide +kernel
theorem dX5_heardAt_2 : decode cX5_heardAt 2 = .ok (.iconst 0, 1) := by decide +kernel
theorem dX5_heardAt_3 : decode cX5_heardAt 3 = .ok (.istore 4, 2) := by decide +kernel
theorem dX5_heardAt_5 : decode cX5_heardAt 5 = .ok (.iload 4, 2) := by decide +kernel
theorem dX5_heardAt_7 : decode cX5_heardAt 7 = .ok (.iload_n 1, 1) := by decide +kernel
theorem dX5_heardAt_8 : decode cX5_heardAt 8 = .ok (.aload_n 0, 1) := by decide +kernel
theorem dX5_heardAt_9 : decode cX5_heardAt 9 = .ok (.getfield 40, 3) := by decide +kernel
theorem dX5_heardAt_12 : decode cX5_heardAt 12 = .ok (.isub, 1) := by decide +kernel
theorem dX5_heardAt_13 : decode cX5_heardAt 13 = .ok (.if_icmp .ge 23, 3) := by decide +kernel
theorem dX5_heardAt_16 : decode cX5_heardAt 16 = .ok (.iload_n 3, 1) := by decide +kernel
theorem dX5_heardAt_17 : decode cX5_heardAt 17 = .ok (.aload_n 0, 1) := by decide +kernel
theorem dX5_heardAt_18 : decode cX5_heardAt 18 = .ok (.getfield 18, 3) := by decide +kernel
theorem dX5_heardAt_21 : decode cX5_heardAt 21 = .ok (.iload 4, 2) := by decide +kernel
theorem dX5_heardAt_23 : decode cX5_heardAt 23 = .ok (.invokestatic 83, 3) := by decide +kernel
theorem dX5_heardAt_26 : decode cX5_heardAt 26 = .ok (.iconst (-1), 1) := by decide +kernel
theorem dX5_heardAt_27 : decode cX5_heardAt 27 = .ok (.ixor, 1) := by decide +kernel
theorem dX5_heardAt_28 : decode cX5_heardAt 28 = .ok (.iand, 1) := by decide +kernel
theorem dX5_heardAt_29 : decode cX5_heardAt 29 = .ok (.istore_n 3, 1) := by decide +kernel
theorem dX5_heardAt_30 : decode cX5_heardAt 30 = .ok (.iinc 4 1, 3) := by decide +kernel
theorem dX5_heardAt_33 : decode cX5_heardAt 33 = .ok (.goto (-28), 3) := by decide +kernel
theorem dX5_heardAt_36 : decode cX5_heardAt 36 = .ok (.iload_n 3, 1) := by decide +kernel
theorem dX5_heardAt_37 : decode cX5_heardAt 37 = .ok (.ireturn, 1) := by decide +kernel
theorem dX5_parityOf_0 : decode cX5_parityOf 0 = .ok (.aload_n 0, 1) := by decide +kernel
theorem dX5_parityOf_1 : decode cX5_parityOf 1 = .ok (.getfield 9, 3) := by decide +kernel
theorem dX5_parityOf_4 : decode cX5_parityOf 4 = .ok (.iload_n 1, 1) := by decide +kernel
theorem dX5_parityOf_5 : decode cX5_parityOf 5 = .ok (.invokestatic 83, 3) := by decide +kernel
theorem dX5_parityOf_8 : decode cX5_parityOf 8 = .ok (.iload_n 3, 1) := by decide +kernel
theorem dX5_parityOf_9 : decode cX5_parityOf 9 = .ok (.iand, 1) := by decide +kernel
theorem dX5_parityOf_10 : decode cX5_parityOf 10 = .ok (.invokestatic 75, 3) := by decide +kernel
theorem dX5_parityOf_13 : decode cX5_parityOf 13 = .ok (.istore 4, 2) := by decide +kernel
theorem dX5_parityOf_15 : decode cX5_parityOf 15 = .ok (.iload 4, 2) := by decide +kernel
theorem dX5_parityOf_17 : decode cX5_parityOf 17 = .ok (.aload_n 0, 1) := by decide +kernel
theorem dX5_parityOf_18 : decode cX5_parityOf 18 = .ok (.getfield 15, 3) := by decide +kernel
theorem dX5_parityOf_21 : decode cX5_parityOf 21 = .ok (.iload_n 1, 1) := by decide +kernel
theorem dX5_parityOf_22 : decode cX5_parityOf 22 = .ok (.invokestatic 83, 3) := by decide +kernel
theorem dX5_parityOf_25 : decode cX5_parityOf 25 = .ok (.iload_n 2, 1) := by decide +kernel
theorem dX5_parityOf_26 : decode cX5_parityOf 26 = .ok (.ishr, 1) := by decide +kernel
theorem dX5_parityOf_27 : decode cX5_parityOf 27 = .ok (.iadd, 1) := by decide +kernel
theorem dX5_parityOf_28 : decode cX5_parityOf 28 = .ok (.iconst 1, 1) := by decide +kernel
theorem dX5_parityOf_29 : decode cX5_parityOf 29 = .ok (.iand, 1) := by decide +kernel
theorem dX5_parityOf_30 : decode cX5_parityOf 30 = .ok (.ireturn, 1) := by decide +kernel
theorem dX6_init_0 : decode cX6_init 0 = .ok (.aload_n 0, 1) := by decide +kernel
theorem dX6_init_1 : decode cX6_init 1 = .ok (.invokespecial 3, 3) := by decide +kernel
theorem dX6_init_4 : decode cX6_init 4 = .ok (.aload_n 0, 1) := by decide +kernel
theorem dX6_init_5 : decode cX6_init 5 = .ok (.new 9, 3) := by decide +kernel
theorem dX6_init_8 : decode cX6_init 8 = .ok (.dup, 1) := by decide +kernel
theorem dX6_init_9 : decode cX6_init 9 = .ok (.invokespecial 11, 3) := by decide +kernel
theorem dX6_init_12 : decode cX6_init 12 = .ok (.putfield 12, 3) := by decide +kernel
theorem dX6_init_15 : decode cX6_init 15 = .ok (.aload_n 0, 1) := by decide +kernel
theorem dX6_init_16 : decode cX6_init 16 = .ok (.new 9, 3) := by decide +kernel
theorem dX6_init_19 : decode cX6_init 19 = .ok (.dup, 1) := by decide +kernel
theorem dX6_init_20 : decode cX6_init 20 = .ok (.invokespecial 11, 3) := by decide +kernel
theorem dX6_init_23 : decode cX6_init 23 = .ok (.putfield 16, 3) := by decide +kernel
theorem dX6_init_26 : decode cX6_init 26 = .ok (.aload_n 0, 1) := by decide +kernel
theorem dX6_init_27 : decode cX6_init 27 = .ok (.new 9, 3) := by decide +kernel
theorem dX6_init_30 : decode cX6_init 30 = .ok (.dup, 1) := by decide +kernel
theorem dX6_init_31 : decode cX6_init 31 = .ok (.invokespecial 11, 3) := by decide +kernel
theorem dX6_init_34 : decode cX6_init 34 = .ok (.putfield 19, 3) := by decide +kernel
theorem dX6_init_37 : decode cX6_init 37 = .ok (.aload_n 0, 1) := by decide +kernel
theorem dX6_init_38 : decode cX6_init 38 = .ok (.iconst 0, 1) := by decide +kernel
theorem dX6_init_39 : decode cX6_init 39 = .ok (.putfield 22, 3) := by decide +kernel
theorem dX6_init_42 : decode cX6_init 42 = .ok (.aload_n 0, 1) := by decide +kernel
theorem dX6_init_43 : decode cX6_init 43 = .ok (.new 26, 3) := by decide +kernel
theorem dX6_init_46 : decode cX6_init 46 = .ok (.dup, 1) := by decide +kernel
theorem dX6_init_47 : decode cX6_init 47 = .ok (.invokespecial 28, 3) := by decide +kernel
theorem dX6_init_50 : decode cX6_init 50 = .ok (.putfield 29, 3) := by decide +kernel
theorem dX6_init_53 : decode cX6_init 53 = .ok (.aload_n 0, 1) := by decide +kernel
theorem dX6_init_54 : decode cX6_init 54 = .ok (.new 33, 3) := by decide +kernel
theorem dX6_init_57 : decode cX6_init 57 = .ok (.dup, 1) := by decide +kernel
theorem dX6_init_58 : decode cX6_init 58 = .ok (.invokespecial 35, 3) := by decide +kernel
theorem dX6_init_61 : decode cX6_init 61 = .ok (.putfield 36, 3) := by decide +kernel
theorem dX6_init_64 : decode cX6_init 64 = .ok (.aload_n 0, 1) := by decide +kernel
theorem dX6_init_65 : decode cX6_init 65 = .ok (.new 40, 3) := by decide +kernel
theorem dX6_init_68 : decode cX6_init 68 = .ok (.dup, 1) := by decide +kernel
theorem dX6_init_69 : decode cX6_init 69 = .ok (.invokespecial 42, 3) := by decide +kernel
theorem dX6_init_72 : decode cX6_init 72 = .ok (.putfield 43, 3) := by decide +kernel
theorem dX6_init_75 : decode cX6_init 75 = .ok (.aload_n 0, 1) := by decide +kernel
theorem dX6_init_76 : decode cX6_init 76 = .ok (.new 47, 3) := by decide +kernel
theorem dX6_init_79 : decode cX6_init 79 = .ok (.dup, 1) := by decide +kernel
theorem dX6_init_80 : decode cX6_init 80 = .ok (.invokespecial 49, 3) := by decide +kernel
theorem dX6_init_83 : decode cX6_init 83 = .ok (.putfield 50, 3) := by decide +kernel
theorem dX6_init_86 : decode cX6_init 86 = .ok (.return_, 1) := by decide +kernel
theorem dX6_join_0 : decode cX6_join 0 = .ok (.iload_n 1, 1) := by decide +kernel
theorem dX6_join_1 : decode cX6_join 1 = .ok (.invokestatic 54, 3) := by decide +kernel
theorem dX6_join_4 : decode cX6_join 4 = .ok (.iload_n 2, 1) := by decide +kernel
theorem dX6_join_5 : decode cX6_join 5 = .ok (.invokestatic 58, 3) := by decide +kernel
theorem dX6_join_8 : decode cX6_join 8 = .ok (.iload_n 3, 1) := by decide +kernel
theorem dX6_join_9 : decode cX6_join 9 = .ok (.iconst 0, 1) := by decide +kernel
theorem dX6_join_10 : decode cX6_join 10 = .ok (.iconst 3, 1) := by decide +kernel
theorem dX6_join_11 : decode cX6_join 11 = .ok (.invokestatic 61, 3) := by decide +kernel
theorem dX6_join_14 : decode cX6_join 14 = .ok (.invokestatic 65, 3) := by decide +kernel
theorem dX6_join_17 : decode cX6_join 17 = .ok (.aload_n 0, 1) := by decide +kernel
theorem dX6_join_18 : decode cX6_join 18 = .ok (.getfield 12, 3) := by decide +kernel
theorem dX6_join_21 : decode cX6_join 21 = .ok (.iload_n 1, 1) := by decide +kernel
theorem dX6_join_22 : decode cX6_join 22 = .ok (.invokevirtual 69, 3) := by decide +kernel
theorem dX6_join_25 : decode cX6_join 25 = .ok (.invokestatic 73, 3) := by decide +kernel
theorem dX6_join_28 : decode cX6_join 28 = .ok (.aload_n 0, 1) := by decide +kernel
theorem dX6_join_29 : decode cX6_join 29 = .ok (.getfield 29, 3) := by decide +kernel
theorem dX6_join_32 : decode cX6_join 32 = .ok (.aload_n 0, 1) := by decide +kernel
theorem dX6_join_33 : decode cX6_join 33 = .ok (.getfield 12, 3) := by decide +kernel
theorem dX6_join_36 : decode cX6_join 36 = .ok (.invokevirtual 76, 3) := by decide +kernel
theorem dX6_join_39 : decode cX6_join 39 = .ok (.aload_n 0, 1) := by decide +kernel
theorem dX6_join_40 : decode cX6_join 40 = .ok (.getfield 12, 3) := by decide +kernel
theorem dX6_join_43 : decode cX6_join 43 = .ok (.iload_n 1, 1) := by decide +kernel
theorem dX6_join_44 : decode cX6_join 44 = .ok (.iload_n 2, 1) := by decide +kernel
theorem dX6_join_45 : decode cX6_join 45 = .ok (.iload_n 3, 1) := by decide +kernel
theorem dX6_join_46 : decode cX6_join 46 = .ok (.invokevirtual 80, 3) := by decide +kernel
theorem dX6_join_49 : decode cX6_join 49 = .ok (.ireturn, 1) := by decide +kernel
theorem dX6_leave_0 : decode cX6_leave 0 = .ok (.aload_n 0, 1) := by decide +kernel
theorem dX6_leave_1 : decode cX6_leave 1 = .ok (.iload_n 1, 1) := by decide +kernel
theorem dX6_leave_2 : decode cX6_leave 2 = .ok (.iload_n 2, 1) := by decide +kernel
theorem dX6_leave_3 : decode cX6_leave 3 = .ok (.invokevirtual 84, 3) := by decide +kernel
theorem dX6_leave_6 : decode cX6_leave 6 = .ok (.aload_n 0, 1) := by decide +kernel
theorem dX6_leave_7 : decode cX6_leave 7 = .ok (.getfield 29, 3) := by decide +kernel
theorem dX6_leave_10 : decode cX6_leave 10 = .ok (.aload_n 0, 1) := by decide +kernel
theorem dX6_leave_11 : decode cX6_leave 11 = .ok (.getfield 12, 3) := by decide +kernel
theorem dX6_leave_14 : decode cX6_leave 14 = .ok (.invokevirtual 76, 3) := by decide +kernel
theorem dX6_leave_17 : decode cX6_leave 17 = .ok (.aload_n 0, 1) := by decide +kernel
theorem dX6_leave_18 : decode cX6_leave 18 = .ok (.getfield 12, 3) := by decide +kernel
theorem dX6_leave_21 : decode cX6_leave 21 = .ok (.iload_n 1, 1) := by decide +kernel
theorem dX6_leave_22 : decode cX6_leave 22 = .ok (.iload_n 2, 1) := by decide +kernel
theorem dX6_leave_23 : decode cX6_leave 23 = .ok (.invokevirtual 88, 3) := by decide +kernel
theorem dX6_leave_26 : decode cX6_leave 26 = .ok (.ireturn, 1) := by decide +kernel
theorem dX6_grow_0 : decode cX6_grow 0 = .ok (.aload_n 0, 1) := by decide +kernel
theorem dX6_grow_1 : decode cX6_grow 1 = .ok (.iload_n 1, 1) := by decide +kernel
theorem dX6_grow_2 : decode cX6_grow 2 = .ok (.iload_n 2, 1) := by decide +kernel
theorem dX6_grow_3 : decode cX6_grow 3 = .ok (.invokevirtual 84, 3) := by decide +kernel
theorem dX6_grow_6 : decode cX6_grow 6 = .ok (.iload_n 3, 1) := by decide +kernel
theorem dX6_grow_7 : decode cX6_grow 7 = .ok (.invokestatic 58, 3) := by decide +kernel
theorem dX6_grow_10 : decode cX6_grow 10 = .ok (.aload_n 0, 1) := by decide +kernel
theorem dX6_grow_11 : decode cX6_grow 11 = .ok (.getfield 29, 3) := by decide +kernel
theorem dX6_grow_14 : decode cX6_grow 14 = .ok (.aload_n 0, 1) := by decide +kernel
theorem dX6_grow_15 : decode cX6_grow 15 = .ok (.getfield 12, 3) := by decide +kernel
theorem dX6_grow_18 : decode cX6_grow 18 = .ok (.invokevirtual 76, 3) := by decide +kernel
theorem dX6_grow_21 : decode cX6_grow 21 = .ok (.aload_n 0, 1) := by decide +kernel
theorem dX6_grow_22 : decode cX6_grow 22 = .ok (.getfield 12, 3) := by decide +kernel
theorem dX6_grow_25 : decode cX6_grow 25 = .ok (.iload_n 1, 1) := by decide +kernel
theorem dX6_grow_26 : decode cX6_grow 26 = .ok (.iload_n 2, 1) := by decide +kernel
theorem dX6_grow_27 : decode cX6_grow 27 = .ok (.invokevirtual 92, 3) := by decide +kernel
theorem dX6_grow_30 : decode cX6_grow 30 = .ok (.istore 4, 2) := by decide +kernel
theorem dX6_grow_32 : decode cX6_grow 32 = .ok (.aload_n 0, 1) := by decide +kernel
theorem dX6_grow_33 : decode cX6_grow 33 = .ok (.getfield 12, 3) := by decide +kernel
theorem dX6_grow_36 : decode cX6_grow 36 = .ok (.iload_n 1, 1) := by decide +kernel
theorem dX6_grow_37 : decode cX6_grow 37 = .ok (.iload_n 2, 1) := by decide +kernel
theorem dX6_grow_38 : decode cX6_grow 38 = .ok (.iload_n 3, 1) := by decide +kernel
theorem dX6_grow_39 : decode cX6_grow 39 = .ok (.invokevirtual 95, 3) := by decide +kernel
theorem dX6_grow_42 : decode cX6_grow 42 = .ok (.iload 4, 2) := by decide +kernel
theorem dX6_grow_44 : decode cX6_grow 44 = .ok (.ireturn, 1) := by decide +kernel
theorem dX6_swap_0 : decode cX6_swap 0 = .ok (.aload_n 0, 1) := by decide +kernel
theorem dX6_swap_1 : decode cX6_swap 1 = .ok (.iload_n 1, 1) := by decide +kernel
theorem dX6_swap_2 : decode cX6_swap 2 = .ok (.iload_n 2, 1) := by decide +kernel
theorem dX6_swap_3 : decode cX6_swap 3 = .ok (.invokevirtual 84, 3) := by decide +kernel
theorem dX6_swap_6 : decode cX6_swap 6 = .ok (.aload_n 0, 1) := by decide +kernel
theorem dX6_swap_7 : decode cX6_swap 7 = .ok (.iload_n 3, 1) := by decide +kernel
theorem dX6_swap_8 : decode cX6_swap 8 = .ok (.iload 4, 2) := by decide +kernel
theorem dX6_swap_10 : decode cX6_swap 10 = .ok (.invokevirtual 84, 3) := by decide +kernel
theorem dX6_swap_13 : decode cX6_swap 13 = .ok (.aload_n 0, 1) := by decide +kernel
theorem dX6_swap_14 : decode cX6_swap 14 = .ok (.getfield 29, 3) := by decide +kernel
theorem dX6_swap_17 : decode cX6_swap 17 = .ok (.aload_n 0, 1) := by decide +kernel
theorem dX6_swap_18 : decode cX6_swap 18 = .ok (.getfield 12, 3) := by decide +kernel
theorem dX6_swap_21 : decode cX6_swap 21 = .ok (.invokevirtual 76, 3) := by decide +kernel
theorem dX6_swap_24 : decode cX6_swap 24 = .ok (.aload_n 0, 1) := by decide +kernel
theorem dX6_swap_25 : decode cX6_swap 25 = .ok (.getfield 12, 3) := by decide +kernel
theorem dX6_swap_28 : decode cX6_swap 28 = .ok (.iload_n 1, 1) := by decide +kernel
theorem dX6_swap_29 : decode cX6_swap 29 = .ok (.iload_n 2, 1) := by decide +kernel
theorem dX6_swap_30 : decode cX6_swap 30 = .ok (.iload_n 3, 1) := by decide +kernel
theorem dX6_swap_31 : decode cX6_swap 31 = .ok (.iload 4, 2) := by decide +kernel
theorem dX6_swap_33 : decode cX6_swap 33 = .ok (.invokevirtual 99, 3) := by decide +kernel
theorem dX6_swap_36 : decode cX6_swap 36 = .ok (.aload_n 0, 1) := by decide +kernel
theorem dX6_swap_37 : decode cX6_swap 37 = .ok (.getfield 12, 3) := by decide +kernel
theorem dX6_swap_40 : decode cX6_swap 40 = .ok (.invokevirtual 103, 3) := by decide +kernel
theorem dX6_swap_43 : decode cX6_swap 43 = .ok (.ireturn, 1) := by decide +kernel
theorem dX6_cross_0 : decode cX6_cross 0 = .ok (.aload_n 0, 1) := by decide +kernel
theorem dX6_cross_1 : decode cX6_cross 1 = .ok (.iload_n 1, 1) := by decide +kernel
theorem dX6_cross_2 : decode cX6_cross 2 = .ok (.iload_n 2, 1) := by decide +kernel
theorem dX6_cross_3 : decode cX6_cross 3 = .ok (.invokevirtual 84, 3) := by decide +kernel
theorem dX6_cross_6 : decode cX6_cross 6 = .ok (.iload_n 3, 1) := by decide +kernel
theorem dX6_cross_7 : decode cX6_cross 7 = .ok (.invokestatic 54, 3) := by decide +kernel
theorem dX6_cross_10 : decode cX6_cross 10 = .ok (.iload_n 1, 1) := by decide +kernel
theorem dX6_cross_11 : decode cX6_cross 11 = .ok (.iload_n 3, 1) := by decide +kernel
theorem dX6_cross_12 : decode cX6_cross 12 = .ok (.if_icmp .eq 20, 3) := by decide +kernel
theorem dX6_cross_15 : decode cX6_cross 15 = .ok (.aload_n 0, 1) := by decide +kernel
theorem dX6_cross_16 : decode cX6_cross 16 = .ok (.getfield 12, 3) := by decide +kernel
theorem dX6_cross_19 : decode cX6_cross 19 = .ok (.iload_n 3, 1) := by decide +kernel
theorem dX6_cross_20 : decode cX6_cross 20 = .ok (.invokevirtual 107, 3) := by decide +kernel
theorem dX6_cross_23 : decode cX6_cross 23 = .ok (.bipush 6, 2) := by decide +kernel
theorem dX6_cross_25 : decode cX6_cross 25 = .ok (.if_icmp .ge 7, 3) := by decide +kernel
theorem dX6_cross_28 : decode cX6_cross 28 = .ok (.iconst 1, 1) := by decide +kernel
theorem dX6_cross_29 : decode cX6_cross 29 = .ok (.goto 4, 3) := by decide +kernel
theorem dX6_cross_32 : decode cX6_cross 32 = .ok (.iconst 0, 1) := by decide +kernel
theorem dX6_cross_33 : decode cX6_cross 33 = .ok (.invokestatic 73, 3) := by decide +kernel
theorem dX6_cross_36 : decode cX6_cross 36 = .ok (.aload_n 0, 1) := by decide +kernel
theorem dX6_cross_37 : decode cX6_cross 37 = .ok (.getfield 29, 3) := by decide +kernel
theorem dX6_cross_40 : decode cX6_cross 40 = .ok (.aload_n 0, 1) := by decide +kernel
theorem dX6_cross_41 : decode cX6_cross 41 = .ok (.getfield 12, 3) := by decide +kernel
theorem dX6_cross_44 : decode cX6_cross 44 = .ok (.invokevirtual 76, 3) := by decide +kernel
theorem dX6_cross_47 : decode cX6_cross 47 = .ok (.aload_n 0, 1) := by decide +kernel
theorem dX6_cross_48 : decode cX6_cross 48 = .ok (.getfield 12, 3) := by decide +kernel
theorem dX6_cross_51 : decode cX6_cross 51 = .ok (.iload_n 1, 1) := by decide +kernel
theorem dX6_cross_52 : decode cX6_cross 52 = .ok (.iload_n 2, 1) := by decide +kernel
theorem dX6_cross_53 : decode cX6_cross 53 = .ok (.iload_n 3, 1) := by decide +kernel
theorem dX6_cross_54 : decode cX6_cross 54 = .ok (.invokevirtual 111, 3) := by decide +kernel
theorem dX6_cross_57 : decode cX6_cross 57 = .ok (.ireturn, 1) := by decide +kernel
theorem dX6_turn_0 : decode cX6_turn 0 = .ok (.iload_n 1, 1) := by decide +kernel
theorem dX6_turn_1 : decode cX6_turn 1 = .ok (.invokestatic 54, 3) := by decide +kernel
theorem dX6_turn_4 : decode cX6_turn 4 = .ok (.aload_n 0, 1) := by decide +kernel
theorem dX6_turn_5 : decode cX6_turn 5 = .ok (.getfield 29, 3) := by decide +kernel
theorem dX6_turn_8 : decode cX6_turn 8 = .ok (.aload_n 0, 1) := by decide +kernel
theorem dX6_turn_9 : decode cX6_turn 9 = .ok (.getfield 12, 3) := by decide +kernel
theorem dX6_turn_12 : decode cX6_turn 12 = .ok (.invokevirtual 76, 3) := by decide +kernel
theorem dX6_turn_15 : decode cX6_turn 15 = .ok (.aload_n 0, 1) := by decide +kernel
theorem dX6_turn_16 : decode cX6_turn 16 = .ok (.getfield 12, 3) := by decide +kernel
theorem dX6_turn_19 : decode cX6_turn 19 = .ok (.iload_n 1, 1) := by decide +kernel
theorem dX6_turn_20 : decode cX6_turn 20 = .ok (.invokevirtual 114, 3) := by decide +kernel
theorem dX6_turn_23 : decode cX6_turn 23 = .ok (.aload_n 0, 1) := by decide +kernel
theorem dX6_turn_24 : decode cX6_turn 24 = .ok (.getfield 12, 3) := by decide +kernel
theorem dX6_turn_27 : decode cX6_turn 27 = .ok (.invokevirtual 103, 3) := by decide +kernel
theorem dX6_turn_30 : decode cX6_turn 30 = .ok (.ireturn, 1) := by decide +kernel
theorem dX6_sort_0 : decode cX6_sort 0 = .ok (.iload_n 1, 1) := by decide +kernel
theorem dX6_sort_1 : decode cX6_sort 1 = .ok (.invokestatic 54, 3) := by decide +kernel
theorem dX6_sort_4 : decode cX6_sort 4 = .ok (.iload_n 2, 1) := by decide +kernel
theorem dX6_sort_5 : decode cX6_sort 5 = .ok (.iconst 0, 1) := by decide +kernel
theorem dX6_sort_6 : decode cX6_sort 6 = .ok (.iconst 2, 1) := by decide +kernel
theorem dX6_sort_7 : decode cX6_sort 7 = .ok (.invokestatic 61, 3) := by decide +kernel
theorem dX6_sort_10 : decode cX6_sort 10 = .ok (.invokestatic 65, 3) := by decide +kernel
theorem dX6_sort_13 : decode cX6_sort 13 = .ok (.aload_n 0, 1) := by decide +kernel
theorem dX6_sort_14 : decode cX6_sort 14 = .ok (.getfield 29, 3) := by decide +kernel
theorem dX6_sort_17 : decode cX6_sort 17 = .ok (.aload_n 0, 1) := by decide +kernel
theorem dX6_sort_18 : decode cX6_sort 18 = .ok (.getfield 12, 3) := by decide +kernel
theorem dX6_sort_21 : decode cX6_sort 21 = .ok (.invokevirtual 76, 3) := by decide +kernel
theorem dX6_sort_24 : decode cX6_sort 24 = .ok (.aload_n 0, 1) := by decide +kernel
theorem dX6_sort_25 : decode cX6_sort 25 = .ok (.getfield 12, 3) := by decide +kernel
theorem dX6_sort_28 : decode cX6_sort 28 = .ok (.iload_n 1, 1) := by decide +kernel
theorem dX6_sort_29 : decode cX6_sort 29 = .ok (.iload_n 2, 1) := by decide +kernel
theorem dX6_sort_30 : decode cX6_sort 30 = .ok (.invokevirtual 117, 3) := by decide +kernel
theorem dX6_sort_33 : decode cX6_sort 33 = .ok (.aload_n 0, 1) := by decide +kernel
theorem dX6_sort_34 : decode cX6_sort 34 = .ok (.getfield 12, 3) := by decide +kernel
theorem dX6_sort_37 : decode cX6_sort 37 = .ok (.iload_n 1, 1) := by decide +kernel
theorem dX6_sort_38 : decode cX6_sort 38 = .ok (.invokevirtual 120, 3) := by decide +kernel
theorem dX6_sort_41 : decode cX6_sort 41 = .ok (.ireturn, 1) := by decide +kernel
theorem dX6_set_0 : decode cX6_set 0 = .ok (.iload_n 1, 1) := by decide +kernel
theorem dX6_set_1 : decode cX6_set 1 = .ok (.iconst 0, 1) := by decide +kernel
theorem dX6_set_2 : decode cX6_set 2 = .ok (.iconst 1, 1) := by decide +kernel
theorem dX6_set_3 : decode cX6_set 3 = .ok (.invokestatic 61, 3) := by decide +kernel
theorem dX6_set_6 : decode cX6_set 6 = .ok (.invokestatic 123, 3) := by decide +kernel
theorem dX6_set_9 : decode cX6_set 9 = .ok (.iload_n 1, 1) := by decide +kernel
theorem dX6_set_10 : decode cX6_set 10 = .ok (.ifCond .ne 13, 3) := by decide +kernel
theorem dX6_set_13 : decode cX6_set 13 = .ok (.iload_n 2, 1) := by decide +kernel
theorem dX6_set_14 : decode cX6_set 14 = .ok (.iconst 1, 1) := by decide +kernel
theorem dX6_set_15 : decode cX6_set 15 = .ok (.bipush 6, 2) := by decide +kernel
theorem dX6_set_17 : decode cX6_set 17 = .ok (.invokestatic 61, 3) := by decide +kernel
theorem dX6_set_20 : decode cX6_set 20 = .ok (.goto 9, 3) := by decide +kernel
theorem dX6_set_23 : decode cX6_set 23 = .ok (.iload_n 2, 1) := by decide +kernel
theorem dX6_set_24 : decode cX6_set 24 = .ok (.iconst 0, 1) := by decide +kernel
theorem dX6_set_25 : decode cX6_set 25 = .ok (.iconst 1, 1) := by decide +kernel
theorem dX6_set_26 : decode cX6_set 26 = .ok (.invokestatic 61, 3) := by decide +kernel
theorem dX6_set_29 : decode cX6_set 29 = .ok (.invokestatic 65, 3) := by decide +kernel
theorem dX6_set_32 : decode cX6_set 32 = .ok (.aload_n 0, 1) := by decide +kernel
theorem dX6_set_33 : decode cX6_set 33 = .ok (.getfield 29, 3) := by decide +kernel
theorem dX6_set_36 : decode cX6_set 36 = .ok (.aload_n 0, 1) := by decide +kernel
theorem dX6_set_37 : decode cX6_set 37 = .ok (.getfield 12, 3) := by decide +kernel
theorem dX6_set_40 : decode cX6_set 40 = .ok (.invokevirtual 76, 3) := by decide +kernel
theorem dX6_set_43 : decode cX6_set 43 = .ok (.aload_n 0, 1) := by decide +kernel
theorem dX6_set_44 : decode cX6_set 44 = .ok (.getfield 12, 3) := by decide +kernel
theorem dX6_set_47 : decode cX6_set 47 = .ok (.iload_n 1, 1) := by decide +kernel
theorem dX6_set_48 : decode cX6_set 48 = .ok (.invokevirtual 126, 3) := by decide +kernel
theorem dX6_set_51 : decode cX6_set 51 = .ok (.istore_n 3, 1) := by decide +kernel
theorem dX6_set_52 : decode cX6_set 52 = .ok (.aload_n 0, 1) := by decide +kernel
theorem dX6_set_53 : decode cX6_set 53 = .ok (.getfield 12, 3) := by decide +kernel
theorem dX6_set_56 : decode cX6_set 56 = .ok (.iload_n 1, 1) := by decide +kernel
theorem dX6_set_57 : decode cX6_set 57 = .ok (.iload_n 2, 1) := by decide +kernel
theorem dX6_set_58 : decode cX6_set 58 = .ok (.invokevirtual 129, 3) := by decide +kernel
theorem dX6_set_61 : decode cX6_set 61 = .ok (.iload_n 3, 1) := by decide +kernel
theorem dX6_set_62 : decode cX6_set 62 = .ok (.ireturn, 1) := by decide +kernel
theorem dX6_written_0 : decode cX6_written 0 = .ok (.iload_n 1, 1) := by decide +kernel
theorem dX6_written_1 : decode cX6_written 1 = .ok (.invokestatic 54, 3) := by decide +kernel
theorem dX6_written_4 : decode cX6_written 4 = .ok (.iload_n 2, 1) := by decide +kernel
theorem dX6_written_5 : decode cX6_written 5 = .ok (.ifCond .lt 7, 3) := by decide +kernel
theorem dX6_written_8 : decode cX6_written 8 = .ok (.iconst 1, 1) := by decide +kernel
theorem dX6_written_9 : decode cX6_written 9 = .ok (.goto 4, 3) := by decide +kernel
theorem dX6_written_12 : decode cX6_written 12 = .ok (.iconst 0, 1) := by decide +kernel
theorem dX6_written_13 : decode cX6_written 13 = .ok (.invokestatic 65, 3) := by decide +kernel
theorem dX6_written_16 : decode cX6_written 16 = .ok (.aload_n 0, 1) := by decide +kernel
theorem dX6_written_17 : decode cX6_written 17 = .ok (.getfield 12, 3) := by decide +kernel
theorem dX6_written_20 : decode cX6_written 20 = .ok (.iload_n 1, 1) := by decide +kernel
theorem dX6_written_21 : decode cX6_written 21 = .ok (.iload_n 2, 1) := by decide +kernel
theorem dX6_written_22 : decode cX6_written 22 = .ok (.invokevirtual 155, 3) := by decide +kernel
theorem dX6_written_25 : decode cX6_written 25 = .ok (.ireturn, 1) := by decide +kernel
theorem dX6_singer_0 : decode cX6_singer 0 = .ok (.aload_n 0, 1) := by decide +kernel
theorem dX6_singer_1 : decode cX6_singer 1 = .ok (.iload_n 1, 1) := by decide +kernel
theorem dX6_singer_2 : decode cX6_singer 2 = .ok (.iload_n 2, 1) := by decide +kernel
theorem dX6_singer_3 : decode cX6_singer 3 = .ok (.invokevirtual 84, 3) := by decide +kernel
theorem dX6_singer_6 : decode cX6_singer 6 = .ok (.iload_n 3, 1) := by decide +kernel
theorem dX6_singer_7 : decode cX6_singer 7 = .ok (.iconst 0, 1) := by decide +kernel
theorem dX6_singer_8 : decode cX6_singer 8 = .ok (.bipush 7, 2) := by decide +kernel
theorem dX6_singer_10 : decode cX6_singer 10 = .ok (.invokestatic 61, 3) := by decide +kernel
theorem dX6_singer_13 : decode cX6_singer 13 = .ok (.invokestatic 65, 3) := by decide +kernel
theorem dX6_singer_16 : decode cX6_singer 16 = .ok (.aload_n 0, 1) := by decide +kernel
theorem dX6_singer_17 : decode cX6_singer 17 = .ok (.iload_n 1, 1) := by decide +kernel
theorem dX6_singer_18 : decode cX6_singer 18 = .ok (.iload_n 2, 1) := by decide +kernel
theorem dX6_singer_19 : decode cX6_singer 19 = .ok (.iload_n 3, 1) := by decide +kernel
theorem dX6_singer_20 : decode cX6_singer 20 = .ok (.invokevirtual 168, 3) := by decide +kernel
theorem dX6_singer_23 : decode cX6_singer 23 = .ok (.ireturn, 1) := by decide +kernel
theorem dX6_row_0 : decode cX6_row 0 = .ok (.iload_n 1, 1) := by decide +kernel
theorem dX6_row_1 : decode cX6_row 1 = .ok (.invokestatic 54, 3) := by decide +kernel
theorem dX6_row_4 : decode cX6_row 4 = .ok (.iload_n 2, 1) := by decide +kernel
theorem dX6_row_5 : decode cX6_row 5 = .ok (.iconst 0, 1) := by decide +kernel
theorem dX6_row_6 : decode cX6_row 6 = .ok (.bipush 6, 2) := by decide +kernel
theorem dX6_row_8 : decode cX6_row 8 = .ok (.invokestatic 61, 3) := by decide +kernel
theorem dX6_row_11 : decode cX6_row 11 = .ok (.invokestatic 65, 3) := by decide +kernel
theorem dX6_row_14 : decode cX6_row 14 = .ok (.aload_n 0, 1) := by decide +kernel
theorem dX6_row_15 : decode cX6_row 15 = .ok (.iload_n 1, 1) := by decide +kernel
theorem dX6_row_16 : decode cX6_row 16 = .ok (.iload_n 2, 1) := by decide +kernel
theorem dX6_row_17 : decode cX6_row 17 = .ok (.invokevirtual 171, 3) := by decide +kernel
theorem dX6_row_20 : decode cX6_row 20 = .ok (.ireturn, 1) := by decide +kernel
theorem dX6_find_0 : decode cX6_find 0 = .ok (.iload_n 1, 1) := by decide +kernel
theorem dX6_find_1 : decode cX6_find 1 = .ok (.ifCond .lt 7, 3) := by decide +kernel
theorem dX6_find_4 : decode cX6_find 4 = .ok (.iconst 1, 1) := by decide +kernel
theorem dX6_find_5 : decode cX6_find 5 = .ok (.goto 4, 3) := by decide +kernel
theorem dX6_find_8 : decode cX6_find 8 = .ok (.iconst 0, 1) := by decide +kernel
theorem dX6_find_9 : decode cX6_find 9 = .ok (.invokestatic 65, 3) := by decide +kernel
theorem dX6_find_12 : decode cX6_find 12 = .ok (.aload_n 0, 1) := by decide +kernel
theorem dX6_find_13 : decode cX6_find 13 = .ok (.getfield 12, 3) := by decide +kernel
theorem dX6_find_16 : decode cX6_find 16 = .ok (.iload_n 1, 1) := by decide +kernel
theorem dX6_find_17 : decode cX6_find 17 = .ok (.invokevirtual 174, 3) := by decide +kernel
theorem dX6_find_20 : decode cX6_find 20 = .ok (.ireturn, 1) := by decide +kernel
theorem dX6_count_0 : decode cX6_count 0 = .ok (.iload_n 1, 1) := by decide +kernel
theorem dX6_count_1 : decode cX6_count 1 = .ok (.iconst 0, 1) := by decide +kernel
theorem dX6_count_2 : decode cX6_count 2 = .ok (.bipush 8, 2) := by decide +kernel
theorem dX6_count_4 : decode cX6_count 4 = .ok (.invokestatic 61, 3) := by decide +kernel
theorem dX6_count_7 : decode cX6_count 7 = .ok (.invokestatic 65, 3) := by decide +kernel
theorem dX6_count_10 : decode cX6_count 10 = .ok (.aload_n 0, 1) := by decide +kernel
theorem dX6_count_11 : decode cX6_count 11 = .ok (.iload_n 1, 1) := by decide +kernel
theorem dX6_count_12 : decode cX6_count 12 = .ok (.invokevirtual 177, 3) := by decide +kernel
theorem dX6_count_15 : decode cX6_count 15 = .ok (.ireturn, 1) := by decide +kernel
theorem dX6_ifSwapped_0 : decode cX6_ifSwapped 0 = .ok (.aload_n 0, 1) := by decide +kernel
theorem dX6_ifSwapped_1 : decode cX6_ifSwapped 1 = .ok (.iload_n 1, 1) := by decide +kernel
theorem dX6_ifSwapped_2 : decode cX6_ifSwapped 2 = .ok (.iload_n 2, 1) := by decide +kernel
theorem dX6_ifSwapped_3 : decode cX6_ifSwapped 3 = .ok (.invokevirtual 84, 3) := by decide +kernel
theorem dX6_ifSwapped_6 : decode cX6_ifSwapped 6 = .ok (.aload_n 0, 1) := by decide +kernel
theorem dX6_ifSwapped_7 : decode cX6_ifSwapped 7 = .ok (.iload_n 3, 1) := by decide +kernel
theorem dX6_ifSwapped_8 : decode cX6_ifSwapped 8 = .ok (.iload 4, 2) := by decide +kernel
theorem dX6_ifSwapped_10 : decode cX6_ifSwapped 10 = .ok (.invokevirtual 84, 3) := by decide +kernel
theorem dX6_ifSwapped_13 : decode cX6_ifSwapped 13 = .ok (.aload_n 0, 1) := by decide +kernel
theorem dX6_ifSwapped_14 : decode cX6_ifSwapped 14 = .ok (.getfield 16, 3) := by decide +kernel
theorem dX6_ifSwapped_17 : decode cX6_ifSwapped 17 = .ok (.aload_n 0, 1) := by decide +kernel
theorem dX6_ifSwapped_18 : decode cX6_ifSwapped 18 = .ok (.getfield 12, 3) := by decide +kernel
theorem dX6_ifSwapped_21 : decode cX6_ifSwapped 21 = .ok (.invokevirtual 162, 3) := by decide +kernel
theorem dX6_ifSwapped_24 : decode cX6_ifSwapped 24 = .ok (.aload_n 0, 1) := by decide +kernel
theorem dX6_ifSwapped_25 : decode cX6_ifSwapped 25 = .ok (.getfield 16, 3) := by decide +kernel
theorem dX6_ifSwapped_28 : decode cX6_ifSwapped 28 = .ok (.iload_n 1, 1) := by decide +kernel
theorem dX6_ifSwapped_29 : decode cX6_ifSwapped 29 = .ok (.iload_n 2, 1) := by decide +kernel
theorem dX6_ifSwapped_30 : decode cX6_ifSwapped 30 = .ok (.iload_n 3, 1) := by decide +kernel
theorem dX6_ifSwapped_31 : decode cX6_ifSwapped 31 = .ok (.iload 4, 2) := by decide +kernel
theorem dX6_ifSwapped_33 : decode cX6_ifSwapped 33 = .ok (.invokevirtual 180, 3) := by decide +kernel
theorem dX6_ifSwapped_36 : decode cX6_ifSwapped 36 = .ok (.aload_n 0, 1) := by decide +kernel
theorem dX6_ifSwapped_37 : decode cX6_ifSwapped 37 = .ok (.getfield 16, 3) := by decide +kernel
theorem dX6_ifSwapped_40 : decode cX6_ifSwapped 40 = .ok (.invokevirtual 103, 3) := by decide +kernel
theorem dX6_ifSwapped_43 : decode cX6_ifSwapped 43 = .ok (.ireturn, 1) := by decide +kernel
theorem dX6_bestSwap_0 : decode cX6_bestSwap 0 = .ok (.iload_n 1, 1) := by decide +kernel
theorem dX6_bestSwap_1 : decode cX6_bestSwap 1 = .ok (.invokestatic 54, 3) := by decide +kernel
theorem dX6_bestSwap_4 : decode cX6_bestSwap 4 = .ok (.aload_n 0, 1) := by decide +kernel
theorem dX6_bestSwap_5 : decode cX6_bestSwap 5 = .ok (.iload_n 1, 1) := by decide +kernel
theorem dX6_bestSwap_6 : decode cX6_bestSwap 6 = .ok (.invokevirtual 183, 3) := by decide +kernel
theorem dX6_bestSwap_9 : decode cX6_bestSwap 9 = .ok (.ireturn, 1) := by decide +kernel
theorem dX6_bestRow_0 : decode cX6_bestRow 0 = .ok (.iload_n 1, 1) := by decide +kernel
theorem dX6_bestRow_1 : decode cX6_bestRow 1 = .ok (.invokestatic 58, 3) := by decide +kernel
theorem dX6_bestRow_4 : decode cX6_bestRow 4 = .ok (.aload_n 0, 1) := by decide +kernel
theorem dX6_bestRow_5 : decode cX6_bestRow 5 = .ok (.iload_n 1, 1) := by decide +kernel
theorem dX6_bestRow_6 : decode cX6_bestRow 6 = .ok (.invokevirtual 186, 3) := by decide +kernel
theorem dX6_bestRow_9 : decode cX6_bestRow 9 = .ok (.ireturn, 1) := by decide +kernel
theorem dX6_ifReach_0 : decode cX6_ifReach 0 = .ok (.iload_n 1, 1) := by decide +kernel
theorem dX6_ifReach_1 : decode cX6_ifReach 1 = .ok (.iconst 1, 1) := by decide +kernel
theorem dX6_ifReach_2 : decode cX6_ifReach 2 = .ok (.bipush 6, 2) := by decide +kernel
theorem dX6_ifReach_4 : decode cX6_ifReach 4 = .ok (.invokestatic 61, 3) := by decide +kernel
theorem dX6_ifReach_7 : decode cX6_ifReach 7 = .ok (.invokestatic 65, 3) := by decide +kernel
theorem dX6_ifReach_10 : decode cX6_ifReach 10 = .ok (.aload_n 0, 1) := by decide +kernel
theorem dX6_ifReach_11 : decode cX6_ifReach 11 = .ok (.iload_n 1, 1) := by decide +kernel
theorem dX6_ifReach_12 : decode cX6_ifReach 12 = .ok (.invokevirtual 189, 3) := by decide +kernel
theorem dX6_ifReach_15 : decode cX6_ifReach 15 = .ok (.ireturn, 1) := by decide +kernel
theorem dX6_oddShare_0 : decode cX6_oddShare 0 = .ok (.aload_n 0, 1) := by decide +kernel
theorem dX6_oddShare_1 : decode cX6_oddShare 1 = .ok (.getfield 12, 3) := by decide +kernel
theorem dX6_oddShare_4 : decode cX6_oddShare 4 = .ok (.invokevirtual 165, 3) := by decide +kernel
theorem dX6_oddShare_7 : decode cX6_oddShare 7 = .ok (.istore_n 1, 1) := by decide +kernel
theorem dX6_oddShare_8 : decode cX6_oddShare 8 = .ok (.iload_n 1, 1) := by decide +kernel
theorem dX6_oddShare_9 : decode cX6_oddShare 9 = .ok (.ifCond .le 17, 3) := by decide +kernel
theorem dX6_oddShare_12 : decode cX6_oddShare 12 = .ok (.aload_n 0, 1) := by decide +kernel
theorem dX6_oddShare_13 : decode cX6_oddShare 13 = .ok (.getfield 12, 3) := by decide +kernel
theorem dX6_oddShare_16 : decode cX6_oddShare 16 = .ok (.invokevirtual 103, 3) := by decide +kernel
theorem dX6_oddShare_19 : decode cX6_oddShare 19 = .ok (.i2d, 1) := by decide +kernel
theorem dX6_oddShare_20 : decode cX6_oddShare 20 = .ok (.iload_n 1, 1) := by decide +kernel
theorem dX6_oddShare_21 : decode cX6_oddShare 21 = .ok (.i2d, 1) := by decide +kernel
theorem dX6_oddShare_22 : decode cX6_oddShare 22 = .ok (.ddiv, 1) := by decide +kernel
theorem dX6_oddShare_23 : decode cX6_oddShare 23 = .ok (.goto 4, 3) := by decide +kernel
theorem dX6_oddShare_26 : decode cX6_oddShare 26 = .ok (.dconst 1, 1) := by decide +kernel
theorem dX6_oddShare_27 : decode cX6_oddShare 27 = .ok (.dreturn, 1) := by decide +kernel
theorem dX6_needIndex_0 : decode cX6_needIndex 0 = .ok (.iload_n 0, 1) := by decide +kernel
theorem dX6_needIndex_1 : decode cX6_needIndex 1 = .ok (.ifCond .ne 11, 3) := by decide +kernel
theorem dX6_needIndex_4 : decode cX6_needIndex 4 = .ok (.new 217, 3) := by decide +kernel
theorem dX6_needIndex_7 : decode cX6_needIndex 7 = .ok (.dup, 1) := by decide +kernel
theorem dX6_needIndex_8 : decode cX6_needIndex 8 = .ok (.invokespecial 219, 3) := by decide +kernel
theorem dX6_needIndex_11 : decode cX6_needIndex 11 = .ok (.athrow, 1) := by decide +kernel
theorem dX6_needIndex_12 : decode cX6_needIndex 12 = .ok (.return_, 1) := by decide +kernel
theorem dX6_needArgument_0 : decode cX6_needArgument 0 = .ok (.iload_n 0, 1) := by decide +kernel
theorem dX6_needArgument_1 : decode cX6_needArgument 1 = .ok (.ifCond .ne 11, 3) := by decide +kernel
theorem dX6_needArgument_4 : decode cX6_needArgument 4 = .ok (.new 220, 3) := by decide +kernel
theorem dX6_needArgument_7 : decode cX6_needArgument 7 = .ok (.dup, 1) := by decide +kernel
theorem dX6_needArgument_8 : decode cX6_needArgument 8 = .ok (.invokespecial 222, 3) := by decide +kernel
theorem dX6_needArgument_11 : decode cX6_needArgument 11 = .ok (.athrow, 1) := by decide +kernel
theorem dX6_needArgument_12 : decode cX6_needArgument 12 = .ok (.return_, 1) := by decide +kernel
theorem dX6_needState_0 : decode cX6_needState 0 = .ok (.iload_n 0, 1) := by decide +kernel
theorem dX6_needState_1 : decode cX6_needState 1 = .ok (.ifCond .ne 11, 3) := by decide +kernel
theorem dX6_needState_4 : decode cX6_needState 4 = .ok (.new 223, 3) := by decide +kernel
theorem dX6_needState_7 : decode cX6_needState 7 = .ok (.dup, 1) := by decide +kernel
theorem dX6_needState_8 : decode cX6_needState 8 = .ok (.invokespecial 225, 3) := by decide +kernel
theorem dX6_needState_11 : decode cX6_needState 11 = .ok (.athrow, 1) := by decide +kernel
theorem dX6_needState_12 : decode cX6_needState 12 = .ok (.return_, 1) := by decide +kernel
theorem dX6_needRow_0 : decode cX6_needRow 0 = .ok (.iload_n 0, 1) := by decide +kernel
theorem dX6_needRow_1 : decode cX6_needRow 1 = .ok (.iconst 0, 1) := by decide +kernel
theorem dX6_needRow_2 : decode cX6_needRow 2 = .ok (.iconst 3, 1) := by decide +kernel
theorem dX6_needRow_3 : decode cX6_needRow 3 = .ok (.invokestatic 61, 3) := by decide +kernel
theorem dX6_needRow_6 : decode cX6_needRow 6 = .ok (.invokestatic 123, 3) := by decide +kernel
theorem dX6_needRow_9 : decode cX6_needRow 9 = .ok (.return_, 1) := by decide +kernel
theorem dX6_needSinger_0 : decode cX6_needSinger 0 = .ok (.aload_n 0, 1) := by decide +kernel
theorem dX6_needSinger_1 : decode cX6_needSinger 1 = .ok (.getfield 12, 3) := by decide +kernel
theorem dX6_needSinger_4 : decode cX6_needSinger 4 = .ok (.iload_n 1, 1) := by decide +kernel
theorem dX6_needSinger_5 : decode cX6_needSinger 5 = .ok (.iload_n 2, 1) := by decide +kernel
theorem dX6_needSinger_6 : decode cX6_needSinger 6 = .ok (.invokevirtual 226, 3) := by decide +kernel
theorem dX6_needSinger_9 : decode cX6_needSinger 9 = .ok (.invokestatic 123, 3) := by decide +kernel
theorem dX6_needSinger_12 : decode cX6_needSinger 12 = .ok (.return_, 1) := by decide +kernel
theorem dX6_needHeight_0 : decode cX6_needHeight 0 = .ok (.iload_n 0, 1) := by decide +kernel
theorem dX6_needHeight_1 : decode cX6_needHeight 1 = .ok (.bipush 100, 2) := by decide +kernel
theorem dX6_needHeight_3 : decode cX6_needHeight 3 = .ok (.sipush 220, 3) := by decide +kernel
theorem dX6_needHeight_6 : decode cX6_needHeight 6 = .ok (.invokestatic 61, 3) := by decide +kernel
theorem dX6_needHeight_9 : decode cX6_needHeight 9 = .ok (.invokestatic 65, 3) := by decide +kernel
theorem dX6_needHeight_12 : decode cX6_needHeight 12 = .ok (.return_, 1) := by decide +kernel
theorem dX6_isBetween_0 : decode cX6_isBetween 0 = .ok (.iload_n 0, 1) := by decide +kernel
theorem dX6_isBetween_1 : decode cX6_isBetween 1 = .ok (.iload_n 1, 1) := by decide +kernel
theorem dX6_isBetween_2 : decode cX6_isBetween 2 = .ok (.if_icmp .lt 12, 3) := by decide +kernel
theorem dX6_isBetween_5 : decode cX6_isBetween 5 = .ok (.iload_n 0, 1) := by decide +kernel
theorem dX6_isBetween_6 : decode cX6_isBetween 6 = .ok (.iload_n 2, 1) := by decide +kernel
theorem dX6_isBetween_7 : decode cX6_isBetween 7 = .ok (.if_icmp .gt 7, 3) := by decide +kernel
theorem dX6_isBetween_10 : decode cX6_isBetween 10 = .ok (.iconst 1, 1) := by decide +kernel
theorem dX6_isBetween_11 : decode cX6_isBetween 11 = .ok (.goto 4, 3) := by decide +kernel
theorem dX6_isBetween_14 : decode cX6_isBetween 14 = .ok (.iconst 0, 1) := by decide +kernel
theorem dX6_isBetween_15 : decode cX6_isBetween 15 = .ok (.ireturn, 1) := by decide +kernel
theorem dX6_readCell_0 : decode cX6_readCell 0 = .ok (.iload_n 1, 1) := by decide +kernel
theorem dX6_readCell_1 : decode cX6_readCell 1 = .ok (.ifCond .lt 15, 3) := by decide +kernel
theorem dX6_readCell_4 : decode cX6_readCell 4 = .ok (.iload_n 1, 1) := by decide +kernel
theorem dX6_readCell_5 : decode cX6_readCell 5 = .ok (.aload_n 0, 1) := by decide +kernel
theorem dX6_readCell_6 : decode cX6_readCell 6 = .ok (.arraylength, 1) := by decide +kernel
theorem dX6_readCell_7 : decode cX6_readCell 7 = .ok (.if_icmp .ge 9, 3) := by decide +kernel
theorem dX6_readCell_10 : decode cX6_readCell 10 = .ok (.aload_n 0, 1) := by decide +kernel
theorem dX6_readCell_11 : decode cX6_readCell 11 = .ok (.iload_n 1, 1) := by decide +kernel
theorem dX6_readCell_12 : decode cX6_readCell 12 = .ok (.iaload, 1) := by decide +kernel
theorem dX6_readCell_13 : decode cX6_readCell 13 = .ok (.goto 4, 3) := by decide +kernel
theorem dX6_readCell_16 : decode cX6_readCell 16 = .ok (.iconst (-1), 1) := by decide +kernel
theorem dX6_readCell_17 : decode cX6_readCell 17 = .ok (.ireturn, 1) := by decide +kernel
theorem dX6_writeCell_0 : decode cX6_writeCell 0 = .ok (.iload_n 1, 1) := by decide +kernel
theorem dX6_writeCell_1 : decode cX6_writeCell 1 = .ok (.ifCond .lt 13, 3) := by decide +kernel
theorem dX6_writeCell_4 : decode cX6_writeCell 4 = .ok (.iload_n 1, 1) := by decide +kernel
theorem dX6_writeCell_5 : decode cX6_writeCell 5 = .ok (.aload_n 0, 1) := by decide +kernel
theorem dX6_writeCell_6 : decode cX6_writeCell 6 = .ok (.arraylength, 1) := by decide +kernel
theorem dX6_writeCell_7 : decode cX6_writeCell 7 = .ok (.if_icmp .ge 7, 3) := by decide +kernel
theorem dX6_writeCell_10 : decode cX6_writeCell 10 = .ok (.aload_n 0, 1) := by decide +kernel
theorem dX6_writeCell_11 : decode cX6_writeCell 11 = .ok (.iload_n 1, 1) := by decide +kernel
theorem dX6_writeCell_12 : decode cX6_writeCell 12 = .ok (.iload_n 2, 1) := by decide +kernel
theorem dX6_writeCell_13 : decode cX6_writeCell 13 = .ok (.iastore, 1) := by decide +kernel
theorem dX6_writeCell_14 : decode cX6_writeCell 14 = .ok (.return_, 1) := by decide +kernel
theorem dX6_ofSinger_0 : decode cX6_ofSinger 0 = .ok (.iload_n 3, 1) := by decide +kernel
theorem dX6_ofSinger_1 : decode cX6_ofSinger 1 = .ok (.tableswitch 119 0 6 #[43, 53, 63, 73, 83, 93, 107], 43) := by decide +kernel
theorem dX6_ofSinger_44 : decode cX6_ofSinger 44 = .ok (.aload_n 0, 1) := by decide +kernel
theorem dX6_ofSinger_45 : decode cX6_ofSinger 45 = .ok (.getfield 12, 3) := by decide +kernel
theorem dX6_ofSinger_48 : decode cX6_ofSinger 48 = .ok (.iload_n 1, 1) := by decide +kernel
theorem dX6_ofSinger_49 : decode cX6_ofSinger 49 = .ok (.iload_n 2, 1) := by decide +kernel
theorem dX6_ofSinger_50 : decode cX6_ofSinger 50 = .ok (.invokevirtual 250, 3) := by decide +kernel
theorem dX6_ofSinger_53 : decode cX6_ofSinger 53 = .ok (.ireturn, 1) := by decide +kernel
theorem dX6_ofSinger_54 : decode cX6_ofSinger 54 = .ok (.aload_n 0, 1) := by decide +kernel
theorem dX6_ofSinger_55 : decode cX6_ofSinger 55 = .ok (.getfield 12, 3) := by decide +kernel
theorem dX6_ofSinger_58 : decode cX6_ofSinger 58 = .ok (.iload_n 1, 1) := by decide +kernel
theorem dX6_ofSinger_59 : decode cX6_ofSinger 59 = .ok (.iload_n 2, 1) := by decide +kernel
theorem dX6_ofSinger_60 : decode cX6_ofSinger 60 = .ok (.invokevirtual 92, 3) := by decide +kernel
theorem dX6_ofSinger_63 : decode cX6_ofSinger 63 = .ok (.ireturn, 1) := by decide +kernel
theorem dX6_ofSinger_64 : decode cX6_ofSinger 64 = .ok (.aload_n 0, 1) := by decide +kernel
theorem dX6_ofSinger_65 : decode cX6_ofSinger 65 = .ok (.getfield 12, 3) := by decide +kernel
theorem dX6_ofSinger_68 : decode cX6_ofSinger 68 = .ok (.iload_n 1, 1) := by decide +kernel
theorem dX6_ofSinger_69 : decode cX6_ofSinger 69 = .ok (.iload_n 2, 1) := by decide +kernel
theorem dX6_ofSinger_70 : decode cX6_ofSinger 70 = .ok (.invokevirtual 253, 3) := by decide +kernel
theorem dX6_ofSinger_73 : decode cX6_ofSinger 73 = .ok (.ireturn, 1) := by decide +kernel
theorem dX6_ofSinger_74 : decode cX6_ofSinger 74 = .ok (.aload_n 0, 1) := by decide +kernel
theorem dX6_ofSinger_75 : decode cX6_ofSinger 75 = .ok (.getfield 12, 3) := by decide +kernel
theorem dX6_ofSinger_78 : decode cX6_ofSinger 78 = .ok (.iload_n 1, 1) := by decide +kernel
theorem dX6_ofSinger_79 : decode cX6_ofSinger 79 = .ok (.iload_n 2, 1) := by decide +kernel
theorem dX6_ofSinger_80 : decode cX6_ofSinger 80 = .ok (.invokevirtual 256, 3) := by decide +kernel
theorem dX6_ofSinger_83 : decode cX6_ofSinger 83 = .ok (.ireturn, 1) := by decide +kernel
theorem dX6_ofSinger_84 : decode cX6_ofSinger 84 = .ok (.aload_n 0, 1) := by decide +kernel
theorem dX6_ofSinger_85 : decode cX6_ofSinger 85 = .ok (.getfield 12, 3) := by decide +kernel
theorem dX6_ofSinger_88 : decode cX6_ofSinger 88 = .ok (.iload_n 1, 1) := by decide +kernel
theorem dX6_ofSinger_89 : decode cX6_ofSinger 89 = .ok (.iload_n 2, 1) := by decide +kernel
theorem dX6_ofSinger_90 : decode cX6_ofSinger 90 = .ok (.invokevirtual 259, 3) := by decide +kernel
theorem dX6_ofSinger_93 : decode cX6_ofSinger 93 = .ok (.ireturn, 1) := by decide +kernel
theorem dX6_ofSinger_94 : decode cX6_ofSinger 94 = .ok (.aload_n 0, 1) := by decide +kernel
theorem dX6_ofSinger_95 : decode cX6_ofSinger 95 = .ok (.getfield 12, 3) := by decide +kernel
theorem dX6_ofSinger_98 : decode cX6_ofSinger 98 = .ok (.aload_n 0, 1) := by decide +kernel
theorem dX6_ofSinger_99 : decode cX6_ofSinger 99 = .ok (.getfield 43, 3) := by decide +kernel
theorem dX6_ofSinger_102 : decode cX6_ofSinger 102 = .ok (.iload_n 1, 1) := by decide +kernel
theorem dX6_ofSinger_103 : decode cX6_ofSinger 103 = .ok (.iload_n 2, 1) := by decide +kernel
theorem dX6_ofSinger_104 : decode cX6_ofSinger 104 = .ok (.invokevirtual 262, 3) := by decide +kernel
theorem dX6_ofSinger_107 : decode cX6_ofSinger 107 = .ok (.ireturn, 1) := by decide +kernel
theorem dX6_ofSinger_108 : decode cX6_ofSinger 108 = .ok (.aload_n 0, 1) := by decide +kernel
theorem dX6_ofSinger_109 : decode cX6_ofSinger 109 = .ok (.getfield 12, 3) := by decide +kernel
theorem dX6_ofSinger_112 : decode cX6_ofSinger 112 = .ok (.iload_n 1, 1) := by decide +kernel
theorem dX6_ofSinger_113 : decode cX6_ofSinger 113 = .ok (.iload_n 2, 1) := by decide +kernel
theorem dX6_ofSinger_114 : decode cX6_ofSinger 114 = .ok (.invokevirtual 259, 3) := by decide +kernel
theorem dX6_ofSinger_117 : decode cX6_ofSinger 117 = .ok (.iconst 1, 1) := by decide +kernel
theorem dX6_ofSinger_118 : decode cX6_ofSinger 118 = .ok (.iand, 1) := by decide +kernel
theorem dX6_ofSinger_119 : decode cX6_ofSinger 119 = .ok (.ireturn, 1) := by decide +kernel
theorem dX6_ofSinger_120 : decode cX6_ofSinger 120 = .ok (.aload_n 0, 1) := by decide +kernel
theorem dX6_ofSinger_121 : decode cX6_ofSinger 121 = .ok (.getfield 12, 3) := by decide +kernel
theorem dX6_ofSinger_124 : decode cX6_ofSinger 124 = .ok (.iload_n 1, 1) := by decide +kernel
theorem dX6_ofSinger_125 : decode cX6_ofSinger 125 = .ok (.iload_n 2, 1) := by decide +kernel
theorem dX6_ofSinger_126 : decode cX6_ofSinger 126 = .ok (.invokevirtual 266, 3) := by decide +kernel
theorem dX6_ofSinger_129 : decode cX6_ofSinger 129 = .ok (.ireturn, 1) := by decide +kernel
theorem dX6_ofRow_0 : decode cX6_ofRow 0 = .ok (.iload_n 2, 1) := by decide +kernel
theorem dX6_ofRow_1 : decode cX6_ofRow 1 = .ok (.tableswitch 117 0 5 #[39, 48, 57, 66, 77, 97], 39) := by decide +kernel
theorem dX6_ofRow_40 : decode cX6_ofRow 40 = .ok (.aload_n 0, 1) := by decide +kernel
theorem dX6_ofRow_41 : decode cX6_ofRow 41 = .ok (.getfield 12, 3) := by decide +kernel
theorem dX6_ofRow_44 : decode cX6_ofRow 44 = .ok (.iload_n 1, 1) := by decide +kernel
theorem dX6_ofRow_45 : decode cX6_ofRow 45 = .ok (.invokevirtual 107, 3) := by decide +kernel
theorem dX6_ofRow_48 : decode cX6_ofRow 48 = .ok (.ireturn, 1) := by decide +kernel
theorem dX6_ofRow_49 : decode cX6_ofRow 49 = .ok (.aload_n 0, 1) := by decide +kernel
theorem dX6_ofRow_50 : decode cX6_ofRow 50 = .ok (.getfield 12, 3) := by decide +kernel
theorem dX6_ofRow_53 : decode cX6_ofRow 53 = .ok (.iload_n 1, 1) := by decide +kernel
theorem dX6_ofRow_54 : decode cX6_ofRow 54 = .ok (.invokevirtual 269, 3) := by decide +kernel
theorem dX6_ofRow_57 : decode cX6_ofRow 57 = .ok (.ireturn, 1) := by decide +kernel
theorem dX6_ofRow_58 : decode cX6_ofRow 58 = .ok (.aload_n 0, 1) := by decide +kernel
theorem dX6_ofRow_59 : decode cX6_ofRow 59 = .ok (.getfield 12, 3) := by decide +kernel
theorem dX6_ofRow_62 : decode cX6_ofRow 62 = .ok (.iload_n 1, 1) := by decide +kernel
theorem dX6_ofRow_63 : decode cX6_ofRow 63 = .ok (.invokevirtual 120, 3) := by decide +kernel
theorem dX6_ofRow_66 : decode cX6_ofRow 66 = .ok (.ireturn, 1) := by decide +kernel
theorem dX6_ofRow_67 : decode cX6_ofRow 67 = .ok (.aload_n 0, 1) := by decide +kernel
theorem dX6_ofRow_68 : decode cX6_ofRow 68 = .ok (.getfield 12, 3) := by decide +kernel
theorem dX6_ofRow_71 : decode cX6_ofRow 71 = .ok (.iload_n 1, 1) := by decide +kernel
theorem dX6_ofRow_72 : decode cX6_ofRow 72 = .ok (.invokevirtual 120, 3) := by decide +kernel
theorem dX6_ofRow_75 : decode cX6_ofRow 75 = .ok (.iconst 1, 1) := by decide +kernel
theorem dX6_ofRow_76 : decode cX6_ofRow 76 = .ok (.iand, 1) := by decide +kernel
theorem dX6_ofRow_77 : decode cX6_ofRow 77 = .ok (.ireturn, 1) := by decide +kernel
theorem dX6_ofRow_78 : decode cX6_ofRow 78 = .ok (.aload_n 0, 1) := by decide +kernel
theorem dX6_ofRow_79 : decode cX6_ofRow 79 = .ok (.getfield 50, 3) := by decide +kernel
theorem dX6_ofRow_82 : decode cX6_ofRow 82 = .ok (.aload_n 0, 1) := by decide +kernel
theorem dX6_ofRow_83 : decode cX6_ofRow 83 = .ok (.getfield 12, 3) := by decide +kernel
theorem dX6_ofRow_86 : decode cX6_ofRow 86 = .ok (.iload_n 1, 1) := by decide +kernel
theorem dX6_ofRow_87 : decode cX6_ofRow 87 = .ok (.invokevirtual 272, 3) := by decide +kernel
theorem dX6_ofRow_90 : decode cX6_ofRow 90 = .ok (.aload_n 0, 1) := by decide +kernel
theorem dX6_ofRow_91 : decode cX6_ofRow 91 = .ok (.getfield 50, 3) := by decide +kernel
theorem dX6_ofRow_94 : decode cX6_ofRow 94 = .ok (.getfield 276, 3) := by decide +kernel
theorem dX6_ofRow_97 : decode cX6_ofRow 97 = .ok (.ireturn, 1) := by decide +kernel
theorem dX6_ofRow_98 : decode cX6_ofRow 98 = .ok (.aload_n 0, 1) := by decide +kernel
theorem dX6_ofRow_99 : decode cX6_ofRow 99 = .ok (.getfield 50, 3) := by decide +kernel
theorem dX6_ofRow_102 : decode cX6_ofRow 102 = .ok (.aload_n 0, 1) := by decide +kernel
theorem dX6_ofRow_103 : decode cX6_ofRow 103 = .ok (.getfield 12, 3) := by decide +kernel
theorem dX6_ofRow_106 : decode cX6_ofRow 106 = .ok (.iload_n 1, 1) := by decide +kernel
theorem dX6_ofRow_107 : decode cX6_ofRow 107 = .ok (.invokevirtual 272, 3) := by decide +kernel
theorem dX6_ofRow_110 : decode cX6_ofRow 110 = .ok (.aload_n 0, 1) := by decide +kernel
theorem dX6_ofRow_111 : decode cX6_ofRow 111 = .ok (.getfield 50, 3) := by decide +kernel
theorem dX6_ofRow_114 : decode cX6_ofRow 114 = .ok (.getfield 280, 3) := by decide +kernel
theorem dX6_ofRow_117 : decode cX6_ofRow 117 = .ok (.ireturn, 1) := by decide +kernel
theorem dX6_ofRow_118 : decode cX6_ofRow 118 = .ok (.aload_n 0, 1) := by decide +kernel
theorem dX6_ofRow_119 : decode cX6_ofRow 119 = .ok (.getfield 12, 3) := by decide +kernel
theorem dX6_ofRow_122 : decode cX6_ofRow 122 = .ok (.iload_n 1, 1) := by decide +kernel
theorem dX6_ofRow_123 : decode cX6_ofRow 123 = .ok (.invokevirtual 283, 3) := by decide +kernel
theorem dX6_ofRow_126 : decode cX6_ofRow 126 = .ok (.ireturn, 1) := by decide +kernel
theorem dX6_ofAll_0 : decode cX6_ofAll 0 = .ok (.iload_n 1, 1) := by decide +kernel
theorem dX6_ofAll_1 : decode cX6_ofAll 1 = .ok (.tableswitch 113 0 7 #[47, 55, 63, 71, 79, 87, 95, 104], 47) := by decide +kernel
theorem dX6_ofAll_48 : decode cX6_ofAll 48 = .ok (.aload_n 0, 1) := by decide +kernel
theorem dX6_ofAll_49 : decode cX6_ofAll 49 = .ok (.getfield 12, 3) := by decide +kernel
theorem dX6_ofAll_52 : decode cX6_ofAll 52 = .ok (.invokevirtual 165, 3) := by decide +kernel
theorem dX6_ofAll_55 : decode cX6_ofAll 55 = .ok (.ireturn, 1) := by decide +kernel
theorem dX6_ofAll_56 : decode cX6_ofAll 56 = .ok (.aload_n 0, 1) := by decide +kernel
theorem dX6_ofAll_57 : decode cX6_ofAll 57 = .ok (.getfield 12, 3) := by decide +kernel
theorem dX6_ofAll_60 : decode cX6_ofAll 60 = .ok (.invokevirtual 103, 3) := by decide +kernel
theorem dX6_ofAll_63 : decode cX6_ofAll 63 = .ok (.ireturn, 1) := by decide +kernel
theorem dX6_ofAll_64 : decode cX6_ofAll 64 = .ok (.aload_n 0, 1) := by decide +kernel
theorem dX6_ofAll_65 : decode cX6_ofAll 65 = .ok (.getfield 12, 3) := by decide +kernel
theorem dX6_ofAll_68 : decode cX6_ofAll 68 = .ok (.getfield 286, 3) := by decide +kernel
theorem dX6_ofAll_71 : decode cX6_ofAll 71 = .ok (.ireturn, 1) := by decide +kernel
theorem dX6_ofAll_72 : decode cX6_ofAll 72 = .ok (.aload_n 0, 1) := by decide +kernel
theorem dX6_ofAll_73 : decode cX6_ofAll 73 = .ok (.getfield 12, 3) := by decide +kernel
theorem dX6_ofAll_76 : decode cX6_ofAll 76 = .ok (.getfield 289, 3) := by decide +kernel
theorem dX6_ofAll_79 : decode cX6_ofAll 79 = .ok (.ireturn, 1) := by decide +kernel
theorem dX6_ofAll_80 : decode cX6_ofAll 80 = .ok (.aload_n 0, 1) := by decide +kernel
theorem dX6_ofAll_81 : decode cX6_ofAll 81 = .ok (.getfield 12, 3) := by decide +kernel
theorem dX6_ofAll_84 : decode cX6_ofAll 84 = .ok (.getfield 292, 3) := by decide +kernel
theorem dX6_ofAll_87 : decode cX6_ofAll 87 = .ok (.ireturn, 1) := by decide +kernel
theorem dX6_ofAll_88 : decode cX6_ofAll 88 = .ok (.aload_n 0, 1) := by decide +kernel
theorem dX6_ofAll_89 : decode cX6_ofAll 89 = .ok (.getfield 12, 3) := by decide +kernel
theorem dX6_ofAll_92 : decode cX6_ofAll 92 = .ok (.invokevirtual 295, 3) := by decide +kernel
theorem dX6_ofAll_95 : decode cX6_ofAll 95 = .ok (.ireturn, 1) := by decide +kernel
theorem dX6_ofAll_96 : decode cX6_ofAll 96 = .ok (.aload_n 0, 1) := by decide +kernel
theorem dX6_ofAll_97 : decode cX6_ofAll 97 = .ok (.getfield 12, 3) := by decide +kernel
theorem dX6_ofAll_100 : decode cX6_ofAll 100 = .ok (.iconst 0, 1) := by decide +kernel
theorem dX6_ofAll_101 : decode cX6_ofAll 101 = .ok (.invokevirtual 126, 3) := by decide +kernel
theorem dX6_ofAll_104 : decode cX6_ofAll 104 = .ok (.ireturn, 1) := by decide +kernel
theorem dX6_ofAll_105 : decode cX6_ofAll 105 = .ok (.aload_n 0, 1) := by decide +kernel
theorem dX6_ofAll_106 : decode cX6_ofAll 106 = .ok (.getfield 12, 3) := by decide +kernel
theorem dX6_ofAll_109 : decode cX6_ofAll 109 = .ok (.iconst 1, 1) := by decide +kernel
theorem dX6_ofAll_110 : decode cX6_ofAll 110 = .ok (.invokevirtual 126, 3) := by decide +kernel
theorem dX6_ofAll_113 : decode cX6_ofAll 113 = .ok (.ireturn, 1) := by decide +kernel
theorem dX6_ofAll_114 : decode cX6_ofAll 114 = .ok (.aload_n 0, 1) := by decide +kernel
theorem dX6_ofAll_115 : decode cX6_ofAll 115 = .ok (.getfield 29, 3) := by decide +kernel
theorem dX6_ofAll_118 : decode cX6_ofAll 118 = .ok (.invokevirtual 158, 3) := by decide +kernel
theorem dX6_ofAll_121 : decode cX6_ofAll 121 = .ok (.ireturn, 1) := by decide +kernel
theorem dX6_bestPair_0 : decode cX6_bestPair 0 = .ok (.iconst (-1), 1) := by decide +kernel
theorem dX6_bestPair_1 : decode cX6_bestPair 1 = .ok (.istore_n 2, 1) := by decide +kernel
theorem dX6_bestPair_2 : decode cX6_bestPair 2 = .ok (.aload_n 0, 1) := by decide +kernel
theorem dX6_bestPair_3 : decode cX6_bestPair 3 = .ok (.getfield 12, 3) := by decide +kernel
theorem dX6_bestPair_6 : decode cX6_bestPair 6 = .ok (.invokevirtual 103, 3) := by decide +kernel
theorem dX6_bestPair_9 : decode cX6_bestPair 9 = .ok (.istore_n 3, 1) := by decide +kernel
theorem dX6_bestPair_10 : decode cX6_bestPair 10 = .ok (.aload_n 0, 1) := by decide +kernel
theorem dX6_bestPair_11 : decode cX6_bestPair 11 = .ok (.getfield 12, 3) := by decide +kernel
theorem dX6_bestPair_14 : decode cX6_bestPair 14 = .ok (.iload_n 1, 1) := by decide +kernel
theorem dX6_bestPair_15 : decode cX6_bestPair 15 = .ok (.invokevirtual 107, 3) := by decide +kernel
theorem dX6_bestPair_18 : decode cX6_bestPair 18 = .ok (.istore 4, 2) := by decide +kernel
theorem dX6_bestPair_20 : decode cX6_bestPair 20 = .ok (.aload_n 0, 1) := by decide +kernel
theorem dX6_bestPair_21 : decode cX6_bestPair 21 = .ok (.getfield 16, 3) := by decide +kernel
theorem dX6_bestPair_24 : decode cX6_bestPair 24 = .ok (.aload_n 0, 1) := by decide +kernel
theorem dX6_bestPair_25 : decode cX6_bestPair 25 = .ok (.getfield 12, 3) := by decide +kernel
theorem dX6_bestPair_28 : decode cX6_bestPair 28 = .ok (.invokevirtual 162, 3) := by decide +kernel
theorem dX6_bestPair_31 : decode cX6_bestPair 31 = .ok (.iconst 0, 1) := by decide +kernel
theorem dX6_bestPair_32 : decode cX6_bestPair 32 = .ok (.istore 5, 2) := by decide +kernel
theorem dX6_bestPair_34 : decode cX6_bestPair 34 = .ok (.iload 5, 2) := by decide +kernel
theorem dX6_bestPair_36 : decode cX6_bestPair 36 = .ok (.iload 4, 2) := by decide +kernel
theorem dX6_bestPair_38 : decode cX6_bestPair 38 = .ok (.if_icmp .ge 81, 3) := by decide +kernel
theorem dX6_bestPair_41 : decode cX6_bestPair 41 = .ok (.iload 5, 2) := by decide +kernel
theorem dX6_bestPair_43 : decode cX6_bestPair 43 = .ok (.iconst 1, 1) := by decide +kernel
theorem dX6_bestPair_44 : decode cX6_bestPair 44 = .ok (.iadd, 1) := by decide +kernel
theorem dX6_bestPair_45 : decode cX6_bestPair 45 = .ok (.istore 6, 2) := by decide +kernel
theorem dX6_bestPair_47 : decode cX6_bestPair 47 = .ok (.iload 6, 2) := by decide +kernel
theorem dX6_bestPair_49 : decode cX6_bestPair 49 = .ok (.iload 4, 2) := by decide +kernel
theorem dX6_bestPair_51 : decode cX6_bestPair 51 = .ok (.if_icmp .ge 62, 3) := by decide +kernel
theorem dX6_bestPair_54 : decode cX6_bestPair 54 = .ok (.aload_n 0, 1) := by decide +kernel
theorem dX6_bestPair_55 : decode cX6_bestPair 55 = .ok (.getfield 16, 3) := by decide +kernel
theorem dX6_bestPair_58 : decode cX6_bestPair 58 = .ok (.iload_n 1, 1) := by decide +kernel
theorem dX6_bestPair_59 : decode cX6_bestPair 59 = .ok (.iload 5, 2) := by decide +kernel
theorem dX6_bestPair_61 : decode cX6_bestPair 61 = .ok (.iload_n 1, 1) := by decide +kernel
theorem dX6_bestPair_62 : decode cX6_bestPair 62 = .ok (.iload 6, 2) := by decide +kernel
theorem dX6_bestPair_64 : decode cX6_bestPair 64 = .ok (.invokevirtual 180, 3) := by decide +kernel
theorem dX6_bestPair_67 : decode cX6_bestPair 67 = .ok (.aload_n 0, 1) := by decide +kernel
theorem dX6_bestPair_68 : decode cX6_bestPair 68 = .ok (.getfield 16, 3) := by decide +kernel
theorem dX6_bestPair_71 : decode cX6_bestPair 71 = .ok (.invokevirtual 103, 3) := by decide +kernel
theorem dX6_bestPair_74 : decode cX6_bestPair 74 = .ok (.istore 7, 2) := by decide +kernel
theorem dX6_bestPair_76 : decode cX6_bestPair 76 = .ok (.aload_n 0, 1) := by decide +kernel
theorem dX6_bestPair_77 : decode cX6_bestPair 77 = .ok (.getfield 16, 3) := by decide +kernel
theorem dX6_bestPair_80 : decode cX6_bestPair 80 = .ok (.iload_n 1, 1) := by decide +kernel
theorem dX6_bestPair_81 : decode cX6_bestPair 81 = .ok (.iload 5, 2) := by decide +kernel
theorem dX6_bestPair_83 : decode cX6_bestPair 83 = .ok (.iload_n 1, 1) := by decide +kernel
theorem dX6_bestPair_84 : decode cX6_bestPair 84 = .ok (.iload 6, 2) := by decide +kernel
theorem dX6_bestPair_86 : decode cX6_bestPair 86 = .ok (.invokevirtual 180, 3) := by decide +kernel
theorem dX6_bestPair_89 : decode cX6_bestPair 89 = .ok (.iload 7, 2) := by decide +kernel
theorem dX6_bestPair_91 : decode cX6_bestPair 91 = .ok (.iload_n 3, 1) := by decide +kernel
theorem dX6_bestPair_92 : decode cX6_bestPair 92 = .ok (.if_icmp .le 15, 3) := by decide +kernel
theorem dX6_bestPair_95 : decode cX6_bestPair 95 = .ok (.iload 7, 2) := by decide +kernel
theorem dX6_bestPair_97 : decode cX6_bestPair 97 = .ok (.istore_n 3, 1) := by decide +kernel
theorem dX6_bestPair_98 : decode cX6_bestPair 98 = .ok (.bipush 6, 2) := by decide +kernel
theorem dX6_bestPair_100 : decode cX6_bestPair 100 = .ok (.iload 5, 2) := by decide +kernel
theorem dX6_bestPair_102 : decode cX6_bestPair 102 = .ok (.imul, 1) := by decide +kernel
theorem dX6_bestPair_103 : decode cX6_bestPair 103 = .ok (.iload 6, 2) := by decide +kernel
theorem dX6_bestPair_105 : decode cX6_bestPair 105 = .ok (.iadd, 1) := by decide +kernel
theorem dX6_bestPair_106 : decode cX6_bestPair 106 = .ok (.istore_n 2, 1) := by decide +kernel
theorem dX6_bestPair_107 : decode cX6_bestPair 107 = .ok (.iinc 6 1, 3) := by decide +kernel
theorem dX6_bestPair_110 : decode cX6_bestPair 110 = .ok (.goto (-63), 3) := by decide +kernel
theorem dX6_bestPair_113 : decode cX6_bestPair 113 = .ok (.iinc 5 1, 3) := by decide +kernel
theorem dX6_bestPair_116 : decode cX6_bestPair 116 = .ok (.goto (-82), 3) := by decide +kernel
theorem dX6_bestPair_119 : decode cX6_bestPair 119 = .ok (.iload_n 2, 1) := by decide +kernel
theorem dX6_bestPair_120 : decode cX6_bestPair 120 = .ok (.ireturn, 1) := by decide +kernel
theorem dX6_bestRowFor_0 : decode cX6_bestRowFor 0 = .ok (.iconst (-1), 1) := by decide +kernel
theorem dX6_bestRowFor_1 : decode cX6_bestRowFor 1 = .ok (.istore_n 2, 1) := by decide +kernel
theorem dX6_bestRowFor_2 : decode cX6_bestRowFor 2 = .ok (.iconst (-1), 1) := by decide +kernel
theorem dX6_bestRowFor_3 : decode cX6_bestRowFor 3 = .ok (.istore_n 3, 1) := by decide +kernel
theorem dX6_bestRowFor_4 : decode cX6_bestRowFor 4 = .ok (.iconst 0, 1) := by decide +kernel
theorem dX6_bestRowFor_5 : decode cX6_bestRowFor 5 = .ok (.istore 4, 2) := by decide +kernel
theorem dX6_bestRowFor_7 : decode cX6_bestRowFor 7 = .ok (.iload 4, 2) := by decide +kernel
theorem dX6_bestRowFor_9 : decode cX6_bestRowFor 9 = .ok (.iconst 4, 1) := by decide +kernel
theorem dX6_bestRowFor_10 : decode cX6_bestRowFor 10 = .ok (.if_icmp .ge 67, 3) := by decide +kernel
theorem dX6_bestRowFor_13 : decode cX6_bestRowFor 13 = .ok (.aload_n 0, 1) := by decide +kernel
theorem dX6_bestRowFor_14 : decode cX6_bestRowFor 14 = .ok (.getfield 12, 3) := by decide +kernel
theorem dX6_bestRowFor_17 : decode cX6_bestRowFor 17 = .ok (.iload 4, 2) := by decide +kernel
theorem dX6_bestRowFor_19 : decode cX6_bestRowFor 19 = .ok (.invokevirtual 107, 3) := by decide +kernel
theorem dX6_bestRowFor_22 : decode cX6_bestRowFor 22 = .ok (.bipush 6, 2) := by decide +kernel
theorem dX6_bestRowFor_24 : decode cX6_bestRowFor 24 = .ok (.if_icmp .ge 47, 3) := by decide +kernel
theorem dX6_bestRowFor_27 : decode cX6_bestRowFor 27 = .ok (.aload_n 0, 1) := by decide +kernel
theorem dX6_bestRowFor_28 : decode cX6_bestRowFor 28 = .ok (.getfield 16, 3) := by decide +kernel
theorem dX6_bestRowFor_31 : decode cX6_bestRowFor 31 = .ok (.aload_n 0, 1) := by decide +kernel
theorem dX6_bestRowFor_32 : decode cX6_bestRowFor 32 = .ok (.getfield 12, 3) := by decide +kernel
theorem dX6_bestRowFor_35 : decode cX6_bestRowFor 35 = .ok (.invokevirtual 162, 3) := by decide +kernel
theorem dX6_bestRowFor_38 : decode cX6_bestRowFor 38 = .ok (.aload_n 0, 1) := by decide +kernel
theorem dX6_bestRowFor_39 : decode cX6_bestRowFor 39 = .ok (.getfield 16, 3) := by decide +kernel
theorem dX6_bestRowFor_42 : decode cX6_bestRowFor 42 = .ok (.iload 4, 2) := by decide +kernel
theorem dX6_bestRowFor_44 : decode cX6_bestRowFor 44 = .ok (.iload_n 1, 1) := by decide +kernel
theorem dX6_bestRowFor_45 : decode cX6_bestRowFor 45 = .ok (.iconst 0, 1) := by decide +kernel
theorem dX6_bestRowFor_46 : decode cX6_bestRowFor 46 = .ok (.invokevirtual 80, 3) := by decide +kernel
theorem dX6_bestRowFor_49 : decode cX6_bestRowFor 49 = .ok (.pop, 1) := by decide +kernel
theorem dX6_bestRowFor_50 : decode cX6_bestRowFor 50 = .ok (.aload_n 0, 1) := by decide +kernel
theorem dX6_bestRowFor_51 : decode cX6_bestRowFor 51 = .ok (.getfield 16, 3) := by decide +kernel
theorem dX6_bestRowFor_54 : decode cX6_bestRowFor 54 = .ok (.invokevirtual 103, 3) := by decide +kernel
theorem dX6_bestRowFor_57 : decode cX6_bestRowFor 57 = .ok (.istore 5, 2) := by decide +kernel
theorem dX6_bestRowFor_59 : decode cX6_bestRowFor 59 = .ok (.iload 5, 2) := by decide +kernel
theorem dX6_bestRowFor_61 : decode cX6_bestRowFor 61 = .ok (.iload_n 3, 1) := by decide +kernel
theorem dX6_bestRowFor_62 : decode cX6_bestRowFor 62 = .ok (.if_icmp .le 9, 3) := by decide +kernel
theorem dX6_bestRowFor_65 : decode cX6_bestRowFor 65 = .ok (.iload 5, 2) := by decide +kernel
theorem dX6_bestRowFor_67 : decode cX6_bestRowFor 67 = .ok (.istore_n 3, 1) := by decide +kernel
theorem dX6_bestRowFor_68 : decode cX6_bestRowFor 68 = .ok (.iload 4, 2) := by decide +kernel
theorem dX6_bestRowFor_70 : decode cX6_bestRowFor 70 = .ok (.istore_n 2, 1) := by decide +kernel
theorem dX6_bestRowFor_71 : decode cX6_bestRowFor 71 = .ok (.iinc 4 1, 3) := by decide +kernel
theorem dX6_bestRowFor_74 : decode cX6_bestRowFor 74 = .ok (.goto (-67), 3) := by decide +kernel
theorem dX6_bestRowFor_77 : decode cX6_bestRowFor 77 = .ok (.iload_n 2, 1) := by decide +kernel
theorem dX6_bestRowFor_78 : decode cX6_bestRowFor 78 = .ok (.ireturn, 1) := by decide +kernel
theorem dX6_oddWithReach_0 : decode cX6_oddWithReach 0 = .ok (.aload_n 0, 1) := by decide +kernel
theorem dX6_oddWithReach_1 : decode cX6_oddWithReach 1 = .ok (.getfield 16, 3) := by decide +kernel
theorem dX6_oddWithReach_4 : decode cX6_oddWithReach 4 = .ok (.aload_n 0, 1) := by decide +kernel
theorem dX6_oddWithReach_5 : decode cX6_oddWithReach 5 = .ok (.getfield 12, 3) := by decide +kernel
theorem dX6_oddWithReach_8 : decode cX6_oddWithReach 8 = .ok (.invokevirtual 162, 3) := by decide +kernel
theorem dX6_oddWithReach_11 : decode cX6_oddWithReach 11 = .ok (.aload_n 0, 1) := by decide +kernel
theorem dX6_oddWithReach_12 : decode cX6_oddWithReach 12 = .ok (.getfield 16, 3) := by decide +kernel
theorem dX6_oddWithReach_15 : decode cX6_oddWithReach 15 = .ok (.iconst 0, 1) := by decide +kernel
theorem dX6_oddWithReach_16 : decode cX6_oddWithReach 16 = .ok (.iload_n 1, 1) := by decide +kernel
theorem dX6_oddWithReach_17 : decode cX6_oddWithReach 17 = .ok (.invokevirtual 129, 3) := by decide +kernel
theorem dX6_oddWithReach_20 : decode cX6_oddWithReach 20 = .ok (.aload_n 0, 1) := by decide +kernel
theorem dX6_oddWithReach_21 : decode cX6_oddWithReach 21 = .ok (.getfield 16, 3) := by decide +kernel
theorem dX6_oddWithReach_24 : decode cX6_oddWithReach 24 = .ok (.invokevirtual 103, 3) := by decide +kernel
theorem dX6_oddWithReach_27 : decode cX6_oddWithReach 27 = .ok (.ireturn, 1) := by decide +kernel
theorem dJ6_bitCount_0f7a4_0 : decode cJ6_bitCount_0f7a4 0 = .ok (.iload_n 0, 1) := by decide +kernel
theorem dJ6_bitCount_0f7a4_1 : decode cJ6_bitCount_0f7a4 1 = .ok (.iload_n 0, 1) := by decide +kernel
theorem dJ6_bitCount_0f7a4_2 : decode cJ6_bitCount_0f7a4 2 = .ok (.iconst 1, 1) := by decide +kernel
theorem dJ6_bitCount_0f7a4_3 : decode cJ6_bitCount_0f7a4 3 = .ok (.iushr, 1) := by decide +kernel
theorem dJ6_bitCount_0f7a4_4 : decode cJ6_bitCount_0f7a4 4 = .ok (.ldc_w 265, 3) := by decide +kernel
theorem dJ6_bitCount_0f7a4_7 : decode cJ6_bitCount_0f7a4 7 = .ok (.iand, 1) := by decide +kernel
theorem dJ6_bitCount_0f7a4_8 : decode cJ6_bitCount_0f7a4 8 = .ok (.isub, 1) := by decide +kernel
theorem dJ6_bitCount_0f7a4_9 : decode cJ6_bitCount_0f7a4 9 = .ok (.istore_n 0, 1) := by decide +kernel
theorem dJ6_bitCount_0f7a4_10 : decode cJ6_bitCount_0f7a4 10 = .ok (.iload_n 0, 1) := by decide +kernel
theorem dJ6_bitCount_0f7a4_11 : decode cJ6_bitCount_0f7a4 11 = .ok (.ldc_w 266, 3) := by decide +kernel
theorem dJ6_bitCount_0f7a4_14 : decode cJ6_bitCount_0f7a4 14 = .ok (.iand, 1) := by decide +kernel
theorem dJ6_bitCount_0f7a4_15 : decode cJ6_bitCount_0f7a4 15 = .ok (.iload_n 0, 1) := by decide +kernel
theorem dJ6_bitCount_0f7a4_16 : decode cJ6_bitCount_0f7a4 16 = .ok (.iconst 2, 1) := by decide +kernel
theorem dJ6_bitCount_0f7a4_17 : decode cJ6_bitCount_0f7a4 17 = .ok (.iushr, 1) := by decide +kernel
theorem dJ6_bitCount_0f7a4_18 : decode cJ6_bitCount_0f7a4 18 = .ok (.ldc_w 266, 3) := by decide +kernel
theorem dJ6_bitCount_0f7a4_21 : decode cJ6_bitCount_0f7a4 21 = .ok (.iand, 1) := by decide +kernel
theorem dJ6_bitCount_0f7a4_22 : decode cJ6_bitCount_0f7a4 22 = .ok (.iadd, 1) := by decide +kernel
theorem dJ6_bitCount_0f7a4_23 : decode cJ6_bitCount_0f7a4 23 = .ok (.istore_n 0, 1) := by decide +kernel
theorem dJ6_bitCount_0f7a4_24 : decode cJ6_bitCount_0f7a4 24 = .ok (.iload_n 0, 1) := by decide +kernel
theorem dJ6_bitCount_0f7a4_25 : decode cJ6_bitCount_0f7a4 25 = .ok (.iload_n 0, 1) := by decide +kernel
theorem dJ6_bitCount_0f7a4_26 : decode cJ6_bitCount_0f7a4 26 = .ok (.iconst 4, 1) := by decide +kernel
theorem dJ6_bitCount_0f7a4_27 : decode cJ6_bitCount_0f7a4 27 = .ok (.iushr, 1) := by decide +kernel
theorem dJ6_bitCount_0f7a4_28 : decode cJ6_bitCount_0f7a4 28 = .ok (.iadd, 1) := by decide +kernel
theorem dJ6_bitCount_0f7a4_29 : decode cJ6_bitCount_0f7a4 29 = .ok (.ldc_w 267, 3) := by decide +kernel
theorem dJ6_bitCount_0f7a4_32 : decode cJ6_bitCount_0f7a4 32 = .ok (.iand, 1) := by decide +kernel
theorem dJ6_bitCount_0f7a4_33 : decode cJ6_bitCount_0f7a4 33 = .ok (.istore_n 0, 1) := by decide +kernel
theorem dJ6_bitCount_0f7a4_34 : decode cJ6_bitCount_0f7a4 34 = .ok (.iload_n 0, 1) := by decide +kernel
theorem dJ6_bitCount_0f7a4_35 : decode cJ6_bitCount_0f7a4 35 = .ok (.iload_n 0, 1) := by decide +kernel
theorem dJ6_bitCount_0f7a4_36 : decode cJ6_bitCount_0f7a4 36 = .ok (.bipush 8, 2) := by decide +kernel
theorem dJ6_bitCount_0f7a4_38 : decode cJ6_bitCount_0f7a4 38 = .ok (.iushr, 1) := by decide +kernel
theorem dJ6_bitCount_0f7a4_39 : decode cJ6_bitCount_0f7a4 39 = .ok (.iadd, 1) := by decide +kernel
theorem dJ6_bitCount_0f7a4_40 : decode cJ6_bitCount_0f7a4 40 = .ok (.istore_n 0, 1) := by decide +kernel
theorem dJ6_bitCount_0f7a4_41 : decode cJ6_bitCount_0f7a4 41 = .ok (.iload_n 0, 1) := by decide +kernel
theorem dJ6_bitCount_0f7a4_42 : decode cJ6_bitCount_0f7a4 42 = .ok (.iload_n 0, 1) := by decide +kernel
theorem dJ6_bitCount_0f7a4_43 : decode cJ6_bitCount_0f7a4 43 = .ok (.bipush 16, 2) := by decide +kernel
theorem dJ6_bitCount_0f7a4_45 : decode cJ6_bitCount_0f7a4 45 = .ok (.iushr, 1) := by decide +kernel
theorem dJ6_bitCount_0f7a4_46 : decode cJ6_bitCount_0f7a4 46 = .ok (.iadd, 1) := by decide +kernel
theorem dJ6_bitCount_0f7a4_47 : decode cJ6_bitCount_0f7a4 47 = .ok (.istore_n 0, 1) := by decide +kernel
theorem dJ6_bitCount_0f7a4_48 : decode cJ6_bitCount_0f7a4 48 = .ok (.iload_n 0, 1) := by decide +kernel
theorem dJ6_bitCount_0f7a4_49 : decode cJ6_bitCount_0f7a4 49 = .ok (.bipush 63, 2) := by decide +kernel
theorem dJ6_bitCount_0f7a4_51 : decode cJ6_bitCount_0f7a4 51 = .ok (.iand, 1) := by decide +kernel
theorem dJ6_bitCount_0f7a4_52 : decode cJ6_bitCount_0f7a4 52 = .ok (.ireturn, 1) := by decide +kernel
theorem dJ9_floorMod_7cf53_0 : decode cJ9_floorMod_7cf53 0 = .ok (.iload_n 0, 1) := by decide +kernel
theorem dJ9_floorMod_7cf53_1 : decode cJ9_floorMod_7cf53 1 = .ok (.iload_n 1, 1) := by decide +kernel
theorem dJ9_floorMod_7cf53_2 : decode cJ9_floorMod_7cf53 2 = .ok (.irem, 1) := by decide +kernel
theorem dJ9_floorMod_7cf53_3 : decode cJ9_floorMod_7cf53 3 = .ok (.istore_n 2, 1) := by decide +kernel
theorem dJ9_floorMod_7cf53_4 : decode cJ9_floorMod_7cf53 4 = .ok (.iload_n 0, 1) := by decide +kernel
theorem dJ9_floorMod_7cf53_5 : decode cJ9_floorMod_7cf53 5 = .ok (.iload_n 1, 1) := by decide +kernel
theorem dJ9_floorMod_7cf53_6 : decode cJ9_floorMod_7cf53 6 = .ok (.ixor, 1) := by decide +kernel
theorem dJ9_floorMod_7cf53_7 : decode cJ9_floorMod_7cf53 7 = .ok (.ifCond .ge 11, 3) := by decide +kernel
theorem dJ9_floorMod_7cf53_10 : decode cJ9_floorMod_7cf53 10 = .ok (.iload_n 2, 1) := by decide +kernel
theorem dJ9_floorMod_7cf53_11 : decode cJ9_floorMod_7cf53 11 = .ok (.ifCond .eq 7, 3) := by decide +kernel
theorem dJ9_floorMod_7cf53_14 : decode cJ9_floorMod_7cf53 14 = .ok (.iload_n 2, 1) := by decide +kernel
theorem dJ9_floorMod_7cf53_15 : decode cJ9_floorMod_7cf53 15 = .ok (.iload_n 1, 1) := by decide +kernel
theorem dJ9_floorMod_7cf53_16 : decode cJ9_floorMod_7cf53 16 = .ok (.iadd, 1) := by decide +kernel
theorem dJ9_floorMod_7cf53_17 : decode cJ9_floorMod_7cf53 17 = .ok (.ireturn, 1) := by decide +kernel
theorem dJ9_floorMod_7cf53_18 : decode cJ9_floorMod_7cf53 18 = .ok (.iload_n 2, 1) := by decide +kernel
theorem dJ9_floorMod_7cf53_19 : decode cJ9_floorMod_7cf53 19 = .ok (.ireturn, 1) := by decide +kernel
theorem dJ9_max_7cf53_0 : decode cJ9_max_7cf53 0 = .ok (.iload_n 0, 1) := by decide +kernel
theorem dJ9_max_7cf53_1 : decode cJ9_max_7cf53 1 = .ok (.iload_n 1, 1) := by decide +kernel
theorem dJ9_max_7cf53_2 : decode cJ9_max_7cf53 2 = .ok (.if_icmp .lt 7, 3) := by decide +kernel
theorem dJ9_max_7cf53_5 : decode cJ9_max_7cf53 5 = .ok (.iload_n 0, 1) := by decide +kernel
theorem dJ9_max_7cf53_6 : decode cJ9_max_7cf53 6 = .ok (.goto 4, 3) := by decide +kernel
theorem dJ9_max_7cf53_9 : decode cJ9_max_7cf53 9 = .ok (.iload_n 1, 1) := by decide +kernel
theorem dJ9_max_7cf53_10 : decode cJ9_max_7cf53 10 = .ok (.ireturn, 1) := by decide +kernel
theorem dJ9_min_7cf53_0 : decode cJ9_min_7cf53 0 = .ok (.iload_n 0, 1) := by decide +kernel
theorem dJ9_min_7cf53_1 : decode cJ9_min_7cf53 1 = .ok (.iload_n 1, 1) := by decide +kernel
theorem dJ9_min_7cf53_2 : decode cJ9_min_7cf53 2 = .ok (.if_icmp .gt 7, 3) := by decide +kernel
theorem dJ9_min_7cf53_5 : decode cJ9_min_7cf53 5 = .ok (.iload_n 0, 1) := by decide +kernel
theorem dJ9_min_7cf53_6 : decode cJ9_min_7cf53 6 = .ok (.goto 4, 3) := by decide +kernel
theorem dJ9_min_7cf53_9 : decode cJ9_min_7cf53 9 = .ok (.iload_n 1, 1) := by decide +kernel
theorem dJ9_min_7cf53_10 : decode cJ9_min_7cf53 10 = .ok (.ireturn, 1) := by decide +kernel
theorem dJ0_length_8abf5_0 : decode cJ0_length_8abf5 0 = .ok (.aload_n 0, 1) := by decide +kernel
theorem dJ0_length_8abf5_1 : decode cJ0_length_8abf5 1 = .ok (.getfield 9, 3) := by decide +kernel
theorem dJ0_length_8abf5_4 : decode cJ0_length_8abf5 4 = .ok (.arraylength, 1) := by decide +kernel
theorem dJ0_length_8abf5_5 : decode cJ0_length_8abf5 5 = .ok (.aload_n 0, 1) := by decide +kernel
theorem dJ0_length_8abf5_6 : decode cJ0_length_8abf5 6 = .ok (.invokevirtual 335, 3) := by decide +kernel
theorem dJ0_length_8abf5_9 : decode cJ0_length_8abf5 9 = .ok (.ishr, 1) := by decide +kernel
theorem dJ0_length_8abf5_10 : decode cJ0_length_8abf5 10 = .ok (.ireturn, 1) := by decide +kernel
theorem dJ0_charAt_5068e_0 : decode cJ0_charAt_5068e 0 = .ok (.aload_n 0, 1) := by decide +kernel
theorem dJ0_charAt_5068e_1 : decode cJ0_charAt_5068e 1 = .ok (.invokevirtual 492, 3) := by decide +kernel
theorem dJ0_charAt_5068e_4 : decode cJ0_charAt_5068e 4 = .ok (.ifCond .eq 12, 3) := by decide +kernel
theorem dJ0_charAt_5068e_7 : decode cJ0_charAt_5068e 7 = .ok (.aload_n 0, 1) := by decide +kernel
theorem dJ0_charAt_5068e_8 : decode cJ0_charAt_5068e 8 = .ok (.getfield 9, 3) := by decide +kernel
theorem dJ0_charAt_5068e_11 : decode cJ0_charAt_5068e 11 = .ok (.iload_n 1, 1) := by decide +kernel
theorem dJ0_charAt_5068e_12 : decode cJ0_charAt_5068e 12 = .ok (.invokestatic 495, 3) := by decide +kernel
theorem dJ0_charAt_5068e_15 : decode cJ0_charAt_5068e 15 = .ok (.ireturn, 1) := by decide +kernel
theorem dJ0_charAt_5068e_16 : decode cJ0_charAt_5068e 16 = .ok (.aload_n 0, 1) := by decide +kernel
theorem dJ0_charAt_5068e_17 : decode cJ0_charAt_5068e 17 = .ok (.getfield 9, 3) := by decide +kernel
theorem dJ0_charAt_5068e_20 : decode cJ0_charAt_5068e 20 = .ok (.iload_n 1, 1) := by decide +kernel
theorem dJ0_charAt_5068e_21 : decode cJ0_charAt_5068e 21 = .ok (.invokestatic 498, 3) := by decide +kernel
theorem dJ0_charAt_5068e_24 : decode cJ0_charAt_5068e 24 = .ok (.ireturn, 1) := by decide +kernel
theorem dJ0_coder_7d493_0 : decode cJ0_coder_7d493 0 = .ok (.getstatic 38, 3) := by decide +kernel
theorem dJ0_coder_7d493_3 : decode cJ0_coder_7d493 3 = .ok (.ifCond .eq 10, 3) := by decide +kernel
theorem dJ0_coder_7d493_6 : decode cJ0_coder_7d493 6 = .ok (.aload_n 0, 1) := by decide +kernel
theorem dJ0_coder_7d493_7 : decode cJ0_coder_7d493 7 = .ok (.getfield 15, 3) := by decide +kernel
theorem dJ0_coder_7d493_10 : decode cJ0_coder_7d493 10 = .ok (.goto 4, 3) := by decide +kernel
theorem dJ0_coder_7d493_13 : decode cJ0_coder_7d493 13 = .ok (.iconst 1, 1) := by decide +kernel
theorem dJ0_coder_7d493_14 : decode cJ0_coder_7d493 14 = .ok (.ireturn, 1) := by decide +kernel
theorem dJ0_isLatin1_aae02_0 : decode cJ0_isLatin1_aae02 0 = .ok (.getstatic 38, 3) := by decide +kernel
theorem dJ0_isLatin1_aae02_3 : decode cJ0_isLatin1_aae02 3 = .ok (.ifCond .eq 14, 3) := by decide +kernel
theorem dJ0_isLatin1_aae02_6 : decode cJ0_isLatin1_aae02 6 = .ok (.aload_n 0, 1) := by decide +kernel
theorem dJ0_isLatin1_aae02_7 : decode cJ0_isLatin1_aae02 7 = .ok (.getfield 15, 3) := by decide +kernel
theorem dJ0_isLatin1_aae02_10 : decode cJ0_isLatin1_aae02 10 = .ok (.ifCond .ne 7, 3) := by decide +kernel
theorem dJ0_isLatin1_aae02_13 : decode cJ0_isLatin1_aae02 13 = .ok (.iconst 1, 1) := by decide +kernel
theorem dJ0_isLatin1_aae02_14 : decode cJ0_isLatin1_aae02 14 = .ok (.goto 4, 3) := by decide +kernel
theorem dJ0_isLatin1_aae02_17 : decode cJ0_isLatin1_aae02 17 = .ok (.iconst 0, 1) := by decide +kernel
theorem dJ0_isLatin1_aae02_18 : decode cJ0_isLatin1_aae02 18 = .ok (.ireturn, 1) := by decide +kernel
theorem dJ0_checkIndex_df160_0 : decode cJ0_checkIndex_df160 0 = .ok (.iload_n 0, 1) := by decide +kernel
theorem dJ0_checkIndex_df160_1 : decode cJ0_checkIndex_df160 1 = .ok (.iload_n 1, 1) := by decide +kernel
theorem dJ0_checkIndex_df160_2 : decode cJ0_checkIndex_df160 2 = .ok (.getstatic 1053, 3) := by decide +kernel
theorem dJ0_checkIndex_df160_5 : decode cJ0_checkIndex_df160 5 = .ok (.invokestatic 1059, 3) := by decide +kernel
theorem dJ0_checkIndex_df160_8 : decode cJ0_checkIndex_df160 8 = .ok (.pop, 1) := by decide +kernel
theorem dJ0_checkIndex_df160_9 : decode cJ0_checkIndex_df160 9 = .ok (.return_, 1) := by decide +kernel
theorem dJ1_charAt_3b067_0 : decode cJ1_charAt_3b067 0 = .ok (.iload_n 1, 1) := by decide +kernel
theorem dJ1_charAt_3b067_1 : decode cJ1_charAt_3b067 1 = .ok (.aload_n 0, 1) := by decide +kernel
theorem dJ1_charAt_3b067_2 : decode cJ1_charAt_3b067 2 = .ok (.arraylength, 1) := by decide +kernel
theorem dJ1_charAt_3b067_3 : decode cJ1_charAt_3b067 3 = .ok (.invokestatic 9, 3) := by decide +kernel
theorem dJ1_charAt_3b067_6 : decode cJ1_charAt_3b067 6 = .ok (.aload_n 0, 1) := by decide +kernel
theorem dJ1_charAt_3b067_7 : decode cJ1_charAt_3b067 7 = .ok (.iload_n 1, 1) := by decide +kernel
theorem dJ1_charAt_3b067_8 : decode cJ1_charAt_3b067 8 = .ok (.baload, 1) := by decide +kernel
theorem dJ1_charAt_3b067_9 : decode cJ1_charAt_3b067 9 = .ok (.sipush 255, 3) := by decide +kernel
theorem dJ1_charAt_3b067_12 : decode cJ1_charAt_3b067 12 = .ok (.iand, 1) := by decide +kernel
theorem dJ1_charAt_3b067_13 : decode cJ1_charAt_3b067 13 = .ok (.i2c, 1) := by decide +kernel
theorem dJ1_charAt_3b067_14 : decode cJ1_charAt_3b067 14 = .ok (.ireturn, 1) := by decide +kernel
theorem dJ2_getChar_3b067_0 : decode cJ2_getChar_3b067 0 = .ok (.getstatic 44, 3) := by decide +kernel
theorem dJ2_getChar_3b067_3 : decode cJ2_getChar_3b067 3 = .ok (.ifCond .ne 25, 3) := by decide +kernel
theorem dJ2_getChar_3b067_6 : decode cJ2_getChar_3b067 6 = .ok (.iload_n 1, 1) := by decide +kernel
theorem dJ2_getChar_3b067_7 : decode cJ2_getChar_3b067 7 = .ok (.ifCond .lt 11, 3) := by decide +kernel
theorem dJ2_getChar_3b067_10 : decode cJ2_getChar_3b067 10 = .ok (.iload_n 1, 1) := by decide +kernel
theorem dJ2_getChar_3b067_11 : decode cJ2_getChar_3b067 11 = .ok (.aload_n 0, 1) := by decide +kernel
theorem dJ2_getChar_3b067_12 : decode cJ2_getChar_3b067 12 = .ok (.invokestatic 48, 3) := by decide +kernel
theorem dJ2_getChar_3b067_15 : decode cJ2_getChar_3b067 15 = .ok (.if_icmp .lt 13, 3) := by decide +kernel
theorem dJ2_getChar_3b067_18 : decode cJ2_getChar_3b067 18 = .ok (.new 52, 3) := by decide +kernel
theorem dJ2_getChar_3b067_21 : decode cJ2_getChar_3b067 21 = .ok (.dup, 1) := by decide +kernel
theorem dJ2_getChar_3b067_22 : decode cJ2_getChar_3b067 22 = .ok (.ldc 54, 2) := by decide +kernel
theorem dJ2_getChar_3b067_24 : decode cJ2_getChar_3b067 24 = .ok (.invokespecial 56, 3) := by decide +kernel
theorem dJ2_getChar_3b067_27 : decode cJ2_getChar_3b067 27 = .ok (.athrow, 1) := by decide +kernel
theorem dJ2_getChar_3b067_28 : decode cJ2_getChar_3b067 28 = .ok (.iload_n 1, 1) := by decide +kernel
theorem dJ2_getChar_3b067_29 : decode cJ2_getChar_3b067 29 = .ok (.iconst 1, 1) := by decide +kernel
theorem dJ2_getChar_3b067_30 : decode cJ2_getChar_3b067 30 = .ok (.ishl, 1) := by decide +kernel
theorem dJ2_getChar_3b067_31 : decode cJ2_getChar_3b067 31 = .ok (.istore_n 1, 1) := by decide +kernel
theorem dJ2_getChar_3b067_32 : decode cJ2_getChar_3b067 32 = .ok (.aload_n 0, 1) := by decide +kernel
theorem dJ2_getChar_3b067_33 : decode cJ2_getChar_3b067 33 = .ok (.iload_n 1, 1) := by decide +kernel
theorem dJ2_getChar_3b067_34 : decode cJ2_getChar_3b067 34 = .ok (.iinc 1 1, 3) := by decide +kernel
theorem dJ2_getChar_3b067_37 : decode cJ2_getChar_3b067 37 = .ok (.baload, 1) := by decide +kernel
theorem dJ2_getChar_3b067_38 : decode cJ2_getChar_3b067 38 = .ok (.sipush 255, 3) := by decide +kernel
theorem dJ2_getChar_3b067_41 : decode cJ2_getChar_3b067 41 = .ok (.iand, 1) := by decide +kernel
theorem dJ2_getChar_3b067_42 : decode cJ2_getChar_3b067 42 = .ok (.getstatic 59, 3) := by decide +kernel
theorem dJ2_getChar_3b067_45 : decode cJ2_getChar_3b067 45 = .ok (.ishl, 1) := by decide +kernel
theorem dJ2_getChar_3b067_46 : decode cJ2_getChar_3b067 46 = .ok (.aload_n 0, 1) := by decide +kernel
theorem dJ2_getChar_3b067_47 : decode cJ2_getChar_3b067 47 = .ok (.iload_n 1, 1) := by decide +kernel
theorem dJ2_getChar_3b067_48 : decode cJ2_getChar_3b067 48 = .ok (.baload, 1) := by decide +kernel
theorem dJ2_getChar_3b067_49 : decode cJ2_getChar_3b067 49 = .ok (.sipush 255, 3) := by decide +kernel
theorem dJ2_getChar_3b067_52 : decode cJ2_getChar_3b067 52 = .ok (.iand, 1) := by decide +kernel
theorem dJ2_getChar_3b067_53 : decode cJ2_getChar_3b067 53 = .ok (.getstatic 63, 3) := by decide +kernel
theorem dJ2_getChar_3b067_56 : decode cJ2_getChar_3b067 56 = .ok (.ishl, 1) := by decide +kernel
theorem dJ2_getChar_3b067_57 : decode cJ2_getChar_3b067 57 = .ok (.ior, 1) := by decide +kernel
theorem dJ2_getChar_3b067_58 : decode cJ2_getChar_3b067 58 = .ok (.i2c, 1) := by decide +kernel
theorem dJ2_getChar_3b067_59 : decode cJ2_getChar_3b067 59 = .ok (.ireturn, 1) := by decide +kernel
theorem dJ2_length_9d52b_0 : decode cJ2_length_9d52b 0 = .ok (.aload_n 0, 1) := by decide +kernel
theorem dJ2_length_9d52b_1 : decode cJ2_length_9d52b 1 = .ok (.arraylength, 1) := by decide +kernel
theorem dJ2_length_9d52b_2 : decode cJ2_length_9d52b 2 = .ok (.iconst 1, 1) := by decide +kernel
theorem dJ2_length_9d52b_3 : decode cJ2_length_9d52b 3 = .ok (.ishr, 1) := by decide +kernel
theorem dJ2_length_9d52b_4 : decode cJ2_length_9d52b 4 = .ok (.ireturn, 1) := by decide +kernel
theorem dJ2_charAt_3b067_0 : decode cJ2_charAt_3b067 0 = .ok (.iload_n 1, 1) := by decide +kernel
theorem dJ2_charAt_3b067_1 : decode cJ2_charAt_3b067 1 = .ok (.aload_n 0, 1) := by decide +kernel
theorem dJ2_charAt_3b067_2 : decode cJ2_charAt_3b067 2 = .ok (.invokestatic 67, 3) := by decide +kernel
theorem dJ2_charAt_3b067_5 : decode cJ2_charAt_3b067 5 = .ok (.aload_n 0, 1) := by decide +kernel
theorem dJ2_charAt_3b067_6 : decode cJ2_charAt_3b067 6 = .ok (.iload_n 1, 1) := by decide +kernel
theorem dJ2_charAt_3b067_7 : decode cJ2_charAt_3b067 7 = .ok (.invokestatic 71, 3) := by decide +kernel
theorem dJ2_charAt_3b067_10 : decode cJ2_charAt_3b067 10 = .ok (.ireturn, 1) := by decide +kernel
theorem dJ2_checkIndex_2214a_0 : decode cJ2_checkIndex_2214a 0 = .ok (.iload_n 0, 1) := by decide +kernel
theorem dJ2_checkIndex_2214a_1 : decode cJ2_checkIndex_2214a 1 = .ok (.aload_n 1, 1) := by decide +kernel
theorem dJ2_checkIndex_2214a_2 : decode cJ2_checkIndex_2214a 2 = .ok (.invokestatic 48, 3) := by decide +kernel
theorem dJ2_checkIndex_2214a_5 : decode cJ2_checkIndex_2214a 5 = .ok (.invokestatic 414, 3) := by decide +kernel
theorem dJ2_checkIndex_2214a_8 : decode cJ2_checkIndex_2214a 8 = .ok (.return_, 1) := by decide +kernel
theorem dJ3_checkIndex_8e157_0 : decode cJ3_checkIndex_8e157 0 = .ok (.iload_n 0, 1) := by decide +kernel
theorem dJ3_checkIndex_8e157_1 : decode cJ3_checkIndex_8e157 1 = .ok (.ifCond .lt 8, 3) := by decide +kernel
theorem dJ3_checkIndex_8e157_4 : decode cJ3_checkIndex_8e157 4 = .ok (.iload_n 0, 1) := by decide +kernel
theorem dJ3_checkIndex_8e157_5 : decode cJ3_checkIndex_8e157 5 = .ok (.iload_n 1, 1) := by decide +kernel
theorem dJ3_checkIndex_8e157_6 : decode cJ3_checkIndex_8e157 6 = .ok (.if_icmp .lt 10, 3) := by decide +kernel
theorem dJ3_checkIndex_8e157_9 : decode cJ3_checkIndex_8e157 9 = .ok (.aload_n 2, 1) := by decide +kernel
theorem dJ3_checkIndex_8e157_10 : decode cJ3_checkIndex_8e157 10 = .ok (.iload_n 0, 1) := by decide +kernel
theorem dJ3_checkIndex_8e157_11 : decode cJ3_checkIndex_8e157 11 = .ok (.iload_n 1, 1) := by decide +kernel
theorem dJ3_checkIndex_8e157_12 : decode cJ3_checkIndex_8e157 12 = .ok (.invokestatic 95, 3) := by decide +kernel
theorem dJ3_checkIndex_8e157_15 : decode cJ3_checkIndex_8e157 15 = .ok (.athrow, 1) := by decide +kernel
theorem dJ3_checkIndex_8e157_16 : decode cJ3_checkIndex_8e157 16 = .ok (.iload_n 0, 1) := by decide +kernel
theorem dJ3_checkIndex_8e157_17 : decode cJ3_checkIndex_8e157 17 = .ok (.ireturn, 1) := by decide +kernel
theorem dL_cell_0 : decode cL_cell 0 = .ok (.iload_n 1, 1) := by decide +kernel
theorem dL_cell_1 : decode cL_cell 1 = .ok (.aload_n 0, 1) := by decide +kernel
theorem dL_cell_2 : decode cL_cell 2 = .ok (.arraylength, 1) := by decide +kernel
theorem dL_cell_3 : decode cL_cell 3 = .ok (.if_icmp .ge 9, 3) := by decide +kernel
theorem dL_cell_6 : decode cL_cell 6 = .ok (.aload_n 0, 1) := by decide +kernel
theorem dL_cell_7 : decode cL_cell 7 = .ok (.iload_n 1, 1) := by decide +kernel
theorem dL_cell_8 : decode cL_cell 8 = .ok (.iaload, 1) := by decide +kernel
theorem dL_cell_9 : decode cL_cell 9 = .ok (.goto 12, 3) := by decide +kernel
theorem dL_cell_12 : decode cL_cell 12 = .ok (.ldc 7, 2) := by decide +kernel
theorem dL_cell_14 : decode cL_cell 14 = .ok (.iload_n 1, 1) := by decide +kernel
theorem dL_cell_15 : decode cL_cell 15 = .ok (.iconst 1, 1) := by decide +kernel
theorem dL_cell_16 : decode cL_cell 16 = .ok (.iadd, 1) := by decide +kernel
theorem dL_cell_17 : decode cL_cell 17 = .ok (.imul, 1) := by decide +kernel
theorem dL_cell_18 : decode cL_cell 18 = .ok (.bipush 11, 2) := by decide +kernel
theorem dL_cell_20 : decode cL_cell 20 = .ok (.iadd, 1) := by decide +kernel
theorem dL_cell_21 : decode cL_cell 21 = .ok (.ireturn, 1) := by decide +kernel
theorem dL_low_0 : decode cL_low 0 = .ok (.iload_n 0, 1) := by decide +kernel
theorem dL_low_1 : decode cL_low 1 = .ok (.ldc 8, 2) := by decide +kernel
theorem dL_low_3 : decode cL_low 3 = .ok (.iand, 1) := by decide +kernel
theorem dL_low_4 : decode cL_low 4 = .ok (.iload_n 1, 1) := by decide +kernel
theorem dL_low_5 : decode cL_low 5 = .ok (.irem, 1) := by decide +kernel
theorem dL_low_6 : decode cL_low 6 = .ok (.ireturn, 1) := by decide +kernel
theorem dL_many_0 : decode cL_many 0 = .ok (.iconst 0, 1) := by decide +kernel
theorem dL_many_1 : decode cL_many 1 = .ok (.istore_n 2, 1) := by decide +kernel
theorem dL_many_2 : decode cL_many 2 = .ok (.bipush 6, 2) := by decide +kernel
theorem dL_many_4 : decode cL_many 4 = .ok (.iload_n 1, 1) := by decide +kernel
theorem dL_many_5 : decode cL_many 5 = .ok (.imul, 1) := by decide +kernel
theorem dL_many_6 : decode cL_many 6 = .ok (.istore_n 3, 1) := by decide +kernel
theorem dL_many_7 : decode cL_many 7 = .ok (.iload_n 3, 1) := by decide +kernel
theorem dL_many_8 : decode cL_many 8 = .ok (.bipush 6, 2) := by decide +kernel
theorem dL_many_10 : decode cL_many 10 = .ok (.iload_n 1, 1) := by decide +kernel
theorem dL_many_11 : decode cL_many 11 = .ok (.imul, 1) := by decide +kernel
theorem dL_many_12 : decode cL_many 12 = .ok (.bipush 6, 2) := by decide +kernel
theorem dL_many_14 : decode cL_many 14 = .ok (.iadd, 1) := by decide +kernel
theorem dL_many_15 : decode cL_many 15 = .ok (.if_icmp .ge 23, 3) := by decide +kernel
theorem dL_many_18 : decode cL_many 18 = .ok (.iload_n 2, 1) := by decide +kernel
theorem dL_many_19 : decode cL_many 19 = .ok (.aload_n 0, 1) := by decide +kernel
theorem dL_many_20 : decode cL_many 20 = .ok (.iload_n 3, 1) := by decide +kernel
theorem dL_many_21 : decode cL_many 21 = .ok (.iaload, 1) := by decide +kernel
theorem dL_many_22 : decode cL_many 22 = .ok (.ifCond .le 7, 3) := by decide +kernel
theorem dL_many_25 : decode cL_many 25 = .ok (.iconst 1, 1) := by decide +kernel
theorem dL_many_26 : decode cL_many 26 = .ok (.goto 4, 3) := by decide +kernel
theorem dL_many_29 : decode cL_many 29 = .ok (.iconst 0, 1) := by decide +kernel
theorem dL_many_30 : decode cL_many 30 = .ok (.iadd, 1) := by decide +kernel
theorem dL_many_31 : decode cL_many 31 = .ok (.istore_n 2, 1) := by decide +kernel
theorem dL_many_32 : decode cL_many 32 = .ok (.iinc 3 1, 3) := by decide +kernel
theorem dL_many_35 : decode cL_many 35 = .ok (.goto (-28), 3) := by decide +kernel
theorem dL_many_38 : decode cL_many 38 = .ok (.iload_n 2, 1) := by decide +kernel
theorem dL_many_39 : decode cL_many 39 = .ok (.ireturn, 1) := by decide +kernel
theorem dL_hears_0 : decode cL_hears 0 = .ok (.aload_n 0, 1) := by decide +kernel
theorem dL_hears_1 : decode cL_hears 1 = .ok (.bipush 6, 2) := by decide +kernel
theorem dL_hears_3 : decode cL_hears 3 = .ok (.iload_n 2, 1) := by decide +kernel
theorem dL_hears_4 : decode cL_hears 4 = .ok (.imul, 1) := by decide +kernel
theorem dL_hears_5 : decode cL_hears 5 = .ok (.iload_n 3, 1) := by decide +kernel
theorem dL_hears_6 : decode cL_hears 6 = .ok (.iadd, 1) := by decide +kernel
theorem dL_hears_7 : decode cL_hears 7 = .ok (.iaload, 1) := by decide +kernel
theorem dL_hears_8 : decode cL_hears 8 = .ok (.istore 4, 2) := by decide +kernel
theorem dL_hears_10 : decode cL_hears 10 = .ok (.iconst 0, 1) := by decide +kernel
theorem dL_hears_11 : decode cL_hears 11 = .ok (.istore 5, 2) := by decide +kernel
theorem dL_hears_13 : decode cL_hears 13 = .ok (.iload_n 3, 1) := by decide +kernel
theorem dL_hears_14 : decode cL_hears 14 = .ok (.aload_n 1, 1) := by decide +kernel
theorem dL_hears_15 : decode cL_hears 15 = .ok (.iconst 0, 1) := by decide +kernel
theorem dL_hears_16 : decode cL_hears 16 = .ok (.iaload, 1) := by decide +kernel
theorem dL_hears_17 : decode cL_hears 17 = .ok (.isub, 1) := by decide +kernel
theorem dL_hears_18 : decode cL_hears 18 = .ok (.ifCond .ge 7, 3) := by decide +kernel
theorem dL_hears_21 : decode cL_hears 21 = .ok (.iconst 0, 1) := by decide +kernel
theorem dL_hears_22 : decode cL_hears 22 = .ok (.goto 8, 3) := by decide +kernel
theorem dL_hears_25 : decode cL_hears 25 = .ok (.iload_n 3, 1) := by decide +kernel
theorem dL_hears_26 : decode cL_hears 26 = .ok (.aload_n 1, 1) := by decide +kernel
theorem dL_hears_27 : decode cL_hears 27 = .ok (.iconst 0, 1) := by decide +kernel
theorem dL_hears_28 : decode cL_hears 28 = .ok (.iaload, 1) := by decide +kernel
theorem dL_hears_29 : decode cL_hears 29 = .ok (.isub, 1) := by decide +kernel
theorem dL_hears_30 : decode cL_hears 30 = .ok (.istore 6, 2) := by decide +kernel
theorem dL_hears_32 : decode cL_hears 32 = .ok (.iload 6, 2) := by decide +kernel
theorem dL_hears_34 : decode cL_hears 34 = .ok (.iload_n 3, 1) := by decide +kernel
theorem dL_hears_35 : decode cL_hears 35 = .ok (.if_icmp .gt 114, 3) := by decide +kernel
theorem dL_hears_38 : decode cL_hears 38 = .ok (.iload 6, 2) := by decide +kernel
theorem dL_hears_40 : decode cL_hears 40 = .ok (.iload_n 3, 1) := by decide +kernel
theorem dL_hears_41 : decode cL_hears 41 = .ok (.if_icmp .ge 15, 3) := by decide +kernel
theorem dL_hears_44 : decode cL_hears 44 = .ok (.aload_n 0, 1) := by decide +kernel
theorem dL_hears_45 : decode cL_hears 45 = .ok (.bipush 6, 2) := by decide +kernel
theorem dL_hears_47 : decode cL_hears 47 = .ok (.iload_n 2, 1) := by decide +kernel
theorem dL_hears_48 : decode cL_hears 48 = .ok (.imul, 1) := by decide +kernel
theorem dL_hears_49 : decode cL_hears 49 = .ok (.iload 6, 2) := by decide +kernel
theorem dL_hears_51 : decode cL_hears 51 = .ok (.iadd, 1) := by decide +kernel
theorem dL_hears_52 : decode cL_hears 52 = .ok (.iaload, 1) := by decide +kernel
theorem dL_hears_53 : decode cL_hears 53 = .ok (.goto 4, 3) := by decide +kernel
theorem dL_hears_56 : decode cL_hears 56 = .ok (.iconst 0, 1) := by decide +kernel
theorem dL_hears_57 : decode cL_hears 57 = .ok (.istore 7, 2) := by decide +kernel
theorem dL_hears_59 : decode cL_hears 59 = .ok (.iload_n 2, 1) := by decide +kernel
theorem dL_hears_60 : decode cL_hears 60 = .ok (.iconst 3, 1) := by decide +kernel
theorem dL_hears_61 : decode cL_hears 61 = .ok (.if_icmp .ge 25, 3) := by decide +kernel
theorem dL_hears_64 : decode cL_hears 64 = .ok (.aload_n 1, 1) := by decide +kernel
theorem dL_hears_65 : decode cL_hears 65 = .ok (.iconst 1, 1) := by decide +kernel
theorem dL_hears_66 : decode cL_hears 66 = .ok (.iaload, 1) := by decide +kernel
theorem dL_hears_67 : decode cL_hears 67 = .ok (.iconst 1, 1) := by decide +kernel
theorem dL_hears_68 : decode cL_hears 68 = .ok (.if_icmp .ne 18, 3) := by decide +kernel
theorem dL_hears_71 : decode cL_hears 71 = .ok (.aload_n 0, 1) := by decide +kernel
theorem dL_hears_72 : decode cL_hears 72 = .ok (.bipush 6, 2) := by decide +kernel
theorem dL_hears_74 : decode cL_hears 74 = .ok (.iload_n 2, 1) := by decide +kernel
theorem dL_hears_75 : decode cL_hears 75 = .ok (.imul, 1) := by decide +kernel
theorem dL_hears_76 : decode cL_hears 76 = .ok (.bipush 6, 2) := by decide +kernel
theorem dL_hears_78 : decode cL_hears 78 = .ok (.iadd, 1) := by decide +kernel
theorem dL_hears_79 : decode cL_hears 79 = .ok (.iload 6, 2) := by decide +kernel
theorem dL_hears_81 : decode cL_hears 81 = .ok (.iadd, 1) := by decide +kernel
theorem dL_hears_82 : decode cL_hears 82 = .ok (.iaload, 1) := by decide +kernel
theorem dL_hears_83 : decode cL_hears 83 = .ok (.goto 4, 3) := by decide +kernel
theorem dL_hears_86 : decode cL_hears 86 = .ok (.iconst 0, 1) := by decide +kernel
theorem dL_hears_87 : decode cL_hears 87 = .ok (.istore 8, 2) := by decide +kernel
theorem dL_hears_89 : decode cL_hears 89 = .ok (.iload 5, 2) := by decide +kernel
theorem dL_hears_91 : decode cL_hears 91 = .ok (.iload 7, 2) := by decide +kernel
theorem dL_hears_93 : decode cL_hears 93 = .ok (.ifCond .le 7, 3) := by decide +kernel
theorem dL_hears_96 : decode cL_hears 96 = .ok (.iconst 1, 1) := by decide +kernel
theorem dL_hears_97 : decode cL_hears 97 = .ok (.goto 4, 3) := by decide +kernel
theorem dL_hears_100 : decode cL_hears 100 = .ok (.iconst 0, 1) := by decide +kernel
theorem dL_hears_101 : decode cL_hears 101 = .ok (.iload 8, 2) := by decide +kernel
theorem dL_hears_103 : decode cL_hears 103 = .ok (.ifCond .le 7, 3) := by decide +kernel
theorem dL_hears_106 : decode cL_hears 106 = .ok (.iconst 1, 1) := by decide +kernel
theorem dL_hears_107 : decode cL_hears 107 = .ok (.goto 4, 3) := by decide +kernel
theorem dL_hears_110 : decode cL_hears 110 = .ok (.iconst 0, 1) := by decide +kernel
theorem dL_hears_111 : decode cL_hears 111 = .ok (.iadd, 1) := by decide +kernel
theorem dL_hears_112 : decode cL_hears 112 = .ok (.iload 7, 2) := by decide +kernel
theorem dL_hears_114 : decode cL_hears 114 = .ok (.iload 4, 2) := by decide +kernel
theorem dL_hears_116 : decode cL_hears 116 = .ok (.if_icmp .le 8, 3) := by decide +kernel
theorem dL_hears_119 : decode cL_hears 119 = .ok (.bipush 100, 2) := by decide +kernel
theorem dL_hears_121 : decode cL_hears 121 = .ok (.goto 4, 3) := by decide +kernel
theorem dL_hears_124 : decode cL_hears 124 = .ok (.iconst 0, 1) := by decide +kernel
theorem dL_hears_125 : decode cL_hears 125 = .ok (.iadd, 1) := by decide +kernel
theorem dL_hears_126 : decode cL_hears 126 = .ok (.iload 8, 2) := by decide +kernel
theorem dL_hears_128 : decode cL_hears 128 = .ok (.iload 4, 2) := by decide +kernel
theorem dL_hears_130 : decode cL_hears 130 = .ok (.if_icmp .le 8, 3) := by decide +kernel
theorem dL_hears_133 : decode cL_hears 133 = .ok (.bipush 100, 2) := by decide +kernel
theorem dL_hears_135 : decode cL_hears 135 = .ok (.goto 4, 3) := by decide +kernel
theorem dL_hears_138 : decode cL_hears 138 = .ok (.iconst 0, 1) := by decide +kernel
theorem dL_hears_139 : decode cL_hears 139 = .ok (.iadd, 1) := by decide +kernel
theorem dL_hears_140 : decode cL_hears 140 = .ok (.iadd, 1) := by decide +kernel
theorem dL_hears_141 : decode cL_hears 141 = .ok (.istore 5, 2) := by decide +kernel
theorem dL_hears_143 : decode cL_hears 143 = .ok (.iinc 6 1, 3) := by decide +kernel
theorem dL_hears_146 : decode cL_hears 146 = .ok (.goto (-114), 3) := by decide +kernel
theorem dL_hears_149 : decode cL_hears 149 = .ok (.iload 5, 2) := by decide +kernel
theorem dL_hears_151 : decode cL_hears 151 = .ok (.ireturn, 1) := by decide +kernel
theorem dL_odd_0 : decode cL_odd 0 = .ok (.iconst 0, 1) := by decide +kernel
theorem dL_odd_1 : decode cL_odd 1 = .ok (.istore_n 3, 1) := by decide +kernel
theorem dL_odd_2 : decode cL_odd 2 = .ok (.iconst 0, 1) := by decide +kernel
theorem dL_odd_3 : decode cL_odd 3 = .ok (.istore 4, 2) := by decide +kernel
theorem dL_odd_5 : decode cL_odd 5 = .ok (.iload 4, 2) := by decide +kernel
theorem dL_odd_7 : decode cL_odd 7 = .ok (.aload_n 0, 1) := by decide +kernel
theorem dL_odd_8 : decode cL_odd 8 = .ok (.iload_n 2, 1) := by decide +kernel
theorem dL_odd_9 : decode cL_odd 9 = .ok (.invokestatic 9, 3) := by decide +kernel
theorem dL_odd_12 : decode cL_odd 12 = .ok (.if_icmp .ge 25, 3) := by decide +kernel
theorem dL_odd_15 : decode cL_odd 15 = .ok (.iload_n 3, 1) := by decide +kernel
theorem dL_odd_16 : decode cL_odd 16 = .ok (.aload_n 0, 1) := by decide +kernel
theorem dL_odd_17 : decode cL_odd 17 = .ok (.aload_n 1, 1) := by decide +kernel
theorem dL_odd_18 : decode cL_odd 18 = .ok (.iload_n 2, 1) := by decide +kernel
theorem dL_odd_19 : decode cL_odd 19 = .ok (.iload 4, 2) := by decide +kernel
theorem dL_odd_21 : decode cL_odd 21 = .ok (.invokestatic 15, 3) := by decide +kernel
theorem dL_odd_24 : decode cL_odd 24 = .ok (.bipush 100, 2) := by decide +kernel
theorem dL_odd_26 : decode cL_odd 26 = .ok (.idiv, 1) := by decide +kernel
theorem dL_odd_27 : decode cL_odd 27 = .ok (.iconst 1, 1) := by decide +kernel
theorem dL_odd_28 : decode cL_odd 28 = .ok (.iand, 1) := by decide +kernel
theorem dL_odd_29 : decode cL_odd 29 = .ok (.iadd, 1) := by decide +kernel
theorem dL_odd_30 : decode cL_odd 30 = .ok (.istore_n 3, 1) := by decide +kernel
theorem dL_odd_31 : decode cL_odd 31 = .ok (.iinc 4 1, 3) := by decide +kernel
theorem dL_odd_34 : decode cL_odd 34 = .ok (.goto (-29), 3) := by decide +kernel
theorem dL_odd_37 : decode cL_odd 37 = .ok (.iload_n 3, 1) := by decide +kernel
theorem dL_odd_38 : decode cL_odd 38 = .ok (.ireturn, 1) := by decide +kernel
theorem dL_allOdd_0 : decode cL_allOdd 0 = .ok (.aload_n 0, 1) := by decide +kernel
theorem dL_allOdd_1 : decode cL_allOdd 1 = .ok (.aload_n 1, 1) := by decide +kernel
theorem dL_allOdd_2 : decode cL_allOdd 2 = .ok (.iconst 0, 1) := by decide +kernel
theorem dL_allOdd_3 : decode cL_allOdd 3 = .ok (.invokestatic 19, 3) := by decide +kernel
theorem dL_allOdd_6 : decode cL_allOdd 6 = .ok (.aload_n 0, 1) := by decide +kernel
theorem dL_allOdd_7 : decode cL_allOdd 7 = .ok (.aload_n 1, 1) := by decide +kernel
theorem dL_allOdd_8 : decode cL_allOdd 8 = .ok (.iconst 1, 1) := by decide +kernel
theorem dL_allOdd_9 : decode cL_allOdd 9 = .ok (.invokestatic 19, 3) := by decide +kernel
theorem dL_allOdd_12 : decode cL_allOdd 12 = .ok (.iadd, 1) := by decide +kernel
theorem dL_allOdd_13 : decode cL_allOdd 13 = .ok (.aload_n 0, 1) := by decide +kernel
theorem dL_allOdd_14 : decode cL_allOdd 14 = .ok (.aload_n 1, 1) := by decide +kernel
theorem dL_allOdd_15 : decode cL_allOdd 15 = .ok (.iconst 2, 1) := by decide +kernel
theorem dL_allOdd_16 : decode cL_allOdd 16 = .ok (.invokestatic 19, 3) := by decide +kernel
theorem dL_allOdd_19 : decode cL_allOdd 19 = .ok (.iadd, 1) := by decide +kernel
theorem dL_allOdd_20 : decode cL_allOdd 20 = .ok (.aload_n 0, 1) := by decide +kernel
theorem dL_allOdd_21 : decode cL_allOdd 21 = .ok (.aload_n 1, 1) := by decide +kernel
theorem dL_allOdd_22 : decode cL_allOdd 22 = .ok (.iconst 3, 1) := by decide +kernel
theorem dL_allOdd_23 : decode cL_allOdd 23 = .ok (.invokestatic 19, 3) := by decide +kernel
theorem dL_allOdd_26 : decode cL_allOdd 26 = .ok (.iadd, 1) := by decide +kernel
theorem dL_allOdd_27 : decode cL_allOdd 27 = .ok (.ireturn, 1) := by decide +kernel
theorem dL_discord_0 : decode cL_discord 0 = .ok (.iconst 0, 1) := by decide +kernel
theorem dL_discord_1 : decode cL_discord 1 = .ok (.istore_n 2, 1) := by decide +kernel
theorem dL_discord_2 : decode cL_discord 2 = .ok (.bipush 6, 2) := by decide +kernel
theorem dL_discord_4 : decode cL_discord 4 = .ok (.iload_n 1, 1) := by decide +kernel
theorem dL_discord_5 : decode cL_discord 5 = .ok (.imul, 1) := by decide +kernel
theorem dL_discord_6 : decode cL_discord 6 = .ok (.istore_n 3, 1) := by decide +kernel
theorem dL_discord_7 : decode cL_discord 7 = .ok (.iload_n 3, 1) := by decide +kernel
theorem dL_discord_8 : decode cL_discord 8 = .ok (.bipush 6, 2) := by decide +kernel
theorem dL_discord_10 : decode cL_discord 10 = .ok (.iload_n 1, 1) := by decide +kernel
theorem dL_discord_11 : decode cL_discord 11 = .ok (.imul, 1) := by decide +kernel
theorem dL_discord_12 : decode cL_discord 12 = .ok (.aload_n 0, 1) := by decide +kernel
theorem dL_discord_13 : decode cL_discord 13 = .ok (.iload_n 1, 1) := by decide +kernel
theorem dL_discord_14 : decode cL_discord 14 = .ok (.invokestatic 9, 3) := by decide +kernel
theorem dL_discord_17 : decode cL_discord 17 = .ok (.iadd, 1) := by decide +kernel
theorem dL_discord_18 : decode cL_discord 18 = .ok (.if_icmp .ge 53, 3) := by decide +kernel
theorem dL_discord_21 : decode cL_discord 21 = .ok (.iload_n 3, 1) := by decide +kernel
theorem dL_discord_22 : decode cL_discord 22 = .ok (.iconst 1, 1) := by decide +kernel
theorem dL_discord_23 : decode cL_discord 23 = .ok (.iadd, 1) := by decide +kernel
theorem dL_discord_24 : decode cL_discord 24 = .ok (.istore 4, 2) := by decide +kernel
theorem dL_discord_26 : decode cL_discord 26 = .ok (.iload 4, 2) := by decide +kernel
theorem dL_discord_28 : decode cL_discord 28 = .ok (.bipush 6, 2) := by decide +kernel
theorem dL_discord_30 : decode cL_discord 30 = .ok (.iload_n 1, 1) := by decide +kernel
theorem dL_discord_31 : decode cL_discord 31 = .ok (.imul, 1) := by decide +kernel
theorem dL_discord_32 : decode cL_discord 32 = .ok (.aload_n 0, 1) := by decide +kernel
theorem dL_discord_33 : decode cL_discord 33 = .ok (.iload_n 1, 1) := by decide +kernel
theorem dL_discord_34 : decode cL_discord 34 = .ok (.invokestatic 9, 3) := by decide +kernel
theorem dL_discord_37 : decode cL_discord 37 = .ok (.iadd, 1) := by decide +kernel
theorem dL_discord_38 : decode cL_discord 38 = .ok (.if_icmp .ge 27, 3) := by decide +kernel
theorem dL_discord_41 : decode cL_discord 41 = .ok (.iload_n 2, 1) := by decide +kernel
theorem dL_discord_42 : decode cL_discord 42 = .ok (.aload_n 0, 1) := by decide +kernel
theorem dL_discord_43 : decode cL_discord 43 = .ok (.iload_n 3, 1) := by decide +kernel
theorem dL_discord_44 : decode cL_discord 44 = .ok (.iaload, 1) := by decide +kernel
theorem dL_discord_45 : decode cL_discord 45 = .ok (.aload_n 0, 1) := by decide +kernel
theorem dL_discord_46 : decode cL_discord 46 = .ok (.iload 4, 2) := by decide +kernel
theorem dL_discord_48 : decode cL_discord 48 = .ok (.iaload, 1) := by decide +kernel
theorem dL_discord_49 : decode cL_discord 49 = .ok (.if_icmp .le 7, 3) := by decide +kernel
theorem dL_discord_52 : decode cL_discord 52 = .ok (.iconst 1, 1) := by decide +kernel
theorem dL_discord_53 : decode cL_discord 53 = .ok (.goto 4, 3) := by decide +kernel
theorem dL_discord_56 : decode cL_discord 56 = .ok (.iconst 0, 1) := by decide +kernel
theorem dL_discord_57 : decode cL_discord 57 = .ok (.iadd, 1) := by decide +kernel
theorem dL_discord_58 : decode cL_discord 58 = .ok (.istore_n 2, 1) := by decide +kernel
theorem dL_discord_59 : decode cL_discord 59 = .ok (.iinc 4 1, 3) := by decide +kernel
theorem dL_discord_62 : decode cL_discord 62 = .ok (.goto (-36), 3) := by decide +kernel
theorem dL_discord_65 : decode cL_discord 65 = .ok (.iinc 3 1, 3) := by decide +kernel
theorem dL_discord_68 : decode cL_discord 68 = .ok (.goto (-61), 3) := by decide +kernel
theorem dL_discord_71 : decode cL_discord 71 = .ok (.iload_n 2, 1) := by decide +kernel
theorem dL_discord_72 : decode cL_discord 72 = .ok (.ireturn, 1) := by decide +kernel
theorem dL_most_0 : decode cL_most 0 = .ok (.bipush 24, 2) := by decide +kernel
theorem dL_most_2 : decode cL_most 2 = .ok (.newarray .int, 2) := by decide +kernel
theorem dL_most_4 : decode cL_most 4 = .ok (.astore_n 3, 1) := by decide +kernel
theorem dL_most_5 : decode cL_most 5 = .ok (.aload_n 0, 1) := by decide +kernel
theorem dL_most_6 : decode cL_most 6 = .ok (.iload_n 2, 1) := by decide +kernel
theorem dL_most_7 : decode cL_most 7 = .ok (.invokestatic 9, 3) := by decide +kernel
theorem dL_most_10 : decode cL_most 10 = .ok (.istore 4, 2) := by decide +kernel
theorem dL_most_12 : decode cL_most 12 = .ok (.iconst 1, 1) := by decide +kernel
theorem dL_most_13 : decode cL_most 13 = .ok (.istore 5, 2) := by decide +kernel
theorem dL_most_15 : decode cL_most 15 = .ok (.iconst 2, 1) := by decide +kernel
theorem dL_most_16 : decode cL_most 16 = .ok (.istore 6, 2) := by decide +kernel
theorem dL_most_18 : decode cL_most 18 = .ok (.iload 6, 2) := by decide +kernel
theorem dL_most_20 : decode cL_most 20 = .ok (.iload 4, 2) := by decide +kernel
theorem dL_most_22 : decode cL_most 22 = .ok (.if_icmp .gt 16, 3) := by decide +kernel
theorem dL_most_25 : decode cL_most 25 = .ok (.iload 5, 2) := by decide +kernel
theorem dL_most_27 : decode cL_most 27 = .ok (.iload 6, 2) := by decide +kernel
theorem dL_most_29 : decode cL_most 29 = .ok (.imul, 1) := by decide +kernel
theorem dL_most_30 : decode cL_most 30 = .ok (.istore 5, 2) := by decide +kernel
theorem dL_most_32 : decode cL_most 32 = .ok (.iinc 6 1, 3) := by decide +kernel
theorem dL_most_35 : decode cL_most 35 = .ok (.goto (-17), 3) := by decide +kernel
theorem dL_most_38 : decode cL_most 38 = .ok (.iconst 0, 1) := by decide +kernel
theorem dL_most_39 : decode cL_most 39 = .ok (.istore 6, 2) := by decide +kernel
theorem dL_most_41 : decode cL_most 41 = .ok (.iload 6, 2) := by decide +kernel
theorem dL_most_43 : decode cL_most 43 = .ok (.bipush 24, 2) := by decide +kernel
theorem dL_most_45 : decode cL_most 45 = .ok (.if_icmp .ge 17, 3) := by decide +kernel
theorem dL_most_48 : decode cL_most 48 = .ok (.aload_n 3, 1) := by decide +kernel
theorem dL_most_49 : decode cL_most 49 = .ok (.iload 6, 2) := by decide +kernel
theorem dL_most_51 : decode cL_most 51 = .ok (.aload_n 0, 1) := by decide +kernel
theorem dL_most_52 : decode cL_most 52 = .ok (.iload 6, 2) := by decide +kernel
theorem dL_most_54 : decode cL_most 54 = .ok (.iaload, 1) := by decide +kernel
theorem dL_most_55 : decode cL_most 55 = .ok (.iastore, 1) := by decide +kernel
theorem dL_most_56 : decode cL_most 56 = .ok (.iinc 6 1, 3) := by decide +kernel
theorem dL_most_59 : decode cL_most 59 = .ok (.goto (-18), 3) := by decide +kernel
theorem dL_most_62 : decode cL_most 62 = .ok (.iconst (-1), 1) := by decide +kernel
theorem dL_most_63 : decode cL_most 63 = .ok (.istore 6, 2) := by decide +kernel
theorem dL_most_65 : decode cL_most 65 = .ok (.iconst 0, 1) := by decide +kernel
theorem dL_most_66 : decode cL_most 66 = .ok (.istore 7, 2) := by decide +kernel
theorem dL_most_68 : decode cL_most 68 = .ok (.iconst 0, 1) := by decide +kernel
theorem dL_most_69 : decode cL_most 69 = .ok (.istore 8, 2) := by decide +kernel
theorem dL_most_71 : decode cL_most 71 = .ok (.iload 8, 2) := by decide +kernel
theorem dL_most_73 : decode cL_most 73 = .ok (.iload 5, 2) := by decide +kernel
theorem dL_most_75 : decode cL_most 75 = .ok (.if_icmp .ge 189, 3) := by decide +kernel
theorem dL_most_78 : decode cL_most 78 = .ok (.iload 8, 2) := by decide +kernel
theorem dL_most_80 : decode cL_most 80 = .ok (.istore 9, 2) := by decide +kernel
theorem dL_most_82 : decode cL_most 82 = .ok (.iconst 0, 1) := by decide +kernel
theorem dL_most_83 : decode cL_most 83 = .ok (.istore 10, 2) := by decide +kernel
theorem dL_most_85 : decode cL_most 85 = .ok (.iconst 0, 1) := by decide +kernel
theorem dL_most_86 : decode cL_most 86 = .ok (.istore 11, 2) := by decide +kernel
theorem dL_most_88 : decode cL_most 88 = .ok (.iconst 0, 1) := by decide +kernel
theorem dL_most_89 : decode cL_most 89 = .ok (.istore 12, 2) := by decide +kernel
theorem dL_most_91 : decode cL_most 91 = .ok (.iload 12, 2) := by decide +kernel
theorem dL_most_93 : decode cL_most 93 = .ok (.iload 4, 2) := by decide +kernel
theorem dL_most_95 : decode cL_most 95 = .ok (.if_icmp .ge 109, 3) := by decide +kernel
theorem dL_most_98 : decode cL_most 98 = .ok (.iload 9, 2) := by decide +kernel
theorem dL_most_100 : decode cL_most 100 = .ok (.iload 4, 2) := by decide +kernel
theorem dL_most_102 : decode cL_most 102 = .ok (.iload 12, 2) := by decide +kernel
theorem dL_most_104 : decode cL_most 104 = .ok (.isub, 1) := by decide +kernel
theorem dL_most_105 : decode cL_most 105 = .ok (.irem, 1) := by decide +kernel
theorem dL_most_106 : decode cL_most 106 = .ok (.istore 13, 2) := by decide +kernel
theorem dL_most_108 : decode cL_most 108 = .ok (.iload 9, 2) := by decide +kernel
theorem dL_most_110 : decode cL_most 110 = .ok (.iload 4, 2) := by decide +kernel
theorem dL_most_112 : decode cL_most 112 = .ok (.iload 12, 2) := by decide +kernel
theorem dL_most_114 : decode cL_most 114 = .ok (.isub, 1) := by decide +kernel
theorem dL_most_115 : decode cL_most 115 = .ok (.idiv, 1) := by decide +kernel
theorem dL_most_116 : decode cL_most 116 = .ok (.istore 9, 2) := by decide +kernel
theorem dL_most_118 : decode cL_most 118 = .ok (.iload 10, 2) := by decide +kernel
theorem dL_most_120 : decode cL_most 120 = .ok (.iload 13, 2) := by decide +kernel
theorem dL_most_122 : decode cL_most 122 = .ok (.iadd, 1) := by decide +kernel
theorem dL_most_123 : decode cL_most 123 = .ok (.istore 10, 2) := by decide +kernel
theorem dL_most_125 : decode cL_most 125 = .ok (.iconst 0, 1) := by decide +kernel
theorem dL_most_126 : decode cL_most 126 = .ok (.istore 14, 2) := by decide +kernel
theorem dL_most_128 : decode cL_most 128 = .ok (.iload 11, 2) := by decide +kernel
theorem dL_most_130 : decode cL_most 130 = .ok (.iload 14, 2) := by decide +kernel
theorem dL_most_132 : decode cL_most 132 = .ok (.ishr, 1) := by decide +kernel
theorem dL_most_133 : decode cL_most 133 = .ok (.iconst 1, 1) := by decide +kernel
theorem dL_most_134 : decode cL_most 134 = .ok (.iand, 1) := by decide +kernel
theorem dL_most_135 : decode cL_most 135 = .ok (.iconst 1, 1) := by decide +kernel
theorem dL_most_136 : decode cL_most 136 = .ok (.if_icmp .eq 8, 3) := by decide +kernel
theorem dL_most_139 : decode cL_most 139 = .ok (.iload 13, 2) := by decide +kernel
theorem dL_most_141 : decode cL_most 141 = .ok (.ifCond .le 30, 3) := by decide +kernel
theorem dL_most_144 : decode cL_most 144 = .ok (.iload 13, 2) := by decide +kernel
theorem dL_most_146 : decode cL_most 146 = .ok (.iload 11, 2) := by decide +kernel
theorem dL_most_148 : decode cL_most 148 = .ok (.iload 14, 2) := by decide +kernel
theorem dL_most_150 : decode cL_most 150 = .ok (.ishr, 1) := by decide +kernel
theorem dL_most_151 : decode cL_most 151 = .ok (.iconst 1, 1) := by decide +kernel
theorem dL_most_152 : decode cL_most 152 = .ok (.iand, 1) := by decide +kernel
theorem dL_most_153 : decode cL_most 153 = .ok (.iconst 1, 1) := by decide +kernel
theorem dL_most_154 : decode cL_most 154 = .ok (.if_icmp .ne 7, 3) := by decide +kernel
theorem dL_most_157 : decode cL_most 157 = .ok (.iconst 0, 1) := by decide +kernel
theorem dL_most_158 : decode cL_most 158 = .ok (.goto 4, 3) := by decide +kernel
theorem dL_most_161 : decode cL_most 161 = .ok (.iconst 1, 1) := by decide +kernel
theorem dL_most_162 : decode cL_most 162 = .ok (.isub, 1) := by decide +kernel
theorem dL_most_163 : decode cL_most 163 = .ok (.istore 13, 2) := by decide +kernel
theorem dL_most_165 : decode cL_most 165 = .ok (.iinc 14 1, 3) := by decide +kernel
theorem dL_most_168 : decode cL_most 168 = .ok (.goto (-40), 3) := by decide +kernel
theorem dL_most_171 : decode cL_most 171 = .ok (.iload 11, 2) := by decide +kernel
theorem dL_most_173 : decode cL_most 173 = .ok (.iconst 1, 1) := by decide +kernel
theorem dL_most_174 : decode cL_most 174 = .ok (.iload 14, 2) := by decide +kernel
theorem dL_most_176 : decode cL_most 176 = .ok (.ishl, 1) := by decide +kernel
theorem dL_most_177 : decode cL_most 177 = .ok (.ior, 1) := by decide +kernel
theorem dL_most_178 : decode cL_most 178 = .ok (.istore 11, 2) := by decide +kernel
theorem dL_most_180 : decode cL_most 180 = .ok (.aload_n 3, 1) := by decide +kernel
theorem dL_most_181 : decode cL_most 181 = .ok (.bipush 6, 2) := by decide +kernel
theorem dL_most_183 : decode cL_most 183 = .ok (.iload_n 2, 1) := by decide +kernel
theorem dL_most_184 : decode cL_most 184 = .ok (.imul, 1) := by decide +kernel
theorem dL_most_185 : decode cL_most 185 = .ok (.iload 12, 2) := by decide +kernel
theorem dL_most_187 : decode cL_most 187 = .ok (.iadd, 1) := by decide +kernel
theorem dL_most_188 : decode cL_most 188 = .ok (.aload_n 0, 1) := by decide +kernel
theorem dL_most_189 : decode cL_most 189 = .ok (.bipush 6, 2) := by decide +kernel
theorem dL_most_191 : decode cL_most 191 = .ok (.iload_n 2, 1) := by decide +kernel
theorem dL_most_192 : decode cL_most 192 = .ok (.imul, 1) := by decide +kernel
theorem dL_most_193 : decode cL_most 193 = .ok (.iload 14, 2) := by decide +kernel
theorem dL_most_195 : decode cL_most 195 = .ok (.iadd, 1) := by decide +kernel
theorem dL_most_196 : decode cL_most 196 = .ok (.iaload, 1) := by decide +kernel
theorem dL_most_197 : decode cL_most 197 = .ok (.iastore, 1) := by decide +kernel
theorem dL_most_198 : decode cL_most 198 = .ok (.iinc 12 1, 3) := by decide +kernel
theorem dL_most_201 : decode cL_most 201 = .ok (.goto (-110), 3) := by decide +kernel
theorem dL_most_204 : decode cL_most 204 = .ok (.aload_n 3, 1) := by decide +kernel
theorem dL_most_205 : decode cL_most 205 = .ok (.aload_n 1, 1) := by decide +kernel
theorem dL_most_206 : decode cL_most 206 = .ok (.iload_n 2, 1) := by decide +kernel
theorem dL_most_207 : decode cL_most 207 = .ok (.invokestatic 19, 3) := by decide +kernel
theorem dL_most_210 : decode cL_most 210 = .ok (.istore 12, 2) := by decide +kernel
theorem dL_most_212 : decode cL_most 212 = .ok (.iload 12, 2) := by decide +kernel
theorem dL_most_214 : decode cL_most 214 = .ok (.iload 6, 2) := by decide +kernel
theorem dL_most_216 : decode cL_most 216 = .ok (.if_icmp .gt 17, 3) := by decide +kernel
theorem dL_most_219 : decode cL_most 219 = .ok (.iload 12, 2) := by decide +kernel
theorem dL_most_221 : decode cL_most 221 = .ok (.iload 6, 2) := by decide +kernel
theorem dL_most_223 : decode cL_most 223 = .ok (.if_icmp .ne 15, 3) := by decide +kernel
theorem dL_most_226 : decode cL_most 226 = .ok (.iload 10, 2) := by decide +kernel
theorem dL_most_228 : decode cL_most 228 = .ok (.iload 7, 2) := by decide +kernel
theorem dL_most_230 : decode cL_most 230 = .ok (.if_icmp .ge 8, 3) := by decide +kernel
theorem dL_most_233 : decode cL_most 233 = .ok (.iload 10, 2) := by decide +kernel
theorem dL_most_235 : decode cL_most 235 = .ok (.goto 5, 3) := by decide +kernel
theorem dL_most_238 : decode cL_most 238 = .ok (.iload 7, 2) := by decide +kernel
theorem dL_most_240 : decode cL_most 240 = .ok (.istore 7, 2) := by decide +kernel
theorem dL_most_242 : decode cL_most 242 = .ok (.iload 12, 2) := by decide +kernel
theorem dL_most_244 : decode cL_most 244 = .ok (.iload 6, 2) := by decide +kernel
theorem dL_most_246 : decode cL_most 246 = .ok (.if_icmp .le 8, 3) := by decide +kernel
theorem dL_most_249 : decode cL_most 249 = .ok (.iload 12, 2) := by decide +kernel
theorem dL_most_251 : decode cL_most 251 = .ok (.goto 5, 3) := by decide +kernel
theorem dL_most_254 : decode cL_most 254 = .ok (.iload 6, 2) := by decide +kernel
theorem dL_most_256 : decode cL_most 256 = .ok (.istore 6, 2) := by decide +kernel
theorem dL_most_258 : decode cL_most 258 = .ok (.iinc 8 1, 3) := by decide +kernel
theorem dL_most_261 : decode cL_most 261 = .ok (.goto (-190), 3) := by decide +kernel
theorem dL_most_264 : decode cL_most 264 = .ok (.bipush 100, 2) := by decide +kernel
theorem dL_most_266 : decode cL_most 266 = .ok (.iload 6, 2) := by decide +kernel
theorem dL_most_268 : decode cL_most 268 = .ok (.imul, 1) := by decide +kernel
theorem dL_most_269 : decode cL_most 269 = .ok (.iload 7, 2) := by decide +kernel
theorem dL_most_271 : decode cL_most 271 = .ok (.iadd, 1) := by decide +kernel
theorem dL_most_272 : decode cL_most 272 = .ok (.ireturn, 1) := by decide +kernel
theorem dL_letter_0 : decode cL_letter 0 = .ok (.iload_n 0, 1) := by decide +kernel
theorem dL_letter_1 : decode cL_letter 1 = .ok (.ifCond .ne 8, 3) := by decide +kernel
theorem dL_letter_4 : decode cL_letter 4 = .ok (.bipush 98, 2) := by decide +kernel
theorem dL_letter_6 : decode cL_letter 6 = .ok (.goto 25, 3) := by decide +kernel
theorem dL_letter_9 : decode cL_letter 9 = .ok (.iload_n 0, 1) := by decide +kernel
theorem dL_letter_10 : decode cL_letter 10 = .ok (.iconst 1, 1) := by decide +kernel
theorem dL_letter_11 : decode cL_letter 11 = .ok (.if_icmp .ne 8, 3) := by decide +kernel
theorem dL_letter_14 : decode cL_letter 14 = .ok (.bipush 116, 2) := by decide +kernel
theorem dL_letter_16 : decode cL_letter 16 = .ok (.goto 15, 3) := by decide +kernel
theorem dL_letter_19 : decode cL_letter 19 = .ok (.iload_n 0, 1) := by decide +kernel
theorem dL_letter_20 : decode cL_letter 20 = .ok (.iconst 2, 1) := by decide +kernel
theorem dL_letter_21 : decode cL_letter 21 = .ok (.if_icmp .ne 8, 3) := by decide +kernel
theorem dL_letter_24 : decode cL_letter 24 = .ok (.bipush 97, 2) := by decide +kernel
theorem dL_letter_26 : decode cL_letter 26 = .ok (.goto 5, 3) := by decide +kernel
theorem dL_letter_29 : decode cL_letter 29 = .ok (.bipush 115, 2) := by decide +kernel
theorem dL_letter_31 : decode cL_letter 31 = .ok (.ireturn, 1) := by decide +kernel
theorem dL_isSinger_0 : decode cL_isSinger 0 = .ok (.bipush 6, 2) := by decide +kernel
theorem dL_isSinger_2 : decode cL_isSinger 2 = .ok (.iload 5, 2) := by decide +kernel
theorem dL_isSinger_4 : decode cL_isSinger 4 = .ok (.imul, 1) := by decide +kernel
theorem dL_isSinger_5 : decode cL_isSinger 5 = .ok (.iload 6, 2) := by decide +kernel
theorem dL_isSinger_7 : decode cL_isSinger 7 = .ok (.iadd, 1) := by decide +kernel
theorem dL_isSinger_8 : decode cL_isSinger 8 = .ok (.istore 7, 2) := by decide +kernel
theorem dL_isSinger_10 : decode cL_isSinger 10 = .ok (.aload_n 1, 1) := by decide +kernel
theorem dL_isSinger_11 : decode cL_isSinger 11 = .ok (.aload 4, 2) := by decide +kernel
theorem dL_isSinger_13 : decode cL_isSinger 13 = .ok (.iload 5, 2) := by decide +kernel
theorem dL_isSinger_15 : decode cL_isSinger 15 = .ok (.iload 6, 2) := by decide +kernel
theorem dL_isSinger_17 : decode cL_isSinger 17 = .ok (.invokestatic 15, 3) := by decide +kernel
theorem dL_isSinger_20 : decode cL_isSinger 20 = .ok (.istore 8, 2) := by decide +kernel
theorem dL_isSinger_22 : decode cL_isSinger 22 = .ok (.iconst 0, 1) := by decide +kernel
theorem dL_isSinger_23 : decode cL_isSinger 23 = .ok (.istore 9, 2) := by decide +kernel
theorem dL_isSinger_25 : decode cL_isSinger 25 = .ok (.iload 6, 2) := by decide +kernel
theorem dL_isSinger_27 : decode cL_isSinger 27 = .ok (.istore 10, 2) := by decide +kernel
theorem dL_isSinger_29 : decode cL_isSinger 29 = .ok (.iload 10, 2) := by decide +kernel
theorem dL_isSinger_31 : decode cL_isSinger 31 = .ok (.bipush 6, 2) := by decide +kernel
theorem dL_isSinger_33 : decode cL_isSinger 33 = .ok (.if_icmp .ge 90, 3) := by decide +kernel
theorem dL_isSinger_36 : decode cL_isSinger 36 = .ok (.iload 10, 2) := by decide +kernel
theorem dL_isSinger_38 : decode cL_isSinger 38 = .ok (.iload 6, 2) := by decide +kernel
theorem dL_isSinger_40 : decode cL_isSinger 40 = .ok (.aload 4, 2) := by decide +kernel
theorem dL_isSinger_42 : decode cL_isSinger 42 = .ok (.iconst 0, 1) := by decide +kernel
theorem dL_isSinger_43 : decode cL_isSinger 43 = .ok (.iaload, 1) := by decide +kernel
theorem dL_isSinger_44 : decode cL_isSinger 44 = .ok (.iadd, 1) := by decide +kernel
theorem dL_isSinger_45 : decode cL_isSinger 45 = .ok (.if_icmp .gt 78, 3) := by decide +kernel
theorem dL_isSinger_48 : decode cL_isSinger 48 = .ok (.iload 9, 2) := by decide +kernel
theorem dL_isSinger_50 : decode cL_isSinger 50 = .ok (.iload 10, 2) := by decide +kernel
theorem dL_isSinger_52 : decode cL_isSinger 52 = .ok (.iload 6, 2) := by decide +kernel
theorem dL_isSinger_54 : decode cL_isSinger 54 = .ok (.if_icmp .le 20, 3) := by decide +kernel
theorem dL_isSinger_57 : decode cL_isSinger 57 = .ok (.aload_n 1, 1) := by decide +kernel
theorem dL_isSinger_58 : decode cL_isSinger 58 = .ok (.bipush 6, 2) := by decide +kernel
theorem dL_isSinger_60 : decode cL_isSinger 60 = .ok (.iload 5, 2) := by decide +kernel
theorem dL_isSinger_62 : decode cL_isSinger 62 = .ok (.imul, 1) := by decide +kernel
theorem dL_isSinger_63 : decode cL_isSinger 63 = .ok (.iload 10, 2) := by decide +kernel
theorem dL_isSinger_65 : decode cL_isSinger 65 = .ok (.iadd, 1) := by decide +kernel
theorem dL_isSinger_66 : decode cL_isSinger 66 = .ok (.iaload, 1) := by decide +kernel
theorem dL_isSinger_67 : decode cL_isSinger 67 = .ok (.ifCond .le 7, 3) := by decide +kernel
theorem dL_isSinger_70 : decode cL_isSinger 70 = .ok (.iconst 1, 1) := by decide +kernel
theorem dL_isSinger_71 : decode cL_isSinger 71 = .ok (.goto 4, 3) := by decide +kernel
theorem dL_isSinger_74 : decode cL_isSinger 74 = .ok (.iconst 0, 1) := by decide +kernel
theorem dL_isSinger_75 : decode cL_isSinger 75 = .ok (.iadd, 1) := by decide +kernel
theorem dL_isSinger_76 : decode cL_isSinger 76 = .ok (.istore 9, 2) := by decide +kernel
theorem dL_isSinger_78 : decode cL_isSinger 78 = .ok (.iload 9, 2) := by decide +kernel
theorem dL_isSinger_80 : decode cL_isSinger 80 = .ok (.iload 5, 2) := by decide +kernel
theorem dL_isSinger_82 : decode cL_isSinger 82 = .ok (.ifCond .le 31, 3) := by decide +kernel
theorem dL_isSinger_85 : decode cL_isSinger 85 = .ok (.aload 4, 2) := by decide +kernel
theorem dL_isSinger_87 : decode cL_isSinger 87 = .ok (.iconst 1, 1) := by decide +kernel
theorem dL_isSinger_88 : decode cL_isSinger 88 = .ok (.iaload, 1) := by decide +kernel
theorem dL_isSinger_89 : decode cL_isSinger 89 = .ok (.iconst 1, 1) := by decide +kernel
theorem dL_isSinger_90 : decode cL_isSinger 90 = .ok (.if_icmp .ne 23, 3) := by decide +kernel
theorem dL_isSinger_93 : decode cL_isSinger 93 = .ok (.aload_n 1, 1) := by decide +kernel
theorem dL_isSinger_94 : decode cL_isSinger 94 = .ok (.bipush 6, 2) := by decide +kernel
theorem dL_isSinger_96 : decode cL_isSinger 96 = .ok (.iload 5, 2) := by decide +kernel
theorem dL_isSinger_98 : decode cL_isSinger 98 = .ok (.imul, 1) := by decide +kernel
theorem dL_isSinger_99 : decode cL_isSinger 99 = .ok (.bipush 6, 2) := by decide +kernel
theorem dL_isSinger_101 : decode cL_isSinger 101 = .ok (.isub, 1) := by decide +kernel
theorem dL_isSinger_102 : decode cL_isSinger 102 = .ok (.iload 10, 2) := by decide +kernel
theorem dL_isSinger_104 : decode cL_isSinger 104 = .ok (.iadd, 1) := by decide +kernel
theorem dL_isSinger_105 : decode cL_isSinger 105 = .ok (.iaload, 1) := by decide +kernel
theorem dL_isSinger_106 : decode cL_isSinger 106 = .ok (.ifCond .le 7, 3) := by decide +kernel
theorem dL_isSinger_109 : decode cL_isSinger 109 = .ok (.iconst 1, 1) := by decide +kernel
theorem dL_isSinger_110 : decode cL_isSinger 110 = .ok (.goto 4, 3) := by decide +kernel
theorem dL_isSinger_113 : decode cL_isSinger 113 = .ok (.iconst 0, 1) := by decide +kernel
theorem dL_isSinger_114 : decode cL_isSinger 114 = .ok (.iadd, 1) := by decide +kernel
theorem dL_isSinger_115 : decode cL_isSinger 115 = .ok (.istore 9, 2) := by decide +kernel
theorem dL_isSinger_117 : decode cL_isSinger 117 = .ok (.iinc 10 1, 3) := by decide +kernel
theorem dL_isSinger_120 : decode cL_isSinger 120 = .ok (.goto (-91), 3) := by decide +kernel
theorem dL_isSinger_123 : decode cL_isSinger 123 = .ok (.aload_n 0, 1) := by decide +kernel
theorem dL_isSinger_124 : decode cL_isSinger 124 = .ok (.iload 5, 2) := by decide +kernel
theorem dL_isSinger_126 : decode cL_isSinger 126 = .ok (.iload 6, 2) := by decide +kernel
theorem dL_isSinger_128 : decode cL_isSinger 128 = .ok (.iconst 0, 1) := by decide +kernel
theorem dL_isSinger_129 : decode cL_isSinger 129 = .ok (.invokevirtual 23, 3) := by decide +kernel
theorem dL_isSinger_132 : decode cL_isSinger 132 = .ok (.aload_n 3, 1) := by decide +kernel
theorem dL_isSinger_133 : decode cL_isSinger 133 = .ok (.iload 7, 2) := by decide +kernel
theorem dL_isSinger_135 : decode cL_isSinger 135 = .ok (.iaload, 1) := by decide +kernel
theorem dL_isSinger_136 : decode cL_isSinger 136 = .ok (.if_icmp .ne 125, 3) := by decide +kernel
theorem dL_isSinger_139 : decode cL_isSinger 139 = .ok (.aload_n 0, 1) := by decide +kernel
theorem dL_isSinger_140 : decode cL_isSinger 140 = .ok (.iload 5, 2) := by decide +kernel
theorem dL_isSinger_142 : decode cL_isSinger 142 = .ok (.iload 6, 2) := by decide +kernel
theorem dL_isSinger_144 : decode cL_isSinger 144 = .ok (.iconst 1, 1) := by decide +kernel
theorem dL_isSinger_145 : decode cL_isSinger 145 = .ok (.invokevirtual 23, 3) := by decide +kernel
theorem dL_isSinger_148 : decode cL_isSinger 148 = .ok (.aload_n 1, 1) := by decide +kernel
theorem dL_isSinger_149 : decode cL_isSinger 149 = .ok (.iload 7, 2) := by decide +kernel
theorem dL_isSinger_151 : decode cL_isSinger 151 = .ok (.iaload, 1) := by decide +kernel
theorem dL_isSinger_152 : decode cL_isSinger 152 = .ok (.if_icmp .ne 109, 3) := by decide +kernel
theorem dL_isSinger_155 : decode cL_isSinger 155 = .ok (.aload_n 0, 1) := by decide +kernel
theorem dL_isSinger_156 : decode cL_isSinger 156 = .ok (.iload 5, 2) := by decide +kernel
theorem dL_isSinger_158 : decode cL_isSinger 158 = .ok (.iload 6, 2) := by decide +kernel
theorem dL_isSinger_160 : decode cL_isSinger 160 = .ok (.iconst 2, 1) := by decide +kernel
theorem dL_isSinger_161 : decode cL_isSinger 161 = .ok (.invokevirtual 23, 3) := by decide +kernel
theorem dL_isSinger_164 : decode cL_isSinger 164 = .ok (.aload_n 2, 1) := by decide +kernel
theorem dL_isSinger_165 : decode cL_isSinger 165 = .ok (.iload 7, 2) := by decide +kernel
theorem dL_isSinger_167 : decode cL_isSinger 167 = .ok (.iaload, 1) := by decide +kernel
theorem dL_isSinger_168 : decode cL_isSinger 168 = .ok (.if_icmp .ne 93, 3) := by decide +kernel
theorem dL_isSinger_171 : decode cL_isSinger 171 = .ok (.aload_n 0, 1) := by decide +kernel
theorem dL_isSinger_172 : decode cL_isSinger 172 = .ok (.iload 5, 2) := by decide +kernel
theorem dL_isSinger_174 : decode cL_isSinger 174 = .ok (.iload 6, 2) := by decide +kernel
theorem dL_isSinger_176 : decode cL_isSinger 176 = .ok (.iconst 3, 1) := by decide +kernel
theorem dL_isSinger_177 : decode cL_isSinger 177 = .ok (.invokevirtual 23, 3) := by decide +kernel
theorem dL_isSinger_180 : decode cL_isSinger 180 = .ok (.iload 8, 2) := by decide +kernel
theorem dL_isSinger_182 : decode cL_isSinger 182 = .ok (.bipush 100, 2) := by decide +kernel
theorem dL_isSinger_184 : decode cL_isSinger 184 = .ok (.irem, 1) := by decide +kernel
theorem dL_isSinger_185 : decode cL_isSinger 185 = .ok (.if_icmp .ne 76, 3) := by decide +kernel
theorem dL_isSinger_188 : decode cL_isSinger 188 = .ok (.aload_n 0, 1) := by decide +kernel
theorem dL_isSinger_189 : decode cL_isSinger 189 = .ok (.iload 5, 2) := by decide +kernel
theorem dL_isSinger_191 : decode cL_isSinger 191 = .ok (.iload 6, 2) := by decide +kernel
theorem dL_isSinger_193 : decode cL_isSinger 193 = .ok (.iconst 4, 1) := by decide +kernel
theorem dL_isSinger_194 : decode cL_isSinger 194 = .ok (.invokevirtual 23, 3) := by decide +kernel
theorem dL_isSinger_197 : decode cL_isSinger 197 = .ok (.iload 8, 2) := by decide +kernel
theorem dL_isSinger_199 : decode cL_isSinger 199 = .ok (.bipush 100, 2) := by decide +kernel
theorem dL_isSinger_201 : decode cL_isSinger 201 = .ok (.idiv, 1) := by decide +kernel
theorem dL_isSinger_202 : decode cL_isSinger 202 = .ok (.if_icmp .ne 59, 3) := by decide +kernel
theorem dL_isSinger_205 : decode cL_isSinger 205 = .ok (.aload_n 0, 1) := by decide +kernel
theorem dL_isSinger_206 : decode cL_isSinger 206 = .ok (.iload 5, 2) := by decide +kernel
theorem dL_isSinger_208 : decode cL_isSinger 208 = .ok (.iload 6, 2) := by decide +kernel
theorem dL_isSinger_210 : decode cL_isSinger 210 = .ok (.iconst 5, 1) := by decide +kernel
theorem dL_isSinger_211 : decode cL_isSinger 211 = .ok (.invokevirtual 23, 3) := by decide +kernel
theorem dL_isSinger_214 : decode cL_isSinger 214 = .ok (.iload 8, 2) := by decide +kernel
theorem dL_isSinger_216 : decode cL_isSinger 216 = .ok (.bipush 100, 2) := by decide +kernel
theorem dL_isSinger_218 : decode cL_isSinger 218 = .ok (.idiv, 1) := by decide +kernel
theorem dL_isSinger_219 : decode cL_isSinger 219 = .ok (.if_icmp .ne 42, 3) := by decide +kernel
theorem dL_isSinger_222 : decode cL_isSinger 222 = .ok (.aload_n 0, 1) := by decide +kernel
theorem dL_isSinger_223 : decode cL_isSinger 223 = .ok (.iload 5, 2) := by decide +kernel
theorem dL_isSinger_225 : decode cL_isSinger 225 = .ok (.iload 6, 2) := by decide +kernel
theorem dL_isSinger_227 : decode cL_isSinger 227 = .ok (.bipush 6, 2) := by decide +kernel
theorem dL_isSinger_229 : decode cL_isSinger 229 = .ok (.invokevirtual 23, 3) := by decide +kernel
theorem dL_isSinger_232 : decode cL_isSinger 232 = .ok (.iload 8, 2) := by decide +kernel
theorem dL_isSinger_234 : decode cL_isSinger 234 = .ok (.bipush 100, 2) := by decide +kernel
theorem dL_isSinger_236 : decode cL_isSinger 236 = .ok (.idiv, 1) := by decide +kernel
theorem dL_isSinger_237 : decode cL_isSinger 237 = .ok (.iconst 1, 1) := by decide +kernel
theorem dL_isSinger_238 : decode cL_isSinger 238 = .ok (.iand, 1) := by decide +kernel
theorem dL_isSinger_239 : decode cL_isSinger 239 = .ok (.if_icmp .ne 22, 3) := by decide +kernel
theorem dL_isSinger_242 : decode cL_isSinger 242 = .ok (.aload_n 0, 1) := by decide +kernel
theorem dL_isSinger_243 : decode cL_isSinger 243 = .ok (.iload 5, 2) := by decide +kernel
theorem dL_isSinger_245 : decode cL_isSinger 245 = .ok (.iload 6, 2) := by decide +kernel
theorem dL_isSinger_247 : decode cL_isSinger 247 = .ok (.bipush 7, 2) := by decide +kernel
theorem dL_isSinger_249 : decode cL_isSinger 249 = .ok (.invokevirtual 23, 3) := by decide +kernel
theorem dL_isSinger_252 : decode cL_isSinger 252 = .ok (.iload 9, 2) := by decide +kernel
theorem dL_isSinger_254 : decode cL_isSinger 254 = .ok (.if_icmp .ne 7, 3) := by decide +kernel
theorem dL_isSinger_257 : decode cL_isSinger 257 = .ok (.iconst 1, 1) := by decide +kernel
theorem dL_isSinger_258 : decode cL_isSinger 258 = .ok (.goto 4, 3) := by decide +kernel
theorem dL_isSinger_261 : decode cL_isSinger 261 = .ok (.iconst 0, 1) := by decide +kernel
theorem dL_isSinger_262 : decode cL_isSinger 262 = .ok (.istore 10, 2) := by decide +kernel
theorem dL_isSinger_264 : decode cL_isSinger 264 = .ok (.iload 10, 2) := by decide +kernel
theorem dL_isSinger_266 : decode cL_isSinger 266 = .ok (.ifCond .eq 118, 3) := by decide +kernel
theorem dL_isSinger_269 : decode cL_isSinger 269 = .ok (.aload_n 0, 1) := by decide +kernel
theorem dL_isSinger_270 : decode cL_isSinger 270 = .ok (.aload_n 3, 1) := by decide +kernel
theorem dL_isSinger_271 : decode cL_isSinger 271 = .ok (.iload 7, 2) := by decide +kernel
theorem dL_isSinger_273 : decode cL_isSinger 273 = .ok (.iaload, 1) := by decide +kernel
theorem dL_isSinger_274 : decode cL_isSinger 274 = .ok (.invokevirtual 29, 3) := by decide +kernel
theorem dL_isSinger_277 : decode cL_isSinger 277 = .ok (.iload 7, 2) := by decide +kernel
theorem dL_isSinger_279 : decode cL_isSinger 279 = .ok (.if_icmp .ne 105, 3) := by decide +kernel
theorem dL_isSinger_282 : decode cL_isSinger 282 = .ok (.aload_n 0, 1) := by decide +kernel
theorem dL_isSinger_283 : decode cL_isSinger 283 = .ok (.iload 5, 2) := by decide +kernel
theorem dL_isSinger_285 : decode cL_isSinger 285 = .ok (.iconst 5, 1) := by decide +kernel
theorem dL_isSinger_286 : decode cL_isSinger 286 = .ok (.iload 6, 2) := by decide +kernel
theorem dL_isSinger_288 : decode cL_isSinger 288 = .ok (.imul, 1) := by decide +kernel
theorem dL_isSinger_289 : decode cL_isSinger 289 = .ok (.invokevirtual 33, 3) := by decide +kernel
theorem dL_isSinger_292 : decode cL_isSinger 292 = .ok (.bipush 48, 2) := by decide +kernel
theorem dL_isSinger_294 : decode cL_isSinger 294 = .ok (.aload_n 1, 1) := by decide +kernel
theorem dL_isSinger_295 : decode cL_isSinger 295 = .ok (.iload 7, 2) := by decide +kernel
theorem dL_isSinger_297 : decode cL_isSinger 297 = .ok (.iaload, 1) := by decide +kernel
theorem dL_isSinger_298 : decode cL_isSinger 298 = .ok (.bipush 100, 2) := by decide +kernel
theorem dL_isSinger_300 : decode cL_isSinger 300 = .ok (.idiv, 1) := by decide +kernel
theorem dL_isSinger_301 : decode cL_isSinger 301 = .ok (.iadd, 1) := by decide +kernel
theorem dL_isSinger_302 : decode cL_isSinger 302 = .ok (.if_icmp .ne 82, 3) := by decide +kernel
theorem dL_isSinger_305 : decode cL_isSinger 305 = .ok (.aload_n 0, 1) := by decide +kernel
theorem dL_isSinger_306 : decode cL_isSinger 306 = .ok (.iload 5, 2) := by decide +kernel
theorem dL_isSinger_308 : decode cL_isSinger 308 = .ok (.iconst 5, 1) := by decide +kernel
theorem dL_isSinger_309 : decode cL_isSinger 309 = .ok (.iload 6, 2) := by decide +kernel
theorem dL_isSinger_311 : decode cL_isSinger 311 = .ok (.imul, 1) := by decide +kernel
theorem dL_isSinger_312 : decode cL_isSinger 312 = .ok (.iconst 1, 1) := by decide +kernel
theorem dL_isSinger_313 : decode cL_isSinger 313 = .ok (.iadd, 1) := by decide +kernel
theorem dL_isSinger_314 : decode cL_isSinger 314 = .ok (.invokevirtual 33, 3) := by decide +kernel
theorem dL_isSinger_317 : decode cL_isSinger 317 = .ok (.bipush 48, 2) := by decide +kernel
theorem dL_isSinger_319 : decode cL_isSinger 319 = .ok (.aload_n 1, 1) := by decide +kernel
theorem dL_isSinger_320 : decode cL_isSinger 320 = .ok (.iload 7, 2) := by decide +kernel
theorem dL_isSinger_322 : decode cL_isSinger 322 = .ok (.iaload, 1) := by decide +kernel
theorem dL_isSinger_323 : decode cL_isSinger 323 = .ok (.bipush 10, 2) := by decide +kernel
theorem dL_isSinger_325 : decode cL_isSinger 325 = .ok (.idiv, 1) := by decide +kernel
theorem dL_isSinger_326 : decode cL_isSinger 326 = .ok (.bipush 10, 2) := by decide +kernel
theorem dL_isSinger_328 : decode cL_isSinger 328 = .ok (.irem, 1) := by decide +kernel
theorem dL_isSinger_329 : decode cL_isSinger 329 = .ok (.iadd, 1) := by decide +kernel
theorem dL_isSinger_330 : decode cL_isSinger 330 = .ok (.if_icmp .ne 54, 3) := by decide +kernel
theorem dL_isSinger_333 : decode cL_isSinger 333 = .ok (.aload_n 0, 1) := by decide +kernel
theorem dL_isSinger_334 : decode cL_isSinger 334 = .ok (.iload 5, 2) := by decide +kernel
theorem dL_isSinger_336 : decode cL_isSinger 336 = .ok (.iconst 5, 1) := by decide +kernel
theorem dL_isSinger_337 : decode cL_isSinger 337 = .ok (.iload 6, 2) := by decide +kernel
theorem dL_isSinger_339 : decode cL_isSinger 339 = .ok (.imul, 1) := by decide +kernel
theorem dL_isSinger_340 : decode cL_isSinger 340 = .ok (.iconst 2, 1) := by decide +kernel
theorem dL_isSinger_341 : decode cL_isSinger 341 = .ok (.iadd, 1) := by decide +kernel
theorem dL_isSinger_342 : decode cL_isSinger 342 = .ok (.invokevirtual 33, 3) := by decide +kernel
theorem dL_isSinger_345 : decode cL_isSinger 345 = .ok (.bipush 48, 2) := by decide +kernel
theorem dL_isSinger_347 : decode cL_isSinger 347 = .ok (.aload_n 1, 1) := by decide +kernel
theorem dL_isSinger_348 : decode cL_isSinger 348 = .ok (.iload 7, 2) := by decide +kernel
theorem dL_isSinger_350 : decode cL_isSinger 350 = .ok (.iaload, 1) := by decide +kernel
theorem dL_isSinger_351 : decode cL_isSinger 351 = .ok (.bipush 10, 2) := by decide +kernel
theorem dL_isSinger_353 : decode cL_isSinger 353 = .ok (.irem, 1) := by decide +kernel
theorem dL_isSinger_354 : decode cL_isSinger 354 = .ok (.iadd, 1) := by decide +kernel
theorem dL_isSinger_355 : decode cL_isSinger 355 = .ok (.if_icmp .ne 29, 3) := by decide +kernel
theorem dL_isSinger_358 : decode cL_isSinger 358 = .ok (.aload_n 0, 1) := by decide +kernel
theorem dL_isSinger_359 : decode cL_isSinger 359 = .ok (.iload 5, 2) := by decide +kernel
theorem dL_isSinger_361 : decode cL_isSinger 361 = .ok (.iconst 5, 1) := by decide +kernel
theorem dL_isSinger_362 : decode cL_isSinger 362 = .ok (.iload 6, 2) := by decide +kernel
theorem dL_isSinger_364 : decode cL_isSinger 364 = .ok (.imul, 1) := by decide +kernel
theorem dL_isSinger_365 : decode cL_isSinger 365 = .ok (.iconst 3, 1) := by decide +kernel
theorem dL_isSinger_366 : decode cL_isSinger 366 = .ok (.iadd, 1) := by decide +kernel
theorem dL_isSinger_367 : decode cL_isSinger 367 = .ok (.invokevirtual 33, 3) := by decide +kernel
theorem dL_isSinger_370 : decode cL_isSinger 370 = .ok (.aload_n 2, 1) := by decide +kernel
theorem dL_isSinger_371 : decode cL_isSinger 371 = .ok (.iload 7, 2) := by decide +kernel
theorem dL_isSinger_373 : decode cL_isSinger 373 = .ok (.iaload, 1) := by decide +kernel
theorem dL_isSinger_374 : decode cL_isSinger 374 = .ok (.invokestatic 37, 3) := by decide +kernel
theorem dL_isSinger_377 : decode cL_isSinger 377 = .ok (.if_icmp .ne 7, 3) := by decide +kernel
theorem dL_isSinger_380 : decode cL_isSinger 380 = .ok (.iconst 1, 1) := by decide +kernel
theorem dL_isSinger_381 : decode cL_isSinger 381 = .ok (.goto 4, 3) := by decide +kernel
theorem dL_isSinger_384 : decode cL_isSinger 384 = .ok (.iconst 0, 1) := by decide +kernel
theorem dL_isSinger_385 : decode cL_isSinger 385 = .ok (.istore 10, 2) := by decide +kernel
theorem dL_isSinger_387 : decode cL_isSinger 387 = .ok (.iload 10, 2) := by decide +kernel
theorem dL_isSinger_389 : decode cL_isSinger 389 = .ok (.ifCond .eq 41, 3) := by decide +kernel
theorem dL_isSinger_392 : decode cL_isSinger 392 = .ok (.aload_n 0, 1) := by decide +kernel
theorem dL_isSinger_393 : decode cL_isSinger 393 = .ok (.iload 5, 2) := by decide +kernel
theorem dL_isSinger_395 : decode cL_isSinger 395 = .ok (.iconst 5, 1) := by decide +kernel
theorem dL_isSinger_396 : decode cL_isSinger 396 = .ok (.iload 6, 2) := by decide +kernel
theorem dL_isSinger_398 : decode cL_isSinger 398 = .ok (.imul, 1) := by decide +kernel
theorem dL_isSinger_399 : decode cL_isSinger 399 = .ok (.iconst 4, 1) := by decide +kernel
theorem dL_isSinger_400 : decode cL_isSinger 400 = .ok (.iadd, 1) := by decide +kernel
theorem dL_isSinger_401 : decode cL_isSinger 401 = .ok (.invokevirtual 33, 3) := by decide +kernel
theorem dL_isSinger_404 : decode cL_isSinger 404 = .ok (.iload 6, 2) := by decide +kernel
theorem dL_isSinger_406 : decode cL_isSinger 406 = .ok (.iconst 1, 1) := by decide +kernel
theorem dL_isSinger_407 : decode cL_isSinger 407 = .ok (.iadd, 1) := by decide +kernel
theorem dL_isSinger_408 : decode cL_isSinger 408 = .ok (.aload_n 1, 1) := by decide +kernel
theorem dL_isSinger_409 : decode cL_isSinger 409 = .ok (.iload 5, 2) := by decide +kernel
theorem dL_isSinger_411 : decode cL_isSinger 411 = .ok (.invokestatic 9, 3) := by decide +kernel
theorem dL_isSinger_414 : decode cL_isSinger 414 = .ok (.if_icmp .ge 8, 3) := by decide +kernel
theorem dL_isSinger_417 : decode cL_isSinger 417 = .ok (.bipush 32, 2) := by decide +kernel
theorem dL_isSinger_419 : decode cL_isSinger 419 = .ok (.goto 4, 3) := by decide +kernel
theorem dL_isSinger_422 : decode cL_isSinger 422 = .ok (.iconst (-1), 1) := by decide +kernel
theorem dL_isSinger_423 : decode cL_isSinger 423 = .ok (.if_icmp .ne 7, 3) := by decide +kernel
theorem dL_isSinger_426 : decode cL_isSinger 426 = .ok (.iconst 1, 1) := by decide +kernel
theorem dL_isSinger_427 : decode cL_isSinger 427 = .ok (.goto 4, 3) := by decide +kernel
theorem dL_isSinger_430 : decode cL_isSinger 430 = .ok (.iconst 0, 1) := by decide +kernel
theorem dL_isSinger_431 : decode cL_isSinger 431 = .ok (.ireturn, 1) := by decide +kernel
theorem dL_isSo_0 : decode cL_isSo 0 = .ok (.iconst 0, 1) := by decide +kernel
theorem dL_isSo_1 : decode cL_isSo 1 = .ok (.istore 5, 2) := by decide +kernel
theorem dL_isSo_3 : decode cL_isSo 3 = .ok (.iconst 0, 1) := by decide +kernel
theorem dL_isSo_4 : decode cL_isSo 4 = .ok (.istore 6, 2) := by decide +kernel
theorem dL_isSo_6 : decode cL_isSo 6 = .ok (.iconst 1, 1) := by decide +kernel
theorem dL_isSo_7 : decode cL_isSo 7 = .ok (.istore 7, 2) := by decide +kernel
theorem dL_isSo_9 : decode cL_isSo 9 = .ok (.iconst 0, 1) := by decide +kernel
theorem dL_isSo_10 : decode cL_isSo 10 = .ok (.istore 8, 2) := by decide +kernel
theorem dL_isSo_12 : decode cL_isSo 12 = .ok (.iload 8, 2) := by decide +kernel
theorem dL_isSo_14 : decode cL_isSo 14 = .ok (.iconst 4, 1) := by decide +kernel
theorem dL_isSo_15 : decode cL_isSo 15 = .ok (.if_icmp .ge 254, 3) := by decide +kernel
theorem dL_isSo_18 : decode cL_isSo 18 = .ok (.iload 7, 2) := by decide +kernel
theorem dL_isSo_20 : decode cL_isSo 20 = .ok (.ifCond .eq 249, 3) := by decide +kernel
theorem dL_isSo_23 : decode cL_isSo 23 = .ok (.aload_n 1, 1) := by decide +kernel
theorem dL_isSo_24 : decode cL_isSo 24 = .ok (.iload 8, 2) := by decide +kernel
theorem dL_isSo_26 : decode cL_isSo 26 = .ok (.invokestatic 9, 3) := by decide +kernel
theorem dL_isSo_29 : decode cL_isSo 29 = .ok (.istore 9, 2) := by decide +kernel
theorem dL_isSo_31 : decode cL_isSo 31 = .ok (.iconst (-1), 1) := by decide +kernel
theorem dL_isSo_32 : decode cL_isSo 32 = .ok (.istore 10, 2) := by decide +kernel
theorem dL_isSo_34 : decode cL_isSo 34 = .ok (.iconst 0, 1) := by decide +kernel
theorem dL_isSo_35 : decode cL_isSo 35 = .ok (.istore 11, 2) := by decide +kernel
theorem dL_isSo_37 : decode cL_isSo 37 = .ok (.iload 11, 2) := by decide +kernel
theorem dL_isSo_39 : decode cL_isSo 39 = .ok (.iload 9, 2) := by decide +kernel
theorem dL_isSo_41 : decode cL_isSo 41 = .ok (.if_icmp .ge 61, 3) := by decide +kernel
theorem dL_isSo_44 : decode cL_isSo 44 = .ok (.iload 7, 2) := by decide +kernel
theorem dL_isSo_46 : decode cL_isSo 46 = .ok (.ifCond .eq 56, 3) := by decide +kernel
theorem dL_isSo_49 : decode cL_isSo 49 = .ok (.aload_n 0, 1) := by decide +kernel
theorem dL_isSo_50 : decode cL_isSo 50 = .ok (.aload_n 1, 1) := by decide +kernel
theorem dL_isSo_51 : decode cL_isSo 51 = .ok (.aload_n 2, 1) := by decide +kernel
theorem dL_isSo_52 : decode cL_isSo 52 = .ok (.aload_n 3, 1) := by decide +kernel
theorem dL_isSo_53 : decode cL_isSo 53 = .ok (.aload 4, 2) := by decide +kernel
theorem dL_isSo_55 : decode cL_isSo 55 = .ok (.iload 8, 2) := by decide +kernel
theorem dL_isSo_57 : decode cL_isSo 57 = .ok (.iload 11, 2) := by decide +kernel
theorem dL_isSo_59 : decode cL_isSo 59 = .ok (.invokestatic 40, 3) := by decide +kernel
theorem dL_isSo_62 : decode cL_isSo 62 = .ok (.istore 7, 2) := by decide +kernel
theorem dL_isSo_64 : decode cL_isSo 64 = .ok (.aload_n 1, 1) := by decide +kernel
theorem dL_isSo_65 : decode cL_isSo 65 = .ok (.bipush 6, 2) := by decide +kernel
theorem dL_isSo_67 : decode cL_isSo 67 = .ok (.iload 8, 2) := by decide +kernel
theorem dL_isSo_69 : decode cL_isSo 69 = .ok (.imul, 1) := by decide +kernel
theorem dL_isSo_70 : decode cL_isSo 70 = .ok (.iload 11, 2) := by decide +kernel
theorem dL_isSo_72 : decode cL_isSo 72 = .ok (.iadd, 1) := by decide +kernel
theorem dL_isSo_73 : decode cL_isSo 73 = .ok (.iaload, 1) := by decide +kernel
theorem dL_isSo_74 : decode cL_isSo 74 = .ok (.iload 10, 2) := by decide +kernel
theorem dL_isSo_76 : decode cL_isSo 76 = .ok (.if_icmp .le 16, 3) := by decide +kernel
theorem dL_isSo_79 : decode cL_isSo 79 = .ok (.aload_n 1, 1) := by decide +kernel
theorem dL_isSo_80 : decode cL_isSo 80 = .ok (.bipush 6, 2) := by decide +kernel
theorem dL_isSo_82 : decode cL_isSo 82 = .ok (.iload 8, 2) := by decide +kernel
theorem dL_isSo_84 : decode cL_isSo 84 = .ok (.imul, 1) := by decide +kernel
theorem dL_isSo_85 : decode cL_isSo 85 = .ok (.iload 11, 2) := by decide +kernel
theorem dL_isSo_87 : decode cL_isSo 87 = .ok (.iadd, 1) := by decide +kernel
theorem dL_isSo_88 : decode cL_isSo 88 = .ok (.iaload, 1) := by decide +kernel
theorem dL_isSo_89 : decode cL_isSo 89 = .ok (.goto 5, 3) := by decide +kernel
theorem dL_isSo_92 : decode cL_isSo 92 = .ok (.iload 10, 2) := by decide +kernel
theorem dL_isSo_94 : decode cL_isSo 94 = .ok (.istore 10, 2) := by decide +kernel
theorem dL_isSo_96 : decode cL_isSo 96 = .ok (.iinc 11 1, 3) := by decide +kernel
theorem dL_isSo_99 : decode cL_isSo 99 = .ok (.goto (-62), 3) := by decide +kernel
theorem dL_isSo_102 : decode cL_isSo 102 = .ok (.aload_n 1, 1) := by decide +kernel
theorem dL_isSo_103 : decode cL_isSo 103 = .ok (.aload 4, 2) := by decide +kernel
theorem dL_isSo_105 : decode cL_isSo 105 = .ok (.iload 8, 2) := by decide +kernel
theorem dL_isSo_107 : decode cL_isSo 107 = .ok (.invokestatic 44, 3) := by decide +kernel
theorem dL_isSo_110 : decode cL_isSo 110 = .ok (.istore 11, 2) := by decide +kernel
theorem dL_isSo_112 : decode cL_isSo 112 = .ok (.iload 7, 2) := by decide +kernel
theorem dL_isSo_114 : decode cL_isSo 114 = .ok (.ifCond .eq 128, 3) := by decide +kernel
theorem dL_isSo_117 : decode cL_isSo 117 = .ok (.aload_n 0, 1) := by decide +kernel
theorem dL_isSo_118 : decode cL_isSo 118 = .ok (.iload 8, 2) := by decide +kernel
theorem dL_isSo_120 : decode cL_isSo 120 = .ok (.iconst 0, 1) := by decide +kernel
theorem dL_isSo_121 : decode cL_isSo 121 = .ok (.invokevirtual 47, 3) := by decide +kernel
theorem dL_isSo_124 : decode cL_isSo 124 = .ok (.iload 9, 2) := by decide +kernel
theorem dL_isSo_126 : decode cL_isSo 126 = .ok (.if_icmp .ne 116, 3) := by decide +kernel
theorem dL_isSo_129 : decode cL_isSo 129 = .ok (.aload_n 0, 1) := by decide +kernel
theorem dL_isSo_130 : decode cL_isSo 130 = .ok (.iload 8, 2) := by decide +kernel
theorem dL_isSo_132 : decode cL_isSo 132 = .ok (.iconst 1, 1) := by decide +kernel
theorem dL_isSo_133 : decode cL_isSo 133 = .ok (.invokevirtual 47, 3) := by decide +kernel
theorem dL_isSo_136 : decode cL_isSo 136 = .ok (.aload_n 1, 1) := by decide +kernel
theorem dL_isSo_137 : decode cL_isSo 137 = .ok (.aload 4, 2) := by decide +kernel
theorem dL_isSo_139 : decode cL_isSo 139 = .ok (.iload 8, 2) := by decide +kernel
theorem dL_isSo_141 : decode cL_isSo 141 = .ok (.invokestatic 19, 3) := by decide +kernel
theorem dL_isSo_144 : decode cL_isSo 144 = .ok (.if_icmp .ne 98, 3) := by decide +kernel
theorem dL_isSo_147 : decode cL_isSo 147 = .ok (.aload_n 0, 1) := by decide +kernel
theorem dL_isSo_148 : decode cL_isSo 148 = .ok (.iload 8, 2) := by decide +kernel
theorem dL_isSo_150 : decode cL_isSo 150 = .ok (.iconst 2, 1) := by decide +kernel
theorem dL_isSo_151 : decode cL_isSo 151 = .ok (.invokevirtual 47, 3) := by decide +kernel
theorem dL_isSo_154 : decode cL_isSo 154 = .ok (.aload_n 1, 1) := by decide +kernel
theorem dL_isSo_155 : decode cL_isSo 155 = .ok (.iload 8, 2) := by decide +kernel
theorem dL_isSo_157 : decode cL_isSo 157 = .ok (.invokestatic 50, 3) := by decide +kernel
theorem dL_isSo_160 : decode cL_isSo 160 = .ok (.if_icmp .ne 82, 3) := by decide +kernel
theorem dL_isSo_163 : decode cL_isSo 163 = .ok (.aload_n 0, 1) := by decide +kernel
theorem dL_isSo_164 : decode cL_isSo 164 = .ok (.iload 8, 2) := by decide +kernel
theorem dL_isSo_166 : decode cL_isSo 166 = .ok (.iconst 3, 1) := by decide +kernel
theorem dL_isSo_167 : decode cL_isSo 167 = .ok (.invokevirtual 47, 3) := by decide +kernel
theorem dL_isSo_170 : decode cL_isSo 170 = .ok (.aload_n 1, 1) := by decide +kernel
theorem dL_isSo_171 : decode cL_isSo 171 = .ok (.iload 8, 2) := by decide +kernel
theorem dL_isSo_173 : decode cL_isSo 173 = .ok (.invokestatic 50, 3) := by decide +kernel
theorem dL_isSo_176 : decode cL_isSo 176 = .ok (.iconst 1, 1) := by decide +kernel
theorem dL_isSo_177 : decode cL_isSo 177 = .ok (.iand, 1) := by decide +kernel
theorem dL_isSo_178 : decode cL_isSo 178 = .ok (.if_icmp .ne 64, 3) := by decide +kernel
theorem dL_isSo_181 : decode cL_isSo 181 = .ok (.aload_n 0, 1) := by decide +kernel
theorem dL_isSo_182 : decode cL_isSo 182 = .ok (.iload 8, 2) := by decide +kernel
theorem dL_isSo_184 : decode cL_isSo 184 = .ok (.iconst 4, 1) := by decide +kernel
theorem dL_isSo_185 : decode cL_isSo 185 = .ok (.invokevirtual 47, 3) := by decide +kernel
theorem dL_isSo_188 : decode cL_isSo 188 = .ok (.iload 11, 2) := by decide +kernel
theorem dL_isSo_190 : decode cL_isSo 190 = .ok (.bipush 100, 2) := by decide +kernel
theorem dL_isSo_192 : decode cL_isSo 192 = .ok (.idiv, 1) := by decide +kernel
theorem dL_isSo_193 : decode cL_isSo 193 = .ok (.if_icmp .ne 49, 3) := by decide +kernel
theorem dL_isSo_196 : decode cL_isSo 196 = .ok (.aload_n 0, 1) := by decide +kernel
theorem dL_isSo_197 : decode cL_isSo 197 = .ok (.iload 8, 2) := by decide +kernel
theorem dL_isSo_199 : decode cL_isSo 199 = .ok (.iconst 5, 1) := by decide +kernel
theorem dL_isSo_200 : decode cL_isSo 200 = .ok (.invokevirtual 47, 3) := by decide +kernel
theorem dL_isSo_203 : decode cL_isSo 203 = .ok (.iload 11, 2) := by decide +kernel
theorem dL_isSo_205 : decode cL_isSo 205 = .ok (.bipush 100, 2) := by decide +kernel
theorem dL_isSo_207 : decode cL_isSo 207 = .ok (.irem, 1) := by decide +kernel
theorem dL_isSo_208 : decode cL_isSo 208 = .ok (.if_icmp .ne 34, 3) := by decide +kernel
theorem dL_isSo_211 : decode cL_isSo 211 = .ok (.aload_n 0, 1) := by decide +kernel
theorem dL_isSo_212 : decode cL_isSo 212 = .ok (.iload 8, 2) := by decide +kernel
theorem dL_isSo_214 : decode cL_isSo 214 = .ok (.bipush 6, 2) := by decide +kernel
theorem dL_isSo_216 : decode cL_isSo 216 = .ok (.invokevirtual 47, 3) := by decide +kernel
theorem dL_isSo_219 : decode cL_isSo 219 = .ok (.iload 10, 2) := by decide +kernel
theorem dL_isSo_221 : decode cL_isSo 221 = .ok (.if_icmp .ne 21, 3) := by decide +kernel
theorem dL_isSo_224 : decode cL_isSo 224 = .ok (.aload_n 0, 1) := by decide +kernel
theorem dL_isSo_225 : decode cL_isSo 225 = .ok (.iload 8, 2) := by decide +kernel
theorem dL_isSo_227 : decode cL_isSo 227 = .ok (.iconst 5, 1) := by decide +kernel
theorem dL_isSo_228 : decode cL_isSo 228 = .ok (.iload 9, 2) := by decide +kernel
theorem dL_isSo_230 : decode cL_isSo 230 = .ok (.imul, 1) := by decide +kernel
theorem dL_isSo_231 : decode cL_isSo 231 = .ok (.invokevirtual 33, 3) := by decide +kernel
theorem dL_isSo_234 : decode cL_isSo 234 = .ok (.iconst (-1), 1) := by decide +kernel
theorem dL_isSo_235 : decode cL_isSo 235 = .ok (.if_icmp .ne 7, 3) := by decide +kernel
theorem dL_isSo_238 : decode cL_isSo 238 = .ok (.iconst 1, 1) := by decide +kernel
theorem dL_isSo_239 : decode cL_isSo 239 = .ok (.goto 4, 3) := by decide +kernel
theorem dL_isSo_242 : decode cL_isSo 242 = .ok (.iconst 0, 1) := by decide +kernel
theorem dL_isSo_243 : decode cL_isSo 243 = .ok (.istore 7, 2) := by decide +kernel
theorem dL_isSo_245 : decode cL_isSo 245 = .ok (.iload 5, 2) := by decide +kernel
theorem dL_isSo_247 : decode cL_isSo 247 = .ok (.iload 9, 2) := by decide +kernel
theorem dL_isSo_249 : decode cL_isSo 249 = .ok (.iadd, 1) := by decide +kernel
theorem dL_isSo_250 : decode cL_isSo 250 = .ok (.istore 5, 2) := by decide +kernel
theorem dL_isSo_252 : decode cL_isSo 252 = .ok (.iload 6, 2) := by decide +kernel
theorem dL_isSo_254 : decode cL_isSo 254 = .ok (.aload_n 1, 1) := by decide +kernel
theorem dL_isSo_255 : decode cL_isSo 255 = .ok (.iload 8, 2) := by decide +kernel
theorem dL_isSo_257 : decode cL_isSo 257 = .ok (.invokestatic 50, 3) := by decide +kernel
theorem dL_isSo_260 : decode cL_isSo 260 = .ok (.iadd, 1) := by decide +kernel
theorem dL_isSo_261 : decode cL_isSo 261 = .ok (.istore 6, 2) := by decide +kernel
theorem dL_isSo_263 : decode cL_isSo 263 = .ok (.iinc 8 1, 3) := by decide +kernel
theorem dL_isSo_266 : decode cL_isSo 266 = .ok (.goto (-254), 3) := by decide +kernel
theorem dL_isSo_269 : decode cL_isSo 269 = .ok (.iload 7, 2) := by decide +kernel
theorem dL_isSo_271 : decode cL_isSo 271 = .ok (.ifCond .eq 117, 3) := by decide +kernel
theorem dL_isSo_274 : decode cL_isSo 274 = .ok (.aload_n 0, 1) := by decide +kernel
theorem dL_isSo_275 : decode cL_isSo 275 = .ok (.iconst 0, 1) := by decide +kernel
theorem dL_isSo_276 : decode cL_isSo 276 = .ok (.invokevirtual 53, 3) := by decide +kernel
theorem dL_isSo_279 : decode cL_isSo 279 = .ok (.iload 5, 2) := by decide +kernel
theorem dL_isSo_281 : decode cL_isSo 281 = .ok (.if_icmp .ne 107, 3) := by decide +kernel
theorem dL_isSo_284 : decode cL_isSo 284 = .ok (.aload_n 0, 1) := by decide +kernel
theorem dL_isSo_285 : decode cL_isSo 285 = .ok (.iconst 1, 1) := by decide +kernel
theorem dL_isSo_286 : decode cL_isSo 286 = .ok (.invokevirtual 53, 3) := by decide +kernel
theorem dL_isSo_289 : decode cL_isSo 289 = .ok (.aload_n 1, 1) := by decide +kernel
theorem dL_isSo_290 : decode cL_isSo 290 = .ok (.aload 4, 2) := by decide +kernel
theorem dL_isSo_292 : decode cL_isSo 292 = .ok (.invokestatic 56, 3) := by decide +kernel
theorem dL_isSo_295 : decode cL_isSo 295 = .ok (.if_icmp .ne 93, 3) := by decide +kernel
theorem dL_isSo_298 : decode cL_isSo 298 = .ok (.aload_n 0, 1) := by decide +kernel
theorem dL_isSo_299 : decode cL_isSo 299 = .ok (.iconst 2, 1) := by decide +kernel
theorem dL_isSo_300 : decode cL_isSo 300 = .ok (.invokevirtual 53, 3) := by decide +kernel
theorem dL_isSo_303 : decode cL_isSo 303 = .ok (.aload 4, 2) := by decide +kernel
theorem dL_isSo_305 : decode cL_isSo 305 = .ok (.iconst 2, 1) := by decide +kernel
theorem dL_isSo_306 : decode cL_isSo 306 = .ok (.iaload, 1) := by decide +kernel
theorem dL_isSo_307 : decode cL_isSo 307 = .ok (.if_icmp .ne 81, 3) := by decide +kernel
theorem dL_isSo_310 : decode cL_isSo 310 = .ok (.aload_n 0, 1) := by decide +kernel
theorem dL_isSo_311 : decode cL_isSo 311 = .ok (.iconst 3, 1) := by decide +kernel
theorem dL_isSo_312 : decode cL_isSo 312 = .ok (.invokevirtual 53, 3) := by decide +kernel
theorem dL_isSo_315 : decode cL_isSo 315 = .ok (.aload 4, 2) := by decide +kernel
theorem dL_isSo_317 : decode cL_isSo 317 = .ok (.iconst 3, 1) := by decide +kernel
theorem dL_isSo_318 : decode cL_isSo 318 = .ok (.iaload, 1) := by decide +kernel
theorem dL_isSo_319 : decode cL_isSo 319 = .ok (.if_icmp .ne 69, 3) := by decide +kernel
theorem dL_isSo_322 : decode cL_isSo 322 = .ok (.aload 4, 2) := by decide +kernel
theorem dL_isSo_324 : decode cL_isSo 324 = .ok (.iconst 2, 1) := by decide +kernel
theorem dL_isSo_325 : decode cL_isSo 325 = .ok (.iaload, 1) := by decide +kernel
theorem dL_isSo_326 : decode cL_isSo 326 = .ok (.aload 4, 2) := by decide +kernel
theorem dL_isSo_328 : decode cL_isSo 328 = .ok (.iconst 3, 1) := by decide +kernel
theorem dL_isSo_329 : decode cL_isSo 329 = .ok (.iaload, 1) := by decide +kernel
theorem dL_isSo_330 : decode cL_isSo 330 = .ok (.isub, 1) := by decide +kernel
theorem dL_isSo_331 : decode cL_isSo 331 = .ok (.iload 5, 2) := by decide +kernel
theorem dL_isSo_333 : decode cL_isSo 333 = .ok (.if_icmp .ne 55, 3) := by decide +kernel
theorem dL_isSo_336 : decode cL_isSo 336 = .ok (.aload_n 0, 1) := by decide +kernel
theorem dL_isSo_337 : decode cL_isSo 337 = .ok (.iconst 4, 1) := by decide +kernel
theorem dL_isSo_338 : decode cL_isSo 338 = .ok (.invokevirtual 53, 3) := by decide +kernel
theorem dL_isSo_341 : decode cL_isSo 341 = .ok (.aload 4, 2) := by decide +kernel
theorem dL_isSo_343 : decode cL_isSo 343 = .ok (.iconst 4, 1) := by decide +kernel
theorem dL_isSo_344 : decode cL_isSo 344 = .ok (.iaload, 1) := by decide +kernel
theorem dL_isSo_345 : decode cL_isSo 345 = .ok (.if_icmp .ne 43, 3) := by decide +kernel
theorem dL_isSo_348 : decode cL_isSo 348 = .ok (.aload_n 0, 1) := by decide +kernel
theorem dL_isSo_349 : decode cL_isSo 349 = .ok (.iconst 5, 1) := by decide +kernel
theorem dL_isSo_350 : decode cL_isSo 350 = .ok (.invokevirtual 53, 3) := by decide +kernel
theorem dL_isSo_353 : decode cL_isSo 353 = .ok (.iload 6, 2) := by decide +kernel
theorem dL_isSo_355 : decode cL_isSo 355 = .ok (.if_icmp .ne 33, 3) := by decide +kernel
theorem dL_isSo_358 : decode cL_isSo 358 = .ok (.aload_n 0, 1) := by decide +kernel
theorem dL_isSo_359 : decode cL_isSo 359 = .ok (.bipush 6, 2) := by decide +kernel
theorem dL_isSo_361 : decode cL_isSo 361 = .ok (.invokevirtual 53, 3) := by decide +kernel
theorem dL_isSo_364 : decode cL_isSo 364 = .ok (.aload 4, 2) := by decide +kernel
theorem dL_isSo_366 : decode cL_isSo 366 = .ok (.iconst 0, 1) := by decide +kernel
theorem dL_isSo_367 : decode cL_isSo 367 = .ok (.iaload, 1) := by decide +kernel
theorem dL_isSo_368 : decode cL_isSo 368 = .ok (.if_icmp .ne 20, 3) := by decide +kernel
theorem dL_isSo_371 : decode cL_isSo 371 = .ok (.aload_n 0, 1) := by decide +kernel
theorem dL_isSo_372 : decode cL_isSo 372 = .ok (.bipush 7, 2) := by decide +kernel
theorem dL_isSo_374 : decode cL_isSo 374 = .ok (.invokevirtual 53, 3) := by decide +kernel
theorem dL_isSo_377 : decode cL_isSo 377 = .ok (.aload 4, 2) := by decide +kernel
theorem dL_isSo_379 : decode cL_isSo 379 = .ok (.iconst 1, 1) := by decide +kernel
theorem dL_isSo_380 : decode cL_isSo 380 = .ok (.iaload, 1) := by decide +kernel
theorem dL_isSo_381 : decode cL_isSo 381 = .ok (.if_icmp .ne 7, 3) := by decide +kernel
theorem dL_isSo_384 : decode cL_isSo 384 = .ok (.iconst 1, 1) := by decide +kernel
theorem dL_isSo_385 : decode cL_isSo 385 = .ok (.goto 4, 3) := by decide +kernel
theorem dL_isSo_388 : decode cL_isSo 388 = .ok (.iconst 0, 1) := by decide +kernel
theorem dL_isSo_389 : decode cL_isSo 389 = .ok (.istore 7, 2) := by decide +kernel
theorem dL_isSo_391 : decode cL_isSo 391 = .ok (.iload 7, 2) := by decide +kernel
theorem dL_isSo_393 : decode cL_isSo 393 = .ok (.ifCond .eq 55, 3) := by decide +kernel
theorem dL_isSo_396 : decode cL_isSo 396 = .ok (.aload_n 0, 1) := by decide +kernel
theorem dL_isSo_397 : decode cL_isSo 397 = .ok (.aload 4, 2) := by decide +kernel
theorem dL_isSo_399 : decode cL_isSo 399 = .ok (.iconst 2, 1) := by decide +kernel
theorem dL_isSo_400 : decode cL_isSo 400 = .ok (.iaload, 1) := by decide +kernel
theorem dL_isSo_401 : decode cL_isSo 401 = .ok (.invokevirtual 29, 3) := by decide +kernel
theorem dL_isSo_404 : decode cL_isSo 404 = .ok (.iconst (-1), 1) := by decide +kernel
theorem dL_isSo_405 : decode cL_isSo 405 = .ok (.if_icmp .ne 43, 3) := by decide +kernel
theorem dL_isSo_408 : decode cL_isSo 408 = .ok (.iload 5, 2) := by decide +kernel
theorem dL_isSo_410 : decode cL_isSo 410 = .ok (.ifCond .ne 15, 3) := by decide +kernel
theorem dL_isSo_413 : decode cL_isSo 413 = .ok (.aload_n 0, 1) := by decide +kernel
theorem dL_isSo_414 : decode cL_isSo 414 = .ok (.invokevirtual 60, 3) := by decide +kernel
theorem dL_isSo_417 : decode cL_isSo 417 = .ok (.dconst 1, 1) := by decide +kernel
theorem dL_isSo_418 : decode cL_isSo 418 = .ok (.dcmp .l, 1) := by decide +kernel
theorem dL_isSo_419 : decode cL_isSo 419 = .ok (.ifCond .ne 29, 3) := by decide +kernel
theorem dL_isSo_422 : decode cL_isSo 422 = .ok (.goto 22, 3) := by decide +kernel
theorem dL_isSo_425 : decode cL_isSo 425 = .ok (.aload_n 0, 1) := by decide +kernel
theorem dL_isSo_426 : decode cL_isSo 426 = .ok (.invokevirtual 60, 3) := by decide +kernel
theorem dL_isSo_429 : decode cL_isSo 429 = .ok (.aload_n 1, 1) := by decide +kernel
theorem dL_isSo_430 : decode cL_isSo 430 = .ok (.aload 4, 2) := by decide +kernel
theorem dL_isSo_432 : decode cL_isSo 432 = .ok (.invokestatic 56, 3) := by decide +kernel
theorem dL_isSo_435 : decode cL_isSo 435 = .ok (.i2d, 1) := by decide +kernel
theorem dL_isSo_436 : decode cL_isSo 436 = .ok (.iload 5, 2) := by decide +kernel
theorem dL_isSo_438 : decode cL_isSo 438 = .ok (.i2d, 1) := by decide +kernel
theorem dL_isSo_439 : decode cL_isSo 439 = .ok (.ddiv, 1) := by decide +kernel
theorem dL_isSo_440 : decode cL_isSo 440 = .ok (.dcmp .l, 1) := by decide +kernel
theorem dL_isSo_441 : decode cL_isSo 441 = .ok (.ifCond .ne 7, 3) := by decide +kernel
theorem dL_isSo_444 : decode cL_isSo 444 = .ok (.iconst 1, 1) := by decide +kernel
theorem dL_isSo_445 : decode cL_isSo 445 = .ok (.goto 4, 3) := by decide +kernel
theorem dL_isSo_448 : decode cL_isSo 448 = .ok (.iconst 0, 1) := by decide +kernel
theorem dL_isSo_449 : decode cL_isSo 449 = .ok (.ireturn, 1) := by decide +kernel
theorem dL_exchange_0 : decode cL_exchange 0 = .ok (.aload_n 0, 1) := by decide +kernel
theorem dL_exchange_1 : decode cL_exchange 1 = .ok (.iload_n 1, 1) := by decide +kernel
theorem dL_exchange_2 : decode cL_exchange 2 = .ok (.iaload, 1) := by decide +kernel
theorem dL_exchange_3 : decode cL_exchange 3 = .ok (.istore_n 3, 1) := by decide +kernel
theorem dL_exchange_4 : decode cL_exchange 4 = .ok (.aload_n 0, 1) := by decide +kernel
theorem dL_exchange_5 : decode cL_exchange 5 = .ok (.iload_n 1, 1) := by decide +kernel
theorem dL_exchange_6 : decode cL_exchange 6 = .ok (.aload_n 0, 1) := by decide +kernel
theorem dL_exchange_7 : decode cL_exchange 7 = .ok (.iload_n 2, 1) := by decide +kernel
theorem dL_exchange_8 : decode cL_exchange 8 = .ok (.iaload, 1) := by decide +kernel
theorem dL_exchange_9 : decode cL_exchange 9 = .ok (.iastore, 1) := by decide +kernel
theorem dL_exchange_10 : decode cL_exchange 10 = .ok (.aload_n 0, 1) := by decide +kernel
theorem dL_exchange_11 : decode cL_exchange 11 = .ok (.iload_n 2, 1) := by decide +kernel
theorem dL_exchange_12 : decode cL_exchange 12 = .ok (.iload_n 3, 1) := by decide +kernel
theorem dL_exchange_13 : decode cL_exchange 13 = .ok (.iastore, 1) := by decide +kernel
theorem dL_exchange_14 : decode cL_exchange 14 = .ok (.return_, 1) := by decide +kernel
theorem dL_some_0 : decode cL_some 0 = .ok (.iconst (-1), 1) := by decide +kernel
theorem dL_some_1 : decode cL_some 1 = .ok (.istore_n 2, 1) := by decide +kernel
theorem dL_some_2 : decode cL_some 2 = .ok (.iconst 0, 1) := by decide +kernel
theorem dL_some_3 : decode cL_some 3 = .ok (.istore_n 3, 1) := by decide +kernel
theorem dL_some_4 : decode cL_some 4 = .ok (.iload_n 3, 1) := by decide +kernel
theorem dL_some_5 : decode cL_some 5 = .ok (.bipush 24, 2) := by decide +kernel
theorem dL_some_7 : decode cL_some 7 = .ok (.if_icmp .ge 45, 3) := by decide +kernel
theorem dL_some_10 : decode cL_some 10 = .ok (.iload_n 2, 1) := by decide +kernel
theorem dL_some_11 : decode cL_some 11 = .ok (.ifCond .ge 41, 3) := by decide +kernel
theorem dL_some_14 : decode cL_some 14 = .ok (.aload_n 0, 1) := by decide +kernel
theorem dL_some_15 : decode cL_some 15 = .ok (.iload_n 1, 1) := by decide +kernel
theorem dL_some_16 : decode cL_some 16 = .ok (.bipush 24, 2) := by decide +kernel
theorem dL_some_18 : decode cL_some 18 = .ok (.invokestatic 64, 3) := by decide +kernel
theorem dL_some_21 : decode cL_some 21 = .ok (.iload_n 3, 1) := by decide +kernel
theorem dL_some_22 : decode cL_some 22 = .ok (.iadd, 1) := by decide +kernel
theorem dL_some_23 : decode cL_some 23 = .ok (.bipush 24, 2) := by decide +kernel
theorem dL_some_25 : decode cL_some 25 = .ok (.irem, 1) := by decide +kernel
theorem dL_some_26 : decode cL_some 26 = .ok (.iaload, 1) := by decide +kernel
theorem dL_some_27 : decode cL_some 27 = .ok (.ifCond .le 17, 3) := by decide +kernel
theorem dL_some_30 : decode cL_some 30 = .ok (.iload_n 1, 1) := by decide +kernel
theorem dL_some_31 : decode cL_some 31 = .ok (.bipush 24, 2) := by decide +kernel
theorem dL_some_33 : decode cL_some 33 = .ok (.invokestatic 64, 3) := by decide +kernel
theorem dL_some_36 : decode cL_some 36 = .ok (.iload_n 3, 1) := by decide +kernel
theorem dL_some_37 : decode cL_some 37 = .ok (.iadd, 1) := by decide +kernel
theorem dL_some_38 : decode cL_some 38 = .ok (.bipush 24, 2) := by decide +kernel
theorem dL_some_40 : decode cL_some 40 = .ok (.irem, 1) := by decide +kernel
theorem dL_some_41 : decode cL_some 41 = .ok (.goto 4, 3) := by decide +kernel
theorem dL_some_44 : decode cL_some 44 = .ok (.iconst (-1), 1) := by decide +kernel
theorem dL_some_45 : decode cL_some 45 = .ok (.istore_n 2, 1) := by decide +kernel
theorem dL_some_46 : decode cL_some 46 = .ok (.iinc 3 1, 3) := by decide +kernel
theorem dL_some_49 : decode cL_some 49 = .ok (.goto (-45), 3) := by decide +kernel
theorem dL_some_52 : decode cL_some 52 = .ok (.iload_n 2, 1) := by decide +kernel
theorem dL_some_53 : decode cL_some 53 = .ok (.ireturn, 1) := by decide +kernel
theorem dL_would_0 : decode cL_would 0 = .ok (.aload_n 1, 1) := by decide +kernel
theorem dL_would_1 : decode cL_would 1 = .ok (.iload_n 3, 1) := by decide +kernel
theorem dL_would_2 : decode cL_would 2 = .ok (.invokestatic 67, 3) := by decide +kernel
theorem dL_would_5 : decode cL_would 5 = .ok (.istore 4, 2) := by decide +kernel
theorem dL_would_7 : decode cL_would 7 = .ok (.aload_n 1, 1) := by decide +kernel
theorem dL_would_8 : decode cL_would 8 = .ok (.iload_n 3, 1) := by decide +kernel
theorem dL_would_9 : decode cL_would 9 = .ok (.bipush 6, 2) := by decide +kernel
theorem dL_would_11 : decode cL_would 11 = .ok (.ishr, 1) := by decide +kernel
theorem dL_would_12 : decode cL_would 12 = .ok (.invokestatic 67, 3) := by decide +kernel
theorem dL_would_15 : decode cL_would 15 = .ok (.istore 5, 2) := by decide +kernel
theorem dL_would_17 : decode cL_would 17 = .ok (.iload_n 3, 1) := by decide +kernel
theorem dL_would_18 : decode cL_would 18 = .ok (.bipush 9, 2) := by decide +kernel
theorem dL_would_20 : decode cL_would 20 = .ok (.ishr, 1) := by decide +kernel
theorem dL_would_21 : decode cL_would 21 = .ok (.iconst 4, 1) := by decide +kernel
theorem dL_would_22 : decode cL_would 22 = .ok (.invokestatic 64, 3) := by decide +kernel
theorem dL_would_25 : decode cL_would 25 = .ok (.istore 6, 2) := by decide +kernel
theorem dL_would_27 : decode cL_would 27 = .ok (.bipush 100, 2) := by decide +kernel
theorem dL_would_29 : decode cL_would 29 = .ok (.iload_n 3, 1) := by decide +kernel
theorem dL_would_30 : decode cL_would 30 = .ok (.iconst 5, 1) := by decide +kernel
theorem dL_would_31 : decode cL_would 31 = .ok (.ishr, 1) := by decide +kernel
theorem dL_would_32 : decode cL_would 32 = .ok (.bipush 121, 2) := by decide +kernel
theorem dL_would_34 : decode cL_would 34 = .ok (.invokestatic 64, 3) := by decide +kernel
theorem dL_would_37 : decode cL_would 37 = .ok (.iadd, 1) := by decide +kernel
theorem dL_would_38 : decode cL_would 38 = .ok (.istore 7, 2) := by decide +kernel
theorem dL_would_40 : decode cL_would 40 = .ok (.iconst 1, 1) := by decide +kernel
theorem dL_would_41 : decode cL_would 41 = .ok (.istore 8, 2) := by decide +kernel
theorem dL_would_43 : decode cL_would 43 = .ok (.iload 4, 2) := by decide +kernel
theorem dL_would_45 : decode cL_would 45 = .ok (.ifCond .lt 58, 3) := by decide +kernel
theorem dL_would_48 : decode cL_would 48 = .ok (.aload_n 1, 1) := by decide +kernel
theorem dL_would_49 : decode cL_would 49 = .ok (.iload 4, 2) := by decide +kernel
theorem dL_would_51 : decode cL_would 51 = .ok (.iload 5, 2) := by decide +kernel
theorem dL_would_53 : decode cL_would 53 = .ok (.invokestatic 70, 3) := by decide +kernel
theorem dL_would_56 : decode cL_would 56 = .ok (.aload_n 0, 1) := by decide +kernel
theorem dL_would_57 : decode cL_would 57 = .ok (.iload 4, 2) := by decide +kernel
theorem dL_would_59 : decode cL_would 59 = .ok (.bipush 6, 2) := by decide +kernel
theorem dL_would_61 : decode cL_would 61 = .ok (.idiv, 1) := by decide +kernel
theorem dL_would_62 : decode cL_would 62 = .ok (.iload 4, 2) := by decide +kernel
theorem dL_would_64 : decode cL_would 64 = .ok (.bipush 6, 2) := by decide +kernel
theorem dL_would_66 : decode cL_would 66 = .ok (.irem, 1) := by decide +kernel
theorem dL_would_67 : decode cL_would 67 = .ok (.iload 5, 2) := by decide +kernel
theorem dL_would_69 : decode cL_would 69 = .ok (.bipush 6, 2) := by decide +kernel
theorem dL_would_71 : decode cL_would 71 = .ok (.idiv, 1) := by decide +kernel
theorem dL_would_72 : decode cL_would 72 = .ok (.iload 5, 2) := by decide +kernel
theorem dL_would_74 : decode cL_would 74 = .ok (.bipush 6, 2) := by decide +kernel
theorem dL_would_76 : decode cL_would 76 = .ok (.irem, 1) := by decide +kernel
theorem dL_would_77 : decode cL_would 77 = .ok (.invokevirtual 74, 3) := by decide +kernel
theorem dL_would_80 : decode cL_would 80 = .ok (.aload_n 1, 1) := by decide +kernel
theorem dL_would_81 : decode cL_would 81 = .ok (.aload_n 2, 1) := by decide +kernel
theorem dL_would_82 : decode cL_would 82 = .ok (.invokestatic 56, 3) := by decide +kernel
theorem dL_would_85 : decode cL_would 85 = .ok (.if_icmp .ne 7, 3) := by decide +kernel
theorem dL_would_88 : decode cL_would 88 = .ok (.iconst 1, 1) := by decide +kernel
theorem dL_would_89 : decode cL_would 89 = .ok (.goto 4, 3) := by decide +kernel
theorem dL_would_92 : decode cL_would 92 = .ok (.iconst 0, 1) := by decide +kernel
theorem dL_would_93 : decode cL_would 93 = .ok (.istore 8, 2) := by decide +kernel
theorem dL_would_95 : decode cL_would 95 = .ok (.aload_n 1, 1) := by decide +kernel
theorem dL_would_96 : decode cL_would 96 = .ok (.iload 4, 2) := by decide +kernel
theorem dL_would_98 : decode cL_would 98 = .ok (.iload 5, 2) := by decide +kernel
theorem dL_would_100 : decode cL_would 100 = .ok (.invokestatic 70, 3) := by decide +kernel
theorem dL_would_103 : decode cL_would 103 = .ok (.iconst (-1), 1) := by decide +kernel
theorem dL_would_104 : decode cL_would 104 = .ok (.istore 9, 2) := by decide +kernel
theorem dL_would_106 : decode cL_would 106 = .ok (.aload_n 1, 1) := by decide +kernel
theorem dL_would_107 : decode cL_would 107 = .ok (.aload_n 2, 1) := by decide +kernel
theorem dL_would_108 : decode cL_would 108 = .ok (.invokestatic 56, 3) := by decide +kernel
theorem dL_would_111 : decode cL_would 111 = .ok (.iconst 1, 1) := by decide +kernel
theorem dL_would_112 : decode cL_would 112 = .ok (.iadd, 1) := by decide +kernel
theorem dL_would_113 : decode cL_would 113 = .ok (.istore 10, 2) := by decide +kernel
theorem dL_would_115 : decode cL_would 115 = .ok (.bipush 35, 2) := by decide +kernel
theorem dL_would_117 : decode cL_would 117 = .ok (.istore 11, 2) := by decide +kernel
theorem dL_would_119 : decode cL_would 119 = .ok (.iload 11, 2) := by decide +kernel
theorem dL_would_121 : decode cL_would 121 = .ok (.ifCond .lt 127, 3) := by decide +kernel
theorem dL_would_124 : decode cL_would 124 = .ok (.iload 11, 2) := by decide +kernel
theorem dL_would_126 : decode cL_would 126 = .ok (.bipush 6, 2) := by decide +kernel
theorem dL_would_128 : decode cL_would 128 = .ok (.idiv, 1) := by decide +kernel
theorem dL_would_129 : decode cL_would 129 = .ok (.iload 11, 2) := by decide +kernel
theorem dL_would_131 : decode cL_would 131 = .ok (.bipush 6, 2) := by decide +kernel
theorem dL_would_133 : decode cL_would 133 = .ok (.irem, 1) := by decide +kernel
theorem dL_would_134 : decode cL_would 134 = .ok (.if_icmp .ge 108, 3) := by decide +kernel
theorem dL_would_137 : decode cL_would 137 = .ok (.iload 11, 2) := by decide +kernel
theorem dL_would_139 : decode cL_would 139 = .ok (.bipush 6, 2) := by decide +kernel
theorem dL_would_141 : decode cL_would 141 = .ok (.irem, 1) := by decide +kernel
theorem dL_would_142 : decode cL_would 142 = .ok (.aload_n 1, 1) := by decide +kernel
theorem dL_would_143 : decode cL_would 143 = .ok (.iload 6, 2) := by decide +kernel
theorem dL_would_145 : decode cL_would 145 = .ok (.invokestatic 9, 3) := by decide +kernel
theorem dL_would_148 : decode cL_would 148 = .ok (.if_icmp .ge 94, 3) := by decide +kernel
theorem dL_would_151 : decode cL_would 151 = .ok (.aload_n 1, 1) := by decide +kernel
theorem dL_would_152 : decode cL_would 152 = .ok (.bipush 6, 2) := by decide +kernel
theorem dL_would_154 : decode cL_would 154 = .ok (.iload 6, 2) := by decide +kernel
theorem dL_would_156 : decode cL_would 156 = .ok (.imul, 1) := by decide +kernel
theorem dL_would_157 : decode cL_would 157 = .ok (.iload 11, 2) := by decide +kernel
theorem dL_would_159 : decode cL_would 159 = .ok (.bipush 6, 2) := by decide +kernel
theorem dL_would_161 : decode cL_would 161 = .ok (.idiv, 1) := by decide +kernel
theorem dL_would_162 : decode cL_would 162 = .ok (.iadd, 1) := by decide +kernel
theorem dL_would_163 : decode cL_would 163 = .ok (.bipush 6, 2) := by decide +kernel
theorem dL_would_165 : decode cL_would 165 = .ok (.iload 6, 2) := by decide +kernel
theorem dL_would_167 : decode cL_would 167 = .ok (.imul, 1) := by decide +kernel
theorem dL_would_168 : decode cL_would 168 = .ok (.iload 11, 2) := by decide +kernel
theorem dL_would_170 : decode cL_would 170 = .ok (.bipush 6, 2) := by decide +kernel
theorem dL_would_172 : decode cL_would 172 = .ok (.irem, 1) := by decide +kernel
theorem dL_would_173 : decode cL_would 173 = .ok (.iadd, 1) := by decide +kernel
theorem dL_would_174 : decode cL_would 174 = .ok (.invokestatic 70, 3) := by decide +kernel
theorem dL_would_177 : decode cL_would 177 = .ok (.aload_n 1, 1) := by decide +kernel
theorem dL_would_178 : decode cL_would 178 = .ok (.aload_n 2, 1) := by decide +kernel
theorem dL_would_179 : decode cL_would 179 = .ok (.invokestatic 56, 3) := by decide +kernel
theorem dL_would_182 : decode cL_would 182 = .ok (.istore 12, 2) := by decide +kernel
theorem dL_would_184 : decode cL_would 184 = .ok (.aload_n 1, 1) := by decide +kernel
theorem dL_would_185 : decode cL_would 185 = .ok (.bipush 6, 2) := by decide +kernel
theorem dL_would_187 : decode cL_would 187 = .ok (.iload 6, 2) := by decide +kernel
theorem dL_would_189 : decode cL_would 189 = .ok (.imul, 1) := by decide +kernel
theorem dL_would_190 : decode cL_would 190 = .ok (.iload 11, 2) := by decide +kernel
theorem dL_would_192 : decode cL_would 192 = .ok (.bipush 6, 2) := by decide +kernel
theorem dL_would_194 : decode cL_would 194 = .ok (.idiv, 1) := by decide +kernel
theorem dL_would_195 : decode cL_would 195 = .ok (.iadd, 1) := by decide +kernel
theorem dL_would_196 : decode cL_would 196 = .ok (.bipush 6, 2) := by decide +kernel
theorem dL_would_198 : decode cL_would 198 = .ok (.iload 6, 2) := by decide +kernel
theorem dL_would_200 : decode cL_would 200 = .ok (.imul, 1) := by decide +kernel
theorem dL_would_201 : decode cL_would 201 = .ok (.iload 11, 2) := by decide +kernel
theorem dL_would_203 : decode cL_would 203 = .ok (.bipush 6, 2) := by decide +kernel
theorem dL_would_205 : decode cL_would 205 = .ok (.irem, 1) := by decide +kernel
theorem dL_would_206 : decode cL_would 206 = .ok (.iadd, 1) := by decide +kernel
theorem dL_would_207 : decode cL_would 207 = .ok (.invokestatic 70, 3) := by decide +kernel
theorem dL_would_210 : decode cL_would 210 = .ok (.iload 12, 2) := by decide +kernel
theorem dL_would_212 : decode cL_would 212 = .ok (.iload 10, 2) := by decide +kernel
theorem dL_would_214 : decode cL_would 214 = .ok (.if_icmp .lt 8, 3) := by decide +kernel
theorem dL_would_217 : decode cL_would 217 = .ok (.iload 11, 2) := by decide +kernel
theorem dL_would_219 : decode cL_would 219 = .ok (.goto 5, 3) := by decide +kernel
theorem dL_would_222 : decode cL_would 222 = .ok (.iload 9, 2) := by decide +kernel
theorem dL_would_224 : decode cL_would 224 = .ok (.istore 9, 2) := by decide +kernel
theorem dL_would_226 : decode cL_would 226 = .ok (.iload 12, 2) := by decide +kernel
theorem dL_would_228 : decode cL_would 228 = .ok (.iload 10, 2) := by decide +kernel
theorem dL_would_230 : decode cL_would 230 = .ok (.if_icmp .lt 8, 3) := by decide +kernel
theorem dL_would_233 : decode cL_would 233 = .ok (.iload 12, 2) := by decide +kernel
theorem dL_would_235 : decode cL_would 235 = .ok (.goto 5, 3) := by decide +kernel
theorem dL_would_238 : decode cL_would 238 = .ok (.iload 10, 2) := by decide +kernel
theorem dL_would_240 : decode cL_would 240 = .ok (.istore 10, 2) := by decide +kernel
theorem dL_would_242 : decode cL_would 242 = .ok (.iinc 11 (-1), 3) := by decide +kernel
theorem dL_would_245 : decode cL_would 245 = .ok (.goto (-126), 3) := by decide +kernel
theorem dL_would_248 : decode cL_would 248 = .ok (.iload 8, 2) := by decide +kernel
theorem dL_would_250 : decode cL_would 250 = .ok (.ifCond .eq 18, 3) := by decide +kernel
theorem dL_would_253 : decode cL_would 253 = .ok (.aload_n 0, 1) := by decide +kernel
theorem dL_would_254 : decode cL_would 254 = .ok (.iload 6, 2) := by decide +kernel
theorem dL_would_256 : decode cL_would 256 = .ok (.invokevirtual 78, 3) := by decide +kernel
theorem dL_would_259 : decode cL_would 259 = .ok (.iload 9, 2) := by decide +kernel
theorem dL_would_261 : decode cL_would 261 = .ok (.if_icmp .ne 7, 3) := by decide +kernel
theorem dL_would_264 : decode cL_would 264 = .ok (.iconst 1, 1) := by decide +kernel
theorem dL_would_265 : decode cL_would 265 = .ok (.goto 4, 3) := by decide +kernel
theorem dL_would_268 : decode cL_would 268 = .ok (.iconst 0, 1) := by decide +kernel
theorem dL_would_269 : decode cL_would 269 = .ok (.istore 8, 2) := by decide +kernel
theorem dL_would_271 : decode cL_would 271 = .ok (.iconst (-1), 1) := by decide +kernel
theorem dL_would_272 : decode cL_would 272 = .ok (.istore 9, 2) := by decide +kernel
theorem dL_would_274 : decode cL_would 274 = .ok (.iconst 0, 1) := by decide +kernel
theorem dL_would_275 : decode cL_would 275 = .ok (.istore 10, 2) := by decide +kernel
theorem dL_would_277 : decode cL_would 277 = .ok (.iconst 3, 1) := by decide +kernel
theorem dL_would_278 : decode cL_would 278 = .ok (.istore 11, 2) := by decide +kernel
theorem dL_would_280 : decode cL_would 280 = .ok (.iload 11, 2) := by decide +kernel
theorem dL_would_282 : decode cL_would 282 = .ok (.ifCond .lt 86, 3) := by decide +kernel
theorem dL_would_285 : decode cL_would 285 = .ok (.aload_n 1, 1) := by decide +kernel
theorem dL_would_286 : decode cL_would 286 = .ok (.iload 11, 2) := by decide +kernel
theorem dL_would_288 : decode cL_would 288 = .ok (.invokestatic 9, 3) := by decide +kernel
theorem dL_would_291 : decode cL_would 291 = .ok (.istore 12, 2) := by decide +kernel
theorem dL_would_293 : decode cL_would 293 = .ok (.iload 12, 2) := by decide +kernel
theorem dL_would_295 : decode cL_would 295 = .ok (.bipush 6, 2) := by decide +kernel
theorem dL_would_297 : decode cL_would 297 = .ok (.if_icmp .ge 65, 3) := by decide +kernel
theorem dL_would_300 : decode cL_would 300 = .ok (.aload_n 1, 1) := by decide +kernel
theorem dL_would_301 : decode cL_would 301 = .ok (.bipush 6, 2) := by decide +kernel
theorem dL_would_303 : decode cL_would 303 = .ok (.iload 11, 2) := by decide +kernel
theorem dL_would_305 : decode cL_would 305 = .ok (.imul, 1) := by decide +kernel
theorem dL_would_306 : decode cL_would 306 = .ok (.iload 12, 2) := by decide +kernel
theorem dL_would_308 : decode cL_would 308 = .ok (.iadd, 1) := by decide +kernel
theorem dL_would_309 : decode cL_would 309 = .ok (.iload 7, 2) := by decide +kernel
theorem dL_would_311 : decode cL_would 311 = .ok (.iastore, 1) := by decide +kernel
theorem dL_would_312 : decode cL_would 312 = .ok (.aload_n 1, 1) := by decide +kernel
theorem dL_would_313 : decode cL_would 313 = .ok (.aload_n 2, 1) := by decide +kernel
theorem dL_would_314 : decode cL_would 314 = .ok (.invokestatic 56, 3) := by decide +kernel
theorem dL_would_317 : decode cL_would 317 = .ok (.istore 13, 2) := by decide +kernel
theorem dL_would_319 : decode cL_would 319 = .ok (.aload_n 1, 1) := by decide +kernel
theorem dL_would_320 : decode cL_would 320 = .ok (.bipush 6, 2) := by decide +kernel
theorem dL_would_322 : decode cL_would 322 = .ok (.iload 11, 2) := by decide +kernel
theorem dL_would_324 : decode cL_would 324 = .ok (.imul, 1) := by decide +kernel
theorem dL_would_325 : decode cL_would 325 = .ok (.iload 12, 2) := by decide +kernel
theorem dL_would_327 : decode cL_would 327 = .ok (.iadd, 1) := by decide +kernel
theorem dL_would_328 : decode cL_would 328 = .ok (.iconst 0, 1) := by decide +kernel
theorem dL_would_329 : decode cL_would 329 = .ok (.iastore, 1) := by decide +kernel
theorem dL_would_330 : decode cL_would 330 = .ok (.iload 13, 2) := by decide +kernel
theorem dL_would_332 : decode cL_would 332 = .ok (.iload 10, 2) := by decide +kernel
theorem dL_would_334 : decode cL_would 334 = .ok (.if_icmp .lt 8, 3) := by decide +kernel
theorem dL_would_337 : decode cL_would 337 = .ok (.iload 11, 2) := by decide +kernel
theorem dL_would_339 : decode cL_would 339 = .ok (.goto 5, 3) := by decide +kernel
theorem dL_would_342 : decode cL_would 342 = .ok (.iload 9, 2) := by decide +kernel
theorem dL_would_344 : decode cL_would 344 = .ok (.istore 9, 2) := by decide +kernel
theorem dL_would_346 : decode cL_would 346 = .ok (.iload 13, 2) := by decide +kernel
theorem dL_would_348 : decode cL_would 348 = .ok (.iload 10, 2) := by decide +kernel
theorem dL_would_350 : decode cL_would 350 = .ok (.if_icmp .lt 8, 3) := by decide +kernel
theorem dL_would_353 : decode cL_would 353 = .ok (.iload 13, 2) := by decide +kernel
theorem dL_would_355 : decode cL_would 355 = .ok (.goto 5, 3) := by decide +kernel
theorem dL_would_358 : decode cL_would 358 = .ok (.iload 10, 2) := by decide +kernel
theorem dL_would_360 : decode cL_would 360 = .ok (.istore 10, 2) := by decide +kernel
theorem dL_would_362 : decode cL_would 362 = .ok (.iinc 11 (-1), 3) := by decide +kernel
theorem dL_would_365 : decode cL_would 365 = .ok (.goto (-85), 3) := by decide +kernel
theorem dL_would_368 : decode cL_would 368 = .ok (.aload_n 2, 1) := by decide +kernel
theorem dL_would_369 : decode cL_would 369 = .ok (.iconst 0, 1) := by decide +kernel
theorem dL_would_370 : decode cL_would 370 = .ok (.iaload, 1) := by decide +kernel
theorem dL_would_371 : decode cL_would 371 = .ok (.istore 11, 2) := by decide +kernel
theorem dL_would_373 : decode cL_would 373 = .ok (.aload_n 2, 1) := by decide +kernel
theorem dL_would_374 : decode cL_would 374 = .ok (.iconst 0, 1) := by decide +kernel
theorem dL_would_375 : decode cL_would 375 = .ok (.iconst 1, 1) := by decide +kernel
theorem dL_would_376 : decode cL_would 376 = .ok (.iload_n 3, 1) := by decide +kernel
theorem dL_would_377 : decode cL_would 377 = .ok (.iconst 3, 1) := by decide +kernel
theorem dL_would_378 : decode cL_would 378 = .ok (.ishr, 1) := by decide +kernel
theorem dL_would_379 : decode cL_would 379 = .ok (.bipush 6, 2) := by decide +kernel
theorem dL_would_381 : decode cL_would 381 = .ok (.invokestatic 64, 3) := by decide +kernel
theorem dL_would_384 : decode cL_would 384 = .ok (.iadd, 1) := by decide +kernel
theorem dL_would_385 : decode cL_would 385 = .ok (.iastore, 1) := by decide +kernel
theorem dL_would_386 : decode cL_would 386 = .ok (.iload 8, 2) := by decide +kernel
theorem dL_would_388 : decode cL_would 388 = .ok (.ifCond .eq 33, 3) := by decide +kernel
theorem dL_would_391 : decode cL_would 391 = .ok (.aload_n 0, 1) := by decide +kernel
theorem dL_would_392 : decode cL_would 392 = .ok (.iload 7, 2) := by decide +kernel
theorem dL_would_394 : decode cL_would 394 = .ok (.invokevirtual 81, 3) := by decide +kernel
theorem dL_would_397 : decode cL_would 397 = .ok (.iload 9, 2) := by decide +kernel
theorem dL_would_399 : decode cL_would 399 = .ok (.if_icmp .ne 22, 3) := by decide +kernel
theorem dL_would_402 : decode cL_would 402 = .ok (.aload_n 0, 1) := by decide +kernel
theorem dL_would_403 : decode cL_would 403 = .ok (.aload_n 2, 1) := by decide +kernel
theorem dL_would_404 : decode cL_would 404 = .ok (.iconst 0, 1) := by decide +kernel
theorem dL_would_405 : decode cL_would 405 = .ok (.iaload, 1) := by decide +kernel
theorem dL_would_406 : decode cL_would 406 = .ok (.invokevirtual 84, 3) := by decide +kernel
theorem dL_would_409 : decode cL_would 409 = .ok (.aload_n 1, 1) := by decide +kernel
theorem dL_would_410 : decode cL_would 410 = .ok (.aload_n 2, 1) := by decide +kernel
theorem dL_would_411 : decode cL_would 411 = .ok (.invokestatic 56, 3) := by decide +kernel
theorem dL_would_414 : decode cL_would 414 = .ok (.if_icmp .ne 7, 3) := by decide +kernel
theorem dL_would_417 : decode cL_would 417 = .ok (.iconst 1, 1) := by decide +kernel
theorem dL_would_418 : decode cL_would 418 = .ok (.goto 4, 3) := by decide +kernel
theorem dL_would_421 : decode cL_would 421 = .ok (.iconst 0, 1) := by decide +kernel
theorem dL_would_422 : decode cL_would 422 = .ok (.istore 8, 2) := by decide +kernel
theorem dL_would_424 : decode cL_would 424 = .ok (.aload_n 2, 1) := by decide +kernel
theorem dL_would_425 : decode cL_would 425 = .ok (.iconst 0, 1) := by decide +kernel
theorem dL_would_426 : decode cL_would 426 = .ok (.iload 11, 2) := by decide +kernel
theorem dL_would_428 : decode cL_would 428 = .ok (.iastore, 1) := by decide +kernel
theorem dL_would_429 : decode cL_would 429 = .ok (.iload 8, 2) := by decide +kernel
theorem dL_would_431 : decode cL_would 431 = .ok (.ireturn, 1) := by decide +kernel
theorem dL_joins_0 : decode cL_joins 0 = .ok (.iload 5, 2) := by decide +kernel
theorem dL_joins_2 : decode cL_joins 2 = .ok (.iconst 3, 1) := by decide +kernel
theorem dL_joins_3 : decode cL_joins 3 = .ok (.ishr, 1) := by decide +kernel
theorem dL_joins_4 : decode cL_joins 4 = .ok (.iconst 4, 1) := by decide +kernel
theorem dL_joins_5 : decode cL_joins 5 = .ok (.invokestatic 64, 3) := by decide +kernel
theorem dL_joins_8 : decode cL_joins 8 = .ok (.istore 6, 2) := by decide +kernel
theorem dL_joins_10 : decode cL_joins 10 = .ok (.aload_n 1, 1) := by decide +kernel
theorem dL_joins_11 : decode cL_joins 11 = .ok (.iload 6, 2) := by decide +kernel
theorem dL_joins_13 : decode cL_joins 13 = .ok (.invokestatic 9, 3) := by decide +kernel
theorem dL_joins_16 : decode cL_joins 16 = .ok (.istore 7, 2) := by decide +kernel
theorem dL_joins_18 : decode cL_joins 18 = .ok (.iload 7, 2) := by decide +kernel
theorem dL_joins_20 : decode cL_joins 20 = .ok (.bipush 6, 2) := by decide +kernel
theorem dL_joins_22 : decode cL_joins 22 = .ok (.if_icmp .ne 21, 3) := by decide +kernel
theorem dL_joins_25 : decode cL_joins 25 = .ok (.aload_n 0, 1) := by decide +kernel
theorem dL_joins_26 : decode cL_joins 26 = .ok (.iload 6, 2) := by decide +kernel
theorem dL_joins_28 : decode cL_joins 28 = .ok (.iconst 0, 1) := by decide +kernel
theorem dL_joins_29 : decode cL_joins 29 = .ok (.invokevirtual 47, 3) := by decide +kernel
theorem dL_joins_32 : decode cL_joins 32 = .ok (.bipush 6, 2) := by decide +kernel
theorem dL_joins_34 : decode cL_joins 34 = .ok (.if_icmp .ne 7, 3) := by decide +kernel
theorem dL_joins_37 : decode cL_joins 37 = .ok (.iconst 1, 1) := by decide +kernel
theorem dL_joins_38 : decode cL_joins 38 = .ok (.goto 4, 3) := by decide +kernel
theorem dL_joins_41 : decode cL_joins 41 = .ok (.iconst 0, 1) := by decide +kernel
theorem dL_joins_42 : decode cL_joins 42 = .ok (.ireturn, 1) := by decide +kernel
theorem dL_joins_43 : decode cL_joins 43 = .ok (.bipush 6, 2) := by decide +kernel
theorem dL_joins_45 : decode cL_joins 45 = .ok (.iload 6, 2) := by decide +kernel
theorem dL_joins_47 : decode cL_joins 47 = .ok (.imul, 1) := by decide +kernel
theorem dL_joins_48 : decode cL_joins 48 = .ok (.iload 7, 2) := by decide +kernel
theorem dL_joins_50 : decode cL_joins 50 = .ok (.iadd, 1) := by decide +kernel
theorem dL_joins_51 : decode cL_joins 51 = .ok (.istore 8, 2) := by decide +kernel
theorem dL_joins_53 : decode cL_joins 53 = .ok (.aload_n 1, 1) := by decide +kernel
theorem dL_joins_54 : decode cL_joins 54 = .ok (.iload 8, 2) := by decide +kernel
theorem dL_joins_56 : decode cL_joins 56 = .ok (.iload 5, 2) := by decide +kernel
theorem dL_joins_58 : decode cL_joins 58 = .ok (.iconst 5, 1) := by decide +kernel
theorem dL_joins_59 : decode cL_joins 59 = .ok (.ishr, 1) := by decide +kernel
theorem dL_joins_60 : decode cL_joins 60 = .ok (.iconst 3, 1) := by decide +kernel
theorem dL_joins_61 : decode cL_joins 61 = .ok (.invokestatic 64, 3) := by decide +kernel
theorem dL_joins_64 : decode cL_joins 64 = .ok (.ifCond .ne 19, 3) := by decide +kernel
theorem dL_joins_67 : decode cL_joins 67 = .ok (.sipush 150, 3) := by decide +kernel
theorem dL_joins_70 : decode cL_joins 70 = .ok (.iload 5, 2) := by decide +kernel
theorem dL_joins_72 : decode cL_joins 72 = .ok (.bipush 8, 2) := by decide +kernel
theorem dL_joins_74 : decode cL_joins 74 = .ok (.ishr, 1) := by decide +kernel
theorem dL_joins_75 : decode cL_joins 75 = .ok (.iconst 4, 1) := by decide +kernel
theorem dL_joins_76 : decode cL_joins 76 = .ok (.invokestatic 64, 3) := by decide +kernel
theorem dL_joins_79 : decode cL_joins 79 = .ok (.iadd, 1) := by decide +kernel
theorem dL_joins_80 : decode cL_joins 80 = .ok (.goto 16, 3) := by decide +kernel
theorem dL_joins_83 : decode cL_joins 83 = .ok (.bipush 100, 2) := by decide +kernel
theorem dL_joins_85 : decode cL_joins 85 = .ok (.iload 5, 2) := by decide +kernel
theorem dL_joins_87 : decode cL_joins 87 = .ok (.bipush 8, 2) := by decide +kernel
theorem dL_joins_89 : decode cL_joins 89 = .ok (.ishr, 1) := by decide +kernel
theorem dL_joins_90 : decode cL_joins 90 = .ok (.bipush 121, 2) := by decide +kernel
theorem dL_joins_92 : decode cL_joins 92 = .ok (.invokestatic 64, 3) := by decide +kernel
theorem dL_joins_95 : decode cL_joins 95 = .ok (.iadd, 1) := by decide +kernel
theorem dL_joins_96 : decode cL_joins 96 = .ok (.iastore, 1) := by decide +kernel
theorem dL_joins_97 : decode cL_joins 97 = .ok (.aload_n 2, 1) := by decide +kernel
theorem dL_joins_98 : decode cL_joins 98 = .ok (.iload 8, 2) := by decide +kernel
theorem dL_joins_100 : decode cL_joins 100 = .ok (.iload 5, 2) := by decide +kernel
theorem dL_joins_102 : decode cL_joins 102 = .ok (.bipush 6, 2) := by decide +kernel
theorem dL_joins_104 : decode cL_joins 104 = .ok (.ishr, 1) := by decide +kernel
theorem dL_joins_105 : decode cL_joins 105 = .ok (.iconst 4, 1) := by decide +kernel
theorem dL_joins_106 : decode cL_joins 106 = .ok (.invokestatic 64, 3) := by decide +kernel
theorem dL_joins_109 : decode cL_joins 109 = .ok (.iastore, 1) := by decide +kernel
theorem dL_joins_110 : decode cL_joins 110 = .ok (.aload_n 3, 1) := by decide +kernel
theorem dL_joins_111 : decode cL_joins 111 = .ok (.iload 8, 2) := by decide +kernel
theorem dL_joins_113 : decode cL_joins 113 = .ok (.aload 4, 2) := by decide +kernel
theorem dL_joins_115 : decode cL_joins 115 = .ok (.iconst 2, 1) := by decide +kernel
theorem dL_joins_116 : decode cL_joins 116 = .ok (.iaload, 1) := by decide +kernel
theorem dL_joins_117 : decode cL_joins 117 = .ok (.iastore, 1) := by decide +kernel
theorem dL_joins_118 : decode cL_joins 118 = .ok (.aload 4, 2) := by decide +kernel
theorem dL_joins_120 : decode cL_joins 120 = .ok (.iconst 2, 1) := by decide +kernel
theorem dL_joins_121 : decode cL_joins 121 = .ok (.dup2, 1) := by decide +kernel
theorem dL_joins_122 : decode cL_joins 122 = .ok (.iaload, 1) := by decide +kernel
theorem dL_joins_123 : decode cL_joins 123 = .ok (.iconst 1, 1) := by decide +kernel
theorem dL_joins_124 : decode cL_joins 124 = .ok (.iadd, 1) := by decide +kernel
theorem dL_joins_125 : decode cL_joins 125 = .ok (.iastore, 1) := by decide +kernel
theorem dL_joins_126 : decode cL_joins 126 = .ok (.aload_n 0, 1) := by decide +kernel
theorem dL_joins_127 : decode cL_joins 127 = .ok (.iload 6, 2) := by decide +kernel
theorem dL_joins_129 : decode cL_joins 129 = .ok (.aload_n 1, 1) := by decide +kernel
theorem dL_joins_130 : decode cL_joins 130 = .ok (.iload 8, 2) := by decide +kernel
theorem dL_joins_132 : decode cL_joins 132 = .ok (.iaload, 1) := by decide +kernel
theorem dL_joins_133 : decode cL_joins 133 = .ok (.aload_n 2, 1) := by decide +kernel
theorem dL_joins_134 : decode cL_joins 134 = .ok (.iload 8, 2) := by decide +kernel
theorem dL_joins_136 : decode cL_joins 136 = .ok (.iaload, 1) := by decide +kernel
theorem dL_joins_137 : decode cL_joins 137 = .ok (.invokevirtual 87, 3) := by decide +kernel
theorem dL_joins_140 : decode cL_joins 140 = .ok (.aload_n 3, 1) := by decide +kernel
theorem dL_joins_141 : decode cL_joins 141 = .ok (.iload 8, 2) := by decide +kernel
theorem dL_joins_143 : decode cL_joins 143 = .ok (.iaload, 1) := by decide +kernel
theorem dL_joins_144 : decode cL_joins 144 = .ok (.if_icmp .ne 7, 3) := by decide +kernel
theorem dL_joins_147 : decode cL_joins 147 = .ok (.iconst 1, 1) := by decide +kernel
theorem dL_joins_148 : decode cL_joins 148 = .ok (.goto 4, 3) := by decide +kernel
theorem dL_joins_151 : decode cL_joins 151 = .ok (.iconst 0, 1) := by decide +kernel
theorem dL_joins_152 : decode cL_joins 152 = .ok (.ireturn, 1) := by decide +kernel
theorem dL_closes_0 : decode cL_closes 0 = .ok (.bipush 6, 2) := by decide +kernel
theorem dL_closes_2 : decode cL_closes 2 = .ok (.iload_n 1, 1) := by decide +kernel
theorem dL_closes_3 : decode cL_closes 3 = .ok (.imul, 1) := by decide +kernel
theorem dL_closes_4 : decode cL_closes 4 = .ok (.iload_n 2, 1) := by decide +kernel
theorem dL_closes_5 : decode cL_closes 5 = .ok (.iadd, 1) := by decide +kernel
theorem dL_closes_6 : decode cL_closes 6 = .ok (.istore_n 3, 1) := by decide +kernel
theorem dL_closes_7 : decode cL_closes 7 = .ok (.iload_n 3, 1) := by decide +kernel
theorem dL_closes_8 : decode cL_closes 8 = .ok (.bipush 6, 2) := by decide +kernel
theorem dL_closes_10 : decode cL_closes 10 = .ok (.iload_n 1, 1) := by decide +kernel
theorem dL_closes_11 : decode cL_closes 11 = .ok (.imul, 1) := by decide +kernel
theorem dL_closes_12 : decode cL_closes 12 = .ok (.iconst 5, 1) := by decide +kernel
theorem dL_closes_13 : decode cL_closes 13 = .ok (.iadd, 1) := by decide +kernel
theorem dL_closes_14 : decode cL_closes 14 = .ok (.if_icmp .ge 17, 3) := by decide +kernel
theorem dL_closes_17 : decode cL_closes 17 = .ok (.aload_n 0, 1) := by decide +kernel
theorem dL_closes_18 : decode cL_closes 18 = .ok (.iload_n 3, 1) := by decide +kernel
theorem dL_closes_19 : decode cL_closes 19 = .ok (.aload_n 0, 1) := by decide +kernel
theorem dL_closes_20 : decode cL_closes 20 = .ok (.iload_n 3, 1) := by decide +kernel
theorem dL_closes_21 : decode cL_closes 21 = .ok (.iconst 1, 1) := by decide +kernel
theorem dL_closes_22 : decode cL_closes 22 = .ok (.iadd, 1) := by decide +kernel
theorem dL_closes_23 : decode cL_closes 23 = .ok (.iaload, 1) := by decide +kernel
theorem dL_closes_24 : decode cL_closes 24 = .ok (.iastore, 1) := by decide +kernel
theorem dL_closes_25 : decode cL_closes 25 = .ok (.iinc 3 1, 3) := by decide +kernel
theorem dL_closes_28 : decode cL_closes 28 = .ok (.goto (-21), 3) := by decide +kernel
theorem dL_closes_31 : decode cL_closes 31 = .ok (.aload_n 0, 1) := by decide +kernel
theorem dL_closes_32 : decode cL_closes 32 = .ok (.bipush 6, 2) := by decide +kernel
theorem dL_closes_34 : decode cL_closes 34 = .ok (.iload_n 1, 1) := by decide +kernel
theorem dL_closes_35 : decode cL_closes 35 = .ok (.imul, 1) := by decide +kernel
theorem dL_closes_36 : decode cL_closes 36 = .ok (.iconst 5, 1) := by decide +kernel
theorem dL_closes_37 : decode cL_closes 37 = .ok (.iadd, 1) := by decide +kernel
theorem dL_closes_38 : decode cL_closes 38 = .ok (.iconst 0, 1) := by decide +kernel
theorem dL_closes_39 : decode cL_closes 39 = .ok (.iastore, 1) := by decide +kernel
theorem dL_closes_40 : decode cL_closes 40 = .ok (.return_, 1) := by decide +kernel
theorem dL_closesAll_0 : decode cL_closesAll 0 = .ok (.aload_n 0, 1) := by decide +kernel
theorem dL_closesAll_1 : decode cL_closesAll 1 = .ok (.iload_n 3, 1) := by decide +kernel
theorem dL_closesAll_2 : decode cL_closesAll 2 = .ok (.bipush 6, 2) := by decide +kernel
theorem dL_closesAll_4 : decode cL_closesAll 4 = .ok (.idiv, 1) := by decide +kernel
theorem dL_closesAll_5 : decode cL_closesAll 5 = .ok (.iload_n 3, 1) := by decide +kernel
theorem dL_closesAll_6 : decode cL_closesAll 6 = .ok (.bipush 6, 2) := by decide +kernel
theorem dL_closesAll_8 : decode cL_closesAll 8 = .ok (.irem, 1) := by decide +kernel
theorem dL_closesAll_9 : decode cL_closesAll 9 = .ok (.invokestatic 90, 3) := by decide +kernel
theorem dL_closesAll_12 : decode cL_closesAll 12 = .ok (.aload_n 1, 1) := by decide +kernel
theorem dL_closesAll_13 : decode cL_closesAll 13 = .ok (.iload_n 3, 1) := by decide +kernel
theorem dL_closesAll_14 : decode cL_closesAll 14 = .ok (.bipush 6, 2) := by decide +kernel
theorem dL_closesAll_16 : decode cL_closesAll 16 = .ok (.idiv, 1) := by decide +kernel
theorem dL_closesAll_17 : decode cL_closesAll 17 = .ok (.iload_n 3, 1) := by decide +kernel
theorem dL_closesAll_18 : decode cL_closesAll 18 = .ok (.bipush 6, 2) := by decide +kernel
theorem dL_closesAll_20 : decode cL_closesAll 20 = .ok (.irem, 1) := by decide +kernel
theorem dL_closesAll_21 : decode cL_closesAll 21 = .ok (.invokestatic 90, 3) := by decide +kernel
theorem dL_closesAll_24 : decode cL_closesAll 24 = .ok (.aload_n 2, 1) := by decide +kernel
theorem dL_closesAll_25 : decode cL_closesAll 25 = .ok (.iload_n 3, 1) := by decide +kernel
theorem dL_closesAll_26 : decode cL_closesAll 26 = .ok (.bipush 6, 2) := by decide +kernel
theorem dL_closesAll_28 : decode cL_closesAll 28 = .ok (.idiv, 1) := by decide +kernel
theorem dL_closesAll_29 : decode cL_closesAll 29 = .ok (.iload_n 3, 1) := by decide +kernel
theorem dL_closesAll_30 : decode cL_closesAll 30 = .ok (.bipush 6, 2) := by decide +kernel
theorem dL_closesAll_32 : decode cL_closesAll 32 = .ok (.irem, 1) := by decide +kernel
theorem dL_closesAll_33 : decode cL_closesAll 33 = .ok (.invokestatic 90, 3) := by decide +kernel
theorem dL_closesAll_36 : decode cL_closesAll 36 = .ok (.return_, 1) := by decide +kernel
theorem dL_leaves_0 : decode cL_leaves 0 = .ok (.aload_n 1, 1) := by decide +kernel
theorem dL_leaves_1 : decode cL_leaves 1 = .ok (.iload 5, 2) := by decide +kernel
theorem dL_leaves_3 : decode cL_leaves 3 = .ok (.invokestatic 67, 3) := by decide +kernel
theorem dL_leaves_6 : decode cL_leaves 6 = .ok (.istore 6, 2) := by decide +kernel
theorem dL_leaves_8 : decode cL_leaves 8 = .ok (.iload 6, 2) := by decide +kernel
theorem dL_leaves_10 : decode cL_leaves 10 = .ok (.ifCond .ge 17, 3) := by decide +kernel
theorem dL_leaves_13 : decode cL_leaves 13 = .ok (.aload_n 0, 1) := by decide +kernel
theorem dL_leaves_14 : decode cL_leaves 14 = .ok (.iconst 0, 1) := by decide +kernel
theorem dL_leaves_15 : decode cL_leaves 15 = .ok (.invokevirtual 53, 3) := by decide +kernel
theorem dL_leaves_18 : decode cL_leaves 18 = .ok (.ifCond .ne 7, 3) := by decide +kernel
theorem dL_leaves_21 : decode cL_leaves 21 = .ok (.iconst 1, 1) := by decide +kernel
theorem dL_leaves_22 : decode cL_leaves 22 = .ok (.goto 4, 3) := by decide +kernel
theorem dL_leaves_25 : decode cL_leaves 25 = .ok (.iconst 0, 1) := by decide +kernel
theorem dL_leaves_26 : decode cL_leaves 26 = .ok (.ireturn, 1) := by decide +kernel
theorem dL_leaves_27 : decode cL_leaves 27 = .ok (.aload_n 3, 1) := by decide +kernel
theorem dL_leaves_28 : decode cL_leaves 28 = .ok (.iload 6, 2) := by decide +kernel
theorem dL_leaves_30 : decode cL_leaves 30 = .ok (.iaload, 1) := by decide +kernel
theorem dL_leaves_31 : decode cL_leaves 31 = .ok (.istore 7, 2) := by decide +kernel
theorem dL_leaves_33 : decode cL_leaves 33 = .ok (.aload_n 1, 1) := by decide +kernel
theorem dL_leaves_34 : decode cL_leaves 34 = .ok (.aload_n 2, 1) := by decide +kernel
theorem dL_leaves_35 : decode cL_leaves 35 = .ok (.aload_n 3, 1) := by decide +kernel
theorem dL_leaves_36 : decode cL_leaves 36 = .ok (.iload 6, 2) := by decide +kernel
theorem dL_leaves_38 : decode cL_leaves 38 = .ok (.invokestatic 93, 3) := by decide +kernel
theorem dL_leaves_41 : decode cL_leaves 41 = .ok (.aload 4, 2) := by decide +kernel
theorem dL_leaves_43 : decode cL_leaves 43 = .ok (.iconst 3, 1) := by decide +kernel
theorem dL_leaves_44 : decode cL_leaves 44 = .ok (.dup2, 1) := by decide +kernel
theorem dL_leaves_45 : decode cL_leaves 45 = .ok (.iaload, 1) := by decide +kernel
theorem dL_leaves_46 : decode cL_leaves 46 = .ok (.iconst 1, 1) := by decide +kernel
theorem dL_leaves_47 : decode cL_leaves 47 = .ok (.iadd, 1) := by decide +kernel
theorem dL_leaves_48 : decode cL_leaves 48 = .ok (.iastore, 1) := by decide +kernel
theorem dL_leaves_49 : decode cL_leaves 49 = .ok (.aload_n 0, 1) := by decide +kernel
theorem dL_leaves_50 : decode cL_leaves 50 = .ok (.iload 6, 2) := by decide +kernel
theorem dL_leaves_52 : decode cL_leaves 52 = .ok (.bipush 6, 2) := by decide +kernel
theorem dL_leaves_54 : decode cL_leaves 54 = .ok (.idiv, 1) := by decide +kernel
theorem dL_leaves_55 : decode cL_leaves 55 = .ok (.iload 6, 2) := by decide +kernel
theorem dL_leaves_57 : decode cL_leaves 57 = .ok (.bipush 6, 2) := by decide +kernel
theorem dL_leaves_59 : decode cL_leaves 59 = .ok (.irem, 1) := by decide +kernel
theorem dL_leaves_60 : decode cL_leaves 60 = .ok (.invokevirtual 97, 3) := by decide +kernel
theorem dL_leaves_63 : decode cL_leaves 63 = .ok (.iload 7, 2) := by decide +kernel
theorem dL_leaves_65 : decode cL_leaves 65 = .ok (.if_icmp .ne 7, 3) := by decide +kernel
theorem dL_leaves_68 : decode cL_leaves 68 = .ok (.iconst 1, 1) := by decide +kernel
theorem dL_leaves_69 : decode cL_leaves 69 = .ok (.goto 4, 3) := by decide +kernel
theorem dL_leaves_72 : decode cL_leaves 72 = .ok (.iconst 0, 1) := by decide +kernel
theorem dL_leaves_73 : decode cL_leaves 73 = .ok (.ireturn, 1) := by decide +kernel
theorem dL_crosses_0 : decode cL_crosses 0 = .ok (.aload_n 1, 1) := by decide +kernel
theorem dL_crosses_1 : decode cL_crosses 1 = .ok (.iload 4, 2) := by decide +kernel
theorem dL_crosses_3 : decode cL_crosses 3 = .ok (.invokestatic 67, 3) := by decide +kernel
theorem dL_crosses_6 : decode cL_crosses 6 = .ok (.istore 5, 2) := by decide +kernel
theorem dL_crosses_8 : decode cL_crosses 8 = .ok (.iload 4, 2) := by decide +kernel
theorem dL_crosses_10 : decode cL_crosses 10 = .ok (.bipush 7, 2) := by decide +kernel
theorem dL_crosses_12 : decode cL_crosses 12 = .ok (.ishr, 1) := by decide +kernel
theorem dL_crosses_13 : decode cL_crosses 13 = .ok (.iconst 4, 1) := by decide +kernel
theorem dL_crosses_14 : decode cL_crosses 14 = .ok (.invokestatic 64, 3) := by decide +kernel
theorem dL_crosses_17 : decode cL_crosses 17 = .ok (.istore 6, 2) := by decide +kernel
theorem dL_crosses_19 : decode cL_crosses 19 = .ok (.iload 5, 2) := by decide +kernel
theorem dL_crosses_21 : decode cL_crosses 21 = .ok (.ifCond .lt 24, 3) := by decide +kernel
theorem dL_crosses_24 : decode cL_crosses 24 = .ok (.iload 5, 2) := by decide +kernel
theorem dL_crosses_26 : decode cL_crosses 26 = .ok (.bipush 6, 2) := by decide +kernel
theorem dL_crosses_28 : decode cL_crosses 28 = .ok (.idiv, 1) := by decide +kernel
theorem dL_crosses_29 : decode cL_crosses 29 = .ok (.iload 6, 2) := by decide +kernel
theorem dL_crosses_31 : decode cL_crosses 31 = .ok (.if_icmp .eq 14, 3) := by decide +kernel
theorem dL_crosses_34 : decode cL_crosses 34 = .ok (.aload_n 1, 1) := by decide +kernel
theorem dL_crosses_35 : decode cL_crosses 35 = .ok (.iload 6, 2) := by decide +kernel
theorem dL_crosses_37 : decode cL_crosses 37 = .ok (.invokestatic 9, 3) := by decide +kernel
theorem dL_crosses_40 : decode cL_crosses 40 = .ok (.bipush 6, 2) := by decide +kernel
theorem dL_crosses_42 : decode cL_crosses 42 = .ok (.if_icmp .ne 5, 3) := by decide +kernel
theorem dL_crosses_45 : decode cL_crosses 45 = .ok (.iconst 1, 1) := by decide +kernel
theorem dL_crosses_46 : decode cL_crosses 46 = .ok (.ireturn, 1) := by decide +kernel
theorem dL_crosses_47 : decode cL_crosses 47 = .ok (.aload_n 1, 1) := by decide +kernel
theorem dL_crosses_48 : decode cL_crosses 48 = .ok (.iload 6, 2) := by decide +kernel
theorem dL_crosses_50 : decode cL_crosses 50 = .ok (.invokestatic 9, 3) := by decide +kernel
theorem dL_crosses_53 : decode cL_crosses 53 = .ok (.istore 7, 2) := by decide +kernel
theorem dL_crosses_55 : decode cL_crosses 55 = .ok (.aload_n 1, 1) := by decide +kernel
theorem dL_crosses_56 : decode cL_crosses 56 = .ok (.bipush 6, 2) := by decide +kernel
theorem dL_crosses_58 : decode cL_crosses 58 = .ok (.iload 6, 2) := by decide +kernel
theorem dL_crosses_60 : decode cL_crosses 60 = .ok (.imul, 1) := by decide +kernel
theorem dL_crosses_61 : decode cL_crosses 61 = .ok (.iload 7, 2) := by decide +kernel
theorem dL_crosses_63 : decode cL_crosses 63 = .ok (.iadd, 1) := by decide +kernel
theorem dL_crosses_64 : decode cL_crosses 64 = .ok (.aload_n 1, 1) := by decide +kernel
theorem dL_crosses_65 : decode cL_crosses 65 = .ok (.iload 5, 2) := by decide +kernel
theorem dL_crosses_67 : decode cL_crosses 67 = .ok (.iaload, 1) := by decide +kernel
theorem dL_crosses_68 : decode cL_crosses 68 = .ok (.iastore, 1) := by decide +kernel
theorem dL_crosses_69 : decode cL_crosses 69 = .ok (.aload_n 2, 1) := by decide +kernel
theorem dL_crosses_70 : decode cL_crosses 70 = .ok (.bipush 6, 2) := by decide +kernel
theorem dL_crosses_72 : decode cL_crosses 72 = .ok (.iload 6, 2) := by decide +kernel
theorem dL_crosses_74 : decode cL_crosses 74 = .ok (.imul, 1) := by decide +kernel
theorem dL_crosses_75 : decode cL_crosses 75 = .ok (.iload 7, 2) := by decide +kernel
theorem dL_crosses_77 : decode cL_crosses 77 = .ok (.iadd, 1) := by decide +kernel
theorem dL_crosses_78 : decode cL_crosses 78 = .ok (.aload_n 2, 1) := by decide +kernel
theorem dL_crosses_79 : decode cL_crosses 79 = .ok (.iload 5, 2) := by decide +kernel
theorem dL_crosses_81 : decode cL_crosses 81 = .ok (.iaload, 1) := by decide +kernel
theorem dL_crosses_82 : decode cL_crosses 82 = .ok (.iastore, 1) := by decide +kernel
theorem dL_crosses_83 : decode cL_crosses 83 = .ok (.aload_n 3, 1) := by decide +kernel
theorem dL_crosses_84 : decode cL_crosses 84 = .ok (.bipush 6, 2) := by decide +kernel
theorem dL_crosses_86 : decode cL_crosses 86 = .ok (.iload 6, 2) := by decide +kernel
theorem dL_crosses_88 : decode cL_crosses 88 = .ok (.imul, 1) := by decide +kernel
theorem dL_crosses_89 : decode cL_crosses 89 = .ok (.iload 7, 2) := by decide +kernel
theorem dL_crosses_91 : decode cL_crosses 91 = .ok (.iadd, 1) := by decide +kernel
theorem dL_crosses_92 : decode cL_crosses 92 = .ok (.aload_n 3, 1) := by decide +kernel
theorem dL_crosses_93 : decode cL_crosses 93 = .ok (.iload 5, 2) := by decide +kernel
theorem dL_crosses_95 : decode cL_crosses 95 = .ok (.iaload, 1) := by decide +kernel
theorem dL_crosses_96 : decode cL_crosses 96 = .ok (.iastore, 1) := by decide +kernel
theorem dL_crosses_97 : decode cL_crosses 97 = .ok (.aload_n 1, 1) := by decide +kernel
theorem dL_crosses_98 : decode cL_crosses 98 = .ok (.aload_n 2, 1) := by decide +kernel
theorem dL_crosses_99 : decode cL_crosses 99 = .ok (.aload_n 3, 1) := by decide +kernel
theorem dL_crosses_100 : decode cL_crosses 100 = .ok (.iload 5, 2) := by decide +kernel
theorem dL_crosses_102 : decode cL_crosses 102 = .ok (.invokestatic 93, 3) := by decide +kernel
theorem dL_crosses_105 : decode cL_crosses 105 = .ok (.aload_n 0, 1) := by decide +kernel
theorem dL_crosses_106 : decode cL_crosses 106 = .ok (.iload 5, 2) := by decide +kernel
theorem dL_crosses_108 : decode cL_crosses 108 = .ok (.bipush 6, 2) := by decide +kernel
theorem dL_crosses_110 : decode cL_crosses 110 = .ok (.idiv, 1) := by decide +kernel
theorem dL_crosses_111 : decode cL_crosses 111 = .ok (.iload 5, 2) := by decide +kernel
theorem dL_crosses_113 : decode cL_crosses 113 = .ok (.bipush 6, 2) := by decide +kernel
theorem dL_crosses_115 : decode cL_crosses 115 = .ok (.irem, 1) := by decide +kernel
theorem dL_crosses_116 : decode cL_crosses 116 = .ok (.iload 6, 2) := by decide +kernel
theorem dL_crosses_118 : decode cL_crosses 118 = .ok (.invokevirtual 100, 3) := by decide +kernel
theorem dL_crosses_121 : decode cL_crosses 121 = .ok (.iload 7, 2) := by decide +kernel
theorem dL_crosses_123 : decode cL_crosses 123 = .ok (.if_icmp .ne 7, 3) := by decide +kernel
theorem dL_crosses_126 : decode cL_crosses 126 = .ok (.iconst 1, 1) := by decide +kernel
theorem dL_crosses_127 : decode cL_crosses 127 = .ok (.goto 4, 3) := by decide +kernel
theorem dL_crosses_130 : decode cL_crosses 130 = .ok (.iconst 0, 1) := by decide +kernel
theorem dL_crosses_131 : decode cL_crosses 131 = .ok (.ireturn, 1) := by decide +kernel
theorem dL_exchangeAll_0 : decode cL_exchangeAll 0 = .ok (.aload_n 0, 1) := by decide +kernel
theorem dL_exchangeAll_1 : decode cL_exchangeAll 1 = .ok (.iload_n 3, 1) := by decide +kernel
theorem dL_exchangeAll_2 : decode cL_exchangeAll 2 = .ok (.iload 4, 2) := by decide +kernel
theorem dL_exchangeAll_4 : decode cL_exchangeAll 4 = .ok (.invokestatic 70, 3) := by decide +kernel
theorem dL_exchangeAll_7 : decode cL_exchangeAll 7 = .ok (.aload_n 1, 1) := by decide +kernel
theorem dL_exchangeAll_8 : decode cL_exchangeAll 8 = .ok (.iload_n 3, 1) := by decide +kernel
theorem dL_exchangeAll_9 : decode cL_exchangeAll 9 = .ok (.iload 4, 2) := by decide +kernel
theorem dL_exchangeAll_11 : decode cL_exchangeAll 11 = .ok (.invokestatic 70, 3) := by decide +kernel
theorem dL_exchangeAll_14 : decode cL_exchangeAll 14 = .ok (.aload_n 2, 1) := by decide +kernel
theorem dL_exchangeAll_15 : decode cL_exchangeAll 15 = .ok (.iload_n 3, 1) := by decide +kernel
theorem dL_exchangeAll_16 : decode cL_exchangeAll 16 = .ok (.iload 4, 2) := by decide +kernel
theorem dL_exchangeAll_18 : decode cL_exchangeAll 18 = .ok (.invokestatic 70, 3) := by decide +kernel
theorem dL_exchangeAll_21 : decode cL_exchangeAll 21 = .ok (.return_, 1) := by decide +kernel
theorem dL_swaps_0 : decode cL_swaps 0 = .ok (.aload_n 1, 1) := by decide +kernel
theorem dL_swaps_1 : decode cL_swaps 1 = .ok (.iload 5, 2) := by decide +kernel
theorem dL_swaps_3 : decode cL_swaps 3 = .ok (.invokestatic 67, 3) := by decide +kernel
theorem dL_swaps_6 : decode cL_swaps 6 = .ok (.istore 6, 2) := by decide +kernel
theorem dL_swaps_8 : decode cL_swaps 8 = .ok (.aload_n 1, 1) := by decide +kernel
theorem dL_swaps_9 : decode cL_swaps 9 = .ok (.iload 5, 2) := by decide +kernel
theorem dL_swaps_11 : decode cL_swaps 11 = .ok (.bipush 6, 2) := by decide +kernel
theorem dL_swaps_13 : decode cL_swaps 13 = .ok (.ishr, 1) := by decide +kernel
theorem dL_swaps_14 : decode cL_swaps 14 = .ok (.invokestatic 67, 3) := by decide +kernel
theorem dL_swaps_17 : decode cL_swaps 17 = .ok (.istore 7, 2) := by decide +kernel
theorem dL_swaps_19 : decode cL_swaps 19 = .ok (.iload 6, 2) := by decide +kernel
theorem dL_swaps_21 : decode cL_swaps 21 = .ok (.ifCond .ge 5, 3) := by decide +kernel
theorem dL_swaps_24 : decode cL_swaps 24 = .ok (.iconst 1, 1) := by decide +kernel
theorem dL_swaps_25 : decode cL_swaps 25 = .ok (.ireturn, 1) := by decide +kernel
theorem dL_swaps_26 : decode cL_swaps 26 = .ok (.aload_n 1, 1) := by decide +kernel
theorem dL_swaps_27 : decode cL_swaps 27 = .ok (.aload_n 2, 1) := by decide +kernel
theorem dL_swaps_28 : decode cL_swaps 28 = .ok (.aload_n 3, 1) := by decide +kernel
theorem dL_swaps_29 : decode cL_swaps 29 = .ok (.iload 6, 2) := by decide +kernel
theorem dL_swaps_31 : decode cL_swaps 31 = .ok (.iload 7, 2) := by decide +kernel
theorem dL_swaps_33 : decode cL_swaps 33 = .ok (.invokestatic 103, 3) := by decide +kernel
theorem dL_swaps_36 : decode cL_swaps 36 = .ok (.aload 4, 2) := by decide +kernel
theorem dL_swaps_38 : decode cL_swaps 38 = .ok (.iconst 4, 1) := by decide +kernel
theorem dL_swaps_39 : decode cL_swaps 39 = .ok (.dup2, 1) := by decide +kernel
theorem dL_swaps_40 : decode cL_swaps 40 = .ok (.iaload, 1) := by decide +kernel
theorem dL_swaps_41 : decode cL_swaps 41 = .ok (.iconst 1, 1) := by decide +kernel
theorem dL_swaps_42 : decode cL_swaps 42 = .ok (.iadd, 1) := by decide +kernel
theorem dL_swaps_43 : decode cL_swaps 43 = .ok (.iastore, 1) := by decide +kernel
theorem dL_swaps_44 : decode cL_swaps 44 = .ok (.aload_n 0, 1) := by decide +kernel
theorem dL_swaps_45 : decode cL_swaps 45 = .ok (.iload 6, 2) := by decide +kernel
theorem dL_swaps_47 : decode cL_swaps 47 = .ok (.bipush 6, 2) := by decide +kernel
theorem dL_swaps_49 : decode cL_swaps 49 = .ok (.idiv, 1) := by decide +kernel
theorem dL_swaps_50 : decode cL_swaps 50 = .ok (.iload 6, 2) := by decide +kernel
theorem dL_swaps_52 : decode cL_swaps 52 = .ok (.bipush 6, 2) := by decide +kernel
theorem dL_swaps_54 : decode cL_swaps 54 = .ok (.irem, 1) := by decide +kernel
theorem dL_swaps_55 : decode cL_swaps 55 = .ok (.iload 7, 2) := by decide +kernel
theorem dL_swaps_57 : decode cL_swaps 57 = .ok (.bipush 6, 2) := by decide +kernel
theorem dL_swaps_59 : decode cL_swaps 59 = .ok (.idiv, 1) := by decide +kernel
theorem dL_swaps_60 : decode cL_swaps 60 = .ok (.iload 7, 2) := by decide +kernel
theorem dL_swaps_62 : decode cL_swaps 62 = .ok (.bipush 6, 2) := by decide +kernel
theorem dL_swaps_64 : decode cL_swaps 64 = .ok (.irem, 1) := by decide +kernel
theorem dL_swaps_65 : decode cL_swaps 65 = .ok (.invokevirtual 107, 3) := by decide +kernel
theorem dL_swaps_68 : decode cL_swaps 68 = .ok (.aload_n 1, 1) := by decide +kernel
theorem dL_swaps_69 : decode cL_swaps 69 = .ok (.aload 4, 2) := by decide +kernel
theorem dL_swaps_71 : decode cL_swaps 71 = .ok (.invokestatic 56, 3) := by decide +kernel
theorem dL_swaps_74 : decode cL_swaps 74 = .ok (.if_icmp .ne 7, 3) := by decide +kernel
theorem dL_swaps_77 : decode cL_swaps 77 = .ok (.iconst 1, 1) := by decide +kernel
theorem dL_swaps_78 : decode cL_swaps 78 = .ok (.goto 4, 3) := by decide +kernel
theorem dL_swaps_81 : decode cL_swaps 81 = .ok (.iconst 0, 1) := by decide +kernel
theorem dL_swaps_82 : decode cL_swaps 82 = .ok (.ireturn, 1) := by decide +kernel
theorem dL_turns_0 : decode cL_turns 0 = .ok (.aload_n 1, 1) := by decide +kernel
theorem dL_turns_1 : decode cL_turns 1 = .ok (.iload 5, 2) := by decide +kernel
theorem dL_turns_3 : decode cL_turns 3 = .ok (.invokestatic 9, 3) := by decide +kernel
theorem dL_turns_6 : decode cL_turns 6 = .ok (.istore 6, 2) := by decide +kernel
theorem dL_turns_8 : decode cL_turns 8 = .ok (.iconst 0, 1) := by decide +kernel
theorem dL_turns_9 : decode cL_turns 9 = .ok (.istore 7, 2) := by decide +kernel
theorem dL_turns_11 : decode cL_turns 11 = .ok (.iconst 2, 1) := by decide +kernel
theorem dL_turns_12 : decode cL_turns 12 = .ok (.iload 7, 2) := by decide +kernel
theorem dL_turns_14 : decode cL_turns 14 = .ok (.imul, 1) := by decide +kernel
theorem dL_turns_15 : decode cL_turns 15 = .ok (.iconst 1, 1) := by decide +kernel
theorem dL_turns_16 : decode cL_turns 16 = .ok (.iadd, 1) := by decide +kernel
theorem dL_turns_17 : decode cL_turns 17 = .ok (.iload 6, 2) := by decide +kernel
theorem dL_turns_19 : decode cL_turns 19 = .ok (.if_icmp .ge 36, 3) := by decide +kernel
theorem dL_turns_22 : decode cL_turns 22 = .ok (.aload_n 1, 1) := by decide +kernel
theorem dL_turns_23 : decode cL_turns 23 = .ok (.aload_n 2, 1) := by decide +kernel
theorem dL_turns_24 : decode cL_turns 24 = .ok (.aload_n 3, 1) := by decide +kernel
theorem dL_turns_25 : decode cL_turns 25 = .ok (.bipush 6, 2) := by decide +kernel
theorem dL_turns_27 : decode cL_turns 27 = .ok (.iload 5, 2) := by decide +kernel
theorem dL_turns_29 : decode cL_turns 29 = .ok (.imul, 1) := by decide +kernel
theorem dL_turns_30 : decode cL_turns 30 = .ok (.iload 7, 2) := by decide +kernel
theorem dL_turns_32 : decode cL_turns 32 = .ok (.iadd, 1) := by decide +kernel
theorem dL_turns_33 : decode cL_turns 33 = .ok (.bipush 6, 2) := by decide +kernel
theorem dL_turns_35 : decode cL_turns 35 = .ok (.iload 5, 2) := by decide +kernel
theorem dL_turns_37 : decode cL_turns 37 = .ok (.imul, 1) := by decide +kernel
theorem dL_turns_38 : decode cL_turns 38 = .ok (.iload 6, 2) := by decide +kernel
theorem dL_turns_40 : decode cL_turns 40 = .ok (.iadd, 1) := by decide +kernel
theorem dL_turns_41 : decode cL_turns 41 = .ok (.iconst 1, 1) := by decide +kernel
theorem dL_turns_42 : decode cL_turns 42 = .ok (.isub, 1) := by decide +kernel
theorem dL_turns_43 : decode cL_turns 43 = .ok (.iload 7, 2) := by decide +kernel
theorem dL_turns_45 : decode cL_turns 45 = .ok (.isub, 1) := by decide +kernel
theorem dL_turns_46 : decode cL_turns 46 = .ok (.invokestatic 103, 3) := by decide +kernel
theorem dL_turns_49 : decode cL_turns 49 = .ok (.iinc 7 1, 3) := by decide +kernel
theorem dL_turns_52 : decode cL_turns 52 = .ok (.goto (-41), 3) := by decide +kernel
theorem dL_turns_55 : decode cL_turns 55 = .ok (.aload_n 0, 1) := by decide +kernel
theorem dL_turns_56 : decode cL_turns 56 = .ok (.iload 5, 2) := by decide +kernel
theorem dL_turns_58 : decode cL_turns 58 = .ok (.invokevirtual 110, 3) := by decide +kernel
theorem dL_turns_61 : decode cL_turns 61 = .ok (.aload_n 1, 1) := by decide +kernel
theorem dL_turns_62 : decode cL_turns 62 = .ok (.aload 4, 2) := by decide +kernel
theorem dL_turns_64 : decode cL_turns 64 = .ok (.invokestatic 56, 3) := by decide +kernel
theorem dL_turns_67 : decode cL_turns 67 = .ok (.if_icmp .ne 7, 3) := by decide +kernel
theorem dL_turns_70 : decode cL_turns 70 = .ok (.iconst 1, 1) := by decide +kernel
theorem dL_turns_71 : decode cL_turns 71 = .ok (.goto 4, 3) := by decide +kernel
theorem dL_turns_74 : decode cL_turns 74 = .ok (.iconst 0, 1) := by decide +kernel
theorem dL_turns_75 : decode cL_turns 75 = .ok (.ireturn, 1) := by decide +kernel
theorem dL_sorts_0 : decode cL_sorts 0 = .ok (.bipush 6, 2) := by decide +kernel
theorem dL_sorts_2 : decode cL_sorts 2 = .ok (.iload 4, 2) := by decide +kernel
theorem dL_sorts_4 : decode cL_sorts 4 = .ok (.imul, 1) := by decide +kernel
theorem dL_sorts_5 : decode cL_sorts 5 = .ok (.aload_n 1, 1) := by decide +kernel
theorem dL_sorts_6 : decode cL_sorts 6 = .ok (.iload 4, 2) := by decide +kernel
theorem dL_sorts_8 : decode cL_sorts 8 = .ok (.invokestatic 9, 3) := by decide +kernel
theorem dL_sorts_11 : decode cL_sorts 11 = .ok (.iadd, 1) := by decide +kernel
theorem dL_sorts_12 : decode cL_sorts 12 = .ok (.istore 6, 2) := by decide +kernel
theorem dL_sorts_14 : decode cL_sorts 14 = .ok (.bipush 6, 2) := by decide +kernel
theorem dL_sorts_16 : decode cL_sorts 16 = .ok (.iload 4, 2) := by decide +kernel
theorem dL_sorts_18 : decode cL_sorts 18 = .ok (.imul, 1) := by decide +kernel
theorem dL_sorts_19 : decode cL_sorts 19 = .ok (.istore 7, 2) := by decide +kernel
theorem dL_sorts_21 : decode cL_sorts 21 = .ok (.iload 7, 2) := by decide +kernel
theorem dL_sorts_23 : decode cL_sorts 23 = .ok (.iload 6, 2) := by decide +kernel
theorem dL_sorts_25 : decode cL_sorts 25 = .ok (.if_icmp .ge 120, 3) := by decide +kernel
theorem dL_sorts_28 : decode cL_sorts 28 = .ok (.iload 7, 2) := by decide +kernel
theorem dL_sorts_30 : decode cL_sorts 30 = .ok (.istore 8, 2) := by decide +kernel
theorem dL_sorts_32 : decode cL_sorts 32 = .ok (.iload 7, 2) := by decide +kernel
theorem dL_sorts_34 : decode cL_sorts 34 = .ok (.iconst 1, 1) := by decide +kernel
theorem dL_sorts_35 : decode cL_sorts 35 = .ok (.iadd, 1) := by decide +kernel
theorem dL_sorts_36 : decode cL_sorts 36 = .ok (.istore 9, 2) := by decide +kernel
theorem dL_sorts_38 : decode cL_sorts 38 = .ok (.iload 9, 2) := by decide +kernel
theorem dL_sorts_40 : decode cL_sorts 40 = .ok (.iload 6, 2) := by decide +kernel
theorem dL_sorts_42 : decode cL_sorts 42 = .ok (.if_icmp .ge 68, 3) := by decide +kernel
theorem dL_sorts_45 : decode cL_sorts 45 = .ok (.iload 5, 2) := by decide +kernel
theorem dL_sorts_47 : decode cL_sorts 47 = .ok (.iconst 2, 1) := by decide +kernel
theorem dL_sorts_48 : decode cL_sorts 48 = .ok (.if_icmp .ne 14, 3) := by decide +kernel
theorem dL_sorts_51 : decode cL_sorts 51 = .ok (.aload_n 2, 1) := by decide +kernel
theorem dL_sorts_52 : decode cL_sorts 52 = .ok (.iload 9, 2) := by decide +kernel
theorem dL_sorts_54 : decode cL_sorts 54 = .ok (.iaload, 1) := by decide +kernel
theorem dL_sorts_55 : decode cL_sorts 55 = .ok (.aload_n 2, 1) := by decide +kernel
theorem dL_sorts_56 : decode cL_sorts 56 = .ok (.iload 8, 2) := by decide +kernel
theorem dL_sorts_58 : decode cL_sorts 58 = .ok (.iaload, 1) := by decide +kernel
theorem dL_sorts_59 : decode cL_sorts 59 = .ok (.if_icmp .lt 36, 3) := by decide +kernel
theorem dL_sorts_62 : decode cL_sorts 62 = .ok (.iload 5, 2) := by decide +kernel
theorem dL_sorts_64 : decode cL_sorts 64 = .ok (.ifCond .ne 14, 3) := by decide +kernel
theorem dL_sorts_67 : decode cL_sorts 67 = .ok (.aload_n 1, 1) := by decide +kernel
theorem dL_sorts_68 : decode cL_sorts 68 = .ok (.iload 9, 2) := by decide +kernel
theorem dL_sorts_70 : decode cL_sorts 70 = .ok (.iaload, 1) := by decide +kernel
theorem dL_sorts_71 : decode cL_sorts 71 = .ok (.aload_n 1, 1) := by decide +kernel
theorem dL_sorts_72 : decode cL_sorts 72 = .ok (.iload 8, 2) := by decide +kernel
theorem dL_sorts_74 : decode cL_sorts 74 = .ok (.iaload, 1) := by decide +kernel
theorem dL_sorts_75 : decode cL_sorts 75 = .ok (.if_icmp .lt 20, 3) := by decide +kernel
theorem dL_sorts_78 : decode cL_sorts 78 = .ok (.iload 5, 2) := by decide +kernel
theorem dL_sorts_80 : decode cL_sorts 80 = .ok (.iconst 1, 1) := by decide +kernel
theorem dL_sorts_81 : decode cL_sorts 81 = .ok (.if_icmp .ne 19, 3) := by decide +kernel
theorem dL_sorts_84 : decode cL_sorts 84 = .ok (.aload_n 1, 1) := by decide +kernel
theorem dL_sorts_85 : decode cL_sorts 85 = .ok (.iload 9, 2) := by decide +kernel
theorem dL_sorts_87 : decode cL_sorts 87 = .ok (.iaload, 1) := by decide +kernel
theorem dL_sorts_88 : decode cL_sorts 88 = .ok (.aload_n 1, 1) := by decide +kernel
theorem dL_sorts_89 : decode cL_sorts 89 = .ok (.iload 8, 2) := by decide +kernel
theorem dL_sorts_91 : decode cL_sorts 91 = .ok (.iaload, 1) := by decide +kernel
theorem dL_sorts_92 : decode cL_sorts 92 = .ok (.if_icmp .le 8, 3) := by decide +kernel
theorem dL_sorts_95 : decode cL_sorts 95 = .ok (.iload 9, 2) := by decide +kernel
theorem dL_sorts_97 : decode cL_sorts 97 = .ok (.goto 5, 3) := by decide +kernel
theorem dL_sorts_100 : decode cL_sorts 100 = .ok (.iload 8, 2) := by decide +kernel
theorem dL_sorts_102 : decode cL_sorts 102 = .ok (.istore 8, 2) := by decide +kernel
theorem dL_sorts_104 : decode cL_sorts 104 = .ok (.iinc 9 1, 3) := by decide +kernel
theorem dL_sorts_107 : decode cL_sorts 107 = .ok (.goto (-69), 3) := by decide +kernel
theorem dL_sorts_110 : decode cL_sorts 110 = .ok (.iload 8, 2) := by decide +kernel
theorem dL_sorts_112 : decode cL_sorts 112 = .ok (.istore 9, 2) := by decide +kernel
theorem dL_sorts_114 : decode cL_sorts 114 = .ok (.iload 9, 2) := by decide +kernel
theorem dL_sorts_116 : decode cL_sorts 116 = .ok (.iload 7, 2) := by decide +kernel
theorem dL_sorts_118 : decode cL_sorts 118 = .ok (.if_icmp .le 21, 3) := by decide +kernel
theorem dL_sorts_121 : decode cL_sorts 121 = .ok (.aload_n 1, 1) := by decide +kernel
theorem dL_sorts_122 : decode cL_sorts 122 = .ok (.aload_n 2, 1) := by decide +kernel
theorem dL_sorts_123 : decode cL_sorts 123 = .ok (.aload_n 3, 1) := by decide +kernel
theorem dL_sorts_124 : decode cL_sorts 124 = .ok (.iload 9, 2) := by decide +kernel
theorem dL_sorts_126 : decode cL_sorts 126 = .ok (.iload 9, 2) := by decide +kernel
theorem dL_sorts_128 : decode cL_sorts 128 = .ok (.iconst 1, 1) := by decide +kernel
theorem dL_sorts_129 : decode cL_sorts 129 = .ok (.isub, 1) := by decide +kernel
theorem dL_sorts_130 : decode cL_sorts 130 = .ok (.invokestatic 103, 3) := by decide +kernel
theorem dL_sorts_133 : decode cL_sorts 133 = .ok (.iinc 9 (-1), 3) := by decide +kernel
theorem dL_sorts_136 : decode cL_sorts 136 = .ok (.goto (-22), 3) := by decide +kernel
theorem dL_sorts_139 : decode cL_sorts 139 = .ok (.iinc 7 1, 3) := by decide +kernel
theorem dL_sorts_142 : decode cL_sorts 142 = .ok (.goto (-121), 3) := by decide +kernel
theorem dL_sorts_145 : decode cL_sorts 145 = .ok (.aload_n 0, 1) := by decide +kernel
theorem dL_sorts_146 : decode cL_sorts 146 = .ok (.iload 4, 2) := by decide +kernel
theorem dL_sorts_148 : decode cL_sorts 148 = .ok (.iload 5, 2) := by decide +kernel
theorem dL_sorts_150 : decode cL_sorts 150 = .ok (.invokevirtual 113, 3) := by decide +kernel
theorem dL_sorts_153 : decode cL_sorts 153 = .ok (.aload_n 1, 1) := by decide +kernel
theorem dL_sorts_154 : decode cL_sorts 154 = .ok (.iload 4, 2) := by decide +kernel
theorem dL_sorts_156 : decode cL_sorts 156 = .ok (.invokestatic 50, 3) := by decide +kernel
theorem dL_sorts_159 : decode cL_sorts 159 = .ok (.if_icmp .ne 7, 3) := by decide +kernel
theorem dL_sorts_162 : decode cL_sorts 162 = .ok (.iconst 1, 1) := by decide +kernel
theorem dL_sorts_163 : decode cL_sorts 163 = .ok (.goto 4, 3) := by decide +kernel
theorem dL_sorts_166 : decode cL_sorts 166 = .ok (.iconst 0, 1) := by decide +kernel
theorem dL_sorts_167 : decode cL_sorts 167 = .ok (.ireturn, 1) := by decide +kernel
theorem dL_acts_0 : decode cL_acts 0 = .ok (.iload 5, 2) := by decide +kernel
theorem dL_acts_2 : decode cL_acts 2 = .ok (.tableswitch 215 0 9 #[54, 54, 54, 66, 78, 155, 155, 167, 177, 193], 54) := by decide +kernel
theorem dL_acts_56 : decode cL_acts 56 = .ok (.aload_n 0, 1) := by decide +kernel
theorem dL_acts_57 : decode cL_acts 57 = .ok (.aload_n 1, 1) := by decide +kernel
theorem dL_acts_58 : decode cL_acts 58 = .ok (.aload_n 2, 1) := by decide +kernel
theorem dL_acts_59 : decode cL_acts 59 = .ok (.aload_n 3, 1) := by decide +kernel
theorem dL_acts_60 : decode cL_acts 60 = .ok (.aload 4, 2) := by decide +kernel
theorem dL_acts_62 : decode cL_acts 62 = .ok (.iload 6, 2) := by decide +kernel
theorem dL_acts_64 : decode cL_acts 64 = .ok (.invokestatic 116, 3) := by decide +kernel
theorem dL_acts_67 : decode cL_acts 67 = .ok (.ireturn, 1) := by decide +kernel
theorem dL_acts_68 : decode cL_acts 68 = .ok (.aload_n 0, 1) := by decide +kernel
theorem dL_acts_69 : decode cL_acts 69 = .ok (.aload_n 1, 1) := by decide +kernel
theorem dL_acts_70 : decode cL_acts 70 = .ok (.aload_n 2, 1) := by decide +kernel
theorem dL_acts_71 : decode cL_acts 71 = .ok (.aload_n 3, 1) := by decide +kernel
theorem dL_acts_72 : decode cL_acts 72 = .ok (.aload 4, 2) := by decide +kernel
theorem dL_acts_74 : decode cL_acts 74 = .ok (.iload 6, 2) := by decide +kernel
theorem dL_acts_76 : decode cL_acts 76 = .ok (.invokestatic 120, 3) := by decide +kernel
theorem dL_acts_79 : decode cL_acts 79 = .ok (.ireturn, 1) := by decide +kernel
theorem dL_acts_80 : decode cL_acts 80 = .ok (.aload_n 1, 1) := by decide +kernel
theorem dL_acts_81 : decode cL_acts 81 = .ok (.iload 6, 2) := by decide +kernel
theorem dL_acts_83 : decode cL_acts 83 = .ok (.invokestatic 67, 3) := by decide +kernel
theorem dL_acts_86 : decode cL_acts 86 = .ok (.istore 7, 2) := by decide +kernel
theorem dL_acts_88 : decode cL_acts 88 = .ok (.iload 7, 2) := by decide +kernel
theorem dL_acts_90 : decode cL_acts 90 = .ok (.ifCond .ge 7, 3) := by decide +kernel
theorem dL_acts_93 : decode cL_acts 93 = .ok (.iconst 0, 1) := by decide +kernel
theorem dL_acts_94 : decode cL_acts 94 = .ok (.goto 7, 3) := by decide +kernel
theorem dL_acts_97 : decode cL_acts 97 = .ok (.aload_n 1, 1) := by decide +kernel
theorem dL_acts_98 : decode cL_acts 98 = .ok (.iload 7, 2) := by decide +kernel
theorem dL_acts_100 : decode cL_acts 100 = .ok (.iaload, 1) := by decide +kernel
theorem dL_acts_101 : decode cL_acts 101 = .ok (.istore 8, 2) := by decide +kernel
theorem dL_acts_103 : decode cL_acts 103 = .ok (.bipush 100, 2) := by decide +kernel
theorem dL_acts_105 : decode cL_acts 105 = .ok (.iload 6, 2) := by decide +kernel
theorem dL_acts_107 : decode cL_acts 107 = .ok (.iconst 4, 1) := by decide +kernel
theorem dL_acts_108 : decode cL_acts 108 = .ok (.ishr, 1) := by decide +kernel
theorem dL_acts_109 : decode cL_acts 109 = .ok (.bipush 121, 2) := by decide +kernel
theorem dL_acts_111 : decode cL_acts 111 = .ok (.invokestatic 64, 3) := by decide +kernel
theorem dL_acts_114 : decode cL_acts 114 = .ok (.iadd, 1) := by decide +kernel
theorem dL_acts_115 : decode cL_acts 115 = .ok (.istore 9, 2) := by decide +kernel
theorem dL_acts_117 : decode cL_acts 117 = .ok (.iload 7, 2) := by decide +kernel
theorem dL_acts_119 : decode cL_acts 119 = .ok (.ifCond .ge 5, 3) := by decide +kernel
theorem dL_acts_122 : decode cL_acts 122 = .ok (.iconst 1, 1) := by decide +kernel
theorem dL_acts_123 : decode cL_acts 123 = .ok (.ireturn, 1) := by decide +kernel
theorem dL_acts_124 : decode cL_acts 124 = .ok (.aload_n 1, 1) := by decide +kernel
theorem dL_acts_125 : decode cL_acts 125 = .ok (.iload 7, 2) := by decide +kernel
theorem dL_acts_127 : decode cL_acts 127 = .ok (.iload 9, 2) := by decide +kernel
theorem dL_acts_129 : decode cL_acts 129 = .ok (.iastore, 1) := by decide +kernel
theorem dL_acts_130 : decode cL_acts 130 = .ok (.aload_n 0, 1) := by decide +kernel
theorem dL_acts_131 : decode cL_acts 131 = .ok (.iload 7, 2) := by decide +kernel
theorem dL_acts_133 : decode cL_acts 133 = .ok (.bipush 6, 2) := by decide +kernel
theorem dL_acts_135 : decode cL_acts 135 = .ok (.idiv, 1) := by decide +kernel
theorem dL_acts_136 : decode cL_acts 136 = .ok (.iload 7, 2) := by decide +kernel
theorem dL_acts_138 : decode cL_acts 138 = .ok (.bipush 6, 2) := by decide +kernel
theorem dL_acts_140 : decode cL_acts 140 = .ok (.irem, 1) := by decide +kernel
theorem dL_acts_141 : decode cL_acts 141 = .ok (.iload 9, 2) := by decide +kernel
theorem dL_acts_143 : decode cL_acts 143 = .ok (.invokevirtual 123, 3) := by decide +kernel
theorem dL_acts_146 : decode cL_acts 146 = .ok (.iload 8, 2) := by decide +kernel
theorem dL_acts_148 : decode cL_acts 148 = .ok (.if_icmp .ne 7, 3) := by decide +kernel
theorem dL_acts_151 : decode cL_acts 151 = .ok (.iconst 1, 1) := by decide +kernel
theorem dL_acts_152 : decode cL_acts 152 = .ok (.goto 4, 3) := by decide +kernel
theorem dL_acts_155 : decode cL_acts 155 = .ok (.iconst 0, 1) := by decide +kernel
theorem dL_acts_156 : decode cL_acts 156 = .ok (.ireturn, 1) := by decide +kernel
theorem dL_acts_157 : decode cL_acts 157 = .ok (.aload_n 0, 1) := by decide +kernel
theorem dL_acts_158 : decode cL_acts 158 = .ok (.aload_n 1, 1) := by decide +kernel
theorem dL_acts_159 : decode cL_acts 159 = .ok (.aload_n 2, 1) := by decide +kernel
theorem dL_acts_160 : decode cL_acts 160 = .ok (.aload_n 3, 1) := by decide +kernel
theorem dL_acts_161 : decode cL_acts 161 = .ok (.aload 4, 2) := by decide +kernel
theorem dL_acts_163 : decode cL_acts 163 = .ok (.iload 6, 2) := by decide +kernel
theorem dL_acts_165 : decode cL_acts 165 = .ok (.invokestatic 126, 3) := by decide +kernel
theorem dL_acts_168 : decode cL_acts 168 = .ok (.ireturn, 1) := by decide +kernel
theorem dL_acts_169 : decode cL_acts 169 = .ok (.aload_n 0, 1) := by decide +kernel
theorem dL_acts_170 : decode cL_acts 170 = .ok (.aload_n 1, 1) := by decide +kernel
theorem dL_acts_171 : decode cL_acts 171 = .ok (.aload_n 2, 1) := by decide +kernel
theorem dL_acts_172 : decode cL_acts 172 = .ok (.aload_n 3, 1) := by decide +kernel
theorem dL_acts_173 : decode cL_acts 173 = .ok (.iload 6, 2) := by decide +kernel
theorem dL_acts_175 : decode cL_acts 175 = .ok (.invokestatic 129, 3) := by decide +kernel
theorem dL_acts_178 : decode cL_acts 178 = .ok (.ireturn, 1) := by decide +kernel
theorem dL_acts_179 : decode cL_acts 179 = .ok (.aload_n 0, 1) := by decide +kernel
theorem dL_acts_180 : decode cL_acts 180 = .ok (.aload_n 1, 1) := by decide +kernel
theorem dL_acts_181 : decode cL_acts 181 = .ok (.aload_n 2, 1) := by decide +kernel
theorem dL_acts_182 : decode cL_acts 182 = .ok (.aload_n 3, 1) := by decide +kernel
theorem dL_acts_183 : decode cL_acts 183 = .ok (.aload 4, 2) := by decide +kernel
theorem dL_acts_185 : decode cL_acts 185 = .ok (.iload 6, 2) := by decide +kernel
theorem dL_acts_187 : decode cL_acts 187 = .ok (.iconst 4, 1) := by decide +kernel
theorem dL_acts_188 : decode cL_acts 188 = .ok (.invokestatic 64, 3) := by decide +kernel
theorem dL_acts_191 : decode cL_acts 191 = .ok (.invokestatic 133, 3) := by decide +kernel
theorem dL_acts_194 : decode cL_acts 194 = .ok (.ireturn, 1) := by decide +kernel
theorem dL_acts_195 : decode cL_acts 195 = .ok (.aload_n 0, 1) := by decide +kernel
theorem dL_acts_196 : decode cL_acts 196 = .ok (.aload_n 1, 1) := by decide +kernel
theorem dL_acts_197 : decode cL_acts 197 = .ok (.aload_n 2, 1) := by decide +kernel
theorem dL_acts_198 : decode cL_acts 198 = .ok (.aload_n 3, 1) := by decide +kernel
theorem dL_acts_199 : decode cL_acts 199 = .ok (.iload 6, 2) := by decide +kernel
theorem dL_acts_201 : decode cL_acts 201 = .ok (.iconst 4, 1) := by decide +kernel
theorem dL_acts_202 : decode cL_acts 202 = .ok (.invokestatic 64, 3) := by decide +kernel
theorem dL_acts_205 : decode cL_acts 205 = .ok (.iload 6, 2) := by decide +kernel
theorem dL_acts_207 : decode cL_acts 207 = .ok (.iconst 3, 1) := by decide +kernel
theorem dL_acts_208 : decode cL_acts 208 = .ok (.ishr, 1) := by decide +kernel
theorem dL_acts_209 : decode cL_acts 209 = .ok (.iconst 3, 1) := by decide +kernel
theorem dL_acts_210 : decode cL_acts 210 = .ok (.invokestatic 64, 3) := by decide +kernel
theorem dL_acts_213 : decode cL_acts 213 = .ok (.invokestatic 136, 3) := by decide +kernel
theorem dL_acts_216 : decode cL_acts 216 = .ok (.ireturn, 1) := by decide +kernel
theorem dL_acts_217 : decode cL_acts 217 = .ok (.iload 6, 2) := by decide +kernel
theorem dL_acts_219 : decode cL_acts 219 = .ok (.iconst 2, 1) := by decide +kernel
theorem dL_acts_220 : decode cL_acts 220 = .ok (.invokestatic 64, 3) := by decide +kernel
theorem dL_acts_223 : decode cL_acts 223 = .ok (.istore 10, 2) := by decide +kernel
theorem dL_acts_225 : decode cL_acts 225 = .ok (.aload 4, 2) := by decide +kernel
theorem dL_acts_227 : decode cL_acts 227 = .ok (.iload 10, 2) := by decide +kernel
theorem dL_acts_229 : decode cL_acts 229 = .ok (.iaload, 1) := by decide +kernel
theorem dL_acts_230 : decode cL_acts 230 = .ok (.istore 11, 2) := by decide +kernel
theorem dL_acts_232 : decode cL_acts 232 = .ok (.aload 4, 2) := by decide +kernel
theorem dL_acts_234 : decode cL_acts 234 = .ok (.iload 10, 2) := by decide +kernel
theorem dL_acts_236 : decode cL_acts 236 = .ok (.iload 10, 2) := by decide +kernel
theorem dL_acts_238 : decode cL_acts 238 = .ok (.ifCond .ne 17, 3) := by decide +kernel
theorem dL_acts_241 : decode cL_acts 241 = .ok (.iconst 1, 1) := by decide +kernel
theorem dL_acts_242 : decode cL_acts 242 = .ok (.iload 6, 2) := by decide +kernel
theorem dL_acts_244 : decode cL_acts 244 = .ok (.iconst 2, 1) := by decide +kernel
theorem dL_acts_245 : decode cL_acts 245 = .ok (.ishr, 1) := by decide +kernel
theorem dL_acts_246 : decode cL_acts 246 = .ok (.bipush 6, 2) := by decide +kernel
theorem dL_acts_248 : decode cL_acts 248 = .ok (.invokestatic 64, 3) := by decide +kernel
theorem dL_acts_251 : decode cL_acts 251 = .ok (.iadd, 1) := by decide +kernel
theorem dL_acts_252 : decode cL_acts 252 = .ok (.goto 11, 3) := by decide +kernel
theorem dL_acts_255 : decode cL_acts 255 = .ok (.iload 6, 2) := by decide +kernel
theorem dL_acts_257 : decode cL_acts 257 = .ok (.iconst 2, 1) := by decide +kernel
theorem dL_acts_258 : decode cL_acts 258 = .ok (.ishr, 1) := by decide +kernel
theorem dL_acts_259 : decode cL_acts 259 = .ok (.iconst 2, 1) := by decide +kernel
theorem dL_acts_260 : decode cL_acts 260 = .ok (.invokestatic 64, 3) := by decide +kernel
theorem dL_acts_263 : decode cL_acts 263 = .ok (.iastore, 1) := by decide +kernel
theorem dL_acts_264 : decode cL_acts 264 = .ok (.aload_n 0, 1) := by decide +kernel
theorem dL_acts_265 : decode cL_acts 265 = .ok (.iload 10, 2) := by decide +kernel
theorem dL_acts_267 : decode cL_acts 267 = .ok (.aload 4, 2) := by decide +kernel
theorem dL_acts_269 : decode cL_acts 269 = .ok (.iload 10, 2) := by decide +kernel
theorem dL_acts_271 : decode cL_acts 271 = .ok (.iaload, 1) := by decide +kernel
theorem dL_acts_272 : decode cL_acts 272 = .ok (.invokevirtual 140, 3) := by decide +kernel
theorem dL_acts_275 : decode cL_acts 275 = .ok (.iload 11, 2) := by decide +kernel
theorem dL_acts_277 : decode cL_acts 277 = .ok (.if_icmp .ne 7, 3) := by decide +kernel
theorem dL_acts_280 : decode cL_acts 280 = .ok (.iconst 1, 1) := by decide +kernel
theorem dL_acts_281 : decode cL_acts 281 = .ok (.goto 4, 3) := by decide +kernel
theorem dL_acts_284 : decode cL_acts 284 = .ok (.iconst 0, 1) := by decide +kernel
theorem dL_acts_285 : decode cL_acts 285 = .ok (.ireturn, 1) := by decide +kernel
theorem dL_law_0 : decode cL_law 0 = .ok (.new 24, 3) := by decide +kernel
theorem dL_law_3 : decode cL_law 3 = .ok (.dup, 1) := by decide +kernel
theorem dL_law_4 : decode cL_law 4 = .ok (.invokespecial 143, 3) := by decide +kernel
theorem dL_law_7 : decode cL_law 7 = .ok (.astore_n 1, 1) := by decide +kernel
theorem dL_law_8 : decode cL_law 8 = .ok (.bipush 24, 2) := by decide +kernel
theorem dL_law_10 : decode cL_law 10 = .ok (.newarray .int, 2) := by decide +kernel
theorem dL_law_12 : decode cL_law 12 = .ok (.astore_n 2, 1) := by decide +kernel
theorem dL_law_13 : decode cL_law 13 = .ok (.bipush 24, 2) := by decide +kernel
theorem dL_law_15 : decode cL_law 15 = .ok (.newarray .int, 2) := by decide +kernel
theorem dL_law_17 : decode cL_law 17 = .ok (.astore_n 3, 1) := by decide +kernel
theorem dL_law_18 : decode cL_law 18 = .ok (.bipush 24, 2) := by decide +kernel
theorem dL_law_20 : decode cL_law 20 = .ok (.newarray .int, 2) := by decide +kernel
theorem dL_law_22 : decode cL_law 22 = .ok (.astore 4, 2) := by decide +kernel
theorem dL_law_24 : decode cL_law 24 = .ok (.iconst 5, 1) := by decide +kernel
theorem dL_law_25 : decode cL_law 25 = .ok (.newarray .int, 2) := by decide +kernel
theorem dL_law_27 : decode cL_law 27 = .ok (.astore 5, 2) := by decide +kernel
theorem dL_law_29 : decode cL_law 29 = .ok (.aload 5, 2) := by decide +kernel
theorem dL_law_31 : decode cL_law 31 = .ok (.iconst 0, 1) := by decide +kernel
theorem dL_law_32 : decode cL_law 32 = .ok (.bipush 6, 2) := by decide +kernel
theorem dL_law_34 : decode cL_law 34 = .ok (.iastore, 1) := by decide +kernel
theorem dL_law_35 : decode cL_law 35 = .ok (.aload 5, 2) := by decide +kernel
theorem dL_law_37 : decode cL_law 37 = .ok (.iconst 1, 1) := by decide +kernel
theorem dL_law_38 : decode cL_law 38 = .ok (.iconst 1, 1) := by decide +kernel
theorem dL_law_39 : decode cL_law 39 = .ok (.iastore, 1) := by decide +kernel
theorem dL_law_40 : decode cL_law 40 = .ok (.aload_n 1, 1) := by decide +kernel
theorem dL_law_41 : decode cL_law 41 = .ok (.aload_n 2, 1) := by decide +kernel
theorem dL_law_42 : decode cL_law 42 = .ok (.aload_n 3, 1) := by decide +kernel
theorem dL_law_43 : decode cL_law 43 = .ok (.aload 4, 2) := by decide +kernel
theorem dL_law_45 : decode cL_law 45 = .ok (.aload 5, 2) := by decide +kernel
theorem dL_law_47 : decode cL_law 47 = .ok (.invokestatic 144, 3) := by decide +kernel
theorem dL_law_50 : decode cL_law 50 = .ok (.ifCond .eq 19, 3) := by decide +kernel
theorem dL_law_53 : decode cL_law 53 = .ok (.aload_n 1, 1) := by decide +kernel
theorem dL_law_54 : decode cL_law 54 = .ok (.aload_n 2, 1) := by decide +kernel
theorem dL_law_55 : decode cL_law 55 = .ok (.aload 5, 2) := by decide +kernel
theorem dL_law_57 : decode cL_law 57 = .ok (.bipush 7, 2) := by decide +kernel
theorem dL_law_59 : decode cL_law 59 = .ok (.invokestatic 148, 3) := by decide +kernel
theorem dL_law_62 : decode cL_law 62 = .ok (.ifCond .eq 7, 3) := by decide +kernel
theorem dL_law_65 : decode cL_law 65 = .ok (.iconst 1, 1) := by decide +kernel
theorem dL_law_66 : decode cL_law 66 = .ok (.goto 4, 3) := by decide +kernel
theorem dL_law_69 : decode cL_law 69 = .ok (.iconst 0, 1) := by decide +kernel
theorem dL_law_70 : decode cL_law 70 = .ok (.istore 6, 2) := by decide +kernel
theorem dL_law_72 : decode cL_law 72 = .ok (.iconst 0, 1) := by decide +kernel
theorem dL_law_73 : decode cL_law 73 = .ok (.istore 7, 2) := by decide +kernel
theorem dL_law_75 : decode cL_law 75 = .ok (.iload 7, 2) := by decide +kernel
theorem dL_law_77 : decode cL_law 77 = .ok (.bipush 32, 2) := by decide +kernel
theorem dL_law_79 : decode cL_law 79 = .ok (.if_icmp .ge 92, 3) := by decide +kernel
theorem dL_law_82 : decode cL_law 82 = .ok (.iload 6, 2) := by decide +kernel
theorem dL_law_84 : decode cL_law 84 = .ok (.ifCond .eq 87, 3) := by decide +kernel
theorem dL_law_87 : decode cL_law 87 = .ok (.aload_n 0, 1) := by decide +kernel
theorem dL_law_88 : decode cL_law 88 = .ok (.iload 7, 2) := by decide +kernel
theorem dL_law_90 : decode cL_law 90 = .ok (.invokestatic 152, 3) := by decide +kernel
theorem dL_law_93 : decode cL_law 93 = .ok (.istore 8, 2) := by decide +kernel
theorem dL_law_95 : decode cL_law 95 = .ok (.aload_n 1, 1) := by decide +kernel
theorem dL_law_96 : decode cL_law 96 = .ok (.aload_n 2, 1) := by decide +kernel
theorem dL_law_97 : decode cL_law 97 = .ok (.aload_n 3, 1) := by decide +kernel
theorem dL_law_98 : decode cL_law 98 = .ok (.aload 4, 2) := by decide +kernel
theorem dL_law_100 : decode cL_law 100 = .ok (.aload 5, 2) := by decide +kernel
theorem dL_law_102 : decode cL_law 102 = .ok (.iload 7, 2) := by decide +kernel
theorem dL_law_104 : decode cL_law 104 = .ok (.bipush 12, 2) := by decide +kernel
theorem dL_law_106 : decode cL_law 106 = .ok (.if_icmp .ge 7, 3) := by decide +kernel
theorem dL_law_109 : decode cL_law 109 = .ok (.iconst 0, 1) := by decide +kernel
theorem dL_law_110 : decode cL_law 110 = .ok (.goto 13, 3) := by decide +kernel
theorem dL_law_113 : decode cL_law 113 = .ok (.iload 8, 2) := by decide +kernel
theorem dL_law_115 : decode cL_law 115 = .ok (.bipush 17, 2) := by decide +kernel
theorem dL_law_117 : decode cL_law 117 = .ok (.ishr, 1) := by decide +kernel
theorem dL_law_118 : decode cL_law 118 = .ok (.bipush 12, 2) := by decide +kernel
theorem dL_law_120 : decode cL_law 120 = .ok (.invokestatic 64, 3) := by decide +kernel
theorem dL_law_123 : decode cL_law 123 = .ok (.iload 8, 2) := by decide +kernel
theorem dL_law_125 : decode cL_law 125 = .ok (.invokestatic 155, 3) := by decide +kernel
theorem dL_law_128 : decode cL_law 128 = .ok (.ifCond .eq 34, 3) := by decide +kernel
theorem dL_law_131 : decode cL_law 131 = .ok (.aload_n 1, 1) := by decide +kernel
theorem dL_law_132 : decode cL_law 132 = .ok (.aload_n 2, 1) := by decide +kernel
theorem dL_law_133 : decode cL_law 133 = .ok (.aload_n 3, 1) := by decide +kernel
theorem dL_law_134 : decode cL_law 134 = .ok (.aload 4, 2) := by decide +kernel
theorem dL_law_136 : decode cL_law 136 = .ok (.aload 5, 2) := by decide +kernel
theorem dL_law_138 : decode cL_law 138 = .ok (.invokestatic 144, 3) := by decide +kernel
theorem dL_law_141 : decode cL_law 141 = .ok (.ifCond .eq 21, 3) := by decide +kernel
theorem dL_law_144 : decode cL_law 144 = .ok (.aload_n 1, 1) := by decide +kernel
theorem dL_law_145 : decode cL_law 145 = .ok (.aload_n 2, 1) := by decide +kernel
theorem dL_law_146 : decode cL_law 146 = .ok (.aload 5, 2) := by decide +kernel
theorem dL_law_148 : decode cL_law 148 = .ok (.iload 8, 2) := by decide +kernel
theorem dL_law_150 : decode cL_law 150 = .ok (.iconst 4, 1) := by decide +kernel
theorem dL_law_151 : decode cL_law 151 = .ok (.ishr, 1) := by decide +kernel
theorem dL_law_152 : decode cL_law 152 = .ok (.invokestatic 148, 3) := by decide +kernel
theorem dL_law_155 : decode cL_law 155 = .ok (.ifCond .eq 7, 3) := by decide +kernel
theorem dL_law_158 : decode cL_law 158 = .ok (.iconst 1, 1) := by decide +kernel
theorem dL_law_159 : decode cL_law 159 = .ok (.goto 4, 3) := by decide +kernel
theorem dL_law_162 : decode cL_law 162 = .ok (.iconst 0, 1) := by decide +kernel
theorem dL_law_163 : decode cL_law 163 = .ok (.istore 6, 2) := by decide +kernel
theorem dL_law_165 : decode cL_law 165 = .ok (.iinc 7 1, 3) := by decide +kernel
theorem dL_law_168 : decode cL_law 168 = .ok (.goto (-93), 3) := by decide +kernel
theorem dL_law_171 : decode cL_law 171 = .ok (.iload 6, 2) := by decide +kernel
theorem dL_law_173 : decode cL_law 173 = .ok (.ireturn, 1) := by decide +kernel
abbrev vwCl : List vw_C := [(RX0, TX0, 2), (RX1, TX1, 9), (RX2, TX2, 3), (RX3, TX3, 3), (RX4, TX4, 4), (RX5, TX5, 7), (RX6, TX6, 8)]
