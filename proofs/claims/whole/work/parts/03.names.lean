/-! names: classes, field tables, methods (of NAMES.whole), the good words of the tables by their places -/
abbrev RX0 : String := "TileWarden$Boards"
def TX0 : u_T := fun k => match k with
  | _ => ("", "", "", false)
def tyX0 : Nat → FieldType := fun k => match k with
  | _ => .int
theorem nmX0 : ∀ a, a < 0 → ∀ b, b < 0 → a ≠ b → (TX0 a).2.1 ≠ (TX0 b).2.1 := by decide +kernel
theorem tyX0_ok : ∀ k, k < 0 → parseFieldDescriptor (TX0 k).2.2.1 = some (tyX0 k) := by decide +kernel
abbrev cX0_tileAt : ByteArray := prog_2_method_2_code
abbrev yX0_tileAt : MethodName := ⟨RX0, "tileAt", "(JI)I"⟩
abbrev cX0_canGo : ByteArray := prog_2_method_3_code
abbrev yX0_canGo : MethodName := ⟨RX0, "canGo", "(JI)Z"⟩
abbrev cX0_isStuck : ByteArray := prog_2_method_4_code
abbrev yX0_isStuck : MethodName := ⟨RX0, "isStuck", "(J)Z"⟩
abbrev cX0_pushed : ByteArray := prog_2_method_5_code
abbrev yX0_pushed : MethodName := ⟨RX0, "pushed", "(JI)J"⟩
abbrev cX0_gainOf : ByteArray := prog_2_method_6_code
abbrev yX0_gainOf : MethodName := ⟨RX0, "gainOf", "(JI)I"⟩
abbrev cX0_drawn : ByteArray := prog_2_method_7_code
abbrev yX0_drawn : MethodName := ⟨RX0, "drawn", "(JI)J"⟩
abbrev cX0_drawnZ : ByteArray := prog_2_method_8_code
abbrev yX0_drawnZ : MethodName := ⟨RX0, "drawnZ", "(I)I"⟩
abbrev cX0_nextZ : ByteArray := prog_2_method_9_code
abbrev yX0_nextZ : MethodName := ⟨RX0, "nextZ", "(I)I"⟩
abbrev cX0_countEmpty : ByteArray := prog_2_method_10_code
abbrev yX0_countEmpty : MethodName := ⟨RX0, "countEmpty", "(J)I"⟩
abbrev cX0_cellOf : ByteArray := prog_2_method_11_code
abbrev yX0_cellOf : MethodName := ⟨RX0, "cellOf", "(III)I"⟩
abbrev cX0_tileIn : ByteArray := prog_2_method_12_code
abbrev yX0_tileIn : MethodName := ⟨RX0, "tileIn", "(II)I"⟩
abbrev cX0_gathered : ByteArray := prog_2_method_13_code
abbrev yX0_gathered : MethodName := ⟨RX0, "gathered", "(JII)I"⟩
abbrev cX0_mergingPlace : ByteArray := prog_2_method_14_code
abbrev yX0_mergingPlace : MethodName := ⟨RX0, "mergingPlace", "(I)I"⟩
abbrev cX0_merged : ByteArray := prog_2_method_15_code
abbrev yX0_merged : MethodName := ⟨RX0, "merged", "(I)I"⟩
abbrev RX1 : String := "TileWarden$Cache"
def TX1 : u_T := fun k => match k with
  | 0 => ("TileWarden$Cache", "slots", "[LTileWarden$Entry;", true)
  | 1 => ("TileWarden$Cache", "count", "I", false)
  | 2 => ("TileWarden$Cache", "room", "I", false)
  | _ => ("TileWarden$Cache", "uses", "I", false)
def tyX1 : Nat → FieldType := fun k => match k with
  | 0 => .array (.object "TileWarden$Entry")
  | 1 => .int
  | 2 => .int
  | _ => .int
theorem nmX1 : ∀ a, a < 4 → ∀ b, b < 4 → a ≠ b → (TX1 a).2.1 ≠ (TX1 b).2.1 := by decide +kernel
theorem tyX1_ok : ∀ k, k < 4 → parseFieldDescriptor (TX1 k).2.2.1 = some (tyX1 k) := by decide +kernel
abbrev cX1_init : ByteArray := prog_3_method_1_code
abbrev yX1_init : MethodName := ⟨RX1, "<init>", "(I)V"⟩
abbrev cX1_become : ByteArray := prog_3_method_2_code
abbrev yX1_become : MethodName := ⟨RX1, "become", "(LTileWarden$Cache;)V"⟩
abbrev cX1_find : ByteArray := prog_3_method_3_code
abbrev yX1_find : MethodName := ⟨RX1, "find", "(JII)LTileWarden$Entry;"⟩
abbrev cX1_use : ByteArray := prog_3_method_4_code
abbrev yX1_use : MethodName := ⟨RX1, "use", "(LTileWarden$Entry;)V"⟩
abbrev cX1_put : ByteArray := prog_3_method_5_code
abbrev yX1_put : MethodName := ⟨RX1, "put", "(JIIII)V"⟩
abbrev cX1_fitInto : ByteArray := prog_3_method_6_code
abbrev yX1_fitInto : MethodName := ⟨RX1, "fitInto", "(I)V"⟩
abbrev cX1_countPinned : ByteArray := prog_3_method_7_code
abbrev yX1_countPinned : MethodName := ⟨RX1, "countPinned", "()I"⟩
abbrev cX1_countPins : ByteArray := prog_3_method_8_code
abbrev yX1_countPins : MethodName := ⟨RX1, "countPins", "(I)I"⟩
abbrev cX1_takePins : ByteArray := prog_3_method_9_code
abbrev yX1_takePins : MethodName := ⟨RX1, "takePins", "(I)V"⟩
abbrev cX1_findFree : ByteArray := prog_3_method_10_code
abbrev yX1_findFree : MethodName := ⟨RX1, "findFree", "()LTileWarden$Entry;"⟩
abbrev cX1_dropOldest : ByteArray := prog_3_method_11_code
abbrev yX1_dropOldest : MethodName := ⟨RX1, "dropOldest", "()V"⟩
abbrev RX2 : String := "TileWarden$Entry"
def TX2 : u_T := fun k => match k with
  | 0 => ("TileWarden$Entry", "board", "J", false)
  | 1 => ("TileWarden$Entry", "z", "I", false)
  | 2 => ("TileWarden$Entry", "depth", "I", false)
  | 3 => ("TileWarden$Entry", "worth", "I", false)
  | 4 => ("TileWarden$Entry", "push", "I", false)
  | 5 => ("TileWarden$Entry", "lastUse", "I", false)
  | _ => ("TileWarden$Entry", "pins", "I", false)
def tyX2 : Nat → FieldType := fun k => match k with
  | 0 => .long
  | 1 => .int
  | 2 => .int
  | 3 => .int
  | 4 => .int
  | 5 => .int
  | _ => .int
theorem nmX2 : ∀ a, a < 7 → ∀ b, b < 7 → a ≠ b → (TX2 a).2.1 ≠ (TX2 b).2.1 := by decide +kernel
theorem tyX2_ok : ∀ k, k < 7 → parseFieldDescriptor (TX2 k).2.2.1 = some (tyX2 k) := by decide +kernel
abbrev cX2_init : ByteArray := prog_4_method_1_code
abbrev yX2_init : MethodName := ⟨RX2, "<init>", "()V"⟩
abbrev cX2_isFree : ByteArray := prog_4_method_2_code
abbrev yX2_isFree : MethodName := ⟨RX2, "isFree", "()Z"⟩
abbrev cX2_isFor : ByteArray := prog_4_method_3_code
abbrev yX2_isFor : MethodName := ⟨RX2, "isFor", "(JII)Z"⟩
abbrev cX2_become : ByteArray := prog_4_method_4_code
abbrev yX2_become : MethodName := ⟨RX2, "become", "(LTileWarden$Entry;)V"⟩
abbrev RX3 : String := "TileWarden$Game"
def TX3 : u_T := fun k => match k with
  | 0 => ("TileWarden$Game", "owner", "LTileWarden$Player;", true)
  | 1 => ("TileWarden$Game", "pinBit", "I", true)
  | 2 => ("TileWarden$Game", "board", "J", false)
  | 3 => ("TileWarden$Game", "z", "I", false)
  | 4 => ("TileWarden$Game", "score", "I", false)
  | 5 => ("TileWarden$Game", "pushCount", "I", false)
  | 6 => ("TileWarden$Game", "row", "I", false)
  | 7 => ("TileWarden$Game", "longestRow", "I", false)
  | 8 => ("TileWarden$Game", "paid", "I", false)
  | _ => ("TileWarden$Game", "voided", "Z", false)
def tyX3 : Nat → FieldType := fun k => match k with
  | 0 => .object "TileWarden$Player"
  | 1 => .int
  | 2 => .long
  | 3 => .int
  | 4 => .int
  | 5 => .int
  | 6 => .int
  | 7 => .int
  | 8 => .int
  | _ => .boolean
theorem nmX3 : ∀ a, a < 10 → ∀ b, b < 10 → a ≠ b → (TX3 a).2.1 ≠ (TX3 b).2.1 := by decide +kernel
theorem tyX3_ok : ∀ k, k < 10 → parseFieldDescriptor (TX3 k).2.2.1 = some (tyX3 k) := by decide +kernel
abbrev cX3_init : ByteArray := prog_5_method_1_code
abbrev yX3_init : MethodName := ⟨RX3, "<init>", "(LTileWarden$Player;II)V"⟩
abbrev cX3_go : ByteArray := prog_5_method_2_code
abbrev yX3_go : MethodName := ⟨RX3, "go", "(I)I"⟩
abbrev cX3_noteFollowing : ByteArray := prog_5_method_3_code
abbrev yX3_noteFollowing : MethodName := ⟨RX3, "noteFollowing", "(Z)V"⟩
abbrev RX4 : String := "TileWarden$Player"
def TX4 : u_T := fun k => match k with
  | 0 => ("TileWarden$Player", "number", "I", true)
  | 1 => ("TileWarden$Player", "moneyAtFirst", "I", true)
  | _ => ("TileWarden$Player", "money", "I", false)
def tyX4 : Nat → FieldType := fun k => match k with
  | 0 => .int
  | 1 => .int
  | _ => .int
theorem nmX4 : ∀ a, a < 3 → ∀ b, b < 3 → a ≠ b → (TX4 a).2.1 ≠ (TX4 b).2.1 := by decide +kernel
theorem tyX4_ok : ∀ k, k < 3 → parseFieldDescriptor (TX4 k).2.2.1 = some (tyX4 k) := by decide +kernel
abbrev cX4_init : ByteArray := prog_6_method_1_code
abbrev yX4_init : MethodName := ⟨RX4, "<init>", "(II)V"⟩
abbrev RX5 : String := "TileWarden$Search"
def TX5 : u_T := fun k => match k with
  | 0 => ("TileWarden$Search", "cache", "LTileWarden$Cache;", true)
  | 1 => ("TileWarden$Search", "hits", "I", false)
  | 2 => ("TileWarden$Search", "misses", "I", false)
  | _ => ("TileWarden$Search", "push", "I", false)
def tyX5 : Nat → FieldType := fun k => match k with
  | 0 => .object "TileWarden$Cache"
  | 1 => .int
  | 2 => .int
  | _ => .int
theorem nmX5 : ∀ a, a < 4 → ∀ b, b < 4 → a ≠ b → (TX5 a).2.1 ≠ (TX5 b).2.1 := by decide +kernel
theorem tyX5_ok : ∀ k, k < 4 → parseFieldDescriptor (TX5 k).2.2.1 = some (tyX5 k) := by decide +kernel
abbrev cX5_init : ByteArray := prog_7_method_1_code
abbrev yX5_init : MethodName := ⟨RX5, "<init>", "(LTileWarden$Cache;)V"⟩
abbrev cX5_start : ByteArray := prog_7_method_2_code
abbrev yX5_start : MethodName := ⟨RX5, "start", "()V"⟩
abbrev cX5_cost : ByteArray := prog_7_method_3_code
abbrev yX5_cost : MethodName := ⟨RX5, "cost", "()I"⟩
abbrev RX6 : String := "TileWarden$Trace"
def TX6 : u_T := fun k => match k with
  | 0 => ("TileWarden$Trace", "player", "I", true)
  | 1 => ("TileWarden$Trace", "board", "J", true)
  | 2 => ("TileWarden$Trace", "z", "I", true)
  | _ => ("TileWarden$Trace", "push", "I", true)
def tyX6 : Nat → FieldType := fun k => match k with
  | 0 => .int
  | 1 => .long
  | 2 => .int
  | _ => .int
theorem nmX6 : ∀ a, a < 4 → ∀ b, b < 4 → a ≠ b → (TX6 a).2.1 ≠ (TX6 b).2.1 := by decide +kernel
theorem tyX6_ok : ∀ k, k < 4 → parseFieldDescriptor (TX6 k).2.2.1 = some (tyX6 k) := by decide +kernel
abbrev cX6_init : ByteArray := prog_8_method_1_code
abbrev yX6_init : MethodName := ⟨RX6, "<init>", "(LTileWarden$Game;I)V"⟩
abbrev RX7 : String := "TileWarden"
def TX7 : u_T := fun k => match k with
  | 0 => ("TileWarden", "players", "Ljava/util/ArrayList;", true)
  | 1 => ("TileWarden", "games", "Ljava/util/ArrayList;", true)
  | 2 => ("TileWarden", "traces", "Ljava/util/ArrayList;", true)
  | 3 => ("TileWarden", "cache", "LTileWarden$Cache;", true)
  | 4 => ("TileWarden", "trial", "LTileWarden$Search;", true)
  | 5 => ("TileWarden", "plain", "LTileWarden$Search;", true)
  | 6 => ("TileWarden", "limit", "I", false)
  | 7 => ("TileWarden", "refunds", "J", false)
  | 8 => ("TileWarden", "soldHints", "J", false)
  | 9 => ("TileWarden", "soldPrices", "J", false)
  | 10 => ("TileWarden", "soldHits", "J", false)
  | _ => ("TileWarden", "soldMisses", "J", false)
def tyX7 : Nat → FieldType := fun k => match k with
  | 0 => .object "java/util/ArrayList"
  | 1 => .object "java/util/ArrayList"
  | 2 => .object "java/util/ArrayList"
  | 3 => .object "TileWarden$Cache"
  | 4 => .object "TileWarden$Search"
  | 5 => .object "TileWarden$Search"
  | 6 => .int
  | 7 => .long
  | 8 => .long
  | 9 => .long
  | 10 => .long
  | _ => .long
theorem nmX7 : ∀ a, a < 12 → ∀ b, b < 12 → a ≠ b → (TX7 a).2.1 ≠ (TX7 b).2.1 := by decide +kernel
theorem tyX7_ok : ∀ k, k < 12 → parseFieldDescriptor (TX7 k).2.2.1 = some (tyX7 k) := by decide +kernel
abbrev cX7_init : ByteArray := prog_1_method_1_code
abbrev yX7_init : MethodName := ⟨RX7, "<init>", "()V"⟩
abbrev cX7_addPlayer : ByteArray := prog_1_method_2_code
abbrev yX7_addPlayer : MethodName := ⟨RX7, "addPlayer", "(I)I"⟩
abbrev cX7_open : ByteArray := prog_1_method_3_code
abbrev yX7_open : MethodName := ⟨RX7, "open", "(II)I"⟩
abbrev cX7_push : ByteArray := prog_1_method_4_code
abbrev yX7_push : MethodName := ⟨RX7, "push", "(II)I"⟩
abbrev cX7_at : ByteArray := prog_1_method_5_code
abbrev yX7_at : MethodName := ⟨RX7, "at", "(III)I"⟩
abbrev cX7_score : ByteArray := prog_1_method_6_code
abbrev yX7_score : MethodName := ⟨RX7, "score", "(I)I"⟩
abbrev cX7_pushes : ByteArray := prog_1_method_7_code
abbrev yX7_pushes : MethodName := ⟨RX7, "pushes", "(I)I"⟩
abbrev cX7_canPush : ByteArray := prog_1_method_8_code
abbrev yX7_canPush : MethodName := ⟨RX7, "canPush", "(II)Z"⟩
abbrev cX7_isOver : ByteArray := prog_1_method_9_code
abbrev yX7_isOver : MethodName := ⟨RX7, "isOver", "(I)Z"⟩
abbrev cX7_price : ByteArray := prog_1_method_10_code
abbrev yX7_price : MethodName := ⟨RX7, "price", "(II)I"⟩
abbrev cX7_hint : ByteArray := prog_1_method_11_code
abbrev yX7_hint : MethodName := ⟨RX7, "hint", "(II)I"⟩
abbrev cX7_worth : ByteArray := prog_1_method_12_code
abbrev yX7_worth : MethodName := ⟨RX7, "worth", "(II)I"⟩
abbrev cX7_money : ByteArray := prog_1_method_13_code
abbrev yX7_money : MethodName := ⟨RX7, "money", "(I)I"⟩
abbrev cX7_setRoom : ByteArray := prog_1_method_14_code
abbrev yX7_setRoom : MethodName := ⟨RX7, "setRoom", "(I)I"⟩
abbrev cX7_entries : ByteArray := prog_1_method_15_code
abbrev yX7_entries : MethodName := ⟨RX7, "entries", "()I"⟩
abbrev cX7_isCached : ByteArray := prog_1_method_16_code
abbrev yX7_isCached : MethodName := ⟨RX7, "isCached", "(II)Z"⟩
abbrev cX7_pin : ByteArray := prog_1_method_17_code
abbrev yX7_pin : MethodName := ⟨RX7, "pin", "(II)I"⟩
abbrev cX7_unpin : ByteArray := prog_1_method_18_code
abbrev yX7_unpin : MethodName := ⟨RX7, "unpin", "(I)I"⟩
abbrev cX7_pinned : ByteArray := prog_1_method_19_code
abbrev yX7_pinned : MethodName := ⟨RX7, "pinned", "()I"⟩
abbrev cX7_follows : ByteArray := prog_1_method_20_code
abbrev yX7_follows : MethodName := ⟨RX7, "follows", "(I)I"⟩
abbrev cX7_setLimit : ByteArray := prog_1_method_21_code
abbrev yX7_setLimit : MethodName := ⟨RX7, "setLimit", "(I)I"⟩
abbrev cX7_judge : ByteArray := prog_1_method_22_code
abbrev yX7_judge : MethodName := ⟨RX7, "judge", "(I)I"⟩
abbrev cX7_isVoid : ByteArray := prog_1_method_23_code
abbrev yX7_isVoid : MethodName := ⟨RX7, "isVoid", "(I)Z"⟩
abbrev cX7_traces : ByteArray := prog_1_method_24_code
abbrev yX7_traces : MethodName := ⟨RX7, "traces", "()I"⟩
abbrev cX7_playerOf : ByteArray := prog_1_method_25_code
abbrev yX7_playerOf : MethodName := ⟨RX7, "playerOf", "(I)I"⟩
abbrev cX7_pushOf : ByteArray := prog_1_method_26_code
abbrev yX7_pushOf : MethodName := ⟨RX7, "pushOf", "(I)I"⟩
abbrev cX7_refunds : ByteArray := prog_1_method_27_code
abbrev yX7_refunds : MethodName := ⟨RX7, "refunds", "()J"⟩
abbrev cX7_hitShare : ByteArray := prog_1_method_28_code
abbrev yX7_hitShare : MethodName := ⟨RX7, "hitShare", "()F"⟩
abbrev cX7_meanPrice : ByteArray := prog_1_method_29_code
abbrev yX7_meanPrice : MethodName := ⟨RX7, "meanPrice", "()D"⟩
abbrev cX7_isSound : ByteArray := prog_1_method_30_code
abbrev yX7_isSound : MethodName := ⟨RX7, "isSound", "()Z"⟩
abbrev cX7_findPlayer : ByteArray := prog_1_method_31_code
abbrev yX7_findPlayer : MethodName := ⟨RX7, "findPlayer", "(I)LTileWarden$Player;"⟩
abbrev cX7_findGame : ByteArray := prog_1_method_32_code
abbrev yX7_findGame : MethodName := ⟨RX7, "findGame", "(I)LTileWarden$Game;"⟩
abbrev cX7_findTrace : ByteArray := prog_1_method_33_code
abbrev yX7_findTrace : MethodName := ⟨RX7, "findTrace", "(I)LTileWarden$Trace;"⟩
abbrev cX7_checkWay : ByteArray := prog_1_method_34_code
abbrev yX7_checkWay : MethodName := ⟨RX7, "checkWay", "(I)V"⟩
abbrev cX7_checkDepth : ByteArray := prog_1_method_35_code
abbrev yX7_checkDepth : MethodName := ⟨RX7, "checkDepth", "(II)V"⟩
abbrev cX7_checkHintable : ByteArray := prog_1_method_36_code
abbrev yX7_checkHintable : MethodName := ⟨RX7, "checkHintable", "(LTileWarden$Game;)V"⟩
abbrev cX7_tryHint : ByteArray := prog_1_method_37_code
abbrev yX7_tryHint : MethodName := ⟨RX7, "tryHint", "(LTileWarden$Game;I)V"⟩
abbrev cX7_sellTriedHint : ByteArray := prog_1_method_38_code
abbrev yX7_sellTriedHint : MethodName := ⟨RX7, "sellTriedHint", "(LTileWarden$Game;)V"⟩
abbrev cX7_look : ByteArray := prog_1_method_39_code
abbrev yX7_look : MethodName := ⟨RX7, "look", "(LTileWarden$Search;JII)I"⟩
abbrev cX7_isFollowing : ByteArray := prog_1_method_40_code
abbrev yX7_isFollowing : MethodName := ⟨RX7, "isFollowing", "(LTileWarden$Game;I)Z"⟩
abbrev cX7_areEntriesRight : ByteArray := prog_1_method_41_code
abbrev yX7_areEntriesRight : MethodName := ⟨RX7, "areEntriesRight", "()Z"⟩
abbrev cX7_isFoundPlainly : ByteArray := prog_1_method_42_code
abbrev yX7_isFoundPlainly : MethodName := ⟨RX7, "isFoundPlainly", "(LTileWarden$Entry;)Z"⟩
abbrev cX7_areRefundsRight : ByteArray := prog_1_method_43_code
abbrev yX7_areRefundsRight : MethodName := ⟨RX7, "areRefundsRight", "()Z"⟩
abbrev cX7_arePursesRight : ByteArray := prog_1_method_44_code
abbrev yX7_arePursesRight : MethodName := ⟨RX7, "arePursesRight", "()Z"⟩
abbrev cX7_paidForGood : ByteArray := prog_1_method_45_code
abbrev yX7_paidForGood : MethodName := ⟨RX7, "paidForGood", "(LTileWarden$Player;)I"⟩
abbrev RX8 : String := "TileWardenModel"
def TX8 : u_T := fun k => match k with
  | 0 => ("TileWardenModel", "money", "[I", true)
  | 1 => ("TileWardenModel", "board", "[J", true)
  | 2 => ("TileWardenModel", "z", "[I", true)
  | 3 => ("TileWardenModel", "owner", "[I", true)
  | 4 => ("TileWardenModel", "score", "[I", true)
  | 5 => ("TileWardenModel", "pushes", "[I", true)
  | 6 => ("TileWardenModel", "row", "[I", true)
  | 7 => ("TileWardenModel", "longest", "[I", true)
  | 8 => ("TileWardenModel", "paid", "[I", true)
  | 9 => ("TileWardenModel", "gone", "[Z", true)
  | 10 => ("TileWardenModel", "traceBoard", "[J", true)
  | 11 => ("TileWardenModel", "traceZ", "[I", true)
  | 12 => ("TileWardenModel", "tracePlayer", "[I", true)
  | 13 => ("TileWardenModel", "tracePush", "[I", true)
  | 14 => ("TileWardenModel", "keptBoard", "[J", true)
  | 15 => ("TileWardenModel", "keptZ", "[I", true)
  | 16 => ("TileWardenModel", "keptDepth", "[I", true)
  | 17 => ("TileWardenModel", "keptWorth", "[I", true)
  | 18 => ("TileWardenModel", "keptHint", "[I", true)
  | 19 => ("TileWardenModel", "keptUsed", "[I", true)
  | 20 => ("TileWardenModel", "keptPins", "[I", true)
  | 21 => ("TileWardenModel", "pileBoard", "[J", true)
  | 22 => ("TileWardenModel", "pileZ", "[I", true)
  | 23 => ("TileWardenModel", "pileDepth", "[I", true)
  | 24 => ("TileWardenModel", "pileNext", "[I", true)
  | 25 => ("TileWardenModel", "pileBest", "[I", true)
  | 26 => ("TileWardenModel", "pileHint", "[I", true)
  | 27 => ("TileWardenModel", "pileGain", "[I", true)
  | 28 => ("TileWardenModel", "thrown", "I", false)
  | 29 => ("TileWardenModel", "players", "I", false)
  | 30 => ("TileWardenModel", "games", "I", false)
  | 31 => ("TileWardenModel", "traces", "I", false)
  | 32 => ("TileWardenModel", "kept", "I", false)
  | 33 => ("TileWardenModel", "room", "I", false)
  | 34 => ("TileWardenModel", "clock", "I", false)
  | 35 => ("TileWardenModel", "limit", "I", false)
  | 36 => ("TileWardenModel", "drawnZ", "I", false)
  | 37 => ("TileWardenModel", "gained", "I", false)
  | 38 => ("TileWardenModel", "hits", "I", false)
  | 39 => ("TileWardenModel", "misses", "I", false)
  | 40 => ("TileWardenModel", "foundHint", "I", false)
  | 41 => ("TileWardenModel", "soldHits", "I", false)
  | 42 => ("TileWardenModel", "soldMisses", "I", false)
  | 43 => ("TileWardenModel", "sold", "I", false)
  | 44 => ("TileWardenModel", "soldPrices", "J", false)
  | _ => ("TileWardenModel", "refunds", "J", false)
def tyX8 : Nat → FieldType := fun k => match k with
  | 0 => .array .int
  | 1 => .array .long
  | 2 => .array .int
  | 3 => .array .int
  | 4 => .array .int
  | 5 => .array .int
  | 6 => .array .int
  | 7 => .array .int
  | 8 => .array .int
  | 9 => .array .boolean
  | 10 => .array .long
  | 11 => .array .int
  | 12 => .array .int
  | 13 => .array .int
  | 14 => .array .long
  | 15 => .array .int
  | 16 => .array .int
  | 17 => .array .int
  | 18 => .array .int
  | 19 => .array .int
  | 20 => .array .int
  | 21 => .array .long
  | 22 => .array .int
  | 23 => .array .int
  | 24 => .array .int
  | 25 => .array .int
  | 26 => .array .int
  | 27 => .array .int
  | 28 => .int
  | 29 => .int
  | 30 => .int
  | 31 => .int
  | 32 => .int
  | 33 => .int
  | 34 => .int
  | 35 => .int
  | 36 => .int
  | 37 => .int
  | 38 => .int
  | 39 => .int
  | 40 => .int
  | 41 => .int
  | 42 => .int
  | 43 => .int
  | 44 => .long
  | _ => .long
theorem nmX8 : ∀ a, a < 46 → ∀ b, b < 46 → a ≠ b → (TX8 a).2.1 ≠ (TX8 b).2.1 := by decide +kernel
theorem tyX8_ok : ∀ k, k < 46 → parseFieldDescriptor (TX8 k).2.2.1 = some (tyX8 k) := by decide +kernel
abbrev cX8_init : ByteArray := prog_10_method_1_code
abbrev yX8_init : MethodName := ⟨RX8, "<init>", "()V"⟩
abbrev cX8_thrown : ByteArray := prog_10_method_2_code
abbrev yX8_thrown : MethodName := ⟨RX8, "thrown", "()I"⟩
abbrev cX8_refuse : ByteArray := prog_10_method_3_code
abbrev yX8_refuse : MethodName := ⟨RX8, "refuse", "(I)I"⟩
abbrev cX8_no : ByteArray := prog_10_method_4_code
abbrev yX8_no : MethodName := ⟨RX8, "no", "(ZI)Z"⟩
abbrev cX8_noGame : ByteArray := prog_10_method_5_code
abbrev yX8_noGame : MethodName := ⟨RX8, "noGame", "(I)Z"⟩
abbrev cX8_tile : ByteArray := prog_10_method_6_code
abbrev yX8_tile : MethodName := ⟨RX8, "tile", "(JI)I"⟩
abbrev cX8_cellOf : ByteArray := prog_10_method_7_code
abbrev yX8_cellOf : MethodName := ⟨RX8, "cellOf", "(III)I"⟩
abbrev cX8_pushed : ByteArray := prog_10_method_8_code
abbrev yX8_pushed : MethodName := ⟨RX8, "pushed", "(JI)J"⟩
abbrev cX8_next : ByteArray := prog_10_method_9_code
abbrev yX8_next : MethodName := ⟨RX8, "next", "(I)I"⟩
abbrev cX8_drawn : ByteArray := prog_10_method_10_code
abbrev yX8_drawn : MethodName := ⟨RX8, "drawn", "(JI)J"⟩
abbrev cX8_can : ByteArray := prog_10_method_11_code
abbrev yX8_can : MethodName := ⟨RX8, "can", "(JI)Z"⟩
abbrev cX8_over : ByteArray := prog_10_method_12_code
abbrev yX8_over : MethodName := ⟨RX8, "over", "(J)Z"⟩
abbrev cX8_addPlayer : ByteArray := prog_10_method_13_code
abbrev yX8_addPlayer : MethodName := ⟨RX8, "addPlayer", "(I)I"⟩
abbrev cX8_open : ByteArray := prog_10_method_14_code
abbrev yX8_open : MethodName := ⟨RX8, "open", "(II)I"⟩
abbrev cX8_push : ByteArray := prog_10_method_15_code
abbrev yX8_push : MethodName := ⟨RX8, "push", "(II)I"⟩
abbrev cX8_led : ByteArray := prog_10_method_16_code
abbrev yX8_led : MethodName := ⟨RX8, "led", "(JIII)Z"⟩
abbrev cX8_at : ByteArray := prog_10_method_17_code
abbrev yX8_at : MethodName := ⟨RX8, "at", "(III)I"⟩
abbrev cX8_score : ByteArray := prog_10_method_18_code
abbrev yX8_score : MethodName := ⟨RX8, "score", "(I)I"⟩
abbrev cX8_pushes : ByteArray := prog_10_method_19_code
abbrev yX8_pushes : MethodName := ⟨RX8, "pushes", "(I)I"⟩
abbrev cX8_canPush : ByteArray := prog_10_method_20_code
abbrev yX8_canPush : MethodName := ⟨RX8, "canPush", "(II)Z"⟩
abbrev cX8_isOver : ByteArray := prog_10_method_21_code
abbrev yX8_isOver : MethodName := ⟨RX8, "isOver", "(I)Z"⟩
abbrev cX8_find : ByteArray := prog_10_method_22_code
abbrev yX8_find : MethodName := ⟨RX8, "find", "(JII)I"⟩
abbrev cX8_oldest : ByteArray := prog_10_method_23_code
abbrev yX8_oldest : MethodName := ⟨RX8, "oldest", "()I"⟩
abbrev cX8_drop : ByteArray := prog_10_method_24_code
abbrev yX8_drop : MethodName := ⟨RX8, "drop", "(I)V"⟩
abbrev cX8_keep : ByteArray := prog_10_method_25_code
abbrev yX8_keep : MethodName := ⟨RX8, "keep", "(I)V"⟩
abbrev cX8_worthOf : ByteArray := prog_10_method_26_code
abbrev yX8_worthOf : MethodName := ⟨RX8, "worthOf", "(JIIZ)I"⟩
abbrev cX8_noHint : ByteArray := prog_10_method_27_code
abbrev yX8_noHint : MethodName := ⟨RX8, "noHint", "(II)Z"⟩
abbrev cX8_priceOf : ByteArray := prog_10_method_28_code
abbrev yX8_priceOf : MethodName := ⟨RX8, "priceOf", "(II)I"⟩
abbrev cX8_price : ByteArray := prog_10_method_29_code
abbrev yX8_price : MethodName := ⟨RX8, "price", "(II)I"⟩
abbrev cX8_hint : ByteArray := prog_10_method_30_code
abbrev yX8_hint : MethodName := ⟨RX8, "hint", "(II)I"⟩
abbrev cX8_worth : ByteArray := prog_10_method_31_code
abbrev yX8_worth : MethodName := ⟨RX8, "worth", "(II)I"⟩
abbrev cX8_money : ByteArray := prog_10_method_32_code
abbrev yX8_money : MethodName := ⟨RX8, "money", "(I)I"⟩
abbrev cX8_pins : ByteArray := prog_10_method_33_code
abbrev yX8_pins : MethodName := ⟨RX8, "pins", "()I"⟩
abbrev cX8_setRoom : ByteArray := prog_10_method_34_code
abbrev yX8_setRoom : MethodName := ⟨RX8, "setRoom", "(I)I"⟩
abbrev cX8_entries : ByteArray := prog_10_method_35_code
abbrev yX8_entries : MethodName := ⟨RX8, "entries", "()I"⟩
abbrev cX8_noDepth : ByteArray := prog_10_method_36_code
abbrev yX8_noDepth : MethodName := ⟨RX8, "noDepth", "(II)Z"⟩
abbrev cX8_isCached : ByteArray := prog_10_method_37_code
abbrev yX8_isCached : MethodName := ⟨RX8, "isCached", "(II)Z"⟩
abbrev cX8_pinsOf : ByteArray := prog_10_method_38_code
abbrev yX8_pinsOf : MethodName := ⟨RX8, "pinsOf", "(I)I"⟩
abbrev cX8_pin : ByteArray := prog_10_method_39_code
abbrev yX8_pin : MethodName := ⟨RX8, "pin", "(II)I"⟩
abbrev cX8_unpins : ByteArray := prog_10_method_40_code
abbrev yX8_unpins : MethodName := ⟨RX8, "unpins", "(I)I"⟩
abbrev cX8_unpin : ByteArray := prog_10_method_41_code
abbrev yX8_unpin : MethodName := ⟨RX8, "unpin", "(I)I"⟩
abbrev cX8_pinned : ByteArray := prog_10_method_42_code
abbrev yX8_pinned : MethodName := ⟨RX8, "pinned", "()I"⟩
abbrev cX8_follows : ByteArray := prog_10_method_43_code
abbrev yX8_follows : MethodName := ⟨RX8, "follows", "(I)I"⟩
abbrev cX8_setLimit : ByteArray := prog_10_method_44_code
abbrev yX8_setLimit : MethodName := ⟨RX8, "setLimit", "(I)I"⟩
abbrev cX8_judge : ByteArray := prog_10_method_45_code
abbrev yX8_judge : MethodName := ⟨RX8, "judge", "(I)I"⟩
abbrev cX8_isVoid : ByteArray := prog_10_method_46_code
abbrev yX8_isVoid : MethodName := ⟨RX8, "isVoid", "(I)Z"⟩
abbrev cX8_traces : ByteArray := prog_10_method_47_code
abbrev yX8_traces : MethodName := ⟨RX8, "traces", "()I"⟩
abbrev cX8_noTrace : ByteArray := prog_10_method_48_code
abbrev yX8_noTrace : MethodName := ⟨RX8, "noTrace", "(I)Z"⟩
abbrev cX8_playerOf : ByteArray := prog_10_method_49_code
abbrev yX8_playerOf : MethodName := ⟨RX8, "playerOf", "(I)I"⟩
abbrev cX8_pushOf : ByteArray := prog_10_method_50_code
abbrev yX8_pushOf : MethodName := ⟨RX8, "pushOf", "(I)I"⟩
abbrev cX8_refunds : ByteArray := prog_10_method_51_code
abbrev yX8_refunds : MethodName := ⟨RX8, "refunds", "()J"⟩
abbrev cX8_hitShare : ByteArray := prog_10_method_52_code
abbrev yX8_hitShare : MethodName := ⟨RX8, "hitShare", "()F"⟩
abbrev cX8_meanPrice : ByteArray := prog_10_method_53_code
abbrev yX8_meanPrice : MethodName := ⟨RX8, "meanPrice", "()D"⟩
abbrev cX8_isSound : ByteArray := prog_10_method_54_code
abbrev yX8_isSound : MethodName := ⟨RX8, "isSound", "()Z"⟩
abbrev RJx145de : String := "java/io/Serializable"
def TJx145de : u_T := fun k => match k with
  | _ => ("", "", "", false)
def tyJx145de : Nat → FieldType := fun k => match k with
  | _ => .int
theorem nmJx145de : ∀ a, a < 0 → ∀ b, b < 0 → a ≠ b → (TJx145de a).2.1 ≠ (TJx145de b).2.1 := by decide +kernel
theorem tyJx145de_ok : ∀ k, k < 0 → parseFieldDescriptor (TJx145de k).2.2.1 = some (tyJx145de k) := by decide +kernel
abbrev RJx00060 : String := "java/lang/ArrayIndexOutOfBoundsException"
def TJx00060 : u_T := fun k => match k with
  | 0 => ("java/lang/Throwable", "backtrace", "Ljava/lang/Object;", false)
  | 1 => ("java/lang/Throwable", "detailMessage", "Ljava/lang/String;", false)
  | 2 => ("java/lang/Throwable", "cause", "Ljava/lang/Throwable;", false)
  | 3 => ("java/lang/Throwable", "stackTrace", "[Ljava/lang/StackTraceElement;", false)
  | 4 => ("java/lang/Throwable", "depth", "I", false)
  | _ => ("java/lang/Throwable", "suppressedExceptions", "Ljava/util/List;", false)
def tyJx00060 : Nat → FieldType := fun k => match k with
  | 0 => .object "java/lang/Object"
  | 1 => .object "java/lang/String"
  | 2 => .object "java/lang/Throwable"
  | 3 => .array (.object "java/lang/StackTraceElement")
  | 4 => .int
  | _ => .object "java/util/List"
theorem nmJx00060 : ∀ a, a < 6 → ∀ b, b < 6 → a ≠ b → (TJx00060 a).2.1 ≠ (TJx00060 b).2.1 := by decide +kernel
theorem tyJx00060_ok : ∀ k, k < 6 → parseFieldDescriptor (TJx00060 k).2.2.1 = some (tyJx00060 k) := by decide +kernel
abbrev cJx00060_init_a7421 : ByteArray := prog_13_method_2_code
abbrev yJx00060_init_a7421 : MethodName := ⟨RJx00060, "<init>", "(Ljava/lang/String;)V"⟩
abbrev RJx8e188 : String := "java/lang/Cloneable"
def TJx8e188 : u_T := fun k => match k with
  | _ => ("", "", "", false)
def tyJx8e188 : Nat → FieldType := fun k => match k with
  | _ => .int
theorem nmJx8e188 : ∀ a, a < 0 → ∀ b, b < 0 → a ≠ b → (TJx8e188 a).2.1 ≠ (TJx8e188 b).2.1 := by decide +kernel
theorem tyJx8e188_ok : ∀ k, k < 0 → parseFieldDescriptor (TJx8e188 k).2.2.1 = some (tyJx8e188 k) := by decide +kernel
abbrev RJxab1ab : String := "java/lang/Iterable"
def TJxab1ab : u_T := fun k => match k with
  | _ => ("", "", "", false)
def tyJxab1ab : Nat → FieldType := fun k => match k with
  | _ => .int
theorem nmJxab1ab : ∀ a, a < 0 → ∀ b, b < 0 → a ≠ b → (TJxab1ab a).2.1 ≠ (TJxab1ab b).2.1 := by decide +kernel
theorem tyJxab1ab_ok : ∀ k, k < 0 → parseFieldDescriptor (TJxab1ab k).2.2.1 = some (tyJxab1ab k) := by decide +kernel
abbrev RJ9 : String := "java/lang/Math"
def TJ9 : u_T := fun k => match k with
  | _ => ("", "", "", false)
def tyJ9 : Nat → FieldType := fun k => match k with
  | _ => .int
theorem nmJ9 : ∀ a, a < 0 → ∀ b, b < 0 → a ≠ b → (TJ9 a).2.1 ≠ (TJ9 b).2.1 := by decide +kernel
theorem tyJ9_ok : ∀ k, k < 0 → parseFieldDescriptor (TJ9 k).2.2.1 = some (tyJ9 k) := by decide +kernel
abbrev cJ9_max_7cf53 : ByteArray := prog_20_method_65_code
abbrev yJ9_max_7cf53 : MethodName := ⟨RJ9, "max", "(II)I"⟩
abbrev cJ9_min_7cf53 : ByteArray := prog_20_method_69_code
abbrev yJ9_min_7cf53 : MethodName := ⟨RJ9, "min", "(II)I"⟩
abbrev RJ0 : String := "java/lang/String"
def TJ0 : u_T := fun k => match k with
  | 0 => ("java/lang/String", "value", "[B", true)
  | _ => ("java/lang/String", "coder", "B", true)
def tyJ0 : Nat → FieldType := fun k => match k with
  | 0 => .array .byte
  | _ => .byte
theorem nmJ0 : ∀ a, a < 2 → ∀ b, b < 2 → a ≠ b → (TJ0 a).2.1 ≠ (TJ0 b).2.1 := by decide +kernel
theorem tyJ0_ok : ∀ k, k < 2 → parseFieldDescriptor (TJ0 k).2.2.1 = some (tyJ0 k) := by decide +kernel
abbrev RJ10 : String := "java/lang/System"
def TJ10 : u_T := fun k => match k with
  | _ => ("", "", "", false)
def tyJ10 : Nat → FieldType := fun k => match k with
  | _ => .int
theorem nmJ10 : ∀ a, a < 0 → ∀ b, b < 0 → a ≠ b → (TJ10 a).2.1 ≠ (TJ10 b).2.1 := by decide +kernel
theorem tyJ10_ok : ∀ k, k < 0 → parseFieldDescriptor (TJ10 k).2.2.1 = some (tyJ10 k) := by decide +kernel
abbrev RJxa1e45 : String := "java/util/AbstractCollection"
def TJxa1e45 : u_T := fun k => match k with
  | _ => ("", "", "", false)
def tyJxa1e45 : Nat → FieldType := fun k => match k with
  | _ => .int
theorem nmJxa1e45 : ∀ a, a < 0 → ∀ b, b < 0 → a ≠ b → (TJxa1e45 a).2.1 ≠ (TJxa1e45 b).2.1 := by decide +kernel
theorem tyJxa1e45_ok : ∀ k, k < 0 → parseFieldDescriptor (TJxa1e45 k).2.2.1 = some (tyJxa1e45 k) := by decide +kernel
abbrev cJxa1e45_init_da8c8 : ByteArray := prog_26_method_1_code
abbrev yJxa1e45_init_da8c8 : MethodName := ⟨RJxa1e45, "<init>", "()V"⟩
abbrev RJxc12de : String := "java/util/AbstractList"
def TJxc12de : u_T := fun k => match k with
  | _ => ("", "", "", false)
def tyJxc12de : Nat → FieldType := fun k => match k with
  | _ => .int
theorem nmJxc12de : ∀ a, a < 0 → ∀ b, b < 0 → a ≠ b → (TJxc12de a).2.1 ≠ (TJxc12de b).2.1 := by decide +kernel
theorem tyJxc12de_ok : ∀ k, k < 0 → parseFieldDescriptor (TJxc12de k).2.2.1 = some (tyJxc12de k) := by decide +kernel
abbrev cJxc12de_init_da8c8 : ByteArray := prog_27_method_1_code
abbrev yJxc12de_init_da8c8 : MethodName := ⟨RJxc12de, "<init>", "()V"⟩
abbrev RJx4a65c : String := "java/util/ArrayList"
def TJx4a65c : u_T := fun k => match k with
  | 0 => ("java/util/AbstractList", "modCount", "I", false)
  | 1 => ("java/util/ArrayList", "elementData", "[Ljava/lang/Object;", false)
  | _ => ("java/util/ArrayList", "size", "I", false)
def tyJx4a65c : Nat → FieldType := fun k => match k with
  | 0 => .int
  | 1 => .array (.object "java/lang/Object")
  | _ => .int
theorem nmJx4a65c : ∀ a, a < 3 → ∀ b, b < 3 → a ≠ b → (TJx4a65c a).2.1 ≠ (TJx4a65c b).2.1 := by decide +kernel
theorem tyJx4a65c_ok : ∀ k, k < 3 → parseFieldDescriptor (TJx4a65c k).2.2.1 = some (tyJx4a65c k) := by decide +kernel
abbrev cJx4a65c_init_da8c8 : ByteArray := prog_28_method_2_code
abbrev yJx4a65c_init_da8c8 : MethodName := ⟨RJx4a65c, "<init>", "()V"⟩
abbrev cJx4a65c_grow_92f84 : ByteArray := prog_28_method_6_code
abbrev yJx4a65c_grow_92f84 : MethodName := ⟨RJx4a65c, "grow", "(I)[Ljava/lang/Object;"⟩
abbrev cJx4a65c_grow_d5877 : ByteArray := prog_28_method_7_code
abbrev yJx4a65c_grow_d5877 : MethodName := ⟨RJx4a65c, "grow", "()[Ljava/lang/Object;"⟩
abbrev cJx4a65c_size_8abf5 : ByteArray := prog_28_method_8_code
abbrev yJx4a65c_size_8abf5 : MethodName := ⟨RJx4a65c, "size", "()I"⟩
abbrev cJx4a65c_elementData_915e3 : ByteArray := prog_28_method_18_code
abbrev yJx4a65c_elementData_915e3 : MethodName := ⟨RJx4a65c, "elementData", "(I)Ljava/lang/Object;"⟩
abbrev cJx4a65c_get_915e3 : ByteArray := prog_28_method_20_code
abbrev yJx4a65c_get_915e3 : MethodName := ⟨RJx4a65c, "get", "(I)Ljava/lang/Object;"⟩
abbrev cJx4a65c_add_72be8 : ByteArray := prog_28_method_24_code
abbrev yJx4a65c_add_72be8 : MethodName := ⟨RJx4a65c, "add", "(Ljava/lang/Object;[Ljava/lang/Object;I)V"⟩
abbrev cJx4a65c_add_9ea2d : ByteArray := prog_28_method_25_code
abbrev yJx4a65c_add_9ea2d : MethodName := ⟨RJx4a65c, "add", "(Ljava/lang/Object;)Z"⟩
abbrev RJ7 : String := "java/util/Arrays"
def TJ7 : u_T := fun k => match k with
  | _ => ("", "", "", false)
def tyJ7 : Nat → FieldType := fun k => match k with
  | _ => .int
theorem nmJ7 : ∀ a, a < 0 → ∀ b, b < 0 → a ≠ b → (TJ7 a).2.1 ≠ (TJ7 b).2.1 := by decide +kernel
theorem tyJ7_ok : ∀ k, k < 0 → parseFieldDescriptor (TJ7 k).2.2.1 = some (tyJ7 k) := by decide +kernel
abbrev cJ7_copyOf_1904c : ByteArray := prog_29_method_119_code
abbrev yJ7_copyOf_1904c : MethodName := ⟨RJ7, "copyOf", "([Ljava/lang/Object;I)[Ljava/lang/Object;"⟩
abbrev cJ7_copyOf_6403c : ByteArray := prog_29_method_120_code
abbrev yJ7_copyOf_6403c : MethodName := ⟨RJ7, "copyOf", "([Ljava/lang/Object;ILjava/lang/Class;)[Ljava/lang/Object;"⟩
abbrev RJx5ef63 : String := "java/util/Collection"
def TJx5ef63 : u_T := fun k => match k with
  | _ => ("", "", "", false)
def tyJx5ef63 : Nat → FieldType := fun k => match k with
  | _ => .int
theorem nmJx5ef63 : ∀ a, a < 0 → ∀ b, b < 0 → a ≠ b → (TJx5ef63 a).2.1 ≠ (TJx5ef63 b).2.1 := by decide +kernel
theorem tyJx5ef63_ok : ∀ k, k < 0 → parseFieldDescriptor (TJx5ef63 k).2.2.1 = some (tyJx5ef63 k) := by decide +kernel
abbrev RJxbd725 : String := "java/util/List"
def TJxbd725 : u_T := fun k => match k with
  | _ => ("", "", "", false)
def tyJxbd725 : Nat → FieldType := fun k => match k with
  | _ => .int
theorem nmJxbd725 : ∀ a, a < 0 → ∀ b, b < 0 → a ≠ b → (TJxbd725 a).2.1 ≠ (TJxbd725 b).2.1 := by decide +kernel
theorem tyJxbd725_ok : ∀ k, k < 0 → parseFieldDescriptor (TJxbd725 k).2.2.1 = some (tyJxbd725 k) := by decide +kernel
abbrev RJ15 : String := "java/util/Objects"
def TJ15 : u_T := fun k => match k with
  | _ => ("", "", "", false)
def tyJ15 : Nat → FieldType := fun k => match k with
  | _ => .int
theorem nmJ15 : ∀ a, a < 0 → ∀ b, b < 0 → a ≠ b → (TJ15 a).2.1 ≠ (TJ15 b).2.1 := by decide +kernel
theorem tyJ15_ok : ∀ k, k < 0 → parseFieldDescriptor (TJ15 k).2.2.1 = some (tyJ15 k) := by decide +kernel
abbrev cJ15_checkIndex_7cf53 : ByteArray := prog_33_method_17_code
abbrev yJ15_checkIndex_7cf53 : MethodName := ⟨RJ15, "checkIndex", "(II)I"⟩
abbrev RJxf0a74 : String := "java/util/RandomAccess"
def TJxf0a74 : u_T := fun k => match k with
  | _ => ("", "", "", false)
def tyJxf0a74 : Nat → FieldType := fun k => match k with
  | _ => .int
theorem nmJxf0a74 : ∀ a, a < 0 → ∀ b, b < 0 → a ≠ b → (TJxf0a74 a).2.1 ≠ (TJxf0a74 b).2.1 := by decide +kernel
theorem tyJxf0a74_ok : ∀ k, k < 0 → parseFieldDescriptor (TJxf0a74 k).2.2.1 = some (tyJxf0a74 k) := by decide +kernel
abbrev RJxa66e6 : String := "java/util/SequencedCollection"
def TJxa66e6 : u_T := fun k => match k with
  | _ => ("", "", "", false)
def tyJxa66e6 : Nat → FieldType := fun k => match k with
  | _ => .int
theorem nmJxa66e6 : ∀ a, a < 0 → ∀ b, b < 0 → a ≠ b → (TJxa66e6 a).2.1 ≠ (TJxa66e6 b).2.1 := by decide +kernel
theorem tyJxa66e6_ok : ∀ k, k < 0 → parseFieldDescriptor (TJxa66e6 k).2.2.1 = some (tyJxa66e6 k) := by decide +kernel
abbrev RJ8 : String := "jdk/internal/util/ArraysSupport"
def TJ8 : u_T := fun k => match k with
  | _ => ("", "", "", false)
def tyJ8 : Nat → FieldType := fun k => match k with
  | _ => .int
theorem nmJ8 : ∀ a, a < 0 → ∀ b, b < 0 → a ≠ b → (TJ8 a).2.1 ≠ (TJ8 b).2.1 := by decide +kernel
theorem tyJ8_ok : ∀ k, k < 0 → parseFieldDescriptor (TJ8 k).2.2.1 = some (tyJ8 k) := by decide +kernel
abbrev cJ8_newLength_cabcc : ByteArray := prog_36_method_27_code
abbrev yJ8_newLength_cabcc : MethodName := ⟨RJ8, "newLength", "(III)I"⟩
abbrev cJ8_hugeLength_7cf53 : ByteArray := prog_36_method_28_code
abbrev yJ8_hugeLength_7cf53 : MethodName := ⟨RJ8, "hugeLength", "(II)I"⟩
abbrev RJ3 : String := "jdk/internal/util/Preconditions"
def TJ3 : u_T := fun k => match k with
  | _ => ("", "", "", false)
def tyJ3 : Nat → FieldType := fun k => match k with
  | _ => .int
theorem nmJ3 : ∀ a, a < 0 → ∀ b, b < 0 → a ≠ b → (TJ3 a).2.1 ≠ (TJ3 b).2.1 := by decide +kernel
theorem tyJ3_ok : ∀ k, k < 0 → parseFieldDescriptor (TJ3 k).2.2.1 = some (tyJ3 k) := by decide +kernel
abbrev cJ3_checkIndex_8e157 : ByteArray := prog_37_method_11_code
abbrev yJ3_checkIndex_8e157 : MethodName := ⟨RJ3, "checkIndex", "(IILjava/util/function/BiFunction;)I"⟩
abbrev RL : String := "TileWardenLaw"
abbrev cL_addPlayer : ByteArray := method_3_code
abbrev yL_addPlayer : MethodName := ⟨RL, "addPlayer", "(LTileWarden;I[J)I"⟩
abbrev cL_open : ByteArray := method_4_code
abbrev yL_open : MethodName := ⟨RL, "open", "(LTileWarden;II[J)I"⟩
abbrev cL_push : ByteArray := method_5_code
abbrev yL_push : MethodName := ⟨RL, "push", "(LTileWarden;II[J)I"⟩
abbrev cL_at : ByteArray := method_6_code
abbrev yL_at : MethodName := ⟨RL, "at", "(LTileWarden;III[J)I"⟩
abbrev cL_score : ByteArray := method_7_code
abbrev yL_score : MethodName := ⟨RL, "score", "(LTileWarden;I[J)I"⟩
abbrev cL_pushes : ByteArray := method_8_code
abbrev yL_pushes : MethodName := ⟨RL, "pushes", "(LTileWarden;I[J)I"⟩
abbrev cL_canPush : ByteArray := method_9_code
abbrev yL_canPush : MethodName := ⟨RL, "canPush", "(LTileWarden;II[J)I"⟩
abbrev cL_isOver : ByteArray := method_10_code
abbrev yL_isOver : MethodName := ⟨RL, "isOver", "(LTileWarden;I[J)I"⟩
abbrev cL_price : ByteArray := method_11_code
abbrev yL_price : MethodName := ⟨RL, "price", "(LTileWarden;II[J)I"⟩
abbrev cL_hint : ByteArray := method_12_code
abbrev yL_hint : MethodName := ⟨RL, "hint", "(LTileWarden;II[J)I"⟩
abbrev cL_worth : ByteArray := method_13_code
abbrev yL_worth : MethodName := ⟨RL, "worth", "(LTileWarden;II[J)I"⟩
abbrev cL_money : ByteArray := method_14_code
abbrev yL_money : MethodName := ⟨RL, "money", "(LTileWarden;I[J)I"⟩
abbrev cL_setRoom : ByteArray := method_15_code
abbrev yL_setRoom : MethodName := ⟨RL, "setRoom", "(LTileWarden;I[J)I"⟩
abbrev cL_isCached : ByteArray := method_16_code
abbrev yL_isCached : MethodName := ⟨RL, "isCached", "(LTileWarden;II[J)I"⟩
abbrev cL_pin : ByteArray := method_17_code
abbrev yL_pin : MethodName := ⟨RL, "pin", "(LTileWarden;II[J)I"⟩
abbrev cL_unpin : ByteArray := method_18_code
abbrev yL_unpin : MethodName := ⟨RL, "unpin", "(LTileWarden;I[J)I"⟩
abbrev cL_follows : ByteArray := method_19_code
abbrev yL_follows : MethodName := ⟨RL, "follows", "(LTileWarden;I[J)I"⟩
abbrev cL_setLimit : ByteArray := method_20_code
abbrev yL_setLimit : MethodName := ⟨RL, "setLimit", "(LTileWarden;I[J)I"⟩
abbrev cL_judge : ByteArray := method_21_code
abbrev yL_judge : MethodName := ⟨RL, "judge", "(LTileWarden;I[J)I"⟩
abbrev cL_isVoid : ByteArray := method_22_code
abbrev yL_isVoid : MethodName := ⟨RL, "isVoid", "(LTileWarden;I[J)I"⟩
abbrev cL_playerOf : ByteArray := method_23_code
abbrev yL_playerOf : MethodName := ⟨RL, "playerOf", "(LTileWarden;I[J)I"⟩
abbrev cL_pushOf : ByteArray := method_24_code
abbrev yL_pushOf : MethodName := ⟨RL, "pushOf", "(LTileWarden;I[J)I"⟩
abbrev cL_hitShare : ByteArray := method_25_code
abbrev yL_hitShare : MethodName := ⟨RL, "hitShare", "(LTileWarden;[D)I"⟩
abbrev cL_meanPrice : ByteArray := method_26_code
abbrev yL_meanPrice : MethodName := ⟨RL, "meanPrice", "(LTileWarden;[D)I"⟩
abbrev cL_law : ByteArray := code
abbrev yL_law : MethodName := ⟨RL, "law", "([I)Z"⟩
def lwG : List Cond := lw_tbl.filter goodWord
theorem lwG_good {w : Cond} (h : w ∈ lwG) : goodWord w = true := (List.mem_filter.mp h).2
theorem lwG_tbl {w : Cond} (h : w ∈ lwG) : w ∈ lw_tbl := (List.mem_filter.mp h).1
theorem lwG_of {w : Cond} (h : w ∈ tables_1) (hg : goodWord w = true) : w ∈ lwG := List.mem_filter.mpr ⟨List.mem_append_right _ h, hg⟩
theorem lwG_0 (i : Nat) {w : Cond} (h : (k2_sels lw_privs)[i]? = some w) (hg : goodWord w = true) : w ∈ lwG := List.mem_filter.mpr ⟨List.mem_append_left _ (List.mem_of_getElem? h), hg⟩
theorem lwT_1 (i : Nat) {w : Cond} (h : tables_1_1[i]? = some w) : w ∈ tables_1 := List.mem_append_left _ (List.mem_of_getElem? h)
theorem lwG_1 (i : Nat) {w : Cond} (h : tables_1_1[i]? = some w) (hg : goodWord w = true) : w ∈ lwG := lwG_of (lwT_1 i h) hg
theorem lwT_2 (i : Nat) {w : Cond} (h : tables_1_2[i]? = some w) : w ∈ tables_1 := List.mem_append_right _ (List.mem_append_left _ (List.mem_of_getElem? h))
theorem lwG_2 (i : Nat) {w : Cond} (h : tables_1_2[i]? = some w) (hg : goodWord w = true) : w ∈ lwG := lwG_of (lwT_2 i h) hg
theorem lwT_3 (i : Nat) {w : Cond} (h : tables_1_3[i]? = some w) : w ∈ tables_1 := List.mem_append_right _ (List.mem_append_right _ (List.mem_append_left _ (List.mem_of_getElem? h)))
theorem lwG_3 (i : Nat) {w : Cond} (h : tables_1_3[i]? = some w) (hg : goodWord w = true) : w ∈ lwG := lwG_of (lwT_3 i h) hg
theorem lwT_4 (i : Nat) {w : Cond} (h : tables_1_4[i]? = some w) : w ∈ tables_1 := List.mem_append_right _ (List.mem_append_right _ (List.mem_append_right _ (List.mem_append_left _ (List.mem_of_getElem? h))))
theorem lwG_4 (i : Nat) {w : Cond} (h : tables_1_4[i]? = some w) (hg : goodWord w = true) : w ∈ lwG := lwG_of (lwT_4 i h) hg
theorem lwT_5 (i : Nat) {w : Cond} (h : tables_1_5[i]? = some w) : w ∈ tables_1 := List.mem_append_right _ (List.mem_append_right _ (List.mem_append_right _ (List.mem_append_right _ (List.mem_append_left _ (List.mem_of_getElem? h)))))
theorem lwG_5 (i : Nat) {w : Cond} (h : tables_1_5[i]? = some w) (hg : goodWord w = true) : w ∈ lwG := lwG_of (lwT_5 i h) hg
theorem lwT_6 (i : Nat) {w : Cond} (h : tables_1_6[i]? = some w) : w ∈ tables_1 := List.mem_append_right _ (List.mem_append_right _ (List.mem_append_right _ (List.mem_append_right _ (List.mem_append_right _ (List.mem_of_getElem? h)))))
theorem lwG_6 (i : Nat) {w : Cond} (h : tables_1_6[i]? = some w) (hg : goodWord w = true) : w ∈ lwG := lwG_of (lwT_6 i h) hg
theorem q0_0 : (Cond.selects "TileWarden" ⟨"TileWarden", "areEntriesRight", "()Z"⟩ ⟨"TileWarden", "areEntriesRight", "()Z"⟩) ∈ lwG := lwG_0 0 (by decide +kernel) (by decide +kernel)
theorem q0_1 : (Cond.selects "TileWarden" ⟨"TileWarden", "isFoundPlainly", "(LTileWarden$Entry;)Z"⟩ ⟨"TileWarden", "isFoundPlainly", "(LTileWarden$Entry;)Z"⟩) ∈ lwG := lwG_0 1 (by decide +kernel) (by decide +kernel)
theorem q0_2 : (Cond.selects "TileWarden$Cache" ⟨"TileWarden$Cache", "dropOldest", "()V"⟩ ⟨"TileWarden$Cache", "dropOldest", "()V"⟩) ∈ lwG := lwG_0 2 (by decide +kernel) (by decide +kernel)
theorem q0_3 : (Cond.selects "TileWarden$Cache" ⟨"TileWarden$Cache", "findFree", "()LTileWarden$Entry;"⟩ ⟨"TileWarden$Cache", "findFree", "()LTileWarden$Entry;"⟩) ∈ lwG := lwG_0 3 (by decide +kernel) (by decide +kernel)
theorem q0_4 : (Cond.selects "TileWarden" ⟨"TileWarden", "areRefundsRight", "()Z"⟩ ⟨"TileWarden", "areRefundsRight", "()Z"⟩) ∈ lwG := lwG_0 4 (by decide +kernel) (by decide +kernel)
theorem q0_5 : (Cond.selects "TileWarden" ⟨"TileWarden", "arePursesRight", "()Z"⟩ ⟨"TileWarden", "arePursesRight", "()Z"⟩) ∈ lwG := lwG_0 5 (by decide +kernel) (by decide +kernel)
theorem q0_6 : (Cond.selects "TileWarden" ⟨"TileWarden", "paidForGood", "(LTileWarden$Player;)I"⟩ ⟨"TileWarden", "paidForGood", "(LTileWarden$Player;)I"⟩) ∈ lwG := lwG_0 6 (by decide +kernel) (by decide +kernel)
theorem q0_7 : (Cond.selects "java/lang/Throwable" ⟨"java/lang/Throwable", "fillInStackTrace", "(I)Ljava/lang/Throwable;"⟩ ⟨"java/lang/Throwable", "fillInStackTrace", "(I)Ljava/lang/Throwable;"⟩) ∈ lwG := lwG_0 7 (by decide +kernel) (by decide +kernel)
theorem q0_8 : (Cond.selects "java/util/ArrayList" ⟨"java/util/ArrayList", "add", "(Ljava/lang/Object;[Ljava/lang/Object;I)V"⟩ ⟨"java/util/ArrayList", "add", "(Ljava/lang/Object;[Ljava/lang/Object;I)V"⟩) ∈ lwG := lwG_0 8 (by decide +kernel) (by decide +kernel)
theorem q0_9 : (Cond.selects "java/util/ArrayList" ⟨"java/util/ArrayList", "grow", "()[Ljava/lang/Object;"⟩ ⟨"java/util/ArrayList", "grow", "()[Ljava/lang/Object;"⟩) ∈ lwG := lwG_0 9 (by decide +kernel) (by decide +kernel)
theorem q0_10 : (Cond.selects "java/util/ArrayList" ⟨"java/util/ArrayList", "grow", "(I)[Ljava/lang/Object;"⟩ ⟨"java/util/ArrayList", "grow", "(I)[Ljava/lang/Object;"⟩) ∈ lwG := lwG_0 10 (by decide +kernel) (by decide +kernel)
theorem q0_11 : (Cond.selects "TileWarden" ⟨"TileWarden", "findPlayer", "(I)LTileWarden$Player;"⟩ ⟨"TileWarden", "findPlayer", "(I)LTileWarden$Player;"⟩) ∈ lwG := lwG_0 11 (by decide +kernel) (by decide +kernel)
theorem q0_12 : (Cond.selects "TileWarden" ⟨"TileWarden", "findGame", "(I)LTileWarden$Game;"⟩ ⟨"TileWarden", "findGame", "(I)LTileWarden$Game;"⟩) ∈ lwG := lwG_0 12 (by decide +kernel) (by decide +kernel)
theorem q0_13 : (Cond.selects "TileWarden" ⟨"TileWarden", "isFollowing", "(LTileWarden$Game;I)Z"⟩ ⟨"TileWarden", "isFollowing", "(LTileWarden$Game;I)Z"⟩) ∈ lwG := lwG_0 13 (by decide +kernel) (by decide +kernel)
theorem q0_14 : (Cond.selects "TileWarden" ⟨"TileWarden", "tryHint", "(LTileWarden$Game;I)V"⟩ ⟨"TileWarden", "tryHint", "(LTileWarden$Game;I)V"⟩) ∈ lwG := lwG_0 14 (by decide +kernel) (by decide +kernel)
theorem q0_15 : (Cond.selects "TileWarden" ⟨"TileWarden", "sellTriedHint", "(LTileWarden$Game;)V"⟩ ⟨"TileWarden", "sellTriedHint", "(LTileWarden$Game;)V"⟩) ∈ lwG := lwG_0 15 (by decide +kernel) (by decide +kernel)
theorem q0_16 : (Cond.selects "TileWarden" ⟨"TileWarden", "findTrace", "(I)LTileWarden$Trace;"⟩ ⟨"TileWarden", "findTrace", "(I)LTileWarden$Trace;"⟩) ∈ lwG := lwG_0 16 (by decide +kernel) (by decide +kernel)
theorem q0_17 : (Cond.selects "TileWardenModel" ⟨"TileWardenModel", "no", "(ZI)Z"⟩ ⟨"TileWardenModel", "no", "(ZI)Z"⟩) ∈ lwG := lwG_0 17 (by decide +kernel) (by decide +kernel)
theorem q0_18 : (Cond.selects "TileWardenModel" ⟨"TileWardenModel", "drawn", "(JI)J"⟩ ⟨"TileWardenModel", "drawn", "(JI)J"⟩) ∈ lwG := lwG_0 18 (by decide +kernel) (by decide +kernel)
theorem q0_19 : (Cond.selects "TileWardenModel" ⟨"TileWardenModel", "noGame", "(I)Z"⟩ ⟨"TileWardenModel", "noGame", "(I)Z"⟩) ∈ lwG := lwG_0 19 (by decide +kernel) (by decide +kernel)
theorem q0_20 : (Cond.selects "TileWardenModel" ⟨"TileWardenModel", "can", "(JI)Z"⟩ ⟨"TileWardenModel", "can", "(JI)Z"⟩) ∈ lwG := lwG_0 20 (by decide +kernel) (by decide +kernel)
theorem q0_21 : (Cond.selects "TileWardenModel" ⟨"TileWardenModel", "pushed", "(JI)J"⟩ ⟨"TileWardenModel", "pushed", "(JI)J"⟩) ∈ lwG := lwG_0 21 (by decide +kernel) (by decide +kernel)
theorem q0_22 : (Cond.selects "TileWardenModel" ⟨"TileWardenModel", "led", "(JIII)Z"⟩ ⟨"TileWardenModel", "led", "(JIII)Z"⟩) ∈ lwG := lwG_0 22 (by decide +kernel) (by decide +kernel)
theorem q0_23 : (Cond.selects "TileWardenModel" ⟨"TileWardenModel", "over", "(J)Z"⟩ ⟨"TileWardenModel", "over", "(J)Z"⟩) ∈ lwG := lwG_0 23 (by decide +kernel) (by decide +kernel)
theorem q0_24 : (Cond.selects "TileWardenModel" ⟨"TileWardenModel", "noHint", "(II)Z"⟩ ⟨"TileWardenModel", "noHint", "(II)Z"⟩) ∈ lwG := lwG_0 24 (by decide +kernel) (by decide +kernel)
theorem q0_25 : (Cond.selects "TileWardenModel" ⟨"TileWardenModel", "priceOf", "(II)I"⟩ ⟨"TileWardenModel", "priceOf", "(II)I"⟩) ∈ lwG := lwG_0 25 (by decide +kernel) (by decide +kernel)
theorem q0_26 : (Cond.selects "TileWardenModel" ⟨"TileWardenModel", "worthOf", "(JIIZ)I"⟩ ⟨"TileWardenModel", "worthOf", "(JIIZ)I"⟩) ∈ lwG := lwG_0 26 (by decide +kernel) (by decide +kernel)
theorem q0_27 : (Cond.selects "TileWardenModel" ⟨"TileWardenModel", "find", "(JII)I"⟩ ⟨"TileWardenModel", "find", "(JII)I"⟩) ∈ lwG := lwG_0 27 (by decide +kernel) (by decide +kernel)
theorem q0_28 : (Cond.selects "TileWardenModel" ⟨"TileWardenModel", "keep", "(I)V"⟩ ⟨"TileWardenModel", "keep", "(I)V"⟩) ∈ lwG := lwG_0 28 (by decide +kernel) (by decide +kernel)
theorem q0_29 : (Cond.selects "TileWardenModel" ⟨"TileWardenModel", "oldest", "()I"⟩ ⟨"TileWardenModel", "oldest", "()I"⟩) ∈ lwG := lwG_0 29 (by decide +kernel) (by decide +kernel)
theorem q0_30 : (Cond.selects "TileWardenModel" ⟨"TileWardenModel", "drop", "(I)V"⟩ ⟨"TileWardenModel", "drop", "(I)V"⟩) ∈ lwG := lwG_0 30 (by decide +kernel) (by decide +kernel)
theorem q0_31 : (Cond.selects "TileWardenModel" ⟨"TileWardenModel", "pins", "()I"⟩ ⟨"TileWardenModel", "pins", "()I"⟩) ∈ lwG := lwG_0 31 (by decide +kernel) (by decide +kernel)
theorem q0_32 : (Cond.selects "TileWardenModel" ⟨"TileWardenModel", "noDepth", "(II)Z"⟩ ⟨"TileWardenModel", "noDepth", "(II)Z"⟩) ∈ lwG := lwG_0 32 (by decide +kernel) (by decide +kernel)
theorem q0_33 : (Cond.selects "TileWardenModel" ⟨"TileWardenModel", "pinsOf", "(I)I"⟩ ⟨"TileWardenModel", "pinsOf", "(I)I"⟩) ∈ lwG := lwG_0 33 (by decide +kernel) (by decide +kernel)
theorem q0_34 : (Cond.selects "TileWardenModel" ⟨"TileWardenModel", "unpins", "(I)I"⟩ ⟨"TileWardenModel", "unpins", "(I)I"⟩) ∈ lwG := lwG_0 34 (by decide +kernel) (by decide +kernel)
theorem q0_35 : (Cond.selects "TileWardenModel" ⟨"TileWardenModel", "noTrace", "(I)Z"⟩ ⟨"TileWardenModel", "noTrace", "(I)Z"⟩) ∈ lwG := lwG_0 35 (by decide +kernel) (by decide +kernel)
theorem q0_36 : (Cond.selects "TileWardenModel" ⟨"TileWardenModel", "refuse", "(I)I"⟩ ⟨"TileWardenModel", "refuse", "(I)I"⟩) ∈ lwG := lwG_0 36 (by decide +kernel) (by decide +kernel)
theorem q1_0 : (Jvm.Cond.initialized "TileWardenLaw") ∈ lwG := lwG_1 0 (by decide +kernel) (by decide +kernel)
theorem q1_1 : (Jvm.Cond.initialized "TileWarden") ∈ lwG := lwG_1 1 (by decide +kernel) (by decide +kernel)
theorem q1_2 : (Jvm.Cond.initialized "java/util/AbstractCollection") ∈ lwG := lwG_1 2 (by decide +kernel) (by decide +kernel)
theorem q1_3 : (Jvm.Cond.initialized "java/util/AbstractList") ∈ lwG := lwG_1 3 (by decide +kernel) (by decide +kernel)
theorem q1_4 : (Jvm.Cond.initialized "java/util/ArrayList") ∈ lwG := lwG_1 4 (by decide +kernel) (by decide +kernel)
theorem q1_5 : (Jvm.Cond.initialized "TileWarden$Cache") ∈ lwG := lwG_1 5 (by decide +kernel) (by decide +kernel)
theorem q1_6 : (Jvm.Cond.initialized "java/lang/Math") ∈ lwG := lwG_1 6 (by decide +kernel) (by decide +kernel)
theorem q1_7 : (Jvm.Cond.initialized "TileWarden$Entry") ∈ lwG := lwG_1 7 (by decide +kernel) (by decide +kernel)
theorem q1_8 : (Jvm.Cond.initialized "TileWarden$Search") ∈ lwG := lwG_1 8 (by decide +kernel) (by decide +kernel)
theorem q1_9 : (Jvm.Cond.initialized "TileWardenModel") ∈ lwG := lwG_1 9 (by decide +kernel) (by decide +kernel)
theorem q1_10 : (Jvm.Cond.initialized "java/lang/Throwable") ∈ lwG := lwG_1 10 (by decide +kernel) (by decide +kernel)
theorem q1_11 : (Jvm.Cond.initialized "java/lang/Exception") ∈ lwG := lwG_1 11 (by decide +kernel) (by decide +kernel)
theorem q1_12 : (Jvm.Cond.initialized "java/lang/RuntimeException") ∈ lwG := lwG_1 12 (by decide +kernel) (by decide +kernel)
theorem q1_13 : (Jvm.Cond.initialized "java/lang/IllegalArgumentException") ∈ lwG := lwG_1 13 (by decide +kernel) (by decide +kernel)
theorem q1_14 : (Jvm.Cond.initialized "java/lang/IllegalStateException") ∈ lwG := lwG_1 14 (by decide +kernel) (by decide +kernel)
theorem q1_15 : (Jvm.Cond.initialized "TileWarden$Player") ∈ lwG := lwG_1 15 (by decide +kernel) (by decide +kernel)
theorem q1_16 : (Jvm.Cond.initialized "jdk/internal/util/ArraysSupport") ∈ lwG := lwG_1 16 (by decide +kernel) (by decide +kernel)
theorem q1_17 : (Jvm.Cond.initialized "java/util/Arrays") ∈ lwG := lwG_1 17 (by decide +kernel) (by decide +kernel)
theorem q1_18 : (Jvm.Cond.initialized "java/lang/System") ∈ lwG := lwG_1 18 (by decide +kernel) (by decide +kernel)
theorem q1_19 : (Jvm.Cond.initialized "java/lang/IndexOutOfBoundsException") ∈ lwG := lwG_1 19 (by decide +kernel) (by decide +kernel)
theorem q1_20 : (Jvm.Cond.initialized "java/lang/ArrayIndexOutOfBoundsException") ∈ lwG := lwG_1 20 (by decide +kernel) (by decide +kernel)
theorem q1_21 : (Jvm.Cond.initialized "java/lang/String") ∈ lwG := lwG_1 21 (by decide +kernel) (by decide +kernel)
theorem q1_22 : (Jvm.Cond.initialized "java/util/Objects") ∈ lwG := lwG_1 22 (by decide +kernel) (by decide +kernel)
theorem q1_23 : (Jvm.Cond.initialized "jdk/internal/util/Preconditions") ∈ lwG := lwG_1 23 (by decide +kernel) (by decide +kernel)
theorem q1_24 : (Jvm.Cond.initialized "TileWarden$Game") ∈ lwG := lwG_1 24 (by decide +kernel) (by decide +kernel)
theorem q1_25 : (Jvm.Cond.initialized "TileWarden$Boards") ∈ lwG := lwG_1 25 (by decide +kernel) (by decide +kernel)
theorem q1_26 : (Jvm.Cond.initialized "java/lang/UnsupportedOperationException") ∈ lwG := lwG_1 26 (by decide +kernel) (by decide +kernel)
theorem q1_27 : (Jvm.Cond.initialized "java/util/NoSuchElementException") ∈ lwG := lwG_1 27 (by decide +kernel) (by decide +kernel)
theorem q1_28 : (Jvm.Cond.initialized "TileWarden$Trace") ∈ lwG := lwG_1 28 (by decide +kernel) (by decide +kernel)
theorem q1_29 : (Jvm.Cond.initialized "java/lang/ArithmeticException") ∈ lwG := lwG_1 29 (by decide +kernel) (by decide +kernel)
theorem q1_30 : (Jvm.Cond.classLink "TileWardenLaw" (8 : Nat) "TileWarden") ∈ lwG := lwG_1 30 (by decide +kernel) (by decide +kernel)
theorem q1_31 : (Jvm.Cond.instantiable "TileWarden" (12 : Nat)) ∈ lwG := lwG_1 31 (by decide +kernel) (by decide +kernel)
theorem q1_32 : (Jvm.Cond.methodLink "TileWardenLaw" (100 : Nat) ({ cls := "TileWarden", name := "<init>", desc := "()V" } : Jvm.MethodName)) ∈ lwG := lwG_1 32 (by decide +kernel) (by decide +kernel)
theorem q1_33 : (Jvm.Cond.instanceMethod ({ cls := "TileWarden", name := "<init>", desc := "()V" } : Jvm.MethodName)) ∈ lwG := lwG_1 33 (by decide +kernel) (by decide +kernel)
theorem q1_34 : (Jvm.Cond.code ({ cls := "TileWarden", name := "<init>", desc := "()V" } : Jvm.MethodName) prog_1_method_1_code (1 : Nat) (Option.none : Option Jvm.ClassFile.FieldType)) ∈ lwG := lwG_1 34 (by decide +kernel) (by decide +kernel)
theorem q1_35 : (Jvm.Cond.methodLink "TileWarden" (1 : Nat) ({ cls := "java/lang/Object", name := "<init>", desc := "()V" } : Jvm.MethodName)) ∈ lwG := lwG_1 35 (by decide +kernel) (by decide +kernel)
theorem q1_36 : (Jvm.Cond.instanceMethod ({ cls := "java/lang/Object", name := "<init>", desc := "()V" } : Jvm.MethodName)) ∈ lwG := lwG_1 36 (by decide +kernel) (by decide +kernel)
theorem q1_37 : (Jvm.Cond.code ({ cls := "java/lang/Object", name := "<init>", desc := "()V" } : Jvm.MethodName) object_method_1_code (1 : Nat) (Option.none : Option Jvm.ClassFile.FieldType)) ∈ lwG := lwG_1 37 (by decide +kernel) (by decide +kernel)
theorem q1_38 : (Jvm.Cond.classLink "TileWarden" (7 : Nat) "java/util/ArrayList") ∈ lwG := lwG_1 38 (by decide +kernel) (by decide +kernel)
theorem q1_39 : (Jvm.Cond.instantiable "java/util/ArrayList" (3 : Nat)) ∈ lwG := lwG_1 39 (by decide +kernel) (by decide +kernel)
theorem q1_40 : (Jvm.Cond.methodLink "TileWarden" (9 : Nat) ({ cls := "java/util/ArrayList", name := "<init>", desc := "()V" } : Jvm.MethodName)) ∈ lwG := lwG_1 40 (by decide +kernel) (by decide +kernel)
theorem q1_41 : (Jvm.Cond.instanceMethod ({ cls := "java/util/ArrayList", name := "<init>", desc := "()V" } : Jvm.MethodName)) ∈ lwG := lwG_1 41 (by decide +kernel) (by decide +kernel)
theorem q1_42 : (Jvm.Cond.code ({ cls := "java/util/ArrayList", name := "<init>", desc := "()V" } : Jvm.MethodName) prog_28_method_2_code (1 : Nat) (Option.none : Option Jvm.ClassFile.FieldType)) ∈ lwG := lwG_1 42 (by decide +kernel) (by decide +kernel)
theorem q1_43 : (Jvm.Cond.methodLink "java/util/ArrayList" (1 : Nat) ({ cls := "java/util/AbstractList", name := "<init>", desc := "()V" } : Jvm.MethodName)) ∈ lwG := lwG_1 43 (by decide +kernel) (by decide +kernel)
theorem q1_44 : (Jvm.Cond.instanceMethod ({ cls := "java/util/AbstractList", name := "<init>", desc := "()V" } : Jvm.MethodName)) ∈ lwG := lwG_1 44 (by decide +kernel) (by decide +kernel)
theorem q1_45 : (Jvm.Cond.code ({ cls := "java/util/AbstractList", name := "<init>", desc := "()V" } : Jvm.MethodName) prog_27_method_1_code (1 : Nat) (Option.none : Option Jvm.ClassFile.FieldType)) ∈ lwG := lwG_1 45 (by decide +kernel) (by decide +kernel)
theorem q1_46 : (Jvm.Cond.methodLink "java/util/AbstractList" (1 : Nat) ({ cls := "java/util/AbstractCollection", name := "<init>", desc := "()V" } : Jvm.MethodName)) ∈ lwG := lwG_1 46 (by decide +kernel) (by decide +kernel)
theorem q1_47 : (Jvm.Cond.instanceMethod ({ cls := "java/util/AbstractCollection", name := "<init>", desc := "()V" } : Jvm.MethodName)) ∈ lwG := lwG_1 47 (by decide +kernel) (by decide +kernel)
theorem q1_48 : (Jvm.Cond.code ({ cls := "java/util/AbstractCollection", name := "<init>", desc := "()V" } : Jvm.MethodName) prog_26_method_1_code (1 : Nat) (Option.none : Option Jvm.ClassFile.FieldType)) ∈ lwG := lwG_1 48 (by decide +kernel) (by decide +kernel)
theorem q1_49 : (Jvm.Cond.methodLink "java/util/AbstractCollection" (1 : Nat) ({ cls := "java/lang/Object", name := "<init>", desc := "()V" } : Jvm.MethodName)) ∈ lwG := lwG_1 49 (by decide +kernel) (by decide +kernel)
theorem q1_50 : (Jvm.Cond.fieldLink "java/util/ArrayList" (39 : Nat) "java/util/ArrayList" "DEFAULTCAPACITY_EMPTY_ELEMENTDATA" "[Ljava/lang/Object;") ∈ lwG := lwG_1 50 (by decide +kernel) (by decide +kernel)
theorem q1_51 : (Jvm.Cond.laysStatic "java/util/ArrayList" "DEFAULTCAPACITY_EMPTY_ELEMENTDATA" "[Ljava/lang/Object;") ∈ tables_1 := lwT_1 51 (by decide +kernel)
theorem q1_52 : (Jvm.Cond.fieldLink "java/util/ArrayList" (9 : Nat) "java/util/ArrayList" "elementData" "[Ljava/lang/Object;") ∈ lwG := lwG_1 52 (by decide +kernel) (by decide +kernel)
theorem q1_53 : (Jvm.Cond.fieldLink "java/util/ArrayList" (48 : Nat) "java/util/ArrayList" "size" "I") ∈ lwG := lwG_1 53 (by decide +kernel) (by decide +kernel)
theorem q1_54 : (Jvm.Cond.fieldLink "java/util/AbstractList" (7 : Nat) "java/util/AbstractList" "modCount" "I") ∈ lwG := lwG_1 54 (by decide +kernel) (by decide +kernel)
theorem q1_55 : (Jvm.Cond.fieldLink "java/util/ArrayList" (63 : Nat) "java/util/ArrayList" "modCount" "I") ∈ lwG := lwG_1 55 (by decide +kernel) (by decide +kernel)
theorem q1_56 : (Jvm.Cond.sameField "java/util/ArrayList" "java/util/AbstractList" "modCount" "I") ∈ lwG := lwG_1 56 (by decide +kernel) (by decide +kernel)
theorem q1_57 : (Jvm.Cond.lays "java/util/ArrayList" "java/util/ArrayList" "elementData" "[Ljava/lang/Object;") ∈ lwG := lwG_1 57 (by decide +kernel) (by decide +kernel)
theorem q1_58 : (Jvm.Cond.soleField "java/util/ArrayList" "elementData") ∈ tables_1 := lwT_1 58 (by decide +kernel)
theorem q1_59 : (Jvm.Cond.lays "java/util/ArrayList" "java/util/ArrayList" "size" "I") ∈ lwG := lwG_1 59 (by decide +kernel) (by decide +kernel)
theorem q1_60 : (Jvm.Cond.soleField "java/util/ArrayList" "size") ∈ tables_1 := lwT_1 60 (by decide +kernel)
theorem q1_61 : (Jvm.Cond.lays "java/util/ArrayList" "java/util/AbstractList" "modCount" "I") ∈ lwG := lwG_1 61 (by decide +kernel) (by decide +kernel)
theorem q1_62 : (Jvm.Cond.soleField "java/util/AbstractList" "modCount") ∈ tables_1 := lwT_1 62 (by decide +kernel)
theorem q1_63 : (Jvm.Cond.superclass "java/util/ArrayList" "java/util/AbstractList") ∈ lwG := lwG_1 63 (by decide +kernel) (by decide +kernel)
theorem q1_64 : (Jvm.Cond.classLink "TileWarden" (22 : Nat) "TileWarden$Cache") ∈ lwG := lwG_1 64 (by decide +kernel) (by decide +kernel)
theorem q1_65 : (Jvm.Cond.instantiable "TileWarden$Cache" (4 : Nat)) ∈ lwG := lwG_1 65 (by decide +kernel) (by decide +kernel)
theorem q1_66 : (Jvm.Cond.methodLink "TileWarden" (24 : Nat) ({ cls := "TileWarden$Cache", name := "<init>", desc := "(I)V" } : Jvm.MethodName)) ∈ lwG := lwG_1 66 (by decide +kernel) (by decide +kernel)
theorem q1_67 : (Jvm.Cond.instanceMethod ({ cls := "TileWarden$Cache", name := "<init>", desc := "(I)V" } : Jvm.MethodName)) ∈ lwG := lwG_1 67 (by decide +kernel) (by decide +kernel)
theorem q1_68 : (Jvm.Cond.code ({ cls := "TileWarden$Cache", name := "<init>", desc := "(I)V" } : Jvm.MethodName) prog_3_method_1_code (3 : Nat) (Option.none : Option Jvm.ClassFile.FieldType)) ∈ lwG := lwG_1 68 (by decide +kernel) (by decide +kernel)
theorem q1_69 : (Jvm.Cond.methodLink "TileWarden$Cache" (3 : Nat) ({ cls := "java/lang/Object", name := "<init>", desc := "()V" } : Jvm.MethodName)) ∈ lwG := lwG_1 69 (by decide +kernel) (by decide +kernel)
theorem q1_70 : (Jvm.Cond.methodLink "TileWarden$Cache" (21 : Nat) ({ cls := "java/lang/Math", name := "max", desc := "(II)I" } : Jvm.MethodName)) ∈ lwG := lwG_1 70 (by decide +kernel) (by decide +kernel)
theorem q1_71 : (Jvm.Cond.static ({ cls := "java/lang/Math", name := "max", desc := "(II)I" } : Jvm.MethodName)) ∈ lwG := lwG_1 71 (by decide +kernel) (by decide +kernel)
theorem q1_72 : (Jvm.Cond.code ({ cls := "java/lang/Math", name := "max", desc := "(II)I" } : Jvm.MethodName) prog_20_method_65_code (2 : Nat) (Option.some Jvm.ClassFile.FieldType.int)) ∈ lwG := lwG_1 72 (by decide +kernel) (by decide +kernel)
theorem q1_73 : (Jvm.Cond.classLink "TileWarden$Cache" (27 : Nat) "TileWarden$Entry") ∈ lwG := lwG_1 73 (by decide +kernel) (by decide +kernel)
theorem q1_74 : (Jvm.Cond.arrayOver (Jvm.ClassFile.FieldType.object "TileWarden$Entry")) ∈ tables_1 := lwT_1 74 (by decide +kernel)
theorem q1_75 : (Jvm.Cond.instantiable "TileWarden$Entry" (7 : Nat)) ∈ lwG := lwG_1 75 (by decide +kernel) (by decide +kernel)
theorem q1_76 : (Jvm.Cond.methodLinkNest "TileWarden$Cache" (33 : Nat) ({ cls := "TileWarden$Entry", name := "<init>", desc := "()V" } : Jvm.MethodName) "TileWarden") ∈ tables_1 := lwT_1 76 (by decide +kernel)
theorem q1_77 : (Jvm.Cond.instanceMethod ({ cls := "TileWarden$Entry", name := "<init>", desc := "()V" } : Jvm.MethodName)) ∈ lwG := lwG_1 77 (by decide +kernel) (by decide +kernel)
theorem q1_78 : (Jvm.Cond.code ({ cls := "TileWarden$Entry", name := "<init>", desc := "()V" } : Jvm.MethodName) prog_4_method_1_code (1 : Nat) (Option.none : Option Jvm.ClassFile.FieldType)) ∈ lwG := lwG_1 78 (by decide +kernel) (by decide +kernel)
theorem q1_79 : (Jvm.Cond.methodLink "TileWarden$Entry" (3 : Nat) ({ cls := "java/lang/Object", name := "<init>", desc := "()V" } : Jvm.MethodName)) ∈ lwG := lwG_1 79 (by decide +kernel) (by decide +kernel)
theorem q1_80 : (Jvm.Cond.fieldLink "TileWarden$Entry" (11 : Nat) "TileWarden$Entry" "board" "J") ∈ lwG := lwG_1 80 (by decide +kernel) (by decide +kernel)
theorem q1_81 : (Jvm.Cond.fieldLink "TileWarden$Cache" (52 : Nat) "TileWarden$Entry" "board" "J") ∈ lwG := lwG_1 81 (by decide +kernel) (by decide +kernel)
theorem q1_82 : (Jvm.Cond.fieldLink "TileWarden" (342 : Nat) "TileWarden$Entry" "board" "J") ∈ lwG := lwG_1 82 (by decide +kernel) (by decide +kernel)
theorem q1_83 : (Jvm.Cond.fieldLink "TileWarden$Entry" (17 : Nat) "TileWarden$Entry" "z" "I") ∈ lwG := lwG_1 83 (by decide +kernel) (by decide +kernel)
theorem q1_84 : (Jvm.Cond.fieldLink "TileWarden$Cache" (56 : Nat) "TileWarden$Entry" "z" "I") ∈ lwG := lwG_1 84 (by decide +kernel) (by decide +kernel)
theorem q1_85 : (Jvm.Cond.fieldLink "TileWarden" (343 : Nat) "TileWarden$Entry" "z" "I") ∈ lwG := lwG_1 85 (by decide +kernel) (by decide +kernel)
theorem q1_86 : (Jvm.Cond.fieldLink "TileWarden$Entry" (21 : Nat) "TileWarden$Entry" "depth" "I") ∈ lwG := lwG_1 86 (by decide +kernel) (by decide +kernel)
theorem q1_87 : (Jvm.Cond.fieldLink "TileWarden$Cache" (59 : Nat) "TileWarden$Entry" "depth" "I") ∈ lwG := lwG_1 87 (by decide +kernel) (by decide +kernel)
theorem q1_88 : (Jvm.Cond.fieldLink "TileWarden" (344 : Nat) "TileWarden$Entry" "depth" "I") ∈ lwG := lwG_1 88 (by decide +kernel) (by decide +kernel)
theorem q1_89 : (Jvm.Cond.fieldLink "TileWarden$Entry" (24 : Nat) "TileWarden$Entry" "worth" "I") ∈ lwG := lwG_1 89 (by decide +kernel) (by decide +kernel)
theorem q1_90 : (Jvm.Cond.fieldLink "TileWarden$Cache" (62 : Nat) "TileWarden$Entry" "worth" "I") ∈ lwG := lwG_1 90 (by decide +kernel) (by decide +kernel)
theorem q1_91 : (Jvm.Cond.fieldLink "TileWarden" (306 : Nat) "TileWarden$Entry" "worth" "I") ∈ lwG := lwG_1 91 (by decide +kernel) (by decide +kernel)
theorem q1_92 : (Jvm.Cond.fieldLink "TileWarden$Entry" (27 : Nat) "TileWarden$Entry" "push" "I") ∈ lwG := lwG_1 92 (by decide +kernel) (by decide +kernel)
theorem q1_93 : (Jvm.Cond.fieldLink "TileWarden$Cache" (65 : Nat) "TileWarden$Entry" "push" "I") ∈ lwG := lwG_1 93 (by decide +kernel) (by decide +kernel)
theorem q1_94 : (Jvm.Cond.fieldLink "TileWarden" (305 : Nat) "TileWarden$Entry" "push" "I") ∈ lwG := lwG_1 94 (by decide +kernel) (by decide +kernel)
theorem q1_95 : (Jvm.Cond.fieldLink "TileWarden$Entry" (30 : Nat) "TileWarden$Entry" "lastUse" "I") ∈ lwG := lwG_1 95 (by decide +kernel) (by decide +kernel)
theorem q1_96 : (Jvm.Cond.fieldLink "TileWarden$Cache" (42 : Nat) "TileWarden$Entry" "lastUse" "I") ∈ lwG := lwG_1 96 (by decide +kernel) (by decide +kernel)
theorem q1_97 : (Jvm.Cond.fieldLink "TileWarden$Entry" (33 : Nat) "TileWarden$Entry" "pins" "I") ∈ lwG := lwG_1 97 (by decide +kernel) (by decide +kernel)
theorem q1_98 : (Jvm.Cond.fieldLink "TileWarden$Cache" (71 : Nat) "TileWarden$Entry" "pins" "I") ∈ lwG := lwG_1 98 (by decide +kernel) (by decide +kernel)
theorem q1_99 : (Jvm.Cond.fieldLink "TileWarden" (216 : Nat) "TileWarden$Entry" "pins" "I") ∈ lwG := lwG_1 99 (by decide +kernel) (by decide +kernel)
theorem q1_100 : (Jvm.Cond.lays "TileWarden$Entry" "TileWarden$Entry" "board" "J") ∈ lwG := lwG_1 100 (by decide +kernel) (by decide +kernel)
theorem q1_101 : (Jvm.Cond.soleField "TileWarden$Entry" "board") ∈ tables_1 := lwT_1 101 (by decide +kernel)
theorem q1_102 : (Jvm.Cond.lays "TileWarden$Entry" "TileWarden$Entry" "z" "I") ∈ lwG := lwG_1 102 (by decide +kernel) (by decide +kernel)
theorem q1_103 : (Jvm.Cond.soleField "TileWarden$Entry" "z") ∈ tables_1 := lwT_1 103 (by decide +kernel)
theorem q1_104 : (Jvm.Cond.lays "TileWarden$Entry" "TileWarden$Entry" "depth" "I") ∈ lwG := lwG_1 104 (by decide +kernel) (by decide +kernel)
theorem q1_105 : (Jvm.Cond.soleField "TileWarden$Entry" "depth") ∈ tables_1 := lwT_1 105 (by decide +kernel)
theorem q1_106 : (Jvm.Cond.lays "TileWarden$Entry" "TileWarden$Entry" "worth" "I") ∈ lwG := lwG_1 106 (by decide +kernel) (by decide +kernel)
theorem q1_107 : (Jvm.Cond.soleField "TileWarden$Entry" "worth") ∈ tables_1 := lwT_1 107 (by decide +kernel)
theorem q1_108 : (Jvm.Cond.lays "TileWarden$Entry" "TileWarden$Entry" "push" "I") ∈ lwG := lwG_1 108 (by decide +kernel) (by decide +kernel)
theorem q1_109 : (Jvm.Cond.soleField "TileWarden$Entry" "push") ∈ tables_1 := lwT_1 109 (by decide +kernel)
theorem q1_110 : (Jvm.Cond.lays "TileWarden$Entry" "TileWarden$Entry" "lastUse" "I") ∈ lwG := lwG_1 110 (by decide +kernel) (by decide +kernel)
theorem q1_111 : (Jvm.Cond.soleField "TileWarden$Entry" "lastUse") ∈ tables_1 := lwT_1 111 (by decide +kernel)
theorem q1_112 : (Jvm.Cond.lays "TileWarden$Entry" "TileWarden$Entry" "pins" "I") ∈ lwG := lwG_1 112 (by decide +kernel) (by decide +kernel)
theorem q1_113 : (Jvm.Cond.soleField "TileWarden$Entry" "pins") ∈ tables_1 := lwT_1 113 (by decide +kernel)
theorem q1_114 : (Jvm.Cond.superclass "TileWarden$Entry" "java/lang/Object") ∈ lwG := lwG_1 114 (by decide +kernel) (by decide +kernel)
theorem q1_115 : (Jvm.Cond.fieldLink "TileWarden$Cache" (29 : Nat) "TileWarden$Cache" "slots" "[LTileWarden$Entry;") ∈ lwG := lwG_1 115 (by decide +kernel) (by decide +kernel)
theorem q1_116 : (Jvm.Cond.fieldLink "TileWarden" (331 : Nat) "TileWarden$Cache" "slots" "[LTileWarden$Entry;") ∈ lwG := lwG_1 116 (by decide +kernel) (by decide +kernel)
theorem q1_117 : (Jvm.Cond.fieldLink "TileWarden$Cache" (9 : Nat) "TileWarden$Cache" "count" "I") ∈ lwG := lwG_1 117 (by decide +kernel) (by decide +kernel)
theorem q1_118 : (Jvm.Cond.fieldLink "TileWarden" (205 : Nat) "TileWarden$Cache" "count" "I") ∈ lwG := lwG_1 118 (by decide +kernel) (by decide +kernel)
theorem q1_119 : (Jvm.Cond.fieldLink "TileWarden$Cache" (15 : Nat) "TileWarden$Cache" "room" "I") ∈ lwG := lwG_1 119 (by decide +kernel) (by decide +kernel)
theorem q1_120 : (Jvm.Cond.fieldLink "TileWarden$Cache" (18 : Nat) "TileWarden$Cache" "uses" "I") ∈ lwG := lwG_1 120 (by decide +kernel) (by decide +kernel)
theorem q1_121 : (Jvm.Cond.laysFinal "TileWarden$Cache" "TileWarden$Cache" "slots" "[LTileWarden$Entry;") ∈ lwG := lwG_1 121 (by decide +kernel) (by decide +kernel)
theorem q1_122 : (Jvm.Cond.soleField "TileWarden$Cache" "slots") ∈ tables_1 := lwT_1 122 (by decide +kernel)
theorem q1_123 : (Jvm.Cond.lays "TileWarden$Cache" "TileWarden$Cache" "count" "I") ∈ lwG := lwG_1 123 (by decide +kernel) (by decide +kernel)
theorem q1_124 : (Jvm.Cond.soleField "TileWarden$Cache" "count") ∈ tables_1 := lwT_1 124 (by decide +kernel)
theorem q1_125 : (Jvm.Cond.lays "TileWarden$Cache" "TileWarden$Cache" "room" "I") ∈ lwG := lwG_1 125 (by decide +kernel) (by decide +kernel)
theorem q1_126 : (Jvm.Cond.soleField "TileWarden$Cache" "room") ∈ tables_1 := lwT_1 126 (by decide +kernel)
theorem q1_127 : (Jvm.Cond.lays "TileWarden$Cache" "TileWarden$Cache" "uses" "I") ∈ lwG := lwG_1 127 (by decide +kernel) (by decide +kernel)
theorem q1_128 : (Jvm.Cond.soleField "TileWarden$Cache" "uses") ∈ tables_1 := lwT_1 128 (by decide +kernel)
theorem q1_129 : (Jvm.Cond.superclass "TileWarden$Cache" "java/lang/Object") ∈ lwG := lwG_1 129 (by decide +kernel) (by decide +kernel)
theorem q1_130 : (Jvm.Cond.classLink "TileWarden" (31 : Nat) "TileWarden$Search") ∈ lwG := lwG_1 130 (by decide +kernel) (by decide +kernel)
theorem q1_131 : (Jvm.Cond.instantiable "TileWarden$Search" (4 : Nat)) ∈ lwG := lwG_1 131 (by decide +kernel) (by decide +kernel)
theorem q1_132 : (Jvm.Cond.methodLink "TileWarden" (33 : Nat) ({ cls := "TileWarden$Search", name := "<init>", desc := "(LTileWarden$Cache;)V" } : Jvm.MethodName)) ∈ lwG := lwG_1 132 (by decide +kernel) (by decide +kernel)
theorem q1_133 : (Jvm.Cond.instanceMethod ({ cls := "TileWarden$Search", name := "<init>", desc := "(LTileWarden$Cache;)V" } : Jvm.MethodName)) ∈ lwG := lwG_1 133 (by decide +kernel) (by decide +kernel)
theorem q1_134 : (Jvm.Cond.code ({ cls := "TileWarden$Search", name := "<init>", desc := "(LTileWarden$Cache;)V" } : Jvm.MethodName) prog_7_method_1_code (2 : Nat) (Option.none : Option Jvm.ClassFile.FieldType)) ∈ lwG := lwG_1 134 (by decide +kernel) (by decide +kernel)
theorem q1_135 : (Jvm.Cond.methodLink "TileWarden$Search" (3 : Nat) ({ cls := "java/lang/Object", name := "<init>", desc := "()V" } : Jvm.MethodName)) ∈ lwG := lwG_1 135 (by decide +kernel) (by decide +kernel)
theorem q1_136 : (Jvm.Cond.fieldLink "TileWarden$Search" (21 : Nat) "TileWarden$Search" "cache" "LTileWarden$Cache;") ∈ lwG := lwG_1 136 (by decide +kernel) (by decide +kernel)
theorem q1_137 : (Jvm.Cond.fieldLink "TileWarden" (286 : Nat) "TileWarden$Search" "cache" "LTileWarden$Cache;") ∈ lwG := lwG_1 137 (by decide +kernel) (by decide +kernel)
theorem q1_138 : (Jvm.Cond.fieldLink "TileWarden$Search" (9 : Nat) "TileWarden$Search" "hits" "I") ∈ lwG := lwG_1 138 (by decide +kernel) (by decide +kernel)
theorem q1_139 : (Jvm.Cond.fieldLink "TileWarden" (295 : Nat) "TileWarden$Search" "hits" "I") ∈ lwG := lwG_1 139 (by decide +kernel) (by decide +kernel)
theorem q1_140 : (Jvm.Cond.fieldLink "TileWarden$Search" (15 : Nat) "TileWarden$Search" "misses" "I") ∈ lwG := lwG_1 140 (by decide +kernel) (by decide +kernel)
theorem q1_141 : (Jvm.Cond.fieldLink "TileWarden" (298 : Nat) "TileWarden$Search" "misses" "I") ∈ lwG := lwG_1 141 (by decide +kernel) (by decide +kernel)
theorem q1_142 : (Jvm.Cond.fieldLink "TileWarden$Search" (18 : Nat) "TileWarden$Search" "push" "I") ∈ lwG := lwG_1 142 (by decide +kernel) (by decide +kernel)
theorem q1_143 : (Jvm.Cond.fieldLink "TileWarden" (185 : Nat) "TileWarden$Search" "push" "I") ∈ lwG := lwG_1 143 (by decide +kernel) (by decide +kernel)
theorem q1_144 : (Jvm.Cond.laysFinal "TileWarden$Search" "TileWarden$Search" "cache" "LTileWarden$Cache;") ∈ lwG := lwG_1 144 (by decide +kernel) (by decide +kernel)
theorem q1_145 : (Jvm.Cond.soleField "TileWarden$Search" "cache") ∈ tables_1 := lwT_1 145 (by decide +kernel)
theorem q1_146 : (Jvm.Cond.lays "TileWarden$Search" "TileWarden$Search" "hits" "I") ∈ lwG := lwG_1 146 (by decide +kernel) (by decide +kernel)
theorem q1_147 : (Jvm.Cond.soleField "TileWarden$Search" "hits") ∈ tables_1 := lwT_1 147 (by decide +kernel)
theorem q1_148 : (Jvm.Cond.lays "TileWarden$Search" "TileWarden$Search" "misses" "I") ∈ lwG := lwG_1 148 (by decide +kernel) (by decide +kernel)
theorem q1_149 : (Jvm.Cond.soleField "TileWarden$Search" "misses") ∈ tables_1 := lwT_1 149 (by decide +kernel)
theorem q1_150 : (Jvm.Cond.lays "TileWarden$Search" "TileWarden$Search" "push" "I") ∈ lwG := lwG_1 150 (by decide +kernel) (by decide +kernel)
theorem q1_151 : (Jvm.Cond.soleField "TileWarden$Search" "push") ∈ tables_1 := lwT_1 151 (by decide +kernel)
theorem q1_152 : (Jvm.Cond.superclass "TileWarden$Search" "java/lang/Object") ∈ lwG := lwG_1 152 (by decide +kernel) (by decide +kernel)
theorem q1_153 : (Jvm.Cond.fieldLink "TileWarden" (10 : Nat) "TileWarden" "players" "Ljava/util/ArrayList;") ∈ lwG := lwG_1 153 (by decide +kernel) (by decide +kernel)
theorem q1_154 : (Jvm.Cond.fieldLink "TileWarden" (16 : Nat) "TileWarden" "games" "Ljava/util/ArrayList;") ∈ lwG := lwG_1 154 (by decide +kernel) (by decide +kernel)
theorem q1_155 : (Jvm.Cond.fieldLink "TileWarden" (19 : Nat) "TileWarden" "traces" "Ljava/util/ArrayList;") ∈ lwG := lwG_1 155 (by decide +kernel) (by decide +kernel)
theorem q1_156 : (Jvm.Cond.fieldLink "TileWarden" (27 : Nat) "TileWarden" "cache" "LTileWarden$Cache;") ∈ lwG := lwG_1 156 (by decide +kernel) (by decide +kernel)
theorem q1_157 : (Jvm.Cond.fieldLink "TileWarden" (36 : Nat) "TileWarden" "trial" "LTileWarden$Search;") ∈ lwG := lwG_1 157 (by decide +kernel) (by decide +kernel)
theorem q1_158 : (Jvm.Cond.fieldLink "TileWarden" (40 : Nat) "TileWarden" "plain" "LTileWarden$Search;") ∈ lwG := lwG_1 158 (by decide +kernel) (by decide +kernel)
theorem q1_159 : (Jvm.Cond.fieldLink "TileWarden" (43 : Nat) "TileWarden" "limit" "I") ∈ lwG := lwG_1 159 (by decide +kernel) (by decide +kernel)
theorem q1_160 : (Jvm.Cond.fieldLink "TileWarden" (47 : Nat) "TileWarden" "refunds" "J") ∈ lwG := lwG_1 160 (by decide +kernel) (by decide +kernel)
theorem q1_161 : (Jvm.Cond.fieldLink "TileWarden" (51 : Nat) "TileWarden" "soldHints" "J") ∈ lwG := lwG_1 161 (by decide +kernel) (by decide +kernel)
theorem q1_162 : (Jvm.Cond.fieldLink "TileWarden" (54 : Nat) "TileWarden" "soldPrices" "J") ∈ lwG := lwG_1 162 (by decide +kernel) (by decide +kernel)
theorem q1_163 : (Jvm.Cond.fieldLink "TileWarden" (57 : Nat) "TileWarden" "soldHits" "J") ∈ lwG := lwG_1 163 (by decide +kernel) (by decide +kernel)
theorem q1_164 : (Jvm.Cond.fieldLink "TileWarden" (60 : Nat) "TileWarden" "soldMisses" "J") ∈ lwG := lwG_1 164 (by decide +kernel) (by decide +kernel)
theorem q1_165 : (Jvm.Cond.laysFinal "TileWarden" "TileWarden" "players" "Ljava/util/ArrayList;") ∈ lwG := lwG_1 165 (by decide +kernel) (by decide +kernel)
theorem q1_166 : (Jvm.Cond.soleField "TileWarden" "players") ∈ tables_1 := lwT_1 166 (by decide +kernel)
theorem q1_167 : (Jvm.Cond.laysFinal "TileWarden" "TileWarden" "games" "Ljava/util/ArrayList;") ∈ lwG := lwG_1 167 (by decide +kernel) (by decide +kernel)
theorem q1_168 : (Jvm.Cond.soleField "TileWarden" "games") ∈ tables_1 := lwT_1 168 (by decide +kernel)
theorem q1_169 : (Jvm.Cond.laysFinal "TileWarden" "TileWarden" "traces" "Ljava/util/ArrayList;") ∈ lwG := lwG_1 169 (by decide +kernel) (by decide +kernel)
theorem q1_170 : (Jvm.Cond.soleField "TileWarden" "traces") ∈ tables_1 := lwT_1 170 (by decide +kernel)
theorem q1_171 : (Jvm.Cond.laysFinal "TileWarden" "TileWarden" "cache" "LTileWarden$Cache;") ∈ lwG := lwG_1 171 (by decide +kernel) (by decide +kernel)
theorem q1_172 : (Jvm.Cond.soleField "TileWarden" "cache") ∈ tables_1 := lwT_1 172 (by decide +kernel)
theorem q1_173 : (Jvm.Cond.laysFinal "TileWarden" "TileWarden" "trial" "LTileWarden$Search;") ∈ lwG := lwG_1 173 (by decide +kernel) (by decide +kernel)
theorem q1_174 : (Jvm.Cond.soleField "TileWarden" "trial") ∈ tables_1 := lwT_1 174 (by decide +kernel)
theorem q1_175 : (Jvm.Cond.laysFinal "TileWarden" "TileWarden" "plain" "LTileWarden$Search;") ∈ lwG := lwG_1 175 (by decide +kernel) (by decide +kernel)
theorem q1_176 : (Jvm.Cond.soleField "TileWarden" "plain") ∈ tables_1 := lwT_1 176 (by decide +kernel)
theorem q1_177 : (Jvm.Cond.lays "TileWarden" "TileWarden" "limit" "I") ∈ lwG := lwG_1 177 (by decide +kernel) (by decide +kernel)
theorem q1_178 : (Jvm.Cond.soleField "TileWarden" "limit") ∈ tables_1 := lwT_1 178 (by decide +kernel)
theorem q1_179 : (Jvm.Cond.lays "TileWarden" "TileWarden" "refunds" "J") ∈ lwG := lwG_1 179 (by decide +kernel) (by decide +kernel)
theorem q1_180 : (Jvm.Cond.soleField "TileWarden" "refunds") ∈ tables_1 := lwT_1 180 (by decide +kernel)
theorem q1_181 : (Jvm.Cond.lays "TileWarden" "TileWarden" "soldHints" "J") ∈ lwG := lwG_1 181 (by decide +kernel) (by decide +kernel)
theorem q1_182 : (Jvm.Cond.soleField "TileWarden" "soldHints") ∈ tables_1 := lwT_1 182 (by decide +kernel)
theorem q1_183 : (Jvm.Cond.lays "TileWarden" "TileWarden" "soldPrices" "J") ∈ lwG := lwG_1 183 (by decide +kernel) (by decide +kernel)
theorem q1_184 : (Jvm.Cond.soleField "TileWarden" "soldPrices") ∈ tables_1 := lwT_1 184 (by decide +kernel)
theorem q1_185 : (Jvm.Cond.lays "TileWarden" "TileWarden" "soldHits" "J") ∈ lwG := lwG_1 185 (by decide +kernel) (by decide +kernel)
theorem q1_186 : (Jvm.Cond.soleField "TileWarden" "soldHits") ∈ tables_1 := lwT_1 186 (by decide +kernel)
theorem q1_187 : (Jvm.Cond.lays "TileWarden" "TileWarden" "soldMisses" "J") ∈ lwG := lwG_1 187 (by decide +kernel) (by decide +kernel)
theorem q1_188 : (Jvm.Cond.soleField "TileWarden" "soldMisses") ∈ tables_1 := lwT_1 188 (by decide +kernel)
theorem q1_189 : (Jvm.Cond.superclass "TileWarden" "java/lang/Object") ∈ lwG := lwG_1 189 (by decide +kernel) (by decide +kernel)
theorem q1_190 : (Jvm.Cond.methodLink "TileWardenLaw" (152 : Nat) ({ cls := "TileWarden", name := "entries", desc := "()I" } : Jvm.MethodName)) ∈ lwG := lwG_1 190 (by decide +kernel) (by decide +kernel)
theorem q1_191 : (Jvm.Cond.instanceMethod ({ cls := "TileWarden", name := "entries", desc := "()I" } : Jvm.MethodName)) ∈ lwG := lwG_1 191 (by decide +kernel) (by decide +kernel)
theorem q1_192 : (Jvm.Cond.selects "TileWarden" ({ cls := "TileWarden", name := "entries", desc := "()I" } : Jvm.MethodName) ({ cls := "TileWarden", name := "entries", desc := "()I" } : Jvm.MethodName)) ∈ lwG := lwG_1 192 (by decide +kernel) (by decide +kernel)
theorem q1_193 : (Jvm.Cond.code ({ cls := "TileWarden", name := "entries", desc := "()I" } : Jvm.MethodName) prog_1_method_15_code (1 : Nat) (Option.some Jvm.ClassFile.FieldType.int)) ∈ lwG := lwG_1 193 (by decide +kernel) (by decide +kernel)
theorem q1_194 : (Jvm.Cond.methodLink "TileWardenLaw" (165 : Nat) ({ cls := "TileWarden", name := "pinned", desc := "()I" } : Jvm.MethodName)) ∈ lwG := lwG_1 194 (by decide +kernel) (by decide +kernel)
theorem q1_195 : (Jvm.Cond.instanceMethod ({ cls := "TileWarden", name := "pinned", desc := "()I" } : Jvm.MethodName)) ∈ lwG := lwG_1 195 (by decide +kernel) (by decide +kernel)
theorem q1_196 : (Jvm.Cond.selects "TileWarden" ({ cls := "TileWarden", name := "pinned", desc := "()I" } : Jvm.MethodName) ({ cls := "TileWarden", name := "pinned", desc := "()I" } : Jvm.MethodName)) ∈ lwG := lwG_1 196 (by decide +kernel) (by decide +kernel)
theorem q1_197 : (Jvm.Cond.code ({ cls := "TileWarden", name := "pinned", desc := "()I" } : Jvm.MethodName) prog_1_method_19_code (1 : Nat) (Option.some Jvm.ClassFile.FieldType.int)) ∈ lwG := lwG_1 197 (by decide +kernel) (by decide +kernel)
theorem q1_198 : (Jvm.Cond.methodLink "TileWarden" (197 : Nat) ({ cls := "TileWarden$Cache", name := "countPinned", desc := "()I" } : Jvm.MethodName)) ∈ lwG := lwG_1 198 (by decide +kernel) (by decide +kernel)
theorem q1_199 : (Jvm.Cond.instanceMethod ({ cls := "TileWarden$Cache", name := "countPinned", desc := "()I" } : Jvm.MethodName)) ∈ lwG := lwG_1 199 (by decide +kernel) (by decide +kernel)
theorem q1_200 : (Jvm.Cond.selects "TileWarden$Cache" ({ cls := "TileWarden$Cache", name := "countPinned", desc := "()I" } : Jvm.MethodName) ({ cls := "TileWarden$Cache", name := "countPinned", desc := "()I" } : Jvm.MethodName)) ∈ lwG := lwG_1 200 (by decide +kernel) (by decide +kernel)
theorem q1_201 : (Jvm.Cond.code ({ cls := "TileWarden$Cache", name := "countPinned", desc := "()I" } : Jvm.MethodName) prog_3_method_7_code (6 : Nat) (Option.some Jvm.ClassFile.FieldType.int)) ∈ lwG := lwG_1 201 (by decide +kernel) (by decide +kernel)
theorem q1_202 : (Jvm.Cond.methodLink "TileWardenLaw" (181 : Nat) ({ cls := "TileWarden", name := "traces", desc := "()I" } : Jvm.MethodName)) ∈ lwG := lwG_1 202 (by decide +kernel) (by decide +kernel)
theorem q1_203 : (Jvm.Cond.instanceMethod ({ cls := "TileWarden", name := "traces", desc := "()I" } : Jvm.MethodName)) ∈ lwG := lwG_1 203 (by decide +kernel) (by decide +kernel)
theorem q1_204 : (Jvm.Cond.selects "TileWarden" ({ cls := "TileWarden", name := "traces", desc := "()I" } : Jvm.MethodName) ({ cls := "TileWarden", name := "traces", desc := "()I" } : Jvm.MethodName)) ∈ lwG := lwG_1 204 (by decide +kernel) (by decide +kernel)
theorem q1_205 : (Jvm.Cond.code ({ cls := "TileWarden", name := "traces", desc := "()I" } : Jvm.MethodName) prog_1_method_24_code (1 : Nat) (Option.some Jvm.ClassFile.FieldType.int)) ∈ lwG := lwG_1 205 (by decide +kernel) (by decide +kernel)
theorem q1_206 : (Jvm.Cond.methodLink "TileWarden" (70 : Nat) ({ cls := "java/util/ArrayList", name := "size", desc := "()I" } : Jvm.MethodName)) ∈ lwG := lwG_1 206 (by decide +kernel) (by decide +kernel)
theorem q1_207 : (Jvm.Cond.instanceMethod ({ cls := "java/util/ArrayList", name := "size", desc := "()I" } : Jvm.MethodName)) ∈ lwG := lwG_1 207 (by decide +kernel) (by decide +kernel)
theorem q1_208 : (Jvm.Cond.selects "java/util/ArrayList" ({ cls := "java/util/ArrayList", name := "size", desc := "()I" } : Jvm.MethodName) ({ cls := "java/util/ArrayList", name := "size", desc := "()I" } : Jvm.MethodName)) ∈ lwG := lwG_1 208 (by decide +kernel) (by decide +kernel)
theorem q1_209 : (Jvm.Cond.code ({ cls := "java/util/ArrayList", name := "size", desc := "()I" } : Jvm.MethodName) prog_28_method_8_code (1 : Nat) (Option.some Jvm.ClassFile.FieldType.int)) ∈ lwG := lwG_1 209 (by decide +kernel) (by decide +kernel)
theorem q1_210 : (Jvm.Cond.methodLink "TileWardenLaw" (191 : Nat) ({ cls := "TileWarden", name := "refunds", desc := "()J" } : Jvm.MethodName)) ∈ lwG := lwG_1 210 (by decide +kernel) (by decide +kernel)
theorem q1_211 : (Jvm.Cond.instanceMethod ({ cls := "TileWarden", name := "refunds", desc := "()J" } : Jvm.MethodName)) ∈ lwG := lwG_1 211 (by decide +kernel) (by decide +kernel)
theorem q1_212 : (Jvm.Cond.selects "TileWarden" ({ cls := "TileWarden", name := "refunds", desc := "()J" } : Jvm.MethodName) ({ cls := "TileWarden", name := "refunds", desc := "()J" } : Jvm.MethodName)) ∈ lwG := lwG_1 212 (by decide +kernel) (by decide +kernel)
theorem q1_213 : (Jvm.Cond.code ({ cls := "TileWarden", name := "refunds", desc := "()J" } : Jvm.MethodName) prog_1_method_27_code (1 : Nat) (Option.some Jvm.ClassFile.FieldType.long)) ∈ lwG := lwG_1 213 (by decide +kernel) (by decide +kernel)
theorem q1_214 : (Jvm.Cond.methodLink "TileWardenLaw" (203 : Nat) ({ cls := "TileWarden", name := "isSound", desc := "()Z" } : Jvm.MethodName)) ∈ lwG := lwG_1 214 (by decide +kernel) (by decide +kernel)
theorem q1_215 : (Jvm.Cond.instanceMethod ({ cls := "TileWarden", name := "isSound", desc := "()Z" } : Jvm.MethodName)) ∈ lwG := lwG_1 215 (by decide +kernel) (by decide +kernel)
theorem q1_216 : (Jvm.Cond.selects "TileWarden" ({ cls := "TileWarden", name := "isSound", desc := "()Z" } : Jvm.MethodName) ({ cls := "TileWarden", name := "isSound", desc := "()Z" } : Jvm.MethodName)) ∈ lwG := lwG_1 216 (by decide +kernel) (by decide +kernel)
theorem q1_217 : (Jvm.Cond.code ({ cls := "TileWarden", name := "isSound", desc := "()Z" } : Jvm.MethodName) prog_1_method_30_code (1 : Nat) (Option.some Jvm.ClassFile.FieldType.boolean)) ∈ lwG := lwG_1 217 (by decide +kernel) (by decide +kernel)
theorem q1_218 : (Jvm.Cond.methodLink "TileWarden" (257 : Nat) ({ cls := "TileWarden", name := "areEntriesRight", desc := "()Z" } : Jvm.MethodName)) ∈ lwG := lwG_1 218 (by decide +kernel) (by decide +kernel)
theorem q1_219 : (Jvm.Cond.privateMethod ({ cls := "TileWarden", name := "areEntriesRight", desc := "()Z" } : Jvm.MethodName)) ∈ tables_1 := lwT_1 219 (by decide +kernel)
theorem q1_220 : (Jvm.Cond.instanceMethod ({ cls := "TileWarden", name := "areEntriesRight", desc := "()Z" } : Jvm.MethodName)) ∈ lwG := lwG_1 220 (by decide +kernel) (by decide +kernel)
theorem q1_221 : (Jvm.Cond.code ({ cls := "TileWarden", name := "areEntriesRight", desc := "()Z" } : Jvm.MethodName) prog_1_method_41_code (6 : Nat) (Option.some Jvm.ClassFile.FieldType.boolean)) ∈ lwG := lwG_1 221 (by decide +kernel) (by decide +kernel)
theorem q1_222 : (Jvm.Cond.methodLink "TileWarden" (335 : Nat) ({ cls := "TileWarden$Entry", name := "isFree", desc := "()Z" } : Jvm.MethodName)) ∈ lwG := lwG_1 222 (by decide +kernel) (by decide +kernel)
theorem q1_223 : (Jvm.Cond.instanceMethod ({ cls := "TileWarden$Entry", name := "isFree", desc := "()Z" } : Jvm.MethodName)) ∈ lwG := lwG_1 223 (by decide +kernel) (by decide +kernel)
theorem q1_224 : (Jvm.Cond.selects "TileWarden$Entry" ({ cls := "TileWarden$Entry", name := "isFree", desc := "()Z" } : Jvm.MethodName) ({ cls := "TileWarden$Entry", name := "isFree", desc := "()Z" } : Jvm.MethodName)) ∈ lwG := lwG_1 224 (by decide +kernel) (by decide +kernel)
theorem q1_225 : (Jvm.Cond.code ({ cls := "TileWarden$Entry", name := "isFree", desc := "()Z" } : Jvm.MethodName) prog_4_method_2_code (1 : Nat) (Option.some Jvm.ClassFile.FieldType.boolean)) ∈ lwG := lwG_1 225 (by decide +kernel) (by decide +kernel)
theorem q1_226 : (Jvm.Cond.methodLink "TileWarden" (338 : Nat) ({ cls := "TileWarden", name := "isFoundPlainly", desc := "(LTileWarden$Entry;)Z" } : Jvm.MethodName)) ∈ lwG := lwG_1 226 (by decide +kernel) (by decide +kernel)
theorem q1_227 : (Jvm.Cond.privateMethod ({ cls := "TileWarden", name := "isFoundPlainly", desc := "(LTileWarden$Entry;)Z" } : Jvm.MethodName)) ∈ tables_1 := lwT_1 227 (by decide +kernel)
theorem q1_228 : (Jvm.Cond.instanceMethod ({ cls := "TileWarden", name := "isFoundPlainly", desc := "(LTileWarden$Entry;)Z" } : Jvm.MethodName)) ∈ lwG := lwG_1 228 (by decide +kernel) (by decide +kernel)
theorem q1_229 : (Jvm.Cond.code ({ cls := "TileWarden", name := "isFoundPlainly", desc := "(LTileWarden$Entry;)Z" } : Jvm.MethodName) prog_1_method_42_code (3 : Nat) (Option.some Jvm.ClassFile.FieldType.boolean)) ∈ lwG := lwG_1 229 (by decide +kernel) (by decide +kernel)
theorem q1_230 : (Jvm.Cond.methodLink "TileWarden" (191 : Nat) ({ cls := "TileWarden", name := "look", desc := "(LTileWarden$Search;JII)I" } : Jvm.MethodName)) ∈ lwG := lwG_1 230 (by decide +kernel) (by decide +kernel)
theorem q1_231 : (Jvm.Cond.static ({ cls := "TileWarden", name := "look", desc := "(LTileWarden$Search;JII)I" } : Jvm.MethodName)) ∈ lwG := lwG_1 231 (by decide +kernel) (by decide +kernel)
theorem q1_232 : (Jvm.Cond.code ({ cls := "TileWarden", name := "look", desc := "(LTileWarden$Search;JII)I" } : Jvm.MethodName) prog_1_method_39_code (13 : Nat) (Option.some Jvm.ClassFile.FieldType.int)) ∈ lwG := lwG_1 232 (by decide +kernel) (by decide +kernel)
theorem q1_233 : (Jvm.Cond.methodLink "TileWarden" (208 : Nat) ({ cls := "TileWarden$Cache", name := "find", desc := "(JII)LTileWarden$Entry;" } : Jvm.MethodName)) ∈ lwG := lwG_1 233 (by decide +kernel) (by decide +kernel)
theorem q1_234 : (Jvm.Cond.instanceMethod ({ cls := "TileWarden$Cache", name := "find", desc := "(JII)LTileWarden$Entry;" } : Jvm.MethodName)) ∈ lwG := lwG_1 234 (by decide +kernel) (by decide +kernel)
theorem q1_235 : (Jvm.Cond.selects "TileWarden$Cache" ({ cls := "TileWarden$Cache", name := "find", desc := "(JII)LTileWarden$Entry;" } : Jvm.MethodName) ({ cls := "TileWarden$Cache", name := "find", desc := "(JII)LTileWarden$Entry;" } : Jvm.MethodName)) ∈ lwG := lwG_1 235 (by decide +kernel) (by decide +kernel)
theorem q1_236 : (Jvm.Cond.code ({ cls := "TileWarden$Cache", name := "find", desc := "(JII)LTileWarden$Entry;" } : Jvm.MethodName) prog_3_method_3_code (9 : Nat) (Option.some (Jvm.ClassFile.FieldType.object "TileWarden$Entry"))) ∈ lwG := lwG_1 236 (by decide +kernel) (by decide +kernel)
theorem q1_237 : (Jvm.Cond.methodLink "TileWarden$Cache" (38 : Nat) ({ cls := "TileWarden$Entry", name := "isFor", desc := "(JII)Z" } : Jvm.MethodName)) ∈ lwG := lwG_1 237 (by decide +kernel) (by decide +kernel)
theorem q1_238 : (Jvm.Cond.instanceMethod ({ cls := "TileWarden$Entry", name := "isFor", desc := "(JII)Z" } : Jvm.MethodName)) ∈ lwG := lwG_1 238 (by decide +kernel) (by decide +kernel)
theorem q1_239 : (Jvm.Cond.selects "TileWarden$Entry" ({ cls := "TileWarden$Entry", name := "isFor", desc := "(JII)Z" } : Jvm.MethodName) ({ cls := "TileWarden$Entry", name := "isFor", desc := "(JII)Z" } : Jvm.MethodName)) ∈ lwG := lwG_1 239 (by decide +kernel) (by decide +kernel)
theorem q2_0 : (Jvm.Cond.code ({ cls := "TileWarden$Entry", name := "isFor", desc := "(JII)Z" } : Jvm.MethodName) prog_4_method_3_code (5 : Nat) (Option.some Jvm.ClassFile.FieldType.boolean)) ∈ lwG := lwG_2 0 (by decide +kernel) (by decide +kernel)
theorem q2_1 : (Jvm.Cond.methodLink "TileWarden" (301 : Nat) ({ cls := "TileWarden$Cache", name := "use", desc := "(LTileWarden$Entry;)V" } : Jvm.MethodName)) ∈ lwG := lwG_2 1 (by decide +kernel) (by decide +kernel)
theorem q2_2 : (Jvm.Cond.instanceMethod ({ cls := "TileWarden$Cache", name := "use", desc := "(LTileWarden$Entry;)V" } : Jvm.MethodName)) ∈ lwG := lwG_2 2 (by decide +kernel) (by decide +kernel)
theorem q2_3 : (Jvm.Cond.selects "TileWarden$Cache" ({ cls := "TileWarden$Cache", name := "use", desc := "(LTileWarden$Entry;)V" } : Jvm.MethodName) ({ cls := "TileWarden$Cache", name := "use", desc := "(LTileWarden$Entry;)V" } : Jvm.MethodName)) ∈ lwG := lwG_2 3 (by decide +kernel) (by decide +kernel)
theorem q2_4 : (Jvm.Cond.code ({ cls := "TileWarden$Cache", name := "use", desc := "(LTileWarden$Entry;)V" } : Jvm.MethodName) prog_3_method_4_code (2 : Nat) (Option.none : Option Jvm.ClassFile.FieldType)) ∈ lwG := lwG_2 4 (by decide +kernel) (by decide +kernel)
theorem q2_5 : (Jvm.Cond.methodLink "TileWarden" (309 : Nat) ({ cls := "TileWarden$Boards", name := "pushed", desc := "(JI)J" } : Jvm.MethodName)) ∈ lwG := lwG_2 5 (by decide +kernel) (by decide +kernel)
theorem q2_6 : (Jvm.Cond.static ({ cls := "TileWarden$Boards", name := "pushed", desc := "(JI)J" } : Jvm.MethodName)) ∈ lwG := lwG_2 6 (by decide +kernel) (by decide +kernel)
theorem q2_7 : (Jvm.Cond.code ({ cls := "TileWarden$Boards", name := "pushed", desc := "(JI)J" } : Jvm.MethodName) prog_2_method_5_code (10 : Nat) (Option.some Jvm.ClassFile.FieldType.long)) ∈ lwG := lwG_2 7 (by decide +kernel) (by decide +kernel)
theorem q2_8 : (Jvm.Cond.methodLink "TileWarden$Boards" (17 : Nat) ({ cls := "TileWarden$Boards", name := "gathered", desc := "(JII)I" } : Jvm.MethodName)) ∈ lwG := lwG_2 8 (by decide +kernel) (by decide +kernel)
theorem q2_9 : (Jvm.Cond.static ({ cls := "TileWarden$Boards", name := "gathered", desc := "(JII)I" } : Jvm.MethodName)) ∈ lwG := lwG_2 9 (by decide +kernel) (by decide +kernel)
theorem q2_10 : (Jvm.Cond.code ({ cls := "TileWarden$Boards", name := "gathered", desc := "(JII)I" } : Jvm.MethodName) prog_2_method_13_code (8 : Nat) (Option.some Jvm.ClassFile.FieldType.int)) ∈ lwG := lwG_2 10 (by decide +kernel) (by decide +kernel)
theorem q2_11 : (Jvm.Cond.methodLink "TileWarden$Boards" (29 : Nat) ({ cls := "TileWarden$Boards", name := "cellOf", desc := "(III)I" } : Jvm.MethodName)) ∈ lwG := lwG_2 11 (by decide +kernel) (by decide +kernel)
theorem q2_12 : (Jvm.Cond.static ({ cls := "TileWarden$Boards", name := "cellOf", desc := "(III)I" } : Jvm.MethodName)) ∈ lwG := lwG_2 12 (by decide +kernel) (by decide +kernel)
theorem q2_13 : (Jvm.Cond.code ({ cls := "TileWarden$Boards", name := "cellOf", desc := "(III)I" } : Jvm.MethodName) prog_2_method_11_code (3 : Nat) (Option.some Jvm.ClassFile.FieldType.int)) ∈ lwG := lwG_2 13 (by decide +kernel) (by decide +kernel)
theorem q2_14 : (Jvm.Cond.methodLink "TileWarden$Boards" (45 : Nat) ({ cls := "TileWarden$Boards", name := "tileAt", desc := "(JI)I" } : Jvm.MethodName)) ∈ lwG := lwG_2 14 (by decide +kernel) (by decide +kernel)
theorem q2_15 : (Jvm.Cond.static ({ cls := "TileWarden$Boards", name := "tileAt", desc := "(JI)I" } : Jvm.MethodName)) ∈ lwG := lwG_2 15 (by decide +kernel) (by decide +kernel)
theorem q2_16 : (Jvm.Cond.code ({ cls := "TileWarden$Boards", name := "tileAt", desc := "(JI)I" } : Jvm.MethodName) prog_2_method_2_code (3 : Nat) (Option.some Jvm.ClassFile.FieldType.int)) ∈ lwG := lwG_2 16 (by decide +kernel) (by decide +kernel)
theorem q2_17 : (Jvm.Cond.methodLink "TileWarden$Boards" (21 : Nat) ({ cls := "TileWarden$Boards", name := "merged", desc := "(I)I" } : Jvm.MethodName)) ∈ lwG := lwG_2 17 (by decide +kernel) (by decide +kernel)
theorem q2_18 : (Jvm.Cond.static ({ cls := "TileWarden$Boards", name := "merged", desc := "(I)I" } : Jvm.MethodName)) ∈ lwG := lwG_2 18 (by decide +kernel) (by decide +kernel)
theorem q2_19 : (Jvm.Cond.code ({ cls := "TileWarden$Boards", name := "merged", desc := "(I)I" } : Jvm.MethodName) prog_2_method_15_code (5 : Nat) (Option.some Jvm.ClassFile.FieldType.int)) ∈ lwG := lwG_2 19 (by decide +kernel) (by decide +kernel)
theorem q2_20 : (Jvm.Cond.methodLink "TileWarden$Boards" (33 : Nat) ({ cls := "TileWarden$Boards", name := "mergingPlace", desc := "(I)I" } : Jvm.MethodName)) ∈ lwG := lwG_2 20 (by decide +kernel) (by decide +kernel)
theorem q2_21 : (Jvm.Cond.static ({ cls := "TileWarden$Boards", name := "mergingPlace", desc := "(I)I" } : Jvm.MethodName)) ∈ lwG := lwG_2 21 (by decide +kernel) (by decide +kernel)
theorem q2_22 : (Jvm.Cond.code ({ cls := "TileWarden$Boards", name := "mergingPlace", desc := "(I)I" } : Jvm.MethodName) prog_2_method_14_code (4 : Nat) (Option.some Jvm.ClassFile.FieldType.int)) ∈ lwG := lwG_2 22 (by decide +kernel) (by decide +kernel)
theorem q2_23 : (Jvm.Cond.methodLink "TileWarden$Boards" (25 : Nat) ({ cls := "TileWarden$Boards", name := "tileIn", desc := "(II)I" } : Jvm.MethodName)) ∈ lwG := lwG_2 23 (by decide +kernel) (by decide +kernel)
theorem q2_24 : (Jvm.Cond.static ({ cls := "TileWarden$Boards", name := "tileIn", desc := "(II)I" } : Jvm.MethodName)) ∈ lwG := lwG_2 24 (by decide +kernel) (by decide +kernel)
theorem q2_25 : (Jvm.Cond.code ({ cls := "TileWarden$Boards", name := "tileIn", desc := "(II)I" } : Jvm.MethodName) prog_2_method_12_code (2 : Nat) (Option.some Jvm.ClassFile.FieldType.int)) ∈ lwG := lwG_2 25 (by decide +kernel) (by decide +kernel)
theorem q2_26 : (Jvm.Cond.methodLink "TileWarden" (313 : Nat) ({ cls := "TileWarden$Boards", name := "drawn", desc := "(JI)J" } : Jvm.MethodName)) ∈ lwG := lwG_2 26 (by decide +kernel) (by decide +kernel)
theorem q2_27 : (Jvm.Cond.static ({ cls := "TileWarden$Boards", name := "drawn", desc := "(JI)J" } : Jvm.MethodName)) ∈ lwG := lwG_2 27 (by decide +kernel) (by decide +kernel)
theorem q2_28 : (Jvm.Cond.code ({ cls := "TileWarden$Boards", name := "drawn", desc := "(JI)J" } : Jvm.MethodName) prog_2_method_7_code (9 : Nat) (Option.some Jvm.ClassFile.FieldType.long)) ∈ lwG := lwG_2 28 (by decide +kernel) (by decide +kernel)
theorem q2_29 : (Jvm.Cond.methodLink "TileWarden$Boards" (36 : Nat) ({ cls := "TileWarden$Boards", name := "countEmpty", desc := "(J)I" } : Jvm.MethodName)) ∈ lwG := lwG_2 29 (by decide +kernel) (by decide +kernel)
theorem q2_30 : (Jvm.Cond.static ({ cls := "TileWarden$Boards", name := "countEmpty", desc := "(J)I" } : Jvm.MethodName)) ∈ lwG := lwG_2 30 (by decide +kernel) (by decide +kernel)
theorem q2_31 : (Jvm.Cond.code ({ cls := "TileWarden$Boards", name := "countEmpty", desc := "(J)I" } : Jvm.MethodName) prog_2_method_10_code (4 : Nat) (Option.some Jvm.ClassFile.FieldType.int)) ∈ lwG := lwG_2 31 (by decide +kernel) (by decide +kernel)
theorem q2_32 : (Jvm.Cond.methodLink "TileWarden$Boards" (40 : Nat) ({ cls := "TileWarden$Boards", name := "nextZ", desc := "(I)I" } : Jvm.MethodName)) ∈ lwG := lwG_2 32 (by decide +kernel) (by decide +kernel)
theorem q2_33 : (Jvm.Cond.static ({ cls := "TileWarden$Boards", name := "nextZ", desc := "(I)I" } : Jvm.MethodName)) ∈ lwG := lwG_2 33 (by decide +kernel) (by decide +kernel)
theorem q2_34 : (Jvm.Cond.code ({ cls := "TileWarden$Boards", name := "nextZ", desc := "(I)I" } : Jvm.MethodName) prog_2_method_9_code (1 : Nat) (Option.some Jvm.ClassFile.FieldType.int)) ∈ lwG := lwG_2 34 (by decide +kernel) (by decide +kernel)
theorem q2_35 : (Jvm.Cond.constant "TileWarden$Boards" (49 : Nat) (1103515245 : Int32)) ∈ lwG := lwG_2 35 (by decide +kernel) (by decide +kernel)
theorem q2_36 : (Jvm.Cond.constant "TileWarden$Boards" (50 : Nat) (2147483647 : Int32)) ∈ lwG := lwG_2 36 (by decide +kernel) (by decide +kernel)
theorem q2_37 : (Jvm.Cond.constantLong "TileWarden$Boards" (43 : Nat) (2 : Int64)) ∈ lwG := lwG_2 37 (by decide +kernel) (by decide +kernel)
theorem q2_38 : (Jvm.Cond.methodLink "TileWarden" (316 : Nat) ({ cls := "TileWarden$Boards", name := "drawnZ", desc := "(I)I" } : Jvm.MethodName)) ∈ lwG := lwG_2 38 (by decide +kernel) (by decide +kernel)
theorem q2_39 : (Jvm.Cond.static ({ cls := "TileWarden$Boards", name := "drawnZ", desc := "(I)I" } : Jvm.MethodName)) ∈ lwG := lwG_2 39 (by decide +kernel) (by decide +kernel)
theorem q2_40 : (Jvm.Cond.code ({ cls := "TileWarden$Boards", name := "drawnZ", desc := "(I)I" } : Jvm.MethodName) prog_2_method_8_code (1 : Nat) (Option.some Jvm.ClassFile.FieldType.int)) ∈ lwG := lwG_2 40 (by decide +kernel) (by decide +kernel)
theorem q2_41 : (Jvm.Cond.methodLink "TileWarden" (319 : Nat) ({ cls := "TileWarden$Boards", name := "gainOf", desc := "(JI)I" } : Jvm.MethodName)) ∈ lwG := lwG_2 41 (by decide +kernel) (by decide +kernel)
theorem q2_42 : (Jvm.Cond.static ({ cls := "TileWarden$Boards", name := "gainOf", desc := "(JI)I" } : Jvm.MethodName)) ∈ lwG := lwG_2 42 (by decide +kernel) (by decide +kernel)
theorem q2_43 : (Jvm.Cond.code ({ cls := "TileWarden$Boards", name := "gainOf", desc := "(JI)I" } : Jvm.MethodName) prog_2_method_6_code (7 : Nat) (Option.some Jvm.ClassFile.FieldType.int)) ∈ lwG := lwG_2 43 (by decide +kernel) (by decide +kernel)
theorem q2_44 : (Jvm.Cond.methodLink "TileWarden" (322 : Nat) ({ cls := "TileWarden$Cache", name := "put", desc := "(JIIII)V" } : Jvm.MethodName)) ∈ lwG := lwG_2 44 (by decide +kernel) (by decide +kernel)
theorem q2_45 : (Jvm.Cond.instanceMethod ({ cls := "TileWarden$Cache", name := "put", desc := "(JIIII)V" } : Jvm.MethodName)) ∈ lwG := lwG_2 45 (by decide +kernel) (by decide +kernel)
theorem q2_46 : (Jvm.Cond.selects "TileWarden$Cache" ({ cls := "TileWarden$Cache", name := "put", desc := "(JIIII)V" } : Jvm.MethodName) ({ cls := "TileWarden$Cache", name := "put", desc := "(JIIII)V" } : Jvm.MethodName)) ∈ lwG := lwG_2 46 (by decide +kernel) (by decide +kernel)
theorem q2_47 : (Jvm.Cond.code ({ cls := "TileWarden$Cache", name := "put", desc := "(JIIII)V" } : Jvm.MethodName) prog_3_method_5_code (8 : Nat) (Option.none : Option Jvm.ClassFile.FieldType)) ∈ lwG := lwG_2 47 (by decide +kernel) (by decide +kernel)
theorem q2_48 : (Jvm.Cond.methodLink "TileWarden$Cache" (45 : Nat) ({ cls := "TileWarden$Cache", name := "dropOldest", desc := "()V" } : Jvm.MethodName)) ∈ lwG := lwG_2 48 (by decide +kernel) (by decide +kernel)
theorem q2_49 : (Jvm.Cond.privateMethod ({ cls := "TileWarden$Cache", name := "dropOldest", desc := "()V" } : Jvm.MethodName)) ∈ tables_1 := lwT_2 49 (by decide +kernel)
theorem q2_50 : (Jvm.Cond.instanceMethod ({ cls := "TileWarden$Cache", name := "dropOldest", desc := "()V" } : Jvm.MethodName)) ∈ lwG := lwG_2 50 (by decide +kernel) (by decide +kernel)
theorem q2_51 : (Jvm.Cond.code ({ cls := "TileWarden$Cache", name := "dropOldest", desc := "()V" } : Jvm.MethodName) prog_3_method_11_code (6 : Nat) (Option.none : Option Jvm.ClassFile.FieldType)) ∈ lwG := lwG_2 51 (by decide +kernel) (by decide +kernel)
theorem q2_52 : (Jvm.Cond.methodLink "TileWarden$Cache" (74 : Nat) ({ cls := "TileWarden$Entry", name := "isFree", desc := "()Z" } : Jvm.MethodName)) ∈ lwG := lwG_2 52 (by decide +kernel) (by decide +kernel)
theorem q2_53 : (Jvm.Cond.methodLink "TileWarden$Cache" (48 : Nat) ({ cls := "TileWarden$Cache", name := "findFree", desc := "()LTileWarden$Entry;" } : Jvm.MethodName)) ∈ lwG := lwG_2 53 (by decide +kernel) (by decide +kernel)
theorem q2_54 : (Jvm.Cond.privateMethod ({ cls := "TileWarden$Cache", name := "findFree", desc := "()LTileWarden$Entry;" } : Jvm.MethodName)) ∈ tables_1 := lwT_2 54 (by decide +kernel)
theorem q2_55 : (Jvm.Cond.instanceMethod ({ cls := "TileWarden$Cache", name := "findFree", desc := "()LTileWarden$Entry;" } : Jvm.MethodName)) ∈ lwG := lwG_2 55 (by decide +kernel) (by decide +kernel)
theorem q2_56 : (Jvm.Cond.code ({ cls := "TileWarden$Cache", name := "findFree", desc := "()LTileWarden$Entry;" } : Jvm.MethodName) prog_3_method_10_code (5 : Nat) (Option.some (Jvm.ClassFile.FieldType.object "TileWarden$Entry"))) ∈ lwG := lwG_2 56 (by decide +kernel) (by decide +kernel)
theorem q2_57 : (Jvm.Cond.methodLink "TileWarden$Cache" (68 : Nat) ({ cls := "TileWarden$Cache", name := "use", desc := "(LTileWarden$Entry;)V" } : Jvm.MethodName)) ∈ lwG := lwG_2 57 (by decide +kernel) (by decide +kernel)
theorem q2_58 : (Jvm.Cond.methodLink "TileWarden" (261 : Nat) ({ cls := "TileWarden", name := "areRefundsRight", desc := "()Z" } : Jvm.MethodName)) ∈ lwG := lwG_2 58 (by decide +kernel) (by decide +kernel)
theorem q2_59 : (Jvm.Cond.privateMethod ({ cls := "TileWarden", name := "areRefundsRight", desc := "()Z" } : Jvm.MethodName)) ∈ tables_1 := lwT_2 59 (by decide +kernel)
theorem q2_60 : (Jvm.Cond.instanceMethod ({ cls := "TileWarden", name := "areRefundsRight", desc := "()Z" } : Jvm.MethodName)) ∈ lwG := lwG_2 60 (by decide +kernel) (by decide +kernel)
theorem q2_61 : (Jvm.Cond.code ({ cls := "TileWarden", name := "areRefundsRight", desc := "()Z" } : Jvm.MethodName) prog_1_method_43_code (5 : Nat) (Option.some Jvm.ClassFile.FieldType.boolean)) ∈ lwG := lwG_2 61 (by decide +kernel) (by decide +kernel)
theorem q2_62 : (Jvm.Cond.methodLink "TileWarden" (272 : Nat) ({ cls := "java/util/ArrayList", name := "get", desc := "(I)Ljava/lang/Object;" } : Jvm.MethodName)) ∈ lwG := lwG_2 62 (by decide +kernel) (by decide +kernel)
theorem q2_63 : (Jvm.Cond.instanceMethod ({ cls := "java/util/ArrayList", name := "get", desc := "(I)Ljava/lang/Object;" } : Jvm.MethodName)) ∈ lwG := lwG_2 63 (by decide +kernel) (by decide +kernel)
theorem q2_64 : (Jvm.Cond.selects "java/util/ArrayList" ({ cls := "java/util/ArrayList", name := "get", desc := "(I)Ljava/lang/Object;" } : Jvm.MethodName) ({ cls := "java/util/ArrayList", name := "get", desc := "(I)Ljava/lang/Object;" } : Jvm.MethodName)) ∈ lwG := lwG_2 64 (by decide +kernel) (by decide +kernel)
theorem q2_65 : (Jvm.Cond.code ({ cls := "java/util/ArrayList", name := "get", desc := "(I)Ljava/lang/Object;" } : Jvm.MethodName) prog_28_method_20_code (2 : Nat) (Option.some (Jvm.ClassFile.FieldType.object "java/lang/Object"))) ∈ lwG := lwG_2 65 (by decide +kernel) (by decide +kernel)
theorem q2_66 : (Jvm.Cond.methodLink "java/util/ArrayList" (118 : Nat) ({ cls := "java/util/Objects", name := "checkIndex", desc := "(II)I" } : Jvm.MethodName)) ∈ lwG := lwG_2 66 (by decide +kernel) (by decide +kernel)
theorem q2_67 : (Jvm.Cond.static ({ cls := "java/util/Objects", name := "checkIndex", desc := "(II)I" } : Jvm.MethodName)) ∈ lwG := lwG_2 67 (by decide +kernel) (by decide +kernel)
theorem q2_68 : (Jvm.Cond.code ({ cls := "java/util/Objects", name := "checkIndex", desc := "(II)I" } : Jvm.MethodName) prog_33_method_17_code (2 : Nat) (Option.some Jvm.ClassFile.FieldType.int)) ∈ lwG := lwG_2 68 (by decide +kernel) (by decide +kernel)
theorem q2_69 : (Jvm.Cond.methodLink "java/util/Objects" (105 : Nat) ({ cls := "jdk/internal/util/Preconditions", name := "checkIndex", desc := "(IILjava/util/function/BiFunction;)I" } : Jvm.MethodName)) ∈ lwG := lwG_2 69 (by decide +kernel) (by decide +kernel)
theorem q2_70 : (Jvm.Cond.static ({ cls := "jdk/internal/util/Preconditions", name := "checkIndex", desc := "(IILjava/util/function/BiFunction;)I" } : Jvm.MethodName)) ∈ lwG := lwG_2 70 (by decide +kernel) (by decide +kernel)
theorem q2_71 : (Jvm.Cond.code ({ cls := "jdk/internal/util/Preconditions", name := "checkIndex", desc := "(IILjava/util/function/BiFunction;)I" } : Jvm.MethodName) prog_37_method_11_code (3 : Nat) (Option.some Jvm.ClassFile.FieldType.int)) ∈ lwG := lwG_2 71 (by decide +kernel) (by decide +kernel)
theorem q2_72 : (Jvm.Cond.methodLink "java/util/ArrayList" (123 : Nat) ({ cls := "java/util/ArrayList", name := "elementData", desc := "(I)Ljava/lang/Object;" } : Jvm.MethodName)) ∈ lwG := lwG_2 72 (by decide +kernel) (by decide +kernel)
theorem q2_73 : (Jvm.Cond.instanceMethod ({ cls := "java/util/ArrayList", name := "elementData", desc := "(I)Ljava/lang/Object;" } : Jvm.MethodName)) ∈ lwG := lwG_2 73 (by decide +kernel) (by decide +kernel)
theorem q2_74 : (Jvm.Cond.selects "java/util/ArrayList" ({ cls := "java/util/ArrayList", name := "elementData", desc := "(I)Ljava/lang/Object;" } : Jvm.MethodName) ({ cls := "java/util/ArrayList", name := "elementData", desc := "(I)Ljava/lang/Object;" } : Jvm.MethodName)) ∈ lwG := lwG_2 74 (by decide +kernel) (by decide +kernel)
theorem q2_75 : (Jvm.Cond.code ({ cls := "java/util/ArrayList", name := "elementData", desc := "(I)Ljava/lang/Object;" } : Jvm.MethodName) prog_28_method_18_code (2 : Nat) (Option.some (Jvm.ClassFile.FieldType.object "java/lang/Object"))) ∈ lwG := lwG_2 75 (by decide +kernel) (by decide +kernel)
theorem q2_76 : (Jvm.Cond.classLink "TileWarden" (96 : Nat) "TileWarden$Game") ∈ lwG := lwG_2 76 (by decide +kernel) (by decide +kernel)
theorem q2_77 : (Jvm.Cond.methodLink "TileWarden" (264 : Nat) ({ cls := "TileWarden", name := "arePursesRight", desc := "()Z" } : Jvm.MethodName)) ∈ lwG := lwG_2 77 (by decide +kernel) (by decide +kernel)
theorem q2_78 : (Jvm.Cond.privateMethod ({ cls := "TileWarden", name := "arePursesRight", desc := "()Z" } : Jvm.MethodName)) ∈ tables_1 := lwT_2 78 (by decide +kernel)
theorem q2_79 : (Jvm.Cond.instanceMethod ({ cls := "TileWarden", name := "arePursesRight", desc := "()Z" } : Jvm.MethodName)) ∈ lwG := lwG_2 79 (by decide +kernel) (by decide +kernel)
theorem q2_80 : (Jvm.Cond.code ({ cls := "TileWarden", name := "arePursesRight", desc := "()Z" } : Jvm.MethodName) prog_1_method_44_code (3 : Nat) (Option.some Jvm.ClassFile.FieldType.boolean)) ∈ lwG := lwG_2 80 (by decide +kernel) (by decide +kernel)
theorem q2_81 : (Jvm.Cond.classLink "TileWarden" (79 : Nat) "TileWarden$Player") ∈ lwG := lwG_2 81 (by decide +kernel) (by decide +kernel)
theorem q2_82 : (Jvm.Cond.methodLink "TileWarden" (350 : Nat) ({ cls := "TileWarden", name := "paidForGood", desc := "(LTileWarden$Player;)I" } : Jvm.MethodName)) ∈ lwG := lwG_2 82 (by decide +kernel) (by decide +kernel)
theorem q2_83 : (Jvm.Cond.privateMethod ({ cls := "TileWarden", name := "paidForGood", desc := "(LTileWarden$Player;)I" } : Jvm.MethodName)) ∈ tables_1 := lwT_2 83 (by decide +kernel)
theorem q2_84 : (Jvm.Cond.instanceMethod ({ cls := "TileWarden", name := "paidForGood", desc := "(LTileWarden$Player;)I" } : Jvm.MethodName)) ∈ lwG := lwG_2 84 (by decide +kernel) (by decide +kernel)
theorem q2_85 : (Jvm.Cond.code ({ cls := "TileWarden", name := "paidForGood", desc := "(LTileWarden$Player;)I" } : Jvm.MethodName) prog_1_method_45_code (5 : Nat) (Option.some Jvm.ClassFile.FieldType.int)) ∈ lwG := lwG_2 85 (by decide +kernel) (by decide +kernel)
theorem q2_86 : (Jvm.Cond.methodLink "TileWardenLaw" (104 : Nat) ({ cls := "TileWardenLaw", name := "addPlayer", desc := "(LTileWarden;I[J)I" } : Jvm.MethodName)) ∈ lwG := lwG_2 86 (by decide +kernel) (by decide +kernel)
theorem q2_87 : (Jvm.Cond.static ({ cls := "TileWardenLaw", name := "addPlayer", desc := "(LTileWarden;I[J)I" } : Jvm.MethodName)) ∈ lwG := lwG_2 87 (by decide +kernel) (by decide +kernel)
theorem q2_88 : (Jvm.Cond.codeWith ({ cls := "TileWardenLaw", name := "addPlayer", desc := "(LTileWarden;I[J)I" } : Jvm.MethodName) method_3_code (4 : Nat) (Option.some Jvm.ClassFile.FieldType.int) [((0 : Nat), (9 : Nat), (12 : Nat), (13 : Nat)), ((0 : Nat), (9 : Nat), (15 : Nat), (15 : Nat))]) ∈ lwG := lwG_2 88 (by decide +kernel) (by decide +kernel)
theorem q2_89 : (Jvm.Cond.classLink "TileWardenLaw" (13 : Nat) "java/lang/IllegalArgumentException") ∈ lwG := lwG_2 89 (by decide +kernel) (by decide +kernel)
theorem q2_90 : (Jvm.Cond.classLink "TileWardenLaw" (15 : Nat) "java/lang/IllegalStateException") ∈ lwG := lwG_2 90 (by decide +kernel) (by decide +kernel)
theorem q2_91 : (Jvm.Cond.methodLink "TileWardenLaw" (7 : Nat) ({ cls := "TileWarden", name := "addPlayer", desc := "(I)I" } : Jvm.MethodName)) ∈ lwG := lwG_2 91 (by decide +kernel) (by decide +kernel)
theorem q2_92 : (Jvm.Cond.instanceMethod ({ cls := "TileWarden", name := "addPlayer", desc := "(I)I" } : Jvm.MethodName)) ∈ lwG := lwG_2 92 (by decide +kernel) (by decide +kernel)
theorem q2_93 : (Jvm.Cond.selects "TileWarden" ({ cls := "TileWarden", name := "addPlayer", desc := "(I)I" } : Jvm.MethodName) ({ cls := "TileWarden", name := "addPlayer", desc := "(I)I" } : Jvm.MethodName)) ∈ lwG := lwG_2 93 (by decide +kernel) (by decide +kernel)
theorem q2_94 : (Jvm.Cond.code ({ cls := "TileWarden", name := "addPlayer", desc := "(I)I" } : Jvm.MethodName) prog_1_method_2_code (2 : Nat) (Option.some Jvm.ClassFile.FieldType.int)) ∈ lwG := lwG_2 94 (by decide +kernel) (by decide +kernel)
theorem q2_95 : (Jvm.Cond.classLink "TileWarden" (63 : Nat) "java/lang/IllegalArgumentException") ∈ lwG := lwG_2 95 (by decide +kernel) (by decide +kernel)
theorem q2_96 : (Jvm.Cond.instantiable "java/lang/IllegalArgumentException" (6 : Nat)) ∈ lwG := lwG_2 96 (by decide +kernel) (by decide +kernel)
theorem q2_97 : (Jvm.Cond.castable "java/lang/IllegalArgumentException" "java/lang/IllegalArgumentException") ∈ tables_1 := lwT_2 97 (by decide +kernel)
theorem q2_98 : (Jvm.Cond.declares ({ cls := "java/lang/RuntimeException", name := "<init>", desc := "()V" } : Jvm.MethodName)) ∈ tables_1 := lwT_2 98 (by decide +kernel)
theorem q2_99 : (Jvm.Cond.declares ({ cls := "java/lang/RuntimeException", name := "<init>", desc := "(Ljava/lang/String;)V" } : Jvm.MethodName)) ∈ tables_1 := lwT_2 99 (by decide +kernel)
theorem q2_100 : (Jvm.Cond.declares ({ cls := "java/lang/Exception", name := "<init>", desc := "()V" } : Jvm.MethodName)) ∈ tables_1 := lwT_2 100 (by decide +kernel)
theorem q2_101 : (Jvm.Cond.declares ({ cls := "java/lang/Exception", name := "<init>", desc := "(Ljava/lang/String;)V" } : Jvm.MethodName)) ∈ tables_1 := lwT_2 101 (by decide +kernel)
theorem q2_102 : (Jvm.Cond.declares ({ cls := "java/lang/Throwable", name := "<init>", desc := "()V" } : Jvm.MethodName)) ∈ tables_1 := lwT_2 102 (by decide +kernel)
theorem q2_103 : (Jvm.Cond.declares ({ cls := "java/lang/Throwable", name := "<init>", desc := "(Ljava/lang/String;)V" } : Jvm.MethodName)) ∈ tables_1 := lwT_2 103 (by decide +kernel)
theorem q2_104 : (Jvm.Cond.selects "java/lang/IllegalArgumentException" ({ cls := "java/lang/Throwable", name := "fillInStackTrace", desc := "(I)Ljava/lang/Throwable;" } : Jvm.MethodName) ({ cls := "java/lang/Throwable", name := "fillInStackTrace", desc := "(I)Ljava/lang/Throwable;" } : Jvm.MethodName)) ∈ lwG := lwG_2 104 (by decide +kernel) (by decide +kernel)
theorem q2_105 : (Jvm.Cond.selects "java/lang/IllegalArgumentException" ({ cls := "java/lang/Throwable", name := "fillInStackTrace", desc := "()Ljava/lang/Throwable;" } : Jvm.MethodName) ({ cls := "java/lang/Throwable", name := "fillInStackTrace", desc := "()Ljava/lang/Throwable;" } : Jvm.MethodName)) ∈ lwG := lwG_2 105 (by decide +kernel) (by decide +kernel)
theorem q2_106 : (Jvm.Cond.lays "java/lang/IllegalArgumentException" "java/lang/Throwable" "cause" "Ljava/lang/Throwable;") ∈ lwG := lwG_2 106 (by decide +kernel) (by decide +kernel)
theorem q2_107 : (Jvm.Cond.lays "java/lang/Throwable" "java/lang/Throwable" "cause" "Ljava/lang/Throwable;") ∈ lwG := lwG_2 107 (by decide +kernel) (by decide +kernel)
theorem q2_108 : (Jvm.Cond.lays "java/lang/IllegalArgumentException" "java/lang/Throwable" "stackTrace" "[Ljava/lang/StackTraceElement;") ∈ lwG := lwG_2 108 (by decide +kernel) (by decide +kernel)
theorem q2_109 : (Jvm.Cond.lays "java/lang/Throwable" "java/lang/Throwable" "stackTrace" "[Ljava/lang/StackTraceElement;") ∈ lwG := lwG_2 109 (by decide +kernel) (by decide +kernel)
theorem q2_110 : (Jvm.Cond.lays "java/lang/IllegalArgumentException" "java/lang/Throwable" "suppressedExceptions" "Ljava/util/List;") ∈ lwG := lwG_2 110 (by decide +kernel) (by decide +kernel)
theorem q2_111 : (Jvm.Cond.lays "java/lang/Throwable" "java/lang/Throwable" "suppressedExceptions" "Ljava/util/List;") ∈ lwG := lwG_2 111 (by decide +kernel) (by decide +kernel)
theorem q2_112 : (Jvm.Cond.lays "java/lang/IllegalArgumentException" "java/lang/Throwable" "detailMessage" "Ljava/lang/String;") ∈ lwG := lwG_2 112 (by decide +kernel) (by decide +kernel)
theorem q2_113 : (Jvm.Cond.lays "java/lang/Throwable" "java/lang/Throwable" "detailMessage" "Ljava/lang/String;") ∈ lwG := lwG_2 113 (by decide +kernel) (by decide +kernel)
theorem q2_114 : (Jvm.Cond.lays "java/lang/IllegalArgumentException" "java/lang/Throwable" "backtrace" "Ljava/lang/Object;") ∈ lwG := lwG_2 114 (by decide +kernel) (by decide +kernel)
theorem q2_115 : (Jvm.Cond.lays "java/lang/Throwable" "java/lang/Throwable" "backtrace" "Ljava/lang/Object;") ∈ lwG := lwG_2 115 (by decide +kernel) (by decide +kernel)
theorem q2_116 : (Jvm.Cond.fieldLink "java/lang/Throwable" (198 : Nat) "java/lang/Throwable" "backtrace" "Ljava/lang/Object;") ∈ lwG := lwG_2 116 (by decide +kernel) (by decide +kernel)
theorem q2_117 : (Jvm.Cond.superclass "java/lang/Throwable" "java/lang/Object") ∈ lwG := lwG_2 117 (by decide +kernel) (by decide +kernel)
theorem q2_118 : (Jvm.Cond.instanceMethod ({ cls := "java/lang/Throwable", name := "<init>", desc := "()V" } : Jvm.MethodName)) ∈ lwG := lwG_2 118 (by decide +kernel) (by decide +kernel)
theorem q2_119 : (Jvm.Cond.code ({ cls := "java/lang/Throwable", name := "<init>", desc := "()V" } : Jvm.MethodName) prog_24_method_1_code (1 : Nat) (Option.none : Option Jvm.ClassFile.FieldType)) ∈ lwG := lwG_2 119 (by decide +kernel) (by decide +kernel)
theorem q2_120 : (Jvm.Cond.methodLink "java/lang/Throwable" (1 : Nat) ({ cls := "java/lang/Object", name := "<init>", desc := "()V" } : Jvm.MethodName)) ∈ lwG := lwG_2 120 (by decide +kernel) (by decide +kernel)
theorem q2_121 : (Jvm.Cond.fieldLink "java/lang/Throwable" (13 : Nat) "java/lang/Throwable" "UNASSIGNED_STACK" "[Ljava/lang/StackTraceElement;") ∈ lwG := lwG_2 121 (by decide +kernel) (by decide +kernel)
theorem q2_122 : (Jvm.Cond.laysStatic "java/lang/Throwable" "UNASSIGNED_STACK" "[Ljava/lang/StackTraceElement;") ∈ tables_1 := lwT_2 122 (by decide +kernel)
theorem q2_123 : (Jvm.Cond.fieldLink "java/lang/Throwable" (20 : Nat) "java/lang/Throwable" "SUPPRESSED_SENTINEL" "Ljava/util/List;") ∈ lwG := lwG_2 123 (by decide +kernel) (by decide +kernel)
theorem q2_124 : (Jvm.Cond.laysStatic "java/lang/Throwable" "SUPPRESSED_SENTINEL" "Ljava/util/List;") ∈ tables_1 := lwT_2 124 (by decide +kernel)
theorem q2_125 : (Jvm.Cond.methodLink "java/lang/Throwable" (27 : Nat) ({ cls := "java/lang/Throwable", name := "fillInStackTrace", desc := "()Ljava/lang/Throwable;" } : Jvm.MethodName)) ∈ lwG := lwG_2 125 (by decide +kernel) (by decide +kernel)
theorem q2_126 : (Jvm.Cond.instanceMethod ({ cls := "java/lang/Throwable", name := "fillInStackTrace", desc := "()Ljava/lang/Throwable;" } : Jvm.MethodName)) ∈ lwG := lwG_2 126 (by decide +kernel) (by decide +kernel)
theorem q2_127 : (Jvm.Cond.sameMethod "java/lang/Throwable" "java/lang/Throwable" "fillInStackTrace" "()Ljava/lang/Throwable;") ∈ lwG := lwG_2 127 (by decide +kernel) (by decide +kernel)
theorem q2_128 : (Jvm.Cond.selects "java/lang/ArithmeticException" ({ cls := "java/lang/Throwable", name := "fillInStackTrace", desc := "()Ljava/lang/Throwable;" } : Jvm.MethodName) ({ cls := "java/lang/Throwable", name := "fillInStackTrace", desc := "()Ljava/lang/Throwable;" } : Jvm.MethodName)) ∈ lwG := lwG_2 128 (by decide +kernel) (by decide +kernel)
theorem q2_129 : (Jvm.Cond.selects "java/lang/ArrayIndexOutOfBoundsException" ({ cls := "java/lang/Throwable", name := "fillInStackTrace", desc := "()Ljava/lang/Throwable;" } : Jvm.MethodName) ({ cls := "java/lang/Throwable", name := "fillInStackTrace", desc := "()Ljava/lang/Throwable;" } : Jvm.MethodName)) ∈ lwG := lwG_2 129 (by decide +kernel) (by decide +kernel)
theorem q2_130 : (Jvm.Cond.selects "java/lang/IllegalStateException" ({ cls := "java/lang/Throwable", name := "fillInStackTrace", desc := "()Ljava/lang/Throwable;" } : Jvm.MethodName) ({ cls := "java/lang/Throwable", name := "fillInStackTrace", desc := "()Ljava/lang/Throwable;" } : Jvm.MethodName)) ∈ lwG := lwG_2 130 (by decide +kernel) (by decide +kernel)
theorem q2_131 : (Jvm.Cond.selects "java/lang/IndexOutOfBoundsException" ({ cls := "java/lang/Throwable", name := "fillInStackTrace", desc := "()Ljava/lang/Throwable;" } : Jvm.MethodName) ({ cls := "java/lang/Throwable", name := "fillInStackTrace", desc := "()Ljava/lang/Throwable;" } : Jvm.MethodName)) ∈ lwG := lwG_2 131 (by decide +kernel) (by decide +kernel)
theorem q2_132 : (Jvm.Cond.selects "java/lang/UnsupportedOperationException" ({ cls := "java/lang/Throwable", name := "fillInStackTrace", desc := "()Ljava/lang/Throwable;" } : Jvm.MethodName) ({ cls := "java/lang/Throwable", name := "fillInStackTrace", desc := "()Ljava/lang/Throwable;" } : Jvm.MethodName)) ∈ lwG := lwG_2 132 (by decide +kernel) (by decide +kernel)
theorem q2_133 : (Jvm.Cond.selects "java/util/NoSuchElementException" ({ cls := "java/lang/Throwable", name := "fillInStackTrace", desc := "()Ljava/lang/Throwable;" } : Jvm.MethodName) ({ cls := "java/lang/Throwable", name := "fillInStackTrace", desc := "()Ljava/lang/Throwable;" } : Jvm.MethodName)) ∈ lwG := lwG_2 133 (by decide +kernel) (by decide +kernel)
theorem q2_134 : (Jvm.Cond.codeSync ({ cls := "java/lang/Throwable", name := "fillInStackTrace", desc := "()Ljava/lang/Throwable;" } : Jvm.MethodName) prog_24_method_18_code (1 : Nat) (Option.some (Jvm.ClassFile.FieldType.object "java/lang/Throwable"))) ∈ lwG := lwG_2 134 (by decide +kernel) (by decide +kernel)
theorem q2_135 : (Jvm.Cond.methodLink "java/lang/Throwable" (202 : Nat) ({ cls := "java/lang/Throwable", name := "fillInStackTrace", desc := "(I)Ljava/lang/Throwable;" } : Jvm.MethodName)) ∈ lwG := lwG_2 135 (by decide +kernel) (by decide +kernel)
theorem q2_136 : (Jvm.Cond.privateMethod ({ cls := "java/lang/Throwable", name := "fillInStackTrace", desc := "(I)Ljava/lang/Throwable;" } : Jvm.MethodName)) ∈ tables_1 := lwT_2 136 (by decide +kernel)
theorem q2_137 : (Jvm.Cond.instanceMethod ({ cls := "java/lang/Throwable", name := "fillInStackTrace", desc := "(I)Ljava/lang/Throwable;" } : Jvm.MethodName)) ∈ lwG := lwG_2 137 (by decide +kernel) (by decide +kernel)
theorem q2_138 : (Jvm.Cond.instantiable "java/lang/Throwable" (6 : Nat)) ∈ lwG := lwG_2 138 (by decide +kernel) (by decide +kernel)
theorem q2_139 : (Jvm.Cond.native ({ cls := "java/lang/Throwable", name := "fillInStackTrace", desc := "(I)Ljava/lang/Throwable;" } : Jvm.MethodName)) ∈ lwG := lwG_2 139 (by decide +kernel) (by decide +kernel)
theorem q2_140 : (Jvm.Cond.stringRef "TileWarden" (65 : Nat) "the money is out of range") ∈ tables_1 := lwT_2 140 (by decide +kernel)
theorem q2_141 : (Jvm.Cond.methodLink "TileWarden" (67 : Nat) ({ cls := "java/lang/IllegalArgumentException", name := "<init>", desc := "(Ljava/lang/String;)V" } : Jvm.MethodName)) ∈ lwG := lwG_2 141 (by decide +kernel) (by decide +kernel)
theorem q2_142 : (Jvm.Cond.instanceMethod ({ cls := "java/lang/IllegalArgumentException", name := "<init>", desc := "(Ljava/lang/String;)V" } : Jvm.MethodName)) ∈ lwG := lwG_2 142 (by decide +kernel) (by decide +kernel)
theorem q2_143 : (Jvm.Cond.code ({ cls := "java/lang/IllegalArgumentException", name := "<init>", desc := "(Ljava/lang/String;)V" } : Jvm.MethodName) prog_16_method_2_code (2 : Nat) (Option.none : Option Jvm.ClassFile.FieldType)) ∈ lwG := lwG_2 143 (by decide +kernel) (by decide +kernel)
theorem q2_144 : (Jvm.Cond.methodLink "java/lang/IllegalArgumentException" (7 : Nat) ({ cls := "java/lang/RuntimeException", name := "<init>", desc := "(Ljava/lang/String;)V" } : Jvm.MethodName)) ∈ lwG := lwG_2 144 (by decide +kernel) (by decide +kernel)
theorem q2_145 : (Jvm.Cond.instanceMethod ({ cls := "java/lang/RuntimeException", name := "<init>", desc := "(Ljava/lang/String;)V" } : Jvm.MethodName)) ∈ lwG := lwG_2 145 (by decide +kernel) (by decide +kernel)
theorem q2_146 : (Jvm.Cond.code ({ cls := "java/lang/RuntimeException", name := "<init>", desc := "(Ljava/lang/String;)V" } : Jvm.MethodName) prog_21_method_2_code (2 : Nat) (Option.none : Option Jvm.ClassFile.FieldType)) ∈ lwG := lwG_2 146 (by decide +kernel) (by decide +kernel)
theorem q2_147 : (Jvm.Cond.methodLink "java/lang/RuntimeException" (7 : Nat) ({ cls := "java/lang/Exception", name := "<init>", desc := "(Ljava/lang/String;)V" } : Jvm.MethodName)) ∈ lwG := lwG_2 147 (by decide +kernel) (by decide +kernel)
theorem q2_148 : (Jvm.Cond.instanceMethod ({ cls := "java/lang/Exception", name := "<init>", desc := "(Ljava/lang/String;)V" } : Jvm.MethodName)) ∈ lwG := lwG_2 148 (by decide +kernel) (by decide +kernel)
theorem q2_149 : (Jvm.Cond.code ({ cls := "java/lang/Exception", name := "<init>", desc := "(Ljava/lang/String;)V" } : Jvm.MethodName) prog_15_method_2_code (2 : Nat) (Option.none : Option Jvm.ClassFile.FieldType)) ∈ lwG := lwG_2 149 (by decide +kernel) (by decide +kernel)
theorem q2_150 : (Jvm.Cond.methodLink "java/lang/Exception" (7 : Nat) ({ cls := "java/lang/Throwable", name := "<init>", desc := "(Ljava/lang/String;)V" } : Jvm.MethodName)) ∈ lwG := lwG_2 150 (by decide +kernel) (by decide +kernel)
theorem q2_151 : (Jvm.Cond.instanceMethod ({ cls := "java/lang/Throwable", name := "<init>", desc := "(Ljava/lang/String;)V" } : Jvm.MethodName)) ∈ lwG := lwG_2 151 (by decide +kernel) (by decide +kernel)
theorem q2_152 : (Jvm.Cond.code ({ cls := "java/lang/Throwable", name := "<init>", desc := "(Ljava/lang/String;)V" } : Jvm.MethodName) prog_24_method_2_code (2 : Nat) (Option.none : Option Jvm.ClassFile.FieldType)) ∈ lwG := lwG_2 152 (by decide +kernel) (by decide +kernel)
theorem q2_154 : (Jvm.Cond.fieldLink "java/lang/Throwable" (31 : Nat) "java/lang/Throwable" "detailMessage" "Ljava/lang/String;") ∈ lwG := lwG_2 154 (by decide +kernel) (by decide +kernel)
theorem q2_155 : (Jvm.Cond.fieldLink "java/lang/Throwable" (7 : Nat) "java/lang/Throwable" "cause" "Ljava/lang/Throwable;") ∈ lwG := lwG_2 155 (by decide +kernel) (by decide +kernel)
theorem q2_156 : (Jvm.Cond.fieldLink "java/lang/Throwable" (17 : Nat) "java/lang/Throwable" "stackTrace" "[Ljava/lang/StackTraceElement;") ∈ lwG := lwG_2 156 (by decide +kernel) (by decide +kernel)
theorem q2_157 : (Jvm.Cond.fieldLink "java/lang/Throwable" (24 : Nat) "java/lang/Throwable" "suppressedExceptions" "Ljava/util/List;") ∈ lwG := lwG_2 157 (by decide +kernel) (by decide +kernel)
theorem q2_158 : (Jvm.Cond.soleField "java/lang/Throwable" "backtrace") ∈ tables_1 := lwT_2 158 (by decide +kernel)
theorem q2_159 : (Jvm.Cond.soleField "java/lang/Throwable" "detailMessage") ∈ tables_1 := lwT_2 159 (by decide +kernel)
theorem q2_160 : (Jvm.Cond.soleField "java/lang/Throwable" "cause") ∈ tables_1 := lwT_2 160 (by decide +kernel)
theorem q2_161 : (Jvm.Cond.soleField "java/lang/Throwable" "stackTrace") ∈ tables_1 := lwT_2 161 (by decide +kernel)
theorem q2_162 : (Jvm.Cond.lays "java/lang/IllegalArgumentException" "java/lang/Throwable" "depth" "I") ∈ lwG := lwG_2 162 (by decide +kernel) (by decide +kernel)
theorem q2_163 : (Jvm.Cond.soleField "java/lang/Throwable" "depth") ∈ tables_1 := lwT_2 163 (by decide +kernel)
theorem q2_164 : (Jvm.Cond.soleField "java/lang/Throwable" "suppressedExceptions") ∈ tables_1 := lwT_2 164 (by decide +kernel)
theorem q2_165 : (Jvm.Cond.superclass "java/lang/IllegalArgumentException" "java/lang/RuntimeException") ∈ lwG := lwG_2 165 (by decide +kernel) (by decide +kernel)
theorem q2_166 : (Jvm.Cond.arrayClass Jvm.ClassFile.FieldType.byte) ∈ lwG := lwG_2 166 (by decide +kernel) (by decide +kernel)
theorem q2_167 : (Jvm.Cond.classLink "TileWarden" (74 : Nat) "java/lang/IllegalStateException") ∈ lwG := lwG_2 167 (by decide +kernel) (by decide +kernel)
theorem q2_168 : (Jvm.Cond.instantiable "java/lang/IllegalStateException" (6 : Nat)) ∈ lwG := lwG_2 168 (by decide +kernel) (by decide +kernel)
theorem q2_169 : (Jvm.Cond.castable "java/lang/IllegalStateException" "java/lang/IllegalStateException") ∈ tables_1 := lwT_2 169 (by decide +kernel)
theorem q2_170 : (Jvm.Cond.selects "java/lang/IllegalStateException" ({ cls := "java/lang/Throwable", name := "fillInStackTrace", desc := "(I)Ljava/lang/Throwable;" } : Jvm.MethodName) ({ cls := "java/lang/Throwable", name := "fillInStackTrace", desc := "(I)Ljava/lang/Throwable;" } : Jvm.MethodName)) ∈ lwG := lwG_2 170 (by decide +kernel) (by decide +kernel)
theorem q2_171 : (Jvm.Cond.lays "java/lang/IllegalStateException" "java/lang/Throwable" "cause" "Ljava/lang/Throwable;") ∈ lwG := lwG_2 171 (by decide +kernel) (by decide +kernel)
theorem q2_172 : (Jvm.Cond.lays "java/lang/IllegalStateException" "java/lang/Throwable" "stackTrace" "[Ljava/lang/StackTraceElement;") ∈ lwG := lwG_2 172 (by decide +kernel) (by decide +kernel)
theorem q2_173 : (Jvm.Cond.lays "java/lang/IllegalStateException" "java/lang/Throwable" "suppressedExceptions" "Ljava/util/List;") ∈ lwG := lwG_2 173 (by decide +kernel) (by decide +kernel)
theorem q2_174 : (Jvm.Cond.lays "java/lang/IllegalStateException" "java/lang/Throwable" "detailMessage" "Ljava/lang/String;") ∈ lwG := lwG_2 174 (by decide +kernel) (by decide +kernel)
theorem q2_175 : (Jvm.Cond.lays "java/lang/IllegalStateException" "java/lang/Throwable" "backtrace" "Ljava/lang/Object;") ∈ lwG := lwG_2 175 (by decide +kernel) (by decide +kernel)
theorem q2_176 : (Jvm.Cond.stringRef "TileWarden" (76 : Nat) "there is no place for another player") ∈ tables_1 := lwT_2 176 (by decide +kernel)
theorem q2_177 : (Jvm.Cond.methodLink "TileWarden" (78 : Nat) ({ cls := "java/lang/IllegalStateException", name := "<init>", desc := "(Ljava/lang/String;)V" } : Jvm.MethodName)) ∈ lwG := lwG_2 177 (by decide +kernel) (by decide +kernel)
theorem q2_178 : (Jvm.Cond.instanceMethod ({ cls := "java/lang/IllegalStateException", name := "<init>", desc := "(Ljava/lang/String;)V" } : Jvm.MethodName)) ∈ lwG := lwG_2 178 (by decide +kernel) (by decide +kernel)
theorem q2_179 : (Jvm.Cond.code ({ cls := "java/lang/IllegalStateException", name := "<init>", desc := "(Ljava/lang/String;)V" } : Jvm.MethodName) prog_17_method_2_code (2 : Nat) (Option.none : Option Jvm.ClassFile.FieldType)) ∈ lwG := lwG_2 179 (by decide +kernel) (by decide +kernel)
theorem q2_180 : (Jvm.Cond.methodLink "java/lang/IllegalStateException" (7 : Nat) ({ cls := "java/lang/RuntimeException", name := "<init>", desc := "(Ljava/lang/String;)V" } : Jvm.MethodName)) ∈ lwG := lwG_2 180 (by decide +kernel) (by decide +kernel)
theorem q2_181 : (Jvm.Cond.lays "java/lang/IllegalStateException" "java/lang/Throwable" "depth" "I") ∈ lwG := lwG_2 181 (by decide +kernel) (by decide +kernel)
theorem q2_182 : (Jvm.Cond.superclass "java/lang/IllegalStateException" "java/lang/RuntimeException") ∈ lwG := lwG_2 182 (by decide +kernel) (by decide +kernel)
theorem q2_183 : (Jvm.Cond.instantiable "TileWarden$Player" (3 : Nat)) ∈ lwG := lwG_2 183 (by decide +kernel) (by decide +kernel)
theorem q2_184 : (Jvm.Cond.methodLink "TileWarden" (81 : Nat) ({ cls := "TileWarden$Player", name := "<init>", desc := "(II)V" } : Jvm.MethodName)) ∈ lwG := lwG_2 184 (by decide +kernel) (by decide +kernel)
theorem q2_185 : (Jvm.Cond.instanceMethod ({ cls := "TileWarden$Player", name := "<init>", desc := "(II)V" } : Jvm.MethodName)) ∈ lwG := lwG_2 185 (by decide +kernel) (by decide +kernel)
theorem q2_186 : (Jvm.Cond.code ({ cls := "TileWarden$Player", name := "<init>", desc := "(II)V" } : Jvm.MethodName) prog_6_method_1_code (3 : Nat) (Option.none : Option Jvm.ClassFile.FieldType)) ∈ lwG := lwG_2 186 (by decide +kernel) (by decide +kernel)
theorem q2_187 : (Jvm.Cond.methodLink "TileWarden$Player" (1 : Nat) ({ cls := "java/lang/Object", name := "<init>", desc := "()V" } : Jvm.MethodName)) ∈ lwG := lwG_2 187 (by decide +kernel) (by decide +kernel)
theorem q2_188 : (Jvm.Cond.fieldLink "TileWarden$Player" (7 : Nat) "TileWarden$Player" "number" "I") ∈ lwG := lwG_2 188 (by decide +kernel) (by decide +kernel)
theorem q2_189 : (Jvm.Cond.fieldLink "TileWarden$Trace" (13 : Nat) "TileWarden$Player" "number" "I") ∈ lwG := lwG_2 189 (by decide +kernel) (by decide +kernel)
theorem q2_190 : (Jvm.Cond.fieldLink "TileWarden" (328 : Nat) "TileWarden$Player" "number" "I") ∈ lwG := lwG_2 190 (by decide +kernel) (by decide +kernel)
theorem q2_191 : (Jvm.Cond.fieldLink "TileWarden$Player" (13 : Nat) "TileWarden$Player" "moneyAtFirst" "I") ∈ lwG := lwG_2 191 (by decide +kernel) (by decide +kernel)
theorem q2_192 : (Jvm.Cond.fieldLink "TileWarden" (347 : Nat) "TileWarden$Player" "moneyAtFirst" "I") ∈ lwG := lwG_2 192 (by decide +kernel) (by decide +kernel)
theorem q2_193 : (Jvm.Cond.fieldLink "TileWarden$Player" (16 : Nat) "TileWarden$Player" "money" "I") ∈ lwG := lwG_2 193 (by decide +kernel) (by decide +kernel)
theorem q2_194 : (Jvm.Cond.fieldLink "TileWarden" (172 : Nat) "TileWarden$Player" "money" "I") ∈ lwG := lwG_2 194 (by decide +kernel) (by decide +kernel)
theorem q2_195 : (Jvm.Cond.laysFinal "TileWarden$Player" "TileWarden$Player" "number" "I") ∈ lwG := lwG_2 195 (by decide +kernel) (by decide +kernel)
theorem q2_196 : (Jvm.Cond.soleField "TileWarden$Player" "number") ∈ tables_1 := lwT_2 196 (by decide +kernel)
theorem q2_197 : (Jvm.Cond.laysFinal "TileWarden$Player" "TileWarden$Player" "moneyAtFirst" "I") ∈ lwG := lwG_2 197 (by decide +kernel) (by decide +kernel)
theorem q2_198 : (Jvm.Cond.soleField "TileWarden$Player" "moneyAtFirst") ∈ tables_1 := lwT_2 198 (by decide +kernel)
theorem q2_199 : (Jvm.Cond.lays "TileWarden$Player" "TileWarden$Player" "money" "I") ∈ lwG := lwG_2 199 (by decide +kernel) (by decide +kernel)
theorem q2_200 : (Jvm.Cond.soleField "TileWarden$Player" "money") ∈ tables_1 := lwT_2 200 (by decide +kernel)
theorem q2_201 : (Jvm.Cond.superclass "TileWarden$Player" "java/lang/Object") ∈ lwG := lwG_2 201 (by decide +kernel) (by decide +kernel)
theorem q2_202 : (Jvm.Cond.methodLink "TileWarden" (84 : Nat) ({ cls := "java/util/ArrayList", name := "add", desc := "(Ljava/lang/Object;)Z" } : Jvm.MethodName)) ∈ lwG := lwG_2 202 (by decide +kernel) (by decide +kernel)
theorem q2_203 : (Jvm.Cond.instanceMethod ({ cls := "java/util/ArrayList", name := "add", desc := "(Ljava/lang/Object;)Z" } : Jvm.MethodName)) ∈ lwG := lwG_2 203 (by decide +kernel) (by decide +kernel)
theorem q2_204 : (Jvm.Cond.selects "java/util/ArrayList" ({ cls := "java/util/ArrayList", name := "add", desc := "(Ljava/lang/Object;)Z" } : Jvm.MethodName) ({ cls := "java/util/ArrayList", name := "add", desc := "(Ljava/lang/Object;)Z" } : Jvm.MethodName)) ∈ lwG := lwG_2 204 (by decide +kernel) (by decide +kernel)
theorem q2_205 : (Jvm.Cond.code ({ cls := "java/util/ArrayList", name := "add", desc := "(Ljava/lang/Object;)Z" } : Jvm.MethodName) prog_28_method_25_code (2 : Nat) (Option.some Jvm.ClassFile.FieldType.boolean)) ∈ lwG := lwG_2 205 (by decide +kernel) (by decide +kernel)
theorem q2_206 : (Jvm.Cond.methodLink "java/util/ArrayList" (131 : Nat) ({ cls := "java/util/ArrayList", name := "add", desc := "(Ljava/lang/Object;[Ljava/lang/Object;I)V" } : Jvm.MethodName)) ∈ lwG := lwG_2 206 (by decide +kernel) (by decide +kernel)
theorem q2_207 : (Jvm.Cond.privateMethod ({ cls := "java/util/ArrayList", name := "add", desc := "(Ljava/lang/Object;[Ljava/lang/Object;I)V" } : Jvm.MethodName)) ∈ tables_1 := lwT_2 207 (by decide +kernel)
theorem q2_208 : (Jvm.Cond.instanceMethod ({ cls := "java/util/ArrayList", name := "add", desc := "(Ljava/lang/Object;[Ljava/lang/Object;I)V" } : Jvm.MethodName)) ∈ lwG := lwG_2 208 (by decide +kernel) (by decide +kernel)
theorem q2_209 : (Jvm.Cond.code ({ cls := "java/util/ArrayList", name := "add", desc := "(Ljava/lang/Object;[Ljava/lang/Object;I)V" } : Jvm.MethodName) prog_28_method_24_code (4 : Nat) (Option.none : Option Jvm.ClassFile.FieldType)) ∈ lwG := lwG_2 209 (by decide +kernel) (by decide +kernel)
theorem q2_210 : (Jvm.Cond.methodLink "java/util/ArrayList" (129 : Nat) ({ cls := "java/util/ArrayList", name := "grow", desc := "()[Ljava/lang/Object;" } : Jvm.MethodName)) ∈ lwG := lwG_2 210 (by decide +kernel) (by decide +kernel)
theorem q2_211 : (Jvm.Cond.privateMethod ({ cls := "java/util/ArrayList", name := "grow", desc := "()[Ljava/lang/Object;" } : Jvm.MethodName)) ∈ tables_1 := lwT_2 211 (by decide +kernel)
theorem q2_212 : (Jvm.Cond.instanceMethod ({ cls := "java/util/ArrayList", name := "grow", desc := "()[Ljava/lang/Object;" } : Jvm.MethodName)) ∈ lwG := lwG_2 212 (by decide +kernel) (by decide +kernel)
theorem q2_213 : (Jvm.Cond.code ({ cls := "java/util/ArrayList", name := "grow", desc := "()[Ljava/lang/Object;" } : Jvm.MethodName) prog_28_method_7_code (1 : Nat) (Option.some (Jvm.ClassFile.FieldType.array (Jvm.ClassFile.FieldType.object "java/lang/Object")))) ∈ lwG := lwG_2 213 (by decide +kernel) (by decide +kernel)
theorem q2_214 : (Jvm.Cond.methodLink "java/util/ArrayList" (69 : Nat) ({ cls := "java/util/ArrayList", name := "grow", desc := "(I)[Ljava/lang/Object;" } : Jvm.MethodName)) ∈ lwG := lwG_2 214 (by decide +kernel) (by decide +kernel)
theorem q2_215 : (Jvm.Cond.privateMethod ({ cls := "java/util/ArrayList", name := "grow", desc := "(I)[Ljava/lang/Object;" } : Jvm.MethodName)) ∈ tables_1 := lwT_2 215 (by decide +kernel)
theorem q2_216 : (Jvm.Cond.instanceMethod ({ cls := "java/util/ArrayList", name := "grow", desc := "(I)[Ljava/lang/Object;" } : Jvm.MethodName)) ∈ lwG := lwG_2 216 (by decide +kernel) (by decide +kernel)
theorem q2_217 : (Jvm.Cond.code ({ cls := "java/util/ArrayList", name := "grow", desc := "(I)[Ljava/lang/Object;" } : Jvm.MethodName) prog_28_method_6_code (4 : Nat) (Option.some (Jvm.ClassFile.FieldType.array (Jvm.ClassFile.FieldType.object "java/lang/Object")))) ∈ lwG := lwG_2 217 (by decide +kernel) (by decide +kernel)
theorem q2_218 : (Jvm.Cond.methodLink "java/util/ArrayList" (73 : Nat) ({ cls := "jdk/internal/util/ArraysSupport", name := "newLength", desc := "(III)I" } : Jvm.MethodName)) ∈ lwG := lwG_2 218 (by decide +kernel) (by decide +kernel)
theorem q2_219 : (Jvm.Cond.static ({ cls := "jdk/internal/util/ArraysSupport", name := "newLength", desc := "(III)I" } : Jvm.MethodName)) ∈ lwG := lwG_2 219 (by decide +kernel) (by decide +kernel)
theorem q2_220 : (Jvm.Cond.code ({ cls := "jdk/internal/util/ArraysSupport", name := "newLength", desc := "(III)I" } : Jvm.MethodName) prog_36_method_27_code (4 : Nat) (Option.some Jvm.ClassFile.FieldType.int)) ∈ lwG := lwG_2 220 (by decide +kernel) (by decide +kernel)
theorem q2_221 : (Jvm.Cond.methodLink "jdk/internal/util/ArraysSupport" (194 : Nat) ({ cls := "java/lang/Math", name := "max", desc := "(II)I" } : Jvm.MethodName)) ∈ lwG := lwG_2 221 (by decide +kernel) (by decide +kernel)
theorem q2_222 : (Jvm.Cond.constant "jdk/internal/util/ArraysSupport" (200 : Nat) (2147483639 : Int32)) ∈ lwG := lwG_2 222 (by decide +kernel) (by decide +kernel)
theorem q2_223 : (Jvm.Cond.methodLink "jdk/internal/util/ArraysSupport" (201 : Nat) ({ cls := "jdk/internal/util/ArraysSupport", name := "hugeLength", desc := "(II)I" } : Jvm.MethodName)) ∈ lwG := lwG_2 223 (by decide +kernel) (by decide +kernel)
theorem q2_224 : (Jvm.Cond.static ({ cls := "jdk/internal/util/ArraysSupport", name := "hugeLength", desc := "(II)I" } : Jvm.MethodName)) ∈ lwG := lwG_2 224 (by decide +kernel) (by decide +kernel)
theorem q2_225 : (Jvm.Cond.code ({ cls := "jdk/internal/util/ArraysSupport", name := "hugeLength", desc := "(II)I" } : Jvm.MethodName) prog_36_method_28_code (3 : Nat) (Option.some Jvm.ClassFile.FieldType.int)) ∈ lwG := lwG_2 225 (by decide +kernel) (by decide +kernel)
theorem q2_226 : (Jvm.Cond.methodLink "java/util/ArrayList" (66 : Nat) ({ cls := "java/util/Arrays", name := "copyOf", desc := "([Ljava/lang/Object;I)[Ljava/lang/Object;" } : Jvm.MethodName)) ∈ lwG := lwG_2 226 (by decide +kernel) (by decide +kernel)
theorem q2_227 : (Jvm.Cond.static ({ cls := "java/util/Arrays", name := "copyOf", desc := "([Ljava/lang/Object;I)[Ljava/lang/Object;" } : Jvm.MethodName)) ∈ lwG := lwG_2 227 (by decide +kernel) (by decide +kernel)
theorem q2_228 : (Jvm.Cond.code ({ cls := "java/util/Arrays", name := "copyOf", desc := "([Ljava/lang/Object;I)[Ljava/lang/Object;" } : Jvm.MethodName) prog_29_method_119_code (2 : Nat) (Option.some (Jvm.ClassFile.FieldType.array (Jvm.ClassFile.FieldType.object "java/lang/Object")))) ∈ lwG := lwG_2 228 (by decide +kernel) (by decide +kernel)
theorem q2_229 : (Jvm.Cond.methodLink "java/util/Arrays" (86 : Nat) ({ cls := "java/lang/Object", name := "getClass", desc := "()Ljava/lang/Class;" } : Jvm.MethodName)) ∈ lwG := lwG_2 229 (by decide +kernel) (by decide +kernel)
theorem q2_230 : (Jvm.Cond.instanceMethod ({ cls := "java/lang/Object", name := "getClass", desc := "()Ljava/lang/Class;" } : Jvm.MethodName)) ∈ lwG := lwG_2 230 (by decide +kernel) (by decide +kernel)
theorem q2_231 : (Jvm.Cond.sameMethod "java/lang/Object" "java/lang/Object" "getClass" "()Ljava/lang/Class;") ∈ lwG := lwG_2 231 (by decide +kernel) (by decide +kernel)
theorem q2_232 : (Jvm.Cond.selects "TileWarden" ({ cls := "java/lang/Object", name := "getClass", desc := "()Ljava/lang/Class;" } : Jvm.MethodName) ({ cls := "java/lang/Object", name := "getClass", desc := "()Ljava/lang/Class;" } : Jvm.MethodName)) ∈ lwG := lwG_2 232 (by decide +kernel) (by decide +kernel)
theorem q2_233 : (Jvm.Cond.selects "TileWarden$Cache" ({ cls := "java/lang/Object", name := "getClass", desc := "()Ljava/lang/Class;" } : Jvm.MethodName) ({ cls := "java/lang/Object", name := "getClass", desc := "()Ljava/lang/Class;" } : Jvm.MethodName)) ∈ lwG := lwG_2 233 (by decide +kernel) (by decide +kernel)
theorem q2_234 : (Jvm.Cond.selects "TileWarden$Entry" ({ cls := "java/lang/Object", name := "getClass", desc := "()Ljava/lang/Class;" } : Jvm.MethodName) ({ cls := "java/lang/Object", name := "getClass", desc := "()Ljava/lang/Class;" } : Jvm.MethodName)) ∈ lwG := lwG_2 234 (by decide +kernel) (by decide +kernel)
theorem q2_235 : (Jvm.Cond.selects "TileWarden$Game" ({ cls := "java/lang/Object", name := "getClass", desc := "()Ljava/lang/Class;" } : Jvm.MethodName) ({ cls := "java/lang/Object", name := "getClass", desc := "()Ljava/lang/Class;" } : Jvm.MethodName)) ∈ lwG := lwG_2 235 (by decide +kernel) (by decide +kernel)
theorem q2_236 : (Jvm.Cond.selects "TileWarden$Player" ({ cls := "java/lang/Object", name := "getClass", desc := "()Ljava/lang/Class;" } : Jvm.MethodName) ({ cls := "java/lang/Object", name := "getClass", desc := "()Ljava/lang/Class;" } : Jvm.MethodName)) ∈ lwG := lwG_2 236 (by decide +kernel) (by decide +kernel)
theorem q2_237 : (Jvm.Cond.selects "TileWarden$Search" ({ cls := "java/lang/Object", name := "getClass", desc := "()Ljava/lang/Class;" } : Jvm.MethodName) ({ cls := "java/lang/Object", name := "getClass", desc := "()Ljava/lang/Class;" } : Jvm.MethodName)) ∈ lwG := lwG_2 237 (by decide +kernel) (by decide +kernel)
theorem q2_238 : (Jvm.Cond.selects "TileWarden$Trace" ({ cls := "java/lang/Object", name := "getClass", desc := "()Ljava/lang/Class;" } : Jvm.MethodName) ({ cls := "java/lang/Object", name := "getClass", desc := "()Ljava/lang/Class;" } : Jvm.MethodName)) ∈ lwG := lwG_2 238 (by decide +kernel) (by decide +kernel)
theorem q2_239 : (Jvm.Cond.selects "TileWardenModel" ({ cls := "java/lang/Object", name := "getClass", desc := "()Ljava/lang/Class;" } : Jvm.MethodName) ({ cls := "java/lang/Object", name := "getClass", desc := "()Ljava/lang/Class;" } : Jvm.MethodName)) ∈ lwG := lwG_2 239 (by decide +kernel) (by decide +kernel)
theorem q3_0 : (Jvm.Cond.selects "java/lang/ArithmeticException" ({ cls := "java/lang/Object", name := "getClass", desc := "()Ljava/lang/Class;" } : Jvm.MethodName) ({ cls := "java/lang/Object", name := "getClass", desc := "()Ljava/lang/Class;" } : Jvm.MethodName)) ∈ lwG := lwG_3 0 (by decide +kernel) (by decide +kernel)
theorem q3_1 : (Jvm.Cond.selects "java/lang/ArrayIndexOutOfBoundsException" ({ cls := "java/lang/Object", name := "getClass", desc := "()Ljava/lang/Class;" } : Jvm.MethodName) ({ cls := "java/lang/Object", name := "getClass", desc := "()Ljava/lang/Class;" } : Jvm.MethodName)) ∈ lwG := lwG_3 1 (by decide +kernel) (by decide +kernel)
theorem q3_2 : (Jvm.Cond.selects "java/lang/IllegalArgumentException" ({ cls := "java/lang/Object", name := "getClass", desc := "()Ljava/lang/Class;" } : Jvm.MethodName) ({ cls := "java/lang/Object", name := "getClass", desc := "()Ljava/lang/Class;" } : Jvm.MethodName)) ∈ lwG := lwG_3 2 (by decide +kernel) (by decide +kernel)
theorem q3_3 : (Jvm.Cond.selects "java/lang/IllegalStateException" ({ cls := "java/lang/Object", name := "getClass", desc := "()Ljava/lang/Class;" } : Jvm.MethodName) ({ cls := "java/lang/Object", name := "getClass", desc := "()Ljava/lang/Class;" } : Jvm.MethodName)) ∈ lwG := lwG_3 3 (by decide +kernel) (by decide +kernel)
theorem q3_4 : (Jvm.Cond.selects "java/lang/IndexOutOfBoundsException" ({ cls := "java/lang/Object", name := "getClass", desc := "()Ljava/lang/Class;" } : Jvm.MethodName) ({ cls := "java/lang/Object", name := "getClass", desc := "()Ljava/lang/Class;" } : Jvm.MethodName)) ∈ lwG := lwG_3 4 (by decide +kernel) (by decide +kernel)
theorem q3_5 : (Jvm.Cond.selects "java/lang/UnsupportedOperationException" ({ cls := "java/lang/Object", name := "getClass", desc := "()Ljava/lang/Class;" } : Jvm.MethodName) ({ cls := "java/lang/Object", name := "getClass", desc := "()Ljava/lang/Class;" } : Jvm.MethodName)) ∈ lwG := lwG_3 5 (by decide +kernel) (by decide +kernel)
theorem q3_6 : (Jvm.Cond.selects "java/util/ArrayList" ({ cls := "java/lang/Object", name := "getClass", desc := "()Ljava/lang/Class;" } : Jvm.MethodName) ({ cls := "java/lang/Object", name := "getClass", desc := "()Ljava/lang/Class;" } : Jvm.MethodName)) ∈ lwG := lwG_3 6 (by decide +kernel) (by decide +kernel)
theorem q3_7 : (Jvm.Cond.selects "java/util/NoSuchElementException" ({ cls := "java/lang/Object", name := "getClass", desc := "()Ljava/lang/Class;" } : Jvm.MethodName) ({ cls := "java/lang/Object", name := "getClass", desc := "()Ljava/lang/Class;" } : Jvm.MethodName)) ∈ lwG := lwG_3 7 (by decide +kernel) (by decide +kernel)
theorem q3_8 : (Jvm.Cond.native ({ cls := "java/lang/Object", name := "getClass", desc := "()Ljava/lang/Class;" } : Jvm.MethodName)) ∈ lwG := lwG_3 8 (by decide +kernel) (by decide +kernel)
theorem q3_9 : (Jvm.Cond.methodLink "java/util/Arrays" (300 : Nat) ({ cls := "java/util/Arrays", name := "copyOf", desc := "([Ljava/lang/Object;ILjava/lang/Class;)[Ljava/lang/Object;" } : Jvm.MethodName)) ∈ lwG := lwG_3 9 (by decide +kernel) (by decide +kernel)
theorem q3_10 : (Jvm.Cond.static ({ cls := "java/util/Arrays", name := "copyOf", desc := "([Ljava/lang/Object;ILjava/lang/Class;)[Ljava/lang/Object;" } : Jvm.MethodName)) ∈ lwG := lwG_3 10 (by decide +kernel) (by decide +kernel)
theorem q3_11 : (Jvm.Cond.code ({ cls := "java/util/Arrays", name := "copyOf", desc := "([Ljava/lang/Object;ILjava/lang/Class;)[Ljava/lang/Object;" } : Jvm.MethodName) prog_29_method_120_code (4 : Nat) (Option.some (Jvm.ClassFile.FieldType.array (Jvm.ClassFile.FieldType.object "java/lang/Object")))) ∈ lwG := lwG_3 11 (by decide +kernel) (by decide +kernel)
theorem q3_12 : (Jvm.Cond.classLink "java/util/Arrays" (110 : Nat) "[Ljava/lang/Object;") ∈ lwG := lwG_3 12 (by decide +kernel) (by decide +kernel)
theorem q3_13 : (Jvm.Cond.arrayOver (Jvm.ClassFile.FieldType.object "java/lang/Object")) ∈ tables_1 := lwT_3 13 (by decide +kernel)
theorem q3_14 : (Jvm.Cond.classLink "java/util/Arrays" (2 : Nat) "java/lang/Object") ∈ lwG := lwG_3 14 (by decide +kernel) (by decide +kernel)
theorem q3_15 : (Jvm.Cond.methodLink "java/util/Arrays" (304 : Nat) ({ cls := "java/lang/Math", name := "min", desc := "(II)I" } : Jvm.MethodName)) ∈ lwG := lwG_3 15 (by decide +kernel) (by decide +kernel)
theorem q3_16 : (Jvm.Cond.static ({ cls := "java/lang/Math", name := "min", desc := "(II)I" } : Jvm.MethodName)) ∈ lwG := lwG_3 16 (by decide +kernel) (by decide +kernel)
theorem q3_17 : (Jvm.Cond.code ({ cls := "java/lang/Math", name := "min", desc := "(II)I" } : Jvm.MethodName) prog_20_method_69_code (2 : Nat) (Option.some Jvm.ClassFile.FieldType.int)) ∈ lwG := lwG_3 17 (by decide +kernel) (by decide +kernel)
theorem q3_18 : (Jvm.Cond.methodLink "java/util/Arrays" (150 : Nat) ({ cls := "java/lang/System", name := "arraycopy", desc := "(Ljava/lang/Object;ILjava/lang/Object;II)V" } : Jvm.MethodName)) ∈ lwG := lwG_3 18 (by decide +kernel) (by decide +kernel)
theorem q3_19 : (Jvm.Cond.static ({ cls := "java/lang/System", name := "arraycopy", desc := "(Ljava/lang/Object;ILjava/lang/Object;II)V" } : Jvm.MethodName)) ∈ lwG := lwG_3 19 (by decide +kernel) (by decide +kernel)
theorem q3_20 : (Jvm.Cond.native ({ cls := "java/lang/System", name := "arraycopy", desc := "(Ljava/lang/Object;ILjava/lang/Object;II)V" } : Jvm.MethodName)) ∈ lwG := lwG_3 20 (by decide +kernel) (by decide +kernel)
theorem q3_21 : (Jvm.Cond.methodLink "java/util/ArrayList" (79 : Nat) ({ cls := "java/lang/Math", name := "max", desc := "(II)I" } : Jvm.MethodName)) ∈ lwG := lwG_3 21 (by decide +kernel) (by decide +kernel)
theorem q3_22 : (Jvm.Cond.classLink "java/util/ArrayList" (7 : Nat) "java/lang/Object") ∈ lwG := lwG_3 22 (by decide +kernel) (by decide +kernel)
theorem q3_23 : (Jvm.Cond.methodLink "TileWardenLaw" (114 : Nat) ({ cls := "TileWardenLaw", name := "open", desc := "(LTileWarden;II[J)I" } : Jvm.MethodName)) ∈ lwG := lwG_3 23 (by decide +kernel) (by decide +kernel)
theorem q3_24 : (Jvm.Cond.static ({ cls := "TileWardenLaw", name := "open", desc := "(LTileWarden;II[J)I" } : Jvm.MethodName)) ∈ lwG := lwG_3 24 (by decide +kernel) (by decide +kernel)
theorem q3_25 : (Jvm.Cond.codeWith ({ cls := "TileWardenLaw", name := "open", desc := "(LTileWarden;II[J)I" } : Jvm.MethodName) method_4_code (5 : Nat) (Option.some Jvm.ClassFile.FieldType.int) [((0 : Nat), (10 : Nat), (13 : Nat), (21 : Nat)), ((0 : Nat), (10 : Nat), (17 : Nat), (13 : Nat)), ((0 : Nat), (10 : Nat), (21 : Nat), (15 : Nat))]) ∈ lwG := lwG_3 25 (by decide +kernel) (by decide +kernel)
theorem q3_26 : (Jvm.Cond.classLink "TileWardenLaw" (21 : Nat) "java/lang/IndexOutOfBoundsException") ∈ lwG := lwG_3 26 (by decide +kernel) (by decide +kernel)
theorem q3_27 : (Jvm.Cond.instantiable "java/lang/ArrayIndexOutOfBoundsException" (6 : Nat)) ∈ lwG := lwG_3 27 (by decide +kernel) (by decide +kernel)
theorem q3_28 : (Jvm.Cond.instanceMethod ({ cls := "java/lang/ArrayIndexOutOfBoundsException", name := "<init>", desc := "(Ljava/lang/String;)V" } : Jvm.MethodName)) ∈ lwG := lwG_3 28 (by decide +kernel) (by decide +kernel)
theorem q3_29 : (Jvm.Cond.code ({ cls := "java/lang/ArrayIndexOutOfBoundsException", name := "<init>", desc := "(Ljava/lang/String;)V" } : Jvm.MethodName) prog_13_method_2_code (2 : Nat) (Option.none : Option Jvm.ClassFile.FieldType)) ∈ lwG := lwG_3 29 (by decide +kernel) (by decide +kernel)
theorem q3_30 : (Jvm.Cond.methodLink "java/lang/ArrayIndexOutOfBoundsException" (7 : Nat) ({ cls := "java/lang/IndexOutOfBoundsException", name := "<init>", desc := "(Ljava/lang/String;)V" } : Jvm.MethodName)) ∈ lwG := lwG_3 30 (by decide +kernel) (by decide +kernel)
theorem q3_31 : (Jvm.Cond.instanceMethod ({ cls := "java/lang/IndexOutOfBoundsException", name := "<init>", desc := "(Ljava/lang/String;)V" } : Jvm.MethodName)) ∈ lwG := lwG_3 31 (by decide +kernel) (by decide +kernel)
theorem q3_32 : (Jvm.Cond.code ({ cls := "java/lang/IndexOutOfBoundsException", name := "<init>", desc := "(Ljava/lang/String;)V" } : Jvm.MethodName) prog_18_method_2_code (2 : Nat) (Option.none : Option Jvm.ClassFile.FieldType)) ∈ lwG := lwG_3 32 (by decide +kernel) (by decide +kernel)
theorem q3_33 : (Jvm.Cond.methodLink "java/lang/IndexOutOfBoundsException" (7 : Nat) ({ cls := "java/lang/RuntimeException", name := "<init>", desc := "(Ljava/lang/String;)V" } : Jvm.MethodName)) ∈ lwG := lwG_3 33 (by decide +kernel) (by decide +kernel)
theorem q3_34 : (Jvm.Cond.lays "java/lang/ArrayIndexOutOfBoundsException" "java/lang/Throwable" "backtrace" "Ljava/lang/Object;") ∈ lwG := lwG_3 34 (by decide +kernel) (by decide +kernel)
theorem q3_35 : (Jvm.Cond.lays "java/lang/ArrayIndexOutOfBoundsException" "java/lang/Throwable" "detailMessage" "Ljava/lang/String;") ∈ lwG := lwG_3 35 (by decide +kernel) (by decide +kernel)
theorem q3_36 : (Jvm.Cond.lays "java/lang/ArrayIndexOutOfBoundsException" "java/lang/Throwable" "cause" "Ljava/lang/Throwable;") ∈ lwG := lwG_3 36 (by decide +kernel) (by decide +kernel)
theorem q3_37 : (Jvm.Cond.lays "java/lang/ArrayIndexOutOfBoundsException" "java/lang/Throwable" "stackTrace" "[Ljava/lang/StackTraceElement;") ∈ lwG := lwG_3 37 (by decide +kernel) (by decide +kernel)
theorem q3_38 : (Jvm.Cond.lays "java/lang/ArrayIndexOutOfBoundsException" "java/lang/Throwable" "depth" "I") ∈ lwG := lwG_3 38 (by decide +kernel) (by decide +kernel)
theorem q3_39 : (Jvm.Cond.lays "java/lang/ArrayIndexOutOfBoundsException" "java/lang/Throwable" "suppressedExceptions" "Ljava/util/List;") ∈ lwG := lwG_3 39 (by decide +kernel) (by decide +kernel)
theorem q3_40 : (Jvm.Cond.superclass "java/lang/ArrayIndexOutOfBoundsException" "java/lang/IndexOutOfBoundsException") ∈ lwG := lwG_3 40 (by decide +kernel) (by decide +kernel)
theorem q3_41 : (Jvm.Cond.castable "java/lang/ArrayIndexOutOfBoundsException" "java/lang/ArrayIndexOutOfBoundsException") ∈ tables_1 := lwT_3 41 (by decide +kernel)
theorem q3_42 : (Jvm.Cond.declares ({ cls := "java/lang/IndexOutOfBoundsException", name := "<init>", desc := "()V" } : Jvm.MethodName)) ∈ tables_1 := lwT_3 42 (by decide +kernel)
theorem q3_43 : (Jvm.Cond.declares ({ cls := "java/lang/IndexOutOfBoundsException", name := "<init>", desc := "(Ljava/lang/String;)V" } : Jvm.MethodName)) ∈ tables_1 := lwT_3 43 (by decide +kernel)
theorem q3_44 : (Jvm.Cond.selects "java/lang/ArrayIndexOutOfBoundsException" ({ cls := "java/lang/Throwable", name := "fillInStackTrace", desc := "(I)Ljava/lang/Throwable;" } : Jvm.MethodName) ({ cls := "java/lang/Throwable", name := "fillInStackTrace", desc := "(I)Ljava/lang/Throwable;" } : Jvm.MethodName)) ∈ lwG := lwG_3 44 (by decide +kernel) (by decide +kernel)
theorem q3_45 : (Jvm.Cond.instantiable "java/lang/String" (4 : Nat)) ∈ lwG := lwG_3 45 (by decide +kernel) (by decide +kernel)
theorem q3_46 : (Jvm.Cond.laysFinal "java/lang/String" "java/lang/String" "value" "[B") ∈ lwG := lwG_3 46 (by decide +kernel) (by decide +kernel)
theorem q3_47 : (Jvm.Cond.soleField "java/lang/String" "value") ∈ tables_1 := lwT_3 47 (by decide +kernel)
theorem q3_48 : (Jvm.Cond.laysFinal "java/lang/String" "java/lang/String" "coder" "B") ∈ lwG := lwG_3 48 (by decide +kernel) (by decide +kernel)
theorem q3_49 : (Jvm.Cond.soleField "java/lang/String" "coder") ∈ tables_1 := lwT_3 49 (by decide +kernel)
theorem q3_50 : (Jvm.Cond.methodLink "TileWardenLaw" (17 : Nat) ({ cls := "TileWarden", name := "open", desc := "(II)I" } : Jvm.MethodName)) ∈ lwG := lwG_3 50 (by decide +kernel) (by decide +kernel)
theorem q3_51 : (Jvm.Cond.instanceMethod ({ cls := "TileWarden", name := "open", desc := "(II)I" } : Jvm.MethodName)) ∈ lwG := lwG_3 51 (by decide +kernel) (by decide +kernel)
theorem q3_52 : (Jvm.Cond.selects "TileWarden" ({ cls := "TileWarden", name := "open", desc := "(II)I" } : Jvm.MethodName) ({ cls := "TileWarden", name := "open", desc := "(II)I" } : Jvm.MethodName)) ∈ lwG := lwG_3 52 (by decide +kernel) (by decide +kernel)
theorem q3_53 : (Jvm.Cond.code ({ cls := "TileWarden", name := "open", desc := "(II)I" } : Jvm.MethodName) prog_1_method_3_code (4 : Nat) (Option.some Jvm.ClassFile.FieldType.int)) ∈ lwG := lwG_3 53 (by decide +kernel) (by decide +kernel)
theorem q3_54 : (Jvm.Cond.methodLink "TileWarden" (88 : Nat) ({ cls := "TileWarden", name := "findPlayer", desc := "(I)LTileWarden$Player;" } : Jvm.MethodName)) ∈ lwG := lwG_3 54 (by decide +kernel) (by decide +kernel)
theorem q3_55 : (Jvm.Cond.privateMethod ({ cls := "TileWarden", name := "findPlayer", desc := "(I)LTileWarden$Player;" } : Jvm.MethodName)) ∈ tables_1 := lwT_3 55 (by decide +kernel)
theorem q3_56 : (Jvm.Cond.instanceMethod ({ cls := "TileWarden", name := "findPlayer", desc := "(I)LTileWarden$Player;" } : Jvm.MethodName)) ∈ lwG := lwG_3 56 (by decide +kernel) (by decide +kernel)
theorem q3_57 : (Jvm.Cond.code ({ cls := "TileWarden", name := "findPlayer", desc := "(I)LTileWarden$Player;" } : Jvm.MethodName) prog_1_method_31_code (2 : Nat) (Option.some (Jvm.ClassFile.FieldType.object "TileWarden$Player"))) ∈ lwG := lwG_3 57 (by decide +kernel) (by decide +kernel)
theorem q3_58 : (Jvm.Cond.classLink "TileWarden" (267 : Nat) "java/lang/IndexOutOfBoundsException") ∈ lwG := lwG_3 58 (by decide +kernel) (by decide +kernel)
theorem q3_59 : (Jvm.Cond.instantiable "java/lang/IndexOutOfBoundsException" (6 : Nat)) ∈ lwG := lwG_3 59 (by decide +kernel) (by decide +kernel)
theorem q3_60 : (Jvm.Cond.castable "java/lang/IndexOutOfBoundsException" "java/lang/IndexOutOfBoundsException") ∈ tables_1 := lwT_3 60 (by decide +kernel)
theorem q3_61 : (Jvm.Cond.selects "java/lang/IndexOutOfBoundsException" ({ cls := "java/lang/Throwable", name := "fillInStackTrace", desc := "(I)Ljava/lang/Throwable;" } : Jvm.MethodName) ({ cls := "java/lang/Throwable", name := "fillInStackTrace", desc := "(I)Ljava/lang/Throwable;" } : Jvm.MethodName)) ∈ lwG := lwG_3 61 (by decide +kernel) (by decide +kernel)
theorem q3_62 : (Jvm.Cond.lays "java/lang/IndexOutOfBoundsException" "java/lang/Throwable" "cause" "Ljava/lang/Throwable;") ∈ lwG := lwG_3 62 (by decide +kernel) (by decide +kernel)
theorem q3_63 : (Jvm.Cond.lays "java/lang/IndexOutOfBoundsException" "java/lang/Throwable" "stackTrace" "[Ljava/lang/StackTraceElement;") ∈ lwG := lwG_3 63 (by decide +kernel) (by decide +kernel)
theorem q3_64 : (Jvm.Cond.lays "java/lang/IndexOutOfBoundsException" "java/lang/Throwable" "suppressedExceptions" "Ljava/util/List;") ∈ lwG := lwG_3 64 (by decide +kernel) (by decide +kernel)
theorem q3_65 : (Jvm.Cond.lays "java/lang/IndexOutOfBoundsException" "java/lang/Throwable" "detailMessage" "Ljava/lang/String;") ∈ lwG := lwG_3 65 (by decide +kernel) (by decide +kernel)
theorem q3_66 : (Jvm.Cond.lays "java/lang/IndexOutOfBoundsException" "java/lang/Throwable" "backtrace" "Ljava/lang/Object;") ∈ lwG := lwG_3 66 (by decide +kernel) (by decide +kernel)
theorem q3_67 : (Jvm.Cond.stringRef "TileWarden" (269 : Nat) "there is no such player") ∈ tables_1 := lwT_3 67 (by decide +kernel)
theorem q3_68 : (Jvm.Cond.methodLink "TileWarden" (271 : Nat) ({ cls := "java/lang/IndexOutOfBoundsException", name := "<init>", desc := "(Ljava/lang/String;)V" } : Jvm.MethodName)) ∈ lwG := lwG_3 68 (by decide +kernel) (by decide +kernel)
theorem q3_69 : (Jvm.Cond.lays "java/lang/IndexOutOfBoundsException" "java/lang/Throwable" "depth" "I") ∈ lwG := lwG_3 69 (by decide +kernel) (by decide +kernel)
theorem q3_70 : (Jvm.Cond.superclass "java/lang/IndexOutOfBoundsException" "java/lang/RuntimeException") ∈ lwG := lwG_3 70 (by decide +kernel) (by decide +kernel)
theorem q3_71 : (Jvm.Cond.stringRef "TileWarden" (92 : Nat) "the seed is less than 0") ∈ tables_1 := lwT_3 71 (by decide +kernel)
theorem q3_72 : (Jvm.Cond.stringRef "TileWarden" (94 : Nat) "there is no place for another game") ∈ tables_1 := lwT_3 72 (by decide +kernel)
theorem q3_73 : (Jvm.Cond.instantiable "TileWarden$Game" (10 : Nat)) ∈ lwG := lwG_3 73 (by decide +kernel) (by decide +kernel)
theorem q3_74 : (Jvm.Cond.methodLink "TileWarden" (98 : Nat) ({ cls := "TileWarden$Game", name := "<init>", desc := "(LTileWarden$Player;II)V" } : Jvm.MethodName)) ∈ lwG := lwG_3 74 (by decide +kernel) (by decide +kernel)
theorem q3_75 : (Jvm.Cond.instanceMethod ({ cls := "TileWarden$Game", name := "<init>", desc := "(LTileWarden$Player;II)V" } : Jvm.MethodName)) ∈ lwG := lwG_3 75 (by decide +kernel) (by decide +kernel)
theorem q3_76 : (Jvm.Cond.code ({ cls := "TileWarden$Game", name := "<init>", desc := "(LTileWarden$Player;II)V" } : Jvm.MethodName) prog_5_method_1_code (5 : Nat) (Option.none : Option Jvm.ClassFile.FieldType)) ∈ lwG := lwG_3 76 (by decide +kernel) (by decide +kernel)
theorem q3_77 : (Jvm.Cond.methodLink "TileWarden$Game" (1 : Nat) ({ cls := "java/lang/Object", name := "<init>", desc := "()V" } : Jvm.MethodName)) ∈ lwG := lwG_3 77 (by decide +kernel) (by decide +kernel)
theorem q3_78 : (Jvm.Cond.methodLink "TileWarden$Game" (36 : Nat) ({ cls := "TileWarden$Boards", name := "drawnZ", desc := "(I)I" } : Jvm.MethodName)) ∈ lwG := lwG_3 78 (by decide +kernel) (by decide +kernel)
theorem q3_79 : (Jvm.Cond.methodLink "TileWarden$Game" (42 : Nat) ({ cls := "TileWarden$Boards", name := "drawn", desc := "(JI)J" } : Jvm.MethodName)) ∈ lwG := lwG_3 79 (by decide +kernel) (by decide +kernel)
theorem q3_80 : (Jvm.Cond.fieldLink "TileWarden$Trace" (7 : Nat) "TileWarden$Game" "owner" "LTileWarden$Player;") ∈ lwG := lwG_3 80 (by decide +kernel) (by decide +kernel)
theorem q3_81 : (Jvm.Cond.fieldLink "TileWarden$Game" (29 : Nat) "TileWarden$Game" "owner" "LTileWarden$Player;") ∈ lwG := lwG_3 81 (by decide +kernel) (by decide +kernel)
theorem q3_82 : (Jvm.Cond.fieldLink "TileWarden" (168 : Nat) "TileWarden$Game" "owner" "LTileWarden$Player;") ∈ lwG := lwG_3 82 (by decide +kernel) (by decide +kernel)
theorem q3_83 : (Jvm.Cond.fieldLink "TileWarden$Game" (33 : Nat) "TileWarden$Game" "pinBit" "I") ∈ lwG := lwG_3 83 (by decide +kernel) (by decide +kernel)
theorem q3_84 : (Jvm.Cond.fieldLink "TileWarden" (221 : Nat) "TileWarden$Game" "pinBit" "I") ∈ lwG := lwG_3 84 (by decide +kernel) (by decide +kernel)
theorem q3_85 : (Jvm.Cond.fieldLink "TileWarden$Trace" (24 : Nat) "TileWarden$Game" "board" "J") ∈ lwG := lwG_3 85 (by decide +kernel) (by decide +kernel)
theorem q3_86 : (Jvm.Cond.fieldLink "TileWarden$Game" (46 : Nat) "TileWarden$Game" "board" "J") ∈ lwG := lwG_3 86 (by decide +kernel) (by decide +kernel)
theorem q3_87 : (Jvm.Cond.fieldLink "TileWarden" (112 : Nat) "TileWarden$Game" "board" "J") ∈ lwG := lwG_3 87 (by decide +kernel) (by decide +kernel)
theorem q3_88 : (Jvm.Cond.fieldLink "TileWarden$Trace" (29 : Nat) "TileWarden$Game" "z" "I") ∈ lwG := lwG_3 88 (by decide +kernel) (by decide +kernel)
theorem q3_89 : (Jvm.Cond.fieldLink "TileWarden$Game" (50 : Nat) "TileWarden$Game" "z" "I") ∈ lwG := lwG_3 89 (by decide +kernel) (by decide +kernel)
theorem q3_90 : (Jvm.Cond.fieldLink "TileWarden" (188 : Nat) "TileWarden$Game" "z" "I") ∈ lwG := lwG_3 90 (by decide +kernel) (by decide +kernel)
theorem q3_91 : (Jvm.Cond.fieldLink "TileWarden$Game" (7 : Nat) "TileWarden$Game" "score" "I") ∈ lwG := lwG_3 91 (by decide +kernel) (by decide +kernel)
theorem q3_92 : (Jvm.Cond.fieldLink "TileWarden" (144 : Nat) "TileWarden$Game" "score" "I") ∈ lwG := lwG_3 92 (by decide +kernel) (by decide +kernel)
theorem q3_93 : (Jvm.Cond.fieldLink "TileWarden$Game" (13 : Nat) "TileWarden$Game" "pushCount" "I") ∈ lwG := lwG_3 93 (by decide +kernel) (by decide +kernel)
theorem q3_94 : (Jvm.Cond.fieldLink "TileWarden" (147 : Nat) "TileWarden$Game" "pushCount" "I") ∈ lwG := lwG_3 94 (by decide +kernel) (by decide +kernel)
theorem q3_95 : (Jvm.Cond.fieldLink "TileWarden$Game" (16 : Nat) "TileWarden$Game" "row" "I") ∈ lwG := lwG_3 95 (by decide +kernel) (by decide +kernel)
theorem q3_96 : (Jvm.Cond.fieldLink "TileWarden$Game" (19 : Nat) "TileWarden$Game" "longestRow" "I") ∈ lwG := lwG_3 96 (by decide +kernel) (by decide +kernel)
theorem q3_97 : (Jvm.Cond.fieldLink "TileWarden" (230 : Nat) "TileWarden$Game" "longestRow" "I") ∈ lwG := lwG_3 97 (by decide +kernel) (by decide +kernel)
theorem q3_98 : (Jvm.Cond.fieldLink "TileWarden$Game" (22 : Nat) "TileWarden$Game" "paid" "I") ∈ lwG := lwG_3 98 (by decide +kernel) (by decide +kernel)
theorem q3_99 : (Jvm.Cond.fieldLink "TileWarden" (237 : Nat) "TileWarden$Game" "paid" "I") ∈ lwG := lwG_3 99 (by decide +kernel) (by decide +kernel)
theorem q3_100 : (Jvm.Cond.fieldLink "TileWarden$Game" (25 : Nat) "TileWarden$Game" "voided" "Z") ∈ lwG := lwG_3 100 (by decide +kernel) (by decide +kernel)
theorem q3_101 : (Jvm.Cond.fieldLink "TileWarden" (108 : Nat) "TileWarden$Game" "voided" "Z") ∈ lwG := lwG_3 101 (by decide +kernel) (by decide +kernel)
theorem q3_102 : (Jvm.Cond.laysFinal "TileWarden$Game" "TileWarden$Game" "owner" "LTileWarden$Player;") ∈ lwG := lwG_3 102 (by decide +kernel) (by decide +kernel)
theorem q3_103 : (Jvm.Cond.soleField "TileWarden$Game" "owner") ∈ tables_1 := lwT_3 103 (by decide +kernel)
theorem q3_104 : (Jvm.Cond.laysFinal "TileWarden$Game" "TileWarden$Game" "pinBit" "I") ∈ lwG := lwG_3 104 (by decide +kernel) (by decide +kernel)
theorem q3_105 : (Jvm.Cond.soleField "TileWarden$Game" "pinBit") ∈ tables_1 := lwT_3 105 (by decide +kernel)
theorem q3_106 : (Jvm.Cond.lays "TileWarden$Game" "TileWarden$Game" "board" "J") ∈ lwG := lwG_3 106 (by decide +kernel) (by decide +kernel)
theorem q3_107 : (Jvm.Cond.soleField "TileWarden$Game" "board") ∈ tables_1 := lwT_3 107 (by decide +kernel)
theorem q3_108 : (Jvm.Cond.lays "TileWarden$Game" "TileWarden$Game" "z" "I") ∈ lwG := lwG_3 108 (by decide +kernel) (by decide +kernel)
theorem q3_109 : (Jvm.Cond.soleField "TileWarden$Game" "z") ∈ tables_1 := lwT_3 109 (by decide +kernel)
theorem q3_110 : (Jvm.Cond.lays "TileWarden$Game" "TileWarden$Game" "score" "I") ∈ lwG := lwG_3 110 (by decide +kernel) (by decide +kernel)
theorem q3_111 : (Jvm.Cond.soleField "TileWarden$Game" "score") ∈ tables_1 := lwT_3 111 (by decide +kernel)
theorem q3_112 : (Jvm.Cond.lays "TileWarden$Game" "TileWarden$Game" "pushCount" "I") ∈ lwG := lwG_3 112 (by decide +kernel) (by decide +kernel)
theorem q3_113 : (Jvm.Cond.soleField "TileWarden$Game" "pushCount") ∈ tables_1 := lwT_3 113 (by decide +kernel)
theorem q3_114 : (Jvm.Cond.lays "TileWarden$Game" "TileWarden$Game" "row" "I") ∈ lwG := lwG_3 114 (by decide +kernel) (by decide +kernel)
theorem q3_115 : (Jvm.Cond.soleField "TileWarden$Game" "row") ∈ tables_1 := lwT_3 115 (by decide +kernel)
theorem q3_116 : (Jvm.Cond.lays "TileWarden$Game" "TileWarden$Game" "longestRow" "I") ∈ lwG := lwG_3 116 (by decide +kernel) (by decide +kernel)
theorem q3_117 : (Jvm.Cond.soleField "TileWarden$Game" "longestRow") ∈ tables_1 := lwT_3 117 (by decide +kernel)
theorem q3_118 : (Jvm.Cond.lays "TileWarden$Game" "TileWarden$Game" "paid" "I") ∈ lwG := lwG_3 118 (by decide +kernel) (by decide +kernel)
theorem q3_119 : (Jvm.Cond.soleField "TileWarden$Game" "paid") ∈ tables_1 := lwT_3 119 (by decide +kernel)
theorem q3_120 : (Jvm.Cond.lays "TileWarden$Game" "TileWarden$Game" "voided" "Z") ∈ lwG := lwG_3 120 (by decide +kernel) (by decide +kernel)
theorem q3_121 : (Jvm.Cond.soleField "TileWarden$Game" "voided") ∈ tables_1 := lwT_3 121 (by decide +kernel)
theorem q3_122 : (Jvm.Cond.superclass "TileWarden$Game" "java/lang/Object") ∈ lwG := lwG_3 122 (by decide +kernel) (by decide +kernel)
theorem q3_123 : (Jvm.Cond.methodLink "TileWardenLaw" (118 : Nat) ({ cls := "TileWardenLaw", name := "push", desc := "(LTileWarden;II[J)I" } : Jvm.MethodName)) ∈ lwG := lwG_3 123 (by decide +kernel) (by decide +kernel)
theorem q3_124 : (Jvm.Cond.static ({ cls := "TileWardenLaw", name := "push", desc := "(LTileWarden;II[J)I" } : Jvm.MethodName)) ∈ lwG := lwG_3 124 (by decide +kernel) (by decide +kernel)
theorem q3_125 : (Jvm.Cond.codeWith ({ cls := "TileWardenLaw", name := "push", desc := "(LTileWarden;II[J)I" } : Jvm.MethodName) method_5_code (5 : Nat) (Option.some Jvm.ClassFile.FieldType.int) [((0 : Nat), (10 : Nat), (13 : Nat), (21 : Nat)), ((0 : Nat), (10 : Nat), (17 : Nat), (13 : Nat)), ((0 : Nat), (10 : Nat), (21 : Nat), (26 : Nat))]) ∈ lwG := lwG_3 125 (by decide +kernel) (by decide +kernel)
theorem q3_126 : (Jvm.Cond.classLink "TileWardenLaw" (26 : Nat) "java/lang/UnsupportedOperationException") ∈ lwG := lwG_3 126 (by decide +kernel) (by decide +kernel)
theorem q3_127 : (Jvm.Cond.methodLink "TileWardenLaw" (23 : Nat) ({ cls := "TileWarden", name := "push", desc := "(II)I" } : Jvm.MethodName)) ∈ lwG := lwG_3 127 (by decide +kernel) (by decide +kernel)
theorem q3_128 : (Jvm.Cond.instanceMethod ({ cls := "TileWarden", name := "push", desc := "(II)I" } : Jvm.MethodName)) ∈ lwG := lwG_3 128 (by decide +kernel) (by decide +kernel)
theorem q3_129 : (Jvm.Cond.selects "TileWarden" ({ cls := "TileWarden", name := "push", desc := "(II)I" } : Jvm.MethodName) ({ cls := "TileWarden", name := "push", desc := "(II)I" } : Jvm.MethodName)) ∈ lwG := lwG_3 129 (by decide +kernel) (by decide +kernel)
theorem q3_130 : (Jvm.Cond.code ({ cls := "TileWarden", name := "push", desc := "(II)I" } : Jvm.MethodName) prog_1_method_4_code (4 : Nat) (Option.some Jvm.ClassFile.FieldType.int)) ∈ lwG := lwG_3 130 (by decide +kernel) (by decide +kernel)
theorem q3_131 : (Jvm.Cond.methodLink "TileWarden" (101 : Nat) ({ cls := "TileWarden", name := "findGame", desc := "(I)LTileWarden$Game;" } : Jvm.MethodName)) ∈ lwG := lwG_3 131 (by decide +kernel) (by decide +kernel)
theorem q3_132 : (Jvm.Cond.privateMethod ({ cls := "TileWarden", name := "findGame", desc := "(I)LTileWarden$Game;" } : Jvm.MethodName)) ∈ tables_1 := lwT_3 132 (by decide +kernel)
theorem q3_133 : (Jvm.Cond.instanceMethod ({ cls := "TileWarden", name := "findGame", desc := "(I)LTileWarden$Game;" } : Jvm.MethodName)) ∈ lwG := lwG_3 133 (by decide +kernel) (by decide +kernel)
theorem q3_134 : (Jvm.Cond.code ({ cls := "TileWarden", name := "findGame", desc := "(I)LTileWarden$Game;" } : Jvm.MethodName) prog_1_method_32_code (2 : Nat) (Option.some (Jvm.ClassFile.FieldType.object "TileWarden$Game"))) ∈ lwG := lwG_3 134 (by decide +kernel) (by decide +kernel)
theorem q3_135 : (Jvm.Cond.stringRef "TileWarden" (276 : Nat) "there is no such game") ∈ tables_1 := lwT_3 135 (by decide +kernel)
theorem q3_136 : (Jvm.Cond.methodLink "TileWarden" (105 : Nat) ({ cls := "TileWarden", name := "checkWay", desc := "(I)V" } : Jvm.MethodName)) ∈ lwG := lwG_3 136 (by decide +kernel) (by decide +kernel)
theorem q3_137 : (Jvm.Cond.static ({ cls := "TileWarden", name := "checkWay", desc := "(I)V" } : Jvm.MethodName)) ∈ lwG := lwG_3 137 (by decide +kernel) (by decide +kernel)
theorem q3_138 : (Jvm.Cond.code ({ cls := "TileWarden", name := "checkWay", desc := "(I)V" } : Jvm.MethodName) prog_1_method_34_code (1 : Nat) (Option.none : Option Jvm.ClassFile.FieldType)) ∈ lwG := lwG_3 138 (by decide +kernel) (by decide +kernel)
theorem q3_139 : (Jvm.Cond.stringRef "TileWarden" (280 : Nat) "there is no such way") ∈ tables_1 := lwT_3 139 (by decide +kernel)
theorem q3_140 : (Jvm.Cond.methodLink "TileWarden" (115 : Nat) ({ cls := "TileWarden$Boards", name := "canGo", desc := "(JI)Z" } : Jvm.MethodName)) ∈ lwG := lwG_3 140 (by decide +kernel) (by decide +kernel)
theorem q3_141 : (Jvm.Cond.static ({ cls := "TileWarden$Boards", name := "canGo", desc := "(JI)Z" } : Jvm.MethodName)) ∈ lwG := lwG_3 141 (by decide +kernel) (by decide +kernel)
theorem q3_142 : (Jvm.Cond.code ({ cls := "TileWarden$Boards", name := "canGo", desc := "(JI)Z" } : Jvm.MethodName) prog_2_method_3_code (3 : Nat) (Option.some Jvm.ClassFile.FieldType.boolean)) ∈ lwG := lwG_3 142 (by decide +kernel) (by decide +kernel)
theorem q3_143 : (Jvm.Cond.methodLink "TileWarden$Boards" (9 : Nat) ({ cls := "TileWarden$Boards", name := "pushed", desc := "(JI)J" } : Jvm.MethodName)) ∈ lwG := lwG_3 143 (by decide +kernel) (by decide +kernel)
theorem q3_144 : (Jvm.Cond.classLink "TileWarden" (121 : Nat) "java/lang/UnsupportedOperationException") ∈ lwG := lwG_3 144 (by decide +kernel) (by decide +kernel)
theorem q3_145 : (Jvm.Cond.instantiable "java/lang/UnsupportedOperationException" (6 : Nat)) ∈ lwG := lwG_3 145 (by decide +kernel) (by decide +kernel)
theorem q3_146 : (Jvm.Cond.castable "java/lang/UnsupportedOperationException" "java/lang/UnsupportedOperationException") ∈ tables_1 := lwT_3 146 (by decide +kernel)
theorem q3_147 : (Jvm.Cond.selects "java/lang/UnsupportedOperationException" ({ cls := "java/lang/Throwable", name := "fillInStackTrace", desc := "(I)Ljava/lang/Throwable;" } : Jvm.MethodName) ({ cls := "java/lang/Throwable", name := "fillInStackTrace", desc := "(I)Ljava/lang/Throwable;" } : Jvm.MethodName)) ∈ lwG := lwG_3 147 (by decide +kernel) (by decide +kernel)
theorem q3_148 : (Jvm.Cond.lays "java/lang/UnsupportedOperationException" "java/lang/Throwable" "cause" "Ljava/lang/Throwable;") ∈ lwG := lwG_3 148 (by decide +kernel) (by decide +kernel)
theorem q3_149 : (Jvm.Cond.lays "java/lang/UnsupportedOperationException" "java/lang/Throwable" "stackTrace" "[Ljava/lang/StackTraceElement;") ∈ lwG := lwG_3 149 (by decide +kernel) (by decide +kernel)
theorem q3_150 : (Jvm.Cond.lays "java/lang/UnsupportedOperationException" "java/lang/Throwable" "suppressedExceptions" "Ljava/util/List;") ∈ lwG := lwG_3 150 (by decide +kernel) (by decide +kernel)
theorem q3_151 : (Jvm.Cond.lays "java/lang/UnsupportedOperationException" "java/lang/Throwable" "detailMessage" "Ljava/lang/String;") ∈ lwG := lwG_3 151 (by decide +kernel) (by decide +kernel)
theorem q3_152 : (Jvm.Cond.lays "java/lang/UnsupportedOperationException" "java/lang/Throwable" "backtrace" "Ljava/lang/Object;") ∈ lwG := lwG_3 152 (by decide +kernel) (by decide +kernel)
theorem q3_153 : (Jvm.Cond.stringRef "TileWarden" (123 : Nat) "the game is void or the push changes nothing") ∈ tables_1 := lwT_3 153 (by decide +kernel)
theorem q3_154 : (Jvm.Cond.methodLink "TileWarden" (125 : Nat) ({ cls := "java/lang/UnsupportedOperationException", name := "<init>", desc := "(Ljava/lang/String;)V" } : Jvm.MethodName)) ∈ lwG := lwG_3 154 (by decide +kernel) (by decide +kernel)
theorem q3_155 : (Jvm.Cond.instanceMethod ({ cls := "java/lang/UnsupportedOperationException", name := "<init>", desc := "(Ljava/lang/String;)V" } : Jvm.MethodName)) ∈ lwG := lwG_3 155 (by decide +kernel) (by decide +kernel)
theorem q3_156 : (Jvm.Cond.code ({ cls := "java/lang/UnsupportedOperationException", name := "<init>", desc := "(Ljava/lang/String;)V" } : Jvm.MethodName) prog_25_method_2_code (2 : Nat) (Option.none : Option Jvm.ClassFile.FieldType)) ∈ lwG := lwG_3 156 (by decide +kernel) (by decide +kernel)
theorem q3_157 : (Jvm.Cond.methodLink "java/lang/UnsupportedOperationException" (7 : Nat) ({ cls := "java/lang/RuntimeException", name := "<init>", desc := "(Ljava/lang/String;)V" } : Jvm.MethodName)) ∈ lwG := lwG_3 157 (by decide +kernel) (by decide +kernel)
theorem q3_158 : (Jvm.Cond.lays "java/lang/UnsupportedOperationException" "java/lang/Throwable" "depth" "I") ∈ lwG := lwG_3 158 (by decide +kernel) (by decide +kernel)
theorem q3_159 : (Jvm.Cond.superclass "java/lang/UnsupportedOperationException" "java/lang/RuntimeException") ∈ lwG := lwG_3 159 (by decide +kernel) (by decide +kernel)
theorem q3_160 : (Jvm.Cond.methodLink "TileWarden" (126 : Nat) ({ cls := "TileWarden", name := "isFollowing", desc := "(LTileWarden$Game;I)Z" } : Jvm.MethodName)) ∈ lwG := lwG_3 160 (by decide +kernel) (by decide +kernel)
theorem q3_161 : (Jvm.Cond.privateMethod ({ cls := "TileWarden", name := "isFollowing", desc := "(LTileWarden$Game;I)Z" } : Jvm.MethodName)) ∈ tables_1 := lwT_3 161 (by decide +kernel)
theorem q3_162 : (Jvm.Cond.instanceMethod ({ cls := "TileWarden", name := "isFollowing", desc := "(LTileWarden$Game;I)Z" } : Jvm.MethodName)) ∈ lwG := lwG_3 162 (by decide +kernel) (by decide +kernel)
theorem q3_163 : (Jvm.Cond.code ({ cls := "TileWarden", name := "isFollowing", desc := "(LTileWarden$Game;I)Z" } : Jvm.MethodName) prog_1_method_40_code (6 : Nat) (Option.some Jvm.ClassFile.FieldType.boolean)) ∈ lwG := lwG_3 163 (by decide +kernel) (by decide +kernel)
theorem q3_164 : (Jvm.Cond.classLink "TileWarden" (245 : Nat) "TileWarden$Trace") ∈ lwG := lwG_3 164 (by decide +kernel) (by decide +kernel)
theorem q3_165 : (Jvm.Cond.methodLink "TileWarden" (130 : Nat) ({ cls := "TileWarden$Game", name := "noteFollowing", desc := "(Z)V" } : Jvm.MethodName)) ∈ lwG := lwG_3 165 (by decide +kernel) (by decide +kernel)
theorem q3_166 : (Jvm.Cond.instanceMethod ({ cls := "TileWarden$Game", name := "noteFollowing", desc := "(Z)V" } : Jvm.MethodName)) ∈ lwG := lwG_3 166 (by decide +kernel) (by decide +kernel)
theorem q3_167 : (Jvm.Cond.selects "TileWarden$Game" ({ cls := "TileWarden$Game", name := "noteFollowing", desc := "(Z)V" } : Jvm.MethodName) ({ cls := "TileWarden$Game", name := "noteFollowing", desc := "(Z)V" } : Jvm.MethodName)) ∈ lwG := lwG_3 167 (by decide +kernel) (by decide +kernel)
theorem q3_168 : (Jvm.Cond.code ({ cls := "TileWarden$Game", name := "noteFollowing", desc := "(Z)V" } : Jvm.MethodName) prog_5_method_3_code (2 : Nat) (Option.none : Option Jvm.ClassFile.FieldType)) ∈ lwG := lwG_3 168 (by decide +kernel) (by decide +kernel)
theorem q3_169 : (Jvm.Cond.methodLink "TileWarden$Game" (60 : Nat) ({ cls := "java/lang/Math", name := "max", desc := "(II)I" } : Jvm.MethodName)) ∈ lwG := lwG_3 169 (by decide +kernel) (by decide +kernel)
theorem q3_170 : (Jvm.Cond.methodLink "TileWarden" (134 : Nat) ({ cls := "TileWarden$Game", name := "go", desc := "(I)I" } : Jvm.MethodName)) ∈ lwG := lwG_3 170 (by decide +kernel) (by decide +kernel)
theorem q3_171 : (Jvm.Cond.instanceMethod ({ cls := "TileWarden$Game", name := "go", desc := "(I)I" } : Jvm.MethodName)) ∈ lwG := lwG_3 171 (by decide +kernel) (by decide +kernel)
theorem q3_172 : (Jvm.Cond.selects "TileWarden$Game" ({ cls := "TileWarden$Game", name := "go", desc := "(I)I" } : Jvm.MethodName) ({ cls := "TileWarden$Game", name := "go", desc := "(I)I" } : Jvm.MethodName)) ∈ lwG := lwG_3 172 (by decide +kernel) (by decide +kernel)
theorem q3_173 : (Jvm.Cond.code ({ cls := "TileWarden$Game", name := "go", desc := "(I)I" } : Jvm.MethodName) prog_5_method_2_code (3 : Nat) (Option.some Jvm.ClassFile.FieldType.int)) ∈ lwG := lwG_3 173 (by decide +kernel) (by decide +kernel)
theorem q3_174 : (Jvm.Cond.methodLink "TileWarden$Game" (53 : Nat) ({ cls := "TileWarden$Boards", name := "gainOf", desc := "(JI)I" } : Jvm.MethodName)) ∈ lwG := lwG_3 174 (by decide +kernel) (by decide +kernel)
theorem q3_175 : (Jvm.Cond.methodLink "TileWarden$Game" (57 : Nat) ({ cls := "TileWarden$Boards", name := "pushed", desc := "(JI)J" } : Jvm.MethodName)) ∈ lwG := lwG_3 175 (by decide +kernel) (by decide +kernel)
theorem q3_176 : (Jvm.Cond.methodLink "TileWardenLaw" (121 : Nat) ({ cls := "TileWardenLaw", name := "at", desc := "(LTileWarden;III[J)I" } : Jvm.MethodName)) ∈ lwG := lwG_3 176 (by decide +kernel) (by decide +kernel)
theorem q3_177 : (Jvm.Cond.static ({ cls := "TileWardenLaw", name := "at", desc := "(LTileWarden;III[J)I" } : Jvm.MethodName)) ∈ lwG := lwG_3 177 (by decide +kernel) (by decide +kernel)
theorem q3_178 : (Jvm.Cond.codeWith ({ cls := "TileWardenLaw", name := "at", desc := "(LTileWarden;III[J)I" } : Jvm.MethodName) method_6_code (6 : Nat) (Option.some Jvm.ClassFile.FieldType.int) [((0 : Nat), (12 : Nat), (15 : Nat), (21 : Nat)), ((0 : Nat), (12 : Nat), (19 : Nat), (13 : Nat))]) ∈ lwG := lwG_3 178 (by decide +kernel) (by decide +kernel)
theorem q3_179 : (Jvm.Cond.methodLink "TileWardenLaw" (28 : Nat) ({ cls := "TileWarden", name := "at", desc := "(III)I" } : Jvm.MethodName)) ∈ lwG := lwG_3 179 (by decide +kernel) (by decide +kernel)
theorem q3_180 : (Jvm.Cond.instanceMethod ({ cls := "TileWarden", name := "at", desc := "(III)I" } : Jvm.MethodName)) ∈ lwG := lwG_3 180 (by decide +kernel) (by decide +kernel)
theorem q3_181 : (Jvm.Cond.selects "TileWarden" ({ cls := "TileWarden", name := "at", desc := "(III)I" } : Jvm.MethodName) ({ cls := "TileWarden", name := "at", desc := "(III)I" } : Jvm.MethodName)) ∈ lwG := lwG_3 181 (by decide +kernel) (by decide +kernel)
theorem q3_182 : (Jvm.Cond.code ({ cls := "TileWarden", name := "at", desc := "(III)I" } : Jvm.MethodName) prog_1_method_5_code (5 : Nat) (Option.some Jvm.ClassFile.FieldType.int)) ∈ lwG := lwG_3 182 (by decide +kernel) (by decide +kernel)
theorem q3_183 : (Jvm.Cond.stringRef "TileWarden" (138 : Nat) "there is no such cell") ∈ tables_1 := lwT_3 183 (by decide +kernel)
theorem q3_184 : (Jvm.Cond.methodLink "TileWarden" (140 : Nat) ({ cls := "TileWarden$Boards", name := "tileAt", desc := "(JI)I" } : Jvm.MethodName)) ∈ lwG := lwG_3 184 (by decide +kernel) (by decide +kernel)
theorem q3_185 : (Jvm.Cond.methodLink "TileWardenLaw" (125 : Nat) ({ cls := "TileWardenLaw", name := "score", desc := "(LTileWarden;I[J)I" } : Jvm.MethodName)) ∈ lwG := lwG_3 185 (by decide +kernel) (by decide +kernel)
theorem q3_186 : (Jvm.Cond.static ({ cls := "TileWardenLaw", name := "score", desc := "(LTileWarden;I[J)I" } : Jvm.MethodName)) ∈ lwG := lwG_3 186 (by decide +kernel) (by decide +kernel)
theorem q3_187 : (Jvm.Cond.codeWith ({ cls := "TileWardenLaw", name := "score", desc := "(LTileWarden;I[J)I" } : Jvm.MethodName) method_7_code (4 : Nat) (Option.some Jvm.ClassFile.FieldType.int) [((0 : Nat), (9 : Nat), (12 : Nat), (21 : Nat))]) ∈ lwG := lwG_3 187 (by decide +kernel) (by decide +kernel)
theorem q3_188 : (Jvm.Cond.methodLink "TileWardenLaw" (32 : Nat) ({ cls := "TileWarden", name := "score", desc := "(I)I" } : Jvm.MethodName)) ∈ lwG := lwG_3 188 (by decide +kernel) (by decide +kernel)
theorem q3_189 : (Jvm.Cond.instanceMethod ({ cls := "TileWarden", name := "score", desc := "(I)I" } : Jvm.MethodName)) ∈ lwG := lwG_3 189 (by decide +kernel) (by decide +kernel)
theorem q3_190 : (Jvm.Cond.selects "TileWarden" ({ cls := "TileWarden", name := "score", desc := "(I)I" } : Jvm.MethodName) ({ cls := "TileWarden", name := "score", desc := "(I)I" } : Jvm.MethodName)) ∈ lwG := lwG_3 190 (by decide +kernel) (by decide +kernel)
theorem q3_191 : (Jvm.Cond.code ({ cls := "TileWarden", name := "score", desc := "(I)I" } : Jvm.MethodName) prog_1_method_6_code (2 : Nat) (Option.some Jvm.ClassFile.FieldType.int)) ∈ lwG := lwG_3 191 (by decide +kernel) (by decide +kernel)
theorem q3_192 : (Jvm.Cond.methodLink "TileWardenLaw" (128 : Nat) ({ cls := "TileWardenLaw", name := "pushes", desc := "(LTileWarden;I[J)I" } : Jvm.MethodName)) ∈ lwG := lwG_3 192 (by decide +kernel) (by decide +kernel)
theorem q3_193 : (Jvm.Cond.static ({ cls := "TileWardenLaw", name := "pushes", desc := "(LTileWarden;I[J)I" } : Jvm.MethodName)) ∈ lwG := lwG_3 193 (by decide +kernel) (by decide +kernel)
theorem q3_194 : (Jvm.Cond.codeWith ({ cls := "TileWardenLaw", name := "pushes", desc := "(LTileWarden;I[J)I" } : Jvm.MethodName) method_8_code (4 : Nat) (Option.some Jvm.ClassFile.FieldType.int) [((0 : Nat), (9 : Nat), (12 : Nat), (21 : Nat))]) ∈ lwG := lwG_3 194 (by decide +kernel) (by decide +kernel)
theorem q3_195 : (Jvm.Cond.methodLink "TileWardenLaw" (35 : Nat) ({ cls := "TileWarden", name := "pushes", desc := "(I)I" } : Jvm.MethodName)) ∈ lwG := lwG_3 195 (by decide +kernel) (by decide +kernel)
theorem q3_196 : (Jvm.Cond.instanceMethod ({ cls := "TileWarden", name := "pushes", desc := "(I)I" } : Jvm.MethodName)) ∈ lwG := lwG_3 196 (by decide +kernel) (by decide +kernel)
theorem q3_197 : (Jvm.Cond.selects "TileWarden" ({ cls := "TileWarden", name := "pushes", desc := "(I)I" } : Jvm.MethodName) ({ cls := "TileWarden", name := "pushes", desc := "(I)I" } : Jvm.MethodName)) ∈ lwG := lwG_3 197 (by decide +kernel) (by decide +kernel)
theorem q3_198 : (Jvm.Cond.code ({ cls := "TileWarden", name := "pushes", desc := "(I)I" } : Jvm.MethodName) prog_1_method_7_code (2 : Nat) (Option.some Jvm.ClassFile.FieldType.int)) ∈ lwG := lwG_3 198 (by decide +kernel) (by decide +kernel)
theorem q3_199 : (Jvm.Cond.methodLink "TileWardenLaw" (131 : Nat) ({ cls := "TileWardenLaw", name := "canPush", desc := "(LTileWarden;II[J)I" } : Jvm.MethodName)) ∈ lwG := lwG_3 199 (by decide +kernel) (by decide +kernel)
theorem q3_200 : (Jvm.Cond.static ({ cls := "TileWardenLaw", name := "canPush", desc := "(LTileWarden;II[J)I" } : Jvm.MethodName)) ∈ lwG := lwG_3 200 (by decide +kernel) (by decide +kernel)
theorem q3_201 : (Jvm.Cond.codeWith ({ cls := "TileWardenLaw", name := "canPush", desc := "(LTileWarden;II[J)I" } : Jvm.MethodName) method_9_code (5 : Nat) (Option.some Jvm.ClassFile.FieldType.int) [((0 : Nat), (17 : Nat), (20 : Nat), (21 : Nat)), ((0 : Nat), (17 : Nat), (24 : Nat), (13 : Nat))]) ∈ lwG := lwG_3 201 (by decide +kernel) (by decide +kernel)
theorem q3_202 : (Jvm.Cond.methodLink "TileWardenLaw" (38 : Nat) ({ cls := "TileWarden", name := "canPush", desc := "(II)Z" } : Jvm.MethodName)) ∈ lwG := lwG_3 202 (by decide +kernel) (by decide +kernel)
theorem q3_203 : (Jvm.Cond.instanceMethod ({ cls := "TileWarden", name := "canPush", desc := "(II)Z" } : Jvm.MethodName)) ∈ lwG := lwG_3 203 (by decide +kernel) (by decide +kernel)
theorem q3_204 : (Jvm.Cond.selects "TileWarden" ({ cls := "TileWarden", name := "canPush", desc := "(II)Z" } : Jvm.MethodName) ({ cls := "TileWarden", name := "canPush", desc := "(II)Z" } : Jvm.MethodName)) ∈ lwG := lwG_3 204 (by decide +kernel) (by decide +kernel)
theorem q3_205 : (Jvm.Cond.code ({ cls := "TileWarden", name := "canPush", desc := "(II)Z" } : Jvm.MethodName) prog_1_method_8_code (4 : Nat) (Option.some Jvm.ClassFile.FieldType.boolean)) ∈ lwG := lwG_3 205 (by decide +kernel) (by decide +kernel)
theorem q3_206 : (Jvm.Cond.methodLink "TileWardenLaw" (134 : Nat) ({ cls := "TileWardenLaw", name := "isOver", desc := "(LTileWarden;I[J)I" } : Jvm.MethodName)) ∈ lwG := lwG_3 206 (by decide +kernel) (by decide +kernel)
theorem q3_207 : (Jvm.Cond.static ({ cls := "TileWardenLaw", name := "isOver", desc := "(LTileWarden;I[J)I" } : Jvm.MethodName)) ∈ lwG := lwG_3 207 (by decide +kernel) (by decide +kernel)
theorem q3_208 : (Jvm.Cond.codeWith ({ cls := "TileWardenLaw", name := "isOver", desc := "(LTileWarden;I[J)I" } : Jvm.MethodName) method_10_code (4 : Nat) (Option.some Jvm.ClassFile.FieldType.int) [((0 : Nat), (16 : Nat), (19 : Nat), (21 : Nat))]) ∈ lwG := lwG_3 208 (by decide +kernel) (by decide +kernel)
theorem q3_209 : (Jvm.Cond.methodLink "TileWardenLaw" (42 : Nat) ({ cls := "TileWarden", name := "isOver", desc := "(I)Z" } : Jvm.MethodName)) ∈ lwG := lwG_3 209 (by decide +kernel) (by decide +kernel)
theorem q3_210 : (Jvm.Cond.instanceMethod ({ cls := "TileWarden", name := "isOver", desc := "(I)Z" } : Jvm.MethodName)) ∈ lwG := lwG_3 210 (by decide +kernel) (by decide +kernel)
theorem q3_211 : (Jvm.Cond.selects "TileWarden" ({ cls := "TileWarden", name := "isOver", desc := "(I)Z" } : Jvm.MethodName) ({ cls := "TileWarden", name := "isOver", desc := "(I)Z" } : Jvm.MethodName)) ∈ lwG := lwG_3 211 (by decide +kernel) (by decide +kernel)
theorem q3_212 : (Jvm.Cond.code ({ cls := "TileWarden", name := "isOver", desc := "(I)Z" } : Jvm.MethodName) prog_1_method_9_code (2 : Nat) (Option.some Jvm.ClassFile.FieldType.boolean)) ∈ lwG := lwG_3 212 (by decide +kernel) (by decide +kernel)
theorem q3_213 : (Jvm.Cond.methodLink "TileWarden" (150 : Nat) ({ cls := "TileWarden$Boards", name := "isStuck", desc := "(J)Z" } : Jvm.MethodName)) ∈ lwG := lwG_3 213 (by decide +kernel) (by decide +kernel)
theorem q3_214 : (Jvm.Cond.static ({ cls := "TileWarden$Boards", name := "isStuck", desc := "(J)Z" } : Jvm.MethodName)) ∈ lwG := lwG_3 214 (by decide +kernel) (by decide +kernel)
theorem q3_215 : (Jvm.Cond.code ({ cls := "TileWarden$Boards", name := "isStuck", desc := "(J)Z" } : Jvm.MethodName) prog_2_method_4_code (3 : Nat) (Option.some Jvm.ClassFile.FieldType.boolean)) ∈ lwG := lwG_3 215 (by decide +kernel) (by decide +kernel)
theorem q3_216 : (Jvm.Cond.methodLink "TileWarden$Boards" (13 : Nat) ({ cls := "TileWarden$Boards", name := "canGo", desc := "(JI)Z" } : Jvm.MethodName)) ∈ lwG := lwG_3 216 (by decide +kernel) (by decide +kernel)
theorem q3_217 : (Jvm.Cond.methodLink "TileWardenLaw" (137 : Nat) ({ cls := "TileWardenLaw", name := "price", desc := "(LTileWarden;II[J)I" } : Jvm.MethodName)) ∈ lwG := lwG_3 217 (by decide +kernel) (by decide +kernel)
theorem q3_218 : (Jvm.Cond.static ({ cls := "TileWardenLaw", name := "price", desc := "(LTileWarden;II[J)I" } : Jvm.MethodName)) ∈ lwG := lwG_3 218 (by decide +kernel) (by decide +kernel)
theorem q3_219 : (Jvm.Cond.codeWith ({ cls := "TileWardenLaw", name := "price", desc := "(LTileWarden;II[J)I" } : Jvm.MethodName) method_11_code (5 : Nat) (Option.some Jvm.ClassFile.FieldType.int) [((0 : Nat), (10 : Nat), (13 : Nat), (21 : Nat)), ((0 : Nat), (10 : Nat), (17 : Nat), (13 : Nat)), ((0 : Nat), (10 : Nat), (21 : Nat), (26 : Nat))]) ∈ lwG := lwG_3 219 (by decide +kernel) (by decide +kernel)
theorem q3_220 : (Jvm.Cond.methodLink "TileWardenLaw" (46 : Nat) ({ cls := "TileWarden", name := "price", desc := "(II)I" } : Jvm.MethodName)) ∈ lwG := lwG_3 220 (by decide +kernel) (by decide +kernel)
theorem q3_221 : (Jvm.Cond.instanceMethod ({ cls := "TileWarden", name := "price", desc := "(II)I" } : Jvm.MethodName)) ∈ lwG := lwG_3 221 (by decide +kernel) (by decide +kernel)
theorem q3_222 : (Jvm.Cond.selects "TileWarden" ({ cls := "TileWarden", name := "price", desc := "(II)I" } : Jvm.MethodName) ({ cls := "TileWarden", name := "price", desc := "(II)I" } : Jvm.MethodName)) ∈ lwG := lwG_3 222 (by decide +kernel) (by decide +kernel)
theorem q3_223 : (Jvm.Cond.code ({ cls := "TileWarden", name := "price", desc := "(II)I" } : Jvm.MethodName) prog_1_method_10_code (4 : Nat) (Option.some Jvm.ClassFile.FieldType.int)) ∈ lwG := lwG_3 223 (by decide +kernel) (by decide +kernel)
theorem q3_224 : (Jvm.Cond.methodLink "TileWarden" (154 : Nat) ({ cls := "TileWarden", name := "checkDepth", desc := "(II)V" } : Jvm.MethodName)) ∈ lwG := lwG_3 224 (by decide +kernel) (by decide +kernel)
theorem q3_225 : (Jvm.Cond.static ({ cls := "TileWarden", name := "checkDepth", desc := "(II)V" } : Jvm.MethodName)) ∈ lwG := lwG_3 225 (by decide +kernel) (by decide +kernel)
theorem q3_226 : (Jvm.Cond.code ({ cls := "TileWarden", name := "checkDepth", desc := "(II)V" } : Jvm.MethodName) prog_1_method_35_code (2 : Nat) (Option.none : Option Jvm.ClassFile.FieldType)) ∈ lwG := lwG_3 226 (by decide +kernel) (by decide +kernel)
theorem q3_227 : (Jvm.Cond.stringRef "TileWarden" (282 : Nat) "the depth is out of range") ∈ tables_1 := lwT_3 227 (by decide +kernel)
theorem q3_228 : (Jvm.Cond.methodLink "TileWarden" (157 : Nat) ({ cls := "TileWarden", name := "checkHintable", desc := "(LTileWarden$Game;)V" } : Jvm.MethodName)) ∈ lwG := lwG_3 228 (by decide +kernel) (by decide +kernel)
theorem q3_229 : (Jvm.Cond.static ({ cls := "TileWarden", name := "checkHintable", desc := "(LTileWarden$Game;)V" } : Jvm.MethodName)) ∈ lwG := lwG_3 229 (by decide +kernel) (by decide +kernel)
theorem q3_230 : (Jvm.Cond.code ({ cls := "TileWarden", name := "checkHintable", desc := "(LTileWarden$Game;)V" } : Jvm.MethodName) prog_1_method_36_code (1 : Nat) (Option.none : Option Jvm.ClassFile.FieldType)) ∈ lwG := lwG_3 230 (by decide +kernel) (by decide +kernel)
theorem q3_231 : (Jvm.Cond.stringRef "TileWarden" (284 : Nat) "the game is void or over") ∈ tables_1 := lwT_3 231 (by decide +kernel)
theorem q3_232 : (Jvm.Cond.methodLink "TileWarden" (161 : Nat) ({ cls := "TileWarden", name := "tryHint", desc := "(LTileWarden$Game;I)V" } : Jvm.MethodName)) ∈ lwG := lwG_3 232 (by decide +kernel) (by decide +kernel)
theorem q3_233 : (Jvm.Cond.privateMethod ({ cls := "TileWarden", name := "tryHint", desc := "(LTileWarden$Game;I)V" } : Jvm.MethodName)) ∈ tables_1 := lwT_3 233 (by decide +kernel)
theorem q3_234 : (Jvm.Cond.instanceMethod ({ cls := "TileWarden", name := "tryHint", desc := "(LTileWarden$Game;I)V" } : Jvm.MethodName)) ∈ lwG := lwG_3 234 (by decide +kernel) (by decide +kernel)
theorem q3_235 : (Jvm.Cond.code ({ cls := "TileWarden", name := "tryHint", desc := "(LTileWarden$Game;I)V" } : Jvm.MethodName) prog_1_method_37_code (3 : Nat) (Option.none : Option Jvm.ClassFile.FieldType)) ∈ lwG := lwG_3 235 (by decide +kernel) (by decide +kernel)
theorem q3_236 : (Jvm.Cond.methodLink "TileWarden" (287 : Nat) ({ cls := "TileWarden$Cache", name := "become", desc := "(LTileWarden$Cache;)V" } : Jvm.MethodName)) ∈ lwG := lwG_3 236 (by decide +kernel) (by decide +kernel)
theorem q3_237 : (Jvm.Cond.instanceMethod ({ cls := "TileWarden$Cache", name := "become", desc := "(LTileWarden$Cache;)V" } : Jvm.MethodName)) ∈ lwG := lwG_3 237 (by decide +kernel) (by decide +kernel)
theorem q3_238 : (Jvm.Cond.selects "TileWarden$Cache" ({ cls := "TileWarden$Cache", name := "become", desc := "(LTileWarden$Cache;)V" } : Jvm.MethodName) ({ cls := "TileWarden$Cache", name := "become", desc := "(LTileWarden$Cache;)V" } : Jvm.MethodName)) ∈ lwG := lwG_3 238 (by decide +kernel) (by decide +kernel)
theorem q3_239 : (Jvm.Cond.code ({ cls := "TileWarden$Cache", name := "become", desc := "(LTileWarden$Cache;)V" } : Jvm.MethodName) prog_3_method_2_code (3 : Nat) (Option.none : Option Jvm.ClassFile.FieldType)) ∈ lwG := lwG_3 239 (by decide +kernel) (by decide +kernel)
theorem q4_0 : (Jvm.Cond.methodLink "TileWarden$Cache" (34 : Nat) ({ cls := "TileWarden$Entry", name := "become", desc := "(LTileWarden$Entry;)V" } : Jvm.MethodName)) ∈ lwG := lwG_4 0 (by decide +kernel) (by decide +kernel)
theorem q4_1 : (Jvm.Cond.instanceMethod ({ cls := "TileWarden$Entry", name := "become", desc := "(LTileWarden$Entry;)V" } : Jvm.MethodName)) ∈ lwG := lwG_4 1 (by decide +kernel) (by decide +kernel)
theorem q4_2 : (Jvm.Cond.selects "TileWarden$Entry" ({ cls := "TileWarden$Entry", name := "become", desc := "(LTileWarden$Entry;)V" } : Jvm.MethodName) ({ cls := "TileWarden$Entry", name := "become", desc := "(LTileWarden$Entry;)V" } : Jvm.MethodName)) ∈ lwG := lwG_4 2 (by decide +kernel) (by decide +kernel)
theorem q4_3 : (Jvm.Cond.code ({ cls := "TileWarden$Entry", name := "become", desc := "(LTileWarden$Entry;)V" } : Jvm.MethodName) prog_4_method_4_code (2 : Nat) (Option.none : Option Jvm.ClassFile.FieldType)) ∈ lwG := lwG_4 3 (by decide +kernel) (by decide +kernel)
theorem q4_4 : (Jvm.Cond.methodLink "TileWarden" (290 : Nat) ({ cls := "TileWarden$Search", name := "start", desc := "()V" } : Jvm.MethodName)) ∈ lwG := lwG_4 4 (by decide +kernel) (by decide +kernel)
theorem q4_5 : (Jvm.Cond.instanceMethod ({ cls := "TileWarden$Search", name := "start", desc := "()V" } : Jvm.MethodName)) ∈ lwG := lwG_4 5 (by decide +kernel) (by decide +kernel)
theorem q4_6 : (Jvm.Cond.selects "TileWarden$Search" ({ cls := "TileWarden$Search", name := "start", desc := "()V" } : Jvm.MethodName) ({ cls := "TileWarden$Search", name := "start", desc := "()V" } : Jvm.MethodName)) ∈ lwG := lwG_4 6 (by decide +kernel) (by decide +kernel)
theorem q4_7 : (Jvm.Cond.code ({ cls := "TileWarden$Search", name := "start", desc := "()V" } : Jvm.MethodName) prog_7_method_2_code (1 : Nat) (Option.none : Option Jvm.ClassFile.FieldType)) ∈ lwG := lwG_4 7 (by decide +kernel) (by decide +kernel)
theorem q4_8 : (Jvm.Cond.methodLink "TileWarden" (165 : Nat) ({ cls := "TileWarden$Search", name := "cost", desc := "()I" } : Jvm.MethodName)) ∈ lwG := lwG_4 8 (by decide +kernel) (by decide +kernel)
theorem q4_9 : (Jvm.Cond.instanceMethod ({ cls := "TileWarden$Search", name := "cost", desc := "()I" } : Jvm.MethodName)) ∈ lwG := lwG_4 9 (by decide +kernel) (by decide +kernel)
theorem q4_10 : (Jvm.Cond.selects "TileWarden$Search" ({ cls := "TileWarden$Search", name := "cost", desc := "()I" } : Jvm.MethodName) ({ cls := "TileWarden$Search", name := "cost", desc := "()I" } : Jvm.MethodName)) ∈ lwG := lwG_4 10 (by decide +kernel) (by decide +kernel)
theorem q4_11 : (Jvm.Cond.code ({ cls := "TileWarden$Search", name := "cost", desc := "()I" } : Jvm.MethodName) prog_7_method_3_code (1 : Nat) (Option.some Jvm.ClassFile.FieldType.int)) ∈ lwG := lwG_4 11 (by decide +kernel) (by decide +kernel)
theorem q4_12 : (Jvm.Cond.methodLink "TileWarden$Search" (25 : Nat) ({ cls := "java/lang/Math", name := "max", desc := "(II)I" } : Jvm.MethodName)) ∈ lwG := lwG_4 12 (by decide +kernel) (by decide +kernel)
theorem q4_13 : (Jvm.Cond.methodLink "TileWardenLaw" (140 : Nat) ({ cls := "TileWardenLaw", name := "hint", desc := "(LTileWarden;II[J)I" } : Jvm.MethodName)) ∈ lwG := lwG_4 13 (by decide +kernel) (by decide +kernel)
theorem q4_14 : (Jvm.Cond.static ({ cls := "TileWardenLaw", name := "hint", desc := "(LTileWarden;II[J)I" } : Jvm.MethodName)) ∈ lwG := lwG_4 14 (by decide +kernel) (by decide +kernel)
theorem q4_15 : (Jvm.Cond.codeWith ({ cls := "TileWardenLaw", name := "hint", desc := "(LTileWarden;II[J)I" } : Jvm.MethodName) method_12_code (5 : Nat) (Option.some Jvm.ClassFile.FieldType.int) [((0 : Nat), (10 : Nat), (13 : Nat), (21 : Nat)), ((0 : Nat), (10 : Nat), (17 : Nat), (13 : Nat)), ((0 : Nat), (10 : Nat), (21 : Nat), (26 : Nat)), ((0 : Nat), (10 : Nat), (25 : Nat), (52 : Nat)), ((0 : Nat), (10 : Nat), (29 : Nat), (15 : Nat))]) ∈ lwG := lwG_4 15 (by decide +kernel) (by decide +kernel)
theorem q4_16 : (Jvm.Cond.classLink "TileWardenLaw" (52 : Nat) "java/util/NoSuchElementException") ∈ lwG := lwG_4 16 (by decide +kernel) (by decide +kernel)
theorem q4_17 : (Jvm.Cond.methodLink "TileWardenLaw" (49 : Nat) ({ cls := "TileWarden", name := "hint", desc := "(II)I" } : Jvm.MethodName)) ∈ lwG := lwG_4 17 (by decide +kernel) (by decide +kernel)
theorem q4_18 : (Jvm.Cond.instanceMethod ({ cls := "TileWarden", name := "hint", desc := "(II)I" } : Jvm.MethodName)) ∈ lwG := lwG_4 18 (by decide +kernel) (by decide +kernel)
theorem q4_19 : (Jvm.Cond.selects "TileWarden" ({ cls := "TileWarden", name := "hint", desc := "(II)I" } : Jvm.MethodName) ({ cls := "TileWarden", name := "hint", desc := "(II)I" } : Jvm.MethodName)) ∈ lwG := lwG_4 19 (by decide +kernel) (by decide +kernel)
theorem q4_20 : (Jvm.Cond.code ({ cls := "TileWarden", name := "hint", desc := "(II)I" } : Jvm.MethodName) prog_1_method_11_code (4 : Nat) (Option.some Jvm.ClassFile.FieldType.int)) ∈ lwG := lwG_4 20 (by decide +kernel) (by decide +kernel)
theorem q4_21 : (Jvm.Cond.classLink "TileWarden" (175 : Nat) "java/util/NoSuchElementException") ∈ lwG := lwG_4 21 (by decide +kernel) (by decide +kernel)
theorem q4_22 : (Jvm.Cond.instantiable "java/util/NoSuchElementException" (6 : Nat)) ∈ lwG := lwG_4 22 (by decide +kernel) (by decide +kernel)
theorem q4_23 : (Jvm.Cond.castable "java/util/NoSuchElementException" "java/util/NoSuchElementException") ∈ tables_1 := lwT_4 23 (by decide +kernel)
theorem q4_24 : (Jvm.Cond.selects "java/util/NoSuchElementException" ({ cls := "java/lang/Throwable", name := "fillInStackTrace", desc := "(I)Ljava/lang/Throwable;" } : Jvm.MethodName) ({ cls := "java/lang/Throwable", name := "fillInStackTrace", desc := "(I)Ljava/lang/Throwable;" } : Jvm.MethodName)) ∈ lwG := lwG_4 24 (by decide +kernel) (by decide +kernel)
theorem q4_25 : (Jvm.Cond.lays "java/util/NoSuchElementException" "java/lang/Throwable" "cause" "Ljava/lang/Throwable;") ∈ lwG := lwG_4 25 (by decide +kernel) (by decide +kernel)
theorem q4_26 : (Jvm.Cond.lays "java/util/NoSuchElementException" "java/lang/Throwable" "stackTrace" "[Ljava/lang/StackTraceElement;") ∈ lwG := lwG_4 26 (by decide +kernel) (by decide +kernel)
theorem q4_27 : (Jvm.Cond.lays "java/util/NoSuchElementException" "java/lang/Throwable" "suppressedExceptions" "Ljava/util/List;") ∈ lwG := lwG_4 27 (by decide +kernel) (by decide +kernel)
theorem q4_28 : (Jvm.Cond.lays "java/util/NoSuchElementException" "java/lang/Throwable" "detailMessage" "Ljava/lang/String;") ∈ lwG := lwG_4 28 (by decide +kernel) (by decide +kernel)
theorem q4_29 : (Jvm.Cond.lays "java/util/NoSuchElementException" "java/lang/Throwable" "backtrace" "Ljava/lang/Object;") ∈ lwG := lwG_4 29 (by decide +kernel) (by decide +kernel)
theorem q4_30 : (Jvm.Cond.stringRef "TileWarden" (177 : Nat) "the player has too little money") ∈ tables_1 := lwT_4 30 (by decide +kernel)
theorem q4_31 : (Jvm.Cond.methodLink "TileWarden" (179 : Nat) ({ cls := "java/util/NoSuchElementException", name := "<init>", desc := "(Ljava/lang/String;)V" } : Jvm.MethodName)) ∈ lwG := lwG_4 31 (by decide +kernel) (by decide +kernel)
theorem q4_32 : (Jvm.Cond.instanceMethod ({ cls := "java/util/NoSuchElementException", name := "<init>", desc := "(Ljava/lang/String;)V" } : Jvm.MethodName)) ∈ lwG := lwG_4 32 (by decide +kernel) (by decide +kernel)
theorem q4_33 : (Jvm.Cond.code ({ cls := "java/util/NoSuchElementException", name := "<init>", desc := "(Ljava/lang/String;)V" } : Jvm.MethodName) prog_32_method_4_code (2 : Nat) (Option.none : Option Jvm.ClassFile.FieldType)) ∈ lwG := lwG_4 33 (by decide +kernel) (by decide +kernel)
theorem q4_34 : (Jvm.Cond.methodLink "java/util/NoSuchElementException" (13 : Nat) ({ cls := "java/lang/RuntimeException", name := "<init>", desc := "(Ljava/lang/String;)V" } : Jvm.MethodName)) ∈ lwG := lwG_4 34 (by decide +kernel) (by decide +kernel)
theorem q4_35 : (Jvm.Cond.lays "java/util/NoSuchElementException" "java/lang/Throwable" "depth" "I") ∈ lwG := lwG_4 35 (by decide +kernel) (by decide +kernel)
theorem q4_36 : (Jvm.Cond.superclass "java/util/NoSuchElementException" "java/lang/RuntimeException") ∈ lwG := lwG_4 36 (by decide +kernel) (by decide +kernel)
theorem q4_37 : (Jvm.Cond.stringRef "TileWarden" (180 : Nat) "there is no place for another trace") ∈ tables_1 := lwT_4 37 (by decide +kernel)
theorem q4_38 : (Jvm.Cond.methodLink "TileWarden" (182 : Nat) ({ cls := "TileWarden", name := "sellTriedHint", desc := "(LTileWarden$Game;)V" } : Jvm.MethodName)) ∈ lwG := lwG_4 38 (by decide +kernel) (by decide +kernel)
theorem q4_39 : (Jvm.Cond.privateMethod ({ cls := "TileWarden", name := "sellTriedHint", desc := "(LTileWarden$Game;)V" } : Jvm.MethodName)) ∈ tables_1 := lwT_4 39 (by decide +kernel)
theorem q4_40 : (Jvm.Cond.instanceMethod ({ cls := "TileWarden", name := "sellTriedHint", desc := "(LTileWarden$Game;)V" } : Jvm.MethodName)) ∈ lwG := lwG_4 40 (by decide +kernel) (by decide +kernel)
theorem q4_41 : (Jvm.Cond.code ({ cls := "TileWarden", name := "sellTriedHint", desc := "(LTileWarden$Game;)V" } : Jvm.MethodName) prog_1_method_38_code (3 : Nat) (Option.none : Option Jvm.ClassFile.FieldType)) ∈ lwG := lwG_4 41 (by decide +kernel) (by decide +kernel)
theorem q4_42 : (Jvm.Cond.instantiable "TileWarden$Trace" (4 : Nat)) ∈ lwG := lwG_4 42 (by decide +kernel) (by decide +kernel)
theorem q4_43 : (Jvm.Cond.methodLink "TileWarden" (293 : Nat) ({ cls := "TileWarden$Trace", name := "<init>", desc := "(LTileWarden$Game;I)V" } : Jvm.MethodName)) ∈ lwG := lwG_4 43 (by decide +kernel) (by decide +kernel)
theorem q4_44 : (Jvm.Cond.instanceMethod ({ cls := "TileWarden$Trace", name := "<init>", desc := "(LTileWarden$Game;I)V" } : Jvm.MethodName)) ∈ lwG := lwG_4 44 (by decide +kernel) (by decide +kernel)
theorem q4_45 : (Jvm.Cond.code ({ cls := "TileWarden$Trace", name := "<init>", desc := "(LTileWarden$Game;I)V" } : Jvm.MethodName) prog_8_method_1_code (3 : Nat) (Option.none : Option Jvm.ClassFile.FieldType)) ∈ lwG := lwG_4 45 (by decide +kernel) (by decide +kernel)
theorem q4_46 : (Jvm.Cond.methodLink "TileWarden$Trace" (1 : Nat) ({ cls := "java/lang/Object", name := "<init>", desc := "()V" } : Jvm.MethodName)) ∈ lwG := lwG_4 46 (by decide +kernel) (by decide +kernel)
theorem q4_47 : (Jvm.Cond.fieldLink "TileWarden$Trace" (19 : Nat) "TileWarden$Trace" "player" "I") ∈ lwG := lwG_4 47 (by decide +kernel) (by decide +kernel)
theorem q4_48 : (Jvm.Cond.fieldLink "TileWarden" (244 : Nat) "TileWarden$Trace" "player" "I") ∈ lwG := lwG_4 48 (by decide +kernel) (by decide +kernel)
theorem q4_49 : (Jvm.Cond.fieldLink "TileWarden$Trace" (28 : Nat) "TileWarden$Trace" "board" "J") ∈ lwG := lwG_4 49 (by decide +kernel) (by decide +kernel)
theorem q4_50 : (Jvm.Cond.fieldLink "TileWarden" (326 : Nat) "TileWarden$Trace" "board" "J") ∈ lwG := lwG_4 50 (by decide +kernel) (by decide +kernel)
theorem q4_51 : (Jvm.Cond.fieldLink "TileWarden$Trace" (32 : Nat) "TileWarden$Trace" "z" "I") ∈ lwG := lwG_4 51 (by decide +kernel) (by decide +kernel)
theorem q4_52 : (Jvm.Cond.fieldLink "TileWarden" (327 : Nat) "TileWarden$Trace" "z" "I") ∈ lwG := lwG_4 52 (by decide +kernel) (by decide +kernel)
theorem q4_53 : (Jvm.Cond.fieldLink "TileWarden$Trace" (33 : Nat) "TileWarden$Trace" "push" "I") ∈ lwG := lwG_4 53 (by decide +kernel) (by decide +kernel)
theorem q4_54 : (Jvm.Cond.fieldLink "TileWarden" (249 : Nat) "TileWarden$Trace" "push" "I") ∈ lwG := lwG_4 54 (by decide +kernel) (by decide +kernel)
theorem q4_55 : (Jvm.Cond.laysFinal "TileWarden$Trace" "TileWarden$Trace" "player" "I") ∈ lwG := lwG_4 55 (by decide +kernel) (by decide +kernel)
theorem q4_56 : (Jvm.Cond.soleField "TileWarden$Trace" "player") ∈ tables_1 := lwT_4 56 (by decide +kernel)
theorem q4_57 : (Jvm.Cond.laysFinal "TileWarden$Trace" "TileWarden$Trace" "board" "J") ∈ lwG := lwG_4 57 (by decide +kernel) (by decide +kernel)
theorem q4_58 : (Jvm.Cond.soleField "TileWarden$Trace" "board") ∈ tables_1 := lwT_4 58 (by decide +kernel)
theorem q4_59 : (Jvm.Cond.laysFinal "TileWarden$Trace" "TileWarden$Trace" "z" "I") ∈ lwG := lwG_4 59 (by decide +kernel) (by decide +kernel)
theorem q4_60 : (Jvm.Cond.soleField "TileWarden$Trace" "z") ∈ tables_1 := lwT_4 60 (by decide +kernel)
theorem q4_61 : (Jvm.Cond.laysFinal "TileWarden$Trace" "TileWarden$Trace" "push" "I") ∈ lwG := lwG_4 61 (by decide +kernel) (by decide +kernel)
theorem q4_62 : (Jvm.Cond.soleField "TileWarden$Trace" "push") ∈ tables_1 := lwT_4 62 (by decide +kernel)
theorem q4_63 : (Jvm.Cond.superclass "TileWarden$Trace" "java/lang/Object") ∈ lwG := lwG_4 63 (by decide +kernel) (by decide +kernel)
theorem q4_64 : (Jvm.Cond.methodLink "TileWardenLaw" (143 : Nat) ({ cls := "TileWardenLaw", name := "worth", desc := "(LTileWarden;II[J)I" } : Jvm.MethodName)) ∈ lwG := lwG_4 64 (by decide +kernel) (by decide +kernel)
theorem q4_65 : (Jvm.Cond.static ({ cls := "TileWardenLaw", name := "worth", desc := "(LTileWarden;II[J)I" } : Jvm.MethodName)) ∈ lwG := lwG_4 65 (by decide +kernel) (by decide +kernel)
theorem q4_66 : (Jvm.Cond.codeWith ({ cls := "TileWardenLaw", name := "worth", desc := "(LTileWarden;II[J)I" } : Jvm.MethodName) method_13_code (5 : Nat) (Option.some Jvm.ClassFile.FieldType.int) [((0 : Nat), (10 : Nat), (13 : Nat), (21 : Nat)), ((0 : Nat), (10 : Nat), (17 : Nat), (13 : Nat))]) ∈ lwG := lwG_4 66 (by decide +kernel) (by decide +kernel)
theorem q4_67 : (Jvm.Cond.methodLink "TileWardenLaw" (54 : Nat) ({ cls := "TileWarden", name := "worth", desc := "(II)I" } : Jvm.MethodName)) ∈ lwG := lwG_4 67 (by decide +kernel) (by decide +kernel)
theorem q4_68 : (Jvm.Cond.instanceMethod ({ cls := "TileWarden", name := "worth", desc := "(II)I" } : Jvm.MethodName)) ∈ lwG := lwG_4 68 (by decide +kernel) (by decide +kernel)
theorem q4_69 : (Jvm.Cond.selects "TileWarden" ({ cls := "TileWarden", name := "worth", desc := "(II)I" } : Jvm.MethodName) ({ cls := "TileWarden", name := "worth", desc := "(II)I" } : Jvm.MethodName)) ∈ lwG := lwG_4 69 (by decide +kernel) (by decide +kernel)
theorem q4_70 : (Jvm.Cond.code ({ cls := "TileWarden", name := "worth", desc := "(II)I" } : Jvm.MethodName) prog_1_method_12_code (4 : Nat) (Option.some Jvm.ClassFile.FieldType.int)) ∈ lwG := lwG_4 70 (by decide +kernel) (by decide +kernel)
theorem q4_71 : (Jvm.Cond.methodLink "TileWardenLaw" (146 : Nat) ({ cls := "TileWardenLaw", name := "money", desc := "(LTileWarden;I[J)I" } : Jvm.MethodName)) ∈ lwG := lwG_4 71 (by decide +kernel) (by decide +kernel)
theorem q4_72 : (Jvm.Cond.static ({ cls := "TileWardenLaw", name := "money", desc := "(LTileWarden;I[J)I" } : Jvm.MethodName)) ∈ lwG := lwG_4 72 (by decide +kernel) (by decide +kernel)
theorem q4_73 : (Jvm.Cond.codeWith ({ cls := "TileWardenLaw", name := "money", desc := "(LTileWarden;I[J)I" } : Jvm.MethodName) method_14_code (4 : Nat) (Option.some Jvm.ClassFile.FieldType.int) [((0 : Nat), (9 : Nat), (12 : Nat), (21 : Nat))]) ∈ lwG := lwG_4 73 (by decide +kernel) (by decide +kernel)
theorem q4_74 : (Jvm.Cond.methodLink "TileWardenLaw" (57 : Nat) ({ cls := "TileWarden", name := "money", desc := "(I)I" } : Jvm.MethodName)) ∈ lwG := lwG_4 74 (by decide +kernel) (by decide +kernel)
theorem q4_75 : (Jvm.Cond.instanceMethod ({ cls := "TileWarden", name := "money", desc := "(I)I" } : Jvm.MethodName)) ∈ lwG := lwG_4 75 (by decide +kernel) (by decide +kernel)
theorem q4_76 : (Jvm.Cond.selects "TileWarden" ({ cls := "TileWarden", name := "money", desc := "(I)I" } : Jvm.MethodName) ({ cls := "TileWarden", name := "money", desc := "(I)I" } : Jvm.MethodName)) ∈ lwG := lwG_4 76 (by decide +kernel) (by decide +kernel)
theorem q4_77 : (Jvm.Cond.code ({ cls := "TileWarden", name := "money", desc := "(I)I" } : Jvm.MethodName) prog_1_method_13_code (2 : Nat) (Option.some Jvm.ClassFile.FieldType.int)) ∈ lwG := lwG_4 77 (by decide +kernel) (by decide +kernel)
theorem q4_78 : (Jvm.Cond.methodLink "TileWardenLaw" (149 : Nat) ({ cls := "TileWardenLaw", name := "setRoom", desc := "(LTileWarden;I[J)I" } : Jvm.MethodName)) ∈ lwG := lwG_4 78 (by decide +kernel) (by decide +kernel)
theorem q4_79 : (Jvm.Cond.static ({ cls := "TileWardenLaw", name := "setRoom", desc := "(LTileWarden;I[J)I" } : Jvm.MethodName)) ∈ lwG := lwG_4 79 (by decide +kernel) (by decide +kernel)
theorem q4_80 : (Jvm.Cond.codeWith ({ cls := "TileWardenLaw", name := "setRoom", desc := "(LTileWarden;I[J)I" } : Jvm.MethodName) method_15_code (4 : Nat) (Option.some Jvm.ClassFile.FieldType.int) [((0 : Nat), (9 : Nat), (12 : Nat), (13 : Nat)), ((0 : Nat), (9 : Nat), (15 : Nat), (26 : Nat))]) ∈ lwG := lwG_4 80 (by decide +kernel) (by decide +kernel)
theorem q4_81 : (Jvm.Cond.methodLink "TileWardenLaw" (60 : Nat) ({ cls := "TileWarden", name := "setRoom", desc := "(I)I" } : Jvm.MethodName)) ∈ lwG := lwG_4 81 (by decide +kernel) (by decide +kernel)
theorem q4_82 : (Jvm.Cond.instanceMethod ({ cls := "TileWarden", name := "setRoom", desc := "(I)I" } : Jvm.MethodName)) ∈ lwG := lwG_4 82 (by decide +kernel) (by decide +kernel)
theorem q4_83 : (Jvm.Cond.selects "TileWarden" ({ cls := "TileWarden", name := "setRoom", desc := "(I)I" } : Jvm.MethodName) ({ cls := "TileWarden", name := "setRoom", desc := "(I)I" } : Jvm.MethodName)) ∈ lwG := lwG_4 83 (by decide +kernel) (by decide +kernel)
theorem q4_84 : (Jvm.Cond.code ({ cls := "TileWarden", name := "setRoom", desc := "(I)I" } : Jvm.MethodName) prog_1_method_14_code (2 : Nat) (Option.some Jvm.ClassFile.FieldType.int)) ∈ lwG := lwG_4 84 (by decide +kernel) (by decide +kernel)
theorem q4_85 : (Jvm.Cond.stringRef "TileWarden" (195 : Nat) "the room is out of range") ∈ tables_1 := lwT_4 85 (by decide +kernel)
theorem q4_86 : (Jvm.Cond.stringRef "TileWarden" (200 : Nat) "more entries are pinned") ∈ tables_1 := lwT_4 86 (by decide +kernel)
theorem q4_87 : (Jvm.Cond.methodLink "TileWarden" (202 : Nat) ({ cls := "TileWarden$Cache", name := "fitInto", desc := "(I)V" } : Jvm.MethodName)) ∈ lwG := lwG_4 87 (by decide +kernel) (by decide +kernel)
theorem q4_88 : (Jvm.Cond.instanceMethod ({ cls := "TileWarden$Cache", name := "fitInto", desc := "(I)V" } : Jvm.MethodName)) ∈ lwG := lwG_4 88 (by decide +kernel) (by decide +kernel)
theorem q4_89 : (Jvm.Cond.selects "TileWarden$Cache" ({ cls := "TileWarden$Cache", name := "fitInto", desc := "(I)V" } : Jvm.MethodName) ({ cls := "TileWarden$Cache", name := "fitInto", desc := "(I)V" } : Jvm.MethodName)) ∈ lwG := lwG_4 89 (by decide +kernel) (by decide +kernel)
theorem q4_90 : (Jvm.Cond.code ({ cls := "TileWarden$Cache", name := "fitInto", desc := "(I)V" } : Jvm.MethodName) prog_3_method_6_code (3 : Nat) (Option.none : Option Jvm.ClassFile.FieldType)) ∈ lwG := lwG_4 90 (by decide +kernel) (by decide +kernel)
theorem q4_91 : (Jvm.Cond.methodLink "TileWardenLaw" (156 : Nat) ({ cls := "TileWardenLaw", name := "isCached", desc := "(LTileWarden;II[J)I" } : Jvm.MethodName)) ∈ lwG := lwG_4 91 (by decide +kernel) (by decide +kernel)
theorem q4_92 : (Jvm.Cond.static ({ cls := "TileWardenLaw", name := "isCached", desc := "(LTileWarden;II[J)I" } : Jvm.MethodName)) ∈ lwG := lwG_4 92 (by decide +kernel) (by decide +kernel)
theorem q4_93 : (Jvm.Cond.codeWith ({ cls := "TileWardenLaw", name := "isCached", desc := "(LTileWarden;II[J)I" } : Jvm.MethodName) method_16_code (5 : Nat) (Option.some Jvm.ClassFile.FieldType.int) [((0 : Nat), (17 : Nat), (20 : Nat), (21 : Nat)), ((0 : Nat), (17 : Nat), (24 : Nat), (13 : Nat))]) ∈ lwG := lwG_4 93 (by decide +kernel) (by decide +kernel)
theorem q4_94 : (Jvm.Cond.methodLink "TileWardenLaw" (63 : Nat) ({ cls := "TileWarden", name := "isCached", desc := "(II)Z" } : Jvm.MethodName)) ∈ lwG := lwG_4 94 (by decide +kernel) (by decide +kernel)
theorem q4_95 : (Jvm.Cond.instanceMethod ({ cls := "TileWarden", name := "isCached", desc := "(II)Z" } : Jvm.MethodName)) ∈ lwG := lwG_4 95 (by decide +kernel) (by decide +kernel)
theorem q4_96 : (Jvm.Cond.selects "TileWarden" ({ cls := "TileWarden", name := "isCached", desc := "(II)Z" } : Jvm.MethodName) ({ cls := "TileWarden", name := "isCached", desc := "(II)Z" } : Jvm.MethodName)) ∈ lwG := lwG_4 96 (by decide +kernel) (by decide +kernel)
theorem q4_97 : (Jvm.Cond.code ({ cls := "TileWarden", name := "isCached", desc := "(II)Z" } : Jvm.MethodName) prog_1_method_16_code (4 : Nat) (Option.some Jvm.ClassFile.FieldType.boolean)) ∈ lwG := lwG_4 97 (by decide +kernel) (by decide +kernel)
theorem q4_98 : (Jvm.Cond.methodLink "TileWardenLaw" (159 : Nat) ({ cls := "TileWardenLaw", name := "pin", desc := "(LTileWarden;II[J)I" } : Jvm.MethodName)) ∈ lwG := lwG_4 98 (by decide +kernel) (by decide +kernel)
theorem q4_99 : (Jvm.Cond.static ({ cls := "TileWardenLaw", name := "pin", desc := "(LTileWarden;II[J)I" } : Jvm.MethodName)) ∈ lwG := lwG_4 99 (by decide +kernel) (by decide +kernel)
theorem q4_100 : (Jvm.Cond.codeWith ({ cls := "TileWardenLaw", name := "pin", desc := "(LTileWarden;II[J)I" } : Jvm.MethodName) method_17_code (5 : Nat) (Option.some Jvm.ClassFile.FieldType.int) [((0 : Nat), (10 : Nat), (13 : Nat), (21 : Nat)), ((0 : Nat), (10 : Nat), (17 : Nat), (13 : Nat)), ((0 : Nat), (10 : Nat), (21 : Nat), (26 : Nat)), ((0 : Nat), (10 : Nat), (25 : Nat), (52 : Nat))]) ∈ lwG := lwG_4 100 (by decide +kernel) (by decide +kernel)
theorem q4_101 : (Jvm.Cond.methodLink "TileWardenLaw" (66 : Nat) ({ cls := "TileWarden", name := "pin", desc := "(II)I" } : Jvm.MethodName)) ∈ lwG := lwG_4 101 (by decide +kernel) (by decide +kernel)
theorem q4_102 : (Jvm.Cond.instanceMethod ({ cls := "TileWarden", name := "pin", desc := "(II)I" } : Jvm.MethodName)) ∈ lwG := lwG_4 102 (by decide +kernel) (by decide +kernel)
theorem q4_103 : (Jvm.Cond.selects "TileWarden" ({ cls := "TileWarden", name := "pin", desc := "(II)I" } : Jvm.MethodName) ({ cls := "TileWarden", name := "pin", desc := "(II)I" } : Jvm.MethodName)) ∈ lwG := lwG_4 103 (by decide +kernel) (by decide +kernel)
theorem q4_104 : (Jvm.Cond.code ({ cls := "TileWarden", name := "pin", desc := "(II)I" } : Jvm.MethodName) prog_1_method_17_code (5 : Nat) (Option.some Jvm.ClassFile.FieldType.int)) ∈ lwG := lwG_4 104 (by decide +kernel) (by decide +kernel)
theorem q4_105 : (Jvm.Cond.stringRef "TileWarden" (212 : Nat) "the game is void") ∈ tables_1 := lwT_4 105 (by decide +kernel)
theorem q4_106 : (Jvm.Cond.stringRef "TileWarden" (214 : Nat) "there is no such entry") ∈ tables_1 := lwT_4 106 (by decide +kernel)
theorem q4_107 : (Jvm.Cond.methodLink "TileWarden" (224 : Nat) ({ cls := "TileWarden$Cache", name := "countPins", desc := "(I)I" } : Jvm.MethodName)) ∈ lwG := lwG_4 107 (by decide +kernel) (by decide +kernel)
theorem q4_108 : (Jvm.Cond.instanceMethod ({ cls := "TileWarden$Cache", name := "countPins", desc := "(I)I" } : Jvm.MethodName)) ∈ lwG := lwG_4 108 (by decide +kernel) (by decide +kernel)
theorem q4_109 : (Jvm.Cond.selects "TileWarden$Cache" ({ cls := "TileWarden$Cache", name := "countPins", desc := "(I)I" } : Jvm.MethodName) ({ cls := "TileWarden$Cache", name := "countPins", desc := "(I)I" } : Jvm.MethodName)) ∈ lwG := lwG_4 109 (by decide +kernel) (by decide +kernel)
theorem q4_110 : (Jvm.Cond.code ({ cls := "TileWarden$Cache", name := "countPins", desc := "(I)I" } : Jvm.MethodName) prog_3_method_8_code (7 : Nat) (Option.some Jvm.ClassFile.FieldType.int)) ∈ lwG := lwG_4 110 (by decide +kernel) (by decide +kernel)
theorem q4_111 : (Jvm.Cond.methodLink "TileWardenLaw" (162 : Nat) ({ cls := "TileWardenLaw", name := "unpin", desc := "(LTileWarden;I[J)I" } : Jvm.MethodName)) ∈ lwG := lwG_4 111 (by decide +kernel) (by decide +kernel)
theorem q4_112 : (Jvm.Cond.static ({ cls := "TileWardenLaw", name := "unpin", desc := "(LTileWarden;I[J)I" } : Jvm.MethodName)) ∈ lwG := lwG_4 112 (by decide +kernel) (by decide +kernel)
theorem q4_113 : (Jvm.Cond.codeWith ({ cls := "TileWardenLaw", name := "unpin", desc := "(LTileWarden;I[J)I" } : Jvm.MethodName) method_18_code (4 : Nat) (Option.some Jvm.ClassFile.FieldType.int) [((0 : Nat), (9 : Nat), (12 : Nat), (21 : Nat))]) ∈ lwG := lwG_4 113 (by decide +kernel) (by decide +kernel)
theorem q4_114 : (Jvm.Cond.methodLink "TileWardenLaw" (69 : Nat) ({ cls := "TileWarden", name := "unpin", desc := "(I)I" } : Jvm.MethodName)) ∈ lwG := lwG_4 114 (by decide +kernel) (by decide +kernel)
theorem q4_115 : (Jvm.Cond.instanceMethod ({ cls := "TileWarden", name := "unpin", desc := "(I)I" } : Jvm.MethodName)) ∈ lwG := lwG_4 115 (by decide +kernel) (by decide +kernel)
theorem q4_116 : (Jvm.Cond.selects "TileWarden" ({ cls := "TileWarden", name := "unpin", desc := "(I)I" } : Jvm.MethodName) ({ cls := "TileWarden", name := "unpin", desc := "(I)I" } : Jvm.MethodName)) ∈ lwG := lwG_4 116 (by decide +kernel) (by decide +kernel)
theorem q4_117 : (Jvm.Cond.code ({ cls := "TileWarden", name := "unpin", desc := "(I)I" } : Jvm.MethodName) prog_1_method_18_code (4 : Nat) (Option.some Jvm.ClassFile.FieldType.int)) ∈ lwG := lwG_4 117 (by decide +kernel) (by decide +kernel)
theorem q4_118 : (Jvm.Cond.methodLink "TileWarden" (227 : Nat) ({ cls := "TileWarden$Cache", name := "takePins", desc := "(I)V" } : Jvm.MethodName)) ∈ lwG := lwG_4 118 (by decide +kernel) (by decide +kernel)
theorem q4_119 : (Jvm.Cond.instanceMethod ({ cls := "TileWarden$Cache", name := "takePins", desc := "(I)V" } : Jvm.MethodName)) ∈ lwG := lwG_4 119 (by decide +kernel) (by decide +kernel)
theorem q4_120 : (Jvm.Cond.selects "TileWarden$Cache" ({ cls := "TileWarden$Cache", name := "takePins", desc := "(I)V" } : Jvm.MethodName) ({ cls := "TileWarden$Cache", name := "takePins", desc := "(I)V" } : Jvm.MethodName)) ∈ lwG := lwG_4 120 (by decide +kernel) (by decide +kernel)
theorem q4_121 : (Jvm.Cond.code ({ cls := "TileWarden$Cache", name := "takePins", desc := "(I)V" } : Jvm.MethodName) prog_3_method_9_code (6 : Nat) (Option.none : Option Jvm.ClassFile.FieldType)) ∈ lwG := lwG_4 121 (by decide +kernel) (by decide +kernel)
theorem q4_122 : (Jvm.Cond.methodLink "TileWardenLaw" (169 : Nat) ({ cls := "TileWardenLaw", name := "follows", desc := "(LTileWarden;I[J)I" } : Jvm.MethodName)) ∈ lwG := lwG_4 122 (by decide +kernel) (by decide +kernel)
theorem q4_123 : (Jvm.Cond.static ({ cls := "TileWardenLaw", name := "follows", desc := "(LTileWarden;I[J)I" } : Jvm.MethodName)) ∈ lwG := lwG_4 123 (by decide +kernel) (by decide +kernel)
theorem q4_124 : (Jvm.Cond.codeWith ({ cls := "TileWardenLaw", name := "follows", desc := "(LTileWarden;I[J)I" } : Jvm.MethodName) method_19_code (4 : Nat) (Option.some Jvm.ClassFile.FieldType.int) [((0 : Nat), (9 : Nat), (12 : Nat), (21 : Nat))]) ∈ lwG := lwG_4 124 (by decide +kernel) (by decide +kernel)
theorem q4_125 : (Jvm.Cond.methodLink "TileWardenLaw" (72 : Nat) ({ cls := "TileWarden", name := "follows", desc := "(I)I" } : Jvm.MethodName)) ∈ lwG := lwG_4 125 (by decide +kernel) (by decide +kernel)
theorem q4_126 : (Jvm.Cond.instanceMethod ({ cls := "TileWarden", name := "follows", desc := "(I)I" } : Jvm.MethodName)) ∈ lwG := lwG_4 126 (by decide +kernel) (by decide +kernel)
theorem q4_127 : (Jvm.Cond.selects "TileWarden" ({ cls := "TileWarden", name := "follows", desc := "(I)I" } : Jvm.MethodName) ({ cls := "TileWarden", name := "follows", desc := "(I)I" } : Jvm.MethodName)) ∈ lwG := lwG_4 127 (by decide +kernel) (by decide +kernel)
theorem q4_128 : (Jvm.Cond.code ({ cls := "TileWarden", name := "follows", desc := "(I)I" } : Jvm.MethodName) prog_1_method_20_code (2 : Nat) (Option.some Jvm.ClassFile.FieldType.int)) ∈ lwG := lwG_4 128 (by decide +kernel) (by decide +kernel)
theorem q4_129 : (Jvm.Cond.methodLink "TileWardenLaw" (172 : Nat) ({ cls := "TileWardenLaw", name := "setLimit", desc := "(LTileWarden;I[J)I" } : Jvm.MethodName)) ∈ lwG := lwG_4 129 (by decide +kernel) (by decide +kernel)
theorem q4_130 : (Jvm.Cond.static ({ cls := "TileWardenLaw", name := "setLimit", desc := "(LTileWarden;I[J)I" } : Jvm.MethodName)) ∈ lwG := lwG_4 130 (by decide +kernel) (by decide +kernel)
theorem q4_131 : (Jvm.Cond.codeWith ({ cls := "TileWardenLaw", name := "setLimit", desc := "(LTileWarden;I[J)I" } : Jvm.MethodName) method_20_code (4 : Nat) (Option.some Jvm.ClassFile.FieldType.int) [((0 : Nat), (9 : Nat), (12 : Nat), (13 : Nat))]) ∈ lwG := lwG_4 131 (by decide +kernel) (by decide +kernel)
theorem q4_132 : (Jvm.Cond.methodLink "TileWardenLaw" (75 : Nat) ({ cls := "TileWarden", name := "setLimit", desc := "(I)I" } : Jvm.MethodName)) ∈ lwG := lwG_4 132 (by decide +kernel) (by decide +kernel)
theorem q4_133 : (Jvm.Cond.instanceMethod ({ cls := "TileWarden", name := "setLimit", desc := "(I)I" } : Jvm.MethodName)) ∈ lwG := lwG_4 133 (by decide +kernel) (by decide +kernel)
theorem q4_134 : (Jvm.Cond.selects "TileWarden" ({ cls := "TileWarden", name := "setLimit", desc := "(I)I" } : Jvm.MethodName) ({ cls := "TileWarden", name := "setLimit", desc := "(I)I" } : Jvm.MethodName)) ∈ lwG := lwG_4 134 (by decide +kernel) (by decide +kernel)
theorem q4_135 : (Jvm.Cond.code ({ cls := "TileWarden", name := "setLimit", desc := "(I)I" } : Jvm.MethodName) prog_1_method_21_code (3 : Nat) (Option.some Jvm.ClassFile.FieldType.int)) ∈ lwG := lwG_4 135 (by decide +kernel) (by decide +kernel)
theorem q4_136 : (Jvm.Cond.stringRef "TileWarden" (233 : Nat) "the limit is out of range") ∈ tables_1 := lwT_4 136 (by decide +kernel)
theorem q4_137 : (Jvm.Cond.methodLink "TileWardenLaw" (175 : Nat) ({ cls := "TileWardenLaw", name := "judge", desc := "(LTileWarden;I[J)I" } : Jvm.MethodName)) ∈ lwG := lwG_4 137 (by decide +kernel) (by decide +kernel)
theorem q4_138 : (Jvm.Cond.static ({ cls := "TileWardenLaw", name := "judge", desc := "(LTileWarden;I[J)I" } : Jvm.MethodName)) ∈ lwG := lwG_4 138 (by decide +kernel) (by decide +kernel)
theorem q4_139 : (Jvm.Cond.codeWith ({ cls := "TileWardenLaw", name := "judge", desc := "(LTileWarden;I[J)I" } : Jvm.MethodName) method_21_code (4 : Nat) (Option.some Jvm.ClassFile.FieldType.int) [((0 : Nat), (9 : Nat), (12 : Nat), (21 : Nat)), ((0 : Nat), (9 : Nat), (15 : Nat), (26 : Nat))]) ∈ lwG := lwG_4 139 (by decide +kernel) (by decide +kernel)
theorem q4_140 : (Jvm.Cond.methodLink "TileWardenLaw" (78 : Nat) ({ cls := "TileWarden", name := "judge", desc := "(I)I" } : Jvm.MethodName)) ∈ lwG := lwG_4 140 (by decide +kernel) (by decide +kernel)
theorem q4_141 : (Jvm.Cond.instanceMethod ({ cls := "TileWarden", name := "judge", desc := "(I)I" } : Jvm.MethodName)) ∈ lwG := lwG_4 141 (by decide +kernel) (by decide +kernel)
theorem q4_142 : (Jvm.Cond.selects "TileWarden" ({ cls := "TileWarden", name := "judge", desc := "(I)I" } : Jvm.MethodName) ({ cls := "TileWarden", name := "judge", desc := "(I)I" } : Jvm.MethodName)) ∈ lwG := lwG_4 142 (by decide +kernel) (by decide +kernel)
theorem q4_143 : (Jvm.Cond.code ({ cls := "TileWarden", name := "judge", desc := "(I)I" } : Jvm.MethodName) prog_1_method_22_code (3 : Nat) (Option.some Jvm.ClassFile.FieldType.int)) ∈ lwG := lwG_4 143 (by decide +kernel) (by decide +kernel)
theorem q4_144 : (Jvm.Cond.stringRef "TileWarden" (235 : Nat) "the game is void already") ∈ tables_1 := lwT_4 144 (by decide +kernel)
theorem q4_145 : (Jvm.Cond.methodLink "TileWardenLaw" (178 : Nat) ({ cls := "TileWardenLaw", name := "isVoid", desc := "(LTileWarden;I[J)I" } : Jvm.MethodName)) ∈ lwG := lwG_4 145 (by decide +kernel) (by decide +kernel)
theorem q4_146 : (Jvm.Cond.static ({ cls := "TileWardenLaw", name := "isVoid", desc := "(LTileWarden;I[J)I" } : Jvm.MethodName)) ∈ lwG := lwG_4 146 (by decide +kernel) (by decide +kernel)
theorem q4_147 : (Jvm.Cond.codeWith ({ cls := "TileWardenLaw", name := "isVoid", desc := "(LTileWarden;I[J)I" } : Jvm.MethodName) method_22_code (4 : Nat) (Option.some Jvm.ClassFile.FieldType.int) [((0 : Nat), (16 : Nat), (19 : Nat), (21 : Nat))]) ∈ lwG := lwG_4 147 (by decide +kernel) (by decide +kernel)
theorem q4_148 : (Jvm.Cond.methodLink "TileWardenLaw" (81 : Nat) ({ cls := "TileWarden", name := "isVoid", desc := "(I)Z" } : Jvm.MethodName)) ∈ lwG := lwG_4 148 (by decide +kernel) (by decide +kernel)
theorem q4_149 : (Jvm.Cond.instanceMethod ({ cls := "TileWarden", name := "isVoid", desc := "(I)Z" } : Jvm.MethodName)) ∈ lwG := lwG_4 149 (by decide +kernel) (by decide +kernel)
theorem q4_150 : (Jvm.Cond.selects "TileWarden" ({ cls := "TileWarden", name := "isVoid", desc := "(I)Z" } : Jvm.MethodName) ({ cls := "TileWarden", name := "isVoid", desc := "(I)Z" } : Jvm.MethodName)) ∈ lwG := lwG_4 150 (by decide +kernel) (by decide +kernel)
theorem q4_151 : (Jvm.Cond.code ({ cls := "TileWarden", name := "isVoid", desc := "(I)Z" } : Jvm.MethodName) prog_1_method_23_code (2 : Nat) (Option.some Jvm.ClassFile.FieldType.boolean)) ∈ lwG := lwG_4 151 (by decide +kernel) (by decide +kernel)
theorem q4_152 : (Jvm.Cond.methodLink "TileWardenLaw" (185 : Nat) ({ cls := "TileWardenLaw", name := "playerOf", desc := "(LTileWarden;I[J)I" } : Jvm.MethodName)) ∈ lwG := lwG_4 152 (by decide +kernel) (by decide +kernel)
theorem q4_153 : (Jvm.Cond.static ({ cls := "TileWardenLaw", name := "playerOf", desc := "(LTileWarden;I[J)I" } : Jvm.MethodName)) ∈ lwG := lwG_4 153 (by decide +kernel) (by decide +kernel)
theorem q4_154 : (Jvm.Cond.codeWith ({ cls := "TileWardenLaw", name := "playerOf", desc := "(LTileWarden;I[J)I" } : Jvm.MethodName) method_23_code (4 : Nat) (Option.some Jvm.ClassFile.FieldType.int) [((0 : Nat), (9 : Nat), (12 : Nat), (21 : Nat))]) ∈ lwG := lwG_4 154 (by decide +kernel) (by decide +kernel)
theorem q4_155 : (Jvm.Cond.methodLink "TileWardenLaw" (84 : Nat) ({ cls := "TileWarden", name := "playerOf", desc := "(I)I" } : Jvm.MethodName)) ∈ lwG := lwG_4 155 (by decide +kernel) (by decide +kernel)
theorem q4_156 : (Jvm.Cond.instanceMethod ({ cls := "TileWarden", name := "playerOf", desc := "(I)I" } : Jvm.MethodName)) ∈ lwG := lwG_4 156 (by decide +kernel) (by decide +kernel)
theorem q4_157 : (Jvm.Cond.selects "TileWarden" ({ cls := "TileWarden", name := "playerOf", desc := "(I)I" } : Jvm.MethodName) ({ cls := "TileWarden", name := "playerOf", desc := "(I)I" } : Jvm.MethodName)) ∈ lwG := lwG_4 157 (by decide +kernel) (by decide +kernel)
theorem q4_158 : (Jvm.Cond.code ({ cls := "TileWarden", name := "playerOf", desc := "(I)I" } : Jvm.MethodName) prog_1_method_25_code (2 : Nat) (Option.some Jvm.ClassFile.FieldType.int)) ∈ lwG := lwG_4 158 (by decide +kernel) (by decide +kernel)
theorem q4_159 : (Jvm.Cond.methodLink "TileWarden" (240 : Nat) ({ cls := "TileWarden", name := "findTrace", desc := "(I)LTileWarden$Trace;" } : Jvm.MethodName)) ∈ lwG := lwG_4 159 (by decide +kernel) (by decide +kernel)
theorem q4_160 : (Jvm.Cond.privateMethod ({ cls := "TileWarden", name := "findTrace", desc := "(I)LTileWarden$Trace;" } : Jvm.MethodName)) ∈ tables_1 := lwT_4 160 (by decide +kernel)
theorem q4_161 : (Jvm.Cond.instanceMethod ({ cls := "TileWarden", name := "findTrace", desc := "(I)LTileWarden$Trace;" } : Jvm.MethodName)) ∈ lwG := lwG_4 161 (by decide +kernel) (by decide +kernel)
theorem q4_162 : (Jvm.Cond.code ({ cls := "TileWarden", name := "findTrace", desc := "(I)LTileWarden$Trace;" } : Jvm.MethodName) prog_1_method_33_code (2 : Nat) (Option.some (Jvm.ClassFile.FieldType.object "TileWarden$Trace"))) ∈ lwG := lwG_4 162 (by decide +kernel) (by decide +kernel)
theorem q4_163 : (Jvm.Cond.stringRef "TileWarden" (278 : Nat) "there is no such trace") ∈ tables_1 := lwT_4 163 (by decide +kernel)
theorem q4_164 : (Jvm.Cond.methodLink "TileWardenLaw" (188 : Nat) ({ cls := "TileWardenLaw", name := "pushOf", desc := "(LTileWarden;I[J)I" } : Jvm.MethodName)) ∈ lwG := lwG_4 164 (by decide +kernel) (by decide +kernel)
theorem q4_165 : (Jvm.Cond.static ({ cls := "TileWardenLaw", name := "pushOf", desc := "(LTileWarden;I[J)I" } : Jvm.MethodName)) ∈ lwG := lwG_4 165 (by decide +kernel) (by decide +kernel)
theorem q4_166 : (Jvm.Cond.codeWith ({ cls := "TileWardenLaw", name := "pushOf", desc := "(LTileWarden;I[J)I" } : Jvm.MethodName) method_24_code (4 : Nat) (Option.some Jvm.ClassFile.FieldType.int) [((0 : Nat), (9 : Nat), (12 : Nat), (21 : Nat))]) ∈ lwG := lwG_4 166 (by decide +kernel) (by decide +kernel)
theorem q4_167 : (Jvm.Cond.methodLink "TileWardenLaw" (87 : Nat) ({ cls := "TileWarden", name := "pushOf", desc := "(I)I" } : Jvm.MethodName)) ∈ lwG := lwG_4 167 (by decide +kernel) (by decide +kernel)
theorem q4_168 : (Jvm.Cond.instanceMethod ({ cls := "TileWarden", name := "pushOf", desc := "(I)I" } : Jvm.MethodName)) ∈ lwG := lwG_4 168 (by decide +kernel) (by decide +kernel)
theorem q4_169 : (Jvm.Cond.selects "TileWarden" ({ cls := "TileWarden", name := "pushOf", desc := "(I)I" } : Jvm.MethodName) ({ cls := "TileWarden", name := "pushOf", desc := "(I)I" } : Jvm.MethodName)) ∈ lwG := lwG_4 169 (by decide +kernel) (by decide +kernel)
theorem q4_170 : (Jvm.Cond.code ({ cls := "TileWarden", name := "pushOf", desc := "(I)I" } : Jvm.MethodName) prog_1_method_26_code (2 : Nat) (Option.some Jvm.ClassFile.FieldType.int)) ∈ lwG := lwG_4 170 (by decide +kernel) (by decide +kernel)
theorem q4_171 : (Jvm.Cond.methodLink "TileWardenLaw" (196 : Nat) ({ cls := "TileWardenLaw", name := "hitShare", desc := "(LTileWarden;[D)I" } : Jvm.MethodName)) ∈ lwG := lwG_4 171 (by decide +kernel) (by decide +kernel)
theorem q4_172 : (Jvm.Cond.static ({ cls := "TileWardenLaw", name := "hitShare", desc := "(LTileWarden;[D)I" } : Jvm.MethodName)) ∈ lwG := lwG_4 172 (by decide +kernel) (by decide +kernel)
theorem q4_173 : (Jvm.Cond.codeWith ({ cls := "TileWardenLaw", name := "hitShare", desc := "(LTileWarden;[D)I" } : Jvm.MethodName) method_25_code (3 : Nat) (Option.some Jvm.ClassFile.FieldType.int) [((0 : Nat), (8 : Nat), (11 : Nat), (94 : Nat))]) ∈ lwG := lwG_4 173 (by decide +kernel) (by decide +kernel)
theorem q4_174 : (Jvm.Cond.classLink "TileWardenLaw" (94 : Nat) "java/lang/ArithmeticException") ∈ lwG := lwG_4 174 (by decide +kernel) (by decide +kernel)
theorem q4_175 : (Jvm.Cond.instantiable "java/lang/ArithmeticException" (6 : Nat)) ∈ lwG := lwG_4 175 (by decide +kernel) (by decide +kernel)
theorem q4_176 : (Jvm.Cond.instanceMethod ({ cls := "java/lang/ArithmeticException", name := "<init>", desc := "(Ljava/lang/String;)V" } : Jvm.MethodName)) ∈ lwG := lwG_4 176 (by decide +kernel) (by decide +kernel)
theorem q4_177 : (Jvm.Cond.code ({ cls := "java/lang/ArithmeticException", name := "<init>", desc := "(Ljava/lang/String;)V" } : Jvm.MethodName) prog_12_method_2_code (2 : Nat) (Option.none : Option Jvm.ClassFile.FieldType)) ∈ lwG := lwG_4 177 (by decide +kernel) (by decide +kernel)
theorem q4_178 : (Jvm.Cond.methodLink "java/lang/ArithmeticException" (7 : Nat) ({ cls := "java/lang/RuntimeException", name := "<init>", desc := "(Ljava/lang/String;)V" } : Jvm.MethodName)) ∈ lwG := lwG_4 178 (by decide +kernel) (by decide +kernel)
theorem q4_179 : (Jvm.Cond.lays "java/lang/ArithmeticException" "java/lang/Throwable" "backtrace" "Ljava/lang/Object;") ∈ lwG := lwG_4 179 (by decide +kernel) (by decide +kernel)
theorem q4_180 : (Jvm.Cond.lays "java/lang/ArithmeticException" "java/lang/Throwable" "detailMessage" "Ljava/lang/String;") ∈ lwG := lwG_4 180 (by decide +kernel) (by decide +kernel)
theorem q4_181 : (Jvm.Cond.lays "java/lang/ArithmeticException" "java/lang/Throwable" "cause" "Ljava/lang/Throwable;") ∈ lwG := lwG_4 181 (by decide +kernel) (by decide +kernel)
theorem q4_182 : (Jvm.Cond.lays "java/lang/ArithmeticException" "java/lang/Throwable" "stackTrace" "[Ljava/lang/StackTraceElement;") ∈ lwG := lwG_4 182 (by decide +kernel) (by decide +kernel)
theorem q4_183 : (Jvm.Cond.lays "java/lang/ArithmeticException" "java/lang/Throwable" "depth" "I") ∈ lwG := lwG_4 183 (by decide +kernel) (by decide +kernel)
theorem q4_184 : (Jvm.Cond.lays "java/lang/ArithmeticException" "java/lang/Throwable" "suppressedExceptions" "Ljava/util/List;") ∈ lwG := lwG_4 184 (by decide +kernel) (by decide +kernel)
theorem q4_185 : (Jvm.Cond.superclass "java/lang/ArithmeticException" "java/lang/RuntimeException") ∈ lwG := lwG_4 185 (by decide +kernel) (by decide +kernel)
theorem q4_186 : (Jvm.Cond.castable "java/lang/ArithmeticException" "java/lang/ArithmeticException") ∈ tables_1 := lwT_4 186 (by decide +kernel)
theorem q4_187 : (Jvm.Cond.selects "java/lang/ArithmeticException" ({ cls := "java/lang/Throwable", name := "fillInStackTrace", desc := "(I)Ljava/lang/Throwable;" } : Jvm.MethodName) ({ cls := "java/lang/Throwable", name := "fillInStackTrace", desc := "(I)Ljava/lang/Throwable;" } : Jvm.MethodName)) ∈ lwG := lwG_4 187 (by decide +kernel) (by decide +kernel)
theorem q4_188 : (Jvm.Cond.methodLink "TileWardenLaw" (90 : Nat) ({ cls := "TileWarden", name := "hitShare", desc := "()F" } : Jvm.MethodName)) ∈ lwG := lwG_4 188 (by decide +kernel) (by decide +kernel)
theorem q4_189 : (Jvm.Cond.instanceMethod ({ cls := "TileWarden", name := "hitShare", desc := "()F" } : Jvm.MethodName)) ∈ lwG := lwG_4 189 (by decide +kernel) (by decide +kernel)
theorem q4_190 : (Jvm.Cond.selects "TileWarden" ({ cls := "TileWarden", name := "hitShare", desc := "()F" } : Jvm.MethodName) ({ cls := "TileWarden", name := "hitShare", desc := "()F" } : Jvm.MethodName)) ∈ lwG := lwG_4 190 (by decide +kernel) (by decide +kernel)
theorem q4_191 : (Jvm.Cond.code ({ cls := "TileWarden", name := "hitShare", desc := "()F" } : Jvm.MethodName) prog_1_method_28_code (3 : Nat) (Option.some Jvm.ClassFile.FieldType.float)) ∈ lwG := lwG_4 191 (by decide +kernel) (by decide +kernel)
theorem q4_192 : (Jvm.Cond.classLink "TileWarden" (250 : Nat) "java/lang/ArithmeticException") ∈ lwG := lwG_4 192 (by decide +kernel) (by decide +kernel)
theorem q4_193 : (Jvm.Cond.stringRef "TileWarden" (252 : Nat) "no hint that was sold made a hit or a miss") ∈ tables_1 := lwT_4 193 (by decide +kernel)
theorem q4_194 : (Jvm.Cond.methodLink "TileWarden" (254 : Nat) ({ cls := "java/lang/ArithmeticException", name := "<init>", desc := "(Ljava/lang/String;)V" } : Jvm.MethodName)) ∈ lwG := lwG_4 194 (by decide +kernel) (by decide +kernel)
theorem q4_195 : (Jvm.Cond.methodLink "TileWardenLaw" (200 : Nat) ({ cls := "TileWardenLaw", name := "meanPrice", desc := "(LTileWarden;[D)I" } : Jvm.MethodName)) ∈ lwG := lwG_4 195 (by decide +kernel) (by decide +kernel)
theorem q4_196 : (Jvm.Cond.static ({ cls := "TileWardenLaw", name := "meanPrice", desc := "(LTileWarden;[D)I" } : Jvm.MethodName)) ∈ lwG := lwG_4 196 (by decide +kernel) (by decide +kernel)
theorem q4_197 : (Jvm.Cond.codeWith ({ cls := "TileWardenLaw", name := "meanPrice", desc := "(LTileWarden;[D)I" } : Jvm.MethodName) method_26_code (3 : Nat) (Option.some Jvm.ClassFile.FieldType.int) [((0 : Nat), (7 : Nat), (10 : Nat), (94 : Nat))]) ∈ lwG := lwG_4 197 (by decide +kernel) (by decide +kernel)
theorem q4_198 : (Jvm.Cond.methodLink "TileWardenLaw" (96 : Nat) ({ cls := "TileWarden", name := "meanPrice", desc := "()D" } : Jvm.MethodName)) ∈ lwG := lwG_4 198 (by decide +kernel) (by decide +kernel)
theorem q4_199 : (Jvm.Cond.instanceMethod ({ cls := "TileWarden", name := "meanPrice", desc := "()D" } : Jvm.MethodName)) ∈ lwG := lwG_4 199 (by decide +kernel) (by decide +kernel)
theorem q4_200 : (Jvm.Cond.selects "TileWarden" ({ cls := "TileWarden", name := "meanPrice", desc := "()D" } : Jvm.MethodName) ({ cls := "TileWarden", name := "meanPrice", desc := "()D" } : Jvm.MethodName)) ∈ lwG := lwG_4 200 (by decide +kernel) (by decide +kernel)
theorem q4_201 : (Jvm.Cond.code ({ cls := "TileWarden", name := "meanPrice", desc := "()D" } : Jvm.MethodName) prog_1_method_29_code (1 : Nat) (Option.some Jvm.ClassFile.FieldType.double)) ∈ lwG := lwG_4 201 (by decide +kernel) (by decide +kernel)
theorem q4_202 : (Jvm.Cond.stringRef "TileWarden" (255 : Nat) "no hint was sold") ∈ tables_1 := lwT_4 202 (by decide +kernel)
theorem q4_203 : (Jvm.Cond.classLink "TileWardenLaw" (101 : Nat) "TileWardenModel") ∈ lwG := lwG_4 203 (by decide +kernel) (by decide +kernel)
theorem q4_204 : (Jvm.Cond.instantiable "TileWardenModel" (46 : Nat)) ∈ lwG := lwG_4 204 (by decide +kernel) (by decide +kernel)
theorem q4_205 : (Jvm.Cond.methodLink "TileWardenLaw" (103 : Nat) ({ cls := "TileWardenModel", name := "<init>", desc := "()V" } : Jvm.MethodName)) ∈ lwG := lwG_4 205 (by decide +kernel) (by decide +kernel)
theorem q4_206 : (Jvm.Cond.instanceMethod ({ cls := "TileWardenModel", name := "<init>", desc := "()V" } : Jvm.MethodName)) ∈ lwG := lwG_4 206 (by decide +kernel) (by decide +kernel)
theorem q4_207 : (Jvm.Cond.code ({ cls := "TileWardenModel", name := "<init>", desc := "()V" } : Jvm.MethodName) prog_10_method_1_code (1 : Nat) (Option.none : Option Jvm.ClassFile.FieldType)) ∈ lwG := lwG_4 207 (by decide +kernel) (by decide +kernel)
theorem q4_208 : (Jvm.Cond.methodLink "TileWardenModel" (1 : Nat) ({ cls := "java/lang/Object", name := "<init>", desc := "()V" } : Jvm.MethodName)) ∈ lwG := lwG_4 208 (by decide +kernel) (by decide +kernel)
theorem q4_209 : (Jvm.Cond.fieldLink "TileWardenModel" (7 : Nat) "TileWardenModel" "money" "[I") ∈ lwG := lwG_4 209 (by decide +kernel) (by decide +kernel)
theorem q4_210 : (Jvm.Cond.fieldLink "TileWardenModel" (13 : Nat) "TileWardenModel" "board" "[J") ∈ lwG := lwG_4 210 (by decide +kernel) (by decide +kernel)
theorem q4_211 : (Jvm.Cond.fieldLink "TileWardenModel" (17 : Nat) "TileWardenModel" "z" "[I") ∈ lwG := lwG_4 211 (by decide +kernel) (by decide +kernel)
theorem q4_212 : (Jvm.Cond.fieldLink "TileWardenModel" (20 : Nat) "TileWardenModel" "owner" "[I") ∈ lwG := lwG_4 212 (by decide +kernel) (by decide +kernel)
theorem q4_213 : (Jvm.Cond.fieldLink "TileWardenModel" (23 : Nat) "TileWardenModel" "score" "[I") ∈ lwG := lwG_4 213 (by decide +kernel) (by decide +kernel)
theorem q4_214 : (Jvm.Cond.fieldLink "TileWardenModel" (26 : Nat) "TileWardenModel" "pushes" "[I") ∈ lwG := lwG_4 214 (by decide +kernel) (by decide +kernel)
theorem q4_215 : (Jvm.Cond.fieldLink "TileWardenModel" (29 : Nat) "TileWardenModel" "row" "[I") ∈ lwG := lwG_4 215 (by decide +kernel) (by decide +kernel)
theorem q4_216 : (Jvm.Cond.fieldLink "TileWardenModel" (32 : Nat) "TileWardenModel" "longest" "[I") ∈ lwG := lwG_4 216 (by decide +kernel) (by decide +kernel)
theorem q4_217 : (Jvm.Cond.fieldLink "TileWardenModel" (35 : Nat) "TileWardenModel" "paid" "[I") ∈ lwG := lwG_4 217 (by decide +kernel) (by decide +kernel)
theorem q4_218 : (Jvm.Cond.fieldLink "TileWardenModel" (38 : Nat) "TileWardenModel" "gone" "[Z") ∈ lwG := lwG_4 218 (by decide +kernel) (by decide +kernel)
theorem q4_219 : (Jvm.Cond.fieldLink "TileWardenModel" (42 : Nat) "TileWardenModel" "traceBoard" "[J") ∈ lwG := lwG_4 219 (by decide +kernel) (by decide +kernel)
theorem q4_220 : (Jvm.Cond.fieldLink "TileWardenModel" (45 : Nat) "TileWardenModel" "traceZ" "[I") ∈ lwG := lwG_4 220 (by decide +kernel) (by decide +kernel)
theorem q4_221 : (Jvm.Cond.fieldLink "TileWardenModel" (48 : Nat) "TileWardenModel" "tracePlayer" "[I") ∈ lwG := lwG_4 221 (by decide +kernel) (by decide +kernel)
theorem q4_222 : (Jvm.Cond.fieldLink "TileWardenModel" (51 : Nat) "TileWardenModel" "tracePush" "[I") ∈ lwG := lwG_4 222 (by decide +kernel) (by decide +kernel)
theorem q4_223 : (Jvm.Cond.fieldLink "TileWardenModel" (54 : Nat) "TileWardenModel" "keptBoard" "[J") ∈ lwG := lwG_4 223 (by decide +kernel) (by decide +kernel)
theorem q4_224 : (Jvm.Cond.fieldLink "TileWardenModel" (57 : Nat) "TileWardenModel" "keptZ" "[I") ∈ lwG := lwG_4 224 (by decide +kernel) (by decide +kernel)
theorem q4_225 : (Jvm.Cond.fieldLink "TileWardenModel" (60 : Nat) "TileWardenModel" "keptDepth" "[I") ∈ lwG := lwG_4 225 (by decide +kernel) (by decide +kernel)
theorem q4_226 : (Jvm.Cond.fieldLink "TileWardenModel" (63 : Nat) "TileWardenModel" "keptWorth" "[I") ∈ lwG := lwG_4 226 (by decide +kernel) (by decide +kernel)
theorem q4_227 : (Jvm.Cond.fieldLink "TileWardenModel" (66 : Nat) "TileWardenModel" "keptHint" "[I") ∈ lwG := lwG_4 227 (by decide +kernel) (by decide +kernel)
theorem q4_228 : (Jvm.Cond.fieldLink "TileWardenModel" (69 : Nat) "TileWardenModel" "keptUsed" "[I") ∈ lwG := lwG_4 228 (by decide +kernel) (by decide +kernel)
theorem q4_229 : (Jvm.Cond.fieldLink "TileWardenModel" (72 : Nat) "TileWardenModel" "keptPins" "[I") ∈ lwG := lwG_4 229 (by decide +kernel) (by decide +kernel)
theorem q4_230 : (Jvm.Cond.fieldLink "TileWardenModel" (75 : Nat) "TileWardenModel" "pileBoard" "[J") ∈ lwG := lwG_4 230 (by decide +kernel) (by decide +kernel)
theorem q4_231 : (Jvm.Cond.fieldLink "TileWardenModel" (78 : Nat) "TileWardenModel" "pileZ" "[I") ∈ lwG := lwG_4 231 (by decide +kernel) (by decide +kernel)
theorem q4_232 : (Jvm.Cond.fieldLink "TileWardenModel" (81 : Nat) "TileWardenModel" "pileDepth" "[I") ∈ lwG := lwG_4 232 (by decide +kernel) (by decide +kernel)
theorem q4_233 : (Jvm.Cond.fieldLink "TileWardenModel" (84 : Nat) "TileWardenModel" "pileNext" "[I") ∈ lwG := lwG_4 233 (by decide +kernel) (by decide +kernel)
theorem q4_234 : (Jvm.Cond.fieldLink "TileWardenModel" (87 : Nat) "TileWardenModel" "pileBest" "[I") ∈ lwG := lwG_4 234 (by decide +kernel) (by decide +kernel)
theorem q4_235 : (Jvm.Cond.fieldLink "TileWardenModel" (90 : Nat) "TileWardenModel" "pileHint" "[I") ∈ lwG := lwG_4 235 (by decide +kernel) (by decide +kernel)
theorem q4_236 : (Jvm.Cond.fieldLink "TileWardenModel" (93 : Nat) "TileWardenModel" "pileGain" "[I") ∈ lwG := lwG_4 236 (by decide +kernel) (by decide +kernel)
theorem q4_237 : (Jvm.Cond.fieldLink "TileWardenModel" (103 : Nat) "TileWardenModel" "thrown" "I") ∈ lwG := lwG_4 237 (by decide +kernel) (by decide +kernel)
theorem q4_238 : (Jvm.Cond.fieldLink "TileWardenModel" (148 : Nat) "TileWardenModel" "players" "I") ∈ lwG := lwG_4 238 (by decide +kernel) (by decide +kernel)
theorem q4_239 : (Jvm.Cond.fieldLink "TileWardenModel" (106 : Nat) "TileWardenModel" "games" "I") ∈ lwG := lwG_4 239 (by decide +kernel) (by decide +kernel)
theorem q5_0 : (Jvm.Cond.fieldLink "TileWardenModel" (162 : Nat) "TileWardenModel" "traces" "I") ∈ lwG := lwG_5 0 (by decide +kernel) (by decide +kernel)
theorem q5_1 : (Jvm.Cond.fieldLink "TileWardenModel" (169 : Nat) "TileWardenModel" "kept" "I") ∈ lwG := lwG_5 1 (by decide +kernel) (by decide +kernel)
theorem q5_2 : (Jvm.Cond.fieldLink "TileWardenModel" (96 : Nat) "TileWardenModel" "room" "I") ∈ lwG := lwG_5 2 (by decide +kernel) (by decide +kernel)
theorem q5_3 : (Jvm.Cond.fieldLink "TileWardenModel" (180 : Nat) "TileWardenModel" "clock" "I") ∈ lwG := lwG_5 3 (by decide +kernel) (by decide +kernel)
theorem q5_4 : (Jvm.Cond.fieldLink "TileWardenModel" (100 : Nat) "TileWardenModel" "limit" "I") ∈ lwG := lwG_5 4 (by decide +kernel) (by decide +kernel)
theorem q5_5 : (Jvm.Cond.fieldLink "TileWardenModel" (135 : Nat) "TileWardenModel" "drawnZ" "I") ∈ lwG := lwG_5 5 (by decide +kernel) (by decide +kernel)
theorem q5_6 : (Jvm.Cond.fieldLink "TileWardenModel" (113 : Nat) "TileWardenModel" "gained" "I") ∈ lwG := lwG_5 6 (by decide +kernel) (by decide +kernel)
theorem q5_7 : (Jvm.Cond.fieldLink "TileWardenModel" (190 : Nat) "TileWardenModel" "hits" "I") ∈ lwG := lwG_5 7 (by decide +kernel) (by decide +kernel)
theorem q5_8 : (Jvm.Cond.fieldLink "TileWardenModel" (193 : Nat) "TileWardenModel" "misses" "I") ∈ lwG := lwG_5 8 (by decide +kernel) (by decide +kernel)
theorem q5_9 : (Jvm.Cond.fieldLink "TileWardenModel" (187 : Nat) "TileWardenModel" "foundHint" "I") ∈ lwG := lwG_5 9 (by decide +kernel) (by decide +kernel)
theorem q5_10 : (Jvm.Cond.fieldLink "TileWardenModel" (218 : Nat) "TileWardenModel" "soldHits" "I") ∈ lwG := lwG_5 10 (by decide +kernel) (by decide +kernel)
theorem q5_11 : (Jvm.Cond.fieldLink "TileWardenModel" (221 : Nat) "TileWardenModel" "soldMisses" "I") ∈ lwG := lwG_5 11 (by decide +kernel) (by decide +kernel)
theorem q5_12 : (Jvm.Cond.fieldLink "TileWardenModel" (224 : Nat) "TileWardenModel" "sold" "I") ∈ lwG := lwG_5 12 (by decide +kernel) (by decide +kernel)
theorem q5_13 : (Jvm.Cond.fieldLink "TileWardenModel" (227 : Nat) "TileWardenModel" "soldPrices" "J") ∈ lwG := lwG_5 13 (by decide +kernel) (by decide +kernel)
theorem q5_14 : (Jvm.Cond.fieldLink "TileWardenModel" (243 : Nat) "TileWardenModel" "refunds" "J") ∈ lwG := lwG_5 14 (by decide +kernel) (by decide +kernel)
theorem q5_15 : (Jvm.Cond.laysFinal "TileWardenModel" "TileWardenModel" "money" "[I") ∈ lwG := lwG_5 15 (by decide +kernel) (by decide +kernel)
theorem q5_16 : (Jvm.Cond.soleField "TileWardenModel" "money") ∈ tables_1 := lwT_5 16 (by decide +kernel)
theorem q5_17 : (Jvm.Cond.laysFinal "TileWardenModel" "TileWardenModel" "board" "[J") ∈ lwG := lwG_5 17 (by decide +kernel) (by decide +kernel)
theorem q5_18 : (Jvm.Cond.soleField "TileWardenModel" "board") ∈ tables_1 := lwT_5 18 (by decide +kernel)
theorem q5_19 : (Jvm.Cond.laysFinal "TileWardenModel" "TileWardenModel" "z" "[I") ∈ lwG := lwG_5 19 (by decide +kernel) (by decide +kernel)
theorem q5_20 : (Jvm.Cond.soleField "TileWardenModel" "z") ∈ tables_1 := lwT_5 20 (by decide +kernel)
theorem q5_21 : (Jvm.Cond.laysFinal "TileWardenModel" "TileWardenModel" "owner" "[I") ∈ lwG := lwG_5 21 (by decide +kernel) (by decide +kernel)
theorem q5_22 : (Jvm.Cond.soleField "TileWardenModel" "owner") ∈ tables_1 := lwT_5 22 (by decide +kernel)
theorem q5_23 : (Jvm.Cond.laysFinal "TileWardenModel" "TileWardenModel" "score" "[I") ∈ lwG := lwG_5 23 (by decide +kernel) (by decide +kernel)
theorem q5_24 : (Jvm.Cond.soleField "TileWardenModel" "score") ∈ tables_1 := lwT_5 24 (by decide +kernel)
theorem q5_25 : (Jvm.Cond.laysFinal "TileWardenModel" "TileWardenModel" "pushes" "[I") ∈ lwG := lwG_5 25 (by decide +kernel) (by decide +kernel)
theorem q5_26 : (Jvm.Cond.soleField "TileWardenModel" "pushes") ∈ tables_1 := lwT_5 26 (by decide +kernel)
theorem q5_27 : (Jvm.Cond.laysFinal "TileWardenModel" "TileWardenModel" "row" "[I") ∈ lwG := lwG_5 27 (by decide +kernel) (by decide +kernel)
theorem q5_28 : (Jvm.Cond.soleField "TileWardenModel" "row") ∈ tables_1 := lwT_5 28 (by decide +kernel)
theorem q5_29 : (Jvm.Cond.laysFinal "TileWardenModel" "TileWardenModel" "longest" "[I") ∈ lwG := lwG_5 29 (by decide +kernel) (by decide +kernel)
theorem q5_30 : (Jvm.Cond.soleField "TileWardenModel" "longest") ∈ tables_1 := lwT_5 30 (by decide +kernel)
theorem q5_31 : (Jvm.Cond.laysFinal "TileWardenModel" "TileWardenModel" "paid" "[I") ∈ lwG := lwG_5 31 (by decide +kernel) (by decide +kernel)
theorem q5_32 : (Jvm.Cond.soleField "TileWardenModel" "paid") ∈ tables_1 := lwT_5 32 (by decide +kernel)
theorem q5_33 : (Jvm.Cond.laysFinal "TileWardenModel" "TileWardenModel" "gone" "[Z") ∈ lwG := lwG_5 33 (by decide +kernel) (by decide +kernel)
theorem q5_34 : (Jvm.Cond.soleField "TileWardenModel" "gone") ∈ tables_1 := lwT_5 34 (by decide +kernel)
theorem q5_35 : (Jvm.Cond.laysFinal "TileWardenModel" "TileWardenModel" "traceBoard" "[J") ∈ lwG := lwG_5 35 (by decide +kernel) (by decide +kernel)
theorem q5_36 : (Jvm.Cond.soleField "TileWardenModel" "traceBoard") ∈ tables_1 := lwT_5 36 (by decide +kernel)
theorem q5_37 : (Jvm.Cond.laysFinal "TileWardenModel" "TileWardenModel" "traceZ" "[I") ∈ lwG := lwG_5 37 (by decide +kernel) (by decide +kernel)
theorem q5_38 : (Jvm.Cond.soleField "TileWardenModel" "traceZ") ∈ tables_1 := lwT_5 38 (by decide +kernel)
theorem q5_39 : (Jvm.Cond.laysFinal "TileWardenModel" "TileWardenModel" "tracePlayer" "[I") ∈ lwG := lwG_5 39 (by decide +kernel) (by decide +kernel)
theorem q5_40 : (Jvm.Cond.soleField "TileWardenModel" "tracePlayer") ∈ tables_1 := lwT_5 40 (by decide +kernel)
theorem q5_41 : (Jvm.Cond.laysFinal "TileWardenModel" "TileWardenModel" "tracePush" "[I") ∈ lwG := lwG_5 41 (by decide +kernel) (by decide +kernel)
theorem q5_42 : (Jvm.Cond.soleField "TileWardenModel" "tracePush") ∈ tables_1 := lwT_5 42 (by decide +kernel)
theorem q5_43 : (Jvm.Cond.laysFinal "TileWardenModel" "TileWardenModel" "keptBoard" "[J") ∈ lwG := lwG_5 43 (by decide +kernel) (by decide +kernel)
theorem q5_44 : (Jvm.Cond.soleField "TileWardenModel" "keptBoard") ∈ tables_1 := lwT_5 44 (by decide +kernel)
theorem q5_45 : (Jvm.Cond.laysFinal "TileWardenModel" "TileWardenModel" "keptZ" "[I") ∈ lwG := lwG_5 45 (by decide +kernel) (by decide +kernel)
theorem q5_46 : (Jvm.Cond.soleField "TileWardenModel" "keptZ") ∈ tables_1 := lwT_5 46 (by decide +kernel)
theorem q5_47 : (Jvm.Cond.laysFinal "TileWardenModel" "TileWardenModel" "keptDepth" "[I") ∈ lwG := lwG_5 47 (by decide +kernel) (by decide +kernel)
theorem q5_48 : (Jvm.Cond.soleField "TileWardenModel" "keptDepth") ∈ tables_1 := lwT_5 48 (by decide +kernel)
theorem q5_49 : (Jvm.Cond.laysFinal "TileWardenModel" "TileWardenModel" "keptWorth" "[I") ∈ lwG := lwG_5 49 (by decide +kernel) (by decide +kernel)
theorem q5_50 : (Jvm.Cond.soleField "TileWardenModel" "keptWorth") ∈ tables_1 := lwT_5 50 (by decide +kernel)
theorem q5_51 : (Jvm.Cond.laysFinal "TileWardenModel" "TileWardenModel" "keptHint" "[I") ∈ lwG := lwG_5 51 (by decide +kernel) (by decide +kernel)
theorem q5_52 : (Jvm.Cond.soleField "TileWardenModel" "keptHint") ∈ tables_1 := lwT_5 52 (by decide +kernel)
theorem q5_53 : (Jvm.Cond.laysFinal "TileWardenModel" "TileWardenModel" "keptUsed" "[I") ∈ lwG := lwG_5 53 (by decide +kernel) (by decide +kernel)
theorem q5_54 : (Jvm.Cond.soleField "TileWardenModel" "keptUsed") ∈ tables_1 := lwT_5 54 (by decide +kernel)
theorem q5_55 : (Jvm.Cond.laysFinal "TileWardenModel" "TileWardenModel" "keptPins" "[I") ∈ lwG := lwG_5 55 (by decide +kernel) (by decide +kernel)
theorem q5_56 : (Jvm.Cond.soleField "TileWardenModel" "keptPins") ∈ tables_1 := lwT_5 56 (by decide +kernel)
theorem q5_57 : (Jvm.Cond.laysFinal "TileWardenModel" "TileWardenModel" "pileBoard" "[J") ∈ lwG := lwG_5 57 (by decide +kernel) (by decide +kernel)
theorem q5_58 : (Jvm.Cond.soleField "TileWardenModel" "pileBoard") ∈ tables_1 := lwT_5 58 (by decide +kernel)
theorem q5_59 : (Jvm.Cond.laysFinal "TileWardenModel" "TileWardenModel" "pileZ" "[I") ∈ lwG := lwG_5 59 (by decide +kernel) (by decide +kernel)
theorem q5_60 : (Jvm.Cond.soleField "TileWardenModel" "pileZ") ∈ tables_1 := lwT_5 60 (by decide +kernel)
theorem q5_61 : (Jvm.Cond.laysFinal "TileWardenModel" "TileWardenModel" "pileDepth" "[I") ∈ lwG := lwG_5 61 (by decide +kernel) (by decide +kernel)
theorem q5_62 : (Jvm.Cond.soleField "TileWardenModel" "pileDepth") ∈ tables_1 := lwT_5 62 (by decide +kernel)
theorem q5_63 : (Jvm.Cond.laysFinal "TileWardenModel" "TileWardenModel" "pileNext" "[I") ∈ lwG := lwG_5 63 (by decide +kernel) (by decide +kernel)
theorem q5_64 : (Jvm.Cond.soleField "TileWardenModel" "pileNext") ∈ tables_1 := lwT_5 64 (by decide +kernel)
theorem q5_65 : (Jvm.Cond.laysFinal "TileWardenModel" "TileWardenModel" "pileBest" "[I") ∈ lwG := lwG_5 65 (by decide +kernel) (by decide +kernel)
theorem q5_66 : (Jvm.Cond.soleField "TileWardenModel" "pileBest") ∈ tables_1 := lwT_5 66 (by decide +kernel)
theorem q5_67 : (Jvm.Cond.laysFinal "TileWardenModel" "TileWardenModel" "pileHint" "[I") ∈ lwG := lwG_5 67 (by decide +kernel) (by decide +kernel)
theorem q5_68 : (Jvm.Cond.soleField "TileWardenModel" "pileHint") ∈ tables_1 := lwT_5 68 (by decide +kernel)
theorem q5_69 : (Jvm.Cond.laysFinal "TileWardenModel" "TileWardenModel" "pileGain" "[I") ∈ lwG := lwG_5 69 (by decide +kernel) (by decide +kernel)
theorem q5_70 : (Jvm.Cond.soleField "TileWardenModel" "pileGain") ∈ tables_1 := lwT_5 70 (by decide +kernel)
theorem q5_71 : (Jvm.Cond.lays "TileWardenModel" "TileWardenModel" "thrown" "I") ∈ lwG := lwG_5 71 (by decide +kernel) (by decide +kernel)
theorem q5_72 : (Jvm.Cond.soleField "TileWardenModel" "thrown") ∈ tables_1 := lwT_5 72 (by decide +kernel)
theorem q5_73 : (Jvm.Cond.lays "TileWardenModel" "TileWardenModel" "players" "I") ∈ lwG := lwG_5 73 (by decide +kernel) (by decide +kernel)
theorem q5_74 : (Jvm.Cond.soleField "TileWardenModel" "players") ∈ tables_1 := lwT_5 74 (by decide +kernel)
theorem q5_75 : (Jvm.Cond.lays "TileWardenModel" "TileWardenModel" "games" "I") ∈ lwG := lwG_5 75 (by decide +kernel) (by decide +kernel)
theorem q5_76 : (Jvm.Cond.soleField "TileWardenModel" "games") ∈ tables_1 := lwT_5 76 (by decide +kernel)
theorem q5_77 : (Jvm.Cond.lays "TileWardenModel" "TileWardenModel" "traces" "I") ∈ lwG := lwG_5 77 (by decide +kernel) (by decide +kernel)
theorem q5_78 : (Jvm.Cond.soleField "TileWardenModel" "traces") ∈ tables_1 := lwT_5 78 (by decide +kernel)
theorem q5_79 : (Jvm.Cond.lays "TileWardenModel" "TileWardenModel" "kept" "I") ∈ lwG := lwG_5 79 (by decide +kernel) (by decide +kernel)
theorem q5_80 : (Jvm.Cond.soleField "TileWardenModel" "kept") ∈ tables_1 := lwT_5 80 (by decide +kernel)
theorem q5_81 : (Jvm.Cond.lays "TileWardenModel" "TileWardenModel" "room" "I") ∈ lwG := lwG_5 81 (by decide +kernel) (by decide +kernel)
theorem q5_82 : (Jvm.Cond.soleField "TileWardenModel" "room") ∈ tables_1 := lwT_5 82 (by decide +kernel)
theorem q5_83 : (Jvm.Cond.lays "TileWardenModel" "TileWardenModel" "clock" "I") ∈ lwG := lwG_5 83 (by decide +kernel) (by decide +kernel)
theorem q5_84 : (Jvm.Cond.soleField "TileWardenModel" "clock") ∈ tables_1 := lwT_5 84 (by decide +kernel)
theorem q5_85 : (Jvm.Cond.lays "TileWardenModel" "TileWardenModel" "limit" "I") ∈ lwG := lwG_5 85 (by decide +kernel) (by decide +kernel)
theorem q5_86 : (Jvm.Cond.soleField "TileWardenModel" "limit") ∈ tables_1 := lwT_5 86 (by decide +kernel)
theorem q5_87 : (Jvm.Cond.lays "TileWardenModel" "TileWardenModel" "drawnZ" "I") ∈ lwG := lwG_5 87 (by decide +kernel) (by decide +kernel)
theorem q5_88 : (Jvm.Cond.soleField "TileWardenModel" "drawnZ") ∈ tables_1 := lwT_5 88 (by decide +kernel)
theorem q5_89 : (Jvm.Cond.lays "TileWardenModel" "TileWardenModel" "gained" "I") ∈ lwG := lwG_5 89 (by decide +kernel) (by decide +kernel)
theorem q5_90 : (Jvm.Cond.soleField "TileWardenModel" "gained") ∈ tables_1 := lwT_5 90 (by decide +kernel)
theorem q5_91 : (Jvm.Cond.lays "TileWardenModel" "TileWardenModel" "hits" "I") ∈ lwG := lwG_5 91 (by decide +kernel) (by decide +kernel)
theorem q5_92 : (Jvm.Cond.soleField "TileWardenModel" "hits") ∈ tables_1 := lwT_5 92 (by decide +kernel)
theorem q5_93 : (Jvm.Cond.lays "TileWardenModel" "TileWardenModel" "misses" "I") ∈ lwG := lwG_5 93 (by decide +kernel) (by decide +kernel)
theorem q5_94 : (Jvm.Cond.soleField "TileWardenModel" "misses") ∈ tables_1 := lwT_5 94 (by decide +kernel)
theorem q5_95 : (Jvm.Cond.lays "TileWardenModel" "TileWardenModel" "foundHint" "I") ∈ lwG := lwG_5 95 (by decide +kernel) (by decide +kernel)
theorem q5_96 : (Jvm.Cond.soleField "TileWardenModel" "foundHint") ∈ tables_1 := lwT_5 96 (by decide +kernel)
theorem q5_97 : (Jvm.Cond.lays "TileWardenModel" "TileWardenModel" "soldHits" "I") ∈ lwG := lwG_5 97 (by decide +kernel) (by decide +kernel)
theorem q5_98 : (Jvm.Cond.soleField "TileWardenModel" "soldHits") ∈ tables_1 := lwT_5 98 (by decide +kernel)
theorem q5_99 : (Jvm.Cond.lays "TileWardenModel" "TileWardenModel" "soldMisses" "I") ∈ lwG := lwG_5 99 (by decide +kernel) (by decide +kernel)
theorem q5_100 : (Jvm.Cond.soleField "TileWardenModel" "soldMisses") ∈ tables_1 := lwT_5 100 (by decide +kernel)
theorem q5_101 : (Jvm.Cond.lays "TileWardenModel" "TileWardenModel" "sold" "I") ∈ lwG := lwG_5 101 (by decide +kernel) (by decide +kernel)
theorem q5_102 : (Jvm.Cond.soleField "TileWardenModel" "sold") ∈ tables_1 := lwT_5 102 (by decide +kernel)
theorem q5_103 : (Jvm.Cond.lays "TileWardenModel" "TileWardenModel" "soldPrices" "J") ∈ lwG := lwG_5 103 (by decide +kernel) (by decide +kernel)
theorem q5_104 : (Jvm.Cond.soleField "TileWardenModel" "soldPrices") ∈ tables_1 := lwT_5 104 (by decide +kernel)
theorem q5_105 : (Jvm.Cond.lays "TileWardenModel" "TileWardenModel" "refunds" "J") ∈ lwG := lwG_5 105 (by decide +kernel) (by decide +kernel)
theorem q5_106 : (Jvm.Cond.soleField "TileWardenModel" "refunds") ∈ tables_1 := lwT_5 106 (by decide +kernel)
theorem q5_107 : (Jvm.Cond.superclass "TileWardenModel" "java/lang/Object") ∈ lwG := lwG_5 107 (by decide +kernel) (by decide +kernel)
theorem q5_108 : (Jvm.Cond.arrayClass Jvm.ClassFile.FieldType.int) ∈ lwG := lwG_5 108 (by decide +kernel) (by decide +kernel)
theorem q5_109 : (Jvm.Cond.arrayClass Jvm.ClassFile.FieldType.long) ∈ lwG := lwG_5 109 (by decide +kernel) (by decide +kernel)
theorem q5_110 : (Jvm.Cond.arrayClass Jvm.ClassFile.FieldType.boolean) ∈ lwG := lwG_5 110 (by decide +kernel) (by decide +kernel)
theorem q5_111 : (Jvm.Cond.methodLink "TileWardenLaw" (110 : Nat) ({ cls := "TileWardenModel", name := "thrown", desc := "()I" } : Jvm.MethodName)) ∈ lwG := lwG_5 111 (by decide +kernel) (by decide +kernel)
theorem q5_112 : (Jvm.Cond.instanceMethod ({ cls := "TileWardenModel", name := "thrown", desc := "()I" } : Jvm.MethodName)) ∈ lwG := lwG_5 112 (by decide +kernel) (by decide +kernel)
theorem q5_113 : (Jvm.Cond.selects "TileWardenModel" ({ cls := "TileWardenModel", name := "thrown", desc := "()I" } : Jvm.MethodName) ({ cls := "TileWardenModel", name := "thrown", desc := "()I" } : Jvm.MethodName)) ∈ lwG := lwG_5 113 (by decide +kernel) (by decide +kernel)
theorem q5_114 : (Jvm.Cond.code ({ cls := "TileWardenModel", name := "thrown", desc := "()I" } : Jvm.MethodName) prog_10_method_2_code (1 : Nat) (Option.some Jvm.ClassFile.FieldType.int)) ∈ lwG := lwG_5 114 (by decide +kernel) (by decide +kernel)
theorem q5_115 : (Jvm.Cond.methodLink "TileWardenLaw" (109 : Nat) ({ cls := "TileWardenModel", name := "addPlayer", desc := "(I)I" } : Jvm.MethodName)) ∈ lwG := lwG_5 115 (by decide +kernel) (by decide +kernel)
theorem q5_116 : (Jvm.Cond.instanceMethod ({ cls := "TileWardenModel", name := "addPlayer", desc := "(I)I" } : Jvm.MethodName)) ∈ lwG := lwG_5 116 (by decide +kernel) (by decide +kernel)
theorem q5_117 : (Jvm.Cond.selects "TileWardenModel" ({ cls := "TileWardenModel", name := "addPlayer", desc := "(I)I" } : Jvm.MethodName) ({ cls := "TileWardenModel", name := "addPlayer", desc := "(I)I" } : Jvm.MethodName)) ∈ lwG := lwG_5 117 (by decide +kernel) (by decide +kernel)
theorem q5_118 : (Jvm.Cond.code ({ cls := "TileWardenModel", name := "addPlayer", desc := "(I)I" } : Jvm.MethodName) prog_10_method_13_code (2 : Nat) (Option.some Jvm.ClassFile.FieldType.int)) ∈ lwG := lwG_5 118 (by decide +kernel) (by decide +kernel)
theorem q5_119 : (Jvm.Cond.methodLink "TileWardenModel" (109 : Nat) ({ cls := "TileWardenModel", name := "no", desc := "(ZI)Z" } : Jvm.MethodName)) ∈ lwG := lwG_5 119 (by decide +kernel) (by decide +kernel)
theorem q5_120 : (Jvm.Cond.privateMethod ({ cls := "TileWardenModel", name := "no", desc := "(ZI)Z" } : Jvm.MethodName)) ∈ tables_1 := lwT_5 120 (by decide +kernel)
theorem q5_121 : (Jvm.Cond.instanceMethod ({ cls := "TileWardenModel", name := "no", desc := "(ZI)Z" } : Jvm.MethodName)) ∈ lwG := lwG_5 121 (by decide +kernel) (by decide +kernel)
theorem q5_122 : (Jvm.Cond.code ({ cls := "TileWardenModel", name := "no", desc := "(ZI)Z" } : Jvm.MethodName) prog_10_method_4_code (3 : Nat) (Option.some Jvm.ClassFile.FieldType.boolean)) ∈ lwG := lwG_5 122 (by decide +kernel) (by decide +kernel)
theorem q5_123 : (Jvm.Cond.methodLink "TileWardenLaw" (117 : Nat) ({ cls := "TileWardenModel", name := "open", desc := "(II)I" } : Jvm.MethodName)) ∈ lwG := lwG_5 123 (by decide +kernel) (by decide +kernel)
theorem q5_124 : (Jvm.Cond.instanceMethod ({ cls := "TileWardenModel", name := "open", desc := "(II)I" } : Jvm.MethodName)) ∈ lwG := lwG_5 124 (by decide +kernel) (by decide +kernel)
theorem q5_125 : (Jvm.Cond.selects "TileWardenModel" ({ cls := "TileWardenModel", name := "open", desc := "(II)I" } : Jvm.MethodName) ({ cls := "TileWardenModel", name := "open", desc := "(II)I" } : Jvm.MethodName)) ∈ lwG := lwG_5 125 (by decide +kernel) (by decide +kernel)
theorem q5_126 : (Jvm.Cond.code ({ cls := "TileWardenModel", name := "open", desc := "(II)I" } : Jvm.MethodName) prog_10_method_14_code (5 : Nat) (Option.some Jvm.ClassFile.FieldType.int)) ∈ lwG := lwG_5 126 (by decide +kernel) (by decide +kernel)
theorem q5_127 : (Jvm.Cond.methodLink "TileWardenModel" (151 : Nat) ({ cls := "TileWardenModel", name := "drawn", desc := "(JI)J" } : Jvm.MethodName)) ∈ lwG := lwG_5 127 (by decide +kernel) (by decide +kernel)
theorem q5_128 : (Jvm.Cond.privateMethod ({ cls := "TileWardenModel", name := "drawn", desc := "(JI)J" } : Jvm.MethodName)) ∈ tables_1 := lwT_5 128 (by decide +kernel)
theorem q5_129 : (Jvm.Cond.instanceMethod ({ cls := "TileWardenModel", name := "drawn", desc := "(JI)J" } : Jvm.MethodName)) ∈ lwG := lwG_5 129 (by decide +kernel) (by decide +kernel)
theorem q5_130 : (Jvm.Cond.code ({ cls := "TileWardenModel", name := "drawn", desc := "(JI)J" } : Jvm.MethodName) prog_10_method_10_code (9 : Nat) (Option.some Jvm.ClassFile.FieldType.long)) ∈ lwG := lwG_5 130 (by decide +kernel) (by decide +kernel)
theorem q5_131 : (Jvm.Cond.methodLink "TileWardenModel" (120 : Nat) ({ cls := "TileWardenModel", name := "tile", desc := "(JI)I" } : Jvm.MethodName)) ∈ lwG := lwG_5 131 (by decide +kernel) (by decide +kernel)
theorem q5_132 : (Jvm.Cond.static ({ cls := "TileWardenModel", name := "tile", desc := "(JI)I" } : Jvm.MethodName)) ∈ lwG := lwG_5 132 (by decide +kernel) (by decide +kernel)
theorem q5_133 : (Jvm.Cond.code ({ cls := "TileWardenModel", name := "tile", desc := "(JI)I" } : Jvm.MethodName) prog_10_method_6_code (3 : Nat) (Option.some Jvm.ClassFile.FieldType.int)) ∈ lwG := lwG_5 133 (by decide +kernel) (by decide +kernel)
theorem q5_134 : (Jvm.Cond.methodLink "TileWardenModel" (130 : Nat) ({ cls := "TileWardenModel", name := "next", desc := "(I)I" } : Jvm.MethodName)) ∈ lwG := lwG_5 134 (by decide +kernel) (by decide +kernel)
theorem q5_135 : (Jvm.Cond.static ({ cls := "TileWardenModel", name := "next", desc := "(I)I" } : Jvm.MethodName)) ∈ lwG := lwG_5 135 (by decide +kernel) (by decide +kernel)
theorem q5_136 : (Jvm.Cond.code ({ cls := "TileWardenModel", name := "next", desc := "(I)I" } : Jvm.MethodName) prog_10_method_9_code (1 : Nat) (Option.some Jvm.ClassFile.FieldType.int)) ∈ lwG := lwG_5 136 (by decide +kernel) (by decide +kernel)
theorem q5_137 : (Jvm.Cond.constantLong "TileWardenModel" (124 : Nat) (1103515245 : Int64)) ∈ lwG := lwG_5 137 (by decide +kernel) (by decide +kernel)
theorem q5_138 : (Jvm.Cond.constantLong "TileWardenModel" (126 : Nat) (12345 : Int64)) ∈ lwG := lwG_5 138 (by decide +kernel) (by decide +kernel)
theorem q5_139 : (Jvm.Cond.constantLong "TileWardenModel" (128 : Nat) (2147483647 : Int64)) ∈ lwG := lwG_5 139 (by decide +kernel) (by decide +kernel)
theorem q5_140 : (Jvm.Cond.constant "TileWardenModel" (134 : Nat) (65536 : Int32)) ∈ lwG := lwG_5 140 (by decide +kernel) (by decide +kernel)
theorem q5_141 : (Jvm.Cond.constantLong "TileWardenModel" (138 : Nat) (2 : Int64)) ∈ lwG := lwG_5 141 (by decide +kernel) (by decide +kernel)
theorem q5_142 : (Jvm.Cond.methodLink "TileWardenLaw" (120 : Nat) ({ cls := "TileWardenModel", name := "push", desc := "(II)I" } : Jvm.MethodName)) ∈ lwG := lwG_5 142 (by decide +kernel) (by decide +kernel)
theorem q5_143 : (Jvm.Cond.instanceMethod ({ cls := "TileWardenModel", name := "push", desc := "(II)I" } : Jvm.MethodName)) ∈ lwG := lwG_5 143 (by decide +kernel) (by decide +kernel)
theorem q5_144 : (Jvm.Cond.selects "TileWardenModel" ({ cls := "TileWardenModel", name := "push", desc := "(II)I" } : Jvm.MethodName) ({ cls := "TileWardenModel", name := "push", desc := "(II)I" } : Jvm.MethodName)) ∈ lwG := lwG_5 144 (by decide +kernel) (by decide +kernel)
theorem q5_145 : (Jvm.Cond.code ({ cls := "TileWardenModel", name := "push", desc := "(II)I" } : Jvm.MethodName) prog_10_method_15_code (6 : Nat) (Option.some Jvm.ClassFile.FieldType.int)) ∈ lwG := lwG_5 145 (by decide +kernel) (by decide +kernel)
theorem q5_146 : (Jvm.Cond.methodLink "TileWardenModel" (154 : Nat) ({ cls := "TileWardenModel", name := "noGame", desc := "(I)Z" } : Jvm.MethodName)) ∈ lwG := lwG_5 146 (by decide +kernel) (by decide +kernel)
theorem q5_147 : (Jvm.Cond.privateMethod ({ cls := "TileWardenModel", name := "noGame", desc := "(I)Z" } : Jvm.MethodName)) ∈ tables_1 := lwT_5 147 (by decide +kernel)
theorem q5_148 : (Jvm.Cond.instanceMethod ({ cls := "TileWardenModel", name := "noGame", desc := "(I)Z" } : Jvm.MethodName)) ∈ lwG := lwG_5 148 (by decide +kernel) (by decide +kernel)
theorem q5_149 : (Jvm.Cond.code ({ cls := "TileWardenModel", name := "noGame", desc := "(I)Z" } : Jvm.MethodName) prog_10_method_5_code (2 : Nat) (Option.some Jvm.ClassFile.FieldType.boolean)) ∈ lwG := lwG_5 149 (by decide +kernel) (by decide +kernel)
theorem q5_150 : (Jvm.Cond.methodLink "TileWardenModel" (144 : Nat) ({ cls := "TileWardenModel", name := "can", desc := "(JI)Z" } : Jvm.MethodName)) ∈ lwG := lwG_5 150 (by decide +kernel) (by decide +kernel)
theorem q5_151 : (Jvm.Cond.privateMethod ({ cls := "TileWardenModel", name := "can", desc := "(JI)Z" } : Jvm.MethodName)) ∈ tables_1 := lwT_5 151 (by decide +kernel)
theorem q5_152 : (Jvm.Cond.instanceMethod ({ cls := "TileWardenModel", name := "can", desc := "(JI)Z" } : Jvm.MethodName)) ∈ lwG := lwG_5 152 (by decide +kernel) (by decide +kernel)
theorem q5_153 : (Jvm.Cond.code ({ cls := "TileWardenModel", name := "can", desc := "(JI)Z" } : Jvm.MethodName) prog_10_method_11_code (4 : Nat) (Option.some Jvm.ClassFile.FieldType.boolean)) ∈ lwG := lwG_5 153 (by decide +kernel) (by decide +kernel)
theorem q5_154 : (Jvm.Cond.methodLink "TileWardenModel" (140 : Nat) ({ cls := "TileWardenModel", name := "pushed", desc := "(JI)J" } : Jvm.MethodName)) ∈ lwG := lwG_5 154 (by decide +kernel) (by decide +kernel)
theorem q5_155 : (Jvm.Cond.privateMethod ({ cls := "TileWardenModel", name := "pushed", desc := "(JI)J" } : Jvm.MethodName)) ∈ tables_1 := lwT_5 155 (by decide +kernel)
theorem q5_156 : (Jvm.Cond.instanceMethod ({ cls := "TileWardenModel", name := "pushed", desc := "(JI)J" } : Jvm.MethodName)) ∈ lwG := lwG_5 156 (by decide +kernel) (by decide +kernel)
theorem q5_157 : (Jvm.Cond.code ({ cls := "TileWardenModel", name := "pushed", desc := "(JI)J" } : Jvm.MethodName) prog_10_method_8_code (11 : Nat) (Option.some Jvm.ClassFile.FieldType.long)) ∈ lwG := lwG_5 157 (by decide +kernel) (by decide +kernel)
theorem q5_158 : (Jvm.Cond.methodLink "TileWardenModel" (116 : Nat) ({ cls := "TileWardenModel", name := "cellOf", desc := "(III)I" } : Jvm.MethodName)) ∈ lwG := lwG_5 158 (by decide +kernel) (by decide +kernel)
theorem q5_159 : (Jvm.Cond.static ({ cls := "TileWardenModel", name := "cellOf", desc := "(III)I" } : Jvm.MethodName)) ∈ lwG := lwG_5 159 (by decide +kernel) (by decide +kernel)
theorem q5_160 : (Jvm.Cond.code ({ cls := "TileWardenModel", name := "cellOf", desc := "(III)I" } : Jvm.MethodName) prog_10_method_7_code (3 : Nat) (Option.some Jvm.ClassFile.FieldType.int)) ∈ lwG := lwG_5 160 (by decide +kernel) (by decide +kernel)
theorem q5_161 : (Jvm.Cond.methodLink "TileWardenModel" (158 : Nat) ({ cls := "TileWardenModel", name := "led", desc := "(JIII)Z" } : Jvm.MethodName)) ∈ lwG := lwG_5 161 (by decide +kernel) (by decide +kernel)
theorem q5_162 : (Jvm.Cond.privateMethod ({ cls := "TileWardenModel", name := "led", desc := "(JIII)Z" } : Jvm.MethodName)) ∈ tables_1 := lwT_5 162 (by decide +kernel)
theorem q5_163 : (Jvm.Cond.instanceMethod ({ cls := "TileWardenModel", name := "led", desc := "(JIII)Z" } : Jvm.MethodName)) ∈ lwG := lwG_5 163 (by decide +kernel) (by decide +kernel)
theorem q5_164 : (Jvm.Cond.code ({ cls := "TileWardenModel", name := "led", desc := "(JIII)Z" } : Jvm.MethodName) prog_10_method_16_code (10 : Nat) (Option.some Jvm.ClassFile.FieldType.boolean)) ∈ lwG := lwG_5 164 (by decide +kernel) (by decide +kernel)
theorem q5_165 : (Jvm.Cond.methodLink "TileWardenLaw" (124 : Nat) ({ cls := "TileWardenModel", name := "at", desc := "(III)I" } : Jvm.MethodName)) ∈ lwG := lwG_5 165 (by decide +kernel) (by decide +kernel)
theorem q5_166 : (Jvm.Cond.instanceMethod ({ cls := "TileWardenModel", name := "at", desc := "(III)I" } : Jvm.MethodName)) ∈ lwG := lwG_5 166 (by decide +kernel) (by decide +kernel)
theorem q5_167 : (Jvm.Cond.selects "TileWardenModel" ({ cls := "TileWardenModel", name := "at", desc := "(III)I" } : Jvm.MethodName) ({ cls := "TileWardenModel", name := "at", desc := "(III)I" } : Jvm.MethodName)) ∈ lwG := lwG_5 167 (by decide +kernel) (by decide +kernel)
theorem q5_168 : (Jvm.Cond.code ({ cls := "TileWardenModel", name := "at", desc := "(III)I" } : Jvm.MethodName) prog_10_method_17_code (4 : Nat) (Option.some Jvm.ClassFile.FieldType.int)) ∈ lwG := lwG_5 168 (by decide +kernel) (by decide +kernel)
theorem q5_169 : (Jvm.Cond.methodLink "TileWardenLaw" (127 : Nat) ({ cls := "TileWardenModel", name := "score", desc := "(I)I" } : Jvm.MethodName)) ∈ lwG := lwG_5 169 (by decide +kernel) (by decide +kernel)
theorem q5_170 : (Jvm.Cond.instanceMethod ({ cls := "TileWardenModel", name := "score", desc := "(I)I" } : Jvm.MethodName)) ∈ lwG := lwG_5 170 (by decide +kernel) (by decide +kernel)
theorem q5_171 : (Jvm.Cond.selects "TileWardenModel" ({ cls := "TileWardenModel", name := "score", desc := "(I)I" } : Jvm.MethodName) ({ cls := "TileWardenModel", name := "score", desc := "(I)I" } : Jvm.MethodName)) ∈ lwG := lwG_5 171 (by decide +kernel) (by decide +kernel)
theorem q5_172 : (Jvm.Cond.code ({ cls := "TileWardenModel", name := "score", desc := "(I)I" } : Jvm.MethodName) prog_10_method_18_code (2 : Nat) (Option.some Jvm.ClassFile.FieldType.int)) ∈ lwG := lwG_5 172 (by decide +kernel) (by decide +kernel)
theorem q5_173 : (Jvm.Cond.methodLink "TileWardenLaw" (130 : Nat) ({ cls := "TileWardenModel", name := "pushes", desc := "(I)I" } : Jvm.MethodName)) ∈ lwG := lwG_5 173 (by decide +kernel) (by decide +kernel)
theorem q5_174 : (Jvm.Cond.instanceMethod ({ cls := "TileWardenModel", name := "pushes", desc := "(I)I" } : Jvm.MethodName)) ∈ lwG := lwG_5 174 (by decide +kernel) (by decide +kernel)
theorem q5_175 : (Jvm.Cond.selects "TileWardenModel" ({ cls := "TileWardenModel", name := "pushes", desc := "(I)I" } : Jvm.MethodName) ({ cls := "TileWardenModel", name := "pushes", desc := "(I)I" } : Jvm.MethodName)) ∈ lwG := lwG_5 175 (by decide +kernel) (by decide +kernel)
theorem q5_176 : (Jvm.Cond.code ({ cls := "TileWardenModel", name := "pushes", desc := "(I)I" } : Jvm.MethodName) prog_10_method_19_code (2 : Nat) (Option.some Jvm.ClassFile.FieldType.int)) ∈ lwG := lwG_5 176 (by decide +kernel) (by decide +kernel)
theorem q5_177 : (Jvm.Cond.methodLink "TileWardenLaw" (133 : Nat) ({ cls := "TileWardenModel", name := "canPush", desc := "(II)Z" } : Jvm.MethodName)) ∈ lwG := lwG_5 177 (by decide +kernel) (by decide +kernel)
theorem q5_178 : (Jvm.Cond.instanceMethod ({ cls := "TileWardenModel", name := "canPush", desc := "(II)Z" } : Jvm.MethodName)) ∈ lwG := lwG_5 178 (by decide +kernel) (by decide +kernel)
theorem q5_179 : (Jvm.Cond.selects "TileWardenModel" ({ cls := "TileWardenModel", name := "canPush", desc := "(II)Z" } : Jvm.MethodName) ({ cls := "TileWardenModel", name := "canPush", desc := "(II)Z" } : Jvm.MethodName)) ∈ lwG := lwG_5 179 (by decide +kernel) (by decide +kernel)
theorem q5_180 : (Jvm.Cond.code ({ cls := "TileWardenModel", name := "canPush", desc := "(II)Z" } : Jvm.MethodName) prog_10_method_20_code (3 : Nat) (Option.some Jvm.ClassFile.FieldType.boolean)) ∈ lwG := lwG_5 180 (by decide +kernel) (by decide +kernel)
theorem q5_181 : (Jvm.Cond.methodLink "TileWardenLaw" (136 : Nat) ({ cls := "TileWardenModel", name := "isOver", desc := "(I)Z" } : Jvm.MethodName)) ∈ lwG := lwG_5 181 (by decide +kernel) (by decide +kernel)
theorem q5_182 : (Jvm.Cond.instanceMethod ({ cls := "TileWardenModel", name := "isOver", desc := "(I)Z" } : Jvm.MethodName)) ∈ lwG := lwG_5 182 (by decide +kernel) (by decide +kernel)
theorem q5_183 : (Jvm.Cond.selects "TileWardenModel" ({ cls := "TileWardenModel", name := "isOver", desc := "(I)Z" } : Jvm.MethodName) ({ cls := "TileWardenModel", name := "isOver", desc := "(I)Z" } : Jvm.MethodName)) ∈ lwG := lwG_5 183 (by decide +kernel) (by decide +kernel)
theorem q5_184 : (Jvm.Cond.code ({ cls := "TileWardenModel", name := "isOver", desc := "(I)Z" } : Jvm.MethodName) prog_10_method_21_code (2 : Nat) (Option.some Jvm.ClassFile.FieldType.boolean)) ∈ lwG := lwG_5 184 (by decide +kernel) (by decide +kernel)
theorem q5_185 : (Jvm.Cond.methodLink "TileWardenModel" (165 : Nat) ({ cls := "TileWardenModel", name := "over", desc := "(J)Z" } : Jvm.MethodName)) ∈ lwG := lwG_5 185 (by decide +kernel) (by decide +kernel)
theorem q5_186 : (Jvm.Cond.privateMethod ({ cls := "TileWardenModel", name := "over", desc := "(J)Z" } : Jvm.MethodName)) ∈ tables_1 := lwT_5 186 (by decide +kernel)
theorem q5_187 : (Jvm.Cond.instanceMethod ({ cls := "TileWardenModel", name := "over", desc := "(J)Z" } : Jvm.MethodName)) ∈ lwG := lwG_5 187 (by decide +kernel) (by decide +kernel)
theorem q5_188 : (Jvm.Cond.code ({ cls := "TileWardenModel", name := "over", desc := "(J)Z" } : Jvm.MethodName) prog_10_method_12_code (3 : Nat) (Option.some Jvm.ClassFile.FieldType.boolean)) ∈ lwG := lwG_5 188 (by decide +kernel) (by decide +kernel)
theorem q5_189 : (Jvm.Cond.methodLink "TileWardenLaw" (139 : Nat) ({ cls := "TileWardenModel", name := "price", desc := "(II)I" } : Jvm.MethodName)) ∈ lwG := lwG_5 189 (by decide +kernel) (by decide +kernel)
theorem q5_190 : (Jvm.Cond.instanceMethod ({ cls := "TileWardenModel", name := "price", desc := "(II)I" } : Jvm.MethodName)) ∈ lwG := lwG_5 190 (by decide +kernel) (by decide +kernel)
theorem q5_191 : (Jvm.Cond.selects "TileWardenModel" ({ cls := "TileWardenModel", name := "price", desc := "(II)I" } : Jvm.MethodName) ({ cls := "TileWardenModel", name := "price", desc := "(II)I" } : Jvm.MethodName)) ∈ lwG := lwG_5 191 (by decide +kernel) (by decide +kernel)
theorem q5_192 : (Jvm.Cond.code ({ cls := "TileWardenModel", name := "price", desc := "(II)I" } : Jvm.MethodName) prog_10_method_29_code (3 : Nat) (Option.some Jvm.ClassFile.FieldType.int)) ∈ lwG := lwG_5 192 (by decide +kernel) (by decide +kernel)
theorem q5_193 : (Jvm.Cond.methodLink "TileWardenModel" (210 : Nat) ({ cls := "TileWardenModel", name := "noHint", desc := "(II)Z" } : Jvm.MethodName)) ∈ lwG := lwG_5 193 (by decide +kernel) (by decide +kernel)
theorem q5_194 : (Jvm.Cond.privateMethod ({ cls := "TileWardenModel", name := "noHint", desc := "(II)Z" } : Jvm.MethodName)) ∈ tables_1 := lwT_5 194 (by decide +kernel)
theorem q5_195 : (Jvm.Cond.instanceMethod ({ cls := "TileWardenModel", name := "noHint", desc := "(II)Z" } : Jvm.MethodName)) ∈ lwG := lwG_5 195 (by decide +kernel) (by decide +kernel)
theorem q5_196 : (Jvm.Cond.code ({ cls := "TileWardenModel", name := "noHint", desc := "(II)Z" } : Jvm.MethodName) prog_10_method_27_code (3 : Nat) (Option.some Jvm.ClassFile.FieldType.boolean)) ∈ lwG := lwG_5 196 (by decide +kernel) (by decide +kernel)
theorem q5_197 : (Jvm.Cond.methodLink "TileWardenModel" (214 : Nat) ({ cls := "TileWardenModel", name := "priceOf", desc := "(II)I" } : Jvm.MethodName)) ∈ lwG := lwG_5 197 (by decide +kernel) (by decide +kernel)
theorem q5_198 : (Jvm.Cond.privateMethod ({ cls := "TileWardenModel", name := "priceOf", desc := "(II)I" } : Jvm.MethodName)) ∈ tables_1 := lwT_5 198 (by decide +kernel)
theorem q5_199 : (Jvm.Cond.instanceMethod ({ cls := "TileWardenModel", name := "priceOf", desc := "(II)I" } : Jvm.MethodName)) ∈ lwG := lwG_5 199 (by decide +kernel) (by decide +kernel)
theorem q5_200 : (Jvm.Cond.code ({ cls := "TileWardenModel", name := "priceOf", desc := "(II)I" } : Jvm.MethodName) prog_10_method_28_code (14 : Nat) (Option.some Jvm.ClassFile.FieldType.int)) ∈ lwG := lwG_5 200 (by decide +kernel) (by decide +kernel)
theorem q5_201 : (Jvm.Cond.methodLink "TileWardenModel" (199 : Nat) ({ cls := "[J", name := "clone", desc := "()Ljava/lang/Object;" } : Jvm.MethodName)) ∈ lwG := lwG_5 201 (by decide +kernel) (by decide +kernel)
theorem q5_202 : (Jvm.Cond.sameMethod "[J" "java/lang/Object" "clone" "()Ljava/lang/Object;") ∈ lwG := lwG_5 202 (by decide +kernel) (by decide +kernel)
theorem q5_203 : (Jvm.Cond.native ({ cls := "java/lang/Object", name := "clone", desc := "()Ljava/lang/Object;" } : Jvm.MethodName)) ∈ lwG := lwG_5 203 (by decide +kernel) (by decide +kernel)
theorem q5_204 : (Jvm.Cond.instanceMethod ({ cls := "java/lang/Object", name := "clone", desc := "()Ljava/lang/Object;" } : Jvm.MethodName)) ∈ lwG := lwG_5 204 (by decide +kernel) (by decide +kernel)
theorem q5_205 : (Jvm.Cond.selects "[J" ({ cls := "[J", name := "clone", desc := "()Ljava/lang/Object;" } : Jvm.MethodName) ({ cls := "java/lang/Object", name := "clone", desc := "()Ljava/lang/Object;" } : Jvm.MethodName)) ∈ lwG := lwG_5 205 (by decide +kernel) (by decide +kernel)
theorem q5_206 : (Jvm.Cond.castable "[J" "java/lang/Cloneable") ∈ tables_1 := lwT_5 206 (by decide +kernel)
theorem q5_207 : (Jvm.Cond.classLink "TileWardenModel" (200 : Nat) "[J") ∈ lwG := lwG_5 207 (by decide +kernel) (by decide +kernel)
theorem q5_208 : (Jvm.Cond.methodLink "TileWardenModel" (204 : Nat) ({ cls := "[I", name := "clone", desc := "()Ljava/lang/Object;" } : Jvm.MethodName)) ∈ lwG := lwG_5 208 (by decide +kernel) (by decide +kernel)
theorem q5_209 : (Jvm.Cond.sameMethod "[I" "java/lang/Object" "clone" "()Ljava/lang/Object;") ∈ lwG := lwG_5 209 (by decide +kernel) (by decide +kernel)
theorem q5_210 : (Jvm.Cond.selects "[I" ({ cls := "[I", name := "clone", desc := "()Ljava/lang/Object;" } : Jvm.MethodName) ({ cls := "java/lang/Object", name := "clone", desc := "()Ljava/lang/Object;" } : Jvm.MethodName)) ∈ lwG := lwG_5 210 (by decide +kernel) (by decide +kernel)
theorem q5_211 : (Jvm.Cond.castable "[I" "java/lang/Cloneable") ∈ tables_1 := lwT_5 211 (by decide +kernel)
theorem q5_212 : (Jvm.Cond.classLink "TileWardenModel" (205 : Nat) "[I") ∈ lwG := lwG_5 212 (by decide +kernel) (by decide +kernel)
theorem q5_213 : (Jvm.Cond.methodLink "TileWardenModel" (206 : Nat) ({ cls := "TileWardenModel", name := "worthOf", desc := "(JIIZ)I" } : Jvm.MethodName)) ∈ lwG := lwG_5 213 (by decide +kernel) (by decide +kernel)
theorem q5_214 : (Jvm.Cond.privateMethod ({ cls := "TileWardenModel", name := "worthOf", desc := "(JIIZ)I" } : Jvm.MethodName)) ∈ tables_1 := lwT_5 214 (by decide +kernel)
theorem q5_215 : (Jvm.Cond.instanceMethod ({ cls := "TileWardenModel", name := "worthOf", desc := "(JIIZ)I" } : Jvm.MethodName)) ∈ lwG := lwG_5 215 (by decide +kernel) (by decide +kernel)
theorem q5_216 : (Jvm.Cond.code ({ cls := "TileWardenModel", name := "worthOf", desc := "(JIIZ)I" } : Jvm.MethodName) prog_10_method_26_code (11 : Nat) (Option.some Jvm.ClassFile.FieldType.int)) ∈ lwG := lwG_5 216 (by decide +kernel) (by decide +kernel)
theorem q5_217 : (Jvm.Cond.methodLink "TileWardenModel" (183 : Nat) ({ cls := "TileWardenModel", name := "find", desc := "(JII)I" } : Jvm.MethodName)) ∈ lwG := lwG_5 217 (by decide +kernel) (by decide +kernel)
theorem q5_218 : (Jvm.Cond.privateMethod ({ cls := "TileWardenModel", name := "find", desc := "(JII)I" } : Jvm.MethodName)) ∈ tables_1 := lwT_5 218 (by decide +kernel)
theorem q5_219 : (Jvm.Cond.instanceMethod ({ cls := "TileWardenModel", name := "find", desc := "(JII)I" } : Jvm.MethodName)) ∈ lwG := lwG_5 219 (by decide +kernel) (by decide +kernel)
theorem q5_220 : (Jvm.Cond.code ({ cls := "TileWardenModel", name := "find", desc := "(JII)I" } : Jvm.MethodName) prog_10_method_22_code (6 : Nat) (Option.some Jvm.ClassFile.FieldType.int)) ∈ lwG := lwG_5 220 (by decide +kernel) (by decide +kernel)
theorem q5_221 : (Jvm.Cond.methodLink "TileWardenModel" (196 : Nat) ({ cls := "TileWardenModel", name := "keep", desc := "(I)V" } : Jvm.MethodName)) ∈ lwG := lwG_5 221 (by decide +kernel) (by decide +kernel)
theorem q5_222 : (Jvm.Cond.privateMethod ({ cls := "TileWardenModel", name := "keep", desc := "(I)V" } : Jvm.MethodName)) ∈ tables_1 := lwT_5 222 (by decide +kernel)
theorem q5_223 : (Jvm.Cond.instanceMethod ({ cls := "TileWardenModel", name := "keep", desc := "(I)V" } : Jvm.MethodName)) ∈ lwG := lwG_5 223 (by decide +kernel) (by decide +kernel)
theorem q5_224 : (Jvm.Cond.code ({ cls := "TileWardenModel", name := "keep", desc := "(I)V" } : Jvm.MethodName) prog_10_method_25_code (3 : Nat) (Option.none : Option Jvm.ClassFile.FieldType)) ∈ lwG := lwG_5 224 (by decide +kernel) (by decide +kernel)
theorem q5_225 : (Jvm.Cond.methodLink "TileWardenModel" (172 : Nat) ({ cls := "TileWardenModel", name := "oldest", desc := "()I" } : Jvm.MethodName)) ∈ lwG := lwG_5 225 (by decide +kernel) (by decide +kernel)
theorem q5_226 : (Jvm.Cond.privateMethod ({ cls := "TileWardenModel", name := "oldest", desc := "()I" } : Jvm.MethodName)) ∈ tables_1 := lwT_5 226 (by decide +kernel)
theorem q5_227 : (Jvm.Cond.instanceMethod ({ cls := "TileWardenModel", name := "oldest", desc := "()I" } : Jvm.MethodName)) ∈ lwG := lwG_5 227 (by decide +kernel) (by decide +kernel)
theorem q5_228 : (Jvm.Cond.code ({ cls := "TileWardenModel", name := "oldest", desc := "()I" } : Jvm.MethodName) prog_10_method_23_code (3 : Nat) (Option.some Jvm.ClassFile.FieldType.int)) ∈ lwG := lwG_5 228 (by decide +kernel) (by decide +kernel)
theorem q5_229 : (Jvm.Cond.methodLink "TileWardenModel" (176 : Nat) ({ cls := "TileWardenModel", name := "drop", desc := "(I)V" } : Jvm.MethodName)) ∈ lwG := lwG_5 229 (by decide +kernel) (by decide +kernel)
theorem q5_230 : (Jvm.Cond.privateMethod ({ cls := "TileWardenModel", name := "drop", desc := "(I)V" } : Jvm.MethodName)) ∈ tables_1 := lwT_5 230 (by decide +kernel)
theorem q5_231 : (Jvm.Cond.instanceMethod ({ cls := "TileWardenModel", name := "drop", desc := "(I)V" } : Jvm.MethodName)) ∈ lwG := lwG_5 231 (by decide +kernel) (by decide +kernel)
theorem q5_232 : (Jvm.Cond.code ({ cls := "TileWardenModel", name := "drop", desc := "(I)V" } : Jvm.MethodName) prog_10_method_24_code (2 : Nat) (Option.none : Option Jvm.ClassFile.FieldType)) ∈ lwG := lwG_5 232 (by decide +kernel) (by decide +kernel)
theorem q5_233 : (Jvm.Cond.methodLink "TileWardenLaw" (142 : Nat) ({ cls := "TileWardenModel", name := "hint", desc := "(II)I" } : Jvm.MethodName)) ∈ lwG := lwG_5 233 (by decide +kernel) (by decide +kernel)
theorem q5_234 : (Jvm.Cond.instanceMethod ({ cls := "TileWardenModel", name := "hint", desc := "(II)I" } : Jvm.MethodName)) ∈ lwG := lwG_5 234 (by decide +kernel) (by decide +kernel)
theorem q5_235 : (Jvm.Cond.selects "TileWardenModel" ({ cls := "TileWardenModel", name := "hint", desc := "(II)I" } : Jvm.MethodName) ({ cls := "TileWardenModel", name := "hint", desc := "(II)I" } : Jvm.MethodName)) ∈ lwG := lwG_5 235 (by decide +kernel) (by decide +kernel)
theorem q5_236 : (Jvm.Cond.code ({ cls := "TileWardenModel", name := "hint", desc := "(II)I" } : Jvm.MethodName) prog_10_method_30_code (5 : Nat) (Option.some Jvm.ClassFile.FieldType.int)) ∈ lwG := lwG_5 236 (by decide +kernel) (by decide +kernel)
theorem q5_237 : (Jvm.Cond.methodLink "TileWardenLaw" (145 : Nat) ({ cls := "TileWardenModel", name := "worth", desc := "(II)I" } : Jvm.MethodName)) ∈ lwG := lwG_5 237 (by decide +kernel) (by decide +kernel)
theorem q5_238 : (Jvm.Cond.instanceMethod ({ cls := "TileWardenModel", name := "worth", desc := "(II)I" } : Jvm.MethodName)) ∈ lwG := lwG_5 238 (by decide +kernel) (by decide +kernel)
theorem q5_239 : (Jvm.Cond.selects "TileWardenModel" ({ cls := "TileWardenModel", name := "worth", desc := "(II)I" } : Jvm.MethodName) ({ cls := "TileWardenModel", name := "worth", desc := "(II)I" } : Jvm.MethodName)) ∈ lwG := lwG_5 239 (by decide +kernel) (by decide +kernel)
theorem q6_0 : (Jvm.Cond.code ({ cls := "TileWardenModel", name := "worth", desc := "(II)I" } : Jvm.MethodName) prog_10_method_31_code (3 : Nat) (Option.some Jvm.ClassFile.FieldType.int)) ∈ lwG := lwG_6 0 (by decide +kernel) (by decide +kernel)
theorem q6_1 : (Jvm.Cond.methodLink "TileWardenLaw" (148 : Nat) ({ cls := "TileWardenModel", name := "money", desc := "(I)I" } : Jvm.MethodName)) ∈ lwG := lwG_6 1 (by decide +kernel) (by decide +kernel)
theorem q6_2 : (Jvm.Cond.instanceMethod ({ cls := "TileWardenModel", name := "money", desc := "(I)I" } : Jvm.MethodName)) ∈ lwG := lwG_6 2 (by decide +kernel) (by decide +kernel)
theorem q6_3 : (Jvm.Cond.selects "TileWardenModel" ({ cls := "TileWardenModel", name := "money", desc := "(I)I" } : Jvm.MethodName) ({ cls := "TileWardenModel", name := "money", desc := "(I)I" } : Jvm.MethodName)) ∈ lwG := lwG_6 3 (by decide +kernel) (by decide +kernel)
theorem q6_4 : (Jvm.Cond.code ({ cls := "TileWardenModel", name := "money", desc := "(I)I" } : Jvm.MethodName) prog_10_method_32_code (2 : Nat) (Option.some Jvm.ClassFile.FieldType.int)) ∈ lwG := lwG_6 4 (by decide +kernel) (by decide +kernel)
theorem q6_5 : (Jvm.Cond.methodLink "TileWardenLaw" (151 : Nat) ({ cls := "TileWardenModel", name := "setRoom", desc := "(I)I" } : Jvm.MethodName)) ∈ lwG := lwG_6 5 (by decide +kernel) (by decide +kernel)
theorem q6_6 : (Jvm.Cond.instanceMethod ({ cls := "TileWardenModel", name := "setRoom", desc := "(I)I" } : Jvm.MethodName)) ∈ lwG := lwG_6 6 (by decide +kernel) (by decide +kernel)
theorem q6_7 : (Jvm.Cond.selects "TileWardenModel" ({ cls := "TileWardenModel", name := "setRoom", desc := "(I)I" } : Jvm.MethodName) ({ cls := "TileWardenModel", name := "setRoom", desc := "(I)I" } : Jvm.MethodName)) ∈ lwG := lwG_6 7 (by decide +kernel) (by decide +kernel)
theorem q6_8 : (Jvm.Cond.code ({ cls := "TileWardenModel", name := "setRoom", desc := "(I)I" } : Jvm.MethodName) prog_10_method_34_code (2 : Nat) (Option.some Jvm.ClassFile.FieldType.int)) ∈ lwG := lwG_6 8 (by decide +kernel) (by decide +kernel)
theorem q6_9 : (Jvm.Cond.methodLink "TileWardenModel" (231 : Nat) ({ cls := "TileWardenModel", name := "pins", desc := "()I" } : Jvm.MethodName)) ∈ lwG := lwG_6 9 (by decide +kernel) (by decide +kernel)
theorem q6_10 : (Jvm.Cond.privateMethod ({ cls := "TileWardenModel", name := "pins", desc := "()I" } : Jvm.MethodName)) ∈ tables_1 := lwT_6 10 (by decide +kernel)
theorem q6_11 : (Jvm.Cond.instanceMethod ({ cls := "TileWardenModel", name := "pins", desc := "()I" } : Jvm.MethodName)) ∈ lwG := lwG_6 11 (by decide +kernel) (by decide +kernel)
theorem q6_12 : (Jvm.Cond.code ({ cls := "TileWardenModel", name := "pins", desc := "()I" } : Jvm.MethodName) prog_10_method_33_code (3 : Nat) (Option.some Jvm.ClassFile.FieldType.int)) ∈ lwG := lwG_6 12 (by decide +kernel) (by decide +kernel)
theorem q6_13 : (Jvm.Cond.methodLink "TileWardenLaw" (155 : Nat) ({ cls := "TileWardenModel", name := "entries", desc := "()I" } : Jvm.MethodName)) ∈ lwG := lwG_6 13 (by decide +kernel) (by decide +kernel)
theorem q6_14 : (Jvm.Cond.instanceMethod ({ cls := "TileWardenModel", name := "entries", desc := "()I" } : Jvm.MethodName)) ∈ lwG := lwG_6 14 (by decide +kernel) (by decide +kernel)
theorem q6_15 : (Jvm.Cond.selects "TileWardenModel" ({ cls := "TileWardenModel", name := "entries", desc := "()I" } : Jvm.MethodName) ({ cls := "TileWardenModel", name := "entries", desc := "()I" } : Jvm.MethodName)) ∈ lwG := lwG_6 15 (by decide +kernel) (by decide +kernel)
theorem q6_16 : (Jvm.Cond.code ({ cls := "TileWardenModel", name := "entries", desc := "()I" } : Jvm.MethodName) prog_10_method_35_code (1 : Nat) (Option.some Jvm.ClassFile.FieldType.int)) ∈ lwG := lwG_6 16 (by decide +kernel) (by decide +kernel)
theorem q6_17 : (Jvm.Cond.methodLink "TileWardenLaw" (158 : Nat) ({ cls := "TileWardenModel", name := "isCached", desc := "(II)Z" } : Jvm.MethodName)) ∈ lwG := lwG_6 17 (by decide +kernel) (by decide +kernel)
theorem q6_18 : (Jvm.Cond.instanceMethod ({ cls := "TileWardenModel", name := "isCached", desc := "(II)Z" } : Jvm.MethodName)) ∈ lwG := lwG_6 18 (by decide +kernel) (by decide +kernel)
theorem q6_19 : (Jvm.Cond.selects "TileWardenModel" ({ cls := "TileWardenModel", name := "isCached", desc := "(II)Z" } : Jvm.MethodName) ({ cls := "TileWardenModel", name := "isCached", desc := "(II)Z" } : Jvm.MethodName)) ∈ lwG := lwG_6 19 (by decide +kernel) (by decide +kernel)
theorem q6_20 : (Jvm.Cond.code ({ cls := "TileWardenModel", name := "isCached", desc := "(II)Z" } : Jvm.MethodName) prog_10_method_37_code (3 : Nat) (Option.some Jvm.ClassFile.FieldType.boolean)) ∈ lwG := lwG_6 20 (by decide +kernel) (by decide +kernel)
theorem q6_21 : (Jvm.Cond.methodLink "TileWardenModel" (234 : Nat) ({ cls := "TileWardenModel", name := "noDepth", desc := "(II)Z" } : Jvm.MethodName)) ∈ lwG := lwG_6 21 (by decide +kernel) (by decide +kernel)
theorem q6_22 : (Jvm.Cond.privateMethod ({ cls := "TileWardenModel", name := "noDepth", desc := "(II)Z" } : Jvm.MethodName)) ∈ tables_1 := lwT_6 22 (by decide +kernel)
theorem q6_23 : (Jvm.Cond.instanceMethod ({ cls := "TileWardenModel", name := "noDepth", desc := "(II)Z" } : Jvm.MethodName)) ∈ lwG := lwG_6 23 (by decide +kernel) (by decide +kernel)
theorem q6_24 : (Jvm.Cond.code ({ cls := "TileWardenModel", name := "noDepth", desc := "(II)Z" } : Jvm.MethodName) prog_10_method_36_code (3 : Nat) (Option.some Jvm.ClassFile.FieldType.boolean)) ∈ lwG := lwG_6 24 (by decide +kernel) (by decide +kernel)
theorem q6_25 : (Jvm.Cond.methodLink "TileWardenLaw" (161 : Nat) ({ cls := "TileWardenModel", name := "pin", desc := "(II)I" } : Jvm.MethodName)) ∈ lwG := lwG_6 25 (by decide +kernel) (by decide +kernel)
theorem q6_26 : (Jvm.Cond.instanceMethod ({ cls := "TileWardenModel", name := "pin", desc := "(II)I" } : Jvm.MethodName)) ∈ lwG := lwG_6 26 (by decide +kernel) (by decide +kernel)
theorem q6_27 : (Jvm.Cond.selects "TileWardenModel" ({ cls := "TileWardenModel", name := "pin", desc := "(II)I" } : Jvm.MethodName) ({ cls := "TileWardenModel", name := "pin", desc := "(II)I" } : Jvm.MethodName)) ∈ lwG := lwG_6 27 (by decide +kernel) (by decide +kernel)
theorem q6_28 : (Jvm.Cond.code ({ cls := "TileWardenModel", name := "pin", desc := "(II)I" } : Jvm.MethodName) prog_10_method_39_code (4 : Nat) (Option.some Jvm.ClassFile.FieldType.int)) ∈ lwG := lwG_6 28 (by decide +kernel) (by decide +kernel)
theorem q6_29 : (Jvm.Cond.methodLink "TileWardenModel" (237 : Nat) ({ cls := "TileWardenModel", name := "pinsOf", desc := "(I)I" } : Jvm.MethodName)) ∈ lwG := lwG_6 29 (by decide +kernel) (by decide +kernel)
theorem q6_30 : (Jvm.Cond.privateMethod ({ cls := "TileWardenModel", name := "pinsOf", desc := "(I)I" } : Jvm.MethodName)) ∈ tables_1 := lwT_6 30 (by decide +kernel)
theorem q6_31 : (Jvm.Cond.instanceMethod ({ cls := "TileWardenModel", name := "pinsOf", desc := "(I)I" } : Jvm.MethodName)) ∈ lwG := lwG_6 31 (by decide +kernel) (by decide +kernel)
theorem q6_32 : (Jvm.Cond.code ({ cls := "TileWardenModel", name := "pinsOf", desc := "(I)I" } : Jvm.MethodName) prog_10_method_38_code (4 : Nat) (Option.some Jvm.ClassFile.FieldType.int)) ∈ lwG := lwG_6 32 (by decide +kernel) (by decide +kernel)
theorem q6_33 : (Jvm.Cond.methodLink "TileWardenLaw" (164 : Nat) ({ cls := "TileWardenModel", name := "unpin", desc := "(I)I" } : Jvm.MethodName)) ∈ lwG := lwG_6 33 (by decide +kernel) (by decide +kernel)
theorem q6_34 : (Jvm.Cond.instanceMethod ({ cls := "TileWardenModel", name := "unpin", desc := "(I)I" } : Jvm.MethodName)) ∈ lwG := lwG_6 34 (by decide +kernel) (by decide +kernel)
theorem q6_35 : (Jvm.Cond.selects "TileWardenModel" ({ cls := "TileWardenModel", name := "unpin", desc := "(I)I" } : Jvm.MethodName) ({ cls := "TileWardenModel", name := "unpin", desc := "(I)I" } : Jvm.MethodName)) ∈ lwG := lwG_6 35 (by decide +kernel) (by decide +kernel)
theorem q6_36 : (Jvm.Cond.code ({ cls := "TileWardenModel", name := "unpin", desc := "(I)I" } : Jvm.MethodName) prog_10_method_41_code (2 : Nat) (Option.some Jvm.ClassFile.FieldType.int)) ∈ lwG := lwG_6 36 (by decide +kernel) (by decide +kernel)
theorem q6_37 : (Jvm.Cond.methodLink "TileWardenModel" (240 : Nat) ({ cls := "TileWardenModel", name := "unpins", desc := "(I)I" } : Jvm.MethodName)) ∈ lwG := lwG_6 37 (by decide +kernel) (by decide +kernel)
theorem q6_38 : (Jvm.Cond.privateMethod ({ cls := "TileWardenModel", name := "unpins", desc := "(I)I" } : Jvm.MethodName)) ∈ tables_1 := lwT_6 38 (by decide +kernel)
theorem q6_39 : (Jvm.Cond.instanceMethod ({ cls := "TileWardenModel", name := "unpins", desc := "(I)I" } : Jvm.MethodName)) ∈ lwG := lwG_6 39 (by decide +kernel) (by decide +kernel)
theorem q6_40 : (Jvm.Cond.code ({ cls := "TileWardenModel", name := "unpins", desc := "(I)I" } : Jvm.MethodName) prog_10_method_40_code (4 : Nat) (Option.some Jvm.ClassFile.FieldType.int)) ∈ lwG := lwG_6 40 (by decide +kernel) (by decide +kernel)
theorem q6_41 : (Jvm.Cond.methodLink "TileWardenLaw" (168 : Nat) ({ cls := "TileWardenModel", name := "pinned", desc := "()I" } : Jvm.MethodName)) ∈ lwG := lwG_6 41 (by decide +kernel) (by decide +kernel)
theorem q6_42 : (Jvm.Cond.instanceMethod ({ cls := "TileWardenModel", name := "pinned", desc := "()I" } : Jvm.MethodName)) ∈ lwG := lwG_6 42 (by decide +kernel) (by decide +kernel)
theorem q6_43 : (Jvm.Cond.selects "TileWardenModel" ({ cls := "TileWardenModel", name := "pinned", desc := "()I" } : Jvm.MethodName) ({ cls := "TileWardenModel", name := "pinned", desc := "()I" } : Jvm.MethodName)) ∈ lwG := lwG_6 43 (by decide +kernel) (by decide +kernel)
theorem q6_44 : (Jvm.Cond.code ({ cls := "TileWardenModel", name := "pinned", desc := "()I" } : Jvm.MethodName) prog_10_method_42_code (1 : Nat) (Option.some Jvm.ClassFile.FieldType.int)) ∈ lwG := lwG_6 44 (by decide +kernel) (by decide +kernel)
theorem q6_45 : (Jvm.Cond.methodLink "TileWardenLaw" (171 : Nat) ({ cls := "TileWardenModel", name := "follows", desc := "(I)I" } : Jvm.MethodName)) ∈ lwG := lwG_6 45 (by decide +kernel) (by decide +kernel)
theorem q6_46 : (Jvm.Cond.instanceMethod ({ cls := "TileWardenModel", name := "follows", desc := "(I)I" } : Jvm.MethodName)) ∈ lwG := lwG_6 46 (by decide +kernel) (by decide +kernel)
theorem q6_47 : (Jvm.Cond.selects "TileWardenModel" ({ cls := "TileWardenModel", name := "follows", desc := "(I)I" } : Jvm.MethodName) ({ cls := "TileWardenModel", name := "follows", desc := "(I)I" } : Jvm.MethodName)) ∈ lwG := lwG_6 47 (by decide +kernel) (by decide +kernel)
theorem q6_48 : (Jvm.Cond.code ({ cls := "TileWardenModel", name := "follows", desc := "(I)I" } : Jvm.MethodName) prog_10_method_43_code (2 : Nat) (Option.some Jvm.ClassFile.FieldType.int)) ∈ lwG := lwG_6 48 (by decide +kernel) (by decide +kernel)
theorem q6_49 : (Jvm.Cond.methodLink "TileWardenLaw" (174 : Nat) ({ cls := "TileWardenModel", name := "setLimit", desc := "(I)I" } : Jvm.MethodName)) ∈ lwG := lwG_6 49 (by decide +kernel) (by decide +kernel)
theorem q6_50 : (Jvm.Cond.instanceMethod ({ cls := "TileWardenModel", name := "setLimit", desc := "(I)I" } : Jvm.MethodName)) ∈ lwG := lwG_6 50 (by decide +kernel) (by decide +kernel)
theorem q6_51 : (Jvm.Cond.selects "TileWardenModel" ({ cls := "TileWardenModel", name := "setLimit", desc := "(I)I" } : Jvm.MethodName) ({ cls := "TileWardenModel", name := "setLimit", desc := "(I)I" } : Jvm.MethodName)) ∈ lwG := lwG_6 51 (by decide +kernel) (by decide +kernel)
theorem q6_52 : (Jvm.Cond.code ({ cls := "TileWardenModel", name := "setLimit", desc := "(I)I" } : Jvm.MethodName) prog_10_method_44_code (3 : Nat) (Option.some Jvm.ClassFile.FieldType.int)) ∈ lwG := lwG_6 52 (by decide +kernel) (by decide +kernel)
theorem q6_53 : (Jvm.Cond.methodLink "TileWardenLaw" (177 : Nat) ({ cls := "TileWardenModel", name := "judge", desc := "(I)I" } : Jvm.MethodName)) ∈ lwG := lwG_6 53 (by decide +kernel) (by decide +kernel)
theorem q6_54 : (Jvm.Cond.instanceMethod ({ cls := "TileWardenModel", name := "judge", desc := "(I)I" } : Jvm.MethodName)) ∈ lwG := lwG_6 54 (by decide +kernel) (by decide +kernel)
theorem q6_55 : (Jvm.Cond.selects "TileWardenModel" ({ cls := "TileWardenModel", name := "judge", desc := "(I)I" } : Jvm.MethodName) ({ cls := "TileWardenModel", name := "judge", desc := "(I)I" } : Jvm.MethodName)) ∈ lwG := lwG_6 55 (by decide +kernel) (by decide +kernel)
theorem q6_56 : (Jvm.Cond.code ({ cls := "TileWardenModel", name := "judge", desc := "(I)I" } : Jvm.MethodName) prog_10_method_45_code (3 : Nat) (Option.some Jvm.ClassFile.FieldType.int)) ∈ lwG := lwG_6 56 (by decide +kernel) (by decide +kernel)
theorem q6_57 : (Jvm.Cond.methodLink "TileWardenLaw" (180 : Nat) ({ cls := "TileWardenModel", name := "isVoid", desc := "(I)Z" } : Jvm.MethodName)) ∈ lwG := lwG_6 57 (by decide +kernel) (by decide +kernel)
theorem q6_58 : (Jvm.Cond.instanceMethod ({ cls := "TileWardenModel", name := "isVoid", desc := "(I)Z" } : Jvm.MethodName)) ∈ lwG := lwG_6 58 (by decide +kernel) (by decide +kernel)
theorem q6_59 : (Jvm.Cond.selects "TileWardenModel" ({ cls := "TileWardenModel", name := "isVoid", desc := "(I)Z" } : Jvm.MethodName) ({ cls := "TileWardenModel", name := "isVoid", desc := "(I)Z" } : Jvm.MethodName)) ∈ lwG := lwG_6 59 (by decide +kernel) (by decide +kernel)
theorem q6_60 : (Jvm.Cond.code ({ cls := "TileWardenModel", name := "isVoid", desc := "(I)Z" } : Jvm.MethodName) prog_10_method_46_code (2 : Nat) (Option.some Jvm.ClassFile.FieldType.boolean)) ∈ lwG := lwG_6 60 (by decide +kernel) (by decide +kernel)
theorem q6_61 : (Jvm.Cond.methodLink "TileWardenLaw" (184 : Nat) ({ cls := "TileWardenModel", name := "traces", desc := "()I" } : Jvm.MethodName)) ∈ lwG := lwG_6 61 (by decide +kernel) (by decide +kernel)
theorem q6_62 : (Jvm.Cond.instanceMethod ({ cls := "TileWardenModel", name := "traces", desc := "()I" } : Jvm.MethodName)) ∈ lwG := lwG_6 62 (by decide +kernel) (by decide +kernel)
theorem q6_63 : (Jvm.Cond.selects "TileWardenModel" ({ cls := "TileWardenModel", name := "traces", desc := "()I" } : Jvm.MethodName) ({ cls := "TileWardenModel", name := "traces", desc := "()I" } : Jvm.MethodName)) ∈ lwG := lwG_6 63 (by decide +kernel) (by decide +kernel)
theorem q6_64 : (Jvm.Cond.code ({ cls := "TileWardenModel", name := "traces", desc := "()I" } : Jvm.MethodName) prog_10_method_47_code (1 : Nat) (Option.some Jvm.ClassFile.FieldType.int)) ∈ lwG := lwG_6 64 (by decide +kernel) (by decide +kernel)
theorem q6_65 : (Jvm.Cond.methodLink "TileWardenLaw" (187 : Nat) ({ cls := "TileWardenModel", name := "playerOf", desc := "(I)I" } : Jvm.MethodName)) ∈ lwG := lwG_6 65 (by decide +kernel) (by decide +kernel)
theorem q6_66 : (Jvm.Cond.instanceMethod ({ cls := "TileWardenModel", name := "playerOf", desc := "(I)I" } : Jvm.MethodName)) ∈ lwG := lwG_6 66 (by decide +kernel) (by decide +kernel)
theorem q6_67 : (Jvm.Cond.selects "TileWardenModel" ({ cls := "TileWardenModel", name := "playerOf", desc := "(I)I" } : Jvm.MethodName) ({ cls := "TileWardenModel", name := "playerOf", desc := "(I)I" } : Jvm.MethodName)) ∈ lwG := lwG_6 67 (by decide +kernel) (by decide +kernel)
theorem q6_68 : (Jvm.Cond.code ({ cls := "TileWardenModel", name := "playerOf", desc := "(I)I" } : Jvm.MethodName) prog_10_method_49_code (2 : Nat) (Option.some Jvm.ClassFile.FieldType.int)) ∈ lwG := lwG_6 68 (by decide +kernel) (by decide +kernel)
theorem q6_69 : (Jvm.Cond.methodLink "TileWardenModel" (246 : Nat) ({ cls := "TileWardenModel", name := "noTrace", desc := "(I)Z" } : Jvm.MethodName)) ∈ lwG := lwG_6 69 (by decide +kernel) (by decide +kernel)
theorem q6_70 : (Jvm.Cond.privateMethod ({ cls := "TileWardenModel", name := "noTrace", desc := "(I)Z" } : Jvm.MethodName)) ∈ tables_1 := lwT_6 70 (by decide +kernel)
theorem q6_71 : (Jvm.Cond.instanceMethod ({ cls := "TileWardenModel", name := "noTrace", desc := "(I)Z" } : Jvm.MethodName)) ∈ lwG := lwG_6 71 (by decide +kernel) (by decide +kernel)
theorem q6_72 : (Jvm.Cond.code ({ cls := "TileWardenModel", name := "noTrace", desc := "(I)Z" } : Jvm.MethodName) prog_10_method_48_code (2 : Nat) (Option.some Jvm.ClassFile.FieldType.boolean)) ∈ lwG := lwG_6 72 (by decide +kernel) (by decide +kernel)
theorem q6_73 : (Jvm.Cond.methodLink "TileWardenLaw" (190 : Nat) ({ cls := "TileWardenModel", name := "pushOf", desc := "(I)I" } : Jvm.MethodName)) ∈ lwG := lwG_6 73 (by decide +kernel) (by decide +kernel)
theorem q6_74 : (Jvm.Cond.instanceMethod ({ cls := "TileWardenModel", name := "pushOf", desc := "(I)I" } : Jvm.MethodName)) ∈ lwG := lwG_6 74 (by decide +kernel) (by decide +kernel)
theorem q6_75 : (Jvm.Cond.selects "TileWardenModel" ({ cls := "TileWardenModel", name := "pushOf", desc := "(I)I" } : Jvm.MethodName) ({ cls := "TileWardenModel", name := "pushOf", desc := "(I)I" } : Jvm.MethodName)) ∈ lwG := lwG_6 75 (by decide +kernel) (by decide +kernel)
theorem q6_76 : (Jvm.Cond.code ({ cls := "TileWardenModel", name := "pushOf", desc := "(I)I" } : Jvm.MethodName) prog_10_method_50_code (2 : Nat) (Option.some Jvm.ClassFile.FieldType.int)) ∈ lwG := lwG_6 76 (by decide +kernel) (by decide +kernel)
theorem q6_77 : (Jvm.Cond.methodLink "TileWardenLaw" (195 : Nat) ({ cls := "TileWardenModel", name := "refunds", desc := "()J" } : Jvm.MethodName)) ∈ lwG := lwG_6 77 (by decide +kernel) (by decide +kernel)
theorem q6_78 : (Jvm.Cond.instanceMethod ({ cls := "TileWardenModel", name := "refunds", desc := "()J" } : Jvm.MethodName)) ∈ lwG := lwG_6 78 (by decide +kernel) (by decide +kernel)
theorem q6_79 : (Jvm.Cond.selects "TileWardenModel" ({ cls := "TileWardenModel", name := "refunds", desc := "()J" } : Jvm.MethodName) ({ cls := "TileWardenModel", name := "refunds", desc := "()J" } : Jvm.MethodName)) ∈ lwG := lwG_6 79 (by decide +kernel) (by decide +kernel)
theorem q6_80 : (Jvm.Cond.code ({ cls := "TileWardenModel", name := "refunds", desc := "()J" } : Jvm.MethodName) prog_10_method_51_code (1 : Nat) (Option.some Jvm.ClassFile.FieldType.long)) ∈ lwG := lwG_6 80 (by decide +kernel) (by decide +kernel)
theorem q6_81 : (Jvm.Cond.methodLink "TileWardenLaw" (199 : Nat) ({ cls := "TileWardenModel", name := "hitShare", desc := "()F" } : Jvm.MethodName)) ∈ lwG := lwG_6 81 (by decide +kernel) (by decide +kernel)
theorem q6_82 : (Jvm.Cond.instanceMethod ({ cls := "TileWardenModel", name := "hitShare", desc := "()F" } : Jvm.MethodName)) ∈ lwG := lwG_6 82 (by decide +kernel) (by decide +kernel)
theorem q6_83 : (Jvm.Cond.selects "TileWardenModel" ({ cls := "TileWardenModel", name := "hitShare", desc := "()F" } : Jvm.MethodName) ({ cls := "TileWardenModel", name := "hitShare", desc := "()F" } : Jvm.MethodName)) ∈ lwG := lwG_6 83 (by decide +kernel) (by decide +kernel)
theorem q6_84 : (Jvm.Cond.code ({ cls := "TileWardenModel", name := "hitShare", desc := "()F" } : Jvm.MethodName) prog_10_method_52_code (2 : Nat) (Option.some Jvm.ClassFile.FieldType.float)) ∈ lwG := lwG_6 84 (by decide +kernel) (by decide +kernel)
theorem q6_85 : (Jvm.Cond.methodLink "TileWardenModel" (249 : Nat) ({ cls := "TileWardenModel", name := "refuse", desc := "(I)I" } : Jvm.MethodName)) ∈ lwG := lwG_6 85 (by decide +kernel) (by decide +kernel)
theorem q6_86 : (Jvm.Cond.privateMethod ({ cls := "TileWardenModel", name := "refuse", desc := "(I)I" } : Jvm.MethodName)) ∈ tables_1 := lwT_6 86 (by decide +kernel)
theorem q6_87 : (Jvm.Cond.instanceMethod ({ cls := "TileWardenModel", name := "refuse", desc := "(I)I" } : Jvm.MethodName)) ∈ lwG := lwG_6 87 (by decide +kernel) (by decide +kernel)
theorem q6_88 : (Jvm.Cond.code ({ cls := "TileWardenModel", name := "refuse", desc := "(I)I" } : Jvm.MethodName) prog_10_method_3_code (2 : Nat) (Option.some Jvm.ClassFile.FieldType.int)) ∈ lwG := lwG_6 88 (by decide +kernel) (by decide +kernel)
theorem q6_89 : (Jvm.Cond.methodLink "TileWardenLaw" (202 : Nat) ({ cls := "TileWardenModel", name := "meanPrice", desc := "()D" } : Jvm.MethodName)) ∈ lwG := lwG_6 89 (by decide +kernel) (by decide +kernel)
theorem q6_90 : (Jvm.Cond.instanceMethod ({ cls := "TileWardenModel", name := "meanPrice", desc := "()D" } : Jvm.MethodName)) ∈ lwG := lwG_6 90 (by decide +kernel) (by decide +kernel)
theorem q6_91 : (Jvm.Cond.selects "TileWardenModel" ({ cls := "TileWardenModel", name := "meanPrice", desc := "()D" } : Jvm.MethodName) ({ cls := "TileWardenModel", name := "meanPrice", desc := "()D" } : Jvm.MethodName)) ∈ lwG := lwG_6 91 (by decide +kernel) (by decide +kernel)
theorem q6_92 : (Jvm.Cond.code ({ cls := "TileWardenModel", name := "meanPrice", desc := "()D" } : Jvm.MethodName) prog_10_method_53_code (1 : Nat) (Option.some Jvm.ClassFile.FieldType.double)) ∈ lwG := lwG_6 92 (by decide +kernel) (by decide +kernel)
theorem q6_93 : (Jvm.Cond.methodLink "TileWardenLaw" (207 : Nat) ({ cls := "TileWardenModel", name := "isSound", desc := "()Z" } : Jvm.MethodName)) ∈ lwG := lwG_6 93 (by decide +kernel) (by decide +kernel)
theorem q6_94 : (Jvm.Cond.instanceMethod ({ cls := "TileWardenModel", name := "isSound", desc := "()Z" } : Jvm.MethodName)) ∈ lwG := lwG_6 94 (by decide +kernel) (by decide +kernel)
theorem q6_95 : (Jvm.Cond.selects "TileWardenModel" ({ cls := "TileWardenModel", name := "isSound", desc := "()Z" } : Jvm.MethodName) ({ cls := "TileWardenModel", name := "isSound", desc := "()Z" } : Jvm.MethodName)) ∈ lwG := lwG_6 95 (by decide +kernel) (by decide +kernel)
theorem q6_96 : (Jvm.Cond.code ({ cls := "TileWardenModel", name := "isSound", desc := "()Z" } : Jvm.MethodName) prog_10_method_54_code (1 : Nat) (Option.some Jvm.ClassFile.FieldType.boolean)) ∈ lwG := lwG_6 96 (by decide +kernel) (by decide +kernel)
theorem q6_97 : (Jvm.Cond.arrayClass Jvm.ClassFile.FieldType.double) ∈ lwG := lwG_6 97 (by decide +kernel) (by decide +kernel)
theorem q6_98 : (Jvm.Cond.sameMethod "java/lang/Throwable" "java/lang/Throwable" "fillInStackTrace" "(I)Ljava/lang/Throwable;") ∈ lwG := lwG_6 98 (by decide +kernel) (by decide +kernel)
theorem q6_99 : (Jvm.Cond.castable "java/lang/ArrayIndexOutOfBoundsException" "java/lang/IndexOutOfBoundsException") ∈ tables_1 := lwT_6 99 (by decide +kernel)
theorem q6_100 : (Jvm.Cond.castable "TileWarden$Entry" "java/lang/Object") ∈ tables_1 := lwT_6 100 (by decide +kernel)
theorem q6_101 : (Jvm.Cond.castable "TileWarden" "java/lang/Object") ∈ tables_1 := lwT_6 101 (by decide +kernel)
theorem q6_102 : (Jvm.Cond.castable "java/util/ArrayList" "java/lang/Object") ∈ tables_1 := lwT_6 102 (by decide +kernel)
theorem q6_103 : (Jvm.Cond.castable "TileWarden$Cache" "java/lang/Object") ∈ tables_1 := lwT_6 103 (by decide +kernel)
theorem q6_104 : (Jvm.Cond.castable "TileWarden$Search" "java/lang/Object") ∈ tables_1 := lwT_6 104 (by decide +kernel)
theorem q6_105 : (Jvm.Cond.castable "TileWardenModel" "java/lang/Object") ∈ tables_1 := lwT_6 105 (by decide +kernel)
theorem q6_106 : (Jvm.Cond.castable "java/lang/IllegalArgumentException" "java/lang/Object") ∈ tables_1 := lwT_6 106 (by decide +kernel)
theorem q6_107 : (Jvm.Cond.castable "java/lang/IllegalStateException" "java/lang/Object") ∈ tables_1 := lwT_6 107 (by decide +kernel)
theorem q6_108 : (Jvm.Cond.castable "TileWarden$Player" "java/lang/Object") ∈ tables_1 := lwT_6 108 (by decide +kernel)
theorem q6_109 : (Jvm.Cond.castable "java/lang/ArrayIndexOutOfBoundsException" "java/lang/Object") ∈ tables_1 := lwT_6 109 (by decide +kernel)
theorem q6_110 : (Jvm.Cond.castable "java/lang/IndexOutOfBoundsException" "java/lang/Object") ∈ tables_1 := lwT_6 110 (by decide +kernel)
theorem q6_111 : (Jvm.Cond.castable "TileWarden$Game" "java/lang/Object") ∈ tables_1 := lwT_6 111 (by decide +kernel)
theorem q6_112 : (Jvm.Cond.castable "java/lang/UnsupportedOperationException" "java/lang/Object") ∈ tables_1 := lwT_6 112 (by decide +kernel)
theorem q6_113 : (Jvm.Cond.castable "java/util/NoSuchElementException" "java/lang/Object") ∈ tables_1 := lwT_6 113 (by decide +kernel)
theorem q6_114 : (Jvm.Cond.castable "TileWarden$Trace" "java/lang/Object") ∈ tables_1 := lwT_6 114 (by decide +kernel)
theorem q6_115 : (Jvm.Cond.castable "java/lang/ArithmeticException" "java/lang/Object") ∈ tables_1 := lwT_6 115 (by decide +kernel)
theorem q6_116 : (Jvm.Cond.castable "java/lang/Throwable" "java/lang/Object") ∈ tables_1 := lwT_6 116 (by decide +kernel)
theorem q6_117 : (Jvm.Cond.castable "java/lang/String" "java/lang/Object") ∈ tables_1 := lwT_6 117 (by decide +kernel)
theorem q6_118 : (Jvm.Cond.sameMethod "[Ljava/lang/Object;" "java/lang/Object" "getClass" "()Ljava/lang/Class;") ∈ lwG := lwG_6 118 (by decide +kernel) (by decide +kernel)
theorem q6_119 : (Jvm.Cond.selects "[Ljava/lang/Object;" ({ cls := "java/lang/Object", name := "getClass", desc := "()Ljava/lang/Class;" } : Jvm.MethodName) ({ cls := "java/lang/Object", name := "getClass", desc := "()Ljava/lang/Class;" } : Jvm.MethodName)) ∈ lwG := lwG_6 119 (by decide +kernel) (by decide +kernel)
theorem q6_120 : (Jvm.Cond.declares ({ cls := "java/lang/Object", name := "getClass", desc := "()Ljava/lang/Class;" } : Jvm.MethodName)) ∈ tables_1 := lwT_6 120 (by decide +kernel)
theorem q6_121 : (Jvm.Cond.castable "[LTileWarden$Entry;" "java/lang/Object") ∈ tables_1 := lwT_6 121 (by decide +kernel)
theorem q6_122 : (Jvm.Cond.castable "[B" "java/lang/Object") ∈ tables_1 := lwT_6 122 (by decide +kernel)
theorem q6_123 : (Jvm.Cond.castable "[Ljava/lang/Object;" "java/lang/Object") ∈ tables_1 := lwT_6 123 (by decide +kernel)
theorem q6_124 : (Jvm.Cond.castable "[I" "java/lang/Object") ∈ tables_1 := lwT_6 124 (by decide +kernel)
theorem q6_125 : (Jvm.Cond.castable "[J" "java/lang/Object") ∈ tables_1 := lwT_6 125 (by decide +kernel)
theorem q6_126 : (Jvm.Cond.castable "[Z" "java/lang/Object") ∈ tables_1 := lwT_6 126 (by decide +kernel)
theorem q6_127 : (Jvm.Cond.castable "[D" "java/lang/Object") ∈ tables_1 := lwT_6 127 (by decide +kernel)
