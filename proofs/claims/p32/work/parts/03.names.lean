/-! names: classes, field tables, methods (of NAMES.whole), the good words of the tables by their places -/
abbrev RX0 : String := "TileWarden$Boards"
def TX0 : u_T := fun k => match k with
  | _ => ("", "", "", false)
def tyX0 : Nat → FieldType := fun k => match k with
  | _ => .int
theorem nmX0 : ∀ a, a < 0 → ∀ b, b < 0 → a ≠ b → (TX0 a).2.1 ≠ (TX0 b).2.1 := by decide +kernel
theorem tyX0_ok : ∀ k, k < 0 → parseFieldDescriptor (TX0 k).2.2.1 = some (tyX0 k) := by decide +kernel
abbrev cX0_tileAt : ByteArray := prog_2_method_2_code
abbrev yX0_tileAt : MethodName := ⟨RX0, "tileAt", "(JI)I"⟩
abbrev cX0_canGo : ByteArray := prog_2_method_3_code
abbrev yX0_canGo : MethodName := ⟨RX0, "canGo", "(JI)Z"⟩
abbrev cX0_isStuck : ByteArray := prog_2_method_4_code
abbrev yX0_isStuck : MethodName := ⟨RX0, "isStuck", "(J)Z"⟩
abbrev cX0_pushed : ByteArray := prog_2_method_5_code
abbrev yX0_pushed : MethodName := ⟨RX0, "pushed", "(JI)J"⟩
abbrev cX0_gainOf : ByteArray := prog_2_method_6_code
abbrev yX0_gainOf : MethodName := ⟨RX0, "gainOf", "(JI)I"⟩
abbrev cX0_drawn : ByteArray := prog_2_method_7_code
abbrev yX0_drawn : MethodName := ⟨RX0, "drawn", "(JI)J"⟩
abbrev cX0_drawnZ : ByteArray := prog_2_method_8_code
abbrev yX0_drawnZ : MethodName := ⟨RX0, "drawnZ", "(I)I"⟩
abbrev cX0_nextZ : ByteArray := prog_2_method_9_code
abbrev yX0_nextZ : MethodName := ⟨RX0, "nextZ", "(I)I"⟩
abbrev cX0_countEmpty : ByteArray := prog_2_method_10_code
abbrev yX0_countEmpty : MethodName := ⟨RX0, "countEmpty", "(J)I"⟩
abbrev cX0_cellOf : ByteArray := prog_2_method_11_code
abbrev yX0_cellOf : MethodName := ⟨RX0, "cellOf", "(III)I"⟩
abbrev cX0_tileIn : ByteArray := prog_2_method_12_code
abbrev yX0_tileIn : MethodName := ⟨RX0, "tileIn", "(II)I"⟩
abbrev cX0_gathered : ByteArray := prog_2_method_13_code
abbrev yX0_gathered : MethodName := ⟨RX0, "gathered", "(JII)I"⟩
abbrev cX0_mergingPlace : ByteArray := prog_2_method_14_code
abbrev yX0_mergingPlace : MethodName := ⟨RX0, "mergingPlace", "(I)I"⟩
abbrev cX0_merged : ByteArray := prog_2_method_15_code
abbrev yX0_merged : MethodName := ⟨RX0, "merged", "(I)I"⟩
abbrev RX1 : String := "TileWarden$Cache"
def TX1 : u_T := fun k => match k with
  | 0 => ("TileWarden$Cache", "slots", "[LTileWarden$Entry;", true)
  | 1 => ("TileWarden$Cache", "count", "I", false)
  | 2 => ("TileWarden$Cache", "room", "I", false)
  | _ => ("TileWarden$Cache", "uses", "I", false)
def tyX1 : Nat → FieldType := fun k => match k with
  | 0 => .array (.object "TileWarden$Entry")
  | 1 => .int
  | 2 => .int
  | _ => .int
theorem nmX1 : ∀ a, a < 4 → ∀ b, b < 4 → a ≠ b → (TX1 a).2.1 ≠ (TX1 b).2.1 := by decide +kernel
theorem tyX1_ok : ∀ k, k < 4 → parseFieldDescriptor (TX1 k).2.2.1 = some (tyX1 k) := by decide +kernel
abbrev cX1_init : ByteArray := prog_3_method_1_code
abbrev yX1_init : MethodName := ⟨RX1, "<init>", "(I)V"⟩
abbrev cX1_become : ByteArray := prog_3_method_2_code
abbrev yX1_become : MethodName := ⟨RX1, "become", "(LTileWarden$Cache;)V"⟩
abbrev cX1_find : ByteArray := prog_3_method_3_code
abbrev yX1_find : MethodName := ⟨RX1, "find", "(JII)LTileWarden$Entry;"⟩
abbrev cX1_use : ByteArray := prog_3_method_4_code
abbrev yX1_use : MethodName := ⟨RX1, "use", "(LTileWarden$Entry;)V"⟩
abbrev cX1_put : ByteArray := prog_3_method_5_code
abbrev yX1_put : MethodName := ⟨RX1, "put", "(JIIII)V"⟩
abbrev cX1_fitInto : ByteArray := prog_3_method_6_code
abbrev yX1_fitInto : MethodName := ⟨RX1, "fitInto", "(I)V"⟩
abbrev cX1_countPinned : ByteArray := prog_3_method_7_code
abbrev yX1_countPinned : MethodName := ⟨RX1, "countPinned", "()I"⟩
abbrev cX1_countPins : ByteArray := prog_3_method_8_code
abbrev yX1_countPins : MethodName := ⟨RX1, "countPins", "(I)I"⟩
abbrev cX1_takePins : ByteArray := prog_3_method_9_code
abbrev yX1_takePins : MethodName := ⟨RX1, "takePins", "(I)V"⟩
abbrev cX1_findFree : ByteArray := prog_3_method_10_code
abbrev yX1_findFree : MethodName := ⟨RX1, "findFree", "()LTileWarden$Entry;"⟩
abbrev cX1_dropOldest : ByteArray := prog_3_method_11_code
abbrev yX1_dropOldest : MethodName := ⟨RX1, "dropOldest", "()V"⟩
abbrev RX2 : String := "TileWarden$Entry"
def TX2 : u_T := fun k => match k with
  | 0 => ("TileWarden$Entry", "board", "J", false)
  | 1 => ("TileWarden$Entry", "z", "I", false)
  | 2 => ("TileWarden$Entry", "depth", "I", false)
  | 3 => ("TileWarden$Entry", "worth", "I", false)
  | 4 => ("TileWarden$Entry", "push", "I", false)
  | 5 => ("TileWarden$Entry", "lastUse", "I", false)
  | _ => ("TileWarden$Entry", "pins", "I", false)
def tyX2 : Nat → FieldType := fun k => match k with
  | 0 => .long
  | 1 => .int
  | 2 => .int
  | 3 => .int
  | 4 => .int
  | 5 => .int
  | _ => .int
theorem nmX2 : ∀ a, a < 7 → ∀ b, b < 7 → a ≠ b → (TX2 a).2.1 ≠ (TX2 b).2.1 := by decide +kernel
theorem tyX2_ok : ∀ k, k < 7 → parseFieldDescriptor (TX2 k).2.2.1 = some (tyX2 k) := by decide +kernel
abbrev cX2_init : ByteArray := prog_4_method_1_code
abbrev yX2_init : MethodName := ⟨RX2, "<init>", "()V"⟩
abbrev cX2_isFree : ByteArray := prog_4_method_2_code
abbrev yX2_isFree : MethodName := ⟨RX2, "isFree", "()Z"⟩
abbrev cX2_isFor : ByteArray := prog_4_method_3_code
abbrev yX2_isFor : MethodName := ⟨RX2, "isFor", "(JII)Z"⟩
abbrev cX2_become : ByteArray := prog_4_method_4_code
abbrev yX2_become : MethodName := ⟨RX2, "become", "(LTileWarden$Entry;)V"⟩
abbrev RX3 : String := "TileWarden$Game"
def TX3 : u_T := fun k => match k with
  | 0 => ("TileWarden$Game", "owner", "LTileWarden$Player;", true)
  | 1 => ("TileWarden$Game", "pinBit", "I", true)
  | 2 => ("TileWarden$Game", "board", "J", false)
  | 3 => ("TileWarden$Game", "z", "I", false)
  | 4 => ("TileWarden$Game", "score", "I", false)
  | 5 => ("TileWarden$Game", "pushCount", "I", false)
  | 6 => ("TileWarden$Game", "row", "I", false)
  | 7 => ("TileWarden$Game", "longestRow", "I", false)
  | 8 => ("TileWarden$Game", "paid", "I", false)
  | _ => ("TileWarden$Game", "voided", "Z", false)
def tyX3 : Nat → FieldType := fun k => match k with
  | 0 => .object "TileWarden$Player"
  | 1 => .int
  | 2 => .long
  | 3 => .int
  | 4 => .int
  | 5 => .int
  | 6 => .int
  | 7 => .int
  | 8 => .int
  | _ => .boolean
theorem nmX3 : ∀ a, a < 10 → ∀ b, b < 10 → a ≠ b → (TX3 a).2.1 ≠ (TX3 b).2.1 := by decide +kernel
theorem tyX3_ok : ∀ k, k < 10 → parseFieldDescriptor (TX3 k).2.2.1 = some (tyX3 k) := by decide +kernel
abbrev cX3_init : ByteArray := prog_5_method_1_code
abbrev yX3_init : MethodName := ⟨RX3, "<init>", "(LTileWarden$Player;II)V"⟩
abbrev cX3_go : ByteArray := prog_5_method_2_code
abbrev yX3_go : MethodName := ⟨RX3, "go", "(I)I"⟩
abbrev cX3_noteFollowing : ByteArray := prog_5_method_3_code
abbrev yX3_noteFollowing : MethodName := ⟨RX3, "noteFollowing", "(Z)V"⟩
abbrev RX4 : String := "TileWarden$Player"
def TX4 : u_T := fun k => match k with
  | 0 => ("TileWarden$Player", "number", "I", true)
  | 1 => ("TileWarden$Player", "moneyAtFirst", "I", true)
  | _ => ("TileWarden$Player", "money", "I", false)
def tyX4 : Nat → FieldType := fun k => match k with
  | 0 => .int
  | 1 => .int
  | _ => .int
theorem nmX4 : ∀ a, a < 3 → ∀ b, b < 3 → a ≠ b → (TX4 a).2.1 ≠ (TX4 b).2.1 := by decide +kernel
theorem tyX4_ok : ∀ k, k < 3 → parseFieldDescriptor (TX4 k).2.2.1 = some (tyX4 k) := by decide +kernel
abbrev cX4_init : ByteArray := prog_6_method_1_code
abbrev yX4_init : MethodName := ⟨RX4, "<init>", "(II)V"⟩
abbrev RX5 : String := "TileWarden$Search"
def TX5 : u_T := fun k => match k with
  | 0 => ("TileWarden$Search", "cache", "LTileWarden$Cache;", true)
  | 1 => ("TileWarden$Search", "hits", "I", false)
  | 2 => ("TileWarden$Search", "misses", "I", false)
  | _ => ("TileWarden$Search", "push", "I", false)
def tyX5 : Nat → FieldType := fun k => match k with
  | 0 => .object "TileWarden$Cache"
  | 1 => .int
  | 2 => .int
  | _ => .int
theorem nmX5 : ∀ a, a < 4 → ∀ b, b < 4 → a ≠ b → (TX5 a).2.1 ≠ (TX5 b).2.1 := by decide +kernel
theorem tyX5_ok : ∀ k, k < 4 → parseFieldDescriptor (TX5 k).2.2.1 = some (tyX5 k) := by decide +kernel
abbrev cX5_init : ByteArray := prog_7_method_1_code
abbrev yX5_init : MethodName := ⟨RX5, "<init>", "(LTileWarden$Cache;)V"⟩
abbrev cX5_start : ByteArray := prog_7_method_2_code
abbrev yX5_start : MethodName := ⟨RX5, "start", "()V"⟩
abbrev cX5_cost : ByteArray := prog_7_method_3_code
abbrev yX5_cost : MethodName := ⟨RX5, "cost", "()I"⟩
abbrev RX6 : String := "TileWarden$Trace"
def TX6 : u_T := fun k => match k with
  | 0 => ("TileWarden$Trace", "player", "I", true)
  | 1 => ("TileWarden$Trace", "board", "J", true)
  | 2 => ("TileWarden$Trace", "z", "I", true)
  | _ => ("TileWarden$Trace", "push", "I", true)
def tyX6 : Nat → FieldType := fun k => match k with
  | 0 => .int
  | 1 => .long
  | 2 => .int
  | _ => .int
theorem nmX6 : ∀ a, a < 4 → ∀ b, b < 4 → a ≠ b → (TX6 a).2.1 ≠ (TX6 b).2.1 := by decide +kernel
theorem tyX6_ok : ∀ k, k < 4 → parseFieldDescriptor (TX6 k).2.2.1 = some (tyX6 k) := by decide +kernel
abbrev cX6_init : ByteArray := prog_8_method_1_code
abbrev yX6_init : MethodName := ⟨RX6, "<init>", "(LTileWarden$Game;I)V"⟩
abbrev RX7 : String := "TileWarden"
def TX7 : u_T := fun k => match k with
  | 0 => ("TileWarden", "players", "Ljava/util/ArrayList;", true)
  | 1 => ("TileWarden", "games", "Ljava/util/ArrayList;", true)
  | 2 => ("TileWarden", "traces", "Ljava/util/ArrayList;", true)
  | 3 => ("TileWarden", "cache", "LTileWarden$Cache;", true)
  | 4 => ("TileWarden", "trial", "LTileWarden$Search;", true)
  | 5 => ("TileWarden", "plain", "LTileWarden$Search;", true)
  | 6 => ("TileWarden", "limit", "I", false)
  | 7 => ("TileWarden", "refunds", "J", false)
  | 8 => ("TileWarden", "soldHints", "J", false)
  | 9 => ("TileWarden", "soldPrices", "J", false)
  | 10 => ("TileWarden", "soldHits", "J", false)
  | _ => ("TileWarden", "soldMisses", "J", false)
def tyX7 : Nat → FieldType := fun k => match k with
  | 0 => .object "java/util/ArrayList"
  | 1 => .object "java/util/ArrayList"
  | 2 => .object "java/util/ArrayList"
  | 3 => .object "TileWarden$Cache"
  | 4 => .object "TileWarden$Search"
  | 5 => .object "TileWarden$Search"
  | 6 => .int
  | 7 => .long
  | 8 => .long
  | 9 => .long
  | 10 => .long
  | _ => .long
theorem nmX7 : ∀ a, a < 12 → ∀ b, b < 12 → a ≠ b → (TX7 a).2.1 ≠ (TX7 b).2.1 := by decide +kernel
theorem tyX7_ok : ∀ k, k < 12 → parseFieldDescriptor (TX7 k).2.2.1 = some (tyX7 k) := by decide +kernel
abbrev cX7_init : ByteArray := prog_1_method_1_code
abbrev yX7_init : MethodName := ⟨RX7, "<init>", "()V"⟩
abbrev cX7_addPlayer : ByteArray := prog_1_method_2_code
abbrev yX7_addPlayer : MethodName := ⟨RX7, "addPlayer", "(I)I"⟩
abbrev cX7_open : ByteArray := prog_1_method_3_code
abbrev yX7_open : MethodName := ⟨RX7, "open", "(II)I"⟩
abbrev cX7_push : ByteArray := prog_1_method_4_code
abbrev yX7_push : MethodName := ⟨RX7, "push", "(II)I"⟩
abbrev cX7_at : ByteArray := prog_1_method_5_code
abbrev yX7_at : MethodName := ⟨RX7, "at", "(III)I"⟩
abbrev cX7_score : ByteArray := prog_1_method_6_code
abbrev yX7_score : MethodName := ⟨RX7, "score", "(I)I"⟩
abbrev cX7_pushes : ByteArray := prog_1_method_7_code
abbrev yX7_pushes : MethodName := ⟨RX7, "pushes", "(I)I"⟩
abbrev cX7_canPush : ByteArray := prog_1_method_8_code
abbrev yX7_canPush : MethodName := ⟨RX7, "canPush", "(II)Z"⟩
abbrev cX7_isOver : ByteArray := prog_1_method_9_code
abbrev yX7_isOver : MethodName := ⟨RX7, "isOver", "(I)Z"⟩
abbrev cX7_price : ByteArray := prog_1_method_10_code
abbrev yX7_price : MethodName := ⟨RX7, "price", "(II)I"⟩
abbrev cX7_hint : ByteArray := prog_1_method_11_code
abbrev yX7_hint : MethodName := ⟨RX7, "hint", "(II)I"⟩
abbrev cX7_worth : ByteArray := prog_1_method_12_code
abbrev yX7_worth : MethodName := ⟨RX7, "worth", "(II)I"⟩
abbrev cX7_money : ByteArray := prog_1_method_13_code
abbrev yX7_money : MethodName := ⟨RX7, "money", "(I)I"⟩
abbrev cX7_setRoom : ByteArray := prog_1_method_14_code
abbrev yX7_setRoom : MethodName := ⟨RX7, "setRoom", "(I)I"⟩
abbrev cX7_entries : ByteArray := prog_1_method_15_code
abbrev yX7_entries : MethodName := ⟨RX7, "entries", "()I"⟩
abbrev cX7_isCached : ByteArray := prog_1_method_16_code
abbrev yX7_isCached : MethodName := ⟨RX7, "isCached", "(II)Z"⟩
abbrev cX7_pin : ByteArray := prog_1_method_17_code
abbrev yX7_pin : MethodName := ⟨RX7, "pin", "(II)I"⟩
abbrev cX7_unpin : ByteArray := prog_1_method_18_code
abbrev yX7_unpin : MethodName := ⟨RX7, "unpin", "(I)I"⟩
abbrev cX7_pinned : ByteArray := prog_1_method_19_code
abbrev yX7_pinned : MethodName := ⟨RX7, "pinned", "()I"⟩
abbrev cX7_follows : ByteArray := prog_1_method_20_code
abbrev yX7_follows : MethodName := ⟨RX7, "follows", "(I)I"⟩
abbrev cX7_setLimit : ByteArray := prog_1_method_21_code
abbrev yX7_setLimit : MethodName := ⟨RX7, "setLimit", "(I)I"⟩
abbrev cX7_judge : ByteArray := prog_1_method_22_code
abbrev yX7_judge : MethodName := ⟨RX7, "judge", "(I)I"⟩
abbrev cX7_isVoid : ByteArray := prog_1_method_23_code
abbrev yX7_isVoid : MethodName := ⟨RX7, "isVoid", "(I)Z"⟩
abbrev cX7_traces : ByteArray := prog_1_method_24_code
abbrev yX7_traces : MethodName := ⟨RX7, "traces", "()I"⟩
abbrev cX7_playerOf : ByteArray := prog_1_method_25_code
abbrev yX7_playerOf : MethodName := ⟨RX7, "playerOf", "(I)I"⟩
abbrev cX7_refunds : ByteArray := prog_1_method_27_code
abbrev yX7_refunds : MethodName := ⟨RX7, "refunds", "()J"⟩
abbrev cX7_hitShare : ByteArray := prog_1_method_28_code
abbrev yX7_hitShare : MethodName := ⟨RX7, "hitShare", "()F"⟩
abbrev cX7_meanPrice : ByteArray := prog_1_method_29_code
abbrev yX7_meanPrice : MethodName := ⟨RX7, "meanPrice", "()D"⟩
abbrev cX7_isSound : ByteArray := prog_1_method_30_code
abbrev yX7_isSound : MethodName := ⟨RX7, "isSound", "()Z"⟩
abbrev cX7_findPlayer : ByteArray := prog_1_method_31_code
abbrev yX7_findPlayer : MethodName := ⟨RX7, "findPlayer", "(I)LTileWarden$Player;"⟩
abbrev cX7_findGame : ByteArray := prog_1_method_32_code
abbrev yX7_findGame : MethodName := ⟨RX7, "findGame", "(I)LTileWarden$Game;"⟩
abbrev cX7_findTrace : ByteArray := prog_1_method_33_code
abbrev yX7_findTrace : MethodName := ⟨RX7, "findTrace", "(I)LTileWarden$Trace;"⟩
abbrev cX7_checkWay : ByteArray := prog_1_method_34_code
abbrev yX7_checkWay : MethodName := ⟨RX7, "checkWay", "(I)V"⟩
abbrev cX7_checkDepth : ByteArray := prog_1_method_35_code
abbrev yX7_checkDepth : MethodName := ⟨RX7, "checkDepth", "(II)V"⟩
abbrev cX7_checkHintable : ByteArray := prog_1_method_36_code
abbrev yX7_checkHintable : MethodName := ⟨RX7, "checkHintable", "(LTileWarden$Game;)V"⟩
abbrev cX7_tryHint : ByteArray := prog_1_method_37_code
abbrev yX7_tryHint : MethodName := ⟨RX7, "tryHint", "(LTileWarden$Game;I)V"⟩
abbrev cX7_sellTriedHint : ByteArray := prog_1_method_38_code
abbrev yX7_sellTriedHint : MethodName := ⟨RX7, "sellTriedHint", "(LTileWarden$Game;)V"⟩
abbrev cX7_look : ByteArray := prog_1_method_39_code
abbrev yX7_look : MethodName := ⟨RX7, "look", "(LTileWarden$Search;JII)I"⟩
abbrev cX7_isFollowing : ByteArray := prog_1_method_40_code
abbrev yX7_isFollowing : MethodName := ⟨RX7, "isFollowing", "(LTileWarden$Game;I)Z"⟩
abbrev cX7_areEntriesRight : ByteArray := prog_1_method_41_code
abbrev yX7_areEntriesRight : MethodName := ⟨RX7, "areEntriesRight", "()Z"⟩
abbrev cX7_isFoundPlainly : ByteArray := prog_1_method_42_code
abbrev yX7_isFoundPlainly : MethodName := ⟨RX7, "isFoundPlainly", "(LTileWarden$Entry;)Z"⟩
abbrev cX7_areRefundsRight : ByteArray := prog_1_method_43_code
abbrev yX7_areRefundsRight : MethodName := ⟨RX7, "areRefundsRight", "()Z"⟩
abbrev cX7_arePursesRight : ByteArray := prog_1_method_44_code
abbrev yX7_arePursesRight : MethodName := ⟨RX7, "arePursesRight", "()Z"⟩
abbrev cX7_paidForGood : ByteArray := prog_1_method_45_code
abbrev yX7_paidForGood : MethodName := ⟨RX7, "paidForGood", "(LTileWarden$Player;)I"⟩
abbrev RX8 : String := "TileWardenLaw$Draw"
def TX8 : u_T := fun k => match k with
  | _ => ("TileWardenLaw$Draw", "state", "I", false)
def tyX8 : Nat → FieldType := fun k => match k with
  | _ => .int
theorem nmX8 : ∀ a, a < 1 → ∀ b, b < 1 → a ≠ b → (TX8 a).2.1 ≠ (TX8 b).2.1 := by decide +kernel
theorem tyX8_ok : ∀ k, k < 1 → parseFieldDescriptor (TX8 k).2.2.1 = some (tyX8 k) := by decide +kernel
abbrev cX8_init : ByteArray := prog_10_method_1_code
abbrev yX8_init : MethodName := ⟨RX8, "<init>", "(I)V"⟩
abbrev cX8_next : ByteArray := prog_10_method_2_code
abbrev yX8_next : MethodName := ⟨RX8, "next", "(I)I"⟩
abbrev RX9 : String := "TileWardenModel"
def TX9 : u_T := fun k => match k with
  | _ => ("", "", "", false)
def tyX9 : Nat → FieldType := fun k => match k with
  | _ => .int
theorem nmX9 : ∀ a, a < 0 → ∀ b, b < 0 → a ≠ b → (TX9 a).2.1 ≠ (TX9 b).2.1 := by decide +kernel
theorem tyX9_ok : ∀ k, k < 0 → parseFieldDescriptor (TX9 k).2.2.1 = some (tyX9 k) := by decide +kernel
abbrev RJx145de : String := "java/io/Serializable"
def TJx145de : u_T := fun k => match k with
  | _ => ("", "", "", false)
def tyJx145de : Nat → FieldType := fun k => match k with
  | _ => .int
theorem nmJx145de : ∀ a, a < 0 → ∀ b, b < 0 → a ≠ b → (TJx145de a).2.1 ≠ (TJx145de b).2.1 := by decide +kernel
theorem tyJx145de_ok : ∀ k, k < 0 → parseFieldDescriptor (TJx145de k).2.2.1 = some (tyJx145de k) := by decide +kernel
abbrev RJ5 : String := "java/lang/AbstractStringBuilder"
def TJ5 : u_T := fun k => match k with
  | _ => ("", "", "", false)
def tyJ5 : Nat → FieldType := fun k => match k with
  | _ => .int
theorem nmJ5 : ∀ a, a < 0 → ∀ b, b < 0 → a ≠ b → (TJ5 a).2.1 ≠ (TJ5 b).2.1 := by decide +kernel
theorem tyJ5_ok : ∀ k, k < 0 → parseFieldDescriptor (TJ5 k).2.2.1 = some (tyJ5 k) := by decide +kernel
abbrev cJ5_init_d00df : ByteArray := prog_13_method_2_code
abbrev yJ5_init_d00df : MethodName := ⟨RJ5, "<init>", "(I)V"⟩
abbrev cJ5_length_8abf5 : ByteArray := prog_13_method_6_code
abbrev yJ5_length_8abf5 : MethodName := ⟨RJ5, "length", "()I"⟩
abbrev cJ5_ensureCapacityInternal_d00df : ByteArray := prog_13_method_9_code
abbrev yJ5_ensureCapacityInternal_d00df : MethodName := ⟨RJ5, "ensureCapacityInternal", "(I)V"⟩
abbrev cJ5_newCapacity_0f7a4 : ByteArray := prog_13_method_10_code
abbrev yJ5_newCapacity_0f7a4 : MethodName := ⟨RJ5, "newCapacity", "(I)I"⟩
abbrev cJ5_inflate_da8c8 : ByteArray := prog_13_method_11_code
abbrev yJ5_inflate_da8c8 : MethodName := ⟨RJ5, "inflate", "()V"⟩
abbrev cJ5_charAt_5068e : ByteArray := prog_13_method_14_code
abbrev yJ5_charAt_5068e : MethodName := ⟨RJ5, "charAt", "(I)C"⟩
abbrev cJ5_append_cf1ce : ByteArray := prog_13_method_22_code
abbrev yJ5_append_cf1ce : MethodName := ⟨RJ5, "append", "(Ljava/lang/String;)Ljava/lang/AbstractStringBuilder;"⟩
abbrev cJ5_append_2ceeb : ByteArray := prog_13_method_24_code
abbrev yJ5_append_2ceeb : MethodName := ⟨RJ5, "append", "(Ljava/lang/AbstractStringBuilder;)Ljava/lang/AbstractStringBuilder;"⟩
abbrev cJ5_append_8f9a3 : ByteArray := prog_13_method_25_code
abbrev yJ5_append_8f9a3 : MethodName := ⟨RJ5, "append", "(Ljava/lang/CharSequence;)Ljava/lang/AbstractStringBuilder;"⟩
abbrev cJ5_appendNull_278bc : ByteArray := prog_13_method_26_code
abbrev yJ5_appendNull_278bc : MethodName := ⟨RJ5, "appendNull", "()Ljava/lang/AbstractStringBuilder;"⟩
abbrev cJ5_append_e1f22 : ByteArray := prog_13_method_27_code
abbrev yJ5_append_e1f22 : MethodName := ⟨RJ5, "append", "(Ljava/lang/CharSequence;II)Ljava/lang/AbstractStringBuilder;"⟩
abbrev cJ5_append_a1634 : ByteArray := prog_13_method_28_code
abbrev yJ5_append_a1634 : MethodName := ⟨RJ5, "append", "([C)Ljava/lang/AbstractStringBuilder;"⟩
abbrev cJ5_append_3fe6f : ByteArray := prog_13_method_31_code
abbrev yJ5_append_3fe6f : MethodName := ⟨RJ5, "append", "(C)Ljava/lang/AbstractStringBuilder;"⟩
abbrev cJ5_append_c97b9 : ByteArray := prog_13_method_32_code
abbrev yJ5_append_c97b9 : MethodName := ⟨RJ5, "append", "(I)Ljava/lang/AbstractStringBuilder;"⟩
abbrev cJ5_append_66267 : ByteArray := prog_13_method_33_code
abbrev yJ5_append_66267 : MethodName := ⟨RJ5, "append", "(J)Ljava/lang/AbstractStringBuilder;"⟩
abbrev cJ5_append_b089e : ByteArray := prog_13_method_34_code
abbrev yJ5_append_b089e : MethodName := ⟨RJ5, "append", "(F)Ljava/lang/AbstractStringBuilder;"⟩
abbrev cJ5_append_9cb98 : ByteArray := prog_13_method_35_code
abbrev yJ5_append_9cb98 : MethodName := ⟨RJ5, "append", "(D)Ljava/lang/AbstractStringBuilder;"⟩
abbrev cJ5_getValue_6d5f1 : ByteArray := prog_13_method_64_code
abbrev yJ5_getValue_6d5f1 : MethodName := ⟨RJ5, "getValue", "()[B"⟩
abbrev cJ5_getBytes_840e7 : ByteArray := prog_13_method_65_code
abbrev yJ5_getBytes_840e7 : MethodName := ⟨RJ5, "getBytes", "([BIB)V"⟩
abbrev cJ5_getCoder_7d493 : ByteArray := prog_13_method_67_code
abbrev yJ5_getCoder_7d493 : MethodName := ⟨RJ5, "getCoder", "()B"⟩
abbrev cJ5_isLatin1_aae02 : ByteArray := prog_13_method_68_code
abbrev yJ5_isLatin1_aae02 : MethodName := ⟨RJ5, "isLatin1", "()Z"⟩
abbrev cJ5_inflateIfNeededFor_a7421 : ByteArray := prog_13_method_71_code
abbrev yJ5_inflateIfNeededFor_a7421 : MethodName := ⟨RJ5, "inflateIfNeededFor", "(Ljava/lang/String;)V"⟩
abbrev cJ5_inflateIfNeededFor_56e69 : ByteArray := prog_13_method_72_code
abbrev yJ5_inflateIfNeededFor_56e69 : MethodName := ⟨RJ5, "inflateIfNeededFor", "(Ljava/lang/AbstractStringBuilder;)V"⟩
abbrev cJ5_putStringAt_47b60 : ByteArray := prog_13_method_73_code
abbrev yJ5_putStringAt_47b60 : MethodName := ⟨RJ5, "putStringAt", "(ILjava/lang/String;)V"⟩
abbrev cJ5_appendChars_0ad70 : ByteArray := prog_13_method_74_code
abbrev yJ5_appendChars_0ad70 : MethodName := ⟨RJ5, "appendChars", "([CII)V"⟩
abbrev cJ5_appendChars_3135b : ByteArray := prog_13_method_75_code
abbrev yJ5_appendChars_3135b : MethodName := ⟨RJ5, "appendChars", "(Ljava/lang/String;II)V"⟩
abbrev cJ5_appendChars_a91ff : ByteArray := prog_13_method_76_code
abbrev yJ5_appendChars_a91ff : MethodName := ⟨RJ5, "appendChars", "(Ljava/lang/CharSequence;II)V"⟩
abbrev RJx2cfe8 : String := "java/lang/Appendable"
def TJx2cfe8 : u_T := fun k => match k with
  | _ => ("", "", "", false)
def tyJx2cfe8 : Nat → FieldType := fun k => match k with
  | _ => .int
theorem nmJx2cfe8 : ∀ a, a < 0 → ∀ b, b < 0 → a ≠ b → (TJx2cfe8 a).2.1 ≠ (TJx2cfe8 b).2.1 := by decide +kernel
theorem tyJx2cfe8_ok : ∀ k, k < 0 → parseFieldDescriptor (TJx2cfe8 k).2.2.1 = some (tyJx2cfe8 k) := by decide +kernel
abbrev RJx00060 : String := "java/lang/ArrayIndexOutOfBoundsException"
def TJx00060 : u_T := fun k => match k with
  | 0 => ("java/lang/Throwable", "backtrace", "Ljava/lang/Object;", false)
  | 1 => ("java/lang/Throwable", "detailMessage", "Ljava/lang/String;", false)
  | 2 => ("java/lang/Throwable", "cause", "Ljava/lang/Throwable;", false)
  | 3 => ("java/lang/Throwable", "stackTrace", "[Ljava/lang/StackTraceElement;", false)
  | 4 => ("java/lang/Throwable", "depth", "I", false)
  | _ => ("java/lang/Throwable", "suppressedExceptions", "Ljava/util/List;", false)
def tyJx00060 : Nat → FieldType := fun k => match k with
  | 0 => .object "java/lang/Object"
  | 1 => .object "java/lang/String"
  | 2 => .object "java/lang/Throwable"
  | 3 => .array (.object "java/lang/StackTraceElement")
  | 4 => .int
  | _ => .object "java/util/List"
theorem nmJx00060 : ∀ a, a < 6 → ∀ b, b < 6 → a ≠ b → (TJx00060 a).2.1 ≠ (TJx00060 b).2.1 := by decide +kernel
theorem tyJx00060_ok : ∀ k, k < 6 → parseFieldDescriptor (TJx00060 k).2.2.1 = some (tyJx00060 k) := by decide +kernel
abbrev cJx00060_init_a7421 : ByteArray := prog_16_method_2_code
abbrev yJx00060_init_a7421 : MethodName := ⟨RJx00060, "<init>", "(Ljava/lang/String;)V"⟩
abbrev RJx9f9b0 : String := "java/lang/CharSequence"
def TJx9f9b0 : u_T := fun k => match k with
  | _ => ("", "", "", false)
def tyJx9f9b0 : Nat → FieldType := fun k => match k with
  | _ => .int
theorem nmJx9f9b0 : ∀ a, a < 0 → ∀ b, b < 0 → a ≠ b → (TJx9f9b0 a).2.1 ≠ (TJx9f9b0 b).2.1 := by decide +kernel
theorem tyJx9f9b0_ok : ∀ k, k < 0 → parseFieldDescriptor (TJx9f9b0 k).2.2.1 = some (tyJx9f9b0 k) := by decide +kernel
abbrev RJx8e188 : String := "java/lang/Cloneable"
def TJx8e188 : u_T := fun k => match k with
  | _ => ("", "", "", false)
def tyJx8e188 : Nat → FieldType := fun k => match k with
  | _ => .int
theorem nmJx8e188 : ∀ a, a < 0 → ∀ b, b < 0 → a ≠ b → (TJx8e188 a).2.1 ≠ (TJx8e188 b).2.1 := by decide +kernel
theorem tyJx8e188_ok : ∀ k, k < 0 → parseFieldDescriptor (TJx8e188 k).2.2.1 = some (tyJx8e188 k) := by decide +kernel
abbrev RJxb160c : String := "java/lang/Comparable"
def TJxb160c : u_T := fun k => match k with
  | _ => ("", "", "", false)
def tyJxb160c : Nat → FieldType := fun k => match k with
  | _ => .int
theorem nmJxb160c : ∀ a, a < 0 → ∀ b, b < 0 → a ≠ b → (TJxb160c a).2.1 ≠ (TJxb160c b).2.1 := by decide +kernel
theorem tyJxb160c_ok : ∀ k, k < 0 → parseFieldDescriptor (TJxb160c k).2.2.1 = some (tyJxb160c k) := by decide +kernel
abbrev RJxe99ae : String := "java/lang/Double"
def TJxe99ae : u_T := fun k => match k with
  | _ => ("", "", "", false)
def tyJxe99ae : Nat → FieldType := fun k => match k with
  | _ => .int
theorem nmJxe99ae : ∀ a, a < 0 → ∀ b, b < 0 → a ≠ b → (TJxe99ae a).2.1 ≠ (TJxe99ae b).2.1 := by decide +kernel
theorem tyJxe99ae_ok : ∀ k, k < 0 → parseFieldDescriptor (TJxe99ae k).2.2.1 = some (tyJxe99ae k) := by decide +kernel
abbrev RJxf58ca : String := "java/lang/Float"
def TJxf58ca : u_T := fun k => match k with
  | _ => ("", "", "", false)
def tyJxf58ca : Nat → FieldType := fun k => match k with
  | _ => .int
theorem nmJxf58ca : ∀ a, a < 0 → ∀ b, b < 0 → a ≠ b → (TJxf58ca a).2.1 ≠ (TJxf58ca b).2.1 := by decide +kernel
theorem tyJxf58ca_ok : ∀ k, k < 0 → parseFieldDescriptor (TJxf58ca k).2.2.1 = some (tyJxf58ca k) := by decide +kernel
abbrev RJ6 : String := "java/lang/Integer"
def TJ6 : u_T := fun k => match k with
  | _ => ("", "", "", false)
def tyJ6 : Nat → FieldType := fun k => match k with
  | _ => .int
theorem nmJ6 : ∀ a, a < 0 → ∀ b, b < 0 → a ≠ b → (TJ6 a).2.1 ≠ (TJ6 b).2.1 := by decide +kernel
theorem tyJ6_ok : ∀ k, k < 0 → parseFieldDescriptor (TJ6 k).2.2.1 = some (tyJ6 k) := by decide +kernel
abbrev cJ6_getChars_ba4f3 : ByteArray := prog_26_method_12_code
abbrev yJ6_getChars_ba4f3 : MethodName := ⟨RJ6, "getChars", "(II[B)I"⟩
abbrev cJ6_stringSize_0f7a4 : ByteArray := prog_26_method_13_code
abbrev yJ6_stringSize_0f7a4 : MethodName := ⟨RJ6, "stringSize", "(I)I"⟩
abbrev cJ6_numberOfLeadingZeros_0f7a4 : ByteArray := prog_26_method_47_code
abbrev yJ6_numberOfLeadingZeros_0f7a4 : MethodName := ⟨RJ6, "numberOfLeadingZeros", "(I)I"⟩
abbrev RJxab1ab : String := "java/lang/Iterable"
def TJxab1ab : u_T := fun k => match k with
  | _ => ("", "", "", false)
def tyJxab1ab : Nat → FieldType := fun k => match k with
  | _ => .int
theorem nmJxab1ab : ∀ a, a < 0 → ∀ b, b < 0 → a ≠ b → (TJxab1ab a).2.1 ≠ (TJxab1ab b).2.1 := by decide +kernel
theorem tyJxab1ab_ok : ∀ k, k < 0 → parseFieldDescriptor (TJxab1ab k).2.2.1 = some (tyJxab1ab k) := by decide +kernel
abbrev RJ13 : String := "java/lang/Long"
def TJ13 : u_T := fun k => match k with
  | _ => ("", "", "", false)
def tyJ13 : Nat → FieldType := fun k => match k with
  | _ => .int
theorem nmJ13 : ∀ a, a < 0 → ∀ b, b < 0 → a ≠ b → (TJ13 a).2.1 ≠ (TJ13 b).2.1 := by decide +kernel
theorem tyJ13_ok : ∀ k, k < 0 → parseFieldDescriptor (TJ13 k).2.2.1 = some (tyJ13 k) := by decide +kernel
abbrev cJ13_getChars_11360 : ByteArray := prog_28_method_14_code
abbrev yJ13_getChars_11360 : MethodName := ⟨RJ13, "getChars", "(JI[B)I"⟩
abbrev cJ13_stringSize_95d88 : ByteArray := prog_28_method_15_code
abbrev yJ13_stringSize_95d88 : MethodName := ⟨RJ13, "stringSize", "(J)I"⟩
abbrev cJ13_numberOfLeadingZeros_95d88 : ByteArray := prog_28_method_48_code
abbrev yJ13_numberOfLeadingZeros_95d88 : MethodName := ⟨RJ13, "numberOfLeadingZeros", "(J)I"⟩
abbrev RJ9 : String := "java/lang/Math"
def TJ9 : u_T := fun k => match k with
  | _ => ("", "", "", false)
def tyJ9 : Nat → FieldType := fun k => match k with
  | _ => .int
theorem nmJ9 : ∀ a, a < 0 → ∀ b, b < 0 → a ≠ b → (TJ9 a).2.1 ≠ (TJ9 b).2.1 := by decide +kernel
theorem tyJ9_ok : ∀ k, k < 0 → parseFieldDescriptor (TJ9 k).2.2.1 = some (tyJ9 k) := by decide +kernel
abbrev cJ9_multiplyHigh_f86c9 : ByteArray := prog_29_method_45_code
abbrev yJ9_multiplyHigh_f86c9 : MethodName := ⟨RJ9, "multiplyHigh", "(JJ)J"⟩
abbrev cJ9_max_7cf53 : ByteArray := prog_29_method_65_code
abbrev yJ9_max_7cf53 : MethodName := ⟨RJ9, "max", "(II)I"⟩
abbrev cJ9_min_7cf53 : ByteArray := prog_29_method_69_code
abbrev yJ9_min_7cf53 : MethodName := ⟨RJ9, "min", "(II)I"⟩
abbrev RJxd2413 : String := "java/lang/Number"
def TJxd2413 : u_T := fun k => match k with
  | _ => ("", "", "", false)
def tyJxd2413 : Nat → FieldType := fun k => match k with
  | _ => .int
theorem nmJxd2413 : ∀ a, a < 0 → ∀ b, b < 0 → a ≠ b → (TJxd2413 a).2.1 ≠ (TJxd2413 b).2.1 := by decide +kernel
theorem tyJxd2413_ok : ∀ k, k < 0 → parseFieldDescriptor (TJxd2413 k).2.2.1 = some (tyJxd2413 k) := by decide +kernel
abbrev RJ0 : String := "java/lang/String"
def TJ0 : u_T := fun k => match k with
  | 0 => ("java/lang/String", "value", "[B", true)
  | 1 => ("java/lang/String", "coder", "B", true)
  | 2 => ("java/lang/String", "hash", "I", false)
  | _ => ("java/lang/String", "hashIsZero", "Z", false)
def tyJ0 : Nat → FieldType := fun k => match k with
  | 0 => .array .byte
  | 1 => .byte
  | 2 => .int
  | _ => .boolean
theorem nmJ0 : ∀ a, a < 4 → ∀ b, b < 4 → a ≠ b → (TJ0 a).2.1 ≠ (TJ0 b).2.1 := by decide +kernel
theorem tyJ0_ok : ∀ k, k < 4 → parseFieldDescriptor (TJ0 k).2.2.1 = some (tyJ0 k) := by decide +kernel
abbrev cJ0_init_81219 : ByteArray := prog_32_method_53_code
abbrev yJ0_init_81219 : MethodName := ⟨RJ0, "<init>", "(Ljava/lang/StringBuilder;)V"⟩
abbrev cJ0_length_8abf5 : ByteArray := prog_32_method_54_code
abbrev yJ0_length_8abf5 : MethodName := ⟨RJ0, "length", "()I"⟩
abbrev cJ0_charAt_5068e : ByteArray := prog_32_method_56_code
abbrev yJ0_charAt_5068e : MethodName := ⟨RJ0, "charAt", "(I)C"⟩
abbrev cJ0_equals_9ea2d : ByteArray := prog_32_method_66_code
abbrev yJ0_equals_9ea2d : MethodName := ⟨RJ0, "equals", "(Ljava/lang/Object;)Z"⟩
abbrev cJ0_getBytes_840e7 : ByteArray := prog_32_method_147_code
abbrev yJ0_getBytes_840e7 : MethodName := ⟨RJ0, "getBytes", "([BIB)V"⟩
abbrev cJ0_init_db425 : ByteArray := prog_32_method_150_code
abbrev yJ0_init_db425 : MethodName := ⟨RJ0, "<init>", "(Ljava/lang/AbstractStringBuilder;Ljava/lang/Void;)V"⟩
abbrev cJ0_coder_7d493 : ByteArray := prog_32_method_152_code
abbrev yJ0_coder_7d493 : MethodName := ⟨RJ0, "coder", "()B"⟩
abbrev cJ0_value_6d5f1 : ByteArray := prog_32_method_153_code
abbrev yJ0_value_6d5f1 : MethodName := ⟨RJ0, "value", "()[B"⟩
abbrev cJ0_isLatin1_aae02 : ByteArray := prog_32_method_154_code
abbrev yJ0_isLatin1_aae02 : MethodName := ⟨RJ0, "isLatin1", "()Z"⟩
abbrev cJ0_checkIndex_df160 : ByteArray := prog_32_method_155_code
abbrev yJ0_checkIndex_df160 : MethodName := ⟨RJ0, "checkIndex", "(II)V"⟩
abbrev cJ0_checkBoundsOffCount_cabcc : ByteArray := prog_32_method_157_code
abbrev yJ0_checkBoundsOffCount_cabcc : MethodName := ⟨RJ0, "checkBoundsOffCount", "(III)I"⟩
abbrev cJ0_checkBoundsBeginEnd_23922 : ByteArray := prog_32_method_158_code
abbrev yJ0_checkBoundsBeginEnd_23922 : MethodName := ⟨RJ0, "checkBoundsBeginEnd", "(III)V"⟩
abbrev RJxe8eeb : String := "java/lang/StringBuffer"
def TJxe8eeb : u_T := fun k => match k with
  | _ => ("", "", "", false)
def tyJxe8eeb : Nat → FieldType := fun k => match k with
  | _ => .int
theorem nmJxe8eeb : ∀ a, a < 0 → ∀ b, b < 0 → a ≠ b → (TJxe8eeb a).2.1 ≠ (TJxe8eeb b).2.1 := by decide +kernel
theorem tyJxe8eeb_ok : ∀ k, k < 0 → parseFieldDescriptor (TJxe8eeb k).2.2.1 = some (tyJxe8eeb k) := by decide +kernel
abbrev cJxe8eeb_append_b568b : ByteArray := prog_33_method_24_code
abbrev yJxe8eeb_append_b568b : MethodName := ⟨RJxe8eeb, "append", "([C)Ljava/lang/StringBuffer;"⟩
abbrev RJ4 : String := "java/lang/StringBuilder"
def TJ4 : u_T := fun k => match k with
  | 0 => ("java/lang/AbstractStringBuilder", "value", "[B", false)
  | 1 => ("java/lang/AbstractStringBuilder", "coder", "B", false)
  | 2 => ("java/lang/AbstractStringBuilder", "maybeLatin1", "Z", false)
  | _ => ("java/lang/AbstractStringBuilder", "count", "I", false)
def tyJ4 : Nat → FieldType := fun k => match k with
  | 0 => .array .byte
  | 1 => .byte
  | 2 => .boolean
  | _ => .int
theorem nmJ4 : ∀ a, a < 4 → ∀ b, b < 4 → a ≠ b → (TJ4 a).2.1 ≠ (TJ4 b).2.1 := by decide +kernel
theorem tyJ4_ok : ∀ k, k < 4 → parseFieldDescriptor (TJ4 k).2.2.1 = some (tyJ4 k) := by decide +kernel
abbrev cJ4_init_da8c8 : ByteArray := prog_34_method_1_code
abbrev yJ4_init_da8c8 : MethodName := ⟨RJ4, "<init>", "()V"⟩
abbrev cJ4_append_15ec4 : ByteArray := prog_34_method_7_code
abbrev yJ4_append_15ec4 : MethodName := ⟨RJ4, "append", "(Ljava/lang/String;)Ljava/lang/StringBuilder;"⟩
abbrev cJ4_append_1fab5 : ByteArray := prog_34_method_9_code
abbrev yJ4_append_1fab5 : MethodName := ⟨RJ4, "append", "(Ljava/lang/CharSequence;)Ljava/lang/StringBuilder;"⟩
abbrev cJ4_append_69d29 : ByteArray := prog_34_method_10_code
abbrev yJ4_append_69d29 : MethodName := ⟨RJ4, "append", "(Ljava/lang/CharSequence;II)Ljava/lang/StringBuilder;"⟩
abbrev cJ4_append_37e8c : ByteArray := prog_34_method_11_code
abbrev yJ4_append_37e8c : MethodName := ⟨RJ4, "append", "([C)Ljava/lang/StringBuilder;"⟩
abbrev cJ4_append_cf468 : ByteArray := prog_34_method_14_code
abbrev yJ4_append_cf468 : MethodName := ⟨RJ4, "append", "(C)Ljava/lang/StringBuilder;"⟩
abbrev cJ4_append_bf812 : ByteArray := prog_34_method_15_code
abbrev yJ4_append_bf812 : MethodName := ⟨RJ4, "append", "(I)Ljava/lang/StringBuilder;"⟩
abbrev cJ4_append_f7089 : ByteArray := prog_34_method_16_code
abbrev yJ4_append_f7089 : MethodName := ⟨RJ4, "append", "(J)Ljava/lang/StringBuilder;"⟩
abbrev cJ4_append_9d4c8 : ByteArray := prog_34_method_17_code
abbrev yJ4_append_9d4c8 : MethodName := ⟨RJ4, "append", "(F)Ljava/lang/StringBuilder;"⟩
abbrev cJ4_append_ec4c5 : ByteArray := prog_34_method_18_code
abbrev yJ4_append_ec4c5 : MethodName := ⟨RJ4, "append", "(D)Ljava/lang/StringBuilder;"⟩
abbrev cJ4_toString_0e30d : ByteArray := prog_34_method_42_code
abbrev yJ4_toString_0e30d : MethodName := ⟨RJ4, "toString", "()Ljava/lang/String;"⟩
abbrev cJ4_append_e1f22 : ByteArray := prog_34_method_77_code
abbrev yJ4_append_e1f22 : MethodName := ⟨RJ4, "append", "(Ljava/lang/CharSequence;II)Ljava/lang/AbstractStringBuilder;"⟩
abbrev cJ4_append_cf1ce : ByteArray := prog_34_method_80_code
abbrev yJ4_append_cf1ce : MethodName := ⟨RJ4, "append", "(Ljava/lang/String;)Ljava/lang/AbstractStringBuilder;"⟩
abbrev cJ4_charAt_5068e : ByteArray := prog_34_method_88_code
abbrev yJ4_charAt_5068e : MethodName := ⟨RJ4, "charAt", "(I)C"⟩
abbrev cJ4_length_8abf5 : ByteArray := prog_34_method_93_code
abbrev yJ4_length_8abf5 : MethodName := ⟨RJ4, "length", "()I"⟩
abbrev cJ4_append_b3078 : ByteArray := prog_34_method_94_code
abbrev yJ4_append_b3078 : MethodName := ⟨RJ4, "append", "(C)Ljava/lang/Appendable;"⟩
abbrev cJ4_append_996db : ByteArray := prog_34_method_96_code
abbrev yJ4_append_996db : MethodName := ⟨RJ4, "append", "(Ljava/lang/CharSequence;)Ljava/lang/Appendable;"⟩
abbrev RJ1 : String := "java/lang/StringLatin1"
def TJ1 : u_T := fun k => match k with
  | _ => ("", "", "", false)
def tyJ1 : Nat → FieldType := fun k => match k with
  | _ => .int
theorem nmJ1 : ∀ a, a < 0 → ∀ b, b < 0 → a ≠ b → (TJ1 a).2.1 ≠ (TJ1 b).2.1 := by decide +kernel
theorem tyJ1_ok : ∀ k, k < 0 → parseFieldDescriptor (TJ1 k).2.2.1 = some (tyJ1 k) := by decide +kernel
abbrev cJ1_charAt_3b067 : ByteArray := prog_35_method_2_code
abbrev yJ1_charAt_3b067 : MethodName := ⟨RJ1, "charAt", "([BI)C"⟩
abbrev cJ1_canEncode_fc78d : ByteArray := prog_35_method_3_code
abbrev yJ1_canEncode_fc78d : MethodName := ⟨RJ1, "canEncode", "(C)Z"⟩
abbrev cJ1_equals_b5fdf : ByteArray := prog_35_method_13_code
abbrev yJ1_equals_b5fdf : MethodName := ⟨RJ1, "equals", "([B[B)Z"⟩
abbrev cJ1_inflate_0e8fd : ByteArray := prog_35_method_50_code
abbrev yJ1_inflate_0e8fd : MethodName := ⟨RJ1, "inflate", "([BI[BII)V"⟩
abbrev RJ2 : String := "java/lang/StringUTF16"
def TJ2 : u_T := fun k => match k with
  | _ => ("", "", "", false)
def tyJ2 : Nat → FieldType := fun k => match k with
  | _ => .int
theorem nmJ2 : ∀ a, a < 0 → ∀ b, b < 0 → a ≠ b → (TJ2 a).2.1 ≠ (TJ2 b).2.1 := by decide +kernel
theorem tyJ2_ok : ∀ k, k < 0 → parseFieldDescriptor (TJ2 k).2.2.1 = some (tyJ2 k) := by decide +kernel
abbrev cJ2_newBytesFor_77867 : ByteArray := prog_36_method_2_code
abbrev yJ2_newBytesFor_77867 : MethodName := ⟨RJ2, "newBytesFor", "(I)[B"⟩
abbrev cJ2_newBytesLength_0f7a4 : ByteArray := prog_36_method_3_code
abbrev yJ2_newBytesLength_0f7a4 : MethodName := ⟨RJ2, "newBytesLength", "(I)I"⟩
abbrev cJ2_putChar_b72d1 : ByteArray := prog_36_method_4_code
abbrev yJ2_putChar_b72d1 : MethodName := ⟨RJ2, "putChar", "([BII)V"⟩
abbrev cJ2_getChar_3b067 : ByteArray := prog_36_method_5_code
abbrev yJ2_getChar_3b067 : MethodName := ⟨RJ2, "getChar", "([BI)C"⟩
abbrev cJ2_length_9d52b : ByteArray := prog_36_method_6_code
abbrev yJ2_length_9d52b : MethodName := ⟨RJ2, "length", "([B)I"⟩
abbrev cJ2_coderFromArrayLen_85cad : ByteArray := prog_36_method_15_code
abbrev yJ2_coderFromArrayLen_85cad : MethodName := ⟨RJ2, "coderFromArrayLen", "([BI)B"⟩
abbrev cJ2_compress_39247 : ByteArray := prog_36_method_17_code
abbrev yJ2_compress_39247 : MethodName := ⟨RJ2, "compress", "([BII)[B"⟩
abbrev cJ2_compress_5af95 : ByteArray := prog_36_method_22_code
abbrev yJ2_compress_5af95 : MethodName := ⟨RJ2, "compress", "([BI[BII)I"⟩
abbrev cJ2_putChars_03870 : ByteArray := prog_36_method_68_code
abbrev yJ2_putChars_03870 : MethodName := ⟨RJ2, "putChars", "([BI[CII)V"⟩
abbrev cJ2_putCharSB_b72d1 : ByteArray := prog_36_method_71_code
abbrev yJ2_putCharSB_b72d1 : MethodName := ⟨RJ2, "putCharSB", "([BII)V"⟩
abbrev cJ2_putCharsSB_03870 : ByteArray := prog_36_method_72_code
abbrev yJ2_putCharsSB_03870 : MethodName := ⟨RJ2, "putCharsSB", "([BI[CII)V"⟩
abbrev cJ2_putCharsSB_8fd6a : ByteArray := prog_36_method_73_code
abbrev yJ2_putCharsSB_8fd6a : MethodName := ⟨RJ2, "putCharsSB", "([BILjava/lang/CharSequence;II)V"⟩
abbrev cJ2_getChars_46870 : ByteArray := prog_36_method_77_code
abbrev yJ2_getChars_46870 : MethodName := ⟨RJ2, "getChars", "(III[B)I"⟩
abbrev cJ2_getChars_1ba55 : ByteArray := prog_36_method_78_code
abbrev yJ2_getChars_1ba55 : MethodName := ⟨RJ2, "getChars", "(JII[B)I"⟩
abbrev cJ2_putCharsAt_cd4e5 : ByteArray := prog_36_method_81_code
abbrev yJ2_putCharsAt_cd4e5 : MethodName := ⟨RJ2, "putCharsAt", "([BICCCC)I"⟩
abbrev cJ2_charAt_3b067 : ByteArray := prog_36_method_83_code
abbrev yJ2_charAt_3b067 : MethodName := ⟨RJ2, "charAt", "([BI)C"⟩
abbrev cJ2_inflate_0e8fd : ByteArray := prog_36_method_86_code
abbrev yJ2_inflate_0e8fd : MethodName := ⟨RJ2, "inflate", "([BI[BII)V"⟩
abbrev cJ2_getChars_ba4f3 : ByteArray := prog_36_method_89_code
abbrev yJ2_getChars_ba4f3 : MethodName := ⟨RJ2, "getChars", "(II[B)I"⟩
abbrev cJ2_getChars_11360 : ByteArray := prog_36_method_90_code
abbrev yJ2_getChars_11360 : MethodName := ⟨RJ2, "getChars", "(JI[B)I"⟩
abbrev cJ2_checkIndex_2214a : ByteArray := prog_36_method_91_code
abbrev yJ2_checkIndex_2214a : MethodName := ⟨RJ2, "checkIndex", "(I[B)V"⟩
abbrev cJ2_checkBoundsBeginEnd_d044e : ByteArray := prog_36_method_93_code
abbrev yJ2_checkBoundsBeginEnd_d044e : MethodName := ⟨RJ2, "checkBoundsBeginEnd", "(II[B)V"⟩
abbrev cJ2_checkBoundsOffCount_d044e : ByteArray := prog_36_method_94_code
abbrev yJ2_checkBoundsOffCount_d044e : MethodName := ⟨RJ2, "checkBoundsOffCount", "(II[B)V"⟩
abbrev RJ10 : String := "java/lang/System"
def TJ10 : u_T := fun k => match k with
  | _ => ("", "", "", false)
def tyJ10 : Nat → FieldType := fun k => match k with
  | _ => .int
theorem nmJ10 : ∀ a, a < 0 → ∀ b, b < 0 → a ≠ b → (TJ10 a).2.1 ≠ (TJ10 b).2.1 := by decide +kernel
theorem tyJ10_ok : ∀ k, k < 0 → parseFieldDescriptor (TJ10 k).2.2.1 = some (tyJ10 k) := by decide +kernel
abbrev RJxfd54e : String := "java/lang/constant/Constable"
def TJxfd54e : u_T := fun k => match k with
  | _ => ("", "", "", false)
def tyJxfd54e : Nat → FieldType := fun k => match k with
  | _ => .int
theorem nmJxfd54e : ∀ a, a < 0 → ∀ b, b < 0 → a ≠ b → (TJxfd54e a).2.1 ≠ (TJxfd54e b).2.1 := by decide +kernel
theorem tyJxfd54e_ok : ∀ k, k < 0 → parseFieldDescriptor (TJxfd54e k).2.2.1 = some (tyJxfd54e k) := by decide +kernel
abbrev RJx3cf43 : String := "java/lang/constant/ConstantDesc"
def TJx3cf43 : u_T := fun k => match k with
  | _ => ("", "", "", false)
def tyJx3cf43 : Nat → FieldType := fun k => match k with
  | _ => .int
theorem nmJx3cf43 : ∀ a, a < 0 → ∀ b, b < 0 → a ≠ b → (TJx3cf43 a).2.1 ≠ (TJx3cf43 b).2.1 := by decide +kernel
theorem tyJx3cf43_ok : ∀ k, k < 0 → parseFieldDescriptor (TJx3cf43 k).2.2.1 = some (tyJx3cf43 k) := by decide +kernel
abbrev RJxa1e45 : String := "java/util/AbstractCollection"
def TJxa1e45 : u_T := fun k => match k with
  | _ => ("", "", "", false)
def tyJxa1e45 : Nat → FieldType := fun k => match k with
  | _ => .int
theorem nmJxa1e45 : ∀ a, a < 0 → ∀ b, b < 0 → a ≠ b → (TJxa1e45 a).2.1 ≠ (TJxa1e45 b).2.1 := by decide +kernel
theorem tyJxa1e45_ok : ∀ k, k < 0 → parseFieldDescriptor (TJxa1e45 k).2.2.1 = some (tyJxa1e45 k) := by decide +kernel
abbrev cJxa1e45_init_da8c8 : ByteArray := prog_42_method_1_code
abbrev yJxa1e45_init_da8c8 : MethodName := ⟨RJxa1e45, "<init>", "()V"⟩
abbrev RJxc12de : String := "java/util/AbstractList"
def TJxc12de : u_T := fun k => match k with
  | _ => ("", "", "", false)
def tyJxc12de : Nat → FieldType := fun k => match k with
  | _ => .int
theorem nmJxc12de : ∀ a, a < 0 → ∀ b, b < 0 → a ≠ b → (TJxc12de a).2.1 ≠ (TJxc12de b).2.1 := by decide +kernel
theorem tyJxc12de_ok : ∀ k, k < 0 → parseFieldDescriptor (TJxc12de k).2.2.1 = some (tyJxc12de k) := by decide +kernel
abbrev cJxc12de_init_da8c8 : ByteArray := prog_43_method_1_code
abbrev yJxc12de_init_da8c8 : MethodName := ⟨RJxc12de, "<init>", "()V"⟩
abbrev RJx4a65c : String := "java/util/ArrayList"
def TJx4a65c : u_T := fun k => match k with
  | 0 => ("java/util/AbstractList", "modCount", "I", false)
  | 1 => ("java/util/ArrayList", "elementData", "[Ljava/lang/Object;", false)
  | _ => ("java/util/ArrayList", "size", "I", false)
def tyJx4a65c : Nat → FieldType := fun k => match k with
  | 0 => .int
  | 1 => .array (.object "java/lang/Object")
  | _ => .int
theorem nmJx4a65c : ∀ a, a < 3 → ∀ b, b < 3 → a ≠ b → (TJx4a65c a).2.1 ≠ (TJx4a65c b).2.1 := by decide +kernel
theorem tyJx4a65c_ok : ∀ k, k < 3 → parseFieldDescriptor (TJx4a65c k).2.2.1 = some (tyJx4a65c k) := by decide +kernel
abbrev cJx4a65c_init_da8c8 : ByteArray := prog_44_method_2_code
abbrev yJx4a65c_init_da8c8 : MethodName := ⟨RJx4a65c, "<init>", "()V"⟩
abbrev cJx4a65c_grow_92f84 : ByteArray := prog_44_method_6_code
abbrev yJx4a65c_grow_92f84 : MethodName := ⟨RJx4a65c, "grow", "(I)[Ljava/lang/Object;"⟩
abbrev cJx4a65c_grow_d5877 : ByteArray := prog_44_method_7_code
abbrev yJx4a65c_grow_d5877 : MethodName := ⟨RJx4a65c, "grow", "()[Ljava/lang/Object;"⟩
abbrev cJx4a65c_size_8abf5 : ByteArray := prog_44_method_8_code
abbrev yJx4a65c_size_8abf5 : MethodName := ⟨RJx4a65c, "size", "()I"⟩
abbrev cJx4a65c_elementData_915e3 : ByteArray := prog_44_method_18_code
abbrev yJx4a65c_elementData_915e3 : MethodName := ⟨RJx4a65c, "elementData", "(I)Ljava/lang/Object;"⟩
abbrev cJx4a65c_get_915e3 : ByteArray := prog_44_method_20_code
abbrev yJx4a65c_get_915e3 : MethodName := ⟨RJx4a65c, "get", "(I)Ljava/lang/Object;"⟩
abbrev cJx4a65c_add_72be8 : ByteArray := prog_44_method_24_code
abbrev yJx4a65c_add_72be8 : MethodName := ⟨RJx4a65c, "add", "(Ljava/lang/Object;[Ljava/lang/Object;I)V"⟩
abbrev cJx4a65c_add_9ea2d : ByteArray := prog_44_method_25_code
abbrev yJx4a65c_add_9ea2d : MethodName := ⟨RJx4a65c, "add", "(Ljava/lang/Object;)Z"⟩
abbrev RJ7 : String := "java/util/Arrays"
def TJ7 : u_T := fun k => match k with
  | _ => ("", "", "", false)
def tyJ7 : Nat → FieldType := fun k => match k with
  | _ => .int
theorem nmJ7 : ∀ a, a < 0 → ∀ b, b < 0 → a ≠ b → (TJ7 a).2.1 ≠ (TJ7 b).2.1 := by decide +kernel
theorem tyJ7_ok : ∀ k, k < 0 → parseFieldDescriptor (TJ7 k).2.2.1 = some (tyJ7 k) := by decide +kernel
abbrev cJ7_copyOf_1904c : ByteArray := prog_45_method_119_code
abbrev yJ7_copyOf_1904c : MethodName := ⟨RJ7, "copyOf", "([Ljava/lang/Object;I)[Ljava/lang/Object;"⟩
abbrev cJ7_copyOf_6403c : ByteArray := prog_45_method_120_code
abbrev yJ7_copyOf_6403c : MethodName := ⟨RJ7, "copyOf", "([Ljava/lang/Object;ILjava/lang/Class;)[Ljava/lang/Object;"⟩
abbrev cJ7_copyOf_9075b : ByteArray := prog_45_method_121_code
abbrev yJ7_copyOf_9075b : MethodName := ⟨RJ7, "copyOf", "([BI)[B"⟩
abbrev cJ7_checkLength_df160 : ByteArray := prog_45_method_131_code
abbrev yJ7_checkLength_df160 : MethodName := ⟨RJ7, "checkLength", "(II)V"⟩
abbrev cJ7_copyOfRange_39247 : ByteArray := prog_45_method_132_code
abbrev yJ7_copyOfRange_39247 : MethodName := ⟨RJ7, "copyOfRange", "([BII)[B"⟩
abbrev cJ7_copyOfRangeByte_39247 : ByteArray := prog_45_method_133_code
abbrev yJ7_copyOfRangeByte_39247 : MethodName := ⟨RJ7, "copyOfRangeByte", "([BII)[B"⟩
abbrev RJx5ef63 : String := "java/util/Collection"
def TJx5ef63 : u_T := fun k => match k with
  | _ => ("", "", "", false)
def tyJx5ef63 : Nat → FieldType := fun k => match k with
  | _ => .int
theorem nmJx5ef63 : ∀ a, a < 0 → ∀ b, b < 0 → a ≠ b → (TJx5ef63 a).2.1 ≠ (TJx5ef63 b).2.1 := by decide +kernel
theorem tyJx5ef63_ok : ∀ k, k < 0 → parseFieldDescriptor (TJx5ef63 k).2.2.1 = some (tyJx5ef63 k) := by decide +kernel
abbrev RJxbd725 : String := "java/util/List"
def TJxbd725 : u_T := fun k => match k with
  | _ => ("", "", "", false)
def tyJxbd725 : Nat → FieldType := fun k => match k with
  | _ => .int
theorem nmJxbd725 : ∀ a, a < 0 → ∀ b, b < 0 → a ≠ b → (TJxbd725 a).2.1 ≠ (TJxbd725 b).2.1 := by decide +kernel
theorem tyJxbd725_ok : ∀ k, k < 0 → parseFieldDescriptor (TJxbd725 k).2.2.1 = some (tyJxbd725 k) := by decide +kernel
abbrev RJ15 : String := "java/util/Objects"
def TJ15 : u_T := fun k => match k with
  | _ => ("", "", "", false)
def tyJ15 : Nat → FieldType := fun k => match k with
  | _ => .int
theorem nmJ15 : ∀ a, a < 0 → ∀ b, b < 0 → a ≠ b → (TJ15 a).2.1 ≠ (TJ15 b).2.1 := by decide +kernel
theorem tyJ15_ok : ∀ k, k < 0 → parseFieldDescriptor (TJ15 k).2.2.1 = some (tyJ15 k) := by decide +kernel
abbrev cJ15_checkIndex_7cf53 : ByteArray := prog_49_method_17_code
abbrev yJ15_checkIndex_7cf53 : MethodName := ⟨RJ15, "checkIndex", "(II)I"⟩
abbrev RJxf0a74 : String := "java/util/RandomAccess"
def TJxf0a74 : u_T := fun k => match k with
  | _ => ("", "", "", false)
def tyJxf0a74 : Nat → FieldType := fun k => match k with
  | _ => .int
theorem nmJxf0a74 : ∀ a, a < 0 → ∀ b, b < 0 → a ≠ b → (TJxf0a74 a).2.1 ≠ (TJxf0a74 b).2.1 := by decide +kernel
theorem tyJxf0a74_ok : ∀ k, k < 0 → parseFieldDescriptor (TJxf0a74 k).2.2.1 = some (tyJxf0a74 k) := by decide +kernel
abbrev RJxa66e6 : String := "java/util/SequencedCollection"
def TJxa66e6 : u_T := fun k => match k with
  | _ => ("", "", "", false)
def tyJxa66e6 : Nat → FieldType := fun k => match k with
  | _ => .int
theorem nmJxa66e6 : ∀ a, a < 0 → ∀ b, b < 0 → a ≠ b → (TJxa66e6 a).2.1 ≠ (TJxa66e6 b).2.1 := by decide +kernel
theorem tyJxa66e6_ok : ∀ k, k < 0 → parseFieldDescriptor (TJxa66e6 k).2.2.1 = some (tyJxa66e6 k) := by decide +kernel
abbrev RJx4497a : String := "jdk/internal/math/DoubleToDecimal"
def TJx4497a : u_T := fun k => match k with
  | 0 => ("jdk/internal/math/DoubleToDecimal", "bytes", "[B", true)
  | _ => ("jdk/internal/math/DoubleToDecimal", "index", "I", false)
def tyJx4497a : Nat → FieldType := fun k => match k with
  | 0 => .array .byte
  | _ => .int
theorem nmJx4497a : ∀ a, a < 2 → ∀ b, b < 2 → a ≠ b → (TJx4497a a).2.1 ≠ (TJx4497a b).2.1 := by decide +kernel
theorem tyJx4497a_ok : ∀ k, k < 2 → parseFieldDescriptor (TJx4497a k).2.2.1 = some (tyJx4497a k) := by decide +kernel
abbrev cJx4497a_init_f633c : ByteArray := prog_52_method_1_code
abbrev yJx4497a_init_f633c : MethodName := ⟨RJx4497a, "<init>", "(Z)V"⟩
abbrev cJx4497a_appendTo_00aa9 : ByteArray := prog_52_method_4_code
abbrev yJx4497a_appendTo_00aa9 : MethodName := ⟨RJx4497a, "appendTo", "(DLjava/lang/Appendable;)Ljava/lang/Appendable;"⟩
abbrev cJx4497a_appendDecimalTo_00aa9 : ByteArray := prog_52_method_6_code
abbrev yJx4497a_appendDecimalTo_00aa9 : MethodName := ⟨RJx4497a, "appendDecimalTo", "(DLjava/lang/Appendable;)Ljava/lang/Appendable;"⟩
abbrev cJx4497a_toDecimal_a02bb : ByteArray := prog_52_method_7_code
abbrev yJx4497a_toDecimal_a02bb : MethodName := ⟨RJx4497a, "toDecimal", "(DLjdk/internal/math/FormattedFPDecimal;)I"⟩
abbrev cJx4497a_toDecimal_3416a : ByteArray := prog_52_method_8_code
abbrev yJx4497a_toDecimal_3416a : MethodName := ⟨RJx4497a, "toDecimal", "(IJILjdk/internal/math/FormattedFPDecimal;)I"⟩
abbrev cJx4497a_rop_fb923 : ByteArray := prog_52_method_9_code
abbrev yJx4497a_rop_fb923 : MethodName := ⟨RJx4497a, "rop", "(JJJ)J"⟩
abbrev cJx4497a_toChars_b7021 : ByteArray := prog_52_method_10_code
abbrev yJx4497a_toChars_b7021 : MethodName := ⟨RJx4497a, "toChars", "(JILjdk/internal/math/FormattedFPDecimal;)I"⟩
abbrev cJx4497a_toChars1_7f61f : ByteArray := prog_52_method_11_code
abbrev yJx4497a_toChars1_7f61f : MethodName := ⟨RJx4497a, "toChars1", "(IIII)I"⟩
abbrev cJx4497a_toChars2_7f61f : ByteArray := prog_52_method_12_code
abbrev yJx4497a_toChars2_7f61f : MethodName := ⟨RJx4497a, "toChars2", "(IIII)I"⟩
abbrev cJx4497a_toChars3_7f61f : ByteArray := prog_52_method_13_code
abbrev yJx4497a_toChars3_7f61f : MethodName := ⟨RJx4497a, "toChars3", "(IIII)I"⟩
abbrev cJx4497a_lowDigits_d00df : ByteArray := prog_52_method_14_code
abbrev yJx4497a_lowDigits_d00df : MethodName := ⟨RJx4497a, "lowDigits", "(I)V"⟩
abbrev cJx4497a_append8Digits_d00df : ByteArray := prog_52_method_15_code
abbrev yJx4497a_append8Digits_d00df : MethodName := ⟨RJx4497a, "append8Digits", "(I)V"⟩
abbrev cJx4497a_removeTrailingZeroes_da8c8 : ByteArray := prog_52_method_16_code
abbrev yJx4497a_removeTrailingZeroes_da8c8 : MethodName := ⟨RJx4497a, "removeTrailingZeroes", "()V"⟩
abbrev cJx4497a_y_0f7a4 : ByteArray := prog_52_method_17_code
abbrev yJx4497a_y_0f7a4 : MethodName := ⟨RJx4497a, "y", "(I)I"⟩
abbrev cJx4497a_exponent_d00df : ByteArray := prog_52_method_18_code
abbrev yJx4497a_exponent_d00df : MethodName := ⟨RJx4497a, "exponent", "(I)V"⟩
abbrev cJx4497a_append_d00df : ByteArray := prog_52_method_19_code
abbrev yJx4497a_append_d00df : MethodName := ⟨RJx4497a, "append", "(I)V"⟩
abbrev cJx4497a_appendDigit_d00df : ByteArray := prog_52_method_20_code
abbrev yJx4497a_appendDigit_d00df : MethodName := ⟨RJx4497a, "appendDigit", "(I)V"⟩
abbrev RJx40b00 : String := "jdk/internal/math/FloatToDecimal"
def TJx40b00 : u_T := fun k => match k with
  | 0 => ("jdk/internal/math/FloatToDecimal", "bytes", "[B", true)
  | _ => ("jdk/internal/math/FloatToDecimal", "index", "I", false)
def tyJx40b00 : Nat → FieldType := fun k => match k with
  | 0 => .array .byte
  | _ => .int
theorem nmJx40b00 : ∀ a, a < 2 → ∀ b, b < 2 → a ≠ b → (TJx40b00 a).2.1 ≠ (TJx40b00 b).2.1 := by decide +kernel
theorem tyJx40b00_ok : ∀ k, k < 2 → parseFieldDescriptor (TJx40b00 k).2.2.1 = some (tyJx40b00 k) := by decide +kernel
abbrev cJx40b00_init_da8c8 : ByteArray := prog_53_method_1_code
abbrev yJx40b00_init_da8c8 : MethodName := ⟨RJx40b00, "<init>", "()V"⟩
abbrev cJx40b00_appendTo_8d9f2 : ByteArray := prog_53_method_3_code
abbrev yJx40b00_appendTo_8d9f2 : MethodName := ⟨RJx40b00, "appendTo", "(FLjava/lang/Appendable;)Ljava/lang/Appendable;"⟩
abbrev cJx40b00_appendDecimalTo_8d9f2 : ByteArray := prog_53_method_5_code
abbrev yJx40b00_appendDecimalTo_8d9f2 : MethodName := ⟨RJx40b00, "appendDecimalTo", "(FLjava/lang/Appendable;)Ljava/lang/Appendable;"⟩
abbrev cJx40b00_toDecimal_5c35a : ByteArray := prog_53_method_6_code
abbrev yJx40b00_toDecimal_5c35a : MethodName := ⟨RJx40b00, "toDecimal", "(F)I"⟩
abbrev cJx40b00_toDecimal_cabcc : ByteArray := prog_53_method_7_code
abbrev yJx40b00_toDecimal_cabcc : MethodName := ⟨RJx40b00, "toDecimal", "(III)I"⟩
abbrev cJx40b00_rop_74951 : ByteArray := prog_53_method_8_code
abbrev yJx40b00_rop_74951 : MethodName := ⟨RJx40b00, "rop", "(JJ)I"⟩
abbrev cJx40b00_toChars_7cf53 : ByteArray := prog_53_method_9_code
abbrev yJx40b00_toChars_7cf53 : MethodName := ⟨RJx40b00, "toChars", "(II)I"⟩
abbrev cJx40b00_toChars1_cabcc : ByteArray := prog_53_method_10_code
abbrev yJx40b00_toChars1_cabcc : MethodName := ⟨RJx40b00, "toChars1", "(III)I"⟩
abbrev cJx40b00_toChars2_cabcc : ByteArray := prog_53_method_11_code
abbrev yJx40b00_toChars2_cabcc : MethodName := ⟨RJx40b00, "toChars2", "(III)I"⟩
abbrev cJx40b00_toChars3_cabcc : ByteArray := prog_53_method_12_code
abbrev yJx40b00_toChars3_cabcc : MethodName := ⟨RJx40b00, "toChars3", "(III)I"⟩
abbrev cJx40b00_append8Digits_d00df : ByteArray := prog_53_method_13_code
abbrev yJx40b00_append8Digits_d00df : MethodName := ⟨RJx40b00, "append8Digits", "(I)V"⟩
abbrev cJx40b00_removeTrailingZeroes_da8c8 : ByteArray := prog_53_method_14_code
abbrev yJx40b00_removeTrailingZeroes_da8c8 : MethodName := ⟨RJx40b00, "removeTrailingZeroes", "()V"⟩
abbrev cJx40b00_y_0f7a4 : ByteArray := prog_53_method_15_code
abbrev yJx40b00_y_0f7a4 : MethodName := ⟨RJx40b00, "y", "(I)I"⟩
abbrev cJx40b00_exponent_d00df : ByteArray := prog_53_method_16_code
abbrev yJx40b00_exponent_d00df : MethodName := ⟨RJx40b00, "exponent", "(I)V"⟩
abbrev cJx40b00_append_d00df : ByteArray := prog_53_method_17_code
abbrev yJx40b00_append_d00df : MethodName := ⟨RJx40b00, "append", "(I)V"⟩
abbrev cJx40b00_appendDigit_d00df : ByteArray := prog_53_method_18_code
abbrev yJx40b00_appendDigit_d00df : MethodName := ⟨RJx40b00, "appendDigit", "(I)V"⟩
abbrev RJx5991d : String := "jdk/internal/math/FormattedFPDecimal"
def TJx5991d : u_T := fun k => match k with
  | _ => ("", "", "", false)
def tyJx5991d : Nat → FieldType := fun k => match k with
  | _ => .int
theorem nmJx5991d : ∀ a, a < 0 → ∀ b, b < 0 → a ≠ b → (TJx5991d a).2.1 ≠ (TJx5991d b).2.1 := by decide +kernel
theorem tyJx5991d_ok : ∀ k, k < 0 → parseFieldDescriptor (TJx5991d k).2.2.1 = some (tyJx5991d k) := by decide +kernel
abbrev cJx5991d_set_6c0ba : ByteArray := prog_54_method_3_code
abbrev yJx5991d_set_6c0ba : MethodName := ⟨RJx5991d, "set", "(JII)V"⟩
abbrev RJx25f51 : String := "jdk/internal/math/MathUtils"
def TJx25f51 : u_T := fun k => match k with
  | _ => ("", "", "", false)
def tyJx25f51 : Nat → FieldType := fun k => match k with
  | _ => .int
theorem nmJx25f51 : ∀ a, a < 0 → ∀ b, b < 0 → a ≠ b → (TJx25f51 a).2.1 ≠ (TJx25f51 b).2.1 := by decide +kernel
theorem tyJx25f51_ok : ∀ k, k < 0 → parseFieldDescriptor (TJx25f51 k).2.2.1 = some (tyJx25f51 k) := by decide +kernel
abbrev cJx25f51_pow10_3e8ac : ByteArray := prog_55_method_2_code
abbrev yJx25f51_pow10_3e8ac : MethodName := ⟨RJx25f51, "pow10", "(I)J"⟩
abbrev cJx25f51_flog10pow2_0f7a4 : ByteArray := prog_55_method_3_code
abbrev yJx25f51_flog10pow2_0f7a4 : MethodName := ⟨RJx25f51, "flog10pow2", "(I)I"⟩
abbrev cJx25f51_flog10threeQuartersPow2_0f7a4 : ByteArray := prog_55_method_4_code
abbrev yJx25f51_flog10threeQuartersPow2_0f7a4 : MethodName := ⟨RJx25f51, "flog10threeQuartersPow2", "(I)I"⟩
abbrev cJx25f51_flog2pow10_0f7a4 : ByteArray := prog_55_method_5_code
abbrev yJx25f51_flog2pow10_0f7a4 : MethodName := ⟨RJx25f51, "flog2pow10", "(I)I"⟩
abbrev cJx25f51_g1_3e8ac : ByteArray := prog_55_method_6_code
abbrev yJx25f51_g1_3e8ac : MethodName := ⟨RJx25f51, "g1", "(I)J"⟩
abbrev cJx25f51_g0_3e8ac : ByteArray := prog_55_method_7_code
abbrev yJx25f51_g0_3e8ac : MethodName := ⟨RJx25f51, "g0", "(I)J"⟩
abbrev RJ8 : String := "jdk/internal/util/ArraysSupport"
def TJ8 : u_T := fun k => match k with
  | _ => ("", "", "", false)
def tyJ8 : Nat → FieldType := fun k => match k with
  | _ => .int
theorem nmJ8 : ∀ a, a < 0 → ∀ b, b < 0 → a ≠ b → (TJ8 a).2.1 ≠ (TJ8 b).2.1 := by decide +kernel
theorem tyJ8_ok : ∀ k, k < 0 → parseFieldDescriptor (TJ8 k).2.2.1 = some (tyJ8 k) := by decide +kernel
abbrev cJ8_newLength_cabcc : ByteArray := prog_56_method_27_code
abbrev yJ8_newLength_cabcc : MethodName := ⟨RJ8, "newLength", "(III)I"⟩
abbrev cJ8_hugeLength_7cf53 : ByteArray := prog_56_method_28_code
abbrev yJ8_hugeLength_7cf53 : MethodName := ⟨RJ8, "hugeLength", "(II)I"⟩
abbrev RJ3 : String := "jdk/internal/util/Preconditions"
def TJ3 : u_T := fun k => match k with
  | _ => ("", "", "", false)
def tyJ3 : Nat → FieldType := fun k => match k with
  | _ => .int
theorem nmJ3 : ∀ a, a < 0 → ∀ b, b < 0 → a ≠ b → (TJ3 a).2.1 ≠ (TJ3 b).2.1 := by decide +kernel
theorem tyJ3_ok : ∀ k, k < 0 → parseFieldDescriptor (TJ3 k).2.2.1 = some (tyJ3 k) := by decide +kernel
abbrev cJ3_checkIndex_8e157 : ByteArray := prog_57_method_11_code
abbrev yJ3_checkIndex_8e157 : MethodName := ⟨RJ3, "checkIndex", "(IILjava/util/function/BiFunction;)I"⟩
abbrev cJ3_checkFromToIndex_8c36e : ByteArray := prog_57_method_12_code
abbrev yJ3_checkFromToIndex_8c36e : MethodName := ⟨RJ3, "checkFromToIndex", "(IIILjava/util/function/BiFunction;)I"⟩
abbrev cJ3_checkFromIndexSize_8c36e : ByteArray := prog_57_method_13_code
abbrev yJ3_checkFromIndexSize_8c36e : MethodName := ⟨RJ3, "checkFromIndexSize", "(IIILjava/util/function/BiFunction;)I"⟩
abbrev RL : String := "TileWardenLaw"
abbrev cL_cell : ByteArray := method_2_code
abbrev yL_cell : MethodName := ⟨RL, "cell", "([II)I"⟩
abbrev cL_addPlayer : ByteArray := method_3_code
abbrev yL_addPlayer : MethodName := ⟨RL, "addPlayer", "(LTileWarden;I)I"⟩
abbrev cL_open : ByteArray := method_4_code
abbrev yL_open : MethodName := ⟨RL, "open", "(LTileWarden;II)I"⟩
abbrev cL_push : ByteArray := method_5_code
abbrev yL_push : MethodName := ⟨RL, "push", "(LTileWarden;II)I"⟩
abbrev cL_at : ByteArray := method_6_code
abbrev yL_at : MethodName := ⟨RL, "at", "(LTileWarden;III)I"⟩
abbrev cL_score : ByteArray := method_7_code
abbrev yL_score : MethodName := ⟨RL, "score", "(LTileWarden;I)I"⟩
abbrev cL_pushes : ByteArray := method_8_code
abbrev yL_pushes : MethodName := ⟨RL, "pushes", "(LTileWarden;I)I"⟩
abbrev cL_canPush : ByteArray := method_9_code
abbrev yL_canPush : MethodName := ⟨RL, "canPush", "(LTileWarden;II)I"⟩
abbrev cL_isOver : ByteArray := method_10_code
abbrev yL_isOver : MethodName := ⟨RL, "isOver", "(LTileWarden;I)I"⟩
abbrev cL_price : ByteArray := method_11_code
abbrev yL_price : MethodName := ⟨RL, "price", "(LTileWarden;II)I"⟩
abbrev cL_hint : ByteArray := method_12_code
abbrev yL_hint : MethodName := ⟨RL, "hint", "(LTileWarden;II)I"⟩
abbrev cL_worth : ByteArray := method_13_code
abbrev yL_worth : MethodName := ⟨RL, "worth", "(LTileWarden;II)I"⟩
abbrev cL_money : ByteArray := method_14_code
abbrev yL_money : MethodName := ⟨RL, "money", "(LTileWarden;I)I"⟩
abbrev cL_setRoom : ByteArray := method_15_code
abbrev yL_setRoom : MethodName := ⟨RL, "setRoom", "(LTileWarden;I)I"⟩
abbrev cL_isCached : ByteArray := method_16_code
abbrev yL_isCached : MethodName := ⟨RL, "isCached", "(LTileWarden;II)I"⟩
abbrev cL_pin : ByteArray := method_17_code
abbrev yL_pin : MethodName := ⟨RL, "pin", "(LTileWarden;II)I"⟩
abbrev cL_unpin : ByteArray := method_18_code
abbrev yL_unpin : MethodName := ⟨RL, "unpin", "(LTileWarden;I)I"⟩
abbrev cL_follows : ByteArray := method_19_code
abbrev yL_follows : MethodName := ⟨RL, "follows", "(LTileWarden;I)I"⟩
abbrev cL_setLimit : ByteArray := method_20_code
abbrev yL_setLimit : MethodName := ⟨RL, "setLimit", "(LTileWarden;I)I"⟩
abbrev cL_judge : ByteArray := method_21_code
abbrev yL_judge : MethodName := ⟨RL, "judge", "(LTileWarden;I)I"⟩
abbrev cL_isVoid : ByteArray := method_22_code
abbrev yL_isVoid : MethodName := ⟨RL, "isVoid", "(LTileWarden;I)I"⟩
abbrev cL_playerOf : ByteArray := method_23_code
abbrev yL_playerOf : MethodName := ⟨RL, "playerOf", "(LTileWarden;I)I"⟩
abbrev cL_hitShare : ByteArray := method_25_code
abbrev yL_hitShare : MethodName := ⟨RL, "hitShare", "(LTileWarden;)F"⟩
abbrev cL_meanPrice : ByteArray := method_26_code
abbrev yL_meanPrice : MethodName := ⟨RL, "meanPrice", "(LTileWarden;)D"⟩
abbrev cL_acts : ByteArray := method_27_code
abbrev yL_acts : MethodName := ⟨RL, "acts", "(LTileWarden;ILTileWardenLaw$Draw;)I"⟩
abbrev cL_leads : ByteArray := method_28_code
abbrev yL_leads : MethodName := ⟨RL, "leads", "(LTileWarden;II)I"⟩
abbrev cL_told : ByteArray := method_29_code
abbrev yL_told : MethodName := ⟨RL, "told", "(LTileWarden;)Ljava/lang/String;"⟩
abbrev cL_ordered : ByteArray := method_30_code
abbrev yL_ordered : MethodName := ⟨RL, "ordered", "(LTileWarden;I)Z"⟩
abbrev cL_law : ByteArray := code
abbrev yL_law : MethodName := ⟨RL, "law", "([I)Z"⟩
def lwG : List Cond := lw_tbl.filter goodWord
theorem lwG_good {w : Cond} (h : w ∈ lwG) : goodWord w = true := (List.mem_filter.mp h).2
theorem lwG_tbl {w : Cond} (h : w ∈ lwG) : w ∈ lw_tbl := (List.mem_filter.mp h).1
theorem lwG_of {w : Cond} (h : w ∈ tables_1) (hg : goodWord w = true) : w ∈ lwG := List.mem_filter.mpr ⟨List.mem_append_right _ h, hg⟩
theorem lwG_0 (i : Nat) {w : Cond} (h : (k2_sels lw_privs)[i]? = some w) (hg : goodWord w = true) : w ∈ lwG := List.mem_filter.mpr ⟨List.mem_append_left _ (List.mem_of_getElem? h), hg⟩
theorem lwT_1 (i : Nat) {w : Cond} (h : tables_1_1[i]? = some w) : w ∈ tables_1 := List.mem_append_left _ (List.mem_of_getElem? h)
theorem lwG_1 (i : Nat) {w : Cond} (h : tables_1_1[i]? = some w) (hg : goodWord w = true) : w ∈ lwG := lwG_of (lwT_1 i h) hg
theorem lwT_2 (i : Nat) {w : Cond} (h : tables_1_2[i]? = some w) : w ∈ tables_1 := List.mem_append_right _ (List.mem_append_left _ (List.mem_of_getElem? h))
theorem lwG_2 (i : Nat) {w : Cond} (h : tables_1_2[i]? = some w) (hg : goodWord w = true) : w ∈ lwG := lwG_of (lwT_2 i h) hg
theorem lwT_3 (i : Nat) {w : Cond} (h : tables_1_3[i]? = some w) : w ∈ tables_1 := List.mem_append_right _ (List.mem_append_right _ (List.mem_append_left _ (List.mem_of_getElem? h)))
theorem lwG_3 (i : Nat) {w : Cond} (h : tables_1_3[i]? = some w) (hg : goodWord w = true) : w ∈ lwG := lwG_of (lwT_3 i h) hg
theorem lwT_4 (i : Nat) {w : Cond} (h : tables_1_4[i]? = some w) : w ∈ tables_1 := List.mem_append_right _ (List.mem_append_right _ (List.mem_append_right _ (List.mem_append_left _ (List.mem_of_getElem? h))))
theorem lwG_4 (i : Nat) {w : Cond} (h : tables_1_4[i]? = some w) (hg : goodWord w = true) : w ∈ lwG := lwG_of (lwT_4 i h) hg
theorem lwT_5 (i : Nat) {w : Cond} (h : tables_1_5[i]? = some w) : w ∈ tables_1 := List.mem_append_right _ (List.mem_append_right _ (List.mem_append_right _ (List.mem_append_right _ (List.mem_append_left _ (List.mem_of_getElem? h)))))
theorem lwG_5 (i : Nat) {w : Cond} (h : tables_1_5[i]? = some w) (hg : goodWord w = true) : w ∈ lwG := lwG_of (lwT_5 i h) hg
theorem lwT_6 (i : Nat) {w : Cond} (h : tables_1_6[i]? = some w) : w ∈ tables_1 := List.mem_append_right _ (List.mem_append_right _ (List.mem_append_right _ (List.mem_append_right _ (List.mem_append_right _ (List.mem_append_left _ (List.mem_of_getElem? h))))))
theorem lwG_6 (i : Nat) {w : Cond} (h : tables_1_6[i]? = some w) (hg : goodWord w = true) : w ∈ lwG := lwG_of (lwT_6 i h) hg
theorem lwT_7 (i : Nat) {w : Cond} (h : tables_1_7[i]? = some w) : w ∈ tables_1 := List.mem_append_right _ (List.mem_append_right _ (List.mem_append_right _ (List.mem_append_right _ (List.mem_append_right _ (List.mem_append_right _ (List.mem_append_left _ (List.mem_of_getElem? h)))))))
theorem lwG_7 (i : Nat) {w : Cond} (h : tables_1_7[i]? = some w) (hg : goodWord w = true) : w ∈ lwG := lwG_of (lwT_7 i h) hg
theorem lwT_8 (i : Nat) {w : Cond} (h : tables_1_8[i]? = some w) : w ∈ tables_1 := List.mem_append_right _ (List.mem_append_right _ (List.mem_append_right _ (List.mem_append_right _ (List.mem_append_right _ (List.mem_append_right _ (List.mem_append_right _ (List.mem_of_getElem? h)))))))
theorem lwG_8 (i : Nat) {w : Cond} (h : tables_1_8[i]? = some w) (hg : goodWord w = true) : w ∈ lwG := lwG_of (lwT_8 i h) hg
theorem q0_0 : (Cond.selects "java/lang/Throwable" ⟨"java/lang/Throwable", "fillInStackTrace", "(I)Ljava/lang/Throwable;"⟩ ⟨"java/lang/Throwable", "fillInStackTrace", "(I)Ljava/lang/Throwable;"⟩) ∈ lwG := lwG_0 0 (by decide +kernel) (by decide +kernel)
theorem q0_1 : (Cond.selects "java/util/ArrayList" ⟨"java/util/ArrayList", "add", "(Ljava/lang/Object;[Ljava/lang/Object;I)V"⟩ ⟨"java/util/ArrayList", "add", "(Ljava/lang/Object;[Ljava/lang/Object;I)V"⟩) ∈ lwG := lwG_0 1 (by decide +kernel) (by decide +kernel)
theorem q0_2 : (Cond.selects "java/util/ArrayList" ⟨"java/util/ArrayList", "grow", "()[Ljava/lang/Object;"⟩ ⟨"java/util/ArrayList", "grow", "()[Ljava/lang/Object;"⟩) ∈ lwG := lwG_0 2 (by decide +kernel) (by decide +kernel)
theorem q0_3 : (Cond.selects "java/util/ArrayList" ⟨"java/util/ArrayList", "grow", "(I)[Ljava/lang/Object;"⟩ ⟨"java/util/ArrayList", "grow", "(I)[Ljava/lang/Object;"⟩) ∈ lwG := lwG_0 3 (by decide +kernel) (by decide +kernel)
theorem q0_4 : (Cond.selects "TileWarden" ⟨"TileWarden", "findPlayer", "(I)LTileWarden$Player;"⟩ ⟨"TileWarden", "findPlayer", "(I)LTileWarden$Player;"⟩) ∈ lwG := lwG_0 4 (by decide +kernel) (by decide +kernel)
theorem q0_5 : (Cond.selects "TileWarden" ⟨"TileWarden", "findGame", "(I)LTileWarden$Game;"⟩ ⟨"TileWarden", "findGame", "(I)LTileWarden$Game;"⟩) ∈ lwG := lwG_0 5 (by decide +kernel) (by decide +kernel)
theorem q0_6 : (Cond.selects "TileWarden" ⟨"TileWarden", "isFollowing", "(LTileWarden$Game;I)Z"⟩ ⟨"TileWarden", "isFollowing", "(LTileWarden$Game;I)Z"⟩) ∈ lwG := lwG_0 6 (by decide +kernel) (by decide +kernel)
theorem q0_7 : (Cond.selects "TileWarden" ⟨"TileWarden", "tryHint", "(LTileWarden$Game;I)V"⟩ ⟨"TileWarden", "tryHint", "(LTileWarden$Game;I)V"⟩) ∈ lwG := lwG_0 7 (by decide +kernel) (by decide +kernel)
theorem q0_8 : (Cond.selects "TileWarden$Cache" ⟨"TileWarden$Cache", "dropOldest", "()V"⟩ ⟨"TileWarden$Cache", "dropOldest", "()V"⟩) ∈ lwG := lwG_0 8 (by decide +kernel) (by decide +kernel)
theorem q0_9 : (Cond.selects "TileWarden$Cache" ⟨"TileWarden$Cache", "findFree", "()LTileWarden$Entry;"⟩ ⟨"TileWarden$Cache", "findFree", "()LTileWarden$Entry;"⟩) ∈ lwG := lwG_0 9 (by decide +kernel) (by decide +kernel)
theorem q0_10 : (Cond.selects "TileWarden" ⟨"TileWarden", "sellTriedHint", "(LTileWarden$Game;)V"⟩ ⟨"TileWarden", "sellTriedHint", "(LTileWarden$Game;)V"⟩) ∈ lwG := lwG_0 10 (by decide +kernel) (by decide +kernel)
theorem q0_11 : (Cond.selects "TileWarden" ⟨"TileWarden", "findTrace", "(I)LTileWarden$Trace;"⟩ ⟨"TileWarden", "findTrace", "(I)LTileWarden$Trace;"⟩) ∈ lwG := lwG_0 11 (by decide +kernel) (by decide +kernel)
theorem q0_12 : (Cond.selects "jdk/internal/math/FloatToDecimal" ⟨"jdk/internal/math/FloatToDecimal", "appendDecimalTo", "(FLjava/lang/Appendable;)Ljava/lang/Appendable;"⟩ ⟨"jdk/internal/math/FloatToDecimal", "appendDecimalTo", "(FLjava/lang/Appendable;)Ljava/lang/Appendable;"⟩) ∈ lwG := lwG_0 12 (by decide +kernel) (by decide +kernel)
theorem q0_13 : (Cond.selects "jdk/internal/math/FloatToDecimal" ⟨"jdk/internal/math/FloatToDecimal", "toDecimal", "(F)I"⟩ ⟨"jdk/internal/math/FloatToDecimal", "toDecimal", "(F)I"⟩) ∈ lwG := lwG_0 13 (by decide +kernel) (by decide +kernel)
theorem q0_14 : (Cond.selects "jdk/internal/math/FloatToDecimal" ⟨"jdk/internal/math/FloatToDecimal", "append", "(I)V"⟩ ⟨"jdk/internal/math/FloatToDecimal", "append", "(I)V"⟩) ∈ lwG := lwG_0 14 (by decide +kernel) (by decide +kernel)
theorem q0_15 : (Cond.selects "jdk/internal/math/FloatToDecimal" ⟨"jdk/internal/math/FloatToDecimal", "toChars", "(II)I"⟩ ⟨"jdk/internal/math/FloatToDecimal", "toChars", "(II)I"⟩) ∈ lwG := lwG_0 15 (by decide +kernel) (by decide +kernel)
theorem q0_16 : (Cond.selects "jdk/internal/math/FloatToDecimal" ⟨"jdk/internal/math/FloatToDecimal", "toChars1", "(III)I"⟩ ⟨"jdk/internal/math/FloatToDecimal", "toChars1", "(III)I"⟩) ∈ lwG := lwG_0 16 (by decide +kernel) (by decide +kernel)
theorem q0_17 : (Cond.selects "jdk/internal/math/FloatToDecimal" ⟨"jdk/internal/math/FloatToDecimal", "appendDigit", "(I)V"⟩ ⟨"jdk/internal/math/FloatToDecimal", "appendDigit", "(I)V"⟩) ∈ lwG := lwG_0 17 (by decide +kernel) (by decide +kernel)
theorem q0_18 : (Cond.selects "jdk/internal/math/FloatToDecimal" ⟨"jdk/internal/math/FloatToDecimal", "y", "(I)I"⟩ ⟨"jdk/internal/math/FloatToDecimal", "y", "(I)I"⟩) ∈ lwG := lwG_0 18 (by decide +kernel) (by decide +kernel)
theorem q0_19 : (Cond.selects "jdk/internal/math/FloatToDecimal" ⟨"jdk/internal/math/FloatToDecimal", "removeTrailingZeroes", "()V"⟩ ⟨"jdk/internal/math/FloatToDecimal", "removeTrailingZeroes", "()V"⟩) ∈ lwG := lwG_0 19 (by decide +kernel) (by decide +kernel)
theorem q0_20 : (Cond.selects "jdk/internal/math/FloatToDecimal" ⟨"jdk/internal/math/FloatToDecimal", "toChars2", "(III)I"⟩ ⟨"jdk/internal/math/FloatToDecimal", "toChars2", "(III)I"⟩) ∈ lwG := lwG_0 20 (by decide +kernel) (by decide +kernel)
theorem q0_21 : (Cond.selects "jdk/internal/math/FloatToDecimal" ⟨"jdk/internal/math/FloatToDecimal", "append8Digits", "(I)V"⟩ ⟨"jdk/internal/math/FloatToDecimal", "append8Digits", "(I)V"⟩) ∈ lwG := lwG_0 21 (by decide +kernel) (by decide +kernel)
theorem q0_22 : (Cond.selects "jdk/internal/math/FloatToDecimal" ⟨"jdk/internal/math/FloatToDecimal", "toChars3", "(III)I"⟩ ⟨"jdk/internal/math/FloatToDecimal", "toChars3", "(III)I"⟩) ∈ lwG := lwG_0 22 (by decide +kernel) (by decide +kernel)
theorem q0_23 : (Cond.selects "jdk/internal/math/FloatToDecimal" ⟨"jdk/internal/math/FloatToDecimal", "exponent", "(I)V"⟩ ⟨"jdk/internal/math/FloatToDecimal", "exponent", "(I)V"⟩) ∈ lwG := lwG_0 23 (by decide +kernel) (by decide +kernel)
theorem q0_24 : (Cond.selects "jdk/internal/math/FloatToDecimal" ⟨"jdk/internal/math/FloatToDecimal", "toDecimal", "(III)I"⟩ ⟨"jdk/internal/math/FloatToDecimal", "toDecimal", "(III)I"⟩) ∈ lwG := lwG_0 24 (by decide +kernel) (by decide +kernel)
theorem q0_25 : (Cond.selects "jdk/internal/math/DoubleToDecimal" ⟨"jdk/internal/math/DoubleToDecimal", "appendDecimalTo", "(DLjava/lang/Appendable;)Ljava/lang/Appendable;"⟩ ⟨"jdk/internal/math/DoubleToDecimal", "appendDecimalTo", "(DLjava/lang/Appendable;)Ljava/lang/Appendable;"⟩) ∈ lwG := lwG_0 25 (by decide +kernel) (by decide +kernel)
theorem q0_26 : (Cond.selects "jdk/internal/math/DoubleToDecimal" ⟨"jdk/internal/math/DoubleToDecimal", "toDecimal", "(DLjdk/internal/math/FormattedFPDecimal;)I"⟩ ⟨"jdk/internal/math/DoubleToDecimal", "toDecimal", "(DLjdk/internal/math/FormattedFPDecimal;)I"⟩) ∈ lwG := lwG_0 26 (by decide +kernel) (by decide +kernel)
theorem q0_27 : (Cond.selects "jdk/internal/math/DoubleToDecimal" ⟨"jdk/internal/math/DoubleToDecimal", "append", "(I)V"⟩ ⟨"jdk/internal/math/DoubleToDecimal", "append", "(I)V"⟩) ∈ lwG := lwG_0 27 (by decide +kernel) (by decide +kernel)
theorem q0_28 : (Cond.selects "jdk/internal/math/DoubleToDecimal" ⟨"jdk/internal/math/DoubleToDecimal", "toChars", "(JILjdk/internal/math/FormattedFPDecimal;)I"⟩ ⟨"jdk/internal/math/DoubleToDecimal", "toChars", "(JILjdk/internal/math/FormattedFPDecimal;)I"⟩) ∈ lwG := lwG_0 28 (by decide +kernel) (by decide +kernel)
theorem q0_29 : (Cond.selects "jdk/internal/math/DoubleToDecimal" ⟨"jdk/internal/math/DoubleToDecimal", "toChars1", "(IIII)I"⟩ ⟨"jdk/internal/math/DoubleToDecimal", "toChars1", "(IIII)I"⟩) ∈ lwG := lwG_0 29 (by decide +kernel) (by decide +kernel)
theorem q0_30 : (Cond.selects "jdk/internal/math/DoubleToDecimal" ⟨"jdk/internal/math/DoubleToDecimal", "appendDigit", "(I)V"⟩ ⟨"jdk/internal/math/DoubleToDecimal", "appendDigit", "(I)V"⟩) ∈ lwG := lwG_0 30 (by decide +kernel) (by decide +kernel)
theorem q0_31 : (Cond.selects "jdk/internal/math/DoubleToDecimal" ⟨"jdk/internal/math/DoubleToDecimal", "y", "(I)I"⟩ ⟨"jdk/internal/math/DoubleToDecimal", "y", "(I)I"⟩) ∈ lwG := lwG_0 31 (by decide +kernel) (by decide +kernel)
theorem q0_32 : (Cond.selects "jdk/internal/math/DoubleToDecimal" ⟨"jdk/internal/math/DoubleToDecimal", "lowDigits", "(I)V"⟩ ⟨"jdk/internal/math/DoubleToDecimal", "lowDigits", "(I)V"⟩) ∈ lwG := lwG_0 32 (by decide +kernel) (by decide +kernel)
theorem q0_33 : (Cond.selects "jdk/internal/math/DoubleToDecimal" ⟨"jdk/internal/math/DoubleToDecimal", "append8Digits", "(I)V"⟩ ⟨"jdk/internal/math/DoubleToDecimal", "append8Digits", "(I)V"⟩) ∈ lwG := lwG_0 33 (by decide +kernel) (by decide +kernel)
theorem q0_34 : (Cond.selects "jdk/internal/math/DoubleToDecimal" ⟨"jdk/internal/math/DoubleToDecimal", "removeTrailingZeroes", "()V"⟩ ⟨"jdk/internal/math/DoubleToDecimal", "removeTrailingZeroes", "()V"⟩) ∈ lwG := lwG_0 34 (by decide +kernel) (by decide +kernel)
theorem q0_35 : (Cond.selects "jdk/internal/math/DoubleToDecimal" ⟨"jdk/internal/math/DoubleToDecimal", "toChars2", "(IIII)I"⟩ ⟨"jdk/internal/math/DoubleToDecimal", "toChars2", "(IIII)I"⟩) ∈ lwG := lwG_0 35 (by decide +kernel) (by decide +kernel)
theorem q0_36 : (Cond.selects "jdk/internal/math/DoubleToDecimal" ⟨"jdk/internal/math/DoubleToDecimal", "toChars3", "(IIII)I"⟩ ⟨"jdk/internal/math/DoubleToDecimal", "toChars3", "(IIII)I"⟩) ∈ lwG := lwG_0 36 (by decide +kernel) (by decide +kernel)
theorem q0_37 : (Cond.selects "jdk/internal/math/DoubleToDecimal" ⟨"jdk/internal/math/DoubleToDecimal", "exponent", "(I)V"⟩ ⟨"jdk/internal/math/DoubleToDecimal", "exponent", "(I)V"⟩) ∈ lwG := lwG_0 37 (by decide +kernel) (by decide +kernel)
theorem q0_38 : (Cond.selects "jdk/internal/math/DoubleToDecimal" ⟨"jdk/internal/math/DoubleToDecimal", "toDecimal", "(IJILjdk/internal/math/FormattedFPDecimal;)I"⟩ ⟨"jdk/internal/math/DoubleToDecimal", "toDecimal", "(IJILjdk/internal/math/FormattedFPDecimal;)I"⟩) ∈ lwG := lwG_0 38 (by decide +kernel) (by decide +kernel)
theorem q0_39 : (Cond.selects "TileWarden" ⟨"TileWarden", "areEntriesRight", "()Z"⟩ ⟨"TileWarden", "areEntriesRight", "()Z"⟩) ∈ lwG := lwG_0 39 (by decide +kernel) (by decide +kernel)
theorem q0_40 : (Cond.selects "TileWarden" ⟨"TileWarden", "isFoundPlainly", "(LTileWarden$Entry;)Z"⟩ ⟨"TileWarden", "isFoundPlainly", "(LTileWarden$Entry;)Z"⟩) ∈ lwG := lwG_0 40 (by decide +kernel) (by decide +kernel)
theorem q0_41 : (Cond.selects "TileWarden" ⟨"TileWarden", "areRefundsRight", "()Z"⟩ ⟨"TileWarden", "areRefundsRight", "()Z"⟩) ∈ lwG := lwG_0 41 (by decide +kernel) (by decide +kernel)
theorem q0_42 : (Cond.selects "TileWarden" ⟨"TileWarden", "arePursesRight", "()Z"⟩ ⟨"TileWarden", "arePursesRight", "()Z"⟩) ∈ lwG := lwG_0 42 (by decide +kernel) (by decide +kernel)
theorem q0_43 : (Cond.selects "TileWarden" ⟨"TileWarden", "paidForGood", "(LTileWarden$Player;)I"⟩ ⟨"TileWarden", "paidForGood", "(LTileWarden$Player;)I"⟩) ∈ lwG := lwG_0 43 (by decide +kernel) (by decide +kernel)
theorem q1_0 : (Jvm.Cond.initialized "TileWardenLaw") ∈ lwG := lwG_1 0 (by decide +kernel) (by decide +kernel)
theorem q1_1 : (Jvm.Cond.initialized "TileWarden") ∈ lwG := lwG_1 1 (by decide +kernel) (by decide +kernel)
theorem q1_2 : (Jvm.Cond.initialized "java/util/AbstractCollection") ∈ lwG := lwG_1 2 (by decide +kernel) (by decide +kernel)
theorem q1_3 : (Jvm.Cond.initialized "java/util/AbstractList") ∈ lwG := lwG_1 3 (by decide +kernel) (by decide +kernel)
theorem q1_4 : (Jvm.Cond.initialized "java/util/ArrayList") ∈ lwG := lwG_1 4 (by decide +kernel) (by decide +kernel)
theorem q1_5 : (Jvm.Cond.initialized "TileWarden$Cache") ∈ lwG := lwG_1 5 (by decide +kernel) (by decide +kernel)
theorem q1_6 : (Jvm.Cond.initialized "java/lang/Math") ∈ lwG := lwG_1 6 (by decide +kernel) (by decide +kernel)
theorem q1_7 : (Jvm.Cond.initialized "TileWarden$Entry") ∈ lwG := lwG_1 7 (by decide +kernel) (by decide +kernel)
theorem q1_8 : (Jvm.Cond.initialized "TileWarden$Search") ∈ lwG := lwG_1 8 (by decide +kernel) (by decide +kernel)
theorem q1_9 : (Jvm.Cond.initialized "java/lang/Throwable") ∈ lwG := lwG_1 9 (by decide +kernel) (by decide +kernel)
theorem q1_10 : (Jvm.Cond.initialized "java/lang/Exception") ∈ lwG := lwG_1 10 (by decide +kernel) (by decide +kernel)
theorem q1_11 : (Jvm.Cond.initialized "java/lang/RuntimeException") ∈ lwG := lwG_1 11 (by decide +kernel) (by decide +kernel)
theorem q1_12 : (Jvm.Cond.initialized "java/lang/IllegalArgumentException") ∈ lwG := lwG_1 12 (by decide +kernel) (by decide +kernel)
theorem q1_13 : (Jvm.Cond.initialized "java/lang/IllegalStateException") ∈ lwG := lwG_1 13 (by decide +kernel) (by decide +kernel)
theorem q1_14 : (Jvm.Cond.initialized "TileWarden$Player") ∈ lwG := lwG_1 14 (by decide +kernel) (by decide +kernel)
theorem q1_15 : (Jvm.Cond.initialized "jdk/internal/util/ArraysSupport") ∈ lwG := lwG_1 15 (by decide +kernel) (by decide +kernel)
theorem q1_16 : (Jvm.Cond.initialized "java/util/Arrays") ∈ lwG := lwG_1 16 (by decide +kernel) (by decide +kernel)
theorem q1_17 : (Jvm.Cond.initialized "java/lang/System") ∈ lwG := lwG_1 17 (by decide +kernel) (by decide +kernel)
theorem q1_18 : (Jvm.Cond.initialized "java/lang/IndexOutOfBoundsException") ∈ lwG := lwG_1 18 (by decide +kernel) (by decide +kernel)
theorem q1_19 : (Jvm.Cond.initialized "java/lang/ArrayIndexOutOfBoundsException") ∈ lwG := lwG_1 19 (by decide +kernel) (by decide +kernel)
theorem q1_20 : (Jvm.Cond.initialized "java/lang/String") ∈ lwG := lwG_1 20 (by decide +kernel) (by decide +kernel)
theorem q1_21 : (Jvm.Cond.initialized "java/util/Objects") ∈ lwG := lwG_1 21 (by decide +kernel) (by decide +kernel)
theorem q1_22 : (Jvm.Cond.initialized "jdk/internal/util/Preconditions") ∈ lwG := lwG_1 22 (by decide +kernel) (by decide +kernel)
theorem q1_23 : (Jvm.Cond.initialized "TileWarden$Game") ∈ lwG := lwG_1 23 (by decide +kernel) (by decide +kernel)
theorem q1_24 : (Jvm.Cond.initialized "TileWarden$Boards") ∈ lwG := lwG_1 24 (by decide +kernel) (by decide +kernel)
theorem q1_25 : (Jvm.Cond.initialized "java/lang/UnsupportedOperationException") ∈ lwG := lwG_1 25 (by decide +kernel) (by decide +kernel)
theorem q1_26 : (Jvm.Cond.initialized "java/util/NoSuchElementException") ∈ lwG := lwG_1 26 (by decide +kernel) (by decide +kernel)
theorem q1_27 : (Jvm.Cond.initialized "TileWarden$Trace") ∈ lwG := lwG_1 27 (by decide +kernel) (by decide +kernel)
theorem q1_28 : (Jvm.Cond.initialized "java/lang/ArithmeticException") ∈ lwG := lwG_1 28 (by decide +kernel) (by decide +kernel)
theorem q1_29 : (Jvm.Cond.initialized "TileWardenLaw$Draw") ∈ lwG := lwG_1 29 (by decide +kernel) (by decide +kernel)
theorem q1_30 : (Jvm.Cond.initialized "java/lang/AbstractStringBuilder") ∈ lwG := lwG_1 30 (by decide +kernel) (by decide +kernel)
theorem q1_31 : (Jvm.Cond.initialized "java/lang/StringBuilder") ∈ lwG := lwG_1 31 (by decide +kernel) (by decide +kernel)
theorem q1_32 : (Jvm.Cond.initialized "java/lang/StringUTF16") ∈ lwG := lwG_1 32 (by decide +kernel) (by decide +kernel)
theorem q1_33 : (Jvm.Cond.initialized "java/lang/Number") ∈ lwG := lwG_1 33 (by decide +kernel) (by decide +kernel)
theorem q1_34 : (Jvm.Cond.initialized "java/lang/Integer") ∈ lwG := lwG_1 34 (by decide +kernel) (by decide +kernel)
theorem q1_35 : (Jvm.Cond.initialized "java/lang/StringLatin1") ∈ lwG := lwG_1 35 (by decide +kernel) (by decide +kernel)
theorem q1_36 : (Jvm.Cond.initialized "java/lang/Long") ∈ lwG := lwG_1 36 (by decide +kernel) (by decide +kernel)
theorem q1_37 : (Jvm.Cond.initialized "jdk/internal/math/FloatToDecimal") ∈ lwG := lwG_1 37 (by decide +kernel) (by decide +kernel)
theorem q1_38 : (Jvm.Cond.initialized "java/lang/Float") ∈ lwG := lwG_1 38 (by decide +kernel) (by decide +kernel)
theorem q1_39 : (Jvm.Cond.initialized "jdk/internal/math/MathUtils") ∈ lwG := lwG_1 39 (by decide +kernel) (by decide +kernel)
theorem q1_40 : (Jvm.Cond.initialized "jdk/internal/math/DoubleToDecimal") ∈ lwG := lwG_1 40 (by decide +kernel) (by decide +kernel)
theorem q1_41 : (Jvm.Cond.initialized "java/lang/Double") ∈ lwG := lwG_1 41 (by decide +kernel) (by decide +kernel)
theorem q1_42 : (Jvm.Cond.classLink "TileWardenLaw" (9 : Nat) "TileWarden") ∈ lwG := lwG_1 42 (by decide +kernel) (by decide +kernel)
theorem q1_43 : (Jvm.Cond.instantiable "TileWarden" (12 : Nat)) ∈ lwG := lwG_1 43 (by decide +kernel) (by decide +kernel)
theorem q1_44 : (Jvm.Cond.methodLink "TileWardenLaw" (202 : Nat) ({ cls := "TileWarden", name := "<init>", desc := "()V" } : Jvm.MethodName)) ∈ lwG := lwG_1 44 (by decide +kernel) (by decide +kernel)
theorem q1_45 : (Jvm.Cond.instanceMethod ({ cls := "TileWarden", name := "<init>", desc := "()V" } : Jvm.MethodName)) ∈ lwG := lwG_1 45 (by decide +kernel) (by decide +kernel)
theorem q1_46 : (Jvm.Cond.code ({ cls := "TileWarden", name := "<init>", desc := "()V" } : Jvm.MethodName) prog_1_method_1_code (1 : Nat) (Option.none : Option Jvm.ClassFile.FieldType)) ∈ lwG := lwG_1 46 (by decide +kernel) (by decide +kernel)
theorem q1_47 : (Jvm.Cond.methodLink "TileWarden" (1 : Nat) ({ cls := "java/lang/Object", name := "<init>", desc := "()V" } : Jvm.MethodName)) ∈ lwG := lwG_1 47 (by decide +kernel) (by decide +kernel)
theorem q1_48 : (Jvm.Cond.instanceMethod ({ cls := "java/lang/Object", name := "<init>", desc := "()V" } : Jvm.MethodName)) ∈ lwG := lwG_1 48 (by decide +kernel) (by decide +kernel)
theorem q1_49 : (Jvm.Cond.code ({ cls := "java/lang/Object", name := "<init>", desc := "()V" } : Jvm.MethodName) object_method_1_code (1 : Nat) (Option.none : Option Jvm.ClassFile.FieldType)) ∈ lwG := lwG_1 49 (by decide +kernel) (by decide +kernel)
theorem q1_50 : (Jvm.Cond.classLink "TileWarden" (7 : Nat) "java/util/ArrayList") ∈ lwG := lwG_1 50 (by decide +kernel) (by decide +kernel)
theorem q1_51 : (Jvm.Cond.instantiable "java/util/ArrayList" (3 : Nat)) ∈ lwG := lwG_1 51 (by decide +kernel) (by decide +kernel)
theorem q1_52 : (Jvm.Cond.methodLink "TileWarden" (9 : Nat) ({ cls := "java/util/ArrayList", name := "<init>", desc := "()V" } : Jvm.MethodName)) ∈ lwG := lwG_1 52 (by decide +kernel) (by decide +kernel)
theorem q1_53 : (Jvm.Cond.instanceMethod ({ cls := "java/util/ArrayList", name := "<init>", desc := "()V" } : Jvm.MethodName)) ∈ lwG := lwG_1 53 (by decide +kernel) (by decide +kernel)
theorem q1_54 : (Jvm.Cond.code ({ cls := "java/util/ArrayList", name := "<init>", desc := "()V" } : Jvm.MethodName) prog_44_method_2_code (1 : Nat) (Option.none : Option Jvm.ClassFile.FieldType)) ∈ lwG := lwG_1 54 (by decide +kernel) (by decide +kernel)
theorem q1_55 : (Jvm.Cond.methodLink "java/util/ArrayList" (1 : Nat) ({ cls := "java/util/AbstractList", name := "<init>", desc := "()V" } : Jvm.MethodName)) ∈ lwG := lwG_1 55 (by decide +kernel) (by decide +kernel)
theorem q1_56 : (Jvm.Cond.instanceMethod ({ cls := "java/util/AbstractList", name := "<init>", desc := "()V" } : Jvm.MethodName)) ∈ lwG := lwG_1 56 (by decide +kernel) (by decide +kernel)
theorem q1_57 : (Jvm.Cond.code ({ cls := "java/util/AbstractList", name := "<init>", desc := "()V" } : Jvm.MethodName) prog_43_method_1_code (1 : Nat) (Option.none : Option Jvm.ClassFile.FieldType)) ∈ lwG := lwG_1 57 (by decide +kernel) (by decide +kernel)
theorem q1_58 : (Jvm.Cond.methodLink "java/util/AbstractList" (1 : Nat) ({ cls := "java/util/AbstractCollection", name := "<init>", desc := "()V" } : Jvm.MethodName)) ∈ lwG := lwG_1 58 (by decide +kernel) (by decide +kernel)
theorem q1_59 : (Jvm.Cond.instanceMethod ({ cls := "java/util/AbstractCollection", name := "<init>", desc := "()V" } : Jvm.MethodName)) ∈ lwG := lwG_1 59 (by decide +kernel) (by decide +kernel)
theorem q1_60 : (Jvm.Cond.code ({ cls := "java/util/AbstractCollection", name := "<init>", desc := "()V" } : Jvm.MethodName) prog_42_method_1_code (1 : Nat) (Option.none : Option Jvm.ClassFile.FieldType)) ∈ lwG := lwG_1 60 (by decide +kernel) (by decide +kernel)
theorem q1_61 : (Jvm.Cond.methodLink "java/util/AbstractCollection" (1 : Nat) ({ cls := "java/lang/Object", name := "<init>", desc := "()V" } : Jvm.MethodName)) ∈ lwG := lwG_1 61 (by decide +kernel) (by decide +kernel)
theorem q1_62 : (Jvm.Cond.fieldLink "java/util/ArrayList" (39 : Nat) "java/util/ArrayList" "DEFAULTCAPACITY_EMPTY_ELEMENTDATA" "[Ljava/lang/Object;") ∈ lwG := lwG_1 62 (by decide +kernel) (by decide +kernel)
theorem q1_63 : (Jvm.Cond.laysStatic "java/util/ArrayList" "DEFAULTCAPACITY_EMPTY_ELEMENTDATA" "[Ljava/lang/Object;") ∈ tables_1 := lwT_1 63 (by decide +kernel)
theorem q1_64 : (Jvm.Cond.fieldLink "java/util/ArrayList" (9 : Nat) "java/util/ArrayList" "elementData" "[Ljava/lang/Object;") ∈ lwG := lwG_1 64 (by decide +kernel) (by decide +kernel)
theorem q1_65 : (Jvm.Cond.fieldLink "java/util/ArrayList" (48 : Nat) "java/util/ArrayList" "size" "I") ∈ lwG := lwG_1 65 (by decide +kernel) (by decide +kernel)
theorem q1_66 : (Jvm.Cond.fieldLink "java/util/AbstractList" (7 : Nat) "java/util/AbstractList" "modCount" "I") ∈ lwG := lwG_1 66 (by decide +kernel) (by decide +kernel)
theorem q1_67 : (Jvm.Cond.fieldLink "java/util/ArrayList" (63 : Nat) "java/util/ArrayList" "modCount" "I") ∈ lwG := lwG_1 67 (by decide +kernel) (by decide +kernel)
theorem q1_68 : (Jvm.Cond.sameField "java/util/ArrayList" "java/util/AbstractList" "modCount" "I") ∈ lwG := lwG_1 68 (by decide +kernel) (by decide +kernel)
theorem q1_69 : (Jvm.Cond.lays "java/util/ArrayList" "java/util/ArrayList" "elementData" "[Ljava/lang/Object;") ∈ lwG := lwG_1 69 (by decide +kernel) (by decide +kernel)
theorem q1_70 : (Jvm.Cond.soleField "java/util/ArrayList" "elementData") ∈ tables_1 := lwT_1 70 (by decide +kernel)
theorem q1_71 : (Jvm.Cond.lays "java/util/ArrayList" "java/util/ArrayList" "size" "I") ∈ lwG := lwG_1 71 (by decide +kernel) (by decide +kernel)
theorem q1_72 : (Jvm.Cond.soleField "java/util/ArrayList" "size") ∈ tables_1 := lwT_1 72 (by decide +kernel)
theorem q1_73 : (Jvm.Cond.lays "java/util/ArrayList" "java/util/AbstractList" "modCount" "I") ∈ lwG := lwG_1 73 (by decide +kernel) (by decide +kernel)
theorem q1_74 : (Jvm.Cond.soleField "java/util/AbstractList" "modCount") ∈ tables_1 := lwT_1 74 (by decide +kernel)
theorem q1_75 : (Jvm.Cond.superclass "java/util/ArrayList" "java/util/AbstractList") ∈ lwG := lwG_1 75 (by decide +kernel) (by decide +kernel)
theorem q1_76 : (Jvm.Cond.classLink "TileWarden" (22 : Nat) "TileWarden$Cache") ∈ lwG := lwG_1 76 (by decide +kernel) (by decide +kernel)
theorem q1_77 : (Jvm.Cond.instantiable "TileWarden$Cache" (4 : Nat)) ∈ lwG := lwG_1 77 (by decide +kernel) (by decide +kernel)
theorem q1_78 : (Jvm.Cond.methodLink "TileWarden" (24 : Nat) ({ cls := "TileWarden$Cache", name := "<init>", desc := "(I)V" } : Jvm.MethodName)) ∈ lwG := lwG_1 78 (by decide +kernel) (by decide +kernel)
theorem q1_79 : (Jvm.Cond.instanceMethod ({ cls := "TileWarden$Cache", name := "<init>", desc := "(I)V" } : Jvm.MethodName)) ∈ lwG := lwG_1 79 (by decide +kernel) (by decide +kernel)
theorem q1_80 : (Jvm.Cond.code ({ cls := "TileWarden$Cache", name := "<init>", desc := "(I)V" } : Jvm.MethodName) prog_3_method_1_code (3 : Nat) (Option.none : Option Jvm.ClassFile.FieldType)) ∈ lwG := lwG_1 80 (by decide +kernel) (by decide +kernel)
theorem q1_81 : (Jvm.Cond.methodLink "TileWarden$Cache" (3 : Nat) ({ cls := "java/lang/Object", name := "<init>", desc := "()V" } : Jvm.MethodName)) ∈ lwG := lwG_1 81 (by decide +kernel) (by decide +kernel)
theorem q1_82 : (Jvm.Cond.methodLink "TileWarden$Cache" (21 : Nat) ({ cls := "java/lang/Math", name := "max", desc := "(II)I" } : Jvm.MethodName)) ∈ lwG := lwG_1 82 (by decide +kernel) (by decide +kernel)
theorem q1_83 : (Jvm.Cond.static ({ cls := "java/lang/Math", name := "max", desc := "(II)I" } : Jvm.MethodName)) ∈ lwG := lwG_1 83 (by decide +kernel) (by decide +kernel)
theorem q1_84 : (Jvm.Cond.code ({ cls := "java/lang/Math", name := "max", desc := "(II)I" } : Jvm.MethodName) prog_29_method_65_code (2 : Nat) (Option.some Jvm.ClassFile.FieldType.int)) ∈ lwG := lwG_1 84 (by decide +kernel) (by decide +kernel)
theorem q1_85 : (Jvm.Cond.classLink "TileWarden$Cache" (27 : Nat) "TileWarden$Entry") ∈ lwG := lwG_1 85 (by decide +kernel) (by decide +kernel)
theorem q1_86 : (Jvm.Cond.arrayOver (Jvm.ClassFile.FieldType.object "TileWarden$Entry")) ∈ tables_1 := lwT_1 86 (by decide +kernel)
theorem q1_87 : (Jvm.Cond.instantiable "TileWarden$Entry" (7 : Nat)) ∈ lwG := lwG_1 87 (by decide +kernel) (by decide +kernel)
theorem q1_88 : (Jvm.Cond.methodLinkNest "TileWarden$Cache" (33 : Nat) ({ cls := "TileWarden$Entry", name := "<init>", desc := "()V" } : Jvm.MethodName) "TileWarden") ∈ tables_1 := lwT_1 88 (by decide +kernel)
theorem q1_89 : (Jvm.Cond.instanceMethod ({ cls := "TileWarden$Entry", name := "<init>", desc := "()V" } : Jvm.MethodName)) ∈ lwG := lwG_1 89 (by decide +kernel) (by decide +kernel)
theorem q1_90 : (Jvm.Cond.code ({ cls := "TileWarden$Entry", name := "<init>", desc := "()V" } : Jvm.MethodName) prog_4_method_1_code (1 : Nat) (Option.none : Option Jvm.ClassFile.FieldType)) ∈ lwG := lwG_1 90 (by decide +kernel) (by decide +kernel)
theorem q1_91 : (Jvm.Cond.methodLink "TileWarden$Entry" (3 : Nat) ({ cls := "java/lang/Object", name := "<init>", desc := "()V" } : Jvm.MethodName)) ∈ lwG := lwG_1 91 (by decide +kernel) (by decide +kernel)
theorem q1_92 : (Jvm.Cond.fieldLink "TileWarden$Entry" (11 : Nat) "TileWarden$Entry" "board" "J") ∈ lwG := lwG_1 92 (by decide +kernel) (by decide +kernel)
theorem q1_93 : (Jvm.Cond.fieldLink "TileWarden$Cache" (52 : Nat) "TileWarden$Entry" "board" "J") ∈ lwG := lwG_1 93 (by decide +kernel) (by decide +kernel)
theorem q1_94 : (Jvm.Cond.fieldLink "TileWarden" (342 : Nat) "TileWarden$Entry" "board" "J") ∈ lwG := lwG_1 94 (by decide +kernel) (by decide +kernel)
theorem q1_95 : (Jvm.Cond.fieldLink "TileWarden$Entry" (17 : Nat) "TileWarden$Entry" "z" "I") ∈ lwG := lwG_1 95 (by decide +kernel) (by decide +kernel)
theorem q1_96 : (Jvm.Cond.fieldLink "TileWarden$Cache" (56 : Nat) "TileWarden$Entry" "z" "I") ∈ lwG := lwG_1 96 (by decide +kernel) (by decide +kernel)
theorem q1_97 : (Jvm.Cond.fieldLink "TileWarden" (343 : Nat) "TileWarden$Entry" "z" "I") ∈ lwG := lwG_1 97 (by decide +kernel) (by decide +kernel)
theorem q1_98 : (Jvm.Cond.fieldLink "TileWarden$Entry" (21 : Nat) "TileWarden$Entry" "depth" "I") ∈ lwG := lwG_1 98 (by decide +kernel) (by decide +kernel)
theorem q1_99 : (Jvm.Cond.fieldLink "TileWarden$Cache" (59 : Nat) "TileWarden$Entry" "depth" "I") ∈ lwG := lwG_1 99 (by decide +kernel) (by decide +kernel)
theorem q1_100 : (Jvm.Cond.fieldLink "TileWarden" (344 : Nat) "TileWarden$Entry" "depth" "I") ∈ lwG := lwG_1 100 (by decide +kernel) (by decide +kernel)
theorem q1_101 : (Jvm.Cond.fieldLink "TileWarden$Entry" (24 : Nat) "TileWarden$Entry" "worth" "I") ∈ lwG := lwG_1 101 (by decide +kernel) (by decide +kernel)
theorem q1_102 : (Jvm.Cond.fieldLink "TileWarden$Cache" (62 : Nat) "TileWarden$Entry" "worth" "I") ∈ lwG := lwG_1 102 (by decide +kernel) (by decide +kernel)
theorem q1_103 : (Jvm.Cond.fieldLink "TileWarden" (306 : Nat) "TileWarden$Entry" "worth" "I") ∈ lwG := lwG_1 103 (by decide +kernel) (by decide +kernel)
theorem q1_104 : (Jvm.Cond.fieldLink "TileWarden$Entry" (27 : Nat) "TileWarden$Entry" "push" "I") ∈ lwG := lwG_1 104 (by decide +kernel) (by decide +kernel)
theorem q1_105 : (Jvm.Cond.fieldLink "TileWarden$Cache" (65 : Nat) "TileWarden$Entry" "push" "I") ∈ lwG := lwG_1 105 (by decide +kernel) (by decide +kernel)
theorem q1_106 : (Jvm.Cond.fieldLink "TileWarden" (305 : Nat) "TileWarden$Entry" "push" "I") ∈ lwG := lwG_1 106 (by decide +kernel) (by decide +kernel)
theorem q1_107 : (Jvm.Cond.fieldLink "TileWarden$Entry" (30 : Nat) "TileWarden$Entry" "lastUse" "I") ∈ lwG := lwG_1 107 (by decide +kernel) (by decide +kernel)
theorem q1_108 : (Jvm.Cond.fieldLink "TileWarden$Cache" (42 : Nat) "TileWarden$Entry" "lastUse" "I") ∈ lwG := lwG_1 108 (by decide +kernel) (by decide +kernel)
theorem q1_109 : (Jvm.Cond.fieldLink "TileWarden$Entry" (33 : Nat) "TileWarden$Entry" "pins" "I") ∈ lwG := lwG_1 109 (by decide +kernel) (by decide +kernel)
theorem q1_110 : (Jvm.Cond.fieldLink "TileWarden$Cache" (71 : Nat) "TileWarden$Entry" "pins" "I") ∈ lwG := lwG_1 110 (by decide +kernel) (by decide +kernel)
theorem q1_111 : (Jvm.Cond.fieldLink "TileWarden" (216 : Nat) "TileWarden$Entry" "pins" "I") ∈ lwG := lwG_1 111 (by decide +kernel) (by decide +kernel)
theorem q1_112 : (Jvm.Cond.lays "TileWarden$Entry" "TileWarden$Entry" "board" "J") ∈ lwG := lwG_1 112 (by decide +kernel) (by decide +kernel)
theorem q1_113 : (Jvm.Cond.soleField "TileWarden$Entry" "board") ∈ tables_1 := lwT_1 113 (by decide +kernel)
theorem q1_114 : (Jvm.Cond.lays "TileWarden$Entry" "TileWarden$Entry" "z" "I") ∈ lwG := lwG_1 114 (by decide +kernel) (by decide +kernel)
theorem q1_115 : (Jvm.Cond.soleField "TileWarden$Entry" "z") ∈ tables_1 := lwT_1 115 (by decide +kernel)
theorem q1_116 : (Jvm.Cond.lays "TileWarden$Entry" "TileWarden$Entry" "depth" "I") ∈ lwG := lwG_1 116 (by decide +kernel) (by decide +kernel)
theorem q1_117 : (Jvm.Cond.soleField "TileWarden$Entry" "depth") ∈ tables_1 := lwT_1 117 (by decide +kernel)
theorem q1_118 : (Jvm.Cond.lays "TileWarden$Entry" "TileWarden$Entry" "worth" "I") ∈ lwG := lwG_1 118 (by decide +kernel) (by decide +kernel)
theorem q1_119 : (Jvm.Cond.soleField "TileWarden$Entry" "worth") ∈ tables_1 := lwT_1 119 (by decide +kernel)
theorem q1_120 : (Jvm.Cond.lays "TileWarden$Entry" "TileWarden$Entry" "push" "I") ∈ lwG := lwG_1 120 (by decide +kernel) (by decide +kernel)
theorem q1_121 : (Jvm.Cond.soleField "TileWarden$Entry" "push") ∈ tables_1 := lwT_1 121 (by decide +kernel)
theorem q1_122 : (Jvm.Cond.lays "TileWarden$Entry" "TileWarden$Entry" "lastUse" "I") ∈ lwG := lwG_1 122 (by decide +kernel) (by decide +kernel)
theorem q1_123 : (Jvm.Cond.soleField "TileWarden$Entry" "lastUse") ∈ tables_1 := lwT_1 123 (by decide +kernel)
theorem q1_124 : (Jvm.Cond.lays "TileWarden$Entry" "TileWarden$Entry" "pins" "I") ∈ lwG := lwG_1 124 (by decide +kernel) (by decide +kernel)
theorem q1_125 : (Jvm.Cond.soleField "TileWarden$Entry" "pins") ∈ tables_1 := lwT_1 125 (by decide +kernel)
theorem q1_126 : (Jvm.Cond.superclass "TileWarden$Entry" "java/lang/Object") ∈ lwG := lwG_1 126 (by decide +kernel) (by decide +kernel)
theorem q1_127 : (Jvm.Cond.fieldLink "TileWarden$Cache" (29 : Nat) "TileWarden$Cache" "slots" "[LTileWarden$Entry;") ∈ lwG := lwG_1 127 (by decide +kernel) (by decide +kernel)
theorem q1_128 : (Jvm.Cond.fieldLink "TileWarden" (331 : Nat) "TileWarden$Cache" "slots" "[LTileWarden$Entry;") ∈ lwG := lwG_1 128 (by decide +kernel) (by decide +kernel)
theorem q1_129 : (Jvm.Cond.fieldLink "TileWarden$Cache" (9 : Nat) "TileWarden$Cache" "count" "I") ∈ lwG := lwG_1 129 (by decide +kernel) (by decide +kernel)
theorem q1_130 : (Jvm.Cond.fieldLink "TileWarden" (205 : Nat) "TileWarden$Cache" "count" "I") ∈ lwG := lwG_1 130 (by decide +kernel) (by decide +kernel)
theorem q1_131 : (Jvm.Cond.fieldLink "TileWarden$Cache" (15 : Nat) "TileWarden$Cache" "room" "I") ∈ lwG := lwG_1 131 (by decide +kernel) (by decide +kernel)
theorem q1_132 : (Jvm.Cond.fieldLink "TileWarden$Cache" (18 : Nat) "TileWarden$Cache" "uses" "I") ∈ lwG := lwG_1 132 (by decide +kernel) (by decide +kernel)
theorem q1_133 : (Jvm.Cond.laysFinal "TileWarden$Cache" "TileWarden$Cache" "slots" "[LTileWarden$Entry;") ∈ lwG := lwG_1 133 (by decide +kernel) (by decide +kernel)
theorem q1_134 : (Jvm.Cond.soleField "TileWarden$Cache" "slots") ∈ tables_1 := lwT_1 134 (by decide +kernel)
theorem q1_135 : (Jvm.Cond.lays "TileWarden$Cache" "TileWarden$Cache" "count" "I") ∈ lwG := lwG_1 135 (by decide +kernel) (by decide +kernel)
theorem q1_136 : (Jvm.Cond.soleField "TileWarden$Cache" "count") ∈ tables_1 := lwT_1 136 (by decide +kernel)
theorem q1_137 : (Jvm.Cond.lays "TileWarden$Cache" "TileWarden$Cache" "room" "I") ∈ lwG := lwG_1 137 (by decide +kernel) (by decide +kernel)
theorem q1_138 : (Jvm.Cond.soleField "TileWarden$Cache" "room") ∈ tables_1 := lwT_1 138 (by decide +kernel)
theorem q1_139 : (Jvm.Cond.lays "TileWarden$Cache" "TileWarden$Cache" "uses" "I") ∈ lwG := lwG_1 139 (by decide +kernel) (by decide +kernel)
theorem q1_140 : (Jvm.Cond.soleField "TileWarden$Cache" "uses") ∈ tables_1 := lwT_1 140 (by decide +kernel)
theorem q1_141 : (Jvm.Cond.superclass "TileWarden$Cache" "java/lang/Object") ∈ lwG := lwG_1 141 (by decide +kernel) (by decide +kernel)
theorem q1_142 : (Jvm.Cond.classLink "TileWarden" (31 : Nat) "TileWarden$Search") ∈ lwG := lwG_1 142 (by decide +kernel) (by decide +kernel)
theorem q1_143 : (Jvm.Cond.instantiable "TileWarden$Search" (4 : Nat)) ∈ lwG := lwG_1 143 (by decide +kernel) (by decide +kernel)
theorem q1_144 : (Jvm.Cond.methodLink "TileWarden" (33 : Nat) ({ cls := "TileWarden$Search", name := "<init>", desc := "(LTileWarden$Cache;)V" } : Jvm.MethodName)) ∈ lwG := lwG_1 144 (by decide +kernel) (by decide +kernel)
theorem q1_145 : (Jvm.Cond.instanceMethod ({ cls := "TileWarden$Search", name := "<init>", desc := "(LTileWarden$Cache;)V" } : Jvm.MethodName)) ∈ lwG := lwG_1 145 (by decide +kernel) (by decide +kernel)
theorem q1_146 : (Jvm.Cond.code ({ cls := "TileWarden$Search", name := "<init>", desc := "(LTileWarden$Cache;)V" } : Jvm.MethodName) prog_7_method_1_code (2 : Nat) (Option.none : Option Jvm.ClassFile.FieldType)) ∈ lwG := lwG_1 146 (by decide +kernel) (by decide +kernel)
theorem q1_147 : (Jvm.Cond.methodLink "TileWarden$Search" (3 : Nat) ({ cls := "java/lang/Object", name := "<init>", desc := "()V" } : Jvm.MethodName)) ∈ lwG := lwG_1 147 (by decide +kernel) (by decide +kernel)
theorem q1_148 : (Jvm.Cond.fieldLink "TileWarden$Search" (21 : Nat) "TileWarden$Search" "cache" "LTileWarden$Cache;") ∈ lwG := lwG_1 148 (by decide +kernel) (by decide +kernel)
theorem q1_149 : (Jvm.Cond.fieldLink "TileWarden" (286 : Nat) "TileWarden$Search" "cache" "LTileWarden$Cache;") ∈ lwG := lwG_1 149 (by decide +kernel) (by decide +kernel)
theorem q1_150 : (Jvm.Cond.fieldLink "TileWarden$Search" (9 : Nat) "TileWarden$Search" "hits" "I") ∈ lwG := lwG_1 150 (by decide +kernel) (by decide +kernel)
theorem q1_151 : (Jvm.Cond.fieldLink "TileWarden" (295 : Nat) "TileWarden$Search" "hits" "I") ∈ lwG := lwG_1 151 (by decide +kernel) (by decide +kernel)
theorem q1_152 : (Jvm.Cond.fieldLink "TileWarden$Search" (15 : Nat) "TileWarden$Search" "misses" "I") ∈ lwG := lwG_1 152 (by decide +kernel) (by decide +kernel)
theorem q1_153 : (Jvm.Cond.fieldLink "TileWarden" (298 : Nat) "TileWarden$Search" "misses" "I") ∈ lwG := lwG_1 153 (by decide +kernel) (by decide +kernel)
theorem q1_154 : (Jvm.Cond.fieldLink "TileWarden$Search" (18 : Nat) "TileWarden$Search" "push" "I") ∈ lwG := lwG_1 154 (by decide +kernel) (by decide +kernel)
theorem q1_155 : (Jvm.Cond.fieldLink "TileWarden" (185 : Nat) "TileWarden$Search" "push" "I") ∈ lwG := lwG_1 155 (by decide +kernel) (by decide +kernel)
theorem q1_156 : (Jvm.Cond.laysFinal "TileWarden$Search" "TileWarden$Search" "cache" "LTileWarden$Cache;") ∈ lwG := lwG_1 156 (by decide +kernel) (by decide +kernel)
theorem q1_157 : (Jvm.Cond.soleField "TileWarden$Search" "cache") ∈ tables_1 := lwT_1 157 (by decide +kernel)
theorem q1_158 : (Jvm.Cond.lays "TileWarden$Search" "TileWarden$Search" "hits" "I") ∈ lwG := lwG_1 158 (by decide +kernel) (by decide +kernel)
theorem q1_159 : (Jvm.Cond.soleField "TileWarden$Search" "hits") ∈ tables_1 := lwT_1 159 (by decide +kernel)
theorem q1_160 : (Jvm.Cond.lays "TileWarden$Search" "TileWarden$Search" "misses" "I") ∈ lwG := lwG_1 160 (by decide +kernel) (by decide +kernel)
theorem q1_161 : (Jvm.Cond.soleField "TileWarden$Search" "misses") ∈ tables_1 := lwT_1 161 (by decide +kernel)
theorem q1_162 : (Jvm.Cond.lays "TileWarden$Search" "TileWarden$Search" "push" "I") ∈ lwG := lwG_1 162 (by decide +kernel) (by decide +kernel)
theorem q1_163 : (Jvm.Cond.soleField "TileWarden$Search" "push") ∈ tables_1 := lwT_1 163 (by decide +kernel)
theorem q1_164 : (Jvm.Cond.superclass "TileWarden$Search" "java/lang/Object") ∈ lwG := lwG_1 164 (by decide +kernel) (by decide +kernel)
theorem q1_165 : (Jvm.Cond.fieldLink "TileWarden" (10 : Nat) "TileWarden" "players" "Ljava/util/ArrayList;") ∈ lwG := lwG_1 165 (by decide +kernel) (by decide +kernel)
theorem q1_166 : (Jvm.Cond.fieldLink "TileWarden" (16 : Nat) "TileWarden" "games" "Ljava/util/ArrayList;") ∈ lwG := lwG_1 166 (by decide +kernel) (by decide +kernel)
theorem q1_167 : (Jvm.Cond.fieldLink "TileWarden" (19 : Nat) "TileWarden" "traces" "Ljava/util/ArrayList;") ∈ lwG := lwG_1 167 (by decide +kernel) (by decide +kernel)
theorem q1_168 : (Jvm.Cond.fieldLink "TileWarden" (27 : Nat) "TileWarden" "cache" "LTileWarden$Cache;") ∈ lwG := lwG_1 168 (by decide +kernel) (by decide +kernel)
theorem q1_169 : (Jvm.Cond.fieldLink "TileWarden" (36 : Nat) "TileWarden" "trial" "LTileWarden$Search;") ∈ lwG := lwG_1 169 (by decide +kernel) (by decide +kernel)
theorem q1_170 : (Jvm.Cond.fieldLink "TileWarden" (40 : Nat) "TileWarden" "plain" "LTileWarden$Search;") ∈ lwG := lwG_1 170 (by decide +kernel) (by decide +kernel)
theorem q1_171 : (Jvm.Cond.fieldLink "TileWarden" (43 : Nat) "TileWarden" "limit" "I") ∈ lwG := lwG_1 171 (by decide +kernel) (by decide +kernel)
theorem q1_172 : (Jvm.Cond.fieldLink "TileWarden" (47 : Nat) "TileWarden" "refunds" "J") ∈ lwG := lwG_1 172 (by decide +kernel) (by decide +kernel)
theorem q1_173 : (Jvm.Cond.fieldLink "TileWarden" (51 : Nat) "TileWarden" "soldHints" "J") ∈ lwG := lwG_1 173 (by decide +kernel) (by decide +kernel)
theorem q1_174 : (Jvm.Cond.fieldLink "TileWarden" (54 : Nat) "TileWarden" "soldPrices" "J") ∈ lwG := lwG_1 174 (by decide +kernel) (by decide +kernel)
theorem q1_175 : (Jvm.Cond.fieldLink "TileWarden" (57 : Nat) "TileWarden" "soldHits" "J") ∈ lwG := lwG_1 175 (by decide +kernel) (by decide +kernel)
theorem q1_176 : (Jvm.Cond.fieldLink "TileWarden" (60 : Nat) "TileWarden" "soldMisses" "J") ∈ lwG := lwG_1 176 (by decide +kernel) (by decide +kernel)
theorem q1_177 : (Jvm.Cond.laysFinal "TileWarden" "TileWarden" "players" "Ljava/util/ArrayList;") ∈ lwG := lwG_1 177 (by decide +kernel) (by decide +kernel)
theorem q1_178 : (Jvm.Cond.soleField "TileWarden" "players") ∈ tables_1 := lwT_1 178 (by decide +kernel)
theorem q1_179 : (Jvm.Cond.laysFinal "TileWarden" "TileWarden" "games" "Ljava/util/ArrayList;") ∈ lwG := lwG_1 179 (by decide +kernel) (by decide +kernel)
theorem q1_180 : (Jvm.Cond.soleField "TileWarden" "games") ∈ tables_1 := lwT_1 180 (by decide +kernel)
theorem q1_181 : (Jvm.Cond.laysFinal "TileWarden" "TileWarden" "traces" "Ljava/util/ArrayList;") ∈ lwG := lwG_1 181 (by decide +kernel) (by decide +kernel)
theorem q1_182 : (Jvm.Cond.soleField "TileWarden" "traces") ∈ tables_1 := lwT_1 182 (by decide +kernel)
theorem q1_183 : (Jvm.Cond.laysFinal "TileWarden" "TileWarden" "cache" "LTileWarden$Cache;") ∈ lwG := lwG_1 183 (by decide +kernel) (by decide +kernel)
theorem q1_184 : (Jvm.Cond.soleField "TileWarden" "cache") ∈ tables_1 := lwT_1 184 (by decide +kernel)
theorem q1_185 : (Jvm.Cond.laysFinal "TileWarden" "TileWarden" "trial" "LTileWarden$Search;") ∈ lwG := lwG_1 185 (by decide +kernel) (by decide +kernel)
theorem q1_186 : (Jvm.Cond.soleField "TileWarden" "trial") ∈ tables_1 := lwT_1 186 (by decide +kernel)
theorem q1_187 : (Jvm.Cond.laysFinal "TileWarden" "TileWarden" "plain" "LTileWarden$Search;") ∈ lwG := lwG_1 187 (by decide +kernel) (by decide +kernel)
theorem q1_188 : (Jvm.Cond.soleField "TileWarden" "plain") ∈ tables_1 := lwT_1 188 (by decide +kernel)
theorem q1_189 : (Jvm.Cond.lays "TileWarden" "TileWarden" "limit" "I") ∈ lwG := lwG_1 189 (by decide +kernel) (by decide +kernel)
theorem q1_190 : (Jvm.Cond.soleField "TileWarden" "limit") ∈ tables_1 := lwT_1 190 (by decide +kernel)
theorem q1_191 : (Jvm.Cond.lays "TileWarden" "TileWarden" "refunds" "J") ∈ lwG := lwG_1 191 (by decide +kernel) (by decide +kernel)
theorem q1_192 : (Jvm.Cond.soleField "TileWarden" "refunds") ∈ tables_1 := lwT_1 192 (by decide +kernel)
theorem q1_193 : (Jvm.Cond.lays "TileWarden" "TileWarden" "soldHints" "J") ∈ lwG := lwG_1 193 (by decide +kernel) (by decide +kernel)
theorem q1_194 : (Jvm.Cond.soleField "TileWarden" "soldHints") ∈ tables_1 := lwT_1 194 (by decide +kernel)
theorem q1_195 : (Jvm.Cond.lays "TileWarden" "TileWarden" "soldPrices" "J") ∈ lwG := lwG_1 195 (by decide +kernel) (by decide +kernel)
theorem q1_196 : (Jvm.Cond.soleField "TileWarden" "soldPrices") ∈ tables_1 := lwT_1 196 (by decide +kernel)
theorem q1_197 : (Jvm.Cond.lays "TileWarden" "TileWarden" "soldHits" "J") ∈ lwG := lwG_1 197 (by decide +kernel) (by decide +kernel)
theorem q1_198 : (Jvm.Cond.soleField "TileWarden" "soldHits") ∈ tables_1 := lwT_1 198 (by decide +kernel)
theorem q1_199 : (Jvm.Cond.lays "TileWarden" "TileWarden" "soldMisses" "J") ∈ lwG := lwG_1 199 (by decide +kernel) (by decide +kernel)
theorem q1_200 : (Jvm.Cond.soleField "TileWarden" "soldMisses") ∈ tables_1 := lwT_1 200 (by decide +kernel)
theorem q1_201 : (Jvm.Cond.superclass "TileWarden" "java/lang/Object") ∈ lwG := lwG_1 201 (by decide +kernel) (by decide +kernel)
theorem q1_202 : (Jvm.Cond.methodLink "TileWardenLaw" (143 : Nat) ({ cls := "TileWarden", name := "entries", desc := "()I" } : Jvm.MethodName)) ∈ lwG := lwG_1 202 (by decide +kernel) (by decide +kernel)
theorem q1_203 : (Jvm.Cond.instanceMethod ({ cls := "TileWarden", name := "entries", desc := "()I" } : Jvm.MethodName)) ∈ lwG := lwG_1 203 (by decide +kernel) (by decide +kernel)
theorem q1_204 : (Jvm.Cond.selects "TileWarden" ({ cls := "TileWarden", name := "entries", desc := "()I" } : Jvm.MethodName) ({ cls := "TileWarden", name := "entries", desc := "()I" } : Jvm.MethodName)) ∈ lwG := lwG_1 204 (by decide +kernel) (by decide +kernel)
theorem q1_205 : (Jvm.Cond.code ({ cls := "TileWarden", name := "entries", desc := "()I" } : Jvm.MethodName) prog_1_method_15_code (1 : Nat) (Option.some Jvm.ClassFile.FieldType.int)) ∈ lwG := lwG_1 205 (by decide +kernel) (by decide +kernel)
theorem q1_206 : (Jvm.Cond.methodLink "TileWardenLaw" (157 : Nat) ({ cls := "TileWarden", name := "traces", desc := "()I" } : Jvm.MethodName)) ∈ lwG := lwG_1 206 (by decide +kernel) (by decide +kernel)
theorem q1_207 : (Jvm.Cond.instanceMethod ({ cls := "TileWarden", name := "traces", desc := "()I" } : Jvm.MethodName)) ∈ lwG := lwG_1 207 (by decide +kernel) (by decide +kernel)
theorem q1_208 : (Jvm.Cond.selects "TileWarden" ({ cls := "TileWarden", name := "traces", desc := "()I" } : Jvm.MethodName) ({ cls := "TileWarden", name := "traces", desc := "()I" } : Jvm.MethodName)) ∈ lwG := lwG_1 208 (by decide +kernel) (by decide +kernel)
theorem q1_209 : (Jvm.Cond.code ({ cls := "TileWarden", name := "traces", desc := "()I" } : Jvm.MethodName) prog_1_method_24_code (1 : Nat) (Option.some Jvm.ClassFile.FieldType.int)) ∈ lwG := lwG_1 209 (by decide +kernel) (by decide +kernel)
theorem q1_210 : (Jvm.Cond.methodLink "TileWarden" (70 : Nat) ({ cls := "java/util/ArrayList", name := "size", desc := "()I" } : Jvm.MethodName)) ∈ lwG := lwG_1 210 (by decide +kernel) (by decide +kernel)
theorem q1_211 : (Jvm.Cond.instanceMethod ({ cls := "java/util/ArrayList", name := "size", desc := "()I" } : Jvm.MethodName)) ∈ lwG := lwG_1 211 (by decide +kernel) (by decide +kernel)
theorem q1_212 : (Jvm.Cond.selects "java/util/ArrayList" ({ cls := "java/util/ArrayList", name := "size", desc := "()I" } : Jvm.MethodName) ({ cls := "java/util/ArrayList", name := "size", desc := "()I" } : Jvm.MethodName)) ∈ lwG := lwG_1 212 (by decide +kernel) (by decide +kernel)
theorem q1_213 : (Jvm.Cond.code ({ cls := "java/util/ArrayList", name := "size", desc := "()I" } : Jvm.MethodName) prog_44_method_8_code (1 : Nat) (Option.some Jvm.ClassFile.FieldType.int)) ∈ lwG := lwG_1 213 (by decide +kernel) (by decide +kernel)
theorem q1_214 : (Jvm.Cond.methodLink "TileWardenLaw" (160 : Nat) ({ cls := "TileWarden", name := "refunds", desc := "()J" } : Jvm.MethodName)) ∈ lwG := lwG_1 214 (by decide +kernel) (by decide +kernel)
theorem q1_215 : (Jvm.Cond.instanceMethod ({ cls := "TileWarden", name := "refunds", desc := "()J" } : Jvm.MethodName)) ∈ lwG := lwG_1 215 (by decide +kernel) (by decide +kernel)
theorem q1_216 : (Jvm.Cond.selects "TileWarden" ({ cls := "TileWarden", name := "refunds", desc := "()J" } : Jvm.MethodName) ({ cls := "TileWarden", name := "refunds", desc := "()J" } : Jvm.MethodName)) ∈ lwG := lwG_1 216 (by decide +kernel) (by decide +kernel)
theorem q1_217 : (Jvm.Cond.code ({ cls := "TileWarden", name := "refunds", desc := "()J" } : Jvm.MethodName) prog_1_method_27_code (1 : Nat) (Option.some Jvm.ClassFile.FieldType.long)) ∈ lwG := lwG_1 217 (by decide +kernel) (by decide +kernel)
theorem q1_218 : (Jvm.Cond.classLink "TileWardenLaw" (105 : Nat) "TileWardenLaw$Draw") ∈ lwG := lwG_1 218 (by decide +kernel) (by decide +kernel)
theorem q1_219 : (Jvm.Cond.instantiable "TileWardenLaw$Draw" (1 : Nat)) ∈ lwG := lwG_1 219 (by decide +kernel) (by decide +kernel)
theorem q1_220 : (Jvm.Cond.methodLink "TileWardenLaw" (211 : Nat) ({ cls := "TileWardenLaw$Draw", name := "<init>", desc := "(I)V" } : Jvm.MethodName)) ∈ lwG := lwG_1 220 (by decide +kernel) (by decide +kernel)
theorem q1_221 : (Jvm.Cond.instanceMethod ({ cls := "TileWardenLaw$Draw", name := "<init>", desc := "(I)V" } : Jvm.MethodName)) ∈ lwG := lwG_1 221 (by decide +kernel) (by decide +kernel)
theorem q1_222 : (Jvm.Cond.code ({ cls := "TileWardenLaw$Draw", name := "<init>", desc := "(I)V" } : Jvm.MethodName) prog_10_method_1_code (2 : Nat) (Option.none : Option Jvm.ClassFile.FieldType)) ∈ lwG := lwG_1 222 (by decide +kernel) (by decide +kernel)
theorem q1_223 : (Jvm.Cond.methodLink "TileWardenLaw$Draw" (1 : Nat) ({ cls := "java/lang/Object", name := "<init>", desc := "()V" } : Jvm.MethodName)) ∈ lwG := lwG_1 223 (by decide +kernel) (by decide +kernel)
theorem q1_224 : (Jvm.Cond.constant "TileWardenLaw$Draw" (7 : Nat) (48271 : Int32)) ∈ lwG := lwG_1 224 (by decide +kernel) (by decide +kernel)
theorem q1_225 : (Jvm.Cond.fieldLink "TileWardenLaw$Draw" (8 : Nat) "TileWardenLaw$Draw" "state" "I") ∈ lwG := lwG_1 225 (by decide +kernel) (by decide +kernel)
theorem q1_226 : (Jvm.Cond.lays "TileWardenLaw$Draw" "TileWardenLaw$Draw" "state" "I") ∈ lwG := lwG_1 226 (by decide +kernel) (by decide +kernel)
theorem q1_227 : (Jvm.Cond.soleField "TileWardenLaw$Draw" "state") ∈ tables_1 := lwT_1 227 (by decide +kernel)
theorem q1_228 : (Jvm.Cond.superclass "TileWardenLaw$Draw" "java/lang/Object") ∈ lwG := lwG_1 228 (by decide +kernel) (by decide +kernel)
theorem q1_229 : (Jvm.Cond.methodLink "TileWardenLaw" (104 : Nat) ({ cls := "TileWardenLaw$Draw", name := "next", desc := "(I)I" } : Jvm.MethodName)) ∈ lwG := lwG_1 229 (by decide +kernel) (by decide +kernel)
theorem q1_230 : (Jvm.Cond.instanceMethod ({ cls := "TileWardenLaw$Draw", name := "next", desc := "(I)I" } : Jvm.MethodName)) ∈ lwG := lwG_1 230 (by decide +kernel) (by decide +kernel)
theorem q1_231 : (Jvm.Cond.selects "TileWardenLaw$Draw" ({ cls := "TileWardenLaw$Draw", name := "next", desc := "(I)I" } : Jvm.MethodName) ({ cls := "TileWardenLaw$Draw", name := "next", desc := "(I)I" } : Jvm.MethodName)) ∈ lwG := lwG_1 231 (by decide +kernel) (by decide +kernel)
theorem q1_232 : (Jvm.Cond.code ({ cls := "TileWardenLaw$Draw", name := "next", desc := "(I)I" } : Jvm.MethodName) prog_10_method_2_code (2 : Nat) (Option.some Jvm.ClassFile.FieldType.int)) ∈ lwG := lwG_1 232 (by decide +kernel) (by decide +kernel)
theorem q1_233 : (Jvm.Cond.constant "TileWardenLaw$Draw" (14 : Nat) (1103515245 : Int32)) ∈ lwG := lwG_1 233 (by decide +kernel) (by decide +kernel)
theorem q1_234 : (Jvm.Cond.methodLink "TileWardenLaw$Draw" (15 : Nat) ({ cls := "java/lang/Math", name := "max", desc := "(II)I" } : Jvm.MethodName)) ∈ lwG := lwG_1 234 (by decide +kernel) (by decide +kernel)
theorem q1_235 : (Jvm.Cond.methodLink "TileWardenLaw" (207 : Nat) ({ cls := "TileWardenLaw", name := "cell", desc := "([II)I" } : Jvm.MethodName)) ∈ lwG := lwG_1 235 (by decide +kernel) (by decide +kernel)
theorem q1_236 : (Jvm.Cond.static ({ cls := "TileWardenLaw", name := "cell", desc := "([II)I" } : Jvm.MethodName)) ∈ lwG := lwG_1 236 (by decide +kernel) (by decide +kernel)
theorem q1_237 : (Jvm.Cond.code ({ cls := "TileWardenLaw", name := "cell", desc := "([II)I" } : Jvm.MethodName) method_2_code (2 : Nat) (Option.some Jvm.ClassFile.FieldType.int)) ∈ lwG := lwG_1 237 (by decide +kernel) (by decide +kernel)
theorem q1_238 : (Jvm.Cond.constant "TileWardenLaw" (7 : Nat) (65535 : Int32)) ∈ lwG := lwG_1 238 (by decide +kernel) (by decide +kernel)
theorem q1_239 : (Jvm.Cond.methodLink "TileWardenLaw" (203 : Nat) ({ cls := "TileWardenLaw", name := "addPlayer", desc := "(LTileWarden;I)I" } : Jvm.MethodName)) ∈ lwG := lwG_1 239 (by decide +kernel) (by decide +kernel)
theorem q2_0 : (Jvm.Cond.static ({ cls := "TileWardenLaw", name := "addPlayer", desc := "(LTileWarden;I)I" } : Jvm.MethodName)) ∈ lwG := lwG_2 0 (by decide +kernel) (by decide +kernel)
theorem q2_1 : (Jvm.Cond.codeWith ({ cls := "TileWardenLaw", name := "addPlayer", desc := "(LTileWarden;I)I" } : Jvm.MethodName) method_3_code (3 : Nat) (Option.some Jvm.ClassFile.FieldType.int) [((0 : Nat), (5 : Nat), (6 : Nat), (14 : Nat)), ((0 : Nat), (5 : Nat), (9 : Nat), (16 : Nat))]) ∈ lwG := lwG_2 1 (by decide +kernel) (by decide +kernel)
theorem q2_2 : (Jvm.Cond.classLink "TileWardenLaw" (14 : Nat) "java/lang/IllegalArgumentException") ∈ lwG := lwG_2 2 (by decide +kernel) (by decide +kernel)
theorem q2_3 : (Jvm.Cond.classLink "TileWardenLaw" (16 : Nat) "java/lang/IllegalStateException") ∈ lwG := lwG_2 3 (by decide +kernel) (by decide +kernel)
theorem q2_4 : (Jvm.Cond.methodLink "TileWardenLaw" (8 : Nat) ({ cls := "TileWarden", name := "addPlayer", desc := "(I)I" } : Jvm.MethodName)) ∈ lwG := lwG_2 4 (by decide +kernel) (by decide +kernel)
theorem q2_5 : (Jvm.Cond.instanceMethod ({ cls := "TileWarden", name := "addPlayer", desc := "(I)I" } : Jvm.MethodName)) ∈ lwG := lwG_2 5 (by decide +kernel) (by decide +kernel)
theorem q2_6 : (Jvm.Cond.selects "TileWarden" ({ cls := "TileWarden", name := "addPlayer", desc := "(I)I" } : Jvm.MethodName) ({ cls := "TileWarden", name := "addPlayer", desc := "(I)I" } : Jvm.MethodName)) ∈ lwG := lwG_2 6 (by decide +kernel) (by decide +kernel)
theorem q2_7 : (Jvm.Cond.code ({ cls := "TileWarden", name := "addPlayer", desc := "(I)I" } : Jvm.MethodName) prog_1_method_2_code (2 : Nat) (Option.some Jvm.ClassFile.FieldType.int)) ∈ lwG := lwG_2 7 (by decide +kernel) (by decide +kernel)
theorem q2_8 : (Jvm.Cond.classLink "TileWarden" (63 : Nat) "java/lang/IllegalArgumentException") ∈ lwG := lwG_2 8 (by decide +kernel) (by decide +kernel)
theorem q2_9 : (Jvm.Cond.instantiable "java/lang/IllegalArgumentException" (6 : Nat)) ∈ lwG := lwG_2 9 (by decide +kernel) (by decide +kernel)
theorem q2_10 : (Jvm.Cond.castable "java/lang/IllegalArgumentException" "java/lang/IllegalArgumentException") ∈ tables_1 := lwT_2 10 (by decide +kernel)
theorem q2_11 : (Jvm.Cond.declares ({ cls := "java/lang/RuntimeException", name := "<init>", desc := "()V" } : Jvm.MethodName)) ∈ tables_1 := lwT_2 11 (by decide +kernel)
theorem q2_12 : (Jvm.Cond.declares ({ cls := "java/lang/RuntimeException", name := "<init>", desc := "(Ljava/lang/String;)V" } : Jvm.MethodName)) ∈ tables_1 := lwT_2 12 (by decide +kernel)
theorem q2_13 : (Jvm.Cond.declares ({ cls := "java/lang/Exception", name := "<init>", desc := "()V" } : Jvm.MethodName)) ∈ tables_1 := lwT_2 13 (by decide +kernel)
theorem q2_14 : (Jvm.Cond.declares ({ cls := "java/lang/Exception", name := "<init>", desc := "(Ljava/lang/String;)V" } : Jvm.MethodName)) ∈ tables_1 := lwT_2 14 (by decide +kernel)
theorem q2_15 : (Jvm.Cond.declares ({ cls := "java/lang/Throwable", name := "<init>", desc := "()V" } : Jvm.MethodName)) ∈ tables_1 := lwT_2 15 (by decide +kernel)
theorem q2_16 : (Jvm.Cond.declares ({ cls := "java/lang/Throwable", name := "<init>", desc := "(Ljava/lang/String;)V" } : Jvm.MethodName)) ∈ tables_1 := lwT_2 16 (by decide +kernel)
theorem q2_17 : (Jvm.Cond.selects "java/lang/IllegalArgumentException" ({ cls := "java/lang/Throwable", name := "fillInStackTrace", desc := "(I)Ljava/lang/Throwable;" } : Jvm.MethodName) ({ cls := "java/lang/Throwable", name := "fillInStackTrace", desc := "(I)Ljava/lang/Throwable;" } : Jvm.MethodName)) ∈ lwG := lwG_2 17 (by decide +kernel) (by decide +kernel)
theorem q2_18 : (Jvm.Cond.selects "java/lang/IllegalArgumentException" ({ cls := "java/lang/Throwable", name := "fillInStackTrace", desc := "()Ljava/lang/Throwable;" } : Jvm.MethodName) ({ cls := "java/lang/Throwable", name := "fillInStackTrace", desc := "()Ljava/lang/Throwable;" } : Jvm.MethodName)) ∈ lwG := lwG_2 18 (by decide +kernel) (by decide +kernel)
theorem q2_19 : (Jvm.Cond.lays "java/lang/IllegalArgumentException" "java/lang/Throwable" "cause" "Ljava/lang/Throwable;") ∈ lwG := lwG_2 19 (by decide +kernel) (by decide +kernel)
theorem q2_20 : (Jvm.Cond.lays "java/lang/Throwable" "java/lang/Throwable" "cause" "Ljava/lang/Throwable;") ∈ lwG := lwG_2 20 (by decide +kernel) (by decide +kernel)
theorem q2_21 : (Jvm.Cond.lays "java/lang/IllegalArgumentException" "java/lang/Throwable" "stackTrace" "[Ljava/lang/StackTraceElement;") ∈ lwG := lwG_2 21 (by decide +kernel) (by decide +kernel)
theorem q2_22 : (Jvm.Cond.lays "java/lang/Throwable" "java/lang/Throwable" "stackTrace" "[Ljava/lang/StackTraceElement;") ∈ lwG := lwG_2 22 (by decide +kernel) (by decide +kernel)
theorem q2_23 : (Jvm.Cond.lays "java/lang/IllegalArgumentException" "java/lang/Throwable" "suppressedExceptions" "Ljava/util/List;") ∈ lwG := lwG_2 23 (by decide +kernel) (by decide +kernel)
theorem q2_24 : (Jvm.Cond.lays "java/lang/Throwable" "java/lang/Throwable" "suppressedExceptions" "Ljava/util/List;") ∈ lwG := lwG_2 24 (by decide +kernel) (by decide +kernel)
theorem q2_25 : (Jvm.Cond.lays "java/lang/IllegalArgumentException" "java/lang/Throwable" "detailMessage" "Ljava/lang/String;") ∈ lwG := lwG_2 25 (by decide +kernel) (by decide +kernel)
theorem q2_26 : (Jvm.Cond.lays "java/lang/Throwable" "java/lang/Throwable" "detailMessage" "Ljava/lang/String;") ∈ lwG := lwG_2 26 (by decide +kernel) (by decide +kernel)
theorem q2_27 : (Jvm.Cond.lays "java/lang/IllegalArgumentException" "java/lang/Throwable" "backtrace" "Ljava/lang/Object;") ∈ lwG := lwG_2 27 (by decide +kernel) (by decide +kernel)
theorem q2_28 : (Jvm.Cond.lays "java/lang/Throwable" "java/lang/Throwable" "backtrace" "Ljava/lang/Object;") ∈ lwG := lwG_2 28 (by decide +kernel) (by decide +kernel)
theorem q2_29 : (Jvm.Cond.fieldLink "java/lang/Throwable" (198 : Nat) "java/lang/Throwable" "backtrace" "Ljava/lang/Object;") ∈ lwG := lwG_2 29 (by decide +kernel) (by decide +kernel)
theorem q2_30 : (Jvm.Cond.superclass "java/lang/Throwable" "java/lang/Object") ∈ lwG := lwG_2 30 (by decide +kernel) (by decide +kernel)
theorem q2_31 : (Jvm.Cond.instanceMethod ({ cls := "java/lang/Throwable", name := "<init>", desc := "()V" } : Jvm.MethodName)) ∈ lwG := lwG_2 31 (by decide +kernel) (by decide +kernel)
theorem q2_32 : (Jvm.Cond.code ({ cls := "java/lang/Throwable", name := "<init>", desc := "()V" } : Jvm.MethodName) prog_38_method_1_code (1 : Nat) (Option.none : Option Jvm.ClassFile.FieldType)) ∈ lwG := lwG_2 32 (by decide +kernel) (by decide +kernel)
theorem q2_33 : (Jvm.Cond.methodLink "java/lang/Throwable" (1 : Nat) ({ cls := "java/lang/Object", name := "<init>", desc := "()V" } : Jvm.MethodName)) ∈ lwG := lwG_2 33 (by decide +kernel) (by decide +kernel)
theorem q2_34 : (Jvm.Cond.fieldLink "java/lang/Throwable" (13 : Nat) "java/lang/Throwable" "UNASSIGNED_STACK" "[Ljava/lang/StackTraceElement;") ∈ lwG := lwG_2 34 (by decide +kernel) (by decide +kernel)
theorem q2_35 : (Jvm.Cond.laysStatic "java/lang/Throwable" "UNASSIGNED_STACK" "[Ljava/lang/StackTraceElement;") ∈ tables_1 := lwT_2 35 (by decide +kernel)
theorem q2_36 : (Jvm.Cond.fieldLink "java/lang/Throwable" (20 : Nat) "java/lang/Throwable" "SUPPRESSED_SENTINEL" "Ljava/util/List;") ∈ lwG := lwG_2 36 (by decide +kernel) (by decide +kernel)
theorem q2_37 : (Jvm.Cond.laysStatic "java/lang/Throwable" "SUPPRESSED_SENTINEL" "Ljava/util/List;") ∈ tables_1 := lwT_2 37 (by decide +kernel)
theorem q2_38 : (Jvm.Cond.methodLink "java/lang/Throwable" (27 : Nat) ({ cls := "java/lang/Throwable", name := "fillInStackTrace", desc := "()Ljava/lang/Throwable;" } : Jvm.MethodName)) ∈ lwG := lwG_2 38 (by decide +kernel) (by decide +kernel)
theorem q2_39 : (Jvm.Cond.instanceMethod ({ cls := "java/lang/Throwable", name := "fillInStackTrace", desc := "()Ljava/lang/Throwable;" } : Jvm.MethodName)) ∈ lwG := lwG_2 39 (by decide +kernel) (by decide +kernel)
theorem q2_40 : (Jvm.Cond.sameMethod "java/lang/Throwable" "java/lang/Throwable" "fillInStackTrace" "()Ljava/lang/Throwable;") ∈ lwG := lwG_2 40 (by decide +kernel) (by decide +kernel)
theorem q2_41 : (Jvm.Cond.selects "java/lang/ArithmeticException" ({ cls := "java/lang/Throwable", name := "fillInStackTrace", desc := "()Ljava/lang/Throwable;" } : Jvm.MethodName) ({ cls := "java/lang/Throwable", name := "fillInStackTrace", desc := "()Ljava/lang/Throwable;" } : Jvm.MethodName)) ∈ lwG := lwG_2 41 (by decide +kernel) (by decide +kernel)
theorem q2_42 : (Jvm.Cond.selects "java/lang/ArrayIndexOutOfBoundsException" ({ cls := "java/lang/Throwable", name := "fillInStackTrace", desc := "()Ljava/lang/Throwable;" } : Jvm.MethodName) ({ cls := "java/lang/Throwable", name := "fillInStackTrace", desc := "()Ljava/lang/Throwable;" } : Jvm.MethodName)) ∈ lwG := lwG_2 42 (by decide +kernel) (by decide +kernel)
theorem q2_43 : (Jvm.Cond.selects "java/lang/IllegalStateException" ({ cls := "java/lang/Throwable", name := "fillInStackTrace", desc := "()Ljava/lang/Throwable;" } : Jvm.MethodName) ({ cls := "java/lang/Throwable", name := "fillInStackTrace", desc := "()Ljava/lang/Throwable;" } : Jvm.MethodName)) ∈ lwG := lwG_2 43 (by decide +kernel) (by decide +kernel)
theorem q2_44 : (Jvm.Cond.selects "java/lang/IndexOutOfBoundsException" ({ cls := "java/lang/Throwable", name := "fillInStackTrace", desc := "()Ljava/lang/Throwable;" } : Jvm.MethodName) ({ cls := "java/lang/Throwable", name := "fillInStackTrace", desc := "()Ljava/lang/Throwable;" } : Jvm.MethodName)) ∈ lwG := lwG_2 44 (by decide +kernel) (by decide +kernel)
theorem q2_45 : (Jvm.Cond.selects "java/lang/UnsupportedOperationException" ({ cls := "java/lang/Throwable", name := "fillInStackTrace", desc := "()Ljava/lang/Throwable;" } : Jvm.MethodName) ({ cls := "java/lang/Throwable", name := "fillInStackTrace", desc := "()Ljava/lang/Throwable;" } : Jvm.MethodName)) ∈ lwG := lwG_2 45 (by decide +kernel) (by decide +kernel)
theorem q2_46 : (Jvm.Cond.selects "java/util/NoSuchElementException" ({ cls := "java/lang/Throwable", name := "fillInStackTrace", desc := "()Ljava/lang/Throwable;" } : Jvm.MethodName) ({ cls := "java/lang/Throwable", name := "fillInStackTrace", desc := "()Ljava/lang/Throwable;" } : Jvm.MethodName)) ∈ lwG := lwG_2 46 (by decide +kernel) (by decide +kernel)
theorem q2_47 : (Jvm.Cond.codeSync ({ cls := "java/lang/Throwable", name := "fillInStackTrace", desc := "()Ljava/lang/Throwable;" } : Jvm.MethodName) prog_38_method_18_code (1 : Nat) (Option.some (Jvm.ClassFile.FieldType.object "java/lang/Throwable"))) ∈ lwG := lwG_2 47 (by decide +kernel) (by decide +kernel)
theorem q2_48 : (Jvm.Cond.methodLink "java/lang/Throwable" (202 : Nat) ({ cls := "java/lang/Throwable", name := "fillInStackTrace", desc := "(I)Ljava/lang/Throwable;" } : Jvm.MethodName)) ∈ lwG := lwG_2 48 (by decide +kernel) (by decide +kernel)
theorem q2_49 : (Jvm.Cond.privateMethod ({ cls := "java/lang/Throwable", name := "fillInStackTrace", desc := "(I)Ljava/lang/Throwable;" } : Jvm.MethodName)) ∈ tables_1 := lwT_2 49 (by decide +kernel)
theorem q2_50 : (Jvm.Cond.instanceMethod ({ cls := "java/lang/Throwable", name := "fillInStackTrace", desc := "(I)Ljava/lang/Throwable;" } : Jvm.MethodName)) ∈ lwG := lwG_2 50 (by decide +kernel) (by decide +kernel)
theorem q2_51 : (Jvm.Cond.instantiable "java/lang/Throwable" (6 : Nat)) ∈ lwG := lwG_2 51 (by decide +kernel) (by decide +kernel)
theorem q2_52 : (Jvm.Cond.native ({ cls := "java/lang/Throwable", name := "fillInStackTrace", desc := "(I)Ljava/lang/Throwable;" } : Jvm.MethodName)) ∈ lwG := lwG_2 52 (by decide +kernel) (by decide +kernel)
theorem q2_53 : (Jvm.Cond.stringRef "TileWarden" (65 : Nat) "the money is out of range") ∈ tables_1 := lwT_2 53 (by decide +kernel)
theorem q2_54 : (Jvm.Cond.methodLink "TileWarden" (67 : Nat) ({ cls := "java/lang/IllegalArgumentException", name := "<init>", desc := "(Ljava/lang/String;)V" } : Jvm.MethodName)) ∈ lwG := lwG_2 54 (by decide +kernel) (by decide +kernel)
theorem q2_55 : (Jvm.Cond.instanceMethod ({ cls := "java/lang/IllegalArgumentException", name := "<init>", desc := "(Ljava/lang/String;)V" } : Jvm.MethodName)) ∈ lwG := lwG_2 55 (by decide +kernel) (by decide +kernel)
theorem q2_56 : (Jvm.Cond.code ({ cls := "java/lang/IllegalArgumentException", name := "<init>", desc := "(Ljava/lang/String;)V" } : Jvm.MethodName) prog_23_method_2_code (2 : Nat) (Option.none : Option Jvm.ClassFile.FieldType)) ∈ lwG := lwG_2 56 (by decide +kernel) (by decide +kernel)
theorem q2_57 : (Jvm.Cond.methodLink "java/lang/IllegalArgumentException" (7 : Nat) ({ cls := "java/lang/RuntimeException", name := "<init>", desc := "(Ljava/lang/String;)V" } : Jvm.MethodName)) ∈ lwG := lwG_2 57 (by decide +kernel) (by decide +kernel)
theorem q2_58 : (Jvm.Cond.instanceMethod ({ cls := "java/lang/RuntimeException", name := "<init>", desc := "(Ljava/lang/String;)V" } : Jvm.MethodName)) ∈ lwG := lwG_2 58 (by decide +kernel) (by decide +kernel)
theorem q2_59 : (Jvm.Cond.code ({ cls := "java/lang/RuntimeException", name := "<init>", desc := "(Ljava/lang/String;)V" } : Jvm.MethodName) prog_31_method_2_code (2 : Nat) (Option.none : Option Jvm.ClassFile.FieldType)) ∈ lwG := lwG_2 59 (by decide +kernel) (by decide +kernel)
theorem q2_60 : (Jvm.Cond.methodLink "java/lang/RuntimeException" (7 : Nat) ({ cls := "java/lang/Exception", name := "<init>", desc := "(Ljava/lang/String;)V" } : Jvm.MethodName)) ∈ lwG := lwG_2 60 (by decide +kernel) (by decide +kernel)
theorem q2_61 : (Jvm.Cond.instanceMethod ({ cls := "java/lang/Exception", name := "<init>", desc := "(Ljava/lang/String;)V" } : Jvm.MethodName)) ∈ lwG := lwG_2 61 (by decide +kernel) (by decide +kernel)
theorem q2_62 : (Jvm.Cond.code ({ cls := "java/lang/Exception", name := "<init>", desc := "(Ljava/lang/String;)V" } : Jvm.MethodName) prog_21_method_2_code (2 : Nat) (Option.none : Option Jvm.ClassFile.FieldType)) ∈ lwG := lwG_2 62 (by decide +kernel) (by decide +kernel)
theorem q2_63 : (Jvm.Cond.methodLink "java/lang/Exception" (7 : Nat) ({ cls := "java/lang/Throwable", name := "<init>", desc := "(Ljava/lang/String;)V" } : Jvm.MethodName)) ∈ lwG := lwG_2 63 (by decide +kernel) (by decide +kernel)
theorem q2_64 : (Jvm.Cond.instanceMethod ({ cls := "java/lang/Throwable", name := "<init>", desc := "(Ljava/lang/String;)V" } : Jvm.MethodName)) ∈ lwG := lwG_2 64 (by decide +kernel) (by decide +kernel)
theorem q2_65 : (Jvm.Cond.code ({ cls := "java/lang/Throwable", name := "<init>", desc := "(Ljava/lang/String;)V" } : Jvm.MethodName) prog_38_method_2_code (2 : Nat) (Option.none : Option Jvm.ClassFile.FieldType)) ∈ lwG := lwG_2 65 (by decide +kernel) (by decide +kernel)
theorem q2_67 : (Jvm.Cond.fieldLink "java/lang/Throwable" (31 : Nat) "java/lang/Throwable" "detailMessage" "Ljava/lang/String;") ∈ lwG := lwG_2 67 (by decide +kernel) (by decide +kernel)
theorem q2_68 : (Jvm.Cond.fieldLink "java/lang/Throwable" (7 : Nat) "java/lang/Throwable" "cause" "Ljava/lang/Throwable;") ∈ lwG := lwG_2 68 (by decide +kernel) (by decide +kernel)
theorem q2_69 : (Jvm.Cond.fieldLink "java/lang/Throwable" (17 : Nat) "java/lang/Throwable" "stackTrace" "[Ljava/lang/StackTraceElement;") ∈ lwG := lwG_2 69 (by decide +kernel) (by decide +kernel)
theorem q2_70 : (Jvm.Cond.fieldLink "java/lang/Throwable" (24 : Nat) "java/lang/Throwable" "suppressedExceptions" "Ljava/util/List;") ∈ lwG := lwG_2 70 (by decide +kernel) (by decide +kernel)
theorem q2_71 : (Jvm.Cond.soleField "java/lang/Throwable" "backtrace") ∈ tables_1 := lwT_2 71 (by decide +kernel)
theorem q2_72 : (Jvm.Cond.soleField "java/lang/Throwable" "detailMessage") ∈ tables_1 := lwT_2 72 (by decide +kernel)
theorem q2_73 : (Jvm.Cond.soleField "java/lang/Throwable" "cause") ∈ tables_1 := lwT_2 73 (by decide +kernel)
theorem q2_74 : (Jvm.Cond.soleField "java/lang/Throwable" "stackTrace") ∈ tables_1 := lwT_2 74 (by decide +kernel)
theorem q2_75 : (Jvm.Cond.lays "java/lang/IllegalArgumentException" "java/lang/Throwable" "depth" "I") ∈ lwG := lwG_2 75 (by decide +kernel) (by decide +kernel)
theorem q2_76 : (Jvm.Cond.soleField "java/lang/Throwable" "depth") ∈ tables_1 := lwT_2 76 (by decide +kernel)
theorem q2_77 : (Jvm.Cond.soleField "java/lang/Throwable" "suppressedExceptions") ∈ tables_1 := lwT_2 77 (by decide +kernel)
theorem q2_78 : (Jvm.Cond.superclass "java/lang/IllegalArgumentException" "java/lang/RuntimeException") ∈ lwG := lwG_2 78 (by decide +kernel) (by decide +kernel)
theorem q2_79 : (Jvm.Cond.arrayClass Jvm.ClassFile.FieldType.byte) ∈ lwG := lwG_2 79 (by decide +kernel) (by decide +kernel)
theorem q2_80 : (Jvm.Cond.classLink "TileWarden" (74 : Nat) "java/lang/IllegalStateException") ∈ lwG := lwG_2 80 (by decide +kernel) (by decide +kernel)
theorem q2_81 : (Jvm.Cond.instantiable "java/lang/IllegalStateException" (6 : Nat)) ∈ lwG := lwG_2 81 (by decide +kernel) (by decide +kernel)
theorem q2_82 : (Jvm.Cond.castable "java/lang/IllegalStateException" "java/lang/IllegalStateException") ∈ tables_1 := lwT_2 82 (by decide +kernel)
theorem q2_83 : (Jvm.Cond.selects "java/lang/IllegalStateException" ({ cls := "java/lang/Throwable", name := "fillInStackTrace", desc := "(I)Ljava/lang/Throwable;" } : Jvm.MethodName) ({ cls := "java/lang/Throwable", name := "fillInStackTrace", desc := "(I)Ljava/lang/Throwable;" } : Jvm.MethodName)) ∈ lwG := lwG_2 83 (by decide +kernel) (by decide +kernel)
theorem q2_84 : (Jvm.Cond.lays "java/lang/IllegalStateException" "java/lang/Throwable" "cause" "Ljava/lang/Throwable;") ∈ lwG := lwG_2 84 (by decide +kernel) (by decide +kernel)
theorem q2_85 : (Jvm.Cond.lays "java/lang/IllegalStateException" "java/lang/Throwable" "stackTrace" "[Ljava/lang/StackTraceElement;") ∈ lwG := lwG_2 85 (by decide +kernel) (by decide +kernel)
theorem q2_86 : (Jvm.Cond.lays "java/lang/IllegalStateException" "java/lang/Throwable" "suppressedExceptions" "Ljava/util/List;") ∈ lwG := lwG_2 86 (by decide +kernel) (by decide +kernel)
theorem q2_87 : (Jvm.Cond.lays "java/lang/IllegalStateException" "java/lang/Throwable" "detailMessage" "Ljava/lang/String;") ∈ lwG := lwG_2 87 (by decide +kernel) (by decide +kernel)
theorem q2_88 : (Jvm.Cond.lays "java/lang/IllegalStateException" "java/lang/Throwable" "backtrace" "Ljava/lang/Object;") ∈ lwG := lwG_2 88 (by decide +kernel) (by decide +kernel)
theorem q2_89 : (Jvm.Cond.stringRef "TileWarden" (76 : Nat) "there is no place for another player") ∈ tables_1 := lwT_2 89 (by decide +kernel)
theorem q2_90 : (Jvm.Cond.methodLink "TileWarden" (78 : Nat) ({ cls := "java/lang/IllegalStateException", name := "<init>", desc := "(Ljava/lang/String;)V" } : Jvm.MethodName)) ∈ lwG := lwG_2 90 (by decide +kernel) (by decide +kernel)
theorem q2_91 : (Jvm.Cond.instanceMethod ({ cls := "java/lang/IllegalStateException", name := "<init>", desc := "(Ljava/lang/String;)V" } : Jvm.MethodName)) ∈ lwG := lwG_2 91 (by decide +kernel) (by decide +kernel)
theorem q2_92 : (Jvm.Cond.code ({ cls := "java/lang/IllegalStateException", name := "<init>", desc := "(Ljava/lang/String;)V" } : Jvm.MethodName) prog_24_method_2_code (2 : Nat) (Option.none : Option Jvm.ClassFile.FieldType)) ∈ lwG := lwG_2 92 (by decide +kernel) (by decide +kernel)
theorem q2_93 : (Jvm.Cond.methodLink "java/lang/IllegalStateException" (7 : Nat) ({ cls := "java/lang/RuntimeException", name := "<init>", desc := "(Ljava/lang/String;)V" } : Jvm.MethodName)) ∈ lwG := lwG_2 93 (by decide +kernel) (by decide +kernel)
theorem q2_94 : (Jvm.Cond.lays "java/lang/IllegalStateException" "java/lang/Throwable" "depth" "I") ∈ lwG := lwG_2 94 (by decide +kernel) (by decide +kernel)
theorem q2_95 : (Jvm.Cond.superclass "java/lang/IllegalStateException" "java/lang/RuntimeException") ∈ lwG := lwG_2 95 (by decide +kernel) (by decide +kernel)
theorem q2_96 : (Jvm.Cond.classLink "TileWarden" (79 : Nat) "TileWarden$Player") ∈ lwG := lwG_2 96 (by decide +kernel) (by decide +kernel)
theorem q2_97 : (Jvm.Cond.instantiable "TileWarden$Player" (3 : Nat)) ∈ lwG := lwG_2 97 (by decide +kernel) (by decide +kernel)
theorem q2_98 : (Jvm.Cond.methodLink "TileWarden" (81 : Nat) ({ cls := "TileWarden$Player", name := "<init>", desc := "(II)V" } : Jvm.MethodName)) ∈ lwG := lwG_2 98 (by decide +kernel) (by decide +kernel)
theorem q2_99 : (Jvm.Cond.instanceMethod ({ cls := "TileWarden$Player", name := "<init>", desc := "(II)V" } : Jvm.MethodName)) ∈ lwG := lwG_2 99 (by decide +kernel) (by decide +kernel)
theorem q2_100 : (Jvm.Cond.code ({ cls := "TileWarden$Player", name := "<init>", desc := "(II)V" } : Jvm.MethodName) prog_6_method_1_code (3 : Nat) (Option.none : Option Jvm.ClassFile.FieldType)) ∈ lwG := lwG_2 100 (by decide +kernel) (by decide +kernel)
theorem q2_101 : (Jvm.Cond.methodLink "TileWarden$Player" (1 : Nat) ({ cls := "java/lang/Object", name := "<init>", desc := "()V" } : Jvm.MethodName)) ∈ lwG := lwG_2 101 (by decide +kernel) (by decide +kernel)
theorem q2_102 : (Jvm.Cond.fieldLink "TileWarden$Player" (7 : Nat) "TileWarden$Player" "number" "I") ∈ lwG := lwG_2 102 (by decide +kernel) (by decide +kernel)
theorem q2_103 : (Jvm.Cond.fieldLink "TileWarden$Trace" (13 : Nat) "TileWarden$Player" "number" "I") ∈ lwG := lwG_2 103 (by decide +kernel) (by decide +kernel)
theorem q2_104 : (Jvm.Cond.fieldLink "TileWarden" (328 : Nat) "TileWarden$Player" "number" "I") ∈ lwG := lwG_2 104 (by decide +kernel) (by decide +kernel)
theorem q2_105 : (Jvm.Cond.fieldLink "TileWarden$Player" (13 : Nat) "TileWarden$Player" "moneyAtFirst" "I") ∈ lwG := lwG_2 105 (by decide +kernel) (by decide +kernel)
theorem q2_106 : (Jvm.Cond.fieldLink "TileWarden" (347 : Nat) "TileWarden$Player" "moneyAtFirst" "I") ∈ lwG := lwG_2 106 (by decide +kernel) (by decide +kernel)
theorem q2_107 : (Jvm.Cond.fieldLink "TileWarden$Player" (16 : Nat) "TileWarden$Player" "money" "I") ∈ lwG := lwG_2 107 (by decide +kernel) (by decide +kernel)
theorem q2_108 : (Jvm.Cond.fieldLink "TileWarden" (172 : Nat) "TileWarden$Player" "money" "I") ∈ lwG := lwG_2 108 (by decide +kernel) (by decide +kernel)
theorem q2_109 : (Jvm.Cond.laysFinal "TileWarden$Player" "TileWarden$Player" "number" "I") ∈ lwG := lwG_2 109 (by decide +kernel) (by decide +kernel)
theorem q2_110 : (Jvm.Cond.soleField "TileWarden$Player" "number") ∈ tables_1 := lwT_2 110 (by decide +kernel)
theorem q2_111 : (Jvm.Cond.laysFinal "TileWarden$Player" "TileWarden$Player" "moneyAtFirst" "I") ∈ lwG := lwG_2 111 (by decide +kernel) (by decide +kernel)
theorem q2_112 : (Jvm.Cond.soleField "TileWarden$Player" "moneyAtFirst") ∈ tables_1 := lwT_2 112 (by decide +kernel)
theorem q2_113 : (Jvm.Cond.lays "TileWarden$Player" "TileWarden$Player" "money" "I") ∈ lwG := lwG_2 113 (by decide +kernel) (by decide +kernel)
theorem q2_114 : (Jvm.Cond.soleField "TileWarden$Player" "money") ∈ tables_1 := lwT_2 114 (by decide +kernel)
theorem q2_115 : (Jvm.Cond.superclass "TileWarden$Player" "java/lang/Object") ∈ lwG := lwG_2 115 (by decide +kernel) (by decide +kernel)
theorem q2_116 : (Jvm.Cond.methodLink "TileWarden" (84 : Nat) ({ cls := "java/util/ArrayList", name := "add", desc := "(Ljava/lang/Object;)Z" } : Jvm.MethodName)) ∈ lwG := lwG_2 116 (by decide +kernel) (by decide +kernel)
theorem q2_117 : (Jvm.Cond.instanceMethod ({ cls := "java/util/ArrayList", name := "add", desc := "(Ljava/lang/Object;)Z" } : Jvm.MethodName)) ∈ lwG := lwG_2 117 (by decide +kernel) (by decide +kernel)
theorem q2_118 : (Jvm.Cond.selects "java/util/ArrayList" ({ cls := "java/util/ArrayList", name := "add", desc := "(Ljava/lang/Object;)Z" } : Jvm.MethodName) ({ cls := "java/util/ArrayList", name := "add", desc := "(Ljava/lang/Object;)Z" } : Jvm.MethodName)) ∈ lwG := lwG_2 118 (by decide +kernel) (by decide +kernel)
theorem q2_119 : (Jvm.Cond.code ({ cls := "java/util/ArrayList", name := "add", desc := "(Ljava/lang/Object;)Z" } : Jvm.MethodName) prog_44_method_25_code (2 : Nat) (Option.some Jvm.ClassFile.FieldType.boolean)) ∈ lwG := lwG_2 119 (by decide +kernel) (by decide +kernel)
theorem q2_120 : (Jvm.Cond.methodLink "java/util/ArrayList" (131 : Nat) ({ cls := "java/util/ArrayList", name := "add", desc := "(Ljava/lang/Object;[Ljava/lang/Object;I)V" } : Jvm.MethodName)) ∈ lwG := lwG_2 120 (by decide +kernel) (by decide +kernel)
theorem q2_121 : (Jvm.Cond.privateMethod ({ cls := "java/util/ArrayList", name := "add", desc := "(Ljava/lang/Object;[Ljava/lang/Object;I)V" } : Jvm.MethodName)) ∈ tables_1 := lwT_2 121 (by decide +kernel)
theorem q2_122 : (Jvm.Cond.instanceMethod ({ cls := "java/util/ArrayList", name := "add", desc := "(Ljava/lang/Object;[Ljava/lang/Object;I)V" } : Jvm.MethodName)) ∈ lwG := lwG_2 122 (by decide +kernel) (by decide +kernel)
theorem q2_123 : (Jvm.Cond.code ({ cls := "java/util/ArrayList", name := "add", desc := "(Ljava/lang/Object;[Ljava/lang/Object;I)V" } : Jvm.MethodName) prog_44_method_24_code (4 : Nat) (Option.none : Option Jvm.ClassFile.FieldType)) ∈ lwG := lwG_2 123 (by decide +kernel) (by decide +kernel)
theorem q2_124 : (Jvm.Cond.methodLink "java/util/ArrayList" (129 : Nat) ({ cls := "java/util/ArrayList", name := "grow", desc := "()[Ljava/lang/Object;" } : Jvm.MethodName)) ∈ lwG := lwG_2 124 (by decide +kernel) (by decide +kernel)
theorem q2_125 : (Jvm.Cond.privateMethod ({ cls := "java/util/ArrayList", name := "grow", desc := "()[Ljava/lang/Object;" } : Jvm.MethodName)) ∈ tables_1 := lwT_2 125 (by decide +kernel)
theorem q2_126 : (Jvm.Cond.instanceMethod ({ cls := "java/util/ArrayList", name := "grow", desc := "()[Ljava/lang/Object;" } : Jvm.MethodName)) ∈ lwG := lwG_2 126 (by decide +kernel) (by decide +kernel)
theorem q2_127 : (Jvm.Cond.code ({ cls := "java/util/ArrayList", name := "grow", desc := "()[Ljava/lang/Object;" } : Jvm.MethodName) prog_44_method_7_code (1 : Nat) (Option.some (Jvm.ClassFile.FieldType.array (Jvm.ClassFile.FieldType.object "java/lang/Object")))) ∈ lwG := lwG_2 127 (by decide +kernel) (by decide +kernel)
theorem q2_128 : (Jvm.Cond.methodLink "java/util/ArrayList" (69 : Nat) ({ cls := "java/util/ArrayList", name := "grow", desc := "(I)[Ljava/lang/Object;" } : Jvm.MethodName)) ∈ lwG := lwG_2 128 (by decide +kernel) (by decide +kernel)
theorem q2_129 : (Jvm.Cond.privateMethod ({ cls := "java/util/ArrayList", name := "grow", desc := "(I)[Ljava/lang/Object;" } : Jvm.MethodName)) ∈ tables_1 := lwT_2 129 (by decide +kernel)
theorem q2_130 : (Jvm.Cond.instanceMethod ({ cls := "java/util/ArrayList", name := "grow", desc := "(I)[Ljava/lang/Object;" } : Jvm.MethodName)) ∈ lwG := lwG_2 130 (by decide +kernel) (by decide +kernel)
theorem q2_131 : (Jvm.Cond.code ({ cls := "java/util/ArrayList", name := "grow", desc := "(I)[Ljava/lang/Object;" } : Jvm.MethodName) prog_44_method_6_code (4 : Nat) (Option.some (Jvm.ClassFile.FieldType.array (Jvm.ClassFile.FieldType.object "java/lang/Object")))) ∈ lwG := lwG_2 131 (by decide +kernel) (by decide +kernel)
theorem q2_132 : (Jvm.Cond.methodLink "java/util/ArrayList" (73 : Nat) ({ cls := "jdk/internal/util/ArraysSupport", name := "newLength", desc := "(III)I" } : Jvm.MethodName)) ∈ lwG := lwG_2 132 (by decide +kernel) (by decide +kernel)
theorem q2_133 : (Jvm.Cond.static ({ cls := "jdk/internal/util/ArraysSupport", name := "newLength", desc := "(III)I" } : Jvm.MethodName)) ∈ lwG := lwG_2 133 (by decide +kernel) (by decide +kernel)
theorem q2_134 : (Jvm.Cond.code ({ cls := "jdk/internal/util/ArraysSupport", name := "newLength", desc := "(III)I" } : Jvm.MethodName) prog_56_method_27_code (4 : Nat) (Option.some Jvm.ClassFile.FieldType.int)) ∈ lwG := lwG_2 134 (by decide +kernel) (by decide +kernel)
theorem q2_135 : (Jvm.Cond.methodLink "jdk/internal/util/ArraysSupport" (194 : Nat) ({ cls := "java/lang/Math", name := "max", desc := "(II)I" } : Jvm.MethodName)) ∈ lwG := lwG_2 135 (by decide +kernel) (by decide +kernel)
theorem q2_136 : (Jvm.Cond.constant "jdk/internal/util/ArraysSupport" (200 : Nat) (2147483639 : Int32)) ∈ lwG := lwG_2 136 (by decide +kernel) (by decide +kernel)
theorem q2_137 : (Jvm.Cond.methodLink "jdk/internal/util/ArraysSupport" (201 : Nat) ({ cls := "jdk/internal/util/ArraysSupport", name := "hugeLength", desc := "(II)I" } : Jvm.MethodName)) ∈ lwG := lwG_2 137 (by decide +kernel) (by decide +kernel)
theorem q2_138 : (Jvm.Cond.static ({ cls := "jdk/internal/util/ArraysSupport", name := "hugeLength", desc := "(II)I" } : Jvm.MethodName)) ∈ lwG := lwG_2 138 (by decide +kernel) (by decide +kernel)
theorem q2_139 : (Jvm.Cond.code ({ cls := "jdk/internal/util/ArraysSupport", name := "hugeLength", desc := "(II)I" } : Jvm.MethodName) prog_56_method_28_code (3 : Nat) (Option.some Jvm.ClassFile.FieldType.int)) ∈ lwG := lwG_2 139 (by decide +kernel) (by decide +kernel)
theorem q2_140 : (Jvm.Cond.methodLink "java/util/ArrayList" (66 : Nat) ({ cls := "java/util/Arrays", name := "copyOf", desc := "([Ljava/lang/Object;I)[Ljava/lang/Object;" } : Jvm.MethodName)) ∈ lwG := lwG_2 140 (by decide +kernel) (by decide +kernel)
theorem q2_141 : (Jvm.Cond.static ({ cls := "java/util/Arrays", name := "copyOf", desc := "([Ljava/lang/Object;I)[Ljava/lang/Object;" } : Jvm.MethodName)) ∈ lwG := lwG_2 141 (by decide +kernel) (by decide +kernel)
theorem q2_142 : (Jvm.Cond.code ({ cls := "java/util/Arrays", name := "copyOf", desc := "([Ljava/lang/Object;I)[Ljava/lang/Object;" } : Jvm.MethodName) prog_45_method_119_code (2 : Nat) (Option.some (Jvm.ClassFile.FieldType.array (Jvm.ClassFile.FieldType.object "java/lang/Object")))) ∈ lwG := lwG_2 142 (by decide +kernel) (by decide +kernel)
theorem q2_143 : (Jvm.Cond.methodLink "java/util/Arrays" (86 : Nat) ({ cls := "java/lang/Object", name := "getClass", desc := "()Ljava/lang/Class;" } : Jvm.MethodName)) ∈ lwG := lwG_2 143 (by decide +kernel) (by decide +kernel)
theorem q2_144 : (Jvm.Cond.instanceMethod ({ cls := "java/lang/Object", name := "getClass", desc := "()Ljava/lang/Class;" } : Jvm.MethodName)) ∈ lwG := lwG_2 144 (by decide +kernel) (by decide +kernel)
theorem q2_145 : (Jvm.Cond.sameMethod "java/lang/Object" "java/lang/Object" "getClass" "()Ljava/lang/Class;") ∈ lwG := lwG_2 145 (by decide +kernel) (by decide +kernel)
theorem q2_146 : (Jvm.Cond.selects "TileWarden" ({ cls := "java/lang/Object", name := "getClass", desc := "()Ljava/lang/Class;" } : Jvm.MethodName) ({ cls := "java/lang/Object", name := "getClass", desc := "()Ljava/lang/Class;" } : Jvm.MethodName)) ∈ lwG := lwG_2 146 (by decide +kernel) (by decide +kernel)
theorem q2_147 : (Jvm.Cond.selects "TileWarden$Cache" ({ cls := "java/lang/Object", name := "getClass", desc := "()Ljava/lang/Class;" } : Jvm.MethodName) ({ cls := "java/lang/Object", name := "getClass", desc := "()Ljava/lang/Class;" } : Jvm.MethodName)) ∈ lwG := lwG_2 147 (by decide +kernel) (by decide +kernel)
theorem q2_148 : (Jvm.Cond.selects "TileWarden$Entry" ({ cls := "java/lang/Object", name := "getClass", desc := "()Ljava/lang/Class;" } : Jvm.MethodName) ({ cls := "java/lang/Object", name := "getClass", desc := "()Ljava/lang/Class;" } : Jvm.MethodName)) ∈ lwG := lwG_2 148 (by decide +kernel) (by decide +kernel)
theorem q2_149 : (Jvm.Cond.selects "TileWarden$Game" ({ cls := "java/lang/Object", name := "getClass", desc := "()Ljava/lang/Class;" } : Jvm.MethodName) ({ cls := "java/lang/Object", name := "getClass", desc := "()Ljava/lang/Class;" } : Jvm.MethodName)) ∈ lwG := lwG_2 149 (by decide +kernel) (by decide +kernel)
theorem q2_150 : (Jvm.Cond.selects "TileWarden$Player" ({ cls := "java/lang/Object", name := "getClass", desc := "()Ljava/lang/Class;" } : Jvm.MethodName) ({ cls := "java/lang/Object", name := "getClass", desc := "()Ljava/lang/Class;" } : Jvm.MethodName)) ∈ lwG := lwG_2 150 (by decide +kernel) (by decide +kernel)
theorem q2_151 : (Jvm.Cond.selects "TileWarden$Search" ({ cls := "java/lang/Object", name := "getClass", desc := "()Ljava/lang/Class;" } : Jvm.MethodName) ({ cls := "java/lang/Object", name := "getClass", desc := "()Ljava/lang/Class;" } : Jvm.MethodName)) ∈ lwG := lwG_2 151 (by decide +kernel) (by decide +kernel)
theorem q2_152 : (Jvm.Cond.selects "TileWarden$Trace" ({ cls := "java/lang/Object", name := "getClass", desc := "()Ljava/lang/Class;" } : Jvm.MethodName) ({ cls := "java/lang/Object", name := "getClass", desc := "()Ljava/lang/Class;" } : Jvm.MethodName)) ∈ lwG := lwG_2 152 (by decide +kernel) (by decide +kernel)
theorem q2_153 : (Jvm.Cond.selects "TileWardenLaw$Draw" ({ cls := "java/lang/Object", name := "getClass", desc := "()Ljava/lang/Class;" } : Jvm.MethodName) ({ cls := "java/lang/Object", name := "getClass", desc := "()Ljava/lang/Class;" } : Jvm.MethodName)) ∈ lwG := lwG_2 153 (by decide +kernel) (by decide +kernel)
theorem q2_154 : (Jvm.Cond.selects "java/lang/ArithmeticException" ({ cls := "java/lang/Object", name := "getClass", desc := "()Ljava/lang/Class;" } : Jvm.MethodName) ({ cls := "java/lang/Object", name := "getClass", desc := "()Ljava/lang/Class;" } : Jvm.MethodName)) ∈ lwG := lwG_2 154 (by decide +kernel) (by decide +kernel)
theorem q2_155 : (Jvm.Cond.selects "java/lang/ArrayIndexOutOfBoundsException" ({ cls := "java/lang/Object", name := "getClass", desc := "()Ljava/lang/Class;" } : Jvm.MethodName) ({ cls := "java/lang/Object", name := "getClass", desc := "()Ljava/lang/Class;" } : Jvm.MethodName)) ∈ lwG := lwG_2 155 (by decide +kernel) (by decide +kernel)
theorem q2_156 : (Jvm.Cond.selects "java/lang/IllegalArgumentException" ({ cls := "java/lang/Object", name := "getClass", desc := "()Ljava/lang/Class;" } : Jvm.MethodName) ({ cls := "java/lang/Object", name := "getClass", desc := "()Ljava/lang/Class;" } : Jvm.MethodName)) ∈ lwG := lwG_2 156 (by decide +kernel) (by decide +kernel)
theorem q2_157 : (Jvm.Cond.selects "java/lang/IllegalStateException" ({ cls := "java/lang/Object", name := "getClass", desc := "()Ljava/lang/Class;" } : Jvm.MethodName) ({ cls := "java/lang/Object", name := "getClass", desc := "()Ljava/lang/Class;" } : Jvm.MethodName)) ∈ lwG := lwG_2 157 (by decide +kernel) (by decide +kernel)
theorem q2_158 : (Jvm.Cond.selects "java/lang/IndexOutOfBoundsException" ({ cls := "java/lang/Object", name := "getClass", desc := "()Ljava/lang/Class;" } : Jvm.MethodName) ({ cls := "java/lang/Object", name := "getClass", desc := "()Ljava/lang/Class;" } : Jvm.MethodName)) ∈ lwG := lwG_2 158 (by decide +kernel) (by decide +kernel)
theorem q2_159 : (Jvm.Cond.selects "java/lang/String" ({ cls := "java/lang/Object", name := "getClass", desc := "()Ljava/lang/Class;" } : Jvm.MethodName) ({ cls := "java/lang/Object", name := "getClass", desc := "()Ljava/lang/Class;" } : Jvm.MethodName)) ∈ lwG := lwG_2 159 (by decide +kernel) (by decide +kernel)
theorem q2_160 : (Jvm.Cond.selects "java/lang/StringBuilder" ({ cls := "java/lang/Object", name := "getClass", desc := "()Ljava/lang/Class;" } : Jvm.MethodName) ({ cls := "java/lang/Object", name := "getClass", desc := "()Ljava/lang/Class;" } : Jvm.MethodName)) ∈ lwG := lwG_2 160 (by decide +kernel) (by decide +kernel)
theorem q2_161 : (Jvm.Cond.selects "java/lang/UnsupportedOperationException" ({ cls := "java/lang/Object", name := "getClass", desc := "()Ljava/lang/Class;" } : Jvm.MethodName) ({ cls := "java/lang/Object", name := "getClass", desc := "()Ljava/lang/Class;" } : Jvm.MethodName)) ∈ lwG := lwG_2 161 (by decide +kernel) (by decide +kernel)
theorem q2_162 : (Jvm.Cond.selects "java/util/ArrayList" ({ cls := "java/lang/Object", name := "getClass", desc := "()Ljava/lang/Class;" } : Jvm.MethodName) ({ cls := "java/lang/Object", name := "getClass", desc := "()Ljava/lang/Class;" } : Jvm.MethodName)) ∈ lwG := lwG_2 162 (by decide +kernel) (by decide +kernel)
theorem q2_163 : (Jvm.Cond.selects "java/util/NoSuchElementException" ({ cls := "java/lang/Object", name := "getClass", desc := "()Ljava/lang/Class;" } : Jvm.MethodName) ({ cls := "java/lang/Object", name := "getClass", desc := "()Ljava/lang/Class;" } : Jvm.MethodName)) ∈ lwG := lwG_2 163 (by decide +kernel) (by decide +kernel)
theorem q2_164 : (Jvm.Cond.selects "jdk/internal/math/DoubleToDecimal" ({ cls := "java/lang/Object", name := "getClass", desc := "()Ljava/lang/Class;" } : Jvm.MethodName) ({ cls := "java/lang/Object", name := "getClass", desc := "()Ljava/lang/Class;" } : Jvm.MethodName)) ∈ lwG := lwG_2 164 (by decide +kernel) (by decide +kernel)
theorem q2_165 : (Jvm.Cond.selects "jdk/internal/math/FloatToDecimal" ({ cls := "java/lang/Object", name := "getClass", desc := "()Ljava/lang/Class;" } : Jvm.MethodName) ({ cls := "java/lang/Object", name := "getClass", desc := "()Ljava/lang/Class;" } : Jvm.MethodName)) ∈ lwG := lwG_2 165 (by decide +kernel) (by decide +kernel)
theorem q2_166 : (Jvm.Cond.native ({ cls := "java/lang/Object", name := "getClass", desc := "()Ljava/lang/Class;" } : Jvm.MethodName)) ∈ lwG := lwG_2 166 (by decide +kernel) (by decide +kernel)
theorem q2_167 : (Jvm.Cond.methodLink "java/util/Arrays" (300 : Nat) ({ cls := "java/util/Arrays", name := "copyOf", desc := "([Ljava/lang/Object;ILjava/lang/Class;)[Ljava/lang/Object;" } : Jvm.MethodName)) ∈ lwG := lwG_2 167 (by decide +kernel) (by decide +kernel)
theorem q2_168 : (Jvm.Cond.static ({ cls := "java/util/Arrays", name := "copyOf", desc := "([Ljava/lang/Object;ILjava/lang/Class;)[Ljava/lang/Object;" } : Jvm.MethodName)) ∈ lwG := lwG_2 168 (by decide +kernel) (by decide +kernel)
theorem q2_169 : (Jvm.Cond.code ({ cls := "java/util/Arrays", name := "copyOf", desc := "([Ljava/lang/Object;ILjava/lang/Class;)[Ljava/lang/Object;" } : Jvm.MethodName) prog_45_method_120_code (4 : Nat) (Option.some (Jvm.ClassFile.FieldType.array (Jvm.ClassFile.FieldType.object "java/lang/Object")))) ∈ lwG := lwG_2 169 (by decide +kernel) (by decide +kernel)
theorem q2_170 : (Jvm.Cond.classLink "java/util/Arrays" (110 : Nat) "[Ljava/lang/Object;") ∈ lwG := lwG_2 170 (by decide +kernel) (by decide +kernel)
theorem q2_171 : (Jvm.Cond.arrayOver (Jvm.ClassFile.FieldType.object "java/lang/Object")) ∈ tables_1 := lwT_2 171 (by decide +kernel)
theorem q2_172 : (Jvm.Cond.classLink "java/util/Arrays" (2 : Nat) "java/lang/Object") ∈ lwG := lwG_2 172 (by decide +kernel) (by decide +kernel)
theorem q2_173 : (Jvm.Cond.methodLink "java/util/Arrays" (304 : Nat) ({ cls := "java/lang/Math", name := "min", desc := "(II)I" } : Jvm.MethodName)) ∈ lwG := lwG_2 173 (by decide +kernel) (by decide +kernel)
theorem q2_174 : (Jvm.Cond.static ({ cls := "java/lang/Math", name := "min", desc := "(II)I" } : Jvm.MethodName)) ∈ lwG := lwG_2 174 (by decide +kernel) (by decide +kernel)
theorem q2_175 : (Jvm.Cond.code ({ cls := "java/lang/Math", name := "min", desc := "(II)I" } : Jvm.MethodName) prog_29_method_69_code (2 : Nat) (Option.some Jvm.ClassFile.FieldType.int)) ∈ lwG := lwG_2 175 (by decide +kernel) (by decide +kernel)
theorem q2_176 : (Jvm.Cond.methodLink "java/util/Arrays" (150 : Nat) ({ cls := "java/lang/System", name := "arraycopy", desc := "(Ljava/lang/Object;ILjava/lang/Object;II)V" } : Jvm.MethodName)) ∈ lwG := lwG_2 176 (by decide +kernel) (by decide +kernel)
theorem q2_177 : (Jvm.Cond.static ({ cls := "java/lang/System", name := "arraycopy", desc := "(Ljava/lang/Object;ILjava/lang/Object;II)V" } : Jvm.MethodName)) ∈ lwG := lwG_2 177 (by decide +kernel) (by decide +kernel)
theorem q2_178 : (Jvm.Cond.native ({ cls := "java/lang/System", name := "arraycopy", desc := "(Ljava/lang/Object;ILjava/lang/Object;II)V" } : Jvm.MethodName)) ∈ lwG := lwG_2 178 (by decide +kernel) (by decide +kernel)
theorem q2_179 : (Jvm.Cond.methodLink "java/util/ArrayList" (79 : Nat) ({ cls := "java/lang/Math", name := "max", desc := "(II)I" } : Jvm.MethodName)) ∈ lwG := lwG_2 179 (by decide +kernel) (by decide +kernel)
theorem q2_180 : (Jvm.Cond.classLink "java/util/ArrayList" (7 : Nat) "java/lang/Object") ∈ lwG := lwG_2 180 (by decide +kernel) (by decide +kernel)
theorem q2_181 : (Jvm.Cond.methodLink "TileWardenLaw" (109 : Nat) ({ cls := "TileWardenLaw", name := "open", desc := "(LTileWarden;II)I" } : Jvm.MethodName)) ∈ lwG := lwG_2 181 (by decide +kernel) (by decide +kernel)
theorem q2_182 : (Jvm.Cond.static ({ cls := "TileWardenLaw", name := "open", desc := "(LTileWarden;II)I" } : Jvm.MethodName)) ∈ lwG := lwG_2 182 (by decide +kernel) (by decide +kernel)
theorem q2_183 : (Jvm.Cond.codeWith ({ cls := "TileWardenLaw", name := "open", desc := "(LTileWarden;II)I" } : Jvm.MethodName) method_4_code (4 : Nat) (Option.some Jvm.ClassFile.FieldType.int) [((0 : Nat), (6 : Nat), (7 : Nat), (22 : Nat)), ((0 : Nat), (6 : Nat), (10 : Nat), (14 : Nat)), ((0 : Nat), (6 : Nat), (14 : Nat), (16 : Nat))]) ∈ lwG := lwG_2 183 (by decide +kernel) (by decide +kernel)
theorem q2_184 : (Jvm.Cond.classLink "TileWardenLaw" (22 : Nat) "java/lang/IndexOutOfBoundsException") ∈ lwG := lwG_2 184 (by decide +kernel) (by decide +kernel)
theorem q2_185 : (Jvm.Cond.instantiable "java/lang/ArrayIndexOutOfBoundsException" (6 : Nat)) ∈ lwG := lwG_2 185 (by decide +kernel) (by decide +kernel)
theorem q2_186 : (Jvm.Cond.instanceMethod ({ cls := "java/lang/ArrayIndexOutOfBoundsException", name := "<init>", desc := "(Ljava/lang/String;)V" } : Jvm.MethodName)) ∈ lwG := lwG_2 186 (by decide +kernel) (by decide +kernel)
theorem q2_187 : (Jvm.Cond.code ({ cls := "java/lang/ArrayIndexOutOfBoundsException", name := "<init>", desc := "(Ljava/lang/String;)V" } : Jvm.MethodName) prog_16_method_2_code (2 : Nat) (Option.none : Option Jvm.ClassFile.FieldType)) ∈ lwG := lwG_2 187 (by decide +kernel) (by decide +kernel)
theorem q2_188 : (Jvm.Cond.methodLink "java/lang/ArrayIndexOutOfBoundsException" (7 : Nat) ({ cls := "java/lang/IndexOutOfBoundsException", name := "<init>", desc := "(Ljava/lang/String;)V" } : Jvm.MethodName)) ∈ lwG := lwG_2 188 (by decide +kernel) (by decide +kernel)
theorem q2_189 : (Jvm.Cond.instanceMethod ({ cls := "java/lang/IndexOutOfBoundsException", name := "<init>", desc := "(Ljava/lang/String;)V" } : Jvm.MethodName)) ∈ lwG := lwG_2 189 (by decide +kernel) (by decide +kernel)
theorem q2_190 : (Jvm.Cond.code ({ cls := "java/lang/IndexOutOfBoundsException", name := "<init>", desc := "(Ljava/lang/String;)V" } : Jvm.MethodName) prog_25_method_2_code (2 : Nat) (Option.none : Option Jvm.ClassFile.FieldType)) ∈ lwG := lwG_2 190 (by decide +kernel) (by decide +kernel)
theorem q2_191 : (Jvm.Cond.methodLink "java/lang/IndexOutOfBoundsException" (7 : Nat) ({ cls := "java/lang/RuntimeException", name := "<init>", desc := "(Ljava/lang/String;)V" } : Jvm.MethodName)) ∈ lwG := lwG_2 191 (by decide +kernel) (by decide +kernel)
theorem q2_192 : (Jvm.Cond.lays "java/lang/ArrayIndexOutOfBoundsException" "java/lang/Throwable" "backtrace" "Ljava/lang/Object;") ∈ lwG := lwG_2 192 (by decide +kernel) (by decide +kernel)
theorem q2_193 : (Jvm.Cond.lays "java/lang/ArrayIndexOutOfBoundsException" "java/lang/Throwable" "detailMessage" "Ljava/lang/String;") ∈ lwG := lwG_2 193 (by decide +kernel) (by decide +kernel)
theorem q2_194 : (Jvm.Cond.lays "java/lang/ArrayIndexOutOfBoundsException" "java/lang/Throwable" "cause" "Ljava/lang/Throwable;") ∈ lwG := lwG_2 194 (by decide +kernel) (by decide +kernel)
theorem q2_195 : (Jvm.Cond.lays "java/lang/ArrayIndexOutOfBoundsException" "java/lang/Throwable" "stackTrace" "[Ljava/lang/StackTraceElement;") ∈ lwG := lwG_2 195 (by decide +kernel) (by decide +kernel)
theorem q2_196 : (Jvm.Cond.lays "java/lang/ArrayIndexOutOfBoundsException" "java/lang/Throwable" "depth" "I") ∈ lwG := lwG_2 196 (by decide +kernel) (by decide +kernel)
theorem q2_197 : (Jvm.Cond.lays "java/lang/ArrayIndexOutOfBoundsException" "java/lang/Throwable" "suppressedExceptions" "Ljava/util/List;") ∈ lwG := lwG_2 197 (by decide +kernel) (by decide +kernel)
theorem q2_198 : (Jvm.Cond.superclass "java/lang/ArrayIndexOutOfBoundsException" "java/lang/IndexOutOfBoundsException") ∈ lwG := lwG_2 198 (by decide +kernel) (by decide +kernel)
theorem q2_199 : (Jvm.Cond.castable "java/lang/ArrayIndexOutOfBoundsException" "java/lang/ArrayIndexOutOfBoundsException") ∈ tables_1 := lwT_2 199 (by decide +kernel)
theorem q2_200 : (Jvm.Cond.declares ({ cls := "java/lang/IndexOutOfBoundsException", name := "<init>", desc := "()V" } : Jvm.MethodName)) ∈ tables_1 := lwT_2 200 (by decide +kernel)
theorem q2_201 : (Jvm.Cond.declares ({ cls := "java/lang/IndexOutOfBoundsException", name := "<init>", desc := "(Ljava/lang/String;)V" } : Jvm.MethodName)) ∈ tables_1 := lwT_2 201 (by decide +kernel)
theorem q2_202 : (Jvm.Cond.selects "java/lang/ArrayIndexOutOfBoundsException" ({ cls := "java/lang/Throwable", name := "fillInStackTrace", desc := "(I)Ljava/lang/Throwable;" } : Jvm.MethodName) ({ cls := "java/lang/Throwable", name := "fillInStackTrace", desc := "(I)Ljava/lang/Throwable;" } : Jvm.MethodName)) ∈ lwG := lwG_2 202 (by decide +kernel) (by decide +kernel)
theorem q2_203 : (Jvm.Cond.instantiable "java/lang/String" (4 : Nat)) ∈ lwG := lwG_2 203 (by decide +kernel) (by decide +kernel)
theorem q2_204 : (Jvm.Cond.laysFinal "java/lang/String" "java/lang/String" "value" "[B") ∈ lwG := lwG_2 204 (by decide +kernel) (by decide +kernel)
theorem q2_205 : (Jvm.Cond.soleField "java/lang/String" "value") ∈ tables_1 := lwT_2 205 (by decide +kernel)
theorem q2_206 : (Jvm.Cond.laysFinal "java/lang/String" "java/lang/String" "coder" "B") ∈ lwG := lwG_2 206 (by decide +kernel) (by decide +kernel)
theorem q2_207 : (Jvm.Cond.soleField "java/lang/String" "coder") ∈ tables_1 := lwT_2 207 (by decide +kernel)
theorem q2_208 : (Jvm.Cond.methodLink "TileWardenLaw" (18 : Nat) ({ cls := "TileWarden", name := "open", desc := "(II)I" } : Jvm.MethodName)) ∈ lwG := lwG_2 208 (by decide +kernel) (by decide +kernel)
theorem q2_209 : (Jvm.Cond.instanceMethod ({ cls := "TileWarden", name := "open", desc := "(II)I" } : Jvm.MethodName)) ∈ lwG := lwG_2 209 (by decide +kernel) (by decide +kernel)
theorem q2_210 : (Jvm.Cond.selects "TileWarden" ({ cls := "TileWarden", name := "open", desc := "(II)I" } : Jvm.MethodName) ({ cls := "TileWarden", name := "open", desc := "(II)I" } : Jvm.MethodName)) ∈ lwG := lwG_2 210 (by decide +kernel) (by decide +kernel)
theorem q2_211 : (Jvm.Cond.code ({ cls := "TileWarden", name := "open", desc := "(II)I" } : Jvm.MethodName) prog_1_method_3_code (4 : Nat) (Option.some Jvm.ClassFile.FieldType.int)) ∈ lwG := lwG_2 211 (by decide +kernel) (by decide +kernel)
theorem q2_212 : (Jvm.Cond.methodLink "TileWarden" (88 : Nat) ({ cls := "TileWarden", name := "findPlayer", desc := "(I)LTileWarden$Player;" } : Jvm.MethodName)) ∈ lwG := lwG_2 212 (by decide +kernel) (by decide +kernel)
theorem q2_213 : (Jvm.Cond.privateMethod ({ cls := "TileWarden", name := "findPlayer", desc := "(I)LTileWarden$Player;" } : Jvm.MethodName)) ∈ tables_1 := lwT_2 213 (by decide +kernel)
theorem q2_214 : (Jvm.Cond.instanceMethod ({ cls := "TileWarden", name := "findPlayer", desc := "(I)LTileWarden$Player;" } : Jvm.MethodName)) ∈ lwG := lwG_2 214 (by decide +kernel) (by decide +kernel)
theorem q2_215 : (Jvm.Cond.code ({ cls := "TileWarden", name := "findPlayer", desc := "(I)LTileWarden$Player;" } : Jvm.MethodName) prog_1_method_31_code (2 : Nat) (Option.some (Jvm.ClassFile.FieldType.object "TileWarden$Player"))) ∈ lwG := lwG_2 215 (by decide +kernel) (by decide +kernel)
theorem q2_216 : (Jvm.Cond.classLink "TileWarden" (267 : Nat) "java/lang/IndexOutOfBoundsException") ∈ lwG := lwG_2 216 (by decide +kernel) (by decide +kernel)
theorem q2_217 : (Jvm.Cond.instantiable "java/lang/IndexOutOfBoundsException" (6 : Nat)) ∈ lwG := lwG_2 217 (by decide +kernel) (by decide +kernel)
theorem q2_218 : (Jvm.Cond.castable "java/lang/IndexOutOfBoundsException" "java/lang/IndexOutOfBoundsException") ∈ tables_1 := lwT_2 218 (by decide +kernel)
theorem q2_219 : (Jvm.Cond.selects "java/lang/IndexOutOfBoundsException" ({ cls := "java/lang/Throwable", name := "fillInStackTrace", desc := "(I)Ljava/lang/Throwable;" } : Jvm.MethodName) ({ cls := "java/lang/Throwable", name := "fillInStackTrace", desc := "(I)Ljava/lang/Throwable;" } : Jvm.MethodName)) ∈ lwG := lwG_2 219 (by decide +kernel) (by decide +kernel)
theorem q2_220 : (Jvm.Cond.lays "java/lang/IndexOutOfBoundsException" "java/lang/Throwable" "cause" "Ljava/lang/Throwable;") ∈ lwG := lwG_2 220 (by decide +kernel) (by decide +kernel)
theorem q2_221 : (Jvm.Cond.lays "java/lang/IndexOutOfBoundsException" "java/lang/Throwable" "stackTrace" "[Ljava/lang/StackTraceElement;") ∈ lwG := lwG_2 221 (by decide +kernel) (by decide +kernel)
theorem q2_222 : (Jvm.Cond.lays "java/lang/IndexOutOfBoundsException" "java/lang/Throwable" "suppressedExceptions" "Ljava/util/List;") ∈ lwG := lwG_2 222 (by decide +kernel) (by decide +kernel)
theorem q2_223 : (Jvm.Cond.lays "java/lang/IndexOutOfBoundsException" "java/lang/Throwable" "detailMessage" "Ljava/lang/String;") ∈ lwG := lwG_2 223 (by decide +kernel) (by decide +kernel)
theorem q2_224 : (Jvm.Cond.lays "java/lang/IndexOutOfBoundsException" "java/lang/Throwable" "backtrace" "Ljava/lang/Object;") ∈ lwG := lwG_2 224 (by decide +kernel) (by decide +kernel)
theorem q2_225 : (Jvm.Cond.stringRef "TileWarden" (269 : Nat) "there is no such player") ∈ tables_1 := lwT_2 225 (by decide +kernel)
theorem q2_226 : (Jvm.Cond.methodLink "TileWarden" (271 : Nat) ({ cls := "java/lang/IndexOutOfBoundsException", name := "<init>", desc := "(Ljava/lang/String;)V" } : Jvm.MethodName)) ∈ lwG := lwG_2 226 (by decide +kernel) (by decide +kernel)
theorem q2_227 : (Jvm.Cond.lays "java/lang/IndexOutOfBoundsException" "java/lang/Throwable" "depth" "I") ∈ lwG := lwG_2 227 (by decide +kernel) (by decide +kernel)
theorem q2_228 : (Jvm.Cond.superclass "java/lang/IndexOutOfBoundsException" "java/lang/RuntimeException") ∈ lwG := lwG_2 228 (by decide +kernel) (by decide +kernel)
theorem q2_229 : (Jvm.Cond.methodLink "TileWarden" (272 : Nat) ({ cls := "java/util/ArrayList", name := "get", desc := "(I)Ljava/lang/Object;" } : Jvm.MethodName)) ∈ lwG := lwG_2 229 (by decide +kernel) (by decide +kernel)
theorem q2_230 : (Jvm.Cond.instanceMethod ({ cls := "java/util/ArrayList", name := "get", desc := "(I)Ljava/lang/Object;" } : Jvm.MethodName)) ∈ lwG := lwG_2 230 (by decide +kernel) (by decide +kernel)
theorem q2_231 : (Jvm.Cond.selects "java/util/ArrayList" ({ cls := "java/util/ArrayList", name := "get", desc := "(I)Ljava/lang/Object;" } : Jvm.MethodName) ({ cls := "java/util/ArrayList", name := "get", desc := "(I)Ljava/lang/Object;" } : Jvm.MethodName)) ∈ lwG := lwG_2 231 (by decide +kernel) (by decide +kernel)
theorem q2_232 : (Jvm.Cond.code ({ cls := "java/util/ArrayList", name := "get", desc := "(I)Ljava/lang/Object;" } : Jvm.MethodName) prog_44_method_20_code (2 : Nat) (Option.some (Jvm.ClassFile.FieldType.object "java/lang/Object"))) ∈ lwG := lwG_2 232 (by decide +kernel) (by decide +kernel)
theorem q2_233 : (Jvm.Cond.methodLink "java/util/ArrayList" (118 : Nat) ({ cls := "java/util/Objects", name := "checkIndex", desc := "(II)I" } : Jvm.MethodName)) ∈ lwG := lwG_2 233 (by decide +kernel) (by decide +kernel)
theorem q2_234 : (Jvm.Cond.static ({ cls := "java/util/Objects", name := "checkIndex", desc := "(II)I" } : Jvm.MethodName)) ∈ lwG := lwG_2 234 (by decide +kernel) (by decide +kernel)
theorem q2_235 : (Jvm.Cond.code ({ cls := "java/util/Objects", name := "checkIndex", desc := "(II)I" } : Jvm.MethodName) prog_49_method_17_code (2 : Nat) (Option.some Jvm.ClassFile.FieldType.int)) ∈ lwG := lwG_2 235 (by decide +kernel) (by decide +kernel)
theorem q2_236 : (Jvm.Cond.methodLink "java/util/Objects" (105 : Nat) ({ cls := "jdk/internal/util/Preconditions", name := "checkIndex", desc := "(IILjava/util/function/BiFunction;)I" } : Jvm.MethodName)) ∈ lwG := lwG_2 236 (by decide +kernel) (by decide +kernel)
theorem q2_237 : (Jvm.Cond.static ({ cls := "jdk/internal/util/Preconditions", name := "checkIndex", desc := "(IILjava/util/function/BiFunction;)I" } : Jvm.MethodName)) ∈ lwG := lwG_2 237 (by decide +kernel) (by decide +kernel)
theorem q2_238 : (Jvm.Cond.code ({ cls := "jdk/internal/util/Preconditions", name := "checkIndex", desc := "(IILjava/util/function/BiFunction;)I" } : Jvm.MethodName) prog_57_method_11_code (3 : Nat) (Option.some Jvm.ClassFile.FieldType.int)) ∈ lwG := lwG_2 238 (by decide +kernel) (by decide +kernel)
theorem q2_239 : (Jvm.Cond.methodLink "java/util/ArrayList" (123 : Nat) ({ cls := "java/util/ArrayList", name := "elementData", desc := "(I)Ljava/lang/Object;" } : Jvm.MethodName)) ∈ lwG := lwG_2 239 (by decide +kernel) (by decide +kernel)
theorem q3_0 : (Jvm.Cond.instanceMethod ({ cls := "java/util/ArrayList", name := "elementData", desc := "(I)Ljava/lang/Object;" } : Jvm.MethodName)) ∈ lwG := lwG_3 0 (by decide +kernel) (by decide +kernel)
theorem q3_1 : (Jvm.Cond.selects "java/util/ArrayList" ({ cls := "java/util/ArrayList", name := "elementData", desc := "(I)Ljava/lang/Object;" } : Jvm.MethodName) ({ cls := "java/util/ArrayList", name := "elementData", desc := "(I)Ljava/lang/Object;" } : Jvm.MethodName)) ∈ lwG := lwG_3 1 (by decide +kernel) (by decide +kernel)
theorem q3_2 : (Jvm.Cond.code ({ cls := "java/util/ArrayList", name := "elementData", desc := "(I)Ljava/lang/Object;" } : Jvm.MethodName) prog_44_method_18_code (2 : Nat) (Option.some (Jvm.ClassFile.FieldType.object "java/lang/Object"))) ∈ lwG := lwG_3 2 (by decide +kernel) (by decide +kernel)
theorem q3_3 : (Jvm.Cond.stringRef "TileWarden" (92 : Nat) "the seed is less than 0") ∈ tables_1 := lwT_3 3 (by decide +kernel)
theorem q3_4 : (Jvm.Cond.stringRef "TileWarden" (94 : Nat) "there is no place for another game") ∈ tables_1 := lwT_3 4 (by decide +kernel)
theorem q3_5 : (Jvm.Cond.classLink "TileWarden" (96 : Nat) "TileWarden$Game") ∈ lwG := lwG_3 5 (by decide +kernel) (by decide +kernel)
theorem q3_6 : (Jvm.Cond.instantiable "TileWarden$Game" (10 : Nat)) ∈ lwG := lwG_3 6 (by decide +kernel) (by decide +kernel)
theorem q3_7 : (Jvm.Cond.methodLink "TileWarden" (98 : Nat) ({ cls := "TileWarden$Game", name := "<init>", desc := "(LTileWarden$Player;II)V" } : Jvm.MethodName)) ∈ lwG := lwG_3 7 (by decide +kernel) (by decide +kernel)
theorem q3_8 : (Jvm.Cond.instanceMethod ({ cls := "TileWarden$Game", name := "<init>", desc := "(LTileWarden$Player;II)V" } : Jvm.MethodName)) ∈ lwG := lwG_3 8 (by decide +kernel) (by decide +kernel)
theorem q3_9 : (Jvm.Cond.code ({ cls := "TileWarden$Game", name := "<init>", desc := "(LTileWarden$Player;II)V" } : Jvm.MethodName) prog_5_method_1_code (5 : Nat) (Option.none : Option Jvm.ClassFile.FieldType)) ∈ lwG := lwG_3 9 (by decide +kernel) (by decide +kernel)
theorem q3_10 : (Jvm.Cond.methodLink "TileWarden$Game" (1 : Nat) ({ cls := "java/lang/Object", name := "<init>", desc := "()V" } : Jvm.MethodName)) ∈ lwG := lwG_3 10 (by decide +kernel) (by decide +kernel)
theorem q3_11 : (Jvm.Cond.methodLink "TileWarden$Game" (36 : Nat) ({ cls := "TileWarden$Boards", name := "drawnZ", desc := "(I)I" } : Jvm.MethodName)) ∈ lwG := lwG_3 11 (by decide +kernel) (by decide +kernel)
theorem q3_12 : (Jvm.Cond.static ({ cls := "TileWarden$Boards", name := "drawnZ", desc := "(I)I" } : Jvm.MethodName)) ∈ lwG := lwG_3 12 (by decide +kernel) (by decide +kernel)
theorem q3_13 : (Jvm.Cond.code ({ cls := "TileWarden$Boards", name := "drawnZ", desc := "(I)I" } : Jvm.MethodName) prog_2_method_8_code (1 : Nat) (Option.some Jvm.ClassFile.FieldType.int)) ∈ lwG := lwG_3 13 (by decide +kernel) (by decide +kernel)
theorem q3_14 : (Jvm.Cond.methodLink "TileWarden$Boards" (40 : Nat) ({ cls := "TileWarden$Boards", name := "nextZ", desc := "(I)I" } : Jvm.MethodName)) ∈ lwG := lwG_3 14 (by decide +kernel) (by decide +kernel)
theorem q3_15 : (Jvm.Cond.static ({ cls := "TileWarden$Boards", name := "nextZ", desc := "(I)I" } : Jvm.MethodName)) ∈ lwG := lwG_3 15 (by decide +kernel) (by decide +kernel)
theorem q3_16 : (Jvm.Cond.code ({ cls := "TileWarden$Boards", name := "nextZ", desc := "(I)I" } : Jvm.MethodName) prog_2_method_9_code (1 : Nat) (Option.some Jvm.ClassFile.FieldType.int)) ∈ lwG := lwG_3 16 (by decide +kernel) (by decide +kernel)
theorem q3_17 : (Jvm.Cond.constant "TileWarden$Boards" (49 : Nat) (1103515245 : Int32)) ∈ lwG := lwG_3 17 (by decide +kernel) (by decide +kernel)
theorem q3_18 : (Jvm.Cond.constant "TileWarden$Boards" (50 : Nat) (2147483647 : Int32)) ∈ lwG := lwG_3 18 (by decide +kernel) (by decide +kernel)
theorem q3_19 : (Jvm.Cond.methodLink "TileWarden$Game" (42 : Nat) ({ cls := "TileWarden$Boards", name := "drawn", desc := "(JI)J" } : Jvm.MethodName)) ∈ lwG := lwG_3 19 (by decide +kernel) (by decide +kernel)
theorem q3_20 : (Jvm.Cond.static ({ cls := "TileWarden$Boards", name := "drawn", desc := "(JI)J" } : Jvm.MethodName)) ∈ lwG := lwG_3 20 (by decide +kernel) (by decide +kernel)
theorem q3_21 : (Jvm.Cond.code ({ cls := "TileWarden$Boards", name := "drawn", desc := "(JI)J" } : Jvm.MethodName) prog_2_method_7_code (9 : Nat) (Option.some Jvm.ClassFile.FieldType.long)) ∈ lwG := lwG_3 21 (by decide +kernel) (by decide +kernel)
theorem q3_22 : (Jvm.Cond.methodLink "TileWarden$Boards" (36 : Nat) ({ cls := "TileWarden$Boards", name := "countEmpty", desc := "(J)I" } : Jvm.MethodName)) ∈ lwG := lwG_3 22 (by decide +kernel) (by decide +kernel)
theorem q3_23 : (Jvm.Cond.static ({ cls := "TileWarden$Boards", name := "countEmpty", desc := "(J)I" } : Jvm.MethodName)) ∈ lwG := lwG_3 23 (by decide +kernel) (by decide +kernel)
theorem q3_24 : (Jvm.Cond.code ({ cls := "TileWarden$Boards", name := "countEmpty", desc := "(J)I" } : Jvm.MethodName) prog_2_method_10_code (4 : Nat) (Option.some Jvm.ClassFile.FieldType.int)) ∈ lwG := lwG_3 24 (by decide +kernel) (by decide +kernel)
theorem q3_25 : (Jvm.Cond.methodLink "TileWarden$Boards" (45 : Nat) ({ cls := "TileWarden$Boards", name := "tileAt", desc := "(JI)I" } : Jvm.MethodName)) ∈ lwG := lwG_3 25 (by decide +kernel) (by decide +kernel)
theorem q3_26 : (Jvm.Cond.static ({ cls := "TileWarden$Boards", name := "tileAt", desc := "(JI)I" } : Jvm.MethodName)) ∈ lwG := lwG_3 26 (by decide +kernel) (by decide +kernel)
theorem q3_27 : (Jvm.Cond.code ({ cls := "TileWarden$Boards", name := "tileAt", desc := "(JI)I" } : Jvm.MethodName) prog_2_method_2_code (3 : Nat) (Option.some Jvm.ClassFile.FieldType.int)) ∈ lwG := lwG_3 27 (by decide +kernel) (by decide +kernel)
theorem q3_28 : (Jvm.Cond.constantLong "TileWarden$Boards" (43 : Nat) (2 : Int64)) ∈ lwG := lwG_3 28 (by decide +kernel) (by decide +kernel)
theorem q3_29 : (Jvm.Cond.fieldLink "TileWarden$Trace" (7 : Nat) "TileWarden$Game" "owner" "LTileWarden$Player;") ∈ lwG := lwG_3 29 (by decide +kernel) (by decide +kernel)
theorem q3_30 : (Jvm.Cond.fieldLink "TileWarden$Game" (29 : Nat) "TileWarden$Game" "owner" "LTileWarden$Player;") ∈ lwG := lwG_3 30 (by decide +kernel) (by decide +kernel)
theorem q3_31 : (Jvm.Cond.fieldLink "TileWarden" (168 : Nat) "TileWarden$Game" "owner" "LTileWarden$Player;") ∈ lwG := lwG_3 31 (by decide +kernel) (by decide +kernel)
theorem q3_32 : (Jvm.Cond.fieldLink "TileWarden$Game" (33 : Nat) "TileWarden$Game" "pinBit" "I") ∈ lwG := lwG_3 32 (by decide +kernel) (by decide +kernel)
theorem q3_33 : (Jvm.Cond.fieldLink "TileWarden" (221 : Nat) "TileWarden$Game" "pinBit" "I") ∈ lwG := lwG_3 33 (by decide +kernel) (by decide +kernel)
theorem q3_34 : (Jvm.Cond.fieldLink "TileWarden$Trace" (24 : Nat) "TileWarden$Game" "board" "J") ∈ lwG := lwG_3 34 (by decide +kernel) (by decide +kernel)
theorem q3_35 : (Jvm.Cond.fieldLink "TileWarden$Game" (46 : Nat) "TileWarden$Game" "board" "J") ∈ lwG := lwG_3 35 (by decide +kernel) (by decide +kernel)
theorem q3_36 : (Jvm.Cond.fieldLink "TileWarden" (112 : Nat) "TileWarden$Game" "board" "J") ∈ lwG := lwG_3 36 (by decide +kernel) (by decide +kernel)
theorem q3_37 : (Jvm.Cond.fieldLink "TileWarden$Trace" (29 : Nat) "TileWarden$Game" "z" "I") ∈ lwG := lwG_3 37 (by decide +kernel) (by decide +kernel)
theorem q3_38 : (Jvm.Cond.fieldLink "TileWarden$Game" (50 : Nat) "TileWarden$Game" "z" "I") ∈ lwG := lwG_3 38 (by decide +kernel) (by decide +kernel)
theorem q3_39 : (Jvm.Cond.fieldLink "TileWarden" (188 : Nat) "TileWarden$Game" "z" "I") ∈ lwG := lwG_3 39 (by decide +kernel) (by decide +kernel)
theorem q3_40 : (Jvm.Cond.fieldLink "TileWarden$Game" (7 : Nat) "TileWarden$Game" "score" "I") ∈ lwG := lwG_3 40 (by decide +kernel) (by decide +kernel)
theorem q3_41 : (Jvm.Cond.fieldLink "TileWarden" (144 : Nat) "TileWarden$Game" "score" "I") ∈ lwG := lwG_3 41 (by decide +kernel) (by decide +kernel)
theorem q3_42 : (Jvm.Cond.fieldLink "TileWarden$Game" (13 : Nat) "TileWarden$Game" "pushCount" "I") ∈ lwG := lwG_3 42 (by decide +kernel) (by decide +kernel)
theorem q3_43 : (Jvm.Cond.fieldLink "TileWarden" (147 : Nat) "TileWarden$Game" "pushCount" "I") ∈ lwG := lwG_3 43 (by decide +kernel) (by decide +kernel)
theorem q3_44 : (Jvm.Cond.fieldLink "TileWarden$Game" (16 : Nat) "TileWarden$Game" "row" "I") ∈ lwG := lwG_3 44 (by decide +kernel) (by decide +kernel)
theorem q3_45 : (Jvm.Cond.fieldLink "TileWarden$Game" (19 : Nat) "TileWarden$Game" "longestRow" "I") ∈ lwG := lwG_3 45 (by decide +kernel) (by decide +kernel)
theorem q3_46 : (Jvm.Cond.fieldLink "TileWarden" (230 : Nat) "TileWarden$Game" "longestRow" "I") ∈ lwG := lwG_3 46 (by decide +kernel) (by decide +kernel)
theorem q3_47 : (Jvm.Cond.fieldLink "TileWarden$Game" (22 : Nat) "TileWarden$Game" "paid" "I") ∈ lwG := lwG_3 47 (by decide +kernel) (by decide +kernel)
theorem q3_48 : (Jvm.Cond.fieldLink "TileWarden" (237 : Nat) "TileWarden$Game" "paid" "I") ∈ lwG := lwG_3 48 (by decide +kernel) (by decide +kernel)
theorem q3_49 : (Jvm.Cond.fieldLink "TileWarden$Game" (25 : Nat) "TileWarden$Game" "voided" "Z") ∈ lwG := lwG_3 49 (by decide +kernel) (by decide +kernel)
theorem q3_50 : (Jvm.Cond.fieldLink "TileWarden" (108 : Nat) "TileWarden$Game" "voided" "Z") ∈ lwG := lwG_3 50 (by decide +kernel) (by decide +kernel)
theorem q3_51 : (Jvm.Cond.laysFinal "TileWarden$Game" "TileWarden$Game" "owner" "LTileWarden$Player;") ∈ lwG := lwG_3 51 (by decide +kernel) (by decide +kernel)
theorem q3_52 : (Jvm.Cond.soleField "TileWarden$Game" "owner") ∈ tables_1 := lwT_3 52 (by decide +kernel)
theorem q3_53 : (Jvm.Cond.laysFinal "TileWarden$Game" "TileWarden$Game" "pinBit" "I") ∈ lwG := lwG_3 53 (by decide +kernel) (by decide +kernel)
theorem q3_54 : (Jvm.Cond.soleField "TileWarden$Game" "pinBit") ∈ tables_1 := lwT_3 54 (by decide +kernel)
theorem q3_55 : (Jvm.Cond.lays "TileWarden$Game" "TileWarden$Game" "board" "J") ∈ lwG := lwG_3 55 (by decide +kernel) (by decide +kernel)
theorem q3_56 : (Jvm.Cond.soleField "TileWarden$Game" "board") ∈ tables_1 := lwT_3 56 (by decide +kernel)
theorem q3_57 : (Jvm.Cond.lays "TileWarden$Game" "TileWarden$Game" "z" "I") ∈ lwG := lwG_3 57 (by decide +kernel) (by decide +kernel)
theorem q3_58 : (Jvm.Cond.soleField "TileWarden$Game" "z") ∈ tables_1 := lwT_3 58 (by decide +kernel)
theorem q3_59 : (Jvm.Cond.lays "TileWarden$Game" "TileWarden$Game" "score" "I") ∈ lwG := lwG_3 59 (by decide +kernel) (by decide +kernel)
theorem q3_60 : (Jvm.Cond.soleField "TileWarden$Game" "score") ∈ tables_1 := lwT_3 60 (by decide +kernel)
theorem q3_61 : (Jvm.Cond.lays "TileWarden$Game" "TileWarden$Game" "pushCount" "I") ∈ lwG := lwG_3 61 (by decide +kernel) (by decide +kernel)
theorem q3_62 : (Jvm.Cond.soleField "TileWarden$Game" "pushCount") ∈ tables_1 := lwT_3 62 (by decide +kernel)
theorem q3_63 : (Jvm.Cond.lays "TileWarden$Game" "TileWarden$Game" "row" "I") ∈ lwG := lwG_3 63 (by decide +kernel) (by decide +kernel)
theorem q3_64 : (Jvm.Cond.soleField "TileWarden$Game" "row") ∈ tables_1 := lwT_3 64 (by decide +kernel)
theorem q3_65 : (Jvm.Cond.lays "TileWarden$Game" "TileWarden$Game" "longestRow" "I") ∈ lwG := lwG_3 65 (by decide +kernel) (by decide +kernel)
theorem q3_66 : (Jvm.Cond.soleField "TileWarden$Game" "longestRow") ∈ tables_1 := lwT_3 66 (by decide +kernel)
theorem q3_67 : (Jvm.Cond.lays "TileWarden$Game" "TileWarden$Game" "paid" "I") ∈ lwG := lwG_3 67 (by decide +kernel) (by decide +kernel)
theorem q3_68 : (Jvm.Cond.soleField "TileWarden$Game" "paid") ∈ tables_1 := lwT_3 68 (by decide +kernel)
theorem q3_69 : (Jvm.Cond.lays "TileWarden$Game" "TileWarden$Game" "voided" "Z") ∈ lwG := lwG_3 69 (by decide +kernel) (by decide +kernel)
theorem q3_70 : (Jvm.Cond.soleField "TileWarden$Game" "voided") ∈ tables_1 := lwT_3 70 (by decide +kernel)
theorem q3_71 : (Jvm.Cond.superclass "TileWarden$Game" "java/lang/Object") ∈ lwG := lwG_3 71 (by decide +kernel) (by decide +kernel)
theorem q3_72 : (Jvm.Cond.methodLink "TileWardenLaw" (114 : Nat) ({ cls := "TileWardenLaw", name := "push", desc := "(LTileWarden;II)I" } : Jvm.MethodName)) ∈ lwG := lwG_3 72 (by decide +kernel) (by decide +kernel)
theorem q3_73 : (Jvm.Cond.static ({ cls := "TileWardenLaw", name := "push", desc := "(LTileWarden;II)I" } : Jvm.MethodName)) ∈ lwG := lwG_3 73 (by decide +kernel) (by decide +kernel)
theorem q3_74 : (Jvm.Cond.codeWith ({ cls := "TileWardenLaw", name := "push", desc := "(LTileWarden;II)I" } : Jvm.MethodName) method_5_code (4 : Nat) (Option.some Jvm.ClassFile.FieldType.int) [((0 : Nat), (6 : Nat), (7 : Nat), (22 : Nat)), ((0 : Nat), (6 : Nat), (10 : Nat), (14 : Nat)), ((0 : Nat), (6 : Nat), (14 : Nat), (27 : Nat))]) ∈ lwG := lwG_3 74 (by decide +kernel) (by decide +kernel)
theorem q3_75 : (Jvm.Cond.classLink "TileWardenLaw" (27 : Nat) "java/lang/UnsupportedOperationException") ∈ lwG := lwG_3 75 (by decide +kernel) (by decide +kernel)
theorem q3_76 : (Jvm.Cond.methodLink "TileWardenLaw" (24 : Nat) ({ cls := "TileWarden", name := "push", desc := "(II)I" } : Jvm.MethodName)) ∈ lwG := lwG_3 76 (by decide +kernel) (by decide +kernel)
theorem q3_77 : (Jvm.Cond.instanceMethod ({ cls := "TileWarden", name := "push", desc := "(II)I" } : Jvm.MethodName)) ∈ lwG := lwG_3 77 (by decide +kernel) (by decide +kernel)
theorem q3_78 : (Jvm.Cond.selects "TileWarden" ({ cls := "TileWarden", name := "push", desc := "(II)I" } : Jvm.MethodName) ({ cls := "TileWarden", name := "push", desc := "(II)I" } : Jvm.MethodName)) ∈ lwG := lwG_3 78 (by decide +kernel) (by decide +kernel)
theorem q3_79 : (Jvm.Cond.code ({ cls := "TileWarden", name := "push", desc := "(II)I" } : Jvm.MethodName) prog_1_method_4_code (4 : Nat) (Option.some Jvm.ClassFile.FieldType.int)) ∈ lwG := lwG_3 79 (by decide +kernel) (by decide +kernel)
theorem q3_80 : (Jvm.Cond.methodLink "TileWarden" (101 : Nat) ({ cls := "TileWarden", name := "findGame", desc := "(I)LTileWarden$Game;" } : Jvm.MethodName)) ∈ lwG := lwG_3 80 (by decide +kernel) (by decide +kernel)
theorem q3_81 : (Jvm.Cond.privateMethod ({ cls := "TileWarden", name := "findGame", desc := "(I)LTileWarden$Game;" } : Jvm.MethodName)) ∈ tables_1 := lwT_3 81 (by decide +kernel)
theorem q3_82 : (Jvm.Cond.instanceMethod ({ cls := "TileWarden", name := "findGame", desc := "(I)LTileWarden$Game;" } : Jvm.MethodName)) ∈ lwG := lwG_3 82 (by decide +kernel) (by decide +kernel)
theorem q3_83 : (Jvm.Cond.code ({ cls := "TileWarden", name := "findGame", desc := "(I)LTileWarden$Game;" } : Jvm.MethodName) prog_1_method_32_code (2 : Nat) (Option.some (Jvm.ClassFile.FieldType.object "TileWarden$Game"))) ∈ lwG := lwG_3 83 (by decide +kernel) (by decide +kernel)
theorem q3_84 : (Jvm.Cond.stringRef "TileWarden" (276 : Nat) "there is no such game") ∈ tables_1 := lwT_3 84 (by decide +kernel)
theorem q3_85 : (Jvm.Cond.methodLink "TileWarden" (105 : Nat) ({ cls := "TileWarden", name := "checkWay", desc := "(I)V" } : Jvm.MethodName)) ∈ lwG := lwG_3 85 (by decide +kernel) (by decide +kernel)
theorem q3_86 : (Jvm.Cond.static ({ cls := "TileWarden", name := "checkWay", desc := "(I)V" } : Jvm.MethodName)) ∈ lwG := lwG_3 86 (by decide +kernel) (by decide +kernel)
theorem q3_87 : (Jvm.Cond.code ({ cls := "TileWarden", name := "checkWay", desc := "(I)V" } : Jvm.MethodName) prog_1_method_34_code (1 : Nat) (Option.none : Option Jvm.ClassFile.FieldType)) ∈ lwG := lwG_3 87 (by decide +kernel) (by decide +kernel)
theorem q3_88 : (Jvm.Cond.stringRef "TileWarden" (280 : Nat) "there is no such way") ∈ tables_1 := lwT_3 88 (by decide +kernel)
theorem q3_89 : (Jvm.Cond.methodLink "TileWarden" (115 : Nat) ({ cls := "TileWarden$Boards", name := "canGo", desc := "(JI)Z" } : Jvm.MethodName)) ∈ lwG := lwG_3 89 (by decide +kernel) (by decide +kernel)
theorem q3_90 : (Jvm.Cond.static ({ cls := "TileWarden$Boards", name := "canGo", desc := "(JI)Z" } : Jvm.MethodName)) ∈ lwG := lwG_3 90 (by decide +kernel) (by decide +kernel)
theorem q3_91 : (Jvm.Cond.code ({ cls := "TileWarden$Boards", name := "canGo", desc := "(JI)Z" } : Jvm.MethodName) prog_2_method_3_code (3 : Nat) (Option.some Jvm.ClassFile.FieldType.boolean)) ∈ lwG := lwG_3 91 (by decide +kernel) (by decide +kernel)
theorem q3_92 : (Jvm.Cond.methodLink "TileWarden$Boards" (9 : Nat) ({ cls := "TileWarden$Boards", name := "pushed", desc := "(JI)J" } : Jvm.MethodName)) ∈ lwG := lwG_3 92 (by decide +kernel) (by decide +kernel)
theorem q3_93 : (Jvm.Cond.static ({ cls := "TileWarden$Boards", name := "pushed", desc := "(JI)J" } : Jvm.MethodName)) ∈ lwG := lwG_3 93 (by decide +kernel) (by decide +kernel)
theorem q3_94 : (Jvm.Cond.code ({ cls := "TileWarden$Boards", name := "pushed", desc := "(JI)J" } : Jvm.MethodName) prog_2_method_5_code (10 : Nat) (Option.some Jvm.ClassFile.FieldType.long)) ∈ lwG := lwG_3 94 (by decide +kernel) (by decide +kernel)
theorem q3_95 : (Jvm.Cond.methodLink "TileWarden$Boards" (17 : Nat) ({ cls := "TileWarden$Boards", name := "gathered", desc := "(JII)I" } : Jvm.MethodName)) ∈ lwG := lwG_3 95 (by decide +kernel) (by decide +kernel)
theorem q3_96 : (Jvm.Cond.static ({ cls := "TileWarden$Boards", name := "gathered", desc := "(JII)I" } : Jvm.MethodName)) ∈ lwG := lwG_3 96 (by decide +kernel) (by decide +kernel)
theorem q3_97 : (Jvm.Cond.code ({ cls := "TileWarden$Boards", name := "gathered", desc := "(JII)I" } : Jvm.MethodName) prog_2_method_13_code (8 : Nat) (Option.some Jvm.ClassFile.FieldType.int)) ∈ lwG := lwG_3 97 (by decide +kernel) (by decide +kernel)
theorem q3_98 : (Jvm.Cond.methodLink "TileWarden$Boards" (29 : Nat) ({ cls := "TileWarden$Boards", name := "cellOf", desc := "(III)I" } : Jvm.MethodName)) ∈ lwG := lwG_3 98 (by decide +kernel) (by decide +kernel)
theorem q3_99 : (Jvm.Cond.static ({ cls := "TileWarden$Boards", name := "cellOf", desc := "(III)I" } : Jvm.MethodName)) ∈ lwG := lwG_3 99 (by decide +kernel) (by decide +kernel)
theorem q3_100 : (Jvm.Cond.code ({ cls := "TileWarden$Boards", name := "cellOf", desc := "(III)I" } : Jvm.MethodName) prog_2_method_11_code (3 : Nat) (Option.some Jvm.ClassFile.FieldType.int)) ∈ lwG := lwG_3 100 (by decide +kernel) (by decide +kernel)
theorem q3_101 : (Jvm.Cond.methodLink "TileWarden$Boards" (21 : Nat) ({ cls := "TileWarden$Boards", name := "merged", desc := "(I)I" } : Jvm.MethodName)) ∈ lwG := lwG_3 101 (by decide +kernel) (by decide +kernel)
theorem q3_102 : (Jvm.Cond.static ({ cls := "TileWarden$Boards", name := "merged", desc := "(I)I" } : Jvm.MethodName)) ∈ lwG := lwG_3 102 (by decide +kernel) (by decide +kernel)
theorem q3_103 : (Jvm.Cond.code ({ cls := "TileWarden$Boards", name := "merged", desc := "(I)I" } : Jvm.MethodName) prog_2_method_15_code (5 : Nat) (Option.some Jvm.ClassFile.FieldType.int)) ∈ lwG := lwG_3 103 (by decide +kernel) (by decide +kernel)
theorem q3_104 : (Jvm.Cond.methodLink "TileWarden$Boards" (33 : Nat) ({ cls := "TileWarden$Boards", name := "mergingPlace", desc := "(I)I" } : Jvm.MethodName)) ∈ lwG := lwG_3 104 (by decide +kernel) (by decide +kernel)
theorem q3_105 : (Jvm.Cond.static ({ cls := "TileWarden$Boards", name := "mergingPlace", desc := "(I)I" } : Jvm.MethodName)) ∈ lwG := lwG_3 105 (by decide +kernel) (by decide +kernel)
theorem q3_106 : (Jvm.Cond.code ({ cls := "TileWarden$Boards", name := "mergingPlace", desc := "(I)I" } : Jvm.MethodName) prog_2_method_14_code (4 : Nat) (Option.some Jvm.ClassFile.FieldType.int)) ∈ lwG := lwG_3 106 (by decide +kernel) (by decide +kernel)
theorem q3_107 : (Jvm.Cond.methodLink "TileWarden$Boards" (25 : Nat) ({ cls := "TileWarden$Boards", name := "tileIn", desc := "(II)I" } : Jvm.MethodName)) ∈ lwG := lwG_3 107 (by decide +kernel) (by decide +kernel)
theorem q3_108 : (Jvm.Cond.static ({ cls := "TileWarden$Boards", name := "tileIn", desc := "(II)I" } : Jvm.MethodName)) ∈ lwG := lwG_3 108 (by decide +kernel) (by decide +kernel)
theorem q3_109 : (Jvm.Cond.code ({ cls := "TileWarden$Boards", name := "tileIn", desc := "(II)I" } : Jvm.MethodName) prog_2_method_12_code (2 : Nat) (Option.some Jvm.ClassFile.FieldType.int)) ∈ lwG := lwG_3 109 (by decide +kernel) (by decide +kernel)
theorem q3_110 : (Jvm.Cond.classLink "TileWarden" (121 : Nat) "java/lang/UnsupportedOperationException") ∈ lwG := lwG_3 110 (by decide +kernel) (by decide +kernel)
theorem q3_111 : (Jvm.Cond.instantiable "java/lang/UnsupportedOperationException" (6 : Nat)) ∈ lwG := lwG_3 111 (by decide +kernel) (by decide +kernel)
theorem q3_112 : (Jvm.Cond.castable "java/lang/UnsupportedOperationException" "java/lang/UnsupportedOperationException") ∈ tables_1 := lwT_3 112 (by decide +kernel)
theorem q3_113 : (Jvm.Cond.selects "java/lang/UnsupportedOperationException" ({ cls := "java/lang/Throwable", name := "fillInStackTrace", desc := "(I)Ljava/lang/Throwable;" } : Jvm.MethodName) ({ cls := "java/lang/Throwable", name := "fillInStackTrace", desc := "(I)Ljava/lang/Throwable;" } : Jvm.MethodName)) ∈ lwG := lwG_3 113 (by decide +kernel) (by decide +kernel)
theorem q3_114 : (Jvm.Cond.lays "java/lang/UnsupportedOperationException" "java/lang/Throwable" "cause" "Ljava/lang/Throwable;") ∈ lwG := lwG_3 114 (by decide +kernel) (by decide +kernel)
theorem q3_115 : (Jvm.Cond.lays "java/lang/UnsupportedOperationException" "java/lang/Throwable" "stackTrace" "[Ljava/lang/StackTraceElement;") ∈ lwG := lwG_3 115 (by decide +kernel) (by decide +kernel)
theorem q3_116 : (Jvm.Cond.lays "java/lang/UnsupportedOperationException" "java/lang/Throwable" "suppressedExceptions" "Ljava/util/List;") ∈ lwG := lwG_3 116 (by decide +kernel) (by decide +kernel)
theorem q3_117 : (Jvm.Cond.lays "java/lang/UnsupportedOperationException" "java/lang/Throwable" "detailMessage" "Ljava/lang/String;") ∈ lwG := lwG_3 117 (by decide +kernel) (by decide +kernel)
theorem q3_118 : (Jvm.Cond.lays "java/lang/UnsupportedOperationException" "java/lang/Throwable" "backtrace" "Ljava/lang/Object;") ∈ lwG := lwG_3 118 (by decide +kernel) (by decide +kernel)
theorem q3_119 : (Jvm.Cond.stringRef "TileWarden" (123 : Nat) "the game is void or the push changes nothing") ∈ tables_1 := lwT_3 119 (by decide +kernel)
theorem q3_120 : (Jvm.Cond.methodLink "TileWarden" (125 : Nat) ({ cls := "java/lang/UnsupportedOperationException", name := "<init>", desc := "(Ljava/lang/String;)V" } : Jvm.MethodName)) ∈ lwG := lwG_3 120 (by decide +kernel) (by decide +kernel)
theorem q3_121 : (Jvm.Cond.instanceMethod ({ cls := "java/lang/UnsupportedOperationException", name := "<init>", desc := "(Ljava/lang/String;)V" } : Jvm.MethodName)) ∈ lwG := lwG_3 121 (by decide +kernel) (by decide +kernel)
theorem q3_122 : (Jvm.Cond.code ({ cls := "java/lang/UnsupportedOperationException", name := "<init>", desc := "(Ljava/lang/String;)V" } : Jvm.MethodName) prog_39_method_2_code (2 : Nat) (Option.none : Option Jvm.ClassFile.FieldType)) ∈ lwG := lwG_3 122 (by decide +kernel) (by decide +kernel)
theorem q3_123 : (Jvm.Cond.methodLink "java/lang/UnsupportedOperationException" (7 : Nat) ({ cls := "java/lang/RuntimeException", name := "<init>", desc := "(Ljava/lang/String;)V" } : Jvm.MethodName)) ∈ lwG := lwG_3 123 (by decide +kernel) (by decide +kernel)
theorem q3_124 : (Jvm.Cond.lays "java/lang/UnsupportedOperationException" "java/lang/Throwable" "depth" "I") ∈ lwG := lwG_3 124 (by decide +kernel) (by decide +kernel)
theorem q3_125 : (Jvm.Cond.superclass "java/lang/UnsupportedOperationException" "java/lang/RuntimeException") ∈ lwG := lwG_3 125 (by decide +kernel) (by decide +kernel)
theorem q3_126 : (Jvm.Cond.methodLink "TileWarden" (126 : Nat) ({ cls := "TileWarden", name := "isFollowing", desc := "(LTileWarden$Game;I)Z" } : Jvm.MethodName)) ∈ lwG := lwG_3 126 (by decide +kernel) (by decide +kernel)
theorem q3_127 : (Jvm.Cond.privateMethod ({ cls := "TileWarden", name := "isFollowing", desc := "(LTileWarden$Game;I)Z" } : Jvm.MethodName)) ∈ tables_1 := lwT_3 127 (by decide +kernel)
theorem q3_128 : (Jvm.Cond.instanceMethod ({ cls := "TileWarden", name := "isFollowing", desc := "(LTileWarden$Game;I)Z" } : Jvm.MethodName)) ∈ lwG := lwG_3 128 (by decide +kernel) (by decide +kernel)
theorem q3_129 : (Jvm.Cond.code ({ cls := "TileWarden", name := "isFollowing", desc := "(LTileWarden$Game;I)Z" } : Jvm.MethodName) prog_1_method_40_code (6 : Nat) (Option.some Jvm.ClassFile.FieldType.boolean)) ∈ lwG := lwG_3 129 (by decide +kernel) (by decide +kernel)
theorem q3_130 : (Jvm.Cond.classLink "TileWarden" (245 : Nat) "TileWarden$Trace") ∈ lwG := lwG_3 130 (by decide +kernel) (by decide +kernel)
theorem q3_131 : (Jvm.Cond.methodLink "TileWarden" (130 : Nat) ({ cls := "TileWarden$Game", name := "noteFollowing", desc := "(Z)V" } : Jvm.MethodName)) ∈ lwG := lwG_3 131 (by decide +kernel) (by decide +kernel)
theorem q3_132 : (Jvm.Cond.instanceMethod ({ cls := "TileWarden$Game", name := "noteFollowing", desc := "(Z)V" } : Jvm.MethodName)) ∈ lwG := lwG_3 132 (by decide +kernel) (by decide +kernel)
theorem q3_133 : (Jvm.Cond.selects "TileWarden$Game" ({ cls := "TileWarden$Game", name := "noteFollowing", desc := "(Z)V" } : Jvm.MethodName) ({ cls := "TileWarden$Game", name := "noteFollowing", desc := "(Z)V" } : Jvm.MethodName)) ∈ lwG := lwG_3 133 (by decide +kernel) (by decide +kernel)
theorem q3_134 : (Jvm.Cond.code ({ cls := "TileWarden$Game", name := "noteFollowing", desc := "(Z)V" } : Jvm.MethodName) prog_5_method_3_code (2 : Nat) (Option.none : Option Jvm.ClassFile.FieldType)) ∈ lwG := lwG_3 134 (by decide +kernel) (by decide +kernel)
theorem q3_135 : (Jvm.Cond.methodLink "TileWarden$Game" (60 : Nat) ({ cls := "java/lang/Math", name := "max", desc := "(II)I" } : Jvm.MethodName)) ∈ lwG := lwG_3 135 (by decide +kernel) (by decide +kernel)
theorem q3_136 : (Jvm.Cond.methodLink "TileWarden" (134 : Nat) ({ cls := "TileWarden$Game", name := "go", desc := "(I)I" } : Jvm.MethodName)) ∈ lwG := lwG_3 136 (by decide +kernel) (by decide +kernel)
theorem q3_137 : (Jvm.Cond.instanceMethod ({ cls := "TileWarden$Game", name := "go", desc := "(I)I" } : Jvm.MethodName)) ∈ lwG := lwG_3 137 (by decide +kernel) (by decide +kernel)
theorem q3_138 : (Jvm.Cond.selects "TileWarden$Game" ({ cls := "TileWarden$Game", name := "go", desc := "(I)I" } : Jvm.MethodName) ({ cls := "TileWarden$Game", name := "go", desc := "(I)I" } : Jvm.MethodName)) ∈ lwG := lwG_3 138 (by decide +kernel) (by decide +kernel)
theorem q3_139 : (Jvm.Cond.code ({ cls := "TileWarden$Game", name := "go", desc := "(I)I" } : Jvm.MethodName) prog_5_method_2_code (3 : Nat) (Option.some Jvm.ClassFile.FieldType.int)) ∈ lwG := lwG_3 139 (by decide +kernel) (by decide +kernel)
theorem q3_140 : (Jvm.Cond.methodLink "TileWarden$Game" (53 : Nat) ({ cls := "TileWarden$Boards", name := "gainOf", desc := "(JI)I" } : Jvm.MethodName)) ∈ lwG := lwG_3 140 (by decide +kernel) (by decide +kernel)
theorem q3_141 : (Jvm.Cond.static ({ cls := "TileWarden$Boards", name := "gainOf", desc := "(JI)I" } : Jvm.MethodName)) ∈ lwG := lwG_3 141 (by decide +kernel) (by decide +kernel)
theorem q3_142 : (Jvm.Cond.code ({ cls := "TileWarden$Boards", name := "gainOf", desc := "(JI)I" } : Jvm.MethodName) prog_2_method_6_code (7 : Nat) (Option.some Jvm.ClassFile.FieldType.int)) ∈ lwG := lwG_3 142 (by decide +kernel) (by decide +kernel)
theorem q3_143 : (Jvm.Cond.methodLink "TileWarden$Game" (57 : Nat) ({ cls := "TileWarden$Boards", name := "pushed", desc := "(JI)J" } : Jvm.MethodName)) ∈ lwG := lwG_3 143 (by decide +kernel) (by decide +kernel)
theorem q3_144 : (Jvm.Cond.methodLink "TileWardenLaw" (116 : Nat) ({ cls := "TileWardenLaw", name := "hint", desc := "(LTileWarden;II)I" } : Jvm.MethodName)) ∈ lwG := lwG_3 144 (by decide +kernel) (by decide +kernel)
theorem q3_145 : (Jvm.Cond.static ({ cls := "TileWardenLaw", name := "hint", desc := "(LTileWarden;II)I" } : Jvm.MethodName)) ∈ lwG := lwG_3 145 (by decide +kernel) (by decide +kernel)
theorem q3_146 : (Jvm.Cond.codeWith ({ cls := "TileWardenLaw", name := "hint", desc := "(LTileWarden;II)I" } : Jvm.MethodName) method_12_code (4 : Nat) (Option.some Jvm.ClassFile.FieldType.int) [((0 : Nat), (6 : Nat), (7 : Nat), (22 : Nat)), ((0 : Nat), (6 : Nat), (10 : Nat), (14 : Nat)), ((0 : Nat), (6 : Nat), (14 : Nat), (27 : Nat)), ((0 : Nat), (6 : Nat), (18 : Nat), (53 : Nat)), ((0 : Nat), (6 : Nat), (22 : Nat), (16 : Nat))]) ∈ lwG := lwG_3 146 (by decide +kernel) (by decide +kernel)
theorem q3_147 : (Jvm.Cond.classLink "TileWardenLaw" (53 : Nat) "java/util/NoSuchElementException") ∈ lwG := lwG_3 147 (by decide +kernel) (by decide +kernel)
theorem q3_148 : (Jvm.Cond.methodLink "TileWardenLaw" (50 : Nat) ({ cls := "TileWarden", name := "hint", desc := "(II)I" } : Jvm.MethodName)) ∈ lwG := lwG_3 148 (by decide +kernel) (by decide +kernel)
theorem q3_149 : (Jvm.Cond.instanceMethod ({ cls := "TileWarden", name := "hint", desc := "(II)I" } : Jvm.MethodName)) ∈ lwG := lwG_3 149 (by decide +kernel) (by decide +kernel)
theorem q3_150 : (Jvm.Cond.selects "TileWarden" ({ cls := "TileWarden", name := "hint", desc := "(II)I" } : Jvm.MethodName) ({ cls := "TileWarden", name := "hint", desc := "(II)I" } : Jvm.MethodName)) ∈ lwG := lwG_3 150 (by decide +kernel) (by decide +kernel)
theorem q3_151 : (Jvm.Cond.code ({ cls := "TileWarden", name := "hint", desc := "(II)I" } : Jvm.MethodName) prog_1_method_11_code (4 : Nat) (Option.some Jvm.ClassFile.FieldType.int)) ∈ lwG := lwG_3 151 (by decide +kernel) (by decide +kernel)
theorem q3_152 : (Jvm.Cond.methodLink "TileWarden" (154 : Nat) ({ cls := "TileWarden", name := "checkDepth", desc := "(II)V" } : Jvm.MethodName)) ∈ lwG := lwG_3 152 (by decide +kernel) (by decide +kernel)
theorem q3_153 : (Jvm.Cond.static ({ cls := "TileWarden", name := "checkDepth", desc := "(II)V" } : Jvm.MethodName)) ∈ lwG := lwG_3 153 (by decide +kernel) (by decide +kernel)
theorem q3_154 : (Jvm.Cond.code ({ cls := "TileWarden", name := "checkDepth", desc := "(II)V" } : Jvm.MethodName) prog_1_method_35_code (2 : Nat) (Option.none : Option Jvm.ClassFile.FieldType)) ∈ lwG := lwG_3 154 (by decide +kernel) (by decide +kernel)
theorem q3_155 : (Jvm.Cond.stringRef "TileWarden" (282 : Nat) "the depth is out of range") ∈ tables_1 := lwT_3 155 (by decide +kernel)
theorem q3_156 : (Jvm.Cond.methodLink "TileWarden" (157 : Nat) ({ cls := "TileWarden", name := "checkHintable", desc := "(LTileWarden$Game;)V" } : Jvm.MethodName)) ∈ lwG := lwG_3 156 (by decide +kernel) (by decide +kernel)
theorem q3_157 : (Jvm.Cond.static ({ cls := "TileWarden", name := "checkHintable", desc := "(LTileWarden$Game;)V" } : Jvm.MethodName)) ∈ lwG := lwG_3 157 (by decide +kernel) (by decide +kernel)
theorem q3_158 : (Jvm.Cond.code ({ cls := "TileWarden", name := "checkHintable", desc := "(LTileWarden$Game;)V" } : Jvm.MethodName) prog_1_method_36_code (1 : Nat) (Option.none : Option Jvm.ClassFile.FieldType)) ∈ lwG := lwG_3 158 (by decide +kernel) (by decide +kernel)
theorem q3_159 : (Jvm.Cond.methodLink "TileWarden" (150 : Nat) ({ cls := "TileWarden$Boards", name := "isStuck", desc := "(J)Z" } : Jvm.MethodName)) ∈ lwG := lwG_3 159 (by decide +kernel) (by decide +kernel)
theorem q3_160 : (Jvm.Cond.static ({ cls := "TileWarden$Boards", name := "isStuck", desc := "(J)Z" } : Jvm.MethodName)) ∈ lwG := lwG_3 160 (by decide +kernel) (by decide +kernel)
theorem q3_161 : (Jvm.Cond.code ({ cls := "TileWarden$Boards", name := "isStuck", desc := "(J)Z" } : Jvm.MethodName) prog_2_method_4_code (3 : Nat) (Option.some Jvm.ClassFile.FieldType.boolean)) ∈ lwG := lwG_3 161 (by decide +kernel) (by decide +kernel)
theorem q3_162 : (Jvm.Cond.methodLink "TileWarden$Boards" (13 : Nat) ({ cls := "TileWarden$Boards", name := "canGo", desc := "(JI)Z" } : Jvm.MethodName)) ∈ lwG := lwG_3 162 (by decide +kernel) (by decide +kernel)
theorem q3_163 : (Jvm.Cond.stringRef "TileWarden" (284 : Nat) "the game is void or over") ∈ tables_1 := lwT_3 163 (by decide +kernel)
theorem q3_164 : (Jvm.Cond.methodLink "TileWarden" (161 : Nat) ({ cls := "TileWarden", name := "tryHint", desc := "(LTileWarden$Game;I)V" } : Jvm.MethodName)) ∈ lwG := lwG_3 164 (by decide +kernel) (by decide +kernel)
theorem q3_165 : (Jvm.Cond.privateMethod ({ cls := "TileWarden", name := "tryHint", desc := "(LTileWarden$Game;I)V" } : Jvm.MethodName)) ∈ tables_1 := lwT_3 165 (by decide +kernel)
theorem q3_166 : (Jvm.Cond.instanceMethod ({ cls := "TileWarden", name := "tryHint", desc := "(LTileWarden$Game;I)V" } : Jvm.MethodName)) ∈ lwG := lwG_3 166 (by decide +kernel) (by decide +kernel)
theorem q3_167 : (Jvm.Cond.code ({ cls := "TileWarden", name := "tryHint", desc := "(LTileWarden$Game;I)V" } : Jvm.MethodName) prog_1_method_37_code (3 : Nat) (Option.none : Option Jvm.ClassFile.FieldType)) ∈ lwG := lwG_3 167 (by decide +kernel) (by decide +kernel)
theorem q3_168 : (Jvm.Cond.methodLink "TileWarden" (287 : Nat) ({ cls := "TileWarden$Cache", name := "become", desc := "(LTileWarden$Cache;)V" } : Jvm.MethodName)) ∈ lwG := lwG_3 168 (by decide +kernel) (by decide +kernel)
theorem q3_169 : (Jvm.Cond.instanceMethod ({ cls := "TileWarden$Cache", name := "become", desc := "(LTileWarden$Cache;)V" } : Jvm.MethodName)) ∈ lwG := lwG_3 169 (by decide +kernel) (by decide +kernel)
theorem q3_170 : (Jvm.Cond.selects "TileWarden$Cache" ({ cls := "TileWarden$Cache", name := "become", desc := "(LTileWarden$Cache;)V" } : Jvm.MethodName) ({ cls := "TileWarden$Cache", name := "become", desc := "(LTileWarden$Cache;)V" } : Jvm.MethodName)) ∈ lwG := lwG_3 170 (by decide +kernel) (by decide +kernel)
theorem q3_171 : (Jvm.Cond.code ({ cls := "TileWarden$Cache", name := "become", desc := "(LTileWarden$Cache;)V" } : Jvm.MethodName) prog_3_method_2_code (3 : Nat) (Option.none : Option Jvm.ClassFile.FieldType)) ∈ lwG := lwG_3 171 (by decide +kernel) (by decide +kernel)
theorem q3_172 : (Jvm.Cond.methodLink "TileWarden$Cache" (34 : Nat) ({ cls := "TileWarden$Entry", name := "become", desc := "(LTileWarden$Entry;)V" } : Jvm.MethodName)) ∈ lwG := lwG_3 172 (by decide +kernel) (by decide +kernel)
theorem q3_173 : (Jvm.Cond.instanceMethod ({ cls := "TileWarden$Entry", name := "become", desc := "(LTileWarden$Entry;)V" } : Jvm.MethodName)) ∈ lwG := lwG_3 173 (by decide +kernel) (by decide +kernel)
theorem q3_174 : (Jvm.Cond.selects "TileWarden$Entry" ({ cls := "TileWarden$Entry", name := "become", desc := "(LTileWarden$Entry;)V" } : Jvm.MethodName) ({ cls := "TileWarden$Entry", name := "become", desc := "(LTileWarden$Entry;)V" } : Jvm.MethodName)) ∈ lwG := lwG_3 174 (by decide +kernel) (by decide +kernel)
theorem q3_175 : (Jvm.Cond.code ({ cls := "TileWarden$Entry", name := "become", desc := "(LTileWarden$Entry;)V" } : Jvm.MethodName) prog_4_method_4_code (2 : Nat) (Option.none : Option Jvm.ClassFile.FieldType)) ∈ lwG := lwG_3 175 (by decide +kernel) (by decide +kernel)
theorem q3_176 : (Jvm.Cond.methodLink "TileWarden" (290 : Nat) ({ cls := "TileWarden$Search", name := "start", desc := "()V" } : Jvm.MethodName)) ∈ lwG := lwG_3 176 (by decide +kernel) (by decide +kernel)
theorem q3_177 : (Jvm.Cond.instanceMethod ({ cls := "TileWarden$Search", name := "start", desc := "()V" } : Jvm.MethodName)) ∈ lwG := lwG_3 177 (by decide +kernel) (by decide +kernel)
theorem q3_178 : (Jvm.Cond.selects "TileWarden$Search" ({ cls := "TileWarden$Search", name := "start", desc := "()V" } : Jvm.MethodName) ({ cls := "TileWarden$Search", name := "start", desc := "()V" } : Jvm.MethodName)) ∈ lwG := lwG_3 178 (by decide +kernel) (by decide +kernel)
theorem q3_179 : (Jvm.Cond.code ({ cls := "TileWarden$Search", name := "start", desc := "()V" } : Jvm.MethodName) prog_7_method_2_code (1 : Nat) (Option.none : Option Jvm.ClassFile.FieldType)) ∈ lwG := lwG_3 179 (by decide +kernel) (by decide +kernel)
theorem q3_180 : (Jvm.Cond.methodLink "TileWarden" (191 : Nat) ({ cls := "TileWarden", name := "look", desc := "(LTileWarden$Search;JII)I" } : Jvm.MethodName)) ∈ lwG := lwG_3 180 (by decide +kernel) (by decide +kernel)
theorem q3_181 : (Jvm.Cond.static ({ cls := "TileWarden", name := "look", desc := "(LTileWarden$Search;JII)I" } : Jvm.MethodName)) ∈ lwG := lwG_3 181 (by decide +kernel) (by decide +kernel)
theorem q3_182 : (Jvm.Cond.code ({ cls := "TileWarden", name := "look", desc := "(LTileWarden$Search;JII)I" } : Jvm.MethodName) prog_1_method_39_code (13 : Nat) (Option.some Jvm.ClassFile.FieldType.int)) ∈ lwG := lwG_3 182 (by decide +kernel) (by decide +kernel)
theorem q3_183 : (Jvm.Cond.methodLink "TileWarden" (208 : Nat) ({ cls := "TileWarden$Cache", name := "find", desc := "(JII)LTileWarden$Entry;" } : Jvm.MethodName)) ∈ lwG := lwG_3 183 (by decide +kernel) (by decide +kernel)
theorem q3_184 : (Jvm.Cond.instanceMethod ({ cls := "TileWarden$Cache", name := "find", desc := "(JII)LTileWarden$Entry;" } : Jvm.MethodName)) ∈ lwG := lwG_3 184 (by decide +kernel) (by decide +kernel)
theorem q3_185 : (Jvm.Cond.selects "TileWarden$Cache" ({ cls := "TileWarden$Cache", name := "find", desc := "(JII)LTileWarden$Entry;" } : Jvm.MethodName) ({ cls := "TileWarden$Cache", name := "find", desc := "(JII)LTileWarden$Entry;" } : Jvm.MethodName)) ∈ lwG := lwG_3 185 (by decide +kernel) (by decide +kernel)
theorem q3_186 : (Jvm.Cond.code ({ cls := "TileWarden$Cache", name := "find", desc := "(JII)LTileWarden$Entry;" } : Jvm.MethodName) prog_3_method_3_code (9 : Nat) (Option.some (Jvm.ClassFile.FieldType.object "TileWarden$Entry"))) ∈ lwG := lwG_3 186 (by decide +kernel) (by decide +kernel)
theorem q3_187 : (Jvm.Cond.methodLink "TileWarden$Cache" (38 : Nat) ({ cls := "TileWarden$Entry", name := "isFor", desc := "(JII)Z" } : Jvm.MethodName)) ∈ lwG := lwG_3 187 (by decide +kernel) (by decide +kernel)
theorem q3_188 : (Jvm.Cond.instanceMethod ({ cls := "TileWarden$Entry", name := "isFor", desc := "(JII)Z" } : Jvm.MethodName)) ∈ lwG := lwG_3 188 (by decide +kernel) (by decide +kernel)
theorem q3_189 : (Jvm.Cond.selects "TileWarden$Entry" ({ cls := "TileWarden$Entry", name := "isFor", desc := "(JII)Z" } : Jvm.MethodName) ({ cls := "TileWarden$Entry", name := "isFor", desc := "(JII)Z" } : Jvm.MethodName)) ∈ lwG := lwG_3 189 (by decide +kernel) (by decide +kernel)
theorem q3_190 : (Jvm.Cond.code ({ cls := "TileWarden$Entry", name := "isFor", desc := "(JII)Z" } : Jvm.MethodName) prog_4_method_3_code (5 : Nat) (Option.some Jvm.ClassFile.FieldType.boolean)) ∈ lwG := lwG_3 190 (by decide +kernel) (by decide +kernel)
theorem q3_191 : (Jvm.Cond.methodLink "TileWarden" (301 : Nat) ({ cls := "TileWarden$Cache", name := "use", desc := "(LTileWarden$Entry;)V" } : Jvm.MethodName)) ∈ lwG := lwG_3 191 (by decide +kernel) (by decide +kernel)
theorem q3_192 : (Jvm.Cond.instanceMethod ({ cls := "TileWarden$Cache", name := "use", desc := "(LTileWarden$Entry;)V" } : Jvm.MethodName)) ∈ lwG := lwG_3 192 (by decide +kernel) (by decide +kernel)
theorem q3_193 : (Jvm.Cond.selects "TileWarden$Cache" ({ cls := "TileWarden$Cache", name := "use", desc := "(LTileWarden$Entry;)V" } : Jvm.MethodName) ({ cls := "TileWarden$Cache", name := "use", desc := "(LTileWarden$Entry;)V" } : Jvm.MethodName)) ∈ lwG := lwG_3 193 (by decide +kernel) (by decide +kernel)
theorem q3_194 : (Jvm.Cond.code ({ cls := "TileWarden$Cache", name := "use", desc := "(LTileWarden$Entry;)V" } : Jvm.MethodName) prog_3_method_4_code (2 : Nat) (Option.none : Option Jvm.ClassFile.FieldType)) ∈ lwG := lwG_3 194 (by decide +kernel) (by decide +kernel)
theorem q3_195 : (Jvm.Cond.methodLink "TileWarden" (309 : Nat) ({ cls := "TileWarden$Boards", name := "pushed", desc := "(JI)J" } : Jvm.MethodName)) ∈ lwG := lwG_3 195 (by decide +kernel) (by decide +kernel)
theorem q3_196 : (Jvm.Cond.methodLink "TileWarden" (313 : Nat) ({ cls := "TileWarden$Boards", name := "drawn", desc := "(JI)J" } : Jvm.MethodName)) ∈ lwG := lwG_3 196 (by decide +kernel) (by decide +kernel)
theorem q3_197 : (Jvm.Cond.methodLink "TileWarden" (316 : Nat) ({ cls := "TileWarden$Boards", name := "drawnZ", desc := "(I)I" } : Jvm.MethodName)) ∈ lwG := lwG_3 197 (by decide +kernel) (by decide +kernel)
theorem q3_198 : (Jvm.Cond.methodLink "TileWarden" (319 : Nat) ({ cls := "TileWarden$Boards", name := "gainOf", desc := "(JI)I" } : Jvm.MethodName)) ∈ lwG := lwG_3 198 (by decide +kernel) (by decide +kernel)
theorem q3_199 : (Jvm.Cond.methodLink "TileWarden" (322 : Nat) ({ cls := "TileWarden$Cache", name := "put", desc := "(JIIII)V" } : Jvm.MethodName)) ∈ lwG := lwG_3 199 (by decide +kernel) (by decide +kernel)
theorem q3_200 : (Jvm.Cond.instanceMethod ({ cls := "TileWarden$Cache", name := "put", desc := "(JIIII)V" } : Jvm.MethodName)) ∈ lwG := lwG_3 200 (by decide +kernel) (by decide +kernel)
theorem q3_201 : (Jvm.Cond.selects "TileWarden$Cache" ({ cls := "TileWarden$Cache", name := "put", desc := "(JIIII)V" } : Jvm.MethodName) ({ cls := "TileWarden$Cache", name := "put", desc := "(JIIII)V" } : Jvm.MethodName)) ∈ lwG := lwG_3 201 (by decide +kernel) (by decide +kernel)
theorem q3_202 : (Jvm.Cond.code ({ cls := "TileWarden$Cache", name := "put", desc := "(JIIII)V" } : Jvm.MethodName) prog_3_method_5_code (8 : Nat) (Option.none : Option Jvm.ClassFile.FieldType)) ∈ lwG := lwG_3 202 (by decide +kernel) (by decide +kernel)
theorem q3_203 : (Jvm.Cond.methodLink "TileWarden$Cache" (45 : Nat) ({ cls := "TileWarden$Cache", name := "dropOldest", desc := "()V" } : Jvm.MethodName)) ∈ lwG := lwG_3 203 (by decide +kernel) (by decide +kernel)
theorem q3_204 : (Jvm.Cond.privateMethod ({ cls := "TileWarden$Cache", name := "dropOldest", desc := "()V" } : Jvm.MethodName)) ∈ tables_1 := lwT_3 204 (by decide +kernel)
theorem q3_205 : (Jvm.Cond.instanceMethod ({ cls := "TileWarden$Cache", name := "dropOldest", desc := "()V" } : Jvm.MethodName)) ∈ lwG := lwG_3 205 (by decide +kernel) (by decide +kernel)
theorem q3_206 : (Jvm.Cond.code ({ cls := "TileWarden$Cache", name := "dropOldest", desc := "()V" } : Jvm.MethodName) prog_3_method_11_code (6 : Nat) (Option.none : Option Jvm.ClassFile.FieldType)) ∈ lwG := lwG_3 206 (by decide +kernel) (by decide +kernel)
theorem q3_207 : (Jvm.Cond.methodLink "TileWarden$Cache" (74 : Nat) ({ cls := "TileWarden$Entry", name := "isFree", desc := "()Z" } : Jvm.MethodName)) ∈ lwG := lwG_3 207 (by decide +kernel) (by decide +kernel)
theorem q3_208 : (Jvm.Cond.instanceMethod ({ cls := "TileWarden$Entry", name := "isFree", desc := "()Z" } : Jvm.MethodName)) ∈ lwG := lwG_3 208 (by decide +kernel) (by decide +kernel)
theorem q3_209 : (Jvm.Cond.selects "TileWarden$Entry" ({ cls := "TileWarden$Entry", name := "isFree", desc := "()Z" } : Jvm.MethodName) ({ cls := "TileWarden$Entry", name := "isFree", desc := "()Z" } : Jvm.MethodName)) ∈ lwG := lwG_3 209 (by decide +kernel) (by decide +kernel)
theorem q3_210 : (Jvm.Cond.code ({ cls := "TileWarden$Entry", name := "isFree", desc := "()Z" } : Jvm.MethodName) prog_4_method_2_code (1 : Nat) (Option.some Jvm.ClassFile.FieldType.boolean)) ∈ lwG := lwG_3 210 (by decide +kernel) (by decide +kernel)
theorem q3_211 : (Jvm.Cond.methodLink "TileWarden$Cache" (48 : Nat) ({ cls := "TileWarden$Cache", name := "findFree", desc := "()LTileWarden$Entry;" } : Jvm.MethodName)) ∈ lwG := lwG_3 211 (by decide +kernel) (by decide +kernel)
theorem q3_212 : (Jvm.Cond.privateMethod ({ cls := "TileWarden$Cache", name := "findFree", desc := "()LTileWarden$Entry;" } : Jvm.MethodName)) ∈ tables_1 := lwT_3 212 (by decide +kernel)
theorem q3_213 : (Jvm.Cond.instanceMethod ({ cls := "TileWarden$Cache", name := "findFree", desc := "()LTileWarden$Entry;" } : Jvm.MethodName)) ∈ lwG := lwG_3 213 (by decide +kernel) (by decide +kernel)
theorem q3_214 : (Jvm.Cond.code ({ cls := "TileWarden$Cache", name := "findFree", desc := "()LTileWarden$Entry;" } : Jvm.MethodName) prog_3_method_10_code (5 : Nat) (Option.some (Jvm.ClassFile.FieldType.object "TileWarden$Entry"))) ∈ lwG := lwG_3 214 (by decide +kernel) (by decide +kernel)
theorem q3_215 : (Jvm.Cond.methodLink "TileWarden$Cache" (68 : Nat) ({ cls := "TileWarden$Cache", name := "use", desc := "(LTileWarden$Entry;)V" } : Jvm.MethodName)) ∈ lwG := lwG_3 215 (by decide +kernel) (by decide +kernel)
theorem q3_216 : (Jvm.Cond.methodLink "TileWarden" (165 : Nat) ({ cls := "TileWarden$Search", name := "cost", desc := "()I" } : Jvm.MethodName)) ∈ lwG := lwG_3 216 (by decide +kernel) (by decide +kernel)
theorem q3_217 : (Jvm.Cond.instanceMethod ({ cls := "TileWarden$Search", name := "cost", desc := "()I" } : Jvm.MethodName)) ∈ lwG := lwG_3 217 (by decide +kernel) (by decide +kernel)
theorem q3_218 : (Jvm.Cond.selects "TileWarden$Search" ({ cls := "TileWarden$Search", name := "cost", desc := "()I" } : Jvm.MethodName) ({ cls := "TileWarden$Search", name := "cost", desc := "()I" } : Jvm.MethodName)) ∈ lwG := lwG_3 218 (by decide +kernel) (by decide +kernel)
theorem q3_219 : (Jvm.Cond.code ({ cls := "TileWarden$Search", name := "cost", desc := "()I" } : Jvm.MethodName) prog_7_method_3_code (1 : Nat) (Option.some Jvm.ClassFile.FieldType.int)) ∈ lwG := lwG_3 219 (by decide +kernel) (by decide +kernel)
theorem q3_220 : (Jvm.Cond.methodLink "TileWarden$Search" (25 : Nat) ({ cls := "java/lang/Math", name := "max", desc := "(II)I" } : Jvm.MethodName)) ∈ lwG := lwG_3 220 (by decide +kernel) (by decide +kernel)
theorem q3_221 : (Jvm.Cond.classLink "TileWarden" (175 : Nat) "java/util/NoSuchElementException") ∈ lwG := lwG_3 221 (by decide +kernel) (by decide +kernel)
theorem q3_222 : (Jvm.Cond.instantiable "java/util/NoSuchElementException" (6 : Nat)) ∈ lwG := lwG_3 222 (by decide +kernel) (by decide +kernel)
theorem q3_223 : (Jvm.Cond.castable "java/util/NoSuchElementException" "java/util/NoSuchElementException") ∈ tables_1 := lwT_3 223 (by decide +kernel)
theorem q3_224 : (Jvm.Cond.selects "java/util/NoSuchElementException" ({ cls := "java/lang/Throwable", name := "fillInStackTrace", desc := "(I)Ljava/lang/Throwable;" } : Jvm.MethodName) ({ cls := "java/lang/Throwable", name := "fillInStackTrace", desc := "(I)Ljava/lang/Throwable;" } : Jvm.MethodName)) ∈ lwG := lwG_3 224 (by decide +kernel) (by decide +kernel)
theorem q3_225 : (Jvm.Cond.lays "java/util/NoSuchElementException" "java/lang/Throwable" "cause" "Ljava/lang/Throwable;") ∈ lwG := lwG_3 225 (by decide +kernel) (by decide +kernel)
theorem q3_226 : (Jvm.Cond.lays "java/util/NoSuchElementException" "java/lang/Throwable" "stackTrace" "[Ljava/lang/StackTraceElement;") ∈ lwG := lwG_3 226 (by decide +kernel) (by decide +kernel)
theorem q3_227 : (Jvm.Cond.lays "java/util/NoSuchElementException" "java/lang/Throwable" "suppressedExceptions" "Ljava/util/List;") ∈ lwG := lwG_3 227 (by decide +kernel) (by decide +kernel)
theorem q3_228 : (Jvm.Cond.lays "java/util/NoSuchElementException" "java/lang/Throwable" "detailMessage" "Ljava/lang/String;") ∈ lwG := lwG_3 228 (by decide +kernel) (by decide +kernel)
theorem q3_229 : (Jvm.Cond.lays "java/util/NoSuchElementException" "java/lang/Throwable" "backtrace" "Ljava/lang/Object;") ∈ lwG := lwG_3 229 (by decide +kernel) (by decide +kernel)
theorem q3_230 : (Jvm.Cond.stringRef "TileWarden" (177 : Nat) "the player has too little money") ∈ tables_1 := lwT_3 230 (by decide +kernel)
theorem q3_231 : (Jvm.Cond.methodLink "TileWarden" (179 : Nat) ({ cls := "java/util/NoSuchElementException", name := "<init>", desc := "(Ljava/lang/String;)V" } : Jvm.MethodName)) ∈ lwG := lwG_3 231 (by decide +kernel) (by decide +kernel)
theorem q3_232 : (Jvm.Cond.instanceMethod ({ cls := "java/util/NoSuchElementException", name := "<init>", desc := "(Ljava/lang/String;)V" } : Jvm.MethodName)) ∈ lwG := lwG_3 232 (by decide +kernel) (by decide +kernel)
theorem q3_233 : (Jvm.Cond.code ({ cls := "java/util/NoSuchElementException", name := "<init>", desc := "(Ljava/lang/String;)V" } : Jvm.MethodName) prog_48_method_4_code (2 : Nat) (Option.none : Option Jvm.ClassFile.FieldType)) ∈ lwG := lwG_3 233 (by decide +kernel) (by decide +kernel)
theorem q3_234 : (Jvm.Cond.methodLink "java/util/NoSuchElementException" (13 : Nat) ({ cls := "java/lang/RuntimeException", name := "<init>", desc := "(Ljava/lang/String;)V" } : Jvm.MethodName)) ∈ lwG := lwG_3 234 (by decide +kernel) (by decide +kernel)
theorem q3_235 : (Jvm.Cond.lays "java/util/NoSuchElementException" "java/lang/Throwable" "depth" "I") ∈ lwG := lwG_3 235 (by decide +kernel) (by decide +kernel)
theorem q3_236 : (Jvm.Cond.superclass "java/util/NoSuchElementException" "java/lang/RuntimeException") ∈ lwG := lwG_3 236 (by decide +kernel) (by decide +kernel)
theorem q3_237 : (Jvm.Cond.stringRef "TileWarden" (180 : Nat) "there is no place for another trace") ∈ tables_1 := lwT_3 237 (by decide +kernel)
theorem q3_238 : (Jvm.Cond.methodLink "TileWarden" (182 : Nat) ({ cls := "TileWarden", name := "sellTriedHint", desc := "(LTileWarden$Game;)V" } : Jvm.MethodName)) ∈ lwG := lwG_3 238 (by decide +kernel) (by decide +kernel)
theorem q3_239 : (Jvm.Cond.privateMethod ({ cls := "TileWarden", name := "sellTriedHint", desc := "(LTileWarden$Game;)V" } : Jvm.MethodName)) ∈ tables_1 := lwT_3 239 (by decide +kernel)
theorem q4_0 : (Jvm.Cond.instanceMethod ({ cls := "TileWarden", name := "sellTriedHint", desc := "(LTileWarden$Game;)V" } : Jvm.MethodName)) ∈ lwG := lwG_4 0 (by decide +kernel) (by decide +kernel)
theorem q4_1 : (Jvm.Cond.code ({ cls := "TileWarden", name := "sellTriedHint", desc := "(LTileWarden$Game;)V" } : Jvm.MethodName) prog_1_method_38_code (3 : Nat) (Option.none : Option Jvm.ClassFile.FieldType)) ∈ lwG := lwG_4 1 (by decide +kernel) (by decide +kernel)
theorem q4_2 : (Jvm.Cond.instantiable "TileWarden$Trace" (4 : Nat)) ∈ lwG := lwG_4 2 (by decide +kernel) (by decide +kernel)
theorem q4_3 : (Jvm.Cond.methodLink "TileWarden" (293 : Nat) ({ cls := "TileWarden$Trace", name := "<init>", desc := "(LTileWarden$Game;I)V" } : Jvm.MethodName)) ∈ lwG := lwG_4 3 (by decide +kernel) (by decide +kernel)
theorem q4_4 : (Jvm.Cond.instanceMethod ({ cls := "TileWarden$Trace", name := "<init>", desc := "(LTileWarden$Game;I)V" } : Jvm.MethodName)) ∈ lwG := lwG_4 4 (by decide +kernel) (by decide +kernel)
theorem q4_5 : (Jvm.Cond.code ({ cls := "TileWarden$Trace", name := "<init>", desc := "(LTileWarden$Game;I)V" } : Jvm.MethodName) prog_8_method_1_code (3 : Nat) (Option.none : Option Jvm.ClassFile.FieldType)) ∈ lwG := lwG_4 5 (by decide +kernel) (by decide +kernel)
theorem q4_6 : (Jvm.Cond.methodLink "TileWarden$Trace" (1 : Nat) ({ cls := "java/lang/Object", name := "<init>", desc := "()V" } : Jvm.MethodName)) ∈ lwG := lwG_4 6 (by decide +kernel) (by decide +kernel)
theorem q4_7 : (Jvm.Cond.fieldLink "TileWarden$Trace" (19 : Nat) "TileWarden$Trace" "player" "I") ∈ lwG := lwG_4 7 (by decide +kernel) (by decide +kernel)
theorem q4_8 : (Jvm.Cond.fieldLink "TileWarden" (244 : Nat) "TileWarden$Trace" "player" "I") ∈ lwG := lwG_4 8 (by decide +kernel) (by decide +kernel)
theorem q4_9 : (Jvm.Cond.fieldLink "TileWarden$Trace" (28 : Nat) "TileWarden$Trace" "board" "J") ∈ lwG := lwG_4 9 (by decide +kernel) (by decide +kernel)
theorem q4_10 : (Jvm.Cond.fieldLink "TileWarden" (326 : Nat) "TileWarden$Trace" "board" "J") ∈ lwG := lwG_4 10 (by decide +kernel) (by decide +kernel)
theorem q4_11 : (Jvm.Cond.fieldLink "TileWarden$Trace" (32 : Nat) "TileWarden$Trace" "z" "I") ∈ lwG := lwG_4 11 (by decide +kernel) (by decide +kernel)
theorem q4_12 : (Jvm.Cond.fieldLink "TileWarden" (327 : Nat) "TileWarden$Trace" "z" "I") ∈ lwG := lwG_4 12 (by decide +kernel) (by decide +kernel)
theorem q4_13 : (Jvm.Cond.fieldLink "TileWarden$Trace" (33 : Nat) "TileWarden$Trace" "push" "I") ∈ lwG := lwG_4 13 (by decide +kernel) (by decide +kernel)
theorem q4_14 : (Jvm.Cond.fieldLink "TileWarden" (249 : Nat) "TileWarden$Trace" "push" "I") ∈ lwG := lwG_4 14 (by decide +kernel) (by decide +kernel)
theorem q4_15 : (Jvm.Cond.laysFinal "TileWarden$Trace" "TileWarden$Trace" "player" "I") ∈ lwG := lwG_4 15 (by decide +kernel) (by decide +kernel)
theorem q4_16 : (Jvm.Cond.soleField "TileWarden$Trace" "player") ∈ tables_1 := lwT_4 16 (by decide +kernel)
theorem q4_17 : (Jvm.Cond.laysFinal "TileWarden$Trace" "TileWarden$Trace" "board" "J") ∈ lwG := lwG_4 17 (by decide +kernel) (by decide +kernel)
theorem q4_18 : (Jvm.Cond.soleField "TileWarden$Trace" "board") ∈ tables_1 := lwT_4 18 (by decide +kernel)
theorem q4_19 : (Jvm.Cond.laysFinal "TileWarden$Trace" "TileWarden$Trace" "z" "I") ∈ lwG := lwG_4 19 (by decide +kernel) (by decide +kernel)
theorem q4_20 : (Jvm.Cond.soleField "TileWarden$Trace" "z") ∈ tables_1 := lwT_4 20 (by decide +kernel)
theorem q4_21 : (Jvm.Cond.laysFinal "TileWarden$Trace" "TileWarden$Trace" "push" "I") ∈ lwG := lwG_4 21 (by decide +kernel) (by decide +kernel)
theorem q4_22 : (Jvm.Cond.soleField "TileWarden$Trace" "push") ∈ tables_1 := lwT_4 22 (by decide +kernel)
theorem q4_23 : (Jvm.Cond.superclass "TileWarden$Trace" "java/lang/Object") ∈ lwG := lwG_4 23 (by decide +kernel) (by decide +kernel)
theorem q4_24 : (Jvm.Cond.methodLink "TileWardenLaw" (190 : Nat) ({ cls := "TileWardenLaw", name := "money", desc := "(LTileWarden;I)I" } : Jvm.MethodName)) ∈ lwG := lwG_4 24 (by decide +kernel) (by decide +kernel)
theorem q4_25 : (Jvm.Cond.static ({ cls := "TileWardenLaw", name := "money", desc := "(LTileWarden;I)I" } : Jvm.MethodName)) ∈ lwG := lwG_4 25 (by decide +kernel) (by decide +kernel)
theorem q4_26 : (Jvm.Cond.codeWith ({ cls := "TileWardenLaw", name := "money", desc := "(LTileWarden;I)I" } : Jvm.MethodName) method_14_code (3 : Nat) (Option.some Jvm.ClassFile.FieldType.int) [((0 : Nat), (5 : Nat), (6 : Nat), (22 : Nat))]) ∈ lwG := lwG_4 26 (by decide +kernel) (by decide +kernel)
theorem q4_27 : (Jvm.Cond.methodLink "TileWardenLaw" (58 : Nat) ({ cls := "TileWarden", name := "money", desc := "(I)I" } : Jvm.MethodName)) ∈ lwG := lwG_4 27 (by decide +kernel) (by decide +kernel)
theorem q4_28 : (Jvm.Cond.instanceMethod ({ cls := "TileWarden", name := "money", desc := "(I)I" } : Jvm.MethodName)) ∈ lwG := lwG_4 28 (by decide +kernel) (by decide +kernel)
theorem q4_29 : (Jvm.Cond.selects "TileWarden" ({ cls := "TileWarden", name := "money", desc := "(I)I" } : Jvm.MethodName) ({ cls := "TileWarden", name := "money", desc := "(I)I" } : Jvm.MethodName)) ∈ lwG := lwG_4 29 (by decide +kernel) (by decide +kernel)
theorem q4_30 : (Jvm.Cond.code ({ cls := "TileWarden", name := "money", desc := "(I)I" } : Jvm.MethodName) prog_1_method_13_code (2 : Nat) (Option.some Jvm.ClassFile.FieldType.int)) ∈ lwG := lwG_4 30 (by decide +kernel) (by decide +kernel)
theorem q4_31 : (Jvm.Cond.methodLink "TileWardenLaw" (121 : Nat) ({ cls := "TileWardenLaw", name := "setRoom", desc := "(LTileWarden;I)I" } : Jvm.MethodName)) ∈ lwG := lwG_4 31 (by decide +kernel) (by decide +kernel)
theorem q4_32 : (Jvm.Cond.static ({ cls := "TileWardenLaw", name := "setRoom", desc := "(LTileWarden;I)I" } : Jvm.MethodName)) ∈ lwG := lwG_4 32 (by decide +kernel) (by decide +kernel)
theorem q4_33 : (Jvm.Cond.codeWith ({ cls := "TileWardenLaw", name := "setRoom", desc := "(LTileWarden;I)I" } : Jvm.MethodName) method_15_code (3 : Nat) (Option.some Jvm.ClassFile.FieldType.int) [((0 : Nat), (5 : Nat), (6 : Nat), (14 : Nat)), ((0 : Nat), (5 : Nat), (9 : Nat), (27 : Nat))]) ∈ lwG := lwG_4 33 (by decide +kernel) (by decide +kernel)
theorem q4_34 : (Jvm.Cond.methodLink "TileWardenLaw" (61 : Nat) ({ cls := "TileWarden", name := "setRoom", desc := "(I)I" } : Jvm.MethodName)) ∈ lwG := lwG_4 34 (by decide +kernel) (by decide +kernel)
theorem q4_35 : (Jvm.Cond.instanceMethod ({ cls := "TileWarden", name := "setRoom", desc := "(I)I" } : Jvm.MethodName)) ∈ lwG := lwG_4 35 (by decide +kernel) (by decide +kernel)
theorem q4_36 : (Jvm.Cond.selects "TileWarden" ({ cls := "TileWarden", name := "setRoom", desc := "(I)I" } : Jvm.MethodName) ({ cls := "TileWarden", name := "setRoom", desc := "(I)I" } : Jvm.MethodName)) ∈ lwG := lwG_4 36 (by decide +kernel) (by decide +kernel)
theorem q4_37 : (Jvm.Cond.code ({ cls := "TileWarden", name := "setRoom", desc := "(I)I" } : Jvm.MethodName) prog_1_method_14_code (2 : Nat) (Option.some Jvm.ClassFile.FieldType.int)) ∈ lwG := lwG_4 37 (by decide +kernel) (by decide +kernel)
theorem q4_38 : (Jvm.Cond.stringRef "TileWarden" (195 : Nat) "the room is out of range") ∈ tables_1 := lwT_4 38 (by decide +kernel)
theorem q4_39 : (Jvm.Cond.methodLink "TileWarden" (197 : Nat) ({ cls := "TileWarden$Cache", name := "countPinned", desc := "()I" } : Jvm.MethodName)) ∈ lwG := lwG_4 39 (by decide +kernel) (by decide +kernel)
theorem q4_40 : (Jvm.Cond.instanceMethod ({ cls := "TileWarden$Cache", name := "countPinned", desc := "()I" } : Jvm.MethodName)) ∈ lwG := lwG_4 40 (by decide +kernel) (by decide +kernel)
theorem q4_41 : (Jvm.Cond.selects "TileWarden$Cache" ({ cls := "TileWarden$Cache", name := "countPinned", desc := "()I" } : Jvm.MethodName) ({ cls := "TileWarden$Cache", name := "countPinned", desc := "()I" } : Jvm.MethodName)) ∈ lwG := lwG_4 41 (by decide +kernel) (by decide +kernel)
theorem q4_42 : (Jvm.Cond.code ({ cls := "TileWarden$Cache", name := "countPinned", desc := "()I" } : Jvm.MethodName) prog_3_method_7_code (6 : Nat) (Option.some Jvm.ClassFile.FieldType.int)) ∈ lwG := lwG_4 42 (by decide +kernel) (by decide +kernel)
theorem q4_43 : (Jvm.Cond.stringRef "TileWarden" (200 : Nat) "more entries are pinned") ∈ tables_1 := lwT_4 43 (by decide +kernel)
theorem q4_44 : (Jvm.Cond.methodLink "TileWarden" (202 : Nat) ({ cls := "TileWarden$Cache", name := "fitInto", desc := "(I)V" } : Jvm.MethodName)) ∈ lwG := lwG_4 44 (by decide +kernel) (by decide +kernel)
theorem q4_45 : (Jvm.Cond.instanceMethod ({ cls := "TileWarden$Cache", name := "fitInto", desc := "(I)V" } : Jvm.MethodName)) ∈ lwG := lwG_4 45 (by decide +kernel) (by decide +kernel)
theorem q4_46 : (Jvm.Cond.selects "TileWarden$Cache" ({ cls := "TileWarden$Cache", name := "fitInto", desc := "(I)V" } : Jvm.MethodName) ({ cls := "TileWarden$Cache", name := "fitInto", desc := "(I)V" } : Jvm.MethodName)) ∈ lwG := lwG_4 46 (by decide +kernel) (by decide +kernel)
theorem q4_47 : (Jvm.Cond.code ({ cls := "TileWarden$Cache", name := "fitInto", desc := "(I)V" } : Jvm.MethodName) prog_3_method_6_code (3 : Nat) (Option.none : Option Jvm.ClassFile.FieldType)) ∈ lwG := lwG_4 47 (by decide +kernel) (by decide +kernel)
theorem q4_48 : (Jvm.Cond.methodLink "TileWardenLaw" (128 : Nat) ({ cls := "TileWardenLaw", name := "setLimit", desc := "(LTileWarden;I)I" } : Jvm.MethodName)) ∈ lwG := lwG_4 48 (by decide +kernel) (by decide +kernel)
theorem q4_49 : (Jvm.Cond.static ({ cls := "TileWardenLaw", name := "setLimit", desc := "(LTileWarden;I)I" } : Jvm.MethodName)) ∈ lwG := lwG_4 49 (by decide +kernel) (by decide +kernel)
theorem q4_50 : (Jvm.Cond.codeWith ({ cls := "TileWardenLaw", name := "setLimit", desc := "(LTileWarden;I)I" } : Jvm.MethodName) method_20_code (3 : Nat) (Option.some Jvm.ClassFile.FieldType.int) [((0 : Nat), (5 : Nat), (6 : Nat), (14 : Nat))]) ∈ lwG := lwG_4 50 (by decide +kernel) (by decide +kernel)
theorem q4_51 : (Jvm.Cond.methodLink "TileWardenLaw" (76 : Nat) ({ cls := "TileWarden", name := "setLimit", desc := "(I)I" } : Jvm.MethodName)) ∈ lwG := lwG_4 51 (by decide +kernel) (by decide +kernel)
theorem q4_52 : (Jvm.Cond.instanceMethod ({ cls := "TileWarden", name := "setLimit", desc := "(I)I" } : Jvm.MethodName)) ∈ lwG := lwG_4 52 (by decide +kernel) (by decide +kernel)
theorem q4_53 : (Jvm.Cond.selects "TileWarden" ({ cls := "TileWarden", name := "setLimit", desc := "(I)I" } : Jvm.MethodName) ({ cls := "TileWarden", name := "setLimit", desc := "(I)I" } : Jvm.MethodName)) ∈ lwG := lwG_4 53 (by decide +kernel) (by decide +kernel)
theorem q4_54 : (Jvm.Cond.code ({ cls := "TileWarden", name := "setLimit", desc := "(I)I" } : Jvm.MethodName) prog_1_method_21_code (3 : Nat) (Option.some Jvm.ClassFile.FieldType.int)) ∈ lwG := lwG_4 54 (by decide +kernel) (by decide +kernel)
theorem q4_55 : (Jvm.Cond.stringRef "TileWarden" (233 : Nat) "the limit is out of range") ∈ tables_1 := lwT_4 55 (by decide +kernel)
theorem q4_56 : (Jvm.Cond.methodLink "TileWardenLaw" (205 : Nat) ({ cls := "TileWardenLaw", name := "playerOf", desc := "(LTileWarden;I)I" } : Jvm.MethodName)) ∈ lwG := lwG_4 56 (by decide +kernel) (by decide +kernel)
theorem q4_57 : (Jvm.Cond.static ({ cls := "TileWardenLaw", name := "playerOf", desc := "(LTileWarden;I)I" } : Jvm.MethodName)) ∈ lwG := lwG_4 57 (by decide +kernel) (by decide +kernel)
theorem q4_58 : (Jvm.Cond.codeWith ({ cls := "TileWardenLaw", name := "playerOf", desc := "(LTileWarden;I)I" } : Jvm.MethodName) method_23_code (3 : Nat) (Option.some Jvm.ClassFile.FieldType.int) [((0 : Nat), (5 : Nat), (6 : Nat), (22 : Nat))]) ∈ lwG := lwG_4 58 (by decide +kernel) (by decide +kernel)
theorem q4_59 : (Jvm.Cond.methodLink "TileWardenLaw" (85 : Nat) ({ cls := "TileWarden", name := "playerOf", desc := "(I)I" } : Jvm.MethodName)) ∈ lwG := lwG_4 59 (by decide +kernel) (by decide +kernel)
theorem q4_60 : (Jvm.Cond.instanceMethod ({ cls := "TileWarden", name := "playerOf", desc := "(I)I" } : Jvm.MethodName)) ∈ lwG := lwG_4 60 (by decide +kernel) (by decide +kernel)
theorem q4_61 : (Jvm.Cond.selects "TileWarden" ({ cls := "TileWarden", name := "playerOf", desc := "(I)I" } : Jvm.MethodName) ({ cls := "TileWarden", name := "playerOf", desc := "(I)I" } : Jvm.MethodName)) ∈ lwG := lwG_4 61 (by decide +kernel) (by decide +kernel)
theorem q4_62 : (Jvm.Cond.code ({ cls := "TileWarden", name := "playerOf", desc := "(I)I" } : Jvm.MethodName) prog_1_method_25_code (2 : Nat) (Option.some Jvm.ClassFile.FieldType.int)) ∈ lwG := lwG_4 62 (by decide +kernel) (by decide +kernel)
theorem q4_63 : (Jvm.Cond.methodLink "TileWarden" (240 : Nat) ({ cls := "TileWarden", name := "findTrace", desc := "(I)LTileWarden$Trace;" } : Jvm.MethodName)) ∈ lwG := lwG_4 63 (by decide +kernel) (by decide +kernel)
theorem q4_64 : (Jvm.Cond.privateMethod ({ cls := "TileWarden", name := "findTrace", desc := "(I)LTileWarden$Trace;" } : Jvm.MethodName)) ∈ tables_1 := lwT_4 64 (by decide +kernel)
theorem q4_65 : (Jvm.Cond.instanceMethod ({ cls := "TileWarden", name := "findTrace", desc := "(I)LTileWarden$Trace;" } : Jvm.MethodName)) ∈ lwG := lwG_4 65 (by decide +kernel) (by decide +kernel)
theorem q4_66 : (Jvm.Cond.code ({ cls := "TileWarden", name := "findTrace", desc := "(I)LTileWarden$Trace;" } : Jvm.MethodName) prog_1_method_33_code (2 : Nat) (Option.some (Jvm.ClassFile.FieldType.object "TileWarden$Trace"))) ∈ lwG := lwG_4 66 (by decide +kernel) (by decide +kernel)
theorem q4_67 : (Jvm.Cond.stringRef "TileWarden" (278 : Nat) "there is no such trace") ∈ tables_1 := lwT_4 67 (by decide +kernel)
theorem q4_68 : (Jvm.Cond.methodLink "TileWardenLaw" (167 : Nat) ({ cls := "TileWardenLaw", name := "hitShare", desc := "(LTileWarden;)F" } : Jvm.MethodName)) ∈ lwG := lwG_4 68 (by decide +kernel) (by decide +kernel)
theorem q4_69 : (Jvm.Cond.static ({ cls := "TileWardenLaw", name := "hitShare", desc := "(LTileWarden;)F" } : Jvm.MethodName)) ∈ lwG := lwG_4 69 (by decide +kernel) (by decide +kernel)
theorem q4_70 : (Jvm.Cond.codeWith ({ cls := "TileWardenLaw", name := "hitShare", desc := "(LTileWarden;)F" } : Jvm.MethodName) method_25_code (2 : Nat) (Option.some Jvm.ClassFile.FieldType.float) [((0 : Nat), (4 : Nat), (5 : Nat), (95 : Nat))]) ∈ lwG := lwG_4 70 (by decide +kernel) (by decide +kernel)
theorem q4_71 : (Jvm.Cond.classLink "TileWardenLaw" (95 : Nat) "java/lang/ArithmeticException") ∈ lwG := lwG_4 71 (by decide +kernel) (by decide +kernel)
theorem q4_72 : (Jvm.Cond.instantiable "java/lang/ArithmeticException" (6 : Nat)) ∈ lwG := lwG_4 72 (by decide +kernel) (by decide +kernel)
theorem q4_73 : (Jvm.Cond.instanceMethod ({ cls := "java/lang/ArithmeticException", name := "<init>", desc := "(Ljava/lang/String;)V" } : Jvm.MethodName)) ∈ lwG := lwG_4 73 (by decide +kernel) (by decide +kernel)
theorem q4_74 : (Jvm.Cond.code ({ cls := "java/lang/ArithmeticException", name := "<init>", desc := "(Ljava/lang/String;)V" } : Jvm.MethodName) prog_15_method_2_code (2 : Nat) (Option.none : Option Jvm.ClassFile.FieldType)) ∈ lwG := lwG_4 74 (by decide +kernel) (by decide +kernel)
theorem q4_75 : (Jvm.Cond.methodLink "java/lang/ArithmeticException" (7 : Nat) ({ cls := "java/lang/RuntimeException", name := "<init>", desc := "(Ljava/lang/String;)V" } : Jvm.MethodName)) ∈ lwG := lwG_4 75 (by decide +kernel) (by decide +kernel)
theorem q4_76 : (Jvm.Cond.lays "java/lang/ArithmeticException" "java/lang/Throwable" "backtrace" "Ljava/lang/Object;") ∈ lwG := lwG_4 76 (by decide +kernel) (by decide +kernel)
theorem q4_77 : (Jvm.Cond.lays "java/lang/ArithmeticException" "java/lang/Throwable" "detailMessage" "Ljava/lang/String;") ∈ lwG := lwG_4 77 (by decide +kernel) (by decide +kernel)
theorem q4_78 : (Jvm.Cond.lays "java/lang/ArithmeticException" "java/lang/Throwable" "cause" "Ljava/lang/Throwable;") ∈ lwG := lwG_4 78 (by decide +kernel) (by decide +kernel)
theorem q4_79 : (Jvm.Cond.lays "java/lang/ArithmeticException" "java/lang/Throwable" "stackTrace" "[Ljava/lang/StackTraceElement;") ∈ lwG := lwG_4 79 (by decide +kernel) (by decide +kernel)
theorem q4_80 : (Jvm.Cond.lays "java/lang/ArithmeticException" "java/lang/Throwable" "depth" "I") ∈ lwG := lwG_4 80 (by decide +kernel) (by decide +kernel)
theorem q4_81 : (Jvm.Cond.lays "java/lang/ArithmeticException" "java/lang/Throwable" "suppressedExceptions" "Ljava/util/List;") ∈ lwG := lwG_4 81 (by decide +kernel) (by decide +kernel)
theorem q4_82 : (Jvm.Cond.superclass "java/lang/ArithmeticException" "java/lang/RuntimeException") ∈ lwG := lwG_4 82 (by decide +kernel) (by decide +kernel)
theorem q4_83 : (Jvm.Cond.castable "java/lang/ArithmeticException" "java/lang/ArithmeticException") ∈ tables_1 := lwT_4 83 (by decide +kernel)
theorem q4_84 : (Jvm.Cond.selects "java/lang/ArithmeticException" ({ cls := "java/lang/Throwable", name := "fillInStackTrace", desc := "(I)Ljava/lang/Throwable;" } : Jvm.MethodName) ({ cls := "java/lang/Throwable", name := "fillInStackTrace", desc := "(I)Ljava/lang/Throwable;" } : Jvm.MethodName)) ∈ lwG := lwG_4 84 (by decide +kernel) (by decide +kernel)
theorem q4_85 : (Jvm.Cond.methodLink "TileWardenLaw" (91 : Nat) ({ cls := "TileWarden", name := "hitShare", desc := "()F" } : Jvm.MethodName)) ∈ lwG := lwG_4 85 (by decide +kernel) (by decide +kernel)
theorem q4_86 : (Jvm.Cond.instanceMethod ({ cls := "TileWarden", name := "hitShare", desc := "()F" } : Jvm.MethodName)) ∈ lwG := lwG_4 86 (by decide +kernel) (by decide +kernel)
theorem q4_87 : (Jvm.Cond.selects "TileWarden" ({ cls := "TileWarden", name := "hitShare", desc := "()F" } : Jvm.MethodName) ({ cls := "TileWarden", name := "hitShare", desc := "()F" } : Jvm.MethodName)) ∈ lwG := lwG_4 87 (by decide +kernel) (by decide +kernel)
theorem q4_88 : (Jvm.Cond.code ({ cls := "TileWarden", name := "hitShare", desc := "()F" } : Jvm.MethodName) prog_1_method_28_code (3 : Nat) (Option.some Jvm.ClassFile.FieldType.float)) ∈ lwG := lwG_4 88 (by decide +kernel) (by decide +kernel)
theorem q4_89 : (Jvm.Cond.classLink "TileWarden" (250 : Nat) "java/lang/ArithmeticException") ∈ lwG := lwG_4 89 (by decide +kernel) (by decide +kernel)
theorem q4_90 : (Jvm.Cond.stringRef "TileWarden" (252 : Nat) "no hint that was sold made a hit or a miss") ∈ tables_1 := lwT_4 90 (by decide +kernel)
theorem q4_91 : (Jvm.Cond.methodLink "TileWarden" (254 : Nat) ({ cls := "java/lang/ArithmeticException", name := "<init>", desc := "(Ljava/lang/String;)V" } : Jvm.MethodName)) ∈ lwG := lwG_4 91 (by decide +kernel) (by decide +kernel)
theorem q4_92 : (Jvm.Cond.constantFloat "TileWardenLaw" (97 : Nat) (3212836864 : UInt32)) ∈ tables_1 := lwT_4 92 (by decide +kernel)
theorem q4_93 : (Jvm.Cond.methodLink "TileWardenLaw" (173 : Nat) ({ cls := "TileWardenLaw", name := "meanPrice", desc := "(LTileWarden;)D" } : Jvm.MethodName)) ∈ lwG := lwG_4 93 (by decide +kernel) (by decide +kernel)
theorem q4_94 : (Jvm.Cond.static ({ cls := "TileWardenLaw", name := "meanPrice", desc := "(LTileWarden;)D" } : Jvm.MethodName)) ∈ lwG := lwG_4 94 (by decide +kernel) (by decide +kernel)
theorem q4_95 : (Jvm.Cond.codeWith ({ cls := "TileWardenLaw", name := "meanPrice", desc := "(LTileWarden;)D" } : Jvm.MethodName) method_26_code (2 : Nat) (Option.some Jvm.ClassFile.FieldType.double) [((0 : Nat), (4 : Nat), (5 : Nat), (95 : Nat))]) ∈ lwG := lwG_4 95 (by decide +kernel) (by decide +kernel)
theorem q4_96 : (Jvm.Cond.methodLink "TileWardenLaw" (98 : Nat) ({ cls := "TileWarden", name := "meanPrice", desc := "()D" } : Jvm.MethodName)) ∈ lwG := lwG_4 96 (by decide +kernel) (by decide +kernel)
theorem q4_97 : (Jvm.Cond.instanceMethod ({ cls := "TileWarden", name := "meanPrice", desc := "()D" } : Jvm.MethodName)) ∈ lwG := lwG_4 97 (by decide +kernel) (by decide +kernel)
theorem q4_98 : (Jvm.Cond.selects "TileWarden" ({ cls := "TileWarden", name := "meanPrice", desc := "()D" } : Jvm.MethodName) ({ cls := "TileWarden", name := "meanPrice", desc := "()D" } : Jvm.MethodName)) ∈ lwG := lwG_4 98 (by decide +kernel) (by decide +kernel)
theorem q4_99 : (Jvm.Cond.code ({ cls := "TileWarden", name := "meanPrice", desc := "()D" } : Jvm.MethodName) prog_1_method_29_code (1 : Nat) (Option.some Jvm.ClassFile.FieldType.double)) ∈ lwG := lwG_4 99 (by decide +kernel) (by decide +kernel)
theorem q4_100 : (Jvm.Cond.stringRef "TileWarden" (255 : Nat) "no hint was sold") ∈ tables_1 := lwT_4 100 (by decide +kernel)
theorem q4_101 : (Jvm.Cond.constantDouble "TileWardenLaw" (102 : Nat) (13830554455654793216 : UInt64)) ∈ tables_1 := lwT_4 101 (by decide +kernel)
theorem q4_102 : (Jvm.Cond.methodLink "TileWardenLaw" (218 : Nat) ({ cls := "TileWardenLaw", name := "acts", desc := "(LTileWarden;ILTileWardenLaw$Draw;)I" } : Jvm.MethodName)) ∈ lwG := lwG_4 102 (by decide +kernel) (by decide +kernel)
theorem q4_103 : (Jvm.Cond.static ({ cls := "TileWardenLaw", name := "acts", desc := "(LTileWarden;ILTileWardenLaw$Draw;)I" } : Jvm.MethodName)) ∈ lwG := lwG_4 103 (by decide +kernel) (by decide +kernel)
theorem q4_104 : (Jvm.Cond.code ({ cls := "TileWardenLaw", name := "acts", desc := "(LTileWarden;ILTileWardenLaw$Draw;)I" } : Jvm.MethodName) method_27_code (6 : Nat) (Option.some Jvm.ClassFile.FieldType.int)) ∈ lwG := lwG_4 104 (by decide +kernel) (by decide +kernel)
theorem q4_105 : (Jvm.Cond.methodLink "TileWardenLaw" (118 : Nat) ({ cls := "TileWardenLaw", name := "leads", desc := "(LTileWarden;II)I" } : Jvm.MethodName)) ∈ lwG := lwG_4 105 (by decide +kernel) (by decide +kernel)
theorem q4_106 : (Jvm.Cond.static ({ cls := "TileWardenLaw", name := "leads", desc := "(LTileWarden;II)I" } : Jvm.MethodName)) ∈ lwG := lwG_4 106 (by decide +kernel) (by decide +kernel)
theorem q4_107 : (Jvm.Cond.code ({ cls := "TileWardenLaw", name := "leads", desc := "(LTileWarden;II)I" } : Jvm.MethodName) method_28_code (8 : Nat) (Option.some Jvm.ClassFile.FieldType.int)) ∈ lwG := lwG_4 107 (by decide +kernel) (by decide +kernel)
theorem q4_108 : (Jvm.Cond.methodLink "TileWardenLaw" (132 : Nat) ({ cls := "TileWardenLaw", name := "worth", desc := "(LTileWarden;II)I" } : Jvm.MethodName)) ∈ lwG := lwG_4 108 (by decide +kernel) (by decide +kernel)
theorem q4_109 : (Jvm.Cond.static ({ cls := "TileWardenLaw", name := "worth", desc := "(LTileWarden;II)I" } : Jvm.MethodName)) ∈ lwG := lwG_4 109 (by decide +kernel) (by decide +kernel)
theorem q4_110 : (Jvm.Cond.codeWith ({ cls := "TileWardenLaw", name := "worth", desc := "(LTileWarden;II)I" } : Jvm.MethodName) method_13_code (4 : Nat) (Option.some Jvm.ClassFile.FieldType.int) [((0 : Nat), (6 : Nat), (7 : Nat), (22 : Nat)), ((0 : Nat), (6 : Nat), (10 : Nat), (14 : Nat))]) ∈ lwG := lwG_4 110 (by decide +kernel) (by decide +kernel)
theorem q4_111 : (Jvm.Cond.methodLink "TileWardenLaw" (55 : Nat) ({ cls := "TileWarden", name := "worth", desc := "(II)I" } : Jvm.MethodName)) ∈ lwG := lwG_4 111 (by decide +kernel) (by decide +kernel)
theorem q4_112 : (Jvm.Cond.instanceMethod ({ cls := "TileWarden", name := "worth", desc := "(II)I" } : Jvm.MethodName)) ∈ lwG := lwG_4 112 (by decide +kernel) (by decide +kernel)
theorem q4_113 : (Jvm.Cond.selects "TileWarden" ({ cls := "TileWarden", name := "worth", desc := "(II)I" } : Jvm.MethodName) ({ cls := "TileWarden", name := "worth", desc := "(II)I" } : Jvm.MethodName)) ∈ lwG := lwG_4 113 (by decide +kernel) (by decide +kernel)
theorem q4_114 : (Jvm.Cond.code ({ cls := "TileWarden", name := "worth", desc := "(II)I" } : Jvm.MethodName) prog_1_method_12_code (4 : Nat) (Option.some Jvm.ClassFile.FieldType.int)) ∈ lwG := lwG_4 114 (by decide +kernel) (by decide +kernel)
theorem q4_115 : (Jvm.Cond.methodLink "TileWardenLaw" (134 : Nat) ({ cls := "TileWardenLaw", name := "price", desc := "(LTileWarden;II)I" } : Jvm.MethodName)) ∈ lwG := lwG_4 115 (by decide +kernel) (by decide +kernel)
theorem q4_116 : (Jvm.Cond.static ({ cls := "TileWardenLaw", name := "price", desc := "(LTileWarden;II)I" } : Jvm.MethodName)) ∈ lwG := lwG_4 116 (by decide +kernel) (by decide +kernel)
theorem q4_117 : (Jvm.Cond.codeWith ({ cls := "TileWardenLaw", name := "price", desc := "(LTileWarden;II)I" } : Jvm.MethodName) method_11_code (4 : Nat) (Option.some Jvm.ClassFile.FieldType.int) [((0 : Nat), (6 : Nat), (7 : Nat), (22 : Nat)), ((0 : Nat), (6 : Nat), (10 : Nat), (14 : Nat)), ((0 : Nat), (6 : Nat), (14 : Nat), (27 : Nat))]) ∈ lwG := lwG_4 117 (by decide +kernel) (by decide +kernel)
theorem q4_118 : (Jvm.Cond.methodLink "TileWardenLaw" (47 : Nat) ({ cls := "TileWarden", name := "price", desc := "(II)I" } : Jvm.MethodName)) ∈ lwG := lwG_4 118 (by decide +kernel) (by decide +kernel)
theorem q4_119 : (Jvm.Cond.instanceMethod ({ cls := "TileWarden", name := "price", desc := "(II)I" } : Jvm.MethodName)) ∈ lwG := lwG_4 119 (by decide +kernel) (by decide +kernel)
theorem q4_120 : (Jvm.Cond.selects "TileWarden" ({ cls := "TileWarden", name := "price", desc := "(II)I" } : Jvm.MethodName) ({ cls := "TileWarden", name := "price", desc := "(II)I" } : Jvm.MethodName)) ∈ lwG := lwG_4 120 (by decide +kernel) (by decide +kernel)
theorem q4_121 : (Jvm.Cond.code ({ cls := "TileWarden", name := "price", desc := "(II)I" } : Jvm.MethodName) prog_1_method_10_code (4 : Nat) (Option.some Jvm.ClassFile.FieldType.int)) ∈ lwG := lwG_4 121 (by decide +kernel) (by decide +kernel)
theorem q4_122 : (Jvm.Cond.methodLink "TileWardenLaw" (136 : Nat) ({ cls := "TileWardenLaw", name := "canPush", desc := "(LTileWarden;II)I" } : Jvm.MethodName)) ∈ lwG := lwG_4 122 (by decide +kernel) (by decide +kernel)
theorem q4_123 : (Jvm.Cond.static ({ cls := "TileWardenLaw", name := "canPush", desc := "(LTileWarden;II)I" } : Jvm.MethodName)) ∈ lwG := lwG_4 123 (by decide +kernel) (by decide +kernel)
theorem q4_124 : (Jvm.Cond.codeWith ({ cls := "TileWardenLaw", name := "canPush", desc := "(LTileWarden;II)I" } : Jvm.MethodName) method_9_code (4 : Nat) (Option.some Jvm.ClassFile.FieldType.int) [((0 : Nat), (14 : Nat), (15 : Nat), (22 : Nat)), ((0 : Nat), (14 : Nat), (18 : Nat), (14 : Nat))]) ∈ lwG := lwG_4 124 (by decide +kernel) (by decide +kernel)
theorem q4_125 : (Jvm.Cond.methodLink "TileWardenLaw" (39 : Nat) ({ cls := "TileWarden", name := "canPush", desc := "(II)Z" } : Jvm.MethodName)) ∈ lwG := lwG_4 125 (by decide +kernel) (by decide +kernel)
theorem q4_126 : (Jvm.Cond.instanceMethod ({ cls := "TileWarden", name := "canPush", desc := "(II)Z" } : Jvm.MethodName)) ∈ lwG := lwG_4 126 (by decide +kernel) (by decide +kernel)
theorem q4_127 : (Jvm.Cond.selects "TileWarden" ({ cls := "TileWarden", name := "canPush", desc := "(II)Z" } : Jvm.MethodName) ({ cls := "TileWarden", name := "canPush", desc := "(II)Z" } : Jvm.MethodName)) ∈ lwG := lwG_4 127 (by decide +kernel) (by decide +kernel)
theorem q4_128 : (Jvm.Cond.code ({ cls := "TileWarden", name := "canPush", desc := "(II)Z" } : Jvm.MethodName) prog_1_method_8_code (4 : Nat) (Option.some Jvm.ClassFile.FieldType.boolean)) ∈ lwG := lwG_4 128 (by decide +kernel) (by decide +kernel)
theorem q4_129 : (Jvm.Cond.methodLink "TileWardenLaw" (138 : Nat) ({ cls := "TileWardenLaw", name := "isCached", desc := "(LTileWarden;II)I" } : Jvm.MethodName)) ∈ lwG := lwG_4 129 (by decide +kernel) (by decide +kernel)
theorem q4_130 : (Jvm.Cond.static ({ cls := "TileWardenLaw", name := "isCached", desc := "(LTileWarden;II)I" } : Jvm.MethodName)) ∈ lwG := lwG_4 130 (by decide +kernel) (by decide +kernel)
theorem q4_131 : (Jvm.Cond.codeWith ({ cls := "TileWardenLaw", name := "isCached", desc := "(LTileWarden;II)I" } : Jvm.MethodName) method_16_code (4 : Nat) (Option.some Jvm.ClassFile.FieldType.int) [((0 : Nat), (14 : Nat), (15 : Nat), (22 : Nat)), ((0 : Nat), (14 : Nat), (18 : Nat), (14 : Nat))]) ∈ lwG := lwG_4 131 (by decide +kernel) (by decide +kernel)
theorem q4_132 : (Jvm.Cond.methodLink "TileWardenLaw" (64 : Nat) ({ cls := "TileWarden", name := "isCached", desc := "(II)Z" } : Jvm.MethodName)) ∈ lwG := lwG_4 132 (by decide +kernel) (by decide +kernel)
theorem q4_133 : (Jvm.Cond.instanceMethod ({ cls := "TileWarden", name := "isCached", desc := "(II)Z" } : Jvm.MethodName)) ∈ lwG := lwG_4 133 (by decide +kernel) (by decide +kernel)
theorem q4_134 : (Jvm.Cond.selects "TileWarden" ({ cls := "TileWarden", name := "isCached", desc := "(II)Z" } : Jvm.MethodName) ({ cls := "TileWarden", name := "isCached", desc := "(II)Z" } : Jvm.MethodName)) ∈ lwG := lwG_4 134 (by decide +kernel) (by decide +kernel)
theorem q4_135 : (Jvm.Cond.code ({ cls := "TileWarden", name := "isCached", desc := "(II)Z" } : Jvm.MethodName) prog_1_method_16_code (4 : Nat) (Option.some Jvm.ClassFile.FieldType.boolean)) ∈ lwG := lwG_4 135 (by decide +kernel) (by decide +kernel)
theorem q4_136 : (Jvm.Cond.methodLink "TileWardenLaw" (124 : Nat) ({ cls := "TileWardenLaw", name := "pin", desc := "(LTileWarden;II)I" } : Jvm.MethodName)) ∈ lwG := lwG_4 136 (by decide +kernel) (by decide +kernel)
theorem q4_137 : (Jvm.Cond.static ({ cls := "TileWardenLaw", name := "pin", desc := "(LTileWarden;II)I" } : Jvm.MethodName)) ∈ lwG := lwG_4 137 (by decide +kernel) (by decide +kernel)
theorem q4_138 : (Jvm.Cond.codeWith ({ cls := "TileWardenLaw", name := "pin", desc := "(LTileWarden;II)I" } : Jvm.MethodName) method_17_code (4 : Nat) (Option.some Jvm.ClassFile.FieldType.int) [((0 : Nat), (6 : Nat), (7 : Nat), (22 : Nat)), ((0 : Nat), (6 : Nat), (10 : Nat), (14 : Nat)), ((0 : Nat), (6 : Nat), (14 : Nat), (27 : Nat)), ((0 : Nat), (6 : Nat), (18 : Nat), (53 : Nat))]) ∈ lwG := lwG_4 138 (by decide +kernel) (by decide +kernel)
theorem q4_139 : (Jvm.Cond.methodLink "TileWardenLaw" (67 : Nat) ({ cls := "TileWarden", name := "pin", desc := "(II)I" } : Jvm.MethodName)) ∈ lwG := lwG_4 139 (by decide +kernel) (by decide +kernel)
theorem q4_140 : (Jvm.Cond.instanceMethod ({ cls := "TileWarden", name := "pin", desc := "(II)I" } : Jvm.MethodName)) ∈ lwG := lwG_4 140 (by decide +kernel) (by decide +kernel)
theorem q4_141 : (Jvm.Cond.selects "TileWarden" ({ cls := "TileWarden", name := "pin", desc := "(II)I" } : Jvm.MethodName) ({ cls := "TileWarden", name := "pin", desc := "(II)I" } : Jvm.MethodName)) ∈ lwG := lwG_4 141 (by decide +kernel) (by decide +kernel)
theorem q4_142 : (Jvm.Cond.code ({ cls := "TileWarden", name := "pin", desc := "(II)I" } : Jvm.MethodName) prog_1_method_17_code (5 : Nat) (Option.some Jvm.ClassFile.FieldType.int)) ∈ lwG := lwG_4 142 (by decide +kernel) (by decide +kernel)
theorem q4_143 : (Jvm.Cond.stringRef "TileWarden" (212 : Nat) "the game is void") ∈ tables_1 := lwT_4 143 (by decide +kernel)
theorem q4_144 : (Jvm.Cond.stringRef "TileWarden" (214 : Nat) "there is no such entry") ∈ tables_1 := lwT_4 144 (by decide +kernel)
theorem q4_145 : (Jvm.Cond.methodLink "TileWarden" (224 : Nat) ({ cls := "TileWarden$Cache", name := "countPins", desc := "(I)I" } : Jvm.MethodName)) ∈ lwG := lwG_4 145 (by decide +kernel) (by decide +kernel)
theorem q4_146 : (Jvm.Cond.instanceMethod ({ cls := "TileWarden$Cache", name := "countPins", desc := "(I)I" } : Jvm.MethodName)) ∈ lwG := lwG_4 146 (by decide +kernel) (by decide +kernel)
theorem q4_147 : (Jvm.Cond.selects "TileWarden$Cache" ({ cls := "TileWarden$Cache", name := "countPins", desc := "(I)I" } : Jvm.MethodName) ({ cls := "TileWarden$Cache", name := "countPins", desc := "(I)I" } : Jvm.MethodName)) ∈ lwG := lwG_4 147 (by decide +kernel) (by decide +kernel)
theorem q4_148 : (Jvm.Cond.code ({ cls := "TileWarden$Cache", name := "countPins", desc := "(I)I" } : Jvm.MethodName) prog_3_method_8_code (7 : Nat) (Option.some Jvm.ClassFile.FieldType.int)) ∈ lwG := lwG_4 148 (by decide +kernel) (by decide +kernel)
theorem q4_149 : (Jvm.Cond.methodLink "TileWardenLaw" (126 : Nat) ({ cls := "TileWardenLaw", name := "unpin", desc := "(LTileWarden;I)I" } : Jvm.MethodName)) ∈ lwG := lwG_4 149 (by decide +kernel) (by decide +kernel)
theorem q4_150 : (Jvm.Cond.static ({ cls := "TileWardenLaw", name := "unpin", desc := "(LTileWarden;I)I" } : Jvm.MethodName)) ∈ lwG := lwG_4 150 (by decide +kernel) (by decide +kernel)
theorem q4_151 : (Jvm.Cond.codeWith ({ cls := "TileWardenLaw", name := "unpin", desc := "(LTileWarden;I)I" } : Jvm.MethodName) method_18_code (3 : Nat) (Option.some Jvm.ClassFile.FieldType.int) [((0 : Nat), (5 : Nat), (6 : Nat), (22 : Nat))]) ∈ lwG := lwG_4 151 (by decide +kernel) (by decide +kernel)
theorem q4_152 : (Jvm.Cond.methodLink "TileWardenLaw" (70 : Nat) ({ cls := "TileWarden", name := "unpin", desc := "(I)I" } : Jvm.MethodName)) ∈ lwG := lwG_4 152 (by decide +kernel) (by decide +kernel)
theorem q4_153 : (Jvm.Cond.instanceMethod ({ cls := "TileWarden", name := "unpin", desc := "(I)I" } : Jvm.MethodName)) ∈ lwG := lwG_4 153 (by decide +kernel) (by decide +kernel)
theorem q4_154 : (Jvm.Cond.selects "TileWarden" ({ cls := "TileWarden", name := "unpin", desc := "(I)I" } : Jvm.MethodName) ({ cls := "TileWarden", name := "unpin", desc := "(I)I" } : Jvm.MethodName)) ∈ lwG := lwG_4 154 (by decide +kernel) (by decide +kernel)
theorem q4_155 : (Jvm.Cond.code ({ cls := "TileWarden", name := "unpin", desc := "(I)I" } : Jvm.MethodName) prog_1_method_18_code (4 : Nat) (Option.some Jvm.ClassFile.FieldType.int)) ∈ lwG := lwG_4 155 (by decide +kernel) (by decide +kernel)
theorem q4_156 : (Jvm.Cond.methodLink "TileWarden" (227 : Nat) ({ cls := "TileWarden$Cache", name := "takePins", desc := "(I)V" } : Jvm.MethodName)) ∈ lwG := lwG_4 156 (by decide +kernel) (by decide +kernel)
theorem q4_157 : (Jvm.Cond.instanceMethod ({ cls := "TileWarden$Cache", name := "takePins", desc := "(I)V" } : Jvm.MethodName)) ∈ lwG := lwG_4 157 (by decide +kernel) (by decide +kernel)
theorem q4_158 : (Jvm.Cond.selects "TileWarden$Cache" ({ cls := "TileWarden$Cache", name := "takePins", desc := "(I)V" } : Jvm.MethodName) ({ cls := "TileWarden$Cache", name := "takePins", desc := "(I)V" } : Jvm.MethodName)) ∈ lwG := lwG_4 158 (by decide +kernel) (by decide +kernel)
theorem q4_159 : (Jvm.Cond.code ({ cls := "TileWarden$Cache", name := "takePins", desc := "(I)V" } : Jvm.MethodName) prog_3_method_9_code (6 : Nat) (Option.none : Option Jvm.ClassFile.FieldType)) ∈ lwG := lwG_4 159 (by decide +kernel) (by decide +kernel)
theorem q4_160 : (Jvm.Cond.methodLink "TileWardenLaw" (130 : Nat) ({ cls := "TileWardenLaw", name := "judge", desc := "(LTileWarden;I)I" } : Jvm.MethodName)) ∈ lwG := lwG_4 160 (by decide +kernel) (by decide +kernel)
theorem q4_161 : (Jvm.Cond.static ({ cls := "TileWardenLaw", name := "judge", desc := "(LTileWarden;I)I" } : Jvm.MethodName)) ∈ lwG := lwG_4 161 (by decide +kernel) (by decide +kernel)
theorem q4_162 : (Jvm.Cond.codeWith ({ cls := "TileWardenLaw", name := "judge", desc := "(LTileWarden;I)I" } : Jvm.MethodName) method_21_code (3 : Nat) (Option.some Jvm.ClassFile.FieldType.int) [((0 : Nat), (5 : Nat), (6 : Nat), (22 : Nat)), ((0 : Nat), (5 : Nat), (9 : Nat), (27 : Nat))]) ∈ lwG := lwG_4 162 (by decide +kernel) (by decide +kernel)
theorem q4_163 : (Jvm.Cond.methodLink "TileWardenLaw" (79 : Nat) ({ cls := "TileWarden", name := "judge", desc := "(I)I" } : Jvm.MethodName)) ∈ lwG := lwG_4 163 (by decide +kernel) (by decide +kernel)
theorem q4_164 : (Jvm.Cond.instanceMethod ({ cls := "TileWarden", name := "judge", desc := "(I)I" } : Jvm.MethodName)) ∈ lwG := lwG_4 164 (by decide +kernel) (by decide +kernel)
theorem q4_165 : (Jvm.Cond.selects "TileWarden" ({ cls := "TileWarden", name := "judge", desc := "(I)I" } : Jvm.MethodName) ({ cls := "TileWarden", name := "judge", desc := "(I)I" } : Jvm.MethodName)) ∈ lwG := lwG_4 165 (by decide +kernel) (by decide +kernel)
theorem q4_166 : (Jvm.Cond.code ({ cls := "TileWarden", name := "judge", desc := "(I)I" } : Jvm.MethodName) prog_1_method_22_code (3 : Nat) (Option.some Jvm.ClassFile.FieldType.int)) ∈ lwG := lwG_4 166 (by decide +kernel) (by decide +kernel)
theorem q4_167 : (Jvm.Cond.stringRef "TileWarden" (235 : Nat) "the game is void already") ∈ tables_1 := lwT_4 167 (by decide +kernel)
theorem q4_168 : (Jvm.Cond.methodLink "TileWardenLaw" (214 : Nat) ({ cls := "TileWardenLaw", name := "told", desc := "(LTileWarden;)Ljava/lang/String;" } : Jvm.MethodName)) ∈ lwG := lwG_4 168 (by decide +kernel) (by decide +kernel)
theorem q4_169 : (Jvm.Cond.static ({ cls := "TileWardenLaw", name := "told", desc := "(LTileWarden;)Ljava/lang/String;" } : Jvm.MethodName)) ∈ lwG := lwG_4 169 (by decide +kernel) (by decide +kernel)
theorem q4_170 : (Jvm.Cond.code ({ cls := "TileWardenLaw", name := "told", desc := "(LTileWarden;)Ljava/lang/String;" } : Jvm.MethodName) method_29_code (3 : Nat) (Option.some (Jvm.ClassFile.FieldType.object "java/lang/String"))) ∈ lwG := lwG_4 170 (by decide +kernel) (by decide +kernel)
theorem q4_171 : (Jvm.Cond.classLink "TileWardenLaw" (140 : Nat) "java/lang/StringBuilder") ∈ lwG := lwG_4 171 (by decide +kernel) (by decide +kernel)
theorem q4_172 : (Jvm.Cond.instantiable "java/lang/StringBuilder" (4 : Nat)) ∈ lwG := lwG_4 172 (by decide +kernel) (by decide +kernel)
theorem q4_173 : (Jvm.Cond.methodLink "TileWardenLaw" (142 : Nat) ({ cls := "java/lang/StringBuilder", name := "<init>", desc := "()V" } : Jvm.MethodName)) ∈ lwG := lwG_4 173 (by decide +kernel) (by decide +kernel)
theorem q4_174 : (Jvm.Cond.instanceMethod ({ cls := "java/lang/StringBuilder", name := "<init>", desc := "()V" } : Jvm.MethodName)) ∈ lwG := lwG_4 174 (by decide +kernel) (by decide +kernel)
theorem q4_175 : (Jvm.Cond.code ({ cls := "java/lang/StringBuilder", name := "<init>", desc := "()V" } : Jvm.MethodName) prog_34_method_1_code (1 : Nat) (Option.none : Option Jvm.ClassFile.FieldType)) ∈ lwG := lwG_4 175 (by decide +kernel) (by decide +kernel)
theorem q4_176 : (Jvm.Cond.methodLink "java/lang/StringBuilder" (1 : Nat) ({ cls := "java/lang/AbstractStringBuilder", name := "<init>", desc := "(I)V" } : Jvm.MethodName)) ∈ lwG := lwG_4 176 (by decide +kernel) (by decide +kernel)
theorem q4_177 : (Jvm.Cond.instanceMethod ({ cls := "java/lang/AbstractStringBuilder", name := "<init>", desc := "(I)V" } : Jvm.MethodName)) ∈ lwG := lwG_4 177 (by decide +kernel) (by decide +kernel)
theorem q4_178 : (Jvm.Cond.code ({ cls := "java/lang/AbstractStringBuilder", name := "<init>", desc := "(I)V" } : Jvm.MethodName) prog_13_method_2_code (2 : Nat) (Option.none : Option Jvm.ClassFile.FieldType)) ∈ lwG := lwG_4 178 (by decide +kernel) (by decide +kernel)
theorem q4_179 : (Jvm.Cond.methodLink "java/lang/AbstractStringBuilder" (3 : Nat) ({ cls := "java/lang/Object", name := "<init>", desc := "()V" } : Jvm.MethodName)) ∈ lwG := lwG_4 179 (by decide +kernel) (by decide +kernel)
theorem q4_180 : (Jvm.Cond.fieldLink "java/lang/AbstractStringBuilder" (18 : Nat) "java/lang/String" "COMPACT_STRINGS" "Z") ∈ lwG := lwG_4 180 (by decide +kernel) (by decide +kernel)
theorem q4_181 : (Jvm.Cond.laysStatic "java/lang/String" "COMPACT_STRINGS" "Z") ∈ tables_1 := lwT_4 181 (by decide +kernel)
theorem q4_182 : (Jvm.Cond.methodLink "java/lang/AbstractStringBuilder" (26 : Nat) ({ cls := "java/lang/StringUTF16", name := "newBytesFor", desc := "(I)[B" } : Jvm.MethodName)) ∈ lwG := lwG_4 182 (by decide +kernel) (by decide +kernel)
theorem q4_183 : (Jvm.Cond.static ({ cls := "java/lang/StringUTF16", name := "newBytesFor", desc := "(I)[B" } : Jvm.MethodName)) ∈ lwG := lwG_4 183 (by decide +kernel) (by decide +kernel)
theorem q4_184 : (Jvm.Cond.code ({ cls := "java/lang/StringUTF16", name := "newBytesFor", desc := "(I)[B" } : Jvm.MethodName) prog_36_method_2_code (1 : Nat) (Option.some (Jvm.ClassFile.FieldType.array Jvm.ClassFile.FieldType.byte))) ∈ lwG := lwG_4 184 (by decide +kernel) (by decide +kernel)
theorem q4_185 : (Jvm.Cond.methodLink "java/lang/StringUTF16" (11 : Nat) ({ cls := "java/lang/StringUTF16", name := "newBytesLength", desc := "(I)I" } : Jvm.MethodName)) ∈ lwG := lwG_4 185 (by decide +kernel) (by decide +kernel)
theorem q4_186 : (Jvm.Cond.static ({ cls := "java/lang/StringUTF16", name := "newBytesLength", desc := "(I)I" } : Jvm.MethodName)) ∈ lwG := lwG_4 186 (by decide +kernel) (by decide +kernel)
theorem q4_187 : (Jvm.Cond.code ({ cls := "java/lang/StringUTF16", name := "newBytesLength", desc := "(I)I" } : Jvm.MethodName) prog_36_method_3_code (1 : Nat) (Option.some Jvm.ClassFile.FieldType.int)) ∈ lwG := lwG_4 187 (by decide +kernel) (by decide +kernel)
theorem q4_188 : (Jvm.Cond.constant "java/lang/StringUTF16" (20 : Nat) (1073741823 : Int32)) ∈ lwG := lwG_4 188 (by decide +kernel) (by decide +kernel)
theorem q4_189 : (Jvm.Cond.fieldLink "java/lang/AbstractStringBuilder" (15 : Nat) "java/lang/AbstractStringBuilder" "value" "[B") ∈ lwG := lwG_4 189 (by decide +kernel) (by decide +kernel)
theorem q4_190 : (Jvm.Cond.fieldLink "java/lang/AbstractStringBuilder" (22 : Nat) "java/lang/AbstractStringBuilder" "coder" "B") ∈ lwG := lwG_4 190 (by decide +kernel) (by decide +kernel)
theorem q4_191 : (Jvm.Cond.fieldLink "java/lang/AbstractStringBuilder" (73 : Nat) "java/lang/AbstractStringBuilder" "maybeLatin1" "Z") ∈ lwG := lwG_4 191 (by decide +kernel) (by decide +kernel)
theorem q4_192 : (Jvm.Cond.fieldLink "java/lang/String" (1048 : Nat) "java/lang/AbstractStringBuilder" "maybeLatin1" "Z") ∈ lwG := lwG_4 192 (by decide +kernel) (by decide +kernel)
theorem q4_193 : (Jvm.Cond.fieldLink "java/lang/AbstractStringBuilder" (79 : Nat) "java/lang/AbstractStringBuilder" "count" "I") ∈ lwG := lwG_4 193 (by decide +kernel) (by decide +kernel)
theorem q4_194 : (Jvm.Cond.lays "java/lang/StringBuilder" "java/lang/AbstractStringBuilder" "value" "[B") ∈ lwG := lwG_4 194 (by decide +kernel) (by decide +kernel)
theorem q4_195 : (Jvm.Cond.soleField "java/lang/AbstractStringBuilder" "value") ∈ tables_1 := lwT_4 195 (by decide +kernel)
theorem q4_196 : (Jvm.Cond.lays "java/lang/StringBuilder" "java/lang/AbstractStringBuilder" "coder" "B") ∈ lwG := lwG_4 196 (by decide +kernel) (by decide +kernel)
theorem q4_197 : (Jvm.Cond.soleField "java/lang/AbstractStringBuilder" "coder") ∈ tables_1 := lwT_4 197 (by decide +kernel)
theorem q4_198 : (Jvm.Cond.lays "java/lang/StringBuilder" "java/lang/AbstractStringBuilder" "maybeLatin1" "Z") ∈ lwG := lwG_4 198 (by decide +kernel) (by decide +kernel)
theorem q4_199 : (Jvm.Cond.soleField "java/lang/AbstractStringBuilder" "maybeLatin1") ∈ tables_1 := lwT_4 199 (by decide +kernel)
theorem q4_200 : (Jvm.Cond.lays "java/lang/StringBuilder" "java/lang/AbstractStringBuilder" "count" "I") ∈ lwG := lwG_4 200 (by decide +kernel) (by decide +kernel)
theorem q4_201 : (Jvm.Cond.soleField "java/lang/AbstractStringBuilder" "count") ∈ tables_1 := lwT_4 201 (by decide +kernel)
theorem q4_202 : (Jvm.Cond.superclass "java/lang/StringBuilder" "java/lang/AbstractStringBuilder") ∈ lwG := lwG_4 202 (by decide +kernel) (by decide +kernel)
theorem q4_203 : (Jvm.Cond.methodLink "TileWardenLaw" (147 : Nat) ({ cls := "java/lang/StringBuilder", name := "append", desc := "(I)Ljava/lang/StringBuilder;" } : Jvm.MethodName)) ∈ lwG := lwG_4 203 (by decide +kernel) (by decide +kernel)
theorem q4_204 : (Jvm.Cond.instanceMethod ({ cls := "java/lang/StringBuilder", name := "append", desc := "(I)Ljava/lang/StringBuilder;" } : Jvm.MethodName)) ∈ lwG := lwG_4 204 (by decide +kernel) (by decide +kernel)
theorem q4_205 : (Jvm.Cond.selects "java/lang/StringBuilder" ({ cls := "java/lang/StringBuilder", name := "append", desc := "(I)Ljava/lang/StringBuilder;" } : Jvm.MethodName) ({ cls := "java/lang/StringBuilder", name := "append", desc := "(I)Ljava/lang/StringBuilder;" } : Jvm.MethodName)) ∈ lwG := lwG_4 205 (by decide +kernel) (by decide +kernel)
theorem q4_206 : (Jvm.Cond.code ({ cls := "java/lang/StringBuilder", name := "append", desc := "(I)Ljava/lang/StringBuilder;" } : Jvm.MethodName) prog_34_method_15_code (2 : Nat) (Option.some (Jvm.ClassFile.FieldType.object "java/lang/StringBuilder"))) ∈ lwG := lwG_4 206 (by decide +kernel) (by decide +kernel)
theorem q4_207 : (Jvm.Cond.methodLink "java/lang/StringBuilder" (53 : Nat) ({ cls := "java/lang/AbstractStringBuilder", name := "append", desc := "(I)Ljava/lang/AbstractStringBuilder;" } : Jvm.MethodName)) ∈ lwG := lwG_4 207 (by decide +kernel) (by decide +kernel)
theorem q4_208 : (Jvm.Cond.instanceMethod ({ cls := "java/lang/AbstractStringBuilder", name := "append", desc := "(I)Ljava/lang/AbstractStringBuilder;" } : Jvm.MethodName)) ∈ lwG := lwG_4 208 (by decide +kernel) (by decide +kernel)
theorem q4_209 : (Jvm.Cond.code ({ cls := "java/lang/AbstractStringBuilder", name := "append", desc := "(I)Ljava/lang/AbstractStringBuilder;" } : Jvm.MethodName) prog_13_method_32_code (4 : Nat) (Option.some (Jvm.ClassFile.FieldType.object "java/lang/AbstractStringBuilder"))) ∈ lwG := lwG_4 209 (by decide +kernel) (by decide +kernel)
theorem q4_210 : (Jvm.Cond.methodLink "java/lang/AbstractStringBuilder" (245 : Nat) ({ cls := "java/lang/Integer", name := "stringSize", desc := "(I)I" } : Jvm.MethodName)) ∈ lwG := lwG_4 210 (by decide +kernel) (by decide +kernel)
theorem q4_211 : (Jvm.Cond.static ({ cls := "java/lang/Integer", name := "stringSize", desc := "(I)I" } : Jvm.MethodName)) ∈ lwG := lwG_4 211 (by decide +kernel) (by decide +kernel)
theorem q4_212 : (Jvm.Cond.code ({ cls := "java/lang/Integer", name := "stringSize", desc := "(I)I" } : Jvm.MethodName) prog_26_method_13_code (4 : Nat) (Option.some Jvm.ClassFile.FieldType.int)) ∈ lwG := lwG_4 212 (by decide +kernel) (by decide +kernel)
theorem q4_213 : (Jvm.Cond.methodLink "java/lang/AbstractStringBuilder" (100 : Nat) ({ cls := "java/lang/AbstractStringBuilder", name := "ensureCapacityInternal", desc := "(I)V" } : Jvm.MethodName)) ∈ lwG := lwG_4 213 (by decide +kernel) (by decide +kernel)
theorem q4_214 : (Jvm.Cond.privateMethod ({ cls := "java/lang/AbstractStringBuilder", name := "ensureCapacityInternal", desc := "(I)V" } : Jvm.MethodName)) ∈ tables_1 := lwT_4 214 (by decide +kernel)
theorem q4_215 : (Jvm.Cond.instanceMethod ({ cls := "java/lang/AbstractStringBuilder", name := "ensureCapacityInternal", desc := "(I)V" } : Jvm.MethodName)) ∈ lwG := lwG_4 215 (by decide +kernel) (by decide +kernel)
theorem q4_216 : (Jvm.Cond.code ({ cls := "java/lang/AbstractStringBuilder", name := "ensureCapacityInternal", desc := "(I)V" } : Jvm.MethodName) prog_13_method_9_code (3 : Nat) (Option.none : Option Jvm.ClassFile.FieldType)) ∈ lwG := lwG_4 216 (by decide +kernel) (by decide +kernel)
theorem q4_217 : (Jvm.Cond.methodLink "java/lang/AbstractStringBuilder" (104 : Nat) ({ cls := "java/lang/AbstractStringBuilder", name := "newCapacity", desc := "(I)I" } : Jvm.MethodName)) ∈ lwG := lwG_4 217 (by decide +kernel) (by decide +kernel)
theorem q4_218 : (Jvm.Cond.privateMethod ({ cls := "java/lang/AbstractStringBuilder", name := "newCapacity", desc := "(I)I" } : Jvm.MethodName)) ∈ tables_1 := lwT_4 218 (by decide +kernel)
theorem q4_219 : (Jvm.Cond.instanceMethod ({ cls := "java/lang/AbstractStringBuilder", name := "newCapacity", desc := "(I)I" } : Jvm.MethodName)) ∈ lwG := lwG_4 219 (by decide +kernel) (by decide +kernel)
theorem q4_220 : (Jvm.Cond.code ({ cls := "java/lang/AbstractStringBuilder", name := "newCapacity", desc := "(I)I" } : Jvm.MethodName) prog_13_method_10_code (6 : Nat) (Option.some Jvm.ClassFile.FieldType.int)) ∈ lwG := lwG_4 220 (by decide +kernel) (by decide +kernel)
theorem q4_221 : (Jvm.Cond.methodLink "java/lang/AbstractStringBuilder" (114 : Nat) ({ cls := "jdk/internal/util/ArraysSupport", name := "newLength", desc := "(III)I" } : Jvm.MethodName)) ∈ lwG := lwG_4 221 (by decide +kernel) (by decide +kernel)
theorem q4_222 : (Jvm.Cond.constant "java/lang/AbstractStringBuilder" (39 : Nat) (2147483647 : Int32)) ∈ lwG := lwG_4 222 (by decide +kernel) (by decide +kernel)
theorem q4_223 : (Jvm.Cond.methodLink "java/lang/AbstractStringBuilder" (108 : Nat) ({ cls := "java/util/Arrays", name := "copyOf", desc := "([BI)[B" } : Jvm.MethodName)) ∈ lwG := lwG_4 223 (by decide +kernel) (by decide +kernel)
theorem q4_224 : (Jvm.Cond.static ({ cls := "java/util/Arrays", name := "copyOf", desc := "([BI)[B" } : Jvm.MethodName)) ∈ lwG := lwG_4 224 (by decide +kernel) (by decide +kernel)
theorem q4_225 : (Jvm.Cond.code ({ cls := "java/util/Arrays", name := "copyOf", desc := "([BI)[B" } : Jvm.MethodName) prog_45_method_121_code (3 : Nat) (Option.some (Jvm.ClassFile.FieldType.array Jvm.ClassFile.FieldType.byte))) ∈ lwG := lwG_4 225 (by decide +kernel) (by decide +kernel)
theorem q4_226 : (Jvm.Cond.methodLink "java/util/Arrays" (310 : Nat) ({ cls := "[B", name := "clone", desc := "()Ljava/lang/Object;" } : Jvm.MethodName)) ∈ lwG := lwG_4 226 (by decide +kernel) (by decide +kernel)
theorem q4_227 : (Jvm.Cond.sameMethod "[B" "java/lang/Object" "clone" "()Ljava/lang/Object;") ∈ lwG := lwG_4 227 (by decide +kernel) (by decide +kernel)
theorem q4_228 : (Jvm.Cond.native ({ cls := "java/lang/Object", name := "clone", desc := "()Ljava/lang/Object;" } : Jvm.MethodName)) ∈ lwG := lwG_4 228 (by decide +kernel) (by decide +kernel)
theorem q4_229 : (Jvm.Cond.instanceMethod ({ cls := "java/lang/Object", name := "clone", desc := "()Ljava/lang/Object;" } : Jvm.MethodName)) ∈ lwG := lwG_4 229 (by decide +kernel) (by decide +kernel)
theorem q4_230 : (Jvm.Cond.selects "[B" ({ cls := "[B", name := "clone", desc := "()Ljava/lang/Object;" } : Jvm.MethodName) ({ cls := "java/lang/Object", name := "clone", desc := "()Ljava/lang/Object;" } : Jvm.MethodName)) ∈ lwG := lwG_4 230 (by decide +kernel) (by decide +kernel)
theorem q4_231 : (Jvm.Cond.castable "[B" "java/lang/Cloneable") ∈ tables_1 := lwT_4 231 (by decide +kernel)
theorem q4_232 : (Jvm.Cond.classLink "java/util/Arrays" (311 : Nat) "[B") ∈ lwG := lwG_4 232 (by decide +kernel) (by decide +kernel)
theorem q4_233 : (Jvm.Cond.methodLink "java/lang/AbstractStringBuilder" (83 : Nat) ({ cls := "java/lang/AbstractStringBuilder", name := "isLatin1", desc := "()Z" } : Jvm.MethodName)) ∈ lwG := lwG_4 233 (by decide +kernel) (by decide +kernel)
theorem q4_234 : (Jvm.Cond.instanceMethod ({ cls := "java/lang/AbstractStringBuilder", name := "isLatin1", desc := "()Z" } : Jvm.MethodName)) ∈ lwG := lwG_4 234 (by decide +kernel) (by decide +kernel)
theorem q4_235 : (Jvm.Cond.sameMethod "java/lang/AbstractStringBuilder" "java/lang/AbstractStringBuilder" "isLatin1" "()Z") ∈ lwG := lwG_4 235 (by decide +kernel) (by decide +kernel)
theorem q4_236 : (Jvm.Cond.selects "java/lang/StringBuilder" ({ cls := "java/lang/AbstractStringBuilder", name := "isLatin1", desc := "()Z" } : Jvm.MethodName) ({ cls := "java/lang/AbstractStringBuilder", name := "isLatin1", desc := "()Z" } : Jvm.MethodName)) ∈ lwG := lwG_4 236 (by decide +kernel) (by decide +kernel)
theorem q4_237 : (Jvm.Cond.code ({ cls := "java/lang/AbstractStringBuilder", name := "isLatin1", desc := "()Z" } : Jvm.MethodName) prog_13_method_68_code (1 : Nat) (Option.some Jvm.ClassFile.FieldType.boolean)) ∈ lwG := lwG_4 237 (by decide +kernel) (by decide +kernel)
theorem q4_238 : (Jvm.Cond.methodLink "java/lang/AbstractStringBuilder" (248 : Nat) ({ cls := "java/lang/Integer", name := "getChars", desc := "(II[B)I" } : Jvm.MethodName)) ∈ lwG := lwG_4 238 (by decide +kernel) (by decide +kernel)
theorem q4_239 : (Jvm.Cond.static ({ cls := "java/lang/Integer", name := "getChars", desc := "(II[B)I" } : Jvm.MethodName)) ∈ lwG := lwG_4 239 (by decide +kernel) (by decide +kernel)
theorem q5_0 : (Jvm.Cond.code ({ cls := "java/lang/Integer", name := "getChars", desc := "(II[B)I" } : Jvm.MethodName) prog_26_method_12_code (7 : Nat) (Option.some Jvm.ClassFile.FieldType.int)) ∈ lwG := lwG_5 0 (by decide +kernel) (by decide +kernel)
theorem q5_1 : (Jvm.Cond.fieldLink "java/lang/Integer" (83 : Nat) "java/lang/Integer" "DigitOnes" "[B") ∈ lwG := lwG_5 1 (by decide +kernel) (by decide +kernel)
theorem q5_2 : (Jvm.Cond.laysStatic "java/lang/Integer" "DigitOnes" "[B") ∈ tables_1 := lwT_5 2 (by decide +kernel)
theorem q5_3 : (Jvm.Cond.fieldLink "java/lang/Integer" (87 : Nat) "java/lang/Integer" "DigitTens" "[B") ∈ lwG := lwG_5 3 (by decide +kernel) (by decide +kernel)
theorem q5_4 : (Jvm.Cond.laysStatic "java/lang/Integer" "DigitTens" "[B") ∈ tables_1 := lwT_5 4 (by decide +kernel)
theorem q5_5 : (Jvm.Cond.methodLink "java/lang/AbstractStringBuilder" (251 : Nat) ({ cls := "java/lang/StringUTF16", name := "getChars", desc := "(III[B)I" } : Jvm.MethodName)) ∈ lwG := lwG_5 5 (by decide +kernel) (by decide +kernel)
theorem q5_6 : (Jvm.Cond.static ({ cls := "java/lang/StringUTF16", name := "getChars", desc := "(III[B)I" } : Jvm.MethodName)) ∈ lwG := lwG_5 6 (by decide +kernel) (by decide +kernel)
theorem q5_7 : (Jvm.Cond.code ({ cls := "java/lang/StringUTF16", name := "getChars", desc := "(III[B)I" } : Jvm.MethodName) prog_36_method_77_code (5 : Nat) (Option.some Jvm.ClassFile.FieldType.int)) ∈ lwG := lwG_5 7 (by decide +kernel) (by decide +kernel)
theorem q5_8 : (Jvm.Cond.methodLink "java/lang/StringUTF16" (96 : Nat) ({ cls := "java/lang/StringUTF16", name := "checkBoundsBeginEnd", desc := "(II[B)V" } : Jvm.MethodName)) ∈ lwG := lwG_5 8 (by decide +kernel) (by decide +kernel)
theorem q5_9 : (Jvm.Cond.static ({ cls := "java/lang/StringUTF16", name := "checkBoundsBeginEnd", desc := "(II[B)V" } : Jvm.MethodName)) ∈ lwG := lwG_5 9 (by decide +kernel) (by decide +kernel)
theorem q5_10 : (Jvm.Cond.code ({ cls := "java/lang/StringUTF16", name := "checkBoundsBeginEnd", desc := "(II[B)V" } : Jvm.MethodName) prog_36_method_93_code (3 : Nat) (Option.none : Option Jvm.ClassFile.FieldType)) ∈ lwG := lwG_5 10 (by decide +kernel) (by decide +kernel)
theorem q5_11 : (Jvm.Cond.methodLink "java/lang/StringUTF16" (48 : Nat) ({ cls := "java/lang/StringUTF16", name := "length", desc := "([B)I" } : Jvm.MethodName)) ∈ lwG := lwG_5 11 (by decide +kernel) (by decide +kernel)
theorem q5_12 : (Jvm.Cond.static ({ cls := "java/lang/StringUTF16", name := "length", desc := "([B)I" } : Jvm.MethodName)) ∈ lwG := lwG_5 12 (by decide +kernel) (by decide +kernel)
theorem q5_13 : (Jvm.Cond.code ({ cls := "java/lang/StringUTF16", name := "length", desc := "([B)I" } : Jvm.MethodName) prog_36_method_6_code (1 : Nat) (Option.some Jvm.ClassFile.FieldType.int)) ∈ lwG := lwG_5 13 (by decide +kernel) (by decide +kernel)
theorem q5_14 : (Jvm.Cond.methodLink "java/lang/StringUTF16" (241 : Nat) ({ cls := "java/lang/String", name := "checkBoundsBeginEnd", desc := "(III)V" } : Jvm.MethodName)) ∈ lwG := lwG_5 14 (by decide +kernel) (by decide +kernel)
theorem q5_15 : (Jvm.Cond.static ({ cls := "java/lang/String", name := "checkBoundsBeginEnd", desc := "(III)V" } : Jvm.MethodName)) ∈ lwG := lwG_5 15 (by decide +kernel) (by decide +kernel)
theorem q5_16 : (Jvm.Cond.code ({ cls := "java/lang/String", name := "checkBoundsBeginEnd", desc := "(III)V" } : Jvm.MethodName) prog_32_method_158_code (3 : Nat) (Option.none : Option Jvm.ClassFile.FieldType)) ∈ lwG := lwG_5 16 (by decide +kernel) (by decide +kernel)
theorem q5_17 : (Jvm.Cond.fieldLink "java/lang/String" (1053 : Nat) "jdk/internal/util/Preconditions" "SIOOBE_FORMATTER" "Ljava/util/function/BiFunction;") ∈ lwG := lwG_5 17 (by decide +kernel) (by decide +kernel)
theorem q5_18 : (Jvm.Cond.laysStatic "jdk/internal/util/Preconditions" "SIOOBE_FORMATTER" "Ljava/util/function/BiFunction;") ∈ tables_1 := lwT_5 18 (by decide +kernel)
theorem q5_19 : (Jvm.Cond.methodLink "java/lang/String" (1062 : Nat) ({ cls := "jdk/internal/util/Preconditions", name := "checkFromToIndex", desc := "(IIILjava/util/function/BiFunction;)I" } : Jvm.MethodName)) ∈ lwG := lwG_5 19 (by decide +kernel) (by decide +kernel)
theorem q5_20 : (Jvm.Cond.static ({ cls := "jdk/internal/util/Preconditions", name := "checkFromToIndex", desc := "(IIILjava/util/function/BiFunction;)I" } : Jvm.MethodName)) ∈ lwG := lwG_5 20 (by decide +kernel) (by decide +kernel)
theorem q5_21 : (Jvm.Cond.code ({ cls := "jdk/internal/util/Preconditions", name := "checkFromToIndex", desc := "(IIILjava/util/function/BiFunction;)I" } : Jvm.MethodName) prog_57_method_12_code (4 : Nat) (Option.some Jvm.ClassFile.FieldType.int)) ∈ lwG := lwG_5 21 (by decide +kernel) (by decide +kernel)
theorem q5_22 : (Jvm.Cond.methodLink "java/lang/StringUTF16" (393 : Nat) ({ cls := "java/lang/StringUTF16", name := "getChars", desc := "(II[B)I" } : Jvm.MethodName)) ∈ lwG := lwG_5 22 (by decide +kernel) (by decide +kernel)
theorem q5_23 : (Jvm.Cond.static ({ cls := "java/lang/StringUTF16", name := "getChars", desc := "(II[B)I" } : Jvm.MethodName)) ∈ lwG := lwG_5 23 (by decide +kernel) (by decide +kernel)
theorem q5_24 : (Jvm.Cond.code ({ cls := "java/lang/StringUTF16", name := "getChars", desc := "(II[B)I" } : Jvm.MethodName) prog_36_method_89_code (7 : Nat) (Option.some Jvm.ClassFile.FieldType.int)) ∈ lwG := lwG_5 24 (by decide +kernel) (by decide +kernel)
theorem q5_25 : (Jvm.Cond.fieldLink "java/lang/StringUTF16" (403 : Nat) "java/lang/Integer" "DigitOnes" "[B") ∈ lwG := lwG_5 25 (by decide +kernel) (by decide +kernel)
theorem q5_26 : (Jvm.Cond.methodLink "java/lang/StringUTF16" (111 : Nat) ({ cls := "java/lang/StringUTF16", name := "putChar", desc := "([BII)V" } : Jvm.MethodName)) ∈ lwG := lwG_5 26 (by decide +kernel) (by decide +kernel)
theorem q5_27 : (Jvm.Cond.static ({ cls := "java/lang/StringUTF16", name := "putChar", desc := "([BII)V" } : Jvm.MethodName)) ∈ lwG := lwG_5 27 (by decide +kernel) (by decide +kernel)
theorem q5_28 : (Jvm.Cond.code ({ cls := "java/lang/StringUTF16", name := "putChar", desc := "([BII)V" } : Jvm.MethodName) prog_36_method_4_code (3 : Nat) (Option.none : Option Jvm.ClassFile.FieldType)) ∈ lwG := lwG_5 28 (by decide +kernel) (by decide +kernel)
theorem q5_29 : (Jvm.Cond.fieldLink "java/lang/StringUTF16" (44 : Nat) "java/lang/StringUTF16" "$assertionsDisabled" "Z") ∈ lwG := lwG_5 29 (by decide +kernel) (by decide +kernel)
theorem q5_30 : (Jvm.Cond.laysStatic "java/lang/StringUTF16" "$assertionsDisabled" "Z") ∈ tables_1 := lwT_5 30 (by decide +kernel)
theorem q5_31 : (Jvm.Cond.fieldLink "java/lang/StringUTF16" (59 : Nat) "java/lang/StringUTF16" "HI_BYTE_SHIFT" "I") ∈ lwG := lwG_5 31 (by decide +kernel) (by decide +kernel)
theorem q5_32 : (Jvm.Cond.laysStatic "java/lang/StringUTF16" "HI_BYTE_SHIFT" "I") ∈ tables_1 := lwT_5 32 (by decide +kernel)
theorem q5_33 : (Jvm.Cond.fieldLink "java/lang/StringUTF16" (63 : Nat) "java/lang/StringUTF16" "LO_BYTE_SHIFT" "I") ∈ lwG := lwG_5 33 (by decide +kernel) (by decide +kernel)
theorem q5_34 : (Jvm.Cond.laysStatic "java/lang/StringUTF16" "LO_BYTE_SHIFT" "I") ∈ tables_1 := lwT_5 34 (by decide +kernel)
theorem q5_35 : (Jvm.Cond.fieldLink "java/lang/StringUTF16" (407 : Nat) "java/lang/Integer" "DigitTens" "[B") ∈ lwG := lwG_5 35 (by decide +kernel) (by decide +kernel)
theorem q5_36 : (Jvm.Cond.methodLink "TileWardenLaw" (151 : Nat) ({ cls := "java/lang/StringBuilder", name := "append", desc := "(C)Ljava/lang/StringBuilder;" } : Jvm.MethodName)) ∈ lwG := lwG_5 36 (by decide +kernel) (by decide +kernel)
theorem q5_37 : (Jvm.Cond.instanceMethod ({ cls := "java/lang/StringBuilder", name := "append", desc := "(C)Ljava/lang/StringBuilder;" } : Jvm.MethodName)) ∈ lwG := lwG_5 37 (by decide +kernel) (by decide +kernel)
theorem q5_38 : (Jvm.Cond.selects "java/lang/StringBuilder" ({ cls := "java/lang/StringBuilder", name := "append", desc := "(C)Ljava/lang/StringBuilder;" } : Jvm.MethodName) ({ cls := "java/lang/StringBuilder", name := "append", desc := "(C)Ljava/lang/StringBuilder;" } : Jvm.MethodName)) ∈ lwG := lwG_5 38 (by decide +kernel) (by decide +kernel)
theorem q5_39 : (Jvm.Cond.code ({ cls := "java/lang/StringBuilder", name := "append", desc := "(C)Ljava/lang/StringBuilder;" } : Jvm.MethodName) prog_34_method_14_code (2 : Nat) (Option.some (Jvm.ClassFile.FieldType.object "java/lang/StringBuilder"))) ∈ lwG := lwG_5 39 (by decide +kernel) (by decide +kernel)
theorem q5_40 : (Jvm.Cond.methodLink "java/lang/StringBuilder" (50 : Nat) ({ cls := "java/lang/AbstractStringBuilder", name := "append", desc := "(C)Ljava/lang/AbstractStringBuilder;" } : Jvm.MethodName)) ∈ lwG := lwG_5 40 (by decide +kernel) (by decide +kernel)
theorem q5_41 : (Jvm.Cond.instanceMethod ({ cls := "java/lang/AbstractStringBuilder", name := "append", desc := "(C)Ljava/lang/AbstractStringBuilder;" } : Jvm.MethodName)) ∈ lwG := lwG_5 41 (by decide +kernel) (by decide +kernel)
theorem q5_42 : (Jvm.Cond.code ({ cls := "java/lang/AbstractStringBuilder", name := "append", desc := "(C)Ljava/lang/AbstractStringBuilder;" } : Jvm.MethodName) prog_13_method_31_code (2 : Nat) (Option.some (Jvm.ClassFile.FieldType.object "java/lang/AbstractStringBuilder"))) ∈ lwG := lwG_5 42 (by decide +kernel) (by decide +kernel)
theorem q5_43 : (Jvm.Cond.methodLink "java/lang/AbstractStringBuilder" (191 : Nat) ({ cls := "java/lang/StringLatin1", name := "canEncode", desc := "(C)Z" } : Jvm.MethodName)) ∈ lwG := lwG_5 43 (by decide +kernel) (by decide +kernel)
theorem q5_44 : (Jvm.Cond.static ({ cls := "java/lang/StringLatin1", name := "canEncode", desc := "(C)Z" } : Jvm.MethodName)) ∈ lwG := lwG_5 44 (by decide +kernel) (by decide +kernel)
theorem q5_45 : (Jvm.Cond.code ({ cls := "java/lang/StringLatin1", name := "canEncode", desc := "(C)Z" } : Jvm.MethodName) prog_35_method_3_code (1 : Nat) (Option.some Jvm.ClassFile.FieldType.boolean)) ∈ lwG := lwG_5 45 (by decide +kernel) (by decide +kernel)
theorem q5_46 : (Jvm.Cond.methodLink "java/lang/AbstractStringBuilder" (195 : Nat) ({ cls := "java/lang/AbstractStringBuilder", name := "inflate", desc := "()V" } : Jvm.MethodName)) ∈ lwG := lwG_5 46 (by decide +kernel) (by decide +kernel)
theorem q5_47 : (Jvm.Cond.privateMethod ({ cls := "java/lang/AbstractStringBuilder", name := "inflate", desc := "()V" } : Jvm.MethodName)) ∈ tables_1 := lwT_5 47 (by decide +kernel)
theorem q5_48 : (Jvm.Cond.instanceMethod ({ cls := "java/lang/AbstractStringBuilder", name := "inflate", desc := "()V" } : Jvm.MethodName)) ∈ lwG := lwG_5 48 (by decide +kernel) (by decide +kernel)
theorem q5_49 : (Jvm.Cond.code ({ cls := "java/lang/AbstractStringBuilder", name := "inflate", desc := "()V" } : Jvm.MethodName) prog_13_method_11_code (2 : Nat) (Option.none : Option Jvm.ClassFile.FieldType)) ∈ lwG := lwG_5 49 (by decide +kernel) (by decide +kernel)
theorem q5_50 : (Jvm.Cond.methodLink "java/lang/AbstractStringBuilder" (125 : Nat) ({ cls := "java/lang/StringLatin1", name := "inflate", desc := "([BI[BII)V" } : Jvm.MethodName)) ∈ lwG := lwG_5 50 (by decide +kernel) (by decide +kernel)
theorem q5_51 : (Jvm.Cond.static ({ cls := "java/lang/StringLatin1", name := "inflate", desc := "([BI[BII)V" } : Jvm.MethodName)) ∈ lwG := lwG_5 51 (by decide +kernel) (by decide +kernel)
theorem q5_52 : (Jvm.Cond.code ({ cls := "java/lang/StringLatin1", name := "inflate", desc := "([BI[BII)V" } : Jvm.MethodName) prog_35_method_50_code (5 : Nat) (Option.none : Option Jvm.ClassFile.FieldType)) ∈ lwG := lwG_5 52 (by decide +kernel) (by decide +kernel)
theorem q5_53 : (Jvm.Cond.methodLink "java/lang/StringLatin1" (240 : Nat) ({ cls := "java/lang/StringUTF16", name := "inflate", desc := "([BI[BII)V" } : Jvm.MethodName)) ∈ lwG := lwG_5 53 (by decide +kernel) (by decide +kernel)
theorem q5_54 : (Jvm.Cond.static ({ cls := "java/lang/StringUTF16", name := "inflate", desc := "([BI[BII)V" } : Jvm.MethodName)) ∈ lwG := lwG_5 54 (by decide +kernel) (by decide +kernel)
theorem q5_55 : (Jvm.Cond.code ({ cls := "java/lang/StringUTF16", name := "inflate", desc := "([BI[BII)V" } : Jvm.MethodName) prog_36_method_86_code (6 : Nat) (Option.none : Option Jvm.ClassFile.FieldType)) ∈ lwG := lwG_5 55 (by decide +kernel) (by decide +kernel)
theorem q5_56 : (Jvm.Cond.methodLink "java/lang/StringUTF16" (173 : Nat) ({ cls := "java/lang/StringUTF16", name := "checkBoundsOffCount", desc := "(II[B)V" } : Jvm.MethodName)) ∈ lwG := lwG_5 56 (by decide +kernel) (by decide +kernel)
theorem q5_57 : (Jvm.Cond.static ({ cls := "java/lang/StringUTF16", name := "checkBoundsOffCount", desc := "(II[B)V" } : Jvm.MethodName)) ∈ lwG := lwG_5 57 (by decide +kernel) (by decide +kernel)
theorem q5_58 : (Jvm.Cond.code ({ cls := "java/lang/StringUTF16", name := "checkBoundsOffCount", desc := "(II[B)V" } : Jvm.MethodName) prog_36_method_94_code (3 : Nat) (Option.none : Option Jvm.ClassFile.FieldType)) ∈ lwG := lwG_5 58 (by decide +kernel) (by decide +kernel)
theorem q5_59 : (Jvm.Cond.methodLink "java/lang/StringUTF16" (419 : Nat) ({ cls := "java/lang/String", name := "checkBoundsOffCount", desc := "(III)I" } : Jvm.MethodName)) ∈ lwG := lwG_5 59 (by decide +kernel) (by decide +kernel)
theorem q5_60 : (Jvm.Cond.static ({ cls := "java/lang/String", name := "checkBoundsOffCount", desc := "(III)I" } : Jvm.MethodName)) ∈ lwG := lwG_5 60 (by decide +kernel) (by decide +kernel)
theorem q5_61 : (Jvm.Cond.code ({ cls := "java/lang/String", name := "checkBoundsOffCount", desc := "(III)I" } : Jvm.MethodName) prog_32_method_157_code (3 : Nat) (Option.some Jvm.ClassFile.FieldType.int)) ∈ lwG := lwG_5 61 (by decide +kernel) (by decide +kernel)
theorem q5_62 : (Jvm.Cond.methodLink "java/lang/String" (1065 : Nat) ({ cls := "jdk/internal/util/Preconditions", name := "checkFromIndexSize", desc := "(IIILjava/util/function/BiFunction;)I" } : Jvm.MethodName)) ∈ lwG := lwG_5 62 (by decide +kernel) (by decide +kernel)
theorem q5_63 : (Jvm.Cond.static ({ cls := "jdk/internal/util/Preconditions", name := "checkFromIndexSize", desc := "(IIILjava/util/function/BiFunction;)I" } : Jvm.MethodName)) ∈ lwG := lwG_5 63 (by decide +kernel) (by decide +kernel)
theorem q5_64 : (Jvm.Cond.code ({ cls := "jdk/internal/util/Preconditions", name := "checkFromIndexSize", desc := "(IIILjava/util/function/BiFunction;)I" } : Jvm.MethodName) prog_57_method_13_code (4 : Nat) (Option.some Jvm.ClassFile.FieldType.int)) ∈ lwG := lwG_5 64 (by decide +kernel) (by decide +kernel)
theorem q5_65 : (Jvm.Cond.methodLink "java/lang/AbstractStringBuilder" (197 : Nat) ({ cls := "java/lang/StringUTF16", name := "putCharSB", desc := "([BII)V" } : Jvm.MethodName)) ∈ lwG := lwG_5 65 (by decide +kernel) (by decide +kernel)
theorem q5_66 : (Jvm.Cond.static ({ cls := "java/lang/StringUTF16", name := "putCharSB", desc := "([BII)V" } : Jvm.MethodName)) ∈ lwG := lwG_5 66 (by decide +kernel) (by decide +kernel)
theorem q5_67 : (Jvm.Cond.code ({ cls := "java/lang/StringUTF16", name := "putCharSB", desc := "([BII)V" } : Jvm.MethodName) prog_36_method_71_code (3 : Nat) (Option.none : Option Jvm.ClassFile.FieldType)) ∈ lwG := lwG_5 67 (by decide +kernel) (by decide +kernel)
theorem q5_68 : (Jvm.Cond.methodLink "java/lang/StringUTF16" (67 : Nat) ({ cls := "java/lang/StringUTF16", name := "checkIndex", desc := "(I[B)V" } : Jvm.MethodName)) ∈ lwG := lwG_5 68 (by decide +kernel) (by decide +kernel)
theorem q5_69 : (Jvm.Cond.static ({ cls := "java/lang/StringUTF16", name := "checkIndex", desc := "(I[B)V" } : Jvm.MethodName)) ∈ lwG := lwG_5 69 (by decide +kernel) (by decide +kernel)
theorem q5_70 : (Jvm.Cond.code ({ cls := "java/lang/StringUTF16", name := "checkIndex", desc := "(I[B)V" } : Jvm.MethodName) prog_36_method_91_code (2 : Nat) (Option.none : Option Jvm.ClassFile.FieldType)) ∈ lwG := lwG_5 70 (by decide +kernel) (by decide +kernel)
theorem q5_71 : (Jvm.Cond.methodLink "java/lang/StringUTF16" (414 : Nat) ({ cls := "java/lang/String", name := "checkIndex", desc := "(II)V" } : Jvm.MethodName)) ∈ lwG := lwG_5 71 (by decide +kernel) (by decide +kernel)
theorem q5_72 : (Jvm.Cond.static ({ cls := "java/lang/String", name := "checkIndex", desc := "(II)V" } : Jvm.MethodName)) ∈ lwG := lwG_5 72 (by decide +kernel) (by decide +kernel)
theorem q5_73 : (Jvm.Cond.code ({ cls := "java/lang/String", name := "checkIndex", desc := "(II)V" } : Jvm.MethodName) prog_32_method_155_code (2 : Nat) (Option.none : Option Jvm.ClassFile.FieldType)) ∈ lwG := lwG_5 73 (by decide +kernel) (by decide +kernel)
theorem q5_74 : (Jvm.Cond.methodLink "java/lang/String" (1059 : Nat) ({ cls := "jdk/internal/util/Preconditions", name := "checkIndex", desc := "(IILjava/util/function/BiFunction;)I" } : Jvm.MethodName)) ∈ lwG := lwG_5 74 (by decide +kernel) (by decide +kernel)
theorem q5_75 : (Jvm.Cond.methodLink "TileWardenLaw" (154 : Nat) ({ cls := "TileWarden", name := "pinned", desc := "()I" } : Jvm.MethodName)) ∈ lwG := lwG_5 75 (by decide +kernel) (by decide +kernel)
theorem q5_76 : (Jvm.Cond.instanceMethod ({ cls := "TileWarden", name := "pinned", desc := "()I" } : Jvm.MethodName)) ∈ lwG := lwG_5 76 (by decide +kernel) (by decide +kernel)
theorem q5_77 : (Jvm.Cond.selects "TileWarden" ({ cls := "TileWarden", name := "pinned", desc := "()I" } : Jvm.MethodName) ({ cls := "TileWarden", name := "pinned", desc := "()I" } : Jvm.MethodName)) ∈ lwG := lwG_5 77 (by decide +kernel) (by decide +kernel)
theorem q5_78 : (Jvm.Cond.code ({ cls := "TileWarden", name := "pinned", desc := "()I" } : Jvm.MethodName) prog_1_method_19_code (1 : Nat) (Option.some Jvm.ClassFile.FieldType.int)) ∈ lwG := lwG_5 78 (by decide +kernel) (by decide +kernel)
theorem q5_79 : (Jvm.Cond.methodLink "TileWardenLaw" (164 : Nat) ({ cls := "java/lang/StringBuilder", name := "append", desc := "(J)Ljava/lang/StringBuilder;" } : Jvm.MethodName)) ∈ lwG := lwG_5 79 (by decide +kernel) (by decide +kernel)
theorem q5_80 : (Jvm.Cond.instanceMethod ({ cls := "java/lang/StringBuilder", name := "append", desc := "(J)Ljava/lang/StringBuilder;" } : Jvm.MethodName)) ∈ lwG := lwG_5 80 (by decide +kernel) (by decide +kernel)
theorem q5_81 : (Jvm.Cond.selects "java/lang/StringBuilder" ({ cls := "java/lang/StringBuilder", name := "append", desc := "(J)Ljava/lang/StringBuilder;" } : Jvm.MethodName) ({ cls := "java/lang/StringBuilder", name := "append", desc := "(J)Ljava/lang/StringBuilder;" } : Jvm.MethodName)) ∈ lwG := lwG_5 81 (by decide +kernel) (by decide +kernel)
theorem q5_82 : (Jvm.Cond.code ({ cls := "java/lang/StringBuilder", name := "append", desc := "(J)Ljava/lang/StringBuilder;" } : Jvm.MethodName) prog_34_method_16_code (3 : Nat) (Option.some (Jvm.ClassFile.FieldType.object "java/lang/StringBuilder"))) ∈ lwG := lwG_5 82 (by decide +kernel) (by decide +kernel)
theorem q5_83 : (Jvm.Cond.methodLink "java/lang/StringBuilder" (56 : Nat) ({ cls := "java/lang/AbstractStringBuilder", name := "append", desc := "(J)Ljava/lang/AbstractStringBuilder;" } : Jvm.MethodName)) ∈ lwG := lwG_5 83 (by decide +kernel) (by decide +kernel)
theorem q5_84 : (Jvm.Cond.instanceMethod ({ cls := "java/lang/AbstractStringBuilder", name := "append", desc := "(J)Ljava/lang/AbstractStringBuilder;" } : Jvm.MethodName)) ∈ lwG := lwG_5 84 (by decide +kernel) (by decide +kernel)
theorem q5_85 : (Jvm.Cond.code ({ cls := "java/lang/AbstractStringBuilder", name := "append", desc := "(J)Ljava/lang/AbstractStringBuilder;" } : Jvm.MethodName) prog_13_method_33_code (5 : Nat) (Option.some (Jvm.ClassFile.FieldType.object "java/lang/AbstractStringBuilder"))) ∈ lwG := lwG_5 85 (by decide +kernel) (by decide +kernel)
theorem q5_86 : (Jvm.Cond.methodLink "java/lang/AbstractStringBuilder" (254 : Nat) ({ cls := "java/lang/Long", name := "stringSize", desc := "(J)I" } : Jvm.MethodName)) ∈ lwG := lwG_5 86 (by decide +kernel) (by decide +kernel)
theorem q5_87 : (Jvm.Cond.static ({ cls := "java/lang/Long", name := "stringSize", desc := "(J)I" } : Jvm.MethodName)) ∈ lwG := lwG_5 87 (by decide +kernel) (by decide +kernel)
theorem q5_88 : (Jvm.Cond.code ({ cls := "java/lang/Long", name := "stringSize", desc := "(J)I" } : Jvm.MethodName) prog_28_method_15_code (6 : Nat) (Option.some Jvm.ClassFile.FieldType.int)) ∈ lwG := lwG_5 88 (by decide +kernel) (by decide +kernel)
theorem q5_89 : (Jvm.Cond.constantLong "java/lang/Long" (140 : Nat) (-10 : Int64)) ∈ lwG := lwG_5 89 (by decide +kernel) (by decide +kernel)
theorem q5_90 : (Jvm.Cond.constantLong "java/lang/Long" (53 : Nat) (10 : Int64)) ∈ lwG := lwG_5 90 (by decide +kernel) (by decide +kernel)
theorem q5_91 : (Jvm.Cond.methodLink "java/lang/AbstractStringBuilder" (259 : Nat) ({ cls := "java/lang/Long", name := "getChars", desc := "(JI[B)I" } : Jvm.MethodName)) ∈ lwG := lwG_5 91 (by decide +kernel) (by decide +kernel)
theorem q5_92 : (Jvm.Cond.static ({ cls := "java/lang/Long", name := "getChars", desc := "(JI[B)I" } : Jvm.MethodName)) ∈ lwG := lwG_5 92 (by decide +kernel) (by decide +kernel)
theorem q5_93 : (Jvm.Cond.code ({ cls := "java/lang/Long", name := "getChars", desc := "(JI[B)I" } : Jvm.MethodName) prog_28_method_14_code (11 : Nat) (Option.some Jvm.ClassFile.FieldType.int)) ∈ lwG := lwG_5 93 (by decide +kernel) (by decide +kernel)
theorem q5_94 : (Jvm.Cond.constantLong "java/lang/Long" (129 : Nat) (-2147483648 : Int64)) ∈ lwG := lwG_5 94 (by decide +kernel) (by decide +kernel)
theorem q5_95 : (Jvm.Cond.constantLong "java/lang/Long" (131 : Nat) (100 : Int64)) ∈ lwG := lwG_5 95 (by decide +kernel) (by decide +kernel)
theorem q5_96 : (Jvm.Cond.fieldLink "java/lang/Long" (133 : Nat) "java/lang/Integer" "DigitOnes" "[B") ∈ lwG := lwG_5 96 (by decide +kernel) (by decide +kernel)
theorem q5_97 : (Jvm.Cond.fieldLink "java/lang/Long" (137 : Nat) "java/lang/Integer" "DigitTens" "[B") ∈ lwG := lwG_5 97 (by decide +kernel) (by decide +kernel)
theorem q5_98 : (Jvm.Cond.methodLink "java/lang/AbstractStringBuilder" (262 : Nat) ({ cls := "java/lang/StringUTF16", name := "getChars", desc := "(JII[B)I" } : Jvm.MethodName)) ∈ lwG := lwG_5 98 (by decide +kernel) (by decide +kernel)
theorem q5_99 : (Jvm.Cond.static ({ cls := "java/lang/StringUTF16", name := "getChars", desc := "(JII[B)I" } : Jvm.MethodName)) ∈ lwG := lwG_5 99 (by decide +kernel) (by decide +kernel)
theorem q5_100 : (Jvm.Cond.code ({ cls := "java/lang/StringUTF16", name := "getChars", desc := "(JII[B)I" } : Jvm.MethodName) prog_36_method_78_code (6 : Nat) (Option.some Jvm.ClassFile.FieldType.int)) ∈ lwG := lwG_5 100 (by decide +kernel) (by decide +kernel)
theorem q5_101 : (Jvm.Cond.methodLink "java/lang/StringUTF16" (396 : Nat) ({ cls := "java/lang/StringUTF16", name := "getChars", desc := "(JI[B)I" } : Jvm.MethodName)) ∈ lwG := lwG_5 101 (by decide +kernel) (by decide +kernel)
theorem q5_102 : (Jvm.Cond.static ({ cls := "java/lang/StringUTF16", name := "getChars", desc := "(JI[B)I" } : Jvm.MethodName)) ∈ lwG := lwG_5 102 (by decide +kernel) (by decide +kernel)
theorem q5_103 : (Jvm.Cond.code ({ cls := "java/lang/StringUTF16", name := "getChars", desc := "(JI[B)I" } : Jvm.MethodName) prog_36_method_90_code (11 : Nat) (Option.some Jvm.ClassFile.FieldType.int)) ∈ lwG := lwG_5 103 (by decide +kernel) (by decide +kernel)
theorem q5_104 : (Jvm.Cond.constantLong "java/lang/StringUTF16" (410 : Nat) (-2147483648 : Int64)) ∈ lwG := lwG_5 104 (by decide +kernel) (by decide +kernel)
theorem q5_105 : (Jvm.Cond.constantLong "java/lang/StringUTF16" (412 : Nat) (100 : Int64)) ∈ lwG := lwG_5 105 (by decide +kernel) (by decide +kernel)
theorem q5_106 : (Jvm.Cond.methodLink "TileWardenLaw" (170 : Nat) ({ cls := "java/lang/StringBuilder", name := "append", desc := "(F)Ljava/lang/StringBuilder;" } : Jvm.MethodName)) ∈ lwG := lwG_5 106 (by decide +kernel) (by decide +kernel)
theorem q5_107 : (Jvm.Cond.instanceMethod ({ cls := "java/lang/StringBuilder", name := "append", desc := "(F)Ljava/lang/StringBuilder;" } : Jvm.MethodName)) ∈ lwG := lwG_5 107 (by decide +kernel) (by decide +kernel)
theorem q5_108 : (Jvm.Cond.selects "java/lang/StringBuilder" ({ cls := "java/lang/StringBuilder", name := "append", desc := "(F)Ljava/lang/StringBuilder;" } : Jvm.MethodName) ({ cls := "java/lang/StringBuilder", name := "append", desc := "(F)Ljava/lang/StringBuilder;" } : Jvm.MethodName)) ∈ lwG := lwG_5 108 (by decide +kernel) (by decide +kernel)
theorem q5_109 : (Jvm.Cond.code ({ cls := "java/lang/StringBuilder", name := "append", desc := "(F)Ljava/lang/StringBuilder;" } : Jvm.MethodName) prog_34_method_17_code (2 : Nat) (Option.some (Jvm.ClassFile.FieldType.object "java/lang/StringBuilder"))) ∈ lwG := lwG_5 109 (by decide +kernel) (by decide +kernel)
theorem q5_110 : (Jvm.Cond.methodLink "java/lang/StringBuilder" (59 : Nat) ({ cls := "java/lang/AbstractStringBuilder", name := "append", desc := "(F)Ljava/lang/AbstractStringBuilder;" } : Jvm.MethodName)) ∈ lwG := lwG_5 110 (by decide +kernel) (by decide +kernel)
theorem q5_111 : (Jvm.Cond.instanceMethod ({ cls := "java/lang/AbstractStringBuilder", name := "append", desc := "(F)Ljava/lang/AbstractStringBuilder;" } : Jvm.MethodName)) ∈ lwG := lwG_5 111 (by decide +kernel) (by decide +kernel)
theorem q5_112 : (Jvm.Cond.codeWith ({ cls := "java/lang/AbstractStringBuilder", name := "append", desc := "(F)Ljava/lang/AbstractStringBuilder;" } : Jvm.MethodName) prog_13_method_34_code (3 : Nat) (Option.some (Jvm.ClassFile.FieldType.object "java/lang/AbstractStringBuilder")) [((0 : Nat), (6 : Nat), (9 : Nat), (271 : Nat))]) ∈ lwG := lwG_5 112 (by decide +kernel) (by decide +kernel)
theorem q5_113 : (Jvm.Cond.methodLink "java/lang/AbstractStringBuilder" (265 : Nat) ({ cls := "jdk/internal/math/FloatToDecimal", name := "appendTo", desc := "(FLjava/lang/Appendable;)Ljava/lang/Appendable;" } : Jvm.MethodName)) ∈ lwG := lwG_5 113 (by decide +kernel) (by decide +kernel)
theorem q5_114 : (Jvm.Cond.static ({ cls := "jdk/internal/math/FloatToDecimal", name := "appendTo", desc := "(FLjava/lang/Appendable;)Ljava/lang/Appendable;" } : Jvm.MethodName)) ∈ lwG := lwG_5 114 (by decide +kernel) (by decide +kernel)
theorem q5_115 : (Jvm.Cond.code ({ cls := "jdk/internal/math/FloatToDecimal", name := "appendTo", desc := "(FLjava/lang/Appendable;)Ljava/lang/Appendable;" } : Jvm.MethodName) prog_53_method_3_code (2 : Nat) (Option.some (Jvm.ClassFile.FieldType.object "java/lang/Appendable"))) ∈ lwG := lwG_5 115 (by decide +kernel) (by decide +kernel)
theorem q5_116 : (Jvm.Cond.classLink "jdk/internal/math/FloatToDecimal" (3 : Nat) "jdk/internal/math/FloatToDecimal") ∈ lwG := lwG_5 116 (by decide +kernel) (by decide +kernel)
theorem q5_117 : (Jvm.Cond.instantiable "jdk/internal/math/FloatToDecimal" (2 : Nat)) ∈ lwG := lwG_5 117 (by decide +kernel) (by decide +kernel)
theorem q5_118 : (Jvm.Cond.methodLink "jdk/internal/math/FloatToDecimal" (15 : Nat) ({ cls := "jdk/internal/math/FloatToDecimal", name := "<init>", desc := "()V" } : Jvm.MethodName)) ∈ lwG := lwG_5 118 (by decide +kernel) (by decide +kernel)
theorem q5_119 : (Jvm.Cond.instanceMethod ({ cls := "jdk/internal/math/FloatToDecimal", name := "<init>", desc := "()V" } : Jvm.MethodName)) ∈ lwG := lwG_5 119 (by decide +kernel) (by decide +kernel)
theorem q5_120 : (Jvm.Cond.code ({ cls := "jdk/internal/math/FloatToDecimal", name := "<init>", desc := "()V" } : Jvm.MethodName) prog_53_method_1_code (1 : Nat) (Option.none : Option Jvm.ClassFile.FieldType)) ∈ lwG := lwG_5 120 (by decide +kernel) (by decide +kernel)
theorem q5_121 : (Jvm.Cond.methodLink "jdk/internal/math/FloatToDecimal" (5 : Nat) ({ cls := "java/lang/Object", name := "<init>", desc := "()V" } : Jvm.MethodName)) ∈ lwG := lwG_5 121 (by decide +kernel) (by decide +kernel)
theorem q5_122 : (Jvm.Cond.fieldLink "jdk/internal/math/FloatToDecimal" (11 : Nat) "jdk/internal/math/FloatToDecimal" "bytes" "[B") ∈ lwG := lwG_5 122 (by decide +kernel) (by decide +kernel)
theorem q5_123 : (Jvm.Cond.fieldLink "jdk/internal/math/FloatToDecimal" (42 : Nat) "jdk/internal/math/FloatToDecimal" "index" "I") ∈ lwG := lwG_5 123 (by decide +kernel) (by decide +kernel)
theorem q5_124 : (Jvm.Cond.laysFinal "jdk/internal/math/FloatToDecimal" "jdk/internal/math/FloatToDecimal" "bytes" "[B") ∈ lwG := lwG_5 124 (by decide +kernel) (by decide +kernel)
theorem q5_125 : (Jvm.Cond.soleField "jdk/internal/math/FloatToDecimal" "bytes") ∈ tables_1 := lwT_5 125 (by decide +kernel)
theorem q5_126 : (Jvm.Cond.lays "jdk/internal/math/FloatToDecimal" "jdk/internal/math/FloatToDecimal" "index" "I") ∈ lwG := lwG_5 126 (by decide +kernel) (by decide +kernel)
theorem q5_127 : (Jvm.Cond.soleField "jdk/internal/math/FloatToDecimal" "index") ∈ tables_1 := lwT_5 127 (by decide +kernel)
theorem q5_128 : (Jvm.Cond.superclass "jdk/internal/math/FloatToDecimal" "java/lang/Object") ∈ lwG := lwG_5 128 (by decide +kernel) (by decide +kernel)
theorem q5_129 : (Jvm.Cond.methodLink "jdk/internal/math/FloatToDecimal" (20 : Nat) ({ cls := "jdk/internal/math/FloatToDecimal", name := "appendDecimalTo", desc := "(FLjava/lang/Appendable;)Ljava/lang/Appendable;" } : Jvm.MethodName)) ∈ lwG := lwG_5 129 (by decide +kernel) (by decide +kernel)
theorem q5_130 : (Jvm.Cond.privateMethod ({ cls := "jdk/internal/math/FloatToDecimal", name := "appendDecimalTo", desc := "(FLjava/lang/Appendable;)Ljava/lang/Appendable;" } : Jvm.MethodName)) ∈ tables_1 := lwT_5 130 (by decide +kernel)
theorem q5_131 : (Jvm.Cond.instanceMethod ({ cls := "jdk/internal/math/FloatToDecimal", name := "appendDecimalTo", desc := "(FLjava/lang/Appendable;)Ljava/lang/Appendable;" } : Jvm.MethodName)) ∈ lwG := lwG_5 131 (by decide +kernel) (by decide +kernel)
theorem q5_132 : (Jvm.Cond.code ({ cls := "jdk/internal/math/FloatToDecimal", name := "appendDecimalTo", desc := "(FLjava/lang/Appendable;)Ljava/lang/Appendable;" } : Jvm.MethodName) prog_53_method_5_code (8 : Nat) (Option.some (Jvm.ClassFile.FieldType.object "java/lang/Appendable"))) ∈ lwG := lwG_5 132 (by decide +kernel) (by decide +kernel)
theorem q5_133 : (Jvm.Cond.methodLink "jdk/internal/math/FloatToDecimal" (24 : Nat) ({ cls := "jdk/internal/math/FloatToDecimal", name := "toDecimal", desc := "(F)I" } : Jvm.MethodName)) ∈ lwG := lwG_5 133 (by decide +kernel) (by decide +kernel)
theorem q5_134 : (Jvm.Cond.privateMethod ({ cls := "jdk/internal/math/FloatToDecimal", name := "toDecimal", desc := "(F)I" } : Jvm.MethodName)) ∈ tables_1 := lwT_5 134 (by decide +kernel)
theorem q5_135 : (Jvm.Cond.instanceMethod ({ cls := "jdk/internal/math/FloatToDecimal", name := "toDecimal", desc := "(F)I" } : Jvm.MethodName)) ∈ lwG := lwG_5 135 (by decide +kernel) (by decide +kernel)
theorem q5_136 : (Jvm.Cond.code ({ cls := "jdk/internal/math/FloatToDecimal", name := "toDecimal", desc := "(F)I" } : Jvm.MethodName) prog_53_method_6_code (8 : Nat) (Option.some Jvm.ClassFile.FieldType.int)) ∈ lwG := lwG_5 136 (by decide +kernel) (by decide +kernel)
theorem q5_137 : (Jvm.Cond.methodLink "jdk/internal/math/FloatToDecimal" (65 : Nat) ({ cls := "java/lang/Float", name := "floatToRawIntBits", desc := "(F)I" } : Jvm.MethodName)) ∈ lwG := lwG_5 137 (by decide +kernel) (by decide +kernel)
theorem q5_138 : (Jvm.Cond.static ({ cls := "java/lang/Float", name := "floatToRawIntBits", desc := "(F)I" } : Jvm.MethodName)) ∈ lwG := lwG_5 138 (by decide +kernel) (by decide +kernel)
theorem q5_139 : (Jvm.Cond.native ({ cls := "java/lang/Float", name := "floatToRawIntBits", desc := "(F)I" } : Jvm.MethodName)) ∈ lwG := lwG_5 139 (by decide +kernel) (by decide +kernel)
theorem q5_140 : (Jvm.Cond.constant "jdk/internal/math/FloatToDecimal" (68 : Nat) (8388607 : Int32)) ∈ lwG := lwG_5 140 (by decide +kernel) (by decide +kernel)
theorem q5_141 : (Jvm.Cond.methodLink "jdk/internal/math/FloatToDecimal" (69 : Nat) ({ cls := "jdk/internal/math/FloatToDecimal", name := "append", desc := "(I)V" } : Jvm.MethodName)) ∈ lwG := lwG_5 141 (by decide +kernel) (by decide +kernel)
theorem q5_142 : (Jvm.Cond.privateMethod ({ cls := "jdk/internal/math/FloatToDecimal", name := "append", desc := "(I)V" } : Jvm.MethodName)) ∈ tables_1 := lwT_5 142 (by decide +kernel)
theorem q5_143 : (Jvm.Cond.instanceMethod ({ cls := "jdk/internal/math/FloatToDecimal", name := "append", desc := "(I)V" } : Jvm.MethodName)) ∈ lwG := lwG_5 143 (by decide +kernel) (by decide +kernel)
theorem q5_144 : (Jvm.Cond.code ({ cls := "jdk/internal/math/FloatToDecimal", name := "append", desc := "(I)V" } : Jvm.MethodName) prog_53_method_17_code (2 : Nat) (Option.none : Option Jvm.ClassFile.FieldType)) ∈ lwG := lwG_5 144 (by decide +kernel) (by decide +kernel)
theorem q5_145 : (Jvm.Cond.constant "jdk/internal/math/FloatToDecimal" (72 : Nat) (8388608 : Int32)) ∈ lwG := lwG_5 145 (by decide +kernel) (by decide +kernel)
theorem q5_146 : (Jvm.Cond.methodLink "jdk/internal/math/FloatToDecimal" (73 : Nat) ({ cls := "jdk/internal/math/FloatToDecimal", name := "toChars", desc := "(II)I" } : Jvm.MethodName)) ∈ lwG := lwG_5 146 (by decide +kernel) (by decide +kernel)
theorem q5_147 : (Jvm.Cond.privateMethod ({ cls := "jdk/internal/math/FloatToDecimal", name := "toChars", desc := "(II)I" } : Jvm.MethodName)) ∈ tables_1 := lwT_5 147 (by decide +kernel)
theorem q5_148 : (Jvm.Cond.instanceMethod ({ cls := "jdk/internal/math/FloatToDecimal", name := "toChars", desc := "(II)I" } : Jvm.MethodName)) ∈ lwG := lwG_5 148 (by decide +kernel) (by decide +kernel)
theorem q5_149 : (Jvm.Cond.code ({ cls := "jdk/internal/math/FloatToDecimal", name := "toChars", desc := "(II)I" } : Jvm.MethodName) prog_53_method_9_code (6 : Nat) (Option.some Jvm.ClassFile.FieldType.int)) ∈ lwG := lwG_5 149 (by decide +kernel) (by decide +kernel)
theorem q5_150 : (Jvm.Cond.methodLink "jdk/internal/math/FloatToDecimal" (114 : Nat) ({ cls := "java/lang/Integer", name := "numberOfLeadingZeros", desc := "(I)I" } : Jvm.MethodName)) ∈ lwG := lwG_5 150 (by decide +kernel) (by decide +kernel)
theorem q5_151 : (Jvm.Cond.static ({ cls := "java/lang/Integer", name := "numberOfLeadingZeros", desc := "(I)I" } : Jvm.MethodName)) ∈ lwG := lwG_5 151 (by decide +kernel) (by decide +kernel)
theorem q5_152 : (Jvm.Cond.code ({ cls := "java/lang/Integer", name := "numberOfLeadingZeros", desc := "(I)I" } : Jvm.MethodName) prog_26_method_47_code (2 : Nat) (Option.some Jvm.ClassFile.FieldType.int)) ∈ lwG := lwG_5 152 (by decide +kernel) (by decide +kernel)
theorem q5_153 : (Jvm.Cond.constant "java/lang/Integer" (264 : Nat) (65536 : Int32)) ∈ lwG := lwG_5 153 (by decide +kernel) (by decide +kernel)
theorem q5_154 : (Jvm.Cond.methodLink "jdk/internal/math/FloatToDecimal" (82 : Nat) ({ cls := "jdk/internal/math/MathUtils", name := "flog10pow2", desc := "(I)I" } : Jvm.MethodName)) ∈ lwG := lwG_5 154 (by decide +kernel) (by decide +kernel)
theorem q5_155 : (Jvm.Cond.static ({ cls := "jdk/internal/math/MathUtils", name := "flog10pow2", desc := "(I)I" } : Jvm.MethodName)) ∈ lwG := lwG_5 155 (by decide +kernel) (by decide +kernel)
theorem q5_156 : (Jvm.Cond.code ({ cls := "jdk/internal/math/MathUtils", name := "flog10pow2", desc := "(I)I" } : Jvm.MethodName) prog_55_method_3_code (1 : Nat) (Option.some Jvm.ClassFile.FieldType.int)) ∈ lwG := lwG_5 156 (by decide +kernel) (by decide +kernel)
theorem q5_157 : (Jvm.Cond.constantLong "jdk/internal/math/MathUtils" (20 : Nat) (661971961083 : Int64)) ∈ lwG := lwG_5 157 (by decide +kernel) (by decide +kernel)
theorem q5_158 : (Jvm.Cond.methodLink "jdk/internal/math/FloatToDecimal" (117 : Nat) ({ cls := "jdk/internal/math/MathUtils", name := "pow10", desc := "(I)J" } : Jvm.MethodName)) ∈ lwG := lwG_5 158 (by decide +kernel) (by decide +kernel)
theorem q5_159 : (Jvm.Cond.static ({ cls := "jdk/internal/math/MathUtils", name := "pow10", desc := "(I)J" } : Jvm.MethodName)) ∈ lwG := lwG_5 159 (by decide +kernel) (by decide +kernel)
theorem q5_160 : (Jvm.Cond.code ({ cls := "jdk/internal/math/MathUtils", name := "pow10", desc := "(I)J" } : Jvm.MethodName) prog_55_method_2_code (1 : Nat) (Option.some Jvm.ClassFile.FieldType.long)) ∈ lwG := lwG_5 160 (by decide +kernel) (by decide +kernel)
theorem q5_161 : (Jvm.Cond.fieldLink "jdk/internal/math/MathUtils" (14 : Nat) "jdk/internal/math/MathUtils" "pow10" "[J") ∈ lwG := lwG_5 161 (by decide +kernel) (by decide +kernel)
theorem q5_162 : (Jvm.Cond.laysStatic "jdk/internal/math/MathUtils" "pow10" "[J") ∈ tables_1 := lwT_5 162 (by decide +kernel)
theorem q5_163 : (Jvm.Cond.constantLong "jdk/internal/math/FloatToDecimal" (120 : Nat) (1441151881 : Int64)) ∈ lwG := lwG_5 163 (by decide +kernel) (by decide +kernel)
theorem q5_164 : (Jvm.Cond.constant "jdk/internal/math/FloatToDecimal" (122 : Nat) (100000000 : Int32)) ∈ lwG := lwG_5 164 (by decide +kernel) (by decide +kernel)
theorem q5_165 : (Jvm.Cond.methodLink "jdk/internal/math/FloatToDecimal" (123 : Nat) ({ cls := "jdk/internal/math/FloatToDecimal", name := "toChars1", desc := "(III)I" } : Jvm.MethodName)) ∈ lwG := lwG_5 165 (by decide +kernel) (by decide +kernel)
theorem q5_166 : (Jvm.Cond.privateMethod ({ cls := "jdk/internal/math/FloatToDecimal", name := "toChars1", desc := "(III)I" } : Jvm.MethodName)) ∈ tables_1 := lwT_5 166 (by decide +kernel)
theorem q5_167 : (Jvm.Cond.instanceMethod ({ cls := "jdk/internal/math/FloatToDecimal", name := "toChars1", desc := "(III)I" } : Jvm.MethodName)) ∈ lwG := lwG_5 167 (by decide +kernel) (by decide +kernel)
theorem q5_168 : (Jvm.Cond.code ({ cls := "jdk/internal/math/FloatToDecimal", name := "toChars1", desc := "(III)I" } : Jvm.MethodName) prog_53_method_10_code (7 : Nat) (Option.some Jvm.ClassFile.FieldType.int)) ∈ lwG := lwG_5 168 (by decide +kernel) (by decide +kernel)
theorem q5_169 : (Jvm.Cond.methodLink "jdk/internal/math/FloatToDecimal" (132 : Nat) ({ cls := "jdk/internal/math/FloatToDecimal", name := "appendDigit", desc := "(I)V" } : Jvm.MethodName)) ∈ lwG := lwG_5 169 (by decide +kernel) (by decide +kernel)
theorem q5_170 : (Jvm.Cond.privateMethod ({ cls := "jdk/internal/math/FloatToDecimal", name := "appendDigit", desc := "(I)V" } : Jvm.MethodName)) ∈ tables_1 := lwT_5 170 (by decide +kernel)
theorem q5_171 : (Jvm.Cond.instanceMethod ({ cls := "jdk/internal/math/FloatToDecimal", name := "appendDigit", desc := "(I)V" } : Jvm.MethodName)) ∈ lwG := lwG_5 171 (by decide +kernel) (by decide +kernel)
theorem q5_172 : (Jvm.Cond.code ({ cls := "jdk/internal/math/FloatToDecimal", name := "appendDigit", desc := "(I)V" } : Jvm.MethodName) prog_53_method_18_code (2 : Nat) (Option.none : Option Jvm.ClassFile.FieldType)) ∈ lwG := lwG_5 172 (by decide +kernel) (by decide +kernel)
theorem q5_173 : (Jvm.Cond.methodLink "jdk/internal/math/FloatToDecimal" (135 : Nat) ({ cls := "jdk/internal/math/FloatToDecimal", name := "y", desc := "(I)I" } : Jvm.MethodName)) ∈ lwG := lwG_5 173 (by decide +kernel) (by decide +kernel)
theorem q5_174 : (Jvm.Cond.privateMethod ({ cls := "jdk/internal/math/FloatToDecimal", name := "y", desc := "(I)I" } : Jvm.MethodName)) ∈ tables_1 := lwT_5 174 (by decide +kernel)
theorem q5_175 : (Jvm.Cond.instanceMethod ({ cls := "jdk/internal/math/FloatToDecimal", name := "y", desc := "(I)I" } : Jvm.MethodName)) ∈ lwG := lwG_5 175 (by decide +kernel) (by decide +kernel)
theorem q5_176 : (Jvm.Cond.code ({ cls := "jdk/internal/math/FloatToDecimal", name := "y", desc := "(I)I" } : Jvm.MethodName) prog_53_method_15_code (2 : Nat) (Option.some Jvm.ClassFile.FieldType.int)) ∈ lwG := lwG_5 176 (by decide +kernel) (by decide +kernel)
theorem q5_177 : (Jvm.Cond.constantLong "jdk/internal/math/FloatToDecimal" (148 : Nat) (193428131138340668 : Int64)) ∈ lwG := lwG_5 177 (by decide +kernel) (by decide +kernel)
theorem q5_178 : (Jvm.Cond.methodLink "jdk/internal/math/FloatToDecimal" (104 : Nat) ({ cls := "java/lang/Math", name := "multiplyHigh", desc := "(JJ)J" } : Jvm.MethodName)) ∈ lwG := lwG_5 178 (by decide +kernel) (by decide +kernel)
theorem q5_179 : (Jvm.Cond.static ({ cls := "java/lang/Math", name := "multiplyHigh", desc := "(JJ)J" } : Jvm.MethodName)) ∈ lwG := lwG_5 179 (by decide +kernel) (by decide +kernel)
theorem q5_180 : (Jvm.Cond.code ({ cls := "java/lang/Math", name := "multiplyHigh", desc := "(JJ)J" } : Jvm.MethodName) prog_29_method_45_code (20 : Nat) (Option.some Jvm.ClassFile.FieldType.long)) ∈ lwG := lwG_5 180 (by decide +kernel) (by decide +kernel)
theorem q5_181 : (Jvm.Cond.constantLong "java/lang/Math" (138 : Nat) (4294967295 : Int64)) ∈ lwG := lwG_5 181 (by decide +kernel) (by decide +kernel)
theorem q5_182 : (Jvm.Cond.constant "jdk/internal/math/FloatToDecimal" (138 : Nat) (268435455 : Int32)) ∈ lwG := lwG_5 182 (by decide +kernel) (by decide +kernel)
theorem q5_183 : (Jvm.Cond.methodLink "jdk/internal/math/FloatToDecimal" (139 : Nat) ({ cls := "jdk/internal/math/FloatToDecimal", name := "removeTrailingZeroes", desc := "()V" } : Jvm.MethodName)) ∈ lwG := lwG_5 183 (by decide +kernel) (by decide +kernel)
theorem q5_184 : (Jvm.Cond.privateMethod ({ cls := "jdk/internal/math/FloatToDecimal", name := "removeTrailingZeroes", desc := "()V" } : Jvm.MethodName)) ∈ tables_1 := lwT_5 184 (by decide +kernel)
theorem q5_185 : (Jvm.Cond.instanceMethod ({ cls := "jdk/internal/math/FloatToDecimal", name := "removeTrailingZeroes", desc := "()V" } : Jvm.MethodName)) ∈ lwG := lwG_5 185 (by decide +kernel) (by decide +kernel)
theorem q5_186 : (Jvm.Cond.code ({ cls := "jdk/internal/math/FloatToDecimal", name := "removeTrailingZeroes", desc := "()V" } : Jvm.MethodName) prog_53_method_14_code (1 : Nat) (Option.none : Option Jvm.ClassFile.FieldType)) ∈ lwG := lwG_5 186 (by decide +kernel) (by decide +kernel)
theorem q5_187 : (Jvm.Cond.methodLink "jdk/internal/math/FloatToDecimal" (126 : Nat) ({ cls := "jdk/internal/math/FloatToDecimal", name := "toChars2", desc := "(III)I" } : Jvm.MethodName)) ∈ lwG := lwG_5 187 (by decide +kernel) (by decide +kernel)
theorem q5_188 : (Jvm.Cond.privateMethod ({ cls := "jdk/internal/math/FloatToDecimal", name := "toChars2", desc := "(III)I" } : Jvm.MethodName)) ∈ tables_1 := lwT_5 188 (by decide +kernel)
theorem q5_189 : (Jvm.Cond.instanceMethod ({ cls := "jdk/internal/math/FloatToDecimal", name := "toChars2", desc := "(III)I" } : Jvm.MethodName)) ∈ lwG := lwG_5 189 (by decide +kernel) (by decide +kernel)
theorem q5_190 : (Jvm.Cond.code ({ cls := "jdk/internal/math/FloatToDecimal", name := "toChars2", desc := "(III)I" } : Jvm.MethodName) prog_53_method_11_code (4 : Nat) (Option.some Jvm.ClassFile.FieldType.int)) ∈ lwG := lwG_5 190 (by decide +kernel) (by decide +kernel)
theorem q5_191 : (Jvm.Cond.methodLink "jdk/internal/math/FloatToDecimal" (142 : Nat) ({ cls := "jdk/internal/math/FloatToDecimal", name := "append8Digits", desc := "(I)V" } : Jvm.MethodName)) ∈ lwG := lwG_5 191 (by decide +kernel) (by decide +kernel)
theorem q5_192 : (Jvm.Cond.privateMethod ({ cls := "jdk/internal/math/FloatToDecimal", name := "append8Digits", desc := "(I)V" } : Jvm.MethodName)) ∈ tables_1 := lwT_5 192 (by decide +kernel)
theorem q5_193 : (Jvm.Cond.instanceMethod ({ cls := "jdk/internal/math/FloatToDecimal", name := "append8Digits", desc := "(I)V" } : Jvm.MethodName)) ∈ lwG := lwG_5 193 (by decide +kernel) (by decide +kernel)
theorem q5_194 : (Jvm.Cond.code ({ cls := "jdk/internal/math/FloatToDecimal", name := "append8Digits", desc := "(I)V" } : Jvm.MethodName) prog_53_method_13_code (5 : Nat) (Option.none : Option Jvm.ClassFile.FieldType)) ∈ lwG := lwG_5 194 (by decide +kernel) (by decide +kernel)
theorem q5_195 : (Jvm.Cond.methodLink "jdk/internal/math/FloatToDecimal" (129 : Nat) ({ cls := "jdk/internal/math/FloatToDecimal", name := "toChars3", desc := "(III)I" } : Jvm.MethodName)) ∈ lwG := lwG_5 195 (by decide +kernel) (by decide +kernel)
theorem q5_196 : (Jvm.Cond.privateMethod ({ cls := "jdk/internal/math/FloatToDecimal", name := "toChars3", desc := "(III)I" } : Jvm.MethodName)) ∈ tables_1 := lwT_5 196 (by decide +kernel)
theorem q5_197 : (Jvm.Cond.instanceMethod ({ cls := "jdk/internal/math/FloatToDecimal", name := "toChars3", desc := "(III)I" } : Jvm.MethodName)) ∈ lwG := lwG_5 197 (by decide +kernel) (by decide +kernel)
theorem q5_198 : (Jvm.Cond.code ({ cls := "jdk/internal/math/FloatToDecimal", name := "toChars3", desc := "(III)I" } : Jvm.MethodName) prog_53_method_12_code (4 : Nat) (Option.some Jvm.ClassFile.FieldType.int)) ∈ lwG := lwG_5 198 (by decide +kernel) (by decide +kernel)
theorem q5_199 : (Jvm.Cond.methodLink "jdk/internal/math/FloatToDecimal" (145 : Nat) ({ cls := "jdk/internal/math/FloatToDecimal", name := "exponent", desc := "(I)V" } : Jvm.MethodName)) ∈ lwG := lwG_5 199 (by decide +kernel) (by decide +kernel)
theorem q5_200 : (Jvm.Cond.privateMethod ({ cls := "jdk/internal/math/FloatToDecimal", name := "exponent", desc := "(I)V" } : Jvm.MethodName)) ∈ tables_1 := lwT_5 200 (by decide +kernel)
theorem q5_201 : (Jvm.Cond.instanceMethod ({ cls := "jdk/internal/math/FloatToDecimal", name := "exponent", desc := "(I)V" } : Jvm.MethodName)) ∈ lwG := lwG_5 201 (by decide +kernel) (by decide +kernel)
theorem q5_202 : (Jvm.Cond.code ({ cls := "jdk/internal/math/FloatToDecimal", name := "exponent", desc := "(I)V" } : Jvm.MethodName) prog_53_method_16_code (3 : Nat) (Option.none : Option Jvm.ClassFile.FieldType)) ∈ lwG := lwG_5 202 (by decide +kernel) (by decide +kernel)
theorem q5_203 : (Jvm.Cond.methodLink "jdk/internal/math/FloatToDecimal" (77 : Nat) ({ cls := "jdk/internal/math/FloatToDecimal", name := "toDecimal", desc := "(III)I" } : Jvm.MethodName)) ∈ lwG := lwG_5 203 (by decide +kernel) (by decide +kernel)
theorem q5_204 : (Jvm.Cond.privateMethod ({ cls := "jdk/internal/math/FloatToDecimal", name := "toDecimal", desc := "(III)I" } : Jvm.MethodName)) ∈ tables_1 := lwT_5 204 (by decide +kernel)
theorem q5_205 : (Jvm.Cond.instanceMethod ({ cls := "jdk/internal/math/FloatToDecimal", name := "toDecimal", desc := "(III)I" } : Jvm.MethodName)) ∈ lwG := lwG_5 205 (by decide +kernel) (by decide +kernel)
theorem q5_206 : (Jvm.Cond.code ({ cls := "jdk/internal/math/FloatToDecimal", name := "toDecimal", desc := "(III)I" } : Jvm.MethodName) prog_53_method_7_code (23 : Nat) (Option.some Jvm.ClassFile.FieldType.int)) ∈ lwG := lwG_5 206 (by decide +kernel) (by decide +kernel)
theorem q5_207 : (Jvm.Cond.constantLong "jdk/internal/math/FloatToDecimal" (80 : Nat) (2 : Int64)) ∈ lwG := lwG_5 207 (by decide +kernel) (by decide +kernel)
theorem q5_208 : (Jvm.Cond.methodLink "jdk/internal/math/FloatToDecimal" (88 : Nat) ({ cls := "jdk/internal/math/MathUtils", name := "flog10threeQuartersPow2", desc := "(I)I" } : Jvm.MethodName)) ∈ lwG := lwG_5 208 (by decide +kernel) (by decide +kernel)
theorem q5_209 : (Jvm.Cond.static ({ cls := "jdk/internal/math/MathUtils", name := "flog10threeQuartersPow2", desc := "(I)I" } : Jvm.MethodName)) ∈ lwG := lwG_5 209 (by decide +kernel) (by decide +kernel)
theorem q5_210 : (Jvm.Cond.code ({ cls := "jdk/internal/math/MathUtils", name := "flog10threeQuartersPow2", desc := "(I)I" } : Jvm.MethodName) prog_55_method_4_code (1 : Nat) (Option.some Jvm.ClassFile.FieldType.int)) ∈ lwG := lwG_5 210 (by decide +kernel) (by decide +kernel)
theorem q5_211 : (Jvm.Cond.constantLong "jdk/internal/math/MathUtils" (22 : Nat) (-274743187321 : Int64)) ∈ lwG := lwG_5 211 (by decide +kernel) (by decide +kernel)
theorem q5_212 : (Jvm.Cond.methodLink "jdk/internal/math/FloatToDecimal" (91 : Nat) ({ cls := "jdk/internal/math/MathUtils", name := "flog2pow10", desc := "(I)I" } : Jvm.MethodName)) ∈ lwG := lwG_5 212 (by decide +kernel) (by decide +kernel)
theorem q5_213 : (Jvm.Cond.static ({ cls := "jdk/internal/math/MathUtils", name := "flog2pow10", desc := "(I)I" } : Jvm.MethodName)) ∈ lwG := lwG_5 213 (by decide +kernel) (by decide +kernel)
theorem q5_214 : (Jvm.Cond.code ({ cls := "jdk/internal/math/MathUtils", name := "flog2pow10", desc := "(I)I" } : Jvm.MethodName) prog_55_method_5_code (1 : Nat) (Option.some Jvm.ClassFile.FieldType.int)) ∈ lwG := lwG_5 214 (by decide +kernel) (by decide +kernel)
theorem q5_215 : (Jvm.Cond.constantLong "jdk/internal/math/MathUtils" (24 : Nat) (913124641741 : Int64)) ∈ lwG := lwG_5 215 (by decide +kernel) (by decide +kernel)
theorem q5_216 : (Jvm.Cond.methodLink "jdk/internal/math/FloatToDecimal" (94 : Nat) ({ cls := "jdk/internal/math/MathUtils", name := "g1", desc := "(I)J" } : Jvm.MethodName)) ∈ lwG := lwG_5 216 (by decide +kernel) (by decide +kernel)
theorem q5_217 : (Jvm.Cond.static ({ cls := "jdk/internal/math/MathUtils", name := "g1", desc := "(I)J" } : Jvm.MethodName)) ∈ lwG := lwG_5 217 (by decide +kernel) (by decide +kernel)
theorem q5_218 : (Jvm.Cond.code ({ cls := "jdk/internal/math/MathUtils", name := "g1", desc := "(I)J" } : Jvm.MethodName) prog_55_method_6_code (1 : Nat) (Option.some Jvm.ClassFile.FieldType.long)) ∈ lwG := lwG_5 218 (by decide +kernel) (by decide +kernel)
theorem q5_219 : (Jvm.Cond.fieldLink "jdk/internal/math/MathUtils" (26 : Nat) "jdk/internal/math/MathUtils" "g" "[J") ∈ lwG := lwG_5 219 (by decide +kernel) (by decide +kernel)
theorem q5_220 : (Jvm.Cond.laysStatic "jdk/internal/math/MathUtils" "g" "[J") ∈ tables_1 := lwT_5 220 (by decide +kernel)
theorem q5_221 : (Jvm.Cond.methodLink "jdk/internal/math/FloatToDecimal" (98 : Nat) ({ cls := "jdk/internal/math/FloatToDecimal", name := "rop", desc := "(JJ)I" } : Jvm.MethodName)) ∈ lwG := lwG_5 221 (by decide +kernel) (by decide +kernel)
theorem q5_222 : (Jvm.Cond.static ({ cls := "jdk/internal/math/FloatToDecimal", name := "rop", desc := "(JJ)I" } : Jvm.MethodName)) ∈ lwG := lwG_5 222 (by decide +kernel) (by decide +kernel)
theorem q5_223 : (Jvm.Cond.code ({ cls := "jdk/internal/math/FloatToDecimal", name := "rop", desc := "(JJ)I" } : Jvm.MethodName) prog_53_method_8_code (8 : Nat) (Option.some Jvm.ClassFile.FieldType.int)) ∈ lwG := lwG_5 223 (by decide +kernel) (by decide +kernel)
theorem q5_224 : (Jvm.Cond.constantLong "jdk/internal/math/FloatToDecimal" (110 : Nat) (4294967295 : Int64)) ∈ lwG := lwG_5 224 (by decide +kernel) (by decide +kernel)
theorem q5_225 : (Jvm.Cond.constantLong "jdk/internal/math/FloatToDecimal" (102 : Nat) (1717986919 : Int64)) ∈ lwG := lwG_5 225 (by decide +kernel) (by decide +kernel)
theorem q5_226 : (Jvm.Cond.classLink "jdk/internal/math/FloatToDecimal" (46 : Nat) "java/lang/StringBuilder") ∈ lwG := lwG_5 226 (by decide +kernel) (by decide +kernel)
theorem q5_227 : (Jvm.Cond.methodLink "jdk/internal/math/FloatToDecimal" (48 : Nat) ({ cls := "java/lang/StringBuilder", name := "append", desc := "([C)Ljava/lang/StringBuilder;" } : Jvm.MethodName)) ∈ lwG := lwG_5 227 (by decide +kernel) (by decide +kernel)
theorem q5_228 : (Jvm.Cond.instanceMethod ({ cls := "java/lang/StringBuilder", name := "append", desc := "([C)Ljava/lang/StringBuilder;" } : Jvm.MethodName)) ∈ lwG := lwG_5 228 (by decide +kernel) (by decide +kernel)
theorem q5_229 : (Jvm.Cond.selects "java/lang/StringBuilder" ({ cls := "java/lang/StringBuilder", name := "append", desc := "([C)Ljava/lang/StringBuilder;" } : Jvm.MethodName) ({ cls := "java/lang/StringBuilder", name := "append", desc := "([C)Ljava/lang/StringBuilder;" } : Jvm.MethodName)) ∈ lwG := lwG_5 229 (by decide +kernel) (by decide +kernel)
theorem q5_230 : (Jvm.Cond.code ({ cls := "java/lang/StringBuilder", name := "append", desc := "([C)Ljava/lang/StringBuilder;" } : Jvm.MethodName) prog_34_method_11_code (2 : Nat) (Option.some (Jvm.ClassFile.FieldType.object "java/lang/StringBuilder"))) ∈ lwG := lwG_5 230 (by decide +kernel) (by decide +kernel)
theorem q5_231 : (Jvm.Cond.methodLink "java/lang/StringBuilder" (41 : Nat) ({ cls := "java/lang/AbstractStringBuilder", name := "append", desc := "([C)Ljava/lang/AbstractStringBuilder;" } : Jvm.MethodName)) ∈ lwG := lwG_5 231 (by decide +kernel) (by decide +kernel)
theorem q5_232 : (Jvm.Cond.instanceMethod ({ cls := "java/lang/AbstractStringBuilder", name := "append", desc := "([C)Ljava/lang/AbstractStringBuilder;" } : Jvm.MethodName)) ∈ lwG := lwG_5 232 (by decide +kernel) (by decide +kernel)
theorem q5_233 : (Jvm.Cond.code ({ cls := "java/lang/AbstractStringBuilder", name := "append", desc := "([C)Ljava/lang/AbstractStringBuilder;" } : Jvm.MethodName) prog_13_method_28_code (3 : Nat) (Option.some (Jvm.ClassFile.FieldType.object "java/lang/AbstractStringBuilder"))) ∈ lwG := lwG_5 233 (by decide +kernel) (by decide +kernel)
theorem q5_234 : (Jvm.Cond.methodLink "java/lang/AbstractStringBuilder" (239 : Nat) ({ cls := "java/lang/AbstractStringBuilder", name := "appendChars", desc := "([CII)V" } : Jvm.MethodName)) ∈ lwG := lwG_5 234 (by decide +kernel) (by decide +kernel)
theorem q5_235 : (Jvm.Cond.privateMethod ({ cls := "java/lang/AbstractStringBuilder", name := "appendChars", desc := "([CII)V" } : Jvm.MethodName)) ∈ tables_1 := lwT_5 235 (by decide +kernel)
theorem q5_236 : (Jvm.Cond.instanceMethod ({ cls := "java/lang/AbstractStringBuilder", name := "appendChars", desc := "([CII)V" } : Jvm.MethodName)) ∈ lwG := lwG_5 236 (by decide +kernel) (by decide +kernel)
theorem q5_237 : (Jvm.Cond.code ({ cls := "java/lang/AbstractStringBuilder", name := "appendChars", desc := "([CII)V" } : Jvm.MethodName) prog_13_method_74_code (9 : Nat) (Option.none : Option Jvm.ClassFile.FieldType)) ∈ lwG := lwG_5 237 (by decide +kernel) (by decide +kernel)
theorem q5_238 : (Jvm.Cond.methodLink "java/lang/AbstractStringBuilder" (386 : Nat) ({ cls := "java/lang/StringUTF16", name := "putCharsSB", desc := "([BI[CII)V" } : Jvm.MethodName)) ∈ lwG := lwG_5 238 (by decide +kernel) (by decide +kernel)
theorem q5_239 : (Jvm.Cond.static ({ cls := "java/lang/StringUTF16", name := "putCharsSB", desc := "([BI[CII)V" } : Jvm.MethodName)) ∈ lwG := lwG_5 239 (by decide +kernel) (by decide +kernel)
theorem q6_0 : (Jvm.Cond.code ({ cls := "java/lang/StringUTF16", name := "putCharsSB", desc := "([BI[CII)V" } : Jvm.MethodName) prog_36_method_72_code (5 : Nat) (Option.none : Option Jvm.ClassFile.FieldType)) ∈ lwG := lwG_6 0 (by decide +kernel) (by decide +kernel)
theorem q6_1 : (Jvm.Cond.methodLink "java/lang/StringUTF16" (384 : Nat) ({ cls := "java/lang/StringUTF16", name := "putChars", desc := "([BI[CII)V" } : Jvm.MethodName)) ∈ lwG := lwG_6 1 (by decide +kernel) (by decide +kernel)
theorem q6_2 : (Jvm.Cond.static ({ cls := "java/lang/StringUTF16", name := "putChars", desc := "([BI[CII)V" } : Jvm.MethodName)) ∈ lwG := lwG_6 2 (by decide +kernel) (by decide +kernel)
theorem q6_3 : (Jvm.Cond.code ({ cls := "java/lang/StringUTF16", name := "putChars", desc := "([BI[CII)V" } : Jvm.MethodName) prog_36_method_68_code (5 : Nat) (Option.none : Option Jvm.ClassFile.FieldType)) ∈ lwG := lwG_6 3 (by decide +kernel) (by decide +kernel)
theorem q6_4 : (Jvm.Cond.classLink "jdk/internal/math/FloatToDecimal" (52 : Nat) "java/lang/StringBuffer") ∈ lwG := lwG_6 4 (by decide +kernel) (by decide +kernel)
theorem q6_5 : (Jvm.Cond.methodLink "jdk/internal/math/FloatToDecimal" (54 : Nat) ({ cls := "java/lang/StringBuffer", name := "append", desc := "([C)Ljava/lang/StringBuffer;" } : Jvm.MethodName)) ∈ lwG := lwG_6 5 (by decide +kernel) (by decide +kernel)
theorem q6_6 : (Jvm.Cond.instanceMethod ({ cls := "java/lang/StringBuffer", name := "append", desc := "([C)Ljava/lang/StringBuffer;" } : Jvm.MethodName)) ∈ lwG := lwG_6 6 (by decide +kernel) (by decide +kernel)
theorem q6_7 : (Jvm.Cond.selects "java/lang/StringBuffer" ({ cls := "java/lang/StringBuffer", name := "append", desc := "([C)Ljava/lang/StringBuffer;" } : Jvm.MethodName) ({ cls := "java/lang/StringBuffer", name := "append", desc := "([C)Ljava/lang/StringBuffer;" } : Jvm.MethodName)) ∈ lwG := lwG_6 7 (by decide +kernel) (by decide +kernel)
theorem q6_8 : (Jvm.Cond.codeSync ({ cls := "java/lang/StringBuffer", name := "append", desc := "([C)Ljava/lang/StringBuffer;" } : Jvm.MethodName) prog_33_method_24_code (2 : Nat) (Option.some (Jvm.ClassFile.FieldType.object "java/lang/StringBuffer"))) ∈ lwG := lwG_6 8 (by decide +kernel) (by decide +kernel)
theorem q6_9 : (Jvm.Cond.methodLink "java/lang/StringBuffer" (89 : Nat) ({ cls := "java/lang/AbstractStringBuilder", name := "append", desc := "([C)Ljava/lang/AbstractStringBuilder;" } : Jvm.MethodName)) ∈ lwG := lwG_6 9 (by decide +kernel) (by decide +kernel)
theorem q6_10 : (Jvm.Cond.superclass "java/lang/StringBuffer" "java/lang/AbstractStringBuilder") ∈ lwG := lwG_6 10 (by decide +kernel) (by decide +kernel)
theorem q6_11 : (Jvm.Cond.interfaceEntry "jdk/internal/math/FloatToDecimal" (57 : Nat)) ∈ tables_1 := lwT_6 11 (by decide +kernel)
theorem q6_12 : (Jvm.Cond.methodLink "jdk/internal/math/FloatToDecimal" (57 : Nat) ({ cls := "java/lang/Appendable", name := "append", desc := "(C)Ljava/lang/Appendable;" } : Jvm.MethodName)) ∈ lwG := lwG_6 12 (by decide +kernel) (by decide +kernel)
theorem q6_13 : (Jvm.Cond.interfaceMethod "java/lang/Appendable" "java/lang/Appendable" "append" "(C)Ljava/lang/Appendable;") ∈ tables_1 := lwT_6 13 (by decide +kernel)
theorem q6_14 : (Jvm.Cond.declares ({ cls := "java/lang/Appendable", name := "append", desc := "(C)Ljava/lang/Appendable;" } : Jvm.MethodName)) ∈ tables_1 := lwT_6 14 (by decide +kernel)
theorem q6_15 : (Jvm.Cond.castable "java/lang/StringBuilder" "java/lang/Appendable") ∈ tables_1 := lwT_6 15 (by decide +kernel)
theorem q6_16 : (Jvm.Cond.selects "java/lang/StringBuilder" ({ cls := "java/lang/Appendable", name := "append", desc := "(C)Ljava/lang/Appendable;" } : Jvm.MethodName) ({ cls := "java/lang/StringBuilder", name := "append", desc := "(C)Ljava/lang/Appendable;" } : Jvm.MethodName)) ∈ lwG := lwG_6 16 (by decide +kernel) (by decide +kernel)
theorem q6_17 : (Jvm.Cond.unhidden "java/lang/StringBuilder" "append" "(C)Ljava/lang/Appendable;") ∈ tables_1 := lwT_6 17 (by decide +kernel)
theorem q6_18 : (Jvm.Cond.instanceMethod ({ cls := "java/lang/StringBuilder", name := "append", desc := "(C)Ljava/lang/Appendable;" } : Jvm.MethodName)) ∈ lwG := lwG_6 18 (by decide +kernel) (by decide +kernel)
theorem q6_19 : (Jvm.Cond.publicMethod ({ cls := "java/lang/StringBuilder", name := "append", desc := "(C)Ljava/lang/Appendable;" } : Jvm.MethodName)) ∈ tables_1 := lwT_6 19 (by decide +kernel)
theorem q6_20 : (Jvm.Cond.code ({ cls := "java/lang/StringBuilder", name := "append", desc := "(C)Ljava/lang/Appendable;" } : Jvm.MethodName) prog_34_method_94_code (2 : Nat) (Option.some (Jvm.ClassFile.FieldType.object "java/lang/Appendable"))) ∈ lwG := lwG_6 20 (by decide +kernel) (by decide +kernel)
theorem q6_21 : (Jvm.Cond.methodLink "java/lang/StringBuilder" (284 : Nat) ({ cls := "java/lang/StringBuilder", name := "append", desc := "(C)Ljava/lang/StringBuilder;" } : Jvm.MethodName)) ∈ lwG := lwG_6 21 (by decide +kernel) (by decide +kernel)
theorem q6_22 : (Jvm.Cond.stringRef "jdk/internal/math/FloatToDecimal" (32 : Nat) "0.0") ∈ tables_1 := lwT_6 22 (by decide +kernel)
theorem q6_23 : (Jvm.Cond.interfaceEntry "jdk/internal/math/FloatToDecimal" (62 : Nat)) ∈ tables_1 := lwT_6 23 (by decide +kernel)
theorem q6_24 : (Jvm.Cond.methodLink "jdk/internal/math/FloatToDecimal" (62 : Nat) ({ cls := "java/lang/Appendable", name := "append", desc := "(Ljava/lang/CharSequence;)Ljava/lang/Appendable;" } : Jvm.MethodName)) ∈ lwG := lwG_6 24 (by decide +kernel) (by decide +kernel)
theorem q6_25 : (Jvm.Cond.interfaceMethod "java/lang/Appendable" "java/lang/Appendable" "append" "(Ljava/lang/CharSequence;)Ljava/lang/Appendable;") ∈ tables_1 := lwT_6 25 (by decide +kernel)
theorem q6_26 : (Jvm.Cond.declares ({ cls := "java/lang/Appendable", name := "append", desc := "(Ljava/lang/CharSequence;)Ljava/lang/Appendable;" } : Jvm.MethodName)) ∈ tables_1 := lwT_6 26 (by decide +kernel)
theorem q6_27 : (Jvm.Cond.selects "java/lang/StringBuilder" ({ cls := "java/lang/Appendable", name := "append", desc := "(Ljava/lang/CharSequence;)Ljava/lang/Appendable;" } : Jvm.MethodName) ({ cls := "java/lang/StringBuilder", name := "append", desc := "(Ljava/lang/CharSequence;)Ljava/lang/Appendable;" } : Jvm.MethodName)) ∈ lwG := lwG_6 27 (by decide +kernel) (by decide +kernel)
theorem q6_28 : (Jvm.Cond.unhidden "java/lang/StringBuilder" "append" "(Ljava/lang/CharSequence;)Ljava/lang/Appendable;") ∈ tables_1 := lwT_6 28 (by decide +kernel)
theorem q6_29 : (Jvm.Cond.instanceMethod ({ cls := "java/lang/StringBuilder", name := "append", desc := "(Ljava/lang/CharSequence;)Ljava/lang/Appendable;" } : Jvm.MethodName)) ∈ lwG := lwG_6 29 (by decide +kernel) (by decide +kernel)
theorem q6_30 : (Jvm.Cond.publicMethod ({ cls := "java/lang/StringBuilder", name := "append", desc := "(Ljava/lang/CharSequence;)Ljava/lang/Appendable;" } : Jvm.MethodName)) ∈ tables_1 := lwT_6 30 (by decide +kernel)
theorem q6_31 : (Jvm.Cond.code ({ cls := "java/lang/StringBuilder", name := "append", desc := "(Ljava/lang/CharSequence;)Ljava/lang/Appendable;" } : Jvm.MethodName) prog_34_method_96_code (2 : Nat) (Option.some (Jvm.ClassFile.FieldType.object "java/lang/Appendable"))) ∈ lwG := lwG_6 31 (by decide +kernel) (by decide +kernel)
theorem q6_32 : (Jvm.Cond.methodLink "java/lang/StringBuilder" (299 : Nat) ({ cls := "java/lang/StringBuilder", name := "append", desc := "(Ljava/lang/CharSequence;)Ljava/lang/StringBuilder;" } : Jvm.MethodName)) ∈ lwG := lwG_6 32 (by decide +kernel) (by decide +kernel)
theorem q6_33 : (Jvm.Cond.instanceMethod ({ cls := "java/lang/StringBuilder", name := "append", desc := "(Ljava/lang/CharSequence;)Ljava/lang/StringBuilder;" } : Jvm.MethodName)) ∈ lwG := lwG_6 33 (by decide +kernel) (by decide +kernel)
theorem q6_34 : (Jvm.Cond.selects "java/lang/StringBuilder" ({ cls := "java/lang/StringBuilder", name := "append", desc := "(Ljava/lang/CharSequence;)Ljava/lang/StringBuilder;" } : Jvm.MethodName) ({ cls := "java/lang/StringBuilder", name := "append", desc := "(Ljava/lang/CharSequence;)Ljava/lang/StringBuilder;" } : Jvm.MethodName)) ∈ lwG := lwG_6 34 (by decide +kernel) (by decide +kernel)
theorem q6_35 : (Jvm.Cond.code ({ cls := "java/lang/StringBuilder", name := "append", desc := "(Ljava/lang/CharSequence;)Ljava/lang/StringBuilder;" } : Jvm.MethodName) prog_34_method_9_code (2 : Nat) (Option.some (Jvm.ClassFile.FieldType.object "java/lang/StringBuilder"))) ∈ lwG := lwG_6 35 (by decide +kernel) (by decide +kernel)
theorem q6_36 : (Jvm.Cond.methodLink "java/lang/StringBuilder" (35 : Nat) ({ cls := "java/lang/AbstractStringBuilder", name := "append", desc := "(Ljava/lang/CharSequence;)Ljava/lang/AbstractStringBuilder;" } : Jvm.MethodName)) ∈ lwG := lwG_6 36 (by decide +kernel) (by decide +kernel)
theorem q6_37 : (Jvm.Cond.instanceMethod ({ cls := "java/lang/AbstractStringBuilder", name := "append", desc := "(Ljava/lang/CharSequence;)Ljava/lang/AbstractStringBuilder;" } : Jvm.MethodName)) ∈ lwG := lwG_6 37 (by decide +kernel) (by decide +kernel)
theorem q6_38 : (Jvm.Cond.code ({ cls := "java/lang/AbstractStringBuilder", name := "append", desc := "(Ljava/lang/CharSequence;)Ljava/lang/AbstractStringBuilder;" } : Jvm.MethodName) prog_13_method_25_code (2 : Nat) (Option.some (Jvm.ClassFile.FieldType.object "java/lang/AbstractStringBuilder"))) ∈ lwG := lwG_6 38 (by decide +kernel) (by decide +kernel)
theorem q6_39 : (Jvm.Cond.methodLink "java/lang/AbstractStringBuilder" (204 : Nat) ({ cls := "java/lang/AbstractStringBuilder", name := "appendNull", desc := "()Ljava/lang/AbstractStringBuilder;" } : Jvm.MethodName)) ∈ lwG := lwG_6 39 (by decide +kernel) (by decide +kernel)
theorem q6_40 : (Jvm.Cond.privateMethod ({ cls := "java/lang/AbstractStringBuilder", name := "appendNull", desc := "()Ljava/lang/AbstractStringBuilder;" } : Jvm.MethodName)) ∈ tables_1 := lwT_6 40 (by decide +kernel)
theorem q6_41 : (Jvm.Cond.instanceMethod ({ cls := "java/lang/AbstractStringBuilder", name := "appendNull", desc := "()Ljava/lang/AbstractStringBuilder;" } : Jvm.MethodName)) ∈ lwG := lwG_6 41 (by decide +kernel) (by decide +kernel)
theorem q6_42 : (Jvm.Cond.code ({ cls := "java/lang/AbstractStringBuilder", name := "appendNull", desc := "()Ljava/lang/AbstractStringBuilder;" } : Jvm.MethodName) prog_13_method_26_code (3 : Nat) (Option.some (Jvm.ClassFile.FieldType.object "java/lang/AbstractStringBuilder"))) ∈ lwG := lwG_6 42 (by decide +kernel) (by decide +kernel)
theorem q6_43 : (Jvm.Cond.methodLink "java/lang/AbstractStringBuilder" (226 : Nat) ({ cls := "java/lang/StringUTF16", name := "putCharsAt", desc := "([BICCCC)I" } : Jvm.MethodName)) ∈ lwG := lwG_6 43 (by decide +kernel) (by decide +kernel)
theorem q6_44 : (Jvm.Cond.static ({ cls := "java/lang/StringUTF16", name := "putCharsAt", desc := "([BICCCC)I" } : Jvm.MethodName)) ∈ lwG := lwG_6 44 (by decide +kernel) (by decide +kernel)
theorem q6_45 : (Jvm.Cond.code ({ cls := "java/lang/StringUTF16", name := "putCharsAt", desc := "([BICCCC)I" } : Jvm.MethodName) prog_36_method_81_code (7 : Nat) (Option.some Jvm.ClassFile.FieldType.int)) ∈ lwG := lwG_6 45 (by decide +kernel) (by decide +kernel)
theorem q6_46 : (Jvm.Cond.classLink "java/lang/AbstractStringBuilder" (1 : Nat) "java/lang/String") ∈ lwG := lwG_6 46 (by decide +kernel) (by decide +kernel)
theorem q6_47 : (Jvm.Cond.methodLink "java/lang/AbstractStringBuilder" (43 : Nat) ({ cls := "java/lang/AbstractStringBuilder", name := "append", desc := "(Ljava/lang/String;)Ljava/lang/AbstractStringBuilder;" } : Jvm.MethodName)) ∈ lwG := lwG_6 47 (by decide +kernel) (by decide +kernel)
theorem q6_48 : (Jvm.Cond.instanceMethod ({ cls := "java/lang/AbstractStringBuilder", name := "append", desc := "(Ljava/lang/String;)Ljava/lang/AbstractStringBuilder;" } : Jvm.MethodName)) ∈ lwG := lwG_6 48 (by decide +kernel) (by decide +kernel)
theorem q6_49 : (Jvm.Cond.sameMethod "java/lang/AbstractStringBuilder" "java/lang/AbstractStringBuilder" "append" "(Ljava/lang/String;)Ljava/lang/AbstractStringBuilder;") ∈ lwG := lwG_6 49 (by decide +kernel) (by decide +kernel)
theorem q6_50 : (Jvm.Cond.selects "java/lang/StringBuilder" ({ cls := "java/lang/AbstractStringBuilder", name := "append", desc := "(Ljava/lang/String;)Ljava/lang/AbstractStringBuilder;" } : Jvm.MethodName) ({ cls := "java/lang/StringBuilder", name := "append", desc := "(Ljava/lang/String;)Ljava/lang/AbstractStringBuilder;" } : Jvm.MethodName)) ∈ lwG := lwG_6 50 (by decide +kernel) (by decide +kernel)
theorem q6_51 : (Jvm.Cond.instanceMethod ({ cls := "java/lang/StringBuilder", name := "append", desc := "(Ljava/lang/String;)Ljava/lang/AbstractStringBuilder;" } : Jvm.MethodName)) ∈ lwG := lwG_6 51 (by decide +kernel) (by decide +kernel)
theorem q6_52 : (Jvm.Cond.code ({ cls := "java/lang/StringBuilder", name := "append", desc := "(Ljava/lang/String;)Ljava/lang/AbstractStringBuilder;" } : Jvm.MethodName) prog_34_method_80_code (2 : Nat) (Option.some (Jvm.ClassFile.FieldType.object "java/lang/AbstractStringBuilder"))) ∈ lwG := lwG_6 52 (by decide +kernel) (by decide +kernel)
theorem q6_53 : (Jvm.Cond.methodLink "java/lang/StringBuilder" (23 : Nat) ({ cls := "java/lang/StringBuilder", name := "append", desc := "(Ljava/lang/String;)Ljava/lang/StringBuilder;" } : Jvm.MethodName)) ∈ lwG := lwG_6 53 (by decide +kernel) (by decide +kernel)
theorem q6_54 : (Jvm.Cond.instanceMethod ({ cls := "java/lang/StringBuilder", name := "append", desc := "(Ljava/lang/String;)Ljava/lang/StringBuilder;" } : Jvm.MethodName)) ∈ lwG := lwG_6 54 (by decide +kernel) (by decide +kernel)
theorem q6_55 : (Jvm.Cond.selects "java/lang/StringBuilder" ({ cls := "java/lang/StringBuilder", name := "append", desc := "(Ljava/lang/String;)Ljava/lang/StringBuilder;" } : Jvm.MethodName) ({ cls := "java/lang/StringBuilder", name := "append", desc := "(Ljava/lang/String;)Ljava/lang/StringBuilder;" } : Jvm.MethodName)) ∈ lwG := lwG_6 55 (by decide +kernel) (by decide +kernel)
theorem q6_56 : (Jvm.Cond.code ({ cls := "java/lang/StringBuilder", name := "append", desc := "(Ljava/lang/String;)Ljava/lang/StringBuilder;" } : Jvm.MethodName) prog_34_method_7_code (2 : Nat) (Option.some (Jvm.ClassFile.FieldType.object "java/lang/StringBuilder"))) ∈ lwG := lwG_6 56 (by decide +kernel) (by decide +kernel)
theorem q6_57 : (Jvm.Cond.methodLink "java/lang/StringBuilder" (29 : Nat) ({ cls := "java/lang/AbstractStringBuilder", name := "append", desc := "(Ljava/lang/String;)Ljava/lang/AbstractStringBuilder;" } : Jvm.MethodName)) ∈ lwG := lwG_6 57 (by decide +kernel) (by decide +kernel)
theorem q6_58 : (Jvm.Cond.code ({ cls := "java/lang/AbstractStringBuilder", name := "append", desc := "(Ljava/lang/String;)Ljava/lang/AbstractStringBuilder;" } : Jvm.MethodName) prog_13_method_22_code (3 : Nat) (Option.some (Jvm.ClassFile.FieldType.object "java/lang/AbstractStringBuilder"))) ∈ lwG := lwG_6 58 (by decide +kernel) (by decide +kernel)
theorem q6_59 : (Jvm.Cond.methodLink "java/lang/AbstractStringBuilder" (32 : Nat) ({ cls := "java/lang/String", name := "length", desc := "()I" } : Jvm.MethodName)) ∈ lwG := lwG_6 59 (by decide +kernel) (by decide +kernel)
theorem q6_60 : (Jvm.Cond.instanceMethod ({ cls := "java/lang/String", name := "length", desc := "()I" } : Jvm.MethodName)) ∈ lwG := lwG_6 60 (by decide +kernel) (by decide +kernel)
theorem q6_61 : (Jvm.Cond.selects "java/lang/String" ({ cls := "java/lang/String", name := "length", desc := "()I" } : Jvm.MethodName) ({ cls := "java/lang/String", name := "length", desc := "()I" } : Jvm.MethodName)) ∈ lwG := lwG_6 61 (by decide +kernel) (by decide +kernel)
theorem q6_62 : (Jvm.Cond.code ({ cls := "java/lang/String", name := "length", desc := "()I" } : Jvm.MethodName) prog_32_method_54_code (1 : Nat) (Option.some Jvm.ClassFile.FieldType.int)) ∈ lwG := lwG_6 62 (by decide +kernel) (by decide +kernel)
theorem q6_63 : (Jvm.Cond.methodLink "java/lang/String" (335 : Nat) ({ cls := "java/lang/String", name := "coder", desc := "()B" } : Jvm.MethodName)) ∈ lwG := lwG_6 63 (by decide +kernel) (by decide +kernel)
theorem q6_64 : (Jvm.Cond.instanceMethod ({ cls := "java/lang/String", name := "coder", desc := "()B" } : Jvm.MethodName)) ∈ lwG := lwG_6 64 (by decide +kernel) (by decide +kernel)
theorem q6_65 : (Jvm.Cond.selects "java/lang/String" ({ cls := "java/lang/String", name := "coder", desc := "()B" } : Jvm.MethodName) ({ cls := "java/lang/String", name := "coder", desc := "()B" } : Jvm.MethodName)) ∈ lwG := lwG_6 65 (by decide +kernel) (by decide +kernel)
theorem q6_66 : (Jvm.Cond.code ({ cls := "java/lang/String", name := "coder", desc := "()B" } : Jvm.MethodName) prog_32_method_152_code (1 : Nat) (Option.some Jvm.ClassFile.FieldType.byte)) ∈ lwG := lwG_6 66 (by decide +kernel) (by decide +kernel)
theorem q6_67 : (Jvm.Cond.fieldLink "java/lang/String" (38 : Nat) "java/lang/String" "COMPACT_STRINGS" "Z") ∈ lwG := lwG_6 67 (by decide +kernel) (by decide +kernel)
theorem q6_68 : (Jvm.Cond.methodLink "java/lang/AbstractStringBuilder" (208 : Nat) ({ cls := "java/lang/AbstractStringBuilder", name := "putStringAt", desc := "(ILjava/lang/String;)V" } : Jvm.MethodName)) ∈ lwG := lwG_6 68 (by decide +kernel) (by decide +kernel)
theorem q6_69 : (Jvm.Cond.privateMethod ({ cls := "java/lang/AbstractStringBuilder", name := "putStringAt", desc := "(ILjava/lang/String;)V" } : Jvm.MethodName)) ∈ tables_1 := lwT_6 69 (by decide +kernel)
theorem q6_70 : (Jvm.Cond.instanceMethod ({ cls := "java/lang/AbstractStringBuilder", name := "putStringAt", desc := "(ILjava/lang/String;)V" } : Jvm.MethodName)) ∈ lwG := lwG_6 70 (by decide +kernel) (by decide +kernel)
theorem q6_71 : (Jvm.Cond.code ({ cls := "java/lang/AbstractStringBuilder", name := "putStringAt", desc := "(ILjava/lang/String;)V" } : Jvm.MethodName) prog_13_method_73_code (3 : Nat) (Option.none : Option Jvm.ClassFile.FieldType)) ∈ lwG := lwG_6 71 (by decide +kernel) (by decide +kernel)
theorem q6_72 : (Jvm.Cond.methodLink "java/lang/AbstractStringBuilder" (397 : Nat) ({ cls := "java/lang/AbstractStringBuilder", name := "inflateIfNeededFor", desc := "(Ljava/lang/String;)V" } : Jvm.MethodName)) ∈ lwG := lwG_6 72 (by decide +kernel) (by decide +kernel)
theorem q6_73 : (Jvm.Cond.privateMethod ({ cls := "java/lang/AbstractStringBuilder", name := "inflateIfNeededFor", desc := "(Ljava/lang/String;)V" } : Jvm.MethodName)) ∈ tables_1 := lwT_6 73 (by decide +kernel)
theorem q6_74 : (Jvm.Cond.instanceMethod ({ cls := "java/lang/AbstractStringBuilder", name := "inflateIfNeededFor", desc := "(Ljava/lang/String;)V" } : Jvm.MethodName)) ∈ lwG := lwG_6 74 (by decide +kernel) (by decide +kernel)
theorem q6_75 : (Jvm.Cond.code ({ cls := "java/lang/AbstractStringBuilder", name := "inflateIfNeededFor", desc := "(Ljava/lang/String;)V" } : Jvm.MethodName) prog_13_method_71_code (2 : Nat) (Option.none : Option Jvm.ClassFile.FieldType)) ∈ lwG := lwG_6 75 (by decide +kernel) (by decide +kernel)
theorem q6_76 : (Jvm.Cond.methodLink "java/lang/AbstractStringBuilder" (40 : Nat) ({ cls := "java/lang/String", name := "coder", desc := "()B" } : Jvm.MethodName)) ∈ lwG := lwG_6 76 (by decide +kernel) (by decide +kernel)
theorem q6_77 : (Jvm.Cond.methodLink "java/lang/AbstractStringBuilder" (399 : Nat) ({ cls := "java/lang/String", name := "getBytes", desc := "([BIB)V" } : Jvm.MethodName)) ∈ lwG := lwG_6 77 (by decide +kernel) (by decide +kernel)
theorem q6_78 : (Jvm.Cond.instanceMethod ({ cls := "java/lang/String", name := "getBytes", desc := "([BIB)V" } : Jvm.MethodName)) ∈ lwG := lwG_6 78 (by decide +kernel) (by decide +kernel)
theorem q6_79 : (Jvm.Cond.selects "java/lang/String" ({ cls := "java/lang/String", name := "getBytes", desc := "([BIB)V" } : Jvm.MethodName) ({ cls := "java/lang/String", name := "getBytes", desc := "([BIB)V" } : Jvm.MethodName)) ∈ lwG := lwG_6 79 (by decide +kernel) (by decide +kernel)
theorem q6_80 : (Jvm.Cond.code ({ cls := "java/lang/String", name := "getBytes", desc := "([BIB)V" } : Jvm.MethodName) prog_32_method_147_code (4 : Nat) (Option.none : Option Jvm.ClassFile.FieldType)) ∈ lwG := lwG_6 80 (by decide +kernel) (by decide +kernel)
theorem q6_81 : (Jvm.Cond.methodLink "java/lang/String" (212 : Nat) ({ cls := "java/lang/System", name := "arraycopy", desc := "(Ljava/lang/Object;ILjava/lang/Object;II)V" } : Jvm.MethodName)) ∈ lwG := lwG_6 81 (by decide +kernel) (by decide +kernel)
theorem q6_82 : (Jvm.Cond.methodLink "java/lang/String" (106 : Nat) ({ cls := "java/lang/StringLatin1", name := "inflate", desc := "([BI[BII)V" } : Jvm.MethodName)) ∈ lwG := lwG_6 82 (by decide +kernel) (by decide +kernel)
theorem q6_83 : (Jvm.Cond.classLink "java/lang/AbstractStringBuilder" (10 : Nat) "java/lang/AbstractStringBuilder") ∈ lwG := lwG_6 83 (by decide +kernel) (by decide +kernel)
theorem q6_84 : (Jvm.Cond.methodLink "java/lang/AbstractStringBuilder" (212 : Nat) ({ cls := "java/lang/AbstractStringBuilder", name := "append", desc := "(Ljava/lang/AbstractStringBuilder;)Ljava/lang/AbstractStringBuilder;" } : Jvm.MethodName)) ∈ lwG := lwG_6 84 (by decide +kernel) (by decide +kernel)
theorem q6_85 : (Jvm.Cond.instanceMethod ({ cls := "java/lang/AbstractStringBuilder", name := "append", desc := "(Ljava/lang/AbstractStringBuilder;)Ljava/lang/AbstractStringBuilder;" } : Jvm.MethodName)) ∈ lwG := lwG_6 85 (by decide +kernel) (by decide +kernel)
theorem q6_86 : (Jvm.Cond.sameMethod "java/lang/AbstractStringBuilder" "java/lang/AbstractStringBuilder" "append" "(Ljava/lang/AbstractStringBuilder;)Ljava/lang/AbstractStringBuilder;") ∈ lwG := lwG_6 86 (by decide +kernel) (by decide +kernel)
theorem q6_87 : (Jvm.Cond.selects "java/lang/StringBuilder" ({ cls := "java/lang/AbstractStringBuilder", name := "append", desc := "(Ljava/lang/AbstractStringBuilder;)Ljava/lang/AbstractStringBuilder;" } : Jvm.MethodName) ({ cls := "java/lang/AbstractStringBuilder", name := "append", desc := "(Ljava/lang/AbstractStringBuilder;)Ljava/lang/AbstractStringBuilder;" } : Jvm.MethodName)) ∈ lwG := lwG_6 87 (by decide +kernel) (by decide +kernel)
theorem q6_88 : (Jvm.Cond.code ({ cls := "java/lang/AbstractStringBuilder", name := "append", desc := "(Ljava/lang/AbstractStringBuilder;)Ljava/lang/AbstractStringBuilder;" } : Jvm.MethodName) prog_13_method_24_code (3 : Nat) (Option.some (Jvm.ClassFile.FieldType.object "java/lang/AbstractStringBuilder"))) ∈ lwG := lwG_6 88 (by decide +kernel) (by decide +kernel)
theorem q6_89 : (Jvm.Cond.methodLink "java/lang/AbstractStringBuilder" (160 : Nat) ({ cls := "java/lang/AbstractStringBuilder", name := "length", desc := "()I" } : Jvm.MethodName)) ∈ lwG := lwG_6 89 (by decide +kernel) (by decide +kernel)
theorem q6_90 : (Jvm.Cond.instanceMethod ({ cls := "java/lang/AbstractStringBuilder", name := "length", desc := "()I" } : Jvm.MethodName)) ∈ lwG := lwG_6 90 (by decide +kernel) (by decide +kernel)
theorem q6_91 : (Jvm.Cond.sameMethod "java/lang/AbstractStringBuilder" "java/lang/AbstractStringBuilder" "length" "()I") ∈ lwG := lwG_6 91 (by decide +kernel) (by decide +kernel)
theorem q6_92 : (Jvm.Cond.selects "java/lang/StringBuilder" ({ cls := "java/lang/AbstractStringBuilder", name := "length", desc := "()I" } : Jvm.MethodName) ({ cls := "java/lang/StringBuilder", name := "length", desc := "()I" } : Jvm.MethodName)) ∈ lwG := lwG_6 92 (by decide +kernel) (by decide +kernel)
theorem q6_93 : (Jvm.Cond.instanceMethod ({ cls := "java/lang/StringBuilder", name := "length", desc := "()I" } : Jvm.MethodName)) ∈ lwG := lwG_6 93 (by decide +kernel) (by decide +kernel)
theorem q6_94 : (Jvm.Cond.code ({ cls := "java/lang/StringBuilder", name := "length", desc := "()I" } : Jvm.MethodName) prog_34_method_93_code (1 : Nat) (Option.some Jvm.ClassFile.FieldType.int)) ∈ lwG := lwG_6 94 (by decide +kernel) (by decide +kernel)
theorem q6_95 : (Jvm.Cond.methodLink "java/lang/StringBuilder" (343 : Nat) ({ cls := "java/lang/AbstractStringBuilder", name := "length", desc := "()I" } : Jvm.MethodName)) ∈ lwG := lwG_6 95 (by decide +kernel) (by decide +kernel)
theorem q6_96 : (Jvm.Cond.code ({ cls := "java/lang/AbstractStringBuilder", name := "length", desc := "()I" } : Jvm.MethodName) prog_13_method_6_code (1 : Nat) (Option.some Jvm.ClassFile.FieldType.int)) ∈ lwG := lwG_6 96 (by decide +kernel) (by decide +kernel)
theorem q6_97 : (Jvm.Cond.methodLink "java/lang/AbstractStringBuilder" (215 : Nat) ({ cls := "java/lang/AbstractStringBuilder", name := "inflateIfNeededFor", desc := "(Ljava/lang/AbstractStringBuilder;)V" } : Jvm.MethodName)) ∈ lwG := lwG_6 97 (by decide +kernel) (by decide +kernel)
theorem q6_98 : (Jvm.Cond.privateMethod ({ cls := "java/lang/AbstractStringBuilder", name := "inflateIfNeededFor", desc := "(Ljava/lang/AbstractStringBuilder;)V" } : Jvm.MethodName)) ∈ tables_1 := lwT_6 98 (by decide +kernel)
theorem q6_99 : (Jvm.Cond.instanceMethod ({ cls := "java/lang/AbstractStringBuilder", name := "inflateIfNeededFor", desc := "(Ljava/lang/AbstractStringBuilder;)V" } : Jvm.MethodName)) ∈ lwG := lwG_6 99 (by decide +kernel) (by decide +kernel)
theorem q6_100 : (Jvm.Cond.code ({ cls := "java/lang/AbstractStringBuilder", name := "inflateIfNeededFor", desc := "(Ljava/lang/AbstractStringBuilder;)V" } : Jvm.MethodName) prog_13_method_72_code (2 : Nat) (Option.none : Option Jvm.ClassFile.FieldType)) ∈ lwG := lwG_6 100 (by decide +kernel) (by decide +kernel)
theorem q6_101 : (Jvm.Cond.methodLink "java/lang/AbstractStringBuilder" (70 : Nat) ({ cls := "java/lang/AbstractStringBuilder", name := "getCoder", desc := "()B" } : Jvm.MethodName)) ∈ lwG := lwG_6 101 (by decide +kernel) (by decide +kernel)
theorem q6_102 : (Jvm.Cond.instanceMethod ({ cls := "java/lang/AbstractStringBuilder", name := "getCoder", desc := "()B" } : Jvm.MethodName)) ∈ lwG := lwG_6 102 (by decide +kernel) (by decide +kernel)
theorem q6_103 : (Jvm.Cond.sameMethod "java/lang/AbstractStringBuilder" "java/lang/AbstractStringBuilder" "getCoder" "()B") ∈ lwG := lwG_6 103 (by decide +kernel) (by decide +kernel)
theorem q6_104 : (Jvm.Cond.selects "java/lang/StringBuilder" ({ cls := "java/lang/AbstractStringBuilder", name := "getCoder", desc := "()B" } : Jvm.MethodName) ({ cls := "java/lang/AbstractStringBuilder", name := "getCoder", desc := "()B" } : Jvm.MethodName)) ∈ lwG := lwG_6 104 (by decide +kernel) (by decide +kernel)
theorem q6_105 : (Jvm.Cond.code ({ cls := "java/lang/AbstractStringBuilder", name := "getCoder", desc := "()B" } : Jvm.MethodName) prog_13_method_67_code (1 : Nat) (Option.some Jvm.ClassFile.FieldType.byte)) ∈ lwG := lwG_6 105 (by decide +kernel) (by decide +kernel)
theorem q6_106 : (Jvm.Cond.methodLink "java/lang/AbstractStringBuilder" (219 : Nat) ({ cls := "java/lang/AbstractStringBuilder", name := "getBytes", desc := "([BIB)V" } : Jvm.MethodName)) ∈ lwG := lwG_6 106 (by decide +kernel) (by decide +kernel)
theorem q6_107 : (Jvm.Cond.instanceMethod ({ cls := "java/lang/AbstractStringBuilder", name := "getBytes", desc := "([BIB)V" } : Jvm.MethodName)) ∈ lwG := lwG_6 107 (by decide +kernel) (by decide +kernel)
theorem q6_108 : (Jvm.Cond.sameMethod "java/lang/AbstractStringBuilder" "java/lang/AbstractStringBuilder" "getBytes" "([BIB)V") ∈ lwG := lwG_6 108 (by decide +kernel) (by decide +kernel)
theorem q6_109 : (Jvm.Cond.selects "java/lang/StringBuilder" ({ cls := "java/lang/AbstractStringBuilder", name := "getBytes", desc := "([BIB)V" } : Jvm.MethodName) ({ cls := "java/lang/AbstractStringBuilder", name := "getBytes", desc := "([BIB)V" } : Jvm.MethodName)) ∈ lwG := lwG_6 109 (by decide +kernel) (by decide +kernel)
theorem q6_110 : (Jvm.Cond.code ({ cls := "java/lang/AbstractStringBuilder", name := "getBytes", desc := "([BIB)V" } : Jvm.MethodName) prog_13_method_65_code (4 : Nat) (Option.none : Option Jvm.ClassFile.FieldType)) ∈ lwG := lwG_6 110 (by decide +kernel) (by decide +kernel)
theorem q6_111 : (Jvm.Cond.methodLink "java/lang/AbstractStringBuilder" (309 : Nat) ({ cls := "java/lang/System", name := "arraycopy", desc := "(Ljava/lang/Object;ILjava/lang/Object;II)V" } : Jvm.MethodName)) ∈ lwG := lwG_6 111 (by decide +kernel) (by decide +kernel)
theorem q6_112 : (Jvm.Cond.interfaceEntry "java/lang/AbstractStringBuilder" (47 : Nat)) ∈ tables_1 := lwT_6 112 (by decide +kernel)
theorem q6_113 : (Jvm.Cond.methodLink "java/lang/AbstractStringBuilder" (47 : Nat) ({ cls := "java/lang/CharSequence", name := "length", desc := "()I" } : Jvm.MethodName)) ∈ lwG := lwG_6 113 (by decide +kernel) (by decide +kernel)
theorem q6_114 : (Jvm.Cond.interfaceMethod "java/lang/CharSequence" "java/lang/CharSequence" "length" "()I") ∈ tables_1 := lwT_6 114 (by decide +kernel)
theorem q6_115 : (Jvm.Cond.declares ({ cls := "java/lang/CharSequence", name := "length", desc := "()I" } : Jvm.MethodName)) ∈ tables_1 := lwT_6 115 (by decide +kernel)
theorem q6_116 : (Jvm.Cond.castable "java/lang/String" "java/lang/CharSequence") ∈ tables_1 := lwT_6 116 (by decide +kernel)
theorem q6_117 : (Jvm.Cond.selects "java/lang/String" ({ cls := "java/lang/CharSequence", name := "length", desc := "()I" } : Jvm.MethodName) ({ cls := "java/lang/String", name := "length", desc := "()I" } : Jvm.MethodName)) ∈ lwG := lwG_6 117 (by decide +kernel) (by decide +kernel)
theorem q6_118 : (Jvm.Cond.unhidden "java/lang/String" "length" "()I") ∈ tables_1 := lwT_6 118 (by decide +kernel)
theorem q6_119 : (Jvm.Cond.publicMethod ({ cls := "java/lang/String", name := "length", desc := "()I" } : Jvm.MethodName)) ∈ tables_1 := lwT_6 119 (by decide +kernel)
theorem q6_120 : (Jvm.Cond.castable "java/lang/StringBuilder" "java/lang/CharSequence") ∈ tables_1 := lwT_6 120 (by decide +kernel)
theorem q6_121 : (Jvm.Cond.selects "java/lang/StringBuilder" ({ cls := "java/lang/CharSequence", name := "length", desc := "()I" } : Jvm.MethodName) ({ cls := "java/lang/StringBuilder", name := "length", desc := "()I" } : Jvm.MethodName)) ∈ lwG := lwG_6 121 (by decide +kernel) (by decide +kernel)
theorem q6_122 : (Jvm.Cond.unhidden "java/lang/StringBuilder" "length" "()I") ∈ tables_1 := lwT_6 122 (by decide +kernel)
theorem q6_123 : (Jvm.Cond.publicMethod ({ cls := "java/lang/StringBuilder", name := "length", desc := "()I" } : Jvm.MethodName)) ∈ tables_1 := lwT_6 123 (by decide +kernel)
theorem q6_124 : (Jvm.Cond.methodLink "java/lang/AbstractStringBuilder" (223 : Nat) ({ cls := "java/lang/AbstractStringBuilder", name := "append", desc := "(Ljava/lang/CharSequence;II)Ljava/lang/AbstractStringBuilder;" } : Jvm.MethodName)) ∈ lwG := lwG_6 124 (by decide +kernel) (by decide +kernel)
theorem q6_125 : (Jvm.Cond.instanceMethod ({ cls := "java/lang/AbstractStringBuilder", name := "append", desc := "(Ljava/lang/CharSequence;II)Ljava/lang/AbstractStringBuilder;" } : Jvm.MethodName)) ∈ lwG := lwG_6 125 (by decide +kernel) (by decide +kernel)
theorem q6_126 : (Jvm.Cond.sameMethod "java/lang/AbstractStringBuilder" "java/lang/AbstractStringBuilder" "append" "(Ljava/lang/CharSequence;II)Ljava/lang/AbstractStringBuilder;") ∈ lwG := lwG_6 126 (by decide +kernel) (by decide +kernel)
theorem q6_127 : (Jvm.Cond.selects "java/lang/StringBuilder" ({ cls := "java/lang/AbstractStringBuilder", name := "append", desc := "(Ljava/lang/CharSequence;II)Ljava/lang/AbstractStringBuilder;" } : Jvm.MethodName) ({ cls := "java/lang/StringBuilder", name := "append", desc := "(Ljava/lang/CharSequence;II)Ljava/lang/AbstractStringBuilder;" } : Jvm.MethodName)) ∈ lwG := lwG_6 127 (by decide +kernel) (by decide +kernel)
theorem q6_128 : (Jvm.Cond.instanceMethod ({ cls := "java/lang/StringBuilder", name := "append", desc := "(Ljava/lang/CharSequence;II)Ljava/lang/AbstractStringBuilder;" } : Jvm.MethodName)) ∈ lwG := lwG_6 128 (by decide +kernel) (by decide +kernel)
theorem q6_129 : (Jvm.Cond.code ({ cls := "java/lang/StringBuilder", name := "append", desc := "(Ljava/lang/CharSequence;II)Ljava/lang/AbstractStringBuilder;" } : Jvm.MethodName) prog_34_method_77_code (4 : Nat) (Option.some (Jvm.ClassFile.FieldType.object "java/lang/AbstractStringBuilder"))) ∈ lwG := lwG_6 129 (by decide +kernel) (by decide +kernel)
theorem q6_130 : (Jvm.Cond.methodLink "java/lang/StringBuilder" (296 : Nat) ({ cls := "java/lang/StringBuilder", name := "append", desc := "(Ljava/lang/CharSequence;II)Ljava/lang/StringBuilder;" } : Jvm.MethodName)) ∈ lwG := lwG_6 130 (by decide +kernel) (by decide +kernel)
theorem q6_131 : (Jvm.Cond.instanceMethod ({ cls := "java/lang/StringBuilder", name := "append", desc := "(Ljava/lang/CharSequence;II)Ljava/lang/StringBuilder;" } : Jvm.MethodName)) ∈ lwG := lwG_6 131 (by decide +kernel) (by decide +kernel)
theorem q6_132 : (Jvm.Cond.selects "java/lang/StringBuilder" ({ cls := "java/lang/StringBuilder", name := "append", desc := "(Ljava/lang/CharSequence;II)Ljava/lang/StringBuilder;" } : Jvm.MethodName) ({ cls := "java/lang/StringBuilder", name := "append", desc := "(Ljava/lang/CharSequence;II)Ljava/lang/StringBuilder;" } : Jvm.MethodName)) ∈ lwG := lwG_6 132 (by decide +kernel) (by decide +kernel)
theorem q6_133 : (Jvm.Cond.code ({ cls := "java/lang/StringBuilder", name := "append", desc := "(Ljava/lang/CharSequence;II)Ljava/lang/StringBuilder;" } : Jvm.MethodName) prog_34_method_10_code (4 : Nat) (Option.some (Jvm.ClassFile.FieldType.object "java/lang/StringBuilder"))) ∈ lwG := lwG_6 133 (by decide +kernel) (by decide +kernel)
theorem q6_134 : (Jvm.Cond.methodLink "java/lang/StringBuilder" (38 : Nat) ({ cls := "java/lang/AbstractStringBuilder", name := "append", desc := "(Ljava/lang/CharSequence;II)Ljava/lang/AbstractStringBuilder;" } : Jvm.MethodName)) ∈ lwG := lwG_6 134 (by decide +kernel) (by decide +kernel)
theorem q6_135 : (Jvm.Cond.code ({ cls := "java/lang/AbstractStringBuilder", name := "append", desc := "(Ljava/lang/CharSequence;II)Ljava/lang/AbstractStringBuilder;" } : Jvm.MethodName) prog_13_method_27_code (5 : Nat) (Option.some (Jvm.ClassFile.FieldType.object "java/lang/AbstractStringBuilder"))) ∈ lwG := lwG_6 135 (by decide +kernel) (by decide +kernel)
theorem q6_136 : (Jvm.Cond.stringRef "java/lang/AbstractStringBuilder" (230 : Nat) "null") ∈ tables_1 := lwT_6 136 (by decide +kernel)
theorem q6_137 : (Jvm.Cond.fieldLink "java/lang/AbstractStringBuilder" (183 : Nat) "jdk/internal/util/Preconditions" "IOOBE_FORMATTER" "Ljava/util/function/BiFunction;") ∈ lwG := lwG_6 137 (by decide +kernel) (by decide +kernel)
theorem q6_138 : (Jvm.Cond.laysStatic "jdk/internal/util/Preconditions" "IOOBE_FORMATTER" "Ljava/util/function/BiFunction;") ∈ tables_1 := lwT_6 138 (by decide +kernel)
theorem q6_139 : (Jvm.Cond.methodLink "java/lang/AbstractStringBuilder" (161 : Nat) ({ cls := "jdk/internal/util/Preconditions", name := "checkFromToIndex", desc := "(IIILjava/util/function/BiFunction;)I" } : Jvm.MethodName)) ∈ lwG := lwG_6 139 (by decide +kernel) (by decide +kernel)
theorem q6_140 : (Jvm.Cond.methodLink "java/lang/AbstractStringBuilder" (232 : Nat) ({ cls := "java/lang/AbstractStringBuilder", name := "appendChars", desc := "(Ljava/lang/String;II)V" } : Jvm.MethodName)) ∈ lwG := lwG_6 140 (by decide +kernel) (by decide +kernel)
theorem q6_141 : (Jvm.Cond.privateMethod ({ cls := "java/lang/AbstractStringBuilder", name := "appendChars", desc := "(Ljava/lang/String;II)V" } : Jvm.MethodName)) ∈ tables_1 := lwT_6 141 (by decide +kernel)
theorem q6_142 : (Jvm.Cond.instanceMethod ({ cls := "java/lang/AbstractStringBuilder", name := "appendChars", desc := "(Ljava/lang/String;II)V" } : Jvm.MethodName)) ∈ lwG := lwG_6 142 (by decide +kernel) (by decide +kernel)
theorem q6_143 : (Jvm.Cond.code ({ cls := "java/lang/AbstractStringBuilder", name := "appendChars", desc := "(Ljava/lang/String;II)V" } : Jvm.MethodName) prog_13_method_75_code (8 : Nat) (Option.none : Option Jvm.ClassFile.FieldType)) ∈ lwG := lwG_6 143 (by decide +kernel) (by decide +kernel)
theorem q6_144 : (Jvm.Cond.methodLink "java/lang/AbstractStringBuilder" (400 : Nat) ({ cls := "java/lang/String", name := "isLatin1", desc := "()Z" } : Jvm.MethodName)) ∈ lwG := lwG_6 144 (by decide +kernel) (by decide +kernel)
theorem q6_145 : (Jvm.Cond.instanceMethod ({ cls := "java/lang/String", name := "isLatin1", desc := "()Z" } : Jvm.MethodName)) ∈ lwG := lwG_6 145 (by decide +kernel) (by decide +kernel)
theorem q6_146 : (Jvm.Cond.selects "java/lang/String" ({ cls := "java/lang/String", name := "isLatin1", desc := "()Z" } : Jvm.MethodName) ({ cls := "java/lang/String", name := "isLatin1", desc := "()Z" } : Jvm.MethodName)) ∈ lwG := lwG_6 146 (by decide +kernel) (by decide +kernel)
theorem q6_147 : (Jvm.Cond.code ({ cls := "java/lang/String", name := "isLatin1", desc := "()Z" } : Jvm.MethodName) prog_32_method_154_code (1 : Nat) (Option.some Jvm.ClassFile.FieldType.boolean)) ∈ lwG := lwG_6 147 (by decide +kernel) (by decide +kernel)
theorem q6_148 : (Jvm.Cond.methodLink "java/lang/AbstractStringBuilder" (401 : Nat) ({ cls := "java/lang/String", name := "value", desc := "()[B" } : Jvm.MethodName)) ∈ lwG := lwG_6 148 (by decide +kernel) (by decide +kernel)
theorem q6_149 : (Jvm.Cond.instanceMethod ({ cls := "java/lang/String", name := "value", desc := "()[B" } : Jvm.MethodName)) ∈ lwG := lwG_6 149 (by decide +kernel) (by decide +kernel)
theorem q6_150 : (Jvm.Cond.selects "java/lang/String" ({ cls := "java/lang/String", name := "value", desc := "()[B" } : Jvm.MethodName) ({ cls := "java/lang/String", name := "value", desc := "()[B" } : Jvm.MethodName)) ∈ lwG := lwG_6 150 (by decide +kernel) (by decide +kernel)
theorem q6_151 : (Jvm.Cond.code ({ cls := "java/lang/String", name := "value", desc := "()[B" } : Jvm.MethodName) prog_32_method_153_code (1 : Nat) (Option.some (Jvm.ClassFile.FieldType.array Jvm.ClassFile.FieldType.byte))) ∈ lwG := lwG_6 151 (by decide +kernel) (by decide +kernel)
theorem q6_152 : (Jvm.Cond.methodLink "java/lang/AbstractStringBuilder" (404 : Nat) ({ cls := "java/lang/String", name := "charAt", desc := "(I)C" } : Jvm.MethodName)) ∈ lwG := lwG_6 152 (by decide +kernel) (by decide +kernel)
theorem q6_153 : (Jvm.Cond.instanceMethod ({ cls := "java/lang/String", name := "charAt", desc := "(I)C" } : Jvm.MethodName)) ∈ lwG := lwG_6 153 (by decide +kernel) (by decide +kernel)
theorem q6_154 : (Jvm.Cond.selects "java/lang/String" ({ cls := "java/lang/String", name := "charAt", desc := "(I)C" } : Jvm.MethodName) ({ cls := "java/lang/String", name := "charAt", desc := "(I)C" } : Jvm.MethodName)) ∈ lwG := lwG_6 154 (by decide +kernel) (by decide +kernel)
theorem q6_155 : (Jvm.Cond.code ({ cls := "java/lang/String", name := "charAt", desc := "(I)C" } : Jvm.MethodName) prog_32_method_56_code (2 : Nat) (Option.some Jvm.ClassFile.FieldType.char)) ∈ lwG := lwG_6 155 (by decide +kernel) (by decide +kernel)
theorem q6_156 : (Jvm.Cond.methodLink "java/lang/String" (492 : Nat) ({ cls := "java/lang/String", name := "isLatin1", desc := "()Z" } : Jvm.MethodName)) ∈ lwG := lwG_6 156 (by decide +kernel) (by decide +kernel)
theorem q6_157 : (Jvm.Cond.methodLink "java/lang/String" (495 : Nat) ({ cls := "java/lang/StringLatin1", name := "charAt", desc := "([BI)C" } : Jvm.MethodName)) ∈ lwG := lwG_6 157 (by decide +kernel) (by decide +kernel)
theorem q6_158 : (Jvm.Cond.static ({ cls := "java/lang/StringLatin1", name := "charAt", desc := "([BI)C" } : Jvm.MethodName)) ∈ lwG := lwG_6 158 (by decide +kernel) (by decide +kernel)
theorem q6_159 : (Jvm.Cond.code ({ cls := "java/lang/StringLatin1", name := "charAt", desc := "([BI)C" } : Jvm.MethodName) prog_35_method_2_code (2 : Nat) (Option.some Jvm.ClassFile.FieldType.char)) ∈ lwG := lwG_6 159 (by decide +kernel) (by decide +kernel)
theorem q6_160 : (Jvm.Cond.methodLink "java/lang/StringLatin1" (9 : Nat) ({ cls := "java/lang/String", name := "checkIndex", desc := "(II)V" } : Jvm.MethodName)) ∈ lwG := lwG_6 160 (by decide +kernel) (by decide +kernel)
theorem q6_161 : (Jvm.Cond.methodLink "java/lang/String" (498 : Nat) ({ cls := "java/lang/StringUTF16", name := "charAt", desc := "([BI)C" } : Jvm.MethodName)) ∈ lwG := lwG_6 161 (by decide +kernel) (by decide +kernel)
theorem q6_162 : (Jvm.Cond.static ({ cls := "java/lang/StringUTF16", name := "charAt", desc := "([BI)C" } : Jvm.MethodName)) ∈ lwG := lwG_6 162 (by decide +kernel) (by decide +kernel)
theorem q6_163 : (Jvm.Cond.code ({ cls := "java/lang/StringUTF16", name := "charAt", desc := "([BI)C" } : Jvm.MethodName) prog_36_method_83_code (2 : Nat) (Option.some Jvm.ClassFile.FieldType.char)) ∈ lwG := lwG_6 163 (by decide +kernel) (by decide +kernel)
theorem q6_164 : (Jvm.Cond.methodLink "java/lang/StringUTF16" (71 : Nat) ({ cls := "java/lang/StringUTF16", name := "getChar", desc := "([BI)C" } : Jvm.MethodName)) ∈ lwG := lwG_6 164 (by decide +kernel) (by decide +kernel)
theorem q6_165 : (Jvm.Cond.static ({ cls := "java/lang/StringUTF16", name := "getChar", desc := "([BI)C" } : Jvm.MethodName)) ∈ lwG := lwG_6 165 (by decide +kernel) (by decide +kernel)
theorem q6_166 : (Jvm.Cond.code ({ cls := "java/lang/StringUTF16", name := "getChar", desc := "([BI)C" } : Jvm.MethodName) prog_36_method_5_code (2 : Nat) (Option.some Jvm.ClassFile.FieldType.char)) ∈ lwG := lwG_6 166 (by decide +kernel) (by decide +kernel)
theorem q6_167 : (Jvm.Cond.methodLink "java/lang/AbstractStringBuilder" (394 : Nat) ({ cls := "java/lang/StringUTF16", name := "putCharsSB", desc := "([BILjava/lang/CharSequence;II)V" } : Jvm.MethodName)) ∈ lwG := lwG_6 167 (by decide +kernel) (by decide +kernel)
theorem q6_168 : (Jvm.Cond.static ({ cls := "java/lang/StringUTF16", name := "putCharsSB", desc := "([BILjava/lang/CharSequence;II)V" } : Jvm.MethodName)) ∈ lwG := lwG_6 168 (by decide +kernel) (by decide +kernel)
theorem q6_169 : (Jvm.Cond.code ({ cls := "java/lang/StringUTF16", name := "putCharsSB", desc := "([BILjava/lang/CharSequence;II)V" } : Jvm.MethodName) prog_36_method_73_code (6 : Nat) (Option.none : Option Jvm.ClassFile.FieldType)) ∈ lwG := lwG_6 169 (by decide +kernel) (by decide +kernel)
theorem q6_170 : (Jvm.Cond.interfaceEntry "java/lang/StringUTF16" (388 : Nat)) ∈ tables_1 := lwT_6 170 (by decide +kernel)
theorem q6_171 : (Jvm.Cond.methodLink "java/lang/StringUTF16" (388 : Nat) ({ cls := "java/lang/CharSequence", name := "charAt", desc := "(I)C" } : Jvm.MethodName)) ∈ lwG := lwG_6 171 (by decide +kernel) (by decide +kernel)
theorem q6_172 : (Jvm.Cond.interfaceMethod "java/lang/CharSequence" "java/lang/CharSequence" "charAt" "(I)C") ∈ tables_1 := lwT_6 172 (by decide +kernel)
theorem q6_173 : (Jvm.Cond.declares ({ cls := "java/lang/CharSequence", name := "charAt", desc := "(I)C" } : Jvm.MethodName)) ∈ tables_1 := lwT_6 173 (by decide +kernel)
theorem q6_174 : (Jvm.Cond.selects "java/lang/String" ({ cls := "java/lang/CharSequence", name := "charAt", desc := "(I)C" } : Jvm.MethodName) ({ cls := "java/lang/String", name := "charAt", desc := "(I)C" } : Jvm.MethodName)) ∈ lwG := lwG_6 174 (by decide +kernel) (by decide +kernel)
theorem q6_175 : (Jvm.Cond.unhidden "java/lang/String" "charAt" "(I)C") ∈ tables_1 := lwT_6 175 (by decide +kernel)
theorem q6_176 : (Jvm.Cond.publicMethod ({ cls := "java/lang/String", name := "charAt", desc := "(I)C" } : Jvm.MethodName)) ∈ tables_1 := lwT_6 176 (by decide +kernel)
theorem q6_177 : (Jvm.Cond.selects "java/lang/StringBuilder" ({ cls := "java/lang/CharSequence", name := "charAt", desc := "(I)C" } : Jvm.MethodName) ({ cls := "java/lang/StringBuilder", name := "charAt", desc := "(I)C" } : Jvm.MethodName)) ∈ lwG := lwG_6 177 (by decide +kernel) (by decide +kernel)
theorem q6_178 : (Jvm.Cond.unhidden "java/lang/StringBuilder" "charAt" "(I)C") ∈ tables_1 := lwT_6 178 (by decide +kernel)
theorem q6_179 : (Jvm.Cond.instanceMethod ({ cls := "java/lang/StringBuilder", name := "charAt", desc := "(I)C" } : Jvm.MethodName)) ∈ lwG := lwG_6 179 (by decide +kernel) (by decide +kernel)
theorem q6_180 : (Jvm.Cond.publicMethod ({ cls := "java/lang/StringBuilder", name := "charAt", desc := "(I)C" } : Jvm.MethodName)) ∈ tables_1 := lwT_6 180 (by decide +kernel)
theorem q6_181 : (Jvm.Cond.code ({ cls := "java/lang/StringBuilder", name := "charAt", desc := "(I)C" } : Jvm.MethodName) prog_34_method_88_code (2 : Nat) (Option.some Jvm.ClassFile.FieldType.char)) ∈ lwG := lwG_6 181 (by decide +kernel) (by decide +kernel)
theorem q6_182 : (Jvm.Cond.methodLink "java/lang/StringBuilder" (329 : Nat) ({ cls := "java/lang/AbstractStringBuilder", name := "charAt", desc := "(I)C" } : Jvm.MethodName)) ∈ lwG := lwG_6 182 (by decide +kernel) (by decide +kernel)
theorem q6_183 : (Jvm.Cond.instanceMethod ({ cls := "java/lang/AbstractStringBuilder", name := "charAt", desc := "(I)C" } : Jvm.MethodName)) ∈ lwG := lwG_6 183 (by decide +kernel) (by decide +kernel)
theorem q6_184 : (Jvm.Cond.code ({ cls := "java/lang/AbstractStringBuilder", name := "charAt", desc := "(I)C" } : Jvm.MethodName) prog_13_method_14_code (5 : Nat) (Option.some Jvm.ClassFile.FieldType.char)) ∈ lwG := lwG_6 184 (by decide +kernel) (by decide +kernel)
theorem q6_185 : (Jvm.Cond.methodLink "java/lang/AbstractStringBuilder" (138 : Nat) ({ cls := "java/lang/Math", name := "min", desc := "(II)I" } : Jvm.MethodName)) ∈ lwG := lwG_6 185 (by decide +kernel) (by decide +kernel)
theorem q6_186 : (Jvm.Cond.methodLink "java/lang/AbstractStringBuilder" (144 : Nat) ({ cls := "java/lang/String", name := "checkIndex", desc := "(II)V" } : Jvm.MethodName)) ∈ lwG := lwG_6 186 (by decide +kernel) (by decide +kernel)
theorem q6_187 : (Jvm.Cond.methodLink "java/lang/AbstractStringBuilder" (148 : Nat) ({ cls := "java/lang/StringUTF16", name := "getChar", desc := "([BI)C" } : Jvm.MethodName)) ∈ lwG := lwG_6 187 (by decide +kernel) (by decide +kernel)
theorem q6_188 : (Jvm.Cond.methodLink "java/lang/AbstractStringBuilder" (236 : Nat) ({ cls := "java/lang/AbstractStringBuilder", name := "appendChars", desc := "(Ljava/lang/CharSequence;II)V" } : Jvm.MethodName)) ∈ lwG := lwG_6 188 (by decide +kernel) (by decide +kernel)
theorem q6_189 : (Jvm.Cond.privateMethod ({ cls := "java/lang/AbstractStringBuilder", name := "appendChars", desc := "(Ljava/lang/CharSequence;II)V" } : Jvm.MethodName)) ∈ tables_1 := lwT_6 189 (by decide +kernel)
theorem q6_190 : (Jvm.Cond.instanceMethod ({ cls := "java/lang/AbstractStringBuilder", name := "appendChars", desc := "(Ljava/lang/CharSequence;II)V" } : Jvm.MethodName)) ∈ lwG := lwG_6 190 (by decide +kernel) (by decide +kernel)
theorem q6_191 : (Jvm.Cond.code ({ cls := "java/lang/AbstractStringBuilder", name := "appendChars", desc := "(Ljava/lang/CharSequence;II)V" } : Jvm.MethodName) prog_13_method_76_code (8 : Nat) (Option.none : Option Jvm.ClassFile.FieldType)) ∈ lwG := lwG_6 191 (by decide +kernel) (by decide +kernel)
theorem q6_192 : (Jvm.Cond.interfaceEntry "java/lang/AbstractStringBuilder" (390 : Nat)) ∈ tables_1 := lwT_6 192 (by decide +kernel)
theorem q6_193 : (Jvm.Cond.methodLink "java/lang/AbstractStringBuilder" (390 : Nat) ({ cls := "java/lang/CharSequence", name := "charAt", desc := "(I)C" } : Jvm.MethodName)) ∈ lwG := lwG_6 193 (by decide +kernel) (by decide +kernel)
theorem q6_194 : (Jvm.Cond.stringRef "jdk/internal/math/FloatToDecimal" (34 : Nat) "-0.0") ∈ tables_1 := lwT_6 194 (by decide +kernel)
theorem q6_195 : (Jvm.Cond.stringRef "jdk/internal/math/FloatToDecimal" (36 : Nat) "Infinity") ∈ tables_1 := lwT_6 195 (by decide +kernel)
theorem q6_196 : (Jvm.Cond.stringRef "jdk/internal/math/FloatToDecimal" (38 : Nat) "-Infinity") ∈ tables_1 := lwT_6 196 (by decide +kernel)
theorem q6_197 : (Jvm.Cond.stringRef "jdk/internal/math/FloatToDecimal" (40 : Nat) "NaN") ∈ tables_1 := lwT_6 197 (by decide +kernel)
theorem q6_198 : (Jvm.Cond.methodLink "TileWardenLaw" (176 : Nat) ({ cls := "java/lang/StringBuilder", name := "append", desc := "(D)Ljava/lang/StringBuilder;" } : Jvm.MethodName)) ∈ lwG := lwG_6 198 (by decide +kernel) (by decide +kernel)
theorem q6_199 : (Jvm.Cond.instanceMethod ({ cls := "java/lang/StringBuilder", name := "append", desc := "(D)Ljava/lang/StringBuilder;" } : Jvm.MethodName)) ∈ lwG := lwG_6 199 (by decide +kernel) (by decide +kernel)
theorem q6_200 : (Jvm.Cond.selects "java/lang/StringBuilder" ({ cls := "java/lang/StringBuilder", name := "append", desc := "(D)Ljava/lang/StringBuilder;" } : Jvm.MethodName) ({ cls := "java/lang/StringBuilder", name := "append", desc := "(D)Ljava/lang/StringBuilder;" } : Jvm.MethodName)) ∈ lwG := lwG_6 200 (by decide +kernel) (by decide +kernel)
theorem q6_201 : (Jvm.Cond.code ({ cls := "java/lang/StringBuilder", name := "append", desc := "(D)Ljava/lang/StringBuilder;" } : Jvm.MethodName) prog_34_method_18_code (3 : Nat) (Option.some (Jvm.ClassFile.FieldType.object "java/lang/StringBuilder"))) ∈ lwG := lwG_6 201 (by decide +kernel) (by decide +kernel)
theorem q6_202 : (Jvm.Cond.methodLink "java/lang/StringBuilder" (62 : Nat) ({ cls := "java/lang/AbstractStringBuilder", name := "append", desc := "(D)Ljava/lang/AbstractStringBuilder;" } : Jvm.MethodName)) ∈ lwG := lwG_6 202 (by decide +kernel) (by decide +kernel)
theorem q6_203 : (Jvm.Cond.instanceMethod ({ cls := "java/lang/AbstractStringBuilder", name := "append", desc := "(D)Ljava/lang/AbstractStringBuilder;" } : Jvm.MethodName)) ∈ lwG := lwG_6 203 (by decide +kernel) (by decide +kernel)
theorem q6_204 : (Jvm.Cond.codeWith ({ cls := "java/lang/AbstractStringBuilder", name := "append", desc := "(D)Ljava/lang/AbstractStringBuilder;" } : Jvm.MethodName) prog_13_method_35_code (4 : Nat) (Option.some (Jvm.ClassFile.FieldType.object "java/lang/AbstractStringBuilder")) [((0 : Nat), (6 : Nat), (9 : Nat), (271 : Nat))]) ∈ lwG := lwG_6 204 (by decide +kernel) (by decide +kernel)
theorem q6_205 : (Jvm.Cond.methodLink "java/lang/AbstractStringBuilder" (278 : Nat) ({ cls := "jdk/internal/math/DoubleToDecimal", name := "appendTo", desc := "(DLjava/lang/Appendable;)Ljava/lang/Appendable;" } : Jvm.MethodName)) ∈ lwG := lwG_6 205 (by decide +kernel) (by decide +kernel)
theorem q6_206 : (Jvm.Cond.static ({ cls := "jdk/internal/math/DoubleToDecimal", name := "appendTo", desc := "(DLjava/lang/Appendable;)Ljava/lang/Appendable;" } : Jvm.MethodName)) ∈ lwG := lwG_6 206 (by decide +kernel) (by decide +kernel)
theorem q6_207 : (Jvm.Cond.code ({ cls := "jdk/internal/math/DoubleToDecimal", name := "appendTo", desc := "(DLjava/lang/Appendable;)Ljava/lang/Appendable;" } : Jvm.MethodName) prog_52_method_4_code (3 : Nat) (Option.some (Jvm.ClassFile.FieldType.object "java/lang/Appendable"))) ∈ lwG := lwG_6 207 (by decide +kernel) (by decide +kernel)
theorem q6_208 : (Jvm.Cond.classLink "jdk/internal/math/DoubleToDecimal" (3 : Nat) "jdk/internal/math/DoubleToDecimal") ∈ lwG := lwG_6 208 (by decide +kernel) (by decide +kernel)
theorem q6_209 : (Jvm.Cond.instantiable "jdk/internal/math/DoubleToDecimal" (2 : Nat)) ∈ lwG := lwG_6 209 (by decide +kernel) (by decide +kernel)
theorem q6_210 : (Jvm.Cond.methodLink "jdk/internal/math/DoubleToDecimal" (15 : Nat) ({ cls := "jdk/internal/math/DoubleToDecimal", name := "<init>", desc := "(Z)V" } : Jvm.MethodName)) ∈ lwG := lwG_6 210 (by decide +kernel) (by decide +kernel)
theorem q6_211 : (Jvm.Cond.instanceMethod ({ cls := "jdk/internal/math/DoubleToDecimal", name := "<init>", desc := "(Z)V" } : Jvm.MethodName)) ∈ lwG := lwG_6 211 (by decide +kernel) (by decide +kernel)
theorem q6_212 : (Jvm.Cond.code ({ cls := "jdk/internal/math/DoubleToDecimal", name := "<init>", desc := "(Z)V" } : Jvm.MethodName) prog_52_method_1_code (2 : Nat) (Option.none : Option Jvm.ClassFile.FieldType)) ∈ lwG := lwG_6 212 (by decide +kernel) (by decide +kernel)
theorem q6_213 : (Jvm.Cond.methodLink "jdk/internal/math/DoubleToDecimal" (5 : Nat) ({ cls := "java/lang/Object", name := "<init>", desc := "()V" } : Jvm.MethodName)) ∈ lwG := lwG_6 213 (by decide +kernel) (by decide +kernel)
theorem q6_214 : (Jvm.Cond.fieldLink "jdk/internal/math/DoubleToDecimal" (11 : Nat) "jdk/internal/math/DoubleToDecimal" "bytes" "[B") ∈ lwG := lwG_6 214 (by decide +kernel) (by decide +kernel)
theorem q6_215 : (Jvm.Cond.fieldLink "jdk/internal/math/DoubleToDecimal" (44 : Nat) "jdk/internal/math/DoubleToDecimal" "index" "I") ∈ lwG := lwG_6 215 (by decide +kernel) (by decide +kernel)
theorem q6_216 : (Jvm.Cond.laysFinal "jdk/internal/math/DoubleToDecimal" "jdk/internal/math/DoubleToDecimal" "bytes" "[B") ∈ lwG := lwG_6 216 (by decide +kernel) (by decide +kernel)
theorem q6_217 : (Jvm.Cond.soleField "jdk/internal/math/DoubleToDecimal" "bytes") ∈ tables_1 := lwT_6 217 (by decide +kernel)
theorem q6_218 : (Jvm.Cond.lays "jdk/internal/math/DoubleToDecimal" "jdk/internal/math/DoubleToDecimal" "index" "I") ∈ lwG := lwG_6 218 (by decide +kernel) (by decide +kernel)
theorem q6_219 : (Jvm.Cond.soleField "jdk/internal/math/DoubleToDecimal" "index") ∈ tables_1 := lwT_6 219 (by decide +kernel)
theorem q6_220 : (Jvm.Cond.superclass "jdk/internal/math/DoubleToDecimal" "java/lang/Object") ∈ lwG := lwG_6 220 (by decide +kernel) (by decide +kernel)
theorem q6_221 : (Jvm.Cond.arrayClass Jvm.ClassFile.FieldType.char) ∈ lwG := lwG_6 221 (by decide +kernel) (by decide +kernel)
theorem q6_222 : (Jvm.Cond.methodLink "jdk/internal/math/DoubleToDecimal" (26 : Nat) ({ cls := "jdk/internal/math/DoubleToDecimal", name := "appendDecimalTo", desc := "(DLjava/lang/Appendable;)Ljava/lang/Appendable;" } : Jvm.MethodName)) ∈ lwG := lwG_6 222 (by decide +kernel) (by decide +kernel)
theorem q6_223 : (Jvm.Cond.privateMethod ({ cls := "jdk/internal/math/DoubleToDecimal", name := "appendDecimalTo", desc := "(DLjava/lang/Appendable;)Ljava/lang/Appendable;" } : Jvm.MethodName)) ∈ tables_1 := lwT_6 223 (by decide +kernel)
theorem q6_224 : (Jvm.Cond.instanceMethod ({ cls := "jdk/internal/math/DoubleToDecimal", name := "appendDecimalTo", desc := "(DLjava/lang/Appendable;)Ljava/lang/Appendable;" } : Jvm.MethodName)) ∈ lwG := lwG_6 224 (by decide +kernel) (by decide +kernel)
theorem q6_225 : (Jvm.Cond.code ({ cls := "jdk/internal/math/DoubleToDecimal", name := "appendDecimalTo", desc := "(DLjava/lang/Appendable;)Ljava/lang/Appendable;" } : Jvm.MethodName) prog_52_method_6_code (9 : Nat) (Option.some (Jvm.ClassFile.FieldType.object "java/lang/Appendable"))) ∈ lwG := lwG_6 225 (by decide +kernel) (by decide +kernel)
theorem q6_226 : (Jvm.Cond.methodLink "jdk/internal/math/DoubleToDecimal" (22 : Nat) ({ cls := "jdk/internal/math/DoubleToDecimal", name := "toDecimal", desc := "(DLjdk/internal/math/FormattedFPDecimal;)I" } : Jvm.MethodName)) ∈ lwG := lwG_6 226 (by decide +kernel) (by decide +kernel)
theorem q6_227 : (Jvm.Cond.privateMethod ({ cls := "jdk/internal/math/DoubleToDecimal", name := "toDecimal", desc := "(DLjdk/internal/math/FormattedFPDecimal;)I" } : Jvm.MethodName)) ∈ tables_1 := lwT_6 227 (by decide +kernel)
theorem q6_228 : (Jvm.Cond.instanceMethod ({ cls := "jdk/internal/math/DoubleToDecimal", name := "toDecimal", desc := "(DLjdk/internal/math/FormattedFPDecimal;)I" } : Jvm.MethodName)) ∈ lwG := lwG_6 228 (by decide +kernel) (by decide +kernel)
theorem q6_229 : (Jvm.Cond.code ({ cls := "jdk/internal/math/DoubleToDecimal", name := "toDecimal", desc := "(DLjdk/internal/math/FormattedFPDecimal;)I" } : Jvm.MethodName) prog_52_method_7_code (14 : Nat) (Option.some Jvm.ClassFile.FieldType.int)) ∈ lwG := lwG_6 229 (by decide +kernel) (by decide +kernel)
theorem q6_230 : (Jvm.Cond.methodLink "jdk/internal/math/DoubleToDecimal" (67 : Nat) ({ cls := "java/lang/Double", name := "doubleToRawLongBits", desc := "(D)J" } : Jvm.MethodName)) ∈ lwG := lwG_6 230 (by decide +kernel) (by decide +kernel)
theorem q6_231 : (Jvm.Cond.static ({ cls := "java/lang/Double", name := "doubleToRawLongBits", desc := "(D)J" } : Jvm.MethodName)) ∈ lwG := lwG_6 231 (by decide +kernel) (by decide +kernel)
theorem q6_232 : (Jvm.Cond.native ({ cls := "java/lang/Double", name := "doubleToRawLongBits", desc := "(D)J" } : Jvm.MethodName)) ∈ lwG := lwG_6 232 (by decide +kernel) (by decide +kernel)
theorem q6_233 : (Jvm.Cond.constantLong "jdk/internal/math/DoubleToDecimal" (71 : Nat) (4503599627370495 : Int64)) ∈ lwG := lwG_6 233 (by decide +kernel) (by decide +kernel)
theorem q6_234 : (Jvm.Cond.methodLink "jdk/internal/math/DoubleToDecimal" (73 : Nat) ({ cls := "jdk/internal/math/DoubleToDecimal", name := "append", desc := "(I)V" } : Jvm.MethodName)) ∈ lwG := lwG_6 234 (by decide +kernel) (by decide +kernel)
theorem q6_235 : (Jvm.Cond.privateMethod ({ cls := "jdk/internal/math/DoubleToDecimal", name := "append", desc := "(I)V" } : Jvm.MethodName)) ∈ tables_1 := lwT_6 235 (by decide +kernel)
theorem q6_236 : (Jvm.Cond.instanceMethod ({ cls := "jdk/internal/math/DoubleToDecimal", name := "append", desc := "(I)V" } : Jvm.MethodName)) ∈ lwG := lwG_6 236 (by decide +kernel) (by decide +kernel)
theorem q6_237 : (Jvm.Cond.code ({ cls := "jdk/internal/math/DoubleToDecimal", name := "append", desc := "(I)V" } : Jvm.MethodName) prog_52_method_19_code (2 : Nat) (Option.none : Option Jvm.ClassFile.FieldType)) ∈ lwG := lwG_6 237 (by decide +kernel) (by decide +kernel)
theorem q6_238 : (Jvm.Cond.constantLong "jdk/internal/math/DoubleToDecimal" (76 : Nat) (4503599627370496 : Int64)) ∈ lwG := lwG_6 238 (by decide +kernel) (by decide +kernel)
theorem q6_239 : (Jvm.Cond.methodLink "jdk/internal/math/DoubleToDecimal" (78 : Nat) ({ cls := "jdk/internal/math/DoubleToDecimal", name := "toChars", desc := "(JILjdk/internal/math/FormattedFPDecimal;)I" } : Jvm.MethodName)) ∈ lwG := lwG_6 239 (by decide +kernel) (by decide +kernel)
theorem q7_0 : (Jvm.Cond.privateMethod ({ cls := "jdk/internal/math/DoubleToDecimal", name := "toChars", desc := "(JILjdk/internal/math/FormattedFPDecimal;)I" } : Jvm.MethodName)) ∈ tables_1 := lwT_7 0 (by decide +kernel)
theorem q7_1 : (Jvm.Cond.instanceMethod ({ cls := "jdk/internal/math/DoubleToDecimal", name := "toChars", desc := "(JILjdk/internal/math/FormattedFPDecimal;)I" } : Jvm.MethodName)) ∈ lwG := lwG_7 1 (by decide +kernel) (by decide +kernel)
theorem q7_2 : (Jvm.Cond.code ({ cls := "jdk/internal/math/DoubleToDecimal", name := "toChars", desc := "(JILjdk/internal/math/FormattedFPDecimal;)I" } : Jvm.MethodName) prog_52_method_10_code (11 : Nat) (Option.some Jvm.ClassFile.FieldType.int)) ∈ lwG := lwG_7 2 (by decide +kernel) (by decide +kernel)
theorem q7_3 : (Jvm.Cond.methodLink "jdk/internal/math/DoubleToDecimal" (128 : Nat) ({ cls := "java/lang/Long", name := "numberOfLeadingZeros", desc := "(J)I" } : Jvm.MethodName)) ∈ lwG := lwG_7 3 (by decide +kernel) (by decide +kernel)
theorem q7_4 : (Jvm.Cond.static ({ cls := "java/lang/Long", name := "numberOfLeadingZeros", desc := "(J)I" } : Jvm.MethodName)) ∈ lwG := lwG_7 4 (by decide +kernel) (by decide +kernel)
theorem q7_5 : (Jvm.Cond.code ({ cls := "java/lang/Long", name := "numberOfLeadingZeros", desc := "(J)I" } : Jvm.MethodName) prog_28_method_48_code (3 : Nat) (Option.some Jvm.ClassFile.FieldType.int)) ∈ lwG := lwG_7 5 (by decide +kernel) (by decide +kernel)
theorem q7_6 : (Jvm.Cond.methodLink "java/lang/Long" (308 : Nat) ({ cls := "java/lang/Integer", name := "numberOfLeadingZeros", desc := "(I)I" } : Jvm.MethodName)) ∈ lwG := lwG_7 6 (by decide +kernel) (by decide +kernel)
theorem q7_7 : (Jvm.Cond.methodLink "jdk/internal/math/DoubleToDecimal" (91 : Nat) ({ cls := "jdk/internal/math/MathUtils", name := "flog10pow2", desc := "(I)I" } : Jvm.MethodName)) ∈ lwG := lwG_7 7 (by decide +kernel) (by decide +kernel)
theorem q7_8 : (Jvm.Cond.methodLink "jdk/internal/math/DoubleToDecimal" (132 : Nat) ({ cls := "jdk/internal/math/MathUtils", name := "pow10", desc := "(I)J" } : Jvm.MethodName)) ∈ lwG := lwG_7 8 (by decide +kernel) (by decide +kernel)
theorem q7_9 : (Jvm.Cond.methodLink "jdk/internal/math/DoubleToDecimal" (135 : Nat) ({ cls := "jdk/internal/math/FormattedFPDecimal", name := "set", desc := "(JII)V" } : Jvm.MethodName)) ∈ lwG := lwG_7 9 (by decide +kernel) (by decide +kernel)
theorem q7_10 : (Jvm.Cond.instanceMethod ({ cls := "jdk/internal/math/FormattedFPDecimal", name := "set", desc := "(JII)V" } : Jvm.MethodName)) ∈ lwG := lwG_7 10 (by decide +kernel) (by decide +kernel)
theorem q7_11 : (Jvm.Cond.selects "jdk/internal/math/FormattedFPDecimal" ({ cls := "jdk/internal/math/FormattedFPDecimal", name := "set", desc := "(JII)V" } : Jvm.MethodName) ({ cls := "jdk/internal/math/FormattedFPDecimal", name := "set", desc := "(JII)V" } : Jvm.MethodName)) ∈ lwG := lwG_7 11 (by decide +kernel) (by decide +kernel)
theorem q7_12 : (Jvm.Cond.code ({ cls := "jdk/internal/math/FormattedFPDecimal", name := "set", desc := "(JII)V" } : Jvm.MethodName) prog_54_method_3_code (5 : Nat) (Option.none : Option Jvm.ClassFile.FieldType)) ∈ lwG := lwG_7 12 (by decide +kernel) (by decide +kernel)
theorem q7_13 : (Jvm.Cond.constantLong "jdk/internal/math/DoubleToDecimal" (141 : Nat) (193428131138340668 : Int64)) ∈ lwG := lwG_7 13 (by decide +kernel) (by decide +kernel)
theorem q7_14 : (Jvm.Cond.methodLink "jdk/internal/math/DoubleToDecimal" (118 : Nat) ({ cls := "java/lang/Math", name := "multiplyHigh", desc := "(JJ)J" } : Jvm.MethodName)) ∈ lwG := lwG_7 14 (by decide +kernel) (by decide +kernel)
theorem q7_15 : (Jvm.Cond.constantLong "jdk/internal/math/DoubleToDecimal" (143 : Nat) (100000000 : Int64)) ∈ lwG := lwG_7 15 (by decide +kernel) (by decide +kernel)
theorem q7_16 : (Jvm.Cond.constantLong "jdk/internal/math/DoubleToDecimal" (145 : Nat) (1441151881 : Int64)) ∈ lwG := lwG_7 16 (by decide +kernel) (by decide +kernel)
theorem q7_17 : (Jvm.Cond.constant "jdk/internal/math/DoubleToDecimal" (147 : Nat) (100000000 : Int32)) ∈ lwG := lwG_7 17 (by decide +kernel) (by decide +kernel)
theorem q7_18 : (Jvm.Cond.methodLink "jdk/internal/math/DoubleToDecimal" (148 : Nat) ({ cls := "jdk/internal/math/DoubleToDecimal", name := "toChars1", desc := "(IIII)I" } : Jvm.MethodName)) ∈ lwG := lwG_7 18 (by decide +kernel) (by decide +kernel)
theorem q7_19 : (Jvm.Cond.privateMethod ({ cls := "jdk/internal/math/DoubleToDecimal", name := "toChars1", desc := "(IIII)I" } : Jvm.MethodName)) ∈ tables_1 := lwT_7 19 (by decide +kernel)
theorem q7_20 : (Jvm.Cond.instanceMethod ({ cls := "jdk/internal/math/DoubleToDecimal", name := "toChars1", desc := "(IIII)I" } : Jvm.MethodName)) ∈ lwG := lwG_7 20 (by decide +kernel) (by decide +kernel)
theorem q7_21 : (Jvm.Cond.code ({ cls := "jdk/internal/math/DoubleToDecimal", name := "toChars1", desc := "(IIII)I" } : Jvm.MethodName) prog_52_method_11_code (8 : Nat) (Option.some Jvm.ClassFile.FieldType.int)) ∈ lwG := lwG_7 21 (by decide +kernel) (by decide +kernel)
theorem q7_22 : (Jvm.Cond.methodLink "jdk/internal/math/DoubleToDecimal" (158 : Nat) ({ cls := "jdk/internal/math/DoubleToDecimal", name := "appendDigit", desc := "(I)V" } : Jvm.MethodName)) ∈ lwG := lwG_7 22 (by decide +kernel) (by decide +kernel)
theorem q7_23 : (Jvm.Cond.privateMethod ({ cls := "jdk/internal/math/DoubleToDecimal", name := "appendDigit", desc := "(I)V" } : Jvm.MethodName)) ∈ tables_1 := lwT_7 23 (by decide +kernel)
theorem q7_24 : (Jvm.Cond.instanceMethod ({ cls := "jdk/internal/math/DoubleToDecimal", name := "appendDigit", desc := "(I)V" } : Jvm.MethodName)) ∈ lwG := lwG_7 24 (by decide +kernel) (by decide +kernel)
theorem q7_25 : (Jvm.Cond.code ({ cls := "jdk/internal/math/DoubleToDecimal", name := "appendDigit", desc := "(I)V" } : Jvm.MethodName) prog_52_method_20_code (2 : Nat) (Option.none : Option Jvm.ClassFile.FieldType)) ∈ lwG := lwG_7 25 (by decide +kernel) (by decide +kernel)
theorem q7_26 : (Jvm.Cond.methodLink "jdk/internal/math/DoubleToDecimal" (161 : Nat) ({ cls := "jdk/internal/math/DoubleToDecimal", name := "y", desc := "(I)I" } : Jvm.MethodName)) ∈ lwG := lwG_7 26 (by decide +kernel) (by decide +kernel)
theorem q7_27 : (Jvm.Cond.privateMethod ({ cls := "jdk/internal/math/DoubleToDecimal", name := "y", desc := "(I)I" } : Jvm.MethodName)) ∈ tables_1 := lwT_7 27 (by decide +kernel)
theorem q7_28 : (Jvm.Cond.instanceMethod ({ cls := "jdk/internal/math/DoubleToDecimal", name := "y", desc := "(I)I" } : Jvm.MethodName)) ∈ lwG := lwG_7 28 (by decide +kernel) (by decide +kernel)
theorem q7_29 : (Jvm.Cond.code ({ cls := "jdk/internal/math/DoubleToDecimal", name := "y", desc := "(I)I" } : Jvm.MethodName) prog_52_method_17_code (2 : Nat) (Option.some Jvm.ClassFile.FieldType.int)) ∈ lwG := lwG_7 29 (by decide +kernel) (by decide +kernel)
theorem q7_30 : (Jvm.Cond.constant "jdk/internal/math/DoubleToDecimal" (164 : Nat) (268435455 : Int32)) ∈ lwG := lwG_7 30 (by decide +kernel) (by decide +kernel)
theorem q7_31 : (Jvm.Cond.methodLink "jdk/internal/math/DoubleToDecimal" (165 : Nat) ({ cls := "jdk/internal/math/DoubleToDecimal", name := "lowDigits", desc := "(I)V" } : Jvm.MethodName)) ∈ lwG := lwG_7 31 (by decide +kernel) (by decide +kernel)
theorem q7_32 : (Jvm.Cond.privateMethod ({ cls := "jdk/internal/math/DoubleToDecimal", name := "lowDigits", desc := "(I)V" } : Jvm.MethodName)) ∈ tables_1 := lwT_7 32 (by decide +kernel)
theorem q7_33 : (Jvm.Cond.instanceMethod ({ cls := "jdk/internal/math/DoubleToDecimal", name := "lowDigits", desc := "(I)V" } : Jvm.MethodName)) ∈ lwG := lwG_7 33 (by decide +kernel) (by decide +kernel)
theorem q7_34 : (Jvm.Cond.code ({ cls := "jdk/internal/math/DoubleToDecimal", name := "lowDigits", desc := "(I)V" } : Jvm.MethodName) prog_52_method_14_code (2 : Nat) (Option.none : Option Jvm.ClassFile.FieldType)) ∈ lwG := lwG_7 34 (by decide +kernel) (by decide +kernel)
theorem q7_35 : (Jvm.Cond.methodLink "jdk/internal/math/DoubleToDecimal" (168 : Nat) ({ cls := "jdk/internal/math/DoubleToDecimal", name := "append8Digits", desc := "(I)V" } : Jvm.MethodName)) ∈ lwG := lwG_7 35 (by decide +kernel) (by decide +kernel)
theorem q7_36 : (Jvm.Cond.privateMethod ({ cls := "jdk/internal/math/DoubleToDecimal", name := "append8Digits", desc := "(I)V" } : Jvm.MethodName)) ∈ tables_1 := lwT_7 36 (by decide +kernel)
theorem q7_37 : (Jvm.Cond.instanceMethod ({ cls := "jdk/internal/math/DoubleToDecimal", name := "append8Digits", desc := "(I)V" } : Jvm.MethodName)) ∈ lwG := lwG_7 37 (by decide +kernel) (by decide +kernel)
theorem q7_38 : (Jvm.Cond.code ({ cls := "jdk/internal/math/DoubleToDecimal", name := "append8Digits", desc := "(I)V" } : Jvm.MethodName) prog_52_method_15_code (5 : Nat) (Option.none : Option Jvm.ClassFile.FieldType)) ∈ lwG := lwG_7 38 (by decide +kernel) (by decide +kernel)
theorem q7_39 : (Jvm.Cond.methodLink "jdk/internal/math/DoubleToDecimal" (174 : Nat) ({ cls := "jdk/internal/math/DoubleToDecimal", name := "removeTrailingZeroes", desc := "()V" } : Jvm.MethodName)) ∈ lwG := lwG_7 39 (by decide +kernel) (by decide +kernel)
theorem q7_40 : (Jvm.Cond.privateMethod ({ cls := "jdk/internal/math/DoubleToDecimal", name := "removeTrailingZeroes", desc := "()V" } : Jvm.MethodName)) ∈ tables_1 := lwT_7 40 (by decide +kernel)
theorem q7_41 : (Jvm.Cond.instanceMethod ({ cls := "jdk/internal/math/DoubleToDecimal", name := "removeTrailingZeroes", desc := "()V" } : Jvm.MethodName)) ∈ lwG := lwG_7 41 (by decide +kernel) (by decide +kernel)
theorem q7_42 : (Jvm.Cond.code ({ cls := "jdk/internal/math/DoubleToDecimal", name := "removeTrailingZeroes", desc := "()V" } : Jvm.MethodName) prog_52_method_16_code (1 : Nat) (Option.none : Option Jvm.ClassFile.FieldType)) ∈ lwG := lwG_7 42 (by decide +kernel) (by decide +kernel)
theorem q7_43 : (Jvm.Cond.methodLink "jdk/internal/math/DoubleToDecimal" (152 : Nat) ({ cls := "jdk/internal/math/DoubleToDecimal", name := "toChars2", desc := "(IIII)I" } : Jvm.MethodName)) ∈ lwG := lwG_7 43 (by decide +kernel) (by decide +kernel)
theorem q7_44 : (Jvm.Cond.privateMethod ({ cls := "jdk/internal/math/DoubleToDecimal", name := "toChars2", desc := "(IIII)I" } : Jvm.MethodName)) ∈ tables_1 := lwT_7 44 (by decide +kernel)
theorem q7_45 : (Jvm.Cond.instanceMethod ({ cls := "jdk/internal/math/DoubleToDecimal", name := "toChars2", desc := "(IIII)I" } : Jvm.MethodName)) ∈ lwG := lwG_7 45 (by decide +kernel) (by decide +kernel)
theorem q7_46 : (Jvm.Cond.code ({ cls := "jdk/internal/math/DoubleToDecimal", name := "toChars2", desc := "(IIII)I" } : Jvm.MethodName) prog_52_method_12_code (5 : Nat) (Option.some Jvm.ClassFile.FieldType.int)) ∈ lwG := lwG_7 46 (by decide +kernel) (by decide +kernel)
theorem q7_47 : (Jvm.Cond.methodLink "jdk/internal/math/DoubleToDecimal" (155 : Nat) ({ cls := "jdk/internal/math/DoubleToDecimal", name := "toChars3", desc := "(IIII)I" } : Jvm.MethodName)) ∈ lwG := lwG_7 47 (by decide +kernel) (by decide +kernel)
theorem q7_48 : (Jvm.Cond.privateMethod ({ cls := "jdk/internal/math/DoubleToDecimal", name := "toChars3", desc := "(IIII)I" } : Jvm.MethodName)) ∈ tables_1 := lwT_7 48 (by decide +kernel)
theorem q7_49 : (Jvm.Cond.instanceMethod ({ cls := "jdk/internal/math/DoubleToDecimal", name := "toChars3", desc := "(IIII)I" } : Jvm.MethodName)) ∈ lwG := lwG_7 49 (by decide +kernel) (by decide +kernel)
theorem q7_50 : (Jvm.Cond.code ({ cls := "jdk/internal/math/DoubleToDecimal", name := "toChars3", desc := "(IIII)I" } : Jvm.MethodName) prog_52_method_13_code (5 : Nat) (Option.some Jvm.ClassFile.FieldType.int)) ∈ lwG := lwG_7 50 (by decide +kernel) (by decide +kernel)
theorem q7_51 : (Jvm.Cond.methodLink "jdk/internal/math/DoubleToDecimal" (171 : Nat) ({ cls := "jdk/internal/math/DoubleToDecimal", name := "exponent", desc := "(I)V" } : Jvm.MethodName)) ∈ lwG := lwG_7 51 (by decide +kernel) (by decide +kernel)
theorem q7_52 : (Jvm.Cond.privateMethod ({ cls := "jdk/internal/math/DoubleToDecimal", name := "exponent", desc := "(I)V" } : Jvm.MethodName)) ∈ tables_1 := lwT_7 52 (by decide +kernel)
theorem q7_53 : (Jvm.Cond.instanceMethod ({ cls := "jdk/internal/math/DoubleToDecimal", name := "exponent", desc := "(I)V" } : Jvm.MethodName)) ∈ lwG := lwG_7 53 (by decide +kernel) (by decide +kernel)
theorem q7_54 : (Jvm.Cond.code ({ cls := "jdk/internal/math/DoubleToDecimal", name := "exponent", desc := "(I)V" } : Jvm.MethodName) prog_52_method_18_code (3 : Nat) (Option.none : Option Jvm.ClassFile.FieldType)) ∈ lwG := lwG_7 54 (by decide +kernel) (by decide +kernel)
theorem q7_55 : (Jvm.Cond.methodLink "jdk/internal/math/DoubleToDecimal" (82 : Nat) ({ cls := "jdk/internal/math/DoubleToDecimal", name := "toDecimal", desc := "(IJILjdk/internal/math/FormattedFPDecimal;)I" } : Jvm.MethodName)) ∈ lwG := lwG_7 55 (by decide +kernel) (by decide +kernel)
theorem q7_56 : (Jvm.Cond.privateMethod ({ cls := "jdk/internal/math/DoubleToDecimal", name := "toDecimal", desc := "(IJILjdk/internal/math/FormattedFPDecimal;)I" } : Jvm.MethodName)) ∈ tables_1 := lwT_7 56 (by decide +kernel)
theorem q7_57 : (Jvm.Cond.instanceMethod ({ cls := "jdk/internal/math/DoubleToDecimal", name := "toDecimal", desc := "(IJILjdk/internal/math/FormattedFPDecimal;)I" } : Jvm.MethodName)) ∈ lwG := lwG_7 57 (by decide +kernel) (by decide +kernel)
theorem q7_58 : (Jvm.Cond.code ({ cls := "jdk/internal/math/DoubleToDecimal", name := "toDecimal", desc := "(IJILjdk/internal/math/FormattedFPDecimal;)I" } : Jvm.MethodName) prog_52_method_8_code (33 : Nat) (Option.some Jvm.ClassFile.FieldType.int)) ∈ lwG := lwG_7 58 (by decide +kernel) (by decide +kernel)
theorem q7_59 : (Jvm.Cond.constantLong "jdk/internal/math/DoubleToDecimal" (89 : Nat) (2 : Int64)) ∈ lwG := lwG_7 59 (by decide +kernel) (by decide +kernel)
theorem q7_60 : (Jvm.Cond.methodLink "jdk/internal/math/DoubleToDecimal" (97 : Nat) ({ cls := "jdk/internal/math/MathUtils", name := "flog10threeQuartersPow2", desc := "(I)I" } : Jvm.MethodName)) ∈ lwG := lwG_7 60 (by decide +kernel) (by decide +kernel)
theorem q7_61 : (Jvm.Cond.methodLink "jdk/internal/math/DoubleToDecimal" (100 : Nat) ({ cls := "jdk/internal/math/MathUtils", name := "flog2pow10", desc := "(I)I" } : Jvm.MethodName)) ∈ lwG := lwG_7 61 (by decide +kernel) (by decide +kernel)
theorem q7_62 : (Jvm.Cond.methodLink "jdk/internal/math/DoubleToDecimal" (103 : Nat) ({ cls := "jdk/internal/math/MathUtils", name := "g1", desc := "(I)J" } : Jvm.MethodName)) ∈ lwG := lwG_7 62 (by decide +kernel) (by decide +kernel)
theorem q7_63 : (Jvm.Cond.methodLink "jdk/internal/math/DoubleToDecimal" (107 : Nat) ({ cls := "jdk/internal/math/MathUtils", name := "g0", desc := "(I)J" } : Jvm.MethodName)) ∈ lwG := lwG_7 63 (by decide +kernel) (by decide +kernel)
theorem q7_64 : (Jvm.Cond.static ({ cls := "jdk/internal/math/MathUtils", name := "g0", desc := "(I)J" } : Jvm.MethodName)) ∈ lwG := lwG_7 64 (by decide +kernel) (by decide +kernel)
theorem q7_65 : (Jvm.Cond.code ({ cls := "jdk/internal/math/MathUtils", name := "g0", desc := "(I)J" } : Jvm.MethodName) prog_55_method_7_code (1 : Nat) (Option.some Jvm.ClassFile.FieldType.long)) ∈ lwG := lwG_7 65 (by decide +kernel) (by decide +kernel)
theorem q7_66 : (Jvm.Cond.methodLink "jdk/internal/math/DoubleToDecimal" (110 : Nat) ({ cls := "jdk/internal/math/DoubleToDecimal", name := "rop", desc := "(JJJ)J" } : Jvm.MethodName)) ∈ lwG := lwG_7 66 (by decide +kernel) (by decide +kernel)
theorem q7_67 : (Jvm.Cond.static ({ cls := "jdk/internal/math/DoubleToDecimal", name := "rop", desc := "(JJJ)J" } : Jvm.MethodName)) ∈ lwG := lwG_7 67 (by decide +kernel) (by decide +kernel)
theorem q7_68 : (Jvm.Cond.code ({ cls := "jdk/internal/math/DoubleToDecimal", name := "rop", desc := "(JJJ)J" } : Jvm.MethodName) prog_52_method_9_code (16 : Nat) (Option.some Jvm.ClassFile.FieldType.long)) ∈ lwG := lwG_7 68 (by decide +kernel) (by decide +kernel)
theorem q7_69 : (Jvm.Cond.constantLong "jdk/internal/math/DoubleToDecimal" (124 : Nat) (9223372036854775807 : Int64)) ∈ lwG := lwG_7 69 (by decide +kernel) (by decide +kernel)
theorem q7_70 : (Jvm.Cond.constantLong "jdk/internal/math/DoubleToDecimal" (114 : Nat) (100 : Int64)) ∈ lwG := lwG_7 70 (by decide +kernel) (by decide +kernel)
theorem q7_71 : (Jvm.Cond.constantLong "jdk/internal/math/DoubleToDecimal" (87 : Nat) (10 : Int64)) ∈ lwG := lwG_7 71 (by decide +kernel) (by decide +kernel)
theorem q7_72 : (Jvm.Cond.constantLong "jdk/internal/math/DoubleToDecimal" (116 : Nat) (1844674407370955168 : Int64)) ∈ lwG := lwG_7 72 (by decide +kernel) (by decide +kernel)
theorem q7_73 : (Jvm.Cond.constantLong "jdk/internal/math/DoubleToDecimal" (85 : Nat) (3 : Int64)) ∈ lwG := lwG_7 73 (by decide +kernel) (by decide +kernel)
theorem q7_74 : (Jvm.Cond.classLink "jdk/internal/math/DoubleToDecimal" (48 : Nat) "java/lang/StringBuilder") ∈ lwG := lwG_7 74 (by decide +kernel) (by decide +kernel)
theorem q7_75 : (Jvm.Cond.methodLink "jdk/internal/math/DoubleToDecimal" (50 : Nat) ({ cls := "java/lang/StringBuilder", name := "append", desc := "([C)Ljava/lang/StringBuilder;" } : Jvm.MethodName)) ∈ lwG := lwG_7 75 (by decide +kernel) (by decide +kernel)
theorem q7_76 : (Jvm.Cond.classLink "jdk/internal/math/DoubleToDecimal" (54 : Nat) "java/lang/StringBuffer") ∈ lwG := lwG_7 76 (by decide +kernel) (by decide +kernel)
theorem q7_77 : (Jvm.Cond.methodLink "jdk/internal/math/DoubleToDecimal" (56 : Nat) ({ cls := "java/lang/StringBuffer", name := "append", desc := "([C)Ljava/lang/StringBuffer;" } : Jvm.MethodName)) ∈ lwG := lwG_7 77 (by decide +kernel) (by decide +kernel)
theorem q7_78 : (Jvm.Cond.interfaceEntry "jdk/internal/math/DoubleToDecimal" (59 : Nat)) ∈ tables_1 := lwT_7 78 (by decide +kernel)
theorem q7_79 : (Jvm.Cond.methodLink "jdk/internal/math/DoubleToDecimal" (59 : Nat) ({ cls := "java/lang/Appendable", name := "append", desc := "(C)Ljava/lang/Appendable;" } : Jvm.MethodName)) ∈ lwG := lwG_7 79 (by decide +kernel) (by decide +kernel)
theorem q7_80 : (Jvm.Cond.stringRef "jdk/internal/math/DoubleToDecimal" (34 : Nat) "0.0") ∈ tables_1 := lwT_7 80 (by decide +kernel)
theorem q7_81 : (Jvm.Cond.interfaceEntry "jdk/internal/math/DoubleToDecimal" (64 : Nat)) ∈ tables_1 := lwT_7 81 (by decide +kernel)
theorem q7_82 : (Jvm.Cond.methodLink "jdk/internal/math/DoubleToDecimal" (64 : Nat) ({ cls := "java/lang/Appendable", name := "append", desc := "(Ljava/lang/CharSequence;)Ljava/lang/Appendable;" } : Jvm.MethodName)) ∈ lwG := lwG_7 82 (by decide +kernel) (by decide +kernel)
theorem q7_83 : (Jvm.Cond.stringRef "jdk/internal/math/DoubleToDecimal" (36 : Nat) "-0.0") ∈ tables_1 := lwT_7 83 (by decide +kernel)
theorem q7_84 : (Jvm.Cond.stringRef "jdk/internal/math/DoubleToDecimal" (38 : Nat) "Infinity") ∈ tables_1 := lwT_7 84 (by decide +kernel)
theorem q7_85 : (Jvm.Cond.stringRef "jdk/internal/math/DoubleToDecimal" (40 : Nat) "-Infinity") ∈ tables_1 := lwT_7 85 (by decide +kernel)
theorem q7_86 : (Jvm.Cond.stringRef "jdk/internal/math/DoubleToDecimal" (42 : Nat) "NaN") ∈ tables_1 := lwT_7 86 (by decide +kernel)
theorem q7_87 : (Jvm.Cond.methodLink "TileWardenLaw" (179 : Nat) ({ cls := "TileWardenLaw", name := "score", desc := "(LTileWarden;I)I" } : Jvm.MethodName)) ∈ lwG := lwG_7 87 (by decide +kernel) (by decide +kernel)
theorem q7_88 : (Jvm.Cond.static ({ cls := "TileWardenLaw", name := "score", desc := "(LTileWarden;I)I" } : Jvm.MethodName)) ∈ lwG := lwG_7 88 (by decide +kernel) (by decide +kernel)
theorem q7_89 : (Jvm.Cond.codeWith ({ cls := "TileWardenLaw", name := "score", desc := "(LTileWarden;I)I" } : Jvm.MethodName) method_7_code (3 : Nat) (Option.some Jvm.ClassFile.FieldType.int) [((0 : Nat), (5 : Nat), (6 : Nat), (22 : Nat))]) ∈ lwG := lwG_7 89 (by decide +kernel) (by decide +kernel)
theorem q7_90 : (Jvm.Cond.methodLink "TileWardenLaw" (33 : Nat) ({ cls := "TileWarden", name := "score", desc := "(I)I" } : Jvm.MethodName)) ∈ lwG := lwG_7 90 (by decide +kernel) (by decide +kernel)
theorem q7_91 : (Jvm.Cond.instanceMethod ({ cls := "TileWarden", name := "score", desc := "(I)I" } : Jvm.MethodName)) ∈ lwG := lwG_7 91 (by decide +kernel) (by decide +kernel)
theorem q7_92 : (Jvm.Cond.selects "TileWarden" ({ cls := "TileWarden", name := "score", desc := "(I)I" } : Jvm.MethodName) ({ cls := "TileWarden", name := "score", desc := "(I)I" } : Jvm.MethodName)) ∈ lwG := lwG_7 92 (by decide +kernel) (by decide +kernel)
theorem q7_93 : (Jvm.Cond.code ({ cls := "TileWarden", name := "score", desc := "(I)I" } : Jvm.MethodName) prog_1_method_6_code (2 : Nat) (Option.some Jvm.ClassFile.FieldType.int)) ∈ lwG := lwG_7 93 (by decide +kernel) (by decide +kernel)
theorem q7_94 : (Jvm.Cond.methodLink "TileWardenLaw" (181 : Nat) ({ cls := "TileWardenLaw", name := "pushes", desc := "(LTileWarden;I)I" } : Jvm.MethodName)) ∈ lwG := lwG_7 94 (by decide +kernel) (by decide +kernel)
theorem q7_95 : (Jvm.Cond.static ({ cls := "TileWardenLaw", name := "pushes", desc := "(LTileWarden;I)I" } : Jvm.MethodName)) ∈ lwG := lwG_7 95 (by decide +kernel) (by decide +kernel)
theorem q7_96 : (Jvm.Cond.codeWith ({ cls := "TileWardenLaw", name := "pushes", desc := "(LTileWarden;I)I" } : Jvm.MethodName) method_8_code (3 : Nat) (Option.some Jvm.ClassFile.FieldType.int) [((0 : Nat), (5 : Nat), (6 : Nat), (22 : Nat))]) ∈ lwG := lwG_7 96 (by decide +kernel) (by decide +kernel)
theorem q7_97 : (Jvm.Cond.methodLink "TileWardenLaw" (36 : Nat) ({ cls := "TileWarden", name := "pushes", desc := "(I)I" } : Jvm.MethodName)) ∈ lwG := lwG_7 97 (by decide +kernel) (by decide +kernel)
theorem q7_98 : (Jvm.Cond.instanceMethod ({ cls := "TileWarden", name := "pushes", desc := "(I)I" } : Jvm.MethodName)) ∈ lwG := lwG_7 98 (by decide +kernel) (by decide +kernel)
theorem q7_99 : (Jvm.Cond.selects "TileWarden" ({ cls := "TileWarden", name := "pushes", desc := "(I)I" } : Jvm.MethodName) ({ cls := "TileWarden", name := "pushes", desc := "(I)I" } : Jvm.MethodName)) ∈ lwG := lwG_7 99 (by decide +kernel) (by decide +kernel)
theorem q7_100 : (Jvm.Cond.code ({ cls := "TileWarden", name := "pushes", desc := "(I)I" } : Jvm.MethodName) prog_1_method_7_code (2 : Nat) (Option.some Jvm.ClassFile.FieldType.int)) ∈ lwG := lwG_7 100 (by decide +kernel) (by decide +kernel)
theorem q7_101 : (Jvm.Cond.methodLink "TileWardenLaw" (183 : Nat) ({ cls := "TileWardenLaw", name := "isVoid", desc := "(LTileWarden;I)I" } : Jvm.MethodName)) ∈ lwG := lwG_7 101 (by decide +kernel) (by decide +kernel)
theorem q7_102 : (Jvm.Cond.static ({ cls := "TileWardenLaw", name := "isVoid", desc := "(LTileWarden;I)I" } : Jvm.MethodName)) ∈ lwG := lwG_7 102 (by decide +kernel) (by decide +kernel)
theorem q7_103 : (Jvm.Cond.codeWith ({ cls := "TileWardenLaw", name := "isVoid", desc := "(LTileWarden;I)I" } : Jvm.MethodName) method_22_code (3 : Nat) (Option.some Jvm.ClassFile.FieldType.int) [((0 : Nat), (13 : Nat), (14 : Nat), (22 : Nat))]) ∈ lwG := lwG_7 103 (by decide +kernel) (by decide +kernel)
theorem q7_104 : (Jvm.Cond.methodLink "TileWardenLaw" (82 : Nat) ({ cls := "TileWarden", name := "isVoid", desc := "(I)Z" } : Jvm.MethodName)) ∈ lwG := lwG_7 104 (by decide +kernel) (by decide +kernel)
theorem q7_105 : (Jvm.Cond.instanceMethod ({ cls := "TileWarden", name := "isVoid", desc := "(I)Z" } : Jvm.MethodName)) ∈ lwG := lwG_7 105 (by decide +kernel) (by decide +kernel)
theorem q7_106 : (Jvm.Cond.selects "TileWarden" ({ cls := "TileWarden", name := "isVoid", desc := "(I)Z" } : Jvm.MethodName) ({ cls := "TileWarden", name := "isVoid", desc := "(I)Z" } : Jvm.MethodName)) ∈ lwG := lwG_7 106 (by decide +kernel) (by decide +kernel)
theorem q7_107 : (Jvm.Cond.code ({ cls := "TileWarden", name := "isVoid", desc := "(I)Z" } : Jvm.MethodName) prog_1_method_23_code (2 : Nat) (Option.some Jvm.ClassFile.FieldType.boolean)) ∈ lwG := lwG_7 107 (by decide +kernel) (by decide +kernel)
theorem q7_108 : (Jvm.Cond.methodLink "TileWardenLaw" (185 : Nat) ({ cls := "TileWardenLaw", name := "follows", desc := "(LTileWarden;I)I" } : Jvm.MethodName)) ∈ lwG := lwG_7 108 (by decide +kernel) (by decide +kernel)
theorem q7_109 : (Jvm.Cond.static ({ cls := "TileWardenLaw", name := "follows", desc := "(LTileWarden;I)I" } : Jvm.MethodName)) ∈ lwG := lwG_7 109 (by decide +kernel) (by decide +kernel)
theorem q7_110 : (Jvm.Cond.codeWith ({ cls := "TileWardenLaw", name := "follows", desc := "(LTileWarden;I)I" } : Jvm.MethodName) method_19_code (3 : Nat) (Option.some Jvm.ClassFile.FieldType.int) [((0 : Nat), (5 : Nat), (6 : Nat), (22 : Nat))]) ∈ lwG := lwG_7 110 (by decide +kernel) (by decide +kernel)
theorem q7_111 : (Jvm.Cond.methodLink "TileWardenLaw" (73 : Nat) ({ cls := "TileWarden", name := "follows", desc := "(I)I" } : Jvm.MethodName)) ∈ lwG := lwG_7 111 (by decide +kernel) (by decide +kernel)
theorem q7_112 : (Jvm.Cond.instanceMethod ({ cls := "TileWarden", name := "follows", desc := "(I)I" } : Jvm.MethodName)) ∈ lwG := lwG_7 112 (by decide +kernel) (by decide +kernel)
theorem q7_113 : (Jvm.Cond.selects "TileWarden" ({ cls := "TileWarden", name := "follows", desc := "(I)I" } : Jvm.MethodName) ({ cls := "TileWarden", name := "follows", desc := "(I)I" } : Jvm.MethodName)) ∈ lwG := lwG_7 113 (by decide +kernel) (by decide +kernel)
theorem q7_114 : (Jvm.Cond.code ({ cls := "TileWarden", name := "follows", desc := "(I)I" } : Jvm.MethodName) prog_1_method_20_code (2 : Nat) (Option.some Jvm.ClassFile.FieldType.int)) ∈ lwG := lwG_7 114 (by decide +kernel) (by decide +kernel)
theorem q7_115 : (Jvm.Cond.methodLink "TileWardenLaw" (187 : Nat) ({ cls := "TileWardenLaw", name := "at", desc := "(LTileWarden;III)I" } : Jvm.MethodName)) ∈ lwG := lwG_7 115 (by decide +kernel) (by decide +kernel)
theorem q7_116 : (Jvm.Cond.static ({ cls := "TileWardenLaw", name := "at", desc := "(LTileWarden;III)I" } : Jvm.MethodName)) ∈ lwG := lwG_7 116 (by decide +kernel) (by decide +kernel)
theorem q7_117 : (Jvm.Cond.codeWith ({ cls := "TileWardenLaw", name := "at", desc := "(LTileWarden;III)I" } : Jvm.MethodName) method_6_code (5 : Nat) (Option.some Jvm.ClassFile.FieldType.int) [((0 : Nat), (7 : Nat), (8 : Nat), (22 : Nat)), ((0 : Nat), (7 : Nat), (12 : Nat), (14 : Nat))]) ∈ lwG := lwG_7 117 (by decide +kernel) (by decide +kernel)
theorem q7_118 : (Jvm.Cond.methodLink "TileWardenLaw" (29 : Nat) ({ cls := "TileWarden", name := "at", desc := "(III)I" } : Jvm.MethodName)) ∈ lwG := lwG_7 118 (by decide +kernel) (by decide +kernel)
theorem q7_119 : (Jvm.Cond.instanceMethod ({ cls := "TileWarden", name := "at", desc := "(III)I" } : Jvm.MethodName)) ∈ lwG := lwG_7 119 (by decide +kernel) (by decide +kernel)
theorem q7_120 : (Jvm.Cond.selects "TileWarden" ({ cls := "TileWarden", name := "at", desc := "(III)I" } : Jvm.MethodName) ({ cls := "TileWarden", name := "at", desc := "(III)I" } : Jvm.MethodName)) ∈ lwG := lwG_7 120 (by decide +kernel) (by decide +kernel)
theorem q7_121 : (Jvm.Cond.code ({ cls := "TileWarden", name := "at", desc := "(III)I" } : Jvm.MethodName) prog_1_method_5_code (5 : Nat) (Option.some Jvm.ClassFile.FieldType.int)) ∈ lwG := lwG_7 121 (by decide +kernel) (by decide +kernel)
theorem q7_122 : (Jvm.Cond.stringRef "TileWarden" (138 : Nat) "there is no such cell") ∈ tables_1 := lwT_7 122 (by decide +kernel)
theorem q7_123 : (Jvm.Cond.methodLink "TileWarden" (140 : Nat) ({ cls := "TileWarden$Boards", name := "tileAt", desc := "(JI)I" } : Jvm.MethodName)) ∈ lwG := lwG_7 123 (by decide +kernel) (by decide +kernel)
theorem q7_124 : (Jvm.Cond.methodLink "TileWardenLaw" (192 : Nat) ({ cls := "java/lang/StringBuilder", name := "toString", desc := "()Ljava/lang/String;" } : Jvm.MethodName)) ∈ lwG := lwG_7 124 (by decide +kernel) (by decide +kernel)
theorem q7_125 : (Jvm.Cond.instanceMethod ({ cls := "java/lang/StringBuilder", name := "toString", desc := "()Ljava/lang/String;" } : Jvm.MethodName)) ∈ lwG := lwG_7 125 (by decide +kernel) (by decide +kernel)
theorem q7_126 : (Jvm.Cond.selects "java/lang/StringBuilder" ({ cls := "java/lang/StringBuilder", name := "toString", desc := "()Ljava/lang/String;" } : Jvm.MethodName) ({ cls := "java/lang/StringBuilder", name := "toString", desc := "()Ljava/lang/String;" } : Jvm.MethodName)) ∈ lwG := lwG_7 126 (by decide +kernel) (by decide +kernel)
theorem q7_127 : (Jvm.Cond.code ({ cls := "java/lang/StringBuilder", name := "toString", desc := "()Ljava/lang/String;" } : Jvm.MethodName) prog_34_method_42_code (1 : Nat) (Option.some (Jvm.ClassFile.FieldType.object "java/lang/String"))) ∈ lwG := lwG_7 127 (by decide +kernel) (by decide +kernel)
theorem q7_128 : (Jvm.Cond.classLink "java/lang/StringBuilder" (18 : Nat) "java/lang/String") ∈ lwG := lwG_7 128 (by decide +kernel) (by decide +kernel)
theorem q7_129 : (Jvm.Cond.methodLink "java/lang/StringBuilder" (137 : Nat) ({ cls := "java/lang/String", name := "<init>", desc := "(Ljava/lang/StringBuilder;)V" } : Jvm.MethodName)) ∈ lwG := lwG_7 129 (by decide +kernel) (by decide +kernel)
theorem q7_130 : (Jvm.Cond.instanceMethod ({ cls := "java/lang/String", name := "<init>", desc := "(Ljava/lang/StringBuilder;)V" } : Jvm.MethodName)) ∈ lwG := lwG_7 130 (by decide +kernel) (by decide +kernel)
theorem q7_131 : (Jvm.Cond.code ({ cls := "java/lang/String", name := "<init>", desc := "(Ljava/lang/StringBuilder;)V" } : Jvm.MethodName) prog_32_method_53_code (2 : Nat) (Option.none : Option Jvm.ClassFile.FieldType)) ∈ lwG := lwG_7 131 (by decide +kernel) (by decide +kernel)
theorem q7_132 : (Jvm.Cond.methodLink "java/lang/String" (489 : Nat) ({ cls := "java/lang/String", name := "<init>", desc := "(Ljava/lang/AbstractStringBuilder;Ljava/lang/Void;)V" } : Jvm.MethodName)) ∈ lwG := lwG_7 132 (by decide +kernel) (by decide +kernel)
theorem q7_133 : (Jvm.Cond.instanceMethod ({ cls := "java/lang/String", name := "<init>", desc := "(Ljava/lang/AbstractStringBuilder;Ljava/lang/Void;)V" } : Jvm.MethodName)) ∈ lwG := lwG_7 133 (by decide +kernel) (by decide +kernel)
theorem q7_134 : (Jvm.Cond.code ({ cls := "java/lang/String", name := "<init>", desc := "(Ljava/lang/AbstractStringBuilder;Ljava/lang/Void;)V" } : Jvm.MethodName) prog_32_method_150_code (5 : Nat) (Option.none : Option Jvm.ClassFile.FieldType)) ∈ lwG := lwG_7 134 (by decide +kernel) (by decide +kernel)
theorem q7_135 : (Jvm.Cond.methodLink "java/lang/String" (1 : Nat) ({ cls := "java/lang/Object", name := "<init>", desc := "()V" } : Jvm.MethodName)) ∈ lwG := lwG_7 135 (by decide +kernel) (by decide +kernel)
theorem q7_136 : (Jvm.Cond.methodLink "java/lang/String" (552 : Nat) ({ cls := "java/lang/AbstractStringBuilder", name := "getValue", desc := "()[B" } : Jvm.MethodName)) ∈ lwG := lwG_7 136 (by decide +kernel) (by decide +kernel)
theorem q7_137 : (Jvm.Cond.instanceMethod ({ cls := "java/lang/AbstractStringBuilder", name := "getValue", desc := "()[B" } : Jvm.MethodName)) ∈ lwG := lwG_7 137 (by decide +kernel) (by decide +kernel)
theorem q7_138 : (Jvm.Cond.sameMethod "java/lang/AbstractStringBuilder" "java/lang/AbstractStringBuilder" "getValue" "()[B") ∈ lwG := lwG_7 138 (by decide +kernel) (by decide +kernel)
theorem q7_139 : (Jvm.Cond.selects "java/lang/StringBuilder" ({ cls := "java/lang/AbstractStringBuilder", name := "getValue", desc := "()[B" } : Jvm.MethodName) ({ cls := "java/lang/AbstractStringBuilder", name := "getValue", desc := "()[B" } : Jvm.MethodName)) ∈ lwG := lwG_7 139 (by decide +kernel) (by decide +kernel)
theorem q7_140 : (Jvm.Cond.code ({ cls := "java/lang/AbstractStringBuilder", name := "getValue", desc := "()[B" } : Jvm.MethodName) prog_13_method_64_code (1 : Nat) (Option.some (Jvm.ClassFile.FieldType.array Jvm.ClassFile.FieldType.byte))) ∈ lwG := lwG_7 140 (by decide +kernel) (by decide +kernel)
theorem q7_141 : (Jvm.Cond.methodLink "java/lang/String" (549 : Nat) ({ cls := "java/lang/AbstractStringBuilder", name := "length", desc := "()I" } : Jvm.MethodName)) ∈ lwG := lwG_7 141 (by decide +kernel) (by decide +kernel)
theorem q7_142 : (Jvm.Cond.methodLink "java/lang/String" (1047 : Nat) ({ cls := "java/lang/AbstractStringBuilder", name := "isLatin1", desc := "()Z" } : Jvm.MethodName)) ∈ lwG := lwG_7 142 (by decide +kernel) (by decide +kernel)
theorem q7_143 : (Jvm.Cond.methodLink "java/lang/String" (54 : Nat) ({ cls := "java/util/Arrays", name := "copyOfRange", desc := "([BII)[B" } : Jvm.MethodName)) ∈ lwG := lwG_7 143 (by decide +kernel) (by decide +kernel)
theorem q7_144 : (Jvm.Cond.static ({ cls := "java/util/Arrays", name := "copyOfRange", desc := "([BII)[B" } : Jvm.MethodName)) ∈ lwG := lwG_7 144 (by decide +kernel) (by decide +kernel)
theorem q7_145 : (Jvm.Cond.code ({ cls := "java/util/Arrays", name := "copyOfRange", desc := "([BII)[B" } : Jvm.MethodName) prog_45_method_132_code (3 : Nat) (Option.some (Jvm.ClassFile.FieldType.array Jvm.ClassFile.FieldType.byte))) ∈ lwG := lwG_7 145 (by decide +kernel) (by decide +kernel)
theorem q7_146 : (Jvm.Cond.methodLink "java/util/Arrays" (339 : Nat) ({ cls := "java/util/Arrays", name := "copyOfRangeByte", desc := "([BII)[B" } : Jvm.MethodName)) ∈ lwG := lwG_7 146 (by decide +kernel) (by decide +kernel)
theorem q7_147 : (Jvm.Cond.static ({ cls := "java/util/Arrays", name := "copyOfRangeByte", desc := "([BII)[B" } : Jvm.MethodName)) ∈ lwG := lwG_7 147 (by decide +kernel) (by decide +kernel)
theorem q7_148 : (Jvm.Cond.code ({ cls := "java/util/Arrays", name := "copyOfRangeByte", desc := "([BII)[B" } : Jvm.MethodName) prog_45_method_133_code (5 : Nat) (Option.some (Jvm.ClassFile.FieldType.array Jvm.ClassFile.FieldType.byte))) ∈ lwG := lwG_7 148 (by decide +kernel) (by decide +kernel)
theorem q7_149 : (Jvm.Cond.methodLink "java/util/Arrays" (343 : Nat) ({ cls := "java/util/Arrays", name := "checkLength", desc := "(II)V" } : Jvm.MethodName)) ∈ lwG := lwG_7 149 (by decide +kernel) (by decide +kernel)
theorem q7_150 : (Jvm.Cond.static ({ cls := "java/util/Arrays", name := "checkLength", desc := "(II)V" } : Jvm.MethodName)) ∈ lwG := lwG_7 150 (by decide +kernel) (by decide +kernel)
theorem q7_151 : (Jvm.Cond.code ({ cls := "java/util/Arrays", name := "checkLength", desc := "(II)V" } : Jvm.MethodName) prog_45_method_131_code (2 : Nat) (Option.none : Option Jvm.ClassFile.FieldType)) ∈ lwG := lwG_7 151 (by decide +kernel) (by decide +kernel)
theorem q7_152 : (Jvm.Cond.classLink "java/util/Arrays" (43 : Nat) "java/lang/IllegalArgumentException") ∈ lwG := lwG_7 152 (by decide +kernel) (by decide +kernel)
theorem q7_153 : (Jvm.Cond.classLink "java/util/Arrays" (45 : Nat) "java/lang/StringBuilder") ∈ lwG := lwG_7 153 (by decide +kernel) (by decide +kernel)
theorem q7_154 : (Jvm.Cond.methodLink "java/util/Arrays" (47 : Nat) ({ cls := "java/lang/StringBuilder", name := "<init>", desc := "()V" } : Jvm.MethodName)) ∈ lwG := lwG_7 154 (by decide +kernel) (by decide +kernel)
theorem q7_155 : (Jvm.Cond.methodLink "java/util/Arrays" (54 : Nat) ({ cls := "java/lang/StringBuilder", name := "append", desc := "(I)Ljava/lang/StringBuilder;" } : Jvm.MethodName)) ∈ lwG := lwG_7 155 (by decide +kernel) (by decide +kernel)
theorem q7_156 : (Jvm.Cond.stringRef "java/util/Arrays" (337 : Nat) " > ") ∈ tables_1 := lwT_7 156 (by decide +kernel)
theorem q7_157 : (Jvm.Cond.methodLink "java/util/Arrays" (50 : Nat) ({ cls := "java/lang/StringBuilder", name := "append", desc := "(Ljava/lang/String;)Ljava/lang/StringBuilder;" } : Jvm.MethodName)) ∈ lwG := lwG_7 157 (by decide +kernel) (by decide +kernel)
theorem q7_158 : (Jvm.Cond.methodLink "java/util/Arrays" (61 : Nat) ({ cls := "java/lang/StringBuilder", name := "toString", desc := "()Ljava/lang/String;" } : Jvm.MethodName)) ∈ lwG := lwG_7 158 (by decide +kernel) (by decide +kernel)
theorem q7_159 : (Jvm.Cond.methodLink "java/util/Arrays" (65 : Nat) ({ cls := "java/lang/IllegalArgumentException", name := "<init>", desc := "(Ljava/lang/String;)V" } : Jvm.MethodName)) ∈ lwG := lwG_7 159 (by decide +kernel) (by decide +kernel)
theorem q7_160 : (Jvm.Cond.methodLink "java/lang/String" (1051 : Nat) ({ cls := "java/lang/StringUTF16", name := "compress", desc := "([BII)[B" } : Jvm.MethodName)) ∈ lwG := lwG_7 160 (by decide +kernel) (by decide +kernel)
theorem q7_161 : (Jvm.Cond.static ({ cls := "java/lang/StringUTF16", name := "compress", desc := "([BII)[B" } : Jvm.MethodName)) ∈ lwG := lwG_7 161 (by decide +kernel) (by decide +kernel)
theorem q7_162 : (Jvm.Cond.code ({ cls := "java/lang/StringUTF16", name := "compress", desc := "([BII)[B" } : Jvm.MethodName) prog_36_method_17_code (6 : Nat) (Option.some (Jvm.ClassFile.FieldType.array Jvm.ClassFile.FieldType.byte))) ∈ lwG := lwG_7 162 (by decide +kernel) (by decide +kernel)
theorem q7_163 : (Jvm.Cond.methodLink "java/lang/StringUTF16" (123 : Nat) ({ cls := "java/lang/StringUTF16", name := "compress", desc := "([BI[BII)I" } : Jvm.MethodName)) ∈ lwG := lwG_7 163 (by decide +kernel) (by decide +kernel)
theorem q7_164 : (Jvm.Cond.static ({ cls := "java/lang/StringUTF16", name := "compress", desc := "([BI[BII)I" } : Jvm.MethodName)) ∈ lwG := lwG_7 164 (by decide +kernel) (by decide +kernel)
theorem q7_165 : (Jvm.Cond.code ({ cls := "java/lang/StringUTF16", name := "compress", desc := "([BI[BII)I" } : Jvm.MethodName) prog_36_method_22_code (7 : Nat) (Option.some Jvm.ClassFile.FieldType.int)) ∈ lwG := lwG_7 165 (by decide +kernel) (by decide +kernel)
theorem q7_166 : (Jvm.Cond.methodLink "java/lang/StringUTF16" (126 : Nat) ({ cls := "java/util/Arrays", name := "copyOfRange", desc := "([BII)[B" } : Jvm.MethodName)) ∈ lwG := lwG_7 166 (by decide +kernel) (by decide +kernel)
theorem q7_167 : (Jvm.Cond.methodLink "java/lang/String" (47 : Nat) ({ cls := "java/lang/StringUTF16", name := "coderFromArrayLen", desc := "([BI)B" } : Jvm.MethodName)) ∈ lwG := lwG_7 167 (by decide +kernel) (by decide +kernel)
theorem q7_168 : (Jvm.Cond.static ({ cls := "java/lang/StringUTF16", name := "coderFromArrayLen", desc := "([BI)B" } : Jvm.MethodName)) ∈ lwG := lwG_7 168 (by decide +kernel) (by decide +kernel)
theorem q7_169 : (Jvm.Cond.code ({ cls := "java/lang/StringUTF16", name := "coderFromArrayLen", desc := "([BI)B" } : Jvm.MethodName) prog_36_method_15_code (2 : Nat) (Option.some Jvm.ClassFile.FieldType.byte)) ∈ lwG := lwG_7 169 (by decide +kernel) (by decide +kernel)
theorem q7_170 : (Jvm.Cond.fieldLink "java/lang/String" (9 : Nat) "java/lang/String" "value" "[B") ∈ lwG := lwG_7 170 (by decide +kernel) (by decide +kernel)
theorem q7_171 : (Jvm.Cond.fieldLink "java/lang/String" (15 : Nat) "java/lang/String" "coder" "B") ∈ lwG := lwG_7 171 (by decide +kernel) (by decide +kernel)
theorem q7_172 : (Jvm.Cond.lays "java/lang/String" "java/lang/String" "hash" "I") ∈ lwG := lwG_7 172 (by decide +kernel) (by decide +kernel)
theorem q7_173 : (Jvm.Cond.soleField "java/lang/String" "hash") ∈ tables_1 := lwT_7 173 (by decide +kernel)
theorem q7_174 : (Jvm.Cond.lays "java/lang/String" "java/lang/String" "hashIsZero" "Z") ∈ lwG := lwG_7 174 (by decide +kernel) (by decide +kernel)
theorem q7_175 : (Jvm.Cond.soleField "java/lang/String" "hashIsZero") ∈ tables_1 := lwT_7 175 (by decide +kernel)
theorem q7_176 : (Jvm.Cond.superclass "java/lang/String" "java/lang/Object") ∈ lwG := lwG_7 176 (by decide +kernel) (by decide +kernel)
theorem q7_177 : (Jvm.Cond.methodLink "TileWardenLaw" (228 : Nat) ({ cls := "TileWardenLaw", name := "ordered", desc := "(LTileWarden;I)Z" } : Jvm.MethodName)) ∈ lwG := lwG_7 177 (by decide +kernel) (by decide +kernel)
theorem q7_178 : (Jvm.Cond.static ({ cls := "TileWardenLaw", name := "ordered", desc := "(LTileWarden;I)Z" } : Jvm.MethodName)) ∈ lwG := lwG_7 178 (by decide +kernel) (by decide +kernel)
theorem q7_179 : (Jvm.Cond.code ({ cls := "TileWardenLaw", name := "ordered", desc := "(LTileWarden;I)Z" } : Jvm.MethodName) method_30_code (9 : Nat) (Option.some Jvm.ClassFile.FieldType.boolean)) ∈ lwG := lwG_7 179 (by decide +kernel) (by decide +kernel)
theorem q7_180 : (Jvm.Cond.methodLink "TileWardenLaw" (196 : Nat) ({ cls := "TileWarden", name := "isSound", desc := "()Z" } : Jvm.MethodName)) ∈ lwG := lwG_7 180 (by decide +kernel) (by decide +kernel)
theorem q7_181 : (Jvm.Cond.instanceMethod ({ cls := "TileWarden", name := "isSound", desc := "()Z" } : Jvm.MethodName)) ∈ lwG := lwG_7 181 (by decide +kernel) (by decide +kernel)
theorem q7_182 : (Jvm.Cond.selects "TileWarden" ({ cls := "TileWarden", name := "isSound", desc := "()Z" } : Jvm.MethodName) ({ cls := "TileWarden", name := "isSound", desc := "()Z" } : Jvm.MethodName)) ∈ lwG := lwG_7 182 (by decide +kernel) (by decide +kernel)
theorem q7_183 : (Jvm.Cond.code ({ cls := "TileWarden", name := "isSound", desc := "()Z" } : Jvm.MethodName) prog_1_method_30_code (1 : Nat) (Option.some Jvm.ClassFile.FieldType.boolean)) ∈ lwG := lwG_7 183 (by decide +kernel) (by decide +kernel)
theorem q7_184 : (Jvm.Cond.methodLink "TileWarden" (257 : Nat) ({ cls := "TileWarden", name := "areEntriesRight", desc := "()Z" } : Jvm.MethodName)) ∈ lwG := lwG_7 184 (by decide +kernel) (by decide +kernel)
theorem q7_185 : (Jvm.Cond.privateMethod ({ cls := "TileWarden", name := "areEntriesRight", desc := "()Z" } : Jvm.MethodName)) ∈ tables_1 := lwT_7 185 (by decide +kernel)
theorem q7_186 : (Jvm.Cond.instanceMethod ({ cls := "TileWarden", name := "areEntriesRight", desc := "()Z" } : Jvm.MethodName)) ∈ lwG := lwG_7 186 (by decide +kernel) (by decide +kernel)
theorem q7_187 : (Jvm.Cond.code ({ cls := "TileWarden", name := "areEntriesRight", desc := "()Z" } : Jvm.MethodName) prog_1_method_41_code (6 : Nat) (Option.some Jvm.ClassFile.FieldType.boolean)) ∈ lwG := lwG_7 187 (by decide +kernel) (by decide +kernel)
theorem q7_188 : (Jvm.Cond.methodLink "TileWarden" (335 : Nat) ({ cls := "TileWarden$Entry", name := "isFree", desc := "()Z" } : Jvm.MethodName)) ∈ lwG := lwG_7 188 (by decide +kernel) (by decide +kernel)
theorem q7_189 : (Jvm.Cond.methodLink "TileWarden" (338 : Nat) ({ cls := "TileWarden", name := "isFoundPlainly", desc := "(LTileWarden$Entry;)Z" } : Jvm.MethodName)) ∈ lwG := lwG_7 189 (by decide +kernel) (by decide +kernel)
theorem q7_190 : (Jvm.Cond.privateMethod ({ cls := "TileWarden", name := "isFoundPlainly", desc := "(LTileWarden$Entry;)Z" } : Jvm.MethodName)) ∈ tables_1 := lwT_7 190 (by decide +kernel)
theorem q7_191 : (Jvm.Cond.instanceMethod ({ cls := "TileWarden", name := "isFoundPlainly", desc := "(LTileWarden$Entry;)Z" } : Jvm.MethodName)) ∈ lwG := lwG_7 191 (by decide +kernel) (by decide +kernel)
theorem q7_192 : (Jvm.Cond.code ({ cls := "TileWarden", name := "isFoundPlainly", desc := "(LTileWarden$Entry;)Z" } : Jvm.MethodName) prog_1_method_42_code (3 : Nat) (Option.some Jvm.ClassFile.FieldType.boolean)) ∈ lwG := lwG_7 192 (by decide +kernel) (by decide +kernel)
theorem q7_193 : (Jvm.Cond.methodLink "TileWarden" (261 : Nat) ({ cls := "TileWarden", name := "areRefundsRight", desc := "()Z" } : Jvm.MethodName)) ∈ lwG := lwG_7 193 (by decide +kernel) (by decide +kernel)
theorem q7_194 : (Jvm.Cond.privateMethod ({ cls := "TileWarden", name := "areRefundsRight", desc := "()Z" } : Jvm.MethodName)) ∈ tables_1 := lwT_7 194 (by decide +kernel)
theorem q7_195 : (Jvm.Cond.instanceMethod ({ cls := "TileWarden", name := "areRefundsRight", desc := "()Z" } : Jvm.MethodName)) ∈ lwG := lwG_7 195 (by decide +kernel) (by decide +kernel)
theorem q7_196 : (Jvm.Cond.code ({ cls := "TileWarden", name := "areRefundsRight", desc := "()Z" } : Jvm.MethodName) prog_1_method_43_code (5 : Nat) (Option.some Jvm.ClassFile.FieldType.boolean)) ∈ lwG := lwG_7 196 (by decide +kernel) (by decide +kernel)
theorem q7_197 : (Jvm.Cond.methodLink "TileWarden" (264 : Nat) ({ cls := "TileWarden", name := "arePursesRight", desc := "()Z" } : Jvm.MethodName)) ∈ lwG := lwG_7 197 (by decide +kernel) (by decide +kernel)
theorem q7_198 : (Jvm.Cond.privateMethod ({ cls := "TileWarden", name := "arePursesRight", desc := "()Z" } : Jvm.MethodName)) ∈ tables_1 := lwT_7 198 (by decide +kernel)
theorem q7_199 : (Jvm.Cond.instanceMethod ({ cls := "TileWarden", name := "arePursesRight", desc := "()Z" } : Jvm.MethodName)) ∈ lwG := lwG_7 199 (by decide +kernel) (by decide +kernel)
theorem q7_200 : (Jvm.Cond.code ({ cls := "TileWarden", name := "arePursesRight", desc := "()Z" } : Jvm.MethodName) prog_1_method_44_code (3 : Nat) (Option.some Jvm.ClassFile.FieldType.boolean)) ∈ lwG := lwG_7 200 (by decide +kernel) (by decide +kernel)
theorem q7_201 : (Jvm.Cond.methodLink "TileWarden" (350 : Nat) ({ cls := "TileWarden", name := "paidForGood", desc := "(LTileWarden$Player;)I" } : Jvm.MethodName)) ∈ lwG := lwG_7 201 (by decide +kernel) (by decide +kernel)
theorem q7_202 : (Jvm.Cond.privateMethod ({ cls := "TileWarden", name := "paidForGood", desc := "(LTileWarden$Player;)I" } : Jvm.MethodName)) ∈ tables_1 := lwT_7 202 (by decide +kernel)
theorem q7_203 : (Jvm.Cond.instanceMethod ({ cls := "TileWarden", name := "paidForGood", desc := "(LTileWarden$Player;)I" } : Jvm.MethodName)) ∈ lwG := lwG_7 203 (by decide +kernel) (by decide +kernel)
theorem q7_204 : (Jvm.Cond.code ({ cls := "TileWarden", name := "paidForGood", desc := "(LTileWarden$Player;)I" } : Jvm.MethodName) prog_1_method_45_code (5 : Nat) (Option.some Jvm.ClassFile.FieldType.int)) ∈ lwG := lwG_7 204 (by decide +kernel) (by decide +kernel)
theorem q7_205 : (Jvm.Cond.methodLink "TileWardenLaw" (200 : Nat) ({ cls := "TileWardenLaw", name := "isOver", desc := "(LTileWarden;I)I" } : Jvm.MethodName)) ∈ lwG := lwG_7 205 (by decide +kernel) (by decide +kernel)
theorem q7_206 : (Jvm.Cond.static ({ cls := "TileWardenLaw", name := "isOver", desc := "(LTileWarden;I)I" } : Jvm.MethodName)) ∈ lwG := lwG_7 206 (by decide +kernel) (by decide +kernel)
theorem q7_207 : (Jvm.Cond.codeWith ({ cls := "TileWardenLaw", name := "isOver", desc := "(LTileWarden;I)I" } : Jvm.MethodName) method_10_code (3 : Nat) (Option.some Jvm.ClassFile.FieldType.int) [((0 : Nat), (13 : Nat), (14 : Nat), (22 : Nat))]) ∈ lwG := lwG_7 207 (by decide +kernel) (by decide +kernel)
theorem q7_208 : (Jvm.Cond.methodLink "TileWardenLaw" (43 : Nat) ({ cls := "TileWarden", name := "isOver", desc := "(I)Z" } : Jvm.MethodName)) ∈ lwG := lwG_7 208 (by decide +kernel) (by decide +kernel)
theorem q7_209 : (Jvm.Cond.instanceMethod ({ cls := "TileWarden", name := "isOver", desc := "(I)Z" } : Jvm.MethodName)) ∈ lwG := lwG_7 209 (by decide +kernel) (by decide +kernel)
theorem q7_210 : (Jvm.Cond.selects "TileWarden" ({ cls := "TileWarden", name := "isOver", desc := "(I)Z" } : Jvm.MethodName) ({ cls := "TileWarden", name := "isOver", desc := "(I)Z" } : Jvm.MethodName)) ∈ lwG := lwG_7 210 (by decide +kernel) (by decide +kernel)
theorem q7_211 : (Jvm.Cond.code ({ cls := "TileWarden", name := "isOver", desc := "(I)Z" } : Jvm.MethodName) prog_1_method_9_code (2 : Nat) (Option.some Jvm.ClassFile.FieldType.boolean)) ∈ lwG := lwG_7 211 (by decide +kernel) (by decide +kernel)
theorem q7_212 : (Jvm.Cond.methodLink "TileWardenLaw" (222 : Nat) ({ cls := "java/lang/String", name := "equals", desc := "(Ljava/lang/Object;)Z" } : Jvm.MethodName)) ∈ lwG := lwG_7 212 (by decide +kernel) (by decide +kernel)
theorem q7_213 : (Jvm.Cond.instanceMethod ({ cls := "java/lang/String", name := "equals", desc := "(Ljava/lang/Object;)Z" } : Jvm.MethodName)) ∈ lwG := lwG_7 213 (by decide +kernel) (by decide +kernel)
theorem q7_214 : (Jvm.Cond.selects "java/lang/String" ({ cls := "java/lang/String", name := "equals", desc := "(Ljava/lang/Object;)Z" } : Jvm.MethodName) ({ cls := "java/lang/String", name := "equals", desc := "(Ljava/lang/Object;)Z" } : Jvm.MethodName)) ∈ lwG := lwG_7 214 (by decide +kernel) (by decide +kernel)
theorem q7_215 : (Jvm.Cond.code ({ cls := "java/lang/String", name := "equals", desc := "(Ljava/lang/Object;)Z" } : Jvm.MethodName) prog_32_method_66_code (3 : Nat) (Option.some Jvm.ClassFile.FieldType.boolean)) ∈ lwG := lwG_7 215 (by decide +kernel) (by decide +kernel)
theorem q7_216 : (Jvm.Cond.classLink "java/lang/String" (10 : Nat) "java/lang/String") ∈ lwG := lwG_7 216 (by decide +kernel) (by decide +kernel)
theorem q7_217 : (Jvm.Cond.methodLink "java/lang/String" (541 : Nat) ({ cls := "java/lang/StringLatin1", name := "equals", desc := "([B[B)Z" } : Jvm.MethodName)) ∈ lwG := lwG_7 217 (by decide +kernel) (by decide +kernel)
theorem q7_218 : (Jvm.Cond.static ({ cls := "java/lang/StringLatin1", name := "equals", desc := "([B[B)Z" } : Jvm.MethodName)) ∈ lwG := lwG_7 218 (by decide +kernel) (by decide +kernel)
theorem q7_219 : (Jvm.Cond.code ({ cls := "java/lang/StringLatin1", name := "equals", desc := "([B[B)Z" } : Jvm.MethodName) prog_35_method_13_code (3 : Nat) (Option.some Jvm.ClassFile.FieldType.boolean)) ∈ lwG := lwG_7 219 (by decide +kernel) (by decide +kernel)
theorem q7_220 : (Jvm.Cond.sameMethod "java/lang/Throwable" "java/lang/Throwable" "fillInStackTrace" "(I)Ljava/lang/Throwable;") ∈ lwG := lwG_7 220 (by decide +kernel) (by decide +kernel)
theorem q7_221 : (Jvm.Cond.sameMethod "java/lang/AbstractStringBuilder" "java/lang/AbstractStringBuilder" "append" "(I)Ljava/lang/AbstractStringBuilder;") ∈ lwG := lwG_7 221 (by decide +kernel) (by decide +kernel)
theorem q7_222 : (Jvm.Cond.sameMethod "java/lang/AbstractStringBuilder" "java/lang/AbstractStringBuilder" "ensureCapacityInternal" "(I)V") ∈ lwG := lwG_7 222 (by decide +kernel) (by decide +kernel)
theorem q7_223 : (Jvm.Cond.sameMethod "java/lang/AbstractStringBuilder" "java/lang/AbstractStringBuilder" "newCapacity" "(I)I") ∈ lwG := lwG_7 223 (by decide +kernel) (by decide +kernel)
theorem q7_224 : (Jvm.Cond.sameMethod "java/lang/AbstractStringBuilder" "java/lang/AbstractStringBuilder" "append" "(C)Ljava/lang/AbstractStringBuilder;") ∈ lwG := lwG_7 224 (by decide +kernel) (by decide +kernel)
theorem q7_225 : (Jvm.Cond.sameMethod "java/lang/AbstractStringBuilder" "java/lang/AbstractStringBuilder" "inflate" "()V") ∈ lwG := lwG_7 225 (by decide +kernel) (by decide +kernel)
theorem q7_226 : (Jvm.Cond.sameMethod "java/lang/AbstractStringBuilder" "java/lang/AbstractStringBuilder" "append" "(J)Ljava/lang/AbstractStringBuilder;") ∈ lwG := lwG_7 226 (by decide +kernel) (by decide +kernel)
theorem q7_227 : (Jvm.Cond.sameMethod "java/lang/AbstractStringBuilder" "java/lang/AbstractStringBuilder" "append" "(F)Ljava/lang/AbstractStringBuilder;") ∈ lwG := lwG_7 227 (by decide +kernel) (by decide +kernel)
theorem q7_228 : (Jvm.Cond.sameMethod "java/lang/AbstractStringBuilder" "java/lang/AbstractStringBuilder" "append" "([C)Ljava/lang/AbstractStringBuilder;") ∈ lwG := lwG_7 228 (by decide +kernel) (by decide +kernel)
theorem q7_229 : (Jvm.Cond.sameMethod "java/lang/AbstractStringBuilder" "java/lang/AbstractStringBuilder" "appendChars" "([CII)V") ∈ lwG := lwG_7 229 (by decide +kernel) (by decide +kernel)
theorem q7_230 : (Jvm.Cond.sameMethod "java/lang/AbstractStringBuilder" "java/lang/AbstractStringBuilder" "append" "(Ljava/lang/CharSequence;)Ljava/lang/AbstractStringBuilder;") ∈ lwG := lwG_7 230 (by decide +kernel) (by decide +kernel)
theorem q7_231 : (Jvm.Cond.sameMethod "java/lang/AbstractStringBuilder" "java/lang/AbstractStringBuilder" "appendNull" "()Ljava/lang/AbstractStringBuilder;") ∈ lwG := lwG_7 231 (by decide +kernel) (by decide +kernel)
theorem q7_232 : (Jvm.Cond.sameMethod "java/lang/AbstractStringBuilder" "java/lang/AbstractStringBuilder" "putStringAt" "(ILjava/lang/String;)V") ∈ lwG := lwG_7 232 (by decide +kernel) (by decide +kernel)
theorem q7_233 : (Jvm.Cond.sameMethod "java/lang/AbstractStringBuilder" "java/lang/AbstractStringBuilder" "inflateIfNeededFor" "(Ljava/lang/String;)V") ∈ lwG := lwG_7 233 (by decide +kernel) (by decide +kernel)
theorem q7_234 : (Jvm.Cond.sameMethod "java/lang/AbstractStringBuilder" "java/lang/AbstractStringBuilder" "inflateIfNeededFor" "(Ljava/lang/AbstractStringBuilder;)V") ∈ lwG := lwG_7 234 (by decide +kernel) (by decide +kernel)
theorem q7_235 : (Jvm.Cond.sameMethod "java/lang/AbstractStringBuilder" "java/lang/AbstractStringBuilder" "appendChars" "(Ljava/lang/String;II)V") ∈ lwG := lwG_7 235 (by decide +kernel) (by decide +kernel)
theorem q7_236 : (Jvm.Cond.sameMethod "java/lang/AbstractStringBuilder" "java/lang/AbstractStringBuilder" "charAt" "(I)C") ∈ lwG := lwG_7 236 (by decide +kernel) (by decide +kernel)
theorem q7_237 : (Jvm.Cond.sameMethod "java/lang/AbstractStringBuilder" "java/lang/AbstractStringBuilder" "appendChars" "(Ljava/lang/CharSequence;II)V") ∈ lwG := lwG_7 237 (by decide +kernel) (by decide +kernel)
theorem q7_238 : (Jvm.Cond.sameMethod "java/lang/AbstractStringBuilder" "java/lang/AbstractStringBuilder" "append" "(D)Ljava/lang/AbstractStringBuilder;") ∈ lwG := lwG_7 238 (by decide +kernel) (by decide +kernel)
theorem q7_239 : (Jvm.Cond.castable "java/lang/ArrayIndexOutOfBoundsException" "java/lang/IndexOutOfBoundsException") ∈ tables_1 := lwT_7 239 (by decide +kernel)
theorem q8_0 : (Jvm.Cond.castable "java/lang/StringBuilder" "java/lang/AbstractStringBuilder") ∈ tables_1 := lwT_8 0 (by decide +kernel)
theorem q8_1 : (Jvm.Cond.castable "TileWarden$Entry" "java/lang/Object") ∈ tables_1 := lwT_8 1 (by decide +kernel)
theorem q8_2 : (Jvm.Cond.castable "TileWarden" "java/lang/Object") ∈ tables_1 := lwT_8 2 (by decide +kernel)
theorem q8_3 : (Jvm.Cond.castable "java/util/ArrayList" "java/lang/Object") ∈ tables_1 := lwT_8 3 (by decide +kernel)
theorem q8_4 : (Jvm.Cond.castable "TileWarden$Cache" "java/lang/Object") ∈ tables_1 := lwT_8 4 (by decide +kernel)
theorem q8_5 : (Jvm.Cond.castable "TileWarden$Search" "java/lang/Object") ∈ tables_1 := lwT_8 5 (by decide +kernel)
theorem q8_6 : (Jvm.Cond.castable "java/lang/IllegalArgumentException" "java/lang/Object") ∈ tables_1 := lwT_8 6 (by decide +kernel)
theorem q8_7 : (Jvm.Cond.castable "java/lang/IllegalStateException" "java/lang/Object") ∈ tables_1 := lwT_8 7 (by decide +kernel)
theorem q8_8 : (Jvm.Cond.castable "TileWarden$Player" "java/lang/Object") ∈ tables_1 := lwT_8 8 (by decide +kernel)
theorem q8_9 : (Jvm.Cond.castable "java/lang/ArrayIndexOutOfBoundsException" "java/lang/Object") ∈ tables_1 := lwT_8 9 (by decide +kernel)
theorem q8_10 : (Jvm.Cond.castable "java/lang/IndexOutOfBoundsException" "java/lang/Object") ∈ tables_1 := lwT_8 10 (by decide +kernel)
theorem q8_11 : (Jvm.Cond.castable "TileWarden$Game" "java/lang/Object") ∈ tables_1 := lwT_8 11 (by decide +kernel)
theorem q8_12 : (Jvm.Cond.castable "java/lang/UnsupportedOperationException" "java/lang/Object") ∈ tables_1 := lwT_8 12 (by decide +kernel)
theorem q8_13 : (Jvm.Cond.castable "java/util/NoSuchElementException" "java/lang/Object") ∈ tables_1 := lwT_8 13 (by decide +kernel)
theorem q8_14 : (Jvm.Cond.castable "TileWarden$Trace" "java/lang/Object") ∈ tables_1 := lwT_8 14 (by decide +kernel)
theorem q8_15 : (Jvm.Cond.castable "java/lang/ArithmeticException" "java/lang/Object") ∈ tables_1 := lwT_8 15 (by decide +kernel)
theorem q8_16 : (Jvm.Cond.castable "TileWardenLaw$Draw" "java/lang/Object") ∈ tables_1 := lwT_8 16 (by decide +kernel)
theorem q8_17 : (Jvm.Cond.castable "java/lang/StringBuilder" "java/lang/Object") ∈ tables_1 := lwT_8 17 (by decide +kernel)
theorem q8_18 : (Jvm.Cond.castable "jdk/internal/math/FloatToDecimal" "java/lang/Object") ∈ tables_1 := lwT_8 18 (by decide +kernel)
theorem q8_19 : (Jvm.Cond.castable "jdk/internal/math/DoubleToDecimal" "java/lang/Object") ∈ tables_1 := lwT_8 19 (by decide +kernel)
theorem q8_20 : (Jvm.Cond.castable "java/lang/String" "java/lang/Object") ∈ tables_1 := lwT_8 20 (by decide +kernel)
theorem q8_21 : (Jvm.Cond.castable "java/lang/Throwable" "java/lang/Object") ∈ tables_1 := lwT_8 21 (by decide +kernel)
theorem q8_22 : (Jvm.Cond.sameMethod "[Ljava/lang/Object;" "java/lang/Object" "getClass" "()Ljava/lang/Class;") ∈ lwG := lwG_8 22 (by decide +kernel) (by decide +kernel)
theorem q8_23 : (Jvm.Cond.selects "[Ljava/lang/Object;" ({ cls := "java/lang/Object", name := "getClass", desc := "()Ljava/lang/Class;" } : Jvm.MethodName) ({ cls := "java/lang/Object", name := "getClass", desc := "()Ljava/lang/Class;" } : Jvm.MethodName)) ∈ lwG := lwG_8 23 (by decide +kernel) (by decide +kernel)
theorem q8_24 : (Jvm.Cond.declares ({ cls := "java/lang/Object", name := "getClass", desc := "()Ljava/lang/Class;" } : Jvm.MethodName)) ∈ tables_1 := lwT_8 24 (by decide +kernel)
theorem q8_25 : (Jvm.Cond.castable "[LTileWarden$Entry;" "java/lang/Object") ∈ tables_1 := lwT_8 25 (by decide +kernel)
theorem q8_26 : (Jvm.Cond.castable "[B" "java/lang/Object") ∈ tables_1 := lwT_8 26 (by decide +kernel)
theorem q8_27 : (Jvm.Cond.castable "[Ljava/lang/Object;" "java/lang/Object") ∈ tables_1 := lwT_8 27 (by decide +kernel)
theorem q8_28 : (Jvm.Cond.castable "[C" "java/lang/Object") ∈ tables_1 := lwT_8 28 (by decide +kernel)
theorem q8_29 : (Jvm.Cond.fieldLink "java/lang/StringBuffer" (34 : Nat) "java/lang/StringBuffer" "toStringCache" "Ljava/lang/String;") ∈ lwG := lwG_8 29 (by decide +kernel) (by decide +kernel)
theorem q8_30 : (Jvm.Cond.fieldLink "jdk/internal/math/FormattedFPDecimal" (45 : Nat) "jdk/internal/math/FormattedFPDecimal" "f" "J") ∈ lwG := lwG_8 30 (by decide +kernel) (by decide +kernel)
theorem q8_31 : (Jvm.Cond.fieldLink "jdk/internal/math/FormattedFPDecimal" (49 : Nat) "jdk/internal/math/FormattedFPDecimal" "e" "I") ∈ lwG := lwG_8 31 (by decide +kernel) (by decide +kernel)
theorem q8_32 : (Jvm.Cond.fieldLink "jdk/internal/math/FormattedFPDecimal" (53 : Nat) "jdk/internal/math/FormattedFPDecimal" "n" "I") ∈ lwG := lwG_8 32 (by decide +kernel) (by decide +kernel)
theorem q8_33 : (Jvm.Cond.arrayClass Jvm.ClassFile.FieldType.long) ∈ lwG := lwG_8 33 (by decide +kernel) (by decide +kernel)
