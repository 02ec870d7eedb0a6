def RX0 : String := "PlatformsLeave$Changes"
def TX0 : u_T := fun k => match k with
  | 0 => ("PlatformsLeave$Changes", "sorts", "[I", true)
  | 1 => ("PlatformsLeave$Changes", "places", "[I", true)
  | 2 => ("PlatformsLeave$Changes", "before", "[I", true)
  | _ => ("PlatformsLeave$Changes", "size", "I", false)
def tyX0 : Nat → FieldType := fun k => match k with
  | 0 => .array .int
  | 1 => .array .int
  | 2 => .array .int
  | _ => .int
theorem nmX0 : ∀ a, a < 4 → ∀ b, b < 4 → a ≠ b → (TX0 a).2.1 ≠ (TX0 b).2.1 := by decide +kernel
theorem tyX0_ok : ∀ k, k < 4 → parseFieldDescriptor (TX0 k).2.2.1 = some (tyX0 k) := by decide +kernel
abbrev cX0_init : ByteArray := prog_2_method_1_code
def yX0_init : MethodName := ⟨RX0, "<init>", "()V"⟩
abbrev cX0_add : ByteArray := prog_2_method_2_code
def yX0_add : MethodName := ⟨RX0, "add", "(III)V"⟩
abbrev cX0_dropOldest : ByteArray := prog_2_method_3_code
def yX0_dropOldest : MethodName := ⟨RX0, "dropOldest", "()V"⟩
abbrev cX0_takeBack : ByteArray := prog_2_method_4_code
def yX0_takeBack : MethodName := ⟨RX0, "takeBack", "(LPlatformsLeave$Setting;)Z"⟩
def RX1 : String := "PlatformsLeave$Clues"
def TX1 : u_T := fun k => match k with
  | 0 => ("PlatformsLeave$Clues", "trains", "[I", true)
  | 1 => ("PlatformsLeave$Clues", "steps", "[I", true)
  | 2 => ("PlatformsLeave$Clues", "did", "[Z", true)
  | _ => ("PlatformsLeave$Clues", "size", "I", false)
def tyX1 : Nat → FieldType := fun k => match k with
  | 0 => .array .int
  | 1 => .array .int
  | 2 => .array .boolean
  | _ => .int
theorem nmX1 : ∀ a, a < 4 → ∀ b, b < 4 → a ≠ b → (TX1 a).2.1 ≠ (TX1 b).2.1 := by decide +kernel
theorem tyX1_ok : ∀ k, k < 4 → parseFieldDescriptor (TX1 k).2.2.1 = some (tyX1 k) := by decide +kernel
abbrev cX1_init : ByteArray := prog_3_method_1_code
def yX1_init : MethodName := ⟨RX1, "<init>", "()V"⟩
abbrev cX1_add : ByteArray := prog_3_method_2_code
def yX1_add : MethodName := ⟨RX1, "add", "(IIZ)Z"⟩
abbrev cX1_fit : ByteArray := prog_3_method_3_code
def yX1_fit : MethodName := ⟨RX1, "fit", "(LPlatformsLeave$Run;)Z"⟩
abbrev cX1_fitNow : ByteArray := prog_3_method_4_code
def yX1_fitNow : MethodName := ⟨RX1, "fitNow", "(LPlatformsLeave$Run;)Z"⟩
abbrev cX1_lastStep : ByteArray := prog_3_method_5_code
def yX1_lastStep : MethodName := ⟨RX1, "lastStep", "()I"⟩
def RX2 : String := "PlatformsLeave$Kept"
def TX2 : u_T := fun k => match k with
  | 0 => ("PlatformsLeave$Kept", "settings", "[LPlatformsLeave$Setting;", true)
  | _ => ("PlatformsLeave$Kept", "size", "I", false)
def tyX2 : Nat → FieldType := fun k => match k with
  | 0 => .array (.object "PlatformsLeave$Setting")
  | _ => .int
theorem nmX2 : ∀ a, a < 2 → ∀ b, b < 2 → a ≠ b → (TX2 a).2.1 ≠ (TX2 b).2.1 := by decide +kernel
theorem tyX2_ok : ∀ k, k < 2 → parseFieldDescriptor (TX2 k).2.2.1 = some (tyX2 k) := by decide +kernel
abbrev cX2_init : ByteArray := prog_4_method_1_code
def yX2_init : MethodName := ⟨RX2, "<init>", "()V"⟩
abbrev cX2_add : ByteArray := prog_4_method_2_code
def yX2_add : MethodName := ⟨RX2, "add", "(LPlatformsLeave$Setting;)Z"⟩
abbrev cX2_giveBack : ByteArray := prog_4_method_3_code
def yX2_giveBack : MethodName := ⟨RX2, "giveBack", "(LPlatformsLeave$Setting;)Z"⟩
def RX3 : String := "PlatformsLeave$Line"
def TX3 : u_T := fun k => match k with
  | 0 => ("PlatformsLeave$Line", "cells", "I", false)
  | 1 => ("PlatformsLeave$Line", "trains", "I", false)
  | 2 => ("PlatformsLeave$Line", "platforms", "I", false)
  | 3 => ("PlatformsLeave$Line", "down", "I", false)
  | 4 => ("PlatformsLeave$Line", "rain", "I", false)
  | 5 => ("PlatformsLeave$Line", "stands", "[I", true)
  | 6 => ("PlatformsLeave$Line", "kinds", "[I", true)
  | 7 => ("PlatformsLeave$Line", "places", "[I", true)
  | _ => ("PlatformsLeave$Line", "setting", "LPlatformsLeave$Setting;", true)
def tyX3 : Nat → FieldType := fun k => match k with
  | 0 => .int
  | 1 => .int
  | 2 => .int
  | 3 => .int
  | 4 => .int
  | 5 => .array .int
  | 6 => .array .int
  | 7 => .array .int
  | _ => .object "PlatformsLeave$Setting"
theorem nmX3 : ∀ a, a < 9 → ∀ b, b < 9 → a ≠ b → (TX3 a).2.1 ≠ (TX3 b).2.1 := by decide +kernel
theorem tyX3_ok : ∀ k, k < 9 → parseFieldDescriptor (TX3 k).2.2.1 = some (tyX3 k) := by decide +kernel
abbrev cX3_init : ByteArray := prog_5_method_1_code
def yX3_init : MethodName := ⟨RX3, "<init>", "()V"⟩
abbrev cX3_clear : ByteArray := prog_5_method_2_code
def yX3_clear : MethodName := ⟨RX3, "clear", "()V"⟩
abbrev cX3_hasCell : ByteArray := prog_5_method_3_code
def yX3_hasCell : MethodName := ⟨RX3, "hasCell", "(I)Z"⟩
abbrev cX3_hasTrain : ByteArray := prog_5_method_4_code
def yX3_hasTrain : MethodName := ⟨RX3, "hasTrain", "(I)Z"⟩
abbrev cX3_hasPlatform : ByteArray := prog_5_method_5_code
def yX3_hasPlatform : MethodName := ⟨RX3, "hasPlatform", "(I)Z"⟩
abbrev cX3_toldIn : ByteArray := prog_5_method_6_code
def yX3_toldIn : MethodName := ⟨RX3, "toldIn", "(I)I"⟩
abbrev cX3_standsIn : ByteArray := prog_5_method_7_code
def yX3_standsIn : MethodName := ⟨RX3, "standsIn", "(I)Z"⟩
abbrev cX3_addRing : ByteArray := prog_5_method_8_code
def yX3_addRing : MethodName := ⟨RX3, "addRing", "(I)Z"⟩
abbrev cX3_addTrain : ByteArray := prog_5_method_9_code
def yX3_addTrain : MethodName := ⟨RX3, "addTrain", "(I)Z"⟩
abbrev cX3_addPlatform : ByteArray := prog_5_method_10_code
def yX3_addPlatform : MethodName := ⟨RX3, "addPlatform", "(IIII)Z"⟩
abbrev cX3_addPassing : ByteArray := prog_5_method_11_code
def yX3_addPassing : MethodName := ⟨RX3, "addPassing", "(I)Z"⟩
abbrev cX3_addRain : ByteArray := prog_5_method_12_code
def yX3_addRain : MethodName := ⟨RX3, "addRain", "(I)Z"⟩
abbrev cX3_nextCell : ByteArray := prog_5_method_13_code
def yX3_nextCell : MethodName := ⟨RX3, "nextCell", "(IZ)I"⟩
abbrev cX3_byRound : ByteArray := prog_5_method_14_code
def yX3_byRound : MethodName := ⟨RX3, "byRound", "(I)I"⟩
def RX4 : String := "PlatformsLeave$Rider"
def TX4 : u_T := fun k => match k with
  | 0 => ("PlatformsLeave$Rider", "run", "LPlatformsLeave$Run;", true)
  | 1 => ("PlatformsLeave$Rider", "onTrain", "[I", true)
  | _ => ("PlatformsLeave$Rider", "onPlatform", "[I", true)
def tyX4 : Nat → FieldType := fun k => match k with
  | 0 => .object "PlatformsLeave$Run"
  | 1 => .array .int
  | _ => .array .int
theorem nmX4 : ∀ a, a < 3 → ∀ b, b < 3 → a ≠ b → (TX4 a).2.1 ≠ (TX4 b).2.1 := by decide +kernel
theorem tyX4_ok : ∀ k, k < 3 → parseFieldDescriptor (TX4 k).2.2.1 = some (tyX4 k) := by decide +kernel
abbrev cX4_init : ByteArray := prog_6_method_1_code
def yX4_init : MethodName := ⟨RX4, "<init>", "(LPlatformsLeave$Run;)V"⟩
abbrev cX4_ride : ByteArray := prog_6_method_2_code
def yX4_ride : MethodName := ⟨RX4, "ride", "(II)I"⟩
abbrev cX4_change : ByteArray := prog_6_method_3_code
def yX4_change : MethodName := ⟨RX4, "change", "()V"⟩
abbrev cX4_getOn : ByteArray := prog_6_method_4_code
def yX4_getOn : MethodName := ⟨RX4, "getOn", "()V"⟩
abbrev cX4_getOff : ByteArray := prog_6_method_5_code
def yX4_getOff : MethodName := ⟨RX4, "getOff", "()V"⟩
def RX5 : String := "PlatformsLeave$Run"
def TX5 : u_T := fun k => match k with
  | 0 => ("PlatformsLeave$Run", "line", "LPlatformsLeave$Line;", true)
  | 1 => ("PlatformsLeave$Run", "setting", "LPlatformsLeave$Setting;", true)
  | 2 => ("PlatformsLeave$Run", "at", "[I", true)
  | 3 => ("PlatformsLeave$Run", "waited", "[I", true)
  | 4 => ("PlatformsLeave$Run", "wet", "[I", true)
  | 5 => ("PlatformsLeave$Run", "lastWent", "[I", true)
  | 6 => ("PlatformsLeave$Run", "lastCalled", "[I", true)
  | 7 => ("PlatformsLeave$Run", "inCell", "[I", true)
  | 8 => ("PlatformsLeave$Run", "down", "I", false)
  | 9 => ("PlatformsLeave$Run", "step", "I", false)
  | 10 => ("PlatformsLeave$Run", "waits", "I", false)
  | _ => ("PlatformsLeave$Run", "firstFull", "I", false)
def tyX5 : Nat → FieldType := fun k => match k with
  | 0 => .object "PlatformsLeave$Line"
  | 1 => .object "PlatformsLeave$Setting"
  | 2 => .array .int
  | 3 => .array .int
  | 4 => .array .int
  | 5 => .array .int
  | 6 => .array .int
  | 7 => .array .int
  | 8 => .int
  | 9 => .int
  | 10 => .int
  | _ => .int
theorem nmX5 : ∀ a, a < 12 → ∀ b, b < 12 → a ≠ b → (TX5 a).2.1 ≠ (TX5 b).2.1 := by decide +kernel
theorem tyX5_ok : ∀ k, k < 12 → parseFieldDescriptor (TX5 k).2.2.1 = some (tyX5 k) := by decide +kernel
abbrev cX5_init : ByteArray := prog_7_method_1_code
def yX5_init : MethodName := ⟨RX5, "<init>", "(LPlatformsLeave$Line;)V"⟩
abbrev cX5_begin : ByteArray := prog_7_method_2_code
def yX5_begin : MethodName := ⟨RX5, "begin", "()V"⟩
abbrev cX5_goTo : ByteArray := prog_7_method_3_code
def yX5_goTo : MethodName := ⟨RX5, "goTo", "(I)V"⟩
abbrev cX5_goOn : ByteArray := prog_7_method_4_code
def yX5_goOn : MethodName := ⟨RX5, "goOn", "()V"⟩
abbrev cX5_wantsOn : ByteArray := prog_7_method_5_code
def yX5_wantsOn : MethodName := ⟨RX5, "wantsOn", "(I)Z"⟩
abbrev cX5_move : ByteArray := prog_7_method_6_code
def yX5_move : MethodName := ⟨RX5, "move", "(I)V"⟩
abbrev cX5_goesIn : ByteArray := prog_7_method_7_code
def yX5_goesIn : MethodName := ⟨RX5, "goesIn", "(I)Z"⟩
abbrev cX5_isAt : ByteArray := prog_7_method_8_code
def yX5_isAt : MethodName := ⟨RX5, "isAt", "(II)Z"⟩
abbrev cX5_someAt : ByteArray := prog_7_method_9_code
def yX5_someAt : MethodName := ⟨RX5, "someAt", "(I)Z"⟩
abbrev cX5_cellsUpTo : ByteArray := prog_7_method_10_code
def yX5_cellsUpTo : MethodName := ⟨RX5, "cellsUpTo", "(II)I"⟩
abbrev cX5_firstAt : ByteArray := prog_7_method_11_code
def yX5_firstAt : MethodName := ⟨RX5, "firstAt", "(II)I"⟩
abbrev cX5_hangs : ByteArray := prog_7_method_12_code
def yX5_hangs : MethodName := ⟨RX5, "hangs", "(I)Z"⟩
abbrev cX5_comesInFlood : ByteArray := prog_7_method_13_code
def yX5_comesInFlood : MethodName := ⟨RX5, "comesInFlood", "(IIII)Z"⟩
abbrev cX5_twosAt : ByteArray := prog_7_method_14_code
def yX5_twosAt : MethodName := ⟨RX5, "twosAt", "()I"⟩
def RX6 : String := "PlatformsLeave$Setting"
def TX6 : u_T := fun k => match k with
  | 0 => ("PlatformsLeave$Setting", "starts", "[I", true)
  | 1 => ("PlatformsLeave$Setting", "held", "I", false)
  | _ => ("PlatformsLeave$Setting", "passing", "I", false)
def tyX6 : Nat → FieldType := fun k => match k with
  | 0 => .array .int
  | 1 => .int
  | _ => .int
theorem nmX6 : ∀ a, a < 3 → ∀ b, b < 3 → a ≠ b → (TX6 a).2.1 ≠ (TX6 b).2.1 := by decide +kernel
theorem tyX6_ok : ∀ k, k < 3 → parseFieldDescriptor (TX6 k).2.2.1 = some (tyX6 k) := by decide +kernel
abbrev cX6_init : ByteArray := prog_8_method_1_code
def yX6_init : MethodName := ⟨RX6, "<init>", "()V"⟩
abbrev cX6_copy : ByteArray := prog_8_method_2_code
def yX6_copy : MethodName := ⟨RX6, "copy", "(LPlatformsLeave$Setting;)V"⟩
def RX7 : String := "PlatformsLeave$Text"
def TX7 : u_T := fun k => match k with
  | 0 => ("PlatformsLeave$Text", "letters", "[C", true)
  | 1 => ("PlatformsLeave$Text", "numbers", "[I", true)
  | 2 => ("PlatformsLeave$Text", "length", "I", false)
  | 3 => ("PlatformsLeave$Text", "next", "I", false)
  | _ => ("PlatformsLeave$Text", "ringOnly", "Z", false)
def tyX7 : Nat → FieldType := fun k => match k with
  | 0 => .array .char
  | 1 => .array .int
  | 2 => .int
  | 3 => .int
  | _ => .boolean
theorem nmX7 : ∀ a, a < 5 → ∀ b, b < 5 → a ≠ b → (TX7 a).2.1 ≠ (TX7 b).2.1 := by decide +kernel
theorem tyX7_ok : ∀ k, k < 5 → parseFieldDescriptor (TX7 k).2.2.1 = some (tyX7 k) := by decide +kernel
abbrev cX7_init : ByteArray := prog_9_method_1_code
def yX7_init : MethodName := ⟨RX7, "<init>", "()V"⟩
abbrev cX7_add : ByteArray := prog_9_method_2_code
def yX7_add : MethodName := ⟨RX7, "add", "(C)Z"⟩
abbrev cX7_addAll : ByteArray := prog_9_method_3_code
def yX7_addAll : MethodName := ⟨RX7, "addAll", "(Ljava/lang/String;)V"⟩
abbrev cX7_readInto : ByteArray := prog_9_method_4_code
def yX7_readInto : MethodName := ⟨RX7, "readInto", "(LPlatformsLeave$Line;)I"⟩
abbrev cX7_readItem : ByteArray := prog_9_method_5_code
def yX7_readItem : MethodName := ⟨RX7, "readItem", "(LPlatformsLeave$Line;)Z"⟩
abbrev cX7_readNumber : ByteArray := prog_9_method_6_code
def yX7_readNumber : MethodName := ⟨RX7, "readNumber", "(IC)Z"⟩
abbrev cX7_isFigure : ByteArray := prog_9_method_7_code
def yX7_isFigure : MethodName := ⟨RX7, "isFigure", "(C)Z"⟩
def RX8 : String := "PlatformsLeave"
def TX8 : u_T := fun k => match k with
  | 0 => ("PlatformsLeave", "text", "LPlatformsLeave$Text;", true)
  | 1 => ("PlatformsLeave", "line", "LPlatformsLeave$Line;", true)
  | 2 => ("PlatformsLeave", "draft", "LPlatformsLeave$Line;", true)
  | 3 => ("PlatformsLeave", "changes", "LPlatformsLeave$Changes;", true)
  | 4 => ("PlatformsLeave", "kept", "LPlatformsLeave$Kept;", true)
  | 5 => ("PlatformsLeave", "clues", "LPlatformsLeave$Clues;", true)
  | 6 => ("PlatformsLeave", "run", "LPlatformsLeave$Run;", true)
  | _ => ("PlatformsLeave", "rider", "LPlatformsLeave$Rider;", true)
def tyX8 : Nat → FieldType := fun k => match k with
  | 0 => .object "PlatformsLeave$Text"
  | 1 => .object "PlatformsLeave$Line"
  | 2 => .object "PlatformsLeave$Line"
  | 3 => .object "PlatformsLeave$Changes"
  | 4 => .object "PlatformsLeave$Kept"
  | 5 => .object "PlatformsLeave$Clues"
  | 6 => .object "PlatformsLeave$Run"
  | _ => .object "PlatformsLeave$Rider"
theorem nmX8 : ∀ a, a < 8 → ∀ b, b < 8 → a ≠ b → (TX8 a).2.1 ≠ (TX8 b).2.1 := by decide +kernel
theorem tyX8_ok : ∀ k, k < 8 → parseFieldDescriptor (TX8 k).2.2.1 = some (tyX8 k) := by decide +kernel
abbrev cX8_init : ByteArray := prog_1_method_1_code
def yX8_init : MethodName := ⟨RX8, "<init>", "()V"⟩
abbrev cX8_write : ByteArray := prog_1_method_2_code
def yX8_write : MethodName := ⟨RX8, "write", "(I)I"⟩
abbrev cX8_wipe : ByteArray := prog_1_method_3_code
def yX8_wipe : MethodName := ⟨RX8, "wipe", "()I"⟩
abbrev cX8_fault : ByteArray := prog_1_method_4_code
def yX8_fault : MethodName := ⟨RX8, "fault", "()I"⟩
abbrev cX8_lay : ByteArray := prog_1_method_5_code
def yX8_lay : MethodName := ⟨RX8, "lay", "()I"⟩
abbrev cX8_platform : ByteArray := prog_1_method_6_code
def yX8_platform : MethodName := ⟨RX8, "platform", "(II)I"⟩
abbrev cX8_train : ByteArray := prog_1_method_7_code
def yX8_train : MethodName := ⟨RX8, "train", "(I)I"⟩
abbrev cX8_cell : ByteArray := prog_1_method_8_code
def yX8_cell : MethodName := ⟨RX8, "cell", "(II)I"⟩
abbrev cX8_start : ByteArray := prog_1_method_9_code
def yX8_start : MethodName := ⟨RX8, "start", "(II)I"⟩
abbrev cX8_hold : ByteArray := prog_1_method_10_code
def yX8_hold : MethodName := ⟨RX8, "hold", "(I)I"⟩
abbrev cX8_pass : ByteArray := prog_1_method_11_code
def yX8_pass : MethodName := ⟨RX8, "pass", "(I)I"⟩
abbrev cX8_undo : ByteArray := prog_1_method_12_code
def yX8_undo : MethodName := ⟨RX8, "undo", "()I"⟩
abbrev cX8_where : ByteArray := prog_1_method_13_code
def yX8_where : MethodName := ⟨RX8, "where", "(III)I"⟩
abbrev cX8_first : ByteArray := prog_1_method_14_code
def yX8_first : MethodName := ⟨RX8, "first", "(II)I"⟩
abbrev cX8_hang : ByteArray := prog_1_method_15_code
def yX8_hang : MethodName := ⟨RX8, "hang", "()I"⟩
abbrev cX8_trip : ByteArray := prog_1_method_16_code
def yX8_trip : MethodName := ⟨RX8, "trip", "(III)I"⟩
abbrev cX8_best : ByteArray := prog_1_method_17_code
def yX8_best : MethodName := ⟨RX8, "best", "(III)I"⟩
abbrev cX8_places : ByteArray := prog_1_method_18_code
def yX8_places : MethodName := ⟨RX8, "places", "(I)I"⟩
abbrev cX8_came : ByteArray := prog_1_method_19_code
def yX8_came : MethodName := ⟨RX8, "came", "(IIZ)I"⟩
abbrev cX8_forget : ByteArray := prog_1_method_20_code
def yX8_forget : MethodName := ⟨RX8, "forget", "()I"⟩
abbrev cX8_fits : ByteArray := prog_1_method_21_code
def yX8_fits : MethodName := ⟨RX8, "fits", "(I)I"⟩
abbrev cX8_from : ByteArray := prog_1_method_22_code
def yX8_from : MethodName := ⟨RX8, "from", "(IIII)I"⟩
abbrev cX8_clocks : ByteArray := prog_1_method_23_code
def yX8_clocks : MethodName := ⟨RX8, "clocks", "(III)I"⟩
abbrev cX8_floods : ByteArray := prog_1_method_24_code
def yX8_floods : MethodName := ⟨RX8, "floods", "(IIIII)I"⟩
abbrev cX8_day : ByteArray := prog_1_method_25_code
def yX8_day : MethodName := ⟨RX8, "day", "(II)I"⟩
abbrev cX8_keep : ByteArray := prog_1_method_26_code
def yX8_keep : MethodName := ⟨RX8, "keep", "()I"⟩
abbrev cX8_back : ByteArray := prog_1_method_27_code
def yX8_back : MethodName := ⟨RX8, "back", "()I"⟩
abbrev cX8_count : ByteArray := prog_1_method_28_code
def yX8_count : MethodName := ⟨RX8, "count", "(I)I"⟩
abbrev cX8_isEither : ByteArray := prog_1_method_29_code
def yX8_isEither : MethodName := ⟨RX8, "isEither", "(I)Z"⟩
abbrev cX8_bit : ByteArray := prog_1_method_30_code
def yX8_bit : MethodName := ⟨RX8, "bit", "(II)I"⟩
abbrev cX8_fewestPlaces : ByteArray := prog_1_method_31_code
def yX8_fewestPlaces : MethodName := ⟨RX8, "fewestPlaces", "()I"⟩
abbrev cX8_kthOf : ByteArray := prog_1_method_32_code
def yX8_kthOf : MethodName := ⟨RX8, "kthOf", "(II)I"⟩
abbrev cX8_floodWeight : ByteArray := prog_1_method_33_code
def yX8_floodWeight : MethodName := ⟨RX8, "floodWeight", "(III)I"⟩
abbrev cX8_commonDivisor : ByteArray := prog_1_method_34_code
def yX8_commonDivisor : MethodName := ⟨RX8, "commonDivisor", "(II)I"⟩
abbrev cX8_drawnStart : ByteArray := prog_1_method_35_code
def yX8_drawnStart : MethodName := ⟨RX8, "drawnStart", "(II)I"⟩
def RX9 : String := "PlatformsLeaveModel"
def TX9 : u_T := fun k => match k with
  | 0 => ("PlatformsLeaveModel", "text", "[I", true)
  | 1 => ("PlatformsLeaveModel", "typed", "I", false)
  | 2 => ("PlatformsLeaveModel", "told", "[I", true)
  | 3 => ("PlatformsLeaveModel", "draft", "[I", true)
  | 4 => ("PlatformsLeaveModel", "begun", "[I", true)
  | 5 => ("PlatformsLeaveModel", "s", "[I", true)
  | 6 => ("PlatformsLeaveModel", "past", "[I", true)
  | 7 => ("PlatformsLeaveModel", "known", "I", false)
  | 8 => ("PlatformsLeaveModel", "images", "[I", true)
  | 9 => ("PlatformsLeaveModel", "kept", "I", false)
  | 10 => ("PlatformsLeaveModel", "cames", "[I", true)
  | 11 => ("PlatformsLeaveModel", "comes", "I", false)
  | 12 => ("PlatformsLeaveModel", "at", "I", false)
  | 13 => ("PlatformsLeaveModel", "cells", "[I", true)
  | 14 => ("PlatformsLeaveModel", "waited", "[I", true)
  | 15 => ("PlatformsLeaveModel", "wet", "[I", true)
  | 16 => ("PlatformsLeaveModel", "ways", "[I", true)
  | 17 => ("PlatformsLeaveModel", "stops", "I", false)
  | 18 => ("PlatformsLeaveModel", "went", "I", false)
  | 19 => ("PlatformsLeaveModel", "waits", "I", false)
  | 20 => ("PlatformsLeaveModel", "flooded", "I", false)
  | 21 => ("PlatformsLeaveModel", "floods", "I", false)
  | 22 => ("PlatformsLeaveModel", "last", "I", false)
  | 23 => ("PlatformsLeaveModel", "onTrain", "[I", true)
  | 24 => ("PlatformsLeaveModel", "onPlatform", "[I", true)
  | _ => ("PlatformsLeaveModel", "held", "[I", true)
def tyX9 : Nat → FieldType := fun k => match k with
  | 0 => .array .int
  | 1 => .int
  | 2 => .array .int
  | 3 => .array .int
  | 4 => .array .int
  | 5 => .array .int
  | 6 => .array .int
  | 7 => .int
  | 8 => .array .int
  | 9 => .int
  | 10 => .array .int
  | 11 => .int
  | 12 => .int
  | 13 => .array .int
  | 14 => .array .int
  | 15 => .array .int
  | 16 => .array .int
  | 17 => .int
  | 18 => .int
  | 19 => .int
  | 20 => .int
  | 21 => .int
  | 22 => .int
  | 23 => .array .int
  | 24 => .array .int
  | _ => .array .int
theorem nmX9 : ∀ a, a < 26 → ∀ b, b < 26 → a ≠ b → (TX9 a).2.1 ≠ (TX9 b).2.1 := by decide +kernel
theorem tyX9_ok : ∀ k, k < 26 → parseFieldDescriptor (TX9 k).2.2.1 = some (tyX9 k) := by decide +kernel
abbrev cX9_init : ByteArray := prog_11_method_1_code
def yX9_init : MethodName := ⟨RX9, "<init>", "()V"⟩
abbrev cX9_in : ByteArray := prog_11_method_3_code
def yX9_in : MethodName := ⟨RX9, "in", "(III)Z"⟩
abbrev cX9_isTrain : ByteArray := prog_11_method_4_code
def yX9_isTrain : MethodName := ⟨RX9, "isTrain", "(I)Z"⟩
abbrev cX9_isPlatform : ByteArray := prog_11_method_5_code
def yX9_isPlatform : MethodName := ⟨RX9, "isPlatform", "(I)Z"⟩
abbrev cX9_isCell : ByteArray := prog_11_method_6_code
def yX9_isCell : MethodName := ⟨RX9, "isCell", "(I)Z"⟩
abbrev cX9_ones : ByteArray := prog_11_method_7_code
def yX9_ones : MethodName := ⟨RX9, "ones", "(I)I"⟩
abbrev cX9_write : ByteArray := prog_11_method_8_code
def yX9_write : MethodName := ⟨RX9, "write", "(I)I"⟩
abbrev cX9_wipe : ByteArray := prog_11_method_9_code
def yX9_wipe : MethodName := ⟨RX9, "wipe", "()I"⟩
abbrev cX9_letterAt : ByteArray := prog_11_method_10_code
def yX9_letterAt : MethodName := ⟨RX9, "letterAt", "(I)I"⟩
abbrev cX9_isFigure : ByteArray := prog_11_method_11_code
def yX9_isFigure : MethodName := ⟨RX9, "isFigure", "(I)Z"⟩
abbrev cX9_number : ByteArray := prog_11_method_12_code
def yX9_number : MethodName := ⟨RX9, "number", "(III)I"⟩
abbrev cX9_begins : ByteArray := prog_11_method_13_code
def yX9_begins : MethodName := ⟨RX9, "begins", "()V"⟩
abbrev cX9_trainOf : ByteArray := prog_11_method_14_code
def yX9_trainOf : MethodName := ⟨RX9, "trainOf", "(I)V"⟩
abbrev cX9_platformOf : ByteArray := prog_11_method_15_code
def yX9_platformOf : MethodName := ⟨RX9, "platformOf", "(IIII)V"⟩
abbrev cX9_readsPlatform : ByteArray := prog_11_method_16_code
def yX9_readsPlatform : MethodName := ⟨RX9, "readsPlatform", "()Z"⟩
abbrev cX9_readsItem : ByteArray := prog_11_method_17_code
def yX9_readsItem : MethodName := ⟨RX9, "readsItem", "(I)Z"⟩
abbrev cX9_readsAll : ByteArray := prog_11_method_18_code
def yX9_readsAll : MethodName := ⟨RX9, "readsAll", "()I"⟩
abbrev cX9_fault : ByteArray := prog_11_method_19_code
def yX9_fault : MethodName := ⟨RX9, "fault", "()I"⟩
abbrev cX9_lays : ByteArray := prog_11_method_20_code
def yX9_lays : MethodName := ⟨RX9, "lays", "()V"⟩
abbrev cX9_lay : ByteArray := prog_11_method_21_code
def yX9_lay : MethodName := ⟨RX9, "lay", "()I"⟩
abbrev cX9_platform : ByteArray := prog_11_method_22_code
def yX9_platform : MethodName := ⟨RX9, "platform", "(II)I"⟩
abbrev cX9_train : ByteArray := prog_11_method_23_code
def yX9_train : MethodName := ⟨RX9, "train", "(I)I"⟩
abbrev cX9_cell : ByteArray := prog_11_method_24_code
def yX9_cell : MethodName := ⟨RX9, "cell", "(II)I"⟩
abbrev cX9_keeps : ByteArray := prog_11_method_25_code
def yX9_keeps : MethodName := ⟨RX9, "keeps", "()V"⟩
abbrev cX9_start : ByteArray := prog_11_method_26_code
def yX9_start : MethodName := ⟨RX9, "start", "(II)I"⟩
abbrev cX9_hold : ByteArray := prog_11_method_27_code
def yX9_hold : MethodName := ⟨RX9, "hold", "(I)I"⟩
abbrev cX9_pass : ByteArray := prog_11_method_28_code
def yX9_pass : MethodName := ⟨RX9, "pass", "(I)I"⟩
abbrev cX9_undo : ByteArray := prog_11_method_29_code
def yX9_undo : MethodName := ⟨RX9, "undo", "()I"⟩
abbrev cX9_isTrainAt : ByteArray := prog_11_method_30_code
def yX9_isTrainAt : MethodName := ⟨RX9, "isTrainAt", "(I)Z"⟩
abbrev cX9_others : ByteArray := prog_11_method_31_code
def yX9_others : MethodName := ⟨RX9, "others", "(III)I"⟩
abbrev cX9_isHeld : ByteArray := prog_11_method_32_code
def yX9_isHeld : MethodName := ⟨RX9, "isHeld", "(II)Z"⟩
abbrev cX9_moves : ByteArray := prog_11_method_33_code
def yX9_moves : MethodName := ⟨RX9, "moves", "(II)Z"⟩
abbrev cX9_goes : ByteArray := prog_11_method_34_code
def yX9_goes : MethodName := ⟨RX9, "goes", "(III)V"⟩
abbrev cX9_ends : ByteArray := prog_11_method_35_code
def yX9_ends : MethodName := ⟨RX9, "ends", "(I)V"⟩
abbrev cX9_runs : ByteArray := prog_11_method_36_code
def yX9_runs : MethodName := ⟨RX9, "runs", "()V"⟩
abbrev cX9_where : ByteArray := prog_11_method_37_code
def yX9_where : MethodName := ⟨RX9, "where", "(III)I"⟩
abbrev cX9_isAt : ByteArray := prog_11_method_38_code
def yX9_isAt : MethodName := ⟨RX9, "isAt", "(III)Z"⟩
abbrev cX9_firstAt : ByteArray := prog_11_method_39_code
def yX9_firstAt : MethodName := ⟨RX9, "firstAt", "(II)I"⟩
abbrev cX9_first : ByteArray := prog_11_method_40_code
def yX9_first : MethodName := ⟨RX9, "first", "(II)I"⟩
abbrev cX9_hang : ByteArray := prog_11_method_41_code
def yX9_hang : MethodName := ⟨RX9, "hang", "()I"⟩
abbrev cX9_trip : ByteArray := prog_11_method_42_code
def yX9_trip : MethodName := ⟨RX9, "trip", "(III)I"⟩
abbrev cX9_best : ByteArray := prog_11_method_43_code
def yX9_best : MethodName := ⟨RX9, "best", "(III)I"⟩
abbrev cX9_places : ByteArray := prog_11_method_44_code
def yX9_places : MethodName := ⟨RX9, "places", "(I)I"⟩
abbrev cX9_came : ByteArray := prog_11_method_45_code
def yX9_came : MethodName := ⟨RX9, "came", "(IIZ)I"⟩
abbrev cX9_forget : ByteArray := prog_11_method_46_code
def yX9_forget : MethodName := ⟨RX9, "forget", "()I"⟩
abbrev cX9_fits : ByteArray := prog_11_method_47_code
def yX9_fits : MethodName := ⟨RX9, "fits", "(I)I"⟩
abbrev cX9_up : ByteArray := prog_11_method_48_code
def yX9_up : MethodName := ⟨RX9, "up", "(III)I"⟩
abbrev cX9_from : ByteArray := prog_11_method_49_code
def yX9_from : MethodName := ⟨RX9, "from", "(IIII)I"⟩
abbrev cX9_clocks : ByteArray := prog_11_method_50_code
def yX9_clocks : MethodName := ⟨RX9, "clocks", "(III)I"⟩
abbrev cX9_floods : ByteArray := prog_11_method_51_code
def yX9_floods : MethodName := ⟨RX9, "floods", "(IIIII)I"⟩
abbrev cX9_day : ByteArray := prog_11_method_52_code
def yX9_day : MethodName := ⟨RX9, "day", "(II)I"⟩
abbrev cX9_keep : ByteArray := prog_11_method_53_code
def yX9_keep : MethodName := ⟨RX9, "keep", "()I"⟩
abbrev cX9_back : ByteArray := prog_11_method_54_code
def yX9_back : MethodName := ⟨RX9, "back", "()I"⟩
abbrev cX9_count : ByteArray := prog_11_method_55_code
def yX9_count : MethodName := ⟨RX9, "count", "(I)I"⟩
def RJ6 : String := "java/lang/Integer"
abbrev cJ6_bitCount_0f7a4 : ByteArray := prog_12_method_49_code
def yJ6_bitCount_0f7a4 : MethodName := ⟨RJ6, "bitCount", "(I)I"⟩
def RJ9 : String := "java/lang/Math"
abbrev cJ9_max_7cf53 : ByteArray := prog_13_method_65_code
def yJ9_max_7cf53 : MethodName := ⟨RJ9, "max", "(II)I"⟩
abbrev cJ9_min_7cf53 : ByteArray := prog_13_method_69_code
def yJ9_min_7cf53 : MethodName := ⟨RJ9, "min", "(II)I"⟩
def RJ0 : String := "java/lang/String"
abbrev cJ0_length_8abf5 : ByteArray := prog_14_method_54_code
def yJ0_length_8abf5 : MethodName := ⟨RJ0, "length", "()I"⟩
abbrev cJ0_charAt_5068e : ByteArray := prog_14_method_56_code
def yJ0_charAt_5068e : MethodName := ⟨RJ0, "charAt", "(I)C"⟩
abbrev cJ0_coder_7d493 : ByteArray := prog_14_method_152_code
def yJ0_coder_7d493 : MethodName := ⟨RJ0, "coder", "()B"⟩
abbrev cJ0_isLatin1_aae02 : ByteArray := prog_14_method_154_code
def yJ0_isLatin1_aae02 : MethodName := ⟨RJ0, "isLatin1", "()Z"⟩
abbrev cJ0_checkIndex_df160 : ByteArray := prog_14_method_155_code
def yJ0_checkIndex_df160 : MethodName := ⟨RJ0, "checkIndex", "(II)V"⟩
def RJ1 : String := "java/lang/StringLatin1"
abbrev cJ1_charAt_3b067 : ByteArray := prog_15_method_2_code
def yJ1_charAt_3b067 : MethodName := ⟨RJ1, "charAt", "([BI)C"⟩
def RJ2 : String := "java/lang/StringUTF16"
abbrev cJ2_getChar_3b067 : ByteArray := prog_16_method_5_code
def yJ2_getChar_3b067 : MethodName := ⟨RJ2, "getChar", "([BI)C"⟩
abbrev cJ2_length_9d52b : ByteArray := prog_16_method_6_code
def yJ2_length_9d52b : MethodName := ⟨RJ2, "length", "([B)I"⟩
abbrev cJ2_charAt_3b067 : ByteArray := prog_16_method_83_code
def yJ2_charAt_3b067 : MethodName := ⟨RJ2, "charAt", "([BI)C"⟩
abbrev cJ2_checkIndex_2214a : ByteArray := prog_16_method_91_code
def yJ2_checkIndex_2214a : MethodName := ⟨RJ2, "checkIndex", "(I[B)V"⟩
def RJ3 : String := "jdk/internal/util/Preconditions"
abbrev cJ3_checkIndex_8e157 : ByteArray := prog_17_method_11_code
def yJ3_checkIndex_8e157 : MethodName := ⟨RJ3, "checkIndex", "(IILjava/util/function/BiFunction;)I"⟩
def RL : String := "PlatformsLeaveLaw"
abbrev cL_law : ByteArray := code
theorem dX0_init_0 : decode cX0_init 0 = .ok (.aload_n 0, 1) := by decide +kernel
theorem dX0_init_1 : decode cX0_init 1 = .ok (.invokespecial 3, 3) := by decide +kernel
theorem dX0_init_4 : decode cX0_init 4 = .ok (.aload_n 0, 1) := by decide +kernel
theorem dX0_init_5 : decode cX0_init 5 = .ok (.bipush 8, 2) := by decide +kernel
theorem dX0_init_7 : decode cX0_init 7 = .ok (.newarray .int, 2) := by decide +kernel
theorem dX0_init_9 : decode cX0_init 9 = .ok (.putfield 9, 3) := by decide +kernel
theorem dX0_init_12 : decode cX0_init 12 = .ok (.aload_n 0, 1) := by decide +kernel
theorem dX0_init_13 : decode cX0_init 13 = .ok (.bipush 8, 2) := by decide +kernel
theorem dX0_init_15 : decode cX0_init 15 = .ok (.newarray .int, 2) := by decide +kernel
theorem dX0_init_17 : decode cX0_init 17 = .ok (.putfield 15, 3) := by decide +kernel
theorem dX0_init_20 : decode cX0_init 20 = .ok (.aload_n 0, 1) := by decide +kernel
theorem dX0_init_21 : decode cX0_init 21 = .ok (.bipush 8, 2) := by decide +kernel
theorem dX0_init_23 : decode cX0_init 23 = .ok (.newarray .int, 2) := by decide +kernel
theorem dX0_init_25 : decode cX0_init 25 = .ok (.putfield 18, 3) := by decide +kernel
theorem dX0_init_28 : decode cX0_init 28 = .ok (.return_, 1) := by decide +kernel
theorem dX0_add_0 : decode cX0_add 0 = .ok (.aload_n 0, 1) := by decide +kernel
theorem dX0_add_1 : decode cX0_add 1 = .ok (.getfield 21, 3) := by decide +kernel
theorem dX0_add_4 : decode cX0_add 4 = .ok (.bipush 8, 2) := by decide +kernel
theorem dX0_add_6 : decode cX0_add 6 = .ok (.if_icmp .lt 7, 3) := by decide +kernel
theorem dX0_add_9 : decode cX0_add 9 = .ok (.aload_n 0, 1) := by decide +kernel
theorem dX0_add_10 : decode cX0_add 10 = .ok (.invokevirtual 25, 3) := by decide +kernel
theorem dX0_add_13 : decode cX0_add 13 = .ok (.aload_n 0, 1) := by decide +kernel
theorem dX0_add_14 : decode cX0_add 14 = .ok (.getfield 9, 3) := by decide +kernel
theorem dX0_add_17 : decode cX0_add 17 = .ok (.aload_n 0, 1) := by decide +kernel
theorem dX0_add_18 : decode cX0_add 18 = .ok (.getfield 21, 3) := by decide +kernel
theorem dX0_add_21 : decode cX0_add 21 = .ok (.iload_n 1, 1) := by decide +kernel
theorem dX0_add_22 : decode cX0_add 22 = .ok (.iastore, 1) := by decide +kernel
theorem dX0_add_23 : decode cX0_add 23 = .ok (.aload_n 0, 1) := by decide +kernel
theorem dX0_add_24 : decode cX0_add 24 = .ok (.getfield 15, 3) := by decide +kernel
theorem dX0_add_27 : decode cX0_add 27 = .ok (.aload_n 0, 1) := by decide +kernel
theorem dX0_add_28 : decode cX0_add 28 = .ok (.getfield 21, 3) := by decide +kernel
theorem dX0_add_31 : decode cX0_add 31 = .ok (.iload_n 2, 1) := by decide +kernel
theorem dX0_add_32 : decode cX0_add 32 = .ok (.iastore, 1) := by decide +kernel
theorem dX0_add_33 : decode cX0_add 33 = .ok (.aload_n 0, 1) := by decide +kernel
theorem dX0_add_34 : decode cX0_add 34 = .ok (.getfield 18, 3) := by decide +kernel
theorem dX0_add_37 : decode cX0_add 37 = .ok (.aload_n 0, 1) := by decide +kernel
theorem dX0_add_38 : decode cX0_add 38 = .ok (.getfield 21, 3) := by decide +kernel
theorem dX0_add_41 : decode cX0_add 41 = .ok (.iload_n 3, 1) := by decide +kernel
theorem dX0_add_42 : decode cX0_add 42 = .ok (.iastore, 1) := by decide +kernel
theorem dX0_add_43 : decode cX0_add 43 = .ok (.aload_n 0, 1) := by decide +kernel
theorem dX0_add_44 : decode cX0_add 44 = .ok (.dup, 1) := by decide +kernel
theorem dX0_add_45 : decode cX0_add 45 = .ok (.getfield 21, 3) := by decide +kernel
theorem dX0_add_48 : decode cX0_add 48 = .ok (.iconst 1, 1) := by decide +kernel
theorem dX0_add_49 : decode cX0_add 49 = .ok (.iadd, 1) := by decide +kernel
theorem dX0_add_50 : decode cX0_add 50 = .ok (.putfield 21, 3) := by decide +kernel
theorem dX0_add_53 : decode cX0_add 53 = .ok (.return_, 1) := by decide +kernel
theorem dX0_dropOldest_0 : decode cX0_dropOldest 0 = .ok (.iconst 1, 1) := by decide +kernel
theorem dX0_dropOldest_1 : decode cX0_dropOldest 1 = .ok (.istore_n 1, 1) := by decide +kernel
theorem dX0_dropOldest_2 : decode cX0_dropOldest 2 = .ok (.iload_n 1, 1) := by decide +kernel
theorem dX0_dropOldest_3 : decode cX0_dropOldest 3 = .ok (.bipush 8, 2) := by decide +kernel
theorem dX0_dropOldest_5 : decode cX0_dropOldest 5 = .ok (.if_icmp .ge 51, 3) := by decide +kernel
theorem dX0_dropOldest_8 : decode cX0_dropOldest 8 = .ok (.aload_n 0, 1) := by decide +kernel
theorem dX0_dropOldest_9 : decode cX0_dropOldest 9 = .ok (.getfield 9, 3) := by decide +kernel
theorem dX0_dropOldest_12 : decode cX0_dropOldest 12 = .ok (.iload_n 1, 1) := by decide +kernel
theorem dX0_dropOldest_13 : decode cX0_dropOldest 13 = .ok (.iconst 1, 1) := by decide +kernel
theorem dX0_dropOldest_14 : decode cX0_dropOldest 14 = .ok (.isub, 1) := by decide +kernel
theorem dX0_dropOldest_15 : decode cX0_dropOldest 15 = .ok (.aload_n 0, 1) := by decide +kernel
theorem dX0_dropOldest_16 : decode cX0_dropOldest 16 = .ok (.getfield 9, 3) := by decide +kernel
theorem dX0_dropOldest_19 : decode cX0_dropOldest 19 = .ok (.iload_n 1, 1) := by decide +kernel
theorem dX0_dropOldest_20 : decode cX0_dropOldest 20 = .ok (.iaload, 1) := by decide +kernel
theorem dX0_dropOldest_21 : decode cX0_dropOldest 21 = .ok (.iastore, 1) := by decide +kernel
theorem dX0_dropOldest_22 : decode cX0_dropOldest 22 = .ok (.aload_n 0, 1) := by decide +kernel
theorem dX0_dropOldest_23 : decode cX0_dropOldest 23 = .ok (.getfield 15, 3) := by decide +kernel
theorem dX0_dropOldest_26 : decode cX0_dropOldest 26 = .ok (.iload_n 1, 1) := by decide +kernel
theorem dX0_dropOldest_27 : decode cX0_dropOldest 27 = .ok (.iconst 1, 1) := by decide +kernel
theorem dX0_dropOldest_28 : decode cX0_dropOldest 28 = .ok (.isub, 1) := by decide +kernel
theorem dX0_dropOldest_29 : decode cX0_dropOldest 29 = .ok (.aload_n 0, 1) := by decide +kernel
theorem dX0_dropOldest_30 : decode cX0_dropOldest 30 = .ok (.getfield 15, 3) := by decide +kernel
theorem dX0_dropOldest_33 : decode cX0_dropOldest 33 = .ok (.iload_n 1, 1) := by decide +kernel
theorem dX0_dropOldest_34 : decode cX0_dropOldest 34 = .ok (.iaload, 1) := by decide +kernel
theorem dX0_dropOldest_35 : decode cX0_dropOldest 35 = .ok (.iastore, 1) := by decide +kernel
theorem dX0_dropOldest_36 : decode cX0_dropOldest 36 = .ok (.aload_n 0, 1) := by decide +kernel
theorem dX0_dropOldest_37 : decode cX0_dropOldest 37 = .ok (.getfield 18, 3) := by decide +kernel
theorem dX0_dropOldest_40 : decode cX0_dropOldest 40 = .ok (.iload_n 1, 1) := by decide +kernel
theorem dX0_dropOldest_41 : decode cX0_dropOldest 41 = .ok (.iconst 1, 1) := by decide +kernel
theorem dX0_dropOldest_42 : decode cX0_dropOldest 42 = .ok (.isub, 1) := by decide +kernel
theorem dX0_dropOldest_43 : decode cX0_dropOldest 43 = .ok (.aload_n 0, 1) := by decide +kernel
theorem dX0_dropOldest_44 : decode cX0_dropOldest 44 = .ok (.getfield 18, 3) := by decide +kernel
theorem dX0_dropOldest_47 : decode cX0_dropOldest 47 = .ok (.iload_n 1, 1) := by decide +kernel
theorem dX0_dropOldest_48 : decode cX0_dropOldest 48 = .ok (.iaload, 1) := by decide +kernel
theorem dX0_dropOldest_49 : decode cX0_dropOldest 49 = .ok (.iastore, 1) := by decide +kernel
theorem dX0_dropOldest_50 : decode cX0_dropOldest 50 = .ok (.iinc 1 1, 3) := by decide +kernel
theorem dX0_dropOldest_53 : decode cX0_dropOldest 53 = .ok (.goto (-51), 3) := by decide +kernel
theorem dX0_dropOldest_56 : decode cX0_dropOldest 56 = .ok (.aload_n 0, 1) := by decide +kernel
theorem dX0_dropOldest_57 : decode cX0_dropOldest 57 = .ok (.bipush 7, 2) := by decide +kernel
theorem dX0_dropOldest_59 : decode cX0_dropOldest 59 = .ok (.putfield 21, 3) := by decide +kernel
theorem dX0_dropOldest_62 : decode cX0_dropOldest 62 = .ok (.return_, 1) := by decide +kernel
theorem dX0_takeBack_0 : decode cX0_takeBack 0 = .ok (.aload_n 0, 1) := by decide +kernel
theorem dX0_takeBack_1 : decode cX0_takeBack 1 = .ok (.getfield 21, 3) := by decide +kernel
theorem dX0_takeBack_4 : decode cX0_takeBack 4 = .ok (.iconst 1, 1) := by decide +kernel
theorem dX0_takeBack_5 : decode cX0_takeBack 5 = .ok (.if_icmp .ge 5, 3) := by decide +kernel
theorem dX0_takeBack_8 : decode cX0_takeBack 8 = .ok (.iconst 0, 1) := by decide +kernel
theorem dX0_takeBack_9 : decode cX0_takeBack 9 = .ok (.ireturn, 1) := by decide +kernel
theorem dX0_takeBack_10 : decode cX0_takeBack 10 = .ok (.aload_n 0, 1) := by decide +kernel
theorem dX0_takeBack_11 : decode cX0_takeBack 11 = .ok (.dup, 1) := by decide +kernel
theorem dX0_takeBack_12 : decode cX0_takeBack 12 = .ok (.getfield 21, 3) := by decide +kernel
theorem dX0_takeBack_15 : decode cX0_takeBack 15 = .ok (.iconst 1, 1) := by decide +kernel
theorem dX0_takeBack_16 : decode cX0_takeBack 16 = .ok (.isub, 1) := by decide +kernel
theorem dX0_takeBack_17 : decode cX0_takeBack 17 = .ok (.putfield 21, 3) := by decide +kernel
theorem dX0_takeBack_20 : decode cX0_takeBack 20 = .ok (.aload_n 0, 1) := by decide +kernel
theorem dX0_takeBack_21 : decode cX0_takeBack 21 = .ok (.getfield 15, 3) := by decide +kernel
theorem dX0_takeBack_24 : decode cX0_takeBack 24 = .ok (.aload_n 0, 1) := by decide +kernel
theorem dX0_takeBack_25 : decode cX0_takeBack 25 = .ok (.getfield 21, 3) := by decide +kernel
theorem dX0_takeBack_28 : decode cX0_takeBack 28 = .ok (.iaload, 1) := by decide +kernel
theorem dX0_takeBack_29 : decode cX0_takeBack 29 = .ok (.istore_n 2, 1) := by decide +kernel
theorem dX0_takeBack_30 : decode cX0_takeBack 30 = .ok (.aload_n 0, 1) := by decide +kernel
theorem dX0_takeBack_31 : decode cX0_takeBack 31 = .ok (.getfield 9, 3) := by decide +kernel
theorem dX0_takeBack_34 : decode cX0_takeBack 34 = .ok (.aload_n 0, 1) := by decide +kernel
theorem dX0_takeBack_35 : decode cX0_takeBack 35 = .ok (.getfield 21, 3) := by decide +kernel
theorem dX0_takeBack_38 : decode cX0_takeBack 38 = .ok (.iaload, 1) := by decide +kernel
theorem dX0_takeBack_39 : decode cX0_takeBack 39 = .ok (.lookupswitch 58 #[(0, 25), (1, 43)], 25) := by decide +kernel
theorem dX0_takeBack_64 : decode cX0_takeBack 64 = .ok (.aload_n 1, 1) := by decide +kernel
theorem dX0_takeBack_65 : decode cX0_takeBack 65 = .ok (.getfield 28, 3) := by decide +kernel
theorem dX0_takeBack_68 : decode cX0_takeBack 68 = .ok (.iload_n 2, 1) := by decide +kernel
theorem dX0_takeBack_69 : decode cX0_takeBack 69 = .ok (.aload_n 0, 1) := by decide +kernel
theorem dX0_takeBack_70 : decode cX0_takeBack 70 = .ok (.getfield 18, 3) := by decide +kernel
theorem dX0_takeBack_73 : decode cX0_takeBack 73 = .ok (.aload_n 0, 1) := by decide +kernel
theorem dX0_takeBack_74 : decode cX0_takeBack 74 = .ok (.getfield 21, 3) := by decide +kernel
theorem dX0_takeBack_77 : decode cX0_takeBack 77 = .ok (.iaload, 1) := by decide +kernel
theorem dX0_takeBack_78 : decode cX0_takeBack 78 = .ok (.iastore, 1) := by decide +kernel
theorem dX0_takeBack_79 : decode cX0_takeBack 79 = .ok (.goto 30, 3) := by decide +kernel
theorem dX0_takeBack_82 : decode cX0_takeBack 82 = .ok (.aload_n 1, 1) := by decide +kernel
theorem dX0_takeBack_83 : decode cX0_takeBack 83 = .ok (.dup, 1) := by decide +kernel
theorem dX0_takeBack_84 : decode cX0_takeBack 84 = .ok (.getfield 33, 3) := by decide +kernel
theorem dX0_takeBack_87 : decode cX0_takeBack 87 = .ok (.iconst 1, 1) := by decide +kernel
theorem dX0_takeBack_88 : decode cX0_takeBack 88 = .ok (.iload_n 2, 1) := by decide +kernel
theorem dX0_takeBack_89 : decode cX0_takeBack 89 = .ok (.ishl, 1) := by decide +kernel
theorem dX0_takeBack_90 : decode cX0_takeBack 90 = .ok (.ixor, 1) := by decide +kernel
theorem dX0_takeBack_91 : decode cX0_takeBack 91 = .ok (.putfield 33, 3) := by decide +kernel
theorem dX0_takeBack_94 : decode cX0_takeBack 94 = .ok (.goto 15, 3) := by decide +kernel
theorem dX0_takeBack_97 : decode cX0_takeBack 97 = .ok (.aload_n 1, 1) := by decide +kernel
theorem dX0_takeBack_98 : decode cX0_takeBack 98 = .ok (.dup, 1) := by decide +kernel
theorem dX0_takeBack_99 : decode cX0_takeBack 99 = .ok (.getfield 36, 3) := by decide +kernel
theorem dX0_takeBack_102 : decode cX0_takeBack 102 = .ok (.iconst 1, 1) := by decide +kernel
theorem dX0_takeBack_103 : decode cX0_takeBack 103 = .ok (.iload_n 2, 1) := by decide +kernel
theorem dX0_takeBack_104 : decode cX0_takeBack 104 = .ok (.ishl, 1) := by decide +kernel
theorem dX0_takeBack_105 : decode cX0_takeBack 105 = .ok (.ixor, 1) := by decide +kernel
theorem dX0_takeBack_106 : decode cX0_takeBack 106 = .ok (.putfield 36, 3) := by decide +kernel
theorem dX0_takeBack_109 : decode cX0_takeBack 109 = .ok (.iconst 1, 1) := by decide +kernel
theorem dX0_takeBack_110 : decode cX0_takeBack 110 = .ok (.ireturn, 1) := by decide +kernel
theorem dX1_init_0 : decode cX1_init 0 = .ok (.aload_n 0, 1) := by decide +kernel
theorem dX1_init_1 : decode cX1_init 1 = .ok (.invokespecial 3, 3) := by decide +kernel
theorem dX1_init_4 : decode cX1_init 4 = .ok (.aload_n 0, 1) := by decide +kernel
theorem dX1_init_5 : decode cX1_init 5 = .ok (.bipush 6, 2) := by decide +kernel
theorem dX1_init_7 : decode cX1_init 7 = .ok (.newarray .int, 2) := by decide +kernel
theorem dX1_init_9 : decode cX1_init 9 = .ok (.putfield 9, 3) := by decide +kernel
theorem dX1_init_12 : decode cX1_init 12 = .ok (.aload_n 0, 1) := by decide +kernel
theorem dX1_init_13 : decode cX1_init 13 = .ok (.bipush 6, 2) := by decide +kernel
theorem dX1_init_15 : decode cX1_init 15 = .ok (.newarray .int, 2) := by decide +kernel
theorem dX1_init_17 : decode cX1_init 17 = .ok (.putfield 15, 3) := by decide +kernel
theorem dX1_init_20 : decode cX1_init 20 = .ok (.aload_n 0, 1) := by decide +kernel
theorem dX1_init_21 : decode cX1_init 21 = .ok (.bipush 6, 2) := by decide +kernel
theorem dX1_init_23 : decode cX1_init 23 = .ok (.newarray .boolean, 2) := by decide +kernel
theorem dX1_init_25 : decode cX1_init 25 = .ok (.putfield 18, 3) := by decide +kernel
theorem dX1_init_28 : decode cX1_init 28 = .ok (.return_, 1) := by decide +kernel
theorem dX1_add_0 : decode cX1_add 0 = .ok (.aload_n 0, 1) := by decide +kernel
theorem dX1_add_1 : decode cX1_add 1 = .ok (.getfield 22, 3) := by decide +kernel
theorem dX1_add_4 : decode cX1_add 4 = .ok (.bipush 6, 2) := by decide +kernel
theorem dX1_add_6 : decode cX1_add 6 = .ok (.if_icmp .lt 5, 3) := by decide +kernel
theorem dX1_add_9 : decode cX1_add 9 = .ok (.iconst 0, 1) := by decide +kernel
theorem dX1_add_10 : decode cX1_add 10 = .ok (.ireturn, 1) := by decide +kernel
theorem dX1_add_11 : decode cX1_add 11 = .ok (.aload_n 0, 1) := by decide +kernel
theorem dX1_add_12 : decode cX1_add 12 = .ok (.getfield 9, 3) := by decide +kernel
theorem dX1_add_15 : decode cX1_add 15 = .ok (.aload_n 0, 1) := by decide +kernel
theorem dX1_add_16 : decode cX1_add 16 = .ok (.getfield 22, 3) := by decide +kernel
theorem dX1_add_19 : decode cX1_add 19 = .ok (.iload_n 1, 1) := by decide +kernel
theorem dX1_add_20 : decode cX1_add 20 = .ok (.iastore, 1) := by decide +kernel
theorem dX1_add_21 : decode cX1_add 21 = .ok (.aload_n 0, 1) := by decide +kernel
theorem dX1_add_22 : decode cX1_add 22 = .ok (.getfield 15, 3) := by decide +kernel
theorem dX1_add_25 : decode cX1_add 25 = .ok (.aload_n 0, 1) := by decide +kernel
theorem dX1_add_26 : decode cX1_add 26 = .ok (.getfield 22, 3) := by decide +kernel
theorem dX1_add_29 : decode cX1_add 29 = .ok (.iload_n 2, 1) := by decide +kernel
theorem dX1_add_30 : decode cX1_add 30 = .ok (.iastore, 1) := by decide +kernel
theorem dX1_add_31 : decode cX1_add 31 = .ok (.aload_n 0, 1) := by decide +kernel
theorem dX1_add_32 : decode cX1_add 32 = .ok (.getfield 18, 3) := by decide +kernel
theorem dX1_add_35 : decode cX1_add 35 = .ok (.aload_n 0, 1) := by decide +kernel
theorem dX1_add_36 : decode cX1_add 36 = .ok (.getfield 22, 3) := by decide +kernel
theorem dX1_add_39 : decode cX1_add 39 = .ok (.iload_n 3, 1) := by decide +kernel
theorem dX1_add_40 : decode cX1_add 40 = .ok (.bastore, 1) := by decide +kernel
theorem dX1_add_41 : decode cX1_add 41 = .ok (.aload_n 0, 1) := by decide +kernel
theorem dX1_add_42 : decode cX1_add 42 = .ok (.dup, 1) := by decide +kernel
theorem dX1_add_43 : decode cX1_add 43 = .ok (.getfield 22, 3) := by decide +kernel
theorem dX1_add_46 : decode cX1_add 46 = .ok (.iconst 1, 1) := by decide +kernel
theorem dX1_add_47 : decode cX1_add 47 = .ok (.iadd, 1) := by decide +kernel
theorem dX1_add_48 : decode cX1_add 48 = .ok (.putfield 22, 3) := by decide +kernel
theorem dX1_add_51 : decode cX1_add 51 = .ok (.iconst 1, 1) := by decide +kernel
theorem dX1_add_52 : decode cX1_add 52 = .ok (.ireturn, 1) := by decide +kernel
theorem dX1_fit_0 : decode cX1_fit 0 = .ok (.aload_n 0, 1) := by decide +kernel
theorem dX1_fit_1 : decode cX1_fit 1 = .ok (.invokevirtual 26, 3) := by decide +kernel
theorem dX1_fit_4 : decode cX1_fit 4 = .ok (.istore_n 2, 1) := by decide +kernel
theorem dX1_fit_5 : decode cX1_fit 5 = .ok (.iconst 1, 1) := by decide +kernel
theorem dX1_fit_6 : decode cX1_fit 6 = .ok (.istore_n 3, 1) := by decide +kernel
theorem dX1_fit_7 : decode cX1_fit 7 = .ok (.iload_n 3, 1) := by decide +kernel
theorem dX1_fit_8 : decode cX1_fit 8 = .ok (.iload_n 2, 1) := by decide +kernel
theorem dX1_fit_9 : decode cX1_fit 9 = .ok (.if_icmp .gt 24, 3) := by decide +kernel
theorem dX1_fit_12 : decode cX1_fit 12 = .ok (.aload_n 1, 1) := by decide +kernel
theorem dX1_fit_13 : decode cX1_fit 13 = .ok (.iload_n 3, 1) := by decide +kernel
theorem dX1_fit_14 : decode cX1_fit 14 = .ok (.invokevirtual 30, 3) := by decide +kernel
theorem dX1_fit_17 : decode cX1_fit 17 = .ok (.aload_n 0, 1) := by decide +kernel
theorem dX1_fit_18 : decode cX1_fit 18 = .ok (.aload_n 1, 1) := by decide +kernel
theorem dX1_fit_19 : decode cX1_fit 19 = .ok (.invokevirtual 36, 3) := by decide +kernel
theorem dX1_fit_22 : decode cX1_fit 22 = .ok (.ifCond .ne 5, 3) := by decide +kernel
theorem dX1_fit_25 : decode cX1_fit 25 = .ok (.iconst 0, 1) := by decide +kernel
theorem dX1_fit_26 : decode cX1_fit 26 = .ok (.ireturn, 1) := by decide +kernel
theorem dX1_fit_27 : decode cX1_fit 27 = .ok (.iinc 3 1, 3) := by decide +kernel
theorem dX1_fit_30 : decode cX1_fit 30 = .ok (.goto (-23), 3) := by decide +kernel
theorem dX1_fit_33 : decode cX1_fit 33 = .ok (.iconst 1, 1) := by decide +kernel
theorem dX1_fit_34 : decode cX1_fit 34 = .ok (.ireturn, 1) := by decide +kernel
theorem dX1_fitNow_0 : decode cX1_fitNow 0 = .ok (.iconst 0, 1) := by decide +kernel
theorem dX1_fitNow_1 : decode cX1_fitNow 1 = .ok (.istore_n 2, 1) := by decide +kernel
theorem dX1_fitNow_2 : decode cX1_fitNow 2 = .ok (.iload_n 2, 1) := by decide +kernel
theorem dX1_fitNow_3 : decode cX1_fitNow 3 = .ok (.aload_n 0, 1) := by decide +kernel
theorem dX1_fitNow_4 : decode cX1_fitNow 4 = .ok (.getfield 22, 3) := by decide +kernel
theorem dX1_fitNow_7 : decode cX1_fitNow 7 = .ok (.if_icmp .ge 43, 3) := by decide +kernel
theorem dX1_fitNow_10 : decode cX1_fitNow 10 = .ok (.aload_n 0, 1) := by decide +kernel
theorem dX1_fitNow_11 : decode cX1_fitNow 11 = .ok (.getfield 15, 3) := by decide +kernel
theorem dX1_fitNow_14 : decode cX1_fitNow 14 = .ok (.iload_n 2, 1) := by decide +kernel
theorem dX1_fitNow_15 : decode cX1_fitNow 15 = .ok (.iaload, 1) := by decide +kernel
theorem dX1_fitNow_16 : decode cX1_fitNow 16 = .ok (.aload_n 1, 1) := by decide +kernel
theorem dX1_fitNow_17 : decode cX1_fitNow 17 = .ok (.getfield 40, 3) := by decide +kernel
theorem dX1_fitNow_20 : decode cX1_fitNow 20 = .ok (.if_icmp .ne 24, 3) := by decide +kernel
theorem dX1_fitNow_23 : decode cX1_fitNow 23 = .ok (.aload_n 0, 1) := by decide +kernel
theorem dX1_fitNow_24 : decode cX1_fitNow 24 = .ok (.getfield 18, 3) := by decide +kernel
theorem dX1_fitNow_27 : decode cX1_fitNow 27 = .ok (.iload_n 2, 1) := by decide +kernel
theorem dX1_fitNow_28 : decode cX1_fitNow 28 = .ok (.baload, 1) := by decide +kernel
theorem dX1_fitNow_29 : decode cX1_fitNow 29 = .ok (.aload_n 1, 1) := by decide +kernel
theorem dX1_fitNow_30 : decode cX1_fitNow 30 = .ok (.aload_n 0, 1) := by decide +kernel
theorem dX1_fitNow_31 : decode cX1_fitNow 31 = .ok (.getfield 9, 3) := by decide +kernel
theorem dX1_fitNow_34 : decode cX1_fitNow 34 = .ok (.iload_n 2, 1) := by decide +kernel
theorem dX1_fitNow_35 : decode cX1_fitNow 35 = .ok (.iaload, 1) := by decide +kernel
theorem dX1_fitNow_36 : decode cX1_fitNow 36 = .ok (.invokevirtual 43, 3) := by decide +kernel
theorem dX1_fitNow_39 : decode cX1_fitNow 39 = .ok (.if_icmp .eq 5, 3) := by decide +kernel
theorem dX1_fitNow_42 : decode cX1_fitNow 42 = .ok (.iconst 0, 1) := by decide +kernel
theorem dX1_fitNow_43 : decode cX1_fitNow 43 = .ok (.ireturn, 1) := by decide +kernel
theorem dX1_fitNow_44 : decode cX1_fitNow 44 = .ok (.iinc 2 1, 3) := by decide +kernel
theorem dX1_fitNow_47 : decode cX1_fitNow 47 = .ok (.goto (-45), 3) := by decide +kernel
theorem dX1_fitNow_50 : decode cX1_fitNow 50 = .ok (.iconst 1, 1) := by decide +kernel
theorem dX1_fitNow_51 : decode cX1_fitNow 51 = .ok (.ireturn, 1) := by decide +kernel
theorem dX1_lastStep_0 : decode cX1_lastStep 0 = .ok (.iconst 0, 1) := by decide +kernel
theorem dX1_lastStep_1 : decode cX1_lastStep 1 = .ok (.istore_n 1, 1) := by decide +kernel
theorem dX1_lastStep_2 : decode cX1_lastStep 2 = .ok (.iconst 0, 1) := by decide +kernel
theorem dX1_lastStep_3 : decode cX1_lastStep 3 = .ok (.istore_n 2, 1) := by decide +kernel
theorem dX1_lastStep_4 : decode cX1_lastStep 4 = .ok (.iload_n 2, 1) := by decide +kernel
theorem dX1_lastStep_5 : decode cX1_lastStep 5 = .ok (.aload_n 0, 1) := by decide +kernel
theorem dX1_lastStep_6 : decode cX1_lastStep 6 = .ok (.getfield 22, 3) := by decide +kernel
theorem dX1_lastStep_9 : decode cX1_lastStep 9 = .ok (.if_icmp .ge 20, 3) := by decide +kernel
theorem dX1_lastStep_12 : decode cX1_lastStep 12 = .ok (.iload_n 1, 1) := by decide +kernel
theorem dX1_lastStep_13 : decode cX1_lastStep 13 = .ok (.aload_n 0, 1) := by decide +kernel
theorem dX1_lastStep_14 : decode cX1_lastStep 14 = .ok (.getfield 15, 3) := by decide +kernel
theorem dX1_lastStep_17 : decode cX1_lastStep 17 = .ok (.iload_n 2, 1) := by decide +kernel
theorem dX1_lastStep_18 : decode cX1_lastStep 18 = .ok (.iaload, 1) := by decide +kernel
theorem dX1_lastStep_19 : decode cX1_lastStep 19 = .ok (.invokestatic 47, 3) := by decide +kernel
theorem dX1_lastStep_22 : decode cX1_lastStep 22 = .ok (.istore_n 1, 1) := by decide +kernel
theorem dX1_lastStep_23 : decode cX1_lastStep 23 = .ok (.iinc 2 1, 3) := by decide +kernel
theorem dX1_lastStep_26 : decode cX1_lastStep 26 = .ok (.goto (-22), 3) := by decide +kernel
theorem dX1_lastStep_29 : decode cX1_lastStep 29 = .ok (.iload_n 1, 1) := by decide +kernel
theorem dX1_lastStep_30 : decode cX1_lastStep 30 = .ok (.ireturn, 1) := by decide +kernel
theorem dX2_init_0 : decode cX2_init 0 = .ok (.aload_n 0, 1) := by decide +kernel
theorem dX2_init_1 : decode cX2_init 1 = .ok (.invokespecial 3, 3) := by decide +kernel
theorem dX2_init_4 : decode cX2_init 4 = .ok (.aload_n 0, 1) := by decide +kernel
theorem dX2_init_5 : decode cX2_init 5 = .ok (.iconst 2, 1) := by decide +kernel
theorem dX2_init_6 : decode cX2_init 6 = .ok (.anewarray 9, 3) := by decide +kernel
theorem dX2_init_9 : decode cX2_init 9 = .ok (.dup, 1) := by decide +kernel
theorem dX2_init_10 : decode cX2_init 10 = .ok (.iconst 0, 1) := by decide +kernel
theorem dX2_init_11 : decode cX2_init 11 = .ok (.new 9, 3) := by decide +kernel
theorem dX2_init_14 : decode cX2_init 14 = .ok (.dup, 1) := by decide +kernel
theorem dX2_init_15 : decode cX2_init 15 = .ok (.invokespecial 11, 3) := by decide +kernel
theorem dX2_init_18 : decode cX2_init 18 = .ok (.aastore, 1) := by decide +kernel
theorem dX2_init_19 : decode cX2_init 19 = .ok (.dup, 1) := by decide +kernel
theorem dX2_init_20 : decode cX2_init 20 = .ok (.iconst 1, 1) := by decide +kernel
theorem dX2_init_21 : decode cX2_init 21 = .ok (.new 9, 3) := by decide +kernel
theorem dX2_init_24 : decode cX2_init 24 = .ok (.dup, 1) := by decide +kernel
theorem dX2_init_25 : decode cX2_init 25 = .ok (.invokespecial 11, 3) := by decide +kernel
theorem dX2_init_28 : decode cX2_init 28 = .ok (.aastore, 1) := by decide +kernel
theorem dX2_init_29 : decode cX2_init 29 = .ok (.putfield 12, 3) := by decide +kernel
theorem dX2_init_32 : decode cX2_init 32 = .ok (.return_, 1) := by decide +kernel
theorem dX2_add_0 : decode cX2_add 0 = .ok (.aload_n 0, 1) := by decide +kernel
theorem dX2_add_1 : decode cX2_add 1 = .ok (.getfield 18, 3) := by decide +kernel
theorem dX2_add_4 : decode cX2_add 4 = .ok (.iconst 2, 1) := by decide +kernel
theorem dX2_add_5 : decode cX2_add 5 = .ok (.if_icmp .lt 5, 3) := by decide +kernel
theorem dX2_add_8 : decode cX2_add 8 = .ok (.iconst 0, 1) := by decide +kernel
theorem dX2_add_9 : decode cX2_add 9 = .ok (.ireturn, 1) := by decide +kernel
theorem dX2_add_10 : decode cX2_add 10 = .ok (.aload_n 0, 1) := by decide +kernel
theorem dX2_add_11 : decode cX2_add 11 = .ok (.getfield 12, 3) := by decide +kernel
theorem dX2_add_14 : decode cX2_add 14 = .ok (.aload_n 0, 1) := by decide +kernel
theorem dX2_add_15 : decode cX2_add 15 = .ok (.getfield 18, 3) := by decide +kernel
theorem dX2_add_18 : decode cX2_add 18 = .ok (.aaload, 1) := by decide +kernel
theorem dX2_add_19 : decode cX2_add 19 = .ok (.aload_n 1, 1) := by decide +kernel
theorem dX2_add_20 : decode cX2_add 20 = .ok (.invokevirtual 22, 3) := by decide +kernel
theorem dX2_add_23 : decode cX2_add 23 = .ok (.aload_n 0, 1) := by decide +kernel
theorem dX2_add_24 : decode cX2_add 24 = .ok (.dup, 1) := by decide +kernel
theorem dX2_add_25 : decode cX2_add 25 = .ok (.getfield 18, 3) := by decide +kernel
theorem dX2_add_28 : decode cX2_add 28 = .ok (.iconst 1, 1) := by decide +kernel
theorem dX2_add_29 : decode cX2_add 29 = .ok (.iadd, 1) := by decide +kernel
theorem dX2_add_30 : decode cX2_add 30 = .ok (.putfield 18, 3) := by decide +kernel
theorem dX2_add_33 : decode cX2_add 33 = .ok (.iconst 1, 1) := by decide +kernel
theorem dX2_add_34 : decode cX2_add 34 = .ok (.ireturn, 1) := by decide +kernel
theorem dX2_giveBack_0 : decode cX2_giveBack 0 = .ok (.aload_n 0, 1) := by decide +kernel
theorem dX2_giveBack_1 : decode cX2_giveBack 1 = .ok (.getfield 18, 3) := by decide +kernel
theorem dX2_giveBack_4 : decode cX2_giveBack 4 = .ok (.iconst 1, 1) := by decide +kernel
theorem dX2_giveBack_5 : decode cX2_giveBack 5 = .ok (.if_icmp .ge 5, 3) := by decide +kernel
theorem dX2_giveBack_8 : decode cX2_giveBack 8 = .ok (.iconst 0, 1) := by decide +kernel
theorem dX2_giveBack_9 : decode cX2_giveBack 9 = .ok (.ireturn, 1) := by decide +kernel
theorem dX2_giveBack_10 : decode cX2_giveBack 10 = .ok (.aload_n 0, 1) := by decide +kernel
theorem dX2_giveBack_11 : decode cX2_giveBack 11 = .ok (.dup, 1) := by decide +kernel
theorem dX2_giveBack_12 : decode cX2_giveBack 12 = .ok (.getfield 18, 3) := by decide +kernel
theorem dX2_giveBack_15 : decode cX2_giveBack 15 = .ok (.iconst 1, 1) := by decide +kernel
theorem dX2_giveBack_16 : decode cX2_giveBack 16 = .ok (.isub, 1) := by decide +kernel
theorem dX2_giveBack_17 : decode cX2_giveBack 17 = .ok (.putfield 18, 3) := by decide +kernel
theorem dX2_giveBack_20 : decode cX2_giveBack 20 = .ok (.aload_n 1, 1) := by decide +kernel
theorem dX2_giveBack_21 : decode cX2_giveBack 21 = .ok (.aload_n 0, 1) := by decide +kernel
theorem dX2_giveBack_22 : decode cX2_giveBack 22 = .ok (.getfield 12, 3) := by decide +kernel
theorem dX2_giveBack_25 : decode cX2_giveBack 25 = .ok (.aload_n 0, 1) := by decide +kernel
theorem dX2_giveBack_26 : decode cX2_giveBack 26 = .ok (.getfield 18, 3) := by decide +kernel
theorem dX2_giveBack_29 : decode cX2_giveBack 29 = .ok (.aaload, 1) := by decide +kernel
theorem dX2_giveBack_30 : decode cX2_giveBack 30 = .ok (.invokevirtual 22, 3) := by decide +kernel
theorem dX2_giveBack_33 : decode cX2_giveBack 33 = .ok (.iconst 1, 1) := by decide +kernel
theorem dX2_giveBack_34 : decode cX2_giveBack 34 = .ok (.ireturn, 1) := by decide +kernel
theorem dX3_init_0 : decode cX3_init 0 = .ok (.aload_n 0, 1) := by decide +kernel
theorem dX3_init_1 : decode cX3_init 1 = .ok (.invokespecial 3, 3) := by decide +kernel
theorem dX3_init_4 : decode cX3_init 4 = .ok (.aload_n 0, 1) := by decide +kernel
theorem dX3_init_5 : decode cX3_init 5 = .ok (.iconst 5, 1) := by decide +kernel
theorem dX3_init_6 : decode cX3_init 6 = .ok (.newarray .int, 2) := by decide +kernel
theorem dX3_init_8 : decode cX3_init 8 = .ok (.putfield 9, 3) := by decide +kernel
theorem dX3_init_11 : decode cX3_init 11 = .ok (.aload_n 0, 1) := by decide +kernel
theorem dX3_init_12 : decode cX3_init 12 = .ok (.iconst 5, 1) := by decide +kernel
theorem dX3_init_13 : decode cX3_init 13 = .ok (.newarray .int, 2) := by decide +kernel
theorem dX3_init_15 : decode cX3_init 15 = .ok (.putfield 15, 3) := by decide +kernel
theorem dX3_init_18 : decode cX3_init 18 = .ok (.aload_n 0, 1) := by decide +kernel
theorem dX3_init_19 : decode cX3_init 19 = .ok (.iconst 5, 1) := by decide +kernel
theorem dX3_init_20 : decode cX3_init 20 = .ok (.newarray .int, 2) := by decide +kernel
theorem dX3_init_22 : decode cX3_init 22 = .ok (.putfield 18, 3) := by decide +kernel
theorem dX3_init_25 : decode cX3_init 25 = .ok (.aload_n 0, 1) := by decide +kernel
theorem dX3_init_26 : decode cX3_init 26 = .ok (.new 21, 3) := by decide +kernel
theorem dX3_init_29 : decode cX3_init 29 = .ok (.dup, 1) := by decide +kernel
theorem dX3_init_30 : decode cX3_init 30 = .ok (.invokespecial 23, 3) := by decide +kernel
theorem dX3_init_33 : decode cX3_init 33 = .ok (.putfield 24, 3) := by decide +kernel
theorem dX3_init_36 : decode cX3_init 36 = .ok (.return_, 1) := by decide +kernel
theorem dX3_clear_0 : decode cX3_clear 0 = .ok (.aload_n 0, 1) := by decide +kernel
theorem dX3_clear_1 : decode cX3_clear 1 = .ok (.bipush 12, 2) := by decide +kernel
theorem dX3_clear_3 : decode cX3_clear 3 = .ok (.putfield 28, 3) := by decide +kernel
theorem dX3_clear_6 : decode cX3_clear 6 = .ok (.aload_n 0, 1) := by decide +kernel
theorem dX3_clear_7 : decode cX3_clear 7 = .ok (.iconst 0, 1) := by decide +kernel
theorem dX3_clear_8 : decode cX3_clear 8 = .ok (.putfield 32, 3) := by decide +kernel
theorem dX3_clear_11 : decode cX3_clear 11 = .ok (.aload_n 0, 1) := by decide +kernel
theorem dX3_clear_12 : decode cX3_clear 12 = .ok (.iconst 0, 1) := by decide +kernel
theorem dX3_clear_13 : decode cX3_clear 13 = .ok (.putfield 35, 3) := by decide +kernel
theorem dX3_clear_16 : decode cX3_clear 16 = .ok (.aload_n 0, 1) := by decide +kernel
theorem dX3_clear_17 : decode cX3_clear 17 = .ok (.iconst 0, 1) := by decide +kernel
theorem dX3_clear_18 : decode cX3_clear 18 = .ok (.putfield 38, 3) := by decide +kernel
theorem dX3_clear_21 : decode cX3_clear 21 = .ok (.aload_n 0, 1) := by decide +kernel
theorem dX3_clear_22 : decode cX3_clear 22 = .ok (.iconst 0, 1) := by decide +kernel
theorem dX3_clear_23 : decode cX3_clear 23 = .ok (.putfield 41, 3) := by decide +kernel
theorem dX3_clear_26 : decode cX3_clear 26 = .ok (.aload_n 0, 1) := by decide +kernel
theorem dX3_clear_27 : decode cX3_clear 27 = .ok (.getfield 24, 3) := by decide +kernel
theorem dX3_clear_30 : decode cX3_clear 30 = .ok (.iconst 0, 1) := by decide +kernel
theorem dX3_clear_31 : decode cX3_clear 31 = .ok (.putfield 44, 3) := by decide +kernel
theorem dX3_clear_34 : decode cX3_clear 34 = .ok (.aload_n 0, 1) := by decide +kernel
theorem dX3_clear_35 : decode cX3_clear 35 = .ok (.getfield 24, 3) := by decide +kernel
theorem dX3_clear_38 : decode cX3_clear 38 = .ok (.iconst 0, 1) := by decide +kernel
theorem dX3_clear_39 : decode cX3_clear 39 = .ok (.putfield 47, 3) := by decide +kernel
theorem dX3_clear_42 : decode cX3_clear 42 = .ok (.return_, 1) := by decide +kernel
theorem dX3_hasCell_0 : decode cX3_hasCell 0 = .ok (.iload_n 1, 1) := by decide +kernel
theorem dX3_hasCell_1 : decode cX3_hasCell 1 = .ok (.ifCond .lt 15, 3) := by decide +kernel
theorem dX3_hasCell_4 : decode cX3_hasCell 4 = .ok (.iload_n 1, 1) := by decide +kernel
theorem dX3_hasCell_5 : decode cX3_hasCell 5 = .ok (.aload_n 0, 1) := by decide +kernel
theorem dX3_hasCell_6 : decode cX3_hasCell 6 = .ok (.getfield 28, 3) := by decide +kernel
theorem dX3_hasCell_9 : decode cX3_hasCell 9 = .ok (.if_icmp .ge 7, 3) := by decide +kernel
theorem dX3_hasCell_12 : decode cX3_hasCell 12 = .ok (.iconst 1, 1) := by decide +kernel
theorem dX3_hasCell_13 : decode cX3_hasCell 13 = .ok (.goto 4, 3) := by decide +kernel
theorem dX3_hasCell_16 : decode cX3_hasCell 16 = .ok (.iconst 0, 1) := by decide +kernel
theorem dX3_hasCell_17 : decode cX3_hasCell 17 = .ok (.ireturn, 1) := by decide +kernel
theorem dX3_hasTrain_0 : decode cX3_hasTrain 0 = .ok (.iload_n 1, 1) := by decide +kernel
theorem dX3_hasTrain_1 : decode cX3_hasTrain 1 = .ok (.ifCond .lt 15, 3) := by decide +kernel
theorem dX3_hasTrain_4 : decode cX3_hasTrain 4 = .ok (.iload_n 1, 1) := by decide +kernel
theorem dX3_hasTrain_5 : decode cX3_hasTrain 5 = .ok (.aload_n 0, 1) := by decide +kernel
theorem dX3_hasTrain_6 : decode cX3_hasTrain 6 = .ok (.getfield 32, 3) := by decide +kernel
theorem dX3_hasTrain_9 : decode cX3_hasTrain 9 = .ok (.if_icmp .ge 7, 3) := by decide +kernel
theorem dX3_hasTrain_12 : decode cX3_hasTrain 12 = .ok (.iconst 1, 1) := by decide +kernel
theorem dX3_hasTrain_13 : decode cX3_hasTrain 13 = .ok (.goto 4, 3) := by decide +kernel
theorem dX3_hasTrain_16 : decode cX3_hasTrain 16 = .ok (.iconst 0, 1) := by decide +kernel
theorem dX3_hasTrain_17 : decode cX3_hasTrain 17 = .ok (.ireturn, 1) := by decide +kernel
theorem dX3_hasPlatform_0 : decode cX3_hasPlatform 0 = .ok (.iload_n 1, 1) := by decide +kernel
theorem dX3_hasPlatform_1 : decode cX3_hasPlatform 1 = .ok (.ifCond .lt 15, 3) := by decide +kernel
theorem dX3_hasPlatform_4 : decode cX3_hasPlatform 4 = .ok (.iload_n 1, 1) := by decide +kernel
theorem dX3_hasPlatform_5 : decode cX3_hasPlatform 5 = .ok (.aload_n 0, 1) := by decide +kernel
theorem dX3_hasPlatform_6 : decode cX3_hasPlatform 6 = .ok (.getfield 35, 3) := by decide +kernel
theorem dX3_hasPlatform_9 : decode cX3_hasPlatform 9 = .ok (.if_icmp .ge 7, 3) := by decide +kernel
theorem dX3_hasPlatform_12 : decode cX3_hasPlatform 12 = .ok (.iconst 1, 1) := by decide +kernel
theorem dX3_hasPlatform_13 : decode cX3_hasPlatform 13 = .ok (.goto 4, 3) := by decide +kernel
theorem dX3_hasPlatform_16 : decode cX3_hasPlatform 16 = .ok (.iconst 0, 1) := by decide +kernel
theorem dX3_hasPlatform_17 : decode cX3_hasPlatform 17 = .ok (.ireturn, 1) := by decide +kernel
theorem dX3_toldIn_0 : decode cX3_toldIn 0 = .ok (.iconst 0, 1) := by decide +kernel
theorem dX3_toldIn_1 : decode cX3_toldIn 1 = .ok (.istore_n 2, 1) := by decide +kernel
theorem dX3_toldIn_2 : decode cX3_toldIn 2 = .ok (.iconst 0, 1) := by decide +kernel
theorem dX3_toldIn_3 : decode cX3_toldIn 3 = .ok (.istore_n 3, 1) := by decide +kernel
theorem dX3_toldIn_4 : decode cX3_toldIn 4 = .ok (.iload_n 3, 1) := by decide +kernel
theorem dX3_toldIn_5 : decode cX3_toldIn 5 = .ok (.aload_n 0, 1) := by decide +kernel
theorem dX3_toldIn_6 : decode cX3_toldIn 6 = .ok (.getfield 35, 3) := by decide +kernel
theorem dX3_toldIn_9 : decode cX3_toldIn 9 = .ok (.if_icmp .ge 22, 3) := by decide +kernel
theorem dX3_toldIn_12 : decode cX3_toldIn 12 = .ok (.aload_n 0, 1) := by decide +kernel
theorem dX3_toldIn_13 : decode cX3_toldIn 13 = .ok (.getfield 18, 3) := by decide +kernel
theorem dX3_toldIn_16 : decode cX3_toldIn 16 = .ok (.iload_n 3, 1) := by decide +kernel
theorem dX3_toldIn_17 : decode cX3_toldIn 17 = .ok (.iaload, 1) := by decide +kernel
theorem dX3_toldIn_18 : decode cX3_toldIn 18 = .ok (.iload_n 1, 1) := by decide +kernel
theorem dX3_toldIn_19 : decode cX3_toldIn 19 = .ok (.if_icmp .ne 6, 3) := by decide +kernel
theorem dX3_toldIn_22 : decode cX3_toldIn 22 = .ok (.iinc 2 1, 3) := by decide +kernel
theorem dX3_toldIn_25 : decode cX3_toldIn 25 = .ok (.iinc 3 1, 3) := by decide +kernel
theorem dX3_toldIn_28 : decode cX3_toldIn 28 = .ok (.goto (-24), 3) := by decide +kernel
theorem dX3_toldIn_31 : decode cX3_toldIn 31 = .ok (.iload_n 2, 1) := by decide +kernel
theorem dX3_toldIn_32 : decode cX3_toldIn 32 = .ok (.ireturn, 1) := by decide +kernel
theorem dX3_standsIn_0 : decode cX3_standsIn 0 = .ok (.iconst 0, 1) := by decide +kernel
theorem dX3_standsIn_1 : decode cX3_standsIn 1 = .ok (.istore_n 2, 1) := by decide +kernel
theorem dX3_standsIn_2 : decode cX3_standsIn 2 = .ok (.iload_n 2, 1) := by decide +kernel
theorem dX3_standsIn_3 : decode cX3_standsIn 3 = .ok (.aload_n 0, 1) := by decide +kernel
theorem dX3_standsIn_4 : decode cX3_standsIn 4 = .ok (.getfield 32, 3) := by decide +kernel
theorem dX3_standsIn_7 : decode cX3_standsIn 7 = .ok (.if_icmp .ge 21, 3) := by decide +kernel
theorem dX3_standsIn_10 : decode cX3_standsIn 10 = .ok (.aload_n 0, 1) := by decide +kernel
theorem dX3_standsIn_11 : decode cX3_standsIn 11 = .ok (.getfield 9, 3) := by decide +kernel
theorem dX3_standsIn_14 : decode cX3_standsIn 14 = .ok (.iload_n 2, 1) := by decide +kernel
theorem dX3_standsIn_15 : decode cX3_standsIn 15 = .ok (.iaload, 1) := by decide +kernel
theorem dX3_standsIn_16 : decode cX3_standsIn 16 = .ok (.iload_n 1, 1) := by decide +kernel
theorem dX3_standsIn_17 : decode cX3_standsIn 17 = .ok (.if_icmp .ne 5, 3) := by decide +kernel
theorem dX3_standsIn_20 : decode cX3_standsIn 20 = .ok (.iconst 1, 1) := by decide +kernel
theorem dX3_standsIn_21 : decode cX3_standsIn 21 = .ok (.ireturn, 1) := by decide +kernel
theorem dX3_standsIn_22 : decode cX3_standsIn 22 = .ok (.iinc 2 1, 3) := by decide +kernel
theorem dX3_standsIn_25 : decode cX3_standsIn 25 = .ok (.goto (-23), 3) := by decide +kernel
theorem dX3_standsIn_28 : decode cX3_standsIn 28 = .ok (.iconst 0, 1) := by decide +kernel
theorem dX3_standsIn_29 : decode cX3_standsIn 29 = .ok (.ireturn, 1) := by decide +kernel
theorem dX3_addRing_0 : decode cX3_addRing 0 = .ok (.iload_n 1, 1) := by decide +kernel
theorem dX3_addRing_1 : decode cX3_addRing 1 = .ok (.iconst 4, 1) := by decide +kernel
theorem dX3_addRing_2 : decode cX3_addRing 2 = .ok (.if_icmp .lt 9, 3) := by decide +kernel
theorem dX3_addRing_5 : decode cX3_addRing 5 = .ok (.iload_n 1, 1) := by decide +kernel
theorem dX3_addRing_6 : decode cX3_addRing 6 = .ok (.bipush 24, 2) := by decide +kernel
theorem dX3_addRing_8 : decode cX3_addRing 8 = .ok (.if_icmp .le 5, 3) := by decide +kernel
theorem dX3_addRing_11 : decode cX3_addRing 11 = .ok (.iconst 0, 1) := by decide +kernel
theorem dX3_addRing_12 : decode cX3_addRing 12 = .ok (.ireturn, 1) := by decide +kernel
theorem dX3_addRing_13 : decode cX3_addRing 13 = .ok (.aload_n 0, 1) := by decide +kernel
theorem dX3_addRing_14 : decode cX3_addRing 14 = .ok (.iload_n 1, 1) := by decide +kernel
theorem dX3_addRing_15 : decode cX3_addRing 15 = .ok (.putfield 28, 3) := by decide +kernel
theorem dX3_addRing_18 : decode cX3_addRing 18 = .ok (.iconst 1, 1) := by decide +kernel
theorem dX3_addRing_19 : decode cX3_addRing 19 = .ok (.ireturn, 1) := by decide +kernel
theorem dX3_addTrain_0 : decode cX3_addTrain 0 = .ok (.aload_n 0, 1) := by decide +kernel
theorem dX3_addTrain_1 : decode cX3_addTrain 1 = .ok (.getfield 32, 3) := by decide +kernel
theorem dX3_addTrain_4 : decode cX3_addTrain 4 = .ok (.iconst 5, 1) := by decide +kernel
theorem dX3_addTrain_5 : decode cX3_addTrain 5 = .ok (.if_icmp .ge 11, 3) := by decide +kernel
theorem dX3_addTrain_8 : decode cX3_addTrain 8 = .ok (.aload_n 0, 1) := by decide +kernel
theorem dX3_addTrain_9 : decode cX3_addTrain 9 = .ok (.iload_n 1, 1) := by decide +kernel
theorem dX3_addTrain_10 : decode cX3_addTrain 10 = .ok (.invokevirtual 50, 3) := by decide +kernel
theorem dX3_addTrain_13 : decode cX3_addTrain 13 = .ok (.ifCond .ne 5, 3) := by decide +kernel
theorem dX3_addTrain_16 : decode cX3_addTrain 16 = .ok (.iconst 0, 1) := by decide +kernel
theorem dX3_addTrain_17 : decode cX3_addTrain 17 = .ok (.ireturn, 1) := by decide +kernel
theorem dX3_addTrain_18 : decode cX3_addTrain 18 = .ok (.aload_n 0, 1) := by decide +kernel
theorem dX3_addTrain_19 : decode cX3_addTrain 19 = .ok (.getfield 9, 3) := by decide +kernel
theorem dX3_addTrain_22 : decode cX3_addTrain 22 = .ok (.aload_n 0, 1) := by decide +kernel
theorem dX3_addTrain_23 : decode cX3_addTrain 23 = .ok (.getfield 32, 3) := by decide +kernel
theorem dX3_addTrain_26 : decode cX3_addTrain 26 = .ok (.iload_n 1, 1) := by decide +kernel
theorem dX3_addTrain_27 : decode cX3_addTrain 27 = .ok (.iastore, 1) := by decide +kernel
theorem dX3_addTrain_28 : decode cX3_addTrain 28 = .ok (.aload_n 0, 1) := by decide +kernel
theorem dX3_addTrain_29 : decode cX3_addTrain 29 = .ok (.dup, 1) := by decide +kernel
theorem dX3_addTrain_30 : decode cX3_addTrain 30 = .ok (.getfield 32, 3) := by decide +kernel
theorem dX3_addTrain_33 : decode cX3_addTrain 33 = .ok (.iconst 1, 1) := by decide +kernel
theorem dX3_addTrain_34 : decode cX3_addTrain 34 = .ok (.iadd, 1) := by decide +kernel
theorem dX3_addTrain_35 : decode cX3_addTrain 35 = .ok (.putfield 32, 3) := by decide +kernel
theorem dX3_addTrain_38 : decode cX3_addTrain 38 = .ok (.iconst 1, 1) := by decide +kernel
theorem dX3_addTrain_39 : decode cX3_addTrain 39 = .ok (.ireturn, 1) := by decide +kernel
theorem dX3_addPlatform_0 : decode cX3_addPlatform 0 = .ok (.aload_n 0, 1) := by decide +kernel
theorem dX3_addPlatform_1 : decode cX3_addPlatform 1 = .ok (.getfield 35, 3) := by decide +kernel
theorem dX3_addPlatform_4 : decode cX3_addPlatform 4 = .ok (.iconst 5, 1) := by decide +kernel
theorem dX3_addPlatform_5 : decode cX3_addPlatform 5 = .ok (.if_icmp .ge 16, 3) := by decide +kernel
theorem dX3_addPlatform_8 : decode cX3_addPlatform 8 = .ok (.iload_n 1, 1) := by decide +kernel
theorem dX3_addPlatform_9 : decode cX3_addPlatform 9 = .ok (.iconst 4, 1) := by decide +kernel
theorem dX3_addPlatform_10 : decode cX3_addPlatform 10 = .ok (.if_icmp .gt 11, 3) := by decide +kernel
theorem dX3_addPlatform_13 : decode cX3_addPlatform 13 = .ok (.aload_n 0, 1) := by decide +kernel
theorem dX3_addPlatform_14 : decode cX3_addPlatform 14 = .ok (.iload_n 2, 1) := by decide +kernel
theorem dX3_addPlatform_15 : decode cX3_addPlatform 15 = .ok (.invokevirtual 50, 3) := by decide +kernel
theorem dX3_addPlatform_18 : decode cX3_addPlatform 18 = .ok (.ifCond .ne 5, 3) := by decide +kernel
theorem dX3_addPlatform_21 : decode cX3_addPlatform 21 = .ok (.iconst 0, 1) := by decide +kernel
theorem dX3_addPlatform_22 : decode cX3_addPlatform 22 = .ok (.ireturn, 1) := by decide +kernel
theorem dX3_addPlatform_23 : decode cX3_addPlatform 23 = .ok (.iload_n 3, 1) := by decide +kernel
theorem dX3_addPlatform_24 : decode cX3_addPlatform 24 = .ok (.iconst 1, 1) := by decide +kernel
theorem dX3_addPlatform_25 : decode cX3_addPlatform 25 = .ok (.if_icmp .gt 10, 3) := by decide +kernel
theorem dX3_addPlatform_28 : decode cX3_addPlatform 28 = .ok (.iload 4, 2) := by decide +kernel
theorem dX3_addPlatform_30 : decode cX3_addPlatform 30 = .ok (.bipush 30, 2) := by decide +kernel
theorem dX3_addPlatform_32 : decode cX3_addPlatform 32 = .ok (.if_icmp .le 5, 3) := by decide +kernel
theorem dX3_addPlatform_35 : decode cX3_addPlatform 35 = .ok (.iconst 0, 1) := by decide +kernel
theorem dX3_addPlatform_36 : decode cX3_addPlatform 36 = .ok (.ireturn, 1) := by decide +kernel
theorem dX3_addPlatform_37 : decode cX3_addPlatform 37 = .ok (.aload_n 0, 1) := by decide +kernel
theorem dX3_addPlatform_38 : decode cX3_addPlatform 38 = .ok (.iload_n 2, 1) := by decide +kernel
theorem dX3_addPlatform_39 : decode cX3_addPlatform 39 = .ok (.invokevirtual 54, 3) := by decide +kernel
theorem dX3_addPlatform_42 : decode cX3_addPlatform 42 = .ok (.aload_n 0, 1) := by decide +kernel
theorem dX3_addPlatform_43 : decode cX3_addPlatform 43 = .ok (.getfield 24, 3) := by decide +kernel
theorem dX3_addPlatform_46 : decode cX3_addPlatform 46 = .ok (.getfield 47, 3) := by decide +kernel
theorem dX3_addPlatform_49 : decode cX3_addPlatform 49 = .ok (.iload_n 2, 1) := by decide +kernel
theorem dX3_addPlatform_50 : decode cX3_addPlatform 50 = .ok (.invokestatic 58, 3) := by decide +kernel
theorem dX3_addPlatform_53 : decode cX3_addPlatform 53 = .ok (.if_icmp .le 5, 3) := by decide +kernel
theorem dX3_addPlatform_56 : decode cX3_addPlatform 56 = .ok (.iconst 0, 1) := by decide +kernel
theorem dX3_addPlatform_57 : decode cX3_addPlatform 57 = .ok (.ireturn, 1) := by decide +kernel
theorem dX3_addPlatform_58 : decode cX3_addPlatform 58 = .ok (.aload_n 0, 1) := by decide +kernel
theorem dX3_addPlatform_59 : decode cX3_addPlatform 59 = .ok (.getfield 15, 3) := by decide +kernel
theorem dX3_addPlatform_62 : decode cX3_addPlatform 62 = .ok (.aload_n 0, 1) := by decide +kernel
theorem dX3_addPlatform_63 : decode cX3_addPlatform 63 = .ok (.getfield 35, 3) := by decide +kernel
theorem dX3_addPlatform_66 : decode cX3_addPlatform 66 = .ok (.iload_n 1, 1) := by decide +kernel
theorem dX3_addPlatform_67 : decode cX3_addPlatform 67 = .ok (.iastore, 1) := by decide +kernel
theorem dX3_addPlatform_68 : decode cX3_addPlatform 68 = .ok (.aload_n 0, 1) := by decide +kernel
theorem dX3_addPlatform_69 : decode cX3_addPlatform 69 = .ok (.getfield 18, 3) := by decide +kernel
theorem dX3_addPlatform_72 : decode cX3_addPlatform 72 = .ok (.aload_n 0, 1) := by decide +kernel
theorem dX3_addPlatform_73 : decode cX3_addPlatform 73 = .ok (.getfield 35, 3) := by decide +kernel
theorem dX3_addPlatform_76 : decode cX3_addPlatform 76 = .ok (.iload_n 2, 1) := by decide +kernel
theorem dX3_addPlatform_77 : decode cX3_addPlatform 77 = .ok (.iastore, 1) := by decide +kernel
theorem dX3_addPlatform_78 : decode cX3_addPlatform 78 = .ok (.aload_n 0, 1) := by decide +kernel
theorem dX3_addPlatform_79 : decode cX3_addPlatform 79 = .ok (.dup, 1) := by decide +kernel
theorem dX3_addPlatform_80 : decode cX3_addPlatform 80 = .ok (.getfield 38, 3) := by decide +kernel
theorem dX3_addPlatform_83 : decode cX3_addPlatform 83 = .ok (.iload_n 3, 1) := by decide +kernel
theorem dX3_addPlatform_84 : decode cX3_addPlatform 84 = .ok (.aload_n 0, 1) := by decide +kernel
theorem dX3_addPlatform_85 : decode cX3_addPlatform 85 = .ok (.getfield 35, 3) := by decide +kernel
theorem dX3_addPlatform_88 : decode cX3_addPlatform 88 = .ok (.ishl, 1) := by decide +kernel
theorem dX3_addPlatform_89 : decode cX3_addPlatform 89 = .ok (.ior, 1) := by decide +kernel
theorem dX3_addPlatform_90 : decode cX3_addPlatform 90 = .ok (.putfield 38, 3) := by decide +kernel
theorem dX3_addPlatform_93 : decode cX3_addPlatform 93 = .ok (.aload_n 0, 1) := by decide +kernel
theorem dX3_addPlatform_94 : decode cX3_addPlatform 94 = .ok (.getfield 24, 3) := by decide +kernel
theorem dX3_addPlatform_97 : decode cX3_addPlatform 97 = .ok (.getfield 62, 3) := by decide +kernel
theorem dX3_addPlatform_100 : decode cX3_addPlatform 100 = .ok (.aload_n 0, 1) := by decide +kernel
theorem dX3_addPlatform_101 : decode cX3_addPlatform 101 = .ok (.getfield 35, 3) := by decide +kernel
theorem dX3_addPlatform_104 : decode cX3_addPlatform 104 = .ok (.iload 4, 2) := by decide +kernel
theorem dX3_addPlatform_106 : decode cX3_addPlatform 106 = .ok (.iastore, 1) := by decide +kernel
theorem dX3_addPlatform_107 : decode cX3_addPlatform 107 = .ok (.aload_n 0, 1) := by decide +kernel
theorem dX3_addPlatform_108 : decode cX3_addPlatform 108 = .ok (.dup, 1) := by decide +kernel
theorem dX3_addPlatform_109 : decode cX3_addPlatform 109 = .ok (.getfield 35, 3) := by decide +kernel
theorem dX3_addPlatform_112 : decode cX3_addPlatform 112 = .ok (.iconst 1, 1) := by decide +kernel
theorem dX3_addPlatform_113 : decode cX3_addPlatform 113 = .ok (.iadd, 1) := by decide +kernel
theorem dX3_addPlatform_114 : decode cX3_addPlatform 114 = .ok (.putfield 35, 3) := by decide +kernel
theorem dX3_addPlatform_117 : decode cX3_addPlatform 117 = .ok (.iconst 1, 1) := by decide +kernel
theorem dX3_addPlatform_118 : decode cX3_addPlatform 118 = .ok (.ireturn, 1) := by decide +kernel
theorem dX3_addPassing_0 : decode cX3_addPassing 0 = .ok (.aload_n 0, 1) := by decide +kernel
theorem dX3_addPassing_1 : decode cX3_addPassing 1 = .ok (.iload_n 1, 1) := by decide +kernel
theorem dX3_addPassing_2 : decode cX3_addPassing 2 = .ok (.invokevirtual 50, 3) := by decide +kernel
theorem dX3_addPassing_5 : decode cX3_addPassing 5 = .ok (.ifCond .ne 5, 3) := by decide +kernel
theorem dX3_addPassing_8 : decode cX3_addPassing 8 = .ok (.iconst 0, 1) := by decide +kernel
theorem dX3_addPassing_9 : decode cX3_addPassing 9 = .ok (.ireturn, 1) := by decide +kernel
theorem dX3_addPassing_10 : decode cX3_addPassing 10 = .ok (.aload_n 0, 1) := by decide +kernel
theorem dX3_addPassing_11 : decode cX3_addPassing 11 = .ok (.getfield 24, 3) := by decide +kernel
theorem dX3_addPassing_14 : decode cX3_addPassing 14 = .ok (.dup, 1) := by decide +kernel
theorem dX3_addPassing_15 : decode cX3_addPassing 15 = .ok (.getfield 47, 3) := by decide +kernel
theorem dX3_addPassing_18 : decode cX3_addPassing 18 = .ok (.iconst 1, 1) := by decide +kernel
theorem dX3_addPassing_19 : decode cX3_addPassing 19 = .ok (.iload_n 1, 1) := by decide +kernel
theorem dX3_addPassing_20 : decode cX3_addPassing 20 = .ok (.ishl, 1) := by decide +kernel
theorem dX3_addPassing_21 : decode cX3_addPassing 21 = .ok (.ior, 1) := by decide +kernel
theorem dX3_addPassing_22 : decode cX3_addPassing 22 = .ok (.putfield 47, 3) := by decide +kernel
theorem dX3_addPassing_25 : decode cX3_addPassing 25 = .ok (.iconst 1, 1) := by decide +kernel
theorem dX3_addPassing_26 : decode cX3_addPassing 26 = .ok (.ireturn, 1) := by decide +kernel
theorem dX3_addRain_0 : decode cX3_addRain 0 = .ok (.aload_n 0, 1) := by decide +kernel
theorem dX3_addRain_1 : decode cX3_addRain 1 = .ok (.iload_n 1, 1) := by decide +kernel
theorem dX3_addRain_2 : decode cX3_addRain 2 = .ok (.invokevirtual 50, 3) := by decide +kernel
theorem dX3_addRain_5 : decode cX3_addRain 5 = .ok (.ifCond .ne 5, 3) := by decide +kernel
theorem dX3_addRain_8 : decode cX3_addRain 8 = .ok (.iconst 0, 1) := by decide +kernel
theorem dX3_addRain_9 : decode cX3_addRain 9 = .ok (.ireturn, 1) := by decide +kernel
theorem dX3_addRain_10 : decode cX3_addRain 10 = .ok (.aload_n 0, 1) := by decide +kernel
theorem dX3_addRain_11 : decode cX3_addRain 11 = .ok (.dup, 1) := by decide +kernel
theorem dX3_addRain_12 : decode cX3_addRain 12 = .ok (.getfield 41, 3) := by decide +kernel
theorem dX3_addRain_15 : decode cX3_addRain 15 = .ok (.iconst 1, 1) := by decide +kernel
theorem dX3_addRain_16 : decode cX3_addRain 16 = .ok (.iload_n 1, 1) := by decide +kernel
theorem dX3_addRain_17 : decode cX3_addRain 17 = .ok (.ishl, 1) := by decide +kernel
theorem dX3_addRain_18 : decode cX3_addRain 18 = .ok (.ior, 1) := by decide +kernel
theorem dX3_addRain_19 : decode cX3_addRain 19 = .ok (.putfield 41, 3) := by decide +kernel
theorem dX3_addRain_22 : decode cX3_addRain 22 = .ok (.iconst 1, 1) := by decide +kernel
theorem dX3_addRain_23 : decode cX3_addRain 23 = .ok (.ireturn, 1) := by decide +kernel
theorem dX3_nextCell_0 : decode cX3_nextCell 0 = .ok (.iload_n 2, 1) := by decide +kernel
theorem dX3_nextCell_1 : decode cX3_nextCell 1 = .ok (.ifCond .eq 20, 3) := by decide +kernel
theorem dX3_nextCell_4 : decode cX3_nextCell 4 = .ok (.iload_n 1, 1) := by decide +kernel
theorem dX3_nextCell_5 : decode cX3_nextCell 5 = .ok (.ifCond .le 9, 3) := by decide +kernel
theorem dX3_nextCell_8 : decode cX3_nextCell 8 = .ok (.iload_n 1, 1) := by decide +kernel
theorem dX3_nextCell_9 : decode cX3_nextCell 9 = .ok (.iconst 1, 1) := by decide +kernel
theorem dX3_nextCell_10 : decode cX3_nextCell 10 = .ok (.isub, 1) := by decide +kernel
theorem dX3_nextCell_11 : decode cX3_nextCell 11 = .ok (.goto 9, 3) := by decide +kernel
theorem dX3_nextCell_14 : decode cX3_nextCell 14 = .ok (.aload_n 0, 1) := by decide +kernel
theorem dX3_nextCell_15 : decode cX3_nextCell 15 = .ok (.getfield 28, 3) := by decide +kernel
theorem dX3_nextCell_18 : decode cX3_nextCell 18 = .ok (.iconst 1, 1) := by decide +kernel
theorem dX3_nextCell_19 : decode cX3_nextCell 19 = .ok (.isub, 1) := by decide +kernel
theorem dX3_nextCell_20 : decode cX3_nextCell 20 = .ok (.ireturn, 1) := by decide +kernel
theorem dX3_nextCell_21 : decode cX3_nextCell 21 = .ok (.iload_n 1, 1) := by decide +kernel
theorem dX3_nextCell_22 : decode cX3_nextCell 22 = .ok (.iconst 1, 1) := by decide +kernel
theorem dX3_nextCell_23 : decode cX3_nextCell 23 = .ok (.iadd, 1) := by decide +kernel
theorem dX3_nextCell_24 : decode cX3_nextCell 24 = .ok (.aload_n 0, 1) := by decide +kernel
theorem dX3_nextCell_25 : decode cX3_nextCell 25 = .ok (.getfield 28, 3) := by decide +kernel
theorem dX3_nextCell_28 : decode cX3_nextCell 28 = .ok (.if_icmp .ge 9, 3) := by decide +kernel
theorem dX3_nextCell_31 : decode cX3_nextCell 31 = .ok (.iload_n 1, 1) := by decide +kernel
theorem dX3_nextCell_32 : decode cX3_nextCell 32 = .ok (.iconst 1, 1) := by decide +kernel
theorem dX3_nextCell_33 : decode cX3_nextCell 33 = .ok (.iadd, 1) := by decide +kernel
theorem dX3_nextCell_34 : decode cX3_nextCell 34 = .ok (.goto 4, 3) := by decide +kernel
theorem dX3_nextCell_37 : decode cX3_nextCell 37 = .ok (.iconst 0, 1) := by decide +kernel
theorem dX3_nextCell_38 : decode cX3_nextCell 38 = .ok (.ireturn, 1) := by decide +kernel
theorem dX3_byRound_0 : decode cX3_byRound 0 = .ok (.iconst 2, 1) := by decide +kernel
theorem dX3_byRound_1 : decode cX3_byRound 1 = .ok (.iload_n 1, 1) := by decide +kernel
theorem dX3_byRound_2 : decode cX3_byRound 2 = .ok (.imul, 1) := by decide +kernel
theorem dX3_byRound_3 : decode cX3_byRound 3 = .ok (.aload_n 0, 1) := by decide +kernel
theorem dX3_byRound_4 : decode cX3_byRound 4 = .ok (.getfield 28, 3) := by decide +kernel
theorem dX3_byRound_7 : decode cX3_byRound 7 = .ok (.if_icmp .le 10, 3) := by decide +kernel
theorem dX3_byRound_10 : decode cX3_byRound 10 = .ok (.iload_n 1, 1) := by decide +kernel
theorem dX3_byRound_11 : decode cX3_byRound 11 = .ok (.aload_n 0, 1) := by decide +kernel
theorem dX3_byRound_12 : decode cX3_byRound 12 = .ok (.getfield 28, 3) := by decide +kernel
theorem dX3_byRound_15 : decode cX3_byRound 15 = .ok (.isub, 1) := by decide +kernel
theorem dX3_byRound_16 : decode cX3_byRound 16 = .ok (.ireturn, 1) := by decide +kernel
theorem dX3_byRound_17 : decode cX3_byRound 17 = .ok (.iconst 2, 1) := by decide +kernel
theorem dX3_byRound_18 : decode cX3_byRound 18 = .ok (.iload_n 1, 1) := by decide +kernel
theorem dX3_byRound_19 : decode cX3_byRound 19 = .ok (.imul, 1) := by decide +kernel
theorem dX3_byRound_20 : decode cX3_byRound 20 = .ok (.aload_n 0, 1) := by decide +kernel
theorem dX3_byRound_21 : decode cX3_byRound 21 = .ok (.getfield 28, 3) := by decide +kernel
theorem dX3_byRound_24 : decode cX3_byRound 24 = .ok (.ineg, 1) := by decide +kernel
theorem dX3_byRound_25 : decode cX3_byRound 25 = .ok (.if_icmp .gt 12, 3) := by decide +kernel
theorem dX3_byRound_28 : decode cX3_byRound 28 = .ok (.iload_n 1, 1) := by decide +kernel
theorem dX3_byRound_29 : decode cX3_byRound 29 = .ok (.aload_n 0, 1) := by decide +kernel
theorem dX3_byRound_30 : decode cX3_byRound 30 = .ok (.getfield 28, 3) := by decide +kernel
theorem dX3_byRound_33 : decode cX3_byRound 33 = .ok (.iadd, 1) := by decide +kernel
theorem dX3_byRound_34 : decode cX3_byRound 34 = .ok (.goto 4, 3) := by decide +kernel
theorem dX3_byRound_37 : decode cX3_byRound 37 = .ok (.iload_n 1, 1) := by decide +kernel
theorem dX3_byRound_38 : decode cX3_byRound 38 = .ok (.ireturn, 1) := by decide +kernel
theorem dX4_init_0 : decode cX4_init 0 = .ok (.aload_n 0, 1) := by decide +kernel
theorem dX4_init_1 : decode cX4_init 1 = .ok (.invokespecial 3, 3) := by decide +kernel
theorem dX4_init_4 : decode cX4_init 4 = .ok (.aload_n 0, 1) := by decide +kernel
theorem dX4_init_5 : decode cX4_init 5 = .ok (.iconst 5, 1) := by decide +kernel
theorem dX4_init_6 : decode cX4_init 6 = .ok (.newarray .int, 2) := by decide +kernel
theorem dX4_init_8 : decode cX4_init 8 = .ok (.putfield 9, 3) := by decide +kernel
theorem dX4_init_11 : decode cX4_init 11 = .ok (.aload_n 0, 1) := by decide +kernel
theorem dX4_init_12 : decode cX4_init 12 = .ok (.iconst 5, 1) := by decide +kernel
theorem dX4_init_13 : decode cX4_init 13 = .ok (.newarray .int, 2) := by decide +kernel
theorem dX4_init_15 : decode cX4_init 15 = .ok (.putfield 15, 3) := by decide +kernel
theorem dX4_init_18 : decode cX4_init 18 = .ok (.aload_n 0, 1) := by decide +kernel
theorem dX4_init_19 : decode cX4_init 19 = .ok (.aload_n 1, 1) := by decide +kernel
theorem dX4_init_20 : decode cX4_init 20 = .ok (.putfield 18, 3) := by decide +kernel
theorem dX4_init_23 : decode cX4_init 23 = .ok (.return_, 1) := by decide +kernel
theorem dX4_ride_0 : decode cX4_ride 0 = .ok (.iconst 0, 1) := by decide +kernel
theorem dX4_ride_1 : decode cX4_ride 1 = .ok (.istore_n 3, 1) := by decide +kernel
theorem dX4_ride_2 : decode cX4_ride 2 = .ok (.iload_n 3, 1) := by decide +kernel
theorem dX4_ride_3 : decode cX4_ride 3 = .ok (.iconst 5, 1) := by decide +kernel
theorem dX4_ride_4 : decode cX4_ride 4 = .ok (.if_icmp .ge 26, 3) := by decide +kernel
theorem dX4_ride_7 : decode cX4_ride 7 = .ok (.aload_n 0, 1) := by decide +kernel
theorem dX4_ride_8 : decode cX4_ride 8 = .ok (.getfield 9, 3) := by decide +kernel
theorem dX4_ride_11 : decode cX4_ride 11 = .ok (.iload_n 3, 1) := by decide +kernel
theorem dX4_ride_12 : decode cX4_ride 12 = .ok (.iload_n 3, 1) := by decide +kernel
theorem dX4_ride_13 : decode cX4_ride 13 = .ok (.iload_n 1, 1) := by decide +kernel
theorem dX4_ride_14 : decode cX4_ride 14 = .ok (.if_icmp .ne 7, 3) := by decide +kernel
theorem dX4_ride_17 : decode cX4_ride 17 = .ok (.iconst 0, 1) := by decide +kernel
theorem dX4_ride_18 : decode cX4_ride 18 = .ok (.goto 5, 3) := by decide +kernel
theorem dX4_ride_21 : decode cX4_ride 21 = .ok (.ldc 22, 2) := by decide +kernel
theorem dX4_ride_23 : decode cX4_ride 23 = .ok (.iastore, 1) := by decide +kernel
theorem dX4_ride_24 : decode cX4_ride 24 = .ok (.iinc 3 1, 3) := by decide +kernel
theorem dX4_ride_27 : decode cX4_ride 27 = .ok (.goto (-25), 3) := by decide +kernel
theorem dX4_ride_30 : decode cX4_ride 30 = .ok (.iconst 0, 1) := by decide +kernel
theorem dX4_ride_31 : decode cX4_ride 31 = .ok (.istore_n 3, 1) := by decide +kernel
theorem dX4_ride_32 : decode cX4_ride 32 = .ok (.iload_n 3, 1) := by decide +kernel
theorem dX4_ride_33 : decode cX4_ride 33 = .ok (.iconst 5, 1) := by decide +kernel
theorem dX4_ride_34 : decode cX4_ride 34 = .ok (.if_icmp .ge 17, 3) := by decide +kernel
theorem dX4_ride_37 : decode cX4_ride 37 = .ok (.aload_n 0, 1) := by decide +kernel
theorem dX4_ride_38 : decode cX4_ride 38 = .ok (.getfield 15, 3) := by decide +kernel
theorem dX4_ride_41 : decode cX4_ride 41 = .ok (.iload_n 3, 1) := by decide +kernel
theorem dX4_ride_42 : decode cX4_ride 42 = .ok (.ldc 22, 2) := by decide +kernel
theorem dX4_ride_44 : decode cX4_ride 44 = .ok (.iastore, 1) := by decide +kernel
theorem dX4_ride_45 : decode cX4_ride 45 = .ok (.iinc 3 1, 3) := by decide +kernel
theorem dX4_ride_48 : decode cX4_ride 48 = .ok (.goto (-16), 3) := by decide +kernel
theorem dX4_ride_51 : decode cX4_ride 51 = .ok (.aload_n 0, 1) := by decide +kernel
theorem dX4_ride_52 : decode cX4_ride 52 = .ok (.getfield 18, 3) := by decide +kernel
theorem dX4_ride_55 : decode cX4_ride 55 = .ok (.invokevirtual 23, 3) := by decide +kernel
theorem dX4_ride_58 : decode cX4_ride 58 = .ok (.iconst 0, 1) := by decide +kernel
theorem dX4_ride_59 : decode cX4_ride 59 = .ok (.istore_n 3, 1) := by decide +kernel
theorem dX4_ride_60 : decode cX4_ride 60 = .ok (.iload_n 3, 1) := by decide +kernel
theorem dX4_ride_61 : decode cX4_ride 61 = .ok (.bipush 60, 2) := by decide +kernel
theorem dX4_ride_63 : decode cX4_ride 63 = .ok (.if_icmp .gt 34, 3) := by decide +kernel
theorem dX4_ride_66 : decode cX4_ride 66 = .ok (.aload_n 0, 1) := by decide +kernel
theorem dX4_ride_67 : decode cX4_ride 67 = .ok (.getfield 18, 3) := by decide +kernel
theorem dX4_ride_70 : decode cX4_ride 70 = .ok (.iload_n 3, 1) := by decide +kernel
theorem dX4_ride_71 : decode cX4_ride 71 = .ok (.invokevirtual 28, 3) := by decide +kernel
theorem dX4_ride_74 : decode cX4_ride 74 = .ok (.aload_n 0, 1) := by decide +kernel
theorem dX4_ride_75 : decode cX4_ride 75 = .ok (.invokevirtual 32, 3) := by decide +kernel
theorem dX4_ride_78 : decode cX4_ride 78 = .ok (.aload_n 0, 1) := by decide +kernel
theorem dX4_ride_79 : decode cX4_ride 79 = .ok (.getfield 9, 3) := by decide +kernel
theorem dX4_ride_82 : decode cX4_ride 82 = .ok (.iload_n 2, 1) := by decide +kernel
theorem dX4_ride_83 : decode cX4_ride 83 = .ok (.iaload, 1) := by decide +kernel
theorem dX4_ride_84 : decode cX4_ride 84 = .ok (.ldc 22, 2) := by decide +kernel
theorem dX4_ride_86 : decode cX4_ride 86 = .ok (.if_icmp .ge 5, 3) := by decide +kernel
theorem dX4_ride_89 : decode cX4_ride 89 = .ok (.iload_n 3, 1) := by decide +kernel
theorem dX4_ride_90 : decode cX4_ride 90 = .ok (.ireturn, 1) := by decide +kernel
theorem dX4_ride_91 : decode cX4_ride 91 = .ok (.iinc 3 1, 3) := by decide +kernel
theorem dX4_ride_94 : decode cX4_ride 94 = .ok (.goto (-34), 3) := by decide +kernel
theorem dX4_ride_97 : decode cX4_ride 97 = .ok (.bipush (-4), 2) := by decide +kernel
theorem dX4_ride_99 : decode cX4_ride 99 = .ok (.ireturn, 1) := by decide +kernel
theorem dX4_change_0 : decode cX4_change 0 = .ok (.aload_n 0, 1) := by decide +kernel
theorem dX4_change_1 : decode cX4_change 1 = .ok (.invokevirtual 35, 3) := by decide +kernel
theorem dX4_change_4 : decode cX4_change 4 = .ok (.aload_n 0, 1) := by decide +kernel
theorem dX4_change_5 : decode cX4_change 5 = .ok (.invokevirtual 38, 3) := by decide +kernel
theorem dX4_change_8 : decode cX4_change 8 = .ok (.aload_n 0, 1) := by decide +kernel
theorem dX4_change_9 : decode cX4_change 9 = .ok (.invokevirtual 35, 3) := by decide +kernel
theorem dX4_change_12 : decode cX4_change 12 = .ok (.return_, 1) := by decide +kernel
theorem dX4_getOn_0 : decode cX4_getOn 0 = .ok (.iconst 0, 1) := by decide +kernel
theorem dX4_getOn_1 : decode cX4_getOn 1 = .ok (.istore_n 1, 1) := by decide +kernel
theorem dX4_getOn_2 : decode cX4_getOn 2 = .ok (.iload_n 1, 1) := by decide +kernel
theorem dX4_getOn_3 : decode cX4_getOn 3 = .ok (.aload_n 0, 1) := by decide +kernel
theorem dX4_getOn_4 : decode cX4_getOn 4 = .ok (.getfield 18, 3) := by decide +kernel
theorem dX4_getOn_7 : decode cX4_getOn 7 = .ok (.getfield 41, 3) := by decide +kernel
theorem dX4_getOn_10 : decode cX4_getOn 10 = .ok (.getfield 45, 3) := by decide +kernel
theorem dX4_getOn_13 : decode cX4_getOn 13 = .ok (.if_icmp .ge 66, 3) := by decide +kernel
theorem dX4_getOn_16 : decode cX4_getOn 16 = .ok (.iconst 0, 1) := by decide +kernel
theorem dX4_getOn_17 : decode cX4_getOn 17 = .ok (.istore_n 2, 1) := by decide +kernel
theorem dX4_getOn_18 : decode cX4_getOn 18 = .ok (.iload_n 2, 1) := by decide +kernel
theorem dX4_getOn_19 : decode cX4_getOn 19 = .ok (.aload_n 0, 1) := by decide +kernel
theorem dX4_getOn_20 : decode cX4_getOn 20 = .ok (.getfield 18, 3) := by decide +kernel
theorem dX4_getOn_23 : decode cX4_getOn 23 = .ok (.getfield 41, 3) := by decide +kernel
theorem dX4_getOn_26 : decode cX4_getOn 26 = .ok (.getfield 51, 3) := by decide +kernel
theorem dX4_getOn_29 : decode cX4_getOn 29 = .ok (.if_icmp .ge 44, 3) := by decide +kernel
theorem dX4_getOn_32 : decode cX4_getOn 32 = .ok (.aload_n 0, 1) := by decide +kernel
theorem dX4_getOn_33 : decode cX4_getOn 33 = .ok (.getfield 18, 3) := by decide +kernel
theorem dX4_getOn_36 : decode cX4_getOn 36 = .ok (.iload_n 1, 1) := by decide +kernel
theorem dX4_getOn_37 : decode cX4_getOn 37 = .ok (.iload_n 2, 1) := by decide +kernel
theorem dX4_getOn_38 : decode cX4_getOn 38 = .ok (.invokevirtual 54, 3) := by decide +kernel
theorem dX4_getOn_41 : decode cX4_getOn 41 = .ok (.ifCond .eq 26, 3) := by decide +kernel
theorem dX4_getOn_44 : decode cX4_getOn 44 = .ok (.aload_n 0, 1) := by decide +kernel
theorem dX4_getOn_45 : decode cX4_getOn 45 = .ok (.getfield 15, 3) := by decide +kernel
theorem dX4_getOn_48 : decode cX4_getOn 48 = .ok (.iload_n 1, 1) := by decide +kernel
theorem dX4_getOn_49 : decode cX4_getOn 49 = .ok (.aload_n 0, 1) := by decide +kernel
theorem dX4_getOn_50 : decode cX4_getOn 50 = .ok (.getfield 15, 3) := by decide +kernel
theorem dX4_getOn_53 : decode cX4_getOn 53 = .ok (.iload_n 1, 1) := by decide +kernel
theorem dX4_getOn_54 : decode cX4_getOn 54 = .ok (.iaload, 1) := by decide +kernel
theorem dX4_getOn_55 : decode cX4_getOn 55 = .ok (.aload_n 0, 1) := by decide +kernel
theorem dX4_getOn_56 : decode cX4_getOn 56 = .ok (.getfield 9, 3) := by decide +kernel
theorem dX4_getOn_59 : decode cX4_getOn 59 = .ok (.iload_n 2, 1) := by decide +kernel
theorem dX4_getOn_60 : decode cX4_getOn 60 = .ok (.iaload, 1) := by decide +kernel
theorem dX4_getOn_61 : decode cX4_getOn 61 = .ok (.iconst 1, 1) := by decide +kernel
theorem dX4_getOn_62 : decode cX4_getOn 62 = .ok (.iadd, 1) := by decide +kernel
theorem dX4_getOn_63 : decode cX4_getOn 63 = .ok (.invokestatic 58, 3) := by decide +kernel
theorem dX4_getOn_66 : decode cX4_getOn 66 = .ok (.iastore, 1) := by decide +kernel
theorem dX4_getOn_67 : decode cX4_getOn 67 = .ok (.iinc 2 1, 3) := by decide +kernel
theorem dX4_getOn_70 : decode cX4_getOn 70 = .ok (.goto (-52), 3) := by decide +kernel
theorem dX4_getOn_73 : decode cX4_getOn 73 = .ok (.iinc 1 1, 3) := by decide +kernel
theorem dX4_getOn_76 : decode cX4_getOn 76 = .ok (.goto (-74), 3) := by decide +kernel
theorem dX4_getOn_79 : decode cX4_getOn 79 = .ok (.return_, 1) := by decide +kernel
theorem dX4_getOff_0 : decode cX4_getOff 0 = .ok (.iconst 0, 1) := by decide +kernel
theorem dX4_getOff_1 : decode cX4_getOff 1 = .ok (.istore_n 1, 1) := by decide +kernel
theorem dX4_getOff_2 : decode cX4_getOff 2 = .ok (.iload_n 1, 1) := by decide +kernel
theorem dX4_getOff_3 : decode cX4_getOff 3 = .ok (.aload_n 0, 1) := by decide +kernel
theorem dX4_getOff_4 : decode cX4_getOff 4 = .ok (.getfield 18, 3) := by decide +kernel
theorem dX4_getOff_7 : decode cX4_getOff 7 = .ok (.getfield 41, 3) := by decide +kernel
theorem dX4_getOff_10 : decode cX4_getOff 10 = .ok (.getfield 45, 3) := by decide +kernel
theorem dX4_getOff_13 : decode cX4_getOff 13 = .ok (.if_icmp .ge 64, 3) := by decide +kernel
theorem dX4_getOff_16 : decode cX4_getOff 16 = .ok (.iconst 0, 1) := by decide +kernel
theorem dX4_getOff_17 : decode cX4_getOff 17 = .ok (.istore_n 2, 1) := by decide +kernel
theorem dX4_getOff_18 : decode cX4_getOff 18 = .ok (.iload_n 2, 1) := by decide +kernel
theorem dX4_getOff_19 : decode cX4_getOff 19 = .ok (.aload_n 0, 1) := by decide +kernel
theorem dX4_getOff_20 : decode cX4_getOff 20 = .ok (.getfield 18, 3) := by decide +kernel
theorem dX4_getOff_23 : decode cX4_getOff 23 = .ok (.getfield 41, 3) := by decide +kernel
theorem dX4_getOff_26 : decode cX4_getOff 26 = .ok (.getfield 51, 3) := by decide +kernel
theorem dX4_getOff_29 : decode cX4_getOff 29 = .ok (.if_icmp .ge 42, 3) := by decide +kernel
theorem dX4_getOff_32 : decode cX4_getOff 32 = .ok (.aload_n 0, 1) := by decide +kernel
theorem dX4_getOff_33 : decode cX4_getOff 33 = .ok (.getfield 18, 3) := by decide +kernel
theorem dX4_getOff_36 : decode cX4_getOff 36 = .ok (.iload_n 1, 1) := by decide +kernel
theorem dX4_getOff_37 : decode cX4_getOff 37 = .ok (.iload_n 2, 1) := by decide +kernel
theorem dX4_getOff_38 : decode cX4_getOff 38 = .ok (.invokevirtual 54, 3) := by decide +kernel
theorem dX4_getOff_41 : decode cX4_getOff 41 = .ok (.ifCond .eq 24, 3) := by decide +kernel
theorem dX4_getOff_44 : decode cX4_getOff 44 = .ok (.aload_n 0, 1) := by decide +kernel
theorem dX4_getOff_45 : decode cX4_getOff 45 = .ok (.getfield 9, 3) := by decide +kernel
theorem dX4_getOff_48 : decode cX4_getOff 48 = .ok (.iload_n 2, 1) := by decide +kernel
theorem dX4_getOff_49 : decode cX4_getOff 49 = .ok (.aload_n 0, 1) := by decide +kernel
theorem dX4_getOff_50 : decode cX4_getOff 50 = .ok (.getfield 9, 3) := by decide +kernel
theorem dX4_getOff_53 : decode cX4_getOff 53 = .ok (.iload_n 2, 1) := by decide +kernel
theorem dX4_getOff_54 : decode cX4_getOff 54 = .ok (.iaload, 1) := by decide +kernel
theorem dX4_getOff_55 : decode cX4_getOff 55 = .ok (.aload_n 0, 1) := by decide +kernel
theorem dX4_getOff_56 : decode cX4_getOff 56 = .ok (.getfield 15, 3) := by decide +kernel
theorem dX4_getOff_59 : decode cX4_getOff 59 = .ok (.iload_n 1, 1) := by decide +kernel
theorem dX4_getOff_60 : decode cX4_getOff 60 = .ok (.iaload, 1) := by decide +kernel
theorem dX4_getOff_61 : decode cX4_getOff 61 = .ok (.invokestatic 58, 3) := by decide +kernel
theorem dX4_getOff_64 : decode cX4_getOff 64 = .ok (.iastore, 1) := by decide +kernel
theorem dX4_getOff_65 : decode cX4_getOff 65 = .ok (.iinc 2 1, 3) := by decide +kernel
theorem dX4_getOff_68 : decode cX4_getOff 68 = .ok (.goto (-50), 3) := by decide +kernel
theorem dX4_getOff_71 : decode cX4_getOff 71 = .ok (.iinc 1 1, 3) := by decide +kernel
theorem dX4_getOff_74 : decode cX4_getOff 74 = .ok (.goto (-72), 3) := by decide +kernel
theorem dX4_getOff_77 : decode cX4_getOff 77 = .ok (.return_, 1) := by decide +kernel
theorem dX5_init_0 : decode cX5_init 0 = .ok (.aload_n 0, 1) := by decide +kernel
theorem dX5_init_1 : decode cX5_init 1 = .ok (.invokespecial 3, 3) := by decide +kernel
theorem dX5_init_4 : decode cX5_init 4 = .ok (.aload_n 0, 1) := by decide +kernel
theorem dX5_init_5 : decode cX5_init 5 = .ok (.new 9, 3) := by decide +kernel
theorem dX5_init_8 : decode cX5_init 8 = .ok (.dup, 1) := by decide +kernel
theorem dX5_init_9 : decode cX5_init 9 = .ok (.invokespecial 11, 3) := by decide +kernel
theorem dX5_init_12 : decode cX5_init 12 = .ok (.putfield 12, 3) := by decide +kernel
theorem dX5_init_15 : decode cX5_init 15 = .ok (.aload_n 0, 1) := by decide +kernel
theorem dX5_init_16 : decode cX5_init 16 = .ok (.iconst 5, 1) := by decide +kernel
theorem dX5_init_17 : decode cX5_init 17 = .ok (.newarray .int, 2) := by decide +kernel
theorem dX5_init_19 : decode cX5_init 19 = .ok (.putfield 18, 3) := by decide +kernel
theorem dX5_init_22 : decode cX5_init 22 = .ok (.aload_n 0, 1) := by decide +kernel
theorem dX5_init_23 : decode cX5_init 23 = .ok (.iconst 5, 1) := by decide +kernel
theorem dX5_init_24 : decode cX5_init 24 = .ok (.newarray .int, 2) := by decide +kernel
theorem dX5_init_26 : decode cX5_init 26 = .ok (.putfield 22, 3) := by decide +kernel
theorem dX5_init_29 : decode cX5_init 29 = .ok (.aload_n 0, 1) := by decide +kernel
theorem dX5_init_30 : decode cX5_init 30 = .ok (.iconst 5, 1) := by decide +kernel
theorem dX5_init_31 : decode cX5_init 31 = .ok (.newarray .int, 2) := by decide +kernel
theorem dX5_init_33 : decode cX5_init 33 = .ok (.putfield 25, 3) := by decide +kernel
theorem dX5_init_36 : decode cX5_init 36 = .ok (.aload_n 0, 1) := by decide +kernel
theorem dX5_init_37 : decode cX5_init 37 = .ok (.iconst 5, 1) := by decide +kernel
theorem dX5_init_38 : decode cX5_init 38 = .ok (.newarray .int, 2) := by decide +kernel
theorem dX5_init_40 : decode cX5_init 40 = .ok (.putfield 28, 3) := by decide +kernel
theorem dX5_init_43 : decode cX5_init 43 = .ok (.aload_n 0, 1) := by decide +kernel
theorem dX5_init_44 : decode cX5_init 44 = .ok (.iconst 5, 1) := by decide +kernel
theorem dX5_init_45 : decode cX5_init 45 = .ok (.newarray .int, 2) := by decide +kernel
theorem dX5_init_47 : decode cX5_init 47 = .ok (.putfield 31, 3) := by decide +kernel
theorem dX5_init_50 : decode cX5_init 50 = .ok (.aload_n 0, 1) := by decide +kernel
theorem dX5_init_51 : decode cX5_init 51 = .ok (.bipush 24, 2) := by decide +kernel
theorem dX5_init_53 : decode cX5_init 53 = .ok (.newarray .int, 2) := by decide +kernel
theorem dX5_init_55 : decode cX5_init 55 = .ok (.putfield 34, 3) := by decide +kernel
theorem dX5_init_58 : decode cX5_init 58 = .ok (.aload_n 0, 1) := by decide +kernel
theorem dX5_init_59 : decode cX5_init 59 = .ok (.aload_n 1, 1) := by decide +kernel
theorem dX5_init_60 : decode cX5_init 60 = .ok (.putfield 37, 3) := by decide +kernel
theorem dX5_init_63 : decode cX5_init 63 = .ok (.return_, 1) := by decide +kernel
theorem dX5_begin_0 : decode cX5_begin 0 = .ok (.aload_n 0, 1) := by decide +kernel
theorem dX5_begin_1 : decode cX5_begin 1 = .ok (.getfield 12, 3) := by decide +kernel
theorem dX5_begin_4 : decode cX5_begin 4 = .ok (.aload_n 0, 1) := by decide +kernel
theorem dX5_begin_5 : decode cX5_begin 5 = .ok (.getfield 37, 3) := by decide +kernel
theorem dX5_begin_8 : decode cX5_begin 8 = .ok (.getfield 41, 3) := by decide +kernel
theorem dX5_begin_11 : decode cX5_begin 11 = .ok (.invokevirtual 44, 3) := by decide +kernel
theorem dX5_begin_14 : decode cX5_begin 14 = .ok (.aload_n 0, 1) := by decide +kernel
theorem dX5_begin_15 : decode cX5_begin 15 = .ok (.aload_n 0, 1) := by decide +kernel
theorem dX5_begin_16 : decode cX5_begin 16 = .ok (.getfield 37, 3) := by decide +kernel
theorem dX5_begin_19 : decode cX5_begin 19 = .ok (.getfield 48, 3) := by decide +kernel
theorem dX5_begin_22 : decode cX5_begin 22 = .ok (.putfield 52, 3) := by decide +kernel
theorem dX5_begin_25 : decode cX5_begin 25 = .ok (.aload_n 0, 1) := by decide +kernel
theorem dX5_begin_26 : decode cX5_begin 26 = .ok (.iconst 0, 1) := by decide +kernel
theorem dX5_begin_27 : decode cX5_begin 27 = .ok (.putfield 53, 3) := by decide +kernel
theorem dX5_begin_30 : decode cX5_begin 30 = .ok (.aload_n 0, 1) := by decide +kernel
theorem dX5_begin_31 : decode cX5_begin 31 = .ok (.iconst 0, 1) := by decide +kernel
theorem dX5_begin_32 : decode cX5_begin 32 = .ok (.putfield 56, 3) := by decide +kernel
theorem dX5_begin_35 : decode cX5_begin 35 = .ok (.aload_n 0, 1) := by decide +kernel
theorem dX5_begin_36 : decode cX5_begin 36 = .ok (.iconst 0, 1) := by decide +kernel
theorem dX5_begin_37 : decode cX5_begin 37 = .ok (.putfield 59, 3) := by decide +kernel
theorem dX5_begin_40 : decode cX5_begin 40 = .ok (.iconst 0, 1) := by decide +kernel
theorem dX5_begin_41 : decode cX5_begin 41 = .ok (.istore_n 1, 1) := by decide +kernel
theorem dX5_begin_42 : decode cX5_begin 42 = .ok (.iload_n 1, 1) := by decide +kernel
theorem dX5_begin_43 : decode cX5_begin 43 = .ok (.bipush 24, 2) := by decide +kernel
theorem dX5_begin_45 : decode cX5_begin 45 = .ok (.if_icmp .ge 16, 3) := by decide +kernel
theorem dX5_begin_48 : decode cX5_begin 48 = .ok (.aload_n 0, 1) := by decide +kernel
theorem dX5_begin_49 : decode cX5_begin 49 = .ok (.getfield 34, 3) := by decide +kernel
theorem dX5_begin_52 : decode cX5_begin 52 = .ok (.iload_n 1, 1) := by decide +kernel
theorem dX5_begin_53 : decode cX5_begin 53 = .ok (.iconst 0, 1) := by decide +kernel
theorem dX5_begin_54 : decode cX5_begin 54 = .ok (.iastore, 1) := by decide +kernel
theorem dX5_begin_55 : decode cX5_begin 55 = .ok (.iinc 1 1, 3) := by decide +kernel
theorem dX5_begin_58 : decode cX5_begin 58 = .ok (.goto (-16), 3) := by decide +kernel
theorem dX5_begin_61 : decode cX5_begin 61 = .ok (.iconst 0, 1) := by decide +kernel
theorem dX5_begin_62 : decode cX5_begin 62 = .ok (.istore_n 1, 1) := by decide +kernel
theorem dX5_begin_63 : decode cX5_begin 63 = .ok (.iload_n 1, 1) := by decide +kernel
theorem dX5_begin_64 : decode cX5_begin 64 = .ok (.aload_n 0, 1) := by decide +kernel
theorem dX5_begin_65 : decode cX5_begin 65 = .ok (.getfield 37, 3) := by decide +kernel
theorem dX5_begin_68 : decode cX5_begin 68 = .ok (.getfield 62, 3) := by decide +kernel
theorem dX5_begin_71 : decode cX5_begin 71 = .ok (.if_icmp .ge 69, 3) := by decide +kernel
theorem dX5_begin_74 : decode cX5_begin 74 = .ok (.aload_n 0, 1) := by decide +kernel
theorem dX5_begin_75 : decode cX5_begin 75 = .ok (.getfield 18, 3) := by decide +kernel
theorem dX5_begin_78 : decode cX5_begin 78 = .ok (.iload_n 1, 1) := by decide +kernel
theorem dX5_begin_79 : decode cX5_begin 79 = .ok (.aload_n 0, 1) := by decide +kernel
theorem dX5_begin_80 : decode cX5_begin 80 = .ok (.getfield 37, 3) := by decide +kernel
theorem dX5_begin_83 : decode cX5_begin 83 = .ok (.getfield 65, 3) := by decide +kernel
theorem dX5_begin_86 : decode cX5_begin 86 = .ok (.iload_n 1, 1) := by decide +kernel
theorem dX5_begin_87 : decode cX5_begin 87 = .ok (.iaload, 1) := by decide +kernel
theorem dX5_begin_88 : decode cX5_begin 88 = .ok (.iastore, 1) := by decide +kernel
theorem dX5_begin_89 : decode cX5_begin 89 = .ok (.aload_n 0, 1) := by decide +kernel
theorem dX5_begin_90 : decode cX5_begin 90 = .ok (.getfield 22, 3) := by decide +kernel
theorem dX5_begin_93 : decode cX5_begin 93 = .ok (.iload_n 1, 1) := by decide +kernel
theorem dX5_begin_94 : decode cX5_begin 94 = .ok (.iconst 0, 1) := by decide +kernel
theorem dX5_begin_95 : decode cX5_begin 95 = .ok (.iastore, 1) := by decide +kernel
theorem dX5_begin_96 : decode cX5_begin 96 = .ok (.aload_n 0, 1) := by decide +kernel
theorem dX5_begin_97 : decode cX5_begin 97 = .ok (.getfield 25, 3) := by decide +kernel
theorem dX5_begin_100 : decode cX5_begin 100 = .ok (.iload_n 1, 1) := by decide +kernel
theorem dX5_begin_101 : decode cX5_begin 101 = .ok (.iconst 0, 1) := by decide +kernel
theorem dX5_begin_102 : decode cX5_begin 102 = .ok (.iastore, 1) := by decide +kernel
theorem dX5_begin_103 : decode cX5_begin 103 = .ok (.aload_n 0, 1) := by decide +kernel
theorem dX5_begin_104 : decode cX5_begin 104 = .ok (.getfield 28, 3) := by decide +kernel
theorem dX5_begin_107 : decode cX5_begin 107 = .ok (.iload_n 1, 1) := by decide +kernel
theorem dX5_begin_108 : decode cX5_begin 108 = .ok (.bipush (-4), 2) := by decide +kernel
theorem dX5_begin_110 : decode cX5_begin 110 = .ok (.iastore, 1) := by decide +kernel
theorem dX5_begin_111 : decode cX5_begin 111 = .ok (.aload_n 0, 1) := by decide +kernel
theorem dX5_begin_112 : decode cX5_begin 112 = .ok (.getfield 31, 3) := by decide +kernel
theorem dX5_begin_115 : decode cX5_begin 115 = .ok (.iload_n 1, 1) := by decide +kernel
theorem dX5_begin_116 : decode cX5_begin 116 = .ok (.bipush (-4), 2) := by decide +kernel
theorem dX5_begin_118 : decode cX5_begin 118 = .ok (.iastore, 1) := by decide +kernel
theorem dX5_begin_119 : decode cX5_begin 119 = .ok (.aload_n 0, 1) := by decide +kernel
theorem dX5_begin_120 : decode cX5_begin 120 = .ok (.getfield 34, 3) := by decide +kernel
theorem dX5_begin_123 : decode cX5_begin 123 = .ok (.aload_n 0, 1) := by decide +kernel
theorem dX5_begin_124 : decode cX5_begin 124 = .ok (.getfield 18, 3) := by decide +kernel
theorem dX5_begin_127 : decode cX5_begin 127 = .ok (.iload_n 1, 1) := by decide +kernel
theorem dX5_begin_128 : decode cX5_begin 128 = .ok (.iaload, 1) := by decide +kernel
theorem dX5_begin_129 : decode cX5_begin 129 = .ok (.dup2, 1) := by decide +kernel
theorem dX5_begin_130 : decode cX5_begin 130 = .ok (.iaload, 1) := by decide +kernel
theorem dX5_begin_131 : decode cX5_begin 131 = .ok (.iconst 1, 1) := by decide +kernel
theorem dX5_begin_132 : decode cX5_begin 132 = .ok (.iadd, 1) := by decide +kernel
theorem dX5_begin_133 : decode cX5_begin 133 = .ok (.iastore, 1) := by decide +kernel
theorem dX5_begin_134 : decode cX5_begin 134 = .ok (.iinc 1 1, 3) := by decide +kernel
theorem dX5_begin_137 : decode cX5_begin 137 = .ok (.goto (-74), 3) := by decide +kernel
theorem dX5_begin_140 : decode cX5_begin 140 = .ok (.return_, 1) := by decide +kernel
theorem dX5_goTo_0 : decode cX5_goTo 0 = .ok (.aload_n 0, 1) := by decide +kernel
theorem dX5_goTo_1 : decode cX5_goTo 1 = .ok (.getfield 53, 3) := by decide +kernel
theorem dX5_goTo_4 : decode cX5_goTo 4 = .ok (.istore_n 2, 1) := by decide +kernel
theorem dX5_goTo_5 : decode cX5_goTo 5 = .ok (.iload_n 2, 1) := by decide +kernel
theorem dX5_goTo_6 : decode cX5_goTo 6 = .ok (.iload_n 1, 1) := by decide +kernel
theorem dX5_goTo_7 : decode cX5_goTo 7 = .ok (.if_icmp .ge 13, 3) := by decide +kernel
theorem dX5_goTo_10 : decode cX5_goTo 10 = .ok (.aload_n 0, 1) := by decide +kernel
theorem dX5_goTo_11 : decode cX5_goTo 11 = .ok (.invokevirtual 68, 3) := by decide +kernel
theorem dX5_goTo_14 : decode cX5_goTo 14 = .ok (.iinc 2 1, 3) := by decide +kernel
theorem dX5_goTo_17 : decode cX5_goTo 17 = .ok (.goto (-12), 3) := by decide +kernel
theorem dX5_goTo_20 : decode cX5_goTo 20 = .ok (.return_, 1) := by decide +kernel
theorem dX5_goOn_0 : decode cX5_goOn 0 = .ok (.aload_n 0, 1) := by decide +kernel
theorem dX5_goOn_1 : decode cX5_goOn 1 = .ok (.dup, 1) := by decide +kernel
theorem dX5_goOn_2 : decode cX5_goOn 2 = .ok (.getfield 53, 3) := by decide +kernel
theorem dX5_goOn_5 : decode cX5_goOn 5 = .ok (.iconst 1, 1) := by decide +kernel
theorem dX5_goOn_6 : decode cX5_goOn 6 = .ok (.iadd, 1) := by decide +kernel
theorem dX5_goOn_7 : decode cX5_goOn 7 = .ok (.putfield 53, 3) := by decide +kernel
theorem dX5_goOn_10 : decode cX5_goOn 10 = .ok (.iconst 0, 1) := by decide +kernel
theorem dX5_goOn_11 : decode cX5_goOn 11 = .ok (.istore_n 1, 1) := by decide +kernel
theorem dX5_goOn_12 : decode cX5_goOn 12 = .ok (.iload_n 1, 1) := by decide +kernel
theorem dX5_goOn_13 : decode cX5_goOn 13 = .ok (.aload_n 0, 1) := by decide +kernel
theorem dX5_goOn_14 : decode cX5_goOn 14 = .ok (.getfield 37, 3) := by decide +kernel
theorem dX5_goOn_17 : decode cX5_goOn 17 = .ok (.getfield 62, 3) := by decide +kernel
theorem dX5_goOn_20 : decode cX5_goOn 20 = .ok (.if_icmp .ge 22, 3) := by decide +kernel
theorem dX5_goOn_23 : decode cX5_goOn 23 = .ok (.aload_n 0, 1) := by decide +kernel
theorem dX5_goOn_24 : decode cX5_goOn 24 = .ok (.iload_n 1, 1) := by decide +kernel
theorem dX5_goOn_25 : decode cX5_goOn 25 = .ok (.invokevirtual 71, 3) := by decide +kernel
theorem dX5_goOn_28 : decode cX5_goOn 28 = .ok (.ifCond .eq 8, 3) := by decide +kernel
theorem dX5_goOn_31 : decode cX5_goOn 31 = .ok (.aload_n 0, 1) := by decide +kernel
theorem dX5_goOn_32 : decode cX5_goOn 32 = .ok (.iload_n 1, 1) := by decide +kernel
theorem dX5_goOn_33 : decode cX5_goOn 33 = .ok (.invokevirtual 75, 3) := by decide +kernel
theorem dX5_goOn_36 : decode cX5_goOn 36 = .ok (.iinc 1 1, 3) := by decide +kernel
theorem dX5_goOn_39 : decode cX5_goOn 39 = .ok (.goto (-27), 3) := by decide +kernel
theorem dX5_goOn_42 : decode cX5_goOn 42 = .ok (.iconst 0, 1) := by decide +kernel
theorem dX5_goOn_43 : decode cX5_goOn 43 = .ok (.istore_n 1, 1) := by decide +kernel
theorem dX5_goOn_44 : decode cX5_goOn 44 = .ok (.iload_n 1, 1) := by decide +kernel
theorem dX5_goOn_45 : decode cX5_goOn 45 = .ok (.aload_n 0, 1) := by decide +kernel
theorem dX5_goOn_46 : decode cX5_goOn 46 = .ok (.getfield 37, 3) := by decide +kernel
theorem dX5_goOn_49 : decode cX5_goOn 49 = .ok (.getfield 62, 3) := by decide +kernel
theorem dX5_goOn_52 : decode cX5_goOn 52 = .ok (.if_icmp .ge 54, 3) := by decide +kernel
theorem dX5_goOn_55 : decode cX5_goOn 55 = .ok (.aload_n 0, 1) := by decide +kernel
theorem dX5_goOn_56 : decode cX5_goOn 56 = .ok (.getfield 37, 3) := by decide +kernel
theorem dX5_goOn_59 : decode cX5_goOn 59 = .ok (.getfield 79, 3) := by decide +kernel
theorem dX5_goOn_62 : decode cX5_goOn 62 = .ok (.aload_n 0, 1) := by decide +kernel
theorem dX5_goOn_63 : decode cX5_goOn 63 = .ok (.getfield 18, 3) := by decide +kernel
theorem dX5_goOn_66 : decode cX5_goOn 66 = .ok (.iload_n 1, 1) := by decide +kernel
theorem dX5_goOn_67 : decode cX5_goOn 67 = .ok (.iaload, 1) := by decide +kernel
theorem dX5_goOn_68 : decode cX5_goOn 68 = .ok (.invokestatic 82, 3) := by decide +kernel
theorem dX5_goOn_71 : decode cX5_goOn 71 = .ok (.iconst 1, 1) := by decide +kernel
theorem dX5_goOn_72 : decode cX5_goOn 72 = .ok (.if_icmp .ne 28, 3) := by decide +kernel
theorem dX5_goOn_75 : decode cX5_goOn 75 = .ok (.aload_n 0, 1) := by decide +kernel
theorem dX5_goOn_76 : decode cX5_goOn 76 = .ok (.getfield 34, 3) := by decide +kernel
theorem dX5_goOn_79 : decode cX5_goOn 79 = .ok (.aload_n 0, 1) := by decide +kernel
theorem dX5_goOn_80 : decode cX5_goOn 80 = .ok (.getfield 18, 3) := by decide +kernel
theorem dX5_goOn_83 : decode cX5_goOn 83 = .ok (.iload_n 1, 1) := by decide +kernel
theorem dX5_goOn_84 : decode cX5_goOn 84 = .ok (.iaload, 1) := by decide +kernel
theorem dX5_goOn_85 : decode cX5_goOn 85 = .ok (.iaload, 1) := by decide +kernel
theorem dX5_goOn_86 : decode cX5_goOn 86 = .ok (.iconst 1, 1) := by decide +kernel
theorem dX5_goOn_87 : decode cX5_goOn 87 = .ok (.if_icmp .ne 13, 3) := by decide +kernel
theorem dX5_goOn_90 : decode cX5_goOn 90 = .ok (.aload_n 0, 1) := by decide +kernel
theorem dX5_goOn_91 : decode cX5_goOn 91 = .ok (.getfield 25, 3) := by decide +kernel
theorem dX5_goOn_94 : decode cX5_goOn 94 = .ok (.iload_n 1, 1) := by decide +kernel
theorem dX5_goOn_95 : decode cX5_goOn 95 = .ok (.dup2, 1) := by decide +kernel
theorem dX5_goOn_96 : decode cX5_goOn 96 = .ok (.iaload, 1) := by decide +kernel
theorem dX5_goOn_97 : decode cX5_goOn 97 = .ok (.iconst 1, 1) := by decide +kernel
theorem dX5_goOn_98 : decode cX5_goOn 98 = .ok (.iadd, 1) := by decide +kernel
theorem dX5_goOn_99 : decode cX5_goOn 99 = .ok (.iastore, 1) := by decide +kernel
theorem dX5_goOn_100 : decode cX5_goOn 100 = .ok (.iinc 1 1, 3) := by decide +kernel
theorem dX5_goOn_103 : decode cX5_goOn 103 = .ok (.goto (-59), 3) := by decide +kernel
theorem dX5_goOn_106 : decode cX5_goOn 106 = .ok (.return_, 1) := by decide +kernel
theorem dX5_wantsOn_0 : decode cX5_wantsOn 0 = .ok (.aload_n 0, 1) := by decide +kernel
theorem dX5_wantsOn_1 : decode cX5_wantsOn 1 = .ok (.getfield 12, 3) := by decide +kernel
theorem dX5_wantsOn_4 : decode cX5_wantsOn 4 = .ok (.getfield 86, 3) := by decide +kernel
theorem dX5_wantsOn_7 : decode cX5_wantsOn 7 = .ok (.iload_n 1, 1) := by decide +kernel
theorem dX5_wantsOn_8 : decode cX5_wantsOn 8 = .ok (.invokestatic 82, 3) := by decide +kernel
theorem dX5_wantsOn_11 : decode cX5_wantsOn 11 = .ok (.iconst 1, 1) := by decide +kernel
theorem dX5_wantsOn_12 : decode cX5_wantsOn 12 = .ok (.if_icmp .eq 19, 3) := by decide +kernel
theorem dX5_wantsOn_15 : decode cX5_wantsOn 15 = .ok (.aload_n 0, 1) := by decide +kernel
theorem dX5_wantsOn_16 : decode cX5_wantsOn 16 = .ok (.getfield 53, 3) := by decide +kernel
theorem dX5_wantsOn_19 : decode cX5_wantsOn 19 = .ok (.aload_n 0, 1) := by decide +kernel
theorem dX5_wantsOn_20 : decode cX5_wantsOn 20 = .ok (.getfield 12, 3) := by decide +kernel
theorem dX5_wantsOn_23 : decode cX5_wantsOn 23 = .ok (.getfield 89, 3) := by decide +kernel
theorem dX5_wantsOn_26 : decode cX5_wantsOn 26 = .ok (.iload_n 1, 1) := by decide +kernel
theorem dX5_wantsOn_27 : decode cX5_wantsOn 27 = .ok (.iaload, 1) := by decide +kernel
theorem dX5_wantsOn_28 : decode cX5_wantsOn 28 = .ok (.if_icmp .ge 5, 3) := by decide +kernel
theorem dX5_wantsOn_31 : decode cX5_wantsOn 31 = .ok (.iconst 0, 1) := by decide +kernel
theorem dX5_wantsOn_32 : decode cX5_wantsOn 32 = .ok (.ireturn, 1) := by decide +kernel
theorem dX5_wantsOn_33 : decode cX5_wantsOn 33 = .ok (.aload_n 0, 1) := by decide +kernel
theorem dX5_wantsOn_34 : decode cX5_wantsOn 34 = .ok (.getfield 37, 3) := by decide +kernel
theorem dX5_wantsOn_37 : decode cX5_wantsOn 37 = .ok (.getfield 92, 3) := by decide +kernel
theorem dX5_wantsOn_40 : decode cX5_wantsOn 40 = .ok (.iload_n 1, 1) := by decide +kernel
theorem dX5_wantsOn_41 : decode cX5_wantsOn 41 = .ok (.iaload, 1) := by decide +kernel
theorem dX5_wantsOn_42 : decode cX5_wantsOn 42 = .ok (.lookupswitch 62 #[(1, 26), (2, 41)], 26) := by decide +kernel
theorem dX5_wantsOn_68 : decode cX5_wantsOn 68 = .ok (.aload_n 0, 1) := by decide +kernel
theorem dX5_wantsOn_69 : decode cX5_wantsOn 69 = .ok (.getfield 53, 3) := by decide +kernel
theorem dX5_wantsOn_72 : decode cX5_wantsOn 72 = .ok (.iconst 1, 1) := by decide +kernel
theorem dX5_wantsOn_73 : decode cX5_wantsOn 73 = .ok (.iand, 1) := by decide +kernel
theorem dX5_wantsOn_74 : decode cX5_wantsOn 74 = .ok (.ifCond .ne 7, 3) := by decide +kernel
theorem dX5_wantsOn_77 : decode cX5_wantsOn 77 = .ok (.iconst 1, 1) := by decide +kernel
theorem dX5_wantsOn_78 : decode cX5_wantsOn 78 = .ok (.goto 4, 3) := by decide +kernel
theorem dX5_wantsOn_81 : decode cX5_wantsOn 81 = .ok (.iconst 0, 1) := by decide +kernel
theorem dX5_wantsOn_82 : decode cX5_wantsOn 82 = .ok (.ireturn, 1) := by decide +kernel
theorem dX5_wantsOn_83 : decode cX5_wantsOn 83 = .ok (.aload_n 0, 1) := by decide +kernel
theorem dX5_wantsOn_84 : decode cX5_wantsOn 84 = .ok (.getfield 31, 3) := by decide +kernel
theorem dX5_wantsOn_87 : decode cX5_wantsOn 87 = .ok (.iload_n 1, 1) := by decide +kernel
theorem dX5_wantsOn_88 : decode cX5_wantsOn 88 = .ok (.iaload, 1) := by decide +kernel
theorem dX5_wantsOn_89 : decode cX5_wantsOn 89 = .ok (.aload_n 0, 1) := by decide +kernel
theorem dX5_wantsOn_90 : decode cX5_wantsOn 90 = .ok (.getfield 53, 3) := by decide +kernel
theorem dX5_wantsOn_93 : decode cX5_wantsOn 93 = .ok (.iconst 1, 1) := by decide +kernel
theorem dX5_wantsOn_94 : decode cX5_wantsOn 94 = .ok (.isub, 1) := by decide +kernel
theorem dX5_wantsOn_95 : decode cX5_wantsOn 95 = .ok (.if_icmp .eq 7, 3) := by decide +kernel
theorem dX5_wantsOn_98 : decode cX5_wantsOn 98 = .ok (.iconst 1, 1) := by decide +kernel
theorem dX5_wantsOn_99 : decode cX5_wantsOn 99 = .ok (.goto 4, 3) := by decide +kernel
theorem dX5_wantsOn_102 : decode cX5_wantsOn 102 = .ok (.iconst 0, 1) := by decide +kernel
theorem dX5_wantsOn_103 : decode cX5_wantsOn 103 = .ok (.ireturn, 1) := by decide +kernel
theorem dX5_wantsOn_104 : decode cX5_wantsOn 104 = .ok (.iconst 1, 1) := by decide +kernel
theorem dX5_wantsOn_105 : decode cX5_wantsOn 105 = .ok (.ireturn, 1) := by decide +kernel
theorem dX5_move_0 : decode cX5_move 0 = .ok (.aload_n 0, 1) := by decide +kernel
theorem dX5_move_1 : decode cX5_move 1 = .ok (.iload_n 1, 1) := by decide +kernel
theorem dX5_move_2 : decode cX5_move 2 = .ok (.invokevirtual 95, 3) := by decide +kernel
theorem dX5_move_5 : decode cX5_move 5 = .ok (.istore_n 2, 1) := by decide +kernel
theorem dX5_move_6 : decode cX5_move 6 = .ok (.iload_n 2, 1) := by decide +kernel
theorem dX5_move_7 : decode cX5_move 7 = .ok (.ifCond .eq 22, 3) := by decide +kernel
theorem dX5_move_10 : decode cX5_move 10 = .ok (.aload_n 0, 1) := by decide +kernel
theorem dX5_move_11 : decode cX5_move 11 = .ok (.getfield 37, 3) := by decide +kernel
theorem dX5_move_14 : decode cX5_move 14 = .ok (.getfield 92, 3) := by decide +kernel
theorem dX5_move_17 : decode cX5_move 17 = .ok (.iload_n 1, 1) := by decide +kernel
theorem dX5_move_18 : decode cX5_move 18 = .ok (.iaload, 1) := by decide +kernel
theorem dX5_move_19 : decode cX5_move 19 = .ok (.iconst 4, 1) := by decide +kernel
theorem dX5_move_20 : decode cX5_move 20 = .ok (.if_icmp .ne 9, 3) := by decide +kernel
theorem dX5_move_23 : decode cX5_move 23 = .ok (.aload_n 0, 1) := by decide +kernel
theorem dX5_move_24 : decode cX5_move 24 = .ok (.iload_n 1, 1) := by decide +kernel
theorem dX5_move_25 : decode cX5_move 25 = .ok (.invokevirtual 95, 3) := by decide +kernel
theorem dX5_move_28 : decode cX5_move 28 = .ok (.istore_n 2, 1) := by decide +kernel
theorem dX5_move_29 : decode cX5_move 29 = .ok (.iload_n 2, 1) := by decide +kernel
theorem dX5_move_30 : decode cX5_move 30 = .ok (.ifCond .eq 4, 3) := by decide +kernel
theorem dX5_move_33 : decode cX5_move 33 = .ok (.return_, 1) := by decide +kernel
theorem dX5_move_34 : decode cX5_move 34 = .ok (.aload_n 0, 1) := by decide +kernel
theorem dX5_move_35 : decode cX5_move 35 = .ok (.getfield 22, 3) := by decide +kernel
theorem dX5_move_38 : decode cX5_move 38 = .ok (.iload_n 1, 1) := by decide +kernel
theorem dX5_move_39 : decode cX5_move 39 = .ok (.dup2, 1) := by decide +kernel
theorem dX5_move_40 : decode cX5_move 40 = .ok (.iaload, 1) := by decide +kernel
theorem dX5_move_41 : decode cX5_move 41 = .ok (.iconst 1, 1) := by decide +kernel
theorem dX5_move_42 : decode cX5_move 42 = .ok (.iadd, 1) := by decide +kernel
theorem dX5_move_43 : decode cX5_move 43 = .ok (.iastore, 1) := by decide +kernel
theorem dX5_move_44 : decode cX5_move 44 = .ok (.aload_n 0, 1) := by decide +kernel
theorem dX5_move_45 : decode cX5_move 45 = .ok (.dup, 1) := by decide +kernel
theorem dX5_move_46 : decode cX5_move 46 = .ok (.getfield 56, 3) := by decide +kernel
theorem dX5_move_49 : decode cX5_move 49 = .ok (.iconst 1, 1) := by decide +kernel
theorem dX5_move_50 : decode cX5_move 50 = .ok (.iadd, 1) := by decide +kernel
theorem dX5_move_51 : decode cX5_move 51 = .ok (.putfield 56, 3) := by decide +kernel
theorem dX5_move_54 : decode cX5_move 54 = .ok (.aload_n 0, 1) := by decide +kernel
theorem dX5_move_55 : decode cX5_move 55 = .ok (.getfield 37, 3) := by decide +kernel
theorem dX5_move_58 : decode cX5_move 58 = .ok (.getfield 92, 3) := by decide +kernel
theorem dX5_move_61 : decode cX5_move 61 = .ok (.iload_n 1, 1) := by decide +kernel
theorem dX5_move_62 : decode cX5_move 62 = .ok (.iaload, 1) := by decide +kernel
theorem dX5_move_63 : decode cX5_move 63 = .ok (.iconst 3, 1) := by decide +kernel
theorem dX5_move_64 : decode cX5_move 64 = .ok (.if_icmp .ne 15, 3) := by decide +kernel
theorem dX5_move_67 : decode cX5_move 67 = .ok (.aload_n 0, 1) := by decide +kernel
theorem dX5_move_68 : decode cX5_move 68 = .ok (.dup, 1) := by decide +kernel
theorem dX5_move_69 : decode cX5_move 69 = .ok (.getfield 52, 3) := by decide +kernel
theorem dX5_move_72 : decode cX5_move 72 = .ok (.iconst 1, 1) := by decide +kernel
theorem dX5_move_73 : decode cX5_move 73 = .ok (.iload_n 1, 1) := by decide +kernel
theorem dX5_move_74 : decode cX5_move 74 = .ok (.ishl, 1) := by decide +kernel
theorem dX5_move_75 : decode cX5_move 75 = .ok (.ixor, 1) := by decide +kernel
theorem dX5_move_76 : decode cX5_move 76 = .ok (.putfield 52, 3) := by decide +kernel
theorem dX5_move_79 : decode cX5_move 79 = .ok (.return_, 1) := by decide +kernel
theorem dX5_goesIn_0 : decode cX5_goesIn 0 = .ok (.aload_n 0, 1) := by decide +kernel
theorem dX5_goesIn_1 : decode cX5_goesIn 1 = .ok (.getfield 37, 3) := by decide +kernel
theorem dX5_goesIn_4 : decode cX5_goesIn 4 = .ok (.aload_n 0, 1) := by decide +kernel
theorem dX5_goesIn_5 : decode cX5_goesIn 5 = .ok (.getfield 18, 3) := by decide +kernel
theorem dX5_goesIn_8 : decode cX5_goesIn 8 = .ok (.iload_n 1, 1) := by decide +kernel
theorem dX5_goesIn_9 : decode cX5_goesIn 9 = .ok (.iaload, 1) := by decide +kernel
theorem dX5_goesIn_10 : decode cX5_goesIn 10 = .ok (.aload_n 0, 1) := by decide +kernel
theorem dX5_goesIn_11 : decode cX5_goesIn 11 = .ok (.getfield 52, 3) := by decide +kernel
theorem dX5_goesIn_14 : decode cX5_goesIn 14 = .ok (.iload_n 1, 1) := by decide +kernel
theorem dX5_goesIn_15 : decode cX5_goesIn 15 = .ok (.invokestatic 82, 3) := by decide +kernel
theorem dX5_goesIn_18 : decode cX5_goesIn 18 = .ok (.iconst 1, 1) := by decide +kernel
theorem dX5_goesIn_19 : decode cX5_goesIn 19 = .ok (.if_icmp .ne 7, 3) := by decide +kernel
theorem dX5_goesIn_22 : decode cX5_goesIn 22 = .ok (.iconst 1, 1) := by decide +kernel
theorem dX5_goesIn_23 : decode cX5_goesIn 23 = .ok (.goto 4, 3) := by decide +kernel
theorem dX5_goesIn_26 : decode cX5_goesIn 26 = .ok (.iconst 0, 1) := by decide +kernel
theorem dX5_goesIn_27 : decode cX5_goesIn 27 = .ok (.invokevirtual 98, 3) := by decide +kernel
theorem dX5_goesIn_30 : decode cX5_goesIn 30 = .ok (.istore_n 2, 1) := by decide +kernel
theorem dX5_goesIn_31 : decode cX5_goesIn 31 = .ok (.aload_n 0, 1) := by decide +kernel
theorem dX5_goesIn_32 : decode cX5_goesIn 32 = .ok (.getfield 34, 3) := by decide +kernel
theorem dX5_goesIn_35 : decode cX5_goesIn 35 = .ok (.iload_n 2, 1) := by decide +kernel
theorem dX5_goesIn_36 : decode cX5_goesIn 36 = .ok (.iaload, 1) := by decide +kernel
theorem dX5_goesIn_37 : decode cX5_goesIn 37 = .ok (.aload_n 0, 1) := by decide +kernel
theorem dX5_goesIn_38 : decode cX5_goesIn 38 = .ok (.getfield 12, 3) := by decide +kernel
theorem dX5_goesIn_41 : decode cX5_goesIn 41 = .ok (.getfield 102, 3) := by decide +kernel
theorem dX5_goesIn_44 : decode cX5_goesIn 44 = .ok (.iload_n 2, 1) := by decide +kernel
theorem dX5_goesIn_45 : decode cX5_goesIn 45 = .ok (.invokestatic 82, 3) := by decide +kernel
theorem dX5_goesIn_48 : decode cX5_goesIn 48 = .ok (.if_icmp .le 17, 3) := by decide +kernel
theorem dX5_goesIn_51 : decode cX5_goesIn 51 = .ok (.aload_n 0, 1) := by decide +kernel
theorem dX5_goesIn_52 : decode cX5_goesIn 52 = .ok (.getfield 56, 3) := by decide +kernel
theorem dX5_goesIn_55 : decode cX5_goesIn 55 = .ok (.ifCond .ne 8, 3) := by decide +kernel
theorem dX5_goesIn_58 : decode cX5_goesIn 58 = .ok (.aload_n 0, 1) := by decide +kernel
theorem dX5_goesIn_59 : decode cX5_goesIn 59 = .ok (.iload_n 2, 1) := by decide +kernel
theorem dX5_goesIn_60 : decode cX5_goesIn 60 = .ok (.putfield 59, 3) := by decide +kernel
theorem dX5_goesIn_63 : decode cX5_goesIn 63 = .ok (.iconst 0, 1) := by decide +kernel
theorem dX5_goesIn_64 : decode cX5_goesIn 64 = .ok (.ireturn, 1) := by decide +kernel
theorem dX5_goesIn_65 : decode cX5_goesIn 65 = .ok (.aload_n 0, 1) := by decide +kernel
theorem dX5_goesIn_66 : decode cX5_goesIn 66 = .ok (.getfield 34, 3) := by decide +kernel
theorem dX5_goesIn_69 : decode cX5_goesIn 69 = .ok (.aload_n 0, 1) := by decide +kernel
theorem dX5_goesIn_70 : decode cX5_goesIn 70 = .ok (.getfield 18, 3) := by decide +kernel
theorem dX5_goesIn_73 : decode cX5_goesIn 73 = .ok (.iload_n 1, 1) := by decide +kernel
theorem dX5_goesIn_74 : decode cX5_goesIn 74 = .ok (.iaload, 1) := by decide +kernel
theorem dX5_goesIn_75 : decode cX5_goesIn 75 = .ok (.dup2, 1) := by decide +kernel
theorem dX5_goesIn_76 : decode cX5_goesIn 76 = .ok (.iaload, 1) := by decide +kernel
theorem dX5_goesIn_77 : decode cX5_goesIn 77 = .ok (.iconst 1, 1) := by decide +kernel
theorem dX5_goesIn_78 : decode cX5_goesIn 78 = .ok (.isub, 1) := by decide +kernel
theorem dX5_goesIn_79 : decode cX5_goesIn 79 = .ok (.iastore, 1) := by decide +kernel
theorem dX5_goesIn_80 : decode cX5_goesIn 80 = .ok (.aload_n 0, 1) := by decide +kernel
theorem dX5_goesIn_81 : decode cX5_goesIn 81 = .ok (.getfield 34, 3) := by decide +kernel
theorem dX5_goesIn_84 : decode cX5_goesIn 84 = .ok (.iload_n 2, 1) := by decide +kernel
theorem dX5_goesIn_85 : decode cX5_goesIn 85 = .ok (.dup2, 1) := by decide +kernel
theorem dX5_goesIn_86 : decode cX5_goesIn 86 = .ok (.iaload, 1) := by decide +kernel
theorem dX5_goesIn_87 : decode cX5_goesIn 87 = .ok (.iconst 1, 1) := by decide +kernel
theorem dX5_goesIn_88 : decode cX5_goesIn 88 = .ok (.iadd, 1) := by decide +kernel
theorem dX5_goesIn_89 : decode cX5_goesIn 89 = .ok (.iastore, 1) := by decide +kernel
theorem dX5_goesIn_90 : decode cX5_goesIn 90 = .ok (.aload_n 0, 1) := by decide +kernel
theorem dX5_goesIn_91 : decode cX5_goesIn 91 = .ok (.getfield 18, 3) := by decide +kernel
theorem dX5_goesIn_94 : decode cX5_goesIn 94 = .ok (.iload_n 1, 1) := by decide +kernel
theorem dX5_goesIn_95 : decode cX5_goesIn 95 = .ok (.iload_n 2, 1) := by decide +kernel
theorem dX5_goesIn_96 : decode cX5_goesIn 96 = .ok (.iastore, 1) := by decide +kernel
theorem dX5_goesIn_97 : decode cX5_goesIn 97 = .ok (.aload_n 0, 1) := by decide +kernel
theorem dX5_goesIn_98 : decode cX5_goesIn 98 = .ok (.getfield 28, 3) := by decide +kernel
theorem dX5_goesIn_101 : decode cX5_goesIn 101 = .ok (.iload_n 1, 1) := by decide +kernel
theorem dX5_goesIn_102 : decode cX5_goesIn 102 = .ok (.aload_n 0, 1) := by decide +kernel
theorem dX5_goesIn_103 : decode cX5_goesIn 103 = .ok (.getfield 53, 3) := by decide +kernel
theorem dX5_goesIn_106 : decode cX5_goesIn 106 = .ok (.iastore, 1) := by decide +kernel
theorem dX5_goesIn_107 : decode cX5_goesIn 107 = .ok (.aload_n 0, 1) := by decide +kernel
theorem dX5_goesIn_108 : decode cX5_goesIn 108 = .ok (.getfield 37, 3) := by decide +kernel
theorem dX5_goesIn_111 : decode cX5_goesIn 111 = .ok (.iload_n 2, 1) := by decide +kernel
theorem dX5_goesIn_112 : decode cX5_goesIn 112 = .ok (.invokevirtual 105, 3) := by decide +kernel
theorem dX5_goesIn_115 : decode cX5_goesIn 115 = .ok (.ifCond .eq 13, 3) := by decide +kernel
theorem dX5_goesIn_118 : decode cX5_goesIn 118 = .ok (.aload_n 0, 1) := by decide +kernel
theorem dX5_goesIn_119 : decode cX5_goesIn 119 = .ok (.getfield 31, 3) := by decide +kernel
theorem dX5_goesIn_122 : decode cX5_goesIn 122 = .ok (.iload_n 1, 1) := by decide +kernel
theorem dX5_goesIn_123 : decode cX5_goesIn 123 = .ok (.aload_n 0, 1) := by decide +kernel
theorem dX5_goesIn_124 : decode cX5_goesIn 124 = .ok (.getfield 53, 3) := by decide +kernel
theorem dX5_goesIn_127 : decode cX5_goesIn 127 = .ok (.iastore, 1) := by decide +kernel
theorem dX5_goesIn_128 : decode cX5_goesIn 128 = .ok (.iconst 1, 1) := by decide +kernel
theorem dX5_goesIn_129 : decode cX5_goesIn 129 = .ok (.ireturn, 1) := by decide +kernel
theorem dX5_isAt_0 : decode cX5_isAt 0 = .ok (.aload_n 0, 1) := by decide +kernel
theorem dX5_isAt_1 : decode cX5_isAt 1 = .ok (.getfield 18, 3) := by decide +kernel
theorem dX5_isAt_4 : decode cX5_isAt 4 = .ok (.iload_n 1, 1) := by decide +kernel
theorem dX5_isAt_5 : decode cX5_isAt 5 = .ok (.iaload, 1) := by decide +kernel
theorem dX5_isAt_6 : decode cX5_isAt 6 = .ok (.aload_n 0, 1) := by decide +kernel
theorem dX5_isAt_7 : decode cX5_isAt 7 = .ok (.getfield 37, 3) := by decide +kernel
theorem dX5_isAt_10 : decode cX5_isAt 10 = .ok (.getfield 108, 3) := by decide +kernel
theorem dX5_isAt_13 : decode cX5_isAt 13 = .ok (.iload_n 2, 1) := by decide +kernel
theorem dX5_isAt_14 : decode cX5_isAt 14 = .ok (.iaload, 1) := by decide +kernel
theorem dX5_isAt_15 : decode cX5_isAt 15 = .ok (.if_icmp .ne 7, 3) := by decide +kernel
theorem dX5_isAt_18 : decode cX5_isAt 18 = .ok (.iconst 1, 1) := by decide +kernel
theorem dX5_isAt_19 : decode cX5_isAt 19 = .ok (.goto 4, 3) := by decide +kernel
theorem dX5_isAt_22 : decode cX5_isAt 22 = .ok (.iconst 0, 1) := by decide +kernel
theorem dX5_isAt_23 : decode cX5_isAt 23 = .ok (.ireturn, 1) := by decide +kernel
theorem dX5_someAt_0 : decode cX5_someAt 0 = .ok (.aload_n 0, 1) := by decide +kernel
theorem dX5_someAt_1 : decode cX5_someAt 1 = .ok (.getfield 34, 3) := by decide +kernel
theorem dX5_someAt_4 : decode cX5_someAt 4 = .ok (.aload_n 0, 1) := by decide +kernel
theorem dX5_someAt_5 : decode cX5_someAt 5 = .ok (.getfield 37, 3) := by decide +kernel
theorem dX5_someAt_8 : decode cX5_someAt 8 = .ok (.getfield 108, 3) := by decide +kernel
theorem dX5_someAt_11 : decode cX5_someAt 11 = .ok (.iload_n 1, 1) := by decide +kernel
theorem dX5_someAt_12 : decode cX5_someAt 12 = .ok (.iaload, 1) := by decide +kernel
theorem dX5_someAt_13 : decode cX5_someAt 13 = .ok (.iaload, 1) := by decide +kernel
theorem dX5_someAt_14 : decode cX5_someAt 14 = .ok (.ifCond .le 7, 3) := by decide +kernel
theorem dX5_someAt_17 : decode cX5_someAt 17 = .ok (.iconst 1, 1) := by decide +kernel
theorem dX5_someAt_18 : decode cX5_someAt 18 = .ok (.goto 4, 3) := by decide +kernel
theorem dX5_someAt_21 : decode cX5_someAt 21 = .ok (.iconst 0, 1) := by decide +kernel
theorem dX5_someAt_22 : decode cX5_someAt 22 = .ok (.ireturn, 1) := by decide +kernel
theorem dX5_cellsUpTo_0 : decode cX5_cellsUpTo 0 = .ok (.aload_n 0, 1) := by decide +kernel
theorem dX5_cellsUpTo_1 : decode cX5_cellsUpTo 1 = .ok (.getfield 37, 3) := by decide +kernel
theorem dX5_cellsUpTo_4 : decode cX5_cellsUpTo 4 = .ok (.getfield 108, 3) := by decide +kernel
theorem dX5_cellsUpTo_7 : decode cX5_cellsUpTo 7 = .ok (.iload_n 2, 1) := by decide +kernel
theorem dX5_cellsUpTo_8 : decode cX5_cellsUpTo 8 = .ok (.iaload, 1) := by decide +kernel
theorem dX5_cellsUpTo_9 : decode cX5_cellsUpTo 9 = .ok (.aload_n 0, 1) := by decide +kernel
theorem dX5_cellsUpTo_10 : decode cX5_cellsUpTo 10 = .ok (.getfield 18, 3) := by decide +kernel
theorem dX5_cellsUpTo_13 : decode cX5_cellsUpTo 13 = .ok (.iload_n 1, 1) := by decide +kernel
theorem dX5_cellsUpTo_14 : decode cX5_cellsUpTo 14 = .ok (.iaload, 1) := by decide +kernel
theorem dX5_cellsUpTo_15 : decode cX5_cellsUpTo 15 = .ok (.isub, 1) := by decide +kernel
theorem dX5_cellsUpTo_16 : decode cX5_cellsUpTo 16 = .ok (.istore_n 3, 1) := by decide +kernel
theorem dX5_cellsUpTo_17 : decode cX5_cellsUpTo 17 = .ok (.iload_n 3, 1) := by decide +kernel
theorem dX5_cellsUpTo_18 : decode cX5_cellsUpTo 18 = .ok (.ifCond .ge 15, 3) := by decide +kernel
theorem dX5_cellsUpTo_21 : decode cX5_cellsUpTo 21 = .ok (.iload_n 3, 1) := by decide +kernel
theorem dX5_cellsUpTo_22 : decode cX5_cellsUpTo 22 = .ok (.aload_n 0, 1) := by decide +kernel
theorem dX5_cellsUpTo_23 : decode cX5_cellsUpTo 23 = .ok (.getfield 37, 3) := by decide +kernel
theorem dX5_cellsUpTo_26 : decode cX5_cellsUpTo 26 = .ok (.getfield 111, 3) := by decide +kernel
theorem dX5_cellsUpTo_29 : decode cX5_cellsUpTo 29 = .ok (.iadd, 1) := by decide +kernel
theorem dX5_cellsUpTo_30 : decode cX5_cellsUpTo 30 = .ok (.goto 4, 3) := by decide +kernel
theorem dX5_cellsUpTo_33 : decode cX5_cellsUpTo 33 = .ok (.iload_n 3, 1) := by decide +kernel
theorem dX5_cellsUpTo_34 : decode cX5_cellsUpTo 34 = .ok (.ireturn, 1) := by decide +kernel
theorem dX5_firstAt_0 : decode cX5_firstAt 0 = .ok (.iconst 0, 1) := by decide +kernel
theorem dX5_firstAt_1 : decode cX5_firstAt 1 = .ok (.istore_n 3, 1) := by decide +kernel
theorem dX5_firstAt_2 : decode cX5_firstAt 2 = .ok (.iload_n 3, 1) := by decide +kernel
theorem dX5_firstAt_3 : decode cX5_firstAt 3 = .ok (.bipush 60, 2) := by decide +kernel
theorem dX5_firstAt_5 : decode cX5_firstAt 5 = .ok (.if_icmp .gt 25, 3) := by decide +kernel
theorem dX5_firstAt_8 : decode cX5_firstAt 8 = .ok (.aload_n 0, 1) := by decide +kernel
theorem dX5_firstAt_9 : decode cX5_firstAt 9 = .ok (.iload_n 3, 1) := by decide +kernel
theorem dX5_firstAt_10 : decode cX5_firstAt 10 = .ok (.invokevirtual 114, 3) := by decide +kernel
theorem dX5_firstAt_13 : decode cX5_firstAt 13 = .ok (.aload_n 0, 1) := by decide +kernel
theorem dX5_firstAt_14 : decode cX5_firstAt 14 = .ok (.iload_n 1, 1) := by decide +kernel
theorem dX5_firstAt_15 : decode cX5_firstAt 15 = .ok (.iload_n 2, 1) := by decide +kernel
theorem dX5_firstAt_16 : decode cX5_firstAt 16 = .ok (.invokevirtual 117, 3) := by decide +kernel
theorem dX5_firstAt_19 : decode cX5_firstAt 19 = .ok (.ifCond .eq 5, 3) := by decide +kernel
theorem dX5_firstAt_22 : decode cX5_firstAt 22 = .ok (.iload_n 3, 1) := by decide +kernel
theorem dX5_firstAt_23 : decode cX5_firstAt 23 = .ok (.ireturn, 1) := by decide +kernel
theorem dX5_firstAt_24 : decode cX5_firstAt 24 = .ok (.iinc 3 1, 3) := by decide +kernel
theorem dX5_firstAt_27 : decode cX5_firstAt 27 = .ok (.goto (-25), 3) := by decide +kernel
theorem dX5_firstAt_30 : decode cX5_firstAt 30 = .ok (.bipush (-4), 2) := by decide +kernel
theorem dX5_firstAt_32 : decode cX5_firstAt 32 = .ok (.ireturn, 1) := by decide +kernel
theorem dX5_hangs_0 : decode cX5_hangs 0 = .ok (.aload_n 0, 1) := by decide +kernel
theorem dX5_hangs_1 : decode cX5_hangs 1 = .ok (.getfield 12, 3) := by decide +kernel
theorem dX5_hangs_4 : decode cX5_hangs 4 = .ok (.getfield 86, 3) := by decide +kernel
theorem dX5_hangs_7 : decode cX5_hangs 7 = .ok (.iload_n 1, 1) := by decide +kernel
theorem dX5_hangs_8 : decode cX5_hangs 8 = .ok (.invokestatic 82, 3) := by decide +kernel
theorem dX5_hangs_11 : decode cX5_hangs 11 = .ok (.ifCond .ne 18, 3) := by decide +kernel
theorem dX5_hangs_14 : decode cX5_hangs 14 = .ok (.aload_n 0, 1) := by decide +kernel
theorem dX5_hangs_15 : decode cX5_hangs 15 = .ok (.getfield 28, 3) := by decide +kernel
theorem dX5_hangs_18 : decode cX5_hangs 18 = .ok (.iload_n 1, 1) := by decide +kernel
theorem dX5_hangs_19 : decode cX5_hangs 19 = .ok (.iaload, 1) := by decide +kernel
theorem dX5_hangs_20 : decode cX5_hangs 20 = .ok (.bipush 30, 2) := by decide +kernel
theorem dX5_hangs_22 : decode cX5_hangs 22 = .ok (.if_icmp .gt 7, 3) := by decide +kernel
theorem dX5_hangs_25 : decode cX5_hangs 25 = .ok (.iconst 1, 1) := by decide +kernel
theorem dX5_hangs_26 : decode cX5_hangs 26 = .ok (.goto 4, 3) := by decide +kernel
theorem dX5_hangs_29 : decode cX5_hangs 29 = .ok (.iconst 0, 1) := by decide +kernel
theorem dX5_hangs_30 : decode cX5_hangs 30 = .ok (.ireturn, 1) := by decide +kernel
theorem dX5_comesInFlood_0 : decode cX5_comesInFlood 0 = .ok (.aload_n 0, 1) := by decide +kernel
theorem dX5_comesInFlood_1 : decode cX5_comesInFlood 1 = .ok (.invokevirtual 121, 3) := by decide +kernel
theorem dX5_comesInFlood_4 : decode cX5_comesInFlood 4 = .ok (.iconst 1, 1) := by decide +kernel
theorem dX5_comesInFlood_5 : decode cX5_comesInFlood 5 = .ok (.istore 5, 2) := by decide +kernel
theorem dX5_comesInFlood_7 : decode cX5_comesInFlood 7 = .ok (.iload 5, 2) := by decide +kernel
theorem dX5_comesInFlood_9 : decode cX5_comesInFlood 9 = .ok (.iload_n 3, 1) := by decide +kernel
theorem dX5_comesInFlood_10 : decode cX5_comesInFlood 10 = .ok (.if_icmp .gt 66, 3) := by decide +kernel
theorem dX5_comesInFlood_13 : decode cX5_comesInFlood 13 = .ok (.aload_n 0, 1) := by decide +kernel
theorem dX5_comesInFlood_14 : decode cX5_comesInFlood 14 = .ok (.getfield 12, 3) := by decide +kernel
theorem dX5_comesInFlood_17 : decode cX5_comesInFlood 17 = .ok (.dup, 1) := by decide +kernel
theorem dX5_comesInFlood_18 : decode cX5_comesInFlood 18 = .ok (.getfield 86, 3) := by decide +kernel
theorem dX5_comesInFlood_21 : decode cX5_comesInFlood 21 = .ok (.iconst 1, 1) := by decide +kernel
theorem dX5_comesInFlood_22 : decode cX5_comesInFlood 22 = .ok (.iload_n 1, 1) := by decide +kernel
theorem dX5_comesInFlood_23 : decode cX5_comesInFlood 23 = .ok (.ishl, 1) := by decide +kernel
theorem dX5_comesInFlood_24 : decode cX5_comesInFlood 24 = .ok (.iconst (-1), 1) := by decide +kernel
theorem dX5_comesInFlood_25 : decode cX5_comesInFlood 25 = .ok (.ixor, 1) := by decide +kernel
theorem dX5_comesInFlood_26 : decode cX5_comesInFlood 26 = .ok (.iand, 1) := by decide +kernel
theorem dX5_comesInFlood_27 : decode cX5_comesInFlood 27 = .ok (.putfield 86, 3) := by decide +kernel
theorem dX5_comesInFlood_30 : decode cX5_comesInFlood 30 = .ok (.aload_n 0, 1) := by decide +kernel
theorem dX5_comesInFlood_31 : decode cX5_comesInFlood 31 = .ok (.getfield 12, 3) := by decide +kernel
theorem dX5_comesInFlood_34 : decode cX5_comesInFlood 34 = .ok (.dup, 1) := by decide +kernel
theorem dX5_comesInFlood_35 : decode cX5_comesInFlood 35 = .ok (.getfield 86, 3) := by decide +kernel
theorem dX5_comesInFlood_38 : decode cX5_comesInFlood 38 = .ok (.iload 4, 2) := by decide +kernel
theorem dX5_comesInFlood_40 : decode cX5_comesInFlood 40 = .ok (.iload 5, 2) := by decide +kernel
theorem dX5_comesInFlood_42 : decode cX5_comesInFlood 42 = .ok (.iconst 1, 1) := by decide +kernel
theorem dX5_comesInFlood_43 : decode cX5_comesInFlood 43 = .ok (.isub, 1) := by decide +kernel
theorem dX5_comesInFlood_44 : decode cX5_comesInFlood 44 = .ok (.invokestatic 82, 3) := by decide +kernel
theorem dX5_comesInFlood_47 : decode cX5_comesInFlood 47 = .ok (.iload_n 1, 1) := by decide +kernel
theorem dX5_comesInFlood_48 : decode cX5_comesInFlood 48 = .ok (.ishl, 1) := by decide +kernel
theorem dX5_comesInFlood_49 : decode cX5_comesInFlood 49 = .ok (.ior, 1) := by decide +kernel
theorem dX5_comesInFlood_50 : decode cX5_comesInFlood 50 = .ok (.putfield 86, 3) := by decide +kernel
theorem dX5_comesInFlood_53 : decode cX5_comesInFlood 53 = .ok (.aload_n 0, 1) := by decide +kernel
theorem dX5_comesInFlood_54 : decode cX5_comesInFlood 54 = .ok (.iload 5, 2) := by decide +kernel
theorem dX5_comesInFlood_56 : decode cX5_comesInFlood 56 = .ok (.invokevirtual 114, 3) := by decide +kernel
theorem dX5_comesInFlood_59 : decode cX5_comesInFlood 59 = .ok (.aload_n 0, 1) := by decide +kernel
theorem dX5_comesInFlood_60 : decode cX5_comesInFlood 60 = .ok (.iload_n 1, 1) := by decide +kernel
theorem dX5_comesInFlood_61 : decode cX5_comesInFlood 61 = .ok (.iload_n 2, 1) := by decide +kernel
theorem dX5_comesInFlood_62 : decode cX5_comesInFlood 62 = .ok (.invokevirtual 117, 3) := by decide +kernel
theorem dX5_comesInFlood_65 : decode cX5_comesInFlood 65 = .ok (.ifCond .eq 5, 3) := by decide +kernel
theorem dX5_comesInFlood_68 : decode cX5_comesInFlood 68 = .ok (.iconst 1, 1) := by decide +kernel
theorem dX5_comesInFlood_69 : decode cX5_comesInFlood 69 = .ok (.ireturn, 1) := by decide +kernel
theorem dX5_comesInFlood_70 : decode cX5_comesInFlood 70 = .ok (.iinc 5 1, 3) := by decide +kernel
theorem dX5_comesInFlood_73 : decode cX5_comesInFlood 73 = .ok (.goto (-66), 3) := by decide +kernel
theorem dX5_comesInFlood_76 : decode cX5_comesInFlood 76 = .ok (.iconst 0, 1) := by decide +kernel
theorem dX5_comesInFlood_77 : decode cX5_comesInFlood 77 = .ok (.ireturn, 1) := by decide +kernel
theorem dX5_twosAt_0 : decode cX5_twosAt 0 = .ok (.iconst 0, 1) := by decide +kernel
theorem dX5_twosAt_1 : decode cX5_twosAt 1 = .ok (.istore_n 1, 1) := by decide +kernel
theorem dX5_twosAt_2 : decode cX5_twosAt 2 = .ok (.iconst 0, 1) := by decide +kernel
theorem dX5_twosAt_3 : decode cX5_twosAt 3 = .ok (.istore_n 2, 1) := by decide +kernel
theorem dX5_twosAt_4 : decode cX5_twosAt 4 = .ok (.iload_n 2, 1) := by decide +kernel
theorem dX5_twosAt_5 : decode cX5_twosAt 5 = .ok (.bipush 60, 2) := by decide +kernel
theorem dX5_twosAt_7 : decode cX5_twosAt 7 = .ok (.if_icmp .gt 75, 3) := by decide +kernel
theorem dX5_twosAt_10 : decode cX5_twosAt 10 = .ok (.aload_n 0, 1) := by decide +kernel
theorem dX5_twosAt_11 : decode cX5_twosAt 11 = .ok (.iload_n 2, 1) := by decide +kernel
theorem dX5_twosAt_12 : decode cX5_twosAt 12 = .ok (.invokevirtual 114, 3) := by decide +kernel
theorem dX5_twosAt_15 : decode cX5_twosAt 15 = .ok (.iconst 0, 1) := by decide +kernel
theorem dX5_twosAt_16 : decode cX5_twosAt 16 = .ok (.istore_n 3, 1) := by decide +kernel
theorem dX5_twosAt_17 : decode cX5_twosAt 17 = .ok (.iload_n 3, 1) := by decide +kernel
theorem dX5_twosAt_18 : decode cX5_twosAt 18 = .ok (.aload_n 0, 1) := by decide +kernel
theorem dX5_twosAt_19 : decode cX5_twosAt 19 = .ok (.getfield 37, 3) := by decide +kernel
theorem dX5_twosAt_22 : decode cX5_twosAt 22 = .ok (.getfield 62, 3) := by decide +kernel
theorem dX5_twosAt_25 : decode cX5_twosAt 25 = .ok (.if_icmp .ge 51, 3) := by decide +kernel
theorem dX5_twosAt_28 : decode cX5_twosAt 28 = .ok (.iconst 0, 1) := by decide +kernel
theorem dX5_twosAt_29 : decode cX5_twosAt 29 = .ok (.istore 4, 2) := by decide +kernel
theorem dX5_twosAt_31 : decode cX5_twosAt 31 = .ok (.iload 4, 2) := by decide +kernel
theorem dX5_twosAt_33 : decode cX5_twosAt 33 = .ok (.aload_n 0, 1) := by decide +kernel
theorem dX5_twosAt_34 : decode cX5_twosAt 34 = .ok (.getfield 37, 3) := by decide +kernel
theorem dX5_twosAt_37 : decode cX5_twosAt 37 = .ok (.getfield 124, 3) := by decide +kernel
theorem dX5_twosAt_40 : decode cX5_twosAt 40 = .ok (.if_icmp .ge 30, 3) := by decide +kernel
theorem dX5_twosAt_43 : decode cX5_twosAt 43 = .ok (.aload_n 0, 1) := by decide +kernel
theorem dX5_twosAt_44 : decode cX5_twosAt 44 = .ok (.iload_n 3, 1) := by decide +kernel
theorem dX5_twosAt_45 : decode cX5_twosAt 45 = .ok (.iload 4, 2) := by decide +kernel
theorem dX5_twosAt_47 : decode cX5_twosAt 47 = .ok (.invokevirtual 117, 3) := by decide +kernel
theorem dX5_twosAt_50 : decode cX5_twosAt 50 = .ok (.ifCond .eq 14, 3) := by decide +kernel
theorem dX5_twosAt_53 : decode cX5_twosAt 53 = .ok (.iload_n 1, 1) := by decide +kernel
theorem dX5_twosAt_54 : decode cX5_twosAt 54 = .ok (.iconst 1, 1) := by decide +kernel
theorem dX5_twosAt_55 : decode cX5_twosAt 55 = .ok (.iload_n 3, 1) := by decide +kernel
theorem dX5_twosAt_56 : decode cX5_twosAt 56 = .ok (.iconst 5, 1) := by decide +kernel
theorem dX5_twosAt_57 : decode cX5_twosAt 57 = .ok (.imul, 1) := by decide +kernel
theorem dX5_twosAt_58 : decode cX5_twosAt 58 = .ok (.iload 4, 2) := by decide +kernel
theorem dX5_twosAt_60 : decode cX5_twosAt 60 = .ok (.iadd, 1) := by decide +kernel
theorem dX5_twosAt_61 : decode cX5_twosAt 61 = .ok (.ishl, 1) := by decide +kernel
theorem dX5_twosAt_62 : decode cX5_twosAt 62 = .ok (.ior, 1) := by decide +kernel
theorem dX5_twosAt_63 : decode cX5_twosAt 63 = .ok (.istore_n 1, 1) := by decide +kernel
theorem dX5_twosAt_64 : decode cX5_twosAt 64 = .ok (.iinc 4 1, 3) := by decide +kernel
theorem dX5_twosAt_67 : decode cX5_twosAt 67 = .ok (.goto (-36), 3) := by decide +kernel
theorem dX5_twosAt_70 : decode cX5_twosAt 70 = .ok (.iinc 3 1, 3) := by decide +kernel
theorem dX5_twosAt_73 : decode cX5_twosAt 73 = .ok (.goto (-56), 3) := by decide +kernel
theorem dX5_twosAt_76 : decode cX5_twosAt 76 = .ok (.iinc 2 1, 3) := by decide +kernel
theorem dX5_twosAt_79 : decode cX5_twosAt 79 = .ok (.goto (-75), 3) := by decide +kernel
theorem dX5_twosAt_82 : decode cX5_twosAt 82 = .ok (.iload_n 1, 1) := by decide +kernel
theorem dX5_twosAt_83 : decode cX5_twosAt 83 = .ok (.invokestatic 127, 3) := by decide +kernel
theorem dX5_twosAt_86 : decode cX5_twosAt 86 = .ok (.ireturn, 1) := by decide +kernel
theorem dX6_init_0 : decode cX6_init 0 = .ok (.aload_n 0, 1) := by decide +kernel
theorem dX6_init_1 : decode cX6_init 1 = .ok (.invokespecial 3, 3) := by decide +kernel
theorem dX6_init_4 : decode cX6_init 4 = .ok (.aload_n 0, 1) := by decide +kernel
theorem dX6_init_5 : decode cX6_init 5 = .ok (.iconst 5, 1) := by decide +kernel
theorem dX6_init_6 : decode cX6_init 6 = .ok (.newarray .int, 2) := by decide +kernel
theorem dX6_init_8 : decode cX6_init 8 = .ok (.putfield 9, 3) := by decide +kernel
theorem dX6_init_11 : decode cX6_init 11 = .ok (.return_, 1) := by decide +kernel
theorem dX6_copy_0 : decode cX6_copy 0 = .ok (.iconst 0, 1) := by decide +kernel
theorem dX6_copy_1 : decode cX6_copy 1 = .ok (.istore_n 2, 1) := by decide +kernel
theorem dX6_copy_2 : decode cX6_copy 2 = .ok (.iload_n 2, 1) := by decide +kernel
theorem dX6_copy_3 : decode cX6_copy 3 = .ok (.iconst 5, 1) := by decide +kernel
theorem dX6_copy_4 : decode cX6_copy 4 = .ok (.if_icmp .ge 21, 3) := by decide +kernel
theorem dX6_copy_7 : decode cX6_copy 7 = .ok (.aload_n 0, 1) := by decide +kernel
theorem dX6_copy_8 : decode cX6_copy 8 = .ok (.getfield 9, 3) := by decide +kernel
theorem dX6_copy_11 : decode cX6_copy 11 = .ok (.iload_n 2, 1) := by decide +kernel
theorem dX6_copy_12 : decode cX6_copy 12 = .ok (.aload_n 1, 1) := by decide +kernel
theorem dX6_copy_13 : decode cX6_copy 13 = .ok (.getfield 9, 3) := by decide +kernel
theorem dX6_copy_16 : decode cX6_copy 16 = .ok (.iload_n 2, 1) := by decide +kernel
theorem dX6_copy_17 : decode cX6_copy 17 = .ok (.iaload, 1) := by decide +kernel
theorem dX6_copy_18 : decode cX6_copy 18 = .ok (.iastore, 1) := by decide +kernel
theorem dX6_copy_19 : decode cX6_copy 19 = .ok (.iinc 2 1, 3) := by decide +kernel
theorem dX6_copy_22 : decode cX6_copy 22 = .ok (.goto (-20), 3) := by decide +kernel
theorem dX6_copy_25 : decode cX6_copy 25 = .ok (.aload_n 0, 1) := by decide +kernel
theorem dX6_copy_26 : decode cX6_copy 26 = .ok (.aload_n 1, 1) := by decide +kernel
theorem dX6_copy_27 : decode cX6_copy 27 = .ok (.getfield 15, 3) := by decide +kernel
theorem dX6_copy_30 : decode cX6_copy 30 = .ok (.putfield 15, 3) := by decide +kernel
theorem dX6_copy_33 : decode cX6_copy 33 = .ok (.aload_n 0, 1) := by decide +kernel
theorem dX6_copy_34 : decode cX6_copy 34 = .ok (.aload_n 1, 1) := by decide +kernel
theorem dX6_copy_35 : decode cX6_copy 35 = .ok (.getfield 19, 3) := by decide +kernel
theorem dX6_copy_38 : decode cX6_copy 38 = .ok (.putfield 19, 3) := by decide +kernel
theorem dX6_copy_41 : decode cX6_copy 41 = .ok (.return_, 1) := by decide +kernel
theorem dX7_init_0 : decode cX7_init 0 = .ok (.aload_n 0, 1) := by decide +kernel
theorem dX7_init_1 : decode cX7_init 1 = .ok (.invokespecial 3, 3) := by decide +kernel
theorem dX7_init_4 : decode cX7_init 4 = .ok (.aload_n 0, 1) := by decide +kernel
theorem dX7_init_5 : decode cX7_init 5 = .ok (.sipush 200, 3) := by decide +kernel
theorem dX7_init_8 : decode cX7_init 8 = .ok (.newarray .char, 2) := by decide +kernel
theorem dX7_init_10 : decode cX7_init 10 = .ok (.putfield 9, 3) := by decide +kernel
theorem dX7_init_13 : decode cX7_init 13 = .ok (.aload_n 0, 1) := by decide +kernel
theorem dX7_init_14 : decode cX7_init 14 = .ok (.iconst 4, 1) := by decide +kernel
theorem dX7_init_15 : decode cX7_init 15 = .ok (.newarray .int, 2) := by decide +kernel
theorem dX7_init_17 : decode cX7_init 17 = .ok (.putfield 15, 3) := by decide +kernel
theorem dX7_init_20 : decode cX7_init 20 = .ok (.return_, 1) := by decide +kernel
theorem dX7_add_0 : decode cX7_add 0 = .ok (.aload_n 0, 1) := by decide +kernel
theorem dX7_add_1 : decode cX7_add 1 = .ok (.getfield 19, 3) := by decide +kernel
theorem dX7_add_4 : decode cX7_add 4 = .ok (.sipush 200, 3) := by decide +kernel
theorem dX7_add_7 : decode cX7_add 7 = .ok (.if_icmp .lt 5, 3) := by decide +kernel
theorem dX7_add_10 : decode cX7_add 10 = .ok (.iconst 0, 1) := by decide +kernel
theorem dX7_add_11 : decode cX7_add 11 = .ok (.ireturn, 1) := by decide +kernel
theorem dX7_add_12 : decode cX7_add 12 = .ok (.aload_n 0, 1) := by decide +kernel
theorem dX7_add_13 : decode cX7_add 13 = .ok (.getfield 9, 3) := by decide +kernel
theorem dX7_add_16 : decode cX7_add 16 = .ok (.aload_n 0, 1) := by decide +kernel
theorem dX7_add_17 : decode cX7_add 17 = .ok (.getfield 19, 3) := by decide +kernel
theorem dX7_add_20 : decode cX7_add 20 = .ok (.iload_n 1, 1) := by decide +kernel
theorem dX7_add_21 : decode cX7_add 21 = .ok (.castore, 1) := by decide +kernel
theorem dX7_add_22 : decode cX7_add 22 = .ok (.aload_n 0, 1) := by decide +kernel
theorem dX7_add_23 : decode cX7_add 23 = .ok (.dup, 1) := by decide +kernel
theorem dX7_add_24 : decode cX7_add 24 = .ok (.getfield 19, 3) := by decide +kernel
theorem dX7_add_27 : decode cX7_add 27 = .ok (.iconst 1, 1) := by decide +kernel
theorem dX7_add_28 : decode cX7_add 28 = .ok (.iadd, 1) := by decide +kernel
theorem dX7_add_29 : decode cX7_add 29 = .ok (.putfield 19, 3) := by decide +kernel
theorem dX7_add_32 : decode cX7_add 32 = .ok (.iconst 1, 1) := by decide +kernel
theorem dX7_add_33 : decode cX7_add 33 = .ok (.ireturn, 1) := by decide +kernel
theorem dX7_addAll_0 : decode cX7_addAll 0 = .ok (.iconst 0, 1) := by decide +kernel
theorem dX7_addAll_1 : decode cX7_addAll 1 = .ok (.istore_n 2, 1) := by decide +kernel
theorem dX7_addAll_2 : decode cX7_addAll 2 = .ok (.iload_n 2, 1) := by decide +kernel
theorem dX7_addAll_3 : decode cX7_addAll 3 = .ok (.aload_n 1, 1) := by decide +kernel
theorem dX7_addAll_4 : decode cX7_addAll 4 = .ok (.invokevirtual 23, 3) := by decide +kernel
theorem dX7_addAll_7 : decode cX7_addAll 7 = .ok (.if_icmp .ge 19, 3) := by decide +kernel
theorem dX7_addAll_10 : decode cX7_addAll 10 = .ok (.aload_n 0, 1) := by decide +kernel
theorem dX7_addAll_11 : decode cX7_addAll 11 = .ok (.aload_n 1, 1) := by decide +kernel
theorem dX7_addAll_12 : decode cX7_addAll 12 = .ok (.iload_n 2, 1) := by decide +kernel
theorem dX7_addAll_13 : decode cX7_addAll 13 = .ok (.invokevirtual 28, 3) := by decide +kernel
theorem dX7_addAll_16 : decode cX7_addAll 16 = .ok (.invokevirtual 32, 3) := by decide +kernel
theorem dX7_addAll_19 : decode cX7_addAll 19 = .ok (.pop, 1) := by decide +kernel
theorem dX7_addAll_20 : decode cX7_addAll 20 = .ok (.iinc 2 1, 3) := by decide +kernel
theorem dX7_addAll_23 : decode cX7_addAll 23 = .ok (.goto (-21), 3) := by decide +kernel
theorem dX7_addAll_26 : decode cX7_addAll 26 = .ok (.return_, 1) := by decide +kernel
theorem dX7_readInto_0 : decode cX7_readInto 0 = .ok (.aload_n 1, 1) := by decide +kernel
theorem dX7_readInto_1 : decode cX7_readInto 1 = .ok (.invokevirtual 36, 3) := by decide +kernel
theorem dX7_readInto_4 : decode cX7_readInto 4 = .ok (.aload_n 0, 1) := by decide +kernel
theorem dX7_readInto_5 : decode cX7_readInto 5 = .ok (.iconst 0, 1) := by decide +kernel
theorem dX7_readInto_6 : decode cX7_readInto 6 = .ok (.putfield 41, 3) := by decide +kernel
theorem dX7_readInto_9 : decode cX7_readInto 9 = .ok (.aload_n 0, 1) := by decide +kernel
theorem dX7_readInto_10 : decode cX7_readInto 10 = .ok (.iconst 1, 1) := by decide +kernel
theorem dX7_readInto_11 : decode cX7_readInto 11 = .ok (.putfield 44, 3) := by decide +kernel
theorem dX7_readInto_14 : decode cX7_readInto 14 = .ok (.iconst 0, 1) := by decide +kernel
theorem dX7_readInto_15 : decode cX7_readInto 15 = .ok (.istore_n 2, 1) := by decide +kernel
theorem dX7_readInto_16 : decode cX7_readInto 16 = .ok (.iload_n 2, 1) := by decide +kernel
theorem dX7_readInto_17 : decode cX7_readInto 17 = .ok (.sipush 200, 3) := by decide +kernel
theorem dX7_readInto_20 : decode cX7_readInto 20 = .ok (.if_icmp .ge 35, 3) := by decide +kernel
theorem dX7_readInto_23 : decode cX7_readInto 23 = .ok (.aload_n 0, 1) := by decide +kernel
theorem dX7_readInto_24 : decode cX7_readInto 24 = .ok (.getfield 41, 3) := by decide +kernel
theorem dX7_readInto_27 : decode cX7_readInto 27 = .ok (.aload_n 0, 1) := by decide +kernel
theorem dX7_readInto_28 : decode cX7_readInto 28 = .ok (.getfield 19, 3) := by decide +kernel
theorem dX7_readInto_31 : decode cX7_readInto 31 = .ok (.if_icmp .ge 24, 3) := by decide +kernel
theorem dX7_readInto_34 : decode cX7_readInto 34 = .ok (.aload_n 0, 1) := by decide +kernel
theorem dX7_readInto_35 : decode cX7_readInto 35 = .ok (.getfield 41, 3) := by decide +kernel
theorem dX7_readInto_38 : decode cX7_readInto 38 = .ok (.istore_n 3, 1) := by decide +kernel
theorem dX7_readInto_39 : decode cX7_readInto 39 = .ok (.aload_n 0, 1) := by decide +kernel
theorem dX7_readInto_40 : decode cX7_readInto 40 = .ok (.aload_n 1, 1) := by decide +kernel
theorem dX7_readInto_41 : decode cX7_readInto 41 = .ok (.invokevirtual 48, 3) := by decide +kernel
theorem dX7_readInto_44 : decode cX7_readInto 44 = .ok (.ifCond .ne 5, 3) := by decide +kernel
theorem dX7_readInto_47 : decode cX7_readInto 47 = .ok (.iload_n 3, 1) := by decide +kernel
theorem dX7_readInto_48 : decode cX7_readInto 48 = .ok (.ireturn, 1) := by decide +kernel
theorem dX7_readInto_49 : decode cX7_readInto 49 = .ok (.iinc 2 1, 3) := by decide +kernel
theorem dX7_readInto_52 : decode cX7_readInto 52 = .ok (.goto (-36), 3) := by decide +kernel
theorem dX7_readInto_55 : decode cX7_readInto 55 = .ok (.bipush (-4), 2) := by decide +kernel
theorem dX7_readInto_57 : decode cX7_readInto 57 = .ok (.ireturn, 1) := by decide +kernel
theorem dX7_readItem_0 : decode cX7_readItem 0 = .ok (.aload_n 0, 1) := by decide +kernel
theorem dX7_readItem_1 : decode cX7_readItem 1 = .ok (.getfield 41, 3) := by decide +kernel
theorem dX7_readItem_4 : decode cX7_readItem 4 = .ok (.aload_n 0, 1) := by decide +kernel
theorem dX7_readItem_5 : decode cX7_readItem 5 = .ok (.getfield 19, 3) := by decide +kernel
theorem dX7_readItem_8 : decode cX7_readItem 8 = .ok (.if_icmp .lt 5, 3) := by decide +kernel
theorem dX7_readItem_11 : decode cX7_readItem 11 = .ok (.iconst 0, 1) := by decide +kernel
theorem dX7_readItem_12 : decode cX7_readItem 12 = .ok (.ireturn, 1) := by decide +kernel
theorem dX7_readItem_13 : decode cX7_readItem 13 = .ok (.aload_n 0, 1) := by decide +kernel
theorem dX7_readItem_14 : decode cX7_readItem 14 = .ok (.getfield 9, 3) := by decide +kernel
theorem dX7_readItem_17 : decode cX7_readItem 17 = .ok (.aload_n 0, 1) := by decide +kernel
theorem dX7_readItem_18 : decode cX7_readItem 18 = .ok (.getfield 41, 3) := by decide +kernel
theorem dX7_readItem_21 : decode cX7_readItem 21 = .ok (.caload, 1) := by decide +kernel
theorem dX7_readItem_22 : decode cX7_readItem 22 = .ok (.istore_n 2, 1) := by decide +kernel
theorem dX7_readItem_23 : decode cX7_readItem 23 = .ok (.aload_n 0, 1) := by decide +kernel
theorem dX7_readItem_24 : decode cX7_readItem 24 = .ok (.dup, 1) := by decide +kernel
theorem dX7_readItem_25 : decode cX7_readItem 25 = .ok (.getfield 41, 3) := by decide +kernel
theorem dX7_readItem_28 : decode cX7_readItem 28 = .ok (.iconst 1, 1) := by decide +kernel
theorem dX7_readItem_29 : decode cX7_readItem 29 = .ok (.iadd, 1) := by decide +kernel
theorem dX7_readItem_30 : decode cX7_readItem 30 = .ok (.putfield 41, 3) := by decide +kernel
theorem dX7_readItem_33 : decode cX7_readItem 33 = .ok (.iload_n 2, 1) := by decide +kernel
theorem dX7_readItem_34 : decode cX7_readItem 34 = .ok (.bipush 112, 2) := by decide +kernel
theorem dX7_readItem_36 : decode cX7_readItem 36 = .ok (.if_icmp .ne 7, 3) := by decide +kernel
theorem dX7_readItem_39 : decode cX7_readItem 39 = .ok (.iconst 3, 1) := by decide +kernel
theorem dX7_readItem_40 : decode cX7_readItem 40 = .ok (.goto 4, 3) := by decide +kernel
theorem dX7_readItem_43 : decode cX7_readItem 43 = .ok (.iconst 0, 1) := by decide +kernel
theorem dX7_readItem_44 : decode cX7_readItem 44 = .ok (.istore_n 3, 1) := by decide +kernel
theorem dX7_readItem_45 : decode cX7_readItem 45 = .ok (.iconst 0, 1) := by decide +kernel
theorem dX7_readItem_46 : decode cX7_readItem 46 = .ok (.istore 4, 2) := by decide +kernel
theorem dX7_readItem_48 : decode cX7_readItem 48 = .ok (.iload 4, 2) := by decide +kernel
theorem dX7_readItem_50 : decode cX7_readItem 50 = .ok (.iload_n 3, 1) := by decide +kernel
theorem dX7_readItem_51 : decode cX7_readItem 51 = .ok (.if_icmp .gt 33, 3) := by decide +kernel
theorem dX7_readItem_54 : decode cX7_readItem 54 = .ok (.aload_n 0, 1) := by decide +kernel
theorem dX7_readItem_55 : decode cX7_readItem 55 = .ok (.iload 4, 2) := by decide +kernel
theorem dX7_readItem_57 : decode cX7_readItem 57 = .ok (.iload 4, 2) := by decide +kernel
theorem dX7_readItem_59 : decode cX7_readItem 59 = .ok (.iload_n 3, 1) := by decide +kernel
theorem dX7_readItem_60 : decode cX7_readItem 60 = .ok (.if_icmp .ge 8, 3) := by decide +kernel
theorem dX7_readItem_63 : decode cX7_readItem 63 = .ok (.bipush 44, 2) := by decide +kernel
theorem dX7_readItem_65 : decode cX7_readItem 65 = .ok (.goto 5, 3) := by decide +kernel
theorem dX7_readItem_68 : decode cX7_readItem 68 = .ok (.bipush 59, 2) := by decide +kernel
theorem dX7_readItem_70 : decode cX7_readItem 70 = .ok (.invokevirtual 52, 3) := by decide +kernel
theorem dX7_readItem_73 : decode cX7_readItem 73 = .ok (.ifCond .ne 5, 3) := by decide +kernel
theorem dX7_readItem_76 : decode cX7_readItem 76 = .ok (.iconst 0, 1) := by decide +kernel
theorem dX7_readItem_77 : decode cX7_readItem 77 = .ok (.ireturn, 1) := by decide +kernel
theorem dX7_readItem_78 : decode cX7_readItem 78 = .ok (.iinc 4 1, 3) := by decide +kernel
theorem dX7_readItem_81 : decode cX7_readItem 81 = .ok (.goto (-33), 3) := by decide +kernel
theorem dX7_readItem_84 : decode cX7_readItem 84 = .ok (.iload_n 2, 1) := by decide +kernel
theorem dX7_readItem_85 : decode cX7_readItem 85 = .ok (.bipush 110, 2) := by decide +kernel
theorem dX7_readItem_87 : decode cX7_readItem 87 = .ok (.if_icmp .ne 29, 3) := by decide +kernel
theorem dX7_readItem_90 : decode cX7_readItem 90 = .ok (.aload_n 0, 1) := by decide +kernel
theorem dX7_readItem_91 : decode cX7_readItem 91 = .ok (.getfield 44, 3) := by decide +kernel
theorem dX7_readItem_94 : decode cX7_readItem 94 = .ok (.ifCond .eq 20, 3) := by decide +kernel
theorem dX7_readItem_97 : decode cX7_readItem 97 = .ok (.aload_n 1, 1) := by decide +kernel
theorem dX7_readItem_98 : decode cX7_readItem 98 = .ok (.aload_n 0, 1) := by decide +kernel
theorem dX7_readItem_99 : decode cX7_readItem 99 = .ok (.getfield 15, 3) := by decide +kernel
theorem dX7_readItem_102 : decode cX7_readItem 102 = .ok (.iconst 0, 1) := by decide +kernel
theorem dX7_readItem_103 : decode cX7_readItem 103 = .ok (.iaload, 1) := by decide +kernel
theorem dX7_readItem_104 : decode cX7_readItem 104 = .ok (.invokevirtual 56, 3) := by decide +kernel
theorem dX7_readItem_107 : decode cX7_readItem 107 = .ok (.ifCond .eq 7, 3) := by decide +kernel
theorem dX7_readItem_110 : decode cX7_readItem 110 = .ok (.iconst 1, 1) := by decide +kernel
theorem dX7_readItem_111 : decode cX7_readItem 111 = .ok (.goto 4, 3) := by decide +kernel
theorem dX7_readItem_114 : decode cX7_readItem 114 = .ok (.iconst 0, 1) := by decide +kernel
theorem dX7_readItem_115 : decode cX7_readItem 115 = .ok (.ireturn, 1) := by decide +kernel
theorem dX7_readItem_116 : decode cX7_readItem 116 = .ok (.aload_n 0, 1) := by decide +kernel
theorem dX7_readItem_117 : decode cX7_readItem 117 = .ok (.iconst 0, 1) := by decide +kernel
theorem dX7_readItem_118 : decode cX7_readItem 118 = .ok (.putfield 44, 3) := by decide +kernel
theorem dX7_readItem_121 : decode cX7_readItem 121 = .ok (.iload_n 2, 1) := by decide +kernel
theorem dX7_readItem_122 : decode cX7_readItem 122 = .ok (.lookupswitch 104 #[(97, 82), (112, 53), (116, 42), (119, 93)], 42) := by decide +kernel
theorem dX7_readItem_164 : decode cX7_readItem 164 = .ok (.aload_n 1, 1) := by decide +kernel
theorem dX7_readItem_165 : decode cX7_readItem 165 = .ok (.aload_n 0, 1) := by decide +kernel
theorem dX7_readItem_166 : decode cX7_readItem 166 = .ok (.getfield 15, 3) := by decide +kernel
theorem dX7_readItem_169 : decode cX7_readItem 169 = .ok (.iconst 0, 1) := by decide +kernel
theorem dX7_readItem_170 : decode cX7_readItem 170 = .ok (.iaload, 1) := by decide +kernel
theorem dX7_readItem_171 : decode cX7_readItem 171 = .ok (.invokevirtual 60, 3) := by decide +kernel
theorem dX7_readItem_174 : decode cX7_readItem 174 = .ok (.ireturn, 1) := by decide +kernel
theorem dX7_readItem_175 : decode cX7_readItem 175 = .ok (.aload_n 1, 1) := by decide +kernel
theorem dX7_readItem_176 : decode cX7_readItem 176 = .ok (.aload_n 0, 1) := by decide +kernel
theorem dX7_readItem_177 : decode cX7_readItem 177 = .ok (.getfield 15, 3) := by decide +kernel
theorem dX7_readItem_180 : decode cX7_readItem 180 = .ok (.iconst 0, 1) := by decide +kernel
theorem dX7_readItem_181 : decode cX7_readItem 181 = .ok (.iaload, 1) := by decide +kernel
theorem dX7_readItem_182 : decode cX7_readItem 182 = .ok (.aload_n 0, 1) := by decide +kernel
theorem dX7_readItem_183 : decode cX7_readItem 183 = .ok (.getfield 15, 3) := by decide +kernel
theorem dX7_readItem_186 : decode cX7_readItem 186 = .ok (.iconst 1, 1) := by decide +kernel
theorem dX7_readItem_187 : decode cX7_readItem 187 = .ok (.iaload, 1) := by decide +kernel
theorem dX7_readItem_188 : decode cX7_readItem 188 = .ok (.aload_n 0, 1) := by decide +kernel
theorem dX7_readItem_189 : decode cX7_readItem 189 = .ok (.getfield 15, 3) := by decide +kernel
theorem dX7_readItem_192 : decode cX7_readItem 192 = .ok (.iconst 2, 1) := by decide +kernel
theorem dX7_readItem_193 : decode cX7_readItem 193 = .ok (.iaload, 1) := by decide +kernel
theorem dX7_readItem_194 : decode cX7_readItem 194 = .ok (.aload_n 0, 1) := by decide +kernel
theorem dX7_readItem_195 : decode cX7_readItem 195 = .ok (.getfield 15, 3) := by decide +kernel
theorem dX7_readItem_198 : decode cX7_readItem 198 = .ok (.iconst 3, 1) := by decide +kernel
theorem dX7_readItem_199 : decode cX7_readItem 199 = .ok (.iaload, 1) := by decide +kernel
theorem dX7_readItem_200 : decode cX7_readItem 200 = .ok (.invokevirtual 63, 3) := by decide +kernel
theorem dX7_readItem_203 : decode cX7_readItem 203 = .ok (.ireturn, 1) := by decide +kernel
theorem dX7_readItem_204 : decode cX7_readItem 204 = .ok (.aload_n 1, 1) := by decide +kernel
theorem dX7_readItem_205 : decode cX7_readItem 205 = .ok (.aload_n 0, 1) := by decide +kernel
theorem dX7_readItem_206 : decode cX7_readItem 206 = .ok (.getfield 15, 3) := by decide +kernel
theorem dX7_readItem_209 : decode cX7_readItem 209 = .ok (.iconst 0, 1) := by decide +kernel
theorem dX7_readItem_210 : decode cX7_readItem 210 = .ok (.iaload, 1) := by decide +kernel
theorem dX7_readItem_211 : decode cX7_readItem 211 = .ok (.invokevirtual 67, 3) := by decide +kernel
theorem dX7_readItem_214 : decode cX7_readItem 214 = .ok (.ireturn, 1) := by decide +kernel
theorem dX7_readItem_215 : decode cX7_readItem 215 = .ok (.aload_n 1, 1) := by decide +kernel
theorem dX7_readItem_216 : decode cX7_readItem 216 = .ok (.aload_n 0, 1) := by decide +kernel
theorem dX7_readItem_217 : decode cX7_readItem 217 = .ok (.getfield 15, 3) := by decide +kernel
theorem dX7_readItem_220 : decode cX7_readItem 220 = .ok (.iconst 0, 1) := by decide +kernel
theorem dX7_readItem_221 : decode cX7_readItem 221 = .ok (.iaload, 1) := by decide +kernel
theorem dX7_readItem_222 : decode cX7_readItem 222 = .ok (.invokevirtual 70, 3) := by decide +kernel
theorem dX7_readItem_225 : decode cX7_readItem 225 = .ok (.ireturn, 1) := by decide +kernel
theorem dX7_readItem_226 : decode cX7_readItem 226 = .ok (.iconst 0, 1) := by decide +kernel
theorem dX7_readItem_227 : decode cX7_readItem 227 = .ok (.ireturn, 1) := by decide +kernel
theorem dX7_readNumber_0 : decode cX7_readNumber 0 = .ok (.iconst 0, 1) := by decide +kernel
theorem dX7_readNumber_1 : decode cX7_readNumber 1 = .ok (.istore_n 3, 1) := by decide +kernel
theorem dX7_readNumber_2 : decode cX7_readNumber 2 = .ok (.iconst 0, 1) := by decide +kernel
theorem dX7_readNumber_3 : decode cX7_readNumber 3 = .ok (.istore 4, 2) := by decide +kernel
theorem dX7_readNumber_5 : decode cX7_readNumber 5 = .ok (.iload 4, 2) := by decide +kernel
theorem dX7_readNumber_7 : decode cX7_readNumber 7 = .ok (.iconst 2, 1) := by decide +kernel
theorem dX7_readNumber_8 : decode cX7_readNumber 8 = .ok (.if_icmp .ge 63, 3) := by decide +kernel
theorem dX7_readNumber_11 : decode cX7_readNumber 11 = .ok (.aload_n 0, 1) := by decide +kernel
theorem dX7_readNumber_12 : decode cX7_readNumber 12 = .ok (.getfield 41, 3) := by decide +kernel
theorem dX7_readNumber_15 : decode cX7_readNumber 15 = .ok (.aload_n 0, 1) := by decide +kernel
theorem dX7_readNumber_16 : decode cX7_readNumber 16 = .ok (.getfield 19, 3) := by decide +kernel
theorem dX7_readNumber_19 : decode cX7_readNumber 19 = .ok (.if_icmp .ge 52, 3) := by decide +kernel
theorem dX7_readNumber_22 : decode cX7_readNumber 22 = .ok (.aload_n 0, 1) := by decide +kernel
theorem dX7_readNumber_23 : decode cX7_readNumber 23 = .ok (.getfield 9, 3) := by decide +kernel
theorem dX7_readNumber_26 : decode cX7_readNumber 26 = .ok (.aload_n 0, 1) := by decide +kernel
theorem dX7_readNumber_27 : decode cX7_readNumber 27 = .ok (.getfield 41, 3) := by decide +kernel
theorem dX7_readNumber_30 : decode cX7_readNumber 30 = .ok (.caload, 1) := by decide +kernel
theorem dX7_readNumber_31 : decode cX7_readNumber 31 = .ok (.invokestatic 73, 3) := by decide +kernel
theorem dX7_readNumber_34 : decode cX7_readNumber 34 = .ok (.ifCond .eq 37, 3) := by decide +kernel
theorem dX7_readNumber_37 : decode cX7_readNumber 37 = .ok (.bipush 10, 2) := by decide +kernel
theorem dX7_readNumber_39 : decode cX7_readNumber 39 = .ok (.iload_n 3, 1) := by decide +kernel
theorem dX7_readNumber_40 : decode cX7_readNumber 40 = .ok (.imul, 1) := by decide +kernel
theorem dX7_readNumber_41 : decode cX7_readNumber 41 = .ok (.aload_n 0, 1) := by decide +kernel
theorem dX7_readNumber_42 : decode cX7_readNumber 42 = .ok (.getfield 9, 3) := by decide +kernel
theorem dX7_readNumber_45 : decode cX7_readNumber 45 = .ok (.aload_n 0, 1) := by decide +kernel
theorem dX7_readNumber_46 : decode cX7_readNumber 46 = .ok (.getfield 41, 3) := by decide +kernel
theorem dX7_readNumber_49 : decode cX7_readNumber 49 = .ok (.caload, 1) := by decide +kernel
theorem dX7_readNumber_50 : decode cX7_readNumber 50 = .ok (.iadd, 1) := by decide +kernel
theorem dX7_readNumber_51 : decode cX7_readNumber 51 = .ok (.bipush 48, 2) := by decide +kernel
theorem dX7_readNumber_53 : decode cX7_readNumber 53 = .ok (.isub, 1) := by decide +kernel
theorem dX7_readNumber_54 : decode cX7_readNumber 54 = .ok (.istore_n 3, 1) := by decide +kernel
theorem dX7_readNumber_55 : decode cX7_readNumber 55 = .ok (.aload_n 0, 1) := by decide +kernel
theorem dX7_readNumber_56 : decode cX7_readNumber 56 = .ok (.dup, 1) := by decide +kernel
theorem dX7_readNumber_57 : decode cX7_readNumber 57 = .ok (.getfield 41, 3) := by decide +kernel
theorem dX7_readNumber_60 : decode cX7_readNumber 60 = .ok (.iconst 1, 1) := by decide +kernel
theorem dX7_readNumber_61 : decode cX7_readNumber 61 = .ok (.iadd, 1) := by decide +kernel
theorem dX7_readNumber_62 : decode cX7_readNumber 62 = .ok (.putfield 41, 3) := by decide +kernel
theorem dX7_readNumber_65 : decode cX7_readNumber 65 = .ok (.iinc 4 1, 3) := by decide +kernel
theorem dX7_readNumber_68 : decode cX7_readNumber 68 = .ok (.goto (-63), 3) := by decide +kernel
theorem dX7_readNumber_71 : decode cX7_readNumber 71 = .ok (.iload 4, 2) := by decide +kernel
theorem dX7_readNumber_73 : decode cX7_readNumber 73 = .ok (.ifCond .eq 27, 3) := by decide +kernel
theorem dX7_readNumber_76 : decode cX7_readNumber 76 = .ok (.aload_n 0, 1) := by decide +kernel
theorem dX7_readNumber_77 : decode cX7_readNumber 77 = .ok (.getfield 41, 3) := by decide +kernel
theorem dX7_readNumber_80 : decode cX7_readNumber 80 = .ok (.aload_n 0, 1) := by decide +kernel
theorem dX7_readNumber_81 : decode cX7_readNumber 81 = .ok (.getfield 19, 3) := by decide +kernel
theorem dX7_readNumber_84 : decode cX7_readNumber 84 = .ok (.if_icmp .ge 16, 3) := by decide +kernel
theorem dX7_readNumber_87 : decode cX7_readNumber 87 = .ok (.aload_n 0, 1) := by decide +kernel
theorem dX7_readNumber_88 : decode cX7_readNumber 88 = .ok (.getfield 9, 3) := by decide +kernel
theorem dX7_readNumber_91 : decode cX7_readNumber 91 = .ok (.aload_n 0, 1) := by decide +kernel
theorem dX7_readNumber_92 : decode cX7_readNumber 92 = .ok (.getfield 41, 3) := by decide +kernel
theorem dX7_readNumber_95 : decode cX7_readNumber 95 = .ok (.caload, 1) := by decide +kernel
theorem dX7_readNumber_96 : decode cX7_readNumber 96 = .ok (.iload_n 2, 1) := by decide +kernel
theorem dX7_readNumber_97 : decode cX7_readNumber 97 = .ok (.if_icmp .eq 5, 3) := by decide +kernel
theorem dX7_readNumber_100 : decode cX7_readNumber 100 = .ok (.iconst 0, 1) := by decide +kernel
theorem dX7_readNumber_101 : decode cX7_readNumber 101 = .ok (.ireturn, 1) := by decide +kernel
theorem dX7_readNumber_102 : decode cX7_readNumber 102 = .ok (.aload_n 0, 1) := by decide +kernel
theorem dX7_readNumber_103 : decode cX7_readNumber 103 = .ok (.dup, 1) := by decide +kernel
theorem dX7_readNumber_104 : decode cX7_readNumber 104 = .ok (.getfield 41, 3) := by decide +kernel
theorem dX7_readNumber_107 : decode cX7_readNumber 107 = .ok (.iconst 1, 1) := by decide +kernel
theorem dX7_readNumber_108 : decode cX7_readNumber 108 = .ok (.iadd, 1) := by decide +kernel
theorem dX7_readNumber_109 : decode cX7_readNumber 109 = .ok (.putfield 41, 3) := by decide +kernel
theorem dX7_readNumber_112 : decode cX7_readNumber 112 = .ok (.aload_n 0, 1) := by decide +kernel
theorem dX7_readNumber_113 : decode cX7_readNumber 113 = .ok (.getfield 15, 3) := by decide +kernel
theorem dX7_readNumber_116 : decode cX7_readNumber 116 = .ok (.iload_n 1, 1) := by decide +kernel
theorem dX7_readNumber_117 : decode cX7_readNumber 117 = .ok (.iload_n 3, 1) := by decide +kernel
theorem dX7_readNumber_118 : decode cX7_readNumber 118 = .ok (.iastore, 1) := by decide +kernel
theorem dX7_readNumber_119 : decode cX7_readNumber 119 = .ok (.iconst 1, 1) := by decide +kernel
theorem dX7_readNumber_120 : decode cX7_readNumber 120 = .ok (.ireturn, 1) := by decide +kernel
theorem dX7_isFigure_0 : decode cX7_isFigure 0 = .ok (.iload_n 0, 1) := by decide +kernel
theorem dX7_isFigure_1 : decode cX7_isFigure 1 = .ok (.bipush 48, 2) := by decide +kernel
theorem dX7_isFigure_3 : decode cX7_isFigure 3 = .ok (.if_icmp .lt 13, 3) := by decide +kernel
theorem dX7_isFigure_6 : decode cX7_isFigure 6 = .ok (.iload_n 0, 1) := by decide +kernel
theorem dX7_isFigure_7 : decode cX7_isFigure 7 = .ok (.bipush 57, 2) := by decide +kernel
theorem dX7_isFigure_9 : decode cX7_isFigure 9 = .ok (.if_icmp .gt 7, 3) := by decide +kernel
theorem dX7_isFigure_12 : decode cX7_isFigure 12 = .ok (.iconst 1, 1) := by decide +kernel
theorem dX7_isFigure_13 : decode cX7_isFigure 13 = .ok (.goto 4, 3) := by decide +kernel
theorem dX7_isFigure_16 : decode cX7_isFigure 16 = .ok (.iconst 0, 1) := by decide +kernel
theorem dX7_isFigure_17 : decode cX7_isFigure 17 = .ok (.ireturn, 1) := by decide +kernel
theorem dX8_init_0 : decode cX8_init 0 = .ok (.aload_n 0, 1) := by decide +kernel
theorem dX8_init_1 : decode cX8_init 1 = .ok (.invokespecial 1, 3) := by decide +kernel
theorem dX8_init_4 : decode cX8_init 4 = .ok (.aload_n 0, 1) := by decide +kernel
theorem dX8_init_5 : decode cX8_init 5 = .ok (.new 7, 3) := by decide +kernel
theorem dX8_init_8 : decode cX8_init 8 = .ok (.dup, 1) := by decide +kernel
theorem dX8_init_9 : decode cX8_init 9 = .ok (.invokespecial 9, 3) := by decide +kernel
theorem dX8_init_12 : decode cX8_init 12 = .ok (.putfield 10, 3) := by decide +kernel
theorem dX8_init_15 : decode cX8_init 15 = .ok (.aload_n 0, 1) := by decide +kernel
theorem dX8_init_16 : decode cX8_init 16 = .ok (.new 16, 3) := by decide +kernel
theorem dX8_init_19 : decode cX8_init 19 = .ok (.dup, 1) := by decide +kernel
theorem dX8_init_20 : decode cX8_init 20 = .ok (.invokespecial 18, 3) := by decide +kernel
theorem dX8_init_23 : decode cX8_init 23 = .ok (.putfield 19, 3) := by decide +kernel
theorem dX8_init_26 : decode cX8_init 26 = .ok (.aload_n 0, 1) := by decide +kernel
theorem dX8_init_27 : decode cX8_init 27 = .ok (.new 16, 3) := by decide +kernel
theorem dX8_init_30 : decode cX8_init 30 = .ok (.dup, 1) := by decide +kernel
theorem dX8_init_31 : decode cX8_init 31 = .ok (.invokespecial 18, 3) := by decide +kernel
theorem dX8_init_34 : decode cX8_init 34 = .ok (.putfield 23, 3) := by decide +kernel
theorem dX8_init_37 : decode cX8_init 37 = .ok (.aload_n 0, 1) := by decide +kernel
theorem dX8_init_38 : decode cX8_init 38 = .ok (.new 26, 3) := by decide +kernel
theorem dX8_init_41 : decode cX8_init 41 = .ok (.dup, 1) := by decide +kernel
theorem dX8_init_42 : decode cX8_init 42 = .ok (.invokespecial 28, 3) := by decide +kernel
theorem dX8_init_45 : decode cX8_init 45 = .ok (.putfield 29, 3) := by decide +kernel
theorem dX8_init_48 : decode cX8_init 48 = .ok (.aload_n 0, 1) := by decide +kernel
theorem dX8_init_49 : decode cX8_init 49 = .ok (.new 33, 3) := by decide +kernel
theorem dX8_init_52 : decode cX8_init 52 = .ok (.dup, 1) := by decide +kernel
theorem dX8_init_53 : decode cX8_init 53 = .ok (.invokespecial 35, 3) := by decide +kernel
theorem dX8_init_56 : decode cX8_init 56 = .ok (.putfield 36, 3) := by decide +kernel
theorem dX8_init_59 : decode cX8_init 59 = .ok (.aload_n 0, 1) := by decide +kernel
theorem dX8_init_60 : decode cX8_init 60 = .ok (.new 40, 3) := by decide +kernel
theorem dX8_init_63 : decode cX8_init 63 = .ok (.dup, 1) := by decide +kernel
theorem dX8_init_64 : decode cX8_init 64 = .ok (.invokespecial 42, 3) := by decide +kernel
theorem dX8_init_67 : decode cX8_init 67 = .ok (.putfield 43, 3) := by decide +kernel
theorem dX8_init_70 : decode cX8_init 70 = .ok (.aload_n 0, 1) := by decide +kernel
theorem dX8_init_71 : decode cX8_init 71 = .ok (.new 47, 3) := by decide +kernel
theorem dX8_init_74 : decode cX8_init 74 = .ok (.dup, 1) := by decide +kernel
theorem dX8_init_75 : decode cX8_init 75 = .ok (.aload_n 0, 1) := by decide +kernel
theorem dX8_init_76 : decode cX8_init 76 = .ok (.getfield 19, 3) := by decide +kernel
theorem dX8_init_79 : decode cX8_init 79 = .ok (.invokespecial 49, 3) := by decide +kernel
theorem dX8_init_82 : decode cX8_init 82 = .ok (.putfield 52, 3) := by decide +kernel
theorem dX8_init_85 : decode cX8_init 85 = .ok (.aload_n 0, 1) := by decide +kernel
theorem dX8_init_86 : decode cX8_init 86 = .ok (.new 56, 3) := by decide +kernel
theorem dX8_init_89 : decode cX8_init 89 = .ok (.dup, 1) := by decide +kernel
theorem dX8_init_90 : decode cX8_init 90 = .ok (.aload_n 0, 1) := by decide +kernel
theorem dX8_init_91 : decode cX8_init 91 = .ok (.getfield 52, 3) := by decide +kernel
theorem dX8_init_94 : decode cX8_init 94 = .ok (.invokespecial 58, 3) := by decide +kernel
theorem dX8_init_97 : decode cX8_init 97 = .ok (.putfield 61, 3) := by decide +kernel
theorem dX8_init_100 : decode cX8_init 100 = .ok (.aload_n 0, 1) := by decide +kernel
theorem dX8_init_101 : decode cX8_init 101 = .ok (.getfield 10, 3) := by decide +kernel
theorem dX8_init_104 : decode cX8_init 104 = .ok (.ldc 65, 2) := by decide +kernel
theorem dX8_init_106 : decode cX8_init 106 = .ok (.invokevirtual 67, 3) := by decide +kernel
theorem dX8_init_109 : decode cX8_init 109 = .ok (.aload_n 0, 1) := by decide +kernel
theorem dX8_init_110 : decode cX8_init 110 = .ok (.getfield 10, 3) := by decide +kernel
theorem dX8_init_113 : decode cX8_init 113 = .ok (.aload_n 0, 1) := by decide +kernel
theorem dX8_init_114 : decode cX8_init 114 = .ok (.getfield 19, 3) := by decide +kernel
theorem dX8_init_117 : decode cX8_init 117 = .ok (.invokevirtual 71, 3) := by decide +kernel
theorem dX8_init_120 : decode cX8_init 120 = .ok (.pop, 1) := by decide +kernel
theorem dX8_init_121 : decode cX8_init 121 = .ok (.aload_n 0, 1) := by decide +kernel
theorem dX8_init_122 : decode cX8_init 122 = .ok (.getfield 10, 3) := by decide +kernel
theorem dX8_init_125 : decode cX8_init 125 = .ok (.iconst 0, 1) := by decide +kernel
theorem dX8_init_126 : decode cX8_init 126 = .ok (.putfield 75, 3) := by decide +kernel
theorem dX8_init_129 : decode cX8_init 129 = .ok (.return_, 1) := by decide +kernel
theorem dX8_write_0 : decode cX8_write 0 = .ok (.iload_n 1, 1) := by decide +kernel
theorem dX8_write_1 : decode cX8_write 1 = .ok (.bipush 32, 2) := by decide +kernel
theorem dX8_write_3 : decode cX8_write 3 = .ok (.if_icmp .lt 9, 3) := by decide +kernel
theorem dX8_write_6 : decode cX8_write 6 = .ok (.iload_n 1, 1) := by decide +kernel
theorem dX8_write_7 : decode cX8_write 7 = .ok (.bipush 126, 2) := by decide +kernel
theorem dX8_write_9 : decode cX8_write 9 = .ok (.if_icmp .le 5, 3) := by decide +kernel
theorem dX8_write_12 : decode cX8_write 12 = .ok (.iconst (-1), 1) := by decide +kernel
theorem dX8_write_13 : decode cX8_write 13 = .ok (.ireturn, 1) := by decide +kernel
theorem dX8_write_14 : decode cX8_write 14 = .ok (.aload_n 0, 1) := by decide +kernel
theorem dX8_write_15 : decode cX8_write 15 = .ok (.getfield 10, 3) := by decide +kernel
theorem dX8_write_18 : decode cX8_write 18 = .ok (.iload_n 1, 1) := by decide +kernel
theorem dX8_write_19 : decode cX8_write 19 = .ok (.i2c, 1) := by decide +kernel
theorem dX8_write_20 : decode cX8_write 20 = .ok (.invokevirtual 79, 3) := by decide +kernel
theorem dX8_write_23 : decode cX8_write 23 = .ok (.ifCond .eq 13, 3) := by decide +kernel
theorem dX8_write_26 : decode cX8_write 26 = .ok (.aload_n 0, 1) := by decide +kernel
theorem dX8_write_27 : decode cX8_write 27 = .ok (.getfield 10, 3) := by decide +kernel
theorem dX8_write_30 : decode cX8_write 30 = .ok (.getfield 75, 3) := by decide +kernel
theorem dX8_write_33 : decode cX8_write 33 = .ok (.goto 5, 3) := by decide +kernel
theorem dX8_write_36 : decode cX8_write 36 = .ok (.bipush (-3), 2) := by decide +kernel
theorem dX8_write_38 : decode cX8_write 38 = .ok (.ireturn, 1) := by decide +kernel
theorem dX8_wipe_0 : decode cX8_wipe 0 = .ok (.aload_n 0, 1) := by decide +kernel
theorem dX8_wipe_1 : decode cX8_wipe 1 = .ok (.getfield 10, 3) := by decide +kernel
theorem dX8_wipe_4 : decode cX8_wipe 4 = .ok (.getfield 75, 3) := by decide +kernel
theorem dX8_wipe_7 : decode cX8_wipe 7 = .ok (.istore_n 1, 1) := by decide +kernel
theorem dX8_wipe_8 : decode cX8_wipe 8 = .ok (.aload_n 0, 1) := by decide +kernel
theorem dX8_wipe_9 : decode cX8_wipe 9 = .ok (.getfield 10, 3) := by decide +kernel
theorem dX8_wipe_12 : decode cX8_wipe 12 = .ok (.iconst 0, 1) := by decide +kernel
theorem dX8_wipe_13 : decode cX8_wipe 13 = .ok (.putfield 75, 3) := by decide +kernel
theorem dX8_wipe_16 : decode cX8_wipe 16 = .ok (.iload_n 1, 1) := by decide +kernel
theorem dX8_wipe_17 : decode cX8_wipe 17 = .ok (.ireturn, 1) := by decide +kernel
theorem dX8_fault_0 : decode cX8_fault 0 = .ok (.aload_n 0, 1) := by decide +kernel
theorem dX8_fault_1 : decode cX8_fault 1 = .ok (.getfield 10, 3) := by decide +kernel
theorem dX8_fault_4 : decode cX8_fault 4 = .ok (.aload_n 0, 1) := by decide +kernel
theorem dX8_fault_5 : decode cX8_fault 5 = .ok (.getfield 23, 3) := by decide +kernel
theorem dX8_fault_8 : decode cX8_fault 8 = .ok (.invokevirtual 71, 3) := by decide +kernel
theorem dX8_fault_11 : decode cX8_fault 11 = .ok (.ireturn, 1) := by decide +kernel
theorem dX8_lay_0 : decode cX8_lay 0 = .ok (.aload_n 0, 1) := by decide +kernel
theorem dX8_lay_1 : decode cX8_lay 1 = .ok (.getfield 10, 3) := by decide +kernel
theorem dX8_lay_4 : decode cX8_lay 4 = .ok (.aload_n 0, 1) := by decide +kernel
theorem dX8_lay_5 : decode cX8_lay 5 = .ok (.getfield 23, 3) := by decide +kernel
theorem dX8_lay_8 : decode cX8_lay 8 = .ok (.invokevirtual 71, 3) := by decide +kernel
theorem dX8_lay_11 : decode cX8_lay 11 = .ok (.bipush (-4), 2) := by decide +kernel
theorem dX8_lay_13 : decode cX8_lay 13 = .ok (.if_icmp .ne 13, 3) := by decide +kernel
theorem dX8_lay_16 : decode cX8_lay 16 = .ok (.aload_n 0, 1) := by decide +kernel
theorem dX8_lay_17 : decode cX8_lay 17 = .ok (.getfield 23, 3) := by decide +kernel
theorem dX8_lay_20 : decode cX8_lay 20 = .ok (.getfield 83, 3) := by decide +kernel
theorem dX8_lay_23 : decode cX8_lay 23 = .ok (.ifCond .ne 6, 3) := by decide +kernel
theorem dX8_lay_26 : decode cX8_lay 26 = .ok (.bipush (-2), 2) := by decide +kernel
theorem dX8_lay_28 : decode cX8_lay 28 = .ok (.ireturn, 1) := by decide +kernel
theorem dX8_lay_29 : decode cX8_lay 29 = .ok (.aload_n 0, 1) := by decide +kernel
theorem dX8_lay_30 : decode cX8_lay 30 = .ok (.getfield 10, 3) := by decide +kernel
theorem dX8_lay_33 : decode cX8_lay 33 = .ok (.aload_n 0, 1) := by decide +kernel
theorem dX8_lay_34 : decode cX8_lay 34 = .ok (.getfield 19, 3) := by decide +kernel
theorem dX8_lay_37 : decode cX8_lay 37 = .ok (.invokevirtual 71, 3) := by decide +kernel
theorem dX8_lay_40 : decode cX8_lay 40 = .ok (.pop, 1) := by decide +kernel
theorem dX8_lay_41 : decode cX8_lay 41 = .ok (.aload_n 0, 1) := by decide +kernel
theorem dX8_lay_42 : decode cX8_lay 42 = .ok (.getfield 29, 3) := by decide +kernel
theorem dX8_lay_45 : decode cX8_lay 45 = .ok (.iconst 0, 1) := by decide +kernel
theorem dX8_lay_46 : decode cX8_lay 46 = .ok (.putfield 86, 3) := by decide +kernel
theorem dX8_lay_49 : decode cX8_lay 49 = .ok (.aload_n 0, 1) := by decide +kernel
theorem dX8_lay_50 : decode cX8_lay 50 = .ok (.getfield 36, 3) := by decide +kernel
theorem dX8_lay_53 : decode cX8_lay 53 = .ok (.iconst 0, 1) := by decide +kernel
theorem dX8_lay_54 : decode cX8_lay 54 = .ok (.putfield 89, 3) := by decide +kernel
theorem dX8_lay_57 : decode cX8_lay 57 = .ok (.aload_n 0, 1) := by decide +kernel
theorem dX8_lay_58 : decode cX8_lay 58 = .ok (.getfield 43, 3) := by decide +kernel
theorem dX8_lay_61 : decode cX8_lay 61 = .ok (.iconst 0, 1) := by decide +kernel
theorem dX8_lay_62 : decode cX8_lay 62 = .ok (.putfield 90, 3) := by decide +kernel
theorem dX8_lay_65 : decode cX8_lay 65 = .ok (.aload_n 0, 1) := by decide +kernel
theorem dX8_lay_66 : decode cX8_lay 66 = .ok (.getfield 19, 3) := by decide +kernel
theorem dX8_lay_69 : decode cX8_lay 69 = .ok (.getfield 83, 3) := by decide +kernel
theorem dX8_lay_72 : decode cX8_lay 72 = .ok (.ireturn, 1) := by decide +kernel
theorem dX8_platform_0 : decode cX8_platform 0 = .ok (.aload_n 0, 1) := by decide +kernel
theorem dX8_platform_1 : decode cX8_platform 1 = .ok (.getfield 19, 3) := by decide +kernel
theorem dX8_platform_4 : decode cX8_platform 4 = .ok (.iload_n 1, 1) := by decide +kernel
theorem dX8_platform_5 : decode cX8_platform 5 = .ok (.invokevirtual 91, 3) := by decide +kernel
theorem dX8_platform_8 : decode cX8_platform 8 = .ok (.ifCond .ne 5, 3) := by decide +kernel
theorem dX8_platform_11 : decode cX8_platform 11 = .ok (.iconst (-1), 1) := by decide +kernel
theorem dX8_platform_12 : decode cX8_platform 12 = .ok (.ireturn, 1) := by decide +kernel
theorem dX8_platform_13 : decode cX8_platform 13 = .ok (.iload_n 2, 1) := by decide +kernel
theorem dX8_platform_14 : decode cX8_platform 14 = .ok (.tableswitch 94 0 4 #[34, 44, 54, 66, 79], 34) := by decide +kernel
theorem dX8_platform_48 : decode cX8_platform 48 = .ok (.aload_n 0, 1) := by decide +kernel
theorem dX8_platform_49 : decode cX8_platform 49 = .ok (.getfield 19, 3) := by decide +kernel
theorem dX8_platform_52 : decode cX8_platform 52 = .ok (.getfield 95, 3) := by decide +kernel
theorem dX8_platform_55 : decode cX8_platform 55 = .ok (.iload_n 1, 1) := by decide +kernel
theorem dX8_platform_56 : decode cX8_platform 56 = .ok (.iaload, 1) := by decide +kernel
theorem dX8_platform_57 : decode cX8_platform 57 = .ok (.ireturn, 1) := by decide +kernel
theorem dX8_platform_58 : decode cX8_platform 58 = .ok (.aload_n 0, 1) := by decide +kernel
theorem dX8_platform_59 : decode cX8_platform 59 = .ok (.getfield 19, 3) := by decide +kernel
theorem dX8_platform_62 : decode cX8_platform 62 = .ok (.getfield 99, 3) := by decide +kernel
theorem dX8_platform_65 : decode cX8_platform 65 = .ok (.iload_n 1, 1) := by decide +kernel
theorem dX8_platform_66 : decode cX8_platform 66 = .ok (.iaload, 1) := by decide +kernel
theorem dX8_platform_67 : decode cX8_platform 67 = .ok (.ireturn, 1) := by decide +kernel
theorem dX8_platform_68 : decode cX8_platform 68 = .ok (.aload_n 0, 1) := by decide +kernel
theorem dX8_platform_69 : decode cX8_platform 69 = .ok (.getfield 19, 3) := by decide +kernel
theorem dX8_platform_72 : decode cX8_platform 72 = .ok (.getfield 102, 3) := by decide +kernel
theorem dX8_platform_75 : decode cX8_platform 75 = .ok (.iload_n 1, 1) := by decide +kernel
theorem dX8_platform_76 : decode cX8_platform 76 = .ok (.invokestatic 105, 3) := by decide +kernel
theorem dX8_platform_79 : decode cX8_platform 79 = .ok (.ireturn, 1) := by decide +kernel
theorem dX8_platform_80 : decode cX8_platform 80 = .ok (.aload_n 0, 1) := by decide +kernel
theorem dX8_platform_81 : decode cX8_platform 81 = .ok (.getfield 19, 3) := by decide +kernel
theorem dX8_platform_84 : decode cX8_platform 84 = .ok (.getfield 109, 3) := by decide +kernel
theorem dX8_platform_87 : decode cX8_platform 87 = .ok (.getfield 113, 3) := by decide +kernel
theorem dX8_platform_90 : decode cX8_platform 90 = .ok (.iload_n 1, 1) := by decide +kernel
theorem dX8_platform_91 : decode cX8_platform 91 = .ok (.iaload, 1) := by decide +kernel
theorem dX8_platform_92 : decode cX8_platform 92 = .ok (.ireturn, 1) := by decide +kernel
theorem dX8_platform_93 : decode cX8_platform 93 = .ok (.aload_n 0, 1) := by decide +kernel
theorem dX8_platform_94 : decode cX8_platform 94 = .ok (.getfield 19, 3) := by decide +kernel
theorem dX8_platform_97 : decode cX8_platform 97 = .ok (.getfield 109, 3) := by decide +kernel
theorem dX8_platform_100 : decode cX8_platform 100 = .ok (.getfield 118, 3) := by decide +kernel
theorem dX8_platform_103 : decode cX8_platform 103 = .ok (.iload_n 1, 1) := by decide +kernel
theorem dX8_platform_104 : decode cX8_platform 104 = .ok (.invokestatic 105, 3) := by decide +kernel
theorem dX8_platform_107 : decode cX8_platform 107 = .ok (.ireturn, 1) := by decide +kernel
theorem dX8_platform_108 : decode cX8_platform 108 = .ok (.iconst (-1), 1) := by decide +kernel
theorem dX8_platform_109 : decode cX8_platform 109 = .ok (.ireturn, 1) := by decide +kernel
theorem dX8_train_0 : decode cX8_train 0 = .ok (.aload_n 0, 1) := by decide +kernel
theorem dX8_train_1 : decode cX8_train 1 = .ok (.getfield 19, 3) := by decide +kernel
theorem dX8_train_4 : decode cX8_train 4 = .ok (.iload_n 1, 1) := by decide +kernel
theorem dX8_train_5 : decode cX8_train 5 = .ok (.invokevirtual 121, 3) := by decide +kernel
theorem dX8_train_8 : decode cX8_train 8 = .ok (.ifCond .eq 15, 3) := by decide +kernel
theorem dX8_train_11 : decode cX8_train 11 = .ok (.aload_n 0, 1) := by decide +kernel
theorem dX8_train_12 : decode cX8_train 12 = .ok (.getfield 19, 3) := by decide +kernel
theorem dX8_train_15 : decode cX8_train 15 = .ok (.getfield 124, 3) := by decide +kernel
theorem dX8_train_18 : decode cX8_train 18 = .ok (.iload_n 1, 1) := by decide +kernel
theorem dX8_train_19 : decode cX8_train 19 = .ok (.iaload, 1) := by decide +kernel
theorem dX8_train_20 : decode cX8_train 20 = .ok (.goto 4, 3) := by decide +kernel
theorem dX8_train_23 : decode cX8_train 23 = .ok (.iconst (-1), 1) := by decide +kernel
theorem dX8_train_24 : decode cX8_train 24 = .ok (.ireturn, 1) := by decide +kernel
theorem dX8_cell_0 : decode cX8_cell 0 = .ok (.aload_n 0, 1) := by decide +kernel
theorem dX8_cell_1 : decode cX8_cell 1 = .ok (.getfield 19, 3) := by decide +kernel
theorem dX8_cell_4 : decode cX8_cell 4 = .ok (.iload_n 1, 1) := by decide +kernel
theorem dX8_cell_5 : decode cX8_cell 5 = .ok (.invokevirtual 127, 3) := by decide +kernel
theorem dX8_cell_8 : decode cX8_cell 8 = .ok (.ifCond .eq 10, 3) := by decide +kernel
theorem dX8_cell_11 : decode cX8_cell 11 = .ok (.iload_n 2, 1) := by decide +kernel
theorem dX8_cell_12 : decode cX8_cell 12 = .ok (.invokestatic 130, 3) := by decide +kernel
theorem dX8_cell_15 : decode cX8_cell 15 = .ok (.ifCond .ne 5, 3) := by decide +kernel
theorem dX8_cell_18 : decode cX8_cell 18 = .ok (.iconst (-1), 1) := by decide +kernel
theorem dX8_cell_19 : decode cX8_cell 19 = .ok (.ireturn, 1) := by decide +kernel
theorem dX8_cell_20 : decode cX8_cell 20 = .ok (.iload_n 2, 1) := by decide +kernel
theorem dX8_cell_21 : decode cX8_cell 21 = .ok (.ifCond .ne 16, 3) := by decide +kernel
theorem dX8_cell_24 : decode cX8_cell 24 = .ok (.aload_n 0, 1) := by decide +kernel
theorem dX8_cell_25 : decode cX8_cell 25 = .ok (.getfield 19, 3) := by decide +kernel
theorem dX8_cell_28 : decode cX8_cell 28 = .ok (.getfield 109, 3) := by decide +kernel
theorem dX8_cell_31 : decode cX8_cell 31 = .ok (.getfield 133, 3) := by decide +kernel
theorem dX8_cell_34 : decode cX8_cell 34 = .ok (.goto 10, 3) := by decide +kernel
theorem dX8_cell_37 : decode cX8_cell 37 = .ok (.aload_n 0, 1) := by decide +kernel
theorem dX8_cell_38 : decode cX8_cell 38 = .ok (.getfield 19, 3) := by decide +kernel
theorem dX8_cell_41 : decode cX8_cell 41 = .ok (.getfield 136, 3) := by decide +kernel
theorem dX8_cell_44 : decode cX8_cell 44 = .ok (.iload_n 1, 1) := by decide +kernel
theorem dX8_cell_45 : decode cX8_cell 45 = .ok (.invokestatic 105, 3) := by decide +kernel
theorem dX8_cell_48 : decode cX8_cell 48 = .ok (.ireturn, 1) := by decide +kernel
theorem dX8_start_0 : decode cX8_start 0 = .ok (.aload_n 0, 1) := by decide +kernel
theorem dX8_start_1 : decode cX8_start 1 = .ok (.getfield 19, 3) := by decide +kernel
theorem dX8_start_4 : decode cX8_start 4 = .ok (.iload_n 1, 1) := by decide +kernel
theorem dX8_start_5 : decode cX8_start 5 = .ok (.invokevirtual 91, 3) := by decide +kernel
theorem dX8_start_8 : decode cX8_start 8 = .ok (.ifCond .eq 13, 3) := by decide +kernel
theorem dX8_start_11 : decode cX8_start 11 = .ok (.iload_n 2, 1) := by decide +kernel
theorem dX8_start_12 : decode cX8_start 12 = .ok (.ifCond .lt 9, 3) := by decide +kernel
theorem dX8_start_15 : decode cX8_start 15 = .ok (.iload_n 2, 1) := by decide +kernel
theorem dX8_start_16 : decode cX8_start 16 = .ok (.bipush 30, 2) := by decide +kernel
theorem dX8_start_18 : decode cX8_start 18 = .ok (.if_icmp .le 5, 3) := by decide +kernel
theorem dX8_start_21 : decode cX8_start 21 = .ok (.iconst (-1), 1) := by decide +kernel
theorem dX8_start_22 : decode cX8_start 22 = .ok (.ireturn, 1) := by decide +kernel
theorem dX8_start_23 : decode cX8_start 23 = .ok (.aload_n 0, 1) := by decide +kernel
theorem dX8_start_24 : decode cX8_start 24 = .ok (.getfield 19, 3) := by decide +kernel
theorem dX8_start_27 : decode cX8_start 27 = .ok (.getfield 109, 3) := by decide +kernel
theorem dX8_start_30 : decode cX8_start 30 = .ok (.getfield 113, 3) := by decide +kernel
theorem dX8_start_33 : decode cX8_start 33 = .ok (.iload_n 1, 1) := by decide +kernel
theorem dX8_start_34 : decode cX8_start 34 = .ok (.iaload, 1) := by decide +kernel
theorem dX8_start_35 : decode cX8_start 35 = .ok (.istore_n 3, 1) := by decide +kernel
theorem dX8_start_36 : decode cX8_start 36 = .ok (.aload_n 0, 1) := by decide +kernel
theorem dX8_start_37 : decode cX8_start 37 = .ok (.getfield 19, 3) := by decide +kernel
theorem dX8_start_40 : decode cX8_start 40 = .ok (.getfield 109, 3) := by decide +kernel
theorem dX8_start_43 : decode cX8_start 43 = .ok (.getfield 113, 3) := by decide +kernel
theorem dX8_start_46 : decode cX8_start 46 = .ok (.iload_n 1, 1) := by decide +kernel
theorem dX8_start_47 : decode cX8_start 47 = .ok (.iload_n 2, 1) := by decide +kernel
theorem dX8_start_48 : decode cX8_start 48 = .ok (.iastore, 1) := by decide +kernel
theorem dX8_start_49 : decode cX8_start 49 = .ok (.aload_n 0, 1) := by decide +kernel
theorem dX8_start_50 : decode cX8_start 50 = .ok (.getfield 29, 3) := by decide +kernel
theorem dX8_start_53 : decode cX8_start 53 = .ok (.iconst 0, 1) := by decide +kernel
theorem dX8_start_54 : decode cX8_start 54 = .ok (.iload_n 1, 1) := by decide +kernel
theorem dX8_start_55 : decode cX8_start 55 = .ok (.iload_n 3, 1) := by decide +kernel
theorem dX8_start_56 : decode cX8_start 56 = .ok (.invokevirtual 139, 3) := by decide +kernel
theorem dX8_start_59 : decode cX8_start 59 = .ok (.iload_n 3, 1) := by decide +kernel
theorem dX8_start_60 : decode cX8_start 60 = .ok (.ireturn, 1) := by decide +kernel
theorem dX8_hold_0 : decode cX8_hold 0 = .ok (.aload_n 0, 1) := by decide +kernel
theorem dX8_hold_1 : decode cX8_hold 1 = .ok (.getfield 19, 3) := by decide +kernel
theorem dX8_hold_4 : decode cX8_hold 4 = .ok (.iload_n 1, 1) := by decide +kernel
theorem dX8_hold_5 : decode cX8_hold 5 = .ok (.invokevirtual 91, 3) := by decide +kernel
theorem dX8_hold_8 : decode cX8_hold 8 = .ok (.ifCond .ne 5, 3) := by decide +kernel
theorem dX8_hold_11 : decode cX8_hold 11 = .ok (.iconst (-1), 1) := by decide +kernel
theorem dX8_hold_12 : decode cX8_hold 12 = .ok (.ireturn, 1) := by decide +kernel
theorem dX8_hold_13 : decode cX8_hold 13 = .ok (.aload_n 0, 1) := by decide +kernel
theorem dX8_hold_14 : decode cX8_hold 14 = .ok (.getfield 19, 3) := by decide +kernel
theorem dX8_hold_17 : decode cX8_hold 17 = .ok (.getfield 109, 3) := by decide +kernel
theorem dX8_hold_20 : decode cX8_hold 20 = .ok (.dup, 1) := by decide +kernel
theorem dX8_hold_21 : decode cX8_hold 21 = .ok (.getfield 118, 3) := by decide +kernel
theorem dX8_hold_24 : decode cX8_hold 24 = .ok (.iconst 1, 1) := by decide +kernel
theorem dX8_hold_25 : decode cX8_hold 25 = .ok (.iload_n 1, 1) := by decide +kernel
theorem dX8_hold_26 : decode cX8_hold 26 = .ok (.ishl, 1) := by decide +kernel
theorem dX8_hold_27 : decode cX8_hold 27 = .ok (.ixor, 1) := by decide +kernel
theorem dX8_hold_28 : decode cX8_hold 28 = .ok (.putfield 118, 3) := by decide +kernel
theorem dX8_hold_31 : decode cX8_hold 31 = .ok (.aload_n 0, 1) := by decide +kernel
theorem dX8_hold_32 : decode cX8_hold 32 = .ok (.getfield 29, 3) := by decide +kernel
theorem dX8_hold_35 : decode cX8_hold 35 = .ok (.iconst 1, 1) := by decide +kernel
theorem dX8_hold_36 : decode cX8_hold 36 = .ok (.iload_n 1, 1) := by decide +kernel
theorem dX8_hold_37 : decode cX8_hold 37 = .ok (.iconst 0, 1) := by decide +kernel
theorem dX8_hold_38 : decode cX8_hold 38 = .ok (.invokevirtual 139, 3) := by decide +kernel
theorem dX8_hold_41 : decode cX8_hold 41 = .ok (.aload_n 0, 1) := by decide +kernel
theorem dX8_hold_42 : decode cX8_hold 42 = .ok (.getfield 19, 3) := by decide +kernel
theorem dX8_hold_45 : decode cX8_hold 45 = .ok (.getfield 109, 3) := by decide +kernel
theorem dX8_hold_48 : decode cX8_hold 48 = .ok (.getfield 118, 3) := by decide +kernel
theorem dX8_hold_51 : decode cX8_hold 51 = .ok (.iload_n 1, 1) := by decide +kernel
theorem dX8_hold_52 : decode cX8_hold 52 = .ok (.invokestatic 105, 3) := by decide +kernel
theorem dX8_hold_55 : decode cX8_hold 55 = .ok (.ireturn, 1) := by decide +kernel
theorem dX8_pass_0 : decode cX8_pass 0 = .ok (.aload_n 0, 1) := by decide +kernel
theorem dX8_pass_1 : decode cX8_pass 1 = .ok (.getfield 19, 3) := by decide +kernel
theorem dX8_pass_4 : decode cX8_pass 4 = .ok (.iload_n 1, 1) := by decide +kernel
theorem dX8_pass_5 : decode cX8_pass 5 = .ok (.invokevirtual 127, 3) := by decide +kernel
theorem dX8_pass_8 : decode cX8_pass 8 = .ok (.ifCond .ne 5, 3) := by decide +kernel
theorem dX8_pass_11 : decode cX8_pass 11 = .ok (.iconst (-1), 1) := by decide +kernel
theorem dX8_pass_12 : decode cX8_pass 12 = .ok (.ireturn, 1) := by decide +kernel
theorem dX8_pass_13 : decode cX8_pass 13 = .ok (.aload_n 0, 1) := by decide +kernel
theorem dX8_pass_14 : decode cX8_pass 14 = .ok (.getfield 19, 3) := by decide +kernel
theorem dX8_pass_17 : decode cX8_pass 17 = .ok (.iload_n 1, 1) := by decide +kernel
theorem dX8_pass_18 : decode cX8_pass 18 = .ok (.invokevirtual 142, 3) := by decide +kernel
theorem dX8_pass_21 : decode cX8_pass 21 = .ok (.iconst 1, 1) := by decide +kernel
theorem dX8_pass_22 : decode cX8_pass 22 = .ok (.if_icmp .le 6, 3) := by decide +kernel
theorem dX8_pass_25 : decode cX8_pass 25 = .ok (.bipush (-2), 2) := by decide +kernel
theorem dX8_pass_27 : decode cX8_pass 27 = .ok (.ireturn, 1) := by decide +kernel
theorem dX8_pass_28 : decode cX8_pass 28 = .ok (.aload_n 0, 1) := by decide +kernel
theorem dX8_pass_29 : decode cX8_pass 29 = .ok (.getfield 19, 3) := by decide +kernel
theorem dX8_pass_32 : decode cX8_pass 32 = .ok (.getfield 109, 3) := by decide +kernel
theorem dX8_pass_35 : decode cX8_pass 35 = .ok (.dup, 1) := by decide +kernel
theorem dX8_pass_36 : decode cX8_pass 36 = .ok (.getfield 133, 3) := by decide +kernel
theorem dX8_pass_39 : decode cX8_pass 39 = .ok (.iconst 1, 1) := by decide +kernel
theorem dX8_pass_40 : decode cX8_pass 40 = .ok (.iload_n 1, 1) := by decide +kernel
theorem dX8_pass_41 : decode cX8_pass 41 = .ok (.ishl, 1) := by decide +kernel
theorem dX8_pass_42 : decode cX8_pass 42 = .ok (.ixor, 1) := by decide +kernel
theorem dX8_pass_43 : decode cX8_pass 43 = .ok (.putfield 133, 3) := by decide +kernel
theorem dX8_pass_46 : decode cX8_pass 46 = .ok (.aload_n 0, 1) := by decide +kernel
theorem dX8_pass_47 : decode cX8_pass 47 = .ok (.getfield 29, 3) := by decide +kernel
theorem dX8_pass_50 : decode cX8_pass 50 = .ok (.iconst 2, 1) := by decide +kernel
theorem dX8_pass_51 : decode cX8_pass 51 = .ok (.iload_n 1, 1) := by decide +kernel
theorem dX8_pass_52 : decode cX8_pass 52 = .ok (.iconst 0, 1) := by decide +kernel
theorem dX8_pass_53 : decode cX8_pass 53 = .ok (.invokevirtual 139, 3) := by decide +kernel
theorem dX8_pass_56 : decode cX8_pass 56 = .ok (.aload_n 0, 1) := by decide +kernel
theorem dX8_pass_57 : decode cX8_pass 57 = .ok (.getfield 19, 3) := by decide +kernel
theorem dX8_pass_60 : decode cX8_pass 60 = .ok (.getfield 109, 3) := by decide +kernel
theorem dX8_pass_63 : decode cX8_pass 63 = .ok (.getfield 133, 3) := by decide +kernel
theorem dX8_pass_66 : decode cX8_pass 66 = .ok (.iload_n 1, 1) := by decide +kernel
theorem dX8_pass_67 : decode cX8_pass 67 = .ok (.invokestatic 105, 3) := by decide +kernel
theorem dX8_pass_70 : decode cX8_pass 70 = .ok (.ireturn, 1) := by decide +kernel
theorem dX8_undo_0 : decode cX8_undo 0 = .ok (.aload_n 0, 1) := by decide +kernel
theorem dX8_undo_1 : decode cX8_undo 1 = .ok (.getfield 29, 3) := by decide +kernel
theorem dX8_undo_4 : decode cX8_undo 4 = .ok (.aload_n 0, 1) := by decide +kernel
theorem dX8_undo_5 : decode cX8_undo 5 = .ok (.getfield 19, 3) := by decide +kernel
theorem dX8_undo_8 : decode cX8_undo 8 = .ok (.getfield 109, 3) := by decide +kernel
theorem dX8_undo_11 : decode cX8_undo 11 = .ok (.invokevirtual 146, 3) := by decide +kernel
theorem dX8_undo_14 : decode cX8_undo 14 = .ok (.ifCond .eq 13, 3) := by decide +kernel
theorem dX8_undo_17 : decode cX8_undo 17 = .ok (.aload_n 0, 1) := by decide +kernel
theorem dX8_undo_18 : decode cX8_undo 18 = .ok (.getfield 29, 3) := by decide +kernel
theorem dX8_undo_21 : decode cX8_undo 21 = .ok (.getfield 86, 3) := by decide +kernel
theorem dX8_undo_24 : decode cX8_undo 24 = .ok (.goto 5, 3) := by decide +kernel
theorem dX8_undo_27 : decode cX8_undo 27 = .ok (.bipush (-2), 2) := by decide +kernel
theorem dX8_undo_29 : decode cX8_undo 29 = .ok (.ireturn, 1) := by decide +kernel
theorem dX8_where_0 : decode cX8_where 0 = .ok (.aload_n 0, 1) := by decide +kernel
theorem dX8_where_1 : decode cX8_where 1 = .ok (.getfield 19, 3) := by decide +kernel
theorem dX8_where_4 : decode cX8_where 4 = .ok (.iload_n 1, 1) := by decide +kernel
theorem dX8_where_5 : decode cX8_where 5 = .ok (.invokevirtual 91, 3) := by decide +kernel
theorem dX8_where_8 : decode cX8_where 8 = .ok (.ifCond .eq 22, 3) := by decide +kernel
theorem dX8_where_11 : decode cX8_where 11 = .ok (.iload_n 2, 1) := by decide +kernel
theorem dX8_where_12 : decode cX8_where 12 = .ok (.ifCond .lt 18, 3) := by decide +kernel
theorem dX8_where_15 : decode cX8_where 15 = .ok (.iload_n 2, 1) := by decide +kernel
theorem dX8_where_16 : decode cX8_where 16 = .ok (.bipush 60, 2) := by decide +kernel
theorem dX8_where_18 : decode cX8_where 18 = .ok (.if_icmp .gt 12, 3) := by decide +kernel
theorem dX8_where_21 : decode cX8_where 21 = .ok (.iload_n 3, 1) := by decide +kernel
theorem dX8_where_22 : decode cX8_where 22 = .ok (.ifCond .lt 8, 3) := by decide +kernel
theorem dX8_where_25 : decode cX8_where 25 = .ok (.iload_n 3, 1) := by decide +kernel
theorem dX8_where_26 : decode cX8_where 26 = .ok (.iconst 2, 1) := by decide +kernel
theorem dX8_where_27 : decode cX8_where 27 = .ok (.if_icmp .le 5, 3) := by decide +kernel
theorem dX8_where_30 : decode cX8_where 30 = .ok (.iconst (-1), 1) := by decide +kernel
theorem dX8_where_31 : decode cX8_where 31 = .ok (.ireturn, 1) := by decide +kernel
theorem dX8_where_32 : decode cX8_where 32 = .ok (.aload_n 0, 1) := by decide +kernel
theorem dX8_where_33 : decode cX8_where 33 = .ok (.getfield 52, 3) := by decide +kernel
theorem dX8_where_36 : decode cX8_where 36 = .ok (.invokevirtual 150, 3) := by decide +kernel
theorem dX8_where_39 : decode cX8_where 39 = .ok (.aload_n 0, 1) := by decide +kernel
theorem dX8_where_40 : decode cX8_where 40 = .ok (.getfield 52, 3) := by decide +kernel
theorem dX8_where_43 : decode cX8_where 43 = .ok (.iload_n 2, 1) := by decide +kernel
theorem dX8_where_44 : decode cX8_where 44 = .ok (.invokevirtual 153, 3) := by decide +kernel
theorem dX8_where_47 : decode cX8_where 47 = .ok (.iload_n 3, 1) := by decide +kernel
theorem dX8_where_48 : decode cX8_where 48 = .ok (.ifCond .ne 13, 3) := by decide +kernel
theorem dX8_where_51 : decode cX8_where 51 = .ok (.aload_n 0, 1) := by decide +kernel
theorem dX8_where_52 : decode cX8_where 52 = .ok (.getfield 52, 3) := by decide +kernel
theorem dX8_where_55 : decode cX8_where 55 = .ok (.getfield 157, 3) := by decide +kernel
theorem dX8_where_58 : decode cX8_where 58 = .ok (.iload_n 1, 1) := by decide +kernel
theorem dX8_where_59 : decode cX8_where 59 = .ok (.iaload, 1) := by decide +kernel
theorem dX8_where_60 : decode cX8_where 60 = .ok (.ireturn, 1) := by decide +kernel
theorem dX8_where_61 : decode cX8_where 61 = .ok (.iload_n 3, 1) := by decide +kernel
theorem dX8_where_62 : decode cX8_where 62 = .ok (.iconst 1, 1) := by decide +kernel
theorem dX8_where_63 : decode cX8_where 63 = .ok (.if_icmp .ne 15, 3) := by decide +kernel
theorem dX8_where_66 : decode cX8_where 66 = .ok (.aload_n 0, 1) := by decide +kernel
theorem dX8_where_67 : decode cX8_where 67 = .ok (.getfield 52, 3) := by decide +kernel
theorem dX8_where_70 : decode cX8_where 70 = .ok (.getfield 160, 3) := by decide +kernel
theorem dX8_where_73 : decode cX8_where 73 = .ok (.iload_n 1, 1) := by decide +kernel
theorem dX8_where_74 : decode cX8_where 74 = .ok (.iaload, 1) := by decide +kernel
theorem dX8_where_75 : decode cX8_where 75 = .ok (.goto 12, 3) := by decide +kernel
theorem dX8_where_78 : decode cX8_where 78 = .ok (.aload_n 0, 1) := by decide +kernel
theorem dX8_where_79 : decode cX8_where 79 = .ok (.getfield 52, 3) := by decide +kernel
theorem dX8_where_82 : decode cX8_where 82 = .ok (.getfield 163, 3) := by decide +kernel
theorem dX8_where_85 : decode cX8_where 85 = .ok (.iload_n 1, 1) := by decide +kernel
theorem dX8_where_86 : decode cX8_where 86 = .ok (.iaload, 1) := by decide +kernel
theorem dX8_where_87 : decode cX8_where 87 = .ok (.ireturn, 1) := by decide +kernel
theorem dX8_first_0 : decode cX8_first 0 = .ok (.aload_n 0, 1) := by decide +kernel
theorem dX8_first_1 : decode cX8_first 1 = .ok (.getfield 19, 3) := by decide +kernel
theorem dX8_first_4 : decode cX8_first 4 = .ok (.iload_n 1, 1) := by decide +kernel
theorem dX8_first_5 : decode cX8_first 5 = .ok (.invokevirtual 91, 3) := by decide +kernel
theorem dX8_first_8 : decode cX8_first 8 = .ok (.ifCond .eq 14, 3) := by decide +kernel
theorem dX8_first_11 : decode cX8_first 11 = .ok (.aload_n 0, 1) := by decide +kernel
theorem dX8_first_12 : decode cX8_first 12 = .ok (.getfield 19, 3) := by decide +kernel
theorem dX8_first_15 : decode cX8_first 15 = .ok (.iload_n 2, 1) := by decide +kernel
theorem dX8_first_16 : decode cX8_first 16 = .ok (.invokevirtual 121, 3) := by decide +kernel
theorem dX8_first_19 : decode cX8_first 19 = .ok (.ifCond .ne 5, 3) := by decide +kernel
theorem dX8_first_22 : decode cX8_first 22 = .ok (.iconst (-1), 1) := by decide +kernel
theorem dX8_first_23 : decode cX8_first 23 = .ok (.ireturn, 1) := by decide +kernel
theorem dX8_first_24 : decode cX8_first 24 = .ok (.aload_n 0, 1) := by decide +kernel
theorem dX8_first_25 : decode cX8_first 25 = .ok (.getfield 52, 3) := by decide +kernel
theorem dX8_first_28 : decode cX8_first 28 = .ok (.invokevirtual 150, 3) := by decide +kernel
theorem dX8_first_31 : decode cX8_first 31 = .ok (.aload_n 0, 1) := by decide +kernel
theorem dX8_first_32 : decode cX8_first 32 = .ok (.getfield 52, 3) := by decide +kernel
theorem dX8_first_35 : decode cX8_first 35 = .ok (.iload_n 1, 1) := by decide +kernel
theorem dX8_first_36 : decode cX8_first 36 = .ok (.iload_n 2, 1) := by decide +kernel
theorem dX8_first_37 : decode cX8_first 37 = .ok (.invokevirtual 166, 3) := by decide +kernel
theorem dX8_first_40 : decode cX8_first 40 = .ok (.ireturn, 1) := by decide +kernel
theorem dX8_hang_0 : decode cX8_hang 0 = .ok (.aload_n 0, 1) := by decide +kernel
theorem dX8_hang_1 : decode cX8_hang 1 = .ok (.getfield 52, 3) := by decide +kernel
theorem dX8_hang_4 : decode cX8_hang 4 = .ok (.invokevirtual 150, 3) := by decide +kernel
theorem dX8_hang_7 : decode cX8_hang 7 = .ok (.aload_n 0, 1) := by decide +kernel
theorem dX8_hang_8 : decode cX8_hang 8 = .ok (.getfield 52, 3) := by decide +kernel
theorem dX8_hang_11 : decode cX8_hang 11 = .ok (.bipush 60, 2) := by decide +kernel
theorem dX8_hang_13 : decode cX8_hang 13 = .ok (.invokevirtual 153, 3) := by decide +kernel
theorem dX8_hang_16 : decode cX8_hang 16 = .ok (.iconst 0, 1) := by decide +kernel
theorem dX8_hang_17 : decode cX8_hang 17 = .ok (.istore_n 1, 1) := by decide +kernel
theorem dX8_hang_18 : decode cX8_hang 18 = .ok (.iconst 0, 1) := by decide +kernel
theorem dX8_hang_19 : decode cX8_hang 19 = .ok (.istore_n 2, 1) := by decide +kernel
theorem dX8_hang_20 : decode cX8_hang 20 = .ok (.iload_n 2, 1) := by decide +kernel
theorem dX8_hang_21 : decode cX8_hang 21 = .ok (.aload_n 0, 1) := by decide +kernel
theorem dX8_hang_22 : decode cX8_hang 22 = .ok (.getfield 19, 3) := by decide +kernel
theorem dX8_hang_25 : decode cX8_hang 25 = .ok (.getfield 83, 3) := by decide +kernel
theorem dX8_hang_28 : decode cX8_hang 28 = .ok (.if_icmp .ge 26, 3) := by decide +kernel
theorem dX8_hang_31 : decode cX8_hang 31 = .ok (.aload_n 0, 1) := by decide +kernel
theorem dX8_hang_32 : decode cX8_hang 32 = .ok (.getfield 52, 3) := by decide +kernel
theorem dX8_hang_35 : decode cX8_hang 35 = .ok (.iload_n 2, 1) := by decide +kernel
theorem dX8_hang_36 : decode cX8_hang 36 = .ok (.invokevirtual 169, 3) := by decide +kernel
theorem dX8_hang_39 : decode cX8_hang 39 = .ok (.ifCond .eq 9, 3) := by decide +kernel
theorem dX8_hang_42 : decode cX8_hang 42 = .ok (.iload_n 1, 1) := by decide +kernel
theorem dX8_hang_43 : decode cX8_hang 43 = .ok (.iconst 1, 1) := by decide +kernel
theorem dX8_hang_44 : decode cX8_hang 44 = .ok (.iload_n 2, 1) := by decide +kernel
theorem dX8_hang_45 : decode cX8_hang 45 = .ok (.ishl, 1) := by decide +kernel
theorem dX8_hang_46 : decode cX8_hang 46 = .ok (.ior, 1) := by decide +kernel
theorem dX8_hang_47 : decode cX8_hang 47 = .ok (.istore_n 1, 1) := by decide +kernel
theorem dX8_hang_48 : decode cX8_hang 48 = .ok (.iinc 2 1, 3) := by decide +kernel
theorem dX8_hang_51 : decode cX8_hang 51 = .ok (.goto (-31), 3) := by decide +kernel
theorem dX8_hang_54 : decode cX8_hang 54 = .ok (.iload_n 1, 1) := by decide +kernel
theorem dX8_hang_55 : decode cX8_hang 55 = .ok (.ireturn, 1) := by decide +kernel
theorem dX8_trip_0 : decode cX8_trip 0 = .ok (.aload_n 0, 1) := by decide +kernel
theorem dX8_trip_1 : decode cX8_trip 1 = .ok (.getfield 19, 3) := by decide +kernel
theorem dX8_trip_4 : decode cX8_trip 4 = .ok (.iload_n 1, 1) := by decide +kernel
theorem dX8_trip_5 : decode cX8_trip 5 = .ok (.invokevirtual 121, 3) := by decide +kernel
theorem dX8_trip_8 : decode cX8_trip 8 = .ok (.ifCond .eq 26, 3) := by decide +kernel
theorem dX8_trip_11 : decode cX8_trip 11 = .ok (.aload_n 0, 1) := by decide +kernel
theorem dX8_trip_12 : decode cX8_trip 12 = .ok (.getfield 19, 3) := by decide +kernel
theorem dX8_trip_15 : decode cX8_trip 15 = .ok (.iload_n 2, 1) := by decide +kernel
theorem dX8_trip_16 : decode cX8_trip 16 = .ok (.invokevirtual 121, 3) := by decide +kernel
theorem dX8_trip_19 : decode cX8_trip 19 = .ok (.ifCond .eq 15, 3) := by decide +kernel
theorem dX8_trip_22 : decode cX8_trip 22 = .ok (.iload_n 1, 1) := by decide +kernel
theorem dX8_trip_23 : decode cX8_trip 23 = .ok (.iload_n 2, 1) := by decide +kernel
theorem dX8_trip_24 : decode cX8_trip 24 = .ok (.if_icmp .eq 10, 3) := by decide +kernel
theorem dX8_trip_27 : decode cX8_trip 27 = .ok (.iload_n 3, 1) := by decide +kernel
theorem dX8_trip_28 : decode cX8_trip 28 = .ok (.invokestatic 130, 3) := by decide +kernel
theorem dX8_trip_31 : decode cX8_trip 31 = .ok (.ifCond .ne 5, 3) := by decide +kernel
theorem dX8_trip_34 : decode cX8_trip 34 = .ok (.iconst (-1), 1) := by decide +kernel
theorem dX8_trip_35 : decode cX8_trip 35 = .ok (.ireturn, 1) := by decide +kernel
theorem dX8_trip_36 : decode cX8_trip 36 = .ok (.aload_n 0, 1) := by decide +kernel
theorem dX8_trip_37 : decode cX8_trip 37 = .ok (.getfield 61, 3) := by decide +kernel
theorem dX8_trip_40 : decode cX8_trip 40 = .ok (.iload_n 1, 1) := by decide +kernel
theorem dX8_trip_41 : decode cX8_trip 41 = .ok (.iload_n 2, 1) := by decide +kernel
theorem dX8_trip_42 : decode cX8_trip 42 = .ok (.invokevirtual 172, 3) := by decide +kernel
theorem dX8_trip_45 : decode cX8_trip 45 = .ok (.istore 4, 2) := by decide +kernel
theorem dX8_trip_47 : decode cX8_trip 47 = .ok (.iload 4, 2) := by decide +kernel
theorem dX8_trip_49 : decode cX8_trip 49 = .ok (.bipush (-4), 2) := by decide +kernel
theorem dX8_trip_51 : decode cX8_trip 51 = .ok (.if_icmp .ne 6, 3) := by decide +kernel
theorem dX8_trip_54 : decode cX8_trip 54 = .ok (.bipush (-4), 2) := by decide +kernel
theorem dX8_trip_56 : decode cX8_trip 56 = .ok (.ireturn, 1) := by decide +kernel
theorem dX8_trip_57 : decode cX8_trip 57 = .ok (.iload_n 3, 1) := by decide +kernel
theorem dX8_trip_58 : decode cX8_trip 58 = .ok (.ifCond .ne 8, 3) := by decide +kernel
theorem dX8_trip_61 : decode cX8_trip 61 = .ok (.iload 4, 2) := by decide +kernel
theorem dX8_trip_63 : decode cX8_trip 63 = .ok (.goto 12, 3) := by decide +kernel
theorem dX8_trip_66 : decode cX8_trip 66 = .ok (.aload_n 0, 1) := by decide +kernel
theorem dX8_trip_67 : decode cX8_trip 67 = .ok (.getfield 61, 3) := by decide +kernel
theorem dX8_trip_70 : decode cX8_trip 70 = .ok (.getfield 175, 3) := by decide +kernel
theorem dX8_trip_73 : decode cX8_trip 73 = .ok (.iload_n 2, 1) := by decide +kernel
theorem dX8_trip_74 : decode cX8_trip 74 = .ok (.iaload, 1) := by decide +kernel
theorem dX8_trip_75 : decode cX8_trip 75 = .ok (.ireturn, 1) := by decide +kernel
theorem dX8_best_0 : decode cX8_best 0 = .ok (.aload_n 0, 1) := by decide +kernel
theorem dX8_best_1 : decode cX8_best 1 = .ok (.getfield 19, 3) := by decide +kernel
theorem dX8_best_4 : decode cX8_best 4 = .ok (.iload_n 1, 1) := by decide +kernel
theorem dX8_best_5 : decode cX8_best 5 = .ok (.invokevirtual 91, 3) := by decide +kernel
theorem dX8_best_8 : decode cX8_best 8 = .ok (.ifCond .eq 21, 3) := by decide +kernel
theorem dX8_best_11 : decode cX8_best 11 = .ok (.aload_n 0, 1) := by decide +kernel
theorem dX8_best_12 : decode cX8_best 12 = .ok (.getfield 19, 3) := by decide +kernel
theorem dX8_best_15 : decode cX8_best 15 = .ok (.iload_n 2, 1) := by decide +kernel
theorem dX8_best_16 : decode cX8_best 16 = .ok (.invokevirtual 121, 3) := by decide +kernel
theorem dX8_best_19 : decode cX8_best 19 = .ok (.ifCond .eq 10, 3) := by decide +kernel
theorem dX8_best_22 : decode cX8_best 22 = .ok (.iload_n 3, 1) := by decide +kernel
theorem dX8_best_23 : decode cX8_best 23 = .ok (.invokestatic 130, 3) := by decide +kernel
theorem dX8_best_26 : decode cX8_best 26 = .ok (.ifCond .ne 5, 3) := by decide +kernel
theorem dX8_best_29 : decode cX8_best 29 = .ok (.iconst (-1), 1) := by decide +kernel
theorem dX8_best_30 : decode cX8_best 30 = .ok (.ireturn, 1) := by decide +kernel
theorem dX8_best_31 : decode cX8_best 31 = .ok (.bipush (-4), 2) := by decide +kernel
theorem dX8_best_33 : decode cX8_best 33 = .ok (.istore 4, 2) := by decide +kernel
theorem dX8_best_35 : decode cX8_best 35 = .ok (.bipush (-4), 2) := by decide +kernel
theorem dX8_best_37 : decode cX8_best 37 = .ok (.istore 5, 2) := by decide +kernel
theorem dX8_best_39 : decode cX8_best 39 = .ok (.bipush 30, 2) := by decide +kernel
theorem dX8_best_41 : decode cX8_best 41 = .ok (.istore 6, 2) := by decide +kernel
theorem dX8_best_43 : decode cX8_best 43 = .ok (.iload 6, 2) := by decide +kernel
theorem dX8_best_45 : decode cX8_best 45 = .ok (.ifCond .lt 70, 3) := by decide +kernel
theorem dX8_best_48 : decode cX8_best 48 = .ok (.aload_n 0, 1) := by decide +kernel
theorem dX8_best_49 : decode cX8_best 49 = .ok (.getfield 52, 3) := by decide +kernel
theorem dX8_best_52 : decode cX8_best 52 = .ok (.invokevirtual 150, 3) := by decide +kernel
theorem dX8_best_55 : decode cX8_best 55 = .ok (.aload_n 0, 1) := by decide +kernel
theorem dX8_best_56 : decode cX8_best 56 = .ok (.getfield 52, 3) := by decide +kernel
theorem dX8_best_59 : decode cX8_best 59 = .ok (.getfield 178, 3) := by decide +kernel
theorem dX8_best_62 : decode cX8_best 62 = .ok (.getfield 113, 3) := by decide +kernel
theorem dX8_best_65 : decode cX8_best 65 = .ok (.iload_n 1, 1) := by decide +kernel
theorem dX8_best_66 : decode cX8_best 66 = .ok (.iload 6, 2) := by decide +kernel
theorem dX8_best_68 : decode cX8_best 68 = .ok (.iastore, 1) := by decide +kernel
theorem dX8_best_69 : decode cX8_best 69 = .ok (.aload_n 0, 1) := by decide +kernel
theorem dX8_best_70 : decode cX8_best 70 = .ok (.getfield 52, 3) := by decide +kernel
theorem dX8_best_73 : decode cX8_best 73 = .ok (.iload_n 1, 1) := by decide +kernel
theorem dX8_best_74 : decode cX8_best 74 = .ok (.iload_n 2, 1) := by decide +kernel
theorem dX8_best_75 : decode cX8_best 75 = .ok (.invokevirtual 166, 3) := by decide +kernel
theorem dX8_best_78 : decode cX8_best 78 = .ok (.istore 7, 2) := by decide +kernel
theorem dX8_best_80 : decode cX8_best 80 = .ok (.iload 7, 2) := by decide +kernel
theorem dX8_best_82 : decode cX8_best 82 = .ok (.bipush (-4), 2) := by decide +kernel
theorem dX8_best_84 : decode cX8_best 84 = .ok (.if_icmp .eq 25, 3) := by decide +kernel
theorem dX8_best_87 : decode cX8_best 87 = .ok (.iload 5, 2) := by decide +kernel
theorem dX8_best_89 : decode cX8_best 89 = .ok (.bipush (-4), 2) := by decide +kernel
theorem dX8_best_91 : decode cX8_best 91 = .ok (.if_icmp .eq 10, 3) := by decide +kernel
theorem dX8_best_94 : decode cX8_best 94 = .ok (.iload 7, 2) := by decide +kernel
theorem dX8_best_96 : decode cX8_best 96 = .ok (.iload 5, 2) := by decide +kernel
theorem dX8_best_98 : decode cX8_best 98 = .ok (.if_icmp .ge 11, 3) := by decide +kernel
theorem dX8_best_101 : decode cX8_best 101 = .ok (.iload 6, 2) := by decide +kernel
theorem dX8_best_103 : decode cX8_best 103 = .ok (.istore 4, 2) := by decide +kernel
theorem dX8_best_105 : decode cX8_best 105 = .ok (.iload 7, 2) := by decide +kernel
theorem dX8_best_107 : decode cX8_best 107 = .ok (.istore 5, 2) := by decide +kernel
theorem dX8_best_109 : decode cX8_best 109 = .ok (.iinc 6 (-1), 3) := by decide +kernel
theorem dX8_best_112 : decode cX8_best 112 = .ok (.goto (-69), 3) := by decide +kernel
theorem dX8_best_115 : decode cX8_best 115 = .ok (.iload_n 3, 1) := by decide +kernel
theorem dX8_best_116 : decode cX8_best 116 = .ok (.ifCond .ne 8, 3) := by decide +kernel
theorem dX8_best_119 : decode cX8_best 119 = .ok (.iload 4, 2) := by decide +kernel
theorem dX8_best_121 : decode cX8_best 121 = .ok (.goto 5, 3) := by decide +kernel
theorem dX8_best_124 : decode cX8_best 124 = .ok (.iload 5, 2) := by decide +kernel
theorem dX8_best_126 : decode cX8_best 126 = .ok (.ireturn, 1) := by decide +kernel
theorem dX8_places_0 : decode cX8_places 0 = .ok (.iload_n 1, 1) := by decide +kernel
theorem dX8_places_1 : decode cX8_places 1 = .ok (.ifCond .lt 8, 3) := by decide +kernel
theorem dX8_places_4 : decode cX8_places 4 = .ok (.iload_n 1, 1) := by decide +kernel
theorem dX8_places_5 : decode cX8_places 5 = .ok (.iconst 2, 1) := by decide +kernel
theorem dX8_places_6 : decode cX8_places 6 = .ok (.if_icmp .le 5, 3) := by decide +kernel
theorem dX8_places_9 : decode cX8_places 9 = .ok (.iconst (-1), 1) := by decide +kernel
theorem dX8_places_10 : decode cX8_places 10 = .ok (.ireturn, 1) := by decide +kernel
theorem dX8_places_11 : decode cX8_places 11 = .ok (.aload_n 0, 1) := by decide +kernel
theorem dX8_places_12 : decode cX8_places 12 = .ok (.invokevirtual 179, 3) := by decide +kernel
theorem dX8_places_15 : decode cX8_places 15 = .ok (.istore_n 2, 1) := by decide +kernel
theorem dX8_places_16 : decode cX8_places 16 = .ok (.iload_n 2, 1) := by decide +kernel
theorem dX8_places_17 : decode cX8_places 17 = .ok (.bipush (-4), 2) := by decide +kernel
theorem dX8_places_19 : decode cX8_places 19 = .ok (.if_icmp .ne 6, 3) := by decide +kernel
theorem dX8_places_22 : decode cX8_places 22 = .ok (.bipush (-4), 2) := by decide +kernel
theorem dX8_places_24 : decode cX8_places 24 = .ok (.ireturn, 1) := by decide +kernel
theorem dX8_places_25 : decode cX8_places 25 = .ok (.iload_n 1, 1) := by decide +kernel
theorem dX8_places_26 : decode cX8_places 26 = .ok (.ifCond .ne 10, 3) := by decide +kernel
theorem dX8_places_29 : decode cX8_places 29 = .ok (.iload_n 2, 1) := by decide +kernel
theorem dX8_places_30 : decode cX8_places 30 = .ok (.invokestatic 183, 3) := by decide +kernel
theorem dX8_places_33 : decode cX8_places 33 = .ok (.goto 8, 3) := by decide +kernel
theorem dX8_places_36 : decode cX8_places 36 = .ok (.iload_n 2, 1) := by decide +kernel
theorem dX8_places_37 : decode cX8_places 37 = .ok (.iload_n 1, 1) := by decide +kernel
theorem dX8_places_38 : decode cX8_places 38 = .ok (.invokestatic 188, 3) := by decide +kernel
theorem dX8_places_41 : decode cX8_places 41 = .ok (.ireturn, 1) := by decide +kernel
theorem dX8_came_0 : decode cX8_came 0 = .ok (.aload_n 0, 1) := by decide +kernel
theorem dX8_came_1 : decode cX8_came 1 = .ok (.getfield 19, 3) := by decide +kernel
theorem dX8_came_4 : decode cX8_came 4 = .ok (.iload_n 1, 1) := by decide +kernel
theorem dX8_came_5 : decode cX8_came 5 = .ok (.invokevirtual 121, 3) := by decide +kernel
theorem dX8_came_8 : decode cX8_came 8 = .ok (.ifCond .eq 14, 3) := by decide +kernel
theorem dX8_came_11 : decode cX8_came 11 = .ok (.iload_n 2, 1) := by decide +kernel
theorem dX8_came_12 : decode cX8_came 12 = .ok (.iconst 1, 1) := by decide +kernel
theorem dX8_came_13 : decode cX8_came 13 = .ok (.if_icmp .lt 9, 3) := by decide +kernel
theorem dX8_came_16 : decode cX8_came 16 = .ok (.iload_n 2, 1) := by decide +kernel
theorem dX8_came_17 : decode cX8_came 17 = .ok (.bipush 60, 2) := by decide +kernel
theorem dX8_came_19 : decode cX8_came 19 = .ok (.if_icmp .le 5, 3) := by decide +kernel
theorem dX8_came_22 : decode cX8_came 22 = .ok (.iconst (-1), 1) := by decide +kernel
theorem dX8_came_23 : decode cX8_came 23 = .ok (.ireturn, 1) := by decide +kernel
theorem dX8_came_24 : decode cX8_came 24 = .ok (.aload_n 0, 1) := by decide +kernel
theorem dX8_came_25 : decode cX8_came 25 = .ok (.getfield 43, 3) := by decide +kernel
theorem dX8_came_28 : decode cX8_came 28 = .ok (.iload_n 1, 1) := by decide +kernel
theorem dX8_came_29 : decode cX8_came 29 = .ok (.iload_n 2, 1) := by decide +kernel
theorem dX8_came_30 : decode cX8_came 30 = .ok (.iload_n 3, 1) := by decide +kernel
theorem dX8_came_31 : decode cX8_came 31 = .ok (.invokevirtual 191, 3) := by decide +kernel
theorem dX8_came_34 : decode cX8_came 34 = .ok (.ifCond .eq 13, 3) := by decide +kernel
theorem dX8_came_37 : decode cX8_came 37 = .ok (.aload_n 0, 1) := by decide +kernel
theorem dX8_came_38 : decode cX8_came 38 = .ok (.getfield 43, 3) := by decide +kernel
theorem dX8_came_41 : decode cX8_came 41 = .ok (.getfield 90, 3) := by decide +kernel
theorem dX8_came_44 : decode cX8_came 44 = .ok (.goto 5, 3) := by decide +kernel
theorem dX8_came_47 : decode cX8_came 47 = .ok (.bipush (-3), 2) := by decide +kernel
theorem dX8_came_49 : decode cX8_came 49 = .ok (.ireturn, 1) := by decide +kernel
theorem dX8_forget_0 : decode cX8_forget 0 = .ok (.aload_n 0, 1) := by decide +kernel
theorem dX8_forget_1 : decode cX8_forget 1 = .ok (.getfield 43, 3) := by decide +kernel
theorem dX8_forget_4 : decode cX8_forget 4 = .ok (.getfield 90, 3) := by decide +kernel
theorem dX8_forget_7 : decode cX8_forget 7 = .ok (.istore_n 1, 1) := by decide +kernel
theorem dX8_forget_8 : decode cX8_forget 8 = .ok (.aload_n 0, 1) := by decide +kernel
theorem dX8_forget_9 : decode cX8_forget 9 = .ok (.getfield 43, 3) := by decide +kernel
theorem dX8_forget_12 : decode cX8_forget 12 = .ok (.iconst 0, 1) := by decide +kernel
theorem dX8_forget_13 : decode cX8_forget 13 = .ok (.putfield 90, 3) := by decide +kernel
theorem dX8_forget_16 : decode cX8_forget 16 = .ok (.iload_n 1, 1) := by decide +kernel
theorem dX8_forget_17 : decode cX8_forget 17 = .ok (.ireturn, 1) := by decide +kernel
theorem dX8_fits_0 : decode cX8_fits 0 = .ok (.aload_n 0, 1) := by decide +kernel
theorem dX8_fits_1 : decode cX8_fits 1 = .ok (.getfield 19, 3) := by decide +kernel
theorem dX8_fits_4 : decode cX8_fits 4 = .ok (.iload_n 1, 1) := by decide +kernel
theorem dX8_fits_5 : decode cX8_fits 5 = .ok (.invokevirtual 91, 3) := by decide +kernel
theorem dX8_fits_8 : decode cX8_fits 8 = .ok (.ifCond .ne 5, 3) := by decide +kernel
theorem dX8_fits_11 : decode cX8_fits 11 = .ok (.iconst (-1), 1) := by decide +kernel
theorem dX8_fits_12 : decode cX8_fits 12 = .ok (.ireturn, 1) := by decide +kernel
theorem dX8_fits_13 : decode cX8_fits 13 = .ok (.iconst 0, 1) := by decide +kernel
theorem dX8_fits_14 : decode cX8_fits 14 = .ok (.istore_n 2, 1) := by decide +kernel
theorem dX8_fits_15 : decode cX8_fits 15 = .ok (.iconst 0, 1) := by decide +kernel
theorem dX8_fits_16 : decode cX8_fits 16 = .ok (.istore_n 3, 1) := by decide +kernel
theorem dX8_fits_17 : decode cX8_fits 17 = .ok (.iload_n 3, 1) := by decide +kernel
theorem dX8_fits_18 : decode cX8_fits 18 = .ok (.bipush 30, 2) := by decide +kernel
theorem dX8_fits_20 : decode cX8_fits 20 = .ok (.if_icmp .gt 49, 3) := by decide +kernel
theorem dX8_fits_23 : decode cX8_fits 23 = .ok (.aload_n 0, 1) := by decide +kernel
theorem dX8_fits_24 : decode cX8_fits 24 = .ok (.getfield 52, 3) := by decide +kernel
theorem dX8_fits_27 : decode cX8_fits 27 = .ok (.invokevirtual 150, 3) := by decide +kernel
theorem dX8_fits_30 : decode cX8_fits 30 = .ok (.aload_n 0, 1) := by decide +kernel
theorem dX8_fits_31 : decode cX8_fits 31 = .ok (.getfield 52, 3) := by decide +kernel
theorem dX8_fits_34 : decode cX8_fits 34 = .ok (.getfield 178, 3) := by decide +kernel
theorem dX8_fits_37 : decode cX8_fits 37 = .ok (.getfield 113, 3) := by decide +kernel
theorem dX8_fits_40 : decode cX8_fits 40 = .ok (.iload_n 1, 1) := by decide +kernel
theorem dX8_fits_41 : decode cX8_fits 41 = .ok (.iload_n 3, 1) := by decide +kernel
theorem dX8_fits_42 : decode cX8_fits 42 = .ok (.iastore, 1) := by decide +kernel
theorem dX8_fits_43 : decode cX8_fits 43 = .ok (.aload_n 0, 1) := by decide +kernel
theorem dX8_fits_44 : decode cX8_fits 44 = .ok (.getfield 43, 3) := by decide +kernel
theorem dX8_fits_47 : decode cX8_fits 47 = .ok (.aload_n 0, 1) := by decide +kernel
theorem dX8_fits_48 : decode cX8_fits 48 = .ok (.getfield 52, 3) := by decide +kernel
theorem dX8_fits_51 : decode cX8_fits 51 = .ok (.invokevirtual 194, 3) := by decide +kernel
theorem dX8_fits_54 : decode cX8_fits 54 = .ok (.ifCond .eq 9, 3) := by decide +kernel
theorem dX8_fits_57 : decode cX8_fits 57 = .ok (.iload_n 2, 1) := by decide +kernel
theorem dX8_fits_58 : decode cX8_fits 58 = .ok (.iconst 1, 1) := by decide +kernel
theorem dX8_fits_59 : decode cX8_fits 59 = .ok (.iload_n 3, 1) := by decide +kernel
theorem dX8_fits_60 : decode cX8_fits 60 = .ok (.ishl, 1) := by decide +kernel
theorem dX8_fits_61 : decode cX8_fits 61 = .ok (.ior, 1) := by decide +kernel
theorem dX8_fits_62 : decode cX8_fits 62 = .ok (.istore_n 2, 1) := by decide +kernel
theorem dX8_fits_63 : decode cX8_fits 63 = .ok (.iinc 3 1, 3) := by decide +kernel
theorem dX8_fits_66 : decode cX8_fits 66 = .ok (.goto (-49), 3) := by decide +kernel
theorem dX8_fits_69 : decode cX8_fits 69 = .ok (.iload_n 2, 1) := by decide +kernel
theorem dX8_fits_70 : decode cX8_fits 70 = .ok (.ireturn, 1) := by decide +kernel
theorem dX8_from_0 : decode cX8_from 0 = .ok (.aload_n 0, 1) := by decide +kernel
theorem dX8_from_1 : decode cX8_from 1 = .ok (.getfield 19, 3) := by decide +kernel
theorem dX8_from_4 : decode cX8_from 4 = .ok (.iload_n 1, 1) := by decide +kernel
theorem dX8_from_5 : decode cX8_from 5 = .ok (.invokevirtual 91, 3) := by decide +kernel
theorem dX8_from_8 : decode cX8_from 8 = .ok (.ifCond .eq 22, 3) := by decide +kernel
theorem dX8_from_11 : decode cX8_from 11 = .ok (.aload_n 0, 1) := by decide +kernel
theorem dX8_from_12 : decode cX8_from 12 = .ok (.getfield 19, 3) := by decide +kernel
theorem dX8_from_15 : decode cX8_from 15 = .ok (.iload_n 2, 1) := by decide +kernel
theorem dX8_from_16 : decode cX8_from 16 = .ok (.invokevirtual 121, 3) := by decide +kernel
theorem dX8_from_19 : decode cX8_from 19 = .ok (.ifCond .eq 11, 3) := by decide +kernel
theorem dX8_from_22 : decode cX8_from 22 = .ok (.iload 4, 2) := by decide +kernel
theorem dX8_from_24 : decode cX8_from 24 = .ok (.invokestatic 130, 3) := by decide +kernel
theorem dX8_from_27 : decode cX8_from 27 = .ok (.ifCond .ne 5, 3) := by decide +kernel
theorem dX8_from_30 : decode cX8_from 30 = .ok (.iconst (-1), 1) := by decide +kernel
theorem dX8_from_31 : decode cX8_from 31 = .ok (.ireturn, 1) := by decide +kernel
theorem dX8_from_32 : decode cX8_from 32 = .ok (.iload_n 3, 1) := by decide +kernel
theorem dX8_from_33 : decode cX8_from 33 = .ok (.iload 4, 2) := by decide +kernel
theorem dX8_from_35 : decode cX8_from 35 = .ok (.if_icmp .lt 9, 3) := by decide +kernel
theorem dX8_from_38 : decode cX8_from 38 = .ok (.iload_n 3, 1) := by decide +kernel
theorem dX8_from_39 : decode cX8_from 39 = .ok (.bipush 60, 2) := by decide +kernel
theorem dX8_from_41 : decode cX8_from 41 = .ok (.if_icmp .le 5, 3) := by decide +kernel
theorem dX8_from_44 : decode cX8_from 44 = .ok (.iconst (-1), 1) := by decide +kernel
theorem dX8_from_45 : decode cX8_from 45 = .ok (.ireturn, 1) := by decide +kernel
theorem dX8_from_46 : decode cX8_from 46 = .ok (.aload_n 0, 1) := by decide +kernel
theorem dX8_from_47 : decode cX8_from 47 = .ok (.getfield 52, 3) := by decide +kernel
theorem dX8_from_50 : decode cX8_from 50 = .ok (.invokevirtual 150, 3) := by decide +kernel
theorem dX8_from_53 : decode cX8_from 53 = .ok (.aload_n 0, 1) := by decide +kernel
theorem dX8_from_54 : decode cX8_from 54 = .ok (.getfield 52, 3) := by decide +kernel
theorem dX8_from_57 : decode cX8_from 57 = .ok (.iload_n 3, 1) := by decide +kernel
theorem dX8_from_58 : decode cX8_from 58 = .ok (.iload 4, 2) := by decide +kernel
theorem dX8_from_60 : decode cX8_from 60 = .ok (.isub, 1) := by decide +kernel
theorem dX8_from_61 : decode cX8_from 61 = .ok (.invokevirtual 153, 3) := by decide +kernel
theorem dX8_from_64 : decode cX8_from 64 = .ok (.aload_n 0, 1) := by decide +kernel
theorem dX8_from_65 : decode cX8_from 65 = .ok (.getfield 52, 3) := by decide +kernel
theorem dX8_from_68 : decode cX8_from 68 = .ok (.iload_n 1, 1) := by decide +kernel
theorem dX8_from_69 : decode cX8_from 69 = .ok (.iload_n 2, 1) := by decide +kernel
theorem dX8_from_70 : decode cX8_from 70 = .ok (.invokevirtual 198, 3) := by decide +kernel
theorem dX8_from_73 : decode cX8_from 73 = .ok (.istore 5, 2) := by decide +kernel
theorem dX8_from_75 : decode cX8_from 75 = .ok (.iload 4, 2) := by decide +kernel
theorem dX8_from_77 : decode cX8_from 77 = .ok (.ifCond .ne 6, 3) := by decide +kernel
theorem dX8_from_80 : decode cX8_from 80 = .ok (.iload 5, 2) := by decide +kernel
theorem dX8_from_82 : decode cX8_from 82 = .ok (.ireturn, 1) := by decide +kernel
theorem dX8_from_83 : decode cX8_from 83 = .ok (.aload_n 0, 1) := by decide +kernel
theorem dX8_from_84 : decode cX8_from 84 = .ok (.getfield 52, 3) := by decide +kernel
theorem dX8_from_87 : decode cX8_from 87 = .ok (.iload_n 3, 1) := by decide +kernel
theorem dX8_from_88 : decode cX8_from 88 = .ok (.invokevirtual 153, 3) := by decide +kernel
theorem dX8_from_91 : decode cX8_from 91 = .ok (.aload_n 0, 1) := by decide +kernel
theorem dX8_from_92 : decode cX8_from 92 = .ok (.getfield 19, 3) := by decide +kernel
theorem dX8_from_95 : decode cX8_from 95 = .ok (.iload 5, 2) := by decide +kernel
theorem dX8_from_97 : decode cX8_from 97 = .ok (.aload_n 0, 1) := by decide +kernel
theorem dX8_from_98 : decode cX8_from 98 = .ok (.getfield 52, 3) := by decide +kernel
theorem dX8_from_101 : decode cX8_from 101 = .ok (.iload_n 1, 1) := by decide +kernel
theorem dX8_from_102 : decode cX8_from 102 = .ok (.iload_n 2, 1) := by decide +kernel
theorem dX8_from_103 : decode cX8_from 103 = .ok (.invokevirtual 198, 3) := by decide +kernel
theorem dX8_from_106 : decode cX8_from 106 = .ok (.isub, 1) := by decide +kernel
theorem dX8_from_107 : decode cX8_from 107 = .ok (.invokevirtual 201, 3) := by decide +kernel
theorem dX8_from_110 : decode cX8_from 110 = .ok (.bipush 100, 2) := by decide +kernel
theorem dX8_from_112 : decode cX8_from 112 = .ok (.iadd, 1) := by decide +kernel
theorem dX8_from_113 : decode cX8_from 113 = .ok (.ireturn, 1) := by decide +kernel
theorem dX8_clocks_0 : decode cX8_clocks 0 = .ok (.aload_n 0, 1) := by decide +kernel
theorem dX8_clocks_1 : decode cX8_clocks 1 = .ok (.getfield 19, 3) := by decide +kernel
theorem dX8_clocks_4 : decode cX8_clocks 4 = .ok (.iload_n 1, 1) := by decide +kernel
theorem dX8_clocks_5 : decode cX8_clocks 5 = .ok (.invokevirtual 91, 3) := by decide +kernel
theorem dX8_clocks_8 : decode cX8_clocks 8 = .ok (.ifCond .eq 26, 3) := by decide +kernel
theorem dX8_clocks_11 : decode cX8_clocks 11 = .ok (.aload_n 0, 1) := by decide +kernel
theorem dX8_clocks_12 : decode cX8_clocks 12 = .ok (.getfield 19, 3) := by decide +kernel
theorem dX8_clocks_15 : decode cX8_clocks 15 = .ok (.iload_n 2, 1) := by decide +kernel
theorem dX8_clocks_16 : decode cX8_clocks 16 = .ok (.invokevirtual 91, 3) := by decide +kernel
theorem dX8_clocks_19 : decode cX8_clocks 19 = .ok (.ifCond .eq 15, 3) := by decide +kernel
theorem dX8_clocks_22 : decode cX8_clocks 22 = .ok (.iload_n 1, 1) := by decide +kernel
theorem dX8_clocks_23 : decode cX8_clocks 23 = .ok (.iload_n 2, 1) := by decide +kernel
theorem dX8_clocks_24 : decode cX8_clocks 24 = .ok (.if_icmp .eq 10, 3) := by decide +kernel
theorem dX8_clocks_27 : decode cX8_clocks 27 = .ok (.iload_n 3, 1) := by decide +kernel
theorem dX8_clocks_28 : decode cX8_clocks 28 = .ok (.invokestatic 130, 3) := by decide +kernel
theorem dX8_clocks_31 : decode cX8_clocks 31 = .ok (.ifCond .ne 5, 3) := by decide +kernel
theorem dX8_clocks_34 : decode cX8_clocks 34 = .ok (.iconst (-1), 1) := by decide +kernel
theorem dX8_clocks_35 : decode cX8_clocks 35 = .ok (.ireturn, 1) := by decide +kernel
theorem dX8_clocks_36 : decode cX8_clocks 36 = .ok (.iconst 0, 1) := by decide +kernel
theorem dX8_clocks_37 : decode cX8_clocks 37 = .ok (.istore 4, 2) := by decide +kernel
theorem dX8_clocks_39 : decode cX8_clocks 39 = .ok (.bipush (-4), 2) := by decide +kernel
theorem dX8_clocks_41 : decode cX8_clocks 41 = .ok (.istore 5, 2) := by decide +kernel
theorem dX8_clocks_43 : decode cX8_clocks 43 = .ok (.aload_n 0, 1) := by decide +kernel
theorem dX8_clocks_44 : decode cX8_clocks 44 = .ok (.getfield 52, 3) := by decide +kernel
theorem dX8_clocks_47 : decode cX8_clocks 47 = .ok (.invokevirtual 150, 3) := by decide +kernel
theorem dX8_clocks_50 : decode cX8_clocks 50 = .ok (.iconst 0, 1) := by decide +kernel
theorem dX8_clocks_51 : decode cX8_clocks 51 = .ok (.istore 6, 2) := by decide +kernel
theorem dX8_clocks_53 : decode cX8_clocks 53 = .ok (.iload 6, 2) := by decide +kernel
theorem dX8_clocks_55 : decode cX8_clocks 55 = .ok (.bipush 60, 2) := by decide +kernel
theorem dX8_clocks_57 : decode cX8_clocks 57 = .ok (.if_icmp .gt 51, 3) := by decide +kernel
theorem dX8_clocks_60 : decode cX8_clocks 60 = .ok (.aload_n 0, 1) := by decide +kernel
theorem dX8_clocks_61 : decode cX8_clocks 61 = .ok (.getfield 52, 3) := by decide +kernel
theorem dX8_clocks_64 : decode cX8_clocks 64 = .ok (.iload 6, 2) := by decide +kernel
theorem dX8_clocks_66 : decode cX8_clocks 66 = .ok (.invokevirtual 153, 3) := by decide +kernel
theorem dX8_clocks_69 : decode cX8_clocks 69 = .ok (.aload_n 0, 1) := by decide +kernel
theorem dX8_clocks_70 : decode cX8_clocks 70 = .ok (.getfield 52, 3) := by decide +kernel
theorem dX8_clocks_73 : decode cX8_clocks 73 = .ok (.getfield 157, 3) := by decide +kernel
theorem dX8_clocks_76 : decode cX8_clocks 76 = .ok (.iload_n 1, 1) := by decide +kernel
theorem dX8_clocks_77 : decode cX8_clocks 77 = .ok (.iaload, 1) := by decide +kernel
theorem dX8_clocks_78 : decode cX8_clocks 78 = .ok (.aload_n 0, 1) := by decide +kernel
theorem dX8_clocks_79 : decode cX8_clocks 79 = .ok (.getfield 52, 3) := by decide +kernel
theorem dX8_clocks_82 : decode cX8_clocks 82 = .ok (.getfield 157, 3) := by decide +kernel
theorem dX8_clocks_85 : decode cX8_clocks 85 = .ok (.iload_n 2, 1) := by decide +kernel
theorem dX8_clocks_86 : decode cX8_clocks 86 = .ok (.iaload, 1) := by decide +kernel
theorem dX8_clocks_87 : decode cX8_clocks 87 = .ok (.if_icmp .ne 15, 3) := by decide +kernel
theorem dX8_clocks_90 : decode cX8_clocks 90 = .ok (.iload 4, 2) := by decide +kernel
theorem dX8_clocks_92 : decode cX8_clocks 92 = .ok (.ifCond .ne 7, 3) := by decide +kernel
theorem dX8_clocks_95 : decode cX8_clocks 95 = .ok (.iload 6, 2) := by decide +kernel
theorem dX8_clocks_97 : decode cX8_clocks 97 = .ok (.istore 5, 2) := by decide +kernel
theorem dX8_clocks_99 : decode cX8_clocks 99 = .ok (.iinc 4 1, 3) := by decide +kernel
theorem dX8_clocks_102 : decode cX8_clocks 102 = .ok (.iinc 6 1, 3) := by decide +kernel
theorem dX8_clocks_105 : decode cX8_clocks 105 = .ok (.goto (-52), 3) := by decide +kernel
theorem dX8_clocks_108 : decode cX8_clocks 108 = .ok (.iload_n 3, 1) := by decide +kernel
theorem dX8_clocks_109 : decode cX8_clocks 109 = .ok (.ifCond .ne 8, 3) := by decide +kernel
theorem dX8_clocks_112 : decode cX8_clocks 112 = .ok (.iload 4, 2) := by decide +kernel
theorem dX8_clocks_114 : decode cX8_clocks 114 = .ok (.goto 5, 3) := by decide +kernel
theorem dX8_clocks_117 : decode cX8_clocks 117 = .ok (.iload 5, 2) := by decide +kernel
theorem dX8_clocks_119 : decode cX8_clocks 119 = .ok (.ireturn, 1) := by decide +kernel
theorem dX8_floods_0 : decode cX8_floods 0 = .ok (.aload_n 0, 1) := by decide +kernel
theorem dX8_floods_1 : decode cX8_floods 1 = .ok (.getfield 19, 3) := by decide +kernel
theorem dX8_floods_4 : decode cX8_floods 4 = .ok (.iload_n 1, 1) := by decide +kernel
theorem dX8_floods_5 : decode cX8_floods 5 = .ok (.invokevirtual 91, 3) := by decide +kernel
theorem dX8_floods_8 : decode cX8_floods 8 = .ok (.ifCond .eq 22, 3) := by decide +kernel
theorem dX8_floods_11 : decode cX8_floods 11 = .ok (.aload_n 0, 1) := by decide +kernel
theorem dX8_floods_12 : decode cX8_floods 12 = .ok (.getfield 19, 3) := by decide +kernel
theorem dX8_floods_15 : decode cX8_floods 15 = .ok (.iload_n 2, 1) := by decide +kernel
theorem dX8_floods_16 : decode cX8_floods 16 = .ok (.invokevirtual 121, 3) := by decide +kernel
theorem dX8_floods_19 : decode cX8_floods 19 = .ok (.ifCond .eq 11, 3) := by decide +kernel
theorem dX8_floods_22 : decode cX8_floods 22 = .ok (.iload 5, 2) := by decide +kernel
theorem dX8_floods_24 : decode cX8_floods 24 = .ok (.invokestatic 130, 3) := by decide +kernel
theorem dX8_floods_27 : decode cX8_floods 27 = .ok (.ifCond .ne 5, 3) := by decide +kernel
theorem dX8_floods_30 : decode cX8_floods 30 = .ok (.iconst (-1), 1) := by decide +kernel
theorem dX8_floods_31 : decode cX8_floods 31 = .ok (.ireturn, 1) := by decide +kernel
theorem dX8_floods_32 : decode cX8_floods 32 = .ok (.iload_n 3, 1) := by decide +kernel
theorem dX8_floods_33 : decode cX8_floods 33 = .ok (.ifCond .lt 21, 3) := by decide +kernel
theorem dX8_floods_36 : decode cX8_floods 36 = .ok (.iload_n 3, 1) := by decide +kernel
theorem dX8_floods_37 : decode cX8_floods 37 = .ok (.bipush 6, 2) := by decide +kernel
theorem dX8_floods_39 : decode cX8_floods 39 = .ok (.if_icmp .gt 15, 3) := by decide +kernel
theorem dX8_floods_42 : decode cX8_floods 42 = .ok (.iload 4, 2) := by decide +kernel
theorem dX8_floods_44 : decode cX8_floods 44 = .ok (.ifCond .lt 10, 3) := by decide +kernel
theorem dX8_floods_47 : decode cX8_floods 47 = .ok (.iload 4, 2) := by decide +kernel
theorem dX8_floods_49 : decode cX8_floods 49 = .ok (.bipush 10, 2) := by decide +kernel
theorem dX8_floods_51 : decode cX8_floods 51 = .ok (.if_icmp .le 5, 3) := by decide +kernel
theorem dX8_floods_54 : decode cX8_floods 54 = .ok (.iconst (-1), 1) := by decide +kernel
theorem dX8_floods_55 : decode cX8_floods 55 = .ok (.ireturn, 1) := by decide +kernel
theorem dX8_floods_56 : decode cX8_floods 56 = .ok (.iconst 0, 1) := by decide +kernel
theorem dX8_floods_57 : decode cX8_floods 57 = .ok (.istore 6, 2) := by decide +kernel
theorem dX8_floods_59 : decode cX8_floods 59 = .ok (.iconst 1, 1) := by decide +kernel
theorem dX8_floods_60 : decode cX8_floods 60 = .ok (.istore 7, 2) := by decide +kernel
theorem dX8_floods_62 : decode cX8_floods 62 = .ok (.iconst 0, 1) := by decide +kernel
theorem dX8_floods_63 : decode cX8_floods 63 = .ok (.istore 8, 2) := by decide +kernel
theorem dX8_floods_65 : decode cX8_floods 65 = .ok (.iload 8, 2) := by decide +kernel
theorem dX8_floods_67 : decode cX8_floods 67 = .ok (.iload_n 3, 1) := by decide +kernel
theorem dX8_floods_68 : decode cX8_floods 68 = .ok (.if_icmp .ge 16, 3) := by decide +kernel
theorem dX8_floods_71 : decode cX8_floods 71 = .ok (.iload 7, 2) := by decide +kernel
theorem dX8_floods_73 : decode cX8_floods 73 = .ok (.bipush 10, 2) := by decide +kernel
theorem dX8_floods_75 : decode cX8_floods 75 = .ok (.imul, 1) := by decide +kernel
theorem dX8_floods_76 : decode cX8_floods 76 = .ok (.istore 7, 2) := by decide +kernel
theorem dX8_floods_78 : decode cX8_floods 78 = .ok (.iinc 8 1, 3) := by decide +kernel
theorem dX8_floods_81 : decode cX8_floods 81 = .ok (.goto (-16), 3) := by decide +kernel
theorem dX8_floods_84 : decode cX8_floods 84 = .ok (.iconst 0, 1) := by decide +kernel
theorem dX8_floods_85 : decode cX8_floods 85 = .ok (.istore 8, 2) := by decide +kernel
theorem dX8_floods_87 : decode cX8_floods 87 = .ok (.iload 8, 2) := by decide +kernel
theorem dX8_floods_89 : decode cX8_floods 89 = .ok (.iconst 1, 1) := by decide +kernel
theorem dX8_floods_90 : decode cX8_floods 90 = .ok (.iload_n 3, 1) := by decide +kernel
theorem dX8_floods_91 : decode cX8_floods 91 = .ok (.ishl, 1) := by decide +kernel
theorem dX8_floods_92 : decode cX8_floods 92 = .ok (.if_icmp .ge 37, 3) := by decide +kernel
theorem dX8_floods_95 : decode cX8_floods 95 = .ok (.aload_n 0, 1) := by decide +kernel
theorem dX8_floods_96 : decode cX8_floods 96 = .ok (.getfield 52, 3) := by decide +kernel
theorem dX8_floods_99 : decode cX8_floods 99 = .ok (.iload_n 1, 1) := by decide +kernel
theorem dX8_floods_100 : decode cX8_floods 100 = .ok (.iload_n 2, 1) := by decide +kernel
theorem dX8_floods_101 : decode cX8_floods 101 = .ok (.iload_n 3, 1) := by decide +kernel
theorem dX8_floods_102 : decode cX8_floods 102 = .ok (.iload 8, 2) := by decide +kernel
theorem dX8_floods_104 : decode cX8_floods 104 = .ok (.invokevirtual 204, 3) := by decide +kernel
theorem dX8_floods_107 : decode cX8_floods 107 = .ok (.ifCond .eq 16, 3) := by decide +kernel
theorem dX8_floods_110 : decode cX8_floods 110 = .ok (.iload 6, 2) := by decide +kernel
theorem dX8_floods_112 : decode cX8_floods 112 = .ok (.iload_n 3, 1) := by decide +kernel
theorem dX8_floods_113 : decode cX8_floods 113 = .ok (.iload 4, 2) := by decide +kernel
theorem dX8_floods_115 : decode cX8_floods 115 = .ok (.iload 8, 2) := by decide +kernel
theorem dX8_floods_117 : decode cX8_floods 117 = .ok (.invokestatic 208, 3) := by decide +kernel
theorem dX8_floods_120 : decode cX8_floods 120 = .ok (.iadd, 1) := by decide +kernel
theorem dX8_floods_121 : decode cX8_floods 121 = .ok (.istore 6, 2) := by decide +kernel
theorem dX8_floods_123 : decode cX8_floods 123 = .ok (.iinc 8 1, 3) := by decide +kernel
theorem dX8_floods_126 : decode cX8_floods 126 = .ok (.goto (-39), 3) := by decide +kernel
theorem dX8_floods_129 : decode cX8_floods 129 = .ok (.iload 6, 2) := by decide +kernel
theorem dX8_floods_131 : decode cX8_floods 131 = .ok (.iload 7, 2) := by decide +kernel
theorem dX8_floods_133 : decode cX8_floods 133 = .ok (.invokestatic 212, 3) := by decide +kernel
theorem dX8_floods_136 : decode cX8_floods 136 = .ok (.istore 8, 2) := by decide +kernel
theorem dX8_floods_138 : decode cX8_floods 138 = .ok (.iload 8, 2) := by decide +kernel
theorem dX8_floods_140 : decode cX8_floods 140 = .ok (.iconst 1, 1) := by decide +kernel
theorem dX8_floods_141 : decode cX8_floods 141 = .ok (.if_icmp .ge 6, 3) := by decide +kernel
theorem dX8_floods_144 : decode cX8_floods 144 = .ok (.bipush (-4), 2) := by decide +kernel
theorem dX8_floods_146 : decode cX8_floods 146 = .ok (.ireturn, 1) := by decide +kernel
theorem dX8_floods_147 : decode cX8_floods 147 = .ok (.iload 5, 2) := by decide +kernel
theorem dX8_floods_149 : decode cX8_floods 149 = .ok (.ifCond .ne 8, 3) := by decide +kernel
theorem dX8_floods_152 : decode cX8_floods 152 = .ok (.iload 6, 2) := by decide +kernel
theorem dX8_floods_154 : decode cX8_floods 154 = .ok (.goto 5, 3) := by decide +kernel
theorem dX8_floods_157 : decode cX8_floods 157 = .ok (.iload 7, 2) := by decide +kernel
theorem dX8_floods_159 : decode cX8_floods 159 = .ok (.iload 8, 2) := by decide +kernel
theorem dX8_floods_161 : decode cX8_floods 161 = .ok (.idiv, 1) := by decide +kernel
theorem dX8_floods_162 : decode cX8_floods 162 = .ok (.ireturn, 1) := by decide +kernel
theorem dX8_day_0 : decode cX8_day 0 = .ok (.iload_n 1, 1) := by decide +kernel
theorem dX8_day_1 : decode cX8_day 1 = .ok (.ifCond .lt 17, 3) := by decide +kernel
theorem dX8_day_4 : decode cX8_day 4 = .ok (.iload_n 1, 1) := by decide +kernel
theorem dX8_day_5 : decode cX8_day 5 = .ok (.sipush 9999, 3) := by decide +kernel
theorem dX8_day_8 : decode cX8_day 8 = .ok (.if_icmp .gt 10, 3) := by decide +kernel
theorem dX8_day_11 : decode cX8_day 11 = .ok (.iload_n 2, 1) := by decide +kernel
theorem dX8_day_12 : decode cX8_day 12 = .ok (.invokestatic 130, 3) := by decide +kernel
theorem dX8_day_15 : decode cX8_day 15 = .ok (.ifCond .ne 5, 3) := by decide +kernel
theorem dX8_day_18 : decode cX8_day 18 = .ok (.iconst (-1), 1) := by decide +kernel
theorem dX8_day_19 : decode cX8_day 19 = .ok (.ireturn, 1) := by decide +kernel
theorem dX8_day_20 : decode cX8_day 20 = .ok (.aload_n 0, 1) := by decide +kernel
theorem dX8_day_21 : decode cX8_day 21 = .ok (.getfield 52, 3) := by decide +kernel
theorem dX8_day_24 : decode cX8_day 24 = .ok (.invokevirtual 150, 3) := by decide +kernel
theorem dX8_day_27 : decode cX8_day 27 = .ok (.iconst 0, 1) := by decide +kernel
theorem dX8_day_28 : decode cX8_day 28 = .ok (.istore_n 3, 1) := by decide +kernel
theorem dX8_day_29 : decode cX8_day 29 = .ok (.iload_n 3, 1) := by decide +kernel
theorem dX8_day_30 : decode cX8_day 30 = .ok (.aload_n 0, 1) := by decide +kernel
theorem dX8_day_31 : decode cX8_day 31 = .ok (.getfield 19, 3) := by decide +kernel
theorem dX8_day_34 : decode cX8_day 34 = .ok (.getfield 83, 3) := by decide +kernel
theorem dX8_day_37 : decode cX8_day 37 = .ok (.if_icmp .ge 26, 3) := by decide +kernel
theorem dX8_day_40 : decode cX8_day 40 = .ok (.aload_n 0, 1) := by decide +kernel
theorem dX8_day_41 : decode cX8_day 41 = .ok (.getfield 52, 3) := by decide +kernel
theorem dX8_day_44 : decode cX8_day 44 = .ok (.getfield 178, 3) := by decide +kernel
theorem dX8_day_47 : decode cX8_day 47 = .ok (.getfield 113, 3) := by decide +kernel
theorem dX8_day_50 : decode cX8_day 50 = .ok (.iload_n 3, 1) := by decide +kernel
theorem dX8_day_51 : decode cX8_day 51 = .ok (.iload_n 1, 1) := by decide +kernel
theorem dX8_day_52 : decode cX8_day 52 = .ok (.iload_n 3, 1) := by decide +kernel
theorem dX8_day_53 : decode cX8_day 53 = .ok (.invokestatic 215, 3) := by decide +kernel
theorem dX8_day_56 : decode cX8_day 56 = .ok (.iastore, 1) := by decide +kernel
theorem dX8_day_57 : decode cX8_day 57 = .ok (.iinc 3 1, 3) := by decide +kernel
theorem dX8_day_60 : decode cX8_day 60 = .ok (.goto (-31), 3) := by decide +kernel
theorem dX8_day_63 : decode cX8_day 63 = .ok (.aload_n 0, 1) := by decide +kernel
theorem dX8_day_64 : decode cX8_day 64 = .ok (.getfield 52, 3) := by decide +kernel
theorem dX8_day_67 : decode cX8_day 67 = .ok (.invokevirtual 218, 3) := by decide +kernel
theorem dX8_day_70 : decode cX8_day 70 = .ok (.istore_n 3, 1) := by decide +kernel
theorem dX8_day_71 : decode cX8_day 71 = .ok (.iload_n 2, 1) := by decide +kernel
theorem dX8_day_72 : decode cX8_day 72 = .ok (.ifCond .ne 13, 3) := by decide +kernel
theorem dX8_day_75 : decode cX8_day 75 = .ok (.aload_n 0, 1) := by decide +kernel
theorem dX8_day_76 : decode cX8_day 76 = .ok (.getfield 52, 3) := by decide +kernel
theorem dX8_day_79 : decode cX8_day 79 = .ok (.getfield 221, 3) := by decide +kernel
theorem dX8_day_82 : decode cX8_day 82 = .ok (.goto 4, 3) := by decide +kernel
theorem dX8_day_85 : decode cX8_day 85 = .ok (.iload_n 3, 1) := by decide +kernel
theorem dX8_day_86 : decode cX8_day 86 = .ok (.ireturn, 1) := by decide +kernel
theorem dX8_keep_0 : decode cX8_keep 0 = .ok (.aload_n 0, 1) := by decide +kernel
theorem dX8_keep_1 : decode cX8_keep 1 = .ok (.getfield 36, 3) := by decide +kernel
theorem dX8_keep_4 : decode cX8_keep 4 = .ok (.aload_n 0, 1) := by decide +kernel
theorem dX8_keep_5 : decode cX8_keep 5 = .ok (.getfield 19, 3) := by decide +kernel
theorem dX8_keep_8 : decode cX8_keep 8 = .ok (.getfield 109, 3) := by decide +kernel
theorem dX8_keep_11 : decode cX8_keep 11 = .ok (.invokevirtual 224, 3) := by decide +kernel
theorem dX8_keep_14 : decode cX8_keep 14 = .ok (.ifCond .eq 13, 3) := by decide +kernel
theorem dX8_keep_17 : decode cX8_keep 17 = .ok (.aload_n 0, 1) := by decide +kernel
theorem dX8_keep_18 : decode cX8_keep 18 = .ok (.getfield 36, 3) := by decide +kernel
theorem dX8_keep_21 : decode cX8_keep 21 = .ok (.getfield 89, 3) := by decide +kernel
theorem dX8_keep_24 : decode cX8_keep 24 = .ok (.goto 5, 3) := by decide +kernel
theorem dX8_keep_27 : decode cX8_keep 27 = .ok (.bipush (-3), 2) := by decide +kernel
theorem dX8_keep_29 : decode cX8_keep 29 = .ok (.ireturn, 1) := by decide +kernel
theorem dX8_back_0 : decode cX8_back 0 = .ok (.aload_n 0, 1) := by decide +kernel
theorem dX8_back_1 : decode cX8_back 1 = .ok (.getfield 36, 3) := by decide +kernel
theorem dX8_back_4 : decode cX8_back 4 = .ok (.aload_n 0, 1) := by decide +kernel
theorem dX8_back_5 : decode cX8_back 5 = .ok (.getfield 19, 3) := by decide +kernel
theorem dX8_back_8 : decode cX8_back 8 = .ok (.getfield 109, 3) := by decide +kernel
theorem dX8_back_11 : decode cX8_back 11 = .ok (.invokevirtual 226, 3) := by decide +kernel
theorem dX8_back_14 : decode cX8_back 14 = .ok (.ifCond .ne 6, 3) := by decide +kernel
theorem dX8_back_17 : decode cX8_back 17 = .ok (.bipush (-2), 2) := by decide +kernel
theorem dX8_back_19 : decode cX8_back 19 = .ok (.ireturn, 1) := by decide +kernel
theorem dX8_back_20 : decode cX8_back 20 = .ok (.aload_n 0, 1) := by decide +kernel
theorem dX8_back_21 : decode cX8_back 21 = .ok (.getfield 29, 3) := by decide +kernel
theorem dX8_back_24 : decode cX8_back 24 = .ok (.iconst 0, 1) := by decide +kernel
theorem dX8_back_25 : decode cX8_back 25 = .ok (.putfield 86, 3) := by decide +kernel
theorem dX8_back_28 : decode cX8_back 28 = .ok (.aload_n 0, 1) := by decide +kernel
theorem dX8_back_29 : decode cX8_back 29 = .ok (.getfield 36, 3) := by decide +kernel
theorem dX8_back_32 : decode cX8_back 32 = .ok (.getfield 89, 3) := by decide +kernel
theorem dX8_back_35 : decode cX8_back 35 = .ok (.ireturn, 1) := by decide +kernel
theorem dX8_count_0 : decode cX8_count 0 = .ok (.iload_n 1, 1) := by decide +kernel
theorem dX8_count_1 : decode cX8_count 1 = .ok (.tableswitch 135 0 8 #[51, 59, 67, 75, 89, 103, 111, 119, 127], 51) := by decide +kernel
theorem dX8_count_52 : decode cX8_count 52 = .ok (.aload_n 0, 1) := by decide +kernel
theorem dX8_count_53 : decode cX8_count 53 = .ok (.getfield 19, 3) := by decide +kernel
theorem dX8_count_56 : decode cX8_count 56 = .ok (.getfield 229, 3) := by decide +kernel
theorem dX8_count_59 : decode cX8_count 59 = .ok (.ireturn, 1) := by decide +kernel
theorem dX8_count_60 : decode cX8_count 60 = .ok (.aload_n 0, 1) := by decide +kernel
theorem dX8_count_61 : decode cX8_count 61 = .ok (.getfield 19, 3) := by decide +kernel
theorem dX8_count_64 : decode cX8_count 64 = .ok (.getfield 232, 3) := by decide +kernel
theorem dX8_count_67 : decode cX8_count 67 = .ok (.ireturn, 1) := by decide +kernel
theorem dX8_count_68 : decode cX8_count 68 = .ok (.aload_n 0, 1) := by decide +kernel
theorem dX8_count_69 : decode cX8_count 69 = .ok (.getfield 19, 3) := by decide +kernel
theorem dX8_count_72 : decode cX8_count 72 = .ok (.getfield 83, 3) := by decide +kernel
theorem dX8_count_75 : decode cX8_count 75 = .ok (.ireturn, 1) := by decide +kernel
theorem dX8_count_76 : decode cX8_count 76 = .ok (.aload_n 0, 1) := by decide +kernel
theorem dX8_count_77 : decode cX8_count 77 = .ok (.getfield 19, 3) := by decide +kernel
theorem dX8_count_80 : decode cX8_count 80 = .ok (.getfield 109, 3) := by decide +kernel
theorem dX8_count_83 : decode cX8_count 83 = .ok (.getfield 133, 3) := by decide +kernel
theorem dX8_count_86 : decode cX8_count 86 = .ok (.invokestatic 183, 3) := by decide +kernel
theorem dX8_count_89 : decode cX8_count 89 = .ok (.ireturn, 1) := by decide +kernel
theorem dX8_count_90 : decode cX8_count 90 = .ok (.aload_n 0, 1) := by decide +kernel
theorem dX8_count_91 : decode cX8_count 91 = .ok (.getfield 19, 3) := by decide +kernel
theorem dX8_count_94 : decode cX8_count 94 = .ok (.getfield 109, 3) := by decide +kernel
theorem dX8_count_97 : decode cX8_count 97 = .ok (.getfield 118, 3) := by decide +kernel
theorem dX8_count_100 : decode cX8_count 100 = .ok (.invokestatic 183, 3) := by decide +kernel
theorem dX8_count_103 : decode cX8_count 103 = .ok (.ireturn, 1) := by decide +kernel
theorem dX8_count_104 : decode cX8_count 104 = .ok (.aload_n 0, 1) := by decide +kernel
theorem dX8_count_105 : decode cX8_count 105 = .ok (.getfield 43, 3) := by decide +kernel
theorem dX8_count_108 : decode cX8_count 108 = .ok (.getfield 90, 3) := by decide +kernel
theorem dX8_count_111 : decode cX8_count 111 = .ok (.ireturn, 1) := by decide +kernel
theorem dX8_count_112 : decode cX8_count 112 = .ok (.aload_n 0, 1) := by decide +kernel
theorem dX8_count_113 : decode cX8_count 113 = .ok (.getfield 29, 3) := by decide +kernel
theorem dX8_count_116 : decode cX8_count 116 = .ok (.getfield 86, 3) := by decide +kernel
theorem dX8_count_119 : decode cX8_count 119 = .ok (.ireturn, 1) := by decide +kernel
theorem dX8_count_120 : decode cX8_count 120 = .ok (.aload_n 0, 1) := by decide +kernel
theorem dX8_count_121 : decode cX8_count 121 = .ok (.getfield 36, 3) := by decide +kernel
theorem dX8_count_124 : decode cX8_count 124 = .ok (.getfield 89, 3) := by decide +kernel
theorem dX8_count_127 : decode cX8_count 127 = .ok (.ireturn, 1) := by decide +kernel
theorem dX8_count_128 : decode cX8_count 128 = .ok (.aload_n 0, 1) := by decide +kernel
theorem dX8_count_129 : decode cX8_count 129 = .ok (.getfield 10, 3) := by decide +kernel
theorem dX8_count_132 : decode cX8_count 132 = .ok (.getfield 75, 3) := by decide +kernel
theorem dX8_count_135 : decode cX8_count 135 = .ok (.ireturn, 1) := by decide +kernel
theorem dX8_count_136 : decode cX8_count 136 = .ok (.iconst (-1), 1) := by decide +kernel
theorem dX8_count_137 : decode cX8_count 137 = .ok (.ireturn, 1) := by decide +kernel
theorem dX8_isEither_0 : decode cX8_isEither 0 = .ok (.iload_n 0, 1) := by decide +kernel
theorem dX8_isEither_1 : decode cX8_isEither 1 = .ok (.ifCond .eq 8, 3) := by decide +kernel
theorem dX8_isEither_4 : decode cX8_isEither 4 = .ok (.iload_n 0, 1) := by decide +kernel
theorem dX8_isEither_5 : decode cX8_isEither 5 = .ok (.iconst 1, 1) := by decide +kernel
theorem dX8_isEither_6 : decode cX8_isEither 6 = .ok (.if_icmp .ne 7, 3) := by decide +kernel
theorem dX8_isEither_9 : decode cX8_isEither 9 = .ok (.iconst 1, 1) := by decide +kernel
theorem dX8_isEither_10 : decode cX8_isEither 10 = .ok (.goto 4, 3) := by decide +kernel
theorem dX8_isEither_13 : decode cX8_isEither 13 = .ok (.iconst 0, 1) := by decide +kernel
theorem dX8_isEither_14 : decode cX8_isEither 14 = .ok (.ireturn, 1) := by decide +kernel
theorem dX8_bit_0 : decode cX8_bit 0 = .ok (.iload_n 0, 1) := by decide +kernel
theorem dX8_bit_1 : decode cX8_bit 1 = .ok (.iload_n 1, 1) := by decide +kernel
theorem dX8_bit_2 : decode cX8_bit 2 = .ok (.ishr, 1) := by decide +kernel
theorem dX8_bit_3 : decode cX8_bit 3 = .ok (.iconst 1, 1) := by decide +kernel
theorem dX8_bit_4 : decode cX8_bit 4 = .ok (.iand, 1) := by decide +kernel
theorem dX8_bit_5 : decode cX8_bit 5 = .ok (.ireturn, 1) := by decide +kernel
theorem dX8_fewestPlaces_0 : decode cX8_fewestPlaces 0 = .ok (.iconst 0, 1) := by decide +kernel
theorem dX8_fewestPlaces_1 : decode cX8_fewestPlaces 1 = .ok (.istore_n 1, 1) := by decide +kernel
theorem dX8_fewestPlaces_2 : decode cX8_fewestPlaces 2 = .ok (.iconst 0, 1) := by decide +kernel
theorem dX8_fewestPlaces_3 : decode cX8_fewestPlaces 3 = .ok (.istore_n 2, 1) := by decide +kernel
theorem dX8_fewestPlaces_4 : decode cX8_fewestPlaces 4 = .ok (.iload_n 2, 1) := by decide +kernel
theorem dX8_fewestPlaces_5 : decode cX8_fewestPlaces 5 = .ok (.iconst 2, 1) := by decide +kernel
theorem dX8_fewestPlaces_6 : decode cX8_fewestPlaces 6 = .ok (.if_icmp .gt 65, 3) := by decide +kernel
theorem dX8_fewestPlaces_9 : decode cX8_fewestPlaces 9 = .ok (.aload_n 0, 1) := by decide +kernel
theorem dX8_fewestPlaces_10 : decode cX8_fewestPlaces 10 = .ok (.getfield 52, 3) := by decide +kernel
theorem dX8_fewestPlaces_13 : decode cX8_fewestPlaces 13 = .ok (.invokevirtual 150, 3) := by decide +kernel
theorem dX8_fewestPlaces_16 : decode cX8_fewestPlaces 16 = .ok (.aload_n 0, 1) := by decide +kernel
theorem dX8_fewestPlaces_17 : decode cX8_fewestPlaces 17 = .ok (.getfield 52, 3) := by decide +kernel
theorem dX8_fewestPlaces_20 : decode cX8_fewestPlaces 20 = .ok (.getfield 178, 3) := by decide +kernel
theorem dX8_fewestPlaces_23 : decode cX8_fewestPlaces 23 = .ok (.dup, 1) := by decide +kernel
theorem dX8_fewestPlaces_24 : decode cX8_fewestPlaces 24 = .ok (.getfield 133, 3) := by decide +kernel
theorem dX8_fewestPlaces_27 : decode cX8_fewestPlaces 27 = .ok (.iload_n 1, 1) := by decide +kernel
theorem dX8_fewestPlaces_28 : decode cX8_fewestPlaces 28 = .ok (.ior, 1) := by decide +kernel
theorem dX8_fewestPlaces_29 : decode cX8_fewestPlaces 29 = .ok (.putfield 133, 3) := by decide +kernel
theorem dX8_fewestPlaces_32 : decode cX8_fewestPlaces 32 = .ok (.aload_n 0, 1) := by decide +kernel
theorem dX8_fewestPlaces_33 : decode cX8_fewestPlaces 33 = .ok (.getfield 52, 3) := by decide +kernel
theorem dX8_fewestPlaces_36 : decode cX8_fewestPlaces 36 = .ok (.bipush 60, 2) := by decide +kernel
theorem dX8_fewestPlaces_38 : decode cX8_fewestPlaces 38 = .ok (.invokevirtual 153, 3) := by decide +kernel
theorem dX8_fewestPlaces_41 : decode cX8_fewestPlaces 41 = .ok (.aload_n 0, 1) := by decide +kernel
theorem dX8_fewestPlaces_42 : decode cX8_fewestPlaces 42 = .ok (.getfield 52, 3) := by decide +kernel
theorem dX8_fewestPlaces_45 : decode cX8_fewestPlaces 45 = .ok (.getfield 221, 3) := by decide +kernel
theorem dX8_fewestPlaces_48 : decode cX8_fewestPlaces 48 = .ok (.ifCond .ne 5, 3) := by decide +kernel
theorem dX8_fewestPlaces_51 : decode cX8_fewestPlaces 51 = .ok (.iload_n 1, 1) := by decide +kernel
theorem dX8_fewestPlaces_52 : decode cX8_fewestPlaces 52 = .ok (.ireturn, 1) := by decide +kernel
theorem dX8_fewestPlaces_53 : decode cX8_fewestPlaces 53 = .ok (.iload_n 1, 1) := by decide +kernel
theorem dX8_fewestPlaces_54 : decode cX8_fewestPlaces 54 = .ok (.iconst 1, 1) := by decide +kernel
theorem dX8_fewestPlaces_55 : decode cX8_fewestPlaces 55 = .ok (.aload_n 0, 1) := by decide +kernel
theorem dX8_fewestPlaces_56 : decode cX8_fewestPlaces 56 = .ok (.getfield 52, 3) := by decide +kernel
theorem dX8_fewestPlaces_59 : decode cX8_fewestPlaces 59 = .ok (.getfield 235, 3) := by decide +kernel
theorem dX8_fewestPlaces_62 : decode cX8_fewestPlaces 62 = .ok (.ishl, 1) := by decide +kernel
theorem dX8_fewestPlaces_63 : decode cX8_fewestPlaces 63 = .ok (.ior, 1) := by decide +kernel
theorem dX8_fewestPlaces_64 : decode cX8_fewestPlaces 64 = .ok (.istore_n 1, 1) := by decide +kernel
theorem dX8_fewestPlaces_65 : decode cX8_fewestPlaces 65 = .ok (.iinc 2 1, 3) := by decide +kernel
theorem dX8_fewestPlaces_68 : decode cX8_fewestPlaces 68 = .ok (.goto (-64), 3) := by decide +kernel
theorem dX8_fewestPlaces_71 : decode cX8_fewestPlaces 71 = .ok (.bipush (-4), 2) := by decide +kernel
theorem dX8_fewestPlaces_73 : decode cX8_fewestPlaces 73 = .ok (.ireturn, 1) := by decide +kernel
theorem dX8_kthOf_0 : decode cX8_kthOf 0 = .ok (.iload_n 1, 1) := by decide +kernel
theorem dX8_kthOf_1 : decode cX8_kthOf 1 = .ok (.istore_n 2, 1) := by decide +kernel
theorem dX8_kthOf_2 : decode cX8_kthOf 2 = .ok (.iconst 0, 1) := by decide +kernel
theorem dX8_kthOf_3 : decode cX8_kthOf 3 = .ok (.istore_n 3, 1) := by decide +kernel
theorem dX8_kthOf_4 : decode cX8_kthOf 4 = .ok (.iload_n 3, 1) := by decide +kernel
theorem dX8_kthOf_5 : decode cX8_kthOf 5 = .ok (.bipush 24, 2) := by decide +kernel
theorem dX8_kthOf_7 : decode cX8_kthOf 7 = .ok (.if_icmp .ge 23, 3) := by decide +kernel
theorem dX8_kthOf_10 : decode cX8_kthOf 10 = .ok (.iload_n 2, 1) := by decide +kernel
theorem dX8_kthOf_11 : decode cX8_kthOf 11 = .ok (.iload_n 0, 1) := by decide +kernel
theorem dX8_kthOf_12 : decode cX8_kthOf 12 = .ok (.iload_n 3, 1) := by decide +kernel
theorem dX8_kthOf_13 : decode cX8_kthOf 13 = .ok (.invokestatic 105, 3) := by decide +kernel
theorem dX8_kthOf_16 : decode cX8_kthOf 16 = .ok (.isub, 1) := by decide +kernel
theorem dX8_kthOf_17 : decode cX8_kthOf 17 = .ok (.istore_n 2, 1) := by decide +kernel
theorem dX8_kthOf_18 : decode cX8_kthOf 18 = .ok (.iload_n 2, 1) := by decide +kernel
theorem dX8_kthOf_19 : decode cX8_kthOf 19 = .ok (.ifCond .ne 5, 3) := by decide +kernel
theorem dX8_kthOf_22 : decode cX8_kthOf 22 = .ok (.iload_n 3, 1) := by decide +kernel
theorem dX8_kthOf_23 : decode cX8_kthOf 23 = .ok (.ireturn, 1) := by decide +kernel
theorem dX8_kthOf_24 : decode cX8_kthOf 24 = .ok (.iinc 3 1, 3) := by decide +kernel
theorem dX8_kthOf_27 : decode cX8_kthOf 27 = .ok (.goto (-23), 3) := by decide +kernel
theorem dX8_kthOf_30 : decode cX8_kthOf 30 = .ok (.bipush (-4), 2) := by decide +kernel
theorem dX8_kthOf_32 : decode cX8_kthOf 32 = .ok (.ireturn, 1) := by decide +kernel
theorem dX8_floodWeight_0 : decode cX8_floodWeight 0 = .ok (.iconst 1, 1) := by decide +kernel
theorem dX8_floodWeight_1 : decode cX8_floodWeight 1 = .ok (.istore_n 3, 1) := by decide +kernel
theorem dX8_floodWeight_2 : decode cX8_floodWeight 2 = .ok (.iconst 0, 1) := by decide +kernel
theorem dX8_floodWeight_3 : decode cX8_floodWeight 3 = .ok (.istore 4, 2) := by decide +kernel
theorem dX8_floodWeight_5 : decode cX8_floodWeight 5 = .ok (.iload 4, 2) := by decide +kernel
theorem dX8_floodWeight_7 : decode cX8_floodWeight 7 = .ok (.iload_n 0, 1) := by decide +kernel
theorem dX8_floodWeight_8 : decode cX8_floodWeight 8 = .ok (.if_icmp .ge 30, 3) := by decide +kernel
theorem dX8_floodWeight_11 : decode cX8_floodWeight 11 = .ok (.iload_n 3, 1) := by decide +kernel
theorem dX8_floodWeight_12 : decode cX8_floodWeight 12 = .ok (.iload_n 2, 1) := by decide +kernel
theorem dX8_floodWeight_13 : decode cX8_floodWeight 13 = .ok (.iload 4, 2) := by decide +kernel
theorem dX8_floodWeight_15 : decode cX8_floodWeight 15 = .ok (.invokestatic 105, 3) := by decide +kernel
theorem dX8_floodWeight_18 : decode cX8_floodWeight 18 = .ok (.iconst 1, 1) := by decide +kernel
theorem dX8_floodWeight_19 : decode cX8_floodWeight 19 = .ok (.if_icmp .ne 7, 3) := by decide +kernel
theorem dX8_floodWeight_22 : decode cX8_floodWeight 22 = .ok (.iload_n 1, 1) := by decide +kernel
theorem dX8_floodWeight_23 : decode cX8_floodWeight 23 = .ok (.goto 7, 3) := by decide +kernel
theorem dX8_floodWeight_26 : decode cX8_floodWeight 26 = .ok (.bipush 10, 2) := by decide +kernel
theorem dX8_floodWeight_28 : decode cX8_floodWeight 28 = .ok (.iload_n 1, 1) := by decide +kernel
theorem dX8_floodWeight_29 : decode cX8_floodWeight 29 = .ok (.isub, 1) := by decide +kernel
theorem dX8_floodWeight_30 : decode cX8_floodWeight 30 = .ok (.imul, 1) := by decide +kernel
theorem dX8_floodWeight_31 : decode cX8_floodWeight 31 = .ok (.istore_n 3, 1) := by decide +kernel
theorem dX8_floodWeight_32 : decode cX8_floodWeight 32 = .ok (.iinc 4 1, 3) := by decide +kernel
theorem dX8_floodWeight_35 : decode cX8_floodWeight 35 = .ok (.goto (-30), 3) := by decide +kernel
theorem dX8_floodWeight_38 : decode cX8_floodWeight 38 = .ok (.iload_n 3, 1) := by decide +kernel
theorem dX8_floodWeight_39 : decode cX8_floodWeight 39 = .ok (.ireturn, 1) := by decide +kernel
theorem dX8_commonDivisor_0 : decode cX8_commonDivisor 0 = .ok (.iload_n 0, 1) := by decide +kernel
theorem dX8_commonDivisor_1 : decode cX8_commonDivisor 1 = .ok (.istore_n 2, 1) := by decide +kernel
theorem dX8_commonDivisor_2 : decode cX8_commonDivisor 2 = .ok (.iload_n 1, 1) := by decide +kernel
theorem dX8_commonDivisor_3 : decode cX8_commonDivisor 3 = .ok (.istore_n 3, 1) := by decide +kernel
theorem dX8_commonDivisor_4 : decode cX8_commonDivisor 4 = .ok (.iconst 0, 1) := by decide +kernel
theorem dX8_commonDivisor_5 : decode cX8_commonDivisor 5 = .ok (.istore 4, 2) := by decide +kernel
theorem dX8_commonDivisor_7 : decode cX8_commonDivisor 7 = .ok (.iload 4, 2) := by decide +kernel
theorem dX8_commonDivisor_9 : decode cX8_commonDivisor 9 = .ok (.bipush 100, 2) := by decide +kernel
theorem dX8_commonDivisor_11 : decode cX8_commonDivisor 11 = .ok (.if_icmp .ge 23, 3) := by decide +kernel
theorem dX8_commonDivisor_14 : decode cX8_commonDivisor 14 = .ok (.iload_n 3, 1) := by decide +kernel
theorem dX8_commonDivisor_15 : decode cX8_commonDivisor 15 = .ok (.ifCond .eq 19, 3) := by decide +kernel
theorem dX8_commonDivisor_18 : decode cX8_commonDivisor 18 = .ok (.iload_n 2, 1) := by decide +kernel
theorem dX8_commonDivisor_19 : decode cX8_commonDivisor 19 = .ok (.iload_n 3, 1) := by decide +kernel
theorem dX8_commonDivisor_20 : decode cX8_commonDivisor 20 = .ok (.irem, 1) := by decide +kernel
theorem dX8_commonDivisor_21 : decode cX8_commonDivisor 21 = .ok (.istore 5, 2) := by decide +kernel
theorem dX8_commonDivisor_23 : decode cX8_commonDivisor 23 = .ok (.iload_n 3, 1) := by decide +kernel
theorem dX8_commonDivisor_24 : decode cX8_commonDivisor 24 = .ok (.istore_n 2, 1) := by decide +kernel
theorem dX8_commonDivisor_25 : decode cX8_commonDivisor 25 = .ok (.iload 5, 2) := by decide +kernel
theorem dX8_commonDivisor_27 : decode cX8_commonDivisor 27 = .ok (.istore_n 3, 1) := by decide +kernel
theorem dX8_commonDivisor_28 : decode cX8_commonDivisor 28 = .ok (.iinc 4 1, 3) := by decide +kernel
theorem dX8_commonDivisor_31 : decode cX8_commonDivisor 31 = .ok (.goto (-24), 3) := by decide +kernel
theorem dX8_commonDivisor_34 : decode cX8_commonDivisor 34 = .ok (.iload_n 2, 1) := by decide +kernel
theorem dX8_commonDivisor_35 : decode cX8_commonDivisor 35 = .ok (.ireturn, 1) := by decide +kernel
theorem dX8_drawnStart_0 : decode cX8_drawnStart 0 = .ok (.ldc2_w 238, 3) := by decide +kernel
theorem dX8_drawnStart_3 : decode cX8_drawnStart 3 = .ok (.iload_n 0, 1) := by decide +kernel
theorem dX8_drawnStart_4 : decode cX8_drawnStart 4 = .ok (.i2l, 1) := by decide +kernel
theorem dX8_drawnStart_5 : decode cX8_drawnStart 5 = .ok (.lmul, 1) := by decide +kernel
theorem dX8_drawnStart_6 : decode cX8_drawnStart 6 = .ok (.ldc2_w 240, 3) := by decide +kernel
theorem dX8_drawnStart_9 : decode cX8_drawnStart 9 = .ok (.iload_n 1, 1) := by decide +kernel
theorem dX8_drawnStart_10 : decode cX8_drawnStart 10 = .ok (.i2l, 1) := by decide +kernel
theorem dX8_drawnStart_11 : decode cX8_drawnStart 11 = .ok (.lmul, 1) := by decide +kernel
theorem dX8_drawnStart_12 : decode cX8_drawnStart 12 = .ok (.ladd, 1) := by decide +kernel
theorem dX8_drawnStart_13 : decode cX8_drawnStart 13 = .ok (.lconst 1, 1) := by decide +kernel
theorem dX8_drawnStart_14 : decode cX8_drawnStart 14 = .ok (.ladd, 1) := by decide +kernel
theorem dX8_drawnStart_15 : decode cX8_drawnStart 15 = .ok (.lstore_n 2, 1) := by decide +kernel
theorem dX8_drawnStart_16 : decode cX8_drawnStart 16 = .ok (.lload_n 2, 1) := by decide +kernel
theorem dX8_drawnStart_17 : decode cX8_drawnStart 17 = .ok (.lload_n 2, 1) := by decide +kernel
theorem dX8_drawnStart_18 : decode cX8_drawnStart 18 = .ok (.lmul, 1) := by decide +kernel
theorem dX8_drawnStart_19 : decode cX8_drawnStart 19 = .ok (.ldc2_w 242, 3) := by decide +kernel
theorem dX8_drawnStart_22 : decode cX8_drawnStart 22 = .ok (.lrem, 1) := by decide +kernel
theorem dX8_drawnStart_23 : decode cX8_drawnStart 23 = .ok (.ldc2_w 244, 3) := by decide +kernel
theorem dX8_drawnStart_26 : decode cX8_drawnStart 26 = .ok (.ldiv, 1) := by decide +kernel
theorem dX8_drawnStart_27 : decode cX8_drawnStart 27 = .ok (.lstore 4, 2) := by decide +kernel
theorem dX8_drawnStart_29 : decode cX8_drawnStart 29 = .ok (.lload 4, 2) := by decide +kernel
theorem dX8_drawnStart_31 : decode cX8_drawnStart 31 = .ok (.ldc2_w 246, 3) := by decide +kernel
theorem dX8_drawnStart_34 : decode cX8_drawnStart 34 = .ok (.lrem, 1) := by decide +kernel
theorem dX8_drawnStart_35 : decode cX8_drawnStart 35 = .ok (.l2i, 1) := by decide +kernel
theorem dX8_drawnStart_36 : decode cX8_drawnStart 36 = .ok (.ireturn, 1) := by decide +kernel
theorem dX9_init_0 : decode cX9_init 0 = .ok (.aload_n 0, 1) := by decide +kernel
theorem dX9_init_1 : decode cX9_init 1 = .ok (.invokespecial 1, 3) := by decide +kernel
theorem dX9_init_4 : decode cX9_init 4 = .ok (.aload_n 0, 1) := by decide +kernel
theorem dX9_init_5 : decode cX9_init 5 = .ok (.sipush 200, 3) := by decide +kernel
theorem dX9_init_8 : decode cX9_init 8 = .ok (.newarray .int, 2) := by decide +kernel
theorem dX9_init_10 : decode cX9_init 10 = .ok (.putfield 7, 3) := by decide +kernel
theorem dX9_init_13 : decode cX9_init 13 = .ok (.aload_n 0, 1) := by decide +kernel
theorem dX9_init_14 : decode cX9_init 14 = .ok (.bipush 25, 2) := by decide +kernel
theorem dX9_init_16 : decode cX9_init 16 = .ok (.newarray .int, 2) := by decide +kernel
theorem dX9_init_18 : decode cX9_init 18 = .ok (.putfield 13, 3) := by decide +kernel
theorem dX9_init_21 : decode cX9_init 21 = .ok (.aload_n 0, 1) := by decide +kernel
theorem dX9_init_22 : decode cX9_init 22 = .ok (.bipush 25, 2) := by decide +kernel
theorem dX9_init_24 : decode cX9_init 24 = .ok (.newarray .int, 2) := by decide +kernel
theorem dX9_init_26 : decode cX9_init 26 = .ok (.putfield 16, 3) := by decide +kernel
theorem dX9_init_29 : decode cX9_init 29 = .ok (.aload_n 0, 1) := by decide +kernel
theorem dX9_init_30 : decode cX9_init 30 = .ok (.bipush 7, 2) := by decide +kernel
theorem dX9_init_32 : decode cX9_init 32 = .ok (.newarray .int, 2) := by decide +kernel
theorem dX9_init_34 : decode cX9_init 34 = .ok (.putfield 19, 3) := by decide +kernel
theorem dX9_init_37 : decode cX9_init 37 = .ok (.aload_n 0, 1) := by decide +kernel
theorem dX9_init_38 : decode cX9_init 38 = .ok (.bipush 7, 2) := by decide +kernel
theorem dX9_init_40 : decode cX9_init 40 = .ok (.newarray .int, 2) := by decide +kernel
theorem dX9_init_42 : decode cX9_init 42 = .ok (.putfield 22, 3) := by decide +kernel
theorem dX9_init_45 : decode cX9_init 45 = .ok (.aload_n 0, 1) := by decide +kernel
theorem dX9_init_46 : decode cX9_init 46 = .ok (.bipush 56, 2) := by decide +kernel
theorem dX9_init_48 : decode cX9_init 48 = .ok (.newarray .int, 2) := by decide +kernel
theorem dX9_init_50 : decode cX9_init 50 = .ok (.putfield 25, 3) := by decide +kernel
theorem dX9_init_53 : decode cX9_init 53 = .ok (.aload_n 0, 1) := by decide +kernel
theorem dX9_init_54 : decode cX9_init 54 = .ok (.bipush 14, 2) := by decide +kernel
theorem dX9_init_56 : decode cX9_init 56 = .ok (.newarray .int, 2) := by decide +kernel
theorem dX9_init_58 : decode cX9_init 58 = .ok (.putfield 28, 3) := by decide +kernel
theorem dX9_init_61 : decode cX9_init 61 = .ok (.aload_n 0, 1) := by decide +kernel
theorem dX9_init_62 : decode cX9_init 62 = .ok (.bipush 6, 2) := by decide +kernel
theorem dX9_init_64 : decode cX9_init 64 = .ok (.newarray .int, 2) := by decide +kernel
theorem dX9_init_66 : decode cX9_init 66 = .ok (.putfield 31, 3) := by decide +kernel
theorem dX9_init_69 : decode cX9_init 69 = .ok (.aload_n 0, 1) := by decide +kernel
theorem dX9_init_70 : decode cX9_init 70 = .ok (.sipush 305, 3) := by decide +kernel
theorem dX9_init_73 : decode cX9_init 73 = .ok (.newarray .int, 2) := by decide +kernel
theorem dX9_init_75 : decode cX9_init 75 = .ok (.putfield 34, 3) := by decide +kernel
theorem dX9_init_78 : decode cX9_init 78 = .ok (.aload_n 0, 1) := by decide +kernel
theorem dX9_init_79 : decode cX9_init 79 = .ok (.sipush 305, 3) := by decide +kernel
theorem dX9_init_82 : decode cX9_init 82 = .ok (.newarray .int, 2) := by decide +kernel
theorem dX9_init_84 : decode cX9_init 84 = .ok (.putfield 37, 3) := by decide +kernel
theorem dX9_init_87 : decode cX9_init 87 = .ok (.aload_n 0, 1) := by decide +kernel
theorem dX9_init_88 : decode cX9_init 88 = .ok (.sipush 305, 3) := by decide +kernel
theorem dX9_init_91 : decode cX9_init 91 = .ok (.newarray .int, 2) := by decide +kernel
theorem dX9_init_93 : decode cX9_init 93 = .ok (.putfield 40, 3) := by decide +kernel
theorem dX9_init_96 : decode cX9_init 96 = .ok (.aload_n 0, 1) := by decide +kernel
theorem dX9_init_97 : decode cX9_init 97 = .ok (.iconst 5, 1) := by decide +kernel
theorem dX9_init_98 : decode cX9_init 98 = .ok (.newarray .int, 2) := by decide +kernel
theorem dX9_init_100 : decode cX9_init 100 = .ok (.putfield 43, 3) := by decide +kernel
theorem dX9_init_103 : decode cX9_init 103 = .ok (.aload_n 0, 1) := by decide +kernel
theorem dX9_init_104 : decode cX9_init 104 = .ok (.iconst (-1), 1) := by decide +kernel
theorem dX9_init_105 : decode cX9_init 105 = .ok (.putfield 46, 3) := by decide +kernel
theorem dX9_init_108 : decode cX9_init 108 = .ok (.aload_n 0, 1) := by decide +kernel
theorem dX9_init_109 : decode cX9_init 109 = .ok (.iconst 5, 1) := by decide +kernel
theorem dX9_init_110 : decode cX9_init 110 = .ok (.newarray .int, 2) := by decide +kernel
theorem dX9_init_112 : decode cX9_init 112 = .ok (.putfield 50, 3) := by decide +kernel
theorem dX9_init_115 : decode cX9_init 115 = .ok (.aload_n 0, 1) := by decide +kernel
theorem dX9_init_116 : decode cX9_init 116 = .ok (.iconst 5, 1) := by decide +kernel
theorem dX9_init_117 : decode cX9_init 117 = .ok (.newarray .int, 2) := by decide +kernel
theorem dX9_init_119 : decode cX9_init 119 = .ok (.putfield 53, 3) := by decide +kernel
theorem dX9_init_122 : decode cX9_init 122 = .ok (.aload_n 0, 1) := by decide +kernel
theorem dX9_init_123 : decode cX9_init 123 = .ok (.iconst 5, 1) := by decide +kernel
theorem dX9_init_124 : decode cX9_init 124 = .ok (.newarray .int, 2) := by decide +kernel
theorem dX9_init_126 : decode cX9_init 126 = .ok (.putfield 56, 3) := by decide +kernel
theorem dX9_init_129 : decode cX9_init 129 = .ok (.aload_n 0, 1) := by decide +kernel
theorem dX9_init_130 : decode cX9_init 130 = .ok (.invokevirtual 59, 3) := by decide +kernel
theorem dX9_init_133 : decode cX9_init 133 = .ok (.aload_n 0, 1) := by decide +kernel
theorem dX9_init_134 : decode cX9_init 134 = .ok (.iconst 3, 1) := by decide +kernel
theorem dX9_init_135 : decode cX9_init 135 = .ok (.invokevirtual 62, 3) := by decide +kernel
theorem dX9_init_138 : decode cX9_init 138 = .ok (.aload_n 0, 1) := by decide +kernel
theorem dX9_init_139 : decode cX9_init 139 = .ok (.bipush 7, 2) := by decide +kernel
theorem dX9_init_141 : decode cX9_init 141 = .ok (.invokevirtual 62, 3) := by decide +kernel
theorem dX9_init_144 : decode cX9_init 144 = .ok (.aload_n 0, 1) := by decide +kernel
theorem dX9_init_145 : decode cX9_init 145 = .ok (.bipush 10, 2) := by decide +kernel
theorem dX9_init_147 : decode cX9_init 147 = .ok (.invokevirtual 62, 3) := by decide +kernel
theorem dX9_init_150 : decode cX9_init 150 = .ok (.aload_n 0, 1) := by decide +kernel
theorem dX9_init_151 : decode cX9_init 151 = .ok (.getfield 19, 3) := by decide +kernel
theorem dX9_init_154 : decode cX9_init 154 = .ok (.bipush 6, 2) := by decide +kernel
theorem dX9_init_156 : decode cX9_init 156 = .ok (.sipush 2112, 3) := by decide +kernel
theorem dX9_init_159 : decode cX9_init 159 = .ok (.iastore, 1) := by decide +kernel
theorem dX9_init_160 : decode cX9_init 160 = .ok (.aload_n 0, 1) := by decide +kernel
theorem dX9_init_161 : decode cX9_init 161 = .ok (.iconst 0, 1) := by decide +kernel
theorem dX9_init_162 : decode cX9_init 162 = .ok (.iconst 0, 1) := by decide +kernel
theorem dX9_init_163 : decode cX9_init 163 = .ok (.iconst 0, 1) := by decide +kernel
theorem dX9_init_164 : decode cX9_init 164 = .ok (.iconst 0, 1) := by decide +kernel
theorem dX9_init_165 : decode cX9_init 165 = .ok (.invokevirtual 66, 3) := by decide +kernel
theorem dX9_init_168 : decode cX9_init 168 = .ok (.aload_n 0, 1) := by decide +kernel
theorem dX9_init_169 : decode cX9_init 169 = .ok (.iconst 2, 1) := by decide +kernel
theorem dX9_init_170 : decode cX9_init 170 = .ok (.iconst 5, 1) := by decide +kernel
theorem dX9_init_171 : decode cX9_init 171 = .ok (.iconst 1, 1) := by decide +kernel
theorem dX9_init_172 : decode cX9_init 172 = .ok (.iconst 0, 1) := by decide +kernel
theorem dX9_init_173 : decode cX9_init 173 = .ok (.invokevirtual 66, 3) := by decide +kernel
theorem dX9_init_176 : decode cX9_init 176 = .ok (.aload_n 0, 1) := by decide +kernel
theorem dX9_init_177 : decode cX9_init 177 = .ok (.iconst 4, 1) := by decide +kernel
theorem dX9_init_178 : decode cX9_init 178 = .ok (.bipush 9, 2) := by decide +kernel
theorem dX9_init_180 : decode cX9_init 180 = .ok (.iconst 0, 1) := by decide +kernel
theorem dX9_init_181 : decode cX9_init 181 = .ok (.iconst 3, 1) := by decide +kernel
theorem dX9_init_182 : decode cX9_init 182 = .ok (.invokevirtual 66, 3) := by decide +kernel
theorem dX9_init_185 : decode cX9_init 185 = .ok (.aload_n 0, 1) := by decide +kernel
theorem dX9_init_186 : decode cX9_init 186 = .ok (.iconst 3, 1) := by decide +kernel
theorem dX9_init_187 : decode cX9_init 187 = .ok (.iconst 2, 1) := by decide +kernel
theorem dX9_init_188 : decode cX9_init 188 = .ok (.iconst 1, 1) := by decide +kernel
theorem dX9_init_189 : decode cX9_init 189 = .ok (.iconst 1, 1) := by decide +kernel
theorem dX9_init_190 : decode cX9_init 190 = .ok (.invokevirtual 66, 3) := by decide +kernel
theorem dX9_init_193 : decode cX9_init 193 = .ok (.aload_n 0, 1) := by decide +kernel
theorem dX9_init_194 : decode cX9_init 194 = .ok (.getfield 16, 3) := by decide +kernel
theorem dX9_init_197 : decode cX9_init 197 = .ok (.iconst 3, 1) := by decide +kernel
theorem dX9_init_198 : decode cX9_init 198 = .ok (.bipush 48, 2) := by decide +kernel
theorem dX9_init_200 : decode cX9_init 200 = .ok (.iastore, 1) := by decide +kernel
theorem dX9_init_201 : decode cX9_init 201 = .ok (.aload_n 0, 1) := by decide +kernel
theorem dX9_init_202 : decode cX9_init 202 = .ok (.invokevirtual 70, 3) := by decide +kernel
theorem dX9_init_205 : decode cX9_init 205 = .ok (.return_, 1) := by decide +kernel
theorem dX9_in_0 : decode cX9_in 0 = .ok (.iload_n 0, 1) := by decide +kernel
theorem dX9_in_1 : decode cX9_in 1 = .ok (.iload_n 1, 1) := by decide +kernel
theorem dX9_in_2 : decode cX9_in 2 = .ok (.if_icmp .lt 12, 3) := by decide +kernel
theorem dX9_in_5 : decode cX9_in 5 = .ok (.iload_n 0, 1) := by decide +kernel
theorem dX9_in_6 : decode cX9_in 6 = .ok (.iload_n 2, 1) := by decide +kernel
theorem dX9_in_7 : decode cX9_in 7 = .ok (.if_icmp .gt 7, 3) := by decide +kernel
theorem dX9_in_10 : decode cX9_in 10 = .ok (.iconst 1, 1) := by decide +kernel
theorem dX9_in_11 : decode cX9_in 11 = .ok (.goto 4, 3) := by decide +kernel
theorem dX9_in_14 : decode cX9_in 14 = .ok (.iconst 0, 1) := by decide +kernel
theorem dX9_in_15 : decode cX9_in 15 = .ok (.ireturn, 1) := by decide +kernel
theorem dX9_isTrain_0 : decode cX9_isTrain 0 = .ok (.iload_n 1, 1) := by decide +kernel
theorem dX9_isTrain_1 : decode cX9_isTrain 1 = .ok (.iconst 0, 1) := by decide +kernel
theorem dX9_isTrain_2 : decode cX9_isTrain 2 = .ok (.aload_n 0, 1) := by decide +kernel
theorem dX9_isTrain_3 : decode cX9_isTrain 3 = .ok (.getfield 13, 3) := by decide +kernel
theorem dX9_isTrain_6 : decode cX9_isTrain 6 = .ok (.iconst 1, 1) := by decide +kernel
theorem dX9_isTrain_7 : decode cX9_isTrain 7 = .ok (.iaload, 1) := by decide +kernel
theorem dX9_isTrain_8 : decode cX9_isTrain 8 = .ok (.iconst 1, 1) := by decide +kernel
theorem dX9_isTrain_9 : decode cX9_isTrain 9 = .ok (.isub, 1) := by decide +kernel
theorem dX9_isTrain_10 : decode cX9_isTrain 10 = .ok (.invokestatic 73, 3) := by decide +kernel
theorem dX9_isTrain_13 : decode cX9_isTrain 13 = .ok (.ireturn, 1) := by decide +kernel
theorem dX9_isPlatform_0 : decode cX9_isPlatform 0 = .ok (.iload_n 1, 1) := by decide +kernel
theorem dX9_isPlatform_1 : decode cX9_isPlatform 1 = .ok (.iconst 0, 1) := by decide +kernel
theorem dX9_isPlatform_2 : decode cX9_isPlatform 2 = .ok (.aload_n 0, 1) := by decide +kernel
theorem dX9_isPlatform_3 : decode cX9_isPlatform 3 = .ok (.getfield 13, 3) := by decide +kernel
theorem dX9_isPlatform_6 : decode cX9_isPlatform 6 = .ok (.iconst 2, 1) := by decide +kernel
theorem dX9_isPlatform_7 : decode cX9_isPlatform 7 = .ok (.iaload, 1) := by decide +kernel
theorem dX9_isPlatform_8 : decode cX9_isPlatform 8 = .ok (.iconst 1, 1) := by decide +kernel
theorem dX9_isPlatform_9 : decode cX9_isPlatform 9 = .ok (.isub, 1) := by decide +kernel
theorem dX9_isPlatform_10 : decode cX9_isPlatform 10 = .ok (.invokestatic 73, 3) := by decide +kernel
theorem dX9_isPlatform_13 : decode cX9_isPlatform 13 = .ok (.ireturn, 1) := by decide +kernel
theorem dX9_isCell_0 : decode cX9_isCell 0 = .ok (.iload_n 1, 1) := by decide +kernel
theorem dX9_isCell_1 : decode cX9_isCell 1 = .ok (.iconst 0, 1) := by decide +kernel
theorem dX9_isCell_2 : decode cX9_isCell 2 = .ok (.aload_n 0, 1) := by decide +kernel
theorem dX9_isCell_3 : decode cX9_isCell 3 = .ok (.getfield 13, 3) := by decide +kernel
theorem dX9_isCell_6 : decode cX9_isCell 6 = .ok (.iconst 0, 1) := by decide +kernel
theorem dX9_isCell_7 : decode cX9_isCell 7 = .ok (.iaload, 1) := by decide +kernel
theorem dX9_isCell_8 : decode cX9_isCell 8 = .ok (.iconst 1, 1) := by decide +kernel
theorem dX9_isCell_9 : decode cX9_isCell 9 = .ok (.isub, 1) := by decide +kernel
theorem dX9_isCell_10 : decode cX9_isCell 10 = .ok (.invokestatic 73, 3) := by decide +kernel
theorem dX9_isCell_13 : decode cX9_isCell 13 = .ok (.ireturn, 1) := by decide +kernel
theorem dX9_ones_0 : decode cX9_ones 0 = .ok (.iconst 0, 1) := by decide +kernel
theorem dX9_ones_1 : decode cX9_ones 1 = .ok (.istore_n 1, 1) := by decide +kernel
theorem dX9_ones_2 : decode cX9_ones 2 = .ok (.iconst 0, 1) := by decide +kernel
theorem dX9_ones_3 : decode cX9_ones 3 = .ok (.istore_n 2, 1) := by decide +kernel
theorem dX9_ones_4 : decode cX9_ones 4 = .ok (.iload_n 2, 1) := by decide +kernel
theorem dX9_ones_5 : decode cX9_ones 5 = .ok (.bipush 24, 2) := by decide +kernel
theorem dX9_ones_7 : decode cX9_ones 7 = .ok (.if_icmp .ge 17, 3) := by decide +kernel
theorem dX9_ones_10 : decode cX9_ones 10 = .ok (.iload_n 1, 1) := by decide +kernel
theorem dX9_ones_11 : decode cX9_ones 11 = .ok (.iload_n 0, 1) := by decide +kernel
theorem dX9_ones_12 : decode cX9_ones 12 = .ok (.iload_n 2, 1) := by decide +kernel
theorem dX9_ones_13 : decode cX9_ones 13 = .ok (.ishr, 1) := by decide +kernel
theorem dX9_ones_14 : decode cX9_ones 14 = .ok (.iconst 1, 1) := by decide +kernel
theorem dX9_ones_15 : decode cX9_ones 15 = .ok (.iand, 1) := by decide +kernel
theorem dX9_ones_16 : decode cX9_ones 16 = .ok (.iadd, 1) := by decide +kernel
theorem dX9_ones_17 : decode cX9_ones 17 = .ok (.istore_n 1, 1) := by decide +kernel
theorem dX9_ones_18 : decode cX9_ones 18 = .ok (.iinc 2 1, 3) := by decide +kernel
theorem dX9_ones_21 : decode cX9_ones 21 = .ok (.goto (-17), 3) := by decide +kernel
theorem dX9_ones_24 : decode cX9_ones 24 = .ok (.iload_n 1, 1) := by decide +kernel
theorem dX9_ones_25 : decode cX9_ones 25 = .ok (.ireturn, 1) := by decide +kernel
theorem dX9_write_0 : decode cX9_write 0 = .ok (.iload_n 1, 1) := by decide +kernel
theorem dX9_write_1 : decode cX9_write 1 = .ok (.bipush 32, 2) := by decide +kernel
theorem dX9_write_3 : decode cX9_write 3 = .ok (.bipush 126, 2) := by decide +kernel
theorem dX9_write_5 : decode cX9_write 5 = .ok (.invokestatic 73, 3) := by decide +kernel
theorem dX9_write_8 : decode cX9_write 8 = .ok (.ifCond .ne 5, 3) := by decide +kernel
theorem dX9_write_11 : decode cX9_write 11 = .ok (.iconst (-1), 1) := by decide +kernel
theorem dX9_write_12 : decode cX9_write 12 = .ok (.ireturn, 1) := by decide +kernel
theorem dX9_write_13 : decode cX9_write 13 = .ok (.aload_n 0, 1) := by decide +kernel
theorem dX9_write_14 : decode cX9_write 14 = .ok (.getfield 77, 3) := by decide +kernel
theorem dX9_write_17 : decode cX9_write 17 = .ok (.sipush 200, 3) := by decide +kernel
theorem dX9_write_20 : decode cX9_write 20 = .ok (.if_icmp .ne 6, 3) := by decide +kernel
theorem dX9_write_23 : decode cX9_write 23 = .ok (.bipush (-3), 2) := by decide +kernel
theorem dX9_write_25 : decode cX9_write 25 = .ok (.ireturn, 1) := by decide +kernel
theorem dX9_write_26 : decode cX9_write 26 = .ok (.aload_n 0, 1) := by decide +kernel
theorem dX9_write_27 : decode cX9_write 27 = .ok (.getfield 7, 3) := by decide +kernel
theorem dX9_write_30 : decode cX9_write 30 = .ok (.aload_n 0, 1) := by decide +kernel
theorem dX9_write_31 : decode cX9_write 31 = .ok (.getfield 77, 3) := by decide +kernel
theorem dX9_write_34 : decode cX9_write 34 = .ok (.iload_n 1, 1) := by decide +kernel
theorem dX9_write_35 : decode cX9_write 35 = .ok (.iastore, 1) := by decide +kernel
theorem dX9_write_36 : decode cX9_write 36 = .ok (.aload_n 0, 1) := by decide +kernel
theorem dX9_write_37 : decode cX9_write 37 = .ok (.dup, 1) := by decide +kernel
theorem dX9_write_38 : decode cX9_write 38 = .ok (.getfield 77, 3) := by decide +kernel
theorem dX9_write_41 : decode cX9_write 41 = .ok (.iconst 1, 1) := by decide +kernel
theorem dX9_write_42 : decode cX9_write 42 = .ok (.iadd, 1) := by decide +kernel
theorem dX9_write_43 : decode cX9_write 43 = .ok (.putfield 77, 3) := by decide +kernel
theorem dX9_write_46 : decode cX9_write 46 = .ok (.aload_n 0, 1) := by decide +kernel
theorem dX9_write_47 : decode cX9_write 47 = .ok (.getfield 77, 3) := by decide +kernel
theorem dX9_write_50 : decode cX9_write 50 = .ok (.ireturn, 1) := by decide +kernel
theorem dX9_wipe_0 : decode cX9_wipe 0 = .ok (.aload_n 0, 1) := by decide +kernel
theorem dX9_wipe_1 : decode cX9_wipe 1 = .ok (.getfield 77, 3) := by decide +kernel
theorem dX9_wipe_4 : decode cX9_wipe 4 = .ok (.istore_n 1, 1) := by decide +kernel
theorem dX9_wipe_5 : decode cX9_wipe 5 = .ok (.aload_n 0, 1) := by decide +kernel
theorem dX9_wipe_6 : decode cX9_wipe 6 = .ok (.iconst 0, 1) := by decide +kernel
theorem dX9_wipe_7 : decode cX9_wipe 7 = .ok (.putfield 77, 3) := by decide +kernel
theorem dX9_wipe_10 : decode cX9_wipe 10 = .ok (.iload_n 1, 1) := by decide +kernel
theorem dX9_wipe_11 : decode cX9_wipe 11 = .ok (.ireturn, 1) := by decide +kernel
theorem dX9_letterAt_0 : decode cX9_letterAt 0 = .ok (.iload_n 1, 1) := by decide +kernel
theorem dX9_letterAt_1 : decode cX9_letterAt 1 = .ok (.aload_n 0, 1) := by decide +kernel
theorem dX9_letterAt_2 : decode cX9_letterAt 2 = .ok (.getfield 77, 3) := by decide +kernel
theorem dX9_letterAt_5 : decode cX9_letterAt 5 = .ok (.if_icmp .ge 12, 3) := by decide +kernel
theorem dX9_letterAt_8 : decode cX9_letterAt 8 = .ok (.aload_n 0, 1) := by decide +kernel
theorem dX9_letterAt_9 : decode cX9_letterAt 9 = .ok (.getfield 7, 3) := by decide +kernel
theorem dX9_letterAt_12 : decode cX9_letterAt 12 = .ok (.iload_n 1, 1) := by decide +kernel
theorem dX9_letterAt_13 : decode cX9_letterAt 13 = .ok (.iaload, 1) := by decide +kernel
theorem dX9_letterAt_14 : decode cX9_letterAt 14 = .ok (.goto 4, 3) := by decide +kernel
theorem dX9_letterAt_17 : decode cX9_letterAt 17 = .ok (.iconst (-1), 1) := by decide +kernel
theorem dX9_letterAt_18 : decode cX9_letterAt 18 = .ok (.ireturn, 1) := by decide +kernel
theorem dX9_isFigure_0 : decode cX9_isFigure 0 = .ok (.iload_n 0, 1) := by decide +kernel
theorem dX9_isFigure_1 : decode cX9_isFigure 1 = .ok (.bipush 48, 2) := by decide +kernel
theorem dX9_isFigure_3 : decode cX9_isFigure 3 = .ok (.bipush 57, 2) := by decide +kernel
theorem dX9_isFigure_5 : decode cX9_isFigure 5 = .ok (.invokestatic 73, 3) := by decide +kernel
theorem dX9_isFigure_8 : decode cX9_isFigure 8 = .ok (.ireturn, 1) := by decide +kernel
theorem dX9_number_0 : decode cX9_number 0 = .ok (.aload_n 0, 1) := by decide +kernel
theorem dX9_number_1 : decode cX9_number 1 = .ok (.aload_n 0, 1) := by decide +kernel
theorem dX9_number_2 : decode cX9_number 2 = .ok (.getfield 80, 3) := by decide +kernel
theorem dX9_number_5 : decode cX9_number 5 = .ok (.invokevirtual 83, 3) := by decide +kernel
theorem dX9_number_8 : decode cX9_number 8 = .ok (.invokestatic 87, 3) := by decide +kernel
theorem dX9_number_11 : decode cX9_number 11 = .ok (.ifCond .ne 5, 3) := by decide +kernel
theorem dX9_number_14 : decode cX9_number 14 = .ok (.iconst (-1), 1) := by decide +kernel
theorem dX9_number_15 : decode cX9_number 15 = .ok (.ireturn, 1) := by decide +kernel
theorem dX9_number_16 : decode cX9_number 16 = .ok (.aload_n 0, 1) := by decide +kernel
theorem dX9_number_17 : decode cX9_number 17 = .ok (.aload_n 0, 1) := by decide +kernel
theorem dX9_number_18 : decode cX9_number 18 = .ok (.getfield 80, 3) := by decide +kernel
theorem dX9_number_21 : decode cX9_number 21 = .ok (.invokevirtual 83, 3) := by decide +kernel
theorem dX9_number_24 : decode cX9_number 24 = .ok (.bipush 48, 2) := by decide +kernel
theorem dX9_number_26 : decode cX9_number 26 = .ok (.isub, 1) := by decide +kernel
theorem dX9_number_27 : decode cX9_number 27 = .ok (.istore 4, 2) := by decide +kernel
theorem dX9_number_29 : decode cX9_number 29 = .ok (.aload_n 0, 1) := by decide +kernel
theorem dX9_number_30 : decode cX9_number 30 = .ok (.dup, 1) := by decide +kernel
theorem dX9_number_31 : decode cX9_number 31 = .ok (.getfield 80, 3) := by decide +kernel
theorem dX9_number_34 : decode cX9_number 34 = .ok (.iconst 1, 1) := by decide +kernel
theorem dX9_number_35 : decode cX9_number 35 = .ok (.iadd, 1) := by decide +kernel
theorem dX9_number_36 : decode cX9_number 36 = .ok (.putfield 80, 3) := by decide +kernel
theorem dX9_number_39 : decode cX9_number 39 = .ok (.aload_n 0, 1) := by decide +kernel
theorem dX9_number_40 : decode cX9_number 40 = .ok (.aload_n 0, 1) := by decide +kernel
theorem dX9_number_41 : decode cX9_number 41 = .ok (.getfield 80, 3) := by decide +kernel
theorem dX9_number_44 : decode cX9_number 44 = .ok (.invokevirtual 83, 3) := by decide +kernel
theorem dX9_number_47 : decode cX9_number 47 = .ok (.invokestatic 87, 3) := by decide +kernel
theorem dX9_number_50 : decode cX9_number 50 = .ok (.ifCond .eq 32, 3) := by decide +kernel
theorem dX9_number_53 : decode cX9_number 53 = .ok (.bipush 10, 2) := by decide +kernel
theorem dX9_number_55 : decode cX9_number 55 = .ok (.iload 4, 2) := by decide +kernel
theorem dX9_number_57 : decode cX9_number 57 = .ok (.imul, 1) := by decide +kernel
theorem dX9_number_58 : decode cX9_number 58 = .ok (.aload_n 0, 1) := by decide +kernel
theorem dX9_number_59 : decode cX9_number 59 = .ok (.aload_n 0, 1) := by decide +kernel
theorem dX9_number_60 : decode cX9_number 60 = .ok (.getfield 80, 3) := by decide +kernel
theorem dX9_number_63 : decode cX9_number 63 = .ok (.invokevirtual 83, 3) := by decide +kernel
theorem dX9_number_66 : decode cX9_number 66 = .ok (.iadd, 1) := by decide +kernel
theorem dX9_number_67 : decode cX9_number 67 = .ok (.bipush 48, 2) := by decide +kernel
theorem dX9_number_69 : decode cX9_number 69 = .ok (.isub, 1) := by decide +kernel
theorem dX9_number_70 : decode cX9_number 70 = .ok (.istore 4, 2) := by decide +kernel
theorem dX9_number_72 : decode cX9_number 72 = .ok (.aload_n 0, 1) := by decide +kernel
theorem dX9_number_73 : decode cX9_number 73 = .ok (.dup, 1) := by decide +kernel
theorem dX9_number_74 : decode cX9_number 74 = .ok (.getfield 80, 3) := by decide +kernel
theorem dX9_number_77 : decode cX9_number 77 = .ok (.iconst 1, 1) := by decide +kernel
theorem dX9_number_78 : decode cX9_number 78 = .ok (.iadd, 1) := by decide +kernel
theorem dX9_number_79 : decode cX9_number 79 = .ok (.putfield 80, 3) := by decide +kernel
theorem dX9_number_82 : decode cX9_number 82 = .ok (.aload_n 0, 1) := by decide +kernel
theorem dX9_number_83 : decode cX9_number 83 = .ok (.aload_n 0, 1) := by decide +kernel
theorem dX9_number_84 : decode cX9_number 84 = .ok (.getfield 80, 3) := by decide +kernel
theorem dX9_number_87 : decode cX9_number 87 = .ok (.invokevirtual 83, 3) := by decide +kernel
theorem dX9_number_90 : decode cX9_number 90 = .ok (.iload_n 3, 1) := by decide +kernel
theorem dX9_number_91 : decode cX9_number 91 = .ok (.if_icmp .ne 17, 3) := by decide +kernel
theorem dX9_number_94 : decode cX9_number 94 = .ok (.iload 4, 2) := by decide +kernel
theorem dX9_number_96 : decode cX9_number 96 = .ok (.iload_n 1, 1) := by decide +kernel
theorem dX9_number_97 : decode cX9_number 97 = .ok (.iload_n 2, 1) := by decide +kernel
theorem dX9_number_98 : decode cX9_number 98 = .ok (.invokestatic 73, 3) := by decide +kernel
theorem dX9_number_101 : decode cX9_number 101 = .ok (.ifCond .eq 7, 3) := by decide +kernel
theorem dX9_number_104 : decode cX9_number 104 = .ok (.iconst 1, 1) := by decide +kernel
theorem dX9_number_105 : decode cX9_number 105 = .ok (.goto 4, 3) := by decide +kernel
theorem dX9_number_108 : decode cX9_number 108 = .ok (.iconst 0, 1) := by decide +kernel
theorem dX9_number_109 : decode cX9_number 109 = .ok (.istore 5, 2) := by decide +kernel
theorem dX9_number_111 : decode cX9_number 111 = .ok (.aload_n 0, 1) := by decide +kernel
theorem dX9_number_112 : decode cX9_number 112 = .ok (.dup, 1) := by decide +kernel
theorem dX9_number_113 : decode cX9_number 113 = .ok (.getfield 80, 3) := by decide +kernel
theorem dX9_number_116 : decode cX9_number 116 = .ok (.iconst 1, 1) := by decide +kernel
theorem dX9_number_117 : decode cX9_number 117 = .ok (.iadd, 1) := by decide +kernel
theorem dX9_number_118 : decode cX9_number 118 = .ok (.putfield 80, 3) := by decide +kernel
theorem dX9_number_121 : decode cX9_number 121 = .ok (.iload 5, 2) := by decide +kernel
theorem dX9_number_123 : decode cX9_number 123 = .ok (.ifCond .eq 8, 3) := by decide +kernel
theorem dX9_number_126 : decode cX9_number 126 = .ok (.iload 4, 2) := by decide +kernel
theorem dX9_number_128 : decode cX9_number 128 = .ok (.goto 4, 3) := by decide +kernel
theorem dX9_number_131 : decode cX9_number 131 = .ok (.iconst (-1), 1) := by decide +kernel
theorem dX9_number_132 : decode cX9_number 132 = .ok (.ireturn, 1) := by decide +kernel
theorem dX9_begins_0 : decode cX9_begins 0 = .ok (.iconst 0, 1) := by decide +kernel
theorem dX9_begins_1 : decode cX9_begins 1 = .ok (.istore_n 1, 1) := by decide +kernel
theorem dX9_begins_2 : decode cX9_begins 2 = .ok (.iload_n 1, 1) := by decide +kernel
theorem dX9_begins_3 : decode cX9_begins 3 = .ok (.bipush 25, 2) := by decide +kernel
theorem dX9_begins_5 : decode cX9_begins 5 = .ok (.if_icmp .ge 16, 3) := by decide +kernel
theorem dX9_begins_8 : decode cX9_begins 8 = .ok (.aload_n 0, 1) := by decide +kernel
theorem dX9_begins_9 : decode cX9_begins 9 = .ok (.getfield 16, 3) := by decide +kernel
theorem dX9_begins_12 : decode cX9_begins 12 = .ok (.iload_n 1, 1) := by decide +kernel
theorem dX9_begins_13 : decode cX9_begins 13 = .ok (.iconst 0, 1) := by decide +kernel
theorem dX9_begins_14 : decode cX9_begins 14 = .ok (.iastore, 1) := by decide +kernel
theorem dX9_begins_15 : decode cX9_begins 15 = .ok (.iinc 1 1, 3) := by decide +kernel
theorem dX9_begins_18 : decode cX9_begins 18 = .ok (.goto (-16), 3) := by decide +kernel
theorem dX9_begins_21 : decode cX9_begins 21 = .ok (.aload_n 0, 1) := by decide +kernel
theorem dX9_begins_22 : decode cX9_begins 22 = .ok (.getfield 16, 3) := by decide +kernel
theorem dX9_begins_25 : decode cX9_begins 25 = .ok (.iconst 0, 1) := by decide +kernel
theorem dX9_begins_26 : decode cX9_begins 26 = .ok (.bipush 12, 2) := by decide +kernel
theorem dX9_begins_28 : decode cX9_begins 28 = .ok (.iastore, 1) := by decide +kernel
theorem dX9_begins_29 : decode cX9_begins 29 = .ok (.iconst 0, 1) := by decide +kernel
theorem dX9_begins_30 : decode cX9_begins 30 = .ok (.istore_n 1, 1) := by decide +kernel
theorem dX9_begins_31 : decode cX9_begins 31 = .ok (.iload_n 1, 1) := by decide +kernel
theorem dX9_begins_32 : decode cX9_begins 32 = .ok (.bipush 7, 2) := by decide +kernel
theorem dX9_begins_34 : decode cX9_begins 34 = .ok (.if_icmp .ge 16, 3) := by decide +kernel
theorem dX9_begins_37 : decode cX9_begins 37 = .ok (.aload_n 0, 1) := by decide +kernel
theorem dX9_begins_38 : decode cX9_begins 38 = .ok (.getfield 19, 3) := by decide +kernel
theorem dX9_begins_41 : decode cX9_begins 41 = .ok (.iload_n 1, 1) := by decide +kernel
theorem dX9_begins_42 : decode cX9_begins 42 = .ok (.iconst 0, 1) := by decide +kernel
theorem dX9_begins_43 : decode cX9_begins 43 = .ok (.iastore, 1) := by decide +kernel
theorem dX9_begins_44 : decode cX9_begins 44 = .ok (.iinc 1 1, 3) := by decide +kernel
theorem dX9_begins_47 : decode cX9_begins 47 = .ok (.goto (-16), 3) := by decide +kernel
theorem dX9_begins_50 : decode cX9_begins 50 = .ok (.return_, 1) := by decide +kernel
theorem dX9_trainOf_0 : decode cX9_trainOf 0 = .ok (.aload_n 0, 1) := by decide +kernel
theorem dX9_trainOf_1 : decode cX9_trainOf 1 = .ok (.getfield 16, 3) := by decide +kernel
theorem dX9_trainOf_4 : decode cX9_trainOf 4 = .ok (.iconst 5, 1) := by decide +kernel
theorem dX9_trainOf_5 : decode cX9_trainOf 5 = .ok (.aload_n 0, 1) := by decide +kernel
theorem dX9_trainOf_6 : decode cX9_trainOf 6 = .ok (.getfield 16, 3) := by decide +kernel
theorem dX9_trainOf_9 : decode cX9_trainOf 9 = .ok (.iconst 1, 1) := by decide +kernel
theorem dX9_trainOf_10 : decode cX9_trainOf 10 = .ok (.iaload, 1) := by decide +kernel
theorem dX9_trainOf_11 : decode cX9_trainOf 11 = .ok (.iadd, 1) := by decide +kernel
theorem dX9_trainOf_12 : decode cX9_trainOf 12 = .ok (.iload_n 1, 1) := by decide +kernel
theorem dX9_trainOf_13 : decode cX9_trainOf 13 = .ok (.iastore, 1) := by decide +kernel
theorem dX9_trainOf_14 : decode cX9_trainOf 14 = .ok (.aload_n 0, 1) := by decide +kernel
theorem dX9_trainOf_15 : decode cX9_trainOf 15 = .ok (.getfield 16, 3) := by decide +kernel
theorem dX9_trainOf_18 : decode cX9_trainOf 18 = .ok (.iconst 1, 1) := by decide +kernel
theorem dX9_trainOf_19 : decode cX9_trainOf 19 = .ok (.dup2, 1) := by decide +kernel
theorem dX9_trainOf_20 : decode cX9_trainOf 20 = .ok (.iaload, 1) := by decide +kernel
theorem dX9_trainOf_21 : decode cX9_trainOf 21 = .ok (.iconst 1, 1) := by decide +kernel
theorem dX9_trainOf_22 : decode cX9_trainOf 22 = .ok (.iadd, 1) := by decide +kernel
theorem dX9_trainOf_23 : decode cX9_trainOf 23 = .ok (.iastore, 1) := by decide +kernel
theorem dX9_trainOf_24 : decode cX9_trainOf 24 = .ok (.return_, 1) := by decide +kernel
theorem dX9_platformOf_0 : decode cX9_platformOf 0 = .ok (.aload_n 0, 1) := by decide +kernel
theorem dX9_platformOf_1 : decode cX9_platformOf 1 = .ok (.getfield 16, 3) := by decide +kernel
theorem dX9_platformOf_4 : decode cX9_platformOf 4 = .ok (.iconst 2, 1) := by decide +kernel
theorem dX9_platformOf_5 : decode cX9_platformOf 5 = .ok (.iaload, 1) := by decide +kernel
theorem dX9_platformOf_6 : decode cX9_platformOf 6 = .ok (.istore 5, 2) := by decide +kernel
theorem dX9_platformOf_8 : decode cX9_platformOf 8 = .ok (.aload_n 0, 1) := by decide +kernel
theorem dX9_platformOf_9 : decode cX9_platformOf 9 = .ok (.getfield 16, 3) := by decide +kernel
theorem dX9_platformOf_12 : decode cX9_platformOf 12 = .ok (.bipush 10, 2) := by decide +kernel
theorem dX9_platformOf_14 : decode cX9_platformOf 14 = .ok (.iload 5, 2) := by decide +kernel
theorem dX9_platformOf_16 : decode cX9_platformOf 16 = .ok (.iadd, 1) := by decide +kernel
theorem dX9_platformOf_17 : decode cX9_platformOf 17 = .ok (.iload_n 1, 1) := by decide +kernel
theorem dX9_platformOf_18 : decode cX9_platformOf 18 = .ok (.iastore, 1) := by decide +kernel
theorem dX9_platformOf_19 : decode cX9_platformOf 19 = .ok (.aload_n 0, 1) := by decide +kernel
theorem dX9_platformOf_20 : decode cX9_platformOf 20 = .ok (.getfield 16, 3) := by decide +kernel
theorem dX9_platformOf_23 : decode cX9_platformOf 23 = .ok (.bipush 15, 2) := by decide +kernel
theorem dX9_platformOf_25 : decode cX9_platformOf 25 = .ok (.iload 5, 2) := by decide +kernel
theorem dX9_platformOf_27 : decode cX9_platformOf 27 = .ok (.iadd, 1) := by decide +kernel
theorem dX9_platformOf_28 : decode cX9_platformOf 28 = .ok (.iload_n 2, 1) := by decide +kernel
theorem dX9_platformOf_29 : decode cX9_platformOf 29 = .ok (.iastore, 1) := by decide +kernel
theorem dX9_platformOf_30 : decode cX9_platformOf 30 = .ok (.aload_n 0, 1) := by decide +kernel
theorem dX9_platformOf_31 : decode cX9_platformOf 31 = .ok (.getfield 16, 3) := by decide +kernel
theorem dX9_platformOf_34 : decode cX9_platformOf 34 = .ok (.bipush 20, 2) := by decide +kernel
theorem dX9_platformOf_36 : decode cX9_platformOf 36 = .ok (.iload 5, 2) := by decide +kernel
theorem dX9_platformOf_38 : decode cX9_platformOf 38 = .ok (.iadd, 1) := by decide +kernel
theorem dX9_platformOf_39 : decode cX9_platformOf 39 = .ok (.iload_n 3, 1) := by decide +kernel
theorem dX9_platformOf_40 : decode cX9_platformOf 40 = .ok (.iastore, 1) := by decide +kernel
theorem dX9_platformOf_41 : decode cX9_platformOf 41 = .ok (.aload_n 0, 1) := by decide +kernel
theorem dX9_platformOf_42 : decode cX9_platformOf 42 = .ok (.getfield 19, 3) := by decide +kernel
theorem dX9_platformOf_45 : decode cX9_platformOf 45 = .ok (.iload 5, 2) := by decide +kernel
theorem dX9_platformOf_47 : decode cX9_platformOf 47 = .ok (.iload 4, 2) := by decide +kernel
theorem dX9_platformOf_49 : decode cX9_platformOf 49 = .ok (.iastore, 1) := by decide +kernel
theorem dX9_platformOf_50 : decode cX9_platformOf 50 = .ok (.aload_n 0, 1) := by decide +kernel
theorem dX9_platformOf_51 : decode cX9_platformOf 51 = .ok (.getfield 16, 3) := by decide +kernel
theorem dX9_platformOf_54 : decode cX9_platformOf 54 = .ok (.iconst 2, 1) := by decide +kernel
theorem dX9_platformOf_55 : decode cX9_platformOf 55 = .ok (.dup2, 1) := by decide +kernel
theorem dX9_platformOf_56 : decode cX9_platformOf 56 = .ok (.iaload, 1) := by decide +kernel
theorem dX9_platformOf_57 : decode cX9_platformOf 57 = .ok (.iconst 1, 1) := by decide +kernel
theorem dX9_platformOf_58 : decode cX9_platformOf 58 = .ok (.iadd, 1) := by decide +kernel
theorem dX9_platformOf_59 : decode cX9_platformOf 59 = .ok (.iastore, 1) := by decide +kernel
theorem dX9_platformOf_60 : decode cX9_platformOf 60 = .ok (.return_, 1) := by decide +kernel
theorem dX9_readsPlatform_0 : decode cX9_readsPlatform 0 = .ok (.aload_n 0, 1) := by decide +kernel
theorem dX9_readsPlatform_1 : decode cX9_readsPlatform 1 = .ok (.iconst 0, 1) := by decide +kernel
theorem dX9_readsPlatform_2 : decode cX9_readsPlatform 2 = .ok (.iconst 4, 1) := by decide +kernel
theorem dX9_readsPlatform_3 : decode cX9_readsPlatform 3 = .ok (.bipush 44, 2) := by decide +kernel
theorem dX9_readsPlatform_5 : decode cX9_readsPlatform 5 = .ok (.invokevirtual 91, 3) := by decide +kernel
theorem dX9_readsPlatform_8 : decode cX9_readsPlatform 8 = .ok (.istore_n 1, 1) := by decide +kernel
theorem dX9_readsPlatform_9 : decode cX9_readsPlatform 9 = .ok (.iload_n 1, 1) := by decide +kernel
theorem dX9_readsPlatform_10 : decode cX9_readsPlatform 10 = .ok (.ifCond .ge 7, 3) := by decide +kernel
theorem dX9_readsPlatform_13 : decode cX9_readsPlatform 13 = .ok (.iconst (-1), 1) := by decide +kernel
theorem dX9_readsPlatform_14 : decode cX9_readsPlatform 14 = .ok (.goto 18, 3) := by decide +kernel
theorem dX9_readsPlatform_17 : decode cX9_readsPlatform 17 = .ok (.aload_n 0, 1) := by decide +kernel
theorem dX9_readsPlatform_18 : decode cX9_readsPlatform 18 = .ok (.iconst 0, 1) := by decide +kernel
theorem dX9_readsPlatform_19 : decode cX9_readsPlatform 19 = .ok (.aload_n 0, 1) := by decide +kernel
theorem dX9_readsPlatform_20 : decode cX9_readsPlatform 20 = .ok (.getfield 16, 3) := by decide +kernel
theorem dX9_readsPlatform_23 : decode cX9_readsPlatform 23 = .ok (.iconst 0, 1) := by decide +kernel
theorem dX9_readsPlatform_24 : decode cX9_readsPlatform 24 = .ok (.iaload, 1) := by decide +kernel
theorem dX9_readsPlatform_25 : decode cX9_readsPlatform 25 = .ok (.iconst 1, 1) := by decide +kernel
theorem dX9_readsPlatform_26 : decode cX9_readsPlatform 26 = .ok (.isub, 1) := by decide +kernel
theorem dX9_readsPlatform_27 : decode cX9_readsPlatform 27 = .ok (.bipush 44, 2) := by decide +kernel
theorem dX9_readsPlatform_29 : decode cX9_readsPlatform 29 = .ok (.invokevirtual 91, 3) := by decide +kernel
theorem dX9_readsPlatform_32 : decode cX9_readsPlatform 32 = .ok (.istore_n 2, 1) := by decide +kernel
theorem dX9_readsPlatform_33 : decode cX9_readsPlatform 33 = .ok (.iload_n 2, 1) := by decide +kernel
theorem dX9_readsPlatform_34 : decode cX9_readsPlatform 34 = .ok (.ifCond .ge 7, 3) := by decide +kernel
theorem dX9_readsPlatform_37 : decode cX9_readsPlatform 37 = .ok (.iconst (-1), 1) := by decide +kernel
theorem dX9_readsPlatform_38 : decode cX9_readsPlatform 38 = .ok (.goto 11, 3) := by decide +kernel
theorem dX9_readsPlatform_41 : decode cX9_readsPlatform 41 = .ok (.aload_n 0, 1) := by decide +kernel
theorem dX9_readsPlatform_42 : decode cX9_readsPlatform 42 = .ok (.iconst 0, 1) := by decide +kernel
theorem dX9_readsPlatform_43 : decode cX9_readsPlatform 43 = .ok (.iconst 1, 1) := by decide +kernel
theorem dX9_readsPlatform_44 : decode cX9_readsPlatform 44 = .ok (.bipush 44, 2) := by decide +kernel
theorem dX9_readsPlatform_46 : decode cX9_readsPlatform 46 = .ok (.invokevirtual 91, 3) := by decide +kernel
theorem dX9_readsPlatform_49 : decode cX9_readsPlatform 49 = .ok (.istore_n 3, 1) := by decide +kernel
theorem dX9_readsPlatform_50 : decode cX9_readsPlatform 50 = .ok (.iload_n 3, 1) := by decide +kernel
theorem dX9_readsPlatform_51 : decode cX9_readsPlatform 51 = .ok (.ifCond .ge 7, 3) := by decide +kernel
theorem dX9_readsPlatform_54 : decode cX9_readsPlatform 54 = .ok (.iconst (-1), 1) := by decide +kernel
theorem dX9_readsPlatform_55 : decode cX9_readsPlatform 55 = .ok (.goto 12, 3) := by decide +kernel
theorem dX9_readsPlatform_58 : decode cX9_readsPlatform 58 = .ok (.aload_n 0, 1) := by decide +kernel
theorem dX9_readsPlatform_59 : decode cX9_readsPlatform 59 = .ok (.iconst 0, 1) := by decide +kernel
theorem dX9_readsPlatform_60 : decode cX9_readsPlatform 60 = .ok (.bipush 30, 2) := by decide +kernel
theorem dX9_readsPlatform_62 : decode cX9_readsPlatform 62 = .ok (.bipush 59, 2) := by decide +kernel
theorem dX9_readsPlatform_64 : decode cX9_readsPlatform 64 = .ok (.invokevirtual 91, 3) := by decide +kernel
theorem dX9_readsPlatform_67 : decode cX9_readsPlatform 67 = .ok (.istore 4, 2) := by decide +kernel
theorem dX9_readsPlatform_69 : decode cX9_readsPlatform 69 = .ok (.iload 4, 2) := by decide +kernel
theorem dX9_readsPlatform_71 : decode cX9_readsPlatform 71 = .ok (.ifCond .lt 13, 3) := by decide +kernel
theorem dX9_readsPlatform_74 : decode cX9_readsPlatform 74 = .ok (.aload_n 0, 1) := by decide +kernel
theorem dX9_readsPlatform_75 : decode cX9_readsPlatform 75 = .ok (.getfield 16, 3) := by decide +kernel
theorem dX9_readsPlatform_78 : decode cX9_readsPlatform 78 = .ok (.iconst 2, 1) := by decide +kernel
theorem dX9_readsPlatform_79 : decode cX9_readsPlatform 79 = .ok (.iaload, 1) := by decide +kernel
theorem dX9_readsPlatform_80 : decode cX9_readsPlatform 80 = .ok (.iconst 5, 1) := by decide +kernel
theorem dX9_readsPlatform_81 : decode cX9_readsPlatform 81 = .ok (.if_icmp .ne 5, 3) := by decide +kernel
theorem dX9_readsPlatform_84 : decode cX9_readsPlatform 84 = .ok (.iconst 0, 1) := by decide +kernel
theorem dX9_readsPlatform_85 : decode cX9_readsPlatform 85 = .ok (.ireturn, 1) := by decide +kernel
theorem dX9_readsPlatform_86 : decode cX9_readsPlatform 86 = .ok (.iconst 0, 1) := by decide +kernel
theorem dX9_readsPlatform_87 : decode cX9_readsPlatform 87 = .ok (.istore 5, 2) := by decide +kernel
theorem dX9_readsPlatform_89 : decode cX9_readsPlatform 89 = .ok (.iconst 0, 1) := by decide +kernel
theorem dX9_readsPlatform_90 : decode cX9_readsPlatform 90 = .ok (.istore 6, 2) := by decide +kernel
theorem dX9_readsPlatform_92 : decode cX9_readsPlatform 92 = .ok (.iload 6, 2) := by decide +kernel
theorem dX9_readsPlatform_94 : decode cX9_readsPlatform 94 = .ok (.aload_n 0, 1) := by decide +kernel
theorem dX9_readsPlatform_95 : decode cX9_readsPlatform 95 = .ok (.getfield 16, 3) := by decide +kernel
theorem dX9_readsPlatform_98 : decode cX9_readsPlatform 98 = .ok (.iconst 2, 1) := by decide +kernel
theorem dX9_readsPlatform_99 : decode cX9_readsPlatform 99 = .ok (.iaload, 1) := by decide +kernel
theorem dX9_readsPlatform_100 : decode cX9_readsPlatform 100 = .ok (.if_icmp .ge 33, 3) := by decide +kernel
theorem dX9_readsPlatform_103 : decode cX9_readsPlatform 103 = .ok (.iload 5, 2) := by decide +kernel
theorem dX9_readsPlatform_105 : decode cX9_readsPlatform 105 = .ok (.aload_n 0, 1) := by decide +kernel
theorem dX9_readsPlatform_106 : decode cX9_readsPlatform 106 = .ok (.getfield 16, 3) := by decide +kernel
theorem dX9_readsPlatform_109 : decode cX9_readsPlatform 109 = .ok (.bipush 15, 2) := by decide +kernel
theorem dX9_readsPlatform_111 : decode cX9_readsPlatform 111 = .ok (.iload 6, 2) := by decide +kernel
theorem dX9_readsPlatform_113 : decode cX9_readsPlatform 113 = .ok (.iadd, 1) := by decide +kernel
theorem dX9_readsPlatform_114 : decode cX9_readsPlatform 114 = .ok (.iaload, 1) := by decide +kernel
theorem dX9_readsPlatform_115 : decode cX9_readsPlatform 115 = .ok (.iload_n 2, 1) := by decide +kernel
theorem dX9_readsPlatform_116 : decode cX9_readsPlatform 116 = .ok (.if_icmp .ne 7, 3) := by decide +kernel
theorem dX9_readsPlatform_119 : decode cX9_readsPlatform 119 = .ok (.iconst 1, 1) := by decide +kernel
theorem dX9_readsPlatform_120 : decode cX9_readsPlatform 120 = .ok (.goto 4, 3) := by decide +kernel
theorem dX9_readsPlatform_123 : decode cX9_readsPlatform 123 = .ok (.iconst 0, 1) := by decide +kernel
theorem dX9_readsPlatform_124 : decode cX9_readsPlatform 124 = .ok (.iadd, 1) := by decide +kernel
theorem dX9_readsPlatform_125 : decode cX9_readsPlatform 125 = .ok (.istore 5, 2) := by decide +kernel
theorem dX9_readsPlatform_127 : decode cX9_readsPlatform 127 = .ok (.iinc 6 1, 3) := by decide +kernel
theorem dX9_readsPlatform_130 : decode cX9_readsPlatform 130 = .ok (.goto (-38), 3) := by decide +kernel
theorem dX9_readsPlatform_133 : decode cX9_readsPlatform 133 = .ok (.iload 5, 2) := by decide +kernel
theorem dX9_readsPlatform_135 : decode cX9_readsPlatform 135 = .ok (.aload_n 0, 1) := by decide +kernel
theorem dX9_readsPlatform_136 : decode cX9_readsPlatform 136 = .ok (.getfield 19, 3) := by decide +kernel
theorem dX9_readsPlatform_139 : decode cX9_readsPlatform 139 = .ok (.bipush 6, 2) := by decide +kernel
theorem dX9_readsPlatform_141 : decode cX9_readsPlatform 141 = .ok (.iaload, 1) := by decide +kernel
theorem dX9_readsPlatform_142 : decode cX9_readsPlatform 142 = .ok (.iload_n 2, 1) := by decide +kernel
theorem dX9_readsPlatform_143 : decode cX9_readsPlatform 143 = .ok (.ishr, 1) := by decide +kernel
theorem dX9_readsPlatform_144 : decode cX9_readsPlatform 144 = .ok (.iconst 1, 1) := by decide +kernel
theorem dX9_readsPlatform_145 : decode cX9_readsPlatform 145 = .ok (.iand, 1) := by decide +kernel
theorem dX9_readsPlatform_146 : decode cX9_readsPlatform 146 = .ok (.if_icmp .le 5, 3) := by decide +kernel
theorem dX9_readsPlatform_149 : decode cX9_readsPlatform 149 = .ok (.iconst 0, 1) := by decide +kernel
theorem dX9_readsPlatform_150 : decode cX9_readsPlatform 150 = .ok (.ireturn, 1) := by decide +kernel
theorem dX9_readsPlatform_151 : decode cX9_readsPlatform 151 = .ok (.aload_n 0, 1) := by decide +kernel
theorem dX9_readsPlatform_152 : decode cX9_readsPlatform 152 = .ok (.iload_n 1, 1) := by decide +kernel
theorem dX9_readsPlatform_153 : decode cX9_readsPlatform 153 = .ok (.iload_n 2, 1) := by decide +kernel
theorem dX9_readsPlatform_154 : decode cX9_readsPlatform 154 = .ok (.iload_n 3, 1) := by decide +kernel
theorem dX9_readsPlatform_155 : decode cX9_readsPlatform 155 = .ok (.iload 4, 2) := by decide +kernel
theorem dX9_readsPlatform_157 : decode cX9_readsPlatform 157 = .ok (.invokevirtual 66, 3) := by decide +kernel
theorem dX9_readsPlatform_160 : decode cX9_readsPlatform 160 = .ok (.iconst 1, 1) := by decide +kernel
theorem dX9_readsPlatform_161 : decode cX9_readsPlatform 161 = .ok (.ireturn, 1) := by decide +kernel
theorem dX9_readsItem_0 : decode cX9_readsItem 0 = .ok (.iload_n 1, 1) := by decide +kernel
theorem dX9_readsItem_1 : decode cX9_readsItem 1 = .ok (.bipush 110, 2) := by decide +kernel
theorem dX9_readsItem_3 : decode cX9_readsItem 3 = .ok (.if_icmp .ne 42, 3) := by decide +kernel
theorem dX9_readsItem_6 : decode cX9_readsItem 6 = .ok (.aload_n 0, 1) := by decide +kernel
theorem dX9_readsItem_7 : decode cX9_readsItem 7 = .ok (.getfield 16, 3) := by decide +kernel
theorem dX9_readsItem_10 : decode cX9_readsItem 10 = .ok (.iconst 0, 1) := by decide +kernel
theorem dX9_readsItem_11 : decode cX9_readsItem 11 = .ok (.aload_n 0, 1) := by decide +kernel
theorem dX9_readsItem_12 : decode cX9_readsItem 12 = .ok (.iconst 4, 1) := by decide +kernel
theorem dX9_readsItem_13 : decode cX9_readsItem 13 = .ok (.bipush 24, 2) := by decide +kernel
theorem dX9_readsItem_15 : decode cX9_readsItem 15 = .ok (.bipush 59, 2) := by decide +kernel
theorem dX9_readsItem_17 : decode cX9_readsItem 17 = .ok (.invokevirtual 91, 3) := by decide +kernel
theorem dX9_readsItem_20 : decode cX9_readsItem 20 = .ok (.iastore, 1) := by decide +kernel
theorem dX9_readsItem_21 : decode cX9_readsItem 21 = .ok (.aload_n 0, 1) := by decide +kernel
theorem dX9_readsItem_22 : decode cX9_readsItem 22 = .ok (.getfield 16, 3) := by decide +kernel
theorem dX9_readsItem_25 : decode cX9_readsItem 25 = .ok (.iconst 0, 1) := by decide +kernel
theorem dX9_readsItem_26 : decode cX9_readsItem 26 = .ok (.iaload, 1) := by decide +kernel
theorem dX9_readsItem_27 : decode cX9_readsItem 27 = .ok (.ifCond .le 16, 3) := by decide +kernel
theorem dX9_readsItem_30 : decode cX9_readsItem 30 = .ok (.aload_n 0, 1) := by decide +kernel
theorem dX9_readsItem_31 : decode cX9_readsItem 31 = .ok (.getfield 16, 3) := by decide +kernel
theorem dX9_readsItem_34 : decode cX9_readsItem 34 = .ok (.iconst 4, 1) := by decide +kernel
theorem dX9_readsItem_35 : decode cX9_readsItem 35 = .ok (.iaload, 1) := by decide +kernel
theorem dX9_readsItem_36 : decode cX9_readsItem 36 = .ok (.ifCond .ne 7, 3) := by decide +kernel
theorem dX9_readsItem_39 : decode cX9_readsItem 39 = .ok (.iconst 1, 1) := by decide +kernel
theorem dX9_readsItem_40 : decode cX9_readsItem 40 = .ok (.goto 4, 3) := by decide +kernel
theorem dX9_readsItem_43 : decode cX9_readsItem 43 = .ok (.iconst 0, 1) := by decide +kernel
theorem dX9_readsItem_44 : decode cX9_readsItem 44 = .ok (.ireturn, 1) := by decide +kernel
theorem dX9_readsItem_45 : decode cX9_readsItem 45 = .ok (.aload_n 0, 1) := by decide +kernel
theorem dX9_readsItem_46 : decode cX9_readsItem 46 = .ok (.getfield 16, 3) := by decide +kernel
theorem dX9_readsItem_49 : decode cX9_readsItem 49 = .ok (.iconst 4, 1) := by decide +kernel
theorem dX9_readsItem_50 : decode cX9_readsItem 50 = .ok (.iconst 1, 1) := by decide +kernel
theorem dX9_readsItem_51 : decode cX9_readsItem 51 = .ok (.iastore, 1) := by decide +kernel
theorem dX9_readsItem_52 : decode cX9_readsItem 52 = .ok (.iload_n 1, 1) := by decide +kernel
theorem dX9_readsItem_53 : decode cX9_readsItem 53 = .ok (.bipush 112, 2) := by decide +kernel
theorem dX9_readsItem_55 : decode cX9_readsItem 55 = .ok (.if_icmp .ne 8, 3) := by decide +kernel
theorem dX9_readsItem_58 : decode cX9_readsItem 58 = .ok (.aload_n 0, 1) := by decide +kernel
theorem dX9_readsItem_59 : decode cX9_readsItem 59 = .ok (.invokevirtual 95, 3) := by decide +kernel
theorem dX9_readsItem_62 : decode cX9_readsItem 62 = .ok (.ireturn, 1) := by decide +kernel
theorem dX9_readsItem_63 : decode cX9_readsItem 63 = .ok (.iload_n 1, 1) := by decide +kernel
theorem dX9_readsItem_64 : decode cX9_readsItem 64 = .ok (.bipush 116, 2) := by decide +kernel
theorem dX9_readsItem_66 : decode cX9_readsItem 66 = .ok (.if_icmp .eq 17, 3) := by decide +kernel
theorem dX9_readsItem_69 : decode cX9_readsItem 69 = .ok (.iload_n 1, 1) := by decide +kernel
theorem dX9_readsItem_70 : decode cX9_readsItem 70 = .ok (.bipush 97, 2) := by decide +kernel
theorem dX9_readsItem_72 : decode cX9_readsItem 72 = .ok (.if_icmp .eq 11, 3) := by decide +kernel
theorem dX9_readsItem_75 : decode cX9_readsItem 75 = .ok (.iload_n 1, 1) := by decide +kernel
theorem dX9_readsItem_76 : decode cX9_readsItem 76 = .ok (.bipush 119, 2) := by decide +kernel
theorem dX9_readsItem_78 : decode cX9_readsItem 78 = .ok (.if_icmp .eq 5, 3) := by decide +kernel
theorem dX9_readsItem_81 : decode cX9_readsItem 81 = .ok (.iconst 0, 1) := by decide +kernel
theorem dX9_readsItem_82 : decode cX9_readsItem 82 = .ok (.ireturn, 1) := by decide +kernel
theorem dX9_readsItem_83 : decode cX9_readsItem 83 = .ok (.aload_n 0, 1) := by decide +kernel
theorem dX9_readsItem_84 : decode cX9_readsItem 84 = .ok (.iconst 0, 1) := by decide +kernel
theorem dX9_readsItem_85 : decode cX9_readsItem 85 = .ok (.aload_n 0, 1) := by decide +kernel
theorem dX9_readsItem_86 : decode cX9_readsItem 86 = .ok (.getfield 16, 3) := by decide +kernel
theorem dX9_readsItem_89 : decode cX9_readsItem 89 = .ok (.iconst 0, 1) := by decide +kernel
theorem dX9_readsItem_90 : decode cX9_readsItem 90 = .ok (.iaload, 1) := by decide +kernel
theorem dX9_readsItem_91 : decode cX9_readsItem 91 = .ok (.iconst 1, 1) := by decide +kernel
theorem dX9_readsItem_92 : decode cX9_readsItem 92 = .ok (.isub, 1) := by decide +kernel
theorem dX9_readsItem_93 : decode cX9_readsItem 93 = .ok (.bipush 59, 2) := by decide +kernel
theorem dX9_readsItem_95 : decode cX9_readsItem 95 = .ok (.invokevirtual 91, 3) := by decide +kernel
theorem dX9_readsItem_98 : decode cX9_readsItem 98 = .ok (.istore_n 2, 1) := by decide +kernel
theorem dX9_readsItem_99 : decode cX9_readsItem 99 = .ok (.iload_n 2, 1) := by decide +kernel
theorem dX9_readsItem_100 : decode cX9_readsItem 100 = .ok (.ifCond .ge 5, 3) := by decide +kernel
theorem dX9_readsItem_103 : decode cX9_readsItem 103 = .ok (.iconst 0, 1) := by decide +kernel
theorem dX9_readsItem_104 : decode cX9_readsItem 104 = .ok (.ireturn, 1) := by decide +kernel
theorem dX9_readsItem_105 : decode cX9_readsItem 105 = .ok (.iload_n 1, 1) := by decide +kernel
theorem dX9_readsItem_106 : decode cX9_readsItem 106 = .ok (.bipush 116, 2) := by decide +kernel
theorem dX9_readsItem_108 : decode cX9_readsItem 108 = .ok (.if_icmp .ne 23, 3) := by decide +kernel
theorem dX9_readsItem_111 : decode cX9_readsItem 111 = .ok (.aload_n 0, 1) := by decide +kernel
theorem dX9_readsItem_112 : decode cX9_readsItem 112 = .ok (.getfield 16, 3) := by decide +kernel
theorem dX9_readsItem_115 : decode cX9_readsItem 115 = .ok (.iconst 1, 1) := by decide +kernel
theorem dX9_readsItem_116 : decode cX9_readsItem 116 = .ok (.iaload, 1) := by decide +kernel
theorem dX9_readsItem_117 : decode cX9_readsItem 117 = .ok (.iconst 5, 1) := by decide +kernel
theorem dX9_readsItem_118 : decode cX9_readsItem 118 = .ok (.if_icmp .ne 5, 3) := by decide +kernel
theorem dX9_readsItem_121 : decode cX9_readsItem 121 = .ok (.iconst 0, 1) := by decide +kernel
theorem dX9_readsItem_122 : decode cX9_readsItem 122 = .ok (.ireturn, 1) := by decide +kernel
theorem dX9_readsItem_123 : decode cX9_readsItem 123 = .ok (.aload_n 0, 1) := by decide +kernel
theorem dX9_readsItem_124 : decode cX9_readsItem 124 = .ok (.iload_n 2, 1) := by decide +kernel
theorem dX9_readsItem_125 : decode cX9_readsItem 125 = .ok (.invokevirtual 62, 3) := by decide +kernel
theorem dX9_readsItem_128 : decode cX9_readsItem 128 = .ok (.goto 37, 3) := by decide +kernel
theorem dX9_readsItem_131 : decode cX9_readsItem 131 = .ok (.iload_n 1, 1) := by decide +kernel
theorem dX9_readsItem_132 : decode cX9_readsItem 132 = .ok (.bipush 97, 2) := by decide +kernel
theorem dX9_readsItem_134 : decode cX9_readsItem 134 = .ok (.if_icmp .ne 19, 3) := by decide +kernel
theorem dX9_readsItem_137 : decode cX9_readsItem 137 = .ok (.aload_n 0, 1) := by decide +kernel
theorem dX9_readsItem_138 : decode cX9_readsItem 138 = .ok (.getfield 19, 3) := by decide +kernel
theorem dX9_readsItem_141 : decode cX9_readsItem 141 = .ok (.bipush 6, 2) := by decide +kernel
theorem dX9_readsItem_143 : decode cX9_readsItem 143 = .ok (.dup2, 1) := by decide +kernel
theorem dX9_readsItem_144 : decode cX9_readsItem 144 = .ok (.iaload, 1) := by decide +kernel
theorem dX9_readsItem_145 : decode cX9_readsItem 145 = .ok (.iconst 1, 1) := by decide +kernel
theorem dX9_readsItem_146 : decode cX9_readsItem 146 = .ok (.iload_n 2, 1) := by decide +kernel
theorem dX9_readsItem_147 : decode cX9_readsItem 147 = .ok (.ishl, 1) := by decide +kernel
theorem dX9_readsItem_148 : decode cX9_readsItem 148 = .ok (.ior, 1) := by decide +kernel
theorem dX9_readsItem_149 : decode cX9_readsItem 149 = .ok (.iastore, 1) := by decide +kernel
theorem dX9_readsItem_150 : decode cX9_readsItem 150 = .ok (.goto 15, 3) := by decide +kernel
theorem dX9_readsItem_153 : decode cX9_readsItem 153 = .ok (.aload_n 0, 1) := by decide +kernel
theorem dX9_readsItem_154 : decode cX9_readsItem 154 = .ok (.getfield 16, 3) := by decide +kernel
theorem dX9_readsItem_157 : decode cX9_readsItem 157 = .ok (.iconst 3, 1) := by decide +kernel
theorem dX9_readsItem_158 : decode cX9_readsItem 158 = .ok (.dup2, 1) := by decide +kernel
theorem dX9_readsItem_159 : decode cX9_readsItem 159 = .ok (.iaload, 1) := by decide +kernel
theorem dX9_readsItem_160 : decode cX9_readsItem 160 = .ok (.iconst 1, 1) := by decide +kernel
theorem dX9_readsItem_161 : decode cX9_readsItem 161 = .ok (.iload_n 2, 1) := by decide +kernel
theorem dX9_readsItem_162 : decode cX9_readsItem 162 = .ok (.ishl, 1) := by decide +kernel
theorem dX9_readsItem_163 : decode cX9_readsItem 163 = .ok (.ior, 1) := by decide +kernel
theorem dX9_readsItem_164 : decode cX9_readsItem 164 = .ok (.iastore, 1) := by decide +kernel
theorem dX9_readsItem_165 : decode cX9_readsItem 165 = .ok (.iconst 1, 1) := by decide +kernel
theorem dX9_readsItem_166 : decode cX9_readsItem 166 = .ok (.ireturn, 1) := by decide +kernel
theorem dX9_readsAll_0 : decode cX9_readsAll 0 = .ok (.aload_n 0, 1) := by decide +kernel
theorem dX9_readsAll_1 : decode cX9_readsAll 1 = .ok (.invokevirtual 59, 3) := by decide +kernel
theorem dX9_readsAll_4 : decode cX9_readsAll 4 = .ok (.aload_n 0, 1) := by decide +kernel
theorem dX9_readsAll_5 : decode cX9_readsAll 5 = .ok (.iconst 0, 1) := by decide +kernel
theorem dX9_readsAll_6 : decode cX9_readsAll 6 = .ok (.putfield 80, 3) := by decide +kernel
theorem dX9_readsAll_9 : decode cX9_readsAll 9 = .ok (.aload_n 0, 1) := by decide +kernel
theorem dX9_readsAll_10 : decode cX9_readsAll 10 = .ok (.getfield 80, 3) := by decide +kernel
theorem dX9_readsAll_13 : decode cX9_readsAll 13 = .ok (.aload_n 0, 1) := by decide +kernel
theorem dX9_readsAll_14 : decode cX9_readsAll 14 = .ok (.getfield 77, 3) := by decide +kernel
theorem dX9_readsAll_17 : decode cX9_readsAll 17 = .ok (.if_icmp .ge 36, 3) := by decide +kernel
theorem dX9_readsAll_20 : decode cX9_readsAll 20 = .ok (.aload_n 0, 1) := by decide +kernel
theorem dX9_readsAll_21 : decode cX9_readsAll 21 = .ok (.getfield 80, 3) := by decide +kernel
theorem dX9_readsAll_24 : decode cX9_readsAll 24 = .ok (.istore_n 1, 1) := by decide +kernel
theorem dX9_readsAll_25 : decode cX9_readsAll 25 = .ok (.aload_n 0, 1) := by decide +kernel
theorem dX9_readsAll_26 : decode cX9_readsAll 26 = .ok (.dup, 1) := by decide +kernel
theorem dX9_readsAll_27 : decode cX9_readsAll 27 = .ok (.getfield 80, 3) := by decide +kernel
theorem dX9_readsAll_30 : decode cX9_readsAll 30 = .ok (.iconst 1, 1) := by decide +kernel
theorem dX9_readsAll_31 : decode cX9_readsAll 31 = .ok (.iadd, 1) := by decide +kernel
theorem dX9_readsAll_32 : decode cX9_readsAll 32 = .ok (.putfield 80, 3) := by decide +kernel
theorem dX9_readsAll_35 : decode cX9_readsAll 35 = .ok (.aload_n 0, 1) := by decide +kernel
theorem dX9_readsAll_36 : decode cX9_readsAll 36 = .ok (.aload_n 0, 1) := by decide +kernel
theorem dX9_readsAll_37 : decode cX9_readsAll 37 = .ok (.getfield 7, 3) := by decide +kernel
theorem dX9_readsAll_40 : decode cX9_readsAll 40 = .ok (.iload_n 1, 1) := by decide +kernel
theorem dX9_readsAll_41 : decode cX9_readsAll 41 = .ok (.iaload, 1) := by decide +kernel
theorem dX9_readsAll_42 : decode cX9_readsAll 42 = .ok (.invokevirtual 99, 3) := by decide +kernel
theorem dX9_readsAll_45 : decode cX9_readsAll 45 = .ok (.ifCond .ne 5, 3) := by decide +kernel
theorem dX9_readsAll_48 : decode cX9_readsAll 48 = .ok (.iload_n 1, 1) := by decide +kernel
theorem dX9_readsAll_49 : decode cX9_readsAll 49 = .ok (.ireturn, 1) := by decide +kernel
theorem dX9_readsAll_50 : decode cX9_readsAll 50 = .ok (.goto (-41), 3) := by decide +kernel
theorem dX9_readsAll_53 : decode cX9_readsAll 53 = .ok (.bipush (-4), 2) := by decide +kernel
theorem dX9_readsAll_55 : decode cX9_readsAll 55 = .ok (.ireturn, 1) := by decide +kernel
theorem dX9_fault_0 : decode cX9_fault 0 = .ok (.aload_n 0, 1) := by decide +kernel
theorem dX9_fault_1 : decode cX9_fault 1 = .ok (.invokevirtual 102, 3) := by decide +kernel
theorem dX9_fault_4 : decode cX9_fault 4 = .ok (.ireturn, 1) := by decide +kernel
theorem dX9_lays_0 : decode cX9_lays 0 = .ok (.iconst 0, 1) := by decide +kernel
theorem dX9_lays_1 : decode cX9_lays 1 = .ok (.istore_n 1, 1) := by decide +kernel
theorem dX9_lays_2 : decode cX9_lays 2 = .ok (.iload_n 1, 1) := by decide +kernel
theorem dX9_lays_3 : decode cX9_lays 3 = .ok (.bipush 25, 2) := by decide +kernel
theorem dX9_lays_5 : decode cX9_lays 5 = .ok (.if_icmp .ge 21, 3) := by decide +kernel
theorem dX9_lays_8 : decode cX9_lays 8 = .ok (.aload_n 0, 1) := by decide +kernel
theorem dX9_lays_9 : decode cX9_lays 9 = .ok (.getfield 13, 3) := by decide +kernel
theorem dX9_lays_12 : decode cX9_lays 12 = .ok (.iload_n 1, 1) := by decide +kernel
theorem dX9_lays_13 : decode cX9_lays 13 = .ok (.aload_n 0, 1) := by decide +kernel
theorem dX9_lays_14 : decode cX9_lays 14 = .ok (.getfield 16, 3) := by decide +kernel
theorem dX9_lays_17 : decode cX9_lays 17 = .ok (.iload_n 1, 1) := by decide +kernel
theorem dX9_lays_18 : decode cX9_lays 18 = .ok (.iaload, 1) := by decide +kernel
theorem dX9_lays_19 : decode cX9_lays 19 = .ok (.iastore, 1) := by decide +kernel
theorem dX9_lays_20 : decode cX9_lays 20 = .ok (.iinc 1 1, 3) := by decide +kernel
theorem dX9_lays_23 : decode cX9_lays 23 = .ok (.goto (-21), 3) := by decide +kernel
theorem dX9_lays_26 : decode cX9_lays 26 = .ok (.iconst 0, 1) := by decide +kernel
theorem dX9_lays_27 : decode cX9_lays 27 = .ok (.istore_n 1, 1) := by decide +kernel
theorem dX9_lays_28 : decode cX9_lays 28 = .ok (.iload_n 1, 1) := by decide +kernel
theorem dX9_lays_29 : decode cX9_lays 29 = .ok (.bipush 7, 2) := by decide +kernel
theorem dX9_lays_31 : decode cX9_lays 31 = .ok (.if_icmp .ge 21, 3) := by decide +kernel
theorem dX9_lays_34 : decode cX9_lays 34 = .ok (.aload_n 0, 1) := by decide +kernel
theorem dX9_lays_35 : decode cX9_lays 35 = .ok (.getfield 22, 3) := by decide +kernel
theorem dX9_lays_38 : decode cX9_lays 38 = .ok (.iload_n 1, 1) := by decide +kernel
theorem dX9_lays_39 : decode cX9_lays 39 = .ok (.aload_n 0, 1) := by decide +kernel
theorem dX9_lays_40 : decode cX9_lays 40 = .ok (.getfield 19, 3) := by decide +kernel
theorem dX9_lays_43 : decode cX9_lays 43 = .ok (.iload_n 1, 1) := by decide +kernel
theorem dX9_lays_44 : decode cX9_lays 44 = .ok (.iaload, 1) := by decide +kernel
theorem dX9_lays_45 : decode cX9_lays 45 = .ok (.iastore, 1) := by decide +kernel
theorem dX9_lays_46 : decode cX9_lays 46 = .ok (.iinc 1 1, 3) := by decide +kernel
theorem dX9_lays_49 : decode cX9_lays 49 = .ok (.goto (-21), 3) := by decide +kernel
theorem dX9_lays_52 : decode cX9_lays 52 = .ok (.aload_n 0, 1) := by decide +kernel
theorem dX9_lays_53 : decode cX9_lays 53 = .ok (.iconst 0, 1) := by decide +kernel
theorem dX9_lays_54 : decode cX9_lays 54 = .ok (.putfield 106, 3) := by decide +kernel
theorem dX9_lays_57 : decode cX9_lays 57 = .ok (.aload_n 0, 1) := by decide +kernel
theorem dX9_lays_58 : decode cX9_lays 58 = .ok (.iconst 0, 1) := by decide +kernel
theorem dX9_lays_59 : decode cX9_lays 59 = .ok (.putfield 109, 3) := by decide +kernel
theorem dX9_lays_62 : decode cX9_lays 62 = .ok (.aload_n 0, 1) := by decide +kernel
theorem dX9_lays_63 : decode cX9_lays 63 = .ok (.iconst 0, 1) := by decide +kernel
theorem dX9_lays_64 : decode cX9_lays 64 = .ok (.putfield 112, 3) := by decide +kernel
theorem dX9_lays_67 : decode cX9_lays 67 = .ok (.return_, 1) := by decide +kernel
theorem dX9_lay_0 : decode cX9_lay 0 = .ok (.aload_n 0, 1) := by decide +kernel
theorem dX9_lay_1 : decode cX9_lay 1 = .ok (.invokevirtual 102, 3) := by decide +kernel
theorem dX9_lay_4 : decode cX9_lay 4 = .ok (.bipush (-4), 2) := by decide +kernel
theorem dX9_lay_6 : decode cX9_lay 6 = .ok (.if_icmp .ne 12, 3) := by decide +kernel
theorem dX9_lay_9 : decode cX9_lay 9 = .ok (.aload_n 0, 1) := by decide +kernel
theorem dX9_lay_10 : decode cX9_lay 10 = .ok (.getfield 16, 3) := by decide +kernel
theorem dX9_lay_13 : decode cX9_lay 13 = .ok (.iconst 2, 1) := by decide +kernel
theorem dX9_lay_14 : decode cX9_lay 14 = .ok (.iaload, 1) := by decide +kernel
theorem dX9_lay_15 : decode cX9_lay 15 = .ok (.ifCond .ne 6, 3) := by decide +kernel
theorem dX9_lay_18 : decode cX9_lay 18 = .ok (.bipush (-2), 2) := by decide +kernel
theorem dX9_lay_20 : decode cX9_lay 20 = .ok (.ireturn, 1) := by decide +kernel
theorem dX9_lay_21 : decode cX9_lay 21 = .ok (.aload_n 0, 1) := by decide +kernel
theorem dX9_lay_22 : decode cX9_lay 22 = .ok (.invokevirtual 70, 3) := by decide +kernel
theorem dX9_lay_25 : decode cX9_lay 25 = .ok (.aload_n 0, 1) := by decide +kernel
theorem dX9_lay_26 : decode cX9_lay 26 = .ok (.getfield 13, 3) := by decide +kernel
theorem dX9_lay_29 : decode cX9_lay 29 = .ok (.iconst 2, 1) := by decide +kernel
theorem dX9_lay_30 : decode cX9_lay 30 = .ok (.iaload, 1) := by decide +kernel
theorem dX9_lay_31 : decode cX9_lay 31 = .ok (.ireturn, 1) := by decide +kernel
theorem dX9_platform_0 : decode cX9_platform 0 = .ok (.aload_n 0, 1) := by decide +kernel
theorem dX9_platform_1 : decode cX9_platform 1 = .ok (.iload_n 1, 1) := by decide +kernel
theorem dX9_platform_2 : decode cX9_platform 2 = .ok (.invokevirtual 115, 3) := by decide +kernel
theorem dX9_platform_5 : decode cX9_platform 5 = .ok (.ifCond .ne 5, 3) := by decide +kernel
theorem dX9_platform_8 : decode cX9_platform 8 = .ok (.iconst (-1), 1) := by decide +kernel
theorem dX9_platform_9 : decode cX9_platform 9 = .ok (.ireturn, 1) := by decide +kernel
theorem dX9_platform_10 : decode cX9_platform 10 = .ok (.iload_n 2, 1) := by decide +kernel
theorem dX9_platform_11 : decode cX9_platform 11 = .ok (.tableswitch 81 0 4 #[33, 43, 53, 63, 70], 33) := by decide +kernel
theorem dX9_platform_44 : decode cX9_platform 44 = .ok (.aload_n 0, 1) := by decide +kernel
theorem dX9_platform_45 : decode cX9_platform 45 = .ok (.getfield 13, 3) := by decide +kernel
theorem dX9_platform_48 : decode cX9_platform 48 = .ok (.bipush 10, 2) := by decide +kernel
theorem dX9_platform_50 : decode cX9_platform 50 = .ok (.iload_n 1, 1) := by decide +kernel
theorem dX9_platform_51 : decode cX9_platform 51 = .ok (.iadd, 1) := by decide +kernel
theorem dX9_platform_52 : decode cX9_platform 52 = .ok (.iaload, 1) := by decide +kernel
theorem dX9_platform_53 : decode cX9_platform 53 = .ok (.ireturn, 1) := by decide +kernel
theorem dX9_platform_54 : decode cX9_platform 54 = .ok (.aload_n 0, 1) := by decide +kernel
theorem dX9_platform_55 : decode cX9_platform 55 = .ok (.getfield 13, 3) := by decide +kernel
theorem dX9_platform_58 : decode cX9_platform 58 = .ok (.bipush 15, 2) := by decide +kernel
theorem dX9_platform_60 : decode cX9_platform 60 = .ok (.iload_n 1, 1) := by decide +kernel
theorem dX9_platform_61 : decode cX9_platform 61 = .ok (.iadd, 1) := by decide +kernel
theorem dX9_platform_62 : decode cX9_platform 62 = .ok (.iaload, 1) := by decide +kernel
theorem dX9_platform_63 : decode cX9_platform 63 = .ok (.ireturn, 1) := by decide +kernel
theorem dX9_platform_64 : decode cX9_platform 64 = .ok (.aload_n 0, 1) := by decide +kernel
theorem dX9_platform_65 : decode cX9_platform 65 = .ok (.getfield 13, 3) := by decide +kernel
theorem dX9_platform_68 : decode cX9_platform 68 = .ok (.bipush 20, 2) := by decide +kernel
theorem dX9_platform_70 : decode cX9_platform 70 = .ok (.iload_n 1, 1) := by decide +kernel
theorem dX9_platform_71 : decode cX9_platform 71 = .ok (.iadd, 1) := by decide +kernel
theorem dX9_platform_72 : decode cX9_platform 72 = .ok (.iaload, 1) := by decide +kernel
theorem dX9_platform_73 : decode cX9_platform 73 = .ok (.ireturn, 1) := by decide +kernel
theorem dX9_platform_74 : decode cX9_platform 74 = .ok (.aload_n 0, 1) := by decide +kernel
theorem dX9_platform_75 : decode cX9_platform 75 = .ok (.getfield 22, 3) := by decide +kernel
theorem dX9_platform_78 : decode cX9_platform 78 = .ok (.iload_n 1, 1) := by decide +kernel
theorem dX9_platform_79 : decode cX9_platform 79 = .ok (.iaload, 1) := by decide +kernel
theorem dX9_platform_80 : decode cX9_platform 80 = .ok (.ireturn, 1) := by decide +kernel
theorem dX9_platform_81 : decode cX9_platform 81 = .ok (.aload_n 0, 1) := by decide +kernel
theorem dX9_platform_82 : decode cX9_platform 82 = .ok (.getfield 22, 3) := by decide +kernel
theorem dX9_platform_85 : decode cX9_platform 85 = .ok (.iconst 5, 1) := by decide +kernel
theorem dX9_platform_86 : decode cX9_platform 86 = .ok (.iaload, 1) := by decide +kernel
theorem dX9_platform_87 : decode cX9_platform 87 = .ok (.iload_n 1, 1) := by decide +kernel
theorem dX9_platform_88 : decode cX9_platform 88 = .ok (.ishr, 1) := by decide +kernel
theorem dX9_platform_89 : decode cX9_platform 89 = .ok (.iconst 1, 1) := by decide +kernel
theorem dX9_platform_90 : decode cX9_platform 90 = .ok (.iand, 1) := by decide +kernel
theorem dX9_platform_91 : decode cX9_platform 91 = .ok (.ireturn, 1) := by decide +kernel
theorem dX9_platform_92 : decode cX9_platform 92 = .ok (.iconst (-1), 1) := by decide +kernel
theorem dX9_platform_93 : decode cX9_platform 93 = .ok (.ireturn, 1) := by decide +kernel
theorem dX9_train_0 : decode cX9_train 0 = .ok (.aload_n 0, 1) := by decide +kernel
theorem dX9_train_1 : decode cX9_train 1 = .ok (.iload_n 1, 1) := by decide +kernel
theorem dX9_train_2 : decode cX9_train 2 = .ok (.invokevirtual 118, 3) := by decide +kernel
theorem dX9_train_5 : decode cX9_train 5 = .ok (.ifCond .eq 14, 3) := by decide +kernel
theorem dX9_train_8 : decode cX9_train 8 = .ok (.aload_n 0, 1) := by decide +kernel
theorem dX9_train_9 : decode cX9_train 9 = .ok (.getfield 13, 3) := by decide +kernel
theorem dX9_train_12 : decode cX9_train 12 = .ok (.iconst 5, 1) := by decide +kernel
theorem dX9_train_13 : decode cX9_train 13 = .ok (.iload_n 1, 1) := by decide +kernel
theorem dX9_train_14 : decode cX9_train 14 = .ok (.iadd, 1) := by decide +kernel
theorem dX9_train_15 : decode cX9_train 15 = .ok (.iaload, 1) := by decide +kernel
theorem dX9_train_16 : decode cX9_train 16 = .ok (.goto 4, 3) := by decide +kernel
theorem dX9_train_19 : decode cX9_train 19 = .ok (.iconst (-1), 1) := by decide +kernel
theorem dX9_train_20 : decode cX9_train 20 = .ok (.ireturn, 1) := by decide +kernel
theorem dX9_cell_0 : decode cX9_cell 0 = .ok (.aload_n 0, 1) := by decide +kernel
theorem dX9_cell_1 : decode cX9_cell 1 = .ok (.iload_n 1, 1) := by decide +kernel
theorem dX9_cell_2 : decode cX9_cell 2 = .ok (.invokevirtual 121, 3) := by decide +kernel
theorem dX9_cell_5 : decode cX9_cell 5 = .ok (.ifCond .eq 12, 3) := by decide +kernel
theorem dX9_cell_8 : decode cX9_cell 8 = .ok (.iload_n 2, 1) := by decide +kernel
theorem dX9_cell_9 : decode cX9_cell 9 = .ok (.iconst 0, 1) := by decide +kernel
theorem dX9_cell_10 : decode cX9_cell 10 = .ok (.iconst 1, 1) := by decide +kernel
theorem dX9_cell_11 : decode cX9_cell 11 = .ok (.invokestatic 73, 3) := by decide +kernel
theorem dX9_cell_14 : decode cX9_cell 14 = .ok (.ifCond .ne 5, 3) := by decide +kernel
theorem dX9_cell_17 : decode cX9_cell 17 = .ok (.iconst (-1), 1) := by decide +kernel
theorem dX9_cell_18 : decode cX9_cell 18 = .ok (.ireturn, 1) := by decide +kernel
theorem dX9_cell_19 : decode cX9_cell 19 = .ok (.iload_n 2, 1) := by decide +kernel
theorem dX9_cell_20 : decode cX9_cell 20 = .ok (.ifCond .ne 13, 3) := by decide +kernel
theorem dX9_cell_23 : decode cX9_cell 23 = .ok (.aload_n 0, 1) := by decide +kernel
theorem dX9_cell_24 : decode cX9_cell 24 = .ok (.getfield 22, 3) := by decide +kernel
theorem dX9_cell_27 : decode cX9_cell 27 = .ok (.bipush 6, 2) := by decide +kernel
theorem dX9_cell_29 : decode cX9_cell 29 = .ok (.iaload, 1) := by decide +kernel
theorem dX9_cell_30 : decode cX9_cell 30 = .ok (.goto 9, 3) := by decide +kernel
theorem dX9_cell_33 : decode cX9_cell 33 = .ok (.aload_n 0, 1) := by decide +kernel
theorem dX9_cell_34 : decode cX9_cell 34 = .ok (.getfield 13, 3) := by decide +kernel
theorem dX9_cell_37 : decode cX9_cell 37 = .ok (.iconst 3, 1) := by decide +kernel
theorem dX9_cell_38 : decode cX9_cell 38 = .ok (.iaload, 1) := by decide +kernel
theorem dX9_cell_39 : decode cX9_cell 39 = .ok (.iload_n 1, 1) := by decide +kernel
theorem dX9_cell_40 : decode cX9_cell 40 = .ok (.ishr, 1) := by decide +kernel
theorem dX9_cell_41 : decode cX9_cell 41 = .ok (.iconst 1, 1) := by decide +kernel
theorem dX9_cell_42 : decode cX9_cell 42 = .ok (.iand, 1) := by decide +kernel
theorem dX9_cell_43 : decode cX9_cell 43 = .ok (.ireturn, 1) := by decide +kernel
theorem dX9_keeps_0 : decode cX9_keeps 0 = .ok (.aload_n 0, 1) := by decide +kernel
theorem dX9_keeps_1 : decode cX9_keeps 1 = .ok (.getfield 106, 3) := by decide +kernel
theorem dX9_keeps_4 : decode cX9_keeps 4 = .ok (.bipush 8, 2) := by decide +kernel
theorem dX9_keeps_6 : decode cX9_keeps 6 = .ok (.if_icmp .ne 42, 3) := by decide +kernel
theorem dX9_keeps_9 : decode cX9_keeps 9 = .ok (.iconst 0, 1) := by decide +kernel
theorem dX9_keeps_10 : decode cX9_keeps 10 = .ok (.istore_n 1, 1) := by decide +kernel
theorem dX9_keeps_11 : decode cX9_keeps 11 = .ok (.iload_n 1, 1) := by decide +kernel
theorem dX9_keeps_12 : decode cX9_keeps 12 = .ok (.bipush 49, 2) := by decide +kernel
theorem dX9_keeps_14 : decode cX9_keeps 14 = .ok (.if_icmp .ge 24, 3) := by decide +kernel
theorem dX9_keeps_17 : decode cX9_keeps 17 = .ok (.aload_n 0, 1) := by decide +kernel
theorem dX9_keeps_18 : decode cX9_keeps 18 = .ok (.getfield 25, 3) := by decide +kernel
theorem dX9_keeps_21 : decode cX9_keeps 21 = .ok (.iload_n 1, 1) := by decide +kernel
theorem dX9_keeps_22 : decode cX9_keeps 22 = .ok (.aload_n 0, 1) := by decide +kernel
theorem dX9_keeps_23 : decode cX9_keeps 23 = .ok (.getfield 25, 3) := by decide +kernel
theorem dX9_keeps_26 : decode cX9_keeps 26 = .ok (.iload_n 1, 1) := by decide +kernel
theorem dX9_keeps_27 : decode cX9_keeps 27 = .ok (.bipush 7, 2) := by decide +kernel
theorem dX9_keeps_29 : decode cX9_keeps 29 = .ok (.iadd, 1) := by decide +kernel
theorem dX9_keeps_30 : decode cX9_keeps 30 = .ok (.iaload, 1) := by decide +kernel
theorem dX9_keeps_31 : decode cX9_keeps 31 = .ok (.iastore, 1) := by decide +kernel
theorem dX9_keeps_32 : decode cX9_keeps 32 = .ok (.iinc 1 1, 3) := by decide +kernel
theorem dX9_keeps_35 : decode cX9_keeps 35 = .ok (.goto (-24), 3) := by decide +kernel
theorem dX9_keeps_38 : decode cX9_keeps 38 = .ok (.aload_n 0, 1) := by decide +kernel
theorem dX9_keeps_39 : decode cX9_keeps 39 = .ok (.dup, 1) := by decide +kernel
theorem dX9_keeps_40 : decode cX9_keeps 40 = .ok (.getfield 106, 3) := by decide +kernel
theorem dX9_keeps_43 : decode cX9_keeps 43 = .ok (.iconst 1, 1) := by decide +kernel
theorem dX9_keeps_44 : decode cX9_keeps 44 = .ok (.isub, 1) := by decide +kernel
theorem dX9_keeps_45 : decode cX9_keeps 45 = .ok (.putfield 106, 3) := by decide +kernel
theorem dX9_keeps_48 : decode cX9_keeps 48 = .ok (.iconst 0, 1) := by decide +kernel
theorem dX9_keeps_49 : decode cX9_keeps 49 = .ok (.istore_n 1, 1) := by decide +kernel
theorem dX9_keeps_50 : decode cX9_keeps 50 = .ok (.iload_n 1, 1) := by decide +kernel
theorem dX9_keeps_51 : decode cX9_keeps 51 = .ok (.bipush 7, 2) := by decide +kernel
theorem dX9_keeps_53 : decode cX9_keeps 53 = .ok (.if_icmp .ge 29, 3) := by decide +kernel
theorem dX9_keeps_56 : decode cX9_keeps 56 = .ok (.aload_n 0, 1) := by decide +kernel
theorem dX9_keeps_57 : decode cX9_keeps 57 = .ok (.getfield 25, 3) := by decide +kernel
theorem dX9_keeps_60 : decode cX9_keeps 60 = .ok (.bipush 7, 2) := by decide +kernel
theorem dX9_keeps_62 : decode cX9_keeps 62 = .ok (.aload_n 0, 1) := by decide +kernel
theorem dX9_keeps_63 : decode cX9_keeps 63 = .ok (.getfield 106, 3) := by decide +kernel
theorem dX9_keeps_66 : decode cX9_keeps 66 = .ok (.imul, 1) := by decide +kernel
theorem dX9_keeps_67 : decode cX9_keeps 67 = .ok (.iload_n 1, 1) := by decide +kernel
theorem dX9_keeps_68 : decode cX9_keeps 68 = .ok (.iadd, 1) := by decide +kernel
theorem dX9_keeps_69 : decode cX9_keeps 69 = .ok (.aload_n 0, 1) := by decide +kernel
theorem dX9_keeps_70 : decode cX9_keeps 70 = .ok (.getfield 22, 3) := by decide +kernel
theorem dX9_keeps_73 : decode cX9_keeps 73 = .ok (.iload_n 1, 1) := by decide +kernel
theorem dX9_keeps_74 : decode cX9_keeps 74 = .ok (.iaload, 1) := by decide +kernel
theorem dX9_keeps_75 : decode cX9_keeps 75 = .ok (.iastore, 1) := by decide +kernel
theorem dX9_keeps_76 : decode cX9_keeps 76 = .ok (.iinc 1 1, 3) := by decide +kernel
theorem dX9_keeps_79 : decode cX9_keeps 79 = .ok (.goto (-29), 3) := by decide +kernel
theorem dX9_keeps_82 : decode cX9_keeps 82 = .ok (.aload_n 0, 1) := by decide +kernel
theorem dX9_keeps_83 : decode cX9_keeps 83 = .ok (.dup, 1) := by decide +kernel
theorem dX9_keeps_84 : decode cX9_keeps 84 = .ok (.getfield 106, 3) := by decide +kernel
theorem dX9_keeps_87 : decode cX9_keeps 87 = .ok (.iconst 1, 1) := by decide +kernel
theorem dX9_keeps_88 : decode cX9_keeps 88 = .ok (.iadd, 1) := by decide +kernel
theorem dX9_keeps_89 : decode cX9_keeps 89 = .ok (.putfield 106, 3) := by decide +kernel
theorem dX9_keeps_92 : decode cX9_keeps 92 = .ok (.return_, 1) := by decide +kernel
theorem dX9_start_0 : decode cX9_start 0 = .ok (.aload_n 0, 1) := by decide +kernel
theorem dX9_start_1 : decode cX9_start 1 = .ok (.iload_n 1, 1) := by decide +kernel
theorem dX9_start_2 : decode cX9_start 2 = .ok (.invokevirtual 115, 3) := by decide +kernel
theorem dX9_start_5 : decode cX9_start 5 = .ok (.ifCond .eq 13, 3) := by decide +kernel
theorem dX9_start_8 : decode cX9_start 8 = .ok (.iload_n 2, 1) := by decide +kernel
theorem dX9_start_9 : decode cX9_start 9 = .ok (.iconst 0, 1) := by decide +kernel
theorem dX9_start_10 : decode cX9_start 10 = .ok (.bipush 30, 2) := by decide +kernel
theorem dX9_start_12 : decode cX9_start 12 = .ok (.invokestatic 73, 3) := by decide +kernel
theorem dX9_start_15 : decode cX9_start 15 = .ok (.ifCond .ne 5, 3) := by decide +kernel
theorem dX9_start_18 : decode cX9_start 18 = .ok (.iconst (-1), 1) := by decide +kernel
theorem dX9_start_19 : decode cX9_start 19 = .ok (.ireturn, 1) := by decide +kernel
theorem dX9_start_20 : decode cX9_start 20 = .ok (.aload_n 0, 1) := by decide +kernel
theorem dX9_start_21 : decode cX9_start 21 = .ok (.invokevirtual 124, 3) := by decide +kernel
theorem dX9_start_24 : decode cX9_start 24 = .ok (.aload_n 0, 1) := by decide +kernel
theorem dX9_start_25 : decode cX9_start 25 = .ok (.getfield 22, 3) := by decide +kernel
theorem dX9_start_28 : decode cX9_start 28 = .ok (.iload_n 1, 1) := by decide +kernel
theorem dX9_start_29 : decode cX9_start 29 = .ok (.iaload, 1) := by decide +kernel
theorem dX9_start_30 : decode cX9_start 30 = .ok (.istore_n 3, 1) := by decide +kernel
theorem dX9_start_31 : decode cX9_start 31 = .ok (.aload_n 0, 1) := by decide +kernel
theorem dX9_start_32 : decode cX9_start 32 = .ok (.getfield 22, 3) := by decide +kernel
theorem dX9_start_35 : decode cX9_start 35 = .ok (.iload_n 1, 1) := by decide +kernel
theorem dX9_start_36 : decode cX9_start 36 = .ok (.iload_n 2, 1) := by decide +kernel
theorem dX9_start_37 : decode cX9_start 37 = .ok (.iastore, 1) := by decide +kernel
theorem dX9_start_38 : decode cX9_start 38 = .ok (.iload_n 3, 1) := by decide +kernel
theorem dX9_start_39 : decode cX9_start 39 = .ok (.ireturn, 1) := by decide +kernel
theorem dX9_hold_0 : decode cX9_hold 0 = .ok (.aload_n 0, 1) := by decide +kernel
theorem dX9_hold_1 : decode cX9_hold 1 = .ok (.iload_n 1, 1) := by decide +kernel
theorem dX9_hold_2 : decode cX9_hold 2 = .ok (.invokevirtual 115, 3) := by decide +kernel
theorem dX9_hold_5 : decode cX9_hold 5 = .ok (.ifCond .ne 5, 3) := by decide +kernel
theorem dX9_hold_8 : decode cX9_hold 8 = .ok (.iconst (-1), 1) := by decide +kernel
theorem dX9_hold_9 : decode cX9_hold 9 = .ok (.ireturn, 1) := by decide +kernel
theorem dX9_hold_10 : decode cX9_hold 10 = .ok (.aload_n 0, 1) := by decide +kernel
theorem dX9_hold_11 : decode cX9_hold 11 = .ok (.invokevirtual 124, 3) := by decide +kernel
theorem dX9_hold_14 : decode cX9_hold 14 = .ok (.aload_n 0, 1) := by decide +kernel
theorem dX9_hold_15 : decode cX9_hold 15 = .ok (.getfield 22, 3) := by decide +kernel
theorem dX9_hold_18 : decode cX9_hold 18 = .ok (.iconst 5, 1) := by decide +kernel
theorem dX9_hold_19 : decode cX9_hold 19 = .ok (.dup2, 1) := by decide +kernel
theorem dX9_hold_20 : decode cX9_hold 20 = .ok (.iaload, 1) := by decide +kernel
theorem dX9_hold_21 : decode cX9_hold 21 = .ok (.iconst 1, 1) := by decide +kernel
theorem dX9_hold_22 : decode cX9_hold 22 = .ok (.iload_n 1, 1) := by decide +kernel
theorem dX9_hold_23 : decode cX9_hold 23 = .ok (.ishl, 1) := by decide +kernel
theorem dX9_hold_24 : decode cX9_hold 24 = .ok (.ixor, 1) := by decide +kernel
theorem dX9_hold_25 : decode cX9_hold 25 = .ok (.iastore, 1) := by decide +kernel
theorem dX9_hold_26 : decode cX9_hold 26 = .ok (.aload_n 0, 1) := by decide +kernel
theorem dX9_hold_27 : decode cX9_hold 27 = .ok (.getfield 22, 3) := by decide +kernel
theorem dX9_hold_30 : decode cX9_hold 30 = .ok (.iconst 5, 1) := by decide +kernel
theorem dX9_hold_31 : decode cX9_hold 31 = .ok (.iaload, 1) := by decide +kernel
theorem dX9_hold_32 : decode cX9_hold 32 = .ok (.iload_n 1, 1) := by decide +kernel
theorem dX9_hold_33 : decode cX9_hold 33 = .ok (.ishr, 1) := by decide +kernel
theorem dX9_hold_34 : decode cX9_hold 34 = .ok (.iconst 1, 1) := by decide +kernel
theorem dX9_hold_35 : decode cX9_hold 35 = .ok (.iand, 1) := by decide +kernel
theorem dX9_hold_36 : decode cX9_hold 36 = .ok (.ireturn, 1) := by decide +kernel
theorem dX9_pass_0 : decode cX9_pass 0 = .ok (.aload_n 0, 1) := by decide +kernel
theorem dX9_pass_1 : decode cX9_pass 1 = .ok (.iload_n 1, 1) := by decide +kernel
theorem dX9_pass_2 : decode cX9_pass 2 = .ok (.invokevirtual 121, 3) := by decide +kernel
theorem dX9_pass_5 : decode cX9_pass 5 = .ok (.ifCond .ne 5, 3) := by decide +kernel
theorem dX9_pass_8 : decode cX9_pass 8 = .ok (.iconst (-1), 1) := by decide +kernel
theorem dX9_pass_9 : decode cX9_pass 9 = .ok (.ireturn, 1) := by decide +kernel
theorem dX9_pass_10 : decode cX9_pass 10 = .ok (.iconst 0, 1) := by decide +kernel
theorem dX9_pass_11 : decode cX9_pass 11 = .ok (.istore_n 2, 1) := by decide +kernel
theorem dX9_pass_12 : decode cX9_pass 12 = .ok (.iconst 0, 1) := by decide +kernel
theorem dX9_pass_13 : decode cX9_pass 13 = .ok (.istore_n 3, 1) := by decide +kernel
theorem dX9_pass_14 : decode cX9_pass 14 = .ok (.iload_n 3, 1) := by decide +kernel
theorem dX9_pass_15 : decode cX9_pass 15 = .ok (.aload_n 0, 1) := by decide +kernel
theorem dX9_pass_16 : decode cX9_pass 16 = .ok (.getfield 13, 3) := by decide +kernel
theorem dX9_pass_19 : decode cX9_pass 19 = .ok (.iconst 2, 1) := by decide +kernel
theorem dX9_pass_20 : decode cX9_pass 20 = .ok (.iaload, 1) := by decide +kernel
theorem dX9_pass_21 : decode cX9_pass 21 = .ok (.if_icmp .ge 30, 3) := by decide +kernel
theorem dX9_pass_24 : decode cX9_pass 24 = .ok (.iload_n 2, 1) := by decide +kernel
theorem dX9_pass_25 : decode cX9_pass 25 = .ok (.aload_n 0, 1) := by decide +kernel
theorem dX9_pass_26 : decode cX9_pass 26 = .ok (.getfield 13, 3) := by decide +kernel
theorem dX9_pass_29 : decode cX9_pass 29 = .ok (.bipush 15, 2) := by decide +kernel
theorem dX9_pass_31 : decode cX9_pass 31 = .ok (.iload_n 3, 1) := by decide +kernel
theorem dX9_pass_32 : decode cX9_pass 32 = .ok (.iadd, 1) := by decide +kernel
theorem dX9_pass_33 : decode cX9_pass 33 = .ok (.iaload, 1) := by decide +kernel
theorem dX9_pass_34 : decode cX9_pass 34 = .ok (.iload_n 1, 1) := by decide +kernel
theorem dX9_pass_35 : decode cX9_pass 35 = .ok (.if_icmp .ne 7, 3) := by decide +kernel
theorem dX9_pass_38 : decode cX9_pass 38 = .ok (.iconst 1, 1) := by decide +kernel
theorem dX9_pass_39 : decode cX9_pass 39 = .ok (.goto 4, 3) := by decide +kernel
theorem dX9_pass_42 : decode cX9_pass 42 = .ok (.iconst 0, 1) := by decide +kernel
theorem dX9_pass_43 : decode cX9_pass 43 = .ok (.iadd, 1) := by decide +kernel
theorem dX9_pass_44 : decode cX9_pass 44 = .ok (.istore_n 2, 1) := by decide +kernel
theorem dX9_pass_45 : decode cX9_pass 45 = .ok (.iinc 3 1, 3) := by decide +kernel
theorem dX9_pass_48 : decode cX9_pass 48 = .ok (.goto (-34), 3) := by decide +kernel
theorem dX9_pass_51 : decode cX9_pass 51 = .ok (.iload_n 2, 1) := by decide +kernel
theorem dX9_pass_52 : decode cX9_pass 52 = .ok (.iconst 1, 1) := by decide +kernel
theorem dX9_pass_53 : decode cX9_pass 53 = .ok (.if_icmp .le 6, 3) := by decide +kernel
theorem dX9_pass_56 : decode cX9_pass 56 = .ok (.bipush (-2), 2) := by decide +kernel
theorem dX9_pass_58 : decode cX9_pass 58 = .ok (.ireturn, 1) := by decide +kernel
theorem dX9_pass_59 : decode cX9_pass 59 = .ok (.aload_n 0, 1) := by decide +kernel
theorem dX9_pass_60 : decode cX9_pass 60 = .ok (.invokevirtual 124, 3) := by decide +kernel
theorem dX9_pass_63 : decode cX9_pass 63 = .ok (.aload_n 0, 1) := by decide +kernel
theorem dX9_pass_64 : decode cX9_pass 64 = .ok (.getfield 22, 3) := by decide +kernel
theorem dX9_pass_67 : decode cX9_pass 67 = .ok (.bipush 6, 2) := by decide +kernel
theorem dX9_pass_69 : decode cX9_pass 69 = .ok (.dup2, 1) := by decide +kernel
theorem dX9_pass_70 : decode cX9_pass 70 = .ok (.iaload, 1) := by decide +kernel
theorem dX9_pass_71 : decode cX9_pass 71 = .ok (.iconst 1, 1) := by decide +kernel
theorem dX9_pass_72 : decode cX9_pass 72 = .ok (.iload_n 1, 1) := by decide +kernel
theorem dX9_pass_73 : decode cX9_pass 73 = .ok (.ishl, 1) := by decide +kernel
theorem dX9_pass_74 : decode cX9_pass 74 = .ok (.ixor, 1) := by decide +kernel
theorem dX9_pass_75 : decode cX9_pass 75 = .ok (.iastore, 1) := by decide +kernel
theorem dX9_pass_76 : decode cX9_pass 76 = .ok (.aload_n 0, 1) := by decide +kernel
theorem dX9_pass_77 : decode cX9_pass 77 = .ok (.getfield 22, 3) := by decide +kernel
theorem dX9_pass_80 : decode cX9_pass 80 = .ok (.bipush 6, 2) := by decide +kernel
theorem dX9_pass_82 : decode cX9_pass 82 = .ok (.iaload, 1) := by decide +kernel
theorem dX9_pass_83 : decode cX9_pass 83 = .ok (.iload_n 1, 1) := by decide +kernel
theorem dX9_pass_84 : decode cX9_pass 84 = .ok (.ishr, 1) := by decide +kernel
theorem dX9_pass_85 : decode cX9_pass 85 = .ok (.iconst 1, 1) := by decide +kernel
theorem dX9_pass_86 : decode cX9_pass 86 = .ok (.iand, 1) := by decide +kernel
theorem dX9_pass_87 : decode cX9_pass 87 = .ok (.ireturn, 1) := by decide +kernel
theorem dX9_undo_0 : decode cX9_undo 0 = .ok (.aload_n 0, 1) := by decide +kernel
theorem dX9_undo_1 : decode cX9_undo 1 = .ok (.getfield 106, 3) := by decide +kernel
theorem dX9_undo_4 : decode cX9_undo 4 = .ok (.ifCond .ne 6, 3) := by decide +kernel
theorem dX9_undo_7 : decode cX9_undo 7 = .ok (.bipush (-2), 2) := by decide +kernel
theorem dX9_undo_9 : decode cX9_undo 9 = .ok (.ireturn, 1) := by decide +kernel
theorem dX9_undo_10 : decode cX9_undo 10 = .ok (.aload_n 0, 1) := by decide +kernel
theorem dX9_undo_11 : decode cX9_undo 11 = .ok (.dup, 1) := by decide +kernel
theorem dX9_undo_12 : decode cX9_undo 12 = .ok (.getfield 106, 3) := by decide +kernel
theorem dX9_undo_15 : decode cX9_undo 15 = .ok (.iconst 1, 1) := by decide +kernel
theorem dX9_undo_16 : decode cX9_undo 16 = .ok (.isub, 1) := by decide +kernel
theorem dX9_undo_17 : decode cX9_undo 17 = .ok (.putfield 106, 3) := by decide +kernel
theorem dX9_undo_20 : decode cX9_undo 20 = .ok (.iconst 0, 1) := by decide +kernel
theorem dX9_undo_21 : decode cX9_undo 21 = .ok (.istore_n 1, 1) := by decide +kernel
theorem dX9_undo_22 : decode cX9_undo 22 = .ok (.iload_n 1, 1) := by decide +kernel
theorem dX9_undo_23 : decode cX9_undo 23 = .ok (.bipush 7, 2) := by decide +kernel
theorem dX9_undo_25 : decode cX9_undo 25 = .ok (.if_icmp .ge 29, 3) := by decide +kernel
theorem dX9_undo_28 : decode cX9_undo 28 = .ok (.aload_n 0, 1) := by decide +kernel
theorem dX9_undo_29 : decode cX9_undo 29 = .ok (.getfield 22, 3) := by decide +kernel
theorem dX9_undo_32 : decode cX9_undo 32 = .ok (.iload_n 1, 1) := by decide +kernel
theorem dX9_undo_33 : decode cX9_undo 33 = .ok (.aload_n 0, 1) := by decide +kernel
theorem dX9_undo_34 : decode cX9_undo 34 = .ok (.getfield 25, 3) := by decide +kernel
theorem dX9_undo_37 : decode cX9_undo 37 = .ok (.bipush 7, 2) := by decide +kernel
theorem dX9_undo_39 : decode cX9_undo 39 = .ok (.aload_n 0, 1) := by decide +kernel
theorem dX9_undo_40 : decode cX9_undo 40 = .ok (.getfield 106, 3) := by decide +kernel
theorem dX9_undo_43 : decode cX9_undo 43 = .ok (.imul, 1) := by decide +kernel
theorem dX9_undo_44 : decode cX9_undo 44 = .ok (.iload_n 1, 1) := by decide +kernel
theorem dX9_undo_45 : decode cX9_undo 45 = .ok (.iadd, 1) := by decide +kernel
theorem dX9_undo_46 : decode cX9_undo 46 = .ok (.iaload, 1) := by decide +kernel
theorem dX9_undo_47 : decode cX9_undo 47 = .ok (.iastore, 1) := by decide +kernel
theorem dX9_undo_48 : decode cX9_undo 48 = .ok (.iinc 1 1, 3) := by decide +kernel
theorem dX9_undo_51 : decode cX9_undo 51 = .ok (.goto (-29), 3) := by decide +kernel
theorem dX9_undo_54 : decode cX9_undo 54 = .ok (.aload_n 0, 1) := by decide +kernel
theorem dX9_undo_55 : decode cX9_undo 55 = .ok (.getfield 106, 3) := by decide +kernel
theorem dX9_undo_58 : decode cX9_undo 58 = .ok (.ireturn, 1) := by decide +kernel
theorem dX9_isTrainAt_0 : decode cX9_isTrainAt 0 = .ok (.iconst 0, 1) := by decide +kernel
theorem dX9_isTrainAt_1 : decode cX9_isTrainAt 1 = .ok (.istore_n 2, 1) := by decide +kernel
theorem dX9_isTrainAt_2 : decode cX9_isTrainAt 2 = .ok (.iconst 0, 1) := by decide +kernel
theorem dX9_isTrainAt_3 : decode cX9_isTrainAt 3 = .ok (.istore_n 3, 1) := by decide +kernel
theorem dX9_isTrainAt_4 : decode cX9_isTrainAt 4 = .ok (.iload_n 3, 1) := by decide +kernel
theorem dX9_isTrainAt_5 : decode cX9_isTrainAt 5 = .ok (.aload_n 0, 1) := by decide +kernel
theorem dX9_isTrainAt_6 : decode cX9_isTrainAt 6 = .ok (.getfield 13, 3) := by decide +kernel
theorem dX9_isTrainAt_9 : decode cX9_isTrainAt 9 = .ok (.iconst 1, 1) := by decide +kernel
theorem dX9_isTrainAt_10 : decode cX9_isTrainAt 10 = .ok (.iaload, 1) := by decide +kernel
theorem dX9_isTrainAt_11 : decode cX9_isTrainAt 11 = .ok (.if_icmp .ge 31, 3) := by decide +kernel
theorem dX9_isTrainAt_14 : decode cX9_isTrainAt 14 = .ok (.iload_n 2, 1) := by decide +kernel
theorem dX9_isTrainAt_15 : decode cX9_isTrainAt 15 = .ok (.ifCond .ne 15, 3) := by decide +kernel
theorem dX9_isTrainAt_18 : decode cX9_isTrainAt 18 = .ok (.aload_n 0, 1) := by decide +kernel
theorem dX9_isTrainAt_19 : decode cX9_isTrainAt 19 = .ok (.getfield 13, 3) := by decide +kernel
theorem dX9_isTrainAt_22 : decode cX9_isTrainAt 22 = .ok (.iconst 5, 1) := by decide +kernel
theorem dX9_isTrainAt_23 : decode cX9_isTrainAt 23 = .ok (.iload_n 3, 1) := by decide +kernel
theorem dX9_isTrainAt_24 : decode cX9_isTrainAt 24 = .ok (.iadd, 1) := by decide +kernel
theorem dX9_isTrainAt_25 : decode cX9_isTrainAt 25 = .ok (.iaload, 1) := by decide +kernel
theorem dX9_isTrainAt_26 : decode cX9_isTrainAt 26 = .ok (.iload_n 1, 1) := by decide +kernel
theorem dX9_isTrainAt_27 : decode cX9_isTrainAt 27 = .ok (.if_icmp .ne 7, 3) := by decide +kernel
theorem dX9_isTrainAt_30 : decode cX9_isTrainAt 30 = .ok (.iconst 1, 1) := by decide +kernel
theorem dX9_isTrainAt_31 : decode cX9_isTrainAt 31 = .ok (.goto 4, 3) := by decide +kernel
theorem dX9_isTrainAt_34 : decode cX9_isTrainAt 34 = .ok (.iconst 0, 1) := by decide +kernel
theorem dX9_isTrainAt_35 : decode cX9_isTrainAt 35 = .ok (.istore_n 2, 1) := by decide +kernel
theorem dX9_isTrainAt_36 : decode cX9_isTrainAt 36 = .ok (.iinc 3 1, 3) := by decide +kernel
theorem dX9_isTrainAt_39 : decode cX9_isTrainAt 39 = .ok (.goto (-35), 3) := by decide +kernel
theorem dX9_isTrainAt_42 : decode cX9_isTrainAt 42 = .ok (.iload_n 2, 1) := by decide +kernel
theorem dX9_isTrainAt_43 : decode cX9_isTrainAt 43 = .ok (.ireturn, 1) := by decide +kernel
theorem dX9_others_0 : decode cX9_others 0 = .ok (.iconst 0, 1) := by decide +kernel
theorem dX9_others_1 : decode cX9_others 1 = .ok (.istore 4, 2) := by decide +kernel
theorem dX9_others_3 : decode cX9_others 3 = .ok (.iconst 0, 1) := by decide +kernel
theorem dX9_others_4 : decode cX9_others 4 = .ok (.istore 5, 2) := by decide +kernel
theorem dX9_others_6 : decode cX9_others 6 = .ok (.iload 5, 2) := by decide +kernel
theorem dX9_others_8 : decode cX9_others 8 = .ok (.aload_n 0, 1) := by decide +kernel
theorem dX9_others_9 : decode cX9_others 9 = .ok (.getfield 13, 3) := by decide +kernel
theorem dX9_others_12 : decode cX9_others 12 = .ok (.iconst 2, 1) := by decide +kernel
theorem dX9_others_13 : decode cX9_others 13 = .ok (.iaload, 1) := by decide +kernel
theorem dX9_others_14 : decode cX9_others 14 = .ok (.if_icmp .ge 38, 3) := by decide +kernel
theorem dX9_others_17 : decode cX9_others 17 = .ok (.iload 4, 2) := by decide +kernel
theorem dX9_others_19 : decode cX9_others 19 = .ok (.iload 5, 2) := by decide +kernel
theorem dX9_others_21 : decode cX9_others 21 = .ok (.iload_n 1, 1) := by decide +kernel
theorem dX9_others_22 : decode cX9_others 22 = .ok (.if_icmp .eq 20, 3) := by decide +kernel
theorem dX9_others_25 : decode cX9_others 25 = .ok (.aload_n 0, 1) := by decide +kernel
theorem dX9_others_26 : decode cX9_others 26 = .ok (.getfield 34, 3) := by decide +kernel
theorem dX9_others_29 : decode cX9_others 29 = .ok (.iload_n 3, 1) := by decide +kernel
theorem dX9_others_30 : decode cX9_others 30 = .ok (.iload 5, 2) := by decide +kernel
theorem dX9_others_32 : decode cX9_others 32 = .ok (.iadd, 1) := by decide +kernel
theorem dX9_others_33 : decode cX9_others 33 = .ok (.iaload, 1) := by decide +kernel
theorem dX9_others_34 : decode cX9_others 34 = .ok (.iload_n 2, 1) := by decide +kernel
theorem dX9_others_35 : decode cX9_others 35 = .ok (.if_icmp .ne 7, 3) := by decide +kernel
theorem dX9_others_38 : decode cX9_others 38 = .ok (.iconst 1, 1) := by decide +kernel
theorem dX9_others_39 : decode cX9_others 39 = .ok (.goto 4, 3) := by decide +kernel
theorem dX9_others_42 : decode cX9_others 42 = .ok (.iconst 0, 1) := by decide +kernel
theorem dX9_others_43 : decode cX9_others 43 = .ok (.iadd, 1) := by decide +kernel
theorem dX9_others_44 : decode cX9_others 44 = .ok (.istore 4, 2) := by decide +kernel
theorem dX9_others_46 : decode cX9_others 46 = .ok (.iinc 5 1, 3) := by decide +kernel
theorem dX9_others_49 : decode cX9_others 49 = .ok (.goto (-43), 3) := by decide +kernel
theorem dX9_others_52 : decode cX9_others 52 = .ok (.iload 4, 2) := by decide +kernel
theorem dX9_others_54 : decode cX9_others 54 = .ok (.ireturn, 1) := by decide +kernel
theorem dX9_isHeld_0 : decode cX9_isHeld 0 = .ok (.iload_n 1, 1) := by decide +kernel
theorem dX9_isHeld_1 : decode cX9_isHeld 1 = .ok (.aload_n 0, 1) := by decide +kernel
theorem dX9_isHeld_2 : decode cX9_isHeld 2 = .ok (.getfield 46, 3) := by decide +kernel
theorem dX9_isHeld_5 : decode cX9_isHeld 5 = .ok (.if_icmp .ne 33, 3) := by decide +kernel
theorem dX9_isHeld_8 : decode cX9_isHeld 8 = .ok (.iload_n 2, 1) := by decide +kernel
theorem dX9_isHeld_9 : decode cX9_isHeld 9 = .ok (.aload_n 0, 1) := by decide +kernel
theorem dX9_isHeld_10 : decode cX9_isHeld 10 = .ok (.getfield 127, 3) := by decide +kernel
theorem dX9_isHeld_13 : decode cX9_isHeld 13 = .ok (.if_icmp .gt 25, 3) := by decide +kernel
theorem dX9_isHeld_16 : decode cX9_isHeld 16 = .ok (.aload_n 0, 1) := by decide +kernel
theorem dX9_isHeld_17 : decode cX9_isHeld 17 = .ok (.getfield 130, 3) := by decide +kernel
theorem dX9_isHeld_20 : decode cX9_isHeld 20 = .ok (.iload_n 2, 1) := by decide +kernel
theorem dX9_isHeld_21 : decode cX9_isHeld 21 = .ok (.iconst 1, 1) := by decide +kernel
theorem dX9_isHeld_22 : decode cX9_isHeld 22 = .ok (.isub, 1) := by decide +kernel
theorem dX9_isHeld_23 : decode cX9_isHeld 23 = .ok (.ishr, 1) := by decide +kernel
theorem dX9_isHeld_24 : decode cX9_isHeld 24 = .ok (.iconst 1, 1) := by decide +kernel
theorem dX9_isHeld_25 : decode cX9_isHeld 25 = .ok (.iand, 1) := by decide +kernel
theorem dX9_isHeld_26 : decode cX9_isHeld 26 = .ok (.iconst 1, 1) := by decide +kernel
theorem dX9_isHeld_27 : decode cX9_isHeld 27 = .ok (.if_icmp .ne 7, 3) := by decide +kernel
theorem dX9_isHeld_30 : decode cX9_isHeld 30 = .ok (.iconst 1, 1) := by decide +kernel
theorem dX9_isHeld_31 : decode cX9_isHeld 31 = .ok (.goto 26, 3) := by decide +kernel
theorem dX9_isHeld_34 : decode cX9_isHeld 34 = .ok (.iconst 0, 1) := by decide +kernel
theorem dX9_isHeld_35 : decode cX9_isHeld 35 = .ok (.goto 22, 3) := by decide +kernel
theorem dX9_isHeld_38 : decode cX9_isHeld 38 = .ok (.aload_n 0, 1) := by decide +kernel
theorem dX9_isHeld_39 : decode cX9_isHeld 39 = .ok (.getfield 22, 3) := by decide +kernel
theorem dX9_isHeld_42 : decode cX9_isHeld 42 = .ok (.iconst 5, 1) := by decide +kernel
theorem dX9_isHeld_43 : decode cX9_isHeld 43 = .ok (.iaload, 1) := by decide +kernel
theorem dX9_isHeld_44 : decode cX9_isHeld 44 = .ok (.iload_n 1, 1) := by decide +kernel
theorem dX9_isHeld_45 : decode cX9_isHeld 45 = .ok (.ishr, 1) := by decide +kernel
theorem dX9_isHeld_46 : decode cX9_isHeld 46 = .ok (.iconst 1, 1) := by decide +kernel
theorem dX9_isHeld_47 : decode cX9_isHeld 47 = .ok (.iand, 1) := by decide +kernel
theorem dX9_isHeld_48 : decode cX9_isHeld 48 = .ok (.iconst 1, 1) := by decide +kernel
theorem dX9_isHeld_49 : decode cX9_isHeld 49 = .ok (.if_icmp .ne 7, 3) := by decide +kernel
theorem dX9_isHeld_52 : decode cX9_isHeld 52 = .ok (.iconst 1, 1) := by decide +kernel
theorem dX9_isHeld_53 : decode cX9_isHeld 53 = .ok (.goto 4, 3) := by decide +kernel
theorem dX9_isHeld_56 : decode cX9_isHeld 56 = .ok (.iconst 0, 1) := by decide +kernel
theorem dX9_isHeld_57 : decode cX9_isHeld 57 = .ok (.ireturn, 1) := by decide +kernel
theorem dX9_moves_0 : decode cX9_moves 0 = .ok (.aload_n 0, 1) := by decide +kernel
theorem dX9_moves_1 : decode cX9_moves 1 = .ok (.getfield 34, 3) := by decide +kernel
theorem dX9_moves_4 : decode cX9_moves 4 = .ok (.iload_n 2, 1) := by decide +kernel
theorem dX9_moves_5 : decode cX9_moves 5 = .ok (.iload_n 1, 1) := by decide +kernel
theorem dX9_moves_6 : decode cX9_moves 6 = .ok (.iadd, 1) := by decide +kernel
theorem dX9_moves_7 : decode cX9_moves 7 = .ok (.iaload, 1) := by decide +kernel
theorem dX9_moves_8 : decode cX9_moves 8 = .ok (.aload_n 0, 1) := by decide +kernel
theorem dX9_moves_9 : decode cX9_moves 9 = .ok (.getfield 43, 3) := by decide +kernel
theorem dX9_moves_12 : decode cX9_moves 12 = .ok (.iload_n 1, 1) := by decide +kernel
theorem dX9_moves_13 : decode cX9_moves 13 = .ok (.iaload, 1) := by decide +kernel
theorem dX9_moves_14 : decode cX9_moves 14 = .ok (.iconst 1, 1) := by decide +kernel
theorem dX9_moves_15 : decode cX9_moves 15 = .ok (.if_icmp .ne 14, 3) := by decide +kernel
theorem dX9_moves_18 : decode cX9_moves 18 = .ok (.aload_n 0, 1) := by decide +kernel
theorem dX9_moves_19 : decode cX9_moves 19 = .ok (.getfield 13, 3) := by decide +kernel
theorem dX9_moves_22 : decode cX9_moves 22 = .ok (.iconst 0, 1) := by decide +kernel
theorem dX9_moves_23 : decode cX9_moves 23 = .ok (.iaload, 1) := by decide +kernel
theorem dX9_moves_24 : decode cX9_moves 24 = .ok (.iconst 1, 1) := by decide +kernel
theorem dX9_moves_25 : decode cX9_moves 25 = .ok (.isub, 1) := by decide +kernel
theorem dX9_moves_26 : decode cX9_moves 26 = .ok (.goto 4, 3) := by decide +kernel
theorem dX9_moves_29 : decode cX9_moves 29 = .ok (.iconst 1, 1) := by decide +kernel
theorem dX9_moves_30 : decode cX9_moves 30 = .ok (.iadd, 1) := by decide +kernel
theorem dX9_moves_31 : decode cX9_moves 31 = .ok (.aload_n 0, 1) := by decide +kernel
theorem dX9_moves_32 : decode cX9_moves 32 = .ok (.getfield 13, 3) := by decide +kernel
theorem dX9_moves_35 : decode cX9_moves 35 = .ok (.iconst 0, 1) := by decide +kernel
theorem dX9_moves_36 : decode cX9_moves 36 = .ok (.iaload, 1) := by decide +kernel
theorem dX9_moves_37 : decode cX9_moves 37 = .ok (.irem, 1) := by decide +kernel
theorem dX9_moves_38 : decode cX9_moves 38 = .ok (.istore_n 3, 1) := by decide +kernel
theorem dX9_moves_39 : decode cX9_moves 39 = .ok (.aload_n 0, 1) := by decide +kernel
theorem dX9_moves_40 : decode cX9_moves 40 = .ok (.iload_n 1, 1) := by decide +kernel
theorem dX9_moves_41 : decode cX9_moves 41 = .ok (.iload_n 3, 1) := by decide +kernel
theorem dX9_moves_42 : decode cX9_moves 42 = .ok (.iload_n 2, 1) := by decide +kernel
theorem dX9_moves_43 : decode cX9_moves 43 = .ok (.invokevirtual 133, 3) := by decide +kernel
theorem dX9_moves_46 : decode cX9_moves 46 = .ok (.aload_n 0, 1) := by decide +kernel
theorem dX9_moves_47 : decode cX9_moves 47 = .ok (.getfield 22, 3) := by decide +kernel
theorem dX9_moves_50 : decode cX9_moves 50 = .ok (.bipush 6, 2) := by decide +kernel
theorem dX9_moves_52 : decode cX9_moves 52 = .ok (.iaload, 1) := by decide +kernel
theorem dX9_moves_53 : decode cX9_moves 53 = .ok (.iload_n 3, 1) := by decide +kernel
theorem dX9_moves_54 : decode cX9_moves 54 = .ok (.ishr, 1) := by decide +kernel
theorem dX9_moves_55 : decode cX9_moves 55 = .ok (.iconst 1, 1) := by decide +kernel
theorem dX9_moves_56 : decode cX9_moves 56 = .ok (.iand, 1) := by decide +kernel
theorem dX9_moves_57 : decode cX9_moves 57 = .ok (.if_icmp .le 5, 3) := by decide +kernel
theorem dX9_moves_60 : decode cX9_moves 60 = .ok (.iconst 0, 1) := by decide +kernel
theorem dX9_moves_61 : decode cX9_moves 61 = .ok (.ireturn, 1) := by decide +kernel
theorem dX9_moves_62 : decode cX9_moves 62 = .ok (.aload_n 0, 1) := by decide +kernel
theorem dX9_moves_63 : decode cX9_moves 63 = .ok (.getfield 34, 3) := by decide +kernel
theorem dX9_moves_66 : decode cX9_moves 66 = .ok (.iload_n 2, 1) := by decide +kernel
theorem dX9_moves_67 : decode cX9_moves 67 = .ok (.iload_n 1, 1) := by decide +kernel
theorem dX9_moves_68 : decode cX9_moves 68 = .ok (.iadd, 1) := by decide +kernel
theorem dX9_moves_69 : decode cX9_moves 69 = .ok (.iload_n 3, 1) := by decide +kernel
theorem dX9_moves_70 : decode cX9_moves 70 = .ok (.iastore, 1) := by decide +kernel
theorem dX9_moves_71 : decode cX9_moves 71 = .ok (.iconst 1, 1) := by decide +kernel
theorem dX9_moves_72 : decode cX9_moves 72 = .ok (.ireturn, 1) := by decide +kernel
theorem dX9_goes_0 : decode cX9_goes 0 = .ok (.aload_n 0, 1) := by decide +kernel
theorem dX9_goes_1 : decode cX9_goes 1 = .ok (.getfield 13, 3) := by decide +kernel
theorem dX9_goes_4 : decode cX9_goes 4 = .ok (.bipush 10, 2) := by decide +kernel
theorem dX9_goes_6 : decode cX9_goes 6 = .ok (.iload_n 1, 1) := by decide +kernel
theorem dX9_goes_7 : decode cX9_goes 7 = .ok (.iadd, 1) := by decide +kernel
theorem dX9_goes_8 : decode cX9_goes 8 = .ok (.iaload, 1) := by decide +kernel
theorem dX9_goes_9 : decode cX9_goes 9 = .ok (.istore 4, 2) := by decide +kernel
theorem dX9_goes_11 : decode cX9_goes 11 = .ok (.aload_n 0, 1) := by decide +kernel
theorem dX9_goes_12 : decode cX9_goes 12 = .ok (.getfield 136, 3) := by decide +kernel
theorem dX9_goes_15 : decode cX9_goes 15 = .ok (.iload_n 1, 1) := by decide +kernel
theorem dX9_goes_16 : decode cX9_goes 16 = .ok (.ishr, 1) := by decide +kernel
theorem dX9_goes_17 : decode cX9_goes 17 = .ok (.iconst 1, 1) := by decide +kernel
theorem dX9_goes_18 : decode cX9_goes 18 = .ok (.iand, 1) := by decide +kernel
theorem dX9_goes_19 : decode cX9_goes 19 = .ok (.iconst 1, 1) := by decide +kernel
theorem dX9_goes_20 : decode cX9_goes 20 = .ok (.if_icmp .ne 7, 3) := by decide +kernel
theorem dX9_goes_23 : decode cX9_goes 23 = .ok (.iconst 1, 1) := by decide +kernel
theorem dX9_goes_24 : decode cX9_goes 24 = .ok (.goto 4, 3) := by decide +kernel
theorem dX9_goes_27 : decode cX9_goes 27 = .ok (.iconst 0, 1) := by decide +kernel
theorem dX9_goes_28 : decode cX9_goes 28 = .ok (.istore 5, 2) := by decide +kernel
theorem dX9_goes_30 : decode cX9_goes 30 = .ok (.aload_n 0, 1) := by decide +kernel
theorem dX9_goes_31 : decode cX9_goes 31 = .ok (.dup, 1) := by decide +kernel
theorem dX9_goes_32 : decode cX9_goes 32 = .ok (.getfield 136, 3) := by decide +kernel
theorem dX9_goes_35 : decode cX9_goes 35 = .ok (.iconst 1, 1) := by decide +kernel
theorem dX9_goes_36 : decode cX9_goes 36 = .ok (.iload_n 1, 1) := by decide +kernel
theorem dX9_goes_37 : decode cX9_goes 37 = .ok (.ishl, 1) := by decide +kernel
theorem dX9_goes_38 : decode cX9_goes 38 = .ok (.iconst (-1), 1) := by decide +kernel
theorem dX9_goes_39 : decode cX9_goes 39 = .ok (.ixor, 1) := by decide +kernel
theorem dX9_goes_40 : decode cX9_goes 40 = .ok (.iand, 1) := by decide +kernel
theorem dX9_goes_41 : decode cX9_goes 41 = .ok (.putfield 136, 3) := by decide +kernel
theorem dX9_goes_44 : decode cX9_goes 44 = .ok (.iload_n 2, 1) := by decide +kernel
theorem dX9_goes_45 : decode cX9_goes 45 = .ok (.aload_n 0, 1) := by decide +kernel
theorem dX9_goes_46 : decode cX9_goes 46 = .ok (.getfield 22, 3) := by decide +kernel
theorem dX9_goes_49 : decode cX9_goes 49 = .ok (.iload_n 1, 1) := by decide +kernel
theorem dX9_goes_50 : decode cX9_goes 50 = .ok (.iaload, 1) := by decide +kernel
theorem dX9_goes_51 : decode cX9_goes 51 = .ok (.if_icmp .lt 36, 3) := by decide +kernel
theorem dX9_goes_54 : decode cX9_goes 54 = .ok (.aload_n 0, 1) := by decide +kernel
theorem dX9_goes_55 : decode cX9_goes 55 = .ok (.iload_n 1, 1) := by decide +kernel
theorem dX9_goes_56 : decode cX9_goes 56 = .ok (.iload_n 2, 1) := by decide +kernel
theorem dX9_goes_57 : decode cX9_goes 57 = .ok (.invokevirtual 139, 3) := by decide +kernel
theorem dX9_goes_60 : decode cX9_goes 60 = .ok (.ifCond .ne 27, 3) := by decide +kernel
theorem dX9_goes_63 : decode cX9_goes 63 = .ok (.iload 4, 2) := by decide +kernel
theorem dX9_goes_65 : decode cX9_goes 65 = .ok (.iconst 1, 1) := by decide +kernel
theorem dX9_goes_66 : decode cX9_goes 66 = .ok (.if_icmp .ne 10, 3) := by decide +kernel
theorem dX9_goes_69 : decode cX9_goes 69 = .ok (.iload_n 2, 1) := by decide +kernel
theorem dX9_goes_70 : decode cX9_goes 70 = .ok (.iconst 2, 1) := by decide +kernel
theorem dX9_goes_71 : decode cX9_goes 71 = .ok (.irem, 1) := by decide +kernel
theorem dX9_goes_72 : decode cX9_goes 72 = .ok (.iconst 1, 1) := by decide +kernel
theorem dX9_goes_73 : decode cX9_goes 73 = .ok (.if_icmp .eq 14, 3) := by decide +kernel
theorem dX9_goes_76 : decode cX9_goes 76 = .ok (.iload 4, 2) := by decide +kernel
theorem dX9_goes_78 : decode cX9_goes 78 = .ok (.iconst 2, 1) := by decide +kernel
theorem dX9_goes_79 : decode cX9_goes 79 = .ok (.if_icmp .ne 9, 3) := by decide +kernel
theorem dX9_goes_82 : decode cX9_goes 82 = .ok (.iload 5, 2) := by decide +kernel
theorem dX9_goes_84 : decode cX9_goes 84 = .ok (.ifCond .eq 4, 3) := by decide +kernel
theorem dX9_goes_87 : decode cX9_goes 87 = .ok (.return_, 1) := by decide +kernel
theorem dX9_goes_88 : decode cX9_goes 88 = .ok (.aload_n 0, 1) := by decide +kernel
theorem dX9_goes_89 : decode cX9_goes 89 = .ok (.getfield 34, 3) := by decide +kernel
theorem dX9_goes_92 : decode cX9_goes 92 = .ok (.iload_n 3, 1) := by decide +kernel
theorem dX9_goes_93 : decode cX9_goes 93 = .ok (.iload_n 1, 1) := by decide +kernel
theorem dX9_goes_94 : decode cX9_goes 94 = .ok (.iadd, 1) := by decide +kernel
theorem dX9_goes_95 : decode cX9_goes 95 = .ok (.iaload, 1) := by decide +kernel
theorem dX9_goes_96 : decode cX9_goes 96 = .ok (.istore 6, 2) := by decide +kernel
theorem dX9_goes_98 : decode cX9_goes 98 = .ok (.aload_n 0, 1) := by decide +kernel
theorem dX9_goes_99 : decode cX9_goes 99 = .ok (.iload_n 1, 1) := by decide +kernel
theorem dX9_goes_100 : decode cX9_goes 100 = .ok (.iload_n 3, 1) := by decide +kernel
theorem dX9_goes_101 : decode cX9_goes 101 = .ok (.invokevirtual 143, 3) := by decide +kernel
theorem dX9_goes_104 : decode cX9_goes 104 = .ok (.istore 7, 2) := by decide +kernel
theorem dX9_goes_106 : decode cX9_goes 106 = .ok (.iload 7, 2) := by decide +kernel
theorem dX9_goes_108 : decode cX9_goes 108 = .ok (.ifCond .eq 22, 3) := by decide +kernel
theorem dX9_goes_111 : decode cX9_goes 111 = .ok (.iload 4, 2) := by decide +kernel
theorem dX9_goes_113 : decode cX9_goes 113 = .ok (.iconst 4, 1) := by decide +kernel
theorem dX9_goes_114 : decode cX9_goes 114 = .ok (.if_icmp .ne 12, 3) := by decide +kernel
theorem dX9_goes_117 : decode cX9_goes 117 = .ok (.aload_n 0, 1) := by decide +kernel
theorem dX9_goes_118 : decode cX9_goes 118 = .ok (.iload_n 1, 1) := by decide +kernel
theorem dX9_goes_119 : decode cX9_goes 119 = .ok (.iload_n 3, 1) := by decide +kernel
theorem dX9_goes_120 : decode cX9_goes 120 = .ok (.invokevirtual 143, 3) := by decide +kernel
theorem dX9_goes_123 : decode cX9_goes 123 = .ok (.ifCond .eq 7, 3) := by decide +kernel
theorem dX9_goes_126 : decode cX9_goes 126 = .ok (.iconst 1, 1) := by decide +kernel
theorem dX9_goes_127 : decode cX9_goes 127 = .ok (.goto 4, 3) := by decide +kernel
theorem dX9_goes_130 : decode cX9_goes 130 = .ok (.iconst 0, 1) := by decide +kernel
theorem dX9_goes_131 : decode cX9_goes 131 = .ok (.istore 8, 2) := by decide +kernel
theorem dX9_goes_133 : decode cX9_goes 133 = .ok (.iload 8, 2) := by decide +kernel
theorem dX9_goes_135 : decode cX9_goes 135 = .ok (.ifCond .ne 54, 3) := by decide +kernel
theorem dX9_goes_138 : decode cX9_goes 138 = .ok (.aload_n 0, 1) := by decide +kernel
theorem dX9_goes_139 : decode cX9_goes 139 = .ok (.getfield 37, 3) := by decide +kernel
theorem dX9_goes_142 : decode cX9_goes 142 = .ok (.iload_n 3, 1) := by decide +kernel
theorem dX9_goes_143 : decode cX9_goes 143 = .ok (.iload_n 1, 1) := by decide +kernel
theorem dX9_goes_144 : decode cX9_goes 144 = .ok (.iadd, 1) := by decide +kernel
theorem dX9_goes_145 : decode cX9_goes 145 = .ok (.dup2, 1) := by decide +kernel
theorem dX9_goes_146 : decode cX9_goes 146 = .ok (.iaload, 1) := by decide +kernel
theorem dX9_goes_147 : decode cX9_goes 147 = .ok (.iconst 1, 1) := by decide +kernel
theorem dX9_goes_148 : decode cX9_goes 148 = .ok (.iadd, 1) := by decide +kernel
theorem dX9_goes_149 : decode cX9_goes 149 = .ok (.iastore, 1) := by decide +kernel
theorem dX9_goes_150 : decode cX9_goes 150 = .ok (.aload_n 0, 1) := by decide +kernel
theorem dX9_goes_151 : decode cX9_goes 151 = .ok (.dup, 1) := by decide +kernel
theorem dX9_goes_152 : decode cX9_goes 152 = .ok (.getfield 146, 3) := by decide +kernel
theorem dX9_goes_155 : decode cX9_goes 155 = .ok (.iconst 1, 1) := by decide +kernel
theorem dX9_goes_156 : decode cX9_goes 156 = .ok (.iadd, 1) := by decide +kernel
theorem dX9_goes_157 : decode cX9_goes 157 = .ok (.putfield 146, 3) := by decide +kernel
theorem dX9_goes_160 : decode cX9_goes 160 = .ok (.aload_n 0, 1) := by decide +kernel
theorem dX9_goes_161 : decode cX9_goes 161 = .ok (.getfield 43, 3) := by decide +kernel
theorem dX9_goes_164 : decode cX9_goes 164 = .ok (.iload_n 1, 1) := by decide +kernel
theorem dX9_goes_165 : decode cX9_goes 165 = .ok (.iload 4, 2) := by decide +kernel
theorem dX9_goes_167 : decode cX9_goes 167 = .ok (.iconst 3, 1) := by decide +kernel
theorem dX9_goes_168 : decode cX9_goes 168 = .ok (.if_icmp .ne 14, 3) := by decide +kernel
theorem dX9_goes_171 : decode cX9_goes 171 = .ok (.iconst 1, 1) := by decide +kernel
theorem dX9_goes_172 : decode cX9_goes 172 = .ok (.aload_n 0, 1) := by decide +kernel
theorem dX9_goes_173 : decode cX9_goes 173 = .ok (.getfield 43, 3) := by decide +kernel
theorem dX9_goes_176 : decode cX9_goes 176 = .ok (.iload_n 1, 1) := by decide +kernel
theorem dX9_goes_177 : decode cX9_goes 177 = .ok (.iaload, 1) := by decide +kernel
theorem dX9_goes_178 : decode cX9_goes 178 = .ok (.isub, 1) := by decide +kernel
theorem dX9_goes_179 : decode cX9_goes 179 = .ok (.goto 9, 3) := by decide +kernel
theorem dX9_goes_182 : decode cX9_goes 182 = .ok (.aload_n 0, 1) := by decide +kernel
theorem dX9_goes_183 : decode cX9_goes 183 = .ok (.getfield 43, 3) := by decide +kernel
theorem dX9_goes_186 : decode cX9_goes 186 = .ok (.iload_n 1, 1) := by decide +kernel
theorem dX9_goes_187 : decode cX9_goes 187 = .ok (.iaload, 1) := by decide +kernel
theorem dX9_goes_188 : decode cX9_goes 188 = .ok (.iastore, 1) := by decide +kernel
theorem dX9_goes_189 : decode cX9_goes 189 = .ok (.aload_n 0, 1) := by decide +kernel
theorem dX9_goes_190 : decode cX9_goes 190 = .ok (.dup, 1) := by decide +kernel
theorem dX9_goes_191 : decode cX9_goes 191 = .ok (.getfield 136, 3) := by decide +kernel
theorem dX9_goes_194 : decode cX9_goes 194 = .ok (.iload 4, 2) := by decide +kernel
theorem dX9_goes_196 : decode cX9_goes 196 = .ok (.iconst 2, 1) := by decide +kernel
theorem dX9_goes_197 : decode cX9_goes 197 = .ok (.if_icmp .ne 29, 3) := by decide +kernel
theorem dX9_goes_200 : decode cX9_goes 200 = .ok (.iload 7, 2) := by decide +kernel
theorem dX9_goes_202 : decode cX9_goes 202 = .ok (.ifCond .eq 24, 3) := by decide +kernel
theorem dX9_goes_205 : decode cX9_goes 205 = .ok (.aload_n 0, 1) := by decide +kernel
theorem dX9_goes_206 : decode cX9_goes 206 = .ok (.aload_n 0, 1) := by decide +kernel
theorem dX9_goes_207 : decode cX9_goes 207 = .ok (.getfield 34, 3) := by decide +kernel
theorem dX9_goes_210 : decode cX9_goes 210 = .ok (.iload_n 3, 1) := by decide +kernel
theorem dX9_goes_211 : decode cX9_goes 211 = .ok (.iload_n 1, 1) := by decide +kernel
theorem dX9_goes_212 : decode cX9_goes 212 = .ok (.iadd, 1) := by decide +kernel
theorem dX9_goes_213 : decode cX9_goes 213 = .ok (.iaload, 1) := by decide +kernel
theorem dX9_goes_214 : decode cX9_goes 214 = .ok (.invokevirtual 149, 3) := by decide +kernel
theorem dX9_goes_217 : decode cX9_goes 217 = .ok (.ifCond .eq 9, 3) := by decide +kernel
theorem dX9_goes_220 : decode cX9_goes 220 = .ok (.iconst 1, 1) := by decide +kernel
theorem dX9_goes_221 : decode cX9_goes 221 = .ok (.iload_n 1, 1) := by decide +kernel
theorem dX9_goes_222 : decode cX9_goes 222 = .ok (.ishl, 1) := by decide +kernel
theorem dX9_goes_223 : decode cX9_goes 223 = .ok (.goto 4, 3) := by decide +kernel
theorem dX9_goes_226 : decode cX9_goes 226 = .ok (.iconst 0, 1) := by decide +kernel
theorem dX9_goes_227 : decode cX9_goes 227 = .ok (.ior, 1) := by decide +kernel
theorem dX9_goes_228 : decode cX9_goes 228 = .ok (.putfield 136, 3) := by decide +kernel
theorem dX9_goes_231 : decode cX9_goes 231 = .ok (.aload_n 0, 1) := by decide +kernel
theorem dX9_goes_232 : decode cX9_goes 232 = .ok (.dup, 1) := by decide +kernel
theorem dX9_goes_233 : decode cX9_goes 233 = .ok (.getfield 152, 3) := by decide +kernel
theorem dX9_goes_236 : decode cX9_goes 236 = .ok (.iload_n 2, 1) := by decide +kernel
theorem dX9_goes_237 : decode cX9_goes 237 = .ok (.bipush 30, 2) := by decide +kernel
theorem dX9_goes_239 : decode cX9_goes 239 = .ok (.if_icmp .le 22, 3) := by decide +kernel
theorem dX9_goes_242 : decode cX9_goes 242 = .ok (.aload_n 0, 1) := by decide +kernel
theorem dX9_goes_243 : decode cX9_goes 243 = .ok (.getfield 34, 3) := by decide +kernel
theorem dX9_goes_246 : decode cX9_goes 246 = .ok (.iload_n 3, 1) := by decide +kernel
theorem dX9_goes_247 : decode cX9_goes 247 = .ok (.iload_n 1, 1) := by decide +kernel
theorem dX9_goes_248 : decode cX9_goes 248 = .ok (.iadd, 1) := by decide +kernel
theorem dX9_goes_249 : decode cX9_goes 249 = .ok (.iaload, 1) := by decide +kernel
theorem dX9_goes_250 : decode cX9_goes 250 = .ok (.iload 6, 2) := by decide +kernel
theorem dX9_goes_252 : decode cX9_goes 252 = .ok (.if_icmp .eq 9, 3) := by decide +kernel
theorem dX9_goes_255 : decode cX9_goes 255 = .ok (.iconst 1, 1) := by decide +kernel
theorem dX9_goes_256 : decode cX9_goes 256 = .ok (.iload_n 1, 1) := by decide +kernel
theorem dX9_goes_257 : decode cX9_goes 257 = .ok (.ishl, 1) := by decide +kernel
theorem dX9_goes_258 : decode cX9_goes 258 = .ok (.goto 4, 3) := by decide +kernel
theorem dX9_goes_261 : decode cX9_goes 261 = .ok (.iconst 0, 1) := by decide +kernel
theorem dX9_goes_262 : decode cX9_goes 262 = .ok (.ior, 1) := by decide +kernel
theorem dX9_goes_263 : decode cX9_goes 263 = .ok (.putfield 152, 3) := by decide +kernel
theorem dX9_goes_266 : decode cX9_goes 266 = .ok (.return_, 1) := by decide +kernel
theorem dX9_ends_0 : decode cX9_ends 0 = .ok (.iconst 0, 1) := by decide +kernel
theorem dX9_ends_1 : decode cX9_ends 1 = .ok (.istore_n 2, 1) := by decide +kernel
theorem dX9_ends_2 : decode cX9_ends 2 = .ok (.iload_n 2, 1) := by decide +kernel
theorem dX9_ends_3 : decode cX9_ends 3 = .ok (.aload_n 0, 1) := by decide +kernel
theorem dX9_ends_4 : decode cX9_ends 4 = .ok (.getfield 13, 3) := by decide +kernel
theorem dX9_ends_7 : decode cX9_ends 7 = .ok (.iconst 2, 1) := by decide +kernel
theorem dX9_ends_8 : decode cX9_ends 8 = .ok (.iaload, 1) := by decide +kernel
theorem dX9_ends_9 : decode cX9_ends 9 = .ok (.if_icmp .ge 63, 3) := by decide +kernel
theorem dX9_ends_12 : decode cX9_ends 12 = .ok (.aload_n 0, 1) := by decide +kernel
theorem dX9_ends_13 : decode cX9_ends 13 = .ok (.getfield 40, 3) := by decide +kernel
theorem dX9_ends_16 : decode cX9_ends 16 = .ok (.iload_n 1, 1) := by decide +kernel
theorem dX9_ends_17 : decode cX9_ends 17 = .ok (.iload_n 2, 1) := by decide +kernel
theorem dX9_ends_18 : decode cX9_ends 18 = .ok (.iadd, 1) := by decide +kernel
theorem dX9_ends_19 : decode cX9_ends 19 = .ok (.dup2, 1) := by decide +kernel
theorem dX9_ends_20 : decode cX9_ends 20 = .ok (.iaload, 1) := by decide +kernel
theorem dX9_ends_21 : decode cX9_ends 21 = .ok (.aload_n 0, 1) := by decide +kernel
theorem dX9_ends_22 : decode cX9_ends 22 = .ok (.getfield 13, 3) := by decide +kernel
theorem dX9_ends_25 : decode cX9_ends 25 = .ok (.iconst 3, 1) := by decide +kernel
theorem dX9_ends_26 : decode cX9_ends 26 = .ok (.iaload, 1) := by decide +kernel
theorem dX9_ends_27 : decode cX9_ends 27 = .ok (.aload_n 0, 1) := by decide +kernel
theorem dX9_ends_28 : decode cX9_ends 28 = .ok (.getfield 34, 3) := by decide +kernel
theorem dX9_ends_31 : decode cX9_ends 31 = .ok (.iload_n 1, 1) := by decide +kernel
theorem dX9_ends_32 : decode cX9_ends 32 = .ok (.iload_n 2, 1) := by decide +kernel
theorem dX9_ends_33 : decode cX9_ends 33 = .ok (.iadd, 1) := by decide +kernel
theorem dX9_ends_34 : decode cX9_ends 34 = .ok (.iaload, 1) := by decide +kernel
theorem dX9_ends_35 : decode cX9_ends 35 = .ok (.ishr, 1) := by decide +kernel
theorem dX9_ends_36 : decode cX9_ends 36 = .ok (.iconst 1, 1) := by decide +kernel
theorem dX9_ends_37 : decode cX9_ends 37 = .ok (.iand, 1) := by decide +kernel
theorem dX9_ends_38 : decode cX9_ends 38 = .ok (.iconst 1, 1) := by decide +kernel
theorem dX9_ends_39 : decode cX9_ends 39 = .ok (.if_icmp .ne 24, 3) := by decide +kernel
theorem dX9_ends_42 : decode cX9_ends 42 = .ok (.aload_n 0, 1) := by decide +kernel
theorem dX9_ends_43 : decode cX9_ends 43 = .ok (.iload_n 2, 1) := by decide +kernel
theorem dX9_ends_44 : decode cX9_ends 44 = .ok (.aload_n 0, 1) := by decide +kernel
theorem dX9_ends_45 : decode cX9_ends 45 = .ok (.getfield 34, 3) := by decide +kernel
theorem dX9_ends_48 : decode cX9_ends 48 = .ok (.iload_n 1, 1) := by decide +kernel
theorem dX9_ends_49 : decode cX9_ends 49 = .ok (.iload_n 2, 1) := by decide +kernel
theorem dX9_ends_50 : decode cX9_ends 50 = .ok (.iadd, 1) := by decide +kernel
theorem dX9_ends_51 : decode cX9_ends 51 = .ok (.iaload, 1) := by decide +kernel
theorem dX9_ends_52 : decode cX9_ends 52 = .ok (.iload_n 1, 1) := by decide +kernel
theorem dX9_ends_53 : decode cX9_ends 53 = .ok (.invokevirtual 133, 3) := by decide +kernel
theorem dX9_ends_56 : decode cX9_ends 56 = .ok (.ifCond .ne 7, 3) := by decide +kernel
theorem dX9_ends_59 : decode cX9_ends 59 = .ok (.iconst 1, 1) := by decide +kernel
theorem dX9_ends_60 : decode cX9_ends 60 = .ok (.goto 4, 3) := by decide +kernel
theorem dX9_ends_63 : decode cX9_ends 63 = .ok (.iconst 0, 1) := by decide +kernel
theorem dX9_ends_64 : decode cX9_ends 64 = .ok (.iadd, 1) := by decide +kernel
theorem dX9_ends_65 : decode cX9_ends 65 = .ok (.iastore, 1) := by decide +kernel
theorem dX9_ends_66 : decode cX9_ends 66 = .ok (.iinc 2 1, 3) := by decide +kernel
theorem dX9_ends_69 : decode cX9_ends 69 = .ok (.goto (-67), 3) := by decide +kernel
theorem dX9_ends_72 : decode cX9_ends 72 = .ok (.return_, 1) := by decide +kernel
theorem dX9_runs_0 : decode cX9_runs 0 = .ok (.iconst 0, 1) := by decide +kernel
theorem dX9_runs_1 : decode cX9_runs 1 = .ok (.istore_n 1, 1) := by decide +kernel
theorem dX9_runs_2 : decode cX9_runs 2 = .ok (.iload_n 1, 1) := by decide +kernel
theorem dX9_runs_3 : decode cX9_runs 3 = .ok (.iconst 5, 1) := by decide +kernel
theorem dX9_runs_4 : decode cX9_runs 4 = .ok (.if_icmp .ge 53, 3) := by decide +kernel
theorem dX9_runs_7 : decode cX9_runs 7 = .ok (.aload_n 0, 1) := by decide +kernel
theorem dX9_runs_8 : decode cX9_runs 8 = .ok (.getfield 34, 3) := by decide +kernel
theorem dX9_runs_11 : decode cX9_runs 11 = .ok (.iload_n 1, 1) := by decide +kernel
theorem dX9_runs_12 : decode cX9_runs 12 = .ok (.aload_n 0, 1) := by decide +kernel
theorem dX9_runs_13 : decode cX9_runs 13 = .ok (.getfield 13, 3) := by decide +kernel
theorem dX9_runs_16 : decode cX9_runs 16 = .ok (.bipush 15, 2) := by decide +kernel
theorem dX9_runs_18 : decode cX9_runs 18 = .ok (.iload_n 1, 1) := by decide +kernel
theorem dX9_runs_19 : decode cX9_runs 19 = .ok (.iadd, 1) := by decide +kernel
theorem dX9_runs_20 : decode cX9_runs 20 = .ok (.iaload, 1) := by decide +kernel
theorem dX9_runs_21 : decode cX9_runs 21 = .ok (.iastore, 1) := by decide +kernel
theorem dX9_runs_22 : decode cX9_runs 22 = .ok (.aload_n 0, 1) := by decide +kernel
theorem dX9_runs_23 : decode cX9_runs 23 = .ok (.getfield 43, 3) := by decide +kernel
theorem dX9_runs_26 : decode cX9_runs 26 = .ok (.iload_n 1, 1) := by decide +kernel
theorem dX9_runs_27 : decode cX9_runs 27 = .ok (.aload_n 0, 1) := by decide +kernel
theorem dX9_runs_28 : decode cX9_runs 28 = .ok (.getfield 13, 3) := by decide +kernel
theorem dX9_runs_31 : decode cX9_runs 31 = .ok (.bipush 20, 2) := by decide +kernel
theorem dX9_runs_33 : decode cX9_runs 33 = .ok (.iload_n 1, 1) := by decide +kernel
theorem dX9_runs_34 : decode cX9_runs 34 = .ok (.iadd, 1) := by decide +kernel
theorem dX9_runs_35 : decode cX9_runs 35 = .ok (.iaload, 1) := by decide +kernel
theorem dX9_runs_36 : decode cX9_runs 36 = .ok (.iastore, 1) := by decide +kernel
theorem dX9_runs_37 : decode cX9_runs 37 = .ok (.aload_n 0, 1) := by decide +kernel
theorem dX9_runs_38 : decode cX9_runs 38 = .ok (.getfield 37, 3) := by decide +kernel
theorem dX9_runs_41 : decode cX9_runs 41 = .ok (.iload_n 1, 1) := by decide +kernel
theorem dX9_runs_42 : decode cX9_runs 42 = .ok (.iconst 0, 1) := by decide +kernel
theorem dX9_runs_43 : decode cX9_runs 43 = .ok (.iastore, 1) := by decide +kernel
theorem dX9_runs_44 : decode cX9_runs 44 = .ok (.aload_n 0, 1) := by decide +kernel
theorem dX9_runs_45 : decode cX9_runs 45 = .ok (.getfield 40, 3) := by decide +kernel
theorem dX9_runs_48 : decode cX9_runs 48 = .ok (.iload_n 1, 1) := by decide +kernel
theorem dX9_runs_49 : decode cX9_runs 49 = .ok (.iconst 0, 1) := by decide +kernel
theorem dX9_runs_50 : decode cX9_runs 50 = .ok (.iastore, 1) := by decide +kernel
theorem dX9_runs_51 : decode cX9_runs 51 = .ok (.iinc 1 1, 3) := by decide +kernel
theorem dX9_runs_54 : decode cX9_runs 54 = .ok (.goto (-52), 3) := by decide +kernel
theorem dX9_runs_57 : decode cX9_runs 57 = .ok (.aload_n 0, 1) := by decide +kernel
theorem dX9_runs_58 : decode cX9_runs 58 = .ok (.iconst 0, 1) := by decide +kernel
theorem dX9_runs_59 : decode cX9_runs 59 = .ok (.putfield 136, 3) := by decide +kernel
theorem dX9_runs_62 : decode cX9_runs 62 = .ok (.aload_n 0, 1) := by decide +kernel
theorem dX9_runs_63 : decode cX9_runs 63 = .ok (.iconst 0, 1) := by decide +kernel
theorem dX9_runs_64 : decode cX9_runs 64 = .ok (.putfield 152, 3) := by decide +kernel
theorem dX9_runs_67 : decode cX9_runs 67 = .ok (.aload_n 0, 1) := by decide +kernel
theorem dX9_runs_68 : decode cX9_runs 68 = .ok (.iconst 0, 1) := by decide +kernel
theorem dX9_runs_69 : decode cX9_runs 69 = .ok (.putfield 146, 3) := by decide +kernel
theorem dX9_runs_72 : decode cX9_runs 72 = .ok (.iconst 1, 1) := by decide +kernel
theorem dX9_runs_73 : decode cX9_runs 73 = .ok (.istore_n 1, 1) := by decide +kernel
theorem dX9_runs_74 : decode cX9_runs 74 = .ok (.iload_n 1, 1) := by decide +kernel
theorem dX9_runs_75 : decode cX9_runs 75 = .ok (.bipush 60, 2) := by decide +kernel
theorem dX9_runs_77 : decode cX9_runs 77 = .ok (.if_icmp .gt 110, 3) := by decide +kernel
theorem dX9_runs_80 : decode cX9_runs 80 = .ok (.iconst 5, 1) := by decide +kernel
theorem dX9_runs_81 : decode cX9_runs 81 = .ok (.iload_n 1, 1) := by decide +kernel
theorem dX9_runs_82 : decode cX9_runs 82 = .ok (.imul, 1) := by decide +kernel
theorem dX9_runs_83 : decode cX9_runs 83 = .ok (.istore_n 2, 1) := by decide +kernel
theorem dX9_runs_84 : decode cX9_runs 84 = .ok (.iconst 0, 1) := by decide +kernel
theorem dX9_runs_85 : decode cX9_runs 85 = .ok (.istore_n 3, 1) := by decide +kernel
theorem dX9_runs_86 : decode cX9_runs 86 = .ok (.iload_n 3, 1) := by decide +kernel
theorem dX9_runs_87 : decode cX9_runs 87 = .ok (.iconst 5, 1) := by decide +kernel
theorem dX9_runs_88 : decode cX9_runs 88 = .ok (.if_icmp .ge 63, 3) := by decide +kernel
theorem dX9_runs_91 : decode cX9_runs 91 = .ok (.aload_n 0, 1) := by decide +kernel
theorem dX9_runs_92 : decode cX9_runs 92 = .ok (.getfield 34, 3) := by decide +kernel
theorem dX9_runs_95 : decode cX9_runs 95 = .ok (.iload_n 2, 1) := by decide +kernel
theorem dX9_runs_96 : decode cX9_runs 96 = .ok (.iload_n 3, 1) := by decide +kernel
theorem dX9_runs_97 : decode cX9_runs 97 = .ok (.iadd, 1) := by decide +kernel
theorem dX9_runs_98 : decode cX9_runs 98 = .ok (.aload_n 0, 1) := by decide +kernel
theorem dX9_runs_99 : decode cX9_runs 99 = .ok (.getfield 34, 3) := by decide +kernel
theorem dX9_runs_102 : decode cX9_runs 102 = .ok (.iload_n 2, 1) := by decide +kernel
theorem dX9_runs_103 : decode cX9_runs 103 = .ok (.iload_n 3, 1) := by decide +kernel
theorem dX9_runs_104 : decode cX9_runs 104 = .ok (.iadd, 1) := by decide +kernel
theorem dX9_runs_105 : decode cX9_runs 105 = .ok (.iconst 5, 1) := by decide +kernel
theorem dX9_runs_106 : decode cX9_runs 106 = .ok (.isub, 1) := by decide +kernel
theorem dX9_runs_107 : decode cX9_runs 107 = .ok (.iaload, 1) := by decide +kernel
theorem dX9_runs_108 : decode cX9_runs 108 = .ok (.iastore, 1) := by decide +kernel
theorem dX9_runs_109 : decode cX9_runs 109 = .ok (.aload_n 0, 1) := by decide +kernel
theorem dX9_runs_110 : decode cX9_runs 110 = .ok (.getfield 37, 3) := by decide +kernel
theorem dX9_runs_113 : decode cX9_runs 113 = .ok (.iload_n 2, 1) := by decide +kernel
theorem dX9_runs_114 : decode cX9_runs 114 = .ok (.iload_n 3, 1) := by decide +kernel
theorem dX9_runs_115 : decode cX9_runs 115 = .ok (.iadd, 1) := by decide +kernel
theorem dX9_runs_116 : decode cX9_runs 116 = .ok (.aload_n 0, 1) := by decide +kernel
theorem dX9_runs_117 : decode cX9_runs 117 = .ok (.getfield 37, 3) := by decide +kernel
theorem dX9_runs_120 : decode cX9_runs 120 = .ok (.iload_n 2, 1) := by decide +kernel
theorem dX9_runs_121 : decode cX9_runs 121 = .ok (.iload_n 3, 1) := by decide +kernel
theorem dX9_runs_122 : decode cX9_runs 122 = .ok (.iadd, 1) := by decide +kernel
theorem dX9_runs_123 : decode cX9_runs 123 = .ok (.iconst 5, 1) := by decide +kernel
theorem dX9_runs_124 : decode cX9_runs 124 = .ok (.isub, 1) := by decide +kernel
theorem dX9_runs_125 : decode cX9_runs 125 = .ok (.iaload, 1) := by decide +kernel
theorem dX9_runs_126 : decode cX9_runs 126 = .ok (.iastore, 1) := by decide +kernel
theorem dX9_runs_127 : decode cX9_runs 127 = .ok (.aload_n 0, 1) := by decide +kernel
theorem dX9_runs_128 : decode cX9_runs 128 = .ok (.getfield 40, 3) := by decide +kernel
theorem dX9_runs_131 : decode cX9_runs 131 = .ok (.iload_n 2, 1) := by decide +kernel
theorem dX9_runs_132 : decode cX9_runs 132 = .ok (.iload_n 3, 1) := by decide +kernel
theorem dX9_runs_133 : decode cX9_runs 133 = .ok (.iadd, 1) := by decide +kernel
theorem dX9_runs_134 : decode cX9_runs 134 = .ok (.aload_n 0, 1) := by decide +kernel
theorem dX9_runs_135 : decode cX9_runs 135 = .ok (.getfield 40, 3) := by decide +kernel
theorem dX9_runs_138 : decode cX9_runs 138 = .ok (.iload_n 2, 1) := by decide +kernel
theorem dX9_runs_139 : decode cX9_runs 139 = .ok (.iload_n 3, 1) := by decide +kernel
theorem dX9_runs_140 : decode cX9_runs 140 = .ok (.iadd, 1) := by decide +kernel
theorem dX9_runs_141 : decode cX9_runs 141 = .ok (.iconst 5, 1) := by decide +kernel
theorem dX9_runs_142 : decode cX9_runs 142 = .ok (.isub, 1) := by decide +kernel
theorem dX9_runs_143 : decode cX9_runs 143 = .ok (.iaload, 1) := by decide +kernel
theorem dX9_runs_144 : decode cX9_runs 144 = .ok (.iastore, 1) := by decide +kernel
theorem dX9_runs_145 : decode cX9_runs 145 = .ok (.iinc 3 1, 3) := by decide +kernel
theorem dX9_runs_148 : decode cX9_runs 148 = .ok (.goto (-62), 3) := by decide +kernel
theorem dX9_runs_151 : decode cX9_runs 151 = .ok (.iconst 0, 1) := by decide +kernel
theorem dX9_runs_152 : decode cX9_runs 152 = .ok (.istore_n 3, 1) := by decide +kernel
theorem dX9_runs_153 : decode cX9_runs 153 = .ok (.iload_n 3, 1) := by decide +kernel
theorem dX9_runs_154 : decode cX9_runs 154 = .ok (.aload_n 0, 1) := by decide +kernel
theorem dX9_runs_155 : decode cX9_runs 155 = .ok (.getfield 13, 3) := by decide +kernel
theorem dX9_runs_158 : decode cX9_runs 158 = .ok (.iconst 2, 1) := by decide +kernel
theorem dX9_runs_159 : decode cX9_runs 159 = .ok (.iaload, 1) := by decide +kernel
theorem dX9_runs_160 : decode cX9_runs 160 = .ok (.if_icmp .ge 16, 3) := by decide +kernel
theorem dX9_runs_163 : decode cX9_runs 163 = .ok (.aload_n 0, 1) := by decide +kernel
theorem dX9_runs_164 : decode cX9_runs 164 = .ok (.iload_n 3, 1) := by decide +kernel
theorem dX9_runs_165 : decode cX9_runs 165 = .ok (.iload_n 1, 1) := by decide +kernel
theorem dX9_runs_166 : decode cX9_runs 166 = .ok (.iload_n 2, 1) := by decide +kernel
theorem dX9_runs_167 : decode cX9_runs 167 = .ok (.invokevirtual 155, 3) := by decide +kernel
theorem dX9_runs_170 : decode cX9_runs 170 = .ok (.iinc 3 1, 3) := by decide +kernel
theorem dX9_runs_173 : decode cX9_runs 173 = .ok (.goto (-20), 3) := by decide +kernel
theorem dX9_runs_176 : decode cX9_runs 176 = .ok (.aload_n 0, 1) := by decide +kernel
theorem dX9_runs_177 : decode cX9_runs 177 = .ok (.iload_n 2, 1) := by decide +kernel
theorem dX9_runs_178 : decode cX9_runs 178 = .ok (.invokevirtual 159, 3) := by decide +kernel
theorem dX9_runs_181 : decode cX9_runs 181 = .ok (.iinc 1 1, 3) := by decide +kernel
theorem dX9_runs_184 : decode cX9_runs 184 = .ok (.goto (-110), 3) := by decide +kernel
theorem dX9_runs_187 : decode cX9_runs 187 = .ok (.return_, 1) := by decide +kernel
theorem dX9_where_0 : decode cX9_where 0 = .ok (.aload_n 0, 1) := by decide +kernel
theorem dX9_where_1 : decode cX9_where 1 = .ok (.iload_n 1, 1) := by decide +kernel
theorem dX9_where_2 : decode cX9_where 2 = .ok (.invokevirtual 115, 3) := by decide +kernel
theorem dX9_where_5 : decode cX9_where 5 = .ok (.ifCond .eq 22, 3) := by decide +kernel
theorem dX9_where_8 : decode cX9_where 8 = .ok (.iload_n 2, 1) := by decide +kernel
theorem dX9_where_9 : decode cX9_where 9 = .ok (.iconst 0, 1) := by decide +kernel
theorem dX9_where_10 : decode cX9_where 10 = .ok (.bipush 60, 2) := by decide +kernel
theorem dX9_where_12 : decode cX9_where 12 = .ok (.invokestatic 73, 3) := by decide +kernel
theorem dX9_where_15 : decode cX9_where 15 = .ok (.ifCond .eq 12, 3) := by decide +kernel
theorem dX9_where_18 : decode cX9_where 18 = .ok (.iload_n 3, 1) := by decide +kernel
theorem dX9_where_19 : decode cX9_where 19 = .ok (.iconst 0, 1) := by decide +kernel
theorem dX9_where_20 : decode cX9_where 20 = .ok (.iconst 2, 1) := by decide +kernel
theorem dX9_where_21 : decode cX9_where 21 = .ok (.invokestatic 73, 3) := by decide +kernel
theorem dX9_where_24 : decode cX9_where 24 = .ok (.ifCond .ne 5, 3) := by decide +kernel
theorem dX9_where_27 : decode cX9_where 27 = .ok (.iconst (-1), 1) := by decide +kernel
theorem dX9_where_28 : decode cX9_where 28 = .ok (.ireturn, 1) := by decide +kernel
theorem dX9_where_29 : decode cX9_where 29 = .ok (.aload_n 0, 1) := by decide +kernel
theorem dX9_where_30 : decode cX9_where 30 = .ok (.invokevirtual 162, 3) := by decide +kernel
theorem dX9_where_33 : decode cX9_where 33 = .ok (.iconst 5, 1) := by decide +kernel
theorem dX9_where_34 : decode cX9_where 34 = .ok (.iload_n 2, 1) := by decide +kernel
theorem dX9_where_35 : decode cX9_where 35 = .ok (.imul, 1) := by decide +kernel
theorem dX9_where_36 : decode cX9_where 36 = .ok (.iload_n 1, 1) := by decide +kernel
theorem dX9_where_37 : decode cX9_where 37 = .ok (.iadd, 1) := by decide +kernel
theorem dX9_where_38 : decode cX9_where 38 = .ok (.istore 4, 2) := by decide +kernel
theorem dX9_where_40 : decode cX9_where 40 = .ok (.iload_n 3, 1) := by decide +kernel
theorem dX9_where_41 : decode cX9_where 41 = .ok (.ifCond .ne 13, 3) := by decide +kernel
theorem dX9_where_44 : decode cX9_where 44 = .ok (.aload_n 0, 1) := by decide +kernel
theorem dX9_where_45 : decode cX9_where 45 = .ok (.getfield 34, 3) := by decide +kernel
theorem dX9_where_48 : decode cX9_where 48 = .ok (.iload 4, 2) := by decide +kernel
theorem dX9_where_50 : decode cX9_where 50 = .ok (.iaload, 1) := by decide +kernel
theorem dX9_where_51 : decode cX9_where 51 = .ok (.goto 25, 3) := by decide +kernel
theorem dX9_where_54 : decode cX9_where 54 = .ok (.iload_n 3, 1) := by decide +kernel
theorem dX9_where_55 : decode cX9_where 55 = .ok (.iconst 1, 1) := by decide +kernel
theorem dX9_where_56 : decode cX9_where 56 = .ok (.if_icmp .ne 13, 3) := by decide +kernel
theorem dX9_where_59 : decode cX9_where 59 = .ok (.aload_n 0, 1) := by decide +kernel
theorem dX9_where_60 : decode cX9_where 60 = .ok (.getfield 37, 3) := by decide +kernel
theorem dX9_where_63 : decode cX9_where 63 = .ok (.iload 4, 2) := by decide +kernel
theorem dX9_where_65 : decode cX9_where 65 = .ok (.iaload, 1) := by decide +kernel
theorem dX9_where_66 : decode cX9_where 66 = .ok (.goto 10, 3) := by decide +kernel
theorem dX9_where_69 : decode cX9_where 69 = .ok (.aload_n 0, 1) := by decide +kernel
theorem dX9_where_70 : decode cX9_where 70 = .ok (.getfield 40, 3) := by decide +kernel
theorem dX9_where_73 : decode cX9_where 73 = .ok (.iload 4, 2) := by decide +kernel
theorem dX9_where_75 : decode cX9_where 75 = .ok (.iaload, 1) := by decide +kernel
theorem dX9_where_76 : decode cX9_where 76 = .ok (.ireturn, 1) := by decide +kernel
theorem dX9_isAt_0 : decode cX9_isAt 0 = .ok (.aload_n 0, 1) := by decide +kernel
theorem dX9_isAt_1 : decode cX9_isAt 1 = .ok (.getfield 34, 3) := by decide +kernel
theorem dX9_isAt_4 : decode cX9_isAt 4 = .ok (.iconst 5, 1) := by decide +kernel
theorem dX9_isAt_5 : decode cX9_isAt 5 = .ok (.iload_n 3, 1) := by decide +kernel
theorem dX9_isAt_6 : decode cX9_isAt 6 = .ok (.imul, 1) := by decide +kernel
theorem dX9_isAt_7 : decode cX9_isAt 7 = .ok (.iload_n 1, 1) := by decide +kernel
theorem dX9_isAt_8 : decode cX9_isAt 8 = .ok (.iadd, 1) := by decide +kernel
theorem dX9_isAt_9 : decode cX9_isAt 9 = .ok (.iaload, 1) := by decide +kernel
theorem dX9_isAt_10 : decode cX9_isAt 10 = .ok (.aload_n 0, 1) := by decide +kernel
theorem dX9_isAt_11 : decode cX9_isAt 11 = .ok (.getfield 13, 3) := by decide +kernel
theorem dX9_isAt_14 : decode cX9_isAt 14 = .ok (.iconst 5, 1) := by decide +kernel
theorem dX9_isAt_15 : decode cX9_isAt 15 = .ok (.iload_n 2, 1) := by decide +kernel
theorem dX9_isAt_16 : decode cX9_isAt 16 = .ok (.iadd, 1) := by decide +kernel
theorem dX9_isAt_17 : decode cX9_isAt 17 = .ok (.iaload, 1) := by decide +kernel
theorem dX9_isAt_18 : decode cX9_isAt 18 = .ok (.if_icmp .ne 7, 3) := by decide +kernel
theorem dX9_isAt_21 : decode cX9_isAt 21 = .ok (.iconst 1, 1) := by decide +kernel
theorem dX9_isAt_22 : decode cX9_isAt 22 = .ok (.goto 4, 3) := by decide +kernel
theorem dX9_isAt_25 : decode cX9_isAt 25 = .ok (.iconst 0, 1) := by decide +kernel
theorem dX9_isAt_26 : decode cX9_isAt 26 = .ok (.ireturn, 1) := by decide +kernel
theorem dX9_firstAt_0 : decode cX9_firstAt 0 = .ok (.bipush (-4), 2) := by decide +kernel
theorem dX9_firstAt_2 : decode cX9_firstAt 2 = .ok (.istore_n 3, 1) := by decide +kernel
theorem dX9_firstAt_3 : decode cX9_firstAt 3 = .ok (.bipush 60, 2) := by decide +kernel
theorem dX9_firstAt_5 : decode cX9_firstAt 5 = .ok (.istore 4, 2) := by decide +kernel
theorem dX9_firstAt_7 : decode cX9_firstAt 7 = .ok (.iload 4, 2) := by decide +kernel
theorem dX9_firstAt_9 : decode cX9_firstAt 9 = .ok (.ifCond .lt 27, 3) := by decide +kernel
theorem dX9_firstAt_12 : decode cX9_firstAt 12 = .ok (.aload_n 0, 1) := by decide +kernel
theorem dX9_firstAt_13 : decode cX9_firstAt 13 = .ok (.iload_n 1, 1) := by decide +kernel
theorem dX9_firstAt_14 : decode cX9_firstAt 14 = .ok (.iload_n 2, 1) := by decide +kernel
theorem dX9_firstAt_15 : decode cX9_firstAt 15 = .ok (.iload 4, 2) := by decide +kernel
theorem dX9_firstAt_17 : decode cX9_firstAt 17 = .ok (.invokevirtual 165, 3) := by decide +kernel
theorem dX9_firstAt_20 : decode cX9_firstAt 20 = .ok (.ifCond .eq 8, 3) := by decide +kernel
theorem dX9_firstAt_23 : decode cX9_firstAt 23 = .ok (.iload 4, 2) := by decide +kernel
theorem dX9_firstAt_25 : decode cX9_firstAt 25 = .ok (.goto 4, 3) := by decide +kernel
theorem dX9_firstAt_28 : decode cX9_firstAt 28 = .ok (.iload_n 3, 1) := by decide +kernel
theorem dX9_firstAt_29 : decode cX9_firstAt 29 = .ok (.istore_n 3, 1) := by decide +kernel
theorem dX9_firstAt_30 : decode cX9_firstAt 30 = .ok (.iinc 4 (-1), 3) := by decide +kernel
theorem dX9_firstAt_33 : decode cX9_firstAt 33 = .ok (.goto (-26), 3) := by decide +kernel
theorem dX9_firstAt_36 : decode cX9_firstAt 36 = .ok (.iload_n 3, 1) := by decide +kernel
theorem dX9_firstAt_37 : decode cX9_firstAt 37 = .ok (.ireturn, 1) := by decide +kernel
theorem dX9_first_0 : decode cX9_first 0 = .ok (.aload_n 0, 1) := by decide +kernel
theorem dX9_first_1 : decode cX9_first 1 = .ok (.iload_n 1, 1) := by decide +kernel
theorem dX9_first_2 : decode cX9_first 2 = .ok (.invokevirtual 115, 3) := by decide +kernel
theorem dX9_first_5 : decode cX9_first 5 = .ok (.ifCond .eq 11, 3) := by decide +kernel
theorem dX9_first_8 : decode cX9_first 8 = .ok (.aload_n 0, 1) := by decide +kernel
theorem dX9_first_9 : decode cX9_first 9 = .ok (.iload_n 2, 1) := by decide +kernel
theorem dX9_first_10 : decode cX9_first 10 = .ok (.invokevirtual 118, 3) := by decide +kernel
theorem dX9_first_13 : decode cX9_first 13 = .ok (.ifCond .ne 5, 3) := by decide +kernel
theorem dX9_first_16 : decode cX9_first 16 = .ok (.iconst (-1), 1) := by decide +kernel
theorem dX9_first_17 : decode cX9_first 17 = .ok (.ireturn, 1) := by decide +kernel
theorem dX9_first_18 : decode cX9_first 18 = .ok (.aload_n 0, 1) := by decide +kernel
theorem dX9_first_19 : decode cX9_first 19 = .ok (.invokevirtual 162, 3) := by decide +kernel
theorem dX9_first_22 : decode cX9_first 22 = .ok (.aload_n 0, 1) := by decide +kernel
theorem dX9_first_23 : decode cX9_first 23 = .ok (.iload_n 1, 1) := by decide +kernel
theorem dX9_first_24 : decode cX9_first 24 = .ok (.iload_n 2, 1) := by decide +kernel
theorem dX9_first_25 : decode cX9_first 25 = .ok (.invokevirtual 168, 3) := by decide +kernel
theorem dX9_first_28 : decode cX9_first 28 = .ok (.ireturn, 1) := by decide +kernel
theorem dX9_hang_0 : decode cX9_hang 0 = .ok (.aload_n 0, 1) := by decide +kernel
theorem dX9_hang_1 : decode cX9_hang 1 = .ok (.invokevirtual 162, 3) := by decide +kernel
theorem dX9_hang_4 : decode cX9_hang 4 = .ok (.iconst 1, 1) := by decide +kernel
theorem dX9_hang_5 : decode cX9_hang 5 = .ok (.aload_n 0, 1) := by decide +kernel
theorem dX9_hang_6 : decode cX9_hang 6 = .ok (.getfield 13, 3) := by decide +kernel
theorem dX9_hang_9 : decode cX9_hang 9 = .ok (.iconst 2, 1) := by decide +kernel
theorem dX9_hang_10 : decode cX9_hang 10 = .ok (.iaload, 1) := by decide +kernel
theorem dX9_hang_11 : decode cX9_hang 11 = .ok (.ishl, 1) := by decide +kernel
theorem dX9_hang_12 : decode cX9_hang 12 = .ok (.iconst 1, 1) := by decide +kernel
theorem dX9_hang_13 : decode cX9_hang 13 = .ok (.isub, 1) := by decide +kernel
theorem dX9_hang_14 : decode cX9_hang 14 = .ok (.aload_n 0, 1) := by decide +kernel
theorem dX9_hang_15 : decode cX9_hang 15 = .ok (.getfield 22, 3) := by decide +kernel
theorem dX9_hang_18 : decode cX9_hang 18 = .ok (.iconst 5, 1) := by decide +kernel
theorem dX9_hang_19 : decode cX9_hang 19 = .ok (.iaload, 1) := by decide +kernel
theorem dX9_hang_20 : decode cX9_hang 20 = .ok (.iconst (-1), 1) := by decide +kernel
theorem dX9_hang_21 : decode cX9_hang 21 = .ok (.ixor, 1) := by decide +kernel
theorem dX9_hang_22 : decode cX9_hang 22 = .ok (.iand, 1) := by decide +kernel
theorem dX9_hang_23 : decode cX9_hang 23 = .ok (.aload_n 0, 1) := by decide +kernel
theorem dX9_hang_24 : decode cX9_hang 24 = .ok (.getfield 152, 3) := by decide +kernel
theorem dX9_hang_27 : decode cX9_hang 27 = .ok (.iconst (-1), 1) := by decide +kernel
theorem dX9_hang_28 : decode cX9_hang 28 = .ok (.ixor, 1) := by decide +kernel
theorem dX9_hang_29 : decode cX9_hang 29 = .ok (.iand, 1) := by decide +kernel
theorem dX9_hang_30 : decode cX9_hang 30 = .ok (.ireturn, 1) := by decide +kernel
theorem dX9_trip_0 : decode cX9_trip 0 = .ok (.aload_n 0, 1) := by decide +kernel
theorem dX9_trip_1 : decode cX9_trip 1 = .ok (.iload_n 1, 1) := by decide +kernel
theorem dX9_trip_2 : decode cX9_trip 2 = .ok (.invokevirtual 118, 3) := by decide +kernel
theorem dX9_trip_5 : decode cX9_trip 5 = .ok (.ifCond .eq 25, 3) := by decide +kernel
theorem dX9_trip_8 : decode cX9_trip 8 = .ok (.aload_n 0, 1) := by decide +kernel
theorem dX9_trip_9 : decode cX9_trip 9 = .ok (.iload_n 2, 1) := by decide +kernel
theorem dX9_trip_10 : decode cX9_trip 10 = .ok (.invokevirtual 118, 3) := by decide +kernel
theorem dX9_trip_13 : decode cX9_trip 13 = .ok (.ifCond .eq 17, 3) := by decide +kernel
theorem dX9_trip_16 : decode cX9_trip 16 = .ok (.iload_n 1, 1) := by decide +kernel
theorem dX9_trip_17 : decode cX9_trip 17 = .ok (.iload_n 2, 1) := by decide +kernel
theorem dX9_trip_18 : decode cX9_trip 18 = .ok (.if_icmp .eq 12, 3) := by decide +kernel
theorem dX9_trip_21 : decode cX9_trip 21 = .ok (.iload_n 3, 1) := by decide +kernel
theorem dX9_trip_22 : decode cX9_trip 22 = .ok (.iconst 0, 1) := by decide +kernel
theorem dX9_trip_23 : decode cX9_trip 23 = .ok (.iconst 1, 1) := by decide +kernel
theorem dX9_trip_24 : decode cX9_trip 24 = .ok (.invokestatic 73, 3) := by decide +kernel
theorem dX9_trip_27 : decode cX9_trip 27 = .ok (.ifCond .ne 5, 3) := by decide +kernel
theorem dX9_trip_30 : decode cX9_trip 30 = .ok (.iconst (-1), 1) := by decide +kernel
theorem dX9_trip_31 : decode cX9_trip 31 = .ok (.ireturn, 1) := by decide +kernel
theorem dX9_trip_32 : decode cX9_trip 32 = .ok (.aload_n 0, 1) := by decide +kernel
theorem dX9_trip_33 : decode cX9_trip 33 = .ok (.invokevirtual 162, 3) := by decide +kernel
theorem dX9_trip_36 : decode cX9_trip 36 = .ok (.iconst 0, 1) := by decide +kernel
theorem dX9_trip_37 : decode cX9_trip 37 = .ok (.istore 4, 2) := by decide +kernel
theorem dX9_trip_39 : decode cX9_trip 39 = .ok (.iload 4, 2) := by decide +kernel
theorem dX9_trip_41 : decode cX9_trip 41 = .ok (.iconst 5, 1) := by decide +kernel
theorem dX9_trip_42 : decode cX9_trip 42 = .ok (.if_icmp .ge 37, 3) := by decide +kernel
theorem dX9_trip_45 : decode cX9_trip 45 = .ok (.aload_n 0, 1) := by decide +kernel
theorem dX9_trip_46 : decode cX9_trip 46 = .ok (.getfield 50, 3) := by decide +kernel
theorem dX9_trip_49 : decode cX9_trip 49 = .ok (.iload 4, 2) := by decide +kernel
theorem dX9_trip_51 : decode cX9_trip 51 = .ok (.iload 4, 2) := by decide +kernel
theorem dX9_trip_53 : decode cX9_trip 53 = .ok (.iload_n 1, 1) := by decide +kernel
theorem dX9_trip_54 : decode cX9_trip 54 = .ok (.if_icmp .ne 7, 3) := by decide +kernel
theorem dX9_trip_57 : decode cX9_trip 57 = .ok (.iconst 0, 1) := by decide +kernel
theorem dX9_trip_58 : decode cX9_trip 58 = .ok (.goto 5, 3) := by decide +kernel
theorem dX9_trip_61 : decode cX9_trip 61 = .ok (.bipush 99, 2) := by decide +kernel
theorem dX9_trip_63 : decode cX9_trip 63 = .ok (.iastore, 1) := by decide +kernel
theorem dX9_trip_64 : decode cX9_trip 64 = .ok (.aload_n 0, 1) := by decide +kernel
theorem dX9_trip_65 : decode cX9_trip 65 = .ok (.getfield 53, 3) := by decide +kernel
theorem dX9_trip_68 : decode cX9_trip 68 = .ok (.iload 4, 2) := by decide +kernel
theorem dX9_trip_70 : decode cX9_trip 70 = .ok (.bipush 99, 2) := by decide +kernel
theorem dX9_trip_72 : decode cX9_trip 72 = .ok (.iastore, 1) := by decide +kernel
theorem dX9_trip_73 : decode cX9_trip 73 = .ok (.iinc 4 1, 3) := by decide +kernel
theorem dX9_trip_76 : decode cX9_trip 76 = .ok (.goto (-37), 3) := by decide +kernel
theorem dX9_trip_79 : decode cX9_trip 79 = .ok (.iconst 0, 1) := by decide +kernel
theorem dX9_trip_80 : decode cX9_trip 80 = .ok (.istore 4, 2) := by decide +kernel
theorem dX9_trip_82 : decode cX9_trip 82 = .ok (.iload 4, 2) := by decide +kernel
theorem dX9_trip_84 : decode cX9_trip 84 = .ok (.bipush 60, 2) := by decide +kernel
theorem dX9_trip_86 : decode cX9_trip 86 = .ok (.if_icmp .gt 203, 3) := by decide +kernel
theorem dX9_trip_89 : decode cX9_trip 89 = .ok (.iconst 0, 1) := by decide +kernel
theorem dX9_trip_90 : decode cX9_trip 90 = .ok (.istore 5, 2) := by decide +kernel
theorem dX9_trip_92 : decode cX9_trip 92 = .ok (.iload 5, 2) := by decide +kernel
theorem dX9_trip_94 : decode cX9_trip 94 = .ok (.bipush 10, 2) := by decide +kernel
theorem dX9_trip_96 : decode cX9_trip 96 = .ok (.if_icmp .ge 160, 3) := by decide +kernel
theorem dX9_trip_99 : decode cX9_trip 99 = .ok (.iconst 0, 1) := by decide +kernel
theorem dX9_trip_100 : decode cX9_trip 100 = .ok (.istore 6, 2) := by decide +kernel
theorem dX9_trip_102 : decode cX9_trip 102 = .ok (.iload 6, 2) := by decide +kernel
theorem dX9_trip_104 : decode cX9_trip 104 = .ok (.aload_n 0, 1) := by decide +kernel
theorem dX9_trip_105 : decode cX9_trip 105 = .ok (.getfield 13, 3) := by decide +kernel
theorem dX9_trip_108 : decode cX9_trip 108 = .ok (.iconst 1, 1) := by decide +kernel
theorem dX9_trip_109 : decode cX9_trip 109 = .ok (.iaload, 1) := by decide +kernel
theorem dX9_trip_110 : decode cX9_trip 110 = .ok (.if_icmp .ge 140, 3) := by decide +kernel
theorem dX9_trip_113 : decode cX9_trip 113 = .ok (.iconst 0, 1) := by decide +kernel
theorem dX9_trip_114 : decode cX9_trip 114 = .ok (.istore 7, 2) := by decide +kernel
theorem dX9_trip_116 : decode cX9_trip 116 = .ok (.iload 7, 2) := by decide +kernel
theorem dX9_trip_118 : decode cX9_trip 118 = .ok (.aload_n 0, 1) := by decide +kernel
theorem dX9_trip_119 : decode cX9_trip 119 = .ok (.getfield 13, 3) := by decide +kernel
theorem dX9_trip_122 : decode cX9_trip 122 = .ok (.iconst 2, 1) := by decide +kernel
theorem dX9_trip_123 : decode cX9_trip 123 = .ok (.iaload, 1) := by decide +kernel
theorem dX9_trip_124 : decode cX9_trip 124 = .ok (.if_icmp .ge 120, 3) := by decide +kernel
theorem dX9_trip_127 : decode cX9_trip 127 = .ok (.aload_n 0, 1) := by decide +kernel
theorem dX9_trip_128 : decode cX9_trip 128 = .ok (.iload 7, 2) := by decide +kernel
theorem dX9_trip_130 : decode cX9_trip 130 = .ok (.iload 6, 2) := by decide +kernel
theorem dX9_trip_132 : decode cX9_trip 132 = .ok (.iload 4, 2) := by decide +kernel
theorem dX9_trip_134 : decode cX9_trip 134 = .ok (.invokevirtual 165, 3) := by decide +kernel
theorem dX9_trip_137 : decode cX9_trip 137 = .ok (.ifCond .eq 101, 3) := by decide +kernel
theorem dX9_trip_140 : decode cX9_trip 140 = .ok (.aload_n 0, 1) := by decide +kernel
theorem dX9_trip_141 : decode cX9_trip 141 = .ok (.getfield 53, 3) := by decide +kernel
theorem dX9_trip_144 : decode cX9_trip 144 = .ok (.iload 7, 2) := by decide +kernel
theorem dX9_trip_146 : decode cX9_trip 146 = .ok (.aload_n 0, 1) := by decide +kernel
theorem dX9_trip_147 : decode cX9_trip 147 = .ok (.getfield 50, 3) := by decide +kernel
theorem dX9_trip_150 : decode cX9_trip 150 = .ok (.iload 6, 2) := by decide +kernel
theorem dX9_trip_152 : decode cX9_trip 152 = .ok (.iaload, 1) := by decide +kernel
theorem dX9_trip_153 : decode cX9_trip 153 = .ok (.bipush 99, 2) := by decide +kernel
theorem dX9_trip_155 : decode cX9_trip 155 = .ok (.if_icmp .ge 34, 3) := by decide +kernel
theorem dX9_trip_158 : decode cX9_trip 158 = .ok (.aload_n 0, 1) := by decide +kernel
theorem dX9_trip_159 : decode cX9_trip 159 = .ok (.getfield 50, 3) := by decide +kernel
theorem dX9_trip_162 : decode cX9_trip 162 = .ok (.iload 6, 2) := by decide +kernel
theorem dX9_trip_164 : decode cX9_trip 164 = .ok (.iaload, 1) := by decide +kernel
theorem dX9_trip_165 : decode cX9_trip 165 = .ok (.iconst 1, 1) := by decide +kernel
theorem dX9_trip_166 : decode cX9_trip 166 = .ok (.iadd, 1) := by decide +kernel
theorem dX9_trip_167 : decode cX9_trip 167 = .ok (.aload_n 0, 1) := by decide +kernel
theorem dX9_trip_168 : decode cX9_trip 168 = .ok (.getfield 53, 3) := by decide +kernel
theorem dX9_trip_171 : decode cX9_trip 171 = .ok (.iload 7, 2) := by decide +kernel
theorem dX9_trip_173 : decode cX9_trip 173 = .ok (.iaload, 1) := by decide +kernel
theorem dX9_trip_174 : decode cX9_trip 174 = .ok (.if_icmp .ge 15, 3) := by decide +kernel
theorem dX9_trip_177 : decode cX9_trip 177 = .ok (.aload_n 0, 1) := by decide +kernel
theorem dX9_trip_178 : decode cX9_trip 178 = .ok (.getfield 50, 3) := by decide +kernel
theorem dX9_trip_181 : decode cX9_trip 181 = .ok (.iload 6, 2) := by decide +kernel
theorem dX9_trip_183 : decode cX9_trip 183 = .ok (.iaload, 1) := by decide +kernel
theorem dX9_trip_184 : decode cX9_trip 184 = .ok (.iconst 1, 1) := by decide +kernel
theorem dX9_trip_185 : decode cX9_trip 185 = .ok (.iadd, 1) := by decide +kernel
theorem dX9_trip_186 : decode cX9_trip 186 = .ok (.goto 10, 3) := by decide +kernel
theorem dX9_trip_189 : decode cX9_trip 189 = .ok (.aload_n 0, 1) := by decide +kernel
theorem dX9_trip_190 : decode cX9_trip 190 = .ok (.getfield 53, 3) := by decide +kernel
theorem dX9_trip_193 : decode cX9_trip 193 = .ok (.iload 7, 2) := by decide +kernel
theorem dX9_trip_195 : decode cX9_trip 195 = .ok (.iaload, 1) := by decide +kernel
theorem dX9_trip_196 : decode cX9_trip 196 = .ok (.iastore, 1) := by decide +kernel
theorem dX9_trip_197 : decode cX9_trip 197 = .ok (.aload_n 0, 1) := by decide +kernel
theorem dX9_trip_198 : decode cX9_trip 198 = .ok (.getfield 50, 3) := by decide +kernel
theorem dX9_trip_201 : decode cX9_trip 201 = .ok (.iload 6, 2) := by decide +kernel
theorem dX9_trip_203 : decode cX9_trip 203 = .ok (.aload_n 0, 1) := by decide +kernel
theorem dX9_trip_204 : decode cX9_trip 204 = .ok (.getfield 53, 3) := by decide +kernel
theorem dX9_trip_207 : decode cX9_trip 207 = .ok (.iload 7, 2) := by decide +kernel
theorem dX9_trip_209 : decode cX9_trip 209 = .ok (.iaload, 1) := by decide +kernel
theorem dX9_trip_210 : decode cX9_trip 210 = .ok (.aload_n 0, 1) := by decide +kernel
theorem dX9_trip_211 : decode cX9_trip 211 = .ok (.getfield 50, 3) := by decide +kernel
theorem dX9_trip_214 : decode cX9_trip 214 = .ok (.iload 6, 2) := by decide +kernel
theorem dX9_trip_216 : decode cX9_trip 216 = .ok (.iaload, 1) := by decide +kernel
theorem dX9_trip_217 : decode cX9_trip 217 = .ok (.if_icmp .ge 13, 3) := by decide +kernel
theorem dX9_trip_220 : decode cX9_trip 220 = .ok (.aload_n 0, 1) := by decide +kernel
theorem dX9_trip_221 : decode cX9_trip 221 = .ok (.getfield 53, 3) := by decide +kernel
theorem dX9_trip_224 : decode cX9_trip 224 = .ok (.iload 7, 2) := by decide +kernel
theorem dX9_trip_226 : decode cX9_trip 226 = .ok (.iaload, 1) := by decide +kernel
theorem dX9_trip_227 : decode cX9_trip 227 = .ok (.goto 10, 3) := by decide +kernel
theorem dX9_trip_230 : decode cX9_trip 230 = .ok (.aload_n 0, 1) := by decide +kernel
theorem dX9_trip_231 : decode cX9_trip 231 = .ok (.getfield 50, 3) := by decide +kernel
theorem dX9_trip_234 : decode cX9_trip 234 = .ok (.iload 6, 2) := by decide +kernel
theorem dX9_trip_236 : decode cX9_trip 236 = .ok (.iaload, 1) := by decide +kernel
theorem dX9_trip_237 : decode cX9_trip 237 = .ok (.iastore, 1) := by decide +kernel
theorem dX9_trip_238 : decode cX9_trip 238 = .ok (.iinc 7 1, 3) := by decide +kernel
theorem dX9_trip_241 : decode cX9_trip 241 = .ok (.goto (-125), 3) := by decide +kernel
theorem dX9_trip_244 : decode cX9_trip 244 = .ok (.iinc 6 1, 3) := by decide +kernel
theorem dX9_trip_247 : decode cX9_trip 247 = .ok (.goto (-145), 3) := by decide +kernel
theorem dX9_trip_250 : decode cX9_trip 250 = .ok (.iinc 5 1, 3) := by decide +kernel
theorem dX9_trip_253 : decode cX9_trip 253 = .ok (.goto (-161), 3) := by decide +kernel
theorem dX9_trip_256 : decode cX9_trip 256 = .ok (.aload_n 0, 1) := by decide +kernel
theorem dX9_trip_257 : decode cX9_trip 257 = .ok (.getfield 50, 3) := by decide +kernel
theorem dX9_trip_260 : decode cX9_trip 260 = .ok (.iload_n 2, 1) := by decide +kernel
theorem dX9_trip_261 : decode cX9_trip 261 = .ok (.iaload, 1) := by decide +kernel
theorem dX9_trip_262 : decode cX9_trip 262 = .ok (.bipush 99, 2) := by decide +kernel
theorem dX9_trip_264 : decode cX9_trip 264 = .ok (.if_icmp .ge 19, 3) := by decide +kernel
theorem dX9_trip_267 : decode cX9_trip 267 = .ok (.iload_n 3, 1) := by decide +kernel
theorem dX9_trip_268 : decode cX9_trip 268 = .ok (.ifCond .ne 8, 3) := by decide +kernel
theorem dX9_trip_271 : decode cX9_trip 271 = .ok (.iload 4, 2) := by decide +kernel
theorem dX9_trip_273 : decode cX9_trip 273 = .ok (.goto 9, 3) := by decide +kernel
theorem dX9_trip_276 : decode cX9_trip 276 = .ok (.aload_n 0, 1) := by decide +kernel
theorem dX9_trip_277 : decode cX9_trip 277 = .ok (.getfield 50, 3) := by decide +kernel
theorem dX9_trip_280 : decode cX9_trip 280 = .ok (.iload_n 2, 1) := by decide +kernel
theorem dX9_trip_281 : decode cX9_trip 281 = .ok (.iaload, 1) := by decide +kernel
theorem dX9_trip_282 : decode cX9_trip 282 = .ok (.ireturn, 1) := by decide +kernel
theorem dX9_trip_283 : decode cX9_trip 283 = .ok (.iinc 4 1, 3) := by decide +kernel
theorem dX9_trip_286 : decode cX9_trip 286 = .ok (.goto (-204), 3) := by decide +kernel
theorem dX9_trip_289 : decode cX9_trip 289 = .ok (.bipush (-4), 2) := by decide +kernel
theorem dX9_trip_291 : decode cX9_trip 291 = .ok (.ireturn, 1) := by decide +kernel
theorem dX9_best_0 : decode cX9_best 0 = .ok (.aload_n 0, 1) := by decide +kernel
theorem dX9_best_1 : decode cX9_best 1 = .ok (.iload_n 1, 1) := by decide +kernel
theorem dX9_best_2 : decode cX9_best 2 = .ok (.invokevirtual 115, 3) := by decide +kernel
theorem dX9_best_5 : decode cX9_best 5 = .ok (.ifCond .eq 20, 3) := by decide +kernel
theorem dX9_best_8 : decode cX9_best 8 = .ok (.aload_n 0, 1) := by decide +kernel
theorem dX9_best_9 : decode cX9_best 9 = .ok (.iload_n 2, 1) := by decide +kernel
theorem dX9_best_10 : decode cX9_best 10 = .ok (.invokevirtual 118, 3) := by decide +kernel
theorem dX9_best_13 : decode cX9_best 13 = .ok (.ifCond .eq 12, 3) := by decide +kernel
theorem dX9_best_16 : decode cX9_best 16 = .ok (.iload_n 3, 1) := by decide +kernel
theorem dX9_best_17 : decode cX9_best 17 = .ok (.iconst 0, 1) := by decide +kernel
theorem dX9_best_18 : decode cX9_best 18 = .ok (.iconst 1, 1) := by decide +kernel
theorem dX9_best_19 : decode cX9_best 19 = .ok (.invokestatic 73, 3) := by decide +kernel
theorem dX9_best_22 : decode cX9_best 22 = .ok (.ifCond .ne 5, 3) := by decide +kernel
theorem dX9_best_25 : decode cX9_best 25 = .ok (.iconst (-1), 1) := by decide +kernel
theorem dX9_best_26 : decode cX9_best 26 = .ok (.ireturn, 1) := by decide +kernel
theorem dX9_best_27 : decode cX9_best 27 = .ok (.aload_n 0, 1) := by decide +kernel
theorem dX9_best_28 : decode cX9_best 28 = .ok (.getfield 22, 3) := by decide +kernel
theorem dX9_best_31 : decode cX9_best 31 = .ok (.iload_n 1, 1) := by decide +kernel
theorem dX9_best_32 : decode cX9_best 32 = .ok (.iaload, 1) := by decide +kernel
theorem dX9_best_33 : decode cX9_best 33 = .ok (.istore 4, 2) := by decide +kernel
theorem dX9_best_35 : decode cX9_best 35 = .ok (.bipush (-4), 2) := by decide +kernel
theorem dX9_best_37 : decode cX9_best 37 = .ok (.istore 5, 2) := by decide +kernel
theorem dX9_best_39 : decode cX9_best 39 = .ok (.bipush (-4), 2) := by decide +kernel
theorem dX9_best_41 : decode cX9_best 41 = .ok (.istore 6, 2) := by decide +kernel
theorem dX9_best_43 : decode cX9_best 43 = .ok (.bipush 30, 2) := by decide +kernel
theorem dX9_best_45 : decode cX9_best 45 = .ok (.istore 7, 2) := by decide +kernel
theorem dX9_best_47 : decode cX9_best 47 = .ok (.iload 7, 2) := by decide +kernel
theorem dX9_best_49 : decode cX9_best 49 = .ok (.ifCond .lt 85, 3) := by decide +kernel
theorem dX9_best_52 : decode cX9_best 52 = .ok (.aload_n 0, 1) := by decide +kernel
theorem dX9_best_53 : decode cX9_best 53 = .ok (.getfield 22, 3) := by decide +kernel
theorem dX9_best_56 : decode cX9_best 56 = .ok (.iload_n 1, 1) := by decide +kernel
theorem dX9_best_57 : decode cX9_best 57 = .ok (.iload 7, 2) := by decide +kernel
theorem dX9_best_59 : decode cX9_best 59 = .ok (.iastore, 1) := by decide +kernel
theorem dX9_best_60 : decode cX9_best 60 = .ok (.aload_n 0, 1) := by decide +kernel
theorem dX9_best_61 : decode cX9_best 61 = .ok (.invokevirtual 162, 3) := by decide +kernel
theorem dX9_best_64 : decode cX9_best 64 = .ok (.aload_n 0, 1) := by decide +kernel
theorem dX9_best_65 : decode cX9_best 65 = .ok (.iload_n 1, 1) := by decide +kernel
theorem dX9_best_66 : decode cX9_best 66 = .ok (.iload_n 2, 1) := by decide +kernel
theorem dX9_best_67 : decode cX9_best 67 = .ok (.invokevirtual 168, 3) := by decide +kernel
theorem dX9_best_70 : decode cX9_best 70 = .ok (.istore 8, 2) := by decide +kernel
theorem dX9_best_72 : decode cX9_best 72 = .ok (.iload 8, 2) := by decide +kernel
theorem dX9_best_74 : decode cX9_best 74 = .ok (.bipush (-4), 2) := by decide +kernel
theorem dX9_best_76 : decode cX9_best 76 = .ok (.if_icmp .eq 21, 3) := by decide +kernel
theorem dX9_best_79 : decode cX9_best 79 = .ok (.iload 6, 2) := by decide +kernel
theorem dX9_best_81 : decode cX9_best 81 = .ok (.bipush (-4), 2) := by decide +kernel
theorem dX9_best_83 : decode cX9_best 83 = .ok (.if_icmp .eq 10, 3) := by decide +kernel
theorem dX9_best_86 : decode cX9_best 86 = .ok (.iload 8, 2) := by decide +kernel
theorem dX9_best_88 : decode cX9_best 88 = .ok (.iload 6, 2) := by decide +kernel
theorem dX9_best_90 : decode cX9_best 90 = .ok (.if_icmp .ge 7, 3) := by decide +kernel
theorem dX9_best_93 : decode cX9_best 93 = .ok (.iconst 1, 1) := by decide +kernel
theorem dX9_best_94 : decode cX9_best 94 = .ok (.goto 4, 3) := by decide +kernel
theorem dX9_best_97 : decode cX9_best 97 = .ok (.iconst 0, 1) := by decide +kernel
theorem dX9_best_98 : decode cX9_best 98 = .ok (.istore 9, 2) := by decide +kernel
theorem dX9_best_100 : decode cX9_best 100 = .ok (.iload 9, 2) := by decide +kernel
theorem dX9_best_102 : decode cX9_best 102 = .ok (.ifCond .eq 8, 3) := by decide +kernel
theorem dX9_best_105 : decode cX9_best 105 = .ok (.iload 7, 2) := by decide +kernel
theorem dX9_best_107 : decode cX9_best 107 = .ok (.goto 5, 3) := by decide +kernel
theorem dX9_best_110 : decode cX9_best 110 = .ok (.iload 5, 2) := by decide +kernel
theorem dX9_best_112 : decode cX9_best 112 = .ok (.istore 5, 2) := by decide +kernel
theorem dX9_best_114 : decode cX9_best 114 = .ok (.iload 9, 2) := by decide +kernel
theorem dX9_best_116 : decode cX9_best 116 = .ok (.ifCond .eq 8, 3) := by decide +kernel
theorem dX9_best_119 : decode cX9_best 119 = .ok (.iload 8, 2) := by decide +kernel
theorem dX9_best_121 : decode cX9_best 121 = .ok (.goto 5, 3) := by decide +kernel
theorem dX9_best_124 : decode cX9_best 124 = .ok (.iload 6, 2) := by decide +kernel
theorem dX9_best_126 : decode cX9_best 126 = .ok (.istore 6, 2) := by decide +kernel
theorem dX9_best_128 : decode cX9_best 128 = .ok (.iinc 7 (-1), 3) := by decide +kernel
theorem dX9_best_131 : decode cX9_best 131 = .ok (.goto (-84), 3) := by decide +kernel
theorem dX9_best_134 : decode cX9_best 134 = .ok (.aload_n 0, 1) := by decide +kernel
theorem dX9_best_135 : decode cX9_best 135 = .ok (.getfield 22, 3) := by decide +kernel
theorem dX9_best_138 : decode cX9_best 138 = .ok (.iload_n 1, 1) := by decide +kernel
theorem dX9_best_139 : decode cX9_best 139 = .ok (.iload 4, 2) := by decide +kernel
theorem dX9_best_141 : decode cX9_best 141 = .ok (.iastore, 1) := by decide +kernel
theorem dX9_best_142 : decode cX9_best 142 = .ok (.iload_n 3, 1) := by decide +kernel
theorem dX9_best_143 : decode cX9_best 143 = .ok (.ifCond .ne 8, 3) := by decide +kernel
theorem dX9_best_146 : decode cX9_best 146 = .ok (.iload 5, 2) := by decide +kernel
theorem dX9_best_148 : decode cX9_best 148 = .ok (.goto 5, 3) := by decide +kernel
theorem dX9_best_151 : decode cX9_best 151 = .ok (.iload 6, 2) := by decide +kernel
theorem dX9_best_153 : decode cX9_best 153 = .ok (.ireturn, 1) := by decide +kernel
theorem dX9_places_0 : decode cX9_places 0 = .ok (.iload_n 1, 1) := by decide +kernel
theorem dX9_places_1 : decode cX9_places 1 = .ok (.iconst 0, 1) := by decide +kernel
theorem dX9_places_2 : decode cX9_places 2 = .ok (.iconst 2, 1) := by decide +kernel
theorem dX9_places_3 : decode cX9_places 3 = .ok (.invokestatic 73, 3) := by decide +kernel
theorem dX9_places_6 : decode cX9_places 6 = .ok (.ifCond .ne 5, 3) := by decide +kernel
theorem dX9_places_9 : decode cX9_places 9 = .ok (.iconst (-1), 1) := by decide +kernel
theorem dX9_places_10 : decode cX9_places 10 = .ok (.ireturn, 1) := by decide +kernel
theorem dX9_places_11 : decode cX9_places 11 = .ok (.aload_n 0, 1) := by decide +kernel
theorem dX9_places_12 : decode cX9_places 12 = .ok (.getfield 22, 3) := by decide +kernel
theorem dX9_places_15 : decode cX9_places 15 = .ok (.bipush 6, 2) := by decide +kernel
theorem dX9_places_17 : decode cX9_places 17 = .ok (.iaload, 1) := by decide +kernel
theorem dX9_places_18 : decode cX9_places 18 = .ok (.istore_n 2, 1) := by decide +kernel
theorem dX9_places_19 : decode cX9_places 19 = .ok (.aload_n 0, 1) := by decide +kernel
theorem dX9_places_20 : decode cX9_places 20 = .ok (.invokevirtual 162, 3) := by decide +kernel
theorem dX9_places_23 : decode cX9_places 23 = .ok (.aload_n 0, 1) := by decide +kernel
theorem dX9_places_24 : decode cX9_places 24 = .ok (.getfield 146, 3) := by decide +kernel
theorem dX9_places_27 : decode cX9_places 27 = .ok (.ifCond .ne 7, 3) := by decide +kernel
theorem dX9_places_30 : decode cX9_places 30 = .ok (.iconst 0, 1) := by decide +kernel
theorem dX9_places_31 : decode cX9_places 31 = .ok (.goto 5, 3) := by decide +kernel
theorem dX9_places_34 : decode cX9_places 34 = .ok (.bipush (-4), 2) := by decide +kernel
theorem dX9_places_36 : decode cX9_places 36 = .ok (.istore_n 3, 1) := by decide +kernel
theorem dX9_places_37 : decode cX9_places 37 = .ok (.bipush (-4), 2) := by decide +kernel
theorem dX9_places_39 : decode cX9_places 39 = .ok (.istore 4, 2) := by decide +kernel
theorem dX9_places_41 : decode cX9_places 41 = .ok (.bipush (-4), 2) := by decide +kernel
theorem dX9_places_43 : decode cX9_places 43 = .ok (.istore 5, 2) := by decide +kernel
theorem dX9_places_45 : decode cX9_places 45 = .ok (.aload_n 0, 1) := by decide +kernel
theorem dX9_places_46 : decode cX9_places 46 = .ok (.getfield 13, 3) := by decide +kernel
theorem dX9_places_49 : decode cX9_places 49 = .ok (.iconst 0, 1) := by decide +kernel
theorem dX9_places_50 : decode cX9_places 50 = .ok (.iaload, 1) := by decide +kernel
theorem dX9_places_51 : decode cX9_places 51 = .ok (.iconst 1, 1) := by decide +kernel
theorem dX9_places_52 : decode cX9_places 52 = .ok (.isub, 1) := by decide +kernel
theorem dX9_places_53 : decode cX9_places 53 = .ok (.istore 6, 2) := by decide +kernel
theorem dX9_places_55 : decode cX9_places 55 = .ok (.iload 6, 2) := by decide +kernel
theorem dX9_places_57 : decode cX9_places 57 = .ok (.ifCond .lt 80, 3) := by decide +kernel
theorem dX9_places_60 : decode cX9_places 60 = .ok (.iload_n 3, 1) := by decide +kernel
theorem dX9_places_61 : decode cX9_places 61 = .ok (.ifCond .eq 76, 3) := by decide +kernel
theorem dX9_places_64 : decode cX9_places 64 = .ok (.aload_n 0, 1) := by decide +kernel
theorem dX9_places_65 : decode cX9_places 65 = .ok (.getfield 22, 3) := by decide +kernel
theorem dX9_places_68 : decode cX9_places 68 = .ok (.bipush 6, 2) := by decide +kernel
theorem dX9_places_70 : decode cX9_places 70 = .ok (.iload_n 2, 1) := by decide +kernel
theorem dX9_places_71 : decode cX9_places 71 = .ok (.iconst 1, 1) := by decide +kernel
theorem dX9_places_72 : decode cX9_places 72 = .ok (.iload 6, 2) := by decide +kernel
theorem dX9_places_74 : decode cX9_places 74 = .ok (.ishl, 1) := by decide +kernel
theorem dX9_places_75 : decode cX9_places 75 = .ok (.ior, 1) := by decide +kernel
theorem dX9_places_76 : decode cX9_places 76 = .ok (.iastore, 1) := by decide +kernel
theorem dX9_places_77 : decode cX9_places 77 = .ok (.aload_n 0, 1) := by decide +kernel
theorem dX9_places_78 : decode cX9_places 78 = .ok (.invokevirtual 162, 3) := by decide +kernel
theorem dX9_places_81 : decode cX9_places 81 = .ok (.aload_n 0, 1) := by decide +kernel
theorem dX9_places_82 : decode cX9_places 82 = .ok (.getfield 22, 3) := by decide +kernel
theorem dX9_places_85 : decode cX9_places 85 = .ok (.bipush 6, 2) := by decide +kernel
theorem dX9_places_87 : decode cX9_places 87 = .ok (.iaload, 1) := by decide +kernel
theorem dX9_places_88 : decode cX9_places 88 = .ok (.iload_n 2, 1) := by decide +kernel
theorem dX9_places_89 : decode cX9_places 89 = .ok (.if_icmp .eq 14, 3) := by decide +kernel
theorem dX9_places_92 : decode cX9_places 92 = .ok (.aload_n 0, 1) := by decide +kernel
theorem dX9_places_93 : decode cX9_places 93 = .ok (.getfield 146, 3) := by decide +kernel
theorem dX9_places_96 : decode cX9_places 96 = .ok (.ifCond .ne 7, 3) := by decide +kernel
theorem dX9_places_99 : decode cX9_places 99 = .ok (.iconst 1, 1) := by decide +kernel
theorem dX9_places_100 : decode cX9_places 100 = .ok (.goto 4, 3) := by decide +kernel
theorem dX9_places_103 : decode cX9_places 103 = .ok (.iconst 0, 1) := by decide +kernel
theorem dX9_places_104 : decode cX9_places 104 = .ok (.istore 7, 2) := by decide +kernel
theorem dX9_places_106 : decode cX9_places 106 = .ok (.iload 7, 2) := by decide +kernel
theorem dX9_places_108 : decode cX9_places 108 = .ok (.ifCond .eq 7, 3) := by decide +kernel
theorem dX9_places_111 : decode cX9_places 111 = .ok (.iconst 1, 1) := by decide +kernel
theorem dX9_places_112 : decode cX9_places 112 = .ok (.goto 4, 3) := by decide +kernel
theorem dX9_places_115 : decode cX9_places 115 = .ok (.iload_n 3, 1) := by decide +kernel
theorem dX9_places_116 : decode cX9_places 116 = .ok (.istore_n 3, 1) := by decide +kernel
theorem dX9_places_117 : decode cX9_places 117 = .ok (.iload 7, 2) := by decide +kernel
theorem dX9_places_119 : decode cX9_places 119 = .ok (.ifCond .eq 8, 3) := by decide +kernel
theorem dX9_places_122 : decode cX9_places 122 = .ok (.iload 6, 2) := by decide +kernel
theorem dX9_places_124 : decode cX9_places 124 = .ok (.goto 5, 3) := by decide +kernel
theorem dX9_places_127 : decode cX9_places 127 = .ok (.iload 4, 2) := by decide +kernel
theorem dX9_places_129 : decode cX9_places 129 = .ok (.istore 4, 2) := by decide +kernel
theorem dX9_places_131 : decode cX9_places 131 = .ok (.iinc 6 (-1), 3) := by decide +kernel
theorem dX9_places_134 : decode cX9_places 134 = .ok (.goto (-79), 3) := by decide +kernel
theorem dX9_places_137 : decode cX9_places 137 = .ok (.aload_n 0, 1) := by decide +kernel
theorem dX9_places_138 : decode cX9_places 138 = .ok (.getfield 13, 3) := by decide +kernel
theorem dX9_places_141 : decode cX9_places 141 = .ok (.iconst 0, 1) := by decide +kernel
theorem dX9_places_142 : decode cX9_places 142 = .ok (.iaload, 1) := by decide +kernel
theorem dX9_places_143 : decode cX9_places 143 = .ok (.iconst 1, 1) := by decide +kernel
theorem dX9_places_144 : decode cX9_places 144 = .ok (.isub, 1) := by decide +kernel
theorem dX9_places_145 : decode cX9_places 145 = .ok (.istore 6, 2) := by decide +kernel
theorem dX9_places_147 : decode cX9_places 147 = .ok (.iload 6, 2) := by decide +kernel
theorem dX9_places_149 : decode cX9_places 149 = .ok (.ifCond .lt 124, 3) := by decide +kernel
theorem dX9_places_152 : decode cX9_places 152 = .ok (.iload_n 3, 1) := by decide +kernel
theorem dX9_places_153 : decode cX9_places 153 = .ok (.ifCond .eq 120, 3) := by decide +kernel
theorem dX9_places_156 : decode cX9_places 156 = .ok (.iload_n 3, 1) := by decide +kernel
theorem dX9_places_157 : decode cX9_places 157 = .ok (.iconst 1, 1) := by decide +kernel
theorem dX9_places_158 : decode cX9_places 158 = .ok (.if_icmp .eq 115, 3) := by decide +kernel
theorem dX9_places_161 : decode cX9_places 161 = .ok (.aload_n 0, 1) := by decide +kernel
theorem dX9_places_162 : decode cX9_places 162 = .ok (.getfield 13, 3) := by decide +kernel
theorem dX9_places_165 : decode cX9_places 165 = .ok (.iconst 0, 1) := by decide +kernel
theorem dX9_places_166 : decode cX9_places 166 = .ok (.iaload, 1) := by decide +kernel
theorem dX9_places_167 : decode cX9_places 167 = .ok (.iconst 1, 1) := by decide +kernel
theorem dX9_places_168 : decode cX9_places 168 = .ok (.isub, 1) := by decide +kernel
theorem dX9_places_169 : decode cX9_places 169 = .ok (.istore 7, 2) := by decide +kernel
theorem dX9_places_171 : decode cX9_places 171 = .ok (.iload 7, 2) := by decide +kernel
theorem dX9_places_173 : decode cX9_places 173 = .ok (.iload 6, 2) := by decide +kernel
theorem dX9_places_175 : decode cX9_places 175 = .ok (.if_icmp .le 92, 3) := by decide +kernel
theorem dX9_places_178 : decode cX9_places 178 = .ok (.aload_n 0, 1) := by decide +kernel
theorem dX9_places_179 : decode cX9_places 179 = .ok (.getfield 22, 3) := by decide +kernel
theorem dX9_places_182 : decode cX9_places 182 = .ok (.bipush 6, 2) := by decide +kernel
theorem dX9_places_184 : decode cX9_places 184 = .ok (.iload_n 2, 1) := by decide +kernel
theorem dX9_places_185 : decode cX9_places 185 = .ok (.iconst 1, 1) := by decide +kernel
theorem dX9_places_186 : decode cX9_places 186 = .ok (.iload 6, 2) := by decide +kernel
theorem dX9_places_188 : decode cX9_places 188 = .ok (.ishl, 1) := by decide +kernel
theorem dX9_places_189 : decode cX9_places 189 = .ok (.ior, 1) := by decide +kernel
theorem dX9_places_190 : decode cX9_places 190 = .ok (.iconst 1, 1) := by decide +kernel
theorem dX9_places_191 : decode cX9_places 191 = .ok (.iload 7, 2) := by decide +kernel
theorem dX9_places_193 : decode cX9_places 193 = .ok (.ishl, 1) := by decide +kernel
theorem dX9_places_194 : decode cX9_places 194 = .ok (.ior, 1) := by decide +kernel
theorem dX9_places_195 : decode cX9_places 195 = .ok (.iastore, 1) := by decide +kernel
theorem dX9_places_196 : decode cX9_places 196 = .ok (.aload_n 0, 1) := by decide +kernel
theorem dX9_places_197 : decode cX9_places 197 = .ok (.invokevirtual 162, 3) := by decide +kernel
theorem dX9_places_200 : decode cX9_places 200 = .ok (.aload_n 0, 1) := by decide +kernel
theorem dX9_places_201 : decode cX9_places 201 = .ok (.getfield 22, 3) := by decide +kernel
theorem dX9_places_204 : decode cX9_places 204 = .ok (.bipush 6, 2) := by decide +kernel
theorem dX9_places_206 : decode cX9_places 206 = .ok (.iaload, 1) := by decide +kernel
theorem dX9_places_207 : decode cX9_places 207 = .ok (.invokestatic 172, 3) := by decide +kernel
theorem dX9_places_210 : decode cX9_places 210 = .ok (.iload_n 2, 1) := by decide +kernel
theorem dX9_places_211 : decode cX9_places 211 = .ok (.invokestatic 172, 3) := by decide +kernel
theorem dX9_places_214 : decode cX9_places 214 = .ok (.iconst 2, 1) := by decide +kernel
theorem dX9_places_215 : decode cX9_places 215 = .ok (.iadd, 1) := by decide +kernel
theorem dX9_places_216 : decode cX9_places 216 = .ok (.if_icmp .ne 14, 3) := by decide +kernel
theorem dX9_places_219 : decode cX9_places 219 = .ok (.aload_n 0, 1) := by decide +kernel
theorem dX9_places_220 : decode cX9_places 220 = .ok (.getfield 146, 3) := by decide +kernel
theorem dX9_places_223 : decode cX9_places 223 = .ok (.ifCond .ne 7, 3) := by decide +kernel
theorem dX9_places_226 : decode cX9_places 226 = .ok (.iconst 1, 1) := by decide +kernel
theorem dX9_places_227 : decode cX9_places 227 = .ok (.goto 4, 3) := by decide +kernel
theorem dX9_places_230 : decode cX9_places 230 = .ok (.iconst 0, 1) := by decide +kernel
theorem dX9_places_231 : decode cX9_places 231 = .ok (.istore 8, 2) := by decide +kernel
theorem dX9_places_233 : decode cX9_places 233 = .ok (.iload 8, 2) := by decide +kernel
theorem dX9_places_235 : decode cX9_places 235 = .ok (.ifCond .eq 8, 3) := by decide +kernel
theorem dX9_places_238 : decode cX9_places 238 = .ok (.iload 6, 2) := by decide +kernel
theorem dX9_places_240 : decode cX9_places 240 = .ok (.goto 5, 3) := by decide +kernel
theorem dX9_places_243 : decode cX9_places 243 = .ok (.iload 4, 2) := by decide +kernel
theorem dX9_places_245 : decode cX9_places 245 = .ok (.istore 4, 2) := by decide +kernel
theorem dX9_places_247 : decode cX9_places 247 = .ok (.iload 8, 2) := by decide +kernel
theorem dX9_places_249 : decode cX9_places 249 = .ok (.ifCond .eq 8, 3) := by decide +kernel
theorem dX9_places_252 : decode cX9_places 252 = .ok (.iload 7, 2) := by decide +kernel
theorem dX9_places_254 : decode cX9_places 254 = .ok (.goto 5, 3) := by decide +kernel
theorem dX9_places_257 : decode cX9_places 257 = .ok (.iload 5, 2) := by decide +kernel
theorem dX9_places_259 : decode cX9_places 259 = .ok (.istore 5, 2) := by decide +kernel
theorem dX9_places_261 : decode cX9_places 261 = .ok (.iinc 7 (-1), 3) := by decide +kernel
theorem dX9_places_264 : decode cX9_places 264 = .ok (.goto (-93), 3) := by decide +kernel
theorem dX9_places_267 : decode cX9_places 267 = .ok (.iinc 6 (-1), 3) := by decide +kernel
theorem dX9_places_270 : decode cX9_places 270 = .ok (.goto (-123), 3) := by decide +kernel
theorem dX9_places_273 : decode cX9_places 273 = .ok (.iload 5, 2) := by decide +kernel
theorem dX9_places_275 : decode cX9_places 275 = .ok (.bipush (-4), 2) := by decide +kernel
theorem dX9_places_277 : decode cX9_places 277 = .ok (.if_icmp .eq 7, 3) := by decide +kernel
theorem dX9_places_280 : decode cX9_places 280 = .ok (.iconst 2, 1) := by decide +kernel
theorem dX9_places_281 : decode cX9_places 281 = .ok (.goto 4, 3) := by decide +kernel
theorem dX9_places_284 : decode cX9_places 284 = .ok (.iload_n 3, 1) := by decide +kernel
theorem dX9_places_285 : decode cX9_places 285 = .ok (.istore_n 3, 1) := by decide +kernel
theorem dX9_places_286 : decode cX9_places 286 = .ok (.aload_n 0, 1) := by decide +kernel
theorem dX9_places_287 : decode cX9_places 287 = .ok (.getfield 22, 3) := by decide +kernel
theorem dX9_places_290 : decode cX9_places 290 = .ok (.bipush 6, 2) := by decide +kernel
theorem dX9_places_292 : decode cX9_places 292 = .ok (.iload_n 2, 1) := by decide +kernel
theorem dX9_places_293 : decode cX9_places 293 = .ok (.iastore, 1) := by decide +kernel
theorem dX9_places_294 : decode cX9_places 294 = .ok (.iload_n 1, 1) := by decide +kernel
theorem dX9_places_295 : decode cX9_places 295 = .ok (.ifCond .ne 7, 3) := by decide +kernel
theorem dX9_places_298 : decode cX9_places 298 = .ok (.iload_n 3, 1) := by decide +kernel
theorem dX9_places_299 : decode cX9_places 299 = .ok (.goto 15, 3) := by decide +kernel
theorem dX9_places_302 : decode cX9_places 302 = .ok (.iload_n 1, 1) := by decide +kernel
theorem dX9_places_303 : decode cX9_places 303 = .ok (.iconst 1, 1) := by decide +kernel
theorem dX9_places_304 : decode cX9_places 304 = .ok (.if_icmp .ne 8, 3) := by decide +kernel
theorem dX9_places_307 : decode cX9_places 307 = .ok (.iload 4, 2) := by decide +kernel
theorem dX9_places_309 : decode cX9_places 309 = .ok (.goto 5, 3) := by decide +kernel
theorem dX9_places_312 : decode cX9_places 312 = .ok (.iload 5, 2) := by decide +kernel
theorem dX9_places_314 : decode cX9_places 314 = .ok (.ireturn, 1) := by decide +kernel
theorem dX9_came_0 : decode cX9_came 0 = .ok (.aload_n 0, 1) := by decide +kernel
theorem dX9_came_1 : decode cX9_came 1 = .ok (.iload_n 1, 1) := by decide +kernel
theorem dX9_came_2 : decode cX9_came 2 = .ok (.invokevirtual 118, 3) := by decide +kernel
theorem dX9_came_5 : decode cX9_came 5 = .ok (.ifCond .eq 13, 3) := by decide +kernel
theorem dX9_came_8 : decode cX9_came 8 = .ok (.iload_n 2, 1) := by decide +kernel
theorem dX9_came_9 : decode cX9_came 9 = .ok (.iconst 1, 1) := by decide +kernel
theorem dX9_came_10 : decode cX9_came 10 = .ok (.bipush 60, 2) := by decide +kernel
theorem dX9_came_12 : decode cX9_came 12 = .ok (.invokestatic 73, 3) := by decide +kernel
theorem dX9_came_15 : decode cX9_came 15 = .ok (.ifCond .ne 5, 3) := by decide +kernel
theorem dX9_came_18 : decode cX9_came 18 = .ok (.iconst (-1), 1) := by decide +kernel
theorem dX9_came_19 : decode cX9_came 19 = .ok (.ireturn, 1) := by decide +kernel
theorem dX9_came_20 : decode cX9_came 20 = .ok (.aload_n 0, 1) := by decide +kernel
theorem dX9_came_21 : decode cX9_came 21 = .ok (.getfield 112, 3) := by decide +kernel
theorem dX9_came_24 : decode cX9_came 24 = .ok (.bipush 6, 2) := by decide +kernel
theorem dX9_came_26 : decode cX9_came 26 = .ok (.if_icmp .ne 6, 3) := by decide +kernel
theorem dX9_came_29 : decode cX9_came 29 = .ok (.bipush (-3), 2) := by decide +kernel
theorem dX9_came_31 : decode cX9_came 31 = .ok (.ireturn, 1) := by decide +kernel
theorem dX9_came_32 : decode cX9_came 32 = .ok (.aload_n 0, 1) := by decide +kernel
theorem dX9_came_33 : decode cX9_came 33 = .ok (.getfield 31, 3) := by decide +kernel
theorem dX9_came_36 : decode cX9_came 36 = .ok (.aload_n 0, 1) := by decide +kernel
theorem dX9_came_37 : decode cX9_came 37 = .ok (.getfield 112, 3) := by decide +kernel
theorem dX9_came_40 : decode cX9_came 40 = .ok (.sipush 1000, 3) := by decide +kernel
theorem dX9_came_43 : decode cX9_came 43 = .ok (.iload_n 1, 1) := by decide +kernel
theorem dX9_came_44 : decode cX9_came 44 = .ok (.imul, 1) := by decide +kernel
theorem dX9_came_45 : decode cX9_came 45 = .ok (.bipush 10, 2) := by decide +kernel
theorem dX9_came_47 : decode cX9_came 47 = .ok (.iload_n 2, 1) := by decide +kernel
theorem dX9_came_48 : decode cX9_came 48 = .ok (.imul, 1) := by decide +kernel
theorem dX9_came_49 : decode cX9_came 49 = .ok (.iadd, 1) := by decide +kernel
theorem dX9_came_50 : decode cX9_came 50 = .ok (.iload_n 3, 1) := by decide +kernel
theorem dX9_came_51 : decode cX9_came 51 = .ok (.ifCond .eq 7, 3) := by decide +kernel
theorem dX9_came_54 : decode cX9_came 54 = .ok (.iconst 1, 1) := by decide +kernel
theorem dX9_came_55 : decode cX9_came 55 = .ok (.goto 4, 3) := by decide +kernel
theorem dX9_came_58 : decode cX9_came 58 = .ok (.iconst 0, 1) := by decide +kernel
theorem dX9_came_59 : decode cX9_came 59 = .ok (.iadd, 1) := by decide +kernel
theorem dX9_came_60 : decode cX9_came 60 = .ok (.iastore, 1) := by decide +kernel
theorem dX9_came_61 : decode cX9_came 61 = .ok (.aload_n 0, 1) := by decide +kernel
theorem dX9_came_62 : decode cX9_came 62 = .ok (.dup, 1) := by decide +kernel
theorem dX9_came_63 : decode cX9_came 63 = .ok (.getfield 112, 3) := by decide +kernel
theorem dX9_came_66 : decode cX9_came 66 = .ok (.iconst 1, 1) := by decide +kernel
theorem dX9_came_67 : decode cX9_came 67 = .ok (.iadd, 1) := by decide +kernel
theorem dX9_came_68 : decode cX9_came 68 = .ok (.putfield 112, 3) := by decide +kernel
theorem dX9_came_71 : decode cX9_came 71 = .ok (.aload_n 0, 1) := by decide +kernel
theorem dX9_came_72 : decode cX9_came 72 = .ok (.getfield 112, 3) := by decide +kernel
theorem dX9_came_75 : decode cX9_came 75 = .ok (.ireturn, 1) := by decide +kernel
theorem dX9_forget_0 : decode cX9_forget 0 = .ok (.aload_n 0, 1) := by decide +kernel
theorem dX9_forget_1 : decode cX9_forget 1 = .ok (.getfield 112, 3) := by decide +kernel
theorem dX9_forget_4 : decode cX9_forget 4 = .ok (.istore_n 1, 1) := by decide +kernel
theorem dX9_forget_5 : decode cX9_forget 5 = .ok (.aload_n 0, 1) := by decide +kernel
theorem dX9_forget_6 : decode cX9_forget 6 = .ok (.iconst 0, 1) := by decide +kernel
theorem dX9_forget_7 : decode cX9_forget 7 = .ok (.putfield 112, 3) := by decide +kernel
theorem dX9_forget_10 : decode cX9_forget 10 = .ok (.iload_n 1, 1) := by decide +kernel
theorem dX9_forget_11 : decode cX9_forget 11 = .ok (.ireturn, 1) := by decide +kernel
theorem dX9_fits_0 : decode cX9_fits 0 = .ok (.aload_n 0, 1) := by decide +kernel
theorem dX9_fits_1 : decode cX9_fits 1 = .ok (.iload_n 1, 1) := by decide +kernel
theorem dX9_fits_2 : decode cX9_fits 2 = .ok (.invokevirtual 115, 3) := by decide +kernel
theorem dX9_fits_5 : decode cX9_fits 5 = .ok (.ifCond .ne 5, 3) := by decide +kernel
theorem dX9_fits_8 : decode cX9_fits 8 = .ok (.iconst (-1), 1) := by decide +kernel
theorem dX9_fits_9 : decode cX9_fits 9 = .ok (.ireturn, 1) := by decide +kernel
theorem dX9_fits_10 : decode cX9_fits 10 = .ok (.aload_n 0, 1) := by decide +kernel
theorem dX9_fits_11 : decode cX9_fits 11 = .ok (.getfield 22, 3) := by decide +kernel
theorem dX9_fits_14 : decode cX9_fits 14 = .ok (.iload_n 1, 1) := by decide +kernel
theorem dX9_fits_15 : decode cX9_fits 15 = .ok (.iaload, 1) := by decide +kernel
theorem dX9_fits_16 : decode cX9_fits 16 = .ok (.istore_n 2, 1) := by decide +kernel
theorem dX9_fits_17 : decode cX9_fits 17 = .ok (.iconst 0, 1) := by decide +kernel
theorem dX9_fits_18 : decode cX9_fits 18 = .ok (.istore_n 3, 1) := by decide +kernel
theorem dX9_fits_19 : decode cX9_fits 19 = .ok (.iconst 0, 1) := by decide +kernel
theorem dX9_fits_20 : decode cX9_fits 20 = .ok (.istore 4, 2) := by decide +kernel
theorem dX9_fits_22 : decode cX9_fits 22 = .ok (.iload 4, 2) := by decide +kernel
theorem dX9_fits_24 : decode cX9_fits 24 = .ok (.bipush 31, 2) := by decide +kernel
theorem dX9_fits_26 : decode cX9_fits 26 = .ok (.if_icmp .ge 162, 3) := by decide +kernel
theorem dX9_fits_29 : decode cX9_fits 29 = .ok (.aload_n 0, 1) := by decide +kernel
theorem dX9_fits_30 : decode cX9_fits 30 = .ok (.getfield 22, 3) := by decide +kernel
theorem dX9_fits_33 : decode cX9_fits 33 = .ok (.iload_n 1, 1) := by decide +kernel
theorem dX9_fits_34 : decode cX9_fits 34 = .ok (.iload 4, 2) := by decide +kernel
theorem dX9_fits_36 : decode cX9_fits 36 = .ok (.iastore, 1) := by decide +kernel
theorem dX9_fits_37 : decode cX9_fits 37 = .ok (.aload_n 0, 1) := by decide +kernel
theorem dX9_fits_38 : decode cX9_fits 38 = .ok (.invokevirtual 162, 3) := by decide +kernel
theorem dX9_fits_41 : decode cX9_fits 41 = .ok (.iconst 1, 1) := by decide +kernel
theorem dX9_fits_42 : decode cX9_fits 42 = .ok (.istore 5, 2) := by decide +kernel
theorem dX9_fits_44 : decode cX9_fits 44 = .ok (.iconst 0, 1) := by decide +kernel
theorem dX9_fits_45 : decode cX9_fits 45 = .ok (.istore 6, 2) := by decide +kernel
theorem dX9_fits_47 : decode cX9_fits 47 = .ok (.iload 6, 2) := by decide +kernel
theorem dX9_fits_49 : decode cX9_fits 49 = .ok (.aload_n 0, 1) := by decide +kernel
theorem dX9_fits_50 : decode cX9_fits 50 = .ok (.getfield 112, 3) := by decide +kernel
theorem dX9_fits_53 : decode cX9_fits 53 = .ok (.if_icmp .ge 113, 3) := by decide +kernel
theorem dX9_fits_56 : decode cX9_fits 56 = .ok (.iconst 0, 1) := by decide +kernel
theorem dX9_fits_57 : decode cX9_fits 57 = .ok (.istore 7, 2) := by decide +kernel
theorem dX9_fits_59 : decode cX9_fits 59 = .ok (.iconst 0, 1) := by decide +kernel
theorem dX9_fits_60 : decode cX9_fits 60 = .ok (.istore 8, 2) := by decide +kernel
theorem dX9_fits_62 : decode cX9_fits 62 = .ok (.iload 8, 2) := by decide +kernel
theorem dX9_fits_64 : decode cX9_fits 64 = .ok (.aload_n 0, 1) := by decide +kernel
theorem dX9_fits_65 : decode cX9_fits 65 = .ok (.getfield 13, 3) := by decide +kernel
theorem dX9_fits_68 : decode cX9_fits 68 = .ok (.iconst 2, 1) := by decide +kernel
theorem dX9_fits_69 : decode cX9_fits 69 = .ok (.iaload, 1) := by decide +kernel
theorem dX9_fits_70 : decode cX9_fits 70 = .ok (.if_icmp .ge 54, 3) := by decide +kernel
theorem dX9_fits_73 : decode cX9_fits 73 = .ok (.iload 7, 2) := by decide +kernel
theorem dX9_fits_75 : decode cX9_fits 75 = .ok (.ifCond .ne 36, 3) := by decide +kernel
theorem dX9_fits_78 : decode cX9_fits 78 = .ok (.aload_n 0, 1) := by decide +kernel
theorem dX9_fits_79 : decode cX9_fits 79 = .ok (.iload 8, 2) := by decide +kernel
theorem dX9_fits_81 : decode cX9_fits 81 = .ok (.aload_n 0, 1) := by decide +kernel
theorem dX9_fits_82 : decode cX9_fits 82 = .ok (.getfield 31, 3) := by decide +kernel
theorem dX9_fits_85 : decode cX9_fits 85 = .ok (.iload 6, 2) := by decide +kernel
theorem dX9_fits_87 : decode cX9_fits 87 = .ok (.iaload, 1) := by decide +kernel
theorem dX9_fits_88 : decode cX9_fits 88 = .ok (.sipush 1000, 3) := by decide +kernel
theorem dX9_fits_91 : decode cX9_fits 91 = .ok (.idiv, 1) := by decide +kernel
theorem dX9_fits_92 : decode cX9_fits 92 = .ok (.aload_n 0, 1) := by decide +kernel
theorem dX9_fits_93 : decode cX9_fits 93 = .ok (.getfield 31, 3) := by decide +kernel
theorem dX9_fits_96 : decode cX9_fits 96 = .ok (.iload 6, 2) := by decide +kernel
theorem dX9_fits_98 : decode cX9_fits 98 = .ok (.iaload, 1) := by decide +kernel
theorem dX9_fits_99 : decode cX9_fits 99 = .ok (.bipush 10, 2) := by decide +kernel
theorem dX9_fits_101 : decode cX9_fits 101 = .ok (.idiv, 1) := by decide +kernel
theorem dX9_fits_102 : decode cX9_fits 102 = .ok (.bipush 100, 2) := by decide +kernel
theorem dX9_fits_104 : decode cX9_fits 104 = .ok (.irem, 1) := by decide +kernel
theorem dX9_fits_105 : decode cX9_fits 105 = .ok (.invokevirtual 165, 3) := by decide +kernel
theorem dX9_fits_108 : decode cX9_fits 108 = .ok (.ifCond .eq 7, 3) := by decide +kernel
theorem dX9_fits_111 : decode cX9_fits 111 = .ok (.iconst 1, 1) := by decide +kernel
theorem dX9_fits_112 : decode cX9_fits 112 = .ok (.goto 4, 3) := by decide +kernel
theorem dX9_fits_115 : decode cX9_fits 115 = .ok (.iconst 0, 1) := by decide +kernel
theorem dX9_fits_116 : decode cX9_fits 116 = .ok (.istore 7, 2) := by decide +kernel
theorem dX9_fits_118 : decode cX9_fits 118 = .ok (.iinc 8 1, 3) := by decide +kernel
theorem dX9_fits_121 : decode cX9_fits 121 = .ok (.goto (-59), 3) := by decide +kernel
theorem dX9_fits_124 : decode cX9_fits 124 = .ok (.iload 5, 2) := by decide +kernel
theorem dX9_fits_126 : decode cX9_fits 126 = .ok (.ifCond .eq 31, 3) := by decide +kernel
theorem dX9_fits_129 : decode cX9_fits 129 = .ok (.iload 7, 2) := by decide +kernel
theorem dX9_fits_131 : decode cX9_fits 131 = .ok (.aload_n 0, 1) := by decide +kernel
theorem dX9_fits_132 : decode cX9_fits 132 = .ok (.getfield 31, 3) := by decide +kernel
theorem dX9_fits_135 : decode cX9_fits 135 = .ok (.iload 6, 2) := by decide +kernel
theorem dX9_fits_137 : decode cX9_fits 137 = .ok (.iaload, 1) := by decide +kernel
theorem dX9_fits_138 : decode cX9_fits 138 = .ok (.bipush 10, 2) := by decide +kernel
theorem dX9_fits_140 : decode cX9_fits 140 = .ok (.irem, 1) := by decide +kernel
theorem dX9_fits_141 : decode cX9_fits 141 = .ok (.iconst 1, 1) := by decide +kernel
theorem dX9_fits_142 : decode cX9_fits 142 = .ok (.if_icmp .ne 7, 3) := by decide +kernel
theorem dX9_fits_145 : decode cX9_fits 145 = .ok (.iconst 1, 1) := by decide +kernel
theorem dX9_fits_146 : decode cX9_fits 146 = .ok (.goto 4, 3) := by decide +kernel
theorem dX9_fits_149 : decode cX9_fits 149 = .ok (.iconst 0, 1) := by decide +kernel
theorem dX9_fits_150 : decode cX9_fits 150 = .ok (.if_icmp .ne 7, 3) := by decide +kernel
theorem dX9_fits_153 : decode cX9_fits 153 = .ok (.iconst 1, 1) := by decide +kernel
theorem dX9_fits_154 : decode cX9_fits 154 = .ok (.goto 4, 3) := by decide +kernel
theorem dX9_fits_157 : decode cX9_fits 157 = .ok (.iconst 0, 1) := by decide +kernel
theorem dX9_fits_158 : decode cX9_fits 158 = .ok (.istore 5, 2) := by decide +kernel
theorem dX9_fits_160 : decode cX9_fits 160 = .ok (.iinc 6 1, 3) := by decide +kernel
theorem dX9_fits_163 : decode cX9_fits 163 = .ok (.goto (-116), 3) := by decide +kernel
theorem dX9_fits_166 : decode cX9_fits 166 = .ok (.iload_n 3, 1) := by decide +kernel
theorem dX9_fits_167 : decode cX9_fits 167 = .ok (.iload 5, 2) := by decide +kernel
theorem dX9_fits_169 : decode cX9_fits 169 = .ok (.ifCond .eq 10, 3) := by decide +kernel
theorem dX9_fits_172 : decode cX9_fits 172 = .ok (.iconst 1, 1) := by decide +kernel
theorem dX9_fits_173 : decode cX9_fits 173 = .ok (.iload 4, 2) := by decide +kernel
theorem dX9_fits_175 : decode cX9_fits 175 = .ok (.ishl, 1) := by decide +kernel
theorem dX9_fits_176 : decode cX9_fits 176 = .ok (.goto 4, 3) := by decide +kernel
theorem dX9_fits_179 : decode cX9_fits 179 = .ok (.iconst 0, 1) := by decide +kernel
theorem dX9_fits_180 : decode cX9_fits 180 = .ok (.ior, 1) := by decide +kernel
theorem dX9_fits_181 : decode cX9_fits 181 = .ok (.istore_n 3, 1) := by decide +kernel
theorem dX9_fits_182 : decode cX9_fits 182 = .ok (.iinc 4 1, 3) := by decide +kernel
theorem dX9_fits_185 : decode cX9_fits 185 = .ok (.goto (-163), 3) := by decide +kernel
theorem dX9_fits_188 : decode cX9_fits 188 = .ok (.aload_n 0, 1) := by decide +kernel
theorem dX9_fits_189 : decode cX9_fits 189 = .ok (.getfield 22, 3) := by decide +kernel
theorem dX9_fits_192 : decode cX9_fits 192 = .ok (.iload_n 1, 1) := by decide +kernel
theorem dX9_fits_193 : decode cX9_fits 193 = .ok (.iload_n 2, 1) := by decide +kernel
theorem dX9_fits_194 : decode cX9_fits 194 = .ok (.iastore, 1) := by decide +kernel
theorem dX9_fits_195 : decode cX9_fits 195 = .ok (.iload_n 3, 1) := by decide +kernel
theorem dX9_fits_196 : decode cX9_fits 196 = .ok (.ireturn, 1) := by decide +kernel
theorem dX9_up_0 : decode cX9_up 0 = .ok (.aload_n 0, 1) := by decide +kernel
theorem dX9_up_1 : decode cX9_up 1 = .ok (.getfield 13, 3) := by decide +kernel
theorem dX9_up_4 : decode cX9_up 4 = .ok (.iconst 5, 1) := by decide +kernel
theorem dX9_up_5 : decode cX9_up 5 = .ok (.iload_n 2, 1) := by decide +kernel
theorem dX9_up_6 : decode cX9_up 6 = .ok (.iadd, 1) := by decide +kernel
theorem dX9_up_7 : decode cX9_up 7 = .ok (.iaload, 1) := by decide +kernel
theorem dX9_up_8 : decode cX9_up 8 = .ok (.aload_n 0, 1) := by decide +kernel
theorem dX9_up_9 : decode cX9_up 9 = .ok (.getfield 34, 3) := by decide +kernel
theorem dX9_up_12 : decode cX9_up 12 = .ok (.iconst 5, 1) := by decide +kernel
theorem dX9_up_13 : decode cX9_up 13 = .ok (.iload_n 3, 1) := by decide +kernel
theorem dX9_up_14 : decode cX9_up 14 = .ok (.imul, 1) := by decide +kernel
theorem dX9_up_15 : decode cX9_up 15 = .ok (.iload_n 1, 1) := by decide +kernel
theorem dX9_up_16 : decode cX9_up 16 = .ok (.iadd, 1) := by decide +kernel
theorem dX9_up_17 : decode cX9_up 17 = .ok (.iaload, 1) := by decide +kernel
theorem dX9_up_18 : decode cX9_up 18 = .ok (.isub, 1) := by decide +kernel
theorem dX9_up_19 : decode cX9_up 19 = .ok (.aload_n 0, 1) := by decide +kernel
theorem dX9_up_20 : decode cX9_up 20 = .ok (.getfield 13, 3) := by decide +kernel
theorem dX9_up_23 : decode cX9_up 23 = .ok (.iconst 0, 1) := by decide +kernel
theorem dX9_up_24 : decode cX9_up 24 = .ok (.iaload, 1) := by decide +kernel
theorem dX9_up_25 : decode cX9_up 25 = .ok (.iadd, 1) := by decide +kernel
theorem dX9_up_26 : decode cX9_up 26 = .ok (.aload_n 0, 1) := by decide +kernel
theorem dX9_up_27 : decode cX9_up 27 = .ok (.getfield 13, 3) := by decide +kernel
theorem dX9_up_30 : decode cX9_up 30 = .ok (.iconst 0, 1) := by decide +kernel
theorem dX9_up_31 : decode cX9_up 31 = .ok (.iaload, 1) := by decide +kernel
theorem dX9_up_32 : decode cX9_up 32 = .ok (.irem, 1) := by decide +kernel
theorem dX9_up_33 : decode cX9_up 33 = .ok (.ireturn, 1) := by decide +kernel
theorem dX9_from_0 : decode cX9_from 0 = .ok (.aload_n 0, 1) := by decide +kernel
theorem dX9_from_1 : decode cX9_from 1 = .ok (.iload_n 1, 1) := by decide +kernel
theorem dX9_from_2 : decode cX9_from 2 = .ok (.invokevirtual 115, 3) := by decide +kernel
theorem dX9_from_5 : decode cX9_from 5 = .ok (.ifCond .eq 32, 3) := by decide +kernel
theorem dX9_from_8 : decode cX9_from 8 = .ok (.aload_n 0, 1) := by decide +kernel
theorem dX9_from_9 : decode cX9_from 9 = .ok (.iload_n 2, 1) := by decide +kernel
theorem dX9_from_10 : decode cX9_from 10 = .ok (.invokevirtual 118, 3) := by decide +kernel
theorem dX9_from_13 : decode cX9_from 13 = .ok (.ifCond .eq 24, 3) := by decide +kernel
theorem dX9_from_16 : decode cX9_from 16 = .ok (.iload 4, 2) := by decide +kernel
theorem dX9_from_18 : decode cX9_from 18 = .ok (.iconst 0, 1) := by decide +kernel
theorem dX9_from_19 : decode cX9_from 19 = .ok (.iconst 1, 1) := by decide +kernel
theorem dX9_from_20 : decode cX9_from 20 = .ok (.invokestatic 73, 3) := by decide +kernel
theorem dX9_from_23 : decode cX9_from 23 = .ok (.ifCond .eq 14, 3) := by decide +kernel
theorem dX9_from_26 : decode cX9_from 26 = .ok (.iload_n 3, 1) := by decide +kernel
theorem dX9_from_27 : decode cX9_from 27 = .ok (.iload 4, 2) := by decide +kernel
theorem dX9_from_29 : decode cX9_from 29 = .ok (.bipush 60, 2) := by decide +kernel
theorem dX9_from_31 : decode cX9_from 31 = .ok (.invokestatic 73, 3) := by decide +kernel
theorem dX9_from_34 : decode cX9_from 34 = .ok (.ifCond .ne 5, 3) := by decide +kernel
theorem dX9_from_37 : decode cX9_from 37 = .ok (.iconst (-1), 1) := by decide +kernel
theorem dX9_from_38 : decode cX9_from 38 = .ok (.ireturn, 1) := by decide +kernel
theorem dX9_from_39 : decode cX9_from 39 = .ok (.aload_n 0, 1) := by decide +kernel
theorem dX9_from_40 : decode cX9_from 40 = .ok (.invokevirtual 162, 3) := by decide +kernel
theorem dX9_from_43 : decode cX9_from 43 = .ok (.iload 4, 2) := by decide +kernel
theorem dX9_from_45 : decode cX9_from 45 = .ok (.ifCond .ne 11, 3) := by decide +kernel
theorem dX9_from_48 : decode cX9_from 48 = .ok (.aload_n 0, 1) := by decide +kernel
theorem dX9_from_49 : decode cX9_from 49 = .ok (.iload_n 1, 1) := by decide +kernel
theorem dX9_from_50 : decode cX9_from 50 = .ok (.iload_n 2, 1) := by decide +kernel
theorem dX9_from_51 : decode cX9_from 51 = .ok (.iload_n 3, 1) := by decide +kernel
theorem dX9_from_52 : decode cX9_from 52 = .ok (.invokevirtual 175, 3) := by decide +kernel
theorem dX9_from_55 : decode cX9_from 55 = .ok (.ireturn, 1) := by decide +kernel
theorem dX9_from_56 : decode cX9_from 56 = .ok (.aload_n 0, 1) := by decide +kernel
theorem dX9_from_57 : decode cX9_from 57 = .ok (.iload_n 1, 1) := by decide +kernel
theorem dX9_from_58 : decode cX9_from 58 = .ok (.iload_n 2, 1) := by decide +kernel
theorem dX9_from_59 : decode cX9_from 59 = .ok (.iload_n 3, 1) := by decide +kernel
theorem dX9_from_60 : decode cX9_from 60 = .ok (.iconst 1, 1) := by decide +kernel
theorem dX9_from_61 : decode cX9_from 61 = .ok (.isub, 1) := by decide +kernel
theorem dX9_from_62 : decode cX9_from 62 = .ok (.invokevirtual 175, 3) := by decide +kernel
theorem dX9_from_65 : decode cX9_from 65 = .ok (.aload_n 0, 1) := by decide +kernel
theorem dX9_from_66 : decode cX9_from 66 = .ok (.iload_n 1, 1) := by decide +kernel
theorem dX9_from_67 : decode cX9_from 67 = .ok (.iload_n 2, 1) := by decide +kernel
theorem dX9_from_68 : decode cX9_from 68 = .ok (.iload_n 3, 1) := by decide +kernel
theorem dX9_from_69 : decode cX9_from 69 = .ok (.invokevirtual 175, 3) := by decide +kernel
theorem dX9_from_72 : decode cX9_from 72 = .ok (.isub, 1) := by decide +kernel
theorem dX9_from_73 : decode cX9_from 73 = .ok (.istore 5, 2) := by decide +kernel
theorem dX9_from_75 : decode cX9_from 75 = .ok (.iload 5, 2) := by decide +kernel
theorem dX9_from_77 : decode cX9_from 77 = .ok (.iconst 2, 1) := by decide +kernel
theorem dX9_from_78 : decode cX9_from 78 = .ok (.iload 5, 2) := by decide +kernel
theorem dX9_from_80 : decode cX9_from 80 = .ok (.imul, 1) := by decide +kernel
theorem dX9_from_81 : decode cX9_from 81 = .ok (.aload_n 0, 1) := by decide +kernel
theorem dX9_from_82 : decode cX9_from 82 = .ok (.getfield 13, 3) := by decide +kernel
theorem dX9_from_85 : decode cX9_from 85 = .ok (.iconst 0, 1) := by decide +kernel
theorem dX9_from_86 : decode cX9_from 86 = .ok (.iaload, 1) := by decide +kernel
theorem dX9_from_87 : decode cX9_from 87 = .ok (.if_icmp .le 12, 3) := by decide +kernel
theorem dX9_from_90 : decode cX9_from 90 = .ok (.aload_n 0, 1) := by decide +kernel
theorem dX9_from_91 : decode cX9_from 91 = .ok (.getfield 13, 3) := by decide +kernel
theorem dX9_from_94 : decode cX9_from 94 = .ok (.iconst 0, 1) := by decide +kernel
theorem dX9_from_95 : decode cX9_from 95 = .ok (.iaload, 1) := by decide +kernel
theorem dX9_from_96 : decode cX9_from 96 = .ok (.goto 4, 3) := by decide +kernel
theorem dX9_from_99 : decode cX9_from 99 = .ok (.iconst 0, 1) := by decide +kernel
theorem dX9_from_100 : decode cX9_from 100 = .ok (.isub, 1) := by decide +kernel
theorem dX9_from_101 : decode cX9_from 101 = .ok (.istore 5, 2) := by decide +kernel
theorem dX9_from_103 : decode cX9_from 103 = .ok (.iload 5, 2) := by decide +kernel
theorem dX9_from_105 : decode cX9_from 105 = .ok (.bipush (-2), 2) := by decide +kernel
theorem dX9_from_107 : decode cX9_from 107 = .ok (.iload 5, 2) := by decide +kernel
theorem dX9_from_109 : decode cX9_from 109 = .ok (.imul, 1) := by decide +kernel
theorem dX9_from_110 : decode cX9_from 110 = .ok (.aload_n 0, 1) := by decide +kernel
theorem dX9_from_111 : decode cX9_from 111 = .ok (.getfield 13, 3) := by decide +kernel
theorem dX9_from_114 : decode cX9_from 114 = .ok (.iconst 0, 1) := by decide +kernel
theorem dX9_from_115 : decode cX9_from 115 = .ok (.iaload, 1) := by decide +kernel
theorem dX9_from_116 : decode cX9_from 116 = .ok (.if_icmp .lt 12, 3) := by decide +kernel
theorem dX9_from_119 : decode cX9_from 119 = .ok (.aload_n 0, 1) := by decide +kernel
theorem dX9_from_120 : decode cX9_from 120 = .ok (.getfield 13, 3) := by decide +kernel
theorem dX9_from_123 : decode cX9_from 123 = .ok (.iconst 0, 1) := by decide +kernel
theorem dX9_from_124 : decode cX9_from 124 = .ok (.iaload, 1) := by decide +kernel
theorem dX9_from_125 : decode cX9_from 125 = .ok (.goto 4, 3) := by decide +kernel
theorem dX9_from_128 : decode cX9_from 128 = .ok (.iconst 0, 1) := by decide +kernel
theorem dX9_from_129 : decode cX9_from 129 = .ok (.iadd, 1) := by decide +kernel
theorem dX9_from_130 : decode cX9_from 130 = .ok (.istore 5, 2) := by decide +kernel
theorem dX9_from_132 : decode cX9_from 132 = .ok (.iload 5, 2) := by decide +kernel
theorem dX9_from_134 : decode cX9_from 134 = .ok (.bipush 100, 2) := by decide +kernel
theorem dX9_from_136 : decode cX9_from 136 = .ok (.iadd, 1) := by decide +kernel
theorem dX9_from_137 : decode cX9_from 137 = .ok (.ireturn, 1) := by decide +kernel
theorem dX9_clocks_0 : decode cX9_clocks 0 = .ok (.aload_n 0, 1) := by decide +kernel
theorem dX9_clocks_1 : decode cX9_clocks 1 = .ok (.iload_n 1, 1) := by decide +kernel
theorem dX9_clocks_2 : decode cX9_clocks 2 = .ok (.invokevirtual 115, 3) := by decide +kernel
theorem dX9_clocks_5 : decode cX9_clocks 5 = .ok (.ifCond .eq 25, 3) := by decide +kernel
theorem dX9_clocks_8 : decode cX9_clocks 8 = .ok (.aload_n 0, 1) := by decide +kernel
theorem dX9_clocks_9 : decode cX9_clocks 9 = .ok (.iload_n 2, 1) := by decide +kernel
theorem dX9_clocks_10 : decode cX9_clocks 10 = .ok (.invokevirtual 115, 3) := by decide +kernel
theorem dX9_clocks_13 : decode cX9_clocks 13 = .ok (.ifCond .eq 17, 3) := by decide +kernel
theorem dX9_clocks_16 : decode cX9_clocks 16 = .ok (.iload_n 1, 1) := by decide +kernel
theorem dX9_clocks_17 : decode cX9_clocks 17 = .ok (.iload_n 2, 1) := by decide +kernel
theorem dX9_clocks_18 : decode cX9_clocks 18 = .ok (.if_icmp .eq 12, 3) := by decide +kernel
theorem dX9_clocks_21 : decode cX9_clocks 21 = .ok (.iload_n 3, 1) := by decide +kernel
theorem dX9_clocks_22 : decode cX9_clocks 22 = .ok (.iconst 0, 1) := by decide +kernel
theorem dX9_clocks_23 : decode cX9_clocks 23 = .ok (.iconst 1, 1) := by decide +kernel
theorem dX9_clocks_24 : decode cX9_clocks 24 = .ok (.invokestatic 73, 3) := by decide +kernel
theorem dX9_clocks_27 : decode cX9_clocks 27 = .ok (.ifCond .ne 5, 3) := by decide +kernel
theorem dX9_clocks_30 : decode cX9_clocks 30 = .ok (.iconst (-1), 1) := by decide +kernel
theorem dX9_clocks_31 : decode cX9_clocks 31 = .ok (.ireturn, 1) := by decide +kernel
theorem dX9_clocks_32 : decode cX9_clocks 32 = .ok (.aload_n 0, 1) := by decide +kernel
theorem dX9_clocks_33 : decode cX9_clocks 33 = .ok (.invokevirtual 162, 3) := by decide +kernel
theorem dX9_clocks_36 : decode cX9_clocks 36 = .ok (.iconst 0, 1) := by decide +kernel
theorem dX9_clocks_37 : decode cX9_clocks 37 = .ok (.istore 4, 2) := by decide +kernel
theorem dX9_clocks_39 : decode cX9_clocks 39 = .ok (.bipush (-4), 2) := by decide +kernel
theorem dX9_clocks_41 : decode cX9_clocks 41 = .ok (.istore 5, 2) := by decide +kernel
theorem dX9_clocks_43 : decode cX9_clocks 43 = .ok (.bipush 60, 2) := by decide +kernel
theorem dX9_clocks_45 : decode cX9_clocks 45 = .ok (.istore 6, 2) := by decide +kernel
theorem dX9_clocks_47 : decode cX9_clocks 47 = .ok (.iload 6, 2) := by decide +kernel
theorem dX9_clocks_49 : decode cX9_clocks 49 = .ok (.ifCond .lt 70, 3) := by decide +kernel
theorem dX9_clocks_52 : decode cX9_clocks 52 = .ok (.aload_n 0, 1) := by decide +kernel
theorem dX9_clocks_53 : decode cX9_clocks 53 = .ok (.getfield 34, 3) := by decide +kernel
theorem dX9_clocks_56 : decode cX9_clocks 56 = .ok (.iconst 5, 1) := by decide +kernel
theorem dX9_clocks_57 : decode cX9_clocks 57 = .ok (.iload 6, 2) := by decide +kernel
theorem dX9_clocks_59 : decode cX9_clocks 59 = .ok (.imul, 1) := by decide +kernel
theorem dX9_clocks_60 : decode cX9_clocks 60 = .ok (.iload_n 1, 1) := by decide +kernel
theorem dX9_clocks_61 : decode cX9_clocks 61 = .ok (.iadd, 1) := by decide +kernel
theorem dX9_clocks_62 : decode cX9_clocks 62 = .ok (.iaload, 1) := by decide +kernel
theorem dX9_clocks_63 : decode cX9_clocks 63 = .ok (.aload_n 0, 1) := by decide +kernel
theorem dX9_clocks_64 : decode cX9_clocks 64 = .ok (.getfield 34, 3) := by decide +kernel
theorem dX9_clocks_67 : decode cX9_clocks 67 = .ok (.iconst 5, 1) := by decide +kernel
theorem dX9_clocks_68 : decode cX9_clocks 68 = .ok (.iload 6, 2) := by decide +kernel
theorem dX9_clocks_70 : decode cX9_clocks 70 = .ok (.imul, 1) := by decide +kernel
theorem dX9_clocks_71 : decode cX9_clocks 71 = .ok (.iload_n 2, 1) := by decide +kernel
theorem dX9_clocks_72 : decode cX9_clocks 72 = .ok (.iadd, 1) := by decide +kernel
theorem dX9_clocks_73 : decode cX9_clocks 73 = .ok (.iaload, 1) := by decide +kernel
theorem dX9_clocks_74 : decode cX9_clocks 74 = .ok (.if_icmp .ne 7, 3) := by decide +kernel
theorem dX9_clocks_77 : decode cX9_clocks 77 = .ok (.iconst 1, 1) := by decide +kernel
theorem dX9_clocks_78 : decode cX9_clocks 78 = .ok (.goto 4, 3) := by decide +kernel
theorem dX9_clocks_81 : decode cX9_clocks 81 = .ok (.iconst 0, 1) := by decide +kernel
theorem dX9_clocks_82 : decode cX9_clocks 82 = .ok (.istore 7, 2) := by decide +kernel
theorem dX9_clocks_84 : decode cX9_clocks 84 = .ok (.iload 4, 2) := by decide +kernel
theorem dX9_clocks_86 : decode cX9_clocks 86 = .ok (.iload 7, 2) := by decide +kernel
theorem dX9_clocks_88 : decode cX9_clocks 88 = .ok (.ifCond .eq 7, 3) := by decide +kernel
theorem dX9_clocks_91 : decode cX9_clocks 91 = .ok (.iconst 1, 1) := by decide +kernel
theorem dX9_clocks_92 : decode cX9_clocks 92 = .ok (.goto 4, 3) := by decide +kernel
theorem dX9_clocks_95 : decode cX9_clocks 95 = .ok (.iconst 0, 1) := by decide +kernel
theorem dX9_clocks_96 : decode cX9_clocks 96 = .ok (.iadd, 1) := by decide +kernel
theorem dX9_clocks_97 : decode cX9_clocks 97 = .ok (.istore 4, 2) := by decide +kernel
theorem dX9_clocks_99 : decode cX9_clocks 99 = .ok (.iload 7, 2) := by decide +kernel
theorem dX9_clocks_101 : decode cX9_clocks 101 = .ok (.ifCond .eq 8, 3) := by decide +kernel
theorem dX9_clocks_104 : decode cX9_clocks 104 = .ok (.iload 6, 2) := by decide +kernel
theorem dX9_clocks_106 : decode cX9_clocks 106 = .ok (.goto 5, 3) := by decide +kernel
theorem dX9_clocks_109 : decode cX9_clocks 109 = .ok (.iload 5, 2) := by decide +kernel
theorem dX9_clocks_111 : decode cX9_clocks 111 = .ok (.istore 5, 2) := by decide +kernel
theorem dX9_clocks_113 : decode cX9_clocks 113 = .ok (.iinc 6 (-1), 3) := by decide +kernel
theorem dX9_clocks_116 : decode cX9_clocks 116 = .ok (.goto (-69), 3) := by decide +kernel
theorem dX9_clocks_119 : decode cX9_clocks 119 = .ok (.iload_n 3, 1) := by decide +kernel
theorem dX9_clocks_120 : decode cX9_clocks 120 = .ok (.ifCond .ne 8, 3) := by decide +kernel
theorem dX9_clocks_123 : decode cX9_clocks 123 = .ok (.iload 4, 2) := by decide +kernel
theorem dX9_clocks_125 : decode cX9_clocks 125 = .ok (.goto 5, 3) := by decide +kernel
theorem dX9_clocks_128 : decode cX9_clocks 128 = .ok (.iload 5, 2) := by decide +kernel
theorem dX9_clocks_130 : decode cX9_clocks 130 = .ok (.ireturn, 1) := by decide +kernel
theorem dX9_floods_0 : decode cX9_floods 0 = .ok (.aload_n 0, 1) := by decide +kernel
theorem dX9_floods_1 : decode cX9_floods 1 = .ok (.iload_n 1, 1) := by decide +kernel
theorem dX9_floods_2 : decode cX9_floods 2 = .ok (.invokevirtual 115, 3) := by decide +kernel
theorem dX9_floods_5 : decode cX9_floods 5 = .ok (.ifCond .eq 42, 3) := by decide +kernel
theorem dX9_floods_8 : decode cX9_floods 8 = .ok (.aload_n 0, 1) := by decide +kernel
theorem dX9_floods_9 : decode cX9_floods 9 = .ok (.iload_n 2, 1) := by decide +kernel
theorem dX9_floods_10 : decode cX9_floods 10 = .ok (.invokevirtual 118, 3) := by decide +kernel
theorem dX9_floods_13 : decode cX9_floods 13 = .ok (.ifCond .eq 34, 3) := by decide +kernel
theorem dX9_floods_16 : decode cX9_floods 16 = .ok (.iload_n 3, 1) := by decide +kernel
theorem dX9_floods_17 : decode cX9_floods 17 = .ok (.iconst 0, 1) := by decide +kernel
theorem dX9_floods_18 : decode cX9_floods 18 = .ok (.bipush 6, 2) := by decide +kernel
theorem dX9_floods_20 : decode cX9_floods 20 = .ok (.invokestatic 73, 3) := by decide +kernel
theorem dX9_floods_23 : decode cX9_floods 23 = .ok (.ifCond .eq 24, 3) := by decide +kernel
theorem dX9_floods_26 : decode cX9_floods 26 = .ok (.iload 4, 2) := by decide +kernel
theorem dX9_floods_28 : decode cX9_floods 28 = .ok (.iconst 0, 1) := by decide +kernel
theorem dX9_floods_29 : decode cX9_floods 29 = .ok (.bipush 10, 2) := by decide +kernel
theorem dX9_floods_31 : decode cX9_floods 31 = .ok (.invokestatic 73, 3) := by decide +kernel
theorem dX9_floods_34 : decode cX9_floods 34 = .ok (.ifCond .eq 13, 3) := by decide +kernel
theorem dX9_floods_37 : decode cX9_floods 37 = .ok (.iload 5, 2) := by decide +kernel
theorem dX9_floods_39 : decode cX9_floods 39 = .ok (.iconst 0, 1) := by decide +kernel
theorem dX9_floods_40 : decode cX9_floods 40 = .ok (.iconst 1, 1) := by decide +kernel
theorem dX9_floods_41 : decode cX9_floods 41 = .ok (.invokestatic 73, 3) := by decide +kernel
theorem dX9_floods_44 : decode cX9_floods 44 = .ok (.ifCond .ne 5, 3) := by decide +kernel
theorem dX9_floods_47 : decode cX9_floods 47 = .ok (.iconst (-1), 1) := by decide +kernel
theorem dX9_floods_48 : decode cX9_floods 48 = .ok (.ireturn, 1) := by decide +kernel
theorem dX9_floods_49 : decode cX9_floods 49 = .ok (.aload_n 0, 1) := by decide +kernel
theorem dX9_floods_50 : decode cX9_floods 50 = .ok (.iload_n 1, 1) := by decide +kernel
theorem dX9_floods_51 : decode cX9_floods 51 = .ok (.putfield 46, 3) := by decide +kernel
theorem dX9_floods_54 : decode cX9_floods 54 = .ok (.aload_n 0, 1) := by decide +kernel
theorem dX9_floods_55 : decode cX9_floods 55 = .ok (.iload_n 3, 1) := by decide +kernel
theorem dX9_floods_56 : decode cX9_floods 56 = .ok (.putfield 127, 3) := by decide +kernel
theorem dX9_floods_59 : decode cX9_floods 59 = .ok (.iconst 0, 1) := by decide +kernel
theorem dX9_floods_60 : decode cX9_floods 60 = .ok (.istore 6, 2) := by decide +kernel
theorem dX9_floods_62 : decode cX9_floods 62 = .ok (.iconst 1, 1) := by decide +kernel
theorem dX9_floods_63 : decode cX9_floods 63 = .ok (.istore 7, 2) := by decide +kernel
theorem dX9_floods_65 : decode cX9_floods 65 = .ok (.iconst 0, 1) := by decide +kernel
theorem dX9_floods_66 : decode cX9_floods 66 = .ok (.istore 8, 2) := by decide +kernel
theorem dX9_floods_68 : decode cX9_floods 68 = .ok (.iload 8, 2) := by decide +kernel
theorem dX9_floods_70 : decode cX9_floods 70 = .ok (.iload_n 3, 1) := by decide +kernel
theorem dX9_floods_71 : decode cX9_floods 71 = .ok (.if_icmp .ge 16, 3) := by decide +kernel
theorem dX9_floods_74 : decode cX9_floods 74 = .ok (.iload 7, 2) := by decide +kernel
theorem dX9_floods_76 : decode cX9_floods 76 = .ok (.bipush 10, 2) := by decide +kernel
theorem dX9_floods_78 : decode cX9_floods 78 = .ok (.imul, 1) := by decide +kernel
theorem dX9_floods_79 : decode cX9_floods 79 = .ok (.istore 7, 2) := by decide +kernel
theorem dX9_floods_81 : decode cX9_floods 81 = .ok (.iinc 8 1, 3) := by decide +kernel
theorem dX9_floods_84 : decode cX9_floods 84 = .ok (.goto (-16), 3) := by decide +kernel
theorem dX9_floods_87 : decode cX9_floods 87 = .ok (.iconst 0, 1) := by decide +kernel
theorem dX9_floods_88 : decode cX9_floods 88 = .ok (.istore 8, 2) := by decide +kernel
theorem dX9_floods_90 : decode cX9_floods 90 = .ok (.iload 8, 2) := by decide +kernel
theorem dX9_floods_92 : decode cX9_floods 92 = .ok (.iconst 1, 1) := by decide +kernel
theorem dX9_floods_93 : decode cX9_floods 93 = .ok (.iload_n 3, 1) := by decide +kernel
theorem dX9_floods_94 : decode cX9_floods 94 = .ok (.ishl, 1) := by decide +kernel
theorem dX9_floods_95 : decode cX9_floods 95 = .ok (.if_icmp .ge 107, 3) := by decide +kernel
theorem dX9_floods_98 : decode cX9_floods 98 = .ok (.aload_n 0, 1) := by decide +kernel
theorem dX9_floods_99 : decode cX9_floods 99 = .ok (.iload 8, 2) := by decide +kernel
theorem dX9_floods_101 : decode cX9_floods 101 = .ok (.putfield 130, 3) := by decide +kernel
theorem dX9_floods_104 : decode cX9_floods 104 = .ok (.aload_n 0, 1) := by decide +kernel
theorem dX9_floods_105 : decode cX9_floods 105 = .ok (.invokevirtual 162, 3) := by decide +kernel
theorem dX9_floods_108 : decode cX9_floods 108 = .ok (.iconst 1, 1) := by decide +kernel
theorem dX9_floods_109 : decode cX9_floods 109 = .ok (.istore 9, 2) := by decide +kernel
theorem dX9_floods_111 : decode cX9_floods 111 = .ok (.iconst 0, 1) := by decide +kernel
theorem dX9_floods_112 : decode cX9_floods 112 = .ok (.istore 10, 2) := by decide +kernel
theorem dX9_floods_114 : decode cX9_floods 114 = .ok (.iconst 1, 1) := by decide +kernel
theorem dX9_floods_115 : decode cX9_floods 115 = .ok (.istore 11, 2) := by decide +kernel
theorem dX9_floods_117 : decode cX9_floods 117 = .ok (.iload 11, 2) := by decide +kernel
theorem dX9_floods_119 : decode cX9_floods 119 = .ok (.iload_n 3, 1) := by decide +kernel
theorem dX9_floods_120 : decode cX9_floods 120 = .ok (.if_icmp .gt 60, 3) := by decide +kernel
theorem dX9_floods_123 : decode cX9_floods 123 = .ok (.iload 9, 2) := by decide +kernel
theorem dX9_floods_125 : decode cX9_floods 125 = .ok (.iload 8, 2) := by decide +kernel
theorem dX9_floods_127 : decode cX9_floods 127 = .ok (.iload 11, 2) := by decide +kernel
theorem dX9_floods_129 : decode cX9_floods 129 = .ok (.iconst 1, 1) := by decide +kernel
theorem dX9_floods_130 : decode cX9_floods 130 = .ok (.isub, 1) := by decide +kernel
theorem dX9_floods_131 : decode cX9_floods 131 = .ok (.ishr, 1) := by decide +kernel
theorem dX9_floods_132 : decode cX9_floods 132 = .ok (.iconst 1, 1) := by decide +kernel
theorem dX9_floods_133 : decode cX9_floods 133 = .ok (.iand, 1) := by decide +kernel
theorem dX9_floods_134 : decode cX9_floods 134 = .ok (.iconst 1, 1) := by decide +kernel
theorem dX9_floods_135 : decode cX9_floods 135 = .ok (.if_icmp .ne 8, 3) := by decide +kernel
theorem dX9_floods_138 : decode cX9_floods 138 = .ok (.iload 4, 2) := by decide +kernel
theorem dX9_floods_140 : decode cX9_floods 140 = .ok (.goto 8, 3) := by decide +kernel
theorem dX9_floods_143 : decode cX9_floods 143 = .ok (.bipush 10, 2) := by decide +kernel
theorem dX9_floods_145 : decode cX9_floods 145 = .ok (.iload 4, 2) := by decide +kernel
theorem dX9_floods_147 : decode cX9_floods 147 = .ok (.isub, 1) := by decide +kernel
theorem dX9_floods_148 : decode cX9_floods 148 = .ok (.imul, 1) := by decide +kernel
theorem dX9_floods_149 : decode cX9_floods 149 = .ok (.istore 9, 2) := by decide +kernel
theorem dX9_floods_151 : decode cX9_floods 151 = .ok (.iload 10, 2) := by decide +kernel
theorem dX9_floods_153 : decode cX9_floods 153 = .ok (.ifCond .ne 14, 3) := by decide +kernel
theorem dX9_floods_156 : decode cX9_floods 156 = .ok (.aload_n 0, 1) := by decide +kernel
theorem dX9_floods_157 : decode cX9_floods 157 = .ok (.iload_n 1, 1) := by decide +kernel
theorem dX9_floods_158 : decode cX9_floods 158 = .ok (.iload_n 2, 1) := by decide +kernel
theorem dX9_floods_159 : decode cX9_floods 159 = .ok (.iload 11, 2) := by decide +kernel
theorem dX9_floods_161 : decode cX9_floods 161 = .ok (.invokevirtual 165, 3) := by decide +kernel
theorem dX9_floods_164 : decode cX9_floods 164 = .ok (.ifCond .eq 7, 3) := by decide +kernel
theorem dX9_floods_167 : decode cX9_floods 167 = .ok (.iconst 1, 1) := by decide +kernel
theorem dX9_floods_168 : decode cX9_floods 168 = .ok (.goto 4, 3) := by decide +kernel
theorem dX9_floods_171 : decode cX9_floods 171 = .ok (.iconst 0, 1) := by decide +kernel
theorem dX9_floods_172 : decode cX9_floods 172 = .ok (.istore 10, 2) := by decide +kernel
theorem dX9_floods_174 : decode cX9_floods 174 = .ok (.iinc 11 1, 3) := by decide +kernel
theorem dX9_floods_177 : decode cX9_floods 177 = .ok (.goto (-60), 3) := by decide +kernel
theorem dX9_floods_180 : decode cX9_floods 180 = .ok (.iload 6, 2) := by decide +kernel
theorem dX9_floods_182 : decode cX9_floods 182 = .ok (.iload 10, 2) := by decide +kernel
theorem dX9_floods_184 : decode cX9_floods 184 = .ok (.ifCond .eq 8, 3) := by decide +kernel
theorem dX9_floods_187 : decode cX9_floods 187 = .ok (.iload 9, 2) := by decide +kernel
theorem dX9_floods_189 : decode cX9_floods 189 = .ok (.goto 4, 3) := by decide +kernel
theorem dX9_floods_192 : decode cX9_floods 192 = .ok (.iconst 0, 1) := by decide +kernel
theorem dX9_floods_193 : decode cX9_floods 193 = .ok (.iadd, 1) := by decide +kernel
theorem dX9_floods_194 : decode cX9_floods 194 = .ok (.istore 6, 2) := by decide +kernel
theorem dX9_floods_196 : decode cX9_floods 196 = .ok (.iinc 8 1, 3) := by decide +kernel
theorem dX9_floods_199 : decode cX9_floods 199 = .ok (.goto (-109), 3) := by decide +kernel
theorem dX9_floods_202 : decode cX9_floods 202 = .ok (.aload_n 0, 1) := by decide +kernel
theorem dX9_floods_203 : decode cX9_floods 203 = .ok (.iconst (-1), 1) := by decide +kernel
theorem dX9_floods_204 : decode cX9_floods 204 = .ok (.putfield 46, 3) := by decide +kernel
theorem dX9_floods_207 : decode cX9_floods 207 = .ok (.iload 6, 2) := by decide +kernel
theorem dX9_floods_209 : decode cX9_floods 209 = .ok (.istore 8, 2) := by decide +kernel
theorem dX9_floods_211 : decode cX9_floods 211 = .ok (.iload 7, 2) := by decide +kernel
theorem dX9_floods_213 : decode cX9_floods 213 = .ok (.istore 9, 2) := by decide +kernel
theorem dX9_floods_215 : decode cX9_floods 215 = .ok (.iload 9, 2) := by decide +kernel
theorem dX9_floods_217 : decode cX9_floods 217 = .ok (.ifCond .le 21, 3) := by decide +kernel
theorem dX9_floods_220 : decode cX9_floods 220 = .ok (.iload 8, 2) := by decide +kernel
theorem dX9_floods_222 : decode cX9_floods 222 = .ok (.iload 9, 2) := by decide +kernel
theorem dX9_floods_224 : decode cX9_floods 224 = .ok (.irem, 1) := by decide +kernel
theorem dX9_floods_225 : decode cX9_floods 225 = .ok (.istore 10, 2) := by decide +kernel
theorem dX9_floods_227 : decode cX9_floods 227 = .ok (.iload 9, 2) := by decide +kernel
theorem dX9_floods_229 : decode cX9_floods 229 = .ok (.istore 8, 2) := by decide +kernel
theorem dX9_floods_231 : decode cX9_floods 231 = .ok (.iload 10, 2) := by decide +kernel
theorem dX9_floods_233 : decode cX9_floods 233 = .ok (.istore 9, 2) := by decide +kernel
theorem dX9_floods_235 : decode cX9_floods 235 = .ok (.goto (-20), 3) := by decide +kernel
theorem dX9_floods_238 : decode cX9_floods 238 = .ok (.iload 5, 2) := by decide +kernel
theorem dX9_floods_240 : decode cX9_floods 240 = .ok (.ifCond .ne 11, 3) := by decide +kernel
theorem dX9_floods_243 : decode cX9_floods 243 = .ok (.iload 6, 2) := by decide +kernel
theorem dX9_floods_245 : decode cX9_floods 245 = .ok (.iload 8, 2) := by decide +kernel
theorem dX9_floods_247 : decode cX9_floods 247 = .ok (.idiv, 1) := by decide +kernel
theorem dX9_floods_248 : decode cX9_floods 248 = .ok (.goto 8, 3) := by decide +kernel
theorem dX9_floods_251 : decode cX9_floods 251 = .ok (.iload 7, 2) := by decide +kernel
theorem dX9_floods_253 : decode cX9_floods 253 = .ok (.iload 8, 2) := by decide +kernel
theorem dX9_floods_255 : decode cX9_floods 255 = .ok (.idiv, 1) := by decide +kernel
theorem dX9_floods_256 : decode cX9_floods 256 = .ok (.ireturn, 1) := by decide +kernel
theorem dX9_day_0 : decode cX9_day 0 = .ok (.iload_n 1, 1) := by decide +kernel
theorem dX9_day_1 : decode cX9_day 1 = .ok (.iconst 0, 1) := by decide +kernel
theorem dX9_day_2 : decode cX9_day 2 = .ok (.sipush 9999, 3) := by decide +kernel
theorem dX9_day_5 : decode cX9_day 5 = .ok (.invokestatic 73, 3) := by decide +kernel
theorem dX9_day_8 : decode cX9_day 8 = .ok (.ifCond .eq 12, 3) := by decide +kernel
theorem dX9_day_11 : decode cX9_day 11 = .ok (.iload_n 2, 1) := by decide +kernel
theorem dX9_day_12 : decode cX9_day 12 = .ok (.iconst 0, 1) := by decide +kernel
theorem dX9_day_13 : decode cX9_day 13 = .ok (.iconst 1, 1) := by decide +kernel
theorem dX9_day_14 : decode cX9_day 14 = .ok (.invokestatic 73, 3) := by decide +kernel
theorem dX9_day_17 : decode cX9_day 17 = .ok (.ifCond .ne 5, 3) := by decide +kernel
theorem dX9_day_20 : decode cX9_day 20 = .ok (.iconst (-1), 1) := by decide +kernel
theorem dX9_day_21 : decode cX9_day 21 = .ok (.ireturn, 1) := by decide +kernel
theorem dX9_day_22 : decode cX9_day 22 = .ok (.iconst 0, 1) := by decide +kernel
theorem dX9_day_23 : decode cX9_day 23 = .ok (.istore_n 3, 1) := by decide +kernel
theorem dX9_day_24 : decode cX9_day 24 = .ok (.iload_n 3, 1) := by decide +kernel
theorem dX9_day_25 : decode cX9_day 25 = .ok (.iconst 5, 1) := by decide +kernel
theorem dX9_day_26 : decode cX9_day 26 = .ok (.if_icmp .ge 60, 3) := by decide +kernel
theorem dX9_day_29 : decode cX9_day 29 = .ok (.aload_n 0, 1) := by decide +kernel
theorem dX9_day_30 : decode cX9_day 30 = .ok (.getfield 56, 3) := by decide +kernel
theorem dX9_day_33 : decode cX9_day 33 = .ok (.iload_n 3, 1) := by decide +kernel
theorem dX9_day_34 : decode cX9_day 34 = .ok (.aload_n 0, 1) := by decide +kernel
theorem dX9_day_35 : decode cX9_day 35 = .ok (.getfield 22, 3) := by decide +kernel
theorem dX9_day_38 : decode cX9_day 38 = .ok (.iload_n 3, 1) := by decide +kernel
theorem dX9_day_39 : decode cX9_day 39 = .ok (.iaload, 1) := by decide +kernel
theorem dX9_day_40 : decode cX9_day 40 = .ok (.iastore, 1) := by decide +kernel
theorem dX9_day_41 : decode cX9_day 41 = .ok (.ldc2_w 178, 3) := by decide +kernel
theorem dX9_day_44 : decode cX9_day 44 = .ok (.iload_n 1, 1) := by decide +kernel
theorem dX9_day_45 : decode cX9_day 45 = .ok (.i2l, 1) := by decide +kernel
theorem dX9_day_46 : decode cX9_day 46 = .ok (.lmul, 1) := by decide +kernel
theorem dX9_day_47 : decode cX9_day 47 = .ok (.ldc2_w 180, 3) := by decide +kernel
theorem dX9_day_50 : decode cX9_day 50 = .ok (.iload_n 3, 1) := by decide +kernel
theorem dX9_day_51 : decode cX9_day 51 = .ok (.i2l, 1) := by decide +kernel
theorem dX9_day_52 : decode cX9_day 52 = .ok (.lmul, 1) := by decide +kernel
theorem dX9_day_53 : decode cX9_day 53 = .ok (.ladd, 1) := by decide +kernel
theorem dX9_day_54 : decode cX9_day 54 = .ok (.lconst 1, 1) := by decide +kernel
theorem dX9_day_55 : decode cX9_day 55 = .ok (.ladd, 1) := by decide +kernel
theorem dX9_day_56 : decode cX9_day 56 = .ok (.lstore 4, 2) := by decide +kernel
theorem dX9_day_58 : decode cX9_day 58 = .ok (.aload_n 0, 1) := by decide +kernel
theorem dX9_day_59 : decode cX9_day 59 = .ok (.getfield 22, 3) := by decide +kernel
theorem dX9_day_62 : decode cX9_day 62 = .ok (.iload_n 3, 1) := by decide +kernel
theorem dX9_day_63 : decode cX9_day 63 = .ok (.lload 4, 2) := by decide +kernel
theorem dX9_day_65 : decode cX9_day 65 = .ok (.lload 4, 2) := by decide +kernel
theorem dX9_day_67 : decode cX9_day 67 = .ok (.lmul, 1) := by decide +kernel
theorem dX9_day_68 : decode cX9_day 68 = .ok (.ldc2_w 182, 3) := by decide +kernel
theorem dX9_day_71 : decode cX9_day 71 = .ok (.lrem, 1) := by decide +kernel
theorem dX9_day_72 : decode cX9_day 72 = .ok (.l2i, 1) := by decide +kernel
theorem dX9_day_73 : decode cX9_day 73 = .ok (.bipush 8, 2) := by decide +kernel
theorem dX9_day_75 : decode cX9_day 75 = .ok (.idiv, 1) := by decide +kernel
theorem dX9_day_76 : decode cX9_day 76 = .ok (.bipush 31, 2) := by decide +kernel
theorem dX9_day_78 : decode cX9_day 78 = .ok (.irem, 1) := by decide +kernel
theorem dX9_day_79 : decode cX9_day 79 = .ok (.iastore, 1) := by decide +kernel
theorem dX9_day_80 : decode cX9_day 80 = .ok (.iinc 3 1, 3) := by decide +kernel
theorem dX9_day_83 : decode cX9_day 83 = .ok (.goto (-59), 3) := by decide +kernel
theorem dX9_day_86 : decode cX9_day 86 = .ok (.aload_n 0, 1) := by decide +kernel
theorem dX9_day_87 : decode cX9_day 87 = .ok (.invokevirtual 162, 3) := by decide +kernel
theorem dX9_day_90 : decode cX9_day 90 = .ok (.iconst 0, 1) := by decide +kernel
theorem dX9_day_91 : decode cX9_day 91 = .ok (.istore_n 3, 1) := by decide +kernel
theorem dX9_day_92 : decode cX9_day 92 = .ok (.iconst 0, 1) := by decide +kernel
theorem dX9_day_93 : decode cX9_day 93 = .ok (.istore 4, 2) := by decide +kernel
theorem dX9_day_95 : decode cX9_day 95 = .ok (.iload 4, 2) := by decide +kernel
theorem dX9_day_97 : decode cX9_day 97 = .ok (.aload_n 0, 1) := by decide +kernel
theorem dX9_day_98 : decode cX9_day 98 = .ok (.getfield 13, 3) := by decide +kernel
theorem dX9_day_101 : decode cX9_day 101 = .ok (.iconst 2, 1) := by decide +kernel
theorem dX9_day_102 : decode cX9_day 102 = .ok (.iaload, 1) := by decide +kernel
theorem dX9_day_103 : decode cX9_day 103 = .ok (.if_icmp .ge 50, 3) := by decide +kernel
theorem dX9_day_106 : decode cX9_day 106 = .ok (.iconst 0, 1) := by decide +kernel
theorem dX9_day_107 : decode cX9_day 107 = .ok (.istore 5, 2) := by decide +kernel
theorem dX9_day_109 : decode cX9_day 109 = .ok (.iload 5, 2) := by decide +kernel
theorem dX9_day_111 : decode cX9_day 111 = .ok (.aload_n 0, 1) := by decide +kernel
theorem dX9_day_112 : decode cX9_day 112 = .ok (.getfield 13, 3) := by decide +kernel
theorem dX9_day_115 : decode cX9_day 115 = .ok (.iconst 1, 1) := by decide +kernel
theorem dX9_day_116 : decode cX9_day 116 = .ok (.iaload, 1) := by decide +kernel
theorem dX9_day_117 : decode cX9_day 117 = .ok (.if_icmp .ge 30, 3) := by decide +kernel
theorem dX9_day_120 : decode cX9_day 120 = .ok (.iload_n 3, 1) := by decide +kernel
theorem dX9_day_121 : decode cX9_day 121 = .ok (.aload_n 0, 1) := by decide +kernel
theorem dX9_day_122 : decode cX9_day 122 = .ok (.iload 4, 2) := by decide +kernel
theorem dX9_day_124 : decode cX9_day 124 = .ok (.iload 5, 2) := by decide +kernel
theorem dX9_day_126 : decode cX9_day 126 = .ok (.invokevirtual 168, 3) := by decide +kernel
theorem dX9_day_129 : decode cX9_day 129 = .ok (.bipush (-4), 2) := by decide +kernel
theorem dX9_day_131 : decode cX9_day 131 = .ok (.if_icmp .eq 7, 3) := by decide +kernel
theorem dX9_day_134 : decode cX9_day 134 = .ok (.iconst 1, 1) := by decide +kernel
theorem dX9_day_135 : decode cX9_day 135 = .ok (.goto 4, 3) := by decide +kernel
theorem dX9_day_138 : decode cX9_day 138 = .ok (.iconst 0, 1) := by decide +kernel
theorem dX9_day_139 : decode cX9_day 139 = .ok (.iadd, 1) := by decide +kernel
theorem dX9_day_140 : decode cX9_day 140 = .ok (.istore_n 3, 1) := by decide +kernel
theorem dX9_day_141 : decode cX9_day 141 = .ok (.iinc 5 1, 3) := by decide +kernel
theorem dX9_day_144 : decode cX9_day 144 = .ok (.goto (-35), 3) := by decide +kernel
theorem dX9_day_147 : decode cX9_day 147 = .ok (.iinc 4 1, 3) := by decide +kernel
theorem dX9_day_150 : decode cX9_day 150 = .ok (.goto (-55), 3) := by decide +kernel
theorem dX9_day_153 : decode cX9_day 153 = .ok (.iconst 0, 1) := by decide +kernel
theorem dX9_day_154 : decode cX9_day 154 = .ok (.istore 4, 2) := by decide +kernel
theorem dX9_day_156 : decode cX9_day 156 = .ok (.iload 4, 2) := by decide +kernel
theorem dX9_day_158 : decode cX9_day 158 = .ok (.iconst 5, 1) := by decide +kernel
theorem dX9_day_159 : decode cX9_day 159 = .ok (.if_icmp .ge 23, 3) := by decide +kernel
theorem dX9_day_162 : decode cX9_day 162 = .ok (.aload_n 0, 1) := by decide +kernel
theorem dX9_day_163 : decode cX9_day 163 = .ok (.getfield 22, 3) := by decide +kernel
theorem dX9_day_166 : decode cX9_day 166 = .ok (.iload 4, 2) := by decide +kernel
theorem dX9_day_168 : decode cX9_day 168 = .ok (.aload_n 0, 1) := by decide +kernel
theorem dX9_day_169 : decode cX9_day 169 = .ok (.getfield 56, 3) := by decide +kernel
theorem dX9_day_172 : decode cX9_day 172 = .ok (.iload 4, 2) := by decide +kernel
theorem dX9_day_174 : decode cX9_day 174 = .ok (.iaload, 1) := by decide +kernel
theorem dX9_day_175 : decode cX9_day 175 = .ok (.iastore, 1) := by decide +kernel
theorem dX9_day_176 : decode cX9_day 176 = .ok (.iinc 4 1, 3) := by decide +kernel
theorem dX9_day_179 : decode cX9_day 179 = .ok (.goto (-23), 3) := by decide +kernel
theorem dX9_day_182 : decode cX9_day 182 = .ok (.iload_n 2, 1) := by decide +kernel
theorem dX9_day_183 : decode cX9_day 183 = .ok (.ifCond .ne 10, 3) := by decide +kernel
theorem dX9_day_186 : decode cX9_day 186 = .ok (.aload_n 0, 1) := by decide +kernel
theorem dX9_day_187 : decode cX9_day 187 = .ok (.getfield 146, 3) := by decide +kernel
theorem dX9_day_190 : decode cX9_day 190 = .ok (.goto 4, 3) := by decide +kernel
theorem dX9_day_193 : decode cX9_day 193 = .ok (.iload_n 3, 1) := by decide +kernel
theorem dX9_day_194 : decode cX9_day 194 = .ok (.ireturn, 1) := by decide +kernel
theorem dX9_keep_0 : decode cX9_keep 0 = .ok (.aload_n 0, 1) := by decide +kernel
theorem dX9_keep_1 : decode cX9_keep 1 = .ok (.getfield 109, 3) := by decide +kernel
theorem dX9_keep_4 : decode cX9_keep 4 = .ok (.iconst 2, 1) := by decide +kernel
theorem dX9_keep_5 : decode cX9_keep 5 = .ok (.if_icmp .ne 6, 3) := by decide +kernel
theorem dX9_keep_8 : decode cX9_keep 8 = .ok (.bipush (-3), 2) := by decide +kernel
theorem dX9_keep_10 : decode cX9_keep 10 = .ok (.ireturn, 1) := by decide +kernel
theorem dX9_keep_11 : decode cX9_keep 11 = .ok (.iconst 0, 1) := by decide +kernel
theorem dX9_keep_12 : decode cX9_keep 12 = .ok (.istore_n 1, 1) := by decide +kernel
theorem dX9_keep_13 : decode cX9_keep 13 = .ok (.iload_n 1, 1) := by decide +kernel
theorem dX9_keep_14 : decode cX9_keep 14 = .ok (.bipush 7, 2) := by decide +kernel
theorem dX9_keep_16 : decode cX9_keep 16 = .ok (.if_icmp .ge 29, 3) := by decide +kernel
theorem dX9_keep_19 : decode cX9_keep 19 = .ok (.aload_n 0, 1) := by decide +kernel
theorem dX9_keep_20 : decode cX9_keep 20 = .ok (.getfield 28, 3) := by decide +kernel
theorem dX9_keep_23 : decode cX9_keep 23 = .ok (.bipush 7, 2) := by decide +kernel
theorem dX9_keep_25 : decode cX9_keep 25 = .ok (.aload_n 0, 1) := by decide +kernel
theorem dX9_keep_26 : decode cX9_keep 26 = .ok (.getfield 109, 3) := by decide +kernel
theorem dX9_keep_29 : decode cX9_keep 29 = .ok (.imul, 1) := by decide +kernel
theorem dX9_keep_30 : decode cX9_keep 30 = .ok (.iload_n 1, 1) := by decide +kernel
theorem dX9_keep_31 : decode cX9_keep 31 = .ok (.iadd, 1) := by decide +kernel
theorem dX9_keep_32 : decode cX9_keep 32 = .ok (.aload_n 0, 1) := by decide +kernel
theorem dX9_keep_33 : decode cX9_keep 33 = .ok (.getfield 22, 3) := by decide +kernel
theorem dX9_keep_36 : decode cX9_keep 36 = .ok (.iload_n 1, 1) := by decide +kernel
theorem dX9_keep_37 : decode cX9_keep 37 = .ok (.iaload, 1) := by decide +kernel
theorem dX9_keep_38 : decode cX9_keep 38 = .ok (.iastore, 1) := by decide +kernel
theorem dX9_keep_39 : decode cX9_keep 39 = .ok (.iinc 1 1, 3) := by decide +kernel
theorem dX9_keep_42 : decode cX9_keep 42 = .ok (.goto (-29), 3) := by decide +kernel
theorem dX9_keep_45 : decode cX9_keep 45 = .ok (.aload_n 0, 1) := by decide +kernel
theorem dX9_keep_46 : decode cX9_keep 46 = .ok (.dup, 1) := by decide +kernel
theorem dX9_keep_47 : decode cX9_keep 47 = .ok (.getfield 109, 3) := by decide +kernel
theorem dX9_keep_50 : decode cX9_keep 50 = .ok (.iconst 1, 1) := by decide +kernel
theorem dX9_keep_51 : decode cX9_keep 51 = .ok (.iadd, 1) := by decide +kernel
theorem dX9_keep_52 : decode cX9_keep 52 = .ok (.putfield 109, 3) := by decide +kernel
theorem dX9_keep_55 : decode cX9_keep 55 = .ok (.aload_n 0, 1) := by decide +kernel
theorem dX9_keep_56 : decode cX9_keep 56 = .ok (.getfield 109, 3) := by decide +kernel
theorem dX9_keep_59 : decode cX9_keep 59 = .ok (.ireturn, 1) := by decide +kernel
theorem dX9_back_0 : decode cX9_back 0 = .ok (.aload_n 0, 1) := by decide +kernel
theorem dX9_back_1 : decode cX9_back 1 = .ok (.getfield 109, 3) := by decide +kernel
theorem dX9_back_4 : decode cX9_back 4 = .ok (.ifCond .ne 6, 3) := by decide +kernel
theorem dX9_back_7 : decode cX9_back 7 = .ok (.bipush (-2), 2) := by decide +kernel
theorem dX9_back_9 : decode cX9_back 9 = .ok (.ireturn, 1) := by decide +kernel
theorem dX9_back_10 : decode cX9_back 10 = .ok (.aload_n 0, 1) := by decide +kernel
theorem dX9_back_11 : decode cX9_back 11 = .ok (.dup, 1) := by decide +kernel
theorem dX9_back_12 : decode cX9_back 12 = .ok (.getfield 109, 3) := by decide +kernel
theorem dX9_back_15 : decode cX9_back 15 = .ok (.iconst 1, 1) := by decide +kernel
theorem dX9_back_16 : decode cX9_back 16 = .ok (.isub, 1) := by decide +kernel
theorem dX9_back_17 : decode cX9_back 17 = .ok (.putfield 109, 3) := by decide +kernel
theorem dX9_back_20 : decode cX9_back 20 = .ok (.iconst 0, 1) := by decide +kernel
theorem dX9_back_21 : decode cX9_back 21 = .ok (.istore_n 1, 1) := by decide +kernel
theorem dX9_back_22 : decode cX9_back 22 = .ok (.iload_n 1, 1) := by decide +kernel
theorem dX9_back_23 : decode cX9_back 23 = .ok (.bipush 7, 2) := by decide +kernel
theorem dX9_back_25 : decode cX9_back 25 = .ok (.if_icmp .ge 29, 3) := by decide +kernel
theorem dX9_back_28 : decode cX9_back 28 = .ok (.aload_n 0, 1) := by decide +kernel
theorem dX9_back_29 : decode cX9_back 29 = .ok (.getfield 22, 3) := by decide +kernel
theorem dX9_back_32 : decode cX9_back 32 = .ok (.iload_n 1, 1) := by decide +kernel
theorem dX9_back_33 : decode cX9_back 33 = .ok (.aload_n 0, 1) := by decide +kernel
theorem dX9_back_34 : decode cX9_back 34 = .ok (.getfield 28, 3) := by decide +kernel
theorem dX9_back_37 : decode cX9_back 37 = .ok (.bipush 7, 2) := by decide +kernel
theorem dX9_back_39 : decode cX9_back 39 = .ok (.aload_n 0, 1) := by decide +kernel
theorem dX9_back_40 : decode cX9_back 40 = .ok (.getfield 109, 3) := by decide +kernel
theorem dX9_back_43 : decode cX9_back 43 = .ok (.imul, 1) := by decide +kernel
theorem dX9_back_44 : decode cX9_back 44 = .ok (.iload_n 1, 1) := by decide +kernel
theorem dX9_back_45 : decode cX9_back 45 = .ok (.iadd, 1) := by decide +kernel
theorem dX9_back_46 : decode cX9_back 46 = .ok (.iaload, 1) := by decide +kernel
theorem dX9_back_47 : decode cX9_back 47 = .ok (.iastore, 1) := by decide +kernel
theorem dX9_back_48 : decode cX9_back 48 = .ok (.iinc 1 1, 3) := by decide +kernel
theorem dX9_back_51 : decode cX9_back 51 = .ok (.goto (-29), 3) := by decide +kernel
theorem dX9_back_54 : decode cX9_back 54 = .ok (.aload_n 0, 1) := by decide +kernel
theorem dX9_back_55 : decode cX9_back 55 = .ok (.iconst 0, 1) := by decide +kernel
theorem dX9_back_56 : decode cX9_back 56 = .ok (.putfield 106, 3) := by decide +kernel
theorem dX9_back_59 : decode cX9_back 59 = .ok (.aload_n 0, 1) := by decide +kernel
theorem dX9_back_60 : decode cX9_back 60 = .ok (.getfield 109, 3) := by decide +kernel
theorem dX9_back_63 : decode cX9_back 63 = .ok (.ireturn, 1) := by decide +kernel
theorem dX9_count_0 : decode cX9_count 0 = .ok (.iload_n 1, 1) := by decide +kernel
theorem dX9_count_1 : decode cX9_count 1 = .ok (.tableswitch 113 0 8 #[51, 58, 65, 72, 83, 93, 98, 103, 108], 51) := by decide +kernel
theorem dX9_count_52 : decode cX9_count 52 = .ok (.aload_n 0, 1) := by decide +kernel
theorem dX9_count_53 : decode cX9_count 53 = .ok (.getfield 13, 3) := by decide +kernel
theorem dX9_count_56 : decode cX9_count 56 = .ok (.iconst 0, 1) := by decide +kernel
theorem dX9_count_57 : decode cX9_count 57 = .ok (.iaload, 1) := by decide +kernel
theorem dX9_count_58 : decode cX9_count 58 = .ok (.ireturn, 1) := by decide +kernel
theorem dX9_count_59 : decode cX9_count 59 = .ok (.aload_n 0, 1) := by decide +kernel
theorem dX9_count_60 : decode cX9_count 60 = .ok (.getfield 13, 3) := by decide +kernel
theorem dX9_count_63 : decode cX9_count 63 = .ok (.iconst 1, 1) := by decide +kernel
theorem dX9_count_64 : decode cX9_count 64 = .ok (.iaload, 1) := by decide +kernel
theorem dX9_count_65 : decode cX9_count 65 = .ok (.ireturn, 1) := by decide +kernel
theorem dX9_count_66 : decode cX9_count 66 = .ok (.aload_n 0, 1) := by decide +kernel
theorem dX9_count_67 : decode cX9_count 67 = .ok (.getfield 13, 3) := by decide +kernel
theorem dX9_count_70 : decode cX9_count 70 = .ok (.iconst 2, 1) := by decide +kernel
theorem dX9_count_71 : decode cX9_count 71 = .ok (.iaload, 1) := by decide +kernel
theorem dX9_count_72 : decode cX9_count 72 = .ok (.ireturn, 1) := by decide +kernel
theorem dX9_count_73 : decode cX9_count 73 = .ok (.aload_n 0, 1) := by decide +kernel
theorem dX9_count_74 : decode cX9_count 74 = .ok (.getfield 22, 3) := by decide +kernel
theorem dX9_count_77 : decode cX9_count 77 = .ok (.bipush 6, 2) := by decide +kernel
theorem dX9_count_79 : decode cX9_count 79 = .ok (.iaload, 1) := by decide +kernel
theorem dX9_count_80 : decode cX9_count 80 = .ok (.invokestatic 172, 3) := by decide +kernel
theorem dX9_count_83 : decode cX9_count 83 = .ok (.ireturn, 1) := by decide +kernel
theorem dX9_count_84 : decode cX9_count 84 = .ok (.aload_n 0, 1) := by decide +kernel
theorem dX9_count_85 : decode cX9_count 85 = .ok (.getfield 22, 3) := by decide +kernel
theorem dX9_count_88 : decode cX9_count 88 = .ok (.iconst 5, 1) := by decide +kernel
theorem dX9_count_89 : decode cX9_count 89 = .ok (.iaload, 1) := by decide +kernel
theorem dX9_count_90 : decode cX9_count 90 = .ok (.invokestatic 172, 3) := by decide +kernel
theorem dX9_count_93 : decode cX9_count 93 = .ok (.ireturn, 1) := by decide +kernel
theorem dX9_count_94 : decode cX9_count 94 = .ok (.aload_n 0, 1) := by decide +kernel
theorem dX9_count_95 : decode cX9_count 95 = .ok (.getfield 112, 3) := by decide +kernel
theorem dX9_count_98 : decode cX9_count 98 = .ok (.ireturn, 1) := by decide +kernel
theorem dX9_count_99 : decode cX9_count 99 = .ok (.aload_n 0, 1) := by decide +kernel
theorem dX9_count_100 : decode cX9_count 100 = .ok (.getfield 106, 3) := by decide +kernel
theorem dX9_count_103 : decode cX9_count 103 = .ok (.ireturn, 1) := by decide +kernel
theorem dX9_count_104 : decode cX9_count 104 = .ok (.aload_n 0, 1) := by decide +kernel
theorem dX9_count_105 : decode cX9_count 105 = .ok (.getfield 109, 3) := by decide +kernel
theorem dX9_count_108 : decode cX9_count 108 = .ok (.ireturn, 1) := by decide +kernel
theorem dX9_count_109 : decode cX9_count 109 = .ok (.aload_n 0, 1) := by decide +kernel
theorem dX9_count_110 : decode cX9_count 110 = .ok (.getfield 77, 3) := by decide +kernel
theorem dX9_count_113 : decode cX9_count 113 = .ok (.ireturn, 1) := by decide +kernel
theorem dX9_count_114 : decode cX9_count 114 = .ok (.iconst (-1), 1) := by decide +kernel
theorem dX9_count_115 : decode cX9_count 115 = .ok (.ireturn, 1) := by decide +kernel
theorem dJ6_bitCount_0f7a4_0 : decode cJ6_bitCount_0f7a4 0 = .ok (.iload_n 0, 1) := by decide +kernel
theorem dJ6_bitCount_0f7a4_1 : decode cJ6_bitCount_0f7a4 1 = .ok (.iload_n 0, 1) := by decide +kernel
theorem dJ6_bitCount_0f7a4_2 : decode cJ6_bitCount_0f7a4 2 = .ok (.iconst 1, 1) := by decide +kernel
theorem dJ6_bitCount_0f7a4_3 : decode cJ6_bitCount_0f7a4 3 = .ok (.iushr, 1) := by decide +kernel
theorem dJ6_bitCount_0f7a4_4 : decode cJ6_bitCount_0f7a4 4 = .ok (.ldc_w 265, 3) := by decide +kernel
theorem dJ6_bitCount_0f7a4_7 : decode cJ6_bitCount_0f7a4 7 = .ok (.iand, 1) := by decide +kernel
theorem dJ6_bitCount_0f7a4_8 : decode cJ6_bitCount_0f7a4 8 = .ok (.isub, 1) := by decide +kernel
theorem dJ6_bitCount_0f7a4_9 : decode cJ6_bitCount_0f7a4 9 = .ok (.istore_n 0, 1) := by decide +kernel
theorem dJ6_bitCount_0f7a4_10 : decode cJ6_bitCount_0f7a4 10 = .ok (.iload_n 0, 1) := by decide +kernel
theorem dJ6_bitCount_0f7a4_11 : decode cJ6_bitCount_0f7a4 11 = .ok (.ldc_w 266, 3) := by decide +kernel
theorem dJ6_bitCount_0f7a4_14 : decode cJ6_bitCount_0f7a4 14 = .ok (.iand, 1) := by decide +kernel
theorem dJ6_bitCount_0f7a4_15 : decode cJ6_bitCount_0f7a4 15 = .ok (.iload_n 0, 1) := by decide +kernel
theorem dJ6_bitCount_0f7a4_16 : decode cJ6_bitCount_0f7a4 16 = .ok (.iconst 2, 1) := by decide +kernel
theorem dJ6_bitCount_0f7a4_17 : decode cJ6_bitCount_0f7a4 17 = .ok (.iushr, 1) := by decide +kernel
theorem dJ6_bitCount_0f7a4_18 : decode cJ6_bitCount_0f7a4 18 = .ok (.ldc_w 266, 3) := by decide +kernel
theorem dJ6_bitCount_0f7a4_21 : decode cJ6_bitCount_0f7a4 21 = .ok (.iand, 1) := by decide +kernel
theorem dJ6_bitCount_0f7a4_22 : decode cJ6_bitCount_0f7a4 22 = .ok (.iadd, 1) := by decide +kernel
theorem dJ6_bitCount_0f7a4_23 : decode cJ6_bitCount_0f7a4 23 = .ok (.istore_n 0, 1) := by decide +kernel
theorem dJ6_bitCount_0f7a4_24 : decode cJ6_bitCount_0f7a4 24 = .ok (.iload_n 0, 1) := by decide +kernel
theorem dJ6_bitCount_0f7a4_25 : decode cJ6_bitCount_0f7a4 25 = .ok (.iload_n 0, 1) := by decide +kernel
theorem dJ6_bitCount_0f7a4_26 : decode cJ6_bitCount_0f7a4 26 = .ok (.iconst 4, 1) := by decide +kernel
theorem dJ6_bitCount_0f7a4_27 : decode cJ6_bitCount_0f7a4 27 = .ok (.iushr, 1) := by decide +kernel
theorem dJ6_bitCount_0f7a4_28 : decode cJ6_bitCount_0f7a4 28 = .ok (.iadd, 1) := by decide +kernel
theorem dJ6_bitCount_0f7a4_29 : decode cJ6_bitCount_0f7a4 29 = .ok (.ldc_w 267, 3) := by decide +kernel
theorem dJ6_bitCount_0f7a4_32 : decode cJ6_bitCount_0f7a4 32 = .ok (.iand, 1) := by decide +kernel
theorem dJ6_bitCount_0f7a4_33 : decode cJ6_bitCount_0f7a4 33 = .ok (.istore_n 0, 1) := by decide +kernel
theorem dJ6_bitCount_0f7a4_34 : decode cJ6_bitCount_0f7a4 34 = .ok (.iload_n 0, 1) := by decide +kernel
theorem dJ6_bitCount_0f7a4_35 : decode cJ6_bitCount_0f7a4 35 = .ok (.iload_n 0, 1) := by decide +kernel
theorem dJ6_bitCount_0f7a4_36 : decode cJ6_bitCount_0f7a4 36 = .ok (.bipush 8, 2) := by decide +kernel
theorem dJ6_bitCount_0f7a4_38 : decode cJ6_bitCount_0f7a4 38 = .ok (.iushr, 1) := by decide +kernel
theorem dJ6_bitCount_0f7a4_39 : decode cJ6_bitCount_0f7a4 39 = .ok (.iadd, 1) := by decide +kernel
theorem dJ6_bitCount_0f7a4_40 : decode cJ6_bitCount_0f7a4 40 = .ok (.istore_n 0, 1) := by decide +kernel
theorem dJ6_bitCount_0f7a4_41 : decode cJ6_bitCount_0f7a4 41 = .ok (.iload_n 0, 1) := by decide +kernel
theorem dJ6_bitCount_0f7a4_42 : decode cJ6_bitCount_0f7a4 42 = .ok (.iload_n 0, 1) := by decide +kernel
theorem dJ6_bitCount_0f7a4_43 : decode cJ6_bitCount_0f7a4 43 = .ok (.bipush 16, 2) := by decide +kernel
theorem dJ6_bitCount_0f7a4_45 : decode cJ6_bitCount_0f7a4 45 = .ok (.iushr, 1) := by decide +kernel
theorem dJ6_bitCount_0f7a4_46 : decode cJ6_bitCount_0f7a4 46 = .ok (.iadd, 1) := by decide +kernel
theorem dJ6_bitCount_0f7a4_47 : decode cJ6_bitCount_0f7a4 47 = .ok (.istore_n 0, 1) := by decide +kernel
theorem dJ6_bitCount_0f7a4_48 : decode cJ6_bitCount_0f7a4 48 = .ok (.iload_n 0, 1) := by decide +kernel
theorem dJ6_bitCount_0f7a4_49 : decode cJ6_bitCount_0f7a4 49 = .ok (.bipush 63, 2) := by decide +kernel
theorem dJ6_bitCount_0f7a4_51 : decode cJ6_bitCount_0f7a4 51 = .ok (.iand, 1) := by decide +kernel
theorem dJ6_bitCount_0f7a4_52 : decode cJ6_bitCount_0f7a4 52 = .ok (.ireturn, 1) := by decide +kernel
theorem dL_law_0 : decode cL_law 0 = .ok (.new 7, 3) := by decide +kernel
theorem dL_law_3 : decode cL_law 3 = .ok (.dup, 1) := by decide +kernel
theorem dL_law_4 : decode cL_law 4 = .ok (.invokespecial 9, 3) := by decide +kernel
theorem dL_law_7 : decode cL_law 7 = .ok (.astore_n 1, 1) := by decide +kernel
theorem dL_law_8 : decode cL_law 8 = .ok (.new 10, 3) := by decide +kernel
theorem dL_law_11 : decode cL_law 11 = .ok (.dup, 1) := by decide +kernel
theorem dL_law_12 : decode cL_law 12 = .ok (.invokespecial 12, 3) := by decide +kernel
theorem dL_law_15 : decode cL_law 15 = .ok (.astore_n 2, 1) := by decide +kernel
theorem dL_law_16 : decode cL_law 16 = .ok (.iconst 0, 1) := by decide +kernel
theorem dL_law_17 : decode cL_law 17 = .ok (.istore_n 3, 1) := by decide +kernel
theorem dL_law_18 : decode cL_law 18 = .ok (.iload_n 3, 1) := by decide +kernel
theorem dL_law_19 : decode cL_law 19 = .ok (.aload_n 0, 1) := by decide +kernel
theorem dL_law_20 : decode cL_law 20 = .ok (.arraylength, 1) := by decide +kernel
theorem dL_law_21 : decode cL_law 21 = .ok (.bipush 6, 2) := by decide +kernel
theorem dL_law_23 : decode cL_law 23 = .ok (.isub, 1) := by decide +kernel
theorem dL_law_24 : decode cL_law 24 = .ok (.if_icmp .gt 915, 3) := by decide +kernel
theorem dL_law_27 : decode cL_law 27 = .ok (.aload_n 0, 1) := by decide +kernel
theorem dL_law_28 : decode cL_law 28 = .ok (.iload_n 3, 1) := by decide +kernel
theorem dL_law_29 : decode cL_law 29 = .ok (.iaload, 1) := by decide +kernel
theorem dL_law_30 : decode cL_law 30 = .ok (.bipush 31, 2) := by decide +kernel
theorem dL_law_32 : decode cL_law 32 = .ok (.iand, 1) := by decide +kernel
theorem dL_law_33 : decode cL_law 33 = .ok (.tableswitch 900 0 26 #[123, 146, 159, 172, 185, 218, 241, 274, 307, 330, 353, 366, 409, 442, 455, 498, 541, 564, 623, 636, 659, 712, 755, 818, 851, 864, 877], 123) := by decide +kernel
theorem dL_law_156 : decode cL_law 156 = .ok (.aload_n 1, 1) := by decide +kernel
theorem dL_law_157 : decode cL_law 157 = .ok (.aload_n 0, 1) := by decide +kernel
theorem dL_law_158 : decode cL_law 158 = .ok (.iload_n 3, 1) := by decide +kernel
theorem dL_law_159 : decode cL_law 159 = .ok (.iconst 1, 1) := by decide +kernel
theorem dL_law_160 : decode cL_law 160 = .ok (.iadd, 1) := by decide +kernel
theorem dL_law_161 : decode cL_law 161 = .ok (.iaload, 1) := by decide +kernel
theorem dL_law_162 : decode cL_law 162 = .ok (.invokevirtual 13, 3) := by decide +kernel
theorem dL_law_165 : decode cL_law 165 = .ok (.aload_n 2, 1) := by decide +kernel
theorem dL_law_166 : decode cL_law 166 = .ok (.aload_n 0, 1) := by decide +kernel
theorem dL_law_167 : decode cL_law 167 = .ok (.iload_n 3, 1) := by decide +kernel
theorem dL_law_168 : decode cL_law 168 = .ok (.iconst 1, 1) := by decide +kernel
theorem dL_law_169 : decode cL_law 169 = .ok (.iadd, 1) := by decide +kernel
theorem dL_law_170 : decode cL_law 170 = .ok (.iaload, 1) := by decide +kernel
theorem dL_law_171 : decode cL_law 171 = .ok (.invokevirtual 17, 3) := by decide +kernel
theorem dL_law_174 : decode cL_law 174 = .ok (.if_icmp .eq 759, 3) := by decide +kernel
theorem dL_law_177 : decode cL_law 177 = .ok (.iconst 0, 1) := by decide +kernel
theorem dL_law_178 : decode cL_law 178 = .ok (.ireturn, 1) := by decide +kernel
theorem dL_law_179 : decode cL_law 179 = .ok (.aload_n 1, 1) := by decide +kernel
theorem dL_law_180 : decode cL_law 180 = .ok (.invokevirtual 18, 3) := by decide +kernel
theorem dL_law_183 : decode cL_law 183 = .ok (.aload_n 2, 1) := by decide +kernel
theorem dL_law_184 : decode cL_law 184 = .ok (.invokevirtual 22, 3) := by decide +kernel
theorem dL_law_187 : decode cL_law 187 = .ok (.if_icmp .eq 746, 3) := by decide +kernel
theorem dL_law_190 : decode cL_law 190 = .ok (.iconst 0, 1) := by decide +kernel
theorem dL_law_191 : decode cL_law 191 = .ok (.ireturn, 1) := by decide +kernel
theorem dL_law_192 : decode cL_law 192 = .ok (.aload_n 1, 1) := by decide +kernel
theorem dL_law_193 : decode cL_law 193 = .ok (.invokevirtual 23, 3) := by decide +kernel
theorem dL_law_196 : decode cL_law 196 = .ok (.aload_n 2, 1) := by decide +kernel
theorem dL_law_197 : decode cL_law 197 = .ok (.invokevirtual 26, 3) := by decide +kernel
theorem dL_law_200 : decode cL_law 200 = .ok (.if_icmp .eq 733, 3) := by decide +kernel
theorem dL_law_203 : decode cL_law 203 = .ok (.iconst 0, 1) := by decide +kernel
theorem dL_law_204 : decode cL_law 204 = .ok (.ireturn, 1) := by decide +kernel
theorem dL_law_205 : decode cL_law 205 = .ok (.aload_n 1, 1) := by decide +kernel
theorem dL_law_206 : decode cL_law 206 = .ok (.invokevirtual 27, 3) := by decide +kernel
theorem dL_law_209 : decode cL_law 209 = .ok (.aload_n 2, 1) := by decide +kernel
theorem dL_law_210 : decode cL_law 210 = .ok (.invokevirtual 30, 3) := by decide +kernel
theorem dL_law_213 : decode cL_law 213 = .ok (.if_icmp .eq 720, 3) := by decide +kernel
theorem dL_law_216 : decode cL_law 216 = .ok (.iconst 0, 1) := by decide +kernel
theorem dL_law_217 : decode cL_law 217 = .ok (.ireturn, 1) := by decide +kernel
theorem dL_law_218 : decode cL_law 218 = .ok (.aload_n 1, 1) := by decide +kernel
theorem dL_law_219 : decode cL_law 219 = .ok (.aload_n 0, 1) := by decide +kernel
theorem dL_law_220 : decode cL_law 220 = .ok (.iload_n 3, 1) := by decide +kernel
theorem dL_law_221 : decode cL_law 221 = .ok (.iconst 1, 1) := by decide +kernel
theorem dL_law_222 : decode cL_law 222 = .ok (.iadd, 1) := by decide +kernel
theorem dL_law_223 : decode cL_law 223 = .ok (.iaload, 1) := by decide +kernel
theorem dL_law_224 : decode cL_law 224 = .ok (.aload_n 0, 1) := by decide +kernel
theorem dL_law_225 : decode cL_law 225 = .ok (.iload_n 3, 1) := by decide +kernel
theorem dL_law_226 : decode cL_law 226 = .ok (.iconst 2, 1) := by decide +kernel
theorem dL_law_227 : decode cL_law 227 = .ok (.iadd, 1) := by decide +kernel
theorem dL_law_228 : decode cL_law 228 = .ok (.iaload, 1) := by decide +kernel
theorem dL_law_229 : decode cL_law 229 = .ok (.invokevirtual 31, 3) := by decide +kernel
theorem dL_law_232 : decode cL_law 232 = .ok (.aload_n 2, 1) := by decide +kernel
theorem dL_law_233 : decode cL_law 233 = .ok (.aload_n 0, 1) := by decide +kernel
theorem dL_law_234 : decode cL_law 234 = .ok (.iload_n 3, 1) := by decide +kernel
theorem dL_law_235 : decode cL_law 235 = .ok (.iconst 1, 1) := by decide +kernel
theorem dL_law_236 : decode cL_law 236 = .ok (.iadd, 1) := by decide +kernel
theorem dL_law_237 : decode cL_law 237 = .ok (.iaload, 1) := by decide +kernel
theorem dL_law_238 : decode cL_law 238 = .ok (.aload_n 0, 1) := by decide +kernel
theorem dL_law_239 : decode cL_law 239 = .ok (.iload_n 3, 1) := by decide +kernel
theorem dL_law_240 : decode cL_law 240 = .ok (.iconst 2, 1) := by decide +kernel
theorem dL_law_241 : decode cL_law 241 = .ok (.iadd, 1) := by decide +kernel
theorem dL_law_242 : decode cL_law 242 = .ok (.iaload, 1) := by decide +kernel
theorem dL_law_243 : decode cL_law 243 = .ok (.invokevirtual 35, 3) := by decide +kernel
theorem dL_law_246 : decode cL_law 246 = .ok (.if_icmp .eq 687, 3) := by decide +kernel
theorem dL_law_249 : decode cL_law 249 = .ok (.iconst 0, 1) := by decide +kernel
theorem dL_law_250 : decode cL_law 250 = .ok (.ireturn, 1) := by decide +kernel
theorem dL_law_251 : decode cL_law 251 = .ok (.aload_n 1, 1) := by decide +kernel
theorem dL_law_252 : decode cL_law 252 = .ok (.aload_n 0, 1) := by decide +kernel
theorem dL_law_253 : decode cL_law 253 = .ok (.iload_n 3, 1) := by decide +kernel
theorem dL_law_254 : decode cL_law 254 = .ok (.iconst 1, 1) := by decide +kernel
theorem dL_law_255 : decode cL_law 255 = .ok (.iadd, 1) := by decide +kernel
theorem dL_law_256 : decode cL_law 256 = .ok (.iaload, 1) := by decide +kernel
theorem dL_law_257 : decode cL_law 257 = .ok (.invokevirtual 36, 3) := by decide +kernel
theorem dL_law_260 : decode cL_law 260 = .ok (.aload_n 2, 1) := by decide +kernel
theorem dL_law_261 : decode cL_law 261 = .ok (.aload_n 0, 1) := by decide +kernel
theorem dL_law_262 : decode cL_law 262 = .ok (.iload_n 3, 1) := by decide +kernel
theorem dL_law_263 : decode cL_law 263 = .ok (.iconst 1, 1) := by decide +kernel
theorem dL_law_264 : decode cL_law 264 = .ok (.iadd, 1) := by decide +kernel
theorem dL_law_265 : decode cL_law 265 = .ok (.iaload, 1) := by decide +kernel
theorem dL_law_266 : decode cL_law 266 = .ok (.invokevirtual 39, 3) := by decide +kernel
theorem dL_law_269 : decode cL_law 269 = .ok (.if_icmp .eq 664, 3) := by decide +kernel
theorem dL_law_272 : decode cL_law 272 = .ok (.iconst 0, 1) := by decide +kernel
theorem dL_law_273 : decode cL_law 273 = .ok (.ireturn, 1) := by decide +kernel
theorem dL_law_274 : decode cL_law 274 = .ok (.aload_n 1, 1) := by decide +kernel
theorem dL_law_275 : decode cL_law 275 = .ok (.aload_n 0, 1) := by decide +kernel
theorem dL_law_276 : decode cL_law 276 = .ok (.iload_n 3, 1) := by decide +kernel
theorem dL_law_277 : decode cL_law 277 = .ok (.iconst 1, 1) := by decide +kernel
theorem dL_law_278 : decode cL_law 278 = .ok (.iadd, 1) := by decide +kernel
theorem dL_law_279 : decode cL_law 279 = .ok (.iaload, 1) := by decide +kernel
theorem dL_law_280 : decode cL_law 280 = .ok (.aload_n 0, 1) := by decide +kernel
theorem dL_law_281 : decode cL_law 281 = .ok (.iload_n 3, 1) := by decide +kernel
theorem dL_law_282 : decode cL_law 282 = .ok (.iconst 2, 1) := by decide +kernel
theorem dL_law_283 : decode cL_law 283 = .ok (.iadd, 1) := by decide +kernel
theorem dL_law_284 : decode cL_law 284 = .ok (.iaload, 1) := by decide +kernel
theorem dL_law_285 : decode cL_law 285 = .ok (.invokevirtual 40, 3) := by decide +kernel
theorem dL_law_288 : decode cL_law 288 = .ok (.aload_n 2, 1) := by decide +kernel
theorem dL_law_289 : decode cL_law 289 = .ok (.aload_n 0, 1) := by decide +kernel
theorem dL_law_290 : decode cL_law 290 = .ok (.iload_n 3, 1) := by decide +kernel
theorem dL_law_291 : decode cL_law 291 = .ok (.iconst 1, 1) := by decide +kernel
theorem dL_law_292 : decode cL_law 292 = .ok (.iadd, 1) := by decide +kernel
theorem dL_law_293 : decode cL_law 293 = .ok (.iaload, 1) := by decide +kernel
theorem dL_law_294 : decode cL_law 294 = .ok (.aload_n 0, 1) := by decide +kernel
theorem dL_law_295 : decode cL_law 295 = .ok (.iload_n 3, 1) := by decide +kernel
theorem dL_law_296 : decode cL_law 296 = .ok (.iconst 2, 1) := by decide +kernel
theorem dL_law_297 : decode cL_law 297 = .ok (.iadd, 1) := by decide +kernel
theorem dL_law_298 : decode cL_law 298 = .ok (.iaload, 1) := by decide +kernel
theorem dL_law_299 : decode cL_law 299 = .ok (.invokevirtual 43, 3) := by decide +kernel
theorem dL_law_302 : decode cL_law 302 = .ok (.if_icmp .eq 631, 3) := by decide +kernel
theorem dL_law_305 : decode cL_law 305 = .ok (.iconst 0, 1) := by decide +kernel
theorem dL_law_306 : decode cL_law 306 = .ok (.ireturn, 1) := by decide +kernel
theorem dL_law_307 : decode cL_law 307 = .ok (.aload_n 1, 1) := by decide +kernel
theorem dL_law_308 : decode cL_law 308 = .ok (.aload_n 0, 1) := by decide +kernel
theorem dL_law_309 : decode cL_law 309 = .ok (.iload_n 3, 1) := by decide +kernel
theorem dL_law_310 : decode cL_law 310 = .ok (.iconst 1, 1) := by decide +kernel
theorem dL_law_311 : decode cL_law 311 = .ok (.iadd, 1) := by decide +kernel
theorem dL_law_312 : decode cL_law 312 = .ok (.iaload, 1) := by decide +kernel
theorem dL_law_313 : decode cL_law 313 = .ok (.aload_n 0, 1) := by decide +kernel
theorem dL_law_314 : decode cL_law 314 = .ok (.iload_n 3, 1) := by decide +kernel
theorem dL_law_315 : decode cL_law 315 = .ok (.iconst 2, 1) := by decide +kernel
theorem dL_law_316 : decode cL_law 316 = .ok (.iadd, 1) := by decide +kernel
theorem dL_law_317 : decode cL_law 317 = .ok (.iaload, 1) := by decide +kernel
theorem dL_law_318 : decode cL_law 318 = .ok (.invokevirtual 44, 3) := by decide +kernel
theorem dL_law_321 : decode cL_law 321 = .ok (.aload_n 2, 1) := by decide +kernel
theorem dL_law_322 : decode cL_law 322 = .ok (.aload_n 0, 1) := by decide +kernel
theorem dL_law_323 : decode cL_law 323 = .ok (.iload_n 3, 1) := by decide +kernel
theorem dL_law_324 : decode cL_law 324 = .ok (.iconst 1, 1) := by decide +kernel
theorem dL_law_325 : decode cL_law 325 = .ok (.iadd, 1) := by decide +kernel
theorem dL_law_326 : decode cL_law 326 = .ok (.iaload, 1) := by decide +kernel
theorem dL_law_327 : decode cL_law 327 = .ok (.aload_n 0, 1) := by decide +kernel
theorem dL_law_328 : decode cL_law 328 = .ok (.iload_n 3, 1) := by decide +kernel
theorem dL_law_329 : decode cL_law 329 = .ok (.iconst 2, 1) := by decide +kernel
theorem dL_law_330 : decode cL_law 330 = .ok (.iadd, 1) := by decide +kernel
theorem dL_law_331 : decode cL_law 331 = .ok (.iaload, 1) := by decide +kernel
theorem dL_law_332 : decode cL_law 332 = .ok (.invokevirtual 47, 3) := by decide +kernel
theorem dL_law_335 : decode cL_law 335 = .ok (.if_icmp .eq 598, 3) := by decide +kernel
theorem dL_law_338 : decode cL_law 338 = .ok (.iconst 0, 1) := by decide +kernel
theorem dL_law_339 : decode cL_law 339 = .ok (.ireturn, 1) := by decide +kernel
theorem dL_law_340 : decode cL_law 340 = .ok (.aload_n 1, 1) := by decide +kernel
theorem dL_law_341 : decode cL_law 341 = .ok (.aload_n 0, 1) := by decide +kernel
theorem dL_law_342 : decode cL_law 342 = .ok (.iload_n 3, 1) := by decide +kernel
theorem dL_law_343 : decode cL_law 343 = .ok (.iconst 1, 1) := by decide +kernel
theorem dL_law_344 : decode cL_law 344 = .ok (.iadd, 1) := by decide +kernel
theorem dL_law_345 : decode cL_law 345 = .ok (.iaload, 1) := by decide +kernel
theorem dL_law_346 : decode cL_law 346 = .ok (.invokevirtual 48, 3) := by decide +kernel
theorem dL_law_349 : decode cL_law 349 = .ok (.aload_n 2, 1) := by decide +kernel
theorem dL_law_350 : decode cL_law 350 = .ok (.aload_n 0, 1) := by decide +kernel
theorem dL_law_351 : decode cL_law 351 = .ok (.iload_n 3, 1) := by decide +kernel
theorem dL_law_352 : decode cL_law 352 = .ok (.iconst 1, 1) := by decide +kernel
theorem dL_law_353 : decode cL_law 353 = .ok (.iadd, 1) := by decide +kernel
theorem dL_law_354 : decode cL_law 354 = .ok (.iaload, 1) := by decide +kernel
theorem dL_law_355 : decode cL_law 355 = .ok (.invokevirtual 51, 3) := by decide +kernel
theorem dL_law_358 : decode cL_law 358 = .ok (.if_icmp .eq 575, 3) := by decide +kernel
theorem dL_law_361 : decode cL_law 361 = .ok (.iconst 0, 1) := by decide +kernel
theorem dL_law_362 : decode cL_law 362 = .ok (.ireturn, 1) := by decide +kernel
theorem dL_law_363 : decode cL_law 363 = .ok (.aload_n 1, 1) := by decide +kernel
theorem dL_law_364 : decode cL_law 364 = .ok (.aload_n 0, 1) := by decide +kernel
theorem dL_law_365 : decode cL_law 365 = .ok (.iload_n 3, 1) := by decide +kernel
theorem dL_law_366 : decode cL_law 366 = .ok (.iconst 1, 1) := by decide +kernel
theorem dL_law_367 : decode cL_law 367 = .ok (.iadd, 1) := by decide +kernel
theorem dL_law_368 : decode cL_law 368 = .ok (.iaload, 1) := by decide +kernel
theorem dL_law_369 : decode cL_law 369 = .ok (.invokevirtual 52, 3) := by decide +kernel
theorem dL_law_372 : decode cL_law 372 = .ok (.aload_n 2, 1) := by decide +kernel
theorem dL_law_373 : decode cL_law 373 = .ok (.aload_n 0, 1) := by decide +kernel
theorem dL_law_374 : decode cL_law 374 = .ok (.iload_n 3, 1) := by decide +kernel
theorem dL_law_375 : decode cL_law 375 = .ok (.iconst 1, 1) := by decide +kernel
theorem dL_law_376 : decode cL_law 376 = .ok (.iadd, 1) := by decide +kernel
theorem dL_law_377 : decode cL_law 377 = .ok (.iaload, 1) := by decide +kernel
theorem dL_law_378 : decode cL_law 378 = .ok (.invokevirtual 55, 3) := by decide +kernel
theorem dL_law_381 : decode cL_law 381 = .ok (.if_icmp .eq 552, 3) := by decide +kernel
theorem dL_law_384 : decode cL_law 384 = .ok (.iconst 0, 1) := by decide +kernel
theorem dL_law_385 : decode cL_law 385 = .ok (.ireturn, 1) := by decide +kernel
theorem dL_law_386 : decode cL_law 386 = .ok (.aload_n 1, 1) := by decide +kernel
theorem dL_law_387 : decode cL_law 387 = .ok (.invokevirtual 56, 3) := by decide +kernel
theorem dL_law_390 : decode cL_law 390 = .ok (.aload_n 2, 1) := by decide +kernel
theorem dL_law_391 : decode cL_law 391 = .ok (.invokevirtual 59, 3) := by decide +kernel
theorem dL_law_394 : decode cL_law 394 = .ok (.if_icmp .eq 539, 3) := by decide +kernel
theorem dL_law_397 : decode cL_law 397 = .ok (.iconst 0, 1) := by decide +kernel
theorem dL_law_398 : decode cL_law 398 = .ok (.ireturn, 1) := by decide +kernel
theorem dL_law_399 : decode cL_law 399 = .ok (.aload_n 1, 1) := by decide +kernel
theorem dL_law_400 : decode cL_law 400 = .ok (.aload_n 0, 1) := by decide +kernel
theorem dL_law_401 : decode cL_law 401 = .ok (.iload_n 3, 1) := by decide +kernel
theorem dL_law_402 : decode cL_law 402 = .ok (.iconst 1, 1) := by decide +kernel
theorem dL_law_403 : decode cL_law 403 = .ok (.iadd, 1) := by decide +kernel
theorem dL_law_404 : decode cL_law 404 = .ok (.iaload, 1) := by decide +kernel
theorem dL_law_405 : decode cL_law 405 = .ok (.aload_n 0, 1) := by decide +kernel
theorem dL_law_406 : decode cL_law 406 = .ok (.iload_n 3, 1) := by decide +kernel
theorem dL_law_407 : decode cL_law 407 = .ok (.iconst 2, 1) := by decide +kernel
theorem dL_law_408 : decode cL_law 408 = .ok (.iadd, 1) := by decide +kernel
theorem dL_law_409 : decode cL_law 409 = .ok (.iaload, 1) := by decide +kernel
theorem dL_law_410 : decode cL_law 410 = .ok (.aload_n 0, 1) := by decide +kernel
theorem dL_law_411 : decode cL_law 411 = .ok (.iload_n 3, 1) := by decide +kernel
theorem dL_law_412 : decode cL_law 412 = .ok (.iconst 3, 1) := by decide +kernel
theorem dL_law_413 : decode cL_law 413 = .ok (.iadd, 1) := by decide +kernel
theorem dL_law_414 : decode cL_law 414 = .ok (.iaload, 1) := by decide +kernel
theorem dL_law_415 : decode cL_law 415 = .ok (.invokevirtual 60, 3) := by decide +kernel
theorem dL_law_418 : decode cL_law 418 = .ok (.aload_n 2, 1) := by decide +kernel
theorem dL_law_419 : decode cL_law 419 = .ok (.aload_n 0, 1) := by decide +kernel
theorem dL_law_420 : decode cL_law 420 = .ok (.iload_n 3, 1) := by decide +kernel
theorem dL_law_421 : decode cL_law 421 = .ok (.iconst 1, 1) := by decide +kernel
theorem dL_law_422 : decode cL_law 422 = .ok (.iadd, 1) := by decide +kernel
theorem dL_law_423 : decode cL_law 423 = .ok (.iaload, 1) := by decide +kernel
theorem dL_law_424 : decode cL_law 424 = .ok (.aload_n 0, 1) := by decide +kernel
theorem dL_law_425 : decode cL_law 425 = .ok (.iload_n 3, 1) := by decide +kernel
theorem dL_law_426 : decode cL_law 426 = .ok (.iconst 2, 1) := by decide +kernel
theorem dL_law_427 : decode cL_law 427 = .ok (.iadd, 1) := by decide +kernel
theorem dL_law_428 : decode cL_law 428 = .ok (.iaload, 1) := by decide +kernel
theorem dL_law_429 : decode cL_law 429 = .ok (.aload_n 0, 1) := by decide +kernel
theorem dL_law_430 : decode cL_law 430 = .ok (.iload_n 3, 1) := by decide +kernel
theorem dL_law_431 : decode cL_law 431 = .ok (.iconst 3, 1) := by decide +kernel
theorem dL_law_432 : decode cL_law 432 = .ok (.iadd, 1) := by decide +kernel
theorem dL_law_433 : decode cL_law 433 = .ok (.iaload, 1) := by decide +kernel
theorem dL_law_434 : decode cL_law 434 = .ok (.invokevirtual 64, 3) := by decide +kernel
theorem dL_law_437 : decode cL_law 437 = .ok (.if_icmp .eq 496, 3) := by decide +kernel
theorem dL_law_440 : decode cL_law 440 = .ok (.iconst 0, 1) := by decide +kernel
theorem dL_law_441 : decode cL_law 441 = .ok (.ireturn, 1) := by decide +kernel
theorem dL_law_442 : decode cL_law 442 = .ok (.aload_n 1, 1) := by decide +kernel
theorem dL_law_443 : decode cL_law 443 = .ok (.aload_n 0, 1) := by decide +kernel
theorem dL_law_444 : decode cL_law 444 = .ok (.iload_n 3, 1) := by decide +kernel
theorem dL_law_445 : decode cL_law 445 = .ok (.iconst 1, 1) := by decide +kernel
theorem dL_law_446 : decode cL_law 446 = .ok (.iadd, 1) := by decide +kernel
theorem dL_law_447 : decode cL_law 447 = .ok (.iaload, 1) := by decide +kernel
theorem dL_law_448 : decode cL_law 448 = .ok (.aload_n 0, 1) := by decide +kernel
theorem dL_law_449 : decode cL_law 449 = .ok (.iload_n 3, 1) := by decide +kernel
theorem dL_law_450 : decode cL_law 450 = .ok (.iconst 2, 1) := by decide +kernel
theorem dL_law_451 : decode cL_law 451 = .ok (.iadd, 1) := by decide +kernel
theorem dL_law_452 : decode cL_law 452 = .ok (.iaload, 1) := by decide +kernel
theorem dL_law_453 : decode cL_law 453 = .ok (.invokevirtual 65, 3) := by decide +kernel
theorem dL_law_456 : decode cL_law 456 = .ok (.aload_n 2, 1) := by decide +kernel
theorem dL_law_457 : decode cL_law 457 = .ok (.aload_n 0, 1) := by decide +kernel
theorem dL_law_458 : decode cL_law 458 = .ok (.iload_n 3, 1) := by decide +kernel
theorem dL_law_459 : decode cL_law 459 = .ok (.iconst 1, 1) := by decide +kernel
theorem dL_law_460 : decode cL_law 460 = .ok (.iadd, 1) := by decide +kernel
theorem dL_law_461 : decode cL_law 461 = .ok (.iaload, 1) := by decide +kernel
theorem dL_law_462 : decode cL_law 462 = .ok (.aload_n 0, 1) := by decide +kernel
theorem dL_law_463 : decode cL_law 463 = .ok (.iload_n 3, 1) := by decide +kernel
theorem dL_law_464 : decode cL_law 464 = .ok (.iconst 2, 1) := by decide +kernel
theorem dL_law_465 : decode cL_law 465 = .ok (.iadd, 1) := by decide +kernel
theorem dL_law_466 : decode cL_law 466 = .ok (.iaload, 1) := by decide +kernel
theorem dL_law_467 : decode cL_law 467 = .ok (.invokevirtual 68, 3) := by decide +kernel
theorem dL_law_470 : decode cL_law 470 = .ok (.if_icmp .eq 463, 3) := by decide +kernel
theorem dL_law_473 : decode cL_law 473 = .ok (.iconst 0, 1) := by decide +kernel
theorem dL_law_474 : decode cL_law 474 = .ok (.ireturn, 1) := by decide +kernel
theorem dL_law_475 : decode cL_law 475 = .ok (.aload_n 1, 1) := by decide +kernel
theorem dL_law_476 : decode cL_law 476 = .ok (.invokevirtual 69, 3) := by decide +kernel
theorem dL_law_479 : decode cL_law 479 = .ok (.aload_n 2, 1) := by decide +kernel
theorem dL_law_480 : decode cL_law 480 = .ok (.invokevirtual 72, 3) := by decide +kernel
theorem dL_law_483 : decode cL_law 483 = .ok (.if_icmp .eq 450, 3) := by decide +kernel
theorem dL_law_486 : decode cL_law 486 = .ok (.iconst 0, 1) := by decide +kernel
theorem dL_law_487 : decode cL_law 487 = .ok (.ireturn, 1) := by decide +kernel
theorem dL_law_488 : decode cL_law 488 = .ok (.aload_n 1, 1) := by decide +kernel
theorem dL_law_489 : decode cL_law 489 = .ok (.aload_n 0, 1) := by decide +kernel
theorem dL_law_490 : decode cL_law 490 = .ok (.iload_n 3, 1) := by decide +kernel
theorem dL_law_491 : decode cL_law 491 = .ok (.iconst 1, 1) := by decide +kernel
theorem dL_law_492 : decode cL_law 492 = .ok (.iadd, 1) := by decide +kernel
theorem dL_law_493 : decode cL_law 493 = .ok (.iaload, 1) := by decide +kernel
theorem dL_law_494 : decode cL_law 494 = .ok (.aload_n 0, 1) := by decide +kernel
theorem dL_law_495 : decode cL_law 495 = .ok (.iload_n 3, 1) := by decide +kernel
theorem dL_law_496 : decode cL_law 496 = .ok (.iconst 2, 1) := by decide +kernel
theorem dL_law_497 : decode cL_law 497 = .ok (.iadd, 1) := by decide +kernel
theorem dL_law_498 : decode cL_law 498 = .ok (.iaload, 1) := by decide +kernel
theorem dL_law_499 : decode cL_law 499 = .ok (.aload_n 0, 1) := by decide +kernel
theorem dL_law_500 : decode cL_law 500 = .ok (.iload_n 3, 1) := by decide +kernel
theorem dL_law_501 : decode cL_law 501 = .ok (.iconst 3, 1) := by decide +kernel
theorem dL_law_502 : decode cL_law 502 = .ok (.iadd, 1) := by decide +kernel
theorem dL_law_503 : decode cL_law 503 = .ok (.iaload, 1) := by decide +kernel
theorem dL_law_504 : decode cL_law 504 = .ok (.invokevirtual 73, 3) := by decide +kernel
theorem dL_law_507 : decode cL_law 507 = .ok (.aload_n 2, 1) := by decide +kernel
theorem dL_law_508 : decode cL_law 508 = .ok (.aload_n 0, 1) := by decide +kernel
theorem dL_law_509 : decode cL_law 509 = .ok (.iload_n 3, 1) := by decide +kernel
theorem dL_law_510 : decode cL_law 510 = .ok (.iconst 1, 1) := by decide +kernel
theorem dL_law_511 : decode cL_law 511 = .ok (.iadd, 1) := by decide +kernel
theorem dL_law_512 : decode cL_law 512 = .ok (.iaload, 1) := by decide +kernel
theorem dL_law_513 : decode cL_law 513 = .ok (.aload_n 0, 1) := by decide +kernel
theorem dL_law_514 : decode cL_law 514 = .ok (.iload_n 3, 1) := by decide +kernel
theorem dL_law_515 : decode cL_law 515 = .ok (.iconst 2, 1) := by decide +kernel
theorem dL_law_516 : decode cL_law 516 = .ok (.iadd, 1) := by decide +kernel
theorem dL_law_517 : decode cL_law 517 = .ok (.iaload, 1) := by decide +kernel
theorem dL_law_518 : decode cL_law 518 = .ok (.aload_n 0, 1) := by decide +kernel
theorem dL_law_519 : decode cL_law 519 = .ok (.iload_n 3, 1) := by decide +kernel
theorem dL_law_520 : decode cL_law 520 = .ok (.iconst 3, 1) := by decide +kernel
theorem dL_law_521 : decode cL_law 521 = .ok (.iadd, 1) := by decide +kernel
theorem dL_law_522 : decode cL_law 522 = .ok (.iaload, 1) := by decide +kernel
theorem dL_law_523 : decode cL_law 523 = .ok (.invokevirtual 76, 3) := by decide +kernel
theorem dL_law_526 : decode cL_law 526 = .ok (.if_icmp .eq 407, 3) := by decide +kernel
theorem dL_law_529 : decode cL_law 529 = .ok (.iconst 0, 1) := by decide +kernel
theorem dL_law_530 : decode cL_law 530 = .ok (.ireturn, 1) := by decide +kernel
theorem dL_law_531 : decode cL_law 531 = .ok (.aload_n 1, 1) := by decide +kernel
theorem dL_law_532 : decode cL_law 532 = .ok (.aload_n 0, 1) := by decide +kernel
theorem dL_law_533 : decode cL_law 533 = .ok (.iload_n 3, 1) := by decide +kernel
theorem dL_law_534 : decode cL_law 534 = .ok (.iconst 1, 1) := by decide +kernel
theorem dL_law_535 : decode cL_law 535 = .ok (.iadd, 1) := by decide +kernel
theorem dL_law_536 : decode cL_law 536 = .ok (.iaload, 1) := by decide +kernel
theorem dL_law_537 : decode cL_law 537 = .ok (.aload_n 0, 1) := by decide +kernel
theorem dL_law_538 : decode cL_law 538 = .ok (.iload_n 3, 1) := by decide +kernel
theorem dL_law_539 : decode cL_law 539 = .ok (.iconst 2, 1) := by decide +kernel
theorem dL_law_540 : decode cL_law 540 = .ok (.iadd, 1) := by decide +kernel
theorem dL_law_541 : decode cL_law 541 = .ok (.iaload, 1) := by decide +kernel
theorem dL_law_542 : decode cL_law 542 = .ok (.aload_n 0, 1) := by decide +kernel
theorem dL_law_543 : decode cL_law 543 = .ok (.iload_n 3, 1) := by decide +kernel
theorem dL_law_544 : decode cL_law 544 = .ok (.iconst 3, 1) := by decide +kernel
theorem dL_law_545 : decode cL_law 545 = .ok (.iadd, 1) := by decide +kernel
theorem dL_law_546 : decode cL_law 546 = .ok (.iaload, 1) := by decide +kernel
theorem dL_law_547 : decode cL_law 547 = .ok (.invokevirtual 77, 3) := by decide +kernel
theorem dL_law_550 : decode cL_law 550 = .ok (.aload_n 2, 1) := by decide +kernel
theorem dL_law_551 : decode cL_law 551 = .ok (.aload_n 0, 1) := by decide +kernel
theorem dL_law_552 : decode cL_law 552 = .ok (.iload_n 3, 1) := by decide +kernel
theorem dL_law_553 : decode cL_law 553 = .ok (.iconst 1, 1) := by decide +kernel
theorem dL_law_554 : decode cL_law 554 = .ok (.iadd, 1) := by decide +kernel
theorem dL_law_555 : decode cL_law 555 = .ok (.iaload, 1) := by decide +kernel
theorem dL_law_556 : decode cL_law 556 = .ok (.aload_n 0, 1) := by decide +kernel
theorem dL_law_557 : decode cL_law 557 = .ok (.iload_n 3, 1) := by decide +kernel
theorem dL_law_558 : decode cL_law 558 = .ok (.iconst 2, 1) := by decide +kernel
theorem dL_law_559 : decode cL_law 559 = .ok (.iadd, 1) := by decide +kernel
theorem dL_law_560 : decode cL_law 560 = .ok (.iaload, 1) := by decide +kernel
theorem dL_law_561 : decode cL_law 561 = .ok (.aload_n 0, 1) := by decide +kernel
theorem dL_law_562 : decode cL_law 562 = .ok (.iload_n 3, 1) := by decide +kernel
theorem dL_law_563 : decode cL_law 563 = .ok (.iconst 3, 1) := by decide +kernel
theorem dL_law_564 : decode cL_law 564 = .ok (.iadd, 1) := by decide +kernel
theorem dL_law_565 : decode cL_law 565 = .ok (.iaload, 1) := by decide +kernel
theorem dL_law_566 : decode cL_law 566 = .ok (.invokevirtual 80, 3) := by decide +kernel
theorem dL_law_569 : decode cL_law 569 = .ok (.if_icmp .eq 364, 3) := by decide +kernel
theorem dL_law_572 : decode cL_law 572 = .ok (.iconst 0, 1) := by decide +kernel
theorem dL_law_573 : decode cL_law 573 = .ok (.ireturn, 1) := by decide +kernel
theorem dL_law_574 : decode cL_law 574 = .ok (.aload_n 1, 1) := by decide +kernel
theorem dL_law_575 : decode cL_law 575 = .ok (.aload_n 0, 1) := by decide +kernel
theorem dL_law_576 : decode cL_law 576 = .ok (.iload_n 3, 1) := by decide +kernel
theorem dL_law_577 : decode cL_law 577 = .ok (.iconst 1, 1) := by decide +kernel
theorem dL_law_578 : decode cL_law 578 = .ok (.iadd, 1) := by decide +kernel
theorem dL_law_579 : decode cL_law 579 = .ok (.iaload, 1) := by decide +kernel
theorem dL_law_580 : decode cL_law 580 = .ok (.invokevirtual 81, 3) := by decide +kernel
theorem dL_law_583 : decode cL_law 583 = .ok (.aload_n 2, 1) := by decide +kernel
theorem dL_law_584 : decode cL_law 584 = .ok (.aload_n 0, 1) := by decide +kernel
theorem dL_law_585 : decode cL_law 585 = .ok (.iload_n 3, 1) := by decide +kernel
theorem dL_law_586 : decode cL_law 586 = .ok (.iconst 1, 1) := by decide +kernel
theorem dL_law_587 : decode cL_law 587 = .ok (.iadd, 1) := by decide +kernel
theorem dL_law_588 : decode cL_law 588 = .ok (.iaload, 1) := by decide +kernel
theorem dL_law_589 : decode cL_law 589 = .ok (.invokevirtual 84, 3) := by decide +kernel
theorem dL_law_592 : decode cL_law 592 = .ok (.if_icmp .eq 341, 3) := by decide +kernel
theorem dL_law_595 : decode cL_law 595 = .ok (.iconst 0, 1) := by decide +kernel
theorem dL_law_596 : decode cL_law 596 = .ok (.ireturn, 1) := by decide +kernel
theorem dL_law_597 : decode cL_law 597 = .ok (.aload_n 1, 1) := by decide +kernel
theorem dL_law_598 : decode cL_law 598 = .ok (.aload_n 0, 1) := by decide +kernel
theorem dL_law_599 : decode cL_law 599 = .ok (.iload_n 3, 1) := by decide +kernel
theorem dL_law_600 : decode cL_law 600 = .ok (.iconst 1, 1) := by decide +kernel
theorem dL_law_601 : decode cL_law 601 = .ok (.iadd, 1) := by decide +kernel
theorem dL_law_602 : decode cL_law 602 = .ok (.iaload, 1) := by decide +kernel
theorem dL_law_603 : decode cL_law 603 = .ok (.aload_n 0, 1) := by decide +kernel
theorem dL_law_604 : decode cL_law 604 = .ok (.iload_n 3, 1) := by decide +kernel
theorem dL_law_605 : decode cL_law 605 = .ok (.iconst 2, 1) := by decide +kernel
theorem dL_law_606 : decode cL_law 606 = .ok (.iadd, 1) := by decide +kernel
theorem dL_law_607 : decode cL_law 607 = .ok (.iaload, 1) := by decide +kernel
theorem dL_law_608 : decode cL_law 608 = .ok (.aload_n 0, 1) := by decide +kernel
theorem dL_law_609 : decode cL_law 609 = .ok (.iload_n 3, 1) := by decide +kernel
theorem dL_law_610 : decode cL_law 610 = .ok (.iconst 3, 1) := by decide +kernel
theorem dL_law_611 : decode cL_law 611 = .ok (.iadd, 1) := by decide +kernel
theorem dL_law_612 : decode cL_law 612 = .ok (.iaload, 1) := by decide +kernel
theorem dL_law_613 : decode cL_law 613 = .ok (.ifCond .eq 7, 3) := by decide +kernel
theorem dL_law_616 : decode cL_law 616 = .ok (.iconst 1, 1) := by decide +kernel
theorem dL_law_617 : decode cL_law 617 = .ok (.goto 4, 3) := by decide +kernel
theorem dL_law_620 : decode cL_law 620 = .ok (.iconst 0, 1) := by decide +kernel
theorem dL_law_621 : decode cL_law 621 = .ok (.invokevirtual 85, 3) := by decide +kernel
theorem dL_law_624 : decode cL_law 624 = .ok (.aload_n 2, 1) := by decide +kernel
theorem dL_law_625 : decode cL_law 625 = .ok (.aload_n 0, 1) := by decide +kernel
theorem dL_law_626 : decode cL_law 626 = .ok (.iload_n 3, 1) := by decide +kernel
theorem dL_law_627 : decode cL_law 627 = .ok (.iconst 1, 1) := by decide +kernel
theorem dL_law_628 : decode cL_law 628 = .ok (.iadd, 1) := by decide +kernel
theorem dL_law_629 : decode cL_law 629 = .ok (.iaload, 1) := by decide +kernel
theorem dL_law_630 : decode cL_law 630 = .ok (.aload_n 0, 1) := by decide +kernel
theorem dL_law_631 : decode cL_law 631 = .ok (.iload_n 3, 1) := by decide +kernel
theorem dL_law_632 : decode cL_law 632 = .ok (.iconst 2, 1) := by decide +kernel
theorem dL_law_633 : decode cL_law 633 = .ok (.iadd, 1) := by decide +kernel
theorem dL_law_634 : decode cL_law 634 = .ok (.iaload, 1) := by decide +kernel
theorem dL_law_635 : decode cL_law 635 = .ok (.aload_n 0, 1) := by decide +kernel
theorem dL_law_636 : decode cL_law 636 = .ok (.iload_n 3, 1) := by decide +kernel
theorem dL_law_637 : decode cL_law 637 = .ok (.iconst 3, 1) := by decide +kernel
theorem dL_law_638 : decode cL_law 638 = .ok (.iadd, 1) := by decide +kernel
theorem dL_law_639 : decode cL_law 639 = .ok (.iaload, 1) := by decide +kernel
theorem dL_law_640 : decode cL_law 640 = .ok (.ifCond .eq 7, 3) := by decide +kernel
theorem dL_law_643 : decode cL_law 643 = .ok (.iconst 1, 1) := by decide +kernel
theorem dL_law_644 : decode cL_law 644 = .ok (.goto 4, 3) := by decide +kernel
theorem dL_law_647 : decode cL_law 647 = .ok (.iconst 0, 1) := by decide +kernel
theorem dL_law_648 : decode cL_law 648 = .ok (.invokevirtual 89, 3) := by decide +kernel
theorem dL_law_651 : decode cL_law 651 = .ok (.if_icmp .eq 282, 3) := by decide +kernel
theorem dL_law_654 : decode cL_law 654 = .ok (.iconst 0, 1) := by decide +kernel
theorem dL_law_655 : decode cL_law 655 = .ok (.ireturn, 1) := by decide +kernel
theorem dL_law_656 : decode cL_law 656 = .ok (.aload_n 1, 1) := by decide +kernel
theorem dL_law_657 : decode cL_law 657 = .ok (.invokevirtual 90, 3) := by decide +kernel
theorem dL_law_660 : decode cL_law 660 = .ok (.aload_n 2, 1) := by decide +kernel
theorem dL_law_661 : decode cL_law 661 = .ok (.invokevirtual 93, 3) := by decide +kernel
theorem dL_law_664 : decode cL_law 664 = .ok (.if_icmp .eq 269, 3) := by decide +kernel
theorem dL_law_667 : decode cL_law 667 = .ok (.iconst 0, 1) := by decide +kernel
theorem dL_law_668 : decode cL_law 668 = .ok (.ireturn, 1) := by decide +kernel
theorem dL_law_669 : decode cL_law 669 = .ok (.aload_n 1, 1) := by decide +kernel
theorem dL_law_670 : decode cL_law 670 = .ok (.aload_n 0, 1) := by decide +kernel
theorem dL_law_671 : decode cL_law 671 = .ok (.iload_n 3, 1) := by decide +kernel
theorem dL_law_672 : decode cL_law 672 = .ok (.iconst 1, 1) := by decide +kernel
theorem dL_law_673 : decode cL_law 673 = .ok (.iadd, 1) := by decide +kernel
theorem dL_law_674 : decode cL_law 674 = .ok (.iaload, 1) := by decide +kernel
theorem dL_law_675 : decode cL_law 675 = .ok (.invokevirtual 94, 3) := by decide +kernel
theorem dL_law_678 : decode cL_law 678 = .ok (.aload_n 2, 1) := by decide +kernel
theorem dL_law_679 : decode cL_law 679 = .ok (.aload_n 0, 1) := by decide +kernel
theorem dL_law_680 : decode cL_law 680 = .ok (.iload_n 3, 1) := by decide +kernel
theorem dL_law_681 : decode cL_law 681 = .ok (.iconst 1, 1) := by decide +kernel
theorem dL_law_682 : decode cL_law 682 = .ok (.iadd, 1) := by decide +kernel
theorem dL_law_683 : decode cL_law 683 = .ok (.iaload, 1) := by decide +kernel
theorem dL_law_684 : decode cL_law 684 = .ok (.invokevirtual 97, 3) := by decide +kernel
theorem dL_law_687 : decode cL_law 687 = .ok (.if_icmp .eq 246, 3) := by decide +kernel
theorem dL_law_690 : decode cL_law 690 = .ok (.iconst 0, 1) := by decide +kernel
theorem dL_law_691 : decode cL_law 691 = .ok (.ireturn, 1) := by decide +kernel
theorem dL_law_692 : decode cL_law 692 = .ok (.aload_n 1, 1) := by decide +kernel
theorem dL_law_693 : decode cL_law 693 = .ok (.aload_n 0, 1) := by decide +kernel
theorem dL_law_694 : decode cL_law 694 = .ok (.iload_n 3, 1) := by decide +kernel
theorem dL_law_695 : decode cL_law 695 = .ok (.iconst 1, 1) := by decide +kernel
theorem dL_law_696 : decode cL_law 696 = .ok (.iadd, 1) := by decide +kernel
theorem dL_law_697 : decode cL_law 697 = .ok (.iaload, 1) := by decide +kernel
theorem dL_law_698 : decode cL_law 698 = .ok (.aload_n 0, 1) := by decide +kernel
theorem dL_law_699 : decode cL_law 699 = .ok (.iload_n 3, 1) := by decide +kernel
theorem dL_law_700 : decode cL_law 700 = .ok (.iconst 2, 1) := by decide +kernel
theorem dL_law_701 : decode cL_law 701 = .ok (.iadd, 1) := by decide +kernel
theorem dL_law_702 : decode cL_law 702 = .ok (.iaload, 1) := by decide +kernel
theorem dL_law_703 : decode cL_law 703 = .ok (.aload_n 0, 1) := by decide +kernel
theorem dL_law_704 : decode cL_law 704 = .ok (.iload_n 3, 1) := by decide +kernel
theorem dL_law_705 : decode cL_law 705 = .ok (.iconst 3, 1) := by decide +kernel
theorem dL_law_706 : decode cL_law 706 = .ok (.iadd, 1) := by decide +kernel
theorem dL_law_707 : decode cL_law 707 = .ok (.iaload, 1) := by decide +kernel
theorem dL_law_708 : decode cL_law 708 = .ok (.aload_n 0, 1) := by decide +kernel
theorem dL_law_709 : decode cL_law 709 = .ok (.iload_n 3, 1) := by decide +kernel
theorem dL_law_710 : decode cL_law 710 = .ok (.iconst 4, 1) := by decide +kernel
theorem dL_law_711 : decode cL_law 711 = .ok (.iadd, 1) := by decide +kernel
theorem dL_law_712 : decode cL_law 712 = .ok (.iaload, 1) := by decide +kernel
theorem dL_law_713 : decode cL_law 713 = .ok (.invokevirtual 98, 3) := by decide +kernel
theorem dL_law_716 : decode cL_law 716 = .ok (.aload_n 2, 1) := by decide +kernel
theorem dL_law_717 : decode cL_law 717 = .ok (.aload_n 0, 1) := by decide +kernel
theorem dL_law_718 : decode cL_law 718 = .ok (.iload_n 3, 1) := by decide +kernel
theorem dL_law_719 : decode cL_law 719 = .ok (.iconst 1, 1) := by decide +kernel
theorem dL_law_720 : decode cL_law 720 = .ok (.iadd, 1) := by decide +kernel
theorem dL_law_721 : decode cL_law 721 = .ok (.iaload, 1) := by decide +kernel
theorem dL_law_722 : decode cL_law 722 = .ok (.aload_n 0, 1) := by decide +kernel
theorem dL_law_723 : decode cL_law 723 = .ok (.iload_n 3, 1) := by decide +kernel
theorem dL_law_724 : decode cL_law 724 = .ok (.iconst 2, 1) := by decide +kernel
theorem dL_law_725 : decode cL_law 725 = .ok (.iadd, 1) := by decide +kernel
theorem dL_law_726 : decode cL_law 726 = .ok (.iaload, 1) := by decide +kernel
theorem dL_law_727 : decode cL_law 727 = .ok (.aload_n 0, 1) := by decide +kernel
theorem dL_law_728 : decode cL_law 728 = .ok (.iload_n 3, 1) := by decide +kernel
theorem dL_law_729 : decode cL_law 729 = .ok (.iconst 3, 1) := by decide +kernel
theorem dL_law_730 : decode cL_law 730 = .ok (.iadd, 1) := by decide +kernel
theorem dL_law_731 : decode cL_law 731 = .ok (.iaload, 1) := by decide +kernel
theorem dL_law_732 : decode cL_law 732 = .ok (.aload_n 0, 1) := by decide +kernel
theorem dL_law_733 : decode cL_law 733 = .ok (.iload_n 3, 1) := by decide +kernel
theorem dL_law_734 : decode cL_law 734 = .ok (.iconst 4, 1) := by decide +kernel
theorem dL_law_735 : decode cL_law 735 = .ok (.iadd, 1) := by decide +kernel
theorem dL_law_736 : decode cL_law 736 = .ok (.iaload, 1) := by decide +kernel
theorem dL_law_737 : decode cL_law 737 = .ok (.invokevirtual 102, 3) := by decide +kernel
theorem dL_law_740 : decode cL_law 740 = .ok (.if_icmp .eq 193, 3) := by decide +kernel
theorem dL_law_743 : decode cL_law 743 = .ok (.iconst 0, 1) := by decide +kernel
theorem dL_law_744 : decode cL_law 744 = .ok (.ireturn, 1) := by decide +kernel
theorem dL_law_745 : decode cL_law 745 = .ok (.aload_n 1, 1) := by decide +kernel
theorem dL_law_746 : decode cL_law 746 = .ok (.aload_n 0, 1) := by decide +kernel
theorem dL_law_747 : decode cL_law 747 = .ok (.iload_n 3, 1) := by decide +kernel
theorem dL_law_748 : decode cL_law 748 = .ok (.iconst 1, 1) := by decide +kernel
theorem dL_law_749 : decode cL_law 749 = .ok (.iadd, 1) := by decide +kernel
theorem dL_law_750 : decode cL_law 750 = .ok (.iaload, 1) := by decide +kernel
theorem dL_law_751 : decode cL_law 751 = .ok (.aload_n 0, 1) := by decide +kernel
theorem dL_law_752 : decode cL_law 752 = .ok (.iload_n 3, 1) := by decide +kernel
theorem dL_law_753 : decode cL_law 753 = .ok (.iconst 2, 1) := by decide +kernel
theorem dL_law_754 : decode cL_law 754 = .ok (.iadd, 1) := by decide +kernel
theorem dL_law_755 : decode cL_law 755 = .ok (.iaload, 1) := by decide +kernel
theorem dL_law_756 : decode cL_law 756 = .ok (.aload_n 0, 1) := by decide +kernel
theorem dL_law_757 : decode cL_law 757 = .ok (.iload_n 3, 1) := by decide +kernel
theorem dL_law_758 : decode cL_law 758 = .ok (.iconst 3, 1) := by decide +kernel
theorem dL_law_759 : decode cL_law 759 = .ok (.iadd, 1) := by decide +kernel
theorem dL_law_760 : decode cL_law 760 = .ok (.iaload, 1) := by decide +kernel
theorem dL_law_761 : decode cL_law 761 = .ok (.invokevirtual 103, 3) := by decide +kernel
theorem dL_law_764 : decode cL_law 764 = .ok (.aload_n 2, 1) := by decide +kernel
theorem dL_law_765 : decode cL_law 765 = .ok (.aload_n 0, 1) := by decide +kernel
theorem dL_law_766 : decode cL_law 766 = .ok (.iload_n 3, 1) := by decide +kernel
theorem dL_law_767 : decode cL_law 767 = .ok (.iconst 1, 1) := by decide +kernel
theorem dL_law_768 : decode cL_law 768 = .ok (.iadd, 1) := by decide +kernel
theorem dL_law_769 : decode cL_law 769 = .ok (.iaload, 1) := by decide +kernel
theorem dL_law_770 : decode cL_law 770 = .ok (.aload_n 0, 1) := by decide +kernel
theorem dL_law_771 : decode cL_law 771 = .ok (.iload_n 3, 1) := by decide +kernel
theorem dL_law_772 : decode cL_law 772 = .ok (.iconst 2, 1) := by decide +kernel
theorem dL_law_773 : decode cL_law 773 = .ok (.iadd, 1) := by decide +kernel
theorem dL_law_774 : decode cL_law 774 = .ok (.iaload, 1) := by decide +kernel
theorem dL_law_775 : decode cL_law 775 = .ok (.aload_n 0, 1) := by decide +kernel
theorem dL_law_776 : decode cL_law 776 = .ok (.iload_n 3, 1) := by decide +kernel
theorem dL_law_777 : decode cL_law 777 = .ok (.iconst 3, 1) := by decide +kernel
theorem dL_law_778 : decode cL_law 778 = .ok (.iadd, 1) := by decide +kernel
theorem dL_law_779 : decode cL_law 779 = .ok (.iaload, 1) := by decide +kernel
theorem dL_law_780 : decode cL_law 780 = .ok (.invokevirtual 106, 3) := by decide +kernel
theorem dL_law_783 : decode cL_law 783 = .ok (.if_icmp .eq 150, 3) := by decide +kernel
theorem dL_law_786 : decode cL_law 786 = .ok (.iconst 0, 1) := by decide +kernel
theorem dL_law_787 : decode cL_law 787 = .ok (.ireturn, 1) := by decide +kernel
theorem dL_law_788 : decode cL_law 788 = .ok (.aload_n 1, 1) := by decide +kernel
theorem dL_law_789 : decode cL_law 789 = .ok (.aload_n 0, 1) := by decide +kernel
theorem dL_law_790 : decode cL_law 790 = .ok (.iload_n 3, 1) := by decide +kernel
theorem dL_law_791 : decode cL_law 791 = .ok (.iconst 1, 1) := by decide +kernel
theorem dL_law_792 : decode cL_law 792 = .ok (.iadd, 1) := by decide +kernel
theorem dL_law_793 : decode cL_law 793 = .ok (.iaload, 1) := by decide +kernel
theorem dL_law_794 : decode cL_law 794 = .ok (.aload_n 0, 1) := by decide +kernel
theorem dL_law_795 : decode cL_law 795 = .ok (.iload_n 3, 1) := by decide +kernel
theorem dL_law_796 : decode cL_law 796 = .ok (.iconst 2, 1) := by decide +kernel
theorem dL_law_797 : decode cL_law 797 = .ok (.iadd, 1) := by decide +kernel
theorem dL_law_798 : decode cL_law 798 = .ok (.iaload, 1) := by decide +kernel
theorem dL_law_799 : decode cL_law 799 = .ok (.aload_n 0, 1) := by decide +kernel
theorem dL_law_800 : decode cL_law 800 = .ok (.iload_n 3, 1) := by decide +kernel
theorem dL_law_801 : decode cL_law 801 = .ok (.iconst 3, 1) := by decide +kernel
theorem dL_law_802 : decode cL_law 802 = .ok (.iadd, 1) := by decide +kernel
theorem dL_law_803 : decode cL_law 803 = .ok (.iaload, 1) := by decide +kernel
theorem dL_law_804 : decode cL_law 804 = .ok (.aload_n 0, 1) := by decide +kernel
theorem dL_law_805 : decode cL_law 805 = .ok (.iload_n 3, 1) := by decide +kernel
theorem dL_law_806 : decode cL_law 806 = .ok (.iconst 4, 1) := by decide +kernel
theorem dL_law_807 : decode cL_law 807 = .ok (.iadd, 1) := by decide +kernel
theorem dL_law_808 : decode cL_law 808 = .ok (.iaload, 1) := by decide +kernel
theorem dL_law_809 : decode cL_law 809 = .ok (.aload_n 0, 1) := by decide +kernel
theorem dL_law_810 : decode cL_law 810 = .ok (.iload_n 3, 1) := by decide +kernel
theorem dL_law_811 : decode cL_law 811 = .ok (.iconst 5, 1) := by decide +kernel
theorem dL_law_812 : decode cL_law 812 = .ok (.iadd, 1) := by decide +kernel
theorem dL_law_813 : decode cL_law 813 = .ok (.iaload, 1) := by decide +kernel
theorem dL_law_814 : decode cL_law 814 = .ok (.invokevirtual 107, 3) := by decide +kernel
theorem dL_law_817 : decode cL_law 817 = .ok (.aload_n 2, 1) := by decide +kernel
theorem dL_law_818 : decode cL_law 818 = .ok (.aload_n 0, 1) := by decide +kernel
theorem dL_law_819 : decode cL_law 819 = .ok (.iload_n 3, 1) := by decide +kernel
theorem dL_law_820 : decode cL_law 820 = .ok (.iconst 1, 1) := by decide +kernel
theorem dL_law_821 : decode cL_law 821 = .ok (.iadd, 1) := by decide +kernel
theorem dL_law_822 : decode cL_law 822 = .ok (.iaload, 1) := by decide +kernel
theorem dL_law_823 : decode cL_law 823 = .ok (.aload_n 0, 1) := by decide +kernel
theorem dL_law_824 : decode cL_law 824 = .ok (.iload_n 3, 1) := by decide +kernel
theorem dL_law_825 : decode cL_law 825 = .ok (.iconst 2, 1) := by decide +kernel
theorem dL_law_826 : decode cL_law 826 = .ok (.iadd, 1) := by decide +kernel
theorem dL_law_827 : decode cL_law 827 = .ok (.iaload, 1) := by decide +kernel
theorem dL_law_828 : decode cL_law 828 = .ok (.aload_n 0, 1) := by decide +kernel
theorem dL_law_829 : decode cL_law 829 = .ok (.iload_n 3, 1) := by decide +kernel
theorem dL_law_830 : decode cL_law 830 = .ok (.iconst 3, 1) := by decide +kernel
theorem dL_law_831 : decode cL_law 831 = .ok (.iadd, 1) := by decide +kernel
theorem dL_law_832 : decode cL_law 832 = .ok (.iaload, 1) := by decide +kernel
theorem dL_law_833 : decode cL_law 833 = .ok (.aload_n 0, 1) := by decide +kernel
theorem dL_law_834 : decode cL_law 834 = .ok (.iload_n 3, 1) := by decide +kernel
theorem dL_law_835 : decode cL_law 835 = .ok (.iconst 4, 1) := by decide +kernel
theorem dL_law_836 : decode cL_law 836 = .ok (.iadd, 1) := by decide +kernel
theorem dL_law_837 : decode cL_law 837 = .ok (.iaload, 1) := by decide +kernel
theorem dL_law_838 : decode cL_law 838 = .ok (.aload_n 0, 1) := by decide +kernel
theorem dL_law_839 : decode cL_law 839 = .ok (.iload_n 3, 1) := by decide +kernel
theorem dL_law_840 : decode cL_law 840 = .ok (.iconst 5, 1) := by decide +kernel
theorem dL_law_841 : decode cL_law 841 = .ok (.iadd, 1) := by decide +kernel
theorem dL_law_842 : decode cL_law 842 = .ok (.iaload, 1) := by decide +kernel
theorem dL_law_843 : decode cL_law 843 = .ok (.invokevirtual 111, 3) := by decide +kernel
theorem dL_law_846 : decode cL_law 846 = .ok (.if_icmp .eq 87, 3) := by decide +kernel
theorem dL_law_849 : decode cL_law 849 = .ok (.iconst 0, 1) := by decide +kernel
theorem dL_law_850 : decode cL_law 850 = .ok (.ireturn, 1) := by decide +kernel
theorem dL_law_851 : decode cL_law 851 = .ok (.aload_n 1, 1) := by decide +kernel
theorem dL_law_852 : decode cL_law 852 = .ok (.aload_n 0, 1) := by decide +kernel
theorem dL_law_853 : decode cL_law 853 = .ok (.iload_n 3, 1) := by decide +kernel
theorem dL_law_854 : decode cL_law 854 = .ok (.iconst 1, 1) := by decide +kernel
theorem dL_law_855 : decode cL_law 855 = .ok (.iadd, 1) := by decide +kernel
theorem dL_law_856 : decode cL_law 856 = .ok (.iaload, 1) := by decide +kernel
theorem dL_law_857 : decode cL_law 857 = .ok (.aload_n 0, 1) := by decide +kernel
theorem dL_law_858 : decode cL_law 858 = .ok (.iload_n 3, 1) := by decide +kernel
theorem dL_law_859 : decode cL_law 859 = .ok (.iconst 2, 1) := by decide +kernel
theorem dL_law_860 : decode cL_law 860 = .ok (.iadd, 1) := by decide +kernel
theorem dL_law_861 : decode cL_law 861 = .ok (.iaload, 1) := by decide +kernel
theorem dL_law_862 : decode cL_law 862 = .ok (.invokevirtual 112, 3) := by decide +kernel
theorem dL_law_865 : decode cL_law 865 = .ok (.aload_n 2, 1) := by decide +kernel
theorem dL_law_866 : decode cL_law 866 = .ok (.aload_n 0, 1) := by decide +kernel
theorem dL_law_867 : decode cL_law 867 = .ok (.iload_n 3, 1) := by decide +kernel
theorem dL_law_868 : decode cL_law 868 = .ok (.iconst 1, 1) := by decide +kernel
theorem dL_law_869 : decode cL_law 869 = .ok (.iadd, 1) := by decide +kernel
theorem dL_law_870 : decode cL_law 870 = .ok (.iaload, 1) := by decide +kernel
theorem dL_law_871 : decode cL_law 871 = .ok (.aload_n 0, 1) := by decide +kernel
theorem dL_law_872 : decode cL_law 872 = .ok (.iload_n 3, 1) := by decide +kernel
theorem dL_law_873 : decode cL_law 873 = .ok (.iconst 2, 1) := by decide +kernel
theorem dL_law_874 : decode cL_law 874 = .ok (.iadd, 1) := by decide +kernel
theorem dL_law_875 : decode cL_law 875 = .ok (.iaload, 1) := by decide +kernel
theorem dL_law_876 : decode cL_law 876 = .ok (.invokevirtual 115, 3) := by decide +kernel
theorem dL_law_879 : decode cL_law 879 = .ok (.if_icmp .eq 54, 3) := by decide +kernel
theorem dL_law_882 : decode cL_law 882 = .ok (.iconst 0, 1) := by decide +kernel
theorem dL_law_883 : decode cL_law 883 = .ok (.ireturn, 1) := by decide +kernel
theorem dL_law_884 : decode cL_law 884 = .ok (.aload_n 1, 1) := by decide +kernel
theorem dL_law_885 : decode cL_law 885 = .ok (.invokevirtual 116, 3) := by decide +kernel
theorem dL_law_888 : decode cL_law 888 = .ok (.aload_n 2, 1) := by decide +kernel
theorem dL_law_889 : decode cL_law 889 = .ok (.invokevirtual 119, 3) := by decide +kernel
theorem dL_law_892 : decode cL_law 892 = .ok (.if_icmp .eq 41, 3) := by decide +kernel
theorem dL_law_895 : decode cL_law 895 = .ok (.iconst 0, 1) := by decide +kernel
theorem dL_law_896 : decode cL_law 896 = .ok (.ireturn, 1) := by decide +kernel
theorem dL_law_897 : decode cL_law 897 = .ok (.aload_n 1, 1) := by decide +kernel
theorem dL_law_898 : decode cL_law 898 = .ok (.invokevirtual 120, 3) := by decide +kernel
theorem dL_law_901 : decode cL_law 901 = .ok (.aload_n 2, 1) := by decide +kernel
theorem dL_law_902 : decode cL_law 902 = .ok (.invokevirtual 123, 3) := by decide +kernel
theorem dL_law_905 : decode cL_law 905 = .ok (.if_icmp .eq 28, 3) := by decide +kernel
theorem dL_law_908 : decode cL_law 908 = .ok (.iconst 0, 1) := by decide +kernel
theorem dL_law_909 : decode cL_law 909 = .ok (.ireturn, 1) := by decide +kernel
theorem dL_law_910 : decode cL_law 910 = .ok (.aload_n 1, 1) := by decide +kernel
theorem dL_law_911 : decode cL_law 911 = .ok (.aload_n 0, 1) := by decide +kernel
theorem dL_law_912 : decode cL_law 912 = .ok (.iload_n 3, 1) := by decide +kernel
theorem dL_law_913 : decode cL_law 913 = .ok (.iconst 1, 1) := by decide +kernel
theorem dL_law_914 : decode cL_law 914 = .ok (.iadd, 1) := by decide +kernel
theorem dL_law_915 : decode cL_law 915 = .ok (.iaload, 1) := by decide +kernel
theorem dL_law_916 : decode cL_law 916 = .ok (.invokevirtual 124, 3) := by decide +kernel
theorem dL_law_919 : decode cL_law 919 = .ok (.aload_n 2, 1) := by decide +kernel
theorem dL_law_920 : decode cL_law 920 = .ok (.aload_n 0, 1) := by decide +kernel
theorem dL_law_921 : decode cL_law 921 = .ok (.iload_n 3, 1) := by decide +kernel
theorem dL_law_922 : decode cL_law 922 = .ok (.iconst 1, 1) := by decide +kernel
theorem dL_law_923 : decode cL_law 923 = .ok (.iadd, 1) := by decide +kernel
theorem dL_law_924 : decode cL_law 924 = .ok (.iaload, 1) := by decide +kernel
theorem dL_law_925 : decode cL_law 925 = .ok (.invokevirtual 127, 3) := by decide +kernel
theorem dL_law_928 : decode cL_law 928 = .ok (.if_icmp .eq 5, 3) := by decide +kernel
theorem dL_law_931 : decode cL_law 931 = .ok (.iconst 0, 1) := by decide +kernel
theorem dL_law_932 : decode cL_law 932 = .ok (.ireturn, 1) := by decide +kernel
theorem dL_law_933 : decode cL_law 933 = .ok (.iinc 3 6, 3) := by decide +kernel
theorem dL_law_936 : decode cL_law 936 = .ok (.goto (-918), 3) := by decide +kernel
theorem dL_law_939 : decode cL_law 939 = .ok (.iconst 1, 1) := by decide +kernel
theorem dL_law_940 : decode cL_law 940 = .ok (.ireturn, 1) := by decide +kernel
