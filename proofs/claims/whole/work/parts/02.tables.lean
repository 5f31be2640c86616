def RX0 : String := "CubeHops$Cube"
def TX0 : u_T := fun k => match k with
  | 0 => ("CubeHops$Cube", "kind", "[I", true)
  | 1 => ("CubeHops$Cube", "corner", "[I", true)
  | 2 => ("CubeHops$Cube", "goal", "[I", true)
  | 3 => ("CubeHops$Cube", "lastWay", "[I", true)
  | 4 => ("CubeHops$Cube", "size", "I", false)
  | 5 => ("CubeHops$Cube", "broken", "J", false)
  | 6 => ("CubeHops$Cube", "number", "I", false)
  | 7 => ("CubeHops$Cube", "hops", "I", false)
  | 8 => ("CubeHops$Cube", "lastAway", "I", false)
  | _ => ("CubeHops$Cube", "gone", "I", false)
def tyX0 : Nat → FieldType := fun k => match k with
  | 0 => .array .int
  | 1 => .array .int
  | 2 => .array .int
  | 3 => .array .int
  | 4 => .int
  | 5 => .long
  | 6 => .int
  | 7 => .int
  | 8 => .int
  | _ => .int
abbrev wsX00 : List Cond := u_ws RX0 TX0 10
theorem nmX0 : ∀ a, a < 10 → ∀ b, b < 10 → a ≠ b → (TX0 a).2.1 ≠ (TX0 b).2.1 := by decide +kernel
theorem tyX0_ok : ∀ k, k < 10 → parseFieldDescriptor (TX0 k).2.2.1 = some (tyX0 k) := by decide +kernel
def RX1 : String := "CubeHops$Parting"
def TX1 : u_T := fun k => match k with
  | 0 => ("CubeHops$Parting", "met", "[I", true)
  | 1 => ("CubeHops$Parting", "cameBy", "[I", true)
  | _ => ("CubeHops$Parting", "used", "J", false)
def tyX1 : Nat → FieldType := fun k => match k with
  | 0 => .array .int
  | 1 => .array .int
  | _ => .long
abbrev wsX10 : List Cond := u_ws RX1 TX1 3
theorem nmX1 : ∀ a, a < 3 → ∀ b, b < 3 → a ≠ b → (TX1 a).2.1 ≠ (TX1 b).2.1 := by decide +kernel
theorem tyX1_ok : ∀ k, k < 3 → parseFieldDescriptor (TX1 k).2.2.1 = some (tyX1 k) := by decide +kernel
def RX2 : String := "CubeHops$Strip"
def TX2 : u_T := fun k => match k with
  | 0 => ("CubeHops$Strip", "places", "[I", true)
  | _ => ("CubeHops$Strip", "size", "I", false)
def tyX2 : Nat → FieldType := fun k => match k with
  | 0 => .array .int
  | _ => .int
abbrev wsX20 : List Cond := u_ws RX2 TX2 2
theorem nmX2 : ∀ a, a < 2 → ∀ b, b < 2 → a ≠ b → (TX2 a).2.1 ≠ (TX2 b).2.1 := by decide +kernel
theorem tyX2_ok : ∀ k, k < 2 → parseFieldDescriptor (TX2 k).2.2.1 = some (tyX2 k) := by decide +kernel
def RX3 : String := "CubeHops$Web"
def TX3 : u_T := fun k => match k with
  | _ => ("", "", "", false)
def tyX3 : Nat → FieldType := fun k => match k with
  | _ => .int
abbrev wsX30 : List Cond := u_ws RX3 TX3 0
theorem nmX3 : ∀ a, a < 0 → ∀ b, b < 0 → a ≠ b → (TX3 a).2.1 ≠ (TX3 b).2.1 := by decide +kernel
theorem tyX3_ok : ∀ k, k < 0 → parseFieldDescriptor (TX3 k).2.2.1 = some (tyX3 k) := by decide +kernel
def RX4 : String := "CubeHops"
def TX4 : u_T := fun k => match k with
  | 0 => ("CubeHops", "rows", "[LCubeHops$Strip;", true)
  | 1 => ("CubeHops", "texts", "[LCubeHops$Strip;", true)
  | 2 => ("CubeHops", "deeds", "LCubeHops$Strip;", true)
  | 3 => ("CubeHops", "kept", "[LCubeHops$Strip;", true)
  | 4 => ("CubeHops", "start", "LCubeHops$Cube;", true)
  | 5 => ("CubeHops", "now", "LCubeHops$Cube;", true)
  | 6 => ("CubeHops", "aside", "LCubeHops$Cube;", true)
  | 7 => ("CubeHops", "parting", "LCubeHops$Parting;", true)
  | 8 => ("CubeHops", "uses", "[I", true)
  | 9 => ("CubeHops", "looks", "[[I", true)
  | 10 => ("CubeHops", "findingCounts", "[I", true)
  | 11 => ("CubeHops", "latestFinding", "I", false)
  | 12 => ("CubeHops", "told", "I", false)
  | 13 => ("CubeHops", "upperTold", "J", false)
  | _ => ("CubeHops", "lowerTold", "J", false)
def tyX4 : Nat → FieldType := fun k => match k with
  | 0 => .array (.object "CubeHops$Strip")
  | 1 => .array (.object "CubeHops$Strip")
  | 2 => .object "CubeHops$Strip"
  | 3 => .array (.object "CubeHops$Strip")
  | 4 => .object "CubeHops$Cube"
  | 5 => .object "CubeHops$Cube"
  | 6 => .object "CubeHops$Cube"
  | 7 => .object "CubeHops$Parting"
  | 8 => .array .int
  | 9 => .array (.array .int)
  | 10 => .array .int
  | 11 => .int
  | 12 => .int
  | 13 => .long
  | _ => .long
abbrev wsX40 : List Cond := u_ws RX4 TX4 15
theorem nmX4 : ∀ a, a < 15 → ∀ b, b < 15 → a ≠ b → (TX4 a).2.1 ≠ (TX4 b).2.1 := by decide +kernel
theorem tyX4_ok : ∀ k, k < 15 → parseFieldDescriptor (TX4 k).2.2.1 = some (tyX4 k) := by decide +kernel
def RX5 : String := "CubeHopsModel"
def TX5 : u_T := fun k => match k with
  | 0 => ("CubeHopsModel", "rowSize", "[I", true)
  | 1 => ("CubeHopsModel", "rowItem", "[I", true)
  | 2 => ("CubeHopsModel", "textSize", "[I", true)
  | 3 => ("CubeHopsModel", "textItem", "[I", true)
  | 4 => ("CubeHopsModel", "findingNow", "I", false)
  | 5 => ("CubeHopsModel", "findingMany", "[I", true)
  | 6 => ("CubeHopsModel", "askedNow", "I", false)
  | 7 => ("CubeHopsModel", "upperNow", "J", false)
  | 8 => ("CubeHopsModel", "lowerNow", "J", false)
  | 9 => ("CubeHopsModel", "position", "I", false)
  | 10 => ("CubeHopsModel", "from", "I", false)
  | 11 => ("CubeHopsModel", "all", "I", false)
  | 12 => ("CubeHopsModel", "readMany", "I", false)
  | 13 => ("CubeHopsModel", "readMessage", "[I", true)
  | 14 => ("CubeHopsModel", "many", "I", false)
  | 15 => ("CubeHopsModel", "sort", "[I", true)
  | 16 => ("CubeHopsModel", "now", "[I", true)
  | 17 => ("CubeHopsModel", "deed", "[I", true)
  | 18 => ("CubeHopsModel", "deeds", "I", false)
  | 19 => ("CubeHopsModel", "keptNow", "[I", true)
  | 20 => ("CubeHopsModel", "keptDeed", "[I", true)
  | 21 => ("CubeHopsModel", "keptMany", "[I", true)
  | 22 => ("CubeHopsModel", "tried", "[I", true)
  | 23 => ("CubeHopsModel", "wish", "[I", true)
  | 24 => ("CubeHopsModel", "used", "[I", true)
  | 25 => ("CubeHopsModel", "away", "[I", true)
  | 26 => ("CubeHopsModel", "queue", "[I", true)
  | 27 => ("CubeHopsModel", "flow", "[I", true)
  | 28 => ("CubeHopsModel", "came", "[I", true)
  | 29 => ("CubeHopsModel", "seenAt", "[I", true)
  | _ => ("CubeHopsModel", "whoOff", "I", false)
def tyX5 : Nat → FieldType := fun k => match k with
  | 0 => .array .int
  | 1 => .array .int
  | 2 => .array .int
  | 3 => .array .int
  | 4 => .int
  | 5 => .array .int
  | 6 => .int
  | 7 => .long
  | 8 => .long
  | 9 => .int
  | 10 => .int
  | 11 => .int
  | 12 => .int
  | 13 => .array .int
  | 14 => .int
  | 15 => .array .int
  | 16 => .array .int
  | 17 => .array .int
  | 18 => .int
  | 19 => .array .int
  | 20 => .array .int
  | 21 => .array .int
  | 22 => .array .int
  | 23 => .array .int
  | 24 => .array .int
  | 25 => .array .int
  | 26 => .array .int
  | 27 => .array .int
  | 28 => .array .int
  | 29 => .array .int
  | _ => .int
abbrev wsX50 : List Cond := u_ws RX5 TX5 31
theorem nmX5 : ∀ a, a < 31 → ∀ b, b < 31 → a ≠ b → (TX5 a).2.1 ≠ (TX5 b).2.1 := by decide +kernel
theorem tyX5_ok : ∀ k, k < 31 → parseFieldDescriptor (TX5 k).2.2.1 = some (tyX5 k) := by decide +kernel
def RL : String := "CubeHopsLaw"
abbrev vwCl : List vw_C := [(RX0, TX0, 10), (RX1, TX1, 3), (RX2, TX2, 2), (RX4, TX4, 15), (RX5, TX5, 31)]
abbrev zM : Type := MethodName × ByteArray × Nat × Option FieldType × Nat × Nat × Nat
def zProg_0 : List zM := [(⟨"CubeHops", "<init>", "()V"⟩, prog_1_method_1_code, 2, none, 3, 65, 0),
  (⟨"CubeHops$Strip", "<init>", "(I)V"⟩, prog_4_method_1_code, 2, none, 2, 74, 1),
  (⟨"CubeHops$Cube", "<init>", "()V"⟩, prog_2_method_1_code, 1, none, 0, 92, 0),
  (⟨"CubeHops$Parting", "<init>", "()V"⟩, prog_3_method_1_code, 1, none, 1, 138, 0),
  (⟨"CubeHops$Strip", "renew", "(II)V"⟩, prog_4_method_4_code, 4, none, 2, 155, 2),
  (⟨"CubeHops", "row", "(II)I"⟩, prog_1_method_2_code, 3, (some .int), 3, 208, 2),
  (⟨"CubeHops", "isRow", "(I)Z"⟩, prog_1_method_49_code, 1, (some .boolean), 3, 211, 1),
  (⟨"CubeHops", "found", "(I)I"⟩, prog_1_method_44_code, 2, (some .int), 3, 215, 1),
  (⟨"CubeHops", "lay", "(III)I"⟩, prog_1_method_3_code, 5, (some .int), 3, 219, 3),
  (⟨"CubeHops", "refusePlace", "(LCubeHops$Strip;I)I"⟩, prog_1_method_45_code, 3, (some .int), 3, 223, 2),
  (⟨"CubeHops$Strip", "isMissing", "()Z"⟩, prog_4_method_2_code, 1, (some .boolean), 2, 227, 0),
  (⟨"CubeHops$Strip", "has", "(I)Z"⟩, prog_4_method_5_code, 2, (some .boolean), 2, 231, 1),
  (⟨"CubeHops$Strip", "set", "(II)I"⟩, prog_4_method_8_code, 4, (some .int), 2, 235, 2),
  (⟨"CubeHops$Strip", "get", "(I)I"⟩, prog_4_method_7_code, 2, (some .int), 2, 239, 1),
  (⟨"CubeHops", "tell", "(II)I"⟩, prog_1_method_46_code, 3, (some .int), 3, 244, 2),
  (⟨"CubeHops", "at", "(II)I"⟩, prog_1_method_4_code, 4, (some .int), 3, 248, 2),
  (⟨"CubeHops", "tear", "(I)I"⟩, prog_1_method_5_code, 2, (some .int), 3, 253, 1),
  (⟨"CubeHops$Strip", "drop", "()V"⟩, prog_4_method_3_code, 1, none, 2, 257, 0),
  (⟨"CubeHops", "copy", "(IIIII)I"⟩, prog_1_method_6_code, 6, (some .int), 3, 261, 5),
  (⟨"CubeHops$Strip", "hasMany", "(II)Z"⟩, prog_4_method_6_code, 3, (some .boolean), 2, 265, 2),
  (⟨"CubeHops$Strip", "takePart", "(LCubeHops$Strip;III)V"⟩, prog_4_method_12_code, 5, none, 2, 269, 4),
  (⟨"CubeHops", "mean", "(I)I"⟩, prog_1_method_7_code, 6, (some .int), 3, 277, 1),
  (⟨"CubeHops", "text", "(II)I"⟩, prog_1_method_8_code, 3, (some .int), 3, 281, 2),
  (⟨"CubeHops", "isText", "(I)Z"⟩, prog_1_method_50_code, 1, (some .boolean), 3, 284, 1)]
def zProg_1 : List zM := [(⟨"CubeHops", "put", "(III)I"⟩, prog_1_method_9_code, 5, (some .int), 3, 288, 3),
  (⟨"CubeHops", "fault", "(I)I"⟩, prog_1_method_10_code, 2, (some .int), 3, 292, 1),
  (⟨"CubeHops", "readCube", "(LCubeHops$Strip;LCubeHops$Cube;)I"⟩, prog_1_method_54_code, 5, (some .int), 3, 295, 2),
  (⟨"CubeHops$Cube", "clear", "()V"⟩, prog_2_method_2_code, 1, none, 0, 299, 0),
  (⟨"CubeHops", "kindOfLetter", "(I)I"⟩, prog_1_method_55_code, 2, (some .int), 3, 302, 1),
  (⟨"CubeHops", "isCorner", "(I)Z"⟩, prog_1_method_51_code, 1, (some .boolean), 3, 307, 1),
  (⟨"CubeHops$Cube", "add", "(III)V"⟩, prog_2_method_3_code, 4, none, 0, 311, 3),
  (⟨"CubeHops", "cube", "(I)I"⟩, prog_1_method_11_code, 3, (some .int), 3, 315, 1),
  (⟨"CubeHops$Cube", "take", "(LCubeHops$Cube;)V"⟩, prog_2_method_4_code, 3, none, 0, 319, 1),
  (⟨"CubeHops", "replay", "()V"⟩, prog_1_method_60_code, 2, none, 3, 323, 0),
  (⟨"CubeHops$Cube", "obey", "(I)V"⟩, prog_2_method_23_code, 3, none, 0, 327, 1),
  (⟨"CubeHops$Cube", "turnOverLink", "(I)V"⟩, prog_2_method_8_code, 2, none, 0, 331, 1),
  (⟨"CubeHops$Web", "arcsOf", "(I)J"⟩, prog_5_method_6_code, 3, (some .long), 5, 334, 1),
  (⟨"CubeHops$Web", "wayOf", "(I)I"⟩, prog_5_method_2_code, 1, (some .int), 5, 337, 1),
  (⟨"CubeHops$Web", "lowerEnd", "(I)I"⟩, prog_5_method_3_code, 3, (some .int), 5, 340, 1),
  (⟨"CubeHops$Web", "arc", "(II)J"⟩, prog_5_method_5_code, 2, (some .long), 5, 343, 2),
  (⟨"CubeHops$Cube", "setGoal", "(II)V"⟩, prog_2_method_9_code, 3, none, 0, 347, 2),
  (⟨"CubeHops$Cube", "hasMessage", "(I)Z"⟩, prog_2_method_5_code, 2, (some .boolean), 0, 351, 1),
  (⟨"CubeHops$Cube", "advance", "()V"⟩, prog_2_method_21_code, 5, none, 0, 355, 0),
  (⟨"CubeHops$Cube", "wishAs", "(III)I"⟩, prog_2_method_16_code, 6, (some .int), 0, 359, 3),
  (⟨"CubeHops$Cube", "highestWay", "(I)I"⟩, prog_2_method_20_code, 2, (some .int), 0, 362, 1),
  (⟨"CubeHops$Cube", "lowestBit", "(I)I"⟩, prog_2_method_19_code, 2, (some .int), 0, 365, 1),
  (⟨"CubeHops$Cube", "dodgingWay", "(I)I"⟩, prog_2_method_17_code, 4, (some .int), 0, 369, 1),
  (⟨"CubeHops$Cube", "wholeWays", "(I)I"⟩, prog_2_method_18_code, 4, (some .int), 0, 373, 1)]
def zProg_2 : List zM := [(⟨"java/lang/Integer", "bitCount", "(I)I"⟩, prog_8_method_49_code, 1, (some .int), 7, 377, 1),
  (⟨"CubeHops", "message", "(II)I"⟩, prog_1_method_12_code, 3, (some .int), 3, 384, 2),
  (⟨"CubeHops$Cube", "fact", "(II)I"⟩, prog_2_method_13_code, 3, (some .int), 0, 389, 2),
  (⟨"CubeHops$Cube", "wish", "(I)I"⟩, prog_2_method_15_code, 2, (some .int), 0, 393, 1),
  (⟨"CubeHops$Cube", "toldWay", "(I)I"⟩, prog_2_method_14_code, 1, (some .int), 0, 396, 1),
  (⟨"CubeHops", "mark", "(II)I"⟩, prog_1_method_13_code, 3, (some .int), 3, 400, 2),
  (⟨"CubeHops", "isOf", "(II)Z"⟩, prog_1_method_53_code, 2, (some .boolean), 3, 403, 2),
  (⟨"CubeHops", "lazyWishes", "(I)I"⟩, prog_1_method_65_code, 4, (some .int), 3, 409, 1),
  (⟨"CubeHops", "link", "(I)I"⟩, prog_1_method_14_code, 4, (some .int), 3, 415, 1),
  (⟨"CubeHops", "isLink", "(I)Z"⟩, prog_1_method_52_code, 1, (some .boolean), 3, 418, 1),
  (⟨"CubeHops$Cube", "isBroken", "(I)Z"⟩, prog_2_method_6_code, 2, (some .boolean), 0, 424, 1),
  (⟨"CubeHops", "step", "()I"⟩, prog_1_method_15_code, 2, (some .int), 3, 428, 0),
  (⟨"CubeHops", "perform", "(I)V"⟩, prog_1_method_59_code, 2, none, 3, 432, 1),
  (⟨"CubeHops$Strip", "append", "(I)V"⟩, prog_4_method_9_code, 2, none, 2, 436, 1),
  (⟨"CubeHops", "snap", "(I)I"⟩, prog_1_method_16_code, 2, (some .int), 3, 440, 1),
  (⟨"CubeHops", "turnOver", "(I)I"⟩, prog_1_method_61_code, 2, (some .int), 3, 444, 1),
  (⟨"CubeHops", "linkDeed", "(I)I"⟩, prog_1_method_56_code, 1, (some .int), 3, 447, 1),
  (⟨"CubeHops$Cube", "howManyBroken", "()I"⟩, prog_2_method_7_code, 1, (some .int), 0, 451, 0),
  (⟨"java/lang/Long", "bitCount", "(J)I"⟩, prog_9_method_50_code, 2, (some .int), 8, 454, 1),
  (⟨"CubeHops", "mend", "(I)I"⟩, prog_1_method_17_code, 2, (some .int), 3, 461, 1),
  (⟨"CubeHops", "aim", "(II)I"⟩, prog_1_method_18_code, 4, (some .int), 3, 465, 2),
  (⟨"CubeHops", "aimDeed", "(II)I"⟩, prog_1_method_57_code, 2, (some .int), 3, 468, 2),
  (⟨"CubeHops", "undo", "(I)I"⟩, prog_1_method_19_code, 3, (some .int), 3, 472, 1),
  (⟨"CubeHops$Strip", "shorten", "(I)V"⟩, prog_4_method_10_code, 2, none, 2, 476, 1)]
def zProg_3 : List zM := [(⟨"CubeHops", "keep", "(I)I"⟩, prog_1_method_20_code, 2, (some .int), 3, 480, 1),
  (⟨"CubeHops$Strip", "take", "(LCubeHops$Strip;)V"⟩, prog_4_method_11_code, 3, none, 2, 484, 1),
  (⟨"CubeHops", "on", "(I)I"⟩, prog_1_method_21_code, 2, (some .int), 3, 488, 1),
  (⟨"CubeHops", "later", "(II)I"⟩, prog_1_method_22_code, 4, (some .int), 3, 492, 2),
  (⟨"CubeHops", "arrives", "(I)I"⟩, prog_1_method_23_code, 4, (some .int), 3, 497, 1),
  (⟨"CubeHops$Cube", "isThere", "(I)Z"⟩, prog_2_method_10_code, 2, (some .boolean), 0, 501, 1),
  (⟨"CubeHops$Cube", "wentJustNow", "(I)Z"⟩, prog_2_method_11_code, 2, (some .boolean), 0, 505, 1),
  (⟨"CubeHops", "all", "()I"⟩, prog_1_method_24_code, 2, (some .int), 3, 509, 0),
  (⟨"CubeHops$Cube", "stepsTillAllThere", "()I"⟩, prog_2_method_22_code, 4, (some .int), 0, 513, 0),
  (⟨"CubeHops$Cube", "thereBits", "()I"⟩, prog_2_method_12_code, 3, (some .int), 0, 517, 0),
  (⟨"CubeHops", "tight", "(I)I"⟩, prog_1_method_25_code, 4, (some .int), 3, 522, 1),
  (⟨"CubeHops", "countUses", "(I)V"⟩, prog_1_method_66_code, 4, none, 3, 526, 1),
  (⟨"CubeHops$Web", "linkAt", "(II)I"⟩, prog_5_method_4_code, 3, (some .int), 5, 529, 2),
  (⟨"CubeHops", "far", "(II)I"⟩, prog_1_method_26_code, 4, (some .int), 3, 533, 2),
  (⟨"CubeHops$Web", "distance", "(JII)I"⟩, prog_5_method_8_code, 6, (some .int), 5, 537, 3),
  (⟨"CubeHops$Web", "spread", "(JI)I"⟩, prog_5_method_7_code, 7, (some .int), 5, 540, 2),
  (⟨"CubeHops", "reach", "(I)I"⟩, prog_1_method_27_code, 6, (some .int), 3, 546, 1),
  (⟨"CubeHops", "parts", "(II)I"⟩, prog_1_method_28_code, 3, (some .int), 3, 551, 2),
  (⟨"CubeHops$Parting", "fewest", "(JII)I"⟩, prog_3_method_2_code, 6, (some .int), 1, 555, 3),
  (⟨"CubeHops$Parting", "findsWay", "(JII)Z"⟩, prog_3_method_3_code, 11, (some .boolean), 1, 559, 3),
  (⟨"CubeHops$Parting", "useWay", "(II)V"⟩, prog_3_method_4_code, 7, none, 1, 564, 2),
  (⟨"CubeHops$Parting", "use", "(III)V"⟩, prog_3_method_5_code, 4, none, 1, 568, 3),
  (⟨"CubeHops", "hurts", "()I"⟩, prog_1_method_29_code, 5, (some .int), 3, 573, 0),
  (⟨"CubeHops", "goals", "(II)I"⟩, prog_1_method_30_code, 6, (some .int), 3, 579, 2)]
def zProg_4 : List zM := [(⟨"CubeHops", "refuseSights", "(II)I"⟩, prog_1_method_68_code, 5, (some .int), 3, 583, 2),
  (⟨"CubeHops", "asideFits", "(ILCubeHops$Strip;)Z"⟩, prog_1_method_69_code, 4, (some .boolean), 3, 588, 2),
  (⟨"CubeHops", "kinds", "(II)I"⟩, prog_1_method_31_code, 4, (some .int), 3, 592, 2),
  (⟨"CubeHops", "fittingKinds", "(ILCubeHops$Strip;)I"⟩, prog_1_method_70_code, 5, (some .int), 3, 596, 2),
  (⟨"CubeHops", "test", "(II)I"⟩, prog_1_method_32_code, 9, (some .int), 3, 600, 2),
  (⟨"CubeHops", "lookAhead", "(II)V"⟩, prog_1_method_71_code, 5, none, 3, 604, 2),
  (⟨"CubeHops", "greatestPart", "(II)I"⟩, prog_1_method_72_code, 7, (some .int), 3, 608, 2),
  (⟨"CubeHops", "duel", "(III)I"⟩, prog_1_method_33_code, 4, (some .int), 3, 613, 3),
  (⟨"CubeHops$Web", "snapTurn", "(JIIIII)I"⟩, prog_5_method_9_code, 12, (some .int), 5, 616, 6),
  (⟨"CubeHops$Web", "mendTurn", "(JIIIII)I"⟩, prog_5_method_10_code, 12, (some .int), 5, 620, 6),
  (⟨"CubeHops", "odds", "(III)I"⟩, prog_1_method_34_code, 10, (some .int), 3, 629, 3),
  (⟨"CubeHops", "wholeOnLowWay", "(II)I"⟩, prog_1_method_67_code, 6, (some .int), 3, 633, 2),
  (⟨"CubeHops", "tellFraction", "(JJ)I"⟩, prog_1_method_47_code, 7, (some .int), 3, 638, 2),
  (⟨"CubeHops", "greatestDivisor", "(JJ)J"⟩, prog_1_method_48_code, 11, (some .long), 3, 641, 2),
  (⟨"CubeHops", "mid", "(III)I"⟩, prog_1_method_35_code, 4, (some .int), 3, 646, 3),
  (⟨"CubeHops", "lots", "(II)I"⟩, prog_1_method_36_code, 6, (some .int), 3, 650, 2),
  (⟨"CubeHops", "lotDeed", "(I)I"⟩, prog_1_method_58_code, 3, (some .int), 3, 657, 1),
  (⟨"CubeHops", "asked", "()I"⟩, prog_1_method_37_code, 1, (some .int), 3, 661, 0),
  (⟨"CubeHops", "upper", "()J"⟩, prog_1_method_38_code, 1, (some .long), 3, 665, 0),
  (⟨"CubeHops", "lower", "()J"⟩, prog_1_method_39_code, 1, (some .long), 3, 669, 0),
  (⟨"CubeHops", "count", "(I)I"⟩, prog_1_method_40_code, 2, (some .int), 3, 673, 1),
  (⟨"CubeHops", "tally", "(I)I"⟩, prog_1_method_62_code, 2, (some .int), 3, 677, 1),
  (⟨"CubeHops", "present", "([LCubeHops$Strip;)I"⟩, prog_1_method_63_code, 3, (some .int), 3, 681, 1),
  (⟨"CubeHops", "howManyAre", "(I)I"⟩, prog_1_method_64_code, 4, (some .int), 3, 685, 1)]
def zProg_5 : List zM := [(⟨"CubeHops", "finding", "()I"⟩, prog_1_method_41_code, 1, (some .int), 3, 689, 0),
  (⟨"CubeHops", "findings", "(I)I"⟩, prog_1_method_42_code, 2, (some .int), 3, 693, 1),
  (⟨"CubeHops", "digest", "()J"⟩, prog_1_method_43_code, 5, (some .long), 3, 697, 0),
  (⟨"CubeHops$Strip", "digested", "(J)J"⟩, prog_4_method_13_code, 6, (some .long), 2, 703, 1),
  (⟨"CubeHopsModel", "<init>", "()V"⟩, prog_7_method_1_code, 2, none, 4, 709, 0),
  (⟨"CubeHopsModel", "row", "(II)I"⟩, prog_7_method_9_code, 4, (some .int), 4, 808, 2),
  (⟨"CubeHopsModel", "in", "(III)Z"⟩, prog_7_method_2_code, 3, (some .boolean), 4, 811, 3),
  (⟨"CubeHopsModel", "finds", "(I)I"⟩, prog_7_method_5_code, 2, (some .int), 4, 815, 1),
  (⟨"CubeHopsModel", "lay", "(III)I"⟩, prog_7_method_11_code, 6, (some .int), 4, 819, 3),
  (⟨"CubeHopsModel", "wrongAt", "(II)I"⟩, prog_7_method_10_code, 3, (some .int), 4, 823, 2),
  (⟨"CubeHopsModel", "tells", "(I)I"⟩, prog_7_method_6_code, 2, (some .int), 4, 827, 1),
  (⟨"CubeHopsModel", "at", "(II)I"⟩, prog_7_method_12_code, 4, (some .int), 4, 831, 2),
  (⟨"CubeHopsModel", "tear", "(I)I"⟩, prog_7_method_13_code, 2, (some .int), 4, 835, 1),
  (⟨"CubeHopsModel", "copy", "(IIIII)I"⟩, prog_7_method_15_code, 9, (some .int), 4, 839, 5),
  (⟨"CubeHopsModel", "isPart", "(III)Z"⟩, prog_7_method_14_code, 3, (some .boolean), 4, 842, 3),
  (⟨"CubeHopsModel", "mean", "(I)I"⟩, prog_7_method_16_code, 5, (some .int), 4, 846, 1),
  (⟨"CubeHopsModel", "text", "(II)I"⟩, prog_7_method_17_code, 4, (some .int), 4, 850, 2),
  (⟨"CubeHopsModel", "put", "(III)I"⟩, prog_7_method_18_code, 5, (some .int), 4, 854, 3),
  (⟨"CubeHopsModel", "fault", "(I)I"⟩, prog_7_method_25_code, 2, (some .int), 4, 858, 1),
  (⟨"CubeHopsModel", "read", "(I)I"⟩, prog_7_method_24_code, 2, (some .int), 4, 862, 1),
  (⟨"CubeHopsModel", "skip", "()V"⟩, prog_7_method_20_code, 1, none, 4, 866, 0),
  (⟨"CubeHopsModel", "letterAt", "(I)I"⟩, prog_7_method_19_code, 2, (some .int), 4, 870, 1),
  (⟨"CubeHopsModel", "isMessageItem", "()Z"⟩, prog_7_method_23_code, 4, (some .boolean), 4, 874, 0),
  (⟨"CubeHopsModel", "sortBy", "(I)I"⟩, prog_7_method_21_code, 1, (some .int), 4, 877, 1)]
def zProg_6 : List zM := [(⟨"CubeHopsModel", "cornerThere", "()I"⟩, prog_7_method_22_code, 2, (some .int), 4, 881, 0),
  (⟨"CubeHopsModel", "cube", "(I)I"⟩, prog_7_method_26_code, 3, (some .int), 4, 885, 1),
  (⟨"CubeHopsModel", "message", "(II)I"⟩, prog_7_method_35_code, 3, (some .int), 4, 889, 2),
  (⟨"CubeHopsModel", "isOne", "(I)Z"⟩, prog_7_method_8_code, 2, (some .boolean), 4, 893, 1),
  (⟨"CubeHopsModel", "messageTells", "(II)I"⟩, prog_7_method_34_code, 3, (some .int), 4, 897, 2),
  (⟨"CubeHopsModel", "wishOf", "([III)I"⟩, prog_7_method_33_code, 4, (some .int), 4, 900, 3),
  (⟨"CubeHopsModel", "highest", "(I)I"⟩, prog_7_method_30_code, 2, (some .int), 4, 903, 1),
  (⟨"CubeHopsModel", "has", "(II)Z"⟩, prog_7_method_3_code, 2, (some .boolean), 4, 906, 2),
  (⟨"CubeHopsModel", "lowest", "(I)I"⟩, prog_7_method_29_code, 2, (some .int), 4, 909, 1),
  (⟨"CubeHopsModel", "dodges", "(III)I"⟩, prog_7_method_32_code, 5, (some .int), 4, 912, 3),
  (⟨"CubeHopsModel", "wholeOnes", "(II)I"⟩, prog_7_method_31_code, 4, (some .int), 4, 915, 2),
  (⟨"CubeHopsModel", "linkAt", "(II)I"⟩, prog_7_method_28_code, 2, (some .int), 4, 918, 2),
  (⟨"CubeHopsModel", "bits", "(I)I"⟩, prog_7_method_4_code, 3, (some .int), 4, 921, 1),
  (⟨"CubeHopsModel", "mark", "(II)I"⟩, prog_7_method_37_code, 4, (some .int), 4, 925, 2),
  (⟨"CubeHopsModel", "is", "(II)Z"⟩, prog_7_method_27_code, 2, (some .boolean), 4, 928, 2),
  (⟨"CubeHopsModel", "asNumber", "(I)I"⟩, prog_7_method_36_code, 1, (some .int), 4, 931, 1),
  (⟨"CubeHopsModel", "link", "(I)I"⟩, prog_7_method_39_code, 3, (some .int), 4, 935, 1),
  (⟨"CubeHopsModel", "lowerOf", "(I)I"⟩, prog_7_method_38_code, 3, (some .int), 4, 938, 1),
  (⟨"CubeHopsModel", "step", "()I"⟩, prog_7_method_42_code, 1, (some .int), 4, 942, 0),
  (⟨"CubeHopsModel", "note", "()V"⟩, prog_7_method_40_code, 1, none, 4, 946, 0),
  (⟨"CubeHopsModel", "bring", "([II[III)V"⟩, prog_7_method_7_code, 6, none, 4, 949, 5),
  (⟨"CubeHopsModel", "steps", "([I)I"⟩, prog_7_method_41_code, 10, (some .int), 4, 953, 1),
  (⟨"CubeHopsModel", "snap", "(I)I"⟩, prog_7_method_43_code, 2, (some .int), 4, 957, 1),
  (⟨"CubeHopsModel", "mend", "(I)I"⟩, prog_7_method_44_code, 2, (some .int), 4, 961, 1)]
def zProg_7 : List zM := [(⟨"CubeHopsModel", "aim", "(II)I"⟩, prog_7_method_45_code, 4, (some .int), 4, 965, 2),
  (⟨"CubeHopsModel", "undo", "(I)I"⟩, prog_7_method_46_code, 3, (some .int), 4, 969, 1),
  (⟨"CubeHopsModel", "keep", "(I)I"⟩, prog_7_method_47_code, 2, (some .int), 4, 973, 1),
  (⟨"CubeHopsModel", "on", "(I)I"⟩, prog_7_method_48_code, 2, (some .int), 4, 977, 1),
  (⟨"CubeHopsModel", "later", "(II)I"⟩, prog_7_method_50_code, 5, (some .int), 4, 981, 2),
  (⟨"CubeHopsModel", "begin", "()V"⟩, prog_7_method_49_code, 2, none, 4, 985, 0),
  (⟨"CubeHopsModel", "arrives", "(I)I"⟩, prog_7_method_52_code, 5, (some .int), 4, 989, 1),
  (⟨"CubeHopsModel", "isThere", "([II)Z"⟩, prog_7_method_51_code, 2, (some .boolean), 4, 992, 2),
  (⟨"CubeHopsModel", "all", "()I"⟩, prog_7_method_55_code, 2, (some .int), 4, 996, 0),
  (⟨"CubeHopsModel", "allOf", "()I"⟩, prog_7_method_54_code, 3, (some .int), 4, 1000, 0),
  (⟨"CubeHopsModel", "offOnes", "()I"⟩, prog_7_method_53_code, 2, (some .int), 4, 1004, 0),
  (⟨"CubeHopsModel", "tight", "(I)I"⟩, prog_7_method_56_code, 4, (some .int), 4, 1008, 1),
  (⟨"CubeHopsModel", "far", "(II)I"⟩, prog_7_method_58_code, 3, (some .int), 4, 1012, 2),
  (⟨"CubeHopsModel", "layAway", "(II)V"⟩, prog_7_method_57_code, 8, none, 4, 1016, 2),
  (⟨"CubeHopsModel", "reach", "(I)I"⟩, prog_7_method_59_code, 5, (some .int), 4, 1020, 1),
  (⟨"CubeHopsModel", "parts", "(II)I"⟩, prog_7_method_61_code, 4, (some .int), 4, 1024, 2),
  (⟨"CubeHopsModel", "isMore", "(II)Z"⟩, prog_7_method_60_code, 10, (some .boolean), 4, 1028, 2),
  (⟨"CubeHopsModel", "hurts", "()I"⟩, prog_7_method_62_code, 7, (some .int), 4, 1032, 0),
  (⟨"CubeHopsModel", "goals", "(II)I"⟩, prog_7_method_65_code, 6, (some .int), 4, 1036, 2),
  (⟨"CubeHopsModel", "wrongRow", "(II)I"⟩, prog_7_method_63_code, 4, (some .int), 4, 1040, 2),
  (⟨"CubeHopsModel", "isSeen", "(II)Z"⟩, prog_7_method_64_code, 5, (some .boolean), 4, 1044, 2),
  (⟨"CubeHopsModel", "kinds", "(II)I"⟩, prog_7_method_67_code, 4, (some .int), 4, 1048, 2),
  (⟨"CubeHopsModel", "kindsBy", "(II)I"⟩, prog_7_method_66_code, 6, (some .int), 4, 1052, 2),
  (⟨"CubeHopsModel", "test", "(II)I"⟩, prog_7_method_69_code, 12, (some .int), 4, 1056, 2)]
def zProg_8 : List zM := [(⟨"CubeHopsModel", "laySeen", "(I)V"⟩, prog_7_method_68_code, 5, none, 4, 1060, 1),
  (⟨"CubeHopsModel", "duel", "(III)I"⟩, prog_7_method_73_code, 8, (some .int), 4, 1064, 3),
  (⟨"CubeHopsModel", "farBy", "(III)I"⟩, prog_7_method_70_code, 4, (some .int), 4, 1068, 3),
  (⟨"CubeHopsModel", "farthest", "(III)I"⟩, prog_7_method_71_code, 7, (some .int), 4, 1072, 3),
  (⟨"CubeHopsModel", "nearest", "(IIII)I"⟩, prog_7_method_72_code, 9, (some .int), 4, 1076, 4),
  (⟨"CubeHopsModel", "odds", "(III)I"⟩, prog_7_method_75_code, 10, (some .int), 4, 1080, 3),
  (⟨"CubeHopsModel", "told", "(JJ)I"⟩, prog_7_method_74_code, 11, (some .int), 4, 1085, 2),
  (⟨"CubeHopsModel", "mid", "(III)I"⟩, prog_7_method_76_code, 7, (some .int), 4, 1089, 3),
  (⟨"CubeHopsModel", "lots", "(II)I"⟩, prog_7_method_78_code, 6, (some .int), 4, 1093, 2),
  (⟨"CubeHopsModel", "lot", "(I)V"⟩, prog_7_method_77_code, 2, none, 4, 1100, 1),
  (⟨"CubeHopsModel", "asked", "()I"⟩, prog_7_method_79_code, 1, (some .int), 4, 1104, 0),
  (⟨"CubeHopsModel", "upper", "()J"⟩, prog_7_method_80_code, 1, (some .long), 4, 1108, 0),
  (⟨"CubeHopsModel", "lower", "()J"⟩, prog_7_method_81_code, 1, (some .long), 4, 1112, 0),
  (⟨"CubeHopsModel", "count", "(I)I"⟩, prog_7_method_85_code, 2, (some .int), 4, 1116, 1),
  (⟨"CubeHopsModel", "thereOnes", "()I"⟩, prog_7_method_84_code, 3, (some .int), 4, 1120, 0),
  (⟨"CubeHopsModel", "thereOf", "([I)I"⟩, prog_7_method_82_code, 6, (some .int), 4, 1123, 1),
  (⟨"CubeHopsModel", "kindMany", "(I)I"⟩, prog_7_method_83_code, 4, (some .int), 4, 1127, 1),
  (⟨"CubeHopsModel", "finding", "()I"⟩, prog_7_method_86_code, 1, (some .int), 4, 1131, 0),
  (⟨"CubeHopsModel", "findings", "(I)I"⟩, prog_7_method_87_code, 2, (some .int), 4, 1135, 1),
  (⟨"CubeHopsModel", "digest", "()J"⟩, prog_7_method_88_code, 5, (some .long), 4, 1139, 0),
  (⟨"CubeHopsLaw", "law", "([I)Z"⟩, code, 4, (some .boolean), 6, 0, 1)]
def zProg : List zM := (zProg_0 ++ (zProg_1 ++ (zProg_2 ++ (zProg_3 ++ (zProg_4 ++ (zProg_5 ++ (zProg_6 ++ (zProg_7 ++ zProg_8))))))))
def zCN : List String := ["CubeHops$Cube", "CubeHops$Parting", "CubeHops$Strip", "CubeHops", "CubeHopsModel", "CubeHops$Web", "CubeHopsLaw", "java/lang/Integer", "java/lang/Long", "java/lang/Math"]
-- (key, kind, method, positions): kind 0 virtual, 1 static, 2 constructor, 3 Object.<init>, 4 arraycopy, 5 static of a nest mate, 6 constructor of a nest mate
def zML : List (Nat × Nat × Nat × Nat × Nat × Nat × Nat) := [(6009, 2, 0, 63, 64, 0, 51), (3001, 3, 0, 66, 0, 0, 0), (3018, 2, 1, 72, 73, 0, 52), (2001, 3, 0, 75, 0, 0, 0), (2013, 7, 0, 76, 0, 0, 0), (3, 3, 0, 93, 0, 0, 0), (1003, 3, 0, 139, 0, 0, 0), (3064, 0, 4, 152, 153, 154, 52), (2023, 8, 0, 156, 0, 0, 0), (6013, 0, 5, 205, 206, 207, 51), (3068, 1, 6, 209, 210, 0, 51), (3072, 0, 7, 212, 214, 0, 51), (6018, 0, 8, 216, 217, 218, 51), (3076, 0, 9, 220, 222, 1, 51), (3090, 0, 10, 224, 225, 226, 52), (3305, 0, 11, 228, 229, 230, 52), (3080, 0, 12, 232, 233, 234, 52), (2030, 0, 13, 236, 237, 238, 52), (2026, 0, 11, 240, 229, 230, 52), (3084, 0, 14, 241, 243, 2, 51), (6023, 0, 15, 245, 246, 247, 51), (3087, 0, 13, 249, 237, 238, 52), (6027, 0, 16, 250, 251, 252, 51), (3094, 0, 17, 254, 255, 256, 52), (6032, 0, 18, 258, 259, 260, 51), (3097, 0, 19, 262, 263, 264, 52), (3101, 0, 20, 266, 267, 268, 52), (2034, 0, 19, 270, 263, 264, 52), (2038, 4, 0, 271, 0, 0, 0), (6037, 0, 21, 274, 275, 276, 51), (6041, 0, 22, 278, 279, 280, 51), (3109, 1, 23, 282, 283, 0, 51), (6045, 0, 24, 285, 286, 287, 51), (6049, 0, 25, 289, 290, 291, 51), (3112, 1, 26, 293, 294, 0, 51), (3312, 0, 27, 296, 297, 298, 54), (3315, 1, 28, 300, 301, 0, 51), (3183, 1, 29, 305, 306, 0, 51), (3318, 0, 30, 308, 309, 310, 54), (6053, 0, 31, 312, 313, 314, 51), (3116, 0, 32, 316, 317, 318, 54), (3120, 0, 33, 320, 322, 3, 51), (3331, 0, 34, 324, 325, 326, 54), (101, 0, 35, 328, 329, 330, 54), (44, 1, 36, 332, 333, 0, 58), (5009, 1, 37, 335, 336, 0, 58), (5015, 1, 38, 338, 339, 0, 58), (5018, 1, 39, 341, 342, 0, 58), (105, 0, 40, 344, 345, 346, 54), (56, 0, 41, 348, 349, 350, 54), (98, 0, 42, 352, 353, 354, 54), (74, 0, 43, 356, 357, 358, 54), (78, 1, 44, 360, 361, 0, 54), (81, 1, 45, 363, 364, 0, 54), (84, 0, 46, 366, 368, 4, 54), (87, 0, 47, 370, 371, 372, 54), (90, 1, 39, 374, 342, 0, 58), (70, 1, 48, 375, 376, 0, 59), (6057, 0, 49, 381, 382, 383, 51), (3124, 0, 41, 385, 349, 350, 54), (3127, 0, 50, 386, 387, 388, 54), (63, 0, 51, 390, 391, 392, 54), (67, 1, 52, 394, 395, 0, 54), (6061, 0, 53, 397, 398, 399, 51), (3133, 1, 54, 401, 402, 0, 51), (3136, 0, 51, 404, 391, 392, 54), (3142, 0, 43, 405, 357, 358, 54), (3146, 0, 55, 406, 408, 5, 51), (3152, 0, 47, 410, 371, 372, 54), (3155, 1, 48, 411, 376, 0, 59), (6065, 0, 56, 412, 413, 414, 51), (3160, 1, 57, 416, 417, 0, 51), (3163, 1, 38, 419, 339, 0, 58), (3168, 1, 37, 420, 336, 0, 58), (3171, 0, 58, 421, 422, 423, 54), (6069, 0, 59, 425, 426, 427, 51), (3177, 0, 60, 429, 431, 6, 51), (3328, 0, 61, 433, 434, 435, 52), (6074, 0, 62, 437, 438, 439, 51), (3180, 0, 63, 441, 443, 7, 51), (3325, 1, 64, 445, 446, 0, 51), (3334, 0, 65, 448, 449, 450, 54), (50, 1, 66, 452, 453, 0, 60), (6078, 0, 67, 458, 459, 460, 51), (6082, 0, 68, 462, 463, 464, 51), (3189, 1, 69, 466, 467, 0, 51), (6086, 0, 70, 469, 470, 471, 51), (3192, 0, 71, 473, 474, 475, 52), (6090, 0, 72, 477, 478, 479, 51), (3195, 0, 73, 481, 482, 483, 52), (6094, 0, 74, 485, 486, 487, 51), (6098, 0, 75, 489, 490, 491, 51), (3198, 0, 42, 493, 353, 354, 54), (6102, 0, 76, 494, 495, 496, 51), (3201, 0, 77, 498, 499, 500, 54), (3204, 0, 78, 502, 503, 504, 54), (6106, 0, 79, 506, 507, 508, 51), (3207, 0, 80, 510, 511, 512, 54), (94, 0, 81, 514, 515, 516, 54), (60, 0, 77, 518, 499, 500, 54), (6110, 0, 82, 519, 520, 521, 51), (3214, 0, 83, 523, 525, 8, 51), (3350, 1, 84, 527, 528, 0, 58), (6114, 0, 85, 530, 531, 532, 51), (3222, 1, 86, 535, 536, 0, 58), (5026, 1, 87, 538, 539, 0, 58), (6118, 0, 88, 543, 544, 545, 51), (3226, 1, 87, 547, 539, 0, 58), (6122, 0, 89, 548, 549, 550, 51), (3230, 0, 90, 552, 553, 554, 55), (1022, 0, 91, 556, 558, 9, 55), (1030, 1, 39, 560, 342, 0, 58), (1026, 0, 92, 561, 563, 10, 55), (1036, 0, 93, 565, 567, 11, 55), (6126, 0, 94, 570, 571, 572, 51), (3233, 0, 35, 574, 329, 330, 54), (3236, 7, 0, 575, 0, 0, 0), (6130, 0, 95, 576, 577, 578, 51), (3241, 0, 96, 580, 582, 12, 51), (3244, 0, 40, 584, 345, 346, 54), (3247, 0, 97, 585, 587, 13, 51), (6134, 0, 98, 589, 590, 591, 51), (3251, 0, 99, 593, 595, 14, 51), (6138, 0, 100, 597, 598, 599, 51), (3255, 0, 101, 601, 603, 15, 51), (3258, 0, 102, 605, 607, 16, 51), (3261, 8, 0, 609, 0, 0, 0), (6142, 0, 103, 610, 611, 612, 51), (5030, 1, 86, 617, 536, 0, 58), (5034, 1, 105, 618, 619, 0, 58), (5050, 1, 104, 621, 615, 0, 58), (5038, 1, 36, 622, 333, 0, 58), (5053, 8, 0, 623, 0, 0, 0), (5044, 7, 0, 625, 0, 0, 0), (6146, 0, 106, 626, 627, 628, 51), (3268, 0, 107, 630, 632, 17, 51), (3353, 1, 39, 634, 342, 0, 58), (3271, 0, 108, 635, 637, 18, 51), (3308, 1, 109, 639, 640, 0, 51), (6150, 0, 110, 643, 644, 645, 51), (6154, 0, 111, 647, 648, 649, 51), (3282, 0, 112, 654, 656, 19, 51), (6158, 0, 113, 658, 659, 660, 51), (6162, 0, 114, 662, 663, 664, 51), (6167, 0, 115, 666, 667, 668, 51), (6171, 0, 116, 670, 671, 672, 51), (3291, 0, 117, 674, 676, 20, 51), (3337, 0, 81, 678, 515, 516, 54), (3340, 1, 118, 679, 680, 0, 51), (3344, 0, 119, 682, 684, 21, 51), (6175, 0, 120, 686, 687, 688, 51), (6179, 0, 121, 690, 691, 692, 51), (6183, 0, 122, 694, 695, 696, 51), (3301, 0, 123, 700, 701, 702, 52), (6012, 2, 124, 707, 708, 0, 56), (4001, 3, 0, 710, 0, 0, 0), (6017, 0, 125, 805, 806, 807, 56), (4084, 1, 126, 809, 810, 0, 56), (4088, 0, 127, 812, 814, 22, 56), (6022, 0, 128, 816, 817, 818, 56), (4092, 0, 129, 820, 822, 23, 56), (4096, 0, 130, 824, 826, 24, 56), (6026, 0, 131, 828, 829, 830, 56), (6031, 0, 132, 832, 833, 834, 56), (6036, 0, 133, 836, 837, 838, 56), (4099, 1, 134, 840, 841, 0, 56), (6040, 0, 135, 843, 844, 845, 56), (6044, 0, 136, 847, 848, 849, 56), (6048, 0, 137, 851, 852, 853, 56), (6052, 0, 138, 855, 856, 857, 56), (4131, 0, 139, 859, 861, 25, 56), (4124, 0, 140, 863, 865, 26, 56), (4111, 0, 141, 867, 869, 27, 56), (4127, 0, 142, 871, 873, 28, 56), (4114, 1, 143, 875, 876, 0, 56), (4120, 0, 144, 878, 880, 29, 56), (6056, 0, 145, 882, 883, 884, 56), (6060, 0, 146, 886, 887, 888, 56), (4164, 0, 147, 890, 892, 30, 56), (4168, 0, 148, 894, 896, 31, 56), (4157, 1, 149, 898, 899, 0, 56), (4150, 1, 150, 901, 902, 0, 56), (4137, 1, 151, 904, 905, 0, 56), (4147, 1, 152, 907, 908, 0, 56), (4153, 1, 153, 910, 911, 0, 56), (4144, 1, 154, 913, 914, 0, 56), (4141, 1, 155, 916, 917, 0, 56), (4161, 1, 156, 919, 920, 0, 56), (6064, 0, 157, 922, 923, 924, 56), (4171, 1, 158, 926, 927, 0, 56), (4174, 1, 159, 929, 930, 0, 56), (6068, 0, 160, 932, 933, 934, 56), (4177, 1, 161, 936, 937, 0, 56), (6073, 0, 162, 939, 940, 941, 56), (4184, 0, 163, 943, 945, 32, 56), (4180, 1, 164, 947, 948, 0, 56), (4187, 0, 165, 950, 952, 33, 56), (6077, 0, 166, 954, 955, 956, 56), (6081, 0, 167, 958, 959, 960, 56), (6085, 0, 168, 962, 963, 964, 56), (6089, 0, 169, 966, 967, 968, 56), (6093, 0, 170, 970, 971, 972, 56), (6097, 0, 171, 974, 975, 976, 56), (6101, 0, 172, 978, 979, 980, 56), (4191, 0, 173, 982, 984, 34, 56), (6105, 0, 174, 986, 987, 988, 56), (4194, 1, 175, 990, 991, 0, 56), (6109, 0, 176, 993, 994, 995, 56), (4204, 0, 177, 997, 999, 35, 56), (4201, 0, 178, 1001, 1003, 36, 56), (6113, 0, 179, 1005, 1006, 1007, 56), (6117, 0, 180, 1009, 1010, 1011, 56), (4207, 0, 181, 1013, 1015, 37, 56), (6121, 0, 182, 1017, 1018, 1019, 56), (6125, 0, 183, 1021, 1022, 1023, 56), (4211, 0, 184, 1025, 1027, 38, 56), (6129, 0, 185, 1029, 1030, 1031, 56), (6133, 0, 186, 1033, 1034, 1035, 56), (4214, 0, 187, 1037, 1039, 39, 56), (4217, 0, 188, 1041, 1043, 40, 56), (6137, 0, 189, 1045, 1046, 1047, 56), (4220, 0, 190, 1049, 1051, 41, 56), (6141, 0, 191, 1053, 1054, 1055, 56), (4223, 0, 192, 1057, 1059, 42, 56), (6145, 0, 193, 1061, 1062, 1063, 56), (4227, 0, 194, 1065, 1067, 43, 56), (4230, 0, 195, 1069, 1071, 44, 56), (4233, 0, 196, 1073, 1075, 45, 56), (6149, 0, 197, 1077, 1078, 1079, 56), (4242, 0, 198, 1082, 1084, 46, 56), (6153, 0, 199, 1086, 1087, 1088, 56), (6157, 0, 200, 1090, 1091, 1092, 56), (4251, 0, 201, 1097, 1099, 47, 56), (6161, 0, 202, 1101, 1102, 1103, 56), (6166, 0, 203, 1105, 1106, 1107, 56), (6170, 0, 204, 1109, 1110, 1111, 56), (6174, 0, 205, 1113, 1114, 1115, 56), (4254, 0, 206, 1117, 1119, 48, 56), (4257, 1, 207, 1121, 1122, 0, 56), (4260, 0, 208, 1124, 1126, 49, 56), (6178, 0, 209, 1128, 1129, 1130, 56), (6182, 0, 210, 1132, 1133, 1134, 56), (6186, 0, 211, 1136, 1137, 1138, 56), (4267, 0, 205, 1142, 1114, 1115, 56), (3030, 6, 2, 90, 91, 0, 54), (3043, 6, 3, 136, 137, 0, 55), (3264, 5, 104, 614, 615, 0, 58)]
-- (key, class, field, kind (0 int, 1 long, 2 reference), final, position)
def zFL : List (Nat × Nat × Nat × Nat × Nat × Nat) := [(2019, 2, 0, 2, 1, 79), (2009, 2, 1, 0, 0, 80), (3105, 2, 1, 0, 0, 81), (9, 0, 0, 2, 1, 94), (3130, 0, 0, 2, 1, 95), (15, 0, 1, 2, 1, 96), (3149, 0, 1, 2, 1, 97), (18, 0, 2, 2, 1, 98), (3186, 0, 2, 2, 1, 99), (21, 0, 3, 2, 1, 100), (3347, 0, 3, 2, 1, 101), (24, 0, 4, 0, 0, 102), (3123, 0, 4, 0, 0, 103), (28, 0, 5, 1, 0, 104), (3217, 0, 5, 1, 0, 105), (32, 0, 6, 0, 0, 106), (3139, 0, 6, 0, 0, 107), (35, 0, 7, 0, 0, 108), (3174, 0, 7, 0, 0, 109), (38, 0, 8, 0, 0, 110), (3211, 0, 8, 0, 0, 111), (41, 0, 9, 0, 0, 112), (1009, 1, 0, 2, 1, 140), (1015, 1, 1, 2, 1, 141), (1018, 1, 2, 1, 0, 142), (3011, 3, 0, 2, 1, 159), (3015, 3, 1, 2, 1, 160), (3021, 3, 2, 2, 1, 161), (3025, 3, 3, 2, 1, 162), (3031, 3, 4, 2, 1, 163), (3035, 3, 5, 2, 1, 164), (3038, 3, 6, 2, 1, 165), (3044, 3, 7, 2, 1, 166), (3048, 3, 8, 2, 1, 167), (3054, 3, 9, 2, 1, 168), (3057, 3, 10, 2, 1, 169), (3294, 3, 11, 0, 0, 170), (3285, 3, 12, 0, 0, 171), (3288, 3, 13, 1, 0, 172), (3060, 3, 14, 1, 0, 173), (4007, 4, 0, 2, 1, 711), (4013, 4, 1, 2, 1, 712), (4016, 4, 2, 2, 1, 713), (4019, 4, 3, 2, 1, 714), (4074, 4, 4, 0, 0, 715), (4022, 4, 5, 2, 1, 716), (4078, 4, 6, 0, 0, 717), (4237, 4, 7, 1, 0, 718), (4025, 4, 8, 1, 0, 719), (4108, 4, 9, 0, 0, 720), (4105, 4, 10, 0, 0, 721), (4102, 4, 11, 0, 0, 722), (4117, 4, 12, 0, 0, 723), (4029, 4, 13, 2, 1, 724), (4081, 4, 14, 0, 0, 725), (4032, 4, 15, 2, 1, 726), (4035, 4, 16, 2, 1, 727), (4038, 4, 17, 2, 1, 728), (4134, 4, 18, 0, 0, 729), (4041, 4, 19, 2, 1, 730), (4044, 4, 20, 2, 1, 731), (4047, 4, 21, 2, 1, 732), (4050, 4, 22, 2, 1, 733), (4053, 4, 23, 2, 1, 734), (4056, 4, 24, 2, 1, 735), (4059, 4, 25, 2, 1, 736), (4062, 4, 26, 2, 1, 737), (4065, 4, 27, 2, 1, 738), (4068, 4, 28, 2, 1, 739), (4071, 4, 29, 2, 1, 740), (4198, 4, 30, 0, 0, 741)]
def zSL : List (Nat × Nat × Nat) := [(3322, 1, 303), (5022, 2, 541)]
def zNL : List (Nat × Nat × Nat) := [(6007, 3, 61), (3009, 2, 69), (3028, 0, 88), (3041, 1, 134), (3052, 9, 150), (6010, 4, 705)]
def zKI : List (Nat × Int32 × Nat) := [(7265, 1431655765, 378), (7266, 858993459, 379), (7267, 252645135, 380), (3277, 2147483646, 651), (4246, 2147483646, 1094)]
def zKL : List (Nat × Int64 × Nat) := [(8314, 6148914691236517205, 455), (8316, 3689348814741910323, 456), (8318, 1085102592571150095, 457), (3220, -1, 534), (1040, -1, 569), (5042, -1, 624), (3275, 12, 642), (3278, 48271, 652), (3280, 2147483647, 653), (3297, 17, 698), (3299, 31, 699), (2044, 31, 704), (4240, 12, 1081), (4247, 48271, 1095), (4249, 2147483647, 1096), (4263, 17, 1140), (4265, 31, 1141)]
def zFK : List (List Nat) := [[2, 2, 2, 2, 0, 1, 0, 0, 0, 0], [2, 2, 1], [2, 0], [2, 2, 2, 2, 2, 2, 2, 2, 2, 2, 2, 0, 0, 1, 1], [2, 2, 2, 2, 0, 2, 0, 1, 1, 0, 0, 0, 0, 2, 0, 2, 2, 2, 0, 2, 2, 2, 2, 2, 2, 2, 2, 2, 2, 2, 0]]
