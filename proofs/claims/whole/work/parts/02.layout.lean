/-! THE LAYOUT: every cell of the two systems has a number, in the order in which the constructors make them; 1000 is the script -/
abbrev Mm : Type := Nat → Nat → Int32
abbrev Ml : Type := Nat → Int64
abbrev Lc : Type := List (Option Value)
abbrev Wc : Type := (Nat → Nat) × va_G × (Nat → ClassId)
def nIds : Nat := 246
def kdL : List Nat := [6, 3, 12, 9, 9, 9, 9, 9, 9, 9, 9, 9, 9, 5, 9, 2, 9, 9, 9, 9, 9, 9, 2, 9, 9, 9, 9, 9, 9, 0, 11, 2, 9, 9, 9, 9, 9, 9, 2, 9, 9, 9, 9, 9, 9, 2, 9, 9, 9, 9, 9, 9, 2, 9, 9, 9, 9, 9, 9, 2, 9, 9, 9, 9, 9, 9, 2, 9, 9, 9, 9, 9, 9, 2, 9, 9, 9, 9, 9, 9, 2, 9, 9, 9, 9, 9, 9, 2, 9, 9, 9, 9, 9, 9, 2, 9, 9, 9, 9, 9, 9, 2, 9, 9, 9, 9, 9, 9, 2, 9, 9, 9, 9, 9, 9, 2, 9, 9, 9, 9, 9, 9, 2, 9, 9, 9, 9, 9, 9, 2, 9, 9, 9, 9, 9, 9, 2, 9, 9, 9, 9, 9, 9, 2, 9, 9, 9, 9, 9, 9, 2, 9, 9, 9, 9, 9, 9, 2, 9, 9, 9, 9, 9, 9, 2, 9, 9, 9, 9, 9, 9, 2, 9, 9, 9, 9, 9, 9, 2, 9, 9, 9, 9, 9, 9, 2, 9, 9, 9, 9, 9, 9, 2, 9, 9, 9, 9, 9, 9, 11, 2, 9, 9, 9, 9, 9, 9, 2, 9, 9, 9, 9, 9, 9, 4, 2, 9, 9, 9, 9, 9, 9, 2, 9, 9, 9, 9, 9, 9, 9, 1, 9, 7, 9, 9, 9, 9, 9, 9, 9, 9, 10, 9, 8, 9, 9]
def kd (a : Nat) : Nat := kdL.getD a 99
def lnL : List Nat := [0, 0, 8, 40, 40, 40, 40, 40, 40, 40, 40, 8, 8, 0, 100, 0, 8, 8, 8, 8, 8, 8, 0, 8, 8, 8, 8, 8, 8, 0, 24, 0, 8, 8, 8, 8, 8, 8, 0, 8, 8, 8, 8, 8, 8, 0, 8, 8, 8, 8, 8, 8, 0, 8, 8, 8, 8, 8, 8, 0, 8, 8, 8, 8, 8, 8, 0, 8, 8, 8, 8, 8, 8, 0, 8, 8, 8, 8, 8, 8, 0, 8, 8, 8, 8, 8, 8, 0, 8, 8, 8, 8, 8, 8, 0, 8, 8, 8, 8, 8, 8, 0, 8, 8, 8, 8, 8, 8, 0, 8, 8, 8, 8, 8, 8, 0, 8, 8, 8, 8, 8, 8, 0, 8, 8, 8, 8, 8, 8, 0, 8, 8, 8, 8, 8, 8, 0, 8, 8, 8, 8, 8, 8, 0, 8, 8, 8, 8, 8, 8, 0, 8, 8, 8, 8, 8, 8, 0, 8, 8, 8, 8, 8, 8, 0, 8, 8, 8, 8, 8, 8, 0, 8, 8, 8, 8, 8, 8, 0, 8, 8, 8, 8, 8, 8, 0, 8, 8, 8, 8, 8, 8, 0, 8, 8, 8, 8, 8, 8, 2, 0, 8, 8, 8, 8, 8, 8, 0, 8, 8, 8, 8, 8, 8, 0, 0, 8, 8, 8, 8, 8, 8, 0, 8, 8, 8, 8, 8, 8, 12, 0, 16, 0, 8, 8, 320, 40, 54, 54, 1296, 108, 2, 8, 100, 512, 16]
def ln (a : Nat) : Nat := lnL.getD a 0
def nfL : List Nat := [3, 6, 12, 3, 10, 4, 10, 24]
def nf (c : Nat) : Nat := nfL.getD c 0
def ftL : List (List Nat) := [[1, 0, 0], [1, 0, 0, 0, 0, 0], [0, 0, 0, 0, 3, 0, 1, 1, 1, 1, 1, 1], [1, 1, 1], [1, 1, 1, 0, 0, 0, 0, 0, 2, 2], [1, 0, 0, 0], [1, 1, 1, 1, 1, 1, 1, 1, 0, 0], [1, 1, 1, 0, 1, 3, 1, 1, 1, 0, 1, 1, 1, 1, 0, 0, 0, 0, 0, 0, 0, 1, 1, 0]]
/-- a field: 0 an int, 1 a reference, 2 a long, 3 a boolean -/
def ft (c k : Nat) : Nat := (ftL.getD c []).getD k 9
def rfL : List (List Nat) := [[30, 0, 0], [231, 0, 0, 0, 0, 0], [0, 0, 0, 0, 0, 0, 0, 0, 0, 0, 0, 0], [2, 11, 12], [215, 222, 229, 0, 0, 0, 0, 0, 0, 0], [14, 0, 0, 0], [1, 13, 15, 22, 29, 199, 214, 230, 0, 0], [233, 234, 235, 0, 236, 0, 237, 238, 239, 0, 240, 241, 242, 243, 0, 0, 0, 0, 0, 0, 0, 244, 245, 0]]
def rfc (c a k : Nat) : Nat := if c = 2 then a + (k - 5) else (rfL.getD c []).getD k 0
def rfa (a j : Nat) : Nat := if a = 2 then 3 + j else if a = 30 then 31 + 7 * j else 200 + 7 * j
abbrev Mrow : Type := MethodName × ByteArray × Nat × Option FieldType × Nat × Nat
def mList0 : List Mrow := [(⟨"WinkCircle$Acts", "size", "()I"⟩, prog_2_method_2_code, 1, (some .int), 0, 0),
  (⟨"WinkCircle$Acts", "forget", "()V"⟩, prog_2_method_3_code, 1, none, 0, 0),
  (⟨"WinkCircle$Acts", "keep", "(LWinkCircle$Circle;)V"⟩, prog_2_method_4_code, 2, none, 0, 0),
  (⟨"WinkCircle$Acts", "takeBack", "(LWinkCircle$Circle;)V"⟩, prog_2_method_5_code, 2, none, 0, 0),
  (⟨"WinkCircle$Asks", "begin", "(IIII)V"⟩, prog_3_method_2_code, 5, none, 1, 0),
  (⟨"WinkCircle$Asks", "left", "(I)I"⟩, prog_3_method_3_code, 2, (some .int), 1, 0),
  (⟨"WinkCircle$Asks", "leave", "(I)V"⟩, prog_3_method_4_code, 2, none, 1, 0),
  (⟨"WinkCircle$Asks", "sizeGiven", "()I"⟩, prog_3_method_5_code, 1, (some .int), 1, 0),
  (⟨"WinkCircle$Asks", "markGiven", "()I"⟩, prog_3_method_6_code, 1, (some .int), 1, 0),
  (⟨"WinkCircle$Asks", "sizeOfRover", "()I"⟩, prog_3_method_7_code, 2, (some .int), 1, 0),
  (⟨"WinkCircle$Asks", "sizeOfShy", "()I"⟩, prog_3_method_8_code, 2, (some .int), 1, 0),
  (⟨"WinkCircle$Asks", "markOfRover", "()I"⟩, prog_3_method_9_code, 2, (some .int), 1, 0),
  (⟨"WinkCircle$Asks", "markOfShy", "()I"⟩, prog_3_method_10_code, 1, (some .int), 1, 0),
  (⟨"WinkCircle$Circle", "clear", "()V"⟩, prog_4_method_2_code, 2, none, 2, 0),
  (⟨"WinkCircle$Circle", "takeFrom", "(LWinkCircle$Circle;)V"⟩, prog_4_method_3_code, 3, none, 2, 0),
  (⟨"WinkCircle$Circle", "settle", "()V"⟩, prog_4_method_4_code, 2, none, 2, 0),
  (⟨"WinkCircle$Circle", "isNone", "()Z"⟩, prog_4_method_5_code, 1, (some .boolean), 2, 0),
  (⟨"WinkCircle$Circle", "has", "(I)Z"⟩, prog_4_method_6_code, 2, (some .boolean), 2, 0),
  (⟨"WinkCircle$Circle", "isDead", "(I)Z"⟩, prog_4_method_7_code, 2, (some .boolean), 2, 0),
  (⟨"WinkCircle$Circle", "above", "(I)I"⟩, prog_4_method_8_code, 2, (some .int), 2, 0),
  (⟨"WinkCircle$Circle", "below", "(I)I"⟩, prog_4_method_9_code, 2, (some .int), 2, 0),
  (⟨"WinkCircle$Circle", "bitsOf", "(I)I"⟩, prog_4_method_10_code, 4, (some .int), 2, 0),
  (⟨"WinkCircle$Circle", "howManyDead", "()I"⟩, prog_4_method_11_code, 3, (some .int), 2, 0),
  (⟨"WinkCircle$Circle", "lookersAt", "(I)I"⟩, prog_4_method_12_code, 4, (some .int), 2, 0),
  (⟨"WinkCircle$Circle", "allSaw", "()I"⟩, prog_4_method_13_code, 3, (some .int), 2, 0),
  (⟨"WinkCircle$Circle", "giveRole", "(I)V"⟩, prog_4_method_14_code, 3, none, 2, 0),
  (⟨"WinkCircle$Circle", "sitUp", "(I)V"⟩, prog_4_method_15_code, 2, none, 2, 0),
  (⟨"WinkCircle$Circle", "isAsleep", "(I)Z"⟩, prog_4_method_16_code, 2, (some .boolean), 2, 0),
  (⟨"WinkCircle$Circle", "passTicks", "(I)V"⟩, prog_4_method_17_code, 3, none, 2, 0),
  (⟨"WinkCircle$Circle", "passTick", "()V"⟩, prog_4_method_18_code, 2, none, 2, 0),
  (⟨"WinkCircle$Circle", "nextLook", "(I)I"⟩, prog_4_method_19_code, 2, (some .int), 2, 0),
  (⟨"WinkCircle$Circle", "roveUp", "(I)I"⟩, prog_4_method_20_code, 3, (some .int), 2, 0),
  (⟨"WinkCircle$Circle", "roveDown", "(I)I"⟩, prog_4_method_21_code, 3, (some .int), 2, 0),
  (⟨"WinkCircle$Circle", "nextNotDead", "(I)I"⟩, prog_4_method_22_code, 4, (some .int), 2, 0),
  (⟨"WinkCircle$Circle", "wink", "()V"⟩, prog_4_method_23_code, 3, none, 2, 0),
  (⟨"WinkCircle$Circle", "seeWink", "(I)V"⟩, prog_4_method_24_code, 2, none, 2, 0),
  (⟨"WinkCircle$Circle", "fade", "()V"⟩, prog_4_method_25_code, 2, none, 2, 0),
  (⟨"WinkCircle$Rows", "make", "(III)V"⟩, prog_5_method_2_code, 5, none, 3, 0),
  (⟨"WinkCircle$Rows", "put", "(III)I"⟩, prog_5_method_3_code, 5, (some .int), 3, 0),
  (⟨"WinkCircle$Rows", "item", "(II)I"⟩, prog_5_method_4_code, 3, (some .int), 3, 0)]
def mList1 : List Mrow := [(⟨"WinkCircle$Rows", "move", "(IIIII)V"⟩, prog_5_method_5_code, 6, none, 3, 0),
  (⟨"WinkCircle$Rows", "remove", "(I)I"⟩, prog_5_method_6_code, 3, (some .int), 3, 0),
  (⟨"WinkCircle$Rows", "isMissing", "(I)Z"⟩, prog_5_method_7_code, 2, (some .boolean), 3, 0),
  (⟨"WinkCircle$Rows", "present", "()I"⟩, prog_5_method_8_code, 3, (some .int), 3, 0),
  (⟨"WinkCircle$Rows", "hindrance", "(III)I"⟩, prog_5_method_9_code, 4, (some .int), 3, 0),
  (⟨"WinkCircle$Rows", "hindranceOfTwo", "(IIIII)I"⟩, prog_5_method_10_code, 6, (some .int), 3, 0),
  (⟨"WinkCircle$Rows", "isWithin", "(III)Z"⟩, prog_5_method_11_code, 4, (some .boolean), 3, 0),
  (⟨"WinkCircle$Seer", "behind", "(LWinkCircle$Circle;I)LWinkCircle$Circle;"⟩, prog_6_method_2_code, 3, (some (.object "WinkCircle$Circle")), 4, 0),
  (⟨"WinkCircle$Seer", "firstSoFarGone", "(LWinkCircle$Circle;II)I"⟩, prog_6_method_3_code, 5, (some .int), 4, 0),
  (⟨"WinkCircle$Seer", "firstFound", "(LWinkCircle$Circle;)I"⟩, prog_6_method_4_code, 3, (some .int), 4, 0),
  (⟨"WinkCircle$Seer", "firstMeeting", "(LWinkCircle$Circle;II)I"⟩, prog_6_method_5_code, 5, (some .int), 4, 0),
  (⟨"WinkCircle$Seer", "findBestRole", "(LWinkCircle$Circle;I)V"⟩, prog_6_method_6_code, 4, none, 4, 0),
  (⟨"WinkCircle$Seer", "beginWithMurderer", "(LWinkCircle$Circle;I)V"⟩, prog_6_method_7_code, 3, none, 4, 0),
  (⟨"WinkCircle$Seer", "findBestGlance", "(LWinkCircle$Circle;I)V"⟩, prog_6_method_8_code, 4, none, 4, 0),
  (⟨"WinkCircle$Seer", "offer", "(II)V"⟩, prog_6_method_9_code, 3, none, 4, 0),
  (⟨"WinkCircle$Seer", "leastPassingProof", "(LWinkCircle$Circle;I)I"⟩, prog_6_method_10_code, 4, (some .int), 4, 0),
  (⟨"WinkCircle$Seer", "setsThatSaw", "(LWinkCircle$Circle;II)I"⟩, prog_6_method_11_code, 9, (some .int), 4, 0),
  (⟨"WinkCircle$Seer", "sawTogether", "(LWinkCircle$Circle;I)I"⟩, prog_6_method_12_code, 4, (some .int), 4, 1),
  (⟨"WinkCircle$Seer", "partOf", "(LWinkCircle$Circle;II)I"⟩, prog_6_method_13_code, 8, (some .int), 4, 0),
  (⟨"WinkCircle$Seer", "whatComesOfTurns", "(LWinkCircle$Circle;II)I"⟩, prog_6_method_14_code, 4, (some .int), 4, 0),
  (⟨"WinkCircle$Seer", "outcomeOfTurns", "(LWinkCircle$Circle;LWinkCircle$Circle;III)I"⟩, prog_6_method_15_code, 11, (some .int), 4, 1),
  (⟨"WinkCircle$Seer", "hear", "(LWinkCircle$Rows;III)V"⟩, prog_6_method_16_code, 6, none, 4, 0),
  (⟨"WinkCircle$Seer", "isAsHeard", "()Z"⟩, prog_6_method_17_code, 2, (some .boolean), 4, 0),
  (⟨"WinkCircle$Seer", "fittingMurderers", "(LWinkCircle$Circle;)I"⟩, prog_6_method_18_code, 4, (some .int), 4, 0),
  (⟨"WinkCircle$Seer", "fittingKinds", "(LWinkCircle$Circle;I)I"⟩, prog_6_method_19_code, 5, (some .int), 4, 0),
  (⟨"WinkCircle$Seer", "fittingLooks", "(LWinkCircle$Circle;I)I"⟩, prog_6_method_20_code, 5, (some .int), 4, 0),
  (⟨"WinkCircle$Seer", "fittingSlownesses", "(LWinkCircle$Circle;I)I"⟩, prog_6_method_21_code, 5, (some .int), 4, 0),
  (⟨"WinkCircle$Seer", "weighSleep", "(LWinkCircle$Circle;II)V"⟩, prog_6_method_22_code, 10, none, 4, 0),
  (⟨"WinkCircle$Seer", "isFoundThough", "(LWinkCircle$Circle;II)Z"⟩, prog_6_method_23_code, 5, (some .boolean), 4, 0),
  (⟨"WinkCircle$Seer", "power", "(JI)J"⟩, prog_6_method_24_code, 6, (some .long), 4, 1),
  (⟨"WinkCircle$Seer", "reduce", "()V"⟩, prog_6_method_25_code, 8, none, 4, 0),
  (⟨"WinkCircle$Seer", "playDraws", "(LWinkCircle$Circle;II)V"⟩, prog_6_method_26_code, 9, none, 4, 0),
  (⟨"WinkCircle$Seer", "disturb", "(J)V"⟩, prog_6_method_27_code, 5, none, 4, 0),
  (⟨"WinkCircle$Tape", "isFull", "()Z"⟩, prog_7_method_2_code, 1, (some .boolean), 5, 0),
  (⟨"WinkCircle$Tape", "size", "()I"⟩, prog_7_method_3_code, 1, (some .int), 5, 0),
  (⟨"WinkCircle$Tape", "add", "(I)I"⟩, prog_7_method_4_code, 2, (some .int), 5, 0),
  (⟨"WinkCircle$Tape", "clear", "()V"⟩, prog_7_method_5_code, 1, none, 5, 0),
  (⟨"WinkCircle$Tape", "place", "()I"⟩, prog_7_method_6_code, 1, (some .int), 5, 0),
  (⟨"WinkCircle$Tape", "readInto", "(LWinkCircle$Circle;)I"⟩, prog_7_method_7_code, 3, (some .int), 5, 0),
  (⟨"WinkCircle$Tape", "readPlayer", "(LWinkCircle$Circle;I)V"⟩, prog_7_method_8_code, 4, none, 5, 0)]
def mList2 : List Mrow := [(⟨"WinkCircle$Tape", "sortOf", "(I)I"⟩, prog_7_method_9_code, 1, (some .int), 5, 1),
  (⟨"WinkCircle$Tape", "readSign", "(I)V"⟩, prog_7_method_10_code, 2, none, 5, 0),
  (⟨"WinkCircle$Tape", "readNumber", "(II)I"⟩, prog_7_method_11_code, 5, (some .int), 5, 0),
  (⟨"WinkCircle$Tape", "isFigureAt", "(I)Z"⟩, prog_7_method_12_code, 2, (some .boolean), 5, 0),
  (⟨"WinkCircle", "row", "(III)I"⟩, prog_1_method_2_code, 4, (some .int), 6, 0),
  (⟨"WinkCircle", "set", "(III)I"⟩, prog_1_method_3_code, 5, (some .int), 6, 0),
  (⟨"WinkCircle", "copy", "(IIIII)I"⟩, prog_1_method_4_code, 7, (some .int), 6, 0),
  (⟨"WinkCircle", "drop", "(I)I"⟩, prog_1_method_5_code, 2, (some .int), 6, 0),
  (⟨"WinkCircle", "feed", "(I)I"⟩, prog_1_method_6_code, 2, (some .int), 6, 0),
  (⟨"WinkCircle", "circle", "()I"⟩, prog_1_method_7_code, 3, (some .int), 6, 0),
  (⟨"WinkCircle", "fault", "()I"⟩, prog_1_method_8_code, 1, (some .int), 6, 0),
  (⟨"WinkCircle", "undo", "()I"⟩, prog_1_method_9_code, 1, (some .int), 6, 0),
  (⟨"WinkCircle", "ticks", "(I)I"⟩, prog_1_method_10_code, 3, (some .int), 6, 0),
  (⟨"WinkCircle", "turnHead", "(II)I"⟩, prog_1_method_11_code, 4, (some .int), 6, 0),
  (⟨"WinkCircle", "role", "(I)I"⟩, prog_1_method_12_code, 3, (some .int), 6, 0),
  (⟨"WinkCircle", "proof", "(I)I"⟩, prog_1_method_13_code, 3, (some .int), 6, 0),
  (⟨"WinkCircle", "rise", "(I)I"⟩, prog_1_method_14_code, 2, (some .int), 6, 0),
  (⟨"WinkCircle", "player", "(II)I"⟩, prog_1_method_15_code, 3, (some .int), 6, 0),
  (⟨"WinkCircle", "stand", "(I)I"⟩, prog_1_method_16_code, 2, (some .int), 6, 0),
  (⟨"WinkCircle", "ahead", "(III)I"⟩, prog_1_method_17_code, 5, (some .int), 6, 0),
  (⟨"WinkCircle", "toll", "(II)I"⟩, prog_1_method_18_code, 4, (some .int), 6, 0),
  (⟨"WinkCircle", "when", "(II)I"⟩, prog_1_method_19_code, 3, (some .int), 6, 0),
  (⟨"WinkCircle", "out", "()I"⟩, prog_1_method_20_code, 1, (some .int), 6, 0),
  (⟨"WinkCircle", "meet", "(II)I"⟩, prog_1_method_21_code, 3, (some .int), 6, 0),
  (⟨"WinkCircle", "bestRole", "(II)I"⟩, prog_1_method_22_code, 3, (some .int), 6, 0),
  (⟨"WinkCircle", "glance", "(II)I"⟩, prog_1_method_23_code, 3, (some .int), 6, 0),
  (⟨"WinkCircle", "pass", "(I)I"⟩, prog_1_method_24_code, 2, (some .int), 6, 0),
  (⟨"WinkCircle", "sets", "(II)I"⟩, prog_1_method_25_code, 3, (some .int), 6, 0),
  (⟨"WinkCircle", "share", "(II)I"⟩, prog_1_method_26_code, 3, (some .int), 6, 0),
  (⟨"WinkCircle", "byTurns", "(II)I"⟩, prog_1_method_27_code, 3, (some .int), 6, 0),
  (⟨"WinkCircle", "who", "(IIIII)I"⟩, prog_1_method_28_code, 7, (some .int), 6, 0),
  (⟨"WinkCircle", "sleep", "(III)J"⟩, prog_1_method_29_code, 4, (some .long), 6, 0),
  (⟨"WinkCircle", "drawn", "(III)I"⟩, prog_1_method_30_code, 4, (some .int), 6, 0),
  (⟨"WinkCircle", "image", "(I)I"⟩, prog_1_method_31_code, 2, (some .int), 6, 0),
  (⟨"WinkCircle", "restore", "(I)I"⟩, prog_1_method_32_code, 2, (some .int), 6, 0),
  (⟨"WinkCircle", "kind", "(I)I"⟩, prog_1_method_33_code, 2, (some .int), 6, 0),
  (⟨"WinkCircle", "as", "(II)I"⟩, prog_1_method_34_code, 3, (some .int), 6, 0),
  (⟨"WinkCircle", "ask", "(II)I"⟩, prog_1_method_35_code, 3, (some .int), 6, 0),
  (⟨"WinkCircle", "trace", "(I)I"⟩, prog_1_method_36_code, 2, (some .int), 6, 0),
  (⟨"WinkCircle", "count", "(I)I"⟩, prog_1_method_37_code, 2, (some .int), 6, 0)]
def mList3 : List Mrow := [(⟨"WinkCircle", "status", "()I"⟩, prog_1_method_38_code, 1, (some .int), 6, 0),
  (⟨"WinkCircle", "finding", "(I)I"⟩, prog_1_method_39_code, 2, (some .int), 6, 0),
  (⟨"WinkCircle", "unhindered", "(I)I"⟩, prog_1_method_40_code, 2, (some .int), 6, 0),
  (⟨"WinkCircle", "isRow", "(I)Z"⟩, prog_1_method_41_code, 1, (some .boolean), 6, 1),
  (⟨"WinkCircle", "isImage", "(I)Z"⟩, prog_1_method_42_code, 1, (some .boolean), 6, 1),
  (⟨"WinkCircle", "isHalf", "(I)Z"⟩, prog_1_method_43_code, 1, (some .boolean), 6, 1),
  (⟨"WinkCircle", "isOfKind", "(II)Z"⟩, prog_1_method_44_code, 2, (some .boolean), 6, 1),
  (⟨"WinkCircleModel", "in", "(III)Z"⟩, prog_9_method_3_code, 3, (some .boolean), 7, 1),
  (⟨"WinkCircleModel", "has", "(II)Z"⟩, prog_9_method_4_code, 2, (some .boolean), 7, 1),
  (⟨"WinkCircleModel", "found", "(I)I"⟩, prog_9_method_5_code, 2, (some .int), 7, 0),
  (⟨"WinkCircleModel", "well", "(I)I"⟩, prog_9_method_6_code, 2, (some .int), 7, 0),
  (⟨"WinkCircleModel", "isRow", "(I)Z"⟩, prog_9_method_7_code, 1, (some .boolean), 7, 1),
  (⟨"WinkCircleModel", "row", "(III)I"⟩, prog_9_method_8_code, 5, (some .int), 7, 0),
  (⟨"WinkCircleModel", "lowest", "(II)I"⟩, prog_9_method_9_code, 2, (some .int), 7, 1),
  (⟨"WinkCircleModel", "set", "(III)I"⟩, prog_9_method_10_code, 4, (some .int), 7, 0),
  (⟨"WinkCircleModel", "areIn", "(III)Z"⟩, prog_9_method_11_code, 4, (some .boolean), 7, 0),
  (⟨"WinkCircleModel", "copy", "(IIIII)I"⟩, prog_9_method_12_code, 7, (some .int), 7, 0),
  (⟨"WinkCircleModel", "drop", "(I)I"⟩, prog_9_method_13_code, 2, (some .int), 7, 0),
  (⟨"WinkCircleModel", "take", "()V"⟩, prog_9_method_14_code, 2, none, 7, 0),
  (⟨"WinkCircleModel", "know", "()V"⟩, prog_9_method_15_code, 2, none, 7, 0),
  (⟨"WinkCircleModel", "isPlayer", "(I)Z"⟩, prog_9_method_16_code, 2, (some .boolean), 7, 0),
  (⟨"WinkCircleModel", "seatBy", "([III)I"⟩, prog_9_method_17_code, 4, (some .int), 7, 1),
  (⟨"WinkCircleModel", "nextLiving", "([II)I"⟩, prog_9_method_18_code, 4, (some .int), 7, 1),
  (⟨"WinkCircleModel", "roves", "([III)I"⟩, prog_9_method_19_code, 5, (some .int), 7, 1),
  (⟨"WinkCircleModel", "lookOf", "([II)I"⟩, prog_9_method_20_code, 2, (some .int), 7, 1),
  (⟨"WinkCircleModel", "wink", "([I)V"⟩, prog_9_method_21_code, 4, none, 7, 1),
  (⟨"WinkCircleModel", "passOn", "([I)I"⟩, prog_9_method_22_code, 4, (some .int), 7, 0),
  (⟨"WinkCircleModel", "giveRole", "([II)V"⟩, prog_9_method_23_code, 3, none, 7, 1),
  (⟨"WinkCircleModel", "sitUp", "([II)V"⟩, prog_9_method_24_code, 2, none, 7, 1),
  (⟨"WinkCircleModel", "those", "([II)I"⟩, prog_9_method_25_code, 4, (some .int), 7, 1),
  (⟨"WinkCircleModel", "bitsOf", "(I)I"⟩, prog_9_method_26_code, 3, (some .int), 7, 1),
  (⟨"WinkCircleModel", "dead", "([I)I"⟩, prog_9_method_27_code, 1, (some .int), 7, 1),
  (⟨"WinkCircleModel", "feed", "(I)I"⟩, prog_9_method_28_code, 2, (some .int), 7, 0),
  (⟨"WinkCircleModel", "here", "()I"⟩, prog_9_method_29_code, 1, (some .int), 7, 0),
  (⟨"WinkCircleModel", "step", "()V"⟩, prog_9_method_30_code, 2, none, 7, 0),
  (⟨"WinkCircleModel", "due", "(ZI)V"⟩, prog_9_method_31_code, 3, none, 7, 0),
  (⟨"WinkCircleModel", "told", "(III)I"⟩, prog_9_method_32_code, 5, (some .int), 7, 0),
  (⟨"WinkCircleModel", "isLetter", "(I)Z"⟩, prog_9_method_33_code, 2, (some .boolean), 7, 0),
  (⟨"WinkCircleModel", "playerSort", "()I"⟩, prog_9_method_34_code, 1, (some .int), 7, 0),
  (⟨"WinkCircleModel", "readPlayer", "()V"⟩, prog_9_method_35_code, 5, none, 7, 0)]
def mList4 : List Mrow := [(⟨"WinkCircleModel", "circle", "()I"⟩, prog_9_method_36_code, 4, (some .int), 7, 0),
  (⟨"WinkCircleModel", "fault", "()I"⟩, prog_9_method_37_code, 1, (some .int), 7, 0),
  (⟨"WinkCircleModel", "undo", "()I"⟩, prog_9_method_38_code, 2, (some .int), 7, 0),
  (⟨"WinkCircleModel", "ticks", "(I)I"⟩, prog_9_method_39_code, 3, (some .int), 7, 0),
  (⟨"WinkCircleModel", "turnHead", "(II)I"⟩, prog_9_method_40_code, 4, (some .int), 7, 0),
  (⟨"WinkCircleModel", "role", "(I)I"⟩, prog_9_method_41_code, 3, (some .int), 7, 0),
  (⟨"WinkCircleModel", "proof", "(I)I"⟩, prog_9_method_42_code, 3, (some .int), 7, 0),
  (⟨"WinkCircleModel", "rise", "(I)I"⟩, prog_9_method_43_code, 2, (some .int), 7, 0),
  (⟨"WinkCircleModel", "seat", "(I)I"⟩, prog_9_method_44_code, 1, (some .int), 7, 1),
  (⟨"WinkCircleModel", "player", "(II)I"⟩, prog_9_method_45_code, 5, (some .int), 7, 0),
  (⟨"WinkCircleModel", "stand", "(I)I"⟩, prog_9_method_46_code, 2, (some .int), 7, 0),
  (⟨"WinkCircleModel", "passAll", "(I)V"⟩, prog_9_method_47_code, 3, none, 7, 0),
  (⟨"WinkCircleModel", "ahead", "(III)I"⟩, prog_9_method_48_code, 4, (some .int), 7, 0),
  (⟨"WinkCircleModel", "toll", "(II)I"⟩, prog_9_method_49_code, 3, (some .int), 7, 0),
  (⟨"WinkCircleModel", "when", "(II)I"⟩, prog_9_method_50_code, 4, (some .int), 7, 0),
  (⟨"WinkCircleModel", "out", "()I"⟩, prog_9_method_51_code, 2, (some .int), 7, 0),
  (⟨"WinkCircleModel", "meet", "(II)I"⟩, prog_9_method_52_code, 4, (some .int), 7, 0),
  (⟨"WinkCircleModel", "takeWith", "(I)V"⟩, prog_9_method_53_code, 2, none, 7, 0),
  (⟨"WinkCircleModel", "bestRole", "(II)I"⟩, prog_9_method_54_code, 7, (some .int), 7, 0),
  (⟨"WinkCircleModel", "glance", "(II)I"⟩, prog_9_method_55_code, 8, (some .int), 7, 0),
  (⟨"WinkCircleModel", "pass", "(I)I"⟩, prog_9_method_56_code, 3, (some .int), 7, 0),
  (⟨"WinkCircleModel", "sets", "(II)I"⟩, prog_9_method_57_code, 10, (some .int), 7, 0),
  (⟨"WinkCircleModel", "allSaw", "()I"⟩, prog_9_method_58_code, 3, (some .int), 7, 0),
  (⟨"WinkCircleModel", "share", "(II)I"⟩, prog_9_method_59_code, 7, (some .int), 7, 0),
  (⟨"WinkCircleModel", "deadBy", "(III)I"⟩, prog_9_method_60_code, 7, (some .int), 7, 0),
  (⟨"WinkCircleModel", "byTurns", "(II)I"⟩, prog_9_method_61_code, 10, (some .int), 7, 0),
  (⟨"WinkCircleModel", "isSo", "(III)Z"⟩, prog_9_method_62_code, 6, (some .boolean), 7, 0),
  (⟨"WinkCircleModel", "who", "(IIIII)I"⟩, prog_9_method_63_code, 11, (some .int), 7, 0),
  (⟨"WinkCircleModel", "sleep", "(III)J"⟩, prog_9_method_64_code, 15, (some .long), 7, 0),
  (⟨"WinkCircleModel", "drawn", "(III)I"⟩, prog_9_method_65_code, 11, (some .int), 7, 0),
  (⟨"WinkCircleModel", "image", "(I)I"⟩, prog_9_method_66_code, 3, (some .int), 7, 0),
  (⟨"WinkCircleModel", "restore", "(I)I"⟩, prog_9_method_67_code, 3, (some .int), 7, 0),
  (⟨"WinkCircleModel", "leave", "(I)V"⟩, prog_9_method_68_code, 2, none, 7, 0),
  (⟨"WinkCircleModel", "kind", "(I)I"⟩, prog_9_method_69_code, 2, (some .int), 7, 0),
  (⟨"WinkCircleModel", "as", "(II)I"⟩, prog_9_method_70_code, 5, (some .int), 7, 0),
  (⟨"WinkCircleModel", "body10", "(I)I"⟩, prog_9_method_71_code, 2, (some .int), 7, 0),
  (⟨"WinkCircleModel", "body20", "(I)I"⟩, prog_9_method_72_code, 2, (some .int), 7, 0),
  (⟨"WinkCircleModel", "body21", "(I)I"⟩, prog_9_method_73_code, 2, (some .int), 7, 0),
  (⟨"WinkCircleModel", "markOfRover", "(I)I"⟩, prog_9_method_74_code, 2, (some .int), 7, 0),
  (⟨"WinkCircleModel", "body11", "(I)I"⟩, prog_9_method_75_code, 3, (some .int), 7, 0)]
def mList5 : List Mrow := [(⟨"WinkCircleModel", "body13", "(I)I"⟩, prog_9_method_76_code, 2, (some .int), 7, 0),
  (⟨"WinkCircleModel", "sizeOf", "(I)I"⟩, prog_9_method_77_code, 2, (some .int), 7, 0),
  (⟨"WinkCircleModel", "markOf", "(I)I"⟩, prog_9_method_78_code, 3, (some .int), 7, 0),
  (⟨"WinkCircleModel", "ask", "(II)I"⟩, prog_9_method_79_code, 3, (some .int), 7, 0),
  (⟨"WinkCircleModel", "trace", "(I)I"⟩, prog_9_method_80_code, 2, (some .int), 7, 0),
  (⟨"WinkCircleModel", "count", "(I)I"⟩, prog_9_method_81_code, 4, (some .int), 7, 0),
  (⟨"WinkCircleModel", "status", "()I"⟩, prog_9_method_82_code, 1, (some .int), 7, 0),
  (⟨"java/lang/Integer", "bitCount", "(I)I"⟩, prog_10_method_49_code, 1, (some .int), 9, 1),
  (⟨"WinkCircleLaw", "law", "([I)Z"⟩, code, 4, (some .boolean), 8, 1)]
def mList : List Mrow := mList0 ++ (mList1 ++ (mList2 ++ (mList3 ++ (mList4 ++ (mList5)))))
def mRow (n : Nat) : Mrow := mList.getD n (⟨"", "", ""⟩, .empty, 0, none, 0, 0)
def mN (n : Nat) : MethodName := (mRow n).1
def mC (n : Nat) : ByteArray := (mRow n).2.1
def mL (n : Nat) : Nat := (mRow n).2.2.1
def mR (n : Nat) : Option FieldType := (mRow n).2.2.2.1
def mO (n : Nat) : Nat := (mRow n).2.2.2.2.1
def mS (n : Nat) : Nat := (mRow n).2.2.2.2.2
def cnL : List String := ["WinkCircle$Acts", "WinkCircle$Asks", "WinkCircle$Circle", "WinkCircle$Rows", "WinkCircle$Seer", "WinkCircle$Tape", "WinkCircle", "WinkCircleModel", "WinkCircleLaw", "java/lang/Integer"]
def cn (c : Nat) : String := cnL.getD c ""
def tg : List Cond := lw_tbl.filter goodWord
theorem tg_in {p : Nat} {c : Cond} (h : lw_tbl[p]? = some c) (hg : goodWord c = true) : c ∈ tg := List.mem_filter.mpr ⟨List.mem_of_getElem? h, hg⟩
theorem tg_sub {c : Cond} (h : c ∈ tg) : c ∈ lw_tbl := (List.mem_filter.mp h).1
/-- field rows: class, its constant, the class and place of the field, the word's place in the tables -/
def fRows : List (Nat × Nat × Nat × Nat × Nat) := [(0, 11, 0, 0, 191), (0, 18, 0, 1, 192), (0, 22, 0, 2, 193), (1, 11, 1, 0, 252), (1, 15, 1, 1, 253), (1, 19, 1, 2, 254), (1, 22, 1, 3, 255), (1, 25, 1, 4, 256), (1, 28, 1, 5, 257), (2, 9, 2, 6, 137), (2, 15, 2, 7, 141), (2, 18, 2, 8, 145), (2, 21, 2, 9, 149), (2, 24, 2, 10, 152), (2, 27, 2, 11, 154), (2, 30, 2, 0, 118), (2, 34, 2, 1, 122), (2, 37, 2, 2, 126), (2, 40, 2, 3, 130), (2, 43, 2, 4, 132), (2, 47, 2, 5, 135), (3, 13, 3, 0, 82), (3, 16, 3, 1, 83), (3, 20, 3, 2, 84), (4, 12, 4, 0, 209), (4, 18, 4, 1, 210), (4, 21, 4, 2, 211), (4, 33, 2, 9, 150), (4, 40, 2, 4, 133), (4, 44, 2, 7, 142), (4, 47, 4, 4, 213), (4, 51, 4, 5, 215), (4, 54, 2, 0, 119), (4, 69, 2, 1, 123), (4, 79, 2, 2, 128), (4, 90, 2, 11, 155), (4, 112, 4, 3, 212), (4, 124, 2, 6, 139), (4, 127, 2, 8, 148), (4, 135, 4, 8, 221), (4, 145, 4, 9, 223), (4, 155, 2, 5, 136), (4, 158, 4, 6, 217), (4, 161, 4, 7, 219), (5, 11, 5, 0, 99), (5, 15, 5, 1, 100), (5, 19, 5, 2, 101), (5, 22, 5, 3, 102), (5, 38, 2, 1, 124), (5, 41, 2, 2, 127), (5, 48, 2, 0, 121), (5, 58, 2, 6, 138), (5, 61, 2, 7, 143), (5, 64, 2, 8, 146), (6, 10, 6, 0, 271), (6, 19, 6, 1, 272), (6, 26, 6, 2, 273), (6, 30, 6, 3, 274), (6, 36, 6, 4, 275), (6, 40, 6, 5, 276), (6, 47, 6, 6, 277), (6, 54, 6, 7, 278), (6, 58, 6, 8, 279), (6, 62, 6, 9, 280), (6, 129, 2, 0, 120), (6, 142, 2, 3, 131), (6, 157, 2, 9, 151), (6, 161, 2, 7, 144), (6, 164, 2, 1, 125), (6, 171, 2, 2, 129), (6, 177, 2, 8, 147), (6, 180, 2, 10, 153), (6, 183, 2, 11, 156), (6, 189, 2, 4, 134), (6, 214, 4, 4, 214), (6, 217, 4, 5, 216), (6, 264, 4, 8, 222), (6, 268, 4, 9, 224), (6, 275, 4, 6, 218), (6, 278, 4, 7, 220), (6, 284, 2, 6, 140), (7, 7, 7, 0, 854), (7, 13, 7, 1, 855), (7, 16, 7, 2, 856), (7, 19, 7, 4, 858), (7, 22, 7, 6, 860), (7, 25, 7, 7, 861), (7, 28, 7, 8, 862), (7, 31, 7, 10, 864), (7, 34, 7, 11, 865), (7, 38, 7, 12, 866), (7, 41, 7, 13, 867), (7, 45, 7, 21, 875), (7, 48, 7, 22, 876), (7, 51, 7, 3, 857), (7, 79, 7, 9, 863), (7, 110, 7, 14, 868), (7, 114, 7, 16, 870), (7, 117, 7, 17, 871), (7, 124, 7, 19, 873), (7, 127, 7, 18, 872), (7, 130, 7, 20, 874), (7, 153, 7, 15, 869), (7, 157, 7, 5, 859), (7, 220, 7, 23, 877)]
def vwT (c : Nat) : u_T := (vwCl.getD c ("", fun _ => ("", "", "", false), 0)).2.1
theorem fRows_ok : ∀ r ∈ fRows, lw_tbl[r.2.2.2.2]? = some (.fieldLink (cn r.1) r.2.1 (vwT r.2.2.1 r.2.2.2.1).1 (vwT r.2.2.1 r.2.2.2.1).2.1 (vwT r.2.2.1 r.2.2.2.1).2.2.1) ∧ r.2.2.2.1 < nf r.2.2.1 ∧ r.2.2.1 < 8 := by decide +kernel
def cRows : List (Nat × Nat × Int32 × Nat) := [(1, 31, -1000000, 829), (2, 50, -1000000, 392), (4, 39, -1000000, 582), (6, 69, -1000001, 309), (6, 106, -1000003, 375), (6, 121, -1000100, 428), (6, 135, -1000002, 449), (6, 223, -1000000, 628), (6, 271, 999999, 748), (6, 313, -1000010, 314), (7, 55, -1000010, 944), (7, 64, -1000001, 939), (7, 113, -1000003, 972), (7, 156, -1000100, 1005), (7, 161, -1000002, 1014), (7, 172, -1000000, 1056), (7, 211, 999999, 1175), (9, 265, 1431655765, 729), (9, 266, 858993459, 730), (9, 267, 252645135, 731)]
theorem cRows_ok : ∀ r ∈ cRows, lw_tbl[r.2.2.2]? = some (.constant (cn r.1) r.2.1 r.2.2.1) := by decide +kernel
def lRows : List (Nat × Nat × Int64 × Nat) := [(4, 139, 10, 732), (4, 164, 16807, 753), (4, 166, 2147483647, 754), (4, 175, 3, 760), (4, 177, 8, 761), (6, 256, -1000002, 720), (6, 258, -1000001, 721), (7, 205, -1000002, 1168), (7, 207, -1000001, 1169), (7, 209, 10, 1170), (7, 212, 16807, 1176), (7, 214, 2147483647, 1177), (7, 216, 8, 1178), (7, 218, 3, 1179)]
theorem lRows_ok : ∀ r ∈ lRows, lw_tbl[r.2.2.2]? = some (.constantLong (cn r.1) r.2.1 r.2.2.1) := by decide +kernel
def mRows : List (Nat × Nat × Nat × Nat) := [(0, 25, 14, 454),
  (1, 36, 10, 797),
  (1, 40, 9, 805),
  (1, 43, 12, 817),
  (1, 46, 11, 809),
  (1, 49, 6, 801),
  (2, 51, 19, 416),
  (2, 55, 17, 499),
  (2, 59, 29, 565),
  (2, 62, 30, 471),
  (2, 65, 34, 495),
  (2, 68, 36, 507),
  (2, 71, 27, 475),
  (2, 74, 31, 479),
  (2, 77, 32, 483),
  (2, 80, 33, 491),
  (2, 83, 20, 487),
  (2, 86, 35, 503),
  (3, 29, 42, 331),
  (3, 33, 46, 335),
  (4, 25, 14, 560),
  (4, 29, 28, 561),
  (4, 36, 29, 581),
  (4, 57, 52, 607),
  (4, 61, 22, 612),
  (4, 65, 54, 616),
  (4, 72, 25, 611),
  (4, 75, 17, 633),
  (4, 82, 21, 650),
  (4, 86, 57, 651),
  (4, 93, 24, 662),
  (4, 96, 60, 674),
  (4, 100, 19, 677),
  (4, 115, 39, 692),
  (4, 120, 62, 700),
  (4, 130, 207, 726),
  (4, 141, 69, 733),
  (4, 148, 68, 736),
  (4, 152, 70, 740),
  (4, 168, 72, 755),
  (4, 172, 26, 759),
  (5, 25, 13, 388),
  (5, 30, 81, 393),
  (5, 34, 82, 397),
  (5, 44, 79, 405),
  (5, 51, 15, 412),
  (5, 54, 80, 409),
  (5, 67, 83, 401),
  (6, 65, 123, 306),
  (6, 70, 121, 310),
  (6, 74, 37, 315),
  (6, 78, 122, 319),
  (6, 81, 44, 327),
  (6, 85, 38, 339),
  (6, 88, 45, 347),
  (6, 92, 40, 351),
  (6, 96, 42, 362),
  (6, 99, 41, 363),
  (6, 102, 73, 371),
  (6, 107, 75, 376),
  (6, 110, 78, 384),
  (6, 114, 77, 420),
  (6, 118, 76, 424),
  (6, 122, 14, 429),
  (6, 126, 1, 433),
  (6, 132, 0, 445),
  (6, 136, 3, 450),
  (6, 139, 16, 459),
  (6, 145, 2, 463),
  (6, 148, 29, 467),
  (6, 151, 21, 511),
  (6, 154, 17, 519),
  (6, 167, 25, 524),
  (6, 174, 26, 536),
  (6, 186, 23, 544),
  (6, 193, 47, 556),
  (6, 197, 125, 570),
  (6, 200, 48, 577),
  (6, 204, 49, 587),
  (6, 207, 50, 595),
  (6, 210, 51, 603),
  (6, 220, 18, 624),
  (6, 224, 53, 629),
  (6, 227, 55, 638),
  (6, 231, 56, 646),
  (6, 234, 58, 658),
  (6, 237, 59, 670),
  (6, 240, 61, 688),
  (6, 244, 63, 696),
  (6, 247, 64, 704),
  (6, 250, 65, 708),
  (6, 253, 66, 712),
  (6, 260, 67, 722),
  (6, 272, 71, 749),
  (6, 281, 124, 766),
  (6, 287, 126, 781),
  (6, 291, 4, 788),
  (6, 295, 7, 792),
  (6, 298, 8, 813),
  (6, 301, 5, 825),
  (6, 303, 43, 834),
  (6, 306, 22, 838),
  (6, 309, 24, 839),
  (6, 312, 74, 840),
  (7, 56, 127, 936),
  (7, 60, 131, 933),
  (7, 65, 129, 940),
  (7, 69, 130, 945),
  (7, 72, 133, 953),
  (7, 76, 135, 960),
  (7, 82, 141, 1036),
  (7, 86, 128, 1030),
  (7, 90, 143, 1033),
  (7, 93, 142, 1039),
  (7, 97, 144, 1027),
  (7, 100, 145, 1042),
  (7, 104, 149, 1045),
  (7, 107, 150, 1125),
  (7, 120, 153, 981),
  (7, 133, 154, 977),
  (7, 136, 155, 989),
  (7, 140, 157, 985),
  (7, 143, 158, 997),
  (7, 146, 156, 993),
  (7, 150, 159, 1001),
  (7, 162, 139, 1019),
  (7, 165, 146, 1023),
  (7, 169, 140, 1052),
  (7, 173, 147, 1061),
  (7, 177, 148, 1072),
  (7, 180, 168, 1079),
  (7, 183, 138, 1090),
  (7, 186, 171, 1094),
  (7, 190, 177, 1118),
  (7, 193, 151, 1122),
  (7, 196, 182, 1144),
  (7, 199, 184, 1152),
  (7, 202, 186, 1160),
  (7, 223, 192, 1204),
  (7, 226, 196, 1224),
  (7, 229, 197, 1220),
  (7, 232, 195, 1212),
  (7, 235, 198, 1216),
  (7, 238, 199, 1208),
  (7, 241, 200, 1228),
  (7, 244, 201, 1200),
  (7, 247, 202, 1232),
  (8, 13, 84, 302),
  (8, 17, 132, 929),
  (8, 18, 85, 323),
  (8, 21, 134, 949),
  (8, 22, 86, 343),
  (8, 26, 136, 956),
  (8, 27, 87, 358),
  (8, 31, 137, 964),
  (8, 32, 88, 367),
  (8, 35, 152, 968),
  (8, 36, 89, 380),
  (8, 40, 160, 973),
  (8, 41, 90, 437),
  (8, 44, 161, 1006),
  (8, 45, 91, 441),
  (8, 48, 162, 1010),
  (8, 49, 92, 455),
  (8, 52, 163, 1015),
  (8, 53, 93, 515),
  (8, 57, 164, 1048),
  (8, 58, 94, 520),
  (8, 61, 165, 1057),
  (8, 62, 95, 528),
  (8, 65, 166, 1064),
  (8, 66, 96, 532),
  (8, 69, 167, 1068),
  (8, 70, 97, 540),
  (8, 73, 169, 1075),
  (8, 74, 98, 548),
  (8, 77, 170, 1082),
  (8, 78, 99, 552),
  (8, 81, 172, 1086),
  (8, 82, 100, 566),
  (8, 85, 173, 1098),
  (8, 86, 101, 573),
  (8, 89, 174, 1102),
  (8, 90, 102, 583),
  (8, 93, 175, 1106),
  (8, 94, 103, 591),
  (8, 97, 176, 1110),
  (8, 98, 104, 599),
  (8, 101, 178, 1114),
  (8, 102, 105, 620),
  (8, 105, 179, 1128),
  (8, 106, 106, 634),
  (8, 109, 180, 1132),
  (8, 110, 107, 642),
  (8, 113, 181, 1136),
  (8, 114, 108, 654),
  (8, 117, 183, 1140),
  (8, 118, 109, 666),
  (8, 121, 185, 1148),
  (8, 122, 110, 684),
  (8, 125, 187, 1156),
  (8, 126, 111, 716),
  (8, 130, 188, 1164),
  (8, 131, 112, 744),
  (8, 134, 189, 1171),
  (8, 135, 113, 762),
  (8, 138, 190, 1180),
  (8, 139, 114, 769),
  (8, 142, 191, 1184),
  (8, 143, 115, 773),
  (8, 146, 193, 1188),
  (8, 147, 116, 777),
  (8, 150, 194, 1192),
  (8, 151, 117, 784),
  (8, 154, 203, 1196),
  (8, 155, 118, 821),
  (8, 158, 204, 1236),
  (8, 159, 119, 830),
  (8, 162, 205, 1240),
  (8, 163, 120, 844),
  (8, 166, 206, 1244)]
theorem mRows_ok : ∀ r ∈ mRows, lw_tbl[r.2.2.2]? = some (.methodLink (cn r.1) r.2.1 (mN r.2.2.1)) := by decide +kernel
/-- calls by a nest mate, outside of its own class -/
def nRows : List (Nat × Nat × Nat × Nat) := [(1, 32, 126, 796)]
def nW (r : Nat × Nat × Nat × Nat) : Cond := .methodLinkNest (cn r.1) r.2.1 (mN r.2.2.1) "WinkCircle"
theorem nRows_ok : ∀ r ∈ nRows, lw_tbl[r.2.2.2]? = some (nW r) := by decide +kernel
def nwOk (s : State) : Prop := ∀ r ∈ nRows, va_Nw (nW r) s
def cpyI : Nat × Nat × Nat := (3, 23, 355)
theorem cpy_ok : lw_tbl[cpyI.2.2]? = some (.methodLink (cn cpyI.1) cpyI.2.1 arraycopyName) ∧ lw_tbl[357]? = some (.native arraycopyName) ∧ lw_tbl[356]? = some (.static arraycopyName) ∧ lw_tbl[63]? = some (.initialized "java/lang/System") := by decide +kernel
def mmaxI : Nat × Nat := (4, 103)
theorem mmax_ok : lw_tbl[678]? = some (.methodLink (cn mmaxI.1) mmaxI.2 Lib.Math.max.name) ∧ lw_tbl[679]? = some (.static Lib.Math.max.name) ∧ lw_tbl[64]? = some (.initialized "java/lang/Math") := by decide +kernel
theorem mmax_code : lw_tbl[680]? = some (.code Lib.Math.max.name Lib.Math.max.code 2 (some .int)) := by decide +kernel
def mminI : Nat × Nat := (4, 109)
theorem mmin_ok : lw_tbl[681]? = some (.methodLink (cn mminI.1) mminI.2 Lib.Math.min.name) ∧ lw_tbl[682]? = some (.static Lib.Math.min.name) ∧ lw_tbl[64]? = some (.initialized "java/lang/Math") := by decide +kernel
theorem mmin_code : lw_tbl[683]? = some (.code Lib.Math.min.name Lib.Math.min.code 2 (some .int)) := by decide +kernel
/-- methods that are called: number, places of code, initialized, static or instanceMethod, selects -/
def eRows : List (Nat × Nat × Nat × Nat × Nat) := [(0, 448, 59, 446, 447),
  (1, 436, 59, 434, 435),
  (2, 466, 59, 464, 465),
  (3, 453, 59, 451, 452),
  (4, 791, 61, 789, 790),
  (5, 828, 61, 826, 827),
  (6, 804, 61, 803, 22),
  (7, 795, 61, 793, 794),
  (8, 816, 61, 814, 815),
  (9, 808, 61, 807, 23),
  (10, 800, 61, 799, 21),
  (11, 812, 61, 811, 24),
  (12, 820, 61, 819, 25),
  (13, 391, 58, 389, 390),
  (14, 432, 58, 430, 431),
  (15, 415, 58, 413, 414),
  (16, 462, 58, 460, 461),
  (17, 502, 58, 500, 501),
  (18, 627, 58, 625, 626),
  (19, 419, 58, 417, 418),
  (20, 490, 58, 488, 489),
  (21, 514, 58, 512, 513),
  (22, 615, 58, 613, 614),
  (23, 547, 58, 545, 546),
  (24, 665, 58, 663, 664),
  (25, 527, 58, 525, 526),
  (26, 539, 58, 537, 538),
  (27, 478, 58, 477, 8),
  (28, 564, 58, 562, 563),
  (29, 470, 58, 468, 469),
  (30, 474, 58, 473, 7),
  (31, 482, 58, 481, 9),
  (32, 486, 58, 485, 10),
  (33, 494, 58, 493, 11),
  (34, 498, 58, 497, 12),
  (35, 506, 58, 505, 13),
  (36, 510, 58, 509, 14),
  (37, 318, 56, 316, 317),
  (38, 342, 56, 340, 341),
  (39, 695, 56, 693, 694),
  (40, 354, 56, 352, 353),
  (41, 366, 56, 364, 365),
  (42, 334, 56, 332, 333),
  (43, 837, 56, 835, 836),
  (44, 330, 56, 328, 329),
  (45, 350, 56, 348, 349),
  (46, 338, 56, 337, 2),
  (47, 559, 60, 557, 558),
  (48, 580, 60, 578, 579),
  (49, 590, 60, 588, 589),
  (50, 598, 60, 596, 597),
  (51, 606, 60, 604, 605),
  (52, 610, 60, 609, 15),
  (53, 632, 60, 630, 631),
  (54, 619, 60, 618, 16),
  (55, 641, 60, 639, 640),
  (56, 649, 60, 647, 648),
  (57, 653, 60, 652, 0),
  (58, 661, 60, 659, 660),
  (59, 673, 60, 671, 672),
  (60, 676, 60, 675, 0),
  (61, 691, 60, 689, 690),
  (62, 703, 60, 702, 17),
  (63, 699, 60, 697, 698),
  (64, 707, 60, 705, 706),
  (65, 711, 60, 709, 710),
  (66, 715, 60, 713, 714),
  (67, 725, 60, 723, 724),
  (68, 739, 60, 738, 18),
  (69, 735, 60, 734, 0),
  (70, 743, 60, 742, 19),
  (71, 752, 60, 750, 751),
  (72, 758, 60, 757, 20),
  (73, 374, 57, 372, 373),
  (74, 843, 57, 841, 842),
  (75, 379, 57, 377, 378),
  (76, 427, 57, 425, 426),
  (77, 423, 57, 421, 422),
  (78, 387, 57, 385, 386),
  (79, 408, 57, 407, 6),
  (80, 411, 57, 410, 0),
  (81, 396, 57, 395, 3),
  (82, 400, 57, 399, 4),
  (83, 404, 57, 403, 5),
  (84, 305, 55, 303, 304),
  (85, 326, 55, 324, 325),
  (86, 346, 55, 344, 345),
  (87, 361, 55, 359, 360),
  (88, 370, 55, 368, 369),
  (89, 383, 55, 381, 382),
  (90, 440, 55, 438, 439),
  (91, 444, 55, 442, 443),
  (92, 458, 55, 456, 457),
  (93, 518, 55, 516, 517),
  (94, 523, 55, 521, 522),
  (95, 531, 55, 529, 530),
  (96, 535, 55, 533, 534),
  (97, 543, 55, 541, 542),
  (98, 551, 55, 549, 550),
  (99, 555, 55, 553, 554),
  (100, 569, 55, 567, 568),
  (101, 576, 55, 574, 575),
  (102, 586, 55, 584, 585),
  (103, 594, 55, 592, 593),
  (104, 602, 55, 600, 601),
  (105, 623, 55, 621, 622),
  (106, 637, 55, 635, 636),
  (107, 645, 55, 643, 644),
  (108, 657, 55, 655, 656),
  (109, 669, 55, 667, 668),
  (110, 687, 55, 685, 686),
  (111, 719, 55, 717, 718),
  (112, 747, 55, 745, 746),
  (113, 765, 55, 763, 764),
  (114, 772, 55, 770, 771),
  (115, 776, 55, 774, 775),
  (116, 780, 55, 778, 779),
  (117, 787, 55, 785, 786),
  (118, 824, 55, 822, 823),
  (119, 833, 55, 831, 832),
  (120, 847, 55, 845, 846),
  (121, 313, 55, 312, 0),
  (122, 322, 55, 321, 1),
  (123, 308, 55, 307, 0),
  (124, 768, 55, 767, 0),
  (125, 572, 55, 571, 0),
  (126, 783, 55, 782, 0),
  (127, 938, 62, 937, 0),
  (128, 1032, 62, 1031, 0),
  (129, 943, 62, 942, 26),
  (130, 948, 62, 947, 27),
  (131, 935, 62, 934, 0),
  (132, 932, 62, 930, 931),
  (133, 955, 62, 954, 0),
  (134, 952, 62, 950, 951),
  (135, 963, 62, 962, 28),
  (136, 959, 62, 957, 958),
  (137, 967, 62, 965, 966),
  (138, 1093, 62, 1092, 39),
  (139, 1022, 62, 1021, 36),
  (140, 1055, 62, 1054, 38),
  (141, 1038, 62, 1037, 0),
  (142, 1041, 62, 1040, 0),
  (143, 1035, 62, 1034, 0),
  (144, 1029, 62, 1028, 0),
  (145, 1044, 62, 1043, 0),
  (146, 1026, 62, 1025, 37),
  (147, 1063, 62, 1062, 0),
  (148, 1074, 62, 1073, 0),
  (149, 1047, 62, 1046, 0),
  (150, 1127, 62, 1126, 0),
  (151, 1124, 62, 1123, 0),
  (152, 971, 62, 969, 970),
  (153, 984, 62, 983, 30),
  (154, 980, 62, 979, 29),
  (155, 992, 62, 991, 32),
  (156, 996, 62, 995, 33),
  (157, 988, 62, 987, 31),
  (158, 1000, 62, 999, 34),
  (159, 1004, 62, 1003, 35),
  (160, 976, 62, 974, 975),
  (161, 1009, 62, 1007, 1008),
  (162, 1013, 62, 1011, 1012),
  (163, 1018, 62, 1016, 1017),
  (164, 1051, 62, 1049, 1050),
  (165, 1060, 62, 1058, 1059),
  (166, 1067, 62, 1065, 1066),
  (167, 1071, 62, 1069, 1070),
  (168, 1081, 62, 1080, 0),
  (169, 1078, 62, 1076, 1077),
  (170, 1085, 62, 1083, 1084),
  (171, 1097, 62, 1096, 40),
  (172, 1089, 62, 1087, 1088),
  (173, 1101, 62, 1099, 1100),
  (174, 1105, 62, 1103, 1104),
  (175, 1109, 62, 1107, 1108),
  (176, 1113, 62, 1111, 1112),
  (177, 1121, 62, 1120, 41),
  (178, 1117, 62, 1115, 1116),
  (179, 1131, 62, 1129, 1130),
  (180, 1135, 62, 1133, 1134),
  (181, 1139, 62, 1137, 1138),
  (182, 1147, 62, 1146, 42),
  (183, 1143, 62, 1141, 1142),
  (184, 1155, 62, 1154, 43),
  (185, 1151, 62, 1149, 1150),
  (186, 1163, 62, 1162, 44),
  (187, 1159, 62, 1157, 1158),
  (188, 1167, 62, 1165, 1166),
  (189, 1174, 62, 1172, 1173),
  (190, 1183, 62, 1181, 1182),
  (191, 1187, 62, 1185, 1186),
  (192, 1207, 62, 1206, 46),
  (193, 1191, 62, 1189, 1190),
  (194, 1195, 62, 1193, 1194),
  (195, 1215, 62, 1214, 48),
  (196, 1227, 62, 1226, 51),
  (197, 1223, 62, 1222, 50),
  (198, 1219, 62, 1218, 49),
  (199, 1211, 62, 1210, 47),
  (200, 1231, 62, 1230, 52),
  (201, 1203, 62, 1202, 45),
  (202, 1235, 62, 1234, 53),
  (203, 1199, 62, 1197, 1198),
  (204, 1239, 62, 1237, 1238),
  (205, 1243, 62, 1241, 1242),
  (206, 1247, 62, 1245, 1246),
  (207, 728, 65, 727, 0)]
theorem cd_0 : Cond.code (mN 0) (mC 0) (mL 0) (mR 0) ∈ lw_tbl := List.mem_append_right _ (List.mem_append_right _ (List.mem_append_left _ (List.mem_of_getElem? (i := 154) rfl)))
theorem cd_1 : Cond.code (mN 1) (mC 1) (mL 1) (mR 1) ∈ lw_tbl := List.mem_append_right _ (List.mem_append_right _ (List.mem_append_left _ (List.mem_of_getElem? (i := 142) rfl)))
theorem cd_2 : Cond.code (mN 2) (mC 2) (mL 2) (mR 2) ∈ lw_tbl := List.mem_append_right _ (List.mem_append_right _ (List.mem_append_left _ (List.mem_of_getElem? (i := 172) rfl)))
theorem cd_3 : Cond.code (mN 3) (mC 3) (mL 3) (mR 3) ∈ lw_tbl := List.mem_append_right _ (List.mem_append_right _ (List.mem_append_left _ (List.mem_of_getElem? (i := 159) rfl)))
theorem cd_4 : Cond.code (mN 4) (mC 4) (mL 4) (mR 4) ∈ lw_tbl := List.mem_append_right _ (List.mem_append_right _ (List.mem_append_right _ (List.mem_append_right _ (List.mem_append_left _ (List.mem_of_getElem? (i := 17) rfl)))))
theorem cd_5 : Cond.code (mN 5) (mC 5) (mL 5) (mR 5) ∈ lw_tbl := List.mem_append_right _ (List.mem_append_right _ (List.mem_append_right _ (List.mem_append_right _ (List.mem_append_left _ (List.mem_of_getElem? (i := 54) rfl)))))
theorem cd_6 : Cond.code (mN 6) (mC 6) (mL 6) (mR 6) ∈ lw_tbl := List.mem_append_right _ (List.mem_append_right _ (List.mem_append_right _ (List.mem_append_right _ (List.mem_append_left _ (List.mem_of_getElem? (i := 30) rfl)))))
theorem cd_7 : Cond.code (mN 7) (mC 7) (mL 7) (mR 7) ∈ lw_tbl := List.mem_append_right _ (List.mem_append_right _ (List.mem_append_right _ (List.mem_append_right _ (List.mem_append_left _ (List.mem_of_getElem? (i := 21) rfl)))))
theorem cd_8 : Cond.code (mN 8) (mC 8) (mL 8) (mR 8) ∈ lw_tbl := List.mem_append_right _ (List.mem_append_right _ (List.mem_append_right _ (List.mem_append_right _ (List.mem_append_left _ (List.mem_of_getElem? (i := 42) rfl)))))
theorem cd_9 : Cond.code (mN 9) (mC 9) (mL 9) (mR 9) ∈ lw_tbl := List.mem_append_right _ (List.mem_append_right _ (List.mem_append_right _ (List.mem_append_right _ (List.mem_append_left _ (List.mem_of_getElem? (i := 34) rfl)))))
theorem cd_10 : Cond.code (mN 10) (mC 10) (mL 10) (mR 10) ∈ lw_tbl := List.mem_append_right _ (List.mem_append_right _ (List.mem_append_right _ (List.mem_append_right _ (List.mem_append_left _ (List.mem_of_getElem? (i := 26) rfl)))))
theorem cd_11 : Cond.code (mN 11) (mC 11) (mL 11) (mR 11) ∈ lw_tbl := List.mem_append_right _ (List.mem_append_right _ (List.mem_append_right _ (List.mem_append_right _ (List.mem_append_left _ (List.mem_of_getElem? (i := 38) rfl)))))
theorem cd_12 : Cond.code (mN 12) (mC 12) (mL 12) (mR 12) ∈ lw_tbl := List.mem_append_right _ (List.mem_append_right _ (List.mem_append_right _ (List.mem_append_right _ (List.mem_append_left _ (List.mem_of_getElem? (i := 46) rfl)))))
theorem cd_13 : Cond.code (mN 13) (mC 13) (mL 13) (mR 13) ∈ lw_tbl := List.mem_append_right _ (List.mem_append_right _ (List.mem_append_left _ (List.mem_of_getElem? (i := 97) rfl)))
theorem cd_14 : Cond.code (mN 14) (mC 14) (mL 14) (mR 14) ∈ lw_tbl := List.mem_append_right _ (List.mem_append_right _ (List.mem_append_left _ (List.mem_of_getElem? (i := 138) rfl)))
theorem cd_15 : Cond.code (mN 15) (mC 15) (mL 15) (mR 15) ∈ lw_tbl := List.mem_append_right _ (List.mem_append_right _ (List.mem_append_left _ (List.mem_of_getElem? (i := 121) rfl)))
theorem cd_16 : Cond.code (mN 16) (mC 16) (mL 16) (mR 16) ∈ lw_tbl := List.mem_append_right _ (List.mem_append_right _ (List.mem_append_left _ (List.mem_of_getElem? (i := 168) rfl)))
theorem cd_17 : Cond.code (mN 17) (mC 17) (mL 17) (mR 17) ∈ lw_tbl := List.mem_append_right _ (List.mem_append_right _ (List.mem_append_left _ (List.mem_of_getElem? (i := 208) rfl)))
theorem cd_18 : Cond.code (mN 18) (mC 18) (mL 18) (mR 18) ∈ lw_tbl := List.mem_append_right _ (List.mem_append_right _ (List.mem_append_right _ (List.mem_append_left _ (List.mem_of_getElem? (i := 93) rfl))))
theorem cd_19 : Cond.code (mN 19) (mC 19) (mL 19) (mR 19) ∈ lw_tbl := List.mem_append_right _ (List.mem_append_right _ (List.mem_append_left _ (List.mem_of_getElem? (i := 125) rfl)))
theorem cd_20 : Cond.code (mN 20) (mC 20) (mL 20) (mR 20) ∈ lw_tbl := List.mem_append_right _ (List.mem_append_right _ (List.mem_append_left _ (List.mem_of_getElem? (i := 196) rfl)))
theorem cd_21 : Cond.code (mN 21) (mC 21) (mL 21) (mR 21) ∈ lw_tbl := List.mem_append_right _ (List.mem_append_right _ (List.mem_append_left _ (List.mem_of_getElem? (i := 220) rfl)))
theorem cd_22 : Cond.code (mN 22) (mC 22) (mL 22) (mR 22) ∈ lw_tbl := List.mem_append_right _ (List.mem_append_right _ (List.mem_append_right _ (List.mem_append_left _ (List.mem_of_getElem? (i := 81) rfl))))
theorem cd_23 : Cond.code (mN 23) (mC 23) (mL 23) (mR 23) ∈ lw_tbl := List.mem_append_right _ (List.mem_append_right _ (List.mem_append_right _ (List.mem_append_left _ (List.mem_of_getElem? (i := 13) rfl))))
theorem cd_24 : Cond.code (mN 24) (mC 24) (mL 24) (mR 24) ∈ lw_tbl := List.mem_append_right _ (List.mem_append_right _ (List.mem_append_right _ (List.mem_append_left _ (List.mem_of_getElem? (i := 131) rfl))))
theorem cd_25 : Cond.code (mN 25) (mC 25) (mL 25) (mR 25) ∈ lw_tbl := List.mem_append_right _ (List.mem_append_right _ (List.mem_append_left _ (List.mem_of_getElem? (i := 233) rfl)))
theorem cd_26 : Cond.code (mN 26) (mC 26) (mL 26) (mR 26) ∈ lw_tbl := List.mem_append_right _ (List.mem_append_right _ (List.mem_append_right _ (List.mem_append_left _ (List.mem_of_getElem? (i := 5) rfl))))
theorem cd_27 : Cond.code (mN 27) (mC 27) (mL 27) (mR 27) ∈ lw_tbl := List.mem_append_right _ (List.mem_append_right _ (List.mem_append_left _ (List.mem_of_getElem? (i := 184) rfl)))
theorem cd_28 : Cond.code (mN 28) (mC 28) (mL 28) (mR 28) ∈ lw_tbl := List.mem_append_right _ (List.mem_append_right _ (List.mem_append_right _ (List.mem_append_left _ (List.mem_of_getElem? (i := 30) rfl))))
theorem cd_29 : Cond.code (mN 29) (mC 29) (mL 29) (mR 29) ∈ lw_tbl := List.mem_append_right _ (List.mem_append_right _ (List.mem_append_left _ (List.mem_of_getElem? (i := 176) rfl)))
theorem cd_30 : Cond.code (mN 30) (mC 30) (mL 30) (mR 30) ∈ lw_tbl := List.mem_append_right _ (List.mem_append_right _ (List.mem_append_left _ (List.mem_of_getElem? (i := 180) rfl)))
theorem cd_31 : Cond.code (mN 31) (mC 31) (mL 31) (mR 31) ∈ lw_tbl := List.mem_append_right _ (List.mem_append_right _ (List.mem_append_left _ (List.mem_of_getElem? (i := 188) rfl)))
theorem cd_32 : Cond.code (mN 32) (mC 32) (mL 32) (mR 32) ∈ lw_tbl := List.mem_append_right _ (List.mem_append_right _ (List.mem_append_left _ (List.mem_of_getElem? (i := 192) rfl)))
theorem cd_33 : Cond.code (mN 33) (mC 33) (mL 33) (mR 33) ∈ lw_tbl := List.mem_append_right _ (List.mem_append_right _ (List.mem_append_left _ (List.mem_of_getElem? (i := 200) rfl)))
theorem cd_34 : Cond.code (mN 34) (mC 34) (mL 34) (mR 34) ∈ lw_tbl := List.mem_append_right _ (List.mem_append_right _ (List.mem_append_left _ (List.mem_of_getElem? (i := 204) rfl)))
theorem cd_35 : Cond.code (mN 35) (mC 35) (mL 35) (mR 35) ∈ lw_tbl := List.mem_append_right _ (List.mem_append_right _ (List.mem_append_left _ (List.mem_of_getElem? (i := 212) rfl)))
theorem cd_36 : Cond.code (mN 36) (mC 36) (mL 36) (mR 36) ∈ lw_tbl := List.mem_append_right _ (List.mem_append_right _ (List.mem_append_left _ (List.mem_of_getElem? (i := 216) rfl)))
theorem cd_37 : Cond.code (mN 37) (mC 37) (mL 37) (mR 37) ∈ lw_tbl := List.mem_append_right _ (List.mem_append_right _ (List.mem_append_left _ (List.mem_of_getElem? (i := 24) rfl)))
theorem cd_38 : Cond.code (mN 38) (mC 38) (mL 38) (mR 38) ∈ lw_tbl := List.mem_append_right _ (List.mem_append_right _ (List.mem_append_left _ (List.mem_of_getElem? (i := 48) rfl)))
theorem cd_39 : Cond.code (mN 39) (mC 39) (mL 39) (mR 39) ∈ lw_tbl := List.mem_append_right _ (List.mem_append_right _ (List.mem_append_right _ (List.mem_append_left _ (List.mem_of_getElem? (i := 161) rfl))))
theorem cd_40 : Cond.code (mN 40) (mC 40) (mL 40) (mR 40) ∈ lw_tbl := List.mem_append_right _ (List.mem_append_right _ (List.mem_append_left _ (List.mem_of_getElem? (i := 60) rfl)))
theorem cd_41 : Cond.code (mN 41) (mC 41) (mL 41) (mR 41) ∈ lw_tbl := List.mem_append_right _ (List.mem_append_right _ (List.mem_append_left _ (List.mem_of_getElem? (i := 72) rfl)))
theorem cd_42 : Cond.code (mN 42) (mC 42) (mL 42) (mR 42) ∈ lw_tbl := List.mem_append_right _ (List.mem_append_right _ (List.mem_append_left _ (List.mem_of_getElem? (i := 40) rfl)))
theorem cd_43 : Cond.code (mN 43) (mC 43) (mL 43) (mR 43) ∈ lw_tbl := List.mem_append_right _ (List.mem_append_right _ (List.mem_append_right _ (List.mem_append_right _ (List.mem_append_left _ (List.mem_of_getElem? (i := 63) rfl)))))
theorem cd_44 : Cond.code (mN 44) (mC 44) (mL 44) (mR 44) ∈ lw_tbl := List.mem_append_right _ (List.mem_append_right _ (List.mem_append_left _ (List.mem_of_getElem? (i := 36) rfl)))
theorem cd_45 : Cond.code (mN 45) (mC 45) (mL 45) (mR 45) ∈ lw_tbl := List.mem_append_right _ (List.mem_append_right _ (List.mem_append_left _ (List.mem_of_getElem? (i := 56) rfl)))
theorem cd_46 : Cond.code (mN 46) (mC 46) (mL 46) (mR 46) ∈ lw_tbl := List.mem_append_right _ (List.mem_append_right _ (List.mem_append_left _ (List.mem_of_getElem? (i := 44) rfl)))
theorem cd_47 : Cond.code (mN 47) (mC 47) (mL 47) (mR 47) ∈ lw_tbl := List.mem_append_right _ (List.mem_append_right _ (List.mem_append_right _ (List.mem_append_left _ (List.mem_of_getElem? (i := 25) rfl))))
theorem cd_48 : Cond.code (mN 48) (mC 48) (mL 48) (mR 48) ∈ lw_tbl := List.mem_append_right _ (List.mem_append_right _ (List.mem_append_right _ (List.mem_append_left _ (List.mem_of_getElem? (i := 46) rfl))))
theorem cd_49 : Cond.code (mN 49) (mC 49) (mL 49) (mR 49) ∈ lw_tbl := List.mem_append_right _ (List.mem_append_right _ (List.mem_append_right _ (List.mem_append_left _ (List.mem_of_getElem? (i := 56) rfl))))
theorem cd_50 : Cond.code (mN 50) (mC 50) (mL 50) (mR 50) ∈ lw_tbl := List.mem_append_right _ (List.mem_append_right _ (List.mem_append_right _ (List.mem_append_left _ (List.mem_of_getElem? (i := 64) rfl))))
theorem cd_51 : Cond.code (mN 51) (mC 51) (mL 51) (mR 51) ∈ lw_tbl := List.mem_append_right _ (List.mem_append_right _ (List.mem_append_right _ (List.mem_append_left _ (List.mem_of_getElem? (i := 72) rfl))))
theorem cd_52 : Cond.code (mN 52) (mC 52) (mL 52) (mR 52) ∈ lw_tbl := List.mem_append_right _ (List.mem_append_right _ (List.mem_append_right _ (List.mem_append_left _ (List.mem_of_getElem? (i := 76) rfl))))
theorem cd_53 : Cond.code (mN 53) (mC 53) (mL 53) (mR 53) ∈ lw_tbl := List.mem_append_right _ (List.mem_append_right _ (List.mem_append_right _ (List.mem_append_left _ (List.mem_of_getElem? (i := 98) rfl))))
theorem cd_54 : Cond.code (mN 54) (mC 54) (mL 54) (mR 54) ∈ lw_tbl := List.mem_append_right _ (List.mem_append_right _ (List.mem_append_right _ (List.mem_append_left _ (List.mem_of_getElem? (i := 85) rfl))))
theorem cd_55 : Cond.code (mN 55) (mC 55) (mL 55) (mR 55) ∈ lw_tbl := List.mem_append_right _ (List.mem_append_right _ (List.mem_append_right _ (List.mem_append_left _ (List.mem_of_getElem? (i := 107) rfl))))
theorem cd_56 : Cond.code (mN 56) (mC 56) (mL 56) (mR 56) ∈ lw_tbl := List.mem_append_right _ (List.mem_append_right _ (List.mem_append_right _ (List.mem_append_left _ (List.mem_of_getElem? (i := 115) rfl))))
theorem cd_57 : Cond.code (mN 57) (mC 57) (mL 57) (mR 57) ∈ lw_tbl := List.mem_append_right _ (List.mem_append_right _ (List.mem_append_right _ (List.mem_append_left _ (List.mem_of_getElem? (i := 119) rfl))))
theorem cd_58 : Cond.code (mN 58) (mC 58) (mL 58) (mR 58) ∈ lw_tbl := List.mem_append_right _ (List.mem_append_right _ (List.mem_append_right _ (List.mem_append_left _ (List.mem_of_getElem? (i := 127) rfl))))
theorem cd_59 : Cond.code (mN 59) (mC 59) (mL 59) (mR 59) ∈ lw_tbl := List.mem_append_right _ (List.mem_append_right _ (List.mem_append_right _ (List.mem_append_left _ (List.mem_of_getElem? (i := 139) rfl))))
theorem cd_60 : Cond.code (mN 60) (mC 60) (mL 60) (mR 60) ∈ lw_tbl := List.mem_append_right _ (List.mem_append_right _ (List.mem_append_right _ (List.mem_append_left _ (List.mem_of_getElem? (i := 142) rfl))))
theorem cd_61 : Cond.code (mN 61) (mC 61) (mL 61) (mR 61) ∈ lw_tbl := List.mem_append_right _ (List.mem_append_right _ (List.mem_append_right _ (List.mem_append_left _ (List.mem_of_getElem? (i := 157) rfl))))
theorem cd_62 : Cond.code (mN 62) (mC 62) (mL 62) (mR 62) ∈ lw_tbl := List.mem_append_right _ (List.mem_append_right _ (List.mem_append_right _ (List.mem_append_left _ (List.mem_of_getElem? (i := 169) rfl))))
theorem cd_63 : Cond.code (mN 63) (mC 63) (mL 63) (mR 63) ∈ lw_tbl := List.mem_append_right _ (List.mem_append_right _ (List.mem_append_right _ (List.mem_append_left _ (List.mem_of_getElem? (i := 165) rfl))))
theorem cd_64 : Cond.code (mN 64) (mC 64) (mL 64) (mR 64) ∈ lw_tbl := List.mem_append_right _ (List.mem_append_right _ (List.mem_append_right _ (List.mem_append_left _ (List.mem_of_getElem? (i := 173) rfl))))
theorem cd_65 : Cond.code (mN 65) (mC 65) (mL 65) (mR 65) ∈ lw_tbl := List.mem_append_right _ (List.mem_append_right _ (List.mem_append_right _ (List.mem_append_left _ (List.mem_of_getElem? (i := 177) rfl))))
theorem cd_66 : Cond.code (mN 66) (mC 66) (mL 66) (mR 66) ∈ lw_tbl := List.mem_append_right _ (List.mem_append_right _ (List.mem_append_right _ (List.mem_append_left _ (List.mem_of_getElem? (i := 181) rfl))))
theorem cd_67 : Cond.code (mN 67) (mC 67) (mL 67) (mR 67) ∈ lw_tbl := List.mem_append_right _ (List.mem_append_right _ (List.mem_append_right _ (List.mem_append_left _ (List.mem_of_getElem? (i := 191) rfl))))
theorem cd_68 : Cond.code (mN 68) (mC 68) (mL 68) (mR 68) ∈ lw_tbl := List.mem_append_right _ (List.mem_append_right _ (List.mem_append_right _ (List.mem_append_left _ (List.mem_of_getElem? (i := 205) rfl))))
theorem cd_69 : Cond.code (mN 69) (mC 69) (mL 69) (mR 69) ∈ lw_tbl := List.mem_append_right _ (List.mem_append_right _ (List.mem_append_right _ (List.mem_append_left _ (List.mem_of_getElem? (i := 201) rfl))))
theorem cd_70 : Cond.code (mN 70) (mC 70) (mL 70) (mR 70) ∈ lw_tbl := List.mem_append_right _ (List.mem_append_right _ (List.mem_append_right _ (List.mem_append_left _ (List.mem_of_getElem? (i := 209) rfl))))
theorem cd_71 : Cond.code (mN 71) (mC 71) (mL 71) (mR 71) ∈ lw_tbl := List.mem_append_right _ (List.mem_append_right _ (List.mem_append_right _ (List.mem_append_left _ (List.mem_of_getElem? (i := 218) rfl))))
theorem cd_72 : Cond.code (mN 72) (mC 72) (mL 72) (mR 72) ∈ lw_tbl := List.mem_append_right _ (List.mem_append_right _ (List.mem_append_right _ (List.mem_append_left _ (List.mem_of_getElem? (i := 224) rfl))))
theorem cd_73 : Cond.code (mN 73) (mC 73) (mL 73) (mR 73) ∈ lw_tbl := List.mem_append_right _ (List.mem_append_right _ (List.mem_append_left _ (List.mem_of_getElem? (i := 80) rfl)))
theorem cd_74 : Cond.code (mN 74) (mC 74) (mL 74) (mR 74) ∈ lw_tbl := List.mem_append_right _ (List.mem_append_right _ (List.mem_append_right _ (List.mem_append_right _ (List.mem_append_left _ (List.mem_of_getElem? (i := 69) rfl)))))
theorem cd_75 : Cond.code (mN 75) (mC 75) (mL 75) (mR 75) ∈ lw_tbl := List.mem_append_right _ (List.mem_append_right _ (List.mem_append_left _ (List.mem_of_getElem? (i := 85) rfl)))
theorem cd_76 : Cond.code (mN 76) (mC 76) (mL 76) (mR 76) ∈ lw_tbl := List.mem_append_right _ (List.mem_append_right _ (List.mem_append_left _ (List.mem_of_getElem? (i := 133) rfl)))
theorem cd_77 : Cond.code (mN 77) (mC 77) (mL 77) (mR 77) ∈ lw_tbl := List.mem_append_right _ (List.mem_append_right _ (List.mem_append_left _ (List.mem_of_getElem? (i := 129) rfl)))
theorem cd_78 : Cond.code (mN 78) (mC 78) (mL 78) (mR 78) ∈ lw_tbl := List.mem_append_right _ (List.mem_append_right _ (List.mem_append_left _ (List.mem_of_getElem? (i := 93) rfl)))
theorem cd_79 : Cond.code (mN 79) (mC 79) (mL 79) (mR 79) ∈ lw_tbl := List.mem_append_right _ (List.mem_append_right _ (List.mem_append_left _ (List.mem_of_getElem? (i := 114) rfl)))
theorem cd_80 : Cond.code (mN 80) (mC 80) (mL 80) (mR 80) ∈ lw_tbl := List.mem_append_right _ (List.mem_append_right _ (List.mem_append_left _ (List.mem_of_getElem? (i := 117) rfl)))
theorem cd_81 : Cond.code (mN 81) (mC 81) (mL 81) (mR 81) ∈ lw_tbl := List.mem_append_right _ (List.mem_append_right _ (List.mem_append_left _ (List.mem_of_getElem? (i := 102) rfl)))
theorem cd_82 : Cond.code (mN 82) (mC 82) (mL 82) (mR 82) ∈ lw_tbl := List.mem_append_right _ (List.mem_append_right _ (List.mem_append_left _ (List.mem_of_getElem? (i := 106) rfl)))
theorem cd_83 : Cond.code (mN 83) (mC 83) (mL 83) (mR 83) ∈ lw_tbl := List.mem_append_right _ (List.mem_append_right _ (List.mem_append_left _ (List.mem_of_getElem? (i := 110) rfl)))
theorem cd_84 : Cond.code (mN 84) (mC 84) (mL 84) (mR 84) ∈ lw_tbl := List.mem_append_right _ (List.mem_append_right _ (List.mem_append_left _ (List.mem_of_getElem? (i := 11) rfl)))
theorem cd_85 : Cond.code (mN 85) (mC 85) (mL 85) (mR 85) ∈ lw_tbl := List.mem_append_right _ (List.mem_append_right _ (List.mem_append_left _ (List.mem_of_getElem? (i := 32) rfl)))
theorem cd_86 : Cond.code (mN 86) (mC 86) (mL 86) (mR 86) ∈ lw_tbl := List.mem_append_right _ (List.mem_append_right _ (List.mem_append_left _ (List.mem_of_getElem? (i := 52) rfl)))
theorem cd_87 : Cond.code (mN 87) (mC 87) (mL 87) (mR 87) ∈ lw_tbl := List.mem_append_right _ (List.mem_append_right _ (List.mem_append_left _ (List.mem_of_getElem? (i := 67) rfl)))
theorem cd_88 : Cond.code (mN 88) (mC 88) (mL 88) (mR 88) ∈ lw_tbl := List.mem_append_right _ (List.mem_append_right _ (List.mem_append_left _ (List.mem_of_getElem? (i := 76) rfl)))
theorem cd_89 : Cond.code (mN 89) (mC 89) (mL 89) (mR 89) ∈ lw_tbl := List.mem_append_right _ (List.mem_append_right _ (List.mem_append_left _ (List.mem_of_getElem? (i := 89) rfl)))
theorem cd_90 : Cond.code (mN 90) (mC 90) (mL 90) (mR 90) ∈ lw_tbl := List.mem_append_right _ (List.mem_append_right _ (List.mem_append_left _ (List.mem_of_getElem? (i := 146) rfl)))
theorem cd_91 : Cond.code (mN 91) (mC 91) (mL 91) (mR 91) ∈ lw_tbl := List.mem_append_right _ (List.mem_append_right _ (List.mem_append_left _ (List.mem_of_getElem? (i := 150) rfl)))
theorem cd_92 : Cond.code (mN 92) (mC 92) (mL 92) (mR 92) ∈ lw_tbl := List.mem_append_right _ (List.mem_append_right _ (List.mem_append_left _ (List.mem_of_getElem? (i := 164) rfl)))
theorem cd_93 : Cond.code (mN 93) (mC 93) (mL 93) (mR 93) ∈ lw_tbl := List.mem_append_right _ (List.mem_append_right _ (List.mem_append_left _ (List.mem_of_getElem? (i := 224) rfl)))
theorem cd_94 : Cond.code (mN 94) (mC 94) (mL 94) (mR 94) ∈ lw_tbl := List.mem_append_right _ (List.mem_append_right _ (List.mem_append_left _ (List.mem_of_getElem? (i := 229) rfl)))
theorem cd_95 : Cond.code (mN 95) (mC 95) (mL 95) (mR 95) ∈ lw_tbl := List.mem_append_right _ (List.mem_append_right _ (List.mem_append_left _ (List.mem_of_getElem? (i := 237) rfl)))
theorem cd_96 : Cond.code (mN 96) (mC 96) (mL 96) (mR 96) ∈ lw_tbl := List.mem_append_right _ (List.mem_append_right _ (List.mem_append_right _ (List.mem_append_left _ (List.mem_of_getElem? (i := 1) rfl))))
theorem cd_97 : Cond.code (mN 97) (mC 97) (mL 97) (mR 97) ∈ lw_tbl := List.mem_append_right _ (List.mem_append_right _ (List.mem_append_right _ (List.mem_append_left _ (List.mem_of_getElem? (i := 9) rfl))))
theorem cd_98 : Cond.code (mN 98) (mC 98) (mL 98) (mR 98) ∈ lw_tbl := List.mem_append_right _ (List.mem_append_right _ (List.mem_append_right _ (List.mem_append_left _ (List.mem_of_getElem? (i := 17) rfl))))
theorem cd_99 : Cond.code (mN 99) (mC 99) (mL 99) (mR 99) ∈ lw_tbl := List.mem_append_right _ (List.mem_append_right _ (List.mem_append_right _ (List.mem_append_left _ (List.mem_of_getElem? (i := 21) rfl))))
theorem cd_100 : Cond.code (mN 100) (mC 100) (mL 100) (mR 100) ∈ lw_tbl := List.mem_append_right _ (List.mem_append_right _ (List.mem_append_right _ (List.mem_append_left _ (List.mem_of_getElem? (i := 35) rfl))))
theorem cd_101 : Cond.code (mN 101) (mC 101) (mL 101) (mR 101) ∈ lw_tbl := List.mem_append_right _ (List.mem_append_right _ (List.mem_append_right _ (List.mem_append_left _ (List.mem_of_getElem? (i := 42) rfl))))
theorem cd_102 : Cond.code (mN 102) (mC 102) (mL 102) (mR 102) ∈ lw_tbl := List.mem_append_right _ (List.mem_append_right _ (List.mem_append_right _ (List.mem_append_left _ (List.mem_of_getElem? (i := 52) rfl))))
theorem cd_103 : Cond.code (mN 103) (mC 103) (mL 103) (mR 103) ∈ lw_tbl := List.mem_append_right _ (List.mem_append_right _ (List.mem_append_right _ (List.mem_append_left _ (List.mem_of_getElem? (i := 60) rfl))))
theorem cd_104 : Cond.code (mN 104) (mC 104) (mL 104) (mR 104) ∈ lw_tbl := List.mem_append_right _ (List.mem_append_right _ (List.mem_append_right _ (List.mem_append_left _ (List.mem_of_getElem? (i := 68) rfl))))
theorem cd_105 : Cond.code (mN 105) (mC 105) (mL 105) (mR 105) ∈ lw_tbl := List.mem_append_right _ (List.mem_append_right _ (List.mem_append_right _ (List.mem_append_left _ (List.mem_of_getElem? (i := 89) rfl))))
theorem cd_106 : Cond.code (mN 106) (mC 106) (mL 106) (mR 106) ∈ lw_tbl := List.mem_append_right _ (List.mem_append_right _ (List.mem_append_right _ (List.mem_append_left _ (List.mem_of_getElem? (i := 103) rfl))))
theorem cd_107 : Cond.code (mN 107) (mC 107) (mL 107) (mR 107) ∈ lw_tbl := List.mem_append_right _ (List.mem_append_right _ (List.mem_append_right _ (List.mem_append_left _ (List.mem_of_getElem? (i := 111) rfl))))
theorem cd_108 : Cond.code (mN 108) (mC 108) (mL 108) (mR 108) ∈ lw_tbl := List.mem_append_right _ (List.mem_append_right _ (List.mem_append_right _ (List.mem_append_left _ (List.mem_of_getElem? (i := 123) rfl))))
theorem cd_109 : Cond.code (mN 109) (mC 109) (mL 109) (mR 109) ∈ lw_tbl := List.mem_append_right _ (List.mem_append_right _ (List.mem_append_right _ (List.mem_append_left _ (List.mem_of_getElem? (i := 135) rfl))))
theorem cd_110 : Cond.code (mN 110) (mC 110) (mL 110) (mR 110) ∈ lw_tbl := List.mem_append_right _ (List.mem_append_right _ (List.mem_append_right _ (List.mem_append_left _ (List.mem_of_getElem? (i := 153) rfl))))
theorem cd_111 : Cond.code (mN 111) (mC 111) (mL 111) (mR 111) ∈ lw_tbl := List.mem_append_right _ (List.mem_append_right _ (List.mem_append_right _ (List.mem_append_left _ (List.mem_of_getElem? (i := 185) rfl))))
theorem cd_112 : Cond.code (mN 112) (mC 112) (mL 112) (mR 112) ∈ lw_tbl := List.mem_append_right _ (List.mem_append_right _ (List.mem_append_right _ (List.mem_append_left _ (List.mem_of_getElem? (i := 213) rfl))))
theorem cd_113 : Cond.code (mN 113) (mC 113) (mL 113) (mR 113) ∈ lw_tbl := List.mem_append_right _ (List.mem_append_right _ (List.mem_append_right _ (List.mem_append_left _ (List.mem_of_getElem? (i := 231) rfl))))
theorem cd_114 : Cond.code (mN 114) (mC 114) (mL 114) (mR 114) ∈ lw_tbl := List.mem_append_right _ (List.mem_append_right _ (List.mem_append_right _ (List.mem_append_left _ (List.mem_of_getElem? (i := 238) rfl))))
theorem cd_115 : Cond.code (mN 115) (mC 115) (mL 115) (mR 115) ∈ lw_tbl := List.mem_append_right _ (List.mem_append_right _ (List.mem_append_right _ (List.mem_append_right _ (List.mem_append_left _ (List.mem_of_getElem? (i := 2) rfl)))))
theorem cd_116 : Cond.code (mN 116) (mC 116) (mL 116) (mR 116) ∈ lw_tbl := List.mem_append_right _ (List.mem_append_right _ (List.mem_append_right _ (List.mem_append_right _ (List.mem_append_left _ (List.mem_of_getElem? (i := 6) rfl)))))
theorem cd_117 : Cond.code (mN 117) (mC 117) (mL 117) (mR 117) ∈ lw_tbl := List.mem_append_right _ (List.mem_append_right _ (List.mem_append_right _ (List.mem_append_right _ (List.mem_append_left _ (List.mem_of_getElem? (i := 13) rfl)))))
theorem cd_118 : Cond.code (mN 118) (mC 118) (mL 118) (mR 118) ∈ lw_tbl := List.mem_append_right _ (List.mem_append_right _ (List.mem_append_right _ (List.mem_append_right _ (List.mem_append_left _ (List.mem_of_getElem? (i := 50) rfl)))))
theorem cd_119 : Cond.code (mN 119) (mC 119) (mL 119) (mR 119) ∈ lw_tbl := List.mem_append_right _ (List.mem_append_right _ (List.mem_append_right _ (List.mem_append_right _ (List.mem_append_left _ (List.mem_of_getElem? (i := 59) rfl)))))
theorem cd_120 : Cond.code (mN 120) (mC 120) (mL 120) (mR 120) ∈ lw_tbl := List.mem_append_right _ (List.mem_append_right _ (List.mem_append_right _ (List.mem_append_right _ (List.mem_append_left _ (List.mem_of_getElem? (i := 73) rfl)))))
theorem cd_121 : Cond.code (mN 121) (mC 121) (mL 121) (mR 121) ∈ lw_tbl := List.mem_append_right _ (List.mem_append_right _ (List.mem_append_left _ (List.mem_of_getElem? (i := 19) rfl)))
theorem cd_122 : Cond.code (mN 122) (mC 122) (mL 122) (mR 122) ∈ lw_tbl := List.mem_append_right _ (List.mem_append_right _ (List.mem_append_left _ (List.mem_of_getElem? (i := 28) rfl)))
theorem cd_123 : Cond.code (mN 123) (mC 123) (mL 123) (mR 123) ∈ lw_tbl := List.mem_append_right _ (List.mem_append_right _ (List.mem_append_left _ (List.mem_of_getElem? (i := 14) rfl)))
theorem cd_124 : Cond.code (mN 124) (mC 124) (mL 124) (mR 124) ∈ lw_tbl := List.mem_append_right _ (List.mem_append_right _ (List.mem_append_right _ (List.mem_append_left _ (List.mem_of_getElem? (i := 234) rfl))))
theorem cd_125 : Cond.code (mN 125) (mC 125) (mL 125) (mR 125) ∈ lw_tbl := List.mem_append_right _ (List.mem_append_right _ (List.mem_append_right _ (List.mem_append_left _ (List.mem_of_getElem? (i := 38) rfl))))
theorem cd_126 : Cond.code (mN 126) (mC 126) (mL 126) (mR 126) ∈ lw_tbl := List.mem_append_right _ (List.mem_append_right _ (List.mem_append_right _ (List.mem_append_right _ (List.mem_append_left _ (List.mem_of_getElem? (i := 9) rfl)))))
theorem cd_127 : Cond.code (mN 127) (mC 127) (mL 127) (mR 127) ∈ lw_tbl := List.mem_append_right _ (List.mem_append_right _ (List.mem_append_right _ (List.mem_append_right _ (List.mem_append_left _ (List.mem_of_getElem? (i := 164) rfl)))))
theorem cd_128 : Cond.code (mN 128) (mC 128) (mL 128) (mR 128) ∈ lw_tbl := List.mem_append_right _ (List.mem_append_right _ (List.mem_append_right _ (List.mem_append_right _ (List.mem_append_right _ (List.mem_of_getElem? (i := 18) rfl)))))
theorem cd_129 : Cond.code (mN 129) (mC 129) (mL 129) (mR 129) ∈ lw_tbl := List.mem_append_right _ (List.mem_append_right _ (List.mem_append_right _ (List.mem_append_right _ (List.mem_append_left _ (List.mem_of_getElem? (i := 169) rfl)))))
theorem cd_130 : Cond.code (mN 130) (mC 130) (mL 130) (mR 130) ∈ lw_tbl := List.mem_append_right _ (List.mem_append_right _ (List.mem_append_right _ (List.mem_append_right _ (List.mem_append_left _ (List.mem_of_getElem? (i := 174) rfl)))))
theorem cd_131 : Cond.code (mN 131) (mC 131) (mL 131) (mR 131) ∈ lw_tbl := List.mem_append_right _ (List.mem_append_right _ (List.mem_append_right _ (List.mem_append_right _ (List.mem_append_left _ (List.mem_of_getElem? (i := 161) rfl)))))
theorem cd_132 : Cond.code (mN 132) (mC 132) (mL 132) (mR 132) ∈ lw_tbl := List.mem_append_right _ (List.mem_append_right _ (List.mem_append_right _ (List.mem_append_right _ (List.mem_append_left _ (List.mem_of_getElem? (i := 158) rfl)))))
theorem cd_133 : Cond.code (mN 133) (mC 133) (mL 133) (mR 133) ∈ lw_tbl := List.mem_append_right _ (List.mem_append_right _ (List.mem_append_right _ (List.mem_append_right _ (List.mem_append_left _ (List.mem_of_getElem? (i := 181) rfl)))))
theorem cd_134 : Cond.code (mN 134) (mC 134) (mL 134) (mR 134) ∈ lw_tbl := List.mem_append_right _ (List.mem_append_right _ (List.mem_append_right _ (List.mem_append_right _ (List.mem_append_left _ (List.mem_of_getElem? (i := 178) rfl)))))
theorem cd_135 : Cond.code (mN 135) (mC 135) (mL 135) (mR 135) ∈ lw_tbl := List.mem_append_right _ (List.mem_append_right _ (List.mem_append_right _ (List.mem_append_right _ (List.mem_append_left _ (List.mem_of_getElem? (i := 189) rfl)))))
theorem cd_136 : Cond.code (mN 136) (mC 136) (mL 136) (mR 136) ∈ lw_tbl := List.mem_append_right _ (List.mem_append_right _ (List.mem_append_right _ (List.mem_append_right _ (List.mem_append_left _ (List.mem_of_getElem? (i := 185) rfl)))))
theorem cd_137 : Cond.code (mN 137) (mC 137) (mL 137) (mR 137) ∈ lw_tbl := List.mem_append_right _ (List.mem_append_right _ (List.mem_append_right _ (List.mem_append_right _ (List.mem_append_left _ (List.mem_of_getElem? (i := 193) rfl)))))
theorem cd_138 : Cond.code (mN 138) (mC 138) (mL 138) (mR 138) ∈ lw_tbl := List.mem_append_right _ (List.mem_append_right _ (List.mem_append_right _ (List.mem_append_right _ (List.mem_append_right _ (List.mem_of_getElem? (i := 79) rfl)))))
theorem cd_139 : Cond.code (mN 139) (mC 139) (mL 139) (mR 139) ∈ lw_tbl := List.mem_append_right _ (List.mem_append_right _ (List.mem_append_right _ (List.mem_append_right _ (List.mem_append_right _ (List.mem_of_getElem? (i := 8) rfl)))))
theorem cd_140 : Cond.code (mN 140) (mC 140) (mL 140) (mR 140) ∈ lw_tbl := List.mem_append_right _ (List.mem_append_right _ (List.mem_append_right _ (List.mem_append_right _ (List.mem_append_right _ (List.mem_of_getElem? (i := 41) rfl)))))
theorem cd_141 : Cond.code (mN 141) (mC 141) (mL 141) (mR 141) ∈ lw_tbl := List.mem_append_right _ (List.mem_append_right _ (List.mem_append_right _ (List.mem_append_right _ (List.mem_append_right _ (List.mem_of_getElem? (i := 24) rfl)))))
theorem cd_142 : Cond.code (mN 142) (mC 142) (mL 142) (mR 142) ∈ lw_tbl := List.mem_append_right _ (List.mem_append_right _ (List.mem_append_right _ (List.mem_append_right _ (List.mem_append_right _ (List.mem_of_getElem? (i := 27) rfl)))))
theorem cd_143 : Cond.code (mN 143) (mC 143) (mL 143) (mR 143) ∈ lw_tbl := List.mem_append_right _ (List.mem_append_right _ (List.mem_append_right _ (List.mem_append_right _ (List.mem_append_right _ (List.mem_of_getElem? (i := 21) rfl)))))
theorem cd_144 : Cond.code (mN 144) (mC 144) (mL 144) (mR 144) ∈ lw_tbl := List.mem_append_right _ (List.mem_append_right _ (List.mem_append_right _ (List.mem_append_right _ (List.mem_append_right _ (List.mem_of_getElem? (i := 15) rfl)))))
theorem cd_145 : Cond.code (mN 145) (mC 145) (mL 145) (mR 145) ∈ lw_tbl := List.mem_append_right _ (List.mem_append_right _ (List.mem_append_right _ (List.mem_append_right _ (List.mem_append_right _ (List.mem_of_getElem? (i := 30) rfl)))))
theorem cd_146 : Cond.code (mN 146) (mC 146) (mL 146) (mR 146) ∈ lw_tbl := List.mem_append_right _ (List.mem_append_right _ (List.mem_append_right _ (List.mem_append_right _ (List.mem_append_right _ (List.mem_of_getElem? (i := 12) rfl)))))
theorem cd_147 : Cond.code (mN 147) (mC 147) (mL 147) (mR 147) ∈ lw_tbl := List.mem_append_right _ (List.mem_append_right _ (List.mem_append_right _ (List.mem_append_right _ (List.mem_append_right _ (List.mem_of_getElem? (i := 49) rfl)))))
theorem cd_148 : Cond.code (mN 148) (mC 148) (mL 148) (mR 148) ∈ lw_tbl := List.mem_append_right _ (List.mem_append_right _ (List.mem_append_right _ (List.mem_append_right _ (List.mem_append_right _ (List.mem_of_getElem? (i := 60) rfl)))))
theorem cd_149 : Cond.code (mN 149) (mC 149) (mL 149) (mR 149) ∈ lw_tbl := List.mem_append_right _ (List.mem_append_right _ (List.mem_append_right _ (List.mem_append_right _ (List.mem_append_right _ (List.mem_of_getElem? (i := 33) rfl)))))
theorem cd_150 : Cond.code (mN 150) (mC 150) (mL 150) (mR 150) ∈ lw_tbl := List.mem_append_right _ (List.mem_append_right _ (List.mem_append_right _ (List.mem_append_right _ (List.mem_append_right _ (List.mem_of_getElem? (i := 113) rfl)))))
theorem cd_151 : Cond.code (mN 151) (mC 151) (mL 151) (mR 151) ∈ lw_tbl := List.mem_append_right _ (List.mem_append_right _ (List.mem_append_right _ (List.mem_append_right _ (List.mem_append_right _ (List.mem_of_getElem? (i := 110) rfl)))))
theorem cd_152 : Cond.code (mN 152) (mC 152) (mL 152) (mR 152) ∈ lw_tbl := List.mem_append_right _ (List.mem_append_right _ (List.mem_append_right _ (List.mem_append_right _ (List.mem_append_left _ (List.mem_of_getElem? (i := 197) rfl)))))
theorem cd_153 : Cond.code (mN 153) (mC 153) (mL 153) (mR 153) ∈ lw_tbl := List.mem_append_right _ (List.mem_append_right _ (List.mem_append_right _ (List.mem_append_right _ (List.mem_append_left _ (List.mem_of_getElem? (i := 210) rfl)))))
theorem cd_154 : Cond.code (mN 154) (mC 154) (mL 154) (mR 154) ∈ lw_tbl := List.mem_append_right _ (List.mem_append_right _ (List.mem_append_right _ (List.mem_append_right _ (List.mem_append_left _ (List.mem_of_getElem? (i := 206) rfl)))))
theorem cd_155 : Cond.code (mN 155) (mC 155) (mL 155) (mR 155) ∈ lw_tbl := List.mem_append_right _ (List.mem_append_right _ (List.mem_append_right _ (List.mem_append_right _ (List.mem_append_left _ (List.mem_of_getElem? (i := 218) rfl)))))
theorem cd_156 : Cond.code (mN 156) (mC 156) (mL 156) (mR 156) ∈ lw_tbl := List.mem_append_right _ (List.mem_append_right _ (List.mem_append_right _ (List.mem_append_right _ (List.mem_append_left _ (List.mem_of_getElem? (i := 222) rfl)))))
theorem cd_157 : Cond.code (mN 157) (mC 157) (mL 157) (mR 157) ∈ lw_tbl := List.mem_append_right _ (List.mem_append_right _ (List.mem_append_right _ (List.mem_append_right _ (List.mem_append_left _ (List.mem_of_getElem? (i := 214) rfl)))))
theorem cd_158 : Cond.code (mN 158) (mC 158) (mL 158) (mR 158) ∈ lw_tbl := List.mem_append_right _ (List.mem_append_right _ (List.mem_append_right _ (List.mem_append_right _ (List.mem_append_left _ (List.mem_of_getElem? (i := 226) rfl)))))
theorem cd_159 : Cond.code (mN 159) (mC 159) (mL 159) (mR 159) ∈ lw_tbl := List.mem_append_right _ (List.mem_append_right _ (List.mem_append_right _ (List.mem_append_right _ (List.mem_append_left _ (List.mem_of_getElem? (i := 230) rfl)))))
theorem cd_160 : Cond.code (mN 160) (mC 160) (mL 160) (mR 160) ∈ lw_tbl := List.mem_append_right _ (List.mem_append_right _ (List.mem_append_right _ (List.mem_append_right _ (List.mem_append_left _ (List.mem_of_getElem? (i := 202) rfl)))))
theorem cd_161 : Cond.code (mN 161) (mC 161) (mL 161) (mR 161) ∈ lw_tbl := List.mem_append_right _ (List.mem_append_right _ (List.mem_append_right _ (List.mem_append_right _ (List.mem_append_left _ (List.mem_of_getElem? (i := 235) rfl)))))
theorem cd_162 : Cond.code (mN 162) (mC 162) (mL 162) (mR 162) ∈ lw_tbl := List.mem_append_right _ (List.mem_append_right _ (List.mem_append_right _ (List.mem_append_right _ (List.mem_append_left _ (List.mem_of_getElem? (i := 239) rfl)))))
theorem cd_163 : Cond.code (mN 163) (mC 163) (mL 163) (mR 163) ∈ lw_tbl := List.mem_append_right _ (List.mem_append_right _ (List.mem_append_right _ (List.mem_append_right _ (List.mem_append_right _ (List.mem_of_getElem? (i := 4) rfl)))))
theorem cd_164 : Cond.code (mN 164) (mC 164) (mL 164) (mR 164) ∈ lw_tbl := List.mem_append_right _ (List.mem_append_right _ (List.mem_append_right _ (List.mem_append_right _ (List.mem_append_right _ (List.mem_of_getElem? (i := 37) rfl)))))
theorem cd_165 : Cond.code (mN 165) (mC 165) (mL 165) (mR 165) ∈ lw_tbl := List.mem_append_right _ (List.mem_append_right _ (List.mem_append_right _ (List.mem_append_right _ (List.mem_append_right _ (List.mem_of_getElem? (i := 46) rfl)))))
theorem cd_166 : Cond.code (mN 166) (mC 166) (mL 166) (mR 166) ∈ lw_tbl := List.mem_append_right _ (List.mem_append_right _ (List.mem_append_right _ (List.mem_append_right _ (List.mem_append_right _ (List.mem_of_getElem? (i := 53) rfl)))))
theorem cd_167 : Cond.code (mN 167) (mC 167) (mL 167) (mR 167) ∈ lw_tbl := List.mem_append_right _ (List.mem_append_right _ (List.mem_append_right _ (List.mem_append_right _ (List.mem_append_right _ (List.mem_of_getElem? (i := 57) rfl)))))
theorem cd_168 : Cond.code (mN 168) (mC 168) (mL 168) (mR 168) ∈ lw_tbl := List.mem_append_right _ (List.mem_append_right _ (List.mem_append_right _ (List.mem_append_right _ (List.mem_append_right _ (List.mem_of_getElem? (i := 67) rfl)))))
theorem cd_169 : Cond.code (mN 169) (mC 169) (mL 169) (mR 169) ∈ lw_tbl := List.mem_append_right _ (List.mem_append_right _ (List.mem_append_right _ (List.mem_append_right _ (List.mem_append_right _ (List.mem_of_getElem? (i := 64) rfl)))))
theorem cd_170 : Cond.code (mN 170) (mC 170) (mL 170) (mR 170) ∈ lw_tbl := List.mem_append_right _ (List.mem_append_right _ (List.mem_append_right _ (List.mem_append_right _ (List.mem_append_right _ (List.mem_of_getElem? (i := 71) rfl)))))
theorem cd_171 : Cond.code (mN 171) (mC 171) (mL 171) (mR 171) ∈ lw_tbl := List.mem_append_right _ (List.mem_append_right _ (List.mem_append_right _ (List.mem_append_right _ (List.mem_append_right _ (List.mem_of_getElem? (i := 83) rfl)))))
theorem cd_172 : Cond.code (mN 172) (mC 172) (mL 172) (mR 172) ∈ lw_tbl := List.mem_append_right _ (List.mem_append_right _ (List.mem_append_right _ (List.mem_append_right _ (List.mem_append_right _ (List.mem_of_getElem? (i := 75) rfl)))))
theorem cd_173 : Cond.code (mN 173) (mC 173) (mL 173) (mR 173) ∈ lw_tbl := List.mem_append_right _ (List.mem_append_right _ (List.mem_append_right _ (List.mem_append_right _ (List.mem_append_right _ (List.mem_of_getElem? (i := 87) rfl)))))
theorem cd_174 : Cond.code (mN 174) (mC 174) (mL 174) (mR 174) ∈ lw_tbl := List.mem_append_right _ (List.mem_append_right _ (List.mem_append_right _ (List.mem_append_right _ (List.mem_append_right _ (List.mem_of_getElem? (i := 91) rfl)))))
theorem cd_175 : Cond.code (mN 175) (mC 175) (mL 175) (mR 175) ∈ lw_tbl := List.mem_append_right _ (List.mem_append_right _ (List.mem_append_right _ (List.mem_append_right _ (List.mem_append_right _ (List.mem_of_getElem? (i := 95) rfl)))))
theorem cd_176 : Cond.code (mN 176) (mC 176) (mL 176) (mR 176) ∈ lw_tbl := List.mem_append_right _ (List.mem_append_right _ (List.mem_append_right _ (List.mem_append_right _ (List.mem_append_right _ (List.mem_of_getElem? (i := 99) rfl)))))
theorem cd_177 : Cond.code (mN 177) (mC 177) (mL 177) (mR 177) ∈ lw_tbl := List.mem_append_right _ (List.mem_append_right _ (List.mem_append_right _ (List.mem_append_right _ (List.mem_append_right _ (List.mem_of_getElem? (i := 107) rfl)))))
theorem cd_178 : Cond.code (mN 178) (mC 178) (mL 178) (mR 178) ∈ lw_tbl := List.mem_append_right _ (List.mem_append_right _ (List.mem_append_right _ (List.mem_append_right _ (List.mem_append_right _ (List.mem_of_getElem? (i := 103) rfl)))))
theorem cd_179 : Cond.code (mN 179) (mC 179) (mL 179) (mR 179) ∈ lw_tbl := List.mem_append_right _ (List.mem_append_right _ (List.mem_append_right _ (List.mem_append_right _ (List.mem_append_right _ (List.mem_of_getElem? (i := 117) rfl)))))
theorem cd_180 : Cond.code (mN 180) (mC 180) (mL 180) (mR 180) ∈ lw_tbl := List.mem_append_right _ (List.mem_append_right _ (List.mem_append_right _ (List.mem_append_right _ (List.mem_append_right _ (List.mem_of_getElem? (i := 121) rfl)))))
theorem cd_181 : Cond.code (mN 181) (mC 181) (mL 181) (mR 181) ∈ lw_tbl := List.mem_append_right _ (List.mem_append_right _ (List.mem_append_right _ (List.mem_append_right _ (List.mem_append_right _ (List.mem_of_getElem? (i := 125) rfl)))))
theorem cd_182 : Cond.code (mN 182) (mC 182) (mL 182) (mR 182) ∈ lw_tbl := List.mem_append_right _ (List.mem_append_right _ (List.mem_append_right _ (List.mem_append_right _ (List.mem_append_right _ (List.mem_of_getElem? (i := 133) rfl)))))
theorem cd_183 : Cond.code (mN 183) (mC 183) (mL 183) (mR 183) ∈ lw_tbl := List.mem_append_right _ (List.mem_append_right _ (List.mem_append_right _ (List.mem_append_right _ (List.mem_append_right _ (List.mem_of_getElem? (i := 129) rfl)))))
theorem cd_184 : Cond.code (mN 184) (mC 184) (mL 184) (mR 184) ∈ lw_tbl := List.mem_append_right _ (List.mem_append_right _ (List.mem_append_right _ (List.mem_append_right _ (List.mem_append_right _ (List.mem_of_getElem? (i := 141) rfl)))))
theorem cd_185 : Cond.code (mN 185) (mC 185) (mL 185) (mR 185) ∈ lw_tbl := List.mem_append_right _ (List.mem_append_right _ (List.mem_append_right _ (List.mem_append_right _ (List.mem_append_right _ (List.mem_of_getElem? (i := 137) rfl)))))
theorem cd_186 : Cond.code (mN 186) (mC 186) (mL 186) (mR 186) ∈ lw_tbl := List.mem_append_right _ (List.mem_append_right _ (List.mem_append_right _ (List.mem_append_right _ (List.mem_append_right _ (List.mem_of_getElem? (i := 149) rfl)))))
theorem cd_187 : Cond.code (mN 187) (mC 187) (mL 187) (mR 187) ∈ lw_tbl := List.mem_append_right _ (List.mem_append_right _ (List.mem_append_right _ (List.mem_append_right _ (List.mem_append_right _ (List.mem_of_getElem? (i := 145) rfl)))))
theorem cd_188 : Cond.code (mN 188) (mC 188) (mL 188) (mR 188) ∈ lw_tbl := List.mem_append_right _ (List.mem_append_right _ (List.mem_append_right _ (List.mem_append_right _ (List.mem_append_right _ (List.mem_of_getElem? (i := 153) rfl)))))
theorem cd_189 : Cond.code (mN 189) (mC 189) (mL 189) (mR 189) ∈ lw_tbl := List.mem_append_right _ (List.mem_append_right _ (List.mem_append_right _ (List.mem_append_right _ (List.mem_append_right _ (List.mem_of_getElem? (i := 160) rfl)))))
theorem cd_190 : Cond.code (mN 190) (mC 190) (mL 190) (mR 190) ∈ lw_tbl := List.mem_append_right _ (List.mem_append_right _ (List.mem_append_right _ (List.mem_append_right _ (List.mem_append_right _ (List.mem_of_getElem? (i := 169) rfl)))))
theorem cd_191 : Cond.code (mN 191) (mC 191) (mL 191) (mR 191) ∈ lw_tbl := List.mem_append_right _ (List.mem_append_right _ (List.mem_append_right _ (List.mem_append_right _ (List.mem_append_right _ (List.mem_of_getElem? (i := 173) rfl)))))
theorem cd_192 : Cond.code (mN 192) (mC 192) (mL 192) (mR 192) ∈ lw_tbl := List.mem_append_right _ (List.mem_append_right _ (List.mem_append_right _ (List.mem_append_right _ (List.mem_append_right _ (List.mem_of_getElem? (i := 193) rfl)))))
theorem cd_193 : Cond.code (mN 193) (mC 193) (mL 193) (mR 193) ∈ lw_tbl := List.mem_append_right _ (List.mem_append_right _ (List.mem_append_right _ (List.mem_append_right _ (List.mem_append_right _ (List.mem_of_getElem? (i := 177) rfl)))))
theorem cd_194 : Cond.code (mN 194) (mC 194) (mL 194) (mR 194) ∈ lw_tbl := List.mem_append_right _ (List.mem_append_right _ (List.mem_append_right _ (List.mem_append_right _ (List.mem_append_right _ (List.mem_of_getElem? (i := 181) rfl)))))
theorem cd_195 : Cond.code (mN 195) (mC 195) (mL 195) (mR 195) ∈ lw_tbl := List.mem_append_right _ (List.mem_append_right _ (List.mem_append_right _ (List.mem_append_right _ (List.mem_append_right _ (List.mem_of_getElem? (i := 201) rfl)))))
theorem cd_196 : Cond.code (mN 196) (mC 196) (mL 196) (mR 196) ∈ lw_tbl := List.mem_append_right _ (List.mem_append_right _ (List.mem_append_right _ (List.mem_append_right _ (List.mem_append_right _ (List.mem_of_getElem? (i := 213) rfl)))))
theorem cd_197 : Cond.code (mN 197) (mC 197) (mL 197) (mR 197) ∈ lw_tbl := List.mem_append_right _ (List.mem_append_right _ (List.mem_append_right _ (List.mem_append_right _ (List.mem_append_right _ (List.mem_of_getElem? (i := 209) rfl)))))
theorem cd_198 : Cond.code (mN 198) (mC 198) (mL 198) (mR 198) ∈ lw_tbl := List.mem_append_right _ (List.mem_append_right _ (List.mem_append_right _ (List.mem_append_right _ (List.mem_append_right _ (List.mem_of_getElem? (i := 205) rfl)))))
theorem cd_199 : Cond.code (mN 199) (mC 199) (mL 199) (mR 199) ∈ lw_tbl := List.mem_append_right _ (List.mem_append_right _ (List.mem_append_right _ (List.mem_append_right _ (List.mem_append_right _ (List.mem_of_getElem? (i := 197) rfl)))))
theorem cd_200 : Cond.code (mN 200) (mC 200) (mL 200) (mR 200) ∈ lw_tbl := List.mem_append_right _ (List.mem_append_right _ (List.mem_append_right _ (List.mem_append_right _ (List.mem_append_right _ (List.mem_of_getElem? (i := 217) rfl)))))
theorem cd_201 : Cond.code (mN 201) (mC 201) (mL 201) (mR 201) ∈ lw_tbl := List.mem_append_right _ (List.mem_append_right _ (List.mem_append_right _ (List.mem_append_right _ (List.mem_append_right _ (List.mem_of_getElem? (i := 189) rfl)))))
theorem cd_202 : Cond.code (mN 202) (mC 202) (mL 202) (mR 202) ∈ lw_tbl := List.mem_append_right _ (List.mem_append_right _ (List.mem_append_right _ (List.mem_append_right _ (List.mem_append_right _ (List.mem_of_getElem? (i := 221) rfl)))))
theorem cd_203 : Cond.code (mN 203) (mC 203) (mL 203) (mR 203) ∈ lw_tbl := List.mem_append_right _ (List.mem_append_right _ (List.mem_append_right _ (List.mem_append_right _ (List.mem_append_right _ (List.mem_of_getElem? (i := 185) rfl)))))
theorem cd_204 : Cond.code (mN 204) (mC 204) (mL 204) (mR 204) ∈ lw_tbl := List.mem_append_right _ (List.mem_append_right _ (List.mem_append_right _ (List.mem_append_right _ (List.mem_append_right _ (List.mem_of_getElem? (i := 225) rfl)))))
theorem cd_205 : Cond.code (mN 205) (mC 205) (mL 205) (mR 205) ∈ lw_tbl := List.mem_append_right _ (List.mem_append_right _ (List.mem_append_right _ (List.mem_append_right _ (List.mem_append_right _ (List.mem_of_getElem? (i := 229) rfl)))))
theorem cd_206 : Cond.code (mN 206) (mC 206) (mL 206) (mR 206) ∈ lw_tbl := List.mem_append_right _ (List.mem_append_right _ (List.mem_append_right _ (List.mem_append_right _ (List.mem_append_right _ (List.mem_of_getElem? (i := 233) rfl)))))
theorem cd_207 : Cond.code (mN 207) (mC 207) (mL 207) (mR 207) ∈ lw_tbl := List.mem_append_right _ (List.mem_append_right _ (List.mem_append_right _ (List.mem_append_left _ (List.mem_of_getElem? (i := 194) rfl))))
set_option maxRecDepth 100000 in
theorem eRows_code : ∀ r ∈ eRows, Cond.code (mN r.1) (mC r.1) (mL r.1) (mR r.1) ∈ lw_tbl := List.forall_mem_cons.mpr ⟨cd_0, List.forall_mem_cons.mpr ⟨cd_1, List.forall_mem_cons.mpr ⟨cd_2, List.forall_mem_cons.mpr ⟨cd_3, List.forall_mem_cons.mpr ⟨cd_4, List.forall_mem_cons.mpr ⟨cd_5, List.forall_mem_cons.mpr ⟨cd_6, List.forall_mem_cons.mpr ⟨cd_7, List.forall_mem_cons.mpr ⟨cd_8, List.forall_mem_cons.mpr ⟨cd_9, List.forall_mem_cons.mpr ⟨cd_10, List.forall_mem_cons.mpr ⟨cd_11, List.forall_mem_cons.mpr ⟨cd_12, List.forall_mem_cons.mpr ⟨cd_13, List.forall_mem_cons.mpr ⟨cd_14, List.forall_mem_cons.mpr ⟨cd_15, List.forall_mem_cons.mpr ⟨cd_16, List.forall_mem_cons.mpr ⟨cd_17, List.forall_mem_cons.mpr ⟨cd_18, List.forall_mem_cons.mpr ⟨cd_19, List.forall_mem_cons.mpr ⟨cd_20, List.forall_mem_cons.mpr ⟨cd_21, List.forall_mem_cons.mpr ⟨cd_22, List.forall_mem_cons.mpr ⟨cd_23, List.forall_mem_cons.mpr ⟨cd_24, List.forall_mem_cons.mpr ⟨cd_25, List.forall_mem_cons.mpr ⟨cd_26, List.forall_mem_cons.mpr ⟨cd_27, List.forall_mem_cons.mpr ⟨cd_28, List.forall_mem_cons.mpr ⟨cd_29, List.forall_mem_cons.mpr ⟨cd_30, List.forall_mem_cons.mpr ⟨cd_31, List.forall_mem_cons.mpr ⟨cd_32, List.forall_mem_cons.mpr ⟨cd_33, List.forall_mem_cons.mpr ⟨cd_34, List.forall_mem_cons.mpr ⟨cd_35, List.forall_mem_cons.mpr ⟨cd_36, List.forall_mem_cons.mpr ⟨cd_37, List.forall_mem_cons.mpr ⟨cd_38, List.forall_mem_cons.mpr ⟨cd_39, List.forall_mem_cons.mpr ⟨cd_40, List.forall_mem_cons.mpr ⟨cd_41, List.forall_mem_cons.mpr ⟨cd_42, List.forall_mem_cons.mpr ⟨cd_43, List.forall_mem_cons.mpr ⟨cd_44, List.forall_mem_cons.mpr ⟨cd_45, List.forall_mem_cons.mpr ⟨cd_46, List.forall_mem_cons.mpr ⟨cd_47, List.forall_mem_cons.mpr ⟨cd_48, List.forall_mem_cons.mpr ⟨cd_49, List.forall_mem_cons.mpr ⟨cd_50, List.forall_mem_cons.mpr ⟨cd_51, List.forall_mem_cons.mpr ⟨cd_52, List.forall_mem_cons.mpr ⟨cd_53, List.forall_mem_cons.mpr ⟨cd_54, List.forall_mem_cons.mpr ⟨cd_55, List.forall_mem_cons.mpr ⟨cd_56, List.forall_mem_cons.mpr ⟨cd_57, List.forall_mem_cons.mpr ⟨cd_58, List.forall_mem_cons.mpr ⟨cd_59, List.forall_mem_cons.mpr ⟨cd_60, List.forall_mem_cons.mpr ⟨cd_61, List.forall_mem_cons.mpr ⟨cd_62, List.forall_mem_cons.mpr ⟨cd_63, List.forall_mem_cons.mpr ⟨cd_64, List.forall_mem_cons.mpr ⟨cd_65, List.forall_mem_cons.mpr ⟨cd_66, List.forall_mem_cons.mpr ⟨cd_67, List.forall_mem_cons.mpr ⟨cd_68, List.forall_mem_cons.mpr ⟨cd_69, List.forall_mem_cons.mpr ⟨cd_70, List.forall_mem_cons.mpr ⟨cd_71, List.forall_mem_cons.mpr ⟨cd_72, List.forall_mem_cons.mpr ⟨cd_73, List.forall_mem_cons.mpr ⟨cd_74, List.forall_mem_cons.mpr ⟨cd_75, List.forall_mem_cons.mpr ⟨cd_76, List.forall_mem_cons.mpr ⟨cd_77, List.forall_mem_cons.mpr ⟨cd_78, List.forall_mem_cons.mpr ⟨cd_79, List.forall_mem_cons.mpr ⟨cd_80, List.forall_mem_cons.mpr ⟨cd_81, List.forall_mem_cons.mpr ⟨cd_82, List.forall_mem_cons.mpr ⟨cd_83, List.forall_mem_cons.mpr ⟨cd_84, List.forall_mem_cons.mpr ⟨cd_85, List.forall_mem_cons.mpr ⟨cd_86, List.forall_mem_cons.mpr ⟨cd_87, List.forall_mem_cons.mpr ⟨cd_88, List.forall_mem_cons.mpr ⟨cd_89, List.forall_mem_cons.mpr ⟨cd_90, List.forall_mem_cons.mpr ⟨cd_91, List.forall_mem_cons.mpr ⟨cd_92, List.forall_mem_cons.mpr ⟨cd_93, List.forall_mem_cons.mpr ⟨cd_94, List.forall_mem_cons.mpr ⟨cd_95, List.forall_mem_cons.mpr ⟨cd_96, List.forall_mem_cons.mpr ⟨cd_97, List.forall_mem_cons.mpr ⟨cd_98, List.forall_mem_cons.mpr ⟨cd_99, List.forall_mem_cons.mpr ⟨cd_100, List.forall_mem_cons.mpr ⟨cd_101, List.forall_mem_cons.mpr ⟨cd_102, List.forall_mem_cons.mpr ⟨cd_103, List.forall_mem_cons.mpr ⟨cd_104, List.forall_mem_cons.mpr ⟨cd_105, List.forall_mem_cons.mpr ⟨cd_106, List.forall_mem_cons.mpr ⟨cd_107, List.forall_mem_cons.mpr ⟨cd_108, List.forall_mem_cons.mpr ⟨cd_109, List.forall_mem_cons.mpr ⟨cd_110, List.forall_mem_cons.mpr ⟨cd_111, List.forall_mem_cons.mpr ⟨cd_112, List.forall_mem_cons.mpr ⟨cd_113, List.forall_mem_cons.mpr ⟨cd_114, List.forall_mem_cons.mpr ⟨cd_115, List.forall_mem_cons.mpr ⟨cd_116, List.forall_mem_cons.mpr ⟨cd_117, List.forall_mem_cons.mpr ⟨cd_118, List.forall_mem_cons.mpr ⟨cd_119, List.forall_mem_cons.mpr ⟨cd_120, List.forall_mem_cons.mpr ⟨cd_121, List.forall_mem_cons.mpr ⟨cd_122, List.forall_mem_cons.mpr ⟨cd_123, List.forall_mem_cons.mpr ⟨cd_124, List.forall_mem_cons.mpr ⟨cd_125, List.forall_mem_cons.mpr ⟨cd_126, List.forall_mem_cons.mpr ⟨cd_127, List.forall_mem_cons.mpr ⟨cd_128, List.forall_mem_cons.mpr ⟨cd_129, List.forall_mem_cons.mpr ⟨cd_130, List.forall_mem_cons.mpr ⟨cd_131, List.forall_mem_cons.mpr ⟨cd_132, List.forall_mem_cons.mpr ⟨cd_133, List.forall_mem_cons.mpr ⟨cd_134, List.forall_mem_cons.mpr ⟨cd_135, List.forall_mem_cons.mpr ⟨cd_136, List.forall_mem_cons.mpr ⟨cd_137, List.forall_mem_cons.mpr ⟨cd_138, List.forall_mem_cons.mpr ⟨cd_139, List.forall_mem_cons.mpr ⟨cd_140, List.forall_mem_cons.mpr ⟨cd_141, List.forall_mem_cons.mpr ⟨cd_142, List.forall_mem_cons.mpr ⟨cd_143, List.forall_mem_cons.mpr ⟨cd_144, List.forall_mem_cons.mpr ⟨cd_145, List.forall_mem_cons.mpr ⟨cd_146, List.forall_mem_cons.mpr ⟨cd_147, List.forall_mem_cons.mpr ⟨cd_148, List.forall_mem_cons.mpr ⟨cd_149, List.forall_mem_cons.mpr ⟨cd_150, List.forall_mem_cons.mpr ⟨cd_151, List.forall_mem_cons.mpr ⟨cd_152, List.forall_mem_cons.mpr ⟨cd_153, List.forall_mem_cons.mpr ⟨cd_154, List.forall_mem_cons.mpr ⟨cd_155, List.forall_mem_cons.mpr ⟨cd_156, List.forall_mem_cons.mpr ⟨cd_157, List.forall_mem_cons.mpr ⟨cd_158, List.forall_mem_cons.mpr ⟨cd_159, List.forall_mem_cons.mpr ⟨cd_160, List.forall_mem_cons.mpr ⟨cd_161, List.forall_mem_cons.mpr ⟨cd_162, List.forall_mem_cons.mpr ⟨cd_163, List.forall_mem_cons.mpr ⟨cd_164, List.forall_mem_cons.mpr ⟨cd_165, List.forall_mem_cons.mpr ⟨cd_166, List.forall_mem_cons.mpr ⟨cd_167, List.forall_mem_cons.mpr ⟨cd_168, List.forall_mem_cons.mpr ⟨cd_169, List.forall_mem_cons.mpr ⟨cd_170, List.forall_mem_cons.mpr ⟨cd_171, List.forall_mem_cons.mpr ⟨cd_172, List.forall_mem_cons.mpr ⟨cd_173, List.forall_mem_cons.mpr ⟨cd_174, List.forall_mem_cons.mpr ⟨cd_175, List.forall_mem_cons.mpr ⟨cd_176, List.forall_mem_cons.mpr ⟨cd_177, List.forall_mem_cons.mpr ⟨cd_178, List.forall_mem_cons.mpr ⟨cd_179, List.forall_mem_cons.mpr ⟨cd_180, List.forall_mem_cons.mpr ⟨cd_181, List.forall_mem_cons.mpr ⟨cd_182, List.forall_mem_cons.mpr ⟨cd_183, List.forall_mem_cons.mpr ⟨cd_184, List.forall_mem_cons.mpr ⟨cd_185, List.forall_mem_cons.mpr ⟨cd_186, List.forall_mem_cons.mpr ⟨cd_187, List.forall_mem_cons.mpr ⟨cd_188, List.forall_mem_cons.mpr ⟨cd_189, List.forall_mem_cons.mpr ⟨cd_190, List.forall_mem_cons.mpr ⟨cd_191, List.forall_mem_cons.mpr ⟨cd_192, List.forall_mem_cons.mpr ⟨cd_193, List.forall_mem_cons.mpr ⟨cd_194, List.forall_mem_cons.mpr ⟨cd_195, List.forall_mem_cons.mpr ⟨cd_196, List.forall_mem_cons.mpr ⟨cd_197, List.forall_mem_cons.mpr ⟨cd_198, List.forall_mem_cons.mpr ⟨cd_199, List.forall_mem_cons.mpr ⟨cd_200, List.forall_mem_cons.mpr ⟨cd_201, List.forall_mem_cons.mpr ⟨cd_202, List.forall_mem_cons.mpr ⟨cd_203, List.forall_mem_cons.mpr ⟨cd_204, List.forall_mem_cons.mpr ⟨cd_205, List.forall_mem_cons.mpr ⟨cd_206, List.forall_mem_cons.mpr ⟨cd_207, fun _ h => absurd h List.not_mem_nil⟩⟩⟩⟩⟩⟩⟩⟩⟩⟩⟩⟩⟩⟩⟩⟩⟩⟩⟩⟩⟩⟩⟩⟩⟩⟩⟩⟩⟩⟩⟩⟩⟩⟩⟩⟩⟩⟩⟩⟩⟩⟩⟩⟩⟩⟩⟩⟩⟩⟩⟩⟩⟩⟩⟩⟩⟩⟩⟩⟩⟩⟩⟩⟩⟩⟩⟩⟩⟩⟩⟩⟩⟩⟩⟩⟩⟩⟩⟩⟩⟩⟩⟩⟩⟩⟩⟩⟩⟩⟩⟩⟩⟩⟩⟩⟩⟩⟩⟩⟩⟩⟩⟩⟩⟩⟩⟩⟩⟩⟩⟩⟩⟩⟩⟩⟩⟩⟩⟩⟩⟩⟩⟩⟩⟩⟩⟩⟩⟩⟩⟩⟩⟩⟩⟩⟩⟩⟩⟩⟩⟩⟩⟩⟩⟩⟩⟩⟩⟩⟩⟩⟩⟩⟩⟩⟩⟩⟩⟩⟩⟩⟩⟩⟩⟩⟩⟩⟩⟩⟩⟩⟩⟩⟩⟩⟩⟩⟩⟩⟩⟩⟩⟩⟩⟩⟩⟩⟩⟩⟩⟩⟩⟩⟩⟩⟩⟩⟩⟩⟩⟩⟩⟩⟩⟩⟩⟩⟩
theorem eRows_i1 : ∀ r ∈ eRows, lw_tbl[r.2.2.1]? = some (.initialized (mN r.1).cls) := by decide +kernel
theorem eRows_i2 : ∀ r ∈ eRows, (mN r.1).cls ≠ "java/lang/invoke/MethodHandle" ∧ (mN r.1).cls ≠ "java/lang/invoke/VarHandle" := by decide +kernel
theorem pn_0 : plainName "WinkCircle$Acts" = true := by decide
theorem pn_1 : plainName "WinkCircle$Asks" = true := by decide
theorem pn_2 : plainName "WinkCircle$Circle" = true := by decide
theorem pn_3 : plainName "WinkCircle$Rows" = true := by decide
theorem pn_4 : plainName "WinkCircle$Seer" = true := by decide
theorem pn_5 : plainName "WinkCircle$Tape" = true := by decide
theorem pn_6 : plainName "WinkCircle" = true := by decide
theorem pn_7 : plainName "WinkCircleModel" = true := by decide
theorem pn_8 : plainName "WinkCircleLaw" = true := by decide
theorem pn_9 : plainName "java/lang/Integer" = true := by decide
theorem pn : ∀ c, c < 10 → plainName (cn c) = true
  | 0, _ => pn_0
  | 1, _ => pn_1
  | 2, _ => pn_2
  | 3, _ => pn_3
  | 4, _ => pn_4
  | 5, _ => pn_5
  | 6, _ => pn_6
  | 7, _ => pn_7
  | 8, _ => pn_8
  | 9, _ => pn_9
  | n + 10, h => absurd h (by omega)
theorem eRows_i6 : ∀ r ∈ eRows, mO r.1 < 10 := by decide +kernel
theorem eRows_i4 : ∀ r ∈ eRows, mL r.1 ≤ 40 := by decide +kernel
theorem eRows_i5 : ∀ r ∈ eRows, cn (mO r.1) = (mN r.1).cls := by decide +kernel
theorem eRows_stat : ∀ r ∈ eRows, mS r.1 = 1 → lw_tbl[r.2.2.2.1]? = some (.static (mN r.1)) := by decide +kernel
theorem eRows_inst : ∀ r ∈ eRows, mS r.1 = 0 → lw_tbl[r.2.2.2.1]? = some (.instanceMethod (mN r.1)) ∧ lw_tbl[r.2.2.2.2]? = some (.selects (mN r.1).cls (mN r.1) (mN r.1)) ∧ mO r.1 < 8 := by decide +kernel
def mP (n : Nat) : Nat := ((parseMethodDescriptor (mN n).desc).map (fun d => d.parameters.length)).getD 99
theorem eRows_par : ∀ r ∈ eRows, (parseMethodDescriptor (mN r.1).desc).map (fun d => d.parameters.length) = some (mP r.1) := by decide +kernel
