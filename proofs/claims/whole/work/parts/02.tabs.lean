def oNm : List String := ["DoorTears$Cup", "DoorTears$Foretelling", "DoorTears$Funeral", "DoorTears$Kinds", "DoorTears$Lane", "DoorTears$Letters", "DoorTears$Past", "DoorTears$Reader", "DoorTears$Sights", "DoorTears", "DoorTearsModel", "DoorTearsLaw", "java/lang/String", "java/lang/StringLatin1", "java/lang/Math", "java/lang/Integer", "java/util/Arrays", "jdk/internal/util/Preconditions"]
def oName (k : Nat) : String := oNm.getD k ""
def layL : List Nat := [8, 4, 20, 3, 21, 21, 22, 22, 22, 22, 22, 21, 3, 21, 21, 22, 22, 22, 22, 22, 21, 6, 3, 21, 21, 22, 22, 22, 22, 22, 21, 5, 50, 3, 21, 21, 22, 22, 22, 22, 22, 21, 3, 21, 21, 22, 22, 22, 22, 22, 21, 3, 21, 21, 22, 22, 22, 22, 22, 21, 3, 21, 21, 22, 22, 22, 22, 22, 21, 3, 21, 21, 22, 22, 22, 22, 22, 21, 3, 21, 21, 22, 22, 22, 22, 22, 21, 3, 21, 21, 22, 22, 22, 22, 22, 21, 3, 21, 21, 22, 22, 22, 22, 22, 21, 51, 40, 3, 21, 21, 22, 22, 22, 22, 22, 21, 3, 21, 21, 22, 22, 22, 22, 22, 21, 1, 3, 21, 21, 22, 22, 22, 22, 22, 21, 2, 3, 21, 21, 22, 22, 22, 22, 22, 21, 22, 22, 7, 22, 41, 22, 52, 0, 29, 29, 0, 29, 29, 0, 29, 29, 9, 20, 23, 23, 23, 23, 24, 25, 40, 21, 22, 22, 22, 26, 27, 27, 28, 28]
def kN : Nat := 179
def lay (k : Nat) : Nat := layL.getD k 99
def nF (q : Nat) : Nat := ([6, 1, 4, 13, 2, 3, 5, 4, 12, 27] : List Nat).getD q 0
def fT (c j : Nat) : Option (Nat × Nat × Nat) := match c, j with
  | 0, 0 => some (29, 1, 1)
  | 0, 1 => some (29, 1, 2)
  | 1, 0 => some (3, 0, 126)
  | 2, 0 => some (3, 0, 136)
  | 2, 1 => some (22, 0, 145)
  | 2, 2 => some (22, 0, 146)
  | 3, 4 => some (21, 1, 1)
  | 3, 5 => some (21, 1, 2)
  | 3, 6 => some (22, 1, 3)
  | 3, 7 => some (22, 1, 4)
  | 3, 8 => some (22, 1, 5)
  | 3, 9 => some (22, 1, 6)
  | 3, 10 => some (22, 1, 7)
  | 3, 11 => some (21, 1, 8)
  | 4, 0 => some (20, 0, 2)
  | 5, 0 => some (50, 0, 32)
  | 6, 0 => some (4, 0, 1)
  | 6, 1 => some (3, 0, 12)
  | 7, 0 => some (22, 0, 148)
  | 7, 1 => some (41, 0, 149)
  | 7, 2 => some (22, 0, 150)
  | 8, 0 => some (4, 0, 1)
  | 8, 1 => some (3, 0, 3)
  | 8, 2 => some (3, 0, 12)
  | 8, 3 => some (6, 0, 21)
  | 8, 4 => some (3, 0, 22)
  | 8, 5 => some (5, 0, 31)
  | 8, 6 => some (51, 0, 105)
  | 8, 7 => some (40, 0, 106)
  | 8, 8 => some (1, 0, 125)
  | 8, 9 => some (2, 0, 135)
  | 8, 10 => some (7, 0, 147)
  | 8, 11 => some (52, 0, 151)
  | 9, 0 => some (20, 0, 162)
  | 9, 9 => some (23, 0, 163)
  | 9, 10 => some (23, 0, 164)
  | 9, 11 => some (23, 0, 165)
  | 9, 12 => some (23, 0, 166)
  | 9, 13 => some (24, 0, 167)
  | 9, 15 => some (25, 0, 168)
  | 9, 16 => some (40, 0, 169)
  | 9, 17 => some (21, 0, 170)
  | 9, 18 => some (22, 0, 171)
  | 9, 19 => some (22, 0, 172)
  | 9, 20 => some (22, 0, 173)
  | 9, 21 => some (26, 0, 174)
  | 9, 23 => some (27, 0, 175)
  | 9, 24 => some (27, 0, 176)
  | 9, 25 => some (28, 0, 177)
  | 9, 26 => some (28, 0, 178)
  | _, _ => none
def alen (q : Nat) : Nat := match q with
  | 20 => 200
  | 21 => 7
  | 22 => 6
  | 23 => 48
  | 24 => 384
  | 25 => 96
  | 26 => 18
  | 27 => 3
  | 28 => 27
  | 29 => 9
  | 40 => 2
  | 41 => 6
  | 50 => 8
  | 51 => 2
  | 52 => 3
  | _ => 0
/-- arrays of references: class of what they hold, first, stride, which array class -/
def rK (q : Nat) : Nat := match q with | 52 => 0 | _ => 3
def rF (q : Nat) : Nat := match q with | 50 => 33 | 51 => 107 | _ => 152
def rS (q : Nat) : Nat := match q with | 52 => 3 | _ => 9
def rC (q : Nat) : Nat := match q with | 52 => 3 | _ => 2
abbrev cls : List vw_C := [(RX0, TX0, 6), (RX1, TX1, 1), (RX2, TX2, 4), (RX4, TX4, 13), (RX5, TX5, 2), (RX6, TX6, 3), (RX7, TX7, 5), (RX8, TX8, 4), (RX9, TX9, 12), (RX10, TX10, 27)]
abbrev MI : Type := MethodName × ByteArray × Nat × Option FieldType × Nat × Nat × Nat
def mt_0 : MI := (⟨"", "", ""⟩, ⟨#[]⟩, 0, none, 0, 0, 0)
def mtab : List MI := [(⟨"DoorTears$Cup", "make", "(I)V"⟩, prog_2_method_2_code, 2, (none : Option Jvm.ClassFile.FieldType), 0, 1, 1),
  (⟨"DoorTears$Cup", "discard", "()V"⟩, prog_2_method_3_code, 1, (none : Option Jvm.ClassFile.FieldType), 0, 1, 0),
  (⟨"DoorTears$Cup", "add", "(III)V"⟩, prog_2_method_4_code, 4, (none : Option Jvm.ClassFile.FieldType), 0, 1, 3),
  (⟨"DoorTears$Cup", "sortAt", "(I)I"⟩, prog_2_method_5_code, 2, (some .int), 0, 1, 1),
  (⟨"DoorTears$Cup", "valueAt", "(I)I"⟩, prog_2_method_6_code, 2, (some .int), 0, 1, 1),
  (⟨"DoorTears$Cup", "remove", "(I)V"⟩, prog_2_method_7_code, 2, (none : Option Jvm.ClassFile.FieldType), 0, 1, 1),
  (⟨"DoorTears$Cup", "moveFirstTo", "(LDoorTears$Cup;)V"⟩, prog_2_method_8_code, 4, (none : Option Jvm.ClassFile.FieldType), 0, 1, 1),
  (⟨"DoorTears$Cup", "holdsSameAs", "(LDoorTears$Cup;)Z"⟩, prog_2_method_9_code, 5, (some .boolean), 0, 1, 1),
  (⟨"DoorTears$Cup", "atEnd", "(I)I"⟩, prog_2_method_10_code, 2, (some .int), 0, 1, 1),
  (⟨"DoorTears$Cup", "ring", "(I)I"⟩, prog_2_method_11_code, 2, (some .int), 0, 1, 1),
  (⟨"DoorTears$Foretelling", "behindEvenings", "(LDoorTears$Lane;I)LDoorTears$Lane;"⟩, prog_3_method_2_code, 3, (some (.object "DoorTears$Lane")), 1, 1, 2),
  (⟨"DoorTears$Foretelling", "firstInField", "(LDoorTears$Lane;I)I"⟩, prog_3_method_3_code, 4, (some .int), 1, 1, 2),
  (⟨"DoorTears$Foretelling", "fewestDoors", "(LDoorTears$Lane;I)I"⟩, prog_3_method_4_code, 6, (some .int), 1, 1, 2),
  (⟨"DoorTears$Foretelling", "sparesField", "(LDoorTears$Lane;II)Z"⟩, prog_3_method_5_code, 5, (some .boolean), 1, 1, 3),
  (⟨"DoorTears$Foretelling", "bestHearth", "(LDoorTears$Lane;I)I"⟩, prog_3_method_6_code, 7, (some .int), 1, 1, 2),
  (⟨"DoorTears$Foretelling", "timesWithHearth", "(LDoorTears$Lane;II)I"⟩, prog_3_method_7_code, 6, (some .int), 1, 1, 3),
  (⟨"DoorTears$Foretelling", "oddsInDraught", "(LDoorTears$Lane;II)I"⟩, prog_3_method_8_code, 8, (some .int), 1, 1, 3),
  (⟨"DoorTears$Foretelling", "waysToStayOpen", "(III)I"⟩, prog_3_method_9_code, 5, (some .int), 1, 0, 3),
  (⟨"DoorTears$Foretelling", "power", "(II)I"⟩, prog_3_method_10_code, 4, (some .int), 1, 0, 2),
  (⟨"DoorTears$Funeral", "plan", "(LDoorTears$Lane;)V"⟩, prog_4_method_2_code, 2, (none : Option Jvm.ClassFile.FieldType), 2, 1, 1),
  (⟨"DoorTears$Funeral", "tryOrders", "(III)V"⟩, prog_4_method_3_code, 5, (none : Option Jvm.ClassFile.FieldType), 2, 1, 3),
  (⟨"DoorTears$Funeral", "letGo", "(IIII)V"⟩, prog_4_method_4_code, 6, (none : Option Jvm.ClassFile.FieldType), 2, 1, 4),
  (⟨"DoorTears$Kinds", "bears", "(I)I"⟩, prog_5_method_2_code, 1, (some .int), 3, 0, 1),
  (⟨"DoorTears$Kinds", "goes", "(I)I"⟩, prog_5_method_3_code, 1, (some .int), 3, 0, 1),
  (⟨"DoorTears$Kinds", "isUnder", "(II)Z"⟩, prog_5_method_4_code, 2, (some .boolean), 3, 0, 2),
  (⟨"DoorTears$Kinds", "comesOnAt", "(II)Z"⟩, prog_5_method_5_code, 2, (some .boolean), 3, 0, 2),
  (⟨"DoorTears$Kinds", "eased", "(II)I"⟩, prog_5_method_6_code, 2, (some .int), 3, 0, 2),
  (⟨"DoorTears$Kinds", "grown", "(II)I"⟩, prog_5_method_7_code, 2, (some .int), 3, 0, 2),
  (⟨"DoorTears$Kinds", "afterEvening", "(II)I"⟩, prog_5_method_8_code, 2, (some .int), 3, 0, 2),
  (⟨"DoorTears$Kinds", "isKind", "(I)Z"⟩, prog_5_method_9_code, 1, (some .boolean), 3, 0, 1),
  (⟨"DoorTears$Lane", "clear", "()V"⟩, prog_6_method_2_code, 1, (none : Option Jvm.ClassFile.FieldType), 4, 1, 0),
  (⟨"DoorTears$Lane", "copyFrom", "(LDoorTears$Lane;)V"⟩, prog_6_method_3_code, 2, (none : Option Jvm.ClassFile.FieldType), 4, 1, 1),
  (⟨"DoorTears$Lane", "hasKitchen", "(I)Z"⟩, prog_6_method_4_code, 2, (some .boolean), 4, 1, 1),
  (⟨"DoorTears$Lane", "hasPerson", "(I)Z"⟩, prog_6_method_5_code, 2, (some .boolean), 4, 1, 1),
  (⟨"DoorTears$Lane", "isOpen", "(I)Z"⟩, prog_6_method_6_code, 2, (some .boolean), 4, 1, 1),
  (⟨"DoorTears$Lane", "addKitchen", "(ZI)V"⟩, prog_6_method_7_code, 3, (none : Option Jvm.ClassFile.FieldType), 4, 1, 2),
  (⟨"DoorTears$Lane", "addPerson", "(III)V"⟩, prog_6_method_8_code, 4, (none : Option Jvm.ClassFile.FieldType), 4, 1, 3),
  (⟨"DoorTears$Lane", "fallOut", "(II)V"⟩, prog_6_method_9_code, 3, (none : Option Jvm.ClassFile.FieldType), 4, 1, 2),
  (⟨"DoorTears$Lane", "reconcile", "(II)V"⟩, prog_6_method_10_code, 3, (none : Option Jvm.ClassFile.FieldType), 4, 1, 2),
  (⟨"DoorTears$Lane", "livingIn", "(I)I"⟩, prog_6_method_11_code, 4, (some .int), 4, 1, 1),
  (⟨"DoorTears$Lane", "griefOfAll", "()I"⟩, prog_6_method_12_code, 3, (some .int), 4, 1, 0),
  (⟨"DoorTears$Lane", "luckOfAll", "()I"⟩, prog_6_method_13_code, 3, (some .int), 4, 1, 0),
  (⟨"DoorTears$Lane", "comesOn", "(I)Z"⟩, prog_6_method_14_code, 2, (some .boolean), 4, 1, 1),
  (⟨"DoorTears$Lane", "comingOn", "()I"⟩, prog_6_method_15_code, 3, (some .int), 4, 1, 0),
  (⟨"DoorTears$Lane", "passEvenings", "(I)V"⟩, prog_6_method_16_code, 3, (none : Option Jvm.ClassFile.FieldType), 4, 1, 1),
  (⟨"DoorTears$Lane", "passEvening", "()V"⟩, prog_6_method_17_code, 3, (none : Option Jvm.ClassFile.FieldType), 4, 1, 0),
  (⟨"DoorTears$Lane", "emptyKitchens", "()V"⟩, prog_6_method_18_code, 1, (none : Option Jvm.ClassFile.FieldType), 4, 1, 0),
  (⟨"DoorTears$Lane", "goalOf", "(I)I"⟩, prog_6_method_19_code, 5, (some .int), 4, 1, 1),
  (⟨"DoorTears$Lane", "takesIn", "(II)Z"⟩, prog_6_method_20_code, 3, (some .boolean), 4, 1, 2),
  (⟨"DoorTears$Lane", "homesOf", "(I)I"⟩, prog_6_method_21_code, 4, (some .int), 4, 1, 1),
  (⟨"DoorTears$Letters", "add", "(I)V"⟩, prog_7_method_2_code, 2, (none : Option Jvm.ClassFile.FieldType), 5, 1, 1),
  (⟨"DoorTears$Letters", "at", "(I)I"⟩, prog_7_method_3_code, 2, (some .int), 5, 1, 1),
  (⟨"DoorTears$Past", "clear", "()V"⟩, prog_8_method_2_code, 1, (none : Option Jvm.ClassFile.FieldType), 6, 1, 0),
  (⟨"DoorTears$Past", "remember", "(LDoorTears$Lane;)V"⟩, prog_8_method_3_code, 2, (none : Option Jvm.ClassFile.FieldType), 6, 1, 1),
  (⟨"DoorTears$Past", "restoreTo", "(LDoorTears$Lane;)V"⟩, prog_8_method_4_code, 2, (none : Option Jvm.ClassFile.FieldType), 6, 1, 1),
  (⟨"DoorTears$Reader", "readBehind", "(LDoorTears$Lane;)I"⟩, prog_9_method_2_code, 3, (some .int), 7, 1, 1),
  (⟨"DoorTears$Reader", "step", "()V"⟩, prog_9_method_3_code, 1, (none : Option Jvm.ClassFile.FieldType), 7, 1, 0),
  (⟨"DoorTears$Reader", "readClause", "()Z"⟩, prog_9_method_4_code, 2, (some .boolean), 7, 1, 0),
  (⟨"DoorTears$Reader", "kindWord", "()I"⟩, prog_9_method_5_code, 1, (some .int), 7, 1, 0),
  (⟨"DoorTears$Reader", "readKitchen", "(Z)Z"⟩, prog_9_method_6_code, 3, (some .boolean), 7, 1, 1),
  (⟨"DoorTears$Reader", "readPerson", "(I)Z"⟩, prog_9_method_7_code, 4, (some .boolean), 7, 1, 1),
  (⟨"DoorTears$Reader", "readFell", "()Z"⟩, prog_9_method_8_code, 3, (some .boolean), 7, 1, 0),
  (⟨"DoorTears$Reader", "nextNumber", "(I)I"⟩, prog_9_method_9_code, 5, (some .int), 7, 1, 1),
  (⟨"DoorTears$Reader", "isWord", "(Ljava/lang/String;)Z"⟩, prog_9_method_10_code, 3, (some .boolean), 7, 1, 1),
  (⟨"DoorTears$Reader", "isSmall", "(I)Z"⟩, prog_9_method_11_code, 1, (some .boolean), 7, 0, 1),
  (⟨"DoorTears$Reader", "isDigit", "(I)Z"⟩, prog_9_method_12_code, 1, (some .boolean), 7, 0, 1),
  (⟨"DoorTears$Sights", "add", "(IZI)V"⟩, prog_10_method_2_code, 4, (none : Option Jvm.ClassFile.FieldType), 8, 1, 3),
  (⟨"DoorTears$Sights", "fitting", "()I"⟩, prog_10_method_3_code, 3, (some .int), 8, 1, 0),
  (⟨"DoorTears$Sights", "fits", "(I)Z"⟩, prog_10_method_4_code, 3, (some .boolean), 8, 1, 1),
  (⟨"DoorTears$Sights", "bestQuestion", "()I"⟩, prog_10_method_5_code, 6, (some .int), 8, 1, 0),
  (⟨"DoorTears$Sights", "greatestPart", "(II)I"⟩, prog_10_method_6_code, 4, (some .int), 8, 0, 2),
  (⟨"DoorTears$Sights", "alike", "(III)I"⟩, prog_10_method_7_code, 5, (some .int), 8, 0, 3),
  (⟨"DoorTears", "write", "(I)I"⟩, prog_1_method_2_code, 2, (some .int), 9, 1, 1),
  (⟨"DoorTears", "erase", "()I"⟩, prog_1_method_3_code, 2, (some .int), 9, 1, 0),
  (⟨"DoorTears", "fault", "()I"⟩, prog_1_method_4_code, 1, (some .int), 9, 1, 0),
  (⟨"DoorTears", "lane", "()I"⟩, prog_1_method_5_code, 2, (some .int), 9, 1, 0),
  (⟨"DoorTears", "kitchen", "(II)I"⟩, prog_1_method_6_code, 3, (some .int), 9, 1, 2),
  (⟨"DoorTears", "person", "(II)I"⟩, prog_1_method_7_code, 3, (some .int), 9, 1, 2),
  (⟨"DoorTears", "as", "(II)I"⟩, prog_1_method_8_code, 4, (some .int), 9, 1, 2),
  (⟨"DoorTears", "evening", "(I)I"⟩, prog_1_method_9_code, 2, (some .int), 9, 1, 1),
  (⟨"DoorTears", "door", "(I)I"⟩, prog_1_method_10_code, 2, (some .int), 9, 1, 1),
  (⟨"DoorTears", "grieve", "(II)I"⟩, prog_1_method_11_code, 3, (some .int), 9, 1, 2),
  (⟨"DoorTears", "peace", "(II)I"⟩, prog_1_method_12_code, 3, (some .int), 9, 1, 2),
  (⟨"DoorTears", "undo", "()I"⟩, prog_1_method_13_code, 1, (some .int), 9, 1, 0),
  (⟨"DoorTears", "keep", "(I)I"⟩, prog_1_method_14_code, 2, (some .int), 9, 1, 1),
  (⟨"DoorTears", "back", "(I)I"⟩, prog_1_method_15_code, 2, (some .int), 9, 1, 1),
  (⟨"DoorTears", "where", "(II)I"⟩, prog_1_method_16_code, 3, (some .int), 9, 1, 2),
  (⟨"DoorTears", "behind", "(II)I"⟩, prog_1_method_17_code, 3, (some .int), 9, 1, 2),
  (⟨"DoorTears", "luck", "(II)I"⟩, prog_1_method_18_code, 3, (some .int), 9, 1, 2),
  (⟨"DoorTears", "field", "(I)I"⟩, prog_1_method_19_code, 2, (some .int), 9, 1, 1),
  (⟨"DoorTears", "doors", "(I)I"⟩, prog_1_method_20_code, 2, (some .int), 9, 1, 1),
  (⟨"DoorTears", "funeral", "(I)I"⟩, prog_1_method_21_code, 2, (some .int), 9, 1, 1),
  (⟨"DoorTears", "hearth", "(II)I"⟩, prog_1_method_22_code, 4, (some .int), 9, 1, 2),
  (⟨"DoorTears", "draught", "(II)I"⟩, prog_1_method_23_code, 3, (some .int), 9, 1, 2),
  (⟨"DoorTears", "seen", "(III)I"⟩, prog_1_method_24_code, 4, (some .int), 9, 1, 3),
  (⟨"DoorTears", "forget", "()I"⟩, prog_1_method_25_code, 2, (some .int), 9, 1, 0),
  (⟨"DoorTears", "kinds", "()I"⟩, prog_1_method_26_code, 1, (some .int), 9, 1, 0),
  (⟨"DoorTears", "ask", "()I"⟩, prog_1_method_27_code, 1, (some .int), 9, 1, 0),
  (⟨"DoorTears", "cup", "(II)I"⟩, prog_1_method_28_code, 3, (some .int), 9, 1, 2),
  (⟨"DoorTears", "put", "(IIII)I"⟩, prog_1_method_29_code, 6, (some .int), 9, 1, 4),
  (⟨"DoorTears", "take", "(III)I"⟩, prog_1_method_30_code, 6, (some .int), 9, 1, 3),
  (⟨"DoorTears", "turn", "(II)I"⟩, prog_1_method_31_code, 5, (some .int), 9, 1, 2),
  (⟨"DoorTears", "pour", "(II)I"⟩, prog_1_method_32_code, 7, (some .int), 9, 1, 2),
  (⟨"DoorTears", "like", "(II)I"⟩, prog_1_method_33_code, 3, (some .int), 9, 1, 2),
  (⟨"DoorTears", "drop", "(I)I"⟩, prog_1_method_34_code, 3, (some .int), 9, 1, 1),
  (⟨"DoorTears", "count", "(I)I"⟩, prog_1_method_35_code, 2, (some .int), 9, 1, 1),
  (⟨"DoorTears", "heldInAllCups", "()I"⟩, prog_1_method_36_code, 3, (some .int), 9, 1, 0),
  (⟨"DoorTears", "isCup", "(I)Z"⟩, prog_1_method_37_code, 1, (some .boolean), 9, 0, 1),
  (⟨"DoorTears", "isEnd", "(I)Z"⟩, prog_1_method_38_code, 1, (some .boolean), 9, 0, 1),
  (⟨"DoorTears", "isThing", "(II)Z"⟩, prog_1_method_39_code, 2, (some .boolean), 9, 0, 2),
  (⟨"DoorTearsModel", "misses", "()V"⟩, prog_12_method_3_code, 2, (none : Option Jvm.ClassFile.FieldType), 10, 1, 0),
  (⟨"DoorTearsModel", "in", "(III)Z"⟩, prog_12_method_4_code, 3, (some .boolean), 10, 0, 3),
  (⟨"DoorTearsModel", "has", "(II)Z"⟩, prog_12_method_5_code, 2, (some .boolean), 10, 0, 2),
  (⟨"DoorTearsModel", "ones", "(I)I"⟩, prog_12_method_6_code, 3, (some .int), 10, 0, 1),
  (⟨"DoorTearsModel", "lesser", "(II)I"⟩, prog_12_method_7_code, 2, (some .int), 10, 0, 2),
  (⟨"DoorTearsModel", "copies", "([II[II)V"⟩, prog_12_method_8_code, 5, (none : Option Jvm.ClassFile.FieldType), 10, 0, 4),
  (⟨"DoorTearsModel", "write", "(I)I"⟩, prog_12_method_9_code, 2, (some .int), 10, 1, 1),
  (⟨"DoorTearsModel", "erase", "()I"⟩, prog_12_method_10_code, 2, (some .int), 10, 1, 0),
  (⟨"DoorTearsModel", "isSmall", "(I)Z"⟩, prog_12_method_11_code, 1, (some .boolean), 10, 0, 1),
  (⟨"DoorTearsModel", "isDigit", "(I)Z"⟩, prog_12_method_12_code, 1, (some .boolean), 10, 0, 1),
  (⟨"DoorTearsModel", "look", "(I)I"⟩, prog_12_method_13_code, 2, (some .int), 10, 1, 1),
  (⟨"DoorTearsModel", "advances", "()V"⟩, prog_12_method_14_code, 2, (none : Option Jvm.ClassFile.FieldType), 10, 1, 0),
  (⟨"DoorTearsModel", "word", "(IIII)I"⟩, prog_12_method_15_code, 5, (some .int), 10, 0, 4),
  (⟨"DoorTearsModel", "fails", "(Z)V"⟩, prog_12_method_16_code, 2, (none : Option Jvm.ClassFile.FieldType), 10, 1, 1),
  (⟨"DoorTearsModel", "figure", "(II)I"⟩, prog_12_method_17_code, 4, (some .int), 10, 1, 2),
  (⟨"DoorTearsModel", "kindOf", "(I)I"⟩, prog_12_method_18_code, 1, (some .int), 10, 0, 1),
  (⟨"DoorTearsModel", "tellsKitchen", "(I)V"⟩, prog_12_method_19_code, 4, (none : Option Jvm.ClassFile.FieldType), 10, 1, 1),
  (⟨"DoorTearsModel", "tellsPerson", "(I)V"⟩, prog_12_method_20_code, 5, (none : Option Jvm.ClassFile.FieldType), 10, 1, 1),
  (⟨"DoorTearsModel", "tellsFallen", "()V"⟩, prog_12_method_21_code, 3, (none : Option Jvm.ClassFile.FieldType), 10, 1, 0),
  (⟨"DoorTearsModel", "tellsNothing", "()V"⟩, prog_12_method_22_code, 2, (none : Option Jvm.ClassFile.FieldType), 10, 1, 0),
  (⟨"DoorTearsModel", "clause", "()V"⟩, prog_12_method_23_code, 3, (none : Option Jvm.ClassFile.FieldType), 10, 1, 0),
  (⟨"DoorTearsModel", "reads", "()V"⟩, prog_12_method_24_code, 1, (none : Option Jvm.ClassFile.FieldType), 10, 1, 0),
  (⟨"DoorTearsModel", "fault", "()I"⟩, prog_12_method_25_code, 1, (some .int), 10, 1, 0),
  (⟨"DoorTearsModel", "lane", "()I"⟩, prog_12_method_26_code, 1, (some .int), 10, 1, 0),
  (⟨"DoorTearsModel", "bears", "(I)I"⟩, prog_12_method_27_code, 1, (some .int), 10, 0, 1),
  (⟨"DoorTearsModel", "eases", "(I)I"⟩, prog_12_method_28_code, 1, (some .int), 10, 0, 1),
  (⟨"DoorTearsModel", "grows", "(I)I"⟩, prog_12_method_29_code, 1, (some .int), 10, 0, 1),
  (⟨"DoorTearsModel", "comes", "([II)Z"⟩, prog_12_method_30_code, 2, (some .boolean), 10, 0, 2),
  (⟨"DoorTearsModel", "comingOn", "([I)I"⟩, prog_12_method_31_code, 3, (some .int), 10, 0, 1),
  (⟨"DoorTearsModel", "isBarred", "([III)Z"⟩, prog_12_method_32_code, 5, (some .boolean), 10, 0, 3),
  (⟨"DoorTearsModel", "mayGo", "([III)Z"⟩, prog_12_method_33_code, 4, (some .boolean), 10, 1, 3),
  (⟨"DoorTearsModel", "goes", "([II)I"⟩, prog_12_method_34_code, 7, (some .int), 10, 1, 2),
  (⟨"DoorTearsModel", "clears", "()V"⟩, prog_12_method_35_code, 2, (none : Option Jvm.ClassFile.FieldType), 10, 1, 0),
  (⟨"DoorTearsModel", "passes", "([I)I"⟩, prog_12_method_36_code, 7, (some .int), 10, 1, 1),
  (⟨"DoorTearsModel", "isKitchen", "(I)Z"⟩, prog_12_method_37_code, 2, (some .boolean), 10, 1, 1),
  (⟨"DoorTearsModel", "isPerson", "(I)Z"⟩, prog_12_method_38_code, 2, (some .boolean), 10, 1, 1),
  (⟨"DoorTearsModel", "homes", "(I)I"⟩, prog_12_method_39_code, 4, (some .int), 10, 1, 1),
  (⟨"DoorTearsModel", "kitchen", "(II)I"⟩, prog_12_method_40_code, 3, (some .int), 10, 1, 2),
  (⟨"DoorTearsModel", "person", "(II)I"⟩, prog_12_method_41_code, 3, (some .int), 10, 1, 2),
  (⟨"DoorTearsModel", "as", "(II)I"⟩, prog_12_method_42_code, 5, (some .int), 10, 1, 2),
  (⟨"DoorTearsModel", "notes", "()V"⟩, prog_12_method_43_code, 2, (none : Option Jvm.ClassFile.FieldType), 10, 1, 0),
  (⟨"DoorTearsModel", "evening", "(I)I"⟩, prog_12_method_44_code, 3, (some .int), 10, 1, 1),
  (⟨"DoorTearsModel", "door", "(I)I"⟩, prog_12_method_45_code, 2, (some .int), 10, 1, 1),
  (⟨"DoorTearsModel", "grieve", "(II)I"⟩, prog_12_method_46_code, 4, (some .int), 10, 1, 2),
  (⟨"DoorTearsModel", "peace", "(II)I"⟩, prog_12_method_47_code, 3, (some .int), 10, 1, 2),
  (⟨"DoorTearsModel", "undo", "()I"⟩, prog_12_method_48_code, 1, (some .int), 10, 1, 0),
  (⟨"DoorTearsModel", "keep", "(I)I"⟩, prog_12_method_49_code, 2, (some .int), 10, 1, 1),
  (⟨"DoorTearsModel", "back", "(I)I"⟩, prog_12_method_50_code, 2, (some .int), 10, 1, 1),
  (⟨"DoorTearsModel", "goesOn", "(I)V"⟩, prog_12_method_51_code, 3, (none : Option Jvm.ClassFile.FieldType), 10, 1, 1),
  (⟨"DoorTearsModel", "where", "(II)I"⟩, prog_12_method_52_code, 3, (some .int), 10, 1, 2),
  (⟨"DoorTearsModel", "behind", "(II)I"⟩, prog_12_method_53_code, 3, (some .int), 10, 1, 2),
  (⟨"DoorTearsModel", "luck", "(II)I"⟩, prog_12_method_54_code, 3, (some .int), 10, 1, 2),
  (⟨"DoorTearsModel", "field", "(I)I"⟩, prog_12_method_55_code, 3, (some .int), 10, 1, 1),
  (⟨"DoorTearsModel", "times", "(I)I"⟩, prog_12_method_56_code, 5, (some .int), 10, 1, 1),
  (⟨"DoorTearsModel", "doors", "(I)I"⟩, prog_12_method_57_code, 5, (some .int), 10, 1, 1),
  (⟨"DoorTearsModel", "fields", "()I"⟩, prog_12_method_58_code, 3, (some .int), 10, 1, 0),
  (⟨"DoorTearsModel", "orders", "()Z"⟩, prog_12_method_59_code, 6, (some .boolean), 10, 1, 0),
  (⟨"DoorTearsModel", "funeral", "(I)I"⟩, prog_12_method_60_code, 6, (some .int), 10, 1, 1),
  (⟨"DoorTearsModel", "hearth", "(II)I"⟩, prog_12_method_61_code, 8, (some .int), 10, 1, 2),
  (⟨"DoorTearsModel", "draught", "(II)I"⟩, prog_12_method_62_code, 9, (some .int), 10, 1, 2),
  (⟨"DoorTearsModel", "seen", "(III)I"⟩, prog_12_method_63_code, 4, (some .int), 10, 1, 3),
  (⟨"DoorTearsModel", "forget", "()I"⟩, prog_12_method_64_code, 2, (some .int), 10, 1, 0),
  (⟨"DoorTearsModel", "then", "(II)I"⟩, prog_12_method_65_code, 2, (some .int), 10, 0, 2),
  (⟨"DoorTearsModel", "kinds", "()I"⟩, prog_12_method_66_code, 6, (some .int), 10, 1, 0),
  (⟨"DoorTearsModel", "alike", "(II)I"⟩, prog_12_method_67_code, 6, (some .int), 10, 0, 2),
  (⟨"DoorTearsModel", "ask", "()I"⟩, prog_12_method_68_code, 6, (some .int), 10, 1, 0),
  (⟨"DoorTearsModel", "isCup", "(I)Z"⟩, prog_12_method_69_code, 1, (some .boolean), 10, 0, 1),
  (⟨"DoorTearsModel", "cup", "(II)I"⟩, prog_12_method_70_code, 3, (some .int), 10, 1, 2),
  (⟨"DoorTearsModel", "lays", "(IIII)V"⟩, prog_12_method_71_code, 5, (none : Option Jvm.ClassFile.FieldType), 10, 1, 4),
  (⟨"DoorTearsModel", "shifts", "(II)V"⟩, prog_12_method_72_code, 5, (none : Option Jvm.ClassFile.FieldType), 10, 1, 2),
  (⟨"DoorTearsModel", "isWell", "(II)Z"⟩, prog_12_method_73_code, 2, (some .boolean), 10, 0, 2),
  (⟨"DoorTearsModel", "put", "(IIII)I"⟩, prog_12_method_74_code, 5, (some .int), 10, 1, 4),
  (⟨"DoorTearsModel", "take", "(III)I"⟩, prog_12_method_75_code, 6, (some .int), 10, 1, 3),
  (⟨"DoorTearsModel", "turn", "(II)I"⟩, prog_12_method_76_code, 6, (some .int), 10, 1, 2),
  (⟨"DoorTearsModel", "pour", "(II)I"⟩, prog_12_method_77_code, 4, (some .int), 10, 1, 2),
  (⟨"DoorTearsModel", "like", "(II)I"⟩, prog_12_method_78_code, 5, (some .int), 10, 1, 2),
  (⟨"DoorTearsModel", "drop", "(I)I"⟩, prog_12_method_79_code, 3, (some .int), 10, 1, 1),
  (⟨"DoorTearsModel", "openOnes", "()I"⟩, prog_12_method_80_code, 3, (some .int), 10, 1, 0),
  (⟨"DoorTearsModel", "griefs", "()I"⟩, prog_12_method_81_code, 3, (some .int), 10, 1, 0),
  (⟨"DoorTearsModel", "lucks", "()I"⟩, prog_12_method_82_code, 3, (some .int), 10, 1, 0),
  (⟨"DoorTearsModel", "count", "(I)I"⟩, prog_12_method_83_code, 2, (some .int), 10, 1, 1),
  (⟨"java/lang/Integer", "bitCount", "(I)I"⟩, prog_13_method_49_code, 1, (some .int), 15, 0, 1),
  (⟨"java/lang/Math", "floorMod", "(II)I"⟩, prog_14_method_50_code, 3, (some .int), 14, 0, 2),
  (⟨"java/lang/Math", "max", "(II)I"⟩, prog_14_method_65_code, 2, (some .int), 14, 0, 2),
  (⟨"java/lang/Math", "min", "(II)I"⟩, prog_14_method_69_code, 2, (some .int), 14, 0, 2),
  (⟨"java/lang/String", "length", "()I"⟩, prog_15_method_54_code, 1, (some .int), 12, 1, 0),
  (⟨"java/lang/String", "charAt", "(I)C"⟩, prog_15_method_56_code, 2, (some .char), 12, 1, 1),
  (⟨"java/lang/String", "coder", "()B"⟩, prog_15_method_152_code, 1, (some .byte), 12, 1, 0),
  (⟨"java/lang/String", "isLatin1", "()Z"⟩, prog_15_method_154_code, 1, (some .boolean), 12, 1, 0),
  (⟨"java/lang/String", "checkIndex", "(II)V"⟩, prog_15_method_155_code, 2, (none : Option Jvm.ClassFile.FieldType), 12, 0, 2),
  (⟨"java/lang/StringLatin1", "charAt", "([BI)C"⟩, prog_16_method_2_code, 2, (some .char), 13, 0, 2),
  (⟨"java/util/Arrays", "fill", "([II)V"⟩, prog_19_method_103_code, 4, (none : Option Jvm.ClassFile.FieldType), 16, 0, 2),
  (⟨"jdk/internal/util/Preconditions", "checkIndex", "(IILjava/util/function/BiFunction;)I"⟩, prog_20_method_11_code, 3, (some .int), 17, 0, 3)]
def mG (id : Nat) : MI := mtab.getD id mt_0
def mN : Nat := 203
abbrev i_Cup_make : Nat := 0
abbrev i_Cup_discard : Nat := 1
abbrev i_Cup_add : Nat := 2
abbrev i_Cup_sortAt : Nat := 3
abbrev i_Cup_valueAt : Nat := 4
abbrev i_Cup_remove : Nat := 5
abbrev i_Cup_moveFirstTo : Nat := 6
abbrev i_Cup_holdsSameAs : Nat := 7
abbrev i_Cup_atEnd : Nat := 8
abbrev i_Cup_ring : Nat := 9
abbrev i_Foretelling_behindEvenings : Nat := 10
abbrev i_Foretelling_firstInField : Nat := 11
abbrev i_Foretelling_fewestDoors : Nat := 12
abbrev i_Foretelling_sparesField : Nat := 13
abbrev i_Foretelling_bestHearth : Nat := 14
abbrev i_Foretelling_timesWithHearth : Nat := 15
abbrev i_Foretelling_oddsInDraught : Nat := 16
abbrev i_Foretelling_waysToStayOpen : Nat := 17
abbrev i_Foretelling_power : Nat := 18
abbrev i_Funeral_plan : Nat := 19
abbrev i_Funeral_tryOrders : Nat := 20
abbrev i_Funeral_letGo : Nat := 21
abbrev i_Kinds_bears : Nat := 22
abbrev i_Kinds_goes : Nat := 23
abbrev i_Kinds_isUnder : Nat := 24
abbrev i_Kinds_comesOnAt : Nat := 25
abbrev i_Kinds_eased : Nat := 26
abbrev i_Kinds_grown : Nat := 27
abbrev i_Kinds_afterEvening : Nat := 28
abbrev i_Kinds_isKind : Nat := 29
abbrev i_Lane_clear : Nat := 30
abbrev i_Lane_copyFrom : Nat := 31
abbrev i_Lane_hasKitchen : Nat := 32
abbrev i_Lane_hasPerson : Nat := 33
abbrev i_Lane_isOpen : Nat := 34
abbrev i_Lane_addKitchen : Nat := 35
abbrev i_Lane_addPerson : Nat := 36
abbrev i_Lane_fallOut : Nat := 37
abbrev i_Lane_reconcile : Nat := 38
abbrev i_Lane_livingIn : Nat := 39
abbrev i_Lane_griefOfAll : Nat := 40
abbrev i_Lane_luckOfAll : Nat := 41
abbrev i_Lane_comesOn : Nat := 42
abbrev i_Lane_comingOn : Nat := 43
abbrev i_Lane_passEvenings : Nat := 44
abbrev i_Lane_passEvening : Nat := 45
abbrev i_Lane_emptyKitchens : Nat := 46
abbrev i_Lane_goalOf : Nat := 47
abbrev i_Lane_takesIn : Nat := 48
abbrev i_Lane_homesOf : Nat := 49
abbrev i_Letters_add : Nat := 50
abbrev i_Letters_at : Nat := 51
abbrev i_Past_clear : Nat := 52
abbrev i_Past_remember : Nat := 53
abbrev i_Past_restoreTo : Nat := 54
abbrev i_Reader_readBehind : Nat := 55
abbrev i_Reader_step : Nat := 56
abbrev i_Reader_readClause : Nat := 57
abbrev i_Reader_kindWord : Nat := 58
abbrev i_Reader_readKitchen : Nat := 59
abbrev i_Reader_readPerson : Nat := 60
abbrev i_Reader_readFell : Nat := 61
abbrev i_Reader_nextNumber : Nat := 62
abbrev i_Reader_isWord : Nat := 63
abbrev i_Reader_isSmall : Nat := 64
abbrev i_Reader_isDigit : Nat := 65
abbrev i_Sights_add : Nat := 66
abbrev i_Sights_fitting : Nat := 67
abbrev i_Sights_fits : Nat := 68
abbrev i_Sights_bestQuestion : Nat := 69
abbrev i_Sights_greatestPart : Nat := 70
abbrev i_Sights_alike : Nat := 71
abbrev i_D_write : Nat := 72
abbrev i_D_erase : Nat := 73
abbrev i_D_fault : Nat := 74
abbrev i_D_lane : Nat := 75
abbrev i_D_kitchen : Nat := 76
abbrev i_D_person : Nat := 77
abbrev i_D_as : Nat := 78
abbrev i_D_evening : Nat := 79
abbrev i_D_door : Nat := 80
abbrev i_D_grieve : Nat := 81
abbrev i_D_peace : Nat := 82
abbrev i_D_undo : Nat := 83
abbrev i_D_keep : Nat := 84
abbrev i_D_back : Nat := 85
abbrev i_D_where : Nat := 86
abbrev i_D_behind : Nat := 87
abbrev i_D_luck : Nat := 88
abbrev i_D_field : Nat := 89
abbrev i_D_doors : Nat := 90
abbrev i_D_funeral : Nat := 91
abbrev i_D_hearth : Nat := 92
abbrev i_D_draught : Nat := 93
abbrev i_D_seen : Nat := 94
abbrev i_D_forget : Nat := 95
abbrev i_D_kinds : Nat := 96
abbrev i_D_ask : Nat := 97
abbrev i_D_cup : Nat := 98
abbrev i_D_put : Nat := 99
abbrev i_D_take : Nat := 100
abbrev i_D_turn : Nat := 101
abbrev i_D_pour : Nat := 102
abbrev i_D_like : Nat := 103
abbrev i_D_drop : Nat := 104
abbrev i_D_count : Nat := 105
abbrev i_D_heldInAllCups : Nat := 106
abbrev i_D_isCup : Nat := 107
abbrev i_D_isEnd : Nat := 108
abbrev i_D_isThing : Nat := 109
abbrev i_M_misses : Nat := 110
abbrev i_M_in : Nat := 111
abbrev i_M_has : Nat := 112
abbrev i_M_ones : Nat := 113
abbrev i_M_lesser : Nat := 114
abbrev i_M_copies : Nat := 115
abbrev i_M_write : Nat := 116
abbrev i_M_erase : Nat := 117
abbrev i_M_isSmall : Nat := 118
abbrev i_M_isDigit : Nat := 119
abbrev i_M_look : Nat := 120
abbrev i_M_advances : Nat := 121
abbrev i_M_word : Nat := 122
abbrev i_M_fails : Nat := 123
abbrev i_M_figure : Nat := 124
abbrev i_M_kindOf : Nat := 125
abbrev i_M_tellsKitchen : Nat := 126
abbrev i_M_tellsPerson : Nat := 127
abbrev i_M_tellsFallen : Nat := 128
abbrev i_M_tellsNothing : Nat := 129
abbrev i_M_clause : Nat := 130
abbrev i_M_reads : Nat := 131
abbrev i_M_fault : Nat := 132
abbrev i_M_lane : Nat := 133
abbrev i_M_bears : Nat := 134
abbrev i_M_eases : Nat := 135
abbrev i_M_grows : Nat := 136
abbrev i_M_comes : Nat := 137
abbrev i_M_comingOn : Nat := 138
abbrev i_M_isBarred : Nat := 139
abbrev i_M_mayGo : Nat := 140
abbrev i_M_goes : Nat := 141
abbrev i_M_clears : Nat := 142
abbrev i_M_passes : Nat := 143
abbrev i_M_isKitchen : Nat := 144
abbrev i_M_isPerson : Nat := 145
abbrev i_M_homes : Nat := 146
abbrev i_M_kitchen : Nat := 147
abbrev i_M_person : Nat := 148
abbrev i_M_as : Nat := 149
abbrev i_M_notes : Nat := 150
abbrev i_M_evening : Nat := 151
abbrev i_M_door : Nat := 152
abbrev i_M_grieve : Nat := 153
abbrev i_M_peace : Nat := 154
abbrev i_M_undo : Nat := 155
abbrev i_M_keep : Nat := 156
abbrev i_M_back : Nat := 157
abbrev i_M_goesOn : Nat := 158
abbrev i_M_where : Nat := 159
abbrev i_M_behind : Nat := 160
abbrev i_M_luck : Nat := 161
abbrev i_M_field : Nat := 162
abbrev i_M_times : Nat := 163
abbrev i_M_doors : Nat := 164
abbrev i_M_fields : Nat := 165
abbrev i_M_orders : Nat := 166
abbrev i_M_funeral : Nat := 167
abbrev i_M_hearth : Nat := 168
abbrev i_M_draught : Nat := 169
abbrev i_M_seen : Nat := 170
abbrev i_M_forget : Nat := 171
abbrev i_M_then : Nat := 172
abbrev i_M_kinds : Nat := 173
abbrev i_M_alike : Nat := 174
abbrev i_M_ask : Nat := 175
abbrev i_M_isCup : Nat := 176
abbrev i_M_cup : Nat := 177
abbrev i_M_lays : Nat := 178
abbrev i_M_shifts : Nat := 179
abbrev i_M_isWell : Nat := 180
abbrev i_M_put : Nat := 181
abbrev i_M_take : Nat := 182
abbrev i_M_turn : Nat := 183
abbrev i_M_pour : Nat := 184
abbrev i_M_like : Nat := 185
abbrev i_M_drop : Nat := 186
abbrev i_M_openOnes : Nat := 187
abbrev i_M_griefs : Nat := 188
abbrev i_M_lucks : Nat := 189
abbrev i_M_count : Nat := 190
abbrev i_J_I_bitCount : Nat := 191
abbrev i_J_Math_floorMod : Nat := 192
abbrev i_J_Math_max : Nat := 193
abbrev i_J_Math_min : Nat := 194
abbrev i_J_S_length : Nat := 195
abbrev i_J_S_charAt : Nat := 196
abbrev i_J_S_coder : Nat := 197
abbrev i_J_S_isLatin1 : Nat := 198
abbrev i_J_S_checkIndex : Nat := 199
abbrev i_J_L_charAt : Nat := 200
abbrev i_J_A_fill : Nat := 201
abbrev i_J_P_checkIndex : Nat := 202
def mPl : List (Nat × Nat × Nat × Nat) := [(774, 772, 773, 54), (479, 477, 478, 54), (788, 786, 787, 54), (807, 805, 806, 54), (811, 809, 810, 54), (815, 813, 814, 54), (824, 822, 823, 54), (840, 838, 839, 54), (799, 798, 15, 54), (792, 791, 14, 54), (633, 631, 632, 51), (651, 649, 650, 51), (661, 659, 660, 51), (666, 665, 10, 51), (695, 693, 694, 51), (699, 697, 698, 51), (709, 707, 708, 51), (715, 714, 0, 51), (712, 711, 0, 51), (674, 672, 673, 52), (680, 679, 11, 52), (685, 684, 12, 52), (524, 523, 0, 61), (563, 562, 0, 61), (519, 518, 0, 61), (507, 506, 0, 61), (580, 579, 0, 61), (574, 573, 0, 61), (743, 742, 0, 61), (510, 509, 0, 61), (421, 419, 420, 48), (343, 341, 342, 48), (487, 485, 486, 48), (448, 446, 447, 48), (491, 489, 490, 48), (434, 432, 433, 48), (465, 463, 464, 48), (444, 442, 443, 48), (603, 601, 602, 48), (495, 493, 494, 48), (856, 854, 855, 48), (860, 858, 859, 48), (504, 502, 503, 48), (852, 850, 851, 48), (540, 538, 539, 48), (544, 542, 543, 48), (548, 546, 547, 48), (556, 554, 555, 48), (569, 568, 9, 48), (560, 559, 8, 48), (327, 325, 326, 47), (354, 352, 353, 47), (475, 473, 474, 50), (532, 530, 531, 50), (617, 615, 616, 50), (339, 337, 338, 49), (350, 349, 0, 49), (364, 363, 1, 49), (452, 451, 6, 49), (426, 425, 3, 49), (461, 460, 7, 49), (440, 439, 5, 49), (430, 429, 4, 49), (369, 368, 2, 49), (357, 356, 0, 49), (360, 359, 0, 49), (723, 721, 722, 53), (735, 733, 734, 53), (739, 738, 13, 53), (754, 752, 753, 53), (759, 758, 0, 53), (762, 761, 0, 53), (323, 321, 322, 46), (331, 329, 330, 46), (335, 333, 334, 46), (470, 468, 469, 46), (483, 481, 482, 46), (499, 497, 498, 46), (516, 514, 515, 46), (528, 526, 527, 46), (590, 588, 589, 46), (594, 592, 593, 46), (599, 597, 598, 46), (613, 611, 612, 46), (621, 619, 620, 46), (625, 623, 624, 46), (629, 627, 628, 46), (639, 637, 638, 46), (643, 641, 642, 46), (647, 645, 646, 46), (657, 655, 656, 46), (670, 668, 669, 46), (691, 689, 690, 46), (705, 703, 704, 46), (719, 717, 718, 46), (727, 725, 726, 46), (731, 729, 730, 46), (750, 748, 749, 46), (767, 765, 766, 46), (778, 776, 777, 46), (803, 801, 802, 46), (820, 818, 819, 46), (832, 830, 831, 46), (836, 834, 835, 46), (844, 842, 843, 46), (848, 846, 847, 46), (864, 863, 16, 46), (770, 769, 0, 46), (781, 780, 0, 46), (784, 783, 0, 46), (874, 873, 17, 55), (963, 962, 0, 55), (1082, 1081, 0, 55), (1117, 1116, 0, 55), (1099, 1098, 0, 55), (978, 977, 0, 55), (960, 958, 959, 55), (967, 965, 966, 55), (989, 988, 0, 55), (992, 991, 0, 55), (986, 985, 20, 55), (982, 981, 19, 55), (1002, 1001, 0, 55), (1010, 1009, 23, 55), (1014, 1013, 24, 55), (999, 998, 0, 55), (1018, 1017, 25, 55), (1006, 1005, 22, 55), (1022, 1021, 26, 55), (1026, 1025, 27, 55), (996, 995, 21, 55), (975, 974, 18, 55), (971, 969, 970, 55), (1030, 1028, 1029, 55), (1056, 1055, 0, 55), (1102, 1101, 0, 55), (1096, 1095, 0, 55), (1053, 1052, 0, 55), (1075, 1074, 0, 55), (1093, 1092, 0, 55), (1090, 1089, 35, 55), (1086, 1085, 34, 55), (1079, 1078, 33, 55), (1072, 1071, 32, 55), (1038, 1037, 28, 55), (1050, 1049, 30, 55), (1042, 1041, 29, 55), (1034, 1032, 1033, 55), (1046, 1044, 1045, 55), (1060, 1058, 1059, 55), (1068, 1067, 31, 55), (1064, 1062, 1063, 55), (1106, 1104, 1105, 55), (1110, 1108, 1109, 55), (1114, 1112, 1113, 55), (1121, 1119, 1120, 55), (1125, 1123, 1124, 55), (1129, 1127, 1128, 55), (1137, 1136, 36, 55), (1133, 1131, 1132, 55), (1141, 1139, 1140, 55), (1145, 1143, 1144, 55), (1149, 1147, 1148, 55), (1157, 1156, 37, 55), (1153, 1151, 1152, 55), (1165, 1164, 38, 55), (1169, 1168, 39, 55), (1161, 1159, 1160, 55), (1173, 1171, 1172, 55), (1177, 1175, 1176, 55), (1185, 1183, 1184, 55), (1189, 1187, 1188, 55), (1196, 1195, 0, 55), (1193, 1191, 1192, 55), (1204, 1203, 0, 55), (1200, 1198, 1199, 55), (1211, 1210, 0, 55), (1208, 1206, 1207, 55), (1226, 1225, 42, 55), (1222, 1221, 41, 55), (1218, 1217, 0, 55), (1215, 1213, 1214, 55), (1230, 1228, 1229, 55), (1235, 1233, 1234, 55), (1239, 1237, 1238, 55), (1243, 1241, 1242, 55), (1247, 1245, 1246, 55), (1181, 1180, 40, 55), (1255, 1254, 43, 55), (1259, 1258, 44, 55), (1251, 1249, 1250, 55), (606, 605, 0, 64), (795, 794, 0, 62), (585, 584, 0, 62), (536, 535, 0, 62), (373, 371, 372, 57), (383, 381, 382, 57), (377, 375, 376, 57), (387, 385, 386, 57), (393, 392, 0, 57), (390, 389, 0, 58), (551, 550, 0, 63), (398, 397, 0, 59)]
def lnkF : List (Nat × Nat × Nat × Nat × Nat) := [(5, 9, 4, 0, 79), (5, 15, 4, 1, 80), (9, 81, 4, 1, 81), (7, 48, 4, 1, 82), (4, 36, 3, 0, 95), (1, 37, 3, 0, 96), (7, 97, 3, 0, 97), (9, 272, 3, 0, 98), (4, 40, 3, 1, 99), (2, 32, 3, 1, 100), (7, 107, 3, 1, 101), (9, 203, 3, 1, 102), (4, 43, 3, 2, 103), (9, 152, 3, 2, 104), (4, 46, 3, 3, 105), (1, 51, 3, 3, 106), (9, 161, 3, 3, 107), (4, 9, 3, 4, 108), (9, 114, 3, 4, 109), (1, 64, 3, 4, 110), (4, 15, 3, 5, 111), (9, 118, 3, 5, 112), (4, 18, 3, 6, 113), (9, 128, 3, 6, 114), (4, 21, 3, 7, 115), (9, 131, 3, 7, 116), (4, 24, 3, 8, 117), (9, 134, 3, 8, 118), (4, 27, 3, 9, 119), (9, 137, 3, 9, 120), (4, 30, 3, 10, 121), (1, 33, 3, 10, 122), (9, 187, 3, 10, 123), (4, 33, 3, 11, 124), (2, 61, 3, 11, 125), (1, 54, 3, 12, 126), (4, 88, 3, 12, 127), (7, 9, 6, 0, 161), (7, 15, 6, 1, 162), (7, 39, 6, 2, 163), (7, 25, 6, 3, 164), (7, 29, 6, 4, 165), (9, 104, 6, 4, 166), (6, 11, 5, 0, 187), (6, 20, 5, 1, 188), (6, 16, 5, 2, 189), (9, 179, 5, 2, 190), (1, 12, 1, 0, 206), (2, 12, 2, 0, 219), (2, 18, 2, 1, 220), (2, 22, 2, 2, 221), (9, 206, 2, 2, 222), (2, 36, 2, 3, 223), (9, 200, 2, 3, 224), (8, 9, 7, 0, 240), (8, 15, 7, 1, 241), (8, 19, 7, 2, 242), (8, 22, 7, 3, 243), (9, 100, 7, 3, 244), (0, 9, 0, 0, 261), (0, 15, 0, 1, 262), (0, 33, 0, 2, 263), (0, 18, 0, 3, 264), (9, 241, 0, 3, 265), (0, 22, 0, 4, 266), (9, 248, 0, 4, 267), (0, 26, 0, 5, 268), (9, 245, 0, 5, 269), (9, 10, 8, 0, 283), (9, 19, 8, 1, 284), (9, 23, 8, 2, 285), (9, 31, 8, 3, 286), (9, 35, 8, 4, 287), (9, 41, 8, 5, 288), (9, 45, 8, 6, 289), (9, 49, 8, 7, 290), (9, 56, 8, 8, 291), (9, 63, 8, 9, 292), (9, 70, 8, 10, 293), (9, 76, 8, 11, 294), (10, 7, 9, 0, 875), (10, 69, 9, 1, 876), (10, 73, 9, 2, 877), (10, 80, 9, 3, 878), (10, 96, 9, 4, 879), (10, 83, 9, 5, 880), (10, 86, 9, 6, 881), (10, 99, 9, 7, 882), (10, 137, 9, 8, 883), (10, 13, 9, 9, 884), (10, 16, 9, 10, 885), (10, 19, 9, 11, 886), (10, 22, 9, 12, 887), (10, 25, 9, 13, 888), (10, 149, 9, 14, 889), (10, 28, 9, 15, 890), (10, 31, 9, 16, 891), (10, 35, 9, 17, 892), (10, 38, 9, 18, 893), (10, 41, 9, 19, 894), (10, 44, 9, 20, 895), (10, 47, 9, 21, 896), (10, 146, 9, 22, 897), (10, 50, 9, 23, 898), (10, 53, 9, 24, 899), (10, 56, 9, 25, 900), (10, 59, 9, 26, 901)]
def lnkM : List (Nat × Nat × Nat × Nat) := [(11, 13, 72, 320), (9, 85, 50, 324), (11, 18, 73, 328), (11, 23, 74, 332), (9, 89, 55, 336), (7, 19, 31, 340), (7, 32, 56, 347), (7, 42, 51, 351), (7, 51, 64, 355), (7, 55, 65, 358), (7, 35, 57, 361), (7, 60, 63, 366), (7, 118, 195, 370), (12, 335, 197, 374), (7, 122, 196, 380), (12, 492, 198, 384), (12, 495, 200, 388), (13, 9, 199, 391), (12, 1059, 202, 396), (7, 64, 30, 418), (7, 69, 59, 423), (7, 100, 62, 427), (7, 103, 35, 431), (7, 77, 61, 437), (7, 114, 37, 441), (4, 55, 33, 445), (7, 80, 58, 449), (7, 84, 60, 458), (7, 110, 36, 462), (11, 27, 75, 467), (9, 93, 31, 471), (9, 97, 52, 472), (9, 101, 1, 476), (11, 31, 76, 480), (9, 107, 32, 484), (9, 111, 34, 488), (9, 121, 39, 492), (11, 36, 77, 496), (9, 125, 33, 500), (9, 140, 42, 501), (4, 59, 25, 505), (3, 9, 29, 508), (11, 40, 78, 513), (9, 145, 24, 517), (9, 149, 22, 522), (11, 44, 79, 525), (9, 155, 53, 529), (6, 23, 31, 533), (9, 158, 44, 537), (4, 68, 45, 541), (4, 71, 46, 545), (4, 96, 201, 549), (4, 65, 42, 552), (4, 74, 47, 553), (4, 102, 49, 557), (4, 105, 23, 561), (4, 108, 48, 566), (4, 82, 32, 570), (4, 111, 34, 571), (4, 78, 27, 572), (4, 85, 26, 578), (11, 48, 80, 587), (11, 52, 81, 591), (11, 56, 82, 596), (9, 170, 38, 600), (9, 174, 191, 604), (11, 60, 83, 610), (9, 180, 54, 614), (11, 64, 84, 618), (11, 68, 85, 622), (11, 72, 86, 626), (9, 183, 10, 630), (1, 18, 31, 634), (1, 22, 44, 635), (11, 76, 87, 636), (11, 80, 88, 640), (11, 84, 89, 644), (9, 190, 11, 648), (1, 26, 33, 652), (1, 30, 45, 653), (11, 88, 90, 654), (9, 194, 12, 658), (1, 41, 191, 662), (1, 47, 13, 663), (11, 92, 91, 667), (9, 197, 19, 671), (2, 25, 31, 675), (2, 29, 46, 676), (2, 39, 20, 677), (2, 49, 21, 682), (2, 53, 47, 686), (2, 57, 32, 687), (11, 96, 92, 688), (9, 209, 14, 692), (1, 57, 15, 696), (1, 61, 32, 700), (9, 212, 15, 701), (11, 100, 93, 702), (9, 216, 16, 706), (1, 67, 18, 710), (1, 71, 17, 713), (11, 104, 94, 716), (9, 219, 66, 720), (11, 109, 95, 724), (11, 113, 96, 728), (9, 222, 67, 732), (8, 28, 68, 736), (8, 32, 25, 740), (8, 36, 28, 741), (3, 40, 25, 744), (3, 44, 26, 745), (3, 47, 27, 746), (11, 117, 97, 747), (9, 226, 69, 751), (8, 40, 67, 755), (8, 44, 191, 756), (8, 50, 70, 757), (8, 53, 71, 760), (11, 121, 98, 764), (9, 229, 107, 768), (9, 232, 0, 771), (11, 125, 99, 775), (9, 235, 108, 779), (9, 238, 109, 782), (9, 251, 2, 785), (0, 29, 9, 789), (0, 53, 192, 793), (0, 36, 8, 796), (11, 130, 100, 800), (9, 254, 3, 804), (9, 257, 4, 808), (9, 260, 5, 812), (11, 134, 101, 817), (9, 264, 6, 821), (0, 39, 3, 825), (0, 42, 4, 826), (0, 45, 5, 827), (0, 49, 2, 828), (11, 138, 102, 829), (11, 142, 103, 833), (9, 268, 7, 837), (11, 146, 104, 841), (11, 150, 105, 845), (9, 275, 43, 849), (9, 278, 40, 853), (9, 281, 41, 857), (9, 284, 106, 861), (10, 62, 110, 871), (11, 17, 116, 957), (10, 65, 111, 961), (11, 22, 117, 964), (11, 26, 132, 968), (10, 143, 131, 972), (10, 133, 115, 976), (10, 106, 121, 979), (10, 76, 120, 983), (10, 89, 118, 987), (10, 93, 119, 990), (10, 140, 130, 993), (10, 117, 125, 997), (10, 109, 122, 1000), (10, 120, 127, 1003), (10, 102, 123, 1007), (10, 113, 124, 1011), (10, 124, 126, 1015), (10, 127, 128, 1019), (10, 130, 129, 1023), (11, 30, 133, 1027), (11, 35, 147, 1031), (10, 190, 144, 1035), (10, 193, 146, 1039), (11, 39, 148, 1043), (10, 196, 145, 1047), (10, 155, 137, 1051), (10, 152, 134, 1054), (11, 43, 149, 1057), (11, 47, 151, 1061), (10, 199, 150, 1065), (10, 202, 143, 1069), (10, 170, 138, 1073), (10, 174, 142, 1076), (10, 159, 112, 1080), (10, 177, 141, 1083), (10, 167, 140, 1087), (10, 163, 139, 1091), (10, 181, 136, 1094), (10, 184, 114, 1097), (10, 187, 135, 1100), (11, 51, 152, 1103), (11, 55, 153, 1107), (11, 59, 154, 1111), (10, 205, 113, 1115), (11, 63, 155, 1118), (11, 67, 156, 1122), (11, 71, 157, 1126), (11, 75, 159, 1130), (10, 208, 158, 1134), (11, 79, 160, 1138), (11, 83, 161, 1142), (11, 87, 162, 1146), (11, 91, 164, 1150), (10, 211, 163, 1154), (11, 95, 167, 1158), (10, 214, 165, 1162), (10, 218, 166, 1166), (11, 99, 168, 1170), (11, 103, 169, 1174), (10, 222, 187, 1178), (11, 108, 170, 1182), (11, 112, 171, 1186), (11, 116, 173, 1190), (10, 225, 172, 1194), (11, 120, 175, 1197), (10, 228, 173, 1201), (10, 231, 174, 1202), (11, 124, 177, 1205), (10, 234, 176, 1209), (11, 129, 181, 1212), (10, 237, 180, 1216), (10, 240, 179, 1219), (10, 244, 178, 1223), (11, 133, 182, 1227), (11, 137, 183, 1232), (11, 141, 184, 1236), (11, 145, 185, 1240), (11, 149, 186, 1244), (11, 153, 190, 1248), (10, 249, 188, 1252), (10, 252, 189, 1256)]
def lnkC : List (Nat × Nat × Int32 × Nat) := [(15, 265, 1431655765, 607), (15, 266, 858993459, 608), (15, 267, 252645135, 609), (9, 263, 50000, 816), (10, 248, 50000, 1231)]
def lnkA : List (Nat × Nat × Nat) := [(4, 49, 344), (2, 43, 681)]
def lnkX : List (Nat × Nat × Nat) := [(3, 28, 583), (4, 91, 586), (8, 57, 763)]
def lnkN : List (Nat × Nat × Nat) := [(6, 27, 534), (3, 37, 577), (9, 164, 595)]
def lnkG : List (Nat × Nat × Nat) := [(3, 15, 511), (3, 19, 564), (3, 25, 581), (3, 34, 575), (3, 22, 520), (12, 38, 378), (12, 1053, 394)]
def arrPl : Nat × Nat × Nat := (346, 345, 56)
def sNm (j : Nat) : String := (["BEARS", "GOES", "EASES", "GROWS", "UNDER"] : List String).getD j ""
def stN (j i : Nat) : Nat := (([[6, 12, 3, 20, 10], [6, 1, 6, 6, 6], [5, 5, 5, 20, 5], [2, 2, 3, 1, 1], [3, 7, 11, 17, 49]] : List (List Nat)).getD j []).getD i 0
def stT (j i : Nat) : Int32 := nI (stN j i)
def sIx (i : Nat) : Nat := ([58, 67, 73, 75, 87, 89, 91, 93, 95] : List Nat).getD i 0
def sTx (i : Nat) : String := (["lane", "open", "shut", "fell", "wife", "man", "girl", "hard", "worn"] : List String).getD i ""
def sLen : List Nat := [4, 4, 4, 4, 4, 3, 4, 4, 4]
def sByt : List (List Int32) := [[108, 97, 110, 101], [111, 112, 101, 110], [115, 104, 117, 116], [102, 101, 108, 108], [119, 105, 102, 101], [109, 97, 110], [103, 105, 114, 108], [104, 97, 114, 100], [119, 111, 114, 110]]
def sVal : Nat × Nat × Nat := (12, 9, 1260)
def sCod : Nat × Nat × Nat := (12, 15, 1261)
