/-! The table of methods, the places of the words, and what is checked of each instruction. -/
abbrev mI : Type := MethodName × ByteArray × Nat × Option FieldType × Nat × Nat × List (Nat × Nat × Nat × Nat)
def TW : List Cond := lw_tbl.filter goodWord
def wrm : Cond → Bool
  | .fieldLinkNest _ _ _ _ _ _ => true
  | .methodLinkNest _ _ _ _ => true
  | .declares _ => true
  | .castable _ _ => true
  | .arrayOver (.object _) => true
  | _ => false
def isW (i : Nat) (w : Cond) : Bool := decide (lw_tbl[i]? = some w) && goodWord w
def isN (i : Nat) (w : Cond) : Bool := decide (lw_tbl[i]? = some w) && wrm w
theorem isW_mem {i : Nat} {w : Cond} (h : isW i w = true) : w ∈ TW := by
  simp only [isW, Bool.and_eq_true, decide_eq_true_eq] at h
  exact List.mem_filter.mpr ⟨List.mem_of_getElem? h.1, h.2⟩
theorem isN_mem {i : Nat} {w : Cond} (h : isN i w = true) : w ∈ lw_tbl ∧ wrm w = true := by
  simp only [isN, Bool.and_eq_true, decide_eq_true_eq] at h
  exact ⟨List.mem_of_getElem? h.1, h.2⟩
def cN (a : Nat) : String := (vwCl.getD a ("", fun _ => ("", "", "", false), 0)).1
def cT (a : Nat) : u_T := (vwCl.getD a ("", fun _ => ("", "", "", false), 0)).2.1
def cM (a : Nat) : Nat := (vwCl.getD a ("", fun _ => ("", "", "", false), 0)).2.2
def exN (E : Nat) : String := bif Nat.beq E 0 then "java/lang/IndexOutOfBoundsException" else bif Nat.beq E 1 then "java/lang/IllegalArgumentException" else "java/lang/IllegalStateException"
def exS : List String := ["java/lang/RuntimeException", "java/lang/Exception"]
def cwd (q : mI) : Cond := match q.2.2.2.2.2.2 with
  | [] => .code q.1 q.2.1 q.2.2.1 q.2.2.2.1
  | h :: t => .codeWith q.1 q.2.1 q.2.2.1 q.2.2.2.1 (h :: t)
def MT : List mI := [(⟨"CompassRolls", "<init>", "()V"⟩, prog_1_method_1_code, 1, none, 4, 86, []),
  (⟨"CompassRolls", "place", "()I"⟩, prog_1_method_2_code, 1, (some .int), 6, 90, []),
  (⟨"CompassRolls", "join", "(III)I"⟩, prog_1_method_3_code, 4, (some .int), 7, 115, []),
  (⟨"CompassRolls", "street", "()I"⟩, prog_1_method_4_code, 1, (some .int), 6, 90, []),
  (⟨"CompassRolls", "span", "(IIII)I"⟩, prog_1_method_5_code, 5, (some .int), 7, 111, []),
  (⟨"CompassRolls", "name", "(II)I"⟩, prog_1_method_6_code, 4, (some .int), 7, 111, []),
  (⟨"CompassRolls", "same", "(II)Z"⟩, prog_1_method_7_code, 3, (some .boolean), 7, 110, []),
  (⟨"CompassRolls", "leads", "(II)I"⟩, prog_1_method_8_code, 3, (some .int), 7, 139, []),
  (⟨"CompassRolls", "leadsAnew", "(II)I"⟩, prog_1_method_9_code, 3, (some .int), 7, 140, []),
  (⟨"CompassRolls", "placeOf", "(II)I"⟩, prog_1_method_10_code, 3, (some .int), 7, 111, []),
  (⟨"CompassRolls", "way", "(II)I"⟩, prog_1_method_11_code, 3, (some .int), 7, 111, []),
  (⟨"CompassRolls", "car", "(I)I"⟩, prog_1_method_12_code, 2, (some .int), 7, 111, []),
  (⟨"CompassRolls", "call", "(II)I"⟩, prog_1_method_13_code, 4, (some .int), 7, 164, []),
  (⟨"CompassRolls", "clear", "(II)I"⟩, prog_1_method_14_code, 3, (some .int), 7, 141, []),
  (⟨"CompassRolls", "ofCall", "(II)I"⟩, prog_1_method_15_code, 3, (some .int), 7, 111, []),
  (⟨"CompassRolls", "ofCar", "(II)I"⟩, prog_1_method_16_code, 3, (some .int), 7, 111, []),
  (⟨"CompassRolls", "locker", "(IIII)I"⟩, prog_1_method_17_code, 5, (some .int), 7, 111, []),
  (⟨"CompassRolls", "post", "(III)I"⟩, prog_1_method_18_code, 4, (some .int), 7, 139, []),
  (⟨"CompassRolls", "take", "(I)I"⟩, prog_1_method_19_code, 2, (some .int), 7, 111, []),
  (⟨"CompassRolls", "ofParcel", "(II)I"⟩, prog_1_method_20_code, 3, (some .int), 7, 111, []),
  (⟨"CompassRolls", "free", "(II)I"⟩, prog_1_method_21_code, 3, (some .int), 6, 90, []),
  (⟨"CompassRolls", "pass", "(I)I"⟩, prog_1_method_22_code, 4, (some .int), 7, 167, []),
  (⟨"CompassRolls", "count", "(I)I"⟩, prog_1_method_23_code, 2, (some .int), 6, 90, []),
  (⟨"CompassRolls", "isWithin", "(II)Z"⟩, prog_1_method_24_code, 2, (some .boolean), 1, 22, []),
  (⟨"CompassRolls", "checkPlace", "(I)V"⟩, prog_1_method_25_code, 2, none, 6, 90, []),
  (⟨"CompassRolls", "checkStreet", "(I)V"⟩, prog_1_method_26_code, 2, none, 6, 90, []),
  (⟨"CompassRolls", "checkCall", "(I)V"⟩, prog_1_method_27_code, 2, none, 6, 90, []),
  (⟨"CompassRolls", "checkParcel", "(I)V"⟩, prog_1_method_28_code, 2, none, 6, 90, []),
  (⟨"CompassRolls", "checkName", "(I)V"⟩, prog_1_method_29_code, 1, none, 6, 90, []),
  (⟨"CompassRolls", "checkWhat", "(II)V"⟩, prog_1_method_30_code, 2, none, 6, 90, []),
  (⟨"CompassRolls", "checkNumber", "(I)V"⟩, prog_1_method_31_code, 1, none, 6, 90, []),
  (⟨"CompassRolls", "checkCompartments", "(I)V"⟩, prog_1_method_32_code, 1, none, 6, 90, []),
  (⟨"CompassRollsModel", "<init>", "()V"⟩, prog_13_method_1_code, 2, none, 1, 22, []),
  (⟨"CompassRollsModel", "thrown", "()I"⟩, prog_13_method_2_code, 1, (some .int), 1, 22, []),
  (⟨"CompassRollsModel", "isIn", "(III)Z"⟩, prog_13_method_3_code, 3, (some .boolean), 1, 22, []),
  (⟨"CompassRollsModel", "isPlace", "(I)Z"⟩, prog_13_method_4_code, 2, (some .boolean), 2, 44, []),
  (⟨"CompassRollsModel", "isStreet", "(I)Z"⟩, prog_13_method_5_code, 2, (some .boolean), 2, 44, []),
  (⟨"CompassRollsModel", "isName", "(I)Z"⟩, prog_13_method_6_code, 1, (some .boolean), 2, 44, []),
  (⟨"CompassRollsModel", "isNumber", "(I)Z"⟩, prog_13_method_7_code, 1, (some .boolean), 2, 44, []),
  (⟨"CompassRollsModel", "place", "()I"⟩, prog_13_method_8_code, 1, (some .int), 1, 22, []),
  (⟨"CompassRollsModel", "join", "(III)I"⟩, prog_13_method_9_code, 8, (some .int), 3, 65, []),
  (⟨"CompassRollsModel", "street", "()I"⟩, prog_13_method_10_code, 1, (some .int), 1, 22, []),
  (⟨"CompassRollsModel", "span", "(IIII)I"⟩, prog_13_method_11_code, 7, (some .int), 3, 65, []),
  (⟨"CompassRollsModel", "namingOf", "(I)I"⟩, prog_13_method_12_code, 4, (some .int), 1, 22, []),
  (⟨"CompassRollsModel", "name", "(II)I"⟩, prog_13_method_13_code, 5, (some .int), 3, 65, []),
  (⟨"CompassRollsModel", "same", "(II)Z"⟩, prog_13_method_14_code, 6, (some .boolean), 3, 64, []),
  (⟨"CompassRollsModel", "placeIn", "(II)I"⟩, prog_13_method_15_code, 5, (some .int), 2, 44, []),
  (⟨"CompassRollsModel", "bears", "(II)Z"⟩, prog_13_method_16_code, 4, (some .boolean), 2, 45, []),
  (⟨"CompassRollsModel", "leadsTo", "(II)I"⟩, prog_13_method_17_code, 8, (some .int), 3, 68, []),
  (⟨"CompassRollsModel", "asked", "(II)I"⟩, prog_13_method_18_code, 3, (some .int), 3, 64, []),
  (⟨"CompassRollsModel", "leads", "(II)I"⟩, prog_13_method_19_code, 3, (some .int), 4, 95, []),
  (⟨"CompassRollsModel", "leadsAnew", "(II)I"⟩, prog_13_method_20_code, 3, (some .int), 4, 95, []),
  (⟨"CompassRollsModel", "placeOf", "(II)I"⟩, prog_13_method_21_code, 3, (some .int), 3, 68, []),
  (⟨"CompassRollsModel", "way", "(II)I"⟩, prog_13_method_22_code, 3, (some .int), 3, 65, []),
  (⟨"CompassRollsModel", "car", "(I)I"⟩, prog_13_method_23_code, 2, (some .int), 3, 65, []),
  (⟨"CompassRollsModel", "sends", "()V"⟩, prog_13_method_24_code, 6, none, 1, 22, []),
  (⟨"CompassRollsModel", "call", "(II)I"⟩, prog_13_method_25_code, 4, (some .int), 4, 95, []),
  (⟨"CompassRollsModel", "clear", "(II)I"⟩, prog_13_method_26_code, 3, (some .int), 3, 68, []),
  (⟨"CompassRollsModel", "ofCall", "(II)I"⟩, prog_13_method_27_code, 3, (some .int), 2, 44, []),
  (⟨"CompassRollsModel", "ofCar", "(II)I"⟩, prog_13_method_28_code, 4, (some .int), 2, 44, []),
  (⟨"CompassRollsModel", "locker", "(IIII)I"⟩, prog_13_method_29_code, 6, (some .int), 3, 65, []),
  (⟨"CompassRollsModel", "post", "(III)I"⟩, prog_13_method_30_code, 4, (some .int), 4, 95, []),
  (⟨"CompassRollsModel", "take", "(I)I"⟩, prog_13_method_31_code, 2, (some .int), 2, 44, []),
  (⟨"CompassRollsModel", "ofParcel", "(II)I"⟩, prog_13_method_32_code, 3, (some .int), 2, 44, []),
  (⟨"CompassRollsModel", "free", "(II)I"⟩, prog_13_method_33_code, 3, (some .int), 2, 44, []),
  (⟨"CompassRollsModel", "sizeIn", "(II)I"⟩, prog_13_method_34_code, 4, (some .int), 1, 22, []),
  (⟨"CompassRollsModel", "lockerFor", "(II)I"⟩, prog_13_method_35_code, 7, (some .int), 2, 45, []),
  (⟨"CompassRollsModel", "delivers", "(I)V"⟩, prog_13_method_36_code, 5, none, 4, 95, []),
  (⟨"CompassRollsModel", "dayBegins", "()V"⟩, prog_13_method_37_code, 2, none, 5, 119, []),
  (⟨"CompassRollsModel", "minuteBegins", "()V"⟩, prog_13_method_38_code, 2, none, 6, 140, []),
  (⟨"CompassRollsModel", "pass", "(I)I"⟩, prog_13_method_39_code, 3, (some .int), 7, 161, []),
  (⟨"CompassRollsModel", "count", "(I)I"⟩, prog_13_method_40_code, 7, (some .int), 2, 44, []),
  (⟨"CompassRolls$Bearing", "<init>", "()V"⟩, prog_2_method_1_code, 1, none, 2, 45, []),
  (⟨"CompassRolls$Bearing", "forget", "()V"⟩, prog_2_method_2_code, 1, none, 2, 45, []),
  (⟨"CompassRolls$Bearing", "rename", "(II)V"⟩, prog_2_method_3_code, 3, none, 2, 43, []),
  (⟨"CompassRolls$Call", "<init>", "()V"⟩, prog_3_method_1_code, 1, none, 1, 22, []),
  (⟨"CompassRolls$Car", "<init>", "()V"⟩, prog_4_method_1_code, 1, none, 1, 22, []),
  (⟨"CompassRolls$Depot", "<init>", "()V"⟩, prog_5_method_1_code, 2, none, 2, 42, []),
  (⟨"CompassRolls$Depot", "addLocker", "(IIII)I"⟩, prog_5_method_2_code, 6, (some .int), 3, 65, []),
  (⟨"CompassRolls$Depot", "addParcel", "(IIII)I"⟩, prog_5_method_3_code, 7, (some .int), 1, 22, []),
  (⟨"CompassRolls$Depot", "holds", "(I)Z"⟩, prog_5_method_4_code, 2, (some .boolean), 2, 43, []),
  (⟨"CompassRolls$Depot", "takeOut", "(II)I"⟩, prog_5_method_5_code, 4, (some .int), 4, 87, []),
  (⟨"CompassRolls$Depot", "returnOverdue", "(I)V"⟩, prog_5_method_6_code, 4, none, 4, 87, []),
  (⟨"CompassRolls$Depot", "remove", "(LCompassRolls$Parcel;I)V"⟩, prog_5_method_7_code, 3, none, 3, 65, []),
  (⟨"CompassRolls$Depot", "deliver", "(LCompassRolls$Directory;LCompassRolls$Places;I)V"⟩, prog_5_method_8_code, 9, none, 6, 139, []),
  (⟨"CompassRolls$Depot", "nearestFor", "(IILCompassRolls$Places;)I"⟩, prog_5_method_9_code, 9, (some .int), 3, 65, []),
  (⟨"CompassRolls$Depot", "putInto", "(ILCompassRolls$Parcel;II)V"⟩, prog_5_method_10_code, 5, none, 3, 65, []),
  (⟨"CompassRolls$Depot", "tellParcel", "(II)I"⟩, prog_5_method_11_code, 4, (some .int), 2, 43, []),
  (⟨"CompassRolls$Depot", "freeIn", "(II)I"⟩, prog_5_method_12_code, 3, (some .int), 3, 64, []),
  (⟨"CompassRolls$Depot", "countParcels", "(I)I"⟩, prog_5_method_13_code, 4, (some .int), 1, 22, []),
  (⟨"CompassRolls$Depot", "countSentOn", "()I"⟩, prog_5_method_14_code, 3, (some .int), 1, 22, []),
  (⟨"CompassRolls$Directory", "<init>", "()V"⟩, prog_6_method_1_code, 2, none, 3, 65, []),
  (⟨"CompassRolls$Directory", "addStreet", "()I"⟩, prog_6_method_2_code, 2, (some .int), 1, 22, []),
  (⟨"CompassRolls$Directory", "takesSpan", "(III)Z"⟩, prog_6_method_3_code, 4, (some .boolean), 2, 45, []),
  (⟨"CompassRolls$Directory", "addSpan", "(IIII)I"⟩, prog_6_method_4_code, 5, (some .int), 2, 45, []),
  (⟨"CompassRolls$Directory", "placeAt", "(II)I"⟩, prog_6_method_5_code, 3, (some .int), 2, 44, []),
  (⟨"CompassRolls$Directory", "nameNow", "(I)I"⟩, prog_6_method_6_code, 2, (some .int), 2, 43, []),
  (⟨"CompassRolls$Directory", "addNaming", "(III)V"⟩, prog_6_method_7_code, 4, none, 3, 65, []),
  (⟨"CompassRolls$Directory", "areSame", "(II)Z"⟩, prog_6_method_8_code, 3, (some .boolean), 2, 43, []),
  (⟨"CompassRolls$Directory", "unite", "(II)Z"⟩, prog_6_method_9_code, 6, (some .boolean), 3, 65, []),
  (⟨"CompassRolls$Directory", "lead", "(II)I"⟩, prog_6_method_10_code, 4, (some .int), 5, 116, []),
  (⟨"CompassRolls$Directory", "leadToday", "(II)I"⟩, prog_6_method_11_code, 3, (some .int), 4, 91, []),
  (⟨"CompassRolls$Directory", "leadOfOld", "(II)I"⟩, prog_6_method_12_code, 3, (some .int), 5, 116, []),
  (⟨"CompassRolls$Directory", "leadReplayed", "(II)I"⟩, prog_6_method_13_code, 5, (some .int), 5, 116, []),
  (⟨"CompassRolls$Directory", "bears", "(III)Z"⟩, prog_6_method_14_code, 4, (some .boolean), 3, 66, []),
  (⟨"CompassRolls$Directory", "bearer", "([LCompassRolls$Bearing;II)I"⟩, prog_6_method_15_code, 6, (some .int), 3, 66, []),
  (⟨"CompassRolls$Directory", "formerBearer", "([LCompassRolls$Bearing;II)I"⟩, prog_6_method_16_code, 8, (some .int), 4, 89, []),
  (⟨"CompassRolls$Directory", "lastCeased", "(LCompassRolls$Bearing;I)I"⟩, prog_6_method_17_code, 5, (some .int), 3, 65, []),
  (⟨"CompassRolls$Locker", "<init>", "()V"⟩, prog_7_method_1_code, 1, none, 1, 22, []),
  (⟨"CompassRolls$Locker", "unusedOf", "(I)I"⟩, prog_7_method_2_code, 2, (some .int), 2, 43, []),
  (⟨"CompassRolls$Locker", "change", "(II)V"⟩, prog_7_method_3_code, 3, none, 2, 43, []),
  (⟨"CompassRolls$Locker", "smallestFor", "(I)I"⟩, prog_7_method_4_code, 3, (some .int), 2, 43, []),
  (⟨"CompassRolls$Parcel", "<init>", "()V"⟩, prog_8_method_1_code, 1, none, 1, 22, []),
  (⟨"CompassRolls$Places", "<init>", "()V"⟩, prog_9_method_1_code, 1, none, 2, 45, []),
  (⟨"CompassRolls$Places", "add", "()I"⟩, prog_9_method_2_code, 2, (some .int), 1, 22, []),
  (⟨"CompassRolls$Places", "connect", "(III)I"⟩, prog_9_method_3_code, 6, (some .int), 4, 90, []),
  (⟨"CompassRolls$Places", "between", "(II)I"⟩, prog_9_method_4_code, 3, (some .int), 2, 43, []),
  (⟨"CompassRolls$Places", "added", "(III)I"⟩, prog_9_method_5_code, 3, (some .int), 1, 22, []),
  (⟨"CompassRolls$Places", "shorten", "(III)V"⟩, prog_9_method_6_code, 6, none, 3, 65, []),
  (⟨"CompassRolls$Rescue", "<init>", "()V"⟩, prog_10_method_1_code, 2, none, 2, 42, []),
  (⟨"CompassRolls$Rescue", "addCar", "(I)I"⟩, prog_10_method_2_code, 3, (some .int), 1, 22, []),
  (⟨"CompassRolls$Rescue", "addCall", "(IILCompassRolls$Directory;)I"⟩, prog_10_method_3_code, 7, (some .int), 6, 138, []),
  (⟨"CompassRolls$Rescue", "mayBe", "(IILCompassRolls$Directory;)Z"⟩, prog_10_method_4_code, 5, (some .boolean), 4, 89, []),
  (⟨"CompassRolls$Rescue", "find", "(IILCompassRolls$Directory;)V"⟩, prog_10_method_5_code, 5, none, 3, 66, []),
  (⟨"CompassRolls$Rescue", "freeCars", "(I)Z"⟩, prog_10_method_6_code, 6, (some .boolean), 1, 22, []),
  (⟨"CompassRolls$Rescue", "sendCars", "(LCompassRolls$Places;I)V"⟩, prog_10_method_7_code, 5, none, 5, 117, []),
  (⟨"CompassRolls$Rescue", "sendNearest", "(LCompassRolls$Call;LCompassRolls$Places;I)V"⟩, prog_10_method_8_code, 6, none, 4, 92, []),
  (⟨"CompassRolls$Rescue", "nearestFree", "(ILCompassRolls$Places;)I"⟩, prog_10_method_9_code, 8, (some .int), 3, 65, []),
  (⟨"CompassRolls$Rescue", "carOf", "(I)I"⟩, prog_10_method_10_code, 2, (some .int), 2, 43, []),
  (⟨"CompassRolls$Rescue", "tellCall", "(II)I"⟩, prog_10_method_11_code, 4, (some .int), 2, 43, []),
  (⟨"CompassRolls$Rescue", "tellCar", "(III)I"⟩, prog_10_method_12_code, 6, (some .int), 2, 43, []),
  (⟨"CompassRolls$Rescue", "countCalls", "(I)I"⟩, prog_10_method_13_code, 4, (some .int), 1, 22, []),
  (⟨"CompassRolls$Rescue", "countFreeCars", "()I"⟩, prog_10_method_14_code, 3, (some .int), 1, 22, []),
  (⟨"CompassRolls$Spans", "<init>", "()V"⟩, prog_11_method_1_code, 1, none, 1, 22, []),
  (⟨"CompassRolls$Spans", "haveInCommon", "(II)Z"⟩, prog_11_method_2_code, 4, (some .boolean), 1, 22, []),
  (⟨"CompassRolls$Spans", "add", "(III)I"⟩, prog_11_method_3_code, 4, (some .int), 1, 22, []),
  (⟨"CompassRolls$Spans", "placeAt", "(I)I"⟩, prog_11_method_4_code, 3, (some .int), 1, 22, []),
  (⟨"CompassRollsLaw", "place", "(LCompassRolls;[J)I"⟩, method_3_code, 3, (some .int), 7, 110, [(0, 8, 11, 13)]),
  (⟨"CompassRollsLaw", "join", "(LCompassRolls;III[J)I"⟩, method_4_code, 6, (some .int), 8, 138, [(0, 12, 15, 19), (0, 12, 19, 21), (0, 12, 23, 13)]),
  (⟨"CompassRollsLaw", "street", "(LCompassRolls;[J)I"⟩, method_5_code, 3, (some .int), 7, 110, [(0, 8, 11, 13)]),
  (⟨"CompassRollsLaw", "span", "(LCompassRolls;IIII[J)I"⟩, method_6_code, 7, (some .int), 8, 135, [(0, 14, 17, 19), (0, 14, 21, 21), (0, 14, 25, 13)]),
  (⟨"CompassRollsLaw", "name", "(LCompassRolls;II[J)I"⟩, method_7_code, 5, (some .int), 8, 134, [(0, 10, 13, 19), (0, 10, 17, 13)]),
  (⟨"CompassRollsLaw", "same", "(LCompassRolls;II[J)I"⟩, method_8_code, 5, (some .int), 8, 132, [(0, 17, 20, 19)]),
  (⟨"CompassRollsLaw", "leads", "(LCompassRolls;II[J)I"⟩, method_9_code, 5, (some .int), 8, 161, [(0, 10, 13, 19), (0, 10, 17, 21)]),
  (⟨"CompassRollsLaw", "leadsAnew", "(LCompassRolls;II[J)I"⟩, method_10_code, 5, (some .int), 8, 162, [(0, 10, 13, 19), (0, 10, 17, 21)]),
  (⟨"CompassRollsLaw", "placeOf", "(LCompassRolls;II[J)I"⟩, method_11_code, 5, (some .int), 8, 133, [(0, 10, 13, 19), (0, 10, 17, 21)]),
  (⟨"CompassRollsLaw", "way", "(LCompassRolls;II[J)I"⟩, method_12_code, 5, (some .int), 8, 133, [(0, 10, 13, 19)]),
  (⟨"CompassRollsLaw", "car", "(LCompassRolls;I[J)I"⟩, method_13_code, 4, (some .int), 8, 132, [(0, 9, 12, 19), (0, 9, 15, 13)]),
  (⟨"CompassRollsLaw", "call", "(LCompassRolls;II[J)I"⟩, method_14_code, 5, (some .int), 8, 187, [(0, 10, 13, 19), (0, 10, 17, 21), (0, 10, 21, 13)]),
  (⟨"CompassRollsLaw", "clear", "(LCompassRolls;II[J)I"⟩, method_15_code, 5, (some .int), 8, 163, [(0, 10, 13, 19), (0, 10, 17, 13)]),
  (⟨"CompassRollsLaw", "ofCall", "(LCompassRolls;II[J)I"⟩, method_16_code, 5, (some .int), 8, 133, [(0, 10, 13, 19)]),
  (⟨"CompassRollsLaw", "ofCar", "(LCompassRolls;II[J)I"⟩, method_17_code, 5, (some .int), 8, 133, [(0, 10, 13, 19)]),
  (⟨"CompassRollsLaw", "locker", "(LCompassRolls;IIII[J)I"⟩, method_18_code, 7, (some .int), 8, 135, [(0, 14, 17, 19), (0, 14, 21, 21), (0, 14, 25, 13)]),
  (⟨"CompassRollsLaw", "post", "(LCompassRolls;III[J)I"⟩, method_19_code, 6, (some .int), 8, 162, [(0, 12, 15, 19), (0, 12, 19, 21), (0, 12, 23, 13)]),
  (⟨"CompassRollsLaw", "take", "(LCompassRolls;I[J)I"⟩, method_20_code, 4, (some .int), 8, 132, [(0, 9, 12, 19), (0, 9, 15, 13)]),
  (⟨"CompassRollsLaw", "ofParcel", "(LCompassRolls;II[J)I"⟩, method_21_code, 5, (some .int), 8, 133, [(0, 10, 13, 19)]),
  (⟨"CompassRollsLaw", "free", "(LCompassRolls;II[J)I"⟩, method_22_code, 5, (some .int), 7, 112, [(0, 10, 13, 19)]),
  (⟨"CompassRollsLaw", "pass", "(LCompassRolls;I[J)I"⟩, method_23_code, 4, (some .int), 8, 190, [(0, 9, 12, 21), (0, 9, 15, 13)]),
  (⟨"CompassRollsLaw", "count", "(LCompassRolls;I[J)I"⟩, method_24_code, 4, (some .int), 7, 111, [(0, 9, 12, 21)]),
  (x, code, 7, ret, 11, 392, []),
  (⟨"java/lang/Math", "max", "(II)I"⟩, prog_18_method_65_code, 2, (some .int), 1, 22, []),
  (⟨"java/util/Arrays", "fill", "([II)V"⟩, prog_22_method_103_code, 4, none, 1, 22, [])]
def wp_0 : Nat → List Nat := fun x => bif Nat.ble 27 x then (bif Nat.ble 38 x then (bif Nat.ble 45 x then (bif Nat.ble 50 x then ([0, 302]) else ([0, 301])) else (bif Nat.ble 42 x then ([0, 228, 230, 229, 37]) else ([226, 227, 37]))) else (bif Nat.ble 31 x then (bif Nat.ble 34 x then ([0, 300]) else ([0, 154, 156, 155, 34])) else ([152, 153, 34]))) else (bif Nat.ble 12 x then (bif Nat.ble 20 x then (bif Nat.ble 23 x then ([0, 299]) else ([0, 80, 82, 81, 31])) else (bif Nat.ble 16 x then ([78, 79, 31]) else ([0, 298]))) else (bif Nat.ble 5 x then (bif Nat.ble 9 x then ([0, 58, 60, 59, 29]) else ([56, 57, 29])) else ([53, 54, 55])))
def wp_1 : Nat → List Nat := fun x => bif Nat.ble 12 x then (bif Nat.ble 23 x then (bif Nat.ble 26 x then ([0, 390, 393, 391, 29, 392]) else ([0, 298])) else ([44, 46, 48])) else (bif Nat.ble 4 x then ([1, 66]) else ([0, 298]))
def wp_2 : Nat → List Nat := fun x => bif Nat.ble 47 x then (bif Nat.ble 58 x then (bif Nat.ble 69 x then (bif Nat.ble 75 x then ([0, 444, 447, 445, 29, 446]) else ([0, 298])) else ([44, 69, 48])) else (bif Nat.ble 50 x then ([1, 67]) else ([0, 298]))) else (bif Nat.ble 15 x then (bif Nat.ble 36 x then ([59, 64, 63]) else ([59, 61, 63])) else (bif Nat.ble 7 x then ([0, 403, 406, 405, 28, 1]) else ([0, 403, 406, 405, 28, 1])))
def wp_3 : Nat → List Nat := fun x => bif Nat.ble 12 x then (bif Nat.ble 23 x then (bif Nat.ble 26 x then ([0, 468, 471, 469, 31, 470]) else ([0, 299])) else ([44, 78, 48])) else (bif Nat.ble 4 x then ([1, 123]) else ([0, 299]))
def wp_4 : Nat → List Nat := fun x => bif Nat.ble 35 x then (bif Nat.ble 47 x then (bif Nat.ble 58 x then (bif Nat.ble 66 x then ([0, 499, 502, 500, 31, 501]) else ([0, 299])) else ([44, 95, 48])) else (bif Nat.ble 41 x then ([0, 489, 492, 490, 31, 491]) else ([0, 299]))) else (bif Nat.ble 12 x then (bif Nat.ble 16 x then (bif Nat.ble 24 x then ([59, 89, 63]) else ([0, 484, 486, 485, 28])) else ([0, 484, 486, 485, 28])) else (bif Nat.ble 8 x then ([0, 403, 406, 405, 28, 1]) else ([0, 479, 482, 481, 28, 3])))
def wp_5 : Nat → List Nat := fun x => bif Nat.ble 35 x then (bif Nat.ble 58 x then (bif Nat.ble 69 x then (bif Nat.ble 72 x then ([0, 524, 527, 525, 31, 526]) else ([0, 302])) else (bif Nat.ble 63 x then ([0, 299]) else ([0, 518, 521, 519, 31, 520]))) else (bif Nat.ble 43 x then (bif Nat.ble 54 x then ([0, 299]) else ([44, 113, 48])) else ([1, 128]))) else (bif Nat.ble 14 x then (bif Nat.ble 21 x then (bif Nat.ble 32 x then ([0, 299]) else ([44, 108, 48])) else ([0, 518, 521, 519, 31, 520])) else (bif Nat.ble 6 x then (bif Nat.ble 10 x then ([0, 299]) else ([0, 514, 516, 515, 28])) else ([0, 479, 482, 481, 28, 3])))
def wp_6 : Nat → List Nat := fun x => bif Nat.ble 9 x then (bif Nat.ble 14 x then ([0, 540, 543, 541, 31, 542]) else ([0, 299])) else (bif Nat.ble 5 x then ([0, 514, 516, 515, 28]) else ([0, 514, 516, 515, 28]))
def wp_7 : Nat → List Nat := fun x => bif Nat.ble 9 x then (bif Nat.ble 14 x then ([0, 555, 558, 556, 31, 557]) else ([0, 299])) else (bif Nat.ble 5 x then ([0, 484, 486, 485, 28]) else ([0, 514, 516, 515, 28]))
def wp_8 : Nat → List Nat := fun x => bif Nat.ble 9 x then (bif Nat.ble 14 x then ([0, 589, 592, 590, 31, 591]) else ([0, 299])) else (bif Nat.ble 5 x then ([0, 484, 486, 485, 28]) else ([0, 514, 516, 515, 28]))
def wp_9 : Nat → List Nat := fun x => bif Nat.ble 10 x then (bif Nat.ble 15 x then ([0, 604, 566, 564, 31, 565]) else ([0, 299])) else (bif Nat.ble 6 x then ([0, 484, 486, 485, 28]) else ([0, 479, 482, 481, 28, 3]))
def wp_10 : Nat → List Nat := fun x => bif Nat.ble 11 x then (bif Nat.ble 16 x then ([0, 612, 451, 449, 29, 450]) else ([0, 298])) else (bif Nat.ble 7 x then ([0, 403, 406, 405, 28, 1]) else ([0, 403, 406, 405, 28, 1]))
def wp_11 : Nat → List Nat := fun x => bif Nat.ble 17 x then (bif Nat.ble 28 x then (bif Nat.ble 32 x then ([0, 621, 624, 622, 34, 623]) else ([0, 300])) else ([44, 139, 48])) else (bif Nat.ble 6 x then (bif Nat.ble 9 x then ([1, 212]) else ([0, 300])) else ([0, 403, 406, 405, 28, 1]))
def wp_12 : Nat → List Nat := fun x => bif Nat.ble 37 x then (bif Nat.ble 49 x then (bif Nat.ble 53 x then (bif Nat.ble 56 x then ([0, 651, 654, 652, 34, 653]) else ([0, 302])) else ([0, 298])) else (bif Nat.ble 40 x then (bif Nat.ble 45 x then ([0, 300]) else ([0, 633, 636, 634, 34, 635])) else ([0, 299]))) else (bif Nat.ble 12 x then (bif Nat.ble 20 x then (bif Nat.ble 31 x then ([0, 300]) else ([44, 147, 48])) else ([1, 214])) else (bif Nat.ble 5 x then (bif Nat.ble 9 x then ([0, 300]) else ([0, 484, 486, 485, 28])) else ([0, 514, 516, 515, 28])))
def wp_13 : Nat → List Nat := fun x => bif Nat.ble 43 x then (bif Nat.ble 58 x then (bif Nat.ble 65 x then (bif Nat.ble 69 x then ([0, 687, 690, 688, 34, 689]) else ([0, 300])) else (bif Nat.ble 61 x then ([0, 651, 654, 652, 34, 653]) else ([0, 302]))) else (bif Nat.ble 50 x then (bif Nat.ble 54 x then ([0, 298]) else ([0, 300])) else (bif Nat.ble 46 x then ([0, 686, 648, 646, 34, 647]) else ([0, 299])))) else (bif Nat.ble 17 x then (bif Nat.ble 26 x then (bif Nat.ble 37 x then ([0, 300]) else ([44, 164, 48])) else (bif Nat.ble 20 x then ([0, 676, 679, 677, 34, 678]) else ([0, 299]))) else (bif Nat.ble 7 x then (bif Nat.ble 11 x then ([0, 300]) else ([0, 479, 482, 481, 28, 3])) else ([0, 671, 674, 673, 28, 9])))
def wp_14 : Nat → List Nat := fun x => bif Nat.ble 11 x then (bif Nat.ble 16 x then ([0, 702, 705, 703, 34, 704]) else ([0, 300])) else (bif Nat.ble 7 x then ([0, 698, 700, 699, 28]) else ([0, 671, 674, 673, 28, 9]))
def wp_15 : Nat → List Nat := fun x => bif Nat.ble 26 x then (bif Nat.ble 36 x then (bif Nat.ble 39 x then ([0, 714, 717, 715, 34, 716]) else ([0, 302])) else (bif Nat.ble 30 x then ([0, 300]) else ([0, 698, 700, 699, 28]))) else (bif Nat.ble 8 x then (bif Nat.ble 14 x then ([183, 185, 187]) else ([0, 407, 409, 408, 28])) else (bif Nat.ble 5 x then ([1, 212]) else ([0, 300])))
def wp_16 : Nat → List Nat := fun x => bif Nat.ble 19 x then (bif Nat.ble 30 x then (bif Nat.ble 41 x then (bif Nat.ble 49 x then ([0, 730, 733, 731, 37, 732]) else ([0, 301])) else ([44, 197, 48])) else (bif Nat.ble 22 x then ([1, 284]) else ([0, 301]))) else (bif Nat.ble 10 x then (bif Nat.ble 15 x then ([0, 725, 727, 726, 28]) else ([0, 725, 727, 726, 28])) else (bif Nat.ble 6 x then ([0, 725, 727, 726, 28]) else ([0, 403, 406, 405, 28, 1])))
def wp_17 : Nat → List Nat := fun x => bif Nat.ble 30 x then (bif Nat.ble 56 x then (bif Nat.ble 61 x then (bif Nat.ble 64 x then ([0, 748, 751, 749, 37, 750]) else ([0, 555, 558, 556, 31, 557])) else ([0, 299])) else (bif Nat.ble 38 x then (bif Nat.ble 49 x then ([0, 301]) else ([44, 207, 48])) else ([1, 286]))) else (bif Nat.ble 10 x then (bif Nat.ble 16 x then (bif Nat.ble 27 x then ([0, 301]) else ([59, 202, 63])) else ([0, 407, 409, 408, 28])) else (bif Nat.ble 5 x then ([0, 484, 486, 485, 28]) else ([0, 514, 516, 515, 28])))
def wp_18 : Nat → List Nat := fun x => bif Nat.ble 16 x then (bif Nat.ble 32 x then (bif Nat.ble 35 x then ([0, 770, 773, 771, 37, 772]) else ([0, 302])) else (bif Nat.ble 27 x then ([0, 301]) else ([44, 219, 48]))) else (bif Nat.ble 6 x then (bif Nat.ble 10 x then ([0, 764, 767, 765, 37, 766]) else ([0, 301])) else ([0, 759, 762, 761, 28, 10]))
def wp_19 : Nat → List Nat := fun x => bif Nat.ble 11 x then (bif Nat.ble 16 x then ([0, 785, 788, 786, 37, 787]) else ([0, 301])) else (bif Nat.ble 7 x then ([0, 698, 700, 699, 28]) else ([0, 759, 762, 761, 28, 10]))
def wp_20 : Nat → List Nat := fun x => bif Nat.ble 26 x then (bif Nat.ble 43 x then (bif Nat.ble 48 x then ([0, 798, 801, 799, 37, 800]) else ([0, 301])) else (bif Nat.ble 32 x then ([183, 229, 187]) else ([0, 407, 409, 408, 28]))) else (bif Nat.ble 8 x then (bif Nat.ble 14 x then ([183, 227, 187]) else ([0, 407, 409, 408, 28])) else (bif Nat.ble 5 x then ([1, 284]) else ([0, 301])))
def wp_21 : Nat → List Nat := fun x => bif Nat.ble 88 x then (bif Nat.ble 110 x then (bif Nat.ble 130 x then (bif Nat.ble 133 x then (bif Nat.ble 143 x then ([0, 302]) else ([0, 651, 654, 652, 34, 653])) else ([0, 302])) else (bif Nat.ble 122 x then (bif Nat.ble 126 x then ([0, 298]) else ([0, 300])) else ([0, 823, 826, 824, 37, 825]))) else (bif Nat.ble 99 x then (bif Nat.ble 103 x then (bif Nat.ble 107 x then ([0, 302]) else ([0, 298])) else ([0, 299])) else (bif Nat.ble 91 x then (bif Nat.ble 95 x then ([0, 301]) else ([0, 819, 822, 820, 37, 821])) else ([0, 302])))) else (bif Nat.ble 57 x then (bif Nat.ble 68 x then (bif Nat.ble 73 x then (bif Nat.ble 84 x then ([0, 301]) else ([0, 302])) else ([0, 815, 818, 816, 34, 817])) else (bif Nat.ble 61 x then (bif Nat.ble 65 x then ([0, 302]) else ([0, 300])) else ([0, 302]))) else (bif Nat.ble 28 x then (bif Nat.ble 33 x then (bif Nat.ble 52 x then ([0, 302]) else ([44, 235, 48])) else ([813])) else (bif Nat.ble 23 x then ([0, 302]) else ([59, 64, 63]))))
def wp_22 : Nat → List Nat := fun x => bif Nat.ble 90 x then (bif Nat.ble 113 x then (bif Nat.ble 122 x then (bif Nat.ble 125 x then (bif Nat.ble 129 x then ([59, 259, 63]) else ([0, 862, 865, 863, 37, 864])) else ([0, 301])) else (bif Nat.ble 117 x then ([0, 858, 861, 859, 37, 860]) else ([0, 301]))) else (bif Nat.ble 99 x then (bif Nat.ble 104 x then (bif Nat.ble 108 x then ([0, 858, 861, 859, 37, 860]) else ([0, 301])) else ([0, 854, 857, 855, 34, 856])) else (bif Nat.ble 95 x then ([0, 300]) else ([0, 854, 857, 855, 34, 856])))) else (bif Nat.ble 69 x then (bif Nat.ble 77 x then (bif Nat.ble 81 x then (bif Nat.ble 86 x then ([0, 300]) else ([0, 854, 857, 855, 34, 856])) else ([0, 300])) else (bif Nat.ble 72 x then ([0, 850, 853, 851, 34, 852]) else ([0, 300]))) else (bif Nat.ble 61 x then (bif Nat.ble 64 x then ([1, 128]) else ([0, 299])) else (bif Nat.ble 56 x then ([1, 123]) else ([0, 299]))))
def wp_23 : Nat → List Nat := fun x => []
def wp_24 : Nat → List Nat := fun x => bif Nat.ble 8 x then (bif Nat.ble 14 x then ([183, 261, 187]) else ([0, 407, 409, 408, 28])) else (bif Nat.ble 5 x then ([1, 66]) else ([0, 298]))
def wp_25 : Nat → List Nat := fun x => bif Nat.ble 8 x then (bif Nat.ble 14 x then ([183, 263, 187]) else ([0, 407, 409, 408, 28])) else (bif Nat.ble 5 x then ([1, 123]) else ([0, 299]))
def wp_26 : Nat → List Nat := fun x => bif Nat.ble 8 x then (bif Nat.ble 14 x then ([183, 265, 187]) else ([0, 407, 409, 408, 28])) else (bif Nat.ble 5 x then ([1, 214]) else ([0, 300]))
def wp_27 : Nat → List Nat := fun x => bif Nat.ble 8 x then (bif Nat.ble 14 x then ([183, 267, 187]) else ([0, 407, 409, 408, 28])) else (bif Nat.ble 5 x then ([1, 286]) else ([0, 301]))
def wp_28 : Nat → List Nat := fun x => bif Nat.ble 9 x then ([183, 269, 187]) else ([0, 407, 409, 408, 28])
def wp_29 : Nat → List Nat := fun x => [183, 259, 187]
def wp_30 : Nat → List Nat := fun x => [59, 271, 63]
def wp_31 : Nat → List Nat := fun x => [59, 273, 63]
def wp_32 : Nat → List Nat := fun x => bif Nat.ble 136 x then (bif Nat.ble 200 x then (bif Nat.ble 232 x then (bif Nat.ble 248 x then (bif Nat.ble 263 x then (bif Nat.ble 282 x then (bif Nat.ble 300 x then ([0, 886]) else ([872])) else ([0, 876])) else (bif Nat.ble 250 x then ([0, 912]) else ([1000]))) else (bif Nat.ble 240 x then (bif Nat.ble 242 x then ([0, 911]) else ([77])) else (bif Nat.ble 234 x then ([0, 910]) else ([77])))) else (bif Nat.ble 216 x then (bif Nat.ble 224 x then (bif Nat.ble 226 x then ([0, 909]) else ([77])) else (bif Nat.ble 218 x then ([0, 908]) else ([77]))) else (bif Nat.ble 208 x then (bif Nat.ble 210 x then ([0, 907]) else ([77])) else (bif Nat.ble 202 x then ([0, 906]) else ([77]))))) else (bif Nat.ble 168 x then (bif Nat.ble 184 x then (bif Nat.ble 192 x then (bif Nat.ble 194 x then ([0, 905]) else ([77])) else (bif Nat.ble 186 x then ([0, 904]) else ([77]))) else (bif Nat.ble 176 x then (bif Nat.ble 178 x then ([0, 902]) else ([77])) else (bif Nat.ble 170 x then ([0, 901]) else ([77])))) else (bif Nat.ble 152 x then (bif Nat.ble 160 x then (bif Nat.ble 162 x then ([0, 899]) else ([1000])) else (bif Nat.ble 154 x then ([0, 898]) else ([77]))) else (bif Nat.ble 144 x then (bif Nat.ble 146 x then ([0, 897]) else ([77])) else (bif Nat.ble 138 x then ([0, 896]) else ([77])))))) else (bif Nat.ble 66 x then (bif Nat.ble 98 x then (bif Nat.ble 114 x then (bif Nat.ble 122 x then (bif Nat.ble 128 x then (bif Nat.ble 130 x then ([0, 895]) else ([77])) else ([0, 894])) else (bif Nat.ble 120 x then ([77]) else ([0, 893]))) else (bif Nat.ble 106 x then (bif Nat.ble 112 x then ([77]) else ([0, 892])) else (bif Nat.ble 104 x then ([77]) else ([0, 890])))) else (bif Nat.ble 82 x then (bif Nat.ble 90 x then (bif Nat.ble 96 x then ([77]) else ([0, 889])) else (bif Nat.ble 88 x then ([77]) else ([0, 888]))) else (bif Nat.ble 74 x then (bif Nat.ble 80 x then ([77]) else ([0, 886])) else (bif Nat.ble 72 x then ([77]) else ([0, 885]))))) else (bif Nat.ble 34 x then (bif Nat.ble 50 x then (bif Nat.ble 58 x then (bif Nat.ble 64 x then ([77]) else ([0, 884])) else (bif Nat.ble 56 x then ([77]) else ([0, 883]))) else (bif Nat.ble 42 x then (bif Nat.ble 48 x then ([77]) else ([0, 881])) else (bif Nat.ble 40 x then ([77]) else ([0, 880])))) else (bif Nat.ble 18 x then (bif Nat.ble 26 x then (bif Nat.ble 32 x then ([77]) else ([0, 879])) else (bif Nat.ble 24 x then ([77]) else ([0, 878]))) else (bif Nat.ble 10 x then (bif Nat.ble 16 x then ([77]) else ([0, 876])) else (bif Nat.ble 8 x then ([77]) else ([871, 54, 55]))))))
def wp_33 : Nat → List Nat := fun x => [0, 914]
def wp_34 : Nat → List Nat := fun x => []
def wp_35 : Nat → List Nat := fun x => bif Nat.ble 8 x then ([0, 1017, 1019, 1018, 40]) else ([0, 874])
def wp_36 : Nat → List Nat := fun x => bif Nat.ble 8 x then ([0, 1017, 1019, 1018, 40]) else ([0, 877])
def wp_37 : Nat → List Nat := fun x => [0, 1017, 1019, 1018, 40]
def wp_38 : Nat → List Nat := fun x => [0, 1017, 1019, 1018, 40]
def wp_39 : Nat → List Nat := fun x => bif Nat.ble 29 x then (bif Nat.ble 34 x then (bif Nat.ble 38 x then ([0, 874]) else ([0, 874])) else ([0, 874])) else (bif Nat.ble 15 x then (bif Nat.ble 19 x then ([0, 914]) else ([0, 914])) else ([0, 874]))
def wp_40 : Nat → List Nat := fun x => bif Nat.ble 97 x then (bif Nat.ble 171 x then (bif Nat.ble 206 x then (bif Nat.ble 232 x then ([0, 875]) else ([0, 876])) else (bif Nat.ble 185 x then ([0, 876]) else ([0, 876]))) else (bif Nat.ble 126 x then (bif Nat.ble 140 x then ([0, 876]) else ([0, 876])) else (bif Nat.ble 111 x then ([0, 876]) else ([0, 876])))) else (bif Nat.ble 54 x then (bif Nat.ble 68 x then (bif Nat.ble 73 x then ([0, 875]) else ([0, 875])) else (bif Nat.ble 58 x then ([0, 914]) else ([0, 914]))) else (bif Nat.ble 30 x then (bif Nat.ble 41 x then ([0, 875]) else ([0, 1017, 1019, 1018, 40])) else (bif Nat.ble 11 x then ([0, 1013, 1016, 1015, 40, 14]) else ([0, 1013, 1016, 1015, 40, 14]))))
def wp_41 : Nat → List Nat := fun x => bif Nat.ble 29 x then (bif Nat.ble 34 x then (bif Nat.ble 38 x then ([0, 877]) else ([0, 877])) else ([0, 877])) else (bif Nat.ble 15 x then (bif Nat.ble 19 x then ([0, 914]) else ([0, 914])) else ([0, 877]))
def wp_42 : Nat → List Nat := fun x => bif Nat.ble 108 x then (bif Nat.ble 168 x then (bif Nat.ble 184 x then (bif Nat.ble 193 x then (bif Nat.ble 203 x then ([0, 878]) else ([0, 878])) else ([0, 881])) else (bif Nat.ble 176 x then ([0, 880]) else ([0, 879]))) else (bif Nat.ble 147 x then (bif Nat.ble 159 x then ([0, 878]) else ([0, 914])) else (bif Nat.ble 143 x then ([0, 914]) else ([0, 879])))) else (bif Nat.ble 45 x then (bif Nat.ble 58 x then (bif Nat.ble 85 x then (bif Nat.ble 97 x then ([0, 880]) else ([0, 878])) else ([0, 878])) else (bif Nat.ble 49 x then ([0, 914]) else ([0, 914]))) else (bif Nat.ble 23 x then (bif Nat.ble 34 x then ([0, 1017, 1019, 1018, 40]) else ([0, 1032, 1034, 1033, 40])) else (bif Nat.ble 12 x then ([0, 1013, 1016, 1015, 40, 14]) else ([0, 1028, 1031, 1030, 40, 15]))))
def wp_43 : Nat → List Nat := fun x => bif Nat.ble 13 x then ([0, 883]) else ([0, 882])
def wp_44 : Nat → List Nat := fun x => bif Nat.ble 95 x then (bif Nat.ble 119 x then (bif Nat.ble 129 x then (bif Nat.ble 136 x then (bif Nat.ble 141 x then ([0, 882]) else ([0, 882])) else ([0, 882])) else (bif Nat.ble 125 x then ([0, 885]) else ([0, 882]))) else (bif Nat.ble 105 x then (bif Nat.ble 109 x then (bif Nat.ble 115 x then ([0, 884]) else ([0, 882])) else ([0, 883])) else (bif Nat.ble 100 x then ([0, 873]) else ([0, 885])))) else (bif Nat.ble 35 x then (bif Nat.ble 64 x then (bif Nat.ble 77 x then (bif Nat.ble 81 x then ([0, 914]) else ([0, 914])) else ([0, 882])) else (bif Nat.ble 49 x then ([0, 884]) else ([0, 1042, 1045, 1044, 40, 16]))) else (bif Nat.ble 21 x then (bif Nat.ble 25 x then ([0, 914]) else ([0, 914])) else (bif Nat.ble 10 x then ([0, 1039, 1041, 1040, 40]) else ([0, 1028, 1031, 1030, 40, 15]))))
def wp_45 : Nat → List Nat := fun x => bif Nat.ble 37 x then (bif Nat.ble 73 x then (bif Nat.ble 79 x then (bif Nat.ble 95 x then ([0, 886]) else ([0, 886])) else ([0, 886])) else (bif Nat.ble 48 x then (bif Nat.ble 55 x then ([0, 886]) else ([0, 886])) else ([0, 886]))) else (bif Nat.ble 20 x then (bif Nat.ble 24 x then (bif Nat.ble 31 x then ([0, 886]) else ([0, 914])) else ([0, 914])) else (bif Nat.ble 9 x then ([0, 1039, 1041, 1040, 40]) else ([0, 1039, 1041, 1040, 40])))
def wp_46 : Nat → List Nat := fun x => bif Nat.ble 31 x then (bif Nat.ble 37 x then (bif Nat.ble 44 x then ([0, 881]) else ([0, 1017, 1019, 1018, 40])) else ([0, 880])) else (bif Nat.ble 24 x then ([0, 879]) else ([0, 878]))
def wp_47 : Nat → List Nat := fun x => bif Nat.ble 16 x then (bif Nat.ble 23 x then ([0, 886]) else ([0, 884])) else (bif Nat.ble 12 x then ([0, 886]) else ([0, 1042, 1045, 1044, 40, 16]))
def wp_48 : Nat → List Nat := fun x => bif Nat.ble 106 x then (bif Nat.ble 141 x then (bif Nat.ble 173 x then (bif Nat.ble 207 x then ([0, 913]) else ([0, 885])) else (bif Nat.ble 161 x then ([0, 885]) else ([0, 1066, 1069, 1068, 40, 20]))) else (bif Nat.ble 121 x then (bif Nat.ble 129 x then ([0, 886]) else ([0, 884])) else (bif Nat.ble 117 x then ([0, 886]) else ([0, 885])))) else (bif Nat.ble 33 x then (bif Nat.ble 87 x then (bif Nat.ble 94 x then ([0, 883]) else ([0, 882])) else (bif Nat.ble 75 x then ([0, 877]) else ([0, 1066, 1069, 1068, 40, 20]))) else (bif Nat.ble 13 x then (bif Nat.ble 23 x then ([0, 1062, 1065, 1064, 40, 19]) else ([0, 877])) else ([0, 913])))
def wp_49 : Nat → List Nat := fun x => bif Nat.ble 12 x then ([0, 1032, 1034, 1033, 40]) else ([0, 1039, 1041, 1040, 40])
def wp_50 : Nat → List Nat := fun x => bif Nat.ble 11 x then (bif Nat.ble 24 x then ([0, 1058, 1061, 1060, 40, 18]) else ([0, 914])) else (bif Nat.ble 7 x then ([0, 914]) else ([0, 1054, 1057, 1056, 40, 17]))
def wp_51 : Nat → List Nat := fun x => bif Nat.ble 11 x then (bif Nat.ble 24 x then ([0, 1058, 1061, 1060, 40, 18]) else ([0, 914])) else (bif Nat.ble 7 x then ([0, 914]) else ([0, 1054, 1057, 1056, 40, 17]))
def wp_52 : Nat → List Nat := fun x => bif Nat.ble 25 x then (bif Nat.ble 29 x then (bif Nat.ble 42 x then ([0, 1066, 1069, 1068, 40, 20]) else ([0, 914])) else ([0, 914])) else (bif Nat.ble 14 x then ([0, 1032, 1034, 1033, 40]) else ([0, 1028, 1031, 1030, 40, 15]))
def wp_53 : Nat → List Nat := fun x => bif Nat.ble 26 x then (bif Nat.ble 47 x then (bif Nat.ble 57 x then ([0, 876]) else ([872])) else (bif Nat.ble 37 x then ([0, 876]) else ([0, 914]))) else (bif Nat.ble 11 x then (bif Nat.ble 22 x then ([0, 914]) else ([0, 1013, 1016, 1015, 40, 14])) else ([0, 1013, 1016, 1015, 40, 14]))
def wp_54 : Nat → List Nat := fun x => bif Nat.ble 44 x then (bif Nat.ble 61 x then (bif Nat.ble 66 x then (bif Nat.ble 70 x then ([0, 887]) else ([0, 887])) else ([0, 887])) else (bif Nat.ble 50 x then (bif Nat.ble 54 x then ([0, 887]) else ([0, 890])) else ([0, 887]))) else (bif Nat.ble 27 x then (bif Nat.ble 31 x then (bif Nat.ble 40 x then ([0, 888]) else ([0, 914])) else ([0, 914])) else (bif Nat.ble 14 x then ([0, 887]) else ([0, 1013, 1016, 1015, 40, 14])))
def wp_55 : Nat → List Nat := fun x => bif Nat.ble 139 x then (bif Nat.ble 177 x then (bif Nat.ble 208 x then (bif Nat.ble 213 x then (bif Nat.ble 220 x then ([0, 890]) else ([0, 896])) else ([0, 888])) else (bif Nat.ble 193 x then (bif Nat.ble 198 x then ([0, 898]) else ([0, 889])) else ([0, 899]))) else (bif Nat.ble 155 x then (bif Nat.ble 161 x then (bif Nat.ble 168 x then ([0, 896]) else ([0, 888])) else ([0, 876])) else (bif Nat.ble 146 x then (bif Nat.ble 151 x then ([0, 873]) else ([0, 898])) else ([0, 897])))) else (bif Nat.ble 55 x then (bif Nat.ble 97 x then (bif Nat.ble 104 x then (bif Nat.ble 132 x then ([0, 894]) else ([0, 896])) else ([0, 888])) else (bif Nat.ble 66 x then (bif Nat.ble 91 x then ([0, 876]) else ([872])) else ([0, 890]))) else (bif Nat.ble 32 x then (bif Nat.ble 38 x then (bif Nat.ble 45 x then ([0, 896]) else ([0, 888])) else ([0, 876])) else (bif Nat.ble 16 x then (bif Nat.ble 23 x then ([0, 894]) else ([0, 887])) else ([0, 891]))))
def wp_56 : Nat → List Nat := fun x => bif Nat.ble 124 x then (bif Nat.ble 167 x then (bif Nat.ble 181 x then (bif Nat.ble 190 x then (bif Nat.ble 194 x then ([0, 891]) else ([0, 1090, 1093, 1092, 40, 21])) else (bif Nat.ble 186 x then ([0, 891]) else ([0, 891]))) else (bif Nat.ble 171 x then (bif Nat.ble 175 x then ([0, 913]) else ([0, 891])) else ([0, 899]))) else (bif Nat.ble 147 x then (bif Nat.ble 157 x then (bif Nat.ble 161 x then ([0, 891]) else ([0, 898])) else (bif Nat.ble 151 x then ([0, 891]) else ([0, 897]))) else (bif Nat.ble 128 x then (bif Nat.ble 142 x then ([0, 1066, 1069, 1068, 40, 20]) else ([0, 891])) else ([0, 896])))) else (bif Nat.ble 61 x then (bif Nat.ble 77 x then (bif Nat.ble 106 x then (bif Nat.ble 110 x then ([0, 891]) else ([0, 895])) else (bif Nat.ble 81 x then ([0, 891]) else ([0, 894]))) else (bif Nat.ble 67 x then (bif Nat.ble 71 x then ([0, 891]) else ([0, 893])) else ([0, 891]))) else (bif Nat.ble 37 x then (bif Nat.ble 52 x then (bif Nat.ble 57 x then ([0, 892]) else ([0, 1058, 1061, 1060, 40, 18])) else (bif Nat.ble 41 x then ([0, 914]) else ([0, 914]))) else (bif Nat.ble 13 x then (bif Nat.ble 24 x then ([0, 891]) else ([0, 1032, 1034, 1033, 40])) else ([0, 1039, 1041, 1040, 40]))))
def wp_57 : Nat → List Nat := fun x => bif Nat.ble 73 x then (bif Nat.ble 112 x then (bif Nat.ble 124 x then (bif Nat.ble 129 x then (bif Nat.ble 133 x then ([0, 897]) else ([0, 1090, 1093, 1092, 40, 21])) else ([0, 1066, 1069, 1068, 40, 20])) else (bif Nat.ble 119 x then ([0, 893]) else ([0, 896]))) else (bif Nat.ble 89 x then (bif Nat.ble 98 x then (bif Nat.ble 105 x then ([0, 895]) else ([0, 894])) else ([0, 914])) else (bif Nat.ble 85 x then ([0, 914]) else ([0, 1066, 1069, 1068, 40, 20])))) else (bif Nat.ble 32 x then (bif Nat.ble 54 x then (bif Nat.ble 59 x then (bif Nat.ble 68 x then ([0, 893]) else ([0, 1062, 1065, 1064, 40, 19])) else ([0, 892])) else (bif Nat.ble 42 x then ([0, 894]) else ([0, 914]))) else (bif Nat.ble 17 x then (bif Nat.ble 28 x then ([0, 914]) else ([0, 1028, 1031, 1030, 40, 15])) else (bif Nat.ble 9 x then ([0, 1017, 1019, 1018, 40]) else ([0, 891]))))
def wp_58 : Nat → List Nat := fun x => bif Nat.ble 77 x then (bif Nat.ble 98 x then (bif Nat.ble 105 x then (bif Nat.ble 112 x then ([0, 899]) else ([0, 898])) else ([0, 897])) else (bif Nat.ble 84 x then (bif Nat.ble 91 x then ([0, 896]) else ([0, 895])) else ([0, 894]))) else (bif Nat.ble 18 x then (bif Nat.ble 29 x then (bif Nat.ble 33 x then ([0, 914]) else ([0, 914])) else ([0, 1017, 1019, 1018, 40])) else (bif Nat.ble 9 x then ([0, 1017, 1019, 1018, 40]) else ([0, 891])))
def wp_59 : Nat → List Nat := fun x => bif Nat.ble 33 x then (bif Nat.ble 79 x then (bif Nat.ble 96 x then (bif Nat.ble 102 x then ([0, 873]) else ([0, 889])) else ([0, 888])) else (bif Nat.ble 42 x then ([0, 890]) else ([0, 914]))) else (bif Nat.ble 18 x then (bif Nat.ble 29 x then ([0, 914]) else ([0, 1017, 1019, 1018, 40])) else (bif Nat.ble 9 x then ([0, 1017, 1019, 1018, 40]) else ([0, 887])))
def wp_60 : Nat → List Nat := fun x => bif Nat.ble 97 x then (bif Nat.ble 123 x then (bif Nat.ble 139 x then (bif Nat.ble 144 x then (bif Nat.ble 148 x then ([0, 900]) else ([0, 900])) else ([0, 900])) else (bif Nat.ble 128 x then ([0, 900]) else ([0, 902]))) else (bif Nat.ble 109 x then (bif Nat.ble 114 x then ([0, 900]) else ([0, 902])) else (bif Nat.ble 102 x then ([0, 900]) else ([0, 902])))) else (bif Nat.ble 61 x then (bif Nat.ble 78 x then (bif Nat.ble 87 x then (bif Nat.ble 91 x then ([0, 900]) else ([0, 901])) else ([0, 914])) else (bif Nat.ble 74 x then ([0, 914]) else ([0, 900]))) else (bif Nat.ble 25 x then (bif Nat.ble 41 x then ([0, 1013, 1016, 1015, 40, 14]) else ([0, 1017, 1019, 1018, 40])) else (bif Nat.ble 14 x then ([0, 1017, 1019, 1018, 40]) else ([0, 1017, 1019, 1018, 40]))))
def wp_61 : Nat → List Nat := fun x => bif Nat.ble 89 x then (bif Nat.ble 118 x then (bif Nat.ble 135 x then (bif Nat.ble 140 x then (bif Nat.ble 144 x then ([0, 903]) else ([0, 903])) else ([0, 903])) else (bif Nat.ble 124 x then (bif Nat.ble 128 x then ([0, 903]) else ([0, 910])) else ([0, 903]))) else (bif Nat.ble 103 x then (bif Nat.ble 109 x then (bif Nat.ble 114 x then ([0, 909]) else ([0, 1058, 1061, 1060, 40, 18])) else ([0, 903])) else (bif Nat.ble 93 x then (bif Nat.ble 99 x then ([0, 908]) else ([0, 903])) else ([0, 907])))) else (bif Nat.ble 59 x then (bif Nat.ble 73 x then (bif Nat.ble 79 x then (bif Nat.ble 83 x then ([0, 903]) else ([0, 906])) else ([0, 903])) else (bif Nat.ble 63 x then (bif Nat.ble 69 x then ([0, 905]) else ([0, 903])) else ([0, 904]))) else (bif Nat.ble 33 x then (bif Nat.ble 46 x then (bif Nat.ble 50 x then ([0, 914]) else ([0, 914])) else ([0, 903])) else (bif Nat.ble 13 x then (bif Nat.ble 22 x then ([0, 1017, 1019, 1018, 40]) else ([0, 1032, 1034, 1033, 40])) else ([0, 1039, 1041, 1040, 40]))))
def wp_62 : Nat → List Nat := fun x => bif Nat.ble 47 x then (bif Nat.ble 66 x then (bif Nat.ble 78 x then (bif Nat.ble 82 x then ([0, 911]) else ([0, 873])) else ([0, 910])) else (bif Nat.ble 54 x then (bif Nat.ble 59 x then ([0, 909]) else ([0, 902])) else ([0, 907]))) else (bif Nat.ble 20 x then (bif Nat.ble 34 x then (bif Nat.ble 38 x then ([0, 914]) else ([0, 914])) else ([0, 907])) else (bif Nat.ble 9 x then ([0, 1017, 1019, 1018, 40]) else ([0, 903])))
def wp_63 : Nat → List Nat := fun x => bif Nat.ble 33 x then (bif Nat.ble 60 x then (bif Nat.ble 74 x then (bif Nat.ble 83 x then ([0, 912]) else ([0, 910])) else ([0, 909])) else (bif Nat.ble 46 x then ([0, 907]) else ([0, 914]))) else (bif Nat.ble 18 x then (bif Nat.ble 29 x then ([0, 914]) else ([0, 1017, 1019, 1018, 40])) else (bif Nat.ble 9 x then ([0, 1017, 1019, 1018, 40]) else ([0, 903])))
def wp_64 : Nat → List Nat := fun x => bif Nat.ble 29 x then (bif Nat.ble 33 x then (bif Nat.ble 44 x then ([0, 902]) else ([0, 914])) else ([0, 914])) else (bif Nat.ble 9 x then (bif Nat.ble 18 x then ([0, 1017, 1019, 1018, 40]) else ([0, 1017, 1019, 1018, 40])) else ([0, 900]))
def wp_65 : Nat → List Nat := fun x => [0, 902]
def wp_66 : Nat → List Nat := fun x => bif Nat.ble 37 x then (bif Nat.ble 71 x then (bif Nat.ble 79 x then ([0, 901]) else ([0, 876])) else (bif Nat.ble 46 x then ([872]) else ([0, 1147, 1150, 1149, 40, 26]))) else (bif Nat.ble 15 x then (bif Nat.ble 23 x then ([0, 901]) else ([0, 876])) else ([0, 900]))
def wp_67 : Nat → List Nat := fun x => bif Nat.ble 57 x then (bif Nat.ble 92 x then (bif Nat.ble 105 x then (bif Nat.ble 110 x then (bif Nat.ble 116 x then ([0, 908]) else ([0, 912])) else ([0, 873])) else (bif Nat.ble 100 x then ([0, 911]) else ([0, 910]))) else (bif Nat.ble 78 x then (bif Nat.ble 85 x then ([0, 909]) else ([0, 907])) else (bif Nat.ble 63 x then ([0, 902]) else ([0, 1147, 1150, 1149, 40, 26])))) else (bif Nat.ble 31 x then (bif Nat.ble 40 x then (bif Nat.ble 52 x then ([0, 906]) else ([0, 1143, 1146, 1145, 40, 25])) else (bif Nat.ble 35 x then ([0, 906]) else ([0, 1066, 1069, 1068, 40, 20]))) else (bif Nat.ble 13 x then (bif Nat.ble 26 x then ([0, 905]) else ([0, 1058, 1061, 1060, 40, 18])) else (bif Nat.ble 8 x then ([0, 905]) else ([0, 904]))))
def wp_68 : Nat → List Nat := fun x => bif Nat.ble 45 x then (bif Nat.ble 78 x then (bif Nat.ble 85 x then (bif Nat.ble 95 x then ([0, 1139, 1142, 1141, 40, 24]) else ([0, 907])) else ([0, 903])) else (bif Nat.ble 50 x then (bif Nat.ble 57 x then ([0, 910]) else ([0, 909])) else ([0, 902]))) else (bif Nat.ble 21 x then (bif Nat.ble 25 x then (bif Nat.ble 38 x then ([0, 907]) else ([0, 911])) else ([0, 873])) else (bif Nat.ble 11 x then ([0, 907]) else ([0, 903])))
def wp_69 : Nat → List Nat := fun x => bif Nat.ble 44 x then (bif Nat.ble 69 x then (bif Nat.ble 80 x then (bif Nat.ble 84 x then ([0, 1090, 1093, 1092, 40, 21]) else ([0, 1135, 1138, 1137, 40, 23])) else ([0, 873])) else (bif Nat.ble 48 x then (bif Nat.ble 56 x then ([0, 890]) else ([0, 890])) else ([0, 894]))) else (bif Nat.ble 21 x then (bif Nat.ble 31 x then (bif Nat.ble 37 x then ([0, 873]) else ([0, 889])) else ([0, 890])) else (bif Nat.ble 7 x then (bif Nat.ble 14 x then ([0, 887]) else ([0, 873])) else ([0, 873])))
def wp_70 : Nat → List Nat := fun x => bif Nat.ble 43 x then (bif Nat.ble 60 x then (bif Nat.ble 71 x then ([0, 873]) else ([0, 914])) else (bif Nat.ble 50 x then ([0, 1131, 1134, 1133, 40, 22]) else ([0, 914]))) else (bif Nat.ble 22 x then (bif Nat.ble 32 x then ([0, 914]) else ([1130])) else (bif Nat.ble 17 x then ([0, 873]) else ([0, 1017, 1019, 1018, 40])))
def wp_71 : Nat → List Nat := fun x => bif Nat.ble 99 x then (bif Nat.ble 165 x then (bif Nat.ble 222 x then (bif Nat.ble 234 x then ([0, 882]) else ([0, 877])) else (bif Nat.ble 172 x then ([0, 890]) else ([0, 887]))) else (bif Nat.ble 127 x then (bif Nat.ble 143 x then ([0, 912]) else ([0, 907])) else (bif Nat.ble 112 x then ([0, 907]) else ([0, 903])))) else (bif Nat.ble 40 x then (bif Nat.ble 66 x then (bif Nat.ble 81 x then ([0, 894]) else ([0, 894])) else (bif Nat.ble 52 x then ([0, 894]) else ([0, 891]))) else (bif Nat.ble 16 x then (bif Nat.ble 20 x then ([0, 914]) else ([0, 914])) else ([0, 1017, 1019, 1018, 40])))
def wp_72 : Nat → List Nat := fun x => bif Nat.ble 14 x then (bif Nat.ble 18 x then (bif Nat.ble 22 x then ([0, 112, 64, 63, 30]) else ([0, 115])) else ([0, 115])) else (bif Nat.ble 6 x then (bif Nat.ble 12 x then ([77]) else ([0, 113])) else ([111, 54, 55]))
def wp_73 : Nat → List Nat := fun x => bif Nat.ble 6 x then (bif Nat.ble 10 x then ([0, 112, 64, 63, 30]) else ([0, 115])) else ([0, 113])
def wp_74 : Nat → List Nat := fun x => bif Nat.ble 13 x then (bif Nat.ble 17 x then (bif Nat.ble 24 x then ([0, 113]) else ([0, 113])) else ([0, 115])) else (bif Nat.ble 6 x then ([1, 532, 409, 408, 28]) else ([0, 113]))
def wp_75 : Nat → List Nat := fun x => bif Nat.ble 11 x then (bif Nat.ble 16 x then (bif Nat.ble 21 x then ([0, 191]) else ([0, 189])) else ([0, 187])) else (bif Nat.ble 6 x then ([0, 185]) else ([181, 54, 55]))
def wp_76 : Nat → List Nat := fun x => [166, 54, 55]
def wp_77 : Nat → List Nat := fun x => bif Nat.ble 31 x then (bif Nat.ble 58 x then (bif Nat.ble 62 x then (bif Nat.ble 66 x then ([1, 249, 251, 250, 39]) else ([234, 248, 39])) else ([0, 288])) else (bif Nat.ble 35 x then (bif Nat.ble 39 x then ([1, 237, 239, 238, 38]) else ([232, 236, 38])) else ([0, 287]))) else (bif Nat.ble 10 x then (bif Nat.ble 16 x then (bif Nat.ble 19 x then ([0, 288]) else ([234, 235])) else ([0, 287])) else (bif Nat.ble 7 x then ([232, 233]) else ([231, 54, 55])))
def wp_78 : Nat → List Nat := fun x => bif Nat.ble 35 x then (bif Nat.ble 55 x then (bif Nat.ble 59 x then (bif Nat.ble 68 x then ([0, 734, 737, 735, 38, 736]) else ([0, 287])) else ([0, 734, 737, 735, 38, 736])) else (bif Nat.ble 43 x then (bif Nat.ble 47 x then ([0, 287]) else ([0, 734, 737, 735, 38, 736])) else ([0, 287]))) else (bif Nat.ble 20 x then (bif Nat.ble 24 x then (bif Nat.ble 31 x then ([1, 241]) else ([0, 287])) else ([0, 283])) else (bif Nat.ble 15 x then ([0, 283]) else ([0, 283])))
def wp_79 : Nat → List Nat := fun x => bif Nat.ble 35 x then (bif Nat.ble 47 x then (bif Nat.ble 54 x then (bif Nat.ble 60 x then ([1, 257]) else ([1, 256])) else ([1, 255])) else (bif Nat.ble 41 x then ([1, 254]) else ([1, 253]))) else (bif Nat.ble 20 x then (bif Nat.ble 24 x then ([0, 288]) else ([0, 285])) else (bif Nat.ble 15 x then ([0, 285]) else ([0, 285])))
def wp_80 : Nat → List Nat := fun x => bif Nat.ble 12 x then (bif Nat.ble 17 x then ([1, 257]) else ([0, 288])) else (bif Nat.ble 5 x then ([1, 768, 409, 408, 28]) else ([0, 285]))
def wp_81 : Nat → List Nat := fun x => bif Nat.ble 14 x then (bif Nat.ble 23 x then (bif Nat.ble 28 x then ([1, 262]) else ([0, 774, 777, 776, 37, 11])) else ([0, 288])) else (bif Nat.ble 5 x then ([1, 768, 409, 408, 28]) else ([0, 285]))
def wp_82 : Nat → List Nat := fun x => bif Nat.ble 18 x then (bif Nat.ble 27 x then (bif Nat.ble 40 x then ([0, 774, 777, 776, 37, 11]) else ([1, 262])) else ([1, 257])) else (bif Nat.ble 11 x then ([0, 288]) else ([0, 285]))
def wp_83 : Nat → List Nat := fun x => bif Nat.ble 20 x then (bif Nat.ble 29 x then (bif Nat.ble 33 x then ([0, 734, 737, 735, 38, 736]) else ([1, 261])) else (bif Nat.ble 24 x then ([1, 259]) else ([0, 287]))) else (bif Nat.ble 10 x then (bif Nat.ble 13 x then ([1, 768, 409, 408, 28]) else ([0, 283])) else (bif Nat.ble 6 x then ([1, 259]) else ([1, 257])))
def wp_84 : Nat → List Nat := fun x => bif Nat.ble 40 x then (bif Nat.ble 61 x then (bif Nat.ble 67 x then (bif Nat.ble 80 x then ([0, 839, 842, 841, 37, 13]) else ([0, 829, 832, 831, 37, 12])) else ([1, 255])) else (bif Nat.ble 50 x then (bif Nat.ble 53 x then ([0, 828, 566, 564, 31, 565]) else ([1, 254])) else ([0, 827, 558, 556, 31, 557]))) else (bif Nat.ble 23 x then (bif Nat.ble 32 x then (bif Nat.ble 37 x then ([1, 254]) else ([1, 253])) else ([1, 257])) else (bif Nat.ble 13 x then ([0, 288]) else ([0, 285])))
def wp_85 : Nat → List Nat := fun x => bif Nat.ble 30 x then (bif Nat.ble 42 x then (bif Nat.ble 49 x then ([0, 834, 837, 835, 38, 836]) else ([0, 287])) else ([0, 833, 451, 449, 29, 450])) else (bif Nat.ble 20 x then (bif Nat.ble 26 x then ([1, 241]) else ([0, 287])) else ([0, 283]))
def wp_86 : Nat → List Nat := fun x => bif Nat.ble 35 x then (bif Nat.ble 58 x then (bif Nat.ble 68 x then (bif Nat.ble 72 x then ([0, 734, 737, 735, 38, 736]) else ([1, 261])) else (bif Nat.ble 62 x then ([0, 287]) else ([1, 263]))) else (bif Nat.ble 41 x then (bif Nat.ble 47 x then ([1, 256]) else ([1, 262])) else ([1, 261]))) else (bif Nat.ble 18 x then (bif Nat.ble 29 x then (bif Nat.ble 32 x then ([0, 834, 837, 835, 38, 836]) else ([1, 255])) else (bif Nat.ble 23 x then ([0, 287]) else ([1, 259]))) else (bif Nat.ble 5 x then (bif Nat.ble 13 x then ([1, 257]) else ([1, 768, 409, 408, 28])) else ([0, 283])))
def wp_87 : Nat → List Nat := fun x => bif Nat.ble 49 x then (bif Nat.ble 59 x then (bif Nat.ble 64 x then ([1, 263]) else ([1, 261])) else (bif Nat.ble 54 x then ([1, 259]) else ([1, 257]))) else (bif Nat.ble 5 x then (bif Nat.ble 14 x then ([0, 288]) else ([1, 768, 409, 408, 28])) else ([0, 285]))
def wp_88 : Nat → List Nat := fun x => bif Nat.ble 12 x then (bif Nat.ble 18 x then ([0, 802, 805, 803, 38, 804]) else ([0, 287])) else (bif Nat.ble 5 x then ([1, 768, 409, 408, 28]) else ([0, 283]))
def wp_89 : Nat → List Nat := fun x => bif Nat.ble 13 x then (bif Nat.ble 18 x then ([1, 257]) else ([0, 288])) else ([0, 285])
def wp_90 : Nat → List Nat := fun x => bif Nat.ble 13 x then (bif Nat.ble 18 x then ([1, 263]) else ([0, 288])) else ([0, 285])
def wp_91 : Nat → List Nat := fun x => bif Nat.ble 52 x then (bif Nat.ble 85 x then (bif Nat.ble 98 x then (bif Nat.ble 106 x then (bif Nat.ble 125 x then ([0, 127]) else ([0, 108, 110, 109, 33])) else (bif Nat.ble 102 x then ([86, 107, 33]) else ([0, 126]))) else (bif Nat.ble 89 x then (bif Nat.ble 93 x then ([0, 108, 110, 109, 33]) else ([86, 107, 33])) else ([0, 125]))) else (bif Nat.ble 72 x then (bif Nat.ble 76 x then (bif Nat.ble 80 x then ([1, 89, 91, 90, 32]) else ([84, 88, 32])) else ([0, 124])) else (bif Nat.ble 58 x then (bif Nat.ble 60 x then ([0, 132]) else ([77])) else ([0, 131])))) else (bif Nat.ble 28 x then (bif Nat.ble 42 x then (bif Nat.ble 44 x then (bif Nat.ble 50 x then ([77]) else ([0, 130])) else ([77])) else (bif Nat.ble 34 x then (bif Nat.ble 36 x then ([0, 127]) else ([77])) else ([0, 126]))) else (bif Nat.ble 16 x then (bif Nat.ble 19 x then (bif Nat.ble 25 x then ([86, 87]) else ([0, 125])) else ([86, 87])) else (bif Nat.ble 7 x then (bif Nat.ble 10 x then ([0, 124]) else ([84, 85])) else ([83, 54, 55]))))
def wp_92 : Nat → List Nat := fun x => bif Nat.ble 13 x then (bif Nat.ble 18 x then ([0, 122]) else ([0, 122])) else ([0, 122])
def wp_93 : Nat → List Nat := fun x => bif Nat.ble 17 x then (bif Nat.ble 25 x then (bif Nat.ble 32 x then ([0, 494, 497, 495, 32, 496]) else ([0, 124])) else ([1, 94])) else (bif Nat.ble 5 x then (bif Nat.ble 12 x then ([0, 124]) else ([1, 493, 409, 408, 28])) else ([0, 122]))
def wp_94 : Nat → List Nat := fun x => bif Nat.ble 14 x then (bif Nat.ble 23 x then ([0, 503, 506, 504, 32, 505]) else ([0, 124])) else (bif Nat.ble 5 x then ([1, 493, 409, 408, 28]) else ([0, 122]))
def wp_95 : Nat → List Nat := fun x => bif Nat.ble 14 x then (bif Nat.ble 20 x then ([0, 567, 570, 568, 32, 569]) else ([0, 124])) else (bif Nat.ble 5 x then ([1, 493, 409, 408, 28]) else ([0, 122]))
def wp_96 : Nat → List Nat := fun x => bif Nat.ble 14 x then (bif Nat.ble 19 x then ([1, 114]) else ([0, 125])) else (bif Nat.ble 5 x then ([1, 493, 409, 408, 28]) else ([0, 122]))
def wp_97 : Nat → List Nat := fun x => bif Nat.ble 35 x then (bif Nat.ble 52 x then (bif Nat.ble 61 x then (bif Nat.ble 68 x then ([0, 528, 531, 529, 33, 530]) else ([0, 125])) else (bif Nat.ble 57 x then ([0, 129]) else ([0, 129]))) else (bif Nat.ble 41 x then (bif Nat.ble 45 x then ([0, 129]) else ([0, 132])) else ([0, 129]))) else (bif Nat.ble 21 x then (bif Nat.ble 25 x then (bif Nat.ble 31 x then ([0, 131]) else ([0, 129])) else ([0, 130])) else (bif Nat.ble 5 x then (bif Nat.ble 12 x then ([0, 129]) else ([1, 493, 409, 408, 28])) else ([0, 122])))
def wp_98 : Nat → List Nat := fun x => bif Nat.ble 19 x then (bif Nat.ble 25 x then ([0, 127]) else ([0, 127])) else (bif Nat.ble 12 x then ([1, 493, 409, 408, 28]) else ([1, 493, 409, 408, 28]))
def wp_99 : Nat → List Nat := fun x => bif Nat.ble 30 x then (bif Nat.ble 55 x then (bif Nat.ble 67 x then ([0, 127]) else ([0, 127])) else (bif Nat.ble 37 x then ([0, 127]) else ([0, 127]))) else (bif Nat.ble 12 x then (bif Nat.ble 21 x then ([0, 544, 547, 545, 31, 546]) else ([1, 493, 409, 408, 28])) else ([1, 493, 409, 408, 28]))
def wp_100 : Nat → List Nat := fun x => bif Nat.ble 18 x then (bif Nat.ble 23 x then ([0, 571, 574, 573, 31, 5]) else ([0, 125])) else (bif Nat.ble 7 x then ([0, 559, 562, 561, 31, 4]) else ([0, 125]))
def wp_101 : Nat → List Nat := fun x => bif Nat.ble 7 x then ([0, 559, 562, 561, 31, 4]) else ([0, 125])
def wp_102 : Nat → List Nat := fun x => bif Nat.ble 7 x then ([0, 571, 574, 573, 31, 5]) else ([0, 125])
def wp_103 : Nat → List Nat := fun x => bif Nat.ble 56 x then (bif Nat.ble 85 x then (bif Nat.ble 101 x then (bif Nat.ble 106 x then ([0, 571, 574, 573, 31, 5]) else ([0, 126])) else (bif Nat.ble 90 x then ([0, 559, 562, 561, 31, 4]) else ([0, 126]))) else (bif Nat.ble 69 x then (bif Nat.ble 74 x then ([0, 528, 531, 529, 33, 530]) else ([0, 132])) else (bif Nat.ble 63 x then ([0, 131]) else ([0, 126])))) else (bif Nat.ble 29 x then (bif Nat.ble 46 x then (bif Nat.ble 49 x then ([1, 493, 409, 408, 28]) else ([0, 122])) else (bif Nat.ble 36 x then ([0, 130]) else ([0, 129]))) else (bif Nat.ble 11 x then (bif Nat.ble 16 x then ([0, 593, 596, 594, 33, 595]) else ([0, 126])) else ([0, 122])))
def wp_104 : Nat → List Nat := fun x => bif Nat.ble 7 x then (bif Nat.ble 16 x then ([0, 563, 566, 564, 31, 565]) else ([0, 544, 547, 545, 31, 546])) else ([0, 684, 521, 519, 31, 520])
def wp_105 : Nat → List Nat := fun x => bif Nat.ble 31 x then (bif Nat.ble 41 x then ([0, 563, 566, 564, 31, 565]) else ([0, 544, 547, 545, 31, 546])) else (bif Nat.ble 27 x then ([1, 114]) else ([0, 122]))
def wp_106 : Nat → List Nat := fun x => bif Nat.ble 29 x then (bif Nat.ble 46 x then ([0, 575, 578, 577, 31, 6]) else ([0, 563, 566, 564, 31, 565])) else ([0, 122])
def wp_107 : Nat → List Nat := fun x => bif Nat.ble 24 x then (bif Nat.ble 30 x then ([0, 579, 581, 580, 47]) else ([1, 116])) else ([0, 544, 547, 545, 31, 546])
def wp_108 : Nat → List Nat := fun x => bif Nat.ble 6 x then (bif Nat.ble 8 x then ([0, 242]) else ([77])) else ([240, 54, 55])
def wp_109 : Nat → List Nat := fun x => bif Nat.ble 9 x then ([0, 242]) else ([1, 738, 409, 408, 28])
def wp_110 : Nat → List Nat := fun x => bif Nat.ble 9 x then ([0, 242]) else ([1, 738, 409, 408, 28])
def wp_111 : Nat → List Nat := fun x => bif Nat.ble 12 x then ([0, 242]) else ([0, 838, 581, 580, 47])
def wp_112 : Nat → List Nat := fun x => bif Nat.ble 6 x then (bif Nat.ble 11 x then ([0, 260]) else ([0, 258])) else ([252, 54, 55])
def wp_113 : Nat → List Nat := fun x => bif Nat.ble 10 x then (bif Nat.ble 14 x then (bif Nat.ble 18 x then ([0, 62, 64, 63, 30]) else ([0, 69])) else ([0, 69])) else (bif Nat.ble 8 x then ([77]) else ([61, 54, 55]))
def wp_114 : Nat → List Nat := fun x => bif Nat.ble 18 x then (bif Nat.ble 22 x then ([0, 69]) else ([0, 65])) else (bif Nat.ble 13 x then ([0, 65]) else ([0, 65]))
def wp_115 : Nat → List Nat := fun x => bif Nat.ble 59 x then (bif Nat.ble 73 x then (bif Nat.ble 95 x then (bif Nat.ble 99 x then ([0, 68]) else ([0, 68])) else (bif Nat.ble 90 x then ([0, 68]) else ([0, 456, 459, 458, 29, 2]))) else (bif Nat.ble 67 x then (bif Nat.ble 70 x then ([0, 453, 455, 454, 29]) else ([0, 448, 451, 449, 29, 450])) else ([0, 448, 451, 449, 29, 450]))) else (bif Nat.ble 41 x then (bif Nat.ble 44 x then (bif Nat.ble 47 x then ([0, 456, 459, 458, 29, 2]) else ([0, 453, 455, 454, 29])) else ([0, 448, 451, 449, 29, 450])) else (bif Nat.ble 18 x then (bif Nat.ble 33 x then ([0, 448, 451, 449, 29, 450]) else ([0, 65])) else ([0, 65])))
def wp_116 : Nat → List Nat := fun x => bif Nat.ble 13 x then (bif Nat.ble 16 x then (bif Nat.ble 25 x then ([0, 69]) else ([1, 452, 409, 408, 28])) else ([0, 65])) else (bif Nat.ble 5 x then ([1, 452, 409, 408, 28]) else ([0, 65]))
def wp_117 : Nat → List Nat := fun x => []
def wp_118 : Nat → List Nat := fun x => bif Nat.ble 50 x then (bif Nat.ble 53 x then (bif Nat.ble 60 x then ([0, 69]) else ([1, 452, 409, 408, 28])) else ([0, 65])) else (bif Nat.ble 39 x then (bif Nat.ble 42 x then ([1, 452, 409, 408, 28]) else ([0, 65])) else ([0, 448, 451, 449, 29, 450]))
def wp_119 : Nat → List Nat := fun x => bif Nat.ble 31 x then (bif Nat.ble 58 x then (bif Nat.ble 62 x then (bif Nat.ble 66 x then ([1, 178, 180, 179, 36]) else ([160, 177, 36])) else ([0, 216])) else (bif Nat.ble 35 x then (bif Nat.ble 39 x then ([1, 163, 165, 164, 35]) else ([158, 162, 35])) else ([0, 215]))) else (bif Nat.ble 10 x then (bif Nat.ble 16 x then (bif Nat.ble 19 x then ([0, 216]) else ([160, 161])) else ([0, 215])) else (bif Nat.ble 7 x then ([158, 159]) else ([157, 54, 55])))
def wp_120 : Nat → List Nat := fun x => bif Nat.ble 18 x then (bif Nat.ble 22 x then (bif Nat.ble 28 x then ([1, 167]) else ([0, 215])) else ([0, 211])) else (bif Nat.ble 13 x then ([0, 211]) else ([0, 211]))
def wp_121 : Nat → List Nat := fun x => bif Nat.ble 49 x then (bif Nat.ble 94 x then (bif Nat.ble 109 x then (bif Nat.ble 121 x then ([0, 645, 648, 646, 34, 647]) else ([1, 184])) else ([1, 184])) else (bif Nat.ble 63 x then (bif Nat.ble 81 x then ([1, 193]) else ([0, 641, 644, 642, 31, 643])) else ([0, 637, 640, 638, 31, 639]))) else (bif Nat.ble 26 x then (bif Nat.ble 37 x then (bif Nat.ble 43 x then ([1, 183]) else ([1, 182])) else ([0, 216])) else (bif Nat.ble 17 x then (bif Nat.ble 22 x then ([0, 213]) else ([0, 213])) else ([0, 213])))
def wp_122 : Nat → List Nat := fun x => bif Nat.ble 23 x then (bif Nat.ble 39 x then (bif Nat.ble 42 x then ([0, 680, 683, 681, 31, 682]) else ([1, 183])) else (bif Nat.ble 34 x then ([1, 182]) else ([1, 184]))) else (bif Nat.ble 5 x then (bif Nat.ble 14 x then ([0, 216]) else ([1, 649, 409, 408, 28])) else ([0, 213]))
def wp_123 : Nat → List Nat := fun x => bif Nat.ble 28 x then (bif Nat.ble 40 x then (bif Nat.ble 43 x then ([1, 188]) else ([0, 650, 566, 564, 31, 565])) else (bif Nat.ble 37 x then ([1, 183]) else ([1, 186]))) else (bif Nat.ble 12 x then (bif Nat.ble 22 x then ([1, 184]) else ([0, 216])) else (bif Nat.ble 5 x then ([1, 649, 409, 408, 28]) else ([0, 213])))
def wp_124 : Nat → List Nat := fun x => bif Nat.ble 34 x then (bif Nat.ble 44 x then (bif Nat.ble 50 x then ([1, 168]) else ([1, 184])) else ([1, 169])) else (bif Nat.ble 13 x then (bif Nat.ble 22 x then ([1, 168]) else ([0, 215])) else ([0, 211]))
def wp_125 : Nat → List Nat := fun x => bif Nat.ble 20 x then (bif Nat.ble 31 x then ([0, 655, 658, 657, 34, 7]) else ([1, 184])) else (bif Nat.ble 11 x then ([0, 216]) else ([0, 213]))
def wp_126 : Nat → List Nat := fun x => bif Nat.ble 53 x then (bif Nat.ble 79 x then (bif Nat.ble 88 x then (bif Nat.ble 94 x then (bif Nat.ble 100 x then ([1, 169]) else ([1, 192])) else ([1, 168])) else (bif Nat.ble 82 x then ([1, 167]) else ([1, 188]))) else (bif Nat.ble 61 x then (bif Nat.ble 73 x then ([1, 192]) else ([1, 193])) else (bif Nat.ble 56 x then ([0, 663, 451, 449, 29, 450]) else ([1, 188])))) else (bif Nat.ble 25 x then (bif Nat.ble 41 x then (bif Nat.ble 49 x then ([1, 167]) else ([1, 190])) else (bif Nat.ble 35 x then ([1, 184]) else ([0, 215]))) else (bif Nat.ble 14 x then (bif Nat.ble 17 x then ([1, 649, 409, 408, 28]) else ([0, 211])) else (bif Nat.ble 6 x then ([0, 659, 662, 661, 34, 8]) else ([1, 188]))))
def wp_127 : Nat → List Nat := fun x => bif Nat.ble 29 x then (bif Nat.ble 35 x then (bif Nat.ble 41 x then ([1, 168]) else ([0, 215])) else ([0, 663, 451, 449, 29, 450])) else (bif Nat.ble 19 x then (bif Nat.ble 25 x then ([1, 167]) else ([0, 215])) else ([0, 211]))
def wp_128 : Nat → List Nat := fun x => bif Nat.ble 12 x then (bif Nat.ble 17 x then ([1, 190]) else ([0, 216])) else (bif Nat.ble 5 x then ([1, 649, 409, 408, 28]) else ([0, 213]))
def wp_129 : Nat → List Nat := fun x => bif Nat.ble 62 x then (bif Nat.ble 72 x then (bif Nat.ble 77 x then (bif Nat.ble 82 x then ([1, 193]) else ([1, 192])) else ([1, 190])) else (bif Nat.ble 67 x then ([1, 188]) else ([1, 186]))) else (bif Nat.ble 14 x then (bif Nat.ble 57 x then ([1, 184]) else ([0, 216])) else (bif Nat.ble 5 x then ([1, 649, 409, 408, 28]) else ([0, 213])))
def wp_130 : Nat → List Nat := fun x => bif Nat.ble 23 x then (bif Nat.ble 77 x then (bif Nat.ble 92 x then ([1, 169]) else ([1, 167])) else ([1, 168])) else (bif Nat.ble 5 x then (bif Nat.ble 14 x then ([0, 215]) else ([1, 649, 409, 408, 28])) else ([0, 211]))
def wp_131 : Nat → List Nat := fun x => bif Nat.ble 13 x then (bif Nat.ble 18 x then ([1, 184]) else ([0, 216])) else ([0, 213])
def wp_132 : Nat → List Nat := fun x => bif Nat.ble 13 x then (bif Nat.ble 18 x then ([1, 168]) else ([0, 215])) else ([0, 211])
def wp_133 : Nat → List Nat := fun x => bif Nat.ble 13 x then (bif Nat.ble 20 x then (bif Nat.ble 22 x then ([0, 97]) else ([77])) else (bif Nat.ble 15 x then ([0, 96]) else ([77]))) else (bif Nat.ble 6 x then (bif Nat.ble 8 x then ([0, 95]) else ([77])) else ([92, 54, 55]))
def wp_134 : Nat → List Nat := fun x => bif Nat.ble 12 x then (bif Nat.ble 21 x then ([0, 95]) else ([0, 96])) else ([0, 93])
def wp_135 : Nat → List Nat := fun x => bif Nat.ble 29 x then (bif Nat.ble 40 x then (bif Nat.ble 45 x then (bif Nat.ble 49 x then ([0, 93]) else ([0, 93])) else ([0, 93])) else (bif Nat.ble 33 x then ([0, 93]) else ([0, 97]))) else (bif Nat.ble 13 x then (bif Nat.ble 19 x then (bif Nat.ble 23 x then ([0, 93]) else ([0, 96])) else ([0, 93])) else (bif Nat.ble 9 x then ([0, 95]) else ([0, 93])))
def wp_136 : Nat → List Nat := fun x => bif Nat.ble 22 x then (bif Nat.ble 31 x then ([0, 97]) else ([0, 96])) else (bif Nat.ble 11 x then ([0, 95]) else ([0, 93]))
def wp_137 : Nat → List Nat := fun x => [0, 318, 321, 319, 28, 320, 317, 0, 0, 412, 428, 324]
def wp_138 : Nat → List Nat := fun x => [0, 399, 402, 400, 28, 401, 397, 398, 317, 412, 428, 324]
def wp_139 : Nat → List Nat := fun x => [0, 463, 466, 464, 28, 465, 317, 0, 0, 412, 428, 324]
def wp_140 : Nat → List Nat := fun x => [0, 475, 478, 476, 28, 477, 397, 398, 317, 412, 428, 324]
def wp_141 : Nat → List Nat := fun x => [0, 510, 513, 511, 28, 512, 397, 317, 0, 412, 428, 324]
def wp_142 : Nat → List Nat := fun x => [0, 536, 539, 537, 28, 538, 397, 0, 0, 412, 428, 324]
def wp_143 : Nat → List Nat := fun x => [0, 551, 554, 552, 28, 553, 397, 398, 0, 412, 428, 324]
def wp_144 : Nat → List Nat := fun x => [0, 585, 588, 586, 28, 587, 397, 398, 0, 412, 428, 324]
def wp_145 : Nat → List Nat := fun x => [0, 600, 603, 601, 28, 602, 397, 398, 0, 412, 428, 324]
def wp_146 : Nat → List Nat := fun x => [0, 608, 611, 609, 28, 610, 397, 0, 0, 412, 428, 324]
def wp_147 : Nat → List Nat := fun x => [0, 616, 619, 617, 28, 618, 397, 317, 0, 412, 428, 324]
def wp_148 : Nat → List Nat := fun x => [0, 628, 631, 629, 28, 630, 397, 398, 317, 412, 428, 324]
def wp_149 : Nat → List Nat := fun x => [0, 667, 670, 668, 28, 669, 397, 317, 0, 412, 428, 324]
def wp_150 : Nat → List Nat := fun x => [0, 694, 697, 695, 28, 696, 397, 0, 0, 412, 428, 324]
def wp_151 : Nat → List Nat := fun x => [0, 709, 712, 710, 28, 711, 397, 0, 0, 412, 428, 324]
def wp_152 : Nat → List Nat := fun x => [0, 721, 724, 722, 28, 723, 397, 398, 317, 412, 428, 324]
def wp_153 : Nat → List Nat := fun x => [0, 742, 745, 743, 28, 744, 397, 398, 317, 412, 428, 324]
def wp_154 : Nat → List Nat := fun x => [0, 755, 758, 756, 28, 757, 397, 317, 0, 412, 428, 324]
def wp_155 : Nat → List Nat := fun x => [0, 781, 784, 782, 28, 783, 397, 0, 0, 412, 428, 324]
def wp_156 : Nat → List Nat := fun x => [0, 792, 795, 793, 28, 794, 397, 0, 0, 412, 428, 324]
def wp_157 : Nat → List Nat := fun x => [0, 809, 812, 810, 28, 811, 398, 317, 0, 412, 428, 324]
def wp_158 : Nat → List Nat := fun x => [0, 846, 849, 847, 28, 848, 398, 0, 0, 412, 428, 324]
def wp_159 : Nat → List Nat := fun x => bif Nat.ble 823 x then (bif Nat.ble 1255 x then (bif Nat.ble 1453 x then (bif Nat.ble 1527 x then (bif Nat.ble 1571 x then (bif Nat.ble 1583 x then (bif Nat.ble 1589 x then ([0, 1001, 1004, 1002, 40, 1003]) else ([0, 1151, 1154, 1152, 40, 1153])) else ([0, 843, 845, 844, 27])) else (bif Nat.ble 1533 x then ([0, 1001, 1004, 1002, 40, 1003]) else ([0, 1126, 1129, 1127, 40, 1128]))) else (bif Nat.ble 1477 x then (bif Nat.ble 1515 x then ([0, 806, 808, 807, 27]) else ([0, 1001, 1004, 1002, 40, 1003])) else (bif Nat.ble 1471 x then ([0, 1122, 1125, 1123, 40, 1124]) else ([0, 789, 791, 790, 27])))) else (bif Nat.ble 1335 x then (bif Nat.ble 1385 x then (bif Nat.ble 1403 x then (bif Nat.ble 1409 x then ([0, 1001, 1004, 1002, 40, 1003]) else ([0, 1118, 1121, 1119, 40, 1120])) else ([0, 778, 780, 779, 27])) else (bif Nat.ble 1341 x then ([0, 1001, 1004, 1002, 40, 1003]) else ([0, 1114, 1117, 1115, 40, 1116]))) else (bif Nat.ble 1285 x then (bif Nat.ble 1323 x then ([0, 752, 754, 753, 27]) else ([0, 1001, 1004, 1002, 40, 1003])) else (bif Nat.ble 1279 x then ([0, 1110, 1113, 1111, 40, 1112]) else ([0, 739, 741, 740, 27]))))) else (bif Nat.ble 1021 x then (bif Nat.ble 1107 x then (bif Nat.ble 1169 x then (bif Nat.ble 1199 x then (bif Nat.ble 1205 x then ([0, 1001, 1004, 1002, 40, 1003]) else ([0, 1106, 1109, 1107, 40, 1108])) else ([0, 718, 720, 719, 27])) else (bif Nat.ble 1113 x then ([0, 1001, 1004, 1002, 40, 1003]) else ([0, 1102, 1105, 1103, 40, 1104]))) else (bif Nat.ble 1045 x then (bif Nat.ble 1089 x then ([0, 706, 708, 707, 27]) else ([0, 1001, 1004, 1002, 40, 1003])) else (bif Nat.ble 1039 x then ([0, 1098, 1101, 1099, 40, 1100]) else ([0, 691, 693, 692, 27])))) else (bif Nat.ble 903 x then (bif Nat.ble 953 x then (bif Nat.ble 971 x then (bif Nat.ble 977 x then ([0, 1001, 1004, 1002, 40, 1003]) else ([0, 1094, 1097, 1095, 40, 1096])) else ([0, 664, 666, 665, 27])) else (bif Nat.ble 909 x then ([0, 1001, 1004, 1002, 40, 1003]) else ([0, 1086, 1089, 1087, 40, 1088]))) else (bif Nat.ble 841 x then (bif Nat.ble 885 x then ([0, 625, 627, 626, 27]) else ([0, 1001, 1004, 1002, 40, 1003])) else (bif Nat.ble 835 x then ([0, 1082, 1085, 1083, 40, 1084]) else ([0, 613, 615, 614, 27])))))) else (bif Nat.ble 414 x then (bif Nat.ble 625 x then (bif Nat.ble 711 x then (bif Nat.ble 761 x then (bif Nat.ble 779 x then (bif Nat.ble 785 x then ([0, 1001, 1004, 1002, 40, 1003]) else ([0, 1078, 1081, 1079, 40, 1080])) else ([0, 605, 607, 606, 27])) else (bif Nat.ble 717 x then ([0, 1001, 1004, 1002, 40, 1003]) else ([0, 1074, 1077, 1075, 40, 1076]))) else (bif Nat.ble 649 x then (bif Nat.ble 693 x then ([0, 597, 599, 598, 27]) else ([0, 1001, 1004, 1002, 40, 1003])) else (bif Nat.ble 643 x then ([0, 1070, 1073, 1071, 40, 1072]) else ([0, 582, 584, 583, 27])))) else (bif Nat.ble 500 x then (bif Nat.ble 557 x then (bif Nat.ble 575 x then (bif Nat.ble 581 x then ([0, 1001, 1004, 1002, 40, 1003]) else ([0, 1050, 1053, 1051, 40, 1052])) else ([0, 548, 550, 549, 27])) else (bif Nat.ble 506 x then ([0, 1001, 1004, 1002, 40, 1003]) else ([0, 1046, 1049, 1047, 40, 1048]))) else (bif Nat.ble 438 x then (bif Nat.ble 482 x then ([0, 533, 535, 534, 27]) else ([0, 1001, 1004, 1002, 40, 1003])) else (bif Nat.ble 432 x then ([0, 1035, 1038, 1036, 40, 1037]) else ([0, 507, 509, 508, 27]))))) else (bif Nat.ble 204 x then (bif Nat.ble 272 x then (bif Nat.ble 334 x then (bif Nat.ble 364 x then (bif Nat.ble 370 x then ([0, 1001, 1004, 1002, 40, 1003]) else ([0, 1024, 1027, 1025, 40, 1026])) else ([0, 472, 474, 473, 27])) else (bif Nat.ble 278 x then ([0, 1001, 1004, 1002, 40, 1003]) else ([0, 1020, 1023, 1021, 40, 1022]))) else (bif Nat.ble 234 x then (bif Nat.ble 266 x then ([0, 460, 462, 461, 27]) else ([0, 1001, 1004, 1002, 40, 1003])) else (bif Nat.ble 228 x then ([0, 1009, 1012, 1010, 40, 1011]) else ([0, 394, 396, 395, 27])))) else (bif Nat.ble 17 x then (bif Nat.ble 148 x then (bif Nat.ble 154 x then ([0, 1001, 1004, 1002, 40, 1003]) else ([0, 1005, 1008, 1006, 40, 1007])) else (bif Nat.ble 142 x then ([0, 314, 316, 315, 27]) else ([1155]))) else (bif Nat.ble 8 x then (bif Nat.ble 12 x then ([0, 868, 870, 869, 40]) else ([866, 867, 40])) else (bif Nat.ble 4 x then ([0, 50, 52, 51, 28]) else ([48, 49, 28]))))))
def wp_160 : Nat → List Nat := fun x => []
def wp_161 : Nat → List Nat := fun x => []
def strs : List (Nat × String) := [(46, "there are 12 places"), (61, "both places are the same"), (64, "minutes is out of range"), (69, "there are 24 ways"), (78, "there are 12 streets"), (89, "to is below from"), (95, "there are 4 spans, or one with a number in common"), (108, "the street bears the name"), (113, "100 names were given"), (139, "there are 6 cars"), (147, "there are 40 calls"), (164, "it is not in doubt, or the street is none of those in doubt"), (185, "no such car"), (197, "there are 6 lockers"), (202, "size is out of range"), (207, "there are 40 parcels"), (219, "the parcel is not held"), (227, "no such locker"), (229, "no such size"), (235, "the minute would be above 100000"), (259, "what is out of range"), (261, "no such place"), (263, "no such street"), (265, "no such call"), (267, "no such parcel"), (269, "no such name"), (271, "a house number is out of range"), (273, "a number of compartments is out of range")]
def thK (E : Nat) : Nat × Nat := bif Nat.beq E 0 then (183, 187) else bif Nat.beq E 1 then (59, 63) else (44, 48)
def bt (i : Int) (p : Nat) (a : Nat) : Bool := decide ((p : Int) + i = (a : Int))
def i32b (v : Int) : Bool := decide (-2147483648 ≤ v) && decide (v < 2147483648)
def gW (w : List Nat) (k : Nat) : Nat := w.getD k 0
def okF (q : mI) (j a b : Nat) (w : List Nat) : Bool := Nat.ble a 11 && Nat.ble (b + 1) (cM a) && (bif Nat.beq (gW w 0) 0 then isW (gW w 1) (.fieldLink q.1.cls j (cN a) (cT a b).2.1 (cT a b).2.2.1) else isN (gW w 1) (.fieldLinkNest q.1.cls j (cN a) (cT a b).2.1 (cT a b).2.2.1 "CompassRolls"))
def okY (m pc : Nat) (q q2 : mI) (j b : Nat) (w : List Nat) : Bool := decide (q2.1.cls ≠ "java/lang/invoke/MethodHandle") && decide (q2.1.cls ≠ "java/lang/invoke/VarHandle") && Nat.ble (q2.2.2.2.2.1 + 1) q.2.2.2.2.1 && Nat.ble (8 + (q2.2.2.1 + 11) + q2.2.2.2.2.2.1) q.2.2.2.2.2.1 && (bif Nat.beq (gW w 0) 0 then isW (gW w 1) (.methodLink q.1.cls j q2.1) else isN (gW w 1) (.methodLinkNest q.1.cls j q2.1 "CompassRolls")) && isW (gW w 2) (cwd q2) && isW (gW w 4) (.initialized q2.1.cls) && plainName q2.1.cls && (!(prp m pc) || q.2.2.2.2.2.2.isEmpty)
def okC (q : mI) (pc E h9 k9 t : Nat) (w : List Nat) : Bool := match q.2.2.2.2.2.2[t]? with
  | none => false
  | some x => decide (((tableOf q.2.2.2.2.2.2)[t]?).map (fun z => (covers z pc, z.handlerPc, z.catchType)) = some (true, x.2.2.1, x.2.2.2)) && decide (¬ x.2.2.2 = 0) && isW (gW w (6 + t)) (.classLink q.1.cls x.2.2.2 (exN E)) && isN (gW w (9 + E)) (.castable (exN E) (exN E)) && Nat.ble (k9 + 1) q.2.2.1 && (List.range t).all (fun j => match (tableOf q.2.2.2.2.2.2)[j]? with
      | none => false
      | some y => decide (¬ y.catchType = 0) && (List.range 3).any (fun E2 => decide (¬ E2 = E) && isW (gW w (6 + j)) (.classLink q.1.cls y.catchType (exN E2)))) &&
    ((decide (h9 = x.2.2.1 + 2) && decide (decode q.2.1 x.2.2.1 = .ok (.astore k9, 2))) || (decide (h9 = x.2.2.1 + 1) && (List.range 4).any (fun k => decide (k = k9) && decide (decode q.2.1 x.2.2.1 = .ok (.astore_n (Fin.ofNat 4 k), 1)))))
def okCat (m : Nat) (q : mI) (pc : Nat) (w : List Nat) : Bool := (List.range 3).all (fun E => match hct m pc E with
  | some (some (h9, k9)) => (List.range q.2.2.2.2.2.2.length).any (fun t => okC q pc E h9 k9 t w)
  | some none => false
  | none => true)
/-- what is checked of an instruction of a method, by its words' places -/
def okE (m : Nat) (q : mI) (pc : Nat) (e : ent) (w : List Nat) : Bool :=
  decide (decode q.2.1 pc = .ok (e.1, e.2.1)) && match e with
  | (i, len, a, b, d) => match i with
    | .iload j => Nat.beq len 2 && Nat.beq a j
    | .iload_n j => Nat.beq len 1 && Nat.beq a j.val
    | .aload j => Nat.beq len 2 && Nat.beq a j
    | .aload_n j => Nat.beq len 1 && Nat.beq a j.val
    | .istore j => Nat.beq len 2 && Nat.beq a j && Nat.ble (a + 1) q.2.2.1
    | .istore_n j => Nat.beq len 1 && Nat.beq a j.val && Nat.ble (a + 1) q.2.2.1
    | .astore j => Nat.beq len 2 && Nat.beq a j && Nat.ble (a + 1) q.2.2.1
    | .astore_n j => Nat.beq len 1 && Nat.beq a j.val && Nat.ble (a + 1) q.2.2.1
    | .iinc j v => Nat.beq len 3 && Nat.beq a j && Nat.ble (a + 1) q.2.2.1 && i32b v
    | .iconst v => Nat.beq len 1 && i32b v
    | .bipush v => Nat.beq len 2 && i32b v && decide ((Int8.ofInt v).toInt32 = Int32.ofInt v)
    | .sipush v => Nat.beq len 3 && i32b v && decide ((Int16.ofInt v).toInt32 = Int32.ofInt v)
    | .ldc j => Nat.beq len 2 && i32b (Int.ofNat a) && isW (gW w 0) (.constant q.1.cls j (Int32.ofInt (Int.ofNat a)))
    | .ldc_w j => Nat.beq len 3 && i32b (Int.ofNat a) && isW (gW w 0) (.constant q.1.cls j (Int32.ofInt (Int.ofNat a)))
    | .lconst j => Nat.beq len 1 && Nat.beq a j.val
    | .aconst_null => Nat.beq len 1
    | .iadd => Nat.beq len 1
    | .isub => Nat.beq len 1
    | .imul => Nat.beq len 1
    | .idiv => Nat.beq len 1
    | .irem => Nat.beq len 1
    | .iand => Nat.beq len 1
    | .i2l => Nat.beq len 1
    | .lcmp => Nat.beq len 1
    | .dup => Nat.beq len 1
    | .dup2 => Nat.beq len 1
    | .goto o => Nat.beq len 3 && bt o pc a
    | .if_icmp _ o => Nat.beq len 3 && bt o pc a
    | .ifCond _ o => Nat.beq len 3 && bt o pc a
    | .ifnull o => Nat.beq len 3 && bt o pc a
    | .ifnonnull o => Nat.beq len 3 && bt o pc a
    | .tableswitch dflt low hi offs => decide (0 ≤ (pc : Int) + dflt) && offs.toList.all (fun o => decide (0 ≤ (pc : Int) + o)) && decide (hi - low + 1 = (offs.toList.length : Int))
    | .lookupswitch dflt prs => decide (0 ≤ (pc : Int) + dflt) && prs.toList.all (fun o => decide (0 ≤ (pc : Int) + o.2)) && (prs.toList.zip (prs.toList.drop 1)).all (fun (a, next) => a.1 < next.1)
    | .getfield j => Nat.beq len 3 && okF q j a b w && (Nat.beq d 2 == frf a b)
    | .putfield j => Nat.beq len 3 && okF q j a b w && (Nat.beq d 2 == frf a b) && (bif (cT a b).2.2.2 then (Nat.beq (gW w 0) 0 && decide (q.1.name = "<init>") && decide ((cT a b).1 = q.1.cls)) else true) && (bif Nat.beq d 2 then (match parseFieldDescriptor (cT a b).2.2.1 with | some (.object _) => true | some (.array _) => true | _ => false) else bif Nat.beq d 1 then decide (parseFieldDescriptor (cT a b).2.2.1 = some .boolean) else decide (parseFieldDescriptor (cT a b).2.2.1 = some .int))
    | .iaload => Nat.beq len 1 && (!(Nat.beq d 1) || Nat.beq m 159)
    | .iastore => Nat.beq len 1
    | .baload => Nat.beq len 1
    | .bastore => Nat.beq len 1
    | .laload => Nat.beq len 1
    | .lastore => Nat.beq len 1
    | .aaload => Nat.beq len 1
    | .aastore => Nat.beq len 1
    | .arraylength => Nat.beq len 1 && (!(Nat.beq d 1) || Nat.beq m 159)
    | .newarray t => Nat.beq len 2 && decide (newarray.typeOf t = aty a) && Nat.ble 20 a && Nat.ble a 22 && isW (gW w 0) (.arrayClass (newarray.typeOf t))
    | .anewarray j => Nat.beq len 3 && Nat.ble 30 a && Nat.ble a 41 && isW (gW w 0) (.classLink q.1.cls j (cN (a - 30))) && isN (gW w 1) (.arrayOver (.object (cN (a - 30))))
    | .new j => bif Nat.beq d 9 then (Nat.beq len 3 && decide (q.1.cls = "CompassRolls") && q.2.2.2.2.2.2.isEmpty && Nat.ble b 2 && decide (thK b = (j, gW w 2)) && decide (decode q.2.1 (pc + 3) = .ok (.dup, 1)) && (strs.any (fun s => Nat.beq s.1 (gW w 1))) && Nat.ble 6 q.2.2.2.2.1 && Nat.ble 90 q.2.2.2.2.2.1 && (bif Nat.beq a 0 then (decide (decode q.2.1 (pc + 4) = .ok (.ldc (gW w 1), 2)) && decide (decode q.2.1 (pc + 6) = .ok (.invokespecial (gW w 2), 3)) && decide (decode q.2.1 (pc + 9) = .ok (.athrow, 1))) else (decide (decode q.2.1 (pc + 4) = .ok (.ldc_w (gW w 1), 3)) && decide (decode q.2.1 (pc + 7) = .ok (.invokespecial (gW w 2), 3)) && decide (decode q.2.1 (pc + 10) = .ok (.athrow, 1)))))
        else (Nat.beq len 3 && Nat.ble a 11 && isW (gW w 0) (.classLink q.1.cls j (cN a)) && isW (gW w 1) (.instantiable (cN a) (cM a)) && isW (gW w 2) (.initialized (cN a)))
    | .invokestatic j => bif Nat.beq d 3 then (Nat.beq len 3 && isW (gW w 1) (.methodLink q.1.cls j Lib.Math.max.name) && isW (gW w 2) (.code Lib.Math.max.name Lib.Math.max.code 2 (some .int)) && isW (gW w 3) (.static Lib.Math.max.name) && isW (gW w 4) (.initialized "java/lang/Math") && Nat.ble 1 q.2.2.2.2.1 && Nat.ble 22 q.2.2.2.2.2.1) else Nat.beq len 3 && (match MT[a]? with | none => false | some q2 => okY m pc q q2 j b w && isW (gW w 3) (.static q2.1) && decide ((parseMethodDescriptor q2.1.desc).map (fun d => d.parameters.length) = some b) && Nat.beq (b + pad a) q2.2.2.1 && (Nat.beq (gW w 0) 0 || (!(prp m pc) && !(wrp m pc) && q2.2.2.2.2.2.2.isEmpty)) && (q2.2.2.2.2.2.2.isEmpty || (!(prp m pc) && !(wrp m pc))) && !(wrp m pc))
    | .invokevirtual j => Nat.beq len 3 && Nat.ble 1 b && (match MT[a]? with | none => false | some q2 => okY m pc q q2 j b w && Nat.beq (gW w 0) 0 && q2.2.2.2.2.2.2.isEmpty && isW (gW w 3) (.instanceMethod q2.1) && isW (gW w 5) (.selects q2.1.cls q2.1 q2.1) && decide ((parseMethodDescriptor q2.1.desc).map (fun d => d.parameters.length) = some (b - 1)) && Nat.beq (b + pad a) q2.2.2.1 && Nat.ble (mcl a) 11 && decide (cN (mcl a) = q2.1.cls) && (!(wrp m pc) || okCat m q pc w))
    | .invokespecial j => bif Nat.beq d 2 then (Nat.beq len 3 && isW (gW w 0) (.methodLink q.1.cls j objectInit) && isW (gW w 1) (.instanceMethod objectInit) && isW (gW w 2) (.code objectInit ⟨#[0xb1]⟩ 1 none) && Nat.ble 1 q.2.2.2.2.1 && Nat.ble 22 q.2.2.2.2.2.1)
        else (Nat.beq len 3 && Nat.ble 1 b && (match MT[a]? with | none => false | some q2 => okY m pc q q2 j b w && q2.2.2.2.2.2.2.isEmpty && isW (gW w 3) (.instanceMethod q2.1) && decide (q2.1.name = "<init>") && decide (q2.2.2.2.1 = none) && decide ((parseMethodDescriptor q2.1.desc).map (fun d => d.parameters.length) = some (b - 1)) && Nat.beq (b + pad a) q2.2.2.1 && Nat.ble (mcl a) 11 && decide (cN (mcl a) = q2.1.cls) && !(prp m pc) && !(wrp m pc)))
    | .ireturn => Nat.beq len 1 && (bif Nat.beq a 1 then decide (q.2.2.2.1 = some .boolean) else decide (q.2.2.2.1 = some .int))
    | .return_ => Nat.beq len 1 && decide (q.2.2.2.1 = none)
    | _ => false
def okM (m : Nat) (w : Nat → List Nat) : Bool := match MT[m]? with
  | none => false
  | some q => (List.range (mln m)).all (fun pc => match trs m pc with | none => true | some e => okE m q pc e (w pc))
