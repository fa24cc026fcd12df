/-! ===== BEGIN printed: names, fields, word lists, decode rows ===== -/
def RX0 : String := "RedcrossGantry$Bookings"
def TX0 : u_T := fun k => match k with
  | 0 => ("RedcrossGantry$Bookings", "lanes", "[I", true)
  | 1 => ("RedcrossGantry$Bookings", "froms", "[I", true)
  | 2 => ("RedcrossGantry$Bookings", "tos", "[I", true)
  | 3 => ("RedcrossGantry$Bookings", "begins", "[I", true)
  | 4 => ("RedcrossGantry$Bookings", "ends", "[I", true)
  | _ => ("RedcrossGantry$Bookings", "count", "I", false)
def tyX0 : Nat → FieldType := fun k => match k with
  | 0 => .array .int
  | 1 => .array .int
  | 2 => .array .int
  | 3 => .array .int
  | 4 => .array .int
  | _ => .int
theorem nmX0 : ∀ a, a < 6 → ∀ b, b < 6 → a ≠ b → (TX0 a).2.1 ≠ (TX0 b).2.1 := by decide +kernel
theorem tyX0_ok : ∀ k, k < 6 → parseFieldDescriptor (TX0 k).2.2.1 = some (tyX0 k) := by decide +kernel
abbrev cX0_init : ByteArray := prog_2_method_1_code
def yX0_init : MethodName := ⟨RX0, "<init>", "()V"⟩
abbrev cX0_isRunning : ByteArray := prog_2_method_2_code
def yX0_isRunning : MethodName := ⟨RX0, "isRunning", "(II)Z"⟩
abbrev cX0_writeNext : ByteArray := prog_2_method_3_code
def yX0_writeNext : MethodName := ⟨RX0, "writeNext", "(IIIII)V"⟩
abbrev cX0_nextTakesLastLane : ByteArray := prog_2_method_4_code
def yX0_nextTakesLastLane : MethodName := ⟨RX0, "nextTakesLastLane", "()Z"⟩
abbrev cX0_tellCrosses : ByteArray := prog_2_method_5_code
def yX0_tellCrosses : MethodName := ⟨RX0, "tellCrosses", "([II)V"⟩
abbrev cX0_tellCrossesOf : ByteArray := prog_2_method_6_code
def yX0_tellCrossesOf : MethodName := ⟨RX0, "tellCrossesOf", "(I[I)V"⟩
abbrev cX0_areInThreeLanes : ByteArray := prog_2_method_7_code
def yX0_areInThreeLanes : MethodName := ⟨RX0, "areInThreeLanes", "(III)Z"⟩
abbrev cX0_doMeet : ByteArray := prog_2_method_8_code
def yX0_doMeet : MethodName := ⟨RX0, "doMeet", "(III)Z"⟩
def RX1 : String := "RedcrossGantry$Detectors"
def TX1 : u_T := fun k => match k with
  | 0 => ("RedcrossGantry$Detectors", "is", "[I", true)
  | _ => ("RedcrossGantry$Detectors", "stuckAt", "[I", true)
def tyX1 : Nat → FieldType := fun k => match k with
  | 0 => .array .int
  | _ => .array .int
theorem nmX1 : ∀ a, a < 2 → ∀ b, b < 2 → a ≠ b → (TX1 a).2.1 ≠ (TX1 b).2.1 := by decide +kernel
theorem tyX1_ok : ∀ k, k < 2 → parseFieldDescriptor (TX1 k).2.2.1 = some (tyX1 k) := by decide +kernel
abbrev cX1_init : ByteArray := prog_3_method_1_code
def yX1_init : MethodName := ⟨RX1, "<init>", "()V"⟩
abbrev cX1_guessAt : ByteArray := prog_3_method_2_code
def yX1_guessAt : MethodName := ⟨RX1, "guessAt", "(ILRedcrossGantry$Traffic;)I"⟩
abbrev cX1_beliefAt : ByteArray := prog_3_method_3_code
def yX1_beliefAt : MethodName := ⟨RX1, "beliefAt", "(ILRedcrossGantry$Traffic;)I"⟩
def RX2 : String := "RedcrossGantry$Incidents"
def TX2 : u_T := fun k => match k with
  | 0 => ("RedcrossGantry$Incidents", "places", "[I", true)
  | 1 => ("RedcrossGantry$Incidents", "how", "[I", true)
  | 2 => ("RedcrossGantry$Incidents", "patrols", "[I", true)
  | _ => ("RedcrossGantry$Incidents", "count", "I", false)
def tyX2 : Nat → FieldType := fun k => match k with
  | 0 => .array .int
  | 1 => .array .int
  | 2 => .array .int
  | _ => .int
theorem nmX2 : ∀ a, a < 4 → ∀ b, b < 4 → a ≠ b → (TX2 a).2.1 ≠ (TX2 b).2.1 := by decide +kernel
theorem tyX2_ok : ∀ k, k < 4 → parseFieldDescriptor (TX2 k).2.2.1 = some (tyX2 k) := by decide +kernel
abbrev cX2_init : ByteArray := prog_4_method_1_code
def yX2_init : MethodName := ⟨RX2, "<init>", "()V"⟩
abbrev cX2_has : ByteArray := prog_4_method_2_code
def yX2_has : MethodName := ⟨RX2, "has", "(I)Z"⟩
abbrev cX2_sectionOf : ByteArray := prog_4_method_3_code
def yX2_sectionOf : MethodName := ⟨RX2, "sectionOf", "(I)I"⟩
abbrev cX2_canAdd : ByteArray := prog_4_method_4_code
def yX2_canAdd : MethodName := ⟨RX2, "canAdd", "(I)Z"⟩
abbrev cX2_add : ByteArray := prog_4_method_5_code
def yX2_add : MethodName := ⟨RX2, "add", "(I)I"⟩
abbrev cX2_tellCrosses : ByteArray := prog_4_method_6_code
def yX2_tellCrosses : MethodName := ⟨RX2, "tellCrosses", "([I)V"⟩
def RX3 : String := "RedcrossGantry$LaneSigns"
def TX3 : u_T := fun k => match k with
  | 0 => ("RedcrossGantry$LaneSigns", "orders", "[I", true)
  | 1 => ("RedcrossGantry$LaneSigns", "told", "[I", true)
  | _ => ("RedcrossGantry$LaneSigns", "shown", "[I", true)
def tyX3 : Nat → FieldType := fun k => match k with
  | 0 => .array .int
  | 1 => .array .int
  | _ => .array .int
theorem nmX3 : ∀ a, a < 3 → ∀ b, b < 3 → a ≠ b → (TX3 a).2.1 ≠ (TX3 b).2.1 := by decide +kernel
theorem tyX3_ok : ∀ k, k < 3 → parseFieldDescriptor (TX3 k).2.2.1 = some (tyX3 k) := by decide +kernel
abbrev cX3_init : ByteArray := prog_5_method_1_code
def yX3_init : MethodName := ⟨RX3, "<init>", "()V"⟩
abbrev cX3_setAnew : ByteArray := prog_5_method_2_code
def yX3_setAnew : MethodName := ⟨RX3, "setAnew", "(ILRedcrossGantry$Shoulder;LRedcrossGantry$Incidents;LRedcrossGantry$Bookings;)V"⟩
abbrev cX3_areLawful : ByteArray := prog_5_method_3_code
def yX3_areLawful : MethodName := ⟨RX3, "areLawful", "()Z"⟩
abbrev cX3_isAheadOfCross : ByteArray := prog_5_method_4_code
def yX3_isAheadOfCross : MethodName := ⟨RX3, "isAheadOfCross", "(I[I)Z"⟩
def RX4 : String := "RedcrossGantry$Patrols"
def TX4 : u_T := fun k => match k with
  | 0 => ("RedcrossGantry$Patrols", "sections", "[I", true)
  | 1 => ("RedcrossGantry$Patrols", "incidents", "[I", true)
  | _ => ("RedcrossGantry$Patrols", "minutesLeft", "[I", true)
def tyX4 : Nat → FieldType := fun k => match k with
  | 0 => .array .int
  | 1 => .array .int
  | _ => .array .int
theorem nmX4 : ∀ a, a < 3 → ∀ b, b < 3 → a ≠ b → (TX4 a).2.1 ≠ (TX4 b).2.1 := by decide +kernel
theorem tyX4_ok : ∀ k, k < 3 → parseFieldDescriptor (TX4 k).2.2.1 = some (tyX4 k) := by decide +kernel
abbrev cX4_init : ByteArray := prog_6_method_1_code
def yX4_init : MethodName := ⟨RX4, "<init>", "()V"⟩
def RX5 : String := "RedcrossGantry$Proofs"
def TX5 : u_T := fun k => match k with
  | _ => ("RedcrossGantry$Proofs", "kept", "[I", true)
def tyX5 : Nat → FieldType := fun k => match k with
  | _ => .array .int
theorem nmX5 : ∀ a, a < 1 → ∀ b, b < 1 → a ≠ b → (TX5 a).2.1 ≠ (TX5 b).2.1 := by decide +kernel
theorem tyX5_ok : ∀ k, k < 1 → parseFieldDescriptor (TX5 k).2.2.1 = some (tyX5 k) := by decide +kernel
abbrev cX5_init : ByteArray := prog_7_method_1_code
def yX5_init : MethodName := ⟨RX5, "<init>", "()V"⟩
abbrev cX5_isKept : ByteArray := prog_7_method_2_code
def yX5_isKept : MethodName := ⟨RX5, "isKept", "(II)Z"⟩
abbrev cX5_keep : ByteArray := prog_7_method_3_code
def yX5_keep : MethodName := ⟨RX5, "keep", "(I[I[I)V"⟩
abbrev cX5_speedSign : ByteArray := prog_7_method_4_code
def yX5_speedSign : MethodName := ⟨RX5, "speedSign", "(II)I"⟩
abbrev cX5_laneSign : ByteArray := prog_7_method_5_code
def yX5_laneSign : MethodName := ⟨RX5, "laneSign", "(III)I"⟩
abbrev cX5_slotOf : ByteArray := prog_7_method_6_code
def yX5_slotOf : MethodName := ⟨RX5, "slotOf", "(II)I"⟩
def RX6 : String := "RedcrossGantry$Shoulder"
def TX6 : u_T := fun k => match k with
  | 0 => ("RedcrossGantry$Shoulder", "open", "[Z", true)
  | _ => ("RedcrossGantry$Shoulder", "foundClearAt", "[I", true)
def tyX6 : Nat → FieldType := fun k => match k with
  | 0 => .array .boolean
  | _ => .array .int
theorem nmX6 : ∀ a, a < 2 → ∀ b, b < 2 → a ≠ b → (TX6 a).2.1 ≠ (TX6 b).2.1 := by decide +kernel
theorem tyX6_ok : ∀ k, k < 2 → parseFieldDescriptor (TX6 k).2.2.1 = some (tyX6 k) := by decide +kernel
abbrev cX6_init : ByteArray := prog_8_method_1_code
def yX6_init : MethodName := ⟨RX6, "<init>", "()V"⟩
abbrev cX6_isOpenAt : ByteArray := prog_8_method_2_code
def yX6_isOpenAt : MethodName := ⟨RX6, "isOpenAt", "(I)Z"⟩
abbrev cX6_canOpen : ByteArray := prog_8_method_3_code
def yX6_canOpen : MethodName := ⟨RX6, "canOpen", "(III)Z"⟩
abbrev cX6_openAll : ByteArray := prog_8_method_4_code
def yX6_openAll : MethodName := ⟨RX6, "openAll", "(II)I"⟩
abbrev cX6_shutAll : ByteArray := prog_8_method_5_code
def yX6_shutAll : MethodName := ⟨RX6, "shutAll", "()I"⟩
abbrev cX6_tellCrosses : ByteArray := prog_8_method_6_code
def yX6_tellCrosses : MethodName := ⟨RX6, "tellCrosses", "([I)V"⟩
def RX7 : String := "RedcrossGantry$SpeedSigns"
def TX7 : u_T := fun k => match k with
  | 0 => ("RedcrossGantry$SpeedSigns", "limits", "[I", true)
  | 1 => ("RedcrossGantry$SpeedSigns", "shown", "[I", true)
  | 2 => ("RedcrossGantry$SpeedSigns", "loweredAt", "[I", true)
  | _ => ("RedcrossGantry$SpeedSigns", "weather", "I", false)
def tyX7 : Nat → FieldType := fun k => match k with
  | 0 => .array .int
  | 1 => .array .int
  | 2 => .array .int
  | _ => .int
theorem nmX7 : ∀ a, a < 4 → ∀ b, b < 4 → a ≠ b → (TX7 a).2.1 ≠ (TX7 b).2.1 := by decide +kernel
theorem tyX7_ok : ∀ k, k < 4 → parseFieldDescriptor (TX7 k).2.2.1 = some (tyX7 k) := by decide +kernel
abbrev cX7_init : ByteArray := prog_9_method_1_code
def yX7_init : MethodName := ⟨RX7, "<init>", "()V"⟩
abbrev cX7_setAnew : ByteArray := prog_9_method_2_code
def yX7_setAnew : MethodName := ⟨RX7, "setAnew", "(ILRedcrossGantry$Detectors;LRedcrossGantry$Traffic;)V"⟩
abbrev cX7_areLawful : ByteArray := prog_9_method_3_code
def yX7_areLawful : MethodName := ⟨RX7, "areLawful", "()Z"⟩
abbrev cX7_wantAt : ByteArray := prog_9_method_4_code
def yX7_wantAt : MethodName := ⟨RX7, "wantAt", "(II)I"⟩
abbrev cX7_wantBy : ByteArray := prog_9_method_5_code
def yX7_wantBy : MethodName := ⟨RX7, "wantBy", "(I)I"⟩
abbrev cX7_staysBelow : ByteArray := prog_9_method_6_code
def yX7_staysBelow : MethodName := ⟨RX7, "staysBelow", "(III)Z"⟩
def RX8 : String := "RedcrossGantry$Traffic"
def TX8 : u_T := fun k => match k with
  | 0 => ("RedcrossGantry$Traffic", "held", "[I", true)
  | 1 => ("RedcrossGantry$Traffic", "stopped", "[Z", true)
  | 2 => ("RedcrossGantry$Traffic", "broken", "[Z", true)
  | 3 => ("RedcrossGantry$Traffic", "demand", "I", false)
  | 4 => ("RedcrossGantry$Traffic", "came", "I", false)
  | 5 => ("RedcrossGantry$Traffic", "waiting", "I", false)
  | _ => ("RedcrossGantry$Traffic", "gone", "I", false)
def tyX8 : Nat → FieldType := fun k => match k with
  | 0 => .array .int
  | 1 => .array .boolean
  | 2 => .array .boolean
  | 3 => .int
  | 4 => .int
  | 5 => .int
  | _ => .int
theorem nmX8 : ∀ a, a < 7 → ∀ b, b < 7 → a ≠ b → (TX8 a).2.1 ≠ (TX8 b).2.1 := by decide +kernel
theorem tyX8_ok : ∀ k, k < 7 → parseFieldDescriptor (TX8 k).2.2.1 = some (tyX8 k) := by decide +kernel
abbrev cX8_init : ByteArray := prog_10_method_1_code
def yX8_init : MethodName := ⟨RX8, "<init>", "()V"⟩
abbrev cX8_mostIn : ByteArray := prog_10_method_2_code
def yX8_mostIn : MethodName := ⟨RX8, "mostIn", "(I)I"⟩
abbrev cX8_speedAt : ByteArray := prog_10_method_3_code
def yX8_speedAt : MethodName := ⟨RX8, "speedAt", "(I)I"⟩
abbrev cX8_countOnRoad : ByteArray := prog_10_method_4_code
def yX8_countOnRoad : MethodName := ⟨RX8, "countOnRoad", "()I"⟩
abbrev cX8_isStoppedAt : ByteArray := prog_10_method_5_code
def yX8_isStoppedAt : MethodName := ⟨RX8, "isStoppedAt", "(I)Z"⟩
abbrev cX8_isClear : ByteArray := prog_10_method_6_code
def yX8_isClear : MethodName := ⟨RX8, "isClear", "(I)Z"⟩
abbrev cX8_clearStopped : ByteArray := prog_10_method_7_code
def yX8_clearStopped : MethodName := ⟨RX8, "clearStopped", "(I)V"⟩
abbrev cX8_goOn : ByteArray := prog_10_method_8_code
def yX8_goOn : MethodName := ⟨RX8, "goOn", "([I)V"⟩
abbrev cX8_arrive : ByteArray := prog_10_method_9_code
def yX8_arrive : MethodName := ⟨RX8, "arrive", "([I)V"⟩
abbrev cX8_judgeBroken : ByteArray := prog_10_method_10_code
def yX8_judgeBroken : MethodName := ⟨RX8, "judgeBroken", "()V"⟩
abbrev cX8_goOnFrom : ByteArray := prog_10_method_11_code
def yX8_goOnFrom : MethodName := ⟨RX8, "goOnFrom", "(II[I)V"⟩
abbrev cX8_mostThatGoOn : ByteArray := prog_10_method_12_code
def yX8_mostThatGoOn : MethodName := ⟨RX8, "mostThatGoOn", "(II)I"⟩
abbrev cX8_placeToGoTo : ByteArray := prog_10_method_13_code
def yX8_placeToGoTo : MethodName := ⟨RX8, "placeToGoTo", "(II[I)I"⟩
abbrev cX8_laneToEnter : ByteArray := prog_10_method_14_code
def yX8_laneToEnter : MethodName := ⟨RX8, "laneToEnter", "([I)I"⟩
abbrev cX8_letsIn : ByteArray := prog_10_method_15_code
def yX8_letsIn : MethodName := ⟨RX8, "letsIn", "(I[I)Z"⟩
abbrev cX8_heldAt : ByteArray := prog_10_method_16_code
def yX8_heldAt : MethodName := ⟨RX8, "heldAt", "(I)I"⟩
def RX9 : String := "RedcrossGantry"
def TX9 : u_T := fun k => match k with
  | 0 => ("RedcrossGantry", "minute", "I", false)
  | 1 => ("RedcrossGantry", "traffic", "LRedcrossGantry$Traffic;", true)
  | 2 => ("RedcrossGantry", "detectors", "LRedcrossGantry$Detectors;", true)
  | 3 => ("RedcrossGantry", "speedSigns", "LRedcrossGantry$SpeedSigns;", true)
  | 4 => ("RedcrossGantry", "laneSigns", "LRedcrossGantry$LaneSigns;", true)
  | 5 => ("RedcrossGantry", "shoulder", "LRedcrossGantry$Shoulder;", true)
  | 6 => ("RedcrossGantry", "incidents", "LRedcrossGantry$Incidents;", true)
  | 7 => ("RedcrossGantry", "patrols", "LRedcrossGantry$Patrols;", true)
  | 8 => ("RedcrossGantry", "bookings", "LRedcrossGantry$Bookings;", true)
  | _ => ("RedcrossGantry", "proofs", "LRedcrossGantry$Proofs;", true)
def tyX9 : Nat → FieldType := fun k => match k with
  | 0 => .int
  | 1 => .object "RedcrossGantry$Traffic"
  | 2 => .object "RedcrossGantry$Detectors"
  | 3 => .object "RedcrossGantry$SpeedSigns"
  | 4 => .object "RedcrossGantry$LaneSigns"
  | 5 => .object "RedcrossGantry$Shoulder"
  | 6 => .object "RedcrossGantry$Incidents"
  | 7 => .object "RedcrossGantry$Patrols"
  | 8 => .object "RedcrossGantry$Bookings"
  | _ => .object "RedcrossGantry$Proofs"
theorem nmX9 : ∀ a, a < 10 → ∀ b, b < 10 → a ≠ b → (TX9 a).2.1 ≠ (TX9 b).2.1 := by decide +kernel
theorem tyX9_ok : ∀ k, k < 10 → parseFieldDescriptor (TX9 k).2.2.1 = some (tyX9 k) := by decide +kernel
abbrev cX9_init : ByteArray := prog_1_method_1_code
def yX9_init : MethodName := ⟨RX9, "<init>", "()V"⟩
abbrev cX9_demand : ByteArray := prog_1_method_2_code
def yX9_demand : MethodName := ⟨RX9, "demand", "(I)I"⟩
abbrev cX9_pass : ByteArray := prog_1_method_3_code
def yX9_pass : MethodName := ⟨RX9, "pass", "(I)I"⟩
abbrev cX9_holds : ByteArray := prog_1_method_4_code
def yX9_holds : MethodName := ⟨RX9, "holds", "(II)I"⟩
abbrev cX9_vehicles : ByteArray := prog_1_method_5_code
def yX9_vehicles : MethodName := ⟨RX9, "vehicles", "(I)I"⟩
abbrev cX9_section : ByteArray := prog_1_method_6_code
def yX9_section : MethodName := ⟨RX9, "section", "(II)I"⟩
abbrev cX9_detector : ByteArray := prog_1_method_7_code
def yX9_detector : MethodName := ⟨RX9, "detector", "(III)I"⟩
abbrev cX9_weather : ByteArray := prog_1_method_8_code
def yX9_weather : MethodName := ⟨RX9, "weather", "(I)I"⟩
abbrev cX9_limit : ByteArray := prog_1_method_9_code
def yX9_limit : MethodName := ⟨RX9, "limit", "(II)I"⟩
abbrev cX9_order : ByteArray := prog_1_method_10_code
def yX9_order : MethodName := ⟨RX9, "order", "(III)I"⟩
abbrev cX9_sign : ByteArray := prog_1_method_11_code
def yX9_sign : MethodName := ⟨RX9, "sign", "(II)I"⟩
abbrev cX9_isLawful : ByteArray := prog_1_method_12_code
def yX9_isLawful : MethodName := ⟨RX9, "isLawful", "()Z"⟩
abbrev cX9_look : ByteArray := prog_1_method_13_code
def yX9_look : MethodName := ⟨RX9, "look", "(I)Z"⟩
abbrev cX9_openShoulder : ByteArray := prog_1_method_14_code
def yX9_openShoulder : MethodName := ⟨RX9, "openShoulder", "(II)I"⟩
abbrev cX9_shutShoulder : ByteArray := prog_1_method_15_code
def yX9_shutShoulder : MethodName := ⟨RX9, "shutShoulder", "()I"⟩
abbrev cX9_stop : ByteArray := prog_1_method_16_code
def yX9_stop : MethodName := ⟨RX9, "stop", "(II)V"⟩
abbrev cX9_report : ByteArray := prog_1_method_17_code
def yX9_report : MethodName := ⟨RX9, "report", "(II)I"⟩
abbrev cX9_confirm : ByteArray := prog_1_method_18_code
def yX9_confirm : MethodName := ⟨RX9, "confirm", "(I)I"⟩
abbrev cX9_incident : ByteArray := prog_1_method_19_code
def yX9_incident : MethodName := ⟨RX9, "incident", "(II)I"⟩
abbrev cX9_pattern : ByteArray := prog_1_method_20_code
def yX9_pattern : MethodName := ⟨RX9, "pattern", "()I"⟩
abbrev cX9_way : ByteArray := prog_1_method_21_code
def yX9_way : MethodName := ⟨RX9, "way", "(II)I"⟩
abbrev cX9_send : ByteArray := prog_1_method_22_code
def yX9_send : MethodName := ⟨RX9, "send", "(II)I"⟩
abbrev cX9_patrol : ByteArray := prog_1_method_23_code
def yX9_patrol : MethodName := ⟨RX9, "patrol", "(II)I"⟩
abbrev cX9_works : ByteArray := prog_1_method_24_code
def yX9_works : MethodName := ⟨RX9, "works", "(IIIII)I"⟩
abbrev cX9_isOn : ByteArray := prog_1_method_25_code
def yX9_isOn : MethodName := ⟨RX9, "isOn", "(I)Z"⟩
abbrev cX9_proof : ByteArray := prog_1_method_26_code
def yX9_proof : MethodName := ⟨RX9, "proof", "(III)I"⟩
abbrev cX9_isFined : ByteArray := prog_1_method_27_code
def yX9_isFined : MethodName := ⟨RX9, "isFined", "(III)Z"⟩
abbrev cX9_isWithin : ByteArray := prog_1_method_28_code
def yX9_isWithin : MethodName := ⟨RX9, "isWithin", "(III)Z"⟩
abbrev cX9_isSpeedSign : ByteArray := prog_1_method_29_code
def yX9_isSpeedSign : MethodName := ⟨RX9, "isSpeedSign", "(I)Z"⟩
abbrev cX9_placeOf : ByteArray := prog_1_method_30_code
def yX9_placeOf : MethodName := ⟨RX9, "placeOf", "(II)I"⟩
abbrev cX9_needIndex : ByteArray := prog_1_method_31_code
def yX9_needIndex : MethodName := ⟨RX9, "needIndex", "(Z)V"⟩
abbrev cX9_needArgument : ByteArray := prog_1_method_32_code
def yX9_needArgument : MethodName := ⟨RX9, "needArgument", "(Z)V"⟩
abbrev cX9_needState : ByteArray := prog_1_method_33_code
def yX9_needState : MethodName := ⟨RX9, "needState", "(Z)V"⟩
abbrev cX9_needSection : ByteArray := prog_1_method_34_code
def yX9_needSection : MethodName := ⟨RX9, "needSection", "(I)V"⟩
abbrev cX9_needPlace : ByteArray := prog_1_method_35_code
def yX9_needPlace : MethodName := ⟨RX9, "needPlace", "(II)V"⟩
abbrev cX9_needPatrol : ByteArray := prog_1_method_36_code
def yX9_needPatrol : MethodName := ⟨RX9, "needPatrol", "(I)V"⟩
abbrev cX9_comeToNextMinute : ByteArray := prog_1_method_37_code
def yX9_comeToNextMinute : MethodName := ⟨RX9, "comeToNextMinute", "()V"⟩
abbrev cX9_setLaneSigns : ByteArray := prog_1_method_38_code
def yX9_setLaneSigns : MethodName := ⟨RX9, "setLaneSigns", "()V"⟩
abbrev cX9_movePatrols : ByteArray := prog_1_method_39_code
def yX9_movePatrols : MethodName := ⟨RX9, "movePatrols", "()V"⟩
abbrev cX9_endWorkOf : ByteArray := prog_1_method_40_code
def yX9_endWorkOf : MethodName := ⟨RX9, "endWorkOf", "(I)V"⟩
abbrev cX9_wayBetween : ByteArray := prog_1_method_41_code
def yX9_wayBetween : MethodName := ⟨RX9, "wayBetween", "(II)I"⟩
abbrev cX9_minutesThrough : ByteArray := prog_1_method_42_code
def yX9_minutesThrough : MethodName := ⟨RX9, "minutesThrough", "(I)I"⟩
def RX10 : String := "RedcrossGantryModel"
def TX10 : u_T := fun k => match k with
  | _ => ("", "", "", false)
def tyX10 : Nat → FieldType := fun k => match k with
  | _ => .int
theorem nmX10 : ∀ a, a < 0 → ∀ b, b < 0 → a ≠ b → (TX10 a).2.1 ≠ (TX10 b).2.1 := by decide +kernel
theorem tyX10_ok : ∀ k, k < 0 → parseFieldDescriptor (TX10 k).2.2.1 = some (tyX10 k) := by decide +kernel
def RJ9 : String := "java/lang/Math"
def TJ9 : u_T := fun k => match k with
  | _ => ("", "", "", false)
def tyJ9 : Nat → FieldType := fun k => match k with
  | _ => .int
theorem nmJ9 : ∀ a, a < 0 → ∀ b, b < 0 → a ≠ b → (TJ9 a).2.1 ≠ (TJ9 b).2.1 := by decide +kernel
theorem tyJ9_ok : ∀ k, k < 0 → parseFieldDescriptor (TJ9 k).2.2.1 = some (tyJ9 k) := by decide +kernel
abbrev cJ9_floorMod_7cf53 : ByteArray := prog_17_method_50_code
def yJ9_floorMod_7cf53 : MethodName := ⟨RJ9, "floorMod", "(II)I"⟩
abbrev cJ9_abs_0f7a4 : ByteArray := prog_17_method_59_code
def yJ9_abs_0f7a4 : MethodName := ⟨RJ9, "abs", "(I)I"⟩
abbrev cJ9_max_7cf53 : ByteArray := prog_17_method_65_code
def yJ9_max_7cf53 : MethodName := ⟨RJ9, "max", "(II)I"⟩
abbrev cJ9_min_7cf53 : ByteArray := prog_17_method_69_code
def yJ9_min_7cf53 : MethodName := ⟨RJ9, "min", "(II)I"⟩
def RJ0 : String := "java/lang/String"
def TJ0 : u_T := fun k => match k with
  | _ => ("", "", "", false)
def tyJ0 : Nat → FieldType := fun k => match k with
  | _ => .int
theorem nmJ0 : ∀ a, a < 0 → ∀ b, b < 0 → a ≠ b → (TJ0 a).2.1 ≠ (TJ0 b).2.1 := by decide +kernel
theorem tyJ0_ok : ∀ k, k < 0 → parseFieldDescriptor (TJ0 k).2.2.1 = some (tyJ0 k) := by decide +kernel
def RL : String := "RedcrossGantryLaw"
abbrev cL_draw : ByteArray := method_2_code
def yL_draw : MethodName := ⟨RL, "draw", "([II)I"⟩
abbrev cL_acts : ByteArray := method_3_code
def yL_acts : MethodName := ⟨RL, "acts", "(LRedcrossGantry;IIII)I"⟩
abbrev cL_stop : ByteArray := method_4_code
def yL_stop : MethodName := ⟨RL, "stop", "(LRedcrossGantry;II)Z"⟩
abbrev cL_works : ByteArray := method_5_code
def yL_works : MethodName := ⟨RL, "works", "(LRedcrossGantry;IIIII)I"⟩
abbrev cL_step : ByteArray := method_6_code
def yL_step : MethodName := ⟨RL, "step", "(LRedcrossGantry;[IIII)Z"⟩
abbrev cL_bits : ByteArray := method_7_code
def yL_bits : MethodName := ⟨RL, "bits", "(I)I"⟩
abbrev cL_shuts : ByteArray := method_8_code
def yL_shuts : MethodName := ⟨RL, "shuts", "([I)Z"⟩
abbrev cL_isOrdered : ByteArray := method_9_code
def yL_isOrdered : MethodName := ⟨RL, "isOrdered", "(LRedcrossGantry;III)Z"⟩
abbrev cL_isReported : ByteArray := method_10_code
def yL_isReported : MethodName := ⟨RL, "isReported", "(LRedcrossGantry;[III)Z"⟩
abbrev cL_isLookedAt : ByteArray := method_11_code
def yL_isLookedAt : MethodName := ⟨RL, "isLookedAt", "(LRedcrossGantry;III)Z"⟩
abbrev cL_areBooked : ByteArray := method_12_code
def yL_areBooked : MethodName := ⟨RL, "areBooked", "(LRedcrossGantry;[IIIIII)Z"⟩
abbrev cL_isPattern : ByteArray := method_13_code
def yL_isPattern : MethodName := ⟨RL, "isPattern", "(LRedcrossGantry;)Z"⟩
abbrev cL_goes : ByteArray := method_14_code
def yL_goes : MethodName := ⟨RL, "goes", "(LRedcrossGantry;[II)Z"⟩
abbrev cL_isShown : ByteArray := method_15_code
def yL_isShown : MethodName := ⟨RL, "isShown", "(LRedcrossGantry;I)Z"⟩
abbrev cL_isRoad : ByteArray := method_16_code
def yL_isRoad : MethodName := ⟨RL, "isRoad", "(LRedcrossGantry;)Z"⟩
abbrev cL_law : ByteArray := code
def yL_law : MethodName := ⟨RL, "law", "([I)Z"⟩
abbrev vwCl : List vw_C := [(RX0, TX0, 6), (RX1, TX1, 2), (RX2, TX2, 4), (RX3, TX3, 3), (RX4, TX4, 3), (RX5, TX5, 1), (RX6, TX6, 2), (RX7, TX7, 4), (RX8, TX8, 7), (RX9, TX9, 10)]
theorem at_ioobe : ∀ w ∈ (vx_atS RX9 262 "java/lang/IndexOutOfBoundsException" ["java/lang/RuntimeException", "java/lang/Exception"]).filter goodWord, w ∈ Wall := by
  intro w hw
  have h1 : ∀ w ∈ (vx_atS RX9 262 "java/lang/IndexOutOfBoundsException" ["java/lang/RuntimeException", "java/lang/Exception"]).filter goodWord, w ∈ lw_tbl := by decide +kernel
  exact List.mem_filter.mpr ⟨h1 w hw, (List.mem_filter.mp hw).2⟩
theorem at_iae : ∀ w ∈ (vx_atS RX9 269 "java/lang/IllegalArgumentException" ["java/lang/RuntimeException", "java/lang/Exception"]).filter goodWord, w ∈ Wall := by
  intro w hw
  have h1 : ∀ w ∈ (vx_atS RX9 269 "java/lang/IllegalArgumentException" ["java/lang/RuntimeException", "java/lang/Exception"]).filter goodWord, w ∈ lw_tbl := by decide +kernel
  exact List.mem_filter.mpr ⟨h1 w hw, (List.mem_filter.mp hw).2⟩
theorem at_ise : ∀ w ∈ (vx_atS RX9 274 "java/lang/IllegalStateException" ["java/lang/RuntimeException", "java/lang/Exception"]).filter goodWord, w ∈ Wall := by
  intro w hw
  have h1 : ∀ w ∈ (vx_atS RX9 274 "java/lang/IllegalStateException" ["java/lang/RuntimeException", "java/lang/Exception"]).filter goodWord, w ∈ lw_tbl := by decide +kernel
  exact List.mem_filter.mpr ⟨h1 w hw, (List.mem_filter.mp hw).2⟩
theorem iX0 : ∀ w ∈ u_ws RX0 TX0 6, w ∈ Wall := by
  have h1 : ∀ w ∈ u_ws RX0 TX0 6, w ∈ lw_tbl ∧ goodWord w = true := by decide +kernel
  exact fun w hw => List.mem_filter.mpr (h1 w hw)
theorem iX1 : ∀ w ∈ u_ws RX1 TX1 2, w ∈ Wall := by
  have h1 : ∀ w ∈ u_ws RX1 TX1 2, w ∈ lw_tbl ∧ goodWord w = true := by decide +kernel
  exact fun w hw => List.mem_filter.mpr (h1 w hw)
theorem iX2 : ∀ w ∈ u_ws RX2 TX2 4, w ∈ Wall := by
  have h1 : ∀ w ∈ u_ws RX2 TX2 4, w ∈ lw_tbl ∧ goodWord w = true := by decide +kernel
  exact fun w hw => List.mem_filter.mpr (h1 w hw)
theorem iX3 : ∀ w ∈ u_ws RX3 TX3 3, w ∈ Wall := by
  have h1 : ∀ w ∈ u_ws RX3 TX3 3, w ∈ lw_tbl ∧ goodWord w = true := by decide +kernel
  exact fun w hw => List.mem_filter.mpr (h1 w hw)
theorem iX4 : ∀ w ∈ u_ws RX4 TX4 3, w ∈ Wall := by
  have h1 : ∀ w ∈ u_ws RX4 TX4 3, w ∈ lw_tbl ∧ goodWord w = true := by decide +kernel
  exact fun w hw => List.mem_filter.mpr (h1 w hw)
theorem iX5 : ∀ w ∈ u_ws RX5 TX5 1, w ∈ Wall := by
  have h1 : ∀ w ∈ u_ws RX5 TX5 1, w ∈ lw_tbl ∧ goodWord w = true := by decide +kernel
  exact fun w hw => List.mem_filter.mpr (h1 w hw)
theorem iX6 : ∀ w ∈ u_ws RX6 TX6 2, w ∈ Wall := by
  have h1 : ∀ w ∈ u_ws RX6 TX6 2, w ∈ lw_tbl ∧ goodWord w = true := by decide +kernel
  exact fun w hw => List.mem_filter.mpr (h1 w hw)
theorem iX7 : ∀ w ∈ u_ws RX7 TX7 4, w ∈ Wall := by
  have h1 : ∀ w ∈ u_ws RX7 TX7 4, w ∈ lw_tbl ∧ goodWord w = true := by decide +kernel
  exact fun w hw => List.mem_filter.mpr (h1 w hw)
theorem iX8 : ∀ w ∈ u_ws RX8 TX8 7, w ∈ Wall := by
  have h1 : ∀ w ∈ u_ws RX8 TX8 7, w ∈ lw_tbl ∧ goodWord w = true := by decide +kernel
  exact fun w hw => List.mem_filter.mpr (h1 w hw)
theorem iX9 : ∀ w ∈ u_ws RX9 TX9 10, w ∈ Wall := by
  have h1 : ∀ w ∈ u_ws RX9 TX9 10, w ∈ lw_tbl ∧ goodWord w = true := by decide +kernel
  exact fun w hw => List.mem_filter.mpr (h1 w hw)
