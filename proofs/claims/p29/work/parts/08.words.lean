theorem mw_0 : (Jvm.Cond.selects "RedcrossGantry$Bookings" ⟨"RedcrossGantry$Bookings", "tellCrossesOf", "(I[I)V"⟩ ⟨"RedcrossGantry$Bookings", "tellCrossesOf", "(I[I)V"⟩) ∈ Wall := mwl (k := 0) (by decide +kernel) rfl
theorem mw_2 : (Jvm.Cond.selects "RedcrossGantry" ⟨"RedcrossGantry", "setLaneSigns", "()V"⟩ ⟨"RedcrossGantry", "setLaneSigns", "()V"⟩) ∈ Wall := mwl (k := 2) (by decide +kernel) rfl
theorem mw_18 : (Jvm.Cond.initialized "RedcrossGantryLaw") ∈ Wall := mwl (k := 18) (by decide +kernel) rfl
theorem mw_19 : (Jvm.Cond.initialized "RedcrossGantry") ∈ Wall := mwl (k := 19) (by decide +kernel) rfl
theorem mw_20 : (Jvm.Cond.initialized "RedcrossGantry$Traffic") ∈ Wall := mwl (k := 20) (by decide +kernel) rfl
theorem mw_21 : (Jvm.Cond.initialized "RedcrossGantry$Detectors") ∈ Wall := mwl (k := 21) (by decide +kernel) rfl
theorem mw_22 : (Jvm.Cond.initialized "RedcrossGantry$SpeedSigns") ∈ Wall := mwl (k := 22) (by decide +kernel) rfl
theorem mw_23 : (Jvm.Cond.initialized "RedcrossGantry$LaneSigns") ∈ Wall := mwl (k := 23) (by decide +kernel) rfl
theorem mw_24 : (Jvm.Cond.initialized "RedcrossGantry$Shoulder") ∈ Wall := mwl (k := 24) (by decide +kernel) rfl
theorem mw_25 : (Jvm.Cond.initialized "RedcrossGantry$Incidents") ∈ Wall := mwl (k := 25) (by decide +kernel) rfl
theorem mw_26 : (Jvm.Cond.initialized "RedcrossGantry$Patrols") ∈ Wall := mwl (k := 26) (by decide +kernel) rfl
theorem mw_27 : (Jvm.Cond.initialized "RedcrossGantry$Bookings") ∈ Wall := mwl (k := 27) (by decide +kernel) rfl
theorem mw_28 : (Jvm.Cond.initialized "RedcrossGantry$Proofs") ∈ Wall := mwl (k := 28) (by decide +kernel) rfl
theorem mw_29 : (Jvm.Cond.initialized "java/lang/Math") ∈ Wall := mwl (k := 29) (by decide +kernel) rfl
theorem mw_33 : (Jvm.Cond.initialized "java/lang/IndexOutOfBoundsException") ∈ Wall := mwl (k := 33) (by decide +kernel) rfl
theorem mw_35 : (Jvm.Cond.initialized "java/lang/IllegalStateException") ∈ Wall := mwl (k := 35) (by decide +kernel) rfl
theorem mw_36 : (Jvm.Cond.classLink "RedcrossGantryLaw" (11 : Nat) "RedcrossGantry") ∈ Wall := mwl (k := 36) (by decide +kernel) rfl
theorem mw_37 : (Jvm.Cond.instantiable "RedcrossGantry" (10 : Nat)) ∈ Wall := mwl (k := 37) (by decide +kernel) rfl
theorem mw_38 : (Jvm.Cond.methodLink "RedcrossGantryLaw" (147 : Nat) ({ cls := "RedcrossGantry", name := "<init>", desc := "()V" } : Jvm.MethodName)) ∈ Wall := mwl (k := 38) (by decide +kernel) rfl
theorem mw_39 : (Jvm.Cond.instanceMethod ({ cls := "RedcrossGantry", name := "<init>", desc := "()V" } : Jvm.MethodName)) ∈ Wall := mwl (k := 39) (by decide +kernel) rfl
theorem mw_40 : (Jvm.Cond.code ({ cls := "RedcrossGantry", name := "<init>", desc := "()V" } : Jvm.MethodName) prog_1_method_1_code (1 : Nat) (Option.none : Option Jvm.ClassFile.FieldType)) ∈ Wall := mwl (k := 40) (by decide +kernel) rfl
theorem mw_41 : (Jvm.Cond.methodLink "RedcrossGantry" (1 : Nat) ({ cls := "java/lang/Object", name := "<init>", desc := "()V" } : Jvm.MethodName)) ∈ Wall := mwl (k := 41) (by decide +kernel) rfl
theorem mw_42 : (Jvm.Cond.instanceMethod ({ cls := "java/lang/Object", name := "<init>", desc := "()V" } : Jvm.MethodName)) ∈ Wall := mwl (k := 42) (by decide +kernel) rfl
theorem mw_43 : (Jvm.Cond.code ({ cls := "java/lang/Object", name := "<init>", desc := "()V" } : Jvm.MethodName) object_method_1_code (1 : Nat) (Option.none : Option Jvm.ClassFile.FieldType)) ∈ Wall := mwl (k := 43) (by decide +kernel) rfl
theorem mw_44 : (Jvm.Cond.classLink "RedcrossGantry" (13 : Nat) "RedcrossGantry$Traffic") ∈ Wall := mwl (k := 44) (by decide +kernel) rfl
theorem mw_45 : (Jvm.Cond.instantiable "RedcrossGantry$Traffic" (7 : Nat)) ∈ Wall := mwl (k := 45) (by decide +kernel) rfl
theorem mw_47 : (Jvm.Cond.instanceMethod ({ cls := "RedcrossGantry$Traffic", name := "<init>", desc := "()V" } : Jvm.MethodName)) ∈ Wall := mwl (k := 47) (by decide +kernel) rfl
theorem mw_48 : (Jvm.Cond.code ({ cls := "RedcrossGantry$Traffic", name := "<init>", desc := "()V" } : Jvm.MethodName) prog_10_method_1_code (1 : Nat) (Option.none : Option Jvm.ClassFile.FieldType)) ∈ Wall := mwl (k := 48) (by decide +kernel) rfl
theorem mw_49 : (Jvm.Cond.methodLink "RedcrossGantry$Traffic" (3 : Nat) ({ cls := "java/lang/Object", name := "<init>", desc := "()V" } : Jvm.MethodName)) ∈ Wall := mwl (k := 49) (by decide +kernel) rfl
theorem mw_50 : (Jvm.Cond.fieldLink "RedcrossGantry$Traffic" (9 : Nat) "RedcrossGantry$Traffic" "held" "[I") ∈ Wall := mwl (k := 50) (by decide +kernel) rfl
theorem mw_51 : (Jvm.Cond.fieldLink "RedcrossGantry" (110 : Nat) "RedcrossGantry$Traffic" "held" "[I") ∈ Wall := mwl (k := 51) (by decide +kernel) rfl
theorem mw_52 : (Jvm.Cond.fieldLink "RedcrossGantry$Traffic" (15 : Nat) "RedcrossGantry$Traffic" "stopped" "[Z") ∈ Wall := mwl (k := 52) (by decide +kernel) rfl
theorem mw_53 : (Jvm.Cond.fieldLink "RedcrossGantry" (191 : Nat) "RedcrossGantry$Traffic" "stopped" "[Z") ∈ Wall := mwl (k := 53) (by decide +kernel) rfl
theorem mw_54 : (Jvm.Cond.fieldLink "RedcrossGantry$Traffic" (19 : Nat) "RedcrossGantry$Traffic" "broken" "[Z") ∈ Wall := mwl (k := 54) (by decide +kernel) rfl
theorem mw_55 : (Jvm.Cond.fieldLink "RedcrossGantry" (145 : Nat) "RedcrossGantry$Traffic" "broken" "[Z") ∈ Wall := mwl (k := 55) (by decide +kernel) rfl
theorem mw_56 : (Jvm.Cond.fieldLink "RedcrossGantry$Traffic" (22 : Nat) "RedcrossGantry$Traffic" "demand" "I") ∈ Wall := mwl (k := 56) (by decide +kernel) rfl
theorem mw_58 : (Jvm.Cond.fieldLink "RedcrossGantry$Traffic" (26 : Nat) "RedcrossGantry$Traffic" "came" "I") ∈ Wall := mwl (k := 58) (by decide +kernel) rfl
theorem mw_59 : (Jvm.Cond.fieldLink "RedcrossGantry" (117 : Nat) "RedcrossGantry$Traffic" "came" "I") ∈ Wall := mwl (k := 59) (by decide +kernel) rfl
theorem mw_60 : (Jvm.Cond.fieldLink "RedcrossGantry$Traffic" (29 : Nat) "RedcrossGantry$Traffic" "waiting" "I") ∈ Wall := mwl (k := 60) (by decide +kernel) rfl
theorem mw_61 : (Jvm.Cond.fieldLink "RedcrossGantry" (124 : Nat) "RedcrossGantry$Traffic" "waiting" "I") ∈ Wall := mwl (k := 61) (by decide +kernel) rfl
theorem mw_62 : (Jvm.Cond.fieldLink "RedcrossGantry$Traffic" (32 : Nat) "RedcrossGantry$Traffic" "gone" "I") ∈ Wall := mwl (k := 62) (by decide +kernel) rfl
theorem mw_63 : (Jvm.Cond.fieldLink "RedcrossGantry" (127 : Nat) "RedcrossGantry$Traffic" "gone" "I") ∈ Wall := mwl (k := 63) (by decide +kernel) rfl
theorem mw_79 : (Jvm.Cond.arrayClass Jvm.ClassFile.FieldType.int) ∈ Wall := mwl (k := 79) (by decide +kernel) rfl
theorem mw_80 : (Jvm.Cond.arrayClass Jvm.ClassFile.FieldType.boolean) ∈ Wall := mwl (k := 80) (by decide +kernel) rfl
theorem mw_81 : (Jvm.Cond.classLink "RedcrossGantry" (20 : Nat) "RedcrossGantry$Detectors") ∈ Wall := mwl (k := 81) (by decide +kernel) rfl
theorem mw_82 : (Jvm.Cond.instantiable "RedcrossGantry$Detectors" (2 : Nat)) ∈ Wall := mwl (k := 82) (by decide +kernel) rfl
theorem mw_84 : (Jvm.Cond.instanceMethod ({ cls := "RedcrossGantry$Detectors", name := "<init>", desc := "()V" } : Jvm.MethodName)) ∈ Wall := mwl (k := 84) (by decide +kernel) rfl
theorem mw_85 : (Jvm.Cond.code ({ cls := "RedcrossGantry$Detectors", name := "<init>", desc := "()V" } : Jvm.MethodName) prog_3_method_1_code (1 : Nat) (Option.none : Option Jvm.ClassFile.FieldType)) ∈ Wall := mwl (k := 85) (by decide +kernel) rfl
theorem mw_86 : (Jvm.Cond.methodLink "RedcrossGantry$Detectors" (3 : Nat) ({ cls := "java/lang/Object", name := "<init>", desc := "()V" } : Jvm.MethodName)) ∈ Wall := mwl (k := 86) (by decide +kernel) rfl
theorem mw_87 : (Jvm.Cond.fieldLink "RedcrossGantry$Detectors" (9 : Nat) "RedcrossGantry$Detectors" "is" "[I") ∈ Wall := mwl (k := 87) (by decide +kernel) rfl
theorem mw_88 : (Jvm.Cond.fieldLink "RedcrossGantry" (149 : Nat) "RedcrossGantry$Detectors" "is" "[I") ∈ Wall := mwl (k := 88) (by decide +kernel) rfl
theorem mw_89 : (Jvm.Cond.fieldLink "RedcrossGantry$Detectors" (15 : Nat) "RedcrossGantry$Detectors" "stuckAt" "[I") ∈ Wall := mwl (k := 89) (by decide +kernel) rfl
theorem mw_96 : (Jvm.Cond.classLink "RedcrossGantry" (27 : Nat) "RedcrossGantry$SpeedSigns") ∈ Wall := mwl (k := 96) (by decide +kernel) rfl
theorem mw_97 : (Jvm.Cond.instantiable "RedcrossGantry$SpeedSigns" (4 : Nat)) ∈ Wall := mwl (k := 97) (by decide +kernel) rfl
theorem mw_98 : (Jvm.Cond.methodLink "RedcrossGantry" (29 : Nat) ({ cls := "RedcrossGantry$SpeedSigns", name := "<init>", desc := "()V" } : Jvm.MethodName)) ∈ Wall := mwl (k := 98) (by decide +kernel) rfl
theorem mw_99 : (Jvm.Cond.instanceMethod ({ cls := "RedcrossGantry$SpeedSigns", name := "<init>", desc := "()V" } : Jvm.MethodName)) ∈ Wall := mwl (k := 99) (by decide +kernel) rfl
theorem mw_100 : (Jvm.Cond.code ({ cls := "RedcrossGantry$SpeedSigns", name := "<init>", desc := "()V" } : Jvm.MethodName) prog_9_method_1_code (2 : Nat) (Option.none : Option Jvm.ClassFile.FieldType)) ∈ Wall := mwl (k := 100) (by decide +kernel) rfl
theorem mw_101 : (Jvm.Cond.methodLink "RedcrossGantry$SpeedSigns" (3 : Nat) ({ cls := "java/lang/Object", name := "<init>", desc := "()V" } : Jvm.MethodName)) ∈ Wall := mwl (k := 101) (by decide +kernel) rfl
theorem mw_102 : (Jvm.Cond.fieldLink "RedcrossGantry$SpeedSigns" (9 : Nat) "RedcrossGantry$SpeedSigns" "limits" "[I") ∈ Wall := mwl (k := 102) (by decide +kernel) rfl
theorem mw_104 : (Jvm.Cond.fieldLink "RedcrossGantry$SpeedSigns" (15 : Nat) "RedcrossGantry$SpeedSigns" "shown" "[I") ∈ Wall := mwl (k := 104) (by decide +kernel) rfl
theorem mw_105 : (Jvm.Cond.fieldLink "RedcrossGantry" (80 : Nat) "RedcrossGantry$SpeedSigns" "shown" "[I") ∈ Wall := mwl (k := 105) (by decide +kernel) rfl
theorem mw_106 : (Jvm.Cond.fieldLink "RedcrossGantry$SpeedSigns" (18 : Nat) "RedcrossGantry$SpeedSigns" "loweredAt" "[I") ∈ Wall := mwl (k := 106) (by decide +kernel) rfl
theorem mw_107 : (Jvm.Cond.fieldLink "RedcrossGantry$SpeedSigns" (21 : Nat) "RedcrossGantry$SpeedSigns" "weather" "I") ∈ Wall := mwl (k := 107) (by decide +kernel) rfl
theorem mw_118 : (Jvm.Cond.classLink "RedcrossGantry" (34 : Nat) "RedcrossGantry$LaneSigns") ∈ Wall := mwl (k := 118) (by decide +kernel) rfl
theorem mw_119 : (Jvm.Cond.instantiable "RedcrossGantry$LaneSigns" (3 : Nat)) ∈ Wall := mwl (k := 119) (by decide +kernel) rfl
theorem mw_120 : (Jvm.Cond.methodLink "RedcrossGantry" (36 : Nat) ({ cls := "RedcrossGantry$LaneSigns", name := "<init>", desc := "()V" } : Jvm.MethodName)) ∈ Wall := mwl (k := 120) (by decide +kernel) rfl
theorem mw_121 : (Jvm.Cond.instanceMethod ({ cls := "RedcrossGantry$LaneSigns", name := "<init>", desc := "()V" } : Jvm.MethodName)) ∈ Wall := mwl (k := 121) (by decide +kernel) rfl
theorem mw_122 : (Jvm.Cond.code ({ cls := "RedcrossGantry$LaneSigns", name := "<init>", desc := "()V" } : Jvm.MethodName) prog_5_method_1_code (2 : Nat) (Option.none : Option Jvm.ClassFile.FieldType)) ∈ Wall := mwl (k := 122) (by decide +kernel) rfl
theorem mw_123 : (Jvm.Cond.methodLink "RedcrossGantry$LaneSigns" (3 : Nat) ({ cls := "java/lang/Object", name := "<init>", desc := "()V" } : Jvm.MethodName)) ∈ Wall := mwl (k := 123) (by decide +kernel) rfl
theorem mw_124 : (Jvm.Cond.fieldLink "RedcrossGantry$LaneSigns" (9 : Nat) "RedcrossGantry$LaneSigns" "orders" "[I") ∈ Wall := mwl (k := 124) (by decide +kernel) rfl
theorem mw_126 : (Jvm.Cond.fieldLink "RedcrossGantry$LaneSigns" (15 : Nat) "RedcrossGantry$LaneSigns" "told" "[I") ∈ Wall := mwl (k := 126) (by decide +kernel) rfl
theorem mw_127 : (Jvm.Cond.fieldLink "RedcrossGantry$LaneSigns" (18 : Nat) "RedcrossGantry$LaneSigns" "shown" "[I") ∈ Wall := mwl (k := 127) (by decide +kernel) rfl
theorem mw_128 : (Jvm.Cond.fieldLink "RedcrossGantry" (84 : Nat) "RedcrossGantry$LaneSigns" "shown" "[I") ∈ Wall := mwl (k := 128) (by decide +kernel) rfl
theorem mw_136 : (Jvm.Cond.classLink "RedcrossGantry" (41 : Nat) "RedcrossGantry$Shoulder") ∈ Wall := mwl (k := 136) (by decide +kernel) rfl
theorem mw_137 : (Jvm.Cond.instantiable "RedcrossGantry$Shoulder" (2 : Nat)) ∈ Wall := mwl (k := 137) (by decide +kernel) rfl
theorem mw_138 : (Jvm.Cond.methodLink "RedcrossGantry" (43 : Nat) ({ cls := "RedcrossGantry$Shoulder", name := "<init>", desc := "()V" } : Jvm.MethodName)) ∈ Wall := mwl (k := 138) (by decide +kernel) rfl
theorem mw_139 : (Jvm.Cond.instanceMethod ({ cls := "RedcrossGantry$Shoulder", name := "<init>", desc := "()V" } : Jvm.MethodName)) ∈ Wall := mwl (k := 139) (by decide +kernel) rfl
theorem mw_140 : (Jvm.Cond.code ({ cls := "RedcrossGantry$Shoulder", name := "<init>", desc := "()V" } : Jvm.MethodName) prog_8_method_1_code (2 : Nat) (Option.none : Option Jvm.ClassFile.FieldType)) ∈ Wall := mwl (k := 140) (by decide +kernel) rfl
theorem mw_141 : (Jvm.Cond.methodLink "RedcrossGantry$Shoulder" (3 : Nat) ({ cls := "java/lang/Object", name := "<init>", desc := "()V" } : Jvm.MethodName)) ∈ Wall := mwl (k := 141) (by decide +kernel) rfl
theorem mw_142 : (Jvm.Cond.fieldLink "RedcrossGantry$Shoulder" (9 : Nat) "RedcrossGantry$Shoulder" "open" "[Z") ∈ Wall := mwl (k := 142) (by decide +kernel) rfl
theorem mw_143 : (Jvm.Cond.fieldLink "RedcrossGantry$Shoulder" (15 : Nat) "RedcrossGantry$Shoulder" "foundClearAt" "[I") ∈ Wall := mwl (k := 143) (by decide +kernel) rfl
theorem mw_144 : (Jvm.Cond.fieldLink "RedcrossGantry" (179 : Nat) "RedcrossGantry$Shoulder" "foundClearAt" "[I") ∈ Wall := mwl (k := 144) (by decide +kernel) rfl
theorem mw_150 : (Jvm.Cond.classLink "RedcrossGantry" (48 : Nat) "RedcrossGantry$Incidents") ∈ Wall := mwl (k := 150) (by decide +kernel) rfl
theorem mw_151 : (Jvm.Cond.instantiable "RedcrossGantry$Incidents" (4 : Nat)) ∈ Wall := mwl (k := 151) (by decide +kernel) rfl
theorem mw_153 : (Jvm.Cond.instanceMethod ({ cls := "RedcrossGantry$Incidents", name := "<init>", desc := "()V" } : Jvm.MethodName)) ∈ Wall := mwl (k := 153) (by decide +kernel) rfl
theorem mw_154 : (Jvm.Cond.code ({ cls := "RedcrossGantry$Incidents", name := "<init>", desc := "()V" } : Jvm.MethodName) prog_4_method_1_code (1 : Nat) (Option.none : Option Jvm.ClassFile.FieldType)) ∈ Wall := mwl (k := 154) (by decide +kernel) rfl
theorem mw_155 : (Jvm.Cond.methodLink "RedcrossGantry$Incidents" (3 : Nat) ({ cls := "java/lang/Object", name := "<init>", desc := "()V" } : Jvm.MethodName)) ∈ Wall := mwl (k := 155) (by decide +kernel) rfl
theorem mw_156 : (Jvm.Cond.fieldLink "RedcrossGantry$Incidents" (11 : Nat) "RedcrossGantry$Incidents" "places" "[I") ∈ Wall := mwl (k := 156) (by decide +kernel) rfl
theorem mw_158 : (Jvm.Cond.fieldLink "RedcrossGantry$Incidents" (15 : Nat) "RedcrossGantry$Incidents" "how" "[I") ∈ Wall := mwl (k := 158) (by decide +kernel) rfl
theorem mw_160 : (Jvm.Cond.fieldLink "RedcrossGantry$Incidents" (18 : Nat) "RedcrossGantry$Incidents" "patrols" "[I") ∈ Wall := mwl (k := 160) (by decide +kernel) rfl
theorem mw_162 : (Jvm.Cond.fieldLink "RedcrossGantry$Incidents" (21 : Nat) "RedcrossGantry$Incidents" "count" "I") ∈ Wall := mwl (k := 162) (by decide +kernel) rfl
theorem mw_172 : (Jvm.Cond.classLink "RedcrossGantry" (55 : Nat) "RedcrossGantry$Patrols") ∈ Wall := mwl (k := 172) (by decide +kernel) rfl
theorem mw_173 : (Jvm.Cond.instantiable "RedcrossGantry$Patrols" (3 : Nat)) ∈ Wall := mwl (k := 173) (by decide +kernel) rfl
theorem mw_175 : (Jvm.Cond.instanceMethod ({ cls := "RedcrossGantry$Patrols", name := "<init>", desc := "()V" } : Jvm.MethodName)) ∈ Wall := mwl (k := 175) (by decide +kernel) rfl
theorem mw_176 : (Jvm.Cond.code ({ cls := "RedcrossGantry$Patrols", name := "<init>", desc := "()V" } : Jvm.MethodName) prog_6_method_1_code (1 : Nat) (Option.none : Option Jvm.ClassFile.FieldType)) ∈ Wall := mwl (k := 176) (by decide +kernel) rfl
theorem mw_177 : (Jvm.Cond.methodLink "RedcrossGantry$Patrols" (3 : Nat) ({ cls := "java/lang/Object", name := "<init>", desc := "()V" } : Jvm.MethodName)) ∈ Wall := mwl (k := 177) (by decide +kernel) rfl
theorem mw_178 : (Jvm.Cond.fieldLink "RedcrossGantry$Patrols" (11 : Nat) "RedcrossGantry$Patrols" "sections" "[I") ∈ Wall := mwl (k := 178) (by decide +kernel) rfl
theorem mw_180 : (Jvm.Cond.fieldLink "RedcrossGantry$Patrols" (15 : Nat) "RedcrossGantry$Patrols" "incidents" "[I") ∈ Wall := mwl (k := 180) (by decide +kernel) rfl
theorem mw_182 : (Jvm.Cond.fieldLink "RedcrossGantry$Patrols" (18 : Nat) "RedcrossGantry$Patrols" "minutesLeft" "[I") ∈ Wall := mwl (k := 182) (by decide +kernel) rfl
theorem mw_191 : (Jvm.Cond.classLink "RedcrossGantry" (62 : Nat) "RedcrossGantry$Bookings") ∈ Wall := mwl (k := 191) (by decide +kernel) rfl
theorem mw_192 : (Jvm.Cond.instantiable "RedcrossGantry$Bookings" (6 : Nat)) ∈ Wall := mwl (k := 192) (by decide +kernel) rfl
theorem mw_194 : (Jvm.Cond.instanceMethod ({ cls := "RedcrossGantry$Bookings", name := "<init>", desc := "()V" } : Jvm.MethodName)) ∈ Wall := mwl (k := 194) (by decide +kernel) rfl
theorem mw_195 : (Jvm.Cond.code ({ cls := "RedcrossGantry$Bookings", name := "<init>", desc := "()V" } : Jvm.MethodName) prog_2_method_1_code (1 : Nat) (Option.none : Option Jvm.ClassFile.FieldType)) ∈ Wall := mwl (k := 195) (by decide +kernel) rfl
theorem mw_196 : (Jvm.Cond.methodLink "RedcrossGantry$Bookings" (3 : Nat) ({ cls := "java/lang/Object", name := "<init>", desc := "()V" } : Jvm.MethodName)) ∈ Wall := mwl (k := 196) (by decide +kernel) rfl
theorem mw_197 : (Jvm.Cond.fieldLink "RedcrossGantry$Bookings" (11 : Nat) "RedcrossGantry$Bookings" "lanes" "[I") ∈ Wall := mwl (k := 197) (by decide +kernel) rfl
theorem mw_198 : (Jvm.Cond.fieldLink "RedcrossGantry$Bookings" (15 : Nat) "RedcrossGantry$Bookings" "froms" "[I") ∈ Wall := mwl (k := 198) (by decide +kernel) rfl
theorem mw_199 : (Jvm.Cond.fieldLink "RedcrossGantry$Bookings" (18 : Nat) "RedcrossGantry$Bookings" "tos" "[I") ∈ Wall := mwl (k := 199) (by decide +kernel) rfl
theorem mw_200 : (Jvm.Cond.fieldLink "RedcrossGantry$Bookings" (21 : Nat) "RedcrossGantry$Bookings" "begins" "[I") ∈ Wall := mwl (k := 200) (by decide +kernel) rfl
theorem mw_201 : (Jvm.Cond.fieldLink "RedcrossGantry$Bookings" (24 : Nat) "RedcrossGantry$Bookings" "ends" "[I") ∈ Wall := mwl (k := 201) (by decide +kernel) rfl
theorem mw_202 : (Jvm.Cond.fieldLink "RedcrossGantry$Bookings" (27 : Nat) "RedcrossGantry$Bookings" "count" "I") ∈ Wall := mwl (k := 202) (by decide +kernel) rfl
theorem mw_217 : (Jvm.Cond.classLink "RedcrossGantry" (69 : Nat) "RedcrossGantry$Proofs") ∈ Wall := mwl (k := 217) (by decide +kernel) rfl
theorem mw_218 : (Jvm.Cond.instantiable "RedcrossGantry$Proofs" (1 : Nat)) ∈ Wall := mwl (k := 218) (by decide +kernel) rfl
theorem mw_220 : (Jvm.Cond.instanceMethod ({ cls := "RedcrossGantry$Proofs", name := "<init>", desc := "()V" } : Jvm.MethodName)) ∈ Wall := mwl (k := 220) (by decide +kernel) rfl
theorem mw_221 : (Jvm.Cond.code ({ cls := "RedcrossGantry$Proofs", name := "<init>", desc := "()V" } : Jvm.MethodName) prog_7_method_1_code (1 : Nat) (Option.none : Option Jvm.ClassFile.FieldType)) ∈ Wall := mwl (k := 221) (by decide +kernel) rfl
theorem mw_222 : (Jvm.Cond.methodLink "RedcrossGantry$Proofs" (3 : Nat) ({ cls := "java/lang/Object", name := "<init>", desc := "()V" } : Jvm.MethodName)) ∈ Wall := mwl (k := 222) (by decide +kernel) rfl
theorem mw_223 : (Jvm.Cond.fieldLink "RedcrossGantry$Proofs" (11 : Nat) "RedcrossGantry$Proofs" "kept" "[I") ∈ Wall := mwl (k := 223) (by decide +kernel) rfl
theorem mw_227 : (Jvm.Cond.methodLink "RedcrossGantry" (76 : Nat) ({ cls := "RedcrossGantry$LaneSigns", name := "setAnew", desc := "(ILRedcrossGantry$Shoulder;LRedcrossGantry$Incidents;LRedcrossGantry$Bookings;)V" } : Jvm.MethodName)) ∈ Wall := mwl (k := 227) (by decide +kernel) rfl
theorem mw_228 : (Jvm.Cond.instanceMethod ({ cls := "RedcrossGantry$LaneSigns", name := "setAnew", desc := "(ILRedcrossGantry$Shoulder;LRedcrossGantry$Incidents;LRedcrossGantry$Bookings;)V" } : Jvm.MethodName)) ∈ Wall := mwl (k := 228) (by decide +kernel) rfl
theorem mw_229 : (Jvm.Cond.selects "RedcrossGantry$LaneSigns" ({ cls := "RedcrossGantry$LaneSigns", name := "setAnew", desc := "(ILRedcrossGantry$Shoulder;LRedcrossGantry$Incidents;LRedcrossGantry$Bookings;)V" } : Jvm.MethodName) ({ cls := "RedcrossGantry$LaneSigns", name := "setAnew", desc := "(ILRedcrossGantry$Shoulder;LRedcrossGantry$Incidents;LRedcrossGantry$Bookings;)V" } : Jvm.MethodName)) ∈ Wall := mwl (k := 229) (by decide +kernel) rfl
theorem mw_230 : (Jvm.Cond.code ({ cls := "RedcrossGantry$LaneSigns", name := "setAnew", desc := "(ILRedcrossGantry$Shoulder;LRedcrossGantry$Incidents;LRedcrossGantry$Bookings;)V" } : Jvm.MethodName) prog_5_method_2_code (6 : Nat) (Option.none : Option Jvm.ClassFile.FieldType)) ∈ Wall := mwl (k := 230) (by decide +kernel) rfl
theorem mw_231 : (Jvm.Cond.methodLink "RedcrossGantry$LaneSigns" (21 : Nat) ({ cls := "RedcrossGantry$Shoulder", name := "tellCrosses", desc := "([I)V" } : Jvm.MethodName)) ∈ Wall := mwl (k := 231) (by decide +kernel) rfl
theorem mw_232 : (Jvm.Cond.instanceMethod ({ cls := "RedcrossGantry$Shoulder", name := "tellCrosses", desc := "([I)V" } : Jvm.MethodName)) ∈ Wall := mwl (k := 232) (by decide +kernel) rfl
theorem mw_233 : (Jvm.Cond.selects "RedcrossGantry$Shoulder" ({ cls := "RedcrossGantry$Shoulder", name := "tellCrosses", desc := "([I)V" } : Jvm.MethodName) ({ cls := "RedcrossGantry$Shoulder", name := "tellCrosses", desc := "([I)V" } : Jvm.MethodName)) ∈ Wall := mwl (k := 233) (by decide +kernel) rfl
theorem mw_234 : (Jvm.Cond.code ({ cls := "RedcrossGantry$Shoulder", name := "tellCrosses", desc := "([I)V" } : Jvm.MethodName) prog_8_method_6_code (3 : Nat) (Option.none : Option Jvm.ClassFile.FieldType)) ∈ Wall := mwl (k := 234) (by decide +kernel) rfl
theorem mw_236 : (Jvm.Cond.static ({ cls := "RedcrossGantry", name := "placeOf", desc := "(II)I" } : Jvm.MethodName)) ∈ Wall := mwl (k := 236) (by decide +kernel) rfl
theorem mw_237 : (Jvm.Cond.code ({ cls := "RedcrossGantry", name := "placeOf", desc := "(II)I" } : Jvm.MethodName) prog_1_method_30_code (2 : Nat) (Option.some Jvm.ClassFile.FieldType.int)) ∈ Wall := mwl (k := 237) (by decide +kernel) rfl
theorem mw_238 : (Jvm.Cond.methodLink "RedcrossGantry$LaneSigns" (27 : Nat) ({ cls := "RedcrossGantry$Incidents", name := "tellCrosses", desc := "([I)V" } : Jvm.MethodName)) ∈ Wall := mwl (k := 238) (by decide +kernel) rfl
theorem mw_239 : (Jvm.Cond.instanceMethod ({ cls := "RedcrossGantry$Incidents", name := "tellCrosses", desc := "([I)V" } : Jvm.MethodName)) ∈ Wall := mwl (k := 239) (by decide +kernel) rfl
theorem mw_240 : (Jvm.Cond.selects "RedcrossGantry$Incidents" ({ cls := "RedcrossGantry$Incidents", name := "tellCrosses", desc := "([I)V" } : Jvm.MethodName) ({ cls := "RedcrossGantry$Incidents", name := "tellCrosses", desc := "([I)V" } : Jvm.MethodName)) ∈ Wall := mwl (k := 240) (by decide +kernel) rfl
theorem mw_241 : (Jvm.Cond.code ({ cls := "RedcrossGantry$Incidents", name := "tellCrosses", desc := "([I)V" } : Jvm.MethodName) prog_4_method_6_code (3 : Nat) (Option.none : Option Jvm.ClassFile.FieldType)) ∈ Wall := mwl (k := 241) (by decide +kernel) rfl
theorem mw_243 : (Jvm.Cond.static ({ cls := "RedcrossGantry", name := "isWithin", desc := "(III)Z" } : Jvm.MethodName)) ∈ Wall := mwl (k := 243) (by decide +kernel) rfl
theorem mw_244 : (Jvm.Cond.code ({ cls := "RedcrossGantry", name := "isWithin", desc := "(III)Z" } : Jvm.MethodName) prog_1_method_28_code (3 : Nat) (Option.some Jvm.ClassFile.FieldType.boolean)) ∈ Wall := mwl (k := 244) (by decide +kernel) rfl
theorem mw_245 : (Jvm.Cond.methodLink "RedcrossGantry$LaneSigns" (30 : Nat) ({ cls := "RedcrossGantry$Bookings", name := "tellCrosses", desc := "([II)V" } : Jvm.MethodName)) ∈ Wall := mwl (k := 245) (by decide +kernel) rfl
theorem mw_246 : (Jvm.Cond.instanceMethod ({ cls := "RedcrossGantry$Bookings", name := "tellCrosses", desc := "([II)V" } : Jvm.MethodName)) ∈ Wall := mwl (k := 246) (by decide +kernel) rfl
theorem mw_247 : (Jvm.Cond.selects "RedcrossGantry$Bookings" ({ cls := "RedcrossGantry$Bookings", name := "tellCrosses", desc := "([II)V" } : Jvm.MethodName) ({ cls := "RedcrossGantry$Bookings", name := "tellCrosses", desc := "([II)V" } : Jvm.MethodName)) ∈ Wall := mwl (k := 247) (by decide +kernel) rfl
theorem mw_248 : (Jvm.Cond.code ({ cls := "RedcrossGantry$Bookings", name := "tellCrosses", desc := "([II)V" } : Jvm.MethodName) prog_2_method_5_code (4 : Nat) (Option.none : Option Jvm.ClassFile.FieldType)) ∈ Wall := mwl (k := 248) (by decide +kernel) rfl
theorem mw_249 : (Jvm.Cond.methodLink "RedcrossGantry$Bookings" (41 : Nat) ({ cls := "RedcrossGantry$Bookings", name := "isRunning", desc := "(II)Z" } : Jvm.MethodName)) ∈ Wall := mwl (k := 249) (by decide +kernel) rfl
theorem mw_250 : (Jvm.Cond.instanceMethod ({ cls := "RedcrossGantry$Bookings", name := "isRunning", desc := "(II)Z" } : Jvm.MethodName)) ∈ Wall := mwl (k := 250) (by decide +kernel) rfl
theorem mw_251 : (Jvm.Cond.selects "RedcrossGantry$Bookings" ({ cls := "RedcrossGantry$Bookings", name := "isRunning", desc := "(II)Z" } : Jvm.MethodName) ({ cls := "RedcrossGantry$Bookings", name := "isRunning", desc := "(II)Z" } : Jvm.MethodName)) ∈ Wall := mwl (k := 251) (by decide +kernel) rfl
theorem mw_252 : (Jvm.Cond.code ({ cls := "RedcrossGantry$Bookings", name := "isRunning", desc := "(II)Z" } : Jvm.MethodName) prog_2_method_2_code (3 : Nat) (Option.some Jvm.ClassFile.FieldType.boolean)) ∈ Wall := mwl (k := 252) (by decide +kernel) rfl
theorem mw_254 : (Jvm.Cond.methodLink "RedcrossGantry$Bookings" (45 : Nat) ({ cls := "RedcrossGantry$Bookings", name := "tellCrossesOf", desc := "(I[I)V" } : Jvm.MethodName)) ∈ Wall := mwl (k := 254) (by decide +kernel) rfl
theorem mw_256 : (Jvm.Cond.instanceMethod ({ cls := "RedcrossGantry$Bookings", name := "tellCrossesOf", desc := "(I[I)V" } : Jvm.MethodName)) ∈ Wall := mwl (k := 256) (by decide +kernel) rfl
theorem mw_257 : (Jvm.Cond.code ({ cls := "RedcrossGantry$Bookings", name := "tellCrossesOf", desc := "(I[I)V" } : Jvm.MethodName) prog_2_method_6_code (5 : Nat) (Option.none : Option Jvm.ClassFile.FieldType)) ∈ Wall := mwl (k := 257) (by decide +kernel) rfl
theorem mw_259 : (Jvm.Cond.methodLink "RedcrossGantry$LaneSigns" (35 : Nat) ({ cls := "RedcrossGantry$LaneSigns", name := "isAheadOfCross", desc := "(I[I)Z" } : Jvm.MethodName)) ∈ Wall := mwl (k := 259) (by decide +kernel) rfl
theorem mw_260 : (Jvm.Cond.static ({ cls := "RedcrossGantry$LaneSigns", name := "isAheadOfCross", desc := "(I[I)Z" } : Jvm.MethodName)) ∈ Wall := mwl (k := 260) (by decide +kernel) rfl
theorem mw_261 : (Jvm.Cond.code ({ cls := "RedcrossGantry$LaneSigns", name := "isAheadOfCross", desc := "(I[I)Z" } : Jvm.MethodName) prog_5_method_4_code (3 : Nat) (Option.some Jvm.ClassFile.FieldType.boolean)) ∈ Wall := mwl (k := 261) (by decide +kernel) rfl
theorem mw_263 : (Jvm.Cond.methodLink "RedcrossGantry" (85 : Nat) ({ cls := "RedcrossGantry$Proofs", name := "keep", desc := "(I[I[I)V" } : Jvm.MethodName)) ∈ Wall := mwl (k := 263) (by decide +kernel) rfl
theorem mw_264 : (Jvm.Cond.instanceMethod ({ cls := "RedcrossGantry$Proofs", name := "keep", desc := "(I[I[I)V" } : Jvm.MethodName)) ∈ Wall := mwl (k := 264) (by decide +kernel) rfl
theorem mw_265 : (Jvm.Cond.selects "RedcrossGantry$Proofs" ({ cls := "RedcrossGantry$Proofs", name := "keep", desc := "(I[I[I)V" } : Jvm.MethodName) ({ cls := "RedcrossGantry$Proofs", name := "keep", desc := "(I[I[I)V" } : Jvm.MethodName)) ∈ Wall := mwl (k := 265) (by decide +kernel) rfl
theorem mw_266 : (Jvm.Cond.code ({ cls := "RedcrossGantry$Proofs", name := "keep", desc := "(I[I[I)V" } : Jvm.MethodName) prog_7_method_3_code (7 : Nat) (Option.none : Option Jvm.ClassFile.FieldType)) ∈ Wall := mwl (k := 266) (by decide +kernel) rfl
theorem mw_268 : (Jvm.Cond.methodLink "RedcrossGantry$Proofs" (23 : Nat) ({ cls := "RedcrossGantry$Proofs", name := "slotOf", desc := "(II)I" } : Jvm.MethodName)) ∈ Wall := mwl (k := 268) (by decide +kernel) rfl
theorem mw_269 : (Jvm.Cond.static ({ cls := "RedcrossGantry$Proofs", name := "slotOf", desc := "(II)I" } : Jvm.MethodName)) ∈ Wall := mwl (k := 269) (by decide +kernel) rfl
theorem mw_270 : (Jvm.Cond.code ({ cls := "RedcrossGantry$Proofs", name := "slotOf", desc := "(II)I" } : Jvm.MethodName) prog_7_method_6_code (2 : Nat) (Option.some Jvm.ClassFile.FieldType.int)) ∈ Wall := mwl (k := 270) (by decide +kernel) rfl
theorem mw_271 : (Jvm.Cond.methodLink "RedcrossGantry$Proofs" (26 : Nat) ({ cls := "java/lang/Math", name := "floorMod", desc := "(II)I" } : Jvm.MethodName)) ∈ Wall := mwl (k := 271) (by decide +kernel) rfl
theorem mw_272 : (Jvm.Cond.static ({ cls := "java/lang/Math", name := "floorMod", desc := "(II)I" } : Jvm.MethodName)) ∈ Wall := mwl (k := 272) (by decide +kernel) rfl
theorem mw_273 : (Jvm.Cond.code ({ cls := "java/lang/Math", name := "floorMod", desc := "(II)I" } : Jvm.MethodName) prog_17_method_50_code (3 : Nat) (Option.some Jvm.ClassFile.FieldType.int)) ∈ Wall := mwl (k := 273) (by decide +kernel) rfl
theorem mw_274 : (Jvm.Cond.fieldLink "RedcrossGantry" (7 : Nat) "RedcrossGantry" "minute" "I") ∈ Wall := mwl (k := 274) (by decide +kernel) rfl
theorem mw_275 : (Jvm.Cond.fieldLink "RedcrossGantry" (16 : Nat) "RedcrossGantry" "traffic" "LRedcrossGantry$Traffic;") ∈ Wall := mwl (k := 275) (by decide +kernel) rfl
theorem mw_276 : (Jvm.Cond.fieldLink "RedcrossGantry" (23 : Nat) "RedcrossGantry" "detectors" "LRedcrossGantry$Detectors;") ∈ Wall := mwl (k := 276) (by decide +kernel) rfl
theorem mw_277 : (Jvm.Cond.fieldLink "RedcrossGantry" (30 : Nat) "RedcrossGantry" "speedSigns" "LRedcrossGantry$SpeedSigns;") ∈ Wall := mwl (k := 277) (by decide +kernel) rfl
theorem mw_278 : (Jvm.Cond.fieldLink "RedcrossGantry" (37 : Nat) "RedcrossGantry" "laneSigns" "LRedcrossGantry$LaneSigns;") ∈ Wall := mwl (k := 278) (by decide +kernel) rfl
theorem mw_279 : (Jvm.Cond.fieldLink "RedcrossGantry" (44 : Nat) "RedcrossGantry" "shoulder" "LRedcrossGantry$Shoulder;") ∈ Wall := mwl (k := 279) (by decide +kernel) rfl
theorem mw_280 : (Jvm.Cond.fieldLink "RedcrossGantry" (51 : Nat) "RedcrossGantry" "incidents" "LRedcrossGantry$Incidents;") ∈ Wall := mwl (k := 280) (by decide +kernel) rfl
theorem mw_281 : (Jvm.Cond.fieldLink "RedcrossGantry" (58 : Nat) "RedcrossGantry" "patrols" "LRedcrossGantry$Patrols;") ∈ Wall := mwl (k := 281) (by decide +kernel) rfl
theorem mw_282 : (Jvm.Cond.fieldLink "RedcrossGantry" (65 : Nat) "RedcrossGantry" "bookings" "LRedcrossGantry$Bookings;") ∈ Wall := mwl (k := 282) (by decide +kernel) rfl
theorem mw_283 : (Jvm.Cond.fieldLink "RedcrossGantry" (72 : Nat) "RedcrossGantry" "proofs" "LRedcrossGantry$Proofs;") ∈ Wall := mwl (k := 283) (by decide +kernel) rfl
theorem mw_305 : (Jvm.Cond.methodLink "RedcrossGantryLaw" (108 : Nat) ({ cls := "RedcrossGantry", name := "sign", desc := "(II)I" } : Jvm.MethodName)) ∈ Wall := mwl (k := 305) (by decide +kernel) rfl
theorem mw_306 : (Jvm.Cond.instanceMethod ({ cls := "RedcrossGantry", name := "sign", desc := "(II)I" } : Jvm.MethodName)) ∈ Wall := mwl (k := 306) (by decide +kernel) rfl
theorem mw_307 : (Jvm.Cond.selects "RedcrossGantry" ({ cls := "RedcrossGantry", name := "sign", desc := "(II)I" } : Jvm.MethodName) ({ cls := "RedcrossGantry", name := "sign", desc := "(II)I" } : Jvm.MethodName)) ∈ Wall := mwl (k := 307) (by decide +kernel) rfl
theorem mw_308 : (Jvm.Cond.code ({ cls := "RedcrossGantry", name := "sign", desc := "(II)I" } : Jvm.MethodName) prog_1_method_11_code (3 : Nat) (Option.some Jvm.ClassFile.FieldType.int)) ∈ Wall := mwl (k := 308) (by decide +kernel) rfl
theorem mw_309 : (Jvm.Cond.methodLink "RedcrossGantry" (106 : Nat) ({ cls := "RedcrossGantry", name := "needPlace", desc := "(II)V" } : Jvm.MethodName)) ∈ Wall := mwl (k := 309) (by decide +kernel) rfl
theorem mw_310 : (Jvm.Cond.static ({ cls := "RedcrossGantry", name := "needPlace", desc := "(II)V" } : Jvm.MethodName)) ∈ Wall := mwl (k := 310) (by decide +kernel) rfl
theorem mw_311 : (Jvm.Cond.code ({ cls := "RedcrossGantry", name := "needPlace", desc := "(II)V" } : Jvm.MethodName) prog_1_method_35_code (2 : Nat) (Option.none : Option Jvm.ClassFile.FieldType)) ∈ Wall := mwl (k := 311) (by decide +kernel) rfl
theorem mw_312 : (Jvm.Cond.methodLink "RedcrossGantry" (130 : Nat) ({ cls := "RedcrossGantry", name := "needSection", desc := "(I)V" } : Jvm.MethodName)) ∈ Wall := mwl (k := 312) (by decide +kernel) rfl
theorem mw_313 : (Jvm.Cond.static ({ cls := "RedcrossGantry", name := "needSection", desc := "(I)V" } : Jvm.MethodName)) ∈ Wall := mwl (k := 313) (by decide +kernel) rfl
theorem mw_314 : (Jvm.Cond.code ({ cls := "RedcrossGantry", name := "needSection", desc := "(I)V" } : Jvm.MethodName) prog_1_method_34_code (1 : Nat) (Option.none : Option Jvm.ClassFile.FieldType)) ∈ Wall := mwl (k := 314) (by decide +kernel) rfl
theorem mw_315 : (Jvm.Cond.methodLink "RedcrossGantry" (89 : Nat) ({ cls := "RedcrossGantry", name := "isWithin", desc := "(III)Z" } : Jvm.MethodName)) ∈ Wall := mwl (k := 315) (by decide +kernel) rfl
theorem mw_316 : (Jvm.Cond.methodLink "RedcrossGantry" (203 : Nat) ({ cls := "RedcrossGantry", name := "needIndex", desc := "(Z)V" } : Jvm.MethodName)) ∈ Wall := mwl (k := 316) (by decide +kernel) rfl
theorem mw_317 : (Jvm.Cond.static ({ cls := "RedcrossGantry", name := "needIndex", desc := "(Z)V" } : Jvm.MethodName)) ∈ Wall := mwl (k := 317) (by decide +kernel) rfl
theorem mw_318 : (Jvm.Cond.code ({ cls := "RedcrossGantry", name := "needIndex", desc := "(Z)V" } : Jvm.MethodName) prog_1_method_31_code (1 : Nat) (Option.none : Option Jvm.ClassFile.FieldType)) ∈ Wall := mwl (k := 318) (by decide +kernel) rfl
theorem mw_319 : (Jvm.Cond.classLink "RedcrossGantry" (258 : Nat) "java/lang/IndexOutOfBoundsException") ∈ Wall := mwl (k := 319) (by decide +kernel) rfl
theorem mw_387 : (Jvm.Cond.methodLink "RedcrossGantry" (168 : Nat) ({ cls := "RedcrossGantry", name := "setLaneSigns", desc := "()V" } : Jvm.MethodName)) ∈ Wall := mwl (k := 387) (by decide +kernel) rfl
theorem mw_389 : (Jvm.Cond.instanceMethod ({ cls := "RedcrossGantry", name := "setLaneSigns", desc := "()V" } : Jvm.MethodName)) ∈ Wall := mwl (k := 389) (by decide +kernel) rfl
theorem mw_390 : (Jvm.Cond.code ({ cls := "RedcrossGantry", name := "setLaneSigns", desc := "()V" } : Jvm.MethodName) prog_1_method_38_code (1 : Nat) (Option.none : Option Jvm.ClassFile.FieldType)) ∈ Wall := mwl (k := 390) (by decide +kernel) rfl
theorem mw_391 : (Jvm.Cond.methodLink "RedcrossGantry" (113 : Nat) ({ cls := "RedcrossGantry", name := "placeOf", desc := "(II)I" } : Jvm.MethodName)) ∈ Wall := mwl (k := 391) (by decide +kernel) rfl
theorem mw_392 : (Jvm.Cond.methodLink "RedcrossGantryLaw" (111 : Nat) ({ cls := "RedcrossGantry", name := "isLawful", desc := "()Z" } : Jvm.MethodName)) ∈ Wall := mwl (k := 392) (by decide +kernel) rfl
theorem mw_393 : (Jvm.Cond.instanceMethod ({ cls := "RedcrossGantry", name := "isLawful", desc := "()Z" } : Jvm.MethodName)) ∈ Wall := mwl (k := 393) (by decide +kernel) rfl
theorem mw_394 : (Jvm.Cond.selects "RedcrossGantry" ({ cls := "RedcrossGantry", name := "isLawful", desc := "()Z" } : Jvm.MethodName) ({ cls := "RedcrossGantry", name := "isLawful", desc := "()Z" } : Jvm.MethodName)) ∈ Wall := mwl (k := 394) (by decide +kernel) rfl
theorem mw_395 : (Jvm.Cond.code ({ cls := "RedcrossGantry", name := "isLawful", desc := "()Z" } : Jvm.MethodName) prog_1_method_12_code (1 : Nat) (Option.some Jvm.ClassFile.FieldType.boolean)) ∈ Wall := mwl (k := 395) (by decide +kernel) rfl
theorem mw_396 : (Jvm.Cond.methodLink "RedcrossGantry" (171 : Nat) ({ cls := "RedcrossGantry$SpeedSigns", name := "areLawful", desc := "()Z" } : Jvm.MethodName)) ∈ Wall := mwl (k := 396) (by decide +kernel) rfl
theorem mw_397 : (Jvm.Cond.instanceMethod ({ cls := "RedcrossGantry$SpeedSigns", name := "areLawful", desc := "()Z" } : Jvm.MethodName)) ∈ Wall := mwl (k := 397) (by decide +kernel) rfl
theorem mw_398 : (Jvm.Cond.selects "RedcrossGantry$SpeedSigns" ({ cls := "RedcrossGantry$SpeedSigns", name := "areLawful", desc := "()Z" } : Jvm.MethodName) ({ cls := "RedcrossGantry$SpeedSigns", name := "areLawful", desc := "()Z" } : Jvm.MethodName)) ∈ Wall := mwl (k := 398) (by decide +kernel) rfl
theorem mw_399 : (Jvm.Cond.code ({ cls := "RedcrossGantry$SpeedSigns", name := "areLawful", desc := "()Z" } : Jvm.MethodName) prog_9_method_3_code (2 : Nat) (Option.some Jvm.ClassFile.FieldType.boolean)) ∈ Wall := mwl (k := 399) (by decide +kernel) rfl
theorem mw_400 : (Jvm.Cond.methodLink "RedcrossGantry" (175 : Nat) ({ cls := "RedcrossGantry$LaneSigns", name := "areLawful", desc := "()Z" } : Jvm.MethodName)) ∈ Wall := mwl (k := 400) (by decide +kernel) rfl
theorem mw_401 : (Jvm.Cond.instanceMethod ({ cls := "RedcrossGantry$LaneSigns", name := "areLawful", desc := "()Z" } : Jvm.MethodName)) ∈ Wall := mwl (k := 401) (by decide +kernel) rfl
theorem mw_402 : (Jvm.Cond.selects "RedcrossGantry$LaneSigns" ({ cls := "RedcrossGantry$LaneSigns", name := "areLawful", desc := "()Z" } : Jvm.MethodName) ({ cls := "RedcrossGantry$LaneSigns", name := "areLawful", desc := "()Z" } : Jvm.MethodName)) ∈ Wall := mwl (k := 402) (by decide +kernel) rfl
theorem mw_403 : (Jvm.Cond.code ({ cls := "RedcrossGantry$LaneSigns", name := "areLawful", desc := "()Z" } : Jvm.MethodName) prog_5_method_3_code (2 : Nat) (Option.some Jvm.ClassFile.FieldType.boolean)) ∈ Wall := mwl (k := 403) (by decide +kernel) rfl
theorem mw_404 : (Jvm.Cond.methodLink "RedcrossGantryLaw" (130 : Nat) ({ cls := "RedcrossGantry", name := "pattern", desc := "()I" } : Jvm.MethodName)) ∈ Wall := mwl (k := 404) (by decide +kernel) rfl
theorem mw_405 : (Jvm.Cond.instanceMethod ({ cls := "RedcrossGantry", name := "pattern", desc := "()I" } : Jvm.MethodName)) ∈ Wall := mwl (k := 405) (by decide +kernel) rfl
theorem mw_406 : (Jvm.Cond.selects "RedcrossGantry" ({ cls := "RedcrossGantry", name := "pattern", desc := "()I" } : Jvm.MethodName) ({ cls := "RedcrossGantry", name := "pattern", desc := "()I" } : Jvm.MethodName)) ∈ Wall := mwl (k := 406) (by decide +kernel) rfl
theorem mw_407 : (Jvm.Cond.code ({ cls := "RedcrossGantry", name := "pattern", desc := "()I" } : Jvm.MethodName) prog_1_method_20_code (3 : Nat) (Option.some Jvm.ClassFile.FieldType.int)) ∈ Wall := mwl (k := 407) (by decide +kernel) rfl
theorem mw_408 : (Jvm.Cond.methodLink "RedcrossGantry" (138 : Nat) ({ cls := "RedcrossGantry$Detectors", name := "beliefAt", desc := "(ILRedcrossGantry$Traffic;)I" } : Jvm.MethodName)) ∈ Wall := mwl (k := 408) (by decide +kernel) rfl
theorem mw_409 : (Jvm.Cond.instanceMethod ({ cls := "RedcrossGantry$Detectors", name := "beliefAt", desc := "(ILRedcrossGantry$Traffic;)I" } : Jvm.MethodName)) ∈ Wall := mwl (k := 409) (by decide +kernel) rfl
theorem mw_410 : (Jvm.Cond.selects "RedcrossGantry$Detectors" ({ cls := "RedcrossGantry$Detectors", name := "beliefAt", desc := "(ILRedcrossGantry$Traffic;)I" } : Jvm.MethodName) ({ cls := "RedcrossGantry$Detectors", name := "beliefAt", desc := "(ILRedcrossGantry$Traffic;)I" } : Jvm.MethodName)) ∈ Wall := mwl (k := 410) (by decide +kernel) rfl
theorem mw_411 : (Jvm.Cond.code ({ cls := "RedcrossGantry$Detectors", name := "beliefAt", desc := "(ILRedcrossGantry$Traffic;)I" } : Jvm.MethodName) prog_3_method_3_code (5 : Nat) (Option.some Jvm.ClassFile.FieldType.int)) ∈ Wall := mwl (k := 411) (by decide +kernel) rfl
theorem mw_413 : (Jvm.Cond.methodLink "RedcrossGantry$Detectors" (18 : Nat) ({ cls := "RedcrossGantry$Traffic", name := "speedAt", desc := "(I)I" } : Jvm.MethodName)) ∈ Wall := mwl (k := 413) (by decide +kernel) rfl
theorem mw_414 : (Jvm.Cond.instanceMethod ({ cls := "RedcrossGantry$Traffic", name := "speedAt", desc := "(I)I" } : Jvm.MethodName)) ∈ Wall := mwl (k := 414) (by decide +kernel) rfl
theorem mw_415 : (Jvm.Cond.selects "RedcrossGantry$Traffic" ({ cls := "RedcrossGantry$Traffic", name := "speedAt", desc := "(I)I" } : Jvm.MethodName) ({ cls := "RedcrossGantry$Traffic", name := "speedAt", desc := "(I)I" } : Jvm.MethodName)) ∈ Wall := mwl (k := 415) (by decide +kernel) rfl
theorem mw_416 : (Jvm.Cond.code ({ cls := "RedcrossGantry$Traffic", name := "speedAt", desc := "(I)I" } : Jvm.MethodName) prog_10_method_3_code (2 : Nat) (Option.some Jvm.ClassFile.FieldType.int)) ∈ Wall := mwl (k := 416) (by decide +kernel) rfl
theorem mw_417 : (Jvm.Cond.methodLink "RedcrossGantry$Traffic" (35 : Nat) ({ cls := "RedcrossGantry$Traffic", name := "mostIn", desc := "(I)I" } : Jvm.MethodName)) ∈ Wall := mwl (k := 417) (by decide +kernel) rfl
theorem mw_418 : (Jvm.Cond.instanceMethod ({ cls := "RedcrossGantry$Traffic", name := "mostIn", desc := "(I)I" } : Jvm.MethodName)) ∈ Wall := mwl (k := 418) (by decide +kernel) rfl
theorem mw_419 : (Jvm.Cond.selects "RedcrossGantry$Traffic" ({ cls := "RedcrossGantry$Traffic", name := "mostIn", desc := "(I)I" } : Jvm.MethodName) ({ cls := "RedcrossGantry$Traffic", name := "mostIn", desc := "(I)I" } : Jvm.MethodName)) ∈ Wall := mwl (k := 419) (by decide +kernel) rfl
theorem mw_420 : (Jvm.Cond.code ({ cls := "RedcrossGantry$Traffic", name := "mostIn", desc := "(I)I" } : Jvm.MethodName) prog_10_method_2_code (5 : Nat) (Option.some Jvm.ClassFile.FieldType.int)) ∈ Wall := mwl (k := 420) (by decide +kernel) rfl
theorem mw_421 : (Jvm.Cond.methodLink "RedcrossGantry$Detectors" (28 : Nat) ({ cls := "RedcrossGantry$Detectors", name := "guessAt", desc := "(ILRedcrossGantry$Traffic;)I" } : Jvm.MethodName)) ∈ Wall := mwl (k := 421) (by decide +kernel) rfl
theorem mw_422 : (Jvm.Cond.instanceMethod ({ cls := "RedcrossGantry$Detectors", name := "guessAt", desc := "(ILRedcrossGantry$Traffic;)I" } : Jvm.MethodName)) ∈ Wall := mwl (k := 422) (by decide +kernel) rfl
theorem mw_423 : (Jvm.Cond.selects "RedcrossGantry$Detectors" ({ cls := "RedcrossGantry$Detectors", name := "guessAt", desc := "(ILRedcrossGantry$Traffic;)I" } : Jvm.MethodName) ({ cls := "RedcrossGantry$Detectors", name := "guessAt", desc := "(ILRedcrossGantry$Traffic;)I" } : Jvm.MethodName)) ∈ Wall := mwl (k := 423) (by decide +kernel) rfl
theorem mw_424 : (Jvm.Cond.code ({ cls := "RedcrossGantry$Detectors", name := "guessAt", desc := "(ILRedcrossGantry$Traffic;)I" } : Jvm.MethodName) prog_3_method_2_code (6 : Nat) (Option.some Jvm.ClassFile.FieldType.int)) ∈ Wall := mwl (k := 424) (by decide +kernel) rfl
theorem mw_425 : (Jvm.Cond.methodLink "RedcrossGantry$Detectors" (32 : Nat) ({ cls := "java/lang/Math", name := "abs", desc := "(I)I" } : Jvm.MethodName)) ∈ Wall := mwl (k := 425) (by decide +kernel) rfl
theorem mw_426 : (Jvm.Cond.static ({ cls := "java/lang/Math", name := "abs", desc := "(I)I" } : Jvm.MethodName)) ∈ Wall := mwl (k := 426) (by decide +kernel) rfl
theorem mw_427 : (Jvm.Cond.code ({ cls := "java/lang/Math", name := "abs", desc := "(I)I" } : Jvm.MethodName) prog_17_method_59_code (1 : Nat) (Option.some Jvm.ClassFile.FieldType.int)) ∈ Wall := mwl (k := 427) (by decide +kernel) rfl
theorem mw_428 : (Jvm.Cond.methodLink "RedcrossGantryLaw" (30 : Nat) ({ cls := "RedcrossGantry", name := "proof", desc := "(III)I" } : Jvm.MethodName)) ∈ Wall := mwl (k := 428) (by decide +kernel) rfl
theorem mw_429 : (Jvm.Cond.instanceMethod ({ cls := "RedcrossGantry", name := "proof", desc := "(III)I" } : Jvm.MethodName)) ∈ Wall := mwl (k := 429) (by decide +kernel) rfl
theorem mw_430 : (Jvm.Cond.selects "RedcrossGantry" ({ cls := "RedcrossGantry", name := "proof", desc := "(III)I" } : Jvm.MethodName) ({ cls := "RedcrossGantry", name := "proof", desc := "(III)I" } : Jvm.MethodName)) ∈ Wall := mwl (k := 430) (by decide +kernel) rfl
theorem mw_431 : (Jvm.Cond.code ({ cls := "RedcrossGantry", name := "proof", desc := "(III)I" } : Jvm.MethodName) prog_1_method_26_code (4 : Nat) (Option.some Jvm.ClassFile.FieldType.int)) ∈ Wall := mwl (k := 431) (by decide +kernel) rfl
theorem mw_432 : (Jvm.Cond.methodLink "RedcrossGantry" (93 : Nat) ({ cls := "RedcrossGantry", name := "needArgument", desc := "(Z)V" } : Jvm.MethodName)) ∈ Wall := mwl (k := 432) (by decide +kernel) rfl
theorem mw_433 : (Jvm.Cond.static ({ cls := "RedcrossGantry", name := "needArgument", desc := "(Z)V" } : Jvm.MethodName)) ∈ Wall := mwl (k := 433) (by decide +kernel) rfl
theorem mw_434 : (Jvm.Cond.code ({ cls := "RedcrossGantry", name := "needArgument", desc := "(Z)V" } : Jvm.MethodName) prog_1_method_32_code (1 : Nat) (Option.none : Option Jvm.ClassFile.FieldType)) ∈ Wall := mwl (k := 434) (by decide +kernel) rfl
theorem mw_451 : (Jvm.Cond.methodLink "RedcrossGantry" (248 : Nat) ({ cls := "RedcrossGantry$Proofs", name := "isKept", desc := "(II)Z" } : Jvm.MethodName)) ∈ Wall := mwl (k := 451) (by decide +kernel) rfl
theorem mw_452 : (Jvm.Cond.static ({ cls := "RedcrossGantry$Proofs", name := "isKept", desc := "(II)Z" } : Jvm.MethodName)) ∈ Wall := mwl (k := 452) (by decide +kernel) rfl
theorem mw_453 : (Jvm.Cond.code ({ cls := "RedcrossGantry$Proofs", name := "isKept", desc := "(II)Z" } : Jvm.MethodName) prog_7_method_2_code (2 : Nat) (Option.some Jvm.ClassFile.FieldType.boolean)) ∈ Wall := mwl (k := 453) (by decide +kernel) rfl
theorem mw_455 : (Jvm.Cond.methodLink "RedcrossGantry" (100 : Nat) ({ cls := "RedcrossGantry", name := "needState", desc := "(Z)V" } : Jvm.MethodName)) ∈ Wall := mwl (k := 455) (by decide +kernel) rfl
theorem mw_456 : (Jvm.Cond.static ({ cls := "RedcrossGantry", name := "needState", desc := "(Z)V" } : Jvm.MethodName)) ∈ Wall := mwl (k := 456) (by decide +kernel) rfl
theorem mw_457 : (Jvm.Cond.code ({ cls := "RedcrossGantry", name := "needState", desc := "(Z)V" } : Jvm.MethodName) prog_1_method_33_code (1 : Nat) (Option.none : Option Jvm.ClassFile.FieldType)) ∈ Wall := mwl (k := 457) (by decide +kernel) rfl
theorem mw_458 : (Jvm.Cond.classLink "RedcrossGantry" (270 : Nat) "java/lang/IllegalStateException") ∈ Wall := mwl (k := 458) (by decide +kernel) rfl
theorem mw_474 : (Jvm.Cond.methodLink "RedcrossGantry" (251 : Nat) ({ cls := "RedcrossGantry$Proofs", name := "speedSign", desc := "(II)I" } : Jvm.MethodName)) ∈ Wall := mwl (k := 474) (by decide +kernel) rfl
theorem mw_475 : (Jvm.Cond.instanceMethod ({ cls := "RedcrossGantry$Proofs", name := "speedSign", desc := "(II)I" } : Jvm.MethodName)) ∈ Wall := mwl (k := 475) (by decide +kernel) rfl
theorem mw_476 : (Jvm.Cond.selects "RedcrossGantry$Proofs" ({ cls := "RedcrossGantry$Proofs", name := "speedSign", desc := "(II)I" } : Jvm.MethodName) ({ cls := "RedcrossGantry$Proofs", name := "speedSign", desc := "(II)I" } : Jvm.MethodName)) ∈ Wall := mwl (k := 476) (by decide +kernel) rfl
theorem mw_477 : (Jvm.Cond.code ({ cls := "RedcrossGantry$Proofs", name := "speedSign", desc := "(II)I" } : Jvm.MethodName) prog_7_method_4_code (3 : Nat) (Option.some Jvm.ClassFile.FieldType.int)) ∈ Wall := mwl (k := 477) (by decide +kernel) rfl
theorem mw_478 : (Jvm.Cond.methodLink "RedcrossGantry" (254 : Nat) ({ cls := "RedcrossGantry$Proofs", name := "laneSign", desc := "(III)I" } : Jvm.MethodName)) ∈ Wall := mwl (k := 478) (by decide +kernel) rfl
theorem mw_479 : (Jvm.Cond.instanceMethod ({ cls := "RedcrossGantry$Proofs", name := "laneSign", desc := "(III)I" } : Jvm.MethodName)) ∈ Wall := mwl (k := 479) (by decide +kernel) rfl
theorem mw_480 : (Jvm.Cond.selects "RedcrossGantry$Proofs" ({ cls := "RedcrossGantry$Proofs", name := "laneSign", desc := "(III)I" } : Jvm.MethodName) ({ cls := "RedcrossGantry$Proofs", name := "laneSign", desc := "(III)I" } : Jvm.MethodName)) ∈ Wall := mwl (k := 480) (by decide +kernel) rfl
theorem mw_481 : (Jvm.Cond.code ({ cls := "RedcrossGantry$Proofs", name := "laneSign", desc := "(III)I" } : Jvm.MethodName) prog_7_method_5_code (4 : Nat) (Option.some Jvm.ClassFile.FieldType.int)) ∈ Wall := mwl (k := 481) (by decide +kernel) rfl
theorem mw_482 : (Jvm.Cond.methodLink "RedcrossGantryLaw" (148 : Nat) ({ cls := "RedcrossGantryLaw", name := "draw", desc := "([II)I" } : Jvm.MethodName)) ∈ Wall := mwl (k := 482) (by decide +kernel) rfl
theorem mw_483 : (Jvm.Cond.static ({ cls := "RedcrossGantryLaw", name := "draw", desc := "([II)I" } : Jvm.MethodName)) ∈ Wall := mwl (k := 483) (by decide +kernel) rfl
theorem mw_484 : (Jvm.Cond.code ({ cls := "RedcrossGantryLaw", name := "draw", desc := "([II)I" } : Jvm.MethodName) method_2_code (2 : Nat) (Option.some Jvm.ClassFile.FieldType.int)) ∈ Wall := mwl (k := 484) (by decide +kernel) rfl
theorem mw_485 : (Jvm.Cond.constant "RedcrossGantryLaw" (7 : Nat) (2147483647 : Int32)) ∈ Wall := mwl (k := 485) (by decide +kernel) rfl
theorem mw_488 : (Jvm.Cond.methodLink "RedcrossGantryLaw" (152 : Nat) ({ cls := "RedcrossGantryLaw", name := "step", desc := "(LRedcrossGantry;[IIII)Z" } : Jvm.MethodName)) ∈ Wall := mwl (k := 488) (by decide +kernel) rfl
theorem mw_489 : (Jvm.Cond.static ({ cls := "RedcrossGantryLaw", name := "step", desc := "(LRedcrossGantry;[IIII)Z" } : Jvm.MethodName)) ∈ Wall := mwl (k := 489) (by decide +kernel) rfl
theorem mw_490 : (Jvm.Cond.code ({ cls := "RedcrossGantryLaw", name := "step", desc := "(LRedcrossGantry;[IIII)Z" } : Jvm.MethodName) method_6_code (18 : Nat) (Option.some Jvm.ClassFile.FieldType.boolean)) ∈ Wall := mwl (k := 490) (by decide +kernel) rfl
theorem mw_501 : (Jvm.Cond.classLink "RedcrossGantryLaw" (33 : Nat) "java/lang/IllegalStateException") ∈ Wall := mwl (k := 501) (by decide +kernel) rfl
theorem mw_569 : (Jvm.Cond.methodLink "RedcrossGantryLaw" (52 : Nat) ({ cls := "RedcrossGantryLaw", name := "stop", desc := "(LRedcrossGantry;II)Z" } : Jvm.MethodName)) ∈ Wall := mwl (k := 569) (by decide +kernel) rfl
theorem mw_570 : (Jvm.Cond.static ({ cls := "RedcrossGantryLaw", name := "stop", desc := "(LRedcrossGantry;II)Z" } : Jvm.MethodName)) ∈ Wall := mwl (k := 570) (by decide +kernel) rfl
theorem mw_571 : (Jvm.Cond.codeWith ({ cls := "RedcrossGantryLaw", name := "stop", desc := "(LRedcrossGantry;II)Z" } : Jvm.MethodName) method_4_code (4 : Nat) (Option.some Jvm.ClassFile.FieldType.boolean) [((0 : Nat), (6 : Nat), (9 : Nat), (33 : Nat))]) ∈ Wall := mwl (k := 571) (by decide +kernel) rfl
theorem mw_572 : (Jvm.Cond.methodLink "RedcrossGantryLaw" (35 : Nat) ({ cls := "RedcrossGantry", name := "stop", desc := "(II)V" } : Jvm.MethodName)) ∈ Wall := mwl (k := 572) (by decide +kernel) rfl
theorem mw_573 : (Jvm.Cond.instanceMethod ({ cls := "RedcrossGantry", name := "stop", desc := "(II)V" } : Jvm.MethodName)) ∈ Wall := mwl (k := 573) (by decide +kernel) rfl
theorem mw_574 : (Jvm.Cond.selects "RedcrossGantry" ({ cls := "RedcrossGantry", name := "stop", desc := "(II)V" } : Jvm.MethodName) ({ cls := "RedcrossGantry", name := "stop", desc := "(II)V" } : Jvm.MethodName)) ∈ Wall := mwl (k := 574) (by decide +kernel) rfl
theorem mw_575 : (Jvm.Cond.code ({ cls := "RedcrossGantry", name := "stop", desc := "(II)V" } : Jvm.MethodName) prog_1_method_16_code (4 : Nat) (Option.none : Option Jvm.ClassFile.FieldType)) ∈ Wall := mwl (k := 575) (by decide +kernel) rfl
theorem mw_576 : (Jvm.Cond.methodLink "RedcrossGantry" (188 : Nat) ({ cls := "RedcrossGantry$Shoulder", name := "shutAll", desc := "()I" } : Jvm.MethodName)) ∈ Wall := mwl (k := 576) (by decide +kernel) rfl
theorem mw_577 : (Jvm.Cond.instanceMethod ({ cls := "RedcrossGantry$Shoulder", name := "shutAll", desc := "()I" } : Jvm.MethodName)) ∈ Wall := mwl (k := 577) (by decide +kernel) rfl
theorem mw_578 : (Jvm.Cond.selects "RedcrossGantry$Shoulder" ({ cls := "RedcrossGantry$Shoulder", name := "shutAll", desc := "()I" } : Jvm.MethodName) ({ cls := "RedcrossGantry$Shoulder", name := "shutAll", desc := "()I" } : Jvm.MethodName)) ∈ Wall := mwl (k := 578) (by decide +kernel) rfl
theorem mw_579 : (Jvm.Cond.code ({ cls := "RedcrossGantry$Shoulder", name := "shutAll", desc := "()I" } : Jvm.MethodName) prog_8_method_5_code (3 : Nat) (Option.some Jvm.ClassFile.FieldType.int)) ∈ Wall := mwl (k := 579) (by decide +kernel) rfl
theorem mw_590 : (Jvm.Cond.methodLink "RedcrossGantryLaw" (66 : Nat) ({ cls := "RedcrossGantry", name := "holds", desc := "(II)I" } : Jvm.MethodName)) ∈ Wall := mwl (k := 590) (by decide +kernel) rfl
theorem mw_591 : (Jvm.Cond.instanceMethod ({ cls := "RedcrossGantry", name := "holds", desc := "(II)I" } : Jvm.MethodName)) ∈ Wall := mwl (k := 591) (by decide +kernel) rfl
theorem mw_592 : (Jvm.Cond.selects "RedcrossGantry" ({ cls := "RedcrossGantry", name := "holds", desc := "(II)I" } : Jvm.MethodName) ({ cls := "RedcrossGantry", name := "holds", desc := "(II)I" } : Jvm.MethodName)) ∈ Wall := mwl (k := 592) (by decide +kernel) rfl
theorem mw_593 : (Jvm.Cond.code ({ cls := "RedcrossGantry", name := "holds", desc := "(II)I" } : Jvm.MethodName) prog_1_method_4_code (3 : Nat) (Option.some Jvm.ClassFile.FieldType.int)) ∈ Wall := mwl (k := 593) (by decide +kernel) rfl
theorem mw_625 : (Jvm.Cond.methodLink "RedcrossGantryLaw" (84 : Nat) ({ cls := "RedcrossGantry", name := "section", desc := "(II)I" } : Jvm.MethodName)) ∈ Wall := mwl (k := 625) (by decide +kernel) rfl
theorem mw_626 : (Jvm.Cond.instanceMethod ({ cls := "RedcrossGantry", name := "section", desc := "(II)I" } : Jvm.MethodName)) ∈ Wall := mwl (k := 626) (by decide +kernel) rfl
theorem mw_627 : (Jvm.Cond.selects "RedcrossGantry" ({ cls := "RedcrossGantry", name := "section", desc := "(II)I" } : Jvm.MethodName) ({ cls := "RedcrossGantry", name := "section", desc := "(II)I" } : Jvm.MethodName)) ∈ Wall := mwl (k := 627) (by decide +kernel) rfl
theorem mw_628 : (Jvm.Cond.code ({ cls := "RedcrossGantry", name := "section", desc := "(II)I" } : Jvm.MethodName) prog_1_method_6_code (3 : Nat) (Option.some Jvm.ClassFile.FieldType.int)) ∈ Wall := mwl (k := 628) (by decide +kernel) rfl
theorem mw_629 : (Jvm.Cond.methodLink "RedcrossGantry" (134 : Nat) ({ cls := "RedcrossGantry$Traffic", name := "speedAt", desc := "(I)I" } : Jvm.MethodName)) ∈ Wall := mwl (k := 629) (by decide +kernel) rfl
theorem mw_630 : (Jvm.Cond.methodLink "RedcrossGantry" (142 : Nat) ({ cls := "RedcrossGantry$Detectors", name := "guessAt", desc := "(ILRedcrossGantry$Traffic;)I" } : Jvm.MethodName)) ∈ Wall := mwl (k := 630) (by decide +kernel) rfl
theorem mw_689 : (Jvm.Cond.methodLink "RedcrossGantryLaw" (133 : Nat) ({ cls := "RedcrossGantry", name := "vehicles", desc := "(I)I" } : Jvm.MethodName)) ∈ Wall := mwl (k := 689) (by decide +kernel) rfl
theorem mw_690 : (Jvm.Cond.instanceMethod ({ cls := "RedcrossGantry", name := "vehicles", desc := "(I)I" } : Jvm.MethodName)) ∈ Wall := mwl (k := 690) (by decide +kernel) rfl
theorem mw_691 : (Jvm.Cond.selects "RedcrossGantry" ({ cls := "RedcrossGantry", name := "vehicles", desc := "(I)I" } : Jvm.MethodName) ({ cls := "RedcrossGantry", name := "vehicles", desc := "(I)I" } : Jvm.MethodName)) ∈ Wall := mwl (k := 691) (by decide +kernel) rfl
theorem mw_692 : (Jvm.Cond.code ({ cls := "RedcrossGantry", name := "vehicles", desc := "(I)I" } : Jvm.MethodName) prog_1_method_5_code (2 : Nat) (Option.some Jvm.ClassFile.FieldType.int)) ∈ Wall := mwl (k := 692) (by decide +kernel) rfl
theorem mw_693 : (Jvm.Cond.methodLink "RedcrossGantry" (120 : Nat) ({ cls := "RedcrossGantry$Traffic", name := "countOnRoad", desc := "()I" } : Jvm.MethodName)) ∈ Wall := mwl (k := 693) (by decide +kernel) rfl
theorem mw_694 : (Jvm.Cond.instanceMethod ({ cls := "RedcrossGantry$Traffic", name := "countOnRoad", desc := "()I" } : Jvm.MethodName)) ∈ Wall := mwl (k := 694) (by decide +kernel) rfl
theorem mw_695 : (Jvm.Cond.selects "RedcrossGantry$Traffic" ({ cls := "RedcrossGantry$Traffic", name := "countOnRoad", desc := "()I" } : Jvm.MethodName) ({ cls := "RedcrossGantry$Traffic", name := "countOnRoad", desc := "()I" } : Jvm.MethodName)) ∈ Wall := mwl (k := 695) (by decide +kernel) rfl
theorem mw_696 : (Jvm.Cond.code ({ cls := "RedcrossGantry$Traffic", name := "countOnRoad", desc := "()I" } : Jvm.MethodName) prog_10_method_4_code (3 : Nat) (Option.some Jvm.ClassFile.FieldType.int)) ∈ Wall := mwl (k := 696) (by decide +kernel) rfl
theorem mw_779 : (Jvm.Cond.methodLink "RedcrossGantryLaw" (143 : Nat) ({ cls := "RedcrossGantryLaw", name := "isShown", desc := "(LRedcrossGantry;I)Z" } : Jvm.MethodName)) ∈ Wall := mwl (k := 779) (by decide +kernel) rfl
theorem mw_780 : (Jvm.Cond.static ({ cls := "RedcrossGantryLaw", name := "isShown", desc := "(LRedcrossGantry;I)Z" } : Jvm.MethodName)) ∈ Wall := mwl (k := 780) (by decide +kernel) rfl
theorem mw_781 : (Jvm.Cond.code ({ cls := "RedcrossGantryLaw", name := "isShown", desc := "(LRedcrossGantry;I)Z" } : Jvm.MethodName) method_15_code (6 : Nat) (Option.some Jvm.ClassFile.FieldType.boolean)) ∈ Wall := mwl (k := 781) (by decide +kernel) rfl
theorem mw_782 : (Jvm.Cond.methodLink "RedcrossGantryLaw" (156 : Nat) ({ cls := "RedcrossGantryLaw", name := "isRoad", desc := "(LRedcrossGantry;)Z" } : Jvm.MethodName)) ∈ Wall := mwl (k := 782) (by decide +kernel) rfl
theorem mw_783 : (Jvm.Cond.static ({ cls := "RedcrossGantryLaw", name := "isRoad", desc := "(LRedcrossGantry;)Z" } : Jvm.MethodName)) ∈ Wall := mwl (k := 783) (by decide +kernel) rfl
theorem mw_784 : (Jvm.Cond.code ({ cls := "RedcrossGantryLaw", name := "isRoad", desc := "(LRedcrossGantry;)Z" } : Jvm.MethodName) method_16_code (7 : Nat) (Option.some Jvm.ClassFile.FieldType.boolean)) ∈ Wall := mwl (k := 784) (by decide +kernel) rfl
