theorem mw_0 : (Jvm.Cond.selects "RedcrossGantry$Bookings" ⟨"RedcrossGantry$Bookings", "tellCrossesOf", "(I[I)V"⟩ ⟨"RedcrossGantry$Bookings", "tellCrossesOf", "(I[I)V"⟩) ∈ Wall := mwl (k := 0) (by decide +kernel) rfl
theorem mw_2 : (Jvm.Cond.selects "RedcrossGantry" ⟨"RedcrossGantry", "setLaneSigns", "()V"⟩ ⟨"RedcrossGantry", "setLaneSigns", "()V"⟩) ∈ Wall := mwl (k := 2) (by decide +kernel) rfl
theorem mw_16 : (Jvm.Cond.selects "RedcrossGantry$SpeedSigns" ⟨"RedcrossGantry$SpeedSigns", "wantAt", "(II)I"⟩ ⟨"RedcrossGantry$SpeedSigns", "wantAt", "(II)I"⟩) ∈ Wall := mwl (k := 16) (by decide +kernel) rfl
theorem mw_17 : (Jvm.Cond.selects "RedcrossGantry$SpeedSigns" ⟨"RedcrossGantry$SpeedSigns", "staysBelow", "(III)Z"⟩ ⟨"RedcrossGantry$SpeedSigns", "staysBelow", "(III)Z"⟩) ∈ Wall := mwl (k := 17) (by decide +kernel) rfl
theorem mw_18 : (Jvm.Cond.initialized "RedcrossGantryLaw") ∈ Wall := mwl (k := 18) (by decide +kernel) rfl
theorem mw_19 : (Jvm.Cond.initialized "RedcrossGantry") ∈ Wall := mwl (k := 19) (by decide +kernel) rfl
theorem mw_20 : (Jvm.Cond.initialized "RedcrossGantry$Traffic") ∈ Wall := mwl (k := 20) (by decide +kernel) rfl
theorem mw_21 : (Jvm.Cond.initialized "RedcrossGantry$Detectors") ∈ Wall := mwl (k := 21) (by decide +kernel) rfl
theorem mw_22 : (Jvm.Cond.initialized "RedcrossGantry$SpeedSigns") ∈ Wall := mwl (k := 22) (by decide +kernel) rfl
theorem mw_23 : (Jvm.Cond.initialized "RedcrossGantry$LaneSigns") ∈ Wall := mwl (k := 23) (by decide +kernel) rfl
theorem mw_24 : (Jvm.Cond.initialized "RedcrossGantry$Shoulder") ∈ Wall := mwl (k := 24) (by decide +kernel) rfl
theorem mw_25 : (Jvm.Cond.initialized "RedcrossGantry$Incidents") ∈ Wall := mwl (k := 25) (by decide +kernel) rfl
theorem mw_26 : (Jvm.Cond.initialized "RedcrossGantry$Patrols") ∈ Wall := mwl (k := 26) (by decide +kernel) rfl
theorem mw_27 : (Jvm.Cond.initialized "RedcrossGantry$Bookings") ∈ Wall := mwl (k := 27) (by decide +kernel) rfl
theorem mw_28 : (Jvm.Cond.initialized "RedcrossGantry$Proofs") ∈ Wall := mwl (k := 28) (by decide +kernel) rfl
theorem mw_29 : (Jvm.Cond.initialized "java/lang/Math") ∈ Wall := mwl (k := 29) (by decide +kernel) rfl
theorem mw_33 : (Jvm.Cond.initialized "java/lang/IndexOutOfBoundsException") ∈ Wall := mwl (k := 33) (by decide +kernel) rfl
theorem mw_35 : (Jvm.Cond.initialized "java/lang/IllegalStateException") ∈ Wall := mwl (k := 35) (by decide +kernel) rfl
theorem mw_36 : (Jvm.Cond.classLink "RedcrossGantryLaw" (11 : Nat) "RedcrossGantry") ∈ Wall := mwl (k := 36) (by decide +kernel) rfl
theorem mw_37 : (Jvm.Cond.instantiable "RedcrossGantry" (10 : Nat)) ∈ Wall := mwl (k := 37) (by decide +kernel) rfl
theorem mw_38 : (Jvm.Cond.methodLink "RedcrossGantryLaw" (147 : Nat) ({ cls := "RedcrossGantry", name := "<init>", desc := "()V" } : Jvm.MethodName)) ∈ Wall := mwl (k := 38) (by decide +kernel) rfl
theorem mw_39 : (Jvm.Cond.instanceMethod ({ cls := "RedcrossGantry", name := "<init>", desc := "()V" } : Jvm.MethodName)) ∈ Wall := mwl (k := 39) (by decide +kernel) rfl
theorem mw_40 : (Jvm.Cond.code ({ cls := "RedcrossGantry", name := "<init>", desc := "()V" } : Jvm.MethodName) prog_1_method_1_code (1 : Nat) (Option.none : Option Jvm.ClassFile.FieldType)) ∈ Wall := mwl (k := 40) (by decide +kernel) rfl
theorem mw_41 : (Jvm.Cond.methodLink "RedcrossGantry" (1 : Nat) ({ cls := "java/lang/Object", name := "<init>", desc := "()V" } : Jvm.MethodName)) ∈ Wall := mwl (k := 41) (by decide +kernel) rfl
theorem mw_42 : (Jvm.Cond.instanceMethod ({ cls := "java/lang/Object", name := "<init>", desc := "()V" } : Jvm.MethodName)) ∈ Wall := mwl (k := 42) (by decide +kernel) rfl
theorem mw_43 : (Jvm.Cond.code ({ cls := "java/lang/Object", name := "<init>", desc := "()V" } : Jvm.MethodName) object_method_1_code (1 : Nat) (Option.none : Option Jvm.ClassFile.FieldType)) ∈ Wall := mwl (k := 43) (by decide +kernel) rfl
theorem mw_44 : (Jvm.Cond.classLink "RedcrossGantry" (13 : Nat) "RedcrossGantry$Traffic") ∈ Wall := mwl (k := 44) (by decide +kernel) rfl
theorem mw_45 : (Jvm.Cond.instantiable "RedcrossGantry$Traffic" (7 : Nat)) ∈ Wall := mwl (k := 45) (by decide +kernel) rfl
theorem mw_47 : (Jvm.Cond.instanceMethod ({ cls := "RedcrossGantry$Traffic", name := "<init>", desc := "()V" } : Jvm.MethodName)) ∈ Wall := mwl (k := 47) (by decide +kernel) rfl
theorem mw_48 : (Jvm.Cond.code ({ cls := "RedcrossGantry$Traffic", name := "<init>", desc := "()V" } : Jvm.MethodName) prog_10_method_1_code (1 : Nat) (Option.none : Option Jvm.ClassFile.FieldType)) ∈ Wall := mwl (k := 48) (by decide +kernel) rfl
theorem mw_49 : (Jvm.Cond.methodLink "RedcrossGantry$Traffic" (3 : Nat) ({ cls := "java/lang/Object", name := "<init>", desc := "()V" } : Jvm.MethodName)) ∈ Wall := mwl (k := 49) (by decide +kernel) rfl
theorem mw_50 : (Jvm.Cond.fieldLink "RedcrossGantry$Traffic" (9 : Nat) "RedcrossGantry$Traffic" "held" "[I") ∈ Wall := mwl (k := 50) (by decide +kernel) rfl
theorem mw_51 : (Jvm.Cond.fieldLink "RedcrossGantry" (110 : Nat) "RedcrossGantry$Traffic" "held" "[I") ∈ Wall := mwl (k := 51) (by decide +kernel) rfl
theorem mw_52 : (Jvm.Cond.fieldLink "RedcrossGantry$Traffic" (15 : Nat) "RedcrossGantry$Traffic" "stopped" "[Z") ∈ Wall := mwl (k := 52) (by decide +kernel) rfl
theorem mw_53 : (Jvm.Cond.fieldLink "RedcrossGantry" (191 : Nat) "RedcrossGantry$Traffic" "stopped" "[Z") ∈ Wall := mwl (k := 53) (by decide +kernel) rfl
theorem mw_54 : (Jvm.Cond.fieldLink "RedcrossGantry$Traffic" (19 : Nat) "RedcrossGantry$Traffic" "broken" "[Z") ∈ Wall := mwl (k := 54) (by decide +kernel) rfl
theorem mw_55 : (Jvm.Cond.fieldLink "RedcrossGantry" (145 : Nat) "RedcrossGantry$Traffic" "broken" "[Z") ∈ Wall := mwl (k := 55) (by decide +kernel) rfl
theorem mw_56 : (Jvm.Cond.fieldLink "RedcrossGantry$Traffic" (22 : Nat) "RedcrossGantry$Traffic" "demand" "I") ∈ Wall := mwl (k := 56) (by decide +kernel) rfl
theorem mw_58 : (Jvm.Cond.fieldLink "RedcrossGantry$Traffic" (26 : Nat) "RedcrossGantry$Traffic" "came" "I") ∈ Wall := mwl (k := 58) (by decide +kernel) rfl
theorem mw_59 : (Jvm.Cond.fieldLink "RedcrossGantry" (117 : Nat) "RedcrossGantry$Traffic" "came" "I") ∈ Wall := mwl (k := 59) (by decide +kernel) rfl
theorem mw_60 : (Jvm.Cond.fieldLink "RedcrossGantry$Traffic" (29 : Nat) "RedcrossGantry$Traffic" "waiting" "I") ∈ Wall := mwl (k := 60) (by decide +kernel) rfl
theorem mw_61 : (Jvm.Cond.fieldLink "RedcrossGantry" (124 : Nat) "RedcrossGantry$Traffic" "waiting" "I") ∈ Wall := mwl (k := 61) (by decide +kernel) rfl
theorem mw_62 : (Jvm.Cond.fieldLink "RedcrossGantry$Traffic" (32 : Nat) "RedcrossGantry$Traffic" "gone" "I") ∈ Wall := mwl (k := 62) (by decide +kernel) rfl
theorem mw_63 : (Jvm.Cond.fieldLink "RedcrossGantry" (127 : Nat) "RedcrossGantry$Traffic" "gone" "I") ∈ Wall := mwl (k := 63) (by decide +kernel) rfl
theorem mw_79 : (Jvm.Cond.arrayClass Jvm.ClassFile.FieldType.int) ∈ Wall := mwl (k := 79) (by decide +kernel) rfl
theorem mw_80 : (Jvm.Cond.arrayClass Jvm.ClassFile.FieldType.boolean) ∈ Wall := mwl (k := 80) (by decide +kernel) rfl
theorem mw_81 : (Jvm.Cond.classLink "RedcrossGantry" (20 : Nat) "RedcrossGantry$Detectors") ∈ Wall := mwl (k := 81) (by decide +kernel) rfl
theorem mw_82 : (Jvm.Cond.instantiable "RedcrossGantry$Detectors" (2 : Nat)) ∈ Wall := mwl (k := 82) (by decide +kernel) rfl
theorem mw_84 : (Jvm.Cond.instanceMethod ({ cls := "RedcrossGantry$Detectors", name := "<init>", desc := "()V" } : Jvm.MethodName)) ∈ Wall := mwl (k := 84) (by decide +kernel) rfl
theorem mw_85 : (Jvm.Cond.code ({ cls := "RedcrossGantry$Detectors", name := "<init>", desc := "()V" } : Jvm.MethodName) prog_3_method_1_code (1 : Nat) (Option.none : Option Jvm.ClassFile.FieldType)) ∈ Wall := mwl (k := 85) (by decide +kernel) rfl
theorem mw_86 : (Jvm.Cond.methodLink "RedcrossGantry$Detectors" (3 : Nat) ({ cls := "java/lang/Object", name := "<init>", desc := "()V" } : Jvm.MethodName)) ∈ Wall := mwl (k := 86) (by decide +kernel) rfl
theorem mw_87 : (Jvm.Cond.fieldLink "RedcrossGantry$Detectors" (9 : Nat) "RedcrossGantry$Detectors" "is" "[I") ∈ Wall := mwl (k := 87) (by decide +kernel) rfl
theorem mw_88 : (Jvm.Cond.fieldLink "RedcrossGantry" (149 : Nat) "RedcrossGantry$Detectors" "is" "[I") ∈ Wall := mwl (k := 88) (by decide +kernel) rfl
theorem mw_89 : (Jvm.Cond.fieldLink "RedcrossGantry$Detectors" (15 : Nat) "RedcrossGantry$Detectors" "stuckAt" "[I") ∈ Wall := mwl (k := 89) (by decide +kernel) rfl
theorem mw_96 : (Jvm.Cond.classLink "RedcrossGantry" (27 : Nat) "RedcrossGantry$SpeedSigns") ∈ Wall := mwl (k := 96) (by decide +kernel) rfl
theorem mw_97 : (Jvm.Cond.instantiable "RedcrossGantry$SpeedSigns" (4 : Nat)) ∈ Wall := mwl (k := 97) (by decide +kernel) rfl
theorem mw_98 : (Jvm.Cond.methodLink "RedcrossGantry" (29 : Nat) ({ cls := "RedcrossGantry$SpeedSigns", name := "<init>", desc := "()V" } : Jvm.MethodName)) ∈ Wall := mwl (k := 98) (by decide +kernel) rfl
theorem mw_99 : (Jvm.Cond.instanceMethod ({ cls := "RedcrossGantry$SpeedSigns", name := "<init>", desc := "()V" } : Jvm.MethodName)) ∈ Wall := mwl (k := 99) (by decide +kernel) rfl
theorem mw_100 : (Jvm.Cond.code ({ cls := "RedcrossGantry$SpeedSigns", name := "<init>", desc := "()V" } : Jvm.MethodName) prog_9_method_1_code (2 : Nat) (Option.none : Option Jvm.ClassFile.FieldType)) ∈ Wall := mwl (k := 100) (by decide +kernel) rfl
theorem mw_101 : (Jvm.Cond.methodLink "RedcrossGantry$SpeedSigns" (3 : Nat) ({ cls := "java/lang/Object", name := "<init>", desc := "()V" } : Jvm.MethodName)) ∈ Wall := mwl (k := 101) (by decide +kernel) rfl
theorem mw_102 : (Jvm.Cond.fieldLink "RedcrossGantry$SpeedSigns" (9 : Nat) "RedcrossGantry$SpeedSigns" "limits" "[I") ∈ Wall := mwl (k := 102) (by decide +kernel) rfl
theorem mw_104 : (Jvm.Cond.fieldLink "RedcrossGantry$SpeedSigns" (15 : Nat) "RedcrossGantry$SpeedSigns" "shown" "[I") ∈ Wall := mwl (k := 104) (by decide +kernel) rfl
theorem mw_105 : (Jvm.Cond.fieldLink "RedcrossGantry" (80 : Nat) "RedcrossGantry$SpeedSigns" "shown" "[I") ∈ Wall := mwl (k := 105) (by decide +kernel) rfl
theorem mw_106 : (Jvm.Cond.fieldLink "RedcrossGantry$SpeedSigns" (18 : Nat) "RedcrossGantry$SpeedSigns" "loweredAt" "[I") ∈ Wall := mwl (k := 106) (by decide +kernel) rfl
theorem mw_107 : (Jvm.Cond.fieldLink "RedcrossGantry$SpeedSigns" (21 : Nat) "RedcrossGantry$SpeedSigns" "weather" "I") ∈ Wall := mwl (k := 107) (by decide +kernel) rfl
theorem mw_118 : (Jvm.Cond.classLink "RedcrossGantry" (34 : Nat) "RedcrossGantry$LaneSigns") ∈ Wall := mwl (k := 118) (by decide +kernel) rfl
theorem mw_119 : (Jvm.Cond.instantiable "RedcrossGantry$LaneSigns" (3 : Nat)) ∈ Wall := mwl (k := 119) (by decide +kernel) rfl
theorem mw_120 : (Jvm.Cond.methodLink "RedcrossGantry" (36 : Nat) ({ cls := "RedcrossGantry$LaneSigns", name := "<init>", desc := "()V" } : Jvm.MethodName)) ∈ Wall := mwl (k := 120) (by decide +kernel) rfl
theorem mw_121 : (Jvm.Cond.instanceMethod ({ cls := "RedcrossGantry$LaneSigns", name := "<init>", desc := "()V" } : Jvm.MethodName)) ∈ Wall := mwl (k := 121) (by decide +kernel) rfl
theorem mw_122 : (Jvm.Cond.code ({ cls := "RedcrossGantry$LaneSigns", name := "<init>", desc := "()V" } : Jvm.MethodName) prog_5_method_1_code (2 : Nat) (Option.none : Option Jvm.ClassFile.FieldType)) ∈ Wall := mwl (k := 122) (by decide +kernel) rfl
theorem mw_123 : (Jvm.Cond.methodLink "RedcrossGantry$LaneSigns" (3 : Nat) ({ cls := "java/lang/Object", name := "<init>", desc := "()V" } : Jvm.MethodName)) ∈ Wall := mwl (k := 123) (by decide +kernel) rfl
theorem mw_124 : (Jvm.Cond.fieldLink "RedcrossGantry$LaneSigns" (9 : Nat) "RedcrossGantry$LaneSigns" "orders" "[I") ∈ Wall := mwl (k := 124) (by decide +kernel) rfl
theorem mw_126 : (Jvm.Cond.fieldLink "RedcrossGantry$LaneSigns" (15 : Nat) "RedcrossGantry$LaneSigns" "told" "[I") ∈ Wall := mwl (k := 126) (by decide +kernel) rfl
theorem mw_127 : (Jvm.Cond.fieldLink "RedcrossGantry$LaneSigns" (18 : Nat) "RedcrossGantry$LaneSigns" "shown" "[I") ∈ Wall := mwl (k := 127) (by decide +kernel) rfl
theorem mw_128 : (Jvm.Cond.fieldLink "RedcrossGantry" (84 : Nat) "RedcrossGantry$LaneSigns" "shown" "[I") ∈ Wall := mwl (k := 128) (by decide +kernel) rfl
theorem mw_136 : (Jvm.Cond.classLink "RedcrossGantry" (41 : Nat) "RedcrossGantry$Shoulder") ∈ Wall := mwl (k := 136) (by decide +kernel) rfl
theorem mw_137 : (Jvm.Cond.instantiable "RedcrossGantry$Shoulder" (2 : Nat)) ∈ Wall := mwl (k := 137) (by decide +kernel) rfl
theorem mw_138 : (Jvm.Cond.methodLink "RedcrossGantry" (43 : Nat) ({ cls := "RedcrossGantry$Shoulder", name := "<init>", desc := "()V" } : Jvm.MethodName)) ∈ Wall := mwl (k := 138) (by decide +kernel) rfl
theorem mw_139 : (Jvm.Cond.instanceMethod ({ cls := "RedcrossGantry$Shoulder", name := "<init>", desc := "()V" } : Jvm.MethodName)) ∈ Wall := mwl (k := 139) (by decide +kernel) rfl
theorem mw_140 : (Jvm.Cond.code ({ cls := "RedcrossGantry$Shoulder", name := "<init>", desc := "()V" } : Jvm.MethodName) prog_8_method_1_code (2 : Nat) (Option.none : Option Jvm.ClassFile.FieldType)) ∈ Wall := mwl (k := 140) (by decide +kernel) rfl
theorem mw_141 : (Jvm.Cond.methodLink "RedcrossGantry$Shoulder" (3 : Nat) ({ cls := "java/lang/Object", name := "<init>", desc := "()V" } : Jvm.MethodName)) ∈ Wall := mwl (k := 141) (by decide +kernel) rfl
theorem mw_142 : (Jvm.Cond.fieldLink "RedcrossGantry$Shoulder" (9 : Nat) "RedcrossGantry$Shoulder" "open" "[Z") ∈ Wall := mwl (k := 142) (by decide +kernel) rfl
theorem mw_143 : (Jvm.Cond.fieldLink "RedcrossGantry$Shoulder" (15 : Nat) "RedcrossGantry$Shoulder" "foundClearAt" "[I") ∈ Wall := mwl (k := 143) (by decide +kernel) rfl
theorem mw_144 : (Jvm.Cond.fieldLink "RedcrossGantry" (179 : Nat) "RedcrossGantry$Shoulder" "foundClearAt" "[I") ∈ Wall := mwl (k := 144) (by decide +kernel) rfl
theorem mw_150 : (Jvm.Cond.classLink "RedcrossGantry" (48 : Nat) "RedcrossGantry$Incidents") ∈ Wall := mwl (k := 150) (by decide +kernel) rfl
theorem mw_151 : (Jvm.Cond.instantiable "RedcrossGantry$Incidents" (4 : Nat)) ∈ Wall := mwl (k := 151) (by decide +kernel) rfl
theorem mw_153 : (Jvm.Cond.instanceMethod ({ cls := "RedcrossGantry$Incidents", name := "<init>", desc := "()V" } : Jvm.MethodName)) ∈ Wall := mwl (k := 153) (by decide +kernel) rfl
theorem mw_154 : (Jvm.Cond.code ({ cls := "RedcrossGantry$Incidents", name := "<init>", desc := "()V" } : Jvm.MethodName) prog_4_method_1_code (1 : Nat) (Option.none : Option Jvm.ClassFile.FieldType)) ∈ Wall := mwl (k := 154) (by decide +kernel) rfl
theorem mw_155 : (Jvm.Cond.methodLink "RedcrossGantry$Incidents" (3 : Nat) ({ cls := "java/lang/Object", name := "<init>", desc := "()V" } : Jvm.MethodName)) ∈ Wall := mwl (k := 155) (by decide +kernel) rfl
theorem mw_156 : (Jvm.Cond.fieldLink "RedcrossGantry$Incidents" (11 : Nat) "RedcrossGantry$Incidents" "places" "[I") ∈ Wall := mwl (k := 156) (by decide +kernel) rfl
theorem mw_158 : (Jvm.Cond.fieldLink "RedcrossGantry$Incidents" (15 : Nat) "RedcrossGantry$Incidents" "how" "[I") ∈ Wall := mwl (k := 158) (by decide +kernel) rfl
theorem mw_160 : (Jvm.Cond.fieldLink "RedcrossGantry$Incidents" (18 : Nat) "RedcrossGantry$Incidents" "patrols" "[I") ∈ Wall := mwl (k := 160) (by decide +kernel) rfl
theorem mw_162 : (Jvm.Cond.fieldLink "RedcrossGantry$Incidents" (21 : Nat) "RedcrossGantry$Incidents" "count" "I") ∈ Wall := mwl (k := 162) (by decide +kernel) rfl
theorem mw_172 : (Jvm.Cond.classLink "RedcrossGantry" (55 : Nat) "RedcrossGantry$Patrols") ∈ Wall := mwl (k := 172) (by decide +kernel) rfl
theorem mw_173 : (Jvm.Cond.instantiable "RedcrossGantry$Patrols" (3 : Nat)) ∈ Wall := mwl (k := 173) (by decide +kernel) rfl
theorem mw_175 : (Jvm.Cond.instanceMethod ({ cls := "RedcrossGantry$Patrols", name := "<init>", desc := "()V" } : Jvm.MethodName)) ∈ Wall := mwl (k := 175) (by decide +kernel) rfl
theorem mw_176 : (Jvm.Cond.code ({ cls := "RedcrossGantry$Patrols", name := "<init>", desc := "()V" } : Jvm.MethodName) prog_6_method_1_code (1 : Nat) (Option.none : Option Jvm.ClassFile.FieldType)) ∈ Wall := mwl (k := 176) (by decide +kernel) rfl
theorem mw_177 : (Jvm.Cond.methodLink "RedcrossGantry$Patrols" (3 : Nat) ({ cls := "java/lang/Object", name := "<init>", desc := "()V" } : Jvm.MethodName)) ∈ Wall := mwl (k := 177) (by decide +kernel) rfl
theorem mw_178 : (Jvm.Cond.fieldLink "RedcrossGantry$Patrols" (11 : Nat) "RedcrossGantry$Patrols" "sections" "[I") ∈ Wall := mwl (k := 178) (by decide +kernel) rfl
theorem mw_180 : (Jvm.Cond.fieldLink "RedcrossGantry$Patrols" (15 : Nat) "RedcrossGantry$Patrols" "incidents" "[I") ∈ Wall := mwl (k := 180) (by decide +kernel) rfl
