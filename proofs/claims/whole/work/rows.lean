section
-- ===== PART A: goes FIRST, ahead of the names: the tables' words, and 'selects' of the private methods out of them =====
/-- a private method of a class that the tables say can be made, by its rows of tables_1 -/
def lw_okq (q : MethodName × Nat) : Prop := (q.1.cls ≠ "java/lang/invoke/MethodHandle" ∧ q.1.cls ≠ "java/lang/invoke/VarHandle") ∧ Cond.instantiable q.1.cls q.2 ∈ tables_1 ∧ Cond.privateMethod q.1 ∈ tables_1 ∧ Cond.instanceMethod q.1 ∈ tables_1
theorem lw_p0 : lw_okq (⟨"RedcrossGantry$Bookings", "tellCrossesOf", "(I[I)V"⟩, 6) := ⟨⟨by decide +kernel, by decide +kernel⟩, List.mem_of_getElem? (i := 175) (by decide +kernel), List.mem_of_getElem? (i := 238) (by decide +kernel), List.mem_of_getElem? (i := 239) (by decide +kernel)⟩
theorem lw_p1 : lw_okq (⟨"RedcrossGantry", "setLaneSigns", "()V"⟩, 10) := ⟨⟨by decide +kernel, by decide +kernel⟩, List.mem_of_getElem? (i := 20) (by decide +kernel), List.mem_of_getElem? (i := 293) (by decide +kernel), List.mem_of_getElem? (i := 294) (by decide +kernel)⟩
theorem lw_p2 : lw_okq (⟨"java/lang/Throwable", "fillInStackTrace", "(I)Ljava/lang/Throwable;"⟩, 6) := ⟨⟨by decide +kernel, by decide +kernel⟩, List.mem_of_getElem? (i := 387) (by decide +kernel), List.mem_of_getElem? (i := 385) (by decide +kernel), List.mem_of_getElem? (i := 386) (by decide +kernel)⟩
theorem lw_p3 : lw_okq (⟨"RedcrossGantry", "comeToNextMinute", "()V"⟩, 10) := ⟨⟨by decide +kernel, by decide +kernel⟩, List.mem_of_getElem? (i := 20) (by decide +kernel), List.mem_of_getElem? (i := 444) (by decide +kernel), List.mem_of_getElem? (i := 445) (by decide +kernel)⟩
theorem lw_p4 : lw_okq (⟨"RedcrossGantry", "movePatrols", "()V"⟩, 10) := ⟨⟨by decide +kernel, by decide +kernel⟩, List.mem_of_getElem? (i := 20) (by decide +kernel), List.mem_of_getElem? (i := 448) (by decide +kernel), List.mem_of_getElem? (i := 449) (by decide +kernel)⟩
theorem lw_p5 : lw_okq (⟨"RedcrossGantry", "endWorkOf", "(I)V"⟩, 10) := ⟨⟨by decide +kernel, by decide +kernel⟩, List.mem_of_getElem? (i := 20) (by decide +kernel), List.mem_of_getElem? (i := 452) (by decide +kernel), List.mem_of_getElem? (i := 453) (by decide +kernel)⟩
theorem lw_p6 : lw_okq (⟨"RedcrossGantry$Traffic", "goOnFrom", "(II[I)V"⟩, 7) := ⟨⟨by decide +kernel, by decide +kernel⟩, List.mem_of_getElem? (i := 28) (by decide +kernel), List.mem_of_getElem? (i := 474) (by decide +kernel), List.mem_of_getElem? (i := 475) (by decide +kernel)⟩
theorem lw_p7 : lw_okq (⟨"RedcrossGantry$Traffic", "heldAt", "(I)I"⟩, 7) := ⟨⟨by decide +kernel, by decide +kernel⟩, List.mem_of_getElem? (i := 28) (by decide +kernel), List.mem_of_getElem? (i := 479) (by decide +kernel), List.mem_of_getElem? (i := 480) (by decide +kernel)⟩
theorem lw_p8 : lw_okq (⟨"RedcrossGantry$Traffic", "mostThatGoOn", "(II)I"⟩, 7) := ⟨⟨by decide +kernel, by decide +kernel⟩, List.mem_of_getElem? (i := 28) (by decide +kernel), List.mem_of_getElem? (i := 483) (by decide +kernel), List.mem_of_getElem? (i := 484) (by decide +kernel)⟩
theorem lw_p9 : lw_okq (⟨"RedcrossGantry$Traffic", "placeAhead", "(II[I)I"⟩, 7) := ⟨⟨by decide +kernel, by decide +kernel⟩, List.mem_of_getElem? (i := 28) (by decide +kernel), List.mem_of_getElem? (i := 494) (by decide +kernel), List.mem_of_getElem? (i := 495) (by decide +kernel)⟩
theorem lw_p10 : lw_okq (⟨"RedcrossGantry$Traffic", "letsIn", "(I[I)Z"⟩, 7) := ⟨⟨by decide +kernel, by decide +kernel⟩, List.mem_of_getElem? (i := 28) (by decide +kernel), List.mem_of_getElem? (i := 502) (by decide +kernel), List.mem_of_getElem? (i := 503) (by decide +kernel)⟩
theorem lw_p11 : lw_okq (⟨"RedcrossGantry$Traffic", "laneToEnter", "([I)I"⟩, 7) := ⟨⟨by decide +kernel, by decide +kernel⟩, List.mem_of_getElem? (i := 28) (by decide +kernel), List.mem_of_getElem? (i := 510) (by decide +kernel), List.mem_of_getElem? (i := 511) (by decide +kernel)⟩
theorem lw_p12 : lw_okq (⟨"RedcrossGantry$SpeedSigns", "wantAt", "(II)I"⟩, 4) := ⟨⟨by decide +kernel, by decide +kernel⟩, List.mem_of_getElem? (i := 80) (by decide +kernel), List.mem_of_getElem? (i := 523) (by decide +kernel), List.mem_of_getElem? (i := 524) (by decide +kernel)⟩
theorem lw_p13 : lw_okq (⟨"RedcrossGantry$SpeedSigns", "staysBelow", "(III)Z"⟩, 4) := ⟨⟨by decide +kernel, by decide +kernel⟩, List.mem_of_getElem? (i := 80) (by decide +kernel), List.mem_of_getElem? (i := 534) (by decide +kernel), List.mem_of_getElem? (i := 535) (by decide +kernel)⟩
theorem lw_p14 : lw_okq (⟨"RedcrossGantry", "wayBetween", "(II)I"⟩, 10) := ⟨⟨by decide +kernel, by decide +kernel⟩, List.mem_of_getElem? (i := 20) (by decide +kernel), List.mem_of_getElem? (i := 704) (by decide +kernel), List.mem_of_getElem? (i := 705) (by decide +kernel)⟩
theorem lw_p15 : lw_okq (⟨"RedcrossGantry", "minutesThrough", "(I)I"⟩, 10) := ⟨⟨by decide +kernel, by decide +kernel⟩, List.mem_of_getElem? (i := 20) (by decide +kernel), List.mem_of_getElem? (i := 708) (by decide +kernel), List.mem_of_getElem? (i := 709) (by decide +kernel)⟩
def lw_privs_1 : List (MethodName × Nat) := [(⟨"RedcrossGantry$Bookings", "tellCrossesOf", "(I[I)V"⟩, 6), (⟨"RedcrossGantry", "setLaneSigns", "()V"⟩, 10), (⟨"java/lang/Throwable", "fillInStackTrace", "(I)Ljava/lang/Throwable;"⟩, 6), (⟨"RedcrossGantry", "comeToNextMinute", "()V"⟩, 10), (⟨"RedcrossGantry", "movePatrols", "()V"⟩, 10), (⟨"RedcrossGantry", "endWorkOf", "(I)V"⟩, 10), (⟨"RedcrossGantry$Traffic", "goOnFrom", "(II[I)V"⟩, 7), (⟨"RedcrossGantry$Traffic", "heldAt", "(I)I"⟩, 7), (⟨"RedcrossGantry$Traffic", "mostThatGoOn", "(II)I"⟩, 7), (⟨"RedcrossGantry$Traffic", "placeAhead", "(II[I)I"⟩, 7), (⟨"RedcrossGantry$Traffic", "letsIn", "(I[I)Z"⟩, 7), (⟨"RedcrossGantry$Traffic", "laneToEnter", "([I)I"⟩, 7), (⟨"RedcrossGantry$SpeedSigns", "wantAt", "(II)I"⟩, 4), (⟨"RedcrossGantry$SpeedSigns", "staysBelow", "(III)Z"⟩, 4), (⟨"RedcrossGantry", "wayBetween", "(II)I"⟩, 10), (⟨"RedcrossGantry", "minutesThrough", "(I)I"⟩, 10)]
theorem lw_r1 : ∀ q ∈ lw_privs_1, lw_okq q := List.forall_mem_cons.mpr ⟨lw_p0, List.forall_mem_cons.mpr ⟨lw_p1, List.forall_mem_cons.mpr ⟨lw_p2, List.forall_mem_cons.mpr ⟨lw_p3, List.forall_mem_cons.mpr ⟨lw_p4, List.forall_mem_cons.mpr ⟨lw_p5, List.forall_mem_cons.mpr ⟨lw_p6, List.forall_mem_cons.mpr ⟨lw_p7, List.forall_mem_cons.mpr ⟨lw_p8, List.forall_mem_cons.mpr ⟨lw_p9, List.forall_mem_cons.mpr ⟨lw_p10, List.forall_mem_cons.mpr ⟨lw_p11, List.forall_mem_cons.mpr ⟨lw_p12, List.forall_mem_cons.mpr ⟨lw_p13, List.forall_mem_cons.mpr ⟨lw_p14, List.forall_mem_cons.mpr ⟨lw_p15, fun _ h => absurd h List.not_mem_nil⟩⟩⟩⟩⟩⟩⟩⟩⟩⟩⟩⟩⟩⟩⟩⟩
theorem lw_p16 : lw_okq (⟨"RedcrossGantry$Bookings", "areInThreeLanes", "(III)Z"⟩, 6) := ⟨⟨by decide +kernel, by decide +kernel⟩, List.mem_of_getElem? (i := 175) (by decide +kernel), List.mem_of_getElem? (i := 746) (by decide +kernel), List.mem_of_getElem? (i := 747) (by decide +kernel)⟩
theorem lw_p17 : lw_okq (⟨"RedcrossGantry$Bookings", "doMeet", "(III)Z"⟩, 6) := ⟨⟨by decide +kernel, by decide +kernel⟩, List.mem_of_getElem? (i := 175) (by decide +kernel), List.mem_of_getElem? (i := 750) (by decide +kernel), List.mem_of_getElem? (i := 751) (by decide +kernel)⟩
theorem lw_p18 : lw_okq (⟨"RedcrossGantryModel", "keeps", "()V"⟩, 32) := ⟨⟨by decide +kernel, by decide +kernel⟩, List.mem_of_getElem? (i := 792) (by decide +kernel), List.mem_of_getElem? (i := 798) (by decide +kernel), List.mem_of_getElem? (i := 799) (by decide +kernel)⟩
theorem lw_p19 : lw_okq (⟨"RedcrossGantryModel", "signOf", "(II)I"⟩, 32) := ⟨⟨by decide +kernel, by decide +kernel⟩, List.mem_of_getElem? (i := 792) (by decide +kernel), List.mem_of_getElem? (i := 802) (by decide +kernel), List.mem_of_getElem? (i := 803) (by decide +kernel)⟩
theorem lw_p20 : lw_okq (⟨"RedcrossGantryModel", "told", "(II)I"⟩, 32) := ⟨⟨by decide +kernel, by decide +kernel⟩, List.mem_of_getElem? (i := 792) (by decide +kernel), List.mem_of_getElem? (i := 806) (by decide +kernel), List.mem_of_getElem? (i := 807) (by decide +kernel)⟩
theorem lw_p21 : lw_okq (⟨"RedcrossGantryModel", "areWorksAt", "(II)Z"⟩, 32) := ⟨⟨by decide +kernel, by decide +kernel⟩, List.mem_of_getElem? (i := 792) (by decide +kernel), List.mem_of_getElem? (i := 810) (by decide +kernel), List.mem_of_getElem? (i := 811) (by decide +kernel)⟩
theorem lw_p22 : lw_okq (⟨"RedcrossGantryModel", "isOnNow", "(I)Z"⟩, 32) := ⟨⟨by decide +kernel, by decide +kernel⟩, List.mem_of_getElem? (i := 792) (by decide +kernel), List.mem_of_getElem? (i := 817) (by decide +kernel), List.mem_of_getElem? (i := 818) (by decide +kernel)⟩
theorem lw_p23 : lw_okq (⟨"RedcrossGantryModel", "isConfirmedAt", "(I)Z"⟩, 32) := ⟨⟨by decide +kernel, by decide +kernel⟩, List.mem_of_getElem? (i := 792) (by decide +kernel), List.mem_of_getElem? (i := 821) (by decide +kernel), List.mem_of_getElem? (i := 822) (by decide +kernel)⟩
theorem lw_p24 : lw_okq (⟨"RedcrossGantryModel", "holds", "(I)Z"⟩, 32) := ⟨⟨by decide +kernel, by decide +kernel⟩, List.mem_of_getElem? (i := 792) (by decide +kernel), List.mem_of_getElem? (i := 930) (by decide +kernel), List.mem_of_getElem? (i := 931) (by decide +kernel)⟩
theorem lw_p25 : lw_okq (⟨"RedcrossGantryModel", "minute", "()V"⟩, 32) := ⟨⟨by decide +kernel, by decide +kernel⟩, List.mem_of_getElem? (i := 792) (by decide +kernel), List.mem_of_getElem? (i := 938) (by decide +kernel), List.mem_of_getElem? (i := 939) (by decide +kernel)⟩
theorem lw_p26 : lw_okq (⟨"RedcrossGantryModel", "patrols", "()V"⟩, 32) := ⟨⟨by decide +kernel, by decide +kernel⟩, List.mem_of_getElem? (i := 792) (by decide +kernel), List.mem_of_getElem? (i := 942) (by decide +kernel), List.mem_of_getElem? (i := 943) (by decide +kernel)⟩
theorem lw_p27 : lw_okq (⟨"RedcrossGantryModel", "goes", "(II)V"⟩, 32) := ⟨⟨by decide +kernel, by decide +kernel⟩, List.mem_of_getElem? (i := 792) (by decide +kernel), List.mem_of_getElem? (i := 946) (by decide +kernel), List.mem_of_getElem? (i := 947) (by decide +kernel)⟩
theorem lw_p28 : lw_okq (⟨"RedcrossGantryModel", "goesTo", "(II)I"⟩, 32) := ⟨⟨by decide +kernel, by decide +kernel⟩, List.mem_of_getElem? (i := 792) (by decide +kernel), List.mem_of_getElem? (i := 950) (by decide +kernel), List.mem_of_getElem? (i := 951) (by decide +kernel)⟩
theorem lw_p29 : lw_okq (⟨"RedcrossGantryModel", "letsIn", "(II)Z"⟩, 32) := ⟨⟨by decide +kernel, by decide +kernel⟩, List.mem_of_getElem? (i := 792) (by decide +kernel), List.mem_of_getElem? (i := 954) (by decide +kernel), List.mem_of_getElem? (i := 955) (by decide +kernel)⟩
theorem lw_p30 : lw_okq (⟨"RedcrossGantryModel", "comes", "()V"⟩, 32) := ⟨⟨by decide +kernel, by decide +kernel⟩, List.mem_of_getElem? (i := 792) (by decide +kernel), List.mem_of_getElem? (i := 958) (by decide +kernel), List.mem_of_getElem? (i := 959) (by decide +kernel)⟩
theorem lw_p31 : lw_okq (⟨"RedcrossGantryModel", "mostOf", "(I)I"⟩, 32) := ⟨⟨by decide +kernel, by decide +kernel⟩, List.mem_of_getElem? (i := 792) (by decide +kernel), List.mem_of_getElem? (i := 962) (by decide +kernel), List.mem_of_getElem? (i := 963) (by decide +kernel)⟩
def lw_privs_2 : List (MethodName × Nat) := [(⟨"RedcrossGantry$Bookings", "areInThreeLanes", "(III)Z"⟩, 6), (⟨"RedcrossGantry$Bookings", "doMeet", "(III)Z"⟩, 6), (⟨"RedcrossGantryModel", "keeps", "()V"⟩, 32), (⟨"RedcrossGantryModel", "signOf", "(II)I"⟩, 32), (⟨"RedcrossGantryModel", "told", "(II)I"⟩, 32), (⟨"RedcrossGantryModel", "areWorksAt", "(II)Z"⟩, 32), (⟨"RedcrossGantryModel", "isOnNow", "(I)Z"⟩, 32), (⟨"RedcrossGantryModel", "isConfirmedAt", "(I)Z"⟩, 32), (⟨"RedcrossGantryModel", "holds", "(I)Z"⟩, 32), (⟨"RedcrossGantryModel", "minute", "()V"⟩, 32), (⟨"RedcrossGantryModel", "patrols", "()V"⟩, 32), (⟨"RedcrossGantryModel", "goes", "(II)V"⟩, 32), (⟨"RedcrossGantryModel", "goesTo", "(II)I"⟩, 32), (⟨"RedcrossGantryModel", "letsIn", "(II)Z"⟩, 32), (⟨"RedcrossGantryModel", "comes", "()V"⟩, 32), (⟨"RedcrossGantryModel", "mostOf", "(I)I"⟩, 32)]
theorem lw_r2 : ∀ q ∈ lw_privs_2, lw_okq q := List.forall_mem_cons.mpr ⟨lw_p16, List.forall_mem_cons.mpr ⟨lw_p17, List.forall_mem_cons.mpr ⟨lw_p18, List.forall_mem_cons.mpr ⟨lw_p19, List.forall_mem_cons.mpr ⟨lw_p20, List.forall_mem_cons.mpr ⟨lw_p21, List.forall_mem_cons.mpr ⟨lw_p22, List.forall_mem_cons.mpr ⟨lw_p23, List.forall_mem_cons.mpr ⟨lw_p24, List.forall_mem_cons.mpr ⟨lw_p25, List.forall_mem_cons.mpr ⟨lw_p26, List.forall_mem_cons.mpr ⟨lw_p27, List.forall_mem_cons.mpr ⟨lw_p28, List.forall_mem_cons.mpr ⟨lw_p29, List.forall_mem_cons.mpr ⟨lw_p30, List.forall_mem_cons.mpr ⟨lw_p31, fun _ h => absurd h List.not_mem_nil⟩⟩⟩⟩⟩⟩⟩⟩⟩⟩⟩⟩⟩⟩⟩⟩
theorem lw_p32 : lw_okq (⟨"RedcrossGantryModel", "setsSpeeds", "()V"⟩, 32) := ⟨⟨by decide +kernel, by decide +kernel⟩, List.mem_of_getElem? (i := 792) (by decide +kernel), List.mem_of_getElem? (i := 966) (by decide +kernel), List.mem_of_getElem? (i := 967) (by decide +kernel)⟩
theorem lw_p33 : lw_okq (⟨"RedcrossGantryModel", "wantOf", "(I)I"⟩, 32) := ⟨⟨by decide +kernel, by decide +kernel⟩, List.mem_of_getElem? (i := 792) (by decide +kernel), List.mem_of_getElem? (i := 970) (by decide +kernel), List.mem_of_getElem? (i := 971) (by decide +kernel)⟩
theorem lw_p34 : lw_okq (⟨"RedcrossGantryModel", "beliefOf", "(I)I"⟩, 32) := ⟨⟨by decide +kernel, by decide +kernel⟩, List.mem_of_getElem? (i := 792) (by decide +kernel), List.mem_of_getElem? (i := 974) (by decide +kernel), List.mem_of_getElem? (i := 975) (by decide +kernel)⟩
theorem lw_p35 : lw_okq (⟨"RedcrossGantryModel", "speedOf", "(I)I"⟩, 32) := ⟨⟨by decide +kernel, by decide +kernel⟩, List.mem_of_getElem? (i := 792) (by decide +kernel), List.mem_of_getElem? (i := 978) (by decide +kernel), List.mem_of_getElem? (i := 979) (by decide +kernel)⟩
theorem lw_p36 : lw_okq (⟨"RedcrossGantryModel", "guessOf", "(I)I"⟩, 32) := ⟨⟨by decide +kernel, by decide +kernel⟩, List.mem_of_getElem? (i := 792) (by decide +kernel), List.mem_of_getElem? (i := 982) (by decide +kernel), List.mem_of_getElem? (i := 983) (by decide +kernel)⟩
theorem lw_p37 : lw_okq (⟨"RedcrossGantryModel", "canOpen", "(II)Z"⟩, 32) := ⟨⟨by decide +kernel, by decide +kernel⟩, List.mem_of_getElem? (i := 792) (by decide +kernel), List.mem_of_getElem? (i := 1036) (by decide +kernel), List.mem_of_getElem? (i := 1037) (by decide +kernel)⟩
theorem lw_p38 : lw_okq (⟨"RedcrossGantryModel", "shuts", "()I"⟩, 32) := ⟨⟨by decide +kernel, by decide +kernel⟩, List.mem_of_getElem? (i := 792) (by decide +kernel), List.mem_of_getElem? (i := 1044) (by decide +kernel), List.mem_of_getElem? (i := 1045) (by decide +kernel)⟩
theorem lw_p39 : lw_okq (⟨"RedcrossGantryModel", "isReportedAt", "(I)Z"⟩, 32) := ⟨⟨by decide +kernel, by decide +kernel⟩, List.mem_of_getElem? (i := 792) (by decide +kernel), List.mem_of_getElem? (i := 1056) (by decide +kernel), List.mem_of_getElem? (i := 1057) (by decide +kernel)⟩
theorem lw_p40 : lw_okq (⟨"RedcrossGantryModel", "isIncident", "(I)Z"⟩, 32) := ⟨⟨by decide +kernel, by decide +kernel⟩, List.mem_of_getElem? (i := 792) (by decide +kernel), List.mem_of_getElem? (i := 1064) (by decide +kernel), List.mem_of_getElem? (i := 1065) (by decide +kernel)⟩
theorem lw_p41 : lw_okq (⟨"RedcrossGantryModel", "patrolOf", "(I)I"⟩, 32) := ⟨⟨by decide +kernel, by decide +kernel⟩, List.mem_of_getElem? (i := 792) (by decide +kernel), List.mem_of_getElem? (i := 1072) (by decide +kernel), List.mem_of_getElem? (i := 1073) (by decide +kernel)⟩
theorem lw_p42 : lw_okq (⟨"RedcrossGantryModel", "wayOf", "(II)I"⟩, 32) := ⟨⟨by decide +kernel, by decide +kernel⟩, List.mem_of_getElem? (i := 792) (by decide +kernel), List.mem_of_getElem? (i := 1087) (by decide +kernel), List.mem_of_getElem? (i := 1088) (by decide +kernel)⟩
theorem lw_p43 : lw_okq (⟨"RedcrossGantryModel", "areTooMany", "(IIIII)Z"⟩, 32) := ⟨⟨by decide +kernel, by decide +kernel⟩, List.mem_of_getElem? (i := 792) (by decide +kernel), List.mem_of_getElem? (i := 1103) (by decide +kernel), List.mem_of_getElem? (i := 1104) (by decide +kernel)⟩
theorem lw_p44 : lw_okq (⟨"RedcrossGantryModel", "areBooked", "(III)Z"⟩, 32) := ⟨⟨by decide +kernel, by decide +kernel⟩, List.mem_of_getElem? (i := 792) (by decide +kernel), List.mem_of_getElem? (i := 1107) (by decide +kernel), List.mem_of_getElem? (i := 1108) (by decide +kernel)⟩
theorem lw_p45 : lw_okq (⟨"RedcrossGantryModel", "isKept", "(I)Z"⟩, 32) := ⟨⟨by decide +kernel, by decide +kernel⟩, List.mem_of_getElem? (i := 792) (by decide +kernel), List.mem_of_getElem? (i := 1119) (by decide +kernel), List.mem_of_getElem? (i := 1120) (by decide +kernel)⟩
theorem lw_p46 : lw_okq (⟨"RedcrossGantryModel", "proofOf", "(III)I"⟩, 32) := ⟨⟨by decide +kernel, by decide +kernel⟩, List.mem_of_getElem? (i := 792) (by decide +kernel), List.mem_of_getElem? (i := 1123) (by decide +kernel), List.mem_of_getElem? (i := 1124) (by decide +kernel)⟩
def lw_privs_3 : List (MethodName × Nat) := [(⟨"RedcrossGantryModel", "setsSpeeds", "()V"⟩, 32), (⟨"RedcrossGantryModel", "wantOf", "(I)I"⟩, 32), (⟨"RedcrossGantryModel", "beliefOf", "(I)I"⟩, 32), (⟨"RedcrossGantryModel", "speedOf", "(I)I"⟩, 32), (⟨"RedcrossGantryModel", "guessOf", "(I)I"⟩, 32), (⟨"RedcrossGantryModel", "canOpen", "(II)Z"⟩, 32), (⟨"RedcrossGantryModel", "shuts", "()I"⟩, 32), (⟨"RedcrossGantryModel", "isReportedAt", "(I)Z"⟩, 32), (⟨"RedcrossGantryModel", "isIncident", "(I)Z"⟩, 32), (⟨"RedcrossGantryModel", "patrolOf", "(I)I"⟩, 32), (⟨"RedcrossGantryModel", "wayOf", "(II)I"⟩, 32), (⟨"RedcrossGantryModel", "areTooMany", "(IIIII)Z"⟩, 32), (⟨"RedcrossGantryModel", "areBooked", "(III)Z"⟩, 32), (⟨"RedcrossGantryModel", "isKept", "(I)Z"⟩, 32), (⟨"RedcrossGantryModel", "proofOf", "(III)I"⟩, 32)]
theorem lw_r3 : ∀ q ∈ lw_privs_3, lw_okq q := List.forall_mem_cons.mpr ⟨lw_p32, List.forall_mem_cons.mpr ⟨lw_p33, List.forall_mem_cons.mpr ⟨lw_p34, List.forall_mem_cons.mpr ⟨lw_p35, List.forall_mem_cons.mpr ⟨lw_p36, List.forall_mem_cons.mpr ⟨lw_p37, List.forall_mem_cons.mpr ⟨lw_p38, List.forall_mem_cons.mpr ⟨lw_p39, List.forall_mem_cons.mpr ⟨lw_p40, List.forall_mem_cons.mpr ⟨lw_p41, List.forall_mem_cons.mpr ⟨lw_p42, List.forall_mem_cons.mpr ⟨lw_p43, List.forall_mem_cons.mpr ⟨lw_p44, List.forall_mem_cons.mpr ⟨lw_p45, List.forall_mem_cons.mpr ⟨lw_p46, fun _ h => absurd h List.not_mem_nil⟩⟩⟩⟩⟩⟩⟩⟩⟩⟩⟩⟩⟩⟩⟩
def lw_privs : List (MethodName × Nat) := lw_privs_1 ++ (lw_privs_2 ++ (lw_privs_3))
def lw_tbl : List Cond := k2_sels lw_privs ++ tables_1
theorem lw_privs_ok : ∀ q ∈ lw_privs, lw_okq q := by
  show ∀ q ∈ lw_privs_1 ++ (lw_privs_2 ++ (lw_privs_3)), lw_okq q
  exact List.forall_mem_append.mpr ⟨lw_r1, List.forall_mem_append.mpr ⟨lw_r2, lw_r3⟩⟩
/-- all words of the tables that stay under warmer tables: every method of ours takes these as its words -/
def Wall : List Cond := lw_tbl.filter goodWord
theorem mwl {k : Nat} {w : Cond} (h : lw_tbl[k]? = some w) (hg : goodWord w = true) : w ∈ Wall := List.mem_filter.mpr ⟨List.mem_of_getElem? h, hg⟩
theorem wall_good : ∀ w ∈ Wall, w ∈ Wall ∧ ((w.onTables && w.keeps) = true ∨ ∃ ty, w = .arrayClass ty) := fun _ h => ⟨h, good_of_word (List.mem_filter.mp h).2⟩
theorem wall_tbl : ∀ w ∈ Wall, w ∈ lw_tbl := fun _ h => (List.mem_filter.mp h).1
abbrev wm (y : MethodName) (b : ByteArray) (n : Nat) (r : Option FieldType) : List Cond := Cond.code y b n r :: Wall
abbrev wmH (y : MethodName) (b : ByteArray) (n : Nat) (r : Option FieldType) (hh : List (Nat × Nat × Nat × Nat)) : List Cond := Cond.codeWith y b n r hh :: Wall
theorem gwL {c : Cond} {pre : List Cond} (hc : c ∈ Wall) (h : ∀ w ∈ pre, w ∈ Wall) : GoodIn Wall (pre ++ (c :: Wall)) := fun w hw => by
  refine wall_good w ?_
  rcases List.mem_append.mp hw with q | q
  · exact h w q
  · rcases List.mem_cons.mp q with rfl | q
    · exact hc
    · exact q
theorem gwM {y : MethodName} {b : ByteArray} {n : Nat} {r : Option FieldType} (hc : Cond.code y b n r ∈ Wall) : GoodIn Wall (wm y b n r) := gwL (pre := []) hc (fun _ h => absurd h List.not_mem_nil)
theorem gwV {own C : String} {idx : Nat} {y : MethodName} {b : ByteArray} {n : Nat} {r : Option FieldType} (h1 : Cond.methodLink own idx y ∈ Wall) (h2 : Cond.instanceMethod y ∈ Wall) (h3 : Cond.selects C y y ∈ Wall) (h4 : Cond.initialized C ∈ Wall) (hc : Cond.code y b n r ∈ Wall) : GoodIn Wall (wsV own idx C y (wm y b n r)) := gwL hc (List.forall_mem_cons.mpr ⟨h1, List.forall_mem_cons.mpr ⟨h2, List.forall_mem_cons.mpr ⟨h3, List.forall_mem_cons.mpr ⟨h4, fun _ h => absurd h List.not_mem_nil⟩⟩⟩⟩)
theorem gwS {own : String} {idx : Nat} {y : MethodName} {b : ByteArray} {n : Nat} {r : Option FieldType} (h1 : Cond.methodLink own idx y ∈ Wall) (h2 : Cond.static y ∈ Wall) (h3 : Cond.initialized y.cls ∈ Wall) (hc : Cond.code y b n r ∈ Wall) : GoodIn Wall (va_wsS own idx y (wm y b n r)) := gwL hc (List.forall_mem_cons.mpr ⟨h1, List.forall_mem_cons.mpr ⟨h2, List.forall_mem_cons.mpr ⟨h3, fun _ h => absurd h List.not_mem_nil⟩⟩⟩)
theorem gwSH {own : String} {idx : Nat} {y : MethodName} {b : ByteArray} {n : Nat} {r : Option FieldType} {hh : List (Nat × Nat × Nat × Nat)} (h1 : Cond.methodLink own idx y ∈ Wall) (h2 : Cond.static y ∈ Wall) (h3 : Cond.initialized y.cls ∈ Wall) (hc : Cond.codeWith y b n r hh ∈ Wall) : GoodIn Wall (va_wsS own idx y (wmH y b n r hh)) := gwL hc (List.forall_mem_cons.mpr ⟨h1, List.forall_mem_cons.mpr ⟨h2, List.forall_mem_cons.mpr ⟨h3, fun _ h => absurd h List.not_mem_nil⟩⟩⟩)
end
section
/-! ===== BEGIN words of one list among another's, by their places ===== -/
theorem goodIn_r {big : List Cond} (ws : List Cond) (ps : List Nat) (hp : ws = ps.filterMap (fun i => big[i]?)) (h : ws.all goodWord = true) : GoodIn big ws := by
  intro w hw
  have h1 := List.all_eq_true.mp h w hw
  rw [hp] at hw
  obtain ⟨i, -, hi⟩ := List.mem_filterMap.mp hw
  have hm : w ∈ big := by first | exact List.mem_of_getElem? hi | exact List.getElem?_mem hi
  exact ⟨hm, good_of_word h1⟩
theorem goodIn_app {big a b : List Cond} (ha : GoodIn big a) (hb : GoodIn big b) : GoodIn big (a ++ b) := fun w h => (List.mem_append.mp h).elim (ha w) (hb w)
theorem goodIn_ca {big a b : List Cond} {c : Cond} (ha : GoodIn big (c :: a)) (hb : GoodIn big b) : GoodIn big (c :: (a ++ b)) := fun w h => (List.mem_cons.mp h).elim (fun e => ha w (List.mem_cons.mpr (Or.inl e))) (fun h => (List.mem_append.mp h).elim (fun h => ha w (List.mem_cons.mpr (Or.inr h))) (hb w))
theorem goodIn_sub {big ws : List Cond} (hm : ∀ w ∈ ws, w ∈ big) (h : ws.all goodWord = true) : GoodIn big ws := fun w hw => ⟨hm w hw, good_of_word (List.all_eq_true.mp h w hw)⟩
/-! ===== END ===== -/

/-! ===== BEGIN exceptions that leave a method, and their catching by the caller (launches without stack traces) ===== -/
section VXA
/-! The laws vx_back, vx_callV, vx_callS, vx_callSW, vx_throw0, vx_throwS follow proofs of the library, with one case more: JvmDerived/Free/Laws.lean (Back.of_free), Shelf42/LK1.lean (callV, callS), Shelf/KitTraced.lean (throwNew0V, throwNewS). -/
/-- where a method has thrown q: the class by its name, the cell, what was written, the world -/
def vx_T (XC : String → State → State → Prop) (st : State) (q : Addr) (t : State) (mc ms : Nat) (free : Addr → Prop) : Prop :=
  ∃ (E : String) (ce : Cell) (L : List Loc), XC E st t ∧ t.heap[q]? = some ce ∧ ce.vm = .none ∧ st.vm.findClass E = some ce.cls ∧ st.WarmedH t.vm ∧ st.sameButNew ({ t with vm := st.vm } : State) L mc ms ∧ ∀ z ∈ L, free z.base
def vx_Q (Qc : Array Value → State → Outcome → State → Prop) (XC : String → State → State → Prop) (mc ms : Nat) (free : Addr → Prop) : Array Value → State → Outcome → State → Prop := fun a st o t =>
  (Qc a st o t ∧ ∃ L, FrameEnd st o t L mc ms ∧ ∀ q ∈ L, free q.base) ∨ ∃ q, o = .threw q ∧ vx_T XC st q t mc ms free
/-- a callee that returns or throws -/
def vx_Met (l : Launch) (y : MethodName) (ws : List Cond) (rm : Room) (Pc : Array Value → State → Prop) (Qc : Array Value → State → Outcome → State → Prop) (XC : String → State → State → Prop) (mc ms : Nat) (free : Addr → Prop) : Prop :=
  MetFree l y (headSpec ws rm) Pc (fun _ _ _ _ _ => True) (vx_Q Qc XC mc ms free)
def vx_Post (XC : String → State → State → Prop) (mc ms : Nat) (free : Addr → Prop) : Pt → Array Value → Addr → Pt → Prop := fun A a q B =>
  ∃ (g : JFrame) (mk : MethodId) (t : State) (L : List Loc) (E : String) (ce : Cell), B.U.heap = t.heap ∧ B.U.vm = t.vm ∧ XC E (A.U.calling g mk a) t ∧ t.heap[q]? = some ce ∧ ce.vm = .none ∧ A.U.vm.findClass E = some ce.cls ∧ B.locs = A.locs ++ L ∧ (∀ z ∈ L, free z.base) ∧ B.cells = A.cells + mc ∧ B.slots = A.slots + ms
def vx_Back (l : Launch) (R : Room) (p : Program) (e : Env) (below : List Frame) (s : State) (sargs : Array Value) (y : MethodName) (len W9 : Nat)
    (Pre : Pt → Array Value → Prop) (Post : Pt → Array Value → Option Value → Pt → Prop) (PostX : Pt → Array Value → Addr → Pt → Prop) : Prop :=
  ∀ (m : MethodId) (meth : Method) (c : Code) (A : Pt) (g : JFrame) (ig : Instr) (mk : MethodId) (a : Array Value),
    Stand p l e R s m sargs below meth c A.U A.locs A.cells A.slots → g.method = m → g.locals.size = c.maxLocals → decode c.code g.pc = .ok (ig, len) →
    2 * g.monitorRoom + (g.stack.map fun v => v.category).sum ≤ W9 → A.U.methodNamed? y = some mk → Pre A a →
    (∃ (v : Option Value) (B : Pt), Stand p l e R s m sargs below meth c B.U B.locs B.cells B.slots ∧ Post A a v B ∧
      Steps p.tables e below (doInvoke e (A.U.setTop g) [] mk a).1 (B.U.setTop { g with pc := g.pc + len, stack := v.toList ++ g.stack })) ∨
    (∃ (q : Addr) (B : Pt), Stand p l e R s m sargs below meth c B.U B.locs B.cells B.slots ∧ PostX A a q B ∧
      Steps p.tables e below (doInvoke e (A.U.setTop g) [] mk a).1 ((B.U.setTop g).pushFrame (.throwing q)))
section Payer
variable {l : Launch} {R : Room} {p : Program} {e : Env} {below : List Frame} {s : State} {sargs : Array Value} {y : MethodName} {len W9 : Nat}
theorem vx_back {ws : List Cond} {rm : Room} {Pc : Array Value → State → Prop} {Qc : Array Value → State → Outcome → State → Prop} {XC : String → State → State → Prop} {mc ms : Nat} {free : Addr → Prop} {bytes : ByteArray} {maxL : Nat} {ret : Option FieldType}
    (hM : vx_Met l y ws rm Pc Qc XC mc ms free) (hblind : FrameBlind Pc) (hrc : rm.cells = mc) (hrs : rm.slots = ms)
    (hframes : rm.frames + 1 ≤ R.frames) (hlocals : W9 + (maxL + 11) + rm.locals ≤ R.locals)
    (hws : ∀ w ∈ ws, ∀ a' U, s.WarmedH U.vm → w.before a' U = true) (hcode : Cond.code y bytes maxL ret ∈ ws) (hinit : ∀ a' U, s.WarmedH U.vm → (Cond.initialized y.cls).before a' U = true) :
    vx_Back l R p e below s sargs y len W9 (PreOf R mc ms Pc) (PostOf Qc mc ms free) (vx_Post XC mc ms free) := by
  intro m meth c A g ig mk a X hg hsize hdg hW hn hp
  have h1 : (headSpec ws rm).pre.before a A.U = true := atoms_intro fun w hw => hws w hw _ _ X.warmed
  have h2 : (Cond.code y bytes maxL ret).before a A.U = true := hws _ hcode _ _ X.warmed
  have h3 : (Cond.initialized y.cls).before a A.U = true := hinit _ _ X.warmed
  have h4 : A.cells + (headSpec ws rm).room.cells ≤ R.cells := by rw [show (headSpec ws rm).room.cells = mc from hrc]; exact hp.1
  have h5 : A.slots + (headSpec ws rm).room.slots ≤ R.slots := by rw [show (headSpec ws rm).room.slots = ms from hrs]; exact hp.2.1
  have hPc : Pc a (A.U.calling g mk a) := hblind _ _ _ _ hp.2.2
  obtain ⟨U, Ls, c0, s0⟩ := A
  dsimp only [Pt.U, Pt.locs, Pt.cells, Pt.slots] at h1 h2 h3 h4 h5 X hn hPc ⊢
  obtain ⟨methY, cY, hmY, hcY, -, hlY, -, -, -, -⟩ := Cond.code_spec hn h2
  obtain ⟨kY, hkY, -⟩ := className_of_methodNamed hn
  have hinitY : kY.init = .initialized := Cond.initialized_spec (findClass_of_methodNamed hn) hkY h3
  have h : At U g.method c below := by rw [hg]; exact X.here
  have hlocals9 : W9 + (maxL + 11) + (headSpec ws rm).room.locals ≤ R.locals := hlocals
  have happ : (headSpec ws rm).appliesLoose y e.platform (U.calling g mk a) = true :=
    Spec.appliesLoose_calling (g := g) h hdg hn hkY hinitY
      (X.room_calling (g := g) (R' := (headSpec ws rm).room) hsize hmY hcY hframes (by rw [hlY]; omega) h4 h5) h1
  obtain ⟨mid, hmid⟩ := h.above
  have hfr : (U.setTop g).frames = (.java g :: mid) ++ below := by rw [State.frames_setTop' g h.top, hmid]; rfl
  obtain ⟨o, s₂, hsteps, -, hend, hq⟩ := Steps.callFree hM p X.admits X.cas X.clock (acts := []) hfr happ hPc trivial
  have hq' : vx_Q Qc XC mc ms free a (U.calling g mk a) o s₂ := hq
  rw [State.frames_setTop' g h.top] at hend
  obtain ⟨g₀, hg0⟩ := Option.isSome_iff_exists.mp h.top
  obtain ⟨r, hr⟩ := State.topJava?_eq_some.mp hg0
  have hr' : (({ U with heap := s₂.heap, slotsUsed := s₂.slotsUsed } : State).setVm s₂.vm).frames = .java g₀ :: r := hr
  rcases hq' with ⟨hqc, L, hfe, hL⟩ | ⟨q, rfl, E, ce, L, hx, hce, hcv, hcl, hW₂, hsm, hL⟩
  · obtain ⟨⟨v, rfl⟩, hW₂, e2, q2, q3, q4, q5, q6⟩ := id hfe
    have e3 : s₂ = ({ (U.calling g mk a).setFrames s₂.frames with heap := s₂.heap, slotsUsed := s₂.slotsUsed } : State).setVm s₂.vm := by
      have : s₂ = ({ s₂ with vm := (U.calling g mk a).vm } : State).setVm s₂.vm := rfl
      rw [e2] at this
      exact this
    obtain ⟨c₂, i₂, len₂, hc₂, hd₂, hf₂⟩ := hend
    have hW' : U.WarmedH s₂.vm := hW₂
    have hcc : c₂ = c := by
      have h1 : s₂.code? g.method = U.code? g.method := by
        rw [State.code?_eq, State.code?_eq, hW'.alike.method?]
      exact Option.some.inj (hc₂.symm.trans (h1.trans h.code))
    subst hcc
    have hlen : len₂ = len := by rw [hdg] at hd₂; cases hd₂; rfl
    subst hlen
    have hs₂ : s₂ = (({ U with heap := s₂.heap, slotsUsed := s₂.slotsUsed } : State).setVm s₂.vm).setTop { g with pc := g.pc + len₂, stack := v.toList ++ g.stack } := by
      refine e3.trans ?_
      rw [hf₂, State.calling_eq h.top, State.setFrames_setFrames, State.setTop_of_frames _ hr', hr]
      rfl
    have hsame : U.sameButNew ({ U with heap := s₂.heap, slotsUsed := s₂.slotsUsed } : State) L mc ms := by
      refine ⟨?_, q2, q3, q4, q5, q6⟩
      obtain ⟨t, ht, -⟩ := State.frames_cons hr
      show ({ U with heap := s₂.heap, slotsUsed := s₂.slotsUsed } : State) = { U.setFrames U.frames with heap := s₂.heap, slotsUsed := s₂.slotsUsed }
      rw [State.setFrames_self ht]
    subst hg
    refine Or.inl ⟨v, ⟨(({ U with heap := s₂.heap, slotsUsed := s₂.slotsUsed } : State).setVm s₂.vm), Ls ++ L, c0 + mc, s0 + ms⟩,
      ⟨X.admits, X.cas, X.clock, X.frames, X.room, X.hears, X.method, X.code, (X.here.setHeapUsed s₂.heap s₂.slotsUsed).setVm hW'.alike, X.tail, State.WarmedH.trans X.warmed hW', X.limits, X.bytes, X.same.trans (hsame.setVm s.vm)⟩,
      ⟨g, mk, s₂, L, rfl, rfl, hqc, rfl, hL, rfl, rfl⟩, ?_⟩
    show Steps p.tables e below _ ((({ U with heap := s₂.heap, slotsUsed := s₂.slotsUsed } : State).setVm s₂.vm).setTop { g with pc := g.pc + len₂, stack := v.toList ++ g.stack })
    rw [← hs₂]
    exact hsteps
  · obtain ⟨e2, q2, q3, q4, q5, q6⟩ := id hsm
    have e3 : s₂ = ({ (U.calling g mk a).setFrames s₂.frames with heap := s₂.heap, slotsUsed := s₂.slotsUsed } : State).setVm s₂.vm := by
      have : s₂ = ({ s₂ with vm := (U.calling g mk a).vm } : State).setVm s₂.vm := rfl
      rw [e2] at this
      exact this
    have hf₂ : s₂.frames = .throwing q :: .java g :: U.frames.tail := hend
    have hW' : U.WarmedH s₂.vm := hW₂
    have hs₂ : s₂ = ((({ U with heap := s₂.heap, slotsUsed := s₂.slotsUsed } : State).setVm s₂.vm).setTop g).pushFrame (.throwing q) := by
      refine e3.trans ?_
      rw [hf₂, State.calling_eq h.top, State.setFrames_setFrames, State.pushFrame, State.frames_setTop _ hr', State.setTop_of_frames _ hr', State.setFrames_setFrames, hr]
      rfl
    have hsame : U.sameButNew ({ U with heap := s₂.heap, slotsUsed := s₂.slotsUsed } : State) L mc ms := by
      refine ⟨?_, q2, q3, q4, q5, q6⟩
      obtain ⟨t, ht, -⟩ := State.frames_cons hr
      show ({ U with heap := s₂.heap, slotsUsed := s₂.slotsUsed } : State) = { U.setFrames U.frames with heap := s₂.heap, slotsUsed := s₂.slotsUsed }
      rw [State.setFrames_self ht]
    subst hg
    refine Or.inr ⟨q, ⟨(({ U with heap := s₂.heap, slotsUsed := s₂.slotsUsed } : State).setVm s₂.vm), Ls ++ L, c0 + mc, s0 + ms⟩,
      ⟨X.admits, X.cas, X.clock, X.frames, X.room, X.hears, X.method, X.code, (X.here.setHeapUsed s₂.heap s₂.slotsUsed).setVm hW'.alike, X.tail, State.WarmedH.trans X.warmed hW', X.limits, X.bytes, X.same.trans (hsame.setVm s.vm)⟩,
      ⟨g, mk, s₂, L, E, ce, rfl, rfl, hx, hce, hcv, hcl, rfl, hL, rfl, rfl⟩, ?_⟩
    show Steps p.tables e below _ (((({ U with heap := s₂.heap, slotsUsed := s₂.slotsUsed } : State).setVm s₂.vm).setTop g).pushFrame (.throwing q))
    rw [← hs₂]
    exact hsteps
end Payer
section Calls
variable {p : Program} {l : Launch} {e : Env} {R : Room} {s : State} {m : MethodId} {args : Array Value} {below : List Frame} {meth : Method} {c : Code} {T : State} {locs : List Loc} {cells slots : Nat}
theorem vx_callV (X : Stand p l e R s m args below meth c T locs cells slots) (hexec : p.tables.exec = Jvm.exec) {own C : String} {index : Nat} {y : MethodName} {bytes : ByteArray} {maxL : Nat} {ret : Option FieldType}
    (hown : s.vm.findClass own = some m.cls) (hlink : (Cond.methodLink own index y).before args s = true) (hinst : (Cond.instanceMethod y).before args s = true) (hsel : (Cond.selects C y y).before args s = true)
    (hcode : (Cond.code y bytes maxL ret).before args s = true) (hy : y.cls ≠ "java/lang/invoke/MethodHandle" ∧ y.cls ≠ "java/lang/invoke/VarHandle")
    {W9 : Nat} {Pre : Pt → Array Value → Prop} {Post : Pt → Array Value → Option Value → Pt → Prop} {PostX : Pt → Array Value → Addr → Pt → Prop} (hK : vx_Back l R p e below s args y 3 W9 Pre Post PostX)
    {b : Addr} {cellB : Cell} (hcell : T.heap[b]? = some cellB) (hobj : cellB.vm.isStatics = false) (hcls : s.vm.findClass C = some cellB.cls)
    {g : JFrame} (hg : g.method = m) (hsize : g.locals.size = c.maxLocals) {argsL rest : List Value} (hlen : ∀ sig, parseMethodDescriptor y.desc = some sig → argsL.length = sig.parameters.length)
    (hstack : g.stack = argsL.reverse ++ .ref b :: rest) (hW : 2 * g.monitorRoom + (rest.map fun v => v.category).sum ≤ W9) (hdg : decode c.code g.pc = .ok (.invokevirtual index, 3))
    (hpre : ∀ vm₁, s.WarmedH vm₁ → Pre ⟨T.setVm vm₁, locs, cells, slots⟩ (Value.ref b :: argsL).toArray) :
    (∃ (v : Option Value) (vm₁ : Vm) (B : Pt), s.WarmedH vm₁ ∧ Stand p l e R s m args below meth c B.U B.locs B.cells B.slots ∧ Post ⟨T.setVm vm₁, locs, cells, slots⟩ (Value.ref b :: argsL).toArray v B ∧
      ∀ target, Steps p.tables e below (B.U.setTop { g with pc := g.pc + 3, stack := v.toList ++ rest }) target → Steps p.tables e below (T.setTop g) target) ∨
    (∃ (q : Addr) (vm₁ : Vm) (B : Pt), s.WarmedH vm₁ ∧ Stand p l e R s m args below meth c B.U B.locs B.cells B.slots ∧ PostX ⟨T.setVm vm₁, locs, cells, slots⟩ (Value.ref b :: argsL).toArray q B ∧
      Steps p.tables e below (T.setTop g) ((B.U.setTop { g with stack := rest }).pushFrame (.throwing q))) := by
  obtain ⟨mk, methM, hnamed, hmethM, hstM, habM⟩ := Cond.instanceMethod_spec hinst
  obtain ⟨methM', cM, hmethM', -, -, -, -, -, -, hsigM⟩ := Cond.code_spec hnamed hcode
  cases hmethM.symm.trans hmethM'
  obtain ⟨c2, r2, m2, q1, q2, q3, q4, kP, hkP, hkPi⟩ := Cond.selects_spec hsel
  cases hcls.symm.trans q1
  cases (State.methodFound?_of_named hnamed hy).symm.trans q2
  cases hnamed.symm.trans q3
  have hselP : selectMethod e.platform s.vm cellB.cls mk = .method mk := by rw [Launch.admits_selectMethod X.admits]; exact q4
  obtain ⟨vm₁, X₁, hstep₁⟩ := X.invokevirtual hexec hown hlink hnamed hmethM hstM hkP hkPi hy (a := b) (cell := cellB) hcell
    (fun z h => by rw [h] at hobj; cases hobj) hselP hmethM habM hkP hkPi (g := g) hg (argsL := argsL) (rest := rest) (hlen _ hsigM) hstack hdg
  rcases hK m meth c ⟨T.setVm vm₁, locs, cells, slots⟩ { g with stack := rest } (.invokevirtual index) mk (Value.ref b :: argsL).toArray X₁ hg hsize hdg hW (X₁.named hnamed) (hpre vm₁ X₁.warmed) with ⟨v, B, X', hpost, hsteps⟩ | ⟨q, B, X', hpost, hsteps⟩
  · exact Or.inl ⟨v, vm₁, B, X₁.warmed, X', hpost, fun target h => hstep₁ _ fun acts => by rw [doInvoke_state]; exact hsteps.trans h⟩
  · exact Or.inr ⟨q, vm₁, B, X₁.warmed, X', hpost, hstep₁ _ fun acts => by rw [doInvoke_state]; exact hsteps⟩
theorem vx_callS (X : Stand p l e R s m args below meth c T locs cells slots) (hexec : p.tables.exec = Jvm.exec) {own : String} {index : Nat} {y : MethodName} {bytes : ByteArray} {maxL : Nat} {ret : Option FieldType}
    (hown : s.vm.findClass own = some m.cls) (hlink : (Cond.methodLink own index y).before args s = true) (hstat : (Cond.static y).before args s = true) (hinit : (Cond.initialized y.cls).before args s = true)
    (hcode : (Cond.code y bytes maxL ret).before args s = true) (hy : y.cls ≠ "java/lang/invoke/MethodHandle" ∧ y.cls ≠ "java/lang/invoke/VarHandle")
    {W9 : Nat} {Pre : Pt → Array Value → Prop} {Post : Pt → Array Value → Option Value → Pt → Prop} {PostX : Pt → Array Value → Addr → Pt → Prop} (hK : vx_Back l R p e below s args y 3 W9 Pre Post PostX)
    {g : JFrame} (hg : g.method = m) (hsize : g.locals.size = c.maxLocals) {argsL rest : List Value} (hlen : ∀ sig, parseMethodDescriptor y.desc = some sig → argsL.length = sig.parameters.length)
    (hstack : g.stack = argsL.reverse ++ rest) (hW : 2 * g.monitorRoom + (rest.map fun v => v.category).sum ≤ W9) (hdg : decode c.code g.pc = .ok (.invokestatic index, 3))
    (hpre : ∀ vm₁, s.WarmedH vm₁ → Pre ⟨T.setVm vm₁, locs, cells, slots⟩ argsL.toArray) :
    (∃ (v : Option Value) (vm₁ : Vm) (B : Pt), s.WarmedH vm₁ ∧ Stand p l e R s m args below meth c B.U B.locs B.cells B.slots ∧ Post ⟨T.setVm vm₁, locs, cells, slots⟩ argsL.toArray v B ∧
      ∀ target, Steps p.tables e below (B.U.setTop { g with pc := g.pc + 3, stack := v.toList ++ rest }) target → Steps p.tables e below (T.setTop g) target) ∨
    (∃ (q : Addr) (vm₁ : Vm) (B : Pt), s.WarmedH vm₁ ∧ Stand p l e R s m args below meth c B.U B.locs B.cells B.slots ∧ PostX ⟨T.setVm vm₁, locs, cells, slots⟩ argsL.toArray q B ∧
      Steps p.tables e below (T.setTop g) ((B.U.setTop { g with stack := rest }).pushFrame (.throwing q))) := by
  obtain ⟨mk, hnamed⟩ := Cond.code_named hcode
  obtain ⟨methM, cM, hmethM, -, -, -, -, -, -, hsigM⟩ := Cond.code_spec hnamed hcode
  have hstatic : methM.isStatic = true := Cond.static_spec hnamed hmethM hstat
  obtain ⟨kP, hkP, -⟩ := className_of_methodNamed hnamed
  have hinitP : kP.init = .initialized := Cond.initialized_spec (findClass_of_methodNamed hnamed) hkP hinit
  obtain ⟨vm₁, X₁, hstep₁⟩ := X.invokestatic hexec hown hlink hnamed hmethM hstatic hkP hinitP hy (g := g) hg (argsL := argsL) (rest := rest) (hlen _ hsigM) hstack hdg
  rcases hK m meth c ⟨T.setVm vm₁, locs, cells, slots⟩ { g with stack := rest } (.invokestatic index) mk argsL.toArray X₁ hg hsize hdg hW (X₁.named hnamed) (hpre vm₁ X₁.warmed) with ⟨v, B, X', hpost, hsteps⟩ | ⟨q, B, X', hpost, hsteps⟩
  · exact Or.inl ⟨v, vm₁, B, X₁.warmed, X', hpost, fun target h => hstep₁ _ fun acts => by rw [doInvoke_state]; exact hsteps.trans h⟩
  · exact Or.inr ⟨q, vm₁, B, X₁.warmed, X', hpost, hstep₁ _ fun acts => by rw [doInvoke_state]; exact hsteps⟩
end Calls
theorem vx_cls {s : State} {T : State} {vm₁ : Vm} {E : String} {k : ClassId} (hW : s.WarmedH vm₁) (h : (T.setVm vm₁).vm.findClass E = some k) : s.vm.findClass E = some k := by
  have h1 : vm₁.findClass E = some k := h
  rw [hW.alike.findClass] at h1
  exact h1
/-- the method's frame g, with q thrown over it -/
def vx_W (p : Program) (l : Launch) (e : Env) (R : Room) (s : State) (m : MethodId) (args : Array Value) (below : List Frame) (meth : Method) (c : Code) (H : Heap) (locs : List Loc) (cells slots : Nat) (Q : State → Prop) (g : JFrame) (q : Addr) : Prop :=
  ∀ T : State, T.heap = H → Stand p l e R s m args below meth c T locs cells slots → ∃ t, Steps p.tables e below ((T.setTop g).pushFrame (.throwing q)) t ∧ Q t
def vx_Run (p : Program) (l : Launch) (e : Env) (R : Room) (s : State) (m : MethodId) (args : Array Value) (below : List Frame) (meth : Method) (c : Code) (H : Heap) (locs : List Loc) (cells slots mc ms : Nat) (g : JFrame) (rest : List Value) (Qa : State → Outcome → State → Prop) (XC : String → State → State → Prop) (free : Addr → Prop) : Prop :=
  ∀ T : State, T.heap = H → Stand p l e R s m args below meth c T locs cells slots →
    (∃ (v : Option Value) (st₀ t T' : State) (L : List Loc), st₀.heap = H ∧ Stand p l e R s m args below meth c T' (locs ++ L) (cells + mc) (slots + ms) ∧ (∀ q ∈ L, free q.base) ∧ T'.heap = t.heap ∧ T'.vm = t.vm ∧ Qa st₀ (.returned v) t ∧
      Goes p e below T g T' { g with pc := g.pc + 3, stack := v.toList ++ rest }) ∨
    (∃ (q : Addr) (st₀ t T' : State) (L : List Loc) (E : String) (ce : Cell), st₀.heap = H ∧ Stand p l e R s m args below meth c T' (locs ++ L) (cells + mc) (slots + ms) ∧ (∀ z ∈ L, free z.base) ∧ T'.heap = t.heap ∧ T'.vm = t.vm ∧ XC E st₀ t ∧ t.heap[q]? = some ce ∧ ce.vm = .none ∧ s.vm.findClass E = some ce.cls ∧
      Steps p.tables e below (T.setTop g) ((T'.setTop { g with stack := rest }).pushFrame (.throwing q)))
def vx_X {S : Type} (px : S → Prop) (B : String → S → State → Prop) (A : Nat → Prop) : String → State → State → Prop := fun E st t => ∃ u : S, px u ∧ B E u t ∧ va_F A st t
section Runs
variable {p : Program} {l : Launch} {e : Env} {R : Room} {s : State} {m : MethodId} {args : Array Value} {below : List Frame} {meth : Method} {c : Code} {H : Heap} {locs : List Loc} {cells slots : Nat}
variable {y : MethodName} {bytes cc : ByteArray} {maxL nL mc ms n index : Nat} {ret : Option FieldType} {ws : List Cond} {rm : Room} {Pc : Array Value → State → Prop} {Qc : Array Value → State → Outcome → State → Prop} {XC : String → State → State → Prop} {free : Addr → Prop} {Ts : List Cond} {own C : String} {b : Addr} {As rest : List Value} {g : JFrame}
theorem vx_callBack (cb : CallB R s args own index y bytes maxL ret ws rm mc ms n) (hM : vx_Met l y ws rm Pc Qc XC mc ms free) (hbl : FrameBlind Pc) : vx_Back l R p e below s args y 3 8 (PreOf R mc ms Pc) (PostOf Qc mc ms free) (vx_Post XC mc ms free) := by
  obtain ⟨hrc, hrs, hfr, hlo, hws, hcw, -, hini, -⟩ := cb
  exact vx_back (bytes := bytes) (maxL := maxL) (ret := ret) hM hbl hrc hrs hfr hlo hws hcw (fun a' U hW => word_at hW (Or.inl (by first | rfl | simp [Cond.onTables, Cond.keeps, Cond.steady])) hini)
theorem vx_runV (S : CallFix p m c cc nL s args Ts own) (hM : vx_Met l y ws rm Pc Qc XC mc ms free) (cw : CallW R s args own C index y bytes maxL ret ws rm mc ms n) (hp : PreV s H C b Pc As)
    (hg : g.method = m) (hn : As.length = n) (hsize : g.locals.size = nL) (hstack : g.stack = As.reverse ++ .ref b :: rest) (hW : 2 * g.monitorRoom + (rest.map fun v => v.category).sum ≤ 8) (hdg : decode cc g.pc = .ok (.invokevirtual index, 3)) (hf : cells + mc ≤ R.cells ∧ slots + ms ≤ R.slots) :
    vx_Run p l e R s m args below meth c H locs cells slots mc ms g rest (Qc (Value.ref b :: As).toArray) XC free := by
  have hK : vx_Back l R p e below s args y 3 8 (PreOf R mc ms Pc) (PostOf Qc mc ms free) (vx_Post XC mc ms free) := vx_callBack cw.1 hM hp.1
  obtain ⟨⟨-, -, -, -, -, -, hcode, -, hy, hlen, hl⟩, hin, hse⟩ := cw
  obtain ⟨hx, hb, hml, ho, -⟩ := S
  obtain ⟨-, ⟨cellB, hcB, hoB, hclB⟩, hPc⟩ := hp
  intro T hT X
  rcases vx_callV X hx (C := C) (bytes := bytes) (maxL := maxL) (ret := ret) ho hl hin hse hcode hy hK (by rw [hT]; exact hcB) hoB hclB hg (hsize.trans hml.symm) (argsL := As) (rest := rest) (fun sig h => hn.trans (hlen sig h)) hstack hW (by rw [hb]; exact hdg)
    (fun vm₁ hW₁ => ⟨hf.1, hf.2, hPc (T.setVm vm₁) hT hW₁⟩) with ⟨v, vm₁, ⟨U', l2, c2, s2⟩, hW₁, X', ⟨g', mk, t, L, e1, e2, hq, h1, hL, h2, h3⟩, st⟩ | ⟨q, vm₁, ⟨U', l2, c2, s2⟩, hW₁, X', ⟨g', mk, t, L, E, ce, e1, e2, hq, hce, hcv, hcl, h1, hL, h2, h3⟩, st⟩
  · dsimp only [Pt.U, Pt.locs, Pt.cells, Pt.slots] at X' e1 e2 h1 h2 h3 st
    subst h1; subst h2; subst h3
    exact Or.inl ⟨v, (T.setVm vm₁).calling g' mk (Value.ref b :: As).toArray, t, U', L, hT, X', hL, e1, e2, hq, st⟩
  · dsimp only [Pt.U, Pt.locs, Pt.cells, Pt.slots] at X' e1 e2 h1 h2 h3 st hcl
    subst h1; subst h2; subst h3
    exact Or.inr ⟨q, (T.setVm vm₁).calling g' mk (Value.ref b :: As).toArray, t, U', L, E, ce, hT, X', hL, e1, e2, hq, hce, hcv, vx_cls hW₁ hcl, st⟩
theorem vx_runS (S : CallFix p m c cc nL s args Ts own) (hM : vx_Met l y ws rm Pc Qc XC mc ms free) (cw : CallB R s args own index y bytes maxL ret ws rm mc ms n ∧ (Cond.static y).before args s = true) (hp : PreS s H Pc As)
    (hg : g.method = m) (hn : As.length = n) (hsize : g.locals.size = nL) (hstack : g.stack = As.reverse ++ rest) (hW : 2 * g.monitorRoom + (rest.map fun v => v.category).sum ≤ 8) (hdg : decode cc g.pc = .ok (.invokestatic index, 3)) (hf : cells + mc ≤ R.cells ∧ slots + ms ≤ R.slots) :
    vx_Run p l e R s m args below meth c H locs cells slots mc ms g rest (Qc As.toArray) XC free := by
  have hK : vx_Back l R p e below s args y 3 8 (PreOf R mc ms Pc) (PostOf Qc mc ms free) (vx_Post XC mc ms free) := vx_callBack cw.1 hM hp.1
  obtain ⟨⟨-, -, -, -, -, -, hcode, hini, hy, hlen, hl⟩, hstt⟩ := cw
  obtain ⟨hx, hb, hml, ho, -⟩ := S
  intro T hT X
  rcases vx_callS X hx (bytes := bytes) (maxL := maxL) (ret := ret) ho hl hstt hini hcode hy hK hg (hsize.trans hml.symm) (argsL := As) (rest := rest) (fun sig h => hn.trans (hlen sig h)) hstack hW (by rw [hb]; exact hdg)
    (fun vm₁ hW₁ => ⟨hf.1, hf.2, hp.2 (T.setVm vm₁) hT hW₁⟩) with ⟨v, vm₁, ⟨U', l2, c2, s2⟩, hW₁, X', ⟨g', mk, t, L, e1, e2, hq, h1, hL, h2, h3⟩, st⟩ | ⟨q, vm₁, ⟨U', l2, c2, s2⟩, hW₁, X', ⟨g', mk, t, L, E, ce, e1, e2, hq, hce, hcv, hcl, h1, hL, h2, h3⟩, st⟩
  · dsimp only [Pt.U, Pt.locs, Pt.cells, Pt.slots] at X' e1 e2 h1 h2 h3 st
    subst h1; subst h2; subst h3
    exact Or.inl ⟨v, (T.setVm vm₁).calling g' mk As.toArray, t, U', L, hT, X', hL, e1, e2, hq, st⟩
  · dsimp only [Pt.U, Pt.locs, Pt.cells, Pt.slots] at X' e1 e2 h1 h2 h3 st hcl
    subst h1; subst h2; subst h3
    exact Or.inr ⟨q, (T.setVm vm₁).calling g' mk As.toArray, t, U', L, E, ce, hT, X', hL, e1, e2, hq, hce, hcv, vx_cls hW₁ hcl, st⟩
end Runs
section Rows
variable {p : Program} {l : Launch} {e : Env} {R : Room} {s : State} {m : MethodId} {args : Array Value} {below : List Frame} {meth : Method} {c : Code} {H : Heap} {locs : List Loc} {cells slots : Nat} {Q : State → Prop}
variable {mc ms : Nat} {free : Addr → Prop} {A0 A1 : Nat → Prop} {H0 : Heap} {a : Array Value} {pc : Nat} {ls : Array Slot} {st0 rest : List Value}
theorem vx_keep {st₀ t T' : State} {L : List Loc} (h0 : st₀.heap = H) (e1 : T'.heap = t.heap) (hS : va_S A0 H0 H locs) (hA : ∀ q, q < H.size → A1 q → A0 q) (hf : ∀ q, free q → A0 q) (hL : ∀ q ∈ L, free q.base) (hF : va_F A1 st₀ t) :
    H.size ≤ T'.heap.size ∧ (∀ q : Nat, q < H.size → ¬ A1 q → T'.heap[q]? = H[q]?) ∧ va_S A0 H0 T'.heap (locs ++ L) := by
  obtain ⟨hz, hk⟩ := hF
  rw [h0] at hz hk
  exact ⟨by rw [e1]; exact hz, fun q h1 h2 => by rw [e1]; exact hk q h1 h2,
    ⟨Nat.le_trans hS.1 (by rw [e1]; exact hz), fun q h1 h2 => by rw [e1, hk q (Nat.lt_of_lt_of_le h1 hS.1) (fun z => h2 (hA q (Nat.lt_of_lt_of_le h1 hS.1) z))]; exact hS.2.1 q h1 h2, fun q hq => by
      rcases List.mem_append.mp hq with h | h
      · exact hS.2.2 q h
      · exact hf _ (hL q h)⟩⟩
theorem vx_calli {S SX : Type} {post : Int32 → S → Prop} {px : SX → Prop} {B : S → State → Prop} {BX : String → SX → State → Prop} {AX : Nat → Prop} (hr : vx_Run p l e R s m args below meth c H locs cells slots mc ms (F0 m pc ls st0) rest (va_Qi post B A1 a) (vx_X px BX AX) free) (hS : va_S A0 H0 H locs) (hA : ∀ q, q < H.size → A1 q → A0 q) (hf : ∀ q, free q → A0 q) (hAX : ∀ q, q < H.size → AX q → A0 q)
    (kx : ∀ (E : String) (ce : Cell) (q9 : Addr) (u : SX) (t : State) (H1 : Heap) (locs1 : List Loc), t.heap = H1 → s.vm.Alike t.vm → px u → BX E u t → H.size ≤ H1.size → (∀ q : Nat, q < H.size → ¬ AX q → H1[q]? = H[q]?) → va_S A0 H0 H1 locs1 → H1[q9]? = some ce → ce.vm = .none → s.vm.findClass E = some ce.cls → vx_W p l e R s m args below meth c H1 locs1 (cells + mc) (slots + ms) Q (F0 m pc ls rest) q9)
    (kk : ∀ (r : Int32) (u : S) (t : State) (H1 : Heap) (locs1 : List Loc), t.heap = H1 → s.vm.Alike t.vm → post r u → B u t → H.size ≤ H1.size → (∀ q : Nat, q < H.size → ¬ A1 q → H1[q]? = H[q]?) → va_S A0 H0 H1 locs1 → W p l e R s m args below meth c H1 locs1 (cells + mc) (slots + ms) Q (F0 m (pc + 3) ls (.int r :: rest))) : W p l e R s m args below meth c H locs cells slots Q (F0 m pc ls st0) := by
  intro T hT X
  rcases hr T hT X with ⟨v, st₀, t, T', L, h0, X', hL, e1, e2, ⟨⟨r, u, hv, hp, hb⟩, hF⟩, st⟩ | ⟨q, st₀, t, T', L, E, ce, h0, X', hL, e1, e2, ⟨u, hp, hb, hF⟩, hce, hcv, hcl, st⟩
  · cases hv
    obtain ⟨k1, k2, k3⟩ := vx_keep h0 e1 hS hA hf hL hF
    obtain ⟨t2, a1, b1⟩ := kk r u t T'.heap (locs ++ L) e1.symm (by rw [← e2]; exact X'.warmed.alike) hp hb k1 k2 k3 T' rfl X'
    exact ⟨t2, st t2 a1, b1⟩
  · obtain ⟨k1, k2, k3⟩ := vx_keep h0 e1 hS hAX hf hL hF
    obtain ⟨t2, a1, b1⟩ := kx E ce q u t T'.heap (locs ++ L) e1.symm (by rw [← e2]; exact X'.warmed.alike) hp hb k1 k2 k3 (by rw [e1]; exact hce) hcv hcl T' rfl X'
    exact ⟨t2, st.trans a1, b1⟩
theorem vx_calll {S SX : Type} {post : Int64 → S → Prop} {px : SX → Prop} {B : S → State → Prop} {BX : String → SX → State → Prop} {AX : Nat → Prop} (hr : vx_Run p l e R s m args below meth c H locs cells slots mc ms (F0 m pc ls st0) rest (va_Ql post B A1 a) (vx_X px BX AX) free) (hS : va_S A0 H0 H locs) (hA : ∀ q, q < H.size → A1 q → A0 q) (hf : ∀ q, free q → A0 q) (hAX : ∀ q, q < H.size → AX q → A0 q)
    (kx : ∀ (E : String) (ce : Cell) (q9 : Addr) (u : SX) (t : State) (H1 : Heap) (locs1 : List Loc), t.heap = H1 → s.vm.Alike t.vm → px u → BX E u t → H.size ≤ H1.size → (∀ q : Nat, q < H.size → ¬ AX q → H1[q]? = H[q]?) → va_S A0 H0 H1 locs1 → H1[q9]? = some ce → ce.vm = .none → s.vm.findClass E = some ce.cls → vx_W p l e R s m args below meth c H1 locs1 (cells + mc) (slots + ms) Q (F0 m pc ls rest) q9)
    (kk : ∀ (r : Int64) (u : S) (t : State) (H1 : Heap) (locs1 : List Loc), t.heap = H1 → s.vm.Alike t.vm → post r u → B u t → H.size ≤ H1.size → (∀ q : Nat, q < H.size → ¬ A1 q → H1[q]? = H[q]?) → va_S A0 H0 H1 locs1 → W p l e R s m args below meth c H1 locs1 (cells + mc) (slots + ms) Q (F0 m (pc + 3) ls (.long r :: rest))) : W p l e R s m args below meth c H locs cells slots Q (F0 m pc ls st0) := by
  intro T hT X
  rcases hr T hT X with ⟨v, st₀, t, T', L, h0, X', hL, e1, e2, ⟨⟨r, u, hv, hp, hb⟩, hF⟩, st⟩ | ⟨q, st₀, t, T', L, E, ce, h0, X', hL, e1, e2, ⟨u, hp, hb, hF⟩, hce, hcv, hcl, st⟩
  · cases hv
    obtain ⟨k1, k2, k3⟩ := vx_keep h0 e1 hS hA hf hL hF
    obtain ⟨t2, a1, b1⟩ := kk r u t T'.heap (locs ++ L) e1.symm (by rw [← e2]; exact X'.warmed.alike) hp hb k1 k2 k3 T' rfl X'
    exact ⟨t2, st t2 a1, b1⟩
  · obtain ⟨k1, k2, k3⟩ := vx_keep h0 e1 hS hAX hf hL hF
    obtain ⟨t2, a1, b1⟩ := kx E ce q u t T'.heap (locs ++ L) e1.symm (by rw [← e2]; exact X'.warmed.alike) hp hb k1 k2 k3 (by rw [e1]; exact hce) hcv hcl T' rfl X'
    exact ⟨t2, st.trans a1, b1⟩
theorem vx_callf {S SX : Type} {post : UInt32 → S → Prop} {px : SX → Prop} {B : S → State → Prop} {BX : String → SX → State → Prop} {AX : Nat → Prop} (hr : vx_Run p l e R s m args below meth c H locs cells slots mc ms (F0 m pc ls st0) rest (va_Qf post B A1 a) (vx_X px BX AX) free) (hS : va_S A0 H0 H locs) (hA : ∀ q, q < H.size → A1 q → A0 q) (hf : ∀ q, free q → A0 q) (hAX : ∀ q, q < H.size → AX q → A0 q)
    (kx : ∀ (E : String) (ce : Cell) (q9 : Addr) (u : SX) (t : State) (H1 : Heap) (locs1 : List Loc), t.heap = H1 → s.vm.Alike t.vm → px u → BX E u t → H.size ≤ H1.size → (∀ q : Nat, q < H.size → ¬ AX q → H1[q]? = H[q]?) → va_S A0 H0 H1 locs1 → H1[q9]? = some ce → ce.vm = .none → s.vm.findClass E = some ce.cls → vx_W p l e R s m args below meth c H1 locs1 (cells + mc) (slots + ms) Q (F0 m pc ls rest) q9)
    (kk : ∀ (r : UInt32) (u : S) (t : State) (H1 : Heap) (locs1 : List Loc), t.heap = H1 → s.vm.Alike t.vm → post r u → B u t → H.size ≤ H1.size → (∀ q : Nat, q < H.size → ¬ A1 q → H1[q]? = H[q]?) → va_S A0 H0 H1 locs1 → W p l e R s m args below meth c H1 locs1 (cells + mc) (slots + ms) Q (F0 m (pc + 3) ls (.float r :: rest))) : W p l e R s m args below meth c H locs cells slots Q (F0 m pc ls st0) := by
  intro T hT X
  rcases hr T hT X with ⟨v, st₀, t, T', L, h0, X', hL, e1, e2, ⟨⟨r, u, hv, hp, hb⟩, hF⟩, st⟩ | ⟨q, st₀, t, T', L, E, ce, h0, X', hL, e1, e2, ⟨u, hp, hb, hF⟩, hce, hcv, hcl, st⟩
  · cases hv
    obtain ⟨k1, k2, k3⟩ := vx_keep h0 e1 hS hA hf hL hF
    obtain ⟨t2, a1, b1⟩ := kk r u t T'.heap (locs ++ L) e1.symm (by rw [← e2]; exact X'.warmed.alike) hp hb k1 k2 k3 T' rfl X'
    exact ⟨t2, st t2 a1, b1⟩
  · obtain ⟨k1, k2, k3⟩ := vx_keep h0 e1 hS hAX hf hL hF
    obtain ⟨t2, a1, b1⟩ := kx E ce q u t T'.heap (locs ++ L) e1.symm (by rw [← e2]; exact X'.warmed.alike) hp hb k1 k2 k3 (by rw [e1]; exact hce) hcv hcl T' rfl X'
    exact ⟨t2, st.trans a1, b1⟩
theorem vx_calld {S SX : Type} {post : UInt64 → S → Prop} {px : SX → Prop} {B : S → State → Prop} {BX : String → SX → State → Prop} {AX : Nat → Prop} (hr : vx_Run p l e R s m args below meth c H locs cells slots mc ms (F0 m pc ls st0) rest (va_Qd post B A1 a) (vx_X px BX AX) free) (hS : va_S A0 H0 H locs) (hA : ∀ q, q < H.size → A1 q → A0 q) (hf : ∀ q, free q → A0 q) (hAX : ∀ q, q < H.size → AX q → A0 q)
    (kx : ∀ (E : String) (ce : Cell) (q9 : Addr) (u : SX) (t : State) (H1 : Heap) (locs1 : List Loc), t.heap = H1 → s.vm.Alike t.vm → px u → BX E u t → H.size ≤ H1.size → (∀ q : Nat, q < H.size → ¬ AX q → H1[q]? = H[q]?) → va_S A0 H0 H1 locs1 → H1[q9]? = some ce → ce.vm = .none → s.vm.findClass E = some ce.cls → vx_W p l e R s m args below meth c H1 locs1 (cells + mc) (slots + ms) Q (F0 m pc ls rest) q9)
    (kk : ∀ (r : UInt64) (u : S) (t : State) (H1 : Heap) (locs1 : List Loc), t.heap = H1 → s.vm.Alike t.vm → post r u → B u t → H.size ≤ H1.size → (∀ q : Nat, q < H.size → ¬ A1 q → H1[q]? = H[q]?) → va_S A0 H0 H1 locs1 → W p l e R s m args below meth c H1 locs1 (cells + mc) (slots + ms) Q (F0 m (pc + 3) ls (.double r :: rest))) : W p l e R s m args below meth c H locs cells slots Q (F0 m pc ls st0) := by
  intro T hT X
  rcases hr T hT X with ⟨v, st₀, t, T', L, h0, X', hL, e1, e2, ⟨⟨r, u, hv, hp, hb⟩, hF⟩, st⟩ | ⟨q, st₀, t, T', L, E, ce, h0, X', hL, e1, e2, ⟨u, hp, hb, hF⟩, hce, hcv, hcl, st⟩
  · cases hv
    obtain ⟨k1, k2, k3⟩ := vx_keep h0 e1 hS hA hf hL hF
    obtain ⟨t2, a1, b1⟩ := kk r u t T'.heap (locs ++ L) e1.symm (by rw [← e2]; exact X'.warmed.alike) hp hb k1 k2 k3 T' rfl X'
    exact ⟨t2, st t2 a1, b1⟩
  · obtain ⟨k1, k2, k3⟩ := vx_keep h0 e1 hS hAX hf hL hF
    obtain ⟨t2, a1, b1⟩ := kx E ce q u t T'.heap (locs ++ L) e1.symm (by rw [← e2]; exact X'.warmed.alike) hp hb k1 k2 k3 (by rw [e1]; exact hce) hcv hcl T' rfl X'
    exact ⟨t2, st.trans a1, b1⟩
theorem vx_callv {S SX : Type} {post : S → Prop} {px : SX → Prop} {B : S → State → Prop} {BX : String → SX → State → Prop} {AX : Nat → Prop} (hr : vx_Run p l e R s m args below meth c H locs cells slots mc ms (F0 m pc ls st0) rest (va_Qv post B A1 a) (vx_X px BX AX) free) (hS : va_S A0 H0 H locs) (hA : ∀ q, q < H.size → A1 q → A0 q) (hf : ∀ q, free q → A0 q) (hAX : ∀ q, q < H.size → AX q → A0 q)
    (kx : ∀ (E : String) (ce : Cell) (q9 : Addr) (u : SX) (t : State) (H1 : Heap) (locs1 : List Loc), t.heap = H1 → s.vm.Alike t.vm → px u → BX E u t → H.size ≤ H1.size → (∀ q : Nat, q < H.size → ¬ AX q → H1[q]? = H[q]?) → va_S A0 H0 H1 locs1 → H1[q9]? = some ce → ce.vm = .none → s.vm.findClass E = some ce.cls → vx_W p l e R s m args below meth c H1 locs1 (cells + mc) (slots + ms) Q (F0 m pc ls rest) q9)
    (kk : ∀ (u : S) (t : State) (H1 : Heap) (locs1 : List Loc), t.heap = H1 → s.vm.Alike t.vm → post u → B u t → H.size ≤ H1.size → (∀ q : Nat, q < H.size → ¬ A1 q → H1[q]? = H[q]?) → va_S A0 H0 H1 locs1 → W p l e R s m args below meth c H1 locs1 (cells + mc) (slots + ms) Q (F0 m (pc + 3) ls (rest))) : W p l e R s m args below meth c H locs cells slots Q (F0 m pc ls st0) := by
  intro T hT X
  rcases hr T hT X with ⟨v, st₀, t, T', L, h0, X', hL, e1, e2, ⟨⟨u, hv, hp, hb⟩, hF⟩, st⟩ | ⟨q, st₀, t, T', L, E, ce, h0, X', hL, e1, e2, ⟨u, hp, hb, hF⟩, hce, hcv, hcl, st⟩
  · cases hv
    obtain ⟨k1, k2, k3⟩ := vx_keep h0 e1 hS hA hf hL hF
    obtain ⟨t2, a1, b1⟩ := kk u t T'.heap (locs ++ L) e1.symm (by rw [← e2]; exact X'.warmed.alike) hp hb k1 k2 k3 T' rfl X'
    exact ⟨t2, st t2 a1, b1⟩
  · obtain ⟨k1, k2, k3⟩ := vx_keep h0 e1 hS hAX hf hL hF
    obtain ⟨t2, a1, b1⟩ := kx E ce q u t T'.heap (locs ++ L) e1.symm (by rw [← e2]; exact X'.warmed.alike) hp hb k1 k2 k3 (by rw [e1]; exact hce) hcv hcl T' rfl X'
    exact ⟨t2, st.trans a1, b1⟩
/-- caught by the row x of this method's table; the rows ahead don't take it -/
theorem vx_catch {own name : String} {E : String} {ce : Cell} {q : Addr} (hown : s.vm.findClass own = some m.cls) (pre : List ExceptionTableEntry) (x : ExceptionTableEntry) (suf : List ExceptionTableEntry) (hsplit : c.exceptionTable.toList = pre ++ x :: suf)
    (hpass : ∀ z ∈ pre, covers z pc = false ∨ (z.catchType ≠ 0 ∧ ∃ nm : String, (Cond.classLink own z.catchType nm).before args s = true ∧ va_Nc E nm s)) (hx : covers x pc = true) (h0 : x.catchType ≠ 0)
    (hlink : (Cond.classLink own x.catchType name).before args s = true) (hcast : (Cond.castable E name).before args s = true) (hcell : H[q]? = some ce) (hv : ce.vm = .none) (hcl : s.vm.findClass E = some ce.cls)
    (kk : W p l e R s m args below meth c H locs cells slots Q (F0 m x.handlerPc ls [.ref q])) : vx_W p l e R s m args below meth c H locs cells slots Q (F0 m pc ls rest) q := by
  intro T hT X
  have hpl : e.platform.magicAccessors = ({} : Platform).magicAccessors := by rw [X.admits.platform]
  obtain ⟨c3, c4, hc3, hc4, hasg⟩ := Cond.castable_spec hcast
  cases Option.some.inj (hc3.symm.trans hcl)
  obtain ⟨c5, hc5, hcl5⟩ := Cond.classLink_spec hown hlink e.platform hpl
  cases Option.some.inj (hc4.symm.trans hc5)
  obtain ⟨vm', X', st⟩ := X.thenCaughtThrough q (g := F0 m pc ls rest) rfl (Steps.refl _) (by rw [hT]; exact hcell) (by rw [hv]; rfl) (by obtain ⟨k9, h9, -⟩ := Vm.findClass_spec hcl; exact ⟨k9, h9⟩) pre x suf hsplit
    (fun z hz => by
      rcases hpass z hz with h | ⟨hz0, nm, hl1, hn1⟩
      · exact Or.inl h
      · obtain ⟨c6, hc6, hcl6⟩ := Cond.classLink_spec hown hl1 e.platform hpl
        obtain ⟨a8, b8, h1, h2, h3⟩ := hn1
        cases Option.some.inj (h1.symm.trans hcl)
        cases Option.some.inj (h2.symm.trans hc6)
        exact Or.inr ⟨hz0, _, hcl6, h3⟩) hx (Or.inr ⟨h0, c4, hcl5, hasg⟩)
  obtain ⟨t, a1, b1⟩ := kk (T.setVm vm') hT X'
  exact ⟨t, st.trans a1, b1⟩
end Rows
section Ends
variable {p : Program} {l : Launch} {e : Env} {R : Room} {s : State} {m : MethodId} {args : Array Value} {below : List Frame} {meth : Method} {c : Code} {H : Heap} {locs : List Loc} {cells slots : Nat} {Q : State → Prop}
variable {mc ms : Nat} {free : Addr → Prop} {A0 A1 : Nat → Prop} {H0 : Heap} {a : Array Value} {ls : Array Slot} {st0 rest : List Value}
variable {Qc : Array Value → State → Outcome → State → Prop} {XC : String → State → State → Prop}
/-- what a body that may throw owes at its end -/
def vx_MQ (below : List Frame) (Qc : Array Value → State → Outcome → State → Prop) (XC : String → State → State → Prop) (a : Array Value) (s : State) (mc ms : Nat) (free : Addr → Prop) : State → Prop := fun t =>
  ∃ o, t.status = .running ∧ Ended t below o ∧ vx_Q Qc XC mc ms free a s o t
theorem vx_ret {g : JFrame} {mc ms : Nat} (k : W p l e R s m args below meth c H locs cells slots (MQ below Qc args s mc ms free) g) : W p l e R s m args below meth c H locs cells slots (vx_MQ below Qc XC args s mc ms free) g := by
  intro T hT X
  obtain ⟨t, a1, o, b1, b2, b3, b4⟩ := k T hT X
  exact ⟨t, a1, o, b1, b2, Or.inl ⟨b3, b4⟩⟩
/-- not caught here: it goes on to the caller -/
theorem vx_widen {g : JFrame} {q : Addr} {k n : Nat} (h1 : cells ≤ k) (h2 : slots ≤ n) (kk : vx_W p l e R s m args below meth c H locs k n Q g q) : vx_W p l e R s m args below meth c H locs cells slots Q g q := fun T hT X => kk T hT (stand_widen X h1 h2)
theorem vx_out {pc : Nat} {E : String} {ce : Cell} {q : Addr} {mc ms : Nat} (hout : ∀ x ∈ c.exceptionTable.toList, covers x pc = false) (hlocks : meth.locks = false) (hcell : H[q]? = some ce) (hv : ce.vm = .none) (hcl : s.vm.findClass E = some ce.cls)
    (hx : ∀ t : State, t.heap = H → s.vm.Alike t.vm → XC E s t) (hf : ∀ z ∈ locs, free z.base) (hc : cells ≤ mc) (hs : slots ≤ ms) :
    vx_W p l e R s m args below meth c H locs cells slots (vx_MQ below Qc XC args s mc ms free) (F0 m pc ls rest) q := by
  intro T hT X
  obtain ⟨st1, hrun, hend, hW, hsm⟩ := X.leaveThrown q (g := F0 m pc ls rest) rfl rfl rfl hout hlocks
  have hcell9 : (T.setFrames (.throwing q :: below)).heap[q]? = some ce := by
    show T.heap[q]? = some ce
    rw [hT]; exact hcell
  exact ⟨_, st1, .threw q, hrun, hend, Or.inr ⟨q, rfl, E, ce, locs, hx _ hT hW.alike, hcell9, hv, hcl, hW, hsm.mono hc hs, hf⟩⟩
theorem vx_frame {U : State} {k n : Nat} (h : s.sameButNew ({ U with vm := s.vm } : State) locs k n) : s.heap.size ≤ U.heap.size ∧ ∀ q : Nat, q < s.heap.size → (∀ z ∈ locs, z.base ≠ q) → U.heap[q]? = s.heap[q]? := by
  obtain ⟨-, h2, -, -, -, h6⟩ := h
  refine ⟨h2, fun q hq hz => ?_⟩
  obtain ⟨c9, e1, e2, e3, e4⟩ := h6 q _ (Array.getElem?_eq_getElem hq)
  have hs : c9.slots = (s.heap[q]).slots := Array.ext_getElem? fun i => e4 i fun hm => hz _ hm rfl
  have h9 : c9 = s.heap[q] := by
    rw [hs] at e2
    exact e2
  have e5 : U.heap[q]? = some c9 := e1
  rw [e5, h9, Array.getElem?_eq_getElem hq]
/-- the words of a throw but the four that speak of the heap -/
def vx_no (w : Cond) : Bool := decide (w ≠ .isRef (.static Bundle.tN "UNASSIGNED_STACK" Bundle.steD)) && decide (w ≠ .isRef (.static Bundle.tN "SUPPRESSED_SENTINEL" Bundle.listD)) && decide (w ≠ .laysStatic Bundle.tN "UNASSIGNED_STACK" Bundle.steD) && decide (w ≠ .laysStatic Bundle.tN "SUPPRESSED_SENTINEL" Bundle.listD)
def vx_at0 (own : String) (ic : Nat) (X : String) (names : List String) : List Cond := (Bundle.ownAtoms0 own ic X names).filter vx_no
def vx_atS (own : String) (ic : Nat) (X : String) (names : List String) : List Cond := (Bundle.ownAtoms own ic X names).filter vx_no
/-- a word that the tables alone decide, or a good one -/
def vx_ot (w : Cond) : Bool := w.onTables || goodWord w
theorem vx_ot_at {args a' : Array Value} {s U : State} {w : Cond} (hW : s.WarmedH U.vm) (hvm : s.vm = U.vm) (hg : vx_ot w = true) (h : w.before args s = true) : w.before a' U = true := by
  simp only [vx_ot, Bool.or_eq_true] at hg
  rcases hg with hg | hg
  · exact va_tabs hg hvm h
  · exact word_at hW (good_of_word hg) h
/-- a list's words: the good ones out of the method's own list, the others by premises of their own -/
theorem vx_hat {args : Array Value} {s : State} {L B : List Cond} (h1 : ∀ w ∈ L.filter goodWord, w.before args s = true) (h2 : ∀ w ∈ L.filter (fun w => !goodWord w), w ∈ B) (h3 : ∀ w ∈ B, w.before args s = true) : ∀ w ∈ L, w.before args s = true := by
  intro w hw
  by_cases g : goodWord w = true
  · exact h1 w (List.mem_filter.mpr ⟨hw, g⟩)
  · refine h3 w (h2 w (List.mem_filter.mpr ⟨hw, ?_⟩))
    show (!goodWord w) = true
    cases hgw : goodWord w
    · rfl
    · exact absurd hgw g
theorem vx_c {args : Array Value} {s : State} {w : Cond} {B : List Cond} (h : w.before args s = true) (t : ∀ w ∈ B, w.before args s = true) : ∀ w' ∈ w :: B, w'.before args s = true := fun w' h' => (List.mem_cons.mp h').elim (fun e => by rw [e]; exact h) (t w')
theorem vx_n {args : Array Value} {s : State} : ∀ w ∈ ([] : List Cond), w.before args s = true := fun _ h => nomatch h
theorem vx_own {args : Array Value} {s : State} {L : List Cond} (h1 : ∀ w ∈ L.filter vx_no, w.before args s = true)
    (hU : (Cond.isRef (.static Bundle.tN "UNASSIGNED_STACK" Bundle.steD)).before args s = true) (hN : (Cond.isRef (.static Bundle.tN "SUPPRESSED_SENTINEL" Bundle.listD)).before args s = true)
    (lU : (Cond.laysStatic Bundle.tN "UNASSIGNED_STACK" Bundle.steD).before args s = true) (lN : (Cond.laysStatic Bundle.tN "SUPPRESSED_SENTINEL" Bundle.listD).before args s = true) : ∀ w ∈ L, w.before args s = true := by
  intro w hw
  by_cases e1 : w = .isRef (.static Bundle.tN "UNASSIGNED_STACK" Bundle.steD)
  · rw [e1]; exact hU
  · by_cases e2 : w = .isRef (.static Bundle.tN "SUPPRESSED_SENTINEL" Bundle.listD)
    · rw [e2]; exact hN
    · by_cases e3 : w = .laysStatic Bundle.tN "UNASSIGNED_STACK" Bundle.steD
      · rw [e3]; exact lU
      · by_cases e4 : w = .laysStatic Bundle.tN "SUPPRESSED_SENTINEL" Bundle.listD
        · rw [e4]; exact lN
        · exact h1 w (List.mem_filter.mpr ⟨hw, by unfold vx_no; rw [decide_eq_true e1, decide_eq_true e2, decide_eq_true e3, decide_eq_true e4]; rfl⟩)
/-- where a static field lies, its class's statics cell in H -/
def vx_L (C n d : String) (A : Nat → Prop) (U : State) (H : Heap) : Prop := ∃ (c : ClassId) (k : Class) (i : Nat) (f : Field) (a : Nat) (cell : Cell), U.vm.findClass C = some c ∧ U.fieldFound? C n d = some (c, k, i, f) ∧ f.isStatic = true ∧ k.statics = some a ∧ H[a]? = some cell ∧ cell.vm.isStatics = true ∧ cell.cls = c ∧ f.slot < cell.slots.size ∧ k.staticTypes[f.slot]? = some f.type ∧ ¬ A a
theorem vx_L.moved {C n d : String} {A : Nat → Prop} {u U : State} {H : Heap} (hvm : u.vm.Alike U.vm) (h : vx_L C n d A u H) : vx_L C n d A U H := by
  obtain ⟨c, k, i, f, a, cell, h1, h2, h3, h4, h5, h6, h7, h8, h9, h10⟩ := h
  obtain ⟨k', hi', he⟩ := State.fieldFound?_setVm hvm h2
  exact ⟨c, k', i, f, a, cell, by rw [hvm.findClass]; exact h1, hi', h3, by rw [he]; exact h4, h5, h6, h7, h8, by rw [he]; exact h9, h10⟩
theorem vx_L.kept {C n d : String} {A : Nat → Prop} {U : State} {H H1 : Heap} (h : vx_L C n d A U H) (hq : ∀ a : Nat, a < H.size → ¬ A a → H1[a]? = H[a]?) : vx_L C n d A U H1 := by
  obtain ⟨c, k, i, f, a, cell, h1, h2, h3, h4, h5, h6, h7, h8, h9, h10⟩ := h
  exact ⟨c, k, i, f, a, cell, h1, h2, h3, h4, by rw [hq a (Array.getElem?_eq_some_iff.mp h5).1 h10]; exact h5, h6, h7, h8, h9, h10⟩
theorem vx_L.narrow {C n d : String} {A B : Nat → Prop} {U : State} {H : Heap} (h : vx_L C n d A U H) (hAB : ∀ q, B q → A q) : vx_L C n d B U H := by
  obtain ⟨c, k, i, f, a, cell, h1, h2, h3, h4, h5, h6, h7, h8, h9, h10⟩ := h
  exact ⟨c, k, i, f, a, cell, h1, h2, h3, h4, h5, h6, h7, h8, h9, fun z => h10 (hAB _ z)⟩
theorem vx_L.word {C n d : String} {A : Nat → Prop} {s : State} {args : Array Value} (h : vx_L C n d A s s.heap) : (Cond.laysStatic C n d).before args s = true := by
  obtain ⟨c, k, i, f, a, cell, h1, h2, h3, h4, h5, h6, h7, h8, h9, -⟩ := h
  show (Cond.laysStatic C n d).holds args s none s [] = true
  exact Cond.laysStatic_of h1 h2 h3 h4 h5 h6 h7 h8 h9
/-- .. and what it holds: null or some reference -/
def vx_Zq (C n d : String) (A : Nat → Prop) (U : State) (H : Heap) : Prop := va_Zq C n d A U H ∧ vx_L C n d A U H
theorem vx_Zq.moved {C n d : String} {A : Nat → Prop} {u U : State} {H : Heap} (hvm : u.vm.Alike U.vm) (h : vx_Zq C n d A u H) : vx_Zq C n d A U H := ⟨va_Zq.moved hvm h.1, vx_L.moved hvm h.2⟩
theorem vx_Zq.kept {C n d : String} {A : Nat → Prop} {U : State} {H H1 : Heap} (h : vx_Zq C n d A U H) (hq : ∀ a : Nat, a < H.size → ¬ A a → H1[a]? = H[a]?) : vx_Zq C n d A U H1 := ⟨va_Zq.kept h.1 hq, vx_L.kept h.2 hq⟩
theorem vx_Zq.narrow {C n d : String} {A B : Nat → Prop} {U : State} {H : Heap} (h : vx_Zq C n d A U H) (hAB : ∀ q, B q → A q) : vx_Zq C n d B U H := ⟨va_Zq.narrow h.1 hAB, vx_L.narrow h.2 hAB⟩
theorem vx_Zqof {args : Array Value} {s : State} {C n d : String} {A : Nat → Prop} (hl : (Cond.laysStatic C n d).before args s = true) (hini : (Cond.initialized C).before args s = true) (h : (Cond.isRef (.static C n d)).before args s = true) (hA : ∀ a : Nat, a < s.heap.size → ¬ A a) : vx_Zq C n d A s s.heap := by
  refine ⟨va_Zqof hl hini h hA, ?_⟩
  obtain ⟨c, k, i, f, a, cell, h1, h2, h3, h4, h5, h6, h7, h8, h9⟩ := Cond.laysStatic_spec hl
  exact ⟨c, k, i, f, a, cell, h1, h2, h3, h4, h5, h6, h7, h8, h9, hA a (Array.getElem?_eq_some_iff.mp h5).1⟩
theorem vx_isRef {C n d : String} {v : Value} {A : Nat → Prop} {s : State} {args : Array Value} (h : va_Z C n d v A s s.heap) (hv : v.isRef = true) : (Cond.isRef (.static C n d)).before args s = true := by
  obtain ⟨cf, kf, fi, f, a, cell, h1, h2, h3, h4, h5, h6, h7, -⟩ := h
  have he : (Term.static C n d).eval args s none [] s = some v := by
    simp [Term.eval, State.fieldNamed?, h1, h2, h4, h5, h6, h7]
  simp only [Cond.before, Cond.holds, Cond.value, he]
  cases v <;> simp_all [Value.isRef]
theorem vx_isRefq {C n d : String} {A : Nat → Prop} {s : State} {args : Array Value} (h : va_Zq C n d A s s.heap) : (Cond.isRef (.static C n d)).before args s = true := by
  rcases h with h | ⟨t, h⟩
  · exact vx_isRef h rfl
  · exact vx_isRef h rfl
/-- the same frame, seen from here: as if the method were called anew in this heap -/
theorem vx_rebase {T : State} (X : Stand p l e R s m args below meth c T locs cells slots) {R' : Room} (hf : R'.frames ≤ R.frames) (hl : R'.locals ≤ R.locals) (hc : cells + R'.cells ≤ R.cells) (hs : slots + R'.slots ≤ R.slots) :
    Stand p l e R' ((T.setVm s.vm).setFrames (.invoking m args :: below)) m args below meth c T [] 0 0 := by
  have htop : (T.setVm s.vm).topJava?.isSome := X.here.top
  have hF : ((T.setVm s.vm).setFrames (.invoking m args :: below)).frames = .invoking m args :: below := State.frames_setFrames _ (State.cur_lt_of_top htop)
  obtain ⟨g₀, hg0⟩ := Option.isSome_iff_exists.mp htop
  obtain ⟨r, hr⟩ := State.topJava?_eq_some.mp hg0
  have hl9 : e.platform.stackLimits (T.setVm s.vm).me = e.platform.stackLimits s.me := X.limits
  have hb9 : (T.setVm s.vm).me.stackBytes = s.me.stackBytes := X.bytes
  refine ⟨X.admits, X.cas, X.clock, hF, ?_, X.hears, X.method, X.code, X.here, X.tail, X.warmed, ?_, ?_, ?_⟩
  · have h := X.room
    have hU : ((T.setVm s.vm).setFrames (.invoking m args :: below)).localsInUse = s.localsInUse := by
      rw [State.localsInUse_invoking hF (meth := meth) (c := c) X.method X.code, State.localsInUse_invoking X.frames X.method X.code]
    simp only [State.hasRoom, Bool.and_eq_true, decide_eq_true_eq] at h ⊢
    obtain ⟨⟨⟨⟨h1, h2, h3, h4, h5, h6⟩, h7⟩, h8⟩, h9⟩ := h
    rw [X.frames, List.length_cons] at h2 h3
    have q1 := X.heapSize
    have q2 := X.used
    simp only [hF, hU, List.length_cons, State.stackLimits_setFrames, State.stackBytes_setFrames, hl9, hb9]
    refine ⟨⟨⟨⟨by omega, by omega, by omega, by omega, by omega, h6⟩, ?_⟩, ?_⟩, X.book⟩
    · show T.heap.size + R'.cells ≤ e.platform.maxCells
      omega
    · show T.slotsUsed + R'.slots ≤ e.platform.maxSlots
      omega
  · rw [State.stackLimits_setFrames]; rfl
  · rw [State.stackBytes_setFrames]; rfl
  · refine ⟨?_, Nat.le_refl _, Nat.le_refl _, ?_, ?_, fun a c9 h9 => ⟨c9, h9, rfl, rfl, fun _ _ => rfl⟩⟩
    · obtain ⟨t, ht, -⟩ := State.frames_cons hr
      show T.setVm s.vm = { ((T.setVm s.vm).setFrames (.invoking m args :: below)).setFrames (T.setVm s.vm).frames with heap := T.heap, slotsUsed := T.slotsUsed }
      rw [State.setFrames_setFrames, State.setFrames_self ht]
      rfl
    · show T.slotsUsed = T.slotsUsed + ((T.heap.toList.drop T.heap.size).map (·.slots.size)).sum
      rw [List.drop_eq_nil_of_le (Nat.le_of_eq Array.length_toList)]
      rfl
    · show ((T.heap.toList.drop T.heap.size).map (·.slots.size)).sum ≤ 0
      rw [List.drop_eq_nil_of_le (Nat.le_of_eq Array.length_toList)]
      exact Nat.le_refl _
/-- 'throw new E()': new; dup; invokespecial; athrow -/
theorem vx_throw0 {cc : ByteArray} {pc : Nat} (hexec : p.tables.exec = Jvm.exec) (hb : c.code = cc) (hl : l.stackTraces = false) {own cls : String} {names : List String} {ik ic mc ms : Nat} {A : Nat → Prop}
    (hown : s.vm.findClass own = some m.cls) (hcls : Bundle.fit cls = true) (hnames : ∀ n ∈ names, Bundle.fit n = true)
    (hk : (Cond.classLink own ik cls).before args s = true) (hini : (Cond.initialized cls).before args s = true) (hat : ∀ w ∈ vx_at0 own ic cls names, w.before args s = true)
    (hgood : ∀ w ∈ Cond.classLink own ik cls :: Cond.initialized cls :: vx_at0 own ic cls names, vx_ot w = true)
    (hU : vx_Zq Bundle.tN "UNASSIGNED_STACK" Bundle.steD A s s.heap) (hN : vx_Zq Bundle.tN "SUPPRESSED_SENTINEL" Bundle.listD A s s.heap) (hS : va_S A s.heap H locs) (hsize : ls.size = c.maxLocals)
    (d0 : decode cc pc = .ok (.new ik, 3)) (d3 : decode cc (pc + 3) = .ok (.dup, 1)) (d4 : decode cc (pc + 4) = .ok (.invokespecial ic, 3)) (d7 : decode cc (pc + 7) = .ok (.athrow, 1))
    (hout : ∀ x ∈ c.exceptionTable.toList, covers x (pc + 7) = false)
    (hRframes : names.length + 3 < R.frames) (hRlocals : (rest.map fun v => v.category).sum + (13 * (names.length + 1) + 42) ≤ R.locals) (hRcells : cells + 1 ≤ R.cells) (hRslots : slots + 6 ≤ R.slots) (hlocks : meth.locks = false)
    (hx : ∀ t : State, s.vm.Alike t.vm → H.size ≤ t.heap.size → (∀ q : Nat, q < H.size → t.heap[q]? = H[q]?) → XC cls s t)
    (hf : ∀ z ∈ locs, free z.base) (hc : cells + 1 ≤ mc) (hs : slots + 6 ≤ ms) :
    W p l e R s m args below meth c H locs cells slots (vx_MQ below Qc XC args s mc ms free) (F0 m pc ls rest) := by
  intro T hT X
  have htr : e.platform.stackTraces = false := (show e.platform.stackTraces = l.stackTraces by rw [X.admits.platform]).trans hl
  have Y := vx_rebase X (R' := { frames := R.frames, locals := R.locals, cells := 1, slots := 6 }) (Nat.le_refl _) (Nat.le_refl _) hRcells hRslots
  obtain ⟨s', hA⟩ : ∃ z, z = (T.setVm s.vm).setFrames (.invoking m args :: below) := ⟨_, rfl⟩
  rw [← hA] at Y
  have hvm : s'.vm = s.vm := by rw [hA]; rfl
  have hhp : s'.heap = H := by rw [hA]; exact hT
  have hW0 : s.WarmedH s'.vm := by rw [hvm]; exact State.WarmedH.refl s
  have hat' : ∀ w ∈ vx_at0 own ic cls names, w.before args s' = true := fun w hw => vx_ot_at hW0 hvm.symm (hgood w (List.mem_cons_of_mem _ (List.mem_cons_of_mem _ hw))) (hat w hw)
  have hk' : (Cond.classLink own ik cls).before args s' = true := vx_ot_at hW0 hvm.symm (hgood _ List.mem_cons_self) hk
  have hini' : (Cond.initialized cls).before args s' = true := vx_ot_at hW0 hvm.symm (hgood _ (List.mem_cons_of_mem _ List.mem_cons_self)) hini
  have hU' : vx_Zq Bundle.tN "UNASSIGNED_STACK" Bundle.steD A s' s'.heap := by rw [hhp]; exact vx_Zq.moved hW0.alike (hU.kept hS.2.1)
  have hN' : vx_Zq Bundle.tN "SUPPRESSED_SENTINEL" Bundle.listD A s' s'.heap := by rw [hhp]; exact vx_Zq.moved hW0.alike (hN.kept hS.2.1)
  have h : ∀ w ∈ Bundle.ownAtoms0 own ic cls names, w.before args s' = true := vx_own hat' (vx_isRefq hU'.1) (vx_isRefq hN'.1) hU'.2.word hN'.2.word
  have hown' : s'.vm.findClass own = some m.cls := by rw [hvm]; exact hown
  have hins : (Cond.instantiable cls 6).before args s' = true := h _ (by simp [Bundle.ownAtoms0])
  obtain ⟨vm₁, cX, kX, hfX, hkX, -, -, X₁, st1⟩ := Y.newCold hexec (own := own) (C := cls) (index := ik) (n := 6) hown' hk' hins hini'
    (g := F0 m pc ls rest) rfl (by rw [hb]; exact d0) (Nat.le_refl _) (Nat.le_refl _)
  generalize hT1 : (T.setVm vm₁).pushCell { cls := cX, slots := kX.instanceTypes.map defaultValue, vm := .none } = T1 at X₁ st1
  have hcat : (Value.ref T.heap.size).category = 1 := rfl
  have hcellA : T1.heap[T.heap.size]? = some (freshCell cX kX) := by rw [← hT1]; exact State.heap_pushCell_size _ _
  have d3' : decode c.code (pc + 3) = .ok (.dup, 1) := by rw [hb]; exact d3
  obtain ⟨U, hsteps, hrun, hend, hW, hsame, ce, hce, hO⟩ := X₁.ctorThrow0 hexec htr (own := own) (cls := cls) (names := names) (ic := ic) hown' hcls hnames h (fun x hx => nomatch hx) hfX hkX hcellA (by rw [hhp, hT]; exact Nat.le_refl _)
    (g := { method := m, pc := pc + 4, locals := ls, stack := .ref T.heap.size :: .ref T.heap.size :: rest, locked := none }) rfl hsize rfl rfl (rest := rest) rfl
    (by rw [hb]; exact d4) (by rw [hb]; exact d7) hout hRframes (by simp only [List.map_cons, List.sum_cons, hcat]; omega) hlocks
  obtain ⟨f1, f2⟩ := vx_frame hsame
  rw [hhp] at f1 f2
  have hWs : s.WarmedH U.vm := State.WarmedH.trans hW0 hW
  have hcl : s.vm.findClass cls = some ce.cls := by
    have h9 := hO.cls
    rw [hvm] at h9
    exact h9
  have hall : s.sameButNew ({ U with vm := s.vm } : State) locs mc ms := by
    subst hA
    obtain ⟨e1, e2⟩ := hsame
    rw [State.setFrames_setFrames] at e1
    have h2 : (T.setVm s.vm).sameButNew ({ U with vm := s.vm } : State) [] (0 + 1) (0 + 6) := ⟨e1, e2⟩
    have h3 := X.same.trans h2
    rw [List.append_nil] at h3
    exact h3.mono hc hs
  refine ⟨U, ?_, .threw T.heap.size, hrun, hend, Or.inr ⟨T.heap.size, rfl, cls, ce, locs, hx U hWs.alike f1 (fun q hq => f2 q hq (fun z hz => nomatch hz)), hce, hO.vm, hcl, hWs, hall, hf⟩⟩
  refine st1 _ ?_
  show Steps p.tables e below (T1.setTop { method := m, pc := pc + 3, locals := ls, stack := .ref T.heap.size :: rest, locked := none }) _
  jvm_step X₁.here [X₁.here.top, hexec, d3', Value.category]
  exact hsteps
/-- 'throw new E("text")': new; dup; ldc; invokespecial; athrow -/
theorem vx_throwS {cc : ByteArray} {pc : Nat} (hexec : p.tables.exec = Jvm.exec) (hb : c.code = cc) (hl : l.stackTraces = false) {own cls text : String} {names : List String} {ik is ic mc ms sa : Nat} {A : Nat → Prop}
    (hown : s.vm.findClass own = some m.cls) (hcls : Bundle.fit cls = true) (hnames : ∀ n ∈ names, Bundle.fit n = true)
    (hk : (Cond.classLink own ik cls).before args s = true) (hini : (Cond.initialized cls).before args s = true) (hstr : vk_R own is text sa s) (hat : ∀ w ∈ vx_atS own ic cls names, w.before args s = true)
    (hgood : ∀ w ∈ Cond.classLink own ik cls :: Cond.initialized cls :: vx_atS own ic cls names, vx_ot w = true)
    (hU : vx_Zq Bundle.tN "UNASSIGNED_STACK" Bundle.steD A s s.heap) (hN : vx_Zq Bundle.tN "SUPPRESSED_SENTINEL" Bundle.listD A s s.heap) (hS : va_S A s.heap H locs) (hsize : ls.size = c.maxLocals)
    (d0 : decode cc pc = .ok (.new ik, 3)) (d3 : decode cc (pc + 3) = .ok (.dup, 1)) (d4 : decode cc (pc + 4) = .ok (.ldc is, 2)) (d6 : decode cc (pc + 6) = .ok (.invokespecial ic, 3)) (d9 : decode cc (pc + 9) = .ok (.athrow, 1))
    (hout : ∀ x ∈ c.exceptionTable.toList, covers x (pc + 9) = false)
    (hRframes : names.length + 3 < R.frames) (hRlocals : (rest.map fun v => v.category).sum + (13 * (names.length + 1) + 43) ≤ R.locals) (hRcells : cells + 1 ≤ R.cells) (hRslots : slots + 6 ≤ R.slots) (hlocks : meth.locks = false)
    (hx : ∀ t : State, s.vm.Alike t.vm → H.size ≤ t.heap.size → (∀ q : Nat, q < H.size → t.heap[q]? = H[q]?) → XC cls s t)
    (hf : ∀ z ∈ locs, free z.base) (hc : cells + 1 ≤ mc) (hs : slots + 6 ≤ ms) :
    W p l e R s m args below meth c H locs cells slots (vx_MQ below Qc XC args s mc ms free) (F0 m pc ls rest) := by
  intro T hT X
  have htr : e.platform.stackTraces = false := (show e.platform.stackTraces = l.stackTraces by rw [X.admits.platform]).trans hl
  have Y := vx_rebase X (R' := { frames := R.frames, locals := R.locals, cells := 1, slots := 6 }) (Nat.le_refl _) (Nat.le_refl _) hRcells hRslots
  obtain ⟨s', hA⟩ : ∃ z, z = (T.setVm s.vm).setFrames (.invoking m args :: below) := ⟨_, rfl⟩
  rw [← hA] at Y
  have hvm : s'.vm = s.vm := by rw [hA]; rfl
  have hhp : s'.heap = H := by rw [hA]; exact hT
  have hW0 : s.WarmedH s'.vm := by rw [hvm]; exact State.WarmedH.refl s
  have hat' : ∀ w ∈ vx_atS own ic cls names, w.before args s' = true := fun w hw => vx_ot_at hW0 hvm.symm (hgood w (List.mem_cons_of_mem _ (List.mem_cons_of_mem _ hw))) (hat w hw)
  have hk' : (Cond.classLink own ik cls).before args s' = true := vx_ot_at hW0 hvm.symm (hgood _ List.mem_cons_self) hk
  have hini' : (Cond.initialized cls).before args s' = true := vx_ot_at hW0 hvm.symm (hgood _ (List.mem_cons_of_mem _ List.mem_cons_self)) hini
  have hU' : vx_Zq Bundle.tN "UNASSIGNED_STACK" Bundle.steD A s' s'.heap := by rw [hhp]; exact vx_Zq.moved hW0.alike (hU.kept hS.2.1)
  have hN' : vx_Zq Bundle.tN "SUPPRESSED_SENTINEL" Bundle.listD A s' s'.heap := by rw [hhp]; exact vx_Zq.moved hW0.alike (hN.kept hS.2.1)
  have h : ∀ w ∈ Bundle.ownAtoms own ic cls names, w.before args s' = true := vx_own hat' (vx_isRefq hU'.1) (vx_isRefq hN'.1) hU'.2.word hN'.2.word
  have hown' : s'.vm.findClass own = some m.cls := by rw [hvm]; exact hown
  have hins : (Cond.instantiable cls 6).before args s' = true := h _ (by simp [Bundle.ownAtoms])
  obtain ⟨vm₁, cX, kX, hfX, hkX, -, -, X₁, st1⟩ := Y.newCold hexec (own := own) (C := cls) (index := ik) (n := 6) hown' hk' hins hini'
    (g := F0 m pc ls rest) rfl (by rw [hb]; exact d0) (Nat.le_refl _) (Nat.le_refl _)
  generalize hT1 : (T.setVm vm₁).pushCell { cls := cX, slots := kX.instanceTypes.map defaultValue, vm := .none } = T1 at X₁ st1
  have hcat : (Value.ref T.heap.size).category = 1 := rfl
  have hcellA : T1.heap[T.heap.size]? = some (freshCell cX kX) := by rw [← hT1]; exact State.heap_pushCell_size _ _
  have d3' : decode c.code (pc + 3) = .ok (.dup, 1) := by rw [hb]; exact d3
  have d4' : decode c.code (pc + 4) = .ok (.ldc is, 2) := by rw [hb]; exact d4
  have hstr' : vk_R own is text sa s' := vk_R.warm hW0 hstr
  obtain ⟨U, hsteps, hrun, hend, hW, hsame, ce, hce, hO⟩ := X₁.ctorThrowS hexec htr (own := own) (cls := cls) (names := names) (ic := ic) hown' hcls hnames h (fun x hx => nomatch hx) hfX hkX hcellA (by rw [hhp, hT]; exact Nat.le_refl _) (msg := .ref sa) rfl
    (g := { method := m, pc := pc + 6, locals := ls, stack := .ref sa :: .ref T.heap.size :: .ref T.heap.size :: rest, locked := none }) rfl hsize rfl rfl (rest := rest) rfl
    (by rw [hb]; exact d6) (by rw [hb]; exact d9) hout hRframes (by simp only [List.map_cons, List.sum_cons, hcat]; omega) hlocks
  obtain ⟨f1, f2⟩ := vx_frame hsame
  rw [hhp] at f1 f2
  have hWs : s.WarmedH U.vm := State.WarmedH.trans hW0 hW
  have hcl : s.vm.findClass cls = some ce.cls := by
    have h9 := hO.cls
    rw [hvm] at h9
    exact h9
  have hall : s.sameButNew ({ U with vm := s.vm } : State) locs mc ms := by
    subst hA
    obtain ⟨e1, e2⟩ := hsame
    rw [State.setFrames_setFrames] at e1
    have h2 : (T.setVm s.vm).sameButNew ({ U with vm := s.vm } : State) [] (0 + 1) (0 + 6) := ⟨e1, e2⟩
    have h3 := X.same.trans h2
    rw [List.append_nil] at h3
    exact h3.mono hc hs
  refine ⟨U, ?_, .threw T.heap.size, hrun, hend, Or.inr ⟨T.heap.size, rfl, cls, ce, locs, hx U hWs.alike f1 (fun q hq => f2 q hq (fun z hz => nomatch hz)), hce, hO.vm, hcl, hWs, hall, hf⟩⟩
  refine st1 _ ?_
  show Steps p.tables e below (T1.setTop { method := m, pc := pc + 3, locals := ls, stack := .ref T.heap.size :: rest, locked := none }) _
  jvm_step X₁.here [X₁.here.top, hexec, d3', Value.category]
  exact X₁.ldcString hexec (own := own) (text := text) (index := is) (a := sa) hown' hstr'.1 hstr'.2
    (g := { method := m, pc := pc + 4, locals := ls, stack := .ref T.heap.size :: .ref T.heap.size :: rest, locked := none }) rfl d4' _ hsteps
/-- 'throw new E("text")', the text by a wide index -/
theorem vx_throwSW {cc : ByteArray} {pc : Nat} (hexec : p.tables.exec = Jvm.exec) (hb : c.code = cc) (hl : l.stackTraces = false) {own cls text : String} {names : List String} {ik is ic mc ms sa : Nat} {A : Nat → Prop}
    (hown : s.vm.findClass own = some m.cls) (hcls : Bundle.fit cls = true) (hnames : ∀ n ∈ names, Bundle.fit n = true)
    (hk : (Cond.classLink own ik cls).before args s = true) (hini : (Cond.initialized cls).before args s = true) (hstr : vk_R own is text sa s) (hat : ∀ w ∈ vx_atS own ic cls names, w.before args s = true)
    (hgood : ∀ w ∈ Cond.classLink own ik cls :: Cond.initialized cls :: vx_atS own ic cls names, vx_ot w = true)
    (hU : vx_Zq Bundle.tN "UNASSIGNED_STACK" Bundle.steD A s s.heap) (hN : vx_Zq Bundle.tN "SUPPRESSED_SENTINEL" Bundle.listD A s s.heap) (hS : va_S A s.heap H locs) (hsize : ls.size = c.maxLocals)
    (d0 : decode cc pc = .ok (.new ik, 3)) (d3 : decode cc (pc + 3) = .ok (.dup, 1)) (d4 : decode cc (pc + 4) = .ok (.ldc_w is, 3)) (d7 : decode cc (pc + 7) = .ok (.invokespecial ic, 3)) (d10 : decode cc (pc + 10) = .ok (.athrow, 1))
    (hout : ∀ x ∈ c.exceptionTable.toList, covers x (pc + 10) = false)
    (hRframes : names.length + 3 < R.frames) (hRlocals : (rest.map fun v => v.category).sum + (13 * (names.length + 1) + 43) ≤ R.locals) (hRcells : cells + 1 ≤ R.cells) (hRslots : slots + 6 ≤ R.slots) (hlocks : meth.locks = false)
    (hx : ∀ t : State, s.vm.Alike t.vm → H.size ≤ t.heap.size → (∀ q : Nat, q < H.size → t.heap[q]? = H[q]?) → XC cls s t)
    (hf : ∀ z ∈ locs, free z.base) (hc : cells + 1 ≤ mc) (hs : slots + 6 ≤ ms) :
    W p l e R s m args below meth c H locs cells slots (vx_MQ below Qc XC args s mc ms free) (F0 m pc ls rest) := by
  intro T hT X
  have htr : e.platform.stackTraces = false := (show e.platform.stackTraces = l.stackTraces by rw [X.admits.platform]).trans hl
  have Y := vx_rebase X (R' := { frames := R.frames, locals := R.locals, cells := 1, slots := 6 }) (Nat.le_refl _) (Nat.le_refl _) hRcells hRslots
  obtain ⟨s', hA⟩ : ∃ z, z = (T.setVm s.vm).setFrames (.invoking m args :: below) := ⟨_, rfl⟩
  rw [← hA] at Y
  have hvm : s'.vm = s.vm := by rw [hA]; rfl
  have hhp : s'.heap = H := by rw [hA]; exact hT
  have hW0 : s.WarmedH s'.vm := by rw [hvm]; exact State.WarmedH.refl s
  have hat' : ∀ w ∈ vx_atS own ic cls names, w.before args s' = true := fun w hw => vx_ot_at hW0 hvm.symm (hgood w (List.mem_cons_of_mem _ (List.mem_cons_of_mem _ hw))) (hat w hw)
  have hk' : (Cond.classLink own ik cls).before args s' = true := vx_ot_at hW0 hvm.symm (hgood _ List.mem_cons_self) hk
  have hini' : (Cond.initialized cls).before args s' = true := vx_ot_at hW0 hvm.symm (hgood _ (List.mem_cons_of_mem _ List.mem_cons_self)) hini
  have hU' : vx_Zq Bundle.tN "UNASSIGNED_STACK" Bundle.steD A s' s'.heap := by rw [hhp]; exact vx_Zq.moved hW0.alike (hU.kept hS.2.1)
  have hN' : vx_Zq Bundle.tN "SUPPRESSED_SENTINEL" Bundle.listD A s' s'.heap := by rw [hhp]; exact vx_Zq.moved hW0.alike (hN.kept hS.2.1)
  have h : ∀ w ∈ Bundle.ownAtoms own ic cls names, w.before args s' = true := vx_own hat' (vx_isRefq hU'.1) (vx_isRefq hN'.1) hU'.2.word hN'.2.word
  have hown' : s'.vm.findClass own = some m.cls := by rw [hvm]; exact hown
  have hins : (Cond.instantiable cls 6).before args s' = true := h _ (by simp [Bundle.ownAtoms])
  obtain ⟨vm₁, cX, kX, hfX, hkX, -, -, X₁, st1⟩ := Y.newCold hexec (own := own) (C := cls) (index := ik) (n := 6) hown' hk' hins hini'
    (g := F0 m pc ls rest) rfl (by rw [hb]; exact d0) (Nat.le_refl _) (Nat.le_refl _)
  generalize hT1 : (T.setVm vm₁).pushCell { cls := cX, slots := kX.instanceTypes.map defaultValue, vm := .none } = T1 at X₁ st1
  have hcat : (Value.ref T.heap.size).category = 1 := rfl
  have hcellA : T1.heap[T.heap.size]? = some (freshCell cX kX) := by rw [← hT1]; exact State.heap_pushCell_size _ _
  have d3' : decode c.code (pc + 3) = .ok (.dup, 1) := by rw [hb]; exact d3
  have d4' : decode c.code (pc + 4) = .ok (.ldc_w is, 3) := by rw [hb]; exact d4
  have hstr' : vk_R own is text sa s' := vk_R.warm hW0 hstr
  obtain ⟨U, hsteps, hrun, hend, hW, hsame, ce, hce, hO⟩ := X₁.ctorThrowS hexec htr (own := own) (cls := cls) (names := names) (ic := ic) hown' hcls hnames h (fun x hx => nomatch hx) hfX hkX hcellA (by rw [hhp, hT]; exact Nat.le_refl _) (msg := .ref sa) rfl
    (g := { method := m, pc := pc + 7, locals := ls, stack := .ref sa :: .ref T.heap.size :: .ref T.heap.size :: rest, locked := none }) rfl hsize rfl rfl (rest := rest) rfl
    (by rw [hb]; exact d7) (by rw [hb]; exact d10) hout hRframes (by simp only [List.map_cons, List.sum_cons, hcat]; omega) hlocks
  obtain ⟨f1, f2⟩ := vx_frame hsame
  rw [hhp] at f1 f2
  have hWs : s.WarmedH U.vm := State.WarmedH.trans hW0 hW
  have hcl : s.vm.findClass cls = some ce.cls := by
    have h9 := hO.cls
    rw [hvm] at h9
    exact h9
  have hall : s.sameButNew ({ U with vm := s.vm } : State) locs mc ms := by
    subst hA
    obtain ⟨e1, e2⟩ := hsame
    rw [State.setFrames_setFrames] at e1
    have h2 : (T.setVm s.vm).sameButNew ({ U with vm := s.vm } : State) [] (0 + 1) (0 + 6) := ⟨e1, e2⟩
    have h3 := X.same.trans h2
    rw [List.append_nil] at h3
    exact h3.mono hc hs
  refine ⟨U, ?_, .threw T.heap.size, hrun, hend, Or.inr ⟨T.heap.size, rfl, cls, ce, locs, hx U hWs.alike f1 (fun q hq => f2 q hq (fun z hz => nomatch hz)), hce, hO.vm, hcl, hWs, hall, hf⟩⟩
  refine st1 _ ?_
  show Steps p.tables e below (T1.setTop { method := m, pc := pc + 3, locals := ls, stack := .ref T.heap.size :: rest, locked := none }) _
  jvm_step X₁.here [X₁.here.top, hexec, d3', Value.category]
  exact X₁.ldcStringW hexec (own := own) (text := text) (index := is) (a := sa) hown' hstr'.1 hstr'.2
    (g := { method := m, pc := pc + 4, locals := ls, stack := .ref T.heap.size :: .ref T.heap.size :: rest, locked := none }) rfl d4' _ hsteps
end Ends
section Bodies
variable {l : Launch}
theorem vx_ofW {y : MethodName} {ws ws' : List Cond} {rm : Room} {Pc : Array Value → State → Prop} {Qc : Array Value → State → Outcome → State → Prop} {XC : String → State → State → Prop} {mc ms : Nat} {free : Addr → Prop} {cc : ByteArray} {maxL : Nat} {ret : Option FieldType}
    (hy : plainName y.cls = true) (hw : ws = Cond.code y cc maxL ret :: ws')
    (body : ∀ p e s m args below meth c s₁, BodyLoose p l y (headSpec ws rm) cc maxL ret e s m args below meth c s₁ → c.maxLocals = maxL → (∀ x ∈ c.exceptionTable.toList, False) → Pc args s →
      W p l e (headSpec ws rm).room s m args below meth c s.heap [] 0 0 (vx_MQ below Qc XC args s mc ms free) (entryFrame m args maxL)) : vx_Met l y ws rm Pc Qc XC mc ms free := by
  refine MetFree.of_bodyS (code := cc) (maxLocals := maxL) (ret := ret) hy ?_ ?_
  · intro args s m h hn
    obtain ⟨meth, c, h1, h2, h3, h4, h5, h6, -, -⟩ := Cond.code_spec hn (atoms_spec (ws := ws) h _ (by rw [hw]; exact List.mem_cons_self))
    exact ⟨meth, c, h1, h2, h3, h4, h5, h6⟩
  · intro p e s m args below meth c s₁ B hml hP _
    have hh0 : s₁.heap = s.heap := by rw [B.state]; rfl
    have ht : ∀ x ∈ c.exceptionTable.toList, False := by
      obtain ⟨meth9, c9, h1, h2, -, -, -, -, h7, -⟩ := Cond.code_spec B.named (atoms_spec (ws := ws) B.pre _ (by rw [hw]; exact List.mem_cons_self))
      cases Option.some.inj (h1.symm.trans B.method)
      cases Option.some.inj (h2.symm.trans (Stand.of_body B).code)
      intro x hx
      rw [Array.isEmpty_iff.mp h7] at hx
      cases hx
    obtain ⟨t, a1, o, b1, b2, b3⟩ := body p e s m args below meth c s₁ B hml ht hP s₁ hh0 (Stand.of_body B)
    exact ⟨t, o, a1, b1, b2, b3⟩
/-- the table of a body with handlers -/
theorem vx_table {p : Program} {x y : MethodName} {S : Spec} {cc bytes : ByteArray} {maxL maxL' : Nat} {ret ret' : Option FieldType} {e : Env} {s s₁ : State} {m : MethodId} {args : Array Value} {below : List Frame} {meth : Method} {c : Code} {hh : List (Nat × Nat × Nat × Nat)}
    (B : BodyLoose p l y S cc maxL ret e s m args below meth c s₁) (h : (Cond.codeWith y bytes maxL' ret' hh).before args s = true) : c.exceptionTable.toList = tableOf hh := by
  obtain ⟨m9, meth9, c9, hn9, h1, h2, -, -, h6, -⟩ := Cond.codeWith_spec h
  cases Option.some.inj (hn9.symm.trans B.named)
  cases Option.some.inj (h1.symm.trans B.method)
  cases Option.some.inj (h2.symm.trans (Stand.of_body B).code)
  rw [← h6, table_eq]
end Bodies
end VXA
/-! ===== END ===== -/
/-! ===== BEGIN a static call of a method with an exception table ===== -/
section VXS
variable {p : Program} {l : Launch} {e : Env} {R : Room} {s : State} {m : MethodId} {args : Array Value} {below : List Frame} {meth : Method} {c : Code} {T : State} {H : Heap} {locs : List Loc} {cells slots : Nat}
abbrev vx_CSW (R : Room) (s : State) (args : Array Value) (own : String) (index : Nat) (y : MethodName) (bytes : ByteArray) (maxL : Nat) (ret : Option FieldType) (hh : List (Nat × Nat × Nat × Nat)) (ws : List Cond) (rm : Room) (mc ms n : Nat) : Prop :=
  (rm.cells = mc ∧ rm.slots = ms ∧ rm.frames + 1 ≤ R.frames ∧ 8 + (maxL + 11) + rm.locals ≤ R.locals ∧ (∀ w ∈ ws, ∀ (a' : Array Value) (U : State), s.WarmedH U.vm → w.before a' U = true) ∧ Cond.codeWith y bytes maxL ret hh ∈ ws) ∧
  (Cond.codeWith y bytes maxL ret hh).before args s = true ∧ (Cond.initialized y.cls).before args s = true ∧ (y.cls ≠ "java/lang/invoke/MethodHandle" ∧ y.cls ≠ "java/lang/invoke/VarHandle") ∧
  (∀ sig, parseMethodDescriptor y.desc = some sig → n = sig.parameters.length) ∧ (Cond.methodLink own index y).before args s = true ∧ (Cond.static y).before args s = true
theorem vx_cwSW {own : String} {index maxL mc ms : Nat} {y : MethodName} {bytes : ByteArray} {ret : Option FieldType} {hh : List (Nat × Nat × Nat × Nat)} {Ts ws ws' : List Cond} {rm : Room} (n : Nat) (ht : ∀ w ∈ Ts, w.before args s = true) (hT : GoodIn Ts (va_wsS own index y ws)) (hw : ws = Cond.codeWith y bytes maxL ret hh :: ws') (hrc : rm.cells = mc) (hrs : rm.slots = ms)
    (hd : y.cls ≠ "java/lang/invoke/MethodHandle" ∧ y.cls ≠ "java/lang/invoke/VarHandle" ∧ (parseMethodDescriptor y.desc).map (fun d => d.parameters.length) = some n) (hR : rm.frames + 1 ≤ R.frames ∧ 8 + (maxL + 11) + rm.locals ≤ R.locals) :
    vx_CSW R s args own index y bytes maxL ret hh ws rm mc ms n := by
  have ok : ∀ w ∈ va_wsS own index y ws, w.before args s = true := fun w h => ht w (hT w h).1
  have hG : GoodIn Ts ws := fun w h => hT w (by unfold va_wsS; exact List.mem_append_right _ h)
  have hc : Cond.codeWith y bytes maxL ret hh ∈ ws := by rw [hw]; exact List.mem_cons_self
  refine ⟨⟨hrc, hrs, hR.1, hR.2, pay_in ht hG, hc⟩, ht _ (hG _ hc).1, ok _ (by simp [va_wsS]), ⟨hd.1, hd.2.1⟩, fun sig h => ?_, ok _ (by simp [va_wsS]), ok _ (by simp [va_wsS])⟩
  have h2 := hd.2.2
  rw [h] at h2
  exact (Option.some.inj h2).symm
theorem vx_callSW (X : Stand p l e R s m args below meth c T locs cells slots) (hexec : p.tables.exec = Jvm.exec) {own : String} {index : Nat} {y : MethodName} {bytes : ByteArray} {maxL : Nat} {ret : Option FieldType} {hh : List (Nat × Nat × Nat × Nat)}
    (hown : s.vm.findClass own = some m.cls) (hlink : (Cond.methodLink own index y).before args s = true) (hstat : (Cond.static y).before args s = true) (hinit : (Cond.initialized y.cls).before args s = true)
    (hcode : (Cond.codeWith y bytes maxL ret hh).before args s = true) (hy : y.cls ≠ "java/lang/invoke/MethodHandle" ∧ y.cls ≠ "java/lang/invoke/VarHandle")
    {W9 : Nat} {Pre : Pt → Array Value → Prop} {Post : Pt → Array Value → Option Value → Pt → Prop} (hK : Back l R p e below s args y 3 W9 Pre Post)
    {g : JFrame} (hg : g.method = m) (hsize : g.locals.size = c.maxLocals) {argsL rest : List Value} (hlen : ∀ sig, parseMethodDescriptor y.desc = some sig → argsL.length = sig.parameters.length)
    (hstack : g.stack = argsL.reverse ++ rest) (hW : 2 * g.monitorRoom + (rest.map fun v => v.category).sum ≤ W9) (hdg : decode c.code g.pc = .ok (.invokestatic index, 3))
    (hpre : ∀ vm₁, s.WarmedH vm₁ → Pre ⟨T.setVm vm₁, locs, cells, slots⟩ argsL.toArray) :
    ∃ (v : Option Value) (vm₁ : Vm) (B : Pt), s.WarmedH vm₁ ∧ Stand p l e R s m args below meth c B.U B.locs B.cells B.slots ∧ Post ⟨T.setVm vm₁, locs, cells, slots⟩ argsL.toArray v B ∧
      ∀ target, Steps p.tables e below (B.U.setTop { g with pc := g.pc + 3, stack := v.toList ++ rest }) target → Steps p.tables e below (T.setTop g) target := by
  obtain ⟨mk, methM, cM, hnamed, hmethM, -, -, -, -, -, -, hsigM⟩ := Cond.codeWith_spec hcode
  have hstatic : methM.isStatic = true := Cond.static_spec hnamed hmethM hstat
  obtain ⟨kP, hkP, -⟩ := className_of_methodNamed hnamed
  have hinitP : kP.init = .initialized := Cond.initialized_spec (findClass_of_methodNamed hnamed) hkP hinit
  obtain ⟨vm₁, X₁, hstep₁⟩ := X.invokestatic hexec hown hlink hnamed hmethM hstatic hkP hinitP hy (g := g) hg (argsL := argsL) (rest := rest) (hlen _ hsigM) hstack hdg
  obtain ⟨v, B, X', hpost, hsteps⟩ := hK m meth c ⟨T.setVm vm₁, locs, cells, slots⟩ { g with stack := rest } (.invokestatic index) mk argsL.toArray X₁ hg hsize hdg hW (X₁.named hnamed) (hpre vm₁ X₁.warmed)
  exact ⟨v, vm₁, B, X₁.warmed, X', hpost, fun target h => hstep₁ _ fun acts => by rw [doInvoke_state]; exact hsteps.trans h⟩
theorem vx_runSW {y : MethodName} {bytes cc : ByteArray} {maxL nL mc ms n index : Nat} {ret : Option FieldType} {hh : List (Nat × Nat × Nat × Nat)} {ws : List Cond} {rm : Room} {Pc : Array Value → State → Prop} {Qc : Array Value → State → Outcome → State → Prop} {free : Addr → Prop} {Ts : List Cond} {own : String} {As rest : List Value} {g : JFrame}
    (S : CallFix p m c cc nL s args Ts own) (hM : Met l y ws rm Pc Qc mc ms free) (cw : vx_CSW R s args own index y bytes maxL ret hh ws rm mc ms n) (hp : PreS s H Pc As)
    (hg : g.method = m) (hn : As.length = n) (hsize : g.locals.size = nL) (hstack : g.stack = As.reverse ++ rest) (hW : 2 * g.monitorRoom + (rest.map fun v => v.category).sum ≤ 8) (hdg : decode cc g.pc = .ok (.invokestatic index, 3)) (hf : cells + mc ≤ R.cells ∧ slots + ms ≤ R.slots) :
    va_Run p l e R s m args below meth c H locs cells slots mc ms g rest (Qc As.toArray) (free) := by
  obtain ⟨⟨hrc, hrs, hfr, hlo, hws, hcw⟩, hcode, hini, hy, hlen, hl, hstt⟩ := cw
  have hK : Back l R p e below s args y 3 8 (PreOf R mc ms Pc) (PostOf Qc mc ms free) := va_backW (hh := hh) (bytes := bytes) (maxL := maxL) (ret := ret) hM hp.1 hrc hrs hfr hlo hws hcw (fun a' U hW => word_at hW (Or.inl (by first | rfl | simp [Cond.onTables, Cond.keeps, Cond.steady])) hini)
  obtain ⟨hx, hb, hml, ho, -⟩ := S
  intro T hT X
  obtain ⟨v, vm₁, ⟨U', l2, c2, s2⟩, hW₁, X', ⟨g', mk, t, L, e1, e2, hq, h1, hL, h2, h3⟩, st⟩ := vx_callSW X hx (hh := hh) (bytes := bytes) (maxL := maxL) (ret := ret) ho hl hstt hini hcode hy hK hg (hsize.trans hml.symm) (argsL := As) (rest := rest) (fun sig h => hn.trans (hlen sig h)) hstack hW (by rw [hb]; exact hdg)
    (fun vm₁ hW₁ => ⟨hf.1, hf.2, hp.2 (T.setVm vm₁) hT hW₁⟩)
  dsimp only [Pt.U, Pt.locs, Pt.cells, Pt.slots] at X' e1 e2 h1 h2 h3 st
  subst h1; subst h2; subst h3
  exact ⟨v, (T.setVm vm₁).calling g' mk As.toArray, t, U', L, hT, X', hL, e1, e2, hq, st⟩
/-- not caught here, past rows that name other classes: it goes on to the caller -/
theorem vx_outP {p : Program} {l : Launch} {e : Env} {R : Room} {s : State} {m : MethodId} {args : Array Value} {below : List Frame} {meth : Method} {c : Code} {H : Heap} {locs : List Loc} {cells slots : Nat} {free : Addr → Prop} {ls : Array Slot} {rest : List Value} {Qc : Array Value → State → Outcome → State → Prop} {XC : String → State → State → Prop}
    {pc : Nat} {own E : String} {ce : Cell} {q : Addr} {mc ms : Nat} (hown : s.vm.findClass own = some m.cls) (hlocks : meth.locks = false)
    (hpass : ∀ z ∈ c.exceptionTable.toList, covers z pc = false ∨ (z.catchType ≠ 0 ∧ ∃ nm : String, (Cond.classLink own z.catchType nm).before args s = true ∧ va_Nc E nm s)) (hcell : H[q]? = some ce) (hv : ce.vm = .none) (hcl : s.vm.findClass E = some ce.cls)
    (hx : ∀ t : State, t.heap = H → s.vm.Alike t.vm → XC E s t) (hf : ∀ z ∈ locs, free z.base) (hc : cells ≤ mc) (hs : slots ≤ ms) :
    vx_W p l e R s m args below meth c H locs cells slots (vx_MQ below Qc XC args s mc ms free) (F0 m pc ls rest) q := by
  intro T hT X
  have hpl : e.platform.magicAccessors = ({} : Platform).magicAccessors := by rw [X.admits.platform]
  obtain ⟨vm', hW', X', st⟩ := X.outThrough hlocks q (g := F0 m pc ls rest) rfl rfl rfl (cell := ce) (by rw [hT]; exact hcell) (by rw [hv]; rfl)
    (by obtain ⟨k9, h9, -⟩ := Vm.findClass_spec hcl; exact ⟨k9, h9⟩) (fun z hz => by
      rcases hpass z hz with h | ⟨hz0, nm, hl1, hn1⟩
      · exact Or.inl h
      · obtain ⟨c6, hc6, hcl6⟩ := Cond.classLink_spec hown hl1 e.platform hpl
        obtain ⟨a8, b8, h1, h2, h3⟩ := hn1
        cases Option.some.inj (h1.symm.trans hcl)
        cases Option.some.inj (h2.symm.trans hc6)
        exact Or.inr ⟨hz0, _, hcl6, h3⟩)
  obtain ⟨g₀, hfr⟩ := X'.frames_eq
  have hcell9 : ((T.setVm vm').setFrames (.throwing q :: below)).heap[q]? = some ce := by
    show T.heap[q]? = some ce
    rw [hT]; exact hcell
  have hend : Ended ((T.setVm vm').setFrames (.throwing q :: below)) below (.threw q) := State.frames_setFrames _ (State.cur_lt_of_frames hfr)
  refine ⟨(T.setVm vm').setFrames (.throwing q :: below), ?_, .threw q, X'.here.running, hend, Or.inr ⟨q, rfl, E, ce, locs, hx _ hT (X'.ends _).1.alike, hcell9, hv, hcl, (X'.ends _).1, (X'.ends _).2.mono hc hs, hf⟩⟩
  rw [X.pushThrowing_eq]
  exact st
/-- a thing of a world lies in the heap -/
theorem vx_lt {D : va_G} {cl : List vw_C} {ws : va_W} {H1 : Heap} (h : va_P D cl ws H1) {k : Nat} {q : Nat × va_E} (hk : ws[k]? = some q) : q.1 < H1.size := (h k q hk).lt
end VXS
/-! ===== END ===== -/
/-! ===== BEGIN methods with a table of their own: called by a name, returning or throwing ===== -/
section VXH
/-! vx_backW, vx_callVX, vx_callSX, vx_callVW, vx_runVW, vx_runVX, vx_runSX, vx_ofWH follow the same proofs as their sisters above (Free/Laws.lean, Shelf42/LK1.lean); vx_outP calls Shelf42/NT130.lean (outThrough). -/
section
variable {l : Launch} {R : Room} {p : Program} {e : Env} {below : List Frame} {s : State} {sargs : Array Value} {y : MethodName} {len W9 : Nat}
theorem vx_backW {ws : List Cond} {rm : Room} {Pc : Array Value → State → Prop} {Qc : Array Value → State → Outcome → State → Prop} {XC : String → State → State → Prop} {mc ms : Nat} {free : Addr → Prop} {bytes : ByteArray} {maxL : Nat} {ret : Option FieldType} {hh : List (Nat × Nat × Nat × Nat)}
    (hM : vx_Met l y ws rm Pc Qc XC mc ms free) (hblind : FrameBlind Pc) (hrc : rm.cells = mc) (hrs : rm.slots = ms)
    (hframes : rm.frames + 1 ≤ R.frames) (hlocals : W9 + (maxL + 11) + rm.locals ≤ R.locals)
    (hws : ∀ w ∈ ws, ∀ a' U, s.WarmedH U.vm → w.before a' U = true) (hcode : Cond.codeWith y bytes maxL ret hh ∈ ws) (hinit : ∀ a' U, s.WarmedH U.vm → (Cond.initialized y.cls).before a' U = true) :
    vx_Back l R p e below s sargs y len W9 (PreOf R mc ms Pc) (PostOf Qc mc ms free) (vx_Post XC mc ms free) := by
  intro m meth c A g ig mk a X hg hsize hdg hW hn hp
  have h1 : (headSpec ws rm).pre.before a A.U = true := atoms_intro fun w hw => hws w hw _ _ X.warmed
  have h2 : (Cond.codeWith y bytes maxL ret hh).before a A.U = true := hws _ hcode _ _ X.warmed
  have h3 : (Cond.initialized y.cls).before a A.U = true := hinit _ _ X.warmed
  have h4 : A.cells + (headSpec ws rm).room.cells ≤ R.cells := by rw [show (headSpec ws rm).room.cells = mc from hrc]; exact hp.1
  have h5 : A.slots + (headSpec ws rm).room.slots ≤ R.slots := by rw [show (headSpec ws rm).room.slots = ms from hrs]; exact hp.2.1
  have hPc : Pc a (A.U.calling g mk a) := hblind _ _ _ _ hp.2.2
  obtain ⟨U, Ls, c0, s0⟩ := A
  dsimp only [Pt.U, Pt.locs, Pt.cells, Pt.slots] at h1 h2 h3 h4 h5 X hn hPc ⊢
  obtain ⟨m9, methY, cY, hn9, hmY, hcY, -, hlY, -⟩ := Cond.codeWith_spec h2
  cases Option.some.inj (hn9.symm.trans hn)
  obtain ⟨kY, hkY, -⟩ := className_of_methodNamed hn
  have hinitY : kY.init = .initialized := Cond.initialized_spec (findClass_of_methodNamed hn) hkY h3
  have h : At U g.method c below := by rw [hg]; exact X.here
  have hlocals9 : W9 + (maxL + 11) + (headSpec ws rm).room.locals ≤ R.locals := hlocals
  have happ : (headSpec ws rm).appliesLoose y e.platform (U.calling g mk a) = true :=
    Spec.appliesLoose_calling (g := g) h hdg hn hkY hinitY
      (X.room_calling (g := g) (R' := (headSpec ws rm).room) hsize hmY hcY hframes (by rw [hlY]; omega) h4 h5) h1
  obtain ⟨mid, hmid⟩ := h.above
  have hfr : (U.setTop g).frames = (.java g :: mid) ++ below := by rw [State.frames_setTop' g h.top, hmid]; rfl
  obtain ⟨o, s₂, hsteps, -, hend, hq⟩ := Steps.callFree hM p X.admits X.cas X.clock (acts := []) hfr happ hPc trivial
  have hq' : vx_Q Qc XC mc ms free a (U.calling g mk a) o s₂ := hq
  rw [State.frames_setTop' g h.top] at hend
  obtain ⟨g₀, hg0⟩ := Option.isSome_iff_exists.mp h.top
  obtain ⟨r, hr⟩ := State.topJava?_eq_some.mp hg0
  have hr' : (({ U with heap := s₂.heap, slotsUsed := s₂.slotsUsed } : State).setVm s₂.vm).frames = .java g₀ :: r := hr
  rcases hq' with ⟨hqc, L, hfe, hL⟩ | ⟨q, rfl, E, ce, L, hx, hce, hcv, hcl, hW₂, hsm, hL⟩
  · obtain ⟨⟨v, rfl⟩, hW₂, e2, q2, q3, q4, q5, q6⟩ := id hfe
    have e3 : s₂ = ({ (U.calling g mk a).setFrames s₂.frames with heap := s₂.heap, slotsUsed := s₂.slotsUsed } : State).setVm s₂.vm := by
      have : s₂ = ({ s₂ with vm := (U.calling g mk a).vm } : State).setVm s₂.vm := rfl
      rw [e2] at this
      exact this
    obtain ⟨c₂, i₂, len₂, hc₂, hd₂, hf₂⟩ := hend
    have hW' : U.WarmedH s₂.vm := hW₂
    have hcc : c₂ = c := by
      have h1 : s₂.code? g.method = U.code? g.method := by
        rw [State.code?_eq, State.code?_eq, hW'.alike.method?]
      exact Option.some.inj (hc₂.symm.trans (h1.trans h.code))
    subst hcc
    have hlen : len₂ = len := by rw [hdg] at hd₂; cases hd₂; rfl
    subst hlen
    have hs₂ : s₂ = (({ U with heap := s₂.heap, slotsUsed := s₂.slotsUsed } : State).setVm s₂.vm).setTop { g with pc := g.pc + len₂, stack := v.toList ++ g.stack } := by
      refine e3.trans ?_
      rw [hf₂, State.calling_eq h.top, State.setFrames_setFrames, State.setTop_of_frames _ hr', hr]
      rfl
    have hsame : U.sameButNew ({ U with heap := s₂.heap, slotsUsed := s₂.slotsUsed } : State) L mc ms := by
      refine ⟨?_, q2, q3, q4, q5, q6⟩
      obtain ⟨t, ht, -⟩ := State.frames_cons hr
      show ({ U with heap := s₂.heap, slotsUsed := s₂.slotsUsed } : State) = { U.setFrames U.frames with heap := s₂.heap, slotsUsed := s₂.slotsUsed }
      rw [State.setFrames_self ht]
    subst hg
    refine Or.inl ⟨v, ⟨(({ U with heap := s₂.heap, slotsUsed := s₂.slotsUsed } : State).setVm s₂.vm), Ls ++ L, c0 + mc, s0 + ms⟩,
      ⟨X.admits, X.cas, X.clock, X.frames, X.room, X.hears, X.method, X.code, (X.here.setHeapUsed s₂.heap s₂.slotsUsed).setVm hW'.alike, X.tail, State.WarmedH.trans X.warmed hW', X.limits, X.bytes, X.same.trans (hsame.setVm s.vm)⟩,
      ⟨g, mk, s₂, L, rfl, rfl, hqc, rfl, hL, rfl, rfl⟩, ?_⟩
    show Steps p.tables e below _ ((({ U with heap := s₂.heap, slotsUsed := s₂.slotsUsed } : State).setVm s₂.vm).setTop { g with pc := g.pc + len₂, stack := v.toList ++ g.stack })
    rw [← hs₂]
    exact hsteps
  · obtain ⟨e2, q2, q3, q4, q5, q6⟩ := id hsm
    have e3 : s₂ = ({ (U.calling g mk a).setFrames s₂.frames with heap := s₂.heap, slotsUsed := s₂.slotsUsed } : State).setVm s₂.vm := by
      have : s₂ = ({ s₂ with vm := (U.calling g mk a).vm } : State).setVm s₂.vm := rfl
      rw [e2] at this
      exact this
    have hf₂ : s₂.frames = .throwing q :: .java g :: U.frames.tail := hend
    have hW' : U.WarmedH s₂.vm := hW₂
    have hs₂ : s₂ = ((({ U with heap := s₂.heap, slotsUsed := s₂.slotsUsed } : State).setVm s₂.vm).setTop g).pushFrame (.throwing q) := by
      refine e3.trans ?_
      rw [hf₂, State.calling_eq h.top, State.setFrames_setFrames, State.pushFrame, State.frames_setTop _ hr', State.setTop_of_frames _ hr', State.setFrames_setFrames, hr]
      rfl
    have hsame : U.sameButNew ({ U with heap := s₂.heap, slotsUsed := s₂.slotsUsed } : State) L mc ms := by
      refine ⟨?_, q2, q3, q4, q5, q6⟩
      obtain ⟨t, ht, -⟩ := State.frames_cons hr
      show ({ U with heap := s₂.heap, slotsUsed := s₂.slotsUsed } : State) = { U.setFrames U.frames with heap := s₂.heap, slotsUsed := s₂.slotsUsed }
      rw [State.setFrames_self ht]
    subst hg
    refine Or.inr ⟨q, ⟨(({ U with heap := s₂.heap, slotsUsed := s₂.slotsUsed } : State).setVm s₂.vm), Ls ++ L, c0 + mc, s0 + ms⟩,
      ⟨X.admits, X.cas, X.clock, X.frames, X.room, X.hears, X.method, X.code, (X.here.setHeapUsed s₂.heap s₂.slotsUsed).setVm hW'.alike, X.tail, State.WarmedH.trans X.warmed hW', X.limits, X.bytes, X.same.trans (hsame.setVm s.vm)⟩,
      ⟨g, mk, s₂, L, E, ce, rfl, rfl, hx, hce, hcv, hcl, rfl, hL, rfl, rfl⟩, ?_⟩
    show Steps p.tables e below _ (((({ U with heap := s₂.heap, slotsUsed := s₂.slotsUsed } : State).setVm s₂.vm).setTop g).pushFrame (.throwing q))
    rw [← hs₂]
    exact hsteps
end
variable {p : Program} {l : Launch} {e : Env} {R : Room} {s : State} {m : MethodId} {args : Array Value} {below : List Frame} {meth : Method} {c : Code} {T : State} {H : Heap} {locs : List Loc} {cells slots : Nat}
theorem vx_callVX (X : Stand p l e R s m args below meth c T locs cells slots) (hexec : p.tables.exec = Jvm.exec) {own C : String} {index : Nat} {y : MethodName} {bytes : ByteArray} {maxL : Nat} {ret : Option FieldType} {hh : List (Nat × Nat × Nat × Nat)}
    (hown : s.vm.findClass own = some m.cls) (hlink : (Cond.methodLink own index y).before args s = true) (hinst : (Cond.instanceMethod y).before args s = true) (hsel : (Cond.selects C y y).before args s = true)
    (hcode : (Cond.codeWith y bytes maxL ret hh).before args s = true) (hy : y.cls ≠ "java/lang/invoke/MethodHandle" ∧ y.cls ≠ "java/lang/invoke/VarHandle")
    {W9 : Nat} {Pre : Pt → Array Value → Prop} {Post : Pt → Array Value → Option Value → Pt → Prop} {PostX : Pt → Array Value → Addr → Pt → Prop} (hK : vx_Back l R p e below s args y 3 W9 Pre Post PostX)
    {b : Addr} {cellB : Cell} (hcell : T.heap[b]? = some cellB) (hobj : cellB.vm.isStatics = false) (hcls : s.vm.findClass C = some cellB.cls)
    {g : JFrame} (hg : g.method = m) (hsize : g.locals.size = c.maxLocals) {argsL rest : List Value} (hlen : ∀ sig, parseMethodDescriptor y.desc = some sig → argsL.length = sig.parameters.length)
    (hstack : g.stack = argsL.reverse ++ .ref b :: rest) (hW : 2 * g.monitorRoom + (rest.map fun v => v.category).sum ≤ W9) (hdg : decode c.code g.pc = .ok (.invokevirtual index, 3))
    (hpre : ∀ vm₁, s.WarmedH vm₁ → Pre ⟨T.setVm vm₁, locs, cells, slots⟩ (Value.ref b :: argsL).toArray) :
    (∃ (v : Option Value) (vm₁ : Vm) (B : Pt), s.WarmedH vm₁ ∧ Stand p l e R s m args below meth c B.U B.locs B.cells B.slots ∧ Post ⟨T.setVm vm₁, locs, cells, slots⟩ (Value.ref b :: argsL).toArray v B ∧
      ∀ target, Steps p.tables e below (B.U.setTop { g with pc := g.pc + 3, stack := v.toList ++ rest }) target → Steps p.tables e below (T.setTop g) target) ∨
    (∃ (q : Addr) (vm₁ : Vm) (B : Pt), s.WarmedH vm₁ ∧ Stand p l e R s m args below meth c B.U B.locs B.cells B.slots ∧ PostX ⟨T.setVm vm₁, locs, cells, slots⟩ (Value.ref b :: argsL).toArray q B ∧
      Steps p.tables e below (T.setTop g) ((B.U.setTop { g with stack := rest }).pushFrame (.throwing q))) := by
  obtain ⟨mk, methM, hnamed, hmethM, hstM, habM⟩ := Cond.instanceMethod_spec hinst
  obtain ⟨m8, methM', cM, hn8, hmethM', -, -, -, -, -, -, hsigM⟩ := Cond.codeWith_spec hcode
  cases Option.some.inj (hn8.symm.trans hnamed)
  cases hmethM.symm.trans hmethM'
  obtain ⟨c2, r2, m2, q1, q2, q3, q4, kP, hkP, hkPi⟩ := Cond.selects_spec hsel
  cases hcls.symm.trans q1
  cases (State.methodFound?_of_named hnamed hy).symm.trans q2
  cases hnamed.symm.trans q3
  have hselP : selectMethod e.platform s.vm cellB.cls mk = .method mk := by rw [Launch.admits_selectMethod X.admits]; exact q4
  obtain ⟨vm₁, X₁, hstep₁⟩ := X.invokevirtual hexec hown hlink hnamed hmethM hstM hkP hkPi hy (a := b) (cell := cellB) hcell
    (fun z h => by rw [h] at hobj; cases hobj) hselP hmethM habM hkP hkPi (g := g) hg (argsL := argsL) (rest := rest) (hlen _ hsigM) hstack hdg
  rcases hK m meth c ⟨T.setVm vm₁, locs, cells, slots⟩ { g with stack := rest } (.invokevirtual index) mk (Value.ref b :: argsL).toArray X₁ hg hsize hdg hW (X₁.named hnamed) (hpre vm₁ X₁.warmed) with ⟨v, B, X', hpost, hsteps⟩ | ⟨q, B, X', hpost, hsteps⟩
  · exact Or.inl ⟨v, vm₁, B, X₁.warmed, X', hpost, fun target h => hstep₁ _ fun acts => by rw [doInvoke_state]; exact hsteps.trans h⟩
  · exact Or.inr ⟨q, vm₁, B, X₁.warmed, X', hpost, hstep₁ _ fun acts => by rw [doInvoke_state]; exact hsteps⟩
theorem vx_callSX (X : Stand p l e R s m args below meth c T locs cells slots) (hexec : p.tables.exec = Jvm.exec) {own : String} {index : Nat} {y : MethodName} {bytes : ByteArray} {maxL : Nat} {ret : Option FieldType} {hh : List (Nat × Nat × Nat × Nat)}
    (hown : s.vm.findClass own = some m.cls) (hlink : (Cond.methodLink own index y).before args s = true) (hstat : (Cond.static y).before args s = true) (hinit : (Cond.initialized y.cls).before args s = true)
    (hcode : (Cond.codeWith y bytes maxL ret hh).before args s = true) (hy : y.cls ≠ "java/lang/invoke/MethodHandle" ∧ y.cls ≠ "java/lang/invoke/VarHandle")
    {W9 : Nat} {Pre : Pt → Array Value → Prop} {Post : Pt → Array Value → Option Value → Pt → Prop} {PostX : Pt → Array Value → Addr → Pt → Prop} (hK : vx_Back l R p e below s args y 3 W9 Pre Post PostX)
    {g : JFrame} (hg : g.method = m) (hsize : g.locals.size = c.maxLocals) {argsL rest : List Value} (hlen : ∀ sig, parseMethodDescriptor y.desc = some sig → argsL.length = sig.parameters.length)
    (hstack : g.stack = argsL.reverse ++ rest) (hW : 2 * g.monitorRoom + (rest.map fun v => v.category).sum ≤ W9) (hdg : decode c.code g.pc = .ok (.invokestatic index, 3))
    (hpre : ∀ vm₁, s.WarmedH vm₁ → Pre ⟨T.setVm vm₁, locs, cells, slots⟩ argsL.toArray) :
    (∃ (v : Option Value) (vm₁ : Vm) (B : Pt), s.WarmedH vm₁ ∧ Stand p l e R s m args below meth c B.U B.locs B.cells B.slots ∧ Post ⟨T.setVm vm₁, locs, cells, slots⟩ argsL.toArray v B ∧
      ∀ target, Steps p.tables e below (B.U.setTop { g with pc := g.pc + 3, stack := v.toList ++ rest }) target → Steps p.tables e below (T.setTop g) target) ∨
    (∃ (q : Addr) (vm₁ : Vm) (B : Pt), s.WarmedH vm₁ ∧ Stand p l e R s m args below meth c B.U B.locs B.cells B.slots ∧ PostX ⟨T.setVm vm₁, locs, cells, slots⟩ argsL.toArray q B ∧
      Steps p.tables e below (T.setTop g) ((B.U.setTop { g with stack := rest }).pushFrame (.throwing q))) := by
  obtain ⟨mk, methM, cM, hnamed, hmethM, -, -, -, -, -, -, hsigM⟩ := Cond.codeWith_spec hcode
  have hstatic : methM.isStatic = true := Cond.static_spec hnamed hmethM hstat
  obtain ⟨kP, hkP, -⟩ := className_of_methodNamed hnamed
  have hinitP : kP.init = .initialized := Cond.initialized_spec (findClass_of_methodNamed hnamed) hkP hinit
  obtain ⟨vm₁, X₁, hstep₁⟩ := X.invokestatic hexec hown hlink hnamed hmethM hstatic hkP hinitP hy (g := g) hg (argsL := argsL) (rest := rest) (hlen _ hsigM) hstack hdg
  rcases hK m meth c ⟨T.setVm vm₁, locs, cells, slots⟩ { g with stack := rest } (.invokestatic index) mk argsL.toArray X₁ hg hsize hdg hW (X₁.named hnamed) (hpre vm₁ X₁.warmed) with ⟨v, B, X', hpost, hsteps⟩ | ⟨q, B, X', hpost, hsteps⟩
  · exact Or.inl ⟨v, vm₁, B, X₁.warmed, X', hpost, fun target h => hstep₁ _ fun acts => by rw [doInvoke_state]; exact hsteps.trans h⟩
  · exact Or.inr ⟨q, vm₁, B, X₁.warmed, X', hpost, hstep₁ _ fun acts => by rw [doInvoke_state]; exact hsteps⟩
theorem vx_callVW (X : Stand p l e R s m args below meth c T locs cells slots) (hexec : p.tables.exec = Jvm.exec) {own C : String} {index : Nat} {y : MethodName} {bytes : ByteArray} {maxL : Nat} {ret : Option FieldType} {hh : List (Nat × Nat × Nat × Nat)}
    (hown : s.vm.findClass own = some m.cls) (hlink : (Cond.methodLink own index y).before args s = true) (hinst : (Cond.instanceMethod y).before args s = true) (hsel : (Cond.selects C y y).before args s = true)
    (hcode : (Cond.codeWith y bytes maxL ret hh).before args s = true) (hy : y.cls ≠ "java/lang/invoke/MethodHandle" ∧ y.cls ≠ "java/lang/invoke/VarHandle")
    {W9 : Nat} {Pre : Pt → Array Value → Prop} {Post : Pt → Array Value → Option Value → Pt → Prop} (hK : Back l R p e below s args y 3 W9 Pre Post)
    {b : Addr} {cellB : Cell} (hcell : T.heap[b]? = some cellB) (hobj : cellB.vm.isStatics = false) (hcls : s.vm.findClass C = some cellB.cls)
    {g : JFrame} (hg : g.method = m) (hsize : g.locals.size = c.maxLocals) {argsL rest : List Value} (hlen : ∀ sig, parseMethodDescriptor y.desc = some sig → argsL.length = sig.parameters.length)
    (hstack : g.stack = argsL.reverse ++ .ref b :: rest) (hW : 2 * g.monitorRoom + (rest.map fun v => v.category).sum ≤ W9) (hdg : decode c.code g.pc = .ok (.invokevirtual index, 3))
    (hpre : ∀ vm₁, s.WarmedH vm₁ → Pre ⟨T.setVm vm₁, locs, cells, slots⟩ (Value.ref b :: argsL).toArray) :
    ∃ (v : Option Value) (vm₁ : Vm) (B : Pt), s.WarmedH vm₁ ∧ Stand p l e R s m args below meth c B.U B.locs B.cells B.slots ∧ Post ⟨T.setVm vm₁, locs, cells, slots⟩ (Value.ref b :: argsL).toArray v B ∧
      ∀ target, Steps p.tables e below (B.U.setTop { g with pc := g.pc + 3, stack := v.toList ++ rest }) target → Steps p.tables e below (T.setTop g) target := by
  obtain ⟨mk, methM, hnamed, hmethM, hstM, habM⟩ := Cond.instanceMethod_spec hinst
  obtain ⟨m8, methM', cM, hn8, hmethM', -, -, -, -, -, -, hsigM⟩ := Cond.codeWith_spec hcode
  cases Option.some.inj (hn8.symm.trans hnamed)
  cases hmethM.symm.trans hmethM'
  obtain ⟨c2, r2, m2, q1, q2, q3, q4, kP, hkP, hkPi⟩ := Cond.selects_spec hsel
  cases hcls.symm.trans q1
  cases (State.methodFound?_of_named hnamed hy).symm.trans q2
  cases hnamed.symm.trans q3
  have hselP : selectMethod e.platform s.vm cellB.cls mk = .method mk := by rw [Launch.admits_selectMethod X.admits]; exact q4
  obtain ⟨vm₁, X₁, hstep₁⟩ := X.invokevirtual hexec hown hlink hnamed hmethM hstM hkP hkPi hy (a := b) (cell := cellB) hcell
    (fun z h => by rw [h] at hobj; cases hobj) hselP hmethM habM hkP hkPi (g := g) hg (argsL := argsL) (rest := rest) (hlen _ hsigM) hstack hdg
  obtain ⟨v, B, X', hpost, hsteps⟩ := hK m meth c ⟨T.setVm vm₁, locs, cells, slots⟩ { g with stack := rest } (.invokevirtual index) mk (Value.ref b :: argsL).toArray X₁ hg hsize hdg hW (X₁.named hnamed) (hpre vm₁ X₁.warmed)
  exact ⟨v, vm₁, B, X₁.warmed, X', hpost, fun target h => hstep₁ _ fun acts => by rw [doInvoke_state]; exact hsteps.trans h⟩
abbrev vx_CVW (R : Room) (s : State) (args : Array Value) (own C : String) (index : Nat) (y : MethodName) (bytes : ByteArray) (maxL : Nat) (ret : Option FieldType) (hh : List (Nat × Nat × Nat × Nat)) (ws : List Cond) (rm : Room) (mc ms n : Nat) : Prop :=
  (rm.cells = mc ∧ rm.slots = ms ∧ rm.frames + 1 ≤ R.frames ∧ 8 + (maxL + 11) + rm.locals ≤ R.locals ∧ (∀ w ∈ ws, ∀ (a' : Array Value) (U : State), s.WarmedH U.vm → w.before a' U = true) ∧ Cond.codeWith y bytes maxL ret hh ∈ ws) ∧
  (Cond.codeWith y bytes maxL ret hh).before args s = true ∧ (Cond.initialized y.cls).before args s = true ∧ (y.cls ≠ "java/lang/invoke/MethodHandle" ∧ y.cls ≠ "java/lang/invoke/VarHandle") ∧
  (∀ sig, parseMethodDescriptor y.desc = some sig → n = sig.parameters.length) ∧ (Cond.methodLink own index y).before args s = true ∧ (Cond.instanceMethod y).before args s = true ∧ (Cond.selects C y y).before args s = true
theorem vx_cwVW {own C : String} {index maxL mc ms : Nat} {y : MethodName} {bytes : ByteArray} {ret : Option FieldType} {hh : List (Nat × Nat × Nat × Nat)} {Ts ws ws' : List Cond} {rm : Room} (n : Nat) (ht : ∀ w ∈ Ts, w.before args s = true) (hT : GoodIn Ts (wsV own index C y ws)) (hw : ws = Cond.codeWith y bytes maxL ret hh :: ws') (hrc : rm.cells = mc) (hrs : rm.slots = ms)
    (hd : y.cls = C ∧ y.cls ≠ "java/lang/invoke/MethodHandle" ∧ y.cls ≠ "java/lang/invoke/VarHandle" ∧ (parseMethodDescriptor y.desc).map (fun d => d.parameters.length) = some n) (hR : rm.frames + 1 ≤ R.frames ∧ 8 + (maxL + 11) + rm.locals ≤ R.locals) :
    vx_CVW R s args own C index y bytes maxL ret hh ws rm mc ms n := by
  obtain ⟨hC, hd⟩ := hd
  subst hC
  have ok : ∀ w ∈ wsV own index y.cls y ws, w.before args s = true := fun w h => ht w (hT w h).1
  have hG : GoodIn Ts ws := fun w h => hT w (by unfold wsV; exact List.mem_append_right _ h)
  have hc : Cond.codeWith y bytes maxL ret hh ∈ ws := by rw [hw]; exact List.mem_cons_self
  refine ⟨⟨hrc, hrs, hR.1, hR.2, pay_in ht hG, hc⟩, ht _ (hG _ hc).1, ok _ (by simp [wsV]), ⟨hd.1, hd.2.1⟩, fun sig h => ?_, ok _ (by simp [wsV]), ok _ (by simp [wsV]), ok _ (by simp [wsV])⟩
  have h2 := hd.2.2
  rw [h] at h2
  exact (Option.some.inj h2).symm
theorem vx_runVW {y : MethodName} {bytes cc : ByteArray} {maxL nL mc ms n index : Nat} {ret : Option FieldType} {hh : List (Nat × Nat × Nat × Nat)} {ws : List Cond} {rm : Room} {Pc : Array Value → State → Prop} {Qc : Array Value → State → Outcome → State → Prop} {free : Addr → Prop} {Ts : List Cond} {own C : String} {b : Addr} {As rest : List Value} {g : JFrame}
    (S : CallFix p m c cc nL s args Ts own) (hM : Met l y ws rm Pc Qc mc ms free) (cw : vx_CVW R s args own C index y bytes maxL ret hh ws rm mc ms n) (hp : PreV s H C b Pc As)
    (hg : g.method = m) (hn : As.length = n) (hsize : g.locals.size = nL) (hstack : g.stack = As.reverse ++ .ref b :: rest) (hW : 2 * g.monitorRoom + (rest.map fun v => v.category).sum ≤ 8) (hdg : decode cc g.pc = .ok (.invokevirtual index, 3)) (hf : cells + mc ≤ R.cells ∧ slots + ms ≤ R.slots) :
    va_Run p l e R s m args below meth c H locs cells slots mc ms g rest (Qc (Value.ref b :: As).toArray) free := by
  obtain ⟨⟨hrc, hrs, hfr, hlo, hws, hcw⟩, hcode, hini, hy, hlen, hl, hin, hse⟩ := cw
  have hK : Back l R p e below s args y 3 8 (PreOf R mc ms Pc) (PostOf Qc mc ms free) := va_backW (hh := hh) (bytes := bytes) (maxL := maxL) (ret := ret) hM hp.1 hrc hrs hfr hlo hws hcw (fun a' U hW => word_at hW (Or.inl (by first | rfl | simp [Cond.onTables, Cond.keeps, Cond.steady])) hini)
  obtain ⟨hx, hb, hml, ho, -⟩ := S
  obtain ⟨-, ⟨cellB, hcB, hoB, hclB⟩, hPc⟩ := hp
  intro T hT X
  obtain ⟨v, vm₁, ⟨U', l2, c2, s2⟩, hW₁, X', ⟨g', mk, t, L, e1, e2, hq, h1, hL, h2, h3⟩, st⟩ := vx_callVW X hx (C := C) (hh := hh) (bytes := bytes) (maxL := maxL) (ret := ret) ho hl hin hse hcode hy hK (by rw [hT]; exact hcB) hoB hclB hg (hsize.trans hml.symm) (argsL := As) (rest := rest) (fun sig h => hn.trans (hlen sig h)) hstack hW (by rw [hb]; exact hdg)
    (fun vm₁ hW₁ => ⟨hf.1, hf.2, hPc (T.setVm vm₁) hT hW₁⟩)
  dsimp only [Pt.U, Pt.locs, Pt.cells, Pt.slots] at X' e1 e2 h1 h2 h3 st
  subst h1; subst h2; subst h3
  exact ⟨v, (T.setVm vm₁).calling g' mk (Value.ref b :: As).toArray, t, U', L, hT, X', hL, e1, e2, hq, st⟩
section
variable {y : MethodName} {bytes cc : ByteArray} {maxL nL mc ms n index : Nat} {ret : Option FieldType} {ws : List Cond} {rm : Room} {Pc : Array Value → State → Prop} {Qc : Array Value → State → Outcome → State → Prop} {XC : String → State → State → Prop} {free : Addr → Prop} {Ts : List Cond} {own C : String} {b : Addr} {As rest : List Value} {g : JFrame}
theorem vx_runVX {hh : List (Nat × Nat × Nat × Nat)} (S : CallFix p m c cc nL s args Ts own) (hM : vx_Met l y ws rm Pc Qc XC mc ms free) (cw : vx_CVW R s args own C index y bytes maxL ret hh ws rm mc ms n) (hp : PreV s H C b Pc As)
    (hg : g.method = m) (hn : As.length = n) (hsize : g.locals.size = nL) (hstack : g.stack = As.reverse ++ .ref b :: rest) (hW : 2 * g.monitorRoom + (rest.map fun v => v.category).sum ≤ 8) (hdg : decode cc g.pc = .ok (.invokevirtual index, 3)) (hf : cells + mc ≤ R.cells ∧ slots + ms ≤ R.slots) :
    vx_Run p l e R s m args below meth c H locs cells slots mc ms g rest (Qc (Value.ref b :: As).toArray) XC free := by
  obtain ⟨⟨hrc, hrs, hfr, hlo, hws, hcw⟩, hcode, hini, hy, hlen, hl, hin, hse⟩ := cw
  have hK : vx_Back l R p e below s args y 3 8 (PreOf R mc ms Pc) (PostOf Qc mc ms free) (vx_Post XC mc ms free) := vx_backW (hh := hh) (bytes := bytes) (maxL := maxL) (ret := ret) hM hp.1 hrc hrs hfr hlo hws hcw (fun a' U hW => word_at hW (Or.inl (by first | rfl | simp [Cond.onTables, Cond.keeps, Cond.steady])) hini)
  obtain ⟨hx, hb, hml, ho, -⟩ := S
  obtain ⟨-, ⟨cellB, hcB, hoB, hclB⟩, hPc⟩ := hp
  intro T hT X
  rcases vx_callVX X hx (C := C) (hh := hh) (bytes := bytes) (maxL := maxL) (ret := ret) ho hl hin hse hcode hy hK (by rw [hT]; exact hcB) hoB hclB hg (hsize.trans hml.symm) (argsL := As) (rest := rest) (fun sig h => hn.trans (hlen sig h)) hstack hW (by rw [hb]; exact hdg)
    (fun vm₁ hW₁ => ⟨hf.1, hf.2, hPc (T.setVm vm₁) hT hW₁⟩) with ⟨v, vm₁, ⟨U', l2, c2, s2⟩, hW₁, X', ⟨g', mk, t, L, e1, e2, hq, h1, hL, h2, h3⟩, st⟩ | ⟨q, vm₁, ⟨U', l2, c2, s2⟩, hW₁, X', ⟨g', mk, t, L, E, ce, e1, e2, hq, hce, hcv, hcl, h1, hL, h2, h3⟩, st⟩
  · dsimp only [Pt.U, Pt.locs, Pt.cells, Pt.slots] at X' e1 e2 h1 h2 h3 st
    subst h1; subst h2; subst h3
    exact Or.inl ⟨v, (T.setVm vm₁).calling g' mk (Value.ref b :: As).toArray, t, U', L, hT, X', hL, e1, e2, hq, st⟩
  · dsimp only [Pt.U, Pt.locs, Pt.cells, Pt.slots] at X' e1 e2 h1 h2 h3 st hcl
    subst h1; subst h2; subst h3
    exact Or.inr ⟨q, (T.setVm vm₁).calling g' mk (Value.ref b :: As).toArray, t, U', L, E, ce, hT, X', hL, e1, e2, hq, hce, hcv, vx_cls hW₁ hcl, st⟩
theorem vx_runSX {hh : List (Nat × Nat × Nat × Nat)} (S : CallFix p m c cc nL s args Ts own) (hM : vx_Met l y ws rm Pc Qc XC mc ms free) (cw : vx_CSW R s args own index y bytes maxL ret hh ws rm mc ms n) (hp : PreS s H Pc As)
    (hg : g.method = m) (hn : As.length = n) (hsize : g.locals.size = nL) (hstack : g.stack = As.reverse ++ rest) (hW : 2 * g.monitorRoom + (rest.map fun v => v.category).sum ≤ 8) (hdg : decode cc g.pc = .ok (.invokestatic index, 3)) (hf : cells + mc ≤ R.cells ∧ slots + ms ≤ R.slots) :
    vx_Run p l e R s m args below meth c H locs cells slots mc ms g rest (Qc As.toArray) XC free := by
  obtain ⟨⟨hrc, hrs, hfr, hlo, hws, hcw⟩, hcode, hini, hy, hlen, hl, hstt⟩ := cw
  have hK : vx_Back l R p e below s args y 3 8 (PreOf R mc ms Pc) (PostOf Qc mc ms free) (vx_Post XC mc ms free) := vx_backW (hh := hh) (bytes := bytes) (maxL := maxL) (ret := ret) hM hp.1 hrc hrs hfr hlo hws hcw (fun a' U hW => word_at hW (Or.inl (by first | rfl | simp [Cond.onTables, Cond.keeps, Cond.steady])) hini)
  obtain ⟨hx, hb, hml, ho, -⟩ := S
  intro T hT X
  rcases vx_callSX X hx (hh := hh) (bytes := bytes) (maxL := maxL) (ret := ret) ho hl hstt hini hcode hy hK hg (hsize.trans hml.symm) (argsL := As) (rest := rest) (fun sig h => hn.trans (hlen sig h)) hstack hW (by rw [hb]; exact hdg)
    (fun vm₁ hW₁ => ⟨hf.1, hf.2, hp.2 (T.setVm vm₁) hT hW₁⟩) with ⟨v, vm₁, ⟨U', l2, c2, s2⟩, hW₁, X', ⟨g', mk, t, L, e1, e2, hq, h1, hL, h2, h3⟩, st⟩ | ⟨q, vm₁, ⟨U', l2, c2, s2⟩, hW₁, X', ⟨g', mk, t, L, E, ce, e1, e2, hq, hce, hcv, hcl, h1, hL, h2, h3⟩, st⟩
  · dsimp only [Pt.U, Pt.locs, Pt.cells, Pt.slots] at X' e1 e2 h1 h2 h3 st
    subst h1; subst h2; subst h3
    exact Or.inl ⟨v, (T.setVm vm₁).calling g' mk As.toArray, t, U', L, hT, X', hL, e1, e2, hq, st⟩
  · dsimp only [Pt.U, Pt.locs, Pt.cells, Pt.slots] at X' e1 e2 h1 h2 h3 st hcl
    subst h1; subst h2; subst h3
    exact Or.inr ⟨q, (T.setVm vm₁).calling g' mk As.toArray, t, U', L, E, ce, hT, X', hL, e1, e2, hq, hce, hcv, vx_cls hW₁ hcl, st⟩
end
end VXH
theorem vx_ofWH {l : Launch} {y : MethodName} {ws ws' : List Cond} {rm : Room} {Pc : Array Value → State → Prop} {Qc : Array Value → State → Outcome → State → Prop} {XC : String → State → State → Prop} {mc ms : Nat} {free : Addr → Prop} {cc : ByteArray} {maxL : Nat} {ret : Option FieldType} {hh : List (Nat × Nat × Nat × Nat)}
    (hy : plainName y.cls = true) (hw : ws = Cond.codeWith y cc maxL ret hh :: ws')
    (body : ∀ p e s m args below meth c s₁, BodyLoose p l y (headSpec ws rm) cc maxL ret e s m args below meth c s₁ → c.maxLocals = maxL → Pc args s →
      W p l e (headSpec ws rm).room s m args below meth c s.heap [] 0 0 (vx_MQ below Qc XC args s mc ms free) (entryFrame m args maxL)) : vx_Met l y ws rm Pc Qc XC mc ms free := by
  refine MetFree.of_bodyS (code := cc) (maxLocals := maxL) (ret := ret) hy ?_ ?_
  · intro args s m h hn
    obtain ⟨m9, meth, c, hn9, h1, h2, h3, h4, -, h5, h6, -⟩ := Cond.codeWith_spec (atoms_spec (ws := ws) h _ (by rw [hw]; exact List.mem_cons_self))
    cases hn.symm.trans hn9
    exact ⟨meth, c, h1, h2, h3, h4, h5, h6⟩
  · intro p e s m args below meth c s₁ B hml hP _
    have hh0 : s₁.heap = s.heap := by rw [B.state]; rfl
    obtain ⟨t, a1, o, b1, b2, b3⟩ := body p e s m args below meth c s₁ B hml hP s₁ hh0 (Stand.of_body B)
    exact ⟨t, o, a1, b1, b2, b3⟩
/-! ===== END ===== -/
end
section
/-! ===== BEGIN printed: names, fields, word lists, decode rows ===== -/
def RX0 : String := "RedcrossGantry$Bookings"
def TX0 : u_T := fun k => match k with
  | 0 => ("RedcrossGantry$Bookings", "lanes", "[I", true)
  | 1 => ("RedcrossGantry$Bookings", "froms", "[I", true)
  | 2 => ("RedcrossGantry$Bookings", "tos", "[I", true)
  | 3 => ("RedcrossGantry$Bookings", "begins", "[I", true)
  | 4 => ("RedcrossGantry$Bookings", "ends", "[I", true)
  | _ => ("RedcrossGantry$Bookings", "count", "I", false)
def tyX0 : Nat → FieldType := fun k => match k with
  | 0 => .array .int
  | 1 => .array .int
  | 2 => .array .int
  | 3 => .array .int
  | 4 => .array .int
  | _ => .int
theorem nmX0 : ∀ a, a < 6 → ∀ b, b < 6 → a ≠ b → (TX0 a).2.1 ≠ (TX0 b).2.1 := by decide +kernel
theorem tyX0_ok : ∀ k, k < 6 → parseFieldDescriptor (TX0 k).2.2.1 = some (tyX0 k) := by decide +kernel
abbrev cX0_init : ByteArray := prog_2_method_1_code
def yX0_init : MethodName := ⟨RX0, "<init>", "()V"⟩
abbrev cX0_isRunning : ByteArray := prog_2_method_2_code
def yX0_isRunning : MethodName := ⟨RX0, "isRunning", "(II)Z"⟩
abbrev cX0_writeNext : ByteArray := prog_2_method_3_code
def yX0_writeNext : MethodName := ⟨RX0, "writeNext", "(IIIII)V"⟩
abbrev cX0_nextTakesLastLane : ByteArray := prog_2_method_4_code
def yX0_nextTakesLastLane : MethodName := ⟨RX0, "nextTakesLastLane", "()Z"⟩
abbrev cX0_tellCrosses : ByteArray := prog_2_method_5_code
def yX0_tellCrosses : MethodName := ⟨RX0, "tellCrosses", "([II)V"⟩
abbrev cX0_tellCrossesOf : ByteArray := prog_2_method_6_code
def yX0_tellCrossesOf : MethodName := ⟨RX0, "tellCrossesOf", "(I[I)V"⟩
abbrev cX0_areInThreeLanes : ByteArray := prog_2_method_7_code
def yX0_areInThreeLanes : MethodName := ⟨RX0, "areInThreeLanes", "(III)Z"⟩
abbrev cX0_doMeet : ByteArray := prog_2_method_8_code
def yX0_doMeet : MethodName := ⟨RX0, "doMeet", "(III)Z"⟩
def RX1 : String := "RedcrossGantry$Detectors"
def TX1 : u_T := fun k => match k with
  | 0 => ("RedcrossGantry$Detectors", "is", "[I", true)
  | _ => ("RedcrossGantry$Detectors", "stuckAt", "[I", true)
def tyX1 : Nat → FieldType := fun k => match k with
  | 0 => .array .int
  | _ => .array .int
theorem nmX1 : ∀ a, a < 2 → ∀ b, b < 2 → a ≠ b → (TX1 a).2.1 ≠ (TX1 b).2.1 := by decide +kernel
theorem tyX1_ok : ∀ k, k < 2 → parseFieldDescriptor (TX1 k).2.2.1 = some (tyX1 k) := by decide +kernel
abbrev cX1_init : ByteArray := prog_3_method_1_code
def yX1_init : MethodName := ⟨RX1, "<init>", "()V"⟩
abbrev cX1_guessAt : ByteArray := prog_3_method_2_code
def yX1_guessAt : MethodName := ⟨RX1, "guessAt", "(ILRedcrossGantry$Traffic;)I"⟩
abbrev cX1_beliefAt : ByteArray := prog_3_method_3_code
def yX1_beliefAt : MethodName := ⟨RX1, "beliefAt", "(ILRedcrossGantry$Traffic;)I"⟩
def RX2 : String := "RedcrossGantry$Incidents"
def TX2 : u_T := fun k => match k with
  | 0 => ("RedcrossGantry$Incidents", "places", "[I", true)
  | 1 => ("RedcrossGantry$Incidents", "how", "[I", true)
  | 2 => ("RedcrossGantry$Incidents", "patrols", "[I", true)
  | _ => ("RedcrossGantry$Incidents", "count", "I", false)
def tyX2 : Nat → FieldType := fun k => match k with
  | 0 => .array .int
  | 1 => .array .int
  | 2 => .array .int
  | _ => .int
theorem nmX2 : ∀ a, a < 4 → ∀ b, b < 4 → a ≠ b → (TX2 a).2.1 ≠ (TX2 b).2.1 := by decide +kernel
theorem tyX2_ok : ∀ k, k < 4 → parseFieldDescriptor (TX2 k).2.2.1 = some (tyX2 k) := by decide +kernel
abbrev cX2_init : ByteArray := prog_4_method_1_code
def yX2_init : MethodName := ⟨RX2, "<init>", "()V"⟩
abbrev cX2_has : ByteArray := prog_4_method_2_code
def yX2_has : MethodName := ⟨RX2, "has", "(I)Z"⟩
abbrev cX2_sectionOf : ByteArray := prog_4_method_3_code
def yX2_sectionOf : MethodName := ⟨RX2, "sectionOf", "(I)I"⟩
abbrev cX2_canAdd : ByteArray := prog_4_method_4_code
def yX2_canAdd : MethodName := ⟨RX2, "canAdd", "(I)Z"⟩
abbrev cX2_add : ByteArray := prog_4_method_5_code
def yX2_add : MethodName := ⟨RX2, "add", "(I)I"⟩
abbrev cX2_tellCrosses : ByteArray := prog_4_method_6_code
def yX2_tellCrosses : MethodName := ⟨RX2, "tellCrosses", "([I)V"⟩
def RX3 : String := "RedcrossGantry$LaneSigns"
def TX3 : u_T := fun k => match k with
  | 0 => ("RedcrossGantry$LaneSigns", "orders", "[I", true)
  | 1 => ("RedcrossGantry$LaneSigns", "told", "[I", true)
  | _ => ("RedcrossGantry$LaneSigns", "shown", "[I", true)
def tyX3 : Nat → FieldType := fun k => match k with
  | 0 => .array .int
  | 1 => .array .int
  | _ => .array .int
theorem nmX3 : ∀ a, a < 3 → ∀ b, b < 3 → a ≠ b → (TX3 a).2.1 ≠ (TX3 b).2.1 := by decide +kernel
theorem tyX3_ok : ∀ k, k < 3 → parseFieldDescriptor (TX3 k).2.2.1 = some (tyX3 k) := by decide +kernel
abbrev cX3_init : ByteArray := prog_5_method_1_code
def yX3_init : MethodName := ⟨RX3, "<init>", "()V"⟩
abbrev cX3_setAnew : ByteArray := prog_5_method_2_code
def yX3_setAnew : MethodName := ⟨RX3, "setAnew", "(ILRedcrossGantry$Shoulder;LRedcrossGantry$Incidents;LRedcrossGantry$Bookings;)V"⟩
abbrev cX3_areLawful : ByteArray := prog_5_method_3_code
def yX3_areLawful : MethodName := ⟨RX3, "areLawful", "()Z"⟩
abbrev cX3_isAheadOfCross : ByteArray := prog_5_method_4_code
def yX3_isAheadOfCross : MethodName := ⟨RX3, "isAheadOfCross", "(I[I)Z"⟩
def RX4 : String := "RedcrossGantry$Patrols"
def TX4 : u_T := fun k => match k with
  | 0 => ("RedcrossGantry$Patrols", "sections", "[I", true)
  | 1 => ("RedcrossGantry$Patrols", "incidents", "[I", true)
  | _ => ("RedcrossGantry$Patrols", "minutesLeft", "[I", true)
def tyX4 : Nat → FieldType := fun k => match k with
  | 0 => .array .int
  | 1 => .array .int
  | _ => .array .int
theorem nmX4 : ∀ a, a < 3 → ∀ b, b < 3 → a ≠ b → (TX4 a).2.1 ≠ (TX4 b).2.1 := by decide +kernel
theorem tyX4_ok : ∀ k, k < 3 → parseFieldDescriptor (TX4 k).2.2.1 = some (tyX4 k) := by decide +kernel
abbrev cX4_init : ByteArray := prog_6_method_1_code
def yX4_init : MethodName := ⟨RX4, "<init>", "()V"⟩
def RX5 : String := "RedcrossGantry$Proofs"
def TX5 : u_T := fun k => match k with
  | _ => ("RedcrossGantry$Proofs", "kept", "[I", true)
def tyX5 : Nat → FieldType := fun k => match k with
  | _ => .array .int
theorem nmX5 : ∀ a, a < 1 → ∀ b, b < 1 → a ≠ b → (TX5 a).2.1 ≠ (TX5 b).2.1 := by decide +kernel
theorem tyX5_ok : ∀ k, k < 1 → parseFieldDescriptor (TX5 k).2.2.1 = some (tyX5 k) := by decide +kernel
abbrev cX5_init : ByteArray := prog_7_method_1_code
def yX5_init : MethodName := ⟨RX5, "<init>", "()V"⟩
abbrev cX5_isKept : ByteArray := prog_7_method_2_code
def yX5_isKept : MethodName := ⟨RX5, "isKept", "(II)Z"⟩
abbrev cX5_keep : ByteArray := prog_7_method_3_code
def yX5_keep : MethodName := ⟨RX5, "keep", "(I[I[I)V"⟩
abbrev cX5_speedSign : ByteArray := prog_7_method_4_code
def yX5_speedSign : MethodName := ⟨RX5, "speedSign", "(II)I"⟩
abbrev cX5_laneSign : ByteArray := prog_7_method_5_code
def yX5_laneSign : MethodName := ⟨RX5, "laneSign", "(III)I"⟩
abbrev cX5_slotOf : ByteArray := prog_7_method_6_code
def yX5_slotOf : MethodName := ⟨RX5, "slotOf", "(II)I"⟩
def RX6 : String := "RedcrossGantry$Shoulder"
def TX6 : u_T := fun k => match k with
  | 0 => ("RedcrossGantry$Shoulder", "open", "[Z", true)
  | _ => ("RedcrossGantry$Shoulder", "foundClearAt", "[I", true)
def tyX6 : Nat → FieldType := fun k => match k with
  | 0 => .array .boolean
  | _ => .array .int
theorem nmX6 : ∀ a, a < 2 → ∀ b, b < 2 → a ≠ b → (TX6 a).2.1 ≠ (TX6 b).2.1 := by decide +kernel
theorem tyX6_ok : ∀ k, k < 2 → parseFieldDescriptor (TX6 k).2.2.1 = some (tyX6 k) := by decide +kernel
abbrev cX6_init : ByteArray := prog_8_method_1_code
def yX6_init : MethodName := ⟨RX6, "<init>", "()V"⟩
abbrev cX6_isOpenAt : ByteArray := prog_8_method_2_code
def yX6_isOpenAt : MethodName := ⟨RX6, "isOpenAt", "(I)Z"⟩
abbrev cX6_canOpen : ByteArray := prog_8_method_3_code
def yX6_canOpen : MethodName := ⟨RX6, "canOpen", "(III)Z"⟩
abbrev cX6_openAll : ByteArray := prog_8_method_4_code
def yX6_openAll : MethodName := ⟨RX6, "openAll", "(II)I"⟩
abbrev cX6_shutAll : ByteArray := prog_8_method_5_code
def yX6_shutAll : MethodName := ⟨RX6, "shutAll", "()I"⟩
abbrev cX6_tellCrosses : ByteArray := prog_8_method_6_code
def yX6_tellCrosses : MethodName := ⟨RX6, "tellCrosses", "([I)V"⟩
def RX7 : String := "RedcrossGantry$SpeedSigns"
def TX7 : u_T := fun k => match k with
  | 0 => ("RedcrossGantry$SpeedSigns", "limits", "[I", true)
  | 1 => ("RedcrossGantry$SpeedSigns", "shown", "[I", true)
  | 2 => ("RedcrossGantry$SpeedSigns", "loweredAt", "[I", true)
  | _ => ("RedcrossGantry$SpeedSigns", "weather", "I", false)
def tyX7 : Nat → FieldType := fun k => match k with
  | 0 => .array .int
  | 1 => .array .int
  | 2 => .array .int
  | _ => .int
theorem nmX7 : ∀ a, a < 4 → ∀ b, b < 4 → a ≠ b → (TX7 a).2.1 ≠ (TX7 b).2.1 := by decide +kernel
theorem tyX7_ok : ∀ k, k < 4 → parseFieldDescriptor (TX7 k).2.2.1 = some (tyX7 k) := by decide +kernel
abbrev cX7_init : ByteArray := prog_9_method_1_code
def yX7_init : MethodName := ⟨RX7, "<init>", "()V"⟩
abbrev cX7_setAnew : ByteArray := prog_9_method_2_code
def yX7_setAnew : MethodName := ⟨RX7, "setAnew", "(ILRedcrossGantry$Detectors;LRedcrossGantry$Traffic;)V"⟩
abbrev cX7_areLawful : ByteArray := prog_9_method_3_code
def yX7_areLawful : MethodName := ⟨RX7, "areLawful", "()Z"⟩
abbrev cX7_wantAt : ByteArray := prog_9_method_4_code
def yX7_wantAt : MethodName := ⟨RX7, "wantAt", "(II)I"⟩
abbrev cX7_wantBy : ByteArray := prog_9_method_5_code
def yX7_wantBy : MethodName := ⟨RX7, "wantBy", "(I)I"⟩
abbrev cX7_staysBelow : ByteArray := prog_9_method_6_code
def yX7_staysBelow : MethodName := ⟨RX7, "staysBelow", "(III)Z"⟩
def RX8 : String := "RedcrossGantry$Traffic"
def TX8 : u_T := fun k => match k with
  | 0 => ("RedcrossGantry$Traffic", "held", "[I", true)
  | 1 => ("RedcrossGantry$Traffic", "stopped", "[Z", true)
  | 2 => ("RedcrossGantry$Traffic", "broken", "[Z", true)
  | 3 => ("RedcrossGantry$Traffic", "demand", "I", false)
  | 4 => ("RedcrossGantry$Traffic", "came", "I", false)
  | 5 => ("RedcrossGantry$Traffic", "waiting", "I", false)
  | _ => ("RedcrossGantry$Traffic", "gone", "I", false)
def tyX8 : Nat → FieldType := fun k => match k with
  | 0 => .array .int
  | 1 => .array .boolean
  | 2 => .array .boolean
  | 3 => .int
  | 4 => .int
  | 5 => .int
  | _ => .int
theorem nmX8 : ∀ a, a < 7 → ∀ b, b < 7 → a ≠ b → (TX8 a).2.1 ≠ (TX8 b).2.1 := by decide +kernel
theorem tyX8_ok : ∀ k, k < 7 → parseFieldDescriptor (TX8 k).2.2.1 = some (tyX8 k) := by decide +kernel
abbrev cX8_init : ByteArray := prog_10_method_1_code
def yX8_init : MethodName := ⟨RX8, "<init>", "()V"⟩
abbrev cX8_mostIn : ByteArray := prog_10_method_2_code
def yX8_mostIn : MethodName := ⟨RX8, "mostIn", "(I)I"⟩
abbrev cX8_speedAt : ByteArray := prog_10_method_3_code
def yX8_speedAt : MethodName := ⟨RX8, "speedAt", "(I)I"⟩
abbrev cX8_countOnRoad : ByteArray := prog_10_method_4_code
def yX8_countOnRoad : MethodName := ⟨RX8, "countOnRoad", "()I"⟩
abbrev cX8_isStoppedAt : ByteArray := prog_10_method_5_code
def yX8_isStoppedAt : MethodName := ⟨RX8, "isStoppedAt", "(I)Z"⟩
abbrev cX8_isClear : ByteArray := prog_10_method_6_code
def yX8_isClear : MethodName := ⟨RX8, "isClear", "(I)Z"⟩
abbrev cX8_clearStopped : ByteArray := prog_10_method_7_code
def yX8_clearStopped : MethodName := ⟨RX8, "clearStopped", "(I)V"⟩
abbrev cX8_goOn : ByteArray := prog_10_method_8_code
def yX8_goOn : MethodName := ⟨RX8, "goOn", "([I)V"⟩
abbrev cX8_arrive : ByteArray := prog_10_method_9_code
def yX8_arrive : MethodName := ⟨RX8, "arrive", "([I)V"⟩
abbrev cX8_judgeBroken : ByteArray := prog_10_method_10_code
def yX8_judgeBroken : MethodName := ⟨RX8, "judgeBroken", "()V"⟩
abbrev cX8_goOnFrom : ByteArray := prog_10_method_11_code
def yX8_goOnFrom : MethodName := ⟨RX8, "goOnFrom", "(II[I)V"⟩
abbrev cX8_mostThatGoOn : ByteArray := prog_10_method_12_code
def yX8_mostThatGoOn : MethodName := ⟨RX8, "mostThatGoOn", "(II)I"⟩
abbrev cX8_placeAhead : ByteArray := prog_10_method_13_code
def yX8_placeAhead : MethodName := ⟨RX8, "placeAhead", "(II[I)I"⟩
abbrev cX8_laneToEnter : ByteArray := prog_10_method_14_code
def yX8_laneToEnter : MethodName := ⟨RX8, "laneToEnter", "([I)I"⟩
abbrev cX8_letsIn : ByteArray := prog_10_method_15_code
def yX8_letsIn : MethodName := ⟨RX8, "letsIn", "(I[I)Z"⟩
abbrev cX8_heldAt : ByteArray := prog_10_method_16_code
def yX8_heldAt : MethodName := ⟨RX8, "heldAt", "(I)I"⟩
def RX9 : String := "RedcrossGantry"
def TX9 : u_T := fun k => match k with
  | 0 => ("RedcrossGantry", "minute", "I", false)
  | 1 => ("RedcrossGantry", "traffic", "LRedcrossGantry$Traffic;", true)
  | 2 => ("RedcrossGantry", "detectors", "LRedcrossGantry$Detectors;", true)
  | 3 => ("RedcrossGantry", "speedSigns", "LRedcrossGantry$SpeedSigns;", true)
  | 4 => ("RedcrossGantry", "laneSigns", "LRedcrossGantry$LaneSigns;", true)
  | 5 => ("RedcrossGantry", "shoulder", "LRedcrossGantry$Shoulder;", true)
  | 6 => ("RedcrossGantry", "incidents", "LRedcrossGantry$Incidents;", true)
  | 7 => ("RedcrossGantry", "patrols", "LRedcrossGantry$Patrols;", true)
  | 8 => ("RedcrossGantry", "bookings", "LRedcrossGantry$Bookings;", true)
  | _ => ("RedcrossGantry", "proofs", "LRedcrossGantry$Proofs;", true)
def tyX9 : Nat → FieldType := fun k => match k with
  | 0 => .int
  | 1 => .object "RedcrossGantry$Traffic"
  | 2 => .object "RedcrossGantry$Detectors"
  | 3 => .object "RedcrossGantry$SpeedSigns"
  | 4 => .object "RedcrossGantry$LaneSigns"
  | 5 => .object "RedcrossGantry$Shoulder"
  | 6 => .object "RedcrossGantry$Incidents"
  | 7 => .object "RedcrossGantry$Patrols"
  | 8 => .object "RedcrossGantry$Bookings"
  | _ => .object "RedcrossGantry$Proofs"
theorem nmX9 : ∀ a, a < 10 → ∀ b, b < 10 → a ≠ b → (TX9 a).2.1 ≠ (TX9 b).2.1 := by decide +kernel
theorem tyX9_ok : ∀ k, k < 10 → parseFieldDescriptor (TX9 k).2.2.1 = some (tyX9 k) := by decide +kernel
abbrev cX9_init : ByteArray := prog_1_method_1_code
def yX9_init : MethodName := ⟨RX9, "<init>", "()V"⟩
abbrev cX9_demand : ByteArray := prog_1_method_2_code
def yX9_demand : MethodName := ⟨RX9, "demand", "(I)I"⟩
abbrev cX9_pass : ByteArray := prog_1_method_3_code
def yX9_pass : MethodName := ⟨RX9, "pass", "(I)I"⟩
abbrev cX9_holds : ByteArray := prog_1_method_4_code
def yX9_holds : MethodName := ⟨RX9, "holds", "(II)I"⟩
abbrev cX9_vehicles : ByteArray := prog_1_method_5_code
def yX9_vehicles : MethodName := ⟨RX9, "vehicles", "(I)I"⟩
abbrev cX9_section : ByteArray := prog_1_method_6_code
def yX9_section : MethodName := ⟨RX9, "section", "(II)I"⟩
abbrev cX9_detector : ByteArray := prog_1_method_7_code
def yX9_detector : MethodName := ⟨RX9, "detector", "(III)I"⟩
abbrev cX9_weather : ByteArray := prog_1_method_8_code
def yX9_weather : MethodName := ⟨RX9, "weather", "(I)I"⟩
abbrev cX9_limit : ByteArray := prog_1_method_9_code
def yX9_limit : MethodName := ⟨RX9, "limit", "(II)I"⟩
abbrev cX9_order : ByteArray := prog_1_method_10_code
def yX9_order : MethodName := ⟨RX9, "order", "(III)I"⟩
abbrev cX9_sign : ByteArray := prog_1_method_11_code
def yX9_sign : MethodName := ⟨RX9, "sign", "(II)I"⟩
abbrev cX9_isLawful : ByteArray := prog_1_method_12_code
def yX9_isLawful : MethodName := ⟨RX9, "isLawful", "()Z"⟩
abbrev cX9_look : ByteArray := prog_1_method_13_code
def yX9_look : MethodName := ⟨RX9, "look", "(I)Z"⟩
abbrev cX9_openShoulder : ByteArray := prog_1_method_14_code
def yX9_openShoulder : MethodName := ⟨RX9, "openShoulder", "(II)I"⟩
abbrev cX9_shutShoulder : ByteArray := prog_1_method_15_code
def yX9_shutShoulder : MethodName := ⟨RX9, "shutShoulder", "()I"⟩
abbrev cX9_stop : ByteArray := prog_1_method_16_code
def yX9_stop : MethodName := ⟨RX9, "stop", "(II)V"⟩
abbrev cX9_report : ByteArray := prog_1_method_17_code
def yX9_report : MethodName := ⟨RX9, "report", "(II)I"⟩
abbrev cX9_confirm : ByteArray := prog_1_method_18_code
def yX9_confirm : MethodName := ⟨RX9, "confirm", "(I)I"⟩
abbrev cX9_incident : ByteArray := prog_1_method_19_code
def yX9_incident : MethodName := ⟨RX9, "incident", "(II)I"⟩
abbrev cX9_pattern : ByteArray := prog_1_method_20_code
def yX9_pattern : MethodName := ⟨RX9, "pattern", "()I"⟩
abbrev cX9_way : ByteArray := prog_1_method_21_code
def yX9_way : MethodName := ⟨RX9, "way", "(II)I"⟩
abbrev cX9_send : ByteArray := prog_1_method_22_code
def yX9_send : MethodName := ⟨RX9, "send", "(II)I"⟩
abbrev cX9_patrol : ByteArray := prog_1_method_23_code
def yX9_patrol : MethodName := ⟨RX9, "patrol", "(II)I"⟩
abbrev cX9_works : ByteArray := prog_1_method_24_code
def yX9_works : MethodName := ⟨RX9, "works", "(IIIII)I"⟩
abbrev cX9_isOn : ByteArray := prog_1_method_25_code
def yX9_isOn : MethodName := ⟨RX9, "isOn", "(I)Z"⟩
abbrev cX9_proof : ByteArray := prog_1_method_26_code
def yX9_proof : MethodName := ⟨RX9, "proof", "(III)I"⟩
abbrev cX9_isFined : ByteArray := prog_1_method_27_code
def yX9_isFined : MethodName := ⟨RX9, "isFined", "(III)Z"⟩
abbrev cX9_isWithin : ByteArray := prog_1_method_28_code
def yX9_isWithin : MethodName := ⟨RX9, "isWithin", "(III)Z"⟩
abbrev cX9_isSpeedSign : ByteArray := prog_1_method_29_code
def yX9_isSpeedSign : MethodName := ⟨RX9, "isSpeedSign", "(I)Z"⟩
abbrev cX9_placeOf : ByteArray := prog_1_method_30_code
def yX9_placeOf : MethodName := ⟨RX9, "placeOf", "(II)I"⟩
abbrev cX9_needIndex : ByteArray := prog_1_method_31_code
def yX9_needIndex : MethodName := ⟨RX9, "needIndex", "(Z)V"⟩
abbrev cX9_needArgument : ByteArray := prog_1_method_32_code
def yX9_needArgument : MethodName := ⟨RX9, "needArgument", "(Z)V"⟩
abbrev cX9_needState : ByteArray := prog_1_method_33_code
def yX9_needState : MethodName := ⟨RX9, "needState", "(Z)V"⟩
abbrev cX9_needSection : ByteArray := prog_1_method_34_code
def yX9_needSection : MethodName := ⟨RX9, "needSection", "(I)V"⟩
abbrev cX9_needPlace : ByteArray := prog_1_method_35_code
def yX9_needPlace : MethodName := ⟨RX9, "needPlace", "(II)V"⟩
abbrev cX9_needPatrol : ByteArray := prog_1_method_36_code
def yX9_needPatrol : MethodName := ⟨RX9, "needPatrol", "(I)V"⟩
abbrev cX9_comeToNextMinute : ByteArray := prog_1_method_37_code
def yX9_comeToNextMinute : MethodName := ⟨RX9, "comeToNextMinute", "()V"⟩
abbrev cX9_setLaneSigns : ByteArray := prog_1_method_38_code
def yX9_setLaneSigns : MethodName := ⟨RX9, "setLaneSigns", "()V"⟩
abbrev cX9_movePatrols : ByteArray := prog_1_method_39_code
def yX9_movePatrols : MethodName := ⟨RX9, "movePatrols", "()V"⟩
abbrev cX9_endWorkOf : ByteArray := prog_1_method_40_code
def yX9_endWorkOf : MethodName := ⟨RX9, "endWorkOf", "(I)V"⟩
abbrev cX9_wayBetween : ByteArray := prog_1_method_41_code
def yX9_wayBetween : MethodName := ⟨RX9, "wayBetween", "(II)I"⟩
abbrev cX9_minutesThrough : ByteArray := prog_1_method_42_code
def yX9_minutesThrough : MethodName := ⟨RX9, "minutesThrough", "(I)I"⟩
def RX10 : String := "RedcrossGantryModel"
def TX10 : u_T := fun k => match k with
  | 0 => ("RedcrossGantryModel", "thrown", "I", false)
  | 1 => ("RedcrossGantryModel", "now", "I", false)
  | 2 => ("RedcrossGantryModel", "demand", "I", false)
  | 3 => ("RedcrossGantryModel", "came", "I", false)
  | 4 => ("RedcrossGantryModel", "waiting", "I", false)
  | 5 => ("RedcrossGantryModel", "gone", "I", false)
  | 6 => ("RedcrossGantryModel", "holding", "[I", true)
  | 7 => ("RedcrossGantryModel", "isStopped", "[Z", true)
  | 8 => ("RedcrossGantryModel", "ordered", "[I", true)
  | 9 => ("RedcrossGantryModel", "isBroken", "[Z", true)
  | 10 => ("RedcrossGantryModel", "isOpen", "[Z", true)
  | 11 => ("RedcrossGantryModel", "looked", "[I", true)
  | 12 => ("RedcrossGantryModel", "wasClear", "[Z", true)
  | 13 => ("RedcrossGantryModel", "detects", "[I", true)
  | 14 => ("RedcrossGantryModel", "stuckAt", "[I", true)
  | 15 => ("RedcrossGantryModel", "limited", "[I", true)
  | 16 => ("RedcrossGantryModel", "speedSign", "[I", true)
  | 17 => ("RedcrossGantryModel", "lowered", "[I", true)
  | 18 => ("RedcrossGantryModel", "weather", "I", false)
  | 19 => ("RedcrossGantryModel", "incidents", "I", false)
  | 20 => ("RedcrossGantryModel", "placed", "[I", true)
  | 21 => ("RedcrossGantryModel", "state", "[I", true)
  | 22 => ("RedcrossGantryModel", "at", "[I", true)
  | 23 => ("RedcrossGantryModel", "sentTo", "[I", true)
  | 24 => ("RedcrossGantryModel", "left", "[I", true)
  | 25 => ("RedcrossGantryModel", "works", "I", false)
  | 26 => ("RedcrossGantryModel", "worksLane", "[I", true)
  | 27 => ("RedcrossGantryModel", "worksFrom", "[I", true)
  | 28 => ("RedcrossGantryModel", "worksTo", "[I", true)
  | 29 => ("RedcrossGantryModel", "worksBegin", "[I", true)
  | 30 => ("RedcrossGantryModel", "worksEnd", "[I", true)
  | _ => ("RedcrossGantryModel", "proofs", "[I", true)
def tyX10 : Nat → FieldType := fun k => match k with
  | 0 => .int
  | 1 => .int
  | 2 => .int
  | 3 => .int
  | 4 => .int
  | 5 => .int
  | 6 => .array .int
  | 7 => .array .boolean
  | 8 => .array .int
  | 9 => .array .boolean
  | 10 => .array .boolean
  | 11 => .array .int
  | 12 => .array .boolean
  | 13 => .array .int
  | 14 => .array .int
  | 15 => .array .int
  | 16 => .array .int
  | 17 => .array .int
  | 18 => .int
  | 19 => .int
  | 20 => .array .int
  | 21 => .array .int
  | 22 => .array .int
  | 23 => .array .int
  | 24 => .array .int
  | 25 => .int
  | 26 => .array .int
  | 27 => .array .int
  | 28 => .array .int
  | 29 => .array .int
  | 30 => .array .int
  | _ => .array .int
theorem nmX10 : ∀ a, a < 32 → ∀ b, b < 32 → a ≠ b → (TX10 a).2.1 ≠ (TX10 b).2.1 := by decide +kernel
theorem tyX10_ok : ∀ k, k < 32 → parseFieldDescriptor (TX10 k).2.2.1 = some (tyX10 k) := by decide +kernel
abbrev cX10_init : ByteArray := prog_12_method_1_code
def yX10_init : MethodName := ⟨RX10, "<init>", "()V"⟩
abbrev cX10_thrown : ByteArray := prog_12_method_2_code
def yX10_thrown : MethodName := ⟨RX10, "thrown", "()I"⟩
abbrev cX10_holds : ByteArray := prog_12_method_3_code
def yX10_holds : MethodName := ⟨RX10, "holds", "(I)Z"⟩
abbrev cX10_isIn : ByteArray := prog_12_method_4_code
def yX10_isIn : MethodName := ⟨RX10, "isIn", "(III)Z"⟩
abbrev cX10_isSection : ByteArray := prog_12_method_5_code
def yX10_isSection : MethodName := ⟨RX10, "isSection", "(I)Z"⟩
abbrev cX10_isPlace : ByteArray := prog_12_method_6_code
def yX10_isPlace : MethodName := ⟨RX10, "isPlace", "(II)Z"⟩
abbrev cX10_isOnNow : ByteArray := prog_12_method_7_code
def yX10_isOnNow : MethodName := ⟨RX10, "isOnNow", "(I)Z"⟩
abbrev cX10_areWorksAt : ByteArray := prog_12_method_8_code
def yX10_areWorksAt : MethodName := ⟨RX10, "areWorksAt", "(II)Z"⟩
abbrev cX10_isConfirmedAt : ByteArray := prog_12_method_9_code
def yX10_isConfirmedAt : MethodName := ⟨RX10, "isConfirmedAt", "(I)Z"⟩
abbrev cX10_told : ByteArray := prog_12_method_10_code
def yX10_told : MethodName := ⟨RX10, "told", "(II)I"⟩
abbrev cX10_signOf : ByteArray := prog_12_method_11_code
def yX10_signOf : MethodName := ⟨RX10, "signOf", "(II)I"⟩
abbrev cX10_keeps : ByteArray := prog_12_method_12_code
def yX10_keeps : MethodName := ⟨RX10, "keeps", "()V"⟩
abbrev cX10_patrols : ByteArray := prog_12_method_13_code
def yX10_patrols : MethodName := ⟨RX10, "patrols", "()V"⟩
abbrev cX10_letsIn : ByteArray := prog_12_method_14_code
def yX10_letsIn : MethodName := ⟨RX10, "letsIn", "(II)Z"⟩
abbrev cX10_goesTo : ByteArray := prog_12_method_15_code
def yX10_goesTo : MethodName := ⟨RX10, "goesTo", "(II)I"⟩
abbrev cX10_goes : ByteArray := prog_12_method_16_code
def yX10_goes : MethodName := ⟨RX10, "goes", "(II)V"⟩
abbrev cX10_comes : ByteArray := prog_12_method_17_code
def yX10_comes : MethodName := ⟨RX10, "comes", "()V"⟩
abbrev cX10_mostOf : ByteArray := prog_12_method_18_code
def yX10_mostOf : MethodName := ⟨RX10, "mostOf", "(I)I"⟩
abbrev cX10_speedOf : ByteArray := prog_12_method_19_code
def yX10_speedOf : MethodName := ⟨RX10, "speedOf", "(I)I"⟩
abbrev cX10_guessOf : ByteArray := prog_12_method_20_code
def yX10_guessOf : MethodName := ⟨RX10, "guessOf", "(I)I"⟩
abbrev cX10_beliefOf : ByteArray := prog_12_method_21_code
def yX10_beliefOf : MethodName := ⟨RX10, "beliefOf", "(I)I"⟩
abbrev cX10_wantOf : ByteArray := prog_12_method_22_code
def yX10_wantOf : MethodName := ⟨RX10, "wantOf", "(I)I"⟩
abbrev cX10_setsSpeeds : ByteArray := prog_12_method_23_code
def yX10_setsSpeeds : MethodName := ⟨RX10, "setsSpeeds", "()V"⟩
abbrev cX10_minute : ByteArray := prog_12_method_24_code
def yX10_minute : MethodName := ⟨RX10, "minute", "()V"⟩
abbrev cX10_demand : ByteArray := prog_12_method_25_code
def yX10_demand : MethodName := ⟨RX10, "demand", "(I)I"⟩
abbrev cX10_pass : ByteArray := prog_12_method_26_code
def yX10_pass : MethodName := ⟨RX10, "pass", "(I)I"⟩
abbrev cX10_holds_ : ByteArray := prog_12_method_27_code
def yX10_holds_ : MethodName := ⟨RX10, "holds", "(II)I"⟩
abbrev cX10_vehicles : ByteArray := prog_12_method_28_code
def yX10_vehicles : MethodName := ⟨RX10, "vehicles", "(I)I"⟩
abbrev cX10_section : ByteArray := prog_12_method_29_code
def yX10_section : MethodName := ⟨RX10, "section", "(II)I"⟩
abbrev cX10_detector : ByteArray := prog_12_method_30_code
def yX10_detector : MethodName := ⟨RX10, "detector", "(III)I"⟩
abbrev cX10_weather : ByteArray := prog_12_method_31_code
def yX10_weather : MethodName := ⟨RX10, "weather", "(I)I"⟩
abbrev cX10_limit : ByteArray := prog_12_method_32_code
def yX10_limit : MethodName := ⟨RX10, "limit", "(II)I"⟩
abbrev cX10_order : ByteArray := prog_12_method_33_code
def yX10_order : MethodName := ⟨RX10, "order", "(III)I"⟩
abbrev cX10_sign : ByteArray := prog_12_method_34_code
def yX10_sign : MethodName := ⟨RX10, "sign", "(II)I"⟩
abbrev cX10_isLawful : ByteArray := prog_12_method_35_code
def yX10_isLawful : MethodName := ⟨RX10, "isLawful", "()Z"⟩
abbrev cX10_look : ByteArray := prog_12_method_36_code
def yX10_look : MethodName := ⟨RX10, "look", "(I)Z"⟩
abbrev cX10_canOpen : ByteArray := prog_12_method_37_code
def yX10_canOpen : MethodName := ⟨RX10, "canOpen", "(II)Z"⟩
abbrev cX10_openShoulder : ByteArray := prog_12_method_38_code
def yX10_openShoulder : MethodName := ⟨RX10, "openShoulder", "(II)I"⟩
abbrev cX10_shuts : ByteArray := prog_12_method_39_code
def yX10_shuts : MethodName := ⟨RX10, "shuts", "()I"⟩
abbrev cX10_shutShoulder : ByteArray := prog_12_method_40_code
def yX10_shutShoulder : MethodName := ⟨RX10, "shutShoulder", "()I"⟩
abbrev cX10_stop : ByteArray := prog_12_method_41_code
def yX10_stop : MethodName := ⟨RX10, "stop", "(II)V"⟩
abbrev cX10_isReportedAt : ByteArray := prog_12_method_42_code
def yX10_isReportedAt : MethodName := ⟨RX10, "isReportedAt", "(I)Z"⟩
abbrev cX10_report : ByteArray := prog_12_method_43_code
def yX10_report : MethodName := ⟨RX10, "report", "(II)I"⟩
abbrev cX10_isIncident : ByteArray := prog_12_method_44_code
def yX10_isIncident : MethodName := ⟨RX10, "isIncident", "(I)Z"⟩
abbrev cX10_confirm : ByteArray := prog_12_method_45_code
def yX10_confirm : MethodName := ⟨RX10, "confirm", "(I)I"⟩
abbrev cX10_patrolOf : ByteArray := prog_12_method_46_code
def yX10_patrolOf : MethodName := ⟨RX10, "patrolOf", "(I)I"⟩
abbrev cX10_incident : ByteArray := prog_12_method_47_code
def yX10_incident : MethodName := ⟨RX10, "incident", "(II)I"⟩
abbrev cX10_pattern : ByteArray := prog_12_method_48_code
def yX10_pattern : MethodName := ⟨RX10, "pattern", "()I"⟩
abbrev cX10_isPatrol : ByteArray := prog_12_method_49_code
def yX10_isPatrol : MethodName := ⟨RX10, "isPatrol", "(I)Z"⟩
abbrev cX10_wayOf : ByteArray := prog_12_method_50_code
def yX10_wayOf : MethodName := ⟨RX10, "wayOf", "(II)I"⟩
abbrev cX10_way : ByteArray := prog_12_method_51_code
def yX10_way : MethodName := ⟨RX10, "way", "(II)I"⟩
abbrev cX10_send : ByteArray := prog_12_method_52_code
def yX10_send : MethodName := ⟨RX10, "send", "(II)I"⟩
abbrev cX10_patrol : ByteArray := prog_12_method_53_code
def yX10_patrol : MethodName := ⟨RX10, "patrol", "(II)I"⟩
abbrev cX10_areBooked : ByteArray := prog_12_method_54_code
def yX10_areBooked : MethodName := ⟨RX10, "areBooked", "(III)Z"⟩
abbrev cX10_areTooMany : ByteArray := prog_12_method_55_code
def yX10_areTooMany : MethodName := ⟨RX10, "areTooMany", "(IIIII)Z"⟩
abbrev cX10_works : ByteArray := prog_12_method_56_code
def yX10_works : MethodName := ⟨RX10, "works", "(IIIII)I"⟩
abbrev cX10_isOn : ByteArray := prog_12_method_57_code
def yX10_isOn : MethodName := ⟨RX10, "isOn", "(I)Z"⟩
abbrev cX10_isKept : ByteArray := prog_12_method_58_code
def yX10_isKept : MethodName := ⟨RX10, "isKept", "(I)Z"⟩
abbrev cX10_proofOf : ByteArray := prog_12_method_59_code
def yX10_proofOf : MethodName := ⟨RX10, "proofOf", "(III)I"⟩
abbrev cX10_proof : ByteArray := prog_12_method_60_code
def yX10_proof : MethodName := ⟨RX10, "proof", "(III)I"⟩
abbrev cX10_isFined : ByteArray := prog_12_method_61_code
def yX10_isFined : MethodName := ⟨RX10, "isFined", "(III)Z"⟩
def RJ9 : String := "java/lang/Math"
def TJ9 : u_T := fun k => match k with
  | _ => ("", "", "", false)
def tyJ9 : Nat → FieldType := fun k => match k with
  | _ => .int
theorem nmJ9 : ∀ a, a < 0 → ∀ b, b < 0 → a ≠ b → (TJ9 a).2.1 ≠ (TJ9 b).2.1 := by decide +kernel
theorem tyJ9_ok : ∀ k, k < 0 → parseFieldDescriptor (TJ9 k).2.2.1 = some (tyJ9 k) := by decide +kernel
abbrev cJ9_floorMod_7cf53 : ByteArray := prog_17_method_50_code
def yJ9_floorMod_7cf53 : MethodName := ⟨RJ9, "floorMod", "(II)I"⟩
abbrev cJ9_abs_0f7a4 : ByteArray := prog_17_method_59_code
def yJ9_abs_0f7a4 : MethodName := ⟨RJ9, "abs", "(I)I"⟩
abbrev cJ9_max_7cf53 : ByteArray := prog_17_method_65_code
def yJ9_max_7cf53 : MethodName := ⟨RJ9, "max", "(II)I"⟩
abbrev cJ9_min_7cf53 : ByteArray := prog_17_method_69_code
def yJ9_min_7cf53 : MethodName := ⟨RJ9, "min", "(II)I"⟩
def RJ0 : String := "java/lang/String"
def TJ0 : u_T := fun k => match k with
  | _ => ("", "", "", false)
def tyJ0 : Nat → FieldType := fun k => match k with
  | _ => .int
theorem nmJ0 : ∀ a, a < 0 → ∀ b, b < 0 → a ≠ b → (TJ0 a).2.1 ≠ (TJ0 b).2.1 := by decide +kernel
theorem tyJ0_ok : ∀ k, k < 0 → parseFieldDescriptor (TJ0 k).2.2.1 = some (tyJ0 k) := by decide +kernel
def RL : String := "RedcrossGantryLaw"
abbrev cL_demand : ByteArray := method_3_code
def yL_demand : MethodName := ⟨RL, "demand", "(LRedcrossGantry;I[J)I"⟩
abbrev cL_pass : ByteArray := method_4_code
def yL_pass : MethodName := ⟨RL, "pass", "(LRedcrossGantry;I[J)I"⟩
abbrev cL_holds : ByteArray := method_5_code
def yL_holds : MethodName := ⟨RL, "holds", "(LRedcrossGantry;II[J)I"⟩
abbrev cL_vehicles : ByteArray := method_6_code
def yL_vehicles : MethodName := ⟨RL, "vehicles", "(LRedcrossGantry;I[J)I"⟩
abbrev cL_section : ByteArray := method_7_code
def yL_section : MethodName := ⟨RL, "section", "(LRedcrossGantry;II[J)I"⟩
abbrev cL_detector : ByteArray := method_8_code
def yL_detector : MethodName := ⟨RL, "detector", "(LRedcrossGantry;III[J)I"⟩
abbrev cL_weather : ByteArray := method_9_code
def yL_weather : MethodName := ⟨RL, "weather", "(LRedcrossGantry;I[J)I"⟩
abbrev cL_limit : ByteArray := method_10_code
def yL_limit : MethodName := ⟨RL, "limit", "(LRedcrossGantry;II[J)I"⟩
abbrev cL_order : ByteArray := method_11_code
def yL_order : MethodName := ⟨RL, "order", "(LRedcrossGantry;III[J)I"⟩
abbrev cL_sign : ByteArray := method_12_code
def yL_sign : MethodName := ⟨RL, "sign", "(LRedcrossGantry;II[J)I"⟩
abbrev cL_look : ByteArray := method_13_code
def yL_look : MethodName := ⟨RL, "look", "(LRedcrossGantry;I[J)I"⟩
abbrev cL_openShoulder : ByteArray := method_14_code
def yL_openShoulder : MethodName := ⟨RL, "openShoulder", "(LRedcrossGantry;II[J)I"⟩
abbrev cL_stop : ByteArray := method_15_code
def yL_stop : MethodName := ⟨RL, "stop", "(LRedcrossGantry;II)I"⟩
abbrev cL_report : ByteArray := method_16_code
def yL_report : MethodName := ⟨RL, "report", "(LRedcrossGantry;II[J)I"⟩
abbrev cL_confirm : ByteArray := method_17_code
def yL_confirm : MethodName := ⟨RL, "confirm", "(LRedcrossGantry;I[J)I"⟩
abbrev cL_incident : ByteArray := method_18_code
def yL_incident : MethodName := ⟨RL, "incident", "(LRedcrossGantry;II[J)I"⟩
abbrev cL_way : ByteArray := method_19_code
def yL_way : MethodName := ⟨RL, "way", "(LRedcrossGantry;II[J)I"⟩
abbrev cL_send : ByteArray := method_20_code
def yL_send : MethodName := ⟨RL, "send", "(LRedcrossGantry;II[J)I"⟩
abbrev cL_patrol : ByteArray := method_21_code
def yL_patrol : MethodName := ⟨RL, "patrol", "(LRedcrossGantry;II[J)I"⟩
abbrev cL_works : ByteArray := method_22_code
def yL_works : MethodName := ⟨RL, "works", "(LRedcrossGantry;IIIII[J)I"⟩
abbrev cL_isOn : ByteArray := method_23_code
def yL_isOn : MethodName := ⟨RL, "isOn", "(LRedcrossGantry;I[J)I"⟩
abbrev cL_proof : ByteArray := method_24_code
def yL_proof : MethodName := ⟨RL, "proof", "(LRedcrossGantry;III[J)I"⟩
abbrev cL_isFined : ByteArray := method_25_code
def yL_isFined : MethodName := ⟨RL, "isFined", "(LRedcrossGantry;III[J)I"⟩
abbrev cL_law : ByteArray := code
def yL_law : MethodName := ⟨RL, "law", "([I)Z"⟩
abbrev vwCl : List vw_C := [(RX0, TX0, 6), (RX1, TX1, 2), (RX2, TX2, 4), (RX3, TX3, 3), (RX4, TX4, 3), (RX5, TX5, 1), (RX6, TX6, 2), (RX7, TX7, 4), (RX8, TX8, 7), (RX9, TX9, 10), (RX10, TX10, 32)]
theorem at_ioobe : ∀ w ∈ (vx_atS RX9 262 "java/lang/IndexOutOfBoundsException" ["java/lang/RuntimeException", "java/lang/Exception"]).filter goodWord, w ∈ Wall := by
  intro w hw
  have h1 : ∀ w ∈ (vx_atS RX9 262 "java/lang/IndexOutOfBoundsException" ["java/lang/RuntimeException", "java/lang/Exception"]).filter goodWord, w ∈ lw_tbl := by decide +kernel
  exact List.mem_filter.mpr ⟨h1 w hw, (List.mem_filter.mp hw).2⟩
theorem at_iae : ∀ w ∈ (vx_atS RX9 269 "java/lang/IllegalArgumentException" ["java/lang/RuntimeException", "java/lang/Exception"]).filter goodWord, w ∈ Wall := by
  intro w hw
  have h1 : ∀ w ∈ (vx_atS RX9 269 "java/lang/IllegalArgumentException" ["java/lang/RuntimeException", "java/lang/Exception"]).filter goodWord, w ∈ lw_tbl := by decide +kernel
  exact List.mem_filter.mpr ⟨h1 w hw, (List.mem_filter.mp hw).2⟩
theorem at_ise : ∀ w ∈ (vx_atS RX9 274 "java/lang/IllegalStateException" ["java/lang/RuntimeException", "java/lang/Exception"]).filter goodWord, w ∈ Wall := by
  intro w hw
  have h1 : ∀ w ∈ (vx_atS RX9 274 "java/lang/IllegalStateException" ["java/lang/RuntimeException", "java/lang/Exception"]).filter goodWord, w ∈ lw_tbl := by decide +kernel
  exact List.mem_filter.mpr ⟨h1 w hw, (List.mem_filter.mp hw).2⟩
theorem iX0 : ∀ w ∈ u_ws RX0 TX0 6, w ∈ Wall := by
  have h1 : ∀ w ∈ u_ws RX0 TX0 6, w ∈ lw_tbl ∧ goodWord w = true := by decide +kernel
  exact fun w hw => List.mem_filter.mpr (h1 w hw)
theorem iX1 : ∀ w ∈ u_ws RX1 TX1 2, w ∈ Wall := by
  have h1 : ∀ w ∈ u_ws RX1 TX1 2, w ∈ lw_tbl ∧ goodWord w = true := by decide +kernel
  exact fun w hw => List.mem_filter.mpr (h1 w hw)
theorem iX2 : ∀ w ∈ u_ws RX2 TX2 4, w ∈ Wall := by
  have h1 : ∀ w ∈ u_ws RX2 TX2 4, w ∈ lw_tbl ∧ goodWord w = true := by decide +kernel
  exact fun w hw => List.mem_filter.mpr (h1 w hw)
theorem iX3 : ∀ w ∈ u_ws RX3 TX3 3, w ∈ Wall := by
  have h1 : ∀ w ∈ u_ws RX3 TX3 3, w ∈ lw_tbl ∧ goodWord w = true := by decide +kernel
  exact fun w hw => List.mem_filter.mpr (h1 w hw)
theorem iX4 : ∀ w ∈ u_ws RX4 TX4 3, w ∈ Wall := by
  have h1 : ∀ w ∈ u_ws RX4 TX4 3, w ∈ lw_tbl ∧ goodWord w = true := by decide +kernel
  exact fun w hw => List.mem_filter.mpr (h1 w hw)
theorem iX5 : ∀ w ∈ u_ws RX5 TX5 1, w ∈ Wall := by
  have h1 : ∀ w ∈ u_ws RX5 TX5 1, w ∈ lw_tbl ∧ goodWord w = true := by decide +kernel
  exact fun w hw => List.mem_filter.mpr (h1 w hw)
theorem iX6 : ∀ w ∈ u_ws RX6 TX6 2, w ∈ Wall := by
  have h1 : ∀ w ∈ u_ws RX6 TX6 2, w ∈ lw_tbl ∧ goodWord w = true := by decide +kernel
  exact fun w hw => List.mem_filter.mpr (h1 w hw)
theorem iX7 : ∀ w ∈ u_ws RX7 TX7 4, w ∈ Wall := by
  have h1 : ∀ w ∈ u_ws RX7 TX7 4, w ∈ lw_tbl ∧ goodWord w = true := by decide +kernel
  exact fun w hw => List.mem_filter.mpr (h1 w hw)
theorem iX8 : ∀ w ∈ u_ws RX8 TX8 7, w ∈ Wall := by
  have h1 : ∀ w ∈ u_ws RX8 TX8 7, w ∈ lw_tbl ∧ goodWord w = true := by decide +kernel
  exact fun w hw => List.mem_filter.mpr (h1 w hw)
theorem iX9 : ∀ w ∈ u_ws RX9 TX9 10, w ∈ Wall := by
  have h1 : ∀ w ∈ u_ws RX9 TX9 10, w ∈ lw_tbl ∧ goodWord w = true := by decide +kernel
  exact fun w hw => List.mem_filter.mpr (h1 w hw)
theorem iX10 : ∀ w ∈ u_ws RX10 TX10 32, w ∈ Wall := by
  have h1 : ∀ w ∈ u_ws RX10 TX10 32, w ∈ lw_tbl ∧ goodWord w = true := by decide +kernel
  exact fun w hw => List.mem_filter.mpr (h1 w hw)
end
section
/-! what all methods' walks share: how a pure function's answer is taken apart, the world's contract, calls -/
def FU : Nat := 1000
def g_let {α β : Type} (x : α) (f : α → β) : β := f x
def g_bind {α β : Type} (x : Option α) (f : α → Option β) : Option β := match x with
  | none => none
  | some y => f y
def g_in {α : Type} (i : Int32) (n : Nat) (a : Option α) : Option α := if i < 0 ∨ n ≤ i.toNatClampNeg then none else a
def g_nz {α : Type} (v : Int32) (a : Option α) : Option α := if v = 0 then none else a
def g_bo {α : Type} (v : Int32) (a : Option α) : Option α := if v &&& 1 = v then a else none
/-- an answer of a method that may throw: what it answers, or the exception's class -/
abbrev g_X : Type := Int32 ⊕ String
def g_xb {σ τ : Type} (x : Option (g_X × σ)) (up : σ → τ) (f : Int32 → σ → Option (g_X × τ)) : Option (g_X × τ) := match x with
  | none => none
  | some (.inl r, w) => f r w
  | some (.inr E, w) => some (.inr E, up w)
theorem gx_t {α : Type} {c : Prop} [Decidable c] {a b x : α} (hc : c) (h : (if c then a else b) = x) : a = x := by rw [if_pos hc] at h; exact h
theorem gx_f {α : Type} {c : Prop} [Decidable c] {a b x : α} (hc : ¬ c) (h : (if c then a else b) = x) : b = x := by rw [if_neg hc] at h; exact h
theorem gx_let {α β : Type} {x : α} {f : α → β} {r : β} (h : g_let x f = r) : ∃ y, x = y ∧ f y = r := ⟨x, rfl, h⟩
theorem gx_bind {α β : Type} {x : Option α} {f : α → Option β} {r : β} (h : g_bind x f = some r) : ∃ y, x = some y ∧ f y = some r := by
  cases x with
  | none => cases h
  | some y => exact ⟨y, rfl, h⟩
theorem gx_in {α : Type} {i : Int32} {n : Nat} {a : Option α} {r : α} (h : g_in i n a = some r) : vp_in i n ∧ a = some r := by
  unfold g_in at h
  split at h
  · cases h
  · rename_i q
    exact ⟨q, h⟩
theorem gx_nz {α : Type} {v : Int32} {a : Option α} {r : α} (h : g_nz v a = some r) : ¬ v = 0 ∧ a = some r := by
  unfold g_nz at h
  split at h
  · cases h
  · rename_i q
    exact ⟨q, h⟩
theorem gx_bo {α : Type} {v : Int32} {a : Option α} {r : α} (h : g_bo v a = some r) : narrow .boolean (.int v) = .int v ∧ a = some r := by
  unfold g_bo at h
  split at h
  · rename_i q
    exact ⟨congrArg Value.int q, h⟩
  · cases h
theorem gx_xr {σ τ : Type} {x : Option (g_X × σ)} {up : σ → τ} {f : Int32 → σ → Option (g_X × τ)} {r : Int32} {w' : τ} (h : g_xb x up f = some (.inl r, w')) : ∃ r1 w1, x = some (.inl r1, w1) ∧ f r1 w1 = some (.inl r, w') := by
  unfold g_xb at h
  split at h
  · cases h
  · exact ⟨_, _, rfl, h⟩
  · cases h
theorem gx_xx {σ τ : Type} {x : Option (g_X × σ)} {up : σ → τ} {f : Int32 → σ → Option (g_X × τ)} {E : String} {w' : τ} (h : g_xb x up f = some (.inr E, w')) : (∃ r1 w1, x = some (.inl r1, w1) ∧ f r1 w1 = some (.inr E, w')) ∨ (∃ w1, x = some (.inr E, w1) ∧ up w1 = w') := by
  unfold g_xb at h
  split at h
  · cases h
  · exact Or.inl ⟨_, _, rfl, h⟩
  · cases h
    exact Or.inr ⟨_, rfl, rfl⟩
theorem gx_sw0 {x : Int32} {n : Int} {z : Int32} (hz : z.toInt = n) (h : ¬ x = z) : x.toInt ≠ n := fun e => h (Int32.toInt_inj.mp (e.trans hz.symm))
/-- the static tables -/
def tioF (j : Nat) : Int32 := if j = 0 then 0 else if j = 1 then -1 else 1
def tinF (j : Nat) : Int32 := if j = 0 then -1 else if j = 1 then 1 else 0
def wlF (j : Nat) : Int32 := if j = 0 then 120 else if j = 1 then 80 else if j = 2 then 60 else 40
def nestL : List (String × Nat × MethodName) := [("RedcrossGantry", 15, yX8_init), ("RedcrossGantry", 22, yX1_init), ("RedcrossGantry", 50, yX2_init), ("RedcrossGantry", 57, yX4_init), ("RedcrossGantry", 64, yX0_init), ("RedcrossGantry", 71, yX5_init), ("RedcrossGantry$Shoulder", 23, yX9_placeOf), ("RedcrossGantry$Incidents", 25, yX9_isWithin), ("RedcrossGantry$Bookings", 31, yX9_isWithin), ("RedcrossGantry$Bookings", 49, yX9_placeOf), ("RedcrossGantry$LaneSigns", 39, yX9_isWithin), ("RedcrossGantry$Proofs", 19, yX9_placeOf), ("RedcrossGantry$Detectors", 24, yX9_isWithin), ("RedcrossGantry$Traffic", 39, yX9_isWithin), ("RedcrossGantry$Traffic", 58, yX9_placeOf), ("RedcrossGantry$SpeedSigns", 44, yX9_isWithin), ("RedcrossGantry$Shoulder", 19, yX9_isWithin), ("RedcrossGantry$Proofs", 15, yX9_isWithin)]
def declL : List MethodName := [⟨"java/lang/RuntimeException", "<init>", "(Ljava/lang/String;)V"⟩, ⟨"java/lang/Exception", "<init>", "(Ljava/lang/String;)V"⟩, ⟨"java/lang/Throwable", "<init>", "(Ljava/lang/String;)V"⟩]
def castL : List String := ["java/lang/IndexOutOfBoundsException", "java/lang/IllegalArgumentException", "java/lang/IllegalStateException"]
def ncastL : List (String × String) := [("java/lang/IllegalArgumentException", "java/lang/IndexOutOfBoundsException"), ("java/lang/IllegalStateException", "java/lang/IndexOutOfBoundsException"), ("java/lang/IllegalStateException", "java/lang/IllegalArgumentException")]
theorem cNw_warmD {y : MethodName} {s U : State} (hW : s.WarmedH U.vm) (hZ : va_Nw (.declares y) s) : va_Nw (.declares y) U := va_tabs rfl (rfl : (s.setVm U.vm).vm = U.vm) (by rw [Cond.declares_setVm hW.alike]; exact hZ)
/-- what exceptions need of the tables, beside the words -/
def cxt (U : State) : Prop := (∀ y ∈ declL, va_Nw (.declares y) U) ∧ (∀ E ∈ castL, va_Nw (.castable E E) U) ∧ (∀ q ∈ ncastL, va_Nc q.1 q.2 U)
theorem cxt.warm {s U : State} (hW : s.WarmedH U.vm) (h : cxt s) : cxt U := ⟨fun y hy => cNw_warmD hW (h.1 y hy), fun E hE => va_Nw.warmC hW (h.2.1 E hE), fun q hq => (h.2.2 q hq).moved hW.alike⟩
theorem cxt.same {s U : State} (hv : s.vm = U.vm) (h : cxt s) : cxt U := ⟨fun y hy => va_Nw.same rfl hv (h.1 y hy), fun E hE => va_Nw.same rfl hv (h.2.1 E hE), fun q hq => (h.2.2 q hq).moved (by rw [hv]; exact Vm.Alike.refl _)⟩
/-- what stays in every run, beside a method's world: static fields, their tables, texts, links between nest mates -/
def cst (A : Nat → Prop) (U : State) : Prop :=
  (∀ q ∈ nestL, va_Nw (.methodLinkNest q.1 q.2.1 q.2.2 "RedcrossGantry") U) ∧
  (∃ t : Nat, va_Z "RedcrossGantry$Traffic" "TRIES_IF_OPEN" "[I" (.ref t) A U U.heap ∧ va_T .int t 3 (fun j => .int (tioF j)) A U U.heap) ∧
  (∃ t : Nat, va_Z "RedcrossGantry$Traffic" "TRIES_IF_NOT_OPEN" "[I" (.ref t) A U U.heap ∧ va_T .int t 3 (fun j => .int (tinF j)) A U U.heap) ∧
  (∃ t : Nat, va_Z "RedcrossGantry$SpeedSigns" "WEATHER_LETS" "[I" (.ref t) A U U.heap ∧ va_T .int t 4 (fun j => .int (wlF j)) A U U.heap) ∧
  (vx_Zq Bundle.tN "UNASSIGNED_STACK" Bundle.steD A U U.heap ∧ vx_Zq Bundle.tN "SUPPRESSED_SENTINEL" Bundle.listD A U U.heap) ∧
  (∃ a : Nat, vk_R RX9 260 "there is none of that number" a U) ∧ (∃ a : Nat, vk_R RX9 267 "an argument is out of its range" a U) ∧ (∃ a : Nat, vk_R RX9 272 "that cannot be by now" a U) ∧ cxt U
theorem cst.call {A A1 : Nat → Prop} {s U : State} {H : Heap} {locs : List Loc} (h : cst A s) (hS : va_S A s.heap H locs) (hAA : ∀ q, A1 q → A q) (hU : U.heap = H) (hW : s.WarmedH U.vm) : cst A1 U := by
  subst hU
  obtain ⟨h1, ⟨t1, a1, b1⟩, ⟨t2, a2, b2⟩, ⟨t3, a3, b3⟩, ⟨z1, z2⟩, ⟨k1, r1⟩, ⟨k2, r2⟩, ⟨k3, r3⟩, hcx⟩ := h
  exact ⟨fun q hq => va_Nw.warmM hW (h1 q hq),
    ⟨t1, ((a1.kept hS.2.1).moved hW.alike).narrow hAA, ((b1.kept hS.2.1).moved hW.alike).narrow hAA⟩,
    ⟨t2, ((a2.kept hS.2.1).moved hW.alike).narrow hAA, ((b2.kept hS.2.1).moved hW.alike).narrow hAA⟩,
    ⟨t3, ((a3.kept hS.2.1).moved hW.alike).narrow hAA, ((b3.kept hS.2.1).moved hW.alike).narrow hAA⟩,
    ⟨((z1.kept hS.2.1).moved hW.alike).narrow hAA, ((z2.kept hS.2.1).moved hW.alike).narrow hAA⟩,
    ⟨k1, vk_R.warm hW r1⟩, ⟨k2, vk_R.warm hW r2⟩, ⟨k3, vk_R.warm hW r3⟩, hcx.warm hW⟩
theorem cst.blind {A : Nat → Prop} {U : State} {g : JFrame} {mk : MethodId} {a : Array Value} (h : cst A U) : cst A (U.calling g mk a) := by
  obtain ⟨h1, ⟨t1, a1, b1⟩, ⟨t2, a2, b2⟩, ⟨t3, a3, b3⟩, ⟨z1, z2⟩, ⟨k1, r1⟩, ⟨k2, r2⟩, ⟨k3, r3⟩, hcx⟩ := h
  have e : U.vm.Alike (U.calling g mk a).vm := Vm.Alike.refl U.vm
  exact ⟨fun q hq => va_Nw.same rfl rfl (h1 q hq), ⟨t1, a1.moved e, b1.moved e⟩, ⟨t2, a2.moved e, b2.moved e⟩, ⟨t3, a3.moved e, b3.moved e⟩, ⟨z1.moved e, z2.moved e⟩, ⟨k1, vk_R.same rfl r1⟩, ⟨k2, vk_R.same rfl r2⟩, ⟨k3, vk_R.same rfl r3⟩, hcx.same rfl⟩
/-- a method's start: its world's cells, apart from each other; the heap's size; what stays -/
def cB (D : va_G) (tys : List (ClassId × FieldType)) (ws : va_W) (sz : Nat) (U : State) : Prop := U.heap.size = sz ∧ va_P D vwCl ws U.heap ∧ va_K D vwCl tys U ∧ va_D (fun _ => True) ws ∧ cst (va_A ws sz) U
def cE (D : va_G) (tys : List (ClassId × FieldType)) (ws : va_W) (A : Nat → Prop) (t : State) : Prop := va_P D vwCl ws t.heap ∧ va_K D vwCl tys t ∧ va_D A ws
theorem cB_blind {D : va_G} {tys : List (ClassId × FieldType)} {ws : va_W} {sz : Nat} {av : List Value} : FrameBlind (va_Pc av (cB D tys ws sz)) := fun a U g mk q => by
  obtain ⟨q0, q1, qP, qK, qD, qZ⟩ := q
  exact ⟨q0, q1, qP, va_K.moved (u := U) (U := U.calling g mk a) (Vm.Alike.refl U.vm) qK, qD, qZ.blind⟩
/-- a method that answers an int, and makes nothing -/
def MI (l : Launch) (y : MethodName) (wds : List Cond) (rm : Room) (D : va_G) (tys : List (ClassId × FieldType)) (ws ws' : va_W) (av : List Value) (res : Int32) : Prop :=
  ∀ sz : Nat, Met l y wds rm (va_Pc av (cB D tys ws sz)) (va_Qi (S := Unit) (fun r _ => res = r) (fun _ t => cE D tys ws' (va_A ws sz) t) (va_A ws sz)) 0 0 (va_A ws sz)
def MV (l : Launch) (y : MethodName) (wds : List Cond) (rm : Room) (D : va_G) (tys : List (ClassId × FieldType)) (ws ws' : va_W) (av : List Value) : Prop :=
  ∀ sz : Nat, Met l y wds rm (va_Pc av (cB D tys ws sz)) (va_Qv (S := Unit) (fun _ => True) (fun _ t => cE D tys ws' (va_A ws sz) t) (va_A ws sz)) 0 0 (va_A ws sz)
/-- a method that throws: one new object of six slots -/
abbrev cXC (D : va_G) (tys : List (ClassId × FieldType)) (ws ws' : va_W) (E : String) (sz : Nat) : String → State → State → Prop := vx_X (S := Unit) (fun _ => True) (fun E' _ t => E = E' ∧ cE D tys ws' (va_A ws sz) t) (va_A ws sz)
def XI (l : Launch) (y : MethodName) (wds : List Cond) (rm : Room) (D : va_G) (tys : List (ClassId × FieldType)) (ws ws' : va_W) (av : List Value) (E : String) : Prop :=
  ∀ sz : Nat, vx_Met l y wds rm (va_Pc av (cB D tys ws sz)) (va_Qi (S := Unit) (fun _ _ => False) (fun _ _ => True) (va_A ws sz)) (cXC D tys ws ws' E sz) 1 6 (va_A ws sz)
def XV (l : Launch) (y : MethodName) (wds : List Cond) (rm : Room) (D : va_G) (tys : List (ClassId × FieldType)) (ws ws' : va_W) (av : List Value) (E : String) : Prop :=
  ∀ sz : Nat, vx_Met l y wds rm (va_Pc av (cB D tys ws sz)) (va_Qv (S := Unit) (fun _ => False) (fun _ _ => True) (va_A ws sz)) (cXC D tys ws ws' E sz) 1 6 (va_A ws sz)
/-- Met out of a walk, for a method by whose name no table has a row of its own (Math.floorMod) -/
theorem cc_ofWF {l : Launch} {y : MethodName} {ws ws' : List Cond} {rm : Room} {Pc : Array Value → State → Prop} {Qc : Array Value → State → Outcome → State → Prop} {mc ms : Nat} {free : Addr → Prop} {cc : ByteArray} {maxL : Nat} {ret : Option FieldType}
    (hy : plainFor y = true) (hw : ws = Cond.code y cc maxL ret :: ws')
    (body : ∀ p e s m args below meth c s₁, BodyLoose p l y (headSpec ws rm) cc maxL ret e s m args below meth c s₁ → c.maxLocals = maxL → Pc args s →
      W p l e (headSpec ws rm).room s m args below meth c s.heap [] 0 0 (MQ below Qc args s mc ms free) (entryFrame m args maxL)) : Met l y ws rm Pc Qc mc ms free := by
  refine MetFree.of_bodySF (code := cc) (maxLocals := maxL) (ret := ret) hy ?_ ?_
  · intro args s m h hn
    obtain ⟨meth, c, h1, h2, h3, h4, h5, h6, -, -⟩ := Cond.code_spec hn (atoms_spec (ws := ws) h _ (by rw [hw]; exact List.mem_cons_self))
    exact ⟨meth, c, h1, h2, h3, h4, h5, h6⟩
  · intro p e s m args below meth c s₁ B hml hP _
    have hh0 : s₁.heap = s.heap := by rw [B.state]; rfl
    obtain ⟨t, a1, o, b1, b2, b3⟩ := body p e s m args below meth c s₁ B hml hP s₁ hh0 (Stand.of_body B)
    exact ⟨t, o, a1, b1, b2, ⟨b3.1, b3.2⟩⟩
section CBASE
variable {p : Program} {l : Launch} {e : Env} {R : Room} {s : State} {m : MethodId} {args : Array Value} {below : List Frame} {meth : Method} {c : Code} {H : Heap} {locs : List Loc} {cells slots : Nat} {Q : State → Prop}
variable {cc : ByteArray} {pc nL index n maxL : Nat} {ls : Array Slot} {rest st0 : List Value} {D : va_G} {tys : List (ClassId × FieldType)} {ws ws' : va_W} {A0 : Nat → Prop} {y : MethodName} {bytes : ByteArray} {ret : Option FieldType} {wds : List Cond} {rm : Room} {own C host : String} {b : Nat} {As : List Value} {res : Int32}
theorem w_gen {Q0 : State → Prop} {g : JFrame} (k : ∀ Q : State → Prop, Q = Q0 → W p l e R s m args below meth c H locs cells slots Q g) : W p l e R s m args below meth c H locs cells slots Q0 g := k Q0 rfl
theorem lv_topn {x y : Int32} (h : x = y) (k : W p l e R s m args below meth c H locs cells slots Q (F0 m pc ls (.int y :: rest))) : W p l e R s m args below meth c H locs cells slots Q (F0 m pc ls (.int x :: rest)) := by rw [h]; exact k
theorem cF {H0 : Heap} (hD : va_D A0 ws) (hS : va_S A0 H0 H locs) (hA : ∀ q : Nat, H0.size ≤ q → A0 q) : ∀ q, va_A ws H.size q → A0 q := fun q h => h.elim (fun ⟨k, e, h⟩ => hD.2 k _ h) (fun h => hA q (Nat.le_trans hS.1 h))
theorem cPre (hK : va_K D vwCl tys s) (hP : va_P D vwCl ws H) (hD : va_D A0 ws) (hS : va_S A0 s.heap H locs) (hA : ∀ q : Nat, s.heap.size ≤ q → A0 q) (hZ : cst A0 s) (av : List Value) : ∀ U : State, U.heap = H → s.WarmedH U.vm → va_Pc av (cB D tys ws H.size) av.toArray U := fun U hU hW =>
  ⟨rfl, by rw [hU], by rw [hU]; exact hP, va_K.moved hW.alike hK, hD.weaken (fun _ _ _ _ => trivial), hZ.call hS (cF hD hS hA) hU hW⟩
/-- behind a call of a method that answers an int -/
theorem cBackI {mc ms : Nat} (hr : va_Run p l e R s m args below meth c H locs cells slots mc ms (F0 m pc ls st0) rest (va_Qi (S := Unit) (fun r _ => res = r) (fun _ t => cE D tys ws' (va_A ws H.size) t) (va_A ws H.size) As.toArray) (va_A ws H.size)) (hD : va_D A0 ws) (hS : va_S A0 s.heap H locs) (hA : ∀ q : Nat, s.heap.size ≤ q → A0 q)
    (kk : ∀ (H1 : Heap) (locs1 : List Loc), va_P D vwCl ws' H1 → va_D A0 ws' → va_S A0 s.heap H1 locs1 → W p l e R s m args below meth c H1 locs1 (cells + mc) (slots + ms) Q (F0 m (pc + 3) ls (.int res :: rest))) : W p l e R s m args below meth c H locs cells slots Q (F0 m pc ls st0) := by
  have hF := cF hD hS hA
  refine va_calli hr hS (fun q _ h => hF q h) hF (fun r u t H1 locs1 ht hvm hpost hB hz1 hk1 hS1 => ?_)
  obtain ⟨hP1, hK1, hD1⟩ := hB
  rw [ht] at hP1
  subst hpost
  exact kk H1 locs1 hP1 (hD1.weaken (fun _ q _ h => hF q.1 h)) hS1
theorem cBackV {mc ms : Nat} (hr : va_Run p l e R s m args below meth c H locs cells slots mc ms (F0 m pc ls st0) rest (va_Qv (S := Unit) (fun _ => True) (fun _ t => cE D tys ws' (va_A ws H.size) t) (va_A ws H.size) As.toArray) (va_A ws H.size)) (hD : va_D A0 ws) (hS : va_S A0 s.heap H locs) (hA : ∀ q : Nat, s.heap.size ≤ q → A0 q)
    (kk : ∀ (H1 : Heap) (locs1 : List Loc), va_P D vwCl ws' H1 → va_D A0 ws' → va_S A0 s.heap H1 locs1 → W p l e R s m args below meth c H1 locs1 (cells + mc) (slots + ms) Q (F0 m (pc + 3) ls rest)) : W p l e R s m args below meth c H locs cells slots Q (F0 m pc ls st0) := by
  have hF := cF hD hS hA
  refine va_callv hr hS (fun q _ h => hF q h) hF (fun u t H1 locs1 ht hvm hpost hB hz1 hk1 hS1 => ?_)
  obtain ⟨hP1, hK1, hD1⟩ := hB
  rw [ht] at hP1
  exact kk H1 locs1 hP1 (hD1.weaken (fun _ q _ h => hF q.1 h)) hS1
theorem cc_iV (S : CallFix p m c cc nL s args Wall own) (hM : MI l y wds rm D tys ws ws' (.ref b :: As) res) (cw : CallW R s args own C index y bytes maxL ret wds rm 0 0 n) (hK : va_K D vwCl tys s) (hP : va_P D vwCl ws H) (hD : va_D A0 ws) (hS : va_S A0 s.heap H locs) (hA : ∀ q : Nat, s.heap.size ≤ q → A0 q) (hZ : cst A0 s) {ci q0 N : Nat} {T : u_T} {fs : List Value} (hci : vwCl[ci]? = some (C, T, N)) (hq : ws[q0]? = some (b, .inr (ci, fs)))
    (hn : As.length = n) (hsz : ls.size = nL) (hst : st0 = As.reverse ++ .ref b :: rest) (hw : (rest.map fun v => v.category).sum ≤ 8) (hdg : decode cc pc = .ok (.invokevirtual index, 3)) (hcs : cells ≤ R.cells ∧ slots ≤ R.slots)
    (kk : ∀ (H1 : Heap) (locs1 : List Loc), va_P D vwCl ws' H1 → va_D A0 ws' → va_S A0 s.heap H1 locs1 → W p l e R s m args below meth c H1 locs1 cells slots Q (F0 m (pc + 3) ls (.int res :: rest))) : W p l e R s m args below meth c H locs cells slots Q (F0 m pc ls st0) :=
  cBackI (As := .ref b :: As) (va_runV (As := As) (rest := rest) S (hM H.size) cw ⟨cB_blind, va_recv hK hP hci hq, cPre hK hP hD hS hA hZ _⟩ rfl hn hsz hst (lv_room hw) hdg hcs) hD hS hA kk
theorem cc_vV (S : CallFix p m c cc nL s args Wall own) (hM : MV l y wds rm D tys ws ws' (.ref b :: As)) (cw : CallW R s args own C index y bytes maxL ret wds rm 0 0 n) (hK : va_K D vwCl tys s) (hP : va_P D vwCl ws H) (hD : va_D A0 ws) (hS : va_S A0 s.heap H locs) (hA : ∀ q : Nat, s.heap.size ≤ q → A0 q) (hZ : cst A0 s) {ci q0 N : Nat} {T : u_T} {fs : List Value} (hci : vwCl[ci]? = some (C, T, N)) (hq : ws[q0]? = some (b, .inr (ci, fs)))
    (hn : As.length = n) (hsz : ls.size = nL) (hst : st0 = As.reverse ++ .ref b :: rest) (hw : (rest.map fun v => v.category).sum ≤ 8) (hdg : decode cc pc = .ok (.invokevirtual index, 3)) (hcs : cells ≤ R.cells ∧ slots ≤ R.slots)
    (kk : ∀ (H1 : Heap) (locs1 : List Loc), va_P D vwCl ws' H1 → va_D A0 ws' → va_S A0 s.heap H1 locs1 → W p l e R s m args below meth c H1 locs1 cells slots Q (F0 m (pc + 3) ls rest)) : W p l e R s m args below meth c H locs cells slots Q (F0 m pc ls st0) :=
  cBackV (As := .ref b :: As) (va_runV (As := As) (rest := rest) S (hM H.size) cw ⟨cB_blind, va_recv hK hP hci hq, cPre hK hP hD hS hA hZ _⟩ rfl hn hsz hst (lv_room hw) hdg hcs) hD hS hA kk
theorem cc_iS (S : CallFix p m c cc nL s args Wall own) (hM : MI l y wds rm D tys ws ws' As res) (cw : CallB R s args own index y bytes maxL ret wds rm 0 0 n ∧ (Cond.static y).before args s = true) (hK : va_K D vwCl tys s) (hP : va_P D vwCl ws H) (hD : va_D A0 ws) (hS : va_S A0 s.heap H locs) (hA : ∀ q : Nat, s.heap.size ≤ q → A0 q) (hZ : cst A0 s)
    (hn : As.length = n) (hsz : ls.size = nL) (hst : st0 = As.reverse ++ rest) (hw : (rest.map fun v => v.category).sum ≤ 8) (hdg : decode cc pc = .ok (.invokestatic index, 3)) (hcs : cells ≤ R.cells ∧ slots ≤ R.slots)
    (kk : ∀ (H1 : Heap) (locs1 : List Loc), va_P D vwCl ws' H1 → va_D A0 ws' → va_S A0 s.heap H1 locs1 → W p l e R s m args below meth c H1 locs1 cells slots Q (F0 m (pc + 3) ls (.int res :: rest))) : W p l e R s m args below meth c H locs cells slots Q (F0 m pc ls st0) :=
  cBackI (As := As) (va_runS (As := As) (rest := rest) S (hM H.size) cw ⟨cB_blind, cPre hK hP hD hS hA hZ _⟩ rfl hn hsz hst (lv_room hw) hdg hcs) hD hS hA kk
theorem cc_vS (S : CallFix p m c cc nL s args Wall own) (hM : MV l y wds rm D tys ws ws' As) (cw : CallB R s args own index y bytes maxL ret wds rm 0 0 n ∧ (Cond.static y).before args s = true) (hK : va_K D vwCl tys s) (hP : va_P D vwCl ws H) (hD : va_D A0 ws) (hS : va_S A0 s.heap H locs) (hA : ∀ q : Nat, s.heap.size ≤ q → A0 q) (hZ : cst A0 s)
    (hn : As.length = n) (hsz : ls.size = nL) (hst : st0 = As.reverse ++ rest) (hw : (rest.map fun v => v.category).sum ≤ 8) (hdg : decode cc pc = .ok (.invokestatic index, 3)) (hcs : cells ≤ R.cells ∧ slots ≤ R.slots)
    (kk : ∀ (H1 : Heap) (locs1 : List Loc), va_P D vwCl ws' H1 → va_D A0 ws' → va_S A0 s.heap H1 locs1 → W p l e R s m args below meth c H1 locs1 cells slots Q (F0 m (pc + 3) ls rest)) : W p l e R s m args below meth c H locs cells slots Q (F0 m pc ls st0) :=
  cBackV (As := As) (va_runS (As := As) (rest := rest) S (hM H.size) cw ⟨cB_blind, cPre hK hP hD hS hA hZ _⟩ rfl hn hsz hst (lv_room hw) hdg hcs) hD hS hA kk
theorem cc_iSN (S : CallFix p m c cc nL s args Wall own) (hM : MI l y wds rm D tys ws ws' As res) (cw : va_CN R s args own index y host bytes maxL ret wds rm 0 0 n ∧ (Cond.static y).before args s = true ∧ True) (hK : va_K D vwCl tys s) (hP : va_P D vwCl ws H) (hD : va_D A0 ws) (hS : va_S A0 s.heap H locs) (hA : ∀ q : Nat, s.heap.size ≤ q → A0 q) (hZ : cst A0 s)
    (hn : As.length = n) (hsz : ls.size = nL) (hst : st0 = As.reverse ++ rest) (hw : (rest.map fun v => v.category).sum ≤ 8) (hdg : decode cc pc = .ok (.invokestatic index, 3)) (hcs : cells ≤ R.cells ∧ slots ≤ R.slots)
    (kk : ∀ (H1 : Heap) (locs1 : List Loc), va_P D vwCl ws' H1 → va_D A0 ws' → va_S A0 s.heap H1 locs1 → W p l e R s m args below meth c H1 locs1 cells slots Q (F0 m (pc + 3) ls (.int res :: rest))) : W p l e R s m args below meth c H locs cells slots Q (F0 m pc ls st0) :=
  cBackI (As := As) (va_runSN (As := As) (rest := rest) S (hM H.size) cw ⟨cB_blind, cPre hK hP hD hS hA hZ _⟩ rfl hn hsz hst (lv_room hw) hdg hcs) hD hS hA kk
/-- a method's end with an int -/
theorem cc_ret {v : Int32} {ty : FieldType} (hx : p.tables.exec = Jvm.exec) (hb : c.code = cc) (hr : meth.sig.returnType = some ty) (hn : narrow ty (.int v) = .int v) (hQ : Q = MQ below (va_Qi (S := Unit) (fun r _ => res = r) (fun _ t => cE D tys ws' A0 t) A0) args s 0 0 A0) (hK : va_K D vwCl tys s) (hP : va_P D vwCl ws' H) (hD : va_D A0 ws') (hS : va_S A0 s.heap H locs) (hv : res = v) (hdg : decode cc pc = .ok (.ireturn, 1)) (hlocks : meth.locks = false) : W p l e R s m args below meth c H locs 0 0 Q (F0 m pc ls [.int v]) := by
  subst hQ
  exact W.zret hx hb hr hn (fun t ht hW => ⟨⟨v, (), rfl, hv, by rw [ht]; exact hP, va_K.moved hW.alike hK, hD⟩, hS.F ht⟩) hS.2.2 hdg hlocks
theorem cc_vret (hx : p.tables.exec = Jvm.exec) (hb : c.code = cc) (hr : meth.sig.returnType = none) (hQ : Q = MQ below (va_Qv (S := Unit) (fun _ => True) (fun _ t => cE D tys ws' A0 t) A0) args s 0 0 A0) (hK : va_K D vwCl tys s) (hP : va_P D vwCl ws' H) (hD : va_D A0 ws') (hS : va_S A0 s.heap H locs) (hdg : decode cc pc = .ok (.return_, 1)) (hlocks : meth.locks = false) : W p l e R s m args below meth c H locs 0 0 Q (F0 m pc ls []) := by
  subst hQ
  exact W.vret hx hb hr (fun t ht hW => ⟨⟨(), rfl, trivial, by rw [ht]; exact hP, va_K.moved hW.alike hK, hD⟩, hS.F ht⟩) hS.2.2 hdg hlocks
/-- a call of a method that throws, in one that doesn't catch -/
theorem cX_back {E : String} {Qc : Array Value → State → Outcome → State → Prop} (hAe : va_A ws s.heap.size = A0) (hQ : Q = vx_MQ below Qc (cXC D tys ws ws' E s.heap.size) args s 1 6 A0) (hout : ∀ x ∈ c.exceptionTable.toList, False) (hlocks : meth.locks = false) (hK : va_K D vwCl tys s) {E1 : String} (hE : E = E1) {H1 : Heap} {locs1 : List Loc} (hP : va_P D vwCl ws' H1) (hD : va_D A0 ws') (hS : va_S A0 s.heap H1 locs1) {ce : Cell} {q : Addr} (hcell : H1[q]? = some ce) (hv : ce.vm = .none) (hcl : s.vm.findClass E1 = some ce.cls) (hc : cells ≤ 1) (hs : slots ≤ 6) :
    vx_W p l e R s m args below meth c H1 locs1 cells slots Q (F0 m pc ls rest) q := by
  subst hAe
  subst hQ
  exact vx_out (fun x hx => (hout x hx).elim) hlocks hcell hv hcl (fun t ht hvm => ⟨(), trivial, ⟨hE, by rw [ht]; exact hP, va_K.moved hvm hK, hD⟩, hS.F ht⟩) hS.2.2 hc hs
theorem cX_iV {E : String} (S : CallFix p m c cc nL s args Wall own) (hM : XI l y wds rm D tys ws ws' (.ref b :: As) E) (cw : CallW R s args own C index y bytes maxL ret wds rm 1 6 n) (hK : va_K D vwCl tys s) (hP : va_P D vwCl ws H) (hD : va_D A0 ws) (hS : va_S A0 s.heap H locs) (hA : ∀ q : Nat, s.heap.size ≤ q → A0 q) (hZ : cst A0 s) {ci q0 N : Nat} {T : u_T} {fs : List Value} (hci : vwCl[ci]? = some (C, T, N)) (hq : ws[q0]? = some (b, .inr (ci, fs)))
    (hn : As.length = n) (hsz : ls.size = nL) (hst : st0 = As.reverse ++ .ref b :: rest) (hw : (rest.map fun v => v.category).sum ≤ 8) (hdg : decode cc pc = .ok (.invokevirtual index, 3)) (hcs : cells + 1 ≤ R.cells ∧ slots + 6 ≤ R.slots)
    (kx : ∀ (ce : Cell) (q9 : Addr) (H1 : Heap) (locs1 : List Loc), va_P D vwCl ws' H1 → va_D A0 ws' → va_S A0 s.heap H1 locs1 → H1[q9]? = some ce → ce.vm = .none → s.vm.findClass E = some ce.cls → vx_W p l e R s m args below meth c H1 locs1 (cells + 1) (slots + 6) Q (F0 m pc ls rest) q9) : W p l e R s m args below meth c H locs cells slots Q (F0 m pc ls st0) := by
  have hF := cF hD hS hA
  refine vx_calli (vx_runV (As := As) (rest := rest) S (hM H.size) cw ⟨cB_blind, va_recv hK hP hci hq, cPre hK hP hD hS hA hZ _⟩ rfl hn hsz hst (lv_room hw) hdg hcs) hS (fun q _ h => hF q h) hF (fun q _ h => hF q h) (fun E' ce q9 u t H1 locs1 ht hvm _ hB hz1 hk1 hS1 h1 h2 h3 => ?_) (fun r u t H1 locs1 ht hvm hpost => hpost.elim)
  obtain ⟨rfl, hP1, hK1, hD1⟩ := hB
  rw [ht] at hP1
  exact kx ce q9 H1 locs1 hP1 (hD1.weaken (fun _ q _ h => hF q.1 h)) hS1 h1 h2 h3
theorem cX_vV {E : String} (S : CallFix p m c cc nL s args Wall own) (hM : XV l y wds rm D tys ws ws' (.ref b :: As) E) (cw : CallW R s args own C index y bytes maxL ret wds rm 1 6 n) (hK : va_K D vwCl tys s) (hP : va_P D vwCl ws H) (hD : va_D A0 ws) (hS : va_S A0 s.heap H locs) (hA : ∀ q : Nat, s.heap.size ≤ q → A0 q) (hZ : cst A0 s) {ci q0 N : Nat} {T : u_T} {fs : List Value} (hci : vwCl[ci]? = some (C, T, N)) (hq : ws[q0]? = some (b, .inr (ci, fs)))
    (hn : As.length = n) (hsz : ls.size = nL) (hst : st0 = As.reverse ++ .ref b :: rest) (hw : (rest.map fun v => v.category).sum ≤ 8) (hdg : decode cc pc = .ok (.invokevirtual index, 3)) (hcs : cells + 1 ≤ R.cells ∧ slots + 6 ≤ R.slots)
    (kx : ∀ (ce : Cell) (q9 : Addr) (H1 : Heap) (locs1 : List Loc), va_P D vwCl ws' H1 → va_D A0 ws' → va_S A0 s.heap H1 locs1 → H1[q9]? = some ce → ce.vm = .none → s.vm.findClass E = some ce.cls → vx_W p l e R s m args below meth c H1 locs1 (cells + 1) (slots + 6) Q (F0 m pc ls rest) q9) : W p l e R s m args below meth c H locs cells slots Q (F0 m pc ls st0) := by
  have hF := cF hD hS hA
  refine vx_callv (vx_runV (As := As) (rest := rest) S (hM H.size) cw ⟨cB_blind, va_recv hK hP hci hq, cPre hK hP hD hS hA hZ _⟩ rfl hn hsz hst (lv_room hw) hdg hcs) hS (fun q _ h => hF q h) hF (fun q _ h => hF q h) (fun E' ce q9 u t H1 locs1 ht hvm _ hB hz1 hk1 hS1 h1 h2 h3 => ?_) (fun u t H1 locs1 ht hvm hpost => hpost.elim)
  obtain ⟨rfl, hP1, hK1, hD1⟩ := hB
  rw [ht] at hP1
  exact kx ce q9 H1 locs1 hP1 (hD1.weaken (fun _ q _ h => hF q.1 h)) hS1 h1 h2 h3
theorem cX_vS {E : String} (S : CallFix p m c cc nL s args Wall own) (hM : XV l y wds rm D tys ws ws' As E) (cw : CallB R s args own index y bytes maxL ret wds rm 1 6 n ∧ (Cond.static y).before args s = true) (hK : va_K D vwCl tys s) (hP : va_P D vwCl ws H) (hD : va_D A0 ws) (hS : va_S A0 s.heap H locs) (hA : ∀ q : Nat, s.heap.size ≤ q → A0 q) (hZ : cst A0 s)
    (hn : As.length = n) (hsz : ls.size = nL) (hst : st0 = As.reverse ++ rest) (hw : (rest.map fun v => v.category).sum ≤ 8) (hdg : decode cc pc = .ok (.invokestatic index, 3)) (hcs : cells + 1 ≤ R.cells ∧ slots + 6 ≤ R.slots)
    (kx : ∀ (ce : Cell) (q9 : Addr) (H1 : Heap) (locs1 : List Loc), va_P D vwCl ws' H1 → va_D A0 ws' → va_S A0 s.heap H1 locs1 → H1[q9]? = some ce → ce.vm = .none → s.vm.findClass E = some ce.cls → vx_W p l e R s m args below meth c H1 locs1 (cells + 1) (slots + 6) Q (F0 m pc ls rest) q9) : W p l e R s m args below meth c H locs cells slots Q (F0 m pc ls st0) := by
  have hF := cF hD hS hA
  refine vx_callv (vx_runS (As := As) (rest := rest) S (hM H.size) cw ⟨cB_blind, cPre hK hP hD hS hA hZ _⟩ rfl hn hsz hst (lv_room hw) hdg hcs) hS (fun q _ h => hF q h) hF (fun q _ h => hF q h) (fun E' ce q9 u t H1 locs1 ht hvm _ hB hz1 hk1 hS1 h1 h2 h3 => ?_) (fun u t H1 locs1 ht hvm hpost => hpost.elim)
  obtain ⟨rfl, hP1, hK1, hD1⟩ := hB
  rw [ht] at hP1
  exact kx ce q9 H1 locs1 hP1 (hD1.weaken (fun _ q _ h => hF q.1 h)) hS1 h1 h2 h3
theorem cxt.words {cls : String} (h : cxt s) (hc : cls ∈ castL) : ∀ w ∈ declL.map Cond.declares ++ [Cond.castable cls cls], w.before args s = true := by
  intro w hw
  rcases List.mem_append.mp hw with q | q
  · obtain ⟨y, hy, rfl⟩ := List.mem_map.mp q
    exact va_Nw.use rfl (h.1 y hy)
  · rw [List.mem_singleton.mp q]
    exact va_Nw.use rfl (h.2.1 cls hc)
/-- new X(text), thrown: nothing of the world is changed -/
theorem cX_throw {cls text : String} {names : List String} {ik is ic sa : Nat} {Qc : Array Value → State → Outcome → State → Prop} (hx : p.tables.exec = Jvm.exec) (hb : c.code = cc) (hl0 : l.stackTraces = false) (hown : s.vm.findClass own = some m.cls) (hcls : Bundle.fit cls = true) (hnames : ∀ n ∈ names, Bundle.fit n = true)
    (hk : (Cond.classLink own ik cls).before args s = true) (hini : (Cond.initialized cls).before args s = true) (hstr : vk_R own is text sa s) (hat : ∀ w ∈ (vx_atS own ic cls names).filter goodWord, w.before args s = true) (hrest : ∀ w ∈ (vx_atS own ic cls names).filter (fun w => !goodWord w), w ∈ declL.map Cond.declares ++ [Cond.castable cls cls]) (hcx : cxt s) (hcast : cls ∈ castL) (hgood : ∀ w ∈ Cond.classLink own ik cls :: Cond.initialized cls :: vx_atS own ic cls names, vx_ot w = true)
    (hAe : va_A ws s.heap.size = A0) (hUN : vx_Zq Bundle.tN "UNASSIGNED_STACK" Bundle.steD A0 s s.heap ∧ vx_Zq Bundle.tN "SUPPRESSED_SENTINEL" Bundle.listD A0 s s.heap) (hQ : Q = vx_MQ below Qc (cXC D tys ws ws' cls s.heap.size) args s 1 6 A0) (hout : ∀ x ∈ c.exceptionTable.toList, False) (hlocks : meth.locks = false) (hK : va_K D vwCl tys s) (hP : va_P D vwCl ws' H) (hD : va_D A0 ws') (hS : va_S A0 s.heap H locs) (hsize : ls.size = c.maxLocals)
    (d0 : decode cc pc = .ok (.new ik, 3)) (d3 : decode cc (pc + 3) = .ok (.dup, 1)) (d4 : decode cc (pc + 4) = .ok (.ldc_w is, 3)) (d7 : decode cc (pc + 7) = .ok (.invokespecial ic, 3)) (d10 : decode cc (pc + 10) = .ok (.athrow, 1))
    (hRf : names.length + 3 < R.frames) (hRl : (rest.map fun v => v.category).sum + (13 * (names.length + 1) + 43) ≤ R.locals) (hRc : 1 ≤ R.cells) (hRs : 6 ≤ R.slots) : W p l e R s m args below meth c H locs 0 0 Q (F0 m pc ls rest) := by
  subst hAe
  subst hQ
  refine vx_throwSW (names := names) (mc := 1) (ms := 6) hx hb hl0 hown hcls hnames hk hini hstr (vx_hat hat hrest (fun w hw => cxt.words hcx hcast w hw)) hgood hUN.1 hUN.2 hS hsize d0 d3 d4 d7 d10 (fun x hx => (hout x hx).elim) hRf hRl (by omega) (by omega) hlocks (fun t hvm hz hq => ?_) hS.2.2 (Nat.le_refl _) (Nat.le_refl _)
  exact ⟨(), trivial, ⟨rfl, hP.kept (fun k q hk => hq q.1 (hP k q hk).lt), va_K.moved hvm hK, hD⟩, Nat.le_trans hS.1 hz, fun q h1 h2 => (hq q (Nat.lt_of_lt_of_le h1 hS.1)).trans (hS.2.1 q h1 h2)⟩
end CBASE
/-! constructors: the world grows; an old world's cells stay beside -/
theorem cls_int {D : va_G} {tys : List (ClassId × FieldType)} {s : State} (hK : va_K D vwCl tys s) (i j : Nat) {c1 c2 : ClassId} (h1 : tys[i]? = some (c1, .int)) (h2 : tys[j]? = some (c2, .int)) : c1 = c2 := by
  have a : s.vm.findClass ("[" ++ FieldType.int.toString) = some c1 := (hK.2 i _ h1).2
  have b : s.vm.findClass ("[" ++ FieldType.int.toString) = some c2 := (hK.2 j _ h2).2
  exact Option.some.inj (a.symm.trans b)
theorem cls_bool {D : va_G} {tys : List (ClassId × FieldType)} {s : State} (hK : va_K D vwCl tys s) (i j : Nat) {c1 c2 : ClassId} (h1 : tys[i]? = some (c1, .boolean)) (h2 : tys[j]? = some (c2, .boolean)) : c1 = c2 := by
  have a : s.vm.findClass ("[" ++ FieldType.boolean.toString) = some c1 := (hK.2 i _ h1).2
  have b : s.vm.findClass ("[" ++ FieldType.boolean.toString) = some c2 := (hK.2 j _ h2).2
  exact Option.some.inj (a.symm.trans b)
/-- a constructor of the object at h0: what it makes lies at the addresses ad, the object itself at ad 0 -/
def MC (l : Launch) (y : MethodName) (wds : List Cond) (rm : Room) (D : va_G) (tys : List (ClassId × FieldType)) (ws : va_W) (wf : (Nat → Nat) → va_W) (h0 : Nat) (mc ms : Nat) : Prop :=
  ∀ sz : Nat, Met l y wds rm (va_Pc [.ref h0] (cB D tys ws sz)) (va_Qv (S := Nat → Nat) (fun ad => ad 0 = h0) (fun ad t => cE D tys (wf ad) (va_A ws sz) t) (va_A ws sz)) mc ms (va_A ws sz)
section CCTOR
variable {p : Program} {l : Launch} {e : Env} {R : Room} {s : State} {m : MethodId} {args : Array Value} {below : List Frame} {meth : Method} {c : Code} {H : Heap} {locs : List Loc} {cells slots : Nat} {Q : State → Prop}
variable {cc : ByteArray} {pc nL index maxL : Nat} {ls : Array Slot} {rest st0 : List Value} {D : va_G} {tys : List (ClassId × FieldType)} {ws wc wr : va_W} {wf : (Nat → Nat) → va_W} {A0 : Nat → Prop} {y : MethodName} {bytes : ByteArray} {wds : List Cond} {rm : Room} {own host : String} {b : Nat}
theorem cBackC {mc ms : Nat} {a : Array Value} (hr : va_Run p l e R s m args below meth c H locs cells slots mc ms (F0 m pc ls st0) rest (va_Qv (S := Nat → Nat) (fun ad => ad 0 = b) (fun ad t => cE D tys (wf ad) (va_A wc H.size) t) (va_A wc H.size) a) (va_A wc H.size)) (hP : va_P D vwCl ws H) (hD : va_D A0 ws) (hS : va_S A0 s.heap H locs) (hA : ∀ q : Nat, s.heap.size ≤ q → A0 q)
    (isC isR : List Nat) (hC : isC.map (fun i => ws[i]?) = wc.map some) (hR : isR.map (fun i => ws[i]?) = wr.map some) (hn : va_nd isR = true) (hdis : ∀ i ∈ isR, i ∉ isC)
    (kk : ∀ (ad : Nat → Nat) (H1 : Heap) (locs1 : List Loc), ad 0 = b → va_P D vwCl (wr ++ wf ad) H1 → va_D A0 (wr ++ wf ad) → va_S A0 s.heap H1 locs1 → W p l e R s m args below meth c H1 locs1 (cells + mc) (slots + ms) Q (F0 m (pc + 3) ls rest)) : W p l e R s m args below meth c H locs cells slots Q (F0 m pc ls st0) := by
  have hF := va_free (wc := wc) hD hS hA isC hC
  refine va_callv hr hS (fun q _ h => hF q h) hF (fun u t H1 locs1 ht hvm hpost hB hz1 hk1 hS1 => ?_)
  obtain ⟨hP1, hK1, hD1⟩ := hB
  rw [ht] at hP1
  obtain ⟨h1, h2⟩ := va_join hP hD isC isR hC hR hn hdis hk1 hF hP1 hD1
  exact kk u H1 locs1 hpost h1 h2 hS1
theorem cc_cI {mc ms : Nat} (S : CallFix p m c cc nL s args Wall own) (hM : MC l y wds rm D tys wc wf b mc ms) (cw : CallB R s args own index y bytes maxL none wds rm mc ms 0 ∧ y.name = "<init>" ∧ (Cond.instanceMethod y).before args s = true) (hK : va_K D vwCl tys s) (hP : va_P D vwCl ws H) (hD : va_D A0 ws) (hS : va_S A0 s.heap H locs) (hA : ∀ q : Nat, s.heap.size ≤ q → A0 q) (hZ : cst A0 s)
    (isC isR : List Nat) (hC : isC.map (fun i => ws[i]?) = wc.map some) (hC2 : isC.filterMap (fun i => ws[i]?) = wc) (hC3 : va_nd isC = true) (hR : isR.map (fun i => ws[i]?) = wr.map some) (hn : va_nd isR = true) (hdis : ∀ i ∈ isR, i ∉ isC)
    (hsz : ls.size = nL) (hst : st0 = .ref b :: rest) (hw : (rest.map fun v => v.category).sum ≤ 8) (hdg : decode cc pc = .ok (.invokespecial index, 3)) (hcs : cells + mc ≤ R.cells ∧ slots + ms ≤ R.slots)
    (kk : ∀ (ad : Nat → Nat) (H1 : Heap) (locs1 : List Loc), ad 0 = b → va_P D vwCl (wr ++ wf ad) H1 → va_D A0 (wr ++ wf ad) → va_S A0 s.heap H1 locs1 → W p l e R s m args below meth c H1 locs1 (cells + mc) (slots + ms) Q (F0 m (pc + 3) ls rest)) : W p l e R s m args below meth c H locs cells slots Q (F0 m pc ls st0) :=
  cBackC (va_runI (As := []) (rest := rest) S (hM H.size) cw ⟨cB_blind, cPre hK (hP.sub isC hC2) (hD.sub isC hC3 hC) hS hA hZ _⟩ rfl rfl hsz hst (lv_room hw) hdg hcs) hP hD hS hA isC isR hC hR hn hdis kk
theorem cc_cIN {mc ms : Nat} (S : CallFix p m c cc nL s args Wall own) (hM : MC l y wds rm D tys wc wf b mc ms) (cw : va_CN R s args own index y host bytes maxL none wds rm mc ms 0 ∧ y.name = "<init>" ∧ (Cond.instanceMethod y).before args s = true) (hK : va_K D vwCl tys s) (hP : va_P D vwCl ws H) (hD : va_D A0 ws) (hS : va_S A0 s.heap H locs) (hA : ∀ q : Nat, s.heap.size ≤ q → A0 q) (hZ : cst A0 s)
    (isC isR : List Nat) (hC : isC.map (fun i => ws[i]?) = wc.map some) (hC2 : isC.filterMap (fun i => ws[i]?) = wc) (hC3 : va_nd isC = true) (hR : isR.map (fun i => ws[i]?) = wr.map some) (hn : va_nd isR = true) (hdis : ∀ i ∈ isR, i ∉ isC)
    (hsz : ls.size = nL) (hst : st0 = .ref b :: rest) (hw : (rest.map fun v => v.category).sum ≤ 8) (hdg : decode cc pc = .ok (.invokespecial index, 3)) (hcs : cells + mc ≤ R.cells ∧ slots + ms ≤ R.slots)
    (kk : ∀ (ad : Nat → Nat) (H1 : Heap) (locs1 : List Loc), ad 0 = b → va_P D vwCl (wr ++ wf ad) H1 → va_D A0 (wr ++ wf ad) → va_S A0 s.heap H1 locs1 → W p l e R s m args below meth c H1 locs1 (cells + mc) (slots + ms) Q (F0 m (pc + 3) ls rest)) : W p l e R s m args below meth c H locs cells slots Q (F0 m pc ls st0) :=
  cBackC (va_runIN (As := []) (rest := rest) S (hM H.size) cw ⟨cB_blind, cPre hK (hP.sub isC hC2) (hD.sub isC hC3 hC) hS hA hZ _⟩ rfl rfl hsz hst (lv_room hw) hdg hcs) hP hD hS hA isC isR hC hR hn hdis kk
theorem cc_cret {mc ms : Nat} {ws' : va_W} (ad : Nat → Nat) (hx : p.tables.exec = Jvm.exec) (hb : c.code = cc) (hr : meth.sig.returnType = none) (hQ : Q = MQ below (va_Qv (S := Nat → Nat) (fun ad => ad 0 = b) (fun ad t => cE D tys (wf ad) A0 t) A0) args s mc ms A0) (hK : va_K D vwCl tys s) (had : ad 0 = b) (hw : wf ad = ws') (hP : va_P D vwCl ws' H) (hD : va_D A0 ws') (hS : va_S A0 s.heap H locs) (hdg : decode cc pc = .ok (.return_, 1)) (hlocks : meth.locks = false) : W p l e R s m args below meth c H locs mc ms Q (F0 m pc ls []) := by
  subst hQ
  subst hw
  exact W.vret hx hb hr (fun t ht hW => ⟨⟨ad, rfl, had, by rw [ht]; exact hP, va_K.moved hW.alike hK, hD⟩, hS.F ht⟩) hS.2.2 hdg hlocks
end CCTOR
end
section
abbrev cT_t : Type := (Nat → Int32) × (Nat → Int32) × (Nat → Int32) × Int32 × Int32 × Int32 × Int32
abbrev cD_t : Type := (Nat → Int32) × (Nat → Int32)
abbrev cS_t : Type := (Nat → Int32) × (Nat → Int32) × (Nat → Int32) × Int32
abbrev cL_t : Type := (Nat → Int32) × (Nat → Int32) × (Nat → Int32)
abbrev cH_t : Type := (Nat → Int32) × (Nat → Int32)
abbrev cI_t : Type := (Nat → Int32) × (Nat → Int32) × (Nat → Int32) × Int32
abbrev cP_t : Type := (Nat → Int32) × (Nat → Int32) × (Nat → Int32)
abbrev cB_t : Type := (Nat → Int32) × (Nat → Int32) × (Nat → Int32) × (Nat → Int32) × (Nat → Int32) × Int32
abbrev cK_t : Type := (Nat → Int32)
abbrev GS : Type := Int32 × cT_t × cD_t × cS_t × cL_t × cH_t × cI_t × cP_t × cB_t × cK_t
def c_minute (u : GS) : Int32 := u.1
def c_minute_set (u : GS) (v : Int32) : GS := (v, u.2)
def qcT (u : GS) : cT_t := u.2.1
def qcT_put (u : GS) (v : cT_t) : GS := (u.1, (v, u.2.2))
def cT_held (u : GS) : (Nat → Int32) := u.2.1.1
def cT_held_set (u : GS) (v : (Nat → Int32)) : GS := (u.1, ((v, u.2.1.2), u.2.2))
def cT_stopped (u : GS) : (Nat → Int32) := u.2.1.2.1
def cT_stopped_set (u : GS) (v : (Nat → Int32)) : GS := (u.1, ((u.2.1.1, (v, u.2.1.2.2)), u.2.2))
def cT_broken (u : GS) : (Nat → Int32) := u.2.1.2.2.1
def cT_broken_set (u : GS) (v : (Nat → Int32)) : GS := (u.1, ((u.2.1.1, (u.2.1.2.1, (v, u.2.1.2.2.2))), u.2.2))
def cT_demand (u : GS) : Int32 := u.2.1.2.2.2.1
def cT_demand_set (u : GS) (v : Int32) : GS := (u.1, ((u.2.1.1, (u.2.1.2.1, (u.2.1.2.2.1, (v, u.2.1.2.2.2.2)))), u.2.2))
def cT_came (u : GS) : Int32 := u.2.1.2.2.2.2.1
def cT_came_set (u : GS) (v : Int32) : GS := (u.1, ((u.2.1.1, (u.2.1.2.1, (u.2.1.2.2.1, (u.2.1.2.2.2.1, (v, u.2.1.2.2.2.2.2))))), u.2.2))
def cT_waiting (u : GS) : Int32 := u.2.1.2.2.2.2.2.1
def cT_waiting_set (u : GS) (v : Int32) : GS := (u.1, ((u.2.1.1, (u.2.1.2.1, (u.2.1.2.2.1, (u.2.1.2.2.2.1, (u.2.1.2.2.2.2.1, (v, u.2.1.2.2.2.2.2.2)))))), u.2.2))
def cT_gone (u : GS) : Int32 := u.2.1.2.2.2.2.2.2
def cT_gone_set (u : GS) (v : Int32) : GS := (u.1, ((u.2.1.1, (u.2.1.2.1, (u.2.1.2.2.1, (u.2.1.2.2.2.1, (u.2.1.2.2.2.2.1, (u.2.1.2.2.2.2.2.1, v)))))), u.2.2))
def qcD (u : GS) : cD_t := u.2.2.1
def qcD_put (u : GS) (v : cD_t) : GS := (u.1, (u.2.1, (v, u.2.2.2)))
def cD_is (u : GS) : (Nat → Int32) := u.2.2.1.1
def cD_is_set (u : GS) (v : (Nat → Int32)) : GS := (u.1, (u.2.1, ((v, u.2.2.1.2), u.2.2.2)))
def cD_stuckAt (u : GS) : (Nat → Int32) := u.2.2.1.2
def cD_stuckAt_set (u : GS) (v : (Nat → Int32)) : GS := (u.1, (u.2.1, ((u.2.2.1.1, v), u.2.2.2)))
def qcS (u : GS) : cS_t := u.2.2.2.1
def qcS_put (u : GS) (v : cS_t) : GS := (u.1, (u.2.1, (u.2.2.1, (v, u.2.2.2.2))))
def cS_limits (u : GS) : (Nat → Int32) := u.2.2.2.1.1
def cS_limits_set (u : GS) (v : (Nat → Int32)) : GS := (u.1, (u.2.1, (u.2.2.1, ((v, u.2.2.2.1.2), u.2.2.2.2))))
def cS_shown (u : GS) : (Nat → Int32) := u.2.2.2.1.2.1
def cS_shown_set (u : GS) (v : (Nat → Int32)) : GS := (u.1, (u.2.1, (u.2.2.1, ((u.2.2.2.1.1, (v, u.2.2.2.1.2.2)), u.2.2.2.2))))
def cS_loweredAt (u : GS) : (Nat → Int32) := u.2.2.2.1.2.2.1
def cS_loweredAt_set (u : GS) (v : (Nat → Int32)) : GS := (u.1, (u.2.1, (u.2.2.1, ((u.2.2.2.1.1, (u.2.2.2.1.2.1, (v, u.2.2.2.1.2.2.2))), u.2.2.2.2))))
def cS_weather (u : GS) : Int32 := u.2.2.2.1.2.2.2
def cS_weather_set (u : GS) (v : Int32) : GS := (u.1, (u.2.1, (u.2.2.1, ((u.2.2.2.1.1, (u.2.2.2.1.2.1, (u.2.2.2.1.2.2.1, v))), u.2.2.2.2))))
def qcL (u : GS) : cL_t := u.2.2.2.2.1
def qcL_put (u : GS) (v : cL_t) : GS := (u.1, (u.2.1, (u.2.2.1, (u.2.2.2.1, (v, u.2.2.2.2.2)))))
def cL_orders (u : GS) : (Nat → Int32) := u.2.2.2.2.1.1
def cL_orders_set (u : GS) (v : (Nat → Int32)) : GS := (u.1, (u.2.1, (u.2.2.1, (u.2.2.2.1, ((v, u.2.2.2.2.1.2), u.2.2.2.2.2)))))
def cL_told (u : GS) : (Nat → Int32) := u.2.2.2.2.1.2.1
def cL_told_set (u : GS) (v : (Nat → Int32)) : GS := (u.1, (u.2.1, (u.2.2.1, (u.2.2.2.1, ((u.2.2.2.2.1.1, (v, u.2.2.2.2.1.2.2)), u.2.2.2.2.2)))))
def cL_shown (u : GS) : (Nat → Int32) := u.2.2.2.2.1.2.2
def cL_shown_set (u : GS) (v : (Nat → Int32)) : GS := (u.1, (u.2.1, (u.2.2.1, (u.2.2.2.1, ((u.2.2.2.2.1.1, (u.2.2.2.2.1.2.1, v)), u.2.2.2.2.2)))))
def qcH (u : GS) : cH_t := u.2.2.2.2.2.1
def qcH_put (u : GS) (v : cH_t) : GS := (u.1, (u.2.1, (u.2.2.1, (u.2.2.2.1, (u.2.2.2.2.1, (v, u.2.2.2.2.2.2))))))
def cH_open (u : GS) : (Nat → Int32) := u.2.2.2.2.2.1.1
def cH_open_set (u : GS) (v : (Nat → Int32)) : GS := (u.1, (u.2.1, (u.2.2.1, (u.2.2.2.1, (u.2.2.2.2.1, ((v, u.2.2.2.2.2.1.2), u.2.2.2.2.2.2))))))
def cH_foundClearAt (u : GS) : (Nat → Int32) := u.2.2.2.2.2.1.2
def cH_foundClearAt_set (u : GS) (v : (Nat → Int32)) : GS := (u.1, (u.2.1, (u.2.2.1, (u.2.2.2.1, (u.2.2.2.2.1, ((u.2.2.2.2.2.1.1, v), u.2.2.2.2.2.2))))))
def qcI (u : GS) : cI_t := u.2.2.2.2.2.2.1
def qcI_put (u : GS) (v : cI_t) : GS := (u.1, (u.2.1, (u.2.2.1, (u.2.2.2.1, (u.2.2.2.2.1, (u.2.2.2.2.2.1, (v, u.2.2.2.2.2.2.2)))))))
def cI_places (u : GS) : (Nat → Int32) := u.2.2.2.2.2.2.1.1
def cI_places_set (u : GS) (v : (Nat → Int32)) : GS := (u.1, (u.2.1, (u.2.2.1, (u.2.2.2.1, (u.2.2.2.2.1, (u.2.2.2.2.2.1, ((v, u.2.2.2.2.2.2.1.2), u.2.2.2.2.2.2.2)))))))
def cI_how (u : GS) : (Nat → Int32) := u.2.2.2.2.2.2.1.2.1
def cI_how_set (u : GS) (v : (Nat → Int32)) : GS := (u.1, (u.2.1, (u.2.2.1, (u.2.2.2.1, (u.2.2.2.2.1, (u.2.2.2.2.2.1, ((u.2.2.2.2.2.2.1.1, (v, u.2.2.2.2.2.2.1.2.2)), u.2.2.2.2.2.2.2)))))))
def cI_patrols (u : GS) : (Nat → Int32) := u.2.2.2.2.2.2.1.2.2.1
def cI_patrols_set (u : GS) (v : (Nat → Int32)) : GS := (u.1, (u.2.1, (u.2.2.1, (u.2.2.2.1, (u.2.2.2.2.1, (u.2.2.2.2.2.1, ((u.2.2.2.2.2.2.1.1, (u.2.2.2.2.2.2.1.2.1, (v, u.2.2.2.2.2.2.1.2.2.2))), u.2.2.2.2.2.2.2)))))))
def cI_count (u : GS) : Int32 := u.2.2.2.2.2.2.1.2.2.2
def cI_count_set (u : GS) (v : Int32) : GS := (u.1, (u.2.1, (u.2.2.1, (u.2.2.2.1, (u.2.2.2.2.1, (u.2.2.2.2.2.1, ((u.2.2.2.2.2.2.1.1, (u.2.2.2.2.2.2.1.2.1, (u.2.2.2.2.2.2.1.2.2.1, v))), u.2.2.2.2.2.2.2)))))))
def qcP (u : GS) : cP_t := u.2.2.2.2.2.2.2.1
def qcP_put (u : GS) (v : cP_t) : GS := (u.1, (u.2.1, (u.2.2.1, (u.2.2.2.1, (u.2.2.2.2.1, (u.2.2.2.2.2.1, (u.2.2.2.2.2.2.1, (v, u.2.2.2.2.2.2.2.2))))))))
def cP_sections (u : GS) : (Nat → Int32) := u.2.2.2.2.2.2.2.1.1
def cP_sections_set (u : GS) (v : (Nat → Int32)) : GS := (u.1, (u.2.1, (u.2.2.1, (u.2.2.2.1, (u.2.2.2.2.1, (u.2.2.2.2.2.1, (u.2.2.2.2.2.2.1, ((v, u.2.2.2.2.2.2.2.1.2), u.2.2.2.2.2.2.2.2))))))))
def cP_incidents (u : GS) : (Nat → Int32) := u.2.2.2.2.2.2.2.1.2.1
def cP_incidents_set (u : GS) (v : (Nat → Int32)) : GS := (u.1, (u.2.1, (u.2.2.1, (u.2.2.2.1, (u.2.2.2.2.1, (u.2.2.2.2.2.1, (u.2.2.2.2.2.2.1, ((u.2.2.2.2.2.2.2.1.1, (v, u.2.2.2.2.2.2.2.1.2.2)), u.2.2.2.2.2.2.2.2))))))))
def cP_minutesLeft (u : GS) : (Nat → Int32) := u.2.2.2.2.2.2.2.1.2.2
def cP_minutesLeft_set (u : GS) (v : (Nat → Int32)) : GS := (u.1, (u.2.1, (u.2.2.1, (u.2.2.2.1, (u.2.2.2.2.1, (u.2.2.2.2.2.1, (u.2.2.2.2.2.2.1, ((u.2.2.2.2.2.2.2.1.1, (u.2.2.2.2.2.2.2.1.2.1, v)), u.2.2.2.2.2.2.2.2))))))))
def qcB (u : GS) : cB_t := u.2.2.2.2.2.2.2.2.1
def qcB_put (u : GS) (v : cB_t) : GS := (u.1, (u.2.1, (u.2.2.1, (u.2.2.2.1, (u.2.2.2.2.1, (u.2.2.2.2.2.1, (u.2.2.2.2.2.2.1, (u.2.2.2.2.2.2.2.1, (v, u.2.2.2.2.2.2.2.2.2)))))))))
def cB_lanes (u : GS) : (Nat → Int32) := u.2.2.2.2.2.2.2.2.1.1
def cB_lanes_set (u : GS) (v : (Nat → Int32)) : GS := (u.1, (u.2.1, (u.2.2.1, (u.2.2.2.1, (u.2.2.2.2.1, (u.2.2.2.2.2.1, (u.2.2.2.2.2.2.1, (u.2.2.2.2.2.2.2.1, ((v, u.2.2.2.2.2.2.2.2.1.2), u.2.2.2.2.2.2.2.2.2)))))))))
def cB_froms (u : GS) : (Nat → Int32) := u.2.2.2.2.2.2.2.2.1.2.1
def cB_froms_set (u : GS) (v : (Nat → Int32)) : GS := (u.1, (u.2.1, (u.2.2.1, (u.2.2.2.1, (u.2.2.2.2.1, (u.2.2.2.2.2.1, (u.2.2.2.2.2.2.1, (u.2.2.2.2.2.2.2.1, ((u.2.2.2.2.2.2.2.2.1.1, (v, u.2.2.2.2.2.2.2.2.1.2.2)), u.2.2.2.2.2.2.2.2.2)))))))))
def cB_tos (u : GS) : (Nat → Int32) := u.2.2.2.2.2.2.2.2.1.2.2.1
def cB_tos_set (u : GS) (v : (Nat → Int32)) : GS := (u.1, (u.2.1, (u.2.2.1, (u.2.2.2.1, (u.2.2.2.2.1, (u.2.2.2.2.2.1, (u.2.2.2.2.2.2.1, (u.2.2.2.2.2.2.2.1, ((u.2.2.2.2.2.2.2.2.1.1, (u.2.2.2.2.2.2.2.2.1.2.1, (v, u.2.2.2.2.2.2.2.2.1.2.2.2))), u.2.2.2.2.2.2.2.2.2)))))))))
def cB_begins (u : GS) : (Nat → Int32) := u.2.2.2.2.2.2.2.2.1.2.2.2.1
def cB_begins_set (u : GS) (v : (Nat → Int32)) : GS := (u.1, (u.2.1, (u.2.2.1, (u.2.2.2.1, (u.2.2.2.2.1, (u.2.2.2.2.2.1, (u.2.2.2.2.2.2.1, (u.2.2.2.2.2.2.2.1, ((u.2.2.2.2.2.2.2.2.1.1, (u.2.2.2.2.2.2.2.2.1.2.1, (u.2.2.2.2.2.2.2.2.1.2.2.1, (v, u.2.2.2.2.2.2.2.2.1.2.2.2.2)))), u.2.2.2.2.2.2.2.2.2)))))))))
def cB_ends (u : GS) : (Nat → Int32) := u.2.2.2.2.2.2.2.2.1.2.2.2.2.1
def cB_ends_set (u : GS) (v : (Nat → Int32)) : GS := (u.1, (u.2.1, (u.2.2.1, (u.2.2.2.1, (u.2.2.2.2.1, (u.2.2.2.2.2.1, (u.2.2.2.2.2.2.1, (u.2.2.2.2.2.2.2.1, ((u.2.2.2.2.2.2.2.2.1.1, (u.2.2.2.2.2.2.2.2.1.2.1, (u.2.2.2.2.2.2.2.2.1.2.2.1, (u.2.2.2.2.2.2.2.2.1.2.2.2.1, (v, u.2.2.2.2.2.2.2.2.1.2.2.2.2.2))))), u.2.2.2.2.2.2.2.2.2)))))))))
def cB_count (u : GS) : Int32 := u.2.2.2.2.2.2.2.2.1.2.2.2.2.2
def cB_count_set (u : GS) (v : Int32) : GS := (u.1, (u.2.1, (u.2.2.1, (u.2.2.2.1, (u.2.2.2.2.1, (u.2.2.2.2.2.1, (u.2.2.2.2.2.2.1, (u.2.2.2.2.2.2.2.1, ((u.2.2.2.2.2.2.2.2.1.1, (u.2.2.2.2.2.2.2.2.1.2.1, (u.2.2.2.2.2.2.2.2.1.2.2.1, (u.2.2.2.2.2.2.2.2.1.2.2.2.1, (u.2.2.2.2.2.2.2.2.1.2.2.2.2.1, v))))), u.2.2.2.2.2.2.2.2.2)))))))))
def qcK (u : GS) : cK_t := u.2.2.2.2.2.2.2.2.2
def qcK_put (u : GS) (v : cK_t) : GS := (u.1, (u.2.1, (u.2.2.1, (u.2.2.2.1, (u.2.2.2.2.1, (u.2.2.2.2.2.1, (u.2.2.2.2.2.2.1, (u.2.2.2.2.2.2.2.1, (u.2.2.2.2.2.2.2.2.1, v)))))))))
def cK_kept (u : GS) : (Nat → Int32) := u.2.2.2.2.2.2.2.2.2
def cK_kept_set (u : GS) (v : (Nat → Int32)) : GS := (u.1, (u.2.1, (u.2.2.1, (u.2.2.2.1, (u.2.2.2.2.1, (u.2.2.2.2.2.1, (u.2.2.2.2.2.2.1, (u.2.2.2.2.2.2.2.1, (u.2.2.2.2.2.2.2.2.1, v)))))))))
def wC (cI cZ : ClassId) (ad : Nat → Nat) (u : GS) : va_W := [(ad 0, .inr (9, [.int (c_minute u), .ref (ad 1), .ref (ad 2), .ref (ad 3), .ref (ad 4), .ref (ad 5), .ref (ad 6), .ref (ad 7), .ref (ad 8), .ref (ad 9)])), (ad 1, .inr (8, [.ref (ad 10), .ref (ad 11), .ref (ad 12), .int (cT_demand u), .int (cT_came u), .int (cT_waiting u), .int (cT_gone u)])), (ad 2, .inr (1, [.ref (ad 13), .ref (ad 14)])), (ad 3, .inr (7, [.ref (ad 15), .ref (ad 16), .ref (ad 17), .int (cS_weather u)])), (ad 4, .inr (3, [.ref (ad 18), .ref (ad 19), .ref (ad 20)])), (ad 5, .inr (6, [.ref (ad 21), .ref (ad 22)])), (ad 6, .inr (2, [.ref (ad 23), .ref (ad 24), .ref (ad 25), .int (cI_count u)])), (ad 7, .inr (4, [.ref (ad 26), .ref (ad 27), .ref (ad 28)])), (ad 8, .inr (0, [.ref (ad 29), .ref (ad 30), .ref (ad 31), .ref (ad 32), .ref (ad 33), .int (cB_count u)])), (ad 9, .inr (5, [.ref (ad 34)])), (ad 10, .inl (cI, 48, .inl (cT_held u))), (ad 11, .inl (cZ, 48, .inl (cT_stopped u))), (ad 12, .inl (cZ, 12, .inl (cT_broken u))), (ad 13, .inl (cI, 12, .inl (cD_is u))), (ad 14, .inl (cI, 12, .inl (cD_stuckAt u))), (ad 15, .inl (cI, 12, .inl (cS_limits u))), (ad 16, .inl (cI, 12, .inl (cS_shown u))), (ad 17, .inl (cI, 12, .inl (cS_loweredAt u))), (ad 18, .inl (cI, 48, .inl (cL_orders u))), (ad 19, .inl (cI, 48, .inl (cL_told u))), (ad 20, .inl (cI, 48, .inl (cL_shown u))), (ad 21, .inl (cZ, 12, .inl (cH_open u))), (ad 22, .inl (cI, 12, .inl (cH_foundClearAt u))), (ad 23, .inl (cI, 12, .inl (cI_places u))), (ad 24, .inl (cI, 12, .inl (cI_how u))), (ad 25, .inl (cI, 12, .inl (cI_patrols u))), (ad 26, .inl (cI, 3, .inl (cP_sections u))), (ad 27, .inl (cI, 3, .inl (cP_incidents u))), (ad 28, .inl (cI, 3, .inl (cP_minutesLeft u))), (ad 29, .inl (cI, 8, .inl (cB_lanes u))), (ad 30, .inl (cI, 8, .inl (cB_froms u))), (ad 31, .inl (cI, 8, .inl (cB_tos u))), (ad 32, .inl (cI, 8, .inl (cB_begins u))), (ad 33, .inl (cI, 8, .inl (cB_ends u))), (ad 34, .inl (cI, 720, .inl (cK_kept u)))]
abbrev mT_t : Type := (Nat → Int32) × (Nat → Int32) × (Nat → Int32) × Int32 × Int32 × Int32 × Int32
abbrev mD_t : Type := (Nat → Int32) × (Nat → Int32)
abbrev mS_t : Type := (Nat → Int32) × (Nat → Int32) × (Nat → Int32) × Int32
abbrev mL_t : Type := (Nat → Int32)
abbrev mH_t : Type := (Nat → Int32) × (Nat → Int32) × (Nat → Int32)
abbrev mI_t : Type := (Nat → Int32) × (Nat → Int32) × Int32
abbrev mP_t : Type := (Nat → Int32) × (Nat → Int32) × (Nat → Int32)
abbrev mB_t : Type := (Nat → Int32) × (Nat → Int32) × (Nat → Int32) × (Nat → Int32) × (Nat → Int32) × Int32
abbrev mK_t : Type := (Nat → Int32)
abbrev MS : Type := Int32 × Int32 × mT_t × mD_t × mS_t × mL_t × mH_t × mI_t × mP_t × mB_t × mK_t
def m_thrown (u : MS) : Int32 := u.1
def m_thrown_set (u : MS) (v : Int32) : MS := (v, u.2)
def m_now (u : MS) : Int32 := u.2.1
def m_now_set (u : MS) (v : Int32) : MS := (u.1, (v, u.2.2))
def qmT (u : MS) : mT_t := u.2.2.1
def qmT_put (u : MS) (v : mT_t) : MS := (u.1, (u.2.1, (v, u.2.2.2)))
def mT_holding (u : MS) : (Nat → Int32) := u.2.2.1.1
def mT_holding_set (u : MS) (v : (Nat → Int32)) : MS := (u.1, (u.2.1, ((v, u.2.2.1.2), u.2.2.2)))
def mT_isStopped (u : MS) : (Nat → Int32) := u.2.2.1.2.1
def mT_isStopped_set (u : MS) (v : (Nat → Int32)) : MS := (u.1, (u.2.1, ((u.2.2.1.1, (v, u.2.2.1.2.2)), u.2.2.2)))
def mT_isBroken (u : MS) : (Nat → Int32) := u.2.2.1.2.2.1
def mT_isBroken_set (u : MS) (v : (Nat → Int32)) : MS := (u.1, (u.2.1, ((u.2.2.1.1, (u.2.2.1.2.1, (v, u.2.2.1.2.2.2))), u.2.2.2)))
def mT_demand (u : MS) : Int32 := u.2.2.1.2.2.2.1
def mT_demand_set (u : MS) (v : Int32) : MS := (u.1, (u.2.1, ((u.2.2.1.1, (u.2.2.1.2.1, (u.2.2.1.2.2.1, (v, u.2.2.1.2.2.2.2)))), u.2.2.2)))
def mT_came (u : MS) : Int32 := u.2.2.1.2.2.2.2.1
def mT_came_set (u : MS) (v : Int32) : MS := (u.1, (u.2.1, ((u.2.2.1.1, (u.2.2.1.2.1, (u.2.2.1.2.2.1, (u.2.2.1.2.2.2.1, (v, u.2.2.1.2.2.2.2.2))))), u.2.2.2)))
def mT_waiting (u : MS) : Int32 := u.2.2.1.2.2.2.2.2.1
def mT_waiting_set (u : MS) (v : Int32) : MS := (u.1, (u.2.1, ((u.2.2.1.1, (u.2.2.1.2.1, (u.2.2.1.2.2.1, (u.2.2.1.2.2.2.1, (u.2.2.1.2.2.2.2.1, (v, u.2.2.1.2.2.2.2.2.2)))))), u.2.2.2)))
def mT_gone (u : MS) : Int32 := u.2.2.1.2.2.2.2.2.2
def mT_gone_set (u : MS) (v : Int32) : MS := (u.1, (u.2.1, ((u.2.2.1.1, (u.2.2.1.2.1, (u.2.2.1.2.2.1, (u.2.2.1.2.2.2.1, (u.2.2.1.2.2.2.2.1, (u.2.2.1.2.2.2.2.2.1, v)))))), u.2.2.2)))
def qmD (u : MS) : mD_t := u.2.2.2.1
def qmD_put (u : MS) (v : mD_t) : MS := (u.1, (u.2.1, (u.2.2.1, (v, u.2.2.2.2))))
def mD_detects (u : MS) : (Nat → Int32) := u.2.2.2.1.1
def mD_detects_set (u : MS) (v : (Nat → Int32)) : MS := (u.1, (u.2.1, (u.2.2.1, ((v, u.2.2.2.1.2), u.2.2.2.2))))
def mD_stuckAt (u : MS) : (Nat → Int32) := u.2.2.2.1.2
def mD_stuckAt_set (u : MS) (v : (Nat → Int32)) : MS := (u.1, (u.2.1, (u.2.2.1, ((u.2.2.2.1.1, v), u.2.2.2.2))))
def qmS (u : MS) : mS_t := u.2.2.2.2.1
def qmS_put (u : MS) (v : mS_t) : MS := (u.1, (u.2.1, (u.2.2.1, (u.2.2.2.1, (v, u.2.2.2.2.2)))))
def mS_limited (u : MS) : (Nat → Int32) := u.2.2.2.2.1.1
def mS_limited_set (u : MS) (v : (Nat → Int32)) : MS := (u.1, (u.2.1, (u.2.2.1, (u.2.2.2.1, ((v, u.2.2.2.2.1.2), u.2.2.2.2.2)))))
def mS_speedSign (u : MS) : (Nat → Int32) := u.2.2.2.2.1.2.1
def mS_speedSign_set (u : MS) (v : (Nat → Int32)) : MS := (u.1, (u.2.1, (u.2.2.1, (u.2.2.2.1, ((u.2.2.2.2.1.1, (v, u.2.2.2.2.1.2.2)), u.2.2.2.2.2)))))
def mS_lowered (u : MS) : (Nat → Int32) := u.2.2.2.2.1.2.2.1
def mS_lowered_set (u : MS) (v : (Nat → Int32)) : MS := (u.1, (u.2.1, (u.2.2.1, (u.2.2.2.1, ((u.2.2.2.2.1.1, (u.2.2.2.2.1.2.1, (v, u.2.2.2.2.1.2.2.2))), u.2.2.2.2.2)))))
def mS_weather (u : MS) : Int32 := u.2.2.2.2.1.2.2.2
def mS_weather_set (u : MS) (v : Int32) : MS := (u.1, (u.2.1, (u.2.2.1, (u.2.2.2.1, ((u.2.2.2.2.1.1, (u.2.2.2.2.1.2.1, (u.2.2.2.2.1.2.2.1, v))), u.2.2.2.2.2)))))
def qmL (u : MS) : mL_t := u.2.2.2.2.2.1
def qmL_put (u : MS) (v : mL_t) : MS := (u.1, (u.2.1, (u.2.2.1, (u.2.2.2.1, (u.2.2.2.2.1, (v, u.2.2.2.2.2.2))))))
def mL_ordered (u : MS) : (Nat → Int32) := u.2.2.2.2.2.1
def mL_ordered_set (u : MS) (v : (Nat → Int32)) : MS := (u.1, (u.2.1, (u.2.2.1, (u.2.2.2.1, (u.2.2.2.2.1, (v, u.2.2.2.2.2.2))))))
def qmH (u : MS) : mH_t := u.2.2.2.2.2.2.1
def qmH_put (u : MS) (v : mH_t) : MS := (u.1, (u.2.1, (u.2.2.1, (u.2.2.2.1, (u.2.2.2.2.1, (u.2.2.2.2.2.1, (v, u.2.2.2.2.2.2.2)))))))
def mH_isOpen (u : MS) : (Nat → Int32) := u.2.2.2.2.2.2.1.1
def mH_isOpen_set (u : MS) (v : (Nat → Int32)) : MS := (u.1, (u.2.1, (u.2.2.1, (u.2.2.2.1, (u.2.2.2.2.1, (u.2.2.2.2.2.1, ((v, u.2.2.2.2.2.2.1.2), u.2.2.2.2.2.2.2)))))))
def mH_looked (u : MS) : (Nat → Int32) := u.2.2.2.2.2.2.1.2.1
def mH_looked_set (u : MS) (v : (Nat → Int32)) : MS := (u.1, (u.2.1, (u.2.2.1, (u.2.2.2.1, (u.2.2.2.2.1, (u.2.2.2.2.2.1, ((u.2.2.2.2.2.2.1.1, (v, u.2.2.2.2.2.2.1.2.2)), u.2.2.2.2.2.2.2)))))))
def mH_wasClear (u : MS) : (Nat → Int32) := u.2.2.2.2.2.2.1.2.2
def mH_wasClear_set (u : MS) (v : (Nat → Int32)) : MS := (u.1, (u.2.1, (u.2.2.1, (u.2.2.2.1, (u.2.2.2.2.1, (u.2.2.2.2.2.1, ((u.2.2.2.2.2.2.1.1, (u.2.2.2.2.2.2.1.2.1, v)), u.2.2.2.2.2.2.2)))))))
def qmI (u : MS) : mI_t := u.2.2.2.2.2.2.2.1
def qmI_put (u : MS) (v : mI_t) : MS := (u.1, (u.2.1, (u.2.2.1, (u.2.2.2.1, (u.2.2.2.2.1, (u.2.2.2.2.2.1, (u.2.2.2.2.2.2.1, (v, u.2.2.2.2.2.2.2.2))))))))
def mI_placed (u : MS) : (Nat → Int32) := u.2.2.2.2.2.2.2.1.1
def mI_placed_set (u : MS) (v : (Nat → Int32)) : MS := (u.1, (u.2.1, (u.2.2.1, (u.2.2.2.1, (u.2.2.2.2.1, (u.2.2.2.2.2.1, (u.2.2.2.2.2.2.1, ((v, u.2.2.2.2.2.2.2.1.2), u.2.2.2.2.2.2.2.2))))))))
def mI_state (u : MS) : (Nat → Int32) := u.2.2.2.2.2.2.2.1.2.1
def mI_state_set (u : MS) (v : (Nat → Int32)) : MS := (u.1, (u.2.1, (u.2.2.1, (u.2.2.2.1, (u.2.2.2.2.1, (u.2.2.2.2.2.1, (u.2.2.2.2.2.2.1, ((u.2.2.2.2.2.2.2.1.1, (v, u.2.2.2.2.2.2.2.1.2.2)), u.2.2.2.2.2.2.2.2))))))))
def mI_incidents (u : MS) : Int32 := u.2.2.2.2.2.2.2.1.2.2
def mI_incidents_set (u : MS) (v : Int32) : MS := (u.1, (u.2.1, (u.2.2.1, (u.2.2.2.1, (u.2.2.2.2.1, (u.2.2.2.2.2.1, (u.2.2.2.2.2.2.1, ((u.2.2.2.2.2.2.2.1.1, (u.2.2.2.2.2.2.2.1.2.1, v)), u.2.2.2.2.2.2.2.2))))))))
def qmP (u : MS) : mP_t := u.2.2.2.2.2.2.2.2.1
def qmP_put (u : MS) (v : mP_t) : MS := (u.1, (u.2.1, (u.2.2.1, (u.2.2.2.1, (u.2.2.2.2.1, (u.2.2.2.2.2.1, (u.2.2.2.2.2.2.1, (u.2.2.2.2.2.2.2.1, (v, u.2.2.2.2.2.2.2.2.2)))))))))
def mP_at (u : MS) : (Nat → Int32) := u.2.2.2.2.2.2.2.2.1.1
def mP_at_set (u : MS) (v : (Nat → Int32)) : MS := (u.1, (u.2.1, (u.2.2.1, (u.2.2.2.1, (u.2.2.2.2.1, (u.2.2.2.2.2.1, (u.2.2.2.2.2.2.1, (u.2.2.2.2.2.2.2.1, ((v, u.2.2.2.2.2.2.2.2.1.2), u.2.2.2.2.2.2.2.2.2)))))))))
def mP_sentTo (u : MS) : (Nat → Int32) := u.2.2.2.2.2.2.2.2.1.2.1
def mP_sentTo_set (u : MS) (v : (Nat → Int32)) : MS := (u.1, (u.2.1, (u.2.2.1, (u.2.2.2.1, (u.2.2.2.2.1, (u.2.2.2.2.2.1, (u.2.2.2.2.2.2.1, (u.2.2.2.2.2.2.2.1, ((u.2.2.2.2.2.2.2.2.1.1, (v, u.2.2.2.2.2.2.2.2.1.2.2)), u.2.2.2.2.2.2.2.2.2)))))))))
def mP_left (u : MS) : (Nat → Int32) := u.2.2.2.2.2.2.2.2.1.2.2
def mP_left_set (u : MS) (v : (Nat → Int32)) : MS := (u.1, (u.2.1, (u.2.2.1, (u.2.2.2.1, (u.2.2.2.2.1, (u.2.2.2.2.2.1, (u.2.2.2.2.2.2.1, (u.2.2.2.2.2.2.2.1, ((u.2.2.2.2.2.2.2.2.1.1, (u.2.2.2.2.2.2.2.2.1.2.1, v)), u.2.2.2.2.2.2.2.2.2)))))))))
def qmB (u : MS) : mB_t := u.2.2.2.2.2.2.2.2.2.1
def qmB_put (u : MS) (v : mB_t) : MS := (u.1, (u.2.1, (u.2.2.1, (u.2.2.2.1, (u.2.2.2.2.1, (u.2.2.2.2.2.1, (u.2.2.2.2.2.2.1, (u.2.2.2.2.2.2.2.1, (u.2.2.2.2.2.2.2.2.1, (v, u.2.2.2.2.2.2.2.2.2.2))))))))))
def mB_worksLane (u : MS) : (Nat → Int32) := u.2.2.2.2.2.2.2.2.2.1.1
def mB_worksLane_set (u : MS) (v : (Nat → Int32)) : MS := (u.1, (u.2.1, (u.2.2.1, (u.2.2.2.1, (u.2.2.2.2.1, (u.2.2.2.2.2.1, (u.2.2.2.2.2.2.1, (u.2.2.2.2.2.2.2.1, (u.2.2.2.2.2.2.2.2.1, ((v, u.2.2.2.2.2.2.2.2.2.1.2), u.2.2.2.2.2.2.2.2.2.2))))))))))
def mB_worksFrom (u : MS) : (Nat → Int32) := u.2.2.2.2.2.2.2.2.2.1.2.1
def mB_worksFrom_set (u : MS) (v : (Nat → Int32)) : MS := (u.1, (u.2.1, (u.2.2.1, (u.2.2.2.1, (u.2.2.2.2.1, (u.2.2.2.2.2.1, (u.2.2.2.2.2.2.1, (u.2.2.2.2.2.2.2.1, (u.2.2.2.2.2.2.2.2.1, ((u.2.2.2.2.2.2.2.2.2.1.1, (v, u.2.2.2.2.2.2.2.2.2.1.2.2)), u.2.2.2.2.2.2.2.2.2.2))))))))))
def mB_worksTo (u : MS) : (Nat → Int32) := u.2.2.2.2.2.2.2.2.2.1.2.2.1
def mB_worksTo_set (u : MS) (v : (Nat → Int32)) : MS := (u.1, (u.2.1, (u.2.2.1, (u.2.2.2.1, (u.2.2.2.2.1, (u.2.2.2.2.2.1, (u.2.2.2.2.2.2.1, (u.2.2.2.2.2.2.2.1, (u.2.2.2.2.2.2.2.2.1, ((u.2.2.2.2.2.2.2.2.2.1.1, (u.2.2.2.2.2.2.2.2.2.1.2.1, (v, u.2.2.2.2.2.2.2.2.2.1.2.2.2))), u.2.2.2.2.2.2.2.2.2.2))))))))))
def mB_worksBegin (u : MS) : (Nat → Int32) := u.2.2.2.2.2.2.2.2.2.1.2.2.2.1
def mB_worksBegin_set (u : MS) (v : (Nat → Int32)) : MS := (u.1, (u.2.1, (u.2.2.1, (u.2.2.2.1, (u.2.2.2.2.1, (u.2.2.2.2.2.1, (u.2.2.2.2.2.2.1, (u.2.2.2.2.2.2.2.1, (u.2.2.2.2.2.2.2.2.1, ((u.2.2.2.2.2.2.2.2.2.1.1, (u.2.2.2.2.2.2.2.2.2.1.2.1, (u.2.2.2.2.2.2.2.2.2.1.2.2.1, (v, u.2.2.2.2.2.2.2.2.2.1.2.2.2.2)))), u.2.2.2.2.2.2.2.2.2.2))))))))))
def mB_worksEnd (u : MS) : (Nat → Int32) := u.2.2.2.2.2.2.2.2.2.1.2.2.2.2.1
def mB_worksEnd_set (u : MS) (v : (Nat → Int32)) : MS := (u.1, (u.2.1, (u.2.2.1, (u.2.2.2.1, (u.2.2.2.2.1, (u.2.2.2.2.2.1, (u.2.2.2.2.2.2.1, (u.2.2.2.2.2.2.2.1, (u.2.2.2.2.2.2.2.2.1, ((u.2.2.2.2.2.2.2.2.2.1.1, (u.2.2.2.2.2.2.2.2.2.1.2.1, (u.2.2.2.2.2.2.2.2.2.1.2.2.1, (u.2.2.2.2.2.2.2.2.2.1.2.2.2.1, (v, u.2.2.2.2.2.2.2.2.2.1.2.2.2.2.2))))), u.2.2.2.2.2.2.2.2.2.2))))))))))
def mB_works (u : MS) : Int32 := u.2.2.2.2.2.2.2.2.2.1.2.2.2.2.2
def mB_works_set (u : MS) (v : Int32) : MS := (u.1, (u.2.1, (u.2.2.1, (u.2.2.2.1, (u.2.2.2.2.1, (u.2.2.2.2.2.1, (u.2.2.2.2.2.2.1, (u.2.2.2.2.2.2.2.1, (u.2.2.2.2.2.2.2.2.1, ((u.2.2.2.2.2.2.2.2.2.1.1, (u.2.2.2.2.2.2.2.2.2.1.2.1, (u.2.2.2.2.2.2.2.2.2.1.2.2.1, (u.2.2.2.2.2.2.2.2.2.1.2.2.2.1, (u.2.2.2.2.2.2.2.2.2.1.2.2.2.2.1, v))))), u.2.2.2.2.2.2.2.2.2.2))))))))))
def qmK (u : MS) : mK_t := u.2.2.2.2.2.2.2.2.2.2
def qmK_put (u : MS) (v : mK_t) : MS := (u.1, (u.2.1, (u.2.2.1, (u.2.2.2.1, (u.2.2.2.2.1, (u.2.2.2.2.2.1, (u.2.2.2.2.2.2.1, (u.2.2.2.2.2.2.2.1, (u.2.2.2.2.2.2.2.2.1, (u.2.2.2.2.2.2.2.2.2.1, v))))))))))
def mK_proofs (u : MS) : (Nat → Int32) := u.2.2.2.2.2.2.2.2.2.2
def mK_proofs_set (u : MS) (v : (Nat → Int32)) : MS := (u.1, (u.2.1, (u.2.2.1, (u.2.2.2.1, (u.2.2.2.2.1, (u.2.2.2.2.2.1, (u.2.2.2.2.2.2.1, (u.2.2.2.2.2.2.2.1, (u.2.2.2.2.2.2.2.2.1, (u.2.2.2.2.2.2.2.2.2.1, v))))))))))
def wM (cI cZ : ClassId) (ad : Nat → Nat) (u : MS) : va_W := [(ad 0, .inr (10, [.int (m_thrown u), .int (m_now u), .int (mT_demand u), .int (mT_came u), .int (mT_waiting u), .int (mT_gone u), .ref (ad 1), .ref (ad 2), .ref (ad 3), .ref (ad 4), .ref (ad 5), .ref (ad 6), .ref (ad 7), .ref (ad 8), .ref (ad 9), .ref (ad 10), .ref (ad 11), .ref (ad 12), .int (mS_weather u), .int (mI_incidents u), .ref (ad 13), .ref (ad 14), .ref (ad 15), .ref (ad 16), .ref (ad 17), .int (mB_works u), .ref (ad 18), .ref (ad 19), .ref (ad 20), .ref (ad 21), .ref (ad 22), .ref (ad 23)])), (ad 1, .inl (cI, 48, .inl (mT_holding u))), (ad 2, .inl (cZ, 48, .inl (mT_isStopped u))), (ad 3, .inl (cI, 48, .inl (mL_ordered u))), (ad 4, .inl (cZ, 12, .inl (mT_isBroken u))), (ad 5, .inl (cZ, 12, .inl (mH_isOpen u))), (ad 6, .inl (cI, 12, .inl (mH_looked u))), (ad 7, .inl (cZ, 12, .inl (mH_wasClear u))), (ad 8, .inl (cI, 12, .inl (mD_detects u))), (ad 9, .inl (cI, 12, .inl (mD_stuckAt u))), (ad 10, .inl (cI, 12, .inl (mS_limited u))), (ad 11, .inl (cI, 12, .inl (mS_speedSign u))), (ad 12, .inl (cI, 12, .inl (mS_lowered u))), (ad 13, .inl (cI, 12, .inl (mI_placed u))), (ad 14, .inl (cI, 12, .inl (mI_state u))), (ad 15, .inl (cI, 3, .inl (mP_at u))), (ad 16, .inl (cI, 3, .inl (mP_sentTo u))), (ad 17, .inl (cI, 3, .inl (mP_left u))), (ad 18, .inl (cI, 8, .inl (mB_worksLane u))), (ad 19, .inl (cI, 8, .inl (mB_worksFrom u))), (ad 20, .inl (cI, 8, .inl (mB_worksTo u))), (ad 21, .inl (cI, 8, .inl (mB_worksBegin u))), (ad 22, .inl (cI, 8, .inl (mB_worksEnd u))), (ad 23, .inl (cI, 3600, .inl (mK_proofs u)))]
def g_X9_isWithin (p0 : Int32) (p1 : Int32) (p2 : Int32) : Option (Int32) :=
    if p0 < p1 then
    some (0 : Int32)
    else
    if p2 < p0 then
    some (0 : Int32)
    else
    some (1 : Int32)

def g_X0_isRunning (u : GS) (p0 : Int32) (p1 : Int32) : Option (Int32) :=
    g_bind (g_X9_isWithin p0 (0 : Int32) (7 : Int32)) (fun (y1 : Int32) =>
    if y1 = 0 then
    some (0 : Int32)
    else
    g_in p0 8 (
    if p1 < (cB_begins u p0.toNatClampNeg) then
    some (0 : Int32)
    else
    g_in p0 8 (
    if (cB_ends u p0.toNatClampNeg) ≤ p1 then
    some (0 : Int32)
    else
    some (1 : Int32))))

def g_X0_writeNext (u : GS) (p0 : Int32) (p1 : Int32) (p2 : Int32) (p3 : Int32) (p4 : Int32) : Option (GS) :=
    g_bind (g_X9_isWithin (cB_count u) (0 : Int32) (7 : Int32)) (fun (y1 : Int32) =>
    if y1 = 0 then
    some u
    else
    g_in (cB_count u) 8 (
    g_let (cB_lanes_set u (upd (cB_lanes u) (cB_count u).toNatClampNeg p0)) (fun (u5 : GS) =>
    g_in (cB_count u5) 8 (
    g_let (cB_froms_set u5 (upd (cB_froms u5) (cB_count u5).toNatClampNeg p1)) (fun (u7 : GS) =>
    g_in (cB_count u7) 8 (
    g_let (cB_tos_set u7 (upd (cB_tos u7) (cB_count u7).toNatClampNeg p2)) (fun (u9 : GS) =>
    g_in (cB_count u9) 8 (
    g_let (cB_begins_set u9 (upd (cB_begins u9) (cB_count u9).toNatClampNeg p3)) (fun (u11 : GS) =>
    g_in (cB_count u11) 8 (
    g_let (cB_ends_set u11 (upd (cB_ends u11) (cB_count u11).toNatClampNeg p4)) (fun (u13 : GS) =>
    some u13)))))))))))

def g_X0_areInThreeLanes (u : GS) (p0 : Int32) (p1 : Int32) (p2 : Int32) : Option (Int32) :=
    g_in p0 8 (
    g_in p1 8 (
    if (cB_lanes u p0.toNatClampNeg) = (cB_lanes u p1.toNatClampNeg) then
    some (0 : Int32)
    else
    g_in p0 8 (
    g_in p2 8 (
    if (cB_lanes u p0.toNatClampNeg) = (cB_lanes u p2.toNatClampNeg) then
    some (0 : Int32)
    else
    g_in p1 8 (
    g_in p2 8 (
    if (cB_lanes u p1.toNatClampNeg) = (cB_lanes u p2.toNatClampNeg) then
    some (0 : Int32)
    else
    some (1 : Int32)))))))

def g_X0_doMeet (u : GS) (p0 : Int32) (p1 : Int32) (p2 : Int32) : Option (Int32) :=
    g_in p0 8 (
    g_in p1 8 (
    g_in p2 8 (
    g_let (if (cB_froms u p0.toNatClampNeg) < (if (cB_froms u p1.toNatClampNeg) < (cB_froms u p2.toNatClampNeg) then (cB_froms u p2.toNatClampNeg) else (cB_froms u p1.toNatClampNeg)) then (if (cB_froms u p1.toNatClampNeg) < (cB_froms u p2.toNatClampNeg) then (cB_froms u p2.toNatClampNeg) else (cB_froms u p1.toNatClampNeg)) else (cB_froms u p0.toNatClampNeg)) (fun (v4 : Int32) =>
    g_in p0 8 (
    g_in p1 8 (
    g_in p2 8 (
    g_let (if (if (cB_tos u p2.toNatClampNeg) < (cB_tos u p1.toNatClampNeg) then (cB_tos u p2.toNatClampNeg) else (cB_tos u p1.toNatClampNeg)) < (cB_tos u p0.toNatClampNeg) then (if (cB_tos u p2.toNatClampNeg) < (cB_tos u p1.toNatClampNeg) then (cB_tos u p2.toNatClampNeg) else (cB_tos u p1.toNatClampNeg)) else (cB_tos u p0.toNatClampNeg)) (fun (v8 : Int32) =>
    g_in p0 8 (
    g_in p1 8 (
    g_in p2 8 (
    g_let (if (cB_begins u p0.toNatClampNeg) < (if (cB_begins u p1.toNatClampNeg) < (cB_begins u p2.toNatClampNeg) then (cB_begins u p2.toNatClampNeg) else (cB_begins u p1.toNatClampNeg)) then (if (cB_begins u p1.toNatClampNeg) < (cB_begins u p2.toNatClampNeg) then (cB_begins u p2.toNatClampNeg) else (cB_begins u p1.toNatClampNeg)) else (cB_begins u p0.toNatClampNeg)) (fun (v12 : Int32) =>
    g_in p0 8 (
    g_in p1 8 (
    g_in p2 8 (
    g_let (if (if (cB_ends u p2.toNatClampNeg) < (cB_ends u p1.toNatClampNeg) then (cB_ends u p2.toNatClampNeg) else (cB_ends u p1.toNatClampNeg)) < (cB_ends u p0.toNatClampNeg) then (if (cB_ends u p2.toNatClampNeg) < (cB_ends u p1.toNatClampNeg) then (cB_ends u p2.toNatClampNeg) else (cB_ends u p1.toNatClampNeg)) else (cB_ends u p0.toNatClampNeg)) (fun (v16 : Int32) =>
    if v8 < v4 then
    some (0 : Int32)
    else
    if v16 ≤ v12 then
    some (0 : Int32)
    else
    some (1 : Int32)))))))))))))))))

def lp_X0_nextTakesLastLane_27 (u : GS) (x1_17 : Int32) (k : Unit → Option (Int32)) : Nat → Int32 → Option (Int32)
  | 0, _ => none
  | n + 1, x2_27 =>
    if x1_17 ≤ x2_27 then
    k ()
    else
    g_bind (g_X0_areInThreeLanes u x1_17 x2_27 (cB_count u)) (fun (y6 : Int32) =>
    g_let (fun (_ : Unit) => g_let (x2_27 + 1) (fun (v9 : Int32) =>
    lp_X0_nextTakesLastLane_27 u x1_17 k n v9)) (fun (j60_8 : Unit → Option (Int32)) =>
    if y6 = 0 then
    j60_8 ()
    else
    g_bind (g_X0_doMeet u x1_17 x2_27 (cB_count u)) (fun (y11 : Int32) =>
    if y11 = 0 then
    j60_8 ()
    else
    some (1 : Int32))))
def lp_X0_nextTakesLastLane_17 (u : GS) (k : Unit → Option (Int32)) : Nat → Int32 → Option (Int32)
  | 0, _ => none
  | n + 1, x1_17 =>
    if (cB_count u) ≤ x1_17 then
    k ()
    else
    lp_X0_nextTakesLastLane_27 u x1_17 (fun (_ : Unit) => g_let (x1_17 + 1) (fun (v14 : Int32) =>
    lp_X0_nextTakesLastLane_17 u k n v14)) FU (0 : Int32)
def g_X0_nextTakesLastLane (u : GS) : Option (Int32) :=
    g_bind (g_X9_isWithin (cB_count u) (0 : Int32) (7 : Int32)) (fun (y1 : Int32) =>
    if y1 = 0 then
    some (0 : Int32)
    else
    lp_X0_nextTakesLastLane_17 u (fun (_ : Unit) => some (0 : Int32)) FU (0 : Int32))

def g_X9_placeOf (p0 : Int32) (p1 : Int32) : Option (Int32) :=
    some ((p0 * (4 : Int32)) + p1)

def lp_X0_tellCrossesOf_2 (p0 : Int32) (k : GS → Option (GS)) : Nat → Int32 → GS → Option (GS)
  | 0, _, _ => none
  | n + 1, x3_2, w2 =>
    if (12 : Int32) ≤ x3_2 then
    k w2
    else
    g_in p0 8 (
    g_bind (g_X9_placeOf x3_2 (cB_lanes w2 p0.toNatClampNeg)) (fun (y3 : Int32) =>
    g_in p0 8 (
    g_in p0 8 (
    g_bind (g_X9_isWithin x3_2 (cB_froms w2 p0.toNatClampNeg) (cB_tos w2 p0.toNatClampNeg)) (fun (y7 : Int32) =>
    g_let (fun (w55 : GS) => g_let (x3_2 + 1) (fun (v10 : Int32) =>
    lp_X0_tellCrossesOf_2 p0 k n v10 w55)) (fun (j55_9 : GS → Option (GS)) =>
    if y7 = 0 then
    j55_9 w2
    else
    g_bind (g_X9_isWithin y3 (0 : Int32) (47 : Int32)) (fun (y12 : Int32) =>
    if y12 = 0 then
    j55_9 w2
    else
    g_in y3 48 (
    g_let (cL_told_set w2 (upd (cL_told w2) y3.toNatClampNeg (2 : Int32))) (fun (u16 : GS) =>
    j55_9 u16)))))))))
def g_X0_tellCrossesOf (u : GS) (p0 : Int32) : Option (GS) :=
    lp_X0_tellCrossesOf_2 p0 (fun (w2 : GS)  => some w2) FU (0 : Int32) u

def lp_X0_tellCrosses_2 (p0 : Int32) (k : GS → Option (GS)) : Nat → Int32 → GS → Option (GS)
  | 0, _, _ => none
  | n + 1, x3_2, w2 =>
    if (8 : Int32) ≤ x3_2 then
    k w2
    else
    g_let (fun (w31 : GS) => g_let (x3_2 + 1) (fun (v3 : Int32) =>
    lp_X0_tellCrosses_2 p0 k n v3 w31)) (fun (j31_2 : GS → Option (GS)) =>
    if (cB_count w2) ≤ x3_2 then
    j31_2 w2
    else
    g_bind (g_X0_isRunning w2 x3_2 p0) (fun (y5 : Int32) =>
    if y5 = 0 then
    j31_2 w2
    else
    g_bind (g_X0_tellCrossesOf w2 x3_2) (fun (y8 : GS) =>
    j31_2 y8)))
def g_X0_tellCrosses (u : GS) (p0 : Int32) : Option (GS) :=
    lp_X0_tellCrosses_2 p0 (fun (w2 : GS)  => some w2) FU (0 : Int32) u

def lp_X8_mostIn_16 (u : GS) (p0 : Int32) (k : Int32 → Option (Int32)) : Nat → Int32 → Int32 → Option (Int32)
  | 0, _, _ => none
  | n + 1, x2_16, x3_16 =>
    if (4 : Int32) ≤ x3_16 then
    k x2_16
    else
    g_in ((p0 * (4 : Int32)) + x3_16) 48 (
    g_let (cT_held u ((p0 * (4 : Int32)) + x3_16).toNatClampNeg) (fun (v5 : Int32) =>
    g_let (fun (z0_45 : Int32) => g_let (x3_16 + 1) (fun (v7 : Int32) =>
    lp_X8_mostIn_16 u p0 k n z0_45 v7)) (fun (j45_6 : Int32 → Option (Int32)) =>
    if v5 ≤ x2_16 then
    j45_6 x2_16
    else
    j45_6 v5)))
def g_X8_mostIn (u : GS) (p0 : Int32) : Option (Int32) :=
    if p0 < 0 then
    some (0 : Int32)
    else
    if p0 < (12 : Int32) then
    lp_X8_mostIn_16 u p0 (fun (x2_16 : Int32)  => some x2_16) FU (0 : Int32) (0 : Int32)
    else
    some (0 : Int32)

def g_X8_speedAt (u : GS) (p0 : Int32) : Option (Int32) :=
    g_bind (g_X8_mostIn u p0) (fun (y1 : Int32) =>
    some ((120 : Int32) - ((5 : Int32) * y1)))

def lp_X1_guessAt_8 (u : GS) (p0 : Int32) (k : Int32 → Int32 → Option (Int32)) : Nat → Int32 → Int32 → Int32 → Option (Int32)
  | 0, _, _, _ => none
  | n + 1, x3_8, x4_8, x5_8 =>
    if (12 : Int32) ≤ x5_8 then
    k x3_8 x4_8
    else
    g_let (fun (x3_53 : Int32) (x4_53 : Int32) => g_let (x5_8 + 1) (fun (v3 : Int32) =>
    lp_X1_guessAt_8 u p0 k n x3_53 x4_53 v3)) (fun (j53_2 : Int32 → Int32 → Option (Int32)) =>
    g_let (fun (_ : Unit) => g_in x5_8 12 (
    if (cD_is u x5_8.toNatClampNeg) = 0 then
    g_bind (g_X8_speedAt u x5_8) (fun (y7 : Int32) =>
    g_let (x3_8 + y7) (fun (v9 : Int32) =>
    g_let (x4_8 + 1) (fun (v10 : Int32) =>
    j53_2 v9 v10)))
    else
    j53_2 x3_8 x4_8)) (fun (j31_4 : Unit → Option (Int32)) =>
    if x5_8 = (p0 - (1 : Int32)) then
    j31_4 ()
    else
    if x5_8 = (p0 + (1 : Int32)) then
    j31_4 ()
    else
    j53_2 x3_8 x4_8))
def g_X1_guessAt (u : GS) (p0 : Int32) : Option (Int32) :=
    lp_X1_guessAt_8 u p0 (fun (x3_8 : Int32) (x4_8 : Int32)  => if x4_8 = 0 then
    some (-1 : Int32)
    else
    g_nz x4_8 (
    some (x3_8 / x4_8))) FU (0 : Int32) (0 : Int32) (0 : Int32)

def g_X1_beliefAt (u : GS) (p0 : Int32) : Option (Int32) :=
    g_bind (g_X9_isWithin p0 (0 : Int32) (11 : Int32)) (fun (y1 : Int32) =>
    if y1 = 0 then
    some (-1 : Int32)
    else
    g_in p0 12 (
    if (cD_is u p0.toNatClampNeg) = 0 then
    g_bind (g_X8_speedAt u p0) (fun (y14 : Int32) =>
    some y14)
    else
    g_bind (g_X1_guessAt u p0) (fun (y6 : Int32) =>
    g_in p0 12 (
    if (cD_is u p0.toNatClampNeg) = (2 : Int32) then
    some y6
    else
    g_in p0 12 (
    g_let (cD_stuckAt u p0.toNatClampNeg) (fun (v11 : Int32) =>
    if y6 = (-1 : Int32) then
    some v11
    else
    if (if 0 ≤ (y6 - v11) then (y6 - v11) else 0 - (y6 - v11)) ≤ (30 : Int32) then
    some v11
    else
    some y6))))))

def g_X2_has (u : GS) (p0 : Int32) : Option (Int32) :=
    g_bind (g_X9_isWithin p0 (0 : Int32) (11 : Int32)) (fun (y1 : Int32) =>
    if y1 = 0 then
    some (0 : Int32)
    else
    if (cI_count u) ≤ p0 then
    some (0 : Int32)
    else
    some (1 : Int32))

def g_X2_sectionOf (u : GS) (p0 : Int32) : Option (Int32) :=
    g_bind (g_X2_has u p0) (fun (y1 : Int32) =>
    if y1 = 0 then
    some (0 : Int32)
    else
    g_in p0 12 (
    some ((cI_places u p0.toNatClampNeg) / (4 : Int32))))

def lp_X2_canAdd_2 (u : GS) (p0 : Int32) (k : Unit → Option (Int32)) : Nat → Int32 → Option (Int32)
  | 0, _ => none
  | n + 1, x2_2 =>
    if (12 : Int32) ≤ x2_2 then
    k ()
    else
    g_let (fun (_ : Unit) => g_let (x2_2 + 1) (fun (v3 : Int32) =>
    lp_X2_canAdd_2 u p0 k n v3)) (fun (j38_2 : Unit → Option (Int32)) =>
    if (cI_count u) ≤ x2_2 then
    j38_2 ()
    else
    g_in x2_2 12 (
    if (cI_places u x2_2.toNatClampNeg) = p0 then
    g_in x2_2 12 (
    if (cI_how u x2_2.toNatClampNeg) = (2 : Int32) then
    j38_2 ()
    else
    some (0 : Int32))
    else
    j38_2 ()))
def g_X2_canAdd (u : GS) (p0 : Int32) : Option (Int32) :=
    lp_X2_canAdd_2 u p0 (fun (_ : Unit) => if (12 : Int32) ≤ (cI_count u) then
    some (0 : Int32)
    else
    some (1 : Int32)) FU (0 : Int32)

def g_X2_add (u : GS) (p0 : Int32) : Option (Int32 × GS) :=
    g_bind (g_X9_isWithin (cI_count u) (0 : Int32) (11 : Int32)) (fun (y1 : Int32) =>
    if y1 = 0 then
    some ((-1 : Int32), u)
    else
    g_in (cI_count u) 12 (
    g_let (cI_places_set u (upd (cI_places u) (cI_count u).toNatClampNeg p0)) (fun (u5 : GS) =>
    g_in (cI_count u5) 12 (
    g_let (cI_how_set u5 (upd (cI_how u5) (cI_count u5).toNatClampNeg (0 : Int32))) (fun (u7 : GS) =>
    g_in (cI_count u7) 12 (
    g_let (cI_patrols_set u7 (upd (cI_patrols u7) (cI_count u7).toNatClampNeg (-1 : Int32))) (fun (u9 : GS) =>
    g_let (cI_count_set u9 ((cI_count u9) + (1 : Int32))) (fun (u10 : GS) =>
    some (((cI_count u10) - (1 : Int32)), u10)))))))))

def lp_X2_tellCrosses_2 (k : GS → Option (GS)) : Nat → Int32 → GS → Option (GS)
  | 0, _, _ => none
  | n + 1, x2_2, w2 =>
    if (12 : Int32) ≤ x2_2 then
    k w2
    else
    g_let (fun (w50 : GS) => g_let (x2_2 + 1) (fun (v3 : Int32) =>
    lp_X2_tellCrosses_2 k n v3 w50)) (fun (j50_2 : GS → Option (GS)) =>
    if (cI_count w2) ≤ x2_2 then
    j50_2 w2
    else
    g_in x2_2 12 (
    if (cI_how w2 x2_2.toNatClampNeg) = (1 : Int32) then
    g_in x2_2 12 (
    g_bind (g_X9_isWithin (cI_places w2 x2_2.toNatClampNeg) (0 : Int32) (47 : Int32)) (fun (y8 : Int32) =>
    if y8 = 0 then
    j50_2 w2
    else
    g_in x2_2 12 (
    g_in (cI_places w2 x2_2.toNatClampNeg) 48 (
    g_let (cL_told_set w2 (upd (cL_told w2) (cI_places w2 x2_2.toNatClampNeg).toNatClampNeg (2 : Int32))) (fun (u13 : GS) =>
    j50_2 u13)))))
    else
    j50_2 w2))
def g_X2_tellCrosses (u : GS) : Option (GS) :=
    lp_X2_tellCrosses_2 (fun (w2 : GS)  => some w2) FU (0 : Int32) u

def lp_X6_tellCrosses_2 (k : GS → Option (GS)) : Nat → Int32 → GS → Option (GS)
  | 0, _, _ => none
  | n + 1, x2_2, w2 =>
    if (12 : Int32) ≤ x2_2 then
    k w2
    else
    g_in x2_2 12 (
    g_let (fun (w25 : GS) => g_let (x2_2 + 1) (fun (v4 : Int32) =>
    lp_X6_tellCrosses_2 k n v4 w25)) (fun (j25_3 : GS → Option (GS)) =>
    if (cH_open w2 x2_2.toNatClampNeg) = 0 then
    g_bind (g_X9_placeOf x2_2 (0 : Int32)) (fun (y6 : Int32) =>
    g_in y6 48 (
    g_let (cL_told_set w2 (upd (cL_told w2) y6.toNatClampNeg (2 : Int32))) (fun (u9 : GS) =>
    j25_3 u9)))
    else
    j25_3 w2))
def g_X6_tellCrosses (u : GS) : Option (GS) :=
    lp_X6_tellCrosses_2 (fun (w2 : GS)  => some w2) FU (0 : Int32) u

def g_X3_isAheadOfCross_t (u : GS) (p0 : Int32) : Option (Int32) :=
    g_let (p0 + (4 : Int32)) (fun (v1 : Int32) =>
    g_bind (g_X9_isWithin v1 (0 : Int32) (47 : Int32)) (fun (y2 : Int32) =>
    if y2 = 0 then
    some (0 : Int32)
    else
    g_in v1 48 (
    if (cL_told u v1.toNatClampNeg) = (2 : Int32) then
    some (1 : Int32)
    else
    some (0 : Int32))))

def lp_X3_setAnew_3 (k : GS → Option (GS)) : Nat → Int32 → GS → Option (GS)
  | 0, _, _ => none
  | n + 1, x5_3, w3 =>
    if (48 : Int32) ≤ x5_3 then
    k w3
    else
    g_in x5_3 48 (
    g_let (cL_told_set w3 (upd (cL_told w3) x5_3.toNatClampNeg (0 : Int32))) (fun (u3 : GS) =>
    g_let (x5_3 + 1) (fun (v4 : Int32) =>
    lp_X3_setAnew_3 k n v4 u3)))
def lp_X3_setAnew_53 (k : GS → Option (GS)) : Nat → Int32 → GS → Option (GS)
  | 0, _, _ => none
  | n + 1, x5_53, w53 =>
    if (48 : Int32) ≤ x5_53 then
    k w53
    else
    g_in x5_53 48 (
    g_let (fun (w85 : GS) => g_let (x5_53 + 1) (fun (v14 : Int32) =>
    lp_X3_setAnew_53 k n v14 w85)) (fun (j85_13 : GS → Option (GS)) =>
    if (cL_orders w53 x5_53.toNatClampNeg) = (-1 : Int32) then
    j85_13 w53
    else
    g_in x5_53 48 (
    g_in x5_53 48 (
    g_let (cL_told_set w53 (upd (cL_told w53) x5_53.toNatClampNeg (cL_orders w53 x5_53.toNatClampNeg))) (fun (u18 : GS) =>
    j85_13 u18)))))
def lp_X3_setAnew_94 (k : GS → Option (GS)) : Nat → Int32 → GS → Option (GS)
  | 0, _, _ => none
  | n + 1, x5_94, w94 =>
    if (48 : Int32) ≤ x5_94 then
    k w94
    else
    g_in x5_94 48 (
    g_let (fun (z0_140 : Int32) => g_in x5_94 48 (
    g_let (cL_shown_set w94 (upd (cL_shown w94) x5_94.toNatClampNeg z0_140)) (fun (u23 : GS) =>
    g_let (x5_94 + 1) (fun (v24 : Int32) =>
    lp_X3_setAnew_94 k n v24 u23)))) (fun (j140_21 : Int32 → Option (GS)) =>
    g_let (fun (_ : Unit) => g_in x5_94 48 (
    j140_21 (cL_told w94 x5_94.toNatClampNeg))) (fun (j133_25 : Unit → Option (GS)) =>
    if (cL_told w94 x5_94.toNatClampNeg) = 0 then
    g_bind (g_X3_isAheadOfCross_t w94 x5_94) (fun (y28 : Int32) =>
    if y28 = 0 then
    j133_25 ()
    else
    j140_21 (1 : Int32))
    else
    j133_25 ())))
def g_X3_setAnew (u : GS) (p0 : Int32) : Option (GS) :=
    lp_X3_setAnew_3 (fun (w3 : GS)  => g_bind (g_X6_tellCrosses w3) (fun (y5 : GS) =>
    g_bind (g_X2_tellCrosses y5) (fun (y7 : GS) =>
    g_bind (g_X0_tellCrosses y7 p0) (fun (y9 : GS) =>
    lp_X3_setAnew_53 (fun (w53 : GS)  => lp_X3_setAnew_94 (fun (w94 : GS)  => some w94) FU (0 : Int32) w53) FU (0 : Int32) y9)))) FU (0 : Int32) u

def g_X3_isAheadOfCross_s (u : GS) (p0 : Int32) : Option (Int32) :=
    g_let (p0 + (4 : Int32)) (fun (v1 : Int32) =>
    g_bind (g_X9_isWithin v1 (0 : Int32) (47 : Int32)) (fun (y2 : Int32) =>
    if y2 = 0 then
    some (0 : Int32)
    else
    g_in v1 48 (
    if (cL_shown u v1.toNatClampNeg) = (2 : Int32) then
    some (1 : Int32)
    else
    some (0 : Int32))))

def lp_X3_areLawful_2 (u : GS) (k : Unit → Option (Int32)) : Nat → Int32 → Option (Int32)
  | 0, _ => none
  | n + 1, x1_2 =>
    if (48 : Int32) ≤ x1_2 then
    k ()
    else
    g_in x1_2 48 (
    g_let (fun (_ : Unit) => g_let (x1_2 + 1) (fun (v4 : Int32) =>
    lp_X3_areLawful_2 u k n v4)) (fun (j30_3 : Unit → Option (Int32)) =>
    if (cL_shown u x1_2.toNatClampNeg) = 0 then
    g_bind (g_X3_isAheadOfCross_s u x1_2) (fun (y6 : Int32) =>
    if y6 = 0 then
    j30_3 ()
    else
    some (0 : Int32))
    else
    j30_3 ()))
def g_X3_areLawful (u : GS) : Option (Int32) :=
    lp_X3_areLawful_2 u (fun (_ : Unit) => some (1 : Int32)) FU (0 : Int32)

def g_X5_isKept (p0 : Int32) (p1 : Int32) : Option (Int32) :=
    g_bind (g_X9_isWithin p0 ((p1 - (60 : Int32)) + (1 : Int32)) p1) (fun (y1 : Int32) =>
    g_bo y1 (some y1))

def g_J9_floorMod_7cf53 (p0 : Int32) (p1 : Int32) : Option (Int32) :=
    g_nz p1 (
    g_let (p0 - p0 / p1 * p1) (fun (v2 : Int32) =>
    if 0 ≤ (p0 ^^^ p1) then
    some v2
    else
    if v2 = 0 then
    some v2
    else
    some (v2 + p1)))

def g_X5_slotOf (p0 : Int32) (p1 : Int32) : Option (Int32) :=
    g_bind (g_J9_floorMod_7cf53 p0 (60 : Int32)) (fun (y1 : Int32) =>
    some ((y1 * (12 : Int32)) + p1))

def lp_X5_keep_19 (x4_3 : Int32) (w3 : GS) (k : Int32 → Option (GS)) : Nat → Int32 → Int32 → Option (GS)
  | 0, _, _ => none
  | n + 1, x5_19, x6_19 =>
    if x6_19 < 0 then
    k x5_19
    else
    g_bind (g_X9_placeOf x4_3 x6_19) (fun (y5 : Int32) =>
    g_in y5 48 (
    g_let ((x5_19 * (4 : Int32)) + (cL_shown w3 y5.toNatClampNeg)) (fun (v8 : Int32) =>
    g_let (x6_19 + (-1)) (fun (v9 : Int32) =>
    lp_X5_keep_19 x4_3 w3 k n v8 v9))))
def lp_X5_keep_3 (p0 : Int32) (k : GS → Option (GS)) : Nat → Int32 → GS → Option (GS)
  | 0, _, _ => none
  | n + 1, x4_3, w3 =>
    if (12 : Int32) ≤ x4_3 then
    k w3
    else
    g_in x4_3 12 (
    g_let (cS_shown w3 x4_3.toNatClampNeg) (fun (v3 : Int32) =>
    lp_X5_keep_19 x4_3 w3 (fun (x5_19 : Int32)  => g_bind (g_X5_slotOf p0 x4_3) (fun (y10 : Int32) =>
    g_in y10 720 (
    g_let (cK_kept_set w3 (upd (cK_kept w3) y10.toNatClampNeg x5_19)) (fun (u13 : GS) =>
    g_let (x4_3 + 1) (fun (v14 : Int32) =>
    lp_X5_keep_3 p0 k n v14 u13))))) FU v3 (3 : Int32)))
def g_X5_keep (u : GS) (p0 : Int32) : Option (GS) :=
    lp_X5_keep_3 p0 (fun (w3 : GS)  => some w3) FU (0 : Int32) u

def g_X5_speedSign (u : GS) (p0 : Int32) (p1 : Int32) : Option (Int32) :=
    g_bind (g_X5_slotOf p0 p1) (fun (y1 : Int32) =>
    g_in y1 720 (
    some ((cK_kept u y1.toNatClampNeg) >>> ((8 : Int32) &&& 31))))

def g_X5_laneSign (u : GS) (p0 : Int32) (p1 : Int32) (p2 : Int32) : Option (Int32) :=
    g_bind (g_X5_slotOf p0 p1) (fun (y1 : Int32) =>
    g_in y1 720 (
    some (((cK_kept u y1.toNatClampNeg) >>> (((2 : Int32) * p2) &&& 31)) &&& (3 : Int32))))

def g_X6_isOpenAt (u : GS) (p0 : Int32) : Option (Int32) :=
    g_bind (g_X9_isWithin p0 (0 : Int32) (11 : Int32)) (fun (y1 : Int32) =>
    if y1 = 0 then
    some (0 : Int32)
    else
    g_in p0 12 (
    if (cH_open u p0.toNatClampNeg) = 0 then
    some (0 : Int32)
    else
    some (1 : Int32)))

def lp_X6_canOpen_3 (u : GS) (p0 : Int32) (p1 : Int32) (p2 : Int32) (k : Unit → Option (Int32)) : Nat → Int32 → Option (Int32)
  | 0, _ => none
  | n + 1, x4_3 =>
    if (12 : Int32) ≤ x4_3 then
    k ()
    else
    g_bind (g_X9_isWithin x4_3 p0 p1) (fun (y2 : Int32) =>
    g_let (fun (_ : Unit) => g_let (x4_3 + 1) (fun (v5 : Int32) =>
    lp_X6_canOpen_3 u p0 p1 p2 k n v5)) (fun (j35_4 : Unit → Option (Int32)) =>
    if y2 = 0 then
    j35_4 ()
    else
    g_in x4_3 12 (
    if (p2 - (cH_foundClearAt u x4_3.toNatClampNeg)) < (5 : Int32) then
    j35_4 ()
    else
    some (0 : Int32))))
def g_X6_canOpen (u : GS) (p0 : Int32) (p1 : Int32) (p2 : Int32) : Option (Int32) :=
    lp_X6_canOpen_3 u p0 p1 p2 (fun (_ : Unit) => some (1 : Int32)) FU (0 : Int32)

def lp_X6_openAll_5 (p0 : Int32) (p1 : Int32) (k : Int32 → GS → Option (Int32 × GS)) : Nat → Int32 → Int32 → GS → Option (Int32 × GS)
  | 0, _, _, _ => none
  | n + 1, x3_5, x4_5, w5 =>
    if (12 : Int32) ≤ x4_5 then
    k x3_5 w5
    else
    g_bind (g_X9_isWithin x4_5 p0 p1) (fun (y2 : Int32) =>
    g_let (fun (x3_43 : Int32) (w43 : GS) => g_let (x4_5 + 1) (fun (v5 : Int32) =>
    lp_X6_openAll_5 p0 p1 k n x3_43 v5 w43)) (fun (j43_4 : Int32 → GS → Option (Int32 × GS)) =>
    if y2 = 0 then
    j43_4 x3_5 w5
    else
    g_in x4_5 12 (
    if (cH_open w5 x4_5.toNatClampNeg) = 0 then
    g_in x4_5 12 (
    g_let (cH_open_set w5 (upd (cH_open w5) x4_5.toNatClampNeg (vp_nar .boolean (1 : Int32)))) (fun (u10 : GS) =>
    g_let (x3_5 + 1) (fun (v11 : Int32) =>
    j43_4 v11 u10)))
    else
    j43_4 x3_5 w5)))
def g_X6_openAll (u : GS) (p0 : Int32) (p1 : Int32) : Option (Int32 × GS) :=
    lp_X6_openAll_5 p0 p1 (fun (x3_5 : Int32) (w5 : GS)  => some (x3_5, w5)) FU (0 : Int32) (0 : Int32) u

def lp_X6_shutAll_4 (k : Int32 → GS → Option (Int32 × GS)) : Nat → Int32 → Int32 → GS → Option (Int32 × GS)
  | 0, _, _, _ => none
  | n + 1, x1_4, x2_4, w4 =>
    if (12 : Int32) ≤ x2_4 then
    k x1_4 w4
    else
    g_in x2_4 12 (
    g_let (fun (x1_29 : Int32) (w29 : GS) => g_let (x2_4 + 1) (fun (v4 : Int32) =>
    lp_X6_shutAll_4 k n x1_29 v4 w29)) (fun (j29_3 : Int32 → GS → Option (Int32 × GS)) =>
    if (cH_open w4 x2_4.toNatClampNeg) = 0 then
    j29_3 x1_4 w4
    else
    g_in x2_4 12 (
    g_let (cH_open_set w4 (upd (cH_open w4) x2_4.toNatClampNeg (vp_nar .boolean (0 : Int32)))) (fun (u7 : GS) =>
    g_let (x1_4 + 1) (fun (v8 : Int32) =>
    j29_3 v8 u7)))))
def g_X6_shutAll (u : GS) : Option (Int32 × GS) :=
    lp_X6_shutAll_4 (fun (x1_4 : Int32) (w4 : GS)  => some (x1_4, w4)) FU (0 : Int32) (0 : Int32) u

def g_X7_wantBy (p0 : Int32) : Option (Int32) :=
    if p0 = (-1 : Int32) then
    some (60 : Int32)
    else
    if (40 : Int32) ≤ p0 then
    if (60 : Int32) ≤ p0 then
    if (80 : Int32) ≤ p0 then
    some (120 : Int32)
    else
    some (80 : Int32)
    else
    some (60 : Int32)
    else
    some (40 : Int32)

def g_X7_wantAt (u : GS) (p0 : Int32) (p1 : Int32) : Option (Int32) :=
    g_in p0 12 (
    if (cS_limits u p0.toNatClampNeg) = (-1 : Int32) then
    g_bind (g_X9_isWithin (cS_weather u) (0 : Int32) (3 : Int32)) (fun (y3 : Int32) =>
    g_let (fun (z0_42 : Int32) => g_bind (g_X7_wantBy p1) (fun (y6 : Int32) =>
    some (if z0_42 < y6 then z0_42 else y6))) (fun (j42_5 : Int32 → Option (Int32)) =>
    if y3 = 0 then
    j42_5 (120 : Int32)
    else
    g_in (cS_weather u) 4 (
    j42_5 (wlF (cS_weather u).toNatClampNeg))))
    else
    g_in p0 12 (
    some (cS_limits u p0.toNatClampNeg)))

def g_X7_staysBelow (u : GS) (p0 : Int32) (p1 : Int32) (p2 : Int32) : Option (Int32) :=
    g_in p1 12 (
    if (cS_limits u p1.toNatClampNeg) = (-1 : Int32) then
    g_in p1 12 (
    if p0 ≤ (cS_shown u p1.toNatClampNeg) then
    some (0 : Int32)
    else
    g_in p1 12 (
    if (3 : Int32) ≤ (p2 - (cS_loweredAt u p1.toNatClampNeg)) then
    some (0 : Int32)
    else
    some (1 : Int32)))
    else
    some (0 : Int32))

def lp_X7_setAnew_4 (p0 : Int32) (k : GS → Option (GS)) : Nat → Int32 → GS → Option (GS)
  | 0, _, _ => none
  | n + 1, x4_4, w4 =>
    if x4_4 < 0 then
    k w4
    else
    g_bind (g_X1_beliefAt w4 x4_4) (fun (y2 : Int32) =>
    g_bind (g_X7_wantAt w4 x4_4 y2) (fun (y4 : Int32) =>
    g_bind (g_X7_staysBelow w4 y4 x4_4 p0) (fun (y6 : Int32) =>
    g_let (fun (z0_48 : Int32) => g_let (fun (x6_78 : Int32) => g_in x4_4 12 (
    g_let (fun (w98 : GS) => g_in x4_4 12 (
    g_let (cS_shown_set w98 (upd (cS_shown w98) x4_4.toNatClampNeg x6_78)) (fun (u13 : GS) =>
    g_let (x4_4 + (-1)) (fun (v14 : Int32) =>
    lp_X7_setAnew_4 p0 k n v14 u13)))) (fun (j98_11 : GS → Option (GS)) =>
    if (cS_shown w4 x4_4.toNatClampNeg) ≤ x6_78 then
    j98_11 w4
    else
    g_in x4_4 12 (
    g_let (cS_loweredAt_set w4 (upd (cS_loweredAt w4) x4_4.toNatClampNeg p0)) (fun (u17 : GS) =>
    j98_11 u17))))) (fun (j78_9 : Int32 → Option (GS)) =>
    if (12 : Int32) ≤ (x4_4 + (1 : Int32)) then
    j78_9 z0_48
    else
    g_in (x4_4 + (1 : Int32)) 12 (
    g_let (if ((cS_shown w4 (x4_4 + (1 : Int32)).toNatClampNeg) + (20 : Int32)) < z0_48 then ((cS_shown w4 (x4_4 + (1 : Int32)).toNatClampNeg) + (20 : Int32)) else z0_48) (fun (v20 : Int32) =>
    j78_9 v20)))) (fun (j48_8 : Int32 → Option (GS)) =>
    if y6 = 0 then
    j48_8 y4
    else
    g_in x4_4 12 (
    j48_8 (cS_shown w4 x4_4.toNatClampNeg))))))
def g_X7_setAnew (u : GS) (p0 : Int32) : Option (GS) :=
    lp_X7_setAnew_4 p0 (fun (w4 : GS)  => some w4) FU (11 : Int32) u

def lp_X7_areLawful_2 (u : GS) (k : Unit → Option (Int32)) : Nat → Int32 → Option (Int32)
  | 0, _ => none
  | n + 1, x1_2 =>
    if (12 : Int32) ≤ (x1_2 + (1 : Int32)) then
    k ()
    else
    g_in x1_2 12 (
    g_in (x1_2 + (1 : Int32)) 12 (
    if (cS_shown u x1_2.toNatClampNeg) ≤ ((cS_shown u (x1_2 + (1 : Int32)).toNatClampNeg) + (20 : Int32)) then
    g_let (x1_2 + 1) (fun (v5 : Int32) =>
    lp_X7_areLawful_2 u k n v5)
    else
    some (0 : Int32)))
def g_X7_areLawful (u : GS) : Option (Int32) :=
    lp_X7_areLawful_2 u (fun (_ : Unit) => some (1 : Int32)) FU (0 : Int32)

def lp_X8_countOnRoad_4 (u : GS) (k : Int32 → Option (Int32)) : Nat → Int32 → Int32 → Option (Int32)
  | 0, _, _ => none
  | n + 1, x1_4, x2_4 =>
    if (48 : Int32) ≤ x2_4 then
    k x1_4
    else
    g_in x2_4 48 (
    g_let (x1_4 + (cT_held u x2_4.toNatClampNeg)) (fun (v3 : Int32) =>
    g_let (x2_4 + 1) (fun (v4 : Int32) =>
    lp_X8_countOnRoad_4 u k n v3 v4)))
def g_X8_countOnRoad (u : GS) : Option (Int32) :=
    lp_X8_countOnRoad_4 u (fun (x1_4 : Int32)  => some x1_4) FU (0 : Int32) (0 : Int32)

def g_X8_isStoppedAt (u : GS) (p0 : Int32) : Option (Int32) :=
    g_bind (g_X9_isWithin p0 (0 : Int32) (47 : Int32)) (fun (y1 : Int32) =>
    if y1 = 0 then
    some (0 : Int32)
    else
    g_in p0 48 (
    if (cT_stopped u p0.toNatClampNeg) = 0 then
    some (0 : Int32)
    else
    some (1 : Int32)))

def g_X8_heldAt (u : GS) (p0 : Int32) : Option (Int32) :=
    g_bind (g_X9_isWithin p0 (0 : Int32) (47 : Int32)) (fun (y1 : Int32) =>
    if y1 = 0 then
    some (0 : Int32)
    else
    g_in p0 48 (
    some (cT_held u p0.toNatClampNeg)))

def g_X8_isClear (u : GS) (p0 : Int32) : Option (Int32) :=
    g_bind (g_X8_isStoppedAt u p0) (fun (y1 : Int32) =>
    if y1 = 0 then
    g_bind (g_X8_heldAt u p0) (fun (y4 : Int32) =>
    if y4 = 0 then
    some (1 : Int32)
    else
    some (0 : Int32))
    else
    some (0 : Int32))

def g_X8_clearStopped (u : GS) (p0 : Int32) : Option (GS) :=
    g_bind (g_X9_isWithin p0 (0 : Int32) (47 : Int32)) (fun (y1 : Int32) =>
    if y1 = 0 then
    some u
    else
    g_in p0 48 (
    g_let (cT_stopped_set u (upd (cT_stopped u) p0.toNatClampNeg (vp_nar .boolean (0 : Int32)))) (fun (u5 : GS) =>
    some u5)))

def g_X8_mostThatGoOn (u : GS) (p0 : Int32) (p1 : Int32) : Option (Int32) :=
    g_bind (g_X8_isStoppedAt u p1) (fun (y1 : Int32) =>
    if y1 = 0 then
    g_in p0 12 (
    if (cT_broken u p0.toNatClampNeg) = 0 then
    some (8 : Int32)
    else
    some (6 : Int32))
    else
    some (0 : Int32))

def g_X8_letsIn (u : GS) (p0 : Int32) : Option (Int32) :=
    g_bind (g_X9_isWithin p0 (0 : Int32) (47 : Int32)) (fun (y1 : Int32) =>
    if y1 = 0 then
    some (0 : Int32)
    else
    g_in p0 48 (
    if (cL_shown u p0.toNatClampNeg) = (2 : Int32) then
    some (0 : Int32)
    else
    g_in p0 48 (
    if (20 : Int32) ≤ (cT_held u p0.toNatClampNeg) then
    some (0 : Int32)
    else
    some (1 : Int32))))

def lp_X8_placeAhead_24 (u : GS) (p0 : Int32) (p1 : Int32) (k : Unit → Option (Int32)) : Nat → Int32 → Option (Int32)
  | 0, _ => none
  | n + 1, x5_24 =>
    if (3 : Int32) ≤ x5_24 then
    k ()
    else
    g_in x5_24 3 (
    g_let (p1 + (tinF x5_24.toNatClampNeg)) (fun (v7 : Int32) =>
    g_bind (g_X9_isWithin v7 (0 : Int32) (3 : Int32)) (fun (y8 : Int32) =>
    if y8 = 0 then
    g_let (x5_24 + 1) (fun (v11 : Int32) =>
    lp_X8_placeAhead_24 u p0 p1 k n v11)
    else
    g_bind (g_X9_placeOf (p0 + (1 : Int32)) v7) (fun (y12 : Int32) =>
    g_bind (g_X8_letsIn u y12) (fun (y14 : Int32) =>
    if y14 = 0 then
    g_let (x5_24 + 1) (fun (v17 : Int32) =>
    lp_X8_placeAhead_24 u p0 p1 k n v17)
    else
    g_bind (g_X9_placeOf (p0 + (1 : Int32)) v7) (fun (y18 : Int32) =>
    some y18))))))
def lp_X8_placeAhead_24_v2 (u : GS) (p0 : Int32) (p1 : Int32) (k : Unit → Option (Int32)) : Nat → Int32 → Option (Int32)
  | 0, _ => none
  | n + 1, x5_24 =>
    if (3 : Int32) ≤ x5_24 then
    k ()
    else
    g_in x5_24 3 (
    g_let (p1 + (tioF x5_24.toNatClampNeg)) (fun (v22 : Int32) =>
    g_bind (g_X9_isWithin v22 (0 : Int32) (3 : Int32)) (fun (y23 : Int32) =>
    if y23 = 0 then
    g_let (x5_24 + 1) (fun (v26 : Int32) =>
    lp_X8_placeAhead_24_v2 u p0 p1 k n v26)
    else
    g_bind (g_X9_placeOf (p0 + (1 : Int32)) v22) (fun (y27 : Int32) =>
    g_bind (g_X8_letsIn u y27) (fun (y29 : Int32) =>
    if y29 = 0 then
    g_let (x5_24 + 1) (fun (v32 : Int32) =>
    lp_X8_placeAhead_24_v2 u p0 p1 k n v32)
    else
    g_bind (g_X9_placeOf (p0 + (1 : Int32)) v22) (fun (y33 : Int32) =>
    some y33))))))
def g_X8_placeAhead (u : GS) (p0 : Int32) (p1 : Int32) : Option (Int32) :=
    g_bind (g_X9_placeOf p0 p1) (fun (y1 : Int32) =>
    g_in y1 48 (
    if (cL_shown u y1.toNatClampNeg) = 0 then
    lp_X8_placeAhead_24_v2 u p0 p1 (fun (_ : Unit) => some (-1 : Int32)) FU (0 : Int32)
    else
    lp_X8_placeAhead_24 u p0 p1 (fun (_ : Unit) => some (-1 : Int32)) FU (0 : Int32)))

def lp_X8_goOnFrom_28 (p0 : Int32) (p1 : Int32) (y1 : Int32) (v7 : Int32) (k : GS → Option (GS)) : Nat → Int32 → GS → Option (GS)
  | 0, _, _ => none
  | n + 1, x6_28, w28 =>
    if v7 ≤ x6_28 then
    k w28
    else
    g_let (fun (w81 : GS) => g_in y1 48 (
    g_in y1 48 (
    g_let (cT_held_set w81 (upd (cT_held w81) y1.toNatClampNeg ((cT_held w81 y1.toNatClampNeg) - (1 : Int32)))) (fun (u12 : GS) =>
    g_let (x6_28 + 1) (fun (v13 : Int32) =>
    lp_X8_goOnFrom_28 p0 p1 y1 v7 k n v13 u12))))) (fun (j81_9 : GS → Option (GS)) =>
    if p0 = (11 : Int32) then
    g_let (cT_gone_set w28 ((cT_gone w28) + (1 : Int32))) (fun (u21 : GS) =>
    j81_9 u21)
    else
    g_bind (g_X8_placeAhead w28 p0 p1) (fun (y15 : Int32) =>
    if y15 = (-1 : Int32) then
    some w28
    else
    g_in y15 48 (
    g_in y15 48 (
    g_let (cT_held_set w28 (upd (cT_held w28) y15.toNatClampNeg ((cT_held w28 y15.toNatClampNeg) + (1 : Int32)))) (fun (u20 : GS) =>
    j81_9 u20)))))
def g_X8_goOnFrom (u : GS) (p0 : Int32) (p1 : Int32) : Option (GS) :=
    g_bind (g_X9_placeOf p0 p1) (fun (y1 : Int32) =>
    g_bind (g_X8_heldAt u y1) (fun (y3 : Int32) =>
    g_bind (g_X8_mostThatGoOn u p0 y1) (fun (y5 : Int32) =>
    g_let (if y5 < y3 then y5 else y3) (fun (v7 : Int32) =>
    lp_X8_goOnFrom_28 p0 p1 y1 v7 (fun (w28 : GS)  => some w28) FU (0 : Int32) u))))

def lp_X8_goOn_9 (x2_3 : Int32) (k : GS → Option (GS)) : Nat → Int32 → GS → Option (GS)
  | 0, _, _ => none
  | n + 1, x3_9, w9 =>
    if (4 : Int32) ≤ x3_9 then
    k w9
    else
    g_bind (g_X8_goOnFrom w9 x2_3 x3_9) (fun (y3 : GS) =>
    g_let (x3_9 + 1) (fun (v5 : Int32) =>
    lp_X8_goOn_9 x2_3 k n v5 y3))
def lp_X8_goOn_3 (k : GS → Option (GS)) : Nat → Int32 → GS → Option (GS)
  | 0, _, _ => none
  | n + 1, x2_3, w3 =>
    if x2_3 < 0 then
    k w3
    else
    lp_X8_goOn_9 x2_3 (fun (w9 : GS)  => g_let (x2_3 + (-1)) (fun (v6 : Int32) =>
    lp_X8_goOn_3 k n v6 w9)) FU (0 : Int32) w3
def g_X8_goOn (u : GS) : Option (GS) :=
    lp_X8_goOn_3 (fun (w3 : GS)  => some w3) FU (11 : Int32) u

def lp_X8_laneToEnter_4 (u : GS) (k : Int32 → Option (Int32)) : Nat → Int32 → Int32 → Option (Int32)
  | 0, _, _ => none
  | n + 1, x2_4, x3_4 =>
    if (4 : Int32) ≤ x3_4 then
    k x2_4
    else
    g_bind (g_X8_letsIn u x3_4) (fun (y2 : Int32) =>
    g_let (fun (x2_40 : Int32) => g_let (x3_4 + 1) (fun (v5 : Int32) =>
    lp_X8_laneToEnter_4 u k n x2_40 v5)) (fun (j40_4 : Int32 → Option (Int32)) =>
    if y2 = 0 then
    j40_4 x2_4
    else
    g_let (fun (_ : Unit) => j40_4 x3_4) (fun (j38_7 : Unit → Option (Int32)) =>
    if x2_4 = (-1 : Int32) then
    j38_7 ()
    else
    g_in x3_4 48 (
    g_in x2_4 48 (
    if (cT_held u x2_4.toNatClampNeg) ≤ (cT_held u x3_4.toNatClampNeg) then
    j40_4 x2_4
    else
    j38_7 ())))))
def g_X8_laneToEnter (u : GS) : Option (Int32) :=
    lp_X8_laneToEnter_4 u (fun (x2_4 : Int32)  => some x2_4) FU (-1 : Int32) (0 : Int32)

def lp_X8_arrive_28 (k : GS → Option (GS)) : Nat → Int32 → GS → Option (GS)
  | 0, _, _ => none
  | n + 1, x2_28, w28 =>
    if (80 : Int32) ≤ x2_28 then
    k w28
    else
    if (cT_waiting w28) ≤ 0 then
    k w28
    else
    g_bind (g_X8_laneToEnter w28) (fun (y5 : Int32) =>
    if y5 = (-1 : Int32) then
    some w28
    else
    g_in y5 48 (
    g_in y5 48 (
    g_let (cT_held_set w28 (upd (cT_held w28) y5.toNatClampNeg ((cT_held w28 y5.toNatClampNeg) + (1 : Int32)))) (fun (u10 : GS) =>
    g_let (cT_waiting_set u10 ((cT_waiting u10) - (1 : Int32))) (fun (u11 : GS) =>
    g_let (x2_28 + 1) (fun (v12 : Int32) =>
    lp_X8_arrive_28 k n v12 u11))))))
def g_X8_arrive (u : GS) : Option (GS) :=
    g_let (cT_came_set u ((cT_came u) + (cT_demand u))) (fun (u1 : GS) =>
    g_let (cT_waiting_set u1 ((cT_waiting u1) + (cT_demand u1))) (fun (u2 : GS) =>
    lp_X8_arrive_28 (fun (w28 : GS)  => some w28) FU (0 : Int32) u2))

def lp_X8_judgeBroken_2 (k : GS → Option (GS)) : Nat → Int32 → GS → Option (GS)
  | 0, _, _ => none
  | n + 1, x1_2, w2 =>
    if (12 : Int32) ≤ x1_2 then
    k w2
    else
    g_bind (g_X8_mostIn w2 x1_2) (fun (y2 : Int32) =>
    g_let (fun (z0_45 : Int32) => g_in x1_2 12 (
    g_let (cT_broken_set w2 (upd (cT_broken w2) x1_2.toNatClampNeg (vp_nar .boolean z0_45))) (fun (u6 : GS) =>
    g_let (x1_2 + 1) (fun (v7 : Int32) =>
    lp_X8_judgeBroken_2 k n v7 u6)))) (fun (j45_4 : Int32 → Option (GS)) =>
    g_let (fun (_ : Unit) => j45_4 (1 : Int32)) (fun (j40_8 : Unit → Option (GS)) =>
    if (15 : Int32) ≤ y2 then
    j40_8 ()
    else
    g_in x1_2 12 (
    g_let (fun (_ : Unit) => j45_4 (0 : Int32)) (fun (j44_11 : Unit → Option (GS)) =>
    if (cT_broken w2 x1_2.toNatClampNeg) = 0 then
    j44_11 ()
    else
    if y2 < (8 : Int32) then
    j44_11 ()
    else
    j40_8 ())))))
def g_X8_judgeBroken (u : GS) : Option (GS) :=
    lp_X8_judgeBroken_2 (fun (w2 : GS)  => some w2) FU (0 : Int32) u

def g_X9_needArgument (u : GS) (p0 : Int32) : Option (g_X × GS) :=
    if p0 = 0 then
    some (.inr "java/lang/IllegalArgumentException", u)
    else
    some (.inl 0, u)

def g_X9_demand (u : GS) (p0 : Int32) : Option (g_X × GS) :=
    g_bind (g_X9_isWithin p0 (0 : Int32) (40 : Int32)) (fun (y1 : Int32) =>
    g_xb (g_X9_needArgument u y1) id (fun (y3 : Int32) (u4 : GS) =>
    g_let (cT_demand u4) (fun (v6 : Int32) =>
    g_let (cT_demand_set u4 p0) (fun (u7 : GS) =>
    some (.inl v6, u7)))))

def g_X9_needState (u : GS) (p0 : Int32) : Option (g_X × GS) :=
    if p0 = 0 then
    some (.inr "java/lang/IllegalStateException", u)
    else
    some (.inl 0, u)

def g_X9_endWorkOf (u : GS) (p0 : Int32) : Option (GS) :=
    g_in p0 3 (
    g_let (cP_incidents u p0.toNatClampNeg) (fun (v2 : Int32) =>
    g_bind (g_X2_has u v2) (fun (y3 : Int32) =>
    g_let (fun (w74 : GS) => g_in p0 3 (
    g_let (cP_incidents_set w74 (upd (cP_incidents w74) p0.toNatClampNeg (-1 : Int32))) (fun (u7 : GS) =>
    some u7))) (fun (j74_5 : GS → Option (GS)) =>
    if y3 = 0 then
    j74_5 u
    else
    g_in v2 12 (
    g_bind (g_X8_clearStopped u (cI_places u v2.toNatClampNeg)) (fun (y10 : GS) =>
    g_in v2 12 (
    g_let (cI_how_set y10 (upd (cI_how y10) v2.toNatClampNeg (2 : Int32))) (fun (u13 : GS) =>
    g_in v2 12 (
    g_let (cI_patrols_set u13 (upd (cI_patrols u13) v2.toNatClampNeg (-1 : Int32))) (fun (u15 : GS) =>
    g_bind (g_X2_sectionOf u15 v2) (fun (y16 : Int32) =>
    g_in p0 3 (
    g_let (cP_sections_set u15 (upd (cP_sections u15) p0.toNatClampNeg y16)) (fun (u19 : GS) =>
    j74_5 u19)))))))))))))

def lp_X9_movePatrols_2 (k : GS → Option (GS)) : Nat → Int32 → GS → Option (GS)
  | 0, _, _ => none
  | n + 1, x1_2, w2 =>
    if (3 : Int32) ≤ x1_2 then
    k w2
    else
    g_in x1_2 3 (
    g_let (fun (w50 : GS) => g_let (x1_2 + 1) (fun (v4 : Int32) =>
    lp_X9_movePatrols_2 k n v4 w50)) (fun (j50_3 : GS → Option (GS)) =>
    if (cP_incidents w2 x1_2.toNatClampNeg) = (-1 : Int32) then
    j50_3 w2
    else
    g_in x1_2 3 (
    g_in x1_2 3 (
    g_let (cP_minutesLeft_set w2 (upd (cP_minutesLeft w2) x1_2.toNatClampNeg ((cP_minutesLeft w2 x1_2.toNatClampNeg) - (1 : Int32)))) (fun (u8 : GS) =>
    g_in x1_2 3 (
    if 0 < (cP_minutesLeft u8 x1_2.toNatClampNeg) then
    j50_3 u8
    else
    g_bind (g_X9_endWorkOf u8 x1_2) (fun (y11 : GS) =>
    j50_3 y11)))))))
def g_X9_movePatrols (u : GS) : Option (GS) :=
    lp_X9_movePatrols_2 (fun (w2 : GS)  => some w2) FU (0 : Int32) u

def g_X9_setLaneSigns (u : GS) : Option (GS) :=
    g_bind (g_X3_setAnew u (c_minute u)) (fun (y1 : GS) =>
    some y1)

def g_X9_comeToNextMinute (u : GS) : Option (GS) :=
    g_let (c_minute_set u ((c_minute u) + (1 : Int32))) (fun (u1 : GS) =>
    g_bind (g_X9_movePatrols u1) (fun (y2 : GS) =>
    g_bind (g_X9_setLaneSigns y2) (fun (y4 : GS) =>
    g_bind (g_X8_goOn y4) (fun (y6 : GS) =>
    g_bind (g_X8_arrive y6) (fun (y8 : GS) =>
    g_bind (g_X8_judgeBroken y8) (fun (y10 : GS) =>
    g_bind (g_X7_setAnew y10 (c_minute y10)) (fun (y12 : GS) =>
    g_bind (g_X5_keep y12 (c_minute y12)) (fun (y14 : GS) =>
    some y14))))))))

def lp_X9_pass_32 (p0 : Int32) (k : GS → Option (g_X × GS)) : Nat → Int32 → GS → Option (g_X × GS)
  | 0, _, _ => none
  | n + 1, x2_32, w32 =>
    if p0 ≤ x2_32 then
    k w32
    else
    g_bind (g_X9_comeToNextMinute w32) (fun (y11 : GS) =>
    g_let (x2_32 + 1) (fun (v13 : Int32) =>
    lp_X9_pass_32 p0 k n v13 y11))
def g_X9_pass (u : GS) (p0 : Int32) : Option (g_X × GS) :=
    g_bind (g_X9_isWithin p0 (1 : Int32) (60 : Int32)) (fun (y1 : Int32) =>
    g_xb (g_X9_needArgument u y1) id (fun (y3 : Int32) (u4 : GS) =>
    g_let (fun (z0_27 : Int32) => g_xb (g_X9_needState u4 z0_27) id (fun (y7 : Int32) (u8 : GS) =>
    lp_X9_pass_32 p0 (fun (w32 : GS)  => some (.inl (c_minute w32), w32)) FU (0 : Int32) u8)) (fun (j27_6 : Int32 → Option (g_X × GS)) =>
    if (600 : Int32) < ((c_minute u4) + p0) then
    j27_6 (0 : Int32)
    else
    j27_6 (1 : Int32))))

def g_X9_needIndex (u : GS) (p0 : Int32) : Option (g_X × GS) :=
    if p0 = 0 then
    some (.inr "java/lang/IndexOutOfBoundsException", u)
    else
    some (.inl 0, u)

def g_X9_needSection (u : GS) (p0 : Int32) : Option (g_X × GS) :=
    g_bind (g_X9_isWithin p0 (0 : Int32) (11 : Int32)) (fun (y1 : Int32) =>
    g_xb (g_X9_needIndex u y1) id (fun (y3 : Int32) (u4 : GS) =>
    some (.inl 0, u4)))

def g_X9_needPlace (u : GS) (p0 : Int32) (p1 : Int32) : Option (g_X × GS) :=
    g_xb (g_X9_needSection u p0) id (fun (y1 : Int32) (u2 : GS) =>
    g_bind (g_X9_isWithin p1 (0 : Int32) (3 : Int32)) (fun (y4 : Int32) =>
    g_xb (g_X9_needIndex u2 y4) id (fun (y6 : Int32) (u7 : GS) =>
    some (.inl 0, u7))))

def g_X9_holds (u : GS) (p0 : Int32) (p1 : Int32) : Option (g_X × GS) :=
    g_xb (g_X9_needPlace u p0 p1) id (fun (y1 : Int32) (u2 : GS) =>
    g_bind (g_X9_placeOf p0 p1) (fun (y4 : Int32) =>
    g_in y4 48 (
    some (.inl (cT_held u2 y4.toNatClampNeg), u2))))

def g_X9_vehicles (u : GS) (p0 : Int32) : Option (g_X × GS) :=
    g_bind (g_X9_isWithin p0 (0 : Int32) (3 : Int32)) (fun (y1 : Int32) =>
    g_xb (g_X9_needArgument u y1) id (fun (y3 : Int32) (u4 : GS) =>
    if p0 = 0 then
    some (.inl (cT_came u4), u4)
    else
    if p0 = 1 then
    g_bind (g_X8_countOnRoad u4) (fun (y6 : Int32) =>
    some (.inl y6, u4))
    else
    if p0 = 2 then
    some (.inl (cT_waiting u4), u4)
    else
    some (.inl (cT_gone u4), u4)))

def g_X9_section (u : GS) (p0 : Int32) (p1 : Int32) : Option (g_X × GS) :=
    g_xb (g_X9_needSection u p0) id (fun (y1 : Int32) (u2 : GS) =>
    g_bind (g_X9_isWithin p1 (0 : Int32) (5 : Int32)) (fun (y4 : Int32) =>
    g_xb (g_X9_needArgument u2 y4) id (fun (y6 : Int32) (u7 : GS) =>
    if p1 = 0 then
    g_bind (g_X8_speedAt u7 p0) (fun (y9 : Int32) =>
    some (.inl y9, u7))
    else
    if p1 = 1 then
    g_bind (g_X1_beliefAt u7 p0) (fun (y11 : Int32) =>
    some (.inl y11, u7))
    else
    if p1 = 2 then
    g_bind (g_X1_guessAt u7 p0) (fun (y13 : Int32) =>
    some (.inl y13, u7))
    else
    if p1 = 3 then
    g_in p0 12 (
    some (.inl (cS_shown u7 p0.toNatClampNeg), u7))
    else
    if p1 = 4 then
    g_in p0 12 (
    if (cT_broken u7 p0.toNatClampNeg) = 0 then
    some (.inl (0 : Int32), u7)
    else
    some (.inl (1 : Int32), u7))
    else
    g_in p0 12 (
    some (.inl (cD_is u7 p0.toNatClampNeg), u7)))))

def g_X9_detector (u : GS) (p0 : Int32) (p1 : Int32) (p2 : Int32) : Option (g_X × GS) :=
    g_xb (g_X9_needSection u p0) id (fun (y1 : Int32) (u2 : GS) =>
    g_bind (g_X9_isWithin p1 (0 : Int32) (2 : Int32)) (fun (y4 : Int32) =>
    g_xb (g_X9_needArgument u2 y4) id (fun (y6 : Int32) (u7 : GS) =>
    g_let (fun (z0_33 : Int32) => g_xb (g_X9_needArgument u7 z0_33) id (fun (y10 : Int32) (u11 : GS) =>
    g_in p0 12 (
    g_let (cD_is u11 p0.toNatClampNeg) (fun (v14 : Int32) =>
    g_in p0 12 (
    g_let (cD_is_set u11 (upd (cD_is u11) p0.toNatClampNeg p1)) (fun (u16 : GS) =>
    g_in p0 12 (
    g_let (cD_stuckAt_set u16 (upd (cD_stuckAt u16) p0.toNatClampNeg p2)) (fun (u18 : GS) =>
    some (.inl v14, u18))))))))) (fun (j33_9 : Int32 → Option (g_X × GS)) =>
    g_let (fun (_ : Unit) => j33_9 (1 : Int32)) (fun (j28_19 : Unit → Option (g_X × GS)) =>
    if p1 = (1 : Int32) then
    g_bind (g_X9_isWithin p2 (0 : Int32) (120 : Int32)) (fun (y21 : Int32) =>
    if y21 = 0 then
    j33_9 (0 : Int32)
    else
    j28_19 ())
    else
    j28_19 ())))))

def g_X9_weather (u : GS) (p0 : Int32) : Option (g_X × GS) :=
    g_bind (g_X9_isWithin p0 (0 : Int32) (3 : Int32)) (fun (y1 : Int32) =>
    g_xb (g_X9_needArgument u y1) id (fun (y3 : Int32) (u4 : GS) =>
    g_let (cS_weather u4) (fun (v6 : Int32) =>
    g_let (cS_weather_set u4 p0) (fun (u7 : GS) =>
    some (.inl v6, u7)))))

def g_X9_isSpeedSign (p0 : Int32) : Option (Int32) :=
    g_bind (g_X9_isWithin p0 (40 : Int32) (120 : Int32)) (fun (y1 : Int32) =>
    if y1 = 0 then
    some (0 : Int32)
    else
    if (p0 - p0 / (20 : Int32) * (20 : Int32)) = 0 then
    some (1 : Int32)
    else
    some (0 : Int32))

def g_X9_limit (u : GS) (p0 : Int32) (p1 : Int32) : Option (g_X × GS) :=
    g_xb (g_X9_needSection u p0) id (fun (y1 : Int32) (u2 : GS) =>
    g_let (fun (z0_21 : Int32) => g_xb (g_X9_needArgument u2 z0_21) id (fun (y5 : Int32) (u6 : GS) =>
    g_in p0 12 (
    g_let (cS_limits u6 p0.toNatClampNeg) (fun (v9 : Int32) =>
    g_in p0 12 (
    g_let (cS_limits_set u6 (upd (cS_limits u6) p0.toNatClampNeg p1)) (fun (u11 : GS) =>
    some (.inl v9, u11))))))) (fun (j21_4 : Int32 → Option (g_X × GS)) =>
    g_let (fun (_ : Unit) => j21_4 (1 : Int32)) (fun (j16_12 : Unit → Option (g_X × GS)) =>
    if p1 = (-1 : Int32) then
    j16_12 ()
    else
    g_bind (g_X9_isSpeedSign p1) (fun (y14 : Int32) =>
    if y14 = 0 then
    j21_4 (0 : Int32)
    else
    j16_12 ()))))

def g_X9_order (u : GS) (p0 : Int32) (p1 : Int32) (p2 : Int32) : Option (g_X × GS) :=
    g_xb (g_X9_needPlace u p0 p1) id (fun (y1 : Int32) (u2 : GS) =>
    g_let (fun (z0_24 : Int32) => g_xb (g_X9_needArgument u2 z0_24) id (fun (y5 : Int32) (u6 : GS) =>
    g_let (fun (z0_41 : Int32) => g_xb (g_X9_needState u6 z0_41) id (fun (y9 : Int32) (u10 : GS) =>
    g_bind (g_X9_placeOf p0 p1) (fun (y12 : Int32) =>
    g_in y12 48 (
    g_let (cL_orders u10 y12.toNatClampNeg) (fun (v15 : Int32) =>
    g_in y12 48 (
    g_let (cL_orders_set u10 (upd (cL_orders u10) y12.toNatClampNeg p2)) (fun (u17 : GS) =>
    some (.inl v15, u17)))))))) (fun (j41_8 : Int32 → Option (g_X × GS)) =>
    g_let (fun (_ : Unit) => j41_8 (1 : Int32)) (fun (j36_18 : Unit → Option (g_X × GS)) =>
    if p2 = (2 : Int32) then
    if p0 = 0 then
    j41_8 (0 : Int32)
    else
    j36_18 ()
    else
    j36_18 ())))) (fun (j24_4 : Int32 → Option (g_X × GS)) =>
    g_let (fun (_ : Unit) => j24_4 (1 : Int32)) (fun (j19_21 : Unit → Option (g_X × GS)) =>
    if p2 = (-1 : Int32) then
    j19_21 ()
    else
    g_bind (g_X9_isWithin p2 (0 : Int32) (2 : Int32)) (fun (y23 : Int32) =>
    if y23 = 0 then
    j24_4 (0 : Int32)
    else
    j19_21 ()))))

def g_X9_sign (u : GS) (p0 : Int32) (p1 : Int32) : Option (g_X × GS) :=
    g_xb (g_X9_needPlace u p0 p1) id (fun (y1 : Int32) (u2 : GS) =>
    g_bind (g_X9_setLaneSigns u2) (fun (y4 : GS) =>
    g_bind (g_X9_placeOf p0 p1) (fun (y6 : Int32) =>
    g_in y6 48 (
    some (.inl (cL_shown y4 y6.toNatClampNeg), y4)))))

def g_X9_isLawful (u : GS) : Option (Int32 × GS) :=
    g_bind (g_X9_setLaneSigns u) (fun (y1 : GS) =>
    g_bind (g_X7_areLawful y1) (fun (y3 : Int32) =>
    if y3 = 0 then
    some ((0 : Int32), y1)
    else
    g_bind (g_X3_areLawful y1) (fun (y6 : Int32) =>
    if y6 = 0 then
    some ((0 : Int32), y1)
    else
    some ((1 : Int32), y1))))

def g_X9_look (u : GS) (p0 : Int32) : Option (g_X × GS) :=
    g_xb (g_X9_needSection u p0) id (fun (y1 : Int32) (u2 : GS) =>
    g_bind (g_X9_placeOf p0 (0 : Int32)) (fun (y4 : Int32) =>
    g_bind (g_X8_isClear u2 y4) (fun (y6 : Int32) =>
    g_let (fun (z0_39 : Int32) => g_in p0 12 (
    g_let (cH_foundClearAt_set u2 (upd (cH_foundClearAt u2) p0.toNatClampNeg z0_39)) (fun (u10 : GS) =>
    g_bo y6 (some (.inl y6, u10))))) (fun (j39_8 : Int32 → Option (g_X × GS)) =>
    if y6 = 0 then
    j39_8 (-1000 : Int32)
    else
    j39_8 (c_minute u2)))))

def g_X9_openShoulder (u : GS) (p0 : Int32) (p1 : Int32) : Option (g_X × GS) :=
    g_xb (g_X9_needSection u p0) id (fun (y1 : Int32) (u2 : GS) =>
    g_xb (g_X9_needSection u2 p1) id (fun (y4 : Int32) (u5 : GS) =>
    g_let (fun (z0_18 : Int32) => g_xb (g_X9_needArgument u5 z0_18) id (fun (y8 : Int32) (u9 : GS) =>
    g_bind (g_X6_canOpen u9 p0 p1 (c_minute u9)) (fun (y11 : Int32) =>
    g_xb (g_X9_needState u9 y11) id (fun (y13 : Int32) (u14 : GS) =>
    g_bind (g_X6_openAll u14 p0 p1) (fun (y16 : Int32 × GS) =>
    some (.inl y16.1, y16.2)))))) (fun (j18_7 : Int32 → Option (g_X × GS)) =>
    if p1 < p0 then
    j18_7 (0 : Int32)
    else
    j18_7 (1 : Int32))))

def g_X9_shutShoulder (u : GS) : Option (Int32 × GS) :=
    g_bind (g_X6_shutAll u) (fun (y1 : Int32 × GS) =>
    some (y1.1, y1.2))

def g_X9_stop (u : GS) (p0 : Int32) (p1 : Int32) : Option (g_X × GS) :=
    g_xb (g_X9_needPlace u p0 p1) id (fun (y1 : Int32) (u2 : GS) =>
    g_bind (g_X9_placeOf p0 p1) (fun (y4 : Int32) =>
    g_in y4 48 (
    g_let (fun (z0_28 : Int32) => g_xb (g_X9_needState u2 z0_28) id (fun (y8 : Int32) (u9 : GS) =>
    g_in y4 48 (
    g_let (cT_stopped_set u9 (upd (cT_stopped u9) y4.toNatClampNeg (vp_nar .boolean (1 : Int32)))) (fun (u12 : GS) =>
    if p1 = 0 then
    g_in p0 12 (
    g_let (cH_foundClearAt_set u12 (upd (cH_foundClearAt u12) p0.toNatClampNeg (-1000 : Int32))) (fun (u15 : GS) =>
    g_bind (g_X6_shutAll u15) (fun (y16 : Int32 × GS) =>
    some (.inl 0, y16.2))))
    else
    some (.inl 0, u12))))) (fun (j28_7 : Int32 → Option (g_X × GS)) =>
    if (cT_stopped u2 y4.toNatClampNeg) = 0 then
    j28_7 (1 : Int32)
    else
    j28_7 (0 : Int32)))))

def g_X9_report (u : GS) (p0 : Int32) (p1 : Int32) : Option (g_X × GS) :=
    g_xb (g_X9_needPlace u p0 p1) id (fun (y1 : Int32) (u2 : GS) =>
    g_bind (g_X9_placeOf p0 p1) (fun (y4 : Int32) =>
    g_let (fun (z0_24 : Int32) => g_xb (g_X9_needState u2 z0_24) id (fun (y7 : Int32) (u8 : GS) =>
    g_bind (g_X2_canAdd u8 y4) (fun (y10 : Int32) =>
    g_xb (g_X9_needState u8 y10) id (fun (y12 : Int32) (u13 : GS) =>
    g_bind (g_X2_add u13 y4) (fun (y15 : Int32 × GS) =>
    some (.inl y15.1, y15.2)))))) (fun (j24_6 : Int32 → Option (g_X × GS)) =>
    g_let (fun (_ : Unit) => j24_6 (1 : Int32)) (fun (j19_17 : Unit → Option (g_X × GS)) =>
    if p0 = 0 then
    if p1 = 0 then
    j19_17 ()
    else
    j24_6 (0 : Int32)
    else
    j19_17 ()))))

def g_X9_confirm (u : GS) (p0 : Int32) : Option (g_X × GS) :=
    g_bind (g_X2_has u p0) (fun (y1 : Int32) =>
    g_xb (g_X9_needIndex u y1) id (fun (y3 : Int32) (u4 : GS) =>
    g_in p0 12 (
    g_let (fun (z0_28 : Int32) => g_xb (g_X9_needState u4 z0_28) id (fun (y8 : Int32) (u9 : GS) =>
    g_in p0 12 (
    g_bind (g_X8_isStoppedAt u9 (cI_places u9 p0.toNatClampNeg)) (fun (y12 : Int32) =>
    g_let (fun (z0_65 : Int32) => g_in p0 12 (
    g_let (cI_how_set u9 (upd (cI_how u9) p0.toNatClampNeg z0_65)) (fun (u16 : GS) =>
    g_in p0 12 (
    some (.inl (cI_how u16 p0.toNatClampNeg), u16))))) (fun (j65_14 : Int32 → Option (g_X × GS)) =>
    if y12 = 0 then
    j65_14 (2 : Int32)
    else
    j65_14 (1 : Int32)))))) (fun (j28_7 : Int32 → Option (g_X × GS)) =>
    if (cI_how u4 p0.toNatClampNeg) = 0 then
    j28_7 (1 : Int32)
    else
    j28_7 (0 : Int32)))))

def g_X9_incident (u : GS) (p0 : Int32) (p1 : Int32) : Option (g_X × GS) :=
    g_bind (g_X2_has u p0) (fun (y1 : Int32) =>
    g_xb (g_X9_needIndex u y1) id (fun (y3 : Int32) (u4 : GS) =>
    g_bind (g_X9_isWithin p1 (0 : Int32) (3 : Int32)) (fun (y6 : Int32) =>
    g_xb (g_X9_needArgument u4 y6) id (fun (y8 : Int32) (u9 : GS) =>
    if p1 = 0 then
    g_bind (g_X2_sectionOf u9 p0) (fun (y11 : Int32) =>
    some (.inl y11, u9))
    else
    if p1 = 1 then
    g_in p0 12 (
    g_let (cI_places u9 p0.toNatClampNeg) (fun (v14 : Int32) =>
    some (.inl (v14 - v14 / (4 : Int32) * (4 : Int32)), u9)))
    else
    if p1 = 2 then
    g_in p0 12 (
    some (.inl (cI_how u9 p0.toNatClampNeg), u9))
    else
    g_in p0 12 (
    some (.inl (cI_patrols u9 p0.toNatClampNeg), u9))))))

def lp_X9_pattern_2 (u : GS) (k : Unit → Option (Int32)) : Nat → Int32 → Option (Int32)
  | 0, _ => none
  | n + 1, x1_2 =>
    if (11 : Int32) ≤ x1_2 then
    k ()
    else
    g_bind (g_X1_beliefAt u x1_2) (fun (y2 : Int32) =>
    g_let (fun (_ : Unit) => g_let (x1_2 + 1) (fun (v5 : Int32) =>
    lp_X9_pattern_2 u k n v5)) (fun (j53_4 : Unit → Option (Int32)) =>
    if y2 = (-1 : Int32) then
    j53_4 ()
    else
    if (40 : Int32) ≤ y2 then
    j53_4 ()
    else
    g_bind (g_X1_beliefAt u (x1_2 + (1 : Int32))) (fun (y8 : Int32) =>
    if y8 < (80 : Int32) then
    j53_4 ()
    else
    some x1_2)))
def g_X9_pattern (u : GS) : Option (Int32) :=
    lp_X9_pattern_2 u (fun (_ : Unit) => some (-1 : Int32)) FU (0 : Int32)

def g_X9_needPatrol (u : GS) (p0 : Int32) : Option (g_X × GS) :=
    g_bind (g_X9_isWithin p0 (0 : Int32) (2 : Int32)) (fun (y1 : Int32) =>
    g_xb (g_X9_needIndex u y1) id (fun (y3 : Int32) (u4 : GS) =>
    some (.inl 0, u4)))

def g_X9_minutesThrough (u : GS) (p0 : Int32) : Option (Int32) :=
    g_bind (g_X6_isOpenAt u p0) (fun (y1 : Int32) =>
    if y1 = 0 then
    some (1 : Int32)
    else
    g_bind (g_X8_mostIn u p0) (fun (y4 : Int32) =>
    some ((1 : Int32) + (y4 / (5 : Int32)))))

def lp_X9_wayBetween_18 (u : GS) (p1 : Int32) (k : Int32 → Option (Int32)) : Nat → Int32 → Int32 → Option (Int32)
  | 0, _, _ => none
  | n + 1, x3_18, x4_18 =>
    if p1 < x4_18 then
    k x3_18
    else
    g_bind (g_X9_minutesThrough u x4_18) (fun (y4 : Int32) =>
    g_let (x3_18 + y4) (fun (v6 : Int32) =>
    g_let (x4_18 + 1) (fun (v7 : Int32) =>
    lp_X9_wayBetween_18 u p1 k n v6 v7)))
def g_X9_wayBetween (u : GS) (p0 : Int32) (p1 : Int32) : Option (Int32) :=
    if p0 < p1 then
    g_let (p0 + (1 : Int32)) (fun (v2 : Int32) =>
    lp_X9_wayBetween_18 u p1 (fun (x3_18 : Int32)  => some x3_18) FU (0 : Int32) v2)
    else
    some ((3 : Int32) * (p0 - p1))

def g_X9_way (u : GS) (p0 : Int32) (p1 : Int32) : Option (g_X × GS) :=
    g_xb (g_X9_needPatrol u p0) id (fun (y1 : Int32) (u2 : GS) =>
    g_xb (g_X9_needSection u2 p1) id (fun (y4 : Int32) (u5 : GS) =>
    g_in p0 3 (
    g_bind (g_X9_wayBetween u5 (cP_sections u5 p0.toNatClampNeg) p1) (fun (y8 : Int32) =>
    some (.inl y8, u5)))))

def g_X9_send (u : GS) (p0 : Int32) (p1 : Int32) : Option (g_X × GS) :=
    g_xb (g_X9_needPatrol u p0) id (fun (y1 : Int32) (u2 : GS) =>
    g_bind (g_X2_has u2 p1) (fun (y4 : Int32) =>
    g_xb (g_X9_needIndex u2 y4) id (fun (y6 : Int32) (u7 : GS) =>
    g_in p0 3 (
    g_let (fun (z0_33 : Int32) => g_xb (g_X9_needState u7 z0_33) id (fun (y11 : Int32) (u12 : GS) =>
    g_in p1 12 (
    g_let (fun (z0_54 : Int32) => g_xb (g_X9_needState u12 z0_54) id (fun (y16 : Int32) (u17 : GS) =>
    g_in p1 12 (
    g_let (fun (z0_75 : Int32) => g_xb (g_X9_needState u17 z0_75) id (fun (y21 : Int32) (u22 : GS) =>
    g_in p0 3 (
    g_bind (g_X2_sectionOf u22 p1) (fun (y25 : Int32) =>
    g_bind (g_X9_wayBetween u22 (cP_sections u22 p0.toNatClampNeg) y25) (fun (y27 : Int32) =>
    g_in p1 12 (
    g_let (cI_patrols_set u22 (upd (cI_patrols u22) p1.toNatClampNeg p0)) (fun (u30 : GS) =>
    g_in p0 3 (
    g_let (cP_incidents_set u30 (upd (cP_incidents u30) p0.toNatClampNeg p1)) (fun (u32 : GS) =>
    g_in p0 3 (
    g_let (cP_minutesLeft_set u32 (upd (cP_minutesLeft u32) p0.toNatClampNeg (y27 + (5 : Int32)))) (fun (u34 : GS) =>
    g_in p0 3 (
    some (.inl (cP_minutesLeft u34 p0.toNatClampNeg), u34))))))))))))) (fun (j75_20 : Int32 → Option (g_X × GS)) =>
    if (cI_patrols u17 p1.toNatClampNeg) = (-1 : Int32) then
    j75_20 (1 : Int32)
    else
    j75_20 (0 : Int32))))) (fun (j54_15 : Int32 → Option (g_X × GS)) =>
    if (cI_how u12 p1.toNatClampNeg) = (1 : Int32) then
    j54_15 (1 : Int32)
    else
    j54_15 (0 : Int32))))) (fun (j33_10 : Int32 → Option (g_X × GS)) =>
    if (cP_incidents u7 p0.toNatClampNeg) = (-1 : Int32) then
    j33_10 (1 : Int32)
    else
    j33_10 (0 : Int32))))))

def g_X9_patrol (u : GS) (p0 : Int32) (p1 : Int32) : Option (g_X × GS) :=
    g_xb (g_X9_needPatrol u p0) id (fun (y1 : Int32) (u2 : GS) =>
    g_bind (g_X9_isWithin p1 (0 : Int32) (2 : Int32)) (fun (y4 : Int32) =>
    g_xb (g_X9_needArgument u2 y4) id (fun (y6 : Int32) (u7 : GS) =>
    if p1 = 0 then
    g_in p0 3 (
    some (.inl (cP_sections u7 p0.toNatClampNeg), u7))
    else
    if p1 = 1 then
    g_in p0 3 (
    some (.inl (cP_incidents u7 p0.toNatClampNeg), u7))
    else
    g_in p0 3 (
    some (.inl (cP_minutesLeft u7 p0.toNatClampNeg), u7)))))

def g_X9_works (u : GS) (p0 : Int32) (p1 : Int32) (p2 : Int32) (p3 : Int32) (p4 : Int32) : Option (g_X × GS) :=
    g_bind (g_X9_isWithin p0 (1 : Int32) (3 : Int32)) (fun (y1 : Int32) =>
    g_xb (g_X9_needIndex u y1) id (fun (y3 : Int32) (u4 : GS) =>
    g_bind (g_X9_isWithin p1 (1 : Int32) (11 : Int32)) (fun (y6 : Int32) =>
    g_xb (g_X9_needIndex u4 y6) id (fun (y8 : Int32) (u9 : GS) =>
    g_bind (g_X9_isWithin p2 (1 : Int32) (11 : Int32)) (fun (y11 : Int32) =>
    g_xb (g_X9_needIndex u9 y11) id (fun (y13 : Int32) (u14 : GS) =>
    g_let (fun (z0_39 : Int32) => g_xb (g_X9_needArgument u14 z0_39) id (fun (y17 : Int32) (u18 : GS) =>
    g_bind (g_X9_isWithin p3 (c_minute u18) (599 : Int32)) (fun (y20 : Int32) =>
    g_xb (g_X9_needArgument u18 y20) id (fun (y22 : Int32) (u23 : GS) =>
    g_let (fun (z0_77 : Int32) => g_xb (g_X9_needArgument u23 z0_77) id (fun (y26 : Int32) (u27 : GS) =>
    g_let (fun (z0_97 : Int32) => g_xb (g_X9_needState u27 z0_97) id (fun (y30 : Int32) (u31 : GS) =>
    g_bind (g_X0_writeNext u31 p0 p1 p2 p3 p4) (fun (y33 : GS) =>
    g_bind (g_X0_nextTakesLastLane y33) (fun (y35 : Int32) =>
    g_let (fun (z0_129 : Int32) => g_xb (g_X9_needState y33 z0_129) id (fun (y38 : Int32) (u39 : GS) =>
    g_let (cB_count_set u39 ((cB_count u39) + (1 : Int32))) (fun (u41 : GS) =>
    some (.inl ((cB_count u41) - (1 : Int32)), u41)))) (fun (j129_37 : Int32 → Option (g_X × GS)) =>
    if y35 = 0 then
    j129_37 (1 : Int32)
    else
    j129_37 (0 : Int32)))))) (fun (j97_29 : Int32 → Option (g_X × GS)) =>
    if (8 : Int32) ≤ (cB_count u27) then
    j97_29 (0 : Int32)
    else
    j97_29 (1 : Int32)))) (fun (j77_25 : Int32 → Option (g_X × GS)) =>
    g_let (fun (_ : Unit) => j77_25 (0 : Int32)) (fun (j76_44 : Unit → Option (g_X × GS)) =>
    if p4 ≤ p3 then
    j76_44 ()
    else
    if (600 : Int32) < p4 then
    j76_44 ()
    else
    j77_25 (1 : Int32))))))) (fun (j39_16 : Int32 → Option (g_X × GS)) =>
    if p2 < p1 then
    j39_16 (0 : Int32)
    else
    j39_16 (1 : Int32))))))))

def g_X9_isOn (u : GS) (p0 : Int32) : Option (g_X × GS) :=
    g_bind (g_X9_isWithin p0 (0 : Int32) ((cB_count u) - (1 : Int32))) (fun (y1 : Int32) =>
    g_xb (g_X9_needIndex u y1) id (fun (y3 : Int32) (u4 : GS) =>
    g_bind (g_X0_isRunning u4 p0 (c_minute u4)) (fun (y6 : Int32) =>
    g_bo y6 (some (.inl y6, u4)))))

def g_X9_proof (u : GS) (p0 : Int32) (p1 : Int32) (p2 : Int32) : Option (g_X × GS) :=
    g_xb (g_X9_needSection u p1) id (fun (y1 : Int32) (u2 : GS) =>
    g_let (fun (z0_13 : Int32) => g_xb (g_X9_needArgument u2 z0_13) id (fun (y5 : Int32) (u6 : GS) =>
    g_bind (g_X9_isWithin p2 (0 : Int32) (4 : Int32)) (fun (y8 : Int32) =>
    g_xb (g_X9_needArgument u6 y8) id (fun (y10 : Int32) (u11 : GS) =>
    g_bind (g_X5_isKept p0 (c_minute u11)) (fun (y13 : Int32) =>
    g_xb (g_X9_needState u11 y13) id (fun (y15 : Int32) (u16 : GS) =>
    if p2 = 0 then
    g_bind (g_X5_speedSign u16 p0 p1) (fun (y21 : Int32) =>
    some (.inl y21, u16))
    else
    g_bind (g_X5_laneSign u16 p0 p1 (p2 - (1 : Int32))) (fun (y19 : Int32) =>
    some (.inl y19, u16)))))))) (fun (j13_4 : Int32 → Option (g_X × GS)) =>
    if p0 < 0 then
    j13_4 (0 : Int32)
    else
    j13_4 (1 : Int32)))

def g_X9_isFined (u : GS) (p0 : Int32) (p1 : Int32) (p2 : Int32) : Option (g_X × GS) :=
    g_xb (g_X9_needSection u p1) id (fun (y1 : Int32) (u2 : GS) =>
    g_let (fun (z0_13 : Int32) => g_xb (g_X9_needArgument u2 z0_13) id (fun (y5 : Int32) (u6 : GS) =>
    g_bind (g_X9_isWithin p2 (0 : Int32) (250 : Int32)) (fun (y8 : Int32) =>
    g_xb (g_X9_needArgument u6 y8) id (fun (y10 : Int32) (u11 : GS) =>
    g_bind (g_X5_isKept p0 (c_minute u11)) (fun (y13 : Int32) =>
    g_xb (g_X9_needState u11 y13) id (fun (y15 : Int32) (u16 : GS) =>
    g_bind (g_X5_speedSign u16 p0 p1) (fun (y18 : Int32) =>
    if (p2 - y18) < (10 : Int32) then
    some (.inl (0 : Int32), u16)
    else
    some (.inl (1 : Int32), u16)))))))) (fun (j13_4 : Int32 → Option (g_X × GS)) =>
    if p0 < 0 then
    j13_4 (0 : Int32)
    else
    j13_4 (1 : Int32)))

def g_X10_thrown (u : MS) : Option (Int32) :=
    some (m_thrown u)

def g_X10_holds (u : MS) (p0 : Int32) : Option (Int32 × MS) :=
    g_let (m_thrown_set u p0) (fun (u1 : MS) =>
    if p0 = 0 then
    some ((1 : Int32), u1)
    else
    some ((0 : Int32), u1))

def g_X10_isIn (p0 : Int32) (p1 : Int32) (p2 : Int32) : Option (Int32) :=
    if p0 < p1 then
    some (0 : Int32)
    else
    if p2 < p0 then
    some (0 : Int32)
    else
    some (1 : Int32)

def g_X10_isSection (p0 : Int32) : Option (Int32) :=
    g_bind (g_X10_isIn p0 (0 : Int32) (11 : Int32)) (fun (y1 : Int32) =>
    g_bo y1 (some y1))

def g_X10_isPlace (p0 : Int32) (p1 : Int32) : Option (Int32) :=
    g_bind (g_X10_isSection p0) (fun (y1 : Int32) =>
    if y1 = 0 then
    some (0 : Int32)
    else
    g_bind (g_X10_isIn p1 (0 : Int32) (3 : Int32)) (fun (y4 : Int32) =>
    if y4 = 0 then
    some (0 : Int32)
    else
    some (1 : Int32)))

def g_X10_isOnNow (u : MS) (p0 : Int32) : Option (Int32) :=
    g_in p0 8 (
    if (m_now u) < (mB_worksBegin u p0.toNatClampNeg) then
    some (0 : Int32)
    else
    g_in p0 8 (
    if (mB_worksEnd u p0.toNatClampNeg) ≤ (m_now u) then
    some (0 : Int32)
    else
    some (1 : Int32)))

def lp_X10_areWorksAt_5 (u : MS) (p0 : Int32) (p1 : Int32) (k : Int32 → Option (Int32)) : Nat → Int32 → Int32 → Option (Int32)
  | 0, _, _ => none
  | n + 1, x3_5, x4_5 =>
    if (mB_works u) ≤ x4_5 then
    k x3_5
    else
    g_let (fun (z0_64 : Int32) => g_let (x4_5 + 1) (fun (v3 : Int32) =>
    lp_X10_areWorksAt_5 u p0 p1 k n z0_64 v3)) (fun (j64_2 : Int32 → Option (Int32)) =>
    g_let (fun (_ : Unit) => j64_2 (1 : Int32)) (fun (j59_4 : Unit → Option (Int32)) =>
    if x3_5 = 0 then
    g_in x4_5 8 (
    g_let (fun (_ : Unit) => j64_2 (0 : Int32)) (fun (j63_7 : Unit → Option (Int32)) =>
    if (mB_worksLane u x4_5.toNatClampNeg) = p1 then
    g_in x4_5 8 (
    g_in x4_5 8 (
    g_bind (g_X10_isIn p0 (mB_worksFrom u x4_5.toNatClampNeg) (mB_worksTo u x4_5.toNatClampNeg)) (fun (y11 : Int32) =>
    if y11 = 0 then
    j63_7 ()
    else
    g_bind (g_X10_isOnNow u x4_5) (fun (y14 : Int32) =>
    if y14 = 0 then
    j63_7 ()
    else
    j59_4 ()))))
    else
    j63_7 ()))
    else
    j59_4 ()))
def g_X10_areWorksAt (u : MS) (p0 : Int32) (p1 : Int32) : Option (Int32) :=
    lp_X10_areWorksAt_5 u p0 p1 (fun (x3_5 : Int32)  => g_bo x3_5 (some x3_5)) FU (0 : Int32) (0 : Int32)

def lp_X10_isConfirmedAt_4 (u : MS) (p0 : Int32) (k : Int32 → Option (Int32)) : Nat → Int32 → Int32 → Option (Int32)
  | 0, _, _ => none
  | n + 1, x2_4, x3_4 =>
    if (mI_incidents u) ≤ x3_4 then
    k x2_4
    else
    g_let (fun (z0_41 : Int32) => g_let (x3_4 + 1) (fun (v3 : Int32) =>
    lp_X10_isConfirmedAt_4 u p0 k n z0_41 v3)) (fun (j41_2 : Int32 → Option (Int32)) =>
    g_let (fun (_ : Unit) => j41_2 (1 : Int32)) (fun (j36_4 : Unit → Option (Int32)) =>
    if x2_4 = 0 then
    g_in x3_4 12 (
    g_let (fun (_ : Unit) => j41_2 (0 : Int32)) (fun (j40_7 : Unit → Option (Int32)) =>
    if (mI_placed u x3_4.toNatClampNeg) = p0 then
    g_in x3_4 12 (
    if (mI_state u x3_4.toNatClampNeg) = (1 : Int32) then
    j36_4 ()
    else
    j40_7 ())
    else
    j40_7 ()))
    else
    j36_4 ()))
def g_X10_isConfirmedAt (u : MS) (p0 : Int32) : Option (Int32) :=
    lp_X10_isConfirmedAt_4 u p0 (fun (x2_4 : Int32)  => g_bo x2_4 (some x2_4)) FU (0 : Int32) (0 : Int32)

def g_X10_told (u : MS) (p0 : Int32) (p1 : Int32) : Option (Int32) :=
    g_let (((4 : Int32) * p0) + p1) (fun (v1 : Int32) =>
    g_in v1 48 (
    if (mL_ordered u v1.toNatClampNeg) = (-1 : Int32) then
    g_bind (g_X10_areWorksAt u p0 p1) (fun (y4 : Int32) =>
    g_let (fun (z0_58 : Int32) => if z0_58 = 0 then
    some (0 : Int32)
    else
    some (2 : Int32)) (fun (j58_6 : Int32 → Option (Int32)) =>
    g_let (fun (_ : Unit) => j58_6 (1 : Int32)) (fun (j53_8 : Unit → Option (Int32)) =>
    if y4 = 0 then
    g_bind (g_X10_isConfirmedAt u v1) (fun (y10 : Int32) =>
    if y10 = 0 then
    g_let (fun (_ : Unit) => j58_6 (0 : Int32)) (fun (j57_13 : Unit → Option (Int32)) =>
    if p1 = 0 then
    g_in p0 12 (
    if (mH_isOpen u p0.toNatClampNeg) = 0 then
    j53_8 ()
    else
    j57_13 ())
    else
    j57_13 ())
    else
    j53_8 ())
    else
    j53_8 ())))
    else
    g_in v1 48 (
    some (mL_ordered u v1.toNatClampNeg))))

def g_X10_signOf (u : MS) (p0 : Int32) (p1 : Int32) : Option (Int32) :=
    g_bind (g_X10_told u p0 p1) (fun (y1 : Int32) =>
    if y1 = 0 then
    if (11 : Int32) ≤ p0 then
    some y1
    else
    g_bind (g_X10_told u (p0 + (1 : Int32)) p1) (fun (y5 : Int32) =>
    if y5 = (2 : Int32) then
    some (1 : Int32)
    else
    some y1)
    else
    some y1)

def lp_X10_keeps_37 (v2 : Int32) (x2_13 : Int32) (k : MS → Option (MS)) : Nat → Int32 → MS → Option (MS)
  | 0, _, _ => none
  | n + 1, x3_37, w37 =>
    if (4 : Int32) ≤ x3_37 then
    k w37
    else
    g_bind (g_X10_signOf w37 x2_13 x3_37) (fun (y8 : Int32) =>
    g_in (((v2 + ((5 : Int32) * x2_13)) + (1 : Int32)) + x3_37) 3600 (
    g_let (mK_proofs_set w37 (upd (mK_proofs w37) (((v2 + ((5 : Int32) * x2_13)) + (1 : Int32)) + x3_37).toNatClampNeg y8)) (fun (u11 : MS) =>
    g_let (x3_37 + 1) (fun (v12 : Int32) =>
    lp_X10_keeps_37 v2 x2_13 k n v12 u11))))
def lp_X10_keeps_13 (v2 : Int32) (k : MS → Option (MS)) : Nat → Int32 → MS → Option (MS)
  | 0, _, _ => none
  | n + 1, x2_13, w13 =>
    if (12 : Int32) ≤ x2_13 then
    k w13
    else
    g_in x2_13 12 (
    g_in (v2 + ((5 : Int32) * x2_13)) 3600 (
    g_let (mK_proofs_set w13 (upd (mK_proofs w13) (v2 + ((5 : Int32) * x2_13)).toNatClampNeg (mS_speedSign w13 x2_13.toNatClampNeg))) (fun (u6 : MS) =>
    lp_X10_keeps_37 v2 x2_13 (fun (w37 : MS)  => g_let (x2_13 + 1) (fun (v13 : Int32) =>
    lp_X10_keeps_13 v2 k n v13 w37)) FU (0 : Int32) u6)))
def g_X10_keeps (u : MS) : Option (MS) :=
    g_let (m_now u) (fun (v1 : Int32) =>
    g_let ((60 : Int32) * (v1 - v1 / (60 : Int32) * (60 : Int32))) (fun (v2 : Int32) =>
    lp_X10_keeps_13 v2 (fun (w13 : MS)  => some w13) FU (0 : Int32) u))

def lp_X10_patrols_2 (k : MS → Option (MS)) : Nat → Int32 → MS → Option (MS)
  | 0, _, _ => none
  | n + 1, x1_2, w2 =>
    if (3 : Int32) ≤ x1_2 then
    k w2
    else
    g_in x1_2 3 (
    g_let (fun (w91 : MS) => g_let (x1_2 + 1) (fun (v4 : Int32) =>
    lp_X10_patrols_2 k n v4 w91)) (fun (j91_3 : MS → Option (MS)) =>
    if (mP_sentTo w2 x1_2.toNatClampNeg) = (-1 : Int32) then
    j91_3 w2
    else
    g_in x1_2 3 (
    g_in x1_2 3 (
    g_let (mP_left_set w2 (upd (mP_left w2) x1_2.toNatClampNeg ((mP_left w2 x1_2.toNatClampNeg) - (1 : Int32)))) (fun (u8 : MS) =>
    g_in x1_2 3 (
    if (mP_left u8 x1_2.toNatClampNeg) = 0 then
    g_in x1_2 3 (
    g_in (mP_sentTo u8 x1_2.toNatClampNeg) 12 (
    g_let (mI_state_set u8 (upd (mI_state u8) (mP_sentTo u8 x1_2.toNatClampNeg).toNatClampNeg (2 : Int32))) (fun (u13 : MS) =>
    g_in x1_2 3 (
    g_in (mP_sentTo u13 x1_2.toNatClampNeg) 12 (
    g_in (mI_placed u13 (mP_sentTo u13 x1_2.toNatClampNeg).toNatClampNeg) 48 (
    g_let (mT_isStopped_set u13 (upd (mT_isStopped u13) (mI_placed u13 (mP_sentTo u13 x1_2.toNatClampNeg).toNatClampNeg).toNatClampNeg (vp_nar .boolean (0 : Int32)))) (fun (u17 : MS) =>
    g_in x1_2 3 (
    g_in (mP_sentTo u17 x1_2.toNatClampNeg) 12 (
    g_in x1_2 3 (
    g_let (mP_at_set u17 (upd (mP_at u17) x1_2.toNatClampNeg ((mI_placed u17 (mP_sentTo u17 x1_2.toNatClampNeg).toNatClampNeg) / (4 : Int32)))) (fun (u21 : MS) =>
    g_in x1_2 3 (
    g_let (mP_sentTo_set u21 (upd (mP_sentTo u21) x1_2.toNatClampNeg (-1 : Int32))) (fun (u23 : MS) =>
    j91_3 u23)))))))))))))
    else
    j91_3 u8))))))
def g_X10_patrols (u : MS) : Option (MS) :=
    lp_X10_patrols_2 (fun (w2 : MS)  => some w2) FU (0 : Int32) u

def g_X10_letsIn (u : MS) (p0 : Int32) (p1 : Int32) : Option (Int32) :=
    g_bind (g_X10_isIn p1 (0 : Int32) (3 : Int32)) (fun (y1 : Int32) =>
    if y1 = 0 then
    some (0 : Int32)
    else
    g_bind (g_X10_signOf u p0 p1) (fun (y4 : Int32) =>
    if y4 = (2 : Int32) then
    some (0 : Int32)
    else
    g_in (((4 : Int32) * p0) + p1) 48 (
    if (20 : Int32) ≤ (mT_holding u (((4 : Int32) * p0) + p1).toNatClampNeg) then
    some (0 : Int32)
    else
    some (1 : Int32))))

def g_X10_goesTo (u : MS) (p0 : Int32) (p1 : Int32) : Option (Int32) :=
    g_bind (g_X10_signOf u p0 p1) (fun (y1 : Int32) =>
    g_let (fun (z0_14 : Int32) => g_let (p0 + (1 : Int32)) (fun (v4 : Int32) =>
    g_let (fun (_ : Unit) => g_bind (g_X10_letsIn u v4 (p1 - (1 : Int32))) (fun (y6 : Int32) =>
    if y6 = 0 then
    g_bind (g_X10_letsIn u v4 (p1 + (1 : Int32))) (fun (y9 : Int32) =>
    if y9 = 0 then
    if z0_14 = 0 then
    g_bind (g_X10_letsIn u v4 p1) (fun (y13 : Int32) =>
    if y13 = 0 then
    some (-1 : Int32)
    else
    some p1)
    else
    some (-1 : Int32)
    else
    some (p1 + (1 : Int32)))
    else
    some (p1 - (1 : Int32)))) (fun (j36_5 : Unit → Option (Int32)) =>
    if z0_14 = 0 then
    j36_5 ()
    else
    g_bind (g_X10_letsIn u v4 p1) (fun (y17 : Int32) =>
    if y17 = 0 then
    j36_5 ()
    else
    some p1)))) (fun (j14_3 : Int32 → Option (Int32)) =>
    if y1 = 0 then
    j14_3 (1 : Int32)
    else
    j14_3 (0 : Int32)))

def lp_X10_goes_43 (p0 : Int32) (p1 : Int32) (v1 : Int32) (z0_35 : Int32) (k : MS → Option (MS)) : Nat → Int32 → Int32 → MS → Option (MS)
  | 0, _, _, _ => none
  | n + 1, x5_43, x6_43, w43 =>
    if z0_35 ≤ x6_43 then
    k w43
    else
    if x5_43 = 0 then
    k w43
    else
    g_in v1 48 (
    if (mT_holding w43 v1.toNatClampNeg) ≤ 0 then
    k w43
    else
    g_let (fun (z0_80 : Int32) => g_let (fun (z0_93 : Int32) => g_let (fun (w146 : MS) => g_let (x6_43 + 1) (fun (v11 : Int32) =>
    lp_X10_goes_43 p0 p1 v1 z0_35 k n z0_93 v11 w146)) (fun (j146_10 : MS → Option (MS)) =>
    if z0_93 = 0 then
    j146_10 w43
    else
    g_in v1 48 (
    g_in v1 48 (
    g_let (mT_holding_set w43 (upd (mT_holding w43) v1.toNatClampNeg ((mT_holding w43 v1.toNatClampNeg) - (1 : Int32)))) (fun (u15 : MS) =>
    if p0 = (11 : Int32) then
    g_let (mT_gone_set u15 ((mT_gone u15) + (1 : Int32))) (fun (u20 : MS) =>
    j146_10 u20)
    else
    g_in ((((4 : Int32) * p0) + (4 : Int32)) + z0_80) 48 (
    g_in ((((4 : Int32) * p0) + (4 : Int32)) + z0_80) 48 (
    g_let (mT_holding_set u15 (upd (mT_holding u15) ((((4 : Int32) * p0) + (4 : Int32)) + z0_80).toNatClampNeg ((mT_holding u15 ((((4 : Int32) * p0) + (4 : Int32)) + z0_80).toNatClampNeg) + (1 : Int32)))) (fun (u19 : MS) =>
    j146_10 u19)))))))) (fun (j93_9 : Int32 → Option (MS)) =>
    if z0_80 = (-1 : Int32) then
    j93_9 (0 : Int32)
    else
    j93_9 (1 : Int32))) (fun (j80_8 : Int32 → Option (MS)) =>
    if p0 = (11 : Int32) then
    j80_8 p1
    else
    g_bind (g_X10_goesTo w43 p0 p1) (fun (y23 : Int32) =>
    j80_8 y23)))
def g_X10_goes (u : MS) (p0 : Int32) (p1 : Int32) : Option (MS) :=
    g_let (((4 : Int32) * p0) + p1) (fun (v1 : Int32) =>
    g_in v1 48 (
    g_let (fun (z0_35 : Int32) => lp_X10_goes_43 p0 p1 v1 z0_35 (fun (w43 : MS)  => some w43) FU (1 : Int32) (0 : Int32) u) (fun (j35_3 : Int32 → Option (MS)) =>
    if (mT_isStopped u v1.toNatClampNeg) = 0 then
    g_in p0 12 (
    if (mT_isBroken u p0.toNatClampNeg) = 0 then
    j35_3 (8 : Int32)
    else
    j35_3 (6 : Int32))
    else
    j35_3 (0 : Int32))))

def lp_X10_comes_43 (w28 : MS) (k : Int32 → Option (MS)) : Nat → Int32 → Int32 → Option (MS)
  | 0, _, _ => none
  | n + 1, x2_43, x3_43 =>
    if (4 : Int32) ≤ x3_43 then
    k x2_43
    else
    g_bind (g_X10_letsIn w28 (0 : Int32) x3_43) (fun (y6 : Int32) =>
    g_let (fun (z0_82 : Int32) => g_let (x3_43 + 1) (fun (v9 : Int32) =>
    lp_X10_comes_43 w28 k n z0_82 v9)) (fun (j82_8 : Int32 → Option (MS)) =>
    g_let (fun (_ : Unit) => j82_8 x2_43) (fun (j81_10 : Unit → Option (MS)) =>
    if y6 = 0 then
    j81_10 ()
    else
    g_let (fun (_ : Unit) => j82_8 x3_43) (fun (j77_12 : Unit → Option (MS)) =>
    if x2_43 = (-1 : Int32) then
    j77_12 ()
    else
    g_in x3_43 48 (
    g_in x2_43 48 (
    if (mT_holding w28 x2_43.toNatClampNeg) ≤ (mT_holding w28 x3_43.toNatClampNeg) then
    j81_10 ()
    else
    j77_12 ()))))))
def lp_X10_comes_28 (k : MS → Option (MS)) : Nat → Int32 → MS → Option (MS)
  | 0, _, _ => none
  | n + 1, x1_28, w28 =>
    if (mT_waiting w28) ≤ 0 then
    k w28
    else
    if x1_28 = 0 then
    k w28
    else
    lp_X10_comes_43 w28 (fun (x2_43 : Int32)  => g_let (fun (z0_99 : Int32) => g_let (fun (w124 : MS) => lp_X10_comes_28 k n z0_99 w124) (fun (j124_18 : MS → Option (MS)) =>
    if z0_99 = 0 then
    j124_18 w28
    else
    g_in x2_43 48 (
    g_in x2_43 48 (
    g_let (mT_holding_set w28 (upd (mT_holding w28) x2_43.toNatClampNeg ((mT_holding w28 x2_43.toNatClampNeg) + (1 : Int32)))) (fun (u22 : MS) =>
    g_let (mT_waiting_set u22 ((mT_waiting u22) - (1 : Int32))) (fun (u23 : MS) =>
    j124_18 u23)))))) (fun (j99_17 : Int32 → Option (MS)) =>
    if x2_43 = (-1 : Int32) then
    j99_17 (0 : Int32)
    else
    j99_17 (1 : Int32))) FU (-1 : Int32) (0 : Int32)
def g_X10_comes (u : MS) : Option (MS) :=
    g_let (mT_came_set u ((mT_came u) + (mT_demand u))) (fun (u1 : MS) =>
    g_let (mT_waiting_set u1 ((mT_waiting u1) + (mT_demand u1))) (fun (u2 : MS) =>
    lp_X10_comes_28 (fun (w28 : MS)  => some w28) FU (1 : Int32) u2))

def lp_X10_mostOf_4 (u : MS) (p0 : Int32) (k : Int32 → Option (Int32)) : Nat → Int32 → Int32 → Option (Int32)
  | 0, _, _ => none
  | n + 1, x2_4, x3_4 =>
    if (4 : Int32) ≤ x3_4 then
    k x2_4
    else
    g_in (((4 : Int32) * p0) + x3_4) 48 (
    g_let (mT_holding u (((4 : Int32) * p0) + x3_4).toNatClampNeg) (fun (v3 : Int32) =>
    g_let (fun (z0_33 : Int32) => g_let (x3_4 + 1) (fun (v5 : Int32) =>
    lp_X10_mostOf_4 u p0 k n z0_33 v5)) (fun (j33_4 : Int32 → Option (Int32)) =>
    if v3 ≤ x2_4 then
    j33_4 x2_4
    else
    j33_4 v3)))
def g_X10_mostOf (u : MS) (p0 : Int32) : Option (Int32) :=
    lp_X10_mostOf_4 u p0 (fun (x2_4 : Int32)  => some x2_4) FU (0 : Int32) (0 : Int32)

def g_X10_speedOf (u : MS) (p0 : Int32) : Option (Int32) :=
    g_bind (g_X10_mostOf u p0) (fun (y1 : Int32) =>
    some ((120 : Int32) - ((5 : Int32) * y1)))

def g_X10_guessOf (u : MS) (p0 : Int32) : Option (Int32) :=
    g_let (fun (z0_20 : Int32) => g_let (fun (z0_43 : Int32) => g_let (fun (_ : Unit) => g_let (fun (z0_69 : Int32) => g_let (fun (z0_84 : Int32) => g_let (z0_69 + z0_84) (fun (v6 : Int32) =>
    if z0_20 = 0 then
    some v6
    else
    if z0_43 = 0 then
    some v6
    else
    some (v6 / (2 : Int32)))) (fun (j84_5 : Int32 → Option (Int32)) =>
    if z0_43 = 0 then
    j84_5 (0 : Int32)
    else
    g_bind (g_X10_speedOf u (p0 + (1 : Int32))) (fun (y10 : Int32) =>
    j84_5 y10))) (fun (j69_4 : Int32 → Option (Int32)) =>
    if z0_20 = 0 then
    j69_4 (0 : Int32)
    else
    g_bind (g_X10_speedOf u (p0 - (1 : Int32))) (fun (y13 : Int32) =>
    j69_4 y13))) (fun (j54_3 : Unit → Option (Int32)) =>
    if z0_20 = 0 then
    if z0_43 = 0 then
    some (-1 : Int32)
    else
    j54_3 ()
    else
    j54_3 ())) (fun (j43_2 : Int32 → Option (Int32)) =>
    g_let (fun (_ : Unit) => j43_2 (0 : Int32)) (fun (j42_17 : Unit → Option (Int32)) =>
    if (11 : Int32) ≤ p0 then
    j42_17 ()
    else
    g_in (p0 + (1 : Int32)) 12 (
    if (mD_detects u (p0 + (1 : Int32)).toNatClampNeg) = 0 then
    j43_2 (1 : Int32)
    else
    j42_17 ())))) (fun (j20_1 : Int32 → Option (Int32)) =>
    g_let (fun (_ : Unit) => j20_1 (0 : Int32)) (fun (j19_21 : Unit → Option (Int32)) =>
    if p0 ≤ 0 then
    j19_21 ()
    else
    g_in (p0 - (1 : Int32)) 12 (
    if (mD_detects u (p0 - (1 : Int32)).toNatClampNeg) = 0 then
    j20_1 (1 : Int32)
    else
    j19_21 ())))

def g_X10_beliefOf (u : MS) (p0 : Int32) : Option (Int32) :=
    g_in p0 12 (
    if (mD_detects u p0.toNatClampNeg) = 0 then
    g_bind (g_X10_speedOf u p0) (fun (y16 : Int32) =>
    some y16)
    else
    g_bind (g_X10_guessOf u p0) (fun (y3 : Int32) =>
    g_in p0 12 (
    if (mD_detects u p0.toNatClampNeg) = (2 : Int32) then
    some y3
    else
    g_in p0 12 (
    g_let (fun (z0_62 : Int32) => if y3 = (-1 : Int32) then
    g_in p0 12 (
    some (mD_stuckAt u p0.toNatClampNeg))
    else
    if z0_62 ≤ (30 : Int32) then
    g_in p0 12 (
    some (mD_stuckAt u p0.toNatClampNeg))
    else
    some y3) (fun (j62_8 : Int32 → Option (Int32)) =>
    if (mD_stuckAt u p0.toNatClampNeg) ≤ y3 then
    g_in p0 12 (
    j62_8 (y3 - (mD_stuckAt u p0.toNatClampNeg)))
    else
    g_in p0 12 (
    j62_8 ((mD_stuckAt u p0.toNatClampNeg) - y3)))))))

def g_X10_wantOf (u : MS) (p0 : Int32) : Option (Int32) :=
    g_in p0 12 (
    if (mS_limited u p0.toNatClampNeg) = (-1 : Int32) then
    g_bind (g_X10_beliefOf u p0) (fun (y3 : Int32) =>
    g_let (fun (z0_68 : Int32) => g_let (fun (z0_109 : Int32) => if z0_109 ≤ z0_68 then
    some z0_109
    else
    some z0_68) (fun (j109_6 : Int32 → Option (Int32)) =>
    if (mS_weather u) = 0 then
    j109_6 (120 : Int32)
    else
    if (mS_weather u) = (1 : Int32) then
    j109_6 (80 : Int32)
    else
    if (mS_weather u) = (2 : Int32) then
    j109_6 (60 : Int32)
    else
    j109_6 (40 : Int32))) (fun (j68_5 : Int32 → Option (Int32)) =>
    if y3 = (-1 : Int32) then
    j68_5 (60 : Int32)
    else
    if (40 : Int32) ≤ y3 then
    if (60 : Int32) ≤ y3 then
    if (80 : Int32) ≤ y3 then
    j68_5 (120 : Int32)
    else
    j68_5 (80 : Int32)
    else
    j68_5 (60 : Int32)
    else
    j68_5 (40 : Int32)))
    else
    g_in p0 12 (
    some (mS_limited u p0.toNatClampNeg)))

def lp_X10_setsSpeeds_3 (k : MS → Option (MS)) : Nat → Int32 → MS → Option (MS)
  | 0, _, _ => none
  | n + 1, x1_3, w3 =>
    if x1_3 < 0 then
    k w3
    else
    g_in x1_3 12 (
    g_let (mS_speedSign w3 x1_3.toNatClampNeg) (fun (v3 : Int32) =>
    g_bind (g_X10_wantOf w3 x1_3) (fun (y4 : Int32) =>
    g_in x1_3 12 (
    g_let (fun (z0_55 : Int32) => g_let (fun (z0_67 : Int32) => g_let (fun (z0_91 : Int32) => g_let (fun (z0_112 : Int32) => g_in x1_3 12 (
    g_let (mS_speedSign_set w3 (upd (mS_speedSign w3) x1_3.toNatClampNeg z0_112)) (fun (u12 : MS) =>
    g_in x1_3 12 (
    g_let (fun (z0_141 : Int32) => g_in x1_3 12 (
    g_let (mS_lowered_set u12 (upd (mS_lowered u12) x1_3.toNatClampNeg z0_141)) (fun (u16 : MS) =>
    g_let (x1_3 + (-1)) (fun (v17 : Int32) =>
    lp_X10_setsSpeeds_3 k n v17 u16)))) (fun (j141_14 : Int32 → Option (MS)) =>
    if v3 ≤ (mS_speedSign u12 x1_3.toNatClampNeg) then
    g_in x1_3 12 (
    j141_14 (mS_lowered u12 x1_3.toNatClampNeg))
    else
    j141_14 (m_now u12)))))) (fun (j112_10 : Int32 → Option (MS)) =>
    if z0_91 ≤ z0_67 then
    j112_10 z0_91
    else
    j112_10 z0_67)) (fun (j91_9 : Int32 → Option (MS)) =>
    if (11 : Int32) ≤ x1_3 then
    j91_9 (120 : Int32)
    else
    g_in (x1_3 + (1 : Int32)) 12 (
    j91_9 ((mS_speedSign w3 (x1_3 + (1 : Int32)).toNatClampNeg) + (20 : Int32))))) (fun (j67_8 : Int32 → Option (MS)) =>
    if z0_55 = 0 then
    j67_8 y4
    else
    j67_8 v3)) (fun (j55_7 : Int32 → Option (MS)) =>
    g_let (fun (_ : Unit) => j55_7 (0 : Int32)) (fun (j54_24 : Unit → Option (MS)) =>
    if (mS_limited w3 x1_3.toNatClampNeg) = (-1 : Int32) then
    if y4 ≤ v3 then
    j54_24 ()
    else
    g_in x1_3 12 (
    if (3 : Int32) ≤ ((m_now w3) - (mS_lowered w3 x1_3.toNatClampNeg)) then
    j54_24 ()
    else
    j55_7 (1 : Int32))
    else
    j54_24 ()))))))
def g_X10_setsSpeeds (u : MS) : Option (MS) :=
    lp_X10_setsSpeeds_3 (fun (w3 : MS)  => some w3) FU (11 : Int32) u

def lp_X10_minute_23 (x1_17 : Int32) (k : MS → Option (MS)) : Nat → Int32 → MS → Option (MS)
  | 0, _, _ => none
  | n + 1, x2_23, w23 =>
    if (4 : Int32) ≤ x2_23 then
    k w23
    else
    g_bind (g_X10_goes w23 x1_17 x2_23) (fun (y6 : MS) =>
    g_let (x2_23 + 1) (fun (v8 : Int32) =>
    lp_X10_minute_23 x1_17 k n v8 y6))
def lp_X10_minute_17 (k : MS → Option (MS)) : Nat → Int32 → MS → Option (MS)
  | 0, _, _ => none
  | n + 1, x1_17, w17 =>
    if x1_17 < 0 then
    k w17
    else
    lp_X10_minute_23 x1_17 (fun (w23 : MS)  => g_let (x1_17 + (-1)) (fun (v9 : Int32) =>
    lp_X10_minute_17 k n v9 w23)) FU (0 : Int32) w17
def lp_X10_minute_52 (k : MS → Option (MS)) : Nat → Int32 → MS → Option (MS)
  | 0, _, _ => none
  | n + 1, x1_52, w52 =>
    if (12 : Int32) ≤ x1_52 then
    k w52
    else
    g_bind (g_X10_mostOf w52 x1_52) (fun (y13 : Int32) =>
    g_let (fun (z0_95 : Int32) => g_in x1_52 12 (
    g_let (mT_isBroken_set w52 (upd (mT_isBroken w52) x1_52.toNatClampNeg (vp_nar .boolean z0_95))) (fun (u17 : MS) =>
    g_let (x1_52 + 1) (fun (v18 : Int32) =>
    lp_X10_minute_52 k n v18 u17)))) (fun (j95_15 : Int32 → Option (MS)) =>
    g_let (fun (_ : Unit) => j95_15 (1 : Int32)) (fun (j90_19 : Unit → Option (MS)) =>
    if (15 : Int32) ≤ y13 then
    j90_19 ()
    else
    g_in x1_52 12 (
    g_let (fun (_ : Unit) => j95_15 (0 : Int32)) (fun (j94_22 : Unit → Option (MS)) =>
    if (mT_isBroken w52 x1_52.toNatClampNeg) = 0 then
    j94_22 ()
    else
    if y13 < (8 : Int32) then
    j94_22 ()
    else
    j90_19 ())))))
def g_X10_minute (u : MS) : Option (MS) :=
    g_let (m_now_set u ((m_now u) + (1 : Int32))) (fun (u1 : MS) =>
    g_bind (g_X10_patrols u1) (fun (y2 : MS) =>
    lp_X10_minute_17 (fun (w17 : MS)  => g_bind (g_X10_comes w17) (fun (y10 : MS) =>
    lp_X10_minute_52 (fun (w52 : MS)  => g_bind (g_X10_setsSpeeds w52) (fun (y25 : MS) =>
    g_bind (g_X10_keeps y25) (fun (y27 : MS) =>
    some y27))) FU (0 : Int32) y10)) FU (11 : Int32) y2))

def g_X10_demand (u : MS) (p0 : Int32) : Option (Int32 × MS) :=
    g_bind (g_X10_isIn p0 (0 : Int32) (40 : Int32)) (fun (y1 : Int32) =>
    g_let (fun (z0_16 : Int32) => g_bind (g_X10_holds u z0_16) (fun (y4 : Int32 × MS) =>
    if y4.1 = 0 then
    some ((0 : Int32), y4.2)
    else
    g_let (mT_demand y4.2) (fun (v7 : Int32) =>
    g_let (mT_demand_set y4.2 p0) (fun (u8 : MS) =>
    some (v7, u8))))) (fun (j16_3 : Int32 → Option (Int32 × MS)) =>
    if y1 = 0 then
    j16_3 (1 : Int32)
    else
    j16_3 (0 : Int32)))

def lp_X10_pass_42 (p0 : Int32) (k : MS → Option (Int32 × MS)) : Nat → Int32 → MS → Option (Int32 × MS)
  | 0, _, _ => none
  | n + 1, x2_42, w42 =>
    if p0 ≤ x2_42 then
    k w42
    else
    g_bind (g_X10_minute w42) (fun (y8 : MS) =>
    g_let (x2_42 + 1) (fun (v10 : Int32) =>
    lp_X10_pass_42 p0 k n v10 y8))
def g_X10_pass (u : MS) (p0 : Int32) : Option (Int32 × MS) :=
    g_bind (g_X10_isIn p0 (1 : Int32) (60 : Int32)) (fun (y1 : Int32) =>
    g_let (fun (z0_32 : Int32) => g_bind (g_X10_holds u z0_32) (fun (y4 : Int32 × MS) =>
    if y4.1 = 0 then
    some ((0 : Int32), y4.2)
    else
    lp_X10_pass_42 p0 (fun (w42 : MS)  => some ((m_now w42), w42)) FU (0 : Int32) y4.2)) (fun (j32_3 : Int32 → Option (Int32 × MS)) =>
    if y1 = 0 then
    j32_3 (1 : Int32)
    else
    if ((m_now u) + p0) ≤ (600 : Int32) then
    j32_3 (0 : Int32)
    else
    j32_3 (2 : Int32)))

def g_X10_holds_ (u : MS) (p0 : Int32) (p1 : Int32) : Option (Int32 × MS) :=
    g_bind (g_X10_isPlace p0 p1) (fun (y1 : Int32) =>
    g_let (fun (z0_14 : Int32) => g_bind (g_X10_holds u z0_14) (fun (y4 : Int32 × MS) =>
    if y4.1 = 0 then
    some ((0 : Int32), y4.2)
    else
    g_in (((4 : Int32) * p0) + p1) 48 (
    some ((mT_holding y4.2 (((4 : Int32) * p0) + p1).toNatClampNeg), y4.2)))) (fun (j14_3 : Int32 → Option (Int32 × MS)) =>
    if y1 = 0 then
    j14_3 (1 : Int32)
    else
    j14_3 (0 : Int32)))

def lp_X10_vehicles_27 (y4 : Int32 × MS) (k : Int32 → Option (Int32 × MS)) : Nat → Int32 → Int32 → Option (Int32 × MS)
  | 0, _, _ => none
  | n + 1, x2_27, x3_27 =>
    if (48 : Int32) ≤ x3_27 then
    k x2_27
    else
    g_in x3_27 48 (
    g_let (x2_27 + (mT_holding y4.2 x3_27.toNatClampNeg)) (fun (v9 : Int32) =>
    g_let (x3_27 + 1) (fun (v10 : Int32) =>
    lp_X10_vehicles_27 y4 k n v9 v10)))
def g_X10_vehicles (u : MS) (p0 : Int32) : Option (Int32 × MS) :=
    g_bind (g_X10_isIn p0 (0 : Int32) (3 : Int32)) (fun (y1 : Int32) =>
    g_let (fun (z0_15 : Int32) => g_bind (g_X10_holds u z0_15) (fun (y4 : Int32 × MS) =>
    if y4.1 = 0 then
    some ((0 : Int32), y4.2)
    else
    lp_X10_vehicles_27 y4 (fun (x2_27 : Int32)  => if p0 = 0 then
    some ((mT_came y4.2), y4.2)
    else
    if p0 = (1 : Int32) then
    some (x2_27, y4.2)
    else
    if p0 = (2 : Int32) then
    some ((mT_waiting y4.2), y4.2)
    else
    some ((mT_gone y4.2), y4.2)) FU (0 : Int32) (0 : Int32))) (fun (j15_3 : Int32 → Option (Int32 × MS)) =>
    if y1 = 0 then
    j15_3 (1 : Int32)
    else
    j15_3 (0 : Int32)))

def g_X10_section (u : MS) (p0 : Int32) (p1 : Int32) : Option (Int32 × MS) :=
    g_bind (g_X10_isSection p0) (fun (y1 : Int32) =>
    g_let (fun (z0_26 : Int32) => g_bind (g_X10_holds u z0_26) (fun (y4 : Int32 × MS) =>
    if y4.1 = 0 then
    some ((0 : Int32), y4.2)
    else
    if (3 : Int32) ≤ p1 then
    if p1 = (3 : Int32) then
    g_in p0 12 (
    some ((mS_speedSign y4.2 p0.toNatClampNeg), y4.2))
    else
    if p1 = (5 : Int32) then
    g_in p0 12 (
    some ((mD_detects y4.2 p0.toNatClampNeg), y4.2))
    else
    g_in p0 12 (
    if (mT_isBroken y4.2 p0.toNatClampNeg) = 0 then
    some ((0 : Int32), y4.2)
    else
    some ((1 : Int32), y4.2))
    else
    if p1 = 0 then
    g_bind (g_X10_speedOf y4.2 p0) (fun (y20 : Int32) =>
    some (y20, y4.2))
    else
    if p1 = (1 : Int32) then
    g_bind (g_X10_beliefOf y4.2 p0) (fun (y18 : Int32) =>
    some (y18, y4.2))
    else
    g_bind (g_X10_guessOf y4.2 p0) (fun (y16 : Int32) =>
    some (y16, y4.2)))) (fun (j26_3 : Int32 → Option (Int32 × MS)) =>
    if y1 = 0 then
    j26_3 (1 : Int32)
    else
    g_bind (g_X10_isIn p1 (0 : Int32) (5 : Int32)) (fun (y23 : Int32) =>
    if y23 = 0 then
    j26_3 (2 : Int32)
    else
    j26_3 (0 : Int32))))

def g_X10_detector (u : MS) (p0 : Int32) (p1 : Int32) (p2 : Int32) : Option (Int32 × MS) :=
    g_bind (g_X10_isIn p1 (0 : Int32) (2 : Int32)) (fun (y1 : Int32) =>
    g_let (fun (z0_29 : Int32) => g_bind (g_X10_isSection p0) (fun (y4 : Int32) =>
    g_let (fun (z0_53 : Int32) => g_bind (g_X10_holds u z0_53) (fun (y7 : Int32 × MS) =>
    if y7.1 = 0 then
    some ((0 : Int32), y7.2)
    else
    g_in p0 12 (
    g_let (mD_detects y7.2 p0.toNatClampNeg) (fun (v11 : Int32) =>
    g_in p0 12 (
    g_let (mD_detects_set y7.2 (upd (mD_detects y7.2) p0.toNatClampNeg p1)) (fun (u13 : MS) =>
    g_in p0 12 (
    g_let (mD_stuckAt_set u13 (upd (mD_stuckAt u13) p0.toNatClampNeg p2)) (fun (u15 : MS) =>
    some (v11, u15))))))))) (fun (j53_6 : Int32 → Option (Int32 × MS)) =>
    if y4 = 0 then
    j53_6 (1 : Int32)
    else
    if z0_29 = 0 then
    j53_6 (2 : Int32)
    else
    j53_6 (0 : Int32)))) (fun (j29_3 : Int32 → Option (Int32 × MS)) =>
    g_let (fun (_ : Unit) => j29_3 (0 : Int32)) (fun (j28_18 : Unit → Option (Int32 × MS)) =>
    if y1 = 0 then
    j28_18 ()
    else
    g_let (fun (_ : Unit) => j29_3 (1 : Int32)) (fun (j24_20 : Unit → Option (Int32 × MS)) =>
    if p1 = (1 : Int32) then
    g_bind (g_X10_isIn p2 (0 : Int32) (120 : Int32)) (fun (y22 : Int32) =>
    if y22 = 0 then
    j28_18 ()
    else
    j24_20 ())
    else
    j24_20 ()))))

def g_X10_weather (u : MS) (p0 : Int32) : Option (Int32 × MS) :=
    g_bind (g_X10_isIn p0 (0 : Int32) (3 : Int32)) (fun (y1 : Int32) =>
    g_let (fun (z0_15 : Int32) => g_bind (g_X10_holds u z0_15) (fun (y4 : Int32 × MS) =>
    if y4.1 = 0 then
    some ((0 : Int32), y4.2)
    else
    g_let (mS_weather y4.2) (fun (v7 : Int32) =>
    g_let (mS_weather_set y4.2 p0) (fun (u8 : MS) =>
    some (v7, u8))))) (fun (j15_3 : Int32 → Option (Int32 × MS)) =>
    if y1 = 0 then
    j15_3 (1 : Int32)
    else
    j15_3 (0 : Int32)))

def g_X10_limit (u : MS) (p0 : Int32) (p1 : Int32) : Option (Int32 × MS) :=
    g_let (fun (z0_28 : Int32) => g_bind (g_X10_isSection p0) (fun (y2 : Int32) =>
    g_let (fun (z0_50 : Int32) => g_bind (g_X10_holds u z0_50) (fun (y5 : Int32 × MS) =>
    if y5.1 = 0 then
    some ((0 : Int32), y5.2)
    else
    g_in p0 12 (
    g_let (mS_limited y5.2 p0.toNatClampNeg) (fun (v9 : Int32) =>
    g_in p0 12 (
    g_let (mS_limited_set y5.2 (upd (mS_limited y5.2) p0.toNatClampNeg p1)) (fun (u11 : MS) =>
    some (v9, u11))))))) (fun (j50_4 : Int32 → Option (Int32 × MS)) =>
    if y2 = 0 then
    j50_4 (1 : Int32)
    else
    if z0_28 = 0 then
    j50_4 (2 : Int32)
    else
    j50_4 (0 : Int32)))) (fun (j28_1 : Int32 → Option (Int32 × MS)) =>
    g_let (fun (_ : Unit) => j28_1 (1 : Int32)) (fun (j23_14 : Unit → Option (Int32 × MS)) =>
    if p1 = (-1 : Int32) then
    j23_14 ()
    else
    g_bind (g_X10_isIn p1 (40 : Int32) (120 : Int32)) (fun (y16 : Int32) =>
    g_let (fun (_ : Unit) => j28_1 (0 : Int32)) (fun (j27_18 : Unit → Option (Int32 × MS)) =>
    if y16 = 0 then
    j27_18 ()
    else
    if (p1 - p1 / (20 : Int32) * (20 : Int32)) = 0 then
    j23_14 ()
    else
    j27_18 ()))))

def g_X10_order (u : MS) (p0 : Int32) (p1 : Int32) (p2 : Int32) : Option (Int32 × MS) :=
    g_bind (g_X10_isPlace p0 p1) (fun (y1 : Int32) =>
    g_let (fun (z0_40 : Int32) => g_bind (g_X10_holds u z0_40) (fun (y4 : Int32 × MS) =>
    if y4.1 = 0 then
    some ((0 : Int32), y4.2)
    else
    g_let (((4 : Int32) * p0) + p1) (fun (v7 : Int32) =>
    g_in v7 48 (
    g_let (mL_ordered y4.2 v7.toNatClampNeg) (fun (v9 : Int32) =>
    g_in v7 48 (
    g_let (mL_ordered_set y4.2 (upd (mL_ordered y4.2) v7.toNatClampNeg p2)) (fun (u11 : MS) =>
    some (v9, u11)))))))) (fun (j40_3 : Int32 → Option (Int32 × MS)) =>
    if y1 = 0 then
    j40_3 (1 : Int32)
    else
    g_bind (g_X10_isIn p2 (-1 : Int32) (2 : Int32)) (fun (y13 : Int32) =>
    if y13 = 0 then
    j40_3 (2 : Int32)
    else
    g_let (fun (_ : Unit) => j40_3 (0 : Int32)) (fun (j39_16 : Unit → Option (Int32 × MS)) =>
    if p2 = (2 : Int32) then
    if p0 = 0 then
    j40_3 (3 : Int32)
    else
    j39_16 ()
    else
    j39_16 ()))))

def g_X10_sign (u : MS) (p0 : Int32) (p1 : Int32) : Option (Int32 × MS) :=
    g_bind (g_X10_isPlace p0 p1) (fun (y1 : Int32) =>
    g_let (fun (z0_14 : Int32) => g_bind (g_X10_holds u z0_14) (fun (y4 : Int32 × MS) =>
    if y4.1 = 0 then
    some ((0 : Int32), y4.2)
    else
    g_bind (g_X10_signOf y4.2 p0 p1) (fun (y7 : Int32) =>
    some (y7, y4.2)))) (fun (j14_3 : Int32 → Option (Int32 × MS)) =>
    if y1 = 0 then
    j14_3 (1 : Int32)
    else
    j14_3 (0 : Int32)))

def lp_X10_isLawful_47 (u1 : MS) (x2_9 : Int32) (k : Int32 → Option (Int32 × MS)) : Nat → Int32 → Int32 → Option (Int32 × MS)
  | 0, _, _ => none
  | n + 1, x1_47, x3_47 =>
    if (4 : Int32) ≤ x3_47 then
    k x1_47
    else
    g_let (fun (z0_82 : Int32) => g_let (x3_47 + 1) (fun (v6 : Int32) =>
    lp_X10_isLawful_47 u1 x2_9 k n z0_82 v6)) (fun (j82_5 : Int32 → Option (Int32 × MS)) =>
    g_let (fun (_ : Unit) => j82_5 (0 : Int32)) (fun (j81_7 : Unit → Option (Int32 × MS)) =>
    if x1_47 = 0 then
    j81_7 ()
    else
    g_bind (g_X10_signOf u1 (x2_9 + (1 : Int32)) x3_47) (fun (y9 : Int32) =>
    g_let (fun (_ : Unit) => j82_5 (1 : Int32)) (fun (j77_11 : Unit → Option (Int32 × MS)) =>
    if y9 = (2 : Int32) then
    g_bind (g_X10_signOf u1 x2_9 x3_47) (fun (y13 : Int32) =>
    if y13 = 0 then
    j81_7 ()
    else
    j77_11 ())
    else
    j77_11 ()))))
def lp_X10_isLawful_9 (u1 : MS) (k : Int32 → Option (Int32 × MS)) : Nat → Int32 → Int32 → Option (Int32 × MS)
  | 0, _, _ => none
  | n + 1, x1_9, x2_9 =>
    if (11 : Int32) ≤ x2_9 then
    k x1_9
    else
    g_let (fun (z0_44 : Int32) => lp_X10_isLawful_47 u1 x2_9 (fun (x1_47 : Int32)  => g_let (x2_9 + 1) (fun (v16 : Int32) =>
    lp_X10_isLawful_9 u1 k n x1_47 v16)) FU z0_44 (0 : Int32)) (fun (j44_3 : Int32 → Option (Int32 × MS)) =>
    g_let (fun (_ : Unit) => j44_3 (0 : Int32)) (fun (j43_17 : Unit → Option (Int32 × MS)) =>
    if x1_9 = 0 then
    j43_17 ()
    else
    g_in x2_9 12 (
    g_in (x2_9 + (1 : Int32)) 12 (
    if ((mS_speedSign u1 (x2_9 + (1 : Int32)).toNatClampNeg) + (20 : Int32)) < (mS_speedSign u1 x2_9.toNatClampNeg) then
    j43_17 ()
    else
    j44_3 (1 : Int32)))))
def g_X10_isLawful (u : MS) : Option (Int32 × MS) :=
    g_let (m_thrown_set u (0 : Int32)) (fun (u1 : MS) =>
    lp_X10_isLawful_9 u1 (fun (x1_9 : Int32)  => g_bo x1_9 (some (x1_9, u1))) FU (1 : Int32) (0 : Int32))

def g_X10_look (u : MS) (p0 : Int32) : Option (Int32 × MS) :=
    g_bind (g_X10_isSection p0) (fun (y1 : Int32) =>
    g_let (fun (z0_13 : Int32) => g_bind (g_X10_holds u z0_13) (fun (y4 : Int32 × MS) =>
    if y4.1 = 0 then
    some ((0 : Int32), y4.2)
    else
    g_in p0 12 (
    g_let (mH_looked_set y4.2 (upd (mH_looked y4.2) p0.toNatClampNeg (m_now y4.2))) (fun (u8 : MS) =>
    g_in ((4 : Int32) * p0) 48 (
    g_let (fun (z0_63 : Int32) => g_in p0 12 (
    g_let (mH_wasClear_set u8 (upd (mH_wasClear u8) p0.toNatClampNeg (vp_nar .boolean z0_63))) (fun (u12 : MS) =>
    g_in p0 12 (
    g_bo (mH_wasClear u12 p0.toNatClampNeg) (some ((mH_wasClear u12 p0.toNatClampNeg), u12)))))) (fun (j63_10 : Int32 → Option (Int32 × MS)) =>
    g_let (fun (_ : Unit) => j63_10 (0 : Int32)) (fun (j62_14 : Unit → Option (Int32 × MS)) =>
    if (mT_isStopped u8 ((4 : Int32) * p0).toNatClampNeg) = 0 then
    g_in ((4 : Int32) * p0) 48 (
    if (mT_holding u8 ((4 : Int32) * p0).toNatClampNeg) = 0 then
    j63_10 (1 : Int32)
    else
    j62_14 ())
    else
    j62_14 ()))))))) (fun (j13_3 : Int32 → Option (Int32 × MS)) =>
    if y1 = 0 then
    j13_3 (1 : Int32)
    else
    j13_3 (0 : Int32)))

def lp_X10_canOpen_5 (u : MS) (p1 : Int32) (k : Int32 → Option (Int32)) : Nat → Int32 → Int32 → Option (Int32)
  | 0, _, _ => none
  | n + 1, x3_5, x4_5 =>
    if p1 < x4_5 then
    k x3_5
    else
    g_let (fun (z0_46 : Int32) => g_let (x4_5 + 1) (fun (v3 : Int32) =>
    lp_X10_canOpen_5 u p1 k n z0_46 v3)) (fun (j46_2 : Int32 → Option (Int32)) =>
    g_let (fun (_ : Unit) => j46_2 (0 : Int32)) (fun (j45_4 : Unit → Option (Int32)) =>
    if x3_5 = 0 then
    j45_4 ()
    else
    g_in x4_5 12 (
    if (5 : Int32) ≤ ((m_now u) - (mH_looked u x4_5.toNatClampNeg)) then
    j45_4 ()
    else
    g_in x4_5 12 (
    if (mH_wasClear u x4_5.toNatClampNeg) = 0 then
    j45_4 ()
    else
    j46_2 (1 : Int32)))))
def g_X10_canOpen (u : MS) (p0 : Int32) (p1 : Int32) : Option (Int32) :=
    lp_X10_canOpen_5 u p1 (fun (x3_5 : Int32)  => g_bo x3_5 (some x3_5)) FU (1 : Int32) p0

def lp_X10_openShoulder_66 (p1 : Int32) (k : Int32 → MS → Option (Int32 × MS)) : Nat → Int32 → Int32 → MS → Option (Int32 × MS)
  | 0, _, _, _ => none
  | n + 1, x4_66, x5_66, w66 =>
    if p1 < x5_66 then
    k x4_66 w66
    else
    g_in x5_66 12 (
    g_let (fun (z0_89 : Int32) => g_let (x4_66 + z0_89) (fun (v11 : Int32) =>
    g_in x5_66 12 (
    g_let (mH_isOpen_set w66 (upd (mH_isOpen w66) x5_66.toNatClampNeg (vp_nar .boolean (1 : Int32)))) (fun (u13 : MS) =>
    g_let (x5_66 + 1) (fun (v14 : Int32) =>
    lp_X10_openShoulder_66 p1 k n v11 v14 u13))))) (fun (j89_10 : Int32 → Option (Int32 × MS)) =>
    if (mH_isOpen w66 x5_66.toNatClampNeg) = 0 then
    j89_10 (1 : Int32)
    else
    j89_10 (0 : Int32)))
def g_X10_openShoulder (u : MS) (p0 : Int32) (p1 : Int32) : Option (Int32 × MS) :=
    g_bind (g_X10_isSection p0) (fun (y1 : Int32) =>
    g_let (fun (z0_19 : Int32) => g_let (fun (z0_52 : Int32) => g_bind (g_X10_holds u z0_52) (fun (y5 : Int32 × MS) =>
    if y5.1 = 0 then
    some ((0 : Int32), y5.2)
    else
    lp_X10_openShoulder_66 p1 (fun (x4_66 : Int32) (w66 : MS)  => some (x4_66, w66)) FU (0 : Int32) p0 y5.2)) (fun (j52_4 : Int32 → Option (Int32 × MS)) =>
    if z0_19 = 0 then
    j52_4 (1 : Int32)
    else
    if p0 ≤ p1 then
    g_bind (g_X10_canOpen u p0 p1) (fun (y18 : Int32) =>
    if y18 = 0 then
    j52_4 (3 : Int32)
    else
    j52_4 (0 : Int32))
    else
    j52_4 (2 : Int32))) (fun (j19_3 : Int32 → Option (Int32 × MS)) =>
    g_let (fun (_ : Unit) => j19_3 (0 : Int32)) (fun (j18_21 : Unit → Option (Int32 × MS)) =>
    if y1 = 0 then
    j18_21 ()
    else
    g_bind (g_X10_isSection p1) (fun (y23 : Int32) =>
    if y23 = 0 then
    j18_21 ()
    else
    j19_3 (1 : Int32)))))

def lp_X10_shuts_4 (k : Int32 → MS → Option (Int32 × MS)) : Nat → Int32 → Int32 → MS → Option (Int32 × MS)
  | 0, _, _, _ => none
  | n + 1, x1_4, x2_4, w4 =>
    if (12 : Int32) ≤ x2_4 then
    k x1_4 w4
    else
    g_in x2_4 12 (
    g_let (fun (z0_25 : Int32) => g_let (x1_4 + z0_25) (fun (v4 : Int32) =>
    g_in x2_4 12 (
    g_let (mH_isOpen_set w4 (upd (mH_isOpen w4) x2_4.toNatClampNeg (vp_nar .boolean (0 : Int32)))) (fun (u6 : MS) =>
    g_let (x2_4 + 1) (fun (v7 : Int32) =>
    lp_X10_shuts_4 k n v4 v7 u6))))) (fun (j25_3 : Int32 → Option (Int32 × MS)) =>
    if (mH_isOpen w4 x2_4.toNatClampNeg) = 0 then
    j25_3 (0 : Int32)
    else
    j25_3 (1 : Int32)))
def g_X10_shuts (u : MS) : Option (Int32 × MS) :=
    lp_X10_shuts_4 (fun (x1_4 : Int32) (w4 : MS)  => some (x1_4, w4)) FU (0 : Int32) (0 : Int32) u

def g_X10_shutShoulder (u : MS) : Option (Int32 × MS) :=
    g_let (m_thrown_set u (0 : Int32)) (fun (u1 : MS) =>
    g_bind (g_X10_shuts u1) (fun (y2 : Int32 × MS) =>
    some (y2.1, y2.2)))

def g_X10_stop (u : MS) (p0 : Int32) (p1 : Int32) : Option (MS) :=
    g_bind (g_X10_isPlace p0 p1) (fun (y1 : Int32) =>
    g_let (fun (z0_33 : Int32) => g_bind (g_X10_holds u z0_33) (fun (y4 : Int32 × MS) =>
    if y4.1 = 0 then
    some y4.2
    else
    g_in (((4 : Int32) * p0) + p1) 48 (
    g_let (mT_isStopped_set y4.2 (upd (mT_isStopped y4.2) (((4 : Int32) * p0) + p1).toNatClampNeg (vp_nar .boolean (1 : Int32)))) (fun (u8 : MS) =>
    if p1 = 0 then
    g_in p0 12 (
    g_let (mH_wasClear_set u8 (upd (mH_wasClear u8) p0.toNatClampNeg (vp_nar .boolean (0 : Int32)))) (fun (u11 : MS) =>
    g_bind (g_X10_shuts u11) (fun (y12 : Int32 × MS) =>
    some y12.2)))
    else
    some u8)))) (fun (j33_3 : Int32 → Option (MS)) =>
    if y1 = 0 then
    j33_3 (1 : Int32)
    else
    g_in (((4 : Int32) * p0) + p1) 48 (
    if (mT_isStopped u (((4 : Int32) * p0) + p1).toNatClampNeg) = 0 then
    j33_3 (0 : Int32)
    else
    j33_3 (2 : Int32))))

def lp_X10_isReportedAt_4 (u : MS) (p0 : Int32) (k : Int32 → Option (Int32)) : Nat → Int32 → Int32 → Option (Int32)
  | 0, _, _ => none
  | n + 1, x2_4, x3_4 =>
    if (mI_incidents u) ≤ x3_4 then
    k x2_4
    else
    g_let (fun (z0_41 : Int32) => g_let (x3_4 + 1) (fun (v3 : Int32) =>
    lp_X10_isReportedAt_4 u p0 k n z0_41 v3)) (fun (j41_2 : Int32 → Option (Int32)) =>
    g_let (fun (_ : Unit) => j41_2 (1 : Int32)) (fun (j36_4 : Unit → Option (Int32)) =>
    if x2_4 = 0 then
    g_in x3_4 12 (
    g_let (fun (_ : Unit) => j41_2 (0 : Int32)) (fun (j40_7 : Unit → Option (Int32)) =>
    if (mI_placed u x3_4.toNatClampNeg) = p0 then
    g_in x3_4 12 (
    if (mI_state u x3_4.toNatClampNeg) = (2 : Int32) then
    j40_7 ()
    else
    j36_4 ())
    else
    j40_7 ()))
    else
    j36_4 ()))
def g_X10_isReportedAt (u : MS) (p0 : Int32) : Option (Int32) :=
    lp_X10_isReportedAt_4 u p0 (fun (x2_4 : Int32)  => g_bo x2_4 (some x2_4)) FU (0 : Int32) (0 : Int32)

def g_X10_report (u : MS) (p0 : Int32) (p1 : Int32) : Option (Int32 × MS) :=
    g_bind (g_X10_isPlace p0 p1) (fun (y1 : Int32) =>
    g_let (((4 : Int32) * p0) + p1) (fun (v3 : Int32) =>
    g_let (fun (z0_53 : Int32) => g_bind (g_X10_holds u z0_53) (fun (y5 : Int32 × MS) =>
    if y5.1 = 0 then
    some ((0 : Int32), y5.2)
    else
    g_in (mI_incidents y5.2) 12 (
    g_let (mI_placed_set y5.2 (upd (mI_placed y5.2) (mI_incidents y5.2).toNatClampNeg v3)) (fun (u9 : MS) =>
    g_in (mI_incidents u9) 12 (
    g_let (mI_state_set u9 (upd (mI_state u9) (mI_incidents u9).toNatClampNeg (0 : Int32))) (fun (u11 : MS) =>
    g_let (mI_incidents_set u11 ((mI_incidents u11) + (1 : Int32))) (fun (u12 : MS) =>
    some (((mI_incidents u12) - (1 : Int32)), u12)))))))) (fun (j53_4 : Int32 → Option (Int32 × MS)) =>
    if y1 = 0 then
    j53_4 (1 : Int32)
    else
    g_let (fun (_ : Unit) => j53_4 (2 : Int32)) (fun (j48_14 : Unit → Option (Int32 × MS)) =>
    if (mI_incidents u) = (12 : Int32) then
    j48_14 ()
    else
    g_let (fun (_ : Unit) => g_bind (g_X10_isReportedAt u v3) (fun (y17 : Int32) =>
    if y17 = 0 then
    j53_4 (0 : Int32)
    else
    j48_14 ())) (fun (j39_16 : Unit → Option (Int32 × MS)) =>
    if p0 = 0 then
    if 0 < p1 then
    j48_14 ()
    else
    j39_16 ()
    else
    j39_16 ())))))

def g_X10_isIncident (u : MS) (p0 : Int32) : Option (Int32) :=
    g_bind (g_X10_isIn p0 (0 : Int32) ((mI_incidents u) - (1 : Int32))) (fun (y1 : Int32) =>
    g_bo y1 (some y1))

def g_X10_confirm (u : MS) (p0 : Int32) : Option (Int32 × MS) :=
    g_bind (g_X10_isIncident u p0) (fun (y1 : Int32) =>
    g_let (fun (z0_29 : Int32) => g_bind (g_X10_holds u z0_29) (fun (y4 : Int32 × MS) =>
    if y4.1 = 0 then
    some ((0 : Int32), y4.2)
    else
    g_in p0 12 (
    g_in (mI_placed y4.2 p0.toNatClampNeg) 48 (
    g_let (fun (z0_61 : Int32) => g_in p0 12 (
    g_let (mI_state_set y4.2 (upd (mI_state y4.2) p0.toNatClampNeg z0_61)) (fun (u11 : MS) =>
    g_in p0 12 (
    some ((mI_state u11 p0.toNatClampNeg), u11))))) (fun (j61_9 : Int32 → Option (Int32 × MS)) =>
    if (mT_isStopped y4.2 (mI_placed y4.2 p0.toNatClampNeg).toNatClampNeg) = 0 then
    j61_9 (2 : Int32)
    else
    j61_9 (1 : Int32)))))) (fun (j29_3 : Int32 → Option (Int32 × MS)) =>
    if y1 = 0 then
    j29_3 (1 : Int32)
    else
    g_in p0 12 (
    if (mI_state u p0.toNatClampNeg) = 0 then
    j29_3 (0 : Int32)
    else
    j29_3 (2 : Int32))))

def lp_X10_patrolOf_4 (u : MS) (p0 : Int32) (k : Int32 → Option (Int32)) : Nat → Int32 → Int32 → Option (Int32)
  | 0, _, _ => none
  | n + 1, x2_4, x3_4 =>
    if (3 : Int32) ≤ x3_4 then
    k x2_4
    else
    g_in x3_4 3 (
    g_let (fun (z0_24 : Int32) => g_let (x3_4 + 1) (fun (v4 : Int32) =>
    lp_X10_patrolOf_4 u p0 k n z0_24 v4)) (fun (j24_3 : Int32 → Option (Int32)) =>
    if (mP_sentTo u x3_4.toNatClampNeg) = p0 then
    j24_3 x3_4
    else
    j24_3 x2_4))
def g_X10_patrolOf (u : MS) (p0 : Int32) : Option (Int32) :=
    lp_X10_patrolOf_4 u p0 (fun (x2_4 : Int32)  => some x2_4) FU (-1 : Int32) (0 : Int32)

def g_X10_incident (u : MS) (p0 : Int32) (p1 : Int32) : Option (Int32 × MS) :=
    g_bind (g_X10_isIncident u p0) (fun (y1 : Int32) =>
    g_let (fun (z0_27 : Int32) => g_bind (g_X10_holds u z0_27) (fun (y4 : Int32 × MS) =>
    if y4.1 = 0 then
    some ((0 : Int32), y4.2)
    else
    g_in p0 12 (
    g_let (mI_placed y4.2 p0.toNatClampNeg) (fun (v8 : Int32) =>
    if p1 = 0 then
    some ((v8 / (4 : Int32)), y4.2)
    else
    if p1 = (1 : Int32) then
    some ((v8 - v8 / (4 : Int32) * (4 : Int32)), y4.2)
    else
    if p1 = (2 : Int32) then
    g_in p0 12 (
    some ((mI_state y4.2 p0.toNatClampNeg), y4.2))
    else
    g_bind (g_X10_patrolOf y4.2 p0) (fun (y12 : Int32) =>
    some (y12, y4.2)))))) (fun (j27_3 : Int32 → Option (Int32 × MS)) =>
    if y1 = 0 then
    j27_3 (1 : Int32)
    else
    g_bind (g_X10_isIn p1 (0 : Int32) (3 : Int32)) (fun (y16 : Int32) =>
    if y16 = 0 then
    j27_3 (2 : Int32)
    else
    j27_3 (0 : Int32))))

def lp_X10_pattern_7 (u1 : MS) (k : Unit → Option (Int32 × MS)) : Nat → Int32 → Option (Int32 × MS)
  | 0, _ => none
  | n + 1, x1_7 =>
    if (11 : Int32) ≤ x1_7 then
    k ()
    else
    g_bind (g_X10_beliefOf u1 x1_7) (fun (y3 : Int32) =>
    g_bind (g_X10_isIn y3 (0 : Int32) (39 : Int32)) (fun (y5 : Int32) =>
    g_let (fun (_ : Unit) => g_let (x1_7 + 1) (fun (v8 : Int32) =>
    lp_X10_pattern_7 u1 k n v8)) (fun (j41_7 : Unit → Option (Int32 × MS)) =>
    if y5 = 0 then
    j41_7 ()
    else
    g_bind (g_X10_beliefOf u1 (x1_7 + (1 : Int32))) (fun (y10 : Int32) =>
    if y10 < (80 : Int32) then
    j41_7 ()
    else
    some (x1_7, u1)))))
def g_X10_pattern (u : MS) : Option (Int32 × MS) :=
    g_let (m_thrown_set u (0 : Int32)) (fun (u1 : MS) =>
    lp_X10_pattern_7 u1 (fun (_ : Unit) => some ((-1 : Int32), u1)) FU (0 : Int32))

def g_X10_isPatrol (p0 : Int32) : Option (Int32) :=
    g_bind (g_X10_isIn p0 (0 : Int32) (2 : Int32)) (fun (y1 : Int32) =>
    g_bo y1 (some y1))

def lp_X10_wayOf_35 (u : MS) (p1 : Int32) (k : Int32 → Option (Int32)) : Nat → Int32 → Int32 → Option (Int32)
  | 0, _, _ => none
  | n + 1, x3_35, x4_35 =>
    if p1 < x4_35 then
    k x3_35
    else
    g_in x4_35 12 (
    g_let (fun (z0_66 : Int32) => g_let (x3_35 + z0_66) (fun (v8 : Int32) =>
    g_let (x4_35 + 1) (fun (v9 : Int32) =>
    lp_X10_wayOf_35 u p1 k n v8 v9))) (fun (j66_7 : Int32 → Option (Int32)) =>
    if (mH_isOpen u x4_35.toNatClampNeg) = 0 then
    j66_7 (1 : Int32)
    else
    g_bind (g_X10_mostOf u x4_35) (fun (y11 : Int32) =>
    j66_7 ((1 : Int32) + (y11 / (5 : Int32))))))
def g_X10_wayOf (u : MS) (p0 : Int32) (p1 : Int32) : Option (Int32) :=
    g_in p0 3 (
    g_let (fun (z0_24 : Int32) => g_in p0 3 (
    g_let ((mP_at u p0.toNatClampNeg) + (1 : Int32)) (fun (v4 : Int32) =>
    lp_X10_wayOf_35 u p1 (fun (x3_35 : Int32)  => some x3_35) FU z0_24 v4))) (fun (j24_2 : Int32 → Option (Int32)) =>
    if (mP_at u p0.toNatClampNeg) ≤ p1 then
    j24_2 (0 : Int32)
    else
    g_in p0 3 (
    j24_2 ((3 : Int32) * ((mP_at u p0.toNatClampNeg) - p1)))))

def g_X10_way (u : MS) (p0 : Int32) (p1 : Int32) : Option (Int32 × MS) :=
    g_bind (g_X10_isPatrol p0) (fun (y1 : Int32) =>
    g_let (fun (z0_20 : Int32) => g_bind (g_X10_holds u z0_20) (fun (y4 : Int32 × MS) =>
    if y4.1 = 0 then
    some ((0 : Int32), y4.2)
    else
    g_bind (g_X10_wayOf y4.2 p0 p1) (fun (y7 : Int32) =>
    some (y7, y4.2)))) (fun (j20_3 : Int32 → Option (Int32 × MS)) =>
    g_let (fun (_ : Unit) => j20_3 (1 : Int32)) (fun (j19_9 : Unit → Option (Int32 × MS)) =>
    if y1 = 0 then
    j19_9 ()
    else
    g_bind (g_X10_isSection p1) (fun (y11 : Int32) =>
    if y11 = 0 then
    j19_9 ()
    else
    j20_3 (0 : Int32)))))

def g_X10_send (u : MS) (p0 : Int32) (p1 : Int32) : Option (Int32 × MS) :=
    g_bind (g_X10_isPatrol p0) (fun (y1 : Int32) =>
    g_let (fun (z0_20 : Int32) => g_let (fun (z0_64 : Int32) => g_bind (g_X10_holds u z0_64) (fun (y5 : Int32 × MS) =>
    if y5.1 = 0 then
    some ((0 : Int32), y5.2)
    else
    g_in p0 3 (
    g_let (mP_sentTo_set y5.2 (upd (mP_sentTo y5.2) p0.toNatClampNeg p1)) (fun (u9 : MS) =>
    g_in p1 12 (
    g_bind (g_X10_wayOf u9 p0 ((mI_placed u9 p1.toNatClampNeg) / (4 : Int32))) (fun (y11 : Int32) =>
    g_in p0 3 (
    g_let (mP_left_set u9 (upd (mP_left u9) p0.toNatClampNeg (y11 + (5 : Int32)))) (fun (u14 : MS) =>
    g_in p0 3 (
    some ((mP_left u14 p0.toNatClampNeg), u14)))))))))) (fun (j64_4 : Int32 → Option (Int32 × MS)) =>
    if z0_20 = 0 then
    j64_4 (1 : Int32)
    else
    g_in p0 3 (
    g_let (fun (_ : Unit) => j64_4 (2 : Int32)) (fun (j59_18 : Unit → Option (Int32 × MS)) =>
    if (mP_sentTo u p0.toNatClampNeg) = (-1 : Int32) then
    g_in p1 12 (
    if (mI_state u p1.toNatClampNeg) = (1 : Int32) then
    g_bind (g_X10_patrolOf u p1) (fun (y22 : Int32) =>
    if y22 = (-1 : Int32) then
    j64_4 (0 : Int32)
    else
    j59_18 ())
    else
    j59_18 ())
    else
    j59_18 ())))) (fun (j20_3 : Int32 → Option (Int32 × MS)) =>
    g_let (fun (_ : Unit) => j20_3 (0 : Int32)) (fun (j19_25 : Unit → Option (Int32 × MS)) =>
    if y1 = 0 then
    j19_25 ()
    else
    g_bind (g_X10_isIncident u p1) (fun (y27 : Int32) =>
    if y27 = 0 then
    j19_25 ()
    else
    j20_3 (1 : Int32)))))

def g_X10_patrol (u : MS) (p0 : Int32) (p1 : Int32) : Option (Int32 × MS) :=
    g_bind (g_X10_isPatrol p0) (fun (y1 : Int32) =>
    g_let (fun (z0_26 : Int32) => g_bind (g_X10_holds u z0_26) (fun (y4 : Int32 × MS) =>
    if y4.1 = 0 then
    some ((0 : Int32), y4.2)
    else
    if p1 = 0 then
    g_in p0 3 (
    some ((mP_at y4.2 p0.toNatClampNeg), y4.2))
    else
    if p1 = (1 : Int32) then
    g_in p0 3 (
    some ((mP_sentTo y4.2 p0.toNatClampNeg), y4.2))
    else
    g_in p0 3 (
    if (mP_sentTo y4.2 p0.toNatClampNeg) = (-1 : Int32) then
    some ((0 : Int32), y4.2)
    else
    g_in p0 3 (
    some ((mP_left y4.2 p0.toNatClampNeg), y4.2))))) (fun (j26_3 : Int32 → Option (Int32 × MS)) =>
    if y1 = 0 then
    j26_3 (1 : Int32)
    else
    g_bind (g_X10_isIn p1 (0 : Int32) (2 : Int32)) (fun (y15 : Int32) =>
    if y15 = 0 then
    j26_3 (2 : Int32)
    else
    j26_3 (0 : Int32))))

def lp_X10_areBooked_6 (u : MS) (p0 : Int32) (p1 : Int32) (p2 : Int32) (k : Int32 → Option (Int32)) : Nat → Int32 → Int32 → Option (Int32)
  | 0, _, _ => none
  | n + 1, x4_6, x5_6 =>
    if (mB_works u) ≤ x5_6 then
    k x4_6
    else
    g_let (fun (z0_79 : Int32) => g_let (x5_6 + 1) (fun (v3 : Int32) =>
    lp_X10_areBooked_6 u p0 p1 p2 k n z0_79 v3)) (fun (j79_2 : Int32 → Option (Int32)) =>
    g_let (fun (_ : Unit) => j79_2 (1 : Int32)) (fun (j74_4 : Unit → Option (Int32)) =>
    if x4_6 = 0 then
    g_in x5_6 8 (
    g_let (fun (_ : Unit) => j79_2 (0 : Int32)) (fun (j78_7 : Unit → Option (Int32)) =>
    if (mB_worksLane u x5_6.toNatClampNeg) = p1 then
    g_in x5_6 8 (
    g_in x5_6 8 (
    g_bind (g_X10_isIn p0 (mB_worksFrom u x5_6.toNatClampNeg) (mB_worksTo u x5_6.toNatClampNeg)) (fun (y11 : Int32) =>
    if y11 = 0 then
    j78_7 ()
    else
    g_in x5_6 8 (
    if p2 < (mB_worksBegin u x5_6.toNatClampNeg) then
    j78_7 ()
    else
    g_in x5_6 8 (
    if (mB_worksEnd u x5_6.toNatClampNeg) ≤ p2 then
    j78_7 ()
    else
    j74_4 ())))))
    else
    j78_7 ()))
    else
    j74_4 ()))
def g_X10_areBooked (u : MS) (p0 : Int32) (p1 : Int32) (p2 : Int32) : Option (Int32) :=
    lp_X10_areBooked_6 u p0 p1 p2 (fun (x4_6 : Int32)  => g_bo x4_6 (some x4_6)) FU (0 : Int32) (0 : Int32)

def lp_X10_areTooMany_45 (u : MS) (p4 : Int32) (z0_10 : Int32) (z0_22 : Int32) (x9_30 : Int32) (k : Int32 → Option (Int32)) : Nat → Int32 → Int32 → Option (Int32)
  | 0, _, _ => none
  | n + 1, x8_45, x10_45 =>
    if p4 ≤ x10_45 then
    k x8_45
    else
    if x8_45 = 0 then
    g_bind (g_X10_areBooked u x9_30 z0_10 x10_45) (fun (y7 : Int32) =>
    g_let (fun (z0_88 : Int32) => g_let (x10_45 + 1) (fun (v10 : Int32) =>
    lp_X10_areTooMany_45 u p4 z0_10 z0_22 x9_30 k n z0_88 v10)) (fun (j88_9 : Int32 → Option (Int32)) =>
    g_let (fun (_ : Unit) => j88_9 (0 : Int32)) (fun (j87_11 : Unit → Option (Int32)) =>
    if y7 = 0 then
    j87_11 ()
    else
    g_bind (g_X10_areBooked u x9_30 z0_22 x10_45) (fun (y13 : Int32) =>
    if y13 = 0 then
    j87_11 ()
    else
    j88_9 (1 : Int32)))))
    else
    k x8_45
def lp_X10_areTooMany_30 (u : MS) (p2 : Int32) (p3 : Int32) (p4 : Int32) (z0_10 : Int32) (z0_22 : Int32) (k : Int32 → Option (Int32)) : Nat → Int32 → Int32 → Option (Int32)
  | 0, _, _ => none
  | n + 1, x8_30, x9_30 =>
    if p2 < x9_30 then
    k x8_30
    else
    if x8_30 = 0 then
    lp_X10_areTooMany_45 u p4 z0_10 z0_22 x9_30 (fun (x8_45 : Int32)  => g_let (x9_30 + 1) (fun (v16 : Int32) =>
    lp_X10_areTooMany_30 u p2 p3 p4 z0_10 z0_22 k n x8_45 v16)) FU x8_30 p3
    else
    k x8_30
def g_X10_areTooMany (u : MS) (p0 : Int32) (p1 : Int32) (p2 : Int32) (p3 : Int32) (p4 : Int32) : Option (Int32) :=
    g_let (fun (z0_10 : Int32) => g_let (fun (z0_22 : Int32) => lp_X10_areTooMany_30 u p2 p3 p4 z0_10 z0_22 (fun (x8_30 : Int32)  => g_bo x8_30 (some x8_30)) FU (0 : Int32) p1) (fun (j22_2 : Int32 → Option (Int32)) =>
    if p0 = (3 : Int32) then
    j22_2 (2 : Int32)
    else
    j22_2 (3 : Int32))) (fun (j10_1 : Int32 → Option (Int32)) =>
    if p0 = (1 : Int32) then
    j10_1 (2 : Int32)
    else
    j10_1 (1 : Int32))

def g_X10_works (u : MS) (p0 : Int32) (p1 : Int32) (p2 : Int32) (p3 : Int32) (p4 : Int32) : Option (Int32 × MS) :=
    g_bind (g_X10_isIn p0 (1 : Int32) (3 : Int32)) (fun (y1 : Int32) =>
    g_let (fun (z0_34 : Int32) => g_let (fun (z0_76 : Int32) => g_let (fun (z0_125 : Int32) => g_bind (g_X10_holds u z0_125) (fun (y6 : Int32 × MS) =>
    if y6.1 = 0 then
    some ((0 : Int32), y6.2)
    else
    g_in (mB_works y6.2) 8 (
    g_let (mB_worksLane_set y6.2 (upd (mB_worksLane y6.2) (mB_works y6.2).toNatClampNeg p0)) (fun (u10 : MS) =>
    g_in (mB_works u10) 8 (
    g_let (mB_worksFrom_set u10 (upd (mB_worksFrom u10) (mB_works u10).toNatClampNeg p1)) (fun (u12 : MS) =>
    g_in (mB_works u12) 8 (
    g_let (mB_worksTo_set u12 (upd (mB_worksTo u12) (mB_works u12).toNatClampNeg p2)) (fun (u14 : MS) =>
    g_in (mB_works u14) 8 (
    g_let (mB_worksBegin_set u14 (upd (mB_worksBegin u14) (mB_works u14).toNatClampNeg p3)) (fun (u16 : MS) =>
    g_in (mB_works u16) 8 (
    g_let (mB_worksEnd_set u16 (upd (mB_worksEnd u16) (mB_works u16).toNatClampNeg p4)) (fun (u18 : MS) =>
    g_let (mB_works_set u18 ((mB_works u18) + (1 : Int32))) (fun (u19 : MS) =>
    some (((mB_works u19) - (1 : Int32)), u19)))))))))))))) (fun (j125_5 : Int32 → Option (Int32 × MS)) =>
    if z0_34 = 0 then
    j125_5 (1 : Int32)
    else
    if z0_76 = 0 then
    j125_5 (2 : Int32)
    else
    g_let (fun (_ : Unit) => j125_5 (3 : Int32)) (fun (j120_22 : Unit → Option (Int32 × MS)) =>
    if (mB_works u) = (8 : Int32) then
    j120_22 ()
    else
    g_bind (g_X10_areTooMany u p0 p1 p2 p3 p4) (fun (y24 : Int32) =>
    if y24 = 0 then
    j125_5 (0 : Int32)
    else
    j120_22 ())))) (fun (j76_4 : Int32 → Option (Int32 × MS)) =>
    g_let (fun (_ : Unit) => j76_4 (0 : Int32)) (fun (j75_27 : Unit → Option (Int32 × MS)) =>
    if p2 < p1 then
    j75_27 ()
    else
    g_bind (g_X10_isIn p3 (m_now u) (599 : Int32)) (fun (y29 : Int32) =>
    if y29 = 0 then
    j75_27 ()
    else
    if p4 ≤ p3 then
    j75_27 ()
    else
    if (600 : Int32) < p4 then
    j75_27 ()
    else
    j76_4 (1 : Int32))))) (fun (j34_3 : Int32 → Option (Int32 × MS)) =>
    g_let (fun (_ : Unit) => j34_3 (0 : Int32)) (fun (j33_34 : Unit → Option (Int32 × MS)) =>
    if y1 = 0 then
    j33_34 ()
    else
    g_bind (g_X10_isIn p1 (1 : Int32) (11 : Int32)) (fun (y36 : Int32) =>
    if y36 = 0 then
    j33_34 ()
    else
    g_bind (g_X10_isIn p2 (1 : Int32) (11 : Int32)) (fun (y39 : Int32) =>
    if y39 = 0 then
    j33_34 ()
    else
    j34_3 (1 : Int32))))))

def g_X10_isOn (u : MS) (p0 : Int32) : Option (Int32 × MS) :=
    g_bind (g_X10_isIn p0 (0 : Int32) ((mB_works u) - (1 : Int32))) (fun (y1 : Int32) =>
    g_let (fun (z0_20 : Int32) => g_bind (g_X10_holds u z0_20) (fun (y4 : Int32 × MS) =>
    if y4.1 = 0 then
    some ((0 : Int32), y4.2)
    else
    g_bind (g_X10_isOnNow y4.2 p0) (fun (y7 : Int32) =>
    if y7 = 0 then
    some ((0 : Int32), y4.2)
    else
    some ((1 : Int32), y4.2)))) (fun (j20_3 : Int32 → Option (Int32 × MS)) =>
    if y1 = 0 then
    j20_3 (1 : Int32)
    else
    j20_3 (0 : Int32)))

def g_X10_isKept (u : MS) (p0 : Int32) : Option (Int32) :=
    if (m_now u) < p0 then
    some (0 : Int32)
    else
    if p0 ≤ ((m_now u) - (60 : Int32)) then
    some (0 : Int32)
    else
    some (1 : Int32)

def g_X10_proofOf (u : MS) (p0 : Int32) (p1 : Int32) (p2 : Int32) : Option (Int32) :=
    g_in ((((60 : Int32) * (p0 - p0 / (60 : Int32) * (60 : Int32))) + ((5 : Int32) * p1)) + p2) 3600 (
    some (mK_proofs u ((((60 : Int32) * (p0 - p0 / (60 : Int32) * (60 : Int32))) + ((5 : Int32) * p1)) + p2).toNatClampNeg))

def g_X10_proof (u : MS) (p0 : Int32) (p1 : Int32) (p2 : Int32) : Option (Int32 × MS) :=
    g_bind (g_X10_isSection p1) (fun (y1 : Int32) =>
    g_let (fun (z0_42 : Int32) => g_bind (g_X10_holds u z0_42) (fun (y4 : Int32 × MS) =>
    if y4.1 = 0 then
    some ((0 : Int32), y4.2)
    else
    g_bind (g_X10_proofOf y4.2 p0 p1 p2) (fun (y7 : Int32) =>
    some (y7, y4.2)))) (fun (j42_3 : Int32 → Option (Int32 × MS)) =>
    if y1 = 0 then
    j42_3 (1 : Int32)
    else
    g_let (fun (_ : Unit) => j42_3 (2 : Int32)) (fun (j25_10 : Unit → Option (Int32 × MS)) =>
    if p0 < 0 then
    j25_10 ()
    else
    g_bind (g_X10_isIn p2 (0 : Int32) (4 : Int32)) (fun (y12 : Int32) =>
    if y12 = 0 then
    j25_10 ()
    else
    g_bind (g_X10_isKept u p0) (fun (y15 : Int32) =>
    if y15 = 0 then
    j42_3 (3 : Int32)
    else
    j42_3 (0 : Int32))))))

def g_X10_isFined (u : MS) (p0 : Int32) (p1 : Int32) (p2 : Int32) : Option (Int32 × MS) :=
    g_bind (g_X10_isSection p1) (fun (y1 : Int32) =>
    g_let (fun (z0_44 : Int32) => g_bind (g_X10_holds u z0_44) (fun (y4 : Int32 × MS) =>
    if y4.1 = 0 then
    some ((0 : Int32), y4.2)
    else
    g_bind (g_X10_proofOf y4.2 p0 p1 (0 : Int32)) (fun (y7 : Int32) =>
    if p2 < (y7 + (10 : Int32)) then
    some ((0 : Int32), y4.2)
    else
    some ((1 : Int32), y4.2)))) (fun (j44_3 : Int32 → Option (Int32 × MS)) =>
    if y1 = 0 then
    j44_3 (1 : Int32)
    else
    g_let (fun (_ : Unit) => j44_3 (2 : Int32)) (fun (j27_11 : Unit → Option (Int32 × MS)) =>
    if p0 < 0 then
    j27_11 ()
    else
    g_bind (g_X10_isIn p2 (0 : Int32) (250 : Int32)) (fun (y13 : Int32) =>
    if y13 = 0 then
    j27_11 ()
    else
    g_bind (g_X10_isKept u p0) (fun (y16 : Int32) =>
    if y16 = 0 then
    j44_3 (3 : Int32)
    else
    j44_3 (0 : Int32))))))
end
section
/-- how a call of the class and one of the reference agree: both answer, or both refuse -/
def SI (Rel : GS → MS → Prop) (cg : Option (g_X × GS)) (mg : Option (Int32 × MS)) (es : List (String × Int32)) : Prop :=
  (∃ (r : Int32) (u' : GS) (v' : MS), cg = some (.inl r, u') ∧ mg = some (r, v') ∧ m_thrown v' = 0 ∧ Rel u' v') ∨ (∃ (q : String × Int32) (u' : GS) (b : Int32) (v' : MS), q ∈ es ∧ cg = some (.inr q.1, u') ∧ mg = some (b, v') ∧ m_thrown v' = q.2 ∧ Rel u' v')
def SV (Rel : GS → MS → Prop) (cg : Option (g_X × GS)) (mg : Option MS) (es : List (String × Int32)) : Prop :=
  (∃ (r : Int32) (u' : GS) (v' : MS), cg = some (.inl r, u') ∧ mg = some v' ∧ m_thrown v' = 0 ∧ Rel u' v') ∨ (∃ (q : String × Int32) (u' : GS) (v' : MS), q ∈ es ∧ cg = some (.inr q.1, u') ∧ mg = some v' ∧ m_thrown v' = q.2 ∧ Rel u' v')
def lin (i : Int32) (L : Nat) : Prop := vp_in i L ∧ vp_in (i + 1) L ∧ vp_in (i + 2) L ∧ vp_in (i + 3) L ∧ vp_in (i + 4) L ∧ vp_in (i + 5) L
end
section
/-! THE PURE PART: class and reference as functions, side by side -/
theorem pz_let {α β : Type} (x : α) (f : α → β) : g_let x f = f x := rfl
theorem pz_bind {α β : Type} (x : α) (f : α → Option β) : g_bind (some x) f = f x := rfl
theorem pz_in {α : Type} {i : Int32} {n : Nat} (h : vp_in i n) (a : Option α) : g_in i n a = a := if_neg h
theorem pz_inN {α : Type} {k n : Nat} (h : k < n) (hn : n < 2 ^ 31) (a : Option α) : g_in (nI k) n a = a := if_neg (vp_in_nI h hn)
theorem pz_nz {α : Type} {v : Int32} (h : ¬ v = 0) (a : Option α) : g_nz v a = a := if_neg h
theorem pz_bo0 {α : Type} (a : Option α) : g_bo 0 a = a := if_pos (by decide)
theorem pz_bo1 {α : Type} (a : Option α) : g_bo 1 a = a := if_pos (by decide)
theorem pz_xl {σ τ : Type} (r : Int32) (w : σ) (up : σ → τ) (f : Int32 → σ → Option (g_X × τ)) : g_xb (some (.inl r, w)) up f = f r w := rfl
theorem pz_xr {σ τ : Type} (E : String) (w : σ) (up : σ → τ) (f : Int32 → σ → Option (g_X × τ)) : g_xb (some (.inr E, w)) up f = some (.inr E, up w) := rfl
theorem z10 : ((1 : Int32) = 0) = False := eq_false (by decide)
theorem z20 : ((2 : Int32) = 0) = False := eq_false (by decide)
theorem z30 : ((3 : Int32) = 0) = False := eq_false (by decide)
theorem z00 : ((0 : Int32) = 0) = True := eq_true rfl
theorem vnb1 : vp_nar .boolean (1 : Int32) = 1 := by decide
theorem vnb0 : vp_nar .boolean (0 : Int32) = 0 := by decide
theorem pz_na (u : GS) : g_X9_needArgument u 0 = some (.inr "java/lang/IllegalArgumentException", u) := if_pos rfl
theorem pz_na1 (u : GS) : g_X9_needArgument u 1 = some (.inl 0, u) := if_neg (by decide)
theorem pz_ns (u : GS) : g_X9_needState u 0 = some (.inr "java/lang/IllegalStateException", u) := if_pos rfl
theorem pz_ns1 (u : GS) : g_X9_needState u 1 = some (.inl 0, u) := if_neg (by decide)
theorem pz_ni (u : GS) : g_X9_needIndex u 0 = some (.inr "java/lang/IndexOutOfBoundsException", u) := if_pos rfl
theorem pz_ni1 (u : GS) : g_X9_needIndex u 1 = some (.inl 0, u) := if_neg (by decide)
theorem pz_h0 (v : MS) : g_X10_holds v 0 = some (1, m_thrown_set v 0) := by rw [g_X10_holds, pz_let, if_pos rfl]
theorem pz_h1 (v : MS) : g_X10_holds v 1 = some (0, m_thrown_set v 1) := by rw [g_X10_holds, pz_let, if_neg (by decide)]
theorem pz_h2 (v : MS) : g_X10_holds v 2 = some (0, m_thrown_set v 2) := by rw [g_X10_holds, pz_let, if_neg (by decide)]
theorem pz_h3 (v : MS) : g_X10_holds v 3 = some (0, m_thrown_set v 3) := by rw [g_X10_holds, pz_let, if_neg (by decide)]
theorem iw1 {p a b : Int32} (h : ¬ p < a) (h2 : ¬ b < p) : g_X9_isWithin p a b = some 1 := by rw [g_X9_isWithin, if_neg h, if_neg h2]
theorem iw0 {p a b : Int32} (h : ¬ (¬ p < a ∧ ¬ b < p)) : g_X9_isWithin p a b = some 0 := by
  rw [g_X9_isWithin]
  by_cases h1 : p < a
  · rw [if_pos h1]
  · rw [if_neg h1, if_pos (Classical.byContradiction fun h2 => h ⟨h1, h2⟩)]
theorem ii1 {p a b : Int32} (h : ¬ p < a) (h2 : ¬ b < p) : g_X10_isIn p a b = some 1 := iw1 h h2
theorem ii0 {p a b : Int32} (h : ¬ (¬ p < a ∧ ¬ b < p)) : g_X10_isIn p a b = some 0 := iw0 h
/-- between two bounds or not, for class and reference -/
theorem iwc (p a b : Int32) : (¬ p < a ∧ ¬ b < p ∧ g_X9_isWithin p a b = some 1 ∧ g_X10_isIn p a b = some 1) ∨ (¬ (¬ p < a ∧ ¬ b < p) ∧ g_X9_isWithin p a b = some 0 ∧ g_X10_isIn p a b = some 0) := by
  by_cases h : ¬ p < a ∧ ¬ b < p
  · exact Or.inl ⟨h.1, h.2, iw1 h.1 h.2, ii1 h.1 h.2⟩
  · exact Or.inr ⟨h, iw0 h, ii0 h⟩
theorem iw_nI {k a b : Nat} (ha : a ≤ k) (hb : k ≤ b) (hk : b < 2 ^ 31) : g_X9_isWithin (nI k) (nI a) (nI b) = some 1 := iw1 (nI_nlt ha (by omega)) (nI_nlt hb (by omega))
theorem iw_nI0 {k a b : Nat} (h : k < a ∨ b < k) (hk : k < 2 ^ 31) (ha : a < 2 ^ 31) (hb : b < 2 ^ 31) : g_X9_isWithin (nI k) (nI a) (nI b) = some 0 := iw0 (fun ⟨p, q⟩ => by
  rw [nI_ltI hk ha] at p
  rw [nI_ltI hb hk] at q
  omega)
theorem isw {k a b : Nat} (p : Int32) (hp : p = nI k) (ha : a ≤ k) (hb : k ≤ b) (hk : b < 2 ^ 31) (A B : Int32) (hA : A = nI a := by rfl) (hB : B = nI b := by rfl) : g_X9_isWithin p A B = some 1 := by
  rw [hp, hA, hB]
  exact iw_nI ha hb hk
/-- an index between 0 and n: a natural behind it -/
theorem ix_of {p : Int32} {n : Nat} (B : Int32) (hB : B = nI n) (hn : n < 2 ^ 31) (h : ¬ p < 0) (h2 : ¬ B < p) : ∃ k : Nat, k ≤ n ∧ p = nI k := by
  obtain ⟨j, hj, rfl⟩ := nI_of h
  refine ⟨j, ?_, rfl⟩
  rw [hB, nI_ltI hn hj] at h2
  omega
/-- a section: refused by both, or a natural below 12 -/
theorem secc (u : GS) (p : Int32) : (g_X9_needSection u p = some (.inr "java/lang/IndexOutOfBoundsException", u) ∧ g_X10_isSection p = some 0) ∨ (∃ k : Nat, k < 12 ∧ p = nI k ∧ g_X9_needSection u p = some (.inl 0, u) ∧ g_X10_isSection p = some 1) := by
  rcases iwc p 0 11 with ⟨h1, h2, e1, e2⟩ | ⟨h, e1, e2⟩
  · obtain ⟨k, hk, e⟩ := ix_of 11 (n := 11) rfl (by decide) h1 h2
    refine Or.inr ⟨k, by omega, e, ?_, ?_⟩
    · rw [g_X9_needSection, e1, pz_bind, pz_ni1, pz_xl]
    · rw [g_X10_isSection, e2, pz_bind, pz_bo1]
  · refine Or.inl ⟨?_, ?_⟩
    · rw [g_X9_needSection, e1, pz_bind, pz_ni, pz_xr, id]
    · rw [g_X10_isSection, e2, pz_bind, pz_bo0]
theorem patc (u : GS) (p : Int32) : (g_X9_needPatrol u p = some (.inr "java/lang/IndexOutOfBoundsException", u) ∧ g_X10_isPatrol p = some 0) ∨ (∃ k : Nat, k < 3 ∧ p = nI k ∧ g_X9_needPatrol u p = some (.inl 0, u) ∧ g_X10_isPatrol p = some 1) := by
  rcases iwc p 0 2 with ⟨h1, h2, e1, e2⟩ | ⟨h, e1, e2⟩
  · obtain ⟨k, hk, e⟩ := ix_of 2 (n := 2) rfl (by decide) h1 h2
    refine Or.inr ⟨k, by omega, e, ?_, ?_⟩
    · rw [g_X9_needPatrol, e1, pz_bind, pz_ni1, pz_xl]
    · rw [g_X10_isPatrol, e2, pz_bind, pz_bo1]
  · refine Or.inl ⟨?_, ?_⟩
    · rw [g_X9_needPatrol, e1, pz_bind, pz_ni, pz_xr, id]
    · rw [g_X10_isPatrol, e2, pz_bind, pz_bo0]
/-- a place: refused by both, or a section and a lane -/
theorem plcc (u : GS) (p q : Int32) : (g_X9_needPlace u p q = some (.inr "java/lang/IndexOutOfBoundsException", u) ∧ g_X10_isPlace p q = some 0) ∨ (∃ s l : Nat, s < 12 ∧ l < 4 ∧ p = nI s ∧ q = nI l ∧ g_X9_needPlace u p q = some (.inl 0, u) ∧ g_X10_isPlace p q = some 1) := by
  rcases secc u p with ⟨a1, a2⟩ | ⟨s, hs, e, a1, a2⟩
  · refine Or.inl ⟨?_, ?_⟩
    · rw [g_X9_needPlace, a1, pz_xr, id]
    · rw [g_X10_isPlace, a2, pz_bind, if_pos rfl]
  · rcases iwc q 0 3 with ⟨h1, h2, e1, e2⟩ | ⟨h, e1, e2⟩
    · obtain ⟨l, hl, el⟩ := ix_of 3 (n := 3) rfl (by decide) h1 h2
      refine Or.inr ⟨s, l, hs, by omega, e, el, ?_, ?_⟩
      · rw [g_X9_needPlace, a1, pz_xl, e1, pz_bind, pz_ni1, pz_xl]
      · rw [g_X10_isPlace, a2, pz_bind, if_neg (by decide), e2, pz_bind, if_neg (by decide)]
    · refine Or.inl ⟨?_, ?_⟩
      · rw [g_X9_needPlace, a1, pz_xl, e1, pz_bind, pz_ni, pz_xr, id]
      · rw [g_X10_isPlace, a2, pz_bind, if_neg (by decide), e2, pz_bind, if_pos rfl]
theorem cpl (s l : Nat) : nI s * (4 : Int32) + nI l = nI (4 * s + l) := by rw [show (4 : Int32) = nI 4 from rfl, pk_mul, nI_add, Nat.mul_comm]
theorem mpl (s l : Nat) : (4 : Int32) * nI s + nI l = nI (4 * s + l) := by rw [show (4 : Int32) = nI 4 from rfl, pk_mul, nI_add]
theorem placeN (s l : Nat) : g_X9_placeOf (nI s) (nI l) = some (nI (4 * s + l)) := congrArg some (cpl s l)
theorem nm1 (k : Nat) (h : k < 2 ^ 31) : ¬ nI k = (-1 : Int32) := fun e => by
  have := congrArg Int32.toInt e
  rw [nI_toInt h] at this
  have z : (-1 : Int32).toInt = -1 := by decide
  omega
/-- two loops in step, or an answer on the way -/
theorem pz_lp2 {σ τ β γ : Type} (L : Nat → σ → Option β) (M : Nat → τ → Option γ) (C : Nat) (P : Nat → σ → τ → Prop) (R : Option β → Option γ → Prop)
    (hs : ∀ n i s t, i < C → P i s t → (∃ s' t', P (i + 1) s' t' ∧ L (n + 1) s = L n s' ∧ M (n + 1) t = M n t') ∨ R (L (n + 1) s) (M (n + 1) t)) :
    ∀ (d i n : Nat) (s : σ) (t : τ), i + d = C → P i s t → (∃ s' t', P C s' t' ∧ L (n + d) s = L n s' ∧ M (n + d) t = M n t') ∨ R (L (n + d) s) (M (n + d) t)
  | 0, i, n, s, t, h, hp => Or.inl ⟨s, t, by rw [← h]; exact hp, rfl, rfl⟩
  | d + 1, i, n, s, t, h, hp => by
    rcases hs (n + d) i s t (by omega) hp with ⟨s', t', hp', e1, e2⟩ | hr
    · rcases pz_lp2 L M C P R hs d (i + 1) n s' t' (by omega) hp' with ⟨s2, t2, h2, e3, e4⟩ | hr
      · exact Or.inl ⟨s2, t2, h2, (show L (n + (d + 1)) s = L (n + d) s' from e1).trans e3, (show M (n + (d + 1)) t = M (n + d) t' from e2).trans e4⟩
      · refine Or.inr ?_
        rw [show L (n + (d + 1)) s = L (n + d) s' from e1, show M (n + (d + 1)) t = M (n + d) t' from e2]
        exact hr
    · exact Or.inr hr
theorem lpR {σ τ β γ : Type} (L : Nat → σ → Option β) (M : Nat → τ → Option γ) (C : Nat) (hC : C < 1000) (P : Nat → σ → τ → Prop)
    (hs : ∀ n i s t, i < C → P i s t → ∃ s' t', P (i + 1) s' t' ∧ L (n + 1) s = L n s' ∧ M (n + 1) t = M n t') (s : σ) (t : τ) (h : P 0 s t) : ∃ n s' t', P C s' t' ∧ L FU s = L (n + 1) s' ∧ M FU t = M (n + 1) t' := by
  obtain ⟨n, hn⟩ : ∃ n, FU = n + 1 + C := ⟨999 - C, by show 1000 = _; omega⟩
  rcases pz_lp2 L M C P (fun _ _ => False) (fun n i s t hi hp => Or.inl (hs n i s t hi hp)) C 0 (n + 1) s t (by omega) h with ⟨s', t', h1, h2, h3⟩ | q
  · exact ⟨n, s', t', h1, by rw [hn]; exact h2, by rw [hn]; exact h3⟩
  · exact q.elim
theorem lpF {σ β : Type} (L : Nat → σ → Option β) (C : Nat) (hC : C < 1000) (P : Nat → σ → Prop)
    (hs : ∀ n i s, i < C → P i s → ∃ s', P (i + 1) s' ∧ L (n + 1) s = L n s') (s : σ) (h : P 0 s) : ∃ n s', P C s' ∧ L FU s = L (n + 1) s' := by
  obtain ⟨n, s', _, h1, h2, _⟩ := lpR L (fun _ (_ : Unit) => (none : Option Unit)) C hC (fun i s _ => P i s) (fun n i s _ hi hp => by
    obtain ⟨s', a, b⟩ := hs n i s hi hp
    exact ⟨s', (), a, b, rfl⟩) s () h
  exact ⟨n, s', h1, h2⟩
theorem lpE {σ β : Type} (L : Nat → σ → Option β) (C : Nat) (hC : C < 1000) (P : Nat → σ → Prop) (R : Option β → Prop)
    (hs : ∀ n i s, i < C → P i s → (∃ s', P (i + 1) s' ∧ L (n + 1) s = L n s') ∨ R (L (n + 1) s)) (s : σ) (h : P 0 s) : (∃ n s', P C s' ∧ L FU s = L (n + 1) s') ∨ R (L FU s) := by
  obtain ⟨n, hn⟩ : ∃ n, FU = n + 1 + C := ⟨999 - C, by show 1000 = _; omega⟩
  rcases pz_lp2 L (fun _ (_ : Unit) => (none : Option Unit)) C (fun i s _ => P i s) (fun x _ => R x) (fun n i s _ hi hp => by
    rcases hs n i s hi hp with ⟨s', a, b⟩ | q
    · exact Or.inl ⟨s', (), a, b, rfl⟩
    · exact Or.inr q) C 0 (n + 1) s () (by omega) h with ⟨s', t', h1, h2, h3⟩ | q
  · exact Or.inl ⟨n, s', h1, by rw [hn]; exact h2⟩
  · exact Or.inr (by rw [hn]; exact q)
theorem lpRE {σ τ β γ : Type} (L : Nat → σ → Option β) (M : Nat → τ → Option γ) (C : Nat) (hC : C < 1000) (P : Nat → σ → τ → Prop) (R : Option β → Option γ → Prop)
    (hs : ∀ n i s t, i < C → P i s t → (∃ s' t', P (i + 1) s' t' ∧ L (n + 1) s = L n s' ∧ M (n + 1) t = M n t') ∨ R (L (n + 1) s) (M (n + 1) t)) (s : σ) (t : τ) (h : P 0 s t) : (∃ n s' t', P C s' t' ∧ L FU s = L (n + 1) s' ∧ M FU t = M (n + 1) t') ∨ R (L FU s) (M FU t) := by
  obtain ⟨n, hn⟩ : ∃ n, FU = n + 1 + C := ⟨999 - C, by show 1000 = _; omega⟩
  rcases pz_lp2 L M C P R hs C 0 (n + 1) s t (by omega) h with ⟨s', t', h1, h2, h3⟩ | q
  · exact Or.inl ⟨n, s', t', h1, by rw [hn]; exact h2, by rw [hn]; exact h3⟩
  · exact Or.inr (by rw [hn]; exact q)
/-! what holds of both states between two calls -/
def RM (u : GS) (v : MS) : Prop := c_minute u = m_now v ∧ ∃ t : Nat, t ≤ 600 ∧ c_minute u = nI t
def RT (u : GS) (v : MS) : Prop := qcT u = qmT v ∧ ∀ p : Nat, p < 48 → ∃ h : Nat, h ≤ 20 ∧ cT_held u p = nI h
def RD (u : GS) (v : MS) : Prop := qcD u = qmD v ∧ ∀ k : Nat, k < 12 → cD_is u k = 0 ∨ cD_is u k = 2 ∨ ∃ x : Nat, x ≤ 120 ∧ cD_stuckAt u k = nI x
def RS (u : GS) (v : MS) : Prop := qcS u = qmS v ∧ (∀ k : Nat, k < 12 → ∃ x : Nat, x ≤ 120 ∧ cS_shown u k = nI x) ∧ (∀ k : Nat, k < 12 → cS_limits u k = -1 ∨ ∃ x : Nat, x ≤ 120 ∧ cS_limits u k = nI x) ∧ ∃ x : Nat, x ≤ 3 ∧ cS_weather u = nI x
def RO (u : GS) (v : MS) : Prop := cL_orders u = qmL v ∧ ∀ p : Nat, p < 48 → cL_orders u p = -1 ∨ ∃ x : Nat, x ≤ 2 ∧ cL_orders u p = nI x
def RH (u : GS) (v : MS) : Prop := cH_open u = mH_isOpen v ∧ (∀ k : Nat, k < 12 → cH_foundClearAt u k = if mH_wasClear v k = 0 then -1000 else mH_looked v k) ∧ ∀ k : Nat, cH_open u k = 0 ∨ cH_open u k = 1
def RI (u : GS) (v : MS) : Prop := ∃ n : Nat, n ≤ 12 ∧ cI_count u = nI n ∧ mI_incidents v = nI n ∧ cI_places u = mI_placed v ∧ cI_how u = mI_state v ∧ (∀ k : Nat, k < n → ∃ q : Nat, q < 48 ∧ cI_places u k = nI q) ∧ (∀ j : Nat, j < 3 → mP_sentTo v j = -1 ∨ ∃ k : Nat, k < n ∧ mP_sentTo v j = nI k ∧ cI_patrols u k = nI j) ∧ (∀ k : Nat, k < n → cI_patrols u k = -1 ∨ ∃ j : Nat, j < 3 ∧ cI_patrols u k = nI j ∧ mP_sentTo v j = nI k)
def RP (u : GS) (v : MS) : Prop := qcP u = qmP v ∧ (∀ j : Nat, j < 3 → ∃ s : Nat, s < 12 ∧ cP_sections u j = nI s) ∧ (∀ j : Nat, j < 3 → (cP_incidents u j = -1 ∧ cP_minutesLeft u j = 0) ∨ (¬ cP_incidents u j = -1 ∧ ∃ x : Nat, 1 ≤ x ∧ x ≤ 1000 ∧ cP_minutesLeft u j = nI x))
def RB (u : GS) (v : MS) : Prop := ∃ w : Nat, w ≤ 8 ∧ cB_count u = nI w ∧ mB_works v = nI w ∧ ∀ k : Nat, k < w → ∃ a b c d e : Nat, 1 ≤ a ∧ a ≤ 3 ∧ 1 ≤ b ∧ b ≤ c ∧ c ≤ 11 ∧ d < e ∧ e ≤ 600 ∧ (cB_lanes u k = nI a ∧ cB_froms u k = nI b ∧ cB_tos u k = nI c ∧ cB_begins u k = nI d ∧ cB_ends u k = nI e) ∧ (mB_worksLane v k = nI a ∧ mB_worksFrom v k = nI b ∧ mB_worksTo v k = nI c ∧ mB_worksBegin v k = nI d ∧ mB_worksEnd v k = nI e)
/-- one minute's row of one section, in both records -/
def rowK (kept pr : Nat → Int32) (t s : Nat) : Prop := ∃ x a b c d : Nat, x ≤ 120 ∧ a < 4 ∧ b < 4 ∧ c < 4 ∧ d < 4 ∧ pr (60 * t + 5 * s) = nI x ∧ pr (60 * t + 5 * s + 1) = nI a ∧ pr (60 * t + 5 * s + 2) = nI b ∧ pr (60 * t + 5 * s + 3) = nI c ∧ pr (60 * t + 5 * s + 4) = nI d ∧ kept (12 * t + s) = nI (256 * x + 64 * d + 16 * c + 4 * b + a)
def RK (u : GS) (v : MS) : Prop := ∀ t s : Nat, t < 60 → s < 12 → rowK (cK_kept u) (mK_proofs v) t s
def Rel (u : GS) (v : MS) : Prop := RM u v ∧ RT u v ∧ RD u v ∧ RS u v ∧ RO u v ∧ RH u v ∧ RI u v ∧ RP u v ∧ RB u v ∧ RK u v
theorem SI_ok {u' : GS} {v' : MS} {cg : Option (g_X × GS)} {mg : Option (Int32 × MS)} {es : List (String × Int32)} (r : Int32) (h1 : cg = some (.inl r, u')) (h2 : mg = some (r, v')) (h3 : m_thrown v' = 0) (h4 : Rel u' v') : SI Rel cg mg es := Or.inl ⟨r, u', v', h1, h2, h3, h4⟩
theorem SI_no {u' : GS} {v' : MS} {cg : Option (g_X × GS)} {mg : Option (Int32 × MS)} {es : List (String × Int32)} (E : String) (k : Int32) (b : Int32) (hm : (E, k) ∈ es) (h1 : cg = some (.inr E, u')) (h2 : mg = some (b, v')) (h3 : m_thrown v' = k) (h4 : Rel u' v') : SI Rel cg mg es := Or.inr ⟨(E, k), u', b, v', hm, h1, h2, h3, h4⟩
theorem SV_ok {u' : GS} {v' : MS} {cg : Option (g_X × GS)} {mg : Option MS} {es : List (String × Int32)} (r : Int32) (h1 : cg = some (.inl r, u')) (h2 : mg = some v') (h3 : m_thrown v' = 0) (h4 : Rel u' v') : SV Rel cg mg es := Or.inl ⟨r, u', v', h1, h2, h3, h4⟩
theorem SV_no {u' : GS} {v' : MS} {cg : Option (g_X × GS)} {mg : Option MS} {es : List (String × Int32)} (E : String) (k : Int32) (hm : (E, k) ∈ es) (h1 : cg = some (.inr E, u')) (h2 : mg = some v') (h3 : m_thrown v' = k) (h4 : Rel u' v') : SV Rel cg mg es := Or.inr ⟨(E, k), u', v', hm, h1, h2, h3, h4⟩
end
section
/-! the fields, and the calls without loops -/
theorem c_ge (C : Int32) (c : Nat) {i : Nat} (h : i < c) (hc : c < 2 ^ 31) (hC : C = nI c := by rfl) : (C ≤ nI i) = False := eq_false (by
  rw [hC]
  exact nI_ge h hc)
theorem c_le (C : Int32) (c : Nat) (hc : c < 2 ^ 31) (hC : C = nI c := by rfl) : (C ≤ nI c) = True := eq_true (by
  rw [hC]
  exact nI_le (Nat.le_refl c) hc)
theorem c_leT (C : Int32) (c : Nat) {i : Nat} (h : c ≤ i) (hc : i < 2 ^ 31) (hC : C = nI c := by rfl) : (C ≤ nI i) = True := eq_true (by
  rw [hC]
  exact nI_le h hc)
theorem c_neg {i : Nat} (h : i < 2 ^ 31) : (nI i < 0) = False := eq_false (nI_pos h)
theorem c_eq (C : Int32) (c : Nat) {i : Nat} (h : i < 2 ^ 31) (hc : c < 2 ^ 31) (hC : C = nI c := by rfl) : (nI i = C) = (i = c) := by
  rw [hC]
  exact propext (nI_eq h hc)
theorem cl_I {i : Nat} (h : i < 2 ^ 31) : (nI i).toNatClampNeg = i := nI_clamp h
section RELS
variable {u : GS} {v : MS}
theorem RT.held (h : RT u v) : mT_holding v = cT_held u := (congrArg (fun t : cT_t => t.1) h.1).symm
theorem RT.stopped (h : RT u v) : mT_isStopped v = cT_stopped u := (congrArg (fun t : cT_t => t.2.1) h.1).symm
theorem RT.broken (h : RT u v) : mT_isBroken v = cT_broken u := (congrArg (fun t : cT_t => t.2.2.1) h.1).symm
theorem RT.demand (h : RT u v) : mT_demand v = cT_demand u := (congrArg (fun t : cT_t => t.2.2.2.1) h.1).symm
theorem RT.came (h : RT u v) : mT_came v = cT_came u := (congrArg (fun t : cT_t => t.2.2.2.2.1) h.1).symm
theorem RT.waiting (h : RT u v) : mT_waiting v = cT_waiting u := (congrArg (fun t : cT_t => t.2.2.2.2.2.1) h.1).symm
theorem RT.gone (h : RT u v) : mT_gone v = cT_gone u := (congrArg (fun t : cT_t => t.2.2.2.2.2.2) h.1).symm
theorem RD.det (h : RD u v) : mD_detects v = cD_is u := (congrArg (fun t : cD_t => t.1) h.1).symm
theorem RD.stuck (h : RD u v) : mD_stuckAt v = cD_stuckAt u := (congrArg (fun t : cD_t => t.2) h.1).symm
theorem RS.limits (h : RS u v) : mS_limited v = cS_limits u := (congrArg (fun t : cS_t => t.1) h.1).symm
theorem RS.shown (h : RS u v) : mS_speedSign v = cS_shown u := (congrArg (fun t : cS_t => t.2.1) h.1).symm
theorem RS.lowered (h : RS u v) : mS_lowered v = cS_loweredAt u := (congrArg (fun t : cS_t => t.2.2.1) h.1).symm
theorem RS.weather (h : RS u v) : mS_weather v = cS_weather u := (congrArg (fun t : cS_t => t.2.2.2) h.1).symm
theorem RP.at' (h : RP u v) : mP_at v = cP_sections u := (congrArg (fun t : cP_t => t.1) h.1).symm
theorem RP.sent (h : RP u v) : mP_sentTo v = cP_incidents u := (congrArg (fun t : cP_t => t.2.1) h.1).symm
theorem RP.left (h : RP u v) : mP_left v = cP_minutesLeft u := (congrArg (fun t : cP_t => t.2.2) h.1).symm
theorem sim_demand (h : Rel u v) (p : Int32) : SI Rel (g_X9_demand u p) (g_X10_demand v p) [("java/lang/IllegalArgumentException", 1)] := by
  obtain ⟨hM, hT, hD, hS, hO, hH, hI, hP, hB, hK⟩ := id h
  rcases iwc p 0 40 with ⟨-, -, e1, e2⟩ | ⟨-, e1, e2⟩
  · refine SI_ok (u' := cT_demand_set u p) (v' := mT_demand_set (m_thrown_set v 0) p) (mT_demand v) ?_ ?_ rfl ⟨hM, ⟨congrArg (fun t : cT_t => (t.1, t.2.1, t.2.2.1, p, t.2.2.2.2)) hT.1, hT.2⟩, hD, hS, hO, hH, hI, hP, hB, hK⟩
    · rw [hT.demand]
      simp only [g_X9_demand, e1, pz_bind, pz_na1, pz_xl, pz_let]
    · simp only [g_X10_demand, e2, pz_bind, pz_let, z10, if_false, pz_h0] <;> rfl
  · exact SI_no "java/lang/IllegalArgumentException" 1 0 (v' := m_thrown_set v 1) (by simp) (by simp only [g_X9_demand, e1, pz_bind, pz_na, pz_xr, id]) (by simp only [g_X10_demand, e2, pz_bind, pz_let, z00, if_true, pz_h1]) rfl h
theorem sim_weather (h : Rel u v) (p : Int32) : SI Rel (g_X9_weather u p) (g_X10_weather v p) [("java/lang/IllegalArgumentException", 1)] := by
  obtain ⟨hM, hT, hD, hS, hO, hH, hI, hP, hB, hK⟩ := id h
  rcases iwc p 0 3 with ⟨h1, h2, e1, e2⟩ | ⟨-, e1, e2⟩
  · obtain ⟨x, hx, rfl⟩ := ix_of 3 (n := 3) rfl (by decide) h1 h2
    refine SI_ok (u' := cS_weather_set u (nI x)) (v' := mS_weather_set (m_thrown_set v 0) (nI x)) (mS_weather v) ?_ ?_ rfl ⟨hM, hT, hD, ⟨congrArg (fun t : cS_t => (t.1, t.2.1, t.2.2.1, nI x)) hS.1, hS.2.1, hS.2.2.1, x, hx, rfl⟩, hO, hH, hI, hP, hB, hK⟩
    · rw [hS.weather]
      simp only [g_X9_weather, e1, pz_bind, pz_na1, pz_xl, pz_let]
    · simp only [g_X10_weather, e2, pz_bind, pz_let, z10, if_false, pz_h0] <;> rfl
  · exact SI_no "java/lang/IllegalArgumentException" 1 0 (v' := m_thrown_set v 1) (by simp) (by simp only [g_X9_weather, e1, pz_bind, pz_na, pz_xr, id]) (by simp only [g_X10_weather, e2, pz_bind, pz_let, z00, if_true, pz_h1]) rfl h
theorem sim_holds (h : Rel u v) (p q : Int32) : SI Rel (g_X9_holds u p q) (g_X10_holds_ v p q) [("java/lang/IndexOutOfBoundsException", 1)] := by
  obtain ⟨hM, hT, hD, hS, hO, hH, hI, hP, hB, hK⟩ := id h
  rcases plcc u p q with ⟨e1, e2⟩ | ⟨s, l, hs, hl, rfl, rfl, e1, e2⟩
  · exact SI_no "java/lang/IndexOutOfBoundsException" 1 0 (v' := m_thrown_set v 1) (by simp) (by simp only [g_X9_holds, e1, pz_xr, id]) (by simp only [g_X10_holds_, e2, pz_bind, pz_let, z00, if_true, pz_h1]) rfl h
  · have hq : 4 * s + l < 48 := by omega
    refine SI_ok (u' := u) (v' := m_thrown_set v 0) (mT_holding v (nI (4 * s + l)).toNatClampNeg) ?_ ?_ rfl h
    · rw [hT.held]
      simp only [g_X9_holds, e1, pz_xl, placeN, pz_bind, pz_inN hq (by decide)]
    · simp only [g_X10_holds_, e2, pz_bind, pz_let, z10, if_false, pz_h0, mpl, pz_inN hq (by decide)] <;> rfl
theorem updR (f : Nat → Int32) (N : Nat) (Q : Int32 → Prop) (h : ∀ k : Nat, k < N → Q (f k)) (i : Nat) (x : Int32) (hx : Q x) : ∀ k : Nat, k < N → Q (upd f i x k) := fun k hk => by
  by_cases e : k = i
  · rw [e, pk_us]
    exact hx
  · rw [pk_un e]
    exact h k hk
theorem sim_detector (h : Rel u v) (p q r : Int32) : SI Rel (g_X9_detector u p q r) (g_X10_detector v p q r) [("java/lang/IndexOutOfBoundsException", 1), ("java/lang/IllegalArgumentException", 2)] := by
  obtain ⟨hM, hT, hD, hS, hO, hH, hI, hP, hB, hK⟩ := id h
  rcases secc u p with ⟨e1, e2⟩ | ⟨s, hs, rfl, e1, e2⟩
  · refine SI_no "java/lang/IndexOutOfBoundsException" 1 0 (v' := m_thrown_set v 1) (by simp) (by simp only [g_X9_detector, e1, pz_xr, id]) ?_ rfl h
    rcases iwc q 0 2 with ⟨-, -, -, f2⟩ | ⟨-, -, f2⟩
    · by_cases hq : q = 1
      · rcases iwc r 0 120 with ⟨-, -, -, k2⟩ | ⟨-, -, k2⟩ <;> simp only [g_X10_detector, f2, e2, k2, eq_true hq, pz_bind, pz_let, z00, z10, if_true, if_false, pz_h1]
      · simp only [g_X10_detector, f2, e2, eq_false hq, pz_bind, pz_let, z00, z10, if_true, if_false, pz_h1]
    · simp only [g_X10_detector, f2, e2, pz_bind, pz_let, z00, z10, if_true, if_false, pz_h1]
  · have a1 : ∀ {α : Type} (a : Option α), g_in (nI s) 12 a = a := fun a => pz_inN hs (by decide) a
    have ok : (q = 1 → ∃ x : Nat, x ≤ 120 ∧ r = nI x) → ¬ q < 0 → ¬ (2 : Int32) < q → g_X9_isWithin q 0 2 = some 1 → (q = 1 → g_X9_isWithin r 0 120 = some 1) → g_X10_isIn q 0 2 = some 1 → (q = 1 → g_X10_isIn r 0 120 = some 1) → SI Rel (g_X9_detector u (nI s) q r) (g_X10_detector v (nI s) q r) [("java/lang/IndexOutOfBoundsException", 1), ("java/lang/IllegalArgumentException", 2)] := by
      intro hx hq0 hq2 f1 k1 f2 k2
      refine SI_ok (u' := cD_stuckAt_set (cD_is_set u (upd (cD_is u) (nI s).toNatClampNeg q)) (upd (cD_stuckAt u) (nI s).toNatClampNeg r)) (v' := mD_stuckAt_set (mD_detects_set (m_thrown_set v 0) (upd (mD_detects v) (nI s).toNatClampNeg q)) (upd (mD_stuckAt v) (nI s).toNatClampNeg r)) (mD_detects v (nI s).toNatClampNeg) ?_ ?_ rfl ⟨hM, hT, ⟨congrArg (fun t : cD_t => (upd t.1 (nI s).toNatClampNeg q, upd t.2 (nI s).toNatClampNeg r)) hD.1, ?_⟩, hS, hO, hH, hI, hP, hB, hK⟩
      · rw [hD.det]
        by_cases hq : q = 1
        · simp only [g_X9_detector, e1, pz_xl, f1, k1 hq, eq_true hq, pz_bind, pz_na1, pz_let, a1, z10, if_true, if_false] <;> rfl
        · simp only [g_X9_detector, e1, pz_xl, f1, eq_false hq, pz_bind, pz_na1, pz_let, a1, z10, if_true, if_false] <;> rfl
      · by_cases hq : q = 1
        · simp only [g_X10_detector, e2, f2, k2 hq, eq_true hq, pz_bind, pz_h0, pz_let, a1, z10, if_true, if_false] <;> rfl
        · simp only [g_X10_detector, e2, f2, eq_false hq, pz_bind, pz_h0, pz_let, a1, z10, if_true, if_false] <;> rfl
      · intro k hk
        show upd (cD_is u) (nI s).toNatClampNeg q k = 0 ∨ upd (cD_is u) (nI s).toNatClampNeg q k = 2 ∨ ∃ x : Nat, x ≤ 120 ∧ upd (cD_stuckAt u) (nI s).toNatClampNeg r k = nI x
        rw [cl_I (by omega)]
        by_cases e : k = s
        · rw [e, pk_us, pk_us]
          obtain ⟨x, hx2, rfl⟩ := ix_of 2 (n := 2) rfl (by decide) hq0 hq2
          by_cases x0 : x = 0
          · exact Or.inl (by rw [x0]; rfl)
          · by_cases x2 : x = 2
            · exact Or.inr (Or.inl (by rw [x2]; rfl))
            · exact Or.inr (Or.inr (hx (by rw [show x = 1 by omega]; rfl)))
        · rw [pk_un e, pk_un e]
          exact hD.2 k hk
    have no : ∀ (f1 : g_X9_isWithin q 0 2 = some 0 ∨ (g_X9_isWithin q 0 2 = some 1 ∧ q = 1 ∧ g_X9_isWithin r 0 120 = some 0)) (f2 : g_X10_isIn q 0 2 = some 0 ∨ (g_X10_isIn q 0 2 = some 1 ∧ q = 1 ∧ g_X10_isIn r 0 120 = some 0)), SI Rel (g_X9_detector u (nI s) q r) (g_X10_detector v (nI s) q r) [("java/lang/IndexOutOfBoundsException", 1), ("java/lang/IllegalArgumentException", 2)] := by
      intro f1 f2
      refine SI_no "java/lang/IllegalArgumentException" 2 0 (u' := u) (v' := m_thrown_set v 2) (by simp) ?_ ?_ rfl h
      · rcases f1 with f1 | ⟨f1, hq, k1⟩
        · simp only [g_X9_detector, e1, pz_xl, f1, pz_bind, pz_na, pz_xr, id]
        · simp only [g_X9_detector, e1, pz_xl, f1, k1, eq_true hq, pz_bind, pz_na, pz_na1, pz_xr, id, pz_let, z00, z10, if_true, if_false]
      · rcases f2 with f2 | ⟨f2, hq, k2⟩
        · simp only [g_X10_detector, e2, f2, pz_bind, pz_let, z00, z10, if_true, if_false, pz_h2]
        · simp only [g_X10_detector, e2, f2, k2, eq_true hq, pz_bind, pz_let, z00, z10, if_true, if_false, pz_h2]
    rcases iwc q 0 2 with ⟨h1, h2, f1, f2⟩ | ⟨-, f1, f2⟩
    · by_cases hq : q = 1
      · rcases iwc r 0 120 with ⟨h3, h4, k1, k2⟩ | ⟨-, k1, k2⟩
        · exact ok (fun _ => ix_of 120 (n := 120) rfl (by decide) h3 h4) h1 h2 f1 (fun _ => k1) f2 (fun _ => k2)
        · exact no (Or.inr ⟨f1, hq, k1⟩) (Or.inr ⟨f2, hq, k2⟩)
      · exact ok (fun z => absurd z hq) h1 h2 f1 (fun z => absurd z hq) f2 (fun z => absurd z hq)
    · exact no (Or.inl f1) (Or.inl f2)
end RELS
end
section
theorem ge0 {p : Int32} (A : Int32) (hA : 0 ≤ A.toInt) (h : ¬ p < A) : ¬ p < 0 := fun q => h (by
  rw [Int32.lt_iff_toInt_lt] at q ⊢
  have z : (0 : Int32).toInt = 0 := by decide
  omega)
theorem es1 {a : String × Int32} {l : List (String × Int32)} : a ∈ a :: l := List.mem_cons_self
theorem es2 {a b : String × Int32} {l : List (String × Int32)} : a ∈ b :: a :: l := List.mem_cons_of_mem _ List.mem_cons_self
theorem es3 {a b c : String × Int32} {l : List (String × Int32)} : a ∈ c :: b :: a :: l := List.mem_cons_of_mem _ (List.mem_cons_of_mem _ List.mem_cons_self)
theorem ordc (r : Int32) : (r = -1 ∧ g_X10_isIn r (-1) 2 = some 1) ∨ (¬ r = -1 ∧ (∃ x : Nat, x ≤ 2 ∧ r = nI x) ∧ g_X9_isWithin r 0 2 = some 1 ∧ g_X10_isIn r (-1) 2 = some 1) ∨ (¬ r = -1 ∧ g_X9_isWithin r 0 2 = some 0 ∧ g_X10_isIn r (-1) 2 = some 0) := by
  have zm : (-1 : Int32).toInt = -1 := by decide
  have z0 : (0 : Int32).toInt = 0 := by decide
  have z2 : (2 : Int32).toInt = 2 := by decide
  by_cases hr : r = -1
  · refine Or.inl ⟨hr, ?_⟩
    rw [hr]
    exact ii1 (by decide) (by decide)
  · have hr2 : ¬ r.toInt = -1 := fun e => hr (Int32.toInt_inj.mp (e.trans zm.symm))
    rcases iwc r 0 2 with ⟨h1, h2, e1, e2⟩ | ⟨h, e1, e2⟩
    · refine Or.inr (Or.inl ⟨hr, ix_of 2 (n := 2) rfl (by decide) h1 h2, e1, ii1 ?_ h2⟩)
      rw [Int32.lt_iff_toInt_lt] at h1 ⊢
      omega
    · refine Or.inr (Or.inr ⟨hr, e1, ii0 (fun ⟨a, b⟩ => h ⟨?_, b⟩)⟩)
      rw [Int32.lt_iff_toInt_lt] at a ⊢
      omega
theorem cntc {w : Nat} {p : Int32} (hw : w < 2 ^ 31) (h : ¬ p < 0) (h2 : ¬ nI w - 1 < p) : ∃ k : Nat, k < w ∧ p = nI k := by
  cases w with
  | zero => exact absurd (show nI 0 - 1 < p from by
      rw [Int32.lt_iff_toInt_lt] at h ⊢
      have z : (nI 0 - 1 : Int32).toInt = -1 := by decide
      have z0 : (0 : Int32).toInt = 0 := by decide
      omega) h2
  | succ n =>
    rw [nI_pred] at h2
    obtain ⟨k, hk, e⟩ := ix_of (nI n) (n := n) rfl (by omega) h h2
    exact ⟨k, by omega, e⟩
theorem cntn {w k : Nat} (hw : w < 2 ^ 31) (hk : k < w) : ¬ nI w - 1 < nI k := by
  cases w with
  | zero => omega
  | succ n =>
    rw [nI_pred, nI_ltI (by omega) (by omega)]
    omega
section RELS2
variable {u : GS} {v : MS}
theorem sim_limit (h : Rel u v) (p q : Int32) : SI Rel (g_X9_limit u p q) (g_X10_limit v p q) [("java/lang/IndexOutOfBoundsException", 1), ("java/lang/IllegalArgumentException", 2)] := by
  obtain ⟨hM, hT, hD, hS, hO, hH, hI, hP, hB, hK⟩ := id h
  rcases secc u p with ⟨e1, e2⟩ | ⟨s, hs, rfl, e1, e2⟩
  · refine SI_no "java/lang/IndexOutOfBoundsException" 1 0 (v' := m_thrown_set v 1) es1 (by simp only [g_X9_limit, e1, pz_xr, id]) ?_ rfl h
    by_cases hq : q = -1
    · have hq' := eq_true hq
      simp only [g_X10_limit, e2, hq', pz_bind, pz_let, z00, if_true, pz_h1]
    · have hq' := eq_false hq
      rcases iwc q 40 120 with ⟨-, -, -, f2⟩ | ⟨-, -, f2⟩
      · by_cases hr : (q - q / (20 : Int32) * (20 : Int32)) = 0
        · have hr' := eq_true hr
          simp only [g_X10_limit, e2, hq', hr', f2, pz_bind, pz_let, z00, z10, if_true, if_false, pz_h1]
        · have hr' := eq_false hr
          simp only [g_X10_limit, e2, hq', hr', f2, pz_bind, pz_let, z00, z10, if_true, if_false, pz_h1]
      · simp only [g_X10_limit, e2, hq', f2, pz_bind, pz_let, z00, z10, if_true, if_false, pz_h1]
  · have a1 : ∀ {α : Type} (a : Option α), g_in (nI s) 12 a = a := fun a => pz_inN hs (by decide) a
    have inv : (q = -1 ∨ ∃ x : Nat, x ≤ 120 ∧ q = nI x) → Rel (cS_limits_set u (upd (cS_limits u) (nI s).toNatClampNeg q)) (mS_limited_set (m_thrown_set v 0) (upd (mS_limited v) (nI s).toNatClampNeg q)) := fun hx => ⟨hM, hT, hD, ⟨congrArg (fun t : cS_t => (upd t.1 (nI s).toNatClampNeg q, t.2)) hS.1, hS.2.1, updR (cS_limits u) 12 (fun z => z = -1 ∨ ∃ x : Nat, x ≤ 120 ∧ z = nI x) hS.2.2.1 _ _ hx, hS.2.2.2⟩, hO, hH, hI, hP, hB, hK⟩
    by_cases hq : q = -1
    · have hq' := eq_true hq
      refine SI_ok (mS_limited v (nI s).toNatClampNeg) ?_ ?_ rfl (inv (Or.inl hq))
      · rw [hS.limits]
        simp only [g_X9_limit, e1, hq', pz_xl, pz_bind, pz_let, pz_na1, a1, if_true]
      · simp only [g_X10_limit, e2, hq', pz_bind, pz_let, a1, z10, if_true, if_false, pz_h0] <;> rfl
    · have hq' := eq_false hq
      rcases iwc q 40 120 with ⟨h1, h2, f1, f2⟩ | ⟨-, f1, f2⟩
      · by_cases hr : (q - q / (20 : Int32) * (20 : Int32)) = 0
        · have hr' := eq_true hr
          refine SI_ok (mS_limited v (nI s).toNatClampNeg) ?_ ?_ rfl (inv (Or.inr (ix_of 120 (n := 120) rfl (by decide) (ge0 40 (by decide) h1) h2)))
          · rw [hS.limits]
            simp only [g_X9_limit, g_X9_isSpeedSign, e1, f1, hq', hr', pz_xl, pz_bind, pz_let, pz_na1, a1, z10, if_true, if_false]
          · simp only [g_X10_limit, e2, f2, hq', hr', pz_bind, pz_let, a1, z10, if_true, if_false, pz_h0] <;> rfl
        · have hr' := eq_false hr
          refine SI_no "java/lang/IllegalArgumentException" 2 0 (u' := u) (v' := m_thrown_set v 2) es2 ?_ ?_ rfl h
          · simp only [g_X9_limit, g_X9_isSpeedSign, e1, f1, hq', hr', pz_xl, pz_xr, id, pz_bind, pz_let, pz_na, a1, z10, z00, if_true, if_false]
          · simp only [g_X10_limit, e2, f2, hq', hr', pz_bind, pz_let, a1, z10, z00, if_true, if_false, pz_h2]
      · refine SI_no "java/lang/IllegalArgumentException" 2 0 (u' := u) (v' := m_thrown_set v 2) es2 ?_ ?_ rfl h
        · simp only [g_X9_limit, g_X9_isSpeedSign, e1, f1, hq', pz_xl, pz_xr, id, pz_bind, pz_let, pz_na, a1, z10, z00, if_true, if_false]
        · simp only [g_X10_limit, e2, f2, hq', pz_bind, pz_let, a1, z10, z00, if_true, if_false, pz_h2]
theorem sim_order (h : Rel u v) (p q r : Int32) : SI Rel (g_X9_order u p q r) (g_X10_order v p q r) [("java/lang/IndexOutOfBoundsException", 1), ("java/lang/IllegalArgumentException", 2), ("java/lang/IllegalStateException", 3)] := by
  obtain ⟨hM, hT, hD, hS, hO, hH, hI, hP, hB, hK⟩ := id h
  rcases plcc u p q with ⟨e1, e2⟩ | ⟨s, l, hs, hl, rfl, rfl, e1, e2⟩
  · exact SI_no "java/lang/IndexOutOfBoundsException" 1 0 (v' := m_thrown_set v 1) es1 (by simp only [g_X9_order, e1, pz_xr, id]) (by simp only [g_X10_order, e2, pz_bind, pz_let, z00, if_true, pz_h1]) rfl h
  · have hk : 4 * s + l < 48 := by omega
    have a1 : ∀ {α : Type} (a : Option α), g_in (nI (4 * s + l)) 48 a = a := fun a => pz_inN hk (by decide) a
    have inv : (r = -1 ∨ ∃ x : Nat, x ≤ 2 ∧ r = nI x) → Rel (cL_orders_set u (upd (cL_orders u) (nI (4 * s + l)).toNatClampNeg r)) (mL_ordered_set (m_thrown_set v 0) (upd (mL_ordered v) (nI (4 * s + l)).toNatClampNeg r)) := fun hx => ⟨hM, hT, hD, hS, ⟨congrArg (fun t : Nat → Int32 => upd t (nI (4 * s + l)).toNatClampNeg r) hO.1, updR (cL_orders u) 48 (fun z => z = -1 ∨ ∃ x : Nat, x ≤ 2 ∧ z = nI x) hO.2 _ _ hx⟩, hH, hI, hP, hB, hK⟩
    have hO1 : mL_ordered v = cL_orders u := hO.1.symm
    rcases ordc r with ⟨hr, f2⟩ | ⟨hr, hx, f1, f2⟩ | ⟨hr, f1, f2⟩
    · have hr' := eq_true hr
      have hr2 := eq_false (show ¬ r = 2 from by rw [hr]; decide)
      refine SI_ok (mL_ordered v (nI (4 * s + l)).toNatClampNeg) ?_ ?_ rfl (inv (Or.inl hr))
      · rw [hO1]
        simp only [g_X9_order, e1, hr', hr2, pz_xl, pz_bind, pz_let, pz_na1, pz_ns1, placeN, a1, if_true, if_false]
      · simp only [g_X10_order, e2, f2, hr2, pz_bind, pz_let, mpl, a1, z10, if_true, if_false, pz_h0] <;> rfl
    · have hr' := eq_false hr
      by_cases hr2 : r = 2
      · have hr2' := eq_true hr2
        by_cases hs0 : nI s = 0
        · have hs' := eq_true hs0
          refine SI_no "java/lang/IllegalStateException" 3 0 (u' := u) (v' := m_thrown_set v 3) es3 ?_ ?_ rfl h
          · simp only [g_X9_order, e1, f1, hr', hr2', hs', pz_xl, pz_xr, id, pz_bind, pz_let, pz_na1, pz_ns, placeN, a1, z10, z00, if_true, if_false]
          · simp only [g_X10_order, e2, f2, hr2', hs', pz_bind, pz_let, mpl, a1, z10, z30, if_true, if_false, pz_h3]
        · have hs' := eq_false hs0
          refine SI_ok (mL_ordered v (nI (4 * s + l)).toNatClampNeg) ?_ ?_ rfl (inv (Or.inr hx))
          · rw [hO1]
            simp only [g_X9_order, e1, f1, hr', hr2', hs', pz_xl, pz_bind, pz_let, pz_na1, pz_ns1, placeN, a1, z10, if_true, if_false]
          · simp only [g_X10_order, e2, f2, hr2', hs', pz_bind, pz_let, mpl, a1, z10, if_true, if_false, pz_h0] <;> rfl
      · have hr2' := eq_false hr2
        refine SI_ok (mL_ordered v (nI (4 * s + l)).toNatClampNeg) ?_ ?_ rfl (inv (Or.inr hx))
        · rw [hO1]
          simp only [g_X9_order, e1, f1, hr', hr2', pz_xl, pz_bind, pz_let, pz_na1, pz_ns1, placeN, a1, z10, if_true, if_false]
        · simp only [g_X10_order, e2, f2, hr2', pz_bind, pz_let, mpl, a1, z10, if_true, if_false, pz_h0] <;> rfl
    · have hr' := eq_false hr
      refine SI_no "java/lang/IllegalArgumentException" 2 0 (u' := u) (v' := m_thrown_set v 2) es2 ?_ ?_ rfl h
      · simp only [g_X9_order, e1, f1, hr', pz_xl, pz_xr, id, pz_bind, pz_let, pz_na, z10, z00, if_true, if_false]
      · simp only [g_X10_order, e2, f2, pz_bind, pz_let, z10, z00, z20, if_true, if_false, pz_h2]
theorem sim_patrol (h : Rel u v) (p q : Int32) : SI Rel (g_X9_patrol u p q) (g_X10_patrol v p q) [("java/lang/IndexOutOfBoundsException", 1), ("java/lang/IllegalArgumentException", 2)] := by
  obtain ⟨hM, hT, hD, hS, hO, hH, hI, hP, hB, hK⟩ := id h
  rcases patc u p with ⟨e1, e2⟩ | ⟨s, hs, rfl, e1, e2⟩
  · exact SI_no "java/lang/IndexOutOfBoundsException" 1 0 (v' := m_thrown_set v 1) es1 (by simp only [g_X9_patrol, e1, pz_xr, id]) (by simp only [g_X10_patrol, e2, pz_bind, pz_let, z00, if_true, pz_h1]) rfl h
  · have a1 : ∀ {α : Type} (a : Option α), g_in (nI s) 3 a = a := fun a => pz_inN hs (by decide) a
    rcases iwc q 0 2 with ⟨-, -, f1, f2⟩ | ⟨-, f1, f2⟩
    · by_cases q0 : q = 0
      · have q0' := eq_true q0
        refine SI_ok (u' := u) (v' := m_thrown_set v 0) (mP_at v (nI s).toNatClampNeg) ?_ ?_ rfl h
        · rw [hP.at']
          simp only [g_X9_patrol, e1, f1, q0', pz_xl, pz_bind, pz_na1, a1, if_true]
        · simp only [g_X10_patrol, e2, f2, q0', pz_bind, pz_let, a1, z10, if_true, if_false, pz_h0] <;> rfl
      · have q0' := eq_false q0
        by_cases q1 : q = 1
        · have q1' := eq_true q1
          refine SI_ok (u' := u) (v' := m_thrown_set v 0) (mP_sentTo v (nI s).toNatClampNeg) ?_ ?_ rfl h
          · rw [hP.sent]
            simp only [g_X9_patrol, e1, f1, q0', q1', pz_xl, pz_bind, pz_na1, a1, if_true, if_false]
          · simp only [g_X10_patrol, e2, f2, q0', q1', pz_bind, pz_let, a1, z10, if_true, if_false, pz_h0] <;> rfl
        · have q1' := eq_false q1
          refine SI_ok (u' := u) (v' := m_thrown_set v 0) (cP_minutesLeft u (nI s).toNatClampNeg) ?_ ?_ rfl h
          · simp only [g_X9_patrol, e1, f1, q0', q1', pz_xl, pz_bind, pz_na1, a1, if_true, if_false]
          · have hP2 : mP_sentTo (m_thrown_set v 0) = cP_incidents u := hP.sent
            have hP3 : mP_left (m_thrown_set v 0) = cP_minutesLeft u := hP.left
            simp only [g_X10_patrol, e2, f2, q0', q1', pz_bind, pz_let, a1, z10, if_true, if_false, pz_h0, hP2, hP3, cl_I (show s < 2 ^ 31 by omega)]
            rcases hP.2.2 s hs with ⟨c1, c2⟩ | ⟨c1, -⟩
            · rw [if_pos c1, c2]
            · rw [if_neg c1]
    · exact SI_no "java/lang/IllegalArgumentException" 2 0 (v' := m_thrown_set v 2) es2 (by simp only [g_X9_patrol, e1, f1, pz_xl, pz_xr, id, pz_bind, pz_na]) (by simp only [g_X10_patrol, e2, f2, pz_bind, pz_let, z00, z10, z20, if_true, if_false, pz_h2]) rfl h
/-- whether the works k go on now, in both -/
theorem run_eq (hM : RM u v) (hB : RB u v) {k w : Nat} (hw : cB_count u = nI w) (hw8 : w ≤ 8) (hk : k < w) : ∃ r : Int32, (r = 0 ∨ r = 1) ∧ g_X0_isRunning u (nI k) (c_minute u) = some r ∧ g_X10_isOnNow v (nI k) = some r ∧ (r = 1 ↔ (cB_begins u k ≤ c_minute u ∧ c_minute u < cB_ends u k)) := by
  obtain ⟨w', hw', e1, e2, hall⟩ := hB
  have : w = w' := by
    rw [e1] at hw
    exact ((nI_eq (by omega) (by omega)).mp hw).symm
  subst this
  obtain ⟨a, b, c, d, e, -, -, -, -, -, -, -, ⟨-, -, -, f4, f5⟩, ⟨-, -, -, g4, g5⟩⟩ := hall k hk
  have a1 : ∀ {α : Type} (a : Option α), g_in (nI k) 8 a = a := fun a => pz_inN (by omega) (by decide) a
  have i1 : g_X9_isWithin (nI k) 0 7 = some 1 := isw (k := k) (a := 0) (b := 7) _ rfl (Nat.zero_le k) (by omega) (by decide) _ _
  by_cases h1 : c_minute u < cB_begins u k
  · refine ⟨0, Or.inl rfl, ?_, ?_, ⟨fun z => absurd z (by decide), fun z => absurd h1 (Int32.not_lt.mpr z.1)⟩⟩
    · simp only [g_X0_isRunning, i1, pz_bind, z10, if_false, a1, cl_I (show k < 2 ^ 31 by omega), eq_true h1, if_true]
    · rw [hM.1, f4, ← g4] at h1
      simp only [g_X10_isOnNow, a1, cl_I (show k < 2 ^ 31 by omega), eq_true h1, if_true]
  · by_cases h2 : cB_ends u k ≤ c_minute u
    · refine ⟨0, Or.inl rfl, ?_, ?_, ⟨fun z => absurd z (by decide), fun z => absurd h2 (Int32.not_le.mpr z.2)⟩⟩
      · simp only [g_X0_isRunning, i1, pz_bind, z10, if_false, a1, cl_I (show k < 2 ^ 31 by omega), eq_false h1, eq_true h2, if_true]
      · rw [hM.1, f4, ← g4] at h1
        rw [hM.1, f5, ← g5] at h2
        simp only [g_X10_isOnNow, a1, cl_I (show k < 2 ^ 31 by omega), eq_false h1, eq_true h2, if_true, if_false]
    · refine ⟨1, Or.inr rfl, ?_, ?_, ⟨fun _ => ⟨Int32.not_lt.mp h1, Int32.not_le.mp h2⟩, fun _ => rfl⟩⟩
      · simp only [g_X0_isRunning, i1, pz_bind, z10, if_false, a1, cl_I (show k < 2 ^ 31 by omega), eq_false h1, eq_false h2]
      · rw [hM.1, f4, ← g4] at h1
        rw [hM.1, f5, ← g5] at h2
        simp only [g_X10_isOnNow, a1, cl_I (show k < 2 ^ 31 by omega), eq_false h1, eq_false h2, if_false]
theorem sim_isOn (h : Rel u v) (p : Int32) : SI Rel (g_X9_isOn u p) (g_X10_isOn v p) [("java/lang/IndexOutOfBoundsException", 1)] := by
  obtain ⟨hM, hT, hD, hS, hO, hH, hI, hP, hB, hK⟩ := id h
  obtain ⟨w, hw, ew, ew2, hall⟩ := id hB
  rcases iwc p 0 (nI w - 1) with ⟨h1, h2, f1, f2⟩ | ⟨-, f1, f2⟩
  · obtain ⟨k, hk, rfl⟩ := cntc (by omega) h1 h2
    obtain ⟨r, hr, r1, r2, -⟩ := run_eq hM hB ew hw hk
    have r2' : g_X10_isOnNow (m_thrown_set v 0) (nI k) = some r := r2
    refine SI_ok (u' := u) (v' := m_thrown_set v 0) r ?_ ?_ rfl h
    · rcases hr with rfl | rfl
      · simp only [g_X9_isOn, ew, f1, pz_bind, pz_ni1, pz_xl, r1, pz_bo0]
      · simp only [g_X9_isOn, ew, f1, pz_bind, pz_ni1, pz_xl, r1, pz_bo1]
    · rcases hr with rfl | rfl
      · simp only [g_X10_isOn, ew2, f2, pz_bind, pz_let, pz_h0, z10, z00, if_false, if_true, r2']
      · simp only [g_X10_isOn, ew2, f2, pz_bind, pz_let, pz_h0, z10, if_false, r2']
  · exact SI_no "java/lang/IndexOutOfBoundsException" 1 0 (v' := m_thrown_set v 1) es1 (by simp only [g_X9_isOn, ew, f1, pz_bind, pz_ni, pz_xr, id]) (by simp only [g_X10_isOn, ew2, f2, pz_bind, pz_let, z00, if_true, pz_h1]) rfl h
/-- an incident's number: refused by both, or a natural below the count -/
theorem incc {n : Nat} (hn : n ≤ 12) (e1 : cI_count u = nI n) (e2 : mI_incidents v = nI n) (p : Int32) : (g_X2_has u p = some 0 ∧ g_X10_isIncident v p = some 0) ∨ (∃ k : Nat, k < n ∧ p = nI k ∧ g_X2_has u p = some 1 ∧ g_X10_isIncident v p = some 1) := by
  rcases iwc p 0 (nI n - 1) with ⟨h1, h2, -, f2⟩ | ⟨h, -, f2⟩
  · obtain ⟨k, hk, rfl⟩ := cntc (by omega) h1 h2
    refine Or.inr ⟨k, hk, rfl, ?_, ?_⟩
    · have i1 : g_X9_isWithin (nI k) 0 11 = some 1 := isw (k := k) (a := 0) (b := 11) _ rfl (Nat.zero_le k) (by omega) (by decide) _ _
      simp only [g_X2_has, i1, pz_bind, z10, if_false, e1, eq_false (nI_ge hk (by omega))]
    · simp only [g_X10_isIncident, e2, f2, pz_bind, pz_bo1]
  · refine Or.inl ⟨?_, ?_⟩
    · rcases iwc p 0 11 with ⟨h1, h2, i1, -⟩ | ⟨-, i1, -⟩
      · obtain ⟨k, hk, rfl⟩ := ix_of 11 (n := 11) rfl (by decide) h1 h2
        have hk2 : n ≤ k := Classical.byContradiction fun c => h ⟨h1, cntn (by omega) (by omega)⟩
        simp only [g_X2_has, i1, pz_bind, z10, if_false, e1, eq_true (nI_le hk2 (by omega)), if_true]
      · simp only [g_X2_has, i1, pz_bind, if_true]
    · simp only [g_X10_isIncident, e2, f2, pz_bind, pz_bo0]
end RELS2
end
section
section RELS3
variable {u : GS} {v : MS}
/-- the sum over the road: the same in both -/
theorem road (hT : RT u v) (y : Int32 × MS) (hy : mT_holding y.2 = mT_holding v) (k : Int32 → Option (Int32 × MS)) : ∃ x : Int32, g_X8_countOnRoad u = some x ∧ lp_X10_vehicles_27 y k FU 0 0 = k x := by
  obtain ⟨n, s', t', ⟨x, rfl, rfl⟩, h1, h2⟩ := lpR (fun n (s : Int32 × Int32) => lp_X8_countOnRoad_4 u (fun x => some x) n s.1 s.2) (fun n (s : Int32 × Int32) => lp_X10_vehicles_27 y k n s.1 s.2) 48 (by decide) (fun i s t => ∃ x : Int32, s = (x, nI i) ∧ t = (x, nI i)) (by
    rintro n i s t hi ⟨x, rfl, rfl⟩
    refine ⟨(x + cT_held u i, nI (i + 1)), (x + cT_held u i, nI (i + 1)), ⟨_, rfl, rfl⟩, ?_, ?_⟩
    · show lp_X8_countOnRoad_4 u _ (n + 1) x (nI i) = lp_X8_countOnRoad_4 u _ n _ _
      simp only [lp_X8_countOnRoad_4, c_ge 48 48 hi (by decide), if_false, pz_inN hi (by decide), pz_let, cl_I (show i < 2 ^ 31 by omega), nI_1]
    · show lp_X10_vehicles_27 y k (n + 1) x (nI i) = lp_X10_vehicles_27 y k n _ _
      simp only [lp_X10_vehicles_27, c_ge 48 48 hi (by decide), if_false, pz_inN hi (by decide), pz_let, cl_I (show i < 2 ^ 31 by omega), nI_1, hy, hT.held]) (0, 0) (0, 0) ⟨0, rfl, rfl⟩
  refine ⟨x, h1.trans ?_, h2.trans ?_⟩
  · show lp_X8_countOnRoad_4 u _ (n + 1) x (nI 48) = _
    simp only [lp_X8_countOnRoad_4, c_le 48 48 (by decide), if_true]
  · show lp_X10_vehicles_27 y k (n + 1) x (nI 48) = _
    simp only [lp_X10_vehicles_27, c_le 48 48 (by decide), if_true]
theorem sim_vehicles (h : Rel u v) (p : Int32) : SI Rel (g_X9_vehicles u p) (g_X10_vehicles v p) [("java/lang/IllegalArgumentException", 1)] := by
  obtain ⟨hM, hT, hD, hS, hO, hH, hI, hP, hB, hK⟩ := id h
  rcases iwc p 0 3 with ⟨-, -, e1, e2⟩ | ⟨-, e1, e2⟩
  · obtain ⟨x, x1, x2⟩ := road hT (1, m_thrown_set v 0) rfl (fun x2_27 => if p = 0 then some ((mT_came (m_thrown_set v 0)), m_thrown_set v 0) else if p = (1 : Int32) then some (x2_27, m_thrown_set v 0) else if p = (2 : Int32) then some ((mT_waiting (m_thrown_set v 0)), m_thrown_set v 0) else some ((mT_gone (m_thrown_set v 0)), m_thrown_set v 0))
    have m1 : g_X10_vehicles v p = if p = 0 then some ((mT_came (m_thrown_set v 0)), m_thrown_set v 0) else if p = (1 : Int32) then some (x, m_thrown_set v 0) else if p = (2 : Int32) then some ((mT_waiting (m_thrown_set v 0)), m_thrown_set v 0) else some ((mT_gone (m_thrown_set v 0)), m_thrown_set v 0) := by
      simp only [g_X10_vehicles, e2, pz_bind, pz_let, z10, if_false, pz_h0]
      exact x2
    by_cases p0 : p = 0
    · rw [if_pos p0] at m1
      refine SI_ok (u' := u) _ ?_ m1 rfl h
      simp only [g_X9_vehicles, e1, pz_bind, pz_na1, pz_xl, eq_true p0, if_true]
      rw [← hT.came] <;> rfl
    · by_cases p1 : p = 1
      · rw [if_neg p0, if_pos p1] at m1
        refine SI_ok (u' := u) _ ?_ m1 rfl h
        simp only [g_X9_vehicles, e1, pz_bind, pz_na1, pz_xl, eq_false p0, eq_true p1, x1, if_true, if_false]
      · by_cases p2 : p = 2
        · rw [if_neg p0, if_neg p1, if_pos p2] at m1
          refine SI_ok (u' := u) _ ?_ m1 rfl h
          simp only [g_X9_vehicles, e1, pz_bind, pz_na1, pz_xl, eq_false p0, eq_false p1, eq_true p2, if_true, if_false]
          rw [← hT.waiting] <;> rfl
        · rw [if_neg p0, if_neg p1, if_neg p2] at m1
          refine SI_ok (u' := u) _ ?_ m1 rfl h
          simp only [g_X9_vehicles, e1, pz_bind, pz_na1, pz_xl, eq_false p0, eq_false p1, eq_false p2, if_false]
          rw [← hT.gone] <;> rfl
  · exact SI_no "java/lang/IllegalArgumentException" 1 0 (v' := m_thrown_set v 1) es1 (by simp only [g_X9_vehicles, e1, pz_bind, pz_na, pz_xr, id]) (by simp only [g_X10_vehicles, e2, pz_bind, pz_let, z00, if_true, pz_h1]) rfl h
/-- the most that a lane of a section holds -/
theorem most (hT : RT u v) {s : Nat} (hs : s < 12) : ∃ m : Nat, m ≤ 20 ∧ g_X8_mostIn u (nI s) = some (nI m) ∧ g_X10_mostOf v (nI s) = some (nI m) := by
  obtain ⟨n, s', t', ⟨m, hm, rfl, rfl⟩, h1, h2⟩ := lpR (fun n (z : Int32 × Int32) => lp_X8_mostIn_16 u (nI s) (fun x => some x) n z.1 z.2) (fun n (z : Int32 × Int32) => lp_X10_mostOf_4 v (nI s) (fun x => some x) n z.1 z.2) 4 (by decide) (fun i z t => ∃ m : Nat, m ≤ 20 ∧ z = (nI m, nI i) ∧ t = (nI m, nI i)) (by
    rintro n i z t hi ⟨m, hm, rfl, rfl⟩
    obtain ⟨x, hx, ex⟩ := hT.2 (4 * s + i) (by omega)
    by_cases hc : x ≤ m
    · refine ⟨(nI m, nI (i + 1)), (nI m, nI (i + 1)), ⟨m, hm, rfl, rfl⟩, ?_, ?_⟩
      · show lp_X8_mostIn_16 u _ _ (n + 1) (nI m) (nI i) = lp_X8_mostIn_16 u _ _ n _ _
        simp only [lp_X8_mostIn_16, c_ge 4 4 hi (by decide), if_false, cpl, pz_inN (show 4 * s + i < 48 by omega) (show 48 < 2 ^ 31 by decide), pz_let, cl_I (show 4 * s + i < 2 ^ 31 by omega), ex, eq_true (nI_le hc (by omega)), if_true, nI_1]
      · show lp_X10_mostOf_4 v _ _ (n + 1) (nI m) (nI i) = lp_X10_mostOf_4 v _ _ n _ _
        simp only [lp_X10_mostOf_4, c_ge 4 4 hi (by decide), if_false, mpl, pz_inN (show 4 * s + i < 48 by omega) (show 48 < 2 ^ 31 by decide), pz_let, cl_I (show 4 * s + i < 2 ^ 31 by omega), hT.held, ex, eq_true (nI_le hc (by omega)), if_true, nI_1]
    · refine ⟨(nI x, nI (i + 1)), (nI x, nI (i + 1)), ⟨x, hx, rfl, rfl⟩, ?_, ?_⟩
      · show lp_X8_mostIn_16 u _ _ (n + 1) (nI m) (nI i) = lp_X8_mostIn_16 u _ _ n _ _
        simp only [lp_X8_mostIn_16, c_ge 4 4 hi (by decide), if_false, cpl, pz_inN (show 4 * s + i < 48 by omega) (show 48 < 2 ^ 31 by decide), pz_let, cl_I (show 4 * s + i < 2 ^ 31 by omega), ex, eq_false (nI_ge (Nat.lt_of_not_le hc) (by omega)), nI_1]
      · show lp_X10_mostOf_4 v _ _ (n + 1) (nI m) (nI i) = lp_X10_mostOf_4 v _ _ n _ _
        simp only [lp_X10_mostOf_4, c_ge 4 4 hi (by decide), if_false, mpl, pz_inN (show 4 * s + i < 48 by omega) (show 48 < 2 ^ 31 by decide), pz_let, cl_I (show 4 * s + i < 2 ^ 31 by omega), hT.held, ex, eq_false (nI_ge (Nat.lt_of_not_le hc) (by omega)), nI_1]) (0, 0) (0, 0) ⟨0, by omega, rfl, rfl⟩
  refine ⟨m, hm, ?_, ?_⟩
  · rw [g_X8_mostIn, if_neg (nI_pos (by omega)), if_pos (show nI s < (12 : Int32) from nI_lt (b := 12) hs (by decide))]
    refine h1.trans ?_
    show lp_X8_mostIn_16 u _ _ (n + 1) (nI m) (nI 4) = _
    simp only [lp_X8_mostIn_16, c_le 4 4 (by decide), if_true]
  · refine h2.trans ?_
    show lp_X10_mostOf_4 v _ _ (n + 1) (nI m) (nI 4) = _
    simp only [lp_X10_mostOf_4, c_le 4 4 (by decide), if_true]
theorem speed (hT : RT u v) {s : Nat} (hs : s < 12) : ∃ x : Nat, 20 ≤ x ∧ x ≤ 120 ∧ g_X8_speedAt u (nI s) = some (nI x) ∧ g_X10_speedOf v (nI s) = some (nI x) := by
  obtain ⟨m, hm, e1, e2⟩ := most hT hs
  have e : (120 : Int32) - (5 : Int32) * nI m = nI (120 - 5 * m) := by
    rw [show (120 : Int32) = nI 120 from rfl, show (5 : Int32) = nI 5 from rfl, pk_mul, pk_sub (by omega)]
  refine ⟨120 - 5 * m, by omega, by omega, ?_, ?_⟩
  · simp only [g_X8_speedAt, e1, pz_bind, e]
  · simp only [g_X10_speedOf, e2, pz_bind, e]
theorem eqm1 {i s : Nat} (hi : i < 2 ^ 31) (hs : s < 2 ^ 31) : (nI i = nI s - 1) = (i + 1 = s) := by
  cases s with
  | zero => exact propext ⟨fun e => absurd (show nI i = -1 from e) (nm1 i hi), fun e => by omega⟩
  | succ n =>
    rw [nI_pred]
    exact propext ((nI_eq hi (by omega)).trans (by omega))
theorem eqp1 {i s : Nat} (hi : i < 2 ^ 31) (hs : s + 1 < 2 ^ 31) : (nI i = nI s + 1) = (i = s + 1) := by
  rw [nI_1]
  exact propext (nI_eq hi hs)
/-- what a good neighbour adds -/
def nb (b : Bool) (x : Nat) : Nat := if b then x else 0
theorem guess_c (hT : RT u v) {s : Nat} (hs : s < 12) (b1 b2 : Bool) (x1 x2 : Nat) (hb1 : b1 = true ↔ 1 ≤ s ∧ cD_is u (s - 1) = 0) (hb2 : b2 = true ↔ s + 1 < 12 ∧ cD_is u (s + 1) = 0) (h1 : 1 ≤ s → g_X8_speedAt u (nI (s - 1)) = some (nI x1)) (h2 : s + 1 < 12 → g_X8_speedAt u (nI (s + 1)) = some (nI x2)) :
    g_X1_guessAt u (nI s) = if nI (nb b1 1 + nb b2 1) = 0 then some (-1 : Int32) else g_nz (nI (nb b1 1 + nb b2 1)) (some (nI (nb b1 x1 + nb b2 x2) / nI (nb b1 1 + nb b2 1))) := by
  obtain ⟨n, s', ⟨h3, rfl⟩, h4⟩ := lpF (fun n (z : Int32 × Int32 × Int32) => lp_X1_guessAt_8 u (nI s) (fun (x3_8 : Int32) (x4_8 : Int32) => if x4_8 = 0 then some (-1 : Int32) else g_nz x4_8 (some (x3_8 / x4_8))) n z.1 z.2.1 z.2.2) 12 (by decide) (fun i z => i ≤ 12 ∧ z = (nI (nb (b1 && decide (s ≤ i)) x1 + nb (b2 && decide (s + 2 ≤ i)) x2), nI (nb (b1 && decide (s ≤ i)) 1 + nb (b2 && decide (s + 2 ≤ i)) 1), nI i)) (by
    rintro n i z hi ⟨-, rfl⟩
    refine ⟨_, ⟨hi, rfl⟩, ?_⟩
    show lp_X1_guessAt_8 u _ _ (n + 1) (nI _) (nI _) (nI i) = lp_X1_guessAt_8 u _ _ n (nI _) (nI _) (nI (i + 1))
    by_cases c1 : i + 1 = s
    · subst c1
      have d1 : decide (i + 1 ≤ i) = false := decide_eq_false (by omega)
      have d2 : decide (i + 1 + 2 ≤ i) = false := decide_eq_false (by omega)
      have d3 : decide (i + 1 ≤ i + 1) = true := decide_eq_true (by omega)
      have d4 : decide (i + 1 + 2 ≤ i + 1) = false := decide_eq_false (by omega)
      have e1 := h1 (by omega)
      rw [Nat.add_sub_cancel] at e1 hb1
      simp only [lp_X1_guessAt_8, c_ge 12 12 hi (by decide), if_false, pz_let, eqm1 (show i < 2 ^ 31 by omega) (show i + 1 < 2 ^ 31 by omega), if_true, pz_inN hi (show 12 < 2 ^ 31 by decide), cl_I (show i < 2 ^ 31 by omega), d1, d2, d3, d4, Bool.and_false, Bool.and_true, e1, pz_bind]
      by_cases c2 : cD_is u i = 0
      · have b1t : b1 = true := hb1.mpr ⟨by omega, c2⟩
        simp only [eq_true c2, if_true, b1t, nb, nI_add, nI_1, Bool.false_eq_true, if_false, Nat.add_zero, Nat.zero_add]
      · have b1f : b1 = false := by
          cases b1 with
          | false => rfl
          | true => exact absurd (hb1.mp rfl).2 c2
        simp only [eq_false c2, if_false, b1f, nb, nI_1, Bool.false_eq_true, Nat.add_zero]
    · by_cases c3 : i = s + 1
      · subst c3
        have d1 : decide (s ≤ s + 1) = true := decide_eq_true (by omega)
        have d2 : decide (s + 2 ≤ s + 1) = false := decide_eq_false (by omega)
        have d3 : decide (s ≤ s + 1 + 1) = true := decide_eq_true (by omega)
        have d4 : decide (s + 2 ≤ s + 1 + 1) = true := decide_eq_true (by omega)
        have e2 := h2 (by omega)
        simp only [lp_X1_guessAt_8, c_ge 12 12 hi (by decide), if_false, pz_let, eqm1 (show s + 1 < 2 ^ 31 by omega) (show s < 2 ^ 31 by omega), eq_false c1, eqp1 (show s + 1 < 2 ^ 31 by omega) (show s + 1 < 2 ^ 31 by omega), if_true, pz_inN hi (show 12 < 2 ^ 31 by decide), cl_I (show s + 1 < 2 ^ 31 by omega), d1, d2, d3, d4, Bool.and_false, Bool.and_true, e2, pz_bind]
        by_cases c2 : cD_is u (s + 1) = 0
        · have b2t : b2 = true := hb2.mpr ⟨by omega, c2⟩
          simp only [eq_true c2, if_true, b2t, nb, nI_add, nI_1, Bool.false_eq_true, if_false, Nat.add_zero]
        · have b2f : b2 = false := by
            cases b2 with
            | false => rfl
            | true => exact absurd (hb2.mp rfl).2 c2
          simp only [eq_false c2, if_false, b2f, nb, nI_1, Bool.false_eq_true, Nat.add_zero]
      · have d1 : decide (s ≤ i) = decide (s ≤ i + 1) := decide_eq_decide.mpr (by omega)
        have d2 : decide (s + 2 ≤ i) = decide (s + 2 ≤ i + 1) := decide_eq_decide.mpr (by omega)
        have d3 : (nI i = nI (s + 1)) = False := eq_false (fun q => c3 ((nI_eq (by omega) (by omega)).mp q))
        simp only [d3, lp_X1_guessAt_8, c_ge 12 12 hi (by decide), if_false, pz_let, eqm1 (show i < 2 ^ 31 by omega) (show s < 2 ^ 31 by omega), eq_false c1, eqp1 (show i < 2 ^ 31 by omega) (show s + 1 < 2 ^ 31 by omega), eq_false c3, d1, d2, nI_1]) (0, 0, 0) ⟨by omega, by
      have d1 : (b1 && decide (s ≤ 0)) = false := by
        cases b1 with
        | false => rfl
        | true =>
          have := (hb1.mp rfl).1
          exact decide_eq_false (by omega)
      have d2 : (b2 && decide (s + 2 ≤ 0)) = false := by
        rw [decide_eq_false (by omega : ¬ s + 2 ≤ 0), Bool.and_false]
      rw [d1, d2]
      rfl⟩
  refine h4.trans ?_
  have d1 : (b1 && decide (s ≤ 12)) = b1 := by rw [decide_eq_true (by omega : s ≤ 12), Bool.and_true]
  have d2 : (b2 && decide (s + 2 ≤ 12)) = b2 := by
    cases b2 with
    | false => rfl
    | true =>
      have := (hb2.mp rfl).1
      exact decide_eq_true (by omega)
  rw [d1, d2]
  show lp_X1_guessAt_8 u _ _ (n + 1) _ _ (nI 12) = _
  simp only [lp_X1_guessAt_8, c_le 12 12 (by decide), if_true]
theorem guess_m (hT : RT u v) (hD : RD u v) {s : Nat} (hs : s < 12) (b1 b2 : Bool) (x1 x2 : Nat) (hb1 : b1 = true ↔ 1 ≤ s ∧ cD_is u (s - 1) = 0) (hb2 : b2 = true ↔ s + 1 < 12 ∧ cD_is u (s + 1) = 0) (h1 : 1 ≤ s → g_X10_speedOf v (nI (s - 1)) = some (nI x1)) (h2 : s + 1 < 12 → g_X10_speedOf v (nI (s + 1)) = some (nI x2)) :
    g_X10_guessOf v (nI s) = if b1 = false ∧ b2 = false then some (-1 : Int32) else some (if b1 = true ∧ b2 = true then nI (nb b1 x1 + nb b2 x2) / 2 else nI (nb b1 x1 + nb b2 x2)) := by
  have t1 : (nI s ≤ 0) = (s = 0) := by
    rw [show (0 : Int32) = nI 0 from rfl]
    exact propext ((nI_leI (by omega) (by decide)).trans (by omega))
  have t2 : ((11 : Int32) ≤ nI s) = (11 ≤ s) := propext (nI_leI (a := 11) (by decide) (by omega))
  have q1 : 1 ≤ s → nI s - 1 = nI (s - 1) := fun q => by rw [show (1 : Int32) = nI 1 from rfl, pk_sub q]
  have q2 : nI s + 1 = nI (s + 1) := nI_1 s
  cases b1 with
  | true =>
    obtain ⟨s1, d1⟩ := hb1.mp rfl
    have n0 : ¬ s = 0 := by omega
    cases b2 with
    | true =>
      obtain ⟨s2, d2⟩ := hb2.mp rfl
      have n1 : ¬ 11 ≤ s := by omega
      simp only [g_X10_guessOf, pz_let, t1, t2, eq_false n0, eq_false n1, if_false, q1 s1, q2, pz_inN (show s - 1 < 12 by omega) (show 12 < 2 ^ 31 by decide), pz_inN s2 (show 12 < 2 ^ 31 by decide), cl_I (show s - 1 < 2 ^ 31 by omega), cl_I (show s + 1 < 2 ^ 31 by omega), hD.det, d1, d2, if_true, z10, h1 s1, h2 s2, pz_bind, nb, nI_add, Bool.true_eq_false, Bool.false_eq_true, false_and, and_self]
    | false =>
      by_cases n1 : 11 ≤ s
      · simp only [g_X10_guessOf, pz_let, t1, t2, eq_false n0, eq_true n1, if_false, q1 s1, q2, pz_inN (show s - 1 < 12 by omega) (show 12 < 2 ^ 31 by decide), cl_I (show s - 1 < 2 ^ 31 by omega), hD.det, d1, if_true, z10, z00, h1 s1, pz_bind, nb, Bool.true_eq_false, Bool.false_eq_true, false_and, and_false, Int32.add_zero, Nat.add_zero]
      · have d2 : ¬ cD_is u (s + 1) = 0 := fun q => absurd (hb2.mpr ⟨by omega, q⟩) (by decide)
        simp only [g_X10_guessOf, pz_let, t1, t2, eq_false n0, eq_false n1, if_false, q1 s1, q2, pz_inN (show s - 1 < 12 by omega) (show 12 < 2 ^ 31 by decide), pz_inN (show s + 1 < 12 by omega) (show 12 < 2 ^ 31 by decide), cl_I (show s - 1 < 2 ^ 31 by omega), cl_I (show s + 1 < 2 ^ 31 by omega), hD.det, d1, eq_false d2, if_true, z10, z00, h1 s1, pz_bind, nb, Bool.true_eq_false, Bool.false_eq_true, false_and, and_false, Int32.add_zero, Nat.add_zero]
  | false =>
    cases b2 with
    | true =>
      obtain ⟨s2, d2⟩ := hb2.mp rfl
      have n1 : ¬ 11 ≤ s := by omega
      by_cases n0 : s = 0
      · simp only [g_X10_guessOf, pz_let, t1, t2, eq_true n0, eq_false n1, if_false, q2, pz_inN s2 (show 12 < 2 ^ 31 by decide), cl_I (show s + 1 < 2 ^ 31 by omega), hD.det, d2, if_true, z10, z00, h2 s2, pz_bind, nb, Bool.true_eq_false, Bool.false_eq_true, false_and, and_false, Int32.zero_add, Nat.zero_add]
      · have d1 : ¬ cD_is u (s - 1) = 0 := fun q => absurd (hb1.mpr ⟨by omega, q⟩) (by decide)
        simp only [g_X10_guessOf, pz_let, t1, t2, eq_false n0, eq_false n1, if_false, q1 (show 1 ≤ s by omega), q2, pz_inN (show s - 1 < 12 by omega) (show 12 < 2 ^ 31 by decide), pz_inN s2 (show 12 < 2 ^ 31 by decide), cl_I (show s - 1 < 2 ^ 31 by omega), cl_I (show s + 1 < 2 ^ 31 by omega), hD.det, eq_false d1, d2, if_true, z10, z00, h2 s2, pz_bind, nb, Bool.true_eq_false, Bool.false_eq_true, false_and, and_false, Int32.zero_add, Nat.zero_add]
    | false =>
      have e1 : ∀ (α : Type) (A B : Option α), (if s = 0 then A else g_in (nI s - 1) 12 (if mD_detects v (nI s - 1).toNatClampNeg = 0 then B else A)) = A := fun α A B => by
        by_cases n0 : s = 0
        · rw [if_pos n0]
        · have d1 : ¬ cD_is u (s - 1) = 0 := fun q => absurd (hb1.mpr ⟨by omega, q⟩) (by decide)
          rw [if_neg n0, q1 (by omega), pz_inN (show s - 1 < 12 by omega) (by decide), cl_I (by omega), hD.det, if_neg d1]
      have e2 : ∀ (α : Type) (A B : Option α), (if 11 ≤ s then A else g_in (nI s + 1) 12 (if mD_detects v (nI s + 1).toNatClampNeg = 0 then B else A)) = A := fun α A B => by
        by_cases n0 : 11 ≤ s
        · rw [if_pos n0]
        · have d1 : ¬ cD_is u (s + 1) = 0 := fun q => absurd (hb2.mpr ⟨by omega, q⟩) (by decide)
          rw [if_neg n0, q2, pz_inN (show s + 1 < 12 by omega) (by decide), cl_I (by omega), hD.det, if_neg d1]
      simp only [g_X10_guessOf, pz_let, t1, t2, e1, e2, z00, if_true, and_self]
end RELS3
end
section
section RELS4
variable {u : GS} {v : MS}
theorem guess (hT : RT u v) (hD : RD u v) {s : Nat} (hs : s < 12) : (g_X1_guessAt u (nI s) = some (-1) ∧ g_X10_guessOf v (nI s) = some (-1)) ∨ ∃ g : Nat, g ≤ 120 ∧ g_X1_guessAt u (nI s) = some (nI g) ∧ g_X10_guessOf v (nI s) = some (nI g) := by
  obtain ⟨b1, hb1⟩ : ∃ b : Bool, b = true ↔ 1 ≤ s ∧ cD_is u (s - 1) = 0 := ⟨decide (1 ≤ s ∧ cD_is u (s - 1) = 0), decide_eq_true_iff⟩
  obtain ⟨b2, hb2⟩ : ∃ b : Bool, b = true ↔ s + 1 < 12 ∧ cD_is u (s + 1) = 0 := ⟨decide (s + 1 < 12 ∧ cD_is u (s + 1) = 0), decide_eq_true_iff⟩
  obtain ⟨x1, hx1, p1, q1⟩ : ∃ x : Nat, x ≤ 120 ∧ (1 ≤ s → g_X8_speedAt u (nI (s - 1)) = some (nI x)) ∧ (1 ≤ s → g_X10_speedOf v (nI (s - 1)) = some (nI x)) := by
    obtain ⟨x, -, h2, h3, h4⟩ := speed hT (show s - 1 < 12 by omega)
    exact ⟨x, h2, fun _ => h3, fun _ => h4⟩
  obtain ⟨x2, hx2, p2, q2⟩ : ∃ x : Nat, x ≤ 120 ∧ (s + 1 < 12 → g_X8_speedAt u (nI (s + 1)) = some (nI x)) ∧ (s + 1 < 12 → g_X10_speedOf v (nI (s + 1)) = some (nI x)) := by
    by_cases c : s + 1 < 12
    · obtain ⟨x, -, h2, h3, h4⟩ := speed hT c
      exact ⟨x, h2, fun _ => h3, fun _ => h4⟩
    · exact ⟨0, by omega, fun z => absurd z c, fun z => absurd z c⟩
  have ec := guess_c hT hs b1 b2 x1 x2 hb1 hb2 p1 p2
  have em := guess_m hT hD hs b1 b2 x1 x2 hb1 hb2 q1 q2
  cases b1 <;> cases b2
  · left
    exact ⟨ec, em⟩
  · right
    refine ⟨x2, hx2, ec.trans ?_, em.trans ?_⟩
    · show (if nI (0 + 1) = 0 then some (-1 : Int32) else g_nz (nI (0 + 1)) (some (nI (0 + x2) / nI (0 + 1)))) = _
      rw [if_neg (by decide), pz_nz (by decide), pk_div (by omega) (by omega) (by omega)]
      simp
    · rw [if_neg (by simp), if_neg (by simp)]
      exact congrArg (fun z => some (nI z)) (Nat.zero_add x2)
  · right
    refine ⟨x1, hx1, ec.trans ?_, em.trans ?_⟩
    · show (if nI (1 + 0) = 0 then some (-1 : Int32) else g_nz (nI (1 + 0)) (some (nI (x1 + 0) / nI (1 + 0)))) = _
      rw [if_neg (by decide), pz_nz (by decide), pk_div (by omega) (by omega) (by omega)]
      simp
    · rw [if_neg (by simp), if_neg (by simp)]
      rfl
  · right
    refine ⟨(x1 + x2) / 2, by omega, ec.trans ?_, em.trans ?_⟩
    · show (if nI (1 + 1) = 0 then some (-1 : Int32) else g_nz (nI (1 + 1)) (some (nI (x1 + x2) / nI (1 + 1)))) = _
      rw [if_neg (by decide), pz_nz (by decide), pk_div (by omega) (by omega) (by omega)]
    · rw [if_neg (by simp), if_pos (by simp)]
      show some (nI (x1 + x2) / nI 2) = _
      rw [pk_div (by omega) (by omega) (by omega)]
theorem belief (hT : RT u v) (hD : RD u v) {s : Nat} (hs : s < 12) : ∃ r : Int32, (r = -1 ∨ ∃ b : Nat, b ≤ 120 ∧ r = nI b) ∧ g_X1_beliefAt u (nI s) = some r ∧ g_X10_beliefOf v (nI s) = some r := by
  have i1 : g_X9_isWithin (nI s) 0 11 = some 1 := isw (k := s) (a := 0) (b := 11) _ rfl (Nat.zero_le s) (by omega) (by decide) _ _
  have a1 : ∀ (a : Option Int32), g_in (nI s) 12 a = a := fun a => pz_inN hs (by decide) a
  have c1 := cl_I (show s < 2 ^ 31 by omega)
  by_cases d0 : cD_is u s = 0
  · obtain ⟨x, -, hx, e1, e2⟩ := speed hT hs
    refine ⟨nI x, Or.inr ⟨x, hx, rfl⟩, ?_, ?_⟩
    · simp only [g_X1_beliefAt, i1, pz_bind, z10, if_false, a1, c1, eq_true d0, if_true, e1]
    · simp only [g_X10_beliefOf, pz_bind, a1, c1, hD.det, eq_true d0, if_true, e2]
  · by_cases d2 : cD_is u s = 2
    · rcases guess hT hD hs with ⟨e1, e2⟩ | ⟨g, hg, e1, e2⟩
      · refine ⟨-1, Or.inl rfl, ?_, ?_⟩
        · simp only [g_X1_beliefAt, i1, pz_bind, z10, if_false, a1, c1, eq_false d0, eq_true d2, if_true, e1]
        · simp only [g_X10_beliefOf, pz_bind, a1, c1, hD.det, eq_false d0, eq_true d2, if_true, if_false, e2]
      · refine ⟨nI g, Or.inr ⟨g, hg, rfl⟩, ?_, ?_⟩
        · simp only [g_X1_beliefAt, i1, pz_bind, z10, if_false, a1, c1, eq_false d0, eq_true d2, if_true, e1]
        · simp only [g_X10_beliefOf, pz_bind, a1, c1, hD.det, eq_false d0, eq_true d2, if_true, if_false, e2]
    · obtain ⟨k, hk, ek⟩ : ∃ x : Nat, x ≤ 120 ∧ cD_stuckAt u s = nI x := by
        rcases hD.2 s hs with q | q | q
        · exact absurd q d0
        · exact absurd q d2
        · exact q
      rcases guess hT hD hs with ⟨e1, e2⟩ | ⟨g, hg, e1, e2⟩
      · refine ⟨nI k, Or.inr ⟨k, hk, rfl⟩, ?_, ?_⟩
        · simp only [g_X1_beliefAt, i1, pz_bind, pz_let, z10, if_false, a1, c1, eq_false d0, eq_false d2, if_true, e1, ek]
        · simp only [g_X10_beliefOf, pz_bind, pz_let, a1, c1, hD.det, hD.stuck, eq_false d0, eq_false d2, if_true, if_false, e2, ek, ite_self]
      · have n1 := eq_false (nm1 g (by omega))
        obtain ⟨d, hd, h1, h2, h3⟩ : ∃ d : Nat, d ≤ 120 ∧ (if 0 ≤ (nI g - nI k) then (nI g - nI k) else 0 - (nI g - nI k)) = nI d ∧ (k ≤ g → nI g - nI k = nI d) ∧ (¬ k ≤ g → nI k - nI g = nI d) := by
          by_cases c : k ≤ g
          · refine ⟨g - k, by omega, ?_, fun _ => pk_sub c, fun z => absurd c z⟩
            rw [pk_sub c, if_pos (nI_pos' (by omega))]
          · refine ⟨k - g, by omega, ?_, fun z => absurd z c, fun _ => pk_sub (by omega)⟩
            rw [if_neg (Int32.not_le.mpr (pk_sneg (by omega) (by omega))), Int32.zero_sub, Int32.neg_sub, pk_sub (by omega)]
        have l1 : ((30 : Int32) = nI 30) := rfl
        have m1 : ∀ A B C : Option Int32, (if nI k ≤ nI g then (if nI g - nI k ≤ 30 then A else B) else (if nI k - nI g ≤ 30 then A else B)) = if nI d ≤ 30 then A else B := fun A B C => by
          by_cases c : k ≤ g
          · rw [if_pos (nI_le c (by omega)), h2 c]
          · rw [if_neg (nI_ge (by omega) (by omega)), h3 c]
        by_cases c : nI d ≤ (30 : Int32)
        · refine ⟨nI k, Or.inr ⟨k, hk, rfl⟩, ?_, ?_⟩
          · simp only [g_X1_beliefAt, i1, pz_bind, pz_let, z10, if_false, a1, c1, eq_false d0, eq_false d2, e1, ek, n1, h1, eq_true c, if_true]
          · simp only [g_X10_beliefOf, pz_bind, pz_let, a1, c1, hD.det, hD.stuck, eq_false d0, eq_false d2, if_false, e2, ek, n1, m1 (some (nI k)) (some (nI g)) none, eq_true c, if_true]
        · refine ⟨nI g, Or.inr ⟨g, hg, rfl⟩, ?_, ?_⟩
          · simp only [g_X1_beliefAt, i1, pz_bind, pz_let, z10, if_false, a1, c1, eq_false d0, eq_false d2, e1, ek, n1, h1, eq_false c]
          · simp only [g_X10_beliefOf, pz_bind, pz_let, a1, c1, hD.det, hD.stuck, eq_false d0, eq_false d2, if_false, e2, ek, n1, m1 (some (nI k)) (some (nI g)) none, eq_false c]
theorem six {q : Int32} (h : ¬ q < 0) (h2 : ¬ (5 : Int32) < q) : q = 0 ∨ q = 1 ∨ q = 2 ∨ q = 3 ∨ q = 4 ∨ q = 5 := by
  obtain ⟨x, hx, rfl⟩ := ix_of 5 (n := 5) rfl (by decide) h h2
  have : x = 0 ∨ x = 1 ∨ x = 2 ∨ x = 3 ∨ x = 4 ∨ x = 5 := by omega
  rcases this with rfl | rfl | rfl | rfl | rfl | rfl
  · exact Or.inl rfl
  · exact Or.inr (Or.inl rfl)
  · exact Or.inr (Or.inr (Or.inl rfl))
  · exact Or.inr (Or.inr (Or.inr (Or.inl rfl)))
  · exact Or.inr (Or.inr (Or.inr (Or.inr (Or.inl rfl))))
  · exact Or.inr (Or.inr (Or.inr (Or.inr (Or.inr rfl))))
theorem sim_section (h : Rel u v) (p q : Int32) : SI Rel (g_X9_section u p q) (g_X10_section v p q) [("java/lang/IndexOutOfBoundsException", 1), ("java/lang/IllegalArgumentException", 2)] := by
  obtain ⟨hM, hT, hD, hS, hO, hH, hI, hP, hB, hK⟩ := id h
  rcases secc u p with ⟨e1, e2⟩ | ⟨s, hs, rfl, e1, e2⟩
  · exact SI_no "java/lang/IndexOutOfBoundsException" 1 0 (v' := m_thrown_set v 1) es1 (by simp only [g_X9_section, e1, pz_xr, id]) (by simp only [g_X10_section, e2, pz_bind, pz_let, z00, if_true, pz_h1]) rfl h
  · have a1 : ∀ {α : Type} (a : Option α), g_in (nI s) 12 a = a := fun a => pz_inN hs (by decide) a
    have hT0 : RT u (m_thrown_set v 0) := hT
    have hD0 : RD u (m_thrown_set v 0) := hD
    rcases iwc q 0 5 with ⟨h1, h2, f1, f2⟩ | ⟨-, f1, f2⟩
    · rcases six h1 h2 with rfl | rfl | rfl | rfl | rfl | rfl
      · obtain ⟨x, -, -, x1, x2⟩ := speed hT0 hs
        refine SI_ok (u' := u) (v' := m_thrown_set v 0) (nI x) ?_ ?_ rfl h
        · simp only [g_X9_section, e1, f1, x1, pz_xl, pz_bind, pz_na1, if_true]
        · simp (decide := true) only [g_X10_section, e2, f2, x2, pz_bind, pz_let, pz_h0, if_true, if_false]
      · obtain ⟨x, -, x1, x2⟩ := belief hT0 hD0 hs
        refine SI_ok (u' := u) (v' := m_thrown_set v 0) x ?_ ?_ rfl h
        · simp (decide := true) only [g_X9_section, e1, f1, x1, pz_xl, pz_bind, pz_na1, if_true, if_false]
        · simp (decide := true) only [g_X10_section, e2, f2, x2, pz_bind, pz_let, pz_h0, if_true, if_false]
      · obtain ⟨x, x1, x2⟩ : ∃ x, g_X1_guessAt u (nI s) = some x ∧ g_X10_guessOf (m_thrown_set v 0) (nI s) = some x := by
          rcases guess hT0 hD0 hs with ⟨x1, x2⟩ | ⟨g, -, x1, x2⟩
          · exact ⟨_, x1, x2⟩
          · exact ⟨_, x1, x2⟩
        refine SI_ok (u' := u) (v' := m_thrown_set v 0) x ?_ ?_ rfl h
        · simp (decide := true) only [g_X9_section, e1, f1, x1, pz_xl, pz_bind, pz_na1, if_true, if_false]
        · simp (decide := true) only [g_X10_section, e2, f2, x2, pz_bind, pz_let, pz_h0, if_true, if_false]
      · refine SI_ok (u' := u) (v' := m_thrown_set v 0) (mS_speedSign v (nI s).toNatClampNeg) ?_ ?_ rfl h
        · rw [hS.shown]
          simp (decide := true) only [g_X9_section, e1, f1, a1, pz_xl, pz_bind, pz_na1, if_true, if_false]
        · simp (decide := true) only [g_X10_section, e2, f2, a1, pz_bind, pz_let, pz_h0, if_true, if_false] <;> rfl
      · by_cases b0 : cT_broken u (nI s).toNatClampNeg = 0
        · refine SI_ok (u' := u) (v' := m_thrown_set v 0) 0 ?_ ?_ rfl h
          · simp (decide := true) only [g_X9_section, e1, f1, a1, eq_true b0, pz_xl, pz_bind, pz_na1, if_true, if_false]
          · simp (decide := true) only [g_X10_section, e2, f2, a1, hT0.broken, eq_true b0, pz_bind, pz_let, pz_h0, if_true, if_false]
        · refine SI_ok (u' := u) (v' := m_thrown_set v 0) 1 ?_ ?_ rfl h
          · simp (decide := true) only [g_X9_section, e1, f1, a1, eq_false b0, pz_xl, pz_bind, pz_na1, if_true, if_false]
          · simp (decide := true) only [g_X10_section, e2, f2, a1, hT0.broken, eq_false b0, pz_bind, pz_let, pz_h0, if_true, if_false]
      · refine SI_ok (u' := u) (v' := m_thrown_set v 0) (mD_detects v (nI s).toNatClampNeg) ?_ ?_ rfl h
        · rw [hD.det]
          simp (decide := true) only [g_X9_section, e1, f1, a1, pz_xl, pz_bind, pz_na1, if_true, if_false]
        · simp (decide := true) only [g_X10_section, e2, f2, a1, pz_bind, pz_let, pz_h0, if_true, if_false] <;> rfl
    · exact SI_no "java/lang/IllegalArgumentException" 2 0 (v' := m_thrown_set v 2) es2 (by simp only [g_X9_section, e1, f1, pz_xl, pz_xr, id, pz_bind, pz_na]) (by simp only [g_X10_section, e2, f2, pz_bind, pz_let, z00, z10, z20, if_true, if_false, pz_h2]) rfl h
theorem sim_pattern (h : Rel u v) : ∃ (r : Int32) (v' : MS), g_X9_pattern u = some r ∧ g_X10_pattern v = some (r, v') ∧ Rel u v' := by
  obtain ⟨hM, hT, hD, hS, hO, hH, hI, hP, hB, hK⟩ := id h
  have hT0 : RT u (m_thrown_set v 0) := hT
  have hD0 : RD u (m_thrown_set v 0) := hD
  have main := lpRE (fun n (z : Int32) => lp_X9_pattern_2 u (fun (_ : Unit) => some (-1 : Int32)) n z) (fun n (z : Int32) => lp_X10_pattern_7 (m_thrown_set v 0) (fun (_ : Unit) => some ((-1 : Int32), m_thrown_set v 0)) n z) 11 (by decide) (fun i z t => z = nI i ∧ t = nI i) (fun a b => ∃ r : Int32, a = some r ∧ b = some (r, m_thrown_set v 0)) (by
    rintro n i z t hi ⟨rfl, rfl⟩
    obtain ⟨x, hx, x1, x2⟩ := belief hT0 hD0 (show i < 12 by omega)
    obtain ⟨y, hy, y1, y2⟩ := belief hT0 hD0 (show i + 1 < 12 by omega)
    have q2 : nI i + 1 = nI (i + 1) := nI_1 i
    have go : (x = -1 ∨ (40 : Int32) ≤ x ∨ y < 80) → (∃ s' t', (s' = nI (i + 1) ∧ t' = nI (i + 1)) ∧ lp_X9_pattern_2 u (fun (_ : Unit) => some (-1 : Int32)) (n + 1) (nI i) = lp_X9_pattern_2 u (fun (_ : Unit) => some (-1 : Int32)) n s' ∧ lp_X10_pattern_7 (m_thrown_set v 0) (fun (_ : Unit) => some ((-1 : Int32), m_thrown_set v 0)) (n + 1) (nI i) = lp_X10_pattern_7 (m_thrown_set v 0) (fun (_ : Unit) => some ((-1 : Int32), m_thrown_set v 0)) n t') := by
      intro hc
      refine ⟨_, _, ⟨rfl, rfl⟩, ?_, ?_⟩
      · by_cases c1 : x = -1
        · simp only [lp_X9_pattern_2, c_ge 11 11 hi (by decide), if_false, x1, pz_bind, pz_let, eq_true c1, if_true, q2]
        · by_cases c2 : (40 : Int32) ≤ x
          · simp only [lp_X9_pattern_2, c_ge 11 11 hi (by decide), if_false, x1, pz_bind, pz_let, eq_false c1, eq_true c2, if_true, q2]
          · have c3 : y < 80 := (hc.resolve_left c1).resolve_left c2
            simp only [lp_X9_pattern_2, c_ge 11 11 hi (by decide), if_false, x1, y1, pz_bind, pz_let, eq_false c1, eq_false c2, eq_true c3, if_true, q2]
      · by_cases c0 : x = -1 ∨ (40 : Int32) ≤ x
        · have i0 : g_X10_isIn x 0 39 = some 0 := ii0 (fun ⟨a, b⟩ => by
            rcases c0 with c | c
            · rw [c] at a
              exact a (by decide)
            · rw [Int32.lt_iff_toInt_lt] at b
              rw [Int32.le_iff_toInt_le] at c
              have z1 : (39 : Int32).toInt = 39 := by decide
              have z2 : (40 : Int32).toInt = 40 := by decide
              omega)
          simp only [lp_X10_pattern_7, c_ge 11 11 hi (by decide), if_false, x2, pz_bind, pz_let, i0, if_true, q2]
        · have c3 : y < 80 := (hc.resolve_left (fun z => c0 (Or.inl z))).resolve_left (fun z => c0 (Or.inr z))
          rcases iwc x 0 39 with ⟨-, -, -, i0⟩ | ⟨-, -, i0⟩
          · simp only [lp_X10_pattern_7, c_ge 11 11 hi (by decide), if_false, x2, y2, pz_bind, pz_let, i0, z10, eq_true c3, if_true, q2]
          · simp only [lp_X10_pattern_7, c_ge 11 11 hi (by decide), if_false, x2, pz_bind, pz_let, i0, if_true, q2]
    by_cases c1 : x = -1
    · exact Or.inl (go (Or.inl c1))
    · by_cases c2 : (40 : Int32) ≤ x
      · exact Or.inl (go (Or.inr (Or.inl c2)))
      · by_cases c3 : y < 80
        · exact Or.inl (go (Or.inr (Or.inr c3)))
        · refine Or.inr ⟨nI i, ?_, ?_⟩
          · show lp_X9_pattern_2 u _ (n + 1) (nI i) = _
            simp only [lp_X9_pattern_2, c_ge 11 11 hi (by decide), if_false, x1, y1, pz_bind, pz_let, eq_false c1, eq_false c2, eq_false c3, q2]
          · obtain ⟨b, hb, rfl⟩ := hx.resolve_left c1
            have i0 : g_X10_isIn (nI b) 0 39 = some 1 := ii1 (nI_pos (by omega)) (fun z => c2 (by
              rw [Int32.lt_iff_toInt_lt] at z
              rw [Int32.le_iff_toInt_le]
              have z1 : (39 : Int32).toInt = 39 := by decide
              have z2 : (40 : Int32).toInt = 40 := by decide
              omega))
            show lp_X10_pattern_7 _ _ (n + 1) (nI i) = _
            simp only [lp_X10_pattern_7, c_ge 11 11 hi (by decide), if_false, x2, y2, pz_bind, pz_let, i0, z10, eq_false c3, q2]) 0 0 ⟨rfl, rfl⟩
  rcases main with ⟨n, s', t', ⟨rfl, rfl⟩, h1, h2⟩ | ⟨r, h1, h2⟩
  · refine ⟨-1, m_thrown_set v 0, h1.trans ?_, ?_, h⟩
    · show lp_X9_pattern_2 u _ (n + 1) (nI 11) = _
      simp only [lp_X9_pattern_2, c_le 11 11 (by decide), if_true]
    · rw [g_X10_pattern, pz_let]
      refine h2.trans ?_
      show lp_X10_pattern_7 _ _ (n + 1) (nI 11) = _
      simp only [lp_X10_pattern_7, c_le 11 11 (by decide), if_true]
  · refine ⟨r, m_thrown_set v 0, h1, ?_, h⟩
    rw [g_X10_pattern, pz_let]
    exact h2
end RELS4
end
section
section RELS5
variable {u : GS} {v : MS}
theorem placeN0 (s : Nat) : g_X9_placeOf (nI s) 0 = some (nI (4 * s)) := placeN s 0
theorem mpl0 (s : Nat) : (4 : Int32) * nI s = nI (4 * s) := pk_mul 4 s
theorem stopd {q : Nat} (hq : q < 48) : g_X8_isStoppedAt u (nI q) = some (if cT_stopped u q = 0 then 0 else 1) := by
  have i1 : g_X9_isWithin (nI q) 0 47 = some 1 := isw (k := q) (a := 0) (b := 47) _ rfl (Nat.zero_le q) (by omega) (by decide) _ _
  simp only [g_X8_isStoppedAt, i1, pz_bind, z10, if_false, pz_inN hq (by decide), cl_I (show q < 2 ^ 31 by omega)]
  by_cases c : cT_stopped u q = 0
  · rw [if_pos c, if_pos c]
  · rw [if_neg c, if_neg c]
theorem heldN {q : Nat} (hq : q < 48) : g_X8_heldAt u (nI q) = some (cT_held u q) := by
  have i1 : g_X9_isWithin (nI q) 0 47 = some 1 := isw (k := q) (a := 0) (b := 47) _ rfl (Nat.zero_le q) (by omega) (by decide) _ _
  simp only [g_X8_heldAt, i1, pz_bind, z10, if_false, pz_inN hq (by decide), cl_I (show q < 2 ^ 31 by omega)]
theorem sim_look (h : Rel u v) (p : Int32) : SI Rel (g_X9_look u p) (g_X10_look v p) [("java/lang/IndexOutOfBoundsException", 1)] := by
  obtain ⟨hM, hT, hD, hS, hO, hH, hI, hP, hB, hK⟩ := id h
  rcases secc u p with ⟨e1, e2⟩ | ⟨s, hs, rfl, e1, e2⟩
  · exact SI_no "java/lang/IndexOutOfBoundsException" 1 0 (v' := m_thrown_set v 1) es1 (by simp only [g_X9_look, e1, pz_xr, id]) (by simp only [g_X10_look, e2, pz_bind, pz_let, z00, if_true, pz_h1]) rfl h
  · have a1 : ∀ {α : Type} (a : Option α), g_in (nI s) 12 a = a := fun a => pz_inN hs (by decide) a
    have a2 : ∀ {α : Type} (a : Option α), g_in (nI (4 * s)) 48 a = a := fun a => pz_inN (by omega) (by decide) a
    have c1 := cl_I (show s < 2 ^ 31 by omega)
    have c2 := cl_I (show 4 * s < 2 ^ 31 by omega)
    have t1 : mT_isStopped (mH_looked_set (m_thrown_set v 0) (upd (mH_looked v) s (m_now v))) = cT_stopped u := hT.stopped
    have t2 : mT_holding (mH_looked_set (m_thrown_set v 0) (upd (mH_looked v) s (m_now v))) = cT_held u := hT.held
    by_cases b1 : cT_stopped u (4 * s) = 0 ∧ cT_held u (4 * s) = 0
    · refine SI_ok (u' := cH_foundClearAt_set u (upd (cH_foundClearAt u) s (c_minute u))) (v' := mH_wasClear_set (mH_looked_set (m_thrown_set v 0) (upd (mH_looked v) s (m_now v))) (upd (mH_wasClear v) s 1)) 1 ?_ ?_ rfl ⟨hM, hT, hD, hS, hO, ⟨hH.1, ?_, hH.2.2⟩, hI, hP, hB, hK⟩
      · have cl : g_X8_isClear u (nI (4 * s)) = some 1 := by
          simp only [g_X8_isClear, stopd (show 4 * s < 48 by omega), heldN (show 4 * s < 48 by omega), pz_bind, b1.1, b1.2, if_true]
        simp only [g_X9_look, e1, pz_xl, placeN0, cl, pz_bind, pz_let, z10, if_false, a1, c1, pz_bo1]
      · have w1 : mH_wasClear (mH_wasClear_set (mH_looked_set (m_thrown_set v 0) (upd (mH_looked v) s (m_now v))) (upd (mH_wasClear v) s 1)) s = 1 := pk_us
        have z1 : mH_looked (m_thrown_set v 0) = mH_looked v := rfl
        have z2 : m_now (m_thrown_set v 0) = m_now v := rfl
        have z3 : ∀ f, mH_wasClear (mH_looked_set (m_thrown_set v 0) f) = mH_wasClear v := fun _ => rfl
        simp only [g_X10_look, e2, pz_bind, pz_let, z10, if_false, pz_h0, a1, a2, c1, c2, mpl0, z1, z2, z3, t1, t2, b1.1, b1.2, if_true, vnb1, w1, pz_bo1]
      · intro k hk
        show upd (cH_foundClearAt u) s (c_minute u) k = if upd (mH_wasClear v) s 1 k = 0 then -1000 else upd (mH_looked v) s (m_now v) k
        by_cases e : k = s
        · rw [e, pk_us, pk_us, pk_us, if_neg (by decide), hM.1]
        · rw [pk_un e, pk_un e, pk_un e]
          exact hH.2.1 k hk
    · refine SI_ok (u' := cH_foundClearAt_set u (upd (cH_foundClearAt u) s (-1000))) (v' := mH_wasClear_set (mH_looked_set (m_thrown_set v 0) (upd (mH_looked v) s (m_now v))) (upd (mH_wasClear v) s 0)) 0 ?_ ?_ rfl ⟨hM, hT, hD, hS, hO, ⟨hH.1, ?_, hH.2.2⟩, hI, hP, hB, hK⟩
      · have cl : g_X8_isClear u (nI (4 * s)) = some 0 := by
          by_cases d1 : cT_stopped u (4 * s) = 0
          · have d2 : ¬ cT_held u (4 * s) = 0 := fun z => b1 ⟨d1, z⟩
            simp only [g_X8_isClear, stopd (show 4 * s < 48 by omega), heldN (show 4 * s < 48 by omega), pz_bind, d1, if_true, eq_false d2, if_false]
          · simp only [g_X8_isClear, stopd (show 4 * s < 48 by omega), pz_bind, eq_false d1, if_false, z10]
        simp only [g_X9_look, e1, pz_xl, placeN0, cl, pz_bind, pz_let, z00, if_true, a1, c1, pz_bo0]
      · have w1 : mH_wasClear (mH_wasClear_set (mH_looked_set (m_thrown_set v 0) (upd (mH_looked v) s (m_now v))) (upd (mH_wasClear v) s 0)) s = 0 := pk_us
        have z1 : mH_looked (m_thrown_set v 0) = mH_looked v := rfl
        have z2 : m_now (m_thrown_set v 0) = m_now v := rfl
        have z3 : ∀ f, mH_wasClear (mH_looked_set (m_thrown_set v 0) f) = mH_wasClear v := fun _ => rfl
        by_cases d1 : cT_stopped u (4 * s) = 0
        · have d2 : ¬ cT_held u (4 * s) = 0 := fun z => b1 ⟨d1, z⟩
          simp only [g_X10_look, e2, pz_bind, pz_let, z10, if_false, pz_h0, a1, a2, c1, c2, mpl0, z1, z2, z3, t1, t2, d1, eq_false d2, if_true, vnb0, w1, pz_bo0]
        · simp only [g_X10_look, e2, pz_bind, pz_let, z10, if_false, pz_h0, a1, a2, c1, c2, mpl0, z1, z2, z3, t1, t2, eq_false d1, if_true, vnb0, w1, pz_bo0]
      · intro k hk
        show upd (cH_foundClearAt u) s (-1000) k = if upd (mH_wasClear v) s 0 k = 0 then -1000 else upd (mH_looked v) s (m_now v) k
        by_cases e : k = s
        · rw [e, pk_us, pk_us, if_pos rfl]
        · rw [pk_un e, pk_un e, pk_un e]
          exact hH.2.1 k hk
theorem sim_confirm (h : Rel u v) (p : Int32) : SI Rel (g_X9_confirm u p) (g_X10_confirm v p) [("java/lang/IndexOutOfBoundsException", 1), ("java/lang/IllegalStateException", 2)] := by
  obtain ⟨hM, hT, hD, hS, hO, hH, hI, hP, hB, hK⟩ := id h
  obtain ⟨n, hn, n1, n2, pl, hw, hpl, ha, hb⟩ := id hI
  rcases incc hn n1 n2 p with ⟨e1, e2⟩ | ⟨k, hk, rfl, e1, e2⟩
  · exact SI_no "java/lang/IndexOutOfBoundsException" 1 0 (v' := m_thrown_set v 1) es1 (by simp only [g_X9_confirm, e1, pz_bind, pz_ni, pz_xr, id]) (by simp only [g_X10_confirm, e2, pz_bind, pz_let, z00, if_true, pz_h1]) rfl h
  · have a1 : ∀ {α : Type} (a : Option α), g_in (nI k) 12 a = a := fun a => pz_inN (by omega) (by decide) a
    have c1 := cl_I (show k < 2 ^ 31 by omega)
    obtain ⟨q, hq, eq1⟩ := hpl k hk
    have m1 : mI_state v = cI_how u := hw.symm
    have m2 : mI_placed (m_thrown_set v 0) = cI_places u := pl.symm
    have m3 : mI_state (m_thrown_set v 0) = cI_how u := hw.symm
    have m4 : mT_isStopped (m_thrown_set v 0) = cT_stopped u := hT.stopped
    by_cases w0 : cI_how u k = 0
    · have go : ∀ z : Int32, Rel (cI_how_set u (upd (cI_how u) k z)) (mI_state_set (m_thrown_set v 0) (upd (cI_how u) k z)) := fun z => ⟨hM, hT, hD, hS, hO, hH, ⟨n, hn, n1, n2, pl, rfl, hpl, ha, hb⟩, hP, hB, hK⟩
      have hz : ∀ z, cI_how (cI_how_set u (upd (cI_how u) k z)) k = z := fun z => pk_us
      have hz2 : ∀ z, mI_state (mI_state_set (m_thrown_set v 0) (upd (cI_how u) k z)) k = z := fun z => pk_us
      by_cases s0 : cT_stopped u q = 0
      · refine SI_ok 2 ?_ ?_ rfl (go 2)
        · simp only [g_X9_confirm, e1, pz_bind, pz_ni1, pz_xl, a1, c1, pz_let, w0, if_true, pz_ns1, eq1, stopd hq, s0, hz]
        · simp only [g_X10_confirm, e2, pz_bind, z10, z00, if_false, a1, c1, m1, m2, m3, m4, w0, if_true, pz_let, pz_h0, eq1, pz_inN hq (show 48 < 2 ^ 31 by decide), cl_I (show q < 2 ^ 31 by omega), s0, hz2]
      · refine SI_ok 1 ?_ ?_ rfl (go 1)
        · simp only [g_X9_confirm, e1, pz_bind, pz_ni1, pz_xl, a1, c1, pz_let, w0, if_true, pz_ns1, eq1, stopd hq, eq_false s0, if_false, z10, hz]
        · simp only [g_X10_confirm, e2, pz_bind, z10, z00, if_false, a1, c1, m1, m2, m3, m4, w0, if_true, pz_let, pz_h0, eq1, pz_inN hq (show 48 < 2 ^ 31 by decide), cl_I (show q < 2 ^ 31 by omega), eq_false s0, hz2]
    · refine SI_no "java/lang/IllegalStateException" 2 0 (u' := u) (v' := m_thrown_set v 2) es2 ?_ ?_ rfl h
      · simp only [g_X9_confirm, e1, pz_bind, pz_ni1, pz_xl, a1, c1, pz_let, eq_false w0, if_false, pz_ns, pz_xr, id]
      · simp only [g_X10_confirm, e2, pz_bind, z10, z20, z00, if_false, if_true, a1, c1, m1, eq_false w0, pz_let, pz_h2]
/-- the patrol that is sent to an incident -/
theorem patOf {n : Nat} (hn : n ≤ 12) (ha : ∀ j : Nat, j < 3 → mP_sentTo v j = -1 ∨ ∃ k : Nat, k < n ∧ mP_sentTo v j = nI k ∧ cI_patrols u k = nI j) (hb : ∀ k : Nat, k < n → cI_patrols u k = -1 ∨ ∃ j : Nat, j < 3 ∧ cI_patrols u k = nI j ∧ mP_sentTo v j = nI k) {k : Nat} (hk : k < n) : g_X10_patrolOf v (nI k) = some (cI_patrols u k) := by
  obtain ⟨m, z, ⟨x, hx, rfl⟩, h1⟩ := lpF (fun m (z : Int32 × Int32) => lp_X10_patrolOf_4 v (nI k) (fun x => some x) m z.1 z.2) 3 (by decide) (fun i z => ∃ x : Int32, ((x = -1 ∧ ∀ j : Nat, j < i → ¬ mP_sentTo v j = nI k) ∨ (∃ j : Nat, j < i ∧ x = nI j ∧ mP_sentTo v j = nI k)) ∧ z = (x, nI i)) (by
    rintro m i z hi ⟨x, hx, rfl⟩
    by_cases c : mP_sentTo v i = nI k
    · refine ⟨(nI i, nI (i + 1)), ⟨nI i, Or.inr ⟨i, by omega, rfl, c⟩, rfl⟩, ?_⟩
      show lp_X10_patrolOf_4 v _ _ (m + 1) x (nI i) = lp_X10_patrolOf_4 v _ _ m _ _
      simp only [lp_X10_patrolOf_4, c_ge 3 3 hi (by decide), if_false, pz_inN hi (show 3 < 2 ^ 31 by decide), pz_let, cl_I (show i < 2 ^ 31 by omega), eq_true c, if_true, nI_1]
    · refine ⟨(x, nI (i + 1)), ⟨x, ?_, rfl⟩, ?_⟩
      · rcases hx with ⟨rfl, q⟩ | ⟨j, hj, rfl, q⟩
        · refine Or.inl ⟨rfl, fun j hj => ?_⟩
          by_cases e : j = i
          · rw [e]
            exact c
          · exact q j (by omega)
        · exact Or.inr ⟨j, by omega, rfl, q⟩
      · show lp_X10_patrolOf_4 v _ _ (m + 1) x (nI i) = lp_X10_patrolOf_4 v _ _ m _ _
        simp only [lp_X10_patrolOf_4, c_ge 3 3 hi (by decide), if_false, pz_inN hi (show 3 < 2 ^ 31 by decide), pz_let, cl_I (show i < 2 ^ 31 by omega), eq_false c, nI_1]) (-1, 0) ⟨-1, Or.inl ⟨rfl, fun j hj => absurd hj (Nat.not_lt_zero j)⟩, rfl⟩
  refine h1.trans ?_
  have h2 : lp_X10_patrolOf_4 v (nI k) (fun x => some x) (m + 1) x (nI 3) = some x := by
    simp only [lp_X10_patrolOf_4, c_le 3 3 (by decide), if_true]
  refine h2.trans (congrArg some ?_)
  rcases hx with ⟨rfl, q⟩ | ⟨j, hj, rfl, q⟩
  · rcases hb k hk with e | ⟨j, hj, -, e⟩
    · exact e.symm
    · exact absurd e (q j hj)
  · rcases ha j hj with e | ⟨k', hk', e, e2⟩
    · rw [e] at q
      exact absurd q.symm (nm1 k (by omega))
    · rw [e] at q
      rw [(nI_eq (by omega) (by omega)).mp q] at e2
      exact e2.symm
theorem secOf {n : Nat} (hn : n ≤ 12) (n1 : cI_count u = nI n) {k q : Nat} (hk : k < n) (hq : q < 48) (e : cI_places u k = nI q) : g_X2_sectionOf u (nI k) = some (nI (q / 4)) := by
  have i1 : g_X9_isWithin (nI k) 0 11 = some 1 := isw (k := k) (a := 0) (b := 11) _ rfl (Nat.zero_le k) (by omega) (by decide) _ _
  have h1 : g_X2_has u (nI k) = some 1 := by
    simp only [g_X2_has, i1, pz_bind, z10, if_false, n1, eq_false (nI_ge hk (by omega))]
  simp only [g_X2_sectionOf, h1, pz_bind, z10, if_false, pz_inN (show k < 12 by omega) (show 12 < 2 ^ 31 by decide), cl_I (show k < 2 ^ 31 by omega), e]
  exact congrArg some (pk_div (d := 4) (by omega) (by omega) (by omega))
theorem sim_incident (h : Rel u v) (p q : Int32) : SI Rel (g_X9_incident u p q) (g_X10_incident v p q) [("java/lang/IndexOutOfBoundsException", 1), ("java/lang/IllegalArgumentException", 2)] := by
  obtain ⟨hM, hT, hD, hS, hO, hH, hI, hP, hB, hK⟩ := id h
  obtain ⟨n, hn, n1, n2, pl, hw, hpl, ha, hb⟩ := id hI
  rcases incc hn n1 n2 p with ⟨e1, e2⟩ | ⟨k, hk, rfl, e1, e2⟩
  · exact SI_no "java/lang/IndexOutOfBoundsException" 1 0 (v' := m_thrown_set v 1) es1 (by simp only [g_X9_incident, e1, pz_bind, pz_ni, pz_xr, id]) (by simp only [g_X10_incident, e2, pz_bind, pz_let, z00, if_true, pz_h1]) rfl h
  · have a1 : ∀ {α : Type} (a : Option α), g_in (nI k) 12 a = a := fun a => pz_inN (by omega) (by decide) a
    have c1 := cl_I (show k < 2 ^ 31 by omega)
    obtain ⟨x, hx, ex⟩ := hpl k hk
    have m2 : mI_placed (m_thrown_set v 0) = cI_places u := pl.symm
    have m3 : mI_state (m_thrown_set v 0) = cI_how u := hw.symm
    rcases iwc q 0 3 with ⟨-, -, f1, f2⟩ | ⟨-, f1, f2⟩
    · by_cases q0 : q = 0
      · refine SI_ok (u' := u) (v' := m_thrown_set v 0) (nI (x / 4)) ?_ ?_ rfl h
        · simp only [g_X9_incident, e1, f1, pz_bind, pz_ni1, pz_na1, pz_xl, eq_true q0, if_true, secOf hn n1 hk hx ex]
        · simp only [g_X10_incident, e2, f2, pz_bind, pz_let, pz_h0, z10, if_false, a1, c1, m2, ex, eq_true q0, if_true]
          exact congrArg (fun z => some (z, m_thrown_set v 0)) (pk_div (d := 4) (by omega) (by omega) (by omega))
      · by_cases q1 : q = 1
        · refine SI_ok (u' := u) (v' := m_thrown_set v 0) (nI x - nI x / (4 : Int32) * (4 : Int32)) ?_ ?_ rfl h
          · simp only [g_X9_incident, e1, f1, pz_bind, pz_let, pz_ni1, pz_na1, pz_xl, eq_false q0, eq_true q1, if_true, if_false, a1, c1, ex]
          · simp only [g_X10_incident, e2, f2, pz_bind, pz_let, pz_h0, z10, if_false, a1, c1, m2, ex, eq_false q0, eq_true q1, if_true]
        · by_cases q2 : q = 2
          · refine SI_ok (u' := u) (v' := m_thrown_set v 0) (cI_how u k) ?_ ?_ rfl h
            · simp only [g_X9_incident, e1, f1, pz_bind, pz_let, pz_ni1, pz_na1, pz_xl, eq_false q0, eq_false q1, eq_true q2, if_true, if_false, a1, c1]
            · simp only [g_X10_incident, e2, f2, pz_bind, pz_let, pz_h0, z10, if_false, a1, c1, m3, eq_false q0, eq_false q1, eq_true q2, if_true]
          · have po : g_X10_patrolOf (m_thrown_set v 0) (nI k) = some (cI_patrols u k) := patOf (v := m_thrown_set v 0) hn ha hb hk
            refine SI_ok (u' := u) (v' := m_thrown_set v 0) (cI_patrols u k) ?_ ?_ rfl h
            · simp only [g_X9_incident, e1, f1, pz_bind, pz_let, pz_ni1, pz_na1, pz_xl, eq_false q0, eq_false q1, eq_false q2, if_false, a1, c1]
            · simp only [g_X10_incident, e2, f2, pz_bind, pz_let, pz_h0, z10, if_false, a1, c1, po, eq_false q0, eq_false q1, eq_false q2]
    · exact SI_no "java/lang/IllegalArgumentException" 2 0 (v' := m_thrown_set v 2) es2 (by simp only [g_X9_incident, e1, f1, pz_ni1, pz_xl, pz_xr, id, pz_bind, pz_na]) (by simp only [g_X10_incident, e2, f2, pz_bind, pz_let, z00, z10, z20, if_true, if_false, pz_h2]) rfl h
/-- the shoulder is shut, in both alike -/
theorem shut (hH : cH_open u = mH_isOpen v) : ∃ (c : Int32) (f : Nat → Int32), g_X6_shutAll u = some (c, cH_open_set u f) ∧ g_X10_shuts v = some (c, mH_isOpen_set v f) ∧ ∀ k : Nat, f k = 0 ∨ f k = cH_open u k := by
  have o1 : ∀ f, cH_open (cH_open_set u f) = f := fun _ => rfl
  have o2 : ∀ f g, cH_open_set (cH_open_set u f) g = cH_open_set u g := fun _ _ => rfl
  have o3 : ∀ f, mH_isOpen (mH_isOpen_set v f) = f := fun _ => rfl
  have o4 : ∀ f g, mH_isOpen_set (mH_isOpen_set v f) g = mH_isOpen_set v g := fun _ _ => rfl
  obtain ⟨n, s', t', ⟨c, f, hf, rfl, rfl⟩, h1, h2⟩ := lpR (fun n (z : Int32 × Int32 × GS) => lp_X6_shutAll_4 (fun (x1_4 : Int32) (w4 : GS) => some (x1_4, w4)) n z.1 z.2.1 z.2.2) (fun n (z : Int32 × Int32 × MS) => lp_X10_shuts_4 (fun (x1_4 : Int32) (w4 : MS) => some (x1_4, w4)) n z.1 z.2.1 z.2.2) 12 (by decide) (fun i z t => ∃ (c : Int32) (f : Nat → Int32), (∀ k : Nat, f k = 0 ∨ f k = cH_open u k) ∧ z = (c, nI i, cH_open_set u f) ∧ t = (c, nI i, mH_isOpen_set v f)) (by
    rintro n i z t hi ⟨c, f, hf, rfl, rfl⟩
    by_cases q : f i = 0
    · refine ⟨(c, nI (i + 1), cH_open_set u f), (c, nI (i + 1), mH_isOpen_set v f), ⟨c, f, hf, rfl, rfl⟩, ?_, ?_⟩
      · show lp_X6_shutAll_4 _ (n + 1) c (nI i) _ = lp_X6_shutAll_4 _ n _ _ _
        simp only [lp_X6_shutAll_4, c_ge 12 12 hi (by decide), if_false, pz_inN hi (show 12 < 2 ^ 31 by decide), pz_let, cl_I (show i < 2 ^ 31 by omega), o1, eq_true q, if_true, nI_1]
      · show lp_X10_shuts_4 _ (n + 1) c (nI i) _ = lp_X10_shuts_4 _ n _ _ _
        have uf : upd f i 0 = f := funext fun k => by
          by_cases e : k = i
          · rw [e, pk_us, q]
          · rw [pk_un e]
        simp only [lp_X10_shuts_4, c_ge 12 12 hi (by decide), if_false, pz_inN hi (show 12 < 2 ^ 31 by decide), pz_let, cl_I (show i < 2 ^ 31 by omega), o3, o4, eq_true q, if_true, nI_1, vnb0, uf, Int32.add_zero]
    · refine ⟨(c + 1, nI (i + 1), cH_open_set u (upd f i 0)), (c + 1, nI (i + 1), mH_isOpen_set v (upd f i 0)), ⟨c + 1, upd f i 0, fun k => ?_, rfl, rfl⟩, ?_, ?_⟩
      · by_cases e : k = i
        · rw [e, pk_us]
          exact Or.inl rfl
        · rw [pk_un e]
          exact hf k
      · show lp_X6_shutAll_4 _ (n + 1) c (nI i) _ = lp_X6_shutAll_4 _ n _ _ _
        simp only [lp_X6_shutAll_4, c_ge 12 12 hi (by decide), if_false, pz_inN hi (show 12 < 2 ^ 31 by decide), pz_let, cl_I (show i < 2 ^ 31 by omega), o1, o2, eq_false q, nI_1, vnb0]
      · show lp_X10_shuts_4 _ (n + 1) c (nI i) _ = lp_X10_shuts_4 _ n _ _ _
        simp only [lp_X10_shuts_4, c_ge 12 12 hi (by decide), if_false, pz_inN hi (show 12 < 2 ^ 31 by decide), pz_let, cl_I (show i < 2 ^ 31 by omega), o3, o4, eq_false q, nI_1, vnb0]) (0, 0, u) (0, 0, v) ⟨0, cH_open u, fun k => Or.inr rfl, rfl, by rw [hH]; rfl⟩
  refine ⟨c, f, h1.trans ?_, h2.trans ?_, hf⟩
  · show lp_X6_shutAll_4 _ (n + 1) _ (nI 12) _ = _
    simp only [lp_X6_shutAll_4, c_le 12 12 (by decide), if_true]
  · show lp_X10_shuts_4 _ (n + 1) _ (nI 12) _ = _
    simp only [lp_X10_shuts_4, c_le 12 12 (by decide), if_true]
theorem sim_shut (h : Rel u v) : ∃ (r : Int32) (u' : GS) (v' : MS), g_X9_shutShoulder u = some (r, u') ∧ g_X10_shutShoulder v = some (r, v') ∧ Rel u' v' := by
  obtain ⟨hM, hT, hD, hS, hO, hH, hI, hP, hB, hK⟩ := id h
  obtain ⟨c, f, h1, h2, hf⟩ := shut (u := u) (v := m_thrown_set v 0) hH.1
  refine ⟨c, _, _, ?_, ?_, (⟨hM, hT, hD, hS, hO, ⟨rfl, hH.2.1, fun k => (hf k).elim Or.inl (fun e => (hH.2.2 k).elim (fun q => Or.inl (e.trans q)) (fun q => Or.inr (e.trans q)))⟩, hI, hP, hB, hK⟩ : Rel (cH_open_set u f) (mH_isOpen_set (m_thrown_set v 0) f))⟩
  · simp only [g_X9_shutShoulder, h1, pz_bind]
  · simp only [g_X10_shutShoulder, h2, pz_bind, pz_let]
theorem sim_stop (h : Rel u v) (p q : Int32) : SV Rel (g_X9_stop u p q) (g_X10_stop v p q) [("java/lang/IndexOutOfBoundsException", 1), ("java/lang/IllegalStateException", 2)] := by
  obtain ⟨hM, hT, hD, hS, hO, hH, hI, hP, hB, hK⟩ := id h
  rcases plcc u p q with ⟨e1, e2⟩ | ⟨s, l, hs, hl, rfl, rfl, e1, e2⟩
  · exact SV_no "java/lang/IndexOutOfBoundsException" 1 (v' := m_thrown_set v 1) es1 (by simp only [g_X9_stop, e1, pz_xr, id]) (by simp only [g_X10_stop, e2, pz_bind, pz_let, z00, if_true, pz_h1]) rfl h
  · have hk : 4 * s + l < 48 := by omega
    have a1 : ∀ {α : Type} (a : Option α), g_in (nI (4 * s + l)) 48 a = a := fun a => pz_inN hk (by decide) a
    have a2 : ∀ {α : Type} (a : Option α), g_in (nI s) 12 a = a := fun a => pz_inN hs (by decide) a
    have c1 := cl_I (show 4 * s + l < 2 ^ 31 by omega)
    have c2 := cl_I (show s < 2 ^ 31 by omega)
    have m1 : mT_isStopped v = cT_stopped u := hT.stopped
    have m2 : mT_isStopped (m_thrown_set v 0) = cT_stopped u := hT.stopped
    by_cases s0 : cT_stopped u (4 * s + l) = 0
    · have base : RT (cT_stopped_set u (upd (cT_stopped u) (4 * s + l) 1)) (mT_isStopped_set (m_thrown_set v 0) (upd (cT_stopped u) (4 * s + l) 1)) := ⟨congrArg (fun t : cT_t => (t.1, upd (cT_stopped u) (4 * s + l) 1, t.2.2)) hT.1, hT.2⟩
      by_cases l0 : nI l = 0
      · obtain ⟨c, f, h1, h2, hf⟩ := shut (u := cH_foundClearAt_set (cT_stopped_set u (upd (cT_stopped u) (4 * s + l) 1)) (upd (cH_foundClearAt u) s (-1000))) (v := mH_wasClear_set (mT_isStopped_set (m_thrown_set v 0) (upd (cT_stopped u) (4 * s + l) 1)) (upd (mH_wasClear v) s 0)) hH.1
        have z1 : ∀ g, cH_foundClearAt (cT_stopped_set u g) = cH_foundClearAt u := fun _ => rfl
        have z2 : ∀ g, mH_wasClear (mT_isStopped_set (m_thrown_set v 0) g) = mH_wasClear v := fun _ => rfl
        refine SV_ok 0 ?_ ?_ ?_ (⟨hM, base, hD, hS, hO, ⟨rfl, ?_, fun k => (hf k).elim Or.inl (fun e => (hH.2.2 k).elim (fun q => Or.inl (e.trans q)) (fun q => Or.inr (e.trans q)))⟩, hI, hP, hB, hK⟩ : Rel (cH_open_set (cH_foundClearAt_set (cT_stopped_set u (upd (cT_stopped u) (4 * s + l) 1)) (upd (cH_foundClearAt u) s (-1000))) f) (mH_isOpen_set (mH_wasClear_set (mT_isStopped_set (m_thrown_set v 0) (upd (cT_stopped u) (4 * s + l) 1)) (upd (mH_wasClear v) s 0)) f))
        · simp only [g_X9_stop, e1, pz_xl, placeN, pz_bind, a1, a2, c1, c2, s0, if_true, pz_let, pz_ns1, vnb1, eq_true l0, z1, h1]
        · simp only [g_X10_stop, e2, pz_bind, z10, if_false, mpl, a1, a2, c1, c2, m1, m2, s0, if_true, pz_let, pz_h0, vnb1, vnb0, eq_true l0, z2, h2]
        · rfl
        · intro k hk
          show upd (cH_foundClearAt u) s (-1000) k = if upd (mH_wasClear v) s 0 k = 0 then -1000 else mH_looked v k
          by_cases e : k = s
          · rw [e, pk_us, pk_us, if_pos rfl]
          · rw [pk_un e, pk_un e]
            exact hH.2.1 k hk
      · refine SV_ok 0 ?_ ?_ ?_ (⟨hM, base, hD, hS, hO, hH, hI, hP, hB, hK⟩ : Rel (cT_stopped_set u (upd (cT_stopped u) (4 * s + l) 1)) (mT_isStopped_set (m_thrown_set v 0) (upd (cT_stopped u) (4 * s + l) 1)))
        · simp only [g_X9_stop, e1, pz_xl, placeN, pz_bind, a1, a2, c1, c2, s0, if_true, pz_let, pz_ns1, vnb1, eq_false l0, if_false]
        · simp only [g_X10_stop, e2, pz_bind, z10, if_false, mpl, a1, a2, c1, c2, m1, m2, s0, if_true, pz_let, pz_h0, vnb1, vnb0, eq_false l0]
        · rfl
    · refine SV_no "java/lang/IllegalStateException" 2 (u' := u) (v' := m_thrown_set v 2) es2 ?_ ?_ rfl h
      · simp only [g_X9_stop, e1, pz_xl, pz_xr, id, placeN, pz_bind, a1, c1, eq_false s0, if_false, pz_let, pz_ns]
      · simp only [g_X10_stop, e2, pz_bind, z10, z00, if_false, if_true, mpl, a1, c1, m1, eq_false s0, pz_let, pz_h2]
end RELS5
end
section
section RELS6
variable {u : GS} {v : MS}
/-- looked at lately, and clear then -/
def goodK (v : MS) (k : Nat) : Prop := ¬ (5 : Int32) ≤ m_now v - mH_looked v k ∧ ¬ mH_wasClear v k = 0
theorem goodC (hM : RM u v) (hH : RH u v) {k : Nat} (hk : k < 12) : (c_minute u - cH_foundClearAt u k < (5 : Int32)) ↔ goodK v k := by
  rw [hH.2.1 k hk]
  obtain ⟨e, t, ht, e2⟩ := hM
  by_cases c : mH_wasClear v k = 0
  · rw [if_pos c]
    refine ⟨fun z => absurd z ?_, fun z => absurd c z.2⟩
    rw [e2, show nI t - (-1000 : Int32) = nI (t + 1000) from by rw [Int32.sub_eq_add_neg]; exact nI_add t 1000]
    exact nI_nlt (a := t + 1000) (b := 5) (by omega) (by omega)
  · rw [if_neg c, e]
    exact ⟨fun z => ⟨Int32.not_le.mpr z, c⟩, fun z => Int32.not_le.mp z.1⟩
theorem canOpen_c (hM : RM u v) (hH : RH u v) {a b : Nat} (hab : a ≤ b) (hb : b < 12) : (g_X6_canOpen u (nI a) (nI b) (c_minute u) = some 1 ∧ ∀ k : Nat, a ≤ k → k ≤ b → goodK v k) ∨ (g_X6_canOpen u (nI a) (nI b) (c_minute u) = some 0 ∧ ∃ k : Nat, a ≤ k ∧ k ≤ b ∧ ¬ goodK v k) := by
  have main := lpE (fun n (z : Int32) => lp_X6_canOpen_3 u (nI a) (nI b) (c_minute u) (fun (_ : Unit) => some (1 : Int32)) n z) 12 (by decide) (fun i z => z = nI i ∧ ∀ k : Nat, k < i → a ≤ k → k ≤ b → goodK v k) (fun x => x = some 0 ∧ ∃ k : Nat, a ≤ k ∧ k ≤ b ∧ ¬ goodK v k) (by
    rintro n i z hi ⟨rfl, hz⟩
    by_cases r : a ≤ i ∧ i ≤ b
    · have i1 : g_X9_isWithin (nI i) (nI a) (nI b) = some 1 := iw_nI r.1 r.2 (by omega)
      by_cases g : goodK v i
      · refine Or.inl ⟨nI (i + 1), ⟨rfl, fun k hk h1 h2 => ?_⟩, ?_⟩
        · by_cases e : k = i
          · rw [e]
            exact g
          · exact hz k (by omega) h1 h2
        · show lp_X6_canOpen_3 u _ _ _ _ (n + 1) (nI i) = lp_X6_canOpen_3 u _ _ _ _ n _
          simp only [lp_X6_canOpen_3, c_ge 12 12 hi (by decide), if_false, i1, pz_bind, pz_let, z10, pz_inN hi (show 12 < 2 ^ 31 by decide), cl_I (show i < 2 ^ 31 by omega), eq_true ((goodC hM hH hi).mpr g), if_true, nI_1]
      · refine Or.inr ⟨?_, i, r.1, r.2, g⟩
        show lp_X6_canOpen_3 u _ _ _ _ (n + 1) (nI i) = _
        simp only [lp_X6_canOpen_3, c_ge 12 12 hi (by decide), if_false, i1, pz_bind, pz_let, z10, pz_inN hi (show 12 < 2 ^ 31 by decide), cl_I (show i < 2 ^ 31 by omega), eq_false (fun q => g ((goodC hM hH hi).mp q))]
    · have i1 : g_X9_isWithin (nI i) (nI a) (nI b) = some 0 := iw_nI0 (by omega) (by omega) (by omega) (by omega)
      refine Or.inl ⟨nI (i + 1), ⟨rfl, fun k hk h1 h2 => ?_⟩, ?_⟩
      · exact hz k (by omega) h1 h2
      · show lp_X6_canOpen_3 u _ _ _ _ (n + 1) (nI i) = lp_X6_canOpen_3 u _ _ _ _ n _
        simp only [lp_X6_canOpen_3, c_ge 12 12 hi (by decide), if_false, i1, pz_bind, pz_let, if_true, nI_1]) 0 ⟨rfl, fun k hk => absurd hk (Nat.not_lt_zero k)⟩
  rcases main with ⟨n, z, ⟨rfl, hz⟩, h1⟩ | ⟨h1, h2⟩
  · refine Or.inl ⟨h1.trans ?_, fun k h1 h2 => hz k (by omega) h1 h2⟩
    show lp_X6_canOpen_3 u _ _ _ _ (n + 1) (nI 12) = _
    simp only [lp_X6_canOpen_3, c_le 12 12 (by decide), if_true]
  · exact Or.inr ⟨h1, h2⟩
theorem canOpen_m {a b : Nat} (hab : a ≤ b) (hb : b < 12) : (g_X10_canOpen v (nI a) (nI b) = some 1 ∧ ∀ k : Nat, a ≤ k → k ≤ b → goodK v k) ∨ (g_X10_canOpen v (nI a) (nI b) = some 0 ∧ ∃ k : Nat, a ≤ k ∧ k ≤ b ∧ ¬ goodK v k) := by
  obtain ⟨n, z, ⟨x, hx, rfl⟩, h1⟩ := lpF (fun n (z : Int32 × Int32) => lp_X10_canOpen_5 v (nI b) (fun (x3_5 : Int32) => g_bo x3_5 (some x3_5)) n z.1 z.2) (b + 1 - a) (by omega) (fun i z => ∃ x : Int32, ((x = 1 ∧ ∀ k : Nat, k < a + i → a ≤ k → goodK v k) ∨ (x = 0 ∧ ∃ k : Nat, a ≤ k ∧ k ≤ b ∧ ¬ goodK v k)) ∧ z = (x, nI (a + i))) (by
    rintro n i z hi ⟨x, hx, rfl⟩
    have lt : ¬ nI b < nI (a + i) := nI_nlt (by omega) (by omega)
    have q1 : nI (a + i) + 1 = nI (a + (i + 1)) := nI_1 (a + i)
    rcases hx with ⟨rfl, hx⟩ | ⟨rfl, hx⟩
    · by_cases c1 : (5 : Int32) ≤ m_now v - mH_looked v (a + i)
      · refine ⟨(0, nI (a + (i + 1))), ⟨0, Or.inr ⟨rfl, a + i, by omega, by omega, fun g => g.1 c1⟩, rfl⟩, ?_⟩
        show lp_X10_canOpen_5 v _ _ (n + 1) 1 (nI (a + i)) = lp_X10_canOpen_5 v _ _ n _ _
        simp only [lp_X10_canOpen_5, eq_false lt, if_false, pz_let, z10, pz_inN (show a + i < 12 by omega) (show 12 < 2 ^ 31 by decide), cl_I (show a + i < 2 ^ 31 by omega), eq_true c1, if_true, q1]
      · by_cases c2 : mH_wasClear v (a + i) = 0
        · refine ⟨(0, nI (a + (i + 1))), ⟨0, Or.inr ⟨rfl, a + i, by omega, by omega, fun g => g.2 c2⟩, rfl⟩, ?_⟩
          show lp_X10_canOpen_5 v _ _ (n + 1) 1 (nI (a + i)) = lp_X10_canOpen_5 v _ _ n _ _
          simp only [lp_X10_canOpen_5, eq_false lt, if_false, pz_let, z10, pz_inN (show a + i < 12 by omega) (show 12 < 2 ^ 31 by decide), cl_I (show a + i < 2 ^ 31 by omega), eq_false c1, eq_true c2, if_true, q1]
        · refine ⟨(1, nI (a + (i + 1))), ⟨1, Or.inl ⟨rfl, fun k hk h2 => ?_⟩, rfl⟩, ?_⟩
          · by_cases e : k = a + i
            · rw [e]
              exact ⟨c1, c2⟩
            · exact hx k (by omega) h2
          · show lp_X10_canOpen_5 v _ _ (n + 1) 1 (nI (a + i)) = lp_X10_canOpen_5 v _ _ n _ _
            simp only [lp_X10_canOpen_5, eq_false lt, if_false, pz_let, z10, pz_inN (show a + i < 12 by omega) (show 12 < 2 ^ 31 by decide), cl_I (show a + i < 2 ^ 31 by omega), eq_false c1, eq_false c2, q1]
    · refine ⟨(0, nI (a + (i + 1))), ⟨0, Or.inr ⟨rfl, hx⟩, rfl⟩, ?_⟩
      show lp_X10_canOpen_5 v _ _ (n + 1) 0 (nI (a + i)) = lp_X10_canOpen_5 v _ _ n _ _
      simp only [lp_X10_canOpen_5, eq_false lt, if_false, pz_let, z00, if_true, q1]) (1, nI a) ⟨1, Or.inl ⟨rfl, fun k hk h2 => by omega⟩, rfl⟩
  have gt : nI b < nI (a + (b + 1 - a)) := nI_lt (by omega) (by omega)
  have e2 : lp_X10_canOpen_5 v (nI b) (fun (x3_5 : Int32) => g_bo x3_5 (some x3_5)) (n + 1) x (nI (a + (b + 1 - a))) = g_bo x (some x) := by
    simp only [lp_X10_canOpen_5, eq_true gt, if_true]
  rcases hx with ⟨rfl, hx⟩ | ⟨rfl, hx⟩
  · exact Or.inl ⟨(h1.trans e2).trans (pz_bo1 _), fun k h1 h2 => hx k (by omega) h1⟩
  · exact Or.inr ⟨(h1.trans e2).trans (pz_bo0 _), hx⟩
/-- how many are shut among those from a to b, below i -/
def ctz (f : Nat → Int32) (a b : Nat) : Nat → Nat
  | 0 => 0
  | i + 1 => ctz f a b i + (if a ≤ i ∧ i ≤ b ∧ f i = 0 then 1 else 0)
def opf (f : Nat → Int32) (a b i : Nat) : Nat → Int32 := fun k => if a ≤ k ∧ k ≤ b ∧ k < i ∧ f k = 0 then 1 else f k
theorem ctz_lo (f : Nat → Int32) (a b : Nat) : ∀ i : Nat, i ≤ a → ctz f a b i = 0
  | 0, _ => rfl
  | i + 1, h => by
    rw [ctz, ctz_lo f a b i (by omega), if_neg (by omega)]
theorem ctz_hi (f : Nat → Int32) (a b : Nat) : ∀ d : Nat, ctz f a b (b + 1 + d) = ctz f a b (b + 1)
  | 0 => rfl
  | d + 1 => by
    rw [← Nat.add_assoc, ctz, ctz_hi f a b d, if_neg (by omega)]
    rfl
theorem opf_lo (f : Nat → Int32) (a b i : Nat) (h : i ≤ a) : opf f a b i = f := funext fun k => if_neg (fun z => by omega)
theorem opf_hi (f : Nat → Int32) (a b i : Nat) (h : b < i) : opf f a b i = opf f a b (b + 1) := funext fun k => by
  unfold opf
  by_cases c : a ≤ k ∧ k ≤ b ∧ f k = 0
  · rw [if_pos ⟨c.1, c.2.1, by omega, c.2.2⟩, if_pos ⟨c.1, c.2.1, by omega, c.2.2⟩]
  · rw [if_neg (fun z => c ⟨z.1, z.2.1, z.2.2.2⟩), if_neg (fun z => c ⟨z.1, z.2.1, z.2.2.2⟩)]
theorem opf_at (f : Nat → Int32) (a b i : Nat) : opf f a b i i = f i := if_neg (fun z => by omega)
theorem opf_up (f : Nat → Int32) {a b i : Nat} (h1 : a ≤ i) (h2 : i ≤ b) (hf : ∀ k : Nat, f k = 0 ∨ f k = 1) : upd (opf f a b i) i 1 = opf f a b (i + 1) := funext fun k => by
  by_cases e : k = i
  · rw [e, pk_us]
    unfold opf
    rcases hf i with c | c
    · rw [if_pos ⟨h1, h2, by omega, c⟩]
    · rw [if_neg (fun z => by rw [c] at z; exact absurd z.2.2.2 (by decide)), c]
  · rw [pk_un e]
    unfold opf
    by_cases c : a ≤ k ∧ k ≤ b ∧ k < i ∧ f k = 0
    · rw [if_pos c, if_pos ⟨c.1, c.2.1, by omega, c.2.2.2⟩]
    · rw [if_neg c, if_neg (fun z => c ⟨z.1, z.2.1, by omega, z.2.2.2⟩)]
theorem opf_st (f : Nat → Int32) {a b i : Nat} (h : ¬ (a ≤ i ∧ i ≤ b ∧ f i = 0)) : opf f a b (i + 1) = opf f a b i := funext fun k => by
  unfold opf
  by_cases c : a ≤ k ∧ k ≤ b ∧ k < i ∧ f k = 0
  · rw [if_pos c, if_pos ⟨c.1, c.2.1, by omega, c.2.2.2⟩]
  · rw [if_neg c, if_neg (fun z => by
      by_cases e : k = i
      · rw [e] at z
        exact h ⟨z.1, z.2.1, z.2.2.2⟩
      · exact c ⟨z.1, z.2.1, by omega, z.2.2.2⟩)]
theorem openA_c (f : Nat → Int32) {a b : Nat} (hab : a ≤ b) (hb : b < 12) (hf : ∀ k : Nat, f k = 0 ∨ f k = 1) (hu : cH_open u = f) : g_X6_openAll u (nI a) (nI b) = some (nI (ctz f a b 12), cH_open_set u (opf f a b 12)) := by
  have o1 : ∀ f, cH_open (cH_open_set u f) = f := fun _ => rfl
  have o2 : ∀ f g, cH_open_set (cH_open_set u f) g = cH_open_set u g := fun _ _ => rfl
  obtain ⟨n, z, rfl, h1⟩ := lpF (fun n (z : Int32 × Int32 × GS) => lp_X6_openAll_5 (nI a) (nI b) (fun (x3_5 : Int32) (w5 : GS) => some (x3_5, w5)) n z.1 z.2.1 z.2.2) 12 (by decide) (fun i z => z = (nI (ctz f a b i), nI i, cH_open_set u (opf f a b i))) (by
    rintro n i z hi rfl
    refine ⟨_, rfl, ?_⟩
    show lp_X6_openAll_5 _ _ _ (n + 1) (nI _) (nI i) _ = lp_X6_openAll_5 _ _ _ n (nI _) (nI (i + 1)) _
    by_cases r : a ≤ i ∧ i ≤ b
    · have i1 : g_X9_isWithin (nI i) (nI a) (nI b) = some 1 := iw_nI r.1 r.2 (by omega)
      by_cases c : f i = 0
      · have e1 : ctz f a b (i + 1) = ctz f a b i + 1 := by rw [ctz, if_pos ⟨r.1, r.2, c⟩]
        simp only [lp_X6_openAll_5, c_ge 12 12 hi (by decide), if_false, i1, pz_bind, pz_let, z10, pz_inN hi (show 12 < 2 ^ 31 by decide), cl_I (show i < 2 ^ 31 by omega), o1, o2, opf_at, eq_true c, if_true, vnb1, opf_up f r.1 r.2 hf, nI_1, e1]
      · have e1 : ctz f a b (i + 1) = ctz f a b i := by rw [ctz, if_neg (fun z => c z.2.2), Nat.add_zero]
        simp only [lp_X6_openAll_5, c_ge 12 12 hi (by decide), if_false, i1, pz_bind, pz_let, z10, pz_inN hi (show 12 < 2 ^ 31 by decide), cl_I (show i < 2 ^ 31 by omega), o1, opf_at, eq_false c, opf_st f (fun z => c z.2.2), nI_1, e1]
    · have i1 : g_X9_isWithin (nI i) (nI a) (nI b) = some 0 := iw_nI0 (by omega) (by omega) (by omega) (by omega)
      have e1 : ctz f a b (i + 1) = ctz f a b i := by rw [ctz, if_neg (fun z => r ⟨z.1, z.2.1⟩), Nat.add_zero]
      simp only [lp_X6_openAll_5, c_ge 12 12 hi (by decide), if_false, i1, pz_bind, pz_let, if_true, opf_st f (fun z => r ⟨z.1, z.2.1⟩), nI_1, e1]) (0, 0, u) (by
    rw [opf_lo f a b 0 (Nat.zero_le a), ← hu]
    rfl)
  refine h1.trans ?_
  show lp_X6_openAll_5 _ _ _ (n + 1) _ (nI 12) _ = _
  simp only [lp_X6_openAll_5, c_le 12 12 (by decide), if_true]
theorem openA_m (f : Nat → Int32) {a b : Nat} (hab : a ≤ b) (hb : b < 12) (hf : ∀ k : Nat, f k = 0 ∨ f k = 1) (hu : mH_isOpen v = f) : lp_X10_openShoulder_66 (nI b) (fun (x : Int32) (w : MS) => some (x, w)) FU 0 (nI a) v = some (nI (ctz f a b 12), mH_isOpen_set v (opf f a b 12)) := by
  have o1 : ∀ f, mH_isOpen (mH_isOpen_set v f) = f := fun _ => rfl
  have o2 : ∀ f g, mH_isOpen_set (mH_isOpen_set v f) g = mH_isOpen_set v g := fun _ _ => rfl
  obtain ⟨n, z, rfl, h1⟩ := lpF (fun n (z : Int32 × Int32 × MS) => lp_X10_openShoulder_66 (nI b) (fun (x : Int32) (w : MS) => some (x, w)) n z.1 z.2.1 z.2.2) (b + 1 - a) (by omega) (fun i z => z = (nI (ctz f a b (a + i)), nI (a + i), mH_isOpen_set v (opf f a b (a + i)))) (by
    rintro n i z hi rfl
    refine ⟨_, rfl, ?_⟩
    show lp_X10_openShoulder_66 _ _ (n + 1) (nI _) (nI (a + i)) _ = lp_X10_openShoulder_66 _ _ n (nI (ctz f a b (a + i + 1))) (nI (a + i + 1)) (mH_isOpen_set v (opf f a b (a + i + 1)))
    have lt : ¬ nI b < nI (a + i) := nI_nlt (by omega) (by omega)
    by_cases c : f (a + i) = 0
    · have e1 : ctz f a b (a + i + 1) = ctz f a b (a + i) + 1 := by rw [ctz, if_pos ⟨by omega, by omega, c⟩]
      simp only [lp_X10_openShoulder_66, eq_false lt, if_false, pz_let, pz_inN (show a + i < 12 by omega) (show 12 < 2 ^ 31 by decide), cl_I (show a + i < 2 ^ 31 by omega), o1, o2, opf_at, eq_true c, if_true, vnb1, opf_up f (show a ≤ a + i by omega) (show a + i ≤ b by omega) hf, nI_1, e1]
    · have e1 : ctz f a b (a + i + 1) = ctz f a b (a + i) := by rw [ctz, if_neg (fun z => c z.2.2), Nat.add_zero]
      simp only [lp_X10_openShoulder_66, eq_false lt, if_false, pz_let, pz_inN (show a + i < 12 by omega) (show 12 < 2 ^ 31 by decide), cl_I (show a + i < 2 ^ 31 by omega), o1, o2, opf_at, eq_false c, vnb1, opf_up f (show a ≤ a + i by omega) (show a + i ≤ b by omega) hf, nI_1, e1, Int32.add_zero]) (0, nI a, v) (by
    rw [Nat.add_zero, opf_lo f a b a (Nat.le_refl a), ctz_lo f a b a (Nat.le_refl a), ← hu]
    rfl)
  refine h1.trans ?_
  have gt : nI b < nI (a + (b + 1 - a)) := nI_lt (by omega) (by omega)
  show lp_X10_openShoulder_66 _ _ (n + 1) _ (nI _) _ = _
  simp only [lp_X10_openShoulder_66, eq_true gt, if_true]
  have e1 : a + (b + 1 - a) = b + 1 := by omega
  obtain ⟨d, hd⟩ : ∃ d, 12 = b + 1 + d := ⟨11 - b, by omega⟩
  rw [e1, hd, ctz_hi, opf_hi f a b (b + 1 + d) (by omega)]
theorem sim_openShoulder (h : Rel u v) (p q : Int32) : SI Rel (g_X9_openShoulder u p q) (g_X10_openShoulder v p q) [("java/lang/IndexOutOfBoundsException", 1), ("java/lang/IllegalArgumentException", 2), ("java/lang/IllegalStateException", 3)] := by
  obtain ⟨hM, hT, hD, hS, hO, hH, hI, hP, hB, hK⟩ := id h
  rcases secc u p with ⟨e1, e2⟩ | ⟨a, ha, rfl, e1, e2⟩
  · exact SI_no "java/lang/IndexOutOfBoundsException" 1 0 (v' := m_thrown_set v 1) es1 (by simp only [g_X9_openShoulder, e1, pz_xr, id]) (by simp only [g_X10_openShoulder, e2, pz_bind, pz_let, z00, if_true, pz_h1]) rfl h
  · rcases secc u q with ⟨f1, f2⟩ | ⟨b, hb, rfl, f1, f2⟩
    · exact SI_no "java/lang/IndexOutOfBoundsException" 1 0 (v' := m_thrown_set v 1) es1 (by simp only [g_X9_openShoulder, e1, f1, pz_xl, pz_xr, id]) (by simp only [g_X10_openShoulder, e2, f2, pz_bind, pz_let, z00, z10, if_true, if_false, pz_h1]) rfl h
    · by_cases hab : a ≤ b
      · have l1 : (nI b < nI a) = False := eq_false (nI_nlt hab (by omega))
        have l2 : (nI a ≤ nI b) = True := eq_true (nI_le hab (by omega))
        rcases canOpen_c hM hH hab hb with ⟨g1, G1⟩ | ⟨g1, G1⟩
        · rcases canOpen_m (v := v) hab hb with ⟨g2, -⟩ | ⟨-, k, k1, k2, k3⟩
          · have c1 := openA_c (u := u) (cH_open u) hab hb hH.2.2 rfl
            have c2 := openA_m (v := m_thrown_set v 0) (cH_open u) hab hb hH.2.2 hH.1.symm
            refine SI_ok (nI (ctz (cH_open u) a b 12)) ?_ ?_ ?_ (⟨hM, hT, hD, hS, hO, ⟨rfl, hH.2.1, fun k => ?_⟩, hI, hP, hB, hK⟩ : Rel (cH_open_set u (opf (cH_open u) a b 12)) (mH_isOpen_set (m_thrown_set v 0) (opf (cH_open u) a b 12)))
            · simp only [g_X9_openShoulder, e1, f1, pz_xl, pz_let, l1, if_false, pz_na1, g1, pz_bind, pz_ns1, c1]
            · simp only [g_X10_openShoulder, e2, f2, pz_bind, pz_let, z10, z00, if_false, if_true, l2, g2, pz_h0, c2]
            · rfl
            · show opf (cH_open u) a b 12 k = 0 ∨ opf (cH_open u) a b 12 k = 1
              unfold opf
              by_cases c : a ≤ k ∧ k ≤ b ∧ k < 12 ∧ cH_open u k = 0
              · rw [if_pos c]
                exact Or.inr rfl
              · rw [if_neg c]
                exact hH.2.2 k
          · exact absurd (G1 k k1 k2) k3
        · rcases canOpen_m (v := v) hab hb with ⟨-, G2⟩ | ⟨g2, -⟩
          · obtain ⟨k, k1, k2, k3⟩ := G1
            exact absurd (G2 k k1 k2) k3
          · refine SI_no "java/lang/IllegalStateException" 3 0 (u' := u) (v' := m_thrown_set v 3) es3 ?_ ?_ rfl h
            · simp only [g_X9_openShoulder, e1, f1, pz_xl, pz_xr, id, pz_let, l1, if_false, pz_na1, g1, pz_bind, pz_ns]
            · simp only [g_X10_openShoulder, e2, f2, pz_bind, pz_let, z10, z00, if_false, if_true, l2, g2, pz_h3]
      · have l1 : (nI b < nI a) = True := eq_true (nI_lt (by omega) (by omega))
        have l2 : (nI a ≤ nI b) = False := eq_false (nI_ge (by omega) (by omega))
        refine SI_no "java/lang/IllegalArgumentException" 2 0 (u' := u) (v' := m_thrown_set v 2) es2 ?_ ?_ rfl h
        · simp only [g_X9_openShoulder, e1, f1, pz_xl, pz_xr, id, pz_let, l1, if_true, pz_na]
        · simp only [g_X10_openShoulder, e2, f2, pz_bind, pz_let, z10, z00, if_false, if_true, l2, pz_h2]
end RELS6
end
section
section RELS7
variable {u : GS} {v : MS}
theorem canAdd_c {n : Nat} (hn : n ≤ 12) (n1 : cI_count u = nI n) (z : Int32) : (g_X2_canAdd u z = some 1 ∧ n < 12 ∧ ∀ k : Nat, k < n → ¬ (cI_places u k = z ∧ ¬ cI_how u k = 2)) ∨ (g_X2_canAdd u z = some 0 ∧ (n = 12 ∨ ∃ k : Nat, k < n ∧ cI_places u k = z ∧ ¬ cI_how u k = 2)) := by
  have main := lpE (fun m (y : Int32) => lp_X2_canAdd_2 u z (fun (_ : Unit) => if (12 : Int32) ≤ (cI_count u) then some (0 : Int32) else some (1 : Int32)) m y) 12 (by decide) (fun i y => y = nI i ∧ ∀ k : Nat, k < i → k < n → ¬ (cI_places u k = z ∧ ¬ cI_how u k = 2)) (fun x => x = some 0 ∧ ∃ k : Nat, k < n ∧ cI_places u k = z ∧ ¬ cI_how u k = 2) (by
    rintro m i y hi ⟨rfl, hy⟩
    by_cases c : n ≤ i
    · refine Or.inl ⟨nI (i + 1), ⟨rfl, fun k h1 h2 => hy k (by omega) h2⟩, ?_⟩
      show lp_X2_canAdd_2 u _ _ (m + 1) (nI i) = lp_X2_canAdd_2 u _ _ m _
      simp only [lp_X2_canAdd_2, c_ge 12 12 hi (by decide), if_false, n1, eq_true (nI_le c (show i < 2 ^ 31 by omega)), if_true, pz_let, nI_1]
    · have c' := eq_false (nI_ge (Nat.lt_of_not_le c) (show n < 2 ^ 31 by omega))
      by_cases p : cI_places u i = z
      · by_cases w : cI_how u i = 2
        · refine Or.inl ⟨nI (i + 1), ⟨rfl, fun k h1 h2 => ?_⟩, ?_⟩
          · by_cases e : k = i
            · rw [e]
              exact fun q => q.2 w
            · exact hy k (by omega) h2
          · show lp_X2_canAdd_2 u _ _ (m + 1) (nI i) = lp_X2_canAdd_2 u _ _ m _
            simp only [lp_X2_canAdd_2, c_ge 12 12 hi (by decide), if_false, n1, c', pz_inN hi (show 12 < 2 ^ 31 by decide), cl_I (show i < 2 ^ 31 by omega), eq_true p, eq_true w, if_true, pz_let, nI_1]
        · refine Or.inr ⟨?_, i, by omega, p, w⟩
          show lp_X2_canAdd_2 u _ _ (m + 1) (nI i) = _
          simp only [lp_X2_canAdd_2, c_ge 12 12 hi (by decide), if_false, n1, c', pz_inN hi (show 12 < 2 ^ 31 by decide), cl_I (show i < 2 ^ 31 by omega), eq_true p, eq_false w, if_true, pz_let]
      · refine Or.inl ⟨nI (i + 1), ⟨rfl, fun k h1 h2 => ?_⟩, ?_⟩
        · by_cases e : k = i
          · rw [e]
            exact fun q => p q.1
          · exact hy k (by omega) h2
        · show lp_X2_canAdd_2 u _ _ (m + 1) (nI i) = lp_X2_canAdd_2 u _ _ m _
          simp only [lp_X2_canAdd_2, c_ge 12 12 hi (by decide), if_false, n1, c', pz_inN hi (show 12 < 2 ^ 31 by decide), cl_I (show i < 2 ^ 31 by omega), eq_false p, pz_let, nI_1]) 0 ⟨rfl, fun k hk => absurd hk (Nat.not_lt_zero k)⟩
  rcases main with ⟨m, y, ⟨rfl, hy⟩, h1⟩ | ⟨h1, h2⟩
  · by_cases c : n = 12
    · refine Or.inr ⟨h1.trans ?_, Or.inl c⟩
      show lp_X2_canAdd_2 u _ _ (m + 1) (nI 12) = _
      simp only [lp_X2_canAdd_2, c_le 12 12 (by decide), if_true, n1, c]
    · refine Or.inl ⟨h1.trans ?_, by omega, fun k hk => hy k (by omega) hk⟩
      show lp_X2_canAdd_2 u _ _ (m + 1) (nI 12) = _
      simp only [lp_X2_canAdd_2, c_le 12 12 (by decide), if_true, n1, c_ge 12 12 (show n < 12 by omega) (by decide), if_false]
  · exact Or.inr ⟨h1, Or.inr h2⟩
theorem isRep_m {n : Nat} (hn : n ≤ 12) (n2 : mI_incidents v = nI n) (z : Int32) : (g_X10_isReportedAt v z = some 0 ∧ ∀ k : Nat, k < n → ¬ (mI_placed v k = z ∧ ¬ mI_state v k = 2)) ∨ (g_X10_isReportedAt v z = some 1 ∧ ∃ k : Nat, k < n ∧ mI_placed v k = z ∧ ¬ mI_state v k = 2) := by
  obtain ⟨m, y, ⟨x, hx, rfl⟩, h1⟩ := lpF (fun m (y : Int32 × Int32) => lp_X10_isReportedAt_4 v z (fun (x2_4 : Int32) => g_bo x2_4 (some x2_4)) m y.1 y.2) n (by omega) (fun i y => ∃ x : Int32, ((x = 0 ∧ ∀ k : Nat, k < i → ¬ (mI_placed v k = z ∧ ¬ mI_state v k = 2)) ∨ (x = 1 ∧ ∃ k : Nat, k < n ∧ mI_placed v k = z ∧ ¬ mI_state v k = 2)) ∧ y = (x, nI i)) (by
    rintro m i y hi ⟨x, hx, rfl⟩
    have c' := eq_false (nI_ge hi (show n < 2 ^ 31 by omega))
    rcases hx with ⟨rfl, hx⟩ | ⟨rfl, hx⟩
    · by_cases p : mI_placed v i = z
      · by_cases w : mI_state v i = 2
        · refine ⟨(0, nI (i + 1)), ⟨0, Or.inl ⟨rfl, fun k hk => ?_⟩, rfl⟩, ?_⟩
          · by_cases e : k = i
            · rw [e]
              exact fun q => q.2 w
            · exact hx k (by omega)
          · show lp_X10_isReportedAt_4 v _ _ (m + 1) 0 (nI i) = lp_X10_isReportedAt_4 v _ _ m _ _
            simp only [lp_X10_isReportedAt_4, n2, c', if_false, pz_let, z00, if_true, pz_inN (show i < 12 by omega) (show 12 < 2 ^ 31 by decide), cl_I (show i < 2 ^ 31 by omega), eq_true p, eq_true w, nI_1]
        · refine ⟨(1, nI (i + 1)), ⟨1, Or.inr ⟨rfl, i, hi, p, w⟩, rfl⟩, ?_⟩
          show lp_X10_isReportedAt_4 v _ _ (m + 1) 0 (nI i) = lp_X10_isReportedAt_4 v _ _ m _ _
          simp only [lp_X10_isReportedAt_4, n2, c', if_false, pz_let, z00, if_true, pz_inN (show i < 12 by omega) (show 12 < 2 ^ 31 by decide), cl_I (show i < 2 ^ 31 by omega), eq_true p, eq_false w, nI_1]
      · refine ⟨(0, nI (i + 1)), ⟨0, Or.inl ⟨rfl, fun k hk => ?_⟩, rfl⟩, ?_⟩
        · by_cases e : k = i
          · rw [e]
            exact fun q => p q.1
          · exact hx k (by omega)
        · show lp_X10_isReportedAt_4 v _ _ (m + 1) 0 (nI i) = lp_X10_isReportedAt_4 v _ _ m _ _
          simp only [lp_X10_isReportedAt_4, n2, c', if_false, pz_let, z00, if_true, pz_inN (show i < 12 by omega) (show 12 < 2 ^ 31 by decide), cl_I (show i < 2 ^ 31 by omega), eq_false p, nI_1]
    · refine ⟨(1, nI (i + 1)), ⟨1, Or.inr ⟨rfl, hx⟩, rfl⟩, ?_⟩
      show lp_X10_isReportedAt_4 v _ _ (m + 1) 1 (nI i) = lp_X10_isReportedAt_4 v _ _ m _ _
      simp only [lp_X10_isReportedAt_4, n2, c', if_false, pz_let, z10, nI_1]) (0, 0) ⟨0, Or.inl ⟨rfl, fun k hk => absurd hk (Nat.not_lt_zero k)⟩, rfl⟩
  have e2 : lp_X10_isReportedAt_4 v z (fun (x2_4 : Int32) => g_bo x2_4 (some x2_4)) (m + 1) x (nI n) = g_bo x (some x) := by
    simp only [lp_X10_isReportedAt_4, n2, eq_true (nI_le (Nat.le_refl n) (show n < 2 ^ 31 by omega)), if_true]
  rcases hx with ⟨rfl, hx⟩ | ⟨rfl, hx⟩
  · exact Or.inl ⟨(h1.trans e2).trans (pz_bo0 _), hx⟩
  · exact Or.inr ⟨(h1.trans e2).trans (pz_bo1 _), hx⟩
theorem sim_report (h : Rel u v) (p q : Int32) : SI Rel (g_X9_report u p q) (g_X10_report v p q) [("java/lang/IndexOutOfBoundsException", 1), ("java/lang/IllegalStateException", 2)] := by
  obtain ⟨hM, hT, hD, hS, hO, hH, hI, hP, hB, hK⟩ := id h
  obtain ⟨n, hn, n1, n2, pl, hw, hpl, ha, hb⟩ := id hI
  rcases plcc u p q with ⟨e1, e2⟩ | ⟨s, l, hs, hl, rfl, rfl, e1, e2⟩
  · exact SI_no "java/lang/IndexOutOfBoundsException" 1 0 (v' := m_thrown_set v 1) es1 (by simp only [g_X9_report, e1, pz_xr, id]) (by simp only [g_X10_report, e2, pz_bind, pz_let, z00, if_true, pz_h1]) rfl h
  · have hk : 4 * s + l < 48 := by omega
    have lz : (0 < nI l) = ¬ (nI l = 0) := propext (by
      rw [show (0 : Int32) = nI 0 from rfl, nI_ltI (by decide) (by omega), nI_eq (by omega) (by decide)]
      omega)
    have n12 : (nI n = (12 : Int32)) = (n = 12) := propext (nI_eq (b := 12) (by omega) (by decide))
    have no : ∀ (c1 : g_X9_report u (nI s) (nI l) = some (.inr "java/lang/IllegalStateException", u)) (c2 : g_X10_report v (nI s) (nI l) = some (0, m_thrown_set v 2)), SI Rel (g_X9_report u (nI s) (nI l)) (g_X10_report v (nI s) (nI l)) [("java/lang/IndexOutOfBoundsException", 1), ("java/lang/IllegalStateException", 2)] := fun c1 c2 => SI_no "java/lang/IllegalStateException" 2 0 (v' := m_thrown_set v 2) es2 c1 c2 rfl h
    have st : ∀ (A B : Option (g_X × GS)), (¬ (nI s = 0 ∧ ¬ nI l = 0)) → (if nI s = 0 then (if nI l = 0 then A else B) else A) = A := fun A B c => by
      by_cases c1 : nI s = 0
      · rw [if_pos c1, if_pos (Classical.byContradiction fun c2 => c ⟨c1, c2⟩)]
      · rw [if_neg c1]
    have sm : ∀ (A B : Option (Int32 × MS)), (¬ (nI s = 0 ∧ ¬ nI l = 0)) → (if nI s = 0 then (if ¬ (nI l = 0) then B else A) else A) = A := fun A B c => by
      by_cases c1 : nI s = 0
      · rw [if_pos c1, if_neg (fun c2 => c ⟨c1, c2⟩)]
      · rw [if_neg c1]
    by_cases c : nI s = 0 ∧ ¬ nI l = 0
    · refine no ?_ ?_
      · simp only [g_X9_report, e1, pz_xl, pz_xr, id, placeN, pz_bind, pz_let, eq_true c.1, eq_false c.2, if_true, if_false, pz_ns]
      · by_cases c3 : n = 12
        · simp only [g_X10_report, e2, pz_bind, pz_let, z10, z00, if_false, n2, n12, eq_true c3, if_true, pz_h2]
        · simp only [g_X10_report, e2, pz_bind, pz_let, z10, z00, if_false, n2, n12, eq_false c3, lz, eq_true c.1, eq_false c.2, not_false_eq_true, if_true, pz_h2]
    · rcases canAdd_c hn n1 (nI (4 * s + l)) with ⟨g1, hn2, G1⟩ | ⟨g1, G1⟩
      · rcases isRep_m hn n2 (nI (4 * s + l)) with ⟨g2, -⟩ | ⟨-, k, k1, k2, k3⟩
        · have i1 : g_X9_isWithin (nI n) 0 11 = some 1 := isw (k := n) (a := 0) (b := 11) _ rfl (Nat.zero_le n) (by omega) (by decide) _ _
          have a1 : ∀ {α : Type} (a : Option α), g_in (nI n) 12 a = a := fun a => pz_inN hn2 (by decide) a
          have c1 := cl_I (show n < 2 ^ 31 by omega)
          have x1 : ∀ (w : GS) f, cI_count (cI_places_set w f) = cI_count w := fun _ _ => rfl
          have x2 : ∀ (w : GS) f, cI_count (cI_how_set w f) = cI_count w := fun _ _ => rfl
          have x3 : ∀ (w : GS) f, cI_count (cI_patrols_set w f) = cI_count w := fun _ _ => rfl
          have x4 : ∀ (w : GS) f, cI_count (cI_count_set w f) = f := fun _ _ => rfl
          have y1 : ∀ (w : MS) f, mI_incidents (mI_placed_set w f) = mI_incidents w := fun _ _ => rfl
          have y2 : ∀ (w : MS) f, mI_incidents (mI_state_set w f) = mI_incidents w := fun _ _ => rfl
          have y3 : ∀ (w : MS) f, mI_incidents (mI_incidents_set w f) = f := fun _ _ => rfl
          have y4 : mI_incidents (m_thrown_set v 0) = nI n := n2
          refine SI_ok (nI n) (u' := cI_count_set (cI_patrols_set (cI_how_set (cI_places_set u (upd (cI_places u) n (nI (4 * s + l)))) (upd (cI_how u) n 0)) (upd (cI_patrols u) n (-1))) (nI (n + 1))) (v' := mI_incidents_set (mI_state_set (mI_placed_set (m_thrown_set v 0) (upd (mI_placed v) n (nI (4 * s + l)))) (upd (mI_state v) n 0)) (nI (n + 1))) ?_ ?_ rfl ⟨hM, hT, hD, hS, hO, hH, ⟨n + 1, by omega, rfl, rfl, congrArg (fun t => upd t n (nI (4 * s + l))) pl, congrArg (fun t => upd t n 0) hw, ?_, ?_, ?_⟩, hP, hB, hK⟩
          · have w1 : ∀ f, cI_how (cI_places_set u f) = cI_how u := fun _ => rfl
            have w2 : ∀ f g, cI_patrols (cI_how_set (cI_places_set u f) g) = cI_patrols u := fun _ _ => rfl
            have add : g_X2_add u (nI (4 * s + l)) = some (nI n, cI_count_set (cI_patrols_set (cI_how_set (cI_places_set u (upd (cI_places u) n (nI (4 * s + l)))) (upd (cI_how u) n 0)) (upd (cI_patrols u) n (-1))) (nI (n + 1))) := by
              simp only [g_X2_add, n1, i1, pz_bind, z10, if_false, pz_let, x1, x2, x3, x4, a1, c1, nI_1, nI_pred, w1, w2]
            simp only [g_X9_report, e1, pz_xl, placeN, pz_bind, pz_let, st _ _ c, pz_ns1, g1, add]
          · have w1 : ∀ f, mI_state (mI_placed_set (m_thrown_set v 0) f) = mI_state v := fun _ => rfl
            have w2 : mI_placed (m_thrown_set v 0) = mI_placed v := rfl
            simp only [g_X10_report, e2, pz_bind, pz_let, z10, z00, if_false, if_true, n2, n12, eq_false (show ¬ n = 12 by omega), mpl, g2, lz, sm _ _ c, pz_h0, y1, y2, y3, y4, a1, c1, nI_1, nI_pred, w1, w2]
          · intro k hk
            show ∃ q : Nat, q < 48 ∧ upd (cI_places u) n (nI (4 * s + l)) k = nI q
            by_cases e : k = n
            · rw [e, pk_us]
              exact ⟨_, by assumption, rfl⟩
            · rw [pk_un e]
              exact hpl k (by omega)
          · intro j hj
            show mP_sentTo v j = -1 ∨ ∃ k : Nat, k < n + 1 ∧ mP_sentTo v j = nI k ∧ upd (cI_patrols u) n (-1) k = nI j
            rcases ha j hj with e | ⟨k, k1, k2, k3⟩
            · exact Or.inl e
            · exact Or.inr ⟨k, by omega, k2, by rw [pk_un (by omega)]; exact k3⟩
          · intro k hk
            show upd (cI_patrols u) n (-1) k = -1 ∨ ∃ j : Nat, j < 3 ∧ upd (cI_patrols u) n (-1) k = nI j ∧ mP_sentTo v j = nI k
            by_cases e : k = n
            · rw [e, pk_us]
              exact Or.inl rfl
            · rw [pk_un e]
              exact hb k (by omega)
        · exact absurd ⟨by rw [pl]; exact k2, by rw [hw]; exact k3⟩ (G1 k k1)
      · refine no ?_ ?_
        · simp only [g_X9_report, e1, pz_xl, pz_xr, id, placeN, pz_bind, pz_let, st _ _ c, pz_ns1, pz_ns, g1]
        · by_cases c3 : n = 12
          · simp only [g_X10_report, e2, pz_bind, pz_let, z10, z00, if_false, n2, n12, eq_true c3, if_true, pz_h2]
          · rcases isRep_m hn n2 (nI (4 * s + l)) with ⟨-, G2⟩ | ⟨g2, -⟩
            · obtain ⟨k, k1, k2, k3⟩ := G1.resolve_left c3
              exact absurd ⟨by rw [← pl]; exact k2, by rw [← hw]; exact k3⟩ (G2 k k1)
            · simp only [g_X10_report, e2, pz_bind, pz_let, z10, z00, if_false, if_true, n2, n12, eq_false c3, mpl, g2, lz, sm _ _ c, pz_h2]
/-- the minutes through a section, in both -/
theorem through (hT : RT u v) (hH : RH u v) {k : Nat} (hk : k < 12) : ∃ x : Nat, x ≤ 5 ∧ g_X9_minutesThrough u (nI k) = some (nI x) ∧ ((mH_isOpen v k = 0 ∧ x = 1) ∨ (¬ mH_isOpen v k = 0 ∧ ∃ m : Nat, m ≤ 20 ∧ g_X10_mostOf v (nI k) = some (nI m) ∧ x = 1 + m / 5)) := by
  have i1 : g_X9_isWithin (nI k) 0 11 = some 1 := isw (k := k) (a := 0) (b := 11) _ rfl (Nat.zero_le k) (by omega) (by decide) _ _
  by_cases c : cH_open u k = 0
  · refine ⟨1, by omega, ?_, Or.inl ⟨by rw [← hH.1]; exact c, rfl⟩⟩
    simp only [g_X9_minutesThrough, g_X6_isOpenAt, i1, pz_bind, z10, if_false, pz_inN hk (show 12 < 2 ^ 31 by decide), cl_I (show k < 2 ^ 31 by omega), eq_true c, if_true]
    rfl
  · obtain ⟨m, hm, e1, e2⟩ := most hT hk
    refine ⟨1 + m / 5, by omega, ?_, Or.inr ⟨by rw [← hH.1]; exact c, m, hm, e2, rfl⟩⟩
    simp only [g_X9_minutesThrough, g_X6_isOpenAt, i1, pz_bind, z10, if_false, pz_inN hk (show 12 < 2 ^ 31 by decide), cl_I (show k < 2 ^ 31 by omega), eq_false c, e1]
    rw [show nI m / (5 : Int32) = nI (m / 5) from pk_div (d := 5) (by omega) (by omega) (by omega)]
    exact congrArg some (nI_add 1 (m / 5))
theorem way (hT : RT u v) (hH : RH u v) {a t : Nat} (ha : a < 12) (ht : t < 12) : ∃ x : Nat, x ≤ 100 ∧ g_X9_wayBetween u (nI a) (nI t) = some (nI x) ∧ ∀ j : Nat, j < 3 → mP_at v j = nI a → g_X10_wayOf v (nI j) (nI t) = some (nI x) := by
  have q1 : nI a + 1 = nI (a + 1) := nI_1 a
  have i3 : ∀ {j : Nat}, j < 3 → ∀ {α : Type} (z : Option α), g_in (nI j) 3 z = z := fun hj _ z => pz_inN hj (by decide) z
  by_cases c : a < t
  · have c1 := eq_true (nI_lt c (show t < 2 ^ 31 by omega))
    have c2 := eq_true (nI_le (Nat.le_of_lt c) (show t < 2 ^ 31 by omega))
    obtain ⟨n, z, y, ⟨x, hx, rfl, rfl⟩, h1, h2⟩ := lpR (fun n (z : Int32 × Int32) => lp_X9_wayBetween_18 u (nI t) (fun x => some x) n z.1 z.2) (fun n (z : Int32 × Int32) => lp_X10_wayOf_35 v (nI t) (fun x => some x) n z.1 z.2) (t - a) (by omega) (fun i z y => ∃ x : Nat, x ≤ 5 * i ∧ z = (nI x, nI (a + 1 + i)) ∧ y = (nI x, nI (a + 1 + i))) (by
      rintro n i z y hi ⟨x, hx, rfl, rfl⟩
      obtain ⟨m, hm, e1, e2⟩ := through hT hH (show a + 1 + i < 12 by omega)
      have lt : ¬ nI t < nI (a + 1 + i) := nI_nlt (by omega) (by omega)
      have q2 : nI (a + 1 + i) + 1 = nI (a + 1 + (i + 1)) := nI_1 (a + 1 + i)
      refine ⟨(nI (x + m), nI (a + 1 + (i + 1))), (nI (x + m), nI (a + 1 + (i + 1))), ⟨x + m, by omega, rfl, rfl⟩, ?_, ?_⟩
      · show lp_X9_wayBetween_18 u _ _ (n + 1) (nI x) (nI (a + 1 + i)) = lp_X9_wayBetween_18 u _ _ n _ _
        simp only [lp_X9_wayBetween_18, eq_false lt, if_false, e1, pz_bind, pz_let, nI_add, q2]
      · show lp_X10_wayOf_35 v _ _ (n + 1) (nI x) (nI (a + 1 + i)) = lp_X10_wayOf_35 v _ _ n _ _
        rcases e2 with ⟨o, rfl⟩ | ⟨o, w, hw, e3, rfl⟩
        · simp only [lp_X10_wayOf_35, eq_false lt, if_false, pz_let, pz_inN (show a + 1 + i < 12 by omega) (show 12 < 2 ^ 31 by decide), cl_I (show a + 1 + i < 2 ^ 31 by omega), eq_true o, if_true, nI_1, q2] <;> rfl
        · have q3 : (1 : Int32) + nI w / (5 : Int32) = nI (1 + w / 5) := by
            rw [show nI w / (5 : Int32) = nI (w / 5) from pk_div (d := 5) (by omega) (by omega) (by omega)]
            exact nI_add 1 (w / 5)
          simp only [lp_X10_wayOf_35, eq_false lt, if_false, pz_let, pz_inN (show a + 1 + i < 12 by omega) (show 12 < 2 ^ 31 by decide), cl_I (show a + 1 + i < 2 ^ 31 by omega), eq_false o, e3, pz_bind, q3, nI_add, q2]) (0, nI (a + 1)) (0, nI (a + 1)) ⟨0, by omega, rfl, rfl⟩
    have gt : nI t < nI (a + 1 + (t - a)) := nI_lt (by omega) (by omega)
    refine ⟨x, by omega, ?_, fun j hj ej => ?_⟩
    · rw [g_X9_wayBetween, if_pos (nI_lt c (by omega)), pz_let, q1]
      refine h1.trans ?_
      show lp_X9_wayBetween_18 u _ _ (n + 1) _ _ = _
      simp only [lp_X9_wayBetween_18, eq_true gt, if_true]
    · simp only [g_X10_wayOf, i3 hj, pz_let, cl_I (show j < 2 ^ 31 by omega), ej, c2, if_true, q1]
      refine h2.trans ?_
      show lp_X10_wayOf_35 v _ _ (n + 1) _ _ = _
      simp only [lp_X10_wayOf_35, eq_true gt, if_true]
  · have q3 : (3 : Int32) * (nI a - nI t) = nI (3 * (a - t)) := by
      rw [pk_sub (by omega)]
      exact pk_mul 3 (a - t)
    refine ⟨3 * (a - t), by omega, ?_, fun j hj ej => ?_⟩
    · rw [g_X9_wayBetween, if_neg (nI_nlt (by omega) (by omega)), q3]
    · have gt : nI t < nI (a + 1) := nI_lt (by omega) (by omega)
      have fin : ∀ z : Int32, lp_X10_wayOf_35 v (nI t) (fun x => some x) FU z (nI (a + 1)) = some z := fun z => by
        have : ∀ n : Nat, lp_X10_wayOf_35 v (nI t) (fun x => some x) (n + 1) z (nI (a + 1)) = some z := fun n => by
          simp only [lp_X10_wayOf_35, eq_true gt, if_true]
        exact this 999
      by_cases c3 : a = t
      · have c2 := eq_true (nI_le (show a ≤ t by omega) (show t < 2 ^ 31 by omega))
        simp only [g_X10_wayOf, i3 hj, pz_let, cl_I (show j < 2 ^ 31 by omega), ej, c2, if_true, q1, fin]
        rw [c3, Nat.sub_self]
        rfl
      · have c2 := eq_false (nI_ge (show t < a by omega) (show a < 2 ^ 31 by omega))
        simp only [g_X10_wayOf, i3 hj, pz_let, cl_I (show j < 2 ^ 31 by omega), ej, c2, if_false, q1, fin, q3]
theorem sim_way (h : Rel u v) (p q : Int32) : SI Rel (g_X9_way u p q) (g_X10_way v p q) [("java/lang/IndexOutOfBoundsException", 1)] := by
  obtain ⟨hM, hT, hD, hS, hO, hH, hI, hP, hB, hK⟩ := id h
  rcases patc u p with ⟨e1, e2⟩ | ⟨j, hj, rfl, e1, e2⟩
  · exact SI_no "java/lang/IndexOutOfBoundsException" 1 0 (v' := m_thrown_set v 1) es1 (by simp only [g_X9_way, e1, pz_xr, id]) (by simp only [g_X10_way, e2, pz_bind, pz_let, z00, if_true, pz_h1]) rfl h
  · rcases secc u q with ⟨f1, f2⟩ | ⟨t, ht, rfl, f1, f2⟩
    · exact SI_no "java/lang/IndexOutOfBoundsException" 1 0 (v' := m_thrown_set v 1) es1 (by simp only [g_X9_way, e1, f1, pz_xl, pz_xr, id]) (by simp only [g_X10_way, e2, f2, pz_bind, pz_let, z00, z10, if_true, if_false, pz_h1]) rfl h
    · obtain ⟨a, ha, ea⟩ := hP.2.1 j hj
      obtain ⟨x, hx, x1, x2⟩ := way (v := m_thrown_set v 0) hT hH ha ht
      have x3 := x2 j hj (by rw [show mP_at (m_thrown_set v 0) = cP_sections u from hP.at']; exact ea)
      refine SI_ok (u' := u) (v' := m_thrown_set v 0) (nI x) ?_ ?_ rfl h
      · simp only [g_X9_way, e1, f1, pz_xl, pz_inN hj (show 3 < 2 ^ 31 by decide), cl_I (show j < 2 ^ 31 by omega), ea, x1, pz_bind]
      · simp only [g_X10_way, e2, f2, pz_bind, pz_let, z10, if_false, pz_h0, x3]
theorem sim_send (h : Rel u v) (p q : Int32) : SI Rel (g_X9_send u p q) (g_X10_send v p q) [("java/lang/IndexOutOfBoundsException", 1), ("java/lang/IllegalStateException", 2)] := by
  obtain ⟨hM, hT, hD, hS, hO, hH, hI, hP, hB, hK⟩ := id h
  obtain ⟨n, hn, n1, n2, pl, hw, hpl, ha, hb⟩ := id hI
  rcases patc u p with ⟨e1, e2⟩ | ⟨j, hj, rfl, e1, e2⟩
  · exact SI_no "java/lang/IndexOutOfBoundsException" 1 0 (v' := m_thrown_set v 1) es1 (by simp only [g_X9_send, e1, pz_xr, id]) (by simp only [g_X10_send, e2, pz_bind, pz_let, z00, if_true, pz_h1]) rfl h
  · rcases incc hn n1 n2 q with ⟨f1, f2⟩ | ⟨k, hk, rfl, f1, f2⟩
    · exact SI_no "java/lang/IndexOutOfBoundsException" 1 0 (v' := m_thrown_set v 1) es1 (by simp only [g_X9_send, e1, f1, pz_bind, pz_ni, pz_xl, pz_xr, id]) (by simp only [g_X10_send, e2, f2, pz_bind, pz_let, z00, z10, if_true, if_false, pz_h1]) rfl h
    · have a3 : ∀ {α : Type} (z : Option α), g_in (nI j) 3 z = z := fun z => pz_inN hj (by decide) z
      have a12 : ∀ {α : Type} (z : Option α), g_in (nI k) 12 z = z := fun z => pz_inN (by omega) (by decide) z
      have cj := cl_I (show j < 2 ^ 31 by omega)
      have ck := cl_I (show k < 2 ^ 31 by omega)
      have po := patOf hn ha hb hk
      have m1 : mP_sentTo v = cP_incidents u := hP.sent
      have m2 : mI_state v = cI_how u := hw.symm
      have no : ∀ (c1 : g_X9_send u (nI j) (nI k) = some (.inr "java/lang/IllegalStateException", u)) (c2 : g_X10_send v (nI j) (nI k) = some (0, m_thrown_set v 2)), SI Rel (g_X9_send u (nI j) (nI k)) (g_X10_send v (nI j) (nI k)) [("java/lang/IndexOutOfBoundsException", 1), ("java/lang/IllegalStateException", 2)] := fun c1 c2 => SI_no "java/lang/IllegalStateException" 2 0 (v' := m_thrown_set v 2) es2 c1 c2 rfl h
      by_cases c1 : cP_incidents u j = -1
      · by_cases c2 : cI_how u k = 1
        · by_cases c3 : cI_patrols u k = -1
          · obtain ⟨a, haa, ea⟩ := hP.2.1 j hj
            obtain ⟨x, hx, ex⟩ := hpl k hk
            obtain ⟨w, hw2, w1, w2⟩ := way (v := mP_sentTo_set (m_thrown_set v 0) (upd (mP_sentTo v) j (nI k))) hT hH haa (show x / 4 < 12 by omega)
            have w3 := w2 j hj (by rw [show mP_at (mP_sentTo_set (m_thrown_set v 0) (upd (mP_sentTo v) j (nI k))) = cP_sections u from hP.at']; exact ea)
            have x4 : nI x / (4 : Int32) = nI (x / 4) := pk_div (d := 4) (by omega) (by omega) (by omega)
            have l1 : ∀ (w : GS) f, cP_minutesLeft (cP_minutesLeft_set w f) = f := fun _ _ => rfl
            have l2 : ∀ f, cP_incidents (cI_patrols_set u f) = cP_incidents u := fun _ => rfl
            have l3 : ∀ f g, cP_minutesLeft (cP_incidents_set (cI_patrols_set u f) g) = cP_minutesLeft u := fun _ _ => rfl
            have r1 : ∀ (w : MS) f, mP_left (mP_left_set w f) = f := fun _ _ => rfl
            have r2 : mP_sentTo (m_thrown_set v 0) = mP_sentTo v := rfl
            have r3 : ∀ f, mI_placed (mP_sentTo_set (m_thrown_set v 0) f) = cI_places u := fun _ => pl.symm
            have r4 : ∀ f, mP_left (mP_sentTo_set (m_thrown_set v 0) f) = mP_left v := fun _ => rfl
            have w5 : nI w + 5 = nI (w + 5) := nI_add w 5
            refine SI_ok (nI (w + 5)) (u' := cP_minutesLeft_set (cP_incidents_set (cI_patrols_set u (upd (cI_patrols u) k (nI j))) (upd (cP_incidents u) j (nI k))) (upd (cP_minutesLeft u) j (nI (w + 5)))) (v' := mP_left_set (mP_sentTo_set (m_thrown_set v 0) (upd (mP_sentTo v) j (nI k))) (upd (mP_left v) j (nI (w + 5)))) ?_ ?_ rfl ⟨hM, hT, hD, hS, hO, hH, ⟨n, hn, n1, n2, pl, hw, hpl, ?_, ?_⟩, ⟨congrArg (fun t : cP_t => (t.1, upd t.2.1 j (nI k), upd t.2.2 j (nI (w + 5)))) hP.1, hP.2.1, ?_⟩, hB, hK⟩
            · simp only [g_X9_send, e1, f1, pz_bind, pz_ni1, pz_xl, a3, a12, cj, ck, pz_let, eq_true c1, eq_true c2, eq_true c3, if_true, pz_ns1, secOf hn n1 hk hx ex, ea, w1, l1, l2, l3, w5, pk_us]
            · simp only [g_X10_send, e2, f2, pz_bind, pz_let, z10, z00, if_false, if_true, a3, a12, cj, ck, m1, m2, eq_true c1, eq_true c2, po, eq_true c3, pz_h0, r2]
              rw [← m1]
              simp only [r3, ex, x4, w3, pz_bind, r1, r4, w5, pk_us]
            · intro j' hj'
              show upd (mP_sentTo v) j (nI k) j' = -1 ∨ ∃ k' : Nat, k' < n ∧ upd (mP_sentTo v) j (nI k) j' = nI k' ∧ upd (cI_patrols u) k (nI j) k' = nI j'
              by_cases e : j' = j
              · rw [e, pk_us]
                exact Or.inr ⟨k, hk, rfl, pk_us⟩
              · rw [pk_un e]
                rcases ha j' hj' with z | ⟨k', y1, y2, y3⟩
                · exact Or.inl z
                · refine Or.inr ⟨k', y1, y2, ?_⟩
                  rw [pk_un (fun e2 => by
                    rw [e2, c3] at y3
                    exact nm1 j' (by omega) y3.symm)]
                  exact y3
            · intro k' hk'
              show upd (cI_patrols u) k (nI j) k' = -1 ∨ ∃ j' : Nat, j' < 3 ∧ upd (cI_patrols u) k (nI j) k' = nI j' ∧ upd (mP_sentTo v) j (nI k) j' = nI k'
              by_cases e : k' = k
              · rw [e, pk_us]
                exact Or.inr ⟨j, hj, rfl, pk_us⟩
              · rw [pk_un e]
                rcases hb k' hk' with z | ⟨j', y1, y2, y3⟩
                · exact Or.inl z
                · refine Or.inr ⟨j', y1, y2, ?_⟩
                  rw [pk_un (fun e2 => by
                    rw [e2, m1, c1] at y3
                    exact nm1 k' (by omega) y3.symm)]
                  exact y3
            · intro j' hj'
              show (upd (cP_incidents u) j (nI k) j' = -1 ∧ upd (cP_minutesLeft u) j (nI (w + 5)) j' = 0) ∨ (¬ upd (cP_incidents u) j (nI k) j' = -1 ∧ ∃ x : Nat, 1 ≤ x ∧ x ≤ 1000 ∧ upd (cP_minutesLeft u) j (nI (w + 5)) j' = nI x)
              by_cases e : j' = j
              · rw [e, pk_us, pk_us]
                exact Or.inr ⟨nm1 k (by omega), w + 5, by omega, by omega, rfl⟩
              · rw [pk_un e, pk_un e]
                exact hP.2.2 j' hj'
          · refine no ?_ ?_
            · simp only [g_X9_send, e1, f1, pz_bind, pz_ni1, pz_xl, pz_xr, id, a3, a12, cj, ck, pz_let, eq_true c1, eq_true c2, eq_false c3, if_true, if_false, pz_ns1, pz_ns]
            · simp only [g_X10_send, e2, f2, pz_bind, pz_let, z10, z00, z20, if_false, if_true, a3, a12, cj, ck, m1, m2, eq_true c1, eq_true c2, po, eq_false c3, pz_h2]
        · refine no ?_ ?_
          · simp only [g_X9_send, e1, f1, pz_bind, pz_ni1, pz_xl, pz_xr, id, a3, a12, cj, ck, pz_let, eq_true c1, eq_false c2, if_true, if_false, pz_ns1, pz_ns]
          · simp only [g_X10_send, e2, f2, pz_bind, pz_let, z10, z00, z20, if_false, if_true, a3, a12, cj, ck, m1, m2, eq_true c1, eq_false c2, pz_h2]
      · refine no ?_ ?_
        · simp only [g_X9_send, e1, f1, pz_bind, pz_ni1, pz_xl, pz_xr, id, a3, a12, cj, ck, pz_let, eq_false c1, if_false, pz_ns]
        · simp only [g_X10_send, e2, f2, pz_bind, pz_let, z10, z00, z20, if_false, if_true, a3, a12, cj, ck, m1, eq_false c1, pz_h2]
end RELS7
end
section
theorem xor60 : ∀ t : Nat, t < 601 → 0 ≤ (nI t ^^^ (60 : Int32)) := by decide +kernel
theorem sub59 : ∀ t : Nat, t < 601 → (nI t - (60 : Int32)) + (1 : Int32) = nI t - nI 59 := by decide +kernel
theorem slotN {t s : Nat} (ht : t ≤ 600) : g_X5_slotOf (nI t) (nI s) = some (nI (12 * (t % 60) + s)) := by
  have r1 : nI t - nI t / (60 : Int32) * (60 : Int32) = nI (t % 60) := pk_rem (d := 60) (by omega) (by omega) (by omega)
  have f1 : g_J9_floorMod_7cf53 (nI t) 60 = some (nI (t % 60)) := by
    rw [g_J9_floorMod_7cf53, pz_nz (by decide), pz_let, r1, if_pos (xor60 t (by omega))]
  have e1 : nI (t % 60) * (12 : Int32) + nI s = nI (12 * (t % 60) + s) := by
    rw [show (12 : Int32) = nI 12 from rfl, pk_mul, nI_add, Nat.mul_comm]
  simp only [g_X5_slotOf, f1, pz_bind, e1]
theorem proofN {v : MS} {t s w : Nat} (ht : t ≤ 600) (hs : s < 12) (hw : w < 5) : g_X10_proofOf v (nI t) (nI s) (nI w) = some (mK_proofs v (60 * (t % 60) + 5 * s + w)) := by
  have r1 : nI t - nI t / (60 : Int32) * (60 : Int32) = nI (t % 60) := pk_rem (d := 60) (by omega) (by omega) (by omega)
  have e1 : (((60 : Int32) * nI (t % 60)) + ((5 : Int32) * nI s)) + nI w = nI (60 * (t % 60) + 5 * s + w) := by
    rw [show (60 : Int32) = nI 60 from rfl, show (5 : Int32) = nI 5 from rfl, pk_mul, pk_mul, nI_add, nI_add]
  simp only [g_X10_proofOf, r1, e1, pz_inN (show 60 * (t % 60) + 5 * s + w < 3600 by omega) (show 3600 < 2 ^ 31 by decide), cl_I (show 60 * (t % 60) + 5 * s + w < 2 ^ 31 by omega)]
section RELS8
variable {u : GS} {v : MS}
theorem kept (hM : RM u v) (p : Int32) (hp : ¬ p < 0) : (∃ m : Nat, m ≤ 600 ∧ p = nI m ∧ g_X5_isKept p (c_minute u) = some 1 ∧ g_X10_isKept v p = some 1) ∨ (g_X5_isKept p (c_minute u) = some 0 ∧ g_X10_isKept v p = some 0) := by
  obtain ⟨e, t, ht, e2⟩ := hM
  obtain ⟨m, hm, rfl⟩ := nI_of hp
  have s1 := sub59 t (by omega)
  by_cases c1 : t < m
  · refine Or.inr ⟨?_, ?_⟩
    · have i1 : g_X9_isWithin (nI m) (nI t - nI 59) (nI t) = some 0 := iw0 (fun z => z.2 (nI_lt c1 hm))
      simp only [g_X5_isKept, e2, s1, i1, pz_bind, pz_bo0]
    · rw [g_X10_isKept, ← e, e2, if_pos (nI_lt c1 hm)]
  · have l1 : ¬ nI t < nI m := nI_nlt (by omega) (by omega)
    have k1 : (nI m < nI t - nI 59) = (m + 59 < t) := propext (by
      rw [Int32.lt_iff_toInt_lt, pk_sub_toInt (by omega) (by omega), nI_toInt hm]
      omega)
    have k2 : (nI m ≤ nI t - (60 : Int32)) = (m + 60 ≤ t) := propext (by
      rw [show (60 : Int32) = nI 60 from rfl, Int32.le_iff_toInt_le, pk_sub_toInt (by omega) (by omega), nI_toInt hm]
      omega)
    by_cases c2 : m + 60 ≤ t
    · refine Or.inr ⟨?_, ?_⟩
      · have i1 : g_X9_isWithin (nI m) (nI t - nI 59) (nI t) = some 0 := iw0 (fun z => z.1 (by rw [k1]; omega))
        simp only [g_X5_isKept, e2, s1, i1, pz_bind, pz_bo0]
      · rw [g_X10_isKept, ← e, e2, if_neg l1, if_pos (k2.mpr c2)]
    · refine Or.inl ⟨m, by omega, rfl, ?_, ?_⟩
      · have i1 : g_X9_isWithin (nI m) (nI t - nI 59) (nI t) = some 1 := iw1 (by rw [k1]; omega) l1
        simp only [g_X5_isKept, e2, s1, i1, pz_bind, pz_bo1]
      · rw [g_X10_isKept, ← e, e2, if_neg l1, if_neg (fun z => c2 (k2.mp z))]
theorem spd_c (hK : RK u v) {m s : Nat} (hm : m ≤ 600) (hs : s < 12) : ∃ x : Nat, x ≤ 120 ∧ g_X5_speedSign u (nI m) (nI s) = some (nI x) ∧ mK_proofs v (60 * (m % 60) + 5 * s) = nI x := by
  obtain ⟨x, a, b, c, d, hx, ha, hb, hc, hd, p0, p1, p2, p3, p4, kp⟩ := hK (m % 60) s (by omega) hs
  refine ⟨x, hx, ?_, p0⟩
  have sh : nI (256 * x + 64 * d + 16 * c + 4 * b + a) >>> ((8 : Int32) &&& 31) = nI x := by
    rw [pk_shrN (by omega) _ 8 (by decide)]
    exact congrArg nI (by omega)
  simp only [g_X5_speedSign, slotN hm, pz_bind, pz_inN (show 12 * (m % 60) + s < 720 by omega) (show 720 < 2 ^ 31 by decide), cl_I (show 12 * (m % 60) + s < 2 ^ 31 by omega), kp, sh]
theorem lane_c (hK : RK u v) {m s w : Nat} (hm : m ≤ 600) (hs : s < 12) (hw : w < 4) : g_X5_laneSign u (nI m) (nI s) (nI w) = some (mK_proofs v (60 * (m % 60) + 5 * s + (w + 1))) := by
  obtain ⟨x, a, b, c, d, hx, ha, hb, hc, hd, p0, p1, p2, p3, p4, kp⟩ := hK (m % 60) s (by omega) hs
  have fin : ∀ z : Int32, (nI (256 * x + 64 * d + 16 * c + 4 * b + a) >>> (((2 : Int32) * nI w) &&& 31)) &&& (3 : Int32) = z → mK_proofs v (60 * (m % 60) + 5 * s + (w + 1)) = z → g_X5_laneSign u (nI m) (nI s) (nI w) = some (mK_proofs v (60 * (m % 60) + 5 * s + (w + 1))) := fun z h1 h2 => by
    rw [h2, ← h1]
    simp only [g_X5_laneSign, slotN hm, pz_bind, pz_inN (show 12 * (m % 60) + s < 720 by omega) (show 720 < 2 ^ 31 by decide), cl_I (show 12 * (m % 60) + s < 2 ^ 31 by omega), kp]
  have h4 : w = 0 ∨ w = 1 ∨ w = 2 ∨ w = 3 := by omega
  rcases h4 with rfl | rfl | rfl | rfl
  · refine fin (nI a) ?_ p1
    rw [pk_shrN (by omega) _ 0 (by decide), pk_andN (by omega) 2 (by decide)]
    exact congrArg nI (by omega)
  · refine fin (nI b) ?_ p2
    rw [pk_shrN (by omega) _ 2 (by decide), pk_andN (by omega) 2 (by decide)]
    exact congrArg nI (by omega)
  · refine fin (nI c) ?_ p3
    rw [pk_shrN (by omega) _ 4 (by decide), pk_andN (by omega) 2 (by decide)]
    exact congrArg nI (by omega)
  · refine fin (nI d) ?_ p4
    rw [pk_shrN (by omega) _ 6 (by decide), pk_andN (by omega) 2 (by decide)]
    exact congrArg nI (by omega)
theorem sim_proof (h : Rel u v) (p q r : Int32) : SI Rel (g_X9_proof u p q r) (g_X10_proof v p q r) [("java/lang/IndexOutOfBoundsException", 1), ("java/lang/IllegalArgumentException", 2), ("java/lang/IllegalStateException", 3)] := by
  obtain ⟨hM, hT, hD, hS, hO, hH, hI, hP, hB, hK⟩ := id h
  rcases secc u q with ⟨e1, e2⟩ | ⟨s, hs, rfl, e1, e2⟩
  · exact SI_no "java/lang/IndexOutOfBoundsException" 1 0 (v' := m_thrown_set v 1) es1 (by simp only [g_X9_proof, e1, pz_xr, id]) (by simp only [g_X10_proof, e2, pz_bind, pz_let, z00, if_true, pz_h1]) rfl h
  · by_cases p0 : p < 0
    · exact SI_no "java/lang/IllegalArgumentException" 2 0 (v' := m_thrown_set v 2) es2 (by simp only [g_X9_proof, e1, pz_xl, pz_let, eq_true p0, if_true, pz_na, pz_xr, id]) (by simp only [g_X10_proof, e2, pz_bind, pz_let, z10, z00, eq_true p0, if_true, if_false, pz_h2]) rfl h
    · rcases iwc r 0 4 with ⟨h1, h2, f1, f2⟩ | ⟨-, f1, f2⟩
      · rcases kept hM p p0 with ⟨m, hm, rfl, g1, g2⟩ | ⟨g1, g2⟩
        · obtain ⟨w, hw, rfl⟩ := ix_of 4 (n := 4) rfl (by decide) h1 h2
          have pr : g_X10_proofOf (m_thrown_set v 0) (nI m) (nI s) (nI w) = some (mK_proofs v (60 * (m % 60) + 5 * s + w)) := proofN (v := m_thrown_set v 0) hm hs (by omega)
          have mo : g_X10_proof v (nI m) (nI s) (nI w) = some (mK_proofs v (60 * (m % 60) + 5 * s + w), m_thrown_set v 0) := by
            simp only [g_X10_proof, e2, pz_bind, pz_let, z10, z00, eq_false p0, f2, g2, if_false, pz_h0, pr]
          refine SI_ok (u' := u) _ ?_ mo rfl h
          cases w with
          | zero =>
            obtain ⟨x, hx, x1, x2⟩ := spd_c hK hm hs
            simp only [g_X9_proof, e1, pz_xl, pz_let, eq_false p0, if_false, pz_na1, f1, pz_bind, g1, pz_ns1, eq_true (show nI 0 = 0 from rfl), if_true, x1, Nat.add_zero, x2]
          | succ n =>
            have sb : nI (n + 1) - 1 = nI n := nI_pred n
            have nz : (nI (n + 1) = 0) = False := eq_false (nI_ne0 (by omega) (by omega))
            simp only [g_X9_proof, e1, pz_xl, pz_let, eq_false p0, if_false, pz_na1, f1, pz_bind, g1, pz_ns1, nz, sb, lane_c hK hm hs (show n < 4 by omega)]
        · exact SI_no "java/lang/IllegalStateException" 3 0 (v' := m_thrown_set v 3) es3 (by simp only [g_X9_proof, e1, pz_xl, pz_let, eq_false p0, if_false, pz_na1, f1, pz_bind, g1, pz_ns, pz_xr, id]) (by simp only [g_X10_proof, e2, pz_bind, pz_let, z10, z00, eq_false p0, f2, g2, if_true, if_false, pz_h3]) rfl h
      · exact SI_no "java/lang/IllegalArgumentException" 2 0 (v' := m_thrown_set v 2) es2 (by simp only [g_X9_proof, e1, pz_xl, pz_let, eq_false p0, if_false, pz_na1, f1, pz_bind, pz_na, pz_xr, id]) (by simp only [g_X10_proof, e2, pz_bind, pz_let, z10, z00, eq_false p0, f2, if_true, if_false, pz_h2]) rfl h
theorem sim_isFined (h : Rel u v) (p q r : Int32) : SI Rel (g_X9_isFined u p q r) (g_X10_isFined v p q r) [("java/lang/IndexOutOfBoundsException", 1), ("java/lang/IllegalArgumentException", 2), ("java/lang/IllegalStateException", 3)] := by
  obtain ⟨hM, hT, hD, hS, hO, hH, hI, hP, hB, hK⟩ := id h
  rcases secc u q with ⟨e1, e2⟩ | ⟨s, hs, rfl, e1, e2⟩
  · exact SI_no "java/lang/IndexOutOfBoundsException" 1 0 (v' := m_thrown_set v 1) es1 (by simp only [g_X9_isFined, e1, pz_xr, id]) (by simp only [g_X10_isFined, e2, pz_bind, pz_let, z00, if_true, pz_h1]) rfl h
  · by_cases p0 : p < 0
    · exact SI_no "java/lang/IllegalArgumentException" 2 0 (v' := m_thrown_set v 2) es2 (by simp only [g_X9_isFined, e1, pz_xl, pz_let, eq_true p0, if_true, pz_na, pz_xr, id]) (by simp only [g_X10_isFined, e2, pz_bind, pz_let, z10, z00, eq_true p0, if_true, if_false, pz_h2]) rfl h
    · rcases iwc r 0 250 with ⟨h1, h2, f1, f2⟩ | ⟨-, f1, f2⟩
      · rcases kept hM p p0 with ⟨m, hm, rfl, g1, g2⟩ | ⟨g1, g2⟩
        · obtain ⟨w, hw, rfl⟩ := ix_of 250 (n := 250) rfl (by decide) h1 h2
          obtain ⟨x, hx, x1, x2⟩ := spd_c hK hm hs
          have pr : g_X10_proofOf (m_thrown_set v 0) (nI m) (nI s) 0 = some (nI x) := by
            have := proofN (v := m_thrown_set v 0) hm hs (show 0 < 5 by omega)
            rw [Nat.add_zero] at this
            exact this.trans (congrArg some x2)
          have k1 : (nI w - nI x < (10 : Int32)) = (w < x + 10) := propext (by
            rw [Int32.lt_iff_toInt_lt, pk_sub_toInt (by omega) (by omega), show (10 : Int32).toInt = 10 from by decide]
            omega)
          have k2 : (nI w < nI x + (10 : Int32)) = (w < x + 10) := propext (by
            rw [show (10 : Int32) = nI 10 from rfl, nI_add]
            exact nI_ltI (by omega) (by omega))
          by_cases c : w < x + 10
          · refine SI_ok (u' := u) (v' := m_thrown_set v 0) 0 ?_ ?_ rfl h
            · simp only [g_X9_isFined, e1, pz_xl, pz_let, eq_false p0, if_false, pz_na1, f1, pz_bind, g1, pz_ns1, x1, k1, eq_true c, if_true]
            · simp only [g_X10_isFined, e2, pz_bind, pz_let, z10, z00, eq_false p0, f2, g2, if_false, pz_h0, pr, k2, eq_true c, if_true]
          · refine SI_ok (u' := u) (v' := m_thrown_set v 0) 1 ?_ ?_ rfl h
            · simp only [g_X9_isFined, e1, pz_xl, pz_let, eq_false p0, if_false, pz_na1, f1, pz_bind, g1, pz_ns1, x1, k1, eq_false c]
            · simp only [g_X10_isFined, e2, pz_bind, pz_let, z10, z00, eq_false p0, f2, g2, if_false, pz_h0, pr, k2, eq_false c]
        · exact SI_no "java/lang/IllegalStateException" 3 0 (v' := m_thrown_set v 3) es3 (by simp only [g_X9_isFined, e1, pz_xl, pz_let, eq_false p0, if_false, pz_na1, f1, pz_bind, g1, pz_ns, pz_xr, id]) (by simp only [g_X10_isFined, e2, pz_bind, pz_let, z10, z00, eq_false p0, f2, g2, if_true, if_false, pz_h3]) rfl h
      · exact SI_no "java/lang/IllegalArgumentException" 2 0 (v' := m_thrown_set v 2) es2 (by simp only [g_X9_isFined, e1, pz_xl, pz_let, eq_false p0, if_false, pz_na1, f1, pz_bind, pz_na, pz_xr, id]) (by simp only [g_X10_isFined, e2, pz_bind, pz_let, z10, z00, eq_false p0, f2, if_true, if_false, pz_h2]) rfl h
end RELS8
end
section
/-! the lane signs -/
/-- works k take the lane l at the section s now -/
def wkC (v : MS) (s l k : Nat) : Prop := mB_worksLane v k = nI l ∧ (¬ nI s < mB_worksFrom v k ∧ ¬ mB_worksTo v k < nI s) ∧ ¬ m_now v < mB_worksBegin v k ∧ ¬ mB_worksEnd v k ≤ m_now v
def crV (v : MS) (p : Nat) : Prop := (∃ k : Nat, k < (mB_works v).toNatClampNeg ∧ wkC v (p / 4) (p % 4) k) ∨ (∃ k : Nat, k < (mI_incidents v).toNatClampNeg ∧ mI_placed v k = nI p ∧ mI_state v k = 1) ∨ (p % 4 = 0 ∧ mH_isOpen v (p / 4) = 0)
noncomputable def tdV (v : MS) (p : Nat) : Int32 := if mL_ordered v p = -1 then (@ite Int32 (crV v p) (Classical.propDecidable _) 2 0) else mL_ordered v p
noncomputable def sgV (v : MS) (p : Nat) : Int32 := if tdV v p = 0 ∧ p < 44 ∧ tdV v (p + 4) = 2 then 1 else tdV v p
theorem tdV_ord {v : MS} {p : Nat} (h : ¬ mL_ordered v p = -1) : tdV v p = mL_ordered v p := if_neg h
theorem tdV_cr {v : MS} {p : Nat} (h : mL_ordered v p = -1) (c : crV v p) : tdV v p = 2 := (if_pos h).trans (if_pos c)
theorem tdV_no {v : MS} {p : Nat} (h : mL_ordered v p = -1) (c : ¬ crV v p) : tdV v p = 0 := (if_pos h).trans (if_neg c)
section RELS9
variable {u : GS} {v : MS}
theorem on_m {k : Nat} (hk : k < 8) : g_X10_isOnNow v (nI k) = some (if ¬ m_now v < mB_worksBegin v k ∧ ¬ mB_worksEnd v k ≤ m_now v then 1 else 0) := by
  simp only [g_X10_isOnNow, pz_inN hk (show 8 < 2 ^ 31 by decide), cl_I (show k < 2 ^ 31 by omega)]
  by_cases c1 : m_now v < mB_worksBegin v k
  · rw [if_pos c1, if_neg (fun z => z.1 c1)]
  · by_cases c2 : mB_worksEnd v k ≤ m_now v
    · rw [if_neg c1, if_pos c2, if_neg (fun z => z.2 c2)]
    · rw [if_neg c1, if_neg c2, if_pos ⟨c1, c2⟩]
theorem works_m {w : Nat} (hw : w ≤ 8) (ew : mB_works v = nI w) (s l : Nat) : (g_X10_areWorksAt v (nI s) (nI l) = some 1 ∧ ∃ k : Nat, k < w ∧ wkC v s l k) ∨ (g_X10_areWorksAt v (nI s) (nI l) = some 0 ∧ ∀ k : Nat, k < w → ¬ wkC v s l k) := by
  obtain ⟨m, y, ⟨x, hx, rfl⟩, h1⟩ := lpF (fun m (y : Int32 × Int32) => lp_X10_areWorksAt_5 v (nI s) (nI l) (fun (x3_5 : Int32) => g_bo x3_5 (some x3_5)) m y.1 y.2) w (by omega) (fun i y => ∃ x : Int32, ((x = 0 ∧ ∀ k : Nat, k < i → ¬ wkC v s l k) ∨ (x = 1 ∧ ∃ k : Nat, k < w ∧ wkC v s l k)) ∧ y = (x, nI i)) (by
    rintro m i y hi ⟨x, hx, rfl⟩
    have c' := eq_false (nI_ge hi (show w < 2 ^ 31 by omega))
    have g8 : ∀ (a : Option Int32), g_in (nI i) 8 a = a := fun a => pz_inN (by omega) (by decide) a
    have ci := cl_I (show i < 2 ^ 31 by omega)
    rcases hx with ⟨rfl, hx⟩ | ⟨rfl, hx⟩
    · have nx : ¬ wkC v s l i → ∀ k : Nat, k < i + 1 → ¬ wkC v s l k := fun q k hk => by
        by_cases e : k = i
        · rw [e]
          exact q
        · exact hx k (by omega)
      by_cases p : mB_worksLane v i = nI l
      · rcases iwc (nI s) (mB_worksFrom v i) (mB_worksTo v i) with ⟨a1, a2, -, i1⟩ | ⟨a, -, i1⟩
        · by_cases o : ¬ m_now v < mB_worksBegin v i ∧ ¬ mB_worksEnd v i ≤ m_now v
          · refine ⟨(1, nI (i + 1)), ⟨1, Or.inr ⟨rfl, i, hi, p, ⟨a1, a2⟩, o⟩, rfl⟩, ?_⟩
            have o1 : g_X10_isOnNow v (nI i) = some 1 := (on_m (by omega)).trans (by rw [if_pos o])
            show lp_X10_areWorksAt_5 v _ _ _ (m + 1) 0 (nI i) = lp_X10_areWorksAt_5 v _ _ _ m _ _
            simp only [lp_X10_areWorksAt_5, ew, c', if_false, pz_let, z00, z10, if_true, g8, ci, eq_true p, i1, pz_bind, o1, nI_1]
          · refine ⟨(0, nI (i + 1)), ⟨0, Or.inl ⟨rfl, nx (fun q => o q.2.2)⟩, rfl⟩, ?_⟩
            have o1 : g_X10_isOnNow v (nI i) = some 0 := (on_m (by omega)).trans (by rw [if_neg o])
            show lp_X10_areWorksAt_5 v _ _ _ (m + 1) 0 (nI i) = lp_X10_areWorksAt_5 v _ _ _ m _ _
            simp only [lp_X10_areWorksAt_5, ew, c', if_false, pz_let, z00, z10, if_true, g8, ci, eq_true p, i1, pz_bind, o1, nI_1]
        · refine ⟨(0, nI (i + 1)), ⟨0, Or.inl ⟨rfl, nx (fun q => a q.2.1)⟩, rfl⟩, ?_⟩
          show lp_X10_areWorksAt_5 v _ _ _ (m + 1) 0 (nI i) = lp_X10_areWorksAt_5 v _ _ _ m _ _
          simp only [lp_X10_areWorksAt_5, ew, c', if_false, pz_let, z00, if_true, g8, ci, eq_true p, i1, pz_bind, nI_1]
      · refine ⟨(0, nI (i + 1)), ⟨0, Or.inl ⟨rfl, nx (fun q => p q.1)⟩, rfl⟩, ?_⟩
        show lp_X10_areWorksAt_5 v _ _ _ (m + 1) 0 (nI i) = lp_X10_areWorksAt_5 v _ _ _ m _ _
        simp only [lp_X10_areWorksAt_5, ew, c', if_false, pz_let, z00, if_true, g8, ci, eq_false p, nI_1]
    · refine ⟨(1, nI (i + 1)), ⟨1, Or.inr ⟨rfl, hx⟩, rfl⟩, ?_⟩
      show lp_X10_areWorksAt_5 v _ _ _ (m + 1) 1 (nI i) = lp_X10_areWorksAt_5 v _ _ _ m _ _
      simp only [lp_X10_areWorksAt_5, ew, c', if_false, pz_let, z10, nI_1]) (0, 0) ⟨0, Or.inl ⟨rfl, fun k hk => absurd hk (Nat.not_lt_zero k)⟩, rfl⟩
  have e2 : lp_X10_areWorksAt_5 v (nI s) (nI l) (fun (x3_5 : Int32) => g_bo x3_5 (some x3_5)) (m + 1) x (nI w) = g_bo x (some x) := by
    simp only [lp_X10_areWorksAt_5, ew, eq_true (nI_le (Nat.le_refl w) (show w < 2 ^ 31 by omega)), if_true]
  rcases hx with ⟨rfl, hx⟩ | ⟨rfl, hx⟩
  · exact Or.inr ⟨(h1.trans e2).trans (pz_bo0 _), hx⟩
  · exact Or.inl ⟨(h1.trans e2).trans (pz_bo1 _), hx⟩
theorem conf_m {n : Nat} (hn : n ≤ 12) (n2 : mI_incidents v = nI n) (z : Int32) : (g_X10_isConfirmedAt v z = some 0 ∧ ∀ k : Nat, k < n → ¬ (mI_placed v k = z ∧ mI_state v k = 1)) ∨ (g_X10_isConfirmedAt v z = some 1 ∧ ∃ k : Nat, k < n ∧ mI_placed v k = z ∧ mI_state v k = 1) := by
  obtain ⟨m, y, ⟨x, hx, rfl⟩, h1⟩ := lpF (fun m (y : Int32 × Int32) => lp_X10_isConfirmedAt_4 v z (fun (x2_4 : Int32) => g_bo x2_4 (some x2_4)) m y.1 y.2) n (by omega) (fun i y => ∃ x : Int32, ((x = 0 ∧ ∀ k : Nat, k < i → ¬ (mI_placed v k = z ∧ mI_state v k = 1)) ∨ (x = 1 ∧ ∃ k : Nat, k < n ∧ mI_placed v k = z ∧ mI_state v k = 1)) ∧ y = (x, nI i)) (by
    rintro m i y hi ⟨x, hx, rfl⟩
    have c' := eq_false (nI_ge hi (show n < 2 ^ 31 by omega))
    rcases hx with ⟨rfl, hx⟩ | ⟨rfl, hx⟩
    · have nx : ¬ (mI_placed v i = z ∧ mI_state v i = 1) → ∀ k : Nat, k < i + 1 → ¬ (mI_placed v k = z ∧ mI_state v k = 1) := fun q k hk => by
        by_cases e : k = i
        · rw [e]
          exact q
        · exact hx k (by omega)
      by_cases p : mI_placed v i = z
      · by_cases w : mI_state v i = 1
        · refine ⟨(1, nI (i + 1)), ⟨1, Or.inr ⟨rfl, i, hi, p, w⟩, rfl⟩, ?_⟩
          show lp_X10_isConfirmedAt_4 v _ _ (m + 1) 0 (nI i) = lp_X10_isConfirmedAt_4 v _ _ m _ _
          simp only [lp_X10_isConfirmedAt_4, n2, c', if_false, pz_let, z00, if_true, pz_inN (show i < 12 by omega) (show 12 < 2 ^ 31 by decide), cl_I (show i < 2 ^ 31 by omega), eq_true p, eq_true w, nI_1]
        · refine ⟨(0, nI (i + 1)), ⟨0, Or.inl ⟨rfl, nx (fun q => w q.2)⟩, rfl⟩, ?_⟩
          show lp_X10_isConfirmedAt_4 v _ _ (m + 1) 0 (nI i) = lp_X10_isConfirmedAt_4 v _ _ m _ _
          simp only [lp_X10_isConfirmedAt_4, n2, c', if_false, pz_let, z00, if_true, pz_inN (show i < 12 by omega) (show 12 < 2 ^ 31 by decide), cl_I (show i < 2 ^ 31 by omega), eq_true p, eq_false w, nI_1]
      · refine ⟨(0, nI (i + 1)), ⟨0, Or.inl ⟨rfl, nx (fun q => p q.1)⟩, rfl⟩, ?_⟩
        show lp_X10_isConfirmedAt_4 v _ _ (m + 1) 0 (nI i) = lp_X10_isConfirmedAt_4 v _ _ m _ _
        simp only [lp_X10_isConfirmedAt_4, n2, c', if_false, pz_let, z00, if_true, pz_inN (show i < 12 by omega) (show 12 < 2 ^ 31 by decide), cl_I (show i < 2 ^ 31 by omega), eq_false p, nI_1]
    · refine ⟨(1, nI (i + 1)), ⟨1, Or.inr ⟨rfl, hx⟩, rfl⟩, ?_⟩
      show lp_X10_isConfirmedAt_4 v _ _ (m + 1) 1 (nI i) = lp_X10_isConfirmedAt_4 v _ _ m _ _
      simp only [lp_X10_isConfirmedAt_4, n2, c', if_false, pz_let, z10, nI_1]) (0, 0) ⟨0, Or.inl ⟨rfl, fun k hk => absurd hk (Nat.not_lt_zero k)⟩, rfl⟩
  have e2 : lp_X10_isConfirmedAt_4 v z (fun (x2_4 : Int32) => g_bo x2_4 (some x2_4)) (m + 1) x (nI n) = g_bo x (some x) := by
    simp only [lp_X10_isConfirmedAt_4, n2, eq_true (nI_le (Nat.le_refl n) (show n < 2 ^ 31 by omega)), if_true]
  rcases hx with ⟨rfl, hx⟩ | ⟨rfl, hx⟩
  · exact Or.inl ⟨(h1.trans e2).trans (pz_bo0 _), hx⟩
  · exact Or.inr ⟨(h1.trans e2).trans (pz_bo1 _), hx⟩
/-- the counts are small -/
def smV (v : MS) : Prop := (∃ n : Nat, n ≤ 12 ∧ mI_incidents v = nI n) ∧ ∃ w : Nat, w ≤ 8 ∧ mB_works v = nI w
theorem told_m (hv : smV v) {s l : Nat} (hs : s < 12) (hl : l < 4) : g_X10_told v (nI s) (nI l) = some (tdV v (4 * s + l)) := by
  obtain ⟨⟨n, hn, n2⟩, w, hw, ew⟩ := hv
  have hk : 4 * s + l < 48 := by omega
  have ck := cl_I (show 4 * s + l < 2 ^ 31 by omega)
  have d1 : (4 * s + l) / 4 = s := by omega
  have d2 : (4 * s + l) % 4 = l := by omega
  have wn : (mB_works v).toNatClampNeg = w := by rw [ew, cl_I (by omega)]
  have nn : (mI_incidents v).toNatClampNeg = n := by rw [n2, cl_I (by omega)]
  have l0 : (nI l = 0) = (l = 0) := propext (nI_eq (b := 0) (by omega) (by decide))
  by_cases o : mL_ordered v (4 * s + l) = -1
  · rcases works_m hw ew s l with ⟨e1, k, hk1, hk2⟩ | ⟨e1, h1⟩
    · have cr : crV v (4 * s + l) := Or.inl ⟨k, by rw [wn]; exact hk1, by rw [d1, d2]; exact hk2⟩
      rw [tdV_cr o cr]
      simp only [g_X10_told, mpl, pz_let, pz_inN hk (show 48 < 2 ^ 31 by decide), ck, eq_true o, if_true, e1, pz_bind, z10, if_false]
    · rcases conf_m hn n2 (nI (4 * s + l)) with ⟨e2, h2⟩ | ⟨e2, k, hk1, hk2⟩
      · by_cases c : l = 0 ∧ mH_isOpen v s = 0
        · have cr : crV v (4 * s + l) := Or.inr (Or.inr ⟨by rw [d2]; exact c.1, by rw [d1]; exact c.2⟩)
          rw [tdV_cr o cr]
          simp only [g_X10_told, mpl, pz_let, pz_inN hk (show 48 < 2 ^ 31 by decide), ck, eq_true o, if_true, e1, e2, pz_bind, z00, z10, if_false, l0, eq_true c.1, pz_inN hs (show 12 < 2 ^ 31 by decide), cl_I (show s < 2 ^ 31 by omega), eq_true c.2]
        · have cr : ¬ crV v (4 * s + l) := fun q => by
            rcases q with ⟨k, a, b⟩ | ⟨k, a, b⟩ | ⟨a, b⟩
            · rw [wn] at a
              rw [d1, d2] at b
              exact h1 k a b
            · rw [nn] at a
              exact h2 k a b
            · rw [d2] at a
              rw [d1] at b
              exact c ⟨a, b⟩
          rw [tdV_no o cr]
          by_cases c1 : l = 0
          · have c2 : ¬ mH_isOpen v s = 0 := fun q => c ⟨c1, q⟩
            simp only [g_X10_told, mpl, pz_let, pz_inN hk (show 48 < 2 ^ 31 by decide), ck, eq_true o, if_true, e1, e2, pz_bind, z00, if_false, l0, eq_true c1, pz_inN hs (show 12 < 2 ^ 31 by decide), cl_I (show s < 2 ^ 31 by omega), eq_false c2]
          · simp only [g_X10_told, mpl, pz_let, pz_inN hk (show 48 < 2 ^ 31 by decide), ck, eq_true o, if_true, e1, e2, pz_bind, z00, if_false, l0, eq_false c1]
      · have cr : crV v (4 * s + l) := Or.inr (Or.inl ⟨k, by rw [nn]; exact hk1, hk2⟩)
        rw [tdV_cr o cr]
        simp only [g_X10_told, mpl, pz_let, pz_inN hk (show 48 < 2 ^ 31 by decide), ck, eq_true o, if_true, e1, e2, pz_bind, z00, z10, if_false]
  · rw [tdV_ord o]
    simp only [g_X10_told, mpl, pz_let, pz_inN hk (show 48 < 2 ^ 31 by decide), ck, eq_false o, if_false]
theorem sign_m (hv : smV v) {s l : Nat} (hs : s < 12) (hl : l < 4) : g_X10_signOf v (nI s) (nI l) = some (sgV v (4 * s + l)) := by
  have t1 := told_m hv hs hl
  have g11 : ((11 : Int32) ≤ nI s) = (11 ≤ s) := propext (nI_leI (a := 11) (by decide) (by omega))
  by_cases c0 : tdV v (4 * s + l) = 0
  · by_cases c1 : 11 ≤ s
    · rw [sgV, if_neg (fun q => by omega)]
      simp only [g_X10_signOf, t1, pz_bind, eq_true c0, if_true, g11, eq_true c1]
    · have t2 := told_m hv (show s + 1 < 12 by omega) hl
      have e4 : 4 * (s + 1) + l = 4 * s + l + 4 := by omega
      rw [e4] at t2
      by_cases c2 : tdV v (4 * s + l + 4) = 2
      · rw [sgV, if_pos ⟨c0, by omega, c2⟩]
        simp only [g_X10_signOf, t1, pz_bind, eq_true c0, if_true, g11, eq_false c1, if_false, nI_1, t2, eq_true c2]
      · rw [sgV, if_neg (fun q => c2 q.2.2)]
        simp only [g_X10_signOf, t1, pz_bind, eq_true c0, if_true, g11, eq_false c1, if_false, nI_1, t2, eq_false c2]
  · rw [sgV, if_neg (fun q => c0 q.1)]
    simp only [g_X10_signOf, t1, pz_bind, eq_false c0, if_false]
end RELS9
end
section
/-- told over: 2 where C holds, what it was elsewhere -/
def Tl (f f0 : Nat → Int32) (C : Nat → Prop) : Prop := ∀ p : Nat, p < 48 → (C p → f p = 2) ∧ (¬ C p → f p = f0 p)
theorem Tl.id0 (f : Nat → Int32) (C : Nat → Prop) (h : ∀ p : Nat, p < 48 → ¬ C p) : Tl f f C := fun p hp => ⟨fun c => absurd c (h p hp), fun _ => rfl⟩
theorem Tl.or {f f1 f0 : Nat → Int32} {C D : Nat → Prop} (h1 : Tl f1 f0 C) (h2 : Tl f f1 D) : Tl f f0 (fun p => C p ∨ D p) := fun p hp => by
  refine ⟨fun c => ?_, fun c => ((h2 p hp).2 (fun d => c (Or.inr d))).trans ((h1 p hp).2 (fun d => c (Or.inl d)))⟩
  by_cases d : D p
  · exact (h2 p hp).1 d
  · exact ((h2 p hp).2 d).trans ((h1 p hp).1 (c.resolve_right d))
theorem Tl.iff {f f0 : Nat → Int32} {C D : Nat → Prop} (h : Tl f f0 C) (e : ∀ p : Nat, p < 48 → (C p ↔ D p)) : Tl f f0 D := fun p hp => ⟨fun d => (h p hp).1 ((e p hp).mpr d), fun d => (h p hp).2 (fun c => d ((e p hp).mp c))⟩
theorem Tl.put {f f0 : Nat → Int32} {C : Nat → Prop} (h : Tl f f0 C) (q : Nat) : Tl (upd f q 2) f0 (fun p => C p ∨ p = q) := fun p hp => by
  by_cases e : p = q
  · exact ⟨fun _ => by rw [e, pk_us], fun c => absurd (Or.inr e) c⟩
  · rw [pk_un e]
    exact ⟨fun c => (h p hp).1 (c.resolve_right e), fun c => (h p hp).2 (fun d => c (Or.inl d))⟩
section RELSA
variable {u : GS} {v : MS}
theorem ct1 (u : GS) (f : Nat → Int32) : cL_told (cL_told_set u f) = f := rfl
theorem ct2 (u : GS) (f g : Nat → Int32) : cL_told_set (cL_told_set u f) g = cL_told_set u g := rfl
theorem ct3 (u : GS) (f : Nat → Int32) : cH_open (cL_told_set u f) = cH_open u := rfl
theorem ct4 (u : GS) (f : Nat → Int32) : cI_count (cL_told_set u f) = cI_count u := rfl
theorem ct5 (u : GS) (f : Nat → Int32) : cI_how (cL_told_set u f) = cI_how u := rfl
theorem ct6 (u : GS) (f : Nat → Int32) : cI_places (cL_told_set u f) = cI_places u := rfl
theorem ct7 (u : GS) (f : Nat → Int32) : cB_count (cL_told_set u f) = cB_count u := rfl
theorem ct8 (u : GS) (f : Nat → Int32) : cB_lanes (cL_told_set u f) = cB_lanes u := rfl
theorem ct9 (u : GS) (f : Nat → Int32) : cB_froms (cL_told_set u f) = cB_froms u := rfl
theorem ctA (u : GS) (f : Nat → Int32) : cB_tos (cL_told_set u f) = cB_tos u := rfl
theorem ctB (u : GS) (f : Nat → Int32) : cL_orders (cL_told_set u f) = cL_orders u := rfl
theorem tell6 (f0 : Nat → Int32) : ∃ f : Nat → Int32, g_X6_tellCrosses (cL_told_set u f0) = some (cL_told_set u f) ∧ Tl f f0 (fun p => p % 4 = 0 ∧ cH_open u (p / 4) = 0) := by
  obtain ⟨n, z, ⟨f, hf, rfl⟩, h1⟩ := lpF (fun n (z : Int32 × GS) => lp_X6_tellCrosses_2 (fun w => some w) n z.1 z.2) 12 (by decide) (fun i z => ∃ f : Nat → Int32, Tl f f0 (fun p => p % 4 = 0 ∧ p / 4 < i ∧ cH_open u (p / 4) = 0) ∧ z = (nI i, cL_told_set u f)) (by
    rintro n i z hi ⟨f, hf, rfl⟩
    by_cases c : cH_open u i = 0
    · refine ⟨(nI (i + 1), cL_told_set u (upd f (4 * i) 2)), ⟨_, (hf.put (4 * i)).iff (fun p hp => ?_), rfl⟩, ?_⟩
      · constructor
        · rintro (⟨a, b, d⟩ | rfl)
          · exact ⟨a, by omega, d⟩
          · have e : 4 * i / 4 = i := by omega
            rw [e]
            exact ⟨by omega, by omega, c⟩
        · rintro ⟨a, b, d⟩
          by_cases e : p / 4 = i
          · exact Or.inr (by omega)
          · exact Or.inl ⟨a, by omega, d⟩
      · show lp_X6_tellCrosses_2 _ (n + 1) (nI i) _ = lp_X6_tellCrosses_2 _ n _ _
        simp only [lp_X6_tellCrosses_2, c_ge 12 12 hi (by decide), if_false, pz_inN hi (show 12 < 2 ^ 31 by decide), pz_let, cl_I (show i < 2 ^ 31 by omega), ct3, eq_true c, if_true, placeN0, pz_bind, pz_inN (show 4 * i < 48 by omega) (show 48 < 2 ^ 31 by decide), cl_I (show 4 * i < 2 ^ 31 by omega), ct1, ct2, nI_1]
    · refine ⟨(nI (i + 1), cL_told_set u f), ⟨_, hf.iff (fun p hp => ?_), rfl⟩, ?_⟩
      · constructor
        · rintro ⟨a, b, d⟩
          exact ⟨a, by omega, d⟩
        · rintro ⟨a, b, d⟩
          refine ⟨a, ?_, d⟩
          by_cases e : p / 4 = i
          · rw [e] at d
            exact absurd d c
          · omega
      · show lp_X6_tellCrosses_2 _ (n + 1) (nI i) _ = lp_X6_tellCrosses_2 _ n _ _
        simp only [lp_X6_tellCrosses_2, c_ge 12 12 hi (by decide), if_false, pz_inN hi (show 12 < 2 ^ 31 by decide), pz_let, cl_I (show i < 2 ^ 31 by omega), ct3, eq_false c, nI_1]) (0, cL_told_set u f0) ⟨f0, Tl.id0 f0 _ (fun p hp q => absurd q.2.1 (Nat.not_lt_zero _)), rfl⟩
  refine ⟨f, h1.trans ?_, hf.iff (fun p hp => ⟨fun q => ⟨q.1, q.2.2⟩, fun q => ⟨q.1, by omega, q.2⟩⟩)⟩
  show lp_X6_tellCrosses_2 _ (n + 1) (nI 12) _ = _
  simp only [lp_X6_tellCrosses_2, c_le 12 12 (by decide), if_true]
theorem tell2 (hI : RI u v) (f0 : Nat → Int32) : ∃ f : Nat → Int32, g_X2_tellCrosses (cL_told_set u f0) = some (cL_told_set u f) ∧ Tl f f0 (fun p => ∃ k : Nat, k < (mI_incidents v).toNatClampNeg ∧ mI_placed v k = nI p ∧ mI_state v k = 1) := by
  obtain ⟨m, hm, n1, n2, pl, hw, hpl, -, -⟩ := hI
  rw [n2, cl_I (show m < 2 ^ 31 by omega), ← pl, ← hw]
  obtain ⟨n, z, ⟨f, hf, rfl⟩, h1⟩ := lpF (fun n (z : Int32 × GS) => lp_X2_tellCrosses_2 (fun w => some w) n z.1 z.2) 12 (by decide) (fun i z => ∃ f : Nat → Int32, Tl f f0 (fun p => ∃ k : Nat, k < i ∧ k < m ∧ cI_places u k = nI p ∧ cI_how u k = 1) ∧ z = (nI i, cL_told_set u f)) (by
    rintro n i z hi ⟨f, hf, rfl⟩
    have ci := cl_I (show i < 2 ^ 31 by omega)
    have g12 : ∀ {α : Type} (a : Option α), g_in (nI i) 12 a = a := fun a => pz_inN hi (by decide) a
    have same : ¬ (i < m ∧ cI_how u i = 1) → Tl f f0 (fun p => ∃ k : Nat, k < i + 1 ∧ k < m ∧ cI_places u k = nI p ∧ cI_how u k = 1) := fun c => hf.iff (fun p hp => ⟨fun ⟨k, a, b⟩ => ⟨k, by omega, b⟩, fun ⟨k, a, b⟩ => ⟨k, by
      by_cases e : k = i
      · rw [e] at b
        exact absurd ⟨b.1, b.2.2⟩ c
      · omega, b⟩⟩)
    by_cases c1 : m ≤ i
    · refine ⟨(nI (i + 1), cL_told_set u f), ⟨_, same (fun q => by omega), rfl⟩, ?_⟩
      show lp_X2_tellCrosses_2 _ (n + 1) (nI i) _ = lp_X2_tellCrosses_2 _ n _ _
      simp only [lp_X2_tellCrosses_2, c_ge 12 12 hi (by decide), if_false, pz_let, ct4, n1, eq_true (nI_le c1 (show i < 2 ^ 31 by omega)), if_true, nI_1]
    · have c1' := eq_false (nI_ge (Nat.lt_of_not_le c1) (show m < 2 ^ 31 by omega))
      by_cases c2 : cI_how u i = 1
      · obtain ⟨q, hq, eq1⟩ := hpl i (by omega)
        have i1 : g_X9_isWithin (nI q) 0 47 = some 1 := isw (k := q) (a := 0) (b := 47) _ rfl (Nat.zero_le q) (by omega) (by decide) _ _
        refine ⟨(nI (i + 1), cL_told_set u (upd f q 2)), ⟨_, (hf.put q).iff (fun p hp => ?_), rfl⟩, ?_⟩
        · constructor
          · rintro (⟨k, a, b⟩ | rfl)
            · exact ⟨k, by omega, b⟩
            · exact ⟨i, by omega, by omega, eq1, c2⟩
          · rintro ⟨k, a, b, d, e⟩
            by_cases ek : k = i
            · rw [ek, eq1, nI_eq (by omega) (by omega)] at d
              exact Or.inr d.symm
            · exact Or.inl ⟨k, by omega, b, d, e⟩
        · show lp_X2_tellCrosses_2 _ (n + 1) (nI i) _ = lp_X2_tellCrosses_2 _ n _ _
          simp only [lp_X2_tellCrosses_2, c_ge 12 12 hi (by decide), if_false, pz_let, ct4, n1, c1', g12, ci, ct5, ct6, eq_true c2, if_true, eq1, i1, pz_bind, z10, pz_inN hq (show 48 < 2 ^ 31 by decide), cl_I (show q < 2 ^ 31 by omega), ct1, ct2, nI_1]
      · refine ⟨(nI (i + 1), cL_told_set u f), ⟨_, same (fun q => c2 q.2), rfl⟩, ?_⟩
        show lp_X2_tellCrosses_2 _ (n + 1) (nI i) _ = lp_X2_tellCrosses_2 _ n _ _
        simp only [lp_X2_tellCrosses_2, c_ge 12 12 hi (by decide), if_false, pz_let, ct4, n1, c1', g12, ci, ct5, eq_false c2, nI_1]) (0, cL_told_set u f0) ⟨f0, Tl.id0 f0 _ (fun p hp ⟨k, a, _⟩ => absurd a (Nat.not_lt_zero _)), rfl⟩
  refine ⟨f, h1.trans ?_, hf.iff (fun p hp => ⟨fun ⟨k, a, b⟩ => ⟨k, b⟩, fun ⟨k, b⟩ => ⟨k, by omega, b⟩⟩)⟩
  show lp_X2_tellCrosses_2 _ (n + 1) (nI 12) _ = _
  simp only [lp_X2_tellCrosses_2, c_le 12 12 (by decide), if_true]
theorem tellOf {k a b c : Nat} (hk : k < 8) (ha : a < 4) (hc : c < 12) (h1 : cB_lanes u k = nI a) (h2 : cB_froms u k = nI b) (h3 : cB_tos u k = nI c) (hb : b < 2 ^ 31) (f0 : Nat → Int32) : ∃ f : Nat → Int32, g_X0_tellCrossesOf (cL_told_set u f0) (nI k) = some (cL_told_set u f) ∧ Tl f f0 (fun p => p % 4 = a ∧ b ≤ p / 4 ∧ p / 4 ≤ c) := by
  have ck := cl_I (show k < 2 ^ 31 by omega)
  have g8 : ∀ {α : Type} (a : Option α), g_in (nI k) 8 a = a := fun a => pz_inN hk (by decide) a
  obtain ⟨n, z, ⟨f, hf, rfl⟩, e1⟩ := lpF (fun n (z : Int32 × GS) => lp_X0_tellCrossesOf_2 (nI k) (fun w => some w) n z.1 z.2) 12 (by decide) (fun i z => ∃ f : Nat → Int32, Tl f f0 (fun p => p % 4 = a ∧ p / 4 < i ∧ b ≤ p / 4 ∧ p / 4 ≤ c) ∧ z = (nI i, cL_told_set u f)) (by
    rintro n i z hi ⟨f, hf, rfl⟩
    have pN : g_X9_placeOf (nI i) (nI a) = some (nI (4 * i + a)) := placeN i a
    by_cases c1 : b ≤ i ∧ i ≤ c
    · have i1 : g_X9_isWithin (nI i) (nI b) (nI c) = some 1 := iw_nI c1.1 c1.2 (by omega)
      have i2 : g_X9_isWithin (nI (4 * i + a)) 0 47 = some 1 := isw (k := 4 * i + a) (a := 0) (b := 47) _ rfl (Nat.zero_le _) (by omega) (by decide) _ _
      refine ⟨(nI (i + 1), cL_told_set u (upd f (4 * i + a) 2)), ⟨_, (hf.put (4 * i + a)).iff (fun p hp => ?_), rfl⟩, ?_⟩
      · constructor
        · rintro (⟨x, y, w⟩ | rfl)
          · exact ⟨x, by omega, w⟩
          · exact ⟨by omega, by omega, by omega, by omega⟩
        · rintro ⟨x, y, w⟩
          by_cases e : p / 4 = i
          · exact Or.inr (by omega)
          · exact Or.inl ⟨x, by omega, w⟩
      · show lp_X0_tellCrossesOf_2 _ _ (n + 1) (nI i) _ = lp_X0_tellCrossesOf_2 _ _ n _ _
        simp only [lp_X0_tellCrossesOf_2, c_ge 12 12 hi (by decide), if_false, g8, ck, ct8, ct9, ctA, h1, h2, h3, pN, pz_bind, i1, pz_let, z10, i2, pz_inN (show 4 * i + a < 48 by omega) (show 48 < 2 ^ 31 by decide), cl_I (show 4 * i + a < 2 ^ 31 by omega), ct1, ct2, nI_1]
    · have i1 : g_X9_isWithin (nI i) (nI b) (nI c) = some 0 := iw_nI0 (by omega) (by omega) hb (by omega)
      refine ⟨(nI (i + 1), cL_told_set u f), ⟨_, hf.iff (fun p hp => ⟨fun q => ⟨q.1, by omega, q.2.2⟩, fun q => ⟨q.1, by omega, q.2.2⟩⟩), rfl⟩, ?_⟩
      show lp_X0_tellCrossesOf_2 _ _ (n + 1) (nI i) _ = lp_X0_tellCrossesOf_2 _ _ n _ _
      simp only [lp_X0_tellCrossesOf_2, c_ge 12 12 hi (by decide), if_false, g8, ck, ct8, ct9, ctA, h1, h2, h3, pN, pz_bind, i1, pz_let, if_true, nI_1]) (0, cL_told_set u f0) ⟨f0, Tl.id0 f0 _ (fun p hp q => absurd q.2.1 (Nat.not_lt_zero _)), rfl⟩
  refine ⟨f, e1.trans ?_, hf.iff (fun p hp => ⟨fun q => ⟨q.1, q.2.2⟩, fun q => ⟨q.1, by omega, q.2⟩⟩)⟩
  show lp_X0_tellCrossesOf_2 _ _ (n + 1) (nI 12) _ = _
  simp only [lp_X0_tellCrossesOf_2, c_le 12 12 (by decide), if_true]
theorem isRun_t {k : Nat} (f : Nat → Int32) (m : Int32) : g_X0_isRunning (cL_told_set u f) (nI k) m = g_X0_isRunning u (nI k) m := rfl
theorem tell0 (hM : RM u v) (hB : RB u v) (f0 : Nat → Int32) : ∃ f : Nat → Int32, g_X0_tellCrosses (cL_told_set u f0) (c_minute u) = some (cL_told_set u f) ∧ Tl f f0 (fun p => ∃ k : Nat, k < (mB_works v).toNatClampNeg ∧ wkC v (p / 4) (p % 4) k) := by
  obtain ⟨w, hw, w1, w2, hall⟩ := id hB
  rw [w2, cl_I (show w < 2 ^ 31 by omega)]
  obtain ⟨n, z, ⟨f, hf, rfl⟩, e1⟩ := lpF (fun n (z : Int32 × GS) => lp_X0_tellCrosses_2 (c_minute u) (fun w => some w) n z.1 z.2) 8 (by decide) (fun i z => ∃ f : Nat → Int32, Tl f f0 (fun p => ∃ k : Nat, k < i ∧ k < w ∧ wkC v (p / 4) (p % 4) k) ∧ z = (nI i, cL_told_set u f)) (by
    rintro n i z hi ⟨f, hf, rfl⟩
    by_cases c1 : w ≤ i
    · refine ⟨(nI (i + 1), cL_told_set u f), ⟨_, hf.iff (fun p hp => ⟨fun ⟨k, a, b⟩ => ⟨k, by omega, b⟩, fun ⟨k, a, b⟩ => ⟨k, by omega, b⟩⟩), rfl⟩, ?_⟩
      show lp_X0_tellCrosses_2 _ _ (n + 1) (nI i) _ = lp_X0_tellCrosses_2 _ _ n _ _
      simp only [lp_X0_tellCrosses_2, c_ge 8 8 hi (by decide), if_false, pz_let, ct7, w1, eq_true (nI_le c1 (show i < 2 ^ 31 by omega)), if_true, nI_1]
    · have c1' := eq_false (nI_ge (Nat.lt_of_not_le c1) (show w < 2 ^ 31 by omega))
      obtain ⟨r, hr, r1, r2, -⟩ := run_eq hM hB w1 hw (show i < w by omega)
      have r3 := on_m (v := v) hi
      obtain ⟨a, b, c, d, e, a1, a3, b1, bc, c11, de, e6, ⟨f1, f2, f3, f4, f5⟩, ⟨g1, g2, g3, g4, g5⟩⟩ := hall i (by omega)
      by_cases o : ¬ m_now v < mB_worksBegin v i ∧ ¬ mB_worksEnd v i ≤ m_now v
      · rw [if_pos o] at r3
        have hr1 : r = 1 := Option.some.inj (r2.symm.trans r3)
        subst hr1
        obtain ⟨f', t1, t2⟩ := tellOf (u := u) hi (show a < 4 by omega) (show c < 12 by omega) f1 f2 f3 (by omega) f
        refine ⟨(nI (i + 1), cL_told_set u f'), ⟨_, (hf.or t2).iff (fun p hp => ?_), rfl⟩, ?_⟩
        · have wk : wkC v (p / 4) (p % 4) i ↔ (p % 4 = a ∧ b ≤ p / 4 ∧ p / 4 ≤ c) := by
            unfold wkC
            rw [g1, g2, g3, nI_eq (by omega) (by omega), nI_ltI (by omega) (by omega), nI_ltI (by omega) (by omega)]
            constructor
            · rintro ⟨x, y, -⟩
              omega
            · rintro ⟨x, y, w⟩
              exact ⟨by omega, ⟨by omega, by omega⟩, o⟩
          constructor
          · rintro (⟨k, x, y⟩ | q)
            · exact ⟨k, by omega, y⟩
            · exact ⟨i, by omega, by omega, wk.mpr q⟩
          · rintro ⟨k, x, y, q⟩
            by_cases ek : k = i
            · rw [ek] at q
              exact Or.inr (wk.mp q)
            · exact Or.inl ⟨k, by omega, y, q⟩
        · show lp_X0_tellCrosses_2 _ _ (n + 1) (nI i) _ = lp_X0_tellCrosses_2 _ _ n _ _
          simp only [lp_X0_tellCrosses_2, c_ge 8 8 hi (by decide), if_false, pz_let, ct7, w1, c1', isRun_t, r1, pz_bind, z10, t1, nI_1]
      · rw [if_neg o] at r3
        have hr1 : r = 0 := Option.some.inj (r2.symm.trans r3)
        subst hr1
        refine ⟨(nI (i + 1), cL_told_set u f), ⟨_, hf.iff (fun p hp => ⟨fun ⟨k, a, b⟩ => ⟨k, by omega, b⟩, fun ⟨k, a, b, q⟩ => ⟨k, by
          by_cases ek : k = i
          · rw [ek] at q
            exact absurd q.2.2 o
          · omega, b, q⟩⟩), rfl⟩, ?_⟩
        show lp_X0_tellCrosses_2 _ _ (n + 1) (nI i) _ = lp_X0_tellCrosses_2 _ _ n _ _
        simp only [lp_X0_tellCrosses_2, c_ge 8 8 hi (by decide), if_false, pz_let, ct7, w1, c1', isRun_t, r1, pz_bind, if_true, nI_1]) (0, cL_told_set u f0) ⟨f0, Tl.id0 f0 _ (fun p hp ⟨k, a, _⟩ => absurd a (Nat.not_lt_zero _)), rfl⟩
  refine ⟨f, e1.trans ?_, hf.iff (fun p hp => ⟨fun ⟨k, a, b⟩ => ⟨k, b⟩, fun ⟨k, b⟩ => ⟨k, by omega, b⟩⟩)⟩
  show lp_X0_tellCrosses_2 _ _ (n + 1) (nI 8) _ = _
  simp only [lp_X0_tellCrosses_2, c_le 8 8 (by decide), if_true]
/-- over the orders by hand -/
theorem tellO (f0 : Nat → Int32) (k : GS → Option GS) : ∃ f : Nat → Int32, lp_X3_setAnew_53 k FU 0 (cL_told_set u f0) = k (cL_told_set u f) ∧ ∀ p : Nat, p < 48 → f p = if cL_orders u p = -1 then f0 p else cL_orders u p := by
  obtain ⟨n, z, ⟨f, hf, rfl⟩, e1⟩ := lpF (fun n (z : Int32 × GS) => lp_X3_setAnew_53 k n z.1 z.2) 48 (by decide) (fun i z => ∃ f : Nat → Int32, (∀ p : Nat, f p = if p < i ∧ ¬ cL_orders u p = -1 then cL_orders u p else f0 p) ∧ z = (nI i, cL_told_set u f)) (by
    rintro n i z hi ⟨f, hf, rfl⟩
    have g48 : ∀ {α : Type} (a : Option α), g_in (nI i) 48 a = a := fun a => pz_inN hi (by decide) a
    have ci := cl_I (show i < 2 ^ 31 by omega)
    by_cases o : cL_orders u i = -1
    · refine ⟨(nI (i + 1), cL_told_set u f), ⟨f, fun p => (hf p).trans ?_, rfl⟩, ?_⟩
      · by_cases c : p < i ∧ ¬ cL_orders u p = -1
        · rw [if_pos c, if_pos ⟨by omega, c.2⟩]
        · rw [if_neg c, if_neg (fun q => c ⟨by
            by_cases e : p = i
            · rw [e] at q
              exact absurd o q.2
            · omega, q.2⟩)]
      · show lp_X3_setAnew_53 _ (n + 1) (nI i) _ = lp_X3_setAnew_53 _ n _ _
        simp only [lp_X3_setAnew_53, c_ge 48 48 hi (by decide), if_false, pz_let, g48, ci, ctB, eq_true o, if_true, nI_1]
    · refine ⟨(nI (i + 1), cL_told_set u (upd f i (cL_orders u i))), ⟨_, fun p => ?_, rfl⟩, ?_⟩
      · by_cases e : p = i
        · rw [e, pk_us, if_pos ⟨by omega, o⟩]
        · rw [pk_un e, hf p]
          by_cases c : p < i ∧ ¬ cL_orders u p = -1
          · rw [if_pos c, if_pos ⟨by omega, c.2⟩]
          · rw [if_neg c, if_neg (fun q => c ⟨by omega, q.2⟩)]
      · show lp_X3_setAnew_53 _ (n + 1) (nI i) _ = lp_X3_setAnew_53 _ n _ _
        simp only [lp_X3_setAnew_53, c_ge 48 48 hi (by decide), if_false, pz_let, g48, ci, ctB, eq_false o, ct1, ct2, nI_1]) (0, cL_told_set u f0) ⟨f0, fun p => by rw [if_neg (fun q => absurd q.1 (Nat.not_lt_zero p))], rfl⟩
  refine ⟨f, e1.trans ?_, fun p hp => (hf p).trans ?_⟩
  · show lp_X3_setAnew_53 _ (n + 1) (nI 48) _ = _
    simp only [lp_X3_setAnew_53, c_le 48 48 (by decide), if_true]
  · by_cases c : cL_orders u p = -1
    · rw [if_pos c, if_neg (fun q => q.2 c)]
    · rw [if_neg c, if_pos ⟨hp, c⟩]
theorem tell1 (k : GS → Option GS) : ∃ f : Nat → Int32, lp_X3_setAnew_3 k FU 0 u = k (cL_told_set u f) ∧ ∀ p : Nat, p < 48 → f p = 0 := by
  obtain ⟨n, z, ⟨f, hf, rfl⟩, e1⟩ := lpF (fun n (z : Int32 × GS) => lp_X3_setAnew_3 k n z.1 z.2) 48 (by decide) (fun i z => ∃ f : Nat → Int32, (∀ p : Nat, p < i → f p = 0) ∧ z = (nI i, cL_told_set u f)) (by
    rintro n i z hi ⟨f, hf, rfl⟩
    refine ⟨(nI (i + 1), cL_told_set u (upd f i 0)), ⟨_, fun p hp => ?_, rfl⟩, ?_⟩
    · by_cases e : p = i
      · rw [e, pk_us]
      · rw [pk_un e]
        exact hf p (by omega)
    · show lp_X3_setAnew_3 _ (n + 1) (nI i) _ = lp_X3_setAnew_3 _ n _ _
      simp only [lp_X3_setAnew_3, c_ge 48 48 hi (by decide), if_false, pz_let, pz_inN hi (show 48 < 2 ^ 31 by decide), cl_I (show i < 2 ^ 31 by omega), ct1, ct2, nI_1]) (0, u) ⟨cL_told u, fun p hp => absurd hp (Nat.not_lt_zero p), rfl⟩
  refine ⟨f, e1.trans ?_, hf⟩
  show lp_X3_setAnew_3 _ (n + 1) (nI 48) _ = _
  simp only [lp_X3_setAnew_3, c_le 48 48 (by decide), if_true]
/-- what is shown, out of what is told -/
def shF (t : Nat → Int32) (p : Nat) : Int32 := if t p = 0 ∧ p < 44 ∧ t (p + 4) = 2 then 1 else t p
theorem cs1 (u : GS) (f : Nat → Int32) : cL_told (cL_shown_set u f) = cL_told u := rfl
theorem cs2 (u : GS) (f g : Nat → Int32) : cL_shown_set (cL_shown_set u f) g = cL_shown_set u g := rfl
theorem cs3 (u : GS) (f : Nat → Int32) : cL_shown (cL_shown_set u f) = f := rfl
theorem ahead_t {p : Nat} (hp : p < 48) : g_X3_isAheadOfCross_t u (nI p) = some (if p < 44 ∧ cL_told u (p + 4) = 2 then 1 else 0) := by
  have q4 : nI p + 4 = nI (p + 4) := nI_add p 4
  by_cases c : p < 44
  · have i1 : g_X9_isWithin (nI (p + 4)) 0 47 = some 1 := isw (k := p + 4) (a := 0) (b := 47) _ rfl (Nat.zero_le _) (by omega) (by decide) _ _
    simp only [g_X3_isAheadOfCross_t, pz_let, q4, i1, pz_bind, z10, if_false, pz_inN (show p + 4 < 48 by omega) (show 48 < 2 ^ 31 by decide), cl_I (show p + 4 < 2 ^ 31 by omega)]
    by_cases t : cL_told u (p + 4) = 2
    · rw [if_pos t, if_pos ⟨c, t⟩]
    · rw [if_neg t, if_neg (fun q => t q.2)]
  · have i1 : g_X9_isWithin (nI (p + 4)) 0 47 = some 0 := iw_nI0 (a := 0) (b := 47) (by omega) (by omega) (by omega) (by omega)
    simp only [g_X3_isAheadOfCross_t, pz_let, q4, i1, pz_bind, if_true]
    rw [if_neg (fun q => c q.1)]
theorem tellS (k : GS → Option GS) : ∃ g : Nat → Int32, lp_X3_setAnew_94 k FU 0 u = k (cL_shown_set u g) ∧ ∀ p : Nat, p < 48 → g p = shF (cL_told u) p := by
  obtain ⟨n, z, ⟨f, hf, rfl⟩, e1⟩ := lpF (fun n (z : Int32 × GS) => lp_X3_setAnew_94 k n z.1 z.2) 48 (by decide) (fun i z => ∃ f : Nat → Int32, (∀ p : Nat, p < i → f p = shF (cL_told u) p) ∧ z = (nI i, cL_shown_set u f)) (by
    rintro n i z hi ⟨f, hf, rfl⟩
    have g48 : ∀ {α : Type} (a : Option α), g_in (nI i) 48 a = a := fun a => pz_inN hi (by decide) a
    have ci := cl_I (show i < 2 ^ 31 by omega)
    have ah : g_X3_isAheadOfCross_t (cL_shown_set u f) (nI i) = some (if i < 44 ∧ cL_told u (i + 4) = 2 then 1 else 0) := ahead_t (u := cL_shown_set u f) hi
    refine ⟨(nI (i + 1), cL_shown_set u (upd f i (shF (cL_told u) i))), ⟨_, fun p hp => ?_, rfl⟩, ?_⟩
    · by_cases e : p = i
      · rw [e, pk_us]
      · rw [pk_un e]
        exact hf p (by omega)
    · show lp_X3_setAnew_94 _ (n + 1) (nI i) _ = lp_X3_setAnew_94 _ n _ _
      by_cases t0 : cL_told u i = 0
      · by_cases c : i < 44 ∧ cL_told u (i + 4) = 2
        · rw [shF, if_pos ⟨t0, c⟩]
          rw [if_pos c] at ah
          simp only [lp_X3_setAnew_94, c_ge 48 48 hi (by decide), if_false, pz_let, g48, ci, cs1, eq_true t0, if_true, ah, pz_bind, z10, cs2, cs3, nI_1]
        · rw [shF, if_neg (fun q => c q.2)]
          rw [if_neg c] at ah
          simp only [lp_X3_setAnew_94, c_ge 48 48 hi (by decide), if_false, pz_let, g48, ci, cs1, eq_true t0, if_true, ah, pz_bind, z00, cs2, cs3, nI_1]
      · rw [shF, if_neg (fun q => t0 q.1)]
        simp only [lp_X3_setAnew_94, c_ge 48 48 hi (by decide), if_false, pz_let, g48, ci, cs1, eq_false t0, cs2, cs3, nI_1]) (0, u) ⟨cL_shown u, fun p hp => absurd hp (Nat.not_lt_zero p), rfl⟩
  refine ⟨f, e1.trans ?_, hf⟩
  show lp_X3_setAnew_94 _ (n + 1) (nI 48) _ = _
  simp only [lp_X3_setAnew_94, c_le 48 48 (by decide), if_true]
theorem smV_of (hI : RI u v) (hB : RB u v) : smV v := by
  obtain ⟨n, hn, -, n2, -⟩ := hI
  obtain ⟨w, hw, -, w2, -⟩ := hB
  exact ⟨⟨n, hn, n2⟩, w, hw, w2⟩
/-- the lane signs set anew are the reference's -/
theorem setLane (hM : RM u v) (hO : cL_orders u = mL_ordered v) (hH : cH_open u = mH_isOpen v) (hI : RI u v) (hB : RB u v) : ∃ f g : Nat → Int32, g_X9_setLaneSigns u = some (cL_shown_set (cL_told_set u f) g) ∧ ∀ p : Nat, p < 48 → g p = sgV v p := by
  obtain ⟨f1, e1, h1⟩ := tell1 (u := u) (fun (w3 : GS) => g_bind (g_X6_tellCrosses w3) (fun (y5 : GS) => g_bind (g_X2_tellCrosses y5) (fun (y7 : GS) => g_bind (g_X0_tellCrosses y7 (c_minute u)) (fun (y9 : GS) => lp_X3_setAnew_53 (fun (w53 : GS) => lp_X3_setAnew_94 (fun (w94 : GS) => some w94) FU (0 : Int32) w53) FU (0 : Int32) y9))))
  obtain ⟨f2, e2, h2⟩ := tell6 (u := u) f1
  obtain ⟨f3, e3, h3⟩ := tell2 hI f2
  obtain ⟨f4, e4, h4⟩ := tell0 hM hB f3
  obtain ⟨f5, e5, h5⟩ := tellO (u := u) f4 (fun (w53 : GS) => lp_X3_setAnew_94 (fun (w94 : GS) => some w94) FU (0 : Int32) w53)
  obtain ⟨g, e6, h6⟩ := tellS (u := cL_told_set u f5) (fun w => some w)
  refine ⟨f5, g, ?_, ?_⟩
  · rw [g_X9_setLaneSigns, g_X3_setAnew, e1]
    simp only [e2, e3, e4, pz_bind, e5, e6]
  · have T := (h2.or h3).or h4
    have all : ∀ p : Nat, p < 48 → f5 p = tdV v p := fun p hp => by
      rw [h5 p hp, hO]
      by_cases o : mL_ordered v p = -1
      · rw [if_pos o]
        by_cases c : crV v p
        · rw [tdV_cr o c]
          refine (T p hp).1 ?_
          rcases c with c | c | c
          · exact Or.inr c
          · exact Or.inl (Or.inr c)
          · exact Or.inl (Or.inl ⟨c.1, by rw [hH]; exact c.2⟩)
        · rw [tdV_no o c]
          refine ((T p hp).2 ?_).trans (h1 p hp)
          rintro ((q | q) | q)
          · exact c (Or.inr (Or.inr ⟨q.1, by rw [← hH]; exact q.2⟩))
          · exact c (Or.inr (Or.inl q))
          · exact c (Or.inl q)
      · rw [if_neg o, tdV_ord o]
    intro p hp
    rw [h6 p hp]
    show (if f5 p = 0 ∧ p < 44 ∧ f5 (p + 4) = 2 then 1 else f5 p) = sgV v p
    rw [sgV, all p hp]
    by_cases c : p < 44
    · rw [all (p + 4) (by omega)]
    · rw [if_neg (fun q => c q.2.1), if_neg (fun q => c q.2.1)]
end RELSA
end
section
section RELSB
variable {u : GS} {v : MS}
theorem sim_sign (h : Rel u v) (p q : Int32) : SI Rel (g_X9_sign u p q) (g_X10_sign v p q) [("java/lang/IndexOutOfBoundsException", 1)] := by
  obtain ⟨hM, hT, hD, hS, hO, hH, hI, hP, hB, hK⟩ := id h
  rcases plcc u p q with ⟨e1, e2⟩ | ⟨s, l, hs, hl, rfl, rfl, e1, e2⟩
  · exact SI_no "java/lang/IndexOutOfBoundsException" 1 0 (v' := m_thrown_set v 1) es1 (by simp only [g_X9_sign, e1, pz_xr, id]) (by simp only [g_X10_sign, e2, pz_bind, pz_let, z00, if_true, pz_h1]) rfl h
  · obtain ⟨f, g, e3, hg⟩ := setLane (v := m_thrown_set v 0) hM hO.1 hH.1 hI hB
    have hk : 4 * s + l < 48 := by omega
    have e4 := sign_m (v := m_thrown_set v 0) (smV_of hI hB) hs hl
    refine SI_ok (u' := cL_shown_set (cL_told_set u f) g) (v' := m_thrown_set v 0) (sgV (m_thrown_set v 0) (4 * s + l)) ?_ ?_ rfl ⟨hM, hT, hD, hS, hO, hH, hI, hP, hB, hK⟩
    · simp only [g_X9_sign, e1, pz_xl, e3, pz_bind, placeN, pz_inN hk (show 48 < 2 ^ 31 by decide), cl_I (show 4 * s + l < 2 ^ 31 by omega), cs3, hg _ hk]
    · simp only [g_X10_sign, e2, pz_bind, pz_let, z10, if_false, pz_h0, e4]
/-- the speed signs' law, and the lane signs' -/
def spG (u : GS) (s : Nat) : Prop := cS_shown u s ≤ cS_shown u (s + 1) + 20
theorem spd_law : (g_X7_areLawful u = some 1 ∧ ∀ s : Nat, s < 11 → spG u s) ∨ (g_X7_areLawful u = some 0 ∧ ∃ s : Nat, s < 11 ∧ ¬ spG u s) := by
  have main := lpE (fun n (z : Int32) => lp_X7_areLawful_2 u (fun (_ : Unit) => some (1 : Int32)) n z) 11 (by decide) (fun i z => z = nI i ∧ ∀ s : Nat, s < i → spG u s) (fun x => x = some 0 ∧ ∃ s : Nat, s < 11 ∧ ¬ spG u s) (by
    rintro n i z hi ⟨rfl, hz⟩
    have q1 : nI i + 1 = nI (i + 1) := nI_1 i
    by_cases c : spG u i
    · refine Or.inl ⟨nI (i + 1), ⟨rfl, fun s hs => ?_⟩, ?_⟩
      · by_cases e : s = i
        · rw [e]
          exact c
        · exact hz s (by omega)
      · show lp_X7_areLawful_2 u _ (n + 1) (nI i) = lp_X7_areLawful_2 u _ n _
        simp only [lp_X7_areLawful_2, q1, c_ge 12 12 (show i + 1 < 12 by omega) (by decide), if_false, pz_inN (show i < 12 by omega) (show 12 < 2 ^ 31 by decide), pz_inN (show i + 1 < 12 by omega) (show 12 < 2 ^ 31 by decide), cl_I (show i < 2 ^ 31 by omega), cl_I (show i + 1 < 2 ^ 31 by omega), eq_true (show cS_shown u i ≤ cS_shown u (i + 1) + 20 from c), if_true, pz_let]
    · refine Or.inr ⟨?_, i, hi, c⟩
      show lp_X7_areLawful_2 u _ (n + 1) (nI i) = _
      simp only [lp_X7_areLawful_2, q1, c_ge 12 12 (show i + 1 < 12 by omega) (by decide), if_false, pz_inN (show i < 12 by omega) (show 12 < 2 ^ 31 by decide), pz_inN (show i + 1 < 12 by omega) (show 12 < 2 ^ 31 by decide), cl_I (show i < 2 ^ 31 by omega), cl_I (show i + 1 < 2 ^ 31 by omega), eq_false (show ¬ cS_shown u i ≤ cS_shown u (i + 1) + 20 from c)]) 0 ⟨rfl, fun s hs => absurd hs (Nat.not_lt_zero s)⟩
  rcases main with ⟨n, z, ⟨rfl, hz⟩, h1⟩ | h1
  · refine Or.inl ⟨h1.trans ?_, hz⟩
    have q1 : nI 11 + 1 = nI 12 := nI_1 11
    show lp_X7_areLawful_2 u _ (n + 1) (nI 11) = _
    simp only [lp_X7_areLawful_2, q1, c_le 12 12 (by decide), if_true]
  · exact Or.inr h1
def lnB (g : Nat → Int32) (p : Nat) : Prop := g p = 0 ∧ p < 44 ∧ g (p + 4) = 2
theorem ahead_s {p : Nat} (hp : p < 48) : g_X3_isAheadOfCross_s u (nI p) = some (if p < 44 ∧ cL_shown u (p + 4) = 2 then 1 else 0) := by
  have q4 : nI p + 4 = nI (p + 4) := nI_add p 4
  by_cases c : p < 44
  · have i1 : g_X9_isWithin (nI (p + 4)) 0 47 = some 1 := isw (k := p + 4) (a := 0) (b := 47) _ rfl (Nat.zero_le _) (by omega) (by decide) _ _
    simp only [g_X3_isAheadOfCross_s, pz_let, q4, i1, pz_bind, z10, if_false, pz_inN (show p + 4 < 48 by omega) (show 48 < 2 ^ 31 by decide), cl_I (show p + 4 < 2 ^ 31 by omega)]
    by_cases t : cL_shown u (p + 4) = 2
    · rw [if_pos t, if_pos ⟨c, t⟩]
    · rw [if_neg t, if_neg (fun q => t q.2)]
  · have i1 : g_X9_isWithin (nI (p + 4)) 0 47 = some 0 := iw_nI0 (a := 0) (b := 47) (by omega) (by omega) (by omega) (by omega)
    simp only [g_X3_isAheadOfCross_s, pz_let, q4, i1, pz_bind, if_true]
    rw [if_neg (fun q => c q.1)]
theorem lane_law : (g_X3_areLawful u = some 1 ∧ ∀ p : Nat, p < 48 → ¬ lnB (cL_shown u) p) ∨ (g_X3_areLawful u = some 0 ∧ ∃ p : Nat, p < 48 ∧ lnB (cL_shown u) p) := by
  have main := lpE (fun n (z : Int32) => lp_X3_areLawful_2 u (fun (_ : Unit) => some (1 : Int32)) n z) 48 (by decide) (fun i z => z = nI i ∧ ∀ p : Nat, p < i → ¬ lnB (cL_shown u) p) (fun x => x = some 0 ∧ ∃ p : Nat, p < 48 ∧ lnB (cL_shown u) p) (by
    rintro n i z hi ⟨rfl, hz⟩
    have ah := ahead_s (u := u) hi
    have go : ¬ lnB (cL_shown u) i → ∀ p : Nat, p < i + 1 → ¬ lnB (cL_shown u) p := fun c p hp => by
      by_cases e : p = i
      · rw [e]
        exact c
      · exact hz p (by omega)
    by_cases s0 : cL_shown u i = 0
    · by_cases c : i < 44 ∧ cL_shown u (i + 4) = 2
      · rw [if_pos c] at ah
        refine Or.inr ⟨?_, i, hi, s0, c⟩
        show lp_X3_areLawful_2 u _ (n + 1) (nI i) = _
        simp only [lp_X3_areLawful_2, c_ge 48 48 hi (by decide), if_false, pz_inN hi (show 48 < 2 ^ 31 by decide), cl_I (show i < 2 ^ 31 by omega), pz_let, eq_true s0, if_true, ah, pz_bind, z10]
      · rw [if_neg c] at ah
        refine Or.inl ⟨nI (i + 1), ⟨rfl, go (fun q => c q.2)⟩, ?_⟩
        show lp_X3_areLawful_2 u _ (n + 1) (nI i) = lp_X3_areLawful_2 u _ n _
        simp only [lp_X3_areLawful_2, c_ge 48 48 hi (by decide), if_false, pz_inN hi (show 48 < 2 ^ 31 by decide), cl_I (show i < 2 ^ 31 by omega), pz_let, eq_true s0, if_true, ah, pz_bind, nI_1]
    · refine Or.inl ⟨nI (i + 1), ⟨rfl, go (fun q => s0 q.1)⟩, ?_⟩
      show lp_X3_areLawful_2 u _ (n + 1) (nI i) = lp_X3_areLawful_2 u _ n _
      simp only [lp_X3_areLawful_2, c_ge 48 48 hi (by decide), if_false, pz_inN hi (show 48 < 2 ^ 31 by decide), cl_I (show i < 2 ^ 31 by omega), pz_let, eq_false s0, nI_1]) 0 ⟨rfl, fun s hs => absurd hs (Nat.not_lt_zero s)⟩
  rcases main with ⟨n, z, ⟨rfl, hz⟩, h1⟩ | h1
  · refine Or.inl ⟨h1.trans ?_, hz⟩
    show lp_X3_areLawful_2 u _ (n + 1) (nI 48) = _
    simp only [lp_X3_areLawful_2, c_le 48 48 (by decide), if_true]
  · exact Or.inr h1
theorem law_in (hv : smV v) {s : Nat} (hs : s < 11) (k : Int32 → Option (Int32 × MS)) (z : Int32) (hz : z = 0 ∨ z = 1) : (lp_X10_isLawful_47 v (nI s) k FU z 0 = k 1 ∧ z = 1 ∧ ∀ l : Nat, l < 4 → ¬ (sgV v (4 * s + l) = 0 ∧ sgV v (4 * s + l + 4) = 2)) ∨ (lp_X10_isLawful_47 v (nI s) k FU z 0 = k 0 ∧ (z = 0 ∨ ∃ l : Nat, l < 4 ∧ sgV v (4 * s + l) = 0 ∧ sgV v (4 * s + l + 4) = 2)) := by
  have q1 : nI s + 1 = nI (s + 1) := nI_1 s
  obtain ⟨n, y, ⟨x, hx, rfl⟩, h1⟩ := lpF (fun n (y : Int32 × Int32) => lp_X10_isLawful_47 v (nI s) k n y.1 y.2) 4 (by decide) (fun i y => ∃ x : Int32, ((x = 1 ∧ z = 1 ∧ ∀ l : Nat, l < i → ¬ (sgV v (4 * s + l) = 0 ∧ sgV v (4 * s + l + 4) = 2)) ∨ (x = 0 ∧ (z = 0 ∨ ∃ l : Nat, l < 4 ∧ sgV v (4 * s + l) = 0 ∧ sgV v (4 * s + l + 4) = 2))) ∧ y = (x, nI i)) (by
    rintro n i y hi ⟨x, hx, rfl⟩
    have s1 := sign_m hv (show s < 12 by omega) hi
    have s2 := sign_m hv (show s + 1 < 12 by omega) hi
    have e4 : 4 * (s + 1) + i = 4 * s + i + 4 := by omega
    rw [e4] at s2
    rcases hx with ⟨rfl, hz1, hx⟩ | ⟨rfl, hx⟩
    · have go : ¬ (sgV v (4 * s + i) = 0 ∧ sgV v (4 * s + i + 4) = 2) → ∀ l : Nat, l < i + 1 → ¬ (sgV v (4 * s + l) = 0 ∧ sgV v (4 * s + l + 4) = 2) := fun c l hl => by
        by_cases e : l = i
        · rw [e]
          exact c
        · exact hx l (by omega)
      by_cases c2 : sgV v (4 * s + i + 4) = 2
      · by_cases c1 : sgV v (4 * s + i) = 0
        · refine ⟨(0, nI (i + 1)), ⟨0, Or.inr ⟨rfl, Or.inr ⟨i, hi, c1, c2⟩⟩, rfl⟩, ?_⟩
          show lp_X10_isLawful_47 v _ _ (n + 1) 1 (nI i) = lp_X10_isLawful_47 v _ _ n _ _
          simp only [lp_X10_isLawful_47, c_ge 4 4 hi (by decide), if_false, pz_let, z10, q1, s1, s2, pz_bind, eq_true c1, eq_true c2, if_true, nI_1]
        · refine ⟨(1, nI (i + 1)), ⟨1, Or.inl ⟨rfl, hz1, go (fun q => c1 q.1)⟩, rfl⟩, ?_⟩
          show lp_X10_isLawful_47 v _ _ (n + 1) 1 (nI i) = lp_X10_isLawful_47 v _ _ n _ _
          simp only [lp_X10_isLawful_47, c_ge 4 4 hi (by decide), if_false, pz_let, z10, q1, s1, s2, pz_bind, eq_false c1, eq_true c2, if_true, nI_1]
      · refine ⟨(1, nI (i + 1)), ⟨1, Or.inl ⟨rfl, hz1, go (fun q => c2 q.2)⟩, rfl⟩, ?_⟩
        show lp_X10_isLawful_47 v _ _ (n + 1) 1 (nI i) = lp_X10_isLawful_47 v _ _ n _ _
        simp only [lp_X10_isLawful_47, c_ge 4 4 hi (by decide), if_false, pz_let, z10, q1, s2, pz_bind, eq_false c2, nI_1]
    · refine ⟨(0, nI (i + 1)), ⟨0, Or.inr ⟨rfl, hx⟩, rfl⟩, ?_⟩
      show lp_X10_isLawful_47 v _ _ (n + 1) 0 (nI i) = lp_X10_isLawful_47 v _ _ n _ _
      simp only [lp_X10_isLawful_47, c_ge 4 4 hi (by decide), if_false, pz_let, z00, if_true, nI_1]) (z, 0) ⟨z, by
      rcases hz with rfl | rfl
      · exact Or.inr ⟨rfl, Or.inl rfl⟩
      · exact Or.inl ⟨rfl, rfl, fun l hl => absurd hl (Nat.not_lt_zero l)⟩, rfl⟩
  have e2 : lp_X10_isLawful_47 v (nI s) k (n + 1) x (nI 4) = k x := by
    simp only [lp_X10_isLawful_47, c_le 4 4 (by decide), if_true]
  rcases hx with ⟨rfl, hx⟩ | ⟨rfl, hx⟩
  · exact Or.inl ⟨h1.trans e2, hx⟩
  · exact Or.inr ⟨h1.trans e2, hx⟩
def lwG (v : MS) (s : Nat) : Prop := ¬ (mS_speedSign v (s + 1) + 20 < mS_speedSign v s) ∧ ∀ l : Nat, l < 4 → ¬ (sgV v (4 * s + l) = 0 ∧ sgV v (4 * s + l + 4) = 2)
theorem law_st0 (k : Int32 → Option (Int32 × MS)) (n : Nat) {i : Nat} (hi : i < 11) : lp_X10_isLawful_9 v k (n + 1) 0 (nI i) = lp_X10_isLawful_47 v (nI i) (fun x1 => g_let (nI i + 1) (fun v16 => lp_X10_isLawful_9 v k n x1 v16)) FU 0 0 := by
  rw [lp_X10_isLawful_9, if_neg (fun z => by rw [c_ge 11 11 hi (by decide)] at z; exact z), pz_let, pz_let, if_pos rfl]
theorem law_st1 (k : Int32 → Option (Int32 × MS)) (n : Nat) {i : Nat} (hi : i < 11) : lp_X10_isLawful_9 v k (n + 1) 1 (nI i) = lp_X10_isLawful_47 v (nI i) (fun x1 => g_let (nI i + 1) (fun v16 => lp_X10_isLawful_9 v k n x1 v16)) FU (if mS_speedSign v (i + 1) + 20 < mS_speedSign v i then 0 else 1) 0 := by
  have q1 : nI i + 1 = nI (i + 1) := nI_1 i
  rw [lp_X10_isLawful_9, if_neg (fun z => by rw [c_ge 11 11 hi (by decide)] at z; exact z), pz_let, pz_let, if_neg (by decide), pz_inN (show i < 12 by omega) (by decide), q1, pz_inN (show i + 1 < 12 by omega) (by decide), cl_I (show i < 2 ^ 31 by omega), cl_I (show i + 1 < 2 ^ 31 by omega)]
  by_cases c : mS_speedSign v (i + 1) + 20 < mS_speedSign v i
  · rw [if_pos c, if_pos c]
  · rw [if_neg c, if_neg c]
theorem law_out (hv : smV v) (k : Int32 → Option (Int32 × MS)) : (lp_X10_isLawful_9 v k FU 1 0 = k 1 ∧ ∀ s : Nat, s < 11 → lwG v s) ∨ (lp_X10_isLawful_9 v k FU 1 0 = k 0 ∧ ∃ s : Nat, s < 11 ∧ ¬ lwG v s) := by
  obtain ⟨n, y, ⟨x, hx, rfl⟩, h1⟩ := lpF (fun n (y : Int32 × Int32) => lp_X10_isLawful_9 v k n y.1 y.2) 11 (by decide) (fun i y => ∃ x : Int32, ((x = 1 ∧ ∀ s : Nat, s < i → lwG v s) ∨ (x = 0 ∧ ∃ s : Nat, s < 11 ∧ ¬ lwG v s)) ∧ y = (x, nI i)) (by
    rintro n i y hi ⟨x, hx, rfl⟩
    have q1 : nI i + 1 = nI (i + 1) := nI_1 i
    have kk : ∀ z : Int32, g_let (nI i + 1) (fun v16 => lp_X10_isLawful_9 v k n z v16) = lp_X10_isLawful_9 v k n z (nI (i + 1)) := fun z => by rw [pz_let, q1]
    rcases hx with ⟨rfl, hx⟩ | ⟨rfl, hx⟩
    · have st := law_st1 (v := v) k n hi
      by_cases c : mS_speedSign v (i + 1) + 20 < mS_speedSign v i
      · rw [if_pos c] at st
        rcases law_in hv hi (fun x1 => g_let (nI i + 1) (fun v16 => lp_X10_isLawful_9 v k n x1 v16)) 0 (Or.inl rfl) with ⟨-, q, -⟩ | ⟨q, -⟩
        · exact absurd q (by decide)
        · exact ⟨(0, nI (i + 1)), ⟨0, Or.inr ⟨rfl, i, hi, fun q => q.1 c⟩, rfl⟩, (st.trans q).trans (kk 0)⟩
      · rw [if_neg c] at st
        rcases law_in hv hi (fun x1 => g_let (nI i + 1) (fun v16 => lp_X10_isLawful_9 v k n x1 v16)) 1 (Or.inr rfl) with ⟨q, -, al⟩ | ⟨q, al⟩
        · refine ⟨(1, nI (i + 1)), ⟨1, Or.inl ⟨rfl, fun s hs => ?_⟩, rfl⟩, (st.trans q).trans (kk 1)⟩
          by_cases e : s = i
          · rw [e]
            exact ⟨c, al⟩
          · exact hx s (by omega)
        · obtain ⟨l, hl, l1⟩ := al.resolve_left (by decide)
          exact ⟨(0, nI (i + 1)), ⟨0, Or.inr ⟨rfl, i, hi, fun z => z.2 l hl l1⟩, rfl⟩, (st.trans q).trans (kk 0)⟩
    · have st := law_st0 (v := v) k n hi
      rcases law_in hv hi (fun x1 => g_let (nI i + 1) (fun v16 => lp_X10_isLawful_9 v k n x1 v16)) 0 (Or.inl rfl) with ⟨-, q, -⟩ | ⟨q, -⟩
      · exact absurd q (by decide)
      · exact ⟨(0, nI (i + 1)), ⟨0, Or.inr ⟨rfl, hx⟩, rfl⟩, (st.trans q).trans (kk 0)⟩) (1, 0) ⟨1, Or.inl ⟨rfl, fun s hs => absurd hs (Nat.not_lt_zero s)⟩, rfl⟩
  have e2 : lp_X10_isLawful_9 v k (n + 1) x (nI 11) = k x := by
    rw [lp_X10_isLawful_9, if_pos (by rw [c_le 11 11 (by decide)]; trivial)]
  rcases hx with ⟨rfl, hx⟩ | ⟨rfl, hx⟩
  · exact Or.inl ⟨h1.trans e2, hx⟩
  · exact Or.inr ⟨h1.trans e2, hx⟩
theorem sim_isLawful (h : Rel u v) : ∃ (r : Int32) (u' : GS) (v' : MS), g_X9_isLawful u = some (r, u') ∧ g_X10_isLawful v = some (r, v') ∧ Rel u' v' := by
  obtain ⟨hM, hT, hD, hS, hO, hH, hI, hP, hB, hK⟩ := id h
  obtain ⟨f, g, e3, hg⟩ := setLane (v := m_thrown_set v 0) hM hO.1 hH.1 hI hB
  have nx : Rel (cL_shown_set (cL_told_set u f) g) (m_thrown_set v 0) := ⟨hM, hT, hD, hS, hO, hH, hI, hP, hB, hK⟩
  have sp : ∀ s : Nat, mS_speedSign (m_thrown_set v 0) s = cS_shown (cL_shown_set (cL_told_set u f) g) s := fun s => congrFun hS.shown s
  have main := law_out (v := m_thrown_set v 0) (smV_of hI hB) (fun (x1_9 : Int32) => g_bo x1_9 (some (x1_9, m_thrown_set v 0)))
  have cl : (g_X9_isLawful u = some (1, cL_shown_set (cL_told_set u f) g) ∧ ∀ s : Nat, s < 11 → lwG (m_thrown_set v 0) s) ∨ (g_X9_isLawful u = some (0, cL_shown_set (cL_told_set u f) g) ∧ ∃ s : Nat, s < 11 ∧ ¬ lwG (m_thrown_set v 0) s) := by
    rcases spd_law (u := cL_shown_set (cL_told_set u f) g) with ⟨a1, a2⟩ | ⟨a1, s, hs, a2⟩
    · rcases lane_law (u := cL_shown_set (cL_told_set u f) g) with ⟨b1, b2⟩ | ⟨b1, p, hp, b2⟩
      · refine Or.inl ⟨?_, fun s hs => ⟨?_, fun l hl q => ?_⟩⟩
        · simp only [g_X9_isLawful, e3, pz_bind, a1, b1, z10, if_false]
        · rw [sp, sp]
          exact Int32.not_lt.mpr (a2 s hs)
        · refine b2 (4 * s + l) (by omega) ⟨(hg _ (by omega)).trans q.1, by omega, (hg _ (by omega)).trans q.2⟩
      · refine Or.inr ⟨?_, p / 4, by have := b2.2.1; omega, fun z => ?_⟩
        · simp only [g_X9_isLawful, e3, pz_bind, a1, b1, z10, if_false, if_true]
        · have e1 : 4 * (p / 4) + p % 4 = p := by omega
          have := z.2 (p % 4) (by omega)
          rw [e1] at this
          exact this ⟨(hg _ hp).symm.trans b2.1, (hg _ (by have := b2.2.1; omega)).symm.trans b2.2.2⟩
    · refine Or.inr ⟨?_, s, hs, fun z => ?_⟩
      · simp only [g_X9_isLawful, e3, pz_bind, a1, if_true]
      · have := z.1
        rw [sp, sp] at this
        exact a2 (Int32.not_lt.mp this)
  rcases cl with ⟨c1, c2⟩ | ⟨c1, s, hs, c2⟩
  · rcases main with ⟨m1, -⟩ | ⟨-, s, hs, m2⟩
    · refine ⟨1, _, m_thrown_set v 0, c1, ?_, nx⟩
      rw [g_X10_isLawful, pz_let]
      exact m1.trans (pz_bo1 _)
    · exact absurd (c2 s hs) m2
  · rcases main with ⟨-, m2⟩ | ⟨m1, -⟩
    · exact absurd (m2 s hs) c2
    · refine ⟨0, _, m_thrown_set v 0, c1, ?_, nx⟩
      rw [g_X10_isLawful, pz_let]
      exact m1.trans (pz_bo0 _)
end RELSB
end
section
/-! the traffic of one minute -/
theorem lpX {σ τ β γ : Type} (L : Nat → σ → Option β) (M : Nat → τ → Option γ) (C : Nat) (hC : C < 998) (P : Nat → σ → τ → Prop) (R : Option β → Option γ → Prop)
    (hs : ∀ n i s t, 0 < n → i < C → P i s t → (∃ s' t', P (i + 1) s' t' ∧ L (n + 1) s = L n s' ∧ M (n + 1) t = M n t') ∨ R (L (n + 1) s) (M (n + 1) t)) (s : σ) (t : τ) (h : P 0 s t) : (∃ n s' t', P C s' t' ∧ L FU s = L (n + 2) s' ∧ M FU t = M (n + 2) t') ∨ R (L FU s) (M FU t) := by
  obtain ⟨n, hn⟩ : ∃ n, FU = n + 1 + C + 1 := ⟨998 - C, by show 1000 = _; omega⟩
  rcases pz_lp2 (fun n => L (n + 1)) (fun n => M (n + 1)) C P R (fun n i s t => hs (n + 1) i s t (Nat.succ_pos n)) C 0 (n + 1) s t (by omega) h with ⟨s', t', h1, h2, h3⟩ | q
  · exact Or.inl ⟨n, s', t', h1, by rw [hn]; exact h2, by rw [hn]; exact h3⟩
  · exact Or.inr (by rw [hn]; exact q)
def TB (T : cT_t) : Prop := ∀ p : Nat, p < 48 → ∃ h : Nat, h ≤ 20 ∧ T.1 p = nI h
theorem TB.upd {T : cT_t} (h : TB T) (i x : Nat) (hx : x ≤ 20) (W : (Nat → Int32) × (Nat → Int32) × Int32 × Int32 × Int32 × Int32) : TB (upd T.1 i (nI x), W) := fun p hp => by
  by_cases e : p = i
  · exact ⟨x, hx, by rw [e]; exact pk_us⟩
  · obtain ⟨y, hy, ey⟩ := h p hp
    exact ⟨y, hy, (pk_un e).trans ey⟩
theorem ctp1 (u : GS) (T : cT_t) : cT_held (qcT_put u T) = T.1 := rfl
theorem ctp2 (u : GS) (T : cT_t) : cT_stopped (qcT_put u T) = T.2.1 := rfl
theorem ctp3 (u : GS) (T : cT_t) : cT_broken (qcT_put u T) = T.2.2.1 := rfl
theorem ctp4 (u : GS) (T : cT_t) : cL_shown (qcT_put u T) = cL_shown u := rfl
theorem ctp5 (u : GS) (T : cT_t) (f : Nat → Int32) : cT_held_set (qcT_put u T) f = qcT_put u (f, T.2) := rfl
theorem ctp6 (u : GS) (T : cT_t) (x : Int32) : cT_gone_set (qcT_put u T) x = qcT_put u (T.1, T.2.1, T.2.2.1, T.2.2.2.1, T.2.2.2.2.1, T.2.2.2.2.2.1, x) := rfl
theorem ctp7 (u : GS) (T : cT_t) : cT_gone (qcT_put u T) = T.2.2.2.2.2.2 := rfl
theorem mtp1 (v : MS) (T : cT_t) : mT_holding (qmT_put v T) = T.1 := rfl
theorem mtp2 (v : MS) (T : cT_t) : mT_isStopped (qmT_put v T) = T.2.1 := rfl
theorem mtp3 (v : MS) (T : cT_t) : mT_isBroken (qmT_put v T) = T.2.2.1 := rfl
theorem mtp5 (v : MS) (T : cT_t) (f : Nat → Int32) : mT_holding_set (qmT_put v T) f = qmT_put v (f, T.2) := rfl
theorem mtp6 (v : MS) (T : cT_t) (x : Int32) : mT_gone_set (qmT_put v T) x = qmT_put v (T.1, T.2.1, T.2.2.1, T.2.2.2.1, T.2.2.2.2.1, T.2.2.2.2.2.1, x) := rfl
theorem mtp7 (v : MS) (T : cT_t) : mT_gone (qmT_put v T) = T.2.2.2.2.2.2 := rfl
/-- a place lets in: no cross, not full -/
def liP (v : MS) (T : cT_t) (p : Nat) : Prop := ¬ sgV v p = 2 ∧ ¬ (20 : Int32) ≤ T.1 p
section RELSC
variable {u : GS} {v : MS} {T : cT_t}
theorem li_c (hg : ∀ p : Nat, p < 48 → cL_shown u p = sgV v p) {p : Nat} (hp : p < 48) : (liP v T p ∧ g_X8_letsIn (qcT_put u T) (nI p) = some 1) ∨ (¬ liP v T p ∧ g_X8_letsIn (qcT_put u T) (nI p) = some 0) := by
  have i1 : g_X9_isWithin (nI p) 0 47 = some 1 := isw (k := p) (a := 0) (b := 47) _ rfl (Nat.zero_le _) (by omega) (by decide) _ _
  have cp := cl_I (show p < 2 ^ 31 by omega)
  have g48 : ∀ {α : Type} (a : Option α), g_in (nI p) 48 a = a := fun a => pz_inN hp (by decide) a
  by_cases c1 : sgV v p = 2
  · refine Or.inr ⟨fun q => q.1 c1, ?_⟩
    simp only [g_X8_letsIn, i1, pz_bind, z10, if_false, g48, cp, ctp4, hg p hp, eq_true c1, if_true]
  · by_cases c2 : (20 : Int32) ≤ T.1 p
    · refine Or.inr ⟨fun q => q.2 c2, ?_⟩
      simp only [g_X8_letsIn, i1, pz_bind, z10, if_false, g48, cp, ctp4, hg p hp, eq_false c1, ctp1, eq_true c2, if_true]
    · refine Or.inl ⟨⟨c1, c2⟩, ?_⟩
      simp only [g_X8_letsIn, i1, pz_bind, z10, if_false, g48, cp, ctp4, hg p hp, eq_false c1, ctp1, eq_false c2]
theorem li_m (hv : smV v) {s l : Nat} (hs : s < 12) (hl : l < 4) : (liP v T (4 * s + l) ∧ g_X10_letsIn (qmT_put v T) (nI s) (nI l) = some 1) ∨ (¬ liP v T (4 * s + l) ∧ g_X10_letsIn (qmT_put v T) (nI s) (nI l) = some 0) := by
  have i1 : g_X10_isIn (nI l) 0 3 = some 1 := isw (k := l) (a := 0) (b := 3) _ rfl (Nat.zero_le _) (by omega) (by decide) _ _
  have hk : 4 * s + l < 48 := by omega
  have cp := cl_I (show 4 * s + l < 2 ^ 31 by omega)
  have sg : g_X10_signOf (qmT_put v T) (nI s) (nI l) = some (sgV v (4 * s + l)) := sign_m (v := qmT_put v T) hv hs hl
  have g48 : ∀ {α : Type} (a : Option α), g_in (nI (4 * s + l)) 48 a = a := fun a => pz_inN hk (by decide) a
  by_cases c1 : sgV v (4 * s + l) = 2
  · refine Or.inr ⟨fun q => q.1 c1, ?_⟩
    simp only [g_X10_letsIn, i1, pz_bind, z10, if_false, sg, eq_true c1, if_true]
  · by_cases c2 : (20 : Int32) ≤ T.1 (4 * s + l)
    · refine Or.inr ⟨fun q => q.2 c2, ?_⟩
      simp only [g_X10_letsIn, i1, pz_bind, z10, if_false, sg, eq_false c1, mpl, g48, cp, mtp1, eq_true c2, if_true]
    · refine Or.inl ⟨⟨c1, c2⟩, ?_⟩
      simp only [g_X10_letsIn, i1, pz_bind, z10, if_false, sg, eq_false c1, mpl, g48, cp, mtp1, eq_false c2]
/-- one try: the lane z of the next section -/
theorem tryc (hv : smV v) (hg : ∀ p : Nat, p < 48 → cL_shown u p = sgV v p) {s : Nat} (hs : s < 11) (z : Int32) :
    (∃ l : Nat, l < 4 ∧ z = nI l ∧ liP v T (4 * (s + 1) + l) ∧ g_X9_isWithin z 0 3 = some 1 ∧ g_X9_placeOf (nI s + 1) z = some (nI (4 * (s + 1) + l)) ∧ g_X8_letsIn (qcT_put u T) (nI (4 * (s + 1) + l)) = some 1 ∧ g_X10_letsIn (qmT_put v T) (nI s + 1) z = some 1) ∨
    (g_X10_letsIn (qmT_put v T) (nI s + 1) z = some 0 ∧ (g_X9_isWithin z 0 3 = some 0 ∨ (g_X9_isWithin z 0 3 = some 1 ∧ ∃ y : Int32, g_X9_placeOf (nI s + 1) z = some y ∧ g_X8_letsIn (qcT_put u T) y = some 0))) := by
  have q1 : nI s + 1 = nI (s + 1) := nI_1 s
  rw [q1]
  rcases iwc z 0 3 with ⟨h1, h2, i1, -⟩ | ⟨-, i1, i2⟩
  · obtain ⟨l, hl, rfl⟩ := ix_of 3 (n := 3) rfl (by decide) h1 h2
    have pN := placeN (s + 1) l
    rcases li_c (T := T) hg (show 4 * (s + 1) + l < 48 by omega) with ⟨a1, a2⟩ | ⟨a1, a2⟩
    · rcases li_m (T := T) hv (show s + 1 < 12 by omega) (show l < 4 by omega) with ⟨-, b2⟩ | ⟨b1, -⟩
      · exact Or.inl ⟨l, by omega, rfl, a1, i1, pN, a2, b2⟩
      · exact absurd a1 b1
    · rcases li_m (T := T) hv (show s + 1 < 12 by omega) (show l < 4 by omega) with ⟨b1, -⟩ | ⟨-, b2⟩
      · exact absurd b1 a1
      · exact Or.inr ⟨b2, Or.inr ⟨i1, _, pN, a2⟩⟩
  · refine Or.inr ⟨?_, Or.inl i1⟩
    simp only [g_X10_letsIn, i2, pz_bind, if_true]
theorem pa_o (hv : smV v) (hg : ∀ p : Nat, p < 48 → cL_shown u p = sgV v p) {s : Nat} (hs : s < 11) (l : Int32) (n i : Nat) (hi : i < 3) (z : Int32) (hz : l + tioF i = z) (k : Unit → Option Int32) :
    (∃ l' : Nat, l' < 4 ∧ z = nI l' ∧ liP v T (4 * (s + 1) + l') ∧ lp_X8_placeAhead_24_v2 (qcT_put u T) (nI s) l k (n + 1) (nI i) = some (nI (4 * (s + 1) + l')) ∧ g_X10_letsIn (qmT_put v T) (nI s + 1) z = some 1) ∨
    (lp_X8_placeAhead_24_v2 (qcT_put u T) (nI s) l k (n + 1) (nI i) = lp_X8_placeAhead_24_v2 (qcT_put u T) (nI s) l k n (nI (i + 1)) ∧ g_X10_letsIn (qmT_put v T) (nI s + 1) z = some 0) := by
  rcases tryc (T := T) hv hg hs z with ⟨l', h1, h2, h3, h4, h5, h6, h7⟩ | ⟨h7, h4 | ⟨h4, y, h5, h6⟩⟩
  · refine Or.inl ⟨l', h1, h2, h3, ?_, h7⟩
    simp only [lp_X8_placeAhead_24_v2, c_ge 3 3 hi (by decide), if_false, pz_inN hi (show 3 < 2 ^ 31 by decide), cl_I (show i < 2 ^ 31 by omega), pz_let, hz, h4, pz_bind, z10, h5, h6]
  · refine Or.inr ⟨?_, h7⟩
    simp only [lp_X8_placeAhead_24_v2, c_ge 3 3 hi (by decide), if_false, pz_inN hi (show 3 < 2 ^ 31 by decide), cl_I (show i < 2 ^ 31 by omega), pz_let, hz, h4, pz_bind, if_true, nI_1]
  · refine Or.inr ⟨?_, h7⟩
    rw [nI_1] at h5
    simp only [lp_X8_placeAhead_24_v2, c_ge 3 3 hi (by decide), if_false, pz_inN hi (show 3 < 2 ^ 31 by decide), cl_I (show i < 2 ^ 31 by omega), pz_let, hz, h4, pz_bind, z10, h5, h6, if_true, nI_1]
theorem pa_n (hv : smV v) (hg : ∀ p : Nat, p < 48 → cL_shown u p = sgV v p) {s : Nat} (hs : s < 11) (l : Int32) (n i : Nat) (hi : i < 3) (z : Int32) (hz : l + tinF i = z) (k : Unit → Option Int32) :
    (∃ l' : Nat, l' < 4 ∧ z = nI l' ∧ liP v T (4 * (s + 1) + l') ∧ lp_X8_placeAhead_24 (qcT_put u T) (nI s) l k (n + 1) (nI i) = some (nI (4 * (s + 1) + l')) ∧ g_X10_letsIn (qmT_put v T) (nI s + 1) z = some 1) ∨
    (lp_X8_placeAhead_24 (qcT_put u T) (nI s) l k (n + 1) (nI i) = lp_X8_placeAhead_24 (qcT_put u T) (nI s) l k n (nI (i + 1)) ∧ g_X10_letsIn (qmT_put v T) (nI s + 1) z = some 0) := by
  rcases tryc (T := T) hv hg hs z with ⟨l', h1, h2, h3, h4, h5, h6, h7⟩ | ⟨h7, h4 | ⟨h4, y, h5, h6⟩⟩
  · refine Or.inl ⟨l', h1, h2, h3, ?_, h7⟩
    simp only [lp_X8_placeAhead_24, c_ge 3 3 hi (by decide), if_false, pz_inN hi (show 3 < 2 ^ 31 by decide), cl_I (show i < 2 ^ 31 by omega), pz_let, hz, h4, pz_bind, z10, h5, h6]
  · refine Or.inr ⟨?_, h7⟩
    simp only [lp_X8_placeAhead_24, c_ge 3 3 hi (by decide), if_false, pz_inN hi (show 3 < 2 ^ 31 by decide), cl_I (show i < 2 ^ 31 by omega), pz_let, hz, h4, pz_bind, if_true, nI_1]
  · refine Or.inr ⟨?_, h7⟩
    rw [nI_1] at h5
    simp only [lp_X8_placeAhead_24, c_ge 3 3 hi (by decide), if_false, pz_inN hi (show 3 < 2 ^ 31 by decide), cl_I (show i < 2 ^ 31 by omega), pz_let, hz, h4, pz_bind, z10, h5, h6, if_true, nI_1]
/-- where one goes from a lane: the same in both -/
theorem goTo (hv : smV v) (hg : ∀ p : Nat, p < 48 → cL_shown u p = sgV v p) {s l : Nat} (hs : s < 11) (hl : l < 4) :
    (g_X8_placeAhead (qcT_put u T) (nI s) (nI l) = some (-1) ∧ g_X10_goesTo (qmT_put v T) (nI s) (nI l) = some (-1)) ∨
    (∃ l' : Nat, l' < 4 ∧ liP v T (4 * (s + 1) + l') ∧ g_X8_placeAhead (qcT_put u T) (nI s) (nI l) = some (nI (4 * (s + 1) + l')) ∧ g_X10_goesTo (qmT_put v T) (nI s) (nI l) = some (nI l')) := by
  have hk : 4 * s + l < 48 := by omega
  have sg : g_X10_signOf (qmT_put v T) (nI s) (nI l) = some (sgV v (4 * s + l)) := sign_m (v := qmT_put v T) hv (by omega) hl
  have t0 : nI l + tioF 0 = nI l := Int32.add_zero _
  have t1 : nI l + tioF 1 = nI l - 1 := (Int32.sub_eq_add_neg _ _).symm
  have t2 : nI l + tioF 2 = nI l + 1 := rfl
  have r0 : nI l + tinF 0 = nI l - 1 := (Int32.sub_eq_add_neg _ _).symm
  have r1 : nI l + tinF 1 = nI l + 1 := rfl
  have r2 : nI l + tinF 2 = nI l := Int32.add_zero _
  have e3 : ∀ k, lp_X8_placeAhead_24_v2 (qcT_put u T) (nI s) (nI l) k 997 (nI 3) = k () := fun k => by
    have : ∀ n : Nat, lp_X8_placeAhead_24_v2 (qcT_put u T) (nI s) (nI l) k (n + 1) (nI 3) = k () := fun n => by rw [lp_X8_placeAhead_24_v2, if_pos (by rw [c_le 3 3 (by decide)]; trivial)]
    exact this 996
  have e4 : ∀ k, lp_X8_placeAhead_24 (qcT_put u T) (nI s) (nI l) k 997 (nI 3) = k () := fun k => by
    have : ∀ n : Nat, lp_X8_placeAhead_24 (qcT_put u T) (nI s) (nI l) k (n + 1) (nI 3) = k () := fun n => by rw [lp_X8_placeAhead_24, if_pos (by rw [c_le 3 3 (by decide)]; trivial)]
    exact this 996
  by_cases c : sgV v (4 * s + l) = 0
  · have ec : g_X8_placeAhead (qcT_put u T) (nI s) (nI l) = lp_X8_placeAhead_24_v2 (qcT_put u T) (nI s) (nI l) (fun (_ : Unit) => some (-1 : Int32)) FU (nI 0) := by
      rw [g_X8_placeAhead, placeN, pz_bind, pz_inN hk (by decide), cl_I (by omega), ctp4, hg _ hk, if_pos c]
      rfl
    rcases pa_o (T := T) hv hg hs (nI l) 999 0 (by omega) _ t0 (fun (_ : Unit) => some (-1 : Int32)) with ⟨l', a1, a2, a3, a4, a5⟩ | ⟨a4, a5⟩
    · refine Or.inr ⟨l', a1, a3, ec.trans a4, ?_⟩
      simp only [g_X10_goesTo, sg, pz_bind, pz_let, eq_true c, if_true, z10, if_false, a5]
      exact congrArg some a2
    · rcases pa_o (T := T) hv hg hs (nI l) 998 1 (by omega) _ t1 (fun (_ : Unit) => some (-1 : Int32)) with ⟨l', b1, b2, b3, b4, b5⟩ | ⟨b4, b5⟩
      · refine Or.inr ⟨l', b1, b3, (ec.trans a4).trans b4, ?_⟩
        simp only [g_X10_goesTo, sg, pz_bind, pz_let, eq_true c, if_true, z10, if_false, a5, b5, ← b2]
      · rcases pa_o (T := T) hv hg hs (nI l) 997 2 (by omega) _ t2 (fun (_ : Unit) => some (-1 : Int32)) with ⟨l', d1, d2, d3, d4, d5⟩ | ⟨d4, d5⟩
        · refine Or.inr ⟨l', d1, d3, ((ec.trans a4).trans b4).trans d4, ?_⟩
          simp only [g_X10_goesTo, sg, pz_bind, pz_let, eq_true c, if_true, z10, if_false, a5, b5, d5, ← d2]
        · refine Or.inl ⟨(((ec.trans a4).trans b4).trans d4).trans (e3 _), ?_⟩
          simp only [g_X10_goesTo, sg, pz_bind, pz_let, eq_true c, if_true, z10, if_false, a5, b5, d5]
  · have ec : g_X8_placeAhead (qcT_put u T) (nI s) (nI l) = lp_X8_placeAhead_24 (qcT_put u T) (nI s) (nI l) (fun (_ : Unit) => some (-1 : Int32)) FU (nI 0) := by
      rw [g_X8_placeAhead, placeN, pz_bind, pz_inN hk (by decide), cl_I (by omega), ctp4, hg _ hk, if_neg c]
      rfl
    rcases pa_n (T := T) hv hg hs (nI l) 999 0 (by omega) _ r0 (fun (_ : Unit) => some (-1 : Int32)) with ⟨l', a1, a2, a3, a4, a5⟩ | ⟨a4, a5⟩
    · refine Or.inr ⟨l', a1, a3, ec.trans a4, ?_⟩
      simp only [g_X10_goesTo, sg, pz_bind, pz_let, eq_false c, if_false, if_true, z00, z10, a5, ← a2]
    · rcases pa_n (T := T) hv hg hs (nI l) 998 1 (by omega) _ r1 (fun (_ : Unit) => some (-1 : Int32)) with ⟨l', b1, b2, b3, b4, b5⟩ | ⟨b4, b5⟩
      · refine Or.inr ⟨l', b1, b3, (ec.trans a4).trans b4, ?_⟩
        simp only [g_X10_goesTo, sg, pz_bind, pz_let, eq_false c, if_false, if_true, z00, z10, a5, b5, ← b2]
      · rcases pa_n (T := T) hv hg hs (nI l) 997 2 (by omega) _ r2 (fun (_ : Unit) => some (-1 : Int32)) with ⟨l', d1, d2, d3, d4, d5⟩ | ⟨d4, d5⟩
        · refine Or.inr ⟨l', d1, d3, ((ec.trans a4).trans b4).trans d4, ?_⟩
          simp only [g_X10_goesTo, sg, pz_bind, pz_let, eq_false c, if_false, if_true, z00, z10, a5, b5, d5]
          exact congrArg some d2
        · refine Or.inl ⟨(((ec.trans a4).trans b4).trans d4).trans (e4 _), ?_⟩
          simp only [g_X10_goesTo, sg, pz_bind, pz_let, eq_false c, if_false, if_true, z00, z10, a5, b5, d5]
end RELSC
end
section
section RELSD
variable {u : GS} {v : MS} {T : cT_t}
theorem updC (f : Nat → Int32) {p q : Nat} (h : p ≠ q) (a b : Int32) : upd (upd f q a) p b = upd (upd f p b) q a := funext fun k => by
  by_cases e : k = p
  · rw [e, pk_us, pk_un h, pk_us]
  · rw [pk_un e]
    by_cases e2 : k = q
    · rw [e2, pk_us, pk_us]
    · rw [pk_un e2, pk_un e2, pk_un e]
theorem goFrom (hv : smV v) (hg : ∀ p : Nat, p < 48 → cL_shown u p = sgV v p) (hT : TB T) {s l : Nat} (hs : s < 12) (hl : l < 4) : ∃ T' : cT_t, TB T' ∧ g_X8_goOnFrom (qcT_put u T) (nI s) (nI l) = some (qcT_put u T') ∧ g_X10_goes (qmT_put v T) (nI s) (nI l) = some (qmT_put v T') := by
  have hk : 4 * s + l < 48 := by omega
  have cp := cl_I (show 4 * s + l < 2 ^ 31 by omega)
  have cs := cl_I (show s < 2 ^ 31 by omega)
  have g48 : ∀ {α : Type} (a : Option α), g_in (nI (4 * s + l)) 48 a = a := fun a => pz_inN hk (by decide) a
  have g12 : ∀ {α : Type} (a : Option α), g_in (nI s) 12 a = a := fun a => pz_inN hs (by decide) a
  obtain ⟨h, hh, eh⟩ := hT (4 * s + l) hk
  obtain ⟨m, hm, e1, e2⟩ : ∃ m : Nat, m ≤ 8 ∧ g_X8_mostThatGoOn (qcT_put u T) (nI s) (nI (4 * s + l)) = some (nI m) ∧ g_X10_goes (qmT_put v T) (nI s) (nI l) = lp_X10_goes_43 (nI s) (nI l) (nI (4 * s + l)) (nI m) (fun (w43 : MS) => some w43) FU (1 : Int32) (0 : Int32) (qmT_put v T) := by
    by_cases c1 : T.2.1 (4 * s + l) = 0
    · have st : g_X8_isStoppedAt (qcT_put u T) (nI (4 * s + l)) = some 0 := (stopd (u := qcT_put u T) hk).trans (by rw [ctp2, if_pos c1])
      by_cases c2 : T.2.2.1 s = 0
      · refine ⟨8, by omega, ?_, ?_⟩
        · simp only [g_X8_mostThatGoOn, st, pz_bind, if_true, g12, cs, ctp3, eq_true c2]
          rfl
        · rw [g_X10_goes, pz_let, mpl, g48, pz_let, mtp2, cp, if_pos c1, g12, mtp3, cs, if_pos c2]
          rfl
      · refine ⟨6, by omega, ?_, ?_⟩
        · simp only [g_X8_mostThatGoOn, st, pz_bind, if_true, g12, cs, ctp3, eq_false c2, if_false]
          rfl
        · rw [g_X10_goes, pz_let, mpl, g48, pz_let, mtp2, cp, if_pos c1, g12, mtp3, cs, if_neg c2]
          rfl
    · have st : g_X8_isStoppedAt (qcT_put u T) (nI (4 * s + l)) = some 1 := (stopd (u := qcT_put u T) hk).trans (by rw [ctp2, if_neg c1])
      refine ⟨0, by omega, ?_, ?_⟩
      · simp only [g_X8_mostThatGoOn, st, pz_bind, z10, if_false]
        rfl
      · rw [g_X10_goes, pz_let, mpl, g48, pz_let, mtp2, cp, if_neg c1]
        rfl
  obtain ⟨N, hN, n1, n2, n3⟩ : ∃ N : Nat, (if nI m < nI h then nI m else nI h) = nI N ∧ N ≤ m ∧ N ≤ h ∧ (N = m ∨ N = h) := by
    by_cases c : m < h
    · exact ⟨m, by rw [if_pos (nI_lt c (by omega))], by omega, by omega, Or.inl rfl⟩
    · exact ⟨h, by rw [if_neg (nI_nlt (by omega) (by omega))], by omega, by omega, Or.inr rfl⟩
  have e3 : g_X8_goOnFrom (qcT_put u T) (nI s) (nI l) = lp_X8_goOnFrom_28 (nI s) (nI l) (nI (4 * s + l)) (nI N) (fun (w28 : GS) => some w28) FU (0 : Int32) (qcT_put u T) := by
    rw [g_X8_goOnFrom, placeN, pz_bind, heldN (u := qcT_put u T) hk, pz_bind, ctp1, eh, e1, pz_bind, pz_let, hN]
  have main := lpX (fun n (z : Int32 × GS) => lp_X8_goOnFrom_28 (nI s) (nI l) (nI (4 * s + l)) (nI N) (fun (w28 : GS) => some w28) n z.1 z.2) (fun n (t : Int32 × Int32 × MS) => lp_X10_goes_43 (nI s) (nI l) (nI (4 * s + l)) (nI m) (fun (w43 : MS) => some w43) n t.1 t.2.1 t.2.2) N (by omega) (fun i z t => ∃ T' : cT_t, TB T' ∧ T'.1 (4 * s + l) = nI (h - i) ∧ z = (nI i, qcT_put u T') ∧ t = (1, nI i, qmT_put v T')) (fun a b => ∃ T' : cT_t, TB T' ∧ a = some (qcT_put u T') ∧ b = some (qmT_put v T')) (by
    rintro n i z t hn hi ⟨T', hT', eT, rfl, rfl⟩
    have b1 := eq_false (nI_ge hi (show N < 2 ^ 31 by omega))
    have b2 := eq_false (nI_ge (show i < m by omega) (show m < 2 ^ 31 by omega))
    have b3 : (nI (h - i) ≤ 0) = False := eq_false (nI_nle (by omega) (by omega))
    have b4 : nI (h - i) - 1 = nI (h - i - 1) := pk_sub (b := 1) (by omega)
    have b5 : h - i - 1 = h - (i + 1) := by omega
    by_cases s11 : s = 11
    · have t11 : (nI s = 11) = True := eq_true (by rw [s11]; rfl)
      refine Or.inl ⟨_, _, ⟨(upd T'.1 (4 * s + l) (nI (h - (i + 1))), T'.2.1, T'.2.2.1, T'.2.2.2.1, T'.2.2.2.2.1, T'.2.2.2.2.2.1, T'.2.2.2.2.2.2 + 1), hT'.upd _ _ (by omega) _, pk_us, rfl, rfl⟩, ?_, ?_⟩
      · show lp_X8_goOnFrom_28 _ _ _ _ _ (n + 1) (nI i) _ = lp_X8_goOnFrom_28 _ _ _ _ _ n _ _
        simp only [lp_X8_goOnFrom_28, b1, if_false, pz_let, g48, cp, t11, if_true, ctp7, ctp6, ctp1, eT, b4, b5, ctp5, nI_1]
      · show lp_X10_goes_43 _ _ _ _ _ (n + 1) 1 (nI i) _ = lp_X10_goes_43 _ _ _ _ _ n 1 _ _
        simp only [lp_X10_goes_43, b2, if_false, z10, g48, cp, mtp1, eT, b3, pz_let, t11, if_true, eq_false (nm1 l (by omega)), b4, b5, mtp5, mtp7, mtp6, nI_1]
    · have t11 : (nI s = 11) = False := eq_false (fun q => s11 ((nI_eq (b := 11) (by omega) (by decide)).mp q))
      rcases goTo (T := T') hv hg (show s < 11 by omega) hl with ⟨g1, g2⟩ | ⟨l', hl', li, g1, g2⟩
      · refine Or.inr ⟨T', hT', ?_, ?_⟩
        · show lp_X8_goOnFrom_28 _ _ _ _ _ (n + 1) (nI i) _ = _
          simp only [lp_X8_goOnFrom_28, b1, if_false, pz_let, t11, g1, pz_bind, if_true]
        · have x1 : lp_X10_goes_43 (nI s) (nI l) (nI (4 * s + l)) (nI m) (fun (w43 : MS) => some w43) (n + 1) 1 (nI i) (qmT_put v T') = lp_X10_goes_43 (nI s) (nI l) (nI (4 * s + l)) (nI m) (fun (w43 : MS) => some w43) n 0 (nI (i + 1)) (qmT_put v T') := by
            simp only [lp_X10_goes_43, b2, if_false, z10, z00, g48, cp, mtp1, eT, b3, pz_let, t11, g2, pz_bind, if_true, nI_1]
          refine x1.trans ?_
          obtain ⟨n, rfl⟩ : ∃ j, n = j + 1 := ⟨n - 1, by omega⟩
          by_cases c : nI m ≤ nI (i + 1)
          · rw [lp_X10_goes_43, if_pos c]
          · rw [lp_X10_goes_43, if_neg c, if_pos rfl]
      · obtain ⟨x, hx, ex⟩ := hT' (4 * (s + 1) + l') (by omega)
        have x20 : x < 20 := Classical.byContradiction fun q => li.2 (by
          rw [ex]
          exact nI_le (a := 20) (by omega) (by omega))
        have ne : 4 * s + l ≠ 4 * (s + 1) + l' := by omega
        have cq := cl_I (show 4 * (s + 1) + l' < 2 ^ 31 by omega)
        have gq : ∀ {α : Type} (a : Option α), g_in (nI (4 * (s + 1) + l')) 48 a = a := fun a => pz_inN (by omega) (by decide) a
        have mi : (((4 : Int32) * nI s) + (4 : Int32)) + nI l' = nI (4 * (s + 1) + l') := by
          rw [show (4 : Int32) = nI 4 from rfl, pk_mul, nI_add, nI_add]
          exact congrArg nI (by omega)
        refine Or.inl ⟨_, _, ⟨(upd (upd T'.1 (4 * (s + 1) + l') (nI (x + 1))) (4 * s + l) (nI (h - (i + 1))), T'.2), ?_, pk_us, rfl, rfl⟩, ?_, ?_⟩
        · exact TB.upd (T := (upd T'.1 (4 * (s + 1) + l') (nI (x + 1)), T'.2)) (hT'.upd _ _ (by omega) T'.2) _ _ (by omega) _
        · show lp_X8_goOnFrom_28 _ _ _ _ _ (n + 1) (nI i) _ = lp_X8_goOnFrom_28 _ _ _ _ _ n _ _
          simp only [lp_X8_goOnFrom_28, b1, if_false, pz_let, t11, g1, pz_bind, eq_false (nm1 (4 * (s + 1) + l') (by omega)), gq, cq, ctp1, ex, nI_1, ctp5, g48, cp, pk_un ne, eT, b4, b5]
        · show lp_X10_goes_43 _ _ _ _ _ (n + 1) 1 (nI i) _ = lp_X10_goes_43 _ _ _ _ _ n 1 _ _
          simp only [lp_X10_goes_43, b2, if_false, z10, g48, cp, mtp1, eT, b3, pz_let, t11, g2, pz_bind, eq_false (nm1 l' (by omega)), b4, b5, mtp5, mi, gq, cq, pk_un (Ne.symm ne), ex, nI_1, updC T'.1 ne]) (0, qcT_put u T) (1, 0, qmT_put v T) ⟨T, hT, eh, rfl, rfl⟩
  rcases main with ⟨n, z, t, ⟨T', hT', eT, rfl, rfl⟩, h1, h2⟩ | ⟨T', hT', h1, h2⟩
  · refine ⟨T', hT', (e3.trans h1).trans ?_, (e2.trans h2).trans ?_⟩
    · show lp_X8_goOnFrom_28 _ _ _ _ _ (n + 1 + 1) (nI N) _ = _
      rw [lp_X8_goOnFrom_28, if_pos (nI_le (Nat.le_refl N) (by omega))]
    · show lp_X10_goes_43 _ _ _ _ _ (n + 1 + 1) 1 (nI N) _ = _
      rcases n3 with c | c
      · rw [lp_X10_goes_43, if_pos (nI_le (by omega) (by omega))]
      · by_cases c2 : nI m ≤ nI N
        · rw [lp_X10_goes_43, if_pos c2]
        · rw [lp_X10_goes_43, if_neg c2, if_neg (by decide), g48, cp, mtp1, eT, c, Nat.sub_self, if_pos (by decide)]
  · exact ⟨T', hT', e3.trans h1, e2.trans h2⟩
/-- a section's lanes, then all sections from the last one on -/
theorem goLanes (hv : smV v) (hg : ∀ p : Nat, p < 48 → cL_shown u p = sgV v p) (hT : TB T) {s : Nat} (hs : s < 12) (k : GS → Option GS) (k' : MS → Option MS) : ∃ T' : cT_t, TB T' ∧ lp_X8_goOn_9 (nI s) k FU 0 (qcT_put u T) = k (qcT_put u T') ∧ lp_X10_minute_23 (nI s) k' FU 0 (qmT_put v T) = k' (qmT_put v T') := by
  obtain ⟨n, z, t, ⟨T', hT', rfl, rfl⟩, h1, h2⟩ := lpR (fun n (z : Int32 × GS) => lp_X8_goOn_9 (nI s) k n z.1 z.2) (fun n (t : Int32 × MS) => lp_X10_minute_23 (nI s) k' n t.1 t.2) 4 (by decide) (fun i z t => ∃ T' : cT_t, TB T' ∧ z = (nI i, qcT_put u T') ∧ t = (nI i, qmT_put v T')) (by
    rintro n i z t hi ⟨T', hT', rfl, rfl⟩
    obtain ⟨T2, h2, e1, e2⟩ := goFrom hv hg hT' hs hi
    refine ⟨_, _, ⟨T2, h2, rfl, rfl⟩, ?_, ?_⟩
    · show lp_X8_goOn_9 _ _ (n + 1) (nI i) _ = lp_X8_goOn_9 _ _ n _ _
      rw [lp_X8_goOn_9, if_neg (fun q => by rw [c_ge 4 4 hi (by decide)] at q; exact q), e1, pz_bind, pz_let, nI_1]
    · show lp_X10_minute_23 _ _ (n + 1) (nI i) _ = lp_X10_minute_23 _ _ n _ _
      rw [lp_X10_minute_23, if_neg (fun q => by rw [c_ge 4 4 hi (by decide)] at q; exact q), e2, pz_bind, pz_let, nI_1]) (0, qcT_put u T) (0, qmT_put v T) ⟨T, hT, rfl, rfl⟩
  refine ⟨T', hT', h1.trans ?_, h2.trans ?_⟩
  · show lp_X8_goOn_9 _ _ (n + 1) (nI 4) _ = _
    rw [lp_X8_goOn_9, if_pos (by rw [c_le 4 4 (by decide)]; trivial)]
  · show lp_X10_minute_23 _ _ (n + 1) (nI 4) _ = _
    rw [lp_X10_minute_23, if_pos (by rw [c_le 4 4 (by decide)]; trivial)]
/-- from the last section on -/
def dn (i : Nat) : Int32 := if i < 12 then nI (11 - i) else -1
theorem dn_lt {i : Nat} (h : i < 12) : dn i = nI (11 - i) := if_pos h
theorem dn_step {i : Nat} (h : i < 12) : dn i + (-1) = dn (i + 1) := by
  rw [dn_lt h]
  by_cases c : i = 11
  · rw [c]
    decide
  · rw [dn_lt (show i + 1 < 12 by omega), show 11 - i = (11 - (i + 1)) + 1 by omega, pk_m1]
theorem goAll (hv : smV v) (hg : ∀ p : Nat, p < 48 → cL_shown u p = sgV v p) (hT : TB T) (k' : MS → Option MS) : ∃ T' : cT_t, TB T' ∧ g_X8_goOn (qcT_put u T) = some (qcT_put u T') ∧ lp_X10_minute_17 k' FU 11 (qmT_put v T) = k' (qmT_put v T') := by
  obtain ⟨n, z, t, ⟨T', hT', rfl, rfl⟩, h1, h2⟩ := lpR (fun n (z : Int32 × GS) => lp_X8_goOn_3 (fun w => some w) n z.1 z.2) (fun n (t : Int32 × MS) => lp_X10_minute_17 k' n t.1 t.2) 12 (by decide) (fun i z t => ∃ T' : cT_t, TB T' ∧ z = (dn i, qcT_put u T') ∧ t = (dn i, qmT_put v T')) (by
    rintro n i z t hi ⟨T', hT', rfl, rfl⟩
    obtain ⟨T2, h2, e1, e2⟩ := goLanes hv hg hT' (show 11 - i < 12 by omega) (fun (w9 : GS) => g_let (nI (11 - i) + (-1)) (fun (v6 : Int32) => lp_X8_goOn_3 (fun w => some w) n v6 w9)) (fun (w23 : MS) => g_let (nI (11 - i) + (-1)) (fun (v9 : Int32) => lp_X10_minute_17 k' n v9 w23))
    have ds : nI (11 - i) + (-1) = dn (i + 1) := by rw [← dn_lt hi, dn_step hi]
    refine ⟨(dn (i + 1), qcT_put u T2), (dn (i + 1), qmT_put v T2), ⟨T2, h2, rfl, rfl⟩, ?_, ?_⟩
    · show lp_X8_goOn_3 _ (n + 1) (dn i) _ = lp_X8_goOn_3 _ n (dn (i + 1)) _
      rw [dn_lt hi, lp_X8_goOn_3, if_neg (nI_pos (by omega)), e1, pz_let, ds]
    · show lp_X10_minute_17 _ (n + 1) (dn i) _ = lp_X10_minute_17 _ n (dn (i + 1)) _
      rw [dn_lt hi, lp_X10_minute_17, if_neg (nI_pos (by omega)), e2, pz_let, ds]) (11, qcT_put u T) (11, qmT_put v T) ⟨T, hT, rfl, rfl⟩
  refine ⟨T', hT', h1.trans ?_, h2.trans ?_⟩
  · show lp_X8_goOn_3 _ (n + 1) (-1) _ = _
    rw [lp_X8_goOn_3, if_pos (by decide)]
  · show lp_X10_minute_17 _ (n + 1) (-1) _ = _
    rw [lp_X10_minute_17, if_pos (by decide)]
end RELSD
end
section
theorem ctp8 (u : GS) (T : cT_t) : cT_waiting (qcT_put u T) = T.2.2.2.2.2.1 := rfl
theorem mtp8 (v : MS) (T : cT_t) : mT_waiting (qmT_put v T) = T.2.2.2.2.2.1 := rfl
theorem ctp9 (u : GS) (T : cT_t) (x : Int32) : cT_waiting_set (qcT_put u T) x = qcT_put u (T.1, T.2.1, T.2.2.1, T.2.2.2.1, T.2.2.2.2.1, x, T.2.2.2.2.2.2) := rfl
theorem mtp9 (v : MS) (T : cT_t) (x : Int32) : mT_waiting_set (qmT_put v T) x = qmT_put v (T.1, T.2.1, T.2.2.1, T.2.2.2.1, T.2.2.2.2.1, x, T.2.2.2.2.2.2) := rfl
section RELSE
variable {u : GS} {v : MS} {T : cT_t}
/-- the lane to come in by: the same in both -/
theorem enter (hv : smV v) (hg : ∀ p : Nat, p < 48 → cL_shown u p = sgV v p) (k : Int32 → Option MS) : ∃ r : Int32, ((r = -1 ∧ ∀ l : Nat, l < 4 → ¬ liP v T l) ∨ ∃ l : Nat, l < 4 ∧ r = nI l ∧ liP v T l) ∧ g_X8_laneToEnter (qcT_put u T) = some r ∧ lp_X10_comes_43 (qmT_put v T) k FU (-1) 0 = k r := by
  obtain ⟨n, z, t, ⟨r, hr, rfl, rfl⟩, h1, h2⟩ := lpR (fun n (z : Int32 × Int32) => lp_X8_laneToEnter_4 (qcT_put u T) (fun x => some x) n z.1 z.2) (fun n (t : Int32 × Int32) => lp_X10_comes_43 (qmT_put v T) k n t.1 t.2) 4 (by decide) (fun i z t => ∃ r : Int32, ((r = -1 ∧ ∀ l : Nat, l < i → ¬ liP v T l) ∨ ∃ l : Nat, l < i ∧ r = nI l ∧ liP v T l) ∧ z = (r, nI i) ∧ t = (r, nI i)) (by
    rintro n i z t hi ⟨r, hr, rfl, rfl⟩
    have ci := cl_I (show i < 2 ^ 31 by omega)
    have gi : ∀ {α : Type} (a : Option α), g_in (nI i) 48 a = a := fun a => pz_inN (by omega) (by decide) a
    have lm : (liP v T i ∧ g_X10_letsIn (qmT_put v T) 0 (nI i) = some 1) ∨ (¬ liP v T i ∧ g_X10_letsIn (qmT_put v T) 0 (nI i) = some 0) := by
      have := li_m (T := T) hv (show 0 < 12 by omega) hi
      rw [Nat.mul_zero, Nat.zero_add] at this
      exact this
    rcases li_c (T := T) hg (show i < 48 by omega) with ⟨a1, a2⟩ | ⟨a1, a2⟩
    · have b2 : g_X10_letsIn (qmT_put v T) 0 (nI i) = some 1 := by
        rcases lm with ⟨-, q⟩ | ⟨q, -⟩
        · exact q
        · exact absurd a1 q
      rcases hr with ⟨rfl, hr⟩ | ⟨l, hl, rfl, hr⟩
      · refine ⟨(nI i, nI (i + 1)), (nI i, nI (i + 1)), ⟨nI i, Or.inr ⟨i, by omega, rfl, a1⟩, rfl, rfl⟩, ?_, ?_⟩
        · show lp_X8_laneToEnter_4 _ _ (n + 1) (-1) (nI i) = lp_X8_laneToEnter_4 _ _ n _ _
          simp only [lp_X8_laneToEnter_4, c_ge 4 4 hi (by decide), if_false, a2, pz_bind, pz_let, z10, if_true, nI_1]
        · show lp_X10_comes_43 _ _ (n + 1) (-1) (nI i) = lp_X10_comes_43 _ _ n _ _
          simp only [lp_X10_comes_43, c_ge 4 4 hi (by decide), if_false, b2, pz_bind, pz_let, z10, if_true, nI_1]
      · have cl := cl_I (show l < 2 ^ 31 by omega)
        have gl : ∀ {α : Type} (a : Option α), g_in (nI l) 48 a = a := fun a => pz_inN (by omega) (by decide) a
        have nm := eq_false (nm1 l (by omega))
        by_cases c : T.1 l ≤ T.1 i
        · refine ⟨(nI l, nI (i + 1)), (nI l, nI (i + 1)), ⟨nI l, Or.inr ⟨l, by omega, rfl, hr⟩, rfl, rfl⟩, ?_, ?_⟩
          · show lp_X8_laneToEnter_4 _ _ (n + 1) (nI l) (nI i) = lp_X8_laneToEnter_4 _ _ n _ _
            simp only [lp_X8_laneToEnter_4, c_ge 4 4 hi (by decide), if_false, a2, pz_bind, pz_let, z10, nm, gi, gl, ci, cl, ctp1, eq_true c, if_true, nI_1]
          · show lp_X10_comes_43 _ _ (n + 1) (nI l) (nI i) = lp_X10_comes_43 _ _ n _ _
            simp only [lp_X10_comes_43, c_ge 4 4 hi (by decide), if_false, b2, pz_bind, pz_let, z10, nm, gi, gl, ci, cl, mtp1, eq_true c, if_true, nI_1]
        · refine ⟨(nI i, nI (i + 1)), (nI i, nI (i + 1)), ⟨nI i, Or.inr ⟨i, by omega, rfl, a1⟩, rfl, rfl⟩, ?_, ?_⟩
          · show lp_X8_laneToEnter_4 _ _ (n + 1) (nI l) (nI i) = lp_X8_laneToEnter_4 _ _ n _ _
            simp only [lp_X8_laneToEnter_4, c_ge 4 4 hi (by decide), if_false, a2, pz_bind, pz_let, z10, nm, gi, gl, ci, cl, ctp1, eq_false c, nI_1]
          · show lp_X10_comes_43 _ _ (n + 1) (nI l) (nI i) = lp_X10_comes_43 _ _ n _ _
            simp only [lp_X10_comes_43, c_ge 4 4 hi (by decide), if_false, b2, pz_bind, pz_let, z10, nm, gi, gl, ci, cl, mtp1, eq_false c, nI_1]
    · have b2 : g_X10_letsIn (qmT_put v T) 0 (nI i) = some 0 := by
        rcases lm with ⟨q, -⟩ | ⟨-, q⟩
        · exact absurd q a1
        · exact q
      refine ⟨(r, nI (i + 1)), (r, nI (i + 1)), ⟨r, ?_, rfl, rfl⟩, ?_, ?_⟩
      · rcases hr with ⟨rfl, hr⟩ | ⟨l, hl, rfl, hr⟩
        · refine Or.inl ⟨rfl, fun l hl => ?_⟩
          by_cases e : l = i
          · rw [e]
            exact a1
          · exact hr l (by omega)
        · exact Or.inr ⟨l, by omega, rfl, hr⟩
      · show lp_X8_laneToEnter_4 _ _ (n + 1) r (nI i) = lp_X8_laneToEnter_4 _ _ n _ _
        simp only [lp_X8_laneToEnter_4, c_ge 4 4 hi (by decide), if_false, a2, pz_bind, pz_let, if_true, nI_1]
      · show lp_X10_comes_43 _ _ (n + 1) r (nI i) = lp_X10_comes_43 _ _ n _ _
        simp only [lp_X10_comes_43, c_ge 4 4 hi (by decide), if_false, b2, pz_bind, pz_let, if_true, nI_1]) (-1, 0) (-1, 0) ⟨-1, Or.inl ⟨rfl, fun l hl => absurd hl (Nat.not_lt_zero l)⟩, rfl, rfl⟩
  refine ⟨r, hr, h1.trans ?_, h2.trans ?_⟩
  · show lp_X8_laneToEnter_4 _ _ (n + 1) _ (nI 4) = _
    simp only [lp_X8_laneToEnter_4, c_le 4 4 (by decide), if_true]
  · show lp_X10_comes_43 _ _ (n + 1) _ (nI 4) = _
    simp only [lp_X10_comes_43, c_le 4 4 (by decide), if_true]
/-- one round of the reference's loop, out of the lane found -/
def cmK (n : Nat) (w28 : MS) : Int32 → Option MS := fun (x2_43 : Int32) => g_let (fun (z0_99 : Int32) => g_let (fun (w124 : MS) => lp_X10_comes_28 (fun (w28 : MS) => some w28) n z0_99 w124) (fun (j124_18 : MS → Option (MS)) =>
    if z0_99 = 0 then
    j124_18 w28
    else
    g_in x2_43 48 (
    g_in x2_43 48 (
    g_let (mT_holding_set w28 (upd (mT_holding w28) x2_43.toNatClampNeg ((mT_holding w28 x2_43.toNatClampNeg) + (1 : Int32)))) (fun (u22 : MS) =>
    g_let (mT_waiting_set u22 ((mT_waiting u22) - (1 : Int32))) (fun (u23 : MS) =>
    j124_18 u23)))))) (fun (j99_17 : Int32 → Option (MS)) =>
    if x2_43 = (-1 : Int32) then
    j99_17 (0 : Int32)
    else
    j99_17 (1 : Int32))
theorem cm_st (n : Nat) (w : MS) (h : ¬ mT_waiting w ≤ 0) : lp_X10_comes_28 (fun (w28 : MS) => some w28) (n + 1) 1 w = lp_X10_comes_43 w (cmK n w) FU (-1) 0 := by
  rw [lp_X10_comes_28, if_neg h, if_neg (by decide)]
  rfl
theorem cm_ex (n : Nat) (w : MS) (h : mT_waiting w ≤ 0) (x : Int32) : lp_X10_comes_28 (fun (w28 : MS) => some w28) (n + 1) x w = some w := by
  rw [lp_X10_comes_28, if_pos h]
theorem cm_0 (n : Nat) (w : MS) : lp_X10_comes_28 (fun (w28 : MS) => some w28) (n + 1) 0 w = some w := by
  rw [lp_X10_comes_28]
  by_cases h : mT_waiting w ≤ 0
  · rw [if_pos h]
  · rw [if_neg h, if_pos rfl]
theorem cm_no (n : Nat) (w : MS) : cmK n w (-1) = lp_X10_comes_28 (fun (w28 : MS) => some w28) n 0 w := by
  simp only [cmK, pz_let, if_true]
theorem cm_go (n : Nat) {l x : Nat} (hl : l < 48) (ex : T.1 l = nI x) : cmK n (qmT_put v T) (nI l) = lp_X10_comes_28 (fun (w28 : MS) => some w28) n 1 (qmT_put v (upd T.1 l (nI (x + 1)), T.2.1, T.2.2.1, T.2.2.2.1, T.2.2.2.2.1, T.2.2.2.2.2.1 - 1, T.2.2.2.2.2.2)) := by
  simp only [cmK, pz_let, eq_false (nm1 l (by omega)), if_false, z10, pz_inN hl (show 48 < 2 ^ 31 by decide), cl_I (show l < 2 ^ 31 by omega), mtp1, ex, nI_1, mtp5, mtp8, mtp9]
/-- what the four lanes at the section 0 hold -/
def sum4 (T : cT_t) (i : Nat) : Prop := ∃ a b c d : Nat, a ≤ 20 ∧ b ≤ 20 ∧ c ≤ 20 ∧ d ≤ 20 ∧ T.1 0 = nI a ∧ T.1 1 = nI b ∧ T.1 2 = nI c ∧ T.1 3 = nI d ∧ i ≤ a + b + c + d
theorem sum4_0 (hT : TB T) : sum4 T 0 := by
  obtain ⟨a, ha, a1⟩ := hT 0 (by omega)
  obtain ⟨b, hb, b1⟩ := hT 1 (by omega)
  obtain ⟨c, hc, c1⟩ := hT 2 (by omega)
  obtain ⟨d, hd, d1⟩ := hT 3 (by omega)
  exact ⟨a, b, c, d, ha, hb, hc, hd, a1, b1, c1, d1, by omega⟩
theorem sum4_up {i l x : Nat} (hs : sum4 T i) (hl : l < 4) (ex : T.1 l = nI x) (hx : x < 20) (W : (Nat → Int32) × (Nat → Int32) × Int32 × Int32 × Int32 × Int32) : sum4 (upd T.1 l (nI (x + 1)), W) (i + 1) := by
  obtain ⟨a, b, c, d, ha, hb, hc, hd, a1, b1, c1, d1, sm⟩ := hs
  have hl4 : l = 0 ∨ l = 1 ∨ l = 2 ∨ l = 3 := by omega
  rcases hl4 with rfl | rfl | rfl | rfl
  · rw [a1, nI_eq (by omega) (by omega)] at ex
    have z : ∀ j : Nat, j ≠ 0 → upd T.1 0 (nI (x + 1)) j = T.1 j := fun j h => pk_un h
    have zz : upd T.1 0 (nI (x + 1)) 0 = nI (x + 1) := pk_us
    exact ⟨x + 1, b, c, d, by omega, hb, hc, hd, zz, (z 1 (by decide)).trans b1, (z 2 (by decide)).trans c1, (z 3 (by decide)).trans d1, by omega⟩
  · rw [b1, nI_eq (by omega) (by omega)] at ex
    have z : ∀ j : Nat, j ≠ 1 → upd T.1 1 (nI (x + 1)) j = T.1 j := fun j h => pk_un h
    have zz : upd T.1 1 (nI (x + 1)) 1 = nI (x + 1) := pk_us
    exact ⟨a, x + 1, c, d, ha, by omega, hc, hd, (z 0 (by decide)).trans a1, zz, (z 2 (by decide)).trans c1, (z 3 (by decide)).trans d1, by omega⟩
  · rw [c1, nI_eq (by omega) (by omega)] at ex
    have z : ∀ j : Nat, j ≠ 2 → upd T.1 2 (nI (x + 1)) j = T.1 j := fun j h => pk_un h
    have zz : upd T.1 2 (nI (x + 1)) 2 = nI (x + 1) := pk_us
    exact ⟨a, b, x + 1, d, ha, hb, by omega, hd, (z 0 (by decide)).trans a1, (z 1 (by decide)).trans b1, zz, (z 3 (by decide)).trans d1, by omega⟩
  · rw [d1, nI_eq (by omega) (by omega)] at ex
    have z : ∀ j : Nat, j ≠ 3 → upd T.1 3 (nI (x + 1)) j = T.1 j := fun j h => pk_un h
    have zz : upd T.1 3 (nI (x + 1)) 3 = nI (x + 1) := pk_us
    exact ⟨a, b, c, x + 1, ha, hb, hc, by omega, (z 0 (by decide)).trans a1, (z 1 (by decide)).trans b1, (z 2 (by decide)).trans c1, zz, by omega⟩
theorem sum4_full {l : Nat} (hs : sum4 T 80) (hl : l < 4) : ¬ liP v T l := fun li => by
  obtain ⟨a, b, c, d, ha, hb, hc, hd, a1, b1, c1, d1, sm⟩ := hs
  have hl4 : l = 0 ∨ l = 1 ∨ l = 2 ∨ l = 3 := by omega
  rcases hl4 with rfl | rfl | rfl | rfl
  · exact li.2 (by rw [a1, show a = 20 by omega]; decide)
  · exact li.2 (by rw [b1, show b = 20 by omega]; decide)
  · exact li.2 (by rw [c1, show c = 20 by omega]; decide)
  · exact li.2 (by rw [d1, show d = 20 by omega]; decide)
theorem arrive (hv : smV v) (hg : ∀ p : Nat, p < 48 → cL_shown u p = sgV v p) (hT : TB T) : ∃ T' : cT_t, TB T' ∧ lp_X8_arrive_28 (fun (w28 : GS) => some w28) FU 0 (qcT_put u T) = some (qcT_put u T') ∧ lp_X10_comes_28 (fun (w28 : MS) => some w28) FU 1 (qmT_put v T) = some (qmT_put v T') := by
  have main := lpX (fun n (z : Int32 × GS) => lp_X8_arrive_28 (fun (w28 : GS) => some w28) n z.1 z.2) (fun n (t : Int32 × MS) => lp_X10_comes_28 (fun (w28 : MS) => some w28) n t.1 t.2) 80 (by decide) (fun i z t => ∃ T' : cT_t, TB T' ∧ sum4 T' i ∧ z = (nI i, qcT_put u T') ∧ t = (1, qmT_put v T')) (fun a b => ∃ T' : cT_t, TB T' ∧ a = some (qcT_put u T') ∧ b = some (qmT_put v T')) (by
    rintro n i z t hn hi ⟨T', hT', hs, rfl, rfl⟩
    by_cases c : T'.2.2.2.2.2.1 ≤ 0
    · refine Or.inr ⟨T', hT', ?_, cm_ex n (qmT_put v T') c 1⟩
      show lp_X8_arrive_28 _ (n + 1) (nI i) _ = _
      rw [lp_X8_arrive_28, if_neg (fun q => by rw [c_ge 80 80 hi (by decide)] at q; exact q), if_pos (show cT_waiting (qcT_put u T') ≤ 0 from c)]
    · obtain ⟨r, hr, e1, e2⟩ := enter (T := T') hv hg (cmK n (qmT_put v T'))
      have m1 := (cm_st n (qmT_put v T') c).trans e2
      have c1 : lp_X8_arrive_28 (fun (w28 : GS) => some w28) (n + 1) (nI i) (qcT_put u T') = if r = (-1 : Int32) then some (qcT_put u T') else g_in r 48 (g_in r 48 (g_let (cT_held_set (qcT_put u T') (upd (cT_held (qcT_put u T')) r.toNatClampNeg ((cT_held (qcT_put u T') r.toNatClampNeg) + (1 : Int32)))) (fun (u10 : GS) => g_let (cT_waiting_set u10 ((cT_waiting u10) - (1 : Int32))) (fun (u11 : GS) => g_let (nI i + 1) (fun (v12 : Int32) => lp_X8_arrive_28 (fun (w28 : GS) => some w28) n v12 u11))))) := by
        rw [lp_X8_arrive_28, if_neg (fun q => by rw [c_ge 80 80 hi (by decide)] at q; exact q), if_neg (show ¬ cT_waiting (qcT_put u T') ≤ 0 from c), e1, pz_bind]
      rcases hr with ⟨rfl, -⟩ | ⟨l, hl, rfl, li⟩
      · refine Or.inr ⟨T', hT', c1.trans (if_pos rfl), ?_⟩
        refine m1.trans ((cm_no n _).trans ?_)
        obtain ⟨j, rfl⟩ : ∃ j, n = j + 1 := ⟨n - 1, by omega⟩
        exact cm_0 j _
      · obtain ⟨x, hx, ex⟩ := hT' l (by omega)
        have x20 : x < 20 := Classical.byContradiction fun q => li.2 (by
          rw [ex]
          exact nI_le (a := 20) (by omega) (by omega))
        refine Or.inl ⟨(nI (i + 1), qcT_put u (upd T'.1 l (nI (x + 1)), T'.2.1, T'.2.2.1, T'.2.2.2.1, T'.2.2.2.2.1, T'.2.2.2.2.2.1 - 1, T'.2.2.2.2.2.2)), (1, qmT_put v (upd T'.1 l (nI (x + 1)), T'.2.1, T'.2.2.1, T'.2.2.2.1, T'.2.2.2.2.1, T'.2.2.2.2.2.1 - 1, T'.2.2.2.2.2.2)), ⟨_, hT'.upd l (x + 1) (by omega) _, ?_, rfl, rfl⟩, c1.trans ?_, m1.trans (cm_go n (by omega) ex)⟩
        · exact sum4_up hs hl ex x20 _
        · rw [if_neg (nm1 l (by omega)), pz_inN (show l < 48 by omega) (by decide), pz_inN (show l < 48 by omega) (by decide), pz_let, pz_let, pz_let, ctp1, cl_I (show l < 2 ^ 31 by omega), ex, nI_1, nI_1, ctp5, ctp8, ctp9]) (0, qcT_put u T) (1, qmT_put v T) ⟨T, hT, sum4_0 hT, rfl, rfl⟩
  rcases main with ⟨n, z, t, ⟨T', hT', hs, rfl, rfl⟩, h1, h2⟩ | h
  · refine ⟨T', hT', h1.trans ?_, h2.trans ?_⟩
    · show lp_X8_arrive_28 _ (n + 1 + 1) (nI 80) _ = _
      rw [lp_X8_arrive_28, if_pos (by rw [c_le 80 80 (by decide)]; trivial)]
    · show lp_X10_comes_28 _ (n + 1 + 1) 1 _ = _
      by_cases c : T'.2.2.2.2.2.1 ≤ 0
      · exact cm_ex (n + 1) (qmT_put v T') c 1
      · obtain ⟨r, hr, e1, e2⟩ := enter (T := T') hv hg (cmK (n + 1) (qmT_put v T'))
        rcases hr with ⟨rfl, -⟩ | ⟨l, hl, rfl, li⟩
        · exact ((cm_st (n + 1) (qmT_put v T') c).trans e2).trans ((cm_no (n + 1) _).trans (cm_0 n _))
        · exact absurd li (sum4_full hs hl)
  · exact h
/-- where the flow has broken down: the same in both -/
theorem judge (hT : TB T) (k' : MS → Option MS) : ∃ T' : cT_t, TB T' ∧ g_X8_judgeBroken (qcT_put u T) = some (qcT_put u T') ∧ lp_X10_minute_52 k' FU 0 (qmT_put v T) = k' (qmT_put v T') := by
  have b1 : ∀ (T : cT_t) f, cT_broken_set (qcT_put u T) f = qcT_put u (T.1, T.2.1, f, T.2.2.2) := fun _ _ => rfl
  have b2 : ∀ (T : cT_t) f, mT_isBroken_set (qmT_put v T) f = qmT_put v (T.1, T.2.1, f, T.2.2.2) := fun _ _ => rfl
  obtain ⟨n, z, t, ⟨T', hT', rfl, rfl⟩, h1, h2⟩ := lpR (fun n (z : Int32 × GS) => lp_X8_judgeBroken_2 (fun w => some w) n z.1 z.2) (fun n (t : Int32 × MS) => lp_X10_minute_52 k' n t.1 t.2) 12 (by decide) (fun i z t => ∃ T' : cT_t, TB T' ∧ z = (nI i, qcT_put u T') ∧ t = (nI i, qmT_put v T')) (by
    rintro n i z t hi ⟨T', hT', rfl, rfl⟩
    obtain ⟨m, hm, e1, e2⟩ := most (u := qcT_put u T') (v := qmT_put v T') ⟨rfl, hT'⟩ hi
    have g12 : ∀ {α : Type} (a : Option α), g_in (nI i) 12 a = a := fun a => pz_inN hi (by decide) a
    have ci := cl_I (show i < 2 ^ 31 by omega)
    by_cases c1 : (15 : Int32) ≤ nI m
    · refine ⟨(nI (i + 1), qcT_put u (T'.1, T'.2.1, upd T'.2.2.1 i 1, T'.2.2.2)), (nI (i + 1), qmT_put v (T'.1, T'.2.1, upd T'.2.2.1 i 1, T'.2.2.2)), ⟨(T'.1, T'.2.1, upd T'.2.2.1 i 1, T'.2.2.2), hT', rfl, rfl⟩, ?_, ?_⟩
      · show lp_X8_judgeBroken_2 _ (n + 1) (nI i) _ = lp_X8_judgeBroken_2 _ n _ _
        simp only [lp_X8_judgeBroken_2, c_ge 12 12 hi (by decide), if_false, e1, pz_bind, pz_let, eq_true c1, if_true, g12, ci, ctp3, vnb1, b1, nI_1]
      · show lp_X10_minute_52 _ (n + 1) (nI i) _ = lp_X10_minute_52 _ n _ _
        simp only [lp_X10_minute_52, c_ge 12 12 hi (by decide), if_false, e2, pz_bind, pz_let, eq_true c1, if_true, g12, ci, mtp3, vnb1, b2, nI_1]
    · by_cases c2 : T'.2.2.1 i = 0
      · refine ⟨(nI (i + 1), qcT_put u (T'.1, T'.2.1, upd T'.2.2.1 i 0, T'.2.2.2)), (nI (i + 1), qmT_put v (T'.1, T'.2.1, upd T'.2.2.1 i 0, T'.2.2.2)), ⟨(T'.1, T'.2.1, upd T'.2.2.1 i 0, T'.2.2.2), hT', rfl, rfl⟩, ?_, ?_⟩
        · show lp_X8_judgeBroken_2 _ (n + 1) (nI i) _ = lp_X8_judgeBroken_2 _ n _ _
          simp only [lp_X8_judgeBroken_2, c_ge 12 12 hi (by decide), if_false, e1, pz_bind, pz_let, eq_false c1, g12, ci, ctp3, eq_true c2, if_true, vnb0, b1, nI_1]
        · show lp_X10_minute_52 _ (n + 1) (nI i) _ = lp_X10_minute_52 _ n _ _
          simp only [lp_X10_minute_52, c_ge 12 12 hi (by decide), if_false, e2, pz_bind, pz_let, eq_false c1, g12, ci, mtp3, eq_true c2, if_true, vnb0, b2, nI_1]
      · by_cases c3 : nI m < (8 : Int32)
        · refine ⟨(nI (i + 1), qcT_put u (T'.1, T'.2.1, upd T'.2.2.1 i 0, T'.2.2.2)), (nI (i + 1), qmT_put v (T'.1, T'.2.1, upd T'.2.2.1 i 0, T'.2.2.2)), ⟨(T'.1, T'.2.1, upd T'.2.2.1 i 0, T'.2.2.2), hT', rfl, rfl⟩, ?_, ?_⟩
          · show lp_X8_judgeBroken_2 _ (n + 1) (nI i) _ = lp_X8_judgeBroken_2 _ n _ _
            simp only [lp_X8_judgeBroken_2, c_ge 12 12 hi (by decide), if_false, e1, pz_bind, pz_let, eq_false c1, g12, ci, ctp3, eq_false c2, eq_true c3, if_true, vnb0, b1, nI_1]
          · show lp_X10_minute_52 _ (n + 1) (nI i) _ = lp_X10_minute_52 _ n _ _
            simp only [lp_X10_minute_52, c_ge 12 12 hi (by decide), if_false, e2, pz_bind, pz_let, eq_false c1, g12, ci, mtp3, eq_false c2, eq_true c3, if_true, vnb0, b2, nI_1]
        · refine ⟨(nI (i + 1), qcT_put u (T'.1, T'.2.1, upd T'.2.2.1 i 1, T'.2.2.2)), (nI (i + 1), qmT_put v (T'.1, T'.2.1, upd T'.2.2.1 i 1, T'.2.2.2)), ⟨(T'.1, T'.2.1, upd T'.2.2.1 i 1, T'.2.2.2), hT', rfl, rfl⟩, ?_, ?_⟩
          · show lp_X8_judgeBroken_2 _ (n + 1) (nI i) _ = lp_X8_judgeBroken_2 _ n _ _
            simp only [lp_X8_judgeBroken_2, c_ge 12 12 hi (by decide), if_false, e1, pz_bind, pz_let, eq_false c1, g12, ci, ctp3, eq_false c2, eq_false c3, vnb1, b1, nI_1]
          · show lp_X10_minute_52 _ (n + 1) (nI i) _ = lp_X10_minute_52 _ n _ _
            simp only [lp_X10_minute_52, c_ge 12 12 hi (by decide), if_false, e2, pz_bind, pz_let, eq_false c1, g12, ci, mtp3, eq_false c2, eq_false c3, vnb1, b2, nI_1]) (0, qcT_put u T) (0, qmT_put v T) ⟨T, hT, rfl, rfl⟩
  refine ⟨T', hT', h1.trans ?_, h2.trans ?_⟩
  · show lp_X8_judgeBroken_2 _ (n + 1) (nI 12) _ = _
    rw [lp_X8_judgeBroken_2, if_pos (by rw [c_le 12 12 (by decide)]; trivial)]
  · show lp_X10_minute_52 _ (n + 1) (nI 12) _ = _
    rw [lp_X10_minute_52, if_pos (by rw [c_le 12 12 (by decide)]; trivial)]
end RELSE
end
section
/-! the speed signs of one minute -/
def SB (S : cS_t) : Prop := (∀ k : Nat, k < 12 → ∃ x : Nat, x ≤ 120 ∧ S.2.1 k = nI x) ∧ (∀ k : Nat, k < 12 → S.1 k = -1 ∨ ∃ x : Nat, x ≤ 120 ∧ S.1 k = nI x) ∧ ∃ x : Nat, x ≤ 3 ∧ S.2.2.2 = nI x
theorem csp1 (u : GS) (S : cS_t) : cS_limits (qcS_put u S) = S.1 := rfl
theorem csp2 (u : GS) (S : cS_t) : cS_shown (qcS_put u S) = S.2.1 := rfl
theorem csp3 (u : GS) (S : cS_t) : cS_loweredAt (qcS_put u S) = S.2.2.1 := rfl
theorem csp4 (u : GS) (S : cS_t) : cS_weather (qcS_put u S) = S.2.2.2 := rfl
theorem csp5 (u : GS) (S : cS_t) (f : Nat → Int32) : cS_shown_set (qcS_put u S) f = qcS_put u (S.1, f, S.2.2) := rfl
theorem csp6 (u : GS) (S : cS_t) (f : Nat → Int32) : cS_loweredAt_set (qcS_put u S) f = qcS_put u (S.1, S.2.1, f, S.2.2.2) := rfl
theorem msp1 (v : MS) (S : cS_t) : mS_limited (qmS_put v S) = S.1 := rfl
theorem msp2 (v : MS) (S : cS_t) : mS_speedSign (qmS_put v S) = S.2.1 := rfl
theorem msp3 (v : MS) (S : cS_t) : mS_lowered (qmS_put v S) = S.2.2.1 := rfl
theorem msp4 (v : MS) (S : cS_t) : mS_weather (qmS_put v S) = S.2.2.2 := rfl
theorem msp5 (v : MS) (S : cS_t) (f : Nat → Int32) : mS_speedSign_set (qmS_put v S) f = qmS_put v (S.1, f, S.2.2) := rfl
theorem msp6 (v : MS) (S : cS_t) (f : Nat → Int32) : mS_lowered_set (qmS_put v S) f = qmS_put v (S.1, S.2.1, f, S.2.2.2) := rfl
theorem msp7 (v : MS) (S : cS_t) : m_now (qmS_put v S) = m_now v := rfl
theorem updI (f : Nat → Int32) (i : Nat) : upd f i (f i) = f := funext fun k => by
  by_cases e : k = i
  · rw [e, pk_us]
  · rw [pk_un e]
section RELSF
variable {u : GS} {v : MS} {S : cS_t}
theorem wBy (b : Int32) : ∃ y : Nat, y ≤ 120 ∧ g_X7_wantBy b = some (nI y) ∧ ((b = -1 ∧ y = 60) ∨ (¬ b = -1 ∧ ¬ (40 : Int32) ≤ b ∧ y = 40) ∨ (¬ b = -1 ∧ (40 : Int32) ≤ b ∧ ¬ (60 : Int32) ≤ b ∧ y = 60) ∨ (¬ b = -1 ∧ (40 : Int32) ≤ b ∧ (60 : Int32) ≤ b ∧ ¬ (80 : Int32) ≤ b ∧ y = 80) ∨ (¬ b = -1 ∧ (40 : Int32) ≤ b ∧ (60 : Int32) ≤ b ∧ (80 : Int32) ≤ b ∧ y = 120)) := by
  by_cases c0 : b = -1
  · exact ⟨60, by omega, by rw [g_X7_wantBy, if_pos c0]; rfl, Or.inl ⟨c0, rfl⟩⟩
  · by_cases c1 : (40 : Int32) ≤ b
    · by_cases c2 : (60 : Int32) ≤ b
      · by_cases c3 : (80 : Int32) ≤ b
        · exact ⟨120, by omega, by rw [g_X7_wantBy, if_neg c0, if_pos c1, if_pos c2, if_pos c3]; rfl, Or.inr (Or.inr (Or.inr (Or.inr ⟨c0, c1, c2, c3, rfl⟩)))⟩
        · exact ⟨80, by omega, by rw [g_X7_wantBy, if_neg c0, if_pos c1, if_pos c2, if_neg c3]; rfl, Or.inr (Or.inr (Or.inr (Or.inl ⟨c0, c1, c2, c3, rfl⟩)))⟩
      · exact ⟨60, by omega, by rw [g_X7_wantBy, if_neg c0, if_pos c1, if_neg c2]; rfl, Or.inr (Or.inr (Or.inl ⟨c0, c1, c2, rfl⟩))⟩
    · exact ⟨40, by omega, by rw [g_X7_wantBy, if_neg c0, if_neg c1]; rfl, Or.inr (Or.inl ⟨c0, c1, rfl⟩)⟩
/-- what a section wants: the same in both -/
theorem want (hT : RT u v) (hD : RD u v) (hS : SB S) {s : Nat} (hs : s < 12) : ∃ (w : Nat) (b : Int32), w ≤ 120 ∧ g_X1_beliefAt (qcS_put u S) (nI s) = some b ∧ g_X7_wantAt (qcS_put u S) (nI s) b = some (nI w) ∧ g_X10_wantOf (qmS_put v S) (nI s) = some (nI w) := by
  have hT' : RT (qcS_put u S) (qmS_put v S) := hT
  have hD' : RD (qcS_put u S) (qmS_put v S) := hD
  obtain ⟨b, -, e1, e2⟩ := belief hT' hD' hs
  have g12 : ∀ {α : Type} (a : Option α), g_in (nI s) 12 a = a := fun a => pz_inN hs (by decide) a
  have cs := cl_I (show s < 2 ^ 31 by omega)
  by_cases l0 : S.1 s = -1
  · obtain ⟨y, hy, y1, y2⟩ := wBy b
    obtain ⟨x, hx, ex⟩ := hS.2.2
    have i1 : g_X9_isWithin (nI x) 0 3 = some 1 := isw (k := x) (a := 0) (b := 3) _ rfl (Nat.zero_le _) (by omega) (by decide) _ _
    obtain ⟨c, hc, w1, w2⟩ : ∃ c : Nat, c ≤ 120 ∧ wlF x = nI c ∧ ((nI x = 0 ∧ c = 120) ∨ (¬ nI x = 0 ∧ nI x = 1 ∧ c = 80) ∨ (¬ nI x = 0 ∧ ¬ nI x = 1 ∧ nI x = 2 ∧ c = 60) ∨ (¬ nI x = 0 ∧ ¬ nI x = 1 ∧ ¬ nI x = 2 ∧ c = 40)) := by
      have h4 : x = 0 ∨ x = 1 ∨ x = 2 ∨ x = 3 := by omega
      rcases h4 with rfl | rfl | rfl | rfl
      · exact ⟨120, by omega, rfl, Or.inl ⟨by decide, rfl⟩⟩
      · exact ⟨80, by omega, rfl, Or.inr (Or.inl ⟨by decide, by decide, rfl⟩)⟩
      · exact ⟨60, by omega, rfl, Or.inr (Or.inr (Or.inl ⟨by decide, by decide, by decide, rfl⟩))⟩
      · exact ⟨40, by omega, rfl, Or.inr (Or.inr (Or.inr ⟨by decide, by decide, by decide, rfl⟩))⟩
    have fin : ∃ w : Nat, w ≤ 120 ∧ (if nI c < nI y then nI c else nI y) = nI w ∧ (if nI c ≤ nI y then some (nI c) else some (nI y)) = some (nI w) := by
      by_cases q : c < y
      · exact ⟨c, hc, by rw [if_pos (nI_lt q (by omega))], by rw [if_pos (nI_le (by omega) (by omega))]⟩
      · refine ⟨y, hy, by rw [if_neg (nI_nlt (by omega) (by omega))], ?_⟩
        by_cases q2 : c = y
        · rw [q2, if_pos (nI_le (by omega) (by omega))]
        · rw [if_neg (nI_ge (by omega) (by omega))]
    obtain ⟨w, hw, f1, f2⟩ := fin
    refine ⟨w, b, hw, e1, ?_, ?_⟩
    · simp only [g_X7_wantAt, g12, cs, csp1, csp4, eq_true l0, if_true, ex, i1, pz_bind, pz_let, z10, if_false, pz_inN (show x < 4 by omega) (show 4 < 2 ^ 31 by decide), cl_I (show x < 2 ^ 31 by omega), w1, y1, f1]
    · have m1 : g_X10_wantOf (qmS_put v S) (nI s) = if nI c ≤ nI y then some (nI c) else some (nI y) := by
        rcases w2 with ⟨a1, rfl⟩ | ⟨a1, a2, rfl⟩ | ⟨a1, a2, a3, rfl⟩ | ⟨a1, a2, a3, rfl⟩
        · rcases y2 with ⟨c0, rfl⟩ | ⟨c0, c1, rfl⟩ | ⟨c0, c1, c2, rfl⟩ | ⟨c0, c1, c2, c3, rfl⟩ | ⟨c0, c1, c2, c3, rfl⟩
          · simp only [g_X10_wantOf, g12, cs, msp1, msp4, eq_true l0, if_true, if_false, e2, pz_bind, pz_let, ex, eq_true a1, eq_true c0] <;> rfl
          · simp only [g_X10_wantOf, g12, cs, msp1, msp4, eq_true l0, if_true, if_false, e2, pz_bind, pz_let, ex, eq_true a1, eq_false c0, eq_false c1] <;> rfl
          · simp only [g_X10_wantOf, g12, cs, msp1, msp4, eq_true l0, if_true, if_false, e2, pz_bind, pz_let, ex, eq_true a1, eq_false c0, eq_true c1, eq_false c2] <;> rfl
          · simp only [g_X10_wantOf, g12, cs, msp1, msp4, eq_true l0, if_true, if_false, e2, pz_bind, pz_let, ex, eq_true a1, eq_false c0, eq_true c1, eq_true c2, eq_false c3] <;> rfl
          · simp only [g_X10_wantOf, g12, cs, msp1, msp4, eq_true l0, if_true, if_false, e2, pz_bind, pz_let, ex, eq_true a1, eq_false c0, eq_true c1, eq_true c2, eq_true c3] <;> rfl
        · rcases y2 with ⟨c0, rfl⟩ | ⟨c0, c1, rfl⟩ | ⟨c0, c1, c2, rfl⟩ | ⟨c0, c1, c2, c3, rfl⟩ | ⟨c0, c1, c2, c3, rfl⟩
          · simp only [g_X10_wantOf, g12, cs, msp1, msp4, eq_true l0, if_true, if_false, e2, pz_bind, pz_let, ex, eq_false a1, eq_true a2, eq_true c0] <;> rfl
          · simp only [g_X10_wantOf, g12, cs, msp1, msp4, eq_true l0, if_true, if_false, e2, pz_bind, pz_let, ex, eq_false a1, eq_true a2, eq_false c0, eq_false c1] <;> rfl
          · simp only [g_X10_wantOf, g12, cs, msp1, msp4, eq_true l0, if_true, if_false, e2, pz_bind, pz_let, ex, eq_false a1, eq_true a2, eq_false c0, eq_true c1, eq_false c2] <;> rfl
          · simp only [g_X10_wantOf, g12, cs, msp1, msp4, eq_true l0, if_true, if_false, e2, pz_bind, pz_let, ex, eq_false a1, eq_true a2, eq_false c0, eq_true c1, eq_true c2, eq_false c3] <;> rfl
          · simp only [g_X10_wantOf, g12, cs, msp1, msp4, eq_true l0, if_true, if_false, e2, pz_bind, pz_let, ex, eq_false a1, eq_true a2, eq_false c0, eq_true c1, eq_true c2, eq_true c3] <;> rfl
        · rcases y2 with ⟨c0, rfl⟩ | ⟨c0, c1, rfl⟩ | ⟨c0, c1, c2, rfl⟩ | ⟨c0, c1, c2, c3, rfl⟩ | ⟨c0, c1, c2, c3, rfl⟩
          · simp only [g_X10_wantOf, g12, cs, msp1, msp4, eq_true l0, if_true, if_false, e2, pz_bind, pz_let, ex, eq_false a1, eq_false a2, eq_true a3, eq_true c0] <;> rfl
          · simp only [g_X10_wantOf, g12, cs, msp1, msp4, eq_true l0, if_true, if_false, e2, pz_bind, pz_let, ex, eq_false a1, eq_false a2, eq_true a3, eq_false c0, eq_false c1] <;> rfl
          · simp only [g_X10_wantOf, g12, cs, msp1, msp4, eq_true l0, if_true, if_false, e2, pz_bind, pz_let, ex, eq_false a1, eq_false a2, eq_true a3, eq_false c0, eq_true c1, eq_false c2] <;> rfl
          · simp only [g_X10_wantOf, g12, cs, msp1, msp4, eq_true l0, if_true, if_false, e2, pz_bind, pz_let, ex, eq_false a1, eq_false a2, eq_true a3, eq_false c0, eq_true c1, eq_true c2, eq_false c3] <;> rfl
          · simp only [g_X10_wantOf, g12, cs, msp1, msp4, eq_true l0, if_true, if_false, e2, pz_bind, pz_let, ex, eq_false a1, eq_false a2, eq_true a3, eq_false c0, eq_true c1, eq_true c2, eq_true c3] <;> rfl
        · rcases y2 with ⟨c0, rfl⟩ | ⟨c0, c1, rfl⟩ | ⟨c0, c1, c2, rfl⟩ | ⟨c0, c1, c2, c3, rfl⟩ | ⟨c0, c1, c2, c3, rfl⟩
          · simp only [g_X10_wantOf, g12, cs, msp1, msp4, eq_true l0, if_true, if_false, e2, pz_bind, pz_let, ex, eq_false a1, eq_false a2, eq_false a3, eq_true c0] <;> rfl
          · simp only [g_X10_wantOf, g12, cs, msp1, msp4, eq_true l0, if_true, if_false, e2, pz_bind, pz_let, ex, eq_false a1, eq_false a2, eq_false a3, eq_false c0, eq_false c1] <;> rfl
          · simp only [g_X10_wantOf, g12, cs, msp1, msp4, eq_true l0, if_true, if_false, e2, pz_bind, pz_let, ex, eq_false a1, eq_false a2, eq_false a3, eq_false c0, eq_true c1, eq_false c2] <;> rfl
          · simp only [g_X10_wantOf, g12, cs, msp1, msp4, eq_true l0, if_true, if_false, e2, pz_bind, pz_let, ex, eq_false a1, eq_false a2, eq_false a3, eq_false c0, eq_true c1, eq_true c2, eq_false c3] <;> rfl
          · simp only [g_X10_wantOf, g12, cs, msp1, msp4, eq_true l0, if_true, if_false, e2, pz_bind, pz_let, ex, eq_false a1, eq_false a2, eq_false a3, eq_false c0, eq_true c1, eq_true c2, eq_true c3] <;> rfl
      exact m1.trans f2
  · obtain ⟨w, hw, ew⟩ := (hS.2.1 s hs).resolve_left l0
    refine ⟨w, b, hw, e1, ?_, ?_⟩
    · simp only [g_X7_wantAt, g12, cs, csp1, ew, eq_false (nm1 w (by omega)), if_false]
    · simp only [g_X10_wantOf, g12, cs, msp1, ew, eq_false (nm1 w (by omega)), if_false]
theorem spStep (hT : RT u v) (hD : RD u v) (hS : SB S) {s : Nat} (hs : s < 12) (k : GS → Option GS) (k' : MS → Option MS) (n : Nat) : ∃ S' : cS_t, SB S' ∧ lp_X7_setAnew_4 (m_now v) k (n + 1) (nI s) (qcS_put u S) = lp_X7_setAnew_4 (m_now v) k n (nI s + (-1)) (qcS_put u S') ∧ lp_X10_setsSpeeds_3 k' (n + 1) (nI s) (qmS_put v S) = lp_X10_setsSpeeds_3 k' n (nI s + (-1)) (qmS_put v S') := by
  obtain ⟨w, b, hw, e1, e2, e3⟩ := want hT hD hS hs
  have g12 : ∀ {α : Type} (a : Option α), g_in (nI s) 12 a = a := fun a => pz_inN hs (by decide) a
  have cs := cl_I (show s < 2 ^ 31 by omega)
  have q1 : nI s + 1 = nI (s + 1) := nI_1 s
  obtain ⟨x, hx, ex⟩ := hS.1 s hs
  have ng := c_neg (show s < 2 ^ 31 by omega)
  -- the sign before the next section's bound: what it was, or what is wanted
  obtain ⟨a, ha, A⟩ : ∃ a : Nat, a ≤ 120 ∧ ((a = x ∧ S.1 s = -1 ∧ ¬ nI w ≤ nI x ∧ ¬ (3 : Int32) ≤ m_now v - S.2.2.1 s) ∨ (a = w ∧ ¬ S.1 s = -1) ∨ (a = w ∧ S.1 s = -1 ∧ nI w ≤ nI x) ∨ (a = w ∧ S.1 s = -1 ∧ ¬ nI w ≤ nI x ∧ (3 : Int32) ≤ m_now v - S.2.2.1 s)) := by
    by_cases c1 : S.1 s = -1
    · by_cases c2 : nI w ≤ nI x
      · exact ⟨w, hw, Or.inr (Or.inr (Or.inl ⟨rfl, c1, c2⟩))⟩
      · by_cases c3 : (3 : Int32) ≤ m_now v - S.2.2.1 s
        · exact ⟨w, hw, Or.inr (Or.inr (Or.inr ⟨rfl, c1, c2, c3⟩))⟩
        · exact ⟨x, hx, Or.inl ⟨rfl, c1, c2, c3⟩⟩
    · exact ⟨w, hw, Or.inr (Or.inl ⟨rfl, c1⟩)⟩
  -- the sign
  obtain ⟨f, hf, F⟩ : ∃ f : Nat, f ≤ 120 ∧ ((s = 11 ∧ f = a) ∨ (s < 11 ∧ ∃ y : Nat, y ≤ 120 ∧ S.2.1 (s + 1) = nI y ∧ ((y + 20 < a ∧ f = y + 20) ∨ (¬ y + 20 < a ∧ f = a)))) := by
    by_cases c : s = 11
    · exact ⟨a, ha, Or.inl ⟨c, rfl⟩⟩
    · obtain ⟨y, hy, ey⟩ := hS.1 (s + 1) (by omega)
      by_cases d : y + 20 < a
      · exact ⟨y + 20, by omega, Or.inr ⟨by omega, y, hy, ey, Or.inl ⟨d, rfl⟩⟩⟩
      · exact ⟨a, ha, Or.inr ⟨by omega, y, hy, ey, Or.inr ⟨d, rfl⟩⟩⟩
  have inv : ∀ L : Nat → Int32, SB (S.1, upd S.2.1 s (nI f), L, S.2.2.2) := fun L => ⟨updR S.2.1 12 (fun z => ∃ x : Nat, x ≤ 120 ∧ z = nI x) hS.1 s (nI f) ⟨f, hf, rfl⟩, hS.2.1, hS.2.2⟩
  -- class: after the wanted sign is known
  have CL : ∀ S' : cS_t, S' = (S.1, upd S.2.1 s (nI f), (if nI x ≤ nI f then S.2.2.1 else upd S.2.2.1 s (m_now v)), S.2.2.2) → lp_X7_setAnew_4 (m_now v) k (n + 1) (nI s) (qcS_put u S) = lp_X7_setAnew_4 (m_now v) k n (nI s + (-1)) (qcS_put u S') := by
    rintro S' rfl
    have y6 : ∃ r : Int32, g_X7_staysBelow (qcS_put u S) (nI w) (nI s) (m_now v) = some r ∧ ((r = 0 ∧ a = w) ∨ (r = 1 ∧ a = x)) := by
      rcases A with ⟨rfl, c1, c2, c3⟩ | ⟨rfl, c1⟩ | ⟨rfl, c1, c2⟩ | ⟨rfl, c1, c2, c3⟩
      · exact ⟨1, by simp only [g_X7_staysBelow, g12, cs, csp1, csp2, csp3, ex, eq_true c1, eq_false c2, eq_false c3, if_true, if_false], Or.inr ⟨rfl, rfl⟩⟩
      · exact ⟨0, by simp only [g_X7_staysBelow, g12, cs, csp1, eq_false c1, if_false], Or.inl ⟨rfl, rfl⟩⟩
      · exact ⟨0, by simp only [g_X7_staysBelow, g12, cs, csp1, csp2, ex, eq_true c1, eq_true c2, if_true], Or.inl ⟨rfl, rfl⟩⟩
      · exact ⟨0, by simp only [g_X7_staysBelow, g12, cs, csp1, csp2, csp3, ex, eq_true c1, eq_false c2, eq_true c3, if_true, if_false], Or.inl ⟨rfl, rfl⟩⟩
    obtain ⟨r, r1, r2⟩ := y6
    rcases r2 with ⟨rfl, ra⟩ | ⟨rfl, ra⟩
    · rw [ra] at F
      rcases F with ⟨s11, fa⟩ | ⟨s11, y, hy, ey, F⟩
      · subst s11
        rw [fa]
        have q12 : ((12 : Int32) ≤ nI (11 + 1)) = True := c_le 12 12 (by decide)
        have q13 : ((12 : Int32) ≤ nI 12) = True := c_le 12 12 (by decide)
        by_cases lw : nI x ≤ nI w
        · simp only [lp_X7_setAnew_4, ng, if_false, if_true, e1, e2, r1, pz_bind, pz_let, z00, if_true, g12, cs, csp2, ex, q1, q12, q13, eq_true lw, csp5]
        · simp only [lp_X7_setAnew_4, ng, if_false, if_true, e1, e2, r1, pz_bind, pz_let, z00, if_true, g12, cs, csp2, ex, q1, q12, q13, eq_false lw, csp3, csp5, csp6]
      · have q12 : ((12 : Int32) ≤ nI (s + 1)) = False := c_ge 12 12 (by omega) (by decide)
        have g13 : ∀ {α : Type} (a : Option α), g_in (nI (s + 1)) 12 a = a := fun a => pz_inN (by omega) (by decide) a
        have y20 : nI y + 20 = nI (y + 20) := nI_add y 20
        have mn : (if nI (y + 20) < nI w then nI (y + 20) else nI w) = nI f := by
          rcases F with ⟨d, fd⟩ | ⟨d, fd⟩
          · rw [fd, if_pos (nI_lt d (by omega))]
          · rw [fd, if_neg (nI_nlt (by omega) (by omega))]
        by_cases lw : nI x ≤ nI f
        · simp only [lp_X7_setAnew_4, ng, if_false, if_true, e1, e2, r1, pz_bind, pz_let, z00, if_true, g12, cs, csp2, ex, q1, q12, g13, cl_I (show s + 1 < 2 ^ 31 by omega), ey, y20, mn, eq_true lw, csp5]
        · simp only [lp_X7_setAnew_4, ng, if_false, if_true, e1, e2, r1, pz_bind, pz_let, z00, if_true, g12, cs, csp2, ex, q1, q12, g13, cl_I (show s + 1 < 2 ^ 31 by omega), ey, y20, mn, eq_false lw, csp3, csp5, csp6]
    · rw [ra] at F
      rcases F with ⟨s11, fa⟩ | ⟨s11, y, hy, ey, F⟩
      · subst s11
        rw [fa]
        have q12 : ((12 : Int32) ≤ nI (11 + 1)) = True := c_le 12 12 (by decide)
        have q13 : ((12 : Int32) ≤ nI 12) = True := c_le 12 12 (by decide)
        by_cases lw : nI x ≤ nI x
        · simp only [lp_X7_setAnew_4, ng, if_false, if_true, e1, e2, r1, pz_bind, pz_let, z10, if_false, g12, cs, csp2, ex, q1, q12, q13, eq_true lw, csp5]
        · simp only [lp_X7_setAnew_4, ng, if_false, if_true, e1, e2, r1, pz_bind, pz_let, z10, if_false, g12, cs, csp2, ex, q1, q12, q13, eq_false lw, csp3, csp5, csp6]
      · have q12 : ((12 : Int32) ≤ nI (s + 1)) = False := c_ge 12 12 (by omega) (by decide)
        have g13 : ∀ {α : Type} (a : Option α), g_in (nI (s + 1)) 12 a = a := fun a => pz_inN (by omega) (by decide) a
        have y20 : nI y + 20 = nI (y + 20) := nI_add y 20
        have mn : (if nI (y + 20) < nI x then nI (y + 20) else nI x) = nI f := by
          rcases F with ⟨d, fd⟩ | ⟨d, fd⟩
          · rw [fd, if_pos (nI_lt d (by omega))]
          · rw [fd, if_neg (nI_nlt (by omega) (by omega))]
        by_cases lw : nI x ≤ nI f
        · simp only [lp_X7_setAnew_4, ng, if_false, if_true, e1, e2, r1, pz_bind, pz_let, z10, if_false, g12, cs, csp2, ex, q1, q12, g13, cl_I (show s + 1 < 2 ^ 31 by omega), ey, y20, mn, eq_true lw, csp5]
        · simp only [lp_X7_setAnew_4, ng, if_false, if_true, e1, e2, r1, pz_bind, pz_let, z10, if_false, g12, cs, csp2, ex, q1, q12, g13, cl_I (show s + 1 < 2 ^ 31 by omega), ey, y20, mn, eq_false lw, csp3, csp5, csp6]
  have ML : ∀ S' : cS_t, S' = (S.1, upd S.2.1 s (nI f), (if nI x ≤ nI f then S.2.2.1 else upd S.2.2.1 s (m_now v)), S.2.2.2) → lp_X10_setsSpeeds_3 k' (n + 1) (nI s) (qmS_put v S) = lp_X10_setsSpeeds_3 k' n (nI s + (-1)) (qmS_put v S') := by
    rintro S' rfl
    have us : upd S.2.1 s (nI f) s = nI f := pk_us
    rcases A with ⟨ra, c1, c2, c3⟩ | ⟨ra, c1⟩ | ⟨ra, c1, c2⟩ | ⟨ra, c1, c2, c3⟩
    · rw [ra] at F
      rcases F with ⟨s11, fa⟩ | ⟨s11, y, hy, ey, F⟩
      · subst s11
        rw [fa] at us ⊢
        have q11 : ((11 : Int32) ≤ nI 11) = True := c_le 11 11 (by decide)
        by_cases d : x = 120
        · subst d
          have l120 : (120 : Int32) = nI 120 := rfl
          have mn3 : (nI 120 ≤ nI 120) = True := eq_true (by decide)
          simp only [lp_X10_setsSpeeds_3, ng, if_false, if_true, e3, pz_bind, pz_let, g12, cs, msp1, msp2, msp3, msp7, ex, q1, eq_true c1, eq_false c2, eq_false c3, z10, q11, l120, mn3, us, msp5, msp6, updI]
        · have mn : ((120 : Int32) ≤ nI x) = False := c_ge 120 120 (by omega) (by decide)
          by_cases lw : nI x ≤ nI x
          · simp only [lp_X10_setsSpeeds_3, ng, if_false, if_true, e3, pz_bind, pz_let, g12, cs, msp1, msp2, msp3, msp7, ex, q1, eq_true c1, eq_false c2, eq_false c3, z10, q11, mn, us, eq_true lw, msp5, msp6, updI]
          · simp only [lp_X10_setsSpeeds_3, ng, if_false, if_true, e3, pz_bind, pz_let, g12, cs, msp1, msp2, msp3, msp7, ex, q1, eq_true c1, eq_false c2, eq_false c3, z10, q11, mn, us, eq_false lw, msp5, msp6, msp7]
      · have q11 : ((11 : Int32) ≤ nI s) = False := c_ge 11 11 (by omega) (by decide)
        have g13 : ∀ {α : Type} (a : Option α), g_in (nI (s + 1)) 12 a = a := fun a => pz_inN (by omega) (by decide) a
        have y20 : nI y + 20 = nI (y + 20) := nI_add y 20
        have cs1 := cl_I (show s + 1 < 2 ^ 31 by omega)
        have mn : (nI (y + 20) ≤ nI x) = True ∧ f = y + 20 ∨ (nI (y + 20) ≤ nI x) = False ∧ f = x := by
          rcases F with ⟨d, fd⟩ | ⟨d, fd⟩
          · exact Or.inl ⟨eq_true (nI_le (by omega) (by omega)), fd⟩
          · by_cases d2 : y + 20 = x
            · exact Or.inl ⟨eq_true (nI_le (by omega) (by omega)), by omega⟩
            · exact Or.inr ⟨eq_false (nI_ge (by omega) (by omega)), fd⟩
        rcases mn with ⟨mn, fd⟩ | ⟨mn, fd⟩
        · rw [fd] at us ⊢
          by_cases lw : nI x ≤ nI (y + 20)
          · simp only [lp_X10_setsSpeeds_3, ng, if_false, if_true, e3, pz_bind, pz_let, g12, cs, msp1, msp2, msp3, msp7, ex, q1, eq_true c1, eq_false c2, eq_false c3, z10, q11, g13, cs1, ey, y20, mn, us, eq_true lw, msp5, msp6, updI]
          · simp only [lp_X10_setsSpeeds_3, ng, if_false, if_true, e3, pz_bind, pz_let, g12, cs, msp1, msp2, msp3, msp7, ex, q1, eq_true c1, eq_false c2, eq_false c3, z10, q11, g13, cs1, ey, y20, mn, us, eq_false lw, msp5, msp6, msp7]
        · rw [fd] at us ⊢
          by_cases lw : nI x ≤ nI x
          · simp only [lp_X10_setsSpeeds_3, ng, if_false, if_true, e3, pz_bind, pz_let, g12, cs, msp1, msp2, msp3, msp7, ex, q1, eq_true c1, eq_false c2, eq_false c3, z10, q11, g13, cs1, ey, y20, mn, us, eq_true lw, msp5, msp6, updI]
          · simp only [lp_X10_setsSpeeds_3, ng, if_false, if_true, e3, pz_bind, pz_let, g12, cs, msp1, msp2, msp3, msp7, ex, q1, eq_true c1, eq_false c2, eq_false c3, z10, q11, g13, cs1, ey, y20, mn, us, eq_false lw, msp5, msp6, msp7]
    · rw [ra] at F
      rcases F with ⟨s11, fa⟩ | ⟨s11, y, hy, ey, F⟩
      · subst s11
        rw [fa] at us ⊢
        have q11 : ((11 : Int32) ≤ nI 11) = True := c_le 11 11 (by decide)
        by_cases d : w = 120
        · subst d
          have l120 : (120 : Int32) = nI 120 := rfl
          have mn3 : (nI 120 ≤ nI 120) = True := eq_true (by decide)
          by_cases lw : nI x ≤ nI 120
          · simp only [lp_X10_setsSpeeds_3, ng, if_false, if_true, e3, pz_bind, pz_let, g12, cs, msp1, msp2, msp3, msp7, ex, q1, eq_false c1, z00, q11, l120, mn3, us, eq_true lw, msp5, msp6, updI]
          · simp only [lp_X10_setsSpeeds_3, ng, if_false, if_true, e3, pz_bind, pz_let, g12, cs, msp1, msp2, msp3, msp7, ex, q1, eq_false c1, z00, q11, l120, mn3, us, eq_false lw, msp5, msp6]
        · have mn : ((120 : Int32) ≤ nI w) = False := c_ge 120 120 (by omega) (by decide)
          by_cases lw : nI x ≤ nI w
          · simp only [lp_X10_setsSpeeds_3, ng, if_false, if_true, e3, pz_bind, pz_let, g12, cs, msp1, msp2, msp3, msp7, ex, q1, eq_false c1, z00, q11, mn, us, eq_true lw, msp5, msp6, updI]
          · simp only [lp_X10_setsSpeeds_3, ng, if_false, if_true, e3, pz_bind, pz_let, g12, cs, msp1, msp2, msp3, msp7, ex, q1, eq_false c1, z00, q11, mn, us, eq_false lw, msp5, msp6, msp7]
      · have q11 : ((11 : Int32) ≤ nI s) = False := c_ge 11 11 (by omega) (by decide)
        have g13 : ∀ {α : Type} (a : Option α), g_in (nI (s + 1)) 12 a = a := fun a => pz_inN (by omega) (by decide) a
        have y20 : nI y + 20 = nI (y + 20) := nI_add y 20
        have cs1 := cl_I (show s + 1 < 2 ^ 31 by omega)
        have mn : (nI (y + 20) ≤ nI w) = True ∧ f = y + 20 ∨ (nI (y + 20) ≤ nI w) = False ∧ f = w := by
          rcases F with ⟨d, fd⟩ | ⟨d, fd⟩
          · exact Or.inl ⟨eq_true (nI_le (by omega) (by omega)), fd⟩
          · by_cases d2 : y + 20 = w
            · exact Or.inl ⟨eq_true (nI_le (by omega) (by omega)), by omega⟩
            · exact Or.inr ⟨eq_false (nI_ge (by omega) (by omega)), fd⟩
        rcases mn with ⟨mn, fd⟩ | ⟨mn, fd⟩
        · rw [fd] at us ⊢
          by_cases lw : nI x ≤ nI (y + 20)
          · simp only [lp_X10_setsSpeeds_3, ng, if_false, if_true, e3, pz_bind, pz_let, g12, cs, msp1, msp2, msp3, msp7, ex, q1, eq_false c1, z00, q11, g13, cs1, ey, y20, mn, us, eq_true lw, msp5, msp6, updI]
          · simp only [lp_X10_setsSpeeds_3, ng, if_false, if_true, e3, pz_bind, pz_let, g12, cs, msp1, msp2, msp3, msp7, ex, q1, eq_false c1, z00, q11, g13, cs1, ey, y20, mn, us, eq_false lw, msp5, msp6, msp7]
        · rw [fd] at us ⊢
          by_cases lw : nI x ≤ nI w
          · simp only [lp_X10_setsSpeeds_3, ng, if_false, if_true, e3, pz_bind, pz_let, g12, cs, msp1, msp2, msp3, msp7, ex, q1, eq_false c1, z00, q11, g13, cs1, ey, y20, mn, us, eq_true lw, msp5, msp6, updI]
          · simp only [lp_X10_setsSpeeds_3, ng, if_false, if_true, e3, pz_bind, pz_let, g12, cs, msp1, msp2, msp3, msp7, ex, q1, eq_false c1, z00, q11, g13, cs1, ey, y20, mn, us, eq_false lw, msp5, msp6, msp7]
    · rw [ra] at F
      rcases F with ⟨s11, fa⟩ | ⟨s11, y, hy, ey, F⟩
      · subst s11
        rw [fa] at us ⊢
        have q11 : ((11 : Int32) ≤ nI 11) = True := c_le 11 11 (by decide)
        by_cases d : w = 120
        · subst d
          have l120 : (120 : Int32) = nI 120 := rfl
          have mn3 : (nI 120 ≤ nI 120) = True := eq_true (by decide)
          by_cases lw : nI x ≤ nI 120
          · simp only [lp_X10_setsSpeeds_3, ng, if_false, if_true, e3, pz_bind, pz_let, g12, cs, msp1, msp2, msp3, msp7, ex, q1, eq_true c1, eq_true c2, z00, q11, l120, mn3, us, eq_true lw, msp5, msp6, updI]
          · simp only [lp_X10_setsSpeeds_3, ng, if_false, if_true, e3, pz_bind, pz_let, g12, cs, msp1, msp2, msp3, msp7, ex, q1, eq_true c1, eq_true c2, z00, q11, l120, mn3, us, eq_false lw, msp5, msp6]
        · have mn : ((120 : Int32) ≤ nI w) = False := c_ge 120 120 (by omega) (by decide)
          by_cases lw : nI x ≤ nI w
          · simp only [lp_X10_setsSpeeds_3, ng, if_false, if_true, e3, pz_bind, pz_let, g12, cs, msp1, msp2, msp3, msp7, ex, q1, eq_true c1, eq_true c2, z00, q11, mn, us, eq_true lw, msp5, msp6, updI]
          · simp only [lp_X10_setsSpeeds_3, ng, if_false, if_true, e3, pz_bind, pz_let, g12, cs, msp1, msp2, msp3, msp7, ex, q1, eq_true c1, eq_true c2, z00, q11, mn, us, eq_false lw, msp5, msp6, msp7]
      · have q11 : ((11 : Int32) ≤ nI s) = False := c_ge 11 11 (by omega) (by decide)
        have g13 : ∀ {α : Type} (a : Option α), g_in (nI (s + 1)) 12 a = a := fun a => pz_inN (by omega) (by decide) a
        have y20 : nI y + 20 = nI (y + 20) := nI_add y 20
        have cs1 := cl_I (show s + 1 < 2 ^ 31 by omega)
        have mn : (nI (y + 20) ≤ nI w) = True ∧ f = y + 20 ∨ (nI (y + 20) ≤ nI w) = False ∧ f = w := by
          rcases F with ⟨d, fd⟩ | ⟨d, fd⟩
          · exact Or.inl ⟨eq_true (nI_le (by omega) (by omega)), fd⟩
          · by_cases d2 : y + 20 = w
            · exact Or.inl ⟨eq_true (nI_le (by omega) (by omega)), by omega⟩
            · exact Or.inr ⟨eq_false (nI_ge (by omega) (by omega)), fd⟩
        rcases mn with ⟨mn, fd⟩ | ⟨mn, fd⟩
        · rw [fd] at us ⊢
          by_cases lw : nI x ≤ nI (y + 20)
          · simp only [lp_X10_setsSpeeds_3, ng, if_false, if_true, e3, pz_bind, pz_let, g12, cs, msp1, msp2, msp3, msp7, ex, q1, eq_true c1, eq_true c2, z00, q11, g13, cs1, ey, y20, mn, us, eq_true lw, msp5, msp6, updI]
          · simp only [lp_X10_setsSpeeds_3, ng, if_false, if_true, e3, pz_bind, pz_let, g12, cs, msp1, msp2, msp3, msp7, ex, q1, eq_true c1, eq_true c2, z00, q11, g13, cs1, ey, y20, mn, us, eq_false lw, msp5, msp6, msp7]
        · rw [fd] at us ⊢
          by_cases lw : nI x ≤ nI w
          · simp only [lp_X10_setsSpeeds_3, ng, if_false, if_true, e3, pz_bind, pz_let, g12, cs, msp1, msp2, msp3, msp7, ex, q1, eq_true c1, eq_true c2, z00, q11, g13, cs1, ey, y20, mn, us, eq_true lw, msp5, msp6, updI]
          · simp only [lp_X10_setsSpeeds_3, ng, if_false, if_true, e3, pz_bind, pz_let, g12, cs, msp1, msp2, msp3, msp7, ex, q1, eq_true c1, eq_true c2, z00, q11, g13, cs1, ey, y20, mn, us, eq_false lw, msp5, msp6, msp7]
    · rw [ra] at F
      rcases F with ⟨s11, fa⟩ | ⟨s11, y, hy, ey, F⟩
      · subst s11
        rw [fa] at us ⊢
        have q11 : ((11 : Int32) ≤ nI 11) = True := c_le 11 11 (by decide)
        by_cases d : w = 120
        · subst d
          have l120 : (120 : Int32) = nI 120 := rfl
          have mn3 : (nI 120 ≤ nI 120) = True := eq_true (by decide)
          by_cases lw : nI x ≤ nI 120
          · simp only [lp_X10_setsSpeeds_3, ng, if_false, if_true, e3, pz_bind, pz_let, g12, cs, msp1, msp2, msp3, msp7, ex, q1, eq_true c1, eq_false c2, eq_true c3, z00, q11, l120, mn3, us, eq_true lw, msp5, msp6, updI]
          · simp only [lp_X10_setsSpeeds_3, ng, if_false, if_true, e3, pz_bind, pz_let, g12, cs, msp1, msp2, msp3, msp7, ex, q1, eq_true c1, eq_false c2, eq_true c3, z00, q11, l120, mn3, us, eq_false lw, msp5, msp6]
        · have mn : ((120 : Int32) ≤ nI w) = False := c_ge 120 120 (by omega) (by decide)
          by_cases lw : nI x ≤ nI w
          · simp only [lp_X10_setsSpeeds_3, ng, if_false, if_true, e3, pz_bind, pz_let, g12, cs, msp1, msp2, msp3, msp7, ex, q1, eq_true c1, eq_false c2, eq_true c3, z00, q11, mn, us, eq_true lw, msp5, msp6, updI]
          · simp only [lp_X10_setsSpeeds_3, ng, if_false, if_true, e3, pz_bind, pz_let, g12, cs, msp1, msp2, msp3, msp7, ex, q1, eq_true c1, eq_false c2, eq_true c3, z00, q11, mn, us, eq_false lw, msp5, msp6, msp7]
      · have q11 : ((11 : Int32) ≤ nI s) = False := c_ge 11 11 (by omega) (by decide)
        have g13 : ∀ {α : Type} (a : Option α), g_in (nI (s + 1)) 12 a = a := fun a => pz_inN (by omega) (by decide) a
        have y20 : nI y + 20 = nI (y + 20) := nI_add y 20
        have cs1 := cl_I (show s + 1 < 2 ^ 31 by omega)
        have mn : (nI (y + 20) ≤ nI w) = True ∧ f = y + 20 ∨ (nI (y + 20) ≤ nI w) = False ∧ f = w := by
          rcases F with ⟨d, fd⟩ | ⟨d, fd⟩
          · exact Or.inl ⟨eq_true (nI_le (by omega) (by omega)), fd⟩
          · by_cases d2 : y + 20 = w
            · exact Or.inl ⟨eq_true (nI_le (by omega) (by omega)), by omega⟩
            · exact Or.inr ⟨eq_false (nI_ge (by omega) (by omega)), fd⟩
        rcases mn with ⟨mn, fd⟩ | ⟨mn, fd⟩
        · rw [fd] at us ⊢
          by_cases lw : nI x ≤ nI (y + 20)
          · simp only [lp_X10_setsSpeeds_3, ng, if_false, if_true, e3, pz_bind, pz_let, g12, cs, msp1, msp2, msp3, msp7, ex, q1, eq_true c1, eq_false c2, eq_true c3, z00, q11, g13, cs1, ey, y20, mn, us, eq_true lw, msp5, msp6, updI]
          · simp only [lp_X10_setsSpeeds_3, ng, if_false, if_true, e3, pz_bind, pz_let, g12, cs, msp1, msp2, msp3, msp7, ex, q1, eq_true c1, eq_false c2, eq_true c3, z00, q11, g13, cs1, ey, y20, mn, us, eq_false lw, msp5, msp6, msp7]
        · rw [fd] at us ⊢
          by_cases lw : nI x ≤ nI w
          · simp only [lp_X10_setsSpeeds_3, ng, if_false, if_true, e3, pz_bind, pz_let, g12, cs, msp1, msp2, msp3, msp7, ex, q1, eq_true c1, eq_false c2, eq_true c3, z00, q11, g13, cs1, ey, y20, mn, us, eq_true lw, msp5, msp6, updI]
          · simp only [lp_X10_setsSpeeds_3, ng, if_false, if_true, e3, pz_bind, pz_let, g12, cs, msp1, msp2, msp3, msp7, ex, q1, eq_true c1, eq_false c2, eq_true c3, z00, q11, g13, cs1, ey, y20, mn, us, eq_false lw, msp5, msp6, msp7]
  exact ⟨_, inv _, CL _ rfl, ML _ rfl⟩
theorem speeds (hT : RT u v) (hD : RD u v) (hS : SB S) : ∃ S' : cS_t, SB S' ∧ g_X7_setAnew (qcS_put u S) (m_now v) = some (qcS_put u S') ∧ g_X10_setsSpeeds (qmS_put v S) = some (qmS_put v S') := by
  obtain ⟨n, z, t, ⟨S', hS', rfl, rfl⟩, h1, h2⟩ := lpR (fun n (z : Int32 × GS) => lp_X7_setAnew_4 (m_now v) (fun w => some w) n z.1 z.2) (fun n (t : Int32 × MS) => lp_X10_setsSpeeds_3 (fun w => some w) n t.1 t.2) 12 (by decide) (fun i z t => ∃ S' : cS_t, SB S' ∧ z = (dn i, qcS_put u S') ∧ t = (dn i, qmS_put v S')) (by
    rintro n i z t hi ⟨S', hS', rfl, rfl⟩
    obtain ⟨S2, h2, e1, e2⟩ := spStep hT hD hS' (show 11 - i < 12 by omega) (fun w => some w) (fun w => some w) n
    rw [← dn_lt hi, dn_step hi] at e1 e2
    exact ⟨(dn (i + 1), qcS_put u S2), (dn (i + 1), qmS_put v S2), ⟨S2, h2, rfl, rfl⟩, e1, e2⟩) (11, qcS_put u S) (11, qmS_put v S) ⟨S, hS, rfl, rfl⟩
  refine ⟨S', hS', h1.trans ?_, h2.trans ?_⟩
  · show lp_X7_setAnew_4 _ _ (n + 1) (-1) _ = _
    rw [lp_X7_setAnew_4, if_pos (by decide)]
  · show lp_X10_setsSpeeds_3 _ (n + 1) (-1) _ = _
    rw [lp_X10_setsSpeeds_3, if_pos (by decide)]
end RELSF
end
section
/-! what is kept of a minute -/
theorem tdV_r {u : GS} {v : MS} (hO : RO u v) {p : Nat} (hp : p < 48) : ∃ a : Nat, a ≤ 2 ∧ tdV v p = nI a := by
  have e : mL_ordered v = cL_orders u := hO.1.symm
  by_cases o : mL_ordered v p = -1
  · by_cases c : crV v p
    · exact ⟨2, by omega, tdV_cr o c⟩
    · exact ⟨0, by omega, tdV_no o c⟩
  · rw [tdV_ord o]
    rcases hO.2 p hp with q | q
    · rw [e] at o
      exact absurd q o
    · rw [e]
      exact q
theorem sgV_r {u : GS} {v : MS} (hO : RO u v) {p : Nat} (hp : p < 48) : ∃ a : Nat, a < 4 ∧ sgV v p = nI a := by
  unfold sgV
  by_cases c : tdV v p = 0 ∧ p < 44 ∧ tdV v (p + 4) = 2
  · rw [if_pos c]
    exact ⟨1, by omega, rfl⟩
  · rw [if_neg c]
    obtain ⟨a, ha, e⟩ := tdV_r hO hp
    exact ⟨a, by omega, e⟩
section RELSG
variable {u : GS} {v : MS}
theorem keep_st {s : Nat} (hs : s < 12) (w : GS) (k : Int32 → Option GS) (n x l a : Nat) (hl : l < 4) (ea : cL_shown w (4 * s + l) = nI a) : lp_X5_keep_19 (nI s) w k (n + 1) (nI x) (nI l) = lp_X5_keep_19 (nI s) w k n (nI (x * 4 + a)) (nI l + (-1)) := by
  have e : nI x * (4 : Int32) + nI a = nI (x * 4 + a) := by
    rw [show (4 : Int32) = nI 4 from rfl, pk_mul, nI_add]
  rw [lp_X5_keep_19, if_neg (nI_pos (by omega)), placeN, pz_bind, pz_inN (show 4 * s + l < 48 by omega) (by decide), cl_I (by omega), pz_let, pz_let, ea, e]
theorem keep_in {s : Nat} (hs : s < 12) (w : GS) (k : Int32 → Option GS) (x a b c d : Nat) (ea : cL_shown w (4 * s) = nI a) (eb : cL_shown w (4 * s + 1) = nI b) (ec : cL_shown w (4 * s + 2) = nI c) (ed : cL_shown w (4 * s + 3) = nI d) : lp_X5_keep_19 (nI s) w k FU (nI x) 3 = k (nI (256 * x + 64 * d + 16 * c + 4 * b + a)) := by
  have e3 : nI 3 + (-1) = nI 2 := pk_m1 2
  have e2 : nI 2 + (-1) = nI 1 := pk_m1 1
  have e1 : nI 1 + (-1) = nI 0 := pk_m1 0
  have s3 := keep_st hs w k 999 x 3 d (by omega) ed
  have s2 := keep_st hs w k 998 (x * 4 + d) 2 c (by omega) ec
  have s1 := keep_st hs w k 997 ((x * 4 + d) * 4 + c) 1 b (by omega) eb
  have s0 := keep_st hs w k 996 (((x * 4 + d) * 4 + c) * 4 + b) 0 a (by omega) ea
  rw [e3] at s3
  rw [e2] at s2
  rw [e1] at s1
  have fin : ∀ (n : Nat) (z : Int32), lp_X5_keep_19 (nI s) w k (n + 1) z (nI 0 + (-1)) = k z := fun n z => by
    rw [lp_X5_keep_19, if_pos (by decide)]
  have e : (((x * 4 + d) * 4 + c) * 4 + b) * 4 + a = 256 * x + 64 * d + 16 * c + 4 * b + a := by omega
  exact (s3.trans (s2.trans (s1.trans (s0.trans (fin 995 _))))).trans (congrArg (fun z => k (nI z)) e)
theorem mks1 (v : MS) (f : Nat → Int32) : mK_proofs (mK_proofs_set v f) = f := rfl
theorem mks2 (v : MS) (f g : Nat → Int32) : mK_proofs_set (mK_proofs_set v f) g = mK_proofs_set v g := rfl
theorem cks1 (u : GS) (f : Nat → Int32) : cK_kept (cK_kept_set u f) = f := rfl
theorem cks2 (u : GS) (f g : Nat → Int32) : cK_kept_set (cK_kept_set u f) g = cK_kept_set u g := rfl
theorem keeps_st (hv : smV v) {t s : Nat} (ht : t < 60) (hs : s < 12) (k : MS → Option MS) (n l : Nat) (hl : l < 4) (F : Nat → Int32) : lp_X10_keeps_37 (nI (60 * t)) (nI s) k (n + 1) (nI l) (mK_proofs_set v F) = lp_X10_keeps_37 (nI (60 * t)) (nI s) k n (nI (l + 1)) (mK_proofs_set v (upd F (60 * t + 5 * s + 1 + l) (sgV v (4 * s + l)))) := by
  have e : (((nI (60 * t) + ((5 : Int32) * nI s)) + (1 : Int32)) + nI l) = nI (60 * t + 5 * s + 1 + l) := by
    rw [show (5 : Int32) = nI 5 from rfl, show (1 : Int32) = nI 1 from rfl, pk_mul, nI_add, nI_add, nI_add]
  have sg : g_X10_signOf (mK_proofs_set v F) (nI s) (nI l) = some (sgV v (4 * s + l)) := sign_m (v := mK_proofs_set v F) hv hs hl
  rw [lp_X10_keeps_37, if_neg (fun q => by rw [c_ge 4 4 hl (by decide)] at q; exact q), sg, pz_bind, e, pz_inN (show 60 * t + 5 * s + 1 + l < 3600 by omega) (by decide), cl_I (by omega), pz_let, pz_let, mks1, mks2, nI_1]
theorem keeps_in (hv : smV v) {t s : Nat} (ht : t < 60) (hs : s < 12) (k : MS → Option MS) (F : Nat → Int32) : lp_X10_keeps_37 (nI (60 * t)) (nI s) k FU 0 (mK_proofs_set v F) = k (mK_proofs_set v (upd (upd (upd (upd F (60 * t + 5 * s + 1) (sgV v (4 * s))) (60 * t + 5 * s + 2) (sgV v (4 * s + 1))) (60 * t + 5 * s + 3) (sgV v (4 * s + 2))) (60 * t + 5 * s + 4) (sgV v (4 * s + 3)))) := by
  have s0 := keeps_st hv ht hs k 999 0 (by omega) F
  have s1 := keeps_st hv ht hs k 998 1 (by omega) (upd F (60 * t + 5 * s + 1) (sgV v (4 * s)))
  have s2 := keeps_st hv ht hs k 997 2 (by omega) (upd (upd F (60 * t + 5 * s + 1) (sgV v (4 * s))) (60 * t + 5 * s + 2) (sgV v (4 * s + 1)))
  have s3 := keeps_st hv ht hs k 996 3 (by omega) (upd (upd (upd F (60 * t + 5 * s + 1) (sgV v (4 * s))) (60 * t + 5 * s + 2) (sgV v (4 * s + 1))) (60 * t + 5 * s + 3) (sgV v (4 * s + 2)))
  have fin : ∀ (n : Nat) (w : MS), lp_X10_keeps_37 (nI (60 * t)) (nI s) k (n + 1) (nI 4) w = k w := fun n w => by
    rw [lp_X10_keeps_37, if_pos (by rw [c_le 4 4 (by decide)]; trivial)]
  exact s0.trans (s1.trans (s2.trans (s3.trans (fin 995 _))))
theorem row_old {K F : Nat → Int32} {t s t' s' : Nat} (hs : s < 12) (hs' : s' < 12) (ne : ¬ (t' = t ∧ s' = s)) (h : rowK K F t' s') (z x a b c d : Int32) : rowK (upd K (12 * t + s) z) (upd (upd (upd (upd (upd F (60 * t + 5 * s) x) (60 * t + 5 * s + 1) a) (60 * t + 5 * s + 2) b) (60 * t + 5 * s + 3) c) (60 * t + 5 * s + 4) d) t' s' := by
  obtain ⟨X, A, B, C, D, h1, h2, h3, h4, h5, p0, p1, p2, p3, p4, kp⟩ := h
  refine ⟨X, A, B, C, D, h1, h2, h3, h4, h5, ?_, ?_, ?_, ?_, ?_, ?_⟩
  · rw [pk_un (by omega), pk_un (by omega), pk_un (by omega), pk_un (by omega), pk_un (by omega)]
    exact p0
  · rw [pk_un (by omega), pk_un (by omega), pk_un (by omega), pk_un (by omega), pk_un (by omega)]
    exact p1
  · rw [pk_un (by omega), pk_un (by omega), pk_un (by omega), pk_un (by omega), pk_un (by omega)]
    exact p2
  · rw [pk_un (by omega), pk_un (by omega), pk_un (by omega), pk_un (by omega), pk_un (by omega)]
    exact p3
  · rw [pk_un (by omega), pk_un (by omega), pk_un (by omega), pk_un (by omega), pk_un (by omega)]
    exact p4
  · rw [pk_un (by omega)]
    exact kp
theorem row_new {K F : Nat → Int32} {t s X A B C D : Nat} (h1 : X ≤ 120) (h2 : A < 4) (h3 : B < 4) (h4 : C < 4) (h5 : D < 4) : rowK (upd K (12 * t + s) (nI (256 * X + 64 * D + 16 * C + 4 * B + A))) (upd (upd (upd (upd (upd F (60 * t + 5 * s) (nI X)) (60 * t + 5 * s + 1) (nI A)) (60 * t + 5 * s + 2) (nI B)) (60 * t + 5 * s + 3) (nI C)) (60 * t + 5 * s + 4) (nI D)) t s := by
  refine ⟨X, A, B, C, D, h1, h2, h3, h4, h5, ?_, ?_, ?_, ?_, ?_, pk_us⟩
  · rw [pk_un (by omega), pk_un (by omega), pk_un (by omega), pk_un (by omega), pk_us]
  · rw [pk_un (by omega), pk_un (by omega), pk_un (by omega), pk_us]
  · rw [pk_un (by omega), pk_un (by omega), pk_us]
  · rw [pk_un (by omega), pk_us]
  · rw [pk_us]
/-- a minute is kept, in both alike -/
theorem keepB (hM : RM u v) (hS : RS u v) (hO : RO u v) (hv : smV v) (hK : RK u v) (hg : ∀ p : Nat, p < 48 → cL_shown u p = sgV v p) : ∃ K F : Nat → Int32, (∀ t s : Nat, t < 60 → s < 12 → rowK K F t s) ∧ g_X5_keep u (c_minute u) = some (cK_kept_set u K) ∧ g_X10_keeps v = some (mK_proofs_set v F) := by
  obtain ⟨em, m, hm, em2⟩ := hM
  have r1 : nI m - nI m / (60 : Int32) * (60 : Int32) = nI (m % 60) := pk_rem (d := 60) (by omega) (by omega) (by omega)
  have v2 : (60 : Int32) * nI (m % 60) = nI (60 * (m % 60)) := pk_mul 60 _
  have ht : m % 60 < 60 := Nat.mod_lt _ (by omega)
  obtain ⟨n, z, t, ⟨K, F, hKF, rfl, rfl⟩, h1, h2⟩ := lpR (fun n (z : Int32 × GS) => lp_X5_keep_3 (nI m) (fun w => some w) n z.1 z.2) (fun n (t : Int32 × MS) => lp_X10_keeps_13 (nI (60 * (m % 60))) (fun w => some w) n t.1 t.2) 12 (by decide) (fun i z t => ∃ K F : Nat → Int32, (∀ t s : Nat, t < 60 → s < 12 → rowK K F t s) ∧ z = (nI i, cK_kept_set u K) ∧ t = (nI i, mK_proofs_set v F)) (by
    rintro n i z t hi ⟨K, F, hKF, rfl, rfl⟩
    obtain ⟨x, hx, ex⟩ := hS.2.1 i hi
    have ex2 : mS_speedSign v i = nI x := (congrFun hS.shown i).trans ex
    obtain ⟨a, ha, ea⟩ := sgV_r hO (show 4 * i < 48 by omega)
    obtain ⟨b, hb, eb⟩ := sgV_r hO (show 4 * i + 1 < 48 by omega)
    obtain ⟨c, hc, ec⟩ := sgV_r hO (show 4 * i + 2 < 48 by omega)
    obtain ⟨d, hd, ed⟩ := sgV_r hO (show 4 * i + 3 < 48 by omega)
    have k1 := keep_in hi (cK_kept_set u K) (fun (x5_19 : Int32) => g_bind (g_X5_slotOf (nI m) (nI i)) (fun (y10 : Int32) => g_in y10 720 (g_let (cK_kept_set (cK_kept_set u K) (upd (cK_kept (cK_kept_set u K)) y10.toNatClampNeg x5_19)) (fun (u13 : GS) => g_let (nI i + 1) (fun (v14 : Int32) => lp_X5_keep_3 (nI m) (fun w => some w) n v14 u13))))) x a b c d ((hg _ (by omega)).trans ea) ((hg _ (by omega)).trans eb) ((hg _ (by omega)).trans ec) ((hg _ (by omega)).trans ed)
    have k2 := keeps_in hv ht hi (fun (w37 : MS) => g_let (nI i + 1) (fun (v13 : Int32) => lp_X10_keeps_13 (nI (60 * (m % 60))) (fun w => some w) n v13 w37)) (upd F (60 * (m % 60) + 5 * i) (nI x))
    rw [ea, eb, ec, ed] at k2
    have ix : nI (60 * (m % 60)) + ((5 : Int32) * nI i) = nI (60 * (m % 60) + 5 * i) := by
      rw [show (5 : Int32) = nI 5 from rfl, pk_mul, nI_add]
    refine ⟨_, _, ⟨upd K (12 * (m % 60) + i) (nI (256 * x + 64 * d + 16 * c + 4 * b + a)), upd (upd (upd (upd (upd F (60 * (m % 60) + 5 * i) (nI x)) (60 * (m % 60) + 5 * i + 1) (nI a)) (60 * (m % 60) + 5 * i + 2) (nI b)) (60 * (m % 60) + 5 * i + 3) (nI c)) (60 * (m % 60) + 5 * i + 4) (nI d), fun t' s' h1 h2 => ?_, rfl, rfl⟩, ?_, ?_⟩
    · by_cases e : t' = m % 60 ∧ s' = i
      · rw [e.1, e.2]
        exact row_new hx ha hb hc hd
      · exact row_old hi h2 e (hKF t' s' h1 h2) _ _ _ _ _ _
    · show lp_X5_keep_3 _ _ (n + 1) (nI i) _ = lp_X5_keep_3 _ _ n _ _
      rw [lp_X5_keep_3, if_neg (fun q => by rw [c_ge 12 12 hi (by decide)] at q; exact q), pz_inN hi (by decide), cl_I (by omega), pz_let, show cS_shown (cK_kept_set u K) i = nI x from ex, k1, slotN hm, pz_bind, pz_inN (show 12 * (m % 60) + i < 720 by omega) (by decide), cl_I (by omega), pz_let, pz_let, cks1, cks2, nI_1]
    · show lp_X10_keeps_13 _ _ (n + 1) (nI i) _ = lp_X10_keeps_13 _ _ n _ _
      rw [lp_X10_keeps_13, if_neg (fun q => by rw [c_ge 12 12 hi (by decide)] at q; exact q), pz_inN hi (by decide), ix, pz_inN (show 60 * (m % 60) + 5 * i < 3600 by omega) (by decide), cl_I (show 60 * (m % 60) + 5 * i < 2 ^ 31 by omega), cl_I (show i < 2 ^ 31 by omega), pz_let, show mS_speedSign (mK_proofs_set v F) i = nI x from ex2, mks1, mks2, k2, pz_let, nI_1]) (0, u) (0, v) ⟨cK_kept u, mK_proofs v, hK, rfl, rfl⟩
  refine ⟨K, F, hKF, ?_, ?_⟩
  · rw [g_X5_keep, em2]
    refine h1.trans ?_
    show lp_X5_keep_3 _ _ (n + 1) (nI 12) _ = _
    rw [lp_X5_keep_3, if_pos (by rw [c_le 12 12 (by decide)]; trivial)]
  · rw [g_X10_keeps, pz_let, ← em, em2, r1, v2, pz_let]
    refine h2.trans ?_
    show lp_X10_keeps_13 _ _ (n + 1) (nI 12) _ = _
    rw [lp_X10_keeps_13, if_pos (by rw [c_le 12 12 (by decide)]; trivial)]
end RELSG
end
section
/-! the patrols of one minute, and the minute itself -/
section RELSH
variable {u : GS} {v : MS}
theorem has1 {n k : Nat} (hn : n ≤ 12) (n1 : cI_count u = nI n) (hk : k < n) : g_X2_has u (nI k) = some 1 := by
  have i1 : g_X9_isWithin (nI k) 0 11 = some 1 := isw (k := k) (a := 0) (b := 11) _ rfl (Nat.zero_le k) (by omega) (by decide) _ _
  simp only [g_X2_has, i1, pz_bind, z10, if_false, n1, eq_false (nI_ge hk (by omega))]
theorem clrS {q : Nat} (hq : q < 48) : g_X8_clearStopped u (nI q) = some (cT_stopped_set u (upd (cT_stopped u) q 0)) := by
  have i1 : g_X9_isWithin (nI q) 0 47 = some 1 := isw (k := q) (a := 0) (b := 47) _ rfl (Nat.zero_le q) (by omega) (by decide) _ _
  simp only [g_X8_clearStopped, i1, pz_bind, z10, if_false, pz_inN hq (show 48 < 2 ^ 31 by decide), cl_I (show q < 2 ^ 31 by omega), pz_let, vnb0]
theorem patStep (h : Rel u v) {j : Nat} (hj : j < 3) (n : Nat) : ∃ (u' : GS) (v' : MS), Rel u' v' ∧ (c_minute u' = c_minute u ∧ m_thrown v' = m_thrown v) ∧ lp_X9_movePatrols_2 (fun w => some w) (n + 1) (nI j) u = lp_X9_movePatrols_2 (fun w => some w) n (nI (j + 1)) u' ∧ lp_X10_patrols_2 (fun w => some w) (n + 1) (nI j) v = lp_X10_patrols_2 (fun w => some w) n (nI (j + 1)) v' := by
  obtain ⟨hM, hT, hD, hS, hO, hH, hI, hP, hB, hK⟩ := id h
  obtain ⟨m, hm, n1, n2, pl, hw, hpl, ha, hb⟩ := id hI
  have g3 : ∀ {α : Type} (a : Option α), g_in (nI j) 3 a = a := fun a => pz_inN hj (by decide) a
  have cj := cl_I (show j < 2 ^ 31 by omega)
  have m1 : mP_sentTo v = cP_incidents u := hP.sent
  have m2 : mP_left v = cP_minutesLeft u := hP.left
  have m3 : mP_at v = cP_sections u := hP.at'
  have m4 : mT_isStopped v = cT_stopped u := hT.stopped
  rcases hP.2.2 j hj with ⟨c1, -⟩ | ⟨c1, x, x1, x2, ex⟩
  · refine ⟨u, v, h, ⟨rfl, rfl⟩, ?_, ?_⟩
    · simp only [lp_X9_movePatrols_2, c_ge 3 3 hj (by decide), if_false, g3, cj, pz_let, eq_true c1, if_true, nI_1]
    · simp only [lp_X10_patrols_2, c_ge 3 3 hj (by decide), if_false, g3, cj, pz_let, m1, eq_true c1, if_true, nI_1]
  · have b4 : nI x - 1 = nI (x - 1) := pk_sub (b := 1) x1
    have lS : ∀ (w : GS) f, cP_minutesLeft (cP_minutesLeft_set w f) = f := fun _ _ => rfl
    have lM : ∀ (w : MS) f, mP_left (mP_left_set w f) = f := fun _ _ => rfl
    have us : upd (cP_minutesLeft u) j (nI (x - 1)) j = nI (x - 1) := pk_us
    by_cases z : x = 1
    · -- its work ends
      have e0 : nI (x - 1) = 0 := by rw [z]; rfl
      have p0 : (0 < nI (x - 1)) = False := eq_false (by rw [e0]; decide)
      obtain ⟨k, hk, sk, pk⟩ : ∃ k : Nat, k < m ∧ cP_incidents u j = nI k ∧ cI_patrols u k = nI j := by
        rcases ha j hj with q | ⟨k, k1, k2, k3⟩
        · rw [m1] at q
          exact absurd q c1
        · exact ⟨k, k1, by rw [← m1]; exact k2, k3⟩
      obtain ⟨q, hq, eq1⟩ := hpl k hk
      have g12 : ∀ {α : Type} (a : Option α), g_in (nI k) 12 a = a := fun a => pz_inN (by omega) (by decide) a
      have g48 : ∀ {α : Type} (a : Option α), g_in (nI q) 48 a = a := fun a => pz_inN hq (by decide) a
      have ck := cl_I (show k < 2 ^ 31 by omega)
      have cq := cl_I (show q < 2 ^ 31 by omega)
      have q4 : nI q / (4 : Int32) = nI (q / 4) := pk_div (d := 4) (by omega) (by omega) (by omega)
      have hs1 := has1 (u := cP_minutesLeft_set u (upd (cP_minutesLeft u) j (nI (x - 1)))) hm n1 hk
      have cl1 := clrS (u := cP_minutesLeft_set u (upd (cP_minutesLeft u) j (nI (x - 1)))) hq
      have so := secOf (u := cI_patrols_set (cI_how_set (cT_stopped_set (cP_minutesLeft_set u (upd (cP_minutesLeft u) j (nI (x - 1)))) (upd (cT_stopped u) q 0)) (upd (cI_how u) k 2)) (upd (cI_patrols u) k (-1))) hm n1 hk hq eq1
      have t1 : ∀ f, cP_incidents (cP_minutesLeft_set u f) = cP_incidents u := fun _ => rfl
      have t2 : ∀ f, cI_places (cP_minutesLeft_set u f) = cI_places u := fun _ => rfl
      have t3 : ∀ f, cT_stopped (cP_minutesLeft_set u f) = cT_stopped u := fun _ => rfl
      have t4 : ∀ f g, cI_how (cT_stopped_set (cP_minutesLeft_set u f) g) = cI_how u := fun _ _ => rfl
      have t5 : ∀ f g h, cI_patrols (cI_how_set (cT_stopped_set (cP_minutesLeft_set u f) g) h) = cI_patrols u := fun _ _ _ => rfl
      have t6 : ∀ f g h i, cP_sections (cI_patrols_set (cI_how_set (cT_stopped_set (cP_minutesLeft_set u f) g) h) i) = cP_sections u := fun _ _ _ _ => rfl
      have t7 : ∀ f g h i s, cP_incidents (cP_sections_set (cI_patrols_set (cI_how_set (cT_stopped_set (cP_minutesLeft_set u f) g) h) i) s) = cP_incidents u := fun _ _ _ _ _ => rfl
      have r1 : ∀ f, mP_sentTo (mP_left_set v f) = mP_sentTo v := fun _ => rfl
      have r2 : ∀ f, mI_state (mP_left_set v f) = mI_state v := fun _ => rfl
      have r3 : ∀ f g, mP_sentTo (mI_state_set (mP_left_set v f) g) = mP_sentTo v := fun _ _ => rfl
      have r4 : ∀ f g, mI_placed (mI_state_set (mP_left_set v f) g) = mI_placed v := fun _ _ => rfl
      have r5 : ∀ f g, mT_isStopped (mI_state_set (mP_left_set v f) g) = mT_isStopped v := fun _ _ => rfl
      have r6 : ∀ f g h, mP_sentTo (mT_isStopped_set (mI_state_set (mP_left_set v f) g) h) = mP_sentTo v := fun _ _ _ => rfl
      have r7 : ∀ f g h, mI_placed (mT_isStopped_set (mI_state_set (mP_left_set v f) g) h) = mI_placed v := fun _ _ _ => rfl
      have r8 : ∀ f g h, mP_at (mT_isStopped_set (mI_state_set (mP_left_set v f) g) h) = mP_at v := fun _ _ _ => rfl
      have r9 : ∀ f g h a, mP_sentTo (mP_at_set (mT_isStopped_set (mI_state_set (mP_left_set v f) g) h) a) = mP_sentTo v := fun _ _ _ _ => rfl
      have pl2 : mI_placed v = cI_places u := pl.symm
      have hw2 : mI_state v = cI_how u := hw.symm
      -- the state behind
      have hA : ∀ j' : Nat, j' < 3 → (upd (cP_incidents u) j (-1) j' = -1 ∨ ∃ k' : Nat, k' < m ∧ upd (cP_incidents u) j (-1) j' = nI k' ∧ upd (cI_patrols u) k (-1) k' = nI j') := by
        intro j' hj'
        by_cases e : j' = j
        · rw [e, pk_us]
          exact Or.inl rfl
        · rw [pk_un e]
          rcases ha j' hj' with w | ⟨k', y1, y2, y3⟩
          · exact Or.inl (by rw [← m1]; exact w)
          · refine Or.inr ⟨k', y1, by rw [← m1]; exact y2, ?_⟩
            rw [pk_un (fun e2 => by
              rw [e2, pk, nI_eq (by omega) (by omega)] at y3
              exact e y3.symm)]
            exact y3
      have hB' : ∀ k' : Nat, k' < m → (upd (cI_patrols u) k (-1) k' = -1 ∨ ∃ j' : Nat, j' < 3 ∧ upd (cI_patrols u) k (-1) k' = nI j' ∧ upd (cP_incidents u) j (-1) j' = nI k') := by
        intro k' hk'
        by_cases e : k' = k
        · rw [e, pk_us]
          exact Or.inl rfl
        · rw [pk_un e]
          rcases hb k' hk' with w | ⟨j', y1, y2, y3⟩
          · exact Or.inl w
          · refine Or.inr ⟨j', y1, y2, ?_⟩
            rw [m1] at y3
            rw [pk_un (fun e2 => by
              rw [e2, sk, nI_eq (by omega) (by omega)] at y3
              exact e y3.symm)]
            exact y3
      have hC : ∀ j' : Nat, j' < 3 → ∃ s : Nat, s < 12 ∧ upd (cP_sections u) j (nI (q / 4)) j' = nI s := by
        intro j' hj'
        by_cases e : j' = j
        · rw [e, pk_us]
          exact ⟨q / 4, by omega, rfl⟩
        · rw [pk_un e]
          exact hP.2.1 j' hj'
      have hE : ∀ j' : Nat, j' < 3 → ((upd (cP_incidents u) j (-1) j' = -1 ∧ upd (cP_minutesLeft u) j (nI (x - 1)) j' = 0) ∨ (¬ upd (cP_incidents u) j (-1) j' = -1 ∧ ∃ x' : Nat, 1 ≤ x' ∧ x' ≤ 1000 ∧ upd (cP_minutesLeft u) j (nI (x - 1)) j' = nI x')) := by
        intro j' hj'
        by_cases e : j' = j
        · rw [e, pk_us, pk_us]
          exact Or.inl ⟨rfl, e0⟩
        · rw [pk_un e, pk_un e]
          exact hP.2.2 j' hj'
      have hT2 : qcT (cP_incidents_set (cP_sections_set (cI_patrols_set (cI_how_set (cT_stopped_set (cP_minutesLeft_set u (upd (cP_minutesLeft u) j (nI (x - 1)))) (upd (cT_stopped u) q 0)) (upd (cI_how u) k 2)) (upd (cI_patrols u) k (-1))) (upd (cP_sections u) j (nI (q / 4)))) (upd (cP_incidents u) j (-1))) = qmT (mP_sentTo_set (mP_at_set (mT_isStopped_set (mI_state_set (mP_left_set v (upd (cP_minutesLeft u) j (nI (x - 1)))) (upd (cI_how u) k 2)) (upd (cT_stopped u) q 0)) (upd (cP_sections u) j (nI (q / 4)))) (upd (cP_incidents u) j (-1))) := congrArg (fun t : cT_t => (t.1, upd (cT_stopped u) q 0, t.2.2)) hT.1
      have hP2 : qcP (cP_incidents_set (cP_sections_set (cI_patrols_set (cI_how_set (cT_stopped_set (cP_minutesLeft_set u (upd (cP_minutesLeft u) j (nI (x - 1)))) (upd (cT_stopped u) q 0)) (upd (cI_how u) k 2)) (upd (cI_patrols u) k (-1))) (upd (cP_sections u) j (nI (q / 4)))) (upd (cP_incidents u) j (-1))) = qmP (mP_sentTo_set (mP_at_set (mT_isStopped_set (mI_state_set (mP_left_set v (upd (cP_minutesLeft u) j (nI (x - 1)))) (upd (cI_how u) k 2)) (upd (cT_stopped u) q 0)) (upd (cP_sections u) j (nI (q / 4)))) (upd (cP_incidents u) j (-1))) := rfl
      have hI2 : RI (cP_incidents_set (cP_sections_set (cI_patrols_set (cI_how_set (cT_stopped_set (cP_minutesLeft_set u (upd (cP_minutesLeft u) j (nI (x - 1)))) (upd (cT_stopped u) q 0)) (upd (cI_how u) k 2)) (upd (cI_patrols u) k (-1))) (upd (cP_sections u) j (nI (q / 4)))) (upd (cP_incidents u) j (-1))) (mP_sentTo_set (mP_at_set (mT_isStopped_set (mI_state_set (mP_left_set v (upd (cP_minutesLeft u) j (nI (x - 1)))) (upd (cI_how u) k 2)) (upd (cT_stopped u) q 0)) (upd (cP_sections u) j (nI (q / 4)))) (upd (cP_incidents u) j (-1))) := ⟨m, hm, n1, n2, pl, rfl, hpl, hA, hB'⟩
      have hR : Rel (cP_incidents_set (cP_sections_set (cI_patrols_set (cI_how_set (cT_stopped_set (cP_minutesLeft_set u (upd (cP_minutesLeft u) j (nI (x - 1)))) (upd (cT_stopped u) q 0)) (upd (cI_how u) k 2)) (upd (cI_patrols u) k (-1))) (upd (cP_sections u) j (nI (q / 4)))) (upd (cP_incidents u) j (-1))) (mP_sentTo_set (mP_at_set (mT_isStopped_set (mI_state_set (mP_left_set v (upd (cP_minutesLeft u) j (nI (x - 1)))) (upd (cI_how u) k 2)) (upd (cT_stopped u) q 0)) (upd (cP_sections u) j (nI (q / 4)))) (upd (cP_incidents u) j (-1))) := ⟨hM, ⟨hT2, hT.2⟩, hD, hS, hO, hH, hI2, ⟨hP2, hC, hE⟩, hB, hK⟩
      refine ⟨cP_incidents_set (cP_sections_set (cI_patrols_set (cI_how_set (cT_stopped_set (cP_minutesLeft_set u (upd (cP_minutesLeft u) j (nI (x - 1)))) (upd (cT_stopped u) q 0)) (upd (cI_how u) k 2)) (upd (cI_patrols u) k (-1))) (upd (cP_sections u) j (nI (q / 4)))) (upd (cP_incidents u) j (-1)), mP_sentTo_set (mP_at_set (mT_isStopped_set (mI_state_set (mP_left_set v (upd (cP_minutesLeft u) j (nI (x - 1)))) (upd (cI_how u) k 2)) (upd (cT_stopped u) q 0)) (upd (cP_sections u) j (nI (q / 4)))) (upd (cP_incidents u) j (-1)), hR, ⟨rfl, rfl⟩, ?_, ?_⟩
      · have ew : g_X9_endWorkOf (cP_minutesLeft_set u (upd (cP_minutesLeft u) j (nI (x - 1)))) (nI j) = some (cP_incidents_set (cP_sections_set (cI_patrols_set (cI_how_set (cT_stopped_set (cP_minutesLeft_set u (upd (cP_minutesLeft u) j (nI (x - 1)))) (upd (cT_stopped u) q 0)) (upd (cI_how u) k 2)) (upd (cI_patrols u) k (-1))) (upd (cP_sections u) j (nI (q / 4)))) (upd (cP_incidents u) j (-1))) := by
          simp only [g_X9_endWorkOf, g3, cj, pz_let, t1, sk, hs1, pz_bind, z10, if_false, g12, ck, t2, eq1, cl1, t3, t4, t5, so, t6, t7]
        simp only [lp_X9_movePatrols_2, c_ge 3 3 hj (by decide), if_false, g3, cj, pz_let, eq_false c1, ex, b4, lS, us, p0, ew, pz_bind, nI_1]
      · have e0' : (nI (x - 1) = 0) = True := eq_true e0
        have c1' : (nI k = -1) = False := eq_false (nm1 k (by omega))
        simp only [lp_X10_patrols_2, c_ge 3 3 hj (by decide), if_false, g3, cj, pz_let, m1, sk, c1', m2, ex, b4, lM, us, e0', if_true, r1, r2, r3, r4, r5, r6, r7, r8, r9, pl2, hw2, m3, m4, g12, ck, eq1, g48, cq, vnb0, q4, nI_1]
    · have e0 : (nI (x - 1) = 0) = False := eq_false (nI_ne0 (by omega) (by omega))
      have p0 : (0 < nI (x - 1)) = True := eq_true (nI_lt (a := 0) (by omega) (by omega))
      refine ⟨cP_minutesLeft_set u (upd (cP_minutesLeft u) j (nI (x - 1))), mP_left_set v (upd (cP_minutesLeft u) j (nI (x - 1))), ⟨hM, hT, hD, hS, hO, hH, hI, ⟨congrArg (fun t : cP_t => (t.1, t.2.1, upd (cP_minutesLeft u) j (nI (x - 1)))) hP.1, hP.2.1, ?_⟩, hB, hK⟩, ⟨rfl, rfl⟩, ?_, ?_⟩
      · intro j' hj'
        show (cP_incidents u j' = -1 ∧ upd (cP_minutesLeft u) j (nI (x - 1)) j' = 0) ∨ (¬ cP_incidents u j' = -1 ∧ ∃ x' : Nat, 1 ≤ x' ∧ x' ≤ 1000 ∧ upd (cP_minutesLeft u) j (nI (x - 1)) j' = nI x')
        by_cases e : j' = j
        · rw [e, pk_us]
          exact Or.inr ⟨c1, x - 1, by omega, by omega, rfl⟩
        · rw [pk_un e]
          exact hP.2.2 j' hj'
      · simp only [lp_X9_movePatrols_2, c_ge 3 3 hj (by decide), if_false, g3, cj, pz_let, eq_false c1, ex, b4, lS, us, p0, if_true, nI_1]
      · simp only [lp_X10_patrols_2, c_ge 3 3 hj (by decide), if_false, g3, cj, pz_let, m1, eq_false c1, m2, ex, b4, lM, us, e0, nI_1]
theorem patAll (h : Rel u v) : ∃ (u' : GS) (v' : MS), Rel u' v' ∧ (c_minute u' = c_minute u ∧ m_thrown v' = m_thrown v) ∧ g_X9_movePatrols u = some u' ∧ g_X10_patrols v = some v' := by
  obtain ⟨n, z, t, ⟨a, b, hab, ⟨e1, e2⟩, rfl, rfl⟩, h1, h2⟩ := lpR (fun n (z : Int32 × GS) => lp_X9_movePatrols_2 (fun w => some w) n z.1 z.2) (fun n (t : Int32 × MS) => lp_X10_patrols_2 (fun w => some w) n t.1 t.2) 3 (by decide) (fun i z t => ∃ (a : GS) (b : MS), Rel a b ∧ (c_minute a = c_minute u ∧ m_thrown b = m_thrown v) ∧ z = (nI i, a) ∧ t = (nI i, b)) (by
    rintro n i z t hi ⟨a, b, hab, ⟨e1, e2⟩, rfl, rfl⟩
    obtain ⟨a', b', h', ⟨e3, e4⟩, s1, s2⟩ := patStep hab hi n
    exact ⟨(nI (i + 1), a'), (nI (i + 1), b'), ⟨a', b', h', ⟨e3.trans e1, e4.trans e2⟩, rfl, rfl⟩, s1, s2⟩) (0, u) (0, v) ⟨u, v, h, ⟨rfl, rfl⟩, rfl, rfl⟩
  refine ⟨a, b, hab, ⟨e1, e2⟩, h1.trans ?_, h2.trans ?_⟩
  · show lp_X9_movePatrols_2 _ (n + 1) (nI 3) _ = _
    rw [lp_X9_movePatrols_2, if_pos (by rw [c_le 3 3 (by decide)]; trivial)]
  · show lp_X10_patrols_2 _ (n + 1) (nI 3) _ = _
    rw [lp_X10_patrols_2, if_pos (by rw [c_le 3 3 (by decide)]; trivial)]
end RELSH
end
section
section RELSI
variable {u : GS} {v : MS}
/-- the minute behind the patrols: signs, traffic, speeds, proofs -/
theorem minute2 (h : Rel u v) : ∃ (u' : GS) (v' : MS), Rel u' v' ∧ (c_minute u' = c_minute u ∧ m_thrown v' = m_thrown v) ∧
    g_bind (g_X9_setLaneSigns u) (fun (y4 : GS) => g_bind (g_X8_goOn y4) (fun (y6 : GS) => g_bind (g_X8_arrive y6) (fun (y8 : GS) => g_bind (g_X8_judgeBroken y8) (fun (y10 : GS) => g_bind (g_X7_setAnew y10 (c_minute y10)) (fun (y12 : GS) => g_bind (g_X5_keep y12 (c_minute y12)) (fun (y14 : GS) => some y14)))))) = some u' ∧
    lp_X10_minute_17 (fun (w17 : MS) => g_bind (g_X10_comes w17) (fun (y10 : MS) => lp_X10_minute_52 (fun (w52 : MS) => g_bind (g_X10_setsSpeeds w52) (fun (y25 : MS) => g_bind (g_X10_keeps y25) (fun (y27 : MS) => some y27))) FU (0 : Int32) y10)) FU (11 : Int32) v = some v' := by
  obtain ⟨hM, hT, hD, hS, hO, hH, hI, hP, hB, hK⟩ := id h
  have hv : smV v := smV_of hI hB
  obtain ⟨f, g, e1, hg⟩ := setLane hM hO.1 hH.1 hI hB
  have hU : Rel (cL_shown_set (cL_told_set u f) g) v := ⟨hM, hT, hD, hS, hO, hH, hI, hP, hB, hK⟩
  have hg2 : ∀ p : Nat, p < 48 → cL_shown (cL_shown_set (cL_told_set u f) g) p = sgV v p := hg
  have hm : c_minute (cL_shown_set (cL_told_set u f) g) = c_minute u := rfl
  rw [e1, pz_bind]
  generalize cL_shown_set (cL_told_set u f) g = U at hU hg2 hm ⊢
  obtain ⟨hM, hT, hD, hS, hO, hH, hI, hP, hB, hK⟩ := id hU
  have hTB : TB (qcT U) := hT.2
  obtain ⟨T1, hT1, g1, g2⟩ := goAll (u := U) (T := qcT U) hv hg2 hTB (fun (w17 : MS) => g_bind (g_X10_comes w17) (fun (y10 : MS) => lp_X10_minute_52 (fun (w52 : MS) => g_bind (g_X10_setsSpeeds w52) (fun (y25 : MS) => g_bind (g_X10_keeps y25) (fun (y27 : MS) => some y27))) FU (0 : Int32) y10))
  have vT : qmT_put v (qcT U) = v := by
    rw [hT.1]
    rfl
  rw [vT] at g2
  obtain ⟨T2, hT2, a1, a2⟩ := arrive (u := U) (T := (T1.1, T1.2.1, T1.2.2.1, T1.2.2.2.1, T1.2.2.2.2.1 + T1.2.2.2.1, T1.2.2.2.2.2.1 + T1.2.2.2.1, T1.2.2.2.2.2.2)) hv hg2 hT1
  have a1' : g_X8_arrive (qcT_put U T1) = some (qcT_put U T2) := a1
  have a2' : g_X10_comes (qmT_put v T1) = some (qmT_put v T2) := a2
  obtain ⟨T3, hT3, j1, j2⟩ := judge (u := U) (v := v) hT2 (fun (w52 : MS) => g_bind (g_X10_setsSpeeds w52) (fun (y25 : MS) => g_bind (g_X10_keeps y25) (fun (y27 : MS) => some y27)))
  have hSB : SB (qcS U) := hS.2
  obtain ⟨S4, hS4, s1, s2⟩ := speeds (u := qcT_put U T3) (v := qmT_put v T3) (S := qcS U) ⟨rfl, hT3⟩ hD hSB
  have s1' : g_X7_setAnew (qcT_put U T3) (c_minute (qcT_put U T3)) = some (qcS_put (qcT_put U T3) S4) := by
    rw [show c_minute (qcT_put U T3) = m_now (qmT_put v T3) from hM.1]
    exact s1
  have vS : qmS_put (qmT_put v T3) (qcS U) = qmT_put v T3 := by
    rw [hS.1]
    rfl
  rw [vS] at s2
  obtain ⟨K5, F5, hKF, k1, k2⟩ := keepB (u := qcS_put (qcT_put U T3) S4) (v := qmS_put (qmT_put v T3) S4) hM ⟨rfl, hS4⟩ hO hv hK hg2
  refine ⟨cK_kept_set (qcS_put (qcT_put U T3) S4) K5, mK_proofs_set (qmS_put (qmT_put v T3) S4) F5, ⟨hM, ⟨rfl, hT3⟩, hD, ⟨rfl, hS4⟩, hO, hH, hI, hP, hB, hKF⟩, ⟨hm, rfl⟩, ?_, ?_⟩
  · rw [show g_X8_goOn U = some (qcT_put U T1) from g1, pz_bind, a1', pz_bind, j1, pz_bind, s1', pz_bind, k1, pz_bind]
  · rw [g2, a2', pz_bind, j2, s2, pz_bind, k2, pz_bind]
theorem minute1 (h : Rel u v) {t : Nat} (ht : t < 600) (et : c_minute u = nI t) : ∃ (u' : GS) (v' : MS), Rel u' v' ∧ (c_minute u' = nI (t + 1) ∧ m_thrown v' = m_thrown v) ∧ g_X9_comeToNextMinute u = some u' ∧ g_X10_minute v = some v' := by
  obtain ⟨hM, hT, hD, hS, hO, hH, hI, hP, hB, hK⟩ := id h
  have en : m_now v = nI t := hM.1.symm.trans et
  have h1 : Rel (c_minute_set u (nI (t + 1))) (m_now_set v (nI (t + 1))) := ⟨⟨rfl, t + 1, by omega, rfl⟩, hT, hD, hS, hO, hH, hI, hP, hB, hK⟩
  obtain ⟨u2, v2, h2, ⟨e1, e2⟩, p1, p2⟩ := patAll h1
  obtain ⟨u3, v3, h3, ⟨e3, e4⟩, q1, q2⟩ := minute2 h2
  refine ⟨u3, v3, h3, ⟨e3.trans e1, e4.trans e2⟩, ?_, ?_⟩
  · rw [g_X9_comeToNextMinute, pz_let, et, nI_1, p1, pz_bind]
    exact q1
  · rw [g_X10_minute, pz_let, en, nI_1, p2, pz_bind]
    exact q2
theorem sim_pass (h : Rel u v) (p : Int32) : SI Rel (g_X9_pass u p) (g_X10_pass v p) [("java/lang/IllegalArgumentException", 1), ("java/lang/IllegalStateException", 2)] := by
  obtain ⟨hM, hT, hD, hS, hO, hH, hI, hP, hB, hK⟩ := id h
  obtain ⟨em, t, ht, et⟩ := hM
  have en : m_now v = nI t := em.symm.trans et
  rcases iwc p 1 60 with ⟨h1, h2, e1, e2⟩ | ⟨-, e1, e2⟩
  · obtain ⟨m, hm, rfl⟩ := ix_of 60 (n := 60) rfl (by decide) (ge0 1 (by decide) h1) h2
    have l1 : ((600 : Int32) < nI t + nI m) = (600 < t + m) := propext (by
      rw [nI_add]
      exact nI_ltI (a := 600) (by decide) (by omega))
    have l2 : (nI t + nI m ≤ (600 : Int32)) = (t + m ≤ 600) := propext (by
      rw [nI_add]
      exact nI_leI (b := 600) (by omega) (by decide))
    by_cases c : t + m ≤ 600
    · obtain ⟨n, z, y, ⟨a, b, hab, ⟨i1, i2⟩, rfl, rfl⟩, r1, r2⟩ := lpR (fun n (z : Int32 × GS) => lp_X9_pass_32 (nI m) (fun (w32 : GS) => some (.inl (c_minute w32), w32)) n z.1 z.2) (fun n (y : Int32 × MS) => lp_X10_pass_42 (nI m) (fun (w42 : MS) => some ((m_now w42), w42)) n y.1 y.2) m (by omega) (fun i z y => ∃ (a : GS) (b : MS), Rel a b ∧ (c_minute a = nI (t + i) ∧ m_thrown b = 0) ∧ z = (nI i, a) ∧ y = (nI i, b)) (by
        rintro n i z y hi ⟨a, b, hab, ⟨i1, i2⟩, rfl, rfl⟩
        obtain ⟨a', b', h', ⟨i3, i4⟩, s1, s2⟩ := minute1 hab (show t + i < 600 by omega) i1
        refine ⟨(nI (i + 1), a'), (nI (i + 1), b'), ⟨a', b', h', ⟨i3, i4.trans i2⟩, rfl, rfl⟩, ?_, ?_⟩
        · show lp_X9_pass_32 _ _ (n + 1) (nI i) _ = lp_X9_pass_32 _ _ n _ _
          rw [lp_X9_pass_32, if_neg (nI_ge hi (by omega)), s1, pz_bind, pz_let, nI_1]
        · show lp_X10_pass_42 _ _ (n + 1) (nI i) _ = lp_X10_pass_42 _ _ n _ _
          rw [lp_X10_pass_42, if_neg (nI_ge hi (by omega)), s2, pz_bind, pz_let, nI_1]) (0, u) (0, m_thrown_set v 0) ⟨u, m_thrown_set v 0, h, ⟨et, rfl⟩, rfl, rfl⟩
      have f1 : lp_X9_pass_32 (nI m) (fun (w32 : GS) => some (.inl (c_minute w32), w32)) (n + 1) (nI m) a = some (.inl (c_minute a), a) := by
        rw [lp_X9_pass_32, if_pos (nI_le (Nat.le_refl m) (by omega))]
      have f2 : lp_X10_pass_42 (nI m) (fun (w42 : MS) => some ((m_now w42), w42)) (n + 1) (nI m) b = some (m_now b, b) := by
        rw [lp_X10_pass_42, if_pos (nI_le (Nat.le_refl m) (by omega))]
      refine SI_ok (m_now b) ?_ ?_ i2 hab
      · rw [← hab.1.1]
        refine Eq.trans ?_ (r1.trans f1)
        simp only [g_X9_pass, e1, pz_bind, pz_na1, pz_xl, pz_let, et, l1, eq_false (show ¬ 600 < t + m by omega), if_false, pz_ns1]
      · refine Eq.trans ?_ (r2.trans f2)
        simp only [g_X10_pass, e2, pz_bind, pz_let, z10, if_false, en, l2, eq_true c, if_true, pz_h0]
    · refine SI_no "java/lang/IllegalStateException" 2 0 (u' := u) (v' := m_thrown_set v 2) es2 ?_ ?_ rfl h
      · simp only [g_X9_pass, e1, pz_bind, pz_na1, pz_xl, pz_xr, id, pz_let, et, l1, eq_true (show 600 < t + m by omega), if_true, pz_ns]
      · simp only [g_X10_pass, e2, pz_bind, pz_let, z10, z00, if_false, en, l2, eq_false c, if_true, pz_h2]
  · exact SI_no "java/lang/IllegalArgumentException" 1 0 (v' := m_thrown_set v 1) es1 (by simp only [g_X9_pass, e1, pz_bind, pz_na, pz_xr, id]) (by simp only [g_X10_pass, e2, pz_bind, pz_let, z00, if_true, pz_h1]) rfl h
end RELSI
end
section
/-! the works -/
/-- works k cover the lane l at the section s in the minute m -/
def cov (v : MS) (s l m k : Nat) : Prop := mB_worksLane v k = nI l ∧ (¬ nI s < mB_worksFrom v k ∧ ¬ mB_worksTo v k < nI s) ∧ ¬ nI m < mB_worksBegin v k ∧ ¬ mB_worksEnd v k ≤ nI m
theorem mxI (x y : Nat) (hx : x < 2 ^ 31) (hy : y < 2 ^ 31) : (if nI x < nI y then nI y else nI x) = nI (max x y) := by
  by_cases c : x < y
  · rw [if_pos (nI_lt c hy), Nat.max_eq_right (by omega)]
  · rw [if_neg (nI_nlt (by omega) hx), Nat.max_eq_left (by omega)]
theorem mnI (x y : Nat) (hx : x < 2 ^ 31) (hy : y < 2 ^ 31) : (if nI y < nI x then nI y else nI x) = nI (min x y) := by
  by_cases c : y < x
  · rw [if_pos (nI_lt c hx), Nat.min_eq_right (by omega)]
  · rw [if_neg (nI_nlt (by omega) hy), Nat.min_eq_left (by omega)]
section RELSJ
variable {u : GS} {v : MS}
theorem book_m {w : Nat} (hw : w ≤ 8) (ew : mB_works v = nI w) (s l t : Nat) : (g_X10_areBooked v (nI s) (nI l) (nI t) = some 1 ∧ ∃ k : Nat, k < w ∧ cov v s l t k) ∨ (g_X10_areBooked v (nI s) (nI l) (nI t) = some 0 ∧ ∀ k : Nat, k < w → ¬ cov v s l t k) := by
  obtain ⟨m, y, ⟨x, hx, rfl⟩, h1⟩ := lpF (fun m (y : Int32 × Int32) => lp_X10_areBooked_6 v (nI s) (nI l) (nI t) (fun (x3_5 : Int32) => g_bo x3_5 (some x3_5)) m y.1 y.2) w (by omega) (fun i y => ∃ x : Int32, ((x = 0 ∧ ∀ k : Nat, k < i → ¬ cov v s l t k) ∨ (x = 1 ∧ ∃ k : Nat, k < w ∧ cov v s l t k)) ∧ y = (x, nI i)) (by
    rintro m i y hi ⟨x, hx, rfl⟩
    have c' := eq_false (nI_ge hi (show w < 2 ^ 31 by omega))
    have g8 : ∀ (a : Option Int32), g_in (nI i) 8 a = a := fun a => pz_inN (by omega) (by decide) a
    have ci := cl_I (show i < 2 ^ 31 by omega)
    rcases hx with ⟨rfl, hx⟩ | ⟨rfl, hx⟩
    · have nx : ¬ cov v s l t i → ∀ k : Nat, k < i + 1 → ¬ cov v s l t k := fun q k hk => by
        by_cases e : k = i
        · rw [e]
          exact q
        · exact hx k (by omega)
      by_cases p : mB_worksLane v i = nI l
      · rcases iwc (nI s) (mB_worksFrom v i) (mB_worksTo v i) with ⟨a1, a2, -, i1⟩ | ⟨a, -, i1⟩
        · by_cases o1 : nI t < mB_worksBegin v i
          · refine ⟨(0, nI (i + 1)), ⟨0, Or.inl ⟨rfl, nx (fun q => q.2.2.1 o1)⟩, rfl⟩, ?_⟩
            show lp_X10_areBooked_6 v _ _ _ _ (m + 1) 0 (nI i) = lp_X10_areBooked_6 v _ _ _ _ m _ _
            simp only [lp_X10_areBooked_6, ew, c', if_false, pz_let, z00, z10, if_true, g8, ci, eq_true p, i1, pz_bind, eq_true o1, nI_1]
          · by_cases o2 : mB_worksEnd v i ≤ nI t
            · refine ⟨(0, nI (i + 1)), ⟨0, Or.inl ⟨rfl, nx (fun q => q.2.2.2 o2)⟩, rfl⟩, ?_⟩
              show lp_X10_areBooked_6 v _ _ _ _ (m + 1) 0 (nI i) = lp_X10_areBooked_6 v _ _ _ _ m _ _
              simp only [lp_X10_areBooked_6, ew, c', if_false, pz_let, z00, z10, if_true, g8, ci, eq_true p, i1, pz_bind, eq_false o1, eq_true o2, nI_1]
            · refine ⟨(1, nI (i + 1)), ⟨1, Or.inr ⟨rfl, i, hi, p, ⟨a1, a2⟩, o1, o2⟩, rfl⟩, ?_⟩
              show lp_X10_areBooked_6 v _ _ _ _ (m + 1) 0 (nI i) = lp_X10_areBooked_6 v _ _ _ _ m _ _
              simp only [lp_X10_areBooked_6, ew, c', if_false, pz_let, z00, z10, if_true, g8, ci, eq_true p, i1, pz_bind, eq_false o1, eq_false o2, nI_1]
        · refine ⟨(0, nI (i + 1)), ⟨0, Or.inl ⟨rfl, nx (fun q => a q.2.1)⟩, rfl⟩, ?_⟩
          show lp_X10_areBooked_6 v _ _ _ _ (m + 1) 0 (nI i) = lp_X10_areBooked_6 v _ _ _ _ m _ _
          simp only [lp_X10_areBooked_6, ew, c', if_false, pz_let, z00, if_true, g8, ci, eq_true p, i1, pz_bind, nI_1]
      · refine ⟨(0, nI (i + 1)), ⟨0, Or.inl ⟨rfl, nx (fun q => p q.1)⟩, rfl⟩, ?_⟩
        show lp_X10_areBooked_6 v _ _ _ _ (m + 1) 0 (nI i) = lp_X10_areBooked_6 v _ _ _ _ m _ _
        simp only [lp_X10_areBooked_6, ew, c', if_false, pz_let, z00, if_true, g8, ci, eq_false p, nI_1]
    · refine ⟨(1, nI (i + 1)), ⟨1, Or.inr ⟨rfl, hx⟩, rfl⟩, ?_⟩
      show lp_X10_areBooked_6 v _ _ _ _ (m + 1) 1 (nI i) = lp_X10_areBooked_6 v _ _ _ _ m _ _
      simp only [lp_X10_areBooked_6, ew, c', if_false, pz_let, z10, nI_1]) (0, 0) ⟨0, Or.inl ⟨rfl, fun k hk => absurd hk (Nat.not_lt_zero k)⟩, rfl⟩
  have e2 : lp_X10_areBooked_6 v (nI s) (nI l) (nI t) (fun (x3_5 : Int32) => g_bo x3_5 (some x3_5)) (m + 1) x (nI w) = g_bo x (some x) := by
    simp only [lp_X10_areBooked_6, ew, eq_true (nI_le (Nat.le_refl w) (show w < 2 ^ 31 by omega)), if_true]
  rcases hx with ⟨rfl, hx⟩ | ⟨rfl, hx⟩
  · exact Or.inr ⟨(h1.trans e2).trans (pz_bo0 _), hx⟩
  · exact Or.inl ⟨(h1.trans e2).trans (pz_bo1 _), hx⟩
/-- both other lanes are covered -/
def two (v : MS) (w s p q t : Nat) : Prop := (∃ k : Nat, k < w ∧ cov v s p t k) ∧ ∃ k : Nat, k < w ∧ cov v s q t k
theorem many_in {w : Nat} (hw : w ≤ 8) (ew : mB_works v = nI w) (s p q : Nat) {d e : Nat} (hde : d < e) (he : e ≤ 600) (k : Int32 → Option Int32) : (lp_X10_areTooMany_45 v (nI e) (nI p) (nI q) (nI s) k FU 0 (nI d) = k 1 ∧ ∃ t : Nat, d ≤ t ∧ t < e ∧ two v w s p q t) ∨ (lp_X10_areTooMany_45 v (nI e) (nI p) (nI q) (nI s) k FU 0 (nI d) = k 0 ∧ ∀ t : Nat, d ≤ t → t < e → ¬ two v w s p q t) := by
  have main := lpX (fun n (y : Int32 × Int32) => lp_X10_areTooMany_45 v (nI e) (nI p) (nI q) (nI s) k n y.1 y.2) (fun _ (_ : Unit) => (none : Option Unit)) (e - d) (by omega) (fun i y _ => y = (0, nI (d + i)) ∧ ∀ t : Nat, d ≤ t → t < d + i → ¬ two v w s p q t) (fun a _ => a = k 1 ∧ ∃ t : Nat, d ≤ t ∧ t < e ∧ two v w s p q t) (by
    rintro n i y _ hn hi ⟨rfl, hy⟩
    have lt : ¬ nI e ≤ nI (d + i) := nI_ge (by omega) (by omega)
    have q1 : nI (d + i) + 1 = nI (d + (i + 1)) := nI_1 (d + i)
    have go : ¬ two v w s p q (d + i) → ∀ t : Nat, d ≤ t → t < d + (i + 1) → ¬ two v w s p q t := fun c t h1 h2 => by
      by_cases e : t = d + i
      · rw [e]
        exact c
      · exact hy t h1 (by omega)
    rcases book_m hw ew s p (d + i) with ⟨b1, B1⟩ | ⟨b1, B1⟩
    · rcases book_m hw ew s q (d + i) with ⟨b2, B2⟩ | ⟨b2, B2⟩
      · refine Or.inr ⟨?_, d + i, by omega, by omega, B1, B2⟩
        show lp_X10_areTooMany_45 v _ _ _ _ _ (n + 1) 0 (nI (d + i)) = _
        obtain ⟨j, rfl⟩ : ∃ j, n = j + 1 := ⟨n - 1, by omega⟩
        have fin : ∀ z : Int32, lp_X10_areTooMany_45 v (nI e) (nI p) (nI q) (nI s) k (j + 1) 1 z = k 1 := fun z => by
          rw [lp_X10_areTooMany_45]
          by_cases c : nI e ≤ z
          · rw [if_pos c]
          · rw [if_neg c, if_neg (by decide)]
        rw [lp_X10_areTooMany_45, if_neg lt, if_pos rfl, b1, pz_bind, pz_let, pz_let, if_neg (by decide), b2, pz_bind, if_neg (by decide)]
        exact fin (nI (d + i) + 1)
      · refine Or.inl ⟨(0, nI (d + (i + 1))), (), ⟨rfl, go (fun z => by
          obtain ⟨k', h1, h2⟩ := z.2
          exact B2 k' h1 h2)⟩, ?_, rfl⟩
        show lp_X10_areTooMany_45 v _ _ _ _ _ (n + 1) 0 (nI (d + i)) = lp_X10_areTooMany_45 v _ _ _ _ _ n _ _
        rw [lp_X10_areTooMany_45, if_neg lt, if_pos rfl, b1, pz_bind, pz_let, pz_let, if_neg (by decide), b2, pz_bind, if_pos rfl]
        exact congrArg (lp_X10_areTooMany_45 v (nI e) (nI p) (nI q) (nI s) k n 0) q1
    · refine Or.inl ⟨(0, nI (d + (i + 1))), (), ⟨rfl, go (fun z => by
        obtain ⟨k', h1, h2⟩ := z.1
        exact B1 k' h1 h2)⟩, ?_, rfl⟩
      show lp_X10_areTooMany_45 v _ _ _ _ _ (n + 1) 0 (nI (d + i)) = lp_X10_areTooMany_45 v _ _ _ _ _ n _ _
      rw [lp_X10_areTooMany_45, if_neg lt, if_pos rfl, b1, pz_bind, pz_let, pz_let, if_pos rfl]
      exact congrArg (lp_X10_areTooMany_45 v (nI e) (nI p) (nI q) (nI s) k n 0) q1) (0, nI d) () ⟨rfl, fun t h1 h2 => by omega⟩
  rcases main with ⟨n, y, _, ⟨rfl, hy⟩, h1, -⟩ | ⟨h1, h2⟩
  · refine Or.inr ⟨h1.trans ?_, fun t a b => hy t a (by omega)⟩
    show lp_X10_areTooMany_45 v _ _ _ _ _ (n + 1 + 1) 0 (nI (d + (e - d))) = _
    rw [lp_X10_areTooMany_45, if_pos (nI_le (by omega) (by omega))]
  · exact Or.inl ⟨h1, h2⟩
theorem many_out {w : Nat} (hw : w ≤ 8) (ew : mB_works v = nI w) (p q : Nat) {b c d e : Nat} (hbc : b ≤ c) (hc : c ≤ 11) (hde : d < e) (he : e ≤ 600) : (lp_X10_areTooMany_30 v (nI c) (nI d) (nI e) (nI p) (nI q) (fun (x : Int32) => g_bo x (some x)) FU 0 (nI b) = some 1 ∧ ∃ s t : Nat, b ≤ s ∧ s ≤ c ∧ d ≤ t ∧ t < e ∧ two v w s p q t) ∨ (lp_X10_areTooMany_30 v (nI c) (nI d) (nI e) (nI p) (nI q) (fun (x : Int32) => g_bo x (some x)) FU 0 (nI b) = some 0 ∧ ∀ s t : Nat, b ≤ s → s ≤ c → d ≤ t → t < e → ¬ two v w s p q t) := by
  have main := lpX (fun n (y : Int32 × Int32) => lp_X10_areTooMany_30 v (nI c) (nI d) (nI e) (nI p) (nI q) (fun (x : Int32) => g_bo x (some x)) n y.1 y.2) (fun _ (_ : Unit) => (none : Option Unit)) (c + 1 - b) (by omega) (fun i y _ => y = (0, nI (b + i)) ∧ ∀ s t : Nat, b ≤ s → s < b + i → d ≤ t → t < e → ¬ two v w s p q t) (fun a _ => a = some 1 ∧ ∃ s t : Nat, b ≤ s ∧ s ≤ c ∧ d ≤ t ∧ t < e ∧ two v w s p q t) (by
    rintro n i y _ hn hi ⟨rfl, hy⟩
    have lt : ¬ nI c < nI (b + i) := nI_nlt (by omega) (by omega)
    have q1 : nI (b + i) + 1 = nI (b + (i + 1)) := nI_1 (b + i)
    rcases many_in hw ew (b + i) p q hde he (fun (x8_45 : Int32) => g_let (nI (b + i) + 1) (fun (v16 : Int32) => lp_X10_areTooMany_30 v (nI c) (nI d) (nI e) (nI p) (nI q) (fun (x : Int32) => g_bo x (some x)) n x8_45 v16)) with ⟨m1, t, t1, t2, t3⟩ | ⟨m1, M1⟩
    · refine Or.inr ⟨?_, b + i, t, by omega, by omega, t1, t2, t3⟩
      show lp_X10_areTooMany_30 v _ _ _ _ _ _ (n + 1) 0 (nI (b + i)) = _
      obtain ⟨j, rfl⟩ : ∃ j, n = j + 1 := ⟨n - 1, by omega⟩
      have fin : ∀ z : Int32, lp_X10_areTooMany_30 v (nI c) (nI d) (nI e) (nI p) (nI q) (fun (x : Int32) => g_bo x (some x)) (j + 1) 1 z = some 1 := fun z => by
        rw [lp_X10_areTooMany_30]
        by_cases c : nI c < z
        · rw [if_pos c, pz_bo1]
        · rw [if_neg c, if_neg (by decide), pz_bo1]
      rw [lp_X10_areTooMany_30, if_neg lt, if_pos rfl, m1, pz_let, fin]
    · refine Or.inl ⟨(0, nI (b + (i + 1))), (), ⟨rfl, fun s t h1 h2 h3 h4 => ?_⟩, ?_, rfl⟩
      · by_cases e : s = b + i
        · rw [e]
          exact M1 t h3 h4
        · exact hy s t h1 (by omega) h3 h4
      · show lp_X10_areTooMany_30 v _ _ _ _ _ _ (n + 1) 0 (nI (b + i)) = lp_X10_areTooMany_30 v _ _ _ _ _ _ n _ _
        rw [lp_X10_areTooMany_30, if_neg lt, if_pos rfl, m1, pz_let, q1]) (0, nI b) () ⟨rfl, fun s t h1 h2 => by omega⟩
  rcases main with ⟨n, y, _, ⟨rfl, hy⟩, h1, -⟩ | ⟨h1, h2⟩
  · refine Or.inr ⟨h1.trans ?_, fun s t a b => hy s t a (by omega)⟩
    show lp_X10_areTooMany_30 v _ _ _ _ _ _ (n + 1 + 1) 0 (nI (b + (c + 1 - b))) = _
    rw [lp_X10_areTooMany_30, if_pos (nI_lt (by omega) (by omega)), pz_bo0]
  · exact Or.inl ⟨h1, h2⟩
end RELSJ
end
section
section RELSK
variable {u : GS} {v : MS}
/-- the class's fields of works k -/
def fldC (u : GS) (k a b c d e : Nat) : Prop := cB_lanes u k = nI a ∧ cB_froms u k = nI b ∧ cB_tos u k = nI c ∧ cB_begins u k = nI d ∧ cB_ends u k = nI e
theorem three_c {i j k a a' a'' b b' b'' c c' c'' d d' d'' e e' e'' : Nat} (hi : i < 8) (hj : j < 8) (hk : k < 8) (h1 : fldC u i a b c d e) (h2 : fldC u j a' b' c' d' e') (h3 : fldC u k a'' b'' c'' d'' e'') (ha : a < 2 ^ 31) (ha' : a' < 2 ^ 31) (ha'' : a'' < 2 ^ 31) : g_X0_areInThreeLanes u (nI i) (nI j) (nI k) = some (if a ≠ a' ∧ a ≠ a'' ∧ a' ≠ a'' then 1 else 0) := by
  have gi : ∀ {α : Type} (a : Option α), g_in (nI i) 8 a = a := fun a => pz_inN hi (by decide) a
  have gj : ∀ {α : Type} (a : Option α), g_in (nI j) 8 a = a := fun a => pz_inN hj (by decide) a
  have gk : ∀ {α : Type} (a : Option α), g_in (nI k) 8 a = a := fun a => pz_inN hk (by decide) a
  simp only [g_X0_areInThreeLanes, gi, gj, gk, cl_I (show i < 2 ^ 31 by omega), cl_I (show j < 2 ^ 31 by omega), cl_I (show k < 2 ^ 31 by omega), h1.1, h2.1, h3.1, nI_eq ha ha', nI_eq ha ha'', nI_eq ha' ha'']
  by_cases c1 : a = a'
  · rw [if_pos c1, if_neg (fun z => z.1 c1)]
  · by_cases c2 : a = a''
    · rw [if_neg c1, if_pos c2, if_neg (fun z => z.2.1 c2)]
    · by_cases c3 : a' = a''
      · rw [if_neg c1, if_neg c2, if_pos c3, if_neg (fun z => z.2.2 c3)]
      · rw [if_neg c1, if_neg c2, if_neg c3, if_pos ⟨c1, c2, c3⟩]
theorem meet_c {i j k a a' a'' b b' b'' c c' c'' d d' d'' e e' e'' : Nat} (hi : i < 8) (hj : j < 8) (hk : k < 8) (h1 : fldC u i a b c d e) (h2 : fldC u j a' b' c' d' e') (h3 : fldC u k a'' b'' c'' d'' e'') (hb : b ≤ 600 ∧ b' ≤ 600 ∧ b'' ≤ 600 ∧ c ≤ 600 ∧ c' ≤ 600 ∧ c'' ≤ 600 ∧ d ≤ 600 ∧ d' ≤ 600 ∧ d'' ≤ 600 ∧ e ≤ 600 ∧ e' ≤ 600 ∧ e'' ≤ 600) : g_X0_doMeet u (nI i) (nI j) (nI k) = some (if max b (max b' b'') ≤ min c (min c' c'') ∧ max d (max d' d'') < min e (min e' e'') then 1 else 0) := by
  have gi : ∀ {α : Type} (a : Option α), g_in (nI i) 8 a = a := fun a => pz_inN hi (by decide) a
  have gj : ∀ {α : Type} (a : Option α), g_in (nI j) 8 a = a := fun a => pz_inN hj (by decide) a
  have gk : ∀ {α : Type} (a : Option α), g_in (nI k) 8 a = a := fun a => pz_inN hk (by decide) a
  have m1 := mxI b' b'' (by omega) (by omega)
  have m2 := mxI b (max b' b'') (by omega) (by omega)
  have m3 := mnI c' c'' (by omega) (by omega)
  have m4 := mnI c (min c' c'') (by omega) (by omega)
  have m5 := mxI d' d'' (by omega) (by omega)
  have m6 := mxI d (max d' d'') (by omega) (by omega)
  have m7 := mnI e' e'' (by omega) (by omega)
  have m8 := mnI e (min e' e'') (by omega) (by omega)
  simp only [g_X0_doMeet, gi, gj, gk, cl_I (show i < 2 ^ 31 by omega), cl_I (show j < 2 ^ 31 by omega), cl_I (show k < 2 ^ 31 by omega), h1.2.1, h2.2.1, h3.2.1, h1.2.2.1, h2.2.2.1, h3.2.2.1, h1.2.2.2.1, h2.2.2.2.1, h3.2.2.2.1, h1.2.2.2.2, h2.2.2.2.2, h3.2.2.2.2, pz_let, m1, m2, m3, m4, m5, m6, m7, m8]
  have l1 : (nI (min c (min c' c'')) < nI (max b (max b' b''))) = ¬ (max b (max b' b'') ≤ min c (min c' c'')) := propext ((nI_ltI (by omega) (by omega)).trans (by omega))
  have l2 : (nI (min e (min e' e'')) ≤ nI (max d (max d' d''))) = ¬ (max d (max d' d'') < min e (min e' e'')) := propext ((nI_leI (by omega) (by omega)).trans (by omega))
  by_cases c1 : max b (max b' b'') ≤ min c (min c' c'')
  · by_cases c2 : max d (max d' d'') < min e (min e' e'')
    · rw [if_neg (fun z => by rw [l1] at z; exact z c1), if_neg (fun z => by rw [l2] at z; exact z c2), if_pos ⟨c1, c2⟩]
    · rw [if_neg (fun z => by rw [l1] at z; exact z c1), if_pos (by rw [l2]; exact c2), if_neg (fun z => c2 z.2)]
  · rw [if_pos (by rw [l1]; exact c1), if_neg (fun z => c1 z.1)]
/-- whether the pair (i, j) and the new one take the last lane -/
def tkC (u : GS) (w i j : Nat) : Prop := g_X0_areInThreeLanes u (nI i) (nI j) (nI w) = some 1 ∧ g_X0_doMeet u (nI i) (nI j) (nI w) = some 1
/-- each of the two tests answers 0 or 1 -/
def binC (u : GS) (w : Nat) : Prop := ∀ i j : Nat, i < w → j < i → (g_X0_areInThreeLanes u (nI i) (nI j) (nI w) = some 1 ∨ g_X0_areInThreeLanes u (nI i) (nI j) (nI w) = some 0) ∧ (g_X0_doMeet u (nI i) (nI j) (nI w) = some 1 ∨ g_X0_doMeet u (nI i) (nI j) (nI w) = some 0)
theorem next_in {w i : Nat} (hw : w < 8) (ew : cB_count u = nI w) (hb : binC u w) (hi : i < w) (k : Unit → Option Int32) : (lp_X0_nextTakesLastLane_27 u (nI i) k FU 0 = k () ∧ ∀ j : Nat, j < i → ¬ tkC u w i j) ∨ (lp_X0_nextTakesLastLane_27 u (nI i) k FU 0 = some 1 ∧ ∃ j : Nat, j < i ∧ tkC u w i j) := by
  have main := lpE (fun n (z : Int32) => lp_X0_nextTakesLastLane_27 u (nI i) k n z) i (by omega) (fun j z => z = nI j ∧ ∀ t : Nat, t < j → ¬ tkC u w i t) (fun x => x = some 1 ∧ ∃ j : Nat, j < i ∧ tkC u w i j) (by
    rintro n j z hj ⟨rfl, hz⟩
    have lt : ¬ nI i ≤ nI j := nI_ge hj (by omega)
    have go : ¬ tkC u w i j → ∀ t : Nat, t < j + 1 → ¬ tkC u w i t := fun c t ht => by
      by_cases e : t = j
      · rw [e]
        exact c
      · exact hz t (by omega)
    obtain ⟨b1, b2⟩ := hb i j hi hj
    rcases b1 with b1 | b1
    · rcases b2 with b2 | b2
      · refine Or.inr ⟨?_, j, hj, b1, b2⟩
        show lp_X0_nextTakesLastLane_27 u _ _ (n + 1) (nI j) = _
        simp only [lp_X0_nextTakesLastLane_27, eq_false lt, if_false, ew, b1, b2, pz_bind, pz_let, z10]
      · refine Or.inl ⟨nI (j + 1), ⟨rfl, go (fun z => absurd (Option.some.inj (b2.symm.trans z.2)) (by decide))⟩, ?_⟩
        show lp_X0_nextTakesLastLane_27 u _ _ (n + 1) (nI j) = lp_X0_nextTakesLastLane_27 u _ _ n _
        simp only [lp_X0_nextTakesLastLane_27, eq_false lt, if_false, ew, b1, b2, pz_bind, pz_let, z10, if_true, nI_1]
    · refine Or.inl ⟨nI (j + 1), ⟨rfl, go (fun z => absurd (Option.some.inj (b1.symm.trans z.1)) (by decide))⟩, ?_⟩
      show lp_X0_nextTakesLastLane_27 u _ _ (n + 1) (nI j) = lp_X0_nextTakesLastLane_27 u _ _ n _
      simp only [lp_X0_nextTakesLastLane_27, eq_false lt, if_false, ew, b1, pz_bind, pz_let, if_true, nI_1]) 0 ⟨rfl, fun t ht => absurd ht (Nat.not_lt_zero t)⟩
  rcases main with ⟨n, z, ⟨rfl, hz⟩, h1⟩ | h
  · refine Or.inl ⟨h1.trans ?_, hz⟩
    show lp_X0_nextTakesLastLane_27 u _ _ (n + 1) (nI i) = _
    rw [lp_X0_nextTakesLastLane_27, if_pos (nI_le (Nat.le_refl i) (by omega))]
  · exact Or.inr h
theorem next_out {w : Nat} (hw : w < 8) (ew : cB_count u = nI w) (hb : binC u w) : (g_X0_nextTakesLastLane u = some 0 ∧ ∀ i j : Nat, i < w → j < i → ¬ tkC u w i j) ∨ (g_X0_nextTakesLastLane u = some 1 ∧ ∃ i j : Nat, i < w ∧ j < i ∧ tkC u w i j) := by
  have i1 : g_X9_isWithin (nI w) 0 7 = some 1 := isw (k := w) (a := 0) (b := 7) _ rfl (Nat.zero_le w) (by omega) (by decide) _ _
  have st : g_X0_nextTakesLastLane u = lp_X0_nextTakesLastLane_17 u (fun (_ : Unit) => some (0 : Int32)) FU (0 : Int32) := by
    rw [g_X0_nextTakesLastLane, ew, i1, pz_bind, if_neg (by decide)]
  rw [st]
  have main := lpE (fun n (z : Int32) => lp_X0_nextTakesLastLane_17 u (fun (_ : Unit) => some (0 : Int32)) n z) w (by omega) (fun i z => z = nI i ∧ ∀ t j : Nat, t < i → j < t → ¬ tkC u w t j) (fun x => x = some 1 ∧ ∃ i j : Nat, i < w ∧ j < i ∧ tkC u w i j) (by
    rintro n i z hi ⟨rfl, hz⟩
    have lt : ¬ cB_count u ≤ nI i := by
      rw [ew]
      exact nI_ge hi (by omega)
    rcases next_in hw ew hb hi (fun (_ : Unit) => g_let (nI i + 1) (fun (v14 : Int32) => lp_X0_nextTakesLastLane_17 u (fun (_ : Unit) => some (0 : Int32)) n v14)) with ⟨m1, M1⟩ | ⟨m1, j, hj, M1⟩
    · refine Or.inl ⟨nI (i + 1), ⟨rfl, fun t j ht hj => ?_⟩, ?_⟩
      · by_cases e : t = i
        · rw [e] at hj ⊢
          exact M1 j hj
        · exact hz t j (by omega) hj
      · show lp_X0_nextTakesLastLane_17 u _ (n + 1) (nI i) = lp_X0_nextTakesLastLane_17 u _ n _
        rw [lp_X0_nextTakesLastLane_17, if_neg lt, m1, pz_let, nI_1]
    · refine Or.inr ⟨?_, i, j, hi, hj, M1⟩
      show lp_X0_nextTakesLastLane_17 u _ (n + 1) (nI i) = _
      rw [lp_X0_nextTakesLastLane_17, if_neg lt, m1]) 0 ⟨rfl, fun t j ht => absurd ht (Nat.not_lt_zero t)⟩
  rcases main with ⟨n, z, ⟨rfl, hz⟩, h1⟩ | h
  · refine Or.inl ⟨h1.trans ?_, hz⟩
    show lp_X0_nextTakesLastLane_17 u _ (n + 1) (nI w) = _
    rw [lp_X0_nextTakesLastLane_17, if_pos (by rw [ew]; exact nI_le (Nat.le_refl w) (by omega))]
  · exact Or.inr h
end RELSK
end
section
section RELSL
variable {u : GS} {v : MS}
theorem covI {k s l t a b c d e : Nat} (h : mB_worksLane v k = nI a ∧ mB_worksFrom v k = nI b ∧ mB_worksTo v k = nI c ∧ mB_worksBegin v k = nI d ∧ mB_worksEnd v k = nI e) (hb : s ≤ 600 ∧ l ≤ 600 ∧ t ≤ 600 ∧ a ≤ 600 ∧ b ≤ 600 ∧ c ≤ 600 ∧ d ≤ 600 ∧ e ≤ 600) : cov v s l t k ↔ (a = l ∧ b ≤ s ∧ s ≤ c ∧ d ≤ t ∧ t < e) := by
  unfold cov
  rw [h.1, h.2.1, h.2.2.1, h.2.2.2.1, h.2.2.2.2, nI_eq (by omega) (by omega), nI_ltI (by omega) (by omega), nI_ltI (by omega) (by omega), nI_ltI (by omega) (by omega), nI_leI (by omega) (by omega)]
  omega
/-- behind the writing of the next works, not yet counted -/
def wrC (u : GS) (w : Nat) (a b c d e : Int32) : GS := cB_ends_set (cB_begins_set (cB_tos_set (cB_froms_set (cB_lanes_set u (upd (cB_lanes u) w a)) (upd (cB_froms u) w b)) (upd (cB_tos u) w c)) (upd (cB_begins u) w d)) (upd (cB_ends u) w e)
theorem wr_c {w : Nat} (hw : w < 8) (ew : cB_count u = nI w) (a b c d e : Int32) : g_X0_writeNext u a b c d e = some (wrC u w a b c d e) := by
  have i1 : g_X9_isWithin (nI w) 0 7 = some 1 := isw (k := w) (a := 0) (b := 7) _ rfl (Nat.zero_le w) (by omega) (by decide) _ _
  have g8 : ∀ {α : Type} (a : Option α), g_in (nI w) 8 a = a := fun a => pz_inN hw (by decide) a
  have cw := cl_I (show w < 2 ^ 31 by omega)
  have x1 : ∀ f, cB_count (cB_lanes_set u f) = cB_count u := fun _ => rfl
  have x2 : ∀ (y : GS) f, cB_count (cB_froms_set y f) = cB_count y := fun _ _ => rfl
  have x3 : ∀ (y : GS) f, cB_count (cB_tos_set y f) = cB_count y := fun _ _ => rfl
  have x4 : ∀ (y : GS) f, cB_count (cB_begins_set y f) = cB_count y := fun _ _ => rfl
  have y1 : ∀ f, cB_froms (cB_lanes_set u f) = cB_froms u := fun _ => rfl
  have y2 : ∀ f g, cB_tos (cB_froms_set (cB_lanes_set u f) g) = cB_tos u := fun _ _ => rfl
  have y3 : ∀ f g h, cB_begins (cB_tos_set (cB_froms_set (cB_lanes_set u f) g) h) = cB_begins u := fun _ _ _ => rfl
  have y4 : ∀ f g h i, cB_ends (cB_begins_set (cB_tos_set (cB_froms_set (cB_lanes_set u f) g) h) i) = cB_ends u := fun _ _ _ _ => rfl
  simp only [g_X0_writeNext, ew, i1, pz_bind, z10, if_false, g8, cw, pz_let, x1, x2, x3, x4, y1, y2, y3, y4, wrC]
theorem wr_f {w k : Nat} (hk : k ≠ w) {a b c d e : Nat} (A B C D E : Int32) (h : fldC u k a b c d e) : fldC (wrC u w A B C D E) k a b c d e := ⟨(pk_un hk).trans h.1, (pk_un hk).trans h.2.1, (pk_un hk).trans h.2.2.1, (pk_un hk).trans h.2.2.2.1, (pk_un hk).trans h.2.2.2.2⟩
theorem wr_w {w a b c d e : Nat} : fldC (wrC u w (nI a) (nI b) (nI c) (nI d) (nI e)) w a b c d e := ⟨pk_us, pk_us, pk_us, pk_us, pk_us⟩
theorem lo1 {a : Nat} (ha : a < 2 ^ 31) (h : ¬ nI a < 1) : 1 ≤ a := by
  rw [show (1 : Int32) = nI 1 from rfl, nI_ltI ha (by decide)] at h
  omega
theorem pickPQ {a a1 a2 P Q : Nat} (h : (a = 1 ∧ P = 2 ∧ Q = 3) ∨ (a = 2 ∧ P = 1 ∧ Q = 3) ∨ (a = 3 ∧ P = 1 ∧ Q = 2)) (x : 1 ≤ a1 ∧ a1 ≤ 3) (y : 1 ≤ a2 ∧ a2 ≤ 3) (o : a1 ≠ a2 ∧ a1 ≠ a ∧ a2 ≠ a) : (a1 = P ∧ a2 = Q) ∨ (a1 = Q ∧ a2 = P) := by omega
/-- the class's answer and the reference's to 'would all three lanes have works' -/
theorem tooMany (hB : RB u v) {w : Nat} (hw : w < 8) (ew : cB_count u = nI w) {a b c d e : Nat} (ha : 1 ≤ a ∧ a ≤ 3) (hb : 1 ≤ b ∧ b ≤ c ∧ c ≤ 11) (hd : d < e ∧ e ≤ 600) : (g_X0_nextTakesLastLane (wrC u w (nI a) (nI b) (nI c) (nI d) (nI e)) = some 0 ∧ g_X10_areTooMany v (nI a) (nI b) (nI c) (nI d) (nI e) = some 0) ∨ (g_X0_nextTakesLastLane (wrC u w (nI a) (nI b) (nI c) (nI d) (nI e)) = some 1 ∧ g_X10_areTooMany v (nI a) (nI b) (nI c) (nI d) (nI e) = some 1) := by
  obtain ⟨w', hw', e1, e2, hall⟩ := hB
  have : w = w' := by
    rw [e1] at ew
    exact ((nI_eq (by omega) (by omega)).mp ew).symm
  subst this
  have f0 : fldC (wrC u w (nI a) (nI b) (nI c) (nI d) (nI e)) w a b c d e := wr_w
  have tk : ∀ i j : Nat, i < w → j < i → ∃ a1 b1 c1 d1 e1 a2 b2 c2 d2 e2 : Nat, (1 ≤ a1 ∧ a1 ≤ 3 ∧ 1 ≤ b1 ∧ b1 ≤ c1 ∧ c1 ≤ 11 ∧ d1 < e1 ∧ e1 ≤ 600) ∧ (1 ≤ a2 ∧ a2 ≤ 3 ∧ 1 ≤ b2 ∧ b2 ≤ c2 ∧ c2 ≤ 11 ∧ d2 < e2 ∧ e2 ≤ 600) ∧ (mB_worksLane v i = nI a1 ∧ mB_worksFrom v i = nI b1 ∧ mB_worksTo v i = nI c1 ∧ mB_worksBegin v i = nI d1 ∧ mB_worksEnd v i = nI e1) ∧ (mB_worksLane v j = nI a2 ∧ mB_worksFrom v j = nI b2 ∧ mB_worksTo v j = nI c2 ∧ mB_worksBegin v j = nI d2 ∧ mB_worksEnd v j = nI e2) ∧ g_X0_areInThreeLanes (wrC u w (nI a) (nI b) (nI c) (nI d) (nI e)) (nI i) (nI j) (nI w) = some (if a1 ≠ a2 ∧ a1 ≠ a ∧ a2 ≠ a then 1 else 0) ∧ g_X0_doMeet (wrC u w (nI a) (nI b) (nI c) (nI d) (nI e)) (nI i) (nI j) (nI w) = some (if max b1 (max b2 b) ≤ min c1 (min c2 c) ∧ max d1 (max d2 d) < min e1 (min e2 e) then 1 else 0) := by
    intro i j hi hj
    obtain ⟨a1, b1, c1, d1, e1', x1, x2, x3, x4, x5, x6, x7, fc, fm⟩ := hall i hi
    obtain ⟨a2, b2, c2, d2, e2', y1, y2, y3, y4, y5, y6, y7, gc, gm⟩ := hall j (by omega)
    have fc' := wr_f (u := u) (w := w) (show i ≠ w by omega) (nI a) (nI b) (nI c) (nI d) (nI e) fc
    have gc' := wr_f (u := u) (w := w) (show j ≠ w by omega) (nI a) (nI b) (nI c) (nI d) (nI e) gc
    exact ⟨a1, b1, c1, d1, e1', a2, b2, c2, d2, e2', ⟨x1, x2, x3, x4, x5, x6, x7⟩, ⟨y1, y2, y3, y4, y5, y6, y7⟩, fm, gm, three_c (by omega) (by omega) hw fc' gc' f0 (by omega) (by omega) (by omega), meet_c (by omega) (by omega) hw fc' gc' f0 (by omega)⟩
  have bi : binC (wrC u w (nI a) (nI b) (nI c) (nI d) (nI e)) w := by
    intro i j hi hj
    obtain ⟨a1, b1, c1, d1, e1', a2, b2, c2, d2, e2', -, -, -, -, t1, t2⟩ := tk i j hi hj
    refine ⟨?_, ?_⟩
    · rw [t1]
      by_cases q : a1 ≠ a2 ∧ a1 ≠ a ∧ a2 ≠ a
      · exact Or.inl (by rw [if_pos q])
      · exact Or.inr (by rw [if_neg q])
    · rw [t2]
      by_cases q : max b1 (max b2 b) ≤ min c1 (min c2 c) ∧ max d1 (max d2 d) < min e1' (min e2' e)
      · exact Or.inl (by rw [if_pos q])
      · exact Or.inr (by rw [if_neg q])
  have t10 : ∀ {P : Prop} [Decidable P], (some (if P then (1 : Int32) else 0) = some 1) → P := fun {P} _ h => Classical.byContradiction fun q => by
    rw [if_neg q] at h
    exact absurd (Option.some.inj h) (by decide)
  obtain ⟨P, Q, hPQ, em⟩ : ∃ P Q : Nat, ((a = 1 ∧ P = 2 ∧ Q = 3) ∨ (a = 2 ∧ P = 1 ∧ Q = 3) ∨ (a = 3 ∧ P = 1 ∧ Q = 2)) ∧ g_X10_areTooMany v (nI a) (nI b) (nI c) (nI d) (nI e) = lp_X10_areTooMany_30 v (nI c) (nI d) (nI e) (nI P) (nI Q) (fun (x : Int32) => g_bo x (some x)) FU 0 (nI b) := by
    have h3 : a = 1 ∨ a = 2 ∨ a = 3 := by omega
    rcases h3 with rfl | rfl | rfl
    · refine ⟨2, 3, Or.inl ⟨rfl, rfl, rfl⟩, ?_⟩
      simp (decide := true) only [g_X10_areTooMany, pz_let, if_true, if_false] <;> rfl
    · refine ⟨1, 3, Or.inr (Or.inl ⟨rfl, rfl, rfl⟩), ?_⟩
      simp (decide := true) only [g_X10_areTooMany, pz_let, if_true, if_false] <;> rfl
    · refine ⟨1, 2, Or.inr (Or.inr ⟨rfl, rfl, rfl⟩), ?_⟩
      simp (decide := true) only [g_X10_areTooMany, pz_let, if_true, if_false] <;> rfl
  rw [em]
  rcases next_out (u := wrC u w (nI a) (nI b) (nI c) (nI d) (nI e)) hw e1 bi with ⟨n1, N1⟩ | ⟨n1, i, j, hi, hj, N1⟩
  · rcases many_out (v := v) hw' e2 P Q hb.2.1 hb.2.2 hd.1 hd.2 with ⟨-, s, t, s1, s2, t1, t2, ⟨k1, k1w, K1⟩, k2, k2w, K2⟩ | ⟨m1, -⟩
    · exfalso
      have key : ∀ i j : Nat, i < w → j < i → ∀ l l' : Nat, l ≤ 3 → l' ≤ 3 → l ≠ l' → l ≠ a → l' ≠ a → cov v s l t i → cov v s l' t j → False := by
        intro i j hi hj l l' hl hl' q1 q2 q3 ci cj
        obtain ⟨a1, b1, c1, d1, e1', a2, b2, c2, d2, e2', x, y, fm, gm, r1, r2⟩ := tk i j hi hj
        have ci' := (covI fm (by omega)).mp ci
        have cj' := (covI gm (by omega)).mp cj
        refine N1 i j hi hj ⟨r1.trans ?_, r2.trans ?_⟩
        · rw [if_pos ⟨by omega, by omega, by omega⟩]
        · rw [if_pos ⟨by omega, by omega⟩]
      have ne : k1 ≠ k2 := fun z => by
        rw [z] at K1
        have := K1.1.symm.trans K2.1
        rw [nI_eq (by omega) (by omega)] at this
        omega
      by_cases lt : k2 < k1
      · exact key k1 k2 k1w lt P Q (by omega) (by omega) (by omega) (by omega) (by omega) K1 K2
      · exact key k2 k1 k2w (by omega) Q P (by omega) (by omega) (by omega) (by omega) (by omega) K2 K1
    · exact Or.inl ⟨n1, m1⟩
  · rcases many_out (v := v) hw' e2 P Q hb.2.1 hb.2.2 hd.1 hd.2 with ⟨m1, -⟩ | ⟨-, M1⟩
    · exact Or.inr ⟨n1, m1⟩
    · exfalso
      obtain ⟨a1, b1, c1, d1, e1', a2, b2, c2, d2, e2', x, y, fm, gm, r1, r2⟩ := tk i j hi hj
      have o1 := t10 (r1.symm.trans N1.1)
      have o2 := t10 (r2.symm.trans N1.2)
      refine M1 (max b1 (max b2 b)) (max d1 (max d2 d)) (by omega) (by omega) (by omega) (by omega) ?_
      have ci := (covI (s := max b1 (max b2 b)) (l := a1) (t := max d1 (max d2 d)) fm (by omega)).mpr ⟨rfl, by omega, by omega, by omega, by omega⟩
      have cj := (covI (s := max b1 (max b2 b)) (l := a2) (t := max d1 (max d2 d)) gm (by omega)).mpr ⟨rfl, by omega, by omega, by omega, by omega⟩
      rcases pickPQ hPQ ⟨x.1, x.2.1⟩ ⟨y.1, y.2.1⟩ o1 with ⟨q1, q2⟩ | ⟨q1, q2⟩
      · rw [q1] at ci
        rw [q2] at cj
        exact ⟨⟨i, hi, ci⟩, j, Nat.lt_trans hj hi, cj⟩
      · rw [q1] at ci
        rw [q2] at cj
        exact ⟨⟨j, Nat.lt_trans hj hi, cj⟩, i, hi, ci⟩
end RELSL
end
section
section RELSM
variable {u : GS} {v : MS}
def fldM (v : MS) (k a b c d e : Nat) : Prop := mB_worksLane v k = nI a ∧ mB_worksFrom v k = nI b ∧ mB_worksTo v k = nI c ∧ mB_worksBegin v k = nI d ∧ mB_worksEnd v k = nI e
def wrM (v : MS) (w : Nat) (a b c d e : Int32) : MS := mB_worksEnd_set (mB_worksBegin_set (mB_worksTo_set (mB_worksFrom_set (mB_worksLane_set v (upd (mB_worksLane v) w a)) (upd (mB_worksFrom v) w b)) (upd (mB_worksTo v) w c)) (upd (mB_worksBegin v) w d)) (upd (mB_worksEnd v) w e)
theorem wrM_f {w k : Nat} (hk : k ≠ w) {a b c d e : Nat} (A B C D E : Int32) (h : fldM v k a b c d e) : fldM (wrM v w A B C D E) k a b c d e := ⟨(pk_un hk).trans h.1, (pk_un hk).trans h.2.1, (pk_un hk).trans h.2.2.1, (pk_un hk).trans h.2.2.2.1, (pk_un hk).trans h.2.2.2.2⟩
theorem wrM_w {w a b c d e : Nat} : fldM (wrM v w (nI a) (nI b) (nI c) (nI d) (nI e)) w a b c d e := ⟨pk_us, pk_us, pk_us, pk_us, pk_us⟩
theorem putC (w : Nat) (a b c d e n : Int32) : cB_count_set (wrC u w a b c d e) n = qcB_put u (upd (cB_lanes u) w a, upd (cB_froms u) w b, upd (cB_tos u) w c, upd (cB_begins u) w d, upd (cB_ends u) w e, n) := rfl
theorem putM (t9 : MS) (w : Nat) (a b c d e n : Int32) : mB_works_set (mB_worksEnd_set (mB_worksBegin_set (mB_worksTo_set (mB_worksFrom_set (mB_worksLane_set v (upd (mB_worksLane t9) w a)) (upd (mB_worksFrom t9) w b)) (upd (mB_worksTo t9) w c)) (upd (mB_worksBegin t9) w d)) (upd (mB_worksEnd t9) w e)) n = qmB_put v (upd (mB_worksLane t9) w a, upd (mB_worksFrom t9) w b, upd (mB_worksTo t9) w c, upd (mB_worksBegin t9) w d, upd (mB_worksEnd t9) w e, n) := rfl
theorem acc (h : Rel u v) {w : Nat} (hw : w ≤ 8) (w7 : w < 8) (ew : cB_count u = nI w) (ew2 : mB_works v = nI w) (hall : ∀ k : Nat, k < w → ∃ a b c d e : Nat, 1 ≤ a ∧ a ≤ 3 ∧ 1 ≤ b ∧ b ≤ c ∧ c ≤ 11 ∧ d < e ∧ e ≤ 600 ∧ (cB_lanes u k = nI a ∧ cB_froms u k = nI b ∧ cB_tos u k = nI c ∧ cB_begins u k = nI d ∧ cB_ends u k = nI e) ∧ (mB_worksLane v k = nI a ∧ mB_worksFrom v k = nI b ∧ mB_worksTo v k = nI c ∧ mB_worksBegin v k = nI d ∧ mB_worksEnd v k = nI e)) {a b c d e : Nat} (ha : 1 ≤ a ∧ a ≤ 3) (hb : 1 ≤ b ∧ b ≤ c ∧ c ≤ 11) (hd : d < e ∧ e ≤ 600) : Rel (qcB_put u (upd (cB_lanes u) w (nI a), upd (cB_froms u) w (nI b), upd (cB_tos u) w (nI c), upd (cB_begins u) w (nI d), upd (cB_ends u) w (nI e), nI (w + 1))) (qmB_put (m_thrown_set v 0) (upd (mB_worksLane v) w (nI a), upd (mB_worksFrom v) w (nI b), upd (mB_worksTo v) w (nI c), upd (mB_worksBegin v) w (nI d), upd (mB_worksEnd v) w (nI e), nI (w + 1))) := by
  obtain ⟨hM, hT, hD, hS, hO, hH, hI, hP, hB, hK⟩ := id h
  refine ⟨hM, hT, hD, hS, hO, hH, hI, hP, ⟨w + 1, by omega, rfl, rfl, fun k hk => ?_⟩, hK⟩
  by_cases ek : k = w
  · rw [ek]
    exact ⟨a, b, c, d, e, ha.1, ha.2, hb.1, hb.2.1, hb.2.2, hd.1, hd.2, ⟨pk_us, pk_us, pk_us, pk_us, pk_us⟩, ⟨pk_us, pk_us, pk_us, pk_us, pk_us⟩⟩
  · obtain ⟨a1, b1, c1, d1, e1, x1, x2, x3, x4, x5, x6, x7, fc, fm⟩ := hall k (by omega)
    exact ⟨a1, b1, c1, d1, e1, x1, x2, x3, x4, x5, x6, x7, ⟨(pk_un ek).trans fc.1, (pk_un ek).trans fc.2.1, (pk_un ek).trans fc.2.2.1, (pk_un ek).trans fc.2.2.2.1, (pk_un ek).trans fc.2.2.2.2⟩, ⟨(pk_un ek).trans fm.1, (pk_un ek).trans fm.2.1, (pk_un ek).trans fm.2.2.1, (pk_un ek).trans fm.2.2.2.1, (pk_un ek).trans fm.2.2.2.2⟩⟩
theorem putW (w : Nat) (a b c d e : Int32) : wrC u w a b c d e = qcB_put u (upd (cB_lanes u) w a, upd (cB_froms u) w b, upd (cB_tos u) w c, upd (cB_begins u) w d, upd (cB_ends u) w e, cB_count u) := rfl
theorem rej (h : Rel u v) {w : Nat} (hw : w ≤ 8) (w7 : w < 8) (ew : cB_count u = nI w) (ew2 : mB_works v = nI w) (hall : ∀ k : Nat, k < w → ∃ a b c d e : Nat, 1 ≤ a ∧ a ≤ 3 ∧ 1 ≤ b ∧ b ≤ c ∧ c ≤ 11 ∧ d < e ∧ e ≤ 600 ∧ (cB_lanes u k = nI a ∧ cB_froms u k = nI b ∧ cB_tos u k = nI c ∧ cB_begins u k = nI d ∧ cB_ends u k = nI e) ∧ (mB_worksLane v k = nI a ∧ mB_worksFrom v k = nI b ∧ mB_worksTo v k = nI c ∧ mB_worksBegin v k = nI d ∧ mB_worksEnd v k = nI e)) (a b c d e : Int32) : Rel (qcB_put u (upd (cB_lanes u) w a, upd (cB_froms u) w b, upd (cB_tos u) w c, upd (cB_begins u) w d, upd (cB_ends u) w e, cB_count u)) (m_thrown_set v 3) := by
  obtain ⟨hM, hT, hD, hS, hO, hH, hI, hP, hB, hK⟩ := id h
  refine ⟨hM, hT, hD, hS, hO, hH, hI, hP, ⟨w, hw, ew, ew2, fun k hk => ?_⟩, hK⟩
  have ek : k ≠ w := Nat.ne_of_lt hk
  obtain ⟨a1, b1, c1, d1, e1, x1, x2, x3, x4, x5, x6, x7, fc, fm⟩ := hall k hk
  exact ⟨a1, b1, c1, d1, e1, x1, x2, x3, x4, x5, x6, x7, ⟨(pk_un ek).trans fc.1, (pk_un ek).trans fc.2.1, (pk_un ek).trans fc.2.2.1, (pk_un ek).trans fc.2.2.2.1, (pk_un ek).trans fc.2.2.2.2⟩, fm⟩
theorem sim_works (h : Rel u v) (p q r s t : Int32) : SI Rel (g_X9_works u p q r s t) (g_X10_works v p q r s t) [("java/lang/IndexOutOfBoundsException", 1), ("java/lang/IllegalArgumentException", 2), ("java/lang/IllegalStateException", 3)] := by
  obtain ⟨hM, hT, hD, hS, hO, hH, hI, hP, hB, hK⟩ := id h
  have em : m_now v = c_minute u := hM.1.symm
  rcases iwc p 1 3 with ⟨p1, p2, pa, pb⟩ | ⟨-, pa, pb⟩
  · rcases iwc q 1 11 with ⟨q1, q2, qa, qb⟩ | ⟨-, qa, qb⟩
    · rcases iwc r 1 11 with ⟨r1, r2, ra, rb⟩ | ⟨-, ra, rb⟩
      · rcases iwc s (c_minute u) 599 with ⟨s1, s2, sa, sb⟩ | ⟨-, sa, sb⟩
        · -- all there; the begin within its range
          by_cases c1 : r < q
          · exact SI_no "java/lang/IllegalArgumentException" 2 0 (u' := u) (v' := m_thrown_set v 2) es2 (by simp only [g_X9_works, pa, qa, ra, pz_bind, pz_ni1, pz_na, pz_xl, pz_xr, id, pz_let, eq_true c1, if_true]) (by simp only [g_X10_works, pb, qb, rb, pz_bind, pz_let, z00, z10, if_true, if_false, eq_true c1, pz_h2]) rfl h
          · by_cases c2 : t ≤ s
            · exact SI_no "java/lang/IllegalArgumentException" 2 0 (u' := u) (v' := m_thrown_set v 2) es2 (by simp only [g_X9_works, pa, qa, ra, sa, pz_bind, pz_ni1, pz_na, pz_na1, pz_xl, pz_xr, id, pz_let, eq_false c1, eq_true c2, if_true, if_false]) (by simp only [g_X10_works, pb, qb, rb, pz_bind, pz_let, z00, z10, if_true, if_false, eq_false c1, em, sb, eq_true c2, pz_h2]) rfl h
            · by_cases c3 : (600 : Int32) < t
              · exact SI_no "java/lang/IllegalArgumentException" 2 0 (u' := u) (v' := m_thrown_set v 2) es2 (by simp only [g_X9_works, pa, qa, ra, sa, pz_bind, pz_ni1, pz_na, pz_na1, pz_xl, pz_xr, id, pz_let, eq_false c1, eq_false c2, eq_true c3, if_true, if_false]) (by simp only [g_X10_works, pb, qb, rb, pz_bind, pz_let, z00, z10, if_true, if_false, eq_false c1, em, sb, eq_false c2, eq_true c3, pz_h2]) rfl h
              · obtain ⟨w, hw, ew, ew2, hall⟩ := id hB
                have w8 : ((8 : Int32) ≤ nI w) = (8 ≤ w) := propext (nI_leI (a := 8) (by decide) (by omega))
                have w8m : (nI w = (8 : Int32)) = (w = 8) := propext (nI_eq (b := 8) (by omega) (by decide))
                by_cases c4 : w = 8
                · exact SI_no "java/lang/IllegalStateException" 3 0 (u' := u) (v' := m_thrown_set v 3) es3 (by simp only [g_X9_works, pa, qa, ra, sa, pz_bind, pz_ni1, pz_na1, pz_ns, pz_xl, pz_xr, id, pz_let, eq_false c1, eq_false c2, eq_false c3, if_true, if_false, ew, w8, eq_true (show 8 ≤ w by omega)]) (by simp only [g_X10_works, pb, qb, rb, pz_bind, pz_let, z00, z10, if_true, if_false, eq_false c1, em, sb, eq_false c2, eq_false c3, ew2, w8m, eq_true c4, pz_h3]) rfl h
                · obtain ⟨a, ha, rfl⟩ := ix_of 3 (n := 3) rfl (by decide) (ge0 1 (by decide) p1) p2
                  obtain ⟨b, hb, rfl⟩ := ix_of 11 (n := 11) rfl (by decide) (ge0 1 (by decide) q1) q2
                  obtain ⟨c, hc, rfl⟩ := ix_of 11 (n := 11) rfl (by decide) (ge0 1 (by decide) r1) r2
                  obtain ⟨m, hm, etm⟩ := hM.2
                  have s0 : ¬ s < 0 := ge0 (c_minute u) (by rw [etm, nI_toInt (by omega)]; omega) s1
                  obtain ⟨d, hd, rfl⟩ := ix_of 599 (n := 599) rfl (by decide) s0 s2
                  have t0 : ¬ t < 0 := ge0 (nI d) (by rw [nI_toInt (by omega)]; omega) (fun z => c2 (by
                    rw [Int32.lt_iff_toInt_lt] at z
                    rw [Int32.le_iff_toInt_le]
                    omega))
                  obtain ⟨e, he, rfl⟩ := ix_of 600 (n := 600) rfl (by decide) t0 c3
                  have la := lo1 (by omega) p1
                  have lb := lo1 (by omega) q1
                  have lbc : b ≤ c := by
                    rw [nI_ltI (by omega) (by omega)] at c1
                    omega
                  have lde : d < e := by
                    rw [nI_leI (by omega) (by omega)] at c2
                    omega
                  have w7 : w < 8 := by omega
                  have g8 : ∀ {α : Type} (a : Option α), g_in (nI w) 8 a = a := fun a => pz_inN w7 (by decide) a
                  have cw := cl_I (show w < 2 ^ 31 by omega)
                  have cnt : cB_count (wrC u w (nI a) (nI b) (nI c) (nI d) (nI e)) = nI w := ew
                  rcases tooMany hB w7 ew ⟨la, ha⟩ ⟨lb, lbc, hc⟩ ⟨lde, he⟩ with ⟨k1, k2⟩ | ⟨k1, k2⟩
                  · have xs : ∀ f, cB_count (cB_count_set (wrC u w (nI a) (nI b) (nI c) (nI d) (nI e)) f) = f := fun _ => rfl
                    have y0 : mB_works (m_thrown_set v 0) = nI w := ew2
                    have y1 : ∀ f, mB_works (mB_worksLane_set (m_thrown_set v 0) f) = mB_works (m_thrown_set v 0) := fun _ => rfl
                    have y2 : ∀ (y : MS) f, mB_works (mB_worksFrom_set y f) = mB_works y := fun _ _ => rfl
                    have y3 : ∀ (y : MS) f, mB_works (mB_worksTo_set y f) = mB_works y := fun _ _ => rfl
                    have y4 : ∀ (y : MS) f, mB_works (mB_worksBegin_set y f) = mB_works y := fun _ _ => rfl
                    have y5 : ∀ (y : MS) f, mB_works (mB_worksEnd_set y f) = mB_works y := fun _ _ => rfl
                    have y6 : ∀ (y : MS) f, mB_works (mB_works_set y f) = f := fun _ _ => rfl
                    have v1 : mB_worksLane (m_thrown_set v 0) = mB_worksLane v := rfl
                    have v2 : ∀ f, mB_worksFrom (mB_worksLane_set (m_thrown_set v 0) f) = mB_worksFrom v := fun _ => rfl
                    have v3 : ∀ f g, mB_worksTo (mB_worksFrom_set (mB_worksLane_set (m_thrown_set v 0) f) g) = mB_worksTo v := fun _ _ => rfl
                    have v4 : ∀ f g h, mB_worksBegin (mB_worksTo_set (mB_worksFrom_set (mB_worksLane_set (m_thrown_set v 0) f) g) h) = mB_worksBegin v := fun _ _ _ => rfl
                    have v5 : ∀ f g h i, mB_worksEnd (mB_worksBegin_set (mB_worksTo_set (mB_worksFrom_set (mB_worksLane_set (m_thrown_set v 0) f) g) h) i) = mB_worksEnd v := fun _ _ _ _ => rfl
                    refine SI_ok (nI w) ?_ ?_ rfl (acc h hw w7 ew ew2 hall ⟨la, ha⟩ ⟨lb, lbc, hc⟩ ⟨lde, he⟩)
                    · simp only [g_X9_works, pa, qa, ra, sa, pz_bind, pz_ni1, pz_na1, pz_ns1, pz_xl, pz_let, eq_false c1, eq_false c2, eq_false c3, if_false, ew, w8, eq_false (show ¬ 8 ≤ w by omega), wr_c w7 ew, k1, if_true, cnt, nI_1, xs, nI_pred]
                      rw [putC]
                    · simp only [g_X10_works, pb, qb, rb, pz_bind, pz_let, z00, z10, if_true, if_false, eq_false c1, em, sb, eq_false c2, eq_false c3, ew2, w8m, eq_false c4, k2, pz_h0, y0, y1, y2, y3, y4, y5, y6, g8, cw, v1, v2, v3, v4, v5, nI_1, nI_pred]
                      rw [putM]
                  · refine SI_no "java/lang/IllegalStateException" 3 0 (v' := m_thrown_set v 3) es3 ?_ ?_ rfl (rej h hw w7 ew ew2 hall (nI a) (nI b) (nI c) (nI d) (nI e))
                    · simp only [g_X9_works, pa, qa, ra, sa, pz_bind, pz_ni1, pz_na1, pz_ns1, pz_ns, pz_xl, pz_xr, id, pz_let, eq_false c1, eq_false c2, eq_false c3, if_false, ew, w8, eq_false (show ¬ 8 ≤ w by omega), wr_c w7 ew, k1, z10]
                      rw [putW, ew]
                    · simp only [g_X10_works, pb, qb, rb, pz_bind, pz_let, z00, z10, if_true, if_false, eq_false c1, em, sb, eq_false c2, eq_false c3, ew2, w8m, eq_false c4, k2, pz_h3]
        · -- the begin out of its range
          by_cases c1 : r < q
          · exact SI_no "java/lang/IllegalArgumentException" 2 0 (u' := u) (v' := m_thrown_set v 2) es2 (by simp only [g_X9_works, pa, qa, ra, pz_bind, pz_ni1, pz_na, pz_xl, pz_xr, id, pz_let, eq_true c1, if_true]) (by simp only [g_X10_works, pb, qb, rb, pz_bind, pz_let, z00, z10, if_true, if_false, eq_true c1, pz_h2]) rfl h
          · exact SI_no "java/lang/IllegalArgumentException" 2 0 (u' := u) (v' := m_thrown_set v 2) es2 (by simp only [g_X9_works, pa, qa, ra, sa, pz_bind, pz_ni1, pz_na, pz_na1, pz_xl, pz_xr, id, pz_let, eq_false c1, if_false]) (by simp only [g_X10_works, pb, qb, rb, pz_bind, pz_let, z00, z10, if_true, if_false, eq_false c1, em, sb, pz_h2]) rfl h
      · rcases iwc s (c_minute u) 599 with ⟨-, -, -, sb⟩ | ⟨-, -, sb⟩
        · exact SI_no "java/lang/IndexOutOfBoundsException" 1 0 (u' := u) (v' := m_thrown_set v 1) es1 (by simp only [g_X9_works, pa, qa, ra, pz_bind, pz_ni, pz_ni1, pz_xl, pz_xr, id]) (by simp only [g_X10_works, pb, qb, rb, pz_bind, pz_let, z00, z10, if_true, if_false, em, sb, ite_self, pz_h1]) rfl h
        · exact SI_no "java/lang/IndexOutOfBoundsException" 1 0 (u' := u) (v' := m_thrown_set v 1) es1 (by simp only [g_X9_works, pa, qa, ra, pz_bind, pz_ni, pz_ni1, pz_xl, pz_xr, id]) (by simp only [g_X10_works, pb, qb, rb, pz_bind, pz_let, z00, z10, if_true, if_false, em, sb, ite_self, pz_h1]) rfl h
    · rcases iwc s (c_minute u) 599 with ⟨-, -, -, sb⟩ | ⟨-, -, sb⟩
      · exact SI_no "java/lang/IndexOutOfBoundsException" 1 0 (u' := u) (v' := m_thrown_set v 1) es1 (by simp only [g_X9_works, pa, qa, pz_bind, pz_ni, pz_ni1, pz_xl, pz_xr, id]) (by simp only [g_X10_works, pb, qb, pz_bind, pz_let, z00, z10, if_true, if_false, em, sb, ite_self, pz_h1]) rfl h
      · exact SI_no "java/lang/IndexOutOfBoundsException" 1 0 (u' := u) (v' := m_thrown_set v 1) es1 (by simp only [g_X9_works, pa, qa, pz_bind, pz_ni, pz_ni1, pz_xl, pz_xr, id]) (by simp only [g_X10_works, pb, qb, pz_bind, pz_let, z00, z10, if_true, if_false, em, sb, ite_self, pz_h1]) rfl h
  · rcases iwc s (c_minute u) 599 with ⟨-, -, -, sb⟩ | ⟨-, -, sb⟩
    · exact SI_no "java/lang/IndexOutOfBoundsException" 1 0 (u' := u) (v' := m_thrown_set v 1) es1 (by simp only [g_X9_works, pa, pz_bind, pz_ni, pz_ni1, pz_xl, pz_xr, id]) (by simp only [g_X10_works, pb, pz_bind, pz_let, z00, z10, if_true, if_false, em, sb, ite_self, pz_h1]) rfl h
    · exact SI_no "java/lang/IndexOutOfBoundsException" 1 0 (u' := u) (v' := m_thrown_set v 1) es1 (by simp only [g_X9_works, pa, pz_bind, pz_ni, pz_ni1, pz_xl, pz_xr, id]) (by simp only [g_X10_works, pb, pz_bind, pz_let, z00, z10, if_true, if_false, em, sb, ite_self, pz_h1]) rfl h
end RELSM
end
