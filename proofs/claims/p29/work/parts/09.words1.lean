set_option maxRecDepth 100000 in
set_option maxHeartbeats 4000000 in
theorem mw_490 : (Jvm.Cond.code ({ cls := "RedcrossGantryLaw", name := "step", desc := "(LRedcrossGantry;[IIII)Z" } : Jvm.MethodName) method_6_code (18 : Nat) (Option.some Jvm.ClassFile.FieldType.boolean)) ∈ Wall := mwl (k := 490) rfl rfl
