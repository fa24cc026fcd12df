/-! THE START -/
theorem mw_66 : (Jvm.Cond.classLink "RedcrossGantryLaw" (8 : Nat) "RedcrossGantry") ∈ Wall := mwl (k := 66) (by decide +kernel) rfl
theorem mw_67 : (Jvm.Cond.instantiable "RedcrossGantry" (10 : Nat)) ∈ Wall := mwl (k := 67) (by decide +kernel) rfl
theorem mw_68 : (Jvm.Cond.methodLink "RedcrossGantryLaw" (91 : Nat) ({ cls := "RedcrossGantry", name := "<init>", desc := "()V" } : Jvm.MethodName)) ∈ Wall := mwl (k := 68) (by decide +kernel) rfl
theorem mw_69 : (Jvm.Cond.instanceMethod ({ cls := "RedcrossGantry", name := "<init>", desc := "()V" } : Jvm.MethodName)) ∈ Wall := mwl (k := 69) (by decide +kernel) rfl
theorem mw_70 : (Jvm.Cond.code ({ cls := "RedcrossGantry", name := "<init>", desc := "()V" } : Jvm.MethodName) prog_1_method_1_code (1 : Nat) (Option.none : Option Jvm.ClassFile.FieldType)) ∈ Wall := mwl (k := 70) (by decide +kernel) rfl
theorem mw_838 : (Jvm.Cond.classLink "RedcrossGantryLaw" (92 : Nat) "RedcrossGantryModel") ∈ Wall := mwl (k := 838) (by decide +kernel) rfl
theorem mw_839 : (Jvm.Cond.instantiable "RedcrossGantryModel" (32 : Nat)) ∈ Wall := mwl (k := 839) (by decide +kernel) rfl
theorem mw_840 : (Jvm.Cond.methodLink "RedcrossGantryLaw" (94 : Nat) ({ cls := "RedcrossGantryModel", name := "<init>", desc := "()V" } : Jvm.MethodName)) ∈ Wall := mwl (k := 840) (by decide +kernel) rfl
theorem mw_841 : (Jvm.Cond.instanceMethod ({ cls := "RedcrossGantryModel", name := "<init>", desc := "()V" } : Jvm.MethodName)) ∈ Wall := mwl (k := 841) (by decide +kernel) rfl
theorem mw_842 : (Jvm.Cond.code ({ cls := "RedcrossGantryModel", name := "<init>", desc := "()V" } : Jvm.MethodName) prog_12_method_1_code (2 : Nat) (Option.none : Option Jvm.ClassFile.FieldType)) ∈ Wall := mwl (k := 842) (by decide +kernel) rfl
theorem mw_1177 : (Jvm.Cond.arrayClass Jvm.ClassFile.FieldType.long) ∈ Wall := mwl (k := 1177) (by decide +kernel) rfl
theorem st_D {s : State} {args : Array Value} (hts : ∀ w ∈ Wall, w.before args s = true) : ∃ D : va_G, ∀ (k : Nat) (q : vw_C), vwCl[k]? = some q → u_Kn s q.1 q.2.1 q.2.2 (D.1 k) (D.2 k) := by
  have h1 : ∀ (k : Nat) (q : vw_C), vwCl[k]? = some q → ∃ (cC : ClassId) (iS : Nat → Nat), u_Kn s q.1 q.2.1 q.2.2 cC iS := by
    intro k q hq
    match k, hq with
    | 0, hq =>
      cases hq
      exact u_known hts iX0 (hts _ mw_222)
    | 1, hq =>
      cases hq
      exact u_known hts iX1 (hts _ mw_112)
    | 2, hq =>
      cases hq
      exact u_known hts iX2 (hts _ mw_181)
    | 3, hq =>
      cases hq
      exact u_known hts iX3 (hts _ mw_149)
    | 4, hq =>
      cases hq
      exact u_known hts iX4 (hts _ mw_203)
    | 5, hq =>
      cases hq
      exact u_known hts iX5 (hts _ mw_248)
    | 6, hq =>
      cases hq
      exact u_known hts iX6 (hts _ mw_167)
    | 7, hq =>
      cases hq
      exact u_known hts iX7 (hts _ mw_127)
    | 8, hq =>
      cases hq
      exact u_known hts iX8 (hts _ mw_75)
    | 9, hq =>
      cases hq
      exact u_known hts iX9 (hts _ mw_67)
    | 10, hq =>
      cases hq
      exact u_known hts iX10 (hts _ mw_839)
    | k + 11, hq => simp [vwCl] at hq
  have h2 : ∀ k : Nat, ∃ x : ClassId × (Nat → Nat), ∀ q : vw_C, vwCl[k]? = some q → u_Kn s q.1 q.2.1 q.2.2 x.1 x.2 := by
    intro k
    cases hq : vwCl[k]? with
    | none => exact ⟨(0, fun _ => 0), fun q h => by cases h⟩
    | some q =>
      obtain ⟨cC, iS, h3⟩ := h1 k q hq
      exact ⟨(cC, iS), fun q' h' => by
        cases h'
        exact h3⟩
  exact ⟨(fun k => (Classical.choose (h2 k)).1, fun k => (Classical.choose (h2 k)).2), fun k q hq => Classical.choose_spec (h2 k) q hq⟩
theorem st_K {s : State} {args : Array Value} (hts : ∀ w ∈ Wall, w.before args s = true) : ∃ (D : va_G) (cI cZ : ClassId), va_K D vwCl [(cI, .int), (cZ, .boolean)] s := by
  obtain ⟨D, hKc⟩ := st_D hts
  obtain ⟨cI, kI, pI, i1, i2, i3⟩ := Cond.arrayClass_spec (type := .int) (show (Cond.arrayClass .int).holds args s none s [] = true from hts _ mw_109)
  obtain ⟨cZ, kZ, pZ, z1, z2, z3⟩ := Cond.arrayClass_spec (type := .boolean) (show (Cond.arrayClass .boolean).holds args s none s [] = true from hts _ mw_110)
  refine ⟨D, cI, cZ, hKc, fun k q hq => ?_⟩
  match k, hq with
  | 0, hq =>
    cases hq
    exact ⟨fun n z => ⟨fun k h => (by cases h), kI, i2, pI, i3⟩, i1⟩
  | 1, hq =>
    cases hq
    exact ⟨fun n z => ⟨fun k h => (by cases h), kZ, z2, pZ, z3⟩, z1⟩
  | k + 2, hq => simp at hq
set_option maxHeartbeats 4000000 in
set_option maxRecDepth 100000 in
theorem st_cst {s : State} {b : Nat} (hts0 : ∀ w ∈ lw_tbl, w.before #[Value.ref b] s = true) (hgv : (Jvm.Cond.and given_1 narrow_1).before #[Value.ref b] s = true) {cR : ClassId} (hcR : s.vm.findClass RX9 = some cR) : cst (fun q : Nat => s.heap.size ≤ q) s := by
  have hq := flat_of_before _ hgv
  have hA0 : ∀ a0 : Nat, a0 < s.heap.size → ¬ (fun q : Nat => s.heap.size ≤ q) a0 := fun a0 h => Nat.not_le.mpr h
  have E1 : ∀ j : Nat, j < 3 → (Term.elem (.static "RedcrossGantry$Traffic" "TRIES_IF_OPEN" "[I") (.int (Int32.ofNat j))).eval #[Value.ref b] s none [] s = some (.int (tioF j)) := by
    intro j hj
    rcases (show j = 0 ∨ j = 1 ∨ j = 2 by omega) with rfl | rfl | rfl
    · exact va_eqt (t := .elem (.static "RedcrossGantry$Traffic" "TRIES_IF_OPEN" "[I") (.int 0)) (z := 0) (hq _ (by decide +kernel))
    · exact va_eqt (t := .elem (.static "RedcrossGantry$Traffic" "TRIES_IF_OPEN" "[I") (.int 1)) (z := (-1)) (hq _ (by decide +kernel))
    · exact va_eqt (t := .elem (.static "RedcrossGantry$Traffic" "TRIES_IF_OPEN" "[I") (.int 2)) (z := 1) (hq _ (by decide +kernel))
  have l1 : (Term.length (.static "RedcrossGantry$Traffic" "TRIES_IF_OPEN" "[I")).eval #[Value.ref b] s none [] s = some (.int (Int32.ofNat 3)) := va_eqt (t := .length (.static "RedcrossGantry$Traffic" "TRIES_IF_OPEN" "[I")) (z := 3) (hq _ (by decide +kernel))
  obtain ⟨t1, e1, T1⟩ := va_Tof (tm := (.static "RedcrossGantry$Traffic" "TRIES_IF_OPEN" "[I")) (ty := .int) (N := 3) (f := fun j => .int (tioF j)) (A := (fun q : Nat => s.heap.size ≤ q)) (by decide) (hq _ (by decide +kernel)) l1 E1 hA0
  have Z1 : va_Z "RedcrossGantry$Traffic" "TRIES_IF_OPEN" "[I" (.ref t1) (fun q : Nat => s.heap.size ≤ q) s s.heap := va_Zref (hts0 _ (List.mem_of_getElem? (i := 545) (by decide +kernel))) (hts0 _ (List.mem_of_getElem? (i := 49) (by decide +kernel))) e1 hA0
  have E2 : ∀ j : Nat, j < 3 → (Term.elem (.static "RedcrossGantry$Traffic" "TRIES_IF_NOT_OPEN" "[I") (.int (Int32.ofNat j))).eval #[Value.ref b] s none [] s = some (.int (tinF j)) := by
    intro j hj
    rcases (show j = 0 ∨ j = 1 ∨ j = 2 by omega) with rfl | rfl | rfl
    · exact va_eqt (t := .elem (.static "RedcrossGantry$Traffic" "TRIES_IF_NOT_OPEN" "[I") (.int 0)) (z := (-1)) (hq _ (by decide +kernel))
    · exact va_eqt (t := .elem (.static "RedcrossGantry$Traffic" "TRIES_IF_NOT_OPEN" "[I") (.int 1)) (z := 1) (hq _ (by decide +kernel))
    · exact va_eqt (t := .elem (.static "RedcrossGantry$Traffic" "TRIES_IF_NOT_OPEN" "[I") (.int 2)) (z := 0) (hq _ (by decide +kernel))
  have l2 : (Term.length (.static "RedcrossGantry$Traffic" "TRIES_IF_NOT_OPEN" "[I")).eval #[Value.ref b] s none [] s = some (.int (Int32.ofNat 3)) := va_eqt (t := .length (.static "RedcrossGantry$Traffic" "TRIES_IF_NOT_OPEN" "[I")) (z := 3) (hq _ (by decide +kernel))
  obtain ⟨t2, e2, T2⟩ := va_Tof (tm := (.static "RedcrossGantry$Traffic" "TRIES_IF_NOT_OPEN" "[I")) (ty := .int) (N := 3) (f := fun j => .int (tinF j)) (A := (fun q : Nat => s.heap.size ≤ q)) (by decide) (hq _ (by decide +kernel)) l2 E2 hA0
  have Z2 : va_Z "RedcrossGantry$Traffic" "TRIES_IF_NOT_OPEN" "[I" (.ref t2) (fun q : Nat => s.heap.size ≤ q) s s.heap := va_Zref (hts0 _ (List.mem_of_getElem? (i := 547) (by decide +kernel))) (hts0 _ (List.mem_of_getElem? (i := 49) (by decide +kernel))) e2 hA0
  have E3 : ∀ j : Nat, j < 4 → (Term.elem (.static "RedcrossGantry$SpeedSigns" "WEATHER_LETS" "[I") (.int (Int32.ofNat j))).eval #[Value.ref b] s none [] s = some (.int (wlF j)) := by
    intro j hj
    rcases (show j = 0 ∨ j = 1 ∨ j = 2 ∨ j = 3 by omega) with rfl | rfl | rfl | rfl
    · exact va_eqt (t := .elem (.static "RedcrossGantry$SpeedSigns" "WEATHER_LETS" "[I") (.int 0)) (z := 120) (hq _ (by decide +kernel))
    · exact va_eqt (t := .elem (.static "RedcrossGantry$SpeedSigns" "WEATHER_LETS" "[I") (.int 1)) (z := 80) (hq _ (by decide +kernel))
    · exact va_eqt (t := .elem (.static "RedcrossGantry$SpeedSigns" "WEATHER_LETS" "[I") (.int 2)) (z := 60) (hq _ (by decide +kernel))
    · exact va_eqt (t := .elem (.static "RedcrossGantry$SpeedSigns" "WEATHER_LETS" "[I") (.int 3)) (z := 40) (hq _ (by decide +kernel))
  have l3 : (Term.length (.static "RedcrossGantry$SpeedSigns" "WEATHER_LETS" "[I")).eval #[Value.ref b] s none [] s = some (.int (Int32.ofNat 4)) := va_eqt (t := .length (.static "RedcrossGantry$SpeedSigns" "WEATHER_LETS" "[I")) (z := 4) (hq _ (by decide +kernel))
  obtain ⟨t3, e3, T3⟩ := va_Tof (tm := (.static "RedcrossGantry$SpeedSigns" "WEATHER_LETS" "[I")) (ty := .int) (N := 4) (f := fun j => .int (wlF j)) (A := (fun q : Nat => s.heap.size ≤ q)) (by decide) (hq _ (by decide +kernel)) l3 E3 hA0
  have Z3 : va_Z "RedcrossGantry$SpeedSigns" "WEATHER_LETS" "[I" (.ref t3) (fun q : Nat => s.heap.size ≤ q) s s.heap := va_Zref (hts0 _ (List.mem_of_getElem? (i := 575) (by decide +kernel))) (hts0 _ (List.mem_of_getElem? (i := 51) (by decide +kernel))) e3 hA0
  have s1 : (Cond.stringRef RX9 260 "there is none of that number").before #[Value.ref b] s = true := (hts0 _ (List.mem_of_getElem? (i := 610) (by decide +kernel)))
  obtain ⟨_, _, _, a1, _, _, _, _, _, r1⟩ := Cond.stringRef_spec hcR (show (Cond.stringRef RX9 260 "there is none of that number").holds #[Value.ref b] s none s [] = true from s1)
  have s2 : (Cond.stringRef RX9 267 "an argument is out of its range").before #[Value.ref b] s = true := (hts0 _ (List.mem_of_getElem? (i := 436) (by decide +kernel)))
  obtain ⟨_, _, _, a2, _, _, _, _, _, r2⟩ := Cond.stringRef_spec hcR (show (Cond.stringRef RX9 267 "an argument is out of its range").holds #[Value.ref b] s none s [] = true from s2)
  have s3 : (Cond.stringRef RX9 272 "that cannot be by now").before #[Value.ref b] s = true := (hts0 _ (List.mem_of_getElem? (i := 483) (by decide +kernel)))
  obtain ⟨_, _, _, a3, _, _, _, _, _, r3⟩ := Cond.stringRef_spec hcR (show (Cond.stringRef RX9 272 "that cannot be by now").holds #[Value.ref b] s none s [] = true from s3)
  have hcx : cxt s := ⟨List.forall_mem_cons.mpr ⟨va_Nw.of rfl (hts0 _ (List.mem_of_getElem? (i := 399) (by decide +kernel))), List.forall_mem_cons.mpr ⟨va_Nw.of rfl (hts0 _ (List.mem_of_getElem? (i := 401) (by decide +kernel))), List.forall_mem_cons.mpr ⟨va_Nw.of rfl (hts0 _ (List.mem_of_getElem? (i := 403) (by decide +kernel))), fun _ h => absurd h List.not_mem_nil⟩⟩⟩, List.forall_mem_cons.mpr ⟨va_Nw.of rfl (hts0 _ (List.mem_of_getElem? (i := 603) (by decide +kernel))), List.forall_mem_cons.mpr ⟨va_Nw.of rfl (hts0 _ (List.mem_of_getElem? (i := 397) (by decide +kernel))), List.forall_mem_cons.mpr ⟨va_Nw.of rfl (hts0 _ (List.mem_of_getElem? (i := 476) (by decide +kernel))), fun _ h => absurd h List.not_mem_nil⟩⟩⟩, List.forall_mem_cons.mpr ⟨va_Nc.of (hq _ (by decide +kernel)), List.forall_mem_cons.mpr ⟨va_Nc.of (hq _ (by decide +kernel)), List.forall_mem_cons.mpr ⟨va_Nc.of (hq _ (by decide +kernel)), fun _ h => absurd h List.not_mem_nil⟩⟩⟩⟩
  have hn : ∀ q ∈ nestL, va_Nw (.methodLinkNest q.1 q.2.1 q.2.2 "RedcrossGantry") s := List.forall_mem_cons.mpr ⟨va_Nw.of rfl (hts0 _ (List.mem_of_getElem? (i := 76) (by decide +kernel))), List.forall_mem_cons.mpr ⟨va_Nw.of rfl (hts0 _ (List.mem_of_getElem? (i := 113) (by decide +kernel))), List.forall_mem_cons.mpr ⟨va_Nw.of rfl (hts0 _ (List.mem_of_getElem? (i := 182) (by decide +kernel))), List.forall_mem_cons.mpr ⟨va_Nw.of rfl (hts0 _ (List.mem_of_getElem? (i := 204) (by decide +kernel))), List.forall_mem_cons.mpr ⟨va_Nw.of rfl (hts0 _ (List.mem_of_getElem? (i := 223) (by decide +kernel))), List.forall_mem_cons.mpr ⟨va_Nw.of rfl (hts0 _ (List.mem_of_getElem? (i := 249) (by decide +kernel))), List.forall_mem_cons.mpr ⟨va_Nw.of rfl (hts0 _ (List.mem_of_getElem? (i := 265) (by decide +kernel))), List.forall_mem_cons.mpr ⟨va_Nw.of rfl (hts0 _ (List.mem_of_getElem? (i := 272) (by decide +kernel))), List.forall_mem_cons.mpr ⟨va_Nw.of rfl (hts0 _ (List.mem_of_getElem? (i := 283) (by decide +kernel))), List.forall_mem_cons.mpr ⟨va_Nw.of rfl (hts0 _ (List.mem_of_getElem? (i := 288) (by decide +kernel))), List.forall_mem_cons.mpr ⟨va_Nw.of rfl (hts0 _ (List.mem_of_getElem? (i := 292) (by decide +kernel))), List.forall_mem_cons.mpr ⟨va_Nw.of rfl (hts0 _ (List.mem_of_getElem? (i := 297) (by decide +kernel))), List.forall_mem_cons.mpr ⟨va_Nw.of rfl (hts0 _ (List.mem_of_getElem? (i := 367) (by decide +kernel))), List.forall_mem_cons.mpr ⟨va_Nw.of rfl (hts0 _ (List.mem_of_getElem? (i := 510) (by decide +kernel))), List.forall_mem_cons.mpr ⟨va_Nw.of rfl (hts0 _ (List.mem_of_getElem? (i := 524) (by decide +kernel))), List.forall_mem_cons.mpr ⟨va_Nw.of rfl (hts0 _ (List.mem_of_getElem? (i := 573) (by decide +kernel))), List.forall_mem_cons.mpr ⟨va_Nw.of rfl (hts0 _ (List.mem_of_getElem? (i := 698) (by decide +kernel))), List.forall_mem_cons.mpr ⟨va_Nw.of rfl (hts0 _ (List.mem_of_getElem? (i := 822) (by decide +kernel))), fun _ h => absurd h List.not_mem_nil⟩⟩⟩⟩⟩⟩⟩⟩⟩⟩⟩⟩⟩⟩⟩⟩⟩⟩
  have y1 : vx_Zq Bundle.tN "UNASSIGNED_STACK" Bundle.steD (fun q : Nat => s.heap.size ≤ q) s s.heap := vx_Zqof (hts0 _ (List.mem_of_getElem? (i := 422) (by decide +kernel))) (hts0 _ (List.mem_of_getElem? (i := 60) (by decide +kernel))) (hq (.isRef (.static "java/lang/Throwable" "UNASSIGNED_STACK" "[Ljava/lang/StackTraceElement;")) (by decide +kernel)) hA0
  have y2 : vx_Zq Bundle.tN "SUPPRESSED_SENTINEL" Bundle.listD (fun q : Nat => s.heap.size ≤ q) s s.heap := vx_Zqof (hts0 _ (List.mem_of_getElem? (i := 424) (by decide +kernel))) (hts0 _ (List.mem_of_getElem? (i := 60) (by decide +kernel))) (hq (.isRef (.static "java/lang/Throwable" "SUPPRESSED_SENTINEL" "Ljava/util/List;")) (by decide +kernel)) hA0
  exact ⟨hn, ⟨t1, Z1, T1⟩, ⟨t2, Z2, T2⟩, ⟨t3, Z3, T3⟩, ⟨y1, y2⟩, ⟨a1, vk_R.of s1 r1⟩, ⟨a2, vk_R.of s2 r2⟩, ⟨a3, vk_R.of s3 r3⟩, hcx⟩
set_option maxHeartbeats 4000000 in
set_option maxRecDepth 100000 in
theorem whole_start {p : Program} {e : Env} {s : State} {m : MethodId} {below : List Frame} {meth : Method} {c : Code} (l : Launch) (hflags : l.flags = flags0) {b L : Nat} {xs : Nat → Int32} (hL : L ≤ 3072) (C0 : lw_At p s m meth c b L xs) : W p l e room_1 s m #[Value.ref b] below meth c s.heap [] 0 0 (lw_Z below #[Value.ref b] s) (entryFrame m ([Value.ref b] : List Value).toArray 7) := by
  obtain ⟨hx, hb, hr, hml, hown, hts0, hX, hbl, hlocks, hgv⟩ := id C0
  have hts : ∀ w ∈ Wall, w.before #[Value.ref b] s = true := fun w h => hts0 w (wall_tbl w h)
  have hl0 : l.stackTraces = false := by
    rw [Launch.stackTraces, hflags]
    decide +kernel
  have hA : ∀ q : Nat, s.heap.size ≤ q → (fun q : Nat => s.heap.size ≤ q) q := fun q h => h
  obtain ⟨D, cI, cZ, hK⟩ := st_K hts
  have hZ : cst (fun q : Nat => s.heap.size ≤ q) s := st_cst hts0 hgv (hK.1 9 _ rfl).2.1
  obtain ⟨w7, w3, w6, w9, w10, hi7, hi3, hi6, hi9, hi10, hR⟩ := rel_start
  have hS : va_S (fun q : Nat => s.heap.size ≤ q) s.heap s.heap [] := va_S.rf
  have hP : va_P D vwCl [] s.heap := fun k q h => by simp at h
  have hD : va_D (fun q : Nat => s.heap.size ≤ q) [] := ⟨fun i j p q h => by simp at h, fun k q h => by simp at h⟩
  have hl := lv_entry ([.ref b]) (n := 7) (Nat.le_of_ble_eq_true rfl)
  rw [lg_entry_eq]
  generalize (lg_sl ([.ref b]) ++ List.replicate (7 - (lg_sl ([.ref b])).length) Slot.unset).toArray = ls at hl ⊢
  replace hl : lv_has ls 7 [(0, .ref b)] := hl
  refine va_new (ci := 9) (fs := [.int 0, .null, .null, .null, .null, .null, .null, .null, .null, .null]) (C := RX9) (T := TX9) (N := 10) hx hb hts iX9 tyX9 tyX9_ok hown (hts _ mw_66) (hts _ mw_67) (hts _ mw_48) hK hP hD hS hA rfl (fun j hj => by rcases (show j = 0 ∨ j = 1 ∨ j = 2 ∨ j = 3 ∨ j = 4 ∨ j = 5 ∨ j = 6 ∨ j = 7 ∨ j = 8 ∨ j = 9 by omega) with rfl | rfl | rfl | rfl | rfl | rfl | rfl | rfl | rfl | rfl <;> rfl) (Nat.le_of_ble_eq_true rfl) (Nat.le_of_ble_eq_true rfl) dL_law_0 (fun q0 H hP hD hS => ?_)
  refine W.widen (k := 1) (n := 10) (Nat.le_of_ble_eq_true rfl) (Nat.le_of_ble_eq_true rfl) ?_
  replace hP : va_P D vwCl [(q0, .inr (9, [.int 0, .null, .null, .null, .null, .null, .null, .null, .null, .null]))] H := hP
  replace hD : va_D (fun q : Nat => s.heap.size ≤ q) [(q0, .inr (9, [.int 0, .null, .null, .null, .null, .null, .null, .null, .null, .null]))] := hD
  refine lv_dup hx hb dL_law_3 rfl ?_
  refine cc_cI (rest := [.ref q0]) (wr := []) ⟨hx, hb, hml, hown, hts⟩ (kc_X9 l D cI cZ q0 w7 hi7 w3 hi3 w6 hi6 w9 hi9) (cwI 0 hts (gwM mw_70) rfl rfl rfl (hts _ mw_48) (hts _ mw_68) (hts _ mw_69) rfl (by decide +kernel) ⟨(Nat.le_of_ble_eq_true rfl), (Nat.le_of_ble_eq_true rfl)⟩) hK hP hD hS hA hZ [0] [] rfl rfl (by decide) rfl (by decide) (by decide) hl.1 rfl (Nat.le_of_ble_eq_true rfl) dL_law_4 ⟨(Nat.le_of_ble_eq_true rfl), (Nat.le_of_ble_eq_true rfl)⟩ (fun ad H locs ead hP9 hD9 hS => ?_)
  subst ead
  refine W.widen (k := 35) (n := 1183) (Nat.le_of_ble_eq_true rfl) (Nat.le_of_ble_eq_true rfl) ?_
  replace hP : va_P D vwCl (wC cI cZ ad w9) H := hP9
  replace hD : va_D (fun q : Nat => s.heap.size ≤ q) (wC cI cZ ad w9) := hD9
  refine lv_astore_n (lv' := [(1, .ref (ad 0)), (0, .ref b)]) hx hb dL_law_7 rfl hl (by decide) rfl (fun ls hl => ?_)
  refine va_new (ci := 10) (fs := [.int 0, .int 0, .int 0, .int 0, .int 0, .int 0, .null, .null, .null, .null, .null, .null, .null, .null, .null, .null, .null, .null, .int 0, .int 0, .null, .null, .null, .null, .null, .int 0, .null, .null, .null, .null, .null, .null]) (C := RX10) (T := TX10) (N := 32) hx hb hts iX10 tyX10 tyX10_ok hown (hts _ mw_838) (hts _ mw_839) (hts _ mw_59) hK hP hD hS hA rfl (fun j hj => by rcases (show j = 0 ∨ j = 1 ∨ j = 2 ∨ j = 3 ∨ j = 4 ∨ j = 5 ∨ j = 6 ∨ j = 7 ∨ j = 8 ∨ j = 9 ∨ j = 10 ∨ j = 11 ∨ j = 12 ∨ j = 13 ∨ j = 14 ∨ j = 15 ∨ j = 16 ∨ j = 17 ∨ j = 18 ∨ j = 19 ∨ j = 20 ∨ j = 21 ∨ j = 22 ∨ j = 23 ∨ j = 24 ∨ j = 25 ∨ j = 26 ∨ j = 27 ∨ j = 28 ∨ j = 29 ∨ j = 30 ∨ j = 31 by omega) with rfl | rfl | rfl | rfl | rfl | rfl | rfl | rfl | rfl | rfl | rfl | rfl | rfl | rfl | rfl | rfl | rfl | rfl | rfl | rfl | rfl | rfl | rfl | rfl | rfl | rfl | rfl | rfl | rfl | rfl | rfl | rfl <;> rfl) (Nat.le_of_ble_eq_true rfl) (Nat.le_of_ble_eq_true rfl) dL_law_8 (fun q8 H hP hD hS => ?_)
  refine W.widen (k := 36) (n := 1215) (Nat.le_of_ble_eq_true rfl) (Nat.le_of_ble_eq_true rfl) ?_
  refine lv_dup hx hb dL_law_11 rfl ?_
  refine cc_cI (rest := [.ref q8]) (wr := wC cI cZ ad w9) ⟨hx, hb, hml, hown, hts⟩ (kc_X10 l D cI cZ q8 w10 hi10) (cwI 0 hts (gwM mw_842) rfl rfl rfl (hts _ mw_59) (hts _ mw_840) (hts _ mw_841) rfl (by decide +kernel) ⟨(Nat.le_of_ble_eq_true rfl), (Nat.le_of_ble_eq_true rfl)⟩) hK hP hD hS hA hZ [35] [0, 1, 2, 3, 4, 5, 6, 7, 8, 9, 10, 11, 12, 13, 14, 15, 16, 17, 18, 19, 20, 21, 22, 23, 24, 25, 26, 27, 28, 29, 30, 31, 32, 33, 34] rfl rfl (by decide) rfl (by decide) (by decide) hl.1 rfl (Nat.le_of_ble_eq_true rfl) dL_law_12 ⟨(Nat.le_of_ble_eq_true rfl), (Nat.le_of_ble_eq_true rfl)⟩ (fun am H locs eam hP9 hD9 hS => ?_)
  subst eam
  refine W.widen (k := 59) (n := 5140) (Nat.le_of_ble_eq_true rfl) (Nat.le_of_ble_eq_true rfl) ?_
  replace hP : va_P D vwCl (wC cI cZ ad w9 ++ wM cI cZ am w10) H := hP9
  replace hD : va_D (fun q : Nat => s.heap.size ≤ q) (wC cI cZ ad w9 ++ wM cI cZ am w10) := hD9
  refine lv_astore_n (lv' := [(2, .ref (am 0)), (1, .ref (ad 0)), (0, .ref b)]) hx hb dL_law_15 rfl hl (by decide) rfl (fun ls hl => ?_)
  refine lv_iconst (v := 1) hx hb dL_law_16 (by decide) ?_
  refine va_newa (atype := .long) (ty := .long) (a0 := (1, .inr (.inl (fun _ => 0)))) hx hb (hts _ mw_1177) rfl hK hP hD hS hA (fun _ => rfl) (by decide) (by decide) (Nat.le_of_ble_eq_true rfl) (Nat.le_of_ble_eq_true rfl) (Nat.le_of_ble_eq_true rfl) dL_law_17 (fun q17 cJ H hK hP hD hS => ?_)
  refine W.widen (k := 60) (n := 5141) (Nat.le_of_ble_eq_true rfl) (Nat.le_of_ble_eq_true rfl) ?_
  replace hK : va_K D vwCl [(cI, .int), (cZ, .boolean), (cJ, .long)] s := hK
  replace hP : va_P D vwCl (wM cI cZ am w10 ++ wL cI cZ cJ ad q17 (fun _ => 0) w9) H := hP.sub [35, 36, 37, 38, 39, 40, 41, 42, 43, 44, 45, 46, 47, 48, 49, 50, 51, 52, 53, 54, 55, 56, 57, 58, 59, 0, 1, 2, 3, 4, 5, 6, 7, 8, 9, 10, 11, 12, 13, 14, 15, 16, 17, 18, 19, 20, 21, 22, 23, 24, 25, 26, 27, 28, 29, 30, 31, 32, 33, 34] rfl
  replace hD : va_D (fun q : Nat => s.heap.size ≤ q) (wM cI cZ am w10 ++ wL cI cZ cJ ad q17 (fun _ => 0) w9) := hD.sub [35, 36, 37, 38, 39, 40, 41, 42, 43, 44, 45, 46, 47, 48, 49, 50, 51, 52, 53, 54, 55, 56, 57, 58, 59, 0, 1, 2, 3, 4, 5, 6, 7, 8, 9, 10, 11, 12, 13, 14, 15, 16, 17, 18, 19, 20, 21, 22, 23, 24, 25, 26, 27, 28, 29, 30, 31, 32, 33, 34] (by decide) rfl
  refine lv_astore_n (lv' := [(3, .ref q17), (2, .ref (am 0)), (1, .ref (ad 0)), (0, .ref b)]) hx hb dL_law_19 rfl hl (by decide) rfl (fun ls hl => ?_)
  refine lv_iconst (v := 0) hx hb dL_law_20 (by decide) ?_
  refine lv_istore (lv' := [(4, .int 0), (3, .ref q17), (2, .ref (am 0)), (1, .ref (ad 0)), (0, .ref b)]) hx hb dL_law_21 hl (by decide) rfl (fun ls hl => ?_)
  exact law_loop hl0 hL C0 hZ hK (L + 1) 0 0 (Nat.zero_le _) (by omega) nI_0.symm (fun _ => 0) w9 w10 hR H _ ls hP hD hS (lv_sub hl [4, 3, 2, 1, 0] rfl)
