def rX9_isWithin : Room := { frames := 0, cells := 0, slots := 0, locals := 0 }
set_option maxHeartbeats 4000000 in
set_option maxRecDepth 100000 in
theorem k_X9_isWithin (l : Launch) (D : va_G) (cI cZ : ClassId) (ad : Nat → Nat) (u : GS) (p0 : Int32) (p1 : Int32) (p2 : Int32) {r : Int32} (h : g_X9_isWithin p0 p1 p2 = some r) : MI l yX9_isWithin (wm yX9_isWithin cX9_isWithin 3 (some .boolean)) rX9_isWithin D [(cI, .int), (cZ, .boolean)] (wC cI cZ ad u) (wC cI cZ ad u) [.int p0, .int p1, .int p2] r := by
  intro sz
  refine Met.ofW (cc := cX9_isWithin) (maxL := 3) (ret := (some .boolean)) (by decide) rfl ?_
  intro p e s m args below meth c s₁ B hml hv
  obtain ⟨rfl, hsz, hP, hK, hD0, hZ⟩ := hv
  have hx := B.exec
  have hb := B.bytes
  have hr := B.returns
  have hts : ∀ w ∈ Wall, w.before _ s = true := fun w hw => atoms_spec (ws := wm yX9_isWithin cX9_isWithin 3 (some .boolean)) B.pre w (List.mem_cons_of_mem _ hw)
  have hown : s.vm.findClass RX9 = some m.cls := findClass_of_methodNamed B.named
  have hlocks := B.notSynchronized
  subst hsz
  have hD := hD0.self (sz := s.heap.size)
  generalize hAe : va_A (wC cI cZ ad u) s.heap.size = A at hD hZ ⊢
  have hA : ∀ q : Nat, s.heap.size ≤ q → A q := fun q h => by rw [← hAe]; exact Or.inr h
  have hS : va_S A s.heap s.heap [] := va_S.rf
  have hl := lv_entry ([.int p0, .int p1, .int p2]) (n := 3) (Nat.le_of_ble_eq_true rfl)
  rw [lg_entry_eq]
  generalize (lg_sl ([.int p0, .int p1, .int p2]) ++ List.replicate (3 - (lg_sl ([.int p0, .int p1, .int p2])).length) Slot.unset).toArray = ls at hl ⊢
  replace hl : lv_has ls 3 [(0, .int p0), (1, .int p1), (2, .int p2)] := hl
  refine w_gen (fun Q hQ => ?_)
  refine lv_iload_n hx hb dX9_isWithin_0 rfl (lv_at hl 0 rfl) ?_
  refine lv_iload_n hx hb dX9_isWithin_1 rfl (lv_at hl 1 rfl) ?_
  refine lv_icmp_lt (tgt := 14) hx hb dX9_isWithin_2 (by decide) (fun c1 => ?_) (fun c1 => ?_)
  · replace h := gx_t c1 h
    refine lv_iconst (v := 0) hx hb dX9_isWithin_14 (by decide) ?_
    cases h
    exact cc_ret hx hb hr rfl hQ hK hP hD hS rfl dX9_isWithin_15 hlocks
  · replace h := gx_f c1 h
    refine lv_iload_n hx hb dX9_isWithin_5 rfl (lv_at hl 0 rfl) ?_
    refine lv_iload_n hx hb dX9_isWithin_6 rfl (lv_at hl 2 rfl) ?_
    refine lv_icmp_gt (tgt := 14) hx hb dX9_isWithin_7 (by decide) (fun c2 => ?_) (fun c2 => ?_)
    · replace h := gx_t c2 h
      refine lv_iconst (v := 0) hx hb dX9_isWithin_14 (by decide) ?_
      cases h
      exact cc_ret hx hb hr rfl hQ hK hP hD hS rfl dX9_isWithin_15 hlocks
    · replace h := gx_f c2 h
      refine lv_iconst (v := 1) hx hb dX9_isWithin_10 (by decide) ?_
      refine lv_goto (tgt := 15) hx hb dX9_isWithin_11 (by decide) ?_
      cases h
      exact cc_ret hx hb hr rfl hQ hK hP hD hS rfl dX9_isWithin_15 hlocks

def rX0_isRunning : Room := { frames := 1, cells := 0, slots := 0, locals := 22 }
set_option maxHeartbeats 4000000 in
set_option maxRecDepth 100000 in
theorem k_X0_isRunning (l : Launch) (D : va_G) (cI cZ : ClassId) (ad : Nat → Nat) (u : GS) (p0 : Int32) (p1 : Int32) {r : Int32} (h : g_X0_isRunning u p0 p1 = some r) : MI l yX0_isRunning (wm yX0_isRunning cX0_isRunning 3 (some .boolean)) rX0_isRunning D [(cI, .int), (cZ, .boolean)] (wC cI cZ ad u) (wC cI cZ ad u) [.ref (ad 8), .int p0, .int p1] r := by
  intro sz
  refine Met.ofW (cc := cX0_isRunning) (maxL := 3) (ret := (some .boolean)) (by decide) rfl ?_
  intro p e s m args below meth c s₁ B hml hv
  obtain ⟨rfl, hsz, hP, hK, hD0, hZ⟩ := hv
  have hx := B.exec
  have hb := B.bytes
  have hr := B.returns
  have hts : ∀ w ∈ Wall, w.before _ s = true := fun w hw => atoms_spec (ws := wm yX0_isRunning cX0_isRunning 3 (some .boolean)) B.pre w (List.mem_cons_of_mem _ hw)
  have hown : s.vm.findClass RX0 = some m.cls := findClass_of_methodNamed B.named
  have hlocks := B.notSynchronized
  subst hsz
  have hD := hD0.self (sz := s.heap.size)
  generalize hAe : va_A (wC cI cZ ad u) s.heap.size = A at hD hZ ⊢
  have hA : ∀ q : Nat, s.heap.size ≤ q → A q := fun q h => by rw [← hAe]; exact Or.inr h
  have hS : va_S A s.heap s.heap [] := va_S.rf
  have hf21 := hts _ mw_230
  have hf24 := hts _ mw_231
  have hl := lv_entry ([.ref (ad 8), .int p0, .int p1]) (n := 3) (Nat.le_of_ble_eq_true rfl)
  rw [lg_entry_eq]
  generalize (lg_sl ([.ref (ad 8), .int p0, .int p1]) ++ List.replicate (3 - (lg_sl ([.ref (ad 8), .int p0, .int p1])).length) Slot.unset).toArray = ls at hl ⊢
  replace hl : lv_has ls 3 [(0, .ref (ad 8)), (1, .int p0), (2, .int p1)] := hl
  refine w_gen (fun Q hQ => ?_)
  refine lv_iload_n hx hb dX0_isRunning_0 rfl (lv_at hl 1 rfl) ?_
  refine lv_iconst (v := 0) hx hb dX0_isRunning_1 (by decide) ?_
  refine lv_bipush (v := 7) hx hb dX0_isRunning_2 (by decide) ?_
  obtain ⟨y1, hc2, h⟩ := gx_bind h
  refine cc_iSN (As := [.int p0, .int (0 : Int32), .int (7 : Int32)]) (rest := []) ⟨hx, hb, hml, hown, hts⟩ (k_X9_isWithin l D cI cZ ad u p0 (0 : Int32) (7 : Int32) hc2) ⟨va_cnB 3 hts (gwM mw_274) rfl rfl rfl (hZ.1 ("RedcrossGantry$Bookings", 31, yX9_isWithin) (by decide +kernel)) (hts _ mw_48) (by decide +kernel) ⟨Nat.le_of_ble_eq_true rfl, Nat.le_of_ble_eq_true rfl⟩, hts _ mw_273, trivial⟩ hK hP hD hS hA hZ rfl hl.1 rfl (Nat.le_of_ble_eq_true rfl) dX0_isRunning_4 ⟨Nat.zero_le _, Nat.zero_le _⟩ (fun H locs hP hD hS => ?_)
  refine lv_if_eq (tgt := 34) hx hb dX0_isRunning_7 (by decide) (fun c3 => ?_) (fun c3 => ?_)
  · replace h := gx_t c3 h
    refine lv_iconst (v := 0) hx hb dX0_isRunning_34 (by decide) ?_
    cases h
    exact cc_ret hx hb hr rfl hQ hK hP hD hS rfl dX0_isRunning_35 hlocks
  · replace h := gx_f c3 h
    refine lv_aload_n hx hb dX0_isRunning_10 rfl (lv_at hl 0 rfl) ?_
    refine va_get (D := D) (ci := 0) (v := .ref (ad 32)) (C := RX0) (T := TX0) (N := 6) hx hb hts iX0 hown hK hP 8 rfl rfl 3 (by decide) hf21 (fun _ h9 => h9) rfl dX0_isRunning_11 ?_
    refine lv_iload_n hx hb dX0_isRunning_14 rfl (lv_at hl 1 rfl) ?_
    obtain ⟨b4, h⟩ := gx_in h
    refine va_iald (D := D) hx hb hK hP 32 0 rfl rfl b4 dX0_isRunning_15 ?_
    refine lv_iload_n hx hb dX0_isRunning_16 rfl (lv_at hl 2 rfl) ?_
    refine lv_icmp_gt (tgt := 34) hx hb dX0_isRunning_17 (by decide) (fun c5 => ?_) (fun c5 => ?_)
    · replace h := gx_t c5 h
      refine lv_iconst (v := 0) hx hb dX0_isRunning_34 (by decide) ?_
      cases h
      exact cc_ret hx hb hr rfl hQ hK hP hD hS rfl dX0_isRunning_35 hlocks
    · replace h := gx_f c5 h
      refine lv_iload_n hx hb dX0_isRunning_20 rfl (lv_at hl 2 rfl) ?_
      refine lv_aload_n hx hb dX0_isRunning_21 rfl (lv_at hl 0 rfl) ?_
      refine va_get (D := D) (ci := 0) (v := .ref (ad 33)) (C := RX0) (T := TX0) (N := 6) hx hb hts iX0 hown hK hP 8 rfl rfl 4 (by decide) hf24 (fun _ h9 => h9) rfl dX0_isRunning_22 ?_
      refine lv_iload_n hx hb dX0_isRunning_25 rfl (lv_at hl 1 rfl) ?_
      obtain ⟨b6, h⟩ := gx_in h
      refine va_iald (D := D) hx hb hK hP 33 0 rfl rfl b6 dX0_isRunning_26 ?_
      refine lv_icmp_ge (tgt := 34) hx hb dX0_isRunning_27 (by decide) (fun c7 => ?_) (fun c7 => ?_)
      · replace h := gx_t c7 h
        refine lv_iconst (v := 0) hx hb dX0_isRunning_34 (by decide) ?_
        cases h
        exact cc_ret hx hb hr rfl hQ hK hP hD hS rfl dX0_isRunning_35 hlocks
      · replace h := gx_f c7 h
        refine lv_iconst (v := 1) hx hb dX0_isRunning_30 (by decide) ?_
        refine lv_goto (tgt := 35) hx hb dX0_isRunning_31 (by decide) ?_
        cases h
        exact cc_ret hx hb hr rfl hQ hK hP hD hS rfl dX0_isRunning_35 hlocks

def rX0_writeNext : Room := { frames := 1, cells := 0, slots := 0, locals := 22 }
set_option maxHeartbeats 4000000 in
set_option maxRecDepth 100000 in
theorem k_X0_writeNext (l : Launch) (D : va_G) (cI cZ : ClassId) (ad : Nat → Nat) (u : GS) (p0 : Int32) (p1 : Int32) (p2 : Int32) (p3 : Int32) (p4 : Int32) {w' : GS} (h : g_X0_writeNext u p0 p1 p2 p3 p4 = some w') : MV l yX0_writeNext (wm yX0_writeNext cX0_writeNext 6 none) rX0_writeNext D [(cI, .int), (cZ, .boolean)] (wC cI cZ ad u) (wC cI cZ ad w') [.ref (ad 8), .int p0, .int p1, .int p2, .int p3, .int p4] := by
  intro sz
  refine Met.ofW (cc := cX0_writeNext) (maxL := 6) (ret := none) (by decide) rfl ?_
  intro p e s m args below meth c s₁ B hml hv
  obtain ⟨rfl, hsz, hP, hK, hD0, hZ⟩ := hv
  have hx := B.exec
  have hb := B.bytes
  have hr := B.returns
  have hts : ∀ w ∈ Wall, w.before _ s = true := fun w hw => atoms_spec (ws := wm yX0_writeNext cX0_writeNext 6 none) B.pre w (List.mem_cons_of_mem _ hw)
  have hown : s.vm.findClass RX0 = some m.cls := findClass_of_methodNamed B.named
  have hlocks := B.notSynchronized
  subst hsz
  have hD := hD0.self (sz := s.heap.size)
  generalize hAe : va_A (wC cI cZ ad u) s.heap.size = A at hD hZ ⊢
  have hA : ∀ q : Nat, s.heap.size ≤ q → A q := fun q h => by rw [← hAe]; exact Or.inr h
  have hS : va_S A s.heap s.heap [] := va_S.rf
  have hf27 := hts _ mw_232
  have hf11 := hts _ mw_227
  have hf15 := hts _ mw_228
  have hf18 := hts _ mw_229
  have hf21 := hts _ mw_230
  have hf24 := hts _ mw_231
  have hl := lv_entry ([.ref (ad 8), .int p0, .int p1, .int p2, .int p3, .int p4]) (n := 6) (Nat.le_of_ble_eq_true rfl)
  rw [lg_entry_eq]
  generalize (lg_sl ([.ref (ad 8), .int p0, .int p1, .int p2, .int p3, .int p4]) ++ List.replicate (6 - (lg_sl ([.ref (ad 8), .int p0, .int p1, .int p2, .int p3, .int p4])).length) Slot.unset).toArray = ls at hl ⊢
  replace hl : lv_has ls 6 [(0, .ref (ad 8)), (1, .int p0), (2, .int p1), (3, .int p2), (4, .int p3), (5, .int p4)] := hl
  refine w_gen (fun Q hQ => ?_)
  refine lv_aload_n hx hb dX0_writeNext_0 rfl (lv_at hl 0 rfl) ?_
  refine va_get (D := D) (ci := 0) (v := .int (cB_count u)) (C := RX0) (T := TX0) (N := 6) hx hb hts iX0 hown hK hP 8 rfl rfl 5 (by decide) hf27 (fun _ h9 => h9) rfl dX0_writeNext_1 ?_
  refine lv_iconst (v := 0) hx hb dX0_writeNext_4 (by decide) ?_
  refine lv_bipush (v := 7) hx hb dX0_writeNext_5 (by decide) ?_
  obtain ⟨y1, hc2, h⟩ := gx_bind h
  refine cc_iSN (As := [.int (cB_count u), .int (0 : Int32), .int (7 : Int32)]) (rest := []) ⟨hx, hb, hml, hown, hts⟩ (k_X9_isWithin l D cI cZ ad u (cB_count u) (0 : Int32) (7 : Int32) hc2) ⟨va_cnB 3 hts (gwM mw_274) rfl rfl rfl (hZ.1 ("RedcrossGantry$Bookings", 31, yX9_isWithin) (by decide +kernel)) (hts _ mw_48) (by decide +kernel) ⟨Nat.le_of_ble_eq_true rfl, Nat.le_of_ble_eq_true rfl⟩, hts _ mw_273, trivial⟩ hK hP hD hS hA hZ rfl hl.1 rfl (Nat.le_of_ble_eq_true rfl) dX0_writeNext_7 ⟨Nat.zero_le _, Nat.zero_le _⟩ (fun H locs hP hD hS => ?_)
  refine lv_if_eq (tgt := 65) hx hb dX0_writeNext_10 (by decide) (fun c3 => ?_) (fun c3 => ?_)
  · replace h := gx_t c3 h
    cases h
    exact cc_vret hx hb hr hQ hK hP hD hS dX0_writeNext_65 hlocks
  · replace h := gx_f c3 h
    refine lv_aload_n hx hb dX0_writeNext_13 rfl (lv_at hl 0 rfl) ?_
    refine va_get (D := D) (ci := 0) (v := .ref (ad 29)) (C := RX0) (T := TX0) (N := 6) hx hb hts iX0 hown hK hP 8 rfl rfl 0 (by decide) hf11 (fun _ h9 => h9) rfl dX0_writeNext_14 ?_
    refine lv_aload_n hx hb dX0_writeNext_17 rfl (lv_at hl 0 rfl) ?_
    refine va_get (D := D) (ci := 0) (v := .int (cB_count u)) (C := RX0) (T := TX0) (N := 6) hx hb hts iX0 hown hK hP 8 rfl rfl 5 (by decide) hf27 (fun _ h9 => h9) rfl dX0_writeNext_18 ?_
    refine lv_iload_n hx hb dX0_writeNext_21 rfl (lv_at hl 1 rfl) ?_
    obtain ⟨b4, h⟩ := gx_in h
    refine va_iast (D := D) hx hb hK hP hD hS 29 0 rfl rfl b4 dX0_writeNext_22 (fun H locs hP hD hS => ?_)
    obtain ⟨u5, eu5, h⟩ := gx_let h
    replace hP : va_P D vwCl (wC cI cZ ad u5) H := by rw [← eu5]; exact hP
    replace hD : va_D A (wC cI cZ ad u5) := by rw [← eu5]; exact hD
    refine lv_aload_n hx hb dX0_writeNext_23 rfl (lv_at hl 0 rfl) ?_
    refine va_get (D := D) (ci := 0) (v := .ref (ad 30)) (C := RX0) (T := TX0) (N := 6) hx hb hts iX0 hown hK hP 8 rfl rfl 1 (by decide) hf15 (fun _ h9 => h9) rfl dX0_writeNext_24 ?_
    refine lv_aload_n hx hb dX0_writeNext_27 rfl (lv_at hl 0 rfl) ?_
    refine va_get (D := D) (ci := 0) (v := .int (cB_count u5)) (C := RX0) (T := TX0) (N := 6) hx hb hts iX0 hown hK hP 8 rfl rfl 5 (by decide) hf27 (fun _ h9 => h9) rfl dX0_writeNext_28 ?_
    refine lv_iload_n hx hb dX0_writeNext_31 rfl (lv_at hl 2 rfl) ?_
    obtain ⟨b6, h⟩ := gx_in h
    refine va_iast (D := D) hx hb hK hP hD hS 30 0 rfl rfl b6 dX0_writeNext_32 (fun H locs hP hD hS => ?_)
    obtain ⟨u7, eu7, h⟩ := gx_let h
    replace hP : va_P D vwCl (wC cI cZ ad u7) H := by rw [← eu7]; exact hP
    replace hD : va_D A (wC cI cZ ad u7) := by rw [← eu7]; exact hD
    refine lv_aload_n hx hb dX0_writeNext_33 rfl (lv_at hl 0 rfl) ?_
    refine va_get (D := D) (ci := 0) (v := .ref (ad 31)) (C := RX0) (T := TX0) (N := 6) hx hb hts iX0 hown hK hP 8 rfl rfl 2 (by decide) hf18 (fun _ h9 => h9) rfl dX0_writeNext_34 ?_
    refine lv_aload_n hx hb dX0_writeNext_37 rfl (lv_at hl 0 rfl) ?_
    refine va_get (D := D) (ci := 0) (v := .int (cB_count u7)) (C := RX0) (T := TX0) (N := 6) hx hb hts iX0 hown hK hP 8 rfl rfl 5 (by decide) hf27 (fun _ h9 => h9) rfl dX0_writeNext_38 ?_
    refine lv_iload_n hx hb dX0_writeNext_41 rfl (lv_at hl 3 rfl) ?_
    obtain ⟨b8, h⟩ := gx_in h
    refine va_iast (D := D) hx hb hK hP hD hS 31 0 rfl rfl b8 dX0_writeNext_42 (fun H locs hP hD hS => ?_)
    obtain ⟨u9, eu9, h⟩ := gx_let h
    replace hP : va_P D vwCl (wC cI cZ ad u9) H := by rw [← eu9]; exact hP
    replace hD : va_D A (wC cI cZ ad u9) := by rw [← eu9]; exact hD
    refine lv_aload_n hx hb dX0_writeNext_43 rfl (lv_at hl 0 rfl) ?_
    refine va_get (D := D) (ci := 0) (v := .ref (ad 32)) (C := RX0) (T := TX0) (N := 6) hx hb hts iX0 hown hK hP 8 rfl rfl 3 (by decide) hf21 (fun _ h9 => h9) rfl dX0_writeNext_44 ?_
    refine lv_aload_n hx hb dX0_writeNext_47 rfl (lv_at hl 0 rfl) ?_
    refine va_get (D := D) (ci := 0) (v := .int (cB_count u9)) (C := RX0) (T := TX0) (N := 6) hx hb hts iX0 hown hK hP 8 rfl rfl 5 (by decide) hf27 (fun _ h9 => h9) rfl dX0_writeNext_48 ?_
    refine lv_iload hx hb dX0_writeNext_51 (lv_at hl 4 rfl) ?_
    obtain ⟨b10, h⟩ := gx_in h
    refine va_iast (D := D) hx hb hK hP hD hS 32 0 rfl rfl b10 dX0_writeNext_53 (fun H locs hP hD hS => ?_)
    obtain ⟨u11, eu11, h⟩ := gx_let h
    replace hP : va_P D vwCl (wC cI cZ ad u11) H := by rw [← eu11]; exact hP
    replace hD : va_D A (wC cI cZ ad u11) := by rw [← eu11]; exact hD
    refine lv_aload_n hx hb dX0_writeNext_54 rfl (lv_at hl 0 rfl) ?_
    refine va_get (D := D) (ci := 0) (v := .ref (ad 33)) (C := RX0) (T := TX0) (N := 6) hx hb hts iX0 hown hK hP 8 rfl rfl 4 (by decide) hf24 (fun _ h9 => h9) rfl dX0_writeNext_55 ?_
    refine lv_aload_n hx hb dX0_writeNext_58 rfl (lv_at hl 0 rfl) ?_
    refine va_get (D := D) (ci := 0) (v := .int (cB_count u11)) (C := RX0) (T := TX0) (N := 6) hx hb hts iX0 hown hK hP 8 rfl rfl 5 (by decide) hf27 (fun _ h9 => h9) rfl dX0_writeNext_59 ?_
    refine lv_iload hx hb dX0_writeNext_62 (lv_at hl 5 rfl) ?_
    obtain ⟨b12, h⟩ := gx_in h
    refine va_iast (D := D) hx hb hK hP hD hS 33 0 rfl rfl b12 dX0_writeNext_64 (fun H locs hP hD hS => ?_)
    obtain ⟨u13, eu13, h⟩ := gx_let h
    replace hP : va_P D vwCl (wC cI cZ ad u13) H := by rw [← eu13]; exact hP
    replace hD : va_D A (wC cI cZ ad u13) := by rw [← eu13]; exact hD
    cases h
    exact cc_vret hx hb hr hQ hK hP hD hS dX0_writeNext_65 hlocks

def rX0_areInThreeLanes : Room := { frames := 0, cells := 0, slots := 0, locals := 0 }
set_option maxHeartbeats 4000000 in
set_option maxRecDepth 100000 in
theorem k_X0_areInThreeLanes (l : Launch) (D : va_G) (cI cZ : ClassId) (ad : Nat → Nat) (u : GS) (p0 : Int32) (p1 : Int32) (p2 : Int32) {r : Int32} (h : g_X0_areInThreeLanes u p0 p1 p2 = some r) : MI l yX0_areInThreeLanes (wm yX0_areInThreeLanes cX0_areInThreeLanes 4 (some .boolean)) rX0_areInThreeLanes D [(cI, .int), (cZ, .boolean)] (wC cI cZ ad u) (wC cI cZ ad u) [.ref (ad 8), .int p0, .int p1, .int p2] r := by
  intro sz
  refine Met.ofW (cc := cX0_areInThreeLanes) (maxL := 4) (ret := (some .boolean)) (by decide) rfl ?_
  intro p e s m args below meth c s₁ B hml hv
  obtain ⟨rfl, hsz, hP, hK, hD0, hZ⟩ := hv
  have hx := B.exec
  have hb := B.bytes
  have hr := B.returns
  have hts : ∀ w ∈ Wall, w.before _ s = true := fun w hw => atoms_spec (ws := wm yX0_areInThreeLanes cX0_areInThreeLanes 4 (some .boolean)) B.pre w (List.mem_cons_of_mem _ hw)
  have hown : s.vm.findClass RX0 = some m.cls := findClass_of_methodNamed B.named
  have hlocks := B.notSynchronized
  subst hsz
  have hD := hD0.self (sz := s.heap.size)
  generalize hAe : va_A (wC cI cZ ad u) s.heap.size = A at hD hZ ⊢
  have hA : ∀ q : Nat, s.heap.size ≤ q → A q := fun q h => by rw [← hAe]; exact Or.inr h
  have hS : va_S A s.heap s.heap [] := va_S.rf
  have hf11 := hts _ mw_227
  have hl := lv_entry ([.ref (ad 8), .int p0, .int p1, .int p2]) (n := 4) (Nat.le_of_ble_eq_true rfl)
  rw [lg_entry_eq]
  generalize (lg_sl ([.ref (ad 8), .int p0, .int p1, .int p2]) ++ List.replicate (4 - (lg_sl ([.ref (ad 8), .int p0, .int p1, .int p2])).length) Slot.unset).toArray = ls at hl ⊢
  replace hl : lv_has ls 4 [(0, .ref (ad 8)), (1, .int p0), (2, .int p1), (3, .int p2)] := hl
  refine w_gen (fun Q hQ => ?_)
  refine lv_aload_n hx hb dX0_areInThreeLanes_0 rfl (lv_at hl 0 rfl) ?_
  refine va_get (D := D) (ci := 0) (v := .ref (ad 29)) (C := RX0) (T := TX0) (N := 6) hx hb hts iX0 hown hK hP 8 rfl rfl 0 (by decide) hf11 (fun _ h9 => h9) rfl dX0_areInThreeLanes_1 ?_
  refine lv_iload_n hx hb dX0_areInThreeLanes_4 rfl (lv_at hl 1 rfl) ?_
  obtain ⟨b1, h⟩ := gx_in h
  refine va_iald (D := D) hx hb hK hP 29 0 rfl rfl b1 dX0_areInThreeLanes_5 ?_
  refine lv_aload_n hx hb dX0_areInThreeLanes_6 rfl (lv_at hl 0 rfl) ?_
  refine va_get (D := D) (ci := 0) (v := .ref (ad 29)) (C := RX0) (T := TX0) (N := 6) hx hb hts iX0 hown hK hP 8 rfl rfl 0 (by decide) hf11 (fun _ h9 => h9) rfl dX0_areInThreeLanes_7 ?_
  refine lv_iload_n hx hb dX0_areInThreeLanes_10 rfl (lv_at hl 2 rfl) ?_
  obtain ⟨b2, h⟩ := gx_in h
  refine va_iald (D := D) hx hb hK hP 29 0 rfl rfl b2 dX0_areInThreeLanes_11 ?_
  refine lv_icmp_eq (tgt := 49) hx hb dX0_areInThreeLanes_12 (by decide) (fun c3 => ?_) (fun c3 => ?_)
  · replace h := gx_t c3 h
    refine lv_iconst (v := 0) hx hb dX0_areInThreeLanes_49 (by decide) ?_
    cases h
    exact cc_ret hx hb hr rfl hQ hK hP hD hS rfl dX0_areInThreeLanes_50 hlocks
  · replace h := gx_f c3 h
    refine lv_aload_n hx hb dX0_areInThreeLanes_15 rfl (lv_at hl 0 rfl) ?_
    refine va_get (D := D) (ci := 0) (v := .ref (ad 29)) (C := RX0) (T := TX0) (N := 6) hx hb hts iX0 hown hK hP 8 rfl rfl 0 (by decide) hf11 (fun _ h9 => h9) rfl dX0_areInThreeLanes_16 ?_
    refine lv_iload_n hx hb dX0_areInThreeLanes_19 rfl (lv_at hl 1 rfl) ?_
    obtain ⟨b4, h⟩ := gx_in h
    refine va_iald (D := D) hx hb hK hP 29 0 rfl rfl b4 dX0_areInThreeLanes_20 ?_
    refine lv_aload_n hx hb dX0_areInThreeLanes_21 rfl (lv_at hl 0 rfl) ?_
    refine va_get (D := D) (ci := 0) (v := .ref (ad 29)) (C := RX0) (T := TX0) (N := 6) hx hb hts iX0 hown hK hP 8 rfl rfl 0 (by decide) hf11 (fun _ h9 => h9) rfl dX0_areInThreeLanes_22 ?_
    refine lv_iload_n hx hb dX0_areInThreeLanes_25 rfl (lv_at hl 3 rfl) ?_
    obtain ⟨b5, h⟩ := gx_in h
    refine va_iald (D := D) hx hb hK hP 29 0 rfl rfl b5 dX0_areInThreeLanes_26 ?_
    refine lv_icmp_eq (tgt := 49) hx hb dX0_areInThreeLanes_27 (by decide) (fun c6 => ?_) (fun c6 => ?_)
    · replace h := gx_t c6 h
      refine lv_iconst (v := 0) hx hb dX0_areInThreeLanes_49 (by decide) ?_
      cases h
      exact cc_ret hx hb hr rfl hQ hK hP hD hS rfl dX0_areInThreeLanes_50 hlocks
    · replace h := gx_f c6 h
      refine lv_aload_n hx hb dX0_areInThreeLanes_30 rfl (lv_at hl 0 rfl) ?_
      refine va_get (D := D) (ci := 0) (v := .ref (ad 29)) (C := RX0) (T := TX0) (N := 6) hx hb hts iX0 hown hK hP 8 rfl rfl 0 (by decide) hf11 (fun _ h9 => h9) rfl dX0_areInThreeLanes_31 ?_
      refine lv_iload_n hx hb dX0_areInThreeLanes_34 rfl (lv_at hl 2 rfl) ?_
      obtain ⟨b7, h⟩ := gx_in h
      refine va_iald (D := D) hx hb hK hP 29 0 rfl rfl b7 dX0_areInThreeLanes_35 ?_
      refine lv_aload_n hx hb dX0_areInThreeLanes_36 rfl (lv_at hl 0 rfl) ?_
      refine va_get (D := D) (ci := 0) (v := .ref (ad 29)) (C := RX0) (T := TX0) (N := 6) hx hb hts iX0 hown hK hP 8 rfl rfl 0 (by decide) hf11 (fun _ h9 => h9) rfl dX0_areInThreeLanes_37 ?_
      refine lv_iload_n hx hb dX0_areInThreeLanes_40 rfl (lv_at hl 3 rfl) ?_
      obtain ⟨b8, h⟩ := gx_in h
      refine va_iald (D := D) hx hb hK hP 29 0 rfl rfl b8 dX0_areInThreeLanes_41 ?_
      refine lv_icmp_eq (tgt := 49) hx hb dX0_areInThreeLanes_42 (by decide) (fun c9 => ?_) (fun c9 => ?_)
      · replace h := gx_t c9 h
        refine lv_iconst (v := 0) hx hb dX0_areInThreeLanes_49 (by decide) ?_
        cases h
        exact cc_ret hx hb hr rfl hQ hK hP hD hS rfl dX0_areInThreeLanes_50 hlocks
      · replace h := gx_f c9 h
        refine lv_iconst (v := 1) hx hb dX0_areInThreeLanes_45 (by decide) ?_
        refine lv_goto (tgt := 50) hx hb dX0_areInThreeLanes_46 (by decide) ?_
        cases h
        exact cc_ret hx hb hr rfl hQ hK hP hD hS rfl dX0_areInThreeLanes_50 hlocks

def rX0_doMeet : Room := { frames := 1, cells := 0, slots := 0, locals := 21 }
set_option maxHeartbeats 4000000 in
set_option maxRecDepth 100000 in
theorem k_X0_doMeet (l : Launch) (D : va_G) (cI cZ : ClassId) (ad : Nat → Nat) (u : GS) (p0 : Int32) (p1 : Int32) (p2 : Int32) {r : Int32} (h : g_X0_doMeet u p0 p1 p2 = some r) : MI l yX0_doMeet (wm yX0_doMeet cX0_doMeet 8 (some .boolean)) rX0_doMeet D [(cI, .int), (cZ, .boolean)] (wC cI cZ ad u) (wC cI cZ ad u) [.ref (ad 8), .int p0, .int p1, .int p2] r := by
  intro sz
  refine Met.ofW (cc := cX0_doMeet) (maxL := 8) (ret := (some .boolean)) (by decide) rfl ?_
  intro p e s m args below meth c s₁ B hml hv
  obtain ⟨rfl, hsz, hP, hK, hD0, hZ⟩ := hv
  have hx := B.exec
  have hb := B.bytes
  have hr := B.returns
  have hts : ∀ w ∈ Wall, w.before _ s = true := fun w hw => atoms_spec (ws := wm yX0_doMeet cX0_doMeet 8 (some .boolean)) B.pre w (List.mem_cons_of_mem _ hw)
  have hown : s.vm.findClass RX0 = some m.cls := findClass_of_methodNamed B.named
  have hlocks := B.notSynchronized
  subst hsz
  have hD := hD0.self (sz := s.heap.size)
  generalize hAe : va_A (wC cI cZ ad u) s.heap.size = A at hD hZ ⊢
  have hA : ∀ q : Nat, s.heap.size ≤ q → A q := fun q h => by rw [← hAe]; exact Or.inr h
  have hS : va_S A s.heap s.heap [] := va_S.rf
  have hf15 := hts _ mw_228
  have hf18 := hts _ mw_229
  have hf21 := hts _ mw_230
  have hf24 := hts _ mw_231
  have hl := lv_entry ([.ref (ad 8), .int p0, .int p1, .int p2]) (n := 8) (Nat.le_of_ble_eq_true rfl)
  rw [lg_entry_eq]
  generalize (lg_sl ([.ref (ad 8), .int p0, .int p1, .int p2]) ++ List.replicate (8 - (lg_sl ([.ref (ad 8), .int p0, .int p1, .int p2])).length) Slot.unset).toArray = ls at hl ⊢
  replace hl : lv_has ls 8 [(0, .ref (ad 8)), (1, .int p0), (2, .int p1), (3, .int p2)] := hl
  refine w_gen (fun Q hQ => ?_)
  refine lv_aload_n hx hb dX0_doMeet_0 rfl (lv_at hl 0 rfl) ?_
  refine va_get (D := D) (ci := 0) (v := .ref (ad 30)) (C := RX0) (T := TX0) (N := 6) hx hb hts iX0 hown hK hP 8 rfl rfl 1 (by decide) hf15 (fun _ h9 => h9) rfl dX0_doMeet_1 ?_
  refine lv_iload_n hx hb dX0_doMeet_4 rfl (lv_at hl 1 rfl) ?_
  obtain ⟨b1, h⟩ := gx_in h
  refine va_iald (D := D) hx hb hK hP 30 0 rfl rfl b1 dX0_doMeet_5 ?_
  refine lv_aload_n hx hb dX0_doMeet_6 rfl (lv_at hl 0 rfl) ?_
  refine va_get (D := D) (ci := 0) (v := .ref (ad 30)) (C := RX0) (T := TX0) (N := 6) hx hb hts iX0 hown hK hP 8 rfl rfl 1 (by decide) hf15 (fun _ h9 => h9) rfl dX0_doMeet_7 ?_
  refine lv_iload_n hx hb dX0_doMeet_10 rfl (lv_at hl 2 rfl) ?_
  obtain ⟨b2, h⟩ := gx_in h
  refine va_iald (D := D) hx hb hK hP 30 0 rfl rfl b2 dX0_doMeet_11 ?_
  refine lv_aload_n hx hb dX0_doMeet_12 rfl (lv_at hl 0 rfl) ?_
  refine va_get (D := D) (ci := 0) (v := .ref (ad 30)) (C := RX0) (T := TX0) (N := 6) hx hb hts iX0 hown hK hP 8 rfl rfl 1 (by decide) hf15 (fun _ h9 => h9) rfl dX0_doMeet_13 ?_
  refine lv_iload_n hx hb dX0_doMeet_16 rfl (lv_at hl 3 rfl) ?_
  obtain ⟨b3, h⟩ := gx_in h
  refine va_iald (D := D) hx hb hK hP 30 0 rfl rfl b3 dX0_doMeet_17 ?_
  refine va_mmax hx hb (hml.trans hl.1.symm) hown (hts _ mw_800) (hts _ mw_801) (hts _ mw_58) (hts _ mw_802) (Nat.le_of_ble_eq_true rfl) (Nat.le_of_ble_eq_true rfl) (Nat.zero_le _) (Nat.zero_le _) dX0_doMeet_18 ?_
  refine va_mmax hx hb (hml.trans hl.1.symm) hown (hts _ mw_800) (hts _ mw_801) (hts _ mw_58) (hts _ mw_802) (Nat.le_of_ble_eq_true rfl) (Nat.le_of_ble_eq_true rfl) (Nat.zero_le _) (Nat.zero_le _) dX0_doMeet_21 ?_
  obtain ⟨v4, ev4, h⟩ := gx_let h
  refine lv_topn ev4 ?_
  refine lv_istore (lv' := [(4, .int v4), (0, .ref (ad 8)), (1, .int p0), (2, .int p1), (3, .int p2)]) hx hb dX0_doMeet_24 hl (by decide) rfl (fun ls hl => ?_)
  refine lv_aload_n hx hb dX0_doMeet_26 rfl (lv_at hl 1 rfl) ?_
  refine va_get (D := D) (ci := 0) (v := .ref (ad 31)) (C := RX0) (T := TX0) (N := 6) hx hb hts iX0 hown hK hP 8 rfl rfl 2 (by decide) hf18 (fun _ h9 => h9) rfl dX0_doMeet_27 ?_
  refine lv_iload_n hx hb dX0_doMeet_30 rfl (lv_at hl 2 rfl) ?_
  obtain ⟨b5, h⟩ := gx_in h
  refine va_iald (D := D) hx hb hK hP 31 0 rfl rfl b5 dX0_doMeet_31 ?_
  refine lv_aload_n hx hb dX0_doMeet_32 rfl (lv_at hl 1 rfl) ?_
  refine va_get (D := D) (ci := 0) (v := .ref (ad 31)) (C := RX0) (T := TX0) (N := 6) hx hb hts iX0 hown hK hP 8 rfl rfl 2 (by decide) hf18 (fun _ h9 => h9) rfl dX0_doMeet_33 ?_
  refine lv_iload_n hx hb dX0_doMeet_36 rfl (lv_at hl 3 rfl) ?_
  obtain ⟨b6, h⟩ := gx_in h
  refine va_iald (D := D) hx hb hK hP 31 0 rfl rfl b6 dX0_doMeet_37 ?_
  refine lv_aload_n hx hb dX0_doMeet_38 rfl (lv_at hl 1 rfl) ?_
  refine va_get (D := D) (ci := 0) (v := .ref (ad 31)) (C := RX0) (T := TX0) (N := 6) hx hb hts iX0 hown hK hP 8 rfl rfl 2 (by decide) hf18 (fun _ h9 => h9) rfl dX0_doMeet_39 ?_
  refine lv_iload_n hx hb dX0_doMeet_42 rfl (lv_at hl 4 rfl) ?_
  obtain ⟨b7, h⟩ := gx_in h
  refine va_iald (D := D) hx hb hK hP 31 0 rfl rfl b7 dX0_doMeet_43 ?_
  refine va_mmin hx hb (hml.trans hl.1.symm) hown (hts _ mw_803) (hts _ mw_538) (hts _ mw_58) (hts _ mw_539) (Nat.le_of_ble_eq_true rfl) (Nat.le_of_ble_eq_true rfl) (Nat.zero_le _) (Nat.zero_le _) dX0_doMeet_44 ?_
  refine va_mmin hx hb (hml.trans hl.1.symm) hown (hts _ mw_803) (hts _ mw_538) (hts _ mw_58) (hts _ mw_539) (Nat.le_of_ble_eq_true rfl) (Nat.le_of_ble_eq_true rfl) (Nat.zero_le _) (Nat.zero_le _) dX0_doMeet_47 ?_
  obtain ⟨v8, ev8, h⟩ := gx_let h
  refine lv_topn ev8 ?_
  refine lv_istore (lv' := [(5, .int v8), (4, .int v4), (0, .ref (ad 8)), (1, .int p0), (2, .int p1), (3, .int p2)]) hx hb dX0_doMeet_50 hl (by decide) rfl (fun ls hl => ?_)
  refine lv_aload_n hx hb dX0_doMeet_52 rfl (lv_at hl 2 rfl) ?_
  refine va_get (D := D) (ci := 0) (v := .ref (ad 32)) (C := RX0) (T := TX0) (N := 6) hx hb hts iX0 hown hK hP 8 rfl rfl 3 (by decide) hf21 (fun _ h9 => h9) rfl dX0_doMeet_53 ?_
  refine lv_iload_n hx hb dX0_doMeet_56 rfl (lv_at hl 3 rfl) ?_
  obtain ⟨b9, h⟩ := gx_in h
  refine va_iald (D := D) hx hb hK hP 32 0 rfl rfl b9 dX0_doMeet_57 ?_
  refine lv_aload_n hx hb dX0_doMeet_58 rfl (lv_at hl 2 rfl) ?_
  refine va_get (D := D) (ci := 0) (v := .ref (ad 32)) (C := RX0) (T := TX0) (N := 6) hx hb hts iX0 hown hK hP 8 rfl rfl 3 (by decide) hf21 (fun _ h9 => h9) rfl dX0_doMeet_59 ?_
  refine lv_iload_n hx hb dX0_doMeet_62 rfl (lv_at hl 4 rfl) ?_
  obtain ⟨b10, h⟩ := gx_in h
  refine va_iald (D := D) hx hb hK hP 32 0 rfl rfl b10 dX0_doMeet_63 ?_
  refine lv_aload_n hx hb dX0_doMeet_64 rfl (lv_at hl 2 rfl) ?_
  refine va_get (D := D) (ci := 0) (v := .ref (ad 32)) (C := RX0) (T := TX0) (N := 6) hx hb hts iX0 hown hK hP 8 rfl rfl 3 (by decide) hf21 (fun _ h9 => h9) rfl dX0_doMeet_65 ?_
  refine lv_iload_n hx hb dX0_doMeet_68 rfl (lv_at hl 5 rfl) ?_
  obtain ⟨b11, h⟩ := gx_in h
  refine va_iald (D := D) hx hb hK hP 32 0 rfl rfl b11 dX0_doMeet_69 ?_
  refine va_mmax hx hb (hml.trans hl.1.symm) hown (hts _ mw_800) (hts _ mw_801) (hts _ mw_58) (hts _ mw_802) (Nat.le_of_ble_eq_true rfl) (Nat.le_of_ble_eq_true rfl) (Nat.zero_le _) (Nat.zero_le _) dX0_doMeet_70 ?_
  refine va_mmax hx hb (hml.trans hl.1.symm) hown (hts _ mw_800) (hts _ mw_801) (hts _ mw_58) (hts _ mw_802) (Nat.le_of_ble_eq_true rfl) (Nat.le_of_ble_eq_true rfl) (Nat.zero_le _) (Nat.zero_le _) dX0_doMeet_73 ?_
  obtain ⟨v12, ev12, h⟩ := gx_let h
  refine lv_topn ev12 ?_
  refine lv_istore (lv' := [(6, .int v12), (5, .int v8), (4, .int v4), (0, .ref (ad 8)), (1, .int p0), (2, .int p1), (3, .int p2)]) hx hb dX0_doMeet_76 hl (by decide) rfl (fun ls hl => ?_)
  refine lv_aload_n hx hb dX0_doMeet_78 rfl (lv_at hl 3 rfl) ?_
  refine va_get (D := D) (ci := 0) (v := .ref (ad 33)) (C := RX0) (T := TX0) (N := 6) hx hb hts iX0 hown hK hP 8 rfl rfl 4 (by decide) hf24 (fun _ h9 => h9) rfl dX0_doMeet_79 ?_
  refine lv_iload_n hx hb dX0_doMeet_82 rfl (lv_at hl 4 rfl) ?_
  obtain ⟨b13, h⟩ := gx_in h
  refine va_iald (D := D) hx hb hK hP 33 0 rfl rfl b13 dX0_doMeet_83 ?_
  refine lv_aload_n hx hb dX0_doMeet_84 rfl (lv_at hl 3 rfl) ?_
  refine va_get (D := D) (ci := 0) (v := .ref (ad 33)) (C := RX0) (T := TX0) (N := 6) hx hb hts iX0 hown hK hP 8 rfl rfl 4 (by decide) hf24 (fun _ h9 => h9) rfl dX0_doMeet_85 ?_
  refine lv_iload_n hx hb dX0_doMeet_88 rfl (lv_at hl 5 rfl) ?_
  obtain ⟨b14, h⟩ := gx_in h
  refine va_iald (D := D) hx hb hK hP 33 0 rfl rfl b14 dX0_doMeet_89 ?_
  refine lv_aload_n hx hb dX0_doMeet_90 rfl (lv_at hl 3 rfl) ?_
  refine va_get (D := D) (ci := 0) (v := .ref (ad 33)) (C := RX0) (T := TX0) (N := 6) hx hb hts iX0 hown hK hP 8 rfl rfl 4 (by decide) hf24 (fun _ h9 => h9) rfl dX0_doMeet_91 ?_
  refine lv_iload_n hx hb dX0_doMeet_94 rfl (lv_at hl 6 rfl) ?_
  obtain ⟨b15, h⟩ := gx_in h
  refine va_iald (D := D) hx hb hK hP 33 0 rfl rfl b15 dX0_doMeet_95 ?_
  refine va_mmin hx hb (hml.trans hl.1.symm) hown (hts _ mw_803) (hts _ mw_538) (hts _ mw_58) (hts _ mw_539) (Nat.le_of_ble_eq_true rfl) (Nat.le_of_ble_eq_true rfl) (Nat.zero_le _) (Nat.zero_le _) dX0_doMeet_96 ?_
  refine va_mmin hx hb (hml.trans hl.1.symm) hown (hts _ mw_803) (hts _ mw_538) (hts _ mw_58) (hts _ mw_539) (Nat.le_of_ble_eq_true rfl) (Nat.le_of_ble_eq_true rfl) (Nat.zero_le _) (Nat.zero_le _) dX0_doMeet_99 ?_
  obtain ⟨v16, ev16, h⟩ := gx_let h
  refine lv_topn ev16 ?_
  refine lv_istore (lv' := [(7, .int v16), (6, .int v12), (5, .int v8), (4, .int v4), (0, .ref (ad 8)), (1, .int p0), (2, .int p1), (3, .int p2)]) hx hb dX0_doMeet_102 hl (by decide) rfl (fun ls hl => ?_)
  refine lv_iload hx hb dX0_doMeet_104 (lv_at hl 3 rfl) ?_
  refine lv_iload hx hb dX0_doMeet_106 (lv_at hl 2 rfl) ?_
  refine lv_icmp_gt (tgt := 122) hx hb dX0_doMeet_108 (by decide) (fun c17 => ?_) (fun c17 => ?_)
  · replace h := gx_t c17 h
    refine lv_iconst (v := 0) hx hb dX0_doMeet_122 (by decide) ?_
    cases h
    exact cc_ret hx hb hr rfl hQ hK hP hD hS rfl dX0_doMeet_123 hlocks
  · replace h := gx_f c17 h
    refine lv_iload hx hb dX0_doMeet_111 (lv_at hl 1 rfl) ?_
    refine lv_iload hx hb dX0_doMeet_113 (lv_at hl 0 rfl) ?_
    refine lv_icmp_ge (tgt := 122) hx hb dX0_doMeet_115 (by decide) (fun c18 => ?_) (fun c18 => ?_)
    · replace h := gx_t c18 h
      refine lv_iconst (v := 0) hx hb dX0_doMeet_122 (by decide) ?_
      cases h
      exact cc_ret hx hb hr rfl hQ hK hP hD hS rfl dX0_doMeet_123 hlocks
    · replace h := gx_f c18 h
      refine lv_iconst (v := 1) hx hb dX0_doMeet_118 (by decide) ?_
      refine lv_goto (tgt := 123) hx hb dX0_doMeet_119 (by decide) ?_
      cases h
      exact cc_ret hx hb hr rfl hQ hK hP hD hS rfl dX0_doMeet_123 hlocks

def rX0_nextTakesLastLane : Room := { frames := 2, cells := 0, slots := 0, locals := 48 }
set_option maxHeartbeats 4000000 in
set_option maxRecDepth 100000 in
theorem k_X0_nextTakesLastLane (l : Launch) (D : va_G) (cI cZ : ClassId) (ad : Nat → Nat) (u : GS) {r : Int32} (h : g_X0_nextTakesLastLane u = some r) : MI l yX0_nextTakesLastLane (wm yX0_nextTakesLastLane cX0_nextTakesLastLane 3 (some .boolean)) rX0_nextTakesLastLane D [(cI, .int), (cZ, .boolean)] (wC cI cZ ad u) (wC cI cZ ad u) [.ref (ad 8)] r := by
  intro sz
  refine Met.ofW (cc := cX0_nextTakesLastLane) (maxL := 3) (ret := (some .boolean)) (by decide) rfl ?_
  intro p e s m args below meth c s₁ B hml hv
  obtain ⟨rfl, hsz, hP, hK, hD0, hZ⟩ := hv
  have hx := B.exec
  have hb := B.bytes
  have hr := B.returns
  have hts : ∀ w ∈ Wall, w.before _ s = true := fun w hw => atoms_spec (ws := wm yX0_nextTakesLastLane cX0_nextTakesLastLane 3 (some .boolean)) B.pre w (List.mem_cons_of_mem _ hw)
  have hown : s.vm.findClass RX0 = some m.cls := findClass_of_methodNamed B.named
  have hlocks := B.notSynchronized
  subst hsz
  have hD := hD0.self (sz := s.heap.size)
  generalize hAe : va_A (wC cI cZ ad u) s.heap.size = A at hD hZ ⊢
  have hA : ∀ q : Nat, s.heap.size ≤ q → A q := fun q h => by rw [← hAe]; exact Or.inr h
  have hS : va_S A s.heap s.heap [] := va_S.rf
  have hf27 := hts _ mw_232
  have hl := lv_entry ([.ref (ad 8)]) (n := 3) (Nat.le_of_ble_eq_true rfl)
  rw [lg_entry_eq]
  generalize (lg_sl ([.ref (ad 8)]) ++ List.replicate (3 - (lg_sl ([.ref (ad 8)])).length) Slot.unset).toArray = ls at hl ⊢
  replace hl : lv_has ls 3 [(0, .ref (ad 8))] := hl
  refine w_gen (fun Q hQ => ?_)
  refine lv_aload_n hx hb dX0_nextTakesLastLane_0 rfl (lv_at hl 0 rfl) ?_
  refine va_get (D := D) (ci := 0) (v := .int (cB_count u)) (C := RX0) (T := TX0) (N := 6) hx hb hts iX0 hown hK hP 8 rfl rfl 5 (by decide) hf27 (fun _ h9 => h9) rfl dX0_nextTakesLastLane_1 ?_
  refine lv_iconst (v := 0) hx hb dX0_nextTakesLastLane_4 (by decide) ?_
  refine lv_bipush (v := 7) hx hb dX0_nextTakesLastLane_5 (by decide) ?_
  obtain ⟨y1, hc2, h⟩ := gx_bind h
  refine cc_iSN (As := [.int (cB_count u), .int (0 : Int32), .int (7 : Int32)]) (rest := []) ⟨hx, hb, hml, hown, hts⟩ (k_X9_isWithin l D cI cZ ad u (cB_count u) (0 : Int32) (7 : Int32) hc2) ⟨va_cnB 3 hts (gwM mw_274) rfl rfl rfl (hZ.1 ("RedcrossGantry$Bookings", 31, yX9_isWithin) (by decide +kernel)) (hts _ mw_48) (by decide +kernel) ⟨Nat.le_of_ble_eq_true rfl, Nat.le_of_ble_eq_true rfl⟩, hts _ mw_273, trivial⟩ hK hP hD hS hA hZ rfl hl.1 rfl (Nat.le_of_ble_eq_true rfl) dX0_nextTakesLastLane_7 ⟨Nat.zero_le _, Nat.zero_le _⟩ (fun H locs hP hD hS => ?_)
  refine lv_if_ne (tgt := 15) hx hb dX0_nextTakesLastLane_10 (by decide) (fun c3 => ?_) (fun c3 => ?_)
  · replace h := gx_f c3 h
    refine lv_iconst (v := 0) hx hb dX0_nextTakesLastLane_15 (by decide) ?_
    refine lv_istore_n (lv' := [(1, .int (0 : Int32)), (0, .ref (ad 8))]) hx hb dX0_nextTakesLastLane_16 rfl hl (by decide) rfl (fun ls hl => ?_)
    have hL17 : ∀ (k : Unit → Option (Int32)) (hk : ∀ (H : Heap) (locs : List Loc) (ls : Array Slot), k () = some r → va_P D vwCl (wC cI cZ ad u) H → va_D A (wC cI cZ ad u) → va_S A s.heap H locs → lv_has ls 3 [] → W p l e rX0_nextTakesLastLane s m ([.ref (ad 8)] : List Value).toArray below meth c H locs 0 0 Q (F0 m 72 ls [])) (n : Nat) (x1_17 : Int32) (H : Heap) (locs : List Loc) (ls : Array Slot), lp_X0_nextTakesLastLane_17 u k n x1_17 = some r → va_P D vwCl (wC cI cZ ad u) H → va_D A (wC cI cZ ad u) → va_S A s.heap H locs → lv_has ls 3 [(0, .ref (ad 8)), (1, .int x1_17)] → W p l e rX0_nextTakesLastLane s m ([.ref (ad 8)] : List Value).toArray below meth c H locs 0 0 Q (F0 m 17 ls []) := by
      intro k hk n
      induction n with
      | zero =>
        intro x1_17 H locs ls h
        rw [lp_X0_nextTakesLastLane_17] at h
        cases h
      | succ n ih =>
        intro x1_17 H locs ls h hP hD hS hl
        rw [lp_X0_nextTakesLastLane_17] at h
        refine lv_iload_n hx hb dX0_nextTakesLastLane_17 rfl (lv_at hl 1 rfl) ?_
        refine lv_aload_n hx hb dX0_nextTakesLastLane_18 rfl (lv_at hl 0 rfl) ?_
        refine va_get (D := D) (ci := 0) (v := .int (cB_count u)) (C := RX0) (T := TX0) (N := 6) hx hb hts iX0 hown hK hP 8 rfl rfl 5 (by decide) hf27 (fun _ h9 => h9) rfl dX0_nextTakesLastLane_19 ?_
        refine lv_icmp_ge (tgt := 72) hx hb dX0_nextTakesLastLane_22 (by decide) (fun c4 => ?_) (fun c4 => ?_)
        · replace h := gx_t c4 h
          exact hk _ _ _ h hP hD hS (lv_sub hl [] rfl)
        · replace h := gx_f c4 h
          refine lv_iconst (v := 0) hx hb dX0_nextTakesLastLane_25 (by decide) ?_
          refine lv_istore_n (lv' := [(2, .int (0 : Int32)), (0, .ref (ad 8)), (1, .int x1_17)]) hx hb dX0_nextTakesLastLane_26 rfl hl (by decide) rfl (fun ls hl => ?_)
          have hL27 : ∀ (k : Unit → Option (Int32)) (hk : ∀ (H : Heap) (locs : List Loc) (ls : Array Slot), k () = some r → va_P D vwCl (wC cI cZ ad u) H → va_D A (wC cI cZ ad u) → va_S A s.heap H locs → lv_has ls 3 [(0, .ref (ad 8)), (1, .int x1_17)] → W p l e rX0_nextTakesLastLane s m ([.ref (ad 8)] : List Value).toArray below meth c H locs 0 0 Q (F0 m 66 ls [])) (n : Nat) (x2_27 : Int32) (H : Heap) (locs : List Loc) (ls : Array Slot), lp_X0_nextTakesLastLane_27 u x1_17 k n x2_27 = some r → va_P D vwCl (wC cI cZ ad u) H → va_D A (wC cI cZ ad u) → va_S A s.heap H locs → lv_has ls 3 [(0, .ref (ad 8)), (1, .int x1_17), (2, .int x2_27)] → W p l e rX0_nextTakesLastLane s m ([.ref (ad 8)] : List Value).toArray below meth c H locs 0 0 Q (F0 m 27 ls []) := by
            intro k hk n
            induction n with
            | zero =>
              intro x2_27 H locs ls h
              rw [lp_X0_nextTakesLastLane_27] at h
              cases h
            | succ n ih =>
              intro x2_27 H locs ls h hP hD hS hl
              rw [lp_X0_nextTakesLastLane_27] at h
              refine lv_iload_n hx hb dX0_nextTakesLastLane_27 rfl (lv_at hl 2 rfl) ?_
              refine lv_iload_n hx hb dX0_nextTakesLastLane_28 rfl (lv_at hl 1 rfl) ?_
              refine lv_icmp_ge (tgt := 66) hx hb dX0_nextTakesLastLane_29 (by decide) (fun c5 => ?_) (fun c5 => ?_)
              · replace h := gx_t c5 h
                exact hk _ _ _ h hP hD hS (lv_sub hl [0, 1] rfl)
              · replace h := gx_f c5 h
                refine lv_aload_n hx hb dX0_nextTakesLastLane_32 rfl (lv_at hl 0 rfl) ?_
                refine lv_iload_n hx hb dX0_nextTakesLastLane_33 rfl (lv_at hl 1 rfl) ?_
                refine lv_iload_n hx hb dX0_nextTakesLastLane_34 rfl (lv_at hl 2 rfl) ?_
                refine lv_aload_n hx hb dX0_nextTakesLastLane_35 rfl (lv_at hl 0 rfl) ?_
                refine va_get (D := D) (ci := 0) (v := .int (cB_count u)) (C := RX0) (T := TX0) (N := 6) hx hb hts iX0 hown hK hP 8 rfl rfl 5 (by decide) hf27 (fun _ h9 => h9) rfl dX0_nextTakesLastLane_36 ?_
                obtain ⟨y6, hc7, h⟩ := gx_bind h
                refine cc_iV (As := [.int x1_17, .int x2_27, .int (cB_count u)]) (rest := []) ⟨hx, hb, hml, hown, hts⟩ (k_X0_areInThreeLanes l D cI cZ ad u x1_17 x2_27 (cB_count u) hc7) (cwV 3 hts (gwV mw_792 mw_794 mw_16 mw_56 mw_795) rfl rfl rfl (by decide +kernel) ⟨Nat.le_of_ble_eq_true rfl, Nat.le_of_ble_eq_true rfl⟩) hK hP hD hS hA hZ (ci := 0) (q0 := 8) rfl rfl rfl hl.1 rfl (Nat.le_of_ble_eq_true rfl) dX0_nextTakesLastLane_39 ⟨Nat.zero_le _, Nat.zero_le _⟩ (fun H locs hP hD hS => ?_)
                obtain ⟨j60_8, ej60_8, h⟩ := gx_let h
                have hj60_8 : ∀ (H : Heap) (locs : List Loc) (ls : Array Slot), j60_8 () = some r → va_P D vwCl (wC cI cZ ad u) H → va_D A (wC cI cZ ad u) → va_S A s.heap H locs → lv_has ls 3 [(0, .ref (ad 8)), (1, .int x1_17), (2, .int x2_27)] → W p l e rX0_nextTakesLastLane s m ([.ref (ad 8)] : List Value).toArray below meth c H locs 0 0 Q (F0 m 60 ls []) := by
                  intro  H locs ls h hP hD hS hl
                  subst ej60_8
                  obtain ⟨v9, ev9, h⟩ := gx_let h
                  refine lv_iinc (v := v9) (lv' := [(2, .int v9), (0, .ref (ad 8)), (1, .int x1_17)]) hx hb dX0_nextTakesLastLane_60 hl (k := 2) rfl (by rw [← ev9]; rfl) (by decide) rfl (fun ls hl => ?_)
                  refine lv_goto (tgt := 27) hx hb dX0_nextTakesLastLane_63 (by decide) ?_
                  exact ih v9 _ _ _ h hP hD hS (lv_sub hl [1, 2, 0] rfl)
                refine lv_if_eq (tgt := 60) hx hb dX0_nextTakesLastLane_42 (by decide) (fun c10 => ?_) (fun c10 => ?_)
                · replace h := gx_t c10 h
                  exact hj60_8 _ _ _ h hP hD hS (lv_sub hl [0, 1, 2] rfl)
                · replace h := gx_f c10 h
                  refine lv_aload_n hx hb dX0_nextTakesLastLane_45 rfl (lv_at hl 0 rfl) ?_
                  refine lv_iload_n hx hb dX0_nextTakesLastLane_46 rfl (lv_at hl 1 rfl) ?_
                  refine lv_iload_n hx hb dX0_nextTakesLastLane_47 rfl (lv_at hl 2 rfl) ?_
                  refine lv_aload_n hx hb dX0_nextTakesLastLane_48 rfl (lv_at hl 0 rfl) ?_
                  refine va_get (D := D) (ci := 0) (v := .int (cB_count u)) (C := RX0) (T := TX0) (N := 6) hx hb hts iX0 hown hK hP 8 rfl rfl 5 (by decide) hf27 (fun _ h9 => h9) rfl dX0_nextTakesLastLane_49 ?_
                  obtain ⟨y11, hc12, h⟩ := gx_bind h
                  refine cc_iV (As := [.int x1_17, .int x2_27, .int (cB_count u)]) (rest := []) ⟨hx, hb, hml, hown, hts⟩ (k_X0_doMeet l D cI cZ ad u x1_17 x2_27 (cB_count u) hc12) (cwV 3 hts (gwV mw_796 mw_798 mw_17 mw_56 mw_799) rfl rfl rfl (by decide +kernel) ⟨Nat.le_of_ble_eq_true rfl, Nat.le_of_ble_eq_true rfl⟩) hK hP hD hS hA hZ (ci := 0) (q0 := 8) rfl rfl rfl hl.1 rfl (Nat.le_of_ble_eq_true rfl) dX0_nextTakesLastLane_52 ⟨Nat.zero_le _, Nat.zero_le _⟩ (fun H locs hP hD hS => ?_)
                  refine lv_if_eq (tgt := 60) hx hb dX0_nextTakesLastLane_55 (by decide) (fun c13 => ?_) (fun c13 => ?_)
                  · replace h := gx_t c13 h
                    exact hj60_8 _ _ _ h hP hD hS (lv_sub hl [0, 1, 2] rfl)
                  · replace h := gx_f c13 h
                    refine lv_iconst (v := 1) hx hb dX0_nextTakesLastLane_58 (by decide) ?_
                    cases h
                    exact cc_ret hx hb hr rfl hQ hK hP hD hS rfl dX0_nextTakesLastLane_59 hlocks
          refine hL27 _ (fun H locs ls h hP hD hS hl => ?_) FU (0 : Int32) _ _ _ h hP hD hS (lv_sub hl [1, 2, 0] rfl)
          obtain ⟨v14, ev14, h⟩ := gx_let h
          refine lv_iinc (v := v14) (lv' := [(1, .int v14), (0, .ref (ad 8))]) hx hb dX0_nextTakesLastLane_66 hl (k := 1) rfl (by rw [← ev14]; rfl) (by decide) rfl (fun ls hl => ?_)
          refine lv_goto (tgt := 17) hx hb dX0_nextTakesLastLane_69 (by decide) ?_
          exact ih v14 _ _ _ h hP hD hS (lv_sub hl [1, 0] rfl)
    refine hL17 _ (fun H locs ls h hP hD hS hl => ?_) FU (0 : Int32) _ _ _ h hP hD hS (lv_sub hl [1, 0] rfl)
    refine lv_iconst (v := 0) hx hb dX0_nextTakesLastLane_72 (by decide) ?_
    cases h
    exact cc_ret hx hb hr rfl hQ hK hP hD hS rfl dX0_nextTakesLastLane_73 hlocks
  · replace h := gx_t c3 h
    refine lv_iconst (v := 0) hx hb dX0_nextTakesLastLane_13 (by decide) ?_
    cases h
    exact cc_ret hx hb hr rfl hQ hK hP hD hS rfl dX0_nextTakesLastLane_14 hlocks

def rX9_placeOf : Room := { frames := 0, cells := 0, slots := 0, locals := 0 }
set_option maxHeartbeats 4000000 in
set_option maxRecDepth 100000 in
theorem k_X9_placeOf (l : Launch) (D : va_G) (cI cZ : ClassId) (ad : Nat → Nat) (u : GS) (p0 : Int32) (p1 : Int32) {r : Int32} (h : g_X9_placeOf p0 p1 = some r) : MI l yX9_placeOf (wm yX9_placeOf cX9_placeOf 2 (some .int)) rX9_placeOf D [(cI, .int), (cZ, .boolean)] (wC cI cZ ad u) (wC cI cZ ad u) [.int p0, .int p1] r := by
  intro sz
  refine Met.ofW (cc := cX9_placeOf) (maxL := 2) (ret := (some .int)) (by decide) rfl ?_
  intro p e s m args below meth c s₁ B hml hv
  obtain ⟨rfl, hsz, hP, hK, hD0, hZ⟩ := hv
  have hx := B.exec
  have hb := B.bytes
  have hr := B.returns
  have hts : ∀ w ∈ Wall, w.before _ s = true := fun w hw => atoms_spec (ws := wm yX9_placeOf cX9_placeOf 2 (some .int)) B.pre w (List.mem_cons_of_mem _ hw)
  have hown : s.vm.findClass RX9 = some m.cls := findClass_of_methodNamed B.named
  have hlocks := B.notSynchronized
  subst hsz
  have hD := hD0.self (sz := s.heap.size)
  generalize hAe : va_A (wC cI cZ ad u) s.heap.size = A at hD hZ ⊢
  have hA : ∀ q : Nat, s.heap.size ≤ q → A q := fun q h => by rw [← hAe]; exact Or.inr h
  have hS : va_S A s.heap s.heap [] := va_S.rf
  have hl := lv_entry ([.int p0, .int p1]) (n := 2) (Nat.le_of_ble_eq_true rfl)
  rw [lg_entry_eq]
  generalize (lg_sl ([.int p0, .int p1]) ++ List.replicate (2 - (lg_sl ([.int p0, .int p1])).length) Slot.unset).toArray = ls at hl ⊢
  replace hl : lv_has ls 2 [(0, .int p0), (1, .int p1)] := hl
  refine w_gen (fun Q hQ => ?_)
  refine lv_iload_n hx hb dX9_placeOf_0 rfl (lv_at hl 0 rfl) ?_
  refine lv_iconst (v := 4) hx hb dX9_placeOf_1 (by decide) ?_
  refine lv_imul hx hb dX9_placeOf_2 ?_
  refine lv_iload_n hx hb dX9_placeOf_3 rfl (lv_at hl 1 rfl) ?_
  refine lv_iadd hx hb dX9_placeOf_4 ?_
  cases h
  exact cc_ret hx hb hr rfl hQ hK hP hD hS rfl dX9_placeOf_5 hlocks

def rX0_tellCrossesOf : Room := { frames := 1, cells := 0, slots := 0, locals := 22 }
set_option maxHeartbeats 4000000 in
set_option maxRecDepth 100000 in
theorem k_X0_tellCrossesOf (l : Launch) (D : va_G) (cI cZ : ClassId) (ad : Nat → Nat) (u : GS) (p0 : Int32) {w' : GS} (h : g_X0_tellCrossesOf u p0 = some w') : MV l yX0_tellCrossesOf (wm yX0_tellCrossesOf cX0_tellCrossesOf 5 none) rX0_tellCrossesOf D [(cI, .int), (cZ, .boolean)] (wC cI cZ ad u) (wC cI cZ ad w') [.ref (ad 8), .int p0, .ref (ad 19)] := by
  intro sz
  refine Met.ofW (cc := cX0_tellCrossesOf) (maxL := 5) (ret := none) (by decide) rfl ?_
  intro p e s m args below meth c s₁ B hml hv
  obtain ⟨rfl, hsz, hP, hK, hD0, hZ⟩ := hv
  have hx := B.exec
  have hb := B.bytes
  have hr := B.returns
  have hts : ∀ w ∈ Wall, w.before _ s = true := fun w hw => atoms_spec (ws := wm yX0_tellCrossesOf cX0_tellCrossesOf 5 none) B.pre w (List.mem_cons_of_mem _ hw)
  have hown : s.vm.findClass RX0 = some m.cls := findClass_of_methodNamed B.named
  have hlocks := B.notSynchronized
  subst hsz
  have hD := hD0.self (sz := s.heap.size)
  generalize hAe : va_A (wC cI cZ ad u) s.heap.size = A at hD hZ ⊢
  have hA : ∀ q : Nat, s.heap.size ≤ q → A q := fun q h => by rw [← hAe]; exact Or.inr h
  have hS : va_S A s.heap s.heap [] := va_S.rf
  have hf11 := hts _ mw_227
  have hf15 := hts _ mw_228
  have hf18 := hts _ mw_229
  have hl := lv_entry ([.ref (ad 8), .int p0, .ref (ad 19)]) (n := 5) (Nat.le_of_ble_eq_true rfl)
  rw [lg_entry_eq]
  generalize (lg_sl ([.ref (ad 8), .int p0, .ref (ad 19)]) ++ List.replicate (5 - (lg_sl ([.ref (ad 8), .int p0, .ref (ad 19)])).length) Slot.unset).toArray = ls at hl ⊢
  replace hl : lv_has ls 5 [(0, .ref (ad 8)), (1, .int p0), (2, .ref (ad 19))] := hl
  refine w_gen (fun Q hQ => ?_)
  refine lv_iconst (v := 0) hx hb dX0_tellCrossesOf_0 (by decide) ?_
  refine lv_istore_n (lv' := [(3, .int (0 : Int32)), (0, .ref (ad 8)), (1, .int p0), (2, .ref (ad 19))]) hx hb dX0_tellCrossesOf_1 rfl hl (by decide) rfl (fun ls hl => ?_)
  have hL2 : ∀ (k : GS → Option (GS)) (hk : ∀ (w2 : GS) (H : Heap) (locs : List Loc) (ls : Array Slot), k w2 = some w' → va_P D vwCl (wC cI cZ ad w2) H → va_D A (wC cI cZ ad w2) → va_S A s.heap H locs → lv_has ls 5 [] → W p l e rX0_tellCrossesOf s m ([.ref (ad 8), .int p0, .ref (ad 19)] : List Value).toArray below meth c H locs 0 0 Q (F0 m 61 ls [])) (n : Nat) (x3_2 : Int32) (w2 : GS) (H : Heap) (locs : List Loc) (ls : Array Slot), lp_X0_tellCrossesOf_2 p0 k n x3_2 w2 = some w' → va_P D vwCl (wC cI cZ ad w2) H → va_D A (wC cI cZ ad w2) → va_S A s.heap H locs → lv_has ls 5 [(0, .ref (ad 8)), (1, .int p0), (2, .ref (ad 19)), (3, .int x3_2)] → W p l e rX0_tellCrossesOf s m ([.ref (ad 8), .int p0, .ref (ad 19)] : List Value).toArray below meth c H locs 0 0 Q (F0 m 2 ls []) := by
    intro k hk n
    induction n with
    | zero =>
      intro x3_2 w2 H locs ls h
      rw [lp_X0_tellCrossesOf_2] at h
      cases h
    | succ n ih =>
      intro x3_2 w2 H locs ls h hP hD hS hl
      rw [lp_X0_tellCrossesOf_2] at h
      refine lv_iload_n hx hb dX0_tellCrossesOf_2 rfl (lv_at hl 3 rfl) ?_
      refine lv_bipush (v := 12) hx hb dX0_tellCrossesOf_3 (by decide) ?_
      refine lv_icmp_ge (tgt := 61) hx hb dX0_tellCrossesOf_5 (by decide) (fun c1 => ?_) (fun c1 => ?_)
      · replace h := gx_t c1 h
        exact hk w2 _ _ _ h hP hD hS (lv_sub hl [] rfl)
      · replace h := gx_f c1 h
        refine lv_iload_n hx hb dX0_tellCrossesOf_8 rfl (lv_at hl 3 rfl) ?_
        refine lv_aload_n hx hb dX0_tellCrossesOf_9 rfl (lv_at hl 0 rfl) ?_
        refine va_get (D := D) (ci := 0) (v := .ref (ad 29)) (C := RX0) (T := TX0) (N := 6) hx hb hts iX0 hown hK hP 8 rfl rfl 0 (by decide) hf11 (fun _ h9 => h9) rfl dX0_tellCrossesOf_10 ?_
        refine lv_iload_n hx hb dX0_tellCrossesOf_13 rfl (lv_at hl 1 rfl) ?_
        obtain ⟨b2, h⟩ := gx_in h
        refine va_iald (D := D) hx hb hK hP 29 0 rfl rfl b2 dX0_tellCrossesOf_14 ?_
        obtain ⟨y3, hc4, h⟩ := gx_bind h
        refine cc_iSN (As := [.int x3_2, .int (cB_lanes w2 p0.toNatClampNeg)]) (rest := []) ⟨hx, hb, hml, hown, hts⟩ (k_X9_placeOf l D cI cZ ad w2 x3_2 (cB_lanes w2 p0.toNatClampNeg) hc4) ⟨va_cnB 2 hts (gwM mw_267) rfl rfl rfl (hZ.1 ("RedcrossGantry$Bookings", 49, yX9_placeOf) (by decide +kernel)) (hts _ mw_48) (by decide +kernel) ⟨Nat.le_of_ble_eq_true rfl, Nat.le_of_ble_eq_true rfl⟩, hts _ mw_266, trivial⟩ hK hP hD hS hA hZ rfl hl.1 rfl (Nat.le_of_ble_eq_true rfl) dX0_tellCrossesOf_15 ⟨Nat.zero_le _, Nat.zero_le _⟩ (fun H locs hP hD hS => ?_)
        refine lv_istore (lv' := [(4, .int y3), (0, .ref (ad 8)), (1, .int p0), (2, .ref (ad 19)), (3, .int x3_2)]) hx hb dX0_tellCrossesOf_18 hl (by decide) rfl (fun ls hl => ?_)
        refine lv_iload_n hx hb dX0_tellCrossesOf_20 rfl (lv_at hl 4 rfl) ?_
        refine lv_aload_n hx hb dX0_tellCrossesOf_21 rfl (lv_at hl 1 rfl) ?_
        refine va_get (D := D) (ci := 0) (v := .ref (ad 30)) (C := RX0) (T := TX0) (N := 6) hx hb hts iX0 hown hK hP 8 rfl rfl 1 (by decide) hf15 (fun _ h9 => h9) rfl dX0_tellCrossesOf_22 ?_
        refine lv_iload_n hx hb dX0_tellCrossesOf_25 rfl (lv_at hl 2 rfl) ?_
        obtain ⟨b5, h⟩ := gx_in h
        refine va_iald (D := D) hx hb hK hP 30 0 rfl rfl b5 dX0_tellCrossesOf_26 ?_
        refine lv_aload_n hx hb dX0_tellCrossesOf_27 rfl (lv_at hl 1 rfl) ?_
        refine va_get (D := D) (ci := 0) (v := .ref (ad 31)) (C := RX0) (T := TX0) (N := 6) hx hb hts iX0 hown hK hP 8 rfl rfl 2 (by decide) hf18 (fun _ h9 => h9) rfl dX0_tellCrossesOf_28 ?_
        refine lv_iload_n hx hb dX0_tellCrossesOf_31 rfl (lv_at hl 2 rfl) ?_
        obtain ⟨b6, h⟩ := gx_in h
        refine va_iald (D := D) hx hb hK hP 31 0 rfl rfl b6 dX0_tellCrossesOf_32 ?_
        obtain ⟨y7, hc8, h⟩ := gx_bind h
        refine cc_iSN (As := [.int x3_2, .int (cB_froms w2 p0.toNatClampNeg), .int (cB_tos w2 p0.toNatClampNeg)]) (rest := []) ⟨hx, hb, hml, hown, hts⟩ (k_X9_isWithin l D cI cZ ad w2 x3_2 (cB_froms w2 p0.toNatClampNeg) (cB_tos w2 p0.toNatClampNeg) hc8) ⟨va_cnB 3 hts (gwM mw_274) rfl rfl rfl (hZ.1 ("RedcrossGantry$Bookings", 31, yX9_isWithin) (by decide +kernel)) (hts _ mw_48) (by decide +kernel) ⟨Nat.le_of_ble_eq_true rfl, Nat.le_of_ble_eq_true rfl⟩, hts _ mw_273, trivial⟩ hK hP hD hS hA hZ rfl hl.1 rfl (Nat.le_of_ble_eq_true rfl) dX0_tellCrossesOf_33 ⟨Nat.zero_le _, Nat.zero_le _⟩ (fun H locs hP hD hS => ?_)
        obtain ⟨j55_9, ej55_9, h⟩ := gx_let h
        have hj55_9 : ∀ (w55 : GS) (H : Heap) (locs : List Loc) (ls : Array Slot), j55_9 w55 = some w' → va_P D vwCl (wC cI cZ ad w55) H → va_D A (wC cI cZ ad w55) → va_S A s.heap H locs → lv_has ls 5 [(0, .ref (ad 8)), (1, .int p0), (2, .ref (ad 19)), (3, .int x3_2)] → W p l e rX0_tellCrossesOf s m ([.ref (ad 8), .int p0, .ref (ad 19)] : List Value).toArray below meth c H locs 0 0 Q (F0 m 55 ls []) := by
          intro w55 H locs ls h hP hD hS hl
          subst ej55_9
          obtain ⟨v10, ev10, h⟩ := gx_let h
          refine lv_iinc (v := v10) (lv' := [(3, .int v10), (0, .ref (ad 8)), (1, .int p0), (2, .ref (ad 19))]) hx hb dX0_tellCrossesOf_55 hl (k := 3) rfl (by rw [← ev10]; rfl) (by decide) rfl (fun ls hl => ?_)
          refine lv_goto (tgt := 2) hx hb dX0_tellCrossesOf_58 (by decide) ?_
          exact ih v10 w55 _ _ _ h hP hD hS (lv_sub hl [1, 2, 3, 0] rfl)
        refine lv_if_eq (tgt := 55) hx hb dX0_tellCrossesOf_36 (by decide) (fun c11 => ?_) (fun c11 => ?_)
        · replace h := gx_t c11 h
          exact hj55_9 w2 _ _ _ h hP hD hS (lv_sub hl [1, 2, 3, 4] rfl)
        · replace h := gx_f c11 h
          refine lv_iload hx hb dX0_tellCrossesOf_39 (lv_at hl 0 rfl) ?_
          refine lv_iconst (v := 0) hx hb dX0_tellCrossesOf_41 (by decide) ?_
          refine lv_bipush (v := 47) hx hb dX0_tellCrossesOf_42 (by decide) ?_
          obtain ⟨y12, hc13, h⟩ := gx_bind h
          refine cc_iSN (As := [.int y3, .int (0 : Int32), .int (47 : Int32)]) (rest := []) ⟨hx, hb, hml, hown, hts⟩ (k_X9_isWithin l D cI cZ ad w2 y3 (0 : Int32) (47 : Int32) hc13) ⟨va_cnB 3 hts (gwM mw_274) rfl rfl rfl (hZ.1 ("RedcrossGantry$Bookings", 31, yX9_isWithin) (by decide +kernel)) (hts _ mw_48) (by decide +kernel) ⟨Nat.le_of_ble_eq_true rfl, Nat.le_of_ble_eq_true rfl⟩, hts _ mw_273, trivial⟩ hK hP hD hS hA hZ rfl hl.1 rfl (Nat.le_of_ble_eq_true rfl) dX0_tellCrossesOf_44 ⟨Nat.zero_le _, Nat.zero_le _⟩ (fun H locs hP hD hS => ?_)
          refine lv_if_eq (tgt := 55) hx hb dX0_tellCrossesOf_47 (by decide) (fun c14 => ?_) (fun c14 => ?_)
          · replace h := gx_t c14 h
            exact hj55_9 w2 _ _ _ h hP hD hS (lv_sub hl [1, 2, 3, 4] rfl)
          · replace h := gx_f c14 h
            refine lv_aload_n hx hb dX0_tellCrossesOf_50 rfl (lv_at hl 3 rfl) ?_
            refine lv_iload hx hb dX0_tellCrossesOf_51 (lv_at hl 0 rfl) ?_
            refine lv_iconst (v := 2) hx hb dX0_tellCrossesOf_53 (by decide) ?_
            obtain ⟨b15, h⟩ := gx_in h
            refine va_iast (D := D) hx hb hK hP hD hS 19 0 rfl rfl b15 dX0_tellCrossesOf_54 (fun H locs hP hD hS => ?_)
            obtain ⟨u16, eu16, h⟩ := gx_let h
            replace hP : va_P D vwCl (wC cI cZ ad u16) H := by rw [← eu16]; exact hP
            replace hD : va_D A (wC cI cZ ad u16) := by rw [← eu16]; exact hD
            exact hj55_9 u16 _ _ _ h hP hD hS (lv_sub hl [1, 2, 3, 4] rfl)
  refine hL2 _ (fun w2 H locs ls h hP hD hS hl => ?_) FU (0 : Int32) u _ _ _ h hP hD hS (lv_sub hl [1, 2, 3, 0] rfl)
  cases h
  exact cc_vret hx hb hr hQ hK hP hD hS dX0_tellCrossesOf_61 hlocks

def rX0_tellCrosses : Room := { frames := 2, cells := 0, slots := 0, locals := 46 }
set_option maxHeartbeats 4000000 in
set_option maxRecDepth 100000 in
theorem k_X0_tellCrosses (l : Launch) (D : va_G) (cI cZ : ClassId) (ad : Nat → Nat) (u : GS) (p0 : Int32) {w' : GS} (h : g_X0_tellCrosses u p0 = some w') : MV l yX0_tellCrosses (wm yX0_tellCrosses cX0_tellCrosses 4 none) rX0_tellCrosses D [(cI, .int), (cZ, .boolean)] (wC cI cZ ad u) (wC cI cZ ad w') [.ref (ad 8), .ref (ad 19), .int p0] := by
  intro sz
  refine Met.ofW (cc := cX0_tellCrosses) (maxL := 4) (ret := none) (by decide) rfl ?_
  intro p e s m args below meth c s₁ B hml hv
  obtain ⟨rfl, hsz, hP, hK, hD0, hZ⟩ := hv
  have hx := B.exec
  have hb := B.bytes
  have hr := B.returns
  have hts : ∀ w ∈ Wall, w.before _ s = true := fun w hw => atoms_spec (ws := wm yX0_tellCrosses cX0_tellCrosses 4 none) B.pre w (List.mem_cons_of_mem _ hw)
  have hown : s.vm.findClass RX0 = some m.cls := findClass_of_methodNamed B.named
  have hlocks := B.notSynchronized
  subst hsz
  have hD := hD0.self (sz := s.heap.size)
  generalize hAe : va_A (wC cI cZ ad u) s.heap.size = A at hD hZ ⊢
  have hA : ∀ q : Nat, s.heap.size ≤ q → A q := fun q h => by rw [← hAe]; exact Or.inr h
  have hS : va_S A s.heap s.heap [] := va_S.rf
  have hf27 := hts _ mw_232
  have hl := lv_entry ([.ref (ad 8), .ref (ad 19), .int p0]) (n := 4) (Nat.le_of_ble_eq_true rfl)
  rw [lg_entry_eq]
  generalize (lg_sl ([.ref (ad 8), .ref (ad 19), .int p0]) ++ List.replicate (4 - (lg_sl ([.ref (ad 8), .ref (ad 19), .int p0])).length) Slot.unset).toArray = ls at hl ⊢
  replace hl : lv_has ls 4 [(0, .ref (ad 8)), (1, .ref (ad 19)), (2, .int p0)] := hl
  refine w_gen (fun Q hQ => ?_)
  refine lv_iconst (v := 0) hx hb dX0_tellCrosses_0 (by decide) ?_
  refine lv_istore_n (lv' := [(3, .int (0 : Int32)), (0, .ref (ad 8)), (1, .ref (ad 19)), (2, .int p0)]) hx hb dX0_tellCrosses_1 rfl hl (by decide) rfl (fun ls hl => ?_)
  have hL2 : ∀ (k : GS → Option (GS)) (hk : ∀ (w2 : GS) (H : Heap) (locs : List Loc) (ls : Array Slot), k w2 = some w' → va_P D vwCl (wC cI cZ ad w2) H → va_D A (wC cI cZ ad w2) → va_S A s.heap H locs → lv_has ls 4 [] → W p l e rX0_tellCrosses s m ([.ref (ad 8), .ref (ad 19), .int p0] : List Value).toArray below meth c H locs 0 0 Q (F0 m 37 ls [])) (n : Nat) (x3_2 : Int32) (w2 : GS) (H : Heap) (locs : List Loc) (ls : Array Slot), lp_X0_tellCrosses_2 p0 k n x3_2 w2 = some w' → va_P D vwCl (wC cI cZ ad w2) H → va_D A (wC cI cZ ad w2) → va_S A s.heap H locs → lv_has ls 4 [(0, .ref (ad 8)), (1, .ref (ad 19)), (2, .int p0), (3, .int x3_2)] → W p l e rX0_tellCrosses s m ([.ref (ad 8), .ref (ad 19), .int p0] : List Value).toArray below meth c H locs 0 0 Q (F0 m 2 ls []) := by
    intro k hk n
    induction n with
    | zero =>
      intro x3_2 w2 H locs ls h
      rw [lp_X0_tellCrosses_2] at h
      cases h
    | succ n ih =>
      intro x3_2 w2 H locs ls h hP hD hS hl
      rw [lp_X0_tellCrosses_2] at h
      refine lv_iload_n hx hb dX0_tellCrosses_2 rfl (lv_at hl 3 rfl) ?_
      refine lv_bipush (v := 8) hx hb dX0_tellCrosses_3 (by decide) ?_
      refine lv_icmp_ge (tgt := 37) hx hb dX0_tellCrosses_5 (by decide) (fun c1 => ?_) (fun c1 => ?_)
      · replace h := gx_t c1 h
        exact hk w2 _ _ _ h hP hD hS (lv_sub hl [] rfl)
      · replace h := gx_f c1 h
        refine lv_iload_n hx hb dX0_tellCrosses_8 rfl (lv_at hl 3 rfl) ?_
        refine lv_aload_n hx hb dX0_tellCrosses_9 rfl (lv_at hl 0 rfl) ?_
        refine va_get (D := D) (ci := 0) (v := .int (cB_count w2)) (C := RX0) (T := TX0) (N := 6) hx hb hts iX0 hown hK hP 8 rfl rfl 5 (by decide) hf27 (fun _ h9 => h9) rfl dX0_tellCrosses_10 ?_
        obtain ⟨j31_2, ej31_2, h⟩ := gx_let h
        have hj31_2 : ∀ (w31 : GS) (H : Heap) (locs : List Loc) (ls : Array Slot), j31_2 w31 = some w' → va_P D vwCl (wC cI cZ ad w31) H → va_D A (wC cI cZ ad w31) → va_S A s.heap H locs → lv_has ls 4 [(0, .ref (ad 8)), (1, .ref (ad 19)), (2, .int p0), (3, .int x3_2)] → W p l e rX0_tellCrosses s m ([.ref (ad 8), .ref (ad 19), .int p0] : List Value).toArray below meth c H locs 0 0 Q (F0 m 31 ls []) := by
          intro w31 H locs ls h hP hD hS hl
          subst ej31_2
          obtain ⟨v3, ev3, h⟩ := gx_let h
          refine lv_iinc (v := v3) (lv' := [(3, .int v3), (0, .ref (ad 8)), (1, .ref (ad 19)), (2, .int p0)]) hx hb dX0_tellCrosses_31 hl (k := 3) rfl (by rw [← ev3]; rfl) (by decide) rfl (fun ls hl => ?_)
          refine lv_goto (tgt := 2) hx hb dX0_tellCrosses_34 (by decide) ?_
          exact ih v3 w31 _ _ _ h hP hD hS (lv_sub hl [1, 2, 3, 0] rfl)
        refine lv_icmp_ge (tgt := 31) hx hb dX0_tellCrosses_13 (by decide) (fun c4 => ?_) (fun c4 => ?_)
        · replace h := gx_t c4 h
          exact hj31_2 w2 _ _ _ h hP hD hS (lv_sub hl [0, 1, 2, 3] rfl)
        · replace h := gx_f c4 h
          refine lv_aload_n hx hb dX0_tellCrosses_16 rfl (lv_at hl 0 rfl) ?_
          refine lv_iload_n hx hb dX0_tellCrosses_17 rfl (lv_at hl 3 rfl) ?_
          refine lv_iload_n hx hb dX0_tellCrosses_18 rfl (lv_at hl 2 rfl) ?_
          obtain ⟨y5, hc6, h⟩ := gx_bind h
          refine cc_iV (As := [.int x3_2, .int p0]) (rest := []) ⟨hx, hb, hml, hown, hts⟩ (k_X0_isRunning l D cI cZ ad w2 x3_2 p0 hc6) (cwV 2 hts (gwV mw_279 mw_280 mw_281 mw_56 mw_282) rfl rfl rfl (by decide +kernel) ⟨Nat.le_of_ble_eq_true rfl, Nat.le_of_ble_eq_true rfl⟩) hK hP hD hS hA hZ (ci := 0) (q0 := 8) rfl rfl rfl hl.1 rfl (Nat.le_of_ble_eq_true rfl) dX0_tellCrosses_19 ⟨Nat.zero_le _, Nat.zero_le _⟩ (fun H locs hP hD hS => ?_)
          refine lv_if_eq (tgt := 31) hx hb dX0_tellCrosses_22 (by decide) (fun c7 => ?_) (fun c7 => ?_)
          · replace h := gx_t c7 h
            exact hj31_2 w2 _ _ _ h hP hD hS (lv_sub hl [0, 1, 2, 3] rfl)
          · replace h := gx_f c7 h
            refine lv_aload_n hx hb dX0_tellCrosses_25 rfl (lv_at hl 0 rfl) ?_
            refine lv_iload_n hx hb dX0_tellCrosses_26 rfl (lv_at hl 3 rfl) ?_
            refine lv_aload_n hx hb dX0_tellCrosses_27 rfl (lv_at hl 1 rfl) ?_
            obtain ⟨y8, hc9, h⟩ := gx_bind h
            refine cc_vV (As := [.int x3_2, .ref (ad 19)]) (rest := []) ⟨hx, hb, hml, hown, hts⟩ (k_X0_tellCrossesOf l D cI cZ ad w2 x3_2 hc9) (cwV 2 hts (gwV mw_284 mw_286 mw_0 mw_56 mw_287) rfl rfl rfl (by decide +kernel) ⟨Nat.le_of_ble_eq_true rfl, Nat.le_of_ble_eq_true rfl⟩) hK hP hD hS hA hZ (ci := 0) (q0 := 8) rfl rfl rfl hl.1 rfl (Nat.le_of_ble_eq_true rfl) dX0_tellCrosses_28 ⟨Nat.zero_le _, Nat.zero_le _⟩ (fun H locs hP hD hS => ?_)
            exact hj31_2 y8 _ _ _ h hP hD hS (lv_sub hl [0, 1, 2, 3] rfl)
  refine hL2 _ (fun w2 H locs ls h hP hD hS hl => ?_) FU (0 : Int32) u _ _ _ h hP hD hS (lv_sub hl [1, 2, 3, 0] rfl)
  cases h
  exact cc_vret hx hb hr hQ hK hP hD hS dX0_tellCrosses_37 hlocks

def rX8_mostIn : Room := { frames := 0, cells := 0, slots := 0, locals := 0 }
set_option maxHeartbeats 4000000 in
set_option maxRecDepth 100000 in
theorem k_X8_mostIn (l : Launch) (D : va_G) (cI cZ : ClassId) (ad : Nat → Nat) (u : GS) (p0 : Int32) {r : Int32} (h : g_X8_mostIn u p0 = some r) : MI l yX8_mostIn (wm yX8_mostIn cX8_mostIn 5 (some .int)) rX8_mostIn D [(cI, .int), (cZ, .boolean)] (wC cI cZ ad u) (wC cI cZ ad u) [.ref (ad 1), .int p0] r := by
  intro sz
  refine Met.ofW (cc := cX8_mostIn) (maxL := 5) (ret := (some .int)) (by decide) rfl ?_
  intro p e s m args below meth c s₁ B hml hv
  obtain ⟨rfl, hsz, hP, hK, hD0, hZ⟩ := hv
  have hx := B.exec
  have hb := B.bytes
  have hr := B.returns
  have hts : ∀ w ∈ Wall, w.before _ s = true := fun w hw => atoms_spec (ws := wm yX8_mostIn cX8_mostIn 5 (some .int)) B.pre w (List.mem_cons_of_mem _ hw)
  have hown : s.vm.findClass RX8 = some m.cls := findClass_of_methodNamed B.named
  have hlocks := B.notSynchronized
  subst hsz
  have hD := hD0.self (sz := s.heap.size)
  generalize hAe : va_A (wC cI cZ ad u) s.heap.size = A at hD hZ ⊢
  have hA : ∀ q : Nat, s.heap.size ≤ q → A q := fun q h => by rw [← hAe]; exact Or.inr h
  have hS : va_S A s.heap s.heap [] := va_S.rf
  have hf9 := hts _ mw_80
  have hl := lv_entry ([.ref (ad 1), .int p0]) (n := 5) (Nat.le_of_ble_eq_true rfl)
  rw [lg_entry_eq]
  generalize (lg_sl ([.ref (ad 1), .int p0]) ++ List.replicate (5 - (lg_sl ([.ref (ad 1), .int p0])).length) Slot.unset).toArray = ls at hl ⊢
  replace hl : lv_has ls 5 [(0, .ref (ad 1)), (1, .int p0)] := hl
  refine w_gen (fun Q hQ => ?_)
  refine lv_iload_n hx hb dX8_mostIn_0 rfl (lv_at hl 1 rfl) ?_
  refine lv_if_lt (tgt := 10) hx hb dX8_mostIn_1 (by decide) (fun c1 => ?_) (fun c1 => ?_)
  · replace h := gx_t c1 h
    refine lv_iconst (v := 0) hx hb dX8_mostIn_10 (by decide) ?_
    cases h
    exact cc_ret hx hb hr rfl hQ hK hP hD hS rfl dX8_mostIn_11 hlocks
  · replace h := gx_f c1 h
    refine lv_iload_n hx hb dX8_mostIn_4 rfl (lv_at hl 1 rfl) ?_
    refine lv_bipush (v := 12) hx hb dX8_mostIn_5 (by decide) ?_
    refine lv_icmp_lt (tgt := 12) hx hb dX8_mostIn_7 (by decide) (fun c2 => ?_) (fun c2 => ?_)
    · replace h := gx_t c2 h
      refine lv_iconst (v := 0) hx hb dX8_mostIn_12 (by decide) ?_
      refine lv_istore_n (lv' := [(2, .int (0 : Int32)), (0, .ref (ad 1)), (1, .int p0)]) hx hb dX8_mostIn_13 rfl hl (by decide) rfl (fun ls hl => ?_)
      refine lv_iconst (v := 0) hx hb dX8_mostIn_14 (by decide) ?_
      refine lv_istore_n (lv' := [(3, .int (0 : Int32)), (2, .int (0 : Int32)), (0, .ref (ad 1)), (1, .int p0)]) hx hb dX8_mostIn_15 rfl hl (by decide) rfl (fun ls hl => ?_)
      have hL16 : ∀ (k : Int32 → Option (Int32)) (hk : ∀ (x2_16 : Int32) (H : Heap) (locs : List Loc) (ls : Array Slot), k x2_16 = some r → va_P D vwCl (wC cI cZ ad u) H → va_D A (wC cI cZ ad u) → va_S A s.heap H locs → lv_has ls 5 [(2, .int x2_16)] → W p l e rX8_mostIn s m ([.ref (ad 1), .int p0] : List Value).toArray below meth c H locs 0 0 Q (F0 m 52 ls [])) (n : Nat) (x2_16 : Int32) (x3_16 : Int32) (H : Heap) (locs : List Loc) (ls : Array Slot), lp_X8_mostIn_16 u p0 k n x2_16 x3_16 = some r → va_P D vwCl (wC cI cZ ad u) H → va_D A (wC cI cZ ad u) → va_S A s.heap H locs → lv_has ls 5 [(0, .ref (ad 1)), (1, .int p0), (2, .int x2_16), (3, .int x3_16)] → W p l e rX8_mostIn s m ([.ref (ad 1), .int p0] : List Value).toArray below meth c H locs 0 0 Q (F0 m 16 ls []) := by
        intro k hk n
        induction n with
        | zero =>
          intro x2_16 x3_16 H locs ls h
          rw [lp_X8_mostIn_16] at h
          cases h
        | succ n ih =>
          intro x2_16 x3_16 H locs ls h hP hD hS hl
          rw [lp_X8_mostIn_16] at h
          refine lv_iload_n hx hb dX8_mostIn_16 rfl (lv_at hl 3 rfl) ?_
          refine lv_iconst (v := 4) hx hb dX8_mostIn_17 (by decide) ?_
          refine lv_icmp_ge (tgt := 52) hx hb dX8_mostIn_18 (by decide) (fun c3 => ?_) (fun c3 => ?_)
          · replace h := gx_t c3 h
            exact hk x2_16 _ _ _ h hP hD hS (lv_sub hl [2] rfl)
          · replace h := gx_f c3 h
            refine lv_aload_n hx hb dX8_mostIn_21 rfl (lv_at hl 0 rfl) ?_
            refine va_get (D := D) (ci := 8) (v := .ref (ad 10)) (C := RX8) (T := TX8) (N := 7) hx hb hts iX8 hown hK hP 1 rfl rfl 0 (by decide) hf9 (fun _ h9 => h9) rfl dX8_mostIn_22 ?_
            refine lv_iload_n hx hb dX8_mostIn_25 rfl (lv_at hl 1 rfl) ?_
            refine lv_iconst (v := 4) hx hb dX8_mostIn_26 (by decide) ?_
            refine lv_imul hx hb dX8_mostIn_27 ?_
            refine lv_iload_n hx hb dX8_mostIn_28 rfl (lv_at hl 3 rfl) ?_
            refine lv_iadd hx hb dX8_mostIn_29 ?_
            obtain ⟨b4, h⟩ := gx_in h
            refine va_iald (D := D) hx hb hK hP 10 0 rfl rfl b4 dX8_mostIn_30 ?_
            obtain ⟨v5, ev5, h⟩ := gx_let h
            refine lv_topn ev5 ?_
            refine lv_istore (lv' := [(4, .int v5), (0, .ref (ad 1)), (1, .int p0), (2, .int x2_16), (3, .int x3_16)]) hx hb dX8_mostIn_31 hl (by decide) rfl (fun ls hl => ?_)
            refine lv_iload hx hb dX8_mostIn_33 (lv_at hl 0 rfl) ?_
            refine lv_iload_n hx hb dX8_mostIn_35 rfl (lv_at hl 3 rfl) ?_
            obtain ⟨j45_6, ej45_6, h⟩ := gx_let h
            have hj45_6 : ∀ (z0_45 : Int32) (H : Heap) (locs : List Loc) (ls : Array Slot), j45_6 z0_45 = some r → va_P D vwCl (wC cI cZ ad u) H → va_D A (wC cI cZ ad u) → va_S A s.heap H locs → lv_has ls 5 [(0, .ref (ad 1)), (1, .int p0), (3, .int x3_16)] → W p l e rX8_mostIn s m ([.ref (ad 1), .int p0] : List Value).toArray below meth c H locs 0 0 Q (F0 m 45 ls [.int z0_45]) := by
              intro z0_45 H locs ls h hP hD hS hl
              subst ej45_6
              refine lv_istore_n (lv' := [(2, .int z0_45), (0, .ref (ad 1)), (1, .int p0), (3, .int x3_16)]) hx hb dX8_mostIn_45 rfl hl (by decide) rfl (fun ls hl => ?_)
              obtain ⟨v7, ev7, h⟩ := gx_let h
              refine lv_iinc (v := v7) (lv' := [(3, .int v7), (2, .int z0_45), (0, .ref (ad 1)), (1, .int p0)]) hx hb dX8_mostIn_46 hl (k := 3) rfl (by rw [← ev7]; rfl) (by decide) rfl (fun ls hl => ?_)
              refine lv_goto (tgt := 16) hx hb dX8_mostIn_49 (by decide) ?_
              exact ih z0_45 v7 _ _ _ h hP hD hS (lv_sub hl [2, 3, 1, 0] rfl)
            refine lv_icmp_le (tgt := 44) hx hb dX8_mostIn_36 (by decide) (fun c8 => ?_) (fun c8 => ?_)
            · replace h := gx_t c8 h
              refine lv_iload_n hx hb dX8_mostIn_44 rfl (lv_at hl 3 rfl) ?_
              exact hj45_6 x2_16 _ _ _ h hP hD hS (lv_sub hl [1, 2, 4] rfl)
            · replace h := gx_f c8 h
              refine lv_iload hx hb dX8_mostIn_39 (lv_at hl 0 rfl) ?_
              refine lv_goto (tgt := 45) hx hb dX8_mostIn_41 (by decide) ?_
              exact hj45_6 v5 _ _ _ h hP hD hS (lv_sub hl [1, 2, 4] rfl)
      refine hL16 _ (fun x2_16 H locs ls h hP hD hS hl => ?_) FU (0 : Int32) (0 : Int32) _ _ _ h hP hD hS (lv_sub hl [2, 3, 1, 0] rfl)
      refine lv_iload_n hx hb dX8_mostIn_52 rfl (lv_at hl 0 rfl) ?_
      cases h
      exact cc_ret hx hb hr rfl hQ hK hP hD hS rfl dX8_mostIn_53 hlocks
    · replace h := gx_f c2 h
      refine lv_iconst (v := 0) hx hb dX8_mostIn_10 (by decide) ?_
      cases h
      exact cc_ret hx hb hr rfl hQ hK hP hD hS rfl dX8_mostIn_11 hlocks

def rX8_speedAt : Room := { frames := 1, cells := 0, slots := 0, locals := 24 }
set_option maxHeartbeats 4000000 in
set_option maxRecDepth 100000 in
theorem k_X8_speedAt (l : Launch) (D : va_G) (cI cZ : ClassId) (ad : Nat → Nat) (u : GS) (p0 : Int32) {r : Int32} (h : g_X8_speedAt u p0 = some r) : MI l yX8_speedAt (wm yX8_speedAt cX8_speedAt 2 (some .int)) rX8_speedAt D [(cI, .int), (cZ, .boolean)] (wC cI cZ ad u) (wC cI cZ ad u) [.ref (ad 1), .int p0] r := by
  intro sz
  refine Met.ofW (cc := cX8_speedAt) (maxL := 2) (ret := (some .int)) (by decide) rfl ?_
  intro p e s m args below meth c s₁ B hml hv
  obtain ⟨rfl, hsz, hP, hK, hD0, hZ⟩ := hv
  have hx := B.exec
  have hb := B.bytes
  have hr := B.returns
  have hts : ∀ w ∈ Wall, w.before _ s = true := fun w hw => atoms_spec (ws := wm yX8_speedAt cX8_speedAt 2 (some .int)) B.pre w (List.mem_cons_of_mem _ hw)
  have hown : s.vm.findClass RX8 = some m.cls := findClass_of_methodNamed B.named
  have hlocks := B.notSynchronized
  subst hsz
  have hD := hD0.self (sz := s.heap.size)
  generalize hAe : va_A (wC cI cZ ad u) s.heap.size = A at hD hZ ⊢
  have hA : ∀ q : Nat, s.heap.size ≤ q → A q := fun q h => by rw [← hAe]; exact Or.inr h
  have hS : va_S A s.heap s.heap [] := va_S.rf
  have hl := lv_entry ([.ref (ad 1), .int p0]) (n := 2) (Nat.le_of_ble_eq_true rfl)
  rw [lg_entry_eq]
  generalize (lg_sl ([.ref (ad 1), .int p0]) ++ List.replicate (2 - (lg_sl ([.ref (ad 1), .int p0])).length) Slot.unset).toArray = ls at hl ⊢
  replace hl : lv_has ls 2 [(0, .ref (ad 1)), (1, .int p0)] := hl
  refine w_gen (fun Q hQ => ?_)
  refine lv_bipush (v := 120) hx hb dX8_speedAt_0 (by decide) ?_
  refine lv_iconst (v := 5) hx hb dX8_speedAt_2 (by decide) ?_
  refine lv_aload_n hx hb dX8_speedAt_3 rfl (lv_at hl 0 rfl) ?_
  refine lv_iload_n hx hb dX8_speedAt_4 rfl (lv_at hl 1 rfl) ?_
  obtain ⟨y1, hc2, h⟩ := gx_bind h
  refine cc_iV (As := [.int p0]) (rest := [.int (5 : Int32), .int (120 : Int32)]) ⟨hx, hb, hml, hown, hts⟩ (k_X8_mostIn l D cI cZ ad u p0 hc2) (cwV 1 hts (gwV mw_372 mw_373 mw_374 mw_49 mw_375) rfl rfl rfl (by decide +kernel) ⟨Nat.le_of_ble_eq_true rfl, Nat.le_of_ble_eq_true rfl⟩) hK hP hD hS hA hZ (ci := 8) (q0 := 1) rfl rfl rfl hl.1 rfl (Nat.le_of_ble_eq_true rfl) dX8_speedAt_5 ⟨Nat.zero_le _, Nat.zero_le _⟩ (fun H locs hP hD hS => ?_)
  refine lv_imul hx hb dX8_speedAt_8 ?_
  refine lv_isub hx hb dX8_speedAt_9 ?_
  cases h
  exact cc_ret hx hb hr rfl hQ hK hP hD hS rfl dX8_speedAt_10 hlocks

def rX1_guessAt : Room := { frames := 2, cells := 0, slots := 0, locals := 45 }
set_option maxHeartbeats 4000000 in
set_option maxRecDepth 100000 in
theorem k_X1_guessAt (l : Launch) (D : va_G) (cI cZ : ClassId) (ad : Nat → Nat) (u : GS) (p0 : Int32) {r : Int32} (h : g_X1_guessAt u p0 = some r) : MI l yX1_guessAt (wm yX1_guessAt cX1_guessAt 6 (some .int)) rX1_guessAt D [(cI, .int), (cZ, .boolean)] (wC cI cZ ad u) (wC cI cZ ad u) [.ref (ad 2), .int p0, .ref (ad 1)] r := by
  intro sz
  refine Met.ofW (cc := cX1_guessAt) (maxL := 6) (ret := (some .int)) (by decide) rfl ?_
  intro p e s m args below meth c s₁ B hml hv
  obtain ⟨rfl, hsz, hP, hK, hD0, hZ⟩ := hv
  have hx := B.exec
  have hb := B.bytes
  have hr := B.returns
  have hts : ∀ w ∈ Wall, w.before _ s = true := fun w hw => atoms_spec (ws := wm yX1_guessAt cX1_guessAt 6 (some .int)) B.pre w (List.mem_cons_of_mem _ hw)
  have hown : s.vm.findClass RX1 = some m.cls := findClass_of_methodNamed B.named
  have hlocks := B.notSynchronized
  subst hsz
  have hD := hD0.self (sz := s.heap.size)
  generalize hAe : va_A (wC cI cZ ad u) s.heap.size = A at hD hZ ⊢
  have hA : ∀ q : Nat, s.heap.size ≤ q → A q := fun q h => by rw [← hAe]; exact Or.inr h
  have hS : va_S A s.heap s.heap [] := va_S.rf
  have hf9 := hts _ mw_117
  have hl := lv_entry ([.ref (ad 2), .int p0, .ref (ad 1)]) (n := 6) (Nat.le_of_ble_eq_true rfl)
  rw [lg_entry_eq]
  generalize (lg_sl ([.ref (ad 2), .int p0, .ref (ad 1)]) ++ List.replicate (6 - (lg_sl ([.ref (ad 2), .int p0, .ref (ad 1)])).length) Slot.unset).toArray = ls at hl ⊢
  replace hl : lv_has ls 6 [(0, .ref (ad 2)), (1, .int p0), (2, .ref (ad 1))] := hl
  refine w_gen (fun Q hQ => ?_)
  refine lv_iconst (v := 0) hx hb dX1_guessAt_0 (by decide) ?_
  refine lv_istore_n (lv' := [(3, .int (0 : Int32)), (0, .ref (ad 2)), (1, .int p0), (2, .ref (ad 1))]) hx hb dX1_guessAt_1 rfl hl (by decide) rfl (fun ls hl => ?_)
  refine lv_iconst (v := 0) hx hb dX1_guessAt_2 (by decide) ?_
  refine lv_istore (lv' := [(4, .int (0 : Int32)), (3, .int (0 : Int32)), (0, .ref (ad 2)), (1, .int p0), (2, .ref (ad 1))]) hx hb dX1_guessAt_3 hl (by decide) rfl (fun ls hl => ?_)
  refine lv_iconst (v := 0) hx hb dX1_guessAt_5 (by decide) ?_
  refine lv_istore (lv' := [(5, .int (0 : Int32)), (4, .int (0 : Int32)), (3, .int (0 : Int32)), (0, .ref (ad 2)), (1, .int p0), (2, .ref (ad 1))]) hx hb dX1_guessAt_6 hl (by decide) rfl (fun ls hl => ?_)
  have hL8 : ∀ (k : Int32 → Int32 → Option (Int32)) (hk : ∀ (x3_8 : Int32) (x4_8 : Int32) (H : Heap) (locs : List Loc) (ls : Array Slot), k x3_8 x4_8 = some r → va_P D vwCl (wC cI cZ ad u) H → va_D A (wC cI cZ ad u) → va_S A s.heap H locs → lv_has ls 6 [(3, .int x3_8), (4, .int x4_8)] → W p l e rX1_guessAt s m ([.ref (ad 2), .int p0, .ref (ad 1)] : List Value).toArray below meth c H locs 0 0 Q (F0 m 59 ls [])) (n : Nat) (x3_8 : Int32) (x4_8 : Int32) (x5_8 : Int32) (H : Heap) (locs : List Loc) (ls : Array Slot), lp_X1_guessAt_8 u p0 k n x3_8 x4_8 x5_8 = some r → va_P D vwCl (wC cI cZ ad u) H → va_D A (wC cI cZ ad u) → va_S A s.heap H locs → lv_has ls 6 [(0, .ref (ad 2)), (1, .int p0), (2, .ref (ad 1)), (3, .int x3_8), (4, .int x4_8), (5, .int x5_8)] → W p l e rX1_guessAt s m ([.ref (ad 2), .int p0, .ref (ad 1)] : List Value).toArray below meth c H locs 0 0 Q (F0 m 8 ls []) := by
    intro k hk n
    induction n with
    | zero =>
      intro x3_8 x4_8 x5_8 H locs ls h
      rw [lp_X1_guessAt_8] at h
      cases h
    | succ n ih =>
      intro x3_8 x4_8 x5_8 H locs ls h hP hD hS hl
      rw [lp_X1_guessAt_8] at h
      refine lv_iload hx hb dX1_guessAt_8 (lv_at hl 5 rfl) ?_
      refine lv_bipush (v := 12) hx hb dX1_guessAt_10 (by decide) ?_
      refine lv_icmp_ge (tgt := 59) hx hb dX1_guessAt_12 (by decide) (fun c1 => ?_) (fun c1 => ?_)
      · replace h := gx_t c1 h
        exact hk x3_8 x4_8 _ _ _ h hP hD hS (lv_sub hl [3, 4] rfl)
      · replace h := gx_f c1 h
        refine lv_iload hx hb dX1_guessAt_15 (lv_at hl 5 rfl) ?_
        refine lv_iload_n hx hb dX1_guessAt_17 rfl (lv_at hl 1 rfl) ?_
        refine lv_iconst (v := 1) hx hb dX1_guessAt_18 (by decide) ?_
        refine lv_isub hx hb dX1_guessAt_19 ?_
        obtain ⟨j53_2, ej53_2, h⟩ := gx_let h
        have hj53_2 : ∀ (x3_53 : Int32) (x4_53 : Int32) (H : Heap) (locs : List Loc) (ls : Array Slot), j53_2 x3_53 x4_53 = some r → va_P D vwCl (wC cI cZ ad u) H → va_D A (wC cI cZ ad u) → va_S A s.heap H locs → lv_has ls 6 [(0, .ref (ad 2)), (1, .int p0), (2, .ref (ad 1)), (3, .int x3_53), (4, .int x4_53), (5, .int x5_8)] → W p l e rX1_guessAt s m ([.ref (ad 2), .int p0, .ref (ad 1)] : List Value).toArray below meth c H locs 0 0 Q (F0 m 53 ls []) := by
          intro x3_53 x4_53 H locs ls h hP hD hS hl
          subst ej53_2
          obtain ⟨v3, ev3, h⟩ := gx_let h
          refine lv_iinc (v := v3) (lv' := [(5, .int v3), (0, .ref (ad 2)), (1, .int p0), (2, .ref (ad 1)), (3, .int x3_53), (4, .int x4_53)]) hx hb dX1_guessAt_53 hl (k := 5) rfl (by rw [← ev3]; rfl) (by decide) rfl (fun ls hl => ?_)
          refine lv_goto (tgt := 8) hx hb dX1_guessAt_56 (by decide) ?_
          exact ih x3_53 x4_53 v3 _ _ _ h hP hD hS (lv_sub hl [1, 2, 3, 4, 5, 0] rfl)
        obtain ⟨j31_4, ej31_4, h⟩ := gx_let h
        have hj31_4 : ∀ (H : Heap) (locs : List Loc) (ls : Array Slot), j31_4 () = some r → va_P D vwCl (wC cI cZ ad u) H → va_D A (wC cI cZ ad u) → va_S A s.heap H locs → lv_has ls 6 [(0, .ref (ad 2)), (1, .int p0), (2, .ref (ad 1)), (3, .int x3_8), (4, .int x4_8), (5, .int x5_8)] → W p l e rX1_guessAt s m ([.ref (ad 2), .int p0, .ref (ad 1)] : List Value).toArray below meth c H locs 0 0 Q (F0 m 31 ls []) := by
          intro  H locs ls h hP hD hS hl
          subst ej31_4
          refine lv_aload_n hx hb dX1_guessAt_31 rfl (lv_at hl 0 rfl) ?_
          refine va_get (D := D) (ci := 1) (v := .ref (ad 13)) (C := RX1) (T := TX1) (N := 2) hx hb hts iX1 hown hK hP 2 rfl rfl 0 (by decide) hf9 (fun _ h9 => h9) rfl dX1_guessAt_32 ?_
          refine lv_iload hx hb dX1_guessAt_35 (lv_at hl 5 rfl) ?_
          obtain ⟨b5, h⟩ := gx_in h
          refine va_iald (D := D) hx hb hK hP 13 0 rfl rfl b5 dX1_guessAt_37 ?_
          refine lv_if_ne (tgt := 53) hx hb dX1_guessAt_38 (by decide) (fun c6 => ?_) (fun c6 => ?_)
          · replace h := gx_f c6 h
            exact hj53_2 x3_8 x4_8 _ _ _ h hP hD hS (lv_sub hl [0, 1, 2, 3, 4, 5] rfl)
          · replace h := gx_t c6 h
            refine lv_iload_n hx hb dX1_guessAt_41 rfl (lv_at hl 3 rfl) ?_
            refine lv_aload_n hx hb dX1_guessAt_42 rfl (lv_at hl 2 rfl) ?_
            refine lv_iload hx hb dX1_guessAt_43 (lv_at hl 5 rfl) ?_
            obtain ⟨y7, hc8, h⟩ := gx_bind h
            refine cc_iV (As := [.int x5_8]) (rest := [.int x3_8]) ⟨hx, hb, hml, hown, hts⟩ (k_X8_speedAt l D cI cZ ad u x5_8 hc8) (cwV 1 hts (gwV mw_368 mw_369 mw_370 mw_49 mw_371) rfl rfl rfl (by decide +kernel) ⟨Nat.le_of_ble_eq_true rfl, Nat.le_of_ble_eq_true rfl⟩) hK hP hD hS hA hZ (ci := 8) (q0 := 1) rfl rfl rfl hl.1 rfl (Nat.le_of_ble_eq_true rfl) dX1_guessAt_45 ⟨Nat.zero_le _, Nat.zero_le _⟩ (fun H locs hP hD hS => ?_)
            refine lv_iadd hx hb dX1_guessAt_48 ?_
            obtain ⟨v9, ev9, h⟩ := gx_let h
            refine lv_topn ev9 ?_
            refine lv_istore_n (lv' := [(3, .int v9), (0, .ref (ad 2)), (1, .int p0), (2, .ref (ad 1)), (4, .int x4_8), (5, .int x5_8)]) hx hb dX1_guessAt_49 rfl hl (by decide) rfl (fun ls hl => ?_)
            obtain ⟨v10, ev10, h⟩ := gx_let h
            refine lv_iinc (v := v10) (lv' := [(4, .int v10), (3, .int v9), (0, .ref (ad 2)), (1, .int p0), (2, .ref (ad 1)), (5, .int x5_8)]) hx hb dX1_guessAt_50 hl (k := 4) rfl (by rw [← ev10]; rfl) (by decide) rfl (fun ls hl => ?_)
            exact hj53_2 v9 v10 _ _ _ h hP hD hS (lv_sub hl [2, 3, 4, 1, 0, 5] rfl)
        refine lv_icmp_eq (tgt := 31) hx hb dX1_guessAt_20 (by decide) (fun c11 => ?_) (fun c11 => ?_)
        · replace h := gx_t c11 h
          exact hj31_4 _ _ _ h hP hD hS (lv_sub hl [0, 1, 2, 3, 4, 5] rfl)
        · replace h := gx_f c11 h
          refine lv_iload hx hb dX1_guessAt_23 (lv_at hl 5 rfl) ?_
          refine lv_iload_n hx hb dX1_guessAt_25 rfl (lv_at hl 1 rfl) ?_
          refine lv_iconst (v := 1) hx hb dX1_guessAt_26 (by decide) ?_
          refine lv_iadd hx hb dX1_guessAt_27 ?_
          refine lv_icmp_ne (tgt := 53) hx hb dX1_guessAt_28 (by decide) (fun c12 => ?_) (fun c12 => ?_)
          · replace h := gx_f c12 h
            exact hj53_2 x3_8 x4_8 _ _ _ h hP hD hS (lv_sub hl [0, 1, 2, 3, 4, 5] rfl)
          · replace h := gx_t c12 h
            exact hj31_4 _ _ _ h hP hD hS (lv_sub hl [0, 1, 2, 3, 4, 5] rfl)
  refine hL8 _ (fun x3_8 x4_8 H locs ls h hP hD hS hl => ?_) FU (0 : Int32) (0 : Int32) (0 : Int32) _ _ _ h hP hD hS (lv_sub hl [3, 4, 5, 2, 1, 0] rfl)
  refine lv_iload hx hb dX1_guessAt_59 (lv_at hl 1 rfl) ?_
  refine lv_if_ne (tgt := 68) hx hb dX1_guessAt_61 (by decide) (fun c13 => ?_) (fun c13 => ?_)
  · replace h := gx_f c13 h
    refine lv_iload_n hx hb dX1_guessAt_68 rfl (lv_at hl 0 rfl) ?_
    refine lv_iload hx hb dX1_guessAt_69 (lv_at hl 1 rfl) ?_
    obtain ⟨n14, h⟩ := gx_nz h
    refine lv_idiv hx hb dX1_guessAt_71 n14 ?_
    cases h
    exact cc_ret hx hb hr rfl hQ hK hP hD hS rfl dX1_guessAt_72 hlocks
  · replace h := gx_t c13 h
    refine lv_iconst (v := (-1)) hx hb dX1_guessAt_64 (by decide) ?_
    refine lv_goto (tgt := 72) hx hb dX1_guessAt_65 (by decide) ?_
    cases h
    exact cc_ret hx hb hr rfl hQ hK hP hD hS rfl dX1_guessAt_72 hlocks

def rX1_beliefAt : Room := { frames := 3, cells := 0, slots := 0, locals := 70 }
set_option maxHeartbeats 4000000 in
set_option maxRecDepth 100000 in
theorem k_X1_beliefAt (l : Launch) (D : va_G) (cI cZ : ClassId) (ad : Nat → Nat) (u : GS) (p0 : Int32) {r : Int32} (h : g_X1_beliefAt u p0 = some r) : MI l yX1_beliefAt (wm yX1_beliefAt cX1_beliefAt 5 (some .int)) rX1_beliefAt D [(cI, .int), (cZ, .boolean)] (wC cI cZ ad u) (wC cI cZ ad u) [.ref (ad 2), .int p0, .ref (ad 1)] r := by
  intro sz
  refine Met.ofW (cc := cX1_beliefAt) (maxL := 5) (ret := (some .int)) (by decide) rfl ?_
  intro p e s m args below meth c s₁ B hml hv
  obtain ⟨rfl, hsz, hP, hK, hD0, hZ⟩ := hv
  have hx := B.exec
  have hb := B.bytes
  have hr := B.returns
  have hts : ∀ w ∈ Wall, w.before _ s = true := fun w hw => atoms_spec (ws := wm yX1_beliefAt cX1_beliefAt 5 (some .int)) B.pre w (List.mem_cons_of_mem _ hw)
  have hown : s.vm.findClass RX1 = some m.cls := findClass_of_methodNamed B.named
  have hlocks := B.notSynchronized
  subst hsz
  have hD := hD0.self (sz := s.heap.size)
  generalize hAe : va_A (wC cI cZ ad u) s.heap.size = A at hD hZ ⊢
  have hA : ∀ q : Nat, s.heap.size ≤ q → A q := fun q h => by rw [← hAe]; exact Or.inr h
  have hS : va_S A s.heap s.heap [] := va_S.rf
  have hf9 := hts _ mw_117
  have hf15 := hts _ mw_119
  have hl := lv_entry ([.ref (ad 2), .int p0, .ref (ad 1)]) (n := 5) (Nat.le_of_ble_eq_true rfl)
  rw [lg_entry_eq]
  generalize (lg_sl ([.ref (ad 2), .int p0, .ref (ad 1)]) ++ List.replicate (5 - (lg_sl ([.ref (ad 2), .int p0, .ref (ad 1)])).length) Slot.unset).toArray = ls at hl ⊢
  replace hl : lv_has ls 5 [(0, .ref (ad 2)), (1, .int p0), (2, .ref (ad 1))] := hl
  refine w_gen (fun Q hQ => ?_)
  refine lv_iload_n hx hb dX1_beliefAt_0 rfl (lv_at hl 1 rfl) ?_
  refine lv_iconst (v := 0) hx hb dX1_beliefAt_1 (by decide) ?_
  refine lv_bipush (v := 11) hx hb dX1_beliefAt_2 (by decide) ?_
  obtain ⟨y1, hc2, h⟩ := gx_bind h
  refine cc_iSN (As := [.int p0, .int (0 : Int32), .int (11 : Int32)]) (rest := []) ⟨hx, hb, hml, hown, hts⟩ (k_X9_isWithin l D cI cZ ad u p0 (0 : Int32) (11 : Int32) hc2) ⟨va_cnB 3 hts (gwM mw_274) rfl rfl rfl (hZ.1 ("RedcrossGantry$Detectors", 24, yX9_isWithin) (by decide +kernel)) (hts _ mw_48) (by decide +kernel) ⟨Nat.le_of_ble_eq_true rfl, Nat.le_of_ble_eq_true rfl⟩, hts _ mw_273, trivial⟩ hK hP hD hS hA hZ rfl hl.1 rfl (Nat.le_of_ble_eq_true rfl) dX1_beliefAt_4 ⟨Nat.zero_le _, Nat.zero_le _⟩ (fun H locs hP hD hS => ?_)
  refine lv_if_ne (tgt := 12) hx hb dX1_beliefAt_7 (by decide) (fun c3 => ?_) (fun c3 => ?_)
  · replace h := gx_f c3 h
    refine lv_aload_n hx hb dX1_beliefAt_12 rfl (lv_at hl 0 rfl) ?_
    refine va_get (D := D) (ci := 1) (v := .ref (ad 13)) (C := RX1) (T := TX1) (N := 2) hx hb hts iX1 hown hK hP 2 rfl rfl 0 (by decide) hf9 (fun _ h9 => h9) rfl dX1_beliefAt_13 ?_
    refine lv_iload_n hx hb dX1_beliefAt_16 rfl (lv_at hl 1 rfl) ?_
    obtain ⟨b4, h⟩ := gx_in h
    refine va_iald (D := D) hx hb hK hP 13 0 rfl rfl b4 dX1_beliefAt_17 ?_
    refine lv_if_ne (tgt := 27) hx hb dX1_beliefAt_18 (by decide) (fun c5 => ?_) (fun c5 => ?_)
    · replace h := gx_f c5 h
      refine lv_aload_n hx hb dX1_beliefAt_27 rfl (lv_at hl 0 rfl) ?_
      refine lv_iload_n hx hb dX1_beliefAt_28 rfl (lv_at hl 1 rfl) ?_
      refine lv_aload_n hx hb dX1_beliefAt_29 rfl (lv_at hl 2 rfl) ?_
      obtain ⟨y6, hc7, h⟩ := gx_bind h
      refine cc_iV (As := [.int p0, .ref (ad 1)]) (rest := []) ⟨hx, hb, hml, hown, hts⟩ (k_X1_guessAt l D cI cZ ad u p0 hc7) (cwV 2 hts (gwV mw_376 mw_377 mw_378 mw_50 mw_379) rfl rfl rfl (by decide +kernel) ⟨Nat.le_of_ble_eq_true rfl, Nat.le_of_ble_eq_true rfl⟩) hK hP hD hS hA hZ (ci := 1) (q0 := 2) rfl rfl rfl hl.1 rfl (Nat.le_of_ble_eq_true rfl) dX1_beliefAt_30 ⟨Nat.zero_le _, Nat.zero_le _⟩ (fun H locs hP hD hS => ?_)
      refine lv_istore_n (lv' := [(3, .int y6), (0, .ref (ad 2)), (1, .int p0), (2, .ref (ad 1))]) hx hb dX1_beliefAt_33 rfl hl (by decide) rfl (fun ls hl => ?_)
      refine lv_aload_n hx hb dX1_beliefAt_34 rfl (lv_at hl 1 rfl) ?_
      refine va_get (D := D) (ci := 1) (v := .ref (ad 13)) (C := RX1) (T := TX1) (N := 2) hx hb hts iX1 hown hK hP 2 rfl rfl 0 (by decide) hf9 (fun _ h9 => h9) rfl dX1_beliefAt_35 ?_
      refine lv_iload_n hx hb dX1_beliefAt_38 rfl (lv_at hl 2 rfl) ?_
      obtain ⟨b8, h⟩ := gx_in h
      refine va_iald (D := D) hx hb hK hP 13 0 rfl rfl b8 dX1_beliefAt_39 ?_
      refine lv_iconst (v := 2) hx hb dX1_beliefAt_40 (by decide) ?_
      refine lv_icmp_ne (tgt := 46) hx hb dX1_beliefAt_41 (by decide) (fun c9 => ?_) (fun c9 => ?_)
      · replace h := gx_f c9 h
        refine lv_aload_n hx hb dX1_beliefAt_46 rfl (lv_at hl 1 rfl) ?_
        refine va_get (D := D) (ci := 1) (v := .ref (ad 14)) (C := RX1) (T := TX1) (N := 2) hx hb hts iX1 hown hK hP 2 rfl rfl 1 (by decide) hf15 (fun _ h9 => h9) rfl dX1_beliefAt_47 ?_
        refine lv_iload_n hx hb dX1_beliefAt_50 rfl (lv_at hl 2 rfl) ?_
        obtain ⟨b10, h⟩ := gx_in h
        refine va_iald (D := D) hx hb hK hP 14 0 rfl rfl b10 dX1_beliefAt_51 ?_
        obtain ⟨v11, ev11, h⟩ := gx_let h
        refine lv_topn ev11 ?_
        refine lv_istore (lv' := [(4, .int v11), (3, .int y6), (0, .ref (ad 2)), (1, .int p0), (2, .ref (ad 1))]) hx hb dX1_beliefAt_52 hl (by decide) rfl (fun ls hl => ?_)
        refine lv_iload_n hx hb dX1_beliefAt_54 rfl (lv_at hl 1 rfl) ?_
        refine lv_iconst (v := (-1)) hx hb dX1_beliefAt_55 (by decide) ?_
        refine lv_icmp_eq (tgt := 75) hx hb dX1_beliefAt_56 (by decide) (fun c12 => ?_) (fun c12 => ?_)
        · replace h := gx_t c12 h
          refine lv_iload hx hb dX1_beliefAt_75 (lv_at hl 0 rfl) ?_
          cases h
          exact cc_ret hx hb hr rfl hQ hK hP hD hS rfl dX1_beliefAt_77 hlocks
        · replace h := gx_f c12 h
          refine lv_iload_n hx hb dX1_beliefAt_59 rfl (lv_at hl 1 rfl) ?_
          refine lv_iload hx hb dX1_beliefAt_60 (lv_at hl 0 rfl) ?_
          refine lv_isub hx hb dX1_beliefAt_62 ?_
          refine va_mabs hx hb (hml.trans hl.1.symm) hown (hts _ mw_380) (hts _ mw_381) (hts _ mw_58) (hts _ mw_382) (Nat.le_of_ble_eq_true rfl) (Nat.le_of_ble_eq_true rfl) (Nat.zero_le _) (Nat.zero_le _) dX1_beliefAt_63 ?_
          refine lv_bipush (v := 30) hx hb dX1_beliefAt_66 (by decide) ?_
          refine lv_icmp_le (tgt := 75) hx hb dX1_beliefAt_68 (by decide) (fun c13 => ?_) (fun c13 => ?_)
          · replace h := gx_t c13 h
            refine lv_iload hx hb dX1_beliefAt_75 (lv_at hl 0 rfl) ?_
            cases h
            exact cc_ret hx hb hr rfl hQ hK hP hD hS rfl dX1_beliefAt_77 hlocks
          · replace h := gx_f c13 h
            refine lv_iload_n hx hb dX1_beliefAt_71 rfl (lv_at hl 1 rfl) ?_
            refine lv_goto (tgt := 77) hx hb dX1_beliefAt_72 (by decide) ?_
            cases h
            exact cc_ret hx hb hr rfl hQ hK hP hD hS rfl dX1_beliefAt_77 hlocks
      · replace h := gx_t c9 h
        refine lv_iload_n hx hb dX1_beliefAt_44 rfl (lv_at hl 0 rfl) ?_
        cases h
        exact cc_ret hx hb hr rfl hQ hK hP hD hS rfl dX1_beliefAt_45 hlocks
    · replace h := gx_t c5 h
      refine lv_aload_n hx hb dX1_beliefAt_21 rfl (lv_at hl 2 rfl) ?_
      refine lv_iload_n hx hb dX1_beliefAt_22 rfl (lv_at hl 1 rfl) ?_
      obtain ⟨y14, hc15, h⟩ := gx_bind h
      refine cc_iV (As := [.int p0]) (rest := []) ⟨hx, hb, hml, hown, hts⟩ (k_X8_speedAt l D cI cZ ad u p0 hc15) (cwV 1 hts (gwV mw_368 mw_369 mw_370 mw_49 mw_371) rfl rfl rfl (by decide +kernel) ⟨Nat.le_of_ble_eq_true rfl, Nat.le_of_ble_eq_true rfl⟩) hK hP hD hS hA hZ (ci := 8) (q0 := 1) rfl rfl rfl hl.1 rfl (Nat.le_of_ble_eq_true rfl) dX1_beliefAt_23 ⟨Nat.zero_le _, Nat.zero_le _⟩ (fun H locs hP hD hS => ?_)
      cases h
      exact cc_ret hx hb hr rfl hQ hK hP hD hS rfl dX1_beliefAt_26 hlocks
  · replace h := gx_t c3 h
    refine lv_iconst (v := (-1)) hx hb dX1_beliefAt_10 (by decide) ?_
    cases h
    exact cc_ret hx hb hr rfl hQ hK hP hD hS rfl dX1_beliefAt_11 hlocks

def rX2_has : Room := { frames := 1, cells := 0, slots := 0, locals := 22 }
set_option maxHeartbeats 4000000 in
set_option maxRecDepth 100000 in
theorem k_X2_has (l : Launch) (D : va_G) (cI cZ : ClassId) (ad : Nat → Nat) (u : GS) (p0 : Int32) {r : Int32} (h : g_X2_has u p0 = some r) : MI l yX2_has (wm yX2_has cX2_has 2 (some .boolean)) rX2_has D [(cI, .int), (cZ, .boolean)] (wC cI cZ ad u) (wC cI cZ ad u) [.ref (ad 6), .int p0] r := by
  intro sz
  refine Met.ofW (cc := cX2_has) (maxL := 2) (ret := (some .boolean)) (by decide) rfl ?_
  intro p e s m args below meth c s₁ B hml hv
  obtain ⟨rfl, hsz, hP, hK, hD0, hZ⟩ := hv
  have hx := B.exec
  have hb := B.bytes
  have hr := B.returns
  have hts : ∀ w ∈ Wall, w.before _ s = true := fun w hw => atoms_spec (ws := wm yX2_has cX2_has 2 (some .boolean)) B.pre w (List.mem_cons_of_mem _ hw)
  have hown : s.vm.findClass RX2 = some m.cls := findClass_of_methodNamed B.named
  have hlocks := B.notSynchronized
  subst hsz
  have hD := hD0.self (sz := s.heap.size)
  generalize hAe : va_A (wC cI cZ ad u) s.heap.size = A at hD hZ ⊢
  have hA : ∀ q : Nat, s.heap.size ≤ q → A q := fun q h => by rw [← hAe]; exact Or.inr h
  have hS : va_S A s.heap s.heap [] := va_S.rf
  have hf21 := hts _ mw_192
  have hl := lv_entry ([.ref (ad 6), .int p0]) (n := 2) (Nat.le_of_ble_eq_true rfl)
  rw [lg_entry_eq]
  generalize (lg_sl ([.ref (ad 6), .int p0]) ++ List.replicate (2 - (lg_sl ([.ref (ad 6), .int p0])).length) Slot.unset).toArray = ls at hl ⊢
  replace hl : lv_has ls 2 [(0, .ref (ad 6)), (1, .int p0)] := hl
  refine w_gen (fun Q hQ => ?_)
  refine lv_iload_n hx hb dX2_has_0 rfl (lv_at hl 1 rfl) ?_
  refine lv_iconst (v := 0) hx hb dX2_has_1 (by decide) ?_
  refine lv_bipush (v := 11) hx hb dX2_has_2 (by decide) ?_
  obtain ⟨y1, hc2, h⟩ := gx_bind h
  refine cc_iSN (As := [.int p0, .int (0 : Int32), .int (11 : Int32)]) (rest := []) ⟨hx, hb, hml, hown, hts⟩ (k_X9_isWithin l D cI cZ ad u p0 (0 : Int32) (11 : Int32) hc2) ⟨va_cnB 3 hts (gwM mw_274) rfl rfl rfl (hZ.1 ("RedcrossGantry$Incidents", 25, yX9_isWithin) (by decide +kernel)) (hts _ mw_48) (by decide +kernel) ⟨Nat.le_of_ble_eq_true rfl, Nat.le_of_ble_eq_true rfl⟩, hts _ mw_273, trivial⟩ hK hP hD hS hA hZ rfl hl.1 rfl (Nat.le_of_ble_eq_true rfl) dX2_has_4 ⟨Nat.zero_le _, Nat.zero_le _⟩ (fun H locs hP hD hS => ?_)
  refine lv_if_eq (tgt := 22) hx hb dX2_has_7 (by decide) (fun c3 => ?_) (fun c3 => ?_)
  · replace h := gx_t c3 h
    refine lv_iconst (v := 0) hx hb dX2_has_22 (by decide) ?_
    cases h
    exact cc_ret hx hb hr rfl hQ hK hP hD hS rfl dX2_has_23 hlocks
  · replace h := gx_f c3 h
    refine lv_iload_n hx hb dX2_has_10 rfl (lv_at hl 1 rfl) ?_
    refine lv_aload_n hx hb dX2_has_11 rfl (lv_at hl 0 rfl) ?_
    refine va_get (D := D) (ci := 2) (v := .int (cI_count u)) (C := RX2) (T := TX2) (N := 4) hx hb hts iX2 hown hK hP 6 rfl rfl 3 (by decide) hf21 (fun _ h9 => h9) rfl dX2_has_12 ?_
    refine lv_icmp_ge (tgt := 22) hx hb dX2_has_15 (by decide) (fun c4 => ?_) (fun c4 => ?_)
    · replace h := gx_t c4 h
      refine lv_iconst (v := 0) hx hb dX2_has_22 (by decide) ?_
      cases h
      exact cc_ret hx hb hr rfl hQ hK hP hD hS rfl dX2_has_23 hlocks
    · replace h := gx_f c4 h
      refine lv_iconst (v := 1) hx hb dX2_has_18 (by decide) ?_
      refine lv_goto (tgt := 23) hx hb dX2_has_19 (by decide) ?_
      cases h
      exact cc_ret hx hb hr rfl hQ hK hP hD hS rfl dX2_has_23 hlocks

def rX2_sectionOf : Room := { frames := 2, cells := 0, slots := 0, locals := 43 }
set_option maxHeartbeats 4000000 in
set_option maxRecDepth 100000 in
theorem k_X2_sectionOf (l : Launch) (D : va_G) (cI cZ : ClassId) (ad : Nat → Nat) (u : GS) (p0 : Int32) {r : Int32} (h : g_X2_sectionOf u p0 = some r) : MI l yX2_sectionOf (wm yX2_sectionOf cX2_sectionOf 2 (some .int)) rX2_sectionOf D [(cI, .int), (cZ, .boolean)] (wC cI cZ ad u) (wC cI cZ ad u) [.ref (ad 6), .int p0] r := by
  intro sz
  refine Met.ofW (cc := cX2_sectionOf) (maxL := 2) (ret := (some .int)) (by decide) rfl ?_
  intro p e s m args below meth c s₁ B hml hv
  obtain ⟨rfl, hsz, hP, hK, hD0, hZ⟩ := hv
  have hx := B.exec
  have hb := B.bytes
  have hr := B.returns
  have hts : ∀ w ∈ Wall, w.before _ s = true := fun w hw => atoms_spec (ws := wm yX2_sectionOf cX2_sectionOf 2 (some .int)) B.pre w (List.mem_cons_of_mem _ hw)
  have hown : s.vm.findClass RX2 = some m.cls := findClass_of_methodNamed B.named
  have hlocks := B.notSynchronized
  subst hsz
  have hD := hD0.self (sz := s.heap.size)
  generalize hAe : va_A (wC cI cZ ad u) s.heap.size = A at hD hZ ⊢
  have hA : ∀ q : Nat, s.heap.size ≤ q → A q := fun q h => by rw [← hAe]; exact Or.inr h
  have hS : va_S A s.heap s.heap [] := va_S.rf
  have hf11 := hts _ mw_186
  have hl := lv_entry ([.ref (ad 6), .int p0]) (n := 2) (Nat.le_of_ble_eq_true rfl)
  rw [lg_entry_eq]
  generalize (lg_sl ([.ref (ad 6), .int p0]) ++ List.replicate (2 - (lg_sl ([.ref (ad 6), .int p0])).length) Slot.unset).toArray = ls at hl ⊢
  replace hl : lv_has ls 2 [(0, .ref (ad 6)), (1, .int p0)] := hl
  refine w_gen (fun Q hQ => ?_)
  refine lv_aload_n hx hb dX2_sectionOf_0 rfl (lv_at hl 0 rfl) ?_
  refine lv_iload_n hx hb dX2_sectionOf_1 rfl (lv_at hl 1 rfl) ?_
  obtain ⟨y1, hc2, h⟩ := gx_bind h
  refine cc_iV (As := [.int p0]) (rest := []) ⟨hx, hb, hml, hown, hts⟩ (k_X2_has l D cI cZ ad u p0 hc2) (cwV 1 hts (gwV mw_515 mw_503 mw_504 mw_54 mw_505) rfl rfl rfl (by decide +kernel) ⟨Nat.le_of_ble_eq_true rfl, Nat.le_of_ble_eq_true rfl⟩) hK hP hD hS hA hZ (ci := 2) (q0 := 6) rfl rfl rfl hl.1 rfl (Nat.le_of_ble_eq_true rfl) dX2_sectionOf_2 ⟨Nat.zero_le _, Nat.zero_le _⟩ (fun H locs hP hD hS => ?_)
  refine lv_if_eq (tgt := 19) hx hb dX2_sectionOf_5 (by decide) (fun c3 => ?_) (fun c3 => ?_)
  · replace h := gx_t c3 h
    refine lv_iconst (v := 0) hx hb dX2_sectionOf_19 (by decide) ?_
    cases h
    exact cc_ret hx hb hr rfl hQ hK hP hD hS rfl dX2_sectionOf_20 hlocks
  · replace h := gx_f c3 h
    refine lv_aload_n hx hb dX2_sectionOf_8 rfl (lv_at hl 0 rfl) ?_
    refine va_get (D := D) (ci := 2) (v := .ref (ad 23)) (C := RX2) (T := TX2) (N := 4) hx hb hts iX2 hown hK hP 6 rfl rfl 0 (by decide) hf11 (fun _ h9 => h9) rfl dX2_sectionOf_9 ?_
    refine lv_iload_n hx hb dX2_sectionOf_12 rfl (lv_at hl 1 rfl) ?_
    obtain ⟨b4, h⟩ := gx_in h
    refine va_iald (D := D) hx hb hK hP 23 0 rfl rfl b4 dX2_sectionOf_13 ?_
    refine lv_iconst (v := 4) hx hb dX2_sectionOf_14 (by decide) ?_
    refine lv_idiv hx hb dX2_sectionOf_15 (by decide) ?_
    refine lv_goto (tgt := 20) hx hb dX2_sectionOf_16 (by decide) ?_
    cases h
    exact cc_ret hx hb hr rfl hQ hK hP hD hS rfl dX2_sectionOf_20 hlocks

def rX2_canAdd : Room := { frames := 0, cells := 0, slots := 0, locals := 0 }
set_option maxHeartbeats 4000000 in
set_option maxRecDepth 100000 in
theorem k_X2_canAdd (l : Launch) (D : va_G) (cI cZ : ClassId) (ad : Nat → Nat) (u : GS) (p0 : Int32) {r : Int32} (h : g_X2_canAdd u p0 = some r) : MI l yX2_canAdd (wm yX2_canAdd cX2_canAdd 3 (some .boolean)) rX2_canAdd D [(cI, .int), (cZ, .boolean)] (wC cI cZ ad u) (wC cI cZ ad u) [.ref (ad 6), .int p0] r := by
  intro sz
  refine Met.ofW (cc := cX2_canAdd) (maxL := 3) (ret := (some .boolean)) (by decide) rfl ?_
  intro p e s m args below meth c s₁ B hml hv
  obtain ⟨rfl, hsz, hP, hK, hD0, hZ⟩ := hv
  have hx := B.exec
  have hb := B.bytes
  have hr := B.returns
  have hts : ∀ w ∈ Wall, w.before _ s = true := fun w hw => atoms_spec (ws := wm yX2_canAdd cX2_canAdd 3 (some .boolean)) B.pre w (List.mem_cons_of_mem _ hw)
  have hown : s.vm.findClass RX2 = some m.cls := findClass_of_methodNamed B.named
  have hlocks := B.notSynchronized
  subst hsz
  have hD := hD0.self (sz := s.heap.size)
  generalize hAe : va_A (wC cI cZ ad u) s.heap.size = A at hD hZ ⊢
  have hA : ∀ q : Nat, s.heap.size ≤ q → A q := fun q h => by rw [← hAe]; exact Or.inr h
  have hS : va_S A s.heap s.heap [] := va_S.rf
  have hf21 := hts _ mw_192
  have hf11 := hts _ mw_186
  have hf15 := hts _ mw_188
  have hl := lv_entry ([.ref (ad 6), .int p0]) (n := 3) (Nat.le_of_ble_eq_true rfl)
  rw [lg_entry_eq]
  generalize (lg_sl ([.ref (ad 6), .int p0]) ++ List.replicate (3 - (lg_sl ([.ref (ad 6), .int p0])).length) Slot.unset).toArray = ls at hl ⊢
  replace hl : lv_has ls 3 [(0, .ref (ad 6)), (1, .int p0)] := hl
  refine w_gen (fun Q hQ => ?_)
  refine lv_iconst (v := 0) hx hb dX2_canAdd_0 (by decide) ?_
  refine lv_istore_n (lv' := [(2, .int (0 : Int32)), (0, .ref (ad 6)), (1, .int p0)]) hx hb dX2_canAdd_1 rfl hl (by decide) rfl (fun ls hl => ?_)
  have hL2 : ∀ (k : Unit → Option (Int32)) (hk : ∀ (H : Heap) (locs : List Loc) (ls : Array Slot), k () = some r → va_P D vwCl (wC cI cZ ad u) H → va_D A (wC cI cZ ad u) → va_S A s.heap H locs → lv_has ls 3 [(0, .ref (ad 6))] → W p l e rX2_canAdd s m ([.ref (ad 6), .int p0] : List Value).toArray below meth c H locs 0 0 Q (F0 m 44 ls [])) (n : Nat) (x2_2 : Int32) (H : Heap) (locs : List Loc) (ls : Array Slot), lp_X2_canAdd_2 u p0 k n x2_2 = some r → va_P D vwCl (wC cI cZ ad u) H → va_D A (wC cI cZ ad u) → va_S A s.heap H locs → lv_has ls 3 [(0, .ref (ad 6)), (1, .int p0), (2, .int x2_2)] → W p l e rX2_canAdd s m ([.ref (ad 6), .int p0] : List Value).toArray below meth c H locs 0 0 Q (F0 m 2 ls []) := by
    intro k hk n
    induction n with
    | zero =>
      intro x2_2 H locs ls h
      rw [lp_X2_canAdd_2] at h
      cases h
    | succ n ih =>
      intro x2_2 H locs ls h hP hD hS hl
      rw [lp_X2_canAdd_2] at h
      refine lv_iload_n hx hb dX2_canAdd_2 rfl (lv_at hl 2 rfl) ?_
      refine lv_bipush (v := 12) hx hb dX2_canAdd_3 (by decide) ?_
      refine lv_icmp_ge (tgt := 44) hx hb dX2_canAdd_5 (by decide) (fun c1 => ?_) (fun c1 => ?_)
      · replace h := gx_t c1 h
        exact hk _ _ _ h hP hD hS (lv_sub hl [0] rfl)
      · replace h := gx_f c1 h
        refine lv_iload_n hx hb dX2_canAdd_8 rfl (lv_at hl 2 rfl) ?_
        refine lv_aload_n hx hb dX2_canAdd_9 rfl (lv_at hl 0 rfl) ?_
        refine va_get (D := D) (ci := 2) (v := .int (cI_count u)) (C := RX2) (T := TX2) (N := 4) hx hb hts iX2 hown hK hP 6 rfl rfl 3 (by decide) hf21 (fun _ h9 => h9) rfl dX2_canAdd_10 ?_
        obtain ⟨j38_2, ej38_2, h⟩ := gx_let h
        have hj38_2 : ∀ (H : Heap) (locs : List Loc) (ls : Array Slot), j38_2 () = some r → va_P D vwCl (wC cI cZ ad u) H → va_D A (wC cI cZ ad u) → va_S A s.heap H locs → lv_has ls 3 [(0, .ref (ad 6)), (1, .int p0), (2, .int x2_2)] → W p l e rX2_canAdd s m ([.ref (ad 6), .int p0] : List Value).toArray below meth c H locs 0 0 Q (F0 m 38 ls []) := by
          intro  H locs ls h hP hD hS hl
          subst ej38_2
          obtain ⟨v3, ev3, h⟩ := gx_let h
          refine lv_iinc (v := v3) (lv' := [(2, .int v3), (0, .ref (ad 6)), (1, .int p0)]) hx hb dX2_canAdd_38 hl (k := 2) rfl (by rw [← ev3]; rfl) (by decide) rfl (fun ls hl => ?_)
          refine lv_goto (tgt := 2) hx hb dX2_canAdd_41 (by decide) ?_
          exact ih v3 _ _ _ h hP hD hS (lv_sub hl [1, 2, 0] rfl)
        refine lv_icmp_ge (tgt := 38) hx hb dX2_canAdd_13 (by decide) (fun c4 => ?_) (fun c4 => ?_)
        · replace h := gx_t c4 h
          exact hj38_2 _ _ _ h hP hD hS (lv_sub hl [0, 1, 2] rfl)
        · replace h := gx_f c4 h
          refine lv_aload_n hx hb dX2_canAdd_16 rfl (lv_at hl 0 rfl) ?_
          refine va_get (D := D) (ci := 2) (v := .ref (ad 23)) (C := RX2) (T := TX2) (N := 4) hx hb hts iX2 hown hK hP 6 rfl rfl 0 (by decide) hf11 (fun _ h9 => h9) rfl dX2_canAdd_17 ?_
          refine lv_iload_n hx hb dX2_canAdd_20 rfl (lv_at hl 2 rfl) ?_
          obtain ⟨b5, h⟩ := gx_in h
          refine va_iald (D := D) hx hb hK hP 23 0 rfl rfl b5 dX2_canAdd_21 ?_
          refine lv_iload_n hx hb dX2_canAdd_22 rfl (lv_at hl 1 rfl) ?_
          refine lv_icmp_ne (tgt := 38) hx hb dX2_canAdd_23 (by decide) (fun c6 => ?_) (fun c6 => ?_)
          · replace h := gx_f c6 h
            exact hj38_2 _ _ _ h hP hD hS (lv_sub hl [0, 1, 2] rfl)
          · replace h := gx_t c6 h
            refine lv_aload_n hx hb dX2_canAdd_26 rfl (lv_at hl 0 rfl) ?_
            refine va_get (D := D) (ci := 2) (v := .ref (ad 24)) (C := RX2) (T := TX2) (N := 4) hx hb hts iX2 hown hK hP 6 rfl rfl 1 (by decide) hf15 (fun _ h9 => h9) rfl dX2_canAdd_27 ?_
            refine lv_iload_n hx hb dX2_canAdd_30 rfl (lv_at hl 2 rfl) ?_
            obtain ⟨b7, h⟩ := gx_in h
            refine va_iald (D := D) hx hb hK hP 24 0 rfl rfl b7 dX2_canAdd_31 ?_
            refine lv_iconst (v := 2) hx hb dX2_canAdd_32 (by decide) ?_
            refine lv_icmp_eq (tgt := 38) hx hb dX2_canAdd_33 (by decide) (fun c8 => ?_) (fun c8 => ?_)
            · replace h := gx_t c8 h
              exact hj38_2 _ _ _ h hP hD hS (lv_sub hl [0, 1, 2] rfl)
            · replace h := gx_f c8 h
              refine lv_iconst (v := 0) hx hb dX2_canAdd_36 (by decide) ?_
              cases h
              exact cc_ret hx hb hr rfl hQ hK hP hD hS rfl dX2_canAdd_37 hlocks
  refine hL2 _ (fun H locs ls h hP hD hS hl => ?_) FU (0 : Int32) _ _ _ h hP hD hS (lv_sub hl [1, 2, 0] rfl)
  refine lv_aload_n hx hb dX2_canAdd_44 rfl (lv_at hl 0 rfl) ?_
  refine va_get (D := D) (ci := 2) (v := .int (cI_count u)) (C := RX2) (T := TX2) (N := 4) hx hb hts iX2 hown hK hP 6 rfl rfl 3 (by decide) hf21 (fun _ h9 => h9) rfl dX2_canAdd_45 ?_
  refine lv_bipush (v := 12) hx hb dX2_canAdd_48 (by decide) ?_
  refine lv_icmp_ge (tgt := 57) hx hb dX2_canAdd_50 (by decide) (fun c9 => ?_) (fun c9 => ?_)
  · replace h := gx_t c9 h
    refine lv_iconst (v := 0) hx hb dX2_canAdd_57 (by decide) ?_
    cases h
    exact cc_ret hx hb hr rfl hQ hK hP hD hS rfl dX2_canAdd_58 hlocks
  · replace h := gx_f c9 h
    refine lv_iconst (v := 1) hx hb dX2_canAdd_53 (by decide) ?_
    refine lv_goto (tgt := 58) hx hb dX2_canAdd_54 (by decide) ?_
    cases h
    exact cc_ret hx hb hr rfl hQ hK hP hD hS rfl dX2_canAdd_58 hlocks

def rX2_add : Room := { frames := 1, cells := 0, slots := 0, locals := 22 }
set_option maxHeartbeats 4000000 in
set_option maxRecDepth 100000 in
theorem k_X2_add (l : Launch) (D : va_G) (cI cZ : ClassId) (ad : Nat → Nat) (u : GS) (p0 : Int32) {r : Int32} {w' : GS} (h : g_X2_add u p0 = some (r, w')) : MI l yX2_add (wm yX2_add cX2_add 2 (some .int)) rX2_add D [(cI, .int), (cZ, .boolean)] (wC cI cZ ad u) (wC cI cZ ad w') [.ref (ad 6), .int p0] r := by
  intro sz
  refine Met.ofW (cc := cX2_add) (maxL := 2) (ret := (some .int)) (by decide) rfl ?_
  intro p e s m args below meth c s₁ B hml hv
  obtain ⟨rfl, hsz, hP, hK, hD0, hZ⟩ := hv
  have hx := B.exec
  have hb := B.bytes
  have hr := B.returns
  have hts : ∀ w ∈ Wall, w.before _ s = true := fun w hw => atoms_spec (ws := wm yX2_add cX2_add 2 (some .int)) B.pre w (List.mem_cons_of_mem _ hw)
  have hown : s.vm.findClass RX2 = some m.cls := findClass_of_methodNamed B.named
  have hlocks := B.notSynchronized
  subst hsz
  have hD := hD0.self (sz := s.heap.size)
  generalize hAe : va_A (wC cI cZ ad u) s.heap.size = A at hD hZ ⊢
  have hA : ∀ q : Nat, s.heap.size ≤ q → A q := fun q h => by rw [← hAe]; exact Or.inr h
  have hS : va_S A s.heap s.heap [] := va_S.rf
  have hf21 := hts _ mw_192
  have hf11 := hts _ mw_186
  have hf15 := hts _ mw_188
  have hf18 := hts _ mw_190
  have hl := lv_entry ([.ref (ad 6), .int p0]) (n := 2) (Nat.le_of_ble_eq_true rfl)
  rw [lg_entry_eq]
  generalize (lg_sl ([.ref (ad 6), .int p0]) ++ List.replicate (2 - (lg_sl ([.ref (ad 6), .int p0])).length) Slot.unset).toArray = ls at hl ⊢
  replace hl : lv_has ls 2 [(0, .ref (ad 6)), (1, .int p0)] := hl
  refine w_gen (fun Q hQ => ?_)
  refine lv_aload_n hx hb dX2_add_0 rfl (lv_at hl 0 rfl) ?_
  refine va_get (D := D) (ci := 2) (v := .int (cI_count u)) (C := RX2) (T := TX2) (N := 4) hx hb hts iX2 hown hK hP 6 rfl rfl 3 (by decide) hf21 (fun _ h9 => h9) rfl dX2_add_1 ?_
  refine lv_iconst (v := 0) hx hb dX2_add_4 (by decide) ?_
  refine lv_bipush (v := 11) hx hb dX2_add_5 (by decide) ?_
  obtain ⟨y1, hc2, h⟩ := gx_bind h
  refine cc_iSN (As := [.int (cI_count u), .int (0 : Int32), .int (11 : Int32)]) (rest := []) ⟨hx, hb, hml, hown, hts⟩ (k_X9_isWithin l D cI cZ ad u (cI_count u) (0 : Int32) (11 : Int32) hc2) ⟨va_cnB 3 hts (gwM mw_274) rfl rfl rfl (hZ.1 ("RedcrossGantry$Incidents", 25, yX9_isWithin) (by decide +kernel)) (hts _ mw_48) (by decide +kernel) ⟨Nat.le_of_ble_eq_true rfl, Nat.le_of_ble_eq_true rfl⟩, hts _ mw_273, trivial⟩ hK hP hD hS hA hZ rfl hl.1 rfl (Nat.le_of_ble_eq_true rfl) dX2_add_7 ⟨Nat.zero_le _, Nat.zero_le _⟩ (fun H locs hP hD hS => ?_)
  refine lv_if_ne (tgt := 15) hx hb dX2_add_10 (by decide) (fun c3 => ?_) (fun c3 => ?_)
  · replace h := gx_f c3 h
    refine lv_aload_n hx hb dX2_add_15 rfl (lv_at hl 0 rfl) ?_
    refine va_get (D := D) (ci := 2) (v := .ref (ad 23)) (C := RX2) (T := TX2) (N := 4) hx hb hts iX2 hown hK hP 6 rfl rfl 0 (by decide) hf11 (fun _ h9 => h9) rfl dX2_add_16 ?_
    refine lv_aload_n hx hb dX2_add_19 rfl (lv_at hl 0 rfl) ?_
    refine va_get (D := D) (ci := 2) (v := .int (cI_count u)) (C := RX2) (T := TX2) (N := 4) hx hb hts iX2 hown hK hP 6 rfl rfl 3 (by decide) hf21 (fun _ h9 => h9) rfl dX2_add_20 ?_
    refine lv_iload_n hx hb dX2_add_23 rfl (lv_at hl 1 rfl) ?_
    obtain ⟨b4, h⟩ := gx_in h
    refine va_iast (D := D) hx hb hK hP hD hS 23 0 rfl rfl b4 dX2_add_24 (fun H locs hP hD hS => ?_)
    obtain ⟨u5, eu5, h⟩ := gx_let h
    replace hP : va_P D vwCl (wC cI cZ ad u5) H := by rw [← eu5]; exact hP
    replace hD : va_D A (wC cI cZ ad u5) := by rw [← eu5]; exact hD
    refine lv_aload_n hx hb dX2_add_25 rfl (lv_at hl 0 rfl) ?_
    refine va_get (D := D) (ci := 2) (v := .ref (ad 24)) (C := RX2) (T := TX2) (N := 4) hx hb hts iX2 hown hK hP 6 rfl rfl 1 (by decide) hf15 (fun _ h9 => h9) rfl dX2_add_26 ?_
    refine lv_aload_n hx hb dX2_add_29 rfl (lv_at hl 0 rfl) ?_
    refine va_get (D := D) (ci := 2) (v := .int (cI_count u5)) (C := RX2) (T := TX2) (N := 4) hx hb hts iX2 hown hK hP 6 rfl rfl 3 (by decide) hf21 (fun _ h9 => h9) rfl dX2_add_30 ?_
    refine lv_iconst (v := 0) hx hb dX2_add_33 (by decide) ?_
    obtain ⟨b6, h⟩ := gx_in h
    refine va_iast (D := D) hx hb hK hP hD hS 24 0 rfl rfl b6 dX2_add_34 (fun H locs hP hD hS => ?_)
    obtain ⟨u7, eu7, h⟩ := gx_let h
    replace hP : va_P D vwCl (wC cI cZ ad u7) H := by rw [← eu7]; exact hP
    replace hD : va_D A (wC cI cZ ad u7) := by rw [← eu7]; exact hD
    refine lv_aload_n hx hb dX2_add_35 rfl (lv_at hl 0 rfl) ?_
    refine va_get (D := D) (ci := 2) (v := .ref (ad 25)) (C := RX2) (T := TX2) (N := 4) hx hb hts iX2 hown hK hP 6 rfl rfl 2 (by decide) hf18 (fun _ h9 => h9) rfl dX2_add_36 ?_
    refine lv_aload_n hx hb dX2_add_39 rfl (lv_at hl 0 rfl) ?_
    refine va_get (D := D) (ci := 2) (v := .int (cI_count u7)) (C := RX2) (T := TX2) (N := 4) hx hb hts iX2 hown hK hP 6 rfl rfl 3 (by decide) hf21 (fun _ h9 => h9) rfl dX2_add_40 ?_
    refine lv_iconst (v := (-1)) hx hb dX2_add_43 (by decide) ?_
    obtain ⟨b8, h⟩ := gx_in h
    refine va_iast (D := D) hx hb hK hP hD hS 25 0 rfl rfl b8 dX2_add_44 (fun H locs hP hD hS => ?_)
    obtain ⟨u9, eu9, h⟩ := gx_let h
    replace hP : va_P D vwCl (wC cI cZ ad u9) H := by rw [← eu9]; exact hP
    replace hD : va_D A (wC cI cZ ad u9) := by rw [← eu9]; exact hD
    refine lv_aload_n hx hb dX2_add_45 rfl (lv_at hl 0 rfl) ?_
    refine lv_dup hx hb dX2_add_46 rfl ?_
    refine va_get (D := D) (ci := 2) (v := .int (cI_count u9)) (C := RX2) (T := TX2) (N := 4) hx hb hts iX2 hown hK hP 6 rfl rfl 3 (by decide) hf21 (fun _ h9 => h9) rfl dX2_add_47 ?_
    refine lv_iconst (v := 1) hx hb dX2_add_50 (by decide) ?_
    refine lv_iadd hx hb dX2_add_51 ?_
    refine va_put (D := D) (ci := 2) (v := .int ((cI_count u9) + (1 : Int32))) (ty := .int) (C := RX2) (T := TX2) (N := 4) hx hb hts iX2 tyX2 tyX2_ok nmX2 hown hK hP hD hS 6 rfl rfl 3 (by decide) hf21 (fun _ h9 => h9) rfl (by decide +kernel) rfl rfl (Nat.le_of_ble_eq_true rfl) dX2_add_52 (fun H locs hP hD hS => ?_)
    obtain ⟨u10, eu10, h⟩ := gx_let h
    replace hP : va_P D vwCl (wC cI cZ ad u10) H := by rw [← eu10]; exact hP
    replace hD : va_D A (wC cI cZ ad u10) := by rw [← eu10]; exact hD
    refine lv_aload_n hx hb dX2_add_55 rfl (lv_at hl 0 rfl) ?_
    refine va_get (D := D) (ci := 2) (v := .int (cI_count u10)) (C := RX2) (T := TX2) (N := 4) hx hb hts iX2 hown hK hP 6 rfl rfl 3 (by decide) hf21 (fun _ h9 => h9) rfl dX2_add_56 ?_
    refine lv_iconst (v := 1) hx hb dX2_add_59 (by decide) ?_
    refine lv_isub hx hb dX2_add_60 ?_
    cases h
    exact cc_ret hx hb hr rfl hQ hK hP hD hS rfl dX2_add_61 hlocks
  · replace h := gx_t c3 h
    refine lv_iconst (v := (-1)) hx hb dX2_add_13 (by decide) ?_
    cases h
    exact cc_ret hx hb hr rfl hQ hK hP hD hS rfl dX2_add_14 hlocks

def rX2_tellCrosses : Room := { frames := 1, cells := 0, slots := 0, locals := 22 }
set_option maxHeartbeats 4000000 in
set_option maxRecDepth 100000 in
theorem k_X2_tellCrosses (l : Launch) (D : va_G) (cI cZ : ClassId) (ad : Nat → Nat) (u : GS) {w' : GS} (h : g_X2_tellCrosses u = some w') : MV l yX2_tellCrosses (wm yX2_tellCrosses cX2_tellCrosses 3 none) rX2_tellCrosses D [(cI, .int), (cZ, .boolean)] (wC cI cZ ad u) (wC cI cZ ad w') [.ref (ad 6), .ref (ad 19)] := by
  intro sz
  refine Met.ofW (cc := cX2_tellCrosses) (maxL := 3) (ret := none) (by decide) rfl ?_
  intro p e s m args below meth c s₁ B hml hv
  obtain ⟨rfl, hsz, hP, hK, hD0, hZ⟩ := hv
  have hx := B.exec
  have hb := B.bytes
  have hr := B.returns
  have hts : ∀ w ∈ Wall, w.before _ s = true := fun w hw => atoms_spec (ws := wm yX2_tellCrosses cX2_tellCrosses 3 none) B.pre w (List.mem_cons_of_mem _ hw)
  have hown : s.vm.findClass RX2 = some m.cls := findClass_of_methodNamed B.named
  have hlocks := B.notSynchronized
  subst hsz
  have hD := hD0.self (sz := s.heap.size)
  generalize hAe : va_A (wC cI cZ ad u) s.heap.size = A at hD hZ ⊢
  have hA : ∀ q : Nat, s.heap.size ≤ q → A q := fun q h => by rw [← hAe]; exact Or.inr h
  have hS : va_S A s.heap s.heap [] := va_S.rf
  have hf21 := hts _ mw_192
  have hf15 := hts _ mw_188
  have hf11 := hts _ mw_186
  have hl := lv_entry ([.ref (ad 6), .ref (ad 19)]) (n := 3) (Nat.le_of_ble_eq_true rfl)
  rw [lg_entry_eq]
  generalize (lg_sl ([.ref (ad 6), .ref (ad 19)]) ++ List.replicate (3 - (lg_sl ([.ref (ad 6), .ref (ad 19)])).length) Slot.unset).toArray = ls at hl ⊢
  replace hl : lv_has ls 3 [(0, .ref (ad 6)), (1, .ref (ad 19))] := hl
  refine w_gen (fun Q hQ => ?_)
  refine lv_iconst (v := 0) hx hb dX2_tellCrosses_0 (by decide) ?_
  refine lv_istore_n (lv' := [(2, .int (0 : Int32)), (0, .ref (ad 6)), (1, .ref (ad 19))]) hx hb dX2_tellCrosses_1 rfl hl (by decide) rfl (fun ls hl => ?_)
  have hL2 : ∀ (k : GS → Option (GS)) (hk : ∀ (w2 : GS) (H : Heap) (locs : List Loc) (ls : Array Slot), k w2 = some w' → va_P D vwCl (wC cI cZ ad w2) H → va_D A (wC cI cZ ad w2) → va_S A s.heap H locs → lv_has ls 3 [] → W p l e rX2_tellCrosses s m ([.ref (ad 6), .ref (ad 19)] : List Value).toArray below meth c H locs 0 0 Q (F0 m 56 ls [])) (n : Nat) (x2_2 : Int32) (w2 : GS) (H : Heap) (locs : List Loc) (ls : Array Slot), lp_X2_tellCrosses_2 k n x2_2 w2 = some w' → va_P D vwCl (wC cI cZ ad w2) H → va_D A (wC cI cZ ad w2) → va_S A s.heap H locs → lv_has ls 3 [(0, .ref (ad 6)), (1, .ref (ad 19)), (2, .int x2_2)] → W p l e rX2_tellCrosses s m ([.ref (ad 6), .ref (ad 19)] : List Value).toArray below meth c H locs 0 0 Q (F0 m 2 ls []) := by
    intro k hk n
    induction n with
    | zero =>
      intro x2_2 w2 H locs ls h
      rw [lp_X2_tellCrosses_2] at h
      cases h
    | succ n ih =>
      intro x2_2 w2 H locs ls h hP hD hS hl
      rw [lp_X2_tellCrosses_2] at h
      refine lv_iload_n hx hb dX2_tellCrosses_2 rfl (lv_at hl 2 rfl) ?_
      refine lv_bipush (v := 12) hx hb dX2_tellCrosses_3 (by decide) ?_
      refine lv_icmp_ge (tgt := 56) hx hb dX2_tellCrosses_5 (by decide) (fun c1 => ?_) (fun c1 => ?_)
      · replace h := gx_t c1 h
        exact hk w2 _ _ _ h hP hD hS (lv_sub hl [] rfl)
      · replace h := gx_f c1 h
        refine lv_iload_n hx hb dX2_tellCrosses_8 rfl (lv_at hl 2 rfl) ?_
        refine lv_aload_n hx hb dX2_tellCrosses_9 rfl (lv_at hl 0 rfl) ?_
        refine va_get (D := D) (ci := 2) (v := .int (cI_count w2)) (C := RX2) (T := TX2) (N := 4) hx hb hts iX2 hown hK hP 6 rfl rfl 3 (by decide) hf21 (fun _ h9 => h9) rfl dX2_tellCrosses_10 ?_
        obtain ⟨j50_2, ej50_2, h⟩ := gx_let h
        have hj50_2 : ∀ (w50 : GS) (H : Heap) (locs : List Loc) (ls : Array Slot), j50_2 w50 = some w' → va_P D vwCl (wC cI cZ ad w50) H → va_D A (wC cI cZ ad w50) → va_S A s.heap H locs → lv_has ls 3 [(0, .ref (ad 6)), (1, .ref (ad 19)), (2, .int x2_2)] → W p l e rX2_tellCrosses s m ([.ref (ad 6), .ref (ad 19)] : List Value).toArray below meth c H locs 0 0 Q (F0 m 50 ls []) := by
          intro w50 H locs ls h hP hD hS hl
          subst ej50_2
          obtain ⟨v3, ev3, h⟩ := gx_let h
          refine lv_iinc (v := v3) (lv' := [(2, .int v3), (0, .ref (ad 6)), (1, .ref (ad 19))]) hx hb dX2_tellCrosses_50 hl (k := 2) rfl (by rw [← ev3]; rfl) (by decide) rfl (fun ls hl => ?_)
          refine lv_goto (tgt := 2) hx hb dX2_tellCrosses_53 (by decide) ?_
          exact ih v3 w50 _ _ _ h hP hD hS (lv_sub hl [1, 2, 0] rfl)
        refine lv_icmp_ge (tgt := 50) hx hb dX2_tellCrosses_13 (by decide) (fun c4 => ?_) (fun c4 => ?_)
        · replace h := gx_t c4 h
          exact hj50_2 w2 _ _ _ h hP hD hS (lv_sub hl [0, 1, 2] rfl)
        · replace h := gx_f c4 h
          refine lv_aload_n hx hb dX2_tellCrosses_16 rfl (lv_at hl 0 rfl) ?_
          refine va_get (D := D) (ci := 2) (v := .ref (ad 24)) (C := RX2) (T := TX2) (N := 4) hx hb hts iX2 hown hK hP 6 rfl rfl 1 (by decide) hf15 (fun _ h9 => h9) rfl dX2_tellCrosses_17 ?_
          refine lv_iload_n hx hb dX2_tellCrosses_20 rfl (lv_at hl 2 rfl) ?_
          obtain ⟨b5, h⟩ := gx_in h
          refine va_iald (D := D) hx hb hK hP 24 0 rfl rfl b5 dX2_tellCrosses_21 ?_
          refine lv_iconst (v := 1) hx hb dX2_tellCrosses_22 (by decide) ?_
          refine lv_icmp_ne (tgt := 50) hx hb dX2_tellCrosses_23 (by decide) (fun c6 => ?_) (fun c6 => ?_)
          · replace h := gx_f c6 h
            exact hj50_2 w2 _ _ _ h hP hD hS (lv_sub hl [0, 1, 2] rfl)
          · replace h := gx_t c6 h
            refine lv_aload_n hx hb dX2_tellCrosses_26 rfl (lv_at hl 0 rfl) ?_
            refine va_get (D := D) (ci := 2) (v := .ref (ad 23)) (C := RX2) (T := TX2) (N := 4) hx hb hts iX2 hown hK hP 6 rfl rfl 0 (by decide) hf11 (fun _ h9 => h9) rfl dX2_tellCrosses_27 ?_
            refine lv_iload_n hx hb dX2_tellCrosses_30 rfl (lv_at hl 2 rfl) ?_
            obtain ⟨b7, h⟩ := gx_in h
            refine va_iald (D := D) hx hb hK hP 23 0 rfl rfl b7 dX2_tellCrosses_31 ?_
            refine lv_iconst (v := 0) hx hb dX2_tellCrosses_32 (by decide) ?_
            refine lv_bipush (v := 47) hx hb dX2_tellCrosses_33 (by decide) ?_
            obtain ⟨y8, hc9, h⟩ := gx_bind h
            refine cc_iSN (As := [.int (cI_places w2 x2_2.toNatClampNeg), .int (0 : Int32), .int (47 : Int32)]) (rest := []) ⟨hx, hb, hml, hown, hts⟩ (k_X9_isWithin l D cI cZ ad w2 (cI_places w2 x2_2.toNatClampNeg) (0 : Int32) (47 : Int32) hc9) ⟨va_cnB 3 hts (gwM mw_274) rfl rfl rfl (hZ.1 ("RedcrossGantry$Incidents", 25, yX9_isWithin) (by decide +kernel)) (hts _ mw_48) (by decide +kernel) ⟨Nat.le_of_ble_eq_true rfl, Nat.le_of_ble_eq_true rfl⟩, hts _ mw_273, trivial⟩ hK hP hD hS hA hZ rfl hl.1 rfl (Nat.le_of_ble_eq_true rfl) dX2_tellCrosses_35 ⟨Nat.zero_le _, Nat.zero_le _⟩ (fun H locs hP hD hS => ?_)
            refine lv_if_eq (tgt := 50) hx hb dX2_tellCrosses_38 (by decide) (fun c10 => ?_) (fun c10 => ?_)
            · replace h := gx_t c10 h
              exact hj50_2 w2 _ _ _ h hP hD hS (lv_sub hl [0, 1, 2] rfl)
            · replace h := gx_f c10 h
              refine lv_aload_n hx hb dX2_tellCrosses_41 rfl (lv_at hl 1 rfl) ?_
              refine lv_aload_n hx hb dX2_tellCrosses_42 rfl (lv_at hl 0 rfl) ?_
              refine va_get (D := D) (ci := 2) (v := .ref (ad 23)) (C := RX2) (T := TX2) (N := 4) hx hb hts iX2 hown hK hP 6 rfl rfl 0 (by decide) hf11 (fun _ h9 => h9) rfl dX2_tellCrosses_43 ?_
              refine lv_iload_n hx hb dX2_tellCrosses_46 rfl (lv_at hl 2 rfl) ?_
              obtain ⟨b11, h⟩ := gx_in h
              refine va_iald (D := D) hx hb hK hP 23 0 rfl rfl b11 dX2_tellCrosses_47 ?_
              refine lv_iconst (v := 2) hx hb dX2_tellCrosses_48 (by decide) ?_
              obtain ⟨b12, h⟩ := gx_in h
              refine va_iast (D := D) hx hb hK hP hD hS 19 0 rfl rfl b12 dX2_tellCrosses_49 (fun H locs hP hD hS => ?_)
              obtain ⟨u13, eu13, h⟩ := gx_let h
              replace hP : va_P D vwCl (wC cI cZ ad u13) H := by rw [← eu13]; exact hP
              replace hD : va_D A (wC cI cZ ad u13) := by rw [← eu13]; exact hD
              exact hj50_2 u13 _ _ _ h hP hD hS (lv_sub hl [0, 1, 2] rfl)
  refine hL2 _ (fun w2 H locs ls h hP hD hS hl => ?_) FU (0 : Int32) u _ _ _ h hP hD hS (lv_sub hl [1, 2, 0] rfl)
  cases h
  exact cc_vret hx hb hr hQ hK hP hD hS dX2_tellCrosses_56 hlocks

def rX6_tellCrosses : Room := { frames := 1, cells := 0, slots := 0, locals := 21 }
set_option maxHeartbeats 4000000 in
set_option maxRecDepth 100000 in
theorem k_X6_tellCrosses (l : Launch) (D : va_G) (cI cZ : ClassId) (ad : Nat → Nat) (u : GS) {w' : GS} (h : g_X6_tellCrosses u = some w') : MV l yX6_tellCrosses (wm yX6_tellCrosses cX6_tellCrosses 3 none) rX6_tellCrosses D [(cI, .int), (cZ, .boolean)] (wC cI cZ ad u) (wC cI cZ ad w') [.ref (ad 5), .ref (ad 19)] := by
  intro sz
  refine Met.ofW (cc := cX6_tellCrosses) (maxL := 3) (ret := none) (by decide) rfl ?_
  intro p e s m args below meth c s₁ B hml hv
  obtain ⟨rfl, hsz, hP, hK, hD0, hZ⟩ := hv
  have hx := B.exec
  have hb := B.bytes
  have hr := B.returns
  have hts : ∀ w ∈ Wall, w.before _ s = true := fun w hw => atoms_spec (ws := wm yX6_tellCrosses cX6_tellCrosses 3 none) B.pre w (List.mem_cons_of_mem _ hw)
  have hown : s.vm.findClass RX6 = some m.cls := findClass_of_methodNamed B.named
  have hlocks := B.notSynchronized
  subst hsz
  have hD := hD0.self (sz := s.heap.size)
  generalize hAe : va_A (wC cI cZ ad u) s.heap.size = A at hD hZ ⊢
  have hA : ∀ q : Nat, s.heap.size ≤ q → A q := fun q h => by rw [← hAe]; exact Or.inr h
  have hS : va_S A s.heap s.heap [] := va_S.rf
  have hf9 := hts _ mw_172
  have hl := lv_entry ([.ref (ad 5), .ref (ad 19)]) (n := 3) (Nat.le_of_ble_eq_true rfl)
  rw [lg_entry_eq]
  generalize (lg_sl ([.ref (ad 5), .ref (ad 19)]) ++ List.replicate (3 - (lg_sl ([.ref (ad 5), .ref (ad 19)])).length) Slot.unset).toArray = ls at hl ⊢
  replace hl : lv_has ls 3 [(0, .ref (ad 5)), (1, .ref (ad 19))] := hl
  refine w_gen (fun Q hQ => ?_)
  refine lv_iconst (v := 0) hx hb dX6_tellCrosses_0 (by decide) ?_
  refine lv_istore_n (lv' := [(2, .int (0 : Int32)), (0, .ref (ad 5)), (1, .ref (ad 19))]) hx hb dX6_tellCrosses_1 rfl hl (by decide) rfl (fun ls hl => ?_)
  have hL2 : ∀ (k : GS → Option (GS)) (hk : ∀ (w2 : GS) (H : Heap) (locs : List Loc) (ls : Array Slot), k w2 = some w' → va_P D vwCl (wC cI cZ ad w2) H → va_D A (wC cI cZ ad w2) → va_S A s.heap H locs → lv_has ls 3 [] → W p l e rX6_tellCrosses s m ([.ref (ad 5), .ref (ad 19)] : List Value).toArray below meth c H locs 0 0 Q (F0 m 31 ls [])) (n : Nat) (x2_2 : Int32) (w2 : GS) (H : Heap) (locs : List Loc) (ls : Array Slot), lp_X6_tellCrosses_2 k n x2_2 w2 = some w' → va_P D vwCl (wC cI cZ ad w2) H → va_D A (wC cI cZ ad w2) → va_S A s.heap H locs → lv_has ls 3 [(0, .ref (ad 5)), (1, .ref (ad 19)), (2, .int x2_2)] → W p l e rX6_tellCrosses s m ([.ref (ad 5), .ref (ad 19)] : List Value).toArray below meth c H locs 0 0 Q (F0 m 2 ls []) := by
    intro k hk n
    induction n with
    | zero =>
      intro x2_2 w2 H locs ls h
      rw [lp_X6_tellCrosses_2] at h
      cases h
    | succ n ih =>
      intro x2_2 w2 H locs ls h hP hD hS hl
      rw [lp_X6_tellCrosses_2] at h
      refine lv_iload_n hx hb dX6_tellCrosses_2 rfl (lv_at hl 2 rfl) ?_
      refine lv_bipush (v := 12) hx hb dX6_tellCrosses_3 (by decide) ?_
      refine lv_icmp_ge (tgt := 31) hx hb dX6_tellCrosses_5 (by decide) (fun c1 => ?_) (fun c1 => ?_)
      · replace h := gx_t c1 h
        exact hk w2 _ _ _ h hP hD hS (lv_sub hl [] rfl)
      · replace h := gx_f c1 h
        refine lv_aload_n hx hb dX6_tellCrosses_8 rfl (lv_at hl 0 rfl) ?_
        refine va_get (D := D) (ci := 6) (v := .ref (ad 21)) (C := RX6) (T := TX6) (N := 2) hx hb hts iX6 hown hK hP 5 rfl rfl 0 (by decide) hf9 (fun _ h9 => h9) rfl dX6_tellCrosses_9 ?_
        refine lv_iload_n hx hb dX6_tellCrosses_12 rfl (lv_at hl 2 rfl) ?_
        obtain ⟨b2, h⟩ := gx_in h
        refine va_zald (D := D) hx hb hK hP 21 1 rfl rfl b2 dX6_tellCrosses_13 ?_
        obtain ⟨j25_3, ej25_3, h⟩ := gx_let h
        have hj25_3 : ∀ (w25 : GS) (H : Heap) (locs : List Loc) (ls : Array Slot), j25_3 w25 = some w' → va_P D vwCl (wC cI cZ ad w25) H → va_D A (wC cI cZ ad w25) → va_S A s.heap H locs → lv_has ls 3 [(0, .ref (ad 5)), (1, .ref (ad 19)), (2, .int x2_2)] → W p l e rX6_tellCrosses s m ([.ref (ad 5), .ref (ad 19)] : List Value).toArray below meth c H locs 0 0 Q (F0 m 25 ls []) := by
          intro w25 H locs ls h hP hD hS hl
          subst ej25_3
          obtain ⟨v4, ev4, h⟩ := gx_let h
          refine lv_iinc (v := v4) (lv' := [(2, .int v4), (0, .ref (ad 5)), (1, .ref (ad 19))]) hx hb dX6_tellCrosses_25 hl (k := 2) rfl (by rw [← ev4]; rfl) (by decide) rfl (fun ls hl => ?_)
          refine lv_goto (tgt := 2) hx hb dX6_tellCrosses_28 (by decide) ?_
          exact ih v4 w25 _ _ _ h hP hD hS (lv_sub hl [1, 2, 0] rfl)
        refine lv_if_ne (tgt := 25) hx hb dX6_tellCrosses_14 (by decide) (fun c5 => ?_) (fun c5 => ?_)
        · replace h := gx_f c5 h
          exact hj25_3 w2 _ _ _ h hP hD hS (lv_sub hl [0, 1, 2] rfl)
        · replace h := gx_t c5 h
          refine lv_aload_n hx hb dX6_tellCrosses_17 rfl (lv_at hl 1 rfl) ?_
          refine lv_iload_n hx hb dX6_tellCrosses_18 rfl (lv_at hl 2 rfl) ?_
          refine lv_iconst (v := 0) hx hb dX6_tellCrosses_19 (by decide) ?_
          obtain ⟨y6, hc7, h⟩ := gx_bind h
          refine cc_iSN (As := [.int x2_2, .int (0 : Int32)]) (rest := [.ref (ad 19)]) ⟨hx, hb, hml, hown, hts⟩ (k_X9_placeOf l D cI cZ ad w2 x2_2 (0 : Int32) hc7) ⟨va_cnB 2 hts (gwM mw_267) rfl rfl rfl (hZ.1 ("RedcrossGantry$Shoulder", 23, yX9_placeOf) (by decide +kernel)) (hts _ mw_48) (by decide +kernel) ⟨Nat.le_of_ble_eq_true rfl, Nat.le_of_ble_eq_true rfl⟩, hts _ mw_266, trivial⟩ hK hP hD hS hA hZ rfl hl.1 rfl (Nat.le_of_ble_eq_true rfl) dX6_tellCrosses_20 ⟨Nat.zero_le _, Nat.zero_le _⟩ (fun H locs hP hD hS => ?_)
          refine lv_iconst (v := 2) hx hb dX6_tellCrosses_23 (by decide) ?_
          obtain ⟨b8, h⟩ := gx_in h
          refine va_iast (D := D) hx hb hK hP hD hS 19 0 rfl rfl b8 dX6_tellCrosses_24 (fun H locs hP hD hS => ?_)
          obtain ⟨u9, eu9, h⟩ := gx_let h
          replace hP : va_P D vwCl (wC cI cZ ad u9) H := by rw [← eu9]; exact hP
          replace hD : va_D A (wC cI cZ ad u9) := by rw [← eu9]; exact hD
          exact hj25_3 u9 _ _ _ h hP hD hS (lv_sub hl [0, 1, 2] rfl)
  refine hL2 _ (fun w2 H locs ls h hP hD hS hl => ?_) FU (0 : Int32) u _ _ _ h hP hD hS (lv_sub hl [1, 2, 0] rfl)
  cases h
  exact cc_vret hx hb hr hQ hK hP hD hS dX6_tellCrosses_31 hlocks

def rX3_isAheadOfCross_t : Room := { frames := 1, cells := 0, slots := 0, locals := 22 }
set_option maxHeartbeats 4000000 in
set_option maxRecDepth 100000 in
theorem k_X3_isAheadOfCross_t (l : Launch) (D : va_G) (cI cZ : ClassId) (ad : Nat → Nat) (u : GS) (p0 : Int32) {r : Int32} (h : g_X3_isAheadOfCross_t u p0 = some r) : MI l yX3_isAheadOfCross (wm yX3_isAheadOfCross cX3_isAheadOfCross 3 (some .boolean)) rX3_isAheadOfCross_t D [(cI, .int), (cZ, .boolean)] (wC cI cZ ad u) (wC cI cZ ad u) [.int p0, .ref (ad 19)] r := by
  intro sz
  refine Met.ofW (cc := cX3_isAheadOfCross) (maxL := 3) (ret := (some .boolean)) (by decide) rfl ?_
  intro p e s m args below meth c s₁ B hml hv
  obtain ⟨rfl, hsz, hP, hK, hD0, hZ⟩ := hv
  have hx := B.exec
  have hb := B.bytes
  have hr := B.returns
  have hts : ∀ w ∈ Wall, w.before _ s = true := fun w hw => atoms_spec (ws := wm yX3_isAheadOfCross cX3_isAheadOfCross 3 (some .boolean)) B.pre w (List.mem_cons_of_mem _ hw)
  have hown : s.vm.findClass RX3 = some m.cls := findClass_of_methodNamed B.named
  have hlocks := B.notSynchronized
  subst hsz
  have hD := hD0.self (sz := s.heap.size)
  generalize hAe : va_A (wC cI cZ ad u) s.heap.size = A at hD hZ ⊢
  have hA : ∀ q : Nat, s.heap.size ≤ q → A q := fun q h => by rw [← hAe]; exact Or.inr h
  have hS : va_S A s.heap s.heap [] := va_S.rf
  have hl := lv_entry ([.int p0, .ref (ad 19)]) (n := 3) (Nat.le_of_ble_eq_true rfl)
  rw [lg_entry_eq]
  generalize (lg_sl ([.int p0, .ref (ad 19)]) ++ List.replicate (3 - (lg_sl ([.int p0, .ref (ad 19)])).length) Slot.unset).toArray = ls at hl ⊢
  replace hl : lv_has ls 3 [(0, .int p0), (1, .ref (ad 19))] := hl
  refine w_gen (fun Q hQ => ?_)
  refine lv_iload_n hx hb dX3_isAheadOfCross_0 rfl (lv_at hl 0 rfl) ?_
  refine lv_iconst (v := 4) hx hb dX3_isAheadOfCross_1 (by decide) ?_
  refine lv_iadd hx hb dX3_isAheadOfCross_2 ?_
  obtain ⟨v1, ev1, h⟩ := gx_let h
  refine lv_topn ev1 ?_
  refine lv_istore_n (lv' := [(2, .int v1), (0, .int p0), (1, .ref (ad 19))]) hx hb dX3_isAheadOfCross_3 rfl hl (by decide) rfl (fun ls hl => ?_)
  refine lv_iload_n hx hb dX3_isAheadOfCross_4 rfl (lv_at hl 0 rfl) ?_
  refine lv_iconst (v := 0) hx hb dX3_isAheadOfCross_5 (by decide) ?_
  refine lv_bipush (v := 47) hx hb dX3_isAheadOfCross_6 (by decide) ?_
  obtain ⟨y2, hc3, h⟩ := gx_bind h
  refine cc_iSN (As := [.int v1, .int (0 : Int32), .int (47 : Int32)]) (rest := []) ⟨hx, hb, hml, hown, hts⟩ (k_X9_isWithin l D cI cZ ad u v1 (0 : Int32) (47 : Int32) hc3) ⟨va_cnB 3 hts (gwM mw_274) rfl rfl rfl (hZ.1 ("RedcrossGantry$LaneSigns", 39, yX9_isWithin) (by decide +kernel)) (hts _ mw_48) (by decide +kernel) ⟨Nat.le_of_ble_eq_true rfl, Nat.le_of_ble_eq_true rfl⟩, hts _ mw_273, trivial⟩ hK hP hD hS hA hZ rfl hl.1 rfl (Nat.le_of_ble_eq_true rfl) dX3_isAheadOfCross_8 ⟨Nat.zero_le _, Nat.zero_le _⟩ (fun H locs hP hD hS => ?_)
  refine lv_if_eq (tgt := 25) hx hb dX3_isAheadOfCross_11 (by decide) (fun c4 => ?_) (fun c4 => ?_)
  · replace h := gx_t c4 h
    refine lv_iconst (v := 0) hx hb dX3_isAheadOfCross_25 (by decide) ?_
    cases h
    exact cc_ret hx hb hr rfl hQ hK hP hD hS rfl dX3_isAheadOfCross_26 hlocks
  · replace h := gx_f c4 h
    refine lv_aload_n hx hb dX3_isAheadOfCross_14 rfl (lv_at hl 2 rfl) ?_
    refine lv_iload_n hx hb dX3_isAheadOfCross_15 rfl (lv_at hl 0 rfl) ?_
    obtain ⟨b5, h⟩ := gx_in h
    refine va_iald (D := D) hx hb hK hP 19 0 rfl rfl b5 dX3_isAheadOfCross_16 ?_
    refine lv_iconst (v := 2) hx hb dX3_isAheadOfCross_17 (by decide) ?_
    refine lv_icmp_ne (tgt := 25) hx hb dX3_isAheadOfCross_18 (by decide) (fun c6 => ?_) (fun c6 => ?_)
    · replace h := gx_f c6 h
      refine lv_iconst (v := 0) hx hb dX3_isAheadOfCross_25 (by decide) ?_
      cases h
      exact cc_ret hx hb hr rfl hQ hK hP hD hS rfl dX3_isAheadOfCross_26 hlocks
    · replace h := gx_t c6 h
      refine lv_iconst (v := 1) hx hb dX3_isAheadOfCross_21 (by decide) ?_
      refine lv_goto (tgt := 26) hx hb dX3_isAheadOfCross_22 (by decide) ?_
      cases h
      exact cc_ret hx hb hr rfl hQ hK hP hD hS rfl dX3_isAheadOfCross_26 hlocks

def rX3_setAnew : Room := { frames := 3, cells := 0, slots := 0, locals := 69 }
set_option maxHeartbeats 4000000 in
set_option maxRecDepth 100000 in
theorem k_X3_setAnew (l : Launch) (D : va_G) (cI cZ : ClassId) (ad : Nat → Nat) (u : GS) (p0 : Int32) {w' : GS} (h : g_X3_setAnew u p0 = some w') : MV l yX3_setAnew (wm yX3_setAnew cX3_setAnew 6 none) rX3_setAnew D [(cI, .int), (cZ, .boolean)] (wC cI cZ ad u) (wC cI cZ ad w') [.ref (ad 4), .int p0, .ref (ad 5), .ref (ad 6), .ref (ad 8)] := by
  intro sz
  refine Met.ofW (cc := cX3_setAnew) (maxL := 6) (ret := none) (by decide) rfl ?_
  intro p e s m args below meth c s₁ B hml hv
  obtain ⟨rfl, hsz, hP, hK, hD0, hZ⟩ := hv
  have hx := B.exec
  have hb := B.bytes
  have hr := B.returns
  have hts : ∀ w ∈ Wall, w.before _ s = true := fun w hw => atoms_spec (ws := wm yX3_setAnew cX3_setAnew 6 none) B.pre w (List.mem_cons_of_mem _ hw)
  have hown : s.vm.findClass RX3 = some m.cls := findClass_of_methodNamed B.named
  have hlocks := B.notSynchronized
  subst hsz
  have hD := hD0.self (sz := s.heap.size)
  generalize hAe : va_A (wC cI cZ ad u) s.heap.size = A at hD hZ ⊢
  have hA : ∀ q : Nat, s.heap.size ≤ q → A q := fun q h => by rw [← hAe]; exact Or.inr h
  have hS : va_S A s.heap s.heap [] := va_S.rf
  have hf15 := hts _ mw_156
  have hf9 := hts _ mw_154
  have hf18 := hts _ mw_157
  have hl := lv_entry ([.ref (ad 4), .int p0, .ref (ad 5), .ref (ad 6), .ref (ad 8)]) (n := 6) (Nat.le_of_ble_eq_true rfl)
  rw [lg_entry_eq]
  generalize (lg_sl ([.ref (ad 4), .int p0, .ref (ad 5), .ref (ad 6), .ref (ad 8)]) ++ List.replicate (6 - (lg_sl ([.ref (ad 4), .int p0, .ref (ad 5), .ref (ad 6), .ref (ad 8)])).length) Slot.unset).toArray = ls at hl ⊢
  replace hl : lv_has ls 6 [(0, .ref (ad 4)), (1, .int p0), (2, .ref (ad 5)), (3, .ref (ad 6)), (4, .ref (ad 8))] := hl
  refine w_gen (fun Q hQ => ?_)
  refine lv_iconst (v := 0) hx hb dX3_setAnew_0 (by decide) ?_
  refine lv_istore (lv' := [(5, .int (0 : Int32)), (0, .ref (ad 4)), (1, .int p0), (2, .ref (ad 5)), (3, .ref (ad 6)), (4, .ref (ad 8))]) hx hb dX3_setAnew_1 hl (by decide) rfl (fun ls hl => ?_)
  have hL3 : ∀ (k : GS → Option (GS)) (hk : ∀ (w3 : GS) (H : Heap) (locs : List Loc) (ls : Array Slot), k w3 = some w' → va_P D vwCl (wC cI cZ ad w3) H → va_D A (wC cI cZ ad w3) → va_S A s.heap H locs → lv_has ls 6 [(0, .ref (ad 4)), (1, .int p0), (2, .ref (ad 5)), (3, .ref (ad 6)), (4, .ref (ad 8))] → W p l e rX3_setAnew s m ([.ref (ad 4), .int p0, .ref (ad 5), .ref (ad 6), .ref (ad 8)] : List Value).toArray below meth c H locs 0 0 Q (F0 m 24 ls [])) (n : Nat) (x5_3 : Int32) (w3 : GS) (H : Heap) (locs : List Loc) (ls : Array Slot), lp_X3_setAnew_3 k n x5_3 w3 = some w' → va_P D vwCl (wC cI cZ ad w3) H → va_D A (wC cI cZ ad w3) → va_S A s.heap H locs → lv_has ls 6 [(0, .ref (ad 4)), (1, .int p0), (2, .ref (ad 5)), (3, .ref (ad 6)), (4, .ref (ad 8)), (5, .int x5_3)] → W p l e rX3_setAnew s m ([.ref (ad 4), .int p0, .ref (ad 5), .ref (ad 6), .ref (ad 8)] : List Value).toArray below meth c H locs 0 0 Q (F0 m 3 ls []) := by
    intro k hk n
    induction n with
    | zero =>
      intro x5_3 w3 H locs ls h
      rw [lp_X3_setAnew_3] at h
      cases h
    | succ n ih =>
      intro x5_3 w3 H locs ls h hP hD hS hl
      rw [lp_X3_setAnew_3] at h
      refine lv_iload hx hb dX3_setAnew_3 (lv_at hl 5 rfl) ?_
      refine lv_bipush (v := 48) hx hb dX3_setAnew_5 (by decide) ?_
      refine lv_icmp_ge (tgt := 24) hx hb dX3_setAnew_7 (by decide) (fun c1 => ?_) (fun c1 => ?_)
      · replace h := gx_t c1 h
        exact hk w3 _ _ _ h hP hD hS (lv_sub hl [0, 1, 2, 3, 4] rfl)
      · replace h := gx_f c1 h
        refine lv_aload_n hx hb dX3_setAnew_10 rfl (lv_at hl 0 rfl) ?_
        refine va_get (D := D) (ci := 3) (v := .ref (ad 19)) (C := RX3) (T := TX3) (N := 3) hx hb hts iX3 hown hK hP 4 rfl rfl 1 (by decide) hf15 (fun _ h9 => h9) rfl dX3_setAnew_11 ?_
        refine lv_iload hx hb dX3_setAnew_14 (lv_at hl 5 rfl) ?_
        refine lv_iconst (v := 0) hx hb dX3_setAnew_16 (by decide) ?_
        obtain ⟨b2, h⟩ := gx_in h
        refine va_iast (D := D) hx hb hK hP hD hS 19 0 rfl rfl b2 dX3_setAnew_17 (fun H locs hP hD hS => ?_)
        obtain ⟨u3, eu3, h⟩ := gx_let h
        replace hP : va_P D vwCl (wC cI cZ ad u3) H := by rw [← eu3]; exact hP
        replace hD : va_D A (wC cI cZ ad u3) := by rw [← eu3]; exact hD
        obtain ⟨v4, ev4, h⟩ := gx_let h
        refine lv_iinc (v := v4) (lv' := [(5, .int v4), (0, .ref (ad 4)), (1, .int p0), (2, .ref (ad 5)), (3, .ref (ad 6)), (4, .ref (ad 8))]) hx hb dX3_setAnew_18 hl (k := 5) rfl (by rw [← ev4]; rfl) (by decide) rfl (fun ls hl => ?_)
        refine lv_goto (tgt := 3) hx hb dX3_setAnew_21 (by decide) ?_
        exact ih v4 u3 _ _ _ h hP hD hS (lv_sub hl [1, 2, 3, 4, 5, 0] rfl)
  refine hL3 _ (fun w3 H locs ls h hP hD hS hl => ?_) FU (0 : Int32) u _ _ _ h hP hD hS (lv_sub hl [1, 2, 3, 4, 5, 0] rfl)
  refine lv_aload_n hx hb dX3_setAnew_24 rfl (lv_at hl 2 rfl) ?_
  refine lv_aload_n hx hb dX3_setAnew_25 rfl (lv_at hl 0 rfl) ?_
  refine va_get (D := D) (ci := 3) (v := .ref (ad 19)) (C := RX3) (T := TX3) (N := 3) hx hb hts iX3 hown hK hP 4 rfl rfl 1 (by decide) hf15 (fun _ h9 => h9) rfl dX3_setAnew_26 ?_
  obtain ⟨y5, hc6, h⟩ := gx_bind h
  refine cc_vV (As := [.ref (ad 19)]) (rest := []) ⟨hx, hb, hml, hown, hts⟩ (k_X6_tellCrosses l D cI cZ ad w3 hc6) (cwV 1 hts (gwV mw_261 mw_262 mw_263 mw_53 mw_264) rfl rfl rfl (by decide +kernel) ⟨Nat.le_of_ble_eq_true rfl, Nat.le_of_ble_eq_true rfl⟩) hK hP hD hS hA hZ (ci := 6) (q0 := 5) rfl rfl rfl hl.1 rfl (Nat.le_of_ble_eq_true rfl) dX3_setAnew_29 ⟨Nat.zero_le _, Nat.zero_le _⟩ (fun H locs hP hD hS => ?_)
  refine lv_aload_n hx hb dX3_setAnew_32 rfl (lv_at hl 3 rfl) ?_
  refine lv_aload_n hx hb dX3_setAnew_33 rfl (lv_at hl 0 rfl) ?_
  refine va_get (D := D) (ci := 3) (v := .ref (ad 19)) (C := RX3) (T := TX3) (N := 3) hx hb hts iX3 hown hK hP 4 rfl rfl 1 (by decide) hf15 (fun _ h9 => h9) rfl dX3_setAnew_34 ?_
  obtain ⟨y7, hc8, h⟩ := gx_bind h
  refine cc_vV (As := [.ref (ad 19)]) (rest := []) ⟨hx, hb, hml, hown, hts⟩ (k_X2_tellCrosses l D cI cZ ad y5 hc8) (cwV 1 hts (gwV mw_268 mw_269 mw_270 mw_54 mw_271) rfl rfl rfl (by decide +kernel) ⟨Nat.le_of_ble_eq_true rfl, Nat.le_of_ble_eq_true rfl⟩) hK hP hD hS hA hZ (ci := 2) (q0 := 6) rfl rfl rfl hl.1 rfl (Nat.le_of_ble_eq_true rfl) dX3_setAnew_37 ⟨Nat.zero_le _, Nat.zero_le _⟩ (fun H locs hP hD hS => ?_)
  refine lv_aload hx hb dX3_setAnew_40 (lv_at hl 4 rfl) ?_
  refine lv_aload_n hx hb dX3_setAnew_42 rfl (lv_at hl 0 rfl) ?_
  refine va_get (D := D) (ci := 3) (v := .ref (ad 19)) (C := RX3) (T := TX3) (N := 3) hx hb hts iX3 hown hK hP 4 rfl rfl 1 (by decide) hf15 (fun _ h9 => h9) rfl dX3_setAnew_43 ?_
  refine lv_iload_n hx hb dX3_setAnew_46 rfl (lv_at hl 1 rfl) ?_
  obtain ⟨y9, hc10, h⟩ := gx_bind h
  refine cc_vV (As := [.ref (ad 19), .int p0]) (rest := []) ⟨hx, hb, hml, hown, hts⟩ (k_X0_tellCrosses l D cI cZ ad y7 p0 hc10) (cwV 2 hts (gwV mw_275 mw_276 mw_277 mw_56 mw_278) rfl rfl rfl (by decide +kernel) ⟨Nat.le_of_ble_eq_true rfl, Nat.le_of_ble_eq_true rfl⟩) hK hP hD hS hA hZ (ci := 0) (q0 := 8) rfl rfl rfl hl.1 rfl (Nat.le_of_ble_eq_true rfl) dX3_setAnew_47 ⟨Nat.zero_le _, Nat.zero_le _⟩ (fun H locs hP hD hS => ?_)
  refine lv_iconst (v := 0) hx hb dX3_setAnew_50 (by decide) ?_
  refine lv_istore (lv' := [(5, .int (0 : Int32)), (0, .ref (ad 4)), (1, .int p0), (2, .ref (ad 5)), (3, .ref (ad 6)), (4, .ref (ad 8))]) hx hb dX3_setAnew_51 hl (by decide) rfl (fun ls hl => ?_)
  have hL53 : ∀ (k : GS → Option (GS)) (hk : ∀ (w53 : GS) (H : Heap) (locs : List Loc) (ls : Array Slot), k w53 = some w' → va_P D vwCl (wC cI cZ ad w53) H → va_D A (wC cI cZ ad w53) → va_S A s.heap H locs → lv_has ls 6 [(0, .ref (ad 4))] → W p l e rX3_setAnew s m ([.ref (ad 4), .int p0, .ref (ad 5), .ref (ad 6), .ref (ad 8)] : List Value).toArray below meth c H locs 0 0 Q (F0 m 91 ls [])) (n : Nat) (x5_53 : Int32) (w53 : GS) (H : Heap) (locs : List Loc) (ls : Array Slot), lp_X3_setAnew_53 k n x5_53 w53 = some w' → va_P D vwCl (wC cI cZ ad w53) H → va_D A (wC cI cZ ad w53) → va_S A s.heap H locs → lv_has ls 6 [(0, .ref (ad 4)), (5, .int x5_53)] → W p l e rX3_setAnew s m ([.ref (ad 4), .int p0, .ref (ad 5), .ref (ad 6), .ref (ad 8)] : List Value).toArray below meth c H locs 0 0 Q (F0 m 53 ls []) := by
    intro k hk n
    induction n with
    | zero =>
      intro x5_53 w53 H locs ls h
      rw [lp_X3_setAnew_53] at h
      cases h
    | succ n ih =>
      intro x5_53 w53 H locs ls h hP hD hS hl
      rw [lp_X3_setAnew_53] at h
      refine lv_iload hx hb dX3_setAnew_53 (lv_at hl 1 rfl) ?_
      refine lv_bipush (v := 48) hx hb dX3_setAnew_55 (by decide) ?_
      refine lv_icmp_ge (tgt := 91) hx hb dX3_setAnew_57 (by decide) (fun c11 => ?_) (fun c11 => ?_)
      · replace h := gx_t c11 h
        exact hk w53 _ _ _ h hP hD hS (lv_sub hl [0] rfl)
      · replace h := gx_f c11 h
        refine lv_aload_n hx hb dX3_setAnew_60 rfl (lv_at hl 0 rfl) ?_
        refine va_get (D := D) (ci := 3) (v := .ref (ad 18)) (C := RX3) (T := TX3) (N := 3) hx hb hts iX3 hown hK hP 4 rfl rfl 0 (by decide) hf9 (fun _ h9 => h9) rfl dX3_setAnew_61 ?_
        refine lv_iload hx hb dX3_setAnew_64 (lv_at hl 1 rfl) ?_
        obtain ⟨b12, h⟩ := gx_in h
        refine va_iald (D := D) hx hb hK hP 18 0 rfl rfl b12 dX3_setAnew_66 ?_
        refine lv_iconst (v := (-1)) hx hb dX3_setAnew_67 (by decide) ?_
        obtain ⟨j85_13, ej85_13, h⟩ := gx_let h
        have hj85_13 : ∀ (w85 : GS) (H : Heap) (locs : List Loc) (ls : Array Slot), j85_13 w85 = some w' → va_P D vwCl (wC cI cZ ad w85) H → va_D A (wC cI cZ ad w85) → va_S A s.heap H locs → lv_has ls 6 [(0, .ref (ad 4)), (5, .int x5_53)] → W p l e rX3_setAnew s m ([.ref (ad 4), .int p0, .ref (ad 5), .ref (ad 6), .ref (ad 8)] : List Value).toArray below meth c H locs 0 0 Q (F0 m 85 ls []) := by
          intro w85 H locs ls h hP hD hS hl
          subst ej85_13
          obtain ⟨v14, ev14, h⟩ := gx_let h
          refine lv_iinc (v := v14) (lv' := [(5, .int v14), (0, .ref (ad 4))]) hx hb dX3_setAnew_85 hl (k := 1) rfl (by rw [← ev14]; rfl) (by decide) rfl (fun ls hl => ?_)
          refine lv_goto (tgt := 53) hx hb dX3_setAnew_88 (by decide) ?_
          exact ih v14 w85 _ _ _ h hP hD hS (lv_sub hl [1, 0] rfl)
        refine lv_icmp_eq (tgt := 85) hx hb dX3_setAnew_68 (by decide) (fun c15 => ?_) (fun c15 => ?_)
        · replace h := gx_t c15 h
          exact hj85_13 w53 _ _ _ h hP hD hS (lv_sub hl [0, 1] rfl)
        · replace h := gx_f c15 h
          refine lv_aload_n hx hb dX3_setAnew_71 rfl (lv_at hl 0 rfl) ?_
          refine va_get (D := D) (ci := 3) (v := .ref (ad 19)) (C := RX3) (T := TX3) (N := 3) hx hb hts iX3 hown hK hP 4 rfl rfl 1 (by decide) hf15 (fun _ h9 => h9) rfl dX3_setAnew_72 ?_
          refine lv_iload hx hb dX3_setAnew_75 (lv_at hl 1 rfl) ?_
          refine lv_aload_n hx hb dX3_setAnew_77 rfl (lv_at hl 0 rfl) ?_
          refine va_get (D := D) (ci := 3) (v := .ref (ad 18)) (C := RX3) (T := TX3) (N := 3) hx hb hts iX3 hown hK hP 4 rfl rfl 0 (by decide) hf9 (fun _ h9 => h9) rfl dX3_setAnew_78 ?_
          refine lv_iload hx hb dX3_setAnew_81 (lv_at hl 1 rfl) ?_
          obtain ⟨b16, h⟩ := gx_in h
          refine va_iald (D := D) hx hb hK hP 18 0 rfl rfl b16 dX3_setAnew_83 ?_
          obtain ⟨b17, h⟩ := gx_in h
          refine va_iast (D := D) hx hb hK hP hD hS 19 0 rfl rfl b17 dX3_setAnew_84 (fun H locs hP hD hS => ?_)
          obtain ⟨u18, eu18, h⟩ := gx_let h
          replace hP : va_P D vwCl (wC cI cZ ad u18) H := by rw [← eu18]; exact hP
          replace hD : va_D A (wC cI cZ ad u18) := by rw [← eu18]; exact hD
          exact hj85_13 u18 _ _ _ h hP hD hS (lv_sub hl [0, 1] rfl)
  refine hL53 _ (fun w53 H locs ls h hP hD hS hl => ?_) FU (0 : Int32) y9 _ _ _ h hP hD hS (lv_sub hl [1, 0] rfl)
  refine lv_iconst (v := 0) hx hb dX3_setAnew_91 (by decide) ?_
  refine lv_istore (lv' := [(5, .int (0 : Int32)), (0, .ref (ad 4))]) hx hb dX3_setAnew_92 hl (by decide) rfl (fun ls hl => ?_)
  have hL94 : ∀ (k : GS → Option (GS)) (hk : ∀ (w94 : GS) (H : Heap) (locs : List Loc) (ls : Array Slot), k w94 = some w' → va_P D vwCl (wC cI cZ ad w94) H → va_D A (wC cI cZ ad w94) → va_S A s.heap H locs → lv_has ls 6 [] → W p l e rX3_setAnew s m ([.ref (ad 4), .int p0, .ref (ad 5), .ref (ad 6), .ref (ad 8)] : List Value).toArray below meth c H locs 0 0 Q (F0 m 147 ls [])) (n : Nat) (x5_94 : Int32) (w94 : GS) (H : Heap) (locs : List Loc) (ls : Array Slot), lp_X3_setAnew_94 k n x5_94 w94 = some w' → va_P D vwCl (wC cI cZ ad w94) H → va_D A (wC cI cZ ad w94) → va_S A s.heap H locs → lv_has ls 6 [(0, .ref (ad 4)), (5, .int x5_94)] → W p l e rX3_setAnew s m ([.ref (ad 4), .int p0, .ref (ad 5), .ref (ad 6), .ref (ad 8)] : List Value).toArray below meth c H locs 0 0 Q (F0 m 94 ls []) := by
    intro k hk n
    induction n with
    | zero =>
      intro x5_94 w94 H locs ls h
      rw [lp_X3_setAnew_94] at h
      cases h
    | succ n ih =>
      intro x5_94 w94 H locs ls h hP hD hS hl
      rw [lp_X3_setAnew_94] at h
      refine lv_iload hx hb dX3_setAnew_94 (lv_at hl 1 rfl) ?_
      refine lv_bipush (v := 48) hx hb dX3_setAnew_96 (by decide) ?_
      refine lv_icmp_ge (tgt := 147) hx hb dX3_setAnew_98 (by decide) (fun c19 => ?_) (fun c19 => ?_)
      · replace h := gx_t c19 h
        exact hk w94 _ _ _ h hP hD hS (lv_sub hl [] rfl)
      · replace h := gx_f c19 h
        refine lv_aload_n hx hb dX3_setAnew_101 rfl (lv_at hl 0 rfl) ?_
        refine va_get (D := D) (ci := 3) (v := .ref (ad 20)) (C := RX3) (T := TX3) (N := 3) hx hb hts iX3 hown hK hP 4 rfl rfl 2 (by decide) hf18 (fun _ h9 => h9) rfl dX3_setAnew_102 ?_
        refine lv_iload hx hb dX3_setAnew_105 (lv_at hl 1 rfl) ?_
        refine lv_aload_n hx hb dX3_setAnew_107 rfl (lv_at hl 0 rfl) ?_
        refine va_get (D := D) (ci := 3) (v := .ref (ad 19)) (C := RX3) (T := TX3) (N := 3) hx hb hts iX3 hown hK hP 4 rfl rfl 1 (by decide) hf15 (fun _ h9 => h9) rfl dX3_setAnew_108 ?_
        refine lv_iload hx hb dX3_setAnew_111 (lv_at hl 1 rfl) ?_
        obtain ⟨b20, h⟩ := gx_in h
        refine va_iald (D := D) hx hb hK hP 19 0 rfl rfl b20 dX3_setAnew_113 ?_
        obtain ⟨j140_21, ej140_21, h⟩ := gx_let h
        have hj140_21 : ∀ (z0_140 : Int32) (H : Heap) (locs : List Loc) (ls : Array Slot), j140_21 z0_140 = some w' → va_P D vwCl (wC cI cZ ad w94) H → va_D A (wC cI cZ ad w94) → va_S A s.heap H locs → lv_has ls 6 [(0, .ref (ad 4)), (5, .int x5_94)] → W p l e rX3_setAnew s m ([.ref (ad 4), .int p0, .ref (ad 5), .ref (ad 6), .ref (ad 8)] : List Value).toArray below meth c H locs 0 0 Q (F0 m 140 ls [.int z0_140, .int x5_94, .ref (ad 20)]) := by
          intro z0_140 H locs ls h hP hD hS hl
          subst ej140_21
          obtain ⟨b22, h⟩ := gx_in h
          refine va_iast (D := D) hx hb hK hP hD hS 20 0 rfl rfl b22 dX3_setAnew_140 (fun H locs hP hD hS => ?_)
          obtain ⟨u23, eu23, h⟩ := gx_let h
          replace hP : va_P D vwCl (wC cI cZ ad u23) H := by rw [← eu23]; exact hP
          replace hD : va_D A (wC cI cZ ad u23) := by rw [← eu23]; exact hD
          obtain ⟨v24, ev24, h⟩ := gx_let h
          refine lv_iinc (v := v24) (lv' := [(5, .int v24), (0, .ref (ad 4))]) hx hb dX3_setAnew_141 hl (k := 1) rfl (by rw [← ev24]; rfl) (by decide) rfl (fun ls hl => ?_)
          refine lv_goto (tgt := 94) hx hb dX3_setAnew_144 (by decide) ?_
          exact ih v24 u23 _ _ _ h hP hD hS (lv_sub hl [1, 0] rfl)
        obtain ⟨j133_25, ej133_25, h⟩ := gx_let h
        have hj133_25 : ∀ (H : Heap) (locs : List Loc) (ls : Array Slot), j133_25 () = some w' → va_P D vwCl (wC cI cZ ad w94) H → va_D A (wC cI cZ ad w94) → va_S A s.heap H locs → lv_has ls 6 [(0, .ref (ad 4)), (5, .int x5_94)] → W p l e rX3_setAnew s m ([.ref (ad 4), .int p0, .ref (ad 5), .ref (ad 6), .ref (ad 8)] : List Value).toArray below meth c H locs 0 0 Q (F0 m 133 ls [.int x5_94, .ref (ad 20)]) := by
          intro  H locs ls h hP hD hS hl
          subst ej133_25
          refine lv_aload_n hx hb dX3_setAnew_133 rfl (lv_at hl 0 rfl) ?_
          refine va_get (D := D) (ci := 3) (v := .ref (ad 19)) (C := RX3) (T := TX3) (N := 3) hx hb hts iX3 hown hK hP 4 rfl rfl 1 (by decide) hf15 (fun _ h9 => h9) rfl dX3_setAnew_134 ?_
          refine lv_iload hx hb dX3_setAnew_137 (lv_at hl 1 rfl) ?_
          obtain ⟨b26, h⟩ := gx_in h
          refine va_iald (D := D) hx hb hK hP 19 0 rfl rfl b26 dX3_setAnew_139 ?_
          exact hj140_21 (cL_told w94 x5_94.toNatClampNeg) _ _ _ h hP hD hS (lv_sub hl [0, 1] rfl)
        refine lv_if_ne (tgt := 133) hx hb dX3_setAnew_114 (by decide) (fun c27 => ?_) (fun c27 => ?_)
        · replace h := gx_f c27 h
          exact hj133_25 _ _ _ h hP hD hS (lv_sub hl [0, 1] rfl)
        · replace h := gx_t c27 h
          refine lv_iload hx hb dX3_setAnew_117 (lv_at hl 1 rfl) ?_
          refine lv_aload_n hx hb dX3_setAnew_119 rfl (lv_at hl 0 rfl) ?_
          refine va_get (D := D) (ci := 3) (v := .ref (ad 19)) (C := RX3) (T := TX3) (N := 3) hx hb hts iX3 hown hK hP 4 rfl rfl 1 (by decide) hf15 (fun _ h9 => h9) rfl dX3_setAnew_120 ?_
          obtain ⟨y28, hc29, h⟩ := gx_bind h
          refine cc_iS (As := [.int x5_94, .ref (ad 19)]) (rest := [.int x5_94, .ref (ad 20)]) ⟨hx, hb, hml, hown, hts⟩ (k_X3_isAheadOfCross_t l D cI cZ ad w94 x5_94 hc29) (va_cwS 2 hts (gwS mw_289 mw_290 mw_52 mw_291) rfl rfl rfl (by decide +kernel) ⟨Nat.le_of_ble_eq_true rfl, Nat.le_of_ble_eq_true rfl⟩) hK hP hD hS hA hZ rfl hl.1 rfl (Nat.le_of_ble_eq_true rfl) dX3_setAnew_123 ⟨Nat.zero_le _, Nat.zero_le _⟩ (fun H locs hP hD hS => ?_)
          refine lv_if_eq (tgt := 133) hx hb dX3_setAnew_126 (by decide) (fun c30 => ?_) (fun c30 => ?_)
          · replace h := gx_t c30 h
            exact hj133_25 _ _ _ h hP hD hS (lv_sub hl [0, 1] rfl)
          · replace h := gx_f c30 h
            refine lv_iconst (v := 1) hx hb dX3_setAnew_129 (by decide) ?_
            refine lv_goto (tgt := 140) hx hb dX3_setAnew_130 (by decide) ?_
            exact hj140_21 (1 : Int32) _ _ _ h hP hD hS (lv_sub hl [0, 1] rfl)
  refine hL94 _ (fun w94 H locs ls h hP hD hS hl => ?_) FU (0 : Int32) w53 _ _ _ h hP hD hS (lv_sub hl [1, 0] rfl)
  cases h
  exact cc_vret hx hb hr hQ hK hP hD hS dX3_setAnew_147 hlocks

def rX3_isAheadOfCross_s : Room := { frames := 1, cells := 0, slots := 0, locals := 22 }
set_option maxHeartbeats 4000000 in
set_option maxRecDepth 100000 in
theorem k_X3_isAheadOfCross_s (l : Launch) (D : va_G) (cI cZ : ClassId) (ad : Nat → Nat) (u : GS) (p0 : Int32) {r : Int32} (h : g_X3_isAheadOfCross_s u p0 = some r) : MI l yX3_isAheadOfCross (wm yX3_isAheadOfCross cX3_isAheadOfCross 3 (some .boolean)) rX3_isAheadOfCross_s D [(cI, .int), (cZ, .boolean)] (wC cI cZ ad u) (wC cI cZ ad u) [.int p0, .ref (ad 20)] r := by
  intro sz
  refine Met.ofW (cc := cX3_isAheadOfCross) (maxL := 3) (ret := (some .boolean)) (by decide) rfl ?_
  intro p e s m args below meth c s₁ B hml hv
  obtain ⟨rfl, hsz, hP, hK, hD0, hZ⟩ := hv
  have hx := B.exec
  have hb := B.bytes
  have hr := B.returns
  have hts : ∀ w ∈ Wall, w.before _ s = true := fun w hw => atoms_spec (ws := wm yX3_isAheadOfCross cX3_isAheadOfCross 3 (some .boolean)) B.pre w (List.mem_cons_of_mem _ hw)
  have hown : s.vm.findClass RX3 = some m.cls := findClass_of_methodNamed B.named
  have hlocks := B.notSynchronized
  subst hsz
  have hD := hD0.self (sz := s.heap.size)
  generalize hAe : va_A (wC cI cZ ad u) s.heap.size = A at hD hZ ⊢
  have hA : ∀ q : Nat, s.heap.size ≤ q → A q := fun q h => by rw [← hAe]; exact Or.inr h
  have hS : va_S A s.heap s.heap [] := va_S.rf
  have hl := lv_entry ([.int p0, .ref (ad 20)]) (n := 3) (Nat.le_of_ble_eq_true rfl)
  rw [lg_entry_eq]
  generalize (lg_sl ([.int p0, .ref (ad 20)]) ++ List.replicate (3 - (lg_sl ([.int p0, .ref (ad 20)])).length) Slot.unset).toArray = ls at hl ⊢
  replace hl : lv_has ls 3 [(0, .int p0), (1, .ref (ad 20))] := hl
  refine w_gen (fun Q hQ => ?_)
  refine lv_iload_n hx hb dX3_isAheadOfCross_0 rfl (lv_at hl 0 rfl) ?_
  refine lv_iconst (v := 4) hx hb dX3_isAheadOfCross_1 (by decide) ?_
  refine lv_iadd hx hb dX3_isAheadOfCross_2 ?_
  obtain ⟨v1, ev1, h⟩ := gx_let h
  refine lv_topn ev1 ?_
  refine lv_istore_n (lv' := [(2, .int v1), (0, .int p0), (1, .ref (ad 20))]) hx hb dX3_isAheadOfCross_3 rfl hl (by decide) rfl (fun ls hl => ?_)
  refine lv_iload_n hx hb dX3_isAheadOfCross_4 rfl (lv_at hl 0 rfl) ?_
  refine lv_iconst (v := 0) hx hb dX3_isAheadOfCross_5 (by decide) ?_
  refine lv_bipush (v := 47) hx hb dX3_isAheadOfCross_6 (by decide) ?_
  obtain ⟨y2, hc3, h⟩ := gx_bind h
  refine cc_iSN (As := [.int v1, .int (0 : Int32), .int (47 : Int32)]) (rest := []) ⟨hx, hb, hml, hown, hts⟩ (k_X9_isWithin l D cI cZ ad u v1 (0 : Int32) (47 : Int32) hc3) ⟨va_cnB 3 hts (gwM mw_274) rfl rfl rfl (hZ.1 ("RedcrossGantry$LaneSigns", 39, yX9_isWithin) (by decide +kernel)) (hts _ mw_48) (by decide +kernel) ⟨Nat.le_of_ble_eq_true rfl, Nat.le_of_ble_eq_true rfl⟩, hts _ mw_273, trivial⟩ hK hP hD hS hA hZ rfl hl.1 rfl (Nat.le_of_ble_eq_true rfl) dX3_isAheadOfCross_8 ⟨Nat.zero_le _, Nat.zero_le _⟩ (fun H locs hP hD hS => ?_)
  refine lv_if_eq (tgt := 25) hx hb dX3_isAheadOfCross_11 (by decide) (fun c4 => ?_) (fun c4 => ?_)
  · replace h := gx_t c4 h
    refine lv_iconst (v := 0) hx hb dX3_isAheadOfCross_25 (by decide) ?_
    cases h
    exact cc_ret hx hb hr rfl hQ hK hP hD hS rfl dX3_isAheadOfCross_26 hlocks
  · replace h := gx_f c4 h
    refine lv_aload_n hx hb dX3_isAheadOfCross_14 rfl (lv_at hl 2 rfl) ?_
    refine lv_iload_n hx hb dX3_isAheadOfCross_15 rfl (lv_at hl 0 rfl) ?_
    obtain ⟨b5, h⟩ := gx_in h
    refine va_iald (D := D) hx hb hK hP 20 0 rfl rfl b5 dX3_isAheadOfCross_16 ?_
    refine lv_iconst (v := 2) hx hb dX3_isAheadOfCross_17 (by decide) ?_
    refine lv_icmp_ne (tgt := 25) hx hb dX3_isAheadOfCross_18 (by decide) (fun c6 => ?_) (fun c6 => ?_)
    · replace h := gx_f c6 h
      refine lv_iconst (v := 0) hx hb dX3_isAheadOfCross_25 (by decide) ?_
      cases h
      exact cc_ret hx hb hr rfl hQ hK hP hD hS rfl dX3_isAheadOfCross_26 hlocks
    · replace h := gx_t c6 h
      refine lv_iconst (v := 1) hx hb dX3_isAheadOfCross_21 (by decide) ?_
      refine lv_goto (tgt := 26) hx hb dX3_isAheadOfCross_22 (by decide) ?_
      cases h
      exact cc_ret hx hb hr rfl hQ hK hP hD hS rfl dX3_isAheadOfCross_26 hlocks

def rX3_areLawful : Room := { frames := 2, cells := 0, slots := 0, locals := 44 }
set_option maxHeartbeats 4000000 in
set_option maxRecDepth 100000 in
theorem k_X3_areLawful (l : Launch) (D : va_G) (cI cZ : ClassId) (ad : Nat → Nat) (u : GS) {r : Int32} (h : g_X3_areLawful u = some r) : MI l yX3_areLawful (wm yX3_areLawful cX3_areLawful 2 (some .boolean)) rX3_areLawful D [(cI, .int), (cZ, .boolean)] (wC cI cZ ad u) (wC cI cZ ad u) [.ref (ad 4)] r := by
  intro sz
  refine Met.ofW (cc := cX3_areLawful) (maxL := 2) (ret := (some .boolean)) (by decide) rfl ?_
  intro p e s m args below meth c s₁ B hml hv
  obtain ⟨rfl, hsz, hP, hK, hD0, hZ⟩ := hv
  have hx := B.exec
  have hb := B.bytes
  have hr := B.returns
  have hts : ∀ w ∈ Wall, w.before _ s = true := fun w hw => atoms_spec (ws := wm yX3_areLawful cX3_areLawful 2 (some .boolean)) B.pre w (List.mem_cons_of_mem _ hw)
  have hown : s.vm.findClass RX3 = some m.cls := findClass_of_methodNamed B.named
  have hlocks := B.notSynchronized
  subst hsz
  have hD := hD0.self (sz := s.heap.size)
  generalize hAe : va_A (wC cI cZ ad u) s.heap.size = A at hD hZ ⊢
  have hA : ∀ q : Nat, s.heap.size ≤ q → A q := fun q h => by rw [← hAe]; exact Or.inr h
  have hS : va_S A s.heap s.heap [] := va_S.rf
  have hf18 := hts _ mw_157
  have hl := lv_entry ([.ref (ad 4)]) (n := 2) (Nat.le_of_ble_eq_true rfl)
  rw [lg_entry_eq]
  generalize (lg_sl ([.ref (ad 4)]) ++ List.replicate (2 - (lg_sl ([.ref (ad 4)])).length) Slot.unset).toArray = ls at hl ⊢
  replace hl : lv_has ls 2 [(0, .ref (ad 4))] := hl
  refine w_gen (fun Q hQ => ?_)
  refine lv_iconst (v := 0) hx hb dX3_areLawful_0 (by decide) ?_
  refine lv_istore_n (lv' := [(1, .int (0 : Int32)), (0, .ref (ad 4))]) hx hb dX3_areLawful_1 rfl hl (by decide) rfl (fun ls hl => ?_)
  have hL2 : ∀ (k : Unit → Option (Int32)) (hk : ∀ (H : Heap) (locs : List Loc) (ls : Array Slot), k () = some r → va_P D vwCl (wC cI cZ ad u) H → va_D A (wC cI cZ ad u) → va_S A s.heap H locs → lv_has ls 2 [] → W p l e rX3_areLawful s m ([.ref (ad 4)] : List Value).toArray below meth c H locs 0 0 Q (F0 m 36 ls [])) (n : Nat) (x1_2 : Int32) (H : Heap) (locs : List Loc) (ls : Array Slot), lp_X3_areLawful_2 u k n x1_2 = some r → va_P D vwCl (wC cI cZ ad u) H → va_D A (wC cI cZ ad u) → va_S A s.heap H locs → lv_has ls 2 [(0, .ref (ad 4)), (1, .int x1_2)] → W p l e rX3_areLawful s m ([.ref (ad 4)] : List Value).toArray below meth c H locs 0 0 Q (F0 m 2 ls []) := by
    intro k hk n
    induction n with
    | zero =>
      intro x1_2 H locs ls h
      rw [lp_X3_areLawful_2] at h
      cases h
    | succ n ih =>
      intro x1_2 H locs ls h hP hD hS hl
      rw [lp_X3_areLawful_2] at h
      refine lv_iload_n hx hb dX3_areLawful_2 rfl (lv_at hl 1 rfl) ?_
      refine lv_bipush (v := 48) hx hb dX3_areLawful_3 (by decide) ?_
      refine lv_icmp_ge (tgt := 36) hx hb dX3_areLawful_5 (by decide) (fun c1 => ?_) (fun c1 => ?_)
      · replace h := gx_t c1 h
        exact hk _ _ _ h hP hD hS (lv_sub hl [] rfl)
      · replace h := gx_f c1 h
        refine lv_aload_n hx hb dX3_areLawful_8 rfl (lv_at hl 0 rfl) ?_
        refine va_get (D := D) (ci := 3) (v := .ref (ad 20)) (C := RX3) (T := TX3) (N := 3) hx hb hts iX3 hown hK hP 4 rfl rfl 2 (by decide) hf18 (fun _ h9 => h9) rfl dX3_areLawful_9 ?_
        refine lv_iload_n hx hb dX3_areLawful_12 rfl (lv_at hl 1 rfl) ?_
        obtain ⟨b2, h⟩ := gx_in h
        refine va_iald (D := D) hx hb hK hP 20 0 rfl rfl b2 dX3_areLawful_13 ?_
        obtain ⟨j30_3, ej30_3, h⟩ := gx_let h
        have hj30_3 : ∀ (H : Heap) (locs : List Loc) (ls : Array Slot), j30_3 () = some r → va_P D vwCl (wC cI cZ ad u) H → va_D A (wC cI cZ ad u) → va_S A s.heap H locs → lv_has ls 2 [(0, .ref (ad 4)), (1, .int x1_2)] → W p l e rX3_areLawful s m ([.ref (ad 4)] : List Value).toArray below meth c H locs 0 0 Q (F0 m 30 ls []) := by
          intro  H locs ls h hP hD hS hl
          subst ej30_3
          obtain ⟨v4, ev4, h⟩ := gx_let h
          refine lv_iinc (v := v4) (lv' := [(1, .int v4), (0, .ref (ad 4))]) hx hb dX3_areLawful_30 hl (k := 1) rfl (by rw [← ev4]; rfl) (by decide) rfl (fun ls hl => ?_)
          refine lv_goto (tgt := 2) hx hb dX3_areLawful_33 (by decide) ?_
          exact ih v4 _ _ _ h hP hD hS (lv_sub hl [1, 0] rfl)
        refine lv_if_ne (tgt := 30) hx hb dX3_areLawful_14 (by decide) (fun c5 => ?_) (fun c5 => ?_)
        · replace h := gx_f c5 h
          exact hj30_3 _ _ _ h hP hD hS (lv_sub hl [0, 1] rfl)
        · replace h := gx_t c5 h
          refine lv_iload_n hx hb dX3_areLawful_17 rfl (lv_at hl 1 rfl) ?_
          refine lv_aload_n hx hb dX3_areLawful_18 rfl (lv_at hl 0 rfl) ?_
          refine va_get (D := D) (ci := 3) (v := .ref (ad 20)) (C := RX3) (T := TX3) (N := 3) hx hb hts iX3 hown hK hP 4 rfl rfl 2 (by decide) hf18 (fun _ h9 => h9) rfl dX3_areLawful_19 ?_
          obtain ⟨y6, hc7, h⟩ := gx_bind h
          refine cc_iS (As := [.int x1_2, .ref (ad 20)]) (rest := []) ⟨hx, hb, hml, hown, hts⟩ (k_X3_isAheadOfCross_s l D cI cZ ad u x1_2 hc7) (va_cwS 2 hts (gwS mw_289 mw_290 mw_52 mw_291) rfl rfl rfl (by decide +kernel) ⟨Nat.le_of_ble_eq_true rfl, Nat.le_of_ble_eq_true rfl⟩) hK hP hD hS hA hZ rfl hl.1 rfl (Nat.le_of_ble_eq_true rfl) dX3_areLawful_22 ⟨Nat.zero_le _, Nat.zero_le _⟩ (fun H locs hP hD hS => ?_)
          refine lv_if_eq (tgt := 30) hx hb dX3_areLawful_25 (by decide) (fun c8 => ?_) (fun c8 => ?_)
          · replace h := gx_t c8 h
            exact hj30_3 _ _ _ h hP hD hS (lv_sub hl [0, 1] rfl)
          · replace h := gx_f c8 h
            refine lv_iconst (v := 0) hx hb dX3_areLawful_28 (by decide) ?_
            cases h
            exact cc_ret hx hb hr rfl hQ hK hP hD hS rfl dX3_areLawful_29 hlocks
  refine hL2 _ (fun H locs ls h hP hD hS hl => ?_) FU (0 : Int32) _ _ _ h hP hD hS (lv_sub hl [1, 0] rfl)
  refine lv_iconst (v := 1) hx hb dX3_areLawful_36 (by decide) ?_
  cases h
  exact cc_ret hx hb hr rfl hQ hK hP hD hS rfl dX3_areLawful_37 hlocks

def rX5_isKept : Room := { frames := 1, cells := 0, slots := 0, locals := 22 }
set_option maxHeartbeats 4000000 in
set_option maxRecDepth 100000 in
theorem k_X5_isKept (l : Launch) (D : va_G) (cI cZ : ClassId) (ad : Nat → Nat) (u : GS) (p0 : Int32) (p1 : Int32) {r : Int32} (h : g_X5_isKept p0 p1 = some r) : MI l yX5_isKept (wm yX5_isKept cX5_isKept 2 (some .boolean)) rX5_isKept D [(cI, .int), (cZ, .boolean)] (wC cI cZ ad u) (wC cI cZ ad u) [.int p0, .int p1] r := by
  intro sz
  refine Met.ofW (cc := cX5_isKept) (maxL := 2) (ret := (some .boolean)) (by decide) rfl ?_
  intro p e s m args below meth c s₁ B hml hv
  obtain ⟨rfl, hsz, hP, hK, hD0, hZ⟩ := hv
  have hx := B.exec
  have hb := B.bytes
  have hr := B.returns
  have hts : ∀ w ∈ Wall, w.before _ s = true := fun w hw => atoms_spec (ws := wm yX5_isKept cX5_isKept 2 (some .boolean)) B.pre w (List.mem_cons_of_mem _ hw)
  have hown : s.vm.findClass RX5 = some m.cls := findClass_of_methodNamed B.named
  have hlocks := B.notSynchronized
  subst hsz
  have hD := hD0.self (sz := s.heap.size)
  generalize hAe : va_A (wC cI cZ ad u) s.heap.size = A at hD hZ ⊢
  have hA : ∀ q : Nat, s.heap.size ≤ q → A q := fun q h => by rw [← hAe]; exact Or.inr h
  have hS : va_S A s.heap s.heap [] := va_S.rf
  have hl := lv_entry ([.int p0, .int p1]) (n := 2) (Nat.le_of_ble_eq_true rfl)
  rw [lg_entry_eq]
  generalize (lg_sl ([.int p0, .int p1]) ++ List.replicate (2 - (lg_sl ([.int p0, .int p1])).length) Slot.unset).toArray = ls at hl ⊢
  replace hl : lv_has ls 2 [(0, .int p0), (1, .int p1)] := hl
  refine w_gen (fun Q hQ => ?_)
  refine lv_iload_n hx hb dX5_isKept_0 rfl (lv_at hl 0 rfl) ?_
  refine lv_iload_n hx hb dX5_isKept_1 rfl (lv_at hl 1 rfl) ?_
  refine lv_bipush (v := 60) hx hb dX5_isKept_2 (by decide) ?_
  refine lv_isub hx hb dX5_isKept_4 ?_
  refine lv_iconst (v := 1) hx hb dX5_isKept_5 (by decide) ?_
  refine lv_iadd hx hb dX5_isKept_6 ?_
  refine lv_iload_n hx hb dX5_isKept_7 rfl (lv_at hl 1 rfl) ?_
  obtain ⟨y1, hc2, h⟩ := gx_bind h
  refine cc_iSN (As := [.int p0, .int ((p1 - (60 : Int32)) + (1 : Int32)), .int p1]) (rest := []) ⟨hx, hb, hml, hown, hts⟩ (k_X9_isWithin l D cI cZ ad u p0 ((p1 - (60 : Int32)) + (1 : Int32)) p1 hc2) ⟨va_cnB 3 hts (gwM mw_274) rfl rfl rfl (hZ.1 ("RedcrossGantry$Proofs", 15, yX9_isWithin) (by decide +kernel)) (hts _ mw_48) (by decide +kernel) ⟨Nat.le_of_ble_eq_true rfl, Nat.le_of_ble_eq_true rfl⟩, hts _ mw_273, trivial⟩ hK hP hD hS hA hZ rfl hl.1 rfl (Nat.le_of_ble_eq_true rfl) dX5_isKept_8 ⟨Nat.zero_le _, Nat.zero_le _⟩ (fun H locs hP hD hS => ?_)
  obtain ⟨bo, h⟩ := gx_bo h
  cases h
  exact cc_ret hx hb hr bo hQ hK hP hD hS rfl dX5_isKept_11 hlocks

def rJ9_floorMod_7cf53 : Room := { frames := 0, cells := 0, slots := 0, locals := 0 }
set_option maxHeartbeats 4000000 in
set_option maxRecDepth 100000 in
theorem k_J9_floorMod_7cf53 (l : Launch) (D : va_G) (cI cZ : ClassId) (ad : Nat → Nat) (u : GS) (p0 : Int32) (p1 : Int32) {r : Int32} (h : g_J9_floorMod_7cf53 p0 p1 = some r) : MI l yJ9_floorMod_7cf53 (wm yJ9_floorMod_7cf53 cJ9_floorMod_7cf53 3 (some .int)) rJ9_floorMod_7cf53 D [(cI, .int), (cZ, .boolean)] (wC cI cZ ad u) (wC cI cZ ad u) [.int p0, .int p1] r := by
  intro sz
  refine cc_ofWF (cc := cJ9_floorMod_7cf53) (maxL := 3) (ret := (some .int)) (by decide +kernel) rfl ?_
  intro p e s m args below meth c s₁ B hml hv
  obtain ⟨rfl, hsz, hP, hK, hD0, hZ⟩ := hv
  have hx := B.exec
  have hb := B.bytes
  have hr := B.returns
  have hts : ∀ w ∈ Wall, w.before _ s = true := fun w hw => atoms_spec (ws := wm yJ9_floorMod_7cf53 cJ9_floorMod_7cf53 3 (some .int)) B.pre w (List.mem_cons_of_mem _ hw)
  have hown : s.vm.findClass RJ9 = some m.cls := findClass_of_methodNamed B.named
  have hlocks := B.notSynchronized
  subst hsz
  have hD := hD0.self (sz := s.heap.size)
  generalize hAe : va_A (wC cI cZ ad u) s.heap.size = A at hD hZ ⊢
  have hA : ∀ q : Nat, s.heap.size ≤ q → A q := fun q h => by rw [← hAe]; exact Or.inr h
  have hS : va_S A s.heap s.heap [] := va_S.rf
  have hl := lv_entry ([.int p0, .int p1]) (n := 3) (Nat.le_of_ble_eq_true rfl)
  rw [lg_entry_eq]
  generalize (lg_sl ([.int p0, .int p1]) ++ List.replicate (3 - (lg_sl ([.int p0, .int p1])).length) Slot.unset).toArray = ls at hl ⊢
  replace hl : lv_has ls 3 [(0, .int p0), (1, .int p1)] := hl
  refine w_gen (fun Q hQ => ?_)
  refine lv_iload_n hx hb dJ9_floorMod_7cf53_0 rfl (lv_at hl 0 rfl) ?_
  refine lv_iload_n hx hb dJ9_floorMod_7cf53_1 rfl (lv_at hl 1 rfl) ?_
  obtain ⟨n1, h⟩ := gx_nz h
  refine lv_irem hx hb dJ9_floorMod_7cf53_2 n1 ?_
  obtain ⟨v2, ev2, h⟩ := gx_let h
  refine lv_topn ev2 ?_
  refine lv_istore_n (lv' := [(2, .int v2), (0, .int p0), (1, .int p1)]) hx hb dJ9_floorMod_7cf53_3 rfl hl (by decide) rfl (fun ls hl => ?_)
  refine lv_iload_n hx hb dJ9_floorMod_7cf53_4 rfl (lv_at hl 1 rfl) ?_
  refine lv_iload_n hx hb dJ9_floorMod_7cf53_5 rfl (lv_at hl 2 rfl) ?_
  refine lv_ixor hx hb dJ9_floorMod_7cf53_6 ?_
  refine lv_if_ge (tgt := 18) hx hb dJ9_floorMod_7cf53_7 (by decide) (fun c3 => ?_) (fun c3 => ?_)
  · replace h := gx_t c3 h
    refine lv_iload_n hx hb dJ9_floorMod_7cf53_18 rfl (lv_at hl 0 rfl) ?_
    cases h
    exact cc_ret hx hb hr rfl hQ hK hP hD hS rfl dJ9_floorMod_7cf53_19 hlocks
  · replace h := gx_f c3 h
    refine lv_iload_n hx hb dJ9_floorMod_7cf53_10 rfl (lv_at hl 0 rfl) ?_
    refine lv_if_eq (tgt := 18) hx hb dJ9_floorMod_7cf53_11 (by decide) (fun c4 => ?_) (fun c4 => ?_)
    · replace h := gx_t c4 h
      refine lv_iload_n hx hb dJ9_floorMod_7cf53_18 rfl (lv_at hl 0 rfl) ?_
      cases h
      exact cc_ret hx hb hr rfl hQ hK hP hD hS rfl dJ9_floorMod_7cf53_19 hlocks
    · replace h := gx_f c4 h
      refine lv_iload_n hx hb dJ9_floorMod_7cf53_14 rfl (lv_at hl 0 rfl) ?_
      refine lv_iload_n hx hb dJ9_floorMod_7cf53_15 rfl (lv_at hl 2 rfl) ?_
      refine lv_iadd hx hb dJ9_floorMod_7cf53_16 ?_
      cases h
      exact cc_ret hx hb hr rfl hQ hK hP hD hS rfl dJ9_floorMod_7cf53_17 hlocks

def rX5_slotOf : Room := { frames := 1, cells := 0, slots := 0, locals := 22 }
set_option maxHeartbeats 4000000 in
set_option maxRecDepth 100000 in
theorem k_X5_slotOf (l : Launch) (D : va_G) (cI cZ : ClassId) (ad : Nat → Nat) (u : GS) (p0 : Int32) (p1 : Int32) {r : Int32} (h : g_X5_slotOf p0 p1 = some r) : MI l yX5_slotOf (wm yX5_slotOf cX5_slotOf 2 (some .int)) rX5_slotOf D [(cI, .int), (cZ, .boolean)] (wC cI cZ ad u) (wC cI cZ ad u) [.int p0, .int p1] r := by
  intro sz
  refine Met.ofW (cc := cX5_slotOf) (maxL := 2) (ret := (some .int)) (by decide) rfl ?_
  intro p e s m args below meth c s₁ B hml hv
  obtain ⟨rfl, hsz, hP, hK, hD0, hZ⟩ := hv
  have hx := B.exec
  have hb := B.bytes
  have hr := B.returns
  have hts : ∀ w ∈ Wall, w.before _ s = true := fun w hw => atoms_spec (ws := wm yX5_slotOf cX5_slotOf 2 (some .int)) B.pre w (List.mem_cons_of_mem _ hw)
  have hown : s.vm.findClass RX5 = some m.cls := findClass_of_methodNamed B.named
  have hlocks := B.notSynchronized
  subst hsz
  have hD := hD0.self (sz := s.heap.size)
  generalize hAe : va_A (wC cI cZ ad u) s.heap.size = A at hD hZ ⊢
  have hA : ∀ q : Nat, s.heap.size ≤ q → A q := fun q h => by rw [← hAe]; exact Or.inr h
  have hS : va_S A s.heap s.heap [] := va_S.rf
  have hl := lv_entry ([.int p0, .int p1]) (n := 2) (Nat.le_of_ble_eq_true rfl)
  rw [lg_entry_eq]
  generalize (lg_sl ([.int p0, .int p1]) ++ List.replicate (2 - (lg_sl ([.int p0, .int p1])).length) Slot.unset).toArray = ls at hl ⊢
  replace hl : lv_has ls 2 [(0, .int p0), (1, .int p1)] := hl
  refine w_gen (fun Q hQ => ?_)
  refine lv_iload_n hx hb dX5_slotOf_0 rfl (lv_at hl 0 rfl) ?_
  refine lv_bipush (v := 60) hx hb dX5_slotOf_1 (by decide) ?_
  obtain ⟨y1, hc2, h⟩ := gx_bind h
  refine cc_iS (As := [.int p0, .int (60 : Int32)]) (rest := []) ⟨hx, hb, hml, hown, hts⟩ (k_J9_floorMod_7cf53 l D cI cZ ad u p0 (60 : Int32) hc2) (va_cwS 2 hts (gwS mw_301 mw_302 mw_58 mw_303) rfl rfl rfl (by decide +kernel) ⟨Nat.le_of_ble_eq_true rfl, Nat.le_of_ble_eq_true rfl⟩) hK hP hD hS hA hZ rfl hl.1 rfl (Nat.le_of_ble_eq_true rfl) dX5_slotOf_3 ⟨Nat.zero_le _, Nat.zero_le _⟩ (fun H locs hP hD hS => ?_)
  refine lv_bipush (v := 12) hx hb dX5_slotOf_6 (by decide) ?_
  refine lv_imul hx hb dX5_slotOf_8 ?_
  refine lv_iload_n hx hb dX5_slotOf_9 rfl (lv_at hl 1 rfl) ?_
  refine lv_iadd hx hb dX5_slotOf_10 ?_
  cases h
  exact cc_ret hx hb hr rfl hQ hK hP hD hS rfl dX5_slotOf_11 hlocks

def rX5_keep : Room := { frames := 2, cells := 0, slots := 0, locals := 43 }
set_option maxHeartbeats 4000000 in
set_option maxRecDepth 100000 in
theorem k_X5_keep (l : Launch) (D : va_G) (cI cZ : ClassId) (ad : Nat → Nat) (u : GS) (p0 : Int32) {w' : GS} (h : g_X5_keep u p0 = some w') : MV l yX5_keep (wm yX5_keep cX5_keep 7 none) rX5_keep D [(cI, .int), (cZ, .boolean)] (wC cI cZ ad u) (wC cI cZ ad w') [.ref (ad 9), .int p0, .ref (ad 16), .ref (ad 20)] := by
  intro sz
  refine Met.ofW (cc := cX5_keep) (maxL := 7) (ret := none) (by decide) rfl ?_
  intro p e s m args below meth c s₁ B hml hv
  obtain ⟨rfl, hsz, hP, hK, hD0, hZ⟩ := hv
  have hx := B.exec
  have hb := B.bytes
  have hr := B.returns
  have hts : ∀ w ∈ Wall, w.before _ s = true := fun w hw => atoms_spec (ws := wm yX5_keep cX5_keep 7 none) B.pre w (List.mem_cons_of_mem _ hw)
  have hown : s.vm.findClass RX5 = some m.cls := findClass_of_methodNamed B.named
  have hlocks := B.notSynchronized
  subst hsz
  have hD := hD0.self (sz := s.heap.size)
  generalize hAe : va_A (wC cI cZ ad u) s.heap.size = A at hD hZ ⊢
  have hA : ∀ q : Nat, s.heap.size ≤ q → A q := fun q h => by rw [← hAe]; exact Or.inr h
  have hS : va_S A s.heap s.heap [] := va_S.rf
  have hf11 := hts _ mw_253
  have hl := lv_entry ([.ref (ad 9), .int p0, .ref (ad 16), .ref (ad 20)]) (n := 7) (Nat.le_of_ble_eq_true rfl)
  rw [lg_entry_eq]
  generalize (lg_sl ([.ref (ad 9), .int p0, .ref (ad 16), .ref (ad 20)]) ++ List.replicate (7 - (lg_sl ([.ref (ad 9), .int p0, .ref (ad 16), .ref (ad 20)])).length) Slot.unset).toArray = ls at hl ⊢
  replace hl : lv_has ls 7 [(0, .ref (ad 9)), (1, .int p0), (2, .ref (ad 16)), (3, .ref (ad 20))] := hl
  refine w_gen (fun Q hQ => ?_)
  refine lv_iconst (v := 0) hx hb dX5_keep_0 (by decide) ?_
  refine lv_istore (lv' := [(4, .int (0 : Int32)), (0, .ref (ad 9)), (1, .int p0), (2, .ref (ad 16)), (3, .ref (ad 20))]) hx hb dX5_keep_1 hl (by decide) rfl (fun ls hl => ?_)
  have hL3 : ∀ (k : GS → Option (GS)) (hk : ∀ (w3 : GS) (H : Heap) (locs : List Loc) (ls : Array Slot), k w3 = some w' → va_P D vwCl (wC cI cZ ad w3) H → va_D A (wC cI cZ ad w3) → va_S A s.heap H locs → lv_has ls 7 [] → W p l e rX5_keep s m ([.ref (ad 9), .int p0, .ref (ad 16), .ref (ad 20)] : List Value).toArray below meth c H locs 0 0 Q (F0 m 65 ls [])) (n : Nat) (x4_3 : Int32) (w3 : GS) (H : Heap) (locs : List Loc) (ls : Array Slot), lp_X5_keep_3 p0 k n x4_3 w3 = some w' → va_P D vwCl (wC cI cZ ad w3) H → va_D A (wC cI cZ ad w3) → va_S A s.heap H locs → lv_has ls 7 [(0, .ref (ad 9)), (1, .int p0), (2, .ref (ad 16)), (3, .ref (ad 20)), (4, .int x4_3)] → W p l e rX5_keep s m ([.ref (ad 9), .int p0, .ref (ad 16), .ref (ad 20)] : List Value).toArray below meth c H locs 0 0 Q (F0 m 3 ls []) := by
    intro k hk n
    induction n with
    | zero =>
      intro x4_3 w3 H locs ls h
      rw [lp_X5_keep_3] at h
      cases h
    | succ n ih =>
      intro x4_3 w3 H locs ls h hP hD hS hl
      rw [lp_X5_keep_3] at h
      refine lv_iload hx hb dX5_keep_3 (lv_at hl 4 rfl) ?_
      refine lv_bipush (v := 12) hx hb dX5_keep_5 (by decide) ?_
      refine lv_icmp_ge (tgt := 65) hx hb dX5_keep_7 (by decide) (fun c1 => ?_) (fun c1 => ?_)
      · replace h := gx_t c1 h
        exact hk w3 _ _ _ h hP hD hS (lv_sub hl [] rfl)
      · replace h := gx_f c1 h
        refine lv_aload_n hx hb dX5_keep_10 rfl (lv_at hl 2 rfl) ?_
        refine lv_iload hx hb dX5_keep_11 (lv_at hl 4 rfl) ?_
        obtain ⟨b2, h⟩ := gx_in h
        refine va_iald (D := D) hx hb hK hP 16 0 rfl rfl b2 dX5_keep_13 ?_
        obtain ⟨v3, ev3, h⟩ := gx_let h
        refine lv_topn ev3 ?_
        refine lv_istore (lv' := [(5, .int v3), (0, .ref (ad 9)), (1, .int p0), (2, .ref (ad 16)), (3, .ref (ad 20)), (4, .int x4_3)]) hx hb dX5_keep_14 hl (by decide) rfl (fun ls hl => ?_)
        refine lv_iconst (v := 3) hx hb dX5_keep_16 (by decide) ?_
        refine lv_istore (lv' := [(6, .int (3 : Int32)), (5, .int v3), (0, .ref (ad 9)), (1, .int p0), (2, .ref (ad 16)), (3, .ref (ad 20)), (4, .int x4_3)]) hx hb dX5_keep_17 hl (by decide) rfl (fun ls hl => ?_)
        have hL19 : ∀ (k : Int32 → Option (GS)) (hk : ∀ (x5_19 : Int32) (H : Heap) (locs : List Loc) (ls : Array Slot), k x5_19 = some w' → va_P D vwCl (wC cI cZ ad w3) H → va_D A (wC cI cZ ad w3) → va_S A s.heap H locs → lv_has ls 7 [(0, .ref (ad 9)), (1, .int p0), (2, .ref (ad 16)), (3, .ref (ad 20)), (4, .int x4_3), (5, .int x5_19)] → W p l e rX5_keep s m ([.ref (ad 9), .int p0, .ref (ad 16), .ref (ad 20)] : List Value).toArray below meth c H locs 0 0 Q (F0 m 46 ls [])) (n : Nat) (x5_19 : Int32) (x6_19 : Int32) (H : Heap) (locs : List Loc) (ls : Array Slot), lp_X5_keep_19 x4_3 w3 k n x5_19 x6_19 = some w' → va_P D vwCl (wC cI cZ ad w3) H → va_D A (wC cI cZ ad w3) → va_S A s.heap H locs → lv_has ls 7 [(0, .ref (ad 9)), (1, .int p0), (2, .ref (ad 16)), (3, .ref (ad 20)), (4, .int x4_3), (5, .int x5_19), (6, .int x6_19)] → W p l e rX5_keep s m ([.ref (ad 9), .int p0, .ref (ad 16), .ref (ad 20)] : List Value).toArray below meth c H locs 0 0 Q (F0 m 19 ls []) := by
          intro k hk n
          induction n with
          | zero =>
            intro x5_19 x6_19 H locs ls h
            rw [lp_X5_keep_19] at h
            cases h
          | succ n ih =>
            intro x5_19 x6_19 H locs ls h hP hD hS hl
            rw [lp_X5_keep_19] at h
            refine lv_iload hx hb dX5_keep_19 (lv_at hl 6 rfl) ?_
            refine lv_if_lt (tgt := 46) hx hb dX5_keep_21 (by decide) (fun c4 => ?_) (fun c4 => ?_)
            · replace h := gx_t c4 h
              exact hk x5_19 _ _ _ h hP hD hS (lv_sub hl [0, 1, 2, 3, 4, 5] rfl)
            · replace h := gx_f c4 h
              refine lv_iload hx hb dX5_keep_24 (lv_at hl 5 rfl) ?_
              refine lv_iconst (v := 4) hx hb dX5_keep_26 (by decide) ?_
              refine lv_imul hx hb dX5_keep_27 ?_
              refine lv_aload_n hx hb dX5_keep_28 rfl (lv_at hl 3 rfl) ?_
              refine lv_iload hx hb dX5_keep_29 (lv_at hl 4 rfl) ?_
              refine lv_iload hx hb dX5_keep_31 (lv_at hl 6 rfl) ?_
              obtain ⟨y5, hc6, h⟩ := gx_bind h
              refine cc_iSN (As := [.int x4_3, .int x6_19]) (rest := [.ref (ad 20), .int (x5_19 * (4 : Int32))]) ⟨hx, hb, hml, hown, hts⟩ (k_X9_placeOf l D cI cZ ad w3 x4_3 x6_19 hc6) ⟨va_cnB 2 hts (gwM mw_267) rfl rfl rfl (hZ.1 ("RedcrossGantry$Proofs", 19, yX9_placeOf) (by decide +kernel)) (hts _ mw_48) (by decide +kernel) ⟨Nat.le_of_ble_eq_true rfl, Nat.le_of_ble_eq_true rfl⟩, hts _ mw_266, trivial⟩ hK hP hD hS hA hZ rfl hl.1 rfl (Nat.le_of_ble_eq_true rfl) dX5_keep_33 ⟨Nat.zero_le _, Nat.zero_le _⟩ (fun H locs hP hD hS => ?_)
              obtain ⟨b7, h⟩ := gx_in h
              refine va_iald (D := D) hx hb hK hP 20 0 rfl rfl b7 dX5_keep_36 ?_
              refine lv_iadd hx hb dX5_keep_37 ?_
              obtain ⟨v8, ev8, h⟩ := gx_let h
              refine lv_topn ev8 ?_
              refine lv_istore (lv' := [(5, .int v8), (0, .ref (ad 9)), (1, .int p0), (2, .ref (ad 16)), (3, .ref (ad 20)), (4, .int x4_3), (6, .int x6_19)]) hx hb dX5_keep_38 hl (by decide) rfl (fun ls hl => ?_)
              obtain ⟨v9, ev9, h⟩ := gx_let h
              refine lv_iinc (v := v9) (lv' := [(6, .int v9), (5, .int v8), (0, .ref (ad 9)), (1, .int p0), (2, .ref (ad 16)), (3, .ref (ad 20)), (4, .int x4_3)]) hx hb dX5_keep_40 hl (k := 6) rfl (by rw [← ev9]; rfl) (by decide) rfl (fun ls hl => ?_)
              refine lv_goto (tgt := 19) hx hb dX5_keep_43 (by decide) ?_
              exact ih v8 v9 _ _ _ h hP hD hS (lv_sub hl [2, 3, 4, 5, 6, 1, 0] rfl)
        refine hL19 _ (fun x5_19 H locs ls h hP hD hS hl => ?_) FU v3 (3 : Int32) _ _ _ h hP hD hS (lv_sub hl [2, 3, 4, 5, 6, 1, 0] rfl)
        refine lv_aload_n hx hb dX5_keep_46 rfl (lv_at hl 0 rfl) ?_
        refine va_get (D := D) (ci := 5) (v := .ref (ad 34)) (C := RX5) (T := TX5) (N := 1) hx hb hts iX5 hown hK hP 9 rfl rfl 0 (by decide) hf11 (fun _ h9 => h9) rfl dX5_keep_47 ?_
        refine lv_iload_n hx hb dX5_keep_50 rfl (lv_at hl 1 rfl) ?_
        refine lv_iload hx hb dX5_keep_51 (lv_at hl 4 rfl) ?_
        obtain ⟨y10, hc11, h⟩ := gx_bind h
        refine cc_iS (As := [.int p0, .int x4_3]) (rest := [.ref (ad 34)]) ⟨hx, hb, hml, hown, hts⟩ (k_X5_slotOf l D cI cZ ad w3 p0 x4_3 hc11) (va_cwS 2 hts (gwS mw_298 mw_299 mw_57 mw_300) rfl rfl rfl (by decide +kernel) ⟨Nat.le_of_ble_eq_true rfl, Nat.le_of_ble_eq_true rfl⟩) hK hP hD hS hA hZ rfl hl.1 rfl (Nat.le_of_ble_eq_true rfl) dX5_keep_53 ⟨Nat.zero_le _, Nat.zero_le _⟩ (fun H locs hP hD hS => ?_)
        refine lv_iload hx hb dX5_keep_56 (lv_at hl 5 rfl) ?_
        obtain ⟨b12, h⟩ := gx_in h
        refine va_iast (D := D) hx hb hK hP hD hS 34 0 rfl rfl b12 dX5_keep_58 (fun H locs hP hD hS => ?_)
        obtain ⟨u13, eu13, h⟩ := gx_let h
        replace hP : va_P D vwCl (wC cI cZ ad u13) H := by rw [← eu13]; exact hP
        replace hD : va_D A (wC cI cZ ad u13) := by rw [← eu13]; exact hD
        obtain ⟨v14, ev14, h⟩ := gx_let h
        refine lv_iinc (v := v14) (lv' := [(4, .int v14), (0, .ref (ad 9)), (1, .int p0), (2, .ref (ad 16)), (3, .ref (ad 20)), (5, .int x5_19)]) hx hb dX5_keep_59 hl (k := 4) rfl (by rw [← ev14]; rfl) (by decide) rfl (fun ls hl => ?_)
        refine lv_goto (tgt := 3) hx hb dX5_keep_62 (by decide) ?_
        exact ih v14 u13 _ _ _ h hP hD hS (lv_sub hl [1, 2, 3, 4, 0] rfl)
  refine hL3 _ (fun w3 H locs ls h hP hD hS hl => ?_) FU (0 : Int32) u _ _ _ h hP hD hS (lv_sub hl [1, 2, 3, 4, 0] rfl)
  cases h
  exact cc_vret hx hb hr hQ hK hP hD hS dX5_keep_65 hlocks

def rX5_speedSign : Room := { frames := 2, cells := 0, slots := 0, locals := 43 }
set_option maxHeartbeats 4000000 in
set_option maxRecDepth 100000 in
theorem k_X5_speedSign (l : Launch) (D : va_G) (cI cZ : ClassId) (ad : Nat → Nat) (u : GS) (p0 : Int32) (p1 : Int32) {r : Int32} (h : g_X5_speedSign u p0 p1 = some r) : MI l yX5_speedSign (wm yX5_speedSign cX5_speedSign 3 (some .int)) rX5_speedSign D [(cI, .int), (cZ, .boolean)] (wC cI cZ ad u) (wC cI cZ ad u) [.ref (ad 9), .int p0, .int p1] r := by
  intro sz
  refine Met.ofW (cc := cX5_speedSign) (maxL := 3) (ret := (some .int)) (by decide) rfl ?_
  intro p e s m args below meth c s₁ B hml hv
  obtain ⟨rfl, hsz, hP, hK, hD0, hZ⟩ := hv
  have hx := B.exec
  have hb := B.bytes
  have hr := B.returns
  have hts : ∀ w ∈ Wall, w.before _ s = true := fun w hw => atoms_spec (ws := wm yX5_speedSign cX5_speedSign 3 (some .int)) B.pre w (List.mem_cons_of_mem _ hw)
  have hown : s.vm.findClass RX5 = some m.cls := findClass_of_methodNamed B.named
  have hlocks := B.notSynchronized
  subst hsz
  have hD := hD0.self (sz := s.heap.size)
  generalize hAe : va_A (wC cI cZ ad u) s.heap.size = A at hD hZ ⊢
  have hA : ∀ q : Nat, s.heap.size ≤ q → A q := fun q h => by rw [← hAe]; exact Or.inr h
  have hS : va_S A s.heap s.heap [] := va_S.rf
  have hf11 := hts _ mw_253
  have hl := lv_entry ([.ref (ad 9), .int p0, .int p1]) (n := 3) (Nat.le_of_ble_eq_true rfl)
  rw [lg_entry_eq]
  generalize (lg_sl ([.ref (ad 9), .int p0, .int p1]) ++ List.replicate (3 - (lg_sl ([.ref (ad 9), .int p0, .int p1])).length) Slot.unset).toArray = ls at hl ⊢
  replace hl : lv_has ls 3 [(0, .ref (ad 9)), (1, .int p0), (2, .int p1)] := hl
  refine w_gen (fun Q hQ => ?_)
  refine lv_aload_n hx hb dX5_speedSign_0 rfl (lv_at hl 0 rfl) ?_
  refine va_get (D := D) (ci := 5) (v := .ref (ad 34)) (C := RX5) (T := TX5) (N := 1) hx hb hts iX5 hown hK hP 9 rfl rfl 0 (by decide) hf11 (fun _ h9 => h9) rfl dX5_speedSign_1 ?_
  refine lv_iload_n hx hb dX5_speedSign_4 rfl (lv_at hl 1 rfl) ?_
  refine lv_iload_n hx hb dX5_speedSign_5 rfl (lv_at hl 2 rfl) ?_
  obtain ⟨y1, hc2, h⟩ := gx_bind h
  refine cc_iS (As := [.int p0, .int p1]) (rest := [.ref (ad 34)]) ⟨hx, hb, hml, hown, hts⟩ (k_X5_slotOf l D cI cZ ad u p0 p1 hc2) (va_cwS 2 hts (gwS mw_298 mw_299 mw_57 mw_300) rfl rfl rfl (by decide +kernel) ⟨Nat.le_of_ble_eq_true rfl, Nat.le_of_ble_eq_true rfl⟩) hK hP hD hS hA hZ rfl hl.1 rfl (Nat.le_of_ble_eq_true rfl) dX5_speedSign_6 ⟨Nat.zero_le _, Nat.zero_le _⟩ (fun H locs hP hD hS => ?_)
  obtain ⟨b3, h⟩ := gx_in h
  refine va_iald (D := D) hx hb hK hP 34 0 rfl rfl b3 dX5_speedSign_9 ?_
  refine lv_bipush (v := 8) hx hb dX5_speedSign_10 (by decide) ?_
  refine lv_ishr hx hb dX5_speedSign_12 ?_
  cases h
  exact cc_ret hx hb hr rfl hQ hK hP hD hS rfl dX5_speedSign_13 hlocks

def rX5_laneSign : Room := { frames := 2, cells := 0, slots := 0, locals := 43 }
set_option maxHeartbeats 4000000 in
set_option maxRecDepth 100000 in
theorem k_X5_laneSign (l : Launch) (D : va_G) (cI cZ : ClassId) (ad : Nat → Nat) (u : GS) (p0 : Int32) (p1 : Int32) (p2 : Int32) {r : Int32} (h : g_X5_laneSign u p0 p1 p2 = some r) : MI l yX5_laneSign (wm yX5_laneSign cX5_laneSign 4 (some .int)) rX5_laneSign D [(cI, .int), (cZ, .boolean)] (wC cI cZ ad u) (wC cI cZ ad u) [.ref (ad 9), .int p0, .int p1, .int p2] r := by
  intro sz
  refine Met.ofW (cc := cX5_laneSign) (maxL := 4) (ret := (some .int)) (by decide) rfl ?_
  intro p e s m args below meth c s₁ B hml hv
  obtain ⟨rfl, hsz, hP, hK, hD0, hZ⟩ := hv
  have hx := B.exec
  have hb := B.bytes
  have hr := B.returns
  have hts : ∀ w ∈ Wall, w.before _ s = true := fun w hw => atoms_spec (ws := wm yX5_laneSign cX5_laneSign 4 (some .int)) B.pre w (List.mem_cons_of_mem _ hw)
  have hown : s.vm.findClass RX5 = some m.cls := findClass_of_methodNamed B.named
  have hlocks := B.notSynchronized
  subst hsz
  have hD := hD0.self (sz := s.heap.size)
  generalize hAe : va_A (wC cI cZ ad u) s.heap.size = A at hD hZ ⊢
  have hA : ∀ q : Nat, s.heap.size ≤ q → A q := fun q h => by rw [← hAe]; exact Or.inr h
  have hS : va_S A s.heap s.heap [] := va_S.rf
  have hf11 := hts _ mw_253
  have hl := lv_entry ([.ref (ad 9), .int p0, .int p1, .int p2]) (n := 4) (Nat.le_of_ble_eq_true rfl)
  rw [lg_entry_eq]
  generalize (lg_sl ([.ref (ad 9), .int p0, .int p1, .int p2]) ++ List.replicate (4 - (lg_sl ([.ref (ad 9), .int p0, .int p1, .int p2])).length) Slot.unset).toArray = ls at hl ⊢
  replace hl : lv_has ls 4 [(0, .ref (ad 9)), (1, .int p0), (2, .int p1), (3, .int p2)] := hl
  refine w_gen (fun Q hQ => ?_)
  refine lv_aload_n hx hb dX5_laneSign_0 rfl (lv_at hl 0 rfl) ?_
  refine va_get (D := D) (ci := 5) (v := .ref (ad 34)) (C := RX5) (T := TX5) (N := 1) hx hb hts iX5 hown hK hP 9 rfl rfl 0 (by decide) hf11 (fun _ h9 => h9) rfl dX5_laneSign_1 ?_
  refine lv_iload_n hx hb dX5_laneSign_4 rfl (lv_at hl 1 rfl) ?_
  refine lv_iload_n hx hb dX5_laneSign_5 rfl (lv_at hl 2 rfl) ?_
  obtain ⟨y1, hc2, h⟩ := gx_bind h
  refine cc_iS (As := [.int p0, .int p1]) (rest := [.ref (ad 34)]) ⟨hx, hb, hml, hown, hts⟩ (k_X5_slotOf l D cI cZ ad u p0 p1 hc2) (va_cwS 2 hts (gwS mw_298 mw_299 mw_57 mw_300) rfl rfl rfl (by decide +kernel) ⟨Nat.le_of_ble_eq_true rfl, Nat.le_of_ble_eq_true rfl⟩) hK hP hD hS hA hZ rfl hl.1 rfl (Nat.le_of_ble_eq_true rfl) dX5_laneSign_6 ⟨Nat.zero_le _, Nat.zero_le _⟩ (fun H locs hP hD hS => ?_)
  obtain ⟨b3, h⟩ := gx_in h
  refine va_iald (D := D) hx hb hK hP 34 0 rfl rfl b3 dX5_laneSign_9 ?_
  refine lv_iconst (v := 2) hx hb dX5_laneSign_10 (by decide) ?_
  refine lv_iload_n hx hb dX5_laneSign_11 rfl (lv_at hl 3 rfl) ?_
  refine lv_imul hx hb dX5_laneSign_12 ?_
  refine lv_ishr hx hb dX5_laneSign_13 ?_
  refine lv_iconst (v := 3) hx hb dX5_laneSign_14 (by decide) ?_
  refine lv_iand hx hb dX5_laneSign_15 ?_
  cases h
  exact cc_ret hx hb hr rfl hQ hK hP hD hS rfl dX5_laneSign_16 hlocks

def rX6_isOpenAt : Room := { frames := 1, cells := 0, slots := 0, locals := 22 }
set_option maxHeartbeats 4000000 in
set_option maxRecDepth 100000 in
theorem k_X6_isOpenAt (l : Launch) (D : va_G) (cI cZ : ClassId) (ad : Nat → Nat) (u : GS) (p0 : Int32) {r : Int32} (h : g_X6_isOpenAt u p0 = some r) : MI l yX6_isOpenAt (wm yX6_isOpenAt cX6_isOpenAt 2 (some .boolean)) rX6_isOpenAt D [(cI, .int), (cZ, .boolean)] (wC cI cZ ad u) (wC cI cZ ad u) [.ref (ad 5), .int p0] r := by
  intro sz
  refine Met.ofW (cc := cX6_isOpenAt) (maxL := 2) (ret := (some .boolean)) (by decide) rfl ?_
  intro p e s m args below meth c s₁ B hml hv
  obtain ⟨rfl, hsz, hP, hK, hD0, hZ⟩ := hv
  have hx := B.exec
  have hb := B.bytes
  have hr := B.returns
  have hts : ∀ w ∈ Wall, w.before _ s = true := fun w hw => atoms_spec (ws := wm yX6_isOpenAt cX6_isOpenAt 2 (some .boolean)) B.pre w (List.mem_cons_of_mem _ hw)
  have hown : s.vm.findClass RX6 = some m.cls := findClass_of_methodNamed B.named
  have hlocks := B.notSynchronized
  subst hsz
  have hD := hD0.self (sz := s.heap.size)
  generalize hAe : va_A (wC cI cZ ad u) s.heap.size = A at hD hZ ⊢
  have hA : ∀ q : Nat, s.heap.size ≤ q → A q := fun q h => by rw [← hAe]; exact Or.inr h
  have hS : va_S A s.heap s.heap [] := va_S.rf
  have hf9 := hts _ mw_172
  have hl := lv_entry ([.ref (ad 5), .int p0]) (n := 2) (Nat.le_of_ble_eq_true rfl)
  rw [lg_entry_eq]
  generalize (lg_sl ([.ref (ad 5), .int p0]) ++ List.replicate (2 - (lg_sl ([.ref (ad 5), .int p0])).length) Slot.unset).toArray = ls at hl ⊢
  replace hl : lv_has ls 2 [(0, .ref (ad 5)), (1, .int p0)] := hl
  refine w_gen (fun Q hQ => ?_)
  refine lv_iload_n hx hb dX6_isOpenAt_0 rfl (lv_at hl 1 rfl) ?_
  refine lv_iconst (v := 0) hx hb dX6_isOpenAt_1 (by decide) ?_
  refine lv_bipush (v := 11) hx hb dX6_isOpenAt_2 (by decide) ?_
  obtain ⟨y1, hc2, h⟩ := gx_bind h
  refine cc_iSN (As := [.int p0, .int (0 : Int32), .int (11 : Int32)]) (rest := []) ⟨hx, hb, hml, hown, hts⟩ (k_X9_isWithin l D cI cZ ad u p0 (0 : Int32) (11 : Int32) hc2) ⟨va_cnB 3 hts (gwM mw_274) rfl rfl rfl (hZ.1 ("RedcrossGantry$Shoulder", 19, yX9_isWithin) (by decide +kernel)) (hts _ mw_48) (by decide +kernel) ⟨Nat.le_of_ble_eq_true rfl, Nat.le_of_ble_eq_true rfl⟩, hts _ mw_273, trivial⟩ hK hP hD hS hA hZ rfl hl.1 rfl (Nat.le_of_ble_eq_true rfl) dX6_isOpenAt_4 ⟨Nat.zero_le _, Nat.zero_le _⟩ (fun H locs hP hD hS => ?_)
  refine lv_if_eq (tgt := 23) hx hb dX6_isOpenAt_7 (by decide) (fun c3 => ?_) (fun c3 => ?_)
  · replace h := gx_t c3 h
    refine lv_iconst (v := 0) hx hb dX6_isOpenAt_23 (by decide) ?_
    cases h
    exact cc_ret hx hb hr rfl hQ hK hP hD hS rfl dX6_isOpenAt_24 hlocks
  · replace h := gx_f c3 h
    refine lv_aload_n hx hb dX6_isOpenAt_10 rfl (lv_at hl 0 rfl) ?_
    refine va_get (D := D) (ci := 6) (v := .ref (ad 21)) (C := RX6) (T := TX6) (N := 2) hx hb hts iX6 hown hK hP 5 rfl rfl 0 (by decide) hf9 (fun _ h9 => h9) rfl dX6_isOpenAt_11 ?_
    refine lv_iload_n hx hb dX6_isOpenAt_14 rfl (lv_at hl 1 rfl) ?_
    obtain ⟨b4, h⟩ := gx_in h
    refine va_zald (D := D) hx hb hK hP 21 1 rfl rfl b4 dX6_isOpenAt_15 ?_
    refine lv_if_eq (tgt := 23) hx hb dX6_isOpenAt_16 (by decide) (fun c5 => ?_) (fun c5 => ?_)
    · replace h := gx_t c5 h
      refine lv_iconst (v := 0) hx hb dX6_isOpenAt_23 (by decide) ?_
      cases h
      exact cc_ret hx hb hr rfl hQ hK hP hD hS rfl dX6_isOpenAt_24 hlocks
    · replace h := gx_f c5 h
      refine lv_iconst (v := 1) hx hb dX6_isOpenAt_19 (by decide) ?_
      refine lv_goto (tgt := 24) hx hb dX6_isOpenAt_20 (by decide) ?_
      cases h
      exact cc_ret hx hb hr rfl hQ hK hP hD hS rfl dX6_isOpenAt_24 hlocks
